section
-- ===== PART A: goes FIRST, ahead of the names: the tables' words, and 'selects' of the private methods out of them =====
/-- a private method of a class that the tables say can be made, by its rows of tables_1 -/
def lw_okq (q : MethodName × Nat) : Prop := (q.1.cls ≠ "java/lang/invoke/MethodHandle" ∧ q.1.cls ≠ "java/lang/invoke/VarHandle") ∧ Cond.instantiable q.1.cls q.2 ∈ tables_1 ∧ Cond.privateMethod q.1 ∈ tables_1 ∧ Cond.instanceMethod q.1 ∈ tables_1
theorem lw_p0 : lw_okq (⟨"PairedWords$Patterns", "skipStarred", "(I)I"⟩, 6) := ⟨⟨by decide +kernel, by decide +kernel⟩, List.mem_of_getElem? (i := 52) (by decide +kernel), List.mem_of_getElem? (i := 325) (by decide +kernel), List.mem_of_getElem? (i := 326) (by decide +kernel)⟩
theorem lw_p1 : lw_okq (⟨"java/lang/Throwable", "fillInStackTrace", "(I)Ljava/lang/Throwable;"⟩, 6) := ⟨⟨by decide +kernel, by decide +kernel⟩, List.mem_of_getElem? (i := 512) (by decide +kernel), List.mem_of_getElem? (i := 510) (by decide +kernel), List.mem_of_getElem? (i := 511) (by decide +kernel)⟩
theorem lw_p2 : lw_okq (⟨"PairedWords$Patterns", "lowerElements", "(I)V"⟩, 6) := ⟨⟨by decide +kernel, by decide +kernel⟩, List.mem_of_getElem? (i := 52) (by decide +kernel), List.mem_of_getElem? (i := 656) (by decide +kernel), List.mem_of_getElem? (i := 657) (by decide +kernel)⟩
theorem lw_p3 : lw_okq (⟨"PairedWords$Lexicon", "goOn", "(IILPairedWords$Line;LPairedWords$Comparison;LPairedWords$Results;)V"⟩, 6) := ⟨⟨by decide +kernel, by decide +kernel⟩, List.mem_of_getElem? (i := 109) (by decide +kernel), List.mem_of_getElem? (i := 733) (by decide +kernel), List.mem_of_getElem? (i := 734) (by decide +kernel)⟩
theorem lw_p4 : lw_okq (⟨"PairedWords$Lexicon", "put", "(IILPairedWords$Line;LPairedWords$Comparison;LPairedWords$Results;)V"⟩, 6) := ⟨⟨by decide +kernel, by decide +kernel⟩, List.mem_of_getElem? (i := 109) (by decide +kernel), List.mem_of_getElem? (i := 742) (by decide +kernel), List.mem_of_getElem? (i := 743) (by decide +kernel)⟩
theorem lw_p5 : lw_okq (⟨"PairedWords$Results", "digitOf", "(II)I"⟩, 3) := ⟨⟨by decide +kernel, by decide +kernel⟩, List.mem_of_getElem? (i := 168) (by decide +kernel), List.mem_of_getElem? (i := 781) (by decide +kernel), List.mem_of_getElem? (i := 782) (by decide +kernel)⟩
theorem lw_p6 : lw_okq (⟨"PairedWordsModel", "noSign", "(II)Z"⟩, 42) := ⟨⟨by decide +kernel, by decide +kernel⟩, List.mem_of_getElem? (i := 819) (by decide +kernel), List.mem_of_getElem? (i := 961) (by decide +kernel), List.mem_of_getElem? (i := 962) (by decide +kernel)⟩
theorem lw_p7 : lw_okq (⟨"PairedWordsModel", "noRule", "(I)Z"⟩, 42) := ⟨⟨by decide +kernel, by decide +kernel⟩, List.mem_of_getElem? (i := 819) (by decide +kernel), List.mem_of_getElem? (i := 973) (by decide +kernel), List.mem_of_getElem? (i := 974) (by decide +kernel)⟩
theorem lw_p8 : lw_okq (⟨"PairedWordsModel", "take", "([IIIII)V"⟩, 42) := ⟨⟨by decide +kernel, by decide +kernel⟩, List.mem_of_getElem? (i := 819) (by decide +kernel), List.mem_of_getElem? (i := 1001) (by decide +kernel), List.mem_of_getElem? (i := 1002) (by decide +kernel)⟩
theorem lw_p9 : lw_okq (⟨"PairedWordsModel", "doBelong", "()Z"⟩, 42) := ⟨⟨by decide +kernel, by decide +kernel⟩, List.mem_of_getElem? (i := 819) (by decide +kernel), List.mem_of_getElem? (i := 1005) (by decide +kernel), List.mem_of_getElem? (i := 1006) (by decide +kernel)⟩
theorem lw_p10 : lw_okq (⟨"PairedWordsModel", "begin", "()V"⟩, 42) := ⟨⟨by decide +kernel, by decide +kernel⟩, List.mem_of_getElem? (i := 819) (by decide +kernel), List.mem_of_getElem? (i := 1009) (by decide +kernel), List.mem_of_getElem? (i := 1010) (by decide +kernel)⟩
theorem lw_p11 : lw_okq (⟨"PairedWordsModel", "nextAlignment", "(Z)Z"⟩, 42) := ⟨⟨by decide +kernel, by decide +kernel⟩, List.mem_of_getElem? (i := 819) (by decide +kernel), List.mem_of_getElem? (i := 1013) (by decide +kernel), List.mem_of_getElem? (i := 1014) (by decide +kernel)⟩
theorem lw_p12 : lw_okq (⟨"PairedWordsModel", "mayCome", "(IZ)Z"⟩, 42) := ⟨⟨by decide +kernel, by decide +kernel⟩, List.mem_of_getElem? (i := 819) (by decide +kernel), List.mem_of_getElem? (i := 1017) (by decide +kernel), List.mem_of_getElem? (i := 1018) (by decide +kernel)⟩
theorem lw_p13 : lw_okq (⟨"PairedWordsModel", "keepsAll", "()Z"⟩, 42) := ⟨⟨by decide +kernel, by decide +kernel⟩, List.mem_of_getElem? (i := 819) (by decide +kernel), List.mem_of_getElem? (i := 1021) (by decide +kernel), List.mem_of_getElem? (i := 1022) (by decide +kernel)⟩
theorem lw_p14 : lw_okq (⟨"PairedWordsModel", "isKept", "(I)Z"⟩, 42) := ⟨⟨by decide +kernel, by decide +kernel⟩, List.mem_of_getElem? (i := 819) (by decide +kernel), List.mem_of_getElem? (i := 1025) (by decide +kernel), List.mem_of_getElem? (i := 1026) (by decide +kernel)⟩
theorem lw_p15 : lw_okq (⟨"PairedWordsModel", "holds", "(II)Z"⟩, 42) := ⟨⟨by decide +kernel, by decide +kernel⟩, List.mem_of_getElem? (i := 819) (by decide +kernel), List.mem_of_getElem? (i := 1029) (by decide +kernel), List.mem_of_getElem? (i := 1030) (by decide +kernel)⟩
def lw_privs_1 : List (MethodName × Nat) := [(⟨"PairedWords$Patterns", "skipStarred", "(I)I"⟩, 6), (⟨"java/lang/Throwable", "fillInStackTrace", "(I)Ljava/lang/Throwable;"⟩, 6), (⟨"PairedWords$Patterns", "lowerElements", "(I)V"⟩, 6), (⟨"PairedWords$Lexicon", "goOn", "(IILPairedWords$Line;LPairedWords$Comparison;LPairedWords$Results;)V"⟩, 6), (⟨"PairedWords$Lexicon", "put", "(IILPairedWords$Line;LPairedWords$Comparison;LPairedWords$Results;)V"⟩, 6), (⟨"PairedWords$Results", "digitOf", "(II)I"⟩, 3), (⟨"PairedWordsModel", "noSign", "(II)Z"⟩, 42), (⟨"PairedWordsModel", "noRule", "(I)Z"⟩, 42), (⟨"PairedWordsModel", "take", "([IIIII)V"⟩, 42), (⟨"PairedWordsModel", "doBelong", "()Z"⟩, 42), (⟨"PairedWordsModel", "begin", "()V"⟩, 42), (⟨"PairedWordsModel", "nextAlignment", "(Z)Z"⟩, 42), (⟨"PairedWordsModel", "mayCome", "(IZ)Z"⟩, 42), (⟨"PairedWordsModel", "keepsAll", "()Z"⟩, 42), (⟨"PairedWordsModel", "isKept", "(I)Z"⟩, 42), (⟨"PairedWordsModel", "holds", "(II)Z"⟩, 42)]
theorem lw_r1 : ∀ q ∈ lw_privs_1, lw_okq q := List.forall_mem_cons.mpr ⟨lw_p0, List.forall_mem_cons.mpr ⟨lw_p1, List.forall_mem_cons.mpr ⟨lw_p2, List.forall_mem_cons.mpr ⟨lw_p3, List.forall_mem_cons.mpr ⟨lw_p4, List.forall_mem_cons.mpr ⟨lw_p5, List.forall_mem_cons.mpr ⟨lw_p6, List.forall_mem_cons.mpr ⟨lw_p7, List.forall_mem_cons.mpr ⟨lw_p8, List.forall_mem_cons.mpr ⟨lw_p9, List.forall_mem_cons.mpr ⟨lw_p10, List.forall_mem_cons.mpr ⟨lw_p11, List.forall_mem_cons.mpr ⟨lw_p12, List.forall_mem_cons.mpr ⟨lw_p13, List.forall_mem_cons.mpr ⟨lw_p14, List.forall_mem_cons.mpr ⟨lw_p15, fun _ h => absurd h List.not_mem_nil⟩⟩⟩⟩⟩⟩⟩⟩⟩⟩⟩⟩⟩⟩⟩⟩
theorem lw_p16 : lw_okq (⟨"PairedWordsModel", "isMatched", "(III)Z"⟩, 42) := ⟨⟨by decide +kernel, by decide +kernel⟩, List.mem_of_getElem? (i := 819) (by decide +kernel), List.mem_of_getElem? (i := 1033) (by decide +kernel), List.mem_of_getElem? (i := 1034) (by decide +kernel)⟩
theorem lw_p17 : lw_okq (⟨"PairedWordsModel", "isPart", "(III)Z"⟩, 42) := ⟨⟨by decide +kernel, by decide +kernel⟩, List.mem_of_getElem? (i := 819) (by decide +kernel), List.mem_of_getElem? (i := 1037) (by decide +kernel), List.mem_of_getElem? (i := 1038) (by decide +kernel)⟩
theorem lw_p18 : lw_okq (⟨"PairedWordsModel", "allIn", "(III)Z"⟩, 42) := ⟨⟨by decide +kernel, by decide +kernel⟩, List.mem_of_getElem? (i := 819) (by decide +kernel), List.mem_of_getElem? (i := 1041) (by decide +kernel), List.mem_of_getElem? (i := 1042) (by decide +kernel)⟩
theorem lw_p19 : lw_okq (⟨"PairedWordsModel", "inSet", "(II)Z"⟩, 42) := ⟨⟨by decide +kernel, by decide +kernel⟩, List.mem_of_getElem? (i := 819) (by decide +kernel), List.mem_of_getElem? (i := 1045) (by decide +kernel), List.mem_of_getElem? (i := 1046) (by decide +kernel)⟩
theorem lw_p20 : lw_okq (⟨"PairedWordsModel", "put", "()Z"⟩, 42) := ⟨⟨by decide +kernel, by decide +kernel⟩, List.mem_of_getElem? (i := 819) (by decide +kernel), List.mem_of_getElem? (i := 1057) (by decide +kernel), List.mem_of_getElem? (i := 1058) (by decide +kernel)⟩
theorem lw_p21 : lw_okq (⟨"PairedWordsModel", "order", "(II)I"⟩, 42) := ⟨⟨by decide +kernel, by decide +kernel⟩, List.mem_of_getElem? (i := 819) (by decide +kernel), List.mem_of_getElem? (i := 1061) (by decide +kernel), List.mem_of_getElem? (i := 1062) (by decide +kernel)⟩
theorem lw_p22 : lw_okq (⟨"PairedWordsModel", "finish", "()I"⟩, 42) := ⟨⟨by decide +kernel, by decide +kernel⟩, List.mem_of_getElem? (i := 819) (by decide +kernel), List.mem_of_getElem? (i := 1065) (by decide +kernel), List.mem_of_getElem? (i := 1066) (by decide +kernel)⟩
theorem lw_p23 : lw_okq (⟨"PairedWordsModel", "isFound", "(I)Z"⟩, 42) := ⟨⟨by decide +kernel, by decide +kernel⟩, List.mem_of_getElem? (i := 819) (by decide +kernel), List.mem_of_getElem? (i := 1073) (by decide +kernel), List.mem_of_getElem? (i := 1074) (by decide +kernel)⟩
def lw_privs_2 : List (MethodName × Nat) := [(⟨"PairedWordsModel", "isMatched", "(III)Z"⟩, 42), (⟨"PairedWordsModel", "isPart", "(III)Z"⟩, 42), (⟨"PairedWordsModel", "allIn", "(III)Z"⟩, 42), (⟨"PairedWordsModel", "inSet", "(II)Z"⟩, 42), (⟨"PairedWordsModel", "put", "()Z"⟩, 42), (⟨"PairedWordsModel", "order", "(II)I"⟩, 42), (⟨"PairedWordsModel", "finish", "()I"⟩, 42), (⟨"PairedWordsModel", "isFound", "(I)Z"⟩, 42)]
theorem lw_r2 : ∀ q ∈ lw_privs_2, lw_okq q := List.forall_mem_cons.mpr ⟨lw_p16, List.forall_mem_cons.mpr ⟨lw_p17, List.forall_mem_cons.mpr ⟨lw_p18, List.forall_mem_cons.mpr ⟨lw_p19, List.forall_mem_cons.mpr ⟨lw_p20, List.forall_mem_cons.mpr ⟨lw_p21, List.forall_mem_cons.mpr ⟨lw_p22, List.forall_mem_cons.mpr ⟨lw_p23, fun _ h => absurd h List.not_mem_nil⟩⟩⟩⟩⟩⟩⟩⟩
def lw_privs : List (MethodName × Nat) := lw_privs_1 ++ (lw_privs_2)
def lw_tbl : List Cond := k2_sels lw_privs ++ tables_1
theorem lw_privs_ok : ∀ q ∈ lw_privs, lw_okq q := by
  show ∀ q ∈ lw_privs_1 ++ (lw_privs_2), lw_okq q
  exact List.forall_mem_append.mpr ⟨lw_r1, lw_r2⟩
end
section
/-- a word that stays true while the tables grow warmer -/
def xwk (w : Cond) : Bool := (w.onTables && (w.keepsFace || w.keepsH)) || goodWord w || (match w with | .arrayOver (.object _) => true | _ => false)
def xTAB : List Cond := lw_tbl.filter xwk
theorem xin {w : Cond} (h : w ∈ tables_1) (hk : xwk w = true) : w ∈ xTAB := List.mem_filter.mpr ⟨List.mem_append_right _ h, hk⟩
theorem xinS {w : Cond} (h : w ∈ lw_tbl) (hk : xwk w = true) : w ∈ xTAB := List.mem_filter.mpr ⟨h, hk⟩
def RLine : String := "PairedWords$Line"
def TLine : u_T := fun k => match k with
  | 0 => ("PairedWords$Line", "signs", "[I", true)
  | _ => ("PairedWords$Line", "size", "I", false)
theorem nmLine : ∀ a, a < 2 → ∀ b, b < 2 → a ≠ b → (TLine a).2.1 ≠ (TLine b).2.1 := by decide +kernel
theorem fdLine : ∀ k, k < 2 → ∃ t, parseFieldDescriptor (TLine k).2.2.1 = some t := fun k hk => Option.isSome_iff_exists.mp ((by decide +kernel : ∀ k, k < 2 → (parseFieldDescriptor (TLine k).2.2.1).isSome = true) k hk)
theorem lyLine : ∀ w ∈ u_ws RLine TLine 2, w ∈ xTAB := by
  have h : u_ws RLine TLine 2 = [123, 125].filterMap (fun i => tables_1[i]?) := by decide +kernel
  have hk : (u_ws RLine TLine 2).all xwk = true := by decide +kernel
  intro w hw
  have h2 := List.all_eq_true.mp hk w hw
  rw [h] at hw
  obtain ⟨i, -, hi⟩ := List.mem_filterMap.mp hw
  exact xin (List.mem_of_getElem? hi) h2
def RPairs : String := "PairedWords$Pairs"
def TPairs : u_T := fun k => match k with
  | 0 => ("PairedWords$Pairs", "lowers", "[I", true)
  | 1 => ("PairedWords$Pairs", "uppers", "[I", true)
  | _ => ("PairedWords$Pairs", "count", "I", false)
theorem nmPairs : ∀ a, a < 3 → ∀ b, b < 3 → a ≠ b → (TPairs a).2.1 ≠ (TPairs b).2.1 := by decide +kernel
theorem fdPairs : ∀ k, k < 3 → ∃ t, parseFieldDescriptor (TPairs k).2.2.1 = some t := fun k hk => Option.isSome_iff_exists.mp ((by decide +kernel : ∀ k, k < 3 → (parseFieldDescriptor (TPairs k).2.2.1).isSome = true) k hk)
theorem lyPairs : ∀ w ∈ u_ws RPairs TPairs 3, w ∈ xTAB := by
  have h : u_ws RPairs TPairs 3 = [37, 39, 41].filterMap (fun i => tables_1[i]?) := by decide +kernel
  have hk : (u_ws RPairs TPairs 3).all xwk = true := by decide +kernel
  intro w hw
  have h2 := List.all_eq_true.mp hk w hw
  rw [h] at hw
  obtain ⟨i, -, hi⟩ := List.mem_filterMap.mp hw
  exact xin (List.mem_of_getElem? hi) h2
def RPatt : String := "PairedWords$Patterns"
def TPatt : u_T := fun k => match k with
  | 0 => ("PairedWords$Patterns", "fromLeft", "Z", true)
  | 1 => ("PairedWords$Patterns", "sizes", "[I", true)
  | 2 => ("PairedWords$Patterns", "having", "[I", true)
  | 3 => ("PairedWords$Patterns", "starred", "I", false)
  | 4 => ("PairedWords$Patterns", "starts", "I", false)
  | _ => ("PairedWords$Patterns", "looseStarts", "I", false)
theorem nmPatt : ∀ a, a < 6 → ∀ b, b < 6 → a ≠ b → (TPatt a).2.1 ≠ (TPatt b).2.1 := by decide +kernel
theorem fdPatt : ∀ k, k < 6 → ∃ t, parseFieldDescriptor (TPatt k).2.2.1 = some t := fun k hk => Option.isSome_iff_exists.mp ((by decide +kernel : ∀ k, k < 6 → (parseFieldDescriptor (TPatt k).2.2.1).isSome = true) k hk)
theorem lyPatt : ∀ w ∈ u_ws RPatt TPatt 6, w ∈ xTAB := by
  have h : u_ws RPatt TPatt 6 = [63, 65, 67, 69, 71, 73].filterMap (fun i => tables_1[i]?) := by decide +kernel
  have hk : (u_ws RPatt TPatt 6).all xwk = true := by decide +kernel
  intro w hw
  have h2 := List.all_eq_true.mp hk w hw
  rw [h] at hw
  obtain ⟨i, -, hi⟩ := List.mem_filterMap.mp hw
  exact xin (List.mem_of_getElem? hi) h2
def RResu : String := "PairedWords$Results"
def TResu : u_T := fun k => match k with
  | 0 => ("PairedWords$Results", "keys", "[J", true)
  | 1 => ("PairedWords$Results", "count", "I", false)
  | _ => ("PairedWords$Results", "tooMany", "Z", false)
theorem nmResu : ∀ a, a < 3 → ∀ b, b < 3 → a ≠ b → (TResu a).2.1 ≠ (TResu b).2.1 := by decide +kernel
theorem fdResu : ∀ k, k < 3 → ∃ t, parseFieldDescriptor (TResu k).2.2.1 = some t := fun k hk => Option.isSome_iff_exists.mp ((by decide +kernel : ∀ k, k < 3 → (parseFieldDescriptor (TResu k).2.2.1).isSome = true) k hk)
theorem lyResu : ∀ w ∈ u_ws RResu TResu 3, w ∈ xTAB := by
  have h : u_ws RResu TResu 3 = [176, 178, 180].filterMap (fun i => tables_1[i]?) := by decide +kernel
  have hk : (u_ws RResu TResu 3).all xwk = true := by decide +kernel
  intro w hw
  have h2 := List.all_eq_true.mp hk w hw
  rw [h] at hw
  obtain ⟨i, -, hi⟩ := List.mem_filterMap.mp hw
  exact xin (List.mem_of_getElem? hi) h2
def RRule : String := "PairedWords$Rules"
def TRule : u_T := fun k => match k with
  | 0 => ("PairedWords$Rules", "before", "LPairedWords$Patterns;", true)
  | 1 => ("PairedWords$Rules", "behind", "LPairedWords$Patterns;", true)
  | 2 => ("PairedWords$Rules", "kinds", "[I", true)
  | 3 => ("PairedWords$Rules", "pairOf", "[I", true)
  | 4 => ("PairedWords$Rules", "contexts", "[I", true)
  | 5 => ("PairedWords$Rules", "goals", "[I", true)
  | 6 => ("PairedWords$Rules", "asking", "[I", true)
  | 7 => ("PairedWords$Rules", "barring", "[I", true)
  | _ => ("PairedWords$Rules", "count", "I", false)
theorem nmRule : ∀ a, a < 9 → ∀ b, b < 9 → a ≠ b → (TRule a).2.1 ≠ (TRule b).2.1 := by decide +kernel
theorem fdRule : ∀ k, k < 9 → ∃ t, parseFieldDescriptor (TRule k).2.2.1 = some t := fun k hk => Option.isSome_iff_exists.mp ((by decide +kernel : ∀ k, k < 9 → (parseFieldDescriptor (TRule k).2.2.1).isSome = true) k hk)
theorem lyRule : ∀ w ∈ u_ws RRule TRule 9, w ∈ xTAB := by
  have h : u_ws RRule TRule 9 = [89, 91, 93, 95, 97, 99, 101, 103, 105].filterMap (fun i => tables_1[i]?) := by decide +kernel
  have hk : (u_ws RRule TRule 9).all xwk = true := by decide +kernel
  intro w hw
  have h2 := List.all_eq_true.mp hk w hw
  rw [h] at hw
  obtain ⟨i, -, hi⟩ := List.mem_filterMap.mp hw
  exact xin (List.mem_of_getElem? hi) h2
def RSamp : String := "PairedWords$Samples"
def TSamp : u_T := fun k => match k with
  | 0 => ("PairedWords$Samples", "lowers", "[LPairedWords$Line;", true)
  | 1 => ("PairedWords$Samples", "uppers", "[LPairedWords$Line;", true)
  | _ => ("PairedWords$Samples", "count", "I", false)
theorem nmSamp : ∀ a, a < 3 → ∀ b, b < 3 → a ≠ b → (TSamp a).2.1 ≠ (TSamp b).2.1 := by decide +kernel
theorem fdSamp : ∀ k, k < 3 → ∃ t, parseFieldDescriptor (TSamp k).2.2.1 = some t := fun k hk => Option.isSome_iff_exists.mp ((by decide +kernel : ∀ k, k < 3 → (parseFieldDescriptor (TSamp k).2.2.1).isSome = true) k hk)
theorem lySamp : ∀ w ∈ u_ws RSamp TSamp 3, w ∈ xTAB := by
  have h : u_ws RSamp TSamp 3 = [160, 162, 164].filterMap (fun i => tables_1[i]?) := by decide +kernel
  have hk : (u_ws RSamp TSamp 3).all xwk = true := by decide +kernel
  intro w hw
  have h2 := List.all_eq_true.mp hk w hw
  rw [h] at hw
  obtain ⟨i, -, hi⟩ := List.mem_filterMap.mp hw
  exact xin (List.mem_of_getElem? hi) h2
def RComp : String := "PairedWords$Comparison"
def TComp : u_T := fun k => match k with
  | 0 => ("PairedWords$Search", "pairs", "LPairedWords$Pairs;", true)
  | 1 => ("PairedWords$Search", "rules", "LPairedWords$Rules;", true)
  | 2 => ("PairedWords$Search", "lower", "LPairedWords$Line;", true)
  | 3 => ("PairedWords$Search", "row", "[I", true)
  | 4 => ("PairedWords$Search", "before", "[I", true)
  | 5 => ("PairedWords$Comparison", "upper", "LPairedWords$Line;", true)
  | 6 => ("PairedWords$Comparison", "any", "Z", false)
  | 7 => ("PairedWords$Comparison", "kept", "Z", false)
  | _ => ("PairedWords$Comparison", "brokenByAll", "I", false)
theorem nmComp : ∀ a, a < 9 → ∀ b, b < 9 → a ≠ b → (TComp a).2.1 ≠ (TComp b).2.1 := by decide +kernel
theorem fdComp : ∀ k, k < 9 → ∃ t, parseFieldDescriptor (TComp k).2.2.1 = some t := fun k hk => Option.isSome_iff_exists.mp ((by decide +kernel : ∀ k, k < 9 → (parseFieldDescriptor (TComp k).2.2.1).isSome = true) k hk)
theorem lyComp : ∀ w ∈ u_ws RComp TComp 9, w ∈ xTAB := by
  have h : u_ws RComp TComp 9 = [214, 216, 218, 220, 222, 206, 208, 210, 212].filterMap (fun i => tables_1[i]?) := by decide +kernel
  have hk : (u_ws RComp TComp 9).all xwk = true := by decide +kernel
  intro w hw
  have h2 := List.all_eq_true.mp hk w hw
  rw [h] at hw
  obtain ⟨i, -, hi⟩ := List.mem_filterMap.mp hw
  exact xin (List.mem_of_getElem? hi) h2
def RWrit : String := "PairedWords$Writing"
def TWrit : u_T := fun k => match k with
  | 0 => ("PairedWords$Search", "pairs", "LPairedWords$Pairs;", true)
  | 1 => ("PairedWords$Search", "rules", "LPairedWords$Rules;", true)
  | 2 => ("PairedWords$Search", "lower", "LPairedWords$Line;", true)
  | 3 => ("PairedWords$Search", "row", "[I", true)
  | 4 => ("PairedWords$Search", "before", "[I", true)
  | 5 => ("PairedWords$Writing", "upper", "LPairedWords$Line;", true)
  | _ => ("PairedWords$Writing", "forms", "LPairedWords$Results;", true)
theorem nmWrit : ∀ a, a < 7 → ∀ b, b < 7 → a ≠ b → (TWrit a).2.1 ≠ (TWrit b).2.1 := by decide +kernel
theorem fdWrit : ∀ k, k < 7 → ∃ t, parseFieldDescriptor (TWrit k).2.2.1 = some t := fun k hk => Option.isSome_iff_exists.mp ((by decide +kernel : ∀ k, k < 7 → (parseFieldDescriptor (TWrit k).2.2.1).isSome = true) k hk)
theorem lyWrit : ∀ w ∈ u_ws RWrit TWrit 7, w ∈ xTAB := by
  have h : u_ws RWrit TWrit 7 = [239, 240, 241, 242, 243, 235, 237].filterMap (fun i => tables_1[i]?) := by decide +kernel
  have hk : (u_ws RWrit TWrit 7).all xwk = true := by decide +kernel
  intro w hw
  have h2 := List.all_eq_true.mp hk w hw
  rw [h] at hw
  obtain ⟨i, -, hi⟩ := List.mem_filterMap.mp hw
  exact xin (List.mem_of_getElem? hi) h2
def RLexi : String := "PairedWords$Lexicon"
def TLexi : u_T := fun k => match k with
  | 0 => ("PairedWords$Lexicon", "parts", "[I", true)
  | 1 => ("PairedWords$Lexicon", "nexts", "[I", true)
  | 2 => ("PairedWords$Lexicon", "signs", "[LPairedWords$Line;", true)
  | 3 => ("PairedWords$Lexicon", "word", "[I", true)
  | 4 => ("PairedWords$Lexicon", "wordSigns", "LPairedWords$Line;", true)
  | _ => ("PairedWords$Lexicon", "count", "I", false)
theorem nmLexi : ∀ a, a < 6 → ∀ b, b < 6 → a ≠ b → (TLexi a).2.1 ≠ (TLexi b).2.1 := by decide +kernel
theorem fdLexi : ∀ k, k < 6 → ∃ t, parseFieldDescriptor (TLexi k).2.2.1 = some t := fun k hk => Option.isSome_iff_exists.mp ((by decide +kernel : ∀ k, k < 6 → (parseFieldDescriptor (TLexi k).2.2.1).isSome = true) k hk)
theorem lyLexi : ∀ w ∈ u_ws RLexi TLexi 6, w ∈ xTAB := by
  have h : u_ws RLexi TLexi 6 = [134, 136, 138, 140, 142, 144].filterMap (fun i => tables_1[i]?) := by decide +kernel
  have hk : (u_ws RLexi TLexi 6).all xwk = true := by decide +kernel
  intro w hw
  have h2 := List.all_eq_true.mp hk w hw
  rw [h] at hw
  obtain ⟨i, -, hi⟩ := List.mem_filterMap.mp hw
  exact xin (List.mem_of_getElem? hi) h2
def RPW : String := "PairedWords"
def TPW : u_T := fun k => match k with
  | 0 => ("PairedWords", "pairs", "LPairedWords$Pairs;", true)
  | 1 => ("PairedWords", "rules", "LPairedWords$Rules;", true)
  | 2 => ("PairedWords", "lexicon", "LPairedWords$Lexicon;", true)
  | 3 => ("PairedWords", "lowerLine", "LPairedWords$Line;", true)
  | 4 => ("PairedWords", "upperLine", "LPairedWords$Line;", true)
  | 5 => ("PairedWords", "samples", "LPairedWords$Samples;", true)
  | 6 => ("PairedWords", "results", "LPairedWords$Results;", true)
  | 7 => ("PairedWords", "gathered", "LPairedWords$Results;", true)
  | 8 => ("PairedWords", "comparison", "LPairedWords$Comparison;", true)
  | _ => ("PairedWords", "writing", "LPairedWords$Writing;", true)
theorem nmPW : ∀ a, a < 10 → ∀ b, b < 10 → a ≠ b → (TPW a).2.1 ≠ (TPW b).2.1 := by decide +kernel
theorem fdPW : ∀ k, k < 10 → ∃ t, parseFieldDescriptor (TPW k).2.2.1 = some t := fun k hk => Option.isSome_iff_exists.mp ((by decide +kernel : ∀ k, k < 10 → (parseFieldDescriptor (TPW k).2.2.1).isSome = true) k hk)
theorem lyPW : ∀ w ∈ u_ws RPW TPW 10, w ∈ xTAB := by
  have h : u_ws RPW TPW 10 = [255, 257, 259, 261, 263, 265, 267, 269, 271, 273].filterMap (fun i => tables_1[i]?) := by decide +kernel
  have hk : (u_ws RPW TPW 10).all xwk = true := by decide +kernel
  intro w hw
  have h2 := List.all_eq_true.mp hk w hw
  rw [h] at hw
  obtain ⟨i, -, hi⟩ := List.mem_filterMap.mp hw
  exact xin (List.mem_of_getElem? hi) h2
def RMod : String := "PairedWordsModel"
def TMod : u_T := fun k => match k with
  | 0 => ("PairedWordsModel", "thrown", "I", false)
  | 1 => ("PairedWordsModel", "pairs", "I", false)
  | 2 => ("PairedWordsModel", "lowers", "[I", false)
  | 3 => ("PairedWordsModel", "uppers", "[I", false)
  | 4 => ("PairedWordsModel", "rules", "I", false)
  | 5 => ("PairedWordsModel", "kinds", "[I", false)
  | 6 => ("PairedWordsModel", "rulePairs", "[I", false)
  | 7 => ("PairedWordsModel", "contexts", "[I", false)
  | 8 => ("PairedWordsModel", "tight", "[Z", false)
  | 9 => ("PairedWordsModel", "elements", "[I", false)
  | 10 => ("PairedWordsModel", "sets", "[I", false)
  | 11 => ("PairedWordsModel", "starred", "[Z", false)
  | 12 => ("PairedWordsModel", "entries", "I", false)
  | 13 => ("PairedWordsModel", "parts", "[I", false)
  | 14 => ("PairedWordsModel", "nexts", "[I", false)
  | 15 => ("PairedWordsModel", "spelled", "[I", false)
  | 16 => ("PairedWordsModel", "signs", "[I", false)
  | 17 => ("PairedWordsModel", "sizes", "[I", false)
  | 18 => ("PairedWordsModel", "lines", "[I", false)
  | 19 => ("PairedWordsModel", "results", "I", false)
  | 20 => ("PairedWordsModel", "resultSize", "[I", false)
  | 21 => ("PairedWordsModel", "resultSigns", "[I", false)
  | 22 => ("PairedWordsModel", "resultCount", "[I", false)
  | 23 => ("PairedWordsModel", "resultEntries", "[I", false)
  | 24 => ("PairedWordsModel", "found", "I", false)
  | 25 => ("PairedWordsModel", "foundSize", "[I", false)
  | 26 => ("PairedWordsModel", "foundSigns", "[I", false)
  | 27 => ("PairedWordsModel", "foundCount", "[I", false)
  | 28 => ("PairedWordsModel", "foundEntries", "[I", false)
  | 29 => ("PairedWordsModel", "samples", "I", false)
  | 30 => ("PairedWordsModel", "sampleSize", "[I", false)
  | 31 => ("PairedWordsModel", "sampleLines", "[I", false)
  | 32 => ("PairedWordsModel", "lowerSize", "I", false)
  | 33 => ("PairedWordsModel", "lower", "[I", false)
  | 34 => ("PairedWordsModel", "upperSize", "I", false)
  | 35 => ("PairedWordsModel", "upper", "[I", false)
  | 36 => ("PairedWordsModel", "length", "I", false)
  | 37 => ("PairedWordsModel", "row", "[I", false)
  | 38 => ("PairedWordsModel", "tried", "[I", false)
  | 39 => ("PairedWordsModel", "usedLower", "[I", false)
  | 40 => ("PairedWordsModel", "usedUpper", "[I", false)
  | _ => ("PairedWordsModel", "word", "[I", false)
theorem nmMod : ∀ a, a < 42 → ∀ b, b < 42 → a ≠ b → (TMod a).2.1 ≠ (TMod b).2.1 := by decide +kernel
theorem fdMod : ∀ k, k < 42 → ∃ t, parseFieldDescriptor (TMod k).2.2.1 = some t := fun k hk => Option.isSome_iff_exists.mp ((by decide +kernel : ∀ k, k < 42 → (parseFieldDescriptor (TMod k).2.2.1).isSome = true) k hk)
theorem lyMod : ∀ w ∈ u_ws RMod TMod 42, w ∈ xTAB := by
  have h : u_ws RMod TMod 42 = [866, 868, 870, 872, 874, 876, 878, 880, 882, 884, 886, 888, 890, 892, 894, 896, 898, 900, 902, 904, 906, 908, 910, 912, 914, 916, 918, 920, 922, 924, 926, 928, 930, 932, 934, 936, 938, 940, 942, 944, 946, 948].filterMap (fun i => tables_1[i]?) := by decide +kernel
  have hk : (u_ws RMod TMod 42).all xwk = true := by decide +kernel
  intro w hw
  have h2 := List.all_eq_true.mp hk w hw
  rw [h] at hw
  obtain ⟨i, -, hi⟩ := List.mem_filterMap.mp hw
  exact xin (List.mem_of_getElem? hi) h2
abbrev xcl : List vw_C := [(RLine, TLine, 2), (RPairs, TPairs, 3), (RPatt, TPatt, 6), (RResu, TResu, 3), (RRule, TRule, 9), (RSamp, TSamp, 3), (RComp, TComp, 9), (RWrit, TWrit, 7), (RLexi, TLexi, 6), (RPW, TPW, 10), (RMod, TMod, 42)]
/-! the methods: name, code, locals, answer, handlers -/
abbrev bPW_init : ByteArray := prog_1_method_1_code
def yPW_init : MethodName := ⟨"PairedWords", "<init>", "()V"⟩
abbrev mPW_init : MethodName × ByteArray × Nat × Option FieldType × List (Nat × Nat × Nat × Nat) := (yPW_init, bPW_init, 1, (Option.none : Option Jvm.ClassFile.FieldType), [])
abbrev bPW_pair : ByteArray := prog_1_method_2_code
def yPW_pair : MethodName := ⟨"PairedWords", "pair", "(II)I"⟩
abbrev mPW_pair : MethodName × ByteArray × Nat × Option FieldType × List (Nat × Nat × Nat × Nat) := (yPW_pair, bPW_pair, 4, (Option.some Jvm.ClassFile.FieldType.int), [])
abbrev bPW_rule : ByteArray := prog_1_method_3_code
def yPW_rule : MethodName := ⟨"PairedWords", "rule", "(II)I"⟩
abbrev mPW_rule : MethodName × ByteArray × Nat × Option FieldType × List (Nat × Nat × Nat × Nat) := (yPW_rule, bPW_rule, 4, (Option.some Jvm.ClassFile.FieldType.int), [])
abbrev bPW_context : ByteArray := prog_1_method_4_code
def yPW_context : MethodName := ⟨"PairedWords", "context", "(IZZ)I"⟩
abbrev mPW_context : MethodName × ByteArray × Nat × Option FieldType × List (Nat × Nat × Nat × Nat) := (yPW_context, bPW_context, 4, (Option.some Jvm.ClassFile.FieldType.int), [])
abbrev bPW_element : ByteArray := prog_1_method_5_code
def yPW_element : MethodName := ⟨"PairedWords", "element", "(IZIZ)I"⟩
abbrev mPW_element : MethodName × ByteArray × Nat × Option FieldType × List (Nat × Nat × Nat × Nat) := (yPW_element, bPW_element, 7, (Option.some Jvm.ClassFile.FieldType.int), [])
abbrev bPW_entry : ByteArray := prog_1_method_6_code
def yPW_entry : MethodName := ⟨"PairedWords", "entry", "(II)I"⟩
abbrev mPW_entry : MethodName × ByteArray × Nat × Option FieldType × List (Nat × Nat × Nat × Nat) := (yPW_entry, bPW_entry, 3, (Option.some Jvm.ClassFile.FieldType.int), [])
abbrev bPW_spell : ByteArray := prog_1_method_7_code
def yPW_spell : MethodName := ⟨"PairedWords", "spell", "(II)I"⟩
abbrev mPW_spell : MethodName × ByteArray × Nat × Option FieldType × List (Nat × Nat × Nat × Nat) := (yPW_spell, bPW_spell, 4, (Option.some Jvm.ClassFile.FieldType.int), [])
abbrev bPW_type : ByteArray := prog_1_method_8_code
def yPW_type : MethodName := ⟨"PairedWords", "type", "(ZI)I"⟩
abbrev mPW_type : MethodName × ByteArray × Nat × Option FieldType × List (Nat × Nat × Nat × Nat) := (yPW_type, bPW_type, 4, (Option.some Jvm.ClassFile.FieldType.int), [])
abbrev bPW_wipe : ByteArray := prog_1_method_9_code
def yPW_wipe : MethodName := ⟨"PairedWords", "wipe", "(Z)I"⟩
abbrev mPW_wipe : MethodName × ByteArray × Nat × Option FieldType × List (Nat × Nat × Nat × Nat) := (yPW_wipe, bPW_wipe, 4, (Option.some Jvm.ClassFile.FieldType.int), [])
abbrev bPW_belong : ByteArray := prog_1_method_10_code
def yPW_belong : MethodName := ⟨"PairedWords", "belong", "()Z"⟩
abbrev mPW_belong : MethodName × ByteArray × Nat × Option FieldType × List (Nat × Nat × Nat × Nat) := (yPW_belong, bPW_belong, 1, (Option.some Jvm.ClassFile.FieldType.boolean), [])
abbrev bPW_blame : ByteArray := prog_1_method_11_code
def yPW_blame : MethodName := ⟨"PairedWords", "blame", "()I"⟩
abbrev mPW_blame : MethodName × ByteArray × Nat × Option FieldType × List (Nat × Nat × Nat × Nat) := (yPW_blame, bPW_blame, 1, (Option.some Jvm.ClassFile.FieldType.int), [])
abbrev bPW_write : ByteArray := prog_1_method_12_code
def yPW_write : MethodName := ⟨"PairedWords", "write", "()I"⟩
abbrev mPW_write : MethodName × ByteArray × Nat × Option FieldType × List (Nat × Nat × Nat × Nat) := (yPW_write, bPW_write, 1, (Option.some Jvm.ClassFile.FieldType.int), [])
abbrev bPW_analyse : ByteArray := prog_1_method_13_code
def yPW_analyse : MethodName := ⟨"PairedWords", "analyse", "()I"⟩
abbrev mPW_analyse : MethodName × ByteArray × Nat × Option FieldType × List (Nat × Nat × Nat × Nat) := (yPW_analyse, bPW_analyse, 1, (Option.some Jvm.ClassFile.FieldType.int), [])
abbrev bPW_length : ByteArray := prog_1_method_14_code
def yPW_length : MethodName := ⟨"PairedWords", "length", "(IZ)I"⟩
abbrev mPW_length : MethodName × ByteArray × Nat × Option FieldType × List (Nat × Nat × Nat × Nat) := (yPW_length, bPW_length, 3, (Option.some Jvm.ClassFile.FieldType.int), [])
abbrev bPW_result : ByteArray := prog_1_method_15_code
def yPW_result : MethodName := ⟨"PairedWords", "result", "(IIZ)I"⟩
abbrev mPW_result : MethodName × ByteArray × Nat × Option FieldType × List (Nat × Nat × Nat × Nat) := (yPW_result, bPW_result, 5, (Option.some Jvm.ClassFile.FieldType.int), [])
abbrev bPW_sample : ByteArray := prog_1_method_16_code
def yPW_sample : MethodName := ⟨"PairedWords", "sample", "()I"⟩
abbrev mPW_sample : MethodName × ByteArray × Nat × Option FieldType × List (Nat × Nat × Nat × Nat) := (yPW_sample, bPW_sample, 1, (Option.some Jvm.ClassFile.FieldType.int), [])
abbrev bPW_check : ByteArray := prog_1_method_17_code
def yPW_check : MethodName := ⟨"PairedWords", "check", "()I"⟩
abbrev mPW_check : MethodName × ByteArray × Nat × Option FieldType × List (Nat × Nat × Nat × Nat) := (yPW_check, bPW_check, 2, (Option.some Jvm.ClassFile.FieldType.int), [])
abbrev bPW_isSign : ByteArray := prog_1_method_18_code
def yPW_isSign : MethodName := ⟨"PairedWords", "isSign", "(I)Z"⟩
abbrev mPW_isSign : MethodName × ByteArray × Nat × Option FieldType × List (Nat × Nat × Nat × Nat) := (yPW_isSign, bPW_isSign, 1, (Option.some Jvm.ClassFile.FieldType.boolean), [])
abbrev bPW_isSignOrEmpty : ByteArray := prog_1_method_19_code
def yPW_isSignOrEmpty : MethodName := ⟨"PairedWords", "isSignOrEmpty", "(I)Z"⟩
abbrev mPW_isSignOrEmpty : MethodName × ByteArray × Nat × Option FieldType × List (Nat × Nat × Nat × Nat) := (yPW_isSignOrEmpty, bPW_isSignOrEmpty, 1, (Option.some Jvm.ClassFile.FieldType.boolean), [])
abbrev bPW_isPart : ByteArray := prog_1_method_20_code
def yPW_isPart : MethodName := ⟨"PairedWords", "isPart", "(I)Z"⟩
abbrev mPW_isPart : MethodName × ByteArray × Nat × Option FieldType × List (Nat × Nat × Nat × Nat) := (yPW_isPart, bPW_isPart, 1, (Option.some Jvm.ClassFile.FieldType.boolean), [])
abbrev bMod_init : ByteArray := prog_13_method_1_code
def yMod_init : MethodName := ⟨"PairedWordsModel", "<init>", "()V"⟩
abbrev mMod_init : MethodName × ByteArray × Nat × Option FieldType × List (Nat × Nat × Nat × Nat) := (yMod_init, bMod_init, 1, (Option.none : Option Jvm.ClassFile.FieldType), [])
abbrev bMod_thrown : ByteArray := prog_13_method_2_code
def yMod_thrown : MethodName := ⟨"PairedWordsModel", "thrown", "()I"⟩
abbrev mMod_thrown : MethodName × ByteArray × Nat × Option FieldType × List (Nat × Nat × Nat × Nat) := (yMod_thrown, bMod_thrown, 1, (Option.some Jvm.ClassFile.FieldType.int), [])
abbrev bMod_noSign : ByteArray := prog_13_method_3_code
def yMod_noSign : MethodName := ⟨"PairedWordsModel", "noSign", "(II)Z"⟩
abbrev mMod_noSign : MethodName × ByteArray × Nat × Option FieldType × List (Nat × Nat × Nat × Nat) := (yMod_noSign, bMod_noSign, 3, (Option.some Jvm.ClassFile.FieldType.boolean), [])
abbrev bMod_pair : ByteArray := prog_13_method_4_code
def yMod_pair : MethodName := ⟨"PairedWordsModel", "pair", "(II)I"⟩
abbrev mMod_pair : MethodName × ByteArray × Nat × Option FieldType × List (Nat × Nat × Nat × Nat) := (yMod_pair, bMod_pair, 6, (Option.some Jvm.ClassFile.FieldType.int), [])
abbrev bMod_rule : ByteArray := prog_13_method_5_code
def yMod_rule : MethodName := ⟨"PairedWordsModel", "rule", "(II)I"⟩
abbrev mMod_rule : MethodName × ByteArray × Nat × Option FieldType × List (Nat × Nat × Nat × Nat) := (yMod_rule, bMod_rule, 3, (Option.some Jvm.ClassFile.FieldType.int), [])
abbrev bMod_noRule : ByteArray := prog_13_method_6_code
def yMod_noRule : MethodName := ⟨"PairedWordsModel", "noRule", "(I)Z"⟩
abbrev mMod_noRule : MethodName × ByteArray × Nat × Option FieldType × List (Nat × Nat × Nat × Nat) := (yMod_noRule, bMod_noRule, 2, (Option.some Jvm.ClassFile.FieldType.boolean), [])
abbrev bMod_context : ByteArray := prog_13_method_7_code
def yMod_context : MethodName := ⟨"PairedWordsModel", "context", "(IZZ)I"⟩
abbrev mMod_context : MethodName × ByteArray × Nat × Option FieldType × List (Nat × Nat × Nat × Nat) := (yMod_context, bMod_context, 5, (Option.some Jvm.ClassFile.FieldType.int), [])
abbrev bMod_element : ByteArray := prog_13_method_8_code
def yMod_element : MethodName := ⟨"PairedWordsModel", "element", "(IZIZ)I"⟩
abbrev mMod_element : MethodName × ByteArray × Nat × Option FieldType × List (Nat × Nat × Nat × Nat) := (yMod_element, bMod_element, 7, (Option.some Jvm.ClassFile.FieldType.int), [])
abbrev bMod_entry : ByteArray := prog_13_method_9_code
def yMod_entry : MethodName := ⟨"PairedWordsModel", "entry", "(II)I"⟩
abbrev mMod_entry : MethodName × ByteArray × Nat × Option FieldType × List (Nat × Nat × Nat × Nat) := (yMod_entry, bMod_entry, 3, (Option.some Jvm.ClassFile.FieldType.int), [])
abbrev bMod_spell : ByteArray := prog_13_method_10_code
def yMod_spell : MethodName := ⟨"PairedWordsModel", "spell", "(II)I"⟩
abbrev mMod_spell : MethodName × ByteArray × Nat × Option FieldType × List (Nat × Nat × Nat × Nat) := (yMod_spell, bMod_spell, 3, (Option.some Jvm.ClassFile.FieldType.int), [])
abbrev bMod_type : ByteArray := prog_13_method_11_code
def yMod_type : MethodName := ⟨"PairedWordsModel", "type", "(ZI)I"⟩
abbrev mMod_type : MethodName × ByteArray × Nat × Option FieldType × List (Nat × Nat × Nat × Nat) := (yMod_type, bMod_type, 4, (Option.some Jvm.ClassFile.FieldType.int), [])
abbrev bMod_wipe : ByteArray := prog_13_method_12_code
def yMod_wipe : MethodName := ⟨"PairedWordsModel", "wipe", "(Z)I"⟩
abbrev mMod_wipe : MethodName × ByteArray × Nat × Option FieldType × List (Nat × Nat × Nat × Nat) := (yMod_wipe, bMod_wipe, 3, (Option.some Jvm.ClassFile.FieldType.int), [])
abbrev bMod_inSet : ByteArray := prog_13_method_13_code
def yMod_inSet : MethodName := ⟨"PairedWordsModel", "inSet", "(II)Z"⟩
abbrev mMod_inSet : MethodName × ByteArray × Nat × Option FieldType × List (Nat × Nat × Nat × Nat) := (yMod_inSet, bMod_inSet, 3, (Option.some Jvm.ClassFile.FieldType.boolean), [])
abbrev bMod_allIn : ByteArray := prog_13_method_14_code
def yMod_allIn : MethodName := ⟨"PairedWordsModel", "allIn", "(III)Z"⟩
abbrev mMod_allIn : MethodName × ByteArray × Nat × Option FieldType × List (Nat × Nat × Nat × Nat) := (yMod_allIn, bMod_allIn, 6, (Option.some Jvm.ClassFile.FieldType.boolean), [])
abbrev bMod_isPart : ByteArray := prog_13_method_15_code
def yMod_isPart : MethodName := ⟨"PairedWordsModel", "isPart", "(III)Z"⟩
abbrev mMod_isPart : MethodName × ByteArray × Nat × Option FieldType × List (Nat × Nat × Nat × Nat) := (yMod_isPart, bMod_isPart, 4, (Option.some Jvm.ClassFile.FieldType.boolean), [])
abbrev bMod_isMatched : ByteArray := prog_13_method_16_code
def yMod_isMatched : MethodName := ⟨"PairedWordsModel", "isMatched", "(III)Z"⟩
abbrev mMod_isMatched : MethodName × ByteArray × Nat × Option FieldType × List (Nat × Nat × Nat × Nat) := (yMod_isMatched, bMod_isMatched, 6, (Option.some Jvm.ClassFile.FieldType.boolean), [])
abbrev bMod_holds : ByteArray := prog_13_method_17_code
def yMod_holds : MethodName := ⟨"PairedWordsModel", "holds", "(II)Z"⟩
abbrev mMod_holds : MethodName × ByteArray × Nat × Option FieldType × List (Nat × Nat × Nat × Nat) := (yMod_holds, bMod_holds, 6, (Option.some Jvm.ClassFile.FieldType.boolean), [])
abbrev bMod_isKept : ByteArray := prog_13_method_18_code
def yMod_isKept : MethodName := ⟨"PairedWordsModel", "isKept", "(I)Z"⟩
abbrev mMod_isKept : MethodName × ByteArray × Nat × Option FieldType × List (Nat × Nat × Nat × Nat) := (yMod_isKept, bMod_isKept, 7, (Option.some Jvm.ClassFile.FieldType.boolean), [])
abbrev bMod_keepsAll : ByteArray := prog_13_method_19_code
def yMod_keepsAll : MethodName := ⟨"PairedWordsModel", "keepsAll", "()Z"⟩
abbrev mMod_keepsAll : MethodName × ByteArray × Nat × Option FieldType × List (Nat × Nat × Nat × Nat) := (yMod_keepsAll, bMod_keepsAll, 3, (Option.some Jvm.ClassFile.FieldType.boolean), [])
abbrev bMod_begin : ByteArray := prog_13_method_20_code
def yMod_begin : MethodName := ⟨"PairedWordsModel", "begin", "()V"⟩
abbrev mMod_begin : MethodName × ByteArray × Nat × Option FieldType × List (Nat × Nat × Nat × Nat) := (yMod_begin, bMod_begin, 1, (Option.none : Option Jvm.ClassFile.FieldType), [])
abbrev bMod_mayCome : ByteArray := prog_13_method_21_code
def yMod_mayCome : MethodName := ⟨"PairedWordsModel", "mayCome", "(IZ)Z"⟩
abbrev mMod_mayCome : MethodName × ByteArray × Nat × Option FieldType × List (Nat × Nat × Nat × Nat) := (yMod_mayCome, bMod_mayCome, 6, (Option.some Jvm.ClassFile.FieldType.boolean), [])
abbrev bMod_nextAlignment : ByteArray := prog_13_method_22_code
def yMod_nextAlignment : MethodName := ⟨"PairedWordsModel", "nextAlignment", "(Z)Z"⟩
abbrev mMod_nextAlignment : MethodName × ByteArray × Nat × Option FieldType × List (Nat × Nat × Nat × Nat) := (yMod_nextAlignment, bMod_nextAlignment, 3, (Option.some Jvm.ClassFile.FieldType.boolean), [])
abbrev bMod_take : ByteArray := prog_13_method_23_code
def yMod_take : MethodName := ⟨"PairedWordsModel", "take", "([IIIII)V"⟩
abbrev mMod_take : MethodName × ByteArray × Nat × Option FieldType × List (Nat × Nat × Nat × Nat) := (yMod_take, bMod_take, 7, (Option.none : Option Jvm.ClassFile.FieldType), [])
abbrev bMod_doBelong : ByteArray := prog_13_method_24_code
def yMod_doBelong : MethodName := ⟨"PairedWordsModel", "doBelong", "()Z"⟩
abbrev mMod_doBelong : MethodName × ByteArray × Nat × Option FieldType × List (Nat × Nat × Nat × Nat) := (yMod_doBelong, bMod_doBelong, 1, (Option.some Jvm.ClassFile.FieldType.boolean), [])
abbrev bMod_belong : ByteArray := prog_13_method_25_code
def yMod_belong : MethodName := ⟨"PairedWordsModel", "belong", "()Z"⟩
abbrev mMod_belong : MethodName × ByteArray × Nat × Option FieldType × List (Nat × Nat × Nat × Nat) := (yMod_belong, bMod_belong, 1, (Option.some Jvm.ClassFile.FieldType.boolean), [])
abbrev bMod_blame : ByteArray := prog_13_method_26_code
def yMod_blame : MethodName := ⟨"PairedWordsModel", "blame", "()I"⟩
abbrev mMod_blame : MethodName × ByteArray × Nat × Option FieldType × List (Nat × Nat × Nat × Nat) := (yMod_blame, bMod_blame, 4, (Option.some Jvm.ClassFile.FieldType.int), [])
abbrev bMod_order : ByteArray := prog_13_method_27_code
def yMod_order : MethodName := ⟨"PairedWordsModel", "order", "(II)I"⟩
abbrev mMod_order : MethodName × ByteArray × Nat × Option FieldType × List (Nat × Nat × Nat × Nat) := (yMod_order, bMod_order, 4, (Option.some Jvm.ClassFile.FieldType.int), [])
abbrev bMod_put : ByteArray := prog_13_method_28_code
def yMod_put : MethodName := ⟨"PairedWordsModel", "put", "()Z"⟩
abbrev mMod_put : MethodName × ByteArray × Nat × Option FieldType × List (Nat × Nat × Nat × Nat) := (yMod_put, bMod_put, 7, (Option.some Jvm.ClassFile.FieldType.boolean), [])
abbrev bMod_finish : ByteArray := prog_13_method_29_code
def yMod_finish : MethodName := ⟨"PairedWordsModel", "finish", "()I"⟩
abbrev mMod_finish : MethodName × ByteArray × Nat × Option FieldType × List (Nat × Nat × Nat × Nat) := (yMod_finish, bMod_finish, 2, (Option.some Jvm.ClassFile.FieldType.int), [])
abbrev bMod_write : ByteArray := prog_13_method_30_code
def yMod_write : MethodName := ⟨"PairedWordsModel", "write", "()I"⟩
abbrev mMod_write : MethodName × ByteArray × Nat × Option FieldType × List (Nat × Nat × Nat × Nat) := (yMod_write, bMod_write, 5, (Option.some Jvm.ClassFile.FieldType.int), [])
abbrev bMod_isFound : ByteArray := prog_13_method_31_code
def yMod_isFound : MethodName := ⟨"PairedWordsModel", "isFound", "(I)Z"⟩
abbrev mMod_isFound : MethodName × ByteArray × Nat × Option FieldType × List (Nat × Nat × Nat × Nat) := (yMod_isFound, bMod_isFound, 9, (Option.some Jvm.ClassFile.FieldType.boolean), [])
abbrev bMod_analyse : ByteArray := prog_13_method_32_code
def yMod_analyse : MethodName := ⟨"PairedWordsModel", "analyse", "()I"⟩
abbrev mMod_analyse : MethodName × ByteArray × Nat × Option FieldType × List (Nat × Nat × Nat × Nat) := (yMod_analyse, bMod_analyse, 6, (Option.some Jvm.ClassFile.FieldType.int), [])
abbrev bMod_length : ByteArray := prog_13_method_33_code
def yMod_length : MethodName := ⟨"PairedWordsModel", "length", "(IZ)I"⟩
abbrev mMod_length : MethodName × ByteArray × Nat × Option FieldType × List (Nat × Nat × Nat × Nat) := (yMod_length, bMod_length, 3, (Option.some Jvm.ClassFile.FieldType.int), [])
abbrev bMod_result : ByteArray := prog_13_method_34_code
def yMod_result : MethodName := ⟨"PairedWordsModel", "result", "(IIZ)I"⟩
abbrev mMod_result : MethodName × ByteArray × Nat × Option FieldType × List (Nat × Nat × Nat × Nat) := (yMod_result, bMod_result, 6, (Option.some Jvm.ClassFile.FieldType.int), [])
abbrev bMod_sample : ByteArray := prog_13_method_35_code
def yMod_sample : MethodName := ⟨"PairedWordsModel", "sample", "()I"⟩
abbrev mMod_sample : MethodName × ByteArray × Nat × Option FieldType × List (Nat × Nat × Nat × Nat) := (yMod_sample, bMod_sample, 2, (Option.some Jvm.ClassFile.FieldType.int), [])
abbrev bMod_check : ByteArray := prog_13_method_36_code
def yMod_check : MethodName := ⟨"PairedWordsModel", "check", "()I"⟩
abbrev mMod_check : MethodName × ByteArray × Nat × Option FieldType × List (Nat × Nat × Nat × Nat) := (yMod_check, bMod_check, 2, (Option.some Jvm.ClassFile.FieldType.int), [])
abbrev bComp_init : ByteArray := prog_2_method_1_code
def yComp_init : MethodName := ⟨"PairedWords$Comparison", "<init>", "(LPairedWords$Pairs;LPairedWords$Rules;)V"⟩
abbrev mComp_init : MethodName × ByteArray × Nat × Option FieldType × List (Nat × Nat × Nat × Nat) := (yComp_init, bComp_init, 3, (Option.none : Option Jvm.ClassFile.FieldType), [])
abbrev bComp_finds : ByteArray := prog_2_method_2_code
def yComp_finds : MethodName := ⟨"PairedWords$Comparison", "finds", "(LPairedWords$Line;LPairedWords$Line;)Z"⟩
abbrev mComp_finds : MethodName × ByteArray × Nat × Option FieldType × List (Nat × Nat × Nat × Nat) := (yComp_finds, bComp_finds, 3, (Option.some Jvm.ClassFile.FieldType.boolean), [])
abbrev bComp_culprit : ByteArray := prog_2_method_3_code
def yComp_culprit : MethodName := ⟨"PairedWords$Comparison", "culprit", "()I"⟩
abbrev mComp_culprit : MethodName × ByteArray × Nat × Option FieldType × List (Nat × Nat × Nat × Nat) := (yComp_culprit, bComp_culprit, 2, (Option.some Jvm.ClassFile.FieldType.int), [])
abbrev bComp_takesUpper : ByteArray := prog_2_method_4_code
def yComp_takesUpper : MethodName := ⟨"PairedWords$Comparison", "takesUpper", "(II)Z"⟩
abbrev mComp_takesUpper : MethodName × ByteArray × Nat × Option FieldType × List (Nat × Nat × Nat × Nat) := (yComp_takesUpper, bComp_takesUpper, 3, (Option.some Jvm.ClassFile.FieldType.boolean), [])
abbrev bComp_mayEnd : ByteArray := prog_2_method_5_code
def yComp_mayEnd : MethodName := ⟨"PairedWords$Comparison", "mayEnd", "(I)Z"⟩
abbrev mComp_mayEnd : MethodName × ByteArray × Nat × Option FieldType × List (Nat × Nat × Nat × Nat) := (yComp_mayEnd, bComp_mayEnd, 2, (Option.some Jvm.ClassFile.FieldType.boolean), [])
abbrev bComp_meet : ByteArray := prog_2_method_6_code
def yComp_meet : MethodName := ⟨"PairedWords$Comparison", "meet", "(II)V"⟩
abbrev mComp_meet : MethodName × ByteArray × Nat × Option FieldType × List (Nat × Nat × Nat × Nat) := (yComp_meet, bComp_meet, 3, (Option.none : Option Jvm.ClassFile.FieldType), [])
abbrev bComp_isDone : ByteArray := prog_2_method_7_code
def yComp_isDone : MethodName := ⟨"PairedWords$Comparison", "isDone", "()Z"⟩
abbrev mComp_isDone : MethodName × ByteArray × Nat × Option FieldType × List (Nat × Nat × Nat × Nat) := (yComp_isDone, bComp_isDone, 1, (Option.some Jvm.ClassFile.FieldType.boolean), [])
abbrev bLexi_init : ByteArray := prog_3_method_1_code
def yLexi_init : MethodName := ⟨"PairedWords$Lexicon", "<init>", "()V"⟩
abbrev mLexi_init : MethodName × ByteArray × Nat × Option FieldType × List (Nat × Nat × Nat × Nat) := (yLexi_init, bLexi_init, 2, (Option.none : Option Jvm.ClassFile.FieldType), [])
abbrev bLexi_count : ByteArray := prog_3_method_2_code
def yLexi_count : MethodName := ⟨"PairedWords$Lexicon", "count", "()I"⟩
abbrev mLexi_count : MethodName × ByteArray × Nat × Option FieldType × List (Nat × Nat × Nat × Nat) := (yLexi_count, bLexi_count, 1, (Option.some Jvm.ClassFile.FieldType.int), [])
abbrev bLexi_signsOf : ByteArray := prog_3_method_3_code
def yLexi_signsOf : MethodName := ⟨"PairedWords$Lexicon", "signsOf", "(I)LPairedWords$Line;"⟩
abbrev mLexi_signsOf : MethodName × ByteArray × Nat × Option FieldType × List (Nat × Nat × Nat × Nat) := (yLexi_signsOf, bLexi_signsOf, 2, (Option.some (Jvm.ClassFile.FieldType.object "PairedWords$Line")), [])
abbrev bLexi_add : ByteArray := prog_3_method_4_code
def yLexi_add : MethodName := ⟨"PairedWords$Lexicon", "add", "(II)I"⟩
abbrev mLexi_add : MethodName × ByteArray × Nat × Option FieldType × List (Nat × Nat × Nat × Nat) := (yLexi_add, bLexi_add, 3, (Option.some Jvm.ClassFile.FieldType.int), [])
abbrev bLexi_goOn : ByteArray := prog_3_method_5_code
def yLexi_goOn : MethodName := ⟨"PairedWords$Lexicon", "goOn", "(IILPairedWords$Line;LPairedWords$Comparison;LPairedWords$Results;)V"⟩
abbrev mLexi_goOn : MethodName × ByteArray × Nat × Option FieldType × List (Nat × Nat × Nat × Nat) := (yLexi_goOn, bLexi_goOn, 7, (Option.none : Option Jvm.ClassFile.FieldType), [])
abbrev bLexi_put : ByteArray := prog_3_method_6_code
def yLexi_put : MethodName := ⟨"PairedWords$Lexicon", "put", "(IILPairedWords$Line;LPairedWords$Comparison;LPairedWords$Results;)V"⟩
abbrev mLexi_put : MethodName × ByteArray × Nat × Option FieldType × List (Nat × Nat × Nat × Nat) := (yLexi_put, bLexi_put, 7, (Option.none : Option Jvm.ClassFile.FieldType), [])
abbrev bLine_init : ByteArray := prog_4_method_1_code
def yLine_init : MethodName := ⟨"PairedWords$Line", "<init>", "(I)V"⟩
abbrev mLine_init : MethodName × ByteArray × Nat × Option FieldType × List (Nat × Nat × Nat × Nat) := (yLine_init, bLine_init, 2, (Option.none : Option Jvm.ClassFile.FieldType), [])
abbrev bLine_size : ByteArray := prog_4_method_2_code
def yLine_size : MethodName := ⟨"PairedWords$Line", "size", "()I"⟩
abbrev mLine_size : MethodName × ByteArray × Nat × Option FieldType × List (Nat × Nat × Nat × Nat) := (yLine_size, bLine_size, 1, (Option.some Jvm.ClassFile.FieldType.int), [])
abbrev bLine_isFull : ByteArray := prog_4_method_3_code
def yLine_isFull : MethodName := ⟨"PairedWords$Line", "isFull", "()Z"⟩
abbrev mLine_isFull : MethodName × ByteArray × Nat × Option FieldType × List (Nat × Nat × Nat × Nat) := (yLine_isFull, bLine_isFull, 1, (Option.some Jvm.ClassFile.FieldType.boolean), [])
abbrev bLine_hasRoomFor : ByteArray := prog_4_method_4_code
def yLine_hasRoomFor : MethodName := ⟨"PairedWords$Line", "hasRoomFor", "(LPairedWords$Line;)Z"⟩
abbrev mLine_hasRoomFor : MethodName × ByteArray × Nat × Option FieldType × List (Nat × Nat × Nat × Nat) := (yLine_hasRoomFor, bLine_hasRoomFor, 2, (Option.some Jvm.ClassFile.FieldType.boolean), [])
abbrev bLine_signAt : ByteArray := prog_4_method_5_code
def yLine_signAt : MethodName := ⟨"PairedWords$Line", "signAt", "(I)I"⟩
abbrev mLine_signAt : MethodName × ByteArray × Nat × Option FieldType × List (Nat × Nat × Nat × Nat) := (yLine_signAt, bLine_signAt, 2, (Option.some Jvm.ClassFile.FieldType.int), [])
abbrev bLine_add : ByteArray := prog_4_method_6_code
def yLine_add : MethodName := ⟨"PairedWords$Line", "add", "(I)I"⟩
abbrev mLine_add : MethodName × ByteArray × Nat × Option FieldType × List (Nat × Nat × Nat × Nat) := (yLine_add, bLine_add, 2, (Option.some Jvm.ClassFile.FieldType.int), [])
abbrev bLine_addAll : ByteArray := prog_4_method_7_code
def yLine_addAll : MethodName := ⟨"PairedWords$Line", "addAll", "(LPairedWords$Line;)V"⟩
abbrev mLine_addAll : MethodName × ByteArray × Nat × Option FieldType × List (Nat × Nat × Nat × Nat) := (yLine_addAll, bLine_addAll, 3, (Option.none : Option Jvm.ClassFile.FieldType), [])
abbrev bLine_cutTo : ByteArray := prog_4_method_8_code
def yLine_cutTo : MethodName := ⟨"PairedWords$Line", "cutTo", "(I)V"⟩
abbrev mLine_cutTo : MethodName × ByteArray × Nat × Option FieldType × List (Nat × Nat × Nat × Nat) := (yLine_cutTo, bLine_cutTo, 2, (Option.none : Option Jvm.ClassFile.FieldType), [])
abbrev bLine_copy : ByteArray := prog_4_method_9_code
def yLine_copy : MethodName := ⟨"PairedWords$Line", "copy", "(LPairedWords$Line;)V"⟩
abbrev mLine_copy : MethodName × ByteArray × Nat × Option FieldType × List (Nat × Nat × Nat × Nat) := (yLine_copy, bLine_copy, 2, (Option.none : Option Jvm.ClassFile.FieldType), [])
abbrev bPairs_init : ByteArray := prog_5_method_1_code
def yPairs_init : MethodName := ⟨"PairedWords$Pairs", "<init>", "()V"⟩
abbrev mPairs_init : MethodName × ByteArray × Nat × Option FieldType × List (Nat × Nat × Nat × Nat) := (yPairs_init, bPairs_init, 1, (Option.none : Option Jvm.ClassFile.FieldType), [])
abbrev bPairs_count : ByteArray := prog_5_method_2_code
def yPairs_count : MethodName := ⟨"PairedWords$Pairs", "count", "()I"⟩
abbrev mPairs_count : MethodName × ByteArray × Nat × Option FieldType × List (Nat × Nat × Nat × Nat) := (yPairs_count, bPairs_count, 1, (Option.some Jvm.ClassFile.FieldType.int), [])
abbrev bPairs_lowerOf : ByteArray := prog_5_method_3_code
def yPairs_lowerOf : MethodName := ⟨"PairedWords$Pairs", "lowerOf", "(I)I"⟩
abbrev mPairs_lowerOf : MethodName × ByteArray × Nat × Option FieldType × List (Nat × Nat × Nat × Nat) := (yPairs_lowerOf, bPairs_lowerOf, 2, (Option.some Jvm.ClassFile.FieldType.int), [])
abbrev bPairs_upperOf : ByteArray := prog_5_method_4_code
def yPairs_upperOf : MethodName := ⟨"PairedWords$Pairs", "upperOf", "(I)I"⟩
abbrev mPairs_upperOf : MethodName × ByteArray × Nat × Option FieldType × List (Nat × Nat × Nat × Nat) := (yPairs_upperOf, bPairs_upperOf, 2, (Option.some Jvm.ClassFile.FieldType.int), [])
abbrev bPairs_has : ByteArray := prog_5_method_5_code
def yPairs_has : MethodName := ⟨"PairedWords$Pairs", "has", "(II)Z"⟩
abbrev mPairs_has : MethodName × ByteArray × Nat × Option FieldType × List (Nat × Nat × Nat × Nat) := (yPairs_has, bPairs_has, 4, (Option.some Jvm.ClassFile.FieldType.boolean), [])
abbrev bPairs_hasRoomFor : ByteArray := prog_5_method_6_code
def yPairs_hasRoomFor : MethodName := ⟨"PairedWords$Pairs", "hasRoomFor", "(I)Z"⟩
abbrev mPairs_hasRoomFor : MethodName × ByteArray × Nat × Option FieldType × List (Nat × Nat × Nat × Nat) := (yPairs_hasRoomFor, bPairs_hasRoomFor, 4, (Option.some Jvm.ClassFile.FieldType.boolean), [])
abbrev bPairs_add : ByteArray := prog_5_method_7_code
def yPairs_add : MethodName := ⟨"PairedWords$Pairs", "add", "(II)I"⟩
abbrev mPairs_add : MethodName × ByteArray × Nat × Option FieldType × List (Nat × Nat × Nat × Nat) := (yPairs_add, bPairs_add, 3, (Option.some Jvm.ClassFile.FieldType.int), [])
abbrev bPatt_init : ByteArray := prog_6_method_1_code
def yPatt_init : MethodName := ⟨"PairedWords$Patterns", "<init>", "(Z)V"⟩
abbrev mPatt_init : MethodName × ByteArray × Nat × Option FieldType × List (Nat × Nat × Nat × Nat) := (yPatt_init, bPatt_init, 2, (Option.none : Option Jvm.ClassFile.FieldType), [])
abbrev bPatt_goalOf : ByteArray := prog_6_method_2_code
def yPatt_goalOf : MethodName := ⟨"PairedWords$Patterns", "goalOf", "(I)I"⟩
abbrev mPatt_goalOf : MethodName × ByteArray × Nat × Option FieldType × List (Nat × Nat × Nat × Nat) := (yPatt_goalOf, bPatt_goalOf, 1, (Option.some Jvm.ClassFile.FieldType.int), [])
abbrev bPatt_open : ByteArray := prog_6_method_3_code
def yPatt_open : MethodName := ⟨"PairedWords$Patterns", "open", "(IZ)V"⟩
abbrev mPatt_open : MethodName × ByteArray × Nat × Option FieldType × List (Nat × Nat × Nat × Nat) := (yPatt_open, bPatt_open, 3, (Option.none : Option Jvm.ClassFile.FieldType), [])
abbrev bPatt_elementsOf : ByteArray := prog_6_method_4_code
def yPatt_elementsOf : MethodName := ⟨"PairedWords$Patterns", "elementsOf", "(I)I"⟩
abbrev mPatt_elementsOf : MethodName × ByteArray × Nat × Option FieldType × List (Nat × Nat × Nat × Nat) := (yPatt_elementsOf, bPatt_elementsOf, 2, (Option.some Jvm.ClassFile.FieldType.int), [])
abbrev bPatt_addElement : ByteArray := prog_6_method_5_code
def yPatt_addElement : MethodName := ⟨"PairedWords$Patterns", "addElement", "(IIZ)I"⟩
abbrev mPatt_addElement : MethodName × ByteArray × Nat × Option FieldType × List (Nat × Nat × Nat × Nat) := (yPatt_addElement, bPatt_addElement, 6, (Option.some Jvm.ClassFile.FieldType.int), [])
abbrev bPatt_lowerElements : ByteArray := prog_6_method_6_code
def yPatt_lowerElements : MethodName := ⟨"PairedWords$Patterns", "lowerElements", "(I)V"⟩
abbrev mPatt_lowerElements : MethodName × ByteArray × Nat × Option FieldType × List (Nat × Nat × Nat × Nat) := (yPatt_lowerElements, bPatt_lowerElements, 3, (Option.none : Option Jvm.ClassFile.FieldType), [])
abbrev bPatt_lowered : ByteArray := prog_6_method_7_code
def yPatt_lowered : MethodName := ⟨"PairedWords$Patterns", "lowered", "(II)I"⟩
abbrev mPatt_lowered : MethodName × ByteArray × Nat × Option FieldType × List (Nat × Nat × Nat × Nat) := (yPatt_lowered, bPatt_lowered, 3, (Option.some Jvm.ClassFile.FieldType.int), [])
abbrev bPatt_first : ByteArray := prog_6_method_8_code
def yPatt_first : MethodName := ⟨"PairedWords$Patterns", "first", "()I"⟩
abbrev mPatt_first : MethodName × ByteArray × Nat × Option FieldType × List (Nat × Nat × Nat × Nat) := (yPatt_first, bPatt_first, 1, (Option.some Jvm.ClassFile.FieldType.int), [])
abbrev bPatt_next : ByteArray := prog_6_method_9_code
def yPatt_next : MethodName := ⟨"PairedWords$Patterns", "next", "(II)I"⟩
abbrev mPatt_next : MethodName × ByteArray × Nat × Option FieldType × List (Nat × Nat × Nat × Nat) := (yPatt_next, bPatt_next, 5, (Option.some Jvm.ClassFile.FieldType.int), [])
abbrev bPatt_skipStarred : ByteArray := prog_6_method_10_code
def yPatt_skipStarred : MethodName := ⟨"PairedWords$Patterns", "skipStarred", "(I)I"⟩
abbrev mPatt_skipStarred : MethodName × ByteArray × Nat × Option FieldType × List (Nat × Nat × Nat × Nat) := (yPatt_skipStarred, bPatt_skipStarred, 4, (Option.some Jvm.ClassFile.FieldType.int), [])
abbrev bResu_init : ByteArray := prog_7_method_1_code
def yResu_init : MethodName := ⟨"PairedWords$Results", "<init>", "()V"⟩
abbrev mResu_init : MethodName × ByteArray × Nat × Option FieldType × List (Nat × Nat × Nat × Nat) := (yResu_init, bResu_init, 1, (Option.none : Option Jvm.ClassFile.FieldType), [])
abbrev bResu_count : ByteArray := prog_7_method_2_code
def yResu_count : MethodName := ⟨"PairedWords$Results", "count", "()I"⟩
abbrev mResu_count : MethodName × ByteArray × Nat × Option FieldType × List (Nat × Nat × Nat × Nat) := (yResu_count, bResu_count, 1, (Option.some Jvm.ClassFile.FieldType.int), [])
abbrev bResu_isTooMany : ByteArray := prog_7_method_3_code
def yResu_isTooMany : MethodName := ⟨"PairedWords$Results", "isTooMany", "()Z"⟩
abbrev mResu_isTooMany : MethodName × ByteArray × Nat × Option FieldType × List (Nat × Nat × Nat × Nat) := (yResu_isTooMany, bResu_isTooMany, 1, (Option.some Jvm.ClassFile.FieldType.boolean), [])
abbrev bResu_clear : ByteArray := prog_7_method_4_code
def yResu_clear : MethodName := ⟨"PairedWords$Results", "clear", "()V"⟩
abbrev mResu_clear : MethodName × ByteArray × Nat × Option FieldType × List (Nat × Nat × Nat × Nat) := (yResu_clear, bResu_clear, 1, (Option.none : Option Jvm.ClassFile.FieldType), [])
abbrev bResu_copy : ByteArray := prog_7_method_5_code
def yResu_copy : MethodName := ⟨"PairedWords$Results", "copy", "(LPairedWords$Results;)V"⟩
abbrev mResu_copy : MethodName × ByteArray × Nat × Option FieldType × List (Nat × Nat × Nat × Nat) := (yResu_copy, bResu_copy, 2, (Option.none : Option Jvm.ClassFile.FieldType), [])
abbrev bResu_add : ByteArray := prog_7_method_6_code
def yResu_add : MethodName := ⟨"PairedWords$Results", "add", "(J)V"⟩
abbrev mResu_add : MethodName × ByteArray × Nat × Option FieldType × List (Nat × Nat × Nat × Nat) := (yResu_add, bResu_add, 5, (Option.none : Option Jvm.ClassFile.FieldType), [])
abbrev bResu_keyOf : ByteArray := prog_7_method_7_code
def yResu_keyOf : MethodName := ⟨"PairedWords$Results", "keyOf", "(LPairedWords$Line;[II)J"⟩
abbrev mResu_keyOf : MethodName × ByteArray × Nat × Option FieldType × List (Nat × Nat × Nat × Nat) := (yResu_keyOf, bResu_keyOf, 6, (Option.some Jvm.ClassFile.FieldType.long), [])
abbrev bResu_signsOf : ByteArray := prog_7_method_8_code
def yResu_signsOf : MethodName := ⟨"PairedWords$Results", "signsOf", "(I)I"⟩
abbrev mResu_signsOf : MethodName × ByteArray × Nat × Option FieldType × List (Nat × Nat × Nat × Nat) := (yResu_signsOf, bResu_signsOf, 2, (Option.some Jvm.ClassFile.FieldType.int), [])
abbrev bResu_signOf : ByteArray := prog_7_method_9_code
def yResu_signOf : MethodName := ⟨"PairedWords$Results", "signOf", "(II)I"⟩
abbrev mResu_signOf : MethodName × ByteArray × Nat × Option FieldType × List (Nat × Nat × Nat × Nat) := (yResu_signOf, bResu_signOf, 3, (Option.some Jvm.ClassFile.FieldType.int), [])
abbrev bResu_entriesOf : ByteArray := prog_7_method_10_code
def yResu_entriesOf : MethodName := ⟨"PairedWords$Results", "entriesOf", "(I)I"⟩
abbrev mResu_entriesOf : MethodName × ByteArray × Nat × Option FieldType × List (Nat × Nat × Nat × Nat) := (yResu_entriesOf, bResu_entriesOf, 2, (Option.some Jvm.ClassFile.FieldType.int), [])
abbrev bResu_entryOf : ByteArray := prog_7_method_11_code
def yResu_entryOf : MethodName := ⟨"PairedWords$Results", "entryOf", "(II)I"⟩
abbrev mResu_entryOf : MethodName × ByteArray × Nat × Option FieldType × List (Nat × Nat × Nat × Nat) := (yResu_entryOf, bResu_entryOf, 3, (Option.some Jvm.ClassFile.FieldType.int), [])
abbrev bResu_digitOf : ByteArray := prog_7_method_12_code
def yResu_digitOf : MethodName := ⟨"PairedWords$Results", "digitOf", "(II)I"⟩
abbrev mResu_digitOf : MethodName × ByteArray × Nat × Option FieldType × List (Nat × Nat × Nat × Nat) := (yResu_digitOf, bResu_digitOf, 5, (Option.some Jvm.ClassFile.FieldType.int), [])
abbrev bRule_init : ByteArray := prog_8_method_1_code
def yRule_init : MethodName := ⟨"PairedWords$Rules", "<init>", "()V"⟩
abbrev mRule_init : MethodName × ByteArray × Nat × Option FieldType × List (Nat × Nat × Nat × Nat) := (yRule_init, bRule_init, 1, (Option.none : Option Jvm.ClassFile.FieldType), [])
abbrev bRule_count : ByteArray := prog_8_method_2_code
def yRule_count : MethodName := ⟨"PairedWords$Rules", "count", "()I"⟩
abbrev mRule_count : MethodName × ByteArray × Nat × Option FieldType × List (Nat × Nat × Nat × Nat) := (yRule_count, bRule_count, 1, (Option.some Jvm.ClassFile.FieldType.int), [])
abbrev bRule_add : ByteArray := prog_8_method_3_code
def yRule_add : MethodName := ⟨"PairedWords$Rules", "add", "(II)I"⟩
abbrev mRule_add : MethodName × ByteArray × Nat × Option FieldType × List (Nat × Nat × Nat × Nat) := (yRule_add, bRule_add, 3, (Option.some Jvm.ClassFile.FieldType.int), [])
abbrev bRule_contextsOf : ByteArray := prog_8_method_4_code
def yRule_contextsOf : MethodName := ⟨"PairedWords$Rules", "contextsOf", "(I)I"⟩
abbrev mRule_contextsOf : MethodName × ByteArray × Nat × Option FieldType × List (Nat × Nat × Nat × Nat) := (yRule_contextsOf, bRule_contextsOf, 2, (Option.some Jvm.ClassFile.FieldType.int), [])
abbrev bRule_latestContextOf : ByteArray := prog_8_method_5_code
def yRule_latestContextOf : MethodName := ⟨"PairedWords$Rules", "latestContextOf", "(I)I"⟩
abbrev mRule_latestContextOf : MethodName × ByteArray × Nat × Option FieldType × List (Nat × Nat × Nat × Nat) := (yRule_latestContextOf, bRule_latestContextOf, 2, (Option.some Jvm.ClassFile.FieldType.int), [])
abbrev bRule_addContext : ByteArray := prog_8_method_6_code
def yRule_addContext : MethodName := ⟨"PairedWords$Rules", "addContext", "(IZZ)I"⟩
abbrev mRule_addContext : MethodName × ByteArray × Nat × Option FieldType × List (Nat × Nat × Nat × Nat) := (yRule_addContext, bRule_addContext, 5, (Option.some Jvm.ClassFile.FieldType.int), [])
abbrev bRule_settle : ByteArray := prog_8_method_7_code
def yRule_settle : MethodName := ⟨"PairedWords$Rules", "settle", "(LPairedWords$Pairs;)V"⟩
abbrev mRule_settle : MethodName × ByteArray × Nat × Option FieldType × List (Nat × Nat × Nat × Nat) := (yRule_settle, bRule_settle, 6, (Option.none : Option Jvm.ClassFile.FieldType), [])
abbrev bRule_asks : ByteArray := prog_8_method_8_code
def yRule_asks : MethodName := ⟨"PairedWords$Rules", "asks", "(IZ)Z"⟩
abbrev mRule_asks : MethodName × ByteArray × Nat × Option FieldType × List (Nat × Nat × Nat × Nat) := (yRule_asks, bRule_asks, 2, (Option.some Jvm.ClassFile.FieldType.boolean), [])
abbrev bRule_bars : ByteArray := prog_8_method_9_code
def yRule_bars : MethodName := ⟨"PairedWords$Rules", "bars", "(IZZ)Z"⟩
abbrev mRule_bars : MethodName × ByteArray × Nat × Option FieldType × List (Nat × Nat × Nat × Nat) := (yRule_bars, bRule_bars, 3, (Option.some Jvm.ClassFile.FieldType.boolean), [])
abbrev bRule_brokenBy : ByteArray := prog_8_method_10_code
def yRule_brokenBy : MethodName := ⟨"PairedWords$Rules", "brokenBy", "(III)I"⟩
abbrev mRule_brokenBy : MethodName × ByteArray × Nat × Option FieldType × List (Nat × Nat × Nat × Nat) := (yRule_brokenBy, bRule_brokenBy, 7, (Option.some Jvm.ClassFile.FieldType.int), [])
abbrev bSamp_init : ByteArray := prog_9_method_1_code
def ySamp_init : MethodName := ⟨"PairedWords$Samples", "<init>", "()V"⟩
abbrev mSamp_init : MethodName × ByteArray × Nat × Option FieldType × List (Nat × Nat × Nat × Nat) := (ySamp_init, bSamp_init, 2, (Option.none : Option Jvm.ClassFile.FieldType), [])
abbrev bSamp_count : ByteArray := prog_9_method_2_code
def ySamp_count : MethodName := ⟨"PairedWords$Samples", "count", "()I"⟩
abbrev mSamp_count : MethodName × ByteArray × Nat × Option FieldType × List (Nat × Nat × Nat × Nat) := (ySamp_count, bSamp_count, 1, (Option.some Jvm.ClassFile.FieldType.int), [])
abbrev bSamp_lowerOf : ByteArray := prog_9_method_3_code
def ySamp_lowerOf : MethodName := ⟨"PairedWords$Samples", "lowerOf", "(I)LPairedWords$Line;"⟩
abbrev mSamp_lowerOf : MethodName × ByteArray × Nat × Option FieldType × List (Nat × Nat × Nat × Nat) := (ySamp_lowerOf, bSamp_lowerOf, 2, (Option.some (Jvm.ClassFile.FieldType.object "PairedWords$Line")), [])
abbrev bSamp_upperOf : ByteArray := prog_9_method_4_code
def ySamp_upperOf : MethodName := ⟨"PairedWords$Samples", "upperOf", "(I)LPairedWords$Line;"⟩
abbrev mSamp_upperOf : MethodName × ByteArray × Nat × Option FieldType × List (Nat × Nat × Nat × Nat) := (ySamp_upperOf, bSamp_upperOf, 2, (Option.some (Jvm.ClassFile.FieldType.object "PairedWords$Line")), [])
abbrev bSamp_add : ByteArray := prog_9_method_5_code
def ySamp_add : MethodName := ⟨"PairedWords$Samples", "add", "(LPairedWords$Line;LPairedWords$Line;)I"⟩
abbrev mSamp_add : MethodName × ByteArray × Nat × Option FieldType × List (Nat × Nat × Nat × Nat) := (ySamp_add, bSamp_add, 3, (Option.some Jvm.ClassFile.FieldType.int), [])
abbrev bSear_init : ByteArray := prog_10_method_1_code
def ySear_init : MethodName := ⟨"PairedWords$Search", "<init>", "(LPairedWords$Pairs;LPairedWords$Rules;)V"⟩
abbrev mSear_init : MethodName × ByteArray × Nat × Option FieldType × List (Nat × Nat × Nat × Nat) := (ySear_init, bSear_init, 3, (Option.none : Option Jvm.ClassFile.FieldType), [])
abbrev bSear_goThrough : ByteArray := prog_10_method_6_code
def ySear_goThrough : MethodName := ⟨"PairedWords$Search", "goThrough", "(LPairedWords$Line;)V"⟩
abbrev mSear_goThrough : MethodName × ByteArray × Nat × Option FieldType × List (Nat × Nat × Nat × Nat) := (ySear_goThrough, bSear_goThrough, 2, (Option.none : Option Jvm.ClassFile.FieldType), [])
abbrev bSear_upperAt : ByteArray := prog_10_method_7_code
def ySear_upperAt : MethodName := ⟨"PairedWords$Search", "upperAt", "(I)I"⟩
abbrev mSear_upperAt : MethodName × ByteArray × Nat × Option FieldType × List (Nat × Nat × Nat × Nat) := (ySear_upperAt, bSear_upperAt, 2, (Option.some Jvm.ClassFile.FieldType.int), [])
abbrev bSear_extend : ByteArray := prog_10_method_8_code
def ySear_extend : MethodName := ⟨"PairedWords$Search", "extend", "(III)V"⟩
abbrev mSear_extend : MethodName × ByteArray × Nat × Option FieldType × List (Nat × Nat × Nat × Nat) := (ySear_extend, bSear_extend, 5, (Option.none : Option Jvm.ClassFile.FieldType), [])
abbrev bSear_put : ByteArray := prog_10_method_9_code
def ySear_put : MethodName := ⟨"PairedWords$Search", "put", "(IIII)V"⟩
abbrev mSear_put : MethodName × ByteArray × Nat × Option FieldType × List (Nat × Nat × Nat × Nat) := (ySear_put, bSear_put, 7, (Option.none : Option Jvm.ClassFile.FieldType), [])
abbrev bSear_fitsLower : ByteArray := prog_10_method_10_code
def ySear_fitsLower : MethodName := ⟨"PairedWords$Search", "fitsLower", "(III)Z"⟩
abbrev mSear_fitsLower : MethodName × ByteArray × Nat × Option FieldType × List (Nat × Nat × Nat × Nat) := (ySear_fitsLower, bSear_fitsLower, 5, (Option.some Jvm.ClassFile.FieldType.boolean), [])
abbrev bSear_fitsUpper : ByteArray := prog_10_method_11_code
def ySear_fitsUpper : MethodName := ⟨"PairedWords$Search", "fitsUpper", "(II)Z"⟩
abbrev mSear_fitsUpper : MethodName × ByteArray × Nat × Option FieldType × List (Nat × Nat × Nat × Nat) := (ySear_fitsUpper, bSear_fitsUpper, 4, (Option.some Jvm.ClassFile.FieldType.boolean), [])
abbrev bSear_brokenRules : ByteArray := prog_10_method_12_code
def ySear_brokenRules : MethodName := ⟨"PairedWords$Search", "brokenRules", "(I)I"⟩
abbrev mSear_brokenRules : MethodName × ByteArray × Nat × Option FieldType × List (Nat × Nat × Nat × Nat) := (ySear_brokenRules, bSear_brokenRules, 5, (Option.some Jvm.ClassFile.FieldType.int), [])
abbrev bWrit_init : ByteArray := prog_11_method_1_code
def yWrit_init : MethodName := ⟨"PairedWords$Writing", "<init>", "(LPairedWords$Pairs;LPairedWords$Rules;LPairedWords$Results;)V"⟩
abbrev mWrit_init : MethodName × ByteArray × Nat × Option FieldType × List (Nat × Nat × Nat × Nat) := (yWrit_init, bWrit_init, 4, (Option.none : Option Jvm.ClassFile.FieldType), [])
abbrev bWrit_takesUpper : ByteArray := prog_11_method_2_code
def yWrit_takesUpper : MethodName := ⟨"PairedWords$Writing", "takesUpper", "(II)Z"⟩
abbrev mWrit_takesUpper : MethodName × ByteArray × Nat × Option FieldType × List (Nat × Nat × Nat × Nat) := (yWrit_takesUpper, bWrit_takesUpper, 3, (Option.some Jvm.ClassFile.FieldType.boolean), [])
abbrev bWrit_mayEnd : ByteArray := prog_11_method_3_code
def yWrit_mayEnd : MethodName := ⟨"PairedWords$Writing", "mayEnd", "(I)Z"⟩
abbrev mWrit_mayEnd : MethodName × ByteArray × Nat × Option FieldType × List (Nat × Nat × Nat × Nat) := (yWrit_mayEnd, bWrit_mayEnd, 2, (Option.some Jvm.ClassFile.FieldType.boolean), [])
abbrev bWrit_meet : ByteArray := prog_11_method_4_code
def yWrit_meet : MethodName := ⟨"PairedWords$Writing", "meet", "(II)V"⟩
abbrev mWrit_meet : MethodName × ByteArray × Nat × Option FieldType × List (Nat × Nat × Nat × Nat) := (yWrit_meet, bWrit_meet, 4, (Option.none : Option Jvm.ClassFile.FieldType), [])
abbrev bWrit_isDone : ByteArray := prog_11_method_5_code
def yWrit_isDone : MethodName := ⟨"PairedWords$Writing", "isDone", "()Z"⟩
abbrev mWrit_isDone : MethodName × ByteArray × Nat × Option FieldType × List (Nat × Nat × Nat × Nat) := (yWrit_isDone, bWrit_isDone, 1, (Option.some Jvm.ClassFile.FieldType.boolean), [])
abbrev bLaw_pair : ByteArray := method_3_code
def yLaw_pair : MethodName := ⟨"PairedWordsLaw", "pair", "(LPairedWords;II[J)I"⟩
abbrev mLaw_pair : MethodName × ByteArray × Nat × Option FieldType × List (Nat × Nat × Nat × Nat) := (yLaw_pair, bLaw_pair, 5, (Option.some Jvm.ClassFile.FieldType.int), [((0 : Nat), (10 : Nat), (13 : Nat), (13 : Nat)), ((0 : Nat), (10 : Nat), (17 : Nat), (15 : Nat))])
abbrev bLaw_rule : ByteArray := method_4_code
def yLaw_rule : MethodName := ⟨"PairedWordsLaw", "rule", "(LPairedWords;II[J)I"⟩
abbrev mLaw_rule : MethodName × ByteArray × Nat × Option FieldType × List (Nat × Nat × Nat × Nat) := (yLaw_rule, bLaw_rule, 5, (Option.some Jvm.ClassFile.FieldType.int), [((0 : Nat), (10 : Nat), (13 : Nat), (13 : Nat)), ((0 : Nat), (10 : Nat), (17 : Nat), (15 : Nat))])
abbrev bLaw_context : ByteArray := method_5_code
def yLaw_context : MethodName := ⟨"PairedWordsLaw", "context", "(LPairedWords;IZZ[J)I"⟩
abbrev mLaw_context : MethodName × ByteArray × Nat × Option FieldType × List (Nat × Nat × Nat × Nat) := (yLaw_context, bLaw_context, 6, (Option.some Jvm.ClassFile.FieldType.int), [((0 : Nat), (12 : Nat), (15 : Nat), (13 : Nat)), ((0 : Nat), (12 : Nat), (19 : Nat), (15 : Nat))])
abbrev bLaw_element : ByteArray := method_6_code
def yLaw_element : MethodName := ⟨"PairedWordsLaw", "element", "(LPairedWords;IZIZ[J)I"⟩
abbrev mLaw_element : MethodName × ByteArray × Nat × Option FieldType × List (Nat × Nat × Nat × Nat) := (yLaw_element, bLaw_element, 7, (Option.some Jvm.ClassFile.FieldType.int), [((0 : Nat), (14 : Nat), (17 : Nat), (13 : Nat)), ((0 : Nat), (14 : Nat), (21 : Nat), (15 : Nat))])
abbrev bLaw_entry : ByteArray := method_7_code
def yLaw_entry : MethodName := ⟨"PairedWordsLaw", "entry", "(LPairedWords;II[J)I"⟩
abbrev mLaw_entry : MethodName × ByteArray × Nat × Option FieldType × List (Nat × Nat × Nat × Nat) := (yLaw_entry, bLaw_entry, 5, (Option.some Jvm.ClassFile.FieldType.int), [((0 : Nat), (10 : Nat), (13 : Nat), (13 : Nat)), ((0 : Nat), (10 : Nat), (17 : Nat), (15 : Nat))])
abbrev bLaw_spell : ByteArray := method_8_code
def yLaw_spell : MethodName := ⟨"PairedWordsLaw", "spell", "(LPairedWords;II[J)I"⟩
abbrev mLaw_spell : MethodName × ByteArray × Nat × Option FieldType × List (Nat × Nat × Nat × Nat) := (yLaw_spell, bLaw_spell, 5, (Option.some Jvm.ClassFile.FieldType.int), [((0 : Nat), (10 : Nat), (13 : Nat), (13 : Nat)), ((0 : Nat), (10 : Nat), (17 : Nat), (15 : Nat))])
abbrev bLaw_type : ByteArray := method_9_code
def yLaw_type : MethodName := ⟨"PairedWordsLaw", "type", "(LPairedWords;ZI[J)I"⟩
abbrev mLaw_type : MethodName × ByteArray × Nat × Option FieldType × List (Nat × Nat × Nat × Nat) := (yLaw_type, bLaw_type, 5, (Option.some Jvm.ClassFile.FieldType.int), [((0 : Nat), (10 : Nat), (13 : Nat), (13 : Nat)), ((0 : Nat), (10 : Nat), (17 : Nat), (15 : Nat))])
abbrev bLaw_write : ByteArray := method_10_code
def yLaw_write : MethodName := ⟨"PairedWordsLaw", "write", "(LPairedWords;[J)I"⟩
abbrev mLaw_write : MethodName × ByteArray × Nat × Option FieldType × List (Nat × Nat × Nat × Nat) := (yLaw_write, bLaw_write, 3, (Option.some Jvm.ClassFile.FieldType.int), [((0 : Nat), (8 : Nat), (11 : Nat), (15 : Nat))])
abbrev bLaw_analyse : ByteArray := method_11_code
def yLaw_analyse : MethodName := ⟨"PairedWordsLaw", "analyse", "(LPairedWords;[J)I"⟩
abbrev mLaw_analyse : MethodName × ByteArray × Nat × Option FieldType × List (Nat × Nat × Nat × Nat) := (yLaw_analyse, bLaw_analyse, 3, (Option.some Jvm.ClassFile.FieldType.int), [((0 : Nat), (8 : Nat), (11 : Nat), (15 : Nat))])
abbrev bLaw_length : ByteArray := method_12_code
def yLaw_length : MethodName := ⟨"PairedWordsLaw", "length", "(LPairedWords;IZ[J)I"⟩
abbrev mLaw_length : MethodName × ByteArray × Nat × Option FieldType × List (Nat × Nat × Nat × Nat) := (yLaw_length, bLaw_length, 5, (Option.some Jvm.ClassFile.FieldType.int), [((0 : Nat), (10 : Nat), (13 : Nat), (49 : Nat))])
abbrev bLaw_result : ByteArray := method_13_code
def yLaw_result : MethodName := ⟨"PairedWordsLaw", "result", "(LPairedWords;IIZ[J)I"⟩
abbrev mLaw_result : MethodName × ByteArray × Nat × Option FieldType × List (Nat × Nat × Nat × Nat) := (yLaw_result, bLaw_result, 6, (Option.some Jvm.ClassFile.FieldType.int), [((0 : Nat), (12 : Nat), (15 : Nat), (49 : Nat))])
abbrev bLaw_sample : ByteArray := method_14_code
def yLaw_sample : MethodName := ⟨"PairedWordsLaw", "sample", "(LPairedWords;[J)I"⟩
abbrev mLaw_sample : MethodName × ByteArray × Nat × Option FieldType × List (Nat × Nat × Nat × Nat) := (yLaw_sample, bLaw_sample, 3, (Option.some Jvm.ClassFile.FieldType.int), [((0 : Nat), (8 : Nat), (11 : Nat), (15 : Nat))])
abbrev bLaw_law : ByteArray := code
def yLaw_law : MethodName := ⟨"PairedWordsLaw", "law", "([I)Z"⟩
abbrev mLaw_law : MethodName × ByteArray × Nat × Option FieldType × List (Nat × Nat × Nat × Nat) := (yLaw_law, bLaw_law, 7, (Option.some Jvm.ClassFile.FieldType.boolean), [])
end
section
/-! The abstract configuration: a heap as a function from addresses to cells, locals as a list, and the judgement Ex (the machine, standing at this configuration, comes to an end that Q allows). -/
abbrev xG : Type := va_G × (Nat → ClassId) × (Nat → Option (Nat × (Nat → Int32)))
abbrev xE : Type := (Nat × vp_A) ⊕ (Nat × List Value)
abbrev xH : Type := Nat × (Nat → Option xE)
abbrev xO : Type := Option Value ⊕ String
abbrev xMt : Type := MethodName × ByteArray × Nat × Option FieldType × List (Nat × Nat × Nat × Nat)
abbrev xCt : Type := Launch × xG × Nat × Nat × Nat × xH × (xO → xH → Prop)
def xv (G : xG) (e : xE) : va_E := match e with
  | .inl a => .inl (G.2.1 a.1, a.2)
  | .inr o => .inr o
/-- the addresses that a method that begins with h may write: its cells, and what is made from here on -/
def xA (h : xH) (q : Nat) : Prop := (h.2 q).isSome = true ∨ h.1 ≤ q
def xRep (G : xG) (h : xH) (H : Heap) : Prop := H.size = h.1 ∧ ∀ (a : Nat) (e : xE), h.2 a = some e → va_at G.1 xcl (a, xv G e) H
def xup (h : xH) (a : Nat) (e : xE) : xH := (h.1, fun q => if q = a then some e else h.2 q)
def xnew (h : xH) (e : xE) : xH := (h.1 + 1, fun q => if q = h.1 then some e else h.2 q)
def xbump (h : xH) : xH := (h.1 + 1, h.2)
theorem xup_1 (h : xH) (a : Nat) (e : xE) : (xup h a e).1 = h.1 := rfl
theorem xup_self (h : xH) (a : Nat) (e : xE) : (xup h a e).2 a = some e := by simp [xup]
theorem xup_ne (h : xH) {a b : Nat} (e : xE) (hb : b ≠ a) : (xup h a e).2 b = h.2 b := by simp [xup, hb]
theorem xup_up (h : xH) (a : Nat) (e e' : xE) : xup (xup h a e) a e' = xup h a e' := by
  simp only [xup]
  congr 1
  funext q
  by_cases hq : q = a <;> simp [hq]
theorem xup_comm (h : xH) {a b : Nat} (e e' : xE) (hab : a ≠ b) : xup (xup h a e) b e' = xup (xup h b e') a e := by
  simp only [xup]
  congr 1
  funext q
  by_cases hq : q = a
  · subst hq; simp [hab]
  · by_cases hq2 : q = b
    · subst hq2; simp [hq]
    · simp [hq, hq2]
theorem xup_same {h : xH} {a : Nat} {e : xE} (hh : h.2 a = some e) : xup h a e = h := by
  obtain ⟨z, f⟩ := h
  simp only [xup]
  congr 1
  funext q
  by_cases hq : q = a
  · subst hq; simp only [if_true]; exact hh.symm
  · simp [hq]
/-- since the method began (heap H0, cells h0): what isn't its own is as it was; what was written is its own; its cells now are its own -/
def xS (h0 : xH) (H0 : Heap) (h : xH) (H : Heap) (locs : List Loc) : Prop :=
  H0.size ≤ H.size ∧ (∀ q : Nat, q < H0.size → ¬ xA h0 q → H[q]? = H0[q]?) ∧ (∀ x ∈ locs, xA h0 x.base) ∧ ∀ q : Nat, xA h q → xA h0 q
theorem xS.va {h0 h : xH} {H0 H : Heap} {locs : List Loc} (hS : xS h0 H0 h H locs) : va_S (xA h0) H0 H locs := ⟨hS.1, hS.2.1, hS.2.2.1⟩
/-- locals -/
def xL (ls : Array Slot) (nL : Nat) (L : List (Option Value)) : Prop := ls.size = nL ∧ lv_wf ls ∧ ∀ (i : Nat) (v : Value), L[i]? = some (some v) → ls[i]? = some (.val v)
def xcut (a : Option Value) : Option Value := match a with
  | some (.long _) => none
  | some (.double _) => none
  | x => x
def xset1 : List (Option Value) → Nat → Value → List (Option Value)
  | [], _, _ => []
  | _ :: t, 0, v => some v :: t
  | a :: t, 1, v => xcut a :: xset1 t 0 v
  | a :: t, i + 2, v => a :: xset1 t (i + 1) v
def xset2 : List (Option Value) → Nat → Value → List (Option Value)
  | [], _, _ => []
  | [_], 0, v => [some v]
  | _ :: _ :: t, 0, v => some v :: none :: t
  | a :: t, 1, v => xcut a :: xset2 t 0 v
  | a :: t, i + 2, v => a :: xset2 t (i + 1) v
def xprs (L : List (Option Value)) : List (Nat × Value) := L.zipIdx.filterMap (fun q => q.1.map (fun v => (q.2, v)))
theorem xprs_mem {L : List (Option Value)} {q : Nat × Value} : q ∈ xprs L ↔ L[q.1]? = some (some q.2) := by
  unfold xprs
  rw [List.mem_filterMap]
  constructor
  · rintro ⟨⟨a, i⟩, h1, h2⟩
    rw [List.mem_zipIdx_iff_getElem?] at h1
    cases a with
    | none => simp at h2
    | some w =>
      simp at h2
      subst h2
      exact h1
  · intro h
    exact ⟨(some q.2, q.1), List.mem_zipIdx_iff_getElem?.mpr h, by simp⟩
theorem xL_has {ls : Array Slot} {nL : Nat} {L : List (Option Value)} (h : xL ls nL L) : lv_has ls nL (xprs L) := ⟨h.1, h.2.1, fun q hq => h.2.2 q.1 q.2 (xprs_mem.mp hq)⟩
theorem xL_ix {L : List (Option Value)} {i : Nat} {v : Value} (h : L[i]? = some (some v)) : ∃ j : Nat, (xprs L)[j]? = some (i, v) := List.mem_iff_getElem?.mp (xprs_mem (q := (i, v)).mpr h)
theorem xcut_some {a : Option Value} {w : Value} (h : xcut a = some w) : a = some w ∧ ¬ w.category = 2 := by
  cases a with
  | none => simp [xcut] at h
  | some v => cases v <;> simp [xcut] at h <;> subst h <;> simp [Value.category]
theorem xset1_get : ∀ (L : List (Option Value)) (i : Nat) (v : Value) (j : Nat) (w : Value), (xset1 L i v)[j]? = some (some w) → (j = i ∧ w = v) ∨ (j ≠ i ∧ L[j]? = some (some w) ∧ ¬ (j + 1 = i ∧ w.category = 2))
  | [], i, v, j, w, h => by simp [xset1] at h
  | a :: t, 0, v, 0, w, h => by simp [xset1] at h; exact Or.inl ⟨rfl, h.symm⟩
  | a :: t, 0, v, j + 1, w, h => by simp [xset1] at h; exact Or.inr ⟨by omega, by simpa using h, by omega⟩
  | a :: t, 1, v, 0, w, h => by
    simp [xset1] at h
    obtain ⟨h1, h2⟩ := xcut_some h
    exact Or.inr ⟨by omega, by simp [h1], fun q => h2 q.2⟩
  | a :: t, 1, v, j + 1, w, h => by
    simp [xset1] at h
    rcases xset1_get t 0 v j w h with ⟨h1, h2⟩ | ⟨h1, h2, h3⟩
    · exact Or.inl ⟨by omega, h2⟩
    · exact Or.inr ⟨by omega, by simpa using h2, by omega⟩
  | a :: t, i + 2, v, 0, w, h => by simp [xset1] at h; exact Or.inr ⟨by omega, by simp [h], by omega⟩
  | a :: t, i + 2, v, j + 1, w, h => by
    simp [xset1] at h
    rcases xset1_get t (i + 1) v j w h with ⟨h1, h2⟩ | ⟨h1, h2, h3⟩
    · exact Or.inl ⟨by omega, h2⟩
    · exact Or.inr ⟨by omega, by simpa using h2, fun q => h3 ⟨by omega, q.2⟩⟩
theorem xset2_get : ∀ (L : List (Option Value)) (i : Nat) (v : Value) (j : Nat) (w : Value), (xset2 L i v)[j]? = some (some w) → (j = i ∧ w = v) ∨ (j ≠ i ∧ j ≠ i + 1 ∧ L[j]? = some (some w) ∧ ¬ (j + 1 = i ∧ w.category = 2))
  | [], i, v, j, w, h => by simp [xset2] at h
  | [a], 0, v, 0, w, h => by simp [xset2] at h; exact Or.inl ⟨rfl, h.symm⟩
  | [a], 0, v, j + 1, w, h => by simp [xset2] at h
  | a :: b :: t, 0, v, 0, w, h => by simp [xset2] at h; exact Or.inl ⟨rfl, h.symm⟩
  | a :: b :: t, 0, v, 1, w, h => by simp [xset2] at h
  | a :: b :: t, 0, v, j + 2, w, h => by simp [xset2] at h; exact Or.inr ⟨by omega, by omega, by simpa using h, by omega⟩
  | a :: t, 1, v, 0, w, h => by
    simp [xset2] at h
    obtain ⟨h1, h2⟩ := xcut_some h
    exact Or.inr ⟨by omega, by omega, by simp [h1], fun q => h2 q.2⟩
  | a :: t, 1, v, j + 1, w, h => by
    simp [xset2] at h
    rcases xset2_get t 0 v j w h with ⟨h1, h2⟩ | ⟨h1, h2, h3, h4⟩
    · exact Or.inl ⟨by omega, h2⟩
    · exact Or.inr ⟨by omega, by omega, by simpa using h3, by omega⟩
  | a :: t, i + 2, v, 0, w, h => by simp [xset2] at h; exact Or.inr ⟨by omega, by omega, by simp [h], by omega⟩
  | a :: t, i + 2, v, j + 1, w, h => by
    simp [xset2] at h
    rcases xset2_get t (i + 1) v j w h with ⟨h1, h2⟩ | ⟨h1, h2, h3, h4⟩
    · exact Or.inl ⟨by omega, h2⟩
    · exact Or.inr ⟨by omega, by omega, by simpa using h3, fun q => h4 ⟨by omega, q.2⟩⟩
theorem xL_of1 {ls : Array Slot} {nL i : Nat} {L : List (Option Value)} {v : Value} (h : lv_has ls nL ((i, v) :: (xprs L).filter (fun q => !(q.1 == i) && !(q.1 + 1 == i && q.2.category == 2)))) : xL ls nL (xset1 L i v) := by
  refine ⟨h.1, h.2.1, fun j w hw => ?_⟩
  rcases xset1_get L i v j w hw with ⟨rfl, rfl⟩ | ⟨h1, h2, h3⟩
  · exact h.2.2 (j, w) List.mem_cons_self
  · refine h.2.2 (j, w) (List.mem_cons_of_mem _ (List.mem_filter.mpr ⟨xprs_mem.mpr h2, ?_⟩))
    simp [h1]
    by_cases h4 : j + 1 = i
    · exact Or.inr fun h5 => h3 ⟨h4, h5⟩
    · exact Or.inl h4
theorem xL_of2 {ls : Array Slot} {nL i : Nat} {L : List (Option Value)} {v : Value} (h : lv_has ls nL ((i, v) :: (xprs L).filter (fun q => !(q.1 == i) && (!(q.1 == i + 1) && !(q.1 + 1 == i && q.2.category == 2))))) : xL ls nL (xset2 L i v) := by
  refine ⟨h.1, h.2.1, fun j w hw => ?_⟩
  rcases xset2_get L i v j w hw with ⟨rfl, rfl⟩ | ⟨h1, h2, h3, h4⟩
  · exact h.2.2 (j, w) List.mem_cons_self
  · refine h.2.2 (j, w) (List.mem_cons_of_mem _ (List.mem_filter.mpr ⟨xprs_mem.mpr h3, ?_⟩))
    simp [h1, h2]
    by_cases h5 : j + 1 = i
    · exact Or.inr fun h6 => h4 ⟨h5, h6⟩
    · exact Or.inl h5
end
section
/-! What the method's surroundings are: the tables' words, arrays' classes, statics and strings. -/
theorem xwk_at {args a' : Array Value} {s U : State} {w : Cond} (hW : s.WarmedH U.vm) (hk : xwk w = true) (h : w.before args s = true) : w.before a' U = true := by
  have e : U.setVm U.vm = U := State.setVm_self U
  unfold xwk at hk
  simp only [Bool.or_eq_true, Bool.and_eq_true] at hk
  rcases hk with (⟨ho, h1 | h1⟩ | hg) | ha
  · have h2 := Cond.onTables_warmFace (args' := a') (T := U) hW ho h1 h
    rwa [e] at h2
  · have h2 := Cond.onTables_warmH (args' := a') (T := U) hW ho h1 h
    rwa [e] at h2
  · exact word_at hW (good_of_word hg) h
  · split at ha
    · exact va_AO.use (va_AO.moved hW.alike (va_AO.of h))
    · cases ha
theorem xTAB_k : ∀ w ∈ xTAB, xwk w = true := fun w hw => (List.mem_filter.mp hw).2
/-- arrays by their numbers: 0 int, 1 long, 2 Line, 3 boolean -/
def xtys (G : xG) : List (ClassId × FieldType) := [(G.2.1 0, .int), (G.2.1 1, .long), (G.2.1 2, .object "PairedWords$Line"), (G.2.1 3, .boolean)]
/-- a static field that nobody writes holds v -/
def xSt (C n d : String) (v : Value) (A : Nat → Prop) (U : State) (H : Heap) : Prop := ∃ (c : ClassId) (k : Class) (i : Nat) (f : Field) (a : Nat) (cell : Cell), U.vm.findClass C = some c ∧ U.fieldFound? C n d = some (c, k, i, f) ∧ f.isStatic = true ∧ k.init = .initialized ∧ k.statics = some a ∧ H[a]? = some cell ∧ cell.vm.isStatics = true ∧ cell.cls = c ∧ f.slot < cell.slots.size ∧ k.staticTypes[f.slot]? = some f.type ∧ cell.slots[f.slot]? = some v ∧ ¬ A a
theorem xSt.moved {C n d : String} {v : Value} {A : Nat → Prop} {u U : State} {H : Heap} (hvm : u.vm.Alike U.vm) (h : xSt C n d v A u H) : xSt C n d v A U H := by
  obtain ⟨c, k, i, f, a, cell, h1, h2, h3, h4, h5, h6, h7, h8, h9, h10, h11, h12⟩ := h
  obtain ⟨k', hi', he⟩ := State.fieldFound?_setVm hvm h2
  exact ⟨c, k', i, f, a, cell, by rw [hvm.findClass]; exact h1, hi', h3, by rw [he]; exact h4, by rw [he]; exact h5, h6, h7, h8, h9, by rw [he]; exact h10, h11, h12⟩
theorem xSt.kept {C n d : String} {v : Value} {A : Nat → Prop} {U : State} {H H1 : Heap} (h : xSt C n d v A U H) (hq : ∀ a : Nat, a < H.size → ¬ A a → H1[a]? = H[a]?) : xSt C n d v A U H1 := by
  obtain ⟨c, k, i, f, a, cell, h1, h2, h3, h4, h5, h6, h7⟩ := h
  exact ⟨c, k, i, f, a, cell, h1, h2, h3, h4, h5, by rw [hq a (Array.getElem?_eq_some_iff.mp h6).1 h7.2.2.2.2.2]; exact h6, h7⟩
theorem xSt.narrow {C n d : String} {v : Value} {A B : Nat → Prop} {U : State} {H : Heap} (h : xSt C n d v A U H) (hAB : ∀ q, B q → A q) : xSt C n d v B U H := by
  obtain ⟨c, k, i, f, a, cell, h1, h2, h3, h4, h5, h6, h7, h8, h9, h10, h11, h12⟩ := h
  exact ⟨c, k, i, f, a, cell, h1, h2, h3, h4, h5, h6, h7, h8, h9, h10, h11, fun z => h12 (hAB _ z)⟩
theorem xSt.lays {C n d : String} {v : Value} {A : Nat → Prop} {s : State} {args : Array Value} (h : xSt C n d v A s s.heap) : (Cond.laysStatic C n d).before args s = true := by
  obtain ⟨c, k, i, f, a, cell, h1, h2, h3, h4, h5, h6, h7, h8, h9, h10, -⟩ := h
  show (Cond.laysStatic C n d).holds args s none s [] = true
  exact Cond.laysStatic_of h1 h2 h3 h5 h6 h7 h8 h9 h10
theorem xSt.isRef {C n d : String} {v : Value} {A : Nat → Prop} {s : State} {args : Array Value} (h : xSt C n d v A s s.heap) (hv : v.isRef = true) : (Cond.isRef (.static C n d)).before args s = true := by
  obtain ⟨c, k, i, f, a, cell, h1, h2, h3, h4, h5, h6, h7, h8, h9, h10, h11, -⟩ := h
  have he : (Term.static C n d).eval args s none [] s = some v := by
    simp [Term.eval, State.fieldNamed?, h2, h3, h5, h6, h7, h11]
  simp only [Cond.before, Cond.holds, Cond.value, he]
  cases v <;> simp_all [Value.isRef]
theorem xSt.z {C n d : String} {v : Value} {A : Nat → Prop} {U : State} {H : Heap} (h : xSt C n d v A U H) : va_Z C n d v A U H := by
  obtain ⟨c, k, i, f, a, cell, h1, h2, h3, h4, h5, h6, h7, h8, h9, h10, h11, h12⟩ := h
  exact ⟨c, k, i, f, a, cell, h2, h3, h4, h5, h6, h7, h11, h12⟩
theorem xSt_of {args : Array Value} {s : State} {C n d : String} {v : Value} {A : Nat → Prop} (hl : (Cond.laysStatic C n d).before args s = true) (hini : (Cond.initialized C).before args s = true) (hv : (Term.static C n d).eval args s none [] s = some v) (hA : ∀ a : Nat, a < s.heap.size → ¬ A a) : xSt C n d v A s s.heap := by
  obtain ⟨c, k, i, f, a, cell, hc, hi, hst, ha, hcell, hs, hcls, hlt, hty⟩ := Cond.laysStatic_spec hl
  obtain ⟨hst', a', cell', ha', hcell', -, hslot⟩ := Term.static_spec hi hv
  cases ha.symm.trans ha'
  cases hcell.symm.trans hcell'
  exact ⟨c, k, i, f, a, cell, hc, hi, hst, Cond.initialized_spec hc (State.fieldFound?_spec hi).1 hini, ha, hcell, hs, hcls, hlt, hty, hslot, hA a (Array.getElem?_eq_some_iff.mp hcell).1⟩
def xZs (G : xG) (A : Nat → Prop) (U : State) (H : Heap) : Prop :=
  (∃ v : Value, v.isRef = true ∧ xSt Bundle.tN "UNASSIGNED_STACK" Bundle.steD v A U H) ∧ (∃ v : Value, v.isRef = true ∧ xSt Bundle.tN "SUPPRESSED_SENTINEL" Bundle.listD v A U H) ∧
    ∃ (a : Nat) (f : Nat → Int32), G.2.2 a = some (0, f) ∧ xSt "PairedWords$Writing" "NO_ENTRIES" "[I" (.ref a) A U H
theorem xZs_moved {G : xG} {A : Nat → Prop} {u U : State} {H : Heap} (hvm : u.vm.Alike U.vm) (h : xZs G A u H) : xZs G A U H := by
  obtain ⟨⟨v, h1, h2⟩, ⟨w, h3, h4⟩, a, f, h5, h6⟩ := h
  exact ⟨⟨v, h1, h2.moved hvm⟩, ⟨w, h3, h4.moved hvm⟩, a, f, h5, h6.moved hvm⟩
theorem xZs_kept {G : xG} {A : Nat → Prop} {U : State} {H H1 : Heap} (h : xZs G A U H) (hq : ∀ a : Nat, a < H.size → ¬ A a → H1[a]? = H[a]?) : xZs G A U H1 := by
  obtain ⟨⟨v, h1, h2⟩, ⟨w, h3, h4⟩, a, f, h5, h6⟩ := h
  exact ⟨⟨v, h1, h2.kept hq⟩, ⟨w, h3, h4.kept hq⟩, a, f, h5, h6.kept hq⟩
theorem xZs_narrow {G : xG} {A B : Nat → Prop} {U : State} {H : Heap} (h : xZs G A U H) (hAB : ∀ q, B q → A q) : xZs G B U H := by
  obtain ⟨⟨v, h1, h2⟩, ⟨w, h3, h4⟩, a, f, h5, h6⟩ := h
  exact ⟨⟨v, h1, h2.narrow hAB⟩, ⟨w, h3, h4.narrow hAB⟩, a, f, h5, h6.narrow hAB⟩
/-- the String constants of the exceptions -/
def xSTR : List (String × Nat × String) := [("PairedWords", 83, "no such sign"), ("PairedWords", 92, "both empty, or there already"), ("PairedWords", 99, "as many pairs as may be"), ("PairedWords", 117, "no such kind or pair"), ("PairedWords", 120, "as many rules as may be"), ("PairedWords", 123, "no such rule"), ("PairedWords", 129, "as many contexts as may be"), ("PairedWords", 135, "no such set of pairs"), ("PairedWords", 137, "no context"), ("PairedWords", 154, "as many elements as may be"), ("PairedWords", 163, "no such part"), ("PairedWords", 166, "as many entries as may be"), ("PairedWords", 172, "no such entry or sign"), ("PairedWords", 182, "as many signs as may be"), ("PairedWords", 186, "the line is full"), ("PairedWords", 208, "too many results"), ("PairedWords", 221, "no such result"), ("PairedWords", 229, "no such sign or entry"), ("PairedWords", 238, "as many samples as may be")]
/-- what of the start is about the tables alone but is no word of xTAB -/
def xT (U : State) : Prop := (∀ q ∈ xSTR, ∃ a : Nat, vk_R q.1 q.2.1 q.2.2 a U) ∧ va_Nc "java/lang/IllegalStateException" "java/lang/IllegalArgumentException" U
theorem xT_moved {s U : State} (hW : s.WarmedH U.vm) (h : xT s) : xT U := ⟨fun q hq => by
  obtain ⟨a, ha⟩ := h.1 q hq
  exact ⟨a, vk_R.warm hW ha⟩, va_Nc.moved hW.alike h.2⟩
end
section
/-! The judgement Ex and its rows that touch the heap. -/
def xK (G : xG) (U : State) : Prop := va_K G.1 xcl (xtys G) U ∧ (∀ w ∈ xTAB, w.before #[] U = true) ∧ xT U
/-- what lies outside the method's own cells and is only read -/
def xZ (G : xG) (h : xH) (U : State) (H : Heap) : Prop :=
  (∀ (a : Nat) (b : Nat × (Nat → Int32)), G.2.2 a = some b → va_X a b.1 b.2 U H ∧ ¬ xA h a) ∧ xZs G (xA h) U H
def xR (C : xCt) : Room := { frames := C.2.2.1 + 8, cells := C.2.2.2.1, slots := C.2.2.2.2.1, locals := 64 * C.2.2.1 + 200 }
def xC (C : xCt) (M : xMt) (p : Program) (_ : Env) (s : State) (m : MethodId) (args : Array Value) (_ : List Frame) (meth : Method) (c : Code) : Prop :=
  p.tables.exec = Jvm.exec ∧ c.code = M.2.1 ∧ c.maxLocals = M.2.2.1 ∧ s.vm.findClass M.1.cls = some m.cls ∧ meth.sig.returnType = M.2.2.2.1 ∧ meth.locks = false ∧ meth.name = M.1.name ∧ c.exceptionTable.toList.map (fun h => (h.startPc, h.endPc, h.handlerPc, h.catchType)) = M.2.2.2.2 ∧
  C.1.stackTraces = false ∧ va_K C.2.1.1 xcl (xtys C.2.1) s ∧ (∀ w ∈ xTAB, w.before args s = true) ∧ xRep C.2.1 C.2.2.2.2.2.1 s.heap ∧ xZ C.2.1 C.2.2.2.2.2.1 s s.heap ∧ xT s
def xOut (s : State) (xo : xO) (o : Outcome) (t : State) : Prop := match xo with
  | .inl v => o = .returned v
  | .inr E => ∃ (q : Addr) (ce : Cell), o = .threw q ∧ t.heap[q]? = some ce ∧ ce.vm = .none ∧ s.vm.findClass E = some ce.cls
def xPost (G : xG) (mc ms : Nat) (h0 : xH) (Q : xO → xH → Prop) (s : State) (o : Outcome) (t : State) : Prop :=
  ∃ (xo : xO) (h' : xH), Q xo h' ∧ xOut s xo o t ∧ xRep G h' t.heap ∧ s.WarmedH t.vm ∧ ∃ locs : List Loc, xS h0 s.heap h' t.heap locs ∧ s.sameButNew ({ t with vm := s.vm } : State) locs mc ms
def xEnd (C : xCt) (below : List Frame) (s : State) : State → Prop := fun t => ∃ o, t.status = .running ∧ Ended t below o ∧ xPost C.2.1 C.2.2.2.1 C.2.2.2.2.1 C.2.2.2.2.2.1 C.2.2.2.2.2.2 s o t
def Ex (C : xCt) (M : xMt) (pc : Nat) (L : List (Option Value)) (st : List Value) (h : xH) (k n : Nat) : Prop :=
  ∀ (p : Program) (e : Env) (s : State) (m : MethodId) (args : Array Value) (below : List Frame) (meth : Method) (c : Code), xC C M p e s m args below meth c →
    ∀ (H : Heap) (locs : List Loc) (ls : Array Slot), xL ls M.2.2.1 L → xRep C.2.1 h H → xS C.2.2.2.2.2.1 s.heap h H locs →
      W p C.1 e (xR C) s m args below meth c H locs k n (xEnd C below s) (F0 m pc ls st)
theorem W_mono {p : Program} {l : Launch} {e : Env} {R : Room} {s : State} {m : MethodId} {args : Array Value} {below : List Frame} {meth : Method} {c : Code} {H : Heap} {locs : List Loc} {cells slots : Nat} {Q Q' : State → Prop} {g : JFrame} (h : ∀ t, Q t → Q' t) (k : W p l e R s m args below meth c H locs cells slots Q g) : W p l e R s m args below meth c H locs cells slots Q' g := fun T hT X => by
  obtain ⟨t, a, b⟩ := k T hT X
  exact ⟨t, a, h t b⟩
theorem xA_up {h : xH} {a : Nat} {e0 e : xE} (ha : h.2 a = some e0) (q : Nat) : xA (xup h a e) q ↔ xA h q := by
  unfold xA xup
  by_cases hq : q = a
  · subst hq; simp [ha]
  · simp [hq]
theorem xRep_up {G : xG} {h : xH} {H H1 : Heap} {a : Nat} {e : xE} (hR : xRep G h H) (he : va_at G.1 xcl (a, xv G e) H1) (z : H1.size = H.size) (oq : ∀ q : Nat, q ≠ a → H1[q]? = H[q]?) : xRep G (xup h a e) H1 := by
  refine ⟨z.trans hR.1, fun b e' hb => ?_⟩
  by_cases hq : b = a
  · subst hq
    rw [xup_self] at hb
    cases hb
    exact he
  · rw [xup_ne _ _ hq] at hb
    exact (hR.2 b e' hb).kept (oq b hq)
theorem xS_up {h0 h : xH} {H0 H H1 : Heap} {locs : List Loc} {a i : Nat} {e0 e : xE} (hS : xS h0 H0 h H locs) (ha : h.2 a = some e0) (z : H1.size = H.size) (oq : ∀ q : Nat, q ≠ a → H1[q]? = H[q]?) : xS h0 H0 (xup h a e) H1 (locs ++ [⟨a, i⟩]) := by
  have hA : xA h0 a := hS.2.2.2 a (Or.inl (by rw [ha]; rfl))
  refine ⟨by rw [z]; exact hS.1, fun q h1 h2 => ?_, fun x hx => ?_, fun q hq => hS.2.2.2 q ((xA_up ha q).mp hq)⟩
  · rw [oq q (fun e => h2 (by rw [e]; exact hA))]
    exact hS.2.1 q h1 h2
  · rcases List.mem_append.mp hx with h1 | h1
    · exact hS.2.2.1 x h1
    · rw [List.mem_singleton.mp h1]; exact hA
theorem xRep_new {G : xG} {h : xH} {H H1 : Heap} {e : xE} (hR : xRep G h H) (he : va_at G.1 xcl (h.1, xv G e) H1) (z : H1.size = h.1 + 1) (oq : ∀ q : Nat, q < h.1 → H1[q]? = H[q]?) : xRep G (xnew h e) H1 := by
  refine ⟨z, fun b e' hb => ?_⟩
  by_cases hq : b = h.1
  · subst hq
    simp only [xnew, if_true] at hb
    cases hb
    exact he
  · simp only [xnew, hq, if_false] at hb
    have hl := (hR.2 b e' hb).lt
    rw [hR.1] at hl
    exact (hR.2 b e' hb).kept (oq b hl)
theorem xS_new {G : xG} {h0 h : xH} {H0 H H1 : Heap} {locs : List Loc} {e : xE} (hS : xS h0 H0 h H locs) (hR : xRep G h H) (z : H1.size = h.1 + 1) (oq : ∀ q : Nat, q < h.1 → H1[q]? = H[q]?) : xS h0 H0 (xnew h e) H1 locs := by
  have hA : xA h0 h.1 := hS.2.2.2 h.1 (Or.inr (Nat.le_refl _))
  have hsz := hR.1
  refine ⟨by rw [z, ← hsz]; exact Nat.le_succ_of_le hS.1, fun q h1 h2 => ?_, hS.2.2.1, fun q hq => ?_⟩
  · rw [oq q (by rw [← hsz]; exact Nat.lt_of_lt_of_le h1 hS.1)]
    exact hS.2.1 q h1 h2
  · unfold xA xnew at hq
    by_cases hq2 : q = h.1
    · rw [hq2]; exact hA
    · simp only [hq2, if_false] at hq
      rcases hq with hq | hq
      · exact hS.2.2.2 q (Or.inl hq)
      · exact hS.2.2.2 q (Or.inr (by omega))
/-- a field of the class with the number ci, named by the entry idx of own's pool -/
def xF (own : String) (idx ci kf : Nat) : Prop :=
  ∃ (Cn : String) (T : u_T) (N : Nat) (ref host : String), xcl[ci]? = some (Cn, T, N) ∧ kf < N ∧ (∀ w ∈ u_ws Cn T N, w ∈ xTAB) ∧
    (Cond.fieldLink own idx ref (T kf).2.1 (T kf).2.2.1 ∈ xTAB ∨ Cond.fieldLinkNest own idx ref (T kf).2.1 (T kf).2.2.1 host ∈ xTAB) ∧
    (ref = (T kf).1 ∨ Cond.sameField ref (T kf).1 (T kf).2.1 (T kf).2.2.1 ∈ xTAB)
/-- a field that may be written: of the type ty; final only where its own class's constructor writes it -/
def xFw (own name : String) (idx ci kf : Nat) (ty : FieldType) : Prop :=
  ∃ (Cn : String) (T : u_T) (N : Nat) (ref host : String), xcl[ci]? = some (Cn, T, N) ∧ kf < N ∧ (∀ w ∈ u_ws Cn T N, w ∈ xTAB) ∧
    (∀ k, k < N → ∃ t, parseFieldDescriptor (T k).2.2.1 = some t) ∧ (∀ a, a < N → ∀ b, b < N → a ≠ b → (T a).2.1 ≠ (T b).2.1) ∧ parseFieldDescriptor (T kf).2.2.1 = some ty ∧
    (((T kf).2.2.2 = false ∧ (Cond.fieldLink own idx ref (T kf).2.1 (T kf).2.2.1 ∈ xTAB ∨ Cond.fieldLinkNest own idx ref (T kf).2.1 (T kf).2.2.1 host ∈ xTAB)) ∨
      ((T kf).2.2.2 = true ∧ name = "<init>" ∧ (T kf).1 = own ∧ Cond.fieldLink own idx ref (T kf).2.1 (T kf).2.2.1 ∈ xTAB)) ∧
    (ref = (T kf).1 ∨ Cond.sameField ref (T kf).1 (T kf).2.1 (T kf).2.2.1 ∈ xTAB)
theorem xsame {s : State} {args : Array Value} {ref o n d : String} (hts : ∀ w ∈ xTAB, w.before args s = true) (h : ref = o ∨ Cond.sameField ref o n d ∈ xTAB) (x : ClassId × Class × Nat × Field) (hx : s.fieldFound? o n d = some x) : s.fieldFound? ref n d = some x := by
  rcases h with rfl | h
  · exact hx
  · exact u_same (hts _ h) x hx
section XH
variable {C : xCt} {M : xMt} {pc : Nat} {L : List (Option Value)} {st : List Value} {h : xH} {k n : Nat}
theorem ex_get {idx ci kf a : Nat} {fs : List Value} {v : Value} (hd : decode M.2.1 pc = .ok (.getfield idx, 3)) (hw : xF M.1.cls idx ci kf) (hh : h.2 a = some (.inr (ci, fs))) (hv : fs[kf]? = some v) (kk : Ex C M (pc + 3) L (v :: st) h k n) : Ex C M pc L (.ref a :: st) h k n := by
  intro p e s m args below meth c X H locs ls hL hR hS
  have kk := kk p e s m args below meth c X H locs ls hL hR hS
  obtain ⟨hx, hb, -, hown, -, -, -, -, -, hK, hts, -⟩ := X
  obtain ⟨Cn, T, N, ref, host, hc, hk, hin, hl, hsm⟩ := hw
  have hP : va_P C.2.1.1 xcl [(a, .inr (ci, fs))] H := fun j q hq => by
    cases j with
    | zero => cases hq; exact hR.2 a _ hh
    | succ j => cases hq
  rcases hl with hl | hl
  · exact va_get hx hb hts hin hown hK hP 0 rfl hc kf hk (hts _ hl) (xsame hts hsm) hv hd kk
  · exact va_getN hx hb hts hin hown hK hP 0 rfl hc kf hk (hts _ hl) (xsame hts hsm) hv hd kk
theorem ex_put {idx ci kf a : Nat} {fs fs' : List Value} {v : Value} {ty : FieldType} (hd : decode M.2.1 pc = .ok (.putfield idx, 3)) (hw : xFw M.1.cls M.1.name idx ci kf ty) (hh : h.2 a = some (.inr (ci, fs))) (hn : narrow ty v = v) (hft : fits ty v = true) (hl : kf < fs.length) (hs : fs.set kf v = fs') (kk : Ex C M (pc + 3) L st (xup h a (.inr (ci, fs'))) k n) : Ex C M pc L (v :: .ref a :: st) h k n := by
  subst hs
  intro p e s m args below meth c X H locs ls hL hR hS
  have kk := kk p e s m args below meth c X
  obtain ⟨hx, hb, -, hown, -, -, hmn, -, -, hK, hts, -⟩ := X
  obtain ⟨Cn, T, N, ref, host, hc, hk, hin, hty0, hnm, hdt, hcase, hsm⟩ := hw
  obtain ⟨r, h1, cell, q1, q2, q3, q4⟩ := hR.2 a _ hh
  have hr : r = (Cn, T, N) := Option.some.inj (h1.symm.trans hc)
  subst hr
  have hty1 : ∀ j, j < N → parseFieldDescriptor (T j).2.2.1 = some ((parseFieldDescriptor (T j).2.2.1).getD .int) := fun j hj => by
    obtain ⟨t, ht⟩ := hty0 j hj
    rw [ht]; rfl
  have hap := va_apart (own := M.1.cls) hts hin (fun j => (parseFieldDescriptor (T j).2.2.1).getD .int) hty1 hnm hK hc
  obtain ⟨hS1, hfc, kC, hkC, hkind⟩ := hK.1 ci _ hc
  obtain ⟨cf, kf', fi, f, hi, hsl⟩ := hS1 kf hk
  have hlay := hts _ (hin _ (u_in_lay hk))
  have hst := (u_facts hfc hkC (u_lays hts hin hk) hi).1
  have goal : ∀ H' : Heap, H'[a]? = some (cell.setSlot f.slot v) → H'.size = H.size → (∀ q, q ≠ a → H'[q]? = H[q]?) → W p C.1 e (xR C) s m args below meth c H' (locs ++ [⟨a, f.slot⟩]) k n (xEnd C below s) (F0 m (pc + 3) ls st) := by
    intro H' e1 e2 e3
    rw [hsl] at e1 ⊢
    refine kk H' _ ls hL (xRep_up hR ?_ e2 e3) (xS_up hS hh e2 e3)
    exact ⟨_, hc, t_OB.to (V := updV (vp_V fs) kf v) ⟨_, e1, q2, q3, t_set q4 hap hk v⟩ (fun j _ => vp_updV_set hl v j)⟩
  rcases hcase with ⟨hfin, hl | hl⟩ | ⟨hfin, hinit, hdecl, hl⟩
  · unfold u_lay at hlay
    rw [if_neg (by rw [hfin]; decide)] at hlay
    have h6 := u_store hfc hkC hkind hlay hi hdt hn hft
    exact W.putK hx hb (f := f) ⟨hown, hts _ hl, ⟨_, _, _, xsame hts hsm _ hi⟩, hst⟩ (by rw [q2]; exact h6) q1 q3 (by rw [hsl]; exact k2_hasslot (q4 kf hk)) rfl rfl hd goal
  · unfold u_lay at hlay
    rw [if_neg (by rw [hfin]; decide)] at hlay
    have h6 := u_store hfc hkC hkind hlay hi hdt hn hft
    exact va_WputK hx hb (f := f) hown (hts _ hl) (xsame hts hsm _ hi) hst (by rw [q2]; exact h6) q1 q3 (by rw [hsl]; exact k2_hasslot (q4 kf hk)) rfl rfl hd goal
  · unfold u_lay at hlay
    rw [if_pos hfin] at hlay
    have hcf : m.cls = cf := by
      obtain ⟨_, _, c', _, _, _, -, -, hf', -, -, -, hown2, -⟩ := Cond.laysFinal_spec hlay
      have e1 : c' = cf := by have := hi.symm.trans hf'; simp at this; exact this.1.symm
      rw [hdecl] at hown2
      rw [← e1]; exact Option.some.inj (hown.symm.trans hown2)
    have h6 := u_fits hfc hkC hkind (Or.inr hlay) hi hdt hn hft
    exact W.putFinK hx hb hown (hts _ hl) (xsame hts hsm _ hi) hst hcf (hmn.trans hinit) (by rw [q2]; exact h6) q1 q3 (by rw [hsl]; exact k2_hasslot (q4 kf hk)) rfl rfl hd goal
theorem xone {G : xG} {H : Heap} {a : Nat} {e : xE} (hR : xRep G h H) (hh : h.2 a = some e) : va_P G.1 xcl [(a, xv G e)] H := fun j q hq => by
  cases j with
  | zero => cases hq; exact hR.2 a _ hh
  | succ j => cases hq
theorem ex_iaload {a N j : Nat} {f : Nat → Int32} {i : Int32} (hd : decode M.2.1 pc = .ok (.iaload, 1)) (hh : h.2 a = some (.inl (0, N, .inl f))) (hi : i = nI j) (hj : j < N) (hN : N < 2 ^ 31) (kk : Ex C M (pc + 1) L (.int (f j) :: st) h k n) : Ex C M pc L (.int i :: .ref a :: st) h k n := by
  subst hi
  intro p e s m args below meth c X H locs ls hL hR hS
  have kk := kk p e s m args below meth c X H locs ls hL hR hS
  obtain ⟨hx, hb, -, -, -, -, -, -, -, hK, -⟩ := X
  refine va_iald hx hb hK (xone hR hh) 0 0 rfl rfl (vp_in_nI hj hN) hd ?_
  rw [nI_clamp (by omega)]
  exact kk
theorem ex_laload {a N j : Nat} {f : Nat → Int64} {i : Int32} (hd : decode M.2.1 pc = .ok (.laload, 1)) (hh : h.2 a = some (.inl (1, N, .inr (.inl f)))) (hi : i = nI j) (hj : j < N) (hN : N < 2 ^ 31) (kk : Ex C M (pc + 1) L (.long (f j) :: st) h k n) : Ex C M pc L (.int i :: .ref a :: st) h k n := by
  subst hi
  intro p e s m args below meth c X H locs ls hL hR hS
  have kk := kk p e s m args below meth c X H locs ls hL hR hS
  obtain ⟨hx, hb, -, -, -, -, -, -, -, hK, -⟩ := X
  refine va_lald hx hb hK (xone hR hh) 0 1 rfl rfl (vp_in_nI hj hN) hd ?_
  rw [nI_clamp (by omega)]
  exact kk
theorem ex_aaload {a N j t v : Nat} {Cn : String} {f : Nat → Option Nat} {i : Int32} (hd : decode M.2.1 pc = .ok (.aaload, 1)) (hh : h.2 a = some (.inl (t, N, .inr (.inr (.inr (.inr f)))))) (ht : ∀ G : xG, (xtys G)[t]? = some (G.2.1 t, .object Cn)) (hi : i = nI j) (hj : j < N) (hN : N < 2 ^ 31) (hv : f j = some v) (kk : Ex C M (pc + 1) L (.ref v :: st) h k n) : Ex C M pc L (.int i :: .ref a :: st) h k n := by
  subst hi
  intro p e s m args below meth c X H locs ls hL hR hS
  have kk := kk p e s m args below meth c X H locs ls hL hR hS
  obtain ⟨hx, hb, -, -, -, -, -, -, -, hK, -⟩ := X
  refine va_aldq hx hb hK (xone hR hh) 0 t rfl (ht _) (vp_in_nI hj hN) hd ?_
  rw [nI_clamp (by omega), hv]
  exact kk
theorem ex_alen {a N t : Nat} {y : (Nat → Int32) ⊕ (Nat → Int64) ⊕ (Nat → UInt32) ⊕ (Nat → UInt64) ⊕ (Nat → Option Nat)} {ty : FieldType} (hd : decode M.2.1 pc = .ok (.arraylength, 1)) (hh : h.2 a = some (.inl (t, N, y))) (ht : ∀ G : xG, (xtys G)[t]? = some (G.2.1 t, ty)) (kk : Ex C M (pc + 1) L (.int (nI N) :: st) h k n) : Ex C M pc L (.ref a :: st) h k n := by
  intro p e s m args below meth c X H locs ls hL hR hS
  have kk := kk p e s m args below meth c X H locs ls hL hR hS
  obtain ⟨hx, hb, -, -, -, -, -, -, -, hK, -⟩ := X
  exact va_alen hx hb hK (xone hR hh) 0 t rfl (ht _) rfl hd kk
theorem ex_sld {a N j : Nat} {f : Nat → Int32} {i : Int32} (hd : decode M.2.1 pc = .ok (.iaload, 1)) (hh : C.2.1.2.2 a = some (N, f)) (hi : i = nI j) (hj : j < N) (hN : N < 2 ^ 31) (kk : Ex C M (pc + 1) L (.int (f j) :: st) h k n) : Ex C M pc L (.int i :: .ref a :: st) h k n := by
  subst hi
  intro p e s m args below meth c X H locs ls hL hR hS
  have kk := kk p e s m args below meth c X H locs ls hL hR hS
  obtain ⟨hx, hb, -, -, -, -, -, -, -, hK, -, -, ⟨hZ, -⟩, -⟩ := X
  obtain ⟨hX, hnA⟩ := hZ _ _ hh
  have hlt : a < s.heap.size := by
    obtain ⟨scr, h1, -⟩ := hX
    exact (Array.getElem?_eq_some_iff.mp h1).1
  refine va_sld hx hb hX hlt hnA hS.va (vp_in_nI hj hN) hd ?_
  rw [nI_clamp (by omega)]
  exact kk
theorem ex_slen {a N : Nat} {f : Nat → Int32} (hd : decode M.2.1 pc = .ok (.arraylength, 1)) (hh : C.2.1.2.2 a = some (N, f)) (kk : Ex C M (pc + 1) L (.int (nI N) :: st) h k n) : Ex C M pc L (.ref a :: st) h k n := by
  intro p e s m args below meth c X H locs ls hL hR hS
  have kk := kk p e s m args below meth c X H locs ls hL hR hS
  obtain ⟨hx, hb, -, -, -, -, -, -, -, hK, -, -, ⟨hZ, -⟩, -⟩ := X
  obtain ⟨hX, hnA⟩ := hZ _ _ hh
  have hlt : a < s.heap.size := by
    obtain ⟨scr, h1, -⟩ := hX
    exact (Array.getElem?_eq_some_iff.mp h1).1
  exact va_slen hx hb hX hlt hnA hS.va hd kk
theorem ex_iastore {a N j : Nat} {f : Nat → Int32} {i x : Int32} (hd : decode M.2.1 pc = .ok (.iastore, 1)) (hh : h.2 a = some (.inl (0, N, .inl f))) (hi : i = nI j) (hj : j < N) (hN : N < 2 ^ 31) (kk : Ex C M (pc + 1) L st (xup h a (.inl (0, N, .inl (upd f j x)))) k n) : Ex C M pc L (.int x :: .int i :: .ref a :: st) h k n := by
  subst hi
  intro p e s m args below meth c X H locs ls hL hR hS
  have kk := kk p e s m args below meth c X
  obtain ⟨hx, hb, -, -, -, -, -, -, -, hK, -⟩ := X
  have h0 : H[a]? = some (vp_cell (C.2.1.2.1 0) (N, .inl f)) := hR.2 a _ hh
  refine W.iast hx hb h0 ((hK.2 0 _ rfl).1 N (fun j => .int (f j))) (fun q => by cases q) (by show ¬ (_ ∨ (arrV _ _ _).slots.size ≤ _); rw [arrV_size]; exact vp_in_nI hj hN) rfl rfl hd fun H1 e z oq => ?_
  rw [nI_clamp (by omega)] at e ⊢
  refine kk H1 _ ls hL (xRep_up hR ?_ z oq) (xS_up hS hh z oq)
  show H1[a]? = some (vp_cell _ _)
  rw [e, vp_cell_i, vp_cell_i, arrV_store]
  congr 2
  funext q
  by_cases hq : q = j
  · subst hq
    simp [updV, upd]
  · simp [updV, upd, hq]
theorem ex_lastore {a N j : Nat} {f : Nat → Int64} {i : Int32} {x : Int64} (hd : decode M.2.1 pc = .ok (.lastore, 1)) (hh : h.2 a = some (.inl (1, N, .inr (.inl f)))) (hi : i = nI j) (hj : j < N) (hN : N < 2 ^ 31) (kk : Ex C M (pc + 1) L st (xup h a (.inl (1, N, .inr (.inl (vp_updL f j x))))) k n) : Ex C M pc L (.long x :: .int i :: .ref a :: st) h k n := by
  subst hi
  intro p e s m args below meth c X H locs ls hL hR hS
  have kk := kk p e s m args below meth c X
  obtain ⟨hx, hb, -, -, -, -, -, -, -, hK, -⟩ := X
  have h0 : H[a]? = some (vp_cell (C.2.1.2.1 1) (N, .inr (.inl f))) := hR.2 a _ hh
  refine W.last hx hb h0 ((hK.2 1 _ rfl).1 N (fun j => .long (f j))) (fun q => by cases q) (by show ¬ (_ ∨ (arrV _ _ _).slots.size ≤ _); rw [arrV_size]; exact vp_in_nI hj hN) rfl rfl hd fun H1 e z oq => ?_
  rw [nI_clamp (by omega)] at e ⊢
  refine kk H1 _ ls hL (xRep_up hR ?_ z oq) (xS_up hS hh z oq)
  show H1[a]? = some (vp_cell _ _)
  rw [e, vp_cell_l, vp_cell_l, arrV_store]
  congr 2
  funext q
  by_cases hq : q = j
  · subst hq
    simp [updV, vp_updL]
  · simp [updV, vp_updL, hq]
theorem ex_aastore {a N j t v ci : Nat} {r : vw_C} {vs : List Value} {f : Nat → Option Nat} {i : Int32} (hd : decode M.2.1 pc = .ok (.aastore, 1)) (hh : h.2 a = some (.inl (t, N, .inr (.inr (.inr (.inr f)))))) (ht : ∀ G : xG, (xtys G)[t]? = some (G.2.1 t, .object r.1)) (hv : h.2 v = some (.inr (ci, vs))) (hc : xcl[ci]? = some r) (hi : i = nI j) (hj : j < N) (hN : N < 2 ^ 31) (kk : Ex C M (pc + 1) L st (xup h a (.inl (t, N, .inr (.inr (.inr (.inr (va_up f j (some v)))))))) k n) : Ex C M pc L (.ref v :: .int i :: .ref a :: st) h k n := by
  subst hi
  intro p e s m args below meth c X H locs ls hL hR hS
  have kk := kk p e s m args below meth c X
  obtain ⟨hx, hb, -, -, -, -, -, -, -, hK, -⟩ := X
  have h0 : H[a]? = some (vp_cell (C.2.1.2.1 t) (N, .inr (.inr (.inr (.inr f))))) := hR.2 a _ hh
  obtain ⟨r', hr', cellV, g1, g2, g3, -⟩ := hR.2 v _ hv
  have hcls := (hK.1 ci r hc).2
  obtain ⟨kA, comp, k1, k2, k3, -⟩ := (hK.2 t _ (ht _)).2
  have hcomp : comp = C.2.1.1.1 ci := Option.some.inj (k3.symm.trans hcls.1)
  subst hcomp
  obtain ⟨kC, hkC, -⟩ := hcls.2
  refine W.aast hx hb h0 (fun q h => by cases h) (fun h => by cases h) k1 k2 rfl hkC ⟨nI_pos (by omega), by show _ < (arrV _ _ _).slots.size; rw [arrV_size, nI_clamp (by omega)]; exact hj⟩ g1 (fun q h => by rw [g3] at h; cases h) (by rw [g2]; exact hkC) (by rw [g2]; exact va_assign hcls) rfl rfl hd fun H1 e z oq => ?_
  rw [nI_clamp (by omega)] at e ⊢
  refine kk H1 _ ls hL (xRep_up hR ?_ z oq) (xS_up hS hh z oq)
  show H1[a]? = some (vp_cell _ _)
  rw [e, vp_cell_q, vp_cell_q, arrV_store]
  congr 2
  funext q
  by_cases hq : q = j
  · subst hq
    simp [updV, va_up, va_rf]
  · simp [updV, va_up, hq]
/-- a class that can be made here: its fields begin as fs -/
def xNw (own : String) (idx ci N : Nat) (fs : List Value) : Prop :=
  ∃ (Cn : String) (T : u_T), xcl[ci]? = some (Cn, T, N) ∧ (∀ w ∈ u_ws Cn T N, w ∈ xTAB) ∧ Cond.classLink own idx Cn ∈ xTAB ∧ Cond.instantiable Cn N ∈ xTAB ∧ Cond.initialized Cn ∈ xTAB ∧
    ∀ j, j < N → ∃ t, parseFieldDescriptor (T j).2.2.1 = some t ∧ defaultValue t = vp_V fs j
theorem ex_new {idx ci N : Nat} {fs : List Value} (hd : decode M.2.1 pc = .ok (.new idx, 3)) (hw : xNw M.1.cls idx ci N fs) (hk : k + 1 ≤ C.2.2.2.1) (hn : n + N ≤ C.2.2.2.2.1) (kk : Ex C M (pc + 3) L (.ref h.1 :: st) (xnew h (.inr (ci, fs))) (k + 1) (n + N)) : Ex C M pc L st h k n := by
  intro p e s m args below meth c X H locs ls hL hR hS
  have kk := kk p e s m args below meth c X
  obtain ⟨hx, hb, -, hown, -, -, -, -, -, hK, hts, -⟩ := X
  obtain ⟨Cn, T, hc, hin, hcl, hins, hini, hty⟩ := hw
  have hKn := hK.1 ci _ hc
  refine W.newcK hx hb hown (hts _ hcl) (hts _ hins) (hts _ hini) rfl hd hk hn hKn.2.1 hR.1 fun H1 kC hkC e1 z1 o1 => ?_
  have hty1 : ∀ j, j < N → parseFieldDescriptor (T j).2.2.1 = some ((parseFieldDescriptor (T j).2.2.1).getD .int) := fun j hj => by
    obtain ⟨t, ht, -⟩ := hty j hj
    rw [ht]; rfl
  refine kk H1 locs ls hL (xRep_new hR ?_ z1 o1) (xS_new hS hR z1 o1)
  refine ⟨_, hc, (u_born (fun j => (parseFieldDescriptor (T j).2.2.1).getD .int) hts hin hKn hkC e1 hty1).to (fun j hj => ?_)⟩
  obtain ⟨t, ht, hdv⟩ := hty j hj
  rw [← hdv, ht]; rfl
theorem ex_newi {N : Nat} {i : Int32} (hd : decode M.2.1 pc = .ok (.newarray .int, 2)) (hw : Cond.arrayClass .int ∈ xTAB) (hi : i = nI N) (hN : N < 65536) (hk : k + 1 ≤ C.2.2.2.1) (hn : n + N ≤ C.2.2.2.2.1) (kk : Ex C M (pc + 2) L (.ref h.1 :: st) (xnew h (.inl (0, N, .inl (fun _ => 0)))) (k + 1) (n + N)) : Ex C M pc L (.int i :: st) h k n := by
  subst hi
  intro p e s m args below meth c X H locs ls hL hR hS
  have kk := kk p e s m args below meth c X
  obtain ⟨hx, hb, -, hown, -, -, -, -, -, hK, hts, -⟩ := X
  refine va_newaK (atype := .int) hx hb (hts _ hw) rfl hd rfl (nI_pos (by omega)) (nI_clamp (by omega)) (by show N * 4 ≤ _; omega) hk hn hR.1 fun H1 cA e1 z1 o1 hAr hNm => ?_
  have hcA : cA = C.2.1.2.1 0 := Option.some.inj (hNm.symm.trans (va_nm_int (hK.2 0 _ rfl).2))
  subst hcA
  exact kk H1 locs ls hL (xRep_new hR (by show H1[h.1]? = some (vp_cell _ _); rw [e1, vp_cell_i]; rfl) z1 o1) (xS_new hS hR z1 o1)
theorem ex_newl {N : Nat} {i : Int32} (hd : decode M.2.1 pc = .ok (.newarray .long, 2)) (hw : Cond.arrayClass .long ∈ xTAB) (hi : i = nI N) (hN : N < 65536) (hk : k + 1 ≤ C.2.2.2.1) (hn : n + N ≤ C.2.2.2.2.1) (kk : Ex C M (pc + 2) L (.ref h.1 :: st) (xnew h (.inl (1, N, .inr (.inl (fun _ => 0))))) (k + 1) (n + N)) : Ex C M pc L (.int i :: st) h k n := by
  subst hi
  intro p e s m args below meth c X H locs ls hL hR hS
  have kk := kk p e s m args below meth c X
  obtain ⟨hx, hb, -, hown, -, -, -, -, -, hK, hts, -⟩ := X
  refine va_newaK (atype := .long) hx hb (hts _ hw) rfl hd rfl (nI_pos (by omega)) (nI_clamp (by omega)) (by show N * 8 ≤ _; omega) hk hn hR.1 fun H1 cA e1 z1 o1 hAr hNm => ?_
  have hcA : cA = C.2.1.2.1 1 := Option.some.inj (hNm.symm.trans (va_nm_long (hK.2 1 _ rfl).2))
  subst hcA
  exact kk H1 locs ls hL (xRep_new hR (by show H1[h.1]? = some (vp_cell _ _); rw [e1, vp_cell_l]; rfl) z1 o1) (xS_new hS hR z1 o1)
theorem ex_anew {N t idx : Nat} {i : Int32} {Cn : String} (hd : decode M.2.1 pc = .ok (.anewarray idx, 3)) (hw : Cond.classLink M.1.cls idx Cn ∈ xTAB) (hov : Cond.arrayOver (.object Cn) ∈ xTAB) (ht : ∀ G : xG, (xtys G)[t]? = some (G.2.1 t, .object Cn)) (hi : i = nI N) (hN : N < 65536) (hk : k + 1 ≤ C.2.2.2.1) (hn : n + N ≤ C.2.2.2.2.1) (kk : Ex C M (pc + 3) L (.ref h.1 :: st) (xnew h (.inl (t, N, .inr (.inr (.inr (.inr (fun _ => none))))))) (k + 1) (n + N)) : Ex C M pc L (.int i :: st) h k n := by
  subst hi
  intro p e s m args below meth c X H locs ls hL hR hS
  have kk := kk p e s m args below meth c X
  obtain ⟨hx, hb, -, hown, -, -, -, -, -, hK, hts, -⟩ := X
  have hcl9 : (nI N).toNatClampNeg = N := nI_clamp (by omega)
  refine W.anew hx hb hown (hts _ hw) (hts _ hov) rfl hd rfl (nI_pos (by omega)) (by rw [hcl9]; omega) hk (by rw [hcl9]; exact hn) fun cA kA comp f1 f2 f3 f4 => ?_
  obtain ⟨kA', comp', r1, r2, r3, r4⟩ := (hK.2 t _ (ht _)).2
  have hcA : cA = C.2.1.2.1 t := Option.some.inj (f1.symm.trans r4)
  subst hcA
  rw [hcl9]
  generalize hH1 : H.push ({ cls := C.2.1.2.1 t, slots := Array.replicate N .null, vm := .none } : Cell) = H1
  have z1 : H1.size = h.1 + 1 := by rw [← hH1, Array.size_push, hR.1]
  have e1 : H1[h.1]? = some (arrV (C.2.1.2.1 t) N (fun _ => .null)) := by rw [← hH1, ← hR.1, Array.getElem?_push_size, ← arrV_new]
  have o1 : ∀ q : Nat, q < h.1 → H1[q]? = H[q]? := fun q hq => by rw [← hH1, Array.getElem?_push, if_neg (by rw [hR.1]; exact Nat.ne_of_lt hq)]
  have w := kk H1 locs ls hL (xRep_new hR (by show H1[h.1]? = some (vp_cell _ _); rw [e1, vp_cell_q]; rfl) z1 o1) (xS_new hS hR z1 o1)
  rw [hR.1]
  exact w
/-! ends -/
theorem xfin {p : Program} {e : Env} {s : State} {m : MethodId} {args : Array Value} {below : List Frame} {meth : Method} {c : Code} {H : Heap} {locs : List Loc} {g : JFrame} {v : Option Value} (hR : xRep C.2.1 h H) (hS : xS C.2.2.2.2.2.1 s.heap h H locs) (hk : k ≤ C.2.2.2.1) (hn : n ≤ C.2.2.2.2.1) (hq : C.2.2.2.2.2.2 (.inl v) h)
    (w : W p C.1 e (xR C) s m args below meth c H locs k n (MQ below (fun _ _ o t => o = .returned v ∧ t.heap = H) args s k n (xA C.2.2.2.2.2.1)) g) : W p C.1 e (xR C) s m args below meth c H locs k n (xEnd C below s) g := by
  refine W_mono (fun t ht => ?_) w
  obtain ⟨o, h1, h2, ⟨h3, h4⟩, L9, ⟨-, h5, h6⟩, h7⟩ := ht
  refine ⟨o, h1, h2, .inl v, h, hq, h3, by rw [h4]; exact hR, h5, L9, ⟨by rw [h4]; exact hS.1, by rw [h4]; exact hS.2.1, h7, hS.2.2.2⟩, h6.mono hk hn⟩
theorem ex_iret {v : Int32} (hd : decode M.2.1 pc = .ok (.ireturn, 1)) (hr : M.2.2.2.1 = some .int) (hk : k ≤ C.2.2.2.1) (hn : n ≤ C.2.2.2.2.1) (hq : C.2.2.2.2.2.2 (.inl (some (.int v))) h) : Ex C M pc L [.int v] h k n := by
  intro p e s m args below meth c X H locs ls hL hR hS
  obtain ⟨hx, hb, -, -, hrt, hlk, -⟩ := X
  exact xfin hR hS hk hn hq (W.iret hx hb (hrt.trans hr) (fun t ht _ => ⟨rfl, ht⟩) hS.2.2.1 hd hlk)
theorem ex_zret {v : Int32} (hd : decode M.2.1 pc = .ok (.ireturn, 1)) (hr : M.2.2.2.1 = some .boolean) (hv : v = 0 ∨ v = 1) (hk : k ≤ C.2.2.2.1) (hn : n ≤ C.2.2.2.2.1) (hq : C.2.2.2.2.2.2 (.inl (some (.int v))) h) : Ex C M pc L [.int v] h k n := by
  intro p e s m args below meth c X H locs ls hL hR hS
  obtain ⟨hx, hb, -, -, hrt, hlk, -⟩ := X
  exact xfin hR hS hk hn hq (W.zret hx hb (hrt.trans hr) (by rcases hv with rfl | rfl <;> decide) (fun t ht _ => ⟨rfl, ht⟩) hS.2.2.1 hd hlk)
theorem ex_lret {v : Int64} (hd : decode M.2.1 pc = .ok (.lreturn, 1)) (hr : M.2.2.2.1 = some .long) (hk : k ≤ C.2.2.2.1) (hn : n ≤ C.2.2.2.2.1) (hq : C.2.2.2.2.2.2 (.inl (some (.long v))) h) : Ex C M pc L [.long v] h k n := by
  intro p e s m args below meth c X H locs ls hL hR hS
  obtain ⟨hx, hb, -, -, hrt, hlk, -⟩ := X
  exact xfin hR hS hk hn hq (W.lret hx hb (hrt.trans hr) (fun t ht _ => ⟨rfl, ht⟩) hS.2.2.1 hd hlk)
theorem ex_vret (hd : decode M.2.1 pc = .ok (.return_, 1)) (hr : M.2.2.2.1 = none) (hk : k ≤ C.2.2.2.1) (hn : n ≤ C.2.2.2.2.1) (hq : C.2.2.2.2.2.2 (.inl none) h) : Ex C M pc L [] h k n := by
  intro p e s m args below meth c X H locs ls hL hR hS
  obtain ⟨hx, hb, -, -, hrt, hlk, -⟩ := X
  exact xfin hR hS hk hn hq (W.vret hx hb (hrt.trans hr) (fun t ht _ => ⟨rfl, ht⟩) hS.2.2.1 hd hlk)
theorem ex_aret {v : Nat} {ty : FieldType} (hd : decode M.2.1 pc = .ok (.areturn, 1)) (hr : M.2.2.2.1 = some ty) (hty : (∃ nm, ty = .object nm) ∨ ∃ t, ty = .array t) (hk : k ≤ C.2.2.2.1) (hn : n ≤ C.2.2.2.2.1) (hq : C.2.2.2.2.2.2 (.inl (some (.ref v))) h) : Ex C M pc L [.ref v] h k n := by
  intro p e s m args below meth c X H locs ls hL hR hS
  obtain ⟨hx, hb, -, -, hrt, hlk, -⟩ := X
  exact xfin hR hS hk hn hq (W.aret hx hb (hrt.trans hr) hty (Or.inr ⟨v, rfl⟩) (fun t ht _ => ⟨rfl, ht⟩) hS.2.2.1 hd hlk)
theorem ex_objInit {idx a : Nat} (hd : decode M.2.1 pc = .ok (.invokespecial idx, 3)) (hw : Cond.methodLink M.1.cls idx Lib.objectInit ∈ xTAB) (h1 : Cond.instanceMethod Lib.objectInit ∈ xTAB) (h2 : Cond.code Lib.objectInit ⟨#[0xb1]⟩ 1 none ∈ xTAB) (hst : (st.map fun v => v.category).sum ≤ 16) (kk : Ex C M (pc + 3) L st h k n) : Ex C M pc L (.ref a :: st) h k n := by
  intro p e s m args below meth c X H locs ls hL hR hS
  have kk := kk p e s m args below meth c X H locs ls hL hR hS
  obtain ⟨hx, hb, hml, hown, -, -, -, -, -, hK, hts, -⟩ := X
  exact W.objInit hx hb hown (hts _ hw) (hts _ h1) (hts _ h2) rfl (by rw [hml]; exact hL.1) rfl hd (by show 1 ≤ C.2.2.1 + 8; omega) (by show 2 * 0 + _ + 12 ≤ 64 * C.2.2.1 + 200; omega) kk
end XH
end
section
section XR
variable {C : xCt} {M : xMt} {pc : Nat} {L : List (Option Value)} {st : List Value} {h : xH} {k n : Nat}
theorem ex_iconst {i : Int} {v : Int32} (hd : decode M.2.1 pc = .ok (.iconst i, 1)) (hv : Int32.ofInt i = v) (kk : Ex C M (pc + 1) L (.int v :: st) h k n) : Ex C M pc L (st) h k n :=
  fun p e s m args below meth c X H locs ls hL hR hS => lv_iconst X.1 X.2.1 hd hv (kk p e s m args below meth c X H locs ls hL hR hS)
theorem ex_bipush {i : Int} {v : Int32} (hd : decode M.2.1 pc = .ok (.bipush i, 2)) (hv : (Int8.ofInt i).toInt32 = v) (kk : Ex C M (pc + 2) L (.int v :: st) h k n) : Ex C M pc L (st) h k n :=
  fun p e s m args below meth c X H locs ls hL hR hS => lv_bipush X.1 X.2.1 hd hv (kk p e s m args below meth c X H locs ls hL hR hS)
theorem ex_sipush {i : Int} {v : Int32} (hd : decode M.2.1 pc = .ok (.sipush i, 3)) (hv : (Int16.ofInt i).toInt32 = v) (kk : Ex C M (pc + 3) L (.int v :: st) h k n) : Ex C M pc L (st) h k n :=
  fun p e s m args below meth c X H locs ls hL hR hS => lv_sipush X.1 X.2.1 hd hv (kk p e s m args below meth c X H locs ls hL hR hS)
theorem ex_lconst {i : Fin 2} {v : Int64} (hd : decode M.2.1 pc = .ok (.lconst i, 1)) (hv : Int64.ofNat (i : Nat) = v) (kk : Ex C M (pc + 1) L (.long v :: st) h k n) : Ex C M pc L (st) h k n :=
  fun p e s m args below meth c X H locs ls hL hR hS => lv_lconst X.1 X.2.1 hd hv (kk p e s m args below meth c X H locs ls hL hR hS)
theorem ex_null  (hd : decode M.2.1 pc = .ok (.aconst_null, 1)) (kk : Ex C M (pc + 1) L (.null :: st) h k n) : Ex C M pc L (st) h k n :=
  fun p e s m args below meth c X H locs ls hL hR hS => lv_null X.1 X.2.1 hd (kk p e s m args below meth c X H locs ls hL hR hS)
theorem ex_iload_n {i4 : Fin 4} {x : Int32} (hd : decode M.2.1 pc = .ok (.iload_n i4, 1)) (hl : L[(i4 : Nat)]? = some (some (.int x))) (kk : Ex C M (pc + 1) L (.int x :: st) h k n) : Ex C M pc L (st) h k n :=
  fun p e s m args below meth c X H locs ls hL hR hS => lv_iload_n X.1 X.2.1 hd rfl (hL.2.2 _ _ hl) (kk p e s m args below meth c X H locs ls hL hR hS)
theorem ex_iload {i : Nat} {x : Int32} (hd : decode M.2.1 pc = .ok (.iload i, 2)) (hl : L[i]? = some (some (.int x))) (kk : Ex C M (pc + 2) L (.int x :: st) h k n) : Ex C M pc L (st) h k n :=
  fun p e s m args below meth c X H locs ls hL hR hS => lv_iload X.1 X.2.1 hd (hL.2.2 _ _ hl) (kk p e s m args below meth c X H locs ls hL hR hS)
theorem ex_lload_n {i4 : Fin 4} {x : Int64} (hd : decode M.2.1 pc = .ok (.lload_n i4, 1)) (hl : L[(i4 : Nat)]? = some (some (.long x))) (kk : Ex C M (pc + 1) L (.long x :: st) h k n) : Ex C M pc L (st) h k n :=
  fun p e s m args below meth c X H locs ls hL hR hS => lv_lload_n X.1 X.2.1 hd rfl (hL.2.2 _ _ hl) (kk p e s m args below meth c X H locs ls hL hR hS)
theorem ex_lload {i : Nat} {x : Int64} (hd : decode M.2.1 pc = .ok (.lload i, 2)) (hl : L[i]? = some (some (.long x))) (kk : Ex C M (pc + 2) L (.long x :: st) h k n) : Ex C M pc L (st) h k n :=
  fun p e s m args below meth c X H locs ls hL hR hS => lv_lload X.1 X.2.1 hd (hL.2.2 _ _ hl) (kk p e s m args below meth c X H locs ls hL hR hS)
theorem ex_aload_n {i4 : Fin 4} {x : Nat} (hd : decode M.2.1 pc = .ok (.aload_n i4, 1)) (hl : L[(i4 : Nat)]? = some (some (.ref x))) (kk : Ex C M (pc + 1) L (.ref x :: st) h k n) : Ex C M pc L (st) h k n :=
  fun p e s m args below meth c X H locs ls hL hR hS => lv_aload_n X.1 X.2.1 hd rfl (hL.2.2 _ _ hl) (kk p e s m args below meth c X H locs ls hL hR hS)
theorem ex_aload {i : Nat} {x : Nat} (hd : decode M.2.1 pc = .ok (.aload i, 2)) (hl : L[i]? = some (some (.ref x))) (kk : Ex C M (pc + 2) L (.ref x :: st) h k n) : Ex C M pc L (st) h k n :=
  fun p e s m args below meth c X H locs ls hL hR hS => lv_aload X.1 X.2.1 hd (hL.2.2 _ _ hl) (kk p e s m args below meth c X H locs ls hL hR hS)
theorem ex_istore_n {i4 : Fin 4} {x : Int32} {L' : List (Option Value)} (hd : decode M.2.1 pc = .ok (.istore_n i4, 1)) (hn : (i4 : Nat) < M.2.2.1) (hl : xset1 L (i4 : Nat) (.int x) = L') (kk : Ex C M (pc + 1) L' st h k n) : Ex C M pc L (.int x :: st) h k n := by
  subst hl
  intro p e s m args below meth c X H locs ls hL hR hS
  refine lv_istore_n X.1 X.2.1 hd rfl (xL_has hL) hn rfl (fun ls2 h2 => ?_)
  exact kk p e s m args below meth c X H locs ls2 (xL_of1 h2) hR hS
theorem ex_istore {i : Nat} {x : Int32} {L' : List (Option Value)} (hd : decode M.2.1 pc = .ok (.istore i, 2)) (hn : i < M.2.2.1) (hl : xset1 L i (.int x) = L') (kk : Ex C M (pc + 2) L' st h k n) : Ex C M pc L (.int x :: st) h k n := by
  subst hl
  intro p e s m args below meth c X H locs ls hL hR hS
  refine lv_istore X.1 X.2.1 hd (xL_has hL) hn rfl (fun ls2 h2 => ?_)
  exact kk p e s m args below meth c X H locs ls2 (xL_of1 h2) hR hS
theorem ex_astore_n {i4 : Fin 4} {x : Nat} {L' : List (Option Value)} (hd : decode M.2.1 pc = .ok (.astore_n i4, 1)) (hn : (i4 : Nat) < M.2.2.1) (hl : xset1 L (i4 : Nat) (.ref x) = L') (kk : Ex C M (pc + 1) L' st h k n) : Ex C M pc L (.ref x :: st) h k n := by
  subst hl
  intro p e s m args below meth c X H locs ls hL hR hS
  refine lv_astore_n X.1 X.2.1 hd rfl (xL_has hL) hn rfl (fun ls2 h2 => ?_)
  exact kk p e s m args below meth c X H locs ls2 (xL_of1 h2) hR hS
theorem ex_astore {i : Nat} {x : Nat} {L' : List (Option Value)} (hd : decode M.2.1 pc = .ok (.astore i, 2)) (hn : i < M.2.2.1) (hl : xset1 L i (.ref x) = L') (kk : Ex C M (pc + 2) L' st h k n) : Ex C M pc L (.ref x :: st) h k n := by
  subst hl
  intro p e s m args below meth c X H locs ls hL hR hS
  refine lv_astore X.1 X.2.1 hd (xL_has hL) hn rfl (fun ls2 h2 => ?_)
  exact kk p e s m args below meth c X H locs ls2 (xL_of1 h2) hR hS
theorem ex_lstore_n {i4 : Fin 4} {x : Int64} {L' : List (Option Value)} (hd : decode M.2.1 pc = .ok (.lstore_n i4, 1)) (hn : (i4 : Nat) + 1 < M.2.2.1) (hl : xset2 L (i4 : Nat) (.long x) = L') (kk : Ex C M (pc + 1) L' st h k n) : Ex C M pc L (.long x :: st) h k n := by
  subst hl
  intro p e s m args below meth c X H locs ls hL hR hS
  refine lv_lstore_n X.1 X.2.1 hd rfl (xL_has hL) hn rfl (fun ls2 h2 => ?_)
  exact kk p e s m args below meth c X H locs ls2 (xL_of2 h2) hR hS
theorem ex_lstore {i : Nat} {x : Int64} {L' : List (Option Value)} (hd : decode M.2.1 pc = .ok (.lstore i, 2)) (hn : i + 1 < M.2.2.1) (hl : xset2 L i (.long x) = L') (kk : Ex C M (pc + 2) L' st h k n) : Ex C M pc L (.long x :: st) h k n := by
  subst hl
  intro p e s m args below meth c X H locs ls hL hR hS
  refine lv_lstore X.1 X.2.1 hd (xL_has hL) hn rfl (fun ls2 h2 => ?_)
  exact kk p e s m args below meth c X H locs ls2 (xL_of2 h2) hR hS
theorem ex_iinc {i : Nat} {z : Int} {x v : Int32} {L' : List (Option Value)} (hd : decode M.2.1 pc = .ok (.iinc i z, 3)) (hx : L[i]? = some (some (.int x))) (hv : x + Int32.ofInt z = v) (hn : i < M.2.2.1) (hl : xset1 L i (.int v) = L') (kk : Ex C M (pc + 3) L' st h k n) : Ex C M pc L st h k n := by
  subst hl
  intro p e s m args below meth c X H locs ls hL hR hS
  obtain ⟨j, hj⟩ := xL_ix hx
  refine lv_iinc (k := j) X.1 X.2.1 hd (xL_has hL) hj hv hn rfl (fun ls2 h2 => ?_)
  exact kk p e s m args below meth c X H locs ls2 (xL_of1 h2) hR hS
theorem ex_iadd {x y : Int32} (hd : decode M.2.1 pc = .ok (.iadd, 1)) (kk : Ex C M (pc + 1) L (.int (x + y) :: st) h k n) : Ex C M pc L (.int y :: .int x :: st) h k n :=
  fun p e s m args below meth c X H locs ls hL hR hS => lv_iadd X.1 X.2.1 hd (kk p e s m args below meth c X H locs ls hL hR hS)
theorem ex_isub {x y : Int32} (hd : decode M.2.1 pc = .ok (.isub, 1)) (kk : Ex C M (pc + 1) L (.int (x - y) :: st) h k n) : Ex C M pc L (.int y :: .int x :: st) h k n :=
  fun p e s m args below meth c X H locs ls hL hR hS => lv_isub X.1 X.2.1 hd (kk p e s m args below meth c X H locs ls hL hR hS)
theorem ex_imul {x y : Int32} (hd : decode M.2.1 pc = .ok (.imul, 1)) (kk : Ex C M (pc + 1) L (.int (x * y) :: st) h k n) : Ex C M pc L (.int y :: .int x :: st) h k n :=
  fun p e s m args below meth c X H locs ls hL hR hS => lv_imul X.1 X.2.1 hd (kk p e s m args below meth c X H locs ls hL hR hS)
theorem ex_iand {x y : Int32} (hd : decode M.2.1 pc = .ok (.iand, 1)) (kk : Ex C M (pc + 1) L (.int (x &&& y) :: st) h k n) : Ex C M pc L (.int y :: .int x :: st) h k n :=
  fun p e s m args below meth c X H locs ls hL hR hS => lv_iand X.1 X.2.1 hd (kk p e s m args below meth c X H locs ls hL hR hS)
theorem ex_ior {x y : Int32} (hd : decode M.2.1 pc = .ok (.ior, 1)) (kk : Ex C M (pc + 1) L (.int (x ||| y) :: st) h k n) : Ex C M pc L (.int y :: .int x :: st) h k n :=
  fun p e s m args below meth c X H locs ls hL hR hS => lv_ior X.1 X.2.1 hd (kk p e s m args below meth c X H locs ls hL hR hS)
theorem ex_ixor {x y : Int32} (hd : decode M.2.1 pc = .ok (.ixor, 1)) (kk : Ex C M (pc + 1) L (.int (x ^^^ y) :: st) h k n) : Ex C M pc L (.int y :: .int x :: st) h k n :=
  fun p e s m args below meth c X H locs ls hL hR hS => lv_ixor X.1 X.2.1 hd (kk p e s m args below meth c X H locs ls hL hR hS)
theorem ex_ishl {x y : Int32} (hd : decode M.2.1 pc = .ok (.ishl, 1)) (kk : Ex C M (pc + 1) L (.int (x <<< (y &&& 31)) :: st) h k n) : Ex C M pc L (.int y :: .int x :: st) h k n :=
  fun p e s m args below meth c X H locs ls hL hR hS => lv_ishl X.1 X.2.1 hd (kk p e s m args below meth c X H locs ls hL hR hS)
theorem ex_ishr {x y : Int32} (hd : decode M.2.1 pc = .ok (.ishr, 1)) (kk : Ex C M (pc + 1) L (.int (x >>> (y &&& 31)) :: st) h k n) : Ex C M pc L (.int y :: .int x :: st) h k n :=
  fun p e s m args below meth c X H locs ls hL hR hS => lv_ishr X.1 X.2.1 hd (kk p e s m args below meth c X H locs ls hL hR hS)
theorem ex_ineg {x : Int32} (hd : decode M.2.1 pc = .ok (.ineg, 1)) (kk : Ex C M (pc + 1) L (.int (-x) :: st) h k n) : Ex C M pc L (.int x :: st) h k n :=
  fun p e s m args below meth c X H locs ls hL hR hS => lv_ineg X.1 X.2.1 hd (kk p e s m args below meth c X H locs ls hL hR hS)
theorem ex_idiv {x y : Int32} (hd : decode M.2.1 pc = .ok (.idiv, 1)) (hy : ¬ y = 0) (kk : Ex C M (pc + 1) L (.int (x / y) :: st) h k n) : Ex C M pc L (.int y :: .int x :: st) h k n :=
  fun p e s m args below meth c X H locs ls hL hR hS => lv_idiv X.1 X.2.1 hd hy (kk p e s m args below meth c X H locs ls hL hR hS)
theorem ex_irem {x y : Int32} (hd : decode M.2.1 pc = .ok (.irem, 1)) (hy : ¬ y = 0) (kk : Ex C M (pc + 1) L (.int (x - x / y * y) :: st) h k n) : Ex C M pc L (.int y :: .int x :: st) h k n :=
  fun p e s m args below meth c X H locs ls hL hR hS => lv_irem X.1 X.2.1 hd hy (kk p e s m args below meth c X H locs ls hL hR hS)
theorem ex_ladd {x y : Int64} (hd : decode M.2.1 pc = .ok (.ladd, 1)) (kk : Ex C M (pc + 1) L (.long (x + y) :: st) h k n) : Ex C M pc L (.long y :: .long x :: st) h k n :=
  fun p e s m args below meth c X H locs ls hL hR hS => lv_ladd X.1 X.2.1 hd (kk p e s m args below meth c X H locs ls hL hR hS)
theorem ex_lsub {x y : Int64} (hd : decode M.2.1 pc = .ok (.lsub, 1)) (kk : Ex C M (pc + 1) L (.long (x - y) :: st) h k n) : Ex C M pc L (.long y :: .long x :: st) h k n :=
  fun p e s m args below meth c X H locs ls hL hR hS => lv_lsub X.1 X.2.1 hd (kk p e s m args below meth c X H locs ls hL hR hS)
theorem ex_lmul {x y : Int64} (hd : decode M.2.1 pc = .ok (.lmul, 1)) (kk : Ex C M (pc + 1) L (.long (x * y) :: st) h k n) : Ex C M pc L (.long y :: .long x :: st) h k n :=
  fun p e s m args below meth c X H locs ls hL hR hS => lv_lmul X.1 X.2.1 hd (kk p e s m args below meth c X H locs ls hL hR hS)
theorem ex_land {x y : Int64} (hd : decode M.2.1 pc = .ok (.land, 1)) (kk : Ex C M (pc + 1) L (.long (x &&& y) :: st) h k n) : Ex C M pc L (.long y :: .long x :: st) h k n :=
  fun p e s m args below meth c X H locs ls hL hR hS => lv_land X.1 X.2.1 hd (kk p e s m args below meth c X H locs ls hL hR hS)
theorem ex_lor {x y : Int64} (hd : decode M.2.1 pc = .ok (.lor, 1)) (kk : Ex C M (pc + 1) L (.long (x ||| y) :: st) h k n) : Ex C M pc L (.long y :: .long x :: st) h k n :=
  fun p e s m args below meth c X H locs ls hL hR hS => lv_lor X.1 X.2.1 hd (kk p e s m args below meth c X H locs ls hL hR hS)
theorem ex_lxor {x y : Int64} (hd : decode M.2.1 pc = .ok (.lxor, 1)) (kk : Ex C M (pc + 1) L (.long (x ^^^ y) :: st) h k n) : Ex C M pc L (.long y :: .long x :: st) h k n :=
  fun p e s m args below meth c X H locs ls hL hR hS => lv_lxor X.1 X.2.1 hd (kk p e s m args below meth c X H locs ls hL hR hS)
theorem ex_lcmp {x y : Int64} (hd : decode M.2.1 pc = .ok (.lcmp, 1)) (kk : Ex C M (pc + 1) L (.int (lg_cmp x y) :: st) h k n) : Ex C M pc L (.long y :: .long x :: st) h k n :=
  fun p e s m args below meth c X H locs ls hL hR hS => W.lcmp X.1 X.2.1 hd (kk p e s m args below meth c X H locs ls hL hR hS)
theorem ex_i2l {x : Int32} (hd : decode M.2.1 pc = .ok (.i2l, 1)) (kk : Ex C M (pc + 1) L (.long x.toInt64 :: st) h k n) : Ex C M pc L (.int x :: st) h k n :=
  fun p e s m args below meth c X H locs ls hL hR hS => lv_i2l X.1 X.2.1 hd rfl (kk p e s m args below meth c X H locs ls hL hR hS)
theorem ex_l2i {x : Int64} (hd : decode M.2.1 pc = .ok (.l2i, 1)) (kk : Ex C M (pc + 1) L (.int x.toInt32 :: st) h k n) : Ex C M pc L (.long x :: st) h k n :=
  fun p e s m args below meth c X H locs ls hL hR hS => lv_l2i X.1 X.2.1 hd rfl (kk p e s m args below meth c X H locs ls hL hR hS)
theorem ex_lshl {x : Int64} {y : Int32} (hd : decode M.2.1 pc = .ok (.lshl, 1)) (kk : Ex C M (pc + 1) L (.long (x <<< (y.toInt64 &&& 63)) :: st) h k n) : Ex C M pc L (.int y :: .long x :: st) h k n :=
  fun p e s m args below meth c X H locs ls hL hR hS => lv_lshl X.1 X.2.1 hd rfl (kk p e s m args below meth c X H locs ls hL hR hS)
theorem ex_lshr {x : Int64} {y : Int32} (hd : decode M.2.1 pc = .ok (.lshr, 1)) (kk : Ex C M (pc + 1) L (.long (x >>> (y.toInt64 &&& 63)) :: st) h k n) : Ex C M pc L (.int y :: .long x :: st) h k n :=
  fun p e s m args below meth c X H locs ls hL hR hS => lv_lshr X.1 X.2.1 hd rfl (kk p e s m args below meth c X H locs ls hL hR hS)
theorem ex_dup {v : Value} (hd : decode M.2.1 pc = .ok (.dup, 1)) (hv : v.category = 1) (kk : Ex C M (pc + 1) L (v :: v :: st) h k n) : Ex C M pc L (v :: st) h k n :=
  fun p e s m args below meth c X H locs ls hL hR hS => lv_dup X.1 X.2.1 hd hv (kk p e s m args below meth c X H locs ls hL hR hS)
theorem ex_pop {v : Value} (hd : decode M.2.1 pc = .ok (.pop, 1)) (hv : v.category = 1) (kk : Ex C M (pc + 1) L (st) h k n) : Ex C M pc L (v :: st) h k n :=
  fun p e s m args below meth c X H locs ls hL hR hS => lv_pop X.1 X.2.1 hd hv (kk p e s m args below meth c X H locs ls hL hR hS)
theorem ex_dup_x1 {v w : Value} (hd : decode M.2.1 pc = .ok (.dup_x1, 1)) (hv : v.category = 1) (hw : w.category = 1) (kk : Ex C M (pc + 1) L (v :: w :: v :: st) h k n) : Ex C M pc L (v :: w :: st) h k n :=
  fun p e s m args below meth c X H locs ls hL hR hS => lv_dup_x1 X.1 X.2.1 hd hv hw (kk p e s m args below meth c X H locs ls hL hR hS)
theorem ex_dup_x2 {v w z : Value} (hd : decode M.2.1 pc = .ok (.dup_x2, 1)) (hv : v.category = 1) (hw : w.category = 1) (hz : z.category = 1) (kk : Ex C M (pc + 1) L (v :: w :: z :: v :: st) h k n) : Ex C M pc L (v :: w :: z :: st) h k n :=
  fun p e s m args below meth c X H locs ls hL hR hS => lv_dup_x2 X.1 X.2.1 hd hv hw hz (kk p e s m args below meth c X H locs ls hL hR hS)
theorem ex_dup2 {v w : Value} (hd : decode M.2.1 pc = .ok (.dup2, 1)) (hv : v.category = 1) (hw : w.category = 1) (kk : Ex C M (pc + 1) L (v :: w :: v :: w :: st) h k n) : Ex C M pc L (v :: w :: st) h k n :=
  fun p e s m args below meth c X H locs ls hL hR hS => lv_dup2_11 X.1 X.2.1 hd hv hw (kk p e s m args below meth c X H locs ls hL hR hS)
theorem ex_if_eq {x : Int32} {off : Int} {tgt : Nat} (hd : decode M.2.1 pc = .ok (.ifCond .eq off, 3)) (ht : (pc : Int) + off = (tgt : Int)) (kt : x = 0 → Ex C M tgt L st h k n) (kf : ¬ (x = 0) → Ex C M (pc + 3) L st h k n) : Ex C M pc L (.int x :: st) h k n :=
  fun p e s m args below meth c X H locs ls hL hR hS => lv_if_eq X.1 X.2.1 hd ht (fun q => kt q p e s m args below meth c X H locs ls hL hR hS) (fun q => kf q p e s m args below meth c X H locs ls hL hR hS)
theorem ex_if_ne {x : Int32} {off : Int} {tgt : Nat} (hd : decode M.2.1 pc = .ok (.ifCond .ne off, 3)) (ht : (pc : Int) + off = (tgt : Int)) (kt : ¬ x = 0 → Ex C M tgt L st h k n) (kf : x = 0 → Ex C M (pc + 3) L st h k n) : Ex C M pc L (.int x :: st) h k n :=
  fun p e s m args below meth c X H locs ls hL hR hS => lv_if_ne X.1 X.2.1 hd ht (fun q => kt q p e s m args below meth c X H locs ls hL hR hS) (fun q => kf q p e s m args below meth c X H locs ls hL hR hS)
theorem ex_if_lt {x : Int32} {off : Int} {tgt : Nat} (hd : decode M.2.1 pc = .ok (.ifCond .lt off, 3)) (ht : (pc : Int) + off = (tgt : Int)) (kt : x < 0 → Ex C M tgt L st h k n) (kf : ¬ (x < 0) → Ex C M (pc + 3) L st h k n) : Ex C M pc L (.int x :: st) h k n :=
  fun p e s m args below meth c X H locs ls hL hR hS => lv_if_lt X.1 X.2.1 hd ht (fun q => kt q p e s m args below meth c X H locs ls hL hR hS) (fun q => kf q p e s m args below meth c X H locs ls hL hR hS)
theorem ex_if_ge {x : Int32} {off : Int} {tgt : Nat} (hd : decode M.2.1 pc = .ok (.ifCond .ge off, 3)) (ht : (pc : Int) + off = (tgt : Int)) (kt : 0 ≤ x → Ex C M tgt L st h k n) (kf : ¬ (0 ≤ x) → Ex C M (pc + 3) L st h k n) : Ex C M pc L (.int x :: st) h k n :=
  fun p e s m args below meth c X H locs ls hL hR hS => lv_if_ge X.1 X.2.1 hd ht (fun q => kt q p e s m args below meth c X H locs ls hL hR hS) (fun q => kf q p e s m args below meth c X H locs ls hL hR hS)
theorem ex_if_gt {x : Int32} {off : Int} {tgt : Nat} (hd : decode M.2.1 pc = .ok (.ifCond .gt off, 3)) (ht : (pc : Int) + off = (tgt : Int)) (kt : 0 < x → Ex C M tgt L st h k n) (kf : ¬ (0 < x) → Ex C M (pc + 3) L st h k n) : Ex C M pc L (.int x :: st) h k n :=
  fun p e s m args below meth c X H locs ls hL hR hS => lv_if_gt X.1 X.2.1 hd ht (fun q => kt q p e s m args below meth c X H locs ls hL hR hS) (fun q => kf q p e s m args below meth c X H locs ls hL hR hS)
theorem ex_if_le {x : Int32} {off : Int} {tgt : Nat} (hd : decode M.2.1 pc = .ok (.ifCond .le off, 3)) (ht : (pc : Int) + off = (tgt : Int)) (kt : x ≤ 0 → Ex C M tgt L st h k n) (kf : ¬ (x ≤ 0) → Ex C M (pc + 3) L st h k n) : Ex C M pc L (.int x :: st) h k n :=
  fun p e s m args below meth c X H locs ls hL hR hS => lv_if_le X.1 X.2.1 hd ht (fun q => kt q p e s m args below meth c X H locs ls hL hR hS) (fun q => kf q p e s m args below meth c X H locs ls hL hR hS)
theorem ex_icmp_eq {x y : Int32} {off : Int} {tgt : Nat} (hd : decode M.2.1 pc = .ok (.if_icmp .eq off, 3)) (ht : (pc : Int) + off = (tgt : Int)) (kt : x = y → Ex C M tgt L st h k n) (kf : ¬ (x = y) → Ex C M (pc + 3) L st h k n) : Ex C M pc L (.int y :: .int x :: st) h k n :=
  fun p e s m args below meth c X H locs ls hL hR hS => lv_icmp_eq X.1 X.2.1 hd ht (fun q => kt q p e s m args below meth c X H locs ls hL hR hS) (fun q => kf q p e s m args below meth c X H locs ls hL hR hS)
theorem ex_icmp_ne {x y : Int32} {off : Int} {tgt : Nat} (hd : decode M.2.1 pc = .ok (.if_icmp .ne off, 3)) (ht : (pc : Int) + off = (tgt : Int)) (kt : ¬ x = y → Ex C M tgt L st h k n) (kf : x = y → Ex C M (pc + 3) L st h k n) : Ex C M pc L (.int y :: .int x :: st) h k n :=
  fun p e s m args below meth c X H locs ls hL hR hS => lv_icmp_ne X.1 X.2.1 hd ht (fun q => kt q p e s m args below meth c X H locs ls hL hR hS) (fun q => kf q p e s m args below meth c X H locs ls hL hR hS)
theorem ex_icmp_lt {x y : Int32} {off : Int} {tgt : Nat} (hd : decode M.2.1 pc = .ok (.if_icmp .lt off, 3)) (ht : (pc : Int) + off = (tgt : Int)) (kt : x < y → Ex C M tgt L st h k n) (kf : ¬ (x < y) → Ex C M (pc + 3) L st h k n) : Ex C M pc L (.int y :: .int x :: st) h k n :=
  fun p e s m args below meth c X H locs ls hL hR hS => lv_icmp_lt X.1 X.2.1 hd ht (fun q => kt q p e s m args below meth c X H locs ls hL hR hS) (fun q => kf q p e s m args below meth c X H locs ls hL hR hS)
theorem ex_icmp_ge {x y : Int32} {off : Int} {tgt : Nat} (hd : decode M.2.1 pc = .ok (.if_icmp .ge off, 3)) (ht : (pc : Int) + off = (tgt : Int)) (kt : y ≤ x → Ex C M tgt L st h k n) (kf : ¬ (y ≤ x) → Ex C M (pc + 3) L st h k n) : Ex C M pc L (.int y :: .int x :: st) h k n :=
  fun p e s m args below meth c X H locs ls hL hR hS => lv_icmp_ge X.1 X.2.1 hd ht (fun q => kt q p e s m args below meth c X H locs ls hL hR hS) (fun q => kf q p e s m args below meth c X H locs ls hL hR hS)
theorem ex_icmp_gt {x y : Int32} {off : Int} {tgt : Nat} (hd : decode M.2.1 pc = .ok (.if_icmp .gt off, 3)) (ht : (pc : Int) + off = (tgt : Int)) (kt : y < x → Ex C M tgt L st h k n) (kf : ¬ (y < x) → Ex C M (pc + 3) L st h k n) : Ex C M pc L (.int y :: .int x :: st) h k n :=
  fun p e s m args below meth c X H locs ls hL hR hS => lv_icmp_gt X.1 X.2.1 hd ht (fun q => kt q p e s m args below meth c X H locs ls hL hR hS) (fun q => kf q p e s m args below meth c X H locs ls hL hR hS)
theorem ex_icmp_le {x y : Int32} {off : Int} {tgt : Nat} (hd : decode M.2.1 pc = .ok (.if_icmp .le off, 3)) (ht : (pc : Int) + off = (tgt : Int)) (kt : x ≤ y → Ex C M tgt L st h k n) (kf : ¬ (x ≤ y) → Ex C M (pc + 3) L st h k n) : Ex C M pc L (.int y :: .int x :: st) h k n :=
  fun p e s m args below meth c X H locs ls hL hR hS => lv_icmp_le X.1 X.2.1 hd ht (fun q => kt q p e s m args below meth c X H locs ls hL hR hS) (fun q => kf q p e s m args below meth c X H locs ls hL hR hS)
theorem ex_goto {off : Int} {tgt : Nat} (hd : decode M.2.1 pc = .ok (.goto off, 3)) (ht : (pc : Int) + off = (tgt : Int)) (kk : Ex C M tgt L st h k n) : Ex C M pc L st h k n :=
  fun p e s m args below meth c X H locs ls hL hR hS => lv_goto X.1 X.2.1 hd ht (kk p e s m args below meth c X H locs ls hL hR hS)
theorem ex_tableIn {dflt lo hi : Int} {offs : Array Int} {len : Nat} {x : Int32} {off : Int} {tgt : Nat} (hd : decode M.2.1 pc = .ok (.tableswitch dflt lo hi offs, len)) (h1 : ¬ x.toInt < lo) (h2 : ¬ hi < x.toInt) (ho : offs[(x.toInt - lo).toNat]? = some off) (ht : (pc : Int) + off = (tgt : Int)) (kk : Ex C M tgt L st h k n) : Ex C M pc L (.int x :: st) h k n :=
  fun p e s m args below meth c X H locs ls hL hR hS => lv_tableIn X.1 X.2.1 hd h1 h2 ho ht (kk p e s m args below meth c X H locs ls hL hR hS)
theorem ex_tableOut {dflt lo hi : Int} {offs : Array Int} {len : Nat} {x : Int32} {tgt : Nat} (hd : decode M.2.1 pc = .ok (.tableswitch dflt lo hi offs, len)) (h1 : x.toInt < lo ∨ hi < x.toInt) (ht : (pc : Int) + dflt = (tgt : Int)) (kk : Ex C M tgt L st h k n) : Ex C M pc L (.int x :: st) h k n :=
  fun p e s m args below meth c X H locs ls hL hR hS => lv_tableOut X.1 X.2.1 hd h1 ht (kk p e s m args below meth c X H locs ls hL hR hS)
theorem ex_lookup {dflt : Int} {ps : Array (Int × Int)} {len : Nat} {x : Int32} {off : Int} {tgt : Nat} (hd : decode M.2.1 pc = .ok (.lookupswitch dflt ps, len)) (hp : (ps.toList.zip (ps.toList.drop 1)).all (fun (a, next) => a.1 < next.1) = true) (ho : Op.lookupswitch.offset ps.toList dflt x.toInt = off) (ht : (pc : Int) + off = (tgt : Int)) (kk : Ex C M tgt L st h k n) : Ex C M pc L (.int x :: st) h k n :=
  fun p e s m args below meth c X H locs ls hL hR hS => lv_lookup X.1 X.2.1 hd hp ho ht (kk p e s m args below meth c X H locs ls hL hR hS)
/-- a number on the stack, under another form -/
theorem ex_topi {x y : Int32} (e : x = y) (kk : Ex C M pc L (.int y :: st) h k n) : Ex C M pc L (.int x :: st) h k n := e ▸ kk
end XR
end
section
/-! Contracts over the abstract configuration, and calls. -/
/-- the contract of M for the arguments av over the cells h: it ends; its outcome and its cells then are as Q allows; at most mc cells of ms slots are new -/
def xMet (l : Launch) (G : xG) (M : xMt) (d mc ms : Nat) (av : List Value) (h : xH) (Q : xO → xH → Prop) : Prop :=
  MetFree l M.1 (headSpec [Cond.codeWith M.1 M.2.1 M.2.2.1 M.2.2.2.1 M.2.2.2.2] (xR (l, G, d, mc, ms, h, Q)))
    (fun a U => a = av.toArray ∧ l.stackTraces = false ∧ xK G U ∧ xRep G h U.heap ∧ xZ G h U U.heap) (fun _ _ _ _ _ => True) (fun _ st o t => xPost G mc ms h Q st o t)
def xent : List Value → Nat → List (Option Value)
  | [], n => List.replicate n none
  | .long x :: t, n => some (.long x) :: none :: xent t (n - 2)
  | .double x :: t, n => some (.double x) :: none :: xent t (n - 2)
  | v :: t, n => some v :: xent t (n - 1)
theorem xent_get : ∀ (vs : List Value) (n b i : Nat) (v : Value), (xent vs n)[i]? = some (some v) → (b + i, v) ∈ lv_args b vs
  | [], n, b, i, v, h => by
    rw [xent, List.getElem?_replicate] at h
    split at h <;> simp at h
  | w :: t, n, b, i, v, h => by
    have one : w.category = 1 → (some w :: xent t (n - 1))[i]? = some (some v) → (b + i, v) ∈ lv_args b (w :: t) := by
      intro hc h
      rw [lv_args, if_neg (by omega)]
      cases i with
      | zero => simp at h; subst h; exact List.mem_cons_self
      | succ j =>
        have := xent_get t (n - 1) (b + 1) j v (by simpa using h)
        exact List.mem_cons_of_mem _ (by rw [show b + (j + 1) = b + 1 + j by omega]; exact this)
    have two : w.category = 2 → (some w :: none :: xent t (n - 2))[i]? = some (some v) → (b + i, v) ∈ lv_args b (w :: t) := by
      intro hc h
      rw [lv_args, if_pos hc]
      cases i with
      | zero => simp at h; subst h; exact List.mem_cons_self
      | succ j =>
        cases j with
        | zero => simp at h
        | succ j =>
          have := xent_get t (n - 2) (b + 2) j v (by simpa using h)
          exact List.mem_cons_of_mem _ (by rw [show b + (j + 1 + 1) = b + 2 + j by omega]; exact this)
    cases w with
    | long x => exact two rfl (by simpa [xent] using h)
    | double x => exact two rfl (by simpa [xent] using h)
    | _ => exact one rfl (by simpa [xent] using h)
theorem xK_words {G : xG} {U : State} (h : xK G U) {args : Array Value} : ∀ w ∈ xTAB, w.before args U = true := fun w hw => xwk_at (State.WarmedH.refl U) (xTAB_k w hw) (h.2.1 w hw)
theorem xK_moved {G : xG} {s U : State} (hW : s.WarmedH U.vm) (h : xK G s) : xK G U := ⟨va_K.moved hW.alike h.1, fun w hw => xwk_at hW (xTAB_k w hw) (h.2.1 w hw), xT_moved hW h.2.2⟩
theorem xZ_at {G : xG} {h0 h : xH} {s U : State} {H : Heap} {locs : List Loc} (hZ : xZ G h0 s s.heap) (hS : xS h0 s.heap h H locs) (hvm : s.vm.Alike U.vm) : xZ G h U H := by
  refine ⟨fun a b hb => ?_, ?_⟩
  · obtain ⟨h1, h2⟩ := hZ.1 a b hb
    have hlt : a < s.heap.size := by
      obtain ⟨scr, h1, -⟩ := h1
      exact (Array.getElem?_eq_some_iff.mp h1).1
    exact ⟨va_X.moved hvm (h1.kept (hS.2.1 a hlt h2)), fun q => h2 (hS.2.2.2 a q)⟩
  · exact xZs_narrow (xZs_moved hvm (xZs_kept hZ.2 hS.2.1)) hS.2.2.2
theorem xMet_of {l : Launch} {G : xG} {M : xMt} {d mc ms : Nat} {av : List Value} {h : xH} {Q : xO → xH → Prop} {L : List (Option Value)} (hy : plainName M.1.cls = true) (hlen : (lg_sl av).length ≤ M.2.2.1) (hL : xent av M.2.2.1 = L) (w : Ex (l, G, d, mc, ms, h, Q) M 0 L [] h 0 0) : xMet l G M d mc ms av h Q := by
  refine MetFree.of_bodyS (code := M.2.1) (maxLocals := M.2.2.1) (ret := M.2.2.2.1) hy ?_ ?_
  · intro args s m h hn
    obtain ⟨m9, meth, c, hn9, h1, h2, h3, h4, -, h5, h6, -⟩ := Cond.codeWith_spec (atoms_spec (ws := [Cond.codeWith M.1 M.2.1 M.2.2.1 M.2.2.2.1 M.2.2.2.2]) h _ List.mem_cons_self)
    cases hn.symm.trans hn9
    exact ⟨meth, c, h1, h2, h3, h4, h5, h6⟩
  · intro p e s m args below meth c s₁ B hml hP _
    obtain ⟨rfl, hst, hK, hR, hZ⟩ := hP
    have hh0 : s₁.heap = s.heap := by rw [B.state]; rfl
    have htab : c.exceptionTable.toList.map (fun h => (h.startPc, h.endPc, h.handlerPc, h.catchType)) = M.2.2.2.2 := by
      obtain ⟨m9, meth9, c9, hn9, h1, h2, -, -, h6, -⟩ := Cond.codeWith_spec (atoms_spec (ws := [Cond.codeWith M.1 M.2.1 M.2.2.1 M.2.2.2.1 M.2.2.2.2]) B.pre _ List.mem_cons_self)
      cases Option.some.inj (hn9.symm.trans B.named)
      cases Option.some.inj (h1.symm.trans B.method)
      cases Option.some.inj (h2.symm.trans (Stand.of_body B).code)
      exact h6
    have X : xC (l, G, d, mc, ms, h, Q) M p e s m av.toArray below meth c := ⟨B.exec, B.bytes, hml, findClass_of_methodNamed B.named, B.returns, B.notSynchronized, (name_of_methodNamed B.named B.method).1, htab, hst, hK.1, xK_words hK, hR, hZ, hK.2.2⟩
    have hent := lv_entry av (n := M.2.2.1) hlen
    have hLL : xL ((lg_sl av ++ List.replicate (M.2.2.1 - (lg_sl av).length) Slot.unset).toArray) M.2.2.1 L := by
      refine ⟨hent.1, hent.2.1, fun i v hv => ?_⟩
      rw [← hL] at hv
      have := xent_get av M.2.2.1 0 i v hv
      rw [Nat.zero_add] at this
      exact hent.2.2 (i, v) this
    have hSS : xS h s.heap h s.heap [] := ⟨Nat.le_refl _, fun _ _ _ => rfl, fun x hx => (nomatch hx), fun q hq => hq⟩
    have k := w p e s m av.toArray below meth c X s.heap [] _ hLL hR hSS
    have hee : entryFrame m av.toArray M.2.2.1 = F0 m 0 ((lg_sl av ++ List.replicate (M.2.2.1 - (lg_sl av).length) Slot.unset).toArray) [] := lg_entry_eq ..
    rw [hee]
    obtain ⟨t, a1, o, b1, b2, b3⟩ := k s₁ hh0 (Stand.of_body B)
    exact ⟨t, o, a1, b1, b2, b3⟩
theorem xMet_mono {l : Launch} {G : xG} {M : xMt} {d mc ms : Nat} {av : List Value} {h : xH} {Q Q' : xO → xH → Prop} (hM : xMet l G M d mc ms av h Q) (hq : ∀ o h', Q o h' → Q' o h') : xMet l G M d mc ms av h Q' := by
  intro p e ha hc hk s m args below hf happ hP hK
  obtain ⟨n, o, h1, h2, h3, xo, h', h4, h5⟩ := hM p e ha hc hk s m args below hf happ hP hK
  exact ⟨n, o, h1, h2, h3, xo, h', hq _ _ h4, h5⟩
/-- the method's code is among the words -/
def xCode (M : xMt) : Prop := (Cond.codeWith M.1 M.2.1 M.2.2.1 M.2.2.2.1 M.2.2.2.2 ∈ xTAB ∨ (M.2.2.2.2 = [] ∧ Cond.code M.1 M.2.1 M.2.2.1 M.2.2.2.1 ∈ xTAB)) ∧ Cond.initialized M.1.cls ∈ xTAB ∧ M.2.2.1 ≤ 37
theorem xCode_at {M : xMt} {G : xG} {U : State} {a : Array Value} (h : xCode M) (hK : xK G U) : (Cond.codeWith M.1 M.2.1 M.2.2.1 M.2.2.2.1 M.2.2.2.2).before a U = true := by
  rcases h.1 with h | ⟨h1, h2⟩
  · exact xK_words hK _ h
  · rw [h1]
    have h3 : (Cond.code M.1 M.2.1 M.2.2.1 M.2.2.2.1).before a U = true := xK_words hK _ h2
    simp only [Cond.before, Cond.holds] at h3 ⊢
    rw [← Cond.code_iff_codeWith_nil]
    exact h3
/-- the call itself: from the invocation's note to the return, or to the thrown object -/
theorem xcore {l : Launch} {G : xG} {p : Program} {e : Env} {R : Room} {s : State} {m : MethodId} {args : Array Value} {below : List Frame} {meth : Method} {c : Code} {U : State} {Ls : List Loc} {c0 s0 : Nat}
    (X : Stand p l e R s m args below meth c U Ls c0 s0) {M : xMt} {d mc ms : Nat} {av : List Value} {h : xH} {Q : xO → xH → Prop} (hM : xMet l G M d mc ms av h Q) (hc : xCode M) {g : JFrame} (hg : g.method = m) (hsize : g.locals.size = c.maxLocals) {ig : Instr} {len : Nat} (hdg : decode c.code g.pc = .ok (ig, len))
    (hW : 2 * g.monitorRoom + (g.stack.map fun v => v.category).sum ≤ 16) {mk : MethodId} (hn : U.methodNamed? M.1 = some mk) (hst : l.stackTraces = false) (hK : xK G U) (hR : xRep G h U.heap) (hZ : xZ G h U U.heap)
    (hfr : d + 9 ≤ R.frames) (hlo : 64 * d + 264 ≤ R.locals) (h4 : c0 + mc ≤ R.cells) (h5 : s0 + ms ≤ R.slots) :
    ∃ (xo : xO) (h' : xH) (T' : State) (L : List Loc), Q xo h' ∧ xRep G h' T'.heap ∧ Stand p l e R s m args below meth c T' (Ls ++ L) (c0 + mc) (s0 + ms) ∧ xS h U.heap h' T'.heap L ∧
      (match xo with
        | .inl v => Steps p.tables e below (doInvoke e (U.setTop g) [] mk av.toArray).1 (T'.setTop { g with pc := g.pc + len, stack := v.toList ++ g.stack })
        | .inr E => ∃ (q : Addr) (ce : Cell), T'.heap[q]? = some ce ∧ ce.vm = .none ∧ U.vm.findClass E = some ce.cls ∧ Steps p.tables e below (doInvoke e (U.setTop g) [] mk av.toArray).1 ((T'.setTop g).pushFrame (.throwing q))) := by
  have h2 := xCode_at (a := av.toArray) hc hK
  have h1 : (headSpec [Cond.codeWith M.1 M.2.1 M.2.2.1 M.2.2.2.1 M.2.2.2.2] (xR (l, G, d, mc, ms, h, Q))).pre.before av.toArray U = true := atoms_intro fun w hw => by
    rw [List.mem_singleton.mp hw]; exact h2
  have h3 : (Cond.initialized M.1.cls).before av.toArray U = true := xK_words hK _ hc.2.1
  obtain ⟨m9, methY, cY, hn9, hmY, hcY, -, hlY, -⟩ := Cond.codeWith_spec h2
  cases Option.some.inj (hn9.symm.trans hn)
  obtain ⟨kY, hkY, -⟩ := className_of_methodNamed hn
  have hinitY : kY.init = .initialized := Cond.initialized_spec (findClass_of_methodNamed hn) hkY h3
  have hA : At U g.method c below := by rw [hg]; exact X.here
  have hml := hc.2.2
  have happ : (headSpec [Cond.codeWith M.1 M.2.1 M.2.2.1 M.2.2.2.1 M.2.2.2.2] (xR (l, G, d, mc, ms, h, Q))).appliesLoose M.1 e.platform (U.calling g mk av.toArray) = true :=
    Spec.appliesLoose_calling (g := g) hA hdg hn hkY hinitY
      (X.room_calling (g := g) (R' := xR (l, G, d, mc, ms, h, Q)) hsize hmY hcY (by show d + 8 + 1 ≤ _; omega) (by rw [hlY]; show _ + _ + (64 * d + 200) ≤ _; omega) h4 h5) h1
  obtain ⟨mid, hmid⟩ := hA.above
  have hfr9 : (U.setTop g).frames = (.java g :: mid) ++ below := by rw [State.frames_setTop' g hA.top, hmid]; rfl
  have hPc : av.toArray = av.toArray ∧ l.stackTraces = false ∧ xK G (U.calling g mk av.toArray) ∧ xRep G h (U.calling g mk av.toArray).heap ∧ xZ G h (U.calling g mk av.toArray) (U.calling g mk av.toArray).heap :=
    ⟨rfl, hst, xK_moved (U := U.calling g mk av.toArray) (State.WarmedH.refl U) hK, hR, ⟨fun a b hb => ⟨va_X.moved (U := U.calling g mk av.toArray) (Vm.Alike.refl U.vm) (hZ.1 a b hb).1, (hZ.1 a b hb).2⟩, xZs_moved (U := U.calling g mk av.toArray) (Vm.Alike.refl U.vm) hZ.2⟩⟩
  obtain ⟨o, s₂, hsteps, -, hend, xo, h', hQ, hxo, hR', hW₂, L, hS', hsm⟩ := Steps.callFree hM p X.admits X.cas X.clock (acts := []) hfr9 happ hPc trivial
  rw [State.frames_setTop' g hA.top] at hend
  obtain ⟨g₀, hg0⟩ := Option.isSome_iff_exists.mp hA.top
  obtain ⟨r, hr⟩ := State.topJava?_eq_some.mp hg0
  have hr' : (({ U with heap := s₂.heap, slotsUsed := s₂.slotsUsed } : State).setVm s₂.vm).frames = .java g₀ :: r := hr
  have hsm' : (U.calling g mk av.toArray).sameButNew ({ s₂ with vm := (U.calling g mk av.toArray).vm } : State) L mc ms := hsm
  obtain ⟨e2, q2, q3, q4, q5, q6⟩ := hsm'
  have e3 : s₂ = ({ (U.calling g mk av.toArray).setFrames s₂.frames with heap := s₂.heap, slotsUsed := s₂.slotsUsed } : State).setVm s₂.vm := by
    have : s₂ = ({ s₂ with vm := (U.calling g mk av.toArray).vm } : State).setVm s₂.vm := rfl
    rw [e2] at this
    exact this
  have hW' : U.WarmedH s₂.vm := hW₂
  have hsame : U.sameButNew ({ U with heap := s₂.heap, slotsUsed := s₂.slotsUsed } : State) L mc ms := by
    refine ⟨?_, q2, q3, q4, q5, q6⟩
    obtain ⟨t, ht, -⟩ := State.frames_cons hr
    show ({ U with heap := s₂.heap, slotsUsed := s₂.slotsUsed } : State) = { U.setFrames U.frames with heap := s₂.heap, slotsUsed := s₂.slotsUsed }
    rw [State.setFrames_self ht]
  have X' : Stand p l e R s m args below meth c (({ U with heap := s₂.heap, slotsUsed := s₂.slotsUsed } : State).setVm s₂.vm) (Ls ++ L) (c0 + mc) (s0 + ms) :=
    ⟨X.admits, X.cas, X.clock, X.frames, X.room, X.hears, X.method, X.code, by have := (X.here.setHeapUsed s₂.heap s₂.slotsUsed).setVm hW'.alike; exact this, X.tail, State.WarmedH.trans X.warmed hW', X.limits, X.bytes, X.same.trans (hsame.setVm s.vm)⟩
  refine ⟨xo, h', (({ U with heap := s₂.heap, slotsUsed := s₂.slotsUsed } : State).setVm s₂.vm), L, hQ, hR', X', hS', ?_⟩
  cases xo with
  | inl v =>
    have ho : o = .returned v := hxo
    subst ho
    obtain ⟨c₂, i₂, len₂, hc₂, hd₂, hf₂⟩ := hend
    have hcc : c₂ = c := by
      have h1 : s₂.code? g.method = U.code? g.method := by
        rw [State.code?_eq, State.code?_eq, hW'.alike.method?]
      exact Option.some.inj (hc₂.symm.trans (h1.trans hA.code))
    subst hcc
    have hlen : len₂ = len := by rw [hdg] at hd₂; cases hd₂; rfl
    subst hlen
    have hs₂ : s₂ = (({ U with heap := s₂.heap, slotsUsed := s₂.slotsUsed } : State).setVm s₂.vm).setTop { g with pc := g.pc + len₂, stack := v.toList ++ g.stack } := by
      refine e3.trans ?_
      rw [hf₂, State.calling_eq hA.top, State.setFrames_setFrames, State.setTop_of_frames _ hr', hr]
      rfl
    show Steps p.tables e below _ ((({ U with heap := s₂.heap, slotsUsed := s₂.slotsUsed } : State).setVm s₂.vm).setTop { g with pc := g.pc + len₂, stack := v.toList ++ g.stack })
    rw [← hs₂]
    exact hsteps
  | inr E =>
    obtain ⟨q, ce, ho, hce, hcv, hcl⟩ := hxo
    subst ho
    have hf₂ : s₂.frames = .throwing q :: .java g :: U.frames.tail := hend
    have hs₂ : s₂ = ((({ U with heap := s₂.heap, slotsUsed := s₂.slotsUsed } : State).setVm s₂.vm).setTop g).pushFrame (.throwing q) := by
      refine e3.trans ?_
      rw [hf₂, State.calling_eq hA.top, State.setFrames_setFrames, State.pushFrame, State.frames_setTop _ hr', State.setTop_of_frames _ hr', State.setFrames_setFrames, hr]
      rfl
    refine ⟨q, ce, hce, hcv, hcl, ?_⟩
    show Steps p.tables e below _ (((({ U with heap := s₂.heap, slotsUsed := s₂.slotsUsed } : State).setVm s₂.vm).setTop g).pushFrame (.throwing q))
    rw [← hs₂]
    exact hsteps
theorem xS_trans {h0 h h' : xH} {H0 H H' : Heap} {locs L : List Loc} (h1 : xS h0 H0 h H locs) (h2 : xS h H h' H' L) : xS h0 H0 h' H' (locs ++ L) := by
  refine ⟨Nat.le_trans h1.1 h2.1, fun q hq hn => ?_, fun x hx => ?_, fun q hq => h1.2.2.2 q (h2.2.2.2 q hq)⟩
  · rw [h2.2.1 q (Nat.lt_of_lt_of_le hq h1.1) (fun z => hn (h1.2.2.2 q z))]
    exact h1.2.1 q hq hn
  · rcases List.mem_append.mp hx with h | h
    · exact h1.2.2.1 x h
    · exact h1.2.2.2 _ (h2.2.2.1 x h)
/-- the frame at pc, with an object of the class E thrown over it -/
def ExX (C : xCt) (M : xMt) (pc : Nat) (L : List (Option Value)) (st : List Value) (E : String) (h : xH) (k n : Nat) : Prop :=
  ∀ (p : Program) (e : Env) (s : State) (m : MethodId) (args : Array Value) (below : List Frame) (meth : Method) (c : Code), xC C M p e s m args below meth c →
    ∀ (H : Heap) (locs : List Loc) (ls : Array Slot), xL ls M.2.2.1 L → xRep C.2.1 h H → xS C.2.2.2.2.2.1 s.heap h H locs →
      ∀ (q : Addr) (ce : Cell), H[q]? = some ce → ce.vm = .none → s.vm.findClass E = some ce.cls →
        ∀ T : State, T.heap = H → Stand p C.1 e (xR C) s m args below meth c T locs k n → ∃ t, Steps p.tables e below ((T.setTop (F0 m pc ls st)).pushFrame (.throwing q)) t ∧ xEnd C below s t
def xGo (C : xCt) (M : xMt) (pc : Nat) (M' : xMt) (av rest st : List Value) (h : xH) (k n : Nat) : Prop :=
  ∀ (p : Program) (e : Env) (s : State) (m : MethodId) (args : Array Value) (below : List Frame) (meth : Method) (c : Code), xC C M p e s m args below meth c →
    ∀ (H : Heap) (locs : List Loc) (ls : Array Slot), xRep C.2.1 h H → ∀ T : State, T.heap = H → Stand p C.1 e (xR C) s m args below meth c T locs k n →
      ∃ (mk : MethodId) (vm₁ : Vm), s.methodNamed? M'.1 = some mk ∧ s.WarmedH vm₁ ∧ Stand p C.1 e (xR C) s m args below meth c (T.setVm vm₁) locs k n ∧
        ∀ target, (∀ acts, Steps p.tables e below (doInvoke e ((T.setVm vm₁).setTop (F0 m pc ls rest)) acts mk av.toArray).1 target) → Steps p.tables e below (T.setTop (F0 m pc ls st)) target
section XCALL
variable {C : xCt} {M : xMt} {pc : Nat} {L : List (Option Value)} {st : List Value} {h : xH} {k n : Nat}
theorem ex_call {M' : xMt} {d' mc' ms' : Nat} {av rest : List Value} {Q' : xO → xH → Prop} {ig : Instr} (hd : decode M.2.1 pc = .ok (ig, 3)) (go : xGo C M pc M' av rest st h k n) (hc : xCode M') (hM : xMet C.1 C.2.1 M' d' mc' ms' av h Q') (hdd : d' + 1 ≤ C.2.2.1) (hw : (rest.map fun v => v.category).sum ≤ 16) (hk : k + mc' ≤ C.2.2.2.1) (hn : n + ms' ≤ C.2.2.2.2.1)
    (kk : ∀ (v : Option Value) (h' : xH), Q' (.inl v) h' → Ex C M (pc + 3) L (v.toList ++ rest) h' (k + mc') (n + ms')) (kx : ∀ (E : String) (h' : xH), Q' (.inr E) h' → ExX C M pc L rest E h' (k + mc') (n + ms')) : Ex C M pc L st h k n := by
  intro p e s m args below meth c X H locs ls hL hR hS T hT XS
  obtain ⟨mk, vm₁, hnm, hW1, X1, stp⟩ := go p e s m args below meth c X H locs ls hR T hT XS
  have XX := X
  obtain ⟨hx, hb, hml, hown, -, -, -, -, hstt, hK, hts, hR0, hZ0, hT0⟩ := X
  have hKs : xK C.2.1 s := ⟨hK, fun w hw => xwk_at (State.WarmedH.refl s) (xTAB_k w hw) (hts w hw), hT0⟩
  have hK1 : xK C.2.1 (T.setVm vm₁) := xK_moved hW1 hKs
  have hR1 : xRep C.2.1 h (T.setVm vm₁).heap := by show xRep _ _ T.heap; rw [hT]; exact hR
  have hZ1 : xZ C.2.1 h (T.setVm vm₁) (T.setVm vm₁).heap := by show xZ _ _ _ T.heap; rw [hT]; exact xZ_at hZ0 hS hW1.alike
  obtain ⟨xo, h', T', L9, hQ, hR', X', hS', hst9⟩ := xcore X1 hM hc (g := F0 m pc ls rest) rfl (hL.1.trans hml.symm) (by rw [hb]; exact hd) (by show 2 * 0 + (rest.map fun v => v.category).sum ≤ 16; omega) (X1.named hnm) hstt hK1 hR1 hZ1 (by show _ ≤ C.2.2.1 + 8; omega) (by show _ ≤ 64 * C.2.2.1 + 200; omega) hk hn
  have hTH : (T.setVm vm₁).heap = H := hT
  rw [hTH] at hS'
  have hSn := xS_trans hS hS'
  cases xo with
  | inl v =>
    obtain ⟨t, a, b⟩ := kk v h' hQ p e s m args below meth c XX T'.heap (locs ++ L9) ls hL hR' hSn T' rfl X'
    exact ⟨t, stp t (fun acts => by rw [doInvoke_state]; exact hst9.trans a), b⟩
  | inr E =>
    obtain ⟨q, ce, hce, hcv, hcl, hs9⟩ := hst9
    have hcl' : s.vm.findClass E = some ce.cls := by
      have h1 : vm₁.findClass E = some ce.cls := hcl
      rw [hW1.alike.findClass] at h1
      exact h1
    obtain ⟨t, a, b⟩ := kx E h' hQ p e s m args below meth c XX T'.heap (locs ++ L9) ls hL hR' hSn q ce hce hcv hcl' T' rfl X'
    exact ⟨t, (stp _ (fun acts => by rw [doInvoke_state]; exact hs9)).trans a, b⟩
/-- a call of which Q' allows no throw -/
theorem ex_callR {M' : xMt} {d' mc' ms' : Nat} {av rest : List Value} {Q' : xO → xH → Prop} {ig : Instr} (hd : decode M.2.1 pc = .ok (ig, 3)) (go : xGo C M pc M' av rest st h k n) (hc : xCode M') (hM : xMet C.1 C.2.1 M' d' mc' ms' av h Q') (hdd : d' + 1 ≤ C.2.2.1) (hw : (rest.map fun v => v.category).sum ≤ 16) (hk : k + mc' ≤ C.2.2.2.1) (hn : n + ms' ≤ C.2.2.2.2.1)
    (hx : ∀ (E : String) (h' : xH), ¬ Q' (.inr E) h') (kk : ∀ (v : Option Value) (h' : xH), Q' (.inl v) h' → Ex C M (pc + 3) L (v.toList ++ rest) h' (k + mc') (n + ms')) : Ex C M pc L st h k n :=
  ex_call hd go hc hM hdd hw hk hn kk (fun E h' q => absurd q (hx E h'))
end XCALL
/-! how the callee is found -/
/-- invokevirtual, on an object of the class ci itself; or of a private method of a nest mate -/
def xVi (own : String) (idx : Nat) (M' : xMt) (ci : Nat) : Prop :=
  ∃ (Cn : String) (T : u_T) (N : Nat), xcl[ci]? = some (Cn, T, N) ∧ (Cond.methodLink own idx M'.1 ∈ xTAB ∨ ∃ host, Cond.methodLinkNest own idx M'.1 host ∈ xTAB) ∧ Cond.instanceMethod M'.1 ∈ xTAB ∧ Cond.selects Cn M'.1 M'.1 ∈ xTAB ∧ (M'.1.cls ≠ "java/lang/invoke/MethodHandle" ∧ M'.1.cls ≠ "java/lang/invoke/VarHandle")
/-- invokevirtual of a method that the reference names as x, declared by owner, and the class ci has as M' -/
def xUi (own : String) (idx : Nat) (M' : xMt) (ci : Nat) : Prop :=
  ∃ (Cn : String) (T : u_T) (N : Nat) (x : MethodName) (owner : String), xcl[ci]? = some (Cn, T, N) ∧ Cond.methodLink own idx x ∈ xTAB ∧ Cond.sameMethod x.cls owner x.name x.desc ∈ xTAB ∧ x.desc = M'.1.desc ∧
    (Cond.declares ⟨owner, x.name, x.desc⟩ ∈ xTAB ∨ (M'.1 = ⟨owner, x.name, x.desc⟩)) ∧ (owner ≠ "java/lang/invoke/MethodHandle" ∧ owner ≠ "java/lang/invoke/VarHandle") ∧ Cond.selects Cn x M'.1 ∈ xTAB ∧ Cond.instanceMethod M'.1 ∈ xTAB
def xIi (own : String) (idx : Nat) (M' : xMt) : Prop :=
  (Cond.methodLink own idx M'.1 ∈ xTAB ∨ ∃ host, Cond.methodLinkNest own idx M'.1 host ∈ xTAB) ∧ Cond.instanceMethod M'.1 ∈ xTAB ∧ M'.1.name = "<init>" ∧ (M'.1.cls ≠ "java/lang/invoke/MethodHandle" ∧ M'.1.cls ≠ "java/lang/invoke/VarHandle") ∧ M'.2.2.2.1 = none ∧ M'.2.2.2.2 = [] ∧ Cond.code M'.1 M'.2.1 M'.2.2.1 M'.2.2.2.1 ∈ xTAB
def xSi (own : String) (idx : Nat) (M' : xMt) : Prop :=
  (Cond.methodLink own idx M'.1 ∈ xTAB ∨ ∃ host, Cond.methodLinkNest own idx M'.1 host ∈ xTAB) ∧ Cond.static M'.1 ∈ xTAB ∧ (M'.1.cls ≠ "java/lang/invoke/MethodHandle" ∧ M'.1.cls ≠ "java/lang/invoke/VarHandle")
def xAr (M' : xMt) (j : Nat) : Prop := (parseMethodDescriptor M'.1.desc).map (fun d => d.parameters.length) = some j
theorem xAr_len {M' : xMt} {j : Nat} (h : xAr M' j) : ∀ sig, parseMethodDescriptor M'.1.desc = some sig → j = sig.parameters.length := fun sig hs => by
  unfold xAr at h
  rw [hs] at h
  exact (Option.some.inj h).symm
section XGO
variable {C : xCt} {M : xMt} {pc : Nat} {h : xH} {k n : Nat} {rest : List Value}
theorem xC_K {p : Program} {e : Env} {s : State} {m : MethodId} {args : Array Value} {below : List Frame} {meth : Method} {c : Code} (X : xC C M p e s m args below meth c) : xK C.2.1 s := ⟨X.2.2.2.2.2.2.2.2.2.1, fun w hw => xwk_at (State.WarmedH.refl s) (xTAB_k w hw) (X.2.2.2.2.2.2.2.2.2.2.1 w hw), X.2.2.2.2.2.2.2.2.2.2.2.2.2⟩
theorem go_v {idx ci b : Nat} {fs As : List Value} {M' : xMt} {j : Nat} (hd : decode M.2.1 pc = .ok (.invokevirtual idx, 3)) (hi : xVi M.1.cls idx M' ci) (hc : xCode M') (ha : xAr M' j) (hb : h.2 b = some (.inr (ci, fs))) (hj : As.length = j) : xGo C M pc M' (.ref b :: As) rest (As.reverse ++ .ref b :: rest) h k n := by
  intro p e s m args below meth c X H locs ls hR T hT XS
  have hKs := xC_K X
  obtain ⟨hx, hb9, hml, hown, -, -, -, -, hstt, hK, hts, -⟩ := X
  obtain ⟨Cn, Tt, N, hcl, hlink, hinst, hsel, hy⟩ := hi
  obtain ⟨mk, methM, hnamed, hmethM, hstM, habM⟩ := Cond.instanceMethod_spec (hts _ hinst)
  obtain ⟨m8, methM', cM, hn8, hmethM', -, -, -, -, -, -, hsigM⟩ := Cond.codeWith_spec (xCode_at (a := args) hc hKs)
  cases Option.some.inj (hn8.symm.trans hnamed)
  cases hmethM.symm.trans hmethM'
  obtain ⟨c2, r2, m2, q1, q2, q3, q4, kP, hkP, hkPi⟩ := Cond.selects_spec (hts _ hsel)
  obtain ⟨r, h1, cellB, g1, g2, g3, -⟩ := hR.2 b _ hb
  have hcls : s.vm.findClass Cn = some cellB.cls := by rw [g2]; exact (hK.1 ci _ hcl).2.1
  cases hcls.symm.trans q1
  cases (State.methodFound?_of_named hnamed hy).symm.trans q2
  cases hnamed.symm.trans q3
  have hselP : selectMethod e.platform s.vm cellB.cls mk = .method mk := by rw [Launch.admits_selectMethod XS.admits]; exact q4
  have hcell : T.heap[b]? = some cellB := by rw [hT]; exact g1
  have hlen := hj.trans (xAr_len ha _ hsigM)
  rcases hlink with hlink | ⟨host, hlink⟩
  · obtain ⟨vm₁, X₁, hstep₁⟩ := XS.invokevirtual hx hown (hts _ hlink) hnamed hmethM hstM hkP hkPi hy (a := b) (cell := cellB) hcell
      (fun z hz => by rw [g3] at hz; cases hz) hselP hmethM habM hkP hkPi (g := F0 m pc ls (As.reverse ++ .ref b :: rest)) rfl (argsL := As) (rest := rest) hlen rfl (by rw [hb9]; exact hd)
    exact ⟨mk, vm₁, hnamed, X₁.warmed, X₁, hstep₁⟩
  · obtain ⟨vm₁, X₁, hstep₁⟩ := XS.invokevirtualNest hx hown (hts _ hlink) hnamed hmethM hstM hkP hkPi hy (a := b) (cell := cellB) hcell
      (fun z hz => by rw [g3] at hz; cases hz) hselP hmethM habM hkP hkPi (g := F0 m pc ls (As.reverse ++ .ref b :: rest)) rfl (argsL := As) (rest := rest) hlen rfl (by rw [hb9]; exact hd)
    exact ⟨mk, vm₁, hnamed, X₁.warmed, X₁, hstep₁⟩
theorem go_u {idx ci b : Nat} {fs As : List Value} {M' : xMt} {j : Nat} (hd : decode M.2.1 pc = .ok (.invokevirtual idx, 3)) (hi : xUi M.1.cls idx M' ci) (hc : xCode M') (ha : xAr M' j) (hb : h.2 b = some (.inr (ci, fs))) (hj : As.length = j) : xGo C M pc M' (.ref b :: As) rest (As.reverse ++ .ref b :: rest) h k n := by
  intro p e s m args below meth c X H locs ls hR T hT XS
  have hKs := xC_K X
  obtain ⟨hx, hb9, hml, hown, -, -, -, -, hstt, hK, hts, -⟩ := X
  obtain ⟨Cn, Tt, N, x9, owner, hcl, hlink, hsame, hdesc, hdecl, howner, hsel, hinst⟩ := hi
  obtain ⟨mk, methM, hnamed, hmethM, hstM, habM⟩ := Cond.instanceMethod_spec (hts _ hinst)
  obtain ⟨m8, methM', cM, hn8, hmethM', -, -, -, -, -, -, hsigM⟩ := Cond.codeWith_spec (xCode_at (a := args) hc hKs)
  cases Option.some.inj (hn8.symm.trans hnamed)
  cases hmethM.symm.trans hmethM'
  have hd0 : va_Decl s ⟨owner, x9.name, x9.desc⟩ := by
    rcases hdecl with h1 | h1
    · obtain ⟨m5, meth5, g1, g2, g3, g4⟩ := Cond.declares_spec (hts _ h1)
      exact ⟨m5, meth5, g1, g2, g3, g4⟩
    · rw [← h1]
      exact ⟨mk, methM, hnamed, hmethM, hstM, hsigM⟩
  obtain ⟨r0, r, hn, hrm, hstR, hsigR⟩ := hd0
  obtain ⟨cn, ck, r1, hcn, hck, hni, hf, hn1⟩ := Cond.sameMethod_found (hts _ hsame)
  cases hn.symm.trans hn1
  obtain ⟨c2, r2, m2, q1, q2, q3, q4, kP, hkP, hkPi⟩ := Cond.selects_spec (hts _ hsel)
  obtain ⟨r9, h1, cellB, g1, g2, g3, -⟩ := hR.2 b _ hb
  have hcls : s.vm.findClass Cn = some cellB.cls := by rw [g2]; exact (hK.1 ci _ hcl).2.1
  cases hcls.symm.trans q1
  cases hf.symm.trans q2
  cases hnamed.symm.trans q3
  have hselP : selectMethod e.platform s.vm cellB.cls r0 = .method mk := by rw [Launch.admits_selectMethod XS.admits]; exact q4
  have hcell : T.heap[b]? = some cellB := by rw [hT]; exact g1
  have hlen : As.length = r.sig.parameters.length := hj.trans (xAr_len ha _ (by rw [← hdesc]; exact hsigR))
  obtain ⟨vm₁, X₁, hstep₁⟩ := XS.invokevirtualUp hx hown (hts _ hlink) (hts _ hsame) howner hn hrm hstR (a := b) (cell := cellB) hcell
    (fun z hz => by rw [g3] at hz; cases hz) hselP hmethM habM hkP hkPi (g := F0 m pc ls (As.reverse ++ .ref b :: rest)) rfl (argsL := As) (rest := rest) hlen rfl (by rw [hb9]; exact hd)
  exact ⟨mk, vm₁, hnamed, X₁.warmed, X₁, hstep₁⟩
theorem go_i {idx b : Nat} {As : List Value} {M' : xMt} {j : Nat} (hd : decode M.2.1 pc = .ok (.invokespecial idx, 3)) (hi : xIi M.1.cls idx M') (ha : xAr M' j) (hj : As.length = j) : xGo C M pc M' (.ref b :: As) rest (As.reverse ++ .ref b :: rest) h k n := by
  intro p e s m args below meth c X H locs ls hR T hT XS
  obtain ⟨hx, hb9, hml, hown, -, -, -, -, hstt, hK, hts, -⟩ := X
  obtain ⟨hlink, hinst, hy1, hy, hr9, hh9, hcode⟩ := hi
  have hpl : e.platform.magicAccessors = ({} : Platform).magicAccessors := by rw [XS.admits.platform]
  have hcd : (Cond.code M'.1 M'.2.1 M'.2.2.1 none).before args s = true := by rw [← hr9]; exact hts _ hcode
  have hlen : ∀ sig, parseMethodDescriptor M'.1.desc = some sig → As.length = sig.parameters.length := fun sig hs => hj.trans (xAr_len ha _ hs)
  rcases hlink with hlink | ⟨host, hlink⟩
  · obtain ⟨mk, methM, cM, kP, vm₁, hnamed, hmethM, hcodeM, -, hlocalsM, -, hkP, -, hW₁, hstep₁⟩ := Steps.initColdArgs (e := e) XS.here hx XS.warmed hpl hown hy1 hy (hts _ hlink) (hts _ hinst) hcd (f := F0 m pc ls (As.reverse ++ .ref b :: rest)) rfl hlen rfl (by rw [hb9]; exact hd)
    exact ⟨mk, vm₁, hnamed, hW₁, XS.noted hW₁, hstep₁⟩
  · obtain ⟨mk, methM, cM, kP, vm₁, hnamed, hmethM, hcodeM, -, hlocalsM, -, hkP, -, hW₁, hstep₁⟩ := Steps.initColdArgsNest (e := e) XS.here hx XS.warmed hpl hown hy1 hy (hts _ hlink) (hts _ hinst) hcd (f := F0 m pc ls (As.reverse ++ .ref b :: rest)) rfl hlen rfl (by rw [hb9]; exact hd)
    exact ⟨mk, vm₁, hnamed, hW₁, XS.noted hW₁, hstep₁⟩
theorem go_s {idx : Nat} {As : List Value} {M' : xMt} {j : Nat} (hd : decode M.2.1 pc = .ok (.invokestatic idx, 3)) (hi : xSi M.1.cls idx M') (hc : xCode M') (ha : xAr M' j) (hj : As.length = j) : xGo C M pc M' As rest (As.reverse ++ rest) h k n := by
  intro p e s m args below meth c X H locs ls hR T hT XS
  have hKs := xC_K X
  obtain ⟨hx, hb9, hml, hown, -, -, -, -, hstt, hK, hts, -⟩ := X
  obtain ⟨hlink, hstat, hy⟩ := hi
  obtain ⟨mk, methM, cM, hnamed, hmethM, -, -, -, -, -, -, hsigM⟩ := Cond.codeWith_spec (xCode_at (a := args) hc hKs)
  have hstatic : methM.isStatic = true := Cond.static_spec hnamed hmethM (hts _ hstat)
  obtain ⟨kP, hkP, -⟩ := className_of_methodNamed hnamed
  have hinitP : kP.init = .initialized := Cond.initialized_spec (findClass_of_methodNamed hnamed) hkP (hts _ hc.2.1)
  have hlen := hj.trans (xAr_len ha _ hsigM)
  rcases hlink with hlink | ⟨host, hlink⟩
  · obtain ⟨vm₁, X₁, hstep₁⟩ := XS.invokestatic hx hown (hts _ hlink) hnamed hmethM hstatic hkP hinitP hy (g := F0 m pc ls (As.reverse ++ rest)) rfl (argsL := As) (rest := rest) hlen rfl (by rw [hb9]; exact hd)
    exact ⟨mk, vm₁, hnamed, X₁.warmed, X₁, hstep₁⟩
  · obtain ⟨vm₁, X₁, hstep₁⟩ := XS.invokestaticNest hx hown (hts _ hlink) hnamed hmethM hstatic hkP hinitP hy (g := F0 m pc ls (As.reverse ++ rest)) rfl (argsL := As) (rest := rest) hlen rfl (by rw [hb9]; exact hd)
    exact ⟨mk, vm₁, hnamed, X₁.warmed, X₁, hstep₁⟩
end XGO
end
section
/-! More rows: boolean arrays, a static, a copy of longs, a constant, throwing, catching. -/
section XMORE
variable {C : xCt} {M : xMt} {pc : Nat} {L : List (Option Value)} {st : List Value} {h : xH} {k n : Nat}
theorem ex_zaload {a N j : Nat} {f : Nat → Int32} {i : Int32} (hd : decode M.2.1 pc = .ok (.baload, 1)) (hh : h.2 a = some (.inl (3, N, .inl f))) (hi : i = nI j) (hj : j < N) (hN : N < 2 ^ 31) (kk : Ex C M (pc + 1) L (.int (f j) :: st) h k n) : Ex C M pc L (.int i :: .ref a :: st) h k n := by
  subst hi
  intro p e s m args below meth c X H locs ls hL hR hS
  have kk := kk p e s m args below meth c X H locs ls hL hR hS
  obtain ⟨hx, hb, -, -, -, -, -, -, -, hK, -⟩ := X
  refine va_zald hx hb hK (xone hR hh) 0 3 rfl rfl (vp_in_nI hj hN) hd ?_
  rw [nI_clamp (by omega)]
  exact kk
theorem ex_zastore {a N j : Nat} {f : Nat → Int32} {i x : Int32} (hd : decode M.2.1 pc = .ok (.bastore, 1)) (hh : h.2 a = some (.inl (3, N, .inl f))) (hi : i = nI j) (hj : j < N) (hN : N < 2 ^ 31) (hx : x = 0 ∨ x = 1) (kk : Ex C M (pc + 1) L st (xup h a (.inl (3, N, .inl (upd f j x)))) k n) : Ex C M pc L (.int x :: .int i :: .ref a :: st) h k n := by
  subst hi
  intro p e s m args below meth c X H locs ls hL hR hS
  have kk := kk p e s m args below meth c X
  obtain ⟨hx9, hb, -, -, -, -, -, -, -, hK, -⟩ := X
  have h0 : H[a]? = some (vp_cell (C.2.1.2.1 3) (N, .inl f)) := hR.2 a _ hh
  have hnar : narrow .boolean (.int x) = .int x := by rcases hx with rfl | rfl <;> decide
  refine W.zast hx9 hb h0 ((hK.2 3 _ rfl).1 N (fun j => .int (f j))) (fun q => by cases q) (by show ¬ (_ ∨ (arrV _ _ _).slots.size ≤ _); rw [arrV_size]; exact vp_in_nI hj hN) rfl rfl hd fun H1 e z oq => ?_
  rw [nI_clamp (by omega)] at e ⊢
  refine kk H1 _ ls hL (xRep_up hR ?_ z oq) (xS_up hS hh z oq)
  show H1[a]? = some (vp_cell _ _)
  rw [e, vp_cell_i, vp_cell_i, arrV_store]
  congr 2
  funext q
  by_cases hq : q = j
  · subst hq
    simp [updV, upd, hnar]
  · simp [updV, upd, hq]
theorem ex_newz {N : Nat} {i : Int32} (hd : decode M.2.1 pc = .ok (.newarray .boolean, 2)) (hw : Cond.arrayClass .boolean ∈ xTAB) (hi : i = nI N) (hN : N < 65536) (hk : k + 1 ≤ C.2.2.2.1) (hn : n + N ≤ C.2.2.2.2.1) (kk : Ex C M (pc + 2) L (.ref h.1 :: st) (xnew h (.inl (3, N, .inl (fun _ => 0)))) (k + 1) (n + N)) : Ex C M pc L (.int i :: st) h k n := by
  subst hi
  intro p e s m args below meth c X H locs ls hL hR hS
  have kk := kk p e s m args below meth c X
  obtain ⟨hx, hb, -, hown, -, -, -, -, -, hK, hts, -⟩ := X
  refine va_newaK (atype := .boolean) hx hb (hts _ hw) rfl hd rfl (nI_pos (by omega)) (nI_clamp (by omega)) (by show N * 1 ≤ _; omega) hk hn hR.1 fun H1 cA e1 z1 o1 hAr hNm => ?_
  have hcA : cA = C.2.1.2.1 3 := Option.some.inj (hNm.symm.trans (va_nm_boolean (hK.2 3 _ rfl).2))
  subst hcA
  exact kk H1 locs ls hL (xRep_new hR (by show H1[h.1]? = some (vp_cell _ _); rw [e1, vp_cell_i]; rfl) z1 o1) (xS_new hS hR z1 o1)
theorem ex_ldc2 {idx : Nat} {v : Int64} (hd : decode M.2.1 pc = .ok (.ldc2_w idx, 3)) (hw : Cond.constantLong M.1.cls idx v ∈ xTAB) (kk : Ex C M (pc + 3) L (.long v :: st) h k n) : Ex C M pc L st h k n := by
  intro p e s m args below meth c X H locs ls hL hR hS
  have kk := kk p e s m args below meth c X H locs ls hL hR hS
  obtain ⟨hx, hb, -, hown, -, -, -, -, -, hK, hts, -⟩ := X
  exact lv_ldc2 hx hb hown (hts _ hw) hd kk
/-- the empty array of the class Writing -/
theorem ex_noEntries {idx : Nat} (hd : decode M.2.1 pc = .ok (.getstatic idx, 3)) (hw : Cond.fieldLink M.1.cls idx "PairedWords$Writing" "NO_ENTRIES" "[I" ∈ xTAB) (kk : ∀ (a : Nat) (f : Nat → Int32), C.2.1.2.2 a = some (0, f) → Ex C M (pc + 3) L (.ref a :: st) h k n) : Ex C M pc L st h k n := by
  intro p e s m args below meth c X H locs ls hL hR hS
  have XX := X
  obtain ⟨hx, hb, -, hown, -, -, -, -, -, hK, hts, -, ⟨-, -, -, a, f, h5, h6⟩, -⟩ := X
  exact va_gets hx hb h6.z hS.va hown (hts _ hw) (fun _ h9 => h9) hd (kk a f h5 p e s m args below meth c XX H locs ls hL hR hS)
theorem ex_copyl {a0 a N0 N1 idx N : Nat} {f g : Nat → Int64} {i0 i1 i2 : Int32} (hd : decode M.2.1 pc = .ok (.invokestatic idx, 3)) (hw : Cond.methodLink M.1.cls idx arraycopyName ∈ xTAB) (w1 : Cond.native arraycopyName ∈ xTAB) (w2 : Cond.static arraycopyName ∈ xTAB) (w3 : Cond.initialized "java/lang/System" ∈ xTAB)
    (h0 : h.2 a0 = some (.inl (1, N0, .inr (.inl f)))) (h1 : h.2 a = some (.inl (1, N1, .inr (.inl g)))) (e0 : i0 = 0) (e1 : i1 = 0) (e2 : i2 = nI N) (hN0 : N ≤ N0) (hN1 : N ≤ N1) (hN : N < 2 ^ 31) (hst : (st.map fun v => v.category).sum ≤ 16)
    (kk : Ex C M (pc + 3) L st (xup h a (.inl (1, N1, .inr (.inl (fun j => if j < N then f j else g j))))) k n) : Ex C M pc L (.int i2 :: .int i1 :: .ref a :: .int i0 :: .ref a0 :: st) h k n := by
  subst e0; subst e1; subst e2
  intro p e s m args below meth c X H locs ls hL hR hS T hT XS
  have kk := kk p e s m args below meth c X
  obtain ⟨hx, hb, hml, hown, -, -, -, -, -, hK, hts, -⟩ := X
  have hc0 : H[a0]? = some (vp_cell (C.2.1.2.1 1) (N0, .inr (.inl f))) := hR.2 a0 _ h0
  have hc1 : H[a]? = some (vp_cell (C.2.1.2.1 1) (N1, .inr (.inl g))) := hR.2 a _ h1
  have hcl9 : (nI N).toNatClampNeg = N := nI_clamp hN
  have hto : (nI N).toInt = (N : Int) := nI_toInt hN
  have hz : (0 : Int32).toInt = 0 := rfl
  have hz2 : (0 : Int32).toNatClampNeg = 0 := rfl
  obtain ⟨-, k0, hk0, cm0, hkk0⟩ := (hK.2 1 _ rfl).1 N0 (fun j => .long (f j))
  obtain ⟨-, k1, hk1, cm1, hkk1⟩ := (hK.2 1 _ rfl).1 N1 (fun j => .long (g j))
  obtain ⟨vm', X', step⟩ := XS.arraycopy hx hown (hts _ hw) (hts _ w1) (hts _ w2) (hts _ w3) (src := a0) (dst := a) (cs := vp_cell (C.2.1.2.1 1) (N0, .inr (.inl f))) (cd := vp_cell (C.2.1.2.1 1) (N1, .inr (.inl g))) (srcPos := 0) (destPos := 0) (n := nI N) (by rw [hT]; exact hc0) (by rw [hT]; exact hc1)
    (fun _ h => by cases h) (fun _ h => by cases h) (fun h => by cases h) (fun h => by cases h) hk0 hk1 hkk0 hkk1 (by simp [refKind]) (by decide) (by decide) (nI_pos hN)
    (by rw [hto, hz]; show ¬ _ > ((arrV _ N0 (fun j => .long (f j))).slots.size : Int); rw [arrV_size]; omega)
    (by rw [hto, hz]; show ¬ _ > ((arrV _ N1 (fun j => .long (g j))).slots.size : Int); rw [arrV_size]; omega)
    (fun vm₁ _ i hi => by
      rw [hcl9] at hi
      have e : (vp_cell (C.2.1.2.1 1) (N0, .inr (.inl f))).slots.getD ((0 : Int32).toNatClampNeg + i) .null = .long (f i) := by
        show (arrV _ N0 (fun j => .long (f j))).slots.getD _ _ = _
        rw [hz2, Nat.zero_add, Array.getD_eq_getD_getElem?, arrV_read _ _ (by omega)]
        rfl
      refine ⟨?_, ?_⟩
      · rw [e]; rfl
      · rw [e]; exact trivial)
    (g := F0 m pc ls (.int (nI N) :: .int 0 :: .ref a :: .int 0 :: .ref a0 :: st)) rfl (by rw [hml]; exact hL.1) (rest := st) rfl (by rw [hb]; exact hd) (by show 1 ≤ C.2.2.1 + 8; omega) (by show 2 * 0 + _ + _ ≤ 64 * C.2.2.1 + 200; have hw9 : nativeFrameWords "java/lang/System" "arraycopy" 5 ≤ 100 := (by decide); omega)
  have e1 : copied (vp_cell (C.2.1.2.1 1) (N0, .inr (.inl f))) (vp_cell (C.2.1.2.1 1) (N1, .inr (.inl g))) 0 0 (nI N) = vp_cell (C.2.1.2.1 1) (N1, .inr (.inl (fun j => if j < N then f j else g j))) := by
    refine (va_copied (fun z => .long z) (C.2.1.2.1 1) (C.2.1.2.1 1) f g (by rw [hz2, hcl9]; omega)).trans ?_
    rw [vp_cell_l, hz2, hcl9]
    congr 1
    funext j
    simp only [va_cpy]
    by_cases hj : j < N
    · rw [if_pos ⟨Nat.zero_le _, by omega⟩, if_pos hj]; congr 2; omega
    · rw [if_neg (by omega), if_neg hj]
  rw [e1] at X' step
  have hl : a < H.size := (Array.getElem?_eq_some_iff.mp hc1).1
  generalize hcell : vp_cell (C.2.1.2.1 1) (N1, .inr (.inl (fun j => if j < N then f j else g j))) = cell at X' step
  have hheap : ((T.setVm vm').setCell a cell).heap = H.setIfInBounds a cell := by rw [← hT]; rfl
  have oq : ∀ q : Nat, q ≠ a → (H.setIfInBounds a cell)[q]? = H[q]? := fun q hq => by simp [Array.getElem?_setIfInBounds, Ne.symm hq]
  have hA : xA C.2.2.2.2.2.1 a := hS.2.2.2 a (Or.inl (by rw [h1]; rfl))
  obtain ⟨t, a1, b1⟩ := kk (H.setIfInBounds a cell) _ ls hL (xRep_up hR (show (H.setIfInBounds a cell)[a]? = some _ by rw [← hcell]; simp [Array.getElem?_setIfInBounds, hl]) (by simp) oq)
    ⟨by simp; exact hS.1, fun q g1 g2 => by
      rw [oq q (fun e => g2 (by rw [e]; exact hA))]
      exact hS.2.1 q g1 g2, fun q hq => by
      rcases List.mem_append.mp hq with h9 | h9
      · exact hS.2.2.1 q h9
      · obtain ⟨z, -, hz9⟩ := List.mem_map.mp h9
        rw [← hz9]
        exact hA, fun q hq => hS.2.2.2 q ((xA_up h1 q).mp hq)⟩ _ hheap X'
  exact ⟨t, step t a1, b1⟩
end XMORE
end
section
/-! Throwing and catching (launches without stack traces). -/
section XTHROW
/-- the frame as if it had been entered in the heap of now: what was written before is old -/
theorem xrebase {p : Program} {l : Launch} {e : Env} {R : Room} {s : State} {m : MethodId} {args : Array Value} {below : List Frame} {meth : Method} {c : Code} {T : State} {locs : List Loc} {k n : Nat} (X : Stand p l e R s m args below meth c T locs k n) {R' : Room} (hf : R'.frames ≤ R.frames) (hl : R'.locals ≤ R.locals) (hc : k + R'.cells ≤ R.cells) (hs : n + R'.slots ≤ R.slots) :
    Stand p l e R' ((T.setVm s.vm).setFrames (.invoking m args :: below)) m args below meth c T [] 0 0 := by
  have htop : (T.setVm s.vm).topJava?.isSome := X.here.top
  obtain ⟨g₀, hg0⟩ := Option.isSome_iff_exists.mp htop
  obtain ⟨r, hr⟩ := State.topJava?_eq_some.mp hg0
  obtain ⟨th, hth, -⟩ := State.frames_cons hr
  have hF : ((T.setVm s.vm).setFrames (.invoking m args :: below)).frames = .invoking m args :: below := State.frames_setFrames _ (State.cur_lt_of_top htop)
  have hlim : e.platform.stackLimits (T.setVm s.vm).me = e.platform.stackLimits s.me := X.limits
  have hbyt : (T.setVm s.vm).me.stackBytes = s.me.stackBytes := X.bytes
  have hdrop : T.heap.toList.drop T.heap.size = [] := List.drop_eq_nil_of_le (Nat.le_of_eq Array.length_toList)
  refine ⟨X.admits, X.cas, X.clock, hF, ?_, X.hears, X.method, X.code, X.here, X.tail, X.warmed, ?_, ?_, ?_, Nat.le_refl _, Nat.le_refl _, ?_, ?_, fun a c9 h9 => ⟨c9, h9, rfl, rfl, fun _ _ => rfl⟩⟩
  · have h := X.room
    have hU : ((T.setVm s.vm).setFrames (.invoking m args :: below)).localsInUse = s.localsInUse := by
      rw [State.localsInUse_invoking hF (meth := meth) (c := c) X.method X.code, State.localsInUse_invoking X.frames X.method X.code]
    simp only [State.hasRoom, Bool.and_eq_true, decide_eq_true_eq] at h ⊢
    obtain ⟨⟨⟨⟨h1, h2, h3, h4, h5, h6⟩, h7⟩, h8⟩, h9⟩ := h
    rw [X.frames, List.length_cons] at h2 h3
    have q1 := X.heapSize
    have q2 := X.used
    simp only [hF, hU, List.length_cons, State.stackLimits_setFrames, State.stackBytes_setFrames, hlim, hbyt]
    have z1 : T.heap.size + R'.cells ≤ e.platform.maxCells := by omega
    have z2 : T.slotsUsed + R'.slots ≤ e.platform.maxSlots := by omega
    exact ⟨⟨⟨⟨by omega, by omega, by omega, by omega, by omega, h6⟩, z1⟩, z2⟩, X.book⟩
  · rw [State.stackLimits_setFrames]; rfl
  · rw [State.stackBytes_setFrames]; rfl
  · show T.setVm s.vm = { ((T.setVm s.vm).setFrames (.invoking m args :: below)).setFrames (T.setVm s.vm).frames with heap := T.heap, slotsUsed := T.slotsUsed }
    rw [State.setFrames_setFrames, State.setFrames_self hth]
    rfl
  · show T.slotsUsed = T.slotsUsed + ((T.heap.toList.drop T.heap.size).map (·.slots.size)).sum
    rw [hdrop]; rfl
  · show ((T.heap.toList.drop T.heap.size).map (·.slots.size)).sum ≤ 0
    rw [hdrop]; exact Nat.le_refl _
theorem xunmoved {s U : State} {k n : Nat} (h : s.sameButNew ({ U with vm := s.vm } : State) [] k n) : s.heap.size ≤ U.heap.size ∧ U.heap.size ≤ s.heap.size + k ∧ ∀ q : Nat, q < s.heap.size → U.heap[q]? = s.heap[q]? := by
  obtain ⟨-, h2, h3, -, -, h6⟩ := h
  refine ⟨h2, h3, fun q hq => ?_⟩
  obtain ⟨c9, e1, e2, -, e4⟩ := h6 q _ (Array.getElem?_eq_getElem hq)
  have hs : c9.slots = (s.heap[q]).slots := Array.ext_getElem? fun i => e4 i (fun hm => nomatch hm)
  have h9 : c9 = s.heap[q] := by rw [hs] at e2; exact e2
  have e5 : U.heap[q]? = some c9 := e1
  rw [e5, h9, Array.getElem?_eq_getElem hq]
/-- the words of a throw that speak of the heap -/
def xhw (w : Cond) : Bool := decide (w = .isRef (.static Bundle.tN "UNASSIGNED_STACK" Bundle.steD)) || decide (w = .isRef (.static Bundle.tN "SUPPRESSED_SENTINEL" Bundle.listD)) || decide (w = .laysStatic Bundle.tN "UNASSIGNED_STACK" Bundle.steD) || decide (w = .laysStatic Bundle.tN "SUPPRESSED_SENTINEL" Bundle.listD)
def xOwn (own : String) (ik is ic : Nat) (E text : String) (names : List String) : Prop :=
  (∀ w ∈ Bundle.ownAtoms own ic E names, w ∈ xTAB ∨ xhw w = true) ∧ Cond.classLink own ik E ∈ xTAB ∧ Cond.initialized E ∈ xTAB ∧ Cond.instantiable E 6 ∈ xTAB ∧ (own, is, text) ∈ xSTR ∧ Bundle.fit E = true ∧ (∀ n ∈ names, Bundle.fit n = true) ∧ names.length ≤ 2
variable {C : xCt} {M : xMt} {pc : Nat} {L : List (Option Value)} {st : List Value} {h : xH} {k n : Nat}
theorem ex_throw {ik is ic : Nat} {E text : String} {names : List String} (d0 : decode M.2.1 pc = .ok (.new ik, 3)) (d3 : decode M.2.1 (pc + 3) = .ok (.dup, 1)) (d4 : decode M.2.1 (pc + 4) = .ok (.ldc is, 2)) (d6 : decode M.2.1 (pc + 6) = .ok (.invokespecial ic, 3)) (d9 : decode M.2.1 (pc + 9) = .ok (.athrow, 1))
    (hw : xOwn M.1.cls ik is ic E text names) (hh : M.2.2.2.2 = []) (hst : (st.map fun v => v.category).sum ≤ 16) (hk : k + 1 ≤ C.2.2.2.1) (hn : n + 6 ≤ C.2.2.2.2.1) (hq : C.2.2.2.2.2.2 (.inr E) (xbump h)) : Ex C M pc L st h k n := by
  intro p e s m args below meth c X H locs ls hL hR hS T hT XS
  have XX := X
  have hKs := xC_K X
  obtain ⟨hx, hb, hml, hown, -, hlk, -, htab, hstt, hK, hts, hR0, hZ0, hT0⟩ := X
  obtain ⟨hat, hcl, hini, hins, hstr, hfit, hnames, hnl⟩ := hw
  have htr : e.platform.stackTraces = false := (show e.platform.stackTraces = C.1.stackTraces by rw [XS.admits.platform]).trans hstt
  have Y := xrebase XS (R' := { frames := (xR C).frames, locals := (xR C).locals, cells := 1, slots := 6 }) (Nat.le_refl _) (Nat.le_refl _) hk hn
  obtain ⟨s', hA⟩ : ∃ z, z = (T.setVm s.vm).setFrames (.invoking m args :: below) := ⟨_, rfl⟩
  rw [← hA] at Y
  have hvm : s'.vm = s.vm := by rw [hA]; rfl
  have hhp : s'.heap = H := by rw [hA]; exact hT
  have hW0 : s.WarmedH s'.vm := by rw [hvm]; exact State.WarmedH.refl s
  have hK' : xK C.2.1 s' := xK_moved hW0 hKs
  have hZ' : xZ C.2.1 h s' s'.heap := by rw [hhp]; exact xZ_at hZ0 hS hW0.alike
  have hts' := xK_words (args := args) hK'
  obtain ⟨-, ⟨v1, r1, s1⟩, ⟨v2, r2, s2⟩, -⟩ := hZ'
  have hwords : ∀ w ∈ Bundle.ownAtoms M.1.cls ic E names, w.before args s' = true := fun w hw9 => by
    rcases hat w hw9 with h1 | h1
    · exact hts' w h1
    · simp only [xhw, Bool.or_eq_true, decide_eq_true_eq] at h1
      rcases h1 with ((h1 | h1) | h1) | h1
      · rw [h1]; exact s1.isRef r1
      · rw [h1]; exact s2.isRef r2
      · rw [h1]; exact s1.lays
      · rw [h1]; exact s2.lays
  have hown' : s'.vm.findClass M.1.cls = some m.cls := by rw [hvm]; exact hown
  obtain ⟨vm₁, cX, kX, hfX, hkX, -, -, X₁, st1⟩ := Y.newCold hx (own := M.1.cls) (C := E) (index := ik) (n := 6) hown' (hts' _ hcl) (hts' _ hins) (hts' _ hini)
    (g := F0 m pc ls st) rfl (by rw [hb]; exact d0) (Nat.le_refl _) (Nat.le_refl _)
  generalize hT1 : (T.setVm vm₁).pushCell { cls := cX, slots := kX.instanceTypes.map defaultValue, vm := .none } = T1 at X₁ st1
  have hcat : (Value.ref T.heap.size).category = 1 := rfl
  have hcellA : T1.heap[T.heap.size]? = some (freshCell cX kX) := by rw [← hT1]; exact State.heap_pushCell_size _ _
  have hT1sz : T1.heap.size = T.heap.size + 1 := by rw [← hT1]; exact State.heap_size_pushCell _ _
  have d3' : decode c.code (pc + 3) = .ok (.dup, 1) := by rw [hb]; exact d3
  have d4' : decode c.code (pc + 4) = .ok (.ldc is, 2) := by rw [hb]; exact d4
  obtain ⟨sa, hsa⟩ := hK'.2.2.1 _ hstr
  have hout : ∀ x ∈ c.exceptionTable.toList, covers x (pc + 9) = false := fun x hx9 => by
    rw [hh] at htab
    rw [List.map_eq_nil_iff.mp htab] at hx9
    cases hx9
  obtain ⟨U, hsteps, hrun, hend, hW, hsame, ce, hce, hO⟩ := X₁.ctorThrowS hx htr (own := M.1.cls) (cls := E) (names := names) (ic := ic) hown' hfit hnames hwords (fun x hx => nomatch hx) hfX hkX hcellA (by rw [hhp, hT]; exact Nat.le_refl _) (msg := .ref sa) rfl
    (g := { method := m, pc := pc + 6, locals := ls, stack := .ref sa :: .ref T.heap.size :: .ref T.heap.size :: st, locked := none }) rfl (by rw [hml]; exact hL.1) rfl rfl (rest := st) rfl
    (by rw [hb]; exact d6) (by rw [hb]; exact d9) hout (by show _ < C.2.2.1 + 8; omega) (by show 2 * 0 + _ + _ ≤ 64 * C.2.2.1 + 200; simp only [List.map_cons, List.sum_cons, hcat]; omega) hlk
  obtain ⟨f1, f2, f3⟩ := xunmoved hsame
  rw [hhp] at f1 f2 f3
  have hWs : s.WarmedH U.vm := State.WarmedH.trans hW0 hW
  have hUs : U.heap.size = H.size + 1 := by
    have := hsteps.heap_le
    have h9 : T1.heap.size ≤ U.heap.size := this
    rw [hT1sz, hT] at h9
    omega
  have hcls : s.vm.findClass E = some ce.cls := by
    have h9 := hO.cls
    rw [hvm] at h9
    exact h9
  have hall : s.sameButNew ({ U with vm := s.vm } : State) locs C.2.2.2.1 C.2.2.2.2.1 := by
    subst hA
    obtain ⟨e1, e2⟩ := hsame
    rw [State.setFrames_setFrames] at e1
    have h2 : (T.setVm s.vm).sameButNew ({ U with vm := s.vm } : State) [] (0 + 1) (0 + 6) := ⟨e1, e2⟩
    have h3 := XS.same.trans h2
    rw [List.append_nil] at h3
    exact h3.mono hk hn
  refine ⟨U, ?_, .threw T.heap.size, hrun, hend, .inr E, xbump h, hq, ⟨T.heap.size, ce, rfl, hce, hO.vm, hcls⟩, ⟨by rw [hUs, hR.1]; rfl, fun a e9 h9 => ?_⟩, hWs, locs, ⟨Nat.le_trans hS.1 f1, fun q g1 g2 => ?_, hS.2.2.1, fun q hq9 => ?_⟩, hall⟩
  · refine st1 _ ?_
    show Steps p.tables e below (T1.setTop { method := m, pc := pc + 3, locals := ls, stack := .ref T.heap.size :: st, locked := none }) _
    jvm_step X₁.here [X₁.here.top, hx, d3', Value.category]
    exact X₁.ldcString hx (own := M.1.cls) (text := text) (index := is) (a := sa) hown' hsa.1 hsa.2
      (g := { method := m, pc := pc + 4, locals := ls, stack := .ref T.heap.size :: .ref T.heap.size :: st, locked := none }) rfl d4' _ hsteps
  · have h8 : h.2 a = some e9 := h9
    exact (hR.2 a e9 h8).kept (f3 a (hR.2 a e9 h8).lt)
  · rw [f3 q (Nat.lt_of_lt_of_le g1 hS.1)]; exact hS.2.1 q g1 g2
  · rcases hq9 with h8 | h8
    · exact hS.2.2.2 q (Or.inl h8)
    · exact hS.2.2.2 q (Or.inr (Nat.le_of_succ_le h8))
end XTHROW
end
section
/-! Catching: a handler table of one or two rows; the rows' classes may still be open in the pool. -/
section XCATCH
def xFT (e : Env) (S : State) (f : JFrame) (a : Addr) (h : Handler) (vm' : Vm) : Prop :=
  ∀ (Q : Handler → Pre) (E : CtlPost) (d : Bool) (acts : List Action), wp (findHandler f a) Q E e d acts S ↔ Q h d acts (S.setVm vm')
theorem xrow_yes {Q : Handler → Pre} {E : CtlPost} {e : Env} {d : Bool} {acts : List Action} {s : State} {f : JFrame} {a : Addr} {x : ExceptionTableEntry} {t : List ExceptionTableEntry} {c : ClassId} {cell : Cell} (hx : covers x f.pc = true) (h0 : x.catchType ≠ 0)
    (hl : s.vm.ClassLinks e.platform f.method.cls x.catchType c) (hcell : s.heap[a]? = some cell) (hobj : ∀ k, cell.vm ≠ .statics k) (hk : ∃ k, s.vm.classes[cell.cls]? = some k) (hc : ∃ k, s.vm.classes[c]? = some k) (hfit : s.vm.assignable cell.cls c = true) :
    wp (findHandler.go f a (x :: t)) Q E e d acts s ↔ Q (.found x.handlerPc) d acts (s.setVm (s.vm.noted f.method.cls x.catchType (.cls c))) := by
  simp only [covers] at hx
  obtain ⟨ha, ht⟩ := (resolveClass_links e.toSetting hl).op (op := VmOp.resolveClass f.method.cls x.catchType) rfl
  have hal : s.vm.Alike (s.vm.noted f.method.cls x.catchType (.cls c)) := (Vm.Alike.refl s.vm).noted _ _ _
  obtain ⟨k1, hk1⟩ := hk
  obtain ⟨k2, hk2⟩ := hc
  obtain ⟨k1', hk1', -⟩ := hal.2.2 _ _ hk1
  obtain ⟨k2', hk2', -⟩ := hal.2.2 _ _ hk2
  have hfit' : (s.vm.noted f.method.cls x.catchType (.cls c)).assignable cell.cls c = true := by rw [hal.assignable]; exact hfit
  simp [findHandler.go, hx, h0, ha, ht, hcell, hobj, hk1', hk2', hfit', VmOp.dirties, VmOp.acts]
theorem xrow_no {Q : Handler → Pre} {E : CtlPost} {e : Env} {d : Bool} {acts : List Action} {s : State} {f : JFrame} {a : Addr} {x : ExceptionTableEntry} {t : List ExceptionTableEntry} {c : ClassId} {cell : Cell} (hx : covers x f.pc = true) (h0 : x.catchType ≠ 0)
    (hl : s.vm.ClassLinks e.platform f.method.cls x.catchType c) (hcell : s.heap[a]? = some cell) (hobj : ∀ k, cell.vm ≠ .statics k) (hk : ∃ k, s.vm.classes[cell.cls]? = some k) (hc : ∃ k, s.vm.classes[c]? = some k) (hno : s.vm.assignable cell.cls c = false) :
    wp (findHandler.go f a (x :: t)) Q E e d acts s ↔ wp (findHandler.go f a t) Q E e d acts (s.setVm (s.vm.noted f.method.cls x.catchType (.cls c))) := by
  simp only [covers] at hx
  obtain ⟨ha, ht⟩ := (resolveClass_links e.toSetting hl).op (op := VmOp.resolveClass f.method.cls x.catchType) rfl
  have hal : s.vm.Alike (s.vm.noted f.method.cls x.catchType (.cls c)) := (Vm.Alike.refl s.vm).noted _ _ _
  obtain ⟨k1, hk1⟩ := hk
  obtain ⟨k2, hk2⟩ := hc
  obtain ⟨k1', hk1', -⟩ := hal.2.2 _ _ hk1
  obtain ⟨k2', hk2', -⟩ := hal.2.2 _ _ hk2
  have hno' : (s.vm.noted f.method.cls x.catchType (.cls c)).assignable cell.cls c = false := by rw [hal.assignable]; exact hno
  simp [findHandler.go, hx, h0, ha, ht, hcell, hobj, hk1', hk2', hno', VmOp.dirties, VmOp.acts]
theorem xcaught {tb : Tables} {e : Env} {s target : State} {g : JFrame} {c : Code} {below : List Frame} {a : Addr} (h : At s g.method c below) {pc : Nat} {vm' : Vm}
    (hfind : xFT e ((s.setTop g).pushFrame (.throwing a)) g a (.found pc) vm') (hrest : Steps tb e below ((s.setVm vm').setTop { g with pc := pc, stack := [.ref a] }) target) :
    Steps tb e below ((s.setTop g).pushFrame (.throwing a)) target := by
  obtain ⟨hgo, hw⟩ := h.throwing a
  have hstep : (stepThrowing e ((s.setTop g).pushFrame (.throwing a)) a (.java g :: s.frames.tail)).Is ((((s.setTop g).pushFrame (.throwing a)).setVm vm').setFrames (.java { g with pc := pc, stack := [.ref a] } :: s.frames.tail)) [] := by
    simp only [stepThrowing, searchFrame, vmDo]
    generalize hr : Sem.go _ e false [] ((s.setTop g).pushFrame (.throwing a)) = res
    obtain ⟨as, rfl, ha⟩ := Sem.eq_ok_of hr (a := Handler.found pc) (s' := ((s.setTop g).pushFrame (.throwing a)).setVm vm') (acts' := []) (by simp [hfind _ _ _ _])
    exact ⟨rfl, ha⟩
  refine Steps.head hgo hw ?_
  rw [stepThread_throwing (frames_entered h.top _), hstep.1]
  obtain ⟨g₀, hg⟩ := Option.isSome_iff_exists.mp h.top
  obtain ⟨r, hr⟩ := State.topJava?_eq_some.mp hg
  have hr' : (s.setVm vm').frames = .java g₀ :: r := hr
  have hh : ∀ (u : State) (F G : List Frame), ((u.setFrames F).setVm vm').setFrames G = (u.setVm vm').setFrames G := fun u F G => by
    have h1 : (u.setFrames F).setVm vm' = (u.setVm vm').setFrames F := rfl
    rw [h1, State.setFrames_setFrames]
  rw [State.setTop_of_frames _ hr'] at hrest
  rw [hr, List.tail_cons, State.pushFrame, hh, State.setTop_of_frames _ hr, hh]
  exact hrest
variable {C : xCt} {M : xMt} {pc : Nat} {L : List (Option Value)} {st : List Value} {h : xH} {k n : Nat}
theorem ex_catch1 {E nm : String} {a0 b0 p0 t0 : Nat} {tl : List (Nat × Nat × Nat × Nat)} (hh : M.2.2.2.2 = (a0, b0, p0, t0) :: tl) (hc : a0 ≤ pc ∧ pc < b0) (h0 : t0 ≠ 0) (hl : Cond.classLink M.1.cls t0 nm ∈ xTAB) (hk : Cond.castable E nm ∈ xTAB) (kk : ∀ q : Nat, Ex C M p0 L [.ref q] h k n) : ExX C M pc L st E h k n := by
  intro p e s m args below meth c X H locs ls hL hR hS q ce hce hcv hcl T hT XS
  have kk := kk q p e s m args below meth c X H locs ls hL hR hS
  obtain ⟨hx, hb, hml, hown, -, -, -, htab, -, hK, hts, -⟩ := X
  have hpl : e.platform.magicAccessors = ({} : Platform).magicAccessors := by rw [XS.admits.platform]
  obtain ⟨c3, c4, hc3, hc4, hasg⟩ := Cond.castable_spec (hts _ hk)
  cases Option.some.inj (hc3.symm.trans hcl)
  obtain ⟨c5, hc5, hcl5⟩ := Cond.classLink_spec hown (hts _ hl) e.platform hpl
  cases Option.some.inj (hc4.symm.trans hc5)
  have hal := XS.warmed.alike
  obtain ⟨dk, _, _, kt, hd, _, _, _, _, hkt, _, hopen⟩ := hcl5.here
  obtain ⟨kt', hkt', -⟩ := hal.2.2 _ _ hkt
  obtain ⟨ke, hke, -⟩ := Vm.findClass_spec hcl
  obtain ⟨ke', hke', -⟩ := hal.2.2 _ _ hke
  have htl : c.exceptionTable.toList = (⟨a0, b0, p0, t0⟩ : ExceptionTableEntry) :: tableOf tl := by
    rw [← table_eq c.exceptionTable.toList, htab, hh]; rfl
  have hfind : xFT e ((T.setTop (F0 m pc ls st)).pushFrame (.throwing q)) (F0 m pc ls st) q (.found p0) (T.vm.noted m.cls t0 (.cls c4)) := by
    intro Q E9 d acts
    rw [W.findHandler_eq (f := F0 m pc ls st) (s := (T.setTop (F0 m pc ls st)).pushFrame (.throwing q)) (meth := meth) (code := c) XS.method' XS.code, htl]
    exact xrow_yes (f := F0 m pc ls st) (s := (T.setTop (F0 m pc ls st)).pushFrame (.throwing q)) (x := ⟨a0, b0, p0, t0⟩) (by simp only [covers]; simp [hc.1, hc.2]) h0 (XS.warmed.classLinks hcl5) (by show T.heap[q]? = some ce; rw [hT]; exact hce) (fun k9 h9 => by rw [hcv] at h9; cases h9) ⟨ke', hke'⟩ ⟨kt', hkt'⟩ (by show T.vm.assignable _ _ = true; rw [hal.assignable]; exact hasg)
  have X' := XS.noted (XS.warmed.noted hd hopen (State.rightAt_cls hcl5))
  obtain ⟨t, a1, b1⟩ := kk (T.setVm (T.vm.noted m.cls t0 (.cls c4))) hT X'
  exact ⟨t, xcaught (g := F0 m pc ls st) XS.here hfind a1, b1⟩
theorem ex_catch2 {E nm nm2 : String} {a0 b0 p0 t0 a1 b1 p1 t1 : Nat} {tl : List (Nat × Nat × Nat × Nat)} (hh : M.2.2.2.2 = (a0, b0, p0, t0) :: (a1, b1, p1, t1) :: tl) (hc : a0 ≤ pc ∧ pc < b0) (h0 : t0 ≠ 0) (hl : Cond.classLink M.1.cls t0 nm ∈ xTAB) (hno : E = "java/lang/IllegalStateException" ∧ nm = "java/lang/IllegalArgumentException")
    (hc2 : a1 ≤ pc ∧ pc < b1) (h1 : t1 ≠ 0) (hl2 : Cond.classLink M.1.cls t1 nm2 ∈ xTAB) (hk : Cond.castable E nm2 ∈ xTAB) (kk : ∀ q : Nat, Ex C M p1 L [.ref q] h k n) : ExX C M pc L st E h k n := by
  intro p e s m args below meth c X H locs ls hL hR hS q ce hce hcv hcl T hT XS
  have kk := kk q p e s m args below meth c X H locs ls hL hR hS
  obtain ⟨hx, hb, hml, hown, -, -, -, htab, -, hK, hts, -, -, hT0⟩ := X
  have hpl : e.platform.magicAccessors = ({} : Platform).magicAccessors := by rw [XS.admits.platform]
  obtain ⟨c3, c4, hc3, hc4, hasg⟩ := Cond.castable_spec (hts _ hk)
  cases Option.some.inj (hc3.symm.trans hcl)
  obtain ⟨c5, hc5, hcl5⟩ := Cond.classLink_spec hown (hts _ hl2) e.platform hpl
  cases Option.some.inj (hc4.symm.trans hc5)
  obtain ⟨c6, hc6, hcl6⟩ := Cond.classLink_spec hown (hts _ hl) e.platform hpl
  obtain ⟨e1, n1, f1, f2, f3⟩ := hT0.2
  rw [hno.1] at hcl
  rw [hno.2] at hc6
  cases Option.some.inj (f1.symm.trans hcl)
  cases Option.some.inj (f2.symm.trans hc6)
  have hal := XS.warmed.alike
  obtain ⟨dk, _, _, kt, hd, _, _, _, _, hkt, _, hopen⟩ := hcl5.here
  obtain ⟨dk2, _, _, kt2, hd2, _, _, _, _, hkt2, _, hopen2⟩ := hcl6.here
  obtain ⟨ke, hke, -⟩ := Vm.findClass_spec hcl
  have htl : c.exceptionTable.toList = (⟨a0, b0, p0, t0⟩ : ExceptionTableEntry) :: (⟨a1, b1, p1, t1⟩ : ExceptionTableEntry) :: tableOf tl := by
    rw [← table_eq c.exceptionTable.toList, htab, hh]; rfl
  have hW1 : s.WarmedH (T.vm.noted m.cls t0 (.cls c6)) := XS.warmed.noted hd2 hopen2 (State.rightAt_cls hcl6)
  have hW2 : s.WarmedH ((T.vm.noted m.cls t0 (.cls c6)).noted m.cls t1 (.cls c4)) := hW1.noted hd hopen (State.rightAt_cls hcl5)
  have hfind : xFT e ((T.setTop (F0 m pc ls st)).pushFrame (.throwing q)) (F0 m pc ls st) q (.found p1) ((T.vm.noted m.cls t0 (.cls c6)).noted m.cls t1 (.cls c4)) := by
    intro Q E9 d acts
    obtain ⟨ke', hke', -⟩ := hal.2.2 _ _ hke
    obtain ⟨kt2', hkt2', -⟩ := hal.2.2 _ _ hkt2
    obtain ⟨ke3, hke3, -⟩ := hW1.alike.2.2 _ _ hke
    obtain ⟨kt3, hkt3, -⟩ := hW1.alike.2.2 _ _ hkt
    rw [W.findHandler_eq (f := F0 m pc ls st) (s := (T.setTop (F0 m pc ls st)).pushFrame (.throwing q)) (meth := meth) (code := c) XS.method' XS.code, htl]
    rw [xrow_no (f := F0 m pc ls st) (s := (T.setTop (F0 m pc ls st)).pushFrame (.throwing q)) (x := ⟨a0, b0, p0, t0⟩) (cell := ce) (c := c6) (by simp only [covers]; simp [hc.1, hc.2]) h0 (XS.warmed.classLinks hcl6) (by show T.heap[q]? = some ce; rw [hT]; exact hce) (fun k9 h9 => by rw [hcv] at h9; cases h9) ⟨ke', hke'⟩ ⟨kt2', hkt2'⟩ (by show T.vm.assignable _ _ = false; rw [hal.assignable]; exact f3)]
    exact xrow_yes (f := F0 m pc ls st) (s := ((T.setTop (F0 m pc ls st)).pushFrame (.throwing q)).setVm (T.vm.noted m.cls t0 (.cls c6))) (x := ⟨a1, b1, p1, t1⟩) (cell := ce) (by simp only [covers]; simp [hc2.1, hc2.2]) h1 (hW1.classLinks hcl5) (by show T.heap[q]? = some ce; rw [hT]; exact hce) (fun k9 h9 => by rw [hcv] at h9; cases h9) ⟨ke3, hke3⟩ ⟨kt3, hkt3⟩ (by show (T.vm.noted m.cls t0 (.cls c6)).assignable _ _ = true; rw [hW1.alike.assignable]; exact hasg)
  have X' := XS.noted hW2
  obtain ⟨t, a9, b9⟩ := kk (T.setVm ((T.vm.noted m.cls t0 (.cls c6)).noted m.cls t1 (.cls c4))) hT X'
  exact ⟨t, xcaught (g := F0 m pc ls st) XS.here hfind a9, b9⟩
end XCATCH
end
section
/-! Private methods: called on an object of any class; specialised forms of calls by the number of arguments. -/
def xPi (own : String) (idx : Nat) (M' : xMt) : Prop :=
  (Cond.methodLink own idx M'.1 ∈ xTAB ∨ ∃ host, Cond.methodLinkNest own idx M'.1 host ∈ xTAB) ∧ Cond.instanceMethod M'.1 ∈ xTAB ∧ Cond.privateMethod M'.1 ∈ xTAB ∧ (M'.1.cls ≠ "java/lang/invoke/MethodHandle" ∧ M'.1.cls ≠ "java/lang/invoke/VarHandle") ∧
    (Cond.sameMethod M'.1.cls M'.1.cls M'.1.name M'.1.desc ∈ xTAB ∨ ∃ j, Cond.instantiable M'.1.cls j ∈ xTAB)
section XPRIV
variable {C : xCt} {M : xMt} {pc : Nat} {h : xH} {k n : Nat} {rest : List Value}
theorem go_p {idx ci b : Nat} {fs As : List Value} {M' : xMt} {j : Nat} (hd : decode M.2.1 pc = .ok (.invokevirtual idx, 3)) (hi : xPi M.1.cls idx M') (hc : xCode M') (ha : xAr M' j) (hb : h.2 b = some (.inr (ci, fs))) (hj : As.length = j) : xGo C M pc M' (.ref b :: As) rest (As.reverse ++ .ref b :: rest) h k n := by
  intro p e s m args below meth c X H locs ls hR T hT XS
  have hKs := xC_K X
  obtain ⟨hx, hb9, hml, hown, -, -, -, -, hstt, hK, hts, -⟩ := X
  obtain ⟨hlink, hinst, hpriv, hy, hni⟩ := hi
  obtain ⟨mk, methM, hnamed, hmethM, hstM, habM⟩ := Cond.instanceMethod_spec (hts _ hinst)
  obtain ⟨m8, methM', cM, hn8, hmethM', -, -, -, -, -, -, hsigM⟩ := Cond.codeWith_spec (xCode_at (a := args) hc hKs)
  cases Option.some.inj (hn8.symm.trans hnamed)
  cases hmethM.symm.trans hmethM'
  have hcm : s.vm.findClass M'.1.cls = some mk.cls := findClass_of_methodNamed hnamed
  obtain ⟨kP, hkP, hkPi⟩ : ∃ kP, s.vm.classes[mk.cls]? = some kP ∧ kP.isInterface = false := by
    rcases hni with h1 | ⟨j9, h1⟩
    · obtain ⟨cn, ck, r1, hcn, hck, hni, -, -⟩ := Cond.sameMethod_found (hts _ h1)
      cases Option.some.inj (hcn.symm.trans hcm)
      exact ⟨ck, hck, hni⟩
    · obtain ⟨c9, k9, hc9, hk9, -, hniab, -, -⟩ := Cond.instantiable_spec (hts _ h1)
      cases Option.some.inj (hc9.symm.trans hcm)
      exact ⟨k9, hk9, (Bool.or_eq_false_iff.mp hniab).1⟩
  obtain ⟨r, h1, cellB, g1, g2, g3, -⟩ := hR.2 b _ hb
  have hselP : selectMethod e.platform s.vm cellB.cls mk = .method mk := selectMethod_private hmethM (Cond.privateMethod_at (hts _ hpriv) mk methM hnamed hmethM)
  have hcell : T.heap[b]? = some cellB := by rw [hT]; exact g1
  have hlen := hj.trans (xAr_len ha _ hsigM)
  rcases hlink with hlink | ⟨host, hlink⟩
  · obtain ⟨vm₁, X₁, hstep₁⟩ := XS.invokevirtual hx hown (hts _ hlink) hnamed hmethM hstM hkP hkPi hy (a := b) (cell := cellB) hcell
      (fun z hz => by rw [g3] at hz; cases hz) hselP hmethM habM hkP hkPi (g := F0 m pc ls (As.reverse ++ .ref b :: rest)) rfl (argsL := As) (rest := rest) hlen rfl (by rw [hb9]; exact hd)
    exact ⟨mk, vm₁, hnamed, X₁.warmed, X₁, hstep₁⟩
  · obtain ⟨vm₁, X₁, hstep₁⟩ := XS.invokevirtualNest hx hown (hts _ hlink) hnamed hmethM hstM hkP hkPi hy (a := b) (cell := cellB) hcell
      (fun z hz => by rw [g3] at hz; cases hz) hselP hmethM habM hkP hkPi (g := F0 m pc ls (As.reverse ++ .ref b :: rest)) rfl (argsL := As) (rest := rest) hlen rfl (by rw [hb9]; exact hd)
    exact ⟨mk, vm₁, hnamed, X₁.warmed, X₁, hstep₁⟩
end XPRIV
section XSPEC
variable {C : xCt} {M : xMt} {pc : Nat} {L : List (Option Value)} {h : xH} {k n : Nat} {rest : List Value} {M' : xMt} {d' mc' ms' : Nat} {Q' : xO → xH → Prop}
theorem ex_v0 {idx ci b : Nat} {fs : List Value} (hd : decode M.2.1 pc = .ok (.invokevirtual idx, 3)) (hi : xVi M.1.cls idx M' ci) (hc : xCode M') (ha : xAr M' 0) (hb : h.2 b = some (.inr (ci, fs))) (hM : xMet C.1 C.2.1 M' d' mc' ms' [.ref b] h Q') (hdd : d' + 1 ≤ C.2.2.1) (hw : (rest.map fun v => v.category).sum ≤ 16) (hk : k + mc' ≤ C.2.2.2.1) (hn : n + ms' ≤ C.2.2.2.2.1) (hx : ∀ (E : String) (h' : xH), ¬ Q' (.inr E) h') (kk : ∀ (v : Option Value) (h' : xH), Q' (.inl v) h' → Ex C M (pc + 3) L (v.toList ++ rest) h' (k + mc') (n + ms')) : Ex C M pc L (.ref b :: rest) h k n :=
  ex_callR hd (go_v (As := []) hd hi hc ha hb rfl) hc hM hdd hw hk hn hx kk
theorem ex_u0 {idx ci b : Nat} {fs : List Value} (hd : decode M.2.1 pc = .ok (.invokevirtual idx, 3)) (hi : xUi M.1.cls idx M' ci) (hc : xCode M') (ha : xAr M' 0) (hb : h.2 b = some (.inr (ci, fs))) (hM : xMet C.1 C.2.1 M' d' mc' ms' [.ref b] h Q') (hdd : d' + 1 ≤ C.2.2.1) (hw : (rest.map fun v => v.category).sum ≤ 16) (hk : k + mc' ≤ C.2.2.2.1) (hn : n + ms' ≤ C.2.2.2.2.1) (hx : ∀ (E : String) (h' : xH), ¬ Q' (.inr E) h') (kk : ∀ (v : Option Value) (h' : xH), Q' (.inl v) h' → Ex C M (pc + 3) L (v.toList ++ rest) h' (k + mc') (n + ms')) : Ex C M pc L (.ref b :: rest) h k n :=
  ex_callR hd (go_u (As := []) hd hi hc ha hb rfl) hc hM hdd hw hk hn hx kk
theorem ex_p0 {idx ci b : Nat} {fs : List Value} (hd : decode M.2.1 pc = .ok (.invokevirtual idx, 3)) (hi : xPi M.1.cls idx M') (hc : xCode M') (ha : xAr M' 0) (hb : h.2 b = some (.inr (ci, fs))) (hM : xMet C.1 C.2.1 M' d' mc' ms' [.ref b] h Q') (hdd : d' + 1 ≤ C.2.2.1) (hw : (rest.map fun v => v.category).sum ≤ 16) (hk : k + mc' ≤ C.2.2.2.1) (hn : n + ms' ≤ C.2.2.2.2.1) (hx : ∀ (E : String) (h' : xH), ¬ Q' (.inr E) h') (kk : ∀ (v : Option Value) (h' : xH), Q' (.inl v) h' → Ex C M (pc + 3) L (v.toList ++ rest) h' (k + mc') (n + ms')) : Ex C M pc L (.ref b :: rest) h k n :=
  ex_callR hd (go_p (As := []) hd hi hc ha hb rfl) hc hM hdd hw hk hn hx kk
theorem ex_i0 {idx b : Nat} (hd : decode M.2.1 pc = .ok (.invokespecial idx, 3)) (hi : xIi M.1.cls idx M') (hc : xCode M') (ha : xAr M' 0) (hM : xMet C.1 C.2.1 M' d' mc' ms' [.ref b] h Q') (hdd : d' + 1 ≤ C.2.2.1) (hw : (rest.map fun v => v.category).sum ≤ 16) (hk : k + mc' ≤ C.2.2.2.1) (hn : n + ms' ≤ C.2.2.2.2.1) (hx : ∀ (E : String) (h' : xH), ¬ Q' (.inr E) h') (kk : ∀ (v : Option Value) (h' : xH), Q' (.inl v) h' → Ex C M (pc + 3) L (v.toList ++ rest) h' (k + mc') (n + ms')) : Ex C M pc L (.ref b :: rest) h k n :=
  ex_callR hd (go_i (As := []) hd hi ha rfl) hc hM hdd hw hk hn hx kk
theorem ex_s0 {idx : Nat} (hd : decode M.2.1 pc = .ok (.invokestatic idx, 3)) (hi : xSi M.1.cls idx M') (hc : xCode M') (ha : xAr M' 0) (hM : xMet C.1 C.2.1 M' d' mc' ms' [] h Q') (hdd : d' + 1 ≤ C.2.2.1) (hw : (rest.map fun v => v.category).sum ≤ 16) (hk : k + mc' ≤ C.2.2.2.1) (hn : n + ms' ≤ C.2.2.2.2.1) (hx : ∀ (E : String) (h' : xH), ¬ Q' (.inr E) h') (kk : ∀ (v : Option Value) (h' : xH), Q' (.inl v) h' → Ex C M (pc + 3) L (v.toList ++ rest) h' (k + mc') (n + ms')) : Ex C M pc L (rest) h k n :=
  ex_callR hd (go_s (As := []) hd hi hc ha rfl) hc hM hdd hw hk hn hx kk
theorem ex_v1 {idx ci b : Nat} {fs : List Value} {v1 : Value} (hd : decode M.2.1 pc = .ok (.invokevirtual idx, 3)) (hi : xVi M.1.cls idx M' ci) (hc : xCode M') (ha : xAr M' 1) (hb : h.2 b = some (.inr (ci, fs))) (hM : xMet C.1 C.2.1 M' d' mc' ms' [.ref b, v1] h Q') (hdd : d' + 1 ≤ C.2.2.1) (hw : (rest.map fun v => v.category).sum ≤ 16) (hk : k + mc' ≤ C.2.2.2.1) (hn : n + ms' ≤ C.2.2.2.2.1) (hx : ∀ (E : String) (h' : xH), ¬ Q' (.inr E) h') (kk : ∀ (v : Option Value) (h' : xH), Q' (.inl v) h' → Ex C M (pc + 3) L (v.toList ++ rest) h' (k + mc') (n + ms')) : Ex C M pc L (v1 :: .ref b :: rest) h k n :=
  ex_callR hd (go_v (As := [v1]) hd hi hc ha hb rfl) hc hM hdd hw hk hn hx kk
theorem ex_u1 {idx ci b : Nat} {fs : List Value} {v1 : Value} (hd : decode M.2.1 pc = .ok (.invokevirtual idx, 3)) (hi : xUi M.1.cls idx M' ci) (hc : xCode M') (ha : xAr M' 1) (hb : h.2 b = some (.inr (ci, fs))) (hM : xMet C.1 C.2.1 M' d' mc' ms' [.ref b, v1] h Q') (hdd : d' + 1 ≤ C.2.2.1) (hw : (rest.map fun v => v.category).sum ≤ 16) (hk : k + mc' ≤ C.2.2.2.1) (hn : n + ms' ≤ C.2.2.2.2.1) (hx : ∀ (E : String) (h' : xH), ¬ Q' (.inr E) h') (kk : ∀ (v : Option Value) (h' : xH), Q' (.inl v) h' → Ex C M (pc + 3) L (v.toList ++ rest) h' (k + mc') (n + ms')) : Ex C M pc L (v1 :: .ref b :: rest) h k n :=
  ex_callR hd (go_u (As := [v1]) hd hi hc ha hb rfl) hc hM hdd hw hk hn hx kk
theorem ex_p1 {idx ci b : Nat} {fs : List Value} {v1 : Value} (hd : decode M.2.1 pc = .ok (.invokevirtual idx, 3)) (hi : xPi M.1.cls idx M') (hc : xCode M') (ha : xAr M' 1) (hb : h.2 b = some (.inr (ci, fs))) (hM : xMet C.1 C.2.1 M' d' mc' ms' [.ref b, v1] h Q') (hdd : d' + 1 ≤ C.2.2.1) (hw : (rest.map fun v => v.category).sum ≤ 16) (hk : k + mc' ≤ C.2.2.2.1) (hn : n + ms' ≤ C.2.2.2.2.1) (hx : ∀ (E : String) (h' : xH), ¬ Q' (.inr E) h') (kk : ∀ (v : Option Value) (h' : xH), Q' (.inl v) h' → Ex C M (pc + 3) L (v.toList ++ rest) h' (k + mc') (n + ms')) : Ex C M pc L (v1 :: .ref b :: rest) h k n :=
  ex_callR hd (go_p (As := [v1]) hd hi hc ha hb rfl) hc hM hdd hw hk hn hx kk
theorem ex_i1 {idx b : Nat} {v1 : Value} (hd : decode M.2.1 pc = .ok (.invokespecial idx, 3)) (hi : xIi M.1.cls idx M') (hc : xCode M') (ha : xAr M' 1) (hM : xMet C.1 C.2.1 M' d' mc' ms' [.ref b, v1] h Q') (hdd : d' + 1 ≤ C.2.2.1) (hw : (rest.map fun v => v.category).sum ≤ 16) (hk : k + mc' ≤ C.2.2.2.1) (hn : n + ms' ≤ C.2.2.2.2.1) (hx : ∀ (E : String) (h' : xH), ¬ Q' (.inr E) h') (kk : ∀ (v : Option Value) (h' : xH), Q' (.inl v) h' → Ex C M (pc + 3) L (v.toList ++ rest) h' (k + mc') (n + ms')) : Ex C M pc L (v1 :: .ref b :: rest) h k n :=
  ex_callR hd (go_i (As := [v1]) hd hi ha rfl) hc hM hdd hw hk hn hx kk
theorem ex_s1 {idx : Nat} {v1 : Value} (hd : decode M.2.1 pc = .ok (.invokestatic idx, 3)) (hi : xSi M.1.cls idx M') (hc : xCode M') (ha : xAr M' 1) (hM : xMet C.1 C.2.1 M' d' mc' ms' [v1] h Q') (hdd : d' + 1 ≤ C.2.2.1) (hw : (rest.map fun v => v.category).sum ≤ 16) (hk : k + mc' ≤ C.2.2.2.1) (hn : n + ms' ≤ C.2.2.2.2.1) (hx : ∀ (E : String) (h' : xH), ¬ Q' (.inr E) h') (kk : ∀ (v : Option Value) (h' : xH), Q' (.inl v) h' → Ex C M (pc + 3) L (v.toList ++ rest) h' (k + mc') (n + ms')) : Ex C M pc L (v1 :: rest) h k n :=
  ex_callR hd (go_s (As := [v1]) hd hi hc ha rfl) hc hM hdd hw hk hn hx kk
theorem ex_v2 {idx ci b : Nat} {fs : List Value} {v1 v2 : Value} (hd : decode M.2.1 pc = .ok (.invokevirtual idx, 3)) (hi : xVi M.1.cls idx M' ci) (hc : xCode M') (ha : xAr M' 2) (hb : h.2 b = some (.inr (ci, fs))) (hM : xMet C.1 C.2.1 M' d' mc' ms' [.ref b, v1, v2] h Q') (hdd : d' + 1 ≤ C.2.2.1) (hw : (rest.map fun v => v.category).sum ≤ 16) (hk : k + mc' ≤ C.2.2.2.1) (hn : n + ms' ≤ C.2.2.2.2.1) (hx : ∀ (E : String) (h' : xH), ¬ Q' (.inr E) h') (kk : ∀ (v : Option Value) (h' : xH), Q' (.inl v) h' → Ex C M (pc + 3) L (v.toList ++ rest) h' (k + mc') (n + ms')) : Ex C M pc L (v2 :: v1 :: .ref b :: rest) h k n :=
  ex_callR hd (go_v (As := [v1, v2]) hd hi hc ha hb rfl) hc hM hdd hw hk hn hx kk
theorem ex_u2 {idx ci b : Nat} {fs : List Value} {v1 v2 : Value} (hd : decode M.2.1 pc = .ok (.invokevirtual idx, 3)) (hi : xUi M.1.cls idx M' ci) (hc : xCode M') (ha : xAr M' 2) (hb : h.2 b = some (.inr (ci, fs))) (hM : xMet C.1 C.2.1 M' d' mc' ms' [.ref b, v1, v2] h Q') (hdd : d' + 1 ≤ C.2.2.1) (hw : (rest.map fun v => v.category).sum ≤ 16) (hk : k + mc' ≤ C.2.2.2.1) (hn : n + ms' ≤ C.2.2.2.2.1) (hx : ∀ (E : String) (h' : xH), ¬ Q' (.inr E) h') (kk : ∀ (v : Option Value) (h' : xH), Q' (.inl v) h' → Ex C M (pc + 3) L (v.toList ++ rest) h' (k + mc') (n + ms')) : Ex C M pc L (v2 :: v1 :: .ref b :: rest) h k n :=
  ex_callR hd (go_u (As := [v1, v2]) hd hi hc ha hb rfl) hc hM hdd hw hk hn hx kk
theorem ex_p2 {idx ci b : Nat} {fs : List Value} {v1 v2 : Value} (hd : decode M.2.1 pc = .ok (.invokevirtual idx, 3)) (hi : xPi M.1.cls idx M') (hc : xCode M') (ha : xAr M' 2) (hb : h.2 b = some (.inr (ci, fs))) (hM : xMet C.1 C.2.1 M' d' mc' ms' [.ref b, v1, v2] h Q') (hdd : d' + 1 ≤ C.2.2.1) (hw : (rest.map fun v => v.category).sum ≤ 16) (hk : k + mc' ≤ C.2.2.2.1) (hn : n + ms' ≤ C.2.2.2.2.1) (hx : ∀ (E : String) (h' : xH), ¬ Q' (.inr E) h') (kk : ∀ (v : Option Value) (h' : xH), Q' (.inl v) h' → Ex C M (pc + 3) L (v.toList ++ rest) h' (k + mc') (n + ms')) : Ex C M pc L (v2 :: v1 :: .ref b :: rest) h k n :=
  ex_callR hd (go_p (As := [v1, v2]) hd hi hc ha hb rfl) hc hM hdd hw hk hn hx kk
theorem ex_i2 {idx b : Nat} {v1 v2 : Value} (hd : decode M.2.1 pc = .ok (.invokespecial idx, 3)) (hi : xIi M.1.cls idx M') (hc : xCode M') (ha : xAr M' 2) (hM : xMet C.1 C.2.1 M' d' mc' ms' [.ref b, v1, v2] h Q') (hdd : d' + 1 ≤ C.2.2.1) (hw : (rest.map fun v => v.category).sum ≤ 16) (hk : k + mc' ≤ C.2.2.2.1) (hn : n + ms' ≤ C.2.2.2.2.1) (hx : ∀ (E : String) (h' : xH), ¬ Q' (.inr E) h') (kk : ∀ (v : Option Value) (h' : xH), Q' (.inl v) h' → Ex C M (pc + 3) L (v.toList ++ rest) h' (k + mc') (n + ms')) : Ex C M pc L (v2 :: v1 :: .ref b :: rest) h k n :=
  ex_callR hd (go_i (As := [v1, v2]) hd hi ha rfl) hc hM hdd hw hk hn hx kk
theorem ex_s2 {idx : Nat} {v1 v2 : Value} (hd : decode M.2.1 pc = .ok (.invokestatic idx, 3)) (hi : xSi M.1.cls idx M') (hc : xCode M') (ha : xAr M' 2) (hM : xMet C.1 C.2.1 M' d' mc' ms' [v1, v2] h Q') (hdd : d' + 1 ≤ C.2.2.1) (hw : (rest.map fun v => v.category).sum ≤ 16) (hk : k + mc' ≤ C.2.2.2.1) (hn : n + ms' ≤ C.2.2.2.2.1) (hx : ∀ (E : String) (h' : xH), ¬ Q' (.inr E) h') (kk : ∀ (v : Option Value) (h' : xH), Q' (.inl v) h' → Ex C M (pc + 3) L (v.toList ++ rest) h' (k + mc') (n + ms')) : Ex C M pc L (v2 :: v1 :: rest) h k n :=
  ex_callR hd (go_s (As := [v1, v2]) hd hi hc ha rfl) hc hM hdd hw hk hn hx kk
theorem ex_v3 {idx ci b : Nat} {fs : List Value} {v1 v2 v3 : Value} (hd : decode M.2.1 pc = .ok (.invokevirtual idx, 3)) (hi : xVi M.1.cls idx M' ci) (hc : xCode M') (ha : xAr M' 3) (hb : h.2 b = some (.inr (ci, fs))) (hM : xMet C.1 C.2.1 M' d' mc' ms' [.ref b, v1, v2, v3] h Q') (hdd : d' + 1 ≤ C.2.2.1) (hw : (rest.map fun v => v.category).sum ≤ 16) (hk : k + mc' ≤ C.2.2.2.1) (hn : n + ms' ≤ C.2.2.2.2.1) (hx : ∀ (E : String) (h' : xH), ¬ Q' (.inr E) h') (kk : ∀ (v : Option Value) (h' : xH), Q' (.inl v) h' → Ex C M (pc + 3) L (v.toList ++ rest) h' (k + mc') (n + ms')) : Ex C M pc L (v3 :: v2 :: v1 :: .ref b :: rest) h k n :=
  ex_callR hd (go_v (As := [v1, v2, v3]) hd hi hc ha hb rfl) hc hM hdd hw hk hn hx kk
theorem ex_u3 {idx ci b : Nat} {fs : List Value} {v1 v2 v3 : Value} (hd : decode M.2.1 pc = .ok (.invokevirtual idx, 3)) (hi : xUi M.1.cls idx M' ci) (hc : xCode M') (ha : xAr M' 3) (hb : h.2 b = some (.inr (ci, fs))) (hM : xMet C.1 C.2.1 M' d' mc' ms' [.ref b, v1, v2, v3] h Q') (hdd : d' + 1 ≤ C.2.2.1) (hw : (rest.map fun v => v.category).sum ≤ 16) (hk : k + mc' ≤ C.2.2.2.1) (hn : n + ms' ≤ C.2.2.2.2.1) (hx : ∀ (E : String) (h' : xH), ¬ Q' (.inr E) h') (kk : ∀ (v : Option Value) (h' : xH), Q' (.inl v) h' → Ex C M (pc + 3) L (v.toList ++ rest) h' (k + mc') (n + ms')) : Ex C M pc L (v3 :: v2 :: v1 :: .ref b :: rest) h k n :=
  ex_callR hd (go_u (As := [v1, v2, v3]) hd hi hc ha hb rfl) hc hM hdd hw hk hn hx kk
theorem ex_p3 {idx ci b : Nat} {fs : List Value} {v1 v2 v3 : Value} (hd : decode M.2.1 pc = .ok (.invokevirtual idx, 3)) (hi : xPi M.1.cls idx M') (hc : xCode M') (ha : xAr M' 3) (hb : h.2 b = some (.inr (ci, fs))) (hM : xMet C.1 C.2.1 M' d' mc' ms' [.ref b, v1, v2, v3] h Q') (hdd : d' + 1 ≤ C.2.2.1) (hw : (rest.map fun v => v.category).sum ≤ 16) (hk : k + mc' ≤ C.2.2.2.1) (hn : n + ms' ≤ C.2.2.2.2.1) (hx : ∀ (E : String) (h' : xH), ¬ Q' (.inr E) h') (kk : ∀ (v : Option Value) (h' : xH), Q' (.inl v) h' → Ex C M (pc + 3) L (v.toList ++ rest) h' (k + mc') (n + ms')) : Ex C M pc L (v3 :: v2 :: v1 :: .ref b :: rest) h k n :=
  ex_callR hd (go_p (As := [v1, v2, v3]) hd hi hc ha hb rfl) hc hM hdd hw hk hn hx kk
theorem ex_i3 {idx b : Nat} {v1 v2 v3 : Value} (hd : decode M.2.1 pc = .ok (.invokespecial idx, 3)) (hi : xIi M.1.cls idx M') (hc : xCode M') (ha : xAr M' 3) (hM : xMet C.1 C.2.1 M' d' mc' ms' [.ref b, v1, v2, v3] h Q') (hdd : d' + 1 ≤ C.2.2.1) (hw : (rest.map fun v => v.category).sum ≤ 16) (hk : k + mc' ≤ C.2.2.2.1) (hn : n + ms' ≤ C.2.2.2.2.1) (hx : ∀ (E : String) (h' : xH), ¬ Q' (.inr E) h') (kk : ∀ (v : Option Value) (h' : xH), Q' (.inl v) h' → Ex C M (pc + 3) L (v.toList ++ rest) h' (k + mc') (n + ms')) : Ex C M pc L (v3 :: v2 :: v1 :: .ref b :: rest) h k n :=
  ex_callR hd (go_i (As := [v1, v2, v3]) hd hi ha rfl) hc hM hdd hw hk hn hx kk
theorem ex_s3 {idx : Nat} {v1 v2 v3 : Value} (hd : decode M.2.1 pc = .ok (.invokestatic idx, 3)) (hi : xSi M.1.cls idx M') (hc : xCode M') (ha : xAr M' 3) (hM : xMet C.1 C.2.1 M' d' mc' ms' [v1, v2, v3] h Q') (hdd : d' + 1 ≤ C.2.2.1) (hw : (rest.map fun v => v.category).sum ≤ 16) (hk : k + mc' ≤ C.2.2.2.1) (hn : n + ms' ≤ C.2.2.2.2.1) (hx : ∀ (E : String) (h' : xH), ¬ Q' (.inr E) h') (kk : ∀ (v : Option Value) (h' : xH), Q' (.inl v) h' → Ex C M (pc + 3) L (v.toList ++ rest) h' (k + mc') (n + ms')) : Ex C M pc L (v3 :: v2 :: v1 :: rest) h k n :=
  ex_callR hd (go_s (As := [v1, v2, v3]) hd hi hc ha rfl) hc hM hdd hw hk hn hx kk
theorem ex_v4 {idx ci b : Nat} {fs : List Value} {v1 v2 v3 v4 : Value} (hd : decode M.2.1 pc = .ok (.invokevirtual idx, 3)) (hi : xVi M.1.cls idx M' ci) (hc : xCode M') (ha : xAr M' 4) (hb : h.2 b = some (.inr (ci, fs))) (hM : xMet C.1 C.2.1 M' d' mc' ms' [.ref b, v1, v2, v3, v4] h Q') (hdd : d' + 1 ≤ C.2.2.1) (hw : (rest.map fun v => v.category).sum ≤ 16) (hk : k + mc' ≤ C.2.2.2.1) (hn : n + ms' ≤ C.2.2.2.2.1) (hx : ∀ (E : String) (h' : xH), ¬ Q' (.inr E) h') (kk : ∀ (v : Option Value) (h' : xH), Q' (.inl v) h' → Ex C M (pc + 3) L (v.toList ++ rest) h' (k + mc') (n + ms')) : Ex C M pc L (v4 :: v3 :: v2 :: v1 :: .ref b :: rest) h k n :=
  ex_callR hd (go_v (As := [v1, v2, v3, v4]) hd hi hc ha hb rfl) hc hM hdd hw hk hn hx kk
theorem ex_u4 {idx ci b : Nat} {fs : List Value} {v1 v2 v3 v4 : Value} (hd : decode M.2.1 pc = .ok (.invokevirtual idx, 3)) (hi : xUi M.1.cls idx M' ci) (hc : xCode M') (ha : xAr M' 4) (hb : h.2 b = some (.inr (ci, fs))) (hM : xMet C.1 C.2.1 M' d' mc' ms' [.ref b, v1, v2, v3, v4] h Q') (hdd : d' + 1 ≤ C.2.2.1) (hw : (rest.map fun v => v.category).sum ≤ 16) (hk : k + mc' ≤ C.2.2.2.1) (hn : n + ms' ≤ C.2.2.2.2.1) (hx : ∀ (E : String) (h' : xH), ¬ Q' (.inr E) h') (kk : ∀ (v : Option Value) (h' : xH), Q' (.inl v) h' → Ex C M (pc + 3) L (v.toList ++ rest) h' (k + mc') (n + ms')) : Ex C M pc L (v4 :: v3 :: v2 :: v1 :: .ref b :: rest) h k n :=
  ex_callR hd (go_u (As := [v1, v2, v3, v4]) hd hi hc ha hb rfl) hc hM hdd hw hk hn hx kk
theorem ex_p4 {idx ci b : Nat} {fs : List Value} {v1 v2 v3 v4 : Value} (hd : decode M.2.1 pc = .ok (.invokevirtual idx, 3)) (hi : xPi M.1.cls idx M') (hc : xCode M') (ha : xAr M' 4) (hb : h.2 b = some (.inr (ci, fs))) (hM : xMet C.1 C.2.1 M' d' mc' ms' [.ref b, v1, v2, v3, v4] h Q') (hdd : d' + 1 ≤ C.2.2.1) (hw : (rest.map fun v => v.category).sum ≤ 16) (hk : k + mc' ≤ C.2.2.2.1) (hn : n + ms' ≤ C.2.2.2.2.1) (hx : ∀ (E : String) (h' : xH), ¬ Q' (.inr E) h') (kk : ∀ (v : Option Value) (h' : xH), Q' (.inl v) h' → Ex C M (pc + 3) L (v.toList ++ rest) h' (k + mc') (n + ms')) : Ex C M pc L (v4 :: v3 :: v2 :: v1 :: .ref b :: rest) h k n :=
  ex_callR hd (go_p (As := [v1, v2, v3, v4]) hd hi hc ha hb rfl) hc hM hdd hw hk hn hx kk
theorem ex_i4 {idx b : Nat} {v1 v2 v3 v4 : Value} (hd : decode M.2.1 pc = .ok (.invokespecial idx, 3)) (hi : xIi M.1.cls idx M') (hc : xCode M') (ha : xAr M' 4) (hM : xMet C.1 C.2.1 M' d' mc' ms' [.ref b, v1, v2, v3, v4] h Q') (hdd : d' + 1 ≤ C.2.2.1) (hw : (rest.map fun v => v.category).sum ≤ 16) (hk : k + mc' ≤ C.2.2.2.1) (hn : n + ms' ≤ C.2.2.2.2.1) (hx : ∀ (E : String) (h' : xH), ¬ Q' (.inr E) h') (kk : ∀ (v : Option Value) (h' : xH), Q' (.inl v) h' → Ex C M (pc + 3) L (v.toList ++ rest) h' (k + mc') (n + ms')) : Ex C M pc L (v4 :: v3 :: v2 :: v1 :: .ref b :: rest) h k n :=
  ex_callR hd (go_i (As := [v1, v2, v3, v4]) hd hi ha rfl) hc hM hdd hw hk hn hx kk
theorem ex_s4 {idx : Nat} {v1 v2 v3 v4 : Value} (hd : decode M.2.1 pc = .ok (.invokestatic idx, 3)) (hi : xSi M.1.cls idx M') (hc : xCode M') (ha : xAr M' 4) (hM : xMet C.1 C.2.1 M' d' mc' ms' [v1, v2, v3, v4] h Q') (hdd : d' + 1 ≤ C.2.2.1) (hw : (rest.map fun v => v.category).sum ≤ 16) (hk : k + mc' ≤ C.2.2.2.1) (hn : n + ms' ≤ C.2.2.2.2.1) (hx : ∀ (E : String) (h' : xH), ¬ Q' (.inr E) h') (kk : ∀ (v : Option Value) (h' : xH), Q' (.inl v) h' → Ex C M (pc + 3) L (v.toList ++ rest) h' (k + mc') (n + ms')) : Ex C M pc L (v4 :: v3 :: v2 :: v1 :: rest) h k n :=
  ex_callR hd (go_s (As := [v1, v2, v3, v4]) hd hi hc ha rfl) hc hM hdd hw hk hn hx kk
theorem ex_v5 {idx ci b : Nat} {fs : List Value} {v1 v2 v3 v4 v5 : Value} (hd : decode M.2.1 pc = .ok (.invokevirtual idx, 3)) (hi : xVi M.1.cls idx M' ci) (hc : xCode M') (ha : xAr M' 5) (hb : h.2 b = some (.inr (ci, fs))) (hM : xMet C.1 C.2.1 M' d' mc' ms' [.ref b, v1, v2, v3, v4, v5] h Q') (hdd : d' + 1 ≤ C.2.2.1) (hw : (rest.map fun v => v.category).sum ≤ 16) (hk : k + mc' ≤ C.2.2.2.1) (hn : n + ms' ≤ C.2.2.2.2.1) (hx : ∀ (E : String) (h' : xH), ¬ Q' (.inr E) h') (kk : ∀ (v : Option Value) (h' : xH), Q' (.inl v) h' → Ex C M (pc + 3) L (v.toList ++ rest) h' (k + mc') (n + ms')) : Ex C M pc L (v5 :: v4 :: v3 :: v2 :: v1 :: .ref b :: rest) h k n :=
  ex_callR hd (go_v (As := [v1, v2, v3, v4, v5]) hd hi hc ha hb rfl) hc hM hdd hw hk hn hx kk
theorem ex_u5 {idx ci b : Nat} {fs : List Value} {v1 v2 v3 v4 v5 : Value} (hd : decode M.2.1 pc = .ok (.invokevirtual idx, 3)) (hi : xUi M.1.cls idx M' ci) (hc : xCode M') (ha : xAr M' 5) (hb : h.2 b = some (.inr (ci, fs))) (hM : xMet C.1 C.2.1 M' d' mc' ms' [.ref b, v1, v2, v3, v4, v5] h Q') (hdd : d' + 1 ≤ C.2.2.1) (hw : (rest.map fun v => v.category).sum ≤ 16) (hk : k + mc' ≤ C.2.2.2.1) (hn : n + ms' ≤ C.2.2.2.2.1) (hx : ∀ (E : String) (h' : xH), ¬ Q' (.inr E) h') (kk : ∀ (v : Option Value) (h' : xH), Q' (.inl v) h' → Ex C M (pc + 3) L (v.toList ++ rest) h' (k + mc') (n + ms')) : Ex C M pc L (v5 :: v4 :: v3 :: v2 :: v1 :: .ref b :: rest) h k n :=
  ex_callR hd (go_u (As := [v1, v2, v3, v4, v5]) hd hi hc ha hb rfl) hc hM hdd hw hk hn hx kk
theorem ex_p5 {idx ci b : Nat} {fs : List Value} {v1 v2 v3 v4 v5 : Value} (hd : decode M.2.1 pc = .ok (.invokevirtual idx, 3)) (hi : xPi M.1.cls idx M') (hc : xCode M') (ha : xAr M' 5) (hb : h.2 b = some (.inr (ci, fs))) (hM : xMet C.1 C.2.1 M' d' mc' ms' [.ref b, v1, v2, v3, v4, v5] h Q') (hdd : d' + 1 ≤ C.2.2.1) (hw : (rest.map fun v => v.category).sum ≤ 16) (hk : k + mc' ≤ C.2.2.2.1) (hn : n + ms' ≤ C.2.2.2.2.1) (hx : ∀ (E : String) (h' : xH), ¬ Q' (.inr E) h') (kk : ∀ (v : Option Value) (h' : xH), Q' (.inl v) h' → Ex C M (pc + 3) L (v.toList ++ rest) h' (k + mc') (n + ms')) : Ex C M pc L (v5 :: v4 :: v3 :: v2 :: v1 :: .ref b :: rest) h k n :=
  ex_callR hd (go_p (As := [v1, v2, v3, v4, v5]) hd hi hc ha hb rfl) hc hM hdd hw hk hn hx kk
theorem ex_i5 {idx b : Nat} {v1 v2 v3 v4 v5 : Value} (hd : decode M.2.1 pc = .ok (.invokespecial idx, 3)) (hi : xIi M.1.cls idx M') (hc : xCode M') (ha : xAr M' 5) (hM : xMet C.1 C.2.1 M' d' mc' ms' [.ref b, v1, v2, v3, v4, v5] h Q') (hdd : d' + 1 ≤ C.2.2.1) (hw : (rest.map fun v => v.category).sum ≤ 16) (hk : k + mc' ≤ C.2.2.2.1) (hn : n + ms' ≤ C.2.2.2.2.1) (hx : ∀ (E : String) (h' : xH), ¬ Q' (.inr E) h') (kk : ∀ (v : Option Value) (h' : xH), Q' (.inl v) h' → Ex C M (pc + 3) L (v.toList ++ rest) h' (k + mc') (n + ms')) : Ex C M pc L (v5 :: v4 :: v3 :: v2 :: v1 :: .ref b :: rest) h k n :=
  ex_callR hd (go_i (As := [v1, v2, v3, v4, v5]) hd hi ha rfl) hc hM hdd hw hk hn hx kk
theorem ex_s5 {idx : Nat} {v1 v2 v3 v4 v5 : Value} (hd : decode M.2.1 pc = .ok (.invokestatic idx, 3)) (hi : xSi M.1.cls idx M') (hc : xCode M') (ha : xAr M' 5) (hM : xMet C.1 C.2.1 M' d' mc' ms' [v1, v2, v3, v4, v5] h Q') (hdd : d' + 1 ≤ C.2.2.1) (hw : (rest.map fun v => v.category).sum ≤ 16) (hk : k + mc' ≤ C.2.2.2.1) (hn : n + ms' ≤ C.2.2.2.2.1) (hx : ∀ (E : String) (h' : xH), ¬ Q' (.inr E) h') (kk : ∀ (v : Option Value) (h' : xH), Q' (.inl v) h' → Ex C M (pc + 3) L (v.toList ++ rest) h' (k + mc') (n + ms')) : Ex C M pc L (v5 :: v4 :: v3 :: v2 :: v1 :: rest) h k n :=
  ex_callR hd (go_s (As := [v1, v2, v3, v4, v5]) hd hi hc ha rfl) hc hM hdd hw hk hn hx kk
end XSPEC
end
section
theorem nw_PW_9 : xNw "PairedWords" 9 1 3 [.null, .null, .int 0] := ⟨RPairs, TPairs, rfl, lyPairs, xin (List.mem_of_getElem? (i := 28) (by decide +kernel)) rfl, xin (List.mem_of_getElem? (i := 29) (by decide +kernel)) rfl, xin (List.mem_of_getElem? (i := 2) (by decide +kernel)) rfl, fun j hj => (by decide +kernel : ∀ j, j < 3 → ∃ t, t ∈ (parseFieldDescriptor (TPairs j).2.2.1).toList ∧ defaultValue t = vp_V [.null, .null, .int 0] j) j hj |>.elim fun t h => ⟨t, Option.mem_toList.mp h.1, h.2⟩⟩
theorem ii_PW_11 : xIi "PairedWords" 11 mPairs_init := ⟨Or.inr ⟨"PairedWords", xin (List.mem_of_getElem? (i := 30) (by decide +kernel)) rfl⟩, xin (List.mem_of_getElem? (i := 31) (by decide +kernel)) rfl, rfl, ⟨by decide, by decide⟩, rfl, rfl, xin (List.mem_of_getElem? (i := 32) (by decide +kernel)) rfl⟩
theorem fp_PW_12 : xFw "PairedWords" "<init>" 12 9 0 (.object "PairedWords$Pairs") := ⟨RPW, TPW, 10, "PairedWords", "", rfl, by decide, lyPW, fdPW, nmPW, by decide +kernel, Or.inr ⟨rfl, rfl, rfl, xin (List.mem_of_getElem? (i := 245) (by decide +kernel)) rfl⟩, Or.inl rfl⟩
theorem nw_PW_16 : xNw "PairedWords" 16 4 9 [.null, .null, .null, .null, .null, .null, .null, .null, .int 0] := ⟨RRule, TRule, rfl, lyRule, xin (List.mem_of_getElem? (i := 45) (by decide +kernel)) rfl, xin (List.mem_of_getElem? (i := 46) (by decide +kernel)) rfl, xin (List.mem_of_getElem? (i := 3) (by decide +kernel)) rfl, fun j hj => (by decide +kernel : ∀ j, j < 9 → ∃ t, t ∈ (parseFieldDescriptor (TRule j).2.2.1).toList ∧ defaultValue t = vp_V [.null, .null, .null, .null, .null, .null, .null, .null, .int 0] j) j hj |>.elim fun t h => ⟨t, Option.mem_toList.mp h.1, h.2⟩⟩
theorem ii_PW_18 : xIi "PairedWords" 18 mRule_init := ⟨Or.inr ⟨"PairedWords", xin (List.mem_of_getElem? (i := 47) (by decide +kernel)) rfl⟩, xin (List.mem_of_getElem? (i := 48) (by decide +kernel)) rfl, rfl, ⟨by decide, by decide⟩, rfl, rfl, xin (List.mem_of_getElem? (i := 49) (by decide +kernel)) rfl⟩
theorem fp_PW_19 : xFw "PairedWords" "<init>" 19 9 1 (.object "PairedWords$Rules") := ⟨RPW, TPW, 10, "PairedWords", "", rfl, by decide, lyPW, fdPW, nmPW, by decide +kernel, Or.inr ⟨rfl, rfl, rfl, xin (List.mem_of_getElem? (i := 246) (by decide +kernel)) rfl⟩, Or.inl rfl⟩
theorem nw_PW_23 : xNw "PairedWords" 23 8 6 [.null, .null, .null, .null, .null, .int 0] := ⟨RLexi, TLexi, rfl, lyLexi, xin (List.mem_of_getElem? (i := 108) (by decide +kernel)) rfl, xin (List.mem_of_getElem? (i := 109) (by decide +kernel)) rfl, xin (List.mem_of_getElem? (i := 5) (by decide +kernel)) rfl, fun j hj => (by decide +kernel : ∀ j, j < 6 → ∃ t, t ∈ (parseFieldDescriptor (TLexi j).2.2.1).toList ∧ defaultValue t = vp_V [.null, .null, .null, .null, .null, .int 0] j) j hj |>.elim fun t h => ⟨t, Option.mem_toList.mp h.1, h.2⟩⟩
theorem ii_PW_25 : xIi "PairedWords" 25 mLexi_init := ⟨Or.inl (xin (List.mem_of_getElem? (i := 110) (by decide +kernel)) rfl), xin (List.mem_of_getElem? (i := 111) (by decide +kernel)) rfl, rfl, ⟨by decide, by decide⟩, rfl, rfl, xin (List.mem_of_getElem? (i := 112) (by decide +kernel)) rfl⟩
theorem fp_PW_26 : xFw "PairedWords" "<init>" 26 9 2 (.object "PairedWords$Lexicon") := ⟨RPW, TPW, 10, "PairedWords", "", rfl, by decide, lyPW, fdPW, nmPW, by decide +kernel, Or.inr ⟨rfl, rfl, rfl, xin (List.mem_of_getElem? (i := 247) (by decide +kernel)) rfl⟩, Or.inl rfl⟩
theorem nw_PW_30 : xNw "PairedWords" 30 0 2 [.null, .int 0] := ⟨RLine, TLine, rfl, lyLine, xin (List.mem_of_getElem? (i := 147) (by decide +kernel)) rfl, xin (List.mem_of_getElem? (i := 116) (by decide +kernel)) rfl, xin (List.mem_of_getElem? (i := 6) (by decide +kernel)) rfl, fun j hj => (by decide +kernel : ∀ j, j < 2 → ∃ t, t ∈ (parseFieldDescriptor (TLine j).2.2.1).toList ∧ defaultValue t = vp_V [.null, .int 0] j) j hj |>.elim fun t h => ⟨t, Option.mem_toList.mp h.1, h.2⟩⟩
theorem ii_PW_32 : xIi "PairedWords" 32 mLine_init := ⟨Or.inl (xin (List.mem_of_getElem? (i := 148) (by decide +kernel)) rfl), xin (List.mem_of_getElem? (i := 118) (by decide +kernel)) rfl, rfl, ⟨by decide, by decide⟩, rfl, rfl, xin (List.mem_of_getElem? (i := 119) (by decide +kernel)) rfl⟩
theorem fp_PW_35 : xFw "PairedWords" "<init>" 35 9 3 (.object "PairedWords$Line") := ⟨RPW, TPW, 10, "PairedWords", "", rfl, by decide, lyPW, fdPW, nmPW, by decide +kernel, Or.inr ⟨rfl, rfl, rfl, xin (List.mem_of_getElem? (i := 248) (by decide +kernel)) rfl⟩, Or.inl rfl⟩
theorem fp_PW_39 : xFw "PairedWords" "<init>" 39 9 4 (.object "PairedWords$Line") := ⟨RPW, TPW, 10, "PairedWords", "", rfl, by decide, lyPW, fdPW, nmPW, by decide +kernel, Or.inr ⟨rfl, rfl, rfl, xin (List.mem_of_getElem? (i := 249) (by decide +kernel)) rfl⟩, Or.inl rfl⟩
theorem nw_PW_42 : xNw "PairedWords" 42 5 3 [.null, .null, .int 0] := ⟨RSamp, TSamp, rfl, lySamp, xin (List.mem_of_getElem? (i := 149) (by decide +kernel)) rfl, xin (List.mem_of_getElem? (i := 150) (by decide +kernel)) rfl, xin (List.mem_of_getElem? (i := 7) (by decide +kernel)) rfl, fun j hj => (by decide +kernel : ∀ j, j < 3 → ∃ t, t ∈ (parseFieldDescriptor (TSamp j).2.2.1).toList ∧ defaultValue t = vp_V [.null, .null, .int 0] j) j hj |>.elim fun t h => ⟨t, Option.mem_toList.mp h.1, h.2⟩⟩
theorem ii_PW_44 : xIi "PairedWords" 44 mSamp_init := ⟨Or.inl (xin (List.mem_of_getElem? (i := 151) (by decide +kernel)) rfl), xin (List.mem_of_getElem? (i := 152) (by decide +kernel)) rfl, rfl, ⟨by decide, by decide⟩, rfl, rfl, xin (List.mem_of_getElem? (i := 153) (by decide +kernel)) rfl⟩
theorem fp_PW_45 : xFw "PairedWords" "<init>" 45 9 5 (.object "PairedWords$Samples") := ⟨RPW, TPW, 10, "PairedWords", "", rfl, by decide, lyPW, fdPW, nmPW, by decide +kernel, Or.inr ⟨rfl, rfl, rfl, xin (List.mem_of_getElem? (i := 250) (by decide +kernel)) rfl⟩, Or.inl rfl⟩
theorem nw_PW_49 : xNw "PairedWords" 49 3 3 [.null, .int 0, .int 0] := ⟨RResu, TResu, rfl, lyResu, xin (List.mem_of_getElem? (i := 167) (by decide +kernel)) rfl, xin (List.mem_of_getElem? (i := 168) (by decide +kernel)) rfl, xin (List.mem_of_getElem? (i := 8) (by decide +kernel)) rfl, fun j hj => (by decide +kernel : ∀ j, j < 3 → ∃ t, t ∈ (parseFieldDescriptor (TResu j).2.2.1).toList ∧ defaultValue t = vp_V [.null, .int 0, .int 0] j) j hj |>.elim fun t h => ⟨t, Option.mem_toList.mp h.1, h.2⟩⟩
theorem ii_PW_51 : xIi "PairedWords" 51 mResu_init := ⟨Or.inr ⟨"PairedWords", xin (List.mem_of_getElem? (i := 169) (by decide +kernel)) rfl⟩, xin (List.mem_of_getElem? (i := 170) (by decide +kernel)) rfl, rfl, ⟨by decide, by decide⟩, rfl, rfl, xin (List.mem_of_getElem? (i := 171) (by decide +kernel)) rfl⟩
theorem fp_PW_52 : xFw "PairedWords" "<init>" 52 9 6 (.object "PairedWords$Results") := ⟨RPW, TPW, 10, "PairedWords", "", rfl, by decide, lyPW, fdPW, nmPW, by decide +kernel, Or.inr ⟨rfl, rfl, rfl, xin (List.mem_of_getElem? (i := 251) (by decide +kernel)) rfl⟩, Or.inl rfl⟩
theorem fp_PW_56 : xFw "PairedWords" "<init>" 56 9 7 (.object "PairedWords$Results") := ⟨RPW, TPW, 10, "PairedWords", "", rfl, by decide, lyPW, fdPW, nmPW, by decide +kernel, Or.inr ⟨rfl, rfl, rfl, xin (List.mem_of_getElem? (i := 252) (by decide +kernel)) rfl⟩, Or.inl rfl⟩
theorem nw_PW_59 : xNw "PairedWords" 59 6 9 [.null, .null, .null, .null, .null, .null, .int 0, .int 0, .int 0] := ⟨RComp, TComp, rfl, lyComp, xin (List.mem_of_getElem? (i := 184) (by decide +kernel)) rfl, xin (List.mem_of_getElem? (i := 185) (by decide +kernel)) rfl, xin (List.mem_of_getElem? (i := 10) (by decide +kernel)) rfl, fun j hj => (by decide +kernel : ∀ j, j < 9 → ∃ t, t ∈ (parseFieldDescriptor (TComp j).2.2.1).toList ∧ defaultValue t = vp_V [.null, .null, .null, .null, .null, .null, .int 0, .int 0, .int 0] j) j hj |>.elim fun t h => ⟨t, Option.mem_toList.mp h.1, h.2⟩⟩
theorem fg_PW_12 : xF "PairedWords" 12 9 0 := ⟨RPW, TPW, 10, "PairedWords", "", rfl, by decide, lyPW, Or.inl (xin (List.mem_of_getElem? (i := 245) (by decide +kernel)) rfl), Or.inl rfl⟩
theorem fg_PW_19 : xF "PairedWords" 19 9 1 := ⟨RPW, TPW, 10, "PairedWords", "", rfl, by decide, lyPW, Or.inl (xin (List.mem_of_getElem? (i := 246) (by decide +kernel)) rfl), Or.inl rfl⟩
theorem ii_PW_61 : xIi "PairedWords" 61 mComp_init := ⟨Or.inl (xin (List.mem_of_getElem? (i := 186) (by decide +kernel)) rfl), xin (List.mem_of_getElem? (i := 187) (by decide +kernel)) rfl, rfl, ⟨by decide, by decide⟩, rfl, rfl, xin (List.mem_of_getElem? (i := 188) (by decide +kernel)) rfl⟩
theorem fp_PW_64 : xFw "PairedWords" "<init>" 64 9 8 (.object "PairedWords$Comparison") := ⟨RPW, TPW, 10, "PairedWords", "", rfl, by decide, lyPW, fdPW, nmPW, by decide +kernel, Or.inr ⟨rfl, rfl, rfl, xin (List.mem_of_getElem? (i := 253) (by decide +kernel)) rfl⟩, Or.inl rfl⟩
theorem nw_PW_68 : xNw "PairedWords" 68 7 7 [.null, .null, .null, .null, .null, .null, .null] := ⟨RWrit, TWrit, rfl, lyWrit, xin (List.mem_of_getElem? (i := 225) (by decide +kernel)) rfl, xin (List.mem_of_getElem? (i := 226) (by decide +kernel)) rfl, xin (List.mem_of_getElem? (i := 11) (by decide +kernel)) rfl, fun j hj => (by decide +kernel : ∀ j, j < 7 → ∃ t, t ∈ (parseFieldDescriptor (TWrit j).2.2.1).toList ∧ defaultValue t = vp_V [.null, .null, .null, .null, .null, .null, .null] j) j hj |>.elim fun t h => ⟨t, Option.mem_toList.mp h.1, h.2⟩⟩
theorem fg_PW_56 : xF "PairedWords" 56 9 7 := ⟨RPW, TPW, 10, "PairedWords", "", rfl, by decide, lyPW, Or.inl (xin (List.mem_of_getElem? (i := 252) (by decide +kernel)) rfl), Or.inl rfl⟩
theorem ii_PW_70 : xIi "PairedWords" 70 mWrit_init := ⟨Or.inl (xin (List.mem_of_getElem? (i := 227) (by decide +kernel)) rfl), xin (List.mem_of_getElem? (i := 228) (by decide +kernel)) rfl, rfl, ⟨by decide, by decide⟩, rfl, rfl, xin (List.mem_of_getElem? (i := 229) (by decide +kernel)) rfl⟩
theorem fp_PW_73 : xFw "PairedWords" "<init>" 73 9 9 (.object "PairedWords$Writing") := ⟨RPW, TPW, 10, "PairedWords", "", rfl, by decide, lyPW, fdPW, nmPW, by decide +kernel, Or.inr ⟨rfl, rfl, rfl, xin (List.mem_of_getElem? (i := 254) (by decide +kernel)) rfl⟩, Or.inl rfl⟩
theorem is_PW_77 : xSi "PairedWords" 77 mPW_isSignOrEmpty := ⟨Or.inl (xin (List.mem_of_getElem? (i := 467) (by decide +kernel)) rfl), xin (List.mem_of_getElem? (i := 468) (by decide +kernel)) rfl, ⟨by decide, by decide⟩⟩
theorem iv_PW_88 : xVi "PairedWords" 88 mPairs_has 1 := ⟨RPairs, TPairs, 3, rfl, Or.inl (xin (List.mem_of_getElem? (i := 541) (by decide +kernel)) rfl), xin (List.mem_of_getElem? (i := 542) (by decide +kernel)) rfl, xin (List.mem_of_getElem? (i := 543) (by decide +kernel)) rfl, ⟨by decide, by decide⟩⟩
theorem iv_PW_94 : xVi "PairedWords" 94 mPairs_hasRoomFor 1 := ⟨RPairs, TPairs, 3, rfl, Or.inl (xin (List.mem_of_getElem? (i := 546) (by decide +kernel)) rfl), xin (List.mem_of_getElem? (i := 547) (by decide +kernel)) rfl, xin (List.mem_of_getElem? (i := 548) (by decide +kernel)) rfl, ⟨by decide, by decide⟩⟩
theorem fg_PW_52 : xF "PairedWords" 52 9 6 := ⟨RPW, TPW, 10, "PairedWords", "", rfl, by decide, lyPW, Or.inl (xin (List.mem_of_getElem? (i := 251) (by decide +kernel)) rfl), Or.inl rfl⟩
theorem iv_PW_102 : xVi "PairedWords" 102 mResu_clear 3 := ⟨RResu, TResu, 3, rfl, Or.inl (xin (List.mem_of_getElem? (i := 566) (by decide +kernel)) rfl), xin (List.mem_of_getElem? (i := 567) (by decide +kernel)) rfl, xin (List.mem_of_getElem? (i := 568) (by decide +kernel)) rfl, ⟨by decide, by decide⟩⟩
theorem iv_PW_105 : xVi "PairedWords" 105 mPairs_add 1 := ⟨RPairs, TPairs, 3, rfl, Or.inl (xin (List.mem_of_getElem? (i := 570) (by decide +kernel)) rfl), xin (List.mem_of_getElem? (i := 571) (by decide +kernel)) rfl, xin (List.mem_of_getElem? (i := 572) (by decide +kernel)) rfl, ⟨by decide, by decide⟩⟩
theorem iv_PW_109 : xVi "PairedWords" 109 mRule_settle 4 := ⟨RRule, TRule, 9, rfl, Or.inl (xin (List.mem_of_getElem? (i := 574) (by decide +kernel)) rfl), xin (List.mem_of_getElem? (i := 575) (by decide +kernel)) rfl, xin (List.mem_of_getElem? (i := 576) (by decide +kernel)) rfl, ⟨by decide, by decide⟩⟩
theorem iv_PW_113 : xVi "PairedWords" 113 mPairs_count 1 := ⟨RPairs, TPairs, 3, rfl, Or.inl (xin (List.mem_of_getElem? (i := 593) (by decide +kernel)) rfl), xin (List.mem_of_getElem? (i := 391) (by decide +kernel)) rfl, xin (List.mem_of_getElem? (i := 392) (by decide +kernel)) rfl, ⟨by decide, by decide⟩⟩
theorem iv_PW_119 : xVi "PairedWords" 119 mRule_count 4 := ⟨RRule, TRule, 9, rfl, Or.inl (xin (List.mem_of_getElem? (i := 595) (by decide +kernel)) rfl), xin (List.mem_of_getElem? (i := 596) (by decide +kernel)) rfl, xin (List.mem_of_getElem? (i := 597) (by decide +kernel)) rfl, ⟨by decide, by decide⟩⟩
theorem iv_PW_122 : xVi "PairedWords" 122 mRule_add 4 := ⟨RRule, TRule, 9, rfl, Or.inl (xin (List.mem_of_getElem? (i := 600) (by decide +kernel)) rfl), xin (List.mem_of_getElem? (i := 601) (by decide +kernel)) rfl, xin (List.mem_of_getElem? (i := 602) (by decide +kernel)) rfl, ⟨by decide, by decide⟩⟩
theorem iv_PW_125 : xVi "PairedWords" 125 mRule_contextsOf 4 := ⟨RRule, TRule, 9, rfl, Or.inl (xin (List.mem_of_getElem? (i := 612) (by decide +kernel)) rfl), xin (List.mem_of_getElem? (i := 613) (by decide +kernel)) rfl, xin (List.mem_of_getElem? (i := 614) (by decide +kernel)) rfl, ⟨by decide, by decide⟩⟩
theorem iv_PW_131 : xVi "PairedWords" 131 mRule_addContext 4 := ⟨RRule, TRule, 9, rfl, Or.inl (xin (List.mem_of_getElem? (i := 617) (by decide +kernel)) rfl), xin (List.mem_of_getElem? (i := 618) (by decide +kernel)) rfl, xin (List.mem_of_getElem? (i := 619) (by decide +kernel)) rfl, ⟨by decide, by decide⟩⟩
theorem iv_PW_139 : xVi "PairedWords" 139 mRule_latestContextOf 4 := ⟨RRule, TRule, 9, rfl, Or.inl (xin (List.mem_of_getElem? (i := 642) (by decide +kernel)) rfl), xin (List.mem_of_getElem? (i := 622) (by decide +kernel)) rfl, xin (List.mem_of_getElem? (i := 623) (by decide +kernel)) rfl, ⟨by decide, by decide⟩⟩
theorem fg_PW_142 : xF "PairedWords" 142 4 1 := ⟨RRule, TRule, 9, "PairedWords$Rules", "PairedWords", rfl, by decide, lyRule, Or.inr (xin (List.mem_of_getElem? (i := 80) (by decide +kernel)) rfl), Or.inl rfl⟩
theorem fg_PW_146 : xF "PairedWords" 146 4 0 := ⟨RRule, TRule, 9, "PairedWords$Rules", "PairedWords", rfl, by decide, lyRule, Or.inr (xin (List.mem_of_getElem? (i := 77) (by decide +kernel)) rfl), Or.inl rfl⟩
theorem iv_PW_149 : xVi "PairedWords" 149 mPatt_elementsOf 2 := ⟨RPatt, TPatt, 6, rfl, Or.inl (xin (List.mem_of_getElem? (i := 643) (by decide +kernel)) rfl), xin (List.mem_of_getElem? (i := 644) (by decide +kernel)) rfl, xin (List.mem_of_getElem? (i := 645) (by decide +kernel)) rfl, ⟨by decide, by decide⟩⟩
theorem iv_PW_156 : xVi "PairedWords" 156 mPatt_addElement 2 := ⟨RPatt, TPatt, 6, rfl, Or.inl (xin (List.mem_of_getElem? (i := 648) (by decide +kernel)) rfl), xin (List.mem_of_getElem? (i := 649) (by decide +kernel)) rfl, xin (List.mem_of_getElem? (i := 650) (by decide +kernel)) rfl, ⟨by decide, by decide⟩⟩
theorem is_PW_160 : xSi "PairedWords" 160 mPW_isPart := ⟨Or.inl (xin (List.mem_of_getElem? (i := 666) (by decide +kernel)) rfl), xin (List.mem_of_getElem? (i := 667) (by decide +kernel)) rfl, ⟨by decide, by decide⟩⟩
theorem fg_PW_26 : xF "PairedWords" 26 9 2 := ⟨RPW, TPW, 10, "PairedWords", "", rfl, by decide, lyPW, Or.inl (xin (List.mem_of_getElem? (i := 247) (by decide +kernel)) rfl), Or.inl rfl⟩
theorem iv_PW_165 : xVi "PairedWords" 165 mLexi_count 8 := ⟨RLexi, TLexi, 6, rfl, Or.inl (xin (List.mem_of_getElem? (i := 670) (by decide +kernel)) rfl), xin (List.mem_of_getElem? (i := 671) (by decide +kernel)) rfl, xin (List.mem_of_getElem? (i := 672) (by decide +kernel)) rfl, ⟨by decide, by decide⟩⟩
theorem iv_PW_168 : xVi "PairedWords" 168 mLexi_add 8 := ⟨RLexi, TLexi, 6, rfl, Or.inl (xin (List.mem_of_getElem? (i := 675) (by decide +kernel)) rfl), xin (List.mem_of_getElem? (i := 676) (by decide +kernel)) rfl, xin (List.mem_of_getElem? (i := 677) (by decide +kernel)) rfl, ⟨by decide, by decide⟩⟩
theorem is_PW_169 : xSi "PairedWords" 169 mPW_isSign := ⟨Or.inl (xin (List.mem_of_getElem? (i := 470) (by decide +kernel)) rfl), xin (List.mem_of_getElem? (i := 471) (by decide +kernel)) rfl, ⟨by decide, by decide⟩⟩
theorem iv_PW_174 : xVi "PairedWords" 174 mLexi_signsOf 8 := ⟨RLexi, TLexi, 6, rfl, Or.inl (xin (List.mem_of_getElem? (i := 687) (by decide +kernel)) rfl), xin (List.mem_of_getElem? (i := 688) (by decide +kernel)) rfl, xin (List.mem_of_getElem? (i := 689) (by decide +kernel)) rfl, ⟨by decide, by decide⟩⟩
theorem iv_PW_178 : xVi "PairedWords" 178 mLine_isFull 0 := ⟨RLine, TLine, 2, rfl, Or.inl (xin (List.mem_of_getElem? (i := 691) (by decide +kernel)) rfl), xin (List.mem_of_getElem? (i := 310) (by decide +kernel)) rfl, xin (List.mem_of_getElem? (i := 311) (by decide +kernel)) rfl, ⟨by decide, by decide⟩⟩
theorem iv_PW_184 : xVi "PairedWords" 184 mLine_add 0 := ⟨RLine, TLine, 2, rfl, Or.inl (xin (List.mem_of_getElem? (i := 693) (by decide +kernel)) rfl), xin (List.mem_of_getElem? (i := 306) (by decide +kernel)) rfl, xin (List.mem_of_getElem? (i := 307) (by decide +kernel)) rfl, ⟨by decide, by decide⟩⟩
theorem fg_PW_39 : xF "PairedWords" 39 9 4 := ⟨RPW, TPW, 10, "PairedWords", "", rfl, by decide, lyPW, Or.inl (xin (List.mem_of_getElem? (i := 249) (by decide +kernel)) rfl), Or.inl rfl⟩
theorem fg_PW_35 : xF "PairedWords" 35 9 3 := ⟨RPW, TPW, 10, "PairedWords", "", rfl, by decide, lyPW, Or.inl (xin (List.mem_of_getElem? (i := 248) (by decide +kernel)) rfl), Or.inl rfl⟩
theorem iv_PW_188 : xVi "PairedWords" 188 mLine_size 0 := ⟨RLine, TLine, 2, rfl, Or.inl (xin (List.mem_of_getElem? (i := 280) (by decide +kernel)) rfl), xin (List.mem_of_getElem? (i := 281) (by decide +kernel)) rfl, xin (List.mem_of_getElem? (i := 282) (by decide +kernel)) rfl, ⟨by decide, by decide⟩⟩
theorem iv_PW_191 : xVi "PairedWords" 191 mLine_cutTo 0 := ⟨RLine, TLine, 2, rfl, Or.inl (xin (List.mem_of_getElem? (i := 284) (by decide +kernel)) rfl), xin (List.mem_of_getElem? (i := 285) (by decide +kernel)) rfl, xin (List.mem_of_getElem? (i := 286) (by decide +kernel)) rfl, ⟨by decide, by decide⟩⟩
theorem fg_PW_64 : xF "PairedWords" 64 9 8 := ⟨RPW, TPW, 10, "PairedWords", "", rfl, by decide, lyPW, Or.inl (xin (List.mem_of_getElem? (i := 253) (by decide +kernel)) rfl), Or.inl rfl⟩
theorem iv_PW_194 : xVi "PairedWords" 194 mComp_finds 6 := ⟨RComp, TComp, 9, rfl, Or.inl (xin (List.mem_of_getElem? (i := 292) (by decide +kernel)) rfl), xin (List.mem_of_getElem? (i := 293) (by decide +kernel)) rfl, xin (List.mem_of_getElem? (i := 294) (by decide +kernel)) rfl, ⟨by decide, by decide⟩⟩
theorem iv_PW_198 : xVi "PairedWords" 198 mComp_culprit 6 := ⟨RComp, TComp, 9, rfl, Or.inl (xin (List.mem_of_getElem? (i := 438) (by decide +kernel)) rfl), xin (List.mem_of_getElem? (i := 439) (by decide +kernel)) rfl, xin (List.mem_of_getElem? (i := 440) (by decide +kernel)) rfl, ⟨by decide, by decide⟩⟩
theorem fg_PW_73 : xF "PairedWords" 73 9 9 := ⟨RPW, TPW, 10, "PairedWords", "", rfl, by decide, lyPW, Or.inl (xin (List.mem_of_getElem? (i := 254) (by decide +kernel)) rfl), Or.inl rfl⟩
theorem iu_PW_201_Writ : xUi "PairedWords" 201 mSear_goThrough 7 := ⟨RWrit, TWrit, 7, ⟨"PairedWords$Writing", "goThrough", "(LPairedWords$Line;)V"⟩, "PairedWords$Search", rfl, xin (List.mem_of_getElem? (i := 709) (by decide +kernel)) rfl, xin (List.mem_of_getElem? (i := 710) (by decide +kernel)) rfl, rfl, Or.inl (xin (List.mem_of_getElem? (i := 315) (by decide +kernel)) rfl), ⟨by decide, by decide⟩, xin (List.mem_of_getElem? (i := 711) (by decide +kernel)) rfl, xin (List.mem_of_getElem? (i := 317) (by decide +kernel)) rfl⟩
theorem iv_PW_205 : xVi "PairedWords" 205 mResu_isTooMany 3 := ⟨RResu, TResu, 3, rfl, Or.inl (xin (List.mem_of_getElem? (i := 712) (by decide +kernel)) rfl), xin (List.mem_of_getElem? (i := 404) (by decide +kernel)) rfl, xin (List.mem_of_getElem? (i := 405) (by decide +kernel)) rfl, ⟨by decide, by decide⟩⟩
theorem iv_PW_210 : xVi "PairedWords" 210 mResu_copy 3 := ⟨RResu, TResu, 3, rfl, Or.inl (xin (List.mem_of_getElem? (i := 714) (by decide +kernel)) rfl), xin (List.mem_of_getElem? (i := 715) (by decide +kernel)) rfl, xin (List.mem_of_getElem? (i := 716) (by decide +kernel)) rfl, ⟨by decide, by decide⟩⟩
theorem iv_PW_214 : xVi "PairedWords" 214 mResu_count 3 := ⟨RResu, TResu, 3, rfl, Or.inl (xin (List.mem_of_getElem? (i := 721) (by decide +kernel)) rfl), xin (List.mem_of_getElem? (i := 722) (by decide +kernel)) rfl, xin (List.mem_of_getElem? (i := 723) (by decide +kernel)) rfl, ⟨by decide, by decide⟩⟩
theorem ip_PW_215 : xPi "PairedWords" 215 mLexi_goOn := ⟨Or.inr ⟨"PairedWords", xin (List.mem_of_getElem? (i := 732) (by decide +kernel)) rfl⟩, xin (List.mem_of_getElem? (i := 734) (by decide +kernel)) rfl, xin (List.mem_of_getElem? (i := 733) (by decide +kernel)) rfl, ⟨by decide, by decide⟩, Or.inr ⟨6, xin (List.mem_of_getElem? (i := 109) (by decide +kernel)) rfl⟩⟩
theorem iv_PW_224 : xVi "PairedWords" 224 mResu_entriesOf 3 := ⟨RResu, TResu, 3, rfl, Or.inl (xin (List.mem_of_getElem? (i := 776) (by decide +kernel)) rfl), xin (List.mem_of_getElem? (i := 777) (by decide +kernel)) rfl, xin (List.mem_of_getElem? (i := 778) (by decide +kernel)) rfl, ⟨by decide, by decide⟩⟩
theorem iv_PW_227 : xVi "PairedWords" 227 mResu_signsOf 3 := ⟨RResu, TResu, 3, rfl, Or.inl (xin (List.mem_of_getElem? (i := 785) (by decide +kernel)) rfl), xin (List.mem_of_getElem? (i := 786) (by decide +kernel)) rfl, xin (List.mem_of_getElem? (i := 787) (by decide +kernel)) rfl, ⟨by decide, by decide⟩⟩
theorem iv_PW_231 : xVi "PairedWords" 231 mResu_entryOf 3 := ⟨RResu, TResu, 3, rfl, Or.inl (xin (List.mem_of_getElem? (i := 797) (by decide +kernel)) rfl), xin (List.mem_of_getElem? (i := 798) (by decide +kernel)) rfl, xin (List.mem_of_getElem? (i := 799) (by decide +kernel)) rfl, ⟨by decide, by decide⟩⟩
theorem iv_PW_234 : xVi "PairedWords" 234 mResu_signOf 3 := ⟨RResu, TResu, 3, rfl, Or.inl (xin (List.mem_of_getElem? (i := 801) (by decide +kernel)) rfl), xin (List.mem_of_getElem? (i := 802) (by decide +kernel)) rfl, xin (List.mem_of_getElem? (i := 803) (by decide +kernel)) rfl, ⟨by decide, by decide⟩⟩
theorem fg_PW_45 : xF "PairedWords" 45 9 5 := ⟨RPW, TPW, 10, "PairedWords", "", rfl, by decide, lyPW, Or.inl (xin (List.mem_of_getElem? (i := 250) (by decide +kernel)) rfl), Or.inl rfl⟩
theorem iv_PW_237 : xVi "PairedWords" 237 mSamp_count 5 := ⟨RSamp, TSamp, 3, rfl, Or.inl (xin (List.mem_of_getElem? (i := 446) (by decide +kernel)) rfl), xin (List.mem_of_getElem? (i := 447) (by decide +kernel)) rfl, xin (List.mem_of_getElem? (i := 448) (by decide +kernel)) rfl, ⟨by decide, by decide⟩⟩
theorem iv_PW_240 : xVi "PairedWords" 240 mSamp_add 5 := ⟨RSamp, TSamp, 3, rfl, Or.inl (xin (List.mem_of_getElem? (i := 813) (by decide +kernel)) rfl), xin (List.mem_of_getElem? (i := 814) (by decide +kernel)) rfl, xin (List.mem_of_getElem? (i := 815) (by decide +kernel)) rfl, ⟨by decide, by decide⟩⟩
theorem iv_PW_243 : xVi "PairedWords" 243 mSamp_lowerOf 5 := ⟨RSamp, TSamp, 3, rfl, Or.inl (xin (List.mem_of_getElem? (i := 450) (by decide +kernel)) rfl), xin (List.mem_of_getElem? (i := 451) (by decide +kernel)) rfl, xin (List.mem_of_getElem? (i := 452) (by decide +kernel)) rfl, ⟨by decide, by decide⟩⟩
theorem iv_PW_246 : xVi "PairedWords" 246 mSamp_upperOf 5 := ⟨RSamp, TSamp, 3, rfl, Or.inl (xin (List.mem_of_getElem? (i := 454) (by decide +kernel)) rfl), xin (List.mem_of_getElem? (i := 455) (by decide +kernel)) rfl, xin (List.mem_of_getElem? (i := 456) (by decide +kernel)) rfl, ⟨by decide, by decide⟩⟩
theorem fp_Mod_7 (nm : String) : xFw "PairedWordsModel" nm 7 10 2 (.array .int) := ⟨RMod, TMod, 42, "PairedWordsModel", "", rfl, by decide, lyMod, fdMod, nmMod, by decide +kernel, Or.inl ⟨rfl, Or.inl (xin (List.mem_of_getElem? (i := 826) (by decide +kernel)) rfl)⟩, Or.inl rfl⟩
theorem fp_Mod_13 (nm : String) : xFw "PairedWordsModel" nm 13 10 3 (.array .int) := ⟨RMod, TMod, 42, "PairedWordsModel", "", rfl, by decide, lyMod, fdMod, nmMod, by decide +kernel, Or.inl ⟨rfl, Or.inl (xin (List.mem_of_getElem? (i := 827) (by decide +kernel)) rfl)⟩, Or.inl rfl⟩
theorem fp_Mod_16 (nm : String) : xFw "PairedWordsModel" nm 16 10 5 (.array .int) := ⟨RMod, TMod, 42, "PairedWordsModel", "", rfl, by decide, lyMod, fdMod, nmMod, by decide +kernel, Or.inl ⟨rfl, Or.inl (xin (List.mem_of_getElem? (i := 829) (by decide +kernel)) rfl)⟩, Or.inl rfl⟩
theorem fp_Mod_19 (nm : String) : xFw "PairedWordsModel" nm 19 10 6 (.array .int) := ⟨RMod, TMod, 42, "PairedWordsModel", "", rfl, by decide, lyMod, fdMod, nmMod, by decide +kernel, Or.inl ⟨rfl, Or.inl (xin (List.mem_of_getElem? (i := 830) (by decide +kernel)) rfl)⟩, Or.inl rfl⟩
theorem fp_Mod_22 (nm : String) : xFw "PairedWordsModel" nm 22 10 7 (.array .int) := ⟨RMod, TMod, 42, "PairedWordsModel", "", rfl, by decide, lyMod, fdMod, nmMod, by decide +kernel, Or.inl ⟨rfl, Or.inl (xin (List.mem_of_getElem? (i := 831) (by decide +kernel)) rfl)⟩, Or.inl rfl⟩
theorem fp_Mod_25 (nm : String) : xFw "PairedWordsModel" nm 25 10 8 (.array .boolean) := ⟨RMod, TMod, 42, "PairedWordsModel", "", rfl, by decide, lyMod, fdMod, nmMod, by decide +kernel, Or.inl ⟨rfl, Or.inl (xin (List.mem_of_getElem? (i := 832) (by decide +kernel)) rfl)⟩, Or.inl rfl⟩
theorem fp_Mod_29 (nm : String) : xFw "PairedWordsModel" nm 29 10 9 (.array .int) := ⟨RMod, TMod, 42, "PairedWordsModel", "", rfl, by decide, lyMod, fdMod, nmMod, by decide +kernel, Or.inl ⟨rfl, Or.inl (xin (List.mem_of_getElem? (i := 833) (by decide +kernel)) rfl)⟩, Or.inl rfl⟩
theorem fp_Mod_32 (nm : String) : xFw "PairedWordsModel" nm 32 10 10 (.array .int) := ⟨RMod, TMod, 42, "PairedWordsModel", "", rfl, by decide, lyMod, fdMod, nmMod, by decide +kernel, Or.inl ⟨rfl, Or.inl (xin (List.mem_of_getElem? (i := 834) (by decide +kernel)) rfl)⟩, Or.inl rfl⟩
theorem fp_Mod_35 (nm : String) : xFw "PairedWordsModel" nm 35 10 11 (.array .boolean) := ⟨RMod, TMod, 42, "PairedWordsModel", "", rfl, by decide, lyMod, fdMod, nmMod, by decide +kernel, Or.inl ⟨rfl, Or.inl (xin (List.mem_of_getElem? (i := 835) (by decide +kernel)) rfl)⟩, Or.inl rfl⟩
theorem fp_Mod_38 (nm : String) : xFw "PairedWordsModel" nm 38 10 13 (.array .int) := ⟨RMod, TMod, 42, "PairedWordsModel", "", rfl, by decide, lyMod, fdMod, nmMod, by decide +kernel, Or.inl ⟨rfl, Or.inl (xin (List.mem_of_getElem? (i := 837) (by decide +kernel)) rfl)⟩, Or.inl rfl⟩
theorem fp_Mod_41 (nm : String) : xFw "PairedWordsModel" nm 41 10 14 (.array .int) := ⟨RMod, TMod, 42, "PairedWordsModel", "", rfl, by decide, lyMod, fdMod, nmMod, by decide +kernel, Or.inl ⟨rfl, Or.inl (xin (List.mem_of_getElem? (i := 838) (by decide +kernel)) rfl)⟩, Or.inl rfl⟩
theorem fp_Mod_44 (nm : String) : xFw "PairedWordsModel" nm 44 10 15 (.array .int) := ⟨RMod, TMod, 42, "PairedWordsModel", "", rfl, by decide, lyMod, fdMod, nmMod, by decide +kernel, Or.inl ⟨rfl, Or.inl (xin (List.mem_of_getElem? (i := 839) (by decide +kernel)) rfl)⟩, Or.inl rfl⟩
theorem fp_Mod_47 (nm : String) : xFw "PairedWordsModel" nm 47 10 16 (.array .int) := ⟨RMod, TMod, 42, "PairedWordsModel", "", rfl, by decide, lyMod, fdMod, nmMod, by decide +kernel, Or.inl ⟨rfl, Or.inl (xin (List.mem_of_getElem? (i := 840) (by decide +kernel)) rfl)⟩, Or.inl rfl⟩
theorem fp_Mod_50 (nm : String) : xFw "PairedWordsModel" nm 50 10 17 (.array .int) := ⟨RMod, TMod, 42, "PairedWordsModel", "", rfl, by decide, lyMod, fdMod, nmMod, by decide +kernel, Or.inl ⟨rfl, Or.inl (xin (List.mem_of_getElem? (i := 841) (by decide +kernel)) rfl)⟩, Or.inl rfl⟩
theorem fp_Mod_53 (nm : String) : xFw "PairedWordsModel" nm 53 10 18 (.array .int) := ⟨RMod, TMod, 42, "PairedWordsModel", "", rfl, by decide, lyMod, fdMod, nmMod, by decide +kernel, Or.inl ⟨rfl, Or.inl (xin (List.mem_of_getElem? (i := 842) (by decide +kernel)) rfl)⟩, Or.inl rfl⟩
theorem fp_Mod_56 (nm : String) : xFw "PairedWordsModel" nm 56 10 20 (.array .int) := ⟨RMod, TMod, 42, "PairedWordsModel", "", rfl, by decide, lyMod, fdMod, nmMod, by decide +kernel, Or.inl ⟨rfl, Or.inl (xin (List.mem_of_getElem? (i := 844) (by decide +kernel)) rfl)⟩, Or.inl rfl⟩
theorem fp_Mod_59 (nm : String) : xFw "PairedWordsModel" nm 59 10 21 (.array .int) := ⟨RMod, TMod, 42, "PairedWordsModel", "", rfl, by decide, lyMod, fdMod, nmMod, by decide +kernel, Or.inl ⟨rfl, Or.inl (xin (List.mem_of_getElem? (i := 845) (by decide +kernel)) rfl)⟩, Or.inl rfl⟩
theorem fp_Mod_62 (nm : String) : xFw "PairedWordsModel" nm 62 10 22 (.array .int) := ⟨RMod, TMod, 42, "PairedWordsModel", "", rfl, by decide, lyMod, fdMod, nmMod, by decide +kernel, Or.inl ⟨rfl, Or.inl (xin (List.mem_of_getElem? (i := 846) (by decide +kernel)) rfl)⟩, Or.inl rfl⟩
theorem fp_Mod_65 (nm : String) : xFw "PairedWordsModel" nm 65 10 23 (.array .int) := ⟨RMod, TMod, 42, "PairedWordsModel", "", rfl, by decide, lyMod, fdMod, nmMod, by decide +kernel, Or.inl ⟨rfl, Or.inl (xin (List.mem_of_getElem? (i := 847) (by decide +kernel)) rfl)⟩, Or.inl rfl⟩
theorem fp_Mod_68 (nm : String) : xFw "PairedWordsModel" nm 68 10 25 (.array .int) := ⟨RMod, TMod, 42, "PairedWordsModel", "", rfl, by decide, lyMod, fdMod, nmMod, by decide +kernel, Or.inl ⟨rfl, Or.inl (xin (List.mem_of_getElem? (i := 849) (by decide +kernel)) rfl)⟩, Or.inl rfl⟩
theorem fp_Mod_71 (nm : String) : xFw "PairedWordsModel" nm 71 10 26 (.array .int) := ⟨RMod, TMod, 42, "PairedWordsModel", "", rfl, by decide, lyMod, fdMod, nmMod, by decide +kernel, Or.inl ⟨rfl, Or.inl (xin (List.mem_of_getElem? (i := 850) (by decide +kernel)) rfl)⟩, Or.inl rfl⟩
theorem fp_Mod_74 (nm : String) : xFw "PairedWordsModel" nm 74 10 27 (.array .int) := ⟨RMod, TMod, 42, "PairedWordsModel", "", rfl, by decide, lyMod, fdMod, nmMod, by decide +kernel, Or.inl ⟨rfl, Or.inl (xin (List.mem_of_getElem? (i := 851) (by decide +kernel)) rfl)⟩, Or.inl rfl⟩
theorem fp_Mod_77 (nm : String) : xFw "PairedWordsModel" nm 77 10 28 (.array .int) := ⟨RMod, TMod, 42, "PairedWordsModel", "", rfl, by decide, lyMod, fdMod, nmMod, by decide +kernel, Or.inl ⟨rfl, Or.inl (xin (List.mem_of_getElem? (i := 852) (by decide +kernel)) rfl)⟩, Or.inl rfl⟩
theorem fp_Mod_80 (nm : String) : xFw "PairedWordsModel" nm 80 10 30 (.array .int) := ⟨RMod, TMod, 42, "PairedWordsModel", "", rfl, by decide, lyMod, fdMod, nmMod, by decide +kernel, Or.inl ⟨rfl, Or.inl (xin (List.mem_of_getElem? (i := 854) (by decide +kernel)) rfl)⟩, Or.inl rfl⟩
theorem fp_Mod_83 (nm : String) : xFw "PairedWordsModel" nm 83 10 31 (.array .int) := ⟨RMod, TMod, 42, "PairedWordsModel", "", rfl, by decide, lyMod, fdMod, nmMod, by decide +kernel, Or.inl ⟨rfl, Or.inl (xin (List.mem_of_getElem? (i := 855) (by decide +kernel)) rfl)⟩, Or.inl rfl⟩
theorem fp_Mod_86 (nm : String) : xFw "PairedWordsModel" nm 86 10 33 (.array .int) := ⟨RMod, TMod, 42, "PairedWordsModel", "", rfl, by decide, lyMod, fdMod, nmMod, by decide +kernel, Or.inl ⟨rfl, Or.inl (xin (List.mem_of_getElem? (i := 857) (by decide +kernel)) rfl)⟩, Or.inl rfl⟩
theorem fp_Mod_89 (nm : String) : xFw "PairedWordsModel" nm 89 10 35 (.array .int) := ⟨RMod, TMod, 42, "PairedWordsModel", "", rfl, by decide, lyMod, fdMod, nmMod, by decide +kernel, Or.inl ⟨rfl, Or.inl (xin (List.mem_of_getElem? (i := 859) (by decide +kernel)) rfl)⟩, Or.inl rfl⟩
theorem fp_Mod_92 (nm : String) : xFw "PairedWordsModel" nm 92 10 37 (.array .int) := ⟨RMod, TMod, 42, "PairedWordsModel", "", rfl, by decide, lyMod, fdMod, nmMod, by decide +kernel, Or.inl ⟨rfl, Or.inl (xin (List.mem_of_getElem? (i := 861) (by decide +kernel)) rfl)⟩, Or.inl rfl⟩
theorem fp_Mod_95 (nm : String) : xFw "PairedWordsModel" nm 95 10 38 (.array .int) := ⟨RMod, TMod, 42, "PairedWordsModel", "", rfl, by decide, lyMod, fdMod, nmMod, by decide +kernel, Or.inl ⟨rfl, Or.inl (xin (List.mem_of_getElem? (i := 862) (by decide +kernel)) rfl)⟩, Or.inl rfl⟩
theorem fp_Mod_98 (nm : String) : xFw "PairedWordsModel" nm 98 10 39 (.array .int) := ⟨RMod, TMod, 42, "PairedWordsModel", "", rfl, by decide, lyMod, fdMod, nmMod, by decide +kernel, Or.inl ⟨rfl, Or.inl (xin (List.mem_of_getElem? (i := 863) (by decide +kernel)) rfl)⟩, Or.inl rfl⟩
theorem fp_Mod_101 (nm : String) : xFw "PairedWordsModel" nm 101 10 40 (.array .int) := ⟨RMod, TMod, 42, "PairedWordsModel", "", rfl, by decide, lyMod, fdMod, nmMod, by decide +kernel, Or.inl ⟨rfl, Or.inl (xin (List.mem_of_getElem? (i := 864) (by decide +kernel)) rfl)⟩, Or.inl rfl⟩
theorem fp_Mod_104 (nm : String) : xFw "PairedWordsModel" nm 104 10 41 (.array .int) := ⟨RMod, TMod, 42, "PairedWordsModel", "", rfl, by decide, lyMod, fdMod, nmMod, by decide +kernel, Or.inl ⟨rfl, Or.inl (xin (List.mem_of_getElem? (i := 865) (by decide +kernel)) rfl)⟩, Or.inl rfl⟩
theorem fg_Mod_107 : xF "PairedWordsModel" 107 10 0 := ⟨RMod, TMod, 42, "PairedWordsModel", "", rfl, by decide, lyMod, Or.inl (xin (List.mem_of_getElem? (i := 824) (by decide +kernel)) rfl), Or.inl rfl⟩
theorem ip_Mod_111 : xPi "PairedWordsModel" 111 mMod_noSign := ⟨Or.inl (xin (List.mem_of_getElem? (i := 960) (by decide +kernel)) rfl), xin (List.mem_of_getElem? (i := 962) (by decide +kernel)) rfl, xin (List.mem_of_getElem? (i := 961) (by decide +kernel)) rfl, ⟨by decide, by decide⟩, Or.inr ⟨42, xin (List.mem_of_getElem? (i := 819) (by decide +kernel)) rfl⟩⟩
theorem fg_Mod_115 : xF "PairedWordsModel" 115 10 1 := ⟨RMod, TMod, 42, "PairedWordsModel", "", rfl, by decide, lyMod, Or.inl (xin (List.mem_of_getElem? (i := 825) (by decide +kernel)) rfl), Or.inl rfl⟩
theorem fg_Mod_7 : xF "PairedWordsModel" 7 10 2 := ⟨RMod, TMod, 42, "PairedWordsModel", "", rfl, by decide, lyMod, Or.inl (xin (List.mem_of_getElem? (i := 826) (by decide +kernel)) rfl), Or.inl rfl⟩
theorem fg_Mod_13 : xF "PairedWordsModel" 13 10 3 := ⟨RMod, TMod, 42, "PairedWordsModel", "", rfl, by decide, lyMod, Or.inl (xin (List.mem_of_getElem? (i := 827) (by decide +kernel)) rfl), Or.inl rfl⟩
theorem fp_Mod_107 (nm : String) : xFw "PairedWordsModel" nm 107 10 0 (.int) := ⟨RMod, TMod, 42, "PairedWordsModel", "", rfl, by decide, lyMod, fdMod, nmMod, by decide +kernel, Or.inl ⟨rfl, Or.inl (xin (List.mem_of_getElem? (i := 824) (by decide +kernel)) rfl)⟩, Or.inl rfl⟩
theorem fp_Mod_115 (nm : String) : xFw "PairedWordsModel" nm 115 10 1 (.int) := ⟨RMod, TMod, 42, "PairedWordsModel", "", rfl, by decide, lyMod, fdMod, nmMod, by decide +kernel, Or.inl ⟨rfl, Or.inl (xin (List.mem_of_getElem? (i := 825) (by decide +kernel)) rfl)⟩, Or.inl rfl⟩
theorem fp_Mod_118 (nm : String) : xFw "PairedWordsModel" nm 118 10 19 (.int) := ⟨RMod, TMod, 42, "PairedWordsModel", "", rfl, by decide, lyMod, fdMod, nmMod, by decide +kernel, Or.inl ⟨rfl, Or.inl (xin (List.mem_of_getElem? (i := 843) (by decide +kernel)) rfl)⟩, Or.inl rfl⟩
theorem fg_Mod_121 : xF "PairedWordsModel" 121 10 4 := ⟨RMod, TMod, 42, "PairedWordsModel", "", rfl, by decide, lyMod, Or.inl (xin (List.mem_of_getElem? (i := 828) (by decide +kernel)) rfl), Or.inl rfl⟩
theorem fg_Mod_16 : xF "PairedWordsModel" 16 10 5 := ⟨RMod, TMod, 42, "PairedWordsModel", "", rfl, by decide, lyMod, Or.inl (xin (List.mem_of_getElem? (i := 829) (by decide +kernel)) rfl), Or.inl rfl⟩
theorem fg_Mod_19 : xF "PairedWordsModel" 19 10 6 := ⟨RMod, TMod, 42, "PairedWordsModel", "", rfl, by decide, lyMod, Or.inl (xin (List.mem_of_getElem? (i := 830) (by decide +kernel)) rfl), Or.inl rfl⟩
theorem fp_Mod_121 (nm : String) : xFw "PairedWordsModel" nm 121 10 4 (.int) := ⟨RMod, TMod, 42, "PairedWordsModel", "", rfl, by decide, lyMod, fdMod, nmMod, by decide +kernel, Or.inl ⟨rfl, Or.inl (xin (List.mem_of_getElem? (i := 828) (by decide +kernel)) rfl)⟩, Or.inl rfl⟩
theorem ip_Mod_124 : xPi "PairedWordsModel" 124 mMod_noRule := ⟨Or.inl (xin (List.mem_of_getElem? (i := 972) (by decide +kernel)) rfl), xin (List.mem_of_getElem? (i := 974) (by decide +kernel)) rfl, xin (List.mem_of_getElem? (i := 973) (by decide +kernel)) rfl, ⟨by decide, by decide⟩, Or.inr ⟨42, xin (List.mem_of_getElem? (i := 819) (by decide +kernel)) rfl⟩⟩
theorem fg_Mod_22 : xF "PairedWordsModel" 22 10 7 := ⟨RMod, TMod, 42, "PairedWordsModel", "", rfl, by decide, lyMod, Or.inl (xin (List.mem_of_getElem? (i := 831) (by decide +kernel)) rfl), Or.inl rfl⟩
theorem fg_Mod_25 : xF "PairedWordsModel" 25 10 8 := ⟨RMod, TMod, 42, "PairedWordsModel", "", rfl, by decide, lyMod, Or.inl (xin (List.mem_of_getElem? (i := 832) (by decide +kernel)) rfl), Or.inl rfl⟩
theorem fg_Mod_29 : xF "PairedWordsModel" 29 10 9 := ⟨RMod, TMod, 42, "PairedWordsModel", "", rfl, by decide, lyMod, Or.inl (xin (List.mem_of_getElem? (i := 833) (by decide +kernel)) rfl), Or.inl rfl⟩
theorem fg_Mod_32 : xF "PairedWordsModel" 32 10 10 := ⟨RMod, TMod, 42, "PairedWordsModel", "", rfl, by decide, lyMod, Or.inl (xin (List.mem_of_getElem? (i := 834) (by decide +kernel)) rfl), Or.inl rfl⟩
theorem fg_Mod_35 : xF "PairedWordsModel" 35 10 11 := ⟨RMod, TMod, 42, "PairedWordsModel", "", rfl, by decide, lyMod, Or.inl (xin (List.mem_of_getElem? (i := 835) (by decide +kernel)) rfl), Or.inl rfl⟩
theorem fg_Mod_128 : xF "PairedWordsModel" 128 10 12 := ⟨RMod, TMod, 42, "PairedWordsModel", "", rfl, by decide, lyMod, Or.inl (xin (List.mem_of_getElem? (i := 836) (by decide +kernel)) rfl), Or.inl rfl⟩
theorem fg_Mod_38 : xF "PairedWordsModel" 38 10 13 := ⟨RMod, TMod, 42, "PairedWordsModel", "", rfl, by decide, lyMod, Or.inl (xin (List.mem_of_getElem? (i := 837) (by decide +kernel)) rfl), Or.inl rfl⟩
theorem fg_Mod_41 : xF "PairedWordsModel" 41 10 14 := ⟨RMod, TMod, 42, "PairedWordsModel", "", rfl, by decide, lyMod, Or.inl (xin (List.mem_of_getElem? (i := 838) (by decide +kernel)) rfl), Or.inl rfl⟩
theorem fp_Mod_128 (nm : String) : xFw "PairedWordsModel" nm 128 10 12 (.int) := ⟨RMod, TMod, 42, "PairedWordsModel", "", rfl, by decide, lyMod, fdMod, nmMod, by decide +kernel, Or.inl ⟨rfl, Or.inl (xin (List.mem_of_getElem? (i := 836) (by decide +kernel)) rfl)⟩, Or.inl rfl⟩
theorem fg_Mod_44 : xF "PairedWordsModel" 44 10 15 := ⟨RMod, TMod, 42, "PairedWordsModel", "", rfl, by decide, lyMod, Or.inl (xin (List.mem_of_getElem? (i := 839) (by decide +kernel)) rfl), Or.inl rfl⟩
theorem fg_Mod_47 : xF "PairedWordsModel" 47 10 16 := ⟨RMod, TMod, 42, "PairedWordsModel", "", rfl, by decide, lyMod, Or.inl (xin (List.mem_of_getElem? (i := 840) (by decide +kernel)) rfl), Or.inl rfl⟩
theorem fg_Mod_50 : xF "PairedWordsModel" 50 10 17 := ⟨RMod, TMod, 42, "PairedWordsModel", "", rfl, by decide, lyMod, Or.inl (xin (List.mem_of_getElem? (i := 841) (by decide +kernel)) rfl), Or.inl rfl⟩
theorem fg_Mod_53 : xF "PairedWordsModel" 53 10 18 := ⟨RMod, TMod, 42, "PairedWordsModel", "", rfl, by decide, lyMod, Or.inl (xin (List.mem_of_getElem? (i := 842) (by decide +kernel)) rfl), Or.inl rfl⟩
theorem fg_Mod_92 : xF "PairedWordsModel" 92 10 37 := ⟨RMod, TMod, 42, "PairedWordsModel", "", rfl, by decide, lyMod, Or.inl (xin (List.mem_of_getElem? (i := 861) (by decide +kernel)) rfl), Or.inl rfl⟩
theorem ip_Mod_131 : xPi "PairedWordsModel" 131 mMod_inSet := ⟨Or.inl (xin (List.mem_of_getElem? (i := 1044) (by decide +kernel)) rfl), xin (List.mem_of_getElem? (i := 1046) (by decide +kernel)) rfl, xin (List.mem_of_getElem? (i := 1045) (by decide +kernel)) rfl, ⟨by decide, by decide⟩, Or.inr ⟨42, xin (List.mem_of_getElem? (i := 819) (by decide +kernel)) rfl⟩⟩
theorem ip_Mod_134 : xPi "PairedWordsModel" 134 mMod_allIn := ⟨Or.inl (xin (List.mem_of_getElem? (i := 1040) (by decide +kernel)) rfl), xin (List.mem_of_getElem? (i := 1042) (by decide +kernel)) rfl, xin (List.mem_of_getElem? (i := 1041) (by decide +kernel)) rfl, ⟨by decide, by decide⟩, Or.inr ⟨42, xin (List.mem_of_getElem? (i := 819) (by decide +kernel)) rfl⟩⟩
theorem ip_Mod_138 : xPi "PairedWordsModel" 138 mMod_isPart := ⟨Or.inl (xin (List.mem_of_getElem? (i := 1036) (by decide +kernel)) rfl), xin (List.mem_of_getElem? (i := 1038) (by decide +kernel)) rfl, xin (List.mem_of_getElem? (i := 1037) (by decide +kernel)) rfl, ⟨by decide, by decide⟩, Or.inr ⟨42, xin (List.mem_of_getElem? (i := 819) (by decide +kernel)) rfl⟩⟩
theorem ip_Mod_141 : xPi "PairedWordsModel" 141 mMod_isMatched := ⟨Or.inl (xin (List.mem_of_getElem? (i := 1032) (by decide +kernel)) rfl), xin (List.mem_of_getElem? (i := 1034) (by decide +kernel)) rfl, xin (List.mem_of_getElem? (i := 1033) (by decide +kernel)) rfl, ⟨by decide, by decide⟩, Or.inr ⟨42, xin (List.mem_of_getElem? (i := 819) (by decide +kernel)) rfl⟩⟩
theorem fg_Mod_144 : xF "PairedWordsModel" 144 10 36 := ⟨RMod, TMod, 42, "PairedWordsModel", "", rfl, by decide, lyMod, Or.inl (xin (List.mem_of_getElem? (i := 860) (by decide +kernel)) rfl), Or.inl rfl⟩
theorem ip_Mod_147 : xPi "PairedWordsModel" 147 mMod_holds := ⟨Or.inl (xin (List.mem_of_getElem? (i := 1028) (by decide +kernel)) rfl), xin (List.mem_of_getElem? (i := 1030) (by decide +kernel)) rfl, xin (List.mem_of_getElem? (i := 1029) (by decide +kernel)) rfl, ⟨by decide, by decide⟩, Or.inr ⟨42, xin (List.mem_of_getElem? (i := 819) (by decide +kernel)) rfl⟩⟩
theorem ip_Mod_150 : xPi "PairedWordsModel" 150 mMod_isKept := ⟨Or.inl (xin (List.mem_of_getElem? (i := 1024) (by decide +kernel)) rfl), xin (List.mem_of_getElem? (i := 1026) (by decide +kernel)) rfl, xin (List.mem_of_getElem? (i := 1025) (by decide +kernel)) rfl, ⟨by decide, by decide⟩, Or.inr ⟨42, xin (List.mem_of_getElem? (i := 819) (by decide +kernel)) rfl⟩⟩
theorem fp_Mod_144 (nm : String) : xFw "PairedWordsModel" nm 144 10 36 (.int) := ⟨RMod, TMod, 42, "PairedWordsModel", "", rfl, by decide, lyMod, fdMod, nmMod, by decide +kernel, Or.inl ⟨rfl, Or.inl (xin (List.mem_of_getElem? (i := 860) (by decide +kernel)) rfl)⟩, Or.inl rfl⟩
theorem fg_Mod_95 : xF "PairedWordsModel" 95 10 38 := ⟨RMod, TMod, 42, "PairedWordsModel", "", rfl, by decide, lyMod, Or.inl (xin (List.mem_of_getElem? (i := 862) (by decide +kernel)) rfl), Or.inl rfl⟩
theorem fg_Mod_98 : xF "PairedWordsModel" 98 10 39 := ⟨RMod, TMod, 42, "PairedWordsModel", "", rfl, by decide, lyMod, Or.inl (xin (List.mem_of_getElem? (i := 863) (by decide +kernel)) rfl), Or.inl rfl⟩
theorem fg_Mod_101 : xF "PairedWordsModel" 101 10 40 := ⟨RMod, TMod, 42, "PairedWordsModel", "", rfl, by decide, lyMod, Or.inl (xin (List.mem_of_getElem? (i := 864) (by decide +kernel)) rfl), Or.inl rfl⟩
theorem fg_Mod_153 : xF "PairedWordsModel" 153 10 32 := ⟨RMod, TMod, 42, "PairedWordsModel", "", rfl, by decide, lyMod, Or.inl (xin (List.mem_of_getElem? (i := 856) (by decide +kernel)) rfl), Or.inl rfl⟩
theorem fg_Mod_86 : xF "PairedWordsModel" 86 10 33 := ⟨RMod, TMod, 42, "PairedWordsModel", "", rfl, by decide, lyMod, Or.inl (xin (List.mem_of_getElem? (i := 857) (by decide +kernel)) rfl), Or.inl rfl⟩
theorem fg_Mod_156 : xF "PairedWordsModel" 156 10 34 := ⟨RMod, TMod, 42, "PairedWordsModel", "", rfl, by decide, lyMod, Or.inl (xin (List.mem_of_getElem? (i := 858) (by decide +kernel)) rfl), Or.inl rfl⟩
theorem fg_Mod_89 : xF "PairedWordsModel" 89 10 35 := ⟨RMod, TMod, 42, "PairedWordsModel", "", rfl, by decide, lyMod, Or.inl (xin (List.mem_of_getElem? (i := 859) (by decide +kernel)) rfl), Or.inl rfl⟩
theorem ip_Mod_159 : xPi "PairedWordsModel" 159 mMod_mayCome := ⟨Or.inl (xin (List.mem_of_getElem? (i := 1016) (by decide +kernel)) rfl), xin (List.mem_of_getElem? (i := 1018) (by decide +kernel)) rfl, xin (List.mem_of_getElem? (i := 1017) (by decide +kernel)) rfl, ⟨by decide, by decide⟩, Or.inr ⟨42, xin (List.mem_of_getElem? (i := 819) (by decide +kernel)) rfl⟩⟩
theorem fp_Mod_153 (nm : String) : xFw "PairedWordsModel" nm 153 10 32 (.int) := ⟨RMod, TMod, 42, "PairedWordsModel", "", rfl, by decide, lyMod, fdMod, nmMod, by decide +kernel, Or.inl ⟨rfl, Or.inl (xin (List.mem_of_getElem? (i := 856) (by decide +kernel)) rfl)⟩, Or.inl rfl⟩
theorem fp_Mod_156 (nm : String) : xFw "PairedWordsModel" nm 156 10 34 (.int) := ⟨RMod, TMod, 42, "PairedWordsModel", "", rfl, by decide, lyMod, fdMod, nmMod, by decide +kernel, Or.inl ⟨rfl, Or.inl (xin (List.mem_of_getElem? (i := 858) (by decide +kernel)) rfl)⟩, Or.inl rfl⟩
theorem ip_Mod_163 : xPi "PairedWordsModel" 163 mMod_begin := ⟨Or.inl (xin (List.mem_of_getElem? (i := 1008) (by decide +kernel)) rfl), xin (List.mem_of_getElem? (i := 1010) (by decide +kernel)) rfl, xin (List.mem_of_getElem? (i := 1009) (by decide +kernel)) rfl, ⟨by decide, by decide⟩, Or.inr ⟨42, xin (List.mem_of_getElem? (i := 819) (by decide +kernel)) rfl⟩⟩
theorem ip_Mod_166 : xPi "PairedWordsModel" 166 mMod_nextAlignment := ⟨Or.inl (xin (List.mem_of_getElem? (i := 1012) (by decide +kernel)) rfl), xin (List.mem_of_getElem? (i := 1014) (by decide +kernel)) rfl, xin (List.mem_of_getElem? (i := 1013) (by decide +kernel)) rfl, ⟨by decide, by decide⟩, Or.inr ⟨42, xin (List.mem_of_getElem? (i := 819) (by decide +kernel)) rfl⟩⟩
theorem ip_Mod_170 : xPi "PairedWordsModel" 170 mMod_keepsAll := ⟨Or.inl (xin (List.mem_of_getElem? (i := 1020) (by decide +kernel)) rfl), xin (List.mem_of_getElem? (i := 1022) (by decide +kernel)) rfl, xin (List.mem_of_getElem? (i := 1021) (by decide +kernel)) rfl, ⟨by decide, by decide⟩, Or.inr ⟨42, xin (List.mem_of_getElem? (i := 819) (by decide +kernel)) rfl⟩⟩
theorem ip_Mod_174 : xPi "PairedWordsModel" 174 mMod_take := ⟨Or.inl (xin (List.mem_of_getElem? (i := 1000) (by decide +kernel)) rfl), xin (List.mem_of_getElem? (i := 1002) (by decide +kernel)) rfl, xin (List.mem_of_getElem? (i := 1001) (by decide +kernel)) rfl, ⟨by decide, by decide⟩, Or.inr ⟨42, xin (List.mem_of_getElem? (i := 819) (by decide +kernel)) rfl⟩⟩
theorem ip_Mod_178 : xPi "PairedWordsModel" 178 mMod_doBelong := ⟨Or.inl (xin (List.mem_of_getElem? (i := 1004) (by decide +kernel)) rfl), xin (List.mem_of_getElem? (i := 1006) (by decide +kernel)) rfl, xin (List.mem_of_getElem? (i := 1005) (by decide +kernel)) rfl, ⟨by decide, by decide⟩, Or.inr ⟨42, xin (List.mem_of_getElem? (i := 819) (by decide +kernel)) rfl⟩⟩
theorem fg_Mod_68 : xF "PairedWordsModel" 68 10 25 := ⟨RMod, TMod, 42, "PairedWordsModel", "", rfl, by decide, lyMod, Or.inl (xin (List.mem_of_getElem? (i := 849) (by decide +kernel)) rfl), Or.inl rfl⟩
theorem fg_Mod_71 : xF "PairedWordsModel" 71 10 26 := ⟨RMod, TMod, 42, "PairedWordsModel", "", rfl, by decide, lyMod, Or.inl (xin (List.mem_of_getElem? (i := 850) (by decide +kernel)) rfl), Or.inl rfl⟩
theorem fg_Mod_74 : xF "PairedWordsModel" 74 10 27 := ⟨RMod, TMod, 42, "PairedWordsModel", "", rfl, by decide, lyMod, Or.inl (xin (List.mem_of_getElem? (i := 851) (by decide +kernel)) rfl), Or.inl rfl⟩
theorem fg_Mod_77 : xF "PairedWordsModel" 77 10 28 := ⟨RMod, TMod, 42, "PairedWordsModel", "", rfl, by decide, lyMod, Or.inl (xin (List.mem_of_getElem? (i := 852) (by decide +kernel)) rfl), Or.inl rfl⟩
theorem fg_Mod_181 : xF "PairedWordsModel" 181 10 24 := ⟨RMod, TMod, 42, "PairedWordsModel", "", rfl, by decide, lyMod, Or.inl (xin (List.mem_of_getElem? (i := 848) (by decide +kernel)) rfl), Or.inl rfl⟩
theorem ip_Mod_184 : xPi "PairedWordsModel" 184 mMod_order := ⟨Or.inl (xin (List.mem_of_getElem? (i := 1060) (by decide +kernel)) rfl), xin (List.mem_of_getElem? (i := 1062) (by decide +kernel)) rfl, xin (List.mem_of_getElem? (i := 1061) (by decide +kernel)) rfl, ⟨by decide, by decide⟩, Or.inr ⟨42, xin (List.mem_of_getElem? (i := 819) (by decide +kernel)) rfl⟩⟩
theorem fp_Mod_181 (nm : String) : xFw "PairedWordsModel" nm 181 10 24 (.int) := ⟨RMod, TMod, 42, "PairedWordsModel", "", rfl, by decide, lyMod, fdMod, nmMod, by decide +kernel, Or.inl ⟨rfl, Or.inl (xin (List.mem_of_getElem? (i := 848) (by decide +kernel)) rfl)⟩, Or.inl rfl⟩
theorem fg_Mod_56 : xF "PairedWordsModel" 56 10 20 := ⟨RMod, TMod, 42, "PairedWordsModel", "", rfl, by decide, lyMod, Or.inl (xin (List.mem_of_getElem? (i := 844) (by decide +kernel)) rfl), Or.inl rfl⟩
theorem fg_Mod_59 : xF "PairedWordsModel" 59 10 21 := ⟨RMod, TMod, 42, "PairedWordsModel", "", rfl, by decide, lyMod, Or.inl (xin (List.mem_of_getElem? (i := 845) (by decide +kernel)) rfl), Or.inl rfl⟩
theorem fg_Mod_62 : xF "PairedWordsModel" 62 10 22 := ⟨RMod, TMod, 42, "PairedWordsModel", "", rfl, by decide, lyMod, Or.inl (xin (List.mem_of_getElem? (i := 846) (by decide +kernel)) rfl), Or.inl rfl⟩
theorem fg_Mod_65 : xF "PairedWordsModel" 65 10 23 := ⟨RMod, TMod, 42, "PairedWordsModel", "", rfl, by decide, lyMod, Or.inl (xin (List.mem_of_getElem? (i := 847) (by decide +kernel)) rfl), Or.inl rfl⟩
theorem ip_Mod_188 : xPi "PairedWordsModel" 188 mMod_put := ⟨Or.inl (xin (List.mem_of_getElem? (i := 1056) (by decide +kernel)) rfl), xin (List.mem_of_getElem? (i := 1058) (by decide +kernel)) rfl, xin (List.mem_of_getElem? (i := 1057) (by decide +kernel)) rfl, ⟨by decide, by decide⟩, Or.inr ⟨42, xin (List.mem_of_getElem? (i := 819) (by decide +kernel)) rfl⟩⟩
theorem ip_Mod_191 : xPi "PairedWordsModel" 191 mMod_finish := ⟨Or.inl (xin (List.mem_of_getElem? (i := 1064) (by decide +kernel)) rfl), xin (List.mem_of_getElem? (i := 1066) (by decide +kernel)) rfl, xin (List.mem_of_getElem? (i := 1065) (by decide +kernel)) rfl, ⟨by decide, by decide⟩, Or.inr ⟨42, xin (List.mem_of_getElem? (i := 819) (by decide +kernel)) rfl⟩⟩
theorem fg_Mod_104 : xF "PairedWordsModel" 104 10 41 := ⟨RMod, TMod, 42, "PairedWordsModel", "", rfl, by decide, lyMod, Or.inl (xin (List.mem_of_getElem? (i := 865) (by decide +kernel)) rfl), Or.inl rfl⟩
theorem ip_Mod_195 : xPi "PairedWordsModel" 195 mMod_isFound := ⟨Or.inl (xin (List.mem_of_getElem? (i := 1072) (by decide +kernel)) rfl), xin (List.mem_of_getElem? (i := 1074) (by decide +kernel)) rfl, xin (List.mem_of_getElem? (i := 1073) (by decide +kernel)) rfl, ⟨by decide, by decide⟩, Or.inr ⟨42, xin (List.mem_of_getElem? (i := 819) (by decide +kernel)) rfl⟩⟩
theorem fg_Mod_118 : xF "PairedWordsModel" 118 10 19 := ⟨RMod, TMod, 42, "PairedWordsModel", "", rfl, by decide, lyMod, Or.inl (xin (List.mem_of_getElem? (i := 843) (by decide +kernel)) rfl), Or.inl rfl⟩
theorem fg_Mod_198 : xF "PairedWordsModel" 198 10 29 := ⟨RMod, TMod, 42, "PairedWordsModel", "", rfl, by decide, lyMod, Or.inl (xin (List.mem_of_getElem? (i := 853) (by decide +kernel)) rfl), Or.inl rfl⟩
theorem fg_Mod_80 : xF "PairedWordsModel" 80 10 30 := ⟨RMod, TMod, 42, "PairedWordsModel", "", rfl, by decide, lyMod, Or.inl (xin (List.mem_of_getElem? (i := 854) (by decide +kernel)) rfl), Or.inl rfl⟩
theorem fg_Mod_83 : xF "PairedWordsModel" 83 10 31 := ⟨RMod, TMod, 42, "PairedWordsModel", "", rfl, by decide, lyMod, Or.inl (xin (List.mem_of_getElem? (i := 855) (by decide +kernel)) rfl), Or.inl rfl⟩
theorem fp_Mod_198 (nm : String) : xFw "PairedWordsModel" nm 198 10 29 (.int) := ⟨RMod, TMod, 42, "PairedWordsModel", "", rfl, by decide, lyMod, fdMod, nmMod, by decide +kernel, Or.inl ⟨rfl, Or.inl (xin (List.mem_of_getElem? (i := 853) (by decide +kernel)) rfl)⟩, Or.inl rfl⟩
theorem ii_Comp_3 : xIi "PairedWords$Comparison" 3 mSear_init := ⟨Or.inl (xin (List.mem_of_getElem? (i := 189) (by decide +kernel)) rfl), xin (List.mem_of_getElem? (i := 190) (by decide +kernel)) rfl, rfl, ⟨by decide, by decide⟩, rfl, rfl, xin (List.mem_of_getElem? (i := 191) (by decide +kernel)) rfl⟩
theorem nw_Comp_9 : xNw "PairedWords$Comparison" 9 0 2 [.null, .int 0] := ⟨RLine, TLine, rfl, lyLine, xin (List.mem_of_getElem? (i := 195) (by decide +kernel)) rfl, xin (List.mem_of_getElem? (i := 116) (by decide +kernel)) rfl, xin (List.mem_of_getElem? (i := 6) (by decide +kernel)) rfl, fun j hj => (by decide +kernel : ∀ j, j < 2 → ∃ t, t ∈ (parseFieldDescriptor (TLine j).2.2.1).toList ∧ defaultValue t = vp_V [.null, .int 0] j) j hj |>.elim fun t h => ⟨t, Option.mem_toList.mp h.1, h.2⟩⟩
theorem ii_Comp_11 : xIi "PairedWords$Comparison" 11 mLine_init := ⟨Or.inl (xin (List.mem_of_getElem? (i := 196) (by decide +kernel)) rfl), xin (List.mem_of_getElem? (i := 118) (by decide +kernel)) rfl, rfl, ⟨by decide, by decide⟩, rfl, rfl, xin (List.mem_of_getElem? (i := 119) (by decide +kernel)) rfl⟩
theorem fp_Comp_14 : xFw "PairedWords$Comparison" "<init>" 14 6 5 (.object "PairedWords$Line") := ⟨RComp, TComp, 9, "PairedWords$Comparison", "", rfl, by decide, lyComp, fdComp, nmComp, by decide +kernel, Or.inr ⟨rfl, rfl, rfl, xin (List.mem_of_getElem? (i := 197) (by decide +kernel)) rfl⟩, Or.inl rfl⟩
theorem fg_Comp_14 : xF "PairedWords$Comparison" 14 6 5 := ⟨RComp, TComp, 9, "PairedWords$Comparison", "", rfl, by decide, lyComp, Or.inl (xin (List.mem_of_getElem? (i := 197) (by decide +kernel)) rfl), Or.inl rfl⟩
theorem iv_Comp_20 : xVi "PairedWords$Comparison" 20 mLine_copy 0 := ⟨RLine, TLine, 2, rfl, Or.inl (xin (List.mem_of_getElem? (i := 296) (by decide +kernel)) rfl), xin (List.mem_of_getElem? (i := 297) (by decide +kernel)) rfl, xin (List.mem_of_getElem? (i := 298) (by decide +kernel)) rfl, ⟨by decide, by decide⟩⟩
theorem fp_Comp_24 (nm : String) : xFw "PairedWords$Comparison" nm 24 6 6 (.boolean) := ⟨RComp, TComp, 9, "PairedWords$Comparison", "", rfl, by decide, lyComp, fdComp, nmComp, by decide +kernel, Or.inl ⟨rfl, Or.inl (xin (List.mem_of_getElem? (i := 198) (by decide +kernel)) rfl)⟩, Or.inl rfl⟩
theorem fp_Comp_28 (nm : String) : xFw "PairedWords$Comparison" nm 28 6 7 (.boolean) := ⟨RComp, TComp, 9, "PairedWords$Comparison", "", rfl, by decide, lyComp, fdComp, nmComp, by decide +kernel, Or.inl ⟨rfl, Or.inl (xin (List.mem_of_getElem? (i := 199) (by decide +kernel)) rfl)⟩, Or.inl rfl⟩
theorem fp_Comp_31 (nm : String) : xFw "PairedWords$Comparison" nm 31 6 8 (.int) := ⟨RComp, TComp, 9, "PairedWords$Comparison", "", rfl, by decide, lyComp, fdComp, nmComp, by decide +kernel, Or.inl ⟨rfl, Or.inl (xin (List.mem_of_getElem? (i := 200) (by decide +kernel)) rfl)⟩, Or.inl rfl⟩
theorem iu_Comp_35_Comp : xUi "PairedWords$Comparison" 35 mSear_goThrough 6 := ⟨RComp, TComp, 9, ⟨"PairedWords$Comparison", "goThrough", "(LPairedWords$Line;)V"⟩, "PairedWords$Search", rfl, xin (List.mem_of_getElem? (i := 313) (by decide +kernel)) rfl, xin (List.mem_of_getElem? (i := 314) (by decide +kernel)) rfl, rfl, Or.inl (xin (List.mem_of_getElem? (i := 315) (by decide +kernel)) rfl), ⟨by decide, by decide⟩, xin (List.mem_of_getElem? (i := 316) (by decide +kernel)) rfl, xin (List.mem_of_getElem? (i := 317) (by decide +kernel)) rfl⟩
theorem fg_Comp_28 : xF "PairedWords$Comparison" 28 6 7 := ⟨RComp, TComp, 9, "PairedWords$Comparison", "", rfl, by decide, lyComp, Or.inl (xin (List.mem_of_getElem? (i := 199) (by decide +kernel)) rfl), Or.inl rfl⟩
theorem fg_Comp_24 : xF "PairedWords$Comparison" 24 6 6 := ⟨RComp, TComp, 9, "PairedWords$Comparison", "", rfl, by decide, lyComp, Or.inl (xin (List.mem_of_getElem? (i := 198) (by decide +kernel)) rfl), Or.inl rfl⟩
theorem fg_Comp_31 : xF "PairedWords$Comparison" 31 6 8 := ⟨RComp, TComp, 9, "PairedWords$Comparison", "", rfl, by decide, lyComp, Or.inl (xin (List.mem_of_getElem? (i := 200) (by decide +kernel)) rfl), Or.inl rfl⟩
theorem iv_Comp_38 : xVi "PairedWords$Comparison" 38 mLine_signAt 0 := ⟨RLine, TLine, 2, rfl, Or.inl (xin (List.mem_of_getElem? (i := 426) (by decide +kernel)) rfl), xin (List.mem_of_getElem? (i := 383) (by decide +kernel)) rfl, xin (List.mem_of_getElem? (i := 384) (by decide +kernel)) rfl, ⟨by decide, by decide⟩⟩
theorem iv_Comp_42 : xVi "PairedWords$Comparison" 42 mLine_size 0 := ⟨RLine, TLine, 2, rfl, Or.inl (xin (List.mem_of_getElem? (i := 339) (by decide +kernel)) rfl), xin (List.mem_of_getElem? (i := 281) (by decide +kernel)) rfl, xin (List.mem_of_getElem? (i := 282) (by decide +kernel)) rfl, ⟨by decide, by decide⟩⟩
theorem fp_Lexi_9 : xFw "PairedWords$Lexicon" "<init>" 9 8 0 (.array .int) := ⟨RLexi, TLexi, 6, "PairedWords$Lexicon", "", rfl, by decide, lyLexi, fdLexi, nmLexi, by decide +kernel, Or.inr ⟨rfl, rfl, rfl, xin (List.mem_of_getElem? (i := 128) (by decide +kernel)) rfl⟩, Or.inl rfl⟩
theorem fp_Lexi_15 : xFw "PairedWords$Lexicon" "<init>" 15 8 1 (.array .int) := ⟨RLexi, TLexi, 6, "PairedWords$Lexicon", "", rfl, by decide, lyLexi, fdLexi, nmLexi, by decide +kernel, Or.inr ⟨rfl, rfl, rfl, xin (List.mem_of_getElem? (i := 129) (by decide +kernel)) rfl⟩, Or.inl rfl⟩
theorem fp_Lexi_20 : xFw "PairedWords$Lexicon" "<init>" 20 8 2 (.array (.object "PairedWords$Line")) := ⟨RLexi, TLexi, 6, "PairedWords$Lexicon", "", rfl, by decide, lyLexi, fdLexi, nmLexi, by decide +kernel, Or.inr ⟨rfl, rfl, rfl, xin (List.mem_of_getElem? (i := 130) (by decide +kernel)) rfl⟩, Or.inl rfl⟩
theorem fp_Lexi_24 : xFw "PairedWords$Lexicon" "<init>" 24 8 3 (.array .int) := ⟨RLexi, TLexi, 6, "PairedWords$Lexicon", "", rfl, by decide, lyLexi, fdLexi, nmLexi, by decide +kernel, Or.inr ⟨rfl, rfl, rfl, xin (List.mem_of_getElem? (i := 131) (by decide +kernel)) rfl⟩, Or.inl rfl⟩
theorem nw_Lexi_18 : xNw "PairedWords$Lexicon" 18 0 2 [.null, .int 0] := ⟨RLine, TLine, rfl, lyLine, xin (List.mem_of_getElem? (i := 114) (by decide +kernel)) rfl, xin (List.mem_of_getElem? (i := 116) (by decide +kernel)) rfl, xin (List.mem_of_getElem? (i := 6) (by decide +kernel)) rfl, fun j hj => (by decide +kernel : ∀ j, j < 2 → ∃ t, t ∈ (parseFieldDescriptor (TLine j).2.2.1).toList ∧ defaultValue t = vp_V [.null, .int 0] j) j hj |>.elim fun t h => ⟨t, Option.mem_toList.mp h.1, h.2⟩⟩
theorem ii_Lexi_27 : xIi "PairedWords$Lexicon" 27 mLine_init := ⟨Or.inl (xin (List.mem_of_getElem? (i := 117) (by decide +kernel)) rfl), xin (List.mem_of_getElem? (i := 118) (by decide +kernel)) rfl, rfl, ⟨by decide, by decide⟩, rfl, rfl, xin (List.mem_of_getElem? (i := 119) (by decide +kernel)) rfl⟩
theorem fp_Lexi_30 : xFw "PairedWords$Lexicon" "<init>" 30 8 4 (.object "PairedWords$Line") := ⟨RLexi, TLexi, 6, "PairedWords$Lexicon", "", rfl, by decide, lyLexi, fdLexi, nmLexi, by decide +kernel, Or.inr ⟨rfl, rfl, rfl, xin (List.mem_of_getElem? (i := 132) (by decide +kernel)) rfl⟩, Or.inl rfl⟩
theorem fg_Lexi_20 : xF "PairedWords$Lexicon" 20 8 2 := ⟨RLexi, TLexi, 6, "PairedWords$Lexicon", "", rfl, by decide, lyLexi, Or.inl (xin (List.mem_of_getElem? (i := 130) (by decide +kernel)) rfl), Or.inl rfl⟩
theorem fg_Lexi_34 : xF "PairedWords$Lexicon" 34 8 5 := ⟨RLexi, TLexi, 6, "PairedWords$Lexicon", "", rfl, by decide, lyLexi, Or.inl (xin (List.mem_of_getElem? (i := 133) (by decide +kernel)) rfl), Or.inl rfl⟩
theorem fg_Lexi_9 : xF "PairedWords$Lexicon" 9 8 0 := ⟨RLexi, TLexi, 6, "PairedWords$Lexicon", "", rfl, by decide, lyLexi, Or.inl (xin (List.mem_of_getElem? (i := 128) (by decide +kernel)) rfl), Or.inl rfl⟩
theorem fg_Lexi_15 : xF "PairedWords$Lexicon" 15 8 1 := ⟨RLexi, TLexi, 6, "PairedWords$Lexicon", "", rfl, by decide, lyLexi, Or.inl (xin (List.mem_of_getElem? (i := 129) (by decide +kernel)) rfl), Or.inl rfl⟩
theorem fp_Lexi_34 (nm : String) : xFw "PairedWords$Lexicon" nm 34 8 5 (.int) := ⟨RLexi, TLexi, 6, "PairedWords$Lexicon", "", rfl, by decide, lyLexi, fdLexi, nmLexi, by decide +kernel, Or.inl ⟨rfl, Or.inl (xin (List.mem_of_getElem? (i := 133) (by decide +kernel)) rfl)⟩, Or.inl rfl⟩
theorem iv_Lexi_38 : xVi "PairedWords$Lexicon" 38 mResu_isTooMany 3 := ⟨RResu, TResu, 3, rfl, Or.inl (xin (List.mem_of_getElem? (i := 736) (by decide +kernel)) rfl), xin (List.mem_of_getElem? (i := 404) (by decide +kernel)) rfl, xin (List.mem_of_getElem? (i := 405) (by decide +kernel)) rfl, ⟨by decide, by decide⟩⟩
theorem fg_Lexi_30 : xF "PairedWords$Lexicon" 30 8 4 := ⟨RLexi, TLexi, 6, "PairedWords$Lexicon", "", rfl, by decide, lyLexi, Or.inl (xin (List.mem_of_getElem? (i := 132) (by decide +kernel)) rfl), Or.inl rfl⟩
theorem iv_Lexi_44 : xVi "PairedWords$Lexicon" 44 mLine_hasRoomFor 0 := ⟨RLine, TLine, 2, rfl, Or.inl (xin (List.mem_of_getElem? (i := 737) (by decide +kernel)) rfl), xin (List.mem_of_getElem? (i := 738) (by decide +kernel)) rfl, xin (List.mem_of_getElem? (i := 739) (by decide +kernel)) rfl, ⟨by decide, by decide⟩⟩
theorem ip_Lexi_48 : xPi "PairedWords$Lexicon" 48 mLexi_put := ⟨Or.inl (xin (List.mem_of_getElem? (i := 741) (by decide +kernel)) rfl), xin (List.mem_of_getElem? (i := 743) (by decide +kernel)) rfl, xin (List.mem_of_getElem? (i := 742) (by decide +kernel)) rfl, ⟨by decide, by decide⟩, Or.inr ⟨6, xin (List.mem_of_getElem? (i := 109) (by decide +kernel)) rfl⟩⟩
theorem iv_Lexi_52 : xVi "PairedWords$Lexicon" 52 mLine_size 0 := ⟨RLine, TLine, 2, rfl, Or.inl (xin (List.mem_of_getElem? (i := 745) (by decide +kernel)) rfl), xin (List.mem_of_getElem? (i := 281) (by decide +kernel)) rfl, xin (List.mem_of_getElem? (i := 282) (by decide +kernel)) rfl, ⟨by decide, by decide⟩⟩
theorem fg_Lexi_24 : xF "PairedWords$Lexicon" 24 8 3 := ⟨RLexi, TLexi, 6, "PairedWords$Lexicon", "", rfl, by decide, lyLexi, Or.inl (xin (List.mem_of_getElem? (i := 131) (by decide +kernel)) rfl), Or.inl rfl⟩
theorem iv_Lexi_56 : xVi "PairedWords$Lexicon" 56 mLine_addAll 0 := ⟨RLine, TLine, 2, rfl, Or.inl (xin (List.mem_of_getElem? (i := 746) (by decide +kernel)) rfl), xin (List.mem_of_getElem? (i := 302) (by decide +kernel)) rfl, xin (List.mem_of_getElem? (i := 303) (by decide +kernel)) rfl, ⟨by decide, by decide⟩⟩
theorem ip_Lexi_60 : xPi "PairedWords$Lexicon" 60 mLexi_goOn := ⟨Or.inl (xin (List.mem_of_getElem? (i := 747) (by decide +kernel)) rfl), xin (List.mem_of_getElem? (i := 734) (by decide +kernel)) rfl, xin (List.mem_of_getElem? (i := 733) (by decide +kernel)) rfl, ⟨by decide, by decide⟩, Or.inr ⟨6, xin (List.mem_of_getElem? (i := 109) (by decide +kernel)) rfl⟩⟩
theorem iv_Lexi_63 : xVi "PairedWords$Lexicon" 63 mComp_finds 6 := ⟨RComp, TComp, 9, rfl, Or.inl (xin (List.mem_of_getElem? (i := 748) (by decide +kernel)) rfl), xin (List.mem_of_getElem? (i := 293) (by decide +kernel)) rfl, xin (List.mem_of_getElem? (i := 294) (by decide +kernel)) rfl, ⟨by decide, by decide⟩⟩
theorem is_Lexi_69 : xSi "PairedWords$Lexicon" 69 mResu_keyOf := ⟨Or.inl (xin (List.mem_of_getElem? (i := 749) (by decide +kernel)) rfl), xin (List.mem_of_getElem? (i := 379) (by decide +kernel)) rfl, ⟨by decide, by decide⟩⟩
theorem iv_Lexi_73 : xVi "PairedWords$Lexicon" 73 mResu_add 3 := ⟨RResu, TResu, 3, rfl, Or.inl (xin (List.mem_of_getElem? (i := 750) (by decide +kernel)) rfl), xin (List.mem_of_getElem? (i := 387) (by decide +kernel)) rfl, xin (List.mem_of_getElem? (i := 388) (by decide +kernel)) rfl, ⟨by decide, by decide⟩⟩
theorem iv_Lexi_77 : xVi "PairedWords$Lexicon" 77 mLine_cutTo 0 := ⟨RLine, TLine, 2, rfl, Or.inl (xin (List.mem_of_getElem? (i := 751) (by decide +kernel)) rfl), xin (List.mem_of_getElem? (i := 285) (by decide +kernel)) rfl, xin (List.mem_of_getElem? (i := 286) (by decide +kernel)) rfl, ⟨by decide, by decide⟩⟩
theorem fp_Line_9 : xFw "PairedWords$Line" "<init>" 9 0 0 (.array .int) := ⟨RLine, TLine, 2, "PairedWords$Line", "", rfl, by decide, lyLine, fdLine, nmLine, by decide +kernel, Or.inr ⟨rfl, rfl, rfl, xin (List.mem_of_getElem? (i := 121) (by decide +kernel)) rfl⟩, Or.inl rfl⟩
theorem fg_Line_15 : xF "PairedWords$Line" 15 0 1 := ⟨RLine, TLine, 2, "PairedWords$Line", "", rfl, by decide, lyLine, Or.inl (xin (List.mem_of_getElem? (i := 122) (by decide +kernel)) rfl), Or.inl rfl⟩
theorem fg_Line_9 : xF "PairedWords$Line" 9 0 0 := ⟨RLine, TLine, 2, "PairedWords$Line", "", rfl, by decide, lyLine, Or.inl (xin (List.mem_of_getElem? (i := 121) (by decide +kernel)) rfl), Or.inl rfl⟩
theorem iv_Line_19 : xVi "PairedWords$Line" 19 mLine_isFull 0 := ⟨RLine, TLine, 2, rfl, Or.inl (xin (List.mem_of_getElem? (i := 309) (by decide +kernel)) rfl), xin (List.mem_of_getElem? (i := 310) (by decide +kernel)) rfl, xin (List.mem_of_getElem? (i := 311) (by decide +kernel)) rfl, ⟨by decide, by decide⟩⟩
theorem fp_Line_15 (nm : String) : xFw "PairedWords$Line" nm 15 0 1 (.int) := ⟨RLine, TLine, 2, "PairedWords$Line", "", rfl, by decide, lyLine, fdLine, nmLine, by decide +kernel, Or.inl ⟨rfl, Or.inl (xin (List.mem_of_getElem? (i := 122) (by decide +kernel)) rfl)⟩, Or.inl rfl⟩
theorem iv_Line_23 : xVi "PairedWords$Line" 23 mLine_add 0 := ⟨RLine, TLine, 2, rfl, Or.inl (xin (List.mem_of_getElem? (i := 305) (by decide +kernel)) rfl), xin (List.mem_of_getElem? (i := 306) (by decide +kernel)) rfl, xin (List.mem_of_getElem? (i := 307) (by decide +kernel)) rfl, ⟨by decide, by decide⟩⟩
theorem iv_Line_27 : xVi "PairedWords$Line" 27 mLine_cutTo 0 := ⟨RLine, TLine, 2, rfl, Or.inl (xin (List.mem_of_getElem? (i := 300) (by decide +kernel)) rfl), xin (List.mem_of_getElem? (i := 285) (by decide +kernel)) rfl, xin (List.mem_of_getElem? (i := 286) (by decide +kernel)) rfl, ⟨by decide, by decide⟩⟩
theorem iv_Line_31 : xVi "PairedWords$Line" 31 mLine_addAll 0 := ⟨RLine, TLine, 2, rfl, Or.inl (xin (List.mem_of_getElem? (i := 301) (by decide +kernel)) rfl), xin (List.mem_of_getElem? (i := 302) (by decide +kernel)) rfl, xin (List.mem_of_getElem? (i := 303) (by decide +kernel)) rfl, ⟨by decide, by decide⟩⟩
theorem fp_Pairs_9 : xFw "PairedWords$Pairs" "<init>" 9 1 0 (.array .int) := ⟨RPairs, TPairs, 3, "PairedWords$Pairs", "", rfl, by decide, lyPairs, fdPairs, nmPairs, by decide +kernel, Or.inr ⟨rfl, rfl, rfl, xin (List.mem_of_getElem? (i := 34) (by decide +kernel)) rfl⟩, Or.inl rfl⟩
theorem fp_Pairs_15 : xFw "PairedWords$Pairs" "<init>" 15 1 1 (.array .int) := ⟨RPairs, TPairs, 3, "PairedWords$Pairs", "", rfl, by decide, lyPairs, fdPairs, nmPairs, by decide +kernel, Or.inr ⟨rfl, rfl, rfl, xin (List.mem_of_getElem? (i := 35) (by decide +kernel)) rfl⟩, Or.inl rfl⟩
theorem fg_Pairs_18 : xF "PairedWords$Pairs" 18 1 2 := ⟨RPairs, TPairs, 3, "PairedWords$Pairs", "", rfl, by decide, lyPairs, Or.inl (xin (List.mem_of_getElem? (i := 36) (by decide +kernel)) rfl), Or.inl rfl⟩
theorem fg_Pairs_9 : xF "PairedWords$Pairs" 9 1 0 := ⟨RPairs, TPairs, 3, "PairedWords$Pairs", "", rfl, by decide, lyPairs, Or.inl (xin (List.mem_of_getElem? (i := 34) (by decide +kernel)) rfl), Or.inl rfl⟩
theorem fg_Pairs_15 : xF "PairedWords$Pairs" 15 1 1 := ⟨RPairs, TPairs, 3, "PairedWords$Pairs", "", rfl, by decide, lyPairs, Or.inl (xin (List.mem_of_getElem? (i := 35) (by decide +kernel)) rfl), Or.inl rfl⟩
theorem fp_Pairs_18 (nm : String) : xFw "PairedWords$Pairs" nm 18 1 2 (.int) := ⟨RPairs, TPairs, 3, "PairedWords$Pairs", "", rfl, by decide, lyPairs, fdPairs, nmPairs, by decide +kernel, Or.inl ⟨rfl, Or.inl (xin (List.mem_of_getElem? (i := 36) (by decide +kernel)) rfl)⟩, Or.inl rfl⟩
theorem fp_Patt_11 : xFw "PairedWords$Patterns" "<init>" 11 2 1 (.array .int) := ⟨RPatt, TPatt, 6, "PairedWords$Patterns", "", rfl, by decide, lyPatt, fdPatt, nmPatt, by decide +kernel, Or.inr ⟨rfl, rfl, rfl, xin (List.mem_of_getElem? (i := 58) (by decide +kernel)) rfl⟩, Or.inl rfl⟩
theorem fp_Patt_15 : xFw "PairedWords$Patterns" "<init>" 15 2 2 (.array .int) := ⟨RPatt, TPatt, 6, "PairedWords$Patterns", "", rfl, by decide, lyPatt, fdPatt, nmPatt, by decide +kernel, Or.inr ⟨rfl, rfl, rfl, xin (List.mem_of_getElem? (i := 59) (by decide +kernel)) rfl⟩, Or.inl rfl⟩
theorem fp_Patt_18 : xFw "PairedWords$Patterns" "<init>" 18 2 0 (.boolean) := ⟨RPatt, TPatt, 6, "PairedWords$Patterns", "", rfl, by decide, lyPatt, fdPatt, nmPatt, by decide +kernel, Or.inr ⟨rfl, rfl, rfl, xin (List.mem_of_getElem? (i := 57) (by decide +kernel)) rfl⟩, Or.inl rfl⟩
theorem fg_Patt_22 : xF "PairedWords$Patterns" 22 2 4 := ⟨RPatt, TPatt, 6, "PairedWords$Patterns", "", rfl, by decide, lyPatt, Or.inl (xin (List.mem_of_getElem? (i := 61) (by decide +kernel)) rfl), Or.inl rfl⟩
theorem is_Patt_26 : xSi "PairedWords$Patterns" 26 mPatt_goalOf := ⟨Or.inl (xin (List.mem_of_getElem? (i := 629) (by decide +kernel)) rfl), xin (List.mem_of_getElem? (i := 630) (by decide +kernel)) rfl, ⟨by decide, by decide⟩⟩
theorem fp_Patt_22 (nm : String) : xFw "PairedWords$Patterns" nm 22 2 4 (.int) := ⟨RPatt, TPatt, 6, "PairedWords$Patterns", "", rfl, by decide, lyPatt, fdPatt, nmPatt, by decide +kernel, Or.inl ⟨rfl, Or.inl (xin (List.mem_of_getElem? (i := 61) (by decide +kernel)) rfl)⟩, Or.inl rfl⟩
theorem fg_Patt_30 : xF "PairedWords$Patterns" 30 2 5 := ⟨RPatt, TPatt, 6, "PairedWords$Patterns", "", rfl, by decide, lyPatt, Or.inl (xin (List.mem_of_getElem? (i := 62) (by decide +kernel)) rfl), Or.inl rfl⟩
theorem fp_Patt_30 (nm : String) : xFw "PairedWords$Patterns" nm 30 2 5 (.int) := ⟨RPatt, TPatt, 6, "PairedWords$Patterns", "", rfl, by decide, lyPatt, fdPatt, nmPatt, by decide +kernel, Or.inl ⟨rfl, Or.inl (xin (List.mem_of_getElem? (i := 62) (by decide +kernel)) rfl)⟩, Or.inl rfl⟩
theorem fg_Patt_11 : xF "PairedWords$Patterns" 11 2 1 := ⟨RPatt, TPatt, 6, "PairedWords$Patterns", "", rfl, by decide, lyPatt, Or.inl (xin (List.mem_of_getElem? (i := 58) (by decide +kernel)) rfl), Or.inl rfl⟩
theorem is_Patt_33 : xSi "PairedWords$Patterns" 33 mPatt_lowered := ⟨Or.inl (xin (List.mem_of_getElem? (i := 652) (by decide +kernel)) rfl), xin (List.mem_of_getElem? (i := 653) (by decide +kernel)) rfl, ⟨by decide, by decide⟩⟩
theorem fg_Patt_18 : xF "PairedWords$Patterns" 18 2 0 := ⟨RPatt, TPatt, 6, "PairedWords$Patterns", "", rfl, by decide, lyPatt, Or.inl (xin (List.mem_of_getElem? (i := 57) (by decide +kernel)) rfl), Or.inl rfl⟩
theorem ip_Patt_37 : xPi "PairedWords$Patterns" 37 mPatt_lowerElements := ⟨Or.inl (xin (List.mem_of_getElem? (i := 655) (by decide +kernel)) rfl), xin (List.mem_of_getElem? (i := 657) (by decide +kernel)) rfl, xin (List.mem_of_getElem? (i := 656) (by decide +kernel)) rfl, ⟨by decide, by decide⟩, Or.inr ⟨6, xin (List.mem_of_getElem? (i := 52) (by decide +kernel)) rfl⟩⟩
theorem fg_Patt_15 : xF "PairedWords$Patterns" 15 2 2 := ⟨RPatt, TPatt, 6, "PairedWords$Patterns", "", rfl, by decide, lyPatt, Or.inl (xin (List.mem_of_getElem? (i := 59) (by decide +kernel)) rfl), Or.inl rfl⟩
theorem fg_Patt_41 : xF "PairedWords$Patterns" 41 2 3 := ⟨RPatt, TPatt, 6, "PairedWords$Patterns", "", rfl, by decide, lyPatt, Or.inl (xin (List.mem_of_getElem? (i := 60) (by decide +kernel)) rfl), Or.inl rfl⟩
theorem fp_Patt_41 (nm : String) : xFw "PairedWords$Patterns" nm 41 2 3 (.int) := ⟨RPatt, TPatt, 6, "PairedWords$Patterns", "", rfl, by decide, lyPatt, fdPatt, nmPatt, by decide +kernel, Or.inl ⟨rfl, Or.inl (xin (List.mem_of_getElem? (i := 60) (by decide +kernel)) rfl)⟩, Or.inl rfl⟩
theorem ip_Patt_44 : xPi "PairedWords$Patterns" 44 mPatt_skipStarred := ⟨Or.inl (xin (List.mem_of_getElem? (i := 324) (by decide +kernel)) rfl), xin (List.mem_of_getElem? (i := 326) (by decide +kernel)) rfl, xin (List.mem_of_getElem? (i := 325) (by decide +kernel)) rfl, ⟨by decide, by decide⟩, Or.inr ⟨6, xin (List.mem_of_getElem? (i := 52) (by decide +kernel)) rfl⟩⟩
theorem fp_Resu_9 : xFw "PairedWords$Results" "<init>" 9 3 0 (.array .long) := ⟨RResu, TResu, 3, "PairedWords$Results", "", rfl, by decide, lyResu, fdResu, nmResu, by decide +kernel, Or.inr ⟨rfl, rfl, rfl, xin (List.mem_of_getElem? (i := 173) (by decide +kernel)) rfl⟩, Or.inl rfl⟩
theorem fg_Resu_15 : xF "PairedWords$Results" 15 3 1 := ⟨RResu, TResu, 3, "PairedWords$Results", "", rfl, by decide, lyResu, Or.inl (xin (List.mem_of_getElem? (i := 174) (by decide +kernel)) rfl), Or.inl rfl⟩
theorem fg_Resu_19 : xF "PairedWords$Results" 19 3 2 := ⟨RResu, TResu, 3, "PairedWords$Results", "", rfl, by decide, lyResu, Or.inl (xin (List.mem_of_getElem? (i := 175) (by decide +kernel)) rfl), Or.inl rfl⟩
theorem fp_Resu_15 (nm : String) : xFw "PairedWords$Results" nm 15 3 1 (.int) := ⟨RResu, TResu, 3, "PairedWords$Results", "", rfl, by decide, lyResu, fdResu, nmResu, by decide +kernel, Or.inl ⟨rfl, Or.inl (xin (List.mem_of_getElem? (i := 174) (by decide +kernel)) rfl)⟩, Or.inl rfl⟩
theorem fp_Resu_19 (nm : String) : xFw "PairedWords$Results" nm 19 3 2 (.boolean) := ⟨RResu, TResu, 3, "PairedWords$Results", "", rfl, by decide, lyResu, fdResu, nmResu, by decide +kernel, Or.inl ⟨rfl, Or.inl (xin (List.mem_of_getElem? (i := 175) (by decide +kernel)) rfl)⟩, Or.inl rfl⟩
theorem fg_Resu_9 : xF "PairedWords$Results" 9 3 0 := ⟨RResu, TResu, 3, "PairedWords$Results", "", rfl, by decide, lyResu, Or.inl (xin (List.mem_of_getElem? (i := 173) (by decide +kernel)) rfl), Or.inl rfl⟩
theorem iv_Resu_29 : xVi "PairedWords$Results" 29 mLine_size 0 := ⟨RLine, TLine, 2, rfl, Or.inl (xin (List.mem_of_getElem? (i := 381) (by decide +kernel)) rfl), xin (List.mem_of_getElem? (i := 281) (by decide +kernel)) rfl, xin (List.mem_of_getElem? (i := 282) (by decide +kernel)) rfl, ⟨by decide, by decide⟩⟩
theorem iv_Resu_35 : xVi "PairedWords$Results" 35 mLine_signAt 0 := ⟨RLine, TLine, 2, rfl, Or.inl (xin (List.mem_of_getElem? (i := 382) (by decide +kernel)) rfl), xin (List.mem_of_getElem? (i := 383) (by decide +kernel)) rfl, xin (List.mem_of_getElem? (i := 384) (by decide +kernel)) rfl, ⟨by decide, by decide⟩⟩
theorem ip_Resu_39 : xPi "PairedWords$Results" 39 mResu_digitOf := ⟨Or.inl (xin (List.mem_of_getElem? (i := 780) (by decide +kernel)) rfl), xin (List.mem_of_getElem? (i := 782) (by decide +kernel)) rfl, xin (List.mem_of_getElem? (i := 781) (by decide +kernel)) rfl, ⟨by decide, by decide⟩, Or.inr ⟨3, xin (List.mem_of_getElem? (i := 168) (by decide +kernel)) rfl⟩⟩
theorem nw_Rule_9 : xNw "PairedWords$Rules" 9 2 6 [.int 0, .null, .null, .int 0, .int 0, .int 0] := ⟨RPatt, TPatt, rfl, lyPatt, xin (List.mem_of_getElem? (i := 51) (by decide +kernel)) rfl, xin (List.mem_of_getElem? (i := 52) (by decide +kernel)) rfl, xin (List.mem_of_getElem? (i := 4) (by decide +kernel)) rfl, fun j hj => (by decide +kernel : ∀ j, j < 6 → ∃ t, t ∈ (parseFieldDescriptor (TPatt j).2.2.1).toList ∧ defaultValue t = vp_V [.int 0, .null, .null, .int 0, .int 0, .int 0] j) j hj |>.elim fun t h => ⟨t, Option.mem_toList.mp h.1, h.2⟩⟩
theorem ii_Rule_11 : xIi "PairedWords$Rules" 11 mPatt_init := ⟨Or.inl (xin (List.mem_of_getElem? (i := 53) (by decide +kernel)) rfl), xin (List.mem_of_getElem? (i := 54) (by decide +kernel)) rfl, rfl, ⟨by decide, by decide⟩, rfl, rfl, xin (List.mem_of_getElem? (i := 55) (by decide +kernel)) rfl⟩
theorem fp_Rule_14 : xFw "PairedWords$Rules" "<init>" 14 4 0 (.object "PairedWords$Patterns") := ⟨RRule, TRule, 9, "PairedWords$Rules", "", rfl, by decide, lyRule, fdRule, nmRule, by decide +kernel, Or.inr ⟨rfl, rfl, rfl, xin (List.mem_of_getElem? (i := 76) (by decide +kernel)) rfl⟩, Or.inl rfl⟩
theorem fp_Rule_20 : xFw "PairedWords$Rules" "<init>" 20 4 1 (.object "PairedWords$Patterns") := ⟨RRule, TRule, 9, "PairedWords$Rules", "", rfl, by decide, lyRule, fdRule, nmRule, by decide +kernel, Or.inr ⟨rfl, rfl, rfl, xin (List.mem_of_getElem? (i := 79) (by decide +kernel)) rfl⟩, Or.inl rfl⟩
theorem fp_Rule_23 : xFw "PairedWords$Rules" "<init>" 23 4 2 (.array .int) := ⟨RRule, TRule, 9, "PairedWords$Rules", "", rfl, by decide, lyRule, fdRule, nmRule, by decide +kernel, Or.inr ⟨rfl, rfl, rfl, xin (List.mem_of_getElem? (i := 82) (by decide +kernel)) rfl⟩, Or.inl rfl⟩
theorem fp_Rule_27 : xFw "PairedWords$Rules" "<init>" 27 4 3 (.array .int) := ⟨RRule, TRule, 9, "PairedWords$Rules", "", rfl, by decide, lyRule, fdRule, nmRule, by decide +kernel, Or.inr ⟨rfl, rfl, rfl, xin (List.mem_of_getElem? (i := 83) (by decide +kernel)) rfl⟩, Or.inl rfl⟩
theorem fp_Rule_30 : xFw "PairedWords$Rules" "<init>" 30 4 4 (.array .int) := ⟨RRule, TRule, 9, "PairedWords$Rules", "", rfl, by decide, lyRule, fdRule, nmRule, by decide +kernel, Or.inr ⟨rfl, rfl, rfl, xin (List.mem_of_getElem? (i := 84) (by decide +kernel)) rfl⟩, Or.inl rfl⟩
theorem fp_Rule_33 : xFw "PairedWords$Rules" "<init>" 33 4 5 (.array .int) := ⟨RRule, TRule, 9, "PairedWords$Rules", "", rfl, by decide, lyRule, fdRule, nmRule, by decide +kernel, Or.inr ⟨rfl, rfl, rfl, xin (List.mem_of_getElem? (i := 85) (by decide +kernel)) rfl⟩, Or.inl rfl⟩
theorem fp_Rule_36 : xFw "PairedWords$Rules" "<init>" 36 4 6 (.array .int) := ⟨RRule, TRule, 9, "PairedWords$Rules", "", rfl, by decide, lyRule, fdRule, nmRule, by decide +kernel, Or.inr ⟨rfl, rfl, rfl, xin (List.mem_of_getElem? (i := 86) (by decide +kernel)) rfl⟩, Or.inl rfl⟩
theorem fp_Rule_39 : xFw "PairedWords$Rules" "<init>" 39 4 7 (.array .int) := ⟨RRule, TRule, 9, "PairedWords$Rules", "", rfl, by decide, lyRule, fdRule, nmRule, by decide +kernel, Or.inr ⟨rfl, rfl, rfl, xin (List.mem_of_getElem? (i := 87) (by decide +kernel)) rfl⟩, Or.inl rfl⟩
theorem fg_Rule_42 : xF "PairedWords$Rules" 42 4 8 := ⟨RRule, TRule, 9, "PairedWords$Rules", "", rfl, by decide, lyRule, Or.inl (xin (List.mem_of_getElem? (i := 88) (by decide +kernel)) rfl), Or.inl rfl⟩
theorem fg_Rule_23 : xF "PairedWords$Rules" 23 4 2 := ⟨RRule, TRule, 9, "PairedWords$Rules", "", rfl, by decide, lyRule, Or.inl (xin (List.mem_of_getElem? (i := 82) (by decide +kernel)) rfl), Or.inl rfl⟩
theorem fg_Rule_27 : xF "PairedWords$Rules" 27 4 3 := ⟨RRule, TRule, 9, "PairedWords$Rules", "", rfl, by decide, lyRule, Or.inl (xin (List.mem_of_getElem? (i := 83) (by decide +kernel)) rfl), Or.inl rfl⟩
theorem fp_Rule_42 (nm : String) : xFw "PairedWords$Rules" nm 42 4 8 (.int) := ⟨RRule, TRule, 9, "PairedWords$Rules", "", rfl, by decide, lyRule, fdRule, nmRule, by decide +kernel, Or.inl ⟨rfl, Or.inl (xin (List.mem_of_getElem? (i := 88) (by decide +kernel)) rfl)⟩, Or.inl rfl⟩
theorem fg_Rule_30 : xF "PairedWords$Rules" 30 4 4 := ⟨RRule, TRule, 9, "PairedWords$Rules", "", rfl, by decide, lyRule, Or.inl (xin (List.mem_of_getElem? (i := 84) (by decide +kernel)) rfl), Or.inl rfl⟩
theorem iv_Rule_46 : xVi "PairedWords$Rules" 46 mRule_latestContextOf 4 := ⟨RRule, TRule, 9, rfl, Or.inl (xin (List.mem_of_getElem? (i := 621) (by decide +kernel)) rfl), xin (List.mem_of_getElem? (i := 622) (by decide +kernel)) rfl, xin (List.mem_of_getElem? (i := 623) (by decide +kernel)) rfl, ⟨by decide, by decide⟩⟩
theorem fg_Rule_14 : xF "PairedWords$Rules" 14 4 0 := ⟨RRule, TRule, 9, "PairedWords$Rules", "", rfl, by decide, lyRule, Or.inl (xin (List.mem_of_getElem? (i := 76) (by decide +kernel)) rfl), Or.inl rfl⟩
theorem iv_Rule_50 : xVi "PairedWords$Rules" 50 mPatt_open 2 := ⟨RPatt, TPatt, 6, rfl, Or.inl (xin (List.mem_of_getElem? (i := 625) (by decide +kernel)) rfl), xin (List.mem_of_getElem? (i := 626) (by decide +kernel)) rfl, xin (List.mem_of_getElem? (i := 627) (by decide +kernel)) rfl, ⟨by decide, by decide⟩⟩
theorem fg_Rule_20 : xF "PairedWords$Rules" 20 4 1 := ⟨RRule, TRule, 9, "PairedWords$Rules", "", rfl, by decide, lyRule, Or.inl (xin (List.mem_of_getElem? (i := 79) (by decide +kernel)) rfl), Or.inl rfl⟩
theorem fg_Rule_33 : xF "PairedWords$Rules" 33 4 5 := ⟨RRule, TRule, 9, "PairedWords$Rules", "", rfl, by decide, lyRule, Or.inl (xin (List.mem_of_getElem? (i := 85) (by decide +kernel)) rfl), Or.inl rfl⟩
theorem is_Rule_54 : xSi "PairedWords$Rules" 54 mPatt_goalOf := ⟨Or.inl (xin (List.mem_of_getElem? (i := 632) (by decide +kernel)) rfl), xin (List.mem_of_getElem? (i := 630) (by decide +kernel)) rfl, ⟨by decide, by decide⟩⟩
theorem iv_Rule_57 : xVi "PairedWords$Rules" 57 mPairs_count 1 := ⟨RPairs, TPairs, 3, rfl, Or.inl (xin (List.mem_of_getElem? (i := 578) (by decide +kernel)) rfl), xin (List.mem_of_getElem? (i := 391) (by decide +kernel)) rfl, xin (List.mem_of_getElem? (i := 392) (by decide +kernel)) rfl, ⟨by decide, by decide⟩⟩
theorem fg_Rule_36 : xF "PairedWords$Rules" 36 4 6 := ⟨RRule, TRule, 9, "PairedWords$Rules", "", rfl, by decide, lyRule, Or.inl (xin (List.mem_of_getElem? (i := 86) (by decide +kernel)) rfl), Or.inl rfl⟩
theorem fg_Rule_39 : xF "PairedWords$Rules" 39 4 7 := ⟨RRule, TRule, 9, "PairedWords$Rules", "", rfl, by decide, lyRule, Or.inl (xin (List.mem_of_getElem? (i := 87) (by decide +kernel)) rfl), Or.inl rfl⟩
theorem iv_Rule_62 : xVi "PairedWords$Rules" 62 mPairs_lowerOf 1 := ⟨RPairs, TPairs, 3, rfl, Or.inl (xin (List.mem_of_getElem? (i := 579) (by decide +kernel)) rfl), xin (List.mem_of_getElem? (i := 412) (by decide +kernel)) rfl, xin (List.mem_of_getElem? (i := 413) (by decide +kernel)) rfl, ⟨by decide, by decide⟩⟩
theorem is_Rule_65 : xSi "PairedWords$Rules" 65 mRule_asks := ⟨Or.inl (xin (List.mem_of_getElem? (i := 580) (by decide +kernel)) rfl), xin (List.mem_of_getElem? (i := 581) (by decide +kernel)) rfl, ⟨by decide, by decide⟩⟩
theorem is_Rule_69 : xSi "PairedWords$Rules" 69 mRule_bars := ⟨Or.inl (xin (List.mem_of_getElem? (i := 583) (by decide +kernel)) rfl), xin (List.mem_of_getElem? (i := 584) (by decide +kernel)) rfl, ⟨by decide, by decide⟩⟩
theorem fp_Samp_11 : xFw "PairedWords$Samples" "<init>" 11 5 0 (.array (.object "PairedWords$Line")) := ⟨RSamp, TSamp, 3, "PairedWords$Samples", "", rfl, by decide, lySamp, fdSamp, nmSamp, by decide +kernel, Or.inr ⟨rfl, rfl, rfl, xin (List.mem_of_getElem? (i := 157) (by decide +kernel)) rfl⟩, Or.inl rfl⟩
theorem fp_Samp_17 : xFw "PairedWords$Samples" "<init>" 17 5 1 (.array (.object "PairedWords$Line")) := ⟨RSamp, TSamp, 3, "PairedWords$Samples", "", rfl, by decide, lySamp, fdSamp, nmSamp, by decide +kernel, Or.inr ⟨rfl, rfl, rfl, xin (List.mem_of_getElem? (i := 158) (by decide +kernel)) rfl⟩, Or.inl rfl⟩
theorem fg_Samp_11 : xF "PairedWords$Samples" 11 5 0 := ⟨RSamp, TSamp, 3, "PairedWords$Samples", "", rfl, by decide, lySamp, Or.inl (xin (List.mem_of_getElem? (i := 157) (by decide +kernel)) rfl), Or.inl rfl⟩
theorem nw_Samp_9 : xNw "PairedWords$Samples" 9 0 2 [.null, .int 0] := ⟨RLine, TLine, rfl, lyLine, xin (List.mem_of_getElem? (i := 155) (by decide +kernel)) rfl, xin (List.mem_of_getElem? (i := 116) (by decide +kernel)) rfl, xin (List.mem_of_getElem? (i := 6) (by decide +kernel)) rfl, fun j hj => (by decide +kernel : ∀ j, j < 2 → ∃ t, t ∈ (parseFieldDescriptor (TLine j).2.2.1).toList ∧ defaultValue t = vp_V [.null, .int 0] j) j hj |>.elim fun t h => ⟨t, Option.mem_toList.mp h.1, h.2⟩⟩
theorem ii_Samp_20 : xIi "PairedWords$Samples" 20 mLine_init := ⟨Or.inl (xin (List.mem_of_getElem? (i := 156) (by decide +kernel)) rfl), xin (List.mem_of_getElem? (i := 118) (by decide +kernel)) rfl, rfl, ⟨by decide, by decide⟩, rfl, rfl, xin (List.mem_of_getElem? (i := 119) (by decide +kernel)) rfl⟩
theorem fg_Samp_17 : xF "PairedWords$Samples" 17 5 1 := ⟨RSamp, TSamp, 3, "PairedWords$Samples", "", rfl, by decide, lySamp, Or.inl (xin (List.mem_of_getElem? (i := 158) (by decide +kernel)) rfl), Or.inl rfl⟩
theorem fg_Samp_23 : xF "PairedWords$Samples" 23 5 2 := ⟨RSamp, TSamp, 3, "PairedWords$Samples", "", rfl, by decide, lySamp, Or.inl (xin (List.mem_of_getElem? (i := 159) (by decide +kernel)) rfl), Or.inl rfl⟩
theorem iv_Samp_27 : xVi "PairedWords$Samples" 27 mLine_copy 0 := ⟨RLine, TLine, 2, rfl, Or.inl (xin (List.mem_of_getElem? (i := 817) (by decide +kernel)) rfl), xin (List.mem_of_getElem? (i := 297) (by decide +kernel)) rfl, xin (List.mem_of_getElem? (i := 298) (by decide +kernel)) rfl, ⟨by decide, by decide⟩⟩
theorem fp_Samp_23 (nm : String) : xFw "PairedWords$Samples" nm 23 5 2 (.int) := ⟨RSamp, TSamp, 3, "PairedWords$Samples", "", rfl, by decide, lySamp, fdSamp, nmSamp, by decide +kernel, Or.inl ⟨rfl, Or.inl (xin (List.mem_of_getElem? (i := 159) (by decide +kernel)) rfl)⟩, Or.inl rfl⟩
theorem nw_Sear_9 : xNw "PairedWords$Search" 9 0 2 [.null, .int 0] := ⟨RLine, TLine, rfl, lyLine, xin (List.mem_of_getElem? (i := 193) (by decide +kernel)) rfl, xin (List.mem_of_getElem? (i := 116) (by decide +kernel)) rfl, xin (List.mem_of_getElem? (i := 6) (by decide +kernel)) rfl, fun j hj => (by decide +kernel : ∀ j, j < 2 → ∃ t, t ∈ (parseFieldDescriptor (TLine j).2.2.1).toList ∧ defaultValue t = vp_V [.null, .int 0] j) j hj |>.elim fun t h => ⟨t, Option.mem_toList.mp h.1, h.2⟩⟩
theorem ii_Sear_11 : xIi "PairedWords$Search" 11 mLine_init := ⟨Or.inl (xin (List.mem_of_getElem? (i := 194) (by decide +kernel)) rfl), xin (List.mem_of_getElem? (i := 118) (by decide +kernel)) rfl, rfl, ⟨by decide, by decide⟩, rfl, rfl, xin (List.mem_of_getElem? (i := 119) (by decide +kernel)) rfl⟩
theorem fp_Sear_14_Comp : xFw "PairedWords$Search" "<init>" 14 6 2 (.object "PairedWords$Line") := ⟨RComp, TComp, 9, "PairedWords$Search", "", rfl, by decide, lyComp, fdComp, nmComp, by decide +kernel, Or.inr ⟨rfl, rfl, rfl, xin (List.mem_of_getElem? (i := 203) (by decide +kernel)) rfl⟩, Or.inl rfl⟩
theorem fp_Sear_14_Writ : xFw "PairedWords$Search" "<init>" 14 7 2 (.object "PairedWords$Line") := ⟨RWrit, TWrit, 7, "PairedWords$Search", "", rfl, by decide, lyWrit, fdWrit, nmWrit, by decide +kernel, Or.inr ⟨rfl, rfl, rfl, xin (List.mem_of_getElem? (i := 203) (by decide +kernel)) rfl⟩, Or.inl rfl⟩
theorem fp_Sear_20_Comp : xFw "PairedWords$Search" "<init>" 20 6 3 (.array .int) := ⟨RComp, TComp, 9, "PairedWords$Search", "", rfl, by decide, lyComp, fdComp, nmComp, by decide +kernel, Or.inr ⟨rfl, rfl, rfl, xin (List.mem_of_getElem? (i := 204) (by decide +kernel)) rfl⟩, Or.inl rfl⟩
theorem fp_Sear_20_Writ : xFw "PairedWords$Search" "<init>" 20 7 3 (.array .int) := ⟨RWrit, TWrit, 7, "PairedWords$Search", "", rfl, by decide, lyWrit, fdWrit, nmWrit, by decide +kernel, Or.inr ⟨rfl, rfl, rfl, xin (List.mem_of_getElem? (i := 204) (by decide +kernel)) rfl⟩, Or.inl rfl⟩
theorem fp_Sear_24_Comp : xFw "PairedWords$Search" "<init>" 24 6 4 (.array .int) := ⟨RComp, TComp, 9, "PairedWords$Search", "", rfl, by decide, lyComp, fdComp, nmComp, by decide +kernel, Or.inr ⟨rfl, rfl, rfl, xin (List.mem_of_getElem? (i := 205) (by decide +kernel)) rfl⟩, Or.inl rfl⟩
theorem fp_Sear_24_Writ : xFw "PairedWords$Search" "<init>" 24 7 4 (.array .int) := ⟨RWrit, TWrit, 7, "PairedWords$Search", "", rfl, by decide, lyWrit, fdWrit, nmWrit, by decide +kernel, Or.inr ⟨rfl, rfl, rfl, xin (List.mem_of_getElem? (i := 205) (by decide +kernel)) rfl⟩, Or.inl rfl⟩
theorem fp_Sear_27_Comp : xFw "PairedWords$Search" "<init>" 27 6 0 (.object "PairedWords$Pairs") := ⟨RComp, TComp, 9, "PairedWords$Search", "", rfl, by decide, lyComp, fdComp, nmComp, by decide +kernel, Or.inr ⟨rfl, rfl, rfl, xin (List.mem_of_getElem? (i := 201) (by decide +kernel)) rfl⟩, Or.inl rfl⟩
theorem fp_Sear_27_Writ : xFw "PairedWords$Search" "<init>" 27 7 0 (.object "PairedWords$Pairs") := ⟨RWrit, TWrit, 7, "PairedWords$Search", "", rfl, by decide, lyWrit, fdWrit, nmWrit, by decide +kernel, Or.inr ⟨rfl, rfl, rfl, xin (List.mem_of_getElem? (i := 201) (by decide +kernel)) rfl⟩, Or.inl rfl⟩
theorem fp_Sear_31_Comp : xFw "PairedWords$Search" "<init>" 31 6 1 (.object "PairedWords$Rules") := ⟨RComp, TComp, 9, "PairedWords$Search", "", rfl, by decide, lyComp, fdComp, nmComp, by decide +kernel, Or.inr ⟨rfl, rfl, rfl, xin (List.mem_of_getElem? (i := 202) (by decide +kernel)) rfl⟩, Or.inl rfl⟩
theorem fp_Sear_31_Writ : xFw "PairedWords$Search" "<init>" 31 7 1 (.object "PairedWords$Rules") := ⟨RWrit, TWrit, 7, "PairedWords$Search", "", rfl, by decide, lyWrit, fdWrit, nmWrit, by decide +kernel, Or.inr ⟨rfl, rfl, rfl, xin (List.mem_of_getElem? (i := 202) (by decide +kernel)) rfl⟩, Or.inl rfl⟩
theorem fg_Sear_14_Comp : xF "PairedWords$Search" 14 6 2 := ⟨RComp, TComp, 9, "PairedWords$Search", "", rfl, by decide, lyComp, Or.inl (xin (List.mem_of_getElem? (i := 203) (by decide +kernel)) rfl), Or.inl rfl⟩
theorem fg_Sear_14_Writ : xF "PairedWords$Search" 14 7 2 := ⟨RWrit, TWrit, 7, "PairedWords$Search", "", rfl, by decide, lyWrit, Or.inl (xin (List.mem_of_getElem? (i := 203) (by decide +kernel)) rfl), Or.inl rfl⟩
theorem iv_Sear_35 : xVi "PairedWords$Search" 35 mLine_copy 0 := ⟨RLine, TLine, 2, rfl, Or.inl (xin (List.mem_of_getElem? (i := 319) (by decide +kernel)) rfl), xin (List.mem_of_getElem? (i := 297) (by decide +kernel)) rfl, xin (List.mem_of_getElem? (i := 298) (by decide +kernel)) rfl, ⟨by decide, by decide⟩⟩
theorem fg_Sear_24_Comp : xF "PairedWords$Search" 24 6 4 := ⟨RComp, TComp, 9, "PairedWords$Search", "", rfl, by decide, lyComp, Or.inl (xin (List.mem_of_getElem? (i := 205) (by decide +kernel)) rfl), Or.inl rfl⟩
theorem fg_Sear_24_Writ : xF "PairedWords$Search" 24 7 4 := ⟨RWrit, TWrit, 7, "PairedWords$Search", "", rfl, by decide, lyWrit, Or.inl (xin (List.mem_of_getElem? (i := 205) (by decide +kernel)) rfl), Or.inl rfl⟩
theorem fg_Sear_31_Comp : xF "PairedWords$Search" 31 6 1 := ⟨RComp, TComp, 9, "PairedWords$Search", "", rfl, by decide, lyComp, Or.inl (xin (List.mem_of_getElem? (i := 202) (by decide +kernel)) rfl), Or.inl rfl⟩
theorem fg_Sear_31_Writ : xF "PairedWords$Search" 31 7 1 := ⟨RWrit, TWrit, 7, "PairedWords$Search", "", rfl, by decide, lyWrit, Or.inl (xin (List.mem_of_getElem? (i := 202) (by decide +kernel)) rfl), Or.inl rfl⟩
theorem fg_Sear_39 : xF "PairedWords$Search" 39 4 0 := ⟨RRule, TRule, 9, "PairedWords$Rules", "PairedWords", rfl, by decide, lyRule, Or.inr (xin (List.mem_of_getElem? (i := 78) (by decide +kernel)) rfl), Or.inl rfl⟩
theorem iv_Sear_44 : xVi "PairedWords$Search" 44 mPatt_first 2 := ⟨RPatt, TPatt, 6, rfl, Or.inl (xin (List.mem_of_getElem? (i := 320) (by decide +kernel)) rfl), xin (List.mem_of_getElem? (i := 321) (by decide +kernel)) rfl, xin (List.mem_of_getElem? (i := 322) (by decide +kernel)) rfl, ⟨by decide, by decide⟩⟩
theorem ip_Sear_50 : xPi "PairedWords$Search" 50 mSear_extend := ⟨Or.inl (xin (List.mem_of_getElem? (i := 328) (by decide +kernel)) rfl), xin (List.mem_of_getElem? (i := 330) (by decide +kernel)) rfl, xin (List.mem_of_getElem? (i := 329) (by decide +kernel)) rfl, ⟨by decide, by decide⟩, Or.inl (xin (List.mem_of_getElem? (i := 1092) (by decide +kernel)) rfl)⟩
theorem fg_Sear_27_Comp : xF "PairedWords$Search" 27 6 0 := ⟨RComp, TComp, 9, "PairedWords$Search", "", rfl, by decide, lyComp, Or.inl (xin (List.mem_of_getElem? (i := 201) (by decide +kernel)) rfl), Or.inl rfl⟩
theorem fg_Sear_27_Writ : xF "PairedWords$Search" 27 7 0 := ⟨RWrit, TWrit, 7, "PairedWords$Search", "", rfl, by decide, lyWrit, Or.inl (xin (List.mem_of_getElem? (i := 201) (by decide +kernel)) rfl), Or.inl rfl⟩
theorem fg_Sear_20_Comp : xF "PairedWords$Search" 20 6 3 := ⟨RComp, TComp, 9, "PairedWords$Search", "", rfl, by decide, lyComp, Or.inl (xin (List.mem_of_getElem? (i := 204) (by decide +kernel)) rfl), Or.inl rfl⟩
theorem fg_Sear_20_Writ : xF "PairedWords$Search" 20 7 3 := ⟨RWrit, TWrit, 7, "PairedWords$Search", "", rfl, by decide, lyWrit, Or.inl (xin (List.mem_of_getElem? (i := 204) (by decide +kernel)) rfl), Or.inl rfl⟩
theorem iv_Sear_54 : xVi "PairedWords$Search" 54 mPairs_upperOf 1 := ⟨RPairs, TPairs, 3, rfl, Or.inl (xin (List.mem_of_getElem? (i := 371) (by decide +kernel)) rfl), xin (List.mem_of_getElem? (i := 372) (by decide +kernel)) rfl, xin (List.mem_of_getElem? (i := 373) (by decide +kernel)) rfl, ⟨by decide, by decide⟩⟩
theorem iv_Sear_60 : xVi "PairedWords$Search" 60 mLine_size 0 := ⟨RLine, TLine, 2, rfl, Or.inl (xin (List.mem_of_getElem? (i := 332) (by decide +kernel)) rfl), xin (List.mem_of_getElem? (i := 281) (by decide +kernel)) rfl, xin (List.mem_of_getElem? (i := 282) (by decide +kernel)) rfl, ⟨by decide, by decide⟩⟩
theorem iu_Sear_63_Comp : xUi "PairedWords$Search" 63 mComp_mayEnd 6 := ⟨RComp, TComp, 9, ⟨"PairedWords$Search", "mayEnd", "(I)Z"⟩, "PairedWords$Search", rfl, xin (List.mem_of_getElem? (i := 333) (by decide +kernel)) rfl, xin (List.mem_of_getElem? (i := 335) (by decide +kernel)) rfl, rfl, Or.inl (xin (List.mem_of_getElem? (i := 334) (by decide +kernel)) rfl), ⟨by decide, by decide⟩, xin (List.mem_of_getElem? (i := 336) (by decide +kernel)) rfl, xin (List.mem_of_getElem? (i := 337) (by decide +kernel)) rfl⟩
theorem iu_Sear_63_Writ : xUi "PairedWords$Search" 63 mWrit_mayEnd 7 := ⟨RWrit, TWrit, 7, ⟨"PairedWords$Search", "mayEnd", "(I)Z"⟩, "PairedWords$Search", rfl, xin (List.mem_of_getElem? (i := 333) (by decide +kernel)) rfl, xin (List.mem_of_getElem? (i := 335) (by decide +kernel)) rfl, rfl, Or.inl (xin (List.mem_of_getElem? (i := 334) (by decide +kernel)) rfl), ⟨by decide, by decide⟩, xin (List.mem_of_getElem? (i := 340) (by decide +kernel)) rfl, xin (List.mem_of_getElem? (i := 341) (by decide +kernel)) rfl⟩
theorem ip_Sear_67 : xPi "PairedWords$Search" 67 mSear_brokenRules := ⟨Or.inl (xin (List.mem_of_getElem? (i := 343) (by decide +kernel)) rfl), xin (List.mem_of_getElem? (i := 345) (by decide +kernel)) rfl, xin (List.mem_of_getElem? (i := 344) (by decide +kernel)) rfl, ⟨by decide, by decide⟩, Or.inl (xin (List.mem_of_getElem? (i := 1093) (by decide +kernel)) rfl)⟩
theorem iu_Sear_70_Comp : xUi "PairedWords$Search" 70 mComp_meet 6 := ⟨RComp, TComp, 9, ⟨"PairedWords$Search", "meet", "(II)V"⟩, "PairedWords$Search", rfl, xin (List.mem_of_getElem? (i := 355) (by decide +kernel)) rfl, xin (List.mem_of_getElem? (i := 357) (by decide +kernel)) rfl, rfl, Or.inl (xin (List.mem_of_getElem? (i := 356) (by decide +kernel)) rfl), ⟨by decide, by decide⟩, xin (List.mem_of_getElem? (i := 358) (by decide +kernel)) rfl, xin (List.mem_of_getElem? (i := 359) (by decide +kernel)) rfl⟩
theorem iu_Sear_70_Writ : xUi "PairedWords$Search" 70 mWrit_meet 7 := ⟨RWrit, TWrit, 7, ⟨"PairedWords$Search", "meet", "(II)V"⟩, "PairedWords$Search", rfl, xin (List.mem_of_getElem? (i := 355) (by decide +kernel)) rfl, xin (List.mem_of_getElem? (i := 357) (by decide +kernel)) rfl, rfl, Or.inl (xin (List.mem_of_getElem? (i := 356) (by decide +kernel)) rfl), ⟨by decide, by decide⟩, xin (List.mem_of_getElem? (i := 361) (by decide +kernel)) rfl, xin (List.mem_of_getElem? (i := 362) (by decide +kernel)) rfl⟩
theorem iv_Sear_74 : xVi "PairedWords$Search" 74 mPairs_count 1 := ⟨RPairs, TPairs, 3, rfl, Or.inl (xin (List.mem_of_getElem? (i := 390) (by decide +kernel)) rfl), xin (List.mem_of_getElem? (i := 391) (by decide +kernel)) rfl, xin (List.mem_of_getElem? (i := 392) (by decide +kernel)) rfl, ⟨by decide, by decide⟩⟩
theorem iu_Sear_77_Comp : xUi "PairedWords$Search" 77 mComp_isDone 6 := ⟨RComp, TComp, 9, ⟨"PairedWords$Search", "isDone", "()Z"⟩, "PairedWords$Search", rfl, xin (List.mem_of_getElem? (i := 394) (by decide +kernel)) rfl, xin (List.mem_of_getElem? (i := 396) (by decide +kernel)) rfl, rfl, Or.inl (xin (List.mem_of_getElem? (i := 395) (by decide +kernel)) rfl), ⟨by decide, by decide⟩, xin (List.mem_of_getElem? (i := 397) (by decide +kernel)) rfl, xin (List.mem_of_getElem? (i := 398) (by decide +kernel)) rfl⟩
theorem iu_Sear_77_Writ : xUi "PairedWords$Search" 77 mWrit_isDone 7 := ⟨RWrit, TWrit, 7, ⟨"PairedWords$Search", "isDone", "()Z"⟩, "PairedWords$Search", rfl, xin (List.mem_of_getElem? (i := 394) (by decide +kernel)) rfl, xin (List.mem_of_getElem? (i := 396) (by decide +kernel)) rfl, rfl, Or.inl (xin (List.mem_of_getElem? (i := 395) (by decide +kernel)) rfl), ⟨by decide, by decide⟩, xin (List.mem_of_getElem? (i := 400) (by decide +kernel)) rfl, xin (List.mem_of_getElem? (i := 401) (by decide +kernel)) rfl⟩
theorem ip_Sear_81 : xPi "PairedWords$Search" 81 mSear_fitsLower := ⟨Or.inl (xin (List.mem_of_getElem? (i := 407) (by decide +kernel)) rfl), xin (List.mem_of_getElem? (i := 409) (by decide +kernel)) rfl, xin (List.mem_of_getElem? (i := 408) (by decide +kernel)) rfl, ⟨by decide, by decide⟩, Or.inl (xin (List.mem_of_getElem? (i := 1094) (by decide +kernel)) rfl)⟩
theorem ip_Sear_85 : xPi "PairedWords$Search" 85 mSear_fitsUpper := ⟨Or.inl (xin (List.mem_of_getElem? (i := 416) (by decide +kernel)) rfl), xin (List.mem_of_getElem? (i := 418) (by decide +kernel)) rfl, xin (List.mem_of_getElem? (i := 417) (by decide +kernel)) rfl, ⟨by decide, by decide⟩, Or.inl (xin (List.mem_of_getElem? (i := 1095) (by decide +kernel)) rfl)⟩
theorem ip_Sear_89 : xPi "PairedWords$Search" 89 mSear_put := ⟨Or.inl (xin (List.mem_of_getElem? (i := 430) (by decide +kernel)) rfl), xin (List.mem_of_getElem? (i := 432) (by decide +kernel)) rfl, xin (List.mem_of_getElem? (i := 431) (by decide +kernel)) rfl, ⟨by decide, by decide⟩, Or.inl (xin (List.mem_of_getElem? (i := 1096) (by decide +kernel)) rfl)⟩
theorem iv_Sear_93 : xVi "PairedWords$Search" 93 mPatt_next 2 := ⟨RPatt, TPatt, 6, rfl, Or.inl (xin (List.mem_of_getElem? (i := 351) (by decide +kernel)) rfl), xin (List.mem_of_getElem? (i := 352) (by decide +kernel)) rfl, xin (List.mem_of_getElem? (i := 353) (by decide +kernel)) rfl, ⟨by decide, by decide⟩⟩
theorem iv_Sear_97 : xVi "PairedWords$Search" 97 mPairs_lowerOf 1 := ⟨RPairs, TPairs, 3, rfl, Or.inl (xin (List.mem_of_getElem? (i := 411) (by decide +kernel)) rfl), xin (List.mem_of_getElem? (i := 412) (by decide +kernel)) rfl, xin (List.mem_of_getElem? (i := 413) (by decide +kernel)) rfl, ⟨by decide, by decide⟩⟩
theorem iv_Sear_100 : xVi "PairedWords$Search" 100 mLine_signAt 0 := ⟨RLine, TLine, 2, rfl, Or.inl (xin (List.mem_of_getElem? (i := 415) (by decide +kernel)) rfl), xin (List.mem_of_getElem? (i := 383) (by decide +kernel)) rfl, xin (List.mem_of_getElem? (i := 384) (by decide +kernel)) rfl, ⟨by decide, by decide⟩⟩
theorem iu_Sear_103_Comp : xUi "PairedWords$Search" 103 mComp_takesUpper 6 := ⟨RComp, TComp, 9, ⟨"PairedWords$Search", "takesUpper", "(II)Z"⟩, "PairedWords$Search", rfl, xin (List.mem_of_getElem? (i := 420) (by decide +kernel)) rfl, xin (List.mem_of_getElem? (i := 422) (by decide +kernel)) rfl, rfl, Or.inl (xin (List.mem_of_getElem? (i := 421) (by decide +kernel)) rfl), ⟨by decide, by decide⟩, xin (List.mem_of_getElem? (i := 423) (by decide +kernel)) rfl, xin (List.mem_of_getElem? (i := 424) (by decide +kernel)) rfl⟩
theorem iu_Sear_103_Writ : xUi "PairedWords$Search" 103 mWrit_takesUpper 7 := ⟨RWrit, TWrit, 7, ⟨"PairedWords$Search", "takesUpper", "(II)Z"⟩, "PairedWords$Search", rfl, xin (List.mem_of_getElem? (i := 420) (by decide +kernel)) rfl, xin (List.mem_of_getElem? (i := 422) (by decide +kernel)) rfl, rfl, Or.inl (xin (List.mem_of_getElem? (i := 421) (by decide +kernel)) rfl), ⟨by decide, by decide⟩, xin (List.mem_of_getElem? (i := 427) (by decide +kernel)) rfl, xin (List.mem_of_getElem? (i := 428) (by decide +kernel)) rfl⟩
theorem fg_Sear_106 : xF "PairedWords$Search" 106 4 1 := ⟨RRule, TRule, 9, "PairedWords$Rules", "PairedWords", rfl, by decide, lyRule, Or.inr (xin (List.mem_of_getElem? (i := 81) (by decide +kernel)) rfl), Or.inl rfl⟩
theorem iv_Sear_109 : xVi "PairedWords$Search" 109 mRule_brokenBy 4 := ⟨RRule, TRule, 9, rfl, Or.inl (xin (List.mem_of_getElem? (i := 347) (by decide +kernel)) rfl), xin (List.mem_of_getElem? (i := 348) (by decide +kernel)) rfl, xin (List.mem_of_getElem? (i := 349) (by decide +kernel)) rfl, ⟨by decide, by decide⟩⟩
theorem ii_Writ_3 : xIi "PairedWords$Writing" 3 mSear_init := ⟨Or.inl (xin (List.mem_of_getElem? (i := 230) (by decide +kernel)) rfl), xin (List.mem_of_getElem? (i := 190) (by decide +kernel)) rfl, rfl, ⟨by decide, by decide⟩, rfl, rfl, xin (List.mem_of_getElem? (i := 191) (by decide +kernel)) rfl⟩
theorem nw_Writ_9 : xNw "PairedWords$Writing" 9 0 2 [.null, .int 0] := ⟨RLine, TLine, rfl, lyLine, xin (List.mem_of_getElem? (i := 231) (by decide +kernel)) rfl, xin (List.mem_of_getElem? (i := 116) (by decide +kernel)) rfl, xin (List.mem_of_getElem? (i := 6) (by decide +kernel)) rfl, fun j hj => (by decide +kernel : ∀ j, j < 2 → ∃ t, t ∈ (parseFieldDescriptor (TLine j).2.2.1).toList ∧ defaultValue t = vp_V [.null, .int 0] j) j hj |>.elim fun t h => ⟨t, Option.mem_toList.mp h.1, h.2⟩⟩
theorem ii_Writ_11 : xIi "PairedWords$Writing" 11 mLine_init := ⟨Or.inl (xin (List.mem_of_getElem? (i := 232) (by decide +kernel)) rfl), xin (List.mem_of_getElem? (i := 118) (by decide +kernel)) rfl, rfl, ⟨by decide, by decide⟩, rfl, rfl, xin (List.mem_of_getElem? (i := 119) (by decide +kernel)) rfl⟩
theorem fp_Writ_14 : xFw "PairedWords$Writing" "<init>" 14 7 5 (.object "PairedWords$Line") := ⟨RWrit, TWrit, 7, "PairedWords$Writing", "", rfl, by decide, lyWrit, fdWrit, nmWrit, by decide +kernel, Or.inr ⟨rfl, rfl, rfl, xin (List.mem_of_getElem? (i := 233) (by decide +kernel)) rfl⟩, Or.inl rfl⟩
theorem fp_Writ_20 : xFw "PairedWords$Writing" "<init>" 20 7 6 (.object "PairedWords$Results") := ⟨RWrit, TWrit, 7, "PairedWords$Writing", "", rfl, by decide, lyWrit, fdWrit, nmWrit, by decide +kernel, Or.inr ⟨rfl, rfl, rfl, xin (List.mem_of_getElem? (i := 234) (by decide +kernel)) rfl⟩, Or.inl rfl⟩
theorem fg_Writ_14 : xF "PairedWords$Writing" 14 7 5 := ⟨RWrit, TWrit, 7, "PairedWords$Writing", "", rfl, by decide, lyWrit, Or.inl (xin (List.mem_of_getElem? (i := 233) (by decide +kernel)) rfl), Or.inl rfl⟩
theorem iv_Writ_24 : xVi "PairedWords$Writing" 24 mLine_cutTo 0 := ⟨RLine, TLine, 2, rfl, Or.inl (xin (List.mem_of_getElem? (i := 364) (by decide +kernel)) rfl), xin (List.mem_of_getElem? (i := 285) (by decide +kernel)) rfl, xin (List.mem_of_getElem? (i := 286) (by decide +kernel)) rfl, ⟨by decide, by decide⟩⟩
theorem iu_Writ_27_Writ : xUi "PairedWords$Writing" 27 mSear_upperAt 7 := ⟨RWrit, TWrit, 7, ⟨"PairedWords$Writing", "upperAt", "(I)I"⟩, "PairedWords$Search", rfl, xin (List.mem_of_getElem? (i := 365) (by decide +kernel)) rfl, xin (List.mem_of_getElem? (i := 366) (by decide +kernel)) rfl, rfl, Or.inl (xin (List.mem_of_getElem? (i := 367) (by decide +kernel)) rfl), ⟨by decide, by decide⟩, xin (List.mem_of_getElem? (i := 368) (by decide +kernel)) rfl, xin (List.mem_of_getElem? (i := 369) (by decide +kernel)) rfl⟩
theorem iv_Writ_31 : xVi "PairedWords$Writing" 31 mLine_add 0 := ⟨RLine, TLine, 2, rfl, Or.inl (xin (List.mem_of_getElem? (i := 375) (by decide +kernel)) rfl), xin (List.mem_of_getElem? (i := 306) (by decide +kernel)) rfl, xin (List.mem_of_getElem? (i := 307) (by decide +kernel)) rfl, ⟨by decide, by decide⟩⟩
theorem fg_Writ_20 : xF "PairedWords$Writing" 20 7 6 := ⟨RWrit, TWrit, 7, "PairedWords$Writing", "", rfl, by decide, lyWrit, Or.inl (xin (List.mem_of_getElem? (i := 234) (by decide +kernel)) rfl), Or.inl rfl⟩
theorem is_Writ_38 : xSi "PairedWords$Writing" 38 mResu_keyOf := ⟨Or.inl (xin (List.mem_of_getElem? (i := 378) (by decide +kernel)) rfl), xin (List.mem_of_getElem? (i := 379) (by decide +kernel)) rfl, ⟨by decide, by decide⟩⟩
theorem iv_Writ_44 : xVi "PairedWords$Writing" 44 mResu_add 3 := ⟨RResu, TResu, 3, rfl, Or.inl (xin (List.mem_of_getElem? (i := 386) (by decide +kernel)) rfl), xin (List.mem_of_getElem? (i := 387) (by decide +kernel)) rfl, xin (List.mem_of_getElem? (i := 388) (by decide +kernel)) rfl, ⟨by decide, by decide⟩⟩
theorem iv_Writ_47 : xVi "PairedWords$Writing" 47 mResu_isTooMany 3 := ⟨RResu, TResu, 3, rfl, Or.inl (xin (List.mem_of_getElem? (i := 403) (by decide +kernel)) rfl), xin (List.mem_of_getElem? (i := 404) (by decide +kernel)) rfl, xin (List.mem_of_getElem? (i := 405) (by decide +kernel)) rfl, ⟨by decide, by decide⟩⟩
theorem iv_Law_7 : xVi "PairedWordsLaw" 7 mPW_pair 9 := ⟨RPW, TPW, 10, rfl, Or.inl (xin (List.mem_of_getElem? (i := 463) (by decide +kernel)) rfl), xin (List.mem_of_getElem? (i := 464) (by decide +kernel)) rfl, xin (List.mem_of_getElem? (i := 465) (by decide +kernel)) rfl, ⟨by decide, by decide⟩⟩
theorem iv_Law_17 : xVi "PairedWordsLaw" 17 mPW_rule 9 := ⟨RPW, TPW, 10, rfl, Or.inl (xin (List.mem_of_getElem? (i := 589) (by decide +kernel)) rfl), xin (List.mem_of_getElem? (i := 590) (by decide +kernel)) rfl, xin (List.mem_of_getElem? (i := 591) (by decide +kernel)) rfl, ⟨by decide, by decide⟩⟩
theorem iv_Law_20 : xVi "PairedWordsLaw" 20 mPW_context 9 := ⟨RPW, TPW, 10, rfl, Or.inl (xin (List.mem_of_getElem? (i := 607) (by decide +kernel)) rfl), xin (List.mem_of_getElem? (i := 608) (by decide +kernel)) rfl, xin (List.mem_of_getElem? (i := 609) (by decide +kernel)) rfl, ⟨by decide, by decide⟩⟩
theorem iv_Law_24 : xVi "PairedWordsLaw" 24 mPW_element 9 := ⟨RPW, TPW, 10, rfl, Or.inl (xin (List.mem_of_getElem? (i := 636) (by decide +kernel)) rfl), xin (List.mem_of_getElem? (i := 637) (by decide +kernel)) rfl, xin (List.mem_of_getElem? (i := 638) (by decide +kernel)) rfl, ⟨by decide, by decide⟩⟩
theorem iv_Law_28 : xVi "PairedWordsLaw" 28 mPW_entry 9 := ⟨RPW, TPW, 10, rfl, Or.inl (xin (List.mem_of_getElem? (i := 662) (by decide +kernel)) rfl), xin (List.mem_of_getElem? (i := 663) (by decide +kernel)) rfl, xin (List.mem_of_getElem? (i := 664) (by decide +kernel)) rfl, ⟨by decide, by decide⟩⟩
theorem iv_Law_31 : xVi "PairedWordsLaw" 31 mPW_spell 9 := ⟨RPW, TPW, 10, rfl, Or.inl (xin (List.mem_of_getElem? (i := 682) (by decide +kernel)) rfl), xin (List.mem_of_getElem? (i := 683) (by decide +kernel)) rfl, xin (List.mem_of_getElem? (i := 684) (by decide +kernel)) rfl, ⟨by decide, by decide⟩⟩
theorem iv_Law_34 : xVi "PairedWordsLaw" 34 mPW_type 9 := ⟨RPW, TPW, 10, rfl, Or.inl (xin (List.mem_of_getElem? (i := 697) (by decide +kernel)) rfl), xin (List.mem_of_getElem? (i := 698) (by decide +kernel)) rfl, xin (List.mem_of_getElem? (i := 699) (by decide +kernel)) rfl, ⟨by decide, by decide⟩⟩
theorem iv_Law_38 : xVi "PairedWordsLaw" 38 mPW_write 9 := ⟨RPW, TPW, 10, rfl, Or.inl (xin (List.mem_of_getElem? (i := 705) (by decide +kernel)) rfl), xin (List.mem_of_getElem? (i := 706) (by decide +kernel)) rfl, xin (List.mem_of_getElem? (i := 707) (by decide +kernel)) rfl, ⟨by decide, by decide⟩⟩
theorem iv_Law_42 : xVi "PairedWordsLaw" 42 mPW_analyse 9 := ⟨RPW, TPW, 10, rfl, Or.inl (xin (List.mem_of_getElem? (i := 728) (by decide +kernel)) rfl), xin (List.mem_of_getElem? (i := 729) (by decide +kernel)) rfl, xin (List.mem_of_getElem? (i := 730) (by decide +kernel)) rfl, ⟨by decide, by decide⟩⟩
theorem iv_Law_45 : xVi "PairedWordsLaw" 45 mPW_length 9 := ⟨RPW, TPW, 10, rfl, Or.inl (xin (List.mem_of_getElem? (i := 756) (by decide +kernel)) rfl), xin (List.mem_of_getElem? (i := 757) (by decide +kernel)) rfl, xin (List.mem_of_getElem? (i := 758) (by decide +kernel)) rfl, ⟨by decide, by decide⟩⟩
theorem iv_Law_51 : xVi "PairedWordsLaw" 51 mPW_result 9 := ⟨RPW, TPW, 10, rfl, Or.inl (xin (List.mem_of_getElem? (i := 792) (by decide +kernel)) rfl), xin (List.mem_of_getElem? (i := 793) (by decide +kernel)) rfl, xin (List.mem_of_getElem? (i := 794) (by decide +kernel)) rfl, ⟨by decide, by decide⟩⟩
theorem iv_Law_55 : xVi "PairedWordsLaw" 55 mPW_sample 9 := ⟨RPW, TPW, 10, rfl, Or.inl (xin (List.mem_of_getElem? (i := 808) (by decide +kernel)) rfl), xin (List.mem_of_getElem? (i := 809) (by decide +kernel)) rfl, xin (List.mem_of_getElem? (i := 810) (by decide +kernel)) rfl, ⟨by decide, by decide⟩⟩
theorem nw_Law_8 : xNw "PairedWordsLaw" 8 9 10 [.null, .null, .null, .null, .null, .null, .null, .null, .null, .null] := ⟨RPW, TPW, rfl, lyPW, xin (List.mem_of_getElem? (i := 20) (by decide +kernel)) rfl, xin (List.mem_of_getElem? (i := 21) (by decide +kernel)) rfl, xin (List.mem_of_getElem? (i := 1) (by decide +kernel)) rfl, fun j hj => (by decide +kernel : ∀ j, j < 10 → ∃ t, t ∈ (parseFieldDescriptor (TPW j).2.2.1).toList ∧ defaultValue t = vp_V [.null, .null, .null, .null, .null, .null, .null, .null, .null, .null] j) j hj |>.elim fun t h => ⟨t, Option.mem_toList.mp h.1, h.2⟩⟩
theorem ii_Law_58 : xIi "PairedWordsLaw" 58 mPW_init := ⟨Or.inl (xin (List.mem_of_getElem? (i := 22) (by decide +kernel)) rfl), xin (List.mem_of_getElem? (i := 23) (by decide +kernel)) rfl, rfl, ⟨by decide, by decide⟩, rfl, rfl, xin (List.mem_of_getElem? (i := 24) (by decide +kernel)) rfl⟩
theorem nw_Law_59 : xNw "PairedWordsLaw" 59 10 42 [.int 0, .int 0, .null, .null, .int 0, .null, .null, .null, .null, .null, .null, .null, .int 0, .null, .null, .null, .null, .null, .null, .int 0, .null, .null, .null, .null, .int 0, .null, .null, .null, .null, .int 0, .null, .null, .int 0, .null, .int 0, .null, .int 0, .null, .null, .null, .null, .null] := ⟨RMod, TMod, rfl, lyMod, xin (List.mem_of_getElem? (i := 818) (by decide +kernel)) rfl, xin (List.mem_of_getElem? (i := 819) (by decide +kernel)) rfl, xin (List.mem_of_getElem? (i := 12) (by decide +kernel)) rfl, fun j hj => (by decide +kernel : ∀ j, j < 42 → ∃ t, t ∈ (parseFieldDescriptor (TMod j).2.2.1).toList ∧ defaultValue t = vp_V [.int 0, .int 0, .null, .null, .int 0, .null, .null, .null, .null, .null, .null, .null, .int 0, .null, .null, .null, .null, .null, .null, .int 0, .null, .null, .null, .null, .int 0, .null, .null, .null, .null, .int 0, .null, .null, .int 0, .null, .int 0, .null, .int 0, .null, .null, .null, .null, .null] j) j hj |>.elim fun t h => ⟨t, Option.mem_toList.mp h.1, h.2⟩⟩
theorem ii_Law_61 : xIi "PairedWordsLaw" 61 mMod_init := ⟨Or.inl (xin (List.mem_of_getElem? (i := 820) (by decide +kernel)) rfl), xin (List.mem_of_getElem? (i := 821) (by decide +kernel)) rfl, rfl, ⟨by decide, by decide⟩, rfl, rfl, xin (List.mem_of_getElem? (i := 822) (by decide +kernel)) rfl⟩
theorem is_Law_62 : xSi "PairedWordsLaw" 62 mLaw_pair := ⟨Or.inl (xin (List.mem_of_getElem? (i := 458) (by decide +kernel)) rfl), xin (List.mem_of_getElem? (i := 459) (by decide +kernel)) rfl, ⟨by decide, by decide⟩⟩
theorem iv_Law_67 : xVi "PairedWordsLaw" 67 mMod_pair 10 := ⟨RMod, TMod, 42, rfl, Or.inl (xin (List.mem_of_getElem? (i := 956) (by decide +kernel)) rfl), xin (List.mem_of_getElem? (i := 957) (by decide +kernel)) rfl, xin (List.mem_of_getElem? (i := 958) (by decide +kernel)) rfl, ⟨by decide, by decide⟩⟩
theorem iv_Law_68 : xVi "PairedWordsLaw" 68 mMod_thrown 10 := ⟨RMod, TMod, 42, rfl, Or.inl (xin (List.mem_of_getElem? (i := 952) (by decide +kernel)) rfl), xin (List.mem_of_getElem? (i := 953) (by decide +kernel)) rfl, xin (List.mem_of_getElem? (i := 954) (by decide +kernel)) rfl, ⟨by decide, by decide⟩⟩
theorem is_Law_71 : xSi "PairedWordsLaw" 71 mLaw_rule := ⟨Or.inl (xin (List.mem_of_getElem? (i := 586) (by decide +kernel)) rfl), xin (List.mem_of_getElem? (i := 587) (by decide +kernel)) rfl, ⟨by decide, by decide⟩⟩
theorem iv_Law_73 : xVi "PairedWordsLaw" 73 mMod_rule 10 := ⟨RMod, TMod, 42, rfl, Or.inl (xin (List.mem_of_getElem? (i := 964) (by decide +kernel)) rfl), xin (List.mem_of_getElem? (i := 965) (by decide +kernel)) rfl, xin (List.mem_of_getElem? (i := 966) (by decide +kernel)) rfl, ⟨by decide, by decide⟩⟩
theorem is_Law_74 : xSi "PairedWordsLaw" 74 mLaw_context := ⟨Or.inl (xin (List.mem_of_getElem? (i := 604) (by decide +kernel)) rfl), xin (List.mem_of_getElem? (i := 605) (by decide +kernel)) rfl, ⟨by decide, by decide⟩⟩
theorem iv_Law_77 : xVi "PairedWordsLaw" 77 mMod_context 10 := ⟨RMod, TMod, 42, rfl, Or.inl (xin (List.mem_of_getElem? (i := 968) (by decide +kernel)) rfl), xin (List.mem_of_getElem? (i := 969) (by decide +kernel)) rfl, xin (List.mem_of_getElem? (i := 970) (by decide +kernel)) rfl, ⟨by decide, by decide⟩⟩
theorem is_Law_78 : xSi "PairedWordsLaw" 78 mLaw_element := ⟨Or.inl (xin (List.mem_of_getElem? (i := 633) (by decide +kernel)) rfl), xin (List.mem_of_getElem? (i := 634) (by decide +kernel)) rfl, ⟨by decide, by decide⟩⟩
theorem iv_Law_81 : xVi "PairedWordsLaw" 81 mMod_element 10 := ⟨RMod, TMod, 42, rfl, Or.inl (xin (List.mem_of_getElem? (i := 976) (by decide +kernel)) rfl), xin (List.mem_of_getElem? (i := 977) (by decide +kernel)) rfl, xin (List.mem_of_getElem? (i := 978) (by decide +kernel)) rfl, ⟨by decide, by decide⟩⟩
theorem is_Law_82 : xSi "PairedWordsLaw" 82 mLaw_entry := ⟨Or.inl (xin (List.mem_of_getElem? (i := 659) (by decide +kernel)) rfl), xin (List.mem_of_getElem? (i := 660) (by decide +kernel)) rfl, ⟨by decide, by decide⟩⟩
theorem iv_Law_84 : xVi "PairedWordsLaw" 84 mMod_entry 10 := ⟨RMod, TMod, 42, rfl, Or.inl (xin (List.mem_of_getElem? (i := 980) (by decide +kernel)) rfl), xin (List.mem_of_getElem? (i := 981) (by decide +kernel)) rfl, xin (List.mem_of_getElem? (i := 982) (by decide +kernel)) rfl, ⟨by decide, by decide⟩⟩
theorem is_Law_85 : xSi "PairedWordsLaw" 85 mLaw_spell := ⟨Or.inl (xin (List.mem_of_getElem? (i := 679) (by decide +kernel)) rfl), xin (List.mem_of_getElem? (i := 680) (by decide +kernel)) rfl, ⟨by decide, by decide⟩⟩
theorem iv_Law_87 : xVi "PairedWordsLaw" 87 mMod_spell 10 := ⟨RMod, TMod, 42, rfl, Or.inl (xin (List.mem_of_getElem? (i := 984) (by decide +kernel)) rfl), xin (List.mem_of_getElem? (i := 985) (by decide +kernel)) rfl, xin (List.mem_of_getElem? (i := 986) (by decide +kernel)) rfl, ⟨by decide, by decide⟩⟩
theorem is_Law_88 : xSi "PairedWordsLaw" 88 mLaw_type := ⟨Or.inl (xin (List.mem_of_getElem? (i := 694) (by decide +kernel)) rfl), xin (List.mem_of_getElem? (i := 695) (by decide +kernel)) rfl, ⟨by decide, by decide⟩⟩
theorem iv_Law_91 : xVi "PairedWordsLaw" 91 mMod_type 10 := ⟨RMod, TMod, 42, rfl, Or.inl (xin (List.mem_of_getElem? (i := 988) (by decide +kernel)) rfl), xin (List.mem_of_getElem? (i := 989) (by decide +kernel)) rfl, xin (List.mem_of_getElem? (i := 990) (by decide +kernel)) rfl, ⟨by decide, by decide⟩⟩
theorem iv_Law_92 : xVi "PairedWordsLaw" 92 mPW_wipe 9 := ⟨RPW, TPW, 10, rfl, Or.inl (xin (List.mem_of_getElem? (i := 276) (by decide +kernel)) rfl), xin (List.mem_of_getElem? (i := 277) (by decide +kernel)) rfl, xin (List.mem_of_getElem? (i := 278) (by decide +kernel)) rfl, ⟨by decide, by decide⟩⟩
theorem iv_Law_96 : xVi "PairedWordsLaw" 96 mMod_wipe 10 := ⟨RMod, TMod, 42, rfl, Or.inl (xin (List.mem_of_getElem? (i := 992) (by decide +kernel)) rfl), xin (List.mem_of_getElem? (i := 993) (by decide +kernel)) rfl, xin (List.mem_of_getElem? (i := 994) (by decide +kernel)) rfl, ⟨by decide, by decide⟩⟩
theorem iv_Law_97 : xVi "PairedWordsLaw" 97 mPW_belong 9 := ⟨RPW, TPW, 10, rfl, Or.inl (xin (List.mem_of_getElem? (i := 288) (by decide +kernel)) rfl), xin (List.mem_of_getElem? (i := 289) (by decide +kernel)) rfl, xin (List.mem_of_getElem? (i := 290) (by decide +kernel)) rfl, ⟨by decide, by decide⟩⟩
theorem iv_Law_101 : xVi "PairedWordsLaw" 101 mMod_belong 10 := ⟨RMod, TMod, 42, rfl, Or.inl (xin (List.mem_of_getElem? (i := 996) (by decide +kernel)) rfl), xin (List.mem_of_getElem? (i := 997) (by decide +kernel)) rfl, xin (List.mem_of_getElem? (i := 998) (by decide +kernel)) rfl, ⟨by decide, by decide⟩⟩
theorem iv_Law_102 : xVi "PairedWordsLaw" 102 mPW_blame 9 := ⟨RPW, TPW, 10, rfl, Or.inl (xin (List.mem_of_getElem? (i := 434) (by decide +kernel)) rfl), xin (List.mem_of_getElem? (i := 435) (by decide +kernel)) rfl, xin (List.mem_of_getElem? (i := 436) (by decide +kernel)) rfl, ⟨by decide, by decide⟩⟩
theorem iv_Law_105 : xVi "PairedWordsLaw" 105 mMod_blame 10 := ⟨RMod, TMod, 42, rfl, Or.inl (xin (List.mem_of_getElem? (i := 1048) (by decide +kernel)) rfl), xin (List.mem_of_getElem? (i := 1049) (by decide +kernel)) rfl, xin (List.mem_of_getElem? (i := 1050) (by decide +kernel)) rfl, ⟨by decide, by decide⟩⟩
theorem is_Law_106 : xSi "PairedWordsLaw" 106 mLaw_write := ⟨Or.inl (xin (List.mem_of_getElem? (i := 702) (by decide +kernel)) rfl), xin (List.mem_of_getElem? (i := 703) (by decide +kernel)) rfl, ⟨by decide, by decide⟩⟩
theorem iv_Law_109 : xVi "PairedWordsLaw" 109 mMod_write 10 := ⟨RMod, TMod, 42, rfl, Or.inl (xin (List.mem_of_getElem? (i := 1052) (by decide +kernel)) rfl), xin (List.mem_of_getElem? (i := 1053) (by decide +kernel)) rfl, xin (List.mem_of_getElem? (i := 1054) (by decide +kernel)) rfl, ⟨by decide, by decide⟩⟩
theorem is_Law_110 : xSi "PairedWordsLaw" 110 mLaw_analyse := ⟨Or.inl (xin (List.mem_of_getElem? (i := 725) (by decide +kernel)) rfl), xin (List.mem_of_getElem? (i := 726) (by decide +kernel)) rfl, ⟨by decide, by decide⟩⟩
theorem iv_Law_112 : xVi "PairedWordsLaw" 112 mMod_analyse 10 := ⟨RMod, TMod, 42, rfl, Or.inl (xin (List.mem_of_getElem? (i := 1068) (by decide +kernel)) rfl), xin (List.mem_of_getElem? (i := 1069) (by decide +kernel)) rfl, xin (List.mem_of_getElem? (i := 1070) (by decide +kernel)) rfl, ⟨by decide, by decide⟩⟩
theorem is_Law_113 : xSi "PairedWordsLaw" 113 mLaw_length := ⟨Or.inl (xin (List.mem_of_getElem? (i := 752) (by decide +kernel)) rfl), xin (List.mem_of_getElem? (i := 753) (by decide +kernel)) rfl, ⟨by decide, by decide⟩⟩
theorem iv_Law_116 : xVi "PairedWordsLaw" 116 mMod_length 10 := ⟨RMod, TMod, 42, rfl, Or.inl (xin (List.mem_of_getElem? (i := 1076) (by decide +kernel)) rfl), xin (List.mem_of_getElem? (i := 1077) (by decide +kernel)) rfl, xin (List.mem_of_getElem? (i := 1078) (by decide +kernel)) rfl, ⟨by decide, by decide⟩⟩
theorem is_Law_117 : xSi "PairedWordsLaw" 117 mLaw_result := ⟨Or.inl (xin (List.mem_of_getElem? (i := 789) (by decide +kernel)) rfl), xin (List.mem_of_getElem? (i := 790) (by decide +kernel)) rfl, ⟨by decide, by decide⟩⟩
theorem iv_Law_120 : xVi "PairedWordsLaw" 120 mMod_result 10 := ⟨RMod, TMod, 42, rfl, Or.inl (xin (List.mem_of_getElem? (i := 1080) (by decide +kernel)) rfl), xin (List.mem_of_getElem? (i := 1081) (by decide +kernel)) rfl, xin (List.mem_of_getElem? (i := 1082) (by decide +kernel)) rfl, ⟨by decide, by decide⟩⟩
theorem is_Law_121 : xSi "PairedWordsLaw" 121 mLaw_sample := ⟨Or.inl (xin (List.mem_of_getElem? (i := 805) (by decide +kernel)) rfl), xin (List.mem_of_getElem? (i := 806) (by decide +kernel)) rfl, ⟨by decide, by decide⟩⟩
theorem iv_Law_123 : xVi "PairedWordsLaw" 123 mMod_sample 10 := ⟨RMod, TMod, 42, rfl, Or.inl (xin (List.mem_of_getElem? (i := 1084) (by decide +kernel)) rfl), xin (List.mem_of_getElem? (i := 1085) (by decide +kernel)) rfl, xin (List.mem_of_getElem? (i := 1086) (by decide +kernel)) rfl, ⟨by decide, by decide⟩⟩
theorem iv_Law_124 : xVi "PairedWordsLaw" 124 mPW_check 9 := ⟨RPW, TPW, 10, rfl, Or.inl (xin (List.mem_of_getElem? (i := 442) (by decide +kernel)) rfl), xin (List.mem_of_getElem? (i := 443) (by decide +kernel)) rfl, xin (List.mem_of_getElem? (i := 444) (by decide +kernel)) rfl, ⟨by decide, by decide⟩⟩
theorem iv_Law_127 : xVi "PairedWordsLaw" 127 mMod_check 10 := ⟨RMod, TMod, 42, rfl, Or.inl (xin (List.mem_of_getElem? (i := 1088) (by decide +kernel)) rfl), xin (List.mem_of_getElem? (i := 1089) (by decide +kernel)) rfl, xin (List.mem_of_getElem? (i := 1090) (by decide +kernel)) rfl, ⟨by decide, by decide⟩⟩
end
section
theorem cd_PW_init : xCode mPW_init := ⟨Or.inr ⟨rfl, xin (List.mem_of_getElem? (i := 24) (by decide +kernel)) rfl⟩, xin (List.mem_of_getElem? (i := 1) (by decide +kernel)) rfl, by decide⟩
theorem ar_PW_init : xAr mPW_init 0 := by unfold xAr; decide +kernel
theorem cd_PW_pair : xCode mPW_pair := ⟨Or.inr ⟨rfl, xin (List.mem_of_getElem? (i := 466) (by decide +kernel)) rfl⟩, xin (List.mem_of_getElem? (i := 1) (by decide +kernel)) rfl, by decide⟩
theorem ar_PW_pair : xAr mPW_pair 2 := by unfold xAr; decide +kernel
theorem cd_PW_rule : xCode mPW_rule := ⟨Or.inr ⟨rfl, xin (List.mem_of_getElem? (i := 592) (by decide +kernel)) rfl⟩, xin (List.mem_of_getElem? (i := 1) (by decide +kernel)) rfl, by decide⟩
theorem ar_PW_rule : xAr mPW_rule 2 := by unfold xAr; decide +kernel
theorem cd_PW_context : xCode mPW_context := ⟨Or.inr ⟨rfl, xin (List.mem_of_getElem? (i := 610) (by decide +kernel)) rfl⟩, xin (List.mem_of_getElem? (i := 1) (by decide +kernel)) rfl, by decide⟩
theorem ar_PW_context : xAr mPW_context 3 := by unfold xAr; decide +kernel
theorem cd_PW_element : xCode mPW_element := ⟨Or.inr ⟨rfl, xin (List.mem_of_getElem? (i := 639) (by decide +kernel)) rfl⟩, xin (List.mem_of_getElem? (i := 1) (by decide +kernel)) rfl, by decide⟩
theorem ar_PW_element : xAr mPW_element 4 := by unfold xAr; decide +kernel
theorem cd_PW_entry : xCode mPW_entry := ⟨Or.inr ⟨rfl, xin (List.mem_of_getElem? (i := 665) (by decide +kernel)) rfl⟩, xin (List.mem_of_getElem? (i := 1) (by decide +kernel)) rfl, by decide⟩
theorem ar_PW_entry : xAr mPW_entry 2 := by unfold xAr; decide +kernel
theorem cd_PW_spell : xCode mPW_spell := ⟨Or.inr ⟨rfl, xin (List.mem_of_getElem? (i := 685) (by decide +kernel)) rfl⟩, xin (List.mem_of_getElem? (i := 1) (by decide +kernel)) rfl, by decide⟩
theorem ar_PW_spell : xAr mPW_spell 2 := by unfold xAr; decide +kernel
theorem cd_PW_type : xCode mPW_type := ⟨Or.inr ⟨rfl, xin (List.mem_of_getElem? (i := 700) (by decide +kernel)) rfl⟩, xin (List.mem_of_getElem? (i := 1) (by decide +kernel)) rfl, by decide⟩
theorem ar_PW_type : xAr mPW_type 2 := by unfold xAr; decide +kernel
theorem cd_PW_wipe : xCode mPW_wipe := ⟨Or.inr ⟨rfl, xin (List.mem_of_getElem? (i := 279) (by decide +kernel)) rfl⟩, xin (List.mem_of_getElem? (i := 1) (by decide +kernel)) rfl, by decide⟩
theorem ar_PW_wipe : xAr mPW_wipe 1 := by unfold xAr; decide +kernel
theorem cd_PW_belong : xCode mPW_belong := ⟨Or.inr ⟨rfl, xin (List.mem_of_getElem? (i := 291) (by decide +kernel)) rfl⟩, xin (List.mem_of_getElem? (i := 1) (by decide +kernel)) rfl, by decide⟩
theorem ar_PW_belong : xAr mPW_belong 0 := by unfold xAr; decide +kernel
theorem cd_PW_blame : xCode mPW_blame := ⟨Or.inr ⟨rfl, xin (List.mem_of_getElem? (i := 437) (by decide +kernel)) rfl⟩, xin (List.mem_of_getElem? (i := 1) (by decide +kernel)) rfl, by decide⟩
theorem ar_PW_blame : xAr mPW_blame 0 := by unfold xAr; decide +kernel
theorem cd_PW_write : xCode mPW_write := ⟨Or.inr ⟨rfl, xin (List.mem_of_getElem? (i := 708) (by decide +kernel)) rfl⟩, xin (List.mem_of_getElem? (i := 1) (by decide +kernel)) rfl, by decide⟩
theorem ar_PW_write : xAr mPW_write 0 := by unfold xAr; decide +kernel
theorem cd_PW_analyse : xCode mPW_analyse := ⟨Or.inr ⟨rfl, xin (List.mem_of_getElem? (i := 731) (by decide +kernel)) rfl⟩, xin (List.mem_of_getElem? (i := 1) (by decide +kernel)) rfl, by decide⟩
theorem ar_PW_analyse : xAr mPW_analyse 0 := by unfold xAr; decide +kernel
theorem cd_PW_length : xCode mPW_length := ⟨Or.inr ⟨rfl, xin (List.mem_of_getElem? (i := 759) (by decide +kernel)) rfl⟩, xin (List.mem_of_getElem? (i := 1) (by decide +kernel)) rfl, by decide⟩
theorem ar_PW_length : xAr mPW_length 2 := by unfold xAr; decide +kernel
theorem cd_PW_result : xCode mPW_result := ⟨Or.inr ⟨rfl, xin (List.mem_of_getElem? (i := 795) (by decide +kernel)) rfl⟩, xin (List.mem_of_getElem? (i := 1) (by decide +kernel)) rfl, by decide⟩
theorem ar_PW_result : xAr mPW_result 3 := by unfold xAr; decide +kernel
theorem cd_PW_sample : xCode mPW_sample := ⟨Or.inr ⟨rfl, xin (List.mem_of_getElem? (i := 811) (by decide +kernel)) rfl⟩, xin (List.mem_of_getElem? (i := 1) (by decide +kernel)) rfl, by decide⟩
theorem ar_PW_sample : xAr mPW_sample 0 := by unfold xAr; decide +kernel
theorem cd_PW_check : xCode mPW_check := ⟨Or.inr ⟨rfl, xin (List.mem_of_getElem? (i := 445) (by decide +kernel)) rfl⟩, xin (List.mem_of_getElem? (i := 1) (by decide +kernel)) rfl, by decide⟩
theorem ar_PW_check : xAr mPW_check 0 := by unfold xAr; decide +kernel
theorem cd_PW_isSign : xCode mPW_isSign := ⟨Or.inr ⟨rfl, xin (List.mem_of_getElem? (i := 472) (by decide +kernel)) rfl⟩, xin (List.mem_of_getElem? (i := 1) (by decide +kernel)) rfl, by decide⟩
theorem ar_PW_isSign : xAr mPW_isSign 1 := by unfold xAr; decide +kernel
theorem cd_PW_isSignOrEmpty : xCode mPW_isSignOrEmpty := ⟨Or.inr ⟨rfl, xin (List.mem_of_getElem? (i := 469) (by decide +kernel)) rfl⟩, xin (List.mem_of_getElem? (i := 1) (by decide +kernel)) rfl, by decide⟩
theorem ar_PW_isSignOrEmpty : xAr mPW_isSignOrEmpty 1 := by unfold xAr; decide +kernel
theorem cd_PW_isPart : xCode mPW_isPart := ⟨Or.inr ⟨rfl, xin (List.mem_of_getElem? (i := 668) (by decide +kernel)) rfl⟩, xin (List.mem_of_getElem? (i := 1) (by decide +kernel)) rfl, by decide⟩
theorem ar_PW_isPart : xAr mPW_isPart 1 := by unfold xAr; decide +kernel
theorem cd_Mod_init : xCode mMod_init := ⟨Or.inr ⟨rfl, xin (List.mem_of_getElem? (i := 822) (by decide +kernel)) rfl⟩, xin (List.mem_of_getElem? (i := 12) (by decide +kernel)) rfl, by decide⟩
theorem ar_Mod_init : xAr mMod_init 0 := by unfold xAr; decide +kernel
theorem cd_Mod_thrown : xCode mMod_thrown := ⟨Or.inr ⟨rfl, xin (List.mem_of_getElem? (i := 955) (by decide +kernel)) rfl⟩, xin (List.mem_of_getElem? (i := 12) (by decide +kernel)) rfl, by decide⟩
theorem ar_Mod_thrown : xAr mMod_thrown 0 := by unfold xAr; decide +kernel
theorem cd_Mod_noSign : xCode mMod_noSign := ⟨Or.inr ⟨rfl, xin (List.mem_of_getElem? (i := 963) (by decide +kernel)) rfl⟩, xin (List.mem_of_getElem? (i := 12) (by decide +kernel)) rfl, by decide⟩
theorem ar_Mod_noSign : xAr mMod_noSign 2 := by unfold xAr; decide +kernel
theorem cd_Mod_pair : xCode mMod_pair := ⟨Or.inr ⟨rfl, xin (List.mem_of_getElem? (i := 959) (by decide +kernel)) rfl⟩, xin (List.mem_of_getElem? (i := 12) (by decide +kernel)) rfl, by decide⟩
theorem ar_Mod_pair : xAr mMod_pair 2 := by unfold xAr; decide +kernel
theorem cd_Mod_rule : xCode mMod_rule := ⟨Or.inr ⟨rfl, xin (List.mem_of_getElem? (i := 967) (by decide +kernel)) rfl⟩, xin (List.mem_of_getElem? (i := 12) (by decide +kernel)) rfl, by decide⟩
theorem ar_Mod_rule : xAr mMod_rule 2 := by unfold xAr; decide +kernel
theorem cd_Mod_noRule : xCode mMod_noRule := ⟨Or.inr ⟨rfl, xin (List.mem_of_getElem? (i := 975) (by decide +kernel)) rfl⟩, xin (List.mem_of_getElem? (i := 12) (by decide +kernel)) rfl, by decide⟩
theorem ar_Mod_noRule : xAr mMod_noRule 1 := by unfold xAr; decide +kernel
theorem cd_Mod_context : xCode mMod_context := ⟨Or.inr ⟨rfl, xin (List.mem_of_getElem? (i := 971) (by decide +kernel)) rfl⟩, xin (List.mem_of_getElem? (i := 12) (by decide +kernel)) rfl, by decide⟩
theorem ar_Mod_context : xAr mMod_context 3 := by unfold xAr; decide +kernel
theorem cd_Mod_element : xCode mMod_element := ⟨Or.inr ⟨rfl, xin (List.mem_of_getElem? (i := 979) (by decide +kernel)) rfl⟩, xin (List.mem_of_getElem? (i := 12) (by decide +kernel)) rfl, by decide⟩
theorem ar_Mod_element : xAr mMod_element 4 := by unfold xAr; decide +kernel
theorem cd_Mod_entry : xCode mMod_entry := ⟨Or.inr ⟨rfl, xin (List.mem_of_getElem? (i := 983) (by decide +kernel)) rfl⟩, xin (List.mem_of_getElem? (i := 12) (by decide +kernel)) rfl, by decide⟩
theorem ar_Mod_entry : xAr mMod_entry 2 := by unfold xAr; decide +kernel
theorem cd_Mod_spell : xCode mMod_spell := ⟨Or.inr ⟨rfl, xin (List.mem_of_getElem? (i := 987) (by decide +kernel)) rfl⟩, xin (List.mem_of_getElem? (i := 12) (by decide +kernel)) rfl, by decide⟩
theorem ar_Mod_spell : xAr mMod_spell 2 := by unfold xAr; decide +kernel
theorem cd_Mod_type : xCode mMod_type := ⟨Or.inr ⟨rfl, xin (List.mem_of_getElem? (i := 991) (by decide +kernel)) rfl⟩, xin (List.mem_of_getElem? (i := 12) (by decide +kernel)) rfl, by decide⟩
theorem ar_Mod_type : xAr mMod_type 2 := by unfold xAr; decide +kernel
theorem cd_Mod_wipe : xCode mMod_wipe := ⟨Or.inr ⟨rfl, xin (List.mem_of_getElem? (i := 995) (by decide +kernel)) rfl⟩, xin (List.mem_of_getElem? (i := 12) (by decide +kernel)) rfl, by decide⟩
theorem ar_Mod_wipe : xAr mMod_wipe 1 := by unfold xAr; decide +kernel
theorem cd_Mod_inSet : xCode mMod_inSet := ⟨Or.inr ⟨rfl, xin (List.mem_of_getElem? (i := 1047) (by decide +kernel)) rfl⟩, xin (List.mem_of_getElem? (i := 12) (by decide +kernel)) rfl, by decide⟩
theorem ar_Mod_inSet : xAr mMod_inSet 2 := by unfold xAr; decide +kernel
theorem cd_Mod_allIn : xCode mMod_allIn := ⟨Or.inr ⟨rfl, xin (List.mem_of_getElem? (i := 1043) (by decide +kernel)) rfl⟩, xin (List.mem_of_getElem? (i := 12) (by decide +kernel)) rfl, by decide⟩
theorem ar_Mod_allIn : xAr mMod_allIn 3 := by unfold xAr; decide +kernel
theorem cd_Mod_isPart : xCode mMod_isPart := ⟨Or.inr ⟨rfl, xin (List.mem_of_getElem? (i := 1039) (by decide +kernel)) rfl⟩, xin (List.mem_of_getElem? (i := 12) (by decide +kernel)) rfl, by decide⟩
theorem ar_Mod_isPart : xAr mMod_isPart 3 := by unfold xAr; decide +kernel
theorem cd_Mod_isMatched : xCode mMod_isMatched := ⟨Or.inr ⟨rfl, xin (List.mem_of_getElem? (i := 1035) (by decide +kernel)) rfl⟩, xin (List.mem_of_getElem? (i := 12) (by decide +kernel)) rfl, by decide⟩
theorem ar_Mod_isMatched : xAr mMod_isMatched 3 := by unfold xAr; decide +kernel
theorem cd_Mod_holds : xCode mMod_holds := ⟨Or.inr ⟨rfl, xin (List.mem_of_getElem? (i := 1031) (by decide +kernel)) rfl⟩, xin (List.mem_of_getElem? (i := 12) (by decide +kernel)) rfl, by decide⟩
theorem ar_Mod_holds : xAr mMod_holds 2 := by unfold xAr; decide +kernel
theorem cd_Mod_isKept : xCode mMod_isKept := ⟨Or.inr ⟨rfl, xin (List.mem_of_getElem? (i := 1027) (by decide +kernel)) rfl⟩, xin (List.mem_of_getElem? (i := 12) (by decide +kernel)) rfl, by decide⟩
theorem ar_Mod_isKept : xAr mMod_isKept 1 := by unfold xAr; decide +kernel
theorem cd_Mod_keepsAll : xCode mMod_keepsAll := ⟨Or.inr ⟨rfl, xin (List.mem_of_getElem? (i := 1023) (by decide +kernel)) rfl⟩, xin (List.mem_of_getElem? (i := 12) (by decide +kernel)) rfl, by decide⟩
theorem ar_Mod_keepsAll : xAr mMod_keepsAll 0 := by unfold xAr; decide +kernel
theorem cd_Mod_begin : xCode mMod_begin := ⟨Or.inr ⟨rfl, xin (List.mem_of_getElem? (i := 1011) (by decide +kernel)) rfl⟩, xin (List.mem_of_getElem? (i := 12) (by decide +kernel)) rfl, by decide⟩
theorem ar_Mod_begin : xAr mMod_begin 0 := by unfold xAr; decide +kernel
theorem cd_Mod_mayCome : xCode mMod_mayCome := ⟨Or.inr ⟨rfl, xin (List.mem_of_getElem? (i := 1019) (by decide +kernel)) rfl⟩, xin (List.mem_of_getElem? (i := 12) (by decide +kernel)) rfl, by decide⟩
theorem ar_Mod_mayCome : xAr mMod_mayCome 2 := by unfold xAr; decide +kernel
theorem cd_Mod_nextAlignment : xCode mMod_nextAlignment := ⟨Or.inr ⟨rfl, xin (List.mem_of_getElem? (i := 1015) (by decide +kernel)) rfl⟩, xin (List.mem_of_getElem? (i := 12) (by decide +kernel)) rfl, by decide⟩
theorem ar_Mod_nextAlignment : xAr mMod_nextAlignment 1 := by unfold xAr; decide +kernel
theorem cd_Mod_take : xCode mMod_take := ⟨Or.inr ⟨rfl, xin (List.mem_of_getElem? (i := 1003) (by decide +kernel)) rfl⟩, xin (List.mem_of_getElem? (i := 12) (by decide +kernel)) rfl, by decide⟩
theorem ar_Mod_take : xAr mMod_take 5 := by unfold xAr; decide +kernel
theorem cd_Mod_doBelong : xCode mMod_doBelong := ⟨Or.inr ⟨rfl, xin (List.mem_of_getElem? (i := 1007) (by decide +kernel)) rfl⟩, xin (List.mem_of_getElem? (i := 12) (by decide +kernel)) rfl, by decide⟩
theorem ar_Mod_doBelong : xAr mMod_doBelong 0 := by unfold xAr; decide +kernel
theorem cd_Mod_belong : xCode mMod_belong := ⟨Or.inr ⟨rfl, xin (List.mem_of_getElem? (i := 999) (by decide +kernel)) rfl⟩, xin (List.mem_of_getElem? (i := 12) (by decide +kernel)) rfl, by decide⟩
theorem ar_Mod_belong : xAr mMod_belong 0 := by unfold xAr; decide +kernel
theorem cd_Mod_blame : xCode mMod_blame := ⟨Or.inr ⟨rfl, xin (List.mem_of_getElem? (i := 1051) (by decide +kernel)) rfl⟩, xin (List.mem_of_getElem? (i := 12) (by decide +kernel)) rfl, by decide⟩
theorem ar_Mod_blame : xAr mMod_blame 0 := by unfold xAr; decide +kernel
theorem cd_Mod_order : xCode mMod_order := ⟨Or.inr ⟨rfl, xin (List.mem_of_getElem? (i := 1063) (by decide +kernel)) rfl⟩, xin (List.mem_of_getElem? (i := 12) (by decide +kernel)) rfl, by decide⟩
theorem ar_Mod_order : xAr mMod_order 2 := by unfold xAr; decide +kernel
theorem cd_Mod_put : xCode mMod_put := ⟨Or.inr ⟨rfl, xin (List.mem_of_getElem? (i := 1059) (by decide +kernel)) rfl⟩, xin (List.mem_of_getElem? (i := 12) (by decide +kernel)) rfl, by decide⟩
theorem ar_Mod_put : xAr mMod_put 0 := by unfold xAr; decide +kernel
theorem cd_Mod_finish : xCode mMod_finish := ⟨Or.inr ⟨rfl, xin (List.mem_of_getElem? (i := 1067) (by decide +kernel)) rfl⟩, xin (List.mem_of_getElem? (i := 12) (by decide +kernel)) rfl, by decide⟩
theorem ar_Mod_finish : xAr mMod_finish 0 := by unfold xAr; decide +kernel
theorem cd_Mod_write : xCode mMod_write := ⟨Or.inr ⟨rfl, xin (List.mem_of_getElem? (i := 1055) (by decide +kernel)) rfl⟩, xin (List.mem_of_getElem? (i := 12) (by decide +kernel)) rfl, by decide⟩
theorem ar_Mod_write : xAr mMod_write 0 := by unfold xAr; decide +kernel
theorem cd_Mod_isFound : xCode mMod_isFound := ⟨Or.inr ⟨rfl, xin (List.mem_of_getElem? (i := 1075) (by decide +kernel)) rfl⟩, xin (List.mem_of_getElem? (i := 12) (by decide +kernel)) rfl, by decide⟩
theorem ar_Mod_isFound : xAr mMod_isFound 1 := by unfold xAr; decide +kernel
theorem cd_Mod_analyse : xCode mMod_analyse := ⟨Or.inr ⟨rfl, xin (List.mem_of_getElem? (i := 1071) (by decide +kernel)) rfl⟩, xin (List.mem_of_getElem? (i := 12) (by decide +kernel)) rfl, by decide⟩
theorem ar_Mod_analyse : xAr mMod_analyse 0 := by unfold xAr; decide +kernel
theorem cd_Mod_length : xCode mMod_length := ⟨Or.inr ⟨rfl, xin (List.mem_of_getElem? (i := 1079) (by decide +kernel)) rfl⟩, xin (List.mem_of_getElem? (i := 12) (by decide +kernel)) rfl, by decide⟩
theorem ar_Mod_length : xAr mMod_length 2 := by unfold xAr; decide +kernel
theorem cd_Mod_result : xCode mMod_result := ⟨Or.inr ⟨rfl, xin (List.mem_of_getElem? (i := 1083) (by decide +kernel)) rfl⟩, xin (List.mem_of_getElem? (i := 12) (by decide +kernel)) rfl, by decide⟩
theorem ar_Mod_result : xAr mMod_result 3 := by unfold xAr; decide +kernel
theorem cd_Mod_sample : xCode mMod_sample := ⟨Or.inr ⟨rfl, xin (List.mem_of_getElem? (i := 1087) (by decide +kernel)) rfl⟩, xin (List.mem_of_getElem? (i := 12) (by decide +kernel)) rfl, by decide⟩
theorem ar_Mod_sample : xAr mMod_sample 0 := by unfold xAr; decide +kernel
theorem cd_Mod_check : xCode mMod_check := ⟨Or.inr ⟨rfl, xin (List.mem_of_getElem? (i := 1091) (by decide +kernel)) rfl⟩, xin (List.mem_of_getElem? (i := 12) (by decide +kernel)) rfl, by decide⟩
theorem ar_Mod_check : xAr mMod_check 0 := by unfold xAr; decide +kernel
theorem cd_Comp_init : xCode mComp_init := ⟨Or.inr ⟨rfl, xin (List.mem_of_getElem? (i := 188) (by decide +kernel)) rfl⟩, xin (List.mem_of_getElem? (i := 10) (by decide +kernel)) rfl, by decide⟩
theorem ar_Comp_init : xAr mComp_init 2 := by unfold xAr; decide +kernel
theorem cd_Comp_finds : xCode mComp_finds := ⟨Or.inr ⟨rfl, xin (List.mem_of_getElem? (i := 295) (by decide +kernel)) rfl⟩, xin (List.mem_of_getElem? (i := 10) (by decide +kernel)) rfl, by decide⟩
theorem ar_Comp_finds : xAr mComp_finds 2 := by unfold xAr; decide +kernel
theorem cd_Comp_culprit : xCode mComp_culprit := ⟨Or.inr ⟨rfl, xin (List.mem_of_getElem? (i := 441) (by decide +kernel)) rfl⟩, xin (List.mem_of_getElem? (i := 10) (by decide +kernel)) rfl, by decide⟩
theorem ar_Comp_culprit : xAr mComp_culprit 0 := by unfold xAr; decide +kernel
theorem cd_Comp_takesUpper : xCode mComp_takesUpper := ⟨Or.inr ⟨rfl, xin (List.mem_of_getElem? (i := 425) (by decide +kernel)) rfl⟩, xin (List.mem_of_getElem? (i := 10) (by decide +kernel)) rfl, by decide⟩
theorem ar_Comp_takesUpper : xAr mComp_takesUpper 2 := by unfold xAr; decide +kernel
theorem cd_Comp_mayEnd : xCode mComp_mayEnd := ⟨Or.inr ⟨rfl, xin (List.mem_of_getElem? (i := 338) (by decide +kernel)) rfl⟩, xin (List.mem_of_getElem? (i := 10) (by decide +kernel)) rfl, by decide⟩
theorem ar_Comp_mayEnd : xAr mComp_mayEnd 1 := by unfold xAr; decide +kernel
theorem cd_Comp_meet : xCode mComp_meet := ⟨Or.inr ⟨rfl, xin (List.mem_of_getElem? (i := 360) (by decide +kernel)) rfl⟩, xin (List.mem_of_getElem? (i := 10) (by decide +kernel)) rfl, by decide⟩
theorem ar_Comp_meet : xAr mComp_meet 2 := by unfold xAr; decide +kernel
theorem cd_Comp_isDone : xCode mComp_isDone := ⟨Or.inr ⟨rfl, xin (List.mem_of_getElem? (i := 399) (by decide +kernel)) rfl⟩, xin (List.mem_of_getElem? (i := 10) (by decide +kernel)) rfl, by decide⟩
theorem ar_Comp_isDone : xAr mComp_isDone 0 := by unfold xAr; decide +kernel
theorem cd_Lexi_init : xCode mLexi_init := ⟨Or.inr ⟨rfl, xin (List.mem_of_getElem? (i := 112) (by decide +kernel)) rfl⟩, xin (List.mem_of_getElem? (i := 5) (by decide +kernel)) rfl, by decide⟩
theorem ar_Lexi_init : xAr mLexi_init 0 := by unfold xAr; decide +kernel
theorem cd_Lexi_count : xCode mLexi_count := ⟨Or.inr ⟨rfl, xin (List.mem_of_getElem? (i := 673) (by decide +kernel)) rfl⟩, xin (List.mem_of_getElem? (i := 5) (by decide +kernel)) rfl, by decide⟩
theorem ar_Lexi_count : xAr mLexi_count 0 := by unfold xAr; decide +kernel
theorem cd_Lexi_signsOf : xCode mLexi_signsOf := ⟨Or.inr ⟨rfl, xin (List.mem_of_getElem? (i := 690) (by decide +kernel)) rfl⟩, xin (List.mem_of_getElem? (i := 5) (by decide +kernel)) rfl, by decide⟩
theorem ar_Lexi_signsOf : xAr mLexi_signsOf 1 := by unfold xAr; decide +kernel
theorem cd_Lexi_add : xCode mLexi_add := ⟨Or.inr ⟨rfl, xin (List.mem_of_getElem? (i := 678) (by decide +kernel)) rfl⟩, xin (List.mem_of_getElem? (i := 5) (by decide +kernel)) rfl, by decide⟩
theorem ar_Lexi_add : xAr mLexi_add 2 := by unfold xAr; decide +kernel
theorem cd_Lexi_goOn : xCode mLexi_goOn := ⟨Or.inr ⟨rfl, xin (List.mem_of_getElem? (i := 735) (by decide +kernel)) rfl⟩, xin (List.mem_of_getElem? (i := 5) (by decide +kernel)) rfl, by decide⟩
theorem ar_Lexi_goOn : xAr mLexi_goOn 5 := by unfold xAr; decide +kernel
theorem cd_Lexi_put : xCode mLexi_put := ⟨Or.inr ⟨rfl, xin (List.mem_of_getElem? (i := 744) (by decide +kernel)) rfl⟩, xin (List.mem_of_getElem? (i := 5) (by decide +kernel)) rfl, by decide⟩
theorem ar_Lexi_put : xAr mLexi_put 5 := by unfold xAr; decide +kernel
theorem cd_Line_init : xCode mLine_init := ⟨Or.inr ⟨rfl, xin (List.mem_of_getElem? (i := 119) (by decide +kernel)) rfl⟩, xin (List.mem_of_getElem? (i := 6) (by decide +kernel)) rfl, by decide⟩
theorem ar_Line_init : xAr mLine_init 1 := by unfold xAr; decide +kernel
theorem cd_Line_size : xCode mLine_size := ⟨Or.inr ⟨rfl, xin (List.mem_of_getElem? (i := 283) (by decide +kernel)) rfl⟩, xin (List.mem_of_getElem? (i := 6) (by decide +kernel)) rfl, by decide⟩
theorem ar_Line_size : xAr mLine_size 0 := by unfold xAr; decide +kernel
theorem cd_Line_isFull : xCode mLine_isFull := ⟨Or.inr ⟨rfl, xin (List.mem_of_getElem? (i := 312) (by decide +kernel)) rfl⟩, xin (List.mem_of_getElem? (i := 6) (by decide +kernel)) rfl, by decide⟩
theorem ar_Line_isFull : xAr mLine_isFull 0 := by unfold xAr; decide +kernel
theorem cd_Line_hasRoomFor : xCode mLine_hasRoomFor := ⟨Or.inr ⟨rfl, xin (List.mem_of_getElem? (i := 740) (by decide +kernel)) rfl⟩, xin (List.mem_of_getElem? (i := 6) (by decide +kernel)) rfl, by decide⟩
theorem ar_Line_hasRoomFor : xAr mLine_hasRoomFor 1 := by unfold xAr; decide +kernel
theorem cd_Line_signAt : xCode mLine_signAt := ⟨Or.inr ⟨rfl, xin (List.mem_of_getElem? (i := 385) (by decide +kernel)) rfl⟩, xin (List.mem_of_getElem? (i := 6) (by decide +kernel)) rfl, by decide⟩
theorem ar_Line_signAt : xAr mLine_signAt 1 := by unfold xAr; decide +kernel
theorem cd_Line_add : xCode mLine_add := ⟨Or.inr ⟨rfl, xin (List.mem_of_getElem? (i := 308) (by decide +kernel)) rfl⟩, xin (List.mem_of_getElem? (i := 6) (by decide +kernel)) rfl, by decide⟩
theorem ar_Line_add : xAr mLine_add 1 := by unfold xAr; decide +kernel
theorem cd_Line_addAll : xCode mLine_addAll := ⟨Or.inr ⟨rfl, xin (List.mem_of_getElem? (i := 304) (by decide +kernel)) rfl⟩, xin (List.mem_of_getElem? (i := 6) (by decide +kernel)) rfl, by decide⟩
theorem ar_Line_addAll : xAr mLine_addAll 1 := by unfold xAr; decide +kernel
theorem cd_Line_cutTo : xCode mLine_cutTo := ⟨Or.inr ⟨rfl, xin (List.mem_of_getElem? (i := 287) (by decide +kernel)) rfl⟩, xin (List.mem_of_getElem? (i := 6) (by decide +kernel)) rfl, by decide⟩
theorem ar_Line_cutTo : xAr mLine_cutTo 1 := by unfold xAr; decide +kernel
theorem cd_Line_copy : xCode mLine_copy := ⟨Or.inr ⟨rfl, xin (List.mem_of_getElem? (i := 299) (by decide +kernel)) rfl⟩, xin (List.mem_of_getElem? (i := 6) (by decide +kernel)) rfl, by decide⟩
theorem ar_Line_copy : xAr mLine_copy 1 := by unfold xAr; decide +kernel
theorem cd_Pairs_init : xCode mPairs_init := ⟨Or.inr ⟨rfl, xin (List.mem_of_getElem? (i := 32) (by decide +kernel)) rfl⟩, xin (List.mem_of_getElem? (i := 2) (by decide +kernel)) rfl, by decide⟩
theorem ar_Pairs_init : xAr mPairs_init 0 := by unfold xAr; decide +kernel
theorem cd_Pairs_count : xCode mPairs_count := ⟨Or.inr ⟨rfl, xin (List.mem_of_getElem? (i := 393) (by decide +kernel)) rfl⟩, xin (List.mem_of_getElem? (i := 2) (by decide +kernel)) rfl, by decide⟩
theorem ar_Pairs_count : xAr mPairs_count 0 := by unfold xAr; decide +kernel
theorem cd_Pairs_lowerOf : xCode mPairs_lowerOf := ⟨Or.inr ⟨rfl, xin (List.mem_of_getElem? (i := 414) (by decide +kernel)) rfl⟩, xin (List.mem_of_getElem? (i := 2) (by decide +kernel)) rfl, by decide⟩
theorem ar_Pairs_lowerOf : xAr mPairs_lowerOf 1 := by unfold xAr; decide +kernel
theorem cd_Pairs_upperOf : xCode mPairs_upperOf := ⟨Or.inr ⟨rfl, xin (List.mem_of_getElem? (i := 374) (by decide +kernel)) rfl⟩, xin (List.mem_of_getElem? (i := 2) (by decide +kernel)) rfl, by decide⟩
theorem ar_Pairs_upperOf : xAr mPairs_upperOf 1 := by unfold xAr; decide +kernel
theorem cd_Pairs_has : xCode mPairs_has := ⟨Or.inr ⟨rfl, xin (List.mem_of_getElem? (i := 544) (by decide +kernel)) rfl⟩, xin (List.mem_of_getElem? (i := 2) (by decide +kernel)) rfl, by decide⟩
theorem ar_Pairs_has : xAr mPairs_has 2 := by unfold xAr; decide +kernel
theorem cd_Pairs_hasRoomFor : xCode mPairs_hasRoomFor := ⟨Or.inr ⟨rfl, xin (List.mem_of_getElem? (i := 549) (by decide +kernel)) rfl⟩, xin (List.mem_of_getElem? (i := 2) (by decide +kernel)) rfl, by decide⟩
theorem ar_Pairs_hasRoomFor : xAr mPairs_hasRoomFor 1 := by unfold xAr; decide +kernel
theorem cd_Pairs_add : xCode mPairs_add := ⟨Or.inr ⟨rfl, xin (List.mem_of_getElem? (i := 573) (by decide +kernel)) rfl⟩, xin (List.mem_of_getElem? (i := 2) (by decide +kernel)) rfl, by decide⟩
theorem ar_Pairs_add : xAr mPairs_add 2 := by unfold xAr; decide +kernel
theorem cd_Patt_init : xCode mPatt_init := ⟨Or.inr ⟨rfl, xin (List.mem_of_getElem? (i := 55) (by decide +kernel)) rfl⟩, xin (List.mem_of_getElem? (i := 4) (by decide +kernel)) rfl, by decide⟩
theorem ar_Patt_init : xAr mPatt_init 1 := by unfold xAr; decide +kernel
theorem cd_Patt_goalOf : xCode mPatt_goalOf := ⟨Or.inr ⟨rfl, xin (List.mem_of_getElem? (i := 631) (by decide +kernel)) rfl⟩, xin (List.mem_of_getElem? (i := 4) (by decide +kernel)) rfl, by decide⟩
theorem ar_Patt_goalOf : xAr mPatt_goalOf 1 := by unfold xAr; decide +kernel
theorem cd_Patt_open : xCode mPatt_open := ⟨Or.inr ⟨rfl, xin (List.mem_of_getElem? (i := 628) (by decide +kernel)) rfl⟩, xin (List.mem_of_getElem? (i := 4) (by decide +kernel)) rfl, by decide⟩
theorem ar_Patt_open : xAr mPatt_open 2 := by unfold xAr; decide +kernel
theorem cd_Patt_elementsOf : xCode mPatt_elementsOf := ⟨Or.inr ⟨rfl, xin (List.mem_of_getElem? (i := 646) (by decide +kernel)) rfl⟩, xin (List.mem_of_getElem? (i := 4) (by decide +kernel)) rfl, by decide⟩
theorem ar_Patt_elementsOf : xAr mPatt_elementsOf 1 := by unfold xAr; decide +kernel
theorem cd_Patt_addElement : xCode mPatt_addElement := ⟨Or.inr ⟨rfl, xin (List.mem_of_getElem? (i := 651) (by decide +kernel)) rfl⟩, xin (List.mem_of_getElem? (i := 4) (by decide +kernel)) rfl, by decide⟩
theorem ar_Patt_addElement : xAr mPatt_addElement 3 := by unfold xAr; decide +kernel
theorem cd_Patt_lowerElements : xCode mPatt_lowerElements := ⟨Or.inr ⟨rfl, xin (List.mem_of_getElem? (i := 658) (by decide +kernel)) rfl⟩, xin (List.mem_of_getElem? (i := 4) (by decide +kernel)) rfl, by decide⟩
theorem ar_Patt_lowerElements : xAr mPatt_lowerElements 1 := by unfold xAr; decide +kernel
theorem cd_Patt_lowered : xCode mPatt_lowered := ⟨Or.inr ⟨rfl, xin (List.mem_of_getElem? (i := 654) (by decide +kernel)) rfl⟩, xin (List.mem_of_getElem? (i := 4) (by decide +kernel)) rfl, by decide⟩
theorem ar_Patt_lowered : xAr mPatt_lowered 2 := by unfold xAr; decide +kernel
theorem cd_Patt_first : xCode mPatt_first := ⟨Or.inr ⟨rfl, xin (List.mem_of_getElem? (i := 323) (by decide +kernel)) rfl⟩, xin (List.mem_of_getElem? (i := 4) (by decide +kernel)) rfl, by decide⟩
theorem ar_Patt_first : xAr mPatt_first 0 := by unfold xAr; decide +kernel
theorem cd_Patt_next : xCode mPatt_next := ⟨Or.inr ⟨rfl, xin (List.mem_of_getElem? (i := 354) (by decide +kernel)) rfl⟩, xin (List.mem_of_getElem? (i := 4) (by decide +kernel)) rfl, by decide⟩
theorem ar_Patt_next : xAr mPatt_next 2 := by unfold xAr; decide +kernel
theorem cd_Patt_skipStarred : xCode mPatt_skipStarred := ⟨Or.inr ⟨rfl, xin (List.mem_of_getElem? (i := 327) (by decide +kernel)) rfl⟩, xin (List.mem_of_getElem? (i := 4) (by decide +kernel)) rfl, by decide⟩
theorem ar_Patt_skipStarred : xAr mPatt_skipStarred 1 := by unfold xAr; decide +kernel
theorem cd_Resu_init : xCode mResu_init := ⟨Or.inr ⟨rfl, xin (List.mem_of_getElem? (i := 171) (by decide +kernel)) rfl⟩, xin (List.mem_of_getElem? (i := 8) (by decide +kernel)) rfl, by decide⟩
theorem ar_Resu_init : xAr mResu_init 0 := by unfold xAr; decide +kernel
theorem cd_Resu_count : xCode mResu_count := ⟨Or.inr ⟨rfl, xin (List.mem_of_getElem? (i := 724) (by decide +kernel)) rfl⟩, xin (List.mem_of_getElem? (i := 8) (by decide +kernel)) rfl, by decide⟩
theorem ar_Resu_count : xAr mResu_count 0 := by unfold xAr; decide +kernel
theorem cd_Resu_isTooMany : xCode mResu_isTooMany := ⟨Or.inr ⟨rfl, xin (List.mem_of_getElem? (i := 406) (by decide +kernel)) rfl⟩, xin (List.mem_of_getElem? (i := 8) (by decide +kernel)) rfl, by decide⟩
theorem ar_Resu_isTooMany : xAr mResu_isTooMany 0 := by unfold xAr; decide +kernel
theorem cd_Resu_clear : xCode mResu_clear := ⟨Or.inr ⟨rfl, xin (List.mem_of_getElem? (i := 569) (by decide +kernel)) rfl⟩, xin (List.mem_of_getElem? (i := 8) (by decide +kernel)) rfl, by decide⟩
theorem ar_Resu_clear : xAr mResu_clear 0 := by unfold xAr; decide +kernel
theorem cd_Resu_copy : xCode mResu_copy := ⟨Or.inr ⟨rfl, xin (List.mem_of_getElem? (i := 717) (by decide +kernel)) rfl⟩, xin (List.mem_of_getElem? (i := 8) (by decide +kernel)) rfl, by decide⟩
theorem ar_Resu_copy : xAr mResu_copy 1 := by unfold xAr; decide +kernel
theorem cd_Resu_add : xCode mResu_add := ⟨Or.inr ⟨rfl, xin (List.mem_of_getElem? (i := 389) (by decide +kernel)) rfl⟩, xin (List.mem_of_getElem? (i := 8) (by decide +kernel)) rfl, by decide⟩
theorem ar_Resu_add : xAr mResu_add 1 := by unfold xAr; decide +kernel
theorem cd_Resu_keyOf : xCode mResu_keyOf := ⟨Or.inr ⟨rfl, xin (List.mem_of_getElem? (i := 380) (by decide +kernel)) rfl⟩, xin (List.mem_of_getElem? (i := 8) (by decide +kernel)) rfl, by decide⟩
theorem ar_Resu_keyOf : xAr mResu_keyOf 3 := by unfold xAr; decide +kernel
theorem cd_Resu_signsOf : xCode mResu_signsOf := ⟨Or.inr ⟨rfl, xin (List.mem_of_getElem? (i := 788) (by decide +kernel)) rfl⟩, xin (List.mem_of_getElem? (i := 8) (by decide +kernel)) rfl, by decide⟩
theorem ar_Resu_signsOf : xAr mResu_signsOf 1 := by unfold xAr; decide +kernel
theorem cd_Resu_signOf : xCode mResu_signOf := ⟨Or.inr ⟨rfl, xin (List.mem_of_getElem? (i := 804) (by decide +kernel)) rfl⟩, xin (List.mem_of_getElem? (i := 8) (by decide +kernel)) rfl, by decide⟩
theorem ar_Resu_signOf : xAr mResu_signOf 2 := by unfold xAr; decide +kernel
theorem cd_Resu_entriesOf : xCode mResu_entriesOf := ⟨Or.inr ⟨rfl, xin (List.mem_of_getElem? (i := 779) (by decide +kernel)) rfl⟩, xin (List.mem_of_getElem? (i := 8) (by decide +kernel)) rfl, by decide⟩
theorem ar_Resu_entriesOf : xAr mResu_entriesOf 1 := by unfold xAr; decide +kernel
theorem cd_Resu_entryOf : xCode mResu_entryOf := ⟨Or.inr ⟨rfl, xin (List.mem_of_getElem? (i := 800) (by decide +kernel)) rfl⟩, xin (List.mem_of_getElem? (i := 8) (by decide +kernel)) rfl, by decide⟩
theorem ar_Resu_entryOf : xAr mResu_entryOf 2 := by unfold xAr; decide +kernel
theorem cd_Resu_digitOf : xCode mResu_digitOf := ⟨Or.inr ⟨rfl, xin (List.mem_of_getElem? (i := 783) (by decide +kernel)) rfl⟩, xin (List.mem_of_getElem? (i := 8) (by decide +kernel)) rfl, by decide⟩
theorem ar_Resu_digitOf : xAr mResu_digitOf 2 := by unfold xAr; decide +kernel
theorem cd_Rule_init : xCode mRule_init := ⟨Or.inr ⟨rfl, xin (List.mem_of_getElem? (i := 49) (by decide +kernel)) rfl⟩, xin (List.mem_of_getElem? (i := 3) (by decide +kernel)) rfl, by decide⟩
theorem ar_Rule_init : xAr mRule_init 0 := by unfold xAr; decide +kernel
theorem cd_Rule_count : xCode mRule_count := ⟨Or.inr ⟨rfl, xin (List.mem_of_getElem? (i := 598) (by decide +kernel)) rfl⟩, xin (List.mem_of_getElem? (i := 3) (by decide +kernel)) rfl, by decide⟩
theorem ar_Rule_count : xAr mRule_count 0 := by unfold xAr; decide +kernel
theorem cd_Rule_add : xCode mRule_add := ⟨Or.inr ⟨rfl, xin (List.mem_of_getElem? (i := 603) (by decide +kernel)) rfl⟩, xin (List.mem_of_getElem? (i := 3) (by decide +kernel)) rfl, by decide⟩
theorem ar_Rule_add : xAr mRule_add 2 := by unfold xAr; decide +kernel
theorem cd_Rule_contextsOf : xCode mRule_contextsOf := ⟨Or.inr ⟨rfl, xin (List.mem_of_getElem? (i := 615) (by decide +kernel)) rfl⟩, xin (List.mem_of_getElem? (i := 3) (by decide +kernel)) rfl, by decide⟩
theorem ar_Rule_contextsOf : xAr mRule_contextsOf 1 := by unfold xAr; decide +kernel
theorem cd_Rule_latestContextOf : xCode mRule_latestContextOf := ⟨Or.inr ⟨rfl, xin (List.mem_of_getElem? (i := 624) (by decide +kernel)) rfl⟩, xin (List.mem_of_getElem? (i := 3) (by decide +kernel)) rfl, by decide⟩
theorem ar_Rule_latestContextOf : xAr mRule_latestContextOf 1 := by unfold xAr; decide +kernel
theorem cd_Rule_addContext : xCode mRule_addContext := ⟨Or.inr ⟨rfl, xin (List.mem_of_getElem? (i := 620) (by decide +kernel)) rfl⟩, xin (List.mem_of_getElem? (i := 3) (by decide +kernel)) rfl, by decide⟩
theorem ar_Rule_addContext : xAr mRule_addContext 3 := by unfold xAr; decide +kernel
theorem cd_Rule_settle : xCode mRule_settle := ⟨Or.inr ⟨rfl, xin (List.mem_of_getElem? (i := 577) (by decide +kernel)) rfl⟩, xin (List.mem_of_getElem? (i := 3) (by decide +kernel)) rfl, by decide⟩
theorem ar_Rule_settle : xAr mRule_settle 1 := by unfold xAr; decide +kernel
theorem cd_Rule_asks : xCode mRule_asks := ⟨Or.inr ⟨rfl, xin (List.mem_of_getElem? (i := 582) (by decide +kernel)) rfl⟩, xin (List.mem_of_getElem? (i := 3) (by decide +kernel)) rfl, by decide⟩
theorem ar_Rule_asks : xAr mRule_asks 2 := by unfold xAr; decide +kernel
theorem cd_Rule_bars : xCode mRule_bars := ⟨Or.inr ⟨rfl, xin (List.mem_of_getElem? (i := 585) (by decide +kernel)) rfl⟩, xin (List.mem_of_getElem? (i := 3) (by decide +kernel)) rfl, by decide⟩
theorem ar_Rule_bars : xAr mRule_bars 3 := by unfold xAr; decide +kernel
theorem cd_Rule_brokenBy : xCode mRule_brokenBy := ⟨Or.inr ⟨rfl, xin (List.mem_of_getElem? (i := 350) (by decide +kernel)) rfl⟩, xin (List.mem_of_getElem? (i := 3) (by decide +kernel)) rfl, by decide⟩
theorem ar_Rule_brokenBy : xAr mRule_brokenBy 3 := by unfold xAr; decide +kernel
theorem cd_Samp_init : xCode mSamp_init := ⟨Or.inr ⟨rfl, xin (List.mem_of_getElem? (i := 153) (by decide +kernel)) rfl⟩, xin (List.mem_of_getElem? (i := 7) (by decide +kernel)) rfl, by decide⟩
theorem ar_Samp_init : xAr mSamp_init 0 := by unfold xAr; decide +kernel
theorem cd_Samp_count : xCode mSamp_count := ⟨Or.inr ⟨rfl, xin (List.mem_of_getElem? (i := 449) (by decide +kernel)) rfl⟩, xin (List.mem_of_getElem? (i := 7) (by decide +kernel)) rfl, by decide⟩
theorem ar_Samp_count : xAr mSamp_count 0 := by unfold xAr; decide +kernel
theorem cd_Samp_lowerOf : xCode mSamp_lowerOf := ⟨Or.inr ⟨rfl, xin (List.mem_of_getElem? (i := 453) (by decide +kernel)) rfl⟩, xin (List.mem_of_getElem? (i := 7) (by decide +kernel)) rfl, by decide⟩
theorem ar_Samp_lowerOf : xAr mSamp_lowerOf 1 := by unfold xAr; decide +kernel
theorem cd_Samp_upperOf : xCode mSamp_upperOf := ⟨Or.inr ⟨rfl, xin (List.mem_of_getElem? (i := 457) (by decide +kernel)) rfl⟩, xin (List.mem_of_getElem? (i := 7) (by decide +kernel)) rfl, by decide⟩
theorem ar_Samp_upperOf : xAr mSamp_upperOf 1 := by unfold xAr; decide +kernel
theorem cd_Samp_add : xCode mSamp_add := ⟨Or.inr ⟨rfl, xin (List.mem_of_getElem? (i := 816) (by decide +kernel)) rfl⟩, xin (List.mem_of_getElem? (i := 7) (by decide +kernel)) rfl, by decide⟩
theorem ar_Samp_add : xAr mSamp_add 2 := by unfold xAr; decide +kernel
theorem cd_Sear_init : xCode mSear_init := ⟨Or.inr ⟨rfl, xin (List.mem_of_getElem? (i := 191) (by decide +kernel)) rfl⟩, xin (List.mem_of_getElem? (i := 9) (by decide +kernel)) rfl, by decide⟩
theorem ar_Sear_init : xAr mSear_init 2 := by unfold xAr; decide +kernel
theorem cd_Sear_goThrough : xCode mSear_goThrough := ⟨Or.inr ⟨rfl, xin (List.mem_of_getElem? (i := 318) (by decide +kernel)) rfl⟩, xin (List.mem_of_getElem? (i := 9) (by decide +kernel)) rfl, by decide⟩
theorem ar_Sear_goThrough : xAr mSear_goThrough 1 := by unfold xAr; decide +kernel
theorem cd_Sear_upperAt : xCode mSear_upperAt := ⟨Or.inr ⟨rfl, xin (List.mem_of_getElem? (i := 370) (by decide +kernel)) rfl⟩, xin (List.mem_of_getElem? (i := 9) (by decide +kernel)) rfl, by decide⟩
theorem ar_Sear_upperAt : xAr mSear_upperAt 1 := by unfold xAr; decide +kernel
theorem cd_Sear_extend : xCode mSear_extend := ⟨Or.inr ⟨rfl, xin (List.mem_of_getElem? (i := 331) (by decide +kernel)) rfl⟩, xin (List.mem_of_getElem? (i := 9) (by decide +kernel)) rfl, by decide⟩
theorem ar_Sear_extend : xAr mSear_extend 3 := by unfold xAr; decide +kernel
theorem cd_Sear_put : xCode mSear_put := ⟨Or.inr ⟨rfl, xin (List.mem_of_getElem? (i := 433) (by decide +kernel)) rfl⟩, xin (List.mem_of_getElem? (i := 9) (by decide +kernel)) rfl, by decide⟩
theorem ar_Sear_put : xAr mSear_put 4 := by unfold xAr; decide +kernel
theorem cd_Sear_fitsLower : xCode mSear_fitsLower := ⟨Or.inr ⟨rfl, xin (List.mem_of_getElem? (i := 410) (by decide +kernel)) rfl⟩, xin (List.mem_of_getElem? (i := 9) (by decide +kernel)) rfl, by decide⟩
theorem ar_Sear_fitsLower : xAr mSear_fitsLower 3 := by unfold xAr; decide +kernel
theorem cd_Sear_fitsUpper : xCode mSear_fitsUpper := ⟨Or.inr ⟨rfl, xin (List.mem_of_getElem? (i := 419) (by decide +kernel)) rfl⟩, xin (List.mem_of_getElem? (i := 9) (by decide +kernel)) rfl, by decide⟩
theorem ar_Sear_fitsUpper : xAr mSear_fitsUpper 2 := by unfold xAr; decide +kernel
theorem cd_Sear_brokenRules : xCode mSear_brokenRules := ⟨Or.inr ⟨rfl, xin (List.mem_of_getElem? (i := 346) (by decide +kernel)) rfl⟩, xin (List.mem_of_getElem? (i := 9) (by decide +kernel)) rfl, by decide⟩
theorem ar_Sear_brokenRules : xAr mSear_brokenRules 1 := by unfold xAr; decide +kernel
theorem cd_Writ_init : xCode mWrit_init := ⟨Or.inr ⟨rfl, xin (List.mem_of_getElem? (i := 229) (by decide +kernel)) rfl⟩, xin (List.mem_of_getElem? (i := 11) (by decide +kernel)) rfl, by decide⟩
theorem ar_Writ_init : xAr mWrit_init 3 := by unfold xAr; decide +kernel
theorem cd_Writ_takesUpper : xCode mWrit_takesUpper := ⟨Or.inr ⟨rfl, xin (List.mem_of_getElem? (i := 429) (by decide +kernel)) rfl⟩, xin (List.mem_of_getElem? (i := 11) (by decide +kernel)) rfl, by decide⟩
theorem ar_Writ_takesUpper : xAr mWrit_takesUpper 2 := by unfold xAr; decide +kernel
theorem cd_Writ_mayEnd : xCode mWrit_mayEnd := ⟨Or.inr ⟨rfl, xin (List.mem_of_getElem? (i := 342) (by decide +kernel)) rfl⟩, xin (List.mem_of_getElem? (i := 11) (by decide +kernel)) rfl, by decide⟩
theorem ar_Writ_mayEnd : xAr mWrit_mayEnd 1 := by unfold xAr; decide +kernel
theorem cd_Writ_meet : xCode mWrit_meet := ⟨Or.inr ⟨rfl, xin (List.mem_of_getElem? (i := 363) (by decide +kernel)) rfl⟩, xin (List.mem_of_getElem? (i := 11) (by decide +kernel)) rfl, by decide⟩
theorem ar_Writ_meet : xAr mWrit_meet 2 := by unfold xAr; decide +kernel
theorem cd_Writ_isDone : xCode mWrit_isDone := ⟨Or.inr ⟨rfl, xin (List.mem_of_getElem? (i := 402) (by decide +kernel)) rfl⟩, xin (List.mem_of_getElem? (i := 11) (by decide +kernel)) rfl, by decide⟩
theorem ar_Writ_isDone : xAr mWrit_isDone 0 := by unfold xAr; decide +kernel
theorem cd_Law_pair : xCode mLaw_pair := ⟨Or.inl (xin (List.mem_of_getElem? (i := 460) (by decide +kernel)) rfl), xin (List.mem_of_getElem? (i := 0) (by decide +kernel)) rfl, by decide⟩
theorem ar_Law_pair : xAr mLaw_pair 4 := by unfold xAr; decide +kernel
theorem cd_Law_rule : xCode mLaw_rule := ⟨Or.inl (xin (List.mem_of_getElem? (i := 588) (by decide +kernel)) rfl), xin (List.mem_of_getElem? (i := 0) (by decide +kernel)) rfl, by decide⟩
theorem ar_Law_rule : xAr mLaw_rule 4 := by unfold xAr; decide +kernel
theorem cd_Law_context : xCode mLaw_context := ⟨Or.inl (xin (List.mem_of_getElem? (i := 606) (by decide +kernel)) rfl), xin (List.mem_of_getElem? (i := 0) (by decide +kernel)) rfl, by decide⟩
theorem ar_Law_context : xAr mLaw_context 5 := by unfold xAr; decide +kernel
theorem cd_Law_element : xCode mLaw_element := ⟨Or.inl (xin (List.mem_of_getElem? (i := 635) (by decide +kernel)) rfl), xin (List.mem_of_getElem? (i := 0) (by decide +kernel)) rfl, by decide⟩
theorem ar_Law_element : xAr mLaw_element 6 := by unfold xAr; decide +kernel
theorem cd_Law_entry : xCode mLaw_entry := ⟨Or.inl (xin (List.mem_of_getElem? (i := 661) (by decide +kernel)) rfl), xin (List.mem_of_getElem? (i := 0) (by decide +kernel)) rfl, by decide⟩
theorem ar_Law_entry : xAr mLaw_entry 4 := by unfold xAr; decide +kernel
theorem cd_Law_spell : xCode mLaw_spell := ⟨Or.inl (xin (List.mem_of_getElem? (i := 681) (by decide +kernel)) rfl), xin (List.mem_of_getElem? (i := 0) (by decide +kernel)) rfl, by decide⟩
theorem ar_Law_spell : xAr mLaw_spell 4 := by unfold xAr; decide +kernel
theorem cd_Law_type : xCode mLaw_type := ⟨Or.inl (xin (List.mem_of_getElem? (i := 696) (by decide +kernel)) rfl), xin (List.mem_of_getElem? (i := 0) (by decide +kernel)) rfl, by decide⟩
theorem ar_Law_type : xAr mLaw_type 4 := by unfold xAr; decide +kernel
theorem cd_Law_write : xCode mLaw_write := ⟨Or.inl (xin (List.mem_of_getElem? (i := 704) (by decide +kernel)) rfl), xin (List.mem_of_getElem? (i := 0) (by decide +kernel)) rfl, by decide⟩
theorem ar_Law_write : xAr mLaw_write 2 := by unfold xAr; decide +kernel
theorem cd_Law_analyse : xCode mLaw_analyse := ⟨Or.inl (xin (List.mem_of_getElem? (i := 727) (by decide +kernel)) rfl), xin (List.mem_of_getElem? (i := 0) (by decide +kernel)) rfl, by decide⟩
theorem ar_Law_analyse : xAr mLaw_analyse 2 := by unfold xAr; decide +kernel
theorem cd_Law_length : xCode mLaw_length := ⟨Or.inl (xin (List.mem_of_getElem? (i := 754) (by decide +kernel)) rfl), xin (List.mem_of_getElem? (i := 0) (by decide +kernel)) rfl, by decide⟩
theorem ar_Law_length : xAr mLaw_length 4 := by unfold xAr; decide +kernel
theorem cd_Law_result : xCode mLaw_result := ⟨Or.inl (xin (List.mem_of_getElem? (i := 791) (by decide +kernel)) rfl), xin (List.mem_of_getElem? (i := 0) (by decide +kernel)) rfl, by decide⟩
theorem ar_Law_result : xAr mLaw_result 5 := by unfold xAr; decide +kernel
theorem cd_Law_sample : xCode mLaw_sample := ⟨Or.inl (xin (List.mem_of_getElem? (i := 807) (by decide +kernel)) rfl), xin (List.mem_of_getElem? (i := 0) (by decide +kernel)) rfl, by decide⟩
theorem ar_Law_sample : xAr mLaw_sample 2 := by unfold xAr; decide +kernel
end
section
theorem dLine_init_0 : decode bLine_init 0 = .ok (.aload_n 0, 1) := by decide +kernel
theorem dLine_init_1 : decode bLine_init 1 = .ok (.invokespecial 3, 3) := by decide +kernel
theorem dLine_init_4 : decode bLine_init 4 = .ok (.aload_n 0, 1) := by decide +kernel
theorem dLine_init_5 : decode bLine_init 5 = .ok (.iload_n 1, 1) := by decide +kernel
theorem dLine_init_6 : decode bLine_init 6 = .ok (.newarray .int, 2) := by decide +kernel
theorem dLine_init_8 : decode bLine_init 8 = .ok (.putfield 9, 3) := by decide +kernel
theorem dLine_init_11 : decode bLine_init 11 = .ok (.return_, 1) := by decide +kernel
theorem dLine_size_0 : decode bLine_size 0 = .ok (.aload_n 0, 1) := by decide +kernel
theorem dLine_size_1 : decode bLine_size 1 = .ok (.getfield 15, 3) := by decide +kernel
theorem dLine_size_4 : decode bLine_size 4 = .ok (.ireturn, 1) := by decide +kernel
theorem dLine_isFull_0 : decode bLine_isFull 0 = .ok (.aload_n 0, 1) := by decide +kernel
theorem dLine_isFull_1 : decode bLine_isFull 1 = .ok (.getfield 15, 3) := by decide +kernel
theorem dLine_isFull_4 : decode bLine_isFull 4 = .ok (.aload_n 0, 1) := by decide +kernel
theorem dLine_isFull_5 : decode bLine_isFull 5 = .ok (.getfield 9, 3) := by decide +kernel
theorem dLine_isFull_8 : decode bLine_isFull 8 = .ok (.arraylength, 1) := by decide +kernel
theorem dLine_isFull_9 : decode bLine_isFull 9 = .ok (.if_icmp .lt 7, 3) := by decide +kernel
theorem dLine_isFull_12 : decode bLine_isFull 12 = .ok (.iconst 1, 1) := by decide +kernel
theorem dLine_isFull_13 : decode bLine_isFull 13 = .ok (.goto 4, 3) := by decide +kernel
theorem dLine_isFull_16 : decode bLine_isFull 16 = .ok (.iconst 0, 1) := by decide +kernel
theorem dLine_isFull_17 : decode bLine_isFull 17 = .ok (.ireturn, 1) := by decide +kernel
theorem dLine_hasRoomFor_0 : decode bLine_hasRoomFor 0 = .ok (.aload_n 1, 1) := by decide +kernel
theorem dLine_hasRoomFor_1 : decode bLine_hasRoomFor 1 = .ok (.getfield 15, 3) := by decide +kernel
theorem dLine_hasRoomFor_4 : decode bLine_hasRoomFor 4 = .ok (.aload_n 0, 1) := by decide +kernel
theorem dLine_hasRoomFor_5 : decode bLine_hasRoomFor 5 = .ok (.getfield 9, 3) := by decide +kernel
theorem dLine_hasRoomFor_8 : decode bLine_hasRoomFor 8 = .ok (.arraylength, 1) := by decide +kernel
theorem dLine_hasRoomFor_9 : decode bLine_hasRoomFor 9 = .ok (.aload_n 0, 1) := by decide +kernel
theorem dLine_hasRoomFor_10 : decode bLine_hasRoomFor 10 = .ok (.getfield 15, 3) := by decide +kernel
theorem dLine_hasRoomFor_13 : decode bLine_hasRoomFor 13 = .ok (.isub, 1) := by decide +kernel
theorem dLine_hasRoomFor_14 : decode bLine_hasRoomFor 14 = .ok (.if_icmp .gt 7, 3) := by decide +kernel
theorem dLine_hasRoomFor_17 : decode bLine_hasRoomFor 17 = .ok (.iconst 1, 1) := by decide +kernel
theorem dLine_hasRoomFor_18 : decode bLine_hasRoomFor 18 = .ok (.goto 4, 3) := by decide +kernel
theorem dLine_hasRoomFor_21 : decode bLine_hasRoomFor 21 = .ok (.iconst 0, 1) := by decide +kernel
theorem dLine_hasRoomFor_22 : decode bLine_hasRoomFor 22 = .ok (.ireturn, 1) := by decide +kernel
theorem dLine_signAt_0 : decode bLine_signAt 0 = .ok (.iload_n 1, 1) := by decide +kernel
theorem dLine_signAt_1 : decode bLine_signAt 1 = .ok (.ifCond .lt 20, 3) := by decide +kernel
theorem dLine_signAt_4 : decode bLine_signAt 4 = .ok (.iload_n 1, 1) := by decide +kernel
theorem dLine_signAt_5 : decode bLine_signAt 5 = .ok (.aload_n 0, 1) := by decide +kernel
theorem dLine_signAt_6 : decode bLine_signAt 6 = .ok (.getfield 15, 3) := by decide +kernel
theorem dLine_signAt_9 : decode bLine_signAt 9 = .ok (.if_icmp .ge 12, 3) := by decide +kernel
theorem dLine_signAt_12 : decode bLine_signAt 12 = .ok (.aload_n 0, 1) := by decide +kernel
theorem dLine_signAt_13 : decode bLine_signAt 13 = .ok (.getfield 9, 3) := by decide +kernel
theorem dLine_signAt_16 : decode bLine_signAt 16 = .ok (.iload_n 1, 1) := by decide +kernel
theorem dLine_signAt_17 : decode bLine_signAt 17 = .ok (.iaload, 1) := by decide +kernel
theorem dLine_signAt_18 : decode bLine_signAt 18 = .ok (.goto 4, 3) := by decide +kernel
theorem dLine_signAt_21 : decode bLine_signAt 21 = .ok (.iconst 0, 1) := by decide +kernel
theorem dLine_signAt_22 : decode bLine_signAt 22 = .ok (.ireturn, 1) := by decide +kernel
theorem dLine_add_0 : decode bLine_add 0 = .ok (.aload_n 0, 1) := by decide +kernel
theorem dLine_add_1 : decode bLine_add 1 = .ok (.invokevirtual 19, 3) := by decide +kernel
theorem dLine_add_4 : decode bLine_add 4 = .ok (.ifCond .ne 23, 3) := by decide +kernel
theorem dLine_add_7 : decode bLine_add 7 = .ok (.aload_n 0, 1) := by decide +kernel
theorem dLine_add_8 : decode bLine_add 8 = .ok (.getfield 9, 3) := by decide +kernel
theorem dLine_add_11 : decode bLine_add 11 = .ok (.aload_n 0, 1) := by decide +kernel
theorem dLine_add_12 : decode bLine_add 12 = .ok (.getfield 15, 3) := by decide +kernel
theorem dLine_add_15 : decode bLine_add 15 = .ok (.iload_n 1, 1) := by decide +kernel
theorem dLine_add_16 : decode bLine_add 16 = .ok (.iastore, 1) := by decide +kernel
theorem dLine_add_17 : decode bLine_add 17 = .ok (.aload_n 0, 1) := by decide +kernel
theorem dLine_add_18 : decode bLine_add 18 = .ok (.dup, 1) := by decide +kernel
theorem dLine_add_19 : decode bLine_add 19 = .ok (.getfield 15, 3) := by decide +kernel
theorem dLine_add_22 : decode bLine_add 22 = .ok (.iconst 1, 1) := by decide +kernel
theorem dLine_add_23 : decode bLine_add 23 = .ok (.iadd, 1) := by decide +kernel
theorem dLine_add_24 : decode bLine_add 24 = .ok (.putfield 15, 3) := by decide +kernel
theorem dLine_add_27 : decode bLine_add 27 = .ok (.aload_n 0, 1) := by decide +kernel
theorem dLine_add_28 : decode bLine_add 28 = .ok (.getfield 15, 3) := by decide +kernel
theorem dLine_add_31 : decode bLine_add 31 = .ok (.ireturn, 1) := by decide +kernel
theorem dLine_addAll_0 : decode bLine_addAll 0 = .ok (.iconst 0, 1) := by decide +kernel
theorem dLine_addAll_1 : decode bLine_addAll 1 = .ok (.istore_n 2, 1) := by decide +kernel
theorem dLine_addAll_2 : decode bLine_addAll 2 = .ok (.iload_n 2, 1) := by decide +kernel
theorem dLine_addAll_3 : decode bLine_addAll 3 = .ok (.aload_n 1, 1) := by decide +kernel
theorem dLine_addAll_4 : decode bLine_addAll 4 = .ok (.getfield 15, 3) := by decide +kernel
theorem dLine_addAll_7 : decode bLine_addAll 7 = .ok (.if_icmp .ge 20, 3) := by decide +kernel
theorem dLine_addAll_10 : decode bLine_addAll 10 = .ok (.aload_n 0, 1) := by decide +kernel
theorem dLine_addAll_11 : decode bLine_addAll 11 = .ok (.aload_n 1, 1) := by decide +kernel
theorem dLine_addAll_12 : decode bLine_addAll 12 = .ok (.getfield 9, 3) := by decide +kernel
theorem dLine_addAll_15 : decode bLine_addAll 15 = .ok (.iload_n 2, 1) := by decide +kernel
theorem dLine_addAll_16 : decode bLine_addAll 16 = .ok (.iaload, 1) := by decide +kernel
theorem dLine_addAll_17 : decode bLine_addAll 17 = .ok (.invokevirtual 23, 3) := by decide +kernel
theorem dLine_addAll_20 : decode bLine_addAll 20 = .ok (.pop, 1) := by decide +kernel
theorem dLine_addAll_21 : decode bLine_addAll 21 = .ok (.iinc 2 1, 3) := by decide +kernel
theorem dLine_addAll_24 : decode bLine_addAll 24 = .ok (.goto (-22), 3) := by decide +kernel
theorem dLine_addAll_27 : decode bLine_addAll 27 = .ok (.return_, 1) := by decide +kernel
theorem dLine_cutTo_0 : decode bLine_cutTo 0 = .ok (.iload_n 1, 1) := by decide +kernel
theorem dLine_cutTo_1 : decode bLine_cutTo 1 = .ok (.ifCond .lt 16, 3) := by decide +kernel
theorem dLine_cutTo_4 : decode bLine_cutTo 4 = .ok (.iload_n 1, 1) := by decide +kernel
theorem dLine_cutTo_5 : decode bLine_cutTo 5 = .ok (.aload_n 0, 1) := by decide +kernel
theorem dLine_cutTo_6 : decode bLine_cutTo 6 = .ok (.getfield 15, 3) := by decide +kernel
theorem dLine_cutTo_9 : decode bLine_cutTo 9 = .ok (.if_icmp .ge 8, 3) := by decide +kernel
theorem dLine_cutTo_12 : decode bLine_cutTo 12 = .ok (.aload_n 0, 1) := by decide +kernel
theorem dLine_cutTo_13 : decode bLine_cutTo 13 = .ok (.iload_n 1, 1) := by decide +kernel
theorem dLine_cutTo_14 : decode bLine_cutTo 14 = .ok (.putfield 15, 3) := by decide +kernel
theorem dLine_cutTo_17 : decode bLine_cutTo 17 = .ok (.return_, 1) := by decide +kernel
theorem dLine_copy_0 : decode bLine_copy 0 = .ok (.aload_n 0, 1) := by decide +kernel
theorem dLine_copy_1 : decode bLine_copy 1 = .ok (.iconst 0, 1) := by decide +kernel
theorem dLine_copy_2 : decode bLine_copy 2 = .ok (.invokevirtual 27, 3) := by decide +kernel
theorem dLine_copy_5 : decode bLine_copy 5 = .ok (.aload_n 0, 1) := by decide +kernel
theorem dLine_copy_6 : decode bLine_copy 6 = .ok (.aload_n 1, 1) := by decide +kernel
theorem dLine_copy_7 : decode bLine_copy 7 = .ok (.invokevirtual 31, 3) := by decide +kernel
theorem dLine_copy_10 : decode bLine_copy 10 = .ok (.return_, 1) := by decide +kernel
theorem dPairs_init_0 : decode bPairs_init 0 = .ok (.aload_n 0, 1) := by decide +kernel
theorem dPairs_init_1 : decode bPairs_init 1 = .ok (.invokespecial 3, 3) := by decide +kernel
theorem dPairs_init_4 : decode bPairs_init 4 = .ok (.aload_n 0, 1) := by decide +kernel
theorem dPairs_init_5 : decode bPairs_init 5 = .ok (.bipush 10, 2) := by decide +kernel
theorem dPairs_init_7 : decode bPairs_init 7 = .ok (.newarray .int, 2) := by decide +kernel
theorem dPairs_init_9 : decode bPairs_init 9 = .ok (.putfield 9, 3) := by decide +kernel
theorem dPairs_init_12 : decode bPairs_init 12 = .ok (.aload_n 0, 1) := by decide +kernel
theorem dPairs_init_13 : decode bPairs_init 13 = .ok (.bipush 10, 2) := by decide +kernel
theorem dPairs_init_15 : decode bPairs_init 15 = .ok (.newarray .int, 2) := by decide +kernel
theorem dPairs_init_17 : decode bPairs_init 17 = .ok (.putfield 15, 3) := by decide +kernel
theorem dPairs_init_20 : decode bPairs_init 20 = .ok (.return_, 1) := by decide +kernel
theorem dPairs_count_0 : decode bPairs_count 0 = .ok (.aload_n 0, 1) := by decide +kernel
theorem dPairs_count_1 : decode bPairs_count 1 = .ok (.getfield 18, 3) := by decide +kernel
theorem dPairs_count_4 : decode bPairs_count 4 = .ok (.ireturn, 1) := by decide +kernel
theorem dPairs_lowerOf_0 : decode bPairs_lowerOf 0 = .ok (.aload_n 0, 1) := by decide +kernel
theorem dPairs_lowerOf_1 : decode bPairs_lowerOf 1 = .ok (.getfield 9, 3) := by decide +kernel
theorem dPairs_lowerOf_4 : decode bPairs_lowerOf 4 = .ok (.iload_n 1, 1) := by decide +kernel
theorem dPairs_lowerOf_5 : decode bPairs_lowerOf 5 = .ok (.iaload, 1) := by decide +kernel
theorem dPairs_lowerOf_6 : decode bPairs_lowerOf 6 = .ok (.ireturn, 1) := by decide +kernel
theorem dPairs_upperOf_0 : decode bPairs_upperOf 0 = .ok (.aload_n 0, 1) := by decide +kernel
theorem dPairs_upperOf_1 : decode bPairs_upperOf 1 = .ok (.getfield 15, 3) := by decide +kernel
theorem dPairs_upperOf_4 : decode bPairs_upperOf 4 = .ok (.iload_n 1, 1) := by decide +kernel
theorem dPairs_upperOf_5 : decode bPairs_upperOf 5 = .ok (.iaload, 1) := by decide +kernel
theorem dPairs_upperOf_6 : decode bPairs_upperOf 6 = .ok (.ireturn, 1) := by decide +kernel
theorem dPairs_has_0 : decode bPairs_has 0 = .ok (.iconst 0, 1) := by decide +kernel
theorem dPairs_has_1 : decode bPairs_has 1 = .ok (.istore_n 3, 1) := by decide +kernel
theorem dPairs_has_2 : decode bPairs_has 2 = .ok (.iload_n 3, 1) := by decide +kernel
theorem dPairs_has_3 : decode bPairs_has 3 = .ok (.aload_n 0, 1) := by decide +kernel
theorem dPairs_has_4 : decode bPairs_has 4 = .ok (.getfield 18, 3) := by decide +kernel
theorem dPairs_has_7 : decode bPairs_has 7 = .ok (.if_icmp .ge 31, 3) := by decide +kernel
theorem dPairs_has_10 : decode bPairs_has 10 = .ok (.aload_n 0, 1) := by decide +kernel
theorem dPairs_has_11 : decode bPairs_has 11 = .ok (.getfield 9, 3) := by decide +kernel
theorem dPairs_has_14 : decode bPairs_has 14 = .ok (.iload_n 3, 1) := by decide +kernel
theorem dPairs_has_15 : decode bPairs_has 15 = .ok (.iaload, 1) := by decide +kernel
theorem dPairs_has_16 : decode bPairs_has 16 = .ok (.iload_n 1, 1) := by decide +kernel
theorem dPairs_has_17 : decode bPairs_has 17 = .ok (.if_icmp .ne 15, 3) := by decide +kernel
theorem dPairs_has_20 : decode bPairs_has 20 = .ok (.aload_n 0, 1) := by decide +kernel
theorem dPairs_has_21 : decode bPairs_has 21 = .ok (.getfield 15, 3) := by decide +kernel
theorem dPairs_has_24 : decode bPairs_has 24 = .ok (.iload_n 3, 1) := by decide +kernel
theorem dPairs_has_25 : decode bPairs_has 25 = .ok (.iaload, 1) := by decide +kernel
theorem dPairs_has_26 : decode bPairs_has 26 = .ok (.iload_n 2, 1) := by decide +kernel
theorem dPairs_has_27 : decode bPairs_has 27 = .ok (.if_icmp .ne 5, 3) := by decide +kernel
theorem dPairs_has_30 : decode bPairs_has 30 = .ok (.iconst 1, 1) := by decide +kernel
theorem dPairs_has_31 : decode bPairs_has 31 = .ok (.ireturn, 1) := by decide +kernel
theorem dPairs_has_32 : decode bPairs_has 32 = .ok (.iinc 3 1, 3) := by decide +kernel
theorem dPairs_has_35 : decode bPairs_has 35 = .ok (.goto (-33), 3) := by decide +kernel
theorem dPairs_has_38 : decode bPairs_has 38 = .ok (.iconst 0, 1) := by decide +kernel
theorem dPairs_has_39 : decode bPairs_has 39 = .ok (.ireturn, 1) := by decide +kernel
theorem dPairs_hasRoomFor_0 : decode bPairs_hasRoomFor 0 = .ok (.iconst 0, 1) := by decide +kernel
theorem dPairs_hasRoomFor_1 : decode bPairs_hasRoomFor 1 = .ok (.istore_n 2, 1) := by decide +kernel
theorem dPairs_hasRoomFor_2 : decode bPairs_hasRoomFor 2 = .ok (.iconst 0, 1) := by decide +kernel
theorem dPairs_hasRoomFor_3 : decode bPairs_hasRoomFor 3 = .ok (.istore_n 3, 1) := by decide +kernel
theorem dPairs_hasRoomFor_4 : decode bPairs_hasRoomFor 4 = .ok (.iload_n 3, 1) := by decide +kernel
theorem dPairs_hasRoomFor_5 : decode bPairs_hasRoomFor 5 = .ok (.aload_n 0, 1) := by decide +kernel
theorem dPairs_hasRoomFor_6 : decode bPairs_hasRoomFor 6 = .ok (.getfield 18, 3) := by decide +kernel
theorem dPairs_hasRoomFor_9 : decode bPairs_hasRoomFor 9 = .ok (.if_icmp .ge 22, 3) := by decide +kernel
theorem dPairs_hasRoomFor_12 : decode bPairs_hasRoomFor 12 = .ok (.aload_n 0, 1) := by decide +kernel
theorem dPairs_hasRoomFor_13 : decode bPairs_hasRoomFor 13 = .ok (.getfield 9, 3) := by decide +kernel
theorem dPairs_hasRoomFor_16 : decode bPairs_hasRoomFor 16 = .ok (.iload_n 3, 1) := by decide +kernel
theorem dPairs_hasRoomFor_17 : decode bPairs_hasRoomFor 17 = .ok (.iaload, 1) := by decide +kernel
theorem dPairs_hasRoomFor_18 : decode bPairs_hasRoomFor 18 = .ok (.iload_n 1, 1) := by decide +kernel
theorem dPairs_hasRoomFor_19 : decode bPairs_hasRoomFor 19 = .ok (.if_icmp .ne 6, 3) := by decide +kernel
theorem dPairs_hasRoomFor_22 : decode bPairs_hasRoomFor 22 = .ok (.iinc 2 1, 3) := by decide +kernel
theorem dPairs_hasRoomFor_25 : decode bPairs_hasRoomFor 25 = .ok (.iinc 3 1, 3) := by decide +kernel
theorem dPairs_hasRoomFor_28 : decode bPairs_hasRoomFor 28 = .ok (.goto (-24), 3) := by decide +kernel
theorem dPairs_hasRoomFor_31 : decode bPairs_hasRoomFor 31 = .ok (.iload_n 1, 1) := by decide +kernel
theorem dPairs_hasRoomFor_32 : decode bPairs_hasRoomFor 32 = .ok (.ifCond .ne 7, 3) := by decide +kernel
theorem dPairs_hasRoomFor_35 : decode bPairs_hasRoomFor 35 = .ok (.iconst 2, 1) := by decide +kernel
theorem dPairs_hasRoomFor_36 : decode bPairs_hasRoomFor 36 = .ok (.goto 4, 3) := by decide +kernel
theorem dPairs_hasRoomFor_39 : decode bPairs_hasRoomFor 39 = .ok (.iconst 3, 1) := by decide +kernel
theorem dPairs_hasRoomFor_40 : decode bPairs_hasRoomFor 40 = .ok (.istore_n 3, 1) := by decide +kernel
theorem dPairs_hasRoomFor_41 : decode bPairs_hasRoomFor 41 = .ok (.aload_n 0, 1) := by decide +kernel
theorem dPairs_hasRoomFor_42 : decode bPairs_hasRoomFor 42 = .ok (.getfield 18, 3) := by decide +kernel
theorem dPairs_hasRoomFor_45 : decode bPairs_hasRoomFor 45 = .ok (.bipush 10, 2) := by decide +kernel
theorem dPairs_hasRoomFor_47 : decode bPairs_hasRoomFor 47 = .ok (.if_icmp .ge 12, 3) := by decide +kernel
theorem dPairs_hasRoomFor_50 : decode bPairs_hasRoomFor 50 = .ok (.iload_n 2, 1) := by decide +kernel
theorem dPairs_hasRoomFor_51 : decode bPairs_hasRoomFor 51 = .ok (.iload_n 3, 1) := by decide +kernel
theorem dPairs_hasRoomFor_52 : decode bPairs_hasRoomFor 52 = .ok (.if_icmp .ge 7, 3) := by decide +kernel
theorem dPairs_hasRoomFor_55 : decode bPairs_hasRoomFor 55 = .ok (.iconst 1, 1) := by decide +kernel
theorem dPairs_hasRoomFor_56 : decode bPairs_hasRoomFor 56 = .ok (.goto 4, 3) := by decide +kernel
theorem dPairs_hasRoomFor_59 : decode bPairs_hasRoomFor 59 = .ok (.iconst 0, 1) := by decide +kernel
theorem dPairs_hasRoomFor_60 : decode bPairs_hasRoomFor 60 = .ok (.ireturn, 1) := by decide +kernel
theorem dPairs_add_0 : decode bPairs_add 0 = .ok (.aload_n 0, 1) := by decide +kernel
theorem dPairs_add_1 : decode bPairs_add 1 = .ok (.getfield 9, 3) := by decide +kernel
theorem dPairs_add_4 : decode bPairs_add 4 = .ok (.aload_n 0, 1) := by decide +kernel
theorem dPairs_add_5 : decode bPairs_add 5 = .ok (.getfield 18, 3) := by decide +kernel
theorem dPairs_add_8 : decode bPairs_add 8 = .ok (.iload_n 1, 1) := by decide +kernel
theorem dPairs_add_9 : decode bPairs_add 9 = .ok (.iastore, 1) := by decide +kernel
theorem dPairs_add_10 : decode bPairs_add 10 = .ok (.aload_n 0, 1) := by decide +kernel
theorem dPairs_add_11 : decode bPairs_add 11 = .ok (.getfield 15, 3) := by decide +kernel
theorem dPairs_add_14 : decode bPairs_add 14 = .ok (.aload_n 0, 1) := by decide +kernel
theorem dPairs_add_15 : decode bPairs_add 15 = .ok (.getfield 18, 3) := by decide +kernel
theorem dPairs_add_18 : decode bPairs_add 18 = .ok (.iload_n 2, 1) := by decide +kernel
theorem dPairs_add_19 : decode bPairs_add 19 = .ok (.iastore, 1) := by decide +kernel
theorem dPairs_add_20 : decode bPairs_add 20 = .ok (.aload_n 0, 1) := by decide +kernel
theorem dPairs_add_21 : decode bPairs_add 21 = .ok (.dup, 1) := by decide +kernel
theorem dPairs_add_22 : decode bPairs_add 22 = .ok (.getfield 18, 3) := by decide +kernel
theorem dPairs_add_25 : decode bPairs_add 25 = .ok (.iconst 1, 1) := by decide +kernel
theorem dPairs_add_26 : decode bPairs_add 26 = .ok (.iadd, 1) := by decide +kernel
theorem dPairs_add_27 : decode bPairs_add 27 = .ok (.putfield 18, 3) := by decide +kernel
theorem dPairs_add_30 : decode bPairs_add 30 = .ok (.aload_n 0, 1) := by decide +kernel
theorem dPairs_add_31 : decode bPairs_add 31 = .ok (.getfield 18, 3) := by decide +kernel
theorem dPairs_add_34 : decode bPairs_add 34 = .ok (.iconst 1, 1) := by decide +kernel
theorem dPairs_add_35 : decode bPairs_add 35 = .ok (.isub, 1) := by decide +kernel
theorem dPairs_add_36 : decode bPairs_add 36 = .ok (.ireturn, 1) := by decide +kernel
theorem dPatt_init_0 : decode bPatt_init 0 = .ok (.aload_n 0, 1) := by decide +kernel
theorem dPatt_init_1 : decode bPatt_init 1 = .ok (.invokespecial 5, 3) := by decide +kernel
theorem dPatt_init_4 : decode bPatt_init 4 = .ok (.aload_n 0, 1) := by decide +kernel
theorem dPatt_init_5 : decode bPatt_init 5 = .ok (.bipush 8, 2) := by decide +kernel
theorem dPatt_init_7 : decode bPatt_init 7 = .ok (.newarray .int, 2) := by decide +kernel
theorem dPatt_init_9 : decode bPatt_init 9 = .ok (.putfield 11, 3) := by decide +kernel
theorem dPatt_init_12 : decode bPatt_init 12 = .ok (.aload_n 0, 1) := by decide +kernel
theorem dPatt_init_13 : decode bPatt_init 13 = .ok (.bipush 10, 2) := by decide +kernel
theorem dPatt_init_15 : decode bPatt_init 15 = .ok (.newarray .int, 2) := by decide +kernel
theorem dPatt_init_17 : decode bPatt_init 17 = .ok (.putfield 15, 3) := by decide +kernel
theorem dPatt_init_20 : decode bPatt_init 20 = .ok (.aload_n 0, 1) := by decide +kernel
theorem dPatt_init_21 : decode bPatt_init 21 = .ok (.iload_n 1, 1) := by decide +kernel
theorem dPatt_init_22 : decode bPatt_init 22 = .ok (.putfield 18, 3) := by decide +kernel
theorem dPatt_init_25 : decode bPatt_init 25 = .ok (.return_, 1) := by decide +kernel
theorem dPatt_goalOf_0 : decode bPatt_goalOf 0 = .ok (.iconst 1, 1) := by decide +kernel
theorem dPatt_goalOf_1 : decode bPatt_goalOf 1 = .ok (.iconst 3, 1) := by decide +kernel
theorem dPatt_goalOf_2 : decode bPatt_goalOf 2 = .ok (.iload_n 0, 1) := by decide +kernel
theorem dPatt_goalOf_3 : decode bPatt_goalOf 3 = .ok (.imul, 1) := by decide +kernel
theorem dPatt_goalOf_4 : decode bPatt_goalOf 4 = .ok (.iconst 2, 1) := by decide +kernel
theorem dPatt_goalOf_5 : decode bPatt_goalOf 5 = .ok (.iadd, 1) := by decide +kernel
theorem dPatt_goalOf_6 : decode bPatt_goalOf 6 = .ok (.ishl, 1) := by decide +kernel
theorem dPatt_goalOf_7 : decode bPatt_goalOf 7 = .ok (.ireturn, 1) := by decide +kernel
theorem dPatt_open_0 : decode bPatt_open 0 = .ok (.aload_n 0, 1) := by decide +kernel
theorem dPatt_open_1 : decode bPatt_open 1 = .ok (.dup, 1) := by decide +kernel
theorem dPatt_open_2 : decode bPatt_open 2 = .ok (.getfield 22, 3) := by decide +kernel
theorem dPatt_open_5 : decode bPatt_open 5 = .ok (.iload_n 1, 1) := by decide +kernel
theorem dPatt_open_6 : decode bPatt_open 6 = .ok (.invokestatic 26, 3) := by decide +kernel
theorem dPatt_open_9 : decode bPatt_open 9 = .ok (.ior, 1) := by decide +kernel
theorem dPatt_open_10 : decode bPatt_open 10 = .ok (.putfield 22, 3) := by decide +kernel
theorem dPatt_open_13 : decode bPatt_open 13 = .ok (.iload_n 2, 1) := by decide +kernel
theorem dPatt_open_14 : decode bPatt_open 14 = .ok (.ifCond .ne 16, 3) := by decide +kernel
theorem dPatt_open_17 : decode bPatt_open 17 = .ok (.aload_n 0, 1) := by decide +kernel
theorem dPatt_open_18 : decode bPatt_open 18 = .ok (.dup, 1) := by decide +kernel
theorem dPatt_open_19 : decode bPatt_open 19 = .ok (.getfield 30, 3) := by decide +kernel
theorem dPatt_open_22 : decode bPatt_open 22 = .ok (.iload_n 1, 1) := by decide +kernel
theorem dPatt_open_23 : decode bPatt_open 23 = .ok (.invokestatic 26, 3) := by decide +kernel
theorem dPatt_open_26 : decode bPatt_open 26 = .ok (.ior, 1) := by decide +kernel
theorem dPatt_open_27 : decode bPatt_open 27 = .ok (.putfield 30, 3) := by decide +kernel
theorem dPatt_open_30 : decode bPatt_open 30 = .ok (.return_, 1) := by decide +kernel
theorem dPatt_elementsOf_0 : decode bPatt_elementsOf 0 = .ok (.aload_n 0, 1) := by decide +kernel
theorem dPatt_elementsOf_1 : decode bPatt_elementsOf 1 = .ok (.getfield 11, 3) := by decide +kernel
theorem dPatt_elementsOf_4 : decode bPatt_elementsOf 4 = .ok (.iload_n 1, 1) := by decide +kernel
theorem dPatt_elementsOf_5 : decode bPatt_elementsOf 5 = .ok (.iaload, 1) := by decide +kernel
theorem dPatt_elementsOf_6 : decode bPatt_elementsOf 6 = .ok (.ireturn, 1) := by decide +kernel
theorem dPatt_addElement_0 : decode bPatt_addElement 0 = .ok (.aload_n 0, 1) := by decide +kernel
theorem dPatt_addElement_1 : decode bPatt_addElement 1 = .ok (.aload_n 0, 1) := by decide +kernel
theorem dPatt_addElement_2 : decode bPatt_addElement 2 = .ok (.getfield 22, 3) := by decide +kernel
theorem dPatt_addElement_5 : decode bPatt_addElement 5 = .ok (.iload_n 1, 1) := by decide +kernel
theorem dPatt_addElement_6 : decode bPatt_addElement 6 = .ok (.invokestatic 33, 3) := by decide +kernel
theorem dPatt_addElement_9 : decode bPatt_addElement 9 = .ok (.putfield 22, 3) := by decide +kernel
theorem dPatt_addElement_12 : decode bPatt_addElement 12 = .ok (.aload_n 0, 1) := by decide +kernel
theorem dPatt_addElement_13 : decode bPatt_addElement 13 = .ok (.aload_n 0, 1) := by decide +kernel
theorem dPatt_addElement_14 : decode bPatt_addElement 14 = .ok (.getfield 30, 3) := by decide +kernel
theorem dPatt_addElement_17 : decode bPatt_addElement 17 = .ok (.iload_n 1, 1) := by decide +kernel
theorem dPatt_addElement_18 : decode bPatt_addElement 18 = .ok (.invokestatic 33, 3) := by decide +kernel
theorem dPatt_addElement_21 : decode bPatt_addElement 21 = .ok (.putfield 30, 3) := by decide +kernel
theorem dPatt_addElement_24 : decode bPatt_addElement 24 = .ok (.aload_n 0, 1) := by decide +kernel
theorem dPatt_addElement_25 : decode bPatt_addElement 25 = .ok (.getfield 18, 3) := by decide +kernel
theorem dPatt_addElement_28 : decode bPatt_addElement 28 = .ok (.ifCond .eq 8, 3) := by decide +kernel
theorem dPatt_addElement_31 : decode bPatt_addElement 31 = .ok (.aload_n 0, 1) := by decide +kernel
theorem dPatt_addElement_32 : decode bPatt_addElement 32 = .ok (.iload_n 1, 1) := by decide +kernel
theorem dPatt_addElement_33 : decode bPatt_addElement 33 = .ok (.invokevirtual 37, 3) := by decide +kernel
theorem dPatt_addElement_36 : decode bPatt_addElement 36 = .ok (.aload_n 0, 1) := by decide +kernel
theorem dPatt_addElement_37 : decode bPatt_addElement 37 = .ok (.getfield 11, 3) := by decide +kernel
theorem dPatt_addElement_40 : decode bPatt_addElement 40 = .ok (.iload_n 1, 1) := by decide +kernel
theorem dPatt_addElement_41 : decode bPatt_addElement 41 = .ok (.dup2, 1) := by decide +kernel
theorem dPatt_addElement_42 : decode bPatt_addElement 42 = .ok (.iaload, 1) := by decide +kernel
theorem dPatt_addElement_43 : decode bPatt_addElement 43 = .ok (.iconst 1, 1) := by decide +kernel
theorem dPatt_addElement_44 : decode bPatt_addElement 44 = .ok (.iadd, 1) := by decide +kernel
theorem dPatt_addElement_45 : decode bPatt_addElement 45 = .ok (.iastore, 1) := by decide +kernel
theorem dPatt_addElement_46 : decode bPatt_addElement 46 = .ok (.iload_n 1, 1) := by decide +kernel
theorem dPatt_addElement_47 : decode bPatt_addElement 47 = .ok (.invokestatic 26, 3) := by decide +kernel
theorem dPatt_addElement_50 : decode bPatt_addElement 50 = .ok (.aload_n 0, 1) := by decide +kernel
theorem dPatt_addElement_51 : decode bPatt_addElement 51 = .ok (.getfield 18, 3) := by decide +kernel
theorem dPatt_addElement_54 : decode bPatt_addElement 54 = .ok (.ifCond .eq 7, 3) := by decide +kernel
theorem dPatt_addElement_57 : decode bPatt_addElement 57 = .ok (.iconst 1, 1) := by decide +kernel
theorem dPatt_addElement_58 : decode bPatt_addElement 58 = .ok (.goto 9, 3) := by decide +kernel
theorem dPatt_addElement_61 : decode bPatt_addElement 61 = .ok (.aload_n 0, 1) := by decide +kernel
theorem dPatt_addElement_62 : decode bPatt_addElement 62 = .ok (.getfield 11, 3) := by decide +kernel
theorem dPatt_addElement_65 : decode bPatt_addElement 65 = .ok (.iload_n 1, 1) := by decide +kernel
theorem dPatt_addElement_66 : decode bPatt_addElement 66 = .ok (.iaload, 1) := by decide +kernel
theorem dPatt_addElement_67 : decode bPatt_addElement 67 = .ok (.ishr, 1) := by decide +kernel
theorem dPatt_addElement_68 : decode bPatt_addElement 68 = .ok (.istore 4, 2) := by decide +kernel
theorem dPatt_addElement_70 : decode bPatt_addElement 70 = .ok (.iconst 0, 1) := by decide +kernel
theorem dPatt_addElement_71 : decode bPatt_addElement 71 = .ok (.istore 5, 2) := by decide +kernel
theorem dPatt_addElement_73 : decode bPatt_addElement 73 = .ok (.iload 5, 2) := by decide +kernel
theorem dPatt_addElement_75 : decode bPatt_addElement 75 = .ok (.bipush 10, 2) := by decide +kernel
theorem dPatt_addElement_77 : decode bPatt_addElement 77 = .ok (.if_icmp .ge 31, 3) := by decide +kernel
theorem dPatt_addElement_80 : decode bPatt_addElement 80 = .ok (.iload_n 2, 1) := by decide +kernel
theorem dPatt_addElement_81 : decode bPatt_addElement 81 = .ok (.iload 5, 2) := by decide +kernel
theorem dPatt_addElement_83 : decode bPatt_addElement 83 = .ok (.ishr, 1) := by decide +kernel
theorem dPatt_addElement_84 : decode bPatt_addElement 84 = .ok (.iconst 1, 1) := by decide +kernel
theorem dPatt_addElement_85 : decode bPatt_addElement 85 = .ok (.iand, 1) := by decide +kernel
theorem dPatt_addElement_86 : decode bPatt_addElement 86 = .ok (.iconst 1, 1) := by decide +kernel
theorem dPatt_addElement_87 : decode bPatt_addElement 87 = .ok (.if_icmp .ne 15, 3) := by decide +kernel
theorem dPatt_addElement_90 : decode bPatt_addElement 90 = .ok (.aload_n 0, 1) := by decide +kernel
theorem dPatt_addElement_91 : decode bPatt_addElement 91 = .ok (.getfield 15, 3) := by decide +kernel
theorem dPatt_addElement_94 : decode bPatt_addElement 94 = .ok (.iload 5, 2) := by decide +kernel
theorem dPatt_addElement_96 : decode bPatt_addElement 96 = .ok (.dup2, 1) := by decide +kernel
theorem dPatt_addElement_97 : decode bPatt_addElement 97 = .ok (.iaload, 1) := by decide +kernel
theorem dPatt_addElement_98 : decode bPatt_addElement 98 = .ok (.iload 4, 2) := by decide +kernel
theorem dPatt_addElement_100 : decode bPatt_addElement 100 = .ok (.ior, 1) := by decide +kernel
theorem dPatt_addElement_101 : decode bPatt_addElement 101 = .ok (.iastore, 1) := by decide +kernel
theorem dPatt_addElement_102 : decode bPatt_addElement 102 = .ok (.iinc 5 1, 3) := by decide +kernel
theorem dPatt_addElement_105 : decode bPatt_addElement 105 = .ok (.goto (-32), 3) := by decide +kernel
theorem dPatt_addElement_108 : decode bPatt_addElement 108 = .ok (.iload_n 3, 1) := by decide +kernel
theorem dPatt_addElement_109 : decode bPatt_addElement 109 = .ok (.ifCond .eq 14, 3) := by decide +kernel
theorem dPatt_addElement_112 : decode bPatt_addElement 112 = .ok (.aload_n 0, 1) := by decide +kernel
theorem dPatt_addElement_113 : decode bPatt_addElement 113 = .ok (.dup, 1) := by decide +kernel
theorem dPatt_addElement_114 : decode bPatt_addElement 114 = .ok (.getfield 41, 3) := by decide +kernel
theorem dPatt_addElement_117 : decode bPatt_addElement 117 = .ok (.iload 4, 2) := by decide +kernel
theorem dPatt_addElement_119 : decode bPatt_addElement 119 = .ok (.ior, 1) := by decide +kernel
theorem dPatt_addElement_120 : decode bPatt_addElement 120 = .ok (.putfield 41, 3) := by decide +kernel
theorem dPatt_addElement_123 : decode bPatt_addElement 123 = .ok (.aload_n 0, 1) := by decide +kernel
theorem dPatt_addElement_124 : decode bPatt_addElement 124 = .ok (.getfield 11, 3) := by decide +kernel
theorem dPatt_addElement_127 : decode bPatt_addElement 127 = .ok (.iload_n 1, 1) := by decide +kernel
theorem dPatt_addElement_128 : decode bPatt_addElement 128 = .ok (.iaload, 1) := by decide +kernel
theorem dPatt_addElement_129 : decode bPatt_addElement 129 = .ok (.ireturn, 1) := by decide +kernel
theorem dPatt_lowerElements_0 : decode bPatt_lowerElements 0 = .ok (.aload_n 0, 1) := by decide +kernel
theorem dPatt_lowerElements_1 : decode bPatt_lowerElements 1 = .ok (.aload_n 0, 1) := by decide +kernel
theorem dPatt_lowerElements_2 : decode bPatt_lowerElements 2 = .ok (.getfield 41, 3) := by decide +kernel
theorem dPatt_lowerElements_5 : decode bPatt_lowerElements 5 = .ok (.iload_n 1, 1) := by decide +kernel
theorem dPatt_lowerElements_6 : decode bPatt_lowerElements 6 = .ok (.invokestatic 33, 3) := by decide +kernel
theorem dPatt_lowerElements_9 : decode bPatt_lowerElements 9 = .ok (.putfield 41, 3) := by decide +kernel
theorem dPatt_lowerElements_12 : decode bPatt_lowerElements 12 = .ok (.iconst 0, 1) := by decide +kernel
theorem dPatt_lowerElements_13 : decode bPatt_lowerElements 13 = .ok (.istore_n 2, 1) := by decide +kernel
theorem dPatt_lowerElements_14 : decode bPatt_lowerElements 14 = .ok (.iload_n 2, 1) := by decide +kernel
theorem dPatt_lowerElements_15 : decode bPatt_lowerElements 15 = .ok (.bipush 10, 2) := by decide +kernel
theorem dPatt_lowerElements_17 : decode bPatt_lowerElements 17 = .ok (.if_icmp .ge 25, 3) := by decide +kernel
theorem dPatt_lowerElements_20 : decode bPatt_lowerElements 20 = .ok (.aload_n 0, 1) := by decide +kernel
theorem dPatt_lowerElements_21 : decode bPatt_lowerElements 21 = .ok (.getfield 15, 3) := by decide +kernel
theorem dPatt_lowerElements_24 : decode bPatt_lowerElements 24 = .ok (.iload_n 2, 1) := by decide +kernel
theorem dPatt_lowerElements_25 : decode bPatt_lowerElements 25 = .ok (.aload_n 0, 1) := by decide +kernel
theorem dPatt_lowerElements_26 : decode bPatt_lowerElements 26 = .ok (.getfield 15, 3) := by decide +kernel
theorem dPatt_lowerElements_29 : decode bPatt_lowerElements 29 = .ok (.iload_n 2, 1) := by decide +kernel
theorem dPatt_lowerElements_30 : decode bPatt_lowerElements 30 = .ok (.iaload, 1) := by decide +kernel
theorem dPatt_lowerElements_31 : decode bPatt_lowerElements 31 = .ok (.iload_n 1, 1) := by decide +kernel
theorem dPatt_lowerElements_32 : decode bPatt_lowerElements 32 = .ok (.invokestatic 33, 3) := by decide +kernel
theorem dPatt_lowerElements_35 : decode bPatt_lowerElements 35 = .ok (.iastore, 1) := by decide +kernel
theorem dPatt_lowerElements_36 : decode bPatt_lowerElements 36 = .ok (.iinc 2 1, 3) := by decide +kernel
theorem dPatt_lowerElements_39 : decode bPatt_lowerElements 39 = .ok (.goto (-25), 3) := by decide +kernel
theorem dPatt_lowerElements_42 : decode bPatt_lowerElements 42 = .ok (.return_, 1) := by decide +kernel
theorem dPatt_lowered_0 : decode bPatt_lowered 0 = .ok (.bipush 7, 2) := by decide +kernel
theorem dPatt_lowered_2 : decode bPatt_lowered 2 = .ok (.iconst 3, 1) := by decide +kernel
theorem dPatt_lowered_3 : decode bPatt_lowered 3 = .ok (.iload_n 1, 1) := by decide +kernel
theorem dPatt_lowered_4 : decode bPatt_lowered 4 = .ok (.imul, 1) := by decide +kernel
theorem dPatt_lowered_5 : decode bPatt_lowered 5 = .ok (.ishl, 1) := by decide +kernel
theorem dPatt_lowered_6 : decode bPatt_lowered 6 = .ok (.istore_n 2, 1) := by decide +kernel
theorem dPatt_lowered_7 : decode bPatt_lowered 7 = .ok (.iload_n 0, 1) := by decide +kernel
theorem dPatt_lowered_8 : decode bPatt_lowered 8 = .ok (.iload_n 2, 1) := by decide +kernel
theorem dPatt_lowered_9 : decode bPatt_lowered 9 = .ok (.iconst (-1), 1) := by decide +kernel
theorem dPatt_lowered_10 : decode bPatt_lowered 10 = .ok (.ixor, 1) := by decide +kernel
theorem dPatt_lowered_11 : decode bPatt_lowered 11 = .ok (.iand, 1) := by decide +kernel
theorem dPatt_lowered_12 : decode bPatt_lowered 12 = .ok (.iload_n 0, 1) := by decide +kernel
theorem dPatt_lowered_13 : decode bPatt_lowered 13 = .ok (.iload_n 2, 1) := by decide +kernel
theorem dPatt_lowered_14 : decode bPatt_lowered 14 = .ok (.iand, 1) := by decide +kernel
theorem dPatt_lowered_15 : decode bPatt_lowered 15 = .ok (.iconst 1, 1) := by decide +kernel
theorem dPatt_lowered_16 : decode bPatt_lowered 16 = .ok (.ishr, 1) := by decide +kernel
theorem dPatt_lowered_17 : decode bPatt_lowered 17 = .ok (.ior, 1) := by decide +kernel
theorem dPatt_lowered_18 : decode bPatt_lowered 18 = .ok (.ireturn, 1) := by decide +kernel
theorem dPatt_first_0 : decode bPatt_first 0 = .ok (.aload_n 0, 1) := by decide +kernel
theorem dPatt_first_1 : decode bPatt_first 1 = .ok (.aload_n 0, 1) := by decide +kernel
theorem dPatt_first_2 : decode bPatt_first 2 = .ok (.getfield 22, 3) := by decide +kernel
theorem dPatt_first_5 : decode bPatt_first 5 = .ok (.invokevirtual 44, 3) := by decide +kernel
theorem dPatt_first_8 : decode bPatt_first 8 = .ok (.ireturn, 1) := by decide +kernel
theorem dPatt_next_0 : decode bPatt_next 0 = .ok (.iload_n 1, 1) := by decide +kernel
theorem dPatt_next_1 : decode bPatt_next 1 = .ok (.aload_n 0, 1) := by decide +kernel
theorem dPatt_next_2 : decode bPatt_next 2 = .ok (.getfield 15, 3) := by decide +kernel
theorem dPatt_next_5 : decode bPatt_next 5 = .ok (.iload_n 2, 1) := by decide +kernel
theorem dPatt_next_6 : decode bPatt_next 6 = .ok (.iaload, 1) := by decide +kernel
theorem dPatt_next_7 : decode bPatt_next 7 = .ok (.iand, 1) := by decide +kernel
theorem dPatt_next_8 : decode bPatt_next 8 = .ok (.istore_n 3, 1) := by decide +kernel
theorem dPatt_next_9 : decode bPatt_next 9 = .ok (.iload_n 3, 1) := by decide +kernel
theorem dPatt_next_10 : decode bPatt_next 10 = .ok (.aload_n 0, 1) := by decide +kernel
theorem dPatt_next_11 : decode bPatt_next 11 = .ok (.getfield 41, 3) := by decide +kernel
theorem dPatt_next_14 : decode bPatt_next 14 = .ok (.iand, 1) := by decide +kernel
theorem dPatt_next_15 : decode bPatt_next 15 = .ok (.iload_n 3, 1) := by decide +kernel
theorem dPatt_next_16 : decode bPatt_next 16 = .ok (.aload_n 0, 1) := by decide +kernel
theorem dPatt_next_17 : decode bPatt_next 17 = .ok (.getfield 41, 3) := by decide +kernel
theorem dPatt_next_20 : decode bPatt_next 20 = .ok (.iconst (-1), 1) := by decide +kernel
theorem dPatt_next_21 : decode bPatt_next 21 = .ok (.ixor, 1) := by decide +kernel
theorem dPatt_next_22 : decode bPatt_next 22 = .ok (.iand, 1) := by decide +kernel
theorem dPatt_next_23 : decode bPatt_next 23 = .ok (.iconst 1, 1) := by decide +kernel
theorem dPatt_next_24 : decode bPatt_next 24 = .ok (.ishl, 1) := by decide +kernel
theorem dPatt_next_25 : decode bPatt_next 25 = .ok (.ior, 1) := by decide +kernel
theorem dPatt_next_26 : decode bPatt_next 26 = .ok (.istore 4, 2) := by decide +kernel
theorem dPatt_next_28 : decode bPatt_next 28 = .ok (.aload_n 0, 1) := by decide +kernel
theorem dPatt_next_29 : decode bPatt_next 29 = .ok (.iload 4, 2) := by decide +kernel
theorem dPatt_next_31 : decode bPatt_next 31 = .ok (.aload_n 0, 1) := by decide +kernel
theorem dPatt_next_32 : decode bPatt_next 32 = .ok (.getfield 30, 3) := by decide +kernel
theorem dPatt_next_35 : decode bPatt_next 35 = .ok (.ior, 1) := by decide +kernel
theorem dPatt_next_36 : decode bPatt_next 36 = .ok (.invokevirtual 44, 3) := by decide +kernel
theorem dPatt_next_39 : decode bPatt_next 39 = .ok (.ireturn, 1) := by decide +kernel
theorem dPatt_skipStarred_0 : decode bPatt_skipStarred 0 = .ok (.iload_n 1, 1) := by decide +kernel
theorem dPatt_skipStarred_1 : decode bPatt_skipStarred 1 = .ok (.istore_n 2, 1) := by decide +kernel
theorem dPatt_skipStarred_2 : decode bPatt_skipStarred 2 = .ok (.iconst 0, 1) := by decide +kernel
theorem dPatt_skipStarred_3 : decode bPatt_skipStarred 3 = .ok (.istore_n 3, 1) := by decide +kernel
theorem dPatt_skipStarred_4 : decode bPatt_skipStarred 4 = .ok (.iload_n 3, 1) := by decide +kernel
theorem dPatt_skipStarred_5 : decode bPatt_skipStarred 5 = .ok (.iconst 2, 1) := by decide +kernel
theorem dPatt_skipStarred_6 : decode bPatt_skipStarred 6 = .ok (.if_icmp .ge 20, 3) := by decide +kernel
theorem dPatt_skipStarred_9 : decode bPatt_skipStarred 9 = .ok (.iload_n 2, 1) := by decide +kernel
theorem dPatt_skipStarred_10 : decode bPatt_skipStarred 10 = .ok (.iload_n 2, 1) := by decide +kernel
theorem dPatt_skipStarred_11 : decode bPatt_skipStarred 11 = .ok (.aload_n 0, 1) := by decide +kernel
theorem dPatt_skipStarred_12 : decode bPatt_skipStarred 12 = .ok (.getfield 41, 3) := by decide +kernel
theorem dPatt_skipStarred_15 : decode bPatt_skipStarred 15 = .ok (.iand, 1) := by decide +kernel
theorem dPatt_skipStarred_16 : decode bPatt_skipStarred 16 = .ok (.iconst 1, 1) := by decide +kernel
theorem dPatt_skipStarred_17 : decode bPatt_skipStarred 17 = .ok (.ishl, 1) := by decide +kernel
theorem dPatt_skipStarred_18 : decode bPatt_skipStarred 18 = .ok (.ior, 1) := by decide +kernel
theorem dPatt_skipStarred_19 : decode bPatt_skipStarred 19 = .ok (.istore_n 2, 1) := by decide +kernel
theorem dPatt_skipStarred_20 : decode bPatt_skipStarred 20 = .ok (.iinc 3 1, 3) := by decide +kernel
theorem dPatt_skipStarred_23 : decode bPatt_skipStarred 23 = .ok (.goto (-19), 3) := by decide +kernel
theorem dPatt_skipStarred_26 : decode bPatt_skipStarred 26 = .ok (.iload_n 2, 1) := by decide +kernel
theorem dPatt_skipStarred_27 : decode bPatt_skipStarred 27 = .ok (.ireturn, 1) := by decide +kernel
end
section
theorem dResu_init_0 : decode bResu_init 0 = .ok (.aload_n 0, 1) := by decide +kernel
theorem dResu_init_1 : decode bResu_init 1 = .ok (.invokespecial 3, 3) := by decide +kernel
theorem dResu_init_4 : decode bResu_init 4 = .ok (.aload_n 0, 1) := by decide +kernel
theorem dResu_init_5 : decode bResu_init 5 = .ok (.bipush 60, 2) := by decide +kernel
theorem dResu_init_7 : decode bResu_init 7 = .ok (.newarray .long, 2) := by decide +kernel
theorem dResu_init_9 : decode bResu_init 9 = .ok (.putfield 9, 3) := by decide +kernel
theorem dResu_init_12 : decode bResu_init 12 = .ok (.return_, 1) := by decide +kernel
theorem dResu_count_0 : decode bResu_count 0 = .ok (.aload_n 0, 1) := by decide +kernel
theorem dResu_count_1 : decode bResu_count 1 = .ok (.getfield 15, 3) := by decide +kernel
theorem dResu_count_4 : decode bResu_count 4 = .ok (.ireturn, 1) := by decide +kernel
theorem dResu_isTooMany_0 : decode bResu_isTooMany 0 = .ok (.aload_n 0, 1) := by decide +kernel
theorem dResu_isTooMany_1 : decode bResu_isTooMany 1 = .ok (.getfield 19, 3) := by decide +kernel
theorem dResu_isTooMany_4 : decode bResu_isTooMany 4 = .ok (.ireturn, 1) := by decide +kernel
theorem dResu_clear_0 : decode bResu_clear 0 = .ok (.aload_n 0, 1) := by decide +kernel
theorem dResu_clear_1 : decode bResu_clear 1 = .ok (.iconst 0, 1) := by decide +kernel
theorem dResu_clear_2 : decode bResu_clear 2 = .ok (.putfield 15, 3) := by decide +kernel
theorem dResu_clear_5 : decode bResu_clear 5 = .ok (.aload_n 0, 1) := by decide +kernel
theorem dResu_clear_6 : decode bResu_clear 6 = .ok (.iconst 0, 1) := by decide +kernel
theorem dResu_clear_7 : decode bResu_clear 7 = .ok (.putfield 19, 3) := by decide +kernel
theorem dResu_clear_10 : decode bResu_clear 10 = .ok (.return_, 1) := by decide +kernel
theorem dResu_copy_0 : decode bResu_copy 0 = .ok (.aload_n 1, 1) := by decide +kernel
theorem dResu_copy_1 : decode bResu_copy 1 = .ok (.getfield 9, 3) := by decide +kernel
theorem dResu_copy_4 : decode bResu_copy 4 = .ok (.iconst 0, 1) := by decide +kernel
theorem dResu_copy_5 : decode bResu_copy 5 = .ok (.aload_n 0, 1) := by decide +kernel
theorem dResu_copy_6 : decode bResu_copy 6 = .ok (.getfield 9, 3) := by decide +kernel
theorem dResu_copy_9 : decode bResu_copy 9 = .ok (.iconst 0, 1) := by decide +kernel
theorem dResu_copy_10 : decode bResu_copy 10 = .ok (.bipush 60, 2) := by decide +kernel
theorem dResu_copy_12 : decode bResu_copy 12 = .ok (.invokestatic 23, 3) := by decide +kernel
theorem dResu_copy_15 : decode bResu_copy 15 = .ok (.aload_n 0, 1) := by decide +kernel
theorem dResu_copy_16 : decode bResu_copy 16 = .ok (.aload_n 1, 1) := by decide +kernel
theorem dResu_copy_17 : decode bResu_copy 17 = .ok (.getfield 15, 3) := by decide +kernel
theorem dResu_copy_20 : decode bResu_copy 20 = .ok (.putfield 15, 3) := by decide +kernel
theorem dResu_copy_23 : decode bResu_copy 23 = .ok (.aload_n 0, 1) := by decide +kernel
theorem dResu_copy_24 : decode bResu_copy 24 = .ok (.aload_n 1, 1) := by decide +kernel
theorem dResu_copy_25 : decode bResu_copy 25 = .ok (.getfield 19, 3) := by decide +kernel
theorem dResu_copy_28 : decode bResu_copy 28 = .ok (.putfield 19, 3) := by decide +kernel
theorem dResu_copy_31 : decode bResu_copy 31 = .ok (.return_, 1) := by decide +kernel
theorem dResu_add_0 : decode bResu_add 0 = .ok (.aload_n 0, 1) := by decide +kernel
theorem dResu_add_1 : decode bResu_add 1 = .ok (.getfield 15, 3) := by decide +kernel
theorem dResu_add_4 : decode bResu_add 4 = .ok (.istore_n 3, 1) := by decide +kernel
theorem dResu_add_5 : decode bResu_add 5 = .ok (.iload_n 3, 1) := by decide +kernel
theorem dResu_add_6 : decode bResu_add 6 = .ok (.ifCond .le 22, 3) := by decide +kernel
theorem dResu_add_9 : decode bResu_add 9 = .ok (.aload_n 0, 1) := by decide +kernel
theorem dResu_add_10 : decode bResu_add 10 = .ok (.getfield 9, 3) := by decide +kernel
theorem dResu_add_13 : decode bResu_add 13 = .ok (.iload_n 3, 1) := by decide +kernel
theorem dResu_add_14 : decode bResu_add 14 = .ok (.iconst 1, 1) := by decide +kernel
theorem dResu_add_15 : decode bResu_add 15 = .ok (.isub, 1) := by decide +kernel
theorem dResu_add_16 : decode bResu_add 16 = .ok (.laload, 1) := by decide +kernel
theorem dResu_add_17 : decode bResu_add 17 = .ok (.lload_n 1, 1) := by decide +kernel
theorem dResu_add_18 : decode bResu_add 18 = .ok (.lcmp, 1) := by decide +kernel
theorem dResu_add_19 : decode bResu_add 19 = .ok (.ifCond .le 9, 3) := by decide +kernel
theorem dResu_add_22 : decode bResu_add 22 = .ok (.iinc 3 (-1), 3) := by decide +kernel
theorem dResu_add_25 : decode bResu_add 25 = .ok (.goto (-20), 3) := by decide +kernel
theorem dResu_add_28 : decode bResu_add 28 = .ok (.iload_n 3, 1) := by decide +kernel
theorem dResu_add_29 : decode bResu_add 29 = .ok (.ifCond .le 17, 3) := by decide +kernel
theorem dResu_add_32 : decode bResu_add 32 = .ok (.aload_n 0, 1) := by decide +kernel
theorem dResu_add_33 : decode bResu_add 33 = .ok (.getfield 9, 3) := by decide +kernel
theorem dResu_add_36 : decode bResu_add 36 = .ok (.iload_n 3, 1) := by decide +kernel
theorem dResu_add_37 : decode bResu_add 37 = .ok (.iconst 1, 1) := by decide +kernel
theorem dResu_add_38 : decode bResu_add 38 = .ok (.isub, 1) := by decide +kernel
theorem dResu_add_39 : decode bResu_add 39 = .ok (.laload, 1) := by decide +kernel
theorem dResu_add_40 : decode bResu_add 40 = .ok (.lload_n 1, 1) := by decide +kernel
theorem dResu_add_41 : decode bResu_add 41 = .ok (.lcmp, 1) := by decide +kernel
theorem dResu_add_42 : decode bResu_add 42 = .ok (.ifCond .ne 4, 3) := by decide +kernel
theorem dResu_add_45 : decode bResu_add 45 = .ok (.return_, 1) := by decide +kernel
theorem dResu_add_46 : decode bResu_add 46 = .ok (.aload_n 0, 1) := by decide +kernel
theorem dResu_add_47 : decode bResu_add 47 = .ok (.getfield 15, 3) := by decide +kernel
theorem dResu_add_50 : decode bResu_add 50 = .ok (.bipush 60, 2) := by decide +kernel
theorem dResu_add_52 : decode bResu_add 52 = .ok (.if_icmp .lt 9, 3) := by decide +kernel
theorem dResu_add_55 : decode bResu_add 55 = .ok (.aload_n 0, 1) := by decide +kernel
theorem dResu_add_56 : decode bResu_add 56 = .ok (.iconst 1, 1) := by decide +kernel
theorem dResu_add_57 : decode bResu_add 57 = .ok (.putfield 19, 3) := by decide +kernel
theorem dResu_add_60 : decode bResu_add 60 = .ok (.return_, 1) := by decide +kernel
theorem dResu_add_61 : decode bResu_add 61 = .ok (.aload_n 0, 1) := by decide +kernel
theorem dResu_add_62 : decode bResu_add 62 = .ok (.getfield 15, 3) := by decide +kernel
theorem dResu_add_65 : decode bResu_add 65 = .ok (.istore 4, 2) := by decide +kernel
theorem dResu_add_67 : decode bResu_add 67 = .ok (.iload 4, 2) := by decide +kernel
theorem dResu_add_69 : decode bResu_add 69 = .ok (.iload_n 3, 1) := by decide +kernel
theorem dResu_add_70 : decode bResu_add 70 = .ok (.if_icmp .le 25, 3) := by decide +kernel
theorem dResu_add_73 : decode bResu_add 73 = .ok (.aload_n 0, 1) := by decide +kernel
theorem dResu_add_74 : decode bResu_add 74 = .ok (.getfield 9, 3) := by decide +kernel
theorem dResu_add_77 : decode bResu_add 77 = .ok (.iload 4, 2) := by decide +kernel
theorem dResu_add_79 : decode bResu_add 79 = .ok (.aload_n 0, 1) := by decide +kernel
theorem dResu_add_80 : decode bResu_add 80 = .ok (.getfield 9, 3) := by decide +kernel
theorem dResu_add_83 : decode bResu_add 83 = .ok (.iload 4, 2) := by decide +kernel
theorem dResu_add_85 : decode bResu_add 85 = .ok (.iconst 1, 1) := by decide +kernel
theorem dResu_add_86 : decode bResu_add 86 = .ok (.isub, 1) := by decide +kernel
theorem dResu_add_87 : decode bResu_add 87 = .ok (.laload, 1) := by decide +kernel
theorem dResu_add_88 : decode bResu_add 88 = .ok (.lastore, 1) := by decide +kernel
theorem dResu_add_89 : decode bResu_add 89 = .ok (.iinc 4 (-1), 3) := by decide +kernel
theorem dResu_add_92 : decode bResu_add 92 = .ok (.goto (-25), 3) := by decide +kernel
theorem dResu_add_95 : decode bResu_add 95 = .ok (.aload_n 0, 1) := by decide +kernel
theorem dResu_add_96 : decode bResu_add 96 = .ok (.getfield 9, 3) := by decide +kernel
theorem dResu_add_99 : decode bResu_add 99 = .ok (.iload_n 3, 1) := by decide +kernel
theorem dResu_add_100 : decode bResu_add 100 = .ok (.lload_n 1, 1) := by decide +kernel
theorem dResu_add_101 : decode bResu_add 101 = .ok (.lastore, 1) := by decide +kernel
theorem dResu_add_102 : decode bResu_add 102 = .ok (.aload_n 0, 1) := by decide +kernel
theorem dResu_add_103 : decode bResu_add 103 = .ok (.dup, 1) := by decide +kernel
theorem dResu_add_104 : decode bResu_add 104 = .ok (.getfield 15, 3) := by decide +kernel
theorem dResu_add_107 : decode bResu_add 107 = .ok (.iconst 1, 1) := by decide +kernel
theorem dResu_add_108 : decode bResu_add 108 = .ok (.iadd, 1) := by decide +kernel
theorem dResu_add_109 : decode bResu_add 109 = .ok (.putfield 15, 3) := by decide +kernel
theorem dResu_add_112 : decode bResu_add 112 = .ok (.return_, 1) := by decide +kernel
theorem dResu_keyOf_0 : decode bResu_keyOf 0 = .ok (.aload_n 0, 1) := by decide +kernel
theorem dResu_keyOf_1 : decode bResu_keyOf 1 = .ok (.invokevirtual 29, 3) := by decide +kernel
theorem dResu_keyOf_4 : decode bResu_keyOf 4 = .ok (.i2l, 1) := by decide +kernel
theorem dResu_keyOf_5 : decode bResu_keyOf 5 = .ok (.lstore_n 3, 1) := by decide +kernel
theorem dResu_keyOf_6 : decode bResu_keyOf 6 = .ok (.iconst 0, 1) := by decide +kernel
theorem dResu_keyOf_7 : decode bResu_keyOf 7 = .ok (.istore 5, 2) := by decide +kernel
theorem dResu_keyOf_9 : decode bResu_keyOf 9 = .ok (.iload 5, 2) := by decide +kernel
theorem dResu_keyOf_11 : decode bResu_keyOf 11 = .ok (.iconst 5, 1) := by decide +kernel
theorem dResu_keyOf_12 : decode bResu_keyOf 12 = .ok (.if_icmp .ge 21, 3) := by decide +kernel
theorem dResu_keyOf_15 : decode bResu_keyOf 15 = .ok (.lload_n 3, 1) := by decide +kernel
theorem dResu_keyOf_16 : decode bResu_keyOf 16 = .ok (.iconst 3, 1) := by decide +kernel
theorem dResu_keyOf_17 : decode bResu_keyOf 17 = .ok (.lshl, 1) := by decide +kernel
theorem dResu_keyOf_18 : decode bResu_keyOf 18 = .ok (.aload_n 0, 1) := by decide +kernel
theorem dResu_keyOf_19 : decode bResu_keyOf 19 = .ok (.iload 5, 2) := by decide +kernel
theorem dResu_keyOf_21 : decode bResu_keyOf 21 = .ok (.invokevirtual 35, 3) := by decide +kernel
theorem dResu_keyOf_24 : decode bResu_keyOf 24 = .ok (.i2l, 1) := by decide +kernel
theorem dResu_keyOf_25 : decode bResu_keyOf 25 = .ok (.lor, 1) := by decide +kernel
theorem dResu_keyOf_26 : decode bResu_keyOf 26 = .ok (.lstore_n 3, 1) := by decide +kernel
theorem dResu_keyOf_27 : decode bResu_keyOf 27 = .ok (.iinc 5 1, 3) := by decide +kernel
theorem dResu_keyOf_30 : decode bResu_keyOf 30 = .ok (.goto (-21), 3) := by decide +kernel
theorem dResu_keyOf_33 : decode bResu_keyOf 33 = .ok (.lload_n 3, 1) := by decide +kernel
theorem dResu_keyOf_34 : decode bResu_keyOf 34 = .ok (.iconst 3, 1) := by decide +kernel
theorem dResu_keyOf_35 : decode bResu_keyOf 35 = .ok (.lshl, 1) := by decide +kernel
theorem dResu_keyOf_36 : decode bResu_keyOf 36 = .ok (.iload_n 2, 1) := by decide +kernel
theorem dResu_keyOf_37 : decode bResu_keyOf 37 = .ok (.i2l, 1) := by decide +kernel
theorem dResu_keyOf_38 : decode bResu_keyOf 38 = .ok (.lor, 1) := by decide +kernel
theorem dResu_keyOf_39 : decode bResu_keyOf 39 = .ok (.lstore_n 3, 1) := by decide +kernel
theorem dResu_keyOf_40 : decode bResu_keyOf 40 = .ok (.iconst 0, 1) := by decide +kernel
theorem dResu_keyOf_41 : decode bResu_keyOf 41 = .ok (.istore 5, 2) := by decide +kernel
theorem dResu_keyOf_43 : decode bResu_keyOf 43 = .ok (.iload 5, 2) := by decide +kernel
theorem dResu_keyOf_45 : decode bResu_keyOf 45 = .ok (.iconst 4, 1) := by decide +kernel
theorem dResu_keyOf_46 : decode bResu_keyOf 46 = .ok (.if_icmp .ge 36, 3) := by decide +kernel
theorem dResu_keyOf_49 : decode bResu_keyOf 49 = .ok (.lload_n 3, 1) := by decide +kernel
theorem dResu_keyOf_50 : decode bResu_keyOf 50 = .ok (.iconst 3, 1) := by decide +kernel
theorem dResu_keyOf_51 : decode bResu_keyOf 51 = .ok (.lshl, 1) := by decide +kernel
theorem dResu_keyOf_52 : decode bResu_keyOf 52 = .ok (.iload 5, 2) := by decide +kernel
theorem dResu_keyOf_54 : decode bResu_keyOf 54 = .ok (.iload_n 2, 1) := by decide +kernel
theorem dResu_keyOf_55 : decode bResu_keyOf 55 = .ok (.if_icmp .ge 17, 3) := by decide +kernel
theorem dResu_keyOf_58 : decode bResu_keyOf 58 = .ok (.iload 5, 2) := by decide +kernel
theorem dResu_keyOf_60 : decode bResu_keyOf 60 = .ok (.aload_n 1, 1) := by decide +kernel
theorem dResu_keyOf_61 : decode bResu_keyOf 61 = .ok (.arraylength, 1) := by decide +kernel
theorem dResu_keyOf_62 : decode bResu_keyOf 62 = .ok (.if_icmp .ge 10, 3) := by decide +kernel
theorem dResu_keyOf_65 : decode bResu_keyOf 65 = .ok (.aload_n 1, 1) := by decide +kernel
theorem dResu_keyOf_66 : decode bResu_keyOf 66 = .ok (.iload 5, 2) := by decide +kernel
theorem dResu_keyOf_68 : decode bResu_keyOf 68 = .ok (.iaload, 1) := by decide +kernel
theorem dResu_keyOf_69 : decode bResu_keyOf 69 = .ok (.goto 4, 3) := by decide +kernel
theorem dResu_keyOf_72 : decode bResu_keyOf 72 = .ok (.iconst 0, 1) := by decide +kernel
theorem dResu_keyOf_73 : decode bResu_keyOf 73 = .ok (.i2l, 1) := by decide +kernel
theorem dResu_keyOf_74 : decode bResu_keyOf 74 = .ok (.lor, 1) := by decide +kernel
theorem dResu_keyOf_75 : decode bResu_keyOf 75 = .ok (.lstore_n 3, 1) := by decide +kernel
theorem dResu_keyOf_76 : decode bResu_keyOf 76 = .ok (.iinc 5 1, 3) := by decide +kernel
theorem dResu_keyOf_79 : decode bResu_keyOf 79 = .ok (.goto (-36), 3) := by decide +kernel
theorem dResu_keyOf_82 : decode bResu_keyOf 82 = .ok (.lload_n 3, 1) := by decide +kernel
theorem dResu_keyOf_83 : decode bResu_keyOf 83 = .ok (.lreturn, 1) := by decide +kernel
theorem dResu_signsOf_0 : decode bResu_signsOf 0 = .ok (.aload_n 0, 1) := by decide +kernel
theorem dResu_signsOf_1 : decode bResu_signsOf 1 = .ok (.iload_n 1, 1) := by decide +kernel
theorem dResu_signsOf_2 : decode bResu_signsOf 2 = .ok (.iconst 0, 1) := by decide +kernel
theorem dResu_signsOf_3 : decode bResu_signsOf 3 = .ok (.invokevirtual 39, 3) := by decide +kernel
theorem dResu_signsOf_6 : decode bResu_signsOf 6 = .ok (.ireturn, 1) := by decide +kernel
theorem dResu_signOf_0 : decode bResu_signOf 0 = .ok (.aload_n 0, 1) := by decide +kernel
theorem dResu_signOf_1 : decode bResu_signOf 1 = .ok (.iload_n 1, 1) := by decide +kernel
theorem dResu_signOf_2 : decode bResu_signOf 2 = .ok (.iconst 1, 1) := by decide +kernel
theorem dResu_signOf_3 : decode bResu_signOf 3 = .ok (.iload_n 2, 1) := by decide +kernel
theorem dResu_signOf_4 : decode bResu_signOf 4 = .ok (.iadd, 1) := by decide +kernel
theorem dResu_signOf_5 : decode bResu_signOf 5 = .ok (.invokevirtual 39, 3) := by decide +kernel
theorem dResu_signOf_8 : decode bResu_signOf 8 = .ok (.ireturn, 1) := by decide +kernel
theorem dResu_entriesOf_0 : decode bResu_entriesOf 0 = .ok (.aload_n 0, 1) := by decide +kernel
theorem dResu_entriesOf_1 : decode bResu_entriesOf 1 = .ok (.iload_n 1, 1) := by decide +kernel
theorem dResu_entriesOf_2 : decode bResu_entriesOf 2 = .ok (.bipush 6, 2) := by decide +kernel
theorem dResu_entriesOf_4 : decode bResu_entriesOf 4 = .ok (.invokevirtual 39, 3) := by decide +kernel
theorem dResu_entriesOf_7 : decode bResu_entriesOf 7 = .ok (.ireturn, 1) := by decide +kernel
theorem dResu_entryOf_0 : decode bResu_entryOf 0 = .ok (.aload_n 0, 1) := by decide +kernel
theorem dResu_entryOf_1 : decode bResu_entryOf 1 = .ok (.iload_n 1, 1) := by decide +kernel
theorem dResu_entryOf_2 : decode bResu_entryOf 2 = .ok (.bipush 7, 2) := by decide +kernel
theorem dResu_entryOf_4 : decode bResu_entryOf 4 = .ok (.iload_n 2, 1) := by decide +kernel
theorem dResu_entryOf_5 : decode bResu_entryOf 5 = .ok (.iadd, 1) := by decide +kernel
theorem dResu_entryOf_6 : decode bResu_entryOf 6 = .ok (.invokevirtual 39, 3) := by decide +kernel
theorem dResu_entryOf_9 : decode bResu_entryOf 9 = .ok (.ireturn, 1) := by decide +kernel
theorem dResu_digitOf_0 : decode bResu_digitOf 0 = .ok (.ldc2_w 43, 3) := by decide +kernel
theorem dResu_digitOf_3 : decode bResu_digitOf 3 = .ok (.lstore_n 3, 1) := by decide +kernel
theorem dResu_digitOf_4 : decode bResu_digitOf 4 = .ok (.aload_n 0, 1) := by decide +kernel
theorem dResu_digitOf_5 : decode bResu_digitOf 5 = .ok (.getfield 9, 3) := by decide +kernel
theorem dResu_digitOf_8 : decode bResu_digitOf 8 = .ok (.iload_n 1, 1) := by decide +kernel
theorem dResu_digitOf_9 : decode bResu_digitOf 9 = .ok (.laload, 1) := by decide +kernel
theorem dResu_digitOf_10 : decode bResu_digitOf 10 = .ok (.iconst 3, 1) := by decide +kernel
theorem dResu_digitOf_11 : decode bResu_digitOf 11 = .ok (.bipush 10, 2) := by decide +kernel
theorem dResu_digitOf_13 : decode bResu_digitOf 13 = .ok (.iload_n 2, 1) := by decide +kernel
theorem dResu_digitOf_14 : decode bResu_digitOf 14 = .ok (.isub, 1) := by decide +kernel
theorem dResu_digitOf_15 : decode bResu_digitOf 15 = .ok (.imul, 1) := by decide +kernel
theorem dResu_digitOf_16 : decode bResu_digitOf 16 = .ok (.lshr, 1) := by decide +kernel
theorem dResu_digitOf_17 : decode bResu_digitOf 17 = .ok (.lload_n 3, 1) := by decide +kernel
theorem dResu_digitOf_18 : decode bResu_digitOf 18 = .ok (.land, 1) := by decide +kernel
theorem dResu_digitOf_19 : decode bResu_digitOf 19 = .ok (.l2i, 1) := by decide +kernel
theorem dResu_digitOf_20 : decode bResu_digitOf 20 = .ok (.ireturn, 1) := by decide +kernel
theorem dRule_init_0 : decode bRule_init 0 = .ok (.aload_n 0, 1) := by decide +kernel
theorem dRule_init_1 : decode bRule_init 1 = .ok (.invokespecial 3, 3) := by decide +kernel
theorem dRule_init_4 : decode bRule_init 4 = .ok (.aload_n 0, 1) := by decide +kernel
theorem dRule_init_5 : decode bRule_init 5 = .ok (.new 9, 3) := by decide +kernel
theorem dRule_init_8 : decode bRule_init 8 = .ok (.dup, 1) := by decide +kernel
theorem dRule_init_9 : decode bRule_init 9 = .ok (.iconst 1, 1) := by decide +kernel
theorem dRule_init_10 : decode bRule_init 10 = .ok (.invokespecial 11, 3) := by decide +kernel
theorem dRule_init_13 : decode bRule_init 13 = .ok (.putfield 14, 3) := by decide +kernel
theorem dRule_init_16 : decode bRule_init 16 = .ok (.aload_n 0, 1) := by decide +kernel
theorem dRule_init_17 : decode bRule_init 17 = .ok (.new 9, 3) := by decide +kernel
theorem dRule_init_20 : decode bRule_init 20 = .ok (.dup, 1) := by decide +kernel
theorem dRule_init_21 : decode bRule_init 21 = .ok (.iconst 0, 1) := by decide +kernel
theorem dRule_init_22 : decode bRule_init 22 = .ok (.invokespecial 11, 3) := by decide +kernel
theorem dRule_init_25 : decode bRule_init 25 = .ok (.putfield 20, 3) := by decide +kernel
theorem dRule_init_28 : decode bRule_init 28 = .ok (.aload_n 0, 1) := by decide +kernel
theorem dRule_init_29 : decode bRule_init 29 = .ok (.iconst 4, 1) := by decide +kernel
theorem dRule_init_30 : decode bRule_init 30 = .ok (.newarray .int, 2) := by decide +kernel
theorem dRule_init_32 : decode bRule_init 32 = .ok (.putfield 23, 3) := by decide +kernel
theorem dRule_init_35 : decode bRule_init 35 = .ok (.aload_n 0, 1) := by decide +kernel
theorem dRule_init_36 : decode bRule_init 36 = .ok (.iconst 4, 1) := by decide +kernel
theorem dRule_init_37 : decode bRule_init 37 = .ok (.newarray .int, 2) := by decide +kernel
theorem dRule_init_39 : decode bRule_init 39 = .ok (.putfield 27, 3) := by decide +kernel
theorem dRule_init_42 : decode bRule_init 42 = .ok (.aload_n 0, 1) := by decide +kernel
theorem dRule_init_43 : decode bRule_init 43 = .ok (.iconst 4, 1) := by decide +kernel
theorem dRule_init_44 : decode bRule_init 44 = .ok (.newarray .int, 2) := by decide +kernel
theorem dRule_init_46 : decode bRule_init 46 = .ok (.putfield 30, 3) := by decide +kernel
theorem dRule_init_49 : decode bRule_init 49 = .ok (.aload_n 0, 1) := by decide +kernel
theorem dRule_init_50 : decode bRule_init 50 = .ok (.iconst 4, 1) := by decide +kernel
theorem dRule_init_51 : decode bRule_init 51 = .ok (.newarray .int, 2) := by decide +kernel
theorem dRule_init_53 : decode bRule_init 53 = .ok (.putfield 33, 3) := by decide +kernel
theorem dRule_init_56 : decode bRule_init 56 = .ok (.aload_n 0, 1) := by decide +kernel
theorem dRule_init_57 : decode bRule_init 57 = .ok (.bipush 10, 2) := by decide +kernel
theorem dRule_init_59 : decode bRule_init 59 = .ok (.newarray .int, 2) := by decide +kernel
theorem dRule_init_61 : decode bRule_init 61 = .ok (.putfield 36, 3) := by decide +kernel
theorem dRule_init_64 : decode bRule_init 64 = .ok (.aload_n 0, 1) := by decide +kernel
theorem dRule_init_65 : decode bRule_init 65 = .ok (.bipush 10, 2) := by decide +kernel
theorem dRule_init_67 : decode bRule_init 67 = .ok (.newarray .int, 2) := by decide +kernel
theorem dRule_init_69 : decode bRule_init 69 = .ok (.putfield 39, 3) := by decide +kernel
theorem dRule_init_72 : decode bRule_init 72 = .ok (.return_, 1) := by decide +kernel
theorem dRule_count_0 : decode bRule_count 0 = .ok (.aload_n 0, 1) := by decide +kernel
theorem dRule_count_1 : decode bRule_count 1 = .ok (.getfield 42, 3) := by decide +kernel
theorem dRule_count_4 : decode bRule_count 4 = .ok (.ireturn, 1) := by decide +kernel
theorem dRule_add_0 : decode bRule_add 0 = .ok (.aload_n 0, 1) := by decide +kernel
theorem dRule_add_1 : decode bRule_add 1 = .ok (.getfield 23, 3) := by decide +kernel
theorem dRule_add_4 : decode bRule_add 4 = .ok (.aload_n 0, 1) := by decide +kernel
theorem dRule_add_5 : decode bRule_add 5 = .ok (.getfield 42, 3) := by decide +kernel
theorem dRule_add_8 : decode bRule_add 8 = .ok (.iload_n 1, 1) := by decide +kernel
theorem dRule_add_9 : decode bRule_add 9 = .ok (.iastore, 1) := by decide +kernel
theorem dRule_add_10 : decode bRule_add 10 = .ok (.aload_n 0, 1) := by decide +kernel
theorem dRule_add_11 : decode bRule_add 11 = .ok (.getfield 27, 3) := by decide +kernel
theorem dRule_add_14 : decode bRule_add 14 = .ok (.aload_n 0, 1) := by decide +kernel
theorem dRule_add_15 : decode bRule_add 15 = .ok (.getfield 42, 3) := by decide +kernel
theorem dRule_add_18 : decode bRule_add 18 = .ok (.iload_n 2, 1) := by decide +kernel
theorem dRule_add_19 : decode bRule_add 19 = .ok (.iastore, 1) := by decide +kernel
theorem dRule_add_20 : decode bRule_add 20 = .ok (.aload_n 0, 1) := by decide +kernel
theorem dRule_add_21 : decode bRule_add 21 = .ok (.dup, 1) := by decide +kernel
theorem dRule_add_22 : decode bRule_add 22 = .ok (.getfield 42, 3) := by decide +kernel
theorem dRule_add_25 : decode bRule_add 25 = .ok (.iconst 1, 1) := by decide +kernel
theorem dRule_add_26 : decode bRule_add 26 = .ok (.iadd, 1) := by decide +kernel
theorem dRule_add_27 : decode bRule_add 27 = .ok (.putfield 42, 3) := by decide +kernel
theorem dRule_add_30 : decode bRule_add 30 = .ok (.aload_n 0, 1) := by decide +kernel
theorem dRule_add_31 : decode bRule_add 31 = .ok (.getfield 42, 3) := by decide +kernel
theorem dRule_add_34 : decode bRule_add 34 = .ok (.iconst 1, 1) := by decide +kernel
theorem dRule_add_35 : decode bRule_add 35 = .ok (.isub, 1) := by decide +kernel
theorem dRule_add_36 : decode bRule_add 36 = .ok (.ireturn, 1) := by decide +kernel
theorem dRule_contextsOf_0 : decode bRule_contextsOf 0 = .ok (.aload_n 0, 1) := by decide +kernel
theorem dRule_contextsOf_1 : decode bRule_contextsOf 1 = .ok (.getfield 30, 3) := by decide +kernel
theorem dRule_contextsOf_4 : decode bRule_contextsOf 4 = .ok (.iload_n 1, 1) := by decide +kernel
theorem dRule_contextsOf_5 : decode bRule_contextsOf 5 = .ok (.iaload, 1) := by decide +kernel
theorem dRule_contextsOf_6 : decode bRule_contextsOf 6 = .ok (.ireturn, 1) := by decide +kernel
theorem dRule_latestContextOf_0 : decode bRule_latestContextOf 0 = .ok (.iconst 2, 1) := by decide +kernel
theorem dRule_latestContextOf_1 : decode bRule_latestContextOf 1 = .ok (.iload_n 1, 1) := by decide +kernel
theorem dRule_latestContextOf_2 : decode bRule_latestContextOf 2 = .ok (.imul, 1) := by decide +kernel
theorem dRule_latestContextOf_3 : decode bRule_latestContextOf 3 = .ok (.aload_n 0, 1) := by decide +kernel
theorem dRule_latestContextOf_4 : decode bRule_latestContextOf 4 = .ok (.getfield 30, 3) := by decide +kernel
theorem dRule_latestContextOf_7 : decode bRule_latestContextOf 7 = .ok (.iload_n 1, 1) := by decide +kernel
theorem dRule_latestContextOf_8 : decode bRule_latestContextOf 8 = .ok (.iaload, 1) := by decide +kernel
theorem dRule_latestContextOf_9 : decode bRule_latestContextOf 9 = .ok (.iadd, 1) := by decide +kernel
theorem dRule_latestContextOf_10 : decode bRule_latestContextOf 10 = .ok (.iconst 1, 1) := by decide +kernel
theorem dRule_latestContextOf_11 : decode bRule_latestContextOf 11 = .ok (.isub, 1) := by decide +kernel
theorem dRule_latestContextOf_12 : decode bRule_latestContextOf 12 = .ok (.ireturn, 1) := by decide +kernel
theorem dRule_addContext_0 : decode bRule_addContext 0 = .ok (.aload_n 0, 1) := by decide +kernel
theorem dRule_addContext_1 : decode bRule_addContext 1 = .ok (.getfield 30, 3) := by decide +kernel
theorem dRule_addContext_4 : decode bRule_addContext 4 = .ok (.iload_n 1, 1) := by decide +kernel
theorem dRule_addContext_5 : decode bRule_addContext 5 = .ok (.dup2, 1) := by decide +kernel
theorem dRule_addContext_6 : decode bRule_addContext 6 = .ok (.iaload, 1) := by decide +kernel
theorem dRule_addContext_7 : decode bRule_addContext 7 = .ok (.iconst 1, 1) := by decide +kernel
theorem dRule_addContext_8 : decode bRule_addContext 8 = .ok (.iadd, 1) := by decide +kernel
theorem dRule_addContext_9 : decode bRule_addContext 9 = .ok (.iastore, 1) := by decide +kernel
theorem dRule_addContext_10 : decode bRule_addContext 10 = .ok (.aload_n 0, 1) := by decide +kernel
theorem dRule_addContext_11 : decode bRule_addContext 11 = .ok (.iload_n 1, 1) := by decide +kernel
theorem dRule_addContext_12 : decode bRule_addContext 12 = .ok (.invokevirtual 46, 3) := by decide +kernel
theorem dRule_addContext_15 : decode bRule_addContext 15 = .ok (.istore 4, 2) := by decide +kernel
theorem dRule_addContext_17 : decode bRule_addContext 17 = .ok (.aload_n 0, 1) := by decide +kernel
theorem dRule_addContext_18 : decode bRule_addContext 18 = .ok (.getfield 14, 3) := by decide +kernel
theorem dRule_addContext_21 : decode bRule_addContext 21 = .ok (.iload 4, 2) := by decide +kernel
theorem dRule_addContext_23 : decode bRule_addContext 23 = .ok (.iload_n 2, 1) := by decide +kernel
theorem dRule_addContext_24 : decode bRule_addContext 24 = .ok (.invokevirtual 50, 3) := by decide +kernel
theorem dRule_addContext_27 : decode bRule_addContext 27 = .ok (.aload_n 0, 1) := by decide +kernel
theorem dRule_addContext_28 : decode bRule_addContext 28 = .ok (.getfield 20, 3) := by decide +kernel
theorem dRule_addContext_31 : decode bRule_addContext 31 = .ok (.iload 4, 2) := by decide +kernel
theorem dRule_addContext_33 : decode bRule_addContext 33 = .ok (.iload_n 3, 1) := by decide +kernel
theorem dRule_addContext_34 : decode bRule_addContext 34 = .ok (.invokevirtual 50, 3) := by decide +kernel
theorem dRule_addContext_37 : decode bRule_addContext 37 = .ok (.aload_n 0, 1) := by decide +kernel
theorem dRule_addContext_38 : decode bRule_addContext 38 = .ok (.getfield 33, 3) := by decide +kernel
theorem dRule_addContext_41 : decode bRule_addContext 41 = .ok (.iload_n 1, 1) := by decide +kernel
theorem dRule_addContext_42 : decode bRule_addContext 42 = .ok (.dup2, 1) := by decide +kernel
theorem dRule_addContext_43 : decode bRule_addContext 43 = .ok (.iaload, 1) := by decide +kernel
theorem dRule_addContext_44 : decode bRule_addContext 44 = .ok (.iload 4, 2) := by decide +kernel
theorem dRule_addContext_46 : decode bRule_addContext 46 = .ok (.invokestatic 54, 3) := by decide +kernel
theorem dRule_addContext_49 : decode bRule_addContext 49 = .ok (.ior, 1) := by decide +kernel
theorem dRule_addContext_50 : decode bRule_addContext 50 = .ok (.iastore, 1) := by decide +kernel
theorem dRule_addContext_51 : decode bRule_addContext 51 = .ok (.aload_n 0, 1) := by decide +kernel
theorem dRule_addContext_52 : decode bRule_addContext 52 = .ok (.getfield 30, 3) := by decide +kernel
theorem dRule_addContext_55 : decode bRule_addContext 55 = .ok (.iload_n 1, 1) := by decide +kernel
theorem dRule_addContext_56 : decode bRule_addContext 56 = .ok (.iaload, 1) := by decide +kernel
theorem dRule_addContext_57 : decode bRule_addContext 57 = .ok (.ireturn, 1) := by decide +kernel
theorem dRule_settle_0 : decode bRule_settle 0 = .ok (.iconst 0, 1) := by decide +kernel
theorem dRule_settle_1 : decode bRule_settle 1 = .ok (.istore_n 2, 1) := by decide +kernel
theorem dRule_settle_2 : decode bRule_settle 2 = .ok (.iload_n 2, 1) := by decide +kernel
theorem dRule_settle_3 : decode bRule_settle 3 = .ok (.aload_n 1, 1) := by decide +kernel
theorem dRule_settle_4 : decode bRule_settle 4 = .ok (.invokevirtual 57, 3) := by decide +kernel
theorem dRule_settle_7 : decode bRule_settle 7 = .ok (.if_icmp .ge 148, 3) := by decide +kernel
theorem dRule_settle_10 : decode bRule_settle 10 = .ok (.aload_n 0, 1) := by decide +kernel
theorem dRule_settle_11 : decode bRule_settle 11 = .ok (.getfield 36, 3) := by decide +kernel
theorem dRule_settle_14 : decode bRule_settle 14 = .ok (.iload_n 2, 1) := by decide +kernel
theorem dRule_settle_15 : decode bRule_settle 15 = .ok (.iconst 0, 1) := by decide +kernel
theorem dRule_settle_16 : decode bRule_settle 16 = .ok (.iastore, 1) := by decide +kernel
theorem dRule_settle_17 : decode bRule_settle 17 = .ok (.aload_n 0, 1) := by decide +kernel
theorem dRule_settle_18 : decode bRule_settle 18 = .ok (.getfield 39, 3) := by decide +kernel
theorem dRule_settle_21 : decode bRule_settle 21 = .ok (.iload_n 2, 1) := by decide +kernel
theorem dRule_settle_22 : decode bRule_settle 22 = .ok (.iconst 0, 1) := by decide +kernel
theorem dRule_settle_23 : decode bRule_settle 23 = .ok (.iastore, 1) := by decide +kernel
theorem dRule_settle_24 : decode bRule_settle 24 = .ok (.iconst 0, 1) := by decide +kernel
theorem dRule_settle_25 : decode bRule_settle 25 = .ok (.istore_n 3, 1) := by decide +kernel
theorem dRule_settle_26 : decode bRule_settle 26 = .ok (.iload_n 3, 1) := by decide +kernel
theorem dRule_settle_27 : decode bRule_settle 27 = .ok (.aload_n 0, 1) := by decide +kernel
theorem dRule_settle_28 : decode bRule_settle 28 = .ok (.getfield 42, 3) := by decide +kernel
theorem dRule_settle_31 : decode bRule_settle 31 = .ok (.if_icmp .ge 118, 3) := by decide +kernel
theorem dRule_settle_34 : decode bRule_settle 34 = .ok (.iload_n 2, 1) := by decide +kernel
theorem dRule_settle_35 : decode bRule_settle 35 = .ok (.aload_n 0, 1) := by decide +kernel
theorem dRule_settle_36 : decode bRule_settle 36 = .ok (.getfield 27, 3) := by decide +kernel
theorem dRule_settle_39 : decode bRule_settle 39 = .ok (.iload_n 3, 1) := by decide +kernel
theorem dRule_settle_40 : decode bRule_settle 40 = .ok (.iaload, 1) := by decide +kernel
theorem dRule_settle_41 : decode bRule_settle 41 = .ok (.if_icmp .ne 7, 3) := by decide +kernel
theorem dRule_settle_44 : decode bRule_settle 44 = .ok (.iconst 1, 1) := by decide +kernel
theorem dRule_settle_45 : decode bRule_settle 45 = .ok (.goto 4, 3) := by decide +kernel
theorem dRule_settle_48 : decode bRule_settle 48 = .ok (.iconst 0, 1) := by decide +kernel
theorem dRule_settle_49 : decode bRule_settle 49 = .ok (.istore 4, 2) := by decide +kernel
theorem dRule_settle_51 : decode bRule_settle 51 = .ok (.iload 4, 2) := by decide +kernel
theorem dRule_settle_53 : decode bRule_settle 53 = .ok (.ifCond .ne 25, 3) := by decide +kernel
theorem dRule_settle_56 : decode bRule_settle 56 = .ok (.aload_n 1, 1) := by decide +kernel
theorem dRule_settle_57 : decode bRule_settle 57 = .ok (.iload_n 2, 1) := by decide +kernel
theorem dRule_settle_58 : decode bRule_settle 58 = .ok (.invokevirtual 62, 3) := by decide +kernel
theorem dRule_settle_61 : decode bRule_settle 61 = .ok (.aload_n 1, 1) := by decide +kernel
theorem dRule_settle_62 : decode bRule_settle 62 = .ok (.aload_n 0, 1) := by decide +kernel
theorem dRule_settle_63 : decode bRule_settle 63 = .ok (.getfield 27, 3) := by decide +kernel
theorem dRule_settle_66 : decode bRule_settle 66 = .ok (.iload_n 3, 1) := by decide +kernel
theorem dRule_settle_67 : decode bRule_settle 67 = .ok (.iaload, 1) := by decide +kernel
theorem dRule_settle_68 : decode bRule_settle 68 = .ok (.invokevirtual 62, 3) := by decide +kernel
theorem dRule_settle_71 : decode bRule_settle 71 = .ok (.if_icmp .ne 7, 3) := by decide +kernel
theorem dRule_settle_74 : decode bRule_settle 74 = .ok (.iconst 1, 1) := by decide +kernel
theorem dRule_settle_75 : decode bRule_settle 75 = .ok (.goto 4, 3) := by decide +kernel
theorem dRule_settle_78 : decode bRule_settle 78 = .ok (.iconst 0, 1) := by decide +kernel
theorem dRule_settle_79 : decode bRule_settle 79 = .ok (.istore 5, 2) := by decide +kernel
theorem dRule_settle_81 : decode bRule_settle 81 = .ok (.aload_n 0, 1) := by decide +kernel
theorem dRule_settle_82 : decode bRule_settle 82 = .ok (.getfield 36, 3) := by decide +kernel
theorem dRule_settle_85 : decode bRule_settle 85 = .ok (.iload_n 2, 1) := by decide +kernel
theorem dRule_settle_86 : decode bRule_settle 86 = .ok (.dup2, 1) := by decide +kernel
theorem dRule_settle_87 : decode bRule_settle 87 = .ok (.iaload, 1) := by decide +kernel
theorem dRule_settle_88 : decode bRule_settle 88 = .ok (.aload_n 0, 1) := by decide +kernel
theorem dRule_settle_89 : decode bRule_settle 89 = .ok (.getfield 23, 3) := by decide +kernel
theorem dRule_settle_92 : decode bRule_settle 92 = .ok (.iload_n 3, 1) := by decide +kernel
theorem dRule_settle_93 : decode bRule_settle 93 = .ok (.iaload, 1) := by decide +kernel
theorem dRule_settle_94 : decode bRule_settle 94 = .ok (.iload 4, 2) := by decide +kernel
theorem dRule_settle_96 : decode bRule_settle 96 = .ok (.invokestatic 65, 3) := by decide +kernel
theorem dRule_settle_99 : decode bRule_settle 99 = .ok (.ifCond .eq 9, 3) := by decide +kernel
theorem dRule_settle_102 : decode bRule_settle 102 = .ok (.iconst 1, 1) := by decide +kernel
theorem dRule_settle_103 : decode bRule_settle 103 = .ok (.iload_n 3, 1) := by decide +kernel
theorem dRule_settle_104 : decode bRule_settle 104 = .ok (.ishl, 1) := by decide +kernel
theorem dRule_settle_105 : decode bRule_settle 105 = .ok (.goto 4, 3) := by decide +kernel
theorem dRule_settle_108 : decode bRule_settle 108 = .ok (.iconst 0, 1) := by decide +kernel
theorem dRule_settle_109 : decode bRule_settle 109 = .ok (.ior, 1) := by decide +kernel
theorem dRule_settle_110 : decode bRule_settle 110 = .ok (.iastore, 1) := by decide +kernel
theorem dRule_settle_111 : decode bRule_settle 111 = .ok (.aload_n 0, 1) := by decide +kernel
theorem dRule_settle_112 : decode bRule_settle 112 = .ok (.getfield 39, 3) := by decide +kernel
theorem dRule_settle_115 : decode bRule_settle 115 = .ok (.iload_n 2, 1) := by decide +kernel
theorem dRule_settle_116 : decode bRule_settle 116 = .ok (.dup2, 1) := by decide +kernel
theorem dRule_settle_117 : decode bRule_settle 117 = .ok (.iaload, 1) := by decide +kernel
theorem dRule_settle_118 : decode bRule_settle 118 = .ok (.aload_n 0, 1) := by decide +kernel
theorem dRule_settle_119 : decode bRule_settle 119 = .ok (.getfield 23, 3) := by decide +kernel
theorem dRule_settle_122 : decode bRule_settle 122 = .ok (.iload_n 3, 1) := by decide +kernel
theorem dRule_settle_123 : decode bRule_settle 123 = .ok (.iaload, 1) := by decide +kernel
theorem dRule_settle_124 : decode bRule_settle 124 = .ok (.iload 4, 2) := by decide +kernel
theorem dRule_settle_126 : decode bRule_settle 126 = .ok (.iload 5, 2) := by decide +kernel
theorem dRule_settle_128 : decode bRule_settle 128 = .ok (.invokestatic 69, 3) := by decide +kernel
theorem dRule_settle_131 : decode bRule_settle 131 = .ok (.ifCond .eq 9, 3) := by decide +kernel
theorem dRule_settle_134 : decode bRule_settle 134 = .ok (.iconst 1, 1) := by decide +kernel
theorem dRule_settle_135 : decode bRule_settle 135 = .ok (.iload_n 3, 1) := by decide +kernel
theorem dRule_settle_136 : decode bRule_settle 136 = .ok (.ishl, 1) := by decide +kernel
theorem dRule_settle_137 : decode bRule_settle 137 = .ok (.goto 4, 3) := by decide +kernel
theorem dRule_settle_140 : decode bRule_settle 140 = .ok (.iconst 0, 1) := by decide +kernel
theorem dRule_settle_141 : decode bRule_settle 141 = .ok (.ior, 1) := by decide +kernel
theorem dRule_settle_142 : decode bRule_settle 142 = .ok (.iastore, 1) := by decide +kernel
theorem dRule_settle_143 : decode bRule_settle 143 = .ok (.iinc 3 1, 3) := by decide +kernel
theorem dRule_settle_146 : decode bRule_settle 146 = .ok (.goto (-120), 3) := by decide +kernel
theorem dRule_settle_149 : decode bRule_settle 149 = .ok (.iinc 2 1, 3) := by decide +kernel
theorem dRule_settle_152 : decode bRule_settle 152 = .ok (.goto (-150), 3) := by decide +kernel
theorem dRule_settle_155 : decode bRule_settle 155 = .ok (.return_, 1) := by decide +kernel
theorem dRule_asks_0 : decode bRule_asks 0 = .ok (.iload_n 1, 1) := by decide +kernel
theorem dRule_asks_1 : decode bRule_asks 1 = .ok (.ifCond .eq 16, 3) := by decide +kernel
theorem dRule_asks_4 : decode bRule_asks 4 = .ok (.iload_n 0, 1) := by decide +kernel
theorem dRule_asks_5 : decode bRule_asks 5 = .ok (.ifCond .eq 8, 3) := by decide +kernel
theorem dRule_asks_8 : decode bRule_asks 8 = .ok (.iload_n 0, 1) := by decide +kernel
theorem dRule_asks_9 : decode bRule_asks 9 = .ok (.iconst 2, 1) := by decide +kernel
theorem dRule_asks_10 : decode bRule_asks 10 = .ok (.if_icmp .ne 7, 3) := by decide +kernel
theorem dRule_asks_13 : decode bRule_asks 13 = .ok (.iconst 1, 1) := by decide +kernel
theorem dRule_asks_14 : decode bRule_asks 14 = .ok (.goto 4, 3) := by decide +kernel
theorem dRule_asks_17 : decode bRule_asks 17 = .ok (.iconst 0, 1) := by decide +kernel
theorem dRule_asks_18 : decode bRule_asks 18 = .ok (.ireturn, 1) := by decide +kernel
theorem dRule_bars_0 : decode bRule_bars 0 = .ok (.iload_n 2, 1) := by decide +kernel
theorem dRule_bars_1 : decode bRule_bars 1 = .ok (.ifCond .eq 13, 3) := by decide +kernel
theorem dRule_bars_4 : decode bRule_bars 4 = .ok (.iload_n 0, 1) := by decide +kernel
theorem dRule_bars_5 : decode bRule_bars 5 = .ok (.iconst 1, 1) := by decide +kernel
theorem dRule_bars_6 : decode bRule_bars 6 = .ok (.if_icmp .eq 17, 3) := by decide +kernel
theorem dRule_bars_9 : decode bRule_bars 9 = .ok (.iload_n 0, 1) := by decide +kernel
theorem dRule_bars_10 : decode bRule_bars 10 = .ok (.iconst 2, 1) := by decide +kernel
theorem dRule_bars_11 : decode bRule_bars 11 = .ok (.if_icmp .eq 12, 3) := by decide +kernel
theorem dRule_bars_14 : decode bRule_bars 14 = .ok (.iload_n 1, 1) := by decide +kernel
theorem dRule_bars_15 : decode bRule_bars 15 = .ok (.ifCond .eq 12, 3) := by decide +kernel
theorem dRule_bars_18 : decode bRule_bars 18 = .ok (.iload_n 0, 1) := by decide +kernel
theorem dRule_bars_19 : decode bRule_bars 19 = .ok (.iconst 3, 1) := by decide +kernel
theorem dRule_bars_20 : decode bRule_bars 20 = .ok (.if_icmp .ne 7, 3) := by decide +kernel
theorem dRule_bars_23 : decode bRule_bars 23 = .ok (.iconst 1, 1) := by decide +kernel
theorem dRule_bars_24 : decode bRule_bars 24 = .ok (.goto 4, 3) := by decide +kernel
theorem dRule_bars_27 : decode bRule_bars 27 = .ok (.iconst 0, 1) := by decide +kernel
theorem dRule_bars_28 : decode bRule_bars 28 = .ok (.ireturn, 1) := by decide +kernel
theorem dRule_brokenBy_0 : decode bRule_brokenBy 0 = .ok (.iload_n 2, 1) := by decide +kernel
theorem dRule_brokenBy_1 : decode bRule_brokenBy 1 = .ok (.iload_n 3, 1) := by decide +kernel
theorem dRule_brokenBy_2 : decode bRule_brokenBy 2 = .ok (.iand, 1) := by decide +kernel
theorem dRule_brokenBy_3 : decode bRule_brokenBy 3 = .ok (.istore 4, 2) := by decide +kernel
theorem dRule_brokenBy_5 : decode bRule_brokenBy 5 = .ok (.iconst 0, 1) := by decide +kernel
theorem dRule_brokenBy_6 : decode bRule_brokenBy 6 = .ok (.istore 5, 2) := by decide +kernel
theorem dRule_brokenBy_8 : decode bRule_brokenBy 8 = .ok (.iconst 0, 1) := by decide +kernel
theorem dRule_brokenBy_9 : decode bRule_brokenBy 9 = .ok (.istore 6, 2) := by decide +kernel
theorem dRule_brokenBy_11 : decode bRule_brokenBy 11 = .ok (.iload 6, 2) := by decide +kernel
theorem dRule_brokenBy_13 : decode bRule_brokenBy 13 = .ok (.aload_n 0, 1) := by decide +kernel
theorem dRule_brokenBy_14 : decode bRule_brokenBy 14 = .ok (.getfield 42, 3) := by decide +kernel
theorem dRule_brokenBy_17 : decode bRule_brokenBy 17 = .ok (.if_icmp .ge 31, 3) := by decide +kernel
theorem dRule_brokenBy_20 : decode bRule_brokenBy 20 = .ok (.iload 4, 2) := by decide +kernel
theorem dRule_brokenBy_22 : decode bRule_brokenBy 22 = .ok (.aload_n 0, 1) := by decide +kernel
theorem dRule_brokenBy_23 : decode bRule_brokenBy 23 = .ok (.getfield 33, 3) := by decide +kernel
theorem dRule_brokenBy_26 : decode bRule_brokenBy 26 = .ok (.iload 6, 2) := by decide +kernel
theorem dRule_brokenBy_28 : decode bRule_brokenBy 28 = .ok (.iaload, 1) := by decide +kernel
theorem dRule_brokenBy_29 : decode bRule_brokenBy 29 = .ok (.iand, 1) := by decide +kernel
theorem dRule_brokenBy_30 : decode bRule_brokenBy 30 = .ok (.ifCond .eq 12, 3) := by decide +kernel
theorem dRule_brokenBy_33 : decode bRule_brokenBy 33 = .ok (.iload 5, 2) := by decide +kernel
theorem dRule_brokenBy_35 : decode bRule_brokenBy 35 = .ok (.iconst 1, 1) := by decide +kernel
theorem dRule_brokenBy_36 : decode bRule_brokenBy 36 = .ok (.iload 6, 2) := by decide +kernel
theorem dRule_brokenBy_38 : decode bRule_brokenBy 38 = .ok (.ishl, 1) := by decide +kernel
theorem dRule_brokenBy_39 : decode bRule_brokenBy 39 = .ok (.ior, 1) := by decide +kernel
theorem dRule_brokenBy_40 : decode bRule_brokenBy 40 = .ok (.istore 5, 2) := by decide +kernel
theorem dRule_brokenBy_42 : decode bRule_brokenBy 42 = .ok (.iinc 6 1, 3) := by decide +kernel
theorem dRule_brokenBy_45 : decode bRule_brokenBy 45 = .ok (.goto (-34), 3) := by decide +kernel
theorem dRule_brokenBy_48 : decode bRule_brokenBy 48 = .ok (.aload_n 0, 1) := by decide +kernel
theorem dRule_brokenBy_49 : decode bRule_brokenBy 49 = .ok (.getfield 36, 3) := by decide +kernel
theorem dRule_brokenBy_52 : decode bRule_brokenBy 52 = .ok (.iload_n 1, 1) := by decide +kernel
theorem dRule_brokenBy_53 : decode bRule_brokenBy 53 = .ok (.iaload, 1) := by decide +kernel
theorem dRule_brokenBy_54 : decode bRule_brokenBy 54 = .ok (.iload 5, 2) := by decide +kernel
theorem dRule_brokenBy_56 : decode bRule_brokenBy 56 = .ok (.iconst (-1), 1) := by decide +kernel
theorem dRule_brokenBy_57 : decode bRule_brokenBy 57 = .ok (.ixor, 1) := by decide +kernel
theorem dRule_brokenBy_58 : decode bRule_brokenBy 58 = .ok (.iand, 1) := by decide +kernel
theorem dRule_brokenBy_59 : decode bRule_brokenBy 59 = .ok (.aload_n 0, 1) := by decide +kernel
theorem dRule_brokenBy_60 : decode bRule_brokenBy 60 = .ok (.getfield 39, 3) := by decide +kernel
theorem dRule_brokenBy_63 : decode bRule_brokenBy 63 = .ok (.iload_n 1, 1) := by decide +kernel
theorem dRule_brokenBy_64 : decode bRule_brokenBy 64 = .ok (.iaload, 1) := by decide +kernel
theorem dRule_brokenBy_65 : decode bRule_brokenBy 65 = .ok (.iload 5, 2) := by decide +kernel
theorem dRule_brokenBy_67 : decode bRule_brokenBy 67 = .ok (.iand, 1) := by decide +kernel
theorem dRule_brokenBy_68 : decode bRule_brokenBy 68 = .ok (.ior, 1) := by decide +kernel
theorem dRule_brokenBy_69 : decode bRule_brokenBy 69 = .ok (.ireturn, 1) := by decide +kernel
theorem dSamp_init_0 : decode bSamp_init 0 = .ok (.aload_n 0, 1) := by decide +kernel
theorem dSamp_init_1 : decode bSamp_init 1 = .ok (.invokespecial 3, 3) := by decide +kernel
theorem dSamp_init_4 : decode bSamp_init 4 = .ok (.aload_n 0, 1) := by decide +kernel
theorem dSamp_init_5 : decode bSamp_init 5 = .ok (.bipush 8, 2) := by decide +kernel
theorem dSamp_init_7 : decode bSamp_init 7 = .ok (.anewarray 9, 3) := by decide +kernel
theorem dSamp_init_10 : decode bSamp_init 10 = .ok (.putfield 11, 3) := by decide +kernel
theorem dSamp_init_13 : decode bSamp_init 13 = .ok (.aload_n 0, 1) := by decide +kernel
theorem dSamp_init_14 : decode bSamp_init 14 = .ok (.bipush 8, 2) := by decide +kernel
theorem dSamp_init_16 : decode bSamp_init 16 = .ok (.anewarray 9, 3) := by decide +kernel
theorem dSamp_init_19 : decode bSamp_init 19 = .ok (.putfield 17, 3) := by decide +kernel
theorem dSamp_init_22 : decode bSamp_init 22 = .ok (.iconst 0, 1) := by decide +kernel
theorem dSamp_init_23 : decode bSamp_init 23 = .ok (.istore_n 1, 1) := by decide +kernel
theorem dSamp_init_24 : decode bSamp_init 24 = .ok (.iload_n 1, 1) := by decide +kernel
theorem dSamp_init_25 : decode bSamp_init 25 = .ok (.bipush 8, 2) := by decide +kernel
theorem dSamp_init_27 : decode bSamp_init 27 = .ok (.if_icmp .ge 37, 3) := by decide +kernel
theorem dSamp_init_30 : decode bSamp_init 30 = .ok (.aload_n 0, 1) := by decide +kernel
theorem dSamp_init_31 : decode bSamp_init 31 = .ok (.getfield 11, 3) := by decide +kernel
theorem dSamp_init_34 : decode bSamp_init 34 = .ok (.iload_n 1, 1) := by decide +kernel
theorem dSamp_init_35 : decode bSamp_init 35 = .ok (.new 9, 3) := by decide +kernel
theorem dSamp_init_38 : decode bSamp_init 38 = .ok (.dup, 1) := by decide +kernel
theorem dSamp_init_39 : decode bSamp_init 39 = .ok (.iconst 4, 1) := by decide +kernel
theorem dSamp_init_40 : decode bSamp_init 40 = .ok (.invokespecial 20, 3) := by decide +kernel
theorem dSamp_init_43 : decode bSamp_init 43 = .ok (.aastore, 1) := by decide +kernel
theorem dSamp_init_44 : decode bSamp_init 44 = .ok (.aload_n 0, 1) := by decide +kernel
theorem dSamp_init_45 : decode bSamp_init 45 = .ok (.getfield 17, 3) := by decide +kernel
theorem dSamp_init_48 : decode bSamp_init 48 = .ok (.iload_n 1, 1) := by decide +kernel
theorem dSamp_init_49 : decode bSamp_init 49 = .ok (.new 9, 3) := by decide +kernel
theorem dSamp_init_52 : decode bSamp_init 52 = .ok (.dup, 1) := by decide +kernel
theorem dSamp_init_53 : decode bSamp_init 53 = .ok (.iconst 5, 1) := by decide +kernel
theorem dSamp_init_54 : decode bSamp_init 54 = .ok (.invokespecial 20, 3) := by decide +kernel
theorem dSamp_init_57 : decode bSamp_init 57 = .ok (.aastore, 1) := by decide +kernel
theorem dSamp_init_58 : decode bSamp_init 58 = .ok (.iinc 1 1, 3) := by decide +kernel
theorem dSamp_init_61 : decode bSamp_init 61 = .ok (.goto (-37), 3) := by decide +kernel
theorem dSamp_init_64 : decode bSamp_init 64 = .ok (.return_, 1) := by decide +kernel
theorem dSamp_count_0 : decode bSamp_count 0 = .ok (.aload_n 0, 1) := by decide +kernel
theorem dSamp_count_1 : decode bSamp_count 1 = .ok (.getfield 23, 3) := by decide +kernel
theorem dSamp_count_4 : decode bSamp_count 4 = .ok (.ireturn, 1) := by decide +kernel
theorem dSamp_lowerOf_0 : decode bSamp_lowerOf 0 = .ok (.aload_n 0, 1) := by decide +kernel
theorem dSamp_lowerOf_1 : decode bSamp_lowerOf 1 = .ok (.getfield 11, 3) := by decide +kernel
theorem dSamp_lowerOf_4 : decode bSamp_lowerOf 4 = .ok (.iload_n 1, 1) := by decide +kernel
theorem dSamp_lowerOf_5 : decode bSamp_lowerOf 5 = .ok (.aaload, 1) := by decide +kernel
theorem dSamp_lowerOf_6 : decode bSamp_lowerOf 6 = .ok (.areturn, 1) := by decide +kernel
theorem dSamp_upperOf_0 : decode bSamp_upperOf 0 = .ok (.aload_n 0, 1) := by decide +kernel
theorem dSamp_upperOf_1 : decode bSamp_upperOf 1 = .ok (.getfield 17, 3) := by decide +kernel
theorem dSamp_upperOf_4 : decode bSamp_upperOf 4 = .ok (.iload_n 1, 1) := by decide +kernel
theorem dSamp_upperOf_5 : decode bSamp_upperOf 5 = .ok (.aaload, 1) := by decide +kernel
theorem dSamp_upperOf_6 : decode bSamp_upperOf 6 = .ok (.areturn, 1) := by decide +kernel
theorem dSamp_add_0 : decode bSamp_add 0 = .ok (.aload_n 0, 1) := by decide +kernel
theorem dSamp_add_1 : decode bSamp_add 1 = .ok (.getfield 11, 3) := by decide +kernel
theorem dSamp_add_4 : decode bSamp_add 4 = .ok (.aload_n 0, 1) := by decide +kernel
theorem dSamp_add_5 : decode bSamp_add 5 = .ok (.getfield 23, 3) := by decide +kernel
theorem dSamp_add_8 : decode bSamp_add 8 = .ok (.aaload, 1) := by decide +kernel
theorem dSamp_add_9 : decode bSamp_add 9 = .ok (.aload_n 1, 1) := by decide +kernel
theorem dSamp_add_10 : decode bSamp_add 10 = .ok (.invokevirtual 27, 3) := by decide +kernel
theorem dSamp_add_13 : decode bSamp_add 13 = .ok (.aload_n 0, 1) := by decide +kernel
theorem dSamp_add_14 : decode bSamp_add 14 = .ok (.getfield 17, 3) := by decide +kernel
theorem dSamp_add_17 : decode bSamp_add 17 = .ok (.aload_n 0, 1) := by decide +kernel
theorem dSamp_add_18 : decode bSamp_add 18 = .ok (.getfield 23, 3) := by decide +kernel
theorem dSamp_add_21 : decode bSamp_add 21 = .ok (.aaload, 1) := by decide +kernel
theorem dSamp_add_22 : decode bSamp_add 22 = .ok (.aload_n 2, 1) := by decide +kernel
theorem dSamp_add_23 : decode bSamp_add 23 = .ok (.invokevirtual 27, 3) := by decide +kernel
theorem dSamp_add_26 : decode bSamp_add 26 = .ok (.aload_n 0, 1) := by decide +kernel
theorem dSamp_add_27 : decode bSamp_add 27 = .ok (.dup, 1) := by decide +kernel
theorem dSamp_add_28 : decode bSamp_add 28 = .ok (.getfield 23, 3) := by decide +kernel
theorem dSamp_add_31 : decode bSamp_add 31 = .ok (.iconst 1, 1) := by decide +kernel
theorem dSamp_add_32 : decode bSamp_add 32 = .ok (.iadd, 1) := by decide +kernel
theorem dSamp_add_33 : decode bSamp_add 33 = .ok (.putfield 23, 3) := by decide +kernel
theorem dSamp_add_36 : decode bSamp_add 36 = .ok (.aload_n 0, 1) := by decide +kernel
theorem dSamp_add_37 : decode bSamp_add 37 = .ok (.getfield 23, 3) := by decide +kernel
theorem dSamp_add_40 : decode bSamp_add 40 = .ok (.iconst 1, 1) := by decide +kernel
theorem dSamp_add_41 : decode bSamp_add 41 = .ok (.isub, 1) := by decide +kernel
theorem dSamp_add_42 : decode bSamp_add 42 = .ok (.ireturn, 1) := by decide +kernel
theorem dSear_init_0 : decode bSear_init 0 = .ok (.aload_n 0, 1) := by decide +kernel
theorem dSear_init_1 : decode bSear_init 1 = .ok (.invokespecial 3, 3) := by decide +kernel
theorem dSear_init_4 : decode bSear_init 4 = .ok (.aload_n 0, 1) := by decide +kernel
theorem dSear_init_5 : decode bSear_init 5 = .ok (.new 9, 3) := by decide +kernel
theorem dSear_init_8 : decode bSear_init 8 = .ok (.dup, 1) := by decide +kernel
theorem dSear_init_9 : decode bSear_init 9 = .ok (.iconst 4, 1) := by decide +kernel
theorem dSear_init_10 : decode bSear_init 10 = .ok (.invokespecial 11, 3) := by decide +kernel
theorem dSear_init_13 : decode bSear_init 13 = .ok (.putfield 14, 3) := by decide +kernel
theorem dSear_init_16 : decode bSear_init 16 = .ok (.aload_n 0, 1) := by decide +kernel
theorem dSear_init_17 : decode bSear_init 17 = .ok (.bipush 9, 2) := by decide +kernel
theorem dSear_init_19 : decode bSear_init 19 = .ok (.newarray .int, 2) := by decide +kernel
theorem dSear_init_21 : decode bSear_init 21 = .ok (.putfield 20, 3) := by decide +kernel
theorem dSear_init_24 : decode bSear_init 24 = .ok (.aload_n 0, 1) := by decide +kernel
theorem dSear_init_25 : decode bSear_init 25 = .ok (.bipush 10, 2) := by decide +kernel
theorem dSear_init_27 : decode bSear_init 27 = .ok (.newarray .int, 2) := by decide +kernel
theorem dSear_init_29 : decode bSear_init 29 = .ok (.putfield 24, 3) := by decide +kernel
theorem dSear_init_32 : decode bSear_init 32 = .ok (.aload_n 0, 1) := by decide +kernel
theorem dSear_init_33 : decode bSear_init 33 = .ok (.aload_n 1, 1) := by decide +kernel
theorem dSear_init_34 : decode bSear_init 34 = .ok (.putfield 27, 3) := by decide +kernel
theorem dSear_init_37 : decode bSear_init 37 = .ok (.aload_n 0, 1) := by decide +kernel
theorem dSear_init_38 : decode bSear_init 38 = .ok (.aload_n 2, 1) := by decide +kernel
theorem dSear_init_39 : decode bSear_init 39 = .ok (.putfield 31, 3) := by decide +kernel
theorem dSear_init_42 : decode bSear_init 42 = .ok (.return_, 1) := by decide +kernel
theorem dSear_goThrough_0 : decode bSear_goThrough 0 = .ok (.aload_n 0, 1) := by decide +kernel
theorem dSear_goThrough_1 : decode bSear_goThrough 1 = .ok (.getfield 14, 3) := by decide +kernel
theorem dSear_goThrough_4 : decode bSear_goThrough 4 = .ok (.aload_n 1, 1) := by decide +kernel
theorem dSear_goThrough_5 : decode bSear_goThrough 5 = .ok (.invokevirtual 35, 3) := by decide +kernel
theorem dSear_goThrough_8 : decode bSear_goThrough 8 = .ok (.aload_n 0, 1) := by decide +kernel
theorem dSear_goThrough_9 : decode bSear_goThrough 9 = .ok (.getfield 24, 3) := by decide +kernel
theorem dSear_goThrough_12 : decode bSear_goThrough 12 = .ok (.iconst 0, 1) := by decide +kernel
theorem dSear_goThrough_13 : decode bSear_goThrough 13 = .ok (.aload_n 0, 1) := by decide +kernel
theorem dSear_goThrough_14 : decode bSear_goThrough 14 = .ok (.getfield 31, 3) := by decide +kernel
theorem dSear_goThrough_17 : decode bSear_goThrough 17 = .ok (.getfield 39, 3) := by decide +kernel
theorem dSear_goThrough_20 : decode bSear_goThrough 20 = .ok (.invokevirtual 44, 3) := by decide +kernel
theorem dSear_goThrough_23 : decode bSear_goThrough 23 = .ok (.iastore, 1) := by decide +kernel
theorem dSear_goThrough_24 : decode bSear_goThrough 24 = .ok (.aload_n 0, 1) := by decide +kernel
theorem dSear_goThrough_25 : decode bSear_goThrough 25 = .ok (.iconst 0, 1) := by decide +kernel
theorem dSear_goThrough_26 : decode bSear_goThrough 26 = .ok (.iconst 0, 1) := by decide +kernel
theorem dSear_goThrough_27 : decode bSear_goThrough 27 = .ok (.iconst 0, 1) := by decide +kernel
theorem dSear_goThrough_28 : decode bSear_goThrough 28 = .ok (.invokevirtual 50, 3) := by decide +kernel
theorem dSear_goThrough_31 : decode bSear_goThrough 31 = .ok (.return_, 1) := by decide +kernel
theorem dSear_upperAt_0 : decode bSear_upperAt 0 = .ok (.aload_n 0, 1) := by decide +kernel
theorem dSear_upperAt_1 : decode bSear_upperAt 1 = .ok (.getfield 27, 3) := by decide +kernel
theorem dSear_upperAt_4 : decode bSear_upperAt 4 = .ok (.aload_n 0, 1) := by decide +kernel
theorem dSear_upperAt_5 : decode bSear_upperAt 5 = .ok (.getfield 20, 3) := by decide +kernel
theorem dSear_upperAt_8 : decode bSear_upperAt 8 = .ok (.iload_n 1, 1) := by decide +kernel
theorem dSear_upperAt_9 : decode bSear_upperAt 9 = .ok (.iaload, 1) := by decide +kernel
theorem dSear_upperAt_10 : decode bSear_upperAt 10 = .ok (.invokevirtual 54, 3) := by decide +kernel
theorem dSear_upperAt_13 : decode bSear_upperAt 13 = .ok (.ireturn, 1) := by decide +kernel
theorem dSear_extend_0 : decode bSear_extend 0 = .ok (.iload_n 2, 1) := by decide +kernel
theorem dSear_extend_1 : decode bSear_extend 1 = .ok (.aload_n 0, 1) := by decide +kernel
theorem dSear_extend_2 : decode bSear_extend 2 = .ok (.getfield 14, 3) := by decide +kernel
theorem dSear_extend_5 : decode bSear_extend 5 = .ok (.invokevirtual 60, 3) := by decide +kernel
theorem dSear_extend_8 : decode bSear_extend 8 = .ok (.if_icmp .ne 21, 3) := by decide +kernel
theorem dSear_extend_11 : decode bSear_extend 11 = .ok (.aload_n 0, 1) := by decide +kernel
theorem dSear_extend_12 : decode bSear_extend 12 = .ok (.iload_n 3, 1) := by decide +kernel
theorem dSear_extend_13 : decode bSear_extend 13 = .ok (.invokevirtual 63, 3) := by decide +kernel
theorem dSear_extend_16 : decode bSear_extend 16 = .ok (.ifCond .eq 13, 3) := by decide +kernel
theorem dSear_extend_19 : decode bSear_extend 19 = .ok (.aload_n 0, 1) := by decide +kernel
theorem dSear_extend_20 : decode bSear_extend 20 = .ok (.iload_n 1, 1) := by decide +kernel
theorem dSear_extend_21 : decode bSear_extend 21 = .ok (.aload_n 0, 1) := by decide +kernel
theorem dSear_extend_22 : decode bSear_extend 22 = .ok (.iload_n 1, 1) := by decide +kernel
theorem dSear_extend_23 : decode bSear_extend 23 = .ok (.invokevirtual 67, 3) := by decide +kernel
theorem dSear_extend_26 : decode bSear_extend 26 = .ok (.invokevirtual 70, 3) := by decide +kernel
theorem dSear_extend_29 : decode bSear_extend 29 = .ok (.iload_n 1, 1) := by decide +kernel
theorem dSear_extend_30 : decode bSear_extend 30 = .ok (.bipush 9, 2) := by decide +kernel
theorem dSear_extend_32 : decode bSear_extend 32 = .ok (.if_icmp .lt 4, 3) := by decide +kernel
theorem dSear_extend_35 : decode bSear_extend 35 = .ok (.return_, 1) := by decide +kernel
theorem dSear_extend_36 : decode bSear_extend 36 = .ok (.iconst 0, 1) := by decide +kernel
theorem dSear_extend_37 : decode bSear_extend 37 = .ok (.istore 4, 2) := by decide +kernel
theorem dSear_extend_39 : decode bSear_extend 39 = .ok (.iload 4, 2) := by decide +kernel
theorem dSear_extend_41 : decode bSear_extend 41 = .ok (.aload_n 0, 1) := by decide +kernel
theorem dSear_extend_42 : decode bSear_extend 42 = .ok (.getfield 27, 3) := by decide +kernel
theorem dSear_extend_45 : decode bSear_extend 45 = .ok (.invokevirtual 74, 3) := by decide +kernel
theorem dSear_extend_48 : decode bSear_extend 48 = .ok (.if_icmp .ge 46, 3) := by decide +kernel
theorem dSear_extend_51 : decode bSear_extend 51 = .ok (.aload_n 0, 1) := by decide +kernel
theorem dSear_extend_52 : decode bSear_extend 52 = .ok (.invokevirtual 77, 3) := by decide +kernel
theorem dSear_extend_55 : decode bSear_extend 55 = .ok (.ifCond .ne 39, 3) := by decide +kernel
theorem dSear_extend_58 : decode bSear_extend 58 = .ok (.aload_n 0, 1) := by decide +kernel
theorem dSear_extend_59 : decode bSear_extend 59 = .ok (.iload 4, 2) := by decide +kernel
theorem dSear_extend_61 : decode bSear_extend 61 = .ok (.iload_n 1, 1) := by decide +kernel
theorem dSear_extend_62 : decode bSear_extend 62 = .ok (.iload_n 2, 1) := by decide +kernel
theorem dSear_extend_63 : decode bSear_extend 63 = .ok (.invokevirtual 81, 3) := by decide +kernel
theorem dSear_extend_66 : decode bSear_extend 66 = .ok (.ifCond .eq 22, 3) := by decide +kernel
theorem dSear_extend_69 : decode bSear_extend 69 = .ok (.aload_n 0, 1) := by decide +kernel
theorem dSear_extend_70 : decode bSear_extend 70 = .ok (.iload 4, 2) := by decide +kernel
theorem dSear_extend_72 : decode bSear_extend 72 = .ok (.iload_n 3, 1) := by decide +kernel
theorem dSear_extend_73 : decode bSear_extend 73 = .ok (.invokevirtual 85, 3) := by decide +kernel
theorem dSear_extend_76 : decode bSear_extend 76 = .ok (.ifCond .eq 12, 3) := by decide +kernel
theorem dSear_extend_79 : decode bSear_extend 79 = .ok (.aload_n 0, 1) := by decide +kernel
theorem dSear_extend_80 : decode bSear_extend 80 = .ok (.iload 4, 2) := by decide +kernel
theorem dSear_extend_82 : decode bSear_extend 82 = .ok (.iload_n 1, 1) := by decide +kernel
theorem dSear_extend_83 : decode bSear_extend 83 = .ok (.iload_n 2, 1) := by decide +kernel
theorem dSear_extend_84 : decode bSear_extend 84 = .ok (.iload_n 3, 1) := by decide +kernel
theorem dSear_extend_85 : decode bSear_extend 85 = .ok (.invokevirtual 89, 3) := by decide +kernel
theorem dSear_extend_88 : decode bSear_extend 88 = .ok (.iinc 4 1, 3) := by decide +kernel
theorem dSear_extend_91 : decode bSear_extend 91 = .ok (.goto (-52), 3) := by decide +kernel
theorem dSear_extend_94 : decode bSear_extend 94 = .ok (.return_, 1) := by decide +kernel
theorem dSear_put_0 : decode bSear_put 0 = .ok (.aload_n 0, 1) := by decide +kernel
theorem dSear_put_1 : decode bSear_put 1 = .ok (.getfield 20, 3) := by decide +kernel
theorem dSear_put_4 : decode bSear_put 4 = .ok (.iload_n 2, 1) := by decide +kernel
theorem dSear_put_5 : decode bSear_put 5 = .ok (.iload_n 1, 1) := by decide +kernel
theorem dSear_put_6 : decode bSear_put 6 = .ok (.iastore, 1) := by decide +kernel
theorem dSear_put_7 : decode bSear_put 7 = .ok (.aload_n 0, 1) := by decide +kernel
theorem dSear_put_8 : decode bSear_put 8 = .ok (.getfield 24, 3) := by decide +kernel
theorem dSear_put_11 : decode bSear_put 11 = .ok (.iload_n 2, 1) := by decide +kernel
theorem dSear_put_12 : decode bSear_put 12 = .ok (.iconst 1, 1) := by decide +kernel
theorem dSear_put_13 : decode bSear_put 13 = .ok (.iadd, 1) := by decide +kernel
theorem dSear_put_14 : decode bSear_put 14 = .ok (.aload_n 0, 1) := by decide +kernel
theorem dSear_put_15 : decode bSear_put 15 = .ok (.getfield 31, 3) := by decide +kernel
theorem dSear_put_18 : decode bSear_put 18 = .ok (.getfield 39, 3) := by decide +kernel
theorem dSear_put_21 : decode bSear_put 21 = .ok (.aload_n 0, 1) := by decide +kernel
theorem dSear_put_22 : decode bSear_put 22 = .ok (.getfield 24, 3) := by decide +kernel
theorem dSear_put_25 : decode bSear_put 25 = .ok (.iload_n 2, 1) := by decide +kernel
theorem dSear_put_26 : decode bSear_put 26 = .ok (.iaload, 1) := by decide +kernel
theorem dSear_put_27 : decode bSear_put 27 = .ok (.iload_n 1, 1) := by decide +kernel
theorem dSear_put_28 : decode bSear_put 28 = .ok (.invokevirtual 93, 3) := by decide +kernel
theorem dSear_put_31 : decode bSear_put 31 = .ok (.iastore, 1) := by decide +kernel
theorem dSear_put_32 : decode bSear_put 32 = .ok (.aload_n 0, 1) := by decide +kernel
theorem dSear_put_33 : decode bSear_put 33 = .ok (.getfield 27, 3) := by decide +kernel
theorem dSear_put_36 : decode bSear_put 36 = .ok (.iload_n 1, 1) := by decide +kernel
theorem dSear_put_37 : decode bSear_put 37 = .ok (.invokevirtual 97, 3) := by decide +kernel
theorem dSear_put_40 : decode bSear_put 40 = .ok (.ifCond .ne 7, 3) := by decide +kernel
theorem dSear_put_43 : decode bSear_put 43 = .ok (.iload_n 3, 1) := by decide +kernel
theorem dSear_put_44 : decode bSear_put 44 = .ok (.goto 6, 3) := by decide +kernel
theorem dSear_put_47 : decode bSear_put 47 = .ok (.iload_n 3, 1) := by decide +kernel
theorem dSear_put_48 : decode bSear_put 48 = .ok (.iconst 1, 1) := by decide +kernel
theorem dSear_put_49 : decode bSear_put 49 = .ok (.iadd, 1) := by decide +kernel
theorem dSear_put_50 : decode bSear_put 50 = .ok (.istore 5, 2) := by decide +kernel
theorem dSear_put_52 : decode bSear_put 52 = .ok (.aload_n 0, 1) := by decide +kernel
theorem dSear_put_53 : decode bSear_put 53 = .ok (.getfield 27, 3) := by decide +kernel
theorem dSear_put_56 : decode bSear_put 56 = .ok (.iload_n 1, 1) := by decide +kernel
theorem dSear_put_57 : decode bSear_put 57 = .ok (.invokevirtual 54, 3) := by decide +kernel
theorem dSear_put_60 : decode bSear_put 60 = .ok (.ifCond .ne 8, 3) := by decide +kernel
theorem dSear_put_63 : decode bSear_put 63 = .ok (.iload 4, 2) := by decide +kernel
theorem dSear_put_65 : decode bSear_put 65 = .ok (.goto 7, 3) := by decide +kernel
theorem dSear_put_68 : decode bSear_put 68 = .ok (.iload 4, 2) := by decide +kernel
theorem dSear_put_70 : decode bSear_put 70 = .ok (.iconst 1, 1) := by decide +kernel
theorem dSear_put_71 : decode bSear_put 71 = .ok (.iadd, 1) := by decide +kernel
theorem dSear_put_72 : decode bSear_put 72 = .ok (.istore 6, 2) := by decide +kernel
theorem dSear_put_74 : decode bSear_put 74 = .ok (.aload_n 0, 1) := by decide +kernel
theorem dSear_put_75 : decode bSear_put 75 = .ok (.iload_n 2, 1) := by decide +kernel
theorem dSear_put_76 : decode bSear_put 76 = .ok (.iconst 1, 1) := by decide +kernel
theorem dSear_put_77 : decode bSear_put 77 = .ok (.iadd, 1) := by decide +kernel
theorem dSear_put_78 : decode bSear_put 78 = .ok (.iload 5, 2) := by decide +kernel
theorem dSear_put_80 : decode bSear_put 80 = .ok (.iload 6, 2) := by decide +kernel
theorem dSear_put_82 : decode bSear_put 82 = .ok (.invokevirtual 50, 3) := by decide +kernel
theorem dSear_put_85 : decode bSear_put 85 = .ok (.return_, 1) := by decide +kernel
theorem dSear_fitsLower_0 : decode bSear_fitsLower 0 = .ok (.aload_n 0, 1) := by decide +kernel
theorem dSear_fitsLower_1 : decode bSear_fitsLower 1 = .ok (.getfield 27, 3) := by decide +kernel
theorem dSear_fitsLower_4 : decode bSear_fitsLower 4 = .ok (.iload_n 1, 1) := by decide +kernel
theorem dSear_fitsLower_5 : decode bSear_fitsLower 5 = .ok (.invokevirtual 97, 3) := by decide +kernel
theorem dSear_fitsLower_8 : decode bSear_fitsLower 8 = .ok (.istore 4, 2) := by decide +kernel
theorem dSear_fitsLower_10 : decode bSear_fitsLower 10 = .ok (.iload 4, 2) := by decide +kernel
theorem dSear_fitsLower_12 : decode bSear_fitsLower 12 = .ok (.ifCond .ne 31, 3) := by decide +kernel
theorem dSear_fitsLower_15 : decode bSear_fitsLower 15 = .ok (.iload_n 2, 1) := by decide +kernel
theorem dSear_fitsLower_16 : decode bSear_fitsLower 16 = .ok (.ifCond .eq 21, 3) := by decide +kernel
theorem dSear_fitsLower_19 : decode bSear_fitsLower 19 = .ok (.aload_n 0, 1) := by decide +kernel
theorem dSear_fitsLower_20 : decode bSear_fitsLower 20 = .ok (.getfield 27, 3) := by decide +kernel
theorem dSear_fitsLower_23 : decode bSear_fitsLower 23 = .ok (.aload_n 0, 1) := by decide +kernel
theorem dSear_fitsLower_24 : decode bSear_fitsLower 24 = .ok (.getfield 20, 3) := by decide +kernel
theorem dSear_fitsLower_27 : decode bSear_fitsLower 27 = .ok (.iload_n 2, 1) := by decide +kernel
theorem dSear_fitsLower_28 : decode bSear_fitsLower 28 = .ok (.iconst 1, 1) := by decide +kernel
theorem dSear_fitsLower_29 : decode bSear_fitsLower 29 = .ok (.isub, 1) := by decide +kernel
theorem dSear_fitsLower_30 : decode bSear_fitsLower 30 = .ok (.iaload, 1) := by decide +kernel
theorem dSear_fitsLower_31 : decode bSear_fitsLower 31 = .ok (.invokevirtual 97, 3) := by decide +kernel
theorem dSear_fitsLower_34 : decode bSear_fitsLower 34 = .ok (.ifCond .eq 7, 3) := by decide +kernel
theorem dSear_fitsLower_37 : decode bSear_fitsLower 37 = .ok (.iconst 1, 1) := by decide +kernel
theorem dSear_fitsLower_38 : decode bSear_fitsLower 38 = .ok (.goto 4, 3) := by decide +kernel
theorem dSear_fitsLower_41 : decode bSear_fitsLower 41 = .ok (.iconst 0, 1) := by decide +kernel
theorem dSear_fitsLower_42 : decode bSear_fitsLower 42 = .ok (.ireturn, 1) := by decide +kernel
theorem dSear_fitsLower_43 : decode bSear_fitsLower 43 = .ok (.aload_n 0, 1) := by decide +kernel
theorem dSear_fitsLower_44 : decode bSear_fitsLower 44 = .ok (.getfield 14, 3) := by decide +kernel
theorem dSear_fitsLower_47 : decode bSear_fitsLower 47 = .ok (.iload_n 3, 1) := by decide +kernel
theorem dSear_fitsLower_48 : decode bSear_fitsLower 48 = .ok (.invokevirtual 100, 3) := by decide +kernel
theorem dSear_fitsLower_51 : decode bSear_fitsLower 51 = .ok (.iload 4, 2) := by decide +kernel
theorem dSear_fitsLower_53 : decode bSear_fitsLower 53 = .ok (.if_icmp .ne 7, 3) := by decide +kernel
theorem dSear_fitsLower_56 : decode bSear_fitsLower 56 = .ok (.iconst 1, 1) := by decide +kernel
theorem dSear_fitsLower_57 : decode bSear_fitsLower 57 = .ok (.goto 4, 3) := by decide +kernel
theorem dSear_fitsLower_60 : decode bSear_fitsLower 60 = .ok (.iconst 0, 1) := by decide +kernel
theorem dSear_fitsLower_61 : decode bSear_fitsLower 61 = .ok (.ireturn, 1) := by decide +kernel
theorem dSear_fitsUpper_0 : decode bSear_fitsUpper 0 = .ok (.aload_n 0, 1) := by decide +kernel
theorem dSear_fitsUpper_1 : decode bSear_fitsUpper 1 = .ok (.getfield 27, 3) := by decide +kernel
theorem dSear_fitsUpper_4 : decode bSear_fitsUpper 4 = .ok (.iload_n 1, 1) := by decide +kernel
theorem dSear_fitsUpper_5 : decode bSear_fitsUpper 5 = .ok (.invokevirtual 54, 3) := by decide +kernel
theorem dSear_fitsUpper_8 : decode bSear_fitsUpper 8 = .ok (.istore_n 3, 1) := by decide +kernel
theorem dSear_fitsUpper_9 : decode bSear_fitsUpper 9 = .ok (.iload_n 3, 1) := by decide +kernel
theorem dSear_fitsUpper_10 : decode bSear_fitsUpper 10 = .ok (.ifCond .eq 12, 3) := by decide +kernel
theorem dSear_fitsUpper_13 : decode bSear_fitsUpper 13 = .ok (.aload_n 0, 1) := by decide +kernel
theorem dSear_fitsUpper_14 : decode bSear_fitsUpper 14 = .ok (.iload_n 2, 1) := by decide +kernel
theorem dSear_fitsUpper_15 : decode bSear_fitsUpper 15 = .ok (.iload_n 3, 1) := by decide +kernel
theorem dSear_fitsUpper_16 : decode bSear_fitsUpper 16 = .ok (.invokevirtual 103, 3) := by decide +kernel
theorem dSear_fitsUpper_19 : decode bSear_fitsUpper 19 = .ok (.ifCond .eq 7, 3) := by decide +kernel
theorem dSear_fitsUpper_22 : decode bSear_fitsUpper 22 = .ok (.iconst 1, 1) := by decide +kernel
theorem dSear_fitsUpper_23 : decode bSear_fitsUpper 23 = .ok (.goto 4, 3) := by decide +kernel
theorem dSear_fitsUpper_26 : decode bSear_fitsUpper 26 = .ok (.iconst 0, 1) := by decide +kernel
theorem dSear_fitsUpper_27 : decode bSear_fitsUpper 27 = .ok (.ireturn, 1) := by decide +kernel
theorem dSear_brokenRules_0 : decode bSear_brokenRules 0 = .ok (.iconst 0, 1) := by decide +kernel
theorem dSear_brokenRules_1 : decode bSear_brokenRules 1 = .ok (.istore_n 2, 1) := by decide +kernel
theorem dSear_brokenRules_2 : decode bSear_brokenRules 2 = .ok (.aload_n 0, 1) := by decide +kernel
theorem dSear_brokenRules_3 : decode bSear_brokenRules 3 = .ok (.getfield 31, 3) := by decide +kernel
theorem dSear_brokenRules_6 : decode bSear_brokenRules 6 = .ok (.getfield 106, 3) := by decide +kernel
theorem dSear_brokenRules_9 : decode bSear_brokenRules 9 = .ok (.invokevirtual 44, 3) := by decide +kernel
theorem dSear_brokenRules_12 : decode bSear_brokenRules 12 = .ok (.istore_n 3, 1) := by decide +kernel
theorem dSear_brokenRules_13 : decode bSear_brokenRules 13 = .ok (.iload_n 1, 1) := by decide +kernel
theorem dSear_brokenRules_14 : decode bSear_brokenRules 14 = .ok (.iconst 1, 1) := by decide +kernel
theorem dSear_brokenRules_15 : decode bSear_brokenRules 15 = .ok (.isub, 1) := by decide +kernel
theorem dSear_brokenRules_16 : decode bSear_brokenRules 16 = .ok (.istore 4, 2) := by decide +kernel
theorem dSear_brokenRules_18 : decode bSear_brokenRules 18 = .ok (.iload 4, 2) := by decide +kernel
theorem dSear_brokenRules_20 : decode bSear_brokenRules 20 = .ok (.ifCond .lt 53, 3) := by decide +kernel
theorem dSear_brokenRules_23 : decode bSear_brokenRules 23 = .ok (.iload_n 2, 1) := by decide +kernel
theorem dSear_brokenRules_24 : decode bSear_brokenRules 24 = .ok (.aload_n 0, 1) := by decide +kernel
theorem dSear_brokenRules_25 : decode bSear_brokenRules 25 = .ok (.getfield 31, 3) := by decide +kernel
theorem dSear_brokenRules_28 : decode bSear_brokenRules 28 = .ok (.aload_n 0, 1) := by decide +kernel
theorem dSear_brokenRules_29 : decode bSear_brokenRules 29 = .ok (.getfield 20, 3) := by decide +kernel
theorem dSear_brokenRules_32 : decode bSear_brokenRules 32 = .ok (.iload 4, 2) := by decide +kernel
theorem dSear_brokenRules_34 : decode bSear_brokenRules 34 = .ok (.iaload, 1) := by decide +kernel
theorem dSear_brokenRules_35 : decode bSear_brokenRules 35 = .ok (.aload_n 0, 1) := by decide +kernel
theorem dSear_brokenRules_36 : decode bSear_brokenRules 36 = .ok (.getfield 24, 3) := by decide +kernel
theorem dSear_brokenRules_39 : decode bSear_brokenRules 39 = .ok (.iload 4, 2) := by decide +kernel
theorem dSear_brokenRules_41 : decode bSear_brokenRules 41 = .ok (.iaload, 1) := by decide +kernel
theorem dSear_brokenRules_42 : decode bSear_brokenRules 42 = .ok (.iload_n 3, 1) := by decide +kernel
theorem dSear_brokenRules_43 : decode bSear_brokenRules 43 = .ok (.invokevirtual 109, 3) := by decide +kernel
theorem dSear_brokenRules_46 : decode bSear_brokenRules 46 = .ok (.ior, 1) := by decide +kernel
theorem dSear_brokenRules_47 : decode bSear_brokenRules 47 = .ok (.istore_n 2, 1) := by decide +kernel
theorem dSear_brokenRules_48 : decode bSear_brokenRules 48 = .ok (.aload_n 0, 1) := by decide +kernel
theorem dSear_brokenRules_49 : decode bSear_brokenRules 49 = .ok (.getfield 31, 3) := by decide +kernel
theorem dSear_brokenRules_52 : decode bSear_brokenRules 52 = .ok (.getfield 106, 3) := by decide +kernel
theorem dSear_brokenRules_55 : decode bSear_brokenRules 55 = .ok (.iload_n 3, 1) := by decide +kernel
theorem dSear_brokenRules_56 : decode bSear_brokenRules 56 = .ok (.aload_n 0, 1) := by decide +kernel
theorem dSear_brokenRules_57 : decode bSear_brokenRules 57 = .ok (.getfield 20, 3) := by decide +kernel
theorem dSear_brokenRules_60 : decode bSear_brokenRules 60 = .ok (.iload 4, 2) := by decide +kernel
theorem dSear_brokenRules_62 : decode bSear_brokenRules 62 = .ok (.iaload, 1) := by decide +kernel
theorem dSear_brokenRules_63 : decode bSear_brokenRules 63 = .ok (.invokevirtual 93, 3) := by decide +kernel
theorem dSear_brokenRules_66 : decode bSear_brokenRules 66 = .ok (.istore_n 3, 1) := by decide +kernel
theorem dSear_brokenRules_67 : decode bSear_brokenRules 67 = .ok (.iinc 4 (-1), 3) := by decide +kernel
theorem dSear_brokenRules_70 : decode bSear_brokenRules 70 = .ok (.goto (-52), 3) := by decide +kernel
theorem dSear_brokenRules_73 : decode bSear_brokenRules 73 = .ok (.iload_n 2, 1) := by decide +kernel
theorem dSear_brokenRules_74 : decode bSear_brokenRules 74 = .ok (.ireturn, 1) := by decide +kernel
theorem dComp_init_0 : decode bComp_init 0 = .ok (.aload_n 0, 1) := by decide +kernel
theorem dComp_init_1 : decode bComp_init 1 = .ok (.aload_n 1, 1) := by decide +kernel
theorem dComp_init_2 : decode bComp_init 2 = .ok (.aload_n 2, 1) := by decide +kernel
theorem dComp_init_3 : decode bComp_init 3 = .ok (.invokespecial 3, 3) := by decide +kernel
theorem dComp_init_6 : decode bComp_init 6 = .ok (.aload_n 0, 1) := by decide +kernel
theorem dComp_init_7 : decode bComp_init 7 = .ok (.new 9, 3) := by decide +kernel
theorem dComp_init_10 : decode bComp_init 10 = .ok (.dup, 1) := by decide +kernel
theorem dComp_init_11 : decode bComp_init 11 = .ok (.iconst 5, 1) := by decide +kernel
theorem dComp_init_12 : decode bComp_init 12 = .ok (.invokespecial 11, 3) := by decide +kernel
theorem dComp_init_15 : decode bComp_init 15 = .ok (.putfield 14, 3) := by decide +kernel
theorem dComp_init_18 : decode bComp_init 18 = .ok (.return_, 1) := by decide +kernel
theorem dComp_finds_0 : decode bComp_finds 0 = .ok (.aload_n 0, 1) := by decide +kernel
theorem dComp_finds_1 : decode bComp_finds 1 = .ok (.getfield 14, 3) := by decide +kernel
theorem dComp_finds_4 : decode bComp_finds 4 = .ok (.aload_n 2, 1) := by decide +kernel
theorem dComp_finds_5 : decode bComp_finds 5 = .ok (.invokevirtual 20, 3) := by decide +kernel
theorem dComp_finds_8 : decode bComp_finds 8 = .ok (.aload_n 0, 1) := by decide +kernel
theorem dComp_finds_9 : decode bComp_finds 9 = .ok (.iconst 0, 1) := by decide +kernel
theorem dComp_finds_10 : decode bComp_finds 10 = .ok (.putfield 24, 3) := by decide +kernel
theorem dComp_finds_13 : decode bComp_finds 13 = .ok (.aload_n 0, 1) := by decide +kernel
theorem dComp_finds_14 : decode bComp_finds 14 = .ok (.iconst 0, 1) := by decide +kernel
theorem dComp_finds_15 : decode bComp_finds 15 = .ok (.putfield 28, 3) := by decide +kernel
theorem dComp_finds_18 : decode bComp_finds 18 = .ok (.aload_n 0, 1) := by decide +kernel
theorem dComp_finds_19 : decode bComp_finds 19 = .ok (.bipush 15, 2) := by decide +kernel
theorem dComp_finds_21 : decode bComp_finds 21 = .ok (.putfield 31, 3) := by decide +kernel
theorem dComp_finds_24 : decode bComp_finds 24 = .ok (.aload_n 0, 1) := by decide +kernel
theorem dComp_finds_25 : decode bComp_finds 25 = .ok (.aload_n 1, 1) := by decide +kernel
theorem dComp_finds_26 : decode bComp_finds 26 = .ok (.invokevirtual 35, 3) := by decide +kernel
theorem dComp_finds_29 : decode bComp_finds 29 = .ok (.aload_n 0, 1) := by decide +kernel
theorem dComp_finds_30 : decode bComp_finds 30 = .ok (.getfield 28, 3) := by decide +kernel
theorem dComp_finds_33 : decode bComp_finds 33 = .ok (.ireturn, 1) := by decide +kernel
theorem dComp_culprit_0 : decode bComp_culprit 0 = .ok (.aload_n 0, 1) := by decide +kernel
theorem dComp_culprit_1 : decode bComp_culprit 1 = .ok (.getfield 24, 3) := by decide +kernel
theorem dComp_culprit_4 : decode bComp_culprit 4 = .ok (.ifCond .ne 6, 3) := by decide +kernel
theorem dComp_culprit_7 : decode bComp_culprit 7 = .ok (.bipush (-2), 2) := by decide +kernel
theorem dComp_culprit_9 : decode bComp_culprit 9 = .ok (.ireturn, 1) := by decide +kernel
theorem dComp_culprit_10 : decode bComp_culprit 10 = .ok (.iconst 0, 1) := by decide +kernel
theorem dComp_culprit_11 : decode bComp_culprit 11 = .ok (.istore_n 1, 1) := by decide +kernel
theorem dComp_culprit_12 : decode bComp_culprit 12 = .ok (.iload_n 1, 1) := by decide +kernel
theorem dComp_culprit_13 : decode bComp_culprit 13 = .ok (.iconst 4, 1) := by decide +kernel
theorem dComp_culprit_14 : decode bComp_culprit 14 = .ok (.if_icmp .ge 23, 3) := by decide +kernel
theorem dComp_culprit_17 : decode bComp_culprit 17 = .ok (.aload_n 0, 1) := by decide +kernel
theorem dComp_culprit_18 : decode bComp_culprit 18 = .ok (.getfield 31, 3) := by decide +kernel
theorem dComp_culprit_21 : decode bComp_culprit 21 = .ok (.iload_n 1, 1) := by decide +kernel
theorem dComp_culprit_22 : decode bComp_culprit 22 = .ok (.ishr, 1) := by decide +kernel
theorem dComp_culprit_23 : decode bComp_culprit 23 = .ok (.iconst 1, 1) := by decide +kernel
theorem dComp_culprit_24 : decode bComp_culprit 24 = .ok (.iand, 1) := by decide +kernel
theorem dComp_culprit_25 : decode bComp_culprit 25 = .ok (.iconst 1, 1) := by decide +kernel
theorem dComp_culprit_26 : decode bComp_culprit 26 = .ok (.if_icmp .ne 5, 3) := by decide +kernel
theorem dComp_culprit_29 : decode bComp_culprit 29 = .ok (.iload_n 1, 1) := by decide +kernel
theorem dComp_culprit_30 : decode bComp_culprit 30 = .ok (.ireturn, 1) := by decide +kernel
theorem dComp_culprit_31 : decode bComp_culprit 31 = .ok (.iinc 1 1, 3) := by decide +kernel
theorem dComp_culprit_34 : decode bComp_culprit 34 = .ok (.goto (-22), 3) := by decide +kernel
theorem dComp_culprit_37 : decode bComp_culprit 37 = .ok (.iconst (-1), 1) := by decide +kernel
theorem dComp_culprit_38 : decode bComp_culprit 38 = .ok (.ireturn, 1) := by decide +kernel
theorem dComp_takesUpper_0 : decode bComp_takesUpper 0 = .ok (.aload_n 0, 1) := by decide +kernel
theorem dComp_takesUpper_1 : decode bComp_takesUpper 1 = .ok (.getfield 14, 3) := by decide +kernel
theorem dComp_takesUpper_4 : decode bComp_takesUpper 4 = .ok (.iload_n 1, 1) := by decide +kernel
theorem dComp_takesUpper_5 : decode bComp_takesUpper 5 = .ok (.invokevirtual 38, 3) := by decide +kernel
theorem dComp_takesUpper_8 : decode bComp_takesUpper 8 = .ok (.iload_n 2, 1) := by decide +kernel
theorem dComp_takesUpper_9 : decode bComp_takesUpper 9 = .ok (.if_icmp .ne 7, 3) := by decide +kernel
theorem dComp_takesUpper_12 : decode bComp_takesUpper 12 = .ok (.iconst 1, 1) := by decide +kernel
theorem dComp_takesUpper_13 : decode bComp_takesUpper 13 = .ok (.goto 4, 3) := by decide +kernel
theorem dComp_takesUpper_16 : decode bComp_takesUpper 16 = .ok (.iconst 0, 1) := by decide +kernel
theorem dComp_takesUpper_17 : decode bComp_takesUpper 17 = .ok (.ireturn, 1) := by decide +kernel
theorem dComp_mayEnd_0 : decode bComp_mayEnd 0 = .ok (.iload_n 1, 1) := by decide +kernel
theorem dComp_mayEnd_1 : decode bComp_mayEnd 1 = .ok (.aload_n 0, 1) := by decide +kernel
theorem dComp_mayEnd_2 : decode bComp_mayEnd 2 = .ok (.getfield 14, 3) := by decide +kernel
theorem dComp_mayEnd_5 : decode bComp_mayEnd 5 = .ok (.invokevirtual 42, 3) := by decide +kernel
theorem dComp_mayEnd_8 : decode bComp_mayEnd 8 = .ok (.if_icmp .ne 7, 3) := by decide +kernel
theorem dComp_mayEnd_11 : decode bComp_mayEnd 11 = .ok (.iconst 1, 1) := by decide +kernel
theorem dComp_mayEnd_12 : decode bComp_mayEnd 12 = .ok (.goto 4, 3) := by decide +kernel
theorem dComp_mayEnd_15 : decode bComp_mayEnd 15 = .ok (.iconst 0, 1) := by decide +kernel
theorem dComp_mayEnd_16 : decode bComp_mayEnd 16 = .ok (.ireturn, 1) := by decide +kernel
theorem dComp_meet_0 : decode bComp_meet 0 = .ok (.aload_n 0, 1) := by decide +kernel
theorem dComp_meet_1 : decode bComp_meet 1 = .ok (.iconst 1, 1) := by decide +kernel
theorem dComp_meet_2 : decode bComp_meet 2 = .ok (.putfield 24, 3) := by decide +kernel
theorem dComp_meet_5 : decode bComp_meet 5 = .ok (.aload_n 0, 1) := by decide +kernel
theorem dComp_meet_6 : decode bComp_meet 6 = .ok (.dup, 1) := by decide +kernel
theorem dComp_meet_7 : decode bComp_meet 7 = .ok (.getfield 31, 3) := by decide +kernel
theorem dComp_meet_10 : decode bComp_meet 10 = .ok (.iload_n 2, 1) := by decide +kernel
theorem dComp_meet_11 : decode bComp_meet 11 = .ok (.iand, 1) := by decide +kernel
theorem dComp_meet_12 : decode bComp_meet 12 = .ok (.putfield 31, 3) := by decide +kernel
theorem dComp_meet_15 : decode bComp_meet 15 = .ok (.iload_n 2, 1) := by decide +kernel
theorem dComp_meet_16 : decode bComp_meet 16 = .ok (.ifCond .ne 8, 3) := by decide +kernel
theorem dComp_meet_19 : decode bComp_meet 19 = .ok (.aload_n 0, 1) := by decide +kernel
theorem dComp_meet_20 : decode bComp_meet 20 = .ok (.iconst 1, 1) := by decide +kernel
theorem dComp_meet_21 : decode bComp_meet 21 = .ok (.putfield 28, 3) := by decide +kernel
theorem dComp_meet_24 : decode bComp_meet 24 = .ok (.return_, 1) := by decide +kernel
theorem dComp_isDone_0 : decode bComp_isDone 0 = .ok (.aload_n 0, 1) := by decide +kernel
theorem dComp_isDone_1 : decode bComp_isDone 1 = .ok (.getfield 28, 3) := by decide +kernel
theorem dComp_isDone_4 : decode bComp_isDone 4 = .ok (.ireturn, 1) := by decide +kernel
theorem dWrit_init_0 : decode bWrit_init 0 = .ok (.aload_n 0, 1) := by decide +kernel
theorem dWrit_init_1 : decode bWrit_init 1 = .ok (.aload_n 1, 1) := by decide +kernel
theorem dWrit_init_2 : decode bWrit_init 2 = .ok (.aload_n 2, 1) := by decide +kernel
theorem dWrit_init_3 : decode bWrit_init 3 = .ok (.invokespecial 3, 3) := by decide +kernel
theorem dWrit_init_6 : decode bWrit_init 6 = .ok (.aload_n 0, 1) := by decide +kernel
theorem dWrit_init_7 : decode bWrit_init 7 = .ok (.new 9, 3) := by decide +kernel
theorem dWrit_init_10 : decode bWrit_init 10 = .ok (.dup, 1) := by decide +kernel
theorem dWrit_init_11 : decode bWrit_init 11 = .ok (.iconst 5, 1) := by decide +kernel
theorem dWrit_init_12 : decode bWrit_init 12 = .ok (.invokespecial 11, 3) := by decide +kernel
theorem dWrit_init_15 : decode bWrit_init 15 = .ok (.putfield 14, 3) := by decide +kernel
theorem dWrit_init_18 : decode bWrit_init 18 = .ok (.aload_n 0, 1) := by decide +kernel
theorem dWrit_init_19 : decode bWrit_init 19 = .ok (.aload_n 3, 1) := by decide +kernel
theorem dWrit_init_20 : decode bWrit_init 20 = .ok (.putfield 20, 3) := by decide +kernel
theorem dWrit_init_23 : decode bWrit_init 23 = .ok (.return_, 1) := by decide +kernel
theorem dWrit_takesUpper_0 : decode bWrit_takesUpper 0 = .ok (.iload_n 1, 1) := by decide +kernel
theorem dWrit_takesUpper_1 : decode bWrit_takesUpper 1 = .ok (.iconst 5, 1) := by decide +kernel
theorem dWrit_takesUpper_2 : decode bWrit_takesUpper 2 = .ok (.if_icmp .ge 7, 3) := by decide +kernel
theorem dWrit_takesUpper_5 : decode bWrit_takesUpper 5 = .ok (.iconst 1, 1) := by decide +kernel
theorem dWrit_takesUpper_6 : decode bWrit_takesUpper 6 = .ok (.goto 4, 3) := by decide +kernel
theorem dWrit_takesUpper_9 : decode bWrit_takesUpper 9 = .ok (.iconst 0, 1) := by decide +kernel
theorem dWrit_takesUpper_10 : decode bWrit_takesUpper 10 = .ok (.ireturn, 1) := by decide +kernel
theorem dWrit_mayEnd_0 : decode bWrit_mayEnd 0 = .ok (.iconst 1, 1) := by decide +kernel
theorem dWrit_mayEnd_1 : decode bWrit_mayEnd 1 = .ok (.ireturn, 1) := by decide +kernel
theorem dWrit_meet_0 : decode bWrit_meet 0 = .ok (.iload_n 2, 1) := by decide +kernel
theorem dWrit_meet_1 : decode bWrit_meet 1 = .ok (.ifCond .eq 4, 3) := by decide +kernel
theorem dWrit_meet_4 : decode bWrit_meet 4 = .ok (.return_, 1) := by decide +kernel
theorem dWrit_meet_5 : decode bWrit_meet 5 = .ok (.aload_n 0, 1) := by decide +kernel
theorem dWrit_meet_6 : decode bWrit_meet 6 = .ok (.getfield 14, 3) := by decide +kernel
theorem dWrit_meet_9 : decode bWrit_meet 9 = .ok (.iconst 0, 1) := by decide +kernel
theorem dWrit_meet_10 : decode bWrit_meet 10 = .ok (.invokevirtual 24, 3) := by decide +kernel
theorem dWrit_meet_13 : decode bWrit_meet 13 = .ok (.iconst 0, 1) := by decide +kernel
theorem dWrit_meet_14 : decode bWrit_meet 14 = .ok (.istore_n 3, 1) := by decide +kernel
theorem dWrit_meet_15 : decode bWrit_meet 15 = .ok (.iload_n 3, 1) := by decide +kernel
theorem dWrit_meet_16 : decode bWrit_meet 16 = .ok (.iload_n 1, 1) := by decide +kernel
theorem dWrit_meet_17 : decode bWrit_meet 17 = .ok (.if_icmp .ge 30, 3) := by decide +kernel
theorem dWrit_meet_20 : decode bWrit_meet 20 = .ok (.aload_n 0, 1) := by decide +kernel
theorem dWrit_meet_21 : decode bWrit_meet 21 = .ok (.iload_n 3, 1) := by decide +kernel
theorem dWrit_meet_22 : decode bWrit_meet 22 = .ok (.invokevirtual 27, 3) := by decide +kernel
theorem dWrit_meet_25 : decode bWrit_meet 25 = .ok (.ifCond .eq 16, 3) := by decide +kernel
theorem dWrit_meet_28 : decode bWrit_meet 28 = .ok (.aload_n 0, 1) := by decide +kernel
theorem dWrit_meet_29 : decode bWrit_meet 29 = .ok (.getfield 14, 3) := by decide +kernel
theorem dWrit_meet_32 : decode bWrit_meet 32 = .ok (.aload_n 0, 1) := by decide +kernel
theorem dWrit_meet_33 : decode bWrit_meet 33 = .ok (.iload_n 3, 1) := by decide +kernel
theorem dWrit_meet_34 : decode bWrit_meet 34 = .ok (.invokevirtual 27, 3) := by decide +kernel
theorem dWrit_meet_37 : decode bWrit_meet 37 = .ok (.invokevirtual 31, 3) := by decide +kernel
theorem dWrit_meet_40 : decode bWrit_meet 40 = .ok (.pop, 1) := by decide +kernel
theorem dWrit_meet_41 : decode bWrit_meet 41 = .ok (.iinc 3 1, 3) := by decide +kernel
theorem dWrit_meet_44 : decode bWrit_meet 44 = .ok (.goto (-29), 3) := by decide +kernel
theorem dWrit_meet_47 : decode bWrit_meet 47 = .ok (.aload_n 0, 1) := by decide +kernel
theorem dWrit_meet_48 : decode bWrit_meet 48 = .ok (.getfield 20, 3) := by decide +kernel
theorem dWrit_meet_51 : decode bWrit_meet 51 = .ok (.aload_n 0, 1) := by decide +kernel
theorem dWrit_meet_52 : decode bWrit_meet 52 = .ok (.getfield 14, 3) := by decide +kernel
theorem dWrit_meet_55 : decode bWrit_meet 55 = .ok (.getstatic 34, 3) := by decide +kernel
theorem dWrit_meet_58 : decode bWrit_meet 58 = .ok (.iconst 0, 1) := by decide +kernel
theorem dWrit_meet_59 : decode bWrit_meet 59 = .ok (.invokestatic 38, 3) := by decide +kernel
theorem dWrit_meet_62 : decode bWrit_meet 62 = .ok (.invokevirtual 44, 3) := by decide +kernel
theorem dWrit_meet_65 : decode bWrit_meet 65 = .ok (.return_, 1) := by decide +kernel
theorem dWrit_isDone_0 : decode bWrit_isDone 0 = .ok (.aload_n 0, 1) := by decide +kernel
theorem dWrit_isDone_1 : decode bWrit_isDone 1 = .ok (.getfield 20, 3) := by decide +kernel
theorem dWrit_isDone_4 : decode bWrit_isDone 4 = .ok (.invokevirtual 47, 3) := by decide +kernel
theorem dWrit_isDone_7 : decode bWrit_isDone 7 = .ok (.ireturn, 1) := by decide +kernel
theorem dLexi_init_0 : decode bLexi_init 0 = .ok (.aload_n 0, 1) := by decide +kernel
theorem dLexi_init_1 : decode bLexi_init 1 = .ok (.invokespecial 3, 3) := by decide +kernel
theorem dLexi_init_4 : decode bLexi_init 4 = .ok (.aload_n 0, 1) := by decide +kernel
theorem dLexi_init_5 : decode bLexi_init 5 = .ok (.bipush 8, 2) := by decide +kernel
theorem dLexi_init_7 : decode bLexi_init 7 = .ok (.newarray .int, 2) := by decide +kernel
theorem dLexi_init_9 : decode bLexi_init 9 = .ok (.putfield 9, 3) := by decide +kernel
theorem dLexi_init_12 : decode bLexi_init 12 = .ok (.aload_n 0, 1) := by decide +kernel
theorem dLexi_init_13 : decode bLexi_init 13 = .ok (.bipush 8, 2) := by decide +kernel
theorem dLexi_init_15 : decode bLexi_init 15 = .ok (.newarray .int, 2) := by decide +kernel
theorem dLexi_init_17 : decode bLexi_init 17 = .ok (.putfield 15, 3) := by decide +kernel
theorem dLexi_init_20 : decode bLexi_init 20 = .ok (.aload_n 0, 1) := by decide +kernel
theorem dLexi_init_21 : decode bLexi_init 21 = .ok (.bipush 8, 2) := by decide +kernel
theorem dLexi_init_23 : decode bLexi_init 23 = .ok (.anewarray 18, 3) := by decide +kernel
theorem dLexi_init_26 : decode bLexi_init 26 = .ok (.putfield 20, 3) := by decide +kernel
theorem dLexi_init_29 : decode bLexi_init 29 = .ok (.aload_n 0, 1) := by decide +kernel
theorem dLexi_init_30 : decode bLexi_init 30 = .ok (.iconst 4, 1) := by decide +kernel
theorem dLexi_init_31 : decode bLexi_init 31 = .ok (.newarray .int, 2) := by decide +kernel
theorem dLexi_init_33 : decode bLexi_init 33 = .ok (.putfield 24, 3) := by decide +kernel
theorem dLexi_init_36 : decode bLexi_init 36 = .ok (.aload_n 0, 1) := by decide +kernel
theorem dLexi_init_37 : decode bLexi_init 37 = .ok (.new 18, 3) := by decide +kernel
theorem dLexi_init_40 : decode bLexi_init 40 = .ok (.dup, 1) := by decide +kernel
theorem dLexi_init_41 : decode bLexi_init 41 = .ok (.iconst 4, 1) := by decide +kernel
theorem dLexi_init_42 : decode bLexi_init 42 = .ok (.invokespecial 27, 3) := by decide +kernel
theorem dLexi_init_45 : decode bLexi_init 45 = .ok (.putfield 30, 3) := by decide +kernel
theorem dLexi_init_48 : decode bLexi_init 48 = .ok (.iconst 0, 1) := by decide +kernel
theorem dLexi_init_49 : decode bLexi_init 49 = .ok (.istore_n 1, 1) := by decide +kernel
theorem dLexi_init_50 : decode bLexi_init 50 = .ok (.iload_n 1, 1) := by decide +kernel
theorem dLexi_init_51 : decode bLexi_init 51 = .ok (.bipush 8, 2) := by decide +kernel
theorem dLexi_init_53 : decode bLexi_init 53 = .ok (.if_icmp .ge 23, 3) := by decide +kernel
theorem dLexi_init_56 : decode bLexi_init 56 = .ok (.aload_n 0, 1) := by decide +kernel
theorem dLexi_init_57 : decode bLexi_init 57 = .ok (.getfield 20, 3) := by decide +kernel
theorem dLexi_init_60 : decode bLexi_init 60 = .ok (.iload_n 1, 1) := by decide +kernel
theorem dLexi_init_61 : decode bLexi_init 61 = .ok (.new 18, 3) := by decide +kernel
theorem dLexi_init_64 : decode bLexi_init 64 = .ok (.dup, 1) := by decide +kernel
theorem dLexi_init_65 : decode bLexi_init 65 = .ok (.iconst 3, 1) := by decide +kernel
theorem dLexi_init_66 : decode bLexi_init 66 = .ok (.invokespecial 27, 3) := by decide +kernel
theorem dLexi_init_69 : decode bLexi_init 69 = .ok (.aastore, 1) := by decide +kernel
theorem dLexi_init_70 : decode bLexi_init 70 = .ok (.iinc 1 1, 3) := by decide +kernel
theorem dLexi_init_73 : decode bLexi_init 73 = .ok (.goto (-23), 3) := by decide +kernel
theorem dLexi_init_76 : decode bLexi_init 76 = .ok (.return_, 1) := by decide +kernel
theorem dLexi_count_0 : decode bLexi_count 0 = .ok (.aload_n 0, 1) := by decide +kernel
theorem dLexi_count_1 : decode bLexi_count 1 = .ok (.getfield 34, 3) := by decide +kernel
theorem dLexi_count_4 : decode bLexi_count 4 = .ok (.ireturn, 1) := by decide +kernel
theorem dLexi_signsOf_0 : decode bLexi_signsOf 0 = .ok (.aload_n 0, 1) := by decide +kernel
theorem dLexi_signsOf_1 : decode bLexi_signsOf 1 = .ok (.getfield 20, 3) := by decide +kernel
theorem dLexi_signsOf_4 : decode bLexi_signsOf 4 = .ok (.iload_n 1, 1) := by decide +kernel
theorem dLexi_signsOf_5 : decode bLexi_signsOf 5 = .ok (.aaload, 1) := by decide +kernel
theorem dLexi_signsOf_6 : decode bLexi_signsOf 6 = .ok (.areturn, 1) := by decide +kernel
theorem dLexi_add_0 : decode bLexi_add 0 = .ok (.aload_n 0, 1) := by decide +kernel
theorem dLexi_add_1 : decode bLexi_add 1 = .ok (.getfield 9, 3) := by decide +kernel
theorem dLexi_add_4 : decode bLexi_add 4 = .ok (.aload_n 0, 1) := by decide +kernel
theorem dLexi_add_5 : decode bLexi_add 5 = .ok (.getfield 34, 3) := by decide +kernel
theorem dLexi_add_8 : decode bLexi_add 8 = .ok (.iload_n 1, 1) := by decide +kernel
theorem dLexi_add_9 : decode bLexi_add 9 = .ok (.iastore, 1) := by decide +kernel
theorem dLexi_add_10 : decode bLexi_add 10 = .ok (.aload_n 0, 1) := by decide +kernel
theorem dLexi_add_11 : decode bLexi_add 11 = .ok (.getfield 15, 3) := by decide +kernel
theorem dLexi_add_14 : decode bLexi_add 14 = .ok (.aload_n 0, 1) := by decide +kernel
theorem dLexi_add_15 : decode bLexi_add 15 = .ok (.getfield 34, 3) := by decide +kernel
theorem dLexi_add_18 : decode bLexi_add 18 = .ok (.iload_n 2, 1) := by decide +kernel
theorem dLexi_add_19 : decode bLexi_add 19 = .ok (.iastore, 1) := by decide +kernel
theorem dLexi_add_20 : decode bLexi_add 20 = .ok (.aload_n 0, 1) := by decide +kernel
theorem dLexi_add_21 : decode bLexi_add 21 = .ok (.dup, 1) := by decide +kernel
theorem dLexi_add_22 : decode bLexi_add 22 = .ok (.getfield 34, 3) := by decide +kernel
theorem dLexi_add_25 : decode bLexi_add 25 = .ok (.iconst 1, 1) := by decide +kernel
theorem dLexi_add_26 : decode bLexi_add 26 = .ok (.iadd, 1) := by decide +kernel
theorem dLexi_add_27 : decode bLexi_add 27 = .ok (.putfield 34, 3) := by decide +kernel
theorem dLexi_add_30 : decode bLexi_add 30 = .ok (.aload_n 0, 1) := by decide +kernel
theorem dLexi_add_31 : decode bLexi_add 31 = .ok (.getfield 34, 3) := by decide +kernel
theorem dLexi_add_34 : decode bLexi_add 34 = .ok (.iconst 1, 1) := by decide +kernel
theorem dLexi_add_35 : decode bLexi_add 35 = .ok (.isub, 1) := by decide +kernel
theorem dLexi_add_36 : decode bLexi_add 36 = .ok (.ireturn, 1) := by decide +kernel
theorem dLexi_goOn_0 : decode bLexi_goOn 0 = .ok (.iload_n 2, 1) := by decide +kernel
theorem dLexi_goOn_1 : decode bLexi_goOn 1 = .ok (.iconst 4, 1) := by decide +kernel
theorem dLexi_goOn_2 : decode bLexi_goOn 2 = .ok (.if_icmp .lt 4, 3) := by decide +kernel
theorem dLexi_goOn_5 : decode bLexi_goOn 5 = .ok (.return_, 1) := by decide +kernel
theorem dLexi_goOn_6 : decode bLexi_goOn 6 = .ok (.iconst 0, 1) := by decide +kernel
theorem dLexi_goOn_7 : decode bLexi_goOn 7 = .ok (.istore 6, 2) := by decide +kernel
theorem dLexi_goOn_9 : decode bLexi_goOn 9 = .ok (.iload 6, 2) := by decide +kernel
theorem dLexi_goOn_11 : decode bLexi_goOn 11 = .ok (.aload_n 0, 1) := by decide +kernel
theorem dLexi_goOn_12 : decode bLexi_goOn 12 = .ok (.getfield 34, 3) := by decide +kernel
theorem dLexi_goOn_15 : decode bLexi_goOn 15 = .ok (.if_icmp .ge 57, 3) := by decide +kernel
theorem dLexi_goOn_18 : decode bLexi_goOn 18 = .ok (.aload 5, 2) := by decide +kernel
theorem dLexi_goOn_20 : decode bLexi_goOn 20 = .ok (.invokevirtual 38, 3) := by decide +kernel
theorem dLexi_goOn_23 : decode bLexi_goOn 23 = .ok (.ifCond .ne 49, 3) := by decide +kernel
theorem dLexi_goOn_26 : decode bLexi_goOn 26 = .ok (.aload_n 0, 1) := by decide +kernel
theorem dLexi_goOn_27 : decode bLexi_goOn 27 = .ok (.getfield 9, 3) := by decide +kernel
theorem dLexi_goOn_30 : decode bLexi_goOn 30 = .ok (.iload 6, 2) := by decide +kernel
theorem dLexi_goOn_32 : decode bLexi_goOn 32 = .ok (.iaload, 1) := by decide +kernel
theorem dLexi_goOn_33 : decode bLexi_goOn 33 = .ok (.iload_n 1, 1) := by decide +kernel
theorem dLexi_goOn_34 : decode bLexi_goOn 34 = .ok (.if_icmp .ne 32, 3) := by decide +kernel
theorem dLexi_goOn_37 : decode bLexi_goOn 37 = .ok (.aload_n 0, 1) := by decide +kernel
theorem dLexi_goOn_38 : decode bLexi_goOn 38 = .ok (.getfield 30, 3) := by decide +kernel
theorem dLexi_goOn_41 : decode bLexi_goOn 41 = .ok (.aload_n 0, 1) := by decide +kernel
theorem dLexi_goOn_42 : decode bLexi_goOn 42 = .ok (.getfield 20, 3) := by decide +kernel
theorem dLexi_goOn_45 : decode bLexi_goOn 45 = .ok (.iload 6, 2) := by decide +kernel
theorem dLexi_goOn_47 : decode bLexi_goOn 47 = .ok (.aaload, 1) := by decide +kernel
theorem dLexi_goOn_48 : decode bLexi_goOn 48 = .ok (.invokevirtual 44, 3) := by decide +kernel
theorem dLexi_goOn_51 : decode bLexi_goOn 51 = .ok (.ifCond .eq 15, 3) := by decide +kernel
theorem dLexi_goOn_54 : decode bLexi_goOn 54 = .ok (.aload_n 0, 1) := by decide +kernel
theorem dLexi_goOn_55 : decode bLexi_goOn 55 = .ok (.iload 6, 2) := by decide +kernel
theorem dLexi_goOn_57 : decode bLexi_goOn 57 = .ok (.iload_n 2, 1) := by decide +kernel
theorem dLexi_goOn_58 : decode bLexi_goOn 58 = .ok (.aload_n 3, 1) := by decide +kernel
theorem dLexi_goOn_59 : decode bLexi_goOn 59 = .ok (.aload 4, 2) := by decide +kernel
theorem dLexi_goOn_61 : decode bLexi_goOn 61 = .ok (.aload 5, 2) := by decide +kernel
theorem dLexi_goOn_63 : decode bLexi_goOn 63 = .ok (.invokevirtual 48, 3) := by decide +kernel
theorem dLexi_goOn_66 : decode bLexi_goOn 66 = .ok (.iinc 6 1, 3) := by decide +kernel
theorem dLexi_goOn_69 : decode bLexi_goOn 69 = .ok (.goto (-60), 3) := by decide +kernel
theorem dLexi_goOn_72 : decode bLexi_goOn 72 = .ok (.return_, 1) := by decide +kernel
theorem dLexi_put_0 : decode bLexi_put 0 = .ok (.aload_n 0, 1) := by decide +kernel
theorem dLexi_put_1 : decode bLexi_put 1 = .ok (.getfield 30, 3) := by decide +kernel
theorem dLexi_put_4 : decode bLexi_put 4 = .ok (.invokevirtual 52, 3) := by decide +kernel
theorem dLexi_put_7 : decode bLexi_put 7 = .ok (.istore 6, 2) := by decide +kernel
theorem dLexi_put_9 : decode bLexi_put 9 = .ok (.aload_n 0, 1) := by decide +kernel
theorem dLexi_put_10 : decode bLexi_put 10 = .ok (.getfield 24, 3) := by decide +kernel
theorem dLexi_put_13 : decode bLexi_put 13 = .ok (.iload_n 2, 1) := by decide +kernel
theorem dLexi_put_14 : decode bLexi_put 14 = .ok (.iload_n 1, 1) := by decide +kernel
theorem dLexi_put_15 : decode bLexi_put 15 = .ok (.iastore, 1) := by decide +kernel
theorem dLexi_put_16 : decode bLexi_put 16 = .ok (.aload_n 0, 1) := by decide +kernel
theorem dLexi_put_17 : decode bLexi_put 17 = .ok (.getfield 30, 3) := by decide +kernel
theorem dLexi_put_20 : decode bLexi_put 20 = .ok (.aload_n 0, 1) := by decide +kernel
theorem dLexi_put_21 : decode bLexi_put 21 = .ok (.getfield 20, 3) := by decide +kernel
theorem dLexi_put_24 : decode bLexi_put 24 = .ok (.iload_n 1, 1) := by decide +kernel
theorem dLexi_put_25 : decode bLexi_put 25 = .ok (.aaload, 1) := by decide +kernel
theorem dLexi_put_26 : decode bLexi_put 26 = .ok (.invokevirtual 56, 3) := by decide +kernel
theorem dLexi_put_29 : decode bLexi_put 29 = .ok (.aload_n 0, 1) := by decide +kernel
theorem dLexi_put_30 : decode bLexi_put 30 = .ok (.getfield 15, 3) := by decide +kernel
theorem dLexi_put_33 : decode bLexi_put 33 = .ok (.iload_n 1, 1) := by decide +kernel
theorem dLexi_put_34 : decode bLexi_put 34 = .ok (.iaload, 1) := by decide +kernel
theorem dLexi_put_35 : decode bLexi_put 35 = .ok (.iconst (-1), 1) := by decide +kernel
theorem dLexi_put_36 : decode bLexi_put 36 = .ok (.if_icmp .eq 24, 3) := by decide +kernel
theorem dLexi_put_39 : decode bLexi_put 39 = .ok (.aload_n 0, 1) := by decide +kernel
theorem dLexi_put_40 : decode bLexi_put 40 = .ok (.aload_n 0, 1) := by decide +kernel
theorem dLexi_put_41 : decode bLexi_put 41 = .ok (.getfield 15, 3) := by decide +kernel
theorem dLexi_put_44 : decode bLexi_put 44 = .ok (.iload_n 1, 1) := by decide +kernel
theorem dLexi_put_45 : decode bLexi_put 45 = .ok (.iaload, 1) := by decide +kernel
theorem dLexi_put_46 : decode bLexi_put 46 = .ok (.iload_n 2, 1) := by decide +kernel
theorem dLexi_put_47 : decode bLexi_put 47 = .ok (.iconst 1, 1) := by decide +kernel
theorem dLexi_put_48 : decode bLexi_put 48 = .ok (.iadd, 1) := by decide +kernel
theorem dLexi_put_49 : decode bLexi_put 49 = .ok (.aload_n 3, 1) := by decide +kernel
theorem dLexi_put_50 : decode bLexi_put 50 = .ok (.aload 4, 2) := by decide +kernel
theorem dLexi_put_52 : decode bLexi_put 52 = .ok (.aload 5, 2) := by decide +kernel
theorem dLexi_put_54 : decode bLexi_put 54 = .ok (.invokevirtual 60, 3) := by decide +kernel
theorem dLexi_put_57 : decode bLexi_put 57 = .ok (.goto 35, 3) := by decide +kernel
theorem dLexi_put_60 : decode bLexi_put 60 = .ok (.aload 4, 2) := by decide +kernel
theorem dLexi_put_62 : decode bLexi_put 62 = .ok (.aload_n 0, 1) := by decide +kernel
theorem dLexi_put_63 : decode bLexi_put 63 = .ok (.getfield 30, 3) := by decide +kernel
theorem dLexi_put_66 : decode bLexi_put 66 = .ok (.aload_n 3, 1) := by decide +kernel
theorem dLexi_put_67 : decode bLexi_put 67 = .ok (.invokevirtual 63, 3) := by decide +kernel
theorem dLexi_put_70 : decode bLexi_put 70 = .ok (.ifCond .eq 22, 3) := by decide +kernel
theorem dLexi_put_73 : decode bLexi_put 73 = .ok (.aload 5, 2) := by decide +kernel
theorem dLexi_put_75 : decode bLexi_put 75 = .ok (.aload_n 0, 1) := by decide +kernel
theorem dLexi_put_76 : decode bLexi_put 76 = .ok (.getfield 30, 3) := by decide +kernel
theorem dLexi_put_79 : decode bLexi_put 79 = .ok (.aload_n 0, 1) := by decide +kernel
theorem dLexi_put_80 : decode bLexi_put 80 = .ok (.getfield 24, 3) := by decide +kernel
theorem dLexi_put_83 : decode bLexi_put 83 = .ok (.iload_n 2, 1) := by decide +kernel
theorem dLexi_put_84 : decode bLexi_put 84 = .ok (.iconst 1, 1) := by decide +kernel
theorem dLexi_put_85 : decode bLexi_put 85 = .ok (.iadd, 1) := by decide +kernel
theorem dLexi_put_86 : decode bLexi_put 86 = .ok (.invokestatic 69, 3) := by decide +kernel
theorem dLexi_put_89 : decode bLexi_put 89 = .ok (.invokevirtual 73, 3) := by decide +kernel
theorem dLexi_put_92 : decode bLexi_put 92 = .ok (.aload_n 0, 1) := by decide +kernel
theorem dLexi_put_93 : decode bLexi_put 93 = .ok (.getfield 30, 3) := by decide +kernel
theorem dLexi_put_96 : decode bLexi_put 96 = .ok (.iload 6, 2) := by decide +kernel
theorem dLexi_put_98 : decode bLexi_put 98 = .ok (.invokevirtual 77, 3) := by decide +kernel
theorem dLexi_put_101 : decode bLexi_put 101 = .ok (.return_, 1) := by decide +kernel
end
section
theorem dPW_init_0 : decode bPW_init 0 = .ok (.aload_n 0, 1) := by decide +kernel
theorem dPW_init_1 : decode bPW_init 1 = .ok (.invokespecial 3, 3) := by decide +kernel
theorem dPW_init_4 : decode bPW_init 4 = .ok (.aload_n 0, 1) := by decide +kernel
theorem dPW_init_5 : decode bPW_init 5 = .ok (.new 9, 3) := by decide +kernel
theorem dPW_init_8 : decode bPW_init 8 = .ok (.dup, 1) := by decide +kernel
theorem dPW_init_9 : decode bPW_init 9 = .ok (.invokespecial 11, 3) := by decide +kernel
theorem dPW_init_12 : decode bPW_init 12 = .ok (.putfield 12, 3) := by decide +kernel
theorem dPW_init_15 : decode bPW_init 15 = .ok (.aload_n 0, 1) := by decide +kernel
theorem dPW_init_16 : decode bPW_init 16 = .ok (.new 16, 3) := by decide +kernel
theorem dPW_init_19 : decode bPW_init 19 = .ok (.dup, 1) := by decide +kernel
theorem dPW_init_20 : decode bPW_init 20 = .ok (.invokespecial 18, 3) := by decide +kernel
theorem dPW_init_23 : decode bPW_init 23 = .ok (.putfield 19, 3) := by decide +kernel
theorem dPW_init_26 : decode bPW_init 26 = .ok (.aload_n 0, 1) := by decide +kernel
theorem dPW_init_27 : decode bPW_init 27 = .ok (.new 23, 3) := by decide +kernel
theorem dPW_init_30 : decode bPW_init 30 = .ok (.dup, 1) := by decide +kernel
theorem dPW_init_31 : decode bPW_init 31 = .ok (.invokespecial 25, 3) := by decide +kernel
theorem dPW_init_34 : decode bPW_init 34 = .ok (.putfield 26, 3) := by decide +kernel
theorem dPW_init_37 : decode bPW_init 37 = .ok (.aload_n 0, 1) := by decide +kernel
theorem dPW_init_38 : decode bPW_init 38 = .ok (.new 30, 3) := by decide +kernel
theorem dPW_init_41 : decode bPW_init 41 = .ok (.dup, 1) := by decide +kernel
theorem dPW_init_42 : decode bPW_init 42 = .ok (.iconst 4, 1) := by decide +kernel
theorem dPW_init_43 : decode bPW_init 43 = .ok (.invokespecial 32, 3) := by decide +kernel
theorem dPW_init_46 : decode bPW_init 46 = .ok (.putfield 35, 3) := by decide +kernel
theorem dPW_init_49 : decode bPW_init 49 = .ok (.aload_n 0, 1) := by decide +kernel
theorem dPW_init_50 : decode bPW_init 50 = .ok (.new 30, 3) := by decide +kernel
theorem dPW_init_53 : decode bPW_init 53 = .ok (.dup, 1) := by decide +kernel
theorem dPW_init_54 : decode bPW_init 54 = .ok (.iconst 5, 1) := by decide +kernel
theorem dPW_init_55 : decode bPW_init 55 = .ok (.invokespecial 32, 3) := by decide +kernel
theorem dPW_init_58 : decode bPW_init 58 = .ok (.putfield 39, 3) := by decide +kernel
theorem dPW_init_61 : decode bPW_init 61 = .ok (.aload_n 0, 1) := by decide +kernel
theorem dPW_init_62 : decode bPW_init 62 = .ok (.new 42, 3) := by decide +kernel
theorem dPW_init_65 : decode bPW_init 65 = .ok (.dup, 1) := by decide +kernel
theorem dPW_init_66 : decode bPW_init 66 = .ok (.invokespecial 44, 3) := by decide +kernel
theorem dPW_init_69 : decode bPW_init 69 = .ok (.putfield 45, 3) := by decide +kernel
theorem dPW_init_72 : decode bPW_init 72 = .ok (.aload_n 0, 1) := by decide +kernel
theorem dPW_init_73 : decode bPW_init 73 = .ok (.new 49, 3) := by decide +kernel
theorem dPW_init_76 : decode bPW_init 76 = .ok (.dup, 1) := by decide +kernel
theorem dPW_init_77 : decode bPW_init 77 = .ok (.invokespecial 51, 3) := by decide +kernel
theorem dPW_init_80 : decode bPW_init 80 = .ok (.putfield 52, 3) := by decide +kernel
theorem dPW_init_83 : decode bPW_init 83 = .ok (.aload_n 0, 1) := by decide +kernel
theorem dPW_init_84 : decode bPW_init 84 = .ok (.new 49, 3) := by decide +kernel
theorem dPW_init_87 : decode bPW_init 87 = .ok (.dup, 1) := by decide +kernel
theorem dPW_init_88 : decode bPW_init 88 = .ok (.invokespecial 51, 3) := by decide +kernel
theorem dPW_init_91 : decode bPW_init 91 = .ok (.putfield 56, 3) := by decide +kernel
theorem dPW_init_94 : decode bPW_init 94 = .ok (.aload_n 0, 1) := by decide +kernel
theorem dPW_init_95 : decode bPW_init 95 = .ok (.new 59, 3) := by decide +kernel
theorem dPW_init_98 : decode bPW_init 98 = .ok (.dup, 1) := by decide +kernel
theorem dPW_init_99 : decode bPW_init 99 = .ok (.aload_n 0, 1) := by decide +kernel
theorem dPW_init_100 : decode bPW_init 100 = .ok (.getfield 12, 3) := by decide +kernel
theorem dPW_init_103 : decode bPW_init 103 = .ok (.aload_n 0, 1) := by decide +kernel
theorem dPW_init_104 : decode bPW_init 104 = .ok (.getfield 19, 3) := by decide +kernel
theorem dPW_init_107 : decode bPW_init 107 = .ok (.invokespecial 61, 3) := by decide +kernel
theorem dPW_init_110 : decode bPW_init 110 = .ok (.putfield 64, 3) := by decide +kernel
theorem dPW_init_113 : decode bPW_init 113 = .ok (.aload_n 0, 1) := by decide +kernel
theorem dPW_init_114 : decode bPW_init 114 = .ok (.new 68, 3) := by decide +kernel
theorem dPW_init_117 : decode bPW_init 117 = .ok (.dup, 1) := by decide +kernel
theorem dPW_init_118 : decode bPW_init 118 = .ok (.aload_n 0, 1) := by decide +kernel
theorem dPW_init_119 : decode bPW_init 119 = .ok (.getfield 12, 3) := by decide +kernel
theorem dPW_init_122 : decode bPW_init 122 = .ok (.aload_n 0, 1) := by decide +kernel
theorem dPW_init_123 : decode bPW_init 123 = .ok (.getfield 19, 3) := by decide +kernel
theorem dPW_init_126 : decode bPW_init 126 = .ok (.aload_n 0, 1) := by decide +kernel
theorem dPW_init_127 : decode bPW_init 127 = .ok (.getfield 56, 3) := by decide +kernel
theorem dPW_init_130 : decode bPW_init 130 = .ok (.invokespecial 70, 3) := by decide +kernel
theorem dPW_init_133 : decode bPW_init 133 = .ok (.putfield 73, 3) := by decide +kernel
theorem dPW_init_136 : decode bPW_init 136 = .ok (.return_, 1) := by decide +kernel
theorem dPW_pair_0 : decode bPW_pair 0 = .ok (.iload_n 1, 1) := by decide +kernel
theorem dPW_pair_1 : decode bPW_pair 1 = .ok (.invokestatic 77, 3) := by decide +kernel
theorem dPW_pair_4 : decode bPW_pair 4 = .ok (.ifCond .eq 10, 3) := by decide +kernel
theorem dPW_pair_7 : decode bPW_pair 7 = .ok (.iload_n 2, 1) := by decide +kernel
theorem dPW_pair_8 : decode bPW_pair 8 = .ok (.invokestatic 77, 3) := by decide +kernel
theorem dPW_pair_11 : decode bPW_pair 11 = .ok (.ifCond .ne 13, 3) := by decide +kernel
theorem dPW_pair_14 : decode bPW_pair 14 = .ok (.new 81, 3) := by decide +kernel
theorem dPW_pair_17 : decode bPW_pair 17 = .ok (.dup, 1) := by decide +kernel
theorem dPW_pair_18 : decode bPW_pair 18 = .ok (.ldc 83, 2) := by decide +kernel
theorem dPW_pair_20 : decode bPW_pair 20 = .ok (.invokespecial 85, 3) := by decide +kernel
theorem dPW_pair_23 : decode bPW_pair 23 = .ok (.athrow, 1) := by decide +kernel
theorem dPW_pair_24 : decode bPW_pair 24 = .ok (.iload_n 1, 1) := by decide +kernel
theorem dPW_pair_25 : decode bPW_pair 25 = .ok (.ifCond .ne 7, 3) := by decide +kernel
theorem dPW_pair_28 : decode bPW_pair 28 = .ok (.iload_n 2, 1) := by decide +kernel
theorem dPW_pair_29 : decode bPW_pair 29 = .ok (.ifCond .eq 15, 3) := by decide +kernel
theorem dPW_pair_32 : decode bPW_pair 32 = .ok (.aload_n 0, 1) := by decide +kernel
theorem dPW_pair_33 : decode bPW_pair 33 = .ok (.getfield 12, 3) := by decide +kernel
theorem dPW_pair_36 : decode bPW_pair 36 = .ok (.iload_n 1, 1) := by decide +kernel
theorem dPW_pair_37 : decode bPW_pair 37 = .ok (.iload_n 2, 1) := by decide +kernel
theorem dPW_pair_38 : decode bPW_pair 38 = .ok (.invokevirtual 88, 3) := by decide +kernel
theorem dPW_pair_41 : decode bPW_pair 41 = .ok (.ifCond .eq 13, 3) := by decide +kernel
theorem dPW_pair_44 : decode bPW_pair 44 = .ok (.new 81, 3) := by decide +kernel
theorem dPW_pair_47 : decode bPW_pair 47 = .ok (.dup, 1) := by decide +kernel
theorem dPW_pair_48 : decode bPW_pair 48 = .ok (.ldc 92, 2) := by decide +kernel
theorem dPW_pair_50 : decode bPW_pair 50 = .ok (.invokespecial 85, 3) := by decide +kernel
theorem dPW_pair_53 : decode bPW_pair 53 = .ok (.athrow, 1) := by decide +kernel
theorem dPW_pair_54 : decode bPW_pair 54 = .ok (.aload_n 0, 1) := by decide +kernel
theorem dPW_pair_55 : decode bPW_pair 55 = .ok (.getfield 12, 3) := by decide +kernel
theorem dPW_pair_58 : decode bPW_pair 58 = .ok (.iload_n 1, 1) := by decide +kernel
theorem dPW_pair_59 : decode bPW_pair 59 = .ok (.invokevirtual 94, 3) := by decide +kernel
theorem dPW_pair_62 : decode bPW_pair 62 = .ok (.ifCond .ne 13, 3) := by decide +kernel
theorem dPW_pair_65 : decode bPW_pair 65 = .ok (.new 97, 3) := by decide +kernel
theorem dPW_pair_68 : decode bPW_pair 68 = .ok (.dup, 1) := by decide +kernel
theorem dPW_pair_69 : decode bPW_pair 69 = .ok (.ldc 99, 2) := by decide +kernel
theorem dPW_pair_71 : decode bPW_pair 71 = .ok (.invokespecial 101, 3) := by decide +kernel
theorem dPW_pair_74 : decode bPW_pair 74 = .ok (.athrow, 1) := by decide +kernel
theorem dPW_pair_75 : decode bPW_pair 75 = .ok (.aload_n 0, 1) := by decide +kernel
theorem dPW_pair_76 : decode bPW_pair 76 = .ok (.getfield 52, 3) := by decide +kernel
theorem dPW_pair_79 : decode bPW_pair 79 = .ok (.invokevirtual 102, 3) := by decide +kernel
theorem dPW_pair_82 : decode bPW_pair 82 = .ok (.aload_n 0, 1) := by decide +kernel
theorem dPW_pair_83 : decode bPW_pair 83 = .ok (.getfield 12, 3) := by decide +kernel
theorem dPW_pair_86 : decode bPW_pair 86 = .ok (.iload_n 1, 1) := by decide +kernel
theorem dPW_pair_87 : decode bPW_pair 87 = .ok (.iload_n 2, 1) := by decide +kernel
theorem dPW_pair_88 : decode bPW_pair 88 = .ok (.invokevirtual 105, 3) := by decide +kernel
theorem dPW_pair_91 : decode bPW_pair 91 = .ok (.istore_n 3, 1) := by decide +kernel
theorem dPW_pair_92 : decode bPW_pair 92 = .ok (.aload_n 0, 1) := by decide +kernel
theorem dPW_pair_93 : decode bPW_pair 93 = .ok (.getfield 19, 3) := by decide +kernel
theorem dPW_pair_96 : decode bPW_pair 96 = .ok (.aload_n 0, 1) := by decide +kernel
theorem dPW_pair_97 : decode bPW_pair 97 = .ok (.getfield 12, 3) := by decide +kernel
theorem dPW_pair_100 : decode bPW_pair 100 = .ok (.invokevirtual 109, 3) := by decide +kernel
theorem dPW_pair_103 : decode bPW_pair 103 = .ok (.iload_n 3, 1) := by decide +kernel
theorem dPW_pair_104 : decode bPW_pair 104 = .ok (.ireturn, 1) := by decide +kernel
theorem dPW_rule_0 : decode bPW_rule 0 = .ok (.iload_n 1, 1) := by decide +kernel
theorem dPW_rule_1 : decode bPW_rule 1 = .ok (.ifCond .lt 23, 3) := by decide +kernel
theorem dPW_rule_4 : decode bPW_rule 4 = .ok (.iload_n 1, 1) := by decide +kernel
theorem dPW_rule_5 : decode bPW_rule 5 = .ok (.iconst 4, 1) := by decide +kernel
theorem dPW_rule_6 : decode bPW_rule 6 = .ok (.if_icmp .ge 18, 3) := by decide +kernel
theorem dPW_rule_9 : decode bPW_rule 9 = .ok (.iload_n 2, 1) := by decide +kernel
theorem dPW_rule_10 : decode bPW_rule 10 = .ok (.ifCond .lt 14, 3) := by decide +kernel
theorem dPW_rule_13 : decode bPW_rule 13 = .ok (.iload_n 2, 1) := by decide +kernel
theorem dPW_rule_14 : decode bPW_rule 14 = .ok (.aload_n 0, 1) := by decide +kernel
theorem dPW_rule_15 : decode bPW_rule 15 = .ok (.getfield 12, 3) := by decide +kernel
theorem dPW_rule_18 : decode bPW_rule 18 = .ok (.invokevirtual 113, 3) := by decide +kernel
theorem dPW_rule_21 : decode bPW_rule 21 = .ok (.if_icmp .lt 13, 3) := by decide +kernel
theorem dPW_rule_24 : decode bPW_rule 24 = .ok (.new 81, 3) := by decide +kernel
theorem dPW_rule_27 : decode bPW_rule 27 = .ok (.dup, 1) := by decide +kernel
theorem dPW_rule_28 : decode bPW_rule 28 = .ok (.ldc 117, 2) := by decide +kernel
theorem dPW_rule_30 : decode bPW_rule 30 = .ok (.invokespecial 85, 3) := by decide +kernel
theorem dPW_rule_33 : decode bPW_rule 33 = .ok (.athrow, 1) := by decide +kernel
theorem dPW_rule_34 : decode bPW_rule 34 = .ok (.aload_n 0, 1) := by decide +kernel
theorem dPW_rule_35 : decode bPW_rule 35 = .ok (.getfield 19, 3) := by decide +kernel
theorem dPW_rule_38 : decode bPW_rule 38 = .ok (.invokevirtual 119, 3) := by decide +kernel
theorem dPW_rule_41 : decode bPW_rule 41 = .ok (.iconst 4, 1) := by decide +kernel
theorem dPW_rule_42 : decode bPW_rule 42 = .ok (.if_icmp .lt 13, 3) := by decide +kernel
theorem dPW_rule_45 : decode bPW_rule 45 = .ok (.new 97, 3) := by decide +kernel
theorem dPW_rule_48 : decode bPW_rule 48 = .ok (.dup, 1) := by decide +kernel
theorem dPW_rule_49 : decode bPW_rule 49 = .ok (.ldc 120, 2) := by decide +kernel
theorem dPW_rule_51 : decode bPW_rule 51 = .ok (.invokespecial 101, 3) := by decide +kernel
theorem dPW_rule_54 : decode bPW_rule 54 = .ok (.athrow, 1) := by decide +kernel
theorem dPW_rule_55 : decode bPW_rule 55 = .ok (.aload_n 0, 1) := by decide +kernel
theorem dPW_rule_56 : decode bPW_rule 56 = .ok (.getfield 52, 3) := by decide +kernel
theorem dPW_rule_59 : decode bPW_rule 59 = .ok (.invokevirtual 102, 3) := by decide +kernel
theorem dPW_rule_62 : decode bPW_rule 62 = .ok (.aload_n 0, 1) := by decide +kernel
theorem dPW_rule_63 : decode bPW_rule 63 = .ok (.getfield 19, 3) := by decide +kernel
theorem dPW_rule_66 : decode bPW_rule 66 = .ok (.iload_n 1, 1) := by decide +kernel
theorem dPW_rule_67 : decode bPW_rule 67 = .ok (.iload_n 2, 1) := by decide +kernel
theorem dPW_rule_68 : decode bPW_rule 68 = .ok (.invokevirtual 122, 3) := by decide +kernel
theorem dPW_rule_71 : decode bPW_rule 71 = .ok (.istore_n 3, 1) := by decide +kernel
theorem dPW_rule_72 : decode bPW_rule 72 = .ok (.aload_n 0, 1) := by decide +kernel
theorem dPW_rule_73 : decode bPW_rule 73 = .ok (.getfield 19, 3) := by decide +kernel
theorem dPW_rule_76 : decode bPW_rule 76 = .ok (.aload_n 0, 1) := by decide +kernel
theorem dPW_rule_77 : decode bPW_rule 77 = .ok (.getfield 12, 3) := by decide +kernel
theorem dPW_rule_80 : decode bPW_rule 80 = .ok (.invokevirtual 109, 3) := by decide +kernel
theorem dPW_rule_83 : decode bPW_rule 83 = .ok (.iload_n 3, 1) := by decide +kernel
theorem dPW_rule_84 : decode bPW_rule 84 = .ok (.ireturn, 1) := by decide +kernel
theorem dPW_context_0 : decode bPW_context 0 = .ok (.iload_n 1, 1) := by decide +kernel
theorem dPW_context_1 : decode bPW_context 1 = .ok (.ifCond .lt 14, 3) := by decide +kernel
theorem dPW_context_4 : decode bPW_context 4 = .ok (.iload_n 1, 1) := by decide +kernel
theorem dPW_context_5 : decode bPW_context 5 = .ok (.aload_n 0, 1) := by decide +kernel
theorem dPW_context_6 : decode bPW_context 6 = .ok (.getfield 19, 3) := by decide +kernel
theorem dPW_context_9 : decode bPW_context 9 = .ok (.invokevirtual 119, 3) := by decide +kernel
theorem dPW_context_12 : decode bPW_context 12 = .ok (.if_icmp .lt 13, 3) := by decide +kernel
theorem dPW_context_15 : decode bPW_context 15 = .ok (.new 81, 3) := by decide +kernel
theorem dPW_context_18 : decode bPW_context 18 = .ok (.dup, 1) := by decide +kernel
theorem dPW_context_19 : decode bPW_context 19 = .ok (.ldc 123, 2) := by decide +kernel
theorem dPW_context_21 : decode bPW_context 21 = .ok (.invokespecial 85, 3) := by decide +kernel
theorem dPW_context_24 : decode bPW_context 24 = .ok (.athrow, 1) := by decide +kernel
theorem dPW_context_25 : decode bPW_context 25 = .ok (.aload_n 0, 1) := by decide +kernel
theorem dPW_context_26 : decode bPW_context 26 = .ok (.getfield 19, 3) := by decide +kernel
theorem dPW_context_29 : decode bPW_context 29 = .ok (.iload_n 1, 1) := by decide +kernel
theorem dPW_context_30 : decode bPW_context 30 = .ok (.invokevirtual 125, 3) := by decide +kernel
theorem dPW_context_33 : decode bPW_context 33 = .ok (.iconst 2, 1) := by decide +kernel
theorem dPW_context_34 : decode bPW_context 34 = .ok (.if_icmp .lt 13, 3) := by decide +kernel
theorem dPW_context_37 : decode bPW_context 37 = .ok (.new 97, 3) := by decide +kernel
theorem dPW_context_40 : decode bPW_context 40 = .ok (.dup, 1) := by decide +kernel
theorem dPW_context_41 : decode bPW_context 41 = .ok (.ldc 129, 2) := by decide +kernel
theorem dPW_context_43 : decode bPW_context 43 = .ok (.invokespecial 101, 3) := by decide +kernel
theorem dPW_context_46 : decode bPW_context 46 = .ok (.athrow, 1) := by decide +kernel
theorem dPW_context_47 : decode bPW_context 47 = .ok (.aload_n 0, 1) := by decide +kernel
theorem dPW_context_48 : decode bPW_context 48 = .ok (.getfield 52, 3) := by decide +kernel
theorem dPW_context_51 : decode bPW_context 51 = .ok (.invokevirtual 102, 3) := by decide +kernel
theorem dPW_context_54 : decode bPW_context 54 = .ok (.aload_n 0, 1) := by decide +kernel
theorem dPW_context_55 : decode bPW_context 55 = .ok (.getfield 19, 3) := by decide +kernel
theorem dPW_context_58 : decode bPW_context 58 = .ok (.iload_n 1, 1) := by decide +kernel
theorem dPW_context_59 : decode bPW_context 59 = .ok (.iload_n 2, 1) := by decide +kernel
theorem dPW_context_60 : decode bPW_context 60 = .ok (.iload_n 3, 1) := by decide +kernel
theorem dPW_context_61 : decode bPW_context 61 = .ok (.invokevirtual 131, 3) := by decide +kernel
theorem dPW_context_64 : decode bPW_context 64 = .ok (.ireturn, 1) := by decide +kernel
theorem dPW_element_0 : decode bPW_element 0 = .ok (.iload_n 1, 1) := by decide +kernel
theorem dPW_element_1 : decode bPW_element 1 = .ok (.ifCond .lt 14, 3) := by decide +kernel
theorem dPW_element_4 : decode bPW_element 4 = .ok (.iload_n 1, 1) := by decide +kernel
theorem dPW_element_5 : decode bPW_element 5 = .ok (.aload_n 0, 1) := by decide +kernel
theorem dPW_element_6 : decode bPW_element 6 = .ok (.getfield 19, 3) := by decide +kernel
theorem dPW_element_9 : decode bPW_element 9 = .ok (.invokevirtual 119, 3) := by decide +kernel
theorem dPW_element_12 : decode bPW_element 12 = .ok (.if_icmp .lt 13, 3) := by decide +kernel
theorem dPW_element_15 : decode bPW_element 15 = .ok (.new 81, 3) := by decide +kernel
theorem dPW_element_18 : decode bPW_element 18 = .ok (.dup, 1) := by decide +kernel
theorem dPW_element_19 : decode bPW_element 19 = .ok (.ldc 123, 2) := by decide +kernel
theorem dPW_element_21 : decode bPW_element 21 = .ok (.invokespecial 85, 3) := by decide +kernel
theorem dPW_element_24 : decode bPW_element 24 = .ok (.athrow, 1) := by decide +kernel
theorem dPW_element_25 : decode bPW_element 25 = .ok (.iload_n 3, 1) := by decide +kernel
theorem dPW_element_26 : decode bPW_element 26 = .ok (.ifCond .lt 16, 3) := by decide +kernel
theorem dPW_element_29 : decode bPW_element 29 = .ok (.iload_n 3, 1) := by decide +kernel
theorem dPW_element_30 : decode bPW_element 30 = .ok (.iconst 1, 1) := by decide +kernel
theorem dPW_element_31 : decode bPW_element 31 = .ok (.aload_n 0, 1) := by decide +kernel
theorem dPW_element_32 : decode bPW_element 32 = .ok (.getfield 12, 3) := by decide +kernel
theorem dPW_element_35 : decode bPW_element 35 = .ok (.invokevirtual 113, 3) := by decide +kernel
theorem dPW_element_38 : decode bPW_element 38 = .ok (.ishl, 1) := by decide +kernel
theorem dPW_element_39 : decode bPW_element 39 = .ok (.if_icmp .lt 13, 3) := by decide +kernel
theorem dPW_element_42 : decode bPW_element 42 = .ok (.new 81, 3) := by decide +kernel
theorem dPW_element_45 : decode bPW_element 45 = .ok (.dup, 1) := by decide +kernel
theorem dPW_element_46 : decode bPW_element 46 = .ok (.ldc 135, 2) := by decide +kernel
theorem dPW_element_48 : decode bPW_element 48 = .ok (.invokespecial 85, 3) := by decide +kernel
theorem dPW_element_51 : decode bPW_element 51 = .ok (.athrow, 1) := by decide +kernel
theorem dPW_element_52 : decode bPW_element 52 = .ok (.aload_n 0, 1) := by decide +kernel
theorem dPW_element_53 : decode bPW_element 53 = .ok (.getfield 19, 3) := by decide +kernel
theorem dPW_element_56 : decode bPW_element 56 = .ok (.iload_n 1, 1) := by decide +kernel
theorem dPW_element_57 : decode bPW_element 57 = .ok (.invokevirtual 125, 3) := by decide +kernel
theorem dPW_element_60 : decode bPW_element 60 = .ok (.ifCond .ne 13, 3) := by decide +kernel
theorem dPW_element_63 : decode bPW_element 63 = .ok (.new 97, 3) := by decide +kernel
theorem dPW_element_66 : decode bPW_element 66 = .ok (.dup, 1) := by decide +kernel
theorem dPW_element_67 : decode bPW_element 67 = .ok (.ldc 137, 2) := by decide +kernel
theorem dPW_element_69 : decode bPW_element 69 = .ok (.invokespecial 101, 3) := by decide +kernel
theorem dPW_element_72 : decode bPW_element 72 = .ok (.athrow, 1) := by decide +kernel
theorem dPW_element_73 : decode bPW_element 73 = .ok (.aload_n 0, 1) := by decide +kernel
theorem dPW_element_74 : decode bPW_element 74 = .ok (.getfield 19, 3) := by decide +kernel
theorem dPW_element_77 : decode bPW_element 77 = .ok (.iload_n 1, 1) := by decide +kernel
theorem dPW_element_78 : decode bPW_element 78 = .ok (.invokevirtual 139, 3) := by decide +kernel
theorem dPW_element_81 : decode bPW_element 81 = .ok (.istore 5, 2) := by decide +kernel
theorem dPW_element_83 : decode bPW_element 83 = .ok (.iload_n 2, 1) := by decide +kernel
theorem dPW_element_84 : decode bPW_element 84 = .ok (.ifCond .eq 13, 3) := by decide +kernel
theorem dPW_element_87 : decode bPW_element 87 = .ok (.aload_n 0, 1) := by decide +kernel
theorem dPW_element_88 : decode bPW_element 88 = .ok (.getfield 19, 3) := by decide +kernel
theorem dPW_element_91 : decode bPW_element 91 = .ok (.getfield 142, 3) := by decide +kernel
theorem dPW_element_94 : decode bPW_element 94 = .ok (.goto 10, 3) := by decide +kernel
theorem dPW_element_97 : decode bPW_element 97 = .ok (.aload_n 0, 1) := by decide +kernel
theorem dPW_element_98 : decode bPW_element 98 = .ok (.getfield 19, 3) := by decide +kernel
theorem dPW_element_101 : decode bPW_element 101 = .ok (.getfield 146, 3) := by decide +kernel
theorem dPW_element_104 : decode bPW_element 104 = .ok (.astore 6, 2) := by decide +kernel
theorem dPW_element_106 : decode bPW_element 106 = .ok (.aload 6, 2) := by decide +kernel
theorem dPW_element_108 : decode bPW_element 108 = .ok (.iload 5, 2) := by decide +kernel
theorem dPW_element_110 : decode bPW_element 110 = .ok (.invokevirtual 149, 3) := by decide +kernel
theorem dPW_element_113 : decode bPW_element 113 = .ok (.iconst 2, 1) := by decide +kernel
theorem dPW_element_114 : decode bPW_element 114 = .ok (.if_icmp .lt 13, 3) := by decide +kernel
theorem dPW_element_117 : decode bPW_element 117 = .ok (.new 97, 3) := by decide +kernel
theorem dPW_element_120 : decode bPW_element 120 = .ok (.dup, 1) := by decide +kernel
theorem dPW_element_121 : decode bPW_element 121 = .ok (.ldc 154, 2) := by decide +kernel
theorem dPW_element_123 : decode bPW_element 123 = .ok (.invokespecial 101, 3) := by decide +kernel
theorem dPW_element_126 : decode bPW_element 126 = .ok (.athrow, 1) := by decide +kernel
theorem dPW_element_127 : decode bPW_element 127 = .ok (.aload_n 0, 1) := by decide +kernel
theorem dPW_element_128 : decode bPW_element 128 = .ok (.getfield 52, 3) := by decide +kernel
theorem dPW_element_131 : decode bPW_element 131 = .ok (.invokevirtual 102, 3) := by decide +kernel
theorem dPW_element_134 : decode bPW_element 134 = .ok (.aload 6, 2) := by decide +kernel
theorem dPW_element_136 : decode bPW_element 136 = .ok (.iload 5, 2) := by decide +kernel
theorem dPW_element_138 : decode bPW_element 138 = .ok (.iload_n 3, 1) := by decide +kernel
theorem dPW_element_139 : decode bPW_element 139 = .ok (.iload 4, 2) := by decide +kernel
theorem dPW_element_141 : decode bPW_element 141 = .ok (.invokevirtual 156, 3) := by decide +kernel
theorem dPW_element_144 : decode bPW_element 144 = .ok (.ireturn, 1) := by decide +kernel
theorem dPW_entry_0 : decode bPW_entry 0 = .ok (.iload_n 1, 1) := by decide +kernel
theorem dPW_entry_1 : decode bPW_entry 1 = .ok (.invokestatic 160, 3) := by decide +kernel
theorem dPW_entry_4 : decode bPW_entry 4 = .ok (.ifCond .eq 15, 3) := by decide +kernel
theorem dPW_entry_7 : decode bPW_entry 7 = .ok (.iload_n 2, 1) := by decide +kernel
theorem dPW_entry_8 : decode bPW_entry 8 = .ok (.invokestatic 160, 3) := by decide +kernel
theorem dPW_entry_11 : decode bPW_entry 11 = .ok (.ifCond .ne 18, 3) := by decide +kernel
theorem dPW_entry_14 : decode bPW_entry 14 = .ok (.iload_n 2, 1) := by decide +kernel
theorem dPW_entry_15 : decode bPW_entry 15 = .ok (.iconst (-1), 1) := by decide +kernel
theorem dPW_entry_16 : decode bPW_entry 16 = .ok (.if_icmp .eq 13, 3) := by decide +kernel
theorem dPW_entry_19 : decode bPW_entry 19 = .ok (.new 81, 3) := by decide +kernel
theorem dPW_entry_22 : decode bPW_entry 22 = .ok (.dup, 1) := by decide +kernel
theorem dPW_entry_23 : decode bPW_entry 23 = .ok (.ldc 163, 2) := by decide +kernel
theorem dPW_entry_25 : decode bPW_entry 25 = .ok (.invokespecial 85, 3) := by decide +kernel
theorem dPW_entry_28 : decode bPW_entry 28 = .ok (.athrow, 1) := by decide +kernel
theorem dPW_entry_29 : decode bPW_entry 29 = .ok (.aload_n 0, 1) := by decide +kernel
theorem dPW_entry_30 : decode bPW_entry 30 = .ok (.getfield 26, 3) := by decide +kernel
theorem dPW_entry_33 : decode bPW_entry 33 = .ok (.invokevirtual 165, 3) := by decide +kernel
theorem dPW_entry_36 : decode bPW_entry 36 = .ok (.bipush 8, 2) := by decide +kernel
theorem dPW_entry_38 : decode bPW_entry 38 = .ok (.if_icmp .lt 13, 3) := by decide +kernel
theorem dPW_entry_41 : decode bPW_entry 41 = .ok (.new 97, 3) := by decide +kernel
theorem dPW_entry_44 : decode bPW_entry 44 = .ok (.dup, 1) := by decide +kernel
theorem dPW_entry_45 : decode bPW_entry 45 = .ok (.ldc 166, 2) := by decide +kernel
theorem dPW_entry_47 : decode bPW_entry 47 = .ok (.invokespecial 101, 3) := by decide +kernel
theorem dPW_entry_50 : decode bPW_entry 50 = .ok (.athrow, 1) := by decide +kernel
theorem dPW_entry_51 : decode bPW_entry 51 = .ok (.aload_n 0, 1) := by decide +kernel
theorem dPW_entry_52 : decode bPW_entry 52 = .ok (.getfield 52, 3) := by decide +kernel
theorem dPW_entry_55 : decode bPW_entry 55 = .ok (.invokevirtual 102, 3) := by decide +kernel
theorem dPW_entry_58 : decode bPW_entry 58 = .ok (.aload_n 0, 1) := by decide +kernel
theorem dPW_entry_59 : decode bPW_entry 59 = .ok (.getfield 26, 3) := by decide +kernel
theorem dPW_entry_62 : decode bPW_entry 62 = .ok (.iload_n 1, 1) := by decide +kernel
theorem dPW_entry_63 : decode bPW_entry 63 = .ok (.iload_n 2, 1) := by decide +kernel
theorem dPW_entry_64 : decode bPW_entry 64 = .ok (.invokevirtual 168, 3) := by decide +kernel
theorem dPW_entry_67 : decode bPW_entry 67 = .ok (.ireturn, 1) := by decide +kernel
theorem dPW_spell_0 : decode bPW_spell 0 = .ok (.iload_n 1, 1) := by decide +kernel
theorem dPW_spell_1 : decode bPW_spell 1 = .ok (.ifCond .lt 21, 3) := by decide +kernel
theorem dPW_spell_4 : decode bPW_spell 4 = .ok (.iload_n 1, 1) := by decide +kernel
theorem dPW_spell_5 : decode bPW_spell 5 = .ok (.aload_n 0, 1) := by decide +kernel
theorem dPW_spell_6 : decode bPW_spell 6 = .ok (.getfield 26, 3) := by decide +kernel
theorem dPW_spell_9 : decode bPW_spell 9 = .ok (.invokevirtual 165, 3) := by decide +kernel
theorem dPW_spell_12 : decode bPW_spell 12 = .ok (.if_icmp .ge 10, 3) := by decide +kernel
theorem dPW_spell_15 : decode bPW_spell 15 = .ok (.iload_n 2, 1) := by decide +kernel
theorem dPW_spell_16 : decode bPW_spell 16 = .ok (.invokestatic 169, 3) := by decide +kernel
theorem dPW_spell_19 : decode bPW_spell 19 = .ok (.ifCond .ne 13, 3) := by decide +kernel
theorem dPW_spell_22 : decode bPW_spell 22 = .ok (.new 81, 3) := by decide +kernel
theorem dPW_spell_25 : decode bPW_spell 25 = .ok (.dup, 1) := by decide +kernel
theorem dPW_spell_26 : decode bPW_spell 26 = .ok (.ldc 172, 2) := by decide +kernel
theorem dPW_spell_28 : decode bPW_spell 28 = .ok (.invokespecial 85, 3) := by decide +kernel
theorem dPW_spell_31 : decode bPW_spell 31 = .ok (.athrow, 1) := by decide +kernel
theorem dPW_spell_32 : decode bPW_spell 32 = .ok (.aload_n 0, 1) := by decide +kernel
theorem dPW_spell_33 : decode bPW_spell 33 = .ok (.getfield 26, 3) := by decide +kernel
theorem dPW_spell_36 : decode bPW_spell 36 = .ok (.iload_n 1, 1) := by decide +kernel
theorem dPW_spell_37 : decode bPW_spell 37 = .ok (.invokevirtual 174, 3) := by decide +kernel
theorem dPW_spell_40 : decode bPW_spell 40 = .ok (.astore_n 3, 1) := by decide +kernel
theorem dPW_spell_41 : decode bPW_spell 41 = .ok (.aload_n 3, 1) := by decide +kernel
theorem dPW_spell_42 : decode bPW_spell 42 = .ok (.invokevirtual 178, 3) := by decide +kernel
theorem dPW_spell_45 : decode bPW_spell 45 = .ok (.ifCond .eq 13, 3) := by decide +kernel
theorem dPW_spell_48 : decode bPW_spell 48 = .ok (.new 97, 3) := by decide +kernel
theorem dPW_spell_51 : decode bPW_spell 51 = .ok (.dup, 1) := by decide +kernel
theorem dPW_spell_52 : decode bPW_spell 52 = .ok (.ldc 182, 2) := by decide +kernel
theorem dPW_spell_54 : decode bPW_spell 54 = .ok (.invokespecial 101, 3) := by decide +kernel
theorem dPW_spell_57 : decode bPW_spell 57 = .ok (.athrow, 1) := by decide +kernel
theorem dPW_spell_58 : decode bPW_spell 58 = .ok (.aload_n 0, 1) := by decide +kernel
theorem dPW_spell_59 : decode bPW_spell 59 = .ok (.getfield 52, 3) := by decide +kernel
theorem dPW_spell_62 : decode bPW_spell 62 = .ok (.invokevirtual 102, 3) := by decide +kernel
theorem dPW_spell_65 : decode bPW_spell 65 = .ok (.aload_n 3, 1) := by decide +kernel
theorem dPW_spell_66 : decode bPW_spell 66 = .ok (.iload_n 2, 1) := by decide +kernel
theorem dPW_spell_67 : decode bPW_spell 67 = .ok (.invokevirtual 184, 3) := by decide +kernel
theorem dPW_spell_70 : decode bPW_spell 70 = .ok (.ireturn, 1) := by decide +kernel
theorem dPW_type_0 : decode bPW_type 0 = .ok (.iload_n 2, 1) := by decide +kernel
theorem dPW_type_1 : decode bPW_type 1 = .ok (.invokestatic 169, 3) := by decide +kernel
theorem dPW_type_4 : decode bPW_type 4 = .ok (.ifCond .ne 13, 3) := by decide +kernel
theorem dPW_type_7 : decode bPW_type 7 = .ok (.new 81, 3) := by decide +kernel
theorem dPW_type_10 : decode bPW_type 10 = .ok (.dup, 1) := by decide +kernel
theorem dPW_type_11 : decode bPW_type 11 = .ok (.ldc 83, 2) := by decide +kernel
theorem dPW_type_13 : decode bPW_type 13 = .ok (.invokespecial 85, 3) := by decide +kernel
theorem dPW_type_16 : decode bPW_type 16 = .ok (.athrow, 1) := by decide +kernel
theorem dPW_type_17 : decode bPW_type 17 = .ok (.iload_n 1, 1) := by decide +kernel
theorem dPW_type_18 : decode bPW_type 18 = .ok (.ifCond .eq 10, 3) := by decide +kernel
theorem dPW_type_21 : decode bPW_type 21 = .ok (.aload_n 0, 1) := by decide +kernel
theorem dPW_type_22 : decode bPW_type 22 = .ok (.getfield 39, 3) := by decide +kernel
theorem dPW_type_25 : decode bPW_type 25 = .ok (.goto 7, 3) := by decide +kernel
theorem dPW_type_28 : decode bPW_type 28 = .ok (.aload_n 0, 1) := by decide +kernel
theorem dPW_type_29 : decode bPW_type 29 = .ok (.getfield 35, 3) := by decide +kernel
theorem dPW_type_32 : decode bPW_type 32 = .ok (.astore_n 3, 1) := by decide +kernel
theorem dPW_type_33 : decode bPW_type 33 = .ok (.aload_n 3, 1) := by decide +kernel
theorem dPW_type_34 : decode bPW_type 34 = .ok (.invokevirtual 178, 3) := by decide +kernel
theorem dPW_type_37 : decode bPW_type 37 = .ok (.ifCond .eq 13, 3) := by decide +kernel
theorem dPW_type_40 : decode bPW_type 40 = .ok (.new 97, 3) := by decide +kernel
theorem dPW_type_43 : decode bPW_type 43 = .ok (.dup, 1) := by decide +kernel
theorem dPW_type_44 : decode bPW_type 44 = .ok (.ldc 186, 2) := by decide +kernel
theorem dPW_type_46 : decode bPW_type 46 = .ok (.invokespecial 101, 3) := by decide +kernel
theorem dPW_type_49 : decode bPW_type 49 = .ok (.athrow, 1) := by decide +kernel
theorem dPW_type_50 : decode bPW_type 50 = .ok (.aload_n 3, 1) := by decide +kernel
theorem dPW_type_51 : decode bPW_type 51 = .ok (.iload_n 2, 1) := by decide +kernel
theorem dPW_type_52 : decode bPW_type 52 = .ok (.invokevirtual 184, 3) := by decide +kernel
theorem dPW_type_55 : decode bPW_type 55 = .ok (.ireturn, 1) := by decide +kernel
theorem dPW_wipe_0 : decode bPW_wipe 0 = .ok (.iload_n 1, 1) := by decide +kernel
theorem dPW_wipe_1 : decode bPW_wipe 1 = .ok (.ifCond .eq 10, 3) := by decide +kernel
theorem dPW_wipe_4 : decode bPW_wipe 4 = .ok (.aload_n 0, 1) := by decide +kernel
theorem dPW_wipe_5 : decode bPW_wipe 5 = .ok (.getfield 39, 3) := by decide +kernel
theorem dPW_wipe_8 : decode bPW_wipe 8 = .ok (.goto 7, 3) := by decide +kernel
theorem dPW_wipe_11 : decode bPW_wipe 11 = .ok (.aload_n 0, 1) := by decide +kernel
theorem dPW_wipe_12 : decode bPW_wipe 12 = .ok (.getfield 35, 3) := by decide +kernel
theorem dPW_wipe_15 : decode bPW_wipe 15 = .ok (.astore_n 2, 1) := by decide +kernel
theorem dPW_wipe_16 : decode bPW_wipe 16 = .ok (.aload_n 2, 1) := by decide +kernel
theorem dPW_wipe_17 : decode bPW_wipe 17 = .ok (.invokevirtual 188, 3) := by decide +kernel
theorem dPW_wipe_20 : decode bPW_wipe 20 = .ok (.istore_n 3, 1) := by decide +kernel
theorem dPW_wipe_21 : decode bPW_wipe 21 = .ok (.aload_n 2, 1) := by decide +kernel
theorem dPW_wipe_22 : decode bPW_wipe 22 = .ok (.iconst 0, 1) := by decide +kernel
theorem dPW_wipe_23 : decode bPW_wipe 23 = .ok (.invokevirtual 191, 3) := by decide +kernel
theorem dPW_wipe_26 : decode bPW_wipe 26 = .ok (.iload_n 3, 1) := by decide +kernel
theorem dPW_wipe_27 : decode bPW_wipe 27 = .ok (.ireturn, 1) := by decide +kernel
theorem dPW_belong_0 : decode bPW_belong 0 = .ok (.aload_n 0, 1) := by decide +kernel
theorem dPW_belong_1 : decode bPW_belong 1 = .ok (.getfield 64, 3) := by decide +kernel
theorem dPW_belong_4 : decode bPW_belong 4 = .ok (.aload_n 0, 1) := by decide +kernel
theorem dPW_belong_5 : decode bPW_belong 5 = .ok (.getfield 35, 3) := by decide +kernel
theorem dPW_belong_8 : decode bPW_belong 8 = .ok (.aload_n 0, 1) := by decide +kernel
theorem dPW_belong_9 : decode bPW_belong 9 = .ok (.getfield 39, 3) := by decide +kernel
theorem dPW_belong_12 : decode bPW_belong 12 = .ok (.invokevirtual 194, 3) := by decide +kernel
theorem dPW_belong_15 : decode bPW_belong 15 = .ok (.ireturn, 1) := by decide +kernel
theorem dPW_blame_0 : decode bPW_blame 0 = .ok (.aload_n 0, 1) := by decide +kernel
theorem dPW_blame_1 : decode bPW_blame 1 = .ok (.getfield 64, 3) := by decide +kernel
theorem dPW_blame_4 : decode bPW_blame 4 = .ok (.aload_n 0, 1) := by decide +kernel
theorem dPW_blame_5 : decode bPW_blame 5 = .ok (.getfield 35, 3) := by decide +kernel
theorem dPW_blame_8 : decode bPW_blame 8 = .ok (.aload_n 0, 1) := by decide +kernel
theorem dPW_blame_9 : decode bPW_blame 9 = .ok (.getfield 39, 3) := by decide +kernel
theorem dPW_blame_12 : decode bPW_blame 12 = .ok (.invokevirtual 194, 3) := by decide +kernel
theorem dPW_blame_15 : decode bPW_blame 15 = .ok (.pop, 1) := by decide +kernel
theorem dPW_blame_16 : decode bPW_blame 16 = .ok (.aload_n 0, 1) := by decide +kernel
theorem dPW_blame_17 : decode bPW_blame 17 = .ok (.getfield 64, 3) := by decide +kernel
theorem dPW_blame_20 : decode bPW_blame 20 = .ok (.invokevirtual 198, 3) := by decide +kernel
theorem dPW_blame_23 : decode bPW_blame 23 = .ok (.ireturn, 1) := by decide +kernel
theorem dPW_write_0 : decode bPW_write 0 = .ok (.aload_n 0, 1) := by decide +kernel
theorem dPW_write_1 : decode bPW_write 1 = .ok (.getfield 56, 3) := by decide +kernel
theorem dPW_write_4 : decode bPW_write 4 = .ok (.invokevirtual 102, 3) := by decide +kernel
theorem dPW_write_7 : decode bPW_write 7 = .ok (.aload_n 0, 1) := by decide +kernel
theorem dPW_write_8 : decode bPW_write 8 = .ok (.getfield 73, 3) := by decide +kernel
theorem dPW_write_11 : decode bPW_write 11 = .ok (.aload_n 0, 1) := by decide +kernel
theorem dPW_write_12 : decode bPW_write 12 = .ok (.getfield 35, 3) := by decide +kernel
theorem dPW_write_15 : decode bPW_write 15 = .ok (.invokevirtual 201, 3) := by decide +kernel
theorem dPW_write_18 : decode bPW_write 18 = .ok (.aload_n 0, 1) := by decide +kernel
theorem dPW_write_19 : decode bPW_write 19 = .ok (.getfield 56, 3) := by decide +kernel
theorem dPW_write_22 : decode bPW_write 22 = .ok (.invokevirtual 205, 3) := by decide +kernel
theorem dPW_write_25 : decode bPW_write 25 = .ok (.ifCond .eq 13, 3) := by decide +kernel
theorem dPW_write_28 : decode bPW_write 28 = .ok (.new 97, 3) := by decide +kernel
theorem dPW_write_31 : decode bPW_write 31 = .ok (.dup, 1) := by decide +kernel
theorem dPW_write_32 : decode bPW_write 32 = .ok (.ldc 208, 2) := by decide +kernel
theorem dPW_write_34 : decode bPW_write 34 = .ok (.invokespecial 101, 3) := by decide +kernel
theorem dPW_write_37 : decode bPW_write 37 = .ok (.athrow, 1) := by decide +kernel
theorem dPW_write_38 : decode bPW_write 38 = .ok (.aload_n 0, 1) := by decide +kernel
theorem dPW_write_39 : decode bPW_write 39 = .ok (.getfield 52, 3) := by decide +kernel
theorem dPW_write_42 : decode bPW_write 42 = .ok (.aload_n 0, 1) := by decide +kernel
theorem dPW_write_43 : decode bPW_write 43 = .ok (.getfield 56, 3) := by decide +kernel
theorem dPW_write_46 : decode bPW_write 46 = .ok (.invokevirtual 210, 3) := by decide +kernel
theorem dPW_write_49 : decode bPW_write 49 = .ok (.aload_n 0, 1) := by decide +kernel
theorem dPW_write_50 : decode bPW_write 50 = .ok (.getfield 52, 3) := by decide +kernel
theorem dPW_write_53 : decode bPW_write 53 = .ok (.invokevirtual 214, 3) := by decide +kernel
theorem dPW_write_56 : decode bPW_write 56 = .ok (.ireturn, 1) := by decide +kernel
theorem dPW_analyse_0 : decode bPW_analyse 0 = .ok (.aload_n 0, 1) := by decide +kernel
theorem dPW_analyse_1 : decode bPW_analyse 1 = .ok (.getfield 56, 3) := by decide +kernel
theorem dPW_analyse_4 : decode bPW_analyse 4 = .ok (.invokevirtual 102, 3) := by decide +kernel
theorem dPW_analyse_7 : decode bPW_analyse 7 = .ok (.aload_n 0, 1) := by decide +kernel
theorem dPW_analyse_8 : decode bPW_analyse 8 = .ok (.getfield 26, 3) := by decide +kernel
theorem dPW_analyse_11 : decode bPW_analyse 11 = .ok (.iconst 0, 1) := by decide +kernel
theorem dPW_analyse_12 : decode bPW_analyse 12 = .ok (.iconst 0, 1) := by decide +kernel
theorem dPW_analyse_13 : decode bPW_analyse 13 = .ok (.aload_n 0, 1) := by decide +kernel
theorem dPW_analyse_14 : decode bPW_analyse 14 = .ok (.getfield 39, 3) := by decide +kernel
theorem dPW_analyse_17 : decode bPW_analyse 17 = .ok (.aload_n 0, 1) := by decide +kernel
theorem dPW_analyse_18 : decode bPW_analyse 18 = .ok (.getfield 64, 3) := by decide +kernel
theorem dPW_analyse_21 : decode bPW_analyse 21 = .ok (.aload_n 0, 1) := by decide +kernel
theorem dPW_analyse_22 : decode bPW_analyse 22 = .ok (.getfield 56, 3) := by decide +kernel
theorem dPW_analyse_25 : decode bPW_analyse 25 = .ok (.invokevirtual 215, 3) := by decide +kernel
theorem dPW_analyse_28 : decode bPW_analyse 28 = .ok (.aload_n 0, 1) := by decide +kernel
theorem dPW_analyse_29 : decode bPW_analyse 29 = .ok (.getfield 56, 3) := by decide +kernel
theorem dPW_analyse_32 : decode bPW_analyse 32 = .ok (.invokevirtual 205, 3) := by decide +kernel
theorem dPW_analyse_35 : decode bPW_analyse 35 = .ok (.ifCond .eq 13, 3) := by decide +kernel
theorem dPW_analyse_38 : decode bPW_analyse 38 = .ok (.new 97, 3) := by decide +kernel
theorem dPW_analyse_41 : decode bPW_analyse 41 = .ok (.dup, 1) := by decide +kernel
theorem dPW_analyse_42 : decode bPW_analyse 42 = .ok (.ldc 208, 2) := by decide +kernel
theorem dPW_analyse_44 : decode bPW_analyse 44 = .ok (.invokespecial 101, 3) := by decide +kernel
theorem dPW_analyse_47 : decode bPW_analyse 47 = .ok (.athrow, 1) := by decide +kernel
theorem dPW_analyse_48 : decode bPW_analyse 48 = .ok (.aload_n 0, 1) := by decide +kernel
theorem dPW_analyse_49 : decode bPW_analyse 49 = .ok (.getfield 52, 3) := by decide +kernel
theorem dPW_analyse_52 : decode bPW_analyse 52 = .ok (.aload_n 0, 1) := by decide +kernel
theorem dPW_analyse_53 : decode bPW_analyse 53 = .ok (.getfield 56, 3) := by decide +kernel
theorem dPW_analyse_56 : decode bPW_analyse 56 = .ok (.invokevirtual 210, 3) := by decide +kernel
theorem dPW_analyse_59 : decode bPW_analyse 59 = .ok (.aload_n 0, 1) := by decide +kernel
theorem dPW_analyse_60 : decode bPW_analyse 60 = .ok (.getfield 52, 3) := by decide +kernel
theorem dPW_analyse_63 : decode bPW_analyse 63 = .ok (.invokevirtual 214, 3) := by decide +kernel
theorem dPW_analyse_66 : decode bPW_analyse 66 = .ok (.ireturn, 1) := by decide +kernel
theorem dPW_length_0 : decode bPW_length 0 = .ok (.iload_n 1, 1) := by decide +kernel
theorem dPW_length_1 : decode bPW_length 1 = .ok (.ifCond .lt 14, 3) := by decide +kernel
theorem dPW_length_4 : decode bPW_length 4 = .ok (.iload_n 1, 1) := by decide +kernel
theorem dPW_length_5 : decode bPW_length 5 = .ok (.aload_n 0, 1) := by decide +kernel
theorem dPW_length_6 : decode bPW_length 6 = .ok (.getfield 52, 3) := by decide +kernel
theorem dPW_length_9 : decode bPW_length 9 = .ok (.invokevirtual 214, 3) := by decide +kernel
theorem dPW_length_12 : decode bPW_length 12 = .ok (.if_icmp .lt 13, 3) := by decide +kernel
theorem dPW_length_15 : decode bPW_length 15 = .ok (.new 219, 3) := by decide +kernel
theorem dPW_length_18 : decode bPW_length 18 = .ok (.dup, 1) := by decide +kernel
theorem dPW_length_19 : decode bPW_length 19 = .ok (.ldc 221, 2) := by decide +kernel
theorem dPW_length_21 : decode bPW_length 21 = .ok (.invokespecial 223, 3) := by decide +kernel
theorem dPW_length_24 : decode bPW_length 24 = .ok (.athrow, 1) := by decide +kernel
theorem dPW_length_25 : decode bPW_length 25 = .ok (.iload_n 2, 1) := by decide +kernel
theorem dPW_length_26 : decode bPW_length 26 = .ok (.ifCond .eq 14, 3) := by decide +kernel
theorem dPW_length_29 : decode bPW_length 29 = .ok (.aload_n 0, 1) := by decide +kernel
theorem dPW_length_30 : decode bPW_length 30 = .ok (.getfield 52, 3) := by decide +kernel
theorem dPW_length_33 : decode bPW_length 33 = .ok (.iload_n 1, 1) := by decide +kernel
theorem dPW_length_34 : decode bPW_length 34 = .ok (.invokevirtual 224, 3) := by decide +kernel
theorem dPW_length_37 : decode bPW_length 37 = .ok (.goto 11, 3) := by decide +kernel
theorem dPW_length_40 : decode bPW_length 40 = .ok (.aload_n 0, 1) := by decide +kernel
theorem dPW_length_41 : decode bPW_length 41 = .ok (.getfield 52, 3) := by decide +kernel
theorem dPW_length_44 : decode bPW_length 44 = .ok (.iload_n 1, 1) := by decide +kernel
theorem dPW_length_45 : decode bPW_length 45 = .ok (.invokevirtual 227, 3) := by decide +kernel
theorem dPW_length_48 : decode bPW_length 48 = .ok (.ireturn, 1) := by decide +kernel
theorem dPW_result_0 : decode bPW_result 0 = .ok (.iload_n 1, 1) := by decide +kernel
theorem dPW_result_1 : decode bPW_result 1 = .ok (.ifCond .lt 14, 3) := by decide +kernel
theorem dPW_result_4 : decode bPW_result 4 = .ok (.iload_n 1, 1) := by decide +kernel
theorem dPW_result_5 : decode bPW_result 5 = .ok (.aload_n 0, 1) := by decide +kernel
theorem dPW_result_6 : decode bPW_result 6 = .ok (.getfield 52, 3) := by decide +kernel
theorem dPW_result_9 : decode bPW_result 9 = .ok (.invokevirtual 214, 3) := by decide +kernel
theorem dPW_result_12 : decode bPW_result 12 = .ok (.if_icmp .lt 13, 3) := by decide +kernel
theorem dPW_result_15 : decode bPW_result 15 = .ok (.new 219, 3) := by decide +kernel
theorem dPW_result_18 : decode bPW_result 18 = .ok (.dup, 1) := by decide +kernel
theorem dPW_result_19 : decode bPW_result 19 = .ok (.ldc 221, 2) := by decide +kernel
theorem dPW_result_21 : decode bPW_result 21 = .ok (.invokespecial 223, 3) := by decide +kernel
theorem dPW_result_24 : decode bPW_result 24 = .ok (.athrow, 1) := by decide +kernel
theorem dPW_result_25 : decode bPW_result 25 = .ok (.iload_n 3, 1) := by decide +kernel
theorem dPW_result_26 : decode bPW_result 26 = .ok (.ifCond .eq 14, 3) := by decide +kernel
theorem dPW_result_29 : decode bPW_result 29 = .ok (.aload_n 0, 1) := by decide +kernel
theorem dPW_result_30 : decode bPW_result 30 = .ok (.getfield 52, 3) := by decide +kernel
theorem dPW_result_33 : decode bPW_result 33 = .ok (.iload_n 1, 1) := by decide +kernel
theorem dPW_result_34 : decode bPW_result 34 = .ok (.invokevirtual 224, 3) := by decide +kernel
theorem dPW_result_37 : decode bPW_result 37 = .ok (.goto 11, 3) := by decide +kernel
theorem dPW_result_40 : decode bPW_result 40 = .ok (.aload_n 0, 1) := by decide +kernel
theorem dPW_result_41 : decode bPW_result 41 = .ok (.getfield 52, 3) := by decide +kernel
theorem dPW_result_44 : decode bPW_result 44 = .ok (.iload_n 1, 1) := by decide +kernel
theorem dPW_result_45 : decode bPW_result 45 = .ok (.invokevirtual 227, 3) := by decide +kernel
theorem dPW_result_48 : decode bPW_result 48 = .ok (.istore 4, 2) := by decide +kernel
theorem dPW_result_50 : decode bPW_result 50 = .ok (.iload_n 2, 1) := by decide +kernel
theorem dPW_result_51 : decode bPW_result 51 = .ok (.ifCond .lt 9, 3) := by decide +kernel
theorem dPW_result_54 : decode bPW_result 54 = .ok (.iload_n 2, 1) := by decide +kernel
theorem dPW_result_55 : decode bPW_result 55 = .ok (.iload 4, 2) := by decide +kernel
theorem dPW_result_57 : decode bPW_result 57 = .ok (.if_icmp .lt 13, 3) := by decide +kernel
theorem dPW_result_60 : decode bPW_result 60 = .ok (.new 219, 3) := by decide +kernel
theorem dPW_result_63 : decode bPW_result 63 = .ok (.dup, 1) := by decide +kernel
theorem dPW_result_64 : decode bPW_result 64 = .ok (.ldc 229, 2) := by decide +kernel
theorem dPW_result_66 : decode bPW_result 66 = .ok (.invokespecial 223, 3) := by decide +kernel
theorem dPW_result_69 : decode bPW_result 69 = .ok (.athrow, 1) := by decide +kernel
theorem dPW_result_70 : decode bPW_result 70 = .ok (.iload_n 3, 1) := by decide +kernel
theorem dPW_result_71 : decode bPW_result 71 = .ok (.ifCond .eq 15, 3) := by decide +kernel
theorem dPW_result_74 : decode bPW_result 74 = .ok (.aload_n 0, 1) := by decide +kernel
theorem dPW_result_75 : decode bPW_result 75 = .ok (.getfield 52, 3) := by decide +kernel
theorem dPW_result_78 : decode bPW_result 78 = .ok (.iload_n 1, 1) := by decide +kernel
theorem dPW_result_79 : decode bPW_result 79 = .ok (.iload_n 2, 1) := by decide +kernel
theorem dPW_result_80 : decode bPW_result 80 = .ok (.invokevirtual 231, 3) := by decide +kernel
theorem dPW_result_83 : decode bPW_result 83 = .ok (.goto 12, 3) := by decide +kernel
theorem dPW_result_86 : decode bPW_result 86 = .ok (.aload_n 0, 1) := by decide +kernel
theorem dPW_result_87 : decode bPW_result 87 = .ok (.getfield 52, 3) := by decide +kernel
theorem dPW_result_90 : decode bPW_result 90 = .ok (.iload_n 1, 1) := by decide +kernel
theorem dPW_result_91 : decode bPW_result 91 = .ok (.iload_n 2, 1) := by decide +kernel
theorem dPW_result_92 : decode bPW_result 92 = .ok (.invokevirtual 234, 3) := by decide +kernel
theorem dPW_result_95 : decode bPW_result 95 = .ok (.ireturn, 1) := by decide +kernel
theorem dPW_sample_0 : decode bPW_sample 0 = .ok (.aload_n 0, 1) := by decide +kernel
theorem dPW_sample_1 : decode bPW_sample 1 = .ok (.getfield 45, 3) := by decide +kernel
theorem dPW_sample_4 : decode bPW_sample 4 = .ok (.invokevirtual 237, 3) := by decide +kernel
theorem dPW_sample_7 : decode bPW_sample 7 = .ok (.bipush 8, 2) := by decide +kernel
theorem dPW_sample_9 : decode bPW_sample 9 = .ok (.if_icmp .lt 13, 3) := by decide +kernel
theorem dPW_sample_12 : decode bPW_sample 12 = .ok (.new 97, 3) := by decide +kernel
theorem dPW_sample_15 : decode bPW_sample 15 = .ok (.dup, 1) := by decide +kernel
theorem dPW_sample_16 : decode bPW_sample 16 = .ok (.ldc 238, 2) := by decide +kernel
theorem dPW_sample_18 : decode bPW_sample 18 = .ok (.invokespecial 101, 3) := by decide +kernel
theorem dPW_sample_21 : decode bPW_sample 21 = .ok (.athrow, 1) := by decide +kernel
theorem dPW_sample_22 : decode bPW_sample 22 = .ok (.aload_n 0, 1) := by decide +kernel
theorem dPW_sample_23 : decode bPW_sample 23 = .ok (.getfield 45, 3) := by decide +kernel
theorem dPW_sample_26 : decode bPW_sample 26 = .ok (.aload_n 0, 1) := by decide +kernel
theorem dPW_sample_27 : decode bPW_sample 27 = .ok (.getfield 35, 3) := by decide +kernel
theorem dPW_sample_30 : decode bPW_sample 30 = .ok (.aload_n 0, 1) := by decide +kernel
theorem dPW_sample_31 : decode bPW_sample 31 = .ok (.getfield 39, 3) := by decide +kernel
theorem dPW_sample_34 : decode bPW_sample 34 = .ok (.invokevirtual 240, 3) := by decide +kernel
theorem dPW_sample_37 : decode bPW_sample 37 = .ok (.ireturn, 1) := by decide +kernel
theorem dPW_check_0 : decode bPW_check 0 = .ok (.iconst 0, 1) := by decide +kernel
theorem dPW_check_1 : decode bPW_check 1 = .ok (.istore_n 1, 1) := by decide +kernel
theorem dPW_check_2 : decode bPW_check 2 = .ok (.iload_n 1, 1) := by decide +kernel
theorem dPW_check_3 : decode bPW_check 3 = .ok (.aload_n 0, 1) := by decide +kernel
theorem dPW_check_4 : decode bPW_check 4 = .ok (.getfield 45, 3) := by decide +kernel
theorem dPW_check_7 : decode bPW_check 7 = .ok (.invokevirtual 237, 3) := by decide +kernel
theorem dPW_check_10 : decode bPW_check 10 = .ok (.if_icmp .ge 37, 3) := by decide +kernel
theorem dPW_check_13 : decode bPW_check 13 = .ok (.aload_n 0, 1) := by decide +kernel
theorem dPW_check_14 : decode bPW_check 14 = .ok (.getfield 64, 3) := by decide +kernel
theorem dPW_check_17 : decode bPW_check 17 = .ok (.aload_n 0, 1) := by decide +kernel
theorem dPW_check_18 : decode bPW_check 18 = .ok (.getfield 45, 3) := by decide +kernel
theorem dPW_check_21 : decode bPW_check 21 = .ok (.iload_n 1, 1) := by decide +kernel
theorem dPW_check_22 : decode bPW_check 22 = .ok (.invokevirtual 243, 3) := by decide +kernel
theorem dPW_check_25 : decode bPW_check 25 = .ok (.aload_n 0, 1) := by decide +kernel
theorem dPW_check_26 : decode bPW_check 26 = .ok (.getfield 45, 3) := by decide +kernel
theorem dPW_check_29 : decode bPW_check 29 = .ok (.iload_n 1, 1) := by decide +kernel
theorem dPW_check_30 : decode bPW_check 30 = .ok (.invokevirtual 246, 3) := by decide +kernel
theorem dPW_check_33 : decode bPW_check 33 = .ok (.invokevirtual 194, 3) := by decide +kernel
theorem dPW_check_36 : decode bPW_check 36 = .ok (.ifCond .ne 5, 3) := by decide +kernel
theorem dPW_check_39 : decode bPW_check 39 = .ok (.iload_n 1, 1) := by decide +kernel
theorem dPW_check_40 : decode bPW_check 40 = .ok (.ireturn, 1) := by decide +kernel
theorem dPW_check_41 : decode bPW_check 41 = .ok (.iinc 1 1, 3) := by decide +kernel
theorem dPW_check_44 : decode bPW_check 44 = .ok (.goto (-42), 3) := by decide +kernel
theorem dPW_check_47 : decode bPW_check 47 = .ok (.iconst (-1), 1) := by decide +kernel
theorem dPW_check_48 : decode bPW_check 48 = .ok (.ireturn, 1) := by decide +kernel
theorem dPW_isSign_0 : decode bPW_isSign 0 = .ok (.iload_n 0, 1) := by decide +kernel
theorem dPW_isSign_1 : decode bPW_isSign 1 = .ok (.ifCond .le 13, 3) := by decide +kernel
theorem dPW_isSign_4 : decode bPW_isSign 4 = .ok (.iload_n 0, 1) := by decide +kernel
theorem dPW_isSign_5 : decode bPW_isSign 5 = .ok (.bipush 7, 2) := by decide +kernel
theorem dPW_isSign_7 : decode bPW_isSign 7 = .ok (.if_icmp .gt 7, 3) := by decide +kernel
theorem dPW_isSign_10 : decode bPW_isSign 10 = .ok (.iconst 1, 1) := by decide +kernel
theorem dPW_isSign_11 : decode bPW_isSign 11 = .ok (.goto 4, 3) := by decide +kernel
theorem dPW_isSign_14 : decode bPW_isSign 14 = .ok (.iconst 0, 1) := by decide +kernel
theorem dPW_isSign_15 : decode bPW_isSign 15 = .ok (.ireturn, 1) := by decide +kernel
theorem dPW_isSignOrEmpty_0 : decode bPW_isSignOrEmpty 0 = .ok (.iload_n 0, 1) := by decide +kernel
theorem dPW_isSignOrEmpty_1 : decode bPW_isSignOrEmpty 1 = .ok (.ifCond .eq 10, 3) := by decide +kernel
theorem dPW_isSignOrEmpty_4 : decode bPW_isSignOrEmpty 4 = .ok (.iload_n 0, 1) := by decide +kernel
theorem dPW_isSignOrEmpty_5 : decode bPW_isSignOrEmpty 5 = .ok (.invokestatic 169, 3) := by decide +kernel
theorem dPW_isSignOrEmpty_8 : decode bPW_isSignOrEmpty 8 = .ok (.ifCond .eq 7, 3) := by decide +kernel
theorem dPW_isSignOrEmpty_11 : decode bPW_isSignOrEmpty 11 = .ok (.iconst 1, 1) := by decide +kernel
theorem dPW_isSignOrEmpty_12 : decode bPW_isSignOrEmpty 12 = .ok (.goto 4, 3) := by decide +kernel
theorem dPW_isSignOrEmpty_15 : decode bPW_isSignOrEmpty 15 = .ok (.iconst 0, 1) := by decide +kernel
theorem dPW_isSignOrEmpty_16 : decode bPW_isSignOrEmpty 16 = .ok (.ireturn, 1) := by decide +kernel
theorem dPW_isPart_0 : decode bPW_isPart 0 = .ok (.iload_n 0, 1) := by decide +kernel
theorem dPW_isPart_1 : decode bPW_isPart 1 = .ok (.ifCond .lt 12, 3) := by decide +kernel
theorem dPW_isPart_4 : decode bPW_isPart 4 = .ok (.iload_n 0, 1) := by decide +kernel
theorem dPW_isPart_5 : decode bPW_isPart 5 = .ok (.iconst 4, 1) := by decide +kernel
theorem dPW_isPart_6 : decode bPW_isPart 6 = .ok (.if_icmp .ge 7, 3) := by decide +kernel
theorem dPW_isPart_9 : decode bPW_isPart 9 = .ok (.iconst 1, 1) := by decide +kernel
theorem dPW_isPart_10 : decode bPW_isPart 10 = .ok (.goto 4, 3) := by decide +kernel
theorem dPW_isPart_13 : decode bPW_isPart 13 = .ok (.iconst 0, 1) := by decide +kernel
theorem dPW_isPart_14 : decode bPW_isPart 14 = .ok (.ireturn, 1) := by decide +kernel
end
section
theorem dMod_init_0 : decode bMod_init 0 = .ok (.aload_n 0, 1) := by decide +kernel
theorem dMod_init_1 : decode bMod_init 1 = .ok (.invokespecial 1, 3) := by decide +kernel
theorem dMod_init_4 : decode bMod_init 4 = .ok (.aload_n 0, 1) := by decide +kernel
theorem dMod_init_5 : decode bMod_init 5 = .ok (.bipush 10, 2) := by decide +kernel
theorem dMod_init_7 : decode bMod_init 7 = .ok (.newarray .int, 2) := by decide +kernel
theorem dMod_init_9 : decode bMod_init 9 = .ok (.putfield 7, 3) := by decide +kernel
theorem dMod_init_12 : decode bMod_init 12 = .ok (.aload_n 0, 1) := by decide +kernel
theorem dMod_init_13 : decode bMod_init 13 = .ok (.bipush 10, 2) := by decide +kernel
theorem dMod_init_15 : decode bMod_init 15 = .ok (.newarray .int, 2) := by decide +kernel
theorem dMod_init_17 : decode bMod_init 17 = .ok (.putfield 13, 3) := by decide +kernel
theorem dMod_init_20 : decode bMod_init 20 = .ok (.aload_n 0, 1) := by decide +kernel
theorem dMod_init_21 : decode bMod_init 21 = .ok (.iconst 4, 1) := by decide +kernel
theorem dMod_init_22 : decode bMod_init 22 = .ok (.newarray .int, 2) := by decide +kernel
theorem dMod_init_24 : decode bMod_init 24 = .ok (.putfield 16, 3) := by decide +kernel
theorem dMod_init_27 : decode bMod_init 27 = .ok (.aload_n 0, 1) := by decide +kernel
theorem dMod_init_28 : decode bMod_init 28 = .ok (.iconst 4, 1) := by decide +kernel
theorem dMod_init_29 : decode bMod_init 29 = .ok (.newarray .int, 2) := by decide +kernel
theorem dMod_init_31 : decode bMod_init 31 = .ok (.putfield 19, 3) := by decide +kernel
theorem dMod_init_34 : decode bMod_init 34 = .ok (.aload_n 0, 1) := by decide +kernel
theorem dMod_init_35 : decode bMod_init 35 = .ok (.iconst 4, 1) := by decide +kernel
theorem dMod_init_36 : decode bMod_init 36 = .ok (.newarray .int, 2) := by decide +kernel
theorem dMod_init_38 : decode bMod_init 38 = .ok (.putfield 22, 3) := by decide +kernel
theorem dMod_init_41 : decode bMod_init 41 = .ok (.aload_n 0, 1) := by decide +kernel
theorem dMod_init_42 : decode bMod_init 42 = .ok (.bipush 16, 2) := by decide +kernel
theorem dMod_init_44 : decode bMod_init 44 = .ok (.newarray .boolean, 2) := by decide +kernel
theorem dMod_init_46 : decode bMod_init 46 = .ok (.putfield 25, 3) := by decide +kernel
theorem dMod_init_49 : decode bMod_init 49 = .ok (.aload_n 0, 1) := by decide +kernel
theorem dMod_init_50 : decode bMod_init 50 = .ok (.bipush 16, 2) := by decide +kernel
theorem dMod_init_52 : decode bMod_init 52 = .ok (.newarray .int, 2) := by decide +kernel
theorem dMod_init_54 : decode bMod_init 54 = .ok (.putfield 29, 3) := by decide +kernel
theorem dMod_init_57 : decode bMod_init 57 = .ok (.aload_n 0, 1) := by decide +kernel
theorem dMod_init_58 : decode bMod_init 58 = .ok (.bipush 32, 2) := by decide +kernel
theorem dMod_init_60 : decode bMod_init 60 = .ok (.newarray .int, 2) := by decide +kernel
theorem dMod_init_62 : decode bMod_init 62 = .ok (.putfield 32, 3) := by decide +kernel
theorem dMod_init_65 : decode bMod_init 65 = .ok (.aload_n 0, 1) := by decide +kernel
theorem dMod_init_66 : decode bMod_init 66 = .ok (.bipush 32, 2) := by decide +kernel
theorem dMod_init_68 : decode bMod_init 68 = .ok (.newarray .boolean, 2) := by decide +kernel
theorem dMod_init_70 : decode bMod_init 70 = .ok (.putfield 35, 3) := by decide +kernel
theorem dMod_init_73 : decode bMod_init 73 = .ok (.aload_n 0, 1) := by decide +kernel
theorem dMod_init_74 : decode bMod_init 74 = .ok (.bipush 8, 2) := by decide +kernel
theorem dMod_init_76 : decode bMod_init 76 = .ok (.newarray .int, 2) := by decide +kernel
theorem dMod_init_78 : decode bMod_init 78 = .ok (.putfield 38, 3) := by decide +kernel
theorem dMod_init_81 : decode bMod_init 81 = .ok (.aload_n 0, 1) := by decide +kernel
theorem dMod_init_82 : decode bMod_init 82 = .ok (.bipush 8, 2) := by decide +kernel
theorem dMod_init_84 : decode bMod_init 84 = .ok (.newarray .int, 2) := by decide +kernel
theorem dMod_init_86 : decode bMod_init 86 = .ok (.putfield 41, 3) := by decide +kernel
theorem dMod_init_89 : decode bMod_init 89 = .ok (.aload_n 0, 1) := by decide +kernel
theorem dMod_init_90 : decode bMod_init 90 = .ok (.bipush 8, 2) := by decide +kernel
theorem dMod_init_92 : decode bMod_init 92 = .ok (.newarray .int, 2) := by decide +kernel
theorem dMod_init_94 : decode bMod_init 94 = .ok (.putfield 44, 3) := by decide +kernel
theorem dMod_init_97 : decode bMod_init 97 = .ok (.aload_n 0, 1) := by decide +kernel
theorem dMod_init_98 : decode bMod_init 98 = .ok (.bipush 24, 2) := by decide +kernel
theorem dMod_init_100 : decode bMod_init 100 = .ok (.newarray .int, 2) := by decide +kernel
theorem dMod_init_102 : decode bMod_init 102 = .ok (.putfield 47, 3) := by decide +kernel
theorem dMod_init_105 : decode bMod_init 105 = .ok (.aload_n 0, 1) := by decide +kernel
theorem dMod_init_106 : decode bMod_init 106 = .ok (.iconst 2, 1) := by decide +kernel
theorem dMod_init_107 : decode bMod_init 107 = .ok (.newarray .int, 2) := by decide +kernel
theorem dMod_init_109 : decode bMod_init 109 = .ok (.putfield 50, 3) := by decide +kernel
theorem dMod_init_112 : decode bMod_init 112 = .ok (.aload_n 0, 1) := by decide +kernel
theorem dMod_init_113 : decode bMod_init 113 = .ok (.bipush 10, 2) := by decide +kernel
theorem dMod_init_115 : decode bMod_init 115 = .ok (.newarray .int, 2) := by decide +kernel
theorem dMod_init_117 : decode bMod_init 117 = .ok (.putfield 53, 3) := by decide +kernel
theorem dMod_init_120 : decode bMod_init 120 = .ok (.aload_n 0, 1) := by decide +kernel
theorem dMod_init_121 : decode bMod_init 121 = .ok (.bipush 60, 2) := by decide +kernel
theorem dMod_init_123 : decode bMod_init 123 = .ok (.newarray .int, 2) := by decide +kernel
theorem dMod_init_125 : decode bMod_init 125 = .ok (.putfield 56, 3) := by decide +kernel
theorem dMod_init_128 : decode bMod_init 128 = .ok (.aload_n 0, 1) := by decide +kernel
theorem dMod_init_129 : decode bMod_init 129 = .ok (.bipush 60, 2) := by decide +kernel
theorem dMod_init_131 : decode bMod_init 131 = .ok (.newarray .int, 2) := by decide +kernel
theorem dMod_init_133 : decode bMod_init 133 = .ok (.putfield 59, 3) := by decide +kernel
theorem dMod_init_136 : decode bMod_init 136 = .ok (.aload_n 0, 1) := by decide +kernel
theorem dMod_init_137 : decode bMod_init 137 = .ok (.bipush 60, 2) := by decide +kernel
theorem dMod_init_139 : decode bMod_init 139 = .ok (.newarray .int, 2) := by decide +kernel
theorem dMod_init_141 : decode bMod_init 141 = .ok (.putfield 62, 3) := by decide +kernel
theorem dMod_init_144 : decode bMod_init 144 = .ok (.aload_n 0, 1) := by decide +kernel
theorem dMod_init_145 : decode bMod_init 145 = .ok (.bipush 60, 2) := by decide +kernel
theorem dMod_init_147 : decode bMod_init 147 = .ok (.newarray .int, 2) := by decide +kernel
theorem dMod_init_149 : decode bMod_init 149 = .ok (.putfield 65, 3) := by decide +kernel
theorem dMod_init_152 : decode bMod_init 152 = .ok (.aload_n 0, 1) := by decide +kernel
theorem dMod_init_153 : decode bMod_init 153 = .ok (.bipush 61, 2) := by decide +kernel
theorem dMod_init_155 : decode bMod_init 155 = .ok (.newarray .int, 2) := by decide +kernel
theorem dMod_init_157 : decode bMod_init 157 = .ok (.putfield 68, 3) := by decide +kernel
theorem dMod_init_160 : decode bMod_init 160 = .ok (.aload_n 0, 1) := by decide +kernel
theorem dMod_init_161 : decode bMod_init 161 = .ok (.bipush 61, 2) := by decide +kernel
theorem dMod_init_163 : decode bMod_init 163 = .ok (.newarray .int, 2) := by decide +kernel
theorem dMod_init_165 : decode bMod_init 165 = .ok (.putfield 71, 3) := by decide +kernel
theorem dMod_init_168 : decode bMod_init 168 = .ok (.aload_n 0, 1) := by decide +kernel
theorem dMod_init_169 : decode bMod_init 169 = .ok (.bipush 61, 2) := by decide +kernel
theorem dMod_init_171 : decode bMod_init 171 = .ok (.newarray .int, 2) := by decide +kernel
theorem dMod_init_173 : decode bMod_init 173 = .ok (.putfield 74, 3) := by decide +kernel
theorem dMod_init_176 : decode bMod_init 176 = .ok (.aload_n 0, 1) := by decide +kernel
theorem dMod_init_177 : decode bMod_init 177 = .ok (.bipush 61, 2) := by decide +kernel
theorem dMod_init_179 : decode bMod_init 179 = .ok (.newarray .int, 2) := by decide +kernel
theorem dMod_init_181 : decode bMod_init 181 = .ok (.putfield 77, 3) := by decide +kernel
theorem dMod_init_184 : decode bMod_init 184 = .ok (.aload_n 0, 1) := by decide +kernel
theorem dMod_init_185 : decode bMod_init 185 = .ok (.bipush 16, 2) := by decide +kernel
theorem dMod_init_187 : decode bMod_init 187 = .ok (.newarray .int, 2) := by decide +kernel
theorem dMod_init_189 : decode bMod_init 189 = .ok (.putfield 80, 3) := by decide +kernel
theorem dMod_init_192 : decode bMod_init 192 = .ok (.aload_n 0, 1) := by decide +kernel
theorem dMod_init_193 : decode bMod_init 193 = .ok (.bipush 80, 2) := by decide +kernel
theorem dMod_init_195 : decode bMod_init 195 = .ok (.newarray .int, 2) := by decide +kernel
theorem dMod_init_197 : decode bMod_init 197 = .ok (.putfield 83, 3) := by decide +kernel
theorem dMod_init_200 : decode bMod_init 200 = .ok (.aload_n 0, 1) := by decide +kernel
theorem dMod_init_201 : decode bMod_init 201 = .ok (.iconst 4, 1) := by decide +kernel
theorem dMod_init_202 : decode bMod_init 202 = .ok (.newarray .int, 2) := by decide +kernel
theorem dMod_init_204 : decode bMod_init 204 = .ok (.putfield 86, 3) := by decide +kernel
theorem dMod_init_207 : decode bMod_init 207 = .ok (.aload_n 0, 1) := by decide +kernel
theorem dMod_init_208 : decode bMod_init 208 = .ok (.iconst 5, 1) := by decide +kernel
theorem dMod_init_209 : decode bMod_init 209 = .ok (.newarray .int, 2) := by decide +kernel
theorem dMod_init_211 : decode bMod_init 211 = .ok (.putfield 89, 3) := by decide +kernel
theorem dMod_init_214 : decode bMod_init 214 = .ok (.aload_n 0, 1) := by decide +kernel
theorem dMod_init_215 : decode bMod_init 215 = .ok (.bipush 12, 2) := by decide +kernel
theorem dMod_init_217 : decode bMod_init 217 = .ok (.newarray .int, 2) := by decide +kernel
theorem dMod_init_219 : decode bMod_init 219 = .ok (.putfield 92, 3) := by decide +kernel
theorem dMod_init_222 : decode bMod_init 222 = .ok (.aload_n 0, 1) := by decide +kernel
theorem dMod_init_223 : decode bMod_init 223 = .ok (.bipush 12, 2) := by decide +kernel
theorem dMod_init_225 : decode bMod_init 225 = .ok (.newarray .int, 2) := by decide +kernel
theorem dMod_init_227 : decode bMod_init 227 = .ok (.putfield 95, 3) := by decide +kernel
theorem dMod_init_230 : decode bMod_init 230 = .ok (.aload_n 0, 1) := by decide +kernel
theorem dMod_init_231 : decode bMod_init 231 = .ok (.bipush 12, 2) := by decide +kernel
theorem dMod_init_233 : decode bMod_init 233 = .ok (.newarray .int, 2) := by decide +kernel
theorem dMod_init_235 : decode bMod_init 235 = .ok (.putfield 98, 3) := by decide +kernel
theorem dMod_init_238 : decode bMod_init 238 = .ok (.aload_n 0, 1) := by decide +kernel
theorem dMod_init_239 : decode bMod_init 239 = .ok (.bipush 12, 2) := by decide +kernel
theorem dMod_init_241 : decode bMod_init 241 = .ok (.newarray .int, 2) := by decide +kernel
theorem dMod_init_243 : decode bMod_init 243 = .ok (.putfield 101, 3) := by decide +kernel
theorem dMod_init_246 : decode bMod_init 246 = .ok (.aload_n 0, 1) := by decide +kernel
theorem dMod_init_247 : decode bMod_init 247 = .ok (.iconst 4, 1) := by decide +kernel
theorem dMod_init_248 : decode bMod_init 248 = .ok (.newarray .int, 2) := by decide +kernel
theorem dMod_init_250 : decode bMod_init 250 = .ok (.putfield 104, 3) := by decide +kernel
theorem dMod_init_253 : decode bMod_init 253 = .ok (.return_, 1) := by decide +kernel
theorem dMod_thrown_0 : decode bMod_thrown 0 = .ok (.aload_n 0, 1) := by decide +kernel
theorem dMod_thrown_1 : decode bMod_thrown 1 = .ok (.getfield 107, 3) := by decide +kernel
theorem dMod_thrown_4 : decode bMod_thrown 4 = .ok (.ireturn, 1) := by decide +kernel
theorem dMod_noSign_0 : decode bMod_noSign 0 = .ok (.iload_n 1, 1) := by decide +kernel
theorem dMod_noSign_1 : decode bMod_noSign 1 = .ok (.iload_n 2, 1) := by decide +kernel
theorem dMod_noSign_2 : decode bMod_noSign 2 = .ok (.if_icmp .lt 9, 3) := by decide +kernel
theorem dMod_noSign_5 : decode bMod_noSign 5 = .ok (.iload_n 1, 1) := by decide +kernel
theorem dMod_noSign_6 : decode bMod_noSign 6 = .ok (.bipush 7, 2) := by decide +kernel
theorem dMod_noSign_8 : decode bMod_noSign 8 = .ok (.if_icmp .le 7, 3) := by decide +kernel
theorem dMod_noSign_11 : decode bMod_noSign 11 = .ok (.iconst 1, 1) := by decide +kernel
theorem dMod_noSign_12 : decode bMod_noSign 12 = .ok (.goto 4, 3) := by decide +kernel
theorem dMod_noSign_15 : decode bMod_noSign 15 = .ok (.iconst 0, 1) := by decide +kernel
theorem dMod_noSign_16 : decode bMod_noSign 16 = .ok (.ireturn, 1) := by decide +kernel
theorem dMod_pair_0 : decode bMod_pair 0 = .ok (.aload_n 0, 1) := by decide +kernel
theorem dMod_pair_1 : decode bMod_pair 1 = .ok (.iload_n 1, 1) := by decide +kernel
theorem dMod_pair_2 : decode bMod_pair 2 = .ok (.iconst 0, 1) := by decide +kernel
theorem dMod_pair_3 : decode bMod_pair 3 = .ok (.invokevirtual 111, 3) := by decide +kernel
theorem dMod_pair_6 : decode bMod_pair 6 = .ok (.ifCond .ne 20, 3) := by decide +kernel
theorem dMod_pair_9 : decode bMod_pair 9 = .ok (.aload_n 0, 1) := by decide +kernel
theorem dMod_pair_10 : decode bMod_pair 10 = .ok (.iload_n 2, 1) := by decide +kernel
theorem dMod_pair_11 : decode bMod_pair 11 = .ok (.iconst 0, 1) := by decide +kernel
theorem dMod_pair_12 : decode bMod_pair 12 = .ok (.invokevirtual 111, 3) := by decide +kernel
theorem dMod_pair_15 : decode bMod_pair 15 = .ok (.ifCond .ne 11, 3) := by decide +kernel
theorem dMod_pair_18 : decode bMod_pair 18 = .ok (.iload_n 1, 1) := by decide +kernel
theorem dMod_pair_19 : decode bMod_pair 19 = .ok (.ifCond .ne 11, 3) := by decide +kernel
theorem dMod_pair_22 : decode bMod_pair 22 = .ok (.iload_n 2, 1) := by decide +kernel
theorem dMod_pair_23 : decode bMod_pair 23 = .ok (.ifCond .ne 7, 3) := by decide +kernel
theorem dMod_pair_26 : decode bMod_pair 26 = .ok (.iconst 1, 1) := by decide +kernel
theorem dMod_pair_27 : decode bMod_pair 27 = .ok (.goto 4, 3) := by decide +kernel
theorem dMod_pair_30 : decode bMod_pair 30 = .ok (.iconst 0, 1) := by decide +kernel
theorem dMod_pair_31 : decode bMod_pair 31 = .ok (.istore_n 3, 1) := by decide +kernel
theorem dMod_pair_32 : decode bMod_pair 32 = .ok (.iconst 0, 1) := by decide +kernel
theorem dMod_pair_33 : decode bMod_pair 33 = .ok (.istore 4, 2) := by decide +kernel
theorem dMod_pair_35 : decode bMod_pair 35 = .ok (.iconst 0, 1) := by decide +kernel
theorem dMod_pair_36 : decode bMod_pair 36 = .ok (.istore 5, 2) := by decide +kernel
theorem dMod_pair_38 : decode bMod_pair 38 = .ok (.iload 5, 2) := by decide +kernel
theorem dMod_pair_40 : decode bMod_pair 40 = .ok (.aload_n 0, 1) := by decide +kernel
theorem dMod_pair_41 : decode bMod_pair 41 = .ok (.getfield 115, 3) := by decide +kernel
theorem dMod_pair_44 : decode bMod_pair 44 = .ok (.if_icmp .ge 62, 3) := by decide +kernel
theorem dMod_pair_47 : decode bMod_pair 47 = .ok (.iload_n 3, 1) := by decide +kernel
theorem dMod_pair_48 : decode bMod_pair 48 = .ok (.ifCond .ne 25, 3) := by decide +kernel
theorem dMod_pair_51 : decode bMod_pair 51 = .ok (.aload_n 0, 1) := by decide +kernel
theorem dMod_pair_52 : decode bMod_pair 52 = .ok (.getfield 7, 3) := by decide +kernel
theorem dMod_pair_55 : decode bMod_pair 55 = .ok (.iload 5, 2) := by decide +kernel
theorem dMod_pair_57 : decode bMod_pair 57 = .ok (.iaload, 1) := by decide +kernel
theorem dMod_pair_58 : decode bMod_pair 58 = .ok (.iload_n 1, 1) := by decide +kernel
theorem dMod_pair_59 : decode bMod_pair 59 = .ok (.if_icmp .ne 18, 3) := by decide +kernel
theorem dMod_pair_62 : decode bMod_pair 62 = .ok (.aload_n 0, 1) := by decide +kernel
theorem dMod_pair_63 : decode bMod_pair 63 = .ok (.getfield 13, 3) := by decide +kernel
theorem dMod_pair_66 : decode bMod_pair 66 = .ok (.iload 5, 2) := by decide +kernel
theorem dMod_pair_68 : decode bMod_pair 68 = .ok (.iaload, 1) := by decide +kernel
theorem dMod_pair_69 : decode bMod_pair 69 = .ok (.iload_n 2, 1) := by decide +kernel
theorem dMod_pair_70 : decode bMod_pair 70 = .ok (.if_icmp .ne 7, 3) := by decide +kernel
theorem dMod_pair_73 : decode bMod_pair 73 = .ok (.iconst 1, 1) := by decide +kernel
theorem dMod_pair_74 : decode bMod_pair 74 = .ok (.goto 4, 3) := by decide +kernel
theorem dMod_pair_77 : decode bMod_pair 77 = .ok (.iconst 0, 1) := by decide +kernel
theorem dMod_pair_78 : decode bMod_pair 78 = .ok (.istore_n 3, 1) := by decide +kernel
theorem dMod_pair_79 : decode bMod_pair 79 = .ok (.iload 4, 2) := by decide +kernel
theorem dMod_pair_81 : decode bMod_pair 81 = .ok (.aload_n 0, 1) := by decide +kernel
theorem dMod_pair_82 : decode bMod_pair 82 = .ok (.getfield 7, 3) := by decide +kernel
theorem dMod_pair_85 : decode bMod_pair 85 = .ok (.iload 5, 2) := by decide +kernel
theorem dMod_pair_87 : decode bMod_pair 87 = .ok (.iaload, 1) := by decide +kernel
theorem dMod_pair_88 : decode bMod_pair 88 = .ok (.iload_n 1, 1) := by decide +kernel
theorem dMod_pair_89 : decode bMod_pair 89 = .ok (.if_icmp .ne 7, 3) := by decide +kernel
theorem dMod_pair_92 : decode bMod_pair 92 = .ok (.iconst 1, 1) := by decide +kernel
theorem dMod_pair_93 : decode bMod_pair 93 = .ok (.goto 4, 3) := by decide +kernel
theorem dMod_pair_96 : decode bMod_pair 96 = .ok (.iconst 0, 1) := by decide +kernel
theorem dMod_pair_97 : decode bMod_pair 97 = .ok (.iadd, 1) := by decide +kernel
theorem dMod_pair_98 : decode bMod_pair 98 = .ok (.istore 4, 2) := by decide +kernel
theorem dMod_pair_100 : decode bMod_pair 100 = .ok (.iinc 5 1, 3) := by decide +kernel
theorem dMod_pair_103 : decode bMod_pair 103 = .ok (.goto (-65), 3) := by decide +kernel
theorem dMod_pair_106 : decode bMod_pair 106 = .ok (.aload_n 0, 1) := by decide +kernel
theorem dMod_pair_107 : decode bMod_pair 107 = .ok (.iload_n 3, 1) := by decide +kernel
theorem dMod_pair_108 : decode bMod_pair 108 = .ok (.ifCond .eq 7, 3) := by decide +kernel
theorem dMod_pair_111 : decode bMod_pair 111 = .ok (.iconst 1, 1) := by decide +kernel
theorem dMod_pair_112 : decode bMod_pair 112 = .ok (.goto 31, 3) := by decide +kernel
theorem dMod_pair_115 : decode bMod_pair 115 = .ok (.aload_n 0, 1) := by decide +kernel
theorem dMod_pair_116 : decode bMod_pair 116 = .ok (.getfield 115, 3) := by decide +kernel
theorem dMod_pair_119 : decode bMod_pair 119 = .ok (.bipush 10, 2) := by decide +kernel
theorem dMod_pair_121 : decode bMod_pair 121 = .ok (.if_icmp .eq 17, 3) := by decide +kernel
theorem dMod_pair_124 : decode bMod_pair 124 = .ok (.iload 4, 2) := by decide +kernel
theorem dMod_pair_126 : decode bMod_pair 126 = .ok (.iload_n 1, 1) := by decide +kernel
theorem dMod_pair_127 : decode bMod_pair 127 = .ok (.ifCond .ne 7, 3) := by decide +kernel
theorem dMod_pair_130 : decode bMod_pair 130 = .ok (.iconst 2, 1) := by decide +kernel
theorem dMod_pair_131 : decode bMod_pair 131 = .ok (.goto 4, 3) := by decide +kernel
theorem dMod_pair_134 : decode bMod_pair 134 = .ok (.iconst 3, 1) := by decide +kernel
theorem dMod_pair_135 : decode bMod_pair 135 = .ok (.if_icmp .ne 7, 3) := by decide +kernel
theorem dMod_pair_138 : decode bMod_pair 138 = .ok (.iconst 2, 1) := by decide +kernel
theorem dMod_pair_139 : decode bMod_pair 139 = .ok (.goto 4, 3) := by decide +kernel
theorem dMod_pair_142 : decode bMod_pair 142 = .ok (.iconst 0, 1) := by decide +kernel
theorem dMod_pair_143 : decode bMod_pair 143 = .ok (.putfield 107, 3) := by decide +kernel
theorem dMod_pair_146 : decode bMod_pair 146 = .ok (.aload_n 0, 1) := by decide +kernel
theorem dMod_pair_147 : decode bMod_pair 147 = .ok (.getfield 107, 3) := by decide +kernel
theorem dMod_pair_150 : decode bMod_pair 150 = .ok (.ifCond .eq 5, 3) := by decide +kernel
theorem dMod_pair_153 : decode bMod_pair 153 = .ok (.iconst 0, 1) := by decide +kernel
theorem dMod_pair_154 : decode bMod_pair 154 = .ok (.ireturn, 1) := by decide +kernel
theorem dMod_pair_155 : decode bMod_pair 155 = .ok (.aload_n 0, 1) := by decide +kernel
theorem dMod_pair_156 : decode bMod_pair 156 = .ok (.getfield 7, 3) := by decide +kernel
theorem dMod_pair_159 : decode bMod_pair 159 = .ok (.aload_n 0, 1) := by decide +kernel
theorem dMod_pair_160 : decode bMod_pair 160 = .ok (.getfield 115, 3) := by decide +kernel
theorem dMod_pair_163 : decode bMod_pair 163 = .ok (.iload_n 1, 1) := by decide +kernel
theorem dMod_pair_164 : decode bMod_pair 164 = .ok (.iastore, 1) := by decide +kernel
theorem dMod_pair_165 : decode bMod_pair 165 = .ok (.aload_n 0, 1) := by decide +kernel
theorem dMod_pair_166 : decode bMod_pair 166 = .ok (.getfield 13, 3) := by decide +kernel
theorem dMod_pair_169 : decode bMod_pair 169 = .ok (.aload_n 0, 1) := by decide +kernel
theorem dMod_pair_170 : decode bMod_pair 170 = .ok (.getfield 115, 3) := by decide +kernel
theorem dMod_pair_173 : decode bMod_pair 173 = .ok (.iload_n 2, 1) := by decide +kernel
theorem dMod_pair_174 : decode bMod_pair 174 = .ok (.iastore, 1) := by decide +kernel
theorem dMod_pair_175 : decode bMod_pair 175 = .ok (.aload_n 0, 1) := by decide +kernel
theorem dMod_pair_176 : decode bMod_pair 176 = .ok (.dup, 1) := by decide +kernel
theorem dMod_pair_177 : decode bMod_pair 177 = .ok (.getfield 115, 3) := by decide +kernel
theorem dMod_pair_180 : decode bMod_pair 180 = .ok (.iconst 1, 1) := by decide +kernel
theorem dMod_pair_181 : decode bMod_pair 181 = .ok (.iadd, 1) := by decide +kernel
theorem dMod_pair_182 : decode bMod_pair 182 = .ok (.putfield 115, 3) := by decide +kernel
theorem dMod_pair_185 : decode bMod_pair 185 = .ok (.aload_n 0, 1) := by decide +kernel
theorem dMod_pair_186 : decode bMod_pair 186 = .ok (.iconst 0, 1) := by decide +kernel
theorem dMod_pair_187 : decode bMod_pair 187 = .ok (.putfield 118, 3) := by decide +kernel
theorem dMod_pair_190 : decode bMod_pair 190 = .ok (.aload_n 0, 1) := by decide +kernel
theorem dMod_pair_191 : decode bMod_pair 191 = .ok (.getfield 115, 3) := by decide +kernel
theorem dMod_pair_194 : decode bMod_pair 194 = .ok (.iconst 1, 1) := by decide +kernel
theorem dMod_pair_195 : decode bMod_pair 195 = .ok (.isub, 1) := by decide +kernel
theorem dMod_pair_196 : decode bMod_pair 196 = .ok (.ireturn, 1) := by decide +kernel
theorem dMod_rule_0 : decode bMod_rule 0 = .ok (.aload_n 0, 1) := by decide +kernel
theorem dMod_rule_1 : decode bMod_rule 1 = .ok (.iload_n 1, 1) := by decide +kernel
theorem dMod_rule_2 : decode bMod_rule 2 = .ok (.ifCond .lt 20, 3) := by decide +kernel
theorem dMod_rule_5 : decode bMod_rule 5 = .ok (.iload_n 1, 1) := by decide +kernel
theorem dMod_rule_6 : decode bMod_rule 6 = .ok (.iconst 3, 1) := by decide +kernel
theorem dMod_rule_7 : decode bMod_rule 7 = .ok (.if_icmp .gt 15, 3) := by decide +kernel
theorem dMod_rule_10 : decode bMod_rule 10 = .ok (.iload_n 2, 1) := by decide +kernel
theorem dMod_rule_11 : decode bMod_rule 11 = .ok (.ifCond .lt 11, 3) := by decide +kernel
theorem dMod_rule_14 : decode bMod_rule 14 = .ok (.iload_n 2, 1) := by decide +kernel
theorem dMod_rule_15 : decode bMod_rule 15 = .ok (.aload_n 0, 1) := by decide +kernel
theorem dMod_rule_16 : decode bMod_rule 16 = .ok (.getfield 115, 3) := by decide +kernel
theorem dMod_rule_19 : decode bMod_rule 19 = .ok (.if_icmp .lt 7, 3) := by decide +kernel
theorem dMod_rule_22 : decode bMod_rule 22 = .ok (.iconst 1, 1) := by decide +kernel
theorem dMod_rule_23 : decode bMod_rule 23 = .ok (.goto 16, 3) := by decide +kernel
theorem dMod_rule_26 : decode bMod_rule 26 = .ok (.aload_n 0, 1) := by decide +kernel
theorem dMod_rule_27 : decode bMod_rule 27 = .ok (.getfield 121, 3) := by decide +kernel
theorem dMod_rule_30 : decode bMod_rule 30 = .ok (.iconst 4, 1) := by decide +kernel
theorem dMod_rule_31 : decode bMod_rule 31 = .ok (.if_icmp .ne 7, 3) := by decide +kernel
theorem dMod_rule_34 : decode bMod_rule 34 = .ok (.iconst 2, 1) := by decide +kernel
theorem dMod_rule_35 : decode bMod_rule 35 = .ok (.goto 4, 3) := by decide +kernel
theorem dMod_rule_38 : decode bMod_rule 38 = .ok (.iconst 0, 1) := by decide +kernel
theorem dMod_rule_39 : decode bMod_rule 39 = .ok (.putfield 107, 3) := by decide +kernel
theorem dMod_rule_42 : decode bMod_rule 42 = .ok (.aload_n 0, 1) := by decide +kernel
theorem dMod_rule_43 : decode bMod_rule 43 = .ok (.getfield 107, 3) := by decide +kernel
theorem dMod_rule_46 : decode bMod_rule 46 = .ok (.ifCond .eq 5, 3) := by decide +kernel
theorem dMod_rule_49 : decode bMod_rule 49 = .ok (.iconst 0, 1) := by decide +kernel
theorem dMod_rule_50 : decode bMod_rule 50 = .ok (.ireturn, 1) := by decide +kernel
theorem dMod_rule_51 : decode bMod_rule 51 = .ok (.aload_n 0, 1) := by decide +kernel
theorem dMod_rule_52 : decode bMod_rule 52 = .ok (.getfield 16, 3) := by decide +kernel
theorem dMod_rule_55 : decode bMod_rule 55 = .ok (.aload_n 0, 1) := by decide +kernel
theorem dMod_rule_56 : decode bMod_rule 56 = .ok (.getfield 121, 3) := by decide +kernel
theorem dMod_rule_59 : decode bMod_rule 59 = .ok (.iload_n 1, 1) := by decide +kernel
theorem dMod_rule_60 : decode bMod_rule 60 = .ok (.iastore, 1) := by decide +kernel
theorem dMod_rule_61 : decode bMod_rule 61 = .ok (.aload_n 0, 1) := by decide +kernel
theorem dMod_rule_62 : decode bMod_rule 62 = .ok (.getfield 19, 3) := by decide +kernel
theorem dMod_rule_65 : decode bMod_rule 65 = .ok (.aload_n 0, 1) := by decide +kernel
theorem dMod_rule_66 : decode bMod_rule 66 = .ok (.getfield 121, 3) := by decide +kernel
theorem dMod_rule_69 : decode bMod_rule 69 = .ok (.iload_n 2, 1) := by decide +kernel
theorem dMod_rule_70 : decode bMod_rule 70 = .ok (.iastore, 1) := by decide +kernel
theorem dMod_rule_71 : decode bMod_rule 71 = .ok (.aload_n 0, 1) := by decide +kernel
theorem dMod_rule_72 : decode bMod_rule 72 = .ok (.dup, 1) := by decide +kernel
theorem dMod_rule_73 : decode bMod_rule 73 = .ok (.getfield 121, 3) := by decide +kernel
theorem dMod_rule_76 : decode bMod_rule 76 = .ok (.iconst 1, 1) := by decide +kernel
theorem dMod_rule_77 : decode bMod_rule 77 = .ok (.iadd, 1) := by decide +kernel
theorem dMod_rule_78 : decode bMod_rule 78 = .ok (.putfield 121, 3) := by decide +kernel
theorem dMod_rule_81 : decode bMod_rule 81 = .ok (.aload_n 0, 1) := by decide +kernel
theorem dMod_rule_82 : decode bMod_rule 82 = .ok (.iconst 0, 1) := by decide +kernel
theorem dMod_rule_83 : decode bMod_rule 83 = .ok (.putfield 118, 3) := by decide +kernel
theorem dMod_rule_86 : decode bMod_rule 86 = .ok (.aload_n 0, 1) := by decide +kernel
theorem dMod_rule_87 : decode bMod_rule 87 = .ok (.getfield 121, 3) := by decide +kernel
theorem dMod_rule_90 : decode bMod_rule 90 = .ok (.iconst 1, 1) := by decide +kernel
theorem dMod_rule_91 : decode bMod_rule 91 = .ok (.isub, 1) := by decide +kernel
theorem dMod_rule_92 : decode bMod_rule 92 = .ok (.ireturn, 1) := by decide +kernel
theorem dMod_noRule_0 : decode bMod_noRule 0 = .ok (.iload_n 1, 1) := by decide +kernel
theorem dMod_noRule_1 : decode bMod_noRule 1 = .ok (.ifCond .lt 11, 3) := by decide +kernel
theorem dMod_noRule_4 : decode bMod_noRule 4 = .ok (.iload_n 1, 1) := by decide +kernel
theorem dMod_noRule_5 : decode bMod_noRule 5 = .ok (.aload_n 0, 1) := by decide +kernel
theorem dMod_noRule_6 : decode bMod_noRule 6 = .ok (.getfield 121, 3) := by decide +kernel
theorem dMod_noRule_9 : decode bMod_noRule 9 = .ok (.if_icmp .lt 7, 3) := by decide +kernel
theorem dMod_noRule_12 : decode bMod_noRule 12 = .ok (.iconst 1, 1) := by decide +kernel
theorem dMod_noRule_13 : decode bMod_noRule 13 = .ok (.goto 4, 3) := by decide +kernel
theorem dMod_noRule_16 : decode bMod_noRule 16 = .ok (.iconst 0, 1) := by decide +kernel
theorem dMod_noRule_17 : decode bMod_noRule 17 = .ok (.ireturn, 1) := by decide +kernel
theorem dMod_context_0 : decode bMod_context 0 = .ok (.aload_n 0, 1) := by decide +kernel
theorem dMod_context_1 : decode bMod_context 1 = .ok (.aload_n 0, 1) := by decide +kernel
theorem dMod_context_2 : decode bMod_context 2 = .ok (.iload_n 1, 1) := by decide +kernel
theorem dMod_context_3 : decode bMod_context 3 = .ok (.invokevirtual 124, 3) := by decide +kernel
theorem dMod_context_6 : decode bMod_context 6 = .ok (.ifCond .eq 7, 3) := by decide +kernel
theorem dMod_context_9 : decode bMod_context 9 = .ok (.iconst 1, 1) := by decide +kernel
theorem dMod_context_10 : decode bMod_context 10 = .ok (.goto 18, 3) := by decide +kernel
theorem dMod_context_13 : decode bMod_context 13 = .ok (.aload_n 0, 1) := by decide +kernel
theorem dMod_context_14 : decode bMod_context 14 = .ok (.getfield 22, 3) := by decide +kernel
theorem dMod_context_17 : decode bMod_context 17 = .ok (.iload_n 1, 1) := by decide +kernel
theorem dMod_context_18 : decode bMod_context 18 = .ok (.iaload, 1) := by decide +kernel
theorem dMod_context_19 : decode bMod_context 19 = .ok (.iconst 2, 1) := by decide +kernel
theorem dMod_context_20 : decode bMod_context 20 = .ok (.if_icmp .ne 7, 3) := by decide +kernel
theorem dMod_context_23 : decode bMod_context 23 = .ok (.iconst 2, 1) := by decide +kernel
theorem dMod_context_24 : decode bMod_context 24 = .ok (.goto 4, 3) := by decide +kernel
theorem dMod_context_27 : decode bMod_context 27 = .ok (.iconst 0, 1) := by decide +kernel
theorem dMod_context_28 : decode bMod_context 28 = .ok (.putfield 107, 3) := by decide +kernel
theorem dMod_context_31 : decode bMod_context 31 = .ok (.aload_n 0, 1) := by decide +kernel
theorem dMod_context_32 : decode bMod_context 32 = .ok (.getfield 107, 3) := by decide +kernel
theorem dMod_context_35 : decode bMod_context 35 = .ok (.ifCond .eq 5, 3) := by decide +kernel
theorem dMod_context_38 : decode bMod_context 38 = .ok (.iconst 0, 1) := by decide +kernel
theorem dMod_context_39 : decode bMod_context 39 = .ok (.ireturn, 1) := by decide +kernel
theorem dMod_context_40 : decode bMod_context 40 = .ok (.iconst 2, 1) := by decide +kernel
theorem dMod_context_41 : decode bMod_context 41 = .ok (.iload_n 1, 1) := by decide +kernel
theorem dMod_context_42 : decode bMod_context 42 = .ok (.imul, 1) := by decide +kernel
theorem dMod_context_43 : decode bMod_context 43 = .ok (.aload_n 0, 1) := by decide +kernel
theorem dMod_context_44 : decode bMod_context 44 = .ok (.getfield 22, 3) := by decide +kernel
theorem dMod_context_47 : decode bMod_context 47 = .ok (.iload_n 1, 1) := by decide +kernel
theorem dMod_context_48 : decode bMod_context 48 = .ok (.iaload, 1) := by decide +kernel
theorem dMod_context_49 : decode bMod_context 49 = .ok (.iadd, 1) := by decide +kernel
theorem dMod_context_50 : decode bMod_context 50 = .ok (.istore 4, 2) := by decide +kernel
theorem dMod_context_52 : decode bMod_context 52 = .ok (.aload_n 0, 1) := by decide +kernel
theorem dMod_context_53 : decode bMod_context 53 = .ok (.getfield 25, 3) := by decide +kernel
theorem dMod_context_56 : decode bMod_context 56 = .ok (.iconst 2, 1) := by decide +kernel
theorem dMod_context_57 : decode bMod_context 57 = .ok (.iload 4, 2) := by decide +kernel
theorem dMod_context_59 : decode bMod_context 59 = .ok (.imul, 1) := by decide +kernel
theorem dMod_context_60 : decode bMod_context 60 = .ok (.iload_n 2, 1) := by decide +kernel
theorem dMod_context_61 : decode bMod_context 61 = .ok (.bastore, 1) := by decide +kernel
theorem dMod_context_62 : decode bMod_context 62 = .ok (.aload_n 0, 1) := by decide +kernel
theorem dMod_context_63 : decode bMod_context 63 = .ok (.getfield 25, 3) := by decide +kernel
theorem dMod_context_66 : decode bMod_context 66 = .ok (.iconst 2, 1) := by decide +kernel
theorem dMod_context_67 : decode bMod_context 67 = .ok (.iload 4, 2) := by decide +kernel
theorem dMod_context_69 : decode bMod_context 69 = .ok (.imul, 1) := by decide +kernel
theorem dMod_context_70 : decode bMod_context 70 = .ok (.iconst 1, 1) := by decide +kernel
theorem dMod_context_71 : decode bMod_context 71 = .ok (.iadd, 1) := by decide +kernel
theorem dMod_context_72 : decode bMod_context 72 = .ok (.iload_n 3, 1) := by decide +kernel
theorem dMod_context_73 : decode bMod_context 73 = .ok (.bastore, 1) := by decide +kernel
theorem dMod_context_74 : decode bMod_context 74 = .ok (.aload_n 0, 1) := by decide +kernel
theorem dMod_context_75 : decode bMod_context 75 = .ok (.getfield 22, 3) := by decide +kernel
theorem dMod_context_78 : decode bMod_context 78 = .ok (.iload_n 1, 1) := by decide +kernel
theorem dMod_context_79 : decode bMod_context 79 = .ok (.dup2, 1) := by decide +kernel
theorem dMod_context_80 : decode bMod_context 80 = .ok (.iaload, 1) := by decide +kernel
theorem dMod_context_81 : decode bMod_context 81 = .ok (.iconst 1, 1) := by decide +kernel
theorem dMod_context_82 : decode bMod_context 82 = .ok (.iadd, 1) := by decide +kernel
theorem dMod_context_83 : decode bMod_context 83 = .ok (.iastore, 1) := by decide +kernel
theorem dMod_context_84 : decode bMod_context 84 = .ok (.aload_n 0, 1) := by decide +kernel
theorem dMod_context_85 : decode bMod_context 85 = .ok (.iconst 0, 1) := by decide +kernel
theorem dMod_context_86 : decode bMod_context 86 = .ok (.putfield 118, 3) := by decide +kernel
theorem dMod_context_89 : decode bMod_context 89 = .ok (.aload_n 0, 1) := by decide +kernel
theorem dMod_context_90 : decode bMod_context 90 = .ok (.getfield 22, 3) := by decide +kernel
theorem dMod_context_93 : decode bMod_context 93 = .ok (.iload_n 1, 1) := by decide +kernel
theorem dMod_context_94 : decode bMod_context 94 = .ok (.iaload, 1) := by decide +kernel
theorem dMod_context_95 : decode bMod_context 95 = .ok (.ireturn, 1) := by decide +kernel
theorem dMod_element_0 : decode bMod_element 0 = .ok (.aload_n 0, 1) := by decide +kernel
theorem dMod_element_1 : decode bMod_element 1 = .ok (.iload_n 1, 1) := by decide +kernel
theorem dMod_element_2 : decode bMod_element 2 = .ok (.invokevirtual 124, 3) := by decide +kernel
theorem dMod_element_5 : decode bMod_element 5 = .ok (.ifCond .ne 16, 3) := by decide +kernel
theorem dMod_element_8 : decode bMod_element 8 = .ok (.iload_n 3, 1) := by decide +kernel
theorem dMod_element_9 : decode bMod_element 9 = .ok (.ifCond .lt 12, 3) := by decide +kernel
theorem dMod_element_12 : decode bMod_element 12 = .ok (.iload_n 3, 1) := by decide +kernel
theorem dMod_element_13 : decode bMod_element 13 = .ok (.aload_n 0, 1) := by decide +kernel
theorem dMod_element_14 : decode bMod_element 14 = .ok (.getfield 115, 3) := by decide +kernel
theorem dMod_element_17 : decode bMod_element 17 = .ok (.ishr, 1) := by decide +kernel
theorem dMod_element_18 : decode bMod_element 18 = .ok (.ifCond .eq 7, 3) := by decide +kernel
theorem dMod_element_21 : decode bMod_element 21 = .ok (.iconst 1, 1) := by decide +kernel
theorem dMod_element_22 : decode bMod_element 22 = .ok (.goto 4, 3) := by decide +kernel
theorem dMod_element_25 : decode bMod_element 25 = .ok (.iconst 0, 1) := by decide +kernel
theorem dMod_element_26 : decode bMod_element 26 = .ok (.istore 5, 2) := by decide +kernel
theorem dMod_element_28 : decode bMod_element 28 = .ok (.aload_n 0, 1) := by decide +kernel
theorem dMod_element_29 : decode bMod_element 29 = .ok (.iload 5, 2) := by decide +kernel
theorem dMod_element_31 : decode bMod_element 31 = .ok (.ifCond .eq 7, 3) := by decide +kernel
theorem dMod_element_34 : decode bMod_element 34 = .ok (.iconst 1, 1) := by decide +kernel
theorem dMod_element_35 : decode bMod_element 35 = .ok (.goto 17, 3) := by decide +kernel
theorem dMod_element_38 : decode bMod_element 38 = .ok (.aload_n 0, 1) := by decide +kernel
theorem dMod_element_39 : decode bMod_element 39 = .ok (.getfield 22, 3) := by decide +kernel
theorem dMod_element_42 : decode bMod_element 42 = .ok (.iload_n 1, 1) := by decide +kernel
theorem dMod_element_43 : decode bMod_element 43 = .ok (.iaload, 1) := by decide +kernel
theorem dMod_element_44 : decode bMod_element 44 = .ok (.ifCond .ne 7, 3) := by decide +kernel
theorem dMod_element_47 : decode bMod_element 47 = .ok (.iconst 2, 1) := by decide +kernel
theorem dMod_element_48 : decode bMod_element 48 = .ok (.goto 4, 3) := by decide +kernel
theorem dMod_element_51 : decode bMod_element 51 = .ok (.iconst 0, 1) := by decide +kernel
theorem dMod_element_52 : decode bMod_element 52 = .ok (.putfield 107, 3) := by decide +kernel
theorem dMod_element_55 : decode bMod_element 55 = .ok (.aload_n 0, 1) := by decide +kernel
theorem dMod_element_56 : decode bMod_element 56 = .ok (.getfield 107, 3) := by decide +kernel
theorem dMod_element_59 : decode bMod_element 59 = .ok (.ifCond .eq 5, 3) := by decide +kernel
theorem dMod_element_62 : decode bMod_element 62 = .ok (.iconst 0, 1) := by decide +kernel
theorem dMod_element_63 : decode bMod_element 63 = .ok (.ireturn, 1) := by decide +kernel
theorem dMod_element_64 : decode bMod_element 64 = .ok (.iconst 2, 1) := by decide +kernel
theorem dMod_element_65 : decode bMod_element 65 = .ok (.iconst 2, 1) := by decide +kernel
theorem dMod_element_66 : decode bMod_element 66 = .ok (.iload_n 1, 1) := by decide +kernel
theorem dMod_element_67 : decode bMod_element 67 = .ok (.imul, 1) := by decide +kernel
theorem dMod_element_68 : decode bMod_element 68 = .ok (.aload_n 0, 1) := by decide +kernel
theorem dMod_element_69 : decode bMod_element 69 = .ok (.getfield 22, 3) := by decide +kernel
theorem dMod_element_72 : decode bMod_element 72 = .ok (.iload_n 1, 1) := by decide +kernel
theorem dMod_element_73 : decode bMod_element 73 = .ok (.iaload, 1) := by decide +kernel
theorem dMod_element_74 : decode bMod_element 74 = .ok (.iadd, 1) := by decide +kernel
theorem dMod_element_75 : decode bMod_element 75 = .ok (.iconst 1, 1) := by decide +kernel
theorem dMod_element_76 : decode bMod_element 76 = .ok (.isub, 1) := by decide +kernel
theorem dMod_element_77 : decode bMod_element 77 = .ok (.imul, 1) := by decide +kernel
theorem dMod_element_78 : decode bMod_element 78 = .ok (.iload_n 2, 1) := by decide +kernel
theorem dMod_element_79 : decode bMod_element 79 = .ok (.ifCond .eq 7, 3) := by decide +kernel
theorem dMod_element_82 : decode bMod_element 82 = .ok (.iconst 1, 1) := by decide +kernel
theorem dMod_element_83 : decode bMod_element 83 = .ok (.goto 4, 3) := by decide +kernel
theorem dMod_element_86 : decode bMod_element 86 = .ok (.iconst 0, 1) := by decide +kernel
theorem dMod_element_87 : decode bMod_element 87 = .ok (.iadd, 1) := by decide +kernel
theorem dMod_element_88 : decode bMod_element 88 = .ok (.istore 6, 2) := by decide +kernel
theorem dMod_element_90 : decode bMod_element 90 = .ok (.aload_n 0, 1) := by decide +kernel
theorem dMod_element_91 : decode bMod_element 91 = .ok (.aload_n 0, 1) := by decide +kernel
theorem dMod_element_92 : decode bMod_element 92 = .ok (.getfield 29, 3) := by decide +kernel
theorem dMod_element_95 : decode bMod_element 95 = .ok (.iload 6, 2) := by decide +kernel
theorem dMod_element_97 : decode bMod_element 97 = .ok (.iaload, 1) := by decide +kernel
theorem dMod_element_98 : decode bMod_element 98 = .ok (.iconst 2, 1) := by decide +kernel
theorem dMod_element_99 : decode bMod_element 99 = .ok (.if_icmp .ne 7, 3) := by decide +kernel
theorem dMod_element_102 : decode bMod_element 102 = .ok (.iconst 2, 1) := by decide +kernel
theorem dMod_element_103 : decode bMod_element 103 = .ok (.goto 4, 3) := by decide +kernel
theorem dMod_element_106 : decode bMod_element 106 = .ok (.iconst 0, 1) := by decide +kernel
theorem dMod_element_107 : decode bMod_element 107 = .ok (.putfield 107, 3) := by decide +kernel
theorem dMod_element_110 : decode bMod_element 110 = .ok (.aload_n 0, 1) := by decide +kernel
theorem dMod_element_111 : decode bMod_element 111 = .ok (.getfield 107, 3) := by decide +kernel
theorem dMod_element_114 : decode bMod_element 114 = .ok (.ifCond .eq 5, 3) := by decide +kernel
theorem dMod_element_117 : decode bMod_element 117 = .ok (.iconst 0, 1) := by decide +kernel
theorem dMod_element_118 : decode bMod_element 118 = .ok (.ireturn, 1) := by decide +kernel
theorem dMod_element_119 : decode bMod_element 119 = .ok (.aload_n 0, 1) := by decide +kernel
theorem dMod_element_120 : decode bMod_element 120 = .ok (.getfield 32, 3) := by decide +kernel
theorem dMod_element_123 : decode bMod_element 123 = .ok (.iconst 2, 1) := by decide +kernel
theorem dMod_element_124 : decode bMod_element 124 = .ok (.iload 6, 2) := by decide +kernel
theorem dMod_element_126 : decode bMod_element 126 = .ok (.imul, 1) := by decide +kernel
theorem dMod_element_127 : decode bMod_element 127 = .ok (.aload_n 0, 1) := by decide +kernel
theorem dMod_element_128 : decode bMod_element 128 = .ok (.getfield 29, 3) := by decide +kernel
theorem dMod_element_131 : decode bMod_element 131 = .ok (.iload 6, 2) := by decide +kernel
theorem dMod_element_133 : decode bMod_element 133 = .ok (.iaload, 1) := by decide +kernel
theorem dMod_element_134 : decode bMod_element 134 = .ok (.iadd, 1) := by decide +kernel
theorem dMod_element_135 : decode bMod_element 135 = .ok (.iload_n 3, 1) := by decide +kernel
theorem dMod_element_136 : decode bMod_element 136 = .ok (.iastore, 1) := by decide +kernel
theorem dMod_element_137 : decode bMod_element 137 = .ok (.aload_n 0, 1) := by decide +kernel
theorem dMod_element_138 : decode bMod_element 138 = .ok (.getfield 35, 3) := by decide +kernel
theorem dMod_element_141 : decode bMod_element 141 = .ok (.iconst 2, 1) := by decide +kernel
theorem dMod_element_142 : decode bMod_element 142 = .ok (.iload 6, 2) := by decide +kernel
theorem dMod_element_144 : decode bMod_element 144 = .ok (.imul, 1) := by decide +kernel
theorem dMod_element_145 : decode bMod_element 145 = .ok (.aload_n 0, 1) := by decide +kernel
theorem dMod_element_146 : decode bMod_element 146 = .ok (.getfield 29, 3) := by decide +kernel
theorem dMod_element_149 : decode bMod_element 149 = .ok (.iload 6, 2) := by decide +kernel
theorem dMod_element_151 : decode bMod_element 151 = .ok (.iaload, 1) := by decide +kernel
theorem dMod_element_152 : decode bMod_element 152 = .ok (.iadd, 1) := by decide +kernel
theorem dMod_element_153 : decode bMod_element 153 = .ok (.iload 4, 2) := by decide +kernel
theorem dMod_element_155 : decode bMod_element 155 = .ok (.bastore, 1) := by decide +kernel
theorem dMod_element_156 : decode bMod_element 156 = .ok (.aload_n 0, 1) := by decide +kernel
theorem dMod_element_157 : decode bMod_element 157 = .ok (.getfield 29, 3) := by decide +kernel
theorem dMod_element_160 : decode bMod_element 160 = .ok (.iload 6, 2) := by decide +kernel
theorem dMod_element_162 : decode bMod_element 162 = .ok (.dup2, 1) := by decide +kernel
theorem dMod_element_163 : decode bMod_element 163 = .ok (.iaload, 1) := by decide +kernel
theorem dMod_element_164 : decode bMod_element 164 = .ok (.iconst 1, 1) := by decide +kernel
theorem dMod_element_165 : decode bMod_element 165 = .ok (.iadd, 1) := by decide +kernel
theorem dMod_element_166 : decode bMod_element 166 = .ok (.iastore, 1) := by decide +kernel
theorem dMod_element_167 : decode bMod_element 167 = .ok (.aload_n 0, 1) := by decide +kernel
theorem dMod_element_168 : decode bMod_element 168 = .ok (.iconst 0, 1) := by decide +kernel
theorem dMod_element_169 : decode bMod_element 169 = .ok (.putfield 118, 3) := by decide +kernel
theorem dMod_element_172 : decode bMod_element 172 = .ok (.aload_n 0, 1) := by decide +kernel
theorem dMod_element_173 : decode bMod_element 173 = .ok (.getfield 29, 3) := by decide +kernel
theorem dMod_element_176 : decode bMod_element 176 = .ok (.iload 6, 2) := by decide +kernel
theorem dMod_element_178 : decode bMod_element 178 = .ok (.iaload, 1) := by decide +kernel
theorem dMod_element_179 : decode bMod_element 179 = .ok (.ireturn, 1) := by decide +kernel
theorem dMod_entry_0 : decode bMod_entry 0 = .ok (.aload_n 0, 1) := by decide +kernel
theorem dMod_entry_1 : decode bMod_entry 1 = .ok (.iload_n 1, 1) := by decide +kernel
theorem dMod_entry_2 : decode bMod_entry 2 = .ok (.ifCond .lt 18, 3) := by decide +kernel
theorem dMod_entry_5 : decode bMod_entry 5 = .ok (.iload_n 1, 1) := by decide +kernel
theorem dMod_entry_6 : decode bMod_entry 6 = .ok (.iconst 3, 1) := by decide +kernel
theorem dMod_entry_7 : decode bMod_entry 7 = .ok (.if_icmp .gt 13, 3) := by decide +kernel
theorem dMod_entry_10 : decode bMod_entry 10 = .ok (.iload_n 2, 1) := by decide +kernel
theorem dMod_entry_11 : decode bMod_entry 11 = .ok (.iconst (-1), 1) := by decide +kernel
theorem dMod_entry_12 : decode bMod_entry 12 = .ok (.if_icmp .lt 8, 3) := by decide +kernel
theorem dMod_entry_15 : decode bMod_entry 15 = .ok (.iload_n 2, 1) := by decide +kernel
theorem dMod_entry_16 : decode bMod_entry 16 = .ok (.iconst 3, 1) := by decide +kernel
theorem dMod_entry_17 : decode bMod_entry 17 = .ok (.if_icmp .le 7, 3) := by decide +kernel
theorem dMod_entry_20 : decode bMod_entry 20 = .ok (.iconst 1, 1) := by decide +kernel
theorem dMod_entry_21 : decode bMod_entry 21 = .ok (.goto 17, 3) := by decide +kernel
theorem dMod_entry_24 : decode bMod_entry 24 = .ok (.aload_n 0, 1) := by decide +kernel
theorem dMod_entry_25 : decode bMod_entry 25 = .ok (.getfield 128, 3) := by decide +kernel
theorem dMod_entry_28 : decode bMod_entry 28 = .ok (.bipush 8, 2) := by decide +kernel
theorem dMod_entry_30 : decode bMod_entry 30 = .ok (.if_icmp .ne 7, 3) := by decide +kernel
theorem dMod_entry_33 : decode bMod_entry 33 = .ok (.iconst 2, 1) := by decide +kernel
theorem dMod_entry_34 : decode bMod_entry 34 = .ok (.goto 4, 3) := by decide +kernel
theorem dMod_entry_37 : decode bMod_entry 37 = .ok (.iconst 0, 1) := by decide +kernel
theorem dMod_entry_38 : decode bMod_entry 38 = .ok (.putfield 107, 3) := by decide +kernel
theorem dMod_entry_41 : decode bMod_entry 41 = .ok (.aload_n 0, 1) := by decide +kernel
theorem dMod_entry_42 : decode bMod_entry 42 = .ok (.getfield 107, 3) := by decide +kernel
theorem dMod_entry_45 : decode bMod_entry 45 = .ok (.ifCond .eq 5, 3) := by decide +kernel
theorem dMod_entry_48 : decode bMod_entry 48 = .ok (.iconst 0, 1) := by decide +kernel
theorem dMod_entry_49 : decode bMod_entry 49 = .ok (.ireturn, 1) := by decide +kernel
theorem dMod_entry_50 : decode bMod_entry 50 = .ok (.aload_n 0, 1) := by decide +kernel
theorem dMod_entry_51 : decode bMod_entry 51 = .ok (.getfield 38, 3) := by decide +kernel
theorem dMod_entry_54 : decode bMod_entry 54 = .ok (.aload_n 0, 1) := by decide +kernel
theorem dMod_entry_55 : decode bMod_entry 55 = .ok (.getfield 128, 3) := by decide +kernel
theorem dMod_entry_58 : decode bMod_entry 58 = .ok (.iload_n 1, 1) := by decide +kernel
theorem dMod_entry_59 : decode bMod_entry 59 = .ok (.iastore, 1) := by decide +kernel
theorem dMod_entry_60 : decode bMod_entry 60 = .ok (.aload_n 0, 1) := by decide +kernel
theorem dMod_entry_61 : decode bMod_entry 61 = .ok (.getfield 41, 3) := by decide +kernel
theorem dMod_entry_64 : decode bMod_entry 64 = .ok (.aload_n 0, 1) := by decide +kernel
theorem dMod_entry_65 : decode bMod_entry 65 = .ok (.getfield 128, 3) := by decide +kernel
theorem dMod_entry_68 : decode bMod_entry 68 = .ok (.iload_n 2, 1) := by decide +kernel
theorem dMod_entry_69 : decode bMod_entry 69 = .ok (.iastore, 1) := by decide +kernel
theorem dMod_entry_70 : decode bMod_entry 70 = .ok (.aload_n 0, 1) := by decide +kernel
theorem dMod_entry_71 : decode bMod_entry 71 = .ok (.dup, 1) := by decide +kernel
theorem dMod_entry_72 : decode bMod_entry 72 = .ok (.getfield 128, 3) := by decide +kernel
theorem dMod_entry_75 : decode bMod_entry 75 = .ok (.iconst 1, 1) := by decide +kernel
theorem dMod_entry_76 : decode bMod_entry 76 = .ok (.iadd, 1) := by decide +kernel
theorem dMod_entry_77 : decode bMod_entry 77 = .ok (.putfield 128, 3) := by decide +kernel
theorem dMod_entry_80 : decode bMod_entry 80 = .ok (.aload_n 0, 1) := by decide +kernel
theorem dMod_entry_81 : decode bMod_entry 81 = .ok (.iconst 0, 1) := by decide +kernel
theorem dMod_entry_82 : decode bMod_entry 82 = .ok (.putfield 118, 3) := by decide +kernel
theorem dMod_entry_85 : decode bMod_entry 85 = .ok (.aload_n 0, 1) := by decide +kernel
theorem dMod_entry_86 : decode bMod_entry 86 = .ok (.getfield 128, 3) := by decide +kernel
theorem dMod_entry_89 : decode bMod_entry 89 = .ok (.iconst 1, 1) := by decide +kernel
theorem dMod_entry_90 : decode bMod_entry 90 = .ok (.isub, 1) := by decide +kernel
theorem dMod_entry_91 : decode bMod_entry 91 = .ok (.ireturn, 1) := by decide +kernel
theorem dMod_spell_0 : decode bMod_spell 0 = .ok (.aload_n 0, 1) := by decide +kernel
theorem dMod_spell_1 : decode bMod_spell 1 = .ok (.iload_n 1, 1) := by decide +kernel
theorem dMod_spell_2 : decode bMod_spell 2 = .ok (.ifCond .lt 20, 3) := by decide +kernel
theorem dMod_spell_5 : decode bMod_spell 5 = .ok (.iload_n 1, 1) := by decide +kernel
theorem dMod_spell_6 : decode bMod_spell 6 = .ok (.aload_n 0, 1) := by decide +kernel
theorem dMod_spell_7 : decode bMod_spell 7 = .ok (.getfield 128, 3) := by decide +kernel
theorem dMod_spell_10 : decode bMod_spell 10 = .ok (.if_icmp .ge 12, 3) := by decide +kernel
theorem dMod_spell_13 : decode bMod_spell 13 = .ok (.aload_n 0, 1) := by decide +kernel
theorem dMod_spell_14 : decode bMod_spell 14 = .ok (.iload_n 2, 1) := by decide +kernel
theorem dMod_spell_15 : decode bMod_spell 15 = .ok (.iconst 1, 1) := by decide +kernel
theorem dMod_spell_16 : decode bMod_spell 16 = .ok (.invokevirtual 111, 3) := by decide +kernel
theorem dMod_spell_19 : decode bMod_spell 19 = .ok (.ifCond .eq 7, 3) := by decide +kernel
theorem dMod_spell_22 : decode bMod_spell 22 = .ok (.iconst 1, 1) := by decide +kernel
theorem dMod_spell_23 : decode bMod_spell 23 = .ok (.goto 18, 3) := by decide +kernel
theorem dMod_spell_26 : decode bMod_spell 26 = .ok (.aload_n 0, 1) := by decide +kernel
theorem dMod_spell_27 : decode bMod_spell 27 = .ok (.getfield 44, 3) := by decide +kernel
theorem dMod_spell_30 : decode bMod_spell 30 = .ok (.iload_n 1, 1) := by decide +kernel
theorem dMod_spell_31 : decode bMod_spell 31 = .ok (.iaload, 1) := by decide +kernel
theorem dMod_spell_32 : decode bMod_spell 32 = .ok (.iconst 3, 1) := by decide +kernel
theorem dMod_spell_33 : decode bMod_spell 33 = .ok (.if_icmp .ne 7, 3) := by decide +kernel
theorem dMod_spell_36 : decode bMod_spell 36 = .ok (.iconst 2, 1) := by decide +kernel
theorem dMod_spell_37 : decode bMod_spell 37 = .ok (.goto 4, 3) := by decide +kernel
theorem dMod_spell_40 : decode bMod_spell 40 = .ok (.iconst 0, 1) := by decide +kernel
theorem dMod_spell_41 : decode bMod_spell 41 = .ok (.putfield 107, 3) := by decide +kernel
theorem dMod_spell_44 : decode bMod_spell 44 = .ok (.aload_n 0, 1) := by decide +kernel
theorem dMod_spell_45 : decode bMod_spell 45 = .ok (.getfield 107, 3) := by decide +kernel
theorem dMod_spell_48 : decode bMod_spell 48 = .ok (.ifCond .eq 5, 3) := by decide +kernel
theorem dMod_spell_51 : decode bMod_spell 51 = .ok (.iconst 0, 1) := by decide +kernel
theorem dMod_spell_52 : decode bMod_spell 52 = .ok (.ireturn, 1) := by decide +kernel
theorem dMod_spell_53 : decode bMod_spell 53 = .ok (.aload_n 0, 1) := by decide +kernel
theorem dMod_spell_54 : decode bMod_spell 54 = .ok (.getfield 47, 3) := by decide +kernel
theorem dMod_spell_57 : decode bMod_spell 57 = .ok (.iconst 3, 1) := by decide +kernel
theorem dMod_spell_58 : decode bMod_spell 58 = .ok (.iload_n 1, 1) := by decide +kernel
theorem dMod_spell_59 : decode bMod_spell 59 = .ok (.imul, 1) := by decide +kernel
theorem dMod_spell_60 : decode bMod_spell 60 = .ok (.aload_n 0, 1) := by decide +kernel
theorem dMod_spell_61 : decode bMod_spell 61 = .ok (.getfield 44, 3) := by decide +kernel
theorem dMod_spell_64 : decode bMod_spell 64 = .ok (.iload_n 1, 1) := by decide +kernel
theorem dMod_spell_65 : decode bMod_spell 65 = .ok (.iaload, 1) := by decide +kernel
theorem dMod_spell_66 : decode bMod_spell 66 = .ok (.iadd, 1) := by decide +kernel
theorem dMod_spell_67 : decode bMod_spell 67 = .ok (.iload_n 2, 1) := by decide +kernel
theorem dMod_spell_68 : decode bMod_spell 68 = .ok (.iastore, 1) := by decide +kernel
theorem dMod_spell_69 : decode bMod_spell 69 = .ok (.aload_n 0, 1) := by decide +kernel
theorem dMod_spell_70 : decode bMod_spell 70 = .ok (.getfield 44, 3) := by decide +kernel
theorem dMod_spell_73 : decode bMod_spell 73 = .ok (.iload_n 1, 1) := by decide +kernel
theorem dMod_spell_74 : decode bMod_spell 74 = .ok (.dup2, 1) := by decide +kernel
theorem dMod_spell_75 : decode bMod_spell 75 = .ok (.iaload, 1) := by decide +kernel
theorem dMod_spell_76 : decode bMod_spell 76 = .ok (.iconst 1, 1) := by decide +kernel
theorem dMod_spell_77 : decode bMod_spell 77 = .ok (.iadd, 1) := by decide +kernel
theorem dMod_spell_78 : decode bMod_spell 78 = .ok (.iastore, 1) := by decide +kernel
theorem dMod_spell_79 : decode bMod_spell 79 = .ok (.aload_n 0, 1) := by decide +kernel
theorem dMod_spell_80 : decode bMod_spell 80 = .ok (.iconst 0, 1) := by decide +kernel
theorem dMod_spell_81 : decode bMod_spell 81 = .ok (.putfield 118, 3) := by decide +kernel
theorem dMod_spell_84 : decode bMod_spell 84 = .ok (.aload_n 0, 1) := by decide +kernel
theorem dMod_spell_85 : decode bMod_spell 85 = .ok (.getfield 44, 3) := by decide +kernel
theorem dMod_spell_88 : decode bMod_spell 88 = .ok (.iload_n 1, 1) := by decide +kernel
theorem dMod_spell_89 : decode bMod_spell 89 = .ok (.iaload, 1) := by decide +kernel
theorem dMod_spell_90 : decode bMod_spell 90 = .ok (.ireturn, 1) := by decide +kernel
theorem dMod_type_0 : decode bMod_type 0 = .ok (.iload_n 1, 1) := by decide +kernel
theorem dMod_type_1 : decode bMod_type 1 = .ok (.ifCond .eq 7, 3) := by decide +kernel
theorem dMod_type_4 : decode bMod_type 4 = .ok (.iconst 1, 1) := by decide +kernel
theorem dMod_type_5 : decode bMod_type 5 = .ok (.goto 4, 3) := by decide +kernel
theorem dMod_type_8 : decode bMod_type 8 = .ok (.iconst 0, 1) := by decide +kernel
theorem dMod_type_9 : decode bMod_type 9 = .ok (.istore_n 3, 1) := by decide +kernel
theorem dMod_type_10 : decode bMod_type 10 = .ok (.aload_n 0, 1) := by decide +kernel
theorem dMod_type_11 : decode bMod_type 11 = .ok (.aload_n 0, 1) := by decide +kernel
theorem dMod_type_12 : decode bMod_type 12 = .ok (.iload_n 2, 1) := by decide +kernel
theorem dMod_type_13 : decode bMod_type 13 = .ok (.iconst 1, 1) := by decide +kernel
theorem dMod_type_14 : decode bMod_type 14 = .ok (.invokevirtual 111, 3) := by decide +kernel
theorem dMod_type_17 : decode bMod_type 17 = .ok (.ifCond .eq 7, 3) := by decide +kernel
theorem dMod_type_20 : decode bMod_type 20 = .ok (.iconst 1, 1) := by decide +kernel
theorem dMod_type_21 : decode bMod_type 21 = .ok (.goto 20, 3) := by decide +kernel
theorem dMod_type_24 : decode bMod_type 24 = .ok (.aload_n 0, 1) := by decide +kernel
theorem dMod_type_25 : decode bMod_type 25 = .ok (.getfield 50, 3) := by decide +kernel
theorem dMod_type_28 : decode bMod_type 28 = .ok (.iload_n 3, 1) := by decide +kernel
theorem dMod_type_29 : decode bMod_type 29 = .ok (.iaload, 1) := by decide +kernel
theorem dMod_type_30 : decode bMod_type 30 = .ok (.iconst 4, 1) := by decide +kernel
theorem dMod_type_31 : decode bMod_type 31 = .ok (.iload_n 3, 1) := by decide +kernel
theorem dMod_type_32 : decode bMod_type 32 = .ok (.iadd, 1) := by decide +kernel
theorem dMod_type_33 : decode bMod_type 33 = .ok (.if_icmp .ne 7, 3) := by decide +kernel
theorem dMod_type_36 : decode bMod_type 36 = .ok (.iconst 2, 1) := by decide +kernel
theorem dMod_type_37 : decode bMod_type 37 = .ok (.goto 4, 3) := by decide +kernel
theorem dMod_type_40 : decode bMod_type 40 = .ok (.iconst 0, 1) := by decide +kernel
theorem dMod_type_41 : decode bMod_type 41 = .ok (.putfield 107, 3) := by decide +kernel
theorem dMod_type_44 : decode bMod_type 44 = .ok (.aload_n 0, 1) := by decide +kernel
theorem dMod_type_45 : decode bMod_type 45 = .ok (.getfield 107, 3) := by decide +kernel
theorem dMod_type_48 : decode bMod_type 48 = .ok (.ifCond .eq 5, 3) := by decide +kernel
theorem dMod_type_51 : decode bMod_type 51 = .ok (.iconst 0, 1) := by decide +kernel
theorem dMod_type_52 : decode bMod_type 52 = .ok (.ireturn, 1) := by decide +kernel
theorem dMod_type_53 : decode bMod_type 53 = .ok (.aload_n 0, 1) := by decide +kernel
theorem dMod_type_54 : decode bMod_type 54 = .ok (.getfield 53, 3) := by decide +kernel
theorem dMod_type_57 : decode bMod_type 57 = .ok (.iconst 5, 1) := by decide +kernel
theorem dMod_type_58 : decode bMod_type 58 = .ok (.iload_n 3, 1) := by decide +kernel
theorem dMod_type_59 : decode bMod_type 59 = .ok (.imul, 1) := by decide +kernel
theorem dMod_type_60 : decode bMod_type 60 = .ok (.aload_n 0, 1) := by decide +kernel
theorem dMod_type_61 : decode bMod_type 61 = .ok (.getfield 50, 3) := by decide +kernel
theorem dMod_type_64 : decode bMod_type 64 = .ok (.iload_n 3, 1) := by decide +kernel
theorem dMod_type_65 : decode bMod_type 65 = .ok (.iaload, 1) := by decide +kernel
theorem dMod_type_66 : decode bMod_type 66 = .ok (.iadd, 1) := by decide +kernel
theorem dMod_type_67 : decode bMod_type 67 = .ok (.iload_n 2, 1) := by decide +kernel
theorem dMod_type_68 : decode bMod_type 68 = .ok (.iastore, 1) := by decide +kernel
theorem dMod_type_69 : decode bMod_type 69 = .ok (.aload_n 0, 1) := by decide +kernel
theorem dMod_type_70 : decode bMod_type 70 = .ok (.getfield 50, 3) := by decide +kernel
theorem dMod_type_73 : decode bMod_type 73 = .ok (.iload_n 3, 1) := by decide +kernel
theorem dMod_type_74 : decode bMod_type 74 = .ok (.dup2, 1) := by decide +kernel
theorem dMod_type_75 : decode bMod_type 75 = .ok (.iaload, 1) := by decide +kernel
theorem dMod_type_76 : decode bMod_type 76 = .ok (.iconst 1, 1) := by decide +kernel
theorem dMod_type_77 : decode bMod_type 77 = .ok (.iadd, 1) := by decide +kernel
theorem dMod_type_78 : decode bMod_type 78 = .ok (.iastore, 1) := by decide +kernel
theorem dMod_type_79 : decode bMod_type 79 = .ok (.aload_n 0, 1) := by decide +kernel
theorem dMod_type_80 : decode bMod_type 80 = .ok (.getfield 50, 3) := by decide +kernel
theorem dMod_type_83 : decode bMod_type 83 = .ok (.iload_n 3, 1) := by decide +kernel
theorem dMod_type_84 : decode bMod_type 84 = .ok (.iaload, 1) := by decide +kernel
theorem dMod_type_85 : decode bMod_type 85 = .ok (.ireturn, 1) := by decide +kernel
theorem dMod_wipe_0 : decode bMod_wipe 0 = .ok (.aload_n 0, 1) := by decide +kernel
theorem dMod_wipe_1 : decode bMod_wipe 1 = .ok (.iconst 0, 1) := by decide +kernel
theorem dMod_wipe_2 : decode bMod_wipe 2 = .ok (.putfield 107, 3) := by decide +kernel
theorem dMod_wipe_5 : decode bMod_wipe 5 = .ok (.aload_n 0, 1) := by decide +kernel
theorem dMod_wipe_6 : decode bMod_wipe 6 = .ok (.getfield 50, 3) := by decide +kernel
theorem dMod_wipe_9 : decode bMod_wipe 9 = .ok (.iload_n 1, 1) := by decide +kernel
theorem dMod_wipe_10 : decode bMod_wipe 10 = .ok (.ifCond .eq 7, 3) := by decide +kernel
theorem dMod_wipe_13 : decode bMod_wipe 13 = .ok (.iconst 1, 1) := by decide +kernel
theorem dMod_wipe_14 : decode bMod_wipe 14 = .ok (.goto 4, 3) := by decide +kernel
theorem dMod_wipe_17 : decode bMod_wipe 17 = .ok (.iconst 0, 1) := by decide +kernel
theorem dMod_wipe_18 : decode bMod_wipe 18 = .ok (.iaload, 1) := by decide +kernel
theorem dMod_wipe_19 : decode bMod_wipe 19 = .ok (.istore_n 2, 1) := by decide +kernel
theorem dMod_wipe_20 : decode bMod_wipe 20 = .ok (.aload_n 0, 1) := by decide +kernel
theorem dMod_wipe_21 : decode bMod_wipe 21 = .ok (.getfield 50, 3) := by decide +kernel
theorem dMod_wipe_24 : decode bMod_wipe 24 = .ok (.iload_n 1, 1) := by decide +kernel
theorem dMod_wipe_25 : decode bMod_wipe 25 = .ok (.ifCond .eq 7, 3) := by decide +kernel
theorem dMod_wipe_28 : decode bMod_wipe 28 = .ok (.iconst 1, 1) := by decide +kernel
theorem dMod_wipe_29 : decode bMod_wipe 29 = .ok (.goto 4, 3) := by decide +kernel
theorem dMod_wipe_32 : decode bMod_wipe 32 = .ok (.iconst 0, 1) := by decide +kernel
theorem dMod_wipe_33 : decode bMod_wipe 33 = .ok (.iconst 0, 1) := by decide +kernel
theorem dMod_wipe_34 : decode bMod_wipe 34 = .ok (.iastore, 1) := by decide +kernel
theorem dMod_wipe_35 : decode bMod_wipe 35 = .ok (.iload_n 2, 1) := by decide +kernel
theorem dMod_wipe_36 : decode bMod_wipe 36 = .ok (.ireturn, 1) := by decide +kernel
theorem dMod_inSet_0 : decode bMod_inSet 0 = .ok (.aload_n 0, 1) := by decide +kernel
theorem dMod_inSet_1 : decode bMod_inSet 1 = .ok (.getfield 32, 3) := by decide +kernel
theorem dMod_inSet_4 : decode bMod_inSet 4 = .ok (.iload_n 1, 1) := by decide +kernel
theorem dMod_inSet_5 : decode bMod_inSet 5 = .ok (.iaload, 1) := by decide +kernel
theorem dMod_inSet_6 : decode bMod_inSet 6 = .ok (.iload_n 2, 1) := by decide +kernel
theorem dMod_inSet_7 : decode bMod_inSet 7 = .ok (.ishr, 1) := by decide +kernel
theorem dMod_inSet_8 : decode bMod_inSet 8 = .ok (.iconst 1, 1) := by decide +kernel
theorem dMod_inSet_9 : decode bMod_inSet 9 = .ok (.iand, 1) := by decide +kernel
theorem dMod_inSet_10 : decode bMod_inSet 10 = .ok (.iconst 1, 1) := by decide +kernel
theorem dMod_inSet_11 : decode bMod_inSet 11 = .ok (.if_icmp .ne 7, 3) := by decide +kernel
theorem dMod_inSet_14 : decode bMod_inSet 14 = .ok (.iconst 1, 1) := by decide +kernel
theorem dMod_inSet_15 : decode bMod_inSet 15 = .ok (.goto 4, 3) := by decide +kernel
theorem dMod_inSet_18 : decode bMod_inSet 18 = .ok (.iconst 0, 1) := by decide +kernel
theorem dMod_inSet_19 : decode bMod_inSet 19 = .ok (.ireturn, 1) := by decide +kernel
theorem dMod_allIn_0 : decode bMod_allIn 0 = .ok (.iconst 1, 1) := by decide +kernel
theorem dMod_allIn_1 : decode bMod_allIn 1 = .ok (.istore 4, 2) := by decide +kernel
theorem dMod_allIn_3 : decode bMod_allIn 3 = .ok (.iload_n 2, 1) := by decide +kernel
theorem dMod_allIn_4 : decode bMod_allIn 4 = .ok (.istore 5, 2) := by decide +kernel
theorem dMod_allIn_6 : decode bMod_allIn 6 = .ok (.iload 5, 2) := by decide +kernel
theorem dMod_allIn_8 : decode bMod_allIn 8 = .ok (.iload_n 3, 1) := by decide +kernel
theorem dMod_allIn_9 : decode bMod_allIn 9 = .ok (.if_icmp .ge 36, 3) := by decide +kernel
theorem dMod_allIn_12 : decode bMod_allIn 12 = .ok (.iload 4, 2) := by decide +kernel
theorem dMod_allIn_14 : decode bMod_allIn 14 = .ok (.ifCond .eq 22, 3) := by decide +kernel
theorem dMod_allIn_17 : decode bMod_allIn 17 = .ok (.aload_n 0, 1) := by decide +kernel
theorem dMod_allIn_18 : decode bMod_allIn 18 = .ok (.iload_n 1, 1) := by decide +kernel
theorem dMod_allIn_19 : decode bMod_allIn 19 = .ok (.aload_n 0, 1) := by decide +kernel
theorem dMod_allIn_20 : decode bMod_allIn 20 = .ok (.getfield 92, 3) := by decide +kernel
theorem dMod_allIn_23 : decode bMod_allIn 23 = .ok (.iload 5, 2) := by decide +kernel
theorem dMod_allIn_25 : decode bMod_allIn 25 = .ok (.iaload, 1) := by decide +kernel
theorem dMod_allIn_26 : decode bMod_allIn 26 = .ok (.invokevirtual 131, 3) := by decide +kernel
theorem dMod_allIn_29 : decode bMod_allIn 29 = .ok (.ifCond .eq 7, 3) := by decide +kernel
theorem dMod_allIn_32 : decode bMod_allIn 32 = .ok (.iconst 1, 1) := by decide +kernel
theorem dMod_allIn_33 : decode bMod_allIn 33 = .ok (.goto 4, 3) := by decide +kernel
theorem dMod_allIn_36 : decode bMod_allIn 36 = .ok (.iconst 0, 1) := by decide +kernel
theorem dMod_allIn_37 : decode bMod_allIn 37 = .ok (.istore 4, 2) := by decide +kernel
theorem dMod_allIn_39 : decode bMod_allIn 39 = .ok (.iinc 5 1, 3) := by decide +kernel
theorem dMod_allIn_42 : decode bMod_allIn 42 = .ok (.goto (-36), 3) := by decide +kernel
theorem dMod_allIn_45 : decode bMod_allIn 45 = .ok (.iload 4, 2) := by decide +kernel
theorem dMod_allIn_47 : decode bMod_allIn 47 = .ok (.ireturn, 1) := by decide +kernel
theorem dMod_isPart_0 : decode bMod_isPart 0 = .ok (.aload_n 0, 1) := by decide +kernel
theorem dMod_isPart_1 : decode bMod_isPart 1 = .ok (.getfield 35, 3) := by decide +kernel
theorem dMod_isPart_4 : decode bMod_isPart 4 = .ok (.iload_n 1, 1) := by decide +kernel
theorem dMod_isPart_5 : decode bMod_isPart 5 = .ok (.baload, 1) := by decide +kernel
theorem dMod_isPart_6 : decode bMod_isPart 6 = .ok (.ifCond .ne 10, 3) := by decide +kernel
theorem dMod_isPart_9 : decode bMod_isPart 9 = .ok (.iload_n 3, 1) := by decide +kernel
theorem dMod_isPart_10 : decode bMod_isPart 10 = .ok (.iload_n 2, 1) := by decide +kernel
theorem dMod_isPart_11 : decode bMod_isPart 11 = .ok (.iconst 1, 1) := by decide +kernel
theorem dMod_isPart_12 : decode bMod_isPart 12 = .ok (.iadd, 1) := by decide +kernel
theorem dMod_isPart_13 : decode bMod_isPart 13 = .ok (.if_icmp .ne 17, 3) := by decide +kernel
theorem dMod_isPart_16 : decode bMod_isPart 16 = .ok (.aload_n 0, 1) := by decide +kernel
theorem dMod_isPart_17 : decode bMod_isPart 17 = .ok (.iload_n 1, 1) := by decide +kernel
theorem dMod_isPart_18 : decode bMod_isPart 18 = .ok (.iload_n 2, 1) := by decide +kernel
theorem dMod_isPart_19 : decode bMod_isPart 19 = .ok (.iload_n 3, 1) := by decide +kernel
theorem dMod_isPart_20 : decode bMod_isPart 20 = .ok (.invokevirtual 134, 3) := by decide +kernel
theorem dMod_isPart_23 : decode bMod_isPart 23 = .ok (.ifCond .eq 7, 3) := by decide +kernel
theorem dMod_isPart_26 : decode bMod_isPart 26 = .ok (.iconst 1, 1) := by decide +kernel
theorem dMod_isPart_27 : decode bMod_isPart 27 = .ok (.goto 4, 3) := by decide +kernel
theorem dMod_isPart_30 : decode bMod_isPart 30 = .ok (.iconst 0, 1) := by decide +kernel
theorem dMod_isPart_31 : decode bMod_isPart 31 = .ok (.ireturn, 1) := by decide +kernel
theorem dMod_isMatched_0 : decode bMod_isMatched 0 = .ok (.aload_n 0, 1) := by decide +kernel
theorem dMod_isMatched_1 : decode bMod_isMatched 1 = .ok (.getfield 29, 3) := by decide +kernel
theorem dMod_isMatched_4 : decode bMod_isMatched 4 = .ok (.iload_n 1, 1) := by decide +kernel
theorem dMod_isMatched_5 : decode bMod_isMatched 5 = .ok (.iaload, 1) := by decide +kernel
theorem dMod_isMatched_6 : decode bMod_isMatched 6 = .ok (.ifCond .ne 14, 3) := by decide +kernel
theorem dMod_isMatched_9 : decode bMod_isMatched 9 = .ok (.iload_n 2, 1) := by decide +kernel
theorem dMod_isMatched_10 : decode bMod_isMatched 10 = .ok (.iload_n 3, 1) := by decide +kernel
theorem dMod_isMatched_11 : decode bMod_isMatched 11 = .ok (.if_icmp .ne 7, 3) := by decide +kernel
theorem dMod_isMatched_14 : decode bMod_isMatched 14 = .ok (.iconst 1, 1) := by decide +kernel
theorem dMod_isMatched_15 : decode bMod_isMatched 15 = .ok (.goto 4, 3) := by decide +kernel
theorem dMod_isMatched_18 : decode bMod_isMatched 18 = .ok (.iconst 0, 1) := by decide +kernel
theorem dMod_isMatched_19 : decode bMod_isMatched 19 = .ok (.ireturn, 1) := by decide +kernel
theorem dMod_isMatched_20 : decode bMod_isMatched 20 = .ok (.aload_n 0, 1) := by decide +kernel
theorem dMod_isMatched_21 : decode bMod_isMatched 21 = .ok (.getfield 29, 3) := by decide +kernel
theorem dMod_isMatched_24 : decode bMod_isMatched 24 = .ok (.iload_n 1, 1) := by decide +kernel
theorem dMod_isMatched_25 : decode bMod_isMatched 25 = .ok (.iaload, 1) := by decide +kernel
theorem dMod_isMatched_26 : decode bMod_isMatched 26 = .ok (.iconst 1, 1) := by decide +kernel
theorem dMod_isMatched_27 : decode bMod_isMatched 27 = .ok (.if_icmp .ne 13, 3) := by decide +kernel
theorem dMod_isMatched_30 : decode bMod_isMatched 30 = .ok (.aload_n 0, 1) := by decide +kernel
theorem dMod_isMatched_31 : decode bMod_isMatched 31 = .ok (.iconst 2, 1) := by decide +kernel
theorem dMod_isMatched_32 : decode bMod_isMatched 32 = .ok (.iload_n 1, 1) := by decide +kernel
theorem dMod_isMatched_33 : decode bMod_isMatched 33 = .ok (.imul, 1) := by decide +kernel
theorem dMod_isMatched_34 : decode bMod_isMatched 34 = .ok (.iload_n 2, 1) := by decide +kernel
theorem dMod_isMatched_35 : decode bMod_isMatched 35 = .ok (.iload_n 3, 1) := by decide +kernel
theorem dMod_isMatched_36 : decode bMod_isMatched 36 = .ok (.invokevirtual 138, 3) := by decide +kernel
theorem dMod_isMatched_39 : decode bMod_isMatched 39 = .ok (.ireturn, 1) := by decide +kernel
theorem dMod_isMatched_40 : decode bMod_isMatched 40 = .ok (.iconst 0, 1) := by decide +kernel
theorem dMod_isMatched_41 : decode bMod_isMatched 41 = .ok (.istore 4, 2) := by decide +kernel
theorem dMod_isMatched_43 : decode bMod_isMatched 43 = .ok (.iload_n 2, 1) := by decide +kernel
theorem dMod_isMatched_44 : decode bMod_isMatched 44 = .ok (.istore 5, 2) := by decide +kernel
theorem dMod_isMatched_46 : decode bMod_isMatched 46 = .ok (.iload 5, 2) := by decide +kernel
theorem dMod_isMatched_48 : decode bMod_isMatched 48 = .ok (.iload_n 3, 1) := by decide +kernel
theorem dMod_isMatched_49 : decode bMod_isMatched 49 = .ok (.if_icmp .gt 49, 3) := by decide +kernel
theorem dMod_isMatched_52 : decode bMod_isMatched 52 = .ok (.iload 4, 2) := by decide +kernel
theorem dMod_isMatched_54 : decode bMod_isMatched 54 = .ok (.ifCond .ne 31, 3) := by decide +kernel
theorem dMod_isMatched_57 : decode bMod_isMatched 57 = .ok (.aload_n 0, 1) := by decide +kernel
theorem dMod_isMatched_58 : decode bMod_isMatched 58 = .ok (.iconst 2, 1) := by decide +kernel
theorem dMod_isMatched_59 : decode bMod_isMatched 59 = .ok (.iload_n 1, 1) := by decide +kernel
theorem dMod_isMatched_60 : decode bMod_isMatched 60 = .ok (.imul, 1) := by decide +kernel
theorem dMod_isMatched_61 : decode bMod_isMatched 61 = .ok (.iload_n 2, 1) := by decide +kernel
theorem dMod_isMatched_62 : decode bMod_isMatched 62 = .ok (.iload 5, 2) := by decide +kernel
theorem dMod_isMatched_64 : decode bMod_isMatched 64 = .ok (.invokevirtual 138, 3) := by decide +kernel
theorem dMod_isMatched_67 : decode bMod_isMatched 67 = .ok (.ifCond .eq 22, 3) := by decide +kernel
theorem dMod_isMatched_70 : decode bMod_isMatched 70 = .ok (.aload_n 0, 1) := by decide +kernel
theorem dMod_isMatched_71 : decode bMod_isMatched 71 = .ok (.iconst 2, 1) := by decide +kernel
theorem dMod_isMatched_72 : decode bMod_isMatched 72 = .ok (.iload_n 1, 1) := by decide +kernel
theorem dMod_isMatched_73 : decode bMod_isMatched 73 = .ok (.imul, 1) := by decide +kernel
theorem dMod_isMatched_74 : decode bMod_isMatched 74 = .ok (.iconst 1, 1) := by decide +kernel
theorem dMod_isMatched_75 : decode bMod_isMatched 75 = .ok (.iadd, 1) := by decide +kernel
theorem dMod_isMatched_76 : decode bMod_isMatched 76 = .ok (.iload 5, 2) := by decide +kernel
theorem dMod_isMatched_78 : decode bMod_isMatched 78 = .ok (.iload_n 3, 1) := by decide +kernel
theorem dMod_isMatched_79 : decode bMod_isMatched 79 = .ok (.invokevirtual 138, 3) := by decide +kernel
theorem dMod_isMatched_82 : decode bMod_isMatched 82 = .ok (.ifCond .eq 7, 3) := by decide +kernel
theorem dMod_isMatched_85 : decode bMod_isMatched 85 = .ok (.iconst 1, 1) := by decide +kernel
theorem dMod_isMatched_86 : decode bMod_isMatched 86 = .ok (.goto 4, 3) := by decide +kernel
theorem dMod_isMatched_89 : decode bMod_isMatched 89 = .ok (.iconst 0, 1) := by decide +kernel
theorem dMod_isMatched_90 : decode bMod_isMatched 90 = .ok (.istore 4, 2) := by decide +kernel
theorem dMod_isMatched_92 : decode bMod_isMatched 92 = .ok (.iinc 5 1, 3) := by decide +kernel
theorem dMod_isMatched_95 : decode bMod_isMatched 95 = .ok (.goto (-49), 3) := by decide +kernel
theorem dMod_isMatched_98 : decode bMod_isMatched 98 = .ok (.iload 4, 2) := by decide +kernel
theorem dMod_isMatched_100 : decode bMod_isMatched 100 = .ok (.ireturn, 1) := by decide +kernel
theorem dMod_holds_0 : decode bMod_holds 0 = .ok (.iconst 0, 1) := by decide +kernel
theorem dMod_holds_1 : decode bMod_holds 1 = .ok (.istore_n 3, 1) := by decide +kernel
theorem dMod_holds_2 : decode bMod_holds 2 = .ok (.iload_n 2, 1) := by decide +kernel
theorem dMod_holds_3 : decode bMod_holds 3 = .ok (.istore 4, 2) := by decide +kernel
theorem dMod_holds_5 : decode bMod_holds 5 = .ok (.iload 4, 2) := by decide +kernel
theorem dMod_holds_7 : decode bMod_holds 7 = .ok (.ifCond .lt 48, 3) := by decide +kernel
theorem dMod_holds_10 : decode bMod_holds 10 = .ok (.iload_n 3, 1) := by decide +kernel
theorem dMod_holds_11 : decode bMod_holds 11 = .ok (.ifCond .ne 32, 3) := by decide +kernel
theorem dMod_holds_14 : decode bMod_holds 14 = .ok (.aload_n 0, 1) := by decide +kernel
theorem dMod_holds_15 : decode bMod_holds 15 = .ok (.getfield 25, 3) := by decide +kernel
theorem dMod_holds_18 : decode bMod_holds 18 = .ok (.iconst 2, 1) := by decide +kernel
theorem dMod_holds_19 : decode bMod_holds 19 = .ok (.iload_n 1, 1) := by decide +kernel
theorem dMod_holds_20 : decode bMod_holds 20 = .ok (.imul, 1) := by decide +kernel
theorem dMod_holds_21 : decode bMod_holds 21 = .ok (.baload, 1) := by decide +kernel
theorem dMod_holds_22 : decode bMod_holds 22 = .ok (.ifCond .eq 8, 3) := by decide +kernel
theorem dMod_holds_25 : decode bMod_holds 25 = .ok (.iload 4, 2) := by decide +kernel
theorem dMod_holds_27 : decode bMod_holds 27 = .ok (.ifCond .ne 20, 3) := by decide +kernel
theorem dMod_holds_30 : decode bMod_holds 30 = .ok (.aload_n 0, 1) := by decide +kernel
theorem dMod_holds_31 : decode bMod_holds 31 = .ok (.iconst 2, 1) := by decide +kernel
theorem dMod_holds_32 : decode bMod_holds 32 = .ok (.iload_n 1, 1) := by decide +kernel
theorem dMod_holds_33 : decode bMod_holds 33 = .ok (.imul, 1) := by decide +kernel
theorem dMod_holds_34 : decode bMod_holds 34 = .ok (.iload 4, 2) := by decide +kernel
theorem dMod_holds_36 : decode bMod_holds 36 = .ok (.iload_n 2, 1) := by decide +kernel
theorem dMod_holds_37 : decode bMod_holds 37 = .ok (.invokevirtual 141, 3) := by decide +kernel
theorem dMod_holds_40 : decode bMod_holds 40 = .ok (.ifCond .eq 7, 3) := by decide +kernel
theorem dMod_holds_43 : decode bMod_holds 43 = .ok (.iconst 1, 1) := by decide +kernel
theorem dMod_holds_44 : decode bMod_holds 44 = .ok (.goto 4, 3) := by decide +kernel
theorem dMod_holds_47 : decode bMod_holds 47 = .ok (.iconst 0, 1) := by decide +kernel
theorem dMod_holds_48 : decode bMod_holds 48 = .ok (.istore_n 3, 1) := by decide +kernel
theorem dMod_holds_49 : decode bMod_holds 49 = .ok (.iinc 4 (-1), 3) := by decide +kernel
theorem dMod_holds_52 : decode bMod_holds 52 = .ok (.goto (-47), 3) := by decide +kernel
theorem dMod_holds_55 : decode bMod_holds 55 = .ok (.iload_n 3, 1) := by decide +kernel
theorem dMod_holds_56 : decode bMod_holds 56 = .ok (.ifCond .ne 5, 3) := by decide +kernel
theorem dMod_holds_59 : decode bMod_holds 59 = .ok (.iconst 0, 1) := by decide +kernel
theorem dMod_holds_60 : decode bMod_holds 60 = .ok (.ireturn, 1) := by decide +kernel
theorem dMod_holds_61 : decode bMod_holds 61 = .ok (.iconst 0, 1) := by decide +kernel
theorem dMod_holds_62 : decode bMod_holds 62 = .ok (.istore 4, 2) := by decide +kernel
theorem dMod_holds_64 : decode bMod_holds 64 = .ok (.iload_n 2, 1) := by decide +kernel
theorem dMod_holds_65 : decode bMod_holds 65 = .ok (.iconst 1, 1) := by decide +kernel
theorem dMod_holds_66 : decode bMod_holds 66 = .ok (.iadd, 1) := by decide +kernel
theorem dMod_holds_67 : decode bMod_holds 67 = .ok (.istore 5, 2) := by decide +kernel
theorem dMod_holds_69 : decode bMod_holds 69 = .ok (.iload 5, 2) := by decide +kernel
theorem dMod_holds_71 : decode bMod_holds 71 = .ok (.aload_n 0, 1) := by decide +kernel
theorem dMod_holds_72 : decode bMod_holds 72 = .ok (.getfield 144, 3) := by decide +kernel
theorem dMod_holds_75 : decode bMod_holds 75 = .ok (.if_icmp .gt 60, 3) := by decide +kernel
theorem dMod_holds_78 : decode bMod_holds 78 = .ok (.iload 4, 2) := by decide +kernel
theorem dMod_holds_80 : decode bMod_holds 80 = .ok (.ifCond .ne 42, 3) := by decide +kernel
theorem dMod_holds_83 : decode bMod_holds 83 = .ok (.aload_n 0, 1) := by decide +kernel
theorem dMod_holds_84 : decode bMod_holds 84 = .ok (.getfield 25, 3) := by decide +kernel
theorem dMod_holds_87 : decode bMod_holds 87 = .ok (.iconst 2, 1) := by decide +kernel
theorem dMod_holds_88 : decode bMod_holds 88 = .ok (.iload_n 1, 1) := by decide +kernel
theorem dMod_holds_89 : decode bMod_holds 89 = .ok (.imul, 1) := by decide +kernel
theorem dMod_holds_90 : decode bMod_holds 90 = .ok (.iconst 1, 1) := by decide +kernel
theorem dMod_holds_91 : decode bMod_holds 91 = .ok (.iadd, 1) := by decide +kernel
theorem dMod_holds_92 : decode bMod_holds 92 = .ok (.baload, 1) := by decide +kernel
theorem dMod_holds_93 : decode bMod_holds 93 = .ok (.ifCond .eq 12, 3) := by decide +kernel
theorem dMod_holds_96 : decode bMod_holds 96 = .ok (.iload 5, 2) := by decide +kernel
theorem dMod_holds_98 : decode bMod_holds 98 = .ok (.aload_n 0, 1) := by decide +kernel
theorem dMod_holds_99 : decode bMod_holds 99 = .ok (.getfield 144, 3) := by decide +kernel
theorem dMod_holds_102 : decode bMod_holds 102 = .ok (.if_icmp .ne 24, 3) := by decide +kernel
theorem dMod_holds_105 : decode bMod_holds 105 = .ok (.aload_n 0, 1) := by decide +kernel
theorem dMod_holds_106 : decode bMod_holds 106 = .ok (.iconst 2, 1) := by decide +kernel
theorem dMod_holds_107 : decode bMod_holds 107 = .ok (.iload_n 1, 1) := by decide +kernel
theorem dMod_holds_108 : decode bMod_holds 108 = .ok (.imul, 1) := by decide +kernel
theorem dMod_holds_109 : decode bMod_holds 109 = .ok (.iconst 1, 1) := by decide +kernel
theorem dMod_holds_110 : decode bMod_holds 110 = .ok (.iadd, 1) := by decide +kernel
theorem dMod_holds_111 : decode bMod_holds 111 = .ok (.iload_n 2, 1) := by decide +kernel
theorem dMod_holds_112 : decode bMod_holds 112 = .ok (.iconst 1, 1) := by decide +kernel
theorem dMod_holds_113 : decode bMod_holds 113 = .ok (.iadd, 1) := by decide +kernel
theorem dMod_holds_114 : decode bMod_holds 114 = .ok (.iload 5, 2) := by decide +kernel
theorem dMod_holds_116 : decode bMod_holds 116 = .ok (.invokevirtual 141, 3) := by decide +kernel
theorem dMod_holds_119 : decode bMod_holds 119 = .ok (.ifCond .eq 7, 3) := by decide +kernel
theorem dMod_holds_122 : decode bMod_holds 122 = .ok (.iconst 1, 1) := by decide +kernel
theorem dMod_holds_123 : decode bMod_holds 123 = .ok (.goto 4, 3) := by decide +kernel
theorem dMod_holds_126 : decode bMod_holds 126 = .ok (.iconst 0, 1) := by decide +kernel
theorem dMod_holds_127 : decode bMod_holds 127 = .ok (.istore 4, 2) := by decide +kernel
theorem dMod_holds_129 : decode bMod_holds 129 = .ok (.iinc 5 1, 3) := by decide +kernel
theorem dMod_holds_132 : decode bMod_holds 132 = .ok (.goto (-63), 3) := by decide +kernel
theorem dMod_holds_135 : decode bMod_holds 135 = .ok (.iload 4, 2) := by decide +kernel
theorem dMod_holds_137 : decode bMod_holds 137 = .ok (.ireturn, 1) := by decide +kernel
theorem dMod_isKept_0 : decode bMod_isKept 0 = .ok (.iconst 0, 1) := by decide +kernel
theorem dMod_isKept_1 : decode bMod_isKept 1 = .ok (.istore_n 2, 1) := by decide +kernel
theorem dMod_isKept_2 : decode bMod_isKept 2 = .ok (.iload_n 2, 1) := by decide +kernel
theorem dMod_isKept_3 : decode bMod_isKept 3 = .ok (.aload_n 0, 1) := by decide +kernel
theorem dMod_isKept_4 : decode bMod_isKept 4 = .ok (.getfield 144, 3) := by decide +kernel
theorem dMod_isKept_7 : decode bMod_isKept 7 = .ok (.if_icmp .ge 198, 3) := by decide +kernel
theorem dMod_isKept_10 : decode bMod_isKept 10 = .ok (.aload_n 0, 1) := by decide +kernel
theorem dMod_isKept_11 : decode bMod_isKept 11 = .ok (.getfield 92, 3) := by decide +kernel
theorem dMod_isKept_14 : decode bMod_isKept 14 = .ok (.iload_n 2, 1) := by decide +kernel
theorem dMod_isKept_15 : decode bMod_isKept 15 = .ok (.iaload, 1) := by decide +kernel
theorem dMod_isKept_16 : decode bMod_isKept 16 = .ok (.aload_n 0, 1) := by decide +kernel
theorem dMod_isKept_17 : decode bMod_isKept 17 = .ok (.getfield 19, 3) := by decide +kernel
theorem dMod_isKept_20 : decode bMod_isKept 20 = .ok (.iload_n 1, 1) := by decide +kernel
theorem dMod_isKept_21 : decode bMod_isKept 21 = .ok (.iaload, 1) := by decide +kernel
theorem dMod_isKept_22 : decode bMod_isKept 22 = .ok (.if_icmp .ne 7, 3) := by decide +kernel
theorem dMod_isKept_25 : decode bMod_isKept 25 = .ok (.iconst 1, 1) := by decide +kernel
theorem dMod_isKept_26 : decode bMod_isKept 26 = .ok (.goto 4, 3) := by decide +kernel
theorem dMod_isKept_29 : decode bMod_isKept 29 = .ok (.iconst 0, 1) := by decide +kernel
theorem dMod_isKept_30 : decode bMod_isKept 30 = .ok (.istore_n 3, 1) := by decide +kernel
theorem dMod_isKept_31 : decode bMod_isKept 31 = .ok (.iload_n 3, 1) := by decide +kernel
theorem dMod_isKept_32 : decode bMod_isKept 32 = .ok (.ifCond .ne 28, 3) := by decide +kernel
theorem dMod_isKept_35 : decode bMod_isKept 35 = .ok (.aload_n 0, 1) := by decide +kernel
theorem dMod_isKept_36 : decode bMod_isKept 36 = .ok (.getfield 7, 3) := by decide +kernel
theorem dMod_isKept_39 : decode bMod_isKept 39 = .ok (.aload_n 0, 1) := by decide +kernel
theorem dMod_isKept_40 : decode bMod_isKept 40 = .ok (.getfield 92, 3) := by decide +kernel
theorem dMod_isKept_43 : decode bMod_isKept 43 = .ok (.iload_n 2, 1) := by decide +kernel
theorem dMod_isKept_44 : decode bMod_isKept 44 = .ok (.iaload, 1) := by decide +kernel
theorem dMod_isKept_45 : decode bMod_isKept 45 = .ok (.iaload, 1) := by decide +kernel
theorem dMod_isKept_46 : decode bMod_isKept 46 = .ok (.aload_n 0, 1) := by decide +kernel
theorem dMod_isKept_47 : decode bMod_isKept 47 = .ok (.getfield 7, 3) := by decide +kernel
theorem dMod_isKept_50 : decode bMod_isKept 50 = .ok (.aload_n 0, 1) := by decide +kernel
theorem dMod_isKept_51 : decode bMod_isKept 51 = .ok (.getfield 19, 3) := by decide +kernel
theorem dMod_isKept_54 : decode bMod_isKept 54 = .ok (.iload_n 1, 1) := by decide +kernel
theorem dMod_isKept_55 : decode bMod_isKept 55 = .ok (.iaload, 1) := by decide +kernel
theorem dMod_isKept_56 : decode bMod_isKept 56 = .ok (.iaload, 1) := by decide +kernel
theorem dMod_isKept_57 : decode bMod_isKept 57 = .ok (.if_icmp .ne 142, 3) := by decide +kernel
theorem dMod_isKept_60 : decode bMod_isKept 60 = .ok (.iconst 0, 1) := by decide +kernel
theorem dMod_isKept_61 : decode bMod_isKept 61 = .ok (.istore 4, 2) := by decide +kernel
theorem dMod_isKept_63 : decode bMod_isKept 63 = .ok (.iconst 0, 1) := by decide +kernel
theorem dMod_isKept_64 : decode bMod_isKept 64 = .ok (.istore 5, 2) := by decide +kernel
theorem dMod_isKept_66 : decode bMod_isKept 66 = .ok (.iload 5, 2) := by decide +kernel
theorem dMod_isKept_68 : decode bMod_isKept 68 = .ok (.aload_n 0, 1) := by decide +kernel
theorem dMod_isKept_69 : decode bMod_isKept 69 = .ok (.getfield 22, 3) := by decide +kernel
theorem dMod_isKept_72 : decode bMod_isKept 72 = .ok (.iload_n 1, 1) := by decide +kernel
theorem dMod_isKept_73 : decode bMod_isKept 73 = .ok (.iaload, 1) := by decide +kernel
theorem dMod_isKept_74 : decode bMod_isKept 74 = .ok (.if_icmp .ge 35, 3) := by decide +kernel
theorem dMod_isKept_77 : decode bMod_isKept 77 = .ok (.iload 4, 2) := by decide +kernel
theorem dMod_isKept_79 : decode bMod_isKept 79 = .ok (.ifCond .ne 17, 3) := by decide +kernel
theorem dMod_isKept_82 : decode bMod_isKept 82 = .ok (.aload_n 0, 1) := by decide +kernel
theorem dMod_isKept_83 : decode bMod_isKept 83 = .ok (.iconst 2, 1) := by decide +kernel
theorem dMod_isKept_84 : decode bMod_isKept 84 = .ok (.iload_n 1, 1) := by decide +kernel
theorem dMod_isKept_85 : decode bMod_isKept 85 = .ok (.imul, 1) := by decide +kernel
theorem dMod_isKept_86 : decode bMod_isKept 86 = .ok (.iload 5, 2) := by decide +kernel
theorem dMod_isKept_88 : decode bMod_isKept 88 = .ok (.iadd, 1) := by decide +kernel
theorem dMod_isKept_89 : decode bMod_isKept 89 = .ok (.iload_n 2, 1) := by decide +kernel
theorem dMod_isKept_90 : decode bMod_isKept 90 = .ok (.invokevirtual 147, 3) := by decide +kernel
theorem dMod_isKept_93 : decode bMod_isKept 93 = .ok (.ifCond .eq 7, 3) := by decide +kernel
theorem dMod_isKept_96 : decode bMod_isKept 96 = .ok (.iconst 1, 1) := by decide +kernel
theorem dMod_isKept_97 : decode bMod_isKept 97 = .ok (.goto 4, 3) := by decide +kernel
theorem dMod_isKept_100 : decode bMod_isKept 100 = .ok (.iconst 0, 1) := by decide +kernel
theorem dMod_isKept_101 : decode bMod_isKept 101 = .ok (.istore 4, 2) := by decide +kernel
theorem dMod_isKept_103 : decode bMod_isKept 103 = .ok (.iinc 5 1, 3) := by decide +kernel
theorem dMod_isKept_106 : decode bMod_isKept 106 = .ok (.goto (-40), 3) := by decide +kernel
theorem dMod_isKept_109 : decode bMod_isKept 109 = .ok (.aload_n 0, 1) := by decide +kernel
theorem dMod_isKept_110 : decode bMod_isKept 110 = .ok (.getfield 16, 3) := by decide +kernel
theorem dMod_isKept_113 : decode bMod_isKept 113 = .ok (.iload_n 1, 1) := by decide +kernel
theorem dMod_isKept_114 : decode bMod_isKept 114 = .ok (.iaload, 1) := by decide +kernel
theorem dMod_isKept_115 : decode bMod_isKept 115 = .ok (.istore 5, 2) := by decide +kernel
theorem dMod_isKept_117 : decode bMod_isKept 117 = .ok (.iload_n 3, 1) := by decide +kernel
theorem dMod_isKept_118 : decode bMod_isKept 118 = .ok (.ifCond .eq 23, 3) := by decide +kernel
theorem dMod_isKept_121 : decode bMod_isKept 121 = .ok (.iload 5, 2) := by decide +kernel
theorem dMod_isKept_123 : decode bMod_isKept 123 = .ok (.ifCond .eq 9, 3) := by decide +kernel
theorem dMod_isKept_126 : decode bMod_isKept 126 = .ok (.iload 5, 2) := by decide +kernel
theorem dMod_isKept_128 : decode bMod_isKept 128 = .ok (.iconst 2, 1) := by decide +kernel
theorem dMod_isKept_129 : decode bMod_isKept 129 = .ok (.if_icmp .ne 12, 3) := by decide +kernel
theorem dMod_isKept_132 : decode bMod_isKept 132 = .ok (.iload 4, 2) := by decide +kernel
theorem dMod_isKept_134 : decode bMod_isKept 134 = .ok (.ifCond .ne 7, 3) := by decide +kernel
theorem dMod_isKept_137 : decode bMod_isKept 137 = .ok (.iconst 1, 1) := by decide +kernel
theorem dMod_isKept_138 : decode bMod_isKept 138 = .ok (.goto 4, 3) := by decide +kernel
theorem dMod_isKept_141 : decode bMod_isKept 141 = .ok (.iconst 0, 1) := by decide +kernel
theorem dMod_isKept_142 : decode bMod_isKept 142 = .ok (.istore 6, 2) := by decide +kernel
theorem dMod_isKept_144 : decode bMod_isKept 144 = .ok (.iload 6, 2) := by decide +kernel
theorem dMod_isKept_146 : decode bMod_isKept 146 = .ok (.ifCond .ne 24, 3) := by decide +kernel
theorem dMod_isKept_149 : decode bMod_isKept 149 = .ok (.iload_n 3, 1) := by decide +kernel
theorem dMod_isKept_150 : decode bMod_isKept 150 = .ok (.ifCond .ne 24, 3) := by decide +kernel
theorem dMod_isKept_153 : decode bMod_isKept 153 = .ok (.iload 5, 2) := by decide +kernel
theorem dMod_isKept_155 : decode bMod_isKept 155 = .ok (.iconst 1, 1) := by decide +kernel
theorem dMod_isKept_156 : decode bMod_isKept 156 = .ok (.if_icmp .eq 9, 3) := by decide +kernel
theorem dMod_isKept_159 : decode bMod_isKept 159 = .ok (.iload 5, 2) := by decide +kernel
theorem dMod_isKept_161 : decode bMod_isKept 161 = .ok (.iconst 2, 1) := by decide +kernel
theorem dMod_isKept_162 : decode bMod_isKept 162 = .ok (.if_icmp .ne 12, 3) := by decide +kernel
theorem dMod_isKept_165 : decode bMod_isKept 165 = .ok (.iload 4, 2) := by decide +kernel
theorem dMod_isKept_167 : decode bMod_isKept 167 = .ok (.ifCond .eq 7, 3) := by decide +kernel
theorem dMod_isKept_170 : decode bMod_isKept 170 = .ok (.iconst 1, 1) := by decide +kernel
theorem dMod_isKept_171 : decode bMod_isKept 171 = .ok (.goto 4, 3) := by decide +kernel
theorem dMod_isKept_174 : decode bMod_isKept 174 = .ok (.iconst 0, 1) := by decide +kernel
theorem dMod_isKept_175 : decode bMod_isKept 175 = .ok (.istore 6, 2) := by decide +kernel
theorem dMod_isKept_177 : decode bMod_isKept 177 = .ok (.iload 6, 2) := by decide +kernel
theorem dMod_isKept_179 : decode bMod_isKept 179 = .ok (.ifCond .ne 18, 3) := by decide +kernel
theorem dMod_isKept_182 : decode bMod_isKept 182 = .ok (.iload_n 3, 1) := by decide +kernel
theorem dMod_isKept_183 : decode bMod_isKept 183 = .ok (.ifCond .eq 16, 3) := by decide +kernel
theorem dMod_isKept_186 : decode bMod_isKept 186 = .ok (.iload 5, 2) := by decide +kernel
theorem dMod_isKept_188 : decode bMod_isKept 188 = .ok (.iconst 3, 1) := by decide +kernel
theorem dMod_isKept_189 : decode bMod_isKept 189 = .ok (.if_icmp .ne 10, 3) := by decide +kernel
theorem dMod_isKept_192 : decode bMod_isKept 192 = .ok (.iload 4, 2) := by decide +kernel
theorem dMod_isKept_194 : decode bMod_isKept 194 = .ok (.ifCond .eq 5, 3) := by decide +kernel
theorem dMod_isKept_197 : decode bMod_isKept 197 = .ok (.iconst 0, 1) := by decide +kernel
theorem dMod_isKept_198 : decode bMod_isKept 198 = .ok (.ireturn, 1) := by decide +kernel
theorem dMod_isKept_199 : decode bMod_isKept 199 = .ok (.iinc 2 1, 3) := by decide +kernel
theorem dMod_isKept_202 : decode bMod_isKept 202 = .ok (.goto (-200), 3) := by decide +kernel
theorem dMod_isKept_205 : decode bMod_isKept 205 = .ok (.iconst 1, 1) := by decide +kernel
theorem dMod_isKept_206 : decode bMod_isKept 206 = .ok (.ireturn, 1) := by decide +kernel
theorem dMod_keepsAll_0 : decode bMod_keepsAll 0 = .ok (.iconst 1, 1) := by decide +kernel
theorem dMod_keepsAll_1 : decode bMod_keepsAll 1 = .ok (.istore_n 1, 1) := by decide +kernel
theorem dMod_keepsAll_2 : decode bMod_keepsAll 2 = .ok (.iconst 0, 1) := by decide +kernel
theorem dMod_keepsAll_3 : decode bMod_keepsAll 3 = .ok (.istore_n 2, 1) := by decide +kernel
theorem dMod_keepsAll_4 : decode bMod_keepsAll 4 = .ok (.iload_n 2, 1) := by decide +kernel
theorem dMod_keepsAll_5 : decode bMod_keepsAll 5 = .ok (.aload_n 0, 1) := by decide +kernel
theorem dMod_keepsAll_6 : decode bMod_keepsAll 6 = .ok (.getfield 121, 3) := by decide +kernel
theorem dMod_keepsAll_9 : decode bMod_keepsAll 9 = .ok (.if_icmp .ge 27, 3) := by decide +kernel
theorem dMod_keepsAll_12 : decode bMod_keepsAll 12 = .ok (.iload_n 1, 1) := by decide +kernel
theorem dMod_keepsAll_13 : decode bMod_keepsAll 13 = .ok (.ifCond .eq 15, 3) := by decide +kernel
theorem dMod_keepsAll_16 : decode bMod_keepsAll 16 = .ok (.aload_n 0, 1) := by decide +kernel
theorem dMod_keepsAll_17 : decode bMod_keepsAll 17 = .ok (.iload_n 2, 1) := by decide +kernel
theorem dMod_keepsAll_18 : decode bMod_keepsAll 18 = .ok (.invokevirtual 150, 3) := by decide +kernel
theorem dMod_keepsAll_21 : decode bMod_keepsAll 21 = .ok (.ifCond .eq 7, 3) := by decide +kernel
theorem dMod_keepsAll_24 : decode bMod_keepsAll 24 = .ok (.iconst 1, 1) := by decide +kernel
theorem dMod_keepsAll_25 : decode bMod_keepsAll 25 = .ok (.goto 4, 3) := by decide +kernel
theorem dMod_keepsAll_28 : decode bMod_keepsAll 28 = .ok (.iconst 0, 1) := by decide +kernel
theorem dMod_keepsAll_29 : decode bMod_keepsAll 29 = .ok (.istore_n 1, 1) := by decide +kernel
theorem dMod_keepsAll_30 : decode bMod_keepsAll 30 = .ok (.iinc 2 1, 3) := by decide +kernel
theorem dMod_keepsAll_33 : decode bMod_keepsAll 33 = .ok (.goto (-29), 3) := by decide +kernel
theorem dMod_keepsAll_36 : decode bMod_keepsAll 36 = .ok (.iload_n 1, 1) := by decide +kernel
theorem dMod_keepsAll_37 : decode bMod_keepsAll 37 = .ok (.ireturn, 1) := by decide +kernel
theorem dMod_begin_0 : decode bMod_begin 0 = .ok (.aload_n 0, 1) := by decide +kernel
theorem dMod_begin_1 : decode bMod_begin 1 = .ok (.iconst 0, 1) := by decide +kernel
theorem dMod_begin_2 : decode bMod_begin 2 = .ok (.putfield 144, 3) := by decide +kernel
theorem dMod_begin_5 : decode bMod_begin 5 = .ok (.aload_n 0, 1) := by decide +kernel
theorem dMod_begin_6 : decode bMod_begin 6 = .ok (.getfield 95, 3) := by decide +kernel
theorem dMod_begin_9 : decode bMod_begin 9 = .ok (.iconst 0, 1) := by decide +kernel
theorem dMod_begin_10 : decode bMod_begin 10 = .ok (.iconst 0, 1) := by decide +kernel
theorem dMod_begin_11 : decode bMod_begin 11 = .ok (.iastore, 1) := by decide +kernel
theorem dMod_begin_12 : decode bMod_begin 12 = .ok (.aload_n 0, 1) := by decide +kernel
theorem dMod_begin_13 : decode bMod_begin 13 = .ok (.getfield 98, 3) := by decide +kernel
theorem dMod_begin_16 : decode bMod_begin 16 = .ok (.iconst 0, 1) := by decide +kernel
theorem dMod_begin_17 : decode bMod_begin 17 = .ok (.iconst 0, 1) := by decide +kernel
theorem dMod_begin_18 : decode bMod_begin 18 = .ok (.iastore, 1) := by decide +kernel
theorem dMod_begin_19 : decode bMod_begin 19 = .ok (.aload_n 0, 1) := by decide +kernel
theorem dMod_begin_20 : decode bMod_begin 20 = .ok (.getfield 101, 3) := by decide +kernel
theorem dMod_begin_23 : decode bMod_begin 23 = .ok (.iconst 0, 1) := by decide +kernel
theorem dMod_begin_24 : decode bMod_begin 24 = .ok (.iconst 0, 1) := by decide +kernel
theorem dMod_begin_25 : decode bMod_begin 25 = .ok (.iastore, 1) := by decide +kernel
theorem dMod_begin_26 : decode bMod_begin 26 = .ok (.return_, 1) := by decide +kernel
theorem dMod_mayCome_0 : decode bMod_mayCome 0 = .ok (.aload_n 0, 1) := by decide +kernel
theorem dMod_mayCome_1 : decode bMod_mayCome 1 = .ok (.getfield 98, 3) := by decide +kernel
theorem dMod_mayCome_4 : decode bMod_mayCome 4 = .ok (.aload_n 0, 1) := by decide +kernel
theorem dMod_mayCome_5 : decode bMod_mayCome 5 = .ok (.getfield 144, 3) := by decide +kernel
theorem dMod_mayCome_8 : decode bMod_mayCome 8 = .ok (.iaload, 1) := by decide +kernel
theorem dMod_mayCome_9 : decode bMod_mayCome 9 = .ok (.istore_n 3, 1) := by decide +kernel
theorem dMod_mayCome_10 : decode bMod_mayCome 10 = .ok (.aload_n 0, 1) := by decide +kernel
theorem dMod_mayCome_11 : decode bMod_mayCome 11 = .ok (.getfield 101, 3) := by decide +kernel
theorem dMod_mayCome_14 : decode bMod_mayCome 14 = .ok (.aload_n 0, 1) := by decide +kernel
theorem dMod_mayCome_15 : decode bMod_mayCome 15 = .ok (.getfield 144, 3) := by decide +kernel
theorem dMod_mayCome_18 : decode bMod_mayCome 18 = .ok (.iaload, 1) := by decide +kernel
theorem dMod_mayCome_19 : decode bMod_mayCome 19 = .ok (.istore 4, 2) := by decide +kernel
theorem dMod_mayCome_21 : decode bMod_mayCome 21 = .ok (.aload_n 0, 1) := by decide +kernel
theorem dMod_mayCome_22 : decode bMod_mayCome 22 = .ok (.getfield 7, 3) := by decide +kernel
theorem dMod_mayCome_25 : decode bMod_mayCome 25 = .ok (.iload_n 1, 1) := by decide +kernel
theorem dMod_mayCome_26 : decode bMod_mayCome 26 = .ok (.iaload, 1) := by decide +kernel
theorem dMod_mayCome_27 : decode bMod_mayCome 27 = .ok (.ifCond .ne 37, 3) := by decide +kernel
theorem dMod_mayCome_30 : decode bMod_mayCome 30 = .ok (.aload_n 0, 1) := by decide +kernel
theorem dMod_mayCome_31 : decode bMod_mayCome 31 = .ok (.getfield 144, 3) := by decide +kernel
theorem dMod_mayCome_34 : decode bMod_mayCome 34 = .ok (.ifCond .eq 22, 3) := by decide +kernel
theorem dMod_mayCome_37 : decode bMod_mayCome 37 = .ok (.aload_n 0, 1) := by decide +kernel
theorem dMod_mayCome_38 : decode bMod_mayCome 38 = .ok (.getfield 7, 3) := by decide +kernel
theorem dMod_mayCome_41 : decode bMod_mayCome 41 = .ok (.aload_n 0, 1) := by decide +kernel
theorem dMod_mayCome_42 : decode bMod_mayCome 42 = .ok (.getfield 92, 3) := by decide +kernel
theorem dMod_mayCome_45 : decode bMod_mayCome 45 = .ok (.aload_n 0, 1) := by decide +kernel
theorem dMod_mayCome_46 : decode bMod_mayCome 46 = .ok (.getfield 144, 3) := by decide +kernel
theorem dMod_mayCome_49 : decode bMod_mayCome 49 = .ok (.iconst 1, 1) := by decide +kernel
theorem dMod_mayCome_50 : decode bMod_mayCome 50 = .ok (.isub, 1) := by decide +kernel
theorem dMod_mayCome_51 : decode bMod_mayCome 51 = .ok (.iaload, 1) := by decide +kernel
theorem dMod_mayCome_52 : decode bMod_mayCome 52 = .ok (.iaload, 1) := by decide +kernel
theorem dMod_mayCome_53 : decode bMod_mayCome 53 = .ok (.ifCond .le 7, 3) := by decide +kernel
theorem dMod_mayCome_56 : decode bMod_mayCome 56 = .ok (.iconst 1, 1) := by decide +kernel
theorem dMod_mayCome_57 : decode bMod_mayCome 57 = .ok (.goto 35, 3) := by decide +kernel
theorem dMod_mayCome_60 : decode bMod_mayCome 60 = .ok (.iconst 0, 1) := by decide +kernel
theorem dMod_mayCome_61 : decode bMod_mayCome 61 = .ok (.goto 31, 3) := by decide +kernel
theorem dMod_mayCome_64 : decode bMod_mayCome 64 = .ok (.iload_n 3, 1) := by decide +kernel
theorem dMod_mayCome_65 : decode bMod_mayCome 65 = .ok (.aload_n 0, 1) := by decide +kernel
theorem dMod_mayCome_66 : decode bMod_mayCome 66 = .ok (.getfield 153, 3) := by decide +kernel
theorem dMod_mayCome_69 : decode bMod_mayCome 69 = .ok (.if_icmp .ge 22, 3) := by decide +kernel
theorem dMod_mayCome_72 : decode bMod_mayCome 72 = .ok (.aload_n 0, 1) := by decide +kernel
theorem dMod_mayCome_73 : decode bMod_mayCome 73 = .ok (.getfield 86, 3) := by decide +kernel
theorem dMod_mayCome_76 : decode bMod_mayCome 76 = .ok (.iload_n 3, 1) := by decide +kernel
theorem dMod_mayCome_77 : decode bMod_mayCome 77 = .ok (.iaload, 1) := by decide +kernel
theorem dMod_mayCome_78 : decode bMod_mayCome 78 = .ok (.aload_n 0, 1) := by decide +kernel
theorem dMod_mayCome_79 : decode bMod_mayCome 79 = .ok (.getfield 7, 3) := by decide +kernel
theorem dMod_mayCome_82 : decode bMod_mayCome 82 = .ok (.iload_n 1, 1) := by decide +kernel
theorem dMod_mayCome_83 : decode bMod_mayCome 83 = .ok (.iaload, 1) := by decide +kernel
theorem dMod_mayCome_84 : decode bMod_mayCome 84 = .ok (.if_icmp .ne 7, 3) := by decide +kernel
theorem dMod_mayCome_87 : decode bMod_mayCome 87 = .ok (.iconst 1, 1) := by decide +kernel
theorem dMod_mayCome_88 : decode bMod_mayCome 88 = .ok (.goto 4, 3) := by decide +kernel
theorem dMod_mayCome_91 : decode bMod_mayCome 91 = .ok (.iconst 0, 1) := by decide +kernel
theorem dMod_mayCome_92 : decode bMod_mayCome 92 = .ok (.istore 5, 2) := by decide +kernel
theorem dMod_mayCome_94 : decode bMod_mayCome 94 = .ok (.iload 5, 2) := by decide +kernel
theorem dMod_mayCome_96 : decode bMod_mayCome 96 = .ok (.ifCond .eq 53, 3) := by decide +kernel
theorem dMod_mayCome_99 : decode bMod_mayCome 99 = .ok (.aload_n 0, 1) := by decide +kernel
theorem dMod_mayCome_100 : decode bMod_mayCome 100 = .ok (.getfield 13, 3) := by decide +kernel
theorem dMod_mayCome_103 : decode bMod_mayCome 103 = .ok (.iload_n 1, 1) := by decide +kernel
theorem dMod_mayCome_104 : decode bMod_mayCome 104 = .ok (.iaload, 1) := by decide +kernel
theorem dMod_mayCome_105 : decode bMod_mayCome 105 = .ok (.ifCond .eq 40, 3) := by decide +kernel
theorem dMod_mayCome_108 : decode bMod_mayCome 108 = .ok (.iload 4, 2) := by decide +kernel
theorem dMod_mayCome_110 : decode bMod_mayCome 110 = .ok (.iload_n 2, 1) := by decide +kernel
theorem dMod_mayCome_111 : decode bMod_mayCome 111 = .ok (.ifCond .eq 10, 3) := by decide +kernel
theorem dMod_mayCome_114 : decode bMod_mayCome 114 = .ok (.aload_n 0, 1) := by decide +kernel
theorem dMod_mayCome_115 : decode bMod_mayCome 115 = .ok (.getfield 156, 3) := by decide +kernel
theorem dMod_mayCome_118 : decode bMod_mayCome 118 = .ok (.goto 4, 3) := by decide +kernel
theorem dMod_mayCome_121 : decode bMod_mayCome 121 = .ok (.iconst 5, 1) := by decide +kernel
end
section
theorem dMod_mayCome_122 : decode bMod_mayCome 122 = .ok (.if_icmp .ge 27, 3) := by decide +kernel
theorem dMod_mayCome_125 : decode bMod_mayCome 125 = .ok (.iload_n 2, 1) := by decide +kernel
theorem dMod_mayCome_126 : decode bMod_mayCome 126 = .ok (.ifCond .eq 19, 3) := by decide +kernel
theorem dMod_mayCome_129 : decode bMod_mayCome 129 = .ok (.aload_n 0, 1) := by decide +kernel
theorem dMod_mayCome_130 : decode bMod_mayCome 130 = .ok (.getfield 89, 3) := by decide +kernel
theorem dMod_mayCome_133 : decode bMod_mayCome 133 = .ok (.iload 4, 2) := by decide +kernel
theorem dMod_mayCome_135 : decode bMod_mayCome 135 = .ok (.iaload, 1) := by decide +kernel
theorem dMod_mayCome_136 : decode bMod_mayCome 136 = .ok (.aload_n 0, 1) := by decide +kernel
theorem dMod_mayCome_137 : decode bMod_mayCome 137 = .ok (.getfield 13, 3) := by decide +kernel
theorem dMod_mayCome_140 : decode bMod_mayCome 140 = .ok (.iload_n 1, 1) := by decide +kernel
theorem dMod_mayCome_141 : decode bMod_mayCome 141 = .ok (.iaload, 1) := by decide +kernel
theorem dMod_mayCome_142 : decode bMod_mayCome 142 = .ok (.if_icmp .ne 7, 3) := by decide +kernel
theorem dMod_mayCome_145 : decode bMod_mayCome 145 = .ok (.iconst 1, 1) := by decide +kernel
theorem dMod_mayCome_146 : decode bMod_mayCome 146 = .ok (.goto 4, 3) := by decide +kernel
theorem dMod_mayCome_149 : decode bMod_mayCome 149 = .ok (.iconst 0, 1) := by decide +kernel
theorem dMod_mayCome_150 : decode bMod_mayCome 150 = .ok (.ireturn, 1) := by decide +kernel
theorem dMod_nextAlignment_0 : decode bMod_nextAlignment 0 = .ok (.aload_n 0, 1) := by decide +kernel
theorem dMod_nextAlignment_1 : decode bMod_nextAlignment 1 = .ok (.getfield 144, 3) := by decide +kernel
theorem dMod_nextAlignment_4 : decode bMod_nextAlignment 4 = .ok (.ifCond .lt 218, 3) := by decide +kernel
theorem dMod_nextAlignment_7 : decode bMod_nextAlignment 7 = .ok (.aload_n 0, 1) := by decide +kernel
theorem dMod_nextAlignment_8 : decode bMod_nextAlignment 8 = .ok (.getfield 95, 3) := by decide +kernel
theorem dMod_nextAlignment_11 : decode bMod_nextAlignment 11 = .ok (.aload_n 0, 1) := by decide +kernel
theorem dMod_nextAlignment_12 : decode bMod_nextAlignment 12 = .ok (.getfield 144, 3) := by decide +kernel
theorem dMod_nextAlignment_15 : decode bMod_nextAlignment 15 = .ok (.iaload, 1) := by decide +kernel
theorem dMod_nextAlignment_16 : decode bMod_nextAlignment 16 = .ok (.istore_n 2, 1) := by decide +kernel
theorem dMod_nextAlignment_17 : decode bMod_nextAlignment 17 = .ok (.iload_n 2, 1) := by decide +kernel
theorem dMod_nextAlignment_18 : decode bMod_nextAlignment 18 = .ok (.aload_n 0, 1) := by decide +kernel
theorem dMod_nextAlignment_19 : decode bMod_nextAlignment 19 = .ok (.getfield 115, 3) := by decide +kernel
theorem dMod_nextAlignment_22 : decode bMod_nextAlignment 22 = .ok (.if_icmp .ne 54, 3) := by decide +kernel
theorem dMod_nextAlignment_25 : decode bMod_nextAlignment 25 = .ok (.aload_n 0, 1) := by decide +kernel
theorem dMod_nextAlignment_26 : decode bMod_nextAlignment 26 = .ok (.getfield 95, 3) := by decide +kernel
theorem dMod_nextAlignment_29 : decode bMod_nextAlignment 29 = .ok (.aload_n 0, 1) := by decide +kernel
theorem dMod_nextAlignment_30 : decode bMod_nextAlignment 30 = .ok (.getfield 144, 3) := by decide +kernel
theorem dMod_nextAlignment_33 : decode bMod_nextAlignment 33 = .ok (.dup2, 1) := by decide +kernel
theorem dMod_nextAlignment_34 : decode bMod_nextAlignment 34 = .ok (.iaload, 1) := by decide +kernel
theorem dMod_nextAlignment_35 : decode bMod_nextAlignment 35 = .ok (.iconst 1, 1) := by decide +kernel
theorem dMod_nextAlignment_36 : decode bMod_nextAlignment 36 = .ok (.iadd, 1) := by decide +kernel
theorem dMod_nextAlignment_37 : decode bMod_nextAlignment 37 = .ok (.iastore, 1) := by decide +kernel
theorem dMod_nextAlignment_38 : decode bMod_nextAlignment 38 = .ok (.aload_n 0, 1) := by decide +kernel
theorem dMod_nextAlignment_39 : decode bMod_nextAlignment 39 = .ok (.getfield 98, 3) := by decide +kernel
theorem dMod_nextAlignment_42 : decode bMod_nextAlignment 42 = .ok (.aload_n 0, 1) := by decide +kernel
theorem dMod_nextAlignment_43 : decode bMod_nextAlignment 43 = .ok (.getfield 144, 3) := by decide +kernel
theorem dMod_nextAlignment_46 : decode bMod_nextAlignment 46 = .ok (.iaload, 1) := by decide +kernel
theorem dMod_nextAlignment_47 : decode bMod_nextAlignment 47 = .ok (.aload_n 0, 1) := by decide +kernel
theorem dMod_nextAlignment_48 : decode bMod_nextAlignment 48 = .ok (.getfield 153, 3) := by decide +kernel
theorem dMod_nextAlignment_51 : decode bMod_nextAlignment 51 = .ok (.if_icmp .ne 168, 3) := by decide +kernel
theorem dMod_nextAlignment_54 : decode bMod_nextAlignment 54 = .ok (.iload_n 1, 1) := by decide +kernel
theorem dMod_nextAlignment_55 : decode bMod_nextAlignment 55 = .ok (.ifCond .eq 19, 3) := by decide +kernel
theorem dMod_nextAlignment_58 : decode bMod_nextAlignment 58 = .ok (.aload_n 0, 1) := by decide +kernel
theorem dMod_nextAlignment_59 : decode bMod_nextAlignment 59 = .ok (.getfield 101, 3) := by decide +kernel
theorem dMod_nextAlignment_62 : decode bMod_nextAlignment 62 = .ok (.aload_n 0, 1) := by decide +kernel
theorem dMod_nextAlignment_63 : decode bMod_nextAlignment 63 = .ok (.getfield 144, 3) := by decide +kernel
theorem dMod_nextAlignment_66 : decode bMod_nextAlignment 66 = .ok (.iaload, 1) := by decide +kernel
theorem dMod_nextAlignment_67 : decode bMod_nextAlignment 67 = .ok (.aload_n 0, 1) := by decide +kernel
theorem dMod_nextAlignment_68 : decode bMod_nextAlignment 68 = .ok (.getfield 156, 3) := by decide +kernel
theorem dMod_nextAlignment_71 : decode bMod_nextAlignment 71 = .ok (.if_icmp .ne 148, 3) := by decide +kernel
theorem dMod_nextAlignment_74 : decode bMod_nextAlignment 74 = .ok (.iconst 1, 1) := by decide +kernel
theorem dMod_nextAlignment_75 : decode bMod_nextAlignment 75 = .ok (.ireturn, 1) := by decide +kernel
theorem dMod_nextAlignment_76 : decode bMod_nextAlignment 76 = .ok (.iload_n 2, 1) := by decide +kernel
theorem dMod_nextAlignment_77 : decode bMod_nextAlignment 77 = .ok (.aload_n 0, 1) := by decide +kernel
theorem dMod_nextAlignment_78 : decode bMod_nextAlignment 78 = .ok (.getfield 115, 3) := by decide +kernel
theorem dMod_nextAlignment_81 : decode bMod_nextAlignment 81 = .ok (.if_icmp .le 16, 3) := by decide +kernel
theorem dMod_nextAlignment_84 : decode bMod_nextAlignment 84 = .ok (.aload_n 0, 1) := by decide +kernel
theorem dMod_nextAlignment_85 : decode bMod_nextAlignment 85 = .ok (.dup, 1) := by decide +kernel
theorem dMod_nextAlignment_86 : decode bMod_nextAlignment 86 = .ok (.getfield 144, 3) := by decide +kernel
theorem dMod_nextAlignment_89 : decode bMod_nextAlignment 89 = .ok (.iconst 1, 1) := by decide +kernel
theorem dMod_nextAlignment_90 : decode bMod_nextAlignment 90 = .ok (.isub, 1) := by decide +kernel
theorem dMod_nextAlignment_91 : decode bMod_nextAlignment 91 = .ok (.putfield 144, 3) := by decide +kernel
theorem dMod_nextAlignment_94 : decode bMod_nextAlignment 94 = .ok (.goto 125, 3) := by decide +kernel
theorem dMod_nextAlignment_97 : decode bMod_nextAlignment 97 = .ok (.aload_n 0, 1) := by decide +kernel
theorem dMod_nextAlignment_98 : decode bMod_nextAlignment 98 = .ok (.getfield 95, 3) := by decide +kernel
theorem dMod_nextAlignment_101 : decode bMod_nextAlignment 101 = .ok (.aload_n 0, 1) := by decide +kernel
theorem dMod_nextAlignment_102 : decode bMod_nextAlignment 102 = .ok (.getfield 144, 3) := by decide +kernel
theorem dMod_nextAlignment_105 : decode bMod_nextAlignment 105 = .ok (.dup2, 1) := by decide +kernel
theorem dMod_nextAlignment_106 : decode bMod_nextAlignment 106 = .ok (.iaload, 1) := by decide +kernel
theorem dMod_nextAlignment_107 : decode bMod_nextAlignment 107 = .ok (.iconst 1, 1) := by decide +kernel
theorem dMod_nextAlignment_108 : decode bMod_nextAlignment 108 = .ok (.iadd, 1) := by decide +kernel
theorem dMod_nextAlignment_109 : decode bMod_nextAlignment 109 = .ok (.iastore, 1) := by decide +kernel
theorem dMod_nextAlignment_110 : decode bMod_nextAlignment 110 = .ok (.aload_n 0, 1) := by decide +kernel
theorem dMod_nextAlignment_111 : decode bMod_nextAlignment 111 = .ok (.iload_n 2, 1) := by decide +kernel
theorem dMod_nextAlignment_112 : decode bMod_nextAlignment 112 = .ok (.iload_n 1, 1) := by decide +kernel
theorem dMod_nextAlignment_113 : decode bMod_nextAlignment 113 = .ok (.invokevirtual 159, 3) := by decide +kernel
theorem dMod_nextAlignment_116 : decode bMod_nextAlignment 116 = .ok (.ifCond .eq 103, 3) := by decide +kernel
theorem dMod_nextAlignment_119 : decode bMod_nextAlignment 119 = .ok (.aload_n 0, 1) := by decide +kernel
theorem dMod_nextAlignment_120 : decode bMod_nextAlignment 120 = .ok (.getfield 92, 3) := by decide +kernel
theorem dMod_nextAlignment_123 : decode bMod_nextAlignment 123 = .ok (.aload_n 0, 1) := by decide +kernel
theorem dMod_nextAlignment_124 : decode bMod_nextAlignment 124 = .ok (.getfield 144, 3) := by decide +kernel
theorem dMod_nextAlignment_127 : decode bMod_nextAlignment 127 = .ok (.iload_n 2, 1) := by decide +kernel
theorem dMod_nextAlignment_128 : decode bMod_nextAlignment 128 = .ok (.iastore, 1) := by decide +kernel
theorem dMod_nextAlignment_129 : decode bMod_nextAlignment 129 = .ok (.aload_n 0, 1) := by decide +kernel
theorem dMod_nextAlignment_130 : decode bMod_nextAlignment 130 = .ok (.getfield 98, 3) := by decide +kernel
theorem dMod_nextAlignment_133 : decode bMod_nextAlignment 133 = .ok (.aload_n 0, 1) := by decide +kernel
theorem dMod_nextAlignment_134 : decode bMod_nextAlignment 134 = .ok (.getfield 144, 3) := by decide +kernel
theorem dMod_nextAlignment_137 : decode bMod_nextAlignment 137 = .ok (.iconst 1, 1) := by decide +kernel
theorem dMod_nextAlignment_138 : decode bMod_nextAlignment 138 = .ok (.iadd, 1) := by decide +kernel
theorem dMod_nextAlignment_139 : decode bMod_nextAlignment 139 = .ok (.aload_n 0, 1) := by decide +kernel
theorem dMod_nextAlignment_140 : decode bMod_nextAlignment 140 = .ok (.getfield 98, 3) := by decide +kernel
theorem dMod_nextAlignment_143 : decode bMod_nextAlignment 143 = .ok (.aload_n 0, 1) := by decide +kernel
theorem dMod_nextAlignment_144 : decode bMod_nextAlignment 144 = .ok (.getfield 144, 3) := by decide +kernel
theorem dMod_nextAlignment_147 : decode bMod_nextAlignment 147 = .ok (.iaload, 1) := by decide +kernel
theorem dMod_nextAlignment_148 : decode bMod_nextAlignment 148 = .ok (.aload_n 0, 1) := by decide +kernel
theorem dMod_nextAlignment_149 : decode bMod_nextAlignment 149 = .ok (.getfield 7, 3) := by decide +kernel
theorem dMod_nextAlignment_152 : decode bMod_nextAlignment 152 = .ok (.iload_n 2, 1) := by decide +kernel
theorem dMod_nextAlignment_153 : decode bMod_nextAlignment 153 = .ok (.iaload, 1) := by decide +kernel
theorem dMod_nextAlignment_154 : decode bMod_nextAlignment 154 = .ok (.ifCond .le 7, 3) := by decide +kernel
theorem dMod_nextAlignment_157 : decode bMod_nextAlignment 157 = .ok (.iconst 1, 1) := by decide +kernel
theorem dMod_nextAlignment_158 : decode bMod_nextAlignment 158 = .ok (.goto 4, 3) := by decide +kernel
theorem dMod_nextAlignment_161 : decode bMod_nextAlignment 161 = .ok (.iconst 0, 1) := by decide +kernel
theorem dMod_nextAlignment_162 : decode bMod_nextAlignment 162 = .ok (.iadd, 1) := by decide +kernel
theorem dMod_nextAlignment_163 : decode bMod_nextAlignment 163 = .ok (.iastore, 1) := by decide +kernel
theorem dMod_nextAlignment_164 : decode bMod_nextAlignment 164 = .ok (.aload_n 0, 1) := by decide +kernel
theorem dMod_nextAlignment_165 : decode bMod_nextAlignment 165 = .ok (.getfield 101, 3) := by decide +kernel
theorem dMod_nextAlignment_168 : decode bMod_nextAlignment 168 = .ok (.aload_n 0, 1) := by decide +kernel
theorem dMod_nextAlignment_169 : decode bMod_nextAlignment 169 = .ok (.getfield 144, 3) := by decide +kernel
theorem dMod_nextAlignment_172 : decode bMod_nextAlignment 172 = .ok (.iconst 1, 1) := by decide +kernel
theorem dMod_nextAlignment_173 : decode bMod_nextAlignment 173 = .ok (.iadd, 1) := by decide +kernel
theorem dMod_nextAlignment_174 : decode bMod_nextAlignment 174 = .ok (.aload_n 0, 1) := by decide +kernel
theorem dMod_nextAlignment_175 : decode bMod_nextAlignment 175 = .ok (.getfield 101, 3) := by decide +kernel
theorem dMod_nextAlignment_178 : decode bMod_nextAlignment 178 = .ok (.aload_n 0, 1) := by decide +kernel
theorem dMod_nextAlignment_179 : decode bMod_nextAlignment 179 = .ok (.getfield 144, 3) := by decide +kernel
theorem dMod_nextAlignment_182 : decode bMod_nextAlignment 182 = .ok (.iaload, 1) := by decide +kernel
theorem dMod_nextAlignment_183 : decode bMod_nextAlignment 183 = .ok (.aload_n 0, 1) := by decide +kernel
theorem dMod_nextAlignment_184 : decode bMod_nextAlignment 184 = .ok (.getfield 13, 3) := by decide +kernel
theorem dMod_nextAlignment_187 : decode bMod_nextAlignment 187 = .ok (.iload_n 2, 1) := by decide +kernel
theorem dMod_nextAlignment_188 : decode bMod_nextAlignment 188 = .ok (.iaload, 1) := by decide +kernel
theorem dMod_nextAlignment_189 : decode bMod_nextAlignment 189 = .ok (.ifCond .le 7, 3) := by decide +kernel
theorem dMod_nextAlignment_192 : decode bMod_nextAlignment 192 = .ok (.iconst 1, 1) := by decide +kernel
theorem dMod_nextAlignment_193 : decode bMod_nextAlignment 193 = .ok (.goto 4, 3) := by decide +kernel
theorem dMod_nextAlignment_196 : decode bMod_nextAlignment 196 = .ok (.iconst 0, 1) := by decide +kernel
theorem dMod_nextAlignment_197 : decode bMod_nextAlignment 197 = .ok (.iadd, 1) := by decide +kernel
theorem dMod_nextAlignment_198 : decode bMod_nextAlignment 198 = .ok (.iastore, 1) := by decide +kernel
theorem dMod_nextAlignment_199 : decode bMod_nextAlignment 199 = .ok (.aload_n 0, 1) := by decide +kernel
theorem dMod_nextAlignment_200 : decode bMod_nextAlignment 200 = .ok (.dup, 1) := by decide +kernel
theorem dMod_nextAlignment_201 : decode bMod_nextAlignment 201 = .ok (.getfield 144, 3) := by decide +kernel
theorem dMod_nextAlignment_204 : decode bMod_nextAlignment 204 = .ok (.iconst 1, 1) := by decide +kernel
theorem dMod_nextAlignment_205 : decode bMod_nextAlignment 205 = .ok (.iadd, 1) := by decide +kernel
theorem dMod_nextAlignment_206 : decode bMod_nextAlignment 206 = .ok (.putfield 144, 3) := by decide +kernel
theorem dMod_nextAlignment_209 : decode bMod_nextAlignment 209 = .ok (.aload_n 0, 1) := by decide +kernel
theorem dMod_nextAlignment_210 : decode bMod_nextAlignment 210 = .ok (.getfield 95, 3) := by decide +kernel
theorem dMod_nextAlignment_213 : decode bMod_nextAlignment 213 = .ok (.aload_n 0, 1) := by decide +kernel
theorem dMod_nextAlignment_214 : decode bMod_nextAlignment 214 = .ok (.getfield 144, 3) := by decide +kernel
theorem dMod_nextAlignment_217 : decode bMod_nextAlignment 217 = .ok (.iconst 0, 1) := by decide +kernel
theorem dMod_nextAlignment_218 : decode bMod_nextAlignment 218 = .ok (.iastore, 1) := by decide +kernel
theorem dMod_nextAlignment_219 : decode bMod_nextAlignment 219 = .ok (.goto (-219), 3) := by decide +kernel
theorem dMod_nextAlignment_222 : decode bMod_nextAlignment 222 = .ok (.iconst 0, 1) := by decide +kernel
theorem dMod_nextAlignment_223 : decode bMod_nextAlignment 223 = .ok (.ireturn, 1) := by decide +kernel
theorem dMod_take_0 : decode bMod_take 0 = .ok (.aload_n 0, 1) := by decide +kernel
theorem dMod_take_1 : decode bMod_take 1 = .ok (.iload_n 3, 1) := by decide +kernel
theorem dMod_take_2 : decode bMod_take 2 = .ok (.putfield 153, 3) := by decide +kernel
theorem dMod_take_5 : decode bMod_take 5 = .ok (.iconst 0, 1) := by decide +kernel
theorem dMod_take_6 : decode bMod_take 6 = .ok (.istore 6, 2) := by decide +kernel
theorem dMod_take_8 : decode bMod_take 8 = .ok (.iload 6, 2) := by decide +kernel
theorem dMod_take_10 : decode bMod_take 10 = .ok (.iload_n 3, 1) := by decide +kernel
theorem dMod_take_11 : decode bMod_take 11 = .ok (.if_icmp .ge 22, 3) := by decide +kernel
theorem dMod_take_14 : decode bMod_take 14 = .ok (.aload_n 0, 1) := by decide +kernel
theorem dMod_take_15 : decode bMod_take 15 = .ok (.getfield 86, 3) := by decide +kernel
theorem dMod_take_18 : decode bMod_take 18 = .ok (.iload 6, 2) := by decide +kernel
theorem dMod_take_20 : decode bMod_take 20 = .ok (.aload_n 1, 1) := by decide +kernel
theorem dMod_take_21 : decode bMod_take 21 = .ok (.iload_n 2, 1) := by decide +kernel
theorem dMod_take_22 : decode bMod_take 22 = .ok (.iload 6, 2) := by decide +kernel
theorem dMod_take_24 : decode bMod_take 24 = .ok (.iadd, 1) := by decide +kernel
theorem dMod_take_25 : decode bMod_take 25 = .ok (.iaload, 1) := by decide +kernel
theorem dMod_take_26 : decode bMod_take 26 = .ok (.iastore, 1) := by decide +kernel
theorem dMod_take_27 : decode bMod_take 27 = .ok (.iinc 6 1, 3) := by decide +kernel
theorem dMod_take_30 : decode bMod_take 30 = .ok (.goto (-22), 3) := by decide +kernel
theorem dMod_take_33 : decode bMod_take 33 = .ok (.aload_n 0, 1) := by decide +kernel
theorem dMod_take_34 : decode bMod_take 34 = .ok (.iload 5, 2) := by decide +kernel
theorem dMod_take_36 : decode bMod_take 36 = .ok (.putfield 156, 3) := by decide +kernel
theorem dMod_take_39 : decode bMod_take 39 = .ok (.iconst 0, 1) := by decide +kernel
theorem dMod_take_40 : decode bMod_take 40 = .ok (.istore 6, 2) := by decide +kernel
theorem dMod_take_42 : decode bMod_take 42 = .ok (.iload 6, 2) := by decide +kernel
theorem dMod_take_44 : decode bMod_take 44 = .ok (.iload 5, 2) := by decide +kernel
theorem dMod_take_46 : decode bMod_take 46 = .ok (.if_icmp .ge 23, 3) := by decide +kernel
theorem dMod_take_49 : decode bMod_take 49 = .ok (.aload_n 0, 1) := by decide +kernel
theorem dMod_take_50 : decode bMod_take 50 = .ok (.getfield 89, 3) := by decide +kernel
theorem dMod_take_53 : decode bMod_take 53 = .ok (.iload 6, 2) := by decide +kernel
theorem dMod_take_55 : decode bMod_take 55 = .ok (.aload_n 1, 1) := by decide +kernel
theorem dMod_take_56 : decode bMod_take 56 = .ok (.iload 4, 2) := by decide +kernel
theorem dMod_take_58 : decode bMod_take 58 = .ok (.iload 6, 2) := by decide +kernel
theorem dMod_take_60 : decode bMod_take 60 = .ok (.iadd, 1) := by decide +kernel
theorem dMod_take_61 : decode bMod_take 61 = .ok (.iaload, 1) := by decide +kernel
theorem dMod_take_62 : decode bMod_take 62 = .ok (.iastore, 1) := by decide +kernel
theorem dMod_take_63 : decode bMod_take 63 = .ok (.iinc 6 1, 3) := by decide +kernel
theorem dMod_take_66 : decode bMod_take 66 = .ok (.goto (-24), 3) := by decide +kernel
theorem dMod_take_69 : decode bMod_take 69 = .ok (.return_, 1) := by decide +kernel
theorem dMod_doBelong_0 : decode bMod_doBelong 0 = .ok (.aload_n 0, 1) := by decide +kernel
theorem dMod_doBelong_1 : decode bMod_doBelong 1 = .ok (.invokevirtual 163, 3) := by decide +kernel
theorem dMod_doBelong_4 : decode bMod_doBelong 4 = .ok (.aload_n 0, 1) := by decide +kernel
theorem dMod_doBelong_5 : decode bMod_doBelong 5 = .ok (.iconst 1, 1) := by decide +kernel
theorem dMod_doBelong_6 : decode bMod_doBelong 6 = .ok (.invokevirtual 166, 3) := by decide +kernel
theorem dMod_doBelong_9 : decode bMod_doBelong 9 = .ok (.ifCond .eq 12, 3) := by decide +kernel
theorem dMod_doBelong_12 : decode bMod_doBelong 12 = .ok (.aload_n 0, 1) := by decide +kernel
theorem dMod_doBelong_13 : decode bMod_doBelong 13 = .ok (.invokevirtual 170, 3) := by decide +kernel
theorem dMod_doBelong_16 : decode bMod_doBelong 16 = .ok (.ifCond .eq (-12), 3) := by decide +kernel
theorem dMod_doBelong_19 : decode bMod_doBelong 19 = .ok (.iconst 1, 1) := by decide +kernel
theorem dMod_doBelong_20 : decode bMod_doBelong 20 = .ok (.ireturn, 1) := by decide +kernel
theorem dMod_doBelong_21 : decode bMod_doBelong 21 = .ok (.iconst 0, 1) := by decide +kernel
theorem dMod_doBelong_22 : decode bMod_doBelong 22 = .ok (.ireturn, 1) := by decide +kernel
theorem dMod_belong_0 : decode bMod_belong 0 = .ok (.aload_n 0, 1) := by decide +kernel
theorem dMod_belong_1 : decode bMod_belong 1 = .ok (.iconst 0, 1) := by decide +kernel
theorem dMod_belong_2 : decode bMod_belong 2 = .ok (.putfield 107, 3) := by decide +kernel
theorem dMod_belong_5 : decode bMod_belong 5 = .ok (.aload_n 0, 1) := by decide +kernel
theorem dMod_belong_6 : decode bMod_belong 6 = .ok (.aload_n 0, 1) := by decide +kernel
theorem dMod_belong_7 : decode bMod_belong 7 = .ok (.getfield 53, 3) := by decide +kernel
theorem dMod_belong_10 : decode bMod_belong 10 = .ok (.iconst 0, 1) := by decide +kernel
theorem dMod_belong_11 : decode bMod_belong 11 = .ok (.aload_n 0, 1) := by decide +kernel
theorem dMod_belong_12 : decode bMod_belong 12 = .ok (.getfield 50, 3) := by decide +kernel
theorem dMod_belong_15 : decode bMod_belong 15 = .ok (.iconst 0, 1) := by decide +kernel
theorem dMod_belong_16 : decode bMod_belong 16 = .ok (.iaload, 1) := by decide +kernel
theorem dMod_belong_17 : decode bMod_belong 17 = .ok (.iconst 5, 1) := by decide +kernel
theorem dMod_belong_18 : decode bMod_belong 18 = .ok (.aload_n 0, 1) := by decide +kernel
theorem dMod_belong_19 : decode bMod_belong 19 = .ok (.getfield 50, 3) := by decide +kernel
theorem dMod_belong_22 : decode bMod_belong 22 = .ok (.iconst 1, 1) := by decide +kernel
theorem dMod_belong_23 : decode bMod_belong 23 = .ok (.iaload, 1) := by decide +kernel
theorem dMod_belong_24 : decode bMod_belong 24 = .ok (.invokevirtual 174, 3) := by decide +kernel
theorem dMod_belong_27 : decode bMod_belong 27 = .ok (.aload_n 0, 1) := by decide +kernel
theorem dMod_belong_28 : decode bMod_belong 28 = .ok (.invokevirtual 178, 3) := by decide +kernel
theorem dMod_belong_31 : decode bMod_belong 31 = .ok (.ireturn, 1) := by decide +kernel
theorem dMod_blame_0 : decode bMod_blame 0 = .ok (.aload_n 0, 1) := by decide +kernel
theorem dMod_blame_1 : decode bMod_blame 1 = .ok (.iconst 0, 1) := by decide +kernel
theorem dMod_blame_2 : decode bMod_blame 2 = .ok (.putfield 107, 3) := by decide +kernel
theorem dMod_blame_5 : decode bMod_blame 5 = .ok (.aload_n 0, 1) := by decide +kernel
theorem dMod_blame_6 : decode bMod_blame 6 = .ok (.aload_n 0, 1) := by decide +kernel
theorem dMod_blame_7 : decode bMod_blame 7 = .ok (.getfield 53, 3) := by decide +kernel
theorem dMod_blame_10 : decode bMod_blame 10 = .ok (.iconst 0, 1) := by decide +kernel
theorem dMod_blame_11 : decode bMod_blame 11 = .ok (.aload_n 0, 1) := by decide +kernel
theorem dMod_blame_12 : decode bMod_blame 12 = .ok (.getfield 50, 3) := by decide +kernel
theorem dMod_blame_15 : decode bMod_blame 15 = .ok (.iconst 0, 1) := by decide +kernel
theorem dMod_blame_16 : decode bMod_blame 16 = .ok (.iaload, 1) := by decide +kernel
theorem dMod_blame_17 : decode bMod_blame 17 = .ok (.iconst 5, 1) := by decide +kernel
theorem dMod_blame_18 : decode bMod_blame 18 = .ok (.aload_n 0, 1) := by decide +kernel
theorem dMod_blame_19 : decode bMod_blame 19 = .ok (.getfield 50, 3) := by decide +kernel
theorem dMod_blame_22 : decode bMod_blame 22 = .ok (.iconst 1, 1) := by decide +kernel
theorem dMod_blame_23 : decode bMod_blame 23 = .ok (.iaload, 1) := by decide +kernel
theorem dMod_blame_24 : decode bMod_blame 24 = .ok (.invokevirtual 174, 3) := by decide +kernel
theorem dMod_blame_27 : decode bMod_blame 27 = .ok (.iconst 0, 1) := by decide +kernel
theorem dMod_blame_28 : decode bMod_blame 28 = .ok (.istore_n 1, 1) := by decide +kernel
theorem dMod_blame_29 : decode bMod_blame 29 = .ok (.iconst 0, 1) := by decide +kernel
theorem dMod_blame_30 : decode bMod_blame 30 = .ok (.istore_n 2, 1) := by decide +kernel
theorem dMod_blame_31 : decode bMod_blame 31 = .ok (.aload_n 0, 1) := by decide +kernel
theorem dMod_blame_32 : decode bMod_blame 32 = .ok (.invokevirtual 163, 3) := by decide +kernel
theorem dMod_blame_35 : decode bMod_blame 35 = .ok (.aload_n 0, 1) := by decide +kernel
theorem dMod_blame_36 : decode bMod_blame 36 = .ok (.iconst 1, 1) := by decide +kernel
theorem dMod_blame_37 : decode bMod_blame 37 = .ok (.invokevirtual 166, 3) := by decide +kernel
theorem dMod_blame_40 : decode bMod_blame 40 = .ok (.ifCond .eq 42, 3) := by decide +kernel
theorem dMod_blame_43 : decode bMod_blame 43 = .ok (.iconst 1, 1) := by decide +kernel
theorem dMod_blame_44 : decode bMod_blame 44 = .ok (.istore_n 2, 1) := by decide +kernel
theorem dMod_blame_45 : decode bMod_blame 45 = .ok (.iconst 0, 1) := by decide +kernel
theorem dMod_blame_46 : decode bMod_blame 46 = .ok (.istore_n 3, 1) := by decide +kernel
theorem dMod_blame_47 : decode bMod_blame 47 = .ok (.iload_n 3, 1) := by decide +kernel
theorem dMod_blame_48 : decode bMod_blame 48 = .ok (.aload_n 0, 1) := by decide +kernel
theorem dMod_blame_49 : decode bMod_blame 49 = .ok (.getfield 121, 3) := by decide +kernel
theorem dMod_blame_52 : decode bMod_blame 52 = .ok (.if_icmp .ge 27, 3) := by decide +kernel
theorem dMod_blame_55 : decode bMod_blame 55 = .ok (.aload_n 0, 1) := by decide +kernel
theorem dMod_blame_56 : decode bMod_blame 56 = .ok (.iload_n 3, 1) := by decide +kernel
theorem dMod_blame_57 : decode bMod_blame 57 = .ok (.invokevirtual 150, 3) := by decide +kernel
theorem dMod_blame_60 : decode bMod_blame 60 = .ok (.ifCond .eq 11, 3) := by decide +kernel
theorem dMod_blame_63 : decode bMod_blame 63 = .ok (.iload_n 1, 1) := by decide +kernel
theorem dMod_blame_64 : decode bMod_blame 64 = .ok (.iconst 1, 1) := by decide +kernel
theorem dMod_blame_65 : decode bMod_blame 65 = .ok (.iload_n 3, 1) := by decide +kernel
theorem dMod_blame_66 : decode bMod_blame 66 = .ok (.ishl, 1) := by decide +kernel
theorem dMod_blame_67 : decode bMod_blame 67 = .ok (.ior, 1) := by decide +kernel
theorem dMod_blame_68 : decode bMod_blame 68 = .ok (.goto 4, 3) := by decide +kernel
theorem dMod_blame_71 : decode bMod_blame 71 = .ok (.iload_n 1, 1) := by decide +kernel
theorem dMod_blame_72 : decode bMod_blame 72 = .ok (.istore_n 1, 1) := by decide +kernel
theorem dMod_blame_73 : decode bMod_blame 73 = .ok (.iinc 3 1, 3) := by decide +kernel
theorem dMod_blame_76 : decode bMod_blame 76 = .ok (.goto (-29), 3) := by decide +kernel
theorem dMod_blame_79 : decode bMod_blame 79 = .ok (.goto (-44), 3) := by decide +kernel
theorem dMod_blame_82 : decode bMod_blame 82 = .ok (.iconst 0, 1) := by decide +kernel
theorem dMod_blame_83 : decode bMod_blame 83 = .ok (.istore_n 3, 1) := by decide +kernel
theorem dMod_blame_84 : decode bMod_blame 84 = .ok (.iload_n 3, 1) := by decide +kernel
theorem dMod_blame_85 : decode bMod_blame 85 = .ok (.aload_n 0, 1) := by decide +kernel
theorem dMod_blame_86 : decode bMod_blame 86 = .ok (.getfield 121, 3) := by decide +kernel
theorem dMod_blame_89 : decode bMod_blame 89 = .ok (.if_icmp .ge 23, 3) := by decide +kernel
theorem dMod_blame_92 : decode bMod_blame 92 = .ok (.iload_n 2, 1) := by decide +kernel
theorem dMod_blame_93 : decode bMod_blame 93 = .ok (.ifCond .eq 19, 3) := by decide +kernel
theorem dMod_blame_96 : decode bMod_blame 96 = .ok (.iload_n 1, 1) := by decide +kernel
theorem dMod_blame_97 : decode bMod_blame 97 = .ok (.iload_n 3, 1) := by decide +kernel
theorem dMod_blame_98 : decode bMod_blame 98 = .ok (.ishr, 1) := by decide +kernel
theorem dMod_blame_99 : decode bMod_blame 99 = .ok (.iconst 1, 1) := by decide +kernel
theorem dMod_blame_100 : decode bMod_blame 100 = .ok (.iand, 1) := by decide +kernel
theorem dMod_blame_101 : decode bMod_blame 101 = .ok (.ifCond .ne 5, 3) := by decide +kernel
theorem dMod_blame_104 : decode bMod_blame 104 = .ok (.iload_n 3, 1) := by decide +kernel
theorem dMod_blame_105 : decode bMod_blame 105 = .ok (.ireturn, 1) := by decide +kernel
theorem dMod_blame_106 : decode bMod_blame 106 = .ok (.iinc 3 1, 3) := by decide +kernel
theorem dMod_blame_109 : decode bMod_blame 109 = .ok (.goto (-25), 3) := by decide +kernel
theorem dMod_blame_112 : decode bMod_blame 112 = .ok (.iload_n 2, 1) := by decide +kernel
theorem dMod_blame_113 : decode bMod_blame 113 = .ok (.ifCond .eq 7, 3) := by decide +kernel
theorem dMod_blame_116 : decode bMod_blame 116 = .ok (.iconst (-1), 1) := by decide +kernel
theorem dMod_blame_117 : decode bMod_blame 117 = .ok (.goto 5, 3) := by decide +kernel
theorem dMod_blame_120 : decode bMod_blame 120 = .ok (.bipush (-2), 2) := by decide +kernel
theorem dMod_blame_122 : decode bMod_blame 122 = .ok (.ireturn, 1) := by decide +kernel
theorem dMod_order_0 : decode bMod_order 0 = .ok (.aload_n 0, 1) := by decide +kernel
theorem dMod_order_1 : decode bMod_order 1 = .ok (.getfield 68, 3) := by decide +kernel
theorem dMod_order_4 : decode bMod_order 4 = .ok (.iload_n 1, 1) := by decide +kernel
theorem dMod_order_5 : decode bMod_order 5 = .ok (.iaload, 1) := by decide +kernel
theorem dMod_order_6 : decode bMod_order 6 = .ok (.aload_n 0, 1) := by decide +kernel
theorem dMod_order_7 : decode bMod_order 7 = .ok (.getfield 68, 3) := by decide +kernel
theorem dMod_order_10 : decode bMod_order 10 = .ok (.iload_n 2, 1) := by decide +kernel
theorem dMod_order_11 : decode bMod_order 11 = .ok (.iaload, 1) := by decide +kernel
theorem dMod_order_12 : decode bMod_order 12 = .ok (.isub, 1) := by decide +kernel
theorem dMod_order_13 : decode bMod_order 13 = .ok (.istore_n 3, 1) := by decide +kernel
theorem dMod_order_14 : decode bMod_order 14 = .ok (.iload_n 3, 1) := by decide +kernel
theorem dMod_order_15 : decode bMod_order 15 = .ok (.ifCond .ne 19, 3) := by decide +kernel
theorem dMod_order_18 : decode bMod_order 18 = .ok (.aload_n 0, 1) := by decide +kernel
theorem dMod_order_19 : decode bMod_order 19 = .ok (.getfield 71, 3) := by decide +kernel
theorem dMod_order_22 : decode bMod_order 22 = .ok (.iload_n 1, 1) := by decide +kernel
theorem dMod_order_23 : decode bMod_order 23 = .ok (.iaload, 1) := by decide +kernel
theorem dMod_order_24 : decode bMod_order 24 = .ok (.aload_n 0, 1) := by decide +kernel
theorem dMod_order_25 : decode bMod_order 25 = .ok (.getfield 71, 3) := by decide +kernel
theorem dMod_order_28 : decode bMod_order 28 = .ok (.iload_n 2, 1) := by decide +kernel
theorem dMod_order_29 : decode bMod_order 29 = .ok (.iaload, 1) := by decide +kernel
theorem dMod_order_30 : decode bMod_order 30 = .ok (.isub, 1) := by decide +kernel
theorem dMod_order_31 : decode bMod_order 31 = .ok (.goto 4, 3) := by decide +kernel
theorem dMod_order_34 : decode bMod_order 34 = .ok (.iload_n 3, 1) := by decide +kernel
theorem dMod_order_35 : decode bMod_order 35 = .ok (.istore_n 3, 1) := by decide +kernel
theorem dMod_order_36 : decode bMod_order 36 = .ok (.iload_n 3, 1) := by decide +kernel
theorem dMod_order_37 : decode bMod_order 37 = .ok (.ifCond .ne 19, 3) := by decide +kernel
theorem dMod_order_40 : decode bMod_order 40 = .ok (.aload_n 0, 1) := by decide +kernel
theorem dMod_order_41 : decode bMod_order 41 = .ok (.getfield 74, 3) := by decide +kernel
theorem dMod_order_44 : decode bMod_order 44 = .ok (.iload_n 1, 1) := by decide +kernel
theorem dMod_order_45 : decode bMod_order 45 = .ok (.iaload, 1) := by decide +kernel
theorem dMod_order_46 : decode bMod_order 46 = .ok (.aload_n 0, 1) := by decide +kernel
theorem dMod_order_47 : decode bMod_order 47 = .ok (.getfield 74, 3) := by decide +kernel
theorem dMod_order_50 : decode bMod_order 50 = .ok (.iload_n 2, 1) := by decide +kernel
theorem dMod_order_51 : decode bMod_order 51 = .ok (.iaload, 1) := by decide +kernel
theorem dMod_order_52 : decode bMod_order 52 = .ok (.isub, 1) := by decide +kernel
theorem dMod_order_53 : decode bMod_order 53 = .ok (.goto 4, 3) := by decide +kernel
theorem dMod_order_56 : decode bMod_order 56 = .ok (.iload_n 3, 1) := by decide +kernel
theorem dMod_order_57 : decode bMod_order 57 = .ok (.istore_n 3, 1) := by decide +kernel
theorem dMod_order_58 : decode bMod_order 58 = .ok (.iload_n 3, 1) := by decide +kernel
theorem dMod_order_59 : decode bMod_order 59 = .ok (.ifCond .ne 19, 3) := by decide +kernel
theorem dMod_order_62 : decode bMod_order 62 = .ok (.aload_n 0, 1) := by decide +kernel
theorem dMod_order_63 : decode bMod_order 63 = .ok (.getfield 77, 3) := by decide +kernel
theorem dMod_order_66 : decode bMod_order 66 = .ok (.iload_n 1, 1) := by decide +kernel
theorem dMod_order_67 : decode bMod_order 67 = .ok (.iaload, 1) := by decide +kernel
theorem dMod_order_68 : decode bMod_order 68 = .ok (.aload_n 0, 1) := by decide +kernel
theorem dMod_order_69 : decode bMod_order 69 = .ok (.getfield 77, 3) := by decide +kernel
theorem dMod_order_72 : decode bMod_order 72 = .ok (.iload_n 2, 1) := by decide +kernel
theorem dMod_order_73 : decode bMod_order 73 = .ok (.iaload, 1) := by decide +kernel
theorem dMod_order_74 : decode bMod_order 74 = .ok (.isub, 1) := by decide +kernel
theorem dMod_order_75 : decode bMod_order 75 = .ok (.goto 4, 3) := by decide +kernel
theorem dMod_order_78 : decode bMod_order 78 = .ok (.iload_n 3, 1) := by decide +kernel
theorem dMod_order_79 : decode bMod_order 79 = .ok (.ireturn, 1) := by decide +kernel
theorem dMod_put_0 : decode bMod_put 0 = .ok (.aload_n 0, 1) := by decide +kernel
theorem dMod_put_1 : decode bMod_put 1 = .ok (.getfield 181, 3) := by decide +kernel
theorem dMod_put_4 : decode bMod_put 4 = .ok (.istore_n 1, 1) := by decide +kernel
theorem dMod_put_5 : decode bMod_put 5 = .ok (.aload_n 0, 1) := by decide +kernel
theorem dMod_put_6 : decode bMod_put 6 = .ok (.getfield 181, 3) := by decide +kernel
theorem dMod_put_9 : decode bMod_put 9 = .ok (.iconst 1, 1) := by decide +kernel
theorem dMod_put_10 : decode bMod_put 10 = .ok (.isub, 1) := by decide +kernel
theorem dMod_put_11 : decode bMod_put 11 = .ok (.istore_n 2, 1) := by decide +kernel
theorem dMod_put_12 : decode bMod_put 12 = .ok (.iload_n 2, 1) := by decide +kernel
theorem dMod_put_13 : decode bMod_put 13 = .ok (.ifCond .lt 35, 3) := by decide +kernel
theorem dMod_put_16 : decode bMod_put 16 = .ok (.aload_n 0, 1) := by decide +kernel
theorem dMod_put_17 : decode bMod_put 17 = .ok (.iload_n 2, 1) := by decide +kernel
theorem dMod_put_18 : decode bMod_put 18 = .ok (.aload_n 0, 1) := by decide +kernel
theorem dMod_put_19 : decode bMod_put 19 = .ok (.getfield 181, 3) := by decide +kernel
theorem dMod_put_22 : decode bMod_put 22 = .ok (.invokevirtual 184, 3) := by decide +kernel
theorem dMod_put_25 : decode bMod_put 25 = .ok (.istore_n 3, 1) := by decide +kernel
theorem dMod_put_26 : decode bMod_put 26 = .ok (.iload_n 3, 1) := by decide +kernel
theorem dMod_put_27 : decode bMod_put 27 = .ok (.ifCond .ne 5, 3) := by decide +kernel
theorem dMod_put_30 : decode bMod_put 30 = .ok (.iconst 1, 1) := by decide +kernel
theorem dMod_put_31 : decode bMod_put 31 = .ok (.ireturn, 1) := by decide +kernel
theorem dMod_put_32 : decode bMod_put 32 = .ok (.iload_n 3, 1) := by decide +kernel
theorem dMod_put_33 : decode bMod_put 33 = .ok (.ifCond .le 7, 3) := by decide +kernel
theorem dMod_put_36 : decode bMod_put 36 = .ok (.iload_n 2, 1) := by decide +kernel
theorem dMod_put_37 : decode bMod_put 37 = .ok (.goto 4, 3) := by decide +kernel
theorem dMod_put_40 : decode bMod_put 40 = .ok (.iload_n 1, 1) := by decide +kernel
theorem dMod_put_41 : decode bMod_put 41 = .ok (.istore_n 1, 1) := by decide +kernel
theorem dMod_put_42 : decode bMod_put 42 = .ok (.iinc 2 (-1), 3) := by decide +kernel
theorem dMod_put_45 : decode bMod_put 45 = .ok (.goto (-33), 3) := by decide +kernel
theorem dMod_put_48 : decode bMod_put 48 = .ok (.aload_n 0, 1) := by decide +kernel
theorem dMod_put_49 : decode bMod_put 49 = .ok (.getfield 181, 3) := by decide +kernel
theorem dMod_put_52 : decode bMod_put 52 = .ok (.bipush 60, 2) := by decide +kernel
theorem dMod_put_54 : decode bMod_put 54 = .ok (.if_icmp .ne 5, 3) := by decide +kernel
theorem dMod_put_57 : decode bMod_put 57 = .ok (.iconst 0, 1) := by decide +kernel
theorem dMod_put_58 : decode bMod_put 58 = .ok (.ireturn, 1) := by decide +kernel
theorem dMod_put_59 : decode bMod_put 59 = .ok (.aload_n 0, 1) := by decide +kernel
theorem dMod_put_60 : decode bMod_put 60 = .ok (.getfield 68, 3) := by decide +kernel
theorem dMod_put_63 : decode bMod_put 63 = .ok (.aload_n 0, 1) := by decide +kernel
theorem dMod_put_64 : decode bMod_put 64 = .ok (.getfield 181, 3) := by decide +kernel
theorem dMod_put_67 : decode bMod_put 67 = .ok (.iaload, 1) := by decide +kernel
theorem dMod_put_68 : decode bMod_put 68 = .ok (.istore_n 2, 1) := by decide +kernel
theorem dMod_put_69 : decode bMod_put 69 = .ok (.aload_n 0, 1) := by decide +kernel
theorem dMod_put_70 : decode bMod_put 70 = .ok (.getfield 71, 3) := by decide +kernel
theorem dMod_put_73 : decode bMod_put 73 = .ok (.aload_n 0, 1) := by decide +kernel
theorem dMod_put_74 : decode bMod_put 74 = .ok (.getfield 181, 3) := by decide +kernel
theorem dMod_put_77 : decode bMod_put 77 = .ok (.iaload, 1) := by decide +kernel
theorem dMod_put_78 : decode bMod_put 78 = .ok (.istore_n 3, 1) := by decide +kernel
theorem dMod_put_79 : decode bMod_put 79 = .ok (.aload_n 0, 1) := by decide +kernel
theorem dMod_put_80 : decode bMod_put 80 = .ok (.getfield 74, 3) := by decide +kernel
theorem dMod_put_83 : decode bMod_put 83 = .ok (.aload_n 0, 1) := by decide +kernel
theorem dMod_put_84 : decode bMod_put 84 = .ok (.getfield 181, 3) := by decide +kernel
theorem dMod_put_87 : decode bMod_put 87 = .ok (.iaload, 1) := by decide +kernel
theorem dMod_put_88 : decode bMod_put 88 = .ok (.istore 4, 2) := by decide +kernel
theorem dMod_put_90 : decode bMod_put 90 = .ok (.aload_n 0, 1) := by decide +kernel
theorem dMod_put_91 : decode bMod_put 91 = .ok (.getfield 77, 3) := by decide +kernel
theorem dMod_put_94 : decode bMod_put 94 = .ok (.aload_n 0, 1) := by decide +kernel
theorem dMod_put_95 : decode bMod_put 95 = .ok (.getfield 181, 3) := by decide +kernel
theorem dMod_put_98 : decode bMod_put 98 = .ok (.iaload, 1) := by decide +kernel
theorem dMod_put_99 : decode bMod_put 99 = .ok (.istore 5, 2) := by decide +kernel
theorem dMod_put_101 : decode bMod_put 101 = .ok (.aload_n 0, 1) := by decide +kernel
theorem dMod_put_102 : decode bMod_put 102 = .ok (.getfield 181, 3) := by decide +kernel
theorem dMod_put_105 : decode bMod_put 105 = .ok (.istore 6, 2) := by decide +kernel
theorem dMod_put_107 : decode bMod_put 107 = .ok (.iload 6, 2) := by decide +kernel
theorem dMod_put_109 : decode bMod_put 109 = .ok (.iload_n 1, 1) := by decide +kernel
theorem dMod_put_110 : decode bMod_put 110 = .ok (.if_icmp .le 73, 3) := by decide +kernel
theorem dMod_put_113 : decode bMod_put 113 = .ok (.aload_n 0, 1) := by decide +kernel
theorem dMod_put_114 : decode bMod_put 114 = .ok (.getfield 68, 3) := by decide +kernel
theorem dMod_put_117 : decode bMod_put 117 = .ok (.iload 6, 2) := by decide +kernel
theorem dMod_put_119 : decode bMod_put 119 = .ok (.aload_n 0, 1) := by decide +kernel
theorem dMod_put_120 : decode bMod_put 120 = .ok (.getfield 68, 3) := by decide +kernel
theorem dMod_put_123 : decode bMod_put 123 = .ok (.iload 6, 2) := by decide +kernel
theorem dMod_put_125 : decode bMod_put 125 = .ok (.iconst 1, 1) := by decide +kernel
theorem dMod_put_126 : decode bMod_put 126 = .ok (.isub, 1) := by decide +kernel
theorem dMod_put_127 : decode bMod_put 127 = .ok (.iaload, 1) := by decide +kernel
theorem dMod_put_128 : decode bMod_put 128 = .ok (.iastore, 1) := by decide +kernel
theorem dMod_put_129 : decode bMod_put 129 = .ok (.aload_n 0, 1) := by decide +kernel
theorem dMod_put_130 : decode bMod_put 130 = .ok (.getfield 71, 3) := by decide +kernel
theorem dMod_put_133 : decode bMod_put 133 = .ok (.iload 6, 2) := by decide +kernel
theorem dMod_put_135 : decode bMod_put 135 = .ok (.aload_n 0, 1) := by decide +kernel
theorem dMod_put_136 : decode bMod_put 136 = .ok (.getfield 71, 3) := by decide +kernel
theorem dMod_put_139 : decode bMod_put 139 = .ok (.iload 6, 2) := by decide +kernel
theorem dMod_put_141 : decode bMod_put 141 = .ok (.iconst 1, 1) := by decide +kernel
theorem dMod_put_142 : decode bMod_put 142 = .ok (.isub, 1) := by decide +kernel
theorem dMod_put_143 : decode bMod_put 143 = .ok (.iaload, 1) := by decide +kernel
theorem dMod_put_144 : decode bMod_put 144 = .ok (.iastore, 1) := by decide +kernel
theorem dMod_put_145 : decode bMod_put 145 = .ok (.aload_n 0, 1) := by decide +kernel
theorem dMod_put_146 : decode bMod_put 146 = .ok (.getfield 74, 3) := by decide +kernel
theorem dMod_put_149 : decode bMod_put 149 = .ok (.iload 6, 2) := by decide +kernel
theorem dMod_put_151 : decode bMod_put 151 = .ok (.aload_n 0, 1) := by decide +kernel
theorem dMod_put_152 : decode bMod_put 152 = .ok (.getfield 74, 3) := by decide +kernel
theorem dMod_put_155 : decode bMod_put 155 = .ok (.iload 6, 2) := by decide +kernel
theorem dMod_put_157 : decode bMod_put 157 = .ok (.iconst 1, 1) := by decide +kernel
theorem dMod_put_158 : decode bMod_put 158 = .ok (.isub, 1) := by decide +kernel
theorem dMod_put_159 : decode bMod_put 159 = .ok (.iaload, 1) := by decide +kernel
theorem dMod_put_160 : decode bMod_put 160 = .ok (.iastore, 1) := by decide +kernel
theorem dMod_put_161 : decode bMod_put 161 = .ok (.aload_n 0, 1) := by decide +kernel
theorem dMod_put_162 : decode bMod_put 162 = .ok (.getfield 77, 3) := by decide +kernel
theorem dMod_put_165 : decode bMod_put 165 = .ok (.iload 6, 2) := by decide +kernel
theorem dMod_put_167 : decode bMod_put 167 = .ok (.aload_n 0, 1) := by decide +kernel
theorem dMod_put_168 : decode bMod_put 168 = .ok (.getfield 77, 3) := by decide +kernel
theorem dMod_put_171 : decode bMod_put 171 = .ok (.iload 6, 2) := by decide +kernel
theorem dMod_put_173 : decode bMod_put 173 = .ok (.iconst 1, 1) := by decide +kernel
theorem dMod_put_174 : decode bMod_put 174 = .ok (.isub, 1) := by decide +kernel
theorem dMod_put_175 : decode bMod_put 175 = .ok (.iaload, 1) := by decide +kernel
theorem dMod_put_176 : decode bMod_put 176 = .ok (.iastore, 1) := by decide +kernel
theorem dMod_put_177 : decode bMod_put 177 = .ok (.iinc 6 (-1), 3) := by decide +kernel
theorem dMod_put_180 : decode bMod_put 180 = .ok (.goto (-73), 3) := by decide +kernel
theorem dMod_put_183 : decode bMod_put 183 = .ok (.aload_n 0, 1) := by decide +kernel
theorem dMod_put_184 : decode bMod_put 184 = .ok (.getfield 68, 3) := by decide +kernel
theorem dMod_put_187 : decode bMod_put 187 = .ok (.iload_n 1, 1) := by decide +kernel
theorem dMod_put_188 : decode bMod_put 188 = .ok (.iload_n 2, 1) := by decide +kernel
theorem dMod_put_189 : decode bMod_put 189 = .ok (.iastore, 1) := by decide +kernel
theorem dMod_put_190 : decode bMod_put 190 = .ok (.aload_n 0, 1) := by decide +kernel
theorem dMod_put_191 : decode bMod_put 191 = .ok (.getfield 71, 3) := by decide +kernel
theorem dMod_put_194 : decode bMod_put 194 = .ok (.iload_n 1, 1) := by decide +kernel
theorem dMod_put_195 : decode bMod_put 195 = .ok (.iload_n 3, 1) := by decide +kernel
theorem dMod_put_196 : decode bMod_put 196 = .ok (.iastore, 1) := by decide +kernel
theorem dMod_put_197 : decode bMod_put 197 = .ok (.aload_n 0, 1) := by decide +kernel
theorem dMod_put_198 : decode bMod_put 198 = .ok (.getfield 74, 3) := by decide +kernel
theorem dMod_put_201 : decode bMod_put 201 = .ok (.iload_n 1, 1) := by decide +kernel
theorem dMod_put_202 : decode bMod_put 202 = .ok (.iload 4, 2) := by decide +kernel
theorem dMod_put_204 : decode bMod_put 204 = .ok (.iastore, 1) := by decide +kernel
theorem dMod_put_205 : decode bMod_put 205 = .ok (.aload_n 0, 1) := by decide +kernel
theorem dMod_put_206 : decode bMod_put 206 = .ok (.getfield 77, 3) := by decide +kernel
theorem dMod_put_209 : decode bMod_put 209 = .ok (.iload_n 1, 1) := by decide +kernel
theorem dMod_put_210 : decode bMod_put 210 = .ok (.iload 5, 2) := by decide +kernel
theorem dMod_put_212 : decode bMod_put 212 = .ok (.iastore, 1) := by decide +kernel
theorem dMod_put_213 : decode bMod_put 213 = .ok (.aload_n 0, 1) := by decide +kernel
theorem dMod_put_214 : decode bMod_put 214 = .ok (.dup, 1) := by decide +kernel
theorem dMod_put_215 : decode bMod_put 215 = .ok (.getfield 181, 3) := by decide +kernel
theorem dMod_put_218 : decode bMod_put 218 = .ok (.iconst 1, 1) := by decide +kernel
theorem dMod_put_219 : decode bMod_put 219 = .ok (.iadd, 1) := by decide +kernel
theorem dMod_put_220 : decode bMod_put 220 = .ok (.putfield 181, 3) := by decide +kernel
theorem dMod_put_223 : decode bMod_put 223 = .ok (.iconst 1, 1) := by decide +kernel
theorem dMod_put_224 : decode bMod_put 224 = .ok (.ireturn, 1) := by decide +kernel
theorem dMod_finish_0 : decode bMod_finish 0 = .ok (.aload_n 0, 1) := by decide +kernel
theorem dMod_finish_1 : decode bMod_finish 1 = .ok (.aload_n 0, 1) := by decide +kernel
theorem dMod_finish_2 : decode bMod_finish 2 = .ok (.getfield 181, 3) := by decide +kernel
theorem dMod_finish_5 : decode bMod_finish 5 = .ok (.putfield 118, 3) := by decide +kernel
theorem dMod_finish_8 : decode bMod_finish 8 = .ok (.iconst 0, 1) := by decide +kernel
theorem dMod_finish_9 : decode bMod_finish 9 = .ok (.istore_n 1, 1) := by decide +kernel
theorem dMod_finish_10 : decode bMod_finish 10 = .ok (.iload_n 1, 1) := by decide +kernel
theorem dMod_finish_11 : decode bMod_finish 11 = .ok (.aload_n 0, 1) := by decide +kernel
theorem dMod_finish_12 : decode bMod_finish 12 = .ok (.getfield 181, 3) := by decide +kernel
theorem dMod_finish_15 : decode bMod_finish 15 = .ok (.if_icmp .ge 57, 3) := by decide +kernel
theorem dMod_finish_18 : decode bMod_finish 18 = .ok (.aload_n 0, 1) := by decide +kernel
theorem dMod_finish_19 : decode bMod_finish 19 = .ok (.getfield 56, 3) := by decide +kernel
theorem dMod_finish_22 : decode bMod_finish 22 = .ok (.iload_n 1, 1) := by decide +kernel
theorem dMod_finish_23 : decode bMod_finish 23 = .ok (.aload_n 0, 1) := by decide +kernel
theorem dMod_finish_24 : decode bMod_finish 24 = .ok (.getfield 68, 3) := by decide +kernel
theorem dMod_finish_27 : decode bMod_finish 27 = .ok (.iload_n 1, 1) := by decide +kernel
theorem dMod_finish_28 : decode bMod_finish 28 = .ok (.iaload, 1) := by decide +kernel
theorem dMod_finish_29 : decode bMod_finish 29 = .ok (.iastore, 1) := by decide +kernel
theorem dMod_finish_30 : decode bMod_finish 30 = .ok (.aload_n 0, 1) := by decide +kernel
theorem dMod_finish_31 : decode bMod_finish 31 = .ok (.getfield 59, 3) := by decide +kernel
theorem dMod_finish_34 : decode bMod_finish 34 = .ok (.iload_n 1, 1) := by decide +kernel
theorem dMod_finish_35 : decode bMod_finish 35 = .ok (.aload_n 0, 1) := by decide +kernel
theorem dMod_finish_36 : decode bMod_finish 36 = .ok (.getfield 71, 3) := by decide +kernel
theorem dMod_finish_39 : decode bMod_finish 39 = .ok (.iload_n 1, 1) := by decide +kernel
theorem dMod_finish_40 : decode bMod_finish 40 = .ok (.iaload, 1) := by decide +kernel
theorem dMod_finish_41 : decode bMod_finish 41 = .ok (.iastore, 1) := by decide +kernel
theorem dMod_finish_42 : decode bMod_finish 42 = .ok (.aload_n 0, 1) := by decide +kernel
theorem dMod_finish_43 : decode bMod_finish 43 = .ok (.getfield 62, 3) := by decide +kernel
theorem dMod_finish_46 : decode bMod_finish 46 = .ok (.iload_n 1, 1) := by decide +kernel
theorem dMod_finish_47 : decode bMod_finish 47 = .ok (.aload_n 0, 1) := by decide +kernel
theorem dMod_finish_48 : decode bMod_finish 48 = .ok (.getfield 74, 3) := by decide +kernel
theorem dMod_finish_51 : decode bMod_finish 51 = .ok (.iload_n 1, 1) := by decide +kernel
theorem dMod_finish_52 : decode bMod_finish 52 = .ok (.iaload, 1) := by decide +kernel
theorem dMod_finish_53 : decode bMod_finish 53 = .ok (.iastore, 1) := by decide +kernel
theorem dMod_finish_54 : decode bMod_finish 54 = .ok (.aload_n 0, 1) := by decide +kernel
theorem dMod_finish_55 : decode bMod_finish 55 = .ok (.getfield 65, 3) := by decide +kernel
theorem dMod_finish_58 : decode bMod_finish 58 = .ok (.iload_n 1, 1) := by decide +kernel
theorem dMod_finish_59 : decode bMod_finish 59 = .ok (.aload_n 0, 1) := by decide +kernel
theorem dMod_finish_60 : decode bMod_finish 60 = .ok (.getfield 77, 3) := by decide +kernel
theorem dMod_finish_63 : decode bMod_finish 63 = .ok (.iload_n 1, 1) := by decide +kernel
theorem dMod_finish_64 : decode bMod_finish 64 = .ok (.iaload, 1) := by decide +kernel
theorem dMod_finish_65 : decode bMod_finish 65 = .ok (.iastore, 1) := by decide +kernel
theorem dMod_finish_66 : decode bMod_finish 66 = .ok (.iinc 1 1, 3) := by decide +kernel
theorem dMod_finish_69 : decode bMod_finish 69 = .ok (.goto (-59), 3) := by decide +kernel
theorem dMod_finish_72 : decode bMod_finish 72 = .ok (.aload_n 0, 1) := by decide +kernel
theorem dMod_finish_73 : decode bMod_finish 73 = .ok (.getfield 181, 3) := by decide +kernel
theorem dMod_finish_76 : decode bMod_finish 76 = .ok (.ireturn, 1) := by decide +kernel
theorem dMod_write_0 : decode bMod_write 0 = .ok (.aload_n 0, 1) := by decide +kernel
theorem dMod_write_1 : decode bMod_write 1 = .ok (.iconst 0, 1) := by decide +kernel
theorem dMod_write_2 : decode bMod_write 2 = .ok (.putfield 107, 3) := by decide +kernel
theorem dMod_write_5 : decode bMod_write 5 = .ok (.aload_n 0, 1) := by decide +kernel
theorem dMod_write_6 : decode bMod_write 6 = .ok (.aload_n 0, 1) := by decide +kernel
theorem dMod_write_7 : decode bMod_write 7 = .ok (.getfield 53, 3) := by decide +kernel
theorem dMod_write_10 : decode bMod_write 10 = .ok (.iconst 0, 1) := by decide +kernel
theorem dMod_write_11 : decode bMod_write 11 = .ok (.aload_n 0, 1) := by decide +kernel
theorem dMod_write_12 : decode bMod_write 12 = .ok (.getfield 50, 3) := by decide +kernel
theorem dMod_write_15 : decode bMod_write 15 = .ok (.iconst 0, 1) := by decide +kernel
theorem dMod_write_16 : decode bMod_write 16 = .ok (.iaload, 1) := by decide +kernel
theorem dMod_write_17 : decode bMod_write 17 = .ok (.iconst 5, 1) := by decide +kernel
theorem dMod_write_18 : decode bMod_write 18 = .ok (.iconst 0, 1) := by decide +kernel
theorem dMod_write_19 : decode bMod_write 19 = .ok (.invokevirtual 174, 3) := by decide +kernel
theorem dMod_write_22 : decode bMod_write 22 = .ok (.aload_n 0, 1) := by decide +kernel
theorem dMod_write_23 : decode bMod_write 23 = .ok (.iconst 0, 1) := by decide +kernel
theorem dMod_write_24 : decode bMod_write 24 = .ok (.putfield 181, 3) := by decide +kernel
theorem dMod_write_27 : decode bMod_write 27 = .ok (.aload_n 0, 1) := by decide +kernel
theorem dMod_write_28 : decode bMod_write 28 = .ok (.invokevirtual 163, 3) := by decide +kernel
theorem dMod_write_31 : decode bMod_write 31 = .ok (.aload_n 0, 1) := by decide +kernel
theorem dMod_write_32 : decode bMod_write 32 = .ok (.iconst 0, 1) := by decide +kernel
theorem dMod_write_33 : decode bMod_write 33 = .ok (.invokevirtual 166, 3) := by decide +kernel
theorem dMod_write_36 : decode bMod_write 36 = .ok (.ifCond .eq 147, 3) := by decide +kernel
theorem dMod_write_39 : decode bMod_write 39 = .ok (.aload_n 0, 1) := by decide +kernel
theorem dMod_write_40 : decode bMod_write 40 = .ok (.invokevirtual 170, 3) := by decide +kernel
theorem dMod_write_43 : decode bMod_write 43 = .ok (.ifCond .eq (-12), 3) := by decide +kernel
theorem dMod_write_46 : decode bMod_write 46 = .ok (.iconst 0, 1) := by decide +kernel
theorem dMod_write_47 : decode bMod_write 47 = .ok (.istore_n 1, 1) := by decide +kernel
theorem dMod_write_48 : decode bMod_write 48 = .ok (.iconst 0, 1) := by decide +kernel
theorem dMod_write_49 : decode bMod_write 49 = .ok (.istore_n 2, 1) := by decide +kernel
theorem dMod_write_50 : decode bMod_write 50 = .ok (.iconst 0, 1) := by decide +kernel
theorem dMod_write_51 : decode bMod_write 51 = .ok (.istore_n 3, 1) := by decide +kernel
theorem dMod_write_52 : decode bMod_write 52 = .ok (.iload_n 3, 1) := by decide +kernel
theorem dMod_write_53 : decode bMod_write 53 = .ok (.aload_n 0, 1) := by decide +kernel
theorem dMod_write_54 : decode bMod_write 54 = .ok (.getfield 144, 3) := by decide +kernel
theorem dMod_write_57 : decode bMod_write 57 = .ok (.if_icmp .ge 69, 3) := by decide +kernel
theorem dMod_write_60 : decode bMod_write 60 = .ok (.aload_n 0, 1) := by decide +kernel
theorem dMod_write_61 : decode bMod_write 61 = .ok (.getfield 13, 3) := by decide +kernel
theorem dMod_write_64 : decode bMod_write 64 = .ok (.aload_n 0, 1) := by decide +kernel
theorem dMod_write_65 : decode bMod_write 65 = .ok (.getfield 92, 3) := by decide +kernel
theorem dMod_write_68 : decode bMod_write 68 = .ok (.iload_n 3, 1) := by decide +kernel
theorem dMod_write_69 : decode bMod_write 69 = .ok (.iaload, 1) := by decide +kernel
theorem dMod_write_70 : decode bMod_write 70 = .ok (.iaload, 1) := by decide +kernel
theorem dMod_write_71 : decode bMod_write 71 = .ok (.ifCond .le 7, 3) := by decide +kernel
theorem dMod_write_74 : decode bMod_write 74 = .ok (.iconst 1, 1) := by decide +kernel
theorem dMod_write_75 : decode bMod_write 75 = .ok (.goto 4, 3) := by decide +kernel
theorem dMod_write_78 : decode bMod_write 78 = .ok (.iconst 0, 1) := by decide +kernel
theorem dMod_write_79 : decode bMod_write 79 = .ok (.istore 4, 2) := by decide +kernel
theorem dMod_write_81 : decode bMod_write 81 = .ok (.iload 4, 2) := by decide +kernel
theorem dMod_write_83 : decode bMod_write 83 = .ok (.ifCond .eq 22, 3) := by decide +kernel
theorem dMod_write_86 : decode bMod_write 86 = .ok (.bipush 8, 2) := by decide +kernel
theorem dMod_write_88 : decode bMod_write 88 = .ok (.iload_n 2, 1) := by decide +kernel
theorem dMod_write_89 : decode bMod_write 89 = .ok (.imul, 1) := by decide +kernel
theorem dMod_write_90 : decode bMod_write 90 = .ok (.aload_n 0, 1) := by decide +kernel
theorem dMod_write_91 : decode bMod_write 91 = .ok (.getfield 13, 3) := by decide +kernel
theorem dMod_write_94 : decode bMod_write 94 = .ok (.aload_n 0, 1) := by decide +kernel
theorem dMod_write_95 : decode bMod_write 95 = .ok (.getfield 92, 3) := by decide +kernel
theorem dMod_write_98 : decode bMod_write 98 = .ok (.iload_n 3, 1) := by decide +kernel
theorem dMod_write_99 : decode bMod_write 99 = .ok (.iaload, 1) := by decide +kernel
theorem dMod_write_100 : decode bMod_write 100 = .ok (.iaload, 1) := by decide +kernel
theorem dMod_write_101 : decode bMod_write 101 = .ok (.iadd, 1) := by decide +kernel
theorem dMod_write_102 : decode bMod_write 102 = .ok (.goto 4, 3) := by decide +kernel
theorem dMod_write_105 : decode bMod_write 105 = .ok (.iload_n 2, 1) := by decide +kernel
theorem dMod_write_106 : decode bMod_write 106 = .ok (.istore_n 2, 1) := by decide +kernel
theorem dMod_write_107 : decode bMod_write 107 = .ok (.iload_n 1, 1) := by decide +kernel
theorem dMod_write_108 : decode bMod_write 108 = .ok (.iload 4, 2) := by decide +kernel
theorem dMod_write_110 : decode bMod_write 110 = .ok (.ifCond .eq 7, 3) := by decide +kernel
theorem dMod_write_113 : decode bMod_write 113 = .ok (.iconst 1, 1) := by decide +kernel
theorem dMod_write_114 : decode bMod_write 114 = .ok (.goto 4, 3) := by decide +kernel
theorem dMod_write_117 : decode bMod_write 117 = .ok (.iconst 0, 1) := by decide +kernel
theorem dMod_write_118 : decode bMod_write 118 = .ok (.iadd, 1) := by decide +kernel
theorem dMod_write_119 : decode bMod_write 119 = .ok (.istore_n 1, 1) := by decide +kernel
theorem dMod_write_120 : decode bMod_write 120 = .ok (.iinc 3 1, 3) := by decide +kernel
theorem dMod_write_123 : decode bMod_write 123 = .ok (.goto (-71), 3) := by decide +kernel
theorem dMod_write_126 : decode bMod_write 126 = .ok (.aload_n 0, 1) := by decide +kernel
theorem dMod_write_127 : decode bMod_write 127 = .ok (.getfield 68, 3) := by decide +kernel
theorem dMod_write_130 : decode bMod_write 130 = .ok (.aload_n 0, 1) := by decide +kernel
theorem dMod_write_131 : decode bMod_write 131 = .ok (.getfield 181, 3) := by decide +kernel
theorem dMod_write_134 : decode bMod_write 134 = .ok (.iload_n 1, 1) := by decide +kernel
theorem dMod_write_135 : decode bMod_write 135 = .ok (.iastore, 1) := by decide +kernel
theorem dMod_write_136 : decode bMod_write 136 = .ok (.aload_n 0, 1) := by decide +kernel
theorem dMod_write_137 : decode bMod_write 137 = .ok (.getfield 71, 3) := by decide +kernel
theorem dMod_write_140 : decode bMod_write 140 = .ok (.aload_n 0, 1) := by decide +kernel
theorem dMod_write_141 : decode bMod_write 141 = .ok (.getfield 181, 3) := by decide +kernel
theorem dMod_write_144 : decode bMod_write 144 = .ok (.iload_n 2, 1) := by decide +kernel
theorem dMod_write_145 : decode bMod_write 145 = .ok (.iastore, 1) := by decide +kernel
theorem dMod_write_146 : decode bMod_write 146 = .ok (.aload_n 0, 1) := by decide +kernel
theorem dMod_write_147 : decode bMod_write 147 = .ok (.getfield 74, 3) := by decide +kernel
theorem dMod_write_150 : decode bMod_write 150 = .ok (.aload_n 0, 1) := by decide +kernel
theorem dMod_write_151 : decode bMod_write 151 = .ok (.getfield 181, 3) := by decide +kernel
theorem dMod_write_154 : decode bMod_write 154 = .ok (.iconst 0, 1) := by decide +kernel
theorem dMod_write_155 : decode bMod_write 155 = .ok (.iastore, 1) := by decide +kernel
theorem dMod_write_156 : decode bMod_write 156 = .ok (.aload_n 0, 1) := by decide +kernel
theorem dMod_write_157 : decode bMod_write 157 = .ok (.getfield 77, 3) := by decide +kernel
theorem dMod_write_160 : decode bMod_write 160 = .ok (.aload_n 0, 1) := by decide +kernel
theorem dMod_write_161 : decode bMod_write 161 = .ok (.getfield 181, 3) := by decide +kernel
theorem dMod_write_164 : decode bMod_write 164 = .ok (.iconst 0, 1) := by decide +kernel
theorem dMod_write_165 : decode bMod_write 165 = .ok (.iastore, 1) := by decide +kernel
theorem dMod_write_166 : decode bMod_write 166 = .ok (.aload_n 0, 1) := by decide +kernel
theorem dMod_write_167 : decode bMod_write 167 = .ok (.invokevirtual 188, 3) := by decide +kernel
theorem dMod_write_170 : decode bMod_write 170 = .ok (.ifCond .ne 10, 3) := by decide +kernel
theorem dMod_write_173 : decode bMod_write 173 = .ok (.aload_n 0, 1) := by decide +kernel
theorem dMod_write_174 : decode bMod_write 174 = .ok (.iconst 1, 1) := by decide +kernel
theorem dMod_write_175 : decode bMod_write 175 = .ok (.putfield 107, 3) := by decide +kernel
theorem dMod_write_178 : decode bMod_write 178 = .ok (.iconst 0, 1) := by decide +kernel
theorem dMod_write_179 : decode bMod_write 179 = .ok (.ireturn, 1) := by decide +kernel
theorem dMod_write_180 : decode bMod_write 180 = .ok (.goto (-149), 3) := by decide +kernel
theorem dMod_write_183 : decode bMod_write 183 = .ok (.aload_n 0, 1) := by decide +kernel
theorem dMod_write_184 : decode bMod_write 184 = .ok (.invokevirtual 191, 3) := by decide +kernel
theorem dMod_write_187 : decode bMod_write 187 = .ok (.ireturn, 1) := by decide +kernel
theorem dMod_isFound_0 : decode bMod_isFound 0 = .ok (.aload_n 0, 1) := by decide +kernel
theorem dMod_isFound_1 : decode bMod_isFound 1 = .ok (.getfield 38, 3) := by decide +kernel
theorem dMod_isFound_4 : decode bMod_isFound 4 = .ok (.aload_n 0, 1) := by decide +kernel
theorem dMod_isFound_5 : decode bMod_isFound 5 = .ok (.getfield 104, 3) := by decide +kernel
theorem dMod_isFound_8 : decode bMod_isFound 8 = .ok (.iconst 0, 1) := by decide +kernel
theorem dMod_isFound_9 : decode bMod_isFound 9 = .ok (.iaload, 1) := by decide +kernel
theorem dMod_isFound_10 : decode bMod_isFound 10 = .ok (.iaload, 1) := by decide +kernel
theorem dMod_isFound_11 : decode bMod_isFound 11 = .ok (.ifCond .ne 24, 3) := by decide +kernel
theorem dMod_isFound_14 : decode bMod_isFound 14 = .ok (.aload_n 0, 1) := by decide +kernel
theorem dMod_isFound_15 : decode bMod_isFound 15 = .ok (.getfield 41, 3) := by decide +kernel
theorem dMod_isFound_18 : decode bMod_isFound 18 = .ok (.aload_n 0, 1) := by decide +kernel
theorem dMod_isFound_19 : decode bMod_isFound 19 = .ok (.getfield 104, 3) := by decide +kernel
theorem dMod_isFound_22 : decode bMod_isFound 22 = .ok (.iload_n 1, 1) := by decide +kernel
theorem dMod_isFound_23 : decode bMod_isFound 23 = .ok (.iconst 1, 1) := by decide +kernel
theorem dMod_isFound_24 : decode bMod_isFound 24 = .ok (.isub, 1) := by decide +kernel
theorem dMod_isFound_25 : decode bMod_isFound 25 = .ok (.iaload, 1) := by decide +kernel
theorem dMod_isFound_26 : decode bMod_isFound 26 = .ok (.iaload, 1) := by decide +kernel
theorem dMod_isFound_27 : decode bMod_isFound 27 = .ok (.iconst (-1), 1) := by decide +kernel
theorem dMod_isFound_28 : decode bMod_isFound 28 = .ok (.if_icmp .ne 7, 3) := by decide +kernel
theorem dMod_isFound_31 : decode bMod_isFound 31 = .ok (.iconst 1, 1) := by decide +kernel
theorem dMod_isFound_32 : decode bMod_isFound 32 = .ok (.goto 4, 3) := by decide +kernel
theorem dMod_isFound_35 : decode bMod_isFound 35 = .ok (.iconst 0, 1) := by decide +kernel
theorem dMod_isFound_36 : decode bMod_isFound 36 = .ok (.istore_n 2, 1) := by decide +kernel
theorem dMod_isFound_37 : decode bMod_isFound 37 = .ok (.iconst 1, 1) := by decide +kernel
theorem dMod_isFound_38 : decode bMod_isFound 38 = .ok (.istore_n 3, 1) := by decide +kernel
theorem dMod_isFound_39 : decode bMod_isFound 39 = .ok (.iload_n 3, 1) := by decide +kernel
theorem dMod_isFound_40 : decode bMod_isFound 40 = .ok (.iload_n 1, 1) := by decide +kernel
theorem dMod_isFound_41 : decode bMod_isFound 41 = .ok (.if_icmp .ge 46, 3) := by decide +kernel
theorem dMod_isFound_44 : decode bMod_isFound 44 = .ok (.iload_n 2, 1) := by decide +kernel
theorem dMod_isFound_45 : decode bMod_isFound 45 = .ok (.ifCond .eq 34, 3) := by decide +kernel
theorem dMod_isFound_48 : decode bMod_isFound 48 = .ok (.aload_n 0, 1) := by decide +kernel
theorem dMod_isFound_49 : decode bMod_isFound 49 = .ok (.getfield 41, 3) := by decide +kernel
theorem dMod_isFound_52 : decode bMod_isFound 52 = .ok (.aload_n 0, 1) := by decide +kernel
theorem dMod_isFound_53 : decode bMod_isFound 53 = .ok (.getfield 104, 3) := by decide +kernel
theorem dMod_isFound_56 : decode bMod_isFound 56 = .ok (.iload_n 3, 1) := by decide +kernel
theorem dMod_isFound_57 : decode bMod_isFound 57 = .ok (.iconst 1, 1) := by decide +kernel
theorem dMod_isFound_58 : decode bMod_isFound 58 = .ok (.isub, 1) := by decide +kernel
theorem dMod_isFound_59 : decode bMod_isFound 59 = .ok (.iaload, 1) := by decide +kernel
theorem dMod_isFound_60 : decode bMod_isFound 60 = .ok (.iaload, 1) := by decide +kernel
theorem dMod_isFound_61 : decode bMod_isFound 61 = .ok (.aload_n 0, 1) := by decide +kernel
theorem dMod_isFound_62 : decode bMod_isFound 62 = .ok (.getfield 38, 3) := by decide +kernel
theorem dMod_isFound_65 : decode bMod_isFound 65 = .ok (.aload_n 0, 1) := by decide +kernel
theorem dMod_isFound_66 : decode bMod_isFound 66 = .ok (.getfield 104, 3) := by decide +kernel
theorem dMod_isFound_69 : decode bMod_isFound 69 = .ok (.iload_n 3, 1) := by decide +kernel
theorem dMod_isFound_70 : decode bMod_isFound 70 = .ok (.iaload, 1) := by decide +kernel
theorem dMod_isFound_71 : decode bMod_isFound 71 = .ok (.iaload, 1) := by decide +kernel
theorem dMod_isFound_72 : decode bMod_isFound 72 = .ok (.if_icmp .ne 7, 3) := by decide +kernel
theorem dMod_isFound_75 : decode bMod_isFound 75 = .ok (.iconst 1, 1) := by decide +kernel
theorem dMod_isFound_76 : decode bMod_isFound 76 = .ok (.goto 4, 3) := by decide +kernel
theorem dMod_isFound_79 : decode bMod_isFound 79 = .ok (.iconst 0, 1) := by decide +kernel
theorem dMod_isFound_80 : decode bMod_isFound 80 = .ok (.istore_n 2, 1) := by decide +kernel
theorem dMod_isFound_81 : decode bMod_isFound 81 = .ok (.iinc 3 1, 3) := by decide +kernel
theorem dMod_isFound_84 : decode bMod_isFound 84 = .ok (.goto (-45), 3) := by decide +kernel
theorem dMod_isFound_87 : decode bMod_isFound 87 = .ok (.iconst 0, 1) := by decide +kernel
theorem dMod_isFound_88 : decode bMod_isFound 88 = .ok (.istore_n 3, 1) := by decide +kernel
theorem dMod_isFound_89 : decode bMod_isFound 89 = .ok (.iconst 0, 1) := by decide +kernel
theorem dMod_isFound_90 : decode bMod_isFound 90 = .ok (.istore 4, 2) := by decide +kernel
theorem dMod_isFound_92 : decode bMod_isFound 92 = .ok (.iconst 0, 1) := by decide +kernel
theorem dMod_isFound_93 : decode bMod_isFound 93 = .ok (.istore 5, 2) := by decide +kernel
theorem dMod_isFound_95 : decode bMod_isFound 95 = .ok (.iconst 0, 1) := by decide +kernel
theorem dMod_isFound_96 : decode bMod_isFound 96 = .ok (.istore 6, 2) := by decide +kernel
theorem dMod_isFound_98 : decode bMod_isFound 98 = .ok (.iload 6, 2) := by decide +kernel
theorem dMod_isFound_100 : decode bMod_isFound 100 = .ok (.iload_n 1, 1) := by decide +kernel
theorem dMod_isFound_101 : decode bMod_isFound 101 = .ok (.if_icmp .ge 111, 3) := by decide +kernel
theorem dMod_isFound_104 : decode bMod_isFound 104 = .ok (.iload_n 2, 1) := by decide +kernel
theorem dMod_isFound_105 : decode bMod_isFound 105 = .ok (.ifCond .eq 107, 3) := by decide +kernel
theorem dMod_isFound_108 : decode bMod_isFound 108 = .ok (.aload_n 0, 1) := by decide +kernel
theorem dMod_isFound_109 : decode bMod_isFound 109 = .ok (.getfield 104, 3) := by decide +kernel
theorem dMod_isFound_112 : decode bMod_isFound 112 = .ok (.iload 6, 2) := by decide +kernel
theorem dMod_isFound_114 : decode bMod_isFound 114 = .ok (.iaload, 1) := by decide +kernel
theorem dMod_isFound_115 : decode bMod_isFound 115 = .ok (.istore 7, 2) := by decide +kernel
theorem dMod_isFound_117 : decode bMod_isFound 117 = .ok (.iload_n 3, 1) := by decide +kernel
theorem dMod_isFound_118 : decode bMod_isFound 118 = .ok (.aload_n 0, 1) := by decide +kernel
theorem dMod_isFound_119 : decode bMod_isFound 119 = .ok (.getfield 44, 3) := by decide +kernel
theorem dMod_isFound_122 : decode bMod_isFound 122 = .ok (.iload 7, 2) := by decide +kernel
theorem dMod_isFound_124 : decode bMod_isFound 124 = .ok (.iaload, 1) := by decide +kernel
theorem dMod_isFound_125 : decode bMod_isFound 125 = .ok (.iadd, 1) := by decide +kernel
theorem dMod_isFound_126 : decode bMod_isFound 126 = .ok (.iconst 4, 1) := by decide +kernel
theorem dMod_isFound_127 : decode bMod_isFound 127 = .ok (.if_icmp .gt 7, 3) := by decide +kernel
theorem dMod_isFound_130 : decode bMod_isFound 130 = .ok (.iconst 1, 1) := by decide +kernel
theorem dMod_isFound_131 : decode bMod_isFound 131 = .ok (.goto 4, 3) := by decide +kernel
theorem dMod_isFound_134 : decode bMod_isFound 134 = .ok (.iconst 0, 1) := by decide +kernel
theorem dMod_isFound_135 : decode bMod_isFound 135 = .ok (.istore_n 2, 1) := by decide +kernel
theorem dMod_isFound_136 : decode bMod_isFound 136 = .ok (.iconst 0, 1) := by decide +kernel
theorem dMod_isFound_137 : decode bMod_isFound 137 = .ok (.istore 8, 2) := by decide +kernel
theorem dMod_isFound_139 : decode bMod_isFound 139 = .ok (.iload 8, 2) := by decide +kernel
theorem dMod_isFound_141 : decode bMod_isFound 141 = .ok (.aload_n 0, 1) := by decide +kernel
theorem dMod_isFound_142 : decode bMod_isFound 142 = .ok (.getfield 44, 3) := by decide +kernel
theorem dMod_isFound_145 : decode bMod_isFound 145 = .ok (.iload 7, 2) := by decide +kernel
theorem dMod_isFound_147 : decode bMod_isFound 147 = .ok (.iaload, 1) := by decide +kernel
theorem dMod_isFound_148 : decode bMod_isFound 148 = .ok (.if_icmp .ge 48, 3) := by decide +kernel
theorem dMod_isFound_151 : decode bMod_isFound 151 = .ok (.iload_n 2, 1) := by decide +kernel
theorem dMod_isFound_152 : decode bMod_isFound 152 = .ok (.ifCond .eq 44, 3) := by decide +kernel
theorem dMod_isFound_155 : decode bMod_isFound 155 = .ok (.aload_n 0, 1) := by decide +kernel
theorem dMod_isFound_156 : decode bMod_isFound 156 = .ok (.getfield 86, 3) := by decide +kernel
theorem dMod_isFound_159 : decode bMod_isFound 159 = .ok (.iload_n 3, 1) := by decide +kernel
theorem dMod_isFound_160 : decode bMod_isFound 160 = .ok (.aload_n 0, 1) := by decide +kernel
theorem dMod_isFound_161 : decode bMod_isFound 161 = .ok (.getfield 47, 3) := by decide +kernel
theorem dMod_isFound_164 : decode bMod_isFound 164 = .ok (.iconst 3, 1) := by decide +kernel
theorem dMod_isFound_165 : decode bMod_isFound 165 = .ok (.iload 7, 2) := by decide +kernel
theorem dMod_isFound_167 : decode bMod_isFound 167 = .ok (.imul, 1) := by decide +kernel
theorem dMod_isFound_168 : decode bMod_isFound 168 = .ok (.iload 8, 2) := by decide +kernel
theorem dMod_isFound_170 : decode bMod_isFound 170 = .ok (.iadd, 1) := by decide +kernel
theorem dMod_isFound_171 : decode bMod_isFound 171 = .ok (.iaload, 1) := by decide +kernel
theorem dMod_isFound_172 : decode bMod_isFound 172 = .ok (.iastore, 1) := by decide +kernel
theorem dMod_isFound_173 : decode bMod_isFound 173 = .ok (.bipush 8, 2) := by decide +kernel
theorem dMod_isFound_175 : decode bMod_isFound 175 = .ok (.iload 4, 2) := by decide +kernel
theorem dMod_isFound_177 : decode bMod_isFound 177 = .ok (.imul, 1) := by decide +kernel
theorem dMod_isFound_178 : decode bMod_isFound 178 = .ok (.aload_n 0, 1) := by decide +kernel
theorem dMod_isFound_179 : decode bMod_isFound 179 = .ok (.getfield 86, 3) := by decide +kernel
theorem dMod_isFound_182 : decode bMod_isFound 182 = .ok (.iload_n 3, 1) := by decide +kernel
theorem dMod_isFound_183 : decode bMod_isFound 183 = .ok (.iaload, 1) := by decide +kernel
theorem dMod_isFound_184 : decode bMod_isFound 184 = .ok (.iadd, 1) := by decide +kernel
theorem dMod_isFound_185 : decode bMod_isFound 185 = .ok (.istore 4, 2) := by decide +kernel
theorem dMod_isFound_187 : decode bMod_isFound 187 = .ok (.iinc 3 1, 3) := by decide +kernel
theorem dMod_isFound_190 : decode bMod_isFound 190 = .ok (.iinc 8 1, 3) := by decide +kernel
theorem dMod_isFound_193 : decode bMod_isFound 193 = .ok (.goto (-54), 3) := by decide +kernel
theorem dMod_isFound_196 : decode bMod_isFound 196 = .ok (.bipush 8, 2) := by decide +kernel
theorem dMod_isFound_198 : decode bMod_isFound 198 = .ok (.iload 5, 2) := by decide +kernel
theorem dMod_isFound_200 : decode bMod_isFound 200 = .ok (.imul, 1) := by decide +kernel
theorem dMod_isFound_201 : decode bMod_isFound 201 = .ok (.iload 7, 2) := by decide +kernel
theorem dMod_isFound_203 : decode bMod_isFound 203 = .ok (.iadd, 1) := by decide +kernel
theorem dMod_isFound_204 : decode bMod_isFound 204 = .ok (.istore 5, 2) := by decide +kernel
theorem dMod_isFound_206 : decode bMod_isFound 206 = .ok (.iinc 6 1, 3) := by decide +kernel
theorem dMod_isFound_209 : decode bMod_isFound 209 = .ok (.goto (-111), 3) := by decide +kernel
theorem dMod_isFound_212 : decode bMod_isFound 212 = .ok (.aload_n 0, 1) := by decide +kernel
theorem dMod_isFound_213 : decode bMod_isFound 213 = .ok (.iload_n 3, 1) := by decide +kernel
theorem dMod_isFound_214 : decode bMod_isFound 214 = .ok (.putfield 153, 3) := by decide +kernel
theorem dMod_isFound_217 : decode bMod_isFound 217 = .ok (.aload_n 0, 1) := by decide +kernel
theorem dMod_isFound_218 : decode bMod_isFound 218 = .ok (.getfield 68, 3) := by decide +kernel
theorem dMod_isFound_221 : decode bMod_isFound 221 = .ok (.aload_n 0, 1) := by decide +kernel
theorem dMod_isFound_222 : decode bMod_isFound 222 = .ok (.getfield 181, 3) := by decide +kernel
theorem dMod_isFound_225 : decode bMod_isFound 225 = .ok (.iload_n 3, 1) := by decide +kernel
theorem dMod_isFound_226 : decode bMod_isFound 226 = .ok (.iastore, 1) := by decide +kernel
theorem dMod_isFound_227 : decode bMod_isFound 227 = .ok (.aload_n 0, 1) := by decide +kernel
theorem dMod_isFound_228 : decode bMod_isFound 228 = .ok (.getfield 71, 3) := by decide +kernel
theorem dMod_isFound_231 : decode bMod_isFound 231 = .ok (.aload_n 0, 1) := by decide +kernel
theorem dMod_isFound_232 : decode bMod_isFound 232 = .ok (.getfield 181, 3) := by decide +kernel
theorem dMod_isFound_235 : decode bMod_isFound 235 = .ok (.iload 4, 2) := by decide +kernel
theorem dMod_isFound_237 : decode bMod_isFound 237 = .ok (.iastore, 1) := by decide +kernel
theorem dMod_isFound_238 : decode bMod_isFound 238 = .ok (.aload_n 0, 1) := by decide +kernel
theorem dMod_isFound_239 : decode bMod_isFound 239 = .ok (.getfield 74, 3) := by decide +kernel
theorem dMod_isFound_242 : decode bMod_isFound 242 = .ok (.aload_n 0, 1) := by decide +kernel
theorem dMod_isFound_243 : decode bMod_isFound 243 = .ok (.getfield 181, 3) := by decide +kernel
theorem dMod_isFound_246 : decode bMod_isFound 246 = .ok (.iload_n 1, 1) := by decide +kernel
theorem dMod_isFound_247 : decode bMod_isFound 247 = .ok (.iastore, 1) := by decide +kernel
theorem dMod_isFound_248 : decode bMod_isFound 248 = .ok (.aload_n 0, 1) := by decide +kernel
theorem dMod_isFound_249 : decode bMod_isFound 249 = .ok (.getfield 77, 3) := by decide +kernel
theorem dMod_isFound_252 : decode bMod_isFound 252 = .ok (.aload_n 0, 1) := by decide +kernel
theorem dMod_isFound_253 : decode bMod_isFound 253 = .ok (.getfield 181, 3) := by decide +kernel
theorem dMod_isFound_256 : decode bMod_isFound 256 = .ok (.iload 5, 2) := by decide +kernel
theorem dMod_isFound_258 : decode bMod_isFound 258 = .ok (.iastore, 1) := by decide +kernel
theorem dMod_isFound_259 : decode bMod_isFound 259 = .ok (.iload_n 2, 1) := by decide +kernel
theorem dMod_isFound_260 : decode bMod_isFound 260 = .ok (.ifCond .eq 14, 3) := by decide +kernel
theorem dMod_isFound_263 : decode bMod_isFound 263 = .ok (.aload_n 0, 1) := by decide +kernel
theorem dMod_isFound_264 : decode bMod_isFound 264 = .ok (.invokevirtual 178, 3) := by decide +kernel
theorem dMod_isFound_267 : decode bMod_isFound 267 = .ok (.ifCond .eq 7, 3) := by decide +kernel
theorem dMod_isFound_270 : decode bMod_isFound 270 = .ok (.iconst 1, 1) := by decide +kernel
theorem dMod_isFound_271 : decode bMod_isFound 271 = .ok (.goto 4, 3) := by decide +kernel
theorem dMod_isFound_274 : decode bMod_isFound 274 = .ok (.iconst 0, 1) := by decide +kernel
theorem dMod_isFound_275 : decode bMod_isFound 275 = .ok (.ireturn, 1) := by decide +kernel
theorem dMod_analyse_0 : decode bMod_analyse 0 = .ok (.aload_n 0, 1) := by decide +kernel
theorem dMod_analyse_1 : decode bMod_analyse 1 = .ok (.iconst 0, 1) := by decide +kernel
theorem dMod_analyse_2 : decode bMod_analyse 2 = .ok (.putfield 107, 3) := by decide +kernel
theorem dMod_analyse_5 : decode bMod_analyse 5 = .ok (.aload_n 0, 1) := by decide +kernel
theorem dMod_analyse_6 : decode bMod_analyse 6 = .ok (.aload_n 0, 1) := by decide +kernel
theorem dMod_analyse_7 : decode bMod_analyse 7 = .ok (.getfield 53, 3) := by decide +kernel
theorem dMod_analyse_10 : decode bMod_analyse 10 = .ok (.iconst 0, 1) := by decide +kernel
theorem dMod_analyse_11 : decode bMod_analyse 11 = .ok (.iconst 0, 1) := by decide +kernel
theorem dMod_analyse_12 : decode bMod_analyse 12 = .ok (.iconst 5, 1) := by decide +kernel
theorem dMod_analyse_13 : decode bMod_analyse 13 = .ok (.aload_n 0, 1) := by decide +kernel
theorem dMod_analyse_14 : decode bMod_analyse 14 = .ok (.getfield 50, 3) := by decide +kernel
theorem dMod_analyse_17 : decode bMod_analyse 17 = .ok (.iconst 1, 1) := by decide +kernel
theorem dMod_analyse_18 : decode bMod_analyse 18 = .ok (.iaload, 1) := by decide +kernel
theorem dMod_analyse_19 : decode bMod_analyse 19 = .ok (.invokevirtual 174, 3) := by decide +kernel
theorem dMod_analyse_22 : decode bMod_analyse 22 = .ok (.aload_n 0, 1) := by decide +kernel
theorem dMod_analyse_23 : decode bMod_analyse 23 = .ok (.iconst 0, 1) := by decide +kernel
theorem dMod_analyse_24 : decode bMod_analyse 24 = .ok (.putfield 181, 3) := by decide +kernel
theorem dMod_analyse_27 : decode bMod_analyse 27 = .ok (.iconst 1, 1) := by decide +kernel
theorem dMod_analyse_28 : decode bMod_analyse 28 = .ok (.istore_n 1, 1) := by decide +kernel
theorem dMod_analyse_29 : decode bMod_analyse 29 = .ok (.iload_n 1, 1) := by decide +kernel
theorem dMod_analyse_30 : decode bMod_analyse 30 = .ok (.iconst 4, 1) := by decide +kernel
theorem dMod_analyse_31 : decode bMod_analyse 31 = .ok (.if_icmp .gt 115, 3) := by decide +kernel
theorem dMod_analyse_34 : decode bMod_analyse 34 = .ok (.aload_n 0, 1) := by decide +kernel
theorem dMod_analyse_35 : decode bMod_analyse 35 = .ok (.getfield 128, 3) := by decide +kernel
theorem dMod_analyse_38 : decode bMod_analyse 38 = .ok (.ifCond .le 108, 3) := by decide +kernel
theorem dMod_analyse_41 : decode bMod_analyse 41 = .ok (.iconst 1, 1) := by decide +kernel
theorem dMod_analyse_42 : decode bMod_analyse 42 = .ok (.istore_n 2, 1) := by decide +kernel
theorem dMod_analyse_43 : decode bMod_analyse 43 = .ok (.iconst 0, 1) := by decide +kernel
theorem dMod_analyse_44 : decode bMod_analyse 44 = .ok (.istore_n 3, 1) := by decide +kernel
theorem dMod_analyse_45 : decode bMod_analyse 45 = .ok (.iload_n 3, 1) := by decide +kernel
theorem dMod_analyse_46 : decode bMod_analyse 46 = .ok (.iload_n 1, 1) := by decide +kernel
theorem dMod_analyse_47 : decode bMod_analyse 47 = .ok (.if_icmp .ge 16, 3) := by decide +kernel
theorem dMod_analyse_50 : decode bMod_analyse 50 = .ok (.iload_n 2, 1) := by decide +kernel
theorem dMod_analyse_51 : decode bMod_analyse 51 = .ok (.aload_n 0, 1) := by decide +kernel
theorem dMod_analyse_52 : decode bMod_analyse 52 = .ok (.getfield 128, 3) := by decide +kernel
theorem dMod_analyse_55 : decode bMod_analyse 55 = .ok (.imul, 1) := by decide +kernel
theorem dMod_analyse_56 : decode bMod_analyse 56 = .ok (.istore_n 2, 1) := by decide +kernel
theorem dMod_analyse_57 : decode bMod_analyse 57 = .ok (.iinc 3 1, 3) := by decide +kernel
theorem dMod_analyse_60 : decode bMod_analyse 60 = .ok (.goto (-15), 3) := by decide +kernel
theorem dMod_analyse_63 : decode bMod_analyse 63 = .ok (.iconst 0, 1) := by decide +kernel
theorem dMod_analyse_64 : decode bMod_analyse 64 = .ok (.istore_n 3, 1) := by decide +kernel
theorem dMod_analyse_65 : decode bMod_analyse 65 = .ok (.iload_n 3, 1) := by decide +kernel
theorem dMod_analyse_66 : decode bMod_analyse 66 = .ok (.iload_n 2, 1) := by decide +kernel
theorem dMod_analyse_67 : decode bMod_analyse 67 = .ok (.if_icmp .ge 73, 3) := by decide +kernel
theorem dMod_analyse_70 : decode bMod_analyse 70 = .ok (.iload_n 3, 1) := by decide +kernel
theorem dMod_analyse_71 : decode bMod_analyse 71 = .ok (.istore 4, 2) := by decide +kernel
theorem dMod_analyse_73 : decode bMod_analyse 73 = .ok (.iload_n 1, 1) := by decide +kernel
theorem dMod_analyse_74 : decode bMod_analyse 74 = .ok (.iconst 1, 1) := by decide +kernel
theorem dMod_analyse_75 : decode bMod_analyse 75 = .ok (.isub, 1) := by decide +kernel
theorem dMod_analyse_76 : decode bMod_analyse 76 = .ok (.istore 5, 2) := by decide +kernel
theorem dMod_analyse_78 : decode bMod_analyse 78 = .ok (.iload 5, 2) := by decide +kernel
theorem dMod_analyse_80 : decode bMod_analyse 80 = .ok (.ifCond .lt 32, 3) := by decide +kernel
theorem dMod_analyse_83 : decode bMod_analyse 83 = .ok (.aload_n 0, 1) := by decide +kernel
theorem dMod_analyse_84 : decode bMod_analyse 84 = .ok (.getfield 104, 3) := by decide +kernel
theorem dMod_analyse_87 : decode bMod_analyse 87 = .ok (.iload 5, 2) := by decide +kernel
theorem dMod_analyse_89 : decode bMod_analyse 89 = .ok (.iload 4, 2) := by decide +kernel
theorem dMod_analyse_91 : decode bMod_analyse 91 = .ok (.aload_n 0, 1) := by decide +kernel
theorem dMod_analyse_92 : decode bMod_analyse 92 = .ok (.getfield 128, 3) := by decide +kernel
theorem dMod_analyse_95 : decode bMod_analyse 95 = .ok (.irem, 1) := by decide +kernel
theorem dMod_analyse_96 : decode bMod_analyse 96 = .ok (.iastore, 1) := by decide +kernel
theorem dMod_analyse_97 : decode bMod_analyse 97 = .ok (.iload 4, 2) := by decide +kernel
theorem dMod_analyse_99 : decode bMod_analyse 99 = .ok (.aload_n 0, 1) := by decide +kernel
theorem dMod_analyse_100 : decode bMod_analyse 100 = .ok (.getfield 128, 3) := by decide +kernel
theorem dMod_analyse_103 : decode bMod_analyse 103 = .ok (.idiv, 1) := by decide +kernel
theorem dMod_analyse_104 : decode bMod_analyse 104 = .ok (.istore 4, 2) := by decide +kernel
theorem dMod_analyse_106 : decode bMod_analyse 106 = .ok (.iinc 5 (-1), 3) := by decide +kernel
theorem dMod_analyse_109 : decode bMod_analyse 109 = .ok (.goto (-31), 3) := by decide +kernel
theorem dMod_analyse_112 : decode bMod_analyse 112 = .ok (.aload_n 0, 1) := by decide +kernel
theorem dMod_analyse_113 : decode bMod_analyse 113 = .ok (.iload_n 1, 1) := by decide +kernel
theorem dMod_analyse_114 : decode bMod_analyse 114 = .ok (.invokevirtual 195, 3) := by decide +kernel
theorem dMod_analyse_117 : decode bMod_analyse 117 = .ok (.ifCond .eq 17, 3) := by decide +kernel
theorem dMod_analyse_120 : decode bMod_analyse 120 = .ok (.aload_n 0, 1) := by decide +kernel
theorem dMod_analyse_121 : decode bMod_analyse 121 = .ok (.invokevirtual 188, 3) := by decide +kernel
theorem dMod_analyse_124 : decode bMod_analyse 124 = .ok (.ifCond .ne 10, 3) := by decide +kernel
theorem dMod_analyse_127 : decode bMod_analyse 127 = .ok (.aload_n 0, 1) := by decide +kernel
theorem dMod_analyse_128 : decode bMod_analyse 128 = .ok (.iconst 1, 1) := by decide +kernel
theorem dMod_analyse_129 : decode bMod_analyse 129 = .ok (.putfield 107, 3) := by decide +kernel
theorem dMod_analyse_132 : decode bMod_analyse 132 = .ok (.iconst 0, 1) := by decide +kernel
theorem dMod_analyse_133 : decode bMod_analyse 133 = .ok (.ireturn, 1) := by decide +kernel
theorem dMod_analyse_134 : decode bMod_analyse 134 = .ok (.iinc 3 1, 3) := by decide +kernel
theorem dMod_analyse_137 : decode bMod_analyse 137 = .ok (.goto (-72), 3) := by decide +kernel
theorem dMod_analyse_140 : decode bMod_analyse 140 = .ok (.iinc 1 1, 3) := by decide +kernel
theorem dMod_analyse_143 : decode bMod_analyse 143 = .ok (.goto (-114), 3) := by decide +kernel
theorem dMod_analyse_146 : decode bMod_analyse 146 = .ok (.aload_n 0, 1) := by decide +kernel
theorem dMod_analyse_147 : decode bMod_analyse 147 = .ok (.invokevirtual 191, 3) := by decide +kernel
theorem dMod_analyse_150 : decode bMod_analyse 150 = .ok (.ireturn, 1) := by decide +kernel
theorem dMod_length_0 : decode bMod_length 0 = .ok (.aload_n 0, 1) := by decide +kernel
theorem dMod_length_1 : decode bMod_length 1 = .ok (.iload_n 1, 1) := by decide +kernel
theorem dMod_length_2 : decode bMod_length 2 = .ok (.ifCond .lt 11, 3) := by decide +kernel
theorem dMod_length_5 : decode bMod_length 5 = .ok (.iload_n 1, 1) := by decide +kernel
theorem dMod_length_6 : decode bMod_length 6 = .ok (.aload_n 0, 1) := by decide +kernel
theorem dMod_length_7 : decode bMod_length 7 = .ok (.getfield 118, 3) := by decide +kernel
theorem dMod_length_10 : decode bMod_length 10 = .ok (.if_icmp .lt 7, 3) := by decide +kernel
theorem dMod_length_13 : decode bMod_length 13 = .ok (.iconst 1, 1) := by decide +kernel
theorem dMod_length_14 : decode bMod_length 14 = .ok (.goto 4, 3) := by decide +kernel
theorem dMod_length_17 : decode bMod_length 17 = .ok (.iconst 0, 1) := by decide +kernel
theorem dMod_length_18 : decode bMod_length 18 = .ok (.putfield 107, 3) := by decide +kernel
theorem dMod_length_21 : decode bMod_length 21 = .ok (.aload_n 0, 1) := by decide +kernel
theorem dMod_length_22 : decode bMod_length 22 = .ok (.getfield 107, 3) := by decide +kernel
theorem dMod_length_25 : decode bMod_length 25 = .ok (.ifCond .eq 7, 3) := by decide +kernel
theorem dMod_length_28 : decode bMod_length 28 = .ok (.iconst 0, 1) := by decide +kernel
theorem dMod_length_29 : decode bMod_length 29 = .ok (.goto 22, 3) := by decide +kernel
theorem dMod_length_32 : decode bMod_length 32 = .ok (.iload_n 2, 1) := by decide +kernel
theorem dMod_length_33 : decode bMod_length 33 = .ok (.ifCond .eq 12, 3) := by decide +kernel
theorem dMod_length_36 : decode bMod_length 36 = .ok (.aload_n 0, 1) := by decide +kernel
theorem dMod_length_37 : decode bMod_length 37 = .ok (.getfield 62, 3) := by decide +kernel
theorem dMod_length_40 : decode bMod_length 40 = .ok (.iload_n 1, 1) := by decide +kernel
theorem dMod_length_41 : decode bMod_length 41 = .ok (.iaload, 1) := by decide +kernel
theorem dMod_length_42 : decode bMod_length 42 = .ok (.goto 9, 3) := by decide +kernel
theorem dMod_length_45 : decode bMod_length 45 = .ok (.aload_n 0, 1) := by decide +kernel
theorem dMod_length_46 : decode bMod_length 46 = .ok (.getfield 56, 3) := by decide +kernel
theorem dMod_length_49 : decode bMod_length 49 = .ok (.iload_n 1, 1) := by decide +kernel
theorem dMod_length_50 : decode bMod_length 50 = .ok (.iaload, 1) := by decide +kernel
theorem dMod_length_51 : decode bMod_length 51 = .ok (.ireturn, 1) := by decide +kernel
theorem dMod_result_0 : decode bMod_result 0 = .ok (.iload_n 1, 1) := by decide +kernel
theorem dMod_result_1 : decode bMod_result 1 = .ok (.ifCond .lt 15, 3) := by decide +kernel
theorem dMod_result_4 : decode bMod_result 4 = .ok (.iload_n 1, 1) := by decide +kernel
theorem dMod_result_5 : decode bMod_result 5 = .ok (.aload_n 0, 1) := by decide +kernel
theorem dMod_result_6 : decode bMod_result 6 = .ok (.getfield 118, 3) := by decide +kernel
theorem dMod_result_9 : decode bMod_result 9 = .ok (.if_icmp .ge 7, 3) := by decide +kernel
theorem dMod_result_12 : decode bMod_result 12 = .ok (.iload_n 2, 1) := by decide +kernel
theorem dMod_result_13 : decode bMod_result 13 = .ok (.ifCond .ge 7, 3) := by decide +kernel
theorem dMod_result_16 : decode bMod_result 16 = .ok (.iconst 1, 1) := by decide +kernel
theorem dMod_result_17 : decode bMod_result 17 = .ok (.goto 4, 3) := by decide +kernel
theorem dMod_result_20 : decode bMod_result 20 = .ok (.iconst 0, 1) := by decide +kernel
theorem dMod_result_21 : decode bMod_result 21 = .ok (.istore 4, 2) := by decide +kernel
theorem dMod_result_23 : decode bMod_result 23 = .ok (.aload_n 0, 1) := by decide +kernel
theorem dMod_result_24 : decode bMod_result 24 = .ok (.iload 4, 2) := by decide +kernel
theorem dMod_result_26 : decode bMod_result 26 = .ok (.ifCond .eq 7, 3) := by decide +kernel
theorem dMod_result_29 : decode bMod_result 29 = .ok (.iconst 1, 1) := by decide +kernel
theorem dMod_result_30 : decode bMod_result 30 = .ok (.goto 31, 3) := by decide +kernel
theorem dMod_result_33 : decode bMod_result 33 = .ok (.iload_n 2, 1) := by decide +kernel
theorem dMod_result_34 : decode bMod_result 34 = .ok (.iload_n 3, 1) := by decide +kernel
theorem dMod_result_35 : decode bMod_result 35 = .ok (.ifCond .eq 12, 3) := by decide +kernel
theorem dMod_result_38 : decode bMod_result 38 = .ok (.aload_n 0, 1) := by decide +kernel
theorem dMod_result_39 : decode bMod_result 39 = .ok (.getfield 62, 3) := by decide +kernel
theorem dMod_result_42 : decode bMod_result 42 = .ok (.iload_n 1, 1) := by decide +kernel
theorem dMod_result_43 : decode bMod_result 43 = .ok (.iaload, 1) := by decide +kernel
theorem dMod_result_44 : decode bMod_result 44 = .ok (.goto 9, 3) := by decide +kernel
theorem dMod_result_47 : decode bMod_result 47 = .ok (.aload_n 0, 1) := by decide +kernel
theorem dMod_result_48 : decode bMod_result 48 = .ok (.getfield 56, 3) := by decide +kernel
theorem dMod_result_51 : decode bMod_result 51 = .ok (.iload_n 1, 1) := by decide +kernel
theorem dMod_result_52 : decode bMod_result 52 = .ok (.iaload, 1) := by decide +kernel
theorem dMod_result_53 : decode bMod_result 53 = .ok (.if_icmp .lt 7, 3) := by decide +kernel
theorem dMod_result_56 : decode bMod_result 56 = .ok (.iconst 1, 1) := by decide +kernel
theorem dMod_result_57 : decode bMod_result 57 = .ok (.goto 4, 3) := by decide +kernel
theorem dMod_result_60 : decode bMod_result 60 = .ok (.iconst 0, 1) := by decide +kernel
theorem dMod_result_61 : decode bMod_result 61 = .ok (.putfield 107, 3) := by decide +kernel
theorem dMod_result_64 : decode bMod_result 64 = .ok (.aload_n 0, 1) := by decide +kernel
theorem dMod_result_65 : decode bMod_result 65 = .ok (.getfield 107, 3) := by decide +kernel
theorem dMod_result_68 : decode bMod_result 68 = .ok (.ifCond .eq 5, 3) := by decide +kernel
theorem dMod_result_71 : decode bMod_result 71 = .ok (.iconst 0, 1) := by decide +kernel
theorem dMod_result_72 : decode bMod_result 72 = .ok (.ireturn, 1) := by decide +kernel
theorem dMod_result_73 : decode bMod_result 73 = .ok (.iload_n 3, 1) := by decide +kernel
theorem dMod_result_74 : decode bMod_result 74 = .ok (.ifCond .eq 12, 3) := by decide +kernel
theorem dMod_result_77 : decode bMod_result 77 = .ok (.aload_n 0, 1) := by decide +kernel
theorem dMod_result_78 : decode bMod_result 78 = .ok (.getfield 62, 3) := by decide +kernel
theorem dMod_result_81 : decode bMod_result 81 = .ok (.iload_n 1, 1) := by decide +kernel
theorem dMod_result_82 : decode bMod_result 82 = .ok (.iaload, 1) := by decide +kernel
theorem dMod_result_83 : decode bMod_result 83 = .ok (.goto 9, 3) := by decide +kernel
theorem dMod_result_86 : decode bMod_result 86 = .ok (.aload_n 0, 1) := by decide +kernel
theorem dMod_result_87 : decode bMod_result 87 = .ok (.getfield 56, 3) := by decide +kernel
theorem dMod_result_90 : decode bMod_result 90 = .ok (.iload_n 1, 1) := by decide +kernel
theorem dMod_result_91 : decode bMod_result 91 = .ok (.iaload, 1) := by decide +kernel
theorem dMod_result_92 : decode bMod_result 92 = .ok (.istore 5, 2) := by decide +kernel
theorem dMod_result_94 : decode bMod_result 94 = .ok (.iload_n 3, 1) := by decide +kernel
theorem dMod_result_95 : decode bMod_result 95 = .ok (.ifCond .eq 12, 3) := by decide +kernel
theorem dMod_result_98 : decode bMod_result 98 = .ok (.aload_n 0, 1) := by decide +kernel
theorem dMod_result_99 : decode bMod_result 99 = .ok (.getfield 65, 3) := by decide +kernel
theorem dMod_result_102 : decode bMod_result 102 = .ok (.iload_n 1, 1) := by decide +kernel
theorem dMod_result_103 : decode bMod_result 103 = .ok (.iaload, 1) := by decide +kernel
theorem dMod_result_104 : decode bMod_result 104 = .ok (.goto 9, 3) := by decide +kernel
theorem dMod_result_107 : decode bMod_result 107 = .ok (.aload_n 0, 1) := by decide +kernel
theorem dMod_result_108 : decode bMod_result 108 = .ok (.getfield 59, 3) := by decide +kernel
theorem dMod_result_111 : decode bMod_result 111 = .ok (.iload_n 1, 1) := by decide +kernel
theorem dMod_result_112 : decode bMod_result 112 = .ok (.iaload, 1) := by decide +kernel
theorem dMod_result_113 : decode bMod_result 113 = .ok (.iconst 3, 1) := by decide +kernel
theorem dMod_result_114 : decode bMod_result 114 = .ok (.iload 5, 2) := by decide +kernel
theorem dMod_result_116 : decode bMod_result 116 = .ok (.iconst 1, 1) := by decide +kernel
theorem dMod_result_117 : decode bMod_result 117 = .ok (.isub, 1) := by decide +kernel
theorem dMod_result_118 : decode bMod_result 118 = .ok (.iload_n 2, 1) := by decide +kernel
theorem dMod_result_119 : decode bMod_result 119 = .ok (.isub, 1) := by decide +kernel
theorem dMod_result_120 : decode bMod_result 120 = .ok (.imul, 1) := by decide +kernel
theorem dMod_result_121 : decode bMod_result 121 = .ok (.ishr, 1) := by decide +kernel
theorem dMod_result_122 : decode bMod_result 122 = .ok (.bipush 7, 2) := by decide +kernel
theorem dMod_result_124 : decode bMod_result 124 = .ok (.iand, 1) := by decide +kernel
theorem dMod_result_125 : decode bMod_result 125 = .ok (.ireturn, 1) := by decide +kernel
theorem dMod_sample_0 : decode bMod_sample 0 = .ok (.aload_n 0, 1) := by decide +kernel
theorem dMod_sample_1 : decode bMod_sample 1 = .ok (.aload_n 0, 1) := by decide +kernel
theorem dMod_sample_2 : decode bMod_sample 2 = .ok (.getfield 198, 3) := by decide +kernel
theorem dMod_sample_5 : decode bMod_sample 5 = .ok (.bipush 8, 2) := by decide +kernel
theorem dMod_sample_7 : decode bMod_sample 7 = .ok (.if_icmp .ne 7, 3) := by decide +kernel
theorem dMod_sample_10 : decode bMod_sample 10 = .ok (.iconst 1, 1) := by decide +kernel
theorem dMod_sample_11 : decode bMod_sample 11 = .ok (.goto 4, 3) := by decide +kernel
theorem dMod_sample_14 : decode bMod_sample 14 = .ok (.iconst 0, 1) := by decide +kernel
theorem dMod_sample_15 : decode bMod_sample 15 = .ok (.putfield 107, 3) := by decide +kernel
theorem dMod_sample_18 : decode bMod_sample 18 = .ok (.aload_n 0, 1) := by decide +kernel
theorem dMod_sample_19 : decode bMod_sample 19 = .ok (.getfield 107, 3) := by decide +kernel
theorem dMod_sample_22 : decode bMod_sample 22 = .ok (.ifCond .eq 5, 3) := by decide +kernel
theorem dMod_sample_25 : decode bMod_sample 25 = .ok (.iconst 0, 1) := by decide +kernel
theorem dMod_sample_26 : decode bMod_sample 26 = .ok (.ireturn, 1) := by decide +kernel
theorem dMod_sample_27 : decode bMod_sample 27 = .ok (.aload_n 0, 1) := by decide +kernel
theorem dMod_sample_28 : decode bMod_sample 28 = .ok (.getfield 80, 3) := by decide +kernel
theorem dMod_sample_31 : decode bMod_sample 31 = .ok (.iconst 2, 1) := by decide +kernel
theorem dMod_sample_32 : decode bMod_sample 32 = .ok (.aload_n 0, 1) := by decide +kernel
theorem dMod_sample_33 : decode bMod_sample 33 = .ok (.getfield 198, 3) := by decide +kernel
theorem dMod_sample_36 : decode bMod_sample 36 = .ok (.imul, 1) := by decide +kernel
theorem dMod_sample_37 : decode bMod_sample 37 = .ok (.aload_n 0, 1) := by decide +kernel
theorem dMod_sample_38 : decode bMod_sample 38 = .ok (.getfield 50, 3) := by decide +kernel
theorem dMod_sample_41 : decode bMod_sample 41 = .ok (.iconst 0, 1) := by decide +kernel
theorem dMod_sample_42 : decode bMod_sample 42 = .ok (.iaload, 1) := by decide +kernel
theorem dMod_sample_43 : decode bMod_sample 43 = .ok (.iastore, 1) := by decide +kernel
theorem dMod_sample_44 : decode bMod_sample 44 = .ok (.aload_n 0, 1) := by decide +kernel
theorem dMod_sample_45 : decode bMod_sample 45 = .ok (.getfield 80, 3) := by decide +kernel
theorem dMod_sample_48 : decode bMod_sample 48 = .ok (.iconst 2, 1) := by decide +kernel
theorem dMod_sample_49 : decode bMod_sample 49 = .ok (.aload_n 0, 1) := by decide +kernel
theorem dMod_sample_50 : decode bMod_sample 50 = .ok (.getfield 198, 3) := by decide +kernel
theorem dMod_sample_53 : decode bMod_sample 53 = .ok (.imul, 1) := by decide +kernel
theorem dMod_sample_54 : decode bMod_sample 54 = .ok (.iconst 1, 1) := by decide +kernel
theorem dMod_sample_55 : decode bMod_sample 55 = .ok (.iadd, 1) := by decide +kernel
theorem dMod_sample_56 : decode bMod_sample 56 = .ok (.aload_n 0, 1) := by decide +kernel
theorem dMod_sample_57 : decode bMod_sample 57 = .ok (.getfield 50, 3) := by decide +kernel
theorem dMod_sample_60 : decode bMod_sample 60 = .ok (.iconst 1, 1) := by decide +kernel
theorem dMod_sample_61 : decode bMod_sample 61 = .ok (.iaload, 1) := by decide +kernel
theorem dMod_sample_62 : decode bMod_sample 62 = .ok (.iastore, 1) := by decide +kernel
theorem dMod_sample_63 : decode bMod_sample 63 = .ok (.iconst 0, 1) := by decide +kernel
theorem dMod_sample_64 : decode bMod_sample 64 = .ok (.istore_n 1, 1) := by decide +kernel
theorem dMod_sample_65 : decode bMod_sample 65 = .ok (.iload_n 1, 1) := by decide +kernel
theorem dMod_sample_66 : decode bMod_sample 66 = .ok (.bipush 10, 2) := by decide +kernel
theorem dMod_sample_68 : decode bMod_sample 68 = .ok (.if_icmp .ge 29, 3) := by decide +kernel
theorem dMod_sample_71 : decode bMod_sample 71 = .ok (.aload_n 0, 1) := by decide +kernel
theorem dMod_sample_72 : decode bMod_sample 72 = .ok (.getfield 83, 3) := by decide +kernel
theorem dMod_sample_75 : decode bMod_sample 75 = .ok (.bipush 10, 2) := by decide +kernel
theorem dMod_sample_77 : decode bMod_sample 77 = .ok (.aload_n 0, 1) := by decide +kernel
theorem dMod_sample_78 : decode bMod_sample 78 = .ok (.getfield 198, 3) := by decide +kernel
theorem dMod_sample_81 : decode bMod_sample 81 = .ok (.imul, 1) := by decide +kernel
theorem dMod_sample_82 : decode bMod_sample 82 = .ok (.iload_n 1, 1) := by decide +kernel
theorem dMod_sample_83 : decode bMod_sample 83 = .ok (.iadd, 1) := by decide +kernel
theorem dMod_sample_84 : decode bMod_sample 84 = .ok (.aload_n 0, 1) := by decide +kernel
theorem dMod_sample_85 : decode bMod_sample 85 = .ok (.getfield 53, 3) := by decide +kernel
theorem dMod_sample_88 : decode bMod_sample 88 = .ok (.iload_n 1, 1) := by decide +kernel
theorem dMod_sample_89 : decode bMod_sample 89 = .ok (.iaload, 1) := by decide +kernel
theorem dMod_sample_90 : decode bMod_sample 90 = .ok (.iastore, 1) := by decide +kernel
theorem dMod_sample_91 : decode bMod_sample 91 = .ok (.iinc 1 1, 3) := by decide +kernel
theorem dMod_sample_94 : decode bMod_sample 94 = .ok (.goto (-29), 3) := by decide +kernel
theorem dMod_sample_97 : decode bMod_sample 97 = .ok (.aload_n 0, 1) := by decide +kernel
theorem dMod_sample_98 : decode bMod_sample 98 = .ok (.dup, 1) := by decide +kernel
theorem dMod_sample_99 : decode bMod_sample 99 = .ok (.getfield 198, 3) := by decide +kernel
theorem dMod_sample_102 : decode bMod_sample 102 = .ok (.iconst 1, 1) := by decide +kernel
theorem dMod_sample_103 : decode bMod_sample 103 = .ok (.iadd, 1) := by decide +kernel
theorem dMod_sample_104 : decode bMod_sample 104 = .ok (.putfield 198, 3) := by decide +kernel
theorem dMod_sample_107 : decode bMod_sample 107 = .ok (.aload_n 0, 1) := by decide +kernel
theorem dMod_sample_108 : decode bMod_sample 108 = .ok (.getfield 198, 3) := by decide +kernel
theorem dMod_sample_111 : decode bMod_sample 111 = .ok (.iconst 1, 1) := by decide +kernel
theorem dMod_sample_112 : decode bMod_sample 112 = .ok (.isub, 1) := by decide +kernel
theorem dMod_sample_113 : decode bMod_sample 113 = .ok (.ireturn, 1) := by decide +kernel
theorem dMod_check_0 : decode bMod_check 0 = .ok (.aload_n 0, 1) := by decide +kernel
theorem dMod_check_1 : decode bMod_check 1 = .ok (.iconst 0, 1) := by decide +kernel
theorem dMod_check_2 : decode bMod_check 2 = .ok (.putfield 107, 3) := by decide +kernel
theorem dMod_check_5 : decode bMod_check 5 = .ok (.iconst 0, 1) := by decide +kernel
theorem dMod_check_6 : decode bMod_check 6 = .ok (.istore_n 1, 1) := by decide +kernel
theorem dMod_check_7 : decode bMod_check 7 = .ok (.iload_n 1, 1) := by decide +kernel
theorem dMod_check_8 : decode bMod_check 8 = .ok (.aload_n 0, 1) := by decide +kernel
theorem dMod_check_9 : decode bMod_check 9 = .ok (.getfield 198, 3) := by decide +kernel
theorem dMod_check_12 : decode bMod_check 12 = .ok (.if_icmp .ge 54, 3) := by decide +kernel
theorem dMod_check_15 : decode bMod_check 15 = .ok (.aload_n 0, 1) := by decide +kernel
theorem dMod_check_16 : decode bMod_check 16 = .ok (.aload_n 0, 1) := by decide +kernel
theorem dMod_check_17 : decode bMod_check 17 = .ok (.getfield 83, 3) := by decide +kernel
theorem dMod_check_20 : decode bMod_check 20 = .ok (.bipush 10, 2) := by decide +kernel
theorem dMod_check_22 : decode bMod_check 22 = .ok (.iload_n 1, 1) := by decide +kernel
theorem dMod_check_23 : decode bMod_check 23 = .ok (.imul, 1) := by decide +kernel
theorem dMod_check_24 : decode bMod_check 24 = .ok (.aload_n 0, 1) := by decide +kernel
theorem dMod_check_25 : decode bMod_check 25 = .ok (.getfield 80, 3) := by decide +kernel
theorem dMod_check_28 : decode bMod_check 28 = .ok (.iconst 2, 1) := by decide +kernel
theorem dMod_check_29 : decode bMod_check 29 = .ok (.iload_n 1, 1) := by decide +kernel
theorem dMod_check_30 : decode bMod_check 30 = .ok (.imul, 1) := by decide +kernel
theorem dMod_check_31 : decode bMod_check 31 = .ok (.iaload, 1) := by decide +kernel
theorem dMod_check_32 : decode bMod_check 32 = .ok (.bipush 10, 2) := by decide +kernel
theorem dMod_check_34 : decode bMod_check 34 = .ok (.iload_n 1, 1) := by decide +kernel
theorem dMod_check_35 : decode bMod_check 35 = .ok (.imul, 1) := by decide +kernel
theorem dMod_check_36 : decode bMod_check 36 = .ok (.iconst 5, 1) := by decide +kernel
theorem dMod_check_37 : decode bMod_check 37 = .ok (.iadd, 1) := by decide +kernel
theorem dMod_check_38 : decode bMod_check 38 = .ok (.aload_n 0, 1) := by decide +kernel
theorem dMod_check_39 : decode bMod_check 39 = .ok (.getfield 80, 3) := by decide +kernel
theorem dMod_check_42 : decode bMod_check 42 = .ok (.iconst 2, 1) := by decide +kernel
theorem dMod_check_43 : decode bMod_check 43 = .ok (.iload_n 1, 1) := by decide +kernel
theorem dMod_check_44 : decode bMod_check 44 = .ok (.imul, 1) := by decide +kernel
theorem dMod_check_45 : decode bMod_check 45 = .ok (.iconst 1, 1) := by decide +kernel
theorem dMod_check_46 : decode bMod_check 46 = .ok (.iadd, 1) := by decide +kernel
theorem dMod_check_47 : decode bMod_check 47 = .ok (.iaload, 1) := by decide +kernel
theorem dMod_check_48 : decode bMod_check 48 = .ok (.invokevirtual 174, 3) := by decide +kernel
theorem dMod_check_51 : decode bMod_check 51 = .ok (.aload_n 0, 1) := by decide +kernel
theorem dMod_check_52 : decode bMod_check 52 = .ok (.invokevirtual 178, 3) := by decide +kernel
theorem dMod_check_55 : decode bMod_check 55 = .ok (.ifCond .ne 5, 3) := by decide +kernel
theorem dMod_check_58 : decode bMod_check 58 = .ok (.iload_n 1, 1) := by decide +kernel
theorem dMod_check_59 : decode bMod_check 59 = .ok (.ireturn, 1) := by decide +kernel
theorem dMod_check_60 : decode bMod_check 60 = .ok (.iinc 1 1, 3) := by decide +kernel
theorem dMod_check_63 : decode bMod_check 63 = .ok (.goto (-56), 3) := by decide +kernel
theorem dMod_check_66 : decode bMod_check 66 = .ok (.iconst (-1), 1) := by decide +kernel
theorem dMod_check_67 : decode bMod_check 67 = .ok (.ireturn, 1) := by decide +kernel
end
section
theorem dLaw_pair_0 : decode bLaw_pair 0 = .ok (.aload_n 3, 1) := by decide +kernel
theorem dLaw_pair_1 : decode bLaw_pair 1 = .ok (.iconst 0, 1) := by decide +kernel
theorem dLaw_pair_2 : decode bLaw_pair 2 = .ok (.aload_n 0, 1) := by decide +kernel
theorem dLaw_pair_3 : decode bLaw_pair 3 = .ok (.iload_n 1, 1) := by decide +kernel
theorem dLaw_pair_4 : decode bLaw_pair 4 = .ok (.iload_n 2, 1) := by decide +kernel
theorem dLaw_pair_5 : decode bLaw_pair 5 = .ok (.invokevirtual 7, 3) := by decide +kernel
theorem dLaw_pair_8 : decode bLaw_pair 8 = .ok (.i2l, 1) := by decide +kernel
theorem dLaw_pair_9 : decode bLaw_pair 9 = .ok (.lastore, 1) := by decide +kernel
theorem dLaw_pair_10 : decode bLaw_pair 10 = .ok (.goto 11, 3) := by decide +kernel
theorem dLaw_pair_13 : decode bLaw_pair 13 = .ok (.astore 4, 2) := by decide +kernel
theorem dLaw_pair_15 : decode bLaw_pair 15 = .ok (.iconst 1, 1) := by decide +kernel
theorem dLaw_pair_16 : decode bLaw_pair 16 = .ok (.ireturn, 1) := by decide +kernel
theorem dLaw_pair_17 : decode bLaw_pair 17 = .ok (.astore 4, 2) := by decide +kernel
theorem dLaw_pair_19 : decode bLaw_pair 19 = .ok (.iconst 2, 1) := by decide +kernel
theorem dLaw_pair_20 : decode bLaw_pair 20 = .ok (.ireturn, 1) := by decide +kernel
theorem dLaw_pair_21 : decode bLaw_pair 21 = .ok (.iconst 0, 1) := by decide +kernel
theorem dLaw_pair_22 : decode bLaw_pair 22 = .ok (.ireturn, 1) := by decide +kernel
theorem dLaw_rule_0 : decode bLaw_rule 0 = .ok (.aload_n 3, 1) := by decide +kernel
theorem dLaw_rule_1 : decode bLaw_rule 1 = .ok (.iconst 0, 1) := by decide +kernel
theorem dLaw_rule_2 : decode bLaw_rule 2 = .ok (.aload_n 0, 1) := by decide +kernel
theorem dLaw_rule_3 : decode bLaw_rule 3 = .ok (.iload_n 1, 1) := by decide +kernel
theorem dLaw_rule_4 : decode bLaw_rule 4 = .ok (.iload_n 2, 1) := by decide +kernel
theorem dLaw_rule_5 : decode bLaw_rule 5 = .ok (.invokevirtual 17, 3) := by decide +kernel
theorem dLaw_rule_8 : decode bLaw_rule 8 = .ok (.i2l, 1) := by decide +kernel
theorem dLaw_rule_9 : decode bLaw_rule 9 = .ok (.lastore, 1) := by decide +kernel
theorem dLaw_rule_10 : decode bLaw_rule 10 = .ok (.goto 11, 3) := by decide +kernel
theorem dLaw_rule_13 : decode bLaw_rule 13 = .ok (.astore 4, 2) := by decide +kernel
theorem dLaw_rule_15 : decode bLaw_rule 15 = .ok (.iconst 1, 1) := by decide +kernel
theorem dLaw_rule_16 : decode bLaw_rule 16 = .ok (.ireturn, 1) := by decide +kernel
theorem dLaw_rule_17 : decode bLaw_rule 17 = .ok (.astore 4, 2) := by decide +kernel
theorem dLaw_rule_19 : decode bLaw_rule 19 = .ok (.iconst 2, 1) := by decide +kernel
theorem dLaw_rule_20 : decode bLaw_rule 20 = .ok (.ireturn, 1) := by decide +kernel
theorem dLaw_rule_21 : decode bLaw_rule 21 = .ok (.iconst 0, 1) := by decide +kernel
theorem dLaw_rule_22 : decode bLaw_rule 22 = .ok (.ireturn, 1) := by decide +kernel
theorem dLaw_context_0 : decode bLaw_context 0 = .ok (.aload 4, 2) := by decide +kernel
theorem dLaw_context_2 : decode bLaw_context 2 = .ok (.iconst 0, 1) := by decide +kernel
theorem dLaw_context_3 : decode bLaw_context 3 = .ok (.aload_n 0, 1) := by decide +kernel
theorem dLaw_context_4 : decode bLaw_context 4 = .ok (.iload_n 1, 1) := by decide +kernel
theorem dLaw_context_5 : decode bLaw_context 5 = .ok (.iload_n 2, 1) := by decide +kernel
theorem dLaw_context_6 : decode bLaw_context 6 = .ok (.iload_n 3, 1) := by decide +kernel
theorem dLaw_context_7 : decode bLaw_context 7 = .ok (.invokevirtual 20, 3) := by decide +kernel
theorem dLaw_context_10 : decode bLaw_context 10 = .ok (.i2l, 1) := by decide +kernel
theorem dLaw_context_11 : decode bLaw_context 11 = .ok (.lastore, 1) := by decide +kernel
theorem dLaw_context_12 : decode bLaw_context 12 = .ok (.goto 11, 3) := by decide +kernel
theorem dLaw_context_15 : decode bLaw_context 15 = .ok (.astore 5, 2) := by decide +kernel
theorem dLaw_context_17 : decode bLaw_context 17 = .ok (.iconst 1, 1) := by decide +kernel
theorem dLaw_context_18 : decode bLaw_context 18 = .ok (.ireturn, 1) := by decide +kernel
theorem dLaw_context_19 : decode bLaw_context 19 = .ok (.astore 5, 2) := by decide +kernel
theorem dLaw_context_21 : decode bLaw_context 21 = .ok (.iconst 2, 1) := by decide +kernel
theorem dLaw_context_22 : decode bLaw_context 22 = .ok (.ireturn, 1) := by decide +kernel
theorem dLaw_context_23 : decode bLaw_context 23 = .ok (.iconst 0, 1) := by decide +kernel
theorem dLaw_context_24 : decode bLaw_context 24 = .ok (.ireturn, 1) := by decide +kernel
theorem dLaw_element_0 : decode bLaw_element 0 = .ok (.aload 5, 2) := by decide +kernel
theorem dLaw_element_2 : decode bLaw_element 2 = .ok (.iconst 0, 1) := by decide +kernel
theorem dLaw_element_3 : decode bLaw_element 3 = .ok (.aload_n 0, 1) := by decide +kernel
theorem dLaw_element_4 : decode bLaw_element 4 = .ok (.iload_n 1, 1) := by decide +kernel
theorem dLaw_element_5 : decode bLaw_element 5 = .ok (.iload_n 2, 1) := by decide +kernel
theorem dLaw_element_6 : decode bLaw_element 6 = .ok (.iload_n 3, 1) := by decide +kernel
theorem dLaw_element_7 : decode bLaw_element 7 = .ok (.iload 4, 2) := by decide +kernel
theorem dLaw_element_9 : decode bLaw_element 9 = .ok (.invokevirtual 24, 3) := by decide +kernel
theorem dLaw_element_12 : decode bLaw_element 12 = .ok (.i2l, 1) := by decide +kernel
theorem dLaw_element_13 : decode bLaw_element 13 = .ok (.lastore, 1) := by decide +kernel
theorem dLaw_element_14 : decode bLaw_element 14 = .ok (.goto 11, 3) := by decide +kernel
theorem dLaw_element_17 : decode bLaw_element 17 = .ok (.astore 6, 2) := by decide +kernel
theorem dLaw_element_19 : decode bLaw_element 19 = .ok (.iconst 1, 1) := by decide +kernel
theorem dLaw_element_20 : decode bLaw_element 20 = .ok (.ireturn, 1) := by decide +kernel
theorem dLaw_element_21 : decode bLaw_element 21 = .ok (.astore 6, 2) := by decide +kernel
theorem dLaw_element_23 : decode bLaw_element 23 = .ok (.iconst 2, 1) := by decide +kernel
theorem dLaw_element_24 : decode bLaw_element 24 = .ok (.ireturn, 1) := by decide +kernel
theorem dLaw_element_25 : decode bLaw_element 25 = .ok (.iconst 0, 1) := by decide +kernel
theorem dLaw_element_26 : decode bLaw_element 26 = .ok (.ireturn, 1) := by decide +kernel
theorem dLaw_entry_0 : decode bLaw_entry 0 = .ok (.aload_n 3, 1) := by decide +kernel
theorem dLaw_entry_1 : decode bLaw_entry 1 = .ok (.iconst 0, 1) := by decide +kernel
theorem dLaw_entry_2 : decode bLaw_entry 2 = .ok (.aload_n 0, 1) := by decide +kernel
theorem dLaw_entry_3 : decode bLaw_entry 3 = .ok (.iload_n 1, 1) := by decide +kernel
theorem dLaw_entry_4 : decode bLaw_entry 4 = .ok (.iload_n 2, 1) := by decide +kernel
theorem dLaw_entry_5 : decode bLaw_entry 5 = .ok (.invokevirtual 28, 3) := by decide +kernel
theorem dLaw_entry_8 : decode bLaw_entry 8 = .ok (.i2l, 1) := by decide +kernel
theorem dLaw_entry_9 : decode bLaw_entry 9 = .ok (.lastore, 1) := by decide +kernel
theorem dLaw_entry_10 : decode bLaw_entry 10 = .ok (.goto 11, 3) := by decide +kernel
theorem dLaw_entry_13 : decode bLaw_entry 13 = .ok (.astore 4, 2) := by decide +kernel
theorem dLaw_entry_15 : decode bLaw_entry 15 = .ok (.iconst 1, 1) := by decide +kernel
theorem dLaw_entry_16 : decode bLaw_entry 16 = .ok (.ireturn, 1) := by decide +kernel
theorem dLaw_entry_17 : decode bLaw_entry 17 = .ok (.astore 4, 2) := by decide +kernel
theorem dLaw_entry_19 : decode bLaw_entry 19 = .ok (.iconst 2, 1) := by decide +kernel
theorem dLaw_entry_20 : decode bLaw_entry 20 = .ok (.ireturn, 1) := by decide +kernel
theorem dLaw_entry_21 : decode bLaw_entry 21 = .ok (.iconst 0, 1) := by decide +kernel
theorem dLaw_entry_22 : decode bLaw_entry 22 = .ok (.ireturn, 1) := by decide +kernel
theorem dLaw_spell_0 : decode bLaw_spell 0 = .ok (.aload_n 3, 1) := by decide +kernel
theorem dLaw_spell_1 : decode bLaw_spell 1 = .ok (.iconst 0, 1) := by decide +kernel
theorem dLaw_spell_2 : decode bLaw_spell 2 = .ok (.aload_n 0, 1) := by decide +kernel
theorem dLaw_spell_3 : decode bLaw_spell 3 = .ok (.iload_n 1, 1) := by decide +kernel
theorem dLaw_spell_4 : decode bLaw_spell 4 = .ok (.iload_n 2, 1) := by decide +kernel
theorem dLaw_spell_5 : decode bLaw_spell 5 = .ok (.invokevirtual 31, 3) := by decide +kernel
theorem dLaw_spell_8 : decode bLaw_spell 8 = .ok (.i2l, 1) := by decide +kernel
theorem dLaw_spell_9 : decode bLaw_spell 9 = .ok (.lastore, 1) := by decide +kernel
theorem dLaw_spell_10 : decode bLaw_spell 10 = .ok (.goto 11, 3) := by decide +kernel
theorem dLaw_spell_13 : decode bLaw_spell 13 = .ok (.astore 4, 2) := by decide +kernel
theorem dLaw_spell_15 : decode bLaw_spell 15 = .ok (.iconst 1, 1) := by decide +kernel
theorem dLaw_spell_16 : decode bLaw_spell 16 = .ok (.ireturn, 1) := by decide +kernel
theorem dLaw_spell_17 : decode bLaw_spell 17 = .ok (.astore 4, 2) := by decide +kernel
theorem dLaw_spell_19 : decode bLaw_spell 19 = .ok (.iconst 2, 1) := by decide +kernel
theorem dLaw_spell_20 : decode bLaw_spell 20 = .ok (.ireturn, 1) := by decide +kernel
theorem dLaw_spell_21 : decode bLaw_spell 21 = .ok (.iconst 0, 1) := by decide +kernel
theorem dLaw_spell_22 : decode bLaw_spell 22 = .ok (.ireturn, 1) := by decide +kernel
theorem dLaw_type_0 : decode bLaw_type 0 = .ok (.aload_n 3, 1) := by decide +kernel
theorem dLaw_type_1 : decode bLaw_type 1 = .ok (.iconst 0, 1) := by decide +kernel
theorem dLaw_type_2 : decode bLaw_type 2 = .ok (.aload_n 0, 1) := by decide +kernel
theorem dLaw_type_3 : decode bLaw_type 3 = .ok (.iload_n 1, 1) := by decide +kernel
theorem dLaw_type_4 : decode bLaw_type 4 = .ok (.iload_n 2, 1) := by decide +kernel
theorem dLaw_type_5 : decode bLaw_type 5 = .ok (.invokevirtual 34, 3) := by decide +kernel
theorem dLaw_type_8 : decode bLaw_type 8 = .ok (.i2l, 1) := by decide +kernel
theorem dLaw_type_9 : decode bLaw_type 9 = .ok (.lastore, 1) := by decide +kernel
theorem dLaw_type_10 : decode bLaw_type 10 = .ok (.goto 11, 3) := by decide +kernel
theorem dLaw_type_13 : decode bLaw_type 13 = .ok (.astore 4, 2) := by decide +kernel
theorem dLaw_type_15 : decode bLaw_type 15 = .ok (.iconst 1, 1) := by decide +kernel
theorem dLaw_type_16 : decode bLaw_type 16 = .ok (.ireturn, 1) := by decide +kernel
theorem dLaw_type_17 : decode bLaw_type 17 = .ok (.astore 4, 2) := by decide +kernel
theorem dLaw_type_19 : decode bLaw_type 19 = .ok (.iconst 2, 1) := by decide +kernel
theorem dLaw_type_20 : decode bLaw_type 20 = .ok (.ireturn, 1) := by decide +kernel
theorem dLaw_type_21 : decode bLaw_type 21 = .ok (.iconst 0, 1) := by decide +kernel
theorem dLaw_type_22 : decode bLaw_type 22 = .ok (.ireturn, 1) := by decide +kernel
theorem dLaw_write_0 : decode bLaw_write 0 = .ok (.aload_n 1, 1) := by decide +kernel
theorem dLaw_write_1 : decode bLaw_write 1 = .ok (.iconst 0, 1) := by decide +kernel
theorem dLaw_write_2 : decode bLaw_write 2 = .ok (.aload_n 0, 1) := by decide +kernel
theorem dLaw_write_3 : decode bLaw_write 3 = .ok (.invokevirtual 38, 3) := by decide +kernel
theorem dLaw_write_6 : decode bLaw_write 6 = .ok (.i2l, 1) := by decide +kernel
theorem dLaw_write_7 : decode bLaw_write 7 = .ok (.lastore, 1) := by decide +kernel
theorem dLaw_write_8 : decode bLaw_write 8 = .ok (.goto 6, 3) := by decide +kernel
theorem dLaw_write_11 : decode bLaw_write 11 = .ok (.astore_n 2, 1) := by decide +kernel
theorem dLaw_write_12 : decode bLaw_write 12 = .ok (.iconst 1, 1) := by decide +kernel
theorem dLaw_write_13 : decode bLaw_write 13 = .ok (.ireturn, 1) := by decide +kernel
theorem dLaw_write_14 : decode bLaw_write 14 = .ok (.iconst 0, 1) := by decide +kernel
theorem dLaw_write_15 : decode bLaw_write 15 = .ok (.ireturn, 1) := by decide +kernel
theorem dLaw_analyse_0 : decode bLaw_analyse 0 = .ok (.aload_n 1, 1) := by decide +kernel
theorem dLaw_analyse_1 : decode bLaw_analyse 1 = .ok (.iconst 0, 1) := by decide +kernel
theorem dLaw_analyse_2 : decode bLaw_analyse 2 = .ok (.aload_n 0, 1) := by decide +kernel
theorem dLaw_analyse_3 : decode bLaw_analyse 3 = .ok (.invokevirtual 42, 3) := by decide +kernel
theorem dLaw_analyse_6 : decode bLaw_analyse 6 = .ok (.i2l, 1) := by decide +kernel
theorem dLaw_analyse_7 : decode bLaw_analyse 7 = .ok (.lastore, 1) := by decide +kernel
theorem dLaw_analyse_8 : decode bLaw_analyse 8 = .ok (.goto 6, 3) := by decide +kernel
theorem dLaw_analyse_11 : decode bLaw_analyse 11 = .ok (.astore_n 2, 1) := by decide +kernel
theorem dLaw_analyse_12 : decode bLaw_analyse 12 = .ok (.iconst 1, 1) := by decide +kernel
theorem dLaw_analyse_13 : decode bLaw_analyse 13 = .ok (.ireturn, 1) := by decide +kernel
theorem dLaw_analyse_14 : decode bLaw_analyse 14 = .ok (.iconst 0, 1) := by decide +kernel
theorem dLaw_analyse_15 : decode bLaw_analyse 15 = .ok (.ireturn, 1) := by decide +kernel
theorem dLaw_length_0 : decode bLaw_length 0 = .ok (.aload_n 3, 1) := by decide +kernel
theorem dLaw_length_1 : decode bLaw_length 1 = .ok (.iconst 0, 1) := by decide +kernel
theorem dLaw_length_2 : decode bLaw_length 2 = .ok (.aload_n 0, 1) := by decide +kernel
theorem dLaw_length_3 : decode bLaw_length 3 = .ok (.iload_n 1, 1) := by decide +kernel
theorem dLaw_length_4 : decode bLaw_length 4 = .ok (.iload_n 2, 1) := by decide +kernel
theorem dLaw_length_5 : decode bLaw_length 5 = .ok (.invokevirtual 45, 3) := by decide +kernel
theorem dLaw_length_8 : decode bLaw_length 8 = .ok (.i2l, 1) := by decide +kernel
theorem dLaw_length_9 : decode bLaw_length 9 = .ok (.lastore, 1) := by decide +kernel
theorem dLaw_length_10 : decode bLaw_length 10 = .ok (.goto 7, 3) := by decide +kernel
theorem dLaw_length_13 : decode bLaw_length 13 = .ok (.astore 4, 2) := by decide +kernel
theorem dLaw_length_15 : decode bLaw_length 15 = .ok (.iconst 1, 1) := by decide +kernel
theorem dLaw_length_16 : decode bLaw_length 16 = .ok (.ireturn, 1) := by decide +kernel
theorem dLaw_length_17 : decode bLaw_length 17 = .ok (.iconst 0, 1) := by decide +kernel
theorem dLaw_length_18 : decode bLaw_length 18 = .ok (.ireturn, 1) := by decide +kernel
theorem dLaw_result_0 : decode bLaw_result 0 = .ok (.aload 4, 2) := by decide +kernel
theorem dLaw_result_2 : decode bLaw_result 2 = .ok (.iconst 0, 1) := by decide +kernel
theorem dLaw_result_3 : decode bLaw_result 3 = .ok (.aload_n 0, 1) := by decide +kernel
theorem dLaw_result_4 : decode bLaw_result 4 = .ok (.iload_n 1, 1) := by decide +kernel
theorem dLaw_result_5 : decode bLaw_result 5 = .ok (.iload_n 2, 1) := by decide +kernel
theorem dLaw_result_6 : decode bLaw_result 6 = .ok (.iload_n 3, 1) := by decide +kernel
theorem dLaw_result_7 : decode bLaw_result 7 = .ok (.invokevirtual 51, 3) := by decide +kernel
theorem dLaw_result_10 : decode bLaw_result 10 = .ok (.i2l, 1) := by decide +kernel
theorem dLaw_result_11 : decode bLaw_result 11 = .ok (.lastore, 1) := by decide +kernel
theorem dLaw_result_12 : decode bLaw_result 12 = .ok (.goto 7, 3) := by decide +kernel
theorem dLaw_result_15 : decode bLaw_result 15 = .ok (.astore 5, 2) := by decide +kernel
theorem dLaw_result_17 : decode bLaw_result 17 = .ok (.iconst 1, 1) := by decide +kernel
theorem dLaw_result_18 : decode bLaw_result 18 = .ok (.ireturn, 1) := by decide +kernel
theorem dLaw_result_19 : decode bLaw_result 19 = .ok (.iconst 0, 1) := by decide +kernel
theorem dLaw_result_20 : decode bLaw_result 20 = .ok (.ireturn, 1) := by decide +kernel
theorem dLaw_sample_0 : decode bLaw_sample 0 = .ok (.aload_n 1, 1) := by decide +kernel
theorem dLaw_sample_1 : decode bLaw_sample 1 = .ok (.iconst 0, 1) := by decide +kernel
theorem dLaw_sample_2 : decode bLaw_sample 2 = .ok (.aload_n 0, 1) := by decide +kernel
theorem dLaw_sample_3 : decode bLaw_sample 3 = .ok (.invokevirtual 55, 3) := by decide +kernel
theorem dLaw_sample_6 : decode bLaw_sample 6 = .ok (.i2l, 1) := by decide +kernel
theorem dLaw_sample_7 : decode bLaw_sample 7 = .ok (.lastore, 1) := by decide +kernel
theorem dLaw_sample_8 : decode bLaw_sample 8 = .ok (.goto 6, 3) := by decide +kernel
theorem dLaw_sample_11 : decode bLaw_sample 11 = .ok (.astore_n 2, 1) := by decide +kernel
theorem dLaw_sample_12 : decode bLaw_sample 12 = .ok (.iconst 1, 1) := by decide +kernel
theorem dLaw_sample_13 : decode bLaw_sample 13 = .ok (.ireturn, 1) := by decide +kernel
theorem dLaw_sample_14 : decode bLaw_sample 14 = .ok (.iconst 0, 1) := by decide +kernel
theorem dLaw_sample_15 : decode bLaw_sample 15 = .ok (.ireturn, 1) := by decide +kernel
theorem dLaw_law_0 : decode bLaw_law 0 = .ok (.new 8, 3) := by decide +kernel
theorem dLaw_law_3 : decode bLaw_law 3 = .ok (.dup, 1) := by decide +kernel
theorem dLaw_law_4 : decode bLaw_law 4 = .ok (.invokespecial 58, 3) := by decide +kernel
theorem dLaw_law_7 : decode bLaw_law 7 = .ok (.astore_n 1, 1) := by decide +kernel
theorem dLaw_law_8 : decode bLaw_law 8 = .ok (.new 59, 3) := by decide +kernel
theorem dLaw_law_11 : decode bLaw_law 11 = .ok (.dup, 1) := by decide +kernel
theorem dLaw_law_12 : decode bLaw_law 12 = .ok (.invokespecial 61, 3) := by decide +kernel
theorem dLaw_law_15 : decode bLaw_law 15 = .ok (.astore_n 2, 1) := by decide +kernel
theorem dLaw_law_16 : decode bLaw_law 16 = .ok (.iconst 1, 1) := by decide +kernel
theorem dLaw_law_17 : decode bLaw_law 17 = .ok (.newarray .long, 2) := by decide +kernel
theorem dLaw_law_19 : decode bLaw_law 19 = .ok (.astore_n 3, 1) := by decide +kernel
theorem dLaw_law_20 : decode bLaw_law 20 = .ok (.iconst 0, 1) := by decide +kernel
theorem dLaw_law_21 : decode bLaw_law 21 = .ok (.istore 4, 2) := by decide +kernel
theorem dLaw_law_23 : decode bLaw_law 23 = .ok (.iload 4, 2) := by decide +kernel
theorem dLaw_law_25 : decode bLaw_law 25 = .ok (.aload_n 0, 1) := by decide +kernel
theorem dLaw_law_26 : decode bLaw_law 26 = .ok (.arraylength, 1) := by decide +kernel
theorem dLaw_law_27 : decode bLaw_law 27 = .ok (.iconst 5, 1) := by decide +kernel
theorem dLaw_law_28 : decode bLaw_law 28 = .ok (.isub, 1) := by decide +kernel
theorem dLaw_law_29 : decode bLaw_law 29 = .ok (.if_icmp .gt 1077, 3) := by decide +kernel
theorem dLaw_law_32 : decode bLaw_law 32 = .ok (.aload_n 0, 1) := by decide +kernel
theorem dLaw_law_33 : decode bLaw_law 33 = .ok (.iload 4, 2) := by decide +kernel
theorem dLaw_law_35 : decode bLaw_law 35 = .ok (.iaload, 1) := by decide +kernel
theorem dLaw_law_36 : decode bLaw_law 36 = .ok (.bipush 15, 2) := by decide +kernel
theorem dLaw_law_38 : decode bLaw_law 38 = .ok (.iand, 1) := by decide +kernel
theorem dLaw_law_39 : decode bLaw_law 39 = .ok (.tableswitch 1061 0 15 #[77, 145, 213, 325, 449, 517, 585, 669, 710, 723, 736, 780, 824, 908, 1004, 1048], 77) := by decide +kernel
theorem dLaw_law_116 : decode bLaw_law 116 = .ok (.aload_n 1, 1) := by decide +kernel
theorem dLaw_law_117 : decode bLaw_law 117 = .ok (.aload_n 0, 1) := by decide +kernel
theorem dLaw_law_118 : decode bLaw_law 118 = .ok (.iload 4, 2) := by decide +kernel
theorem dLaw_law_120 : decode bLaw_law 120 = .ok (.iconst 1, 1) := by decide +kernel
theorem dLaw_law_121 : decode bLaw_law 121 = .ok (.iadd, 1) := by decide +kernel
theorem dLaw_law_122 : decode bLaw_law 122 = .ok (.iaload, 1) := by decide +kernel
theorem dLaw_law_123 : decode bLaw_law 123 = .ok (.aload_n 0, 1) := by decide +kernel
theorem dLaw_law_124 : decode bLaw_law 124 = .ok (.iload 4, 2) := by decide +kernel
theorem dLaw_law_126 : decode bLaw_law 126 = .ok (.iconst 2, 1) := by decide +kernel
theorem dLaw_law_127 : decode bLaw_law 127 = .ok (.iadd, 1) := by decide +kernel
theorem dLaw_law_128 : decode bLaw_law 128 = .ok (.iaload, 1) := by decide +kernel
theorem dLaw_law_129 : decode bLaw_law 129 = .ok (.aload_n 3, 1) := by decide +kernel
theorem dLaw_law_130 : decode bLaw_law 130 = .ok (.invokestatic 62, 3) := by decide +kernel
theorem dLaw_law_133 : decode bLaw_law 133 = .ok (.istore 5, 2) := by decide +kernel
theorem dLaw_law_135 : decode bLaw_law 135 = .ok (.aload_n 2, 1) := by decide +kernel
theorem dLaw_law_136 : decode bLaw_law 136 = .ok (.aload_n 0, 1) := by decide +kernel
theorem dLaw_law_137 : decode bLaw_law 137 = .ok (.iload 4, 2) := by decide +kernel
theorem dLaw_law_139 : decode bLaw_law 139 = .ok (.iconst 1, 1) := by decide +kernel
theorem dLaw_law_140 : decode bLaw_law 140 = .ok (.iadd, 1) := by decide +kernel
theorem dLaw_law_141 : decode bLaw_law 141 = .ok (.iaload, 1) := by decide +kernel
theorem dLaw_law_142 : decode bLaw_law 142 = .ok (.aload_n 0, 1) := by decide +kernel
theorem dLaw_law_143 : decode bLaw_law 143 = .ok (.iload 4, 2) := by decide +kernel
theorem dLaw_law_145 : decode bLaw_law 145 = .ok (.iconst 2, 1) := by decide +kernel
theorem dLaw_law_146 : decode bLaw_law 146 = .ok (.iadd, 1) := by decide +kernel
theorem dLaw_law_147 : decode bLaw_law 147 = .ok (.iaload, 1) := by decide +kernel
theorem dLaw_law_148 : decode bLaw_law 148 = .ok (.invokevirtual 67, 3) := by decide +kernel
theorem dLaw_law_151 : decode bLaw_law 151 = .ok (.istore 6, 2) := by decide +kernel
theorem dLaw_law_153 : decode bLaw_law 153 = .ok (.aload_n 2, 1) := by decide +kernel
theorem dLaw_law_154 : decode bLaw_law 154 = .ok (.invokevirtual 68, 3) := by decide +kernel
theorem dLaw_law_157 : decode bLaw_law 157 = .ok (.iload 5, 2) := by decide +kernel
theorem dLaw_law_159 : decode bLaw_law 159 = .ok (.if_icmp .eq 5, 3) := by decide +kernel
theorem dLaw_law_162 : decode bLaw_law 162 = .ok (.iconst 0, 1) := by decide +kernel
theorem dLaw_law_163 : decode bLaw_law 163 = .ok (.ireturn, 1) := by decide +kernel
theorem dLaw_law_164 : decode bLaw_law 164 = .ok (.iload 5, 2) := by decide +kernel
theorem dLaw_law_166 : decode bLaw_law 166 = .ok (.ifCond .ne 15, 3) := by decide +kernel
theorem dLaw_law_169 : decode bLaw_law 169 = .ok (.aload_n 3, 1) := by decide +kernel
theorem dLaw_law_170 : decode bLaw_law 170 = .ok (.iconst 0, 1) := by decide +kernel
theorem dLaw_law_171 : decode bLaw_law 171 = .ok (.laload, 1) := by decide +kernel
theorem dLaw_law_172 : decode bLaw_law 172 = .ok (.iload 6, 2) := by decide +kernel
theorem dLaw_law_174 : decode bLaw_law 174 = .ok (.i2l, 1) := by decide +kernel
theorem dLaw_law_175 : decode bLaw_law 175 = .ok (.lcmp, 1) := by decide +kernel
theorem dLaw_law_176 : decode bLaw_law 176 = .ok (.ifCond .eq 5, 3) := by decide +kernel
theorem dLaw_law_179 : decode bLaw_law 179 = .ok (.iconst 0, 1) := by decide +kernel
theorem dLaw_law_180 : decode bLaw_law 180 = .ok (.ireturn, 1) := by decide +kernel
theorem dLaw_law_181 : decode bLaw_law 181 = .ok (.goto 919, 3) := by decide +kernel
theorem dLaw_law_184 : decode bLaw_law 184 = .ok (.aload_n 1, 1) := by decide +kernel
theorem dLaw_law_185 : decode bLaw_law 185 = .ok (.aload_n 0, 1) := by decide +kernel
theorem dLaw_law_186 : decode bLaw_law 186 = .ok (.iload 4, 2) := by decide +kernel
theorem dLaw_law_188 : decode bLaw_law 188 = .ok (.iconst 1, 1) := by decide +kernel
theorem dLaw_law_189 : decode bLaw_law 189 = .ok (.iadd, 1) := by decide +kernel
theorem dLaw_law_190 : decode bLaw_law 190 = .ok (.iaload, 1) := by decide +kernel
theorem dLaw_law_191 : decode bLaw_law 191 = .ok (.aload_n 0, 1) := by decide +kernel
theorem dLaw_law_192 : decode bLaw_law 192 = .ok (.iload 4, 2) := by decide +kernel
theorem dLaw_law_194 : decode bLaw_law 194 = .ok (.iconst 2, 1) := by decide +kernel
theorem dLaw_law_195 : decode bLaw_law 195 = .ok (.iadd, 1) := by decide +kernel
theorem dLaw_law_196 : decode bLaw_law 196 = .ok (.iaload, 1) := by decide +kernel
theorem dLaw_law_197 : decode bLaw_law 197 = .ok (.aload_n 3, 1) := by decide +kernel
theorem dLaw_law_198 : decode bLaw_law 198 = .ok (.invokestatic 71, 3) := by decide +kernel
theorem dLaw_law_201 : decode bLaw_law 201 = .ok (.istore 5, 2) := by decide +kernel
theorem dLaw_law_203 : decode bLaw_law 203 = .ok (.aload_n 2, 1) := by decide +kernel
theorem dLaw_law_204 : decode bLaw_law 204 = .ok (.aload_n 0, 1) := by decide +kernel
theorem dLaw_law_205 : decode bLaw_law 205 = .ok (.iload 4, 2) := by decide +kernel
theorem dLaw_law_207 : decode bLaw_law 207 = .ok (.iconst 1, 1) := by decide +kernel
theorem dLaw_law_208 : decode bLaw_law 208 = .ok (.iadd, 1) := by decide +kernel
theorem dLaw_law_209 : decode bLaw_law 209 = .ok (.iaload, 1) := by decide +kernel
theorem dLaw_law_210 : decode bLaw_law 210 = .ok (.aload_n 0, 1) := by decide +kernel
theorem dLaw_law_211 : decode bLaw_law 211 = .ok (.iload 4, 2) := by decide +kernel
theorem dLaw_law_213 : decode bLaw_law 213 = .ok (.iconst 2, 1) := by decide +kernel
theorem dLaw_law_214 : decode bLaw_law 214 = .ok (.iadd, 1) := by decide +kernel
theorem dLaw_law_215 : decode bLaw_law 215 = .ok (.iaload, 1) := by decide +kernel
theorem dLaw_law_216 : decode bLaw_law 216 = .ok (.invokevirtual 73, 3) := by decide +kernel
theorem dLaw_law_219 : decode bLaw_law 219 = .ok (.istore 6, 2) := by decide +kernel
theorem dLaw_law_221 : decode bLaw_law 221 = .ok (.aload_n 2, 1) := by decide +kernel
theorem dLaw_law_222 : decode bLaw_law 222 = .ok (.invokevirtual 68, 3) := by decide +kernel
theorem dLaw_law_225 : decode bLaw_law 225 = .ok (.iload 5, 2) := by decide +kernel
theorem dLaw_law_227 : decode bLaw_law 227 = .ok (.if_icmp .eq 5, 3) := by decide +kernel
theorem dLaw_law_230 : decode bLaw_law 230 = .ok (.iconst 0, 1) := by decide +kernel
theorem dLaw_law_231 : decode bLaw_law 231 = .ok (.ireturn, 1) := by decide +kernel
theorem dLaw_law_232 : decode bLaw_law 232 = .ok (.iload 5, 2) := by decide +kernel
theorem dLaw_law_234 : decode bLaw_law 234 = .ok (.ifCond .ne 15, 3) := by decide +kernel
theorem dLaw_law_237 : decode bLaw_law 237 = .ok (.aload_n 3, 1) := by decide +kernel
theorem dLaw_law_238 : decode bLaw_law 238 = .ok (.iconst 0, 1) := by decide +kernel
theorem dLaw_law_239 : decode bLaw_law 239 = .ok (.laload, 1) := by decide +kernel
theorem dLaw_law_240 : decode bLaw_law 240 = .ok (.iload 6, 2) := by decide +kernel
theorem dLaw_law_242 : decode bLaw_law 242 = .ok (.i2l, 1) := by decide +kernel
theorem dLaw_law_243 : decode bLaw_law 243 = .ok (.lcmp, 1) := by decide +kernel
theorem dLaw_law_244 : decode bLaw_law 244 = .ok (.ifCond .eq 5, 3) := by decide +kernel
theorem dLaw_law_247 : decode bLaw_law 247 = .ok (.iconst 0, 1) := by decide +kernel
theorem dLaw_law_248 : decode bLaw_law 248 = .ok (.ireturn, 1) := by decide +kernel
theorem dLaw_law_249 : decode bLaw_law 249 = .ok (.goto 851, 3) := by decide +kernel
theorem dLaw_law_252 : decode bLaw_law 252 = .ok (.aload_n 1, 1) := by decide +kernel
theorem dLaw_law_253 : decode bLaw_law 253 = .ok (.aload_n 0, 1) := by decide +kernel
theorem dLaw_law_254 : decode bLaw_law 254 = .ok (.iload 4, 2) := by decide +kernel
theorem dLaw_law_256 : decode bLaw_law 256 = .ok (.iconst 1, 1) := by decide +kernel
theorem dLaw_law_257 : decode bLaw_law 257 = .ok (.iadd, 1) := by decide +kernel
theorem dLaw_law_258 : decode bLaw_law 258 = .ok (.iaload, 1) := by decide +kernel
theorem dLaw_law_259 : decode bLaw_law 259 = .ok (.aload_n 0, 1) := by decide +kernel
theorem dLaw_law_260 : decode bLaw_law 260 = .ok (.iload 4, 2) := by decide +kernel
theorem dLaw_law_262 : decode bLaw_law 262 = .ok (.iconst 2, 1) := by decide +kernel
theorem dLaw_law_263 : decode bLaw_law 263 = .ok (.iadd, 1) := by decide +kernel
theorem dLaw_law_264 : decode bLaw_law 264 = .ok (.iaload, 1) := by decide +kernel
theorem dLaw_law_265 : decode bLaw_law 265 = .ok (.ifCond .eq 7, 3) := by decide +kernel
theorem dLaw_law_268 : decode bLaw_law 268 = .ok (.iconst 1, 1) := by decide +kernel
theorem dLaw_law_269 : decode bLaw_law 269 = .ok (.goto 4, 3) := by decide +kernel
theorem dLaw_law_272 : decode bLaw_law 272 = .ok (.iconst 0, 1) := by decide +kernel
theorem dLaw_law_273 : decode bLaw_law 273 = .ok (.aload_n 0, 1) := by decide +kernel
theorem dLaw_law_274 : decode bLaw_law 274 = .ok (.iload 4, 2) := by decide +kernel
theorem dLaw_law_276 : decode bLaw_law 276 = .ok (.iconst 3, 1) := by decide +kernel
theorem dLaw_law_277 : decode bLaw_law 277 = .ok (.iadd, 1) := by decide +kernel
theorem dLaw_law_278 : decode bLaw_law 278 = .ok (.iaload, 1) := by decide +kernel
theorem dLaw_law_279 : decode bLaw_law 279 = .ok (.ifCond .eq 7, 3) := by decide +kernel
theorem dLaw_law_282 : decode bLaw_law 282 = .ok (.iconst 1, 1) := by decide +kernel
theorem dLaw_law_283 : decode bLaw_law 283 = .ok (.goto 4, 3) := by decide +kernel
theorem dLaw_law_286 : decode bLaw_law 286 = .ok (.iconst 0, 1) := by decide +kernel
theorem dLaw_law_287 : decode bLaw_law 287 = .ok (.aload_n 3, 1) := by decide +kernel
theorem dLaw_law_288 : decode bLaw_law 288 = .ok (.invokestatic 74, 3) := by decide +kernel
theorem dLaw_law_291 : decode bLaw_law 291 = .ok (.istore 5, 2) := by decide +kernel
theorem dLaw_law_293 : decode bLaw_law 293 = .ok (.aload_n 2, 1) := by decide +kernel
theorem dLaw_law_294 : decode bLaw_law 294 = .ok (.aload_n 0, 1) := by decide +kernel
theorem dLaw_law_295 : decode bLaw_law 295 = .ok (.iload 4, 2) := by decide +kernel
theorem dLaw_law_297 : decode bLaw_law 297 = .ok (.iconst 1, 1) := by decide +kernel
theorem dLaw_law_298 : decode bLaw_law 298 = .ok (.iadd, 1) := by decide +kernel
theorem dLaw_law_299 : decode bLaw_law 299 = .ok (.iaload, 1) := by decide +kernel
theorem dLaw_law_300 : decode bLaw_law 300 = .ok (.aload_n 0, 1) := by decide +kernel
theorem dLaw_law_301 : decode bLaw_law 301 = .ok (.iload 4, 2) := by decide +kernel
theorem dLaw_law_303 : decode bLaw_law 303 = .ok (.iconst 2, 1) := by decide +kernel
theorem dLaw_law_304 : decode bLaw_law 304 = .ok (.iadd, 1) := by decide +kernel
theorem dLaw_law_305 : decode bLaw_law 305 = .ok (.iaload, 1) := by decide +kernel
theorem dLaw_law_306 : decode bLaw_law 306 = .ok (.ifCond .eq 7, 3) := by decide +kernel
theorem dLaw_law_309 : decode bLaw_law 309 = .ok (.iconst 1, 1) := by decide +kernel
theorem dLaw_law_310 : decode bLaw_law 310 = .ok (.goto 4, 3) := by decide +kernel
theorem dLaw_law_313 : decode bLaw_law 313 = .ok (.iconst 0, 1) := by decide +kernel
theorem dLaw_law_314 : decode bLaw_law 314 = .ok (.aload_n 0, 1) := by decide +kernel
theorem dLaw_law_315 : decode bLaw_law 315 = .ok (.iload 4, 2) := by decide +kernel
theorem dLaw_law_317 : decode bLaw_law 317 = .ok (.iconst 3, 1) := by decide +kernel
theorem dLaw_law_318 : decode bLaw_law 318 = .ok (.iadd, 1) := by decide +kernel
theorem dLaw_law_319 : decode bLaw_law 319 = .ok (.iaload, 1) := by decide +kernel
theorem dLaw_law_320 : decode bLaw_law 320 = .ok (.ifCond .eq 7, 3) := by decide +kernel
theorem dLaw_law_323 : decode bLaw_law 323 = .ok (.iconst 1, 1) := by decide +kernel
theorem dLaw_law_324 : decode bLaw_law 324 = .ok (.goto 4, 3) := by decide +kernel
theorem dLaw_law_327 : decode bLaw_law 327 = .ok (.iconst 0, 1) := by decide +kernel
theorem dLaw_law_328 : decode bLaw_law 328 = .ok (.invokevirtual 77, 3) := by decide +kernel
theorem dLaw_law_331 : decode bLaw_law 331 = .ok (.istore 6, 2) := by decide +kernel
theorem dLaw_law_333 : decode bLaw_law 333 = .ok (.aload_n 2, 1) := by decide +kernel
theorem dLaw_law_334 : decode bLaw_law 334 = .ok (.invokevirtual 68, 3) := by decide +kernel
theorem dLaw_law_337 : decode bLaw_law 337 = .ok (.iload 5, 2) := by decide +kernel
theorem dLaw_law_339 : decode bLaw_law 339 = .ok (.if_icmp .eq 5, 3) := by decide +kernel
theorem dLaw_law_342 : decode bLaw_law 342 = .ok (.iconst 0, 1) := by decide +kernel
theorem dLaw_law_343 : decode bLaw_law 343 = .ok (.ireturn, 1) := by decide +kernel
theorem dLaw_law_344 : decode bLaw_law 344 = .ok (.iload 5, 2) := by decide +kernel
theorem dLaw_law_346 : decode bLaw_law 346 = .ok (.ifCond .ne 15, 3) := by decide +kernel
theorem dLaw_law_349 : decode bLaw_law 349 = .ok (.aload_n 3, 1) := by decide +kernel
theorem dLaw_law_350 : decode bLaw_law 350 = .ok (.iconst 0, 1) := by decide +kernel
theorem dLaw_law_351 : decode bLaw_law 351 = .ok (.laload, 1) := by decide +kernel
theorem dLaw_law_352 : decode bLaw_law 352 = .ok (.iload 6, 2) := by decide +kernel
theorem dLaw_law_354 : decode bLaw_law 354 = .ok (.i2l, 1) := by decide +kernel
theorem dLaw_law_355 : decode bLaw_law 355 = .ok (.lcmp, 1) := by decide +kernel
theorem dLaw_law_356 : decode bLaw_law 356 = .ok (.ifCond .eq 5, 3) := by decide +kernel
theorem dLaw_law_359 : decode bLaw_law 359 = .ok (.iconst 0, 1) := by decide +kernel
theorem dLaw_law_360 : decode bLaw_law 360 = .ok (.ireturn, 1) := by decide +kernel
theorem dLaw_law_361 : decode bLaw_law 361 = .ok (.goto 739, 3) := by decide +kernel
theorem dLaw_law_364 : decode bLaw_law 364 = .ok (.aload_n 1, 1) := by decide +kernel
theorem dLaw_law_365 : decode bLaw_law 365 = .ok (.aload_n 0, 1) := by decide +kernel
theorem dLaw_law_366 : decode bLaw_law 366 = .ok (.iload 4, 2) := by decide +kernel
theorem dLaw_law_368 : decode bLaw_law 368 = .ok (.iconst 1, 1) := by decide +kernel
theorem dLaw_law_369 : decode bLaw_law 369 = .ok (.iadd, 1) := by decide +kernel
theorem dLaw_law_370 : decode bLaw_law 370 = .ok (.iaload, 1) := by decide +kernel
theorem dLaw_law_371 : decode bLaw_law 371 = .ok (.aload_n 0, 1) := by decide +kernel
theorem dLaw_law_372 : decode bLaw_law 372 = .ok (.iload 4, 2) := by decide +kernel
theorem dLaw_law_374 : decode bLaw_law 374 = .ok (.iconst 2, 1) := by decide +kernel
theorem dLaw_law_375 : decode bLaw_law 375 = .ok (.iadd, 1) := by decide +kernel
theorem dLaw_law_376 : decode bLaw_law 376 = .ok (.iaload, 1) := by decide +kernel
theorem dLaw_law_377 : decode bLaw_law 377 = .ok (.ifCond .eq 7, 3) := by decide +kernel
theorem dLaw_law_380 : decode bLaw_law 380 = .ok (.iconst 1, 1) := by decide +kernel
theorem dLaw_law_381 : decode bLaw_law 381 = .ok (.goto 4, 3) := by decide +kernel
theorem dLaw_law_384 : decode bLaw_law 384 = .ok (.iconst 0, 1) := by decide +kernel
theorem dLaw_law_385 : decode bLaw_law 385 = .ok (.aload_n 0, 1) := by decide +kernel
theorem dLaw_law_386 : decode bLaw_law 386 = .ok (.iload 4, 2) := by decide +kernel
theorem dLaw_law_388 : decode bLaw_law 388 = .ok (.iconst 3, 1) := by decide +kernel
theorem dLaw_law_389 : decode bLaw_law 389 = .ok (.iadd, 1) := by decide +kernel
theorem dLaw_law_390 : decode bLaw_law 390 = .ok (.iaload, 1) := by decide +kernel
theorem dLaw_law_391 : decode bLaw_law 391 = .ok (.aload_n 0, 1) := by decide +kernel
theorem dLaw_law_392 : decode bLaw_law 392 = .ok (.iload 4, 2) := by decide +kernel
theorem dLaw_law_394 : decode bLaw_law 394 = .ok (.iconst 4, 1) := by decide +kernel
theorem dLaw_law_395 : decode bLaw_law 395 = .ok (.iadd, 1) := by decide +kernel
theorem dLaw_law_396 : decode bLaw_law 396 = .ok (.iaload, 1) := by decide +kernel
theorem dLaw_law_397 : decode bLaw_law 397 = .ok (.ifCond .eq 7, 3) := by decide +kernel
theorem dLaw_law_400 : decode bLaw_law 400 = .ok (.iconst 1, 1) := by decide +kernel
theorem dLaw_law_401 : decode bLaw_law 401 = .ok (.goto 4, 3) := by decide +kernel
theorem dLaw_law_404 : decode bLaw_law 404 = .ok (.iconst 0, 1) := by decide +kernel
theorem dLaw_law_405 : decode bLaw_law 405 = .ok (.aload_n 3, 1) := by decide +kernel
theorem dLaw_law_406 : decode bLaw_law 406 = .ok (.invokestatic 78, 3) := by decide +kernel
theorem dLaw_law_409 : decode bLaw_law 409 = .ok (.istore 5, 2) := by decide +kernel
theorem dLaw_law_411 : decode bLaw_law 411 = .ok (.aload_n 2, 1) := by decide +kernel
theorem dLaw_law_412 : decode bLaw_law 412 = .ok (.aload_n 0, 1) := by decide +kernel
theorem dLaw_law_413 : decode bLaw_law 413 = .ok (.iload 4, 2) := by decide +kernel
theorem dLaw_law_415 : decode bLaw_law 415 = .ok (.iconst 1, 1) := by decide +kernel
theorem dLaw_law_416 : decode bLaw_law 416 = .ok (.iadd, 1) := by decide +kernel
theorem dLaw_law_417 : decode bLaw_law 417 = .ok (.iaload, 1) := by decide +kernel
theorem dLaw_law_418 : decode bLaw_law 418 = .ok (.aload_n 0, 1) := by decide +kernel
theorem dLaw_law_419 : decode bLaw_law 419 = .ok (.iload 4, 2) := by decide +kernel
theorem dLaw_law_421 : decode bLaw_law 421 = .ok (.iconst 2, 1) := by decide +kernel
theorem dLaw_law_422 : decode bLaw_law 422 = .ok (.iadd, 1) := by decide +kernel
theorem dLaw_law_423 : decode bLaw_law 423 = .ok (.iaload, 1) := by decide +kernel
theorem dLaw_law_424 : decode bLaw_law 424 = .ok (.ifCond .eq 7, 3) := by decide +kernel
theorem dLaw_law_427 : decode bLaw_law 427 = .ok (.iconst 1, 1) := by decide +kernel
theorem dLaw_law_428 : decode bLaw_law 428 = .ok (.goto 4, 3) := by decide +kernel
theorem dLaw_law_431 : decode bLaw_law 431 = .ok (.iconst 0, 1) := by decide +kernel
theorem dLaw_law_432 : decode bLaw_law 432 = .ok (.aload_n 0, 1) := by decide +kernel
theorem dLaw_law_433 : decode bLaw_law 433 = .ok (.iload 4, 2) := by decide +kernel
theorem dLaw_law_435 : decode bLaw_law 435 = .ok (.iconst 3, 1) := by decide +kernel
theorem dLaw_law_436 : decode bLaw_law 436 = .ok (.iadd, 1) := by decide +kernel
theorem dLaw_law_437 : decode bLaw_law 437 = .ok (.iaload, 1) := by decide +kernel
theorem dLaw_law_438 : decode bLaw_law 438 = .ok (.aload_n 0, 1) := by decide +kernel
theorem dLaw_law_439 : decode bLaw_law 439 = .ok (.iload 4, 2) := by decide +kernel
theorem dLaw_law_441 : decode bLaw_law 441 = .ok (.iconst 4, 1) := by decide +kernel
theorem dLaw_law_442 : decode bLaw_law 442 = .ok (.iadd, 1) := by decide +kernel
theorem dLaw_law_443 : decode bLaw_law 443 = .ok (.iaload, 1) := by decide +kernel
theorem dLaw_law_444 : decode bLaw_law 444 = .ok (.ifCond .eq 7, 3) := by decide +kernel
theorem dLaw_law_447 : decode bLaw_law 447 = .ok (.iconst 1, 1) := by decide +kernel
theorem dLaw_law_448 : decode bLaw_law 448 = .ok (.goto 4, 3) := by decide +kernel
theorem dLaw_law_451 : decode bLaw_law 451 = .ok (.iconst 0, 1) := by decide +kernel
theorem dLaw_law_452 : decode bLaw_law 452 = .ok (.invokevirtual 81, 3) := by decide +kernel
theorem dLaw_law_455 : decode bLaw_law 455 = .ok (.istore 6, 2) := by decide +kernel
theorem dLaw_law_457 : decode bLaw_law 457 = .ok (.aload_n 2, 1) := by decide +kernel
theorem dLaw_law_458 : decode bLaw_law 458 = .ok (.invokevirtual 68, 3) := by decide +kernel
theorem dLaw_law_461 : decode bLaw_law 461 = .ok (.iload 5, 2) := by decide +kernel
theorem dLaw_law_463 : decode bLaw_law 463 = .ok (.if_icmp .eq 5, 3) := by decide +kernel
theorem dLaw_law_466 : decode bLaw_law 466 = .ok (.iconst 0, 1) := by decide +kernel
theorem dLaw_law_467 : decode bLaw_law 467 = .ok (.ireturn, 1) := by decide +kernel
theorem dLaw_law_468 : decode bLaw_law 468 = .ok (.iload 5, 2) := by decide +kernel
theorem dLaw_law_470 : decode bLaw_law 470 = .ok (.ifCond .ne 15, 3) := by decide +kernel
theorem dLaw_law_473 : decode bLaw_law 473 = .ok (.aload_n 3, 1) := by decide +kernel
theorem dLaw_law_474 : decode bLaw_law 474 = .ok (.iconst 0, 1) := by decide +kernel
theorem dLaw_law_475 : decode bLaw_law 475 = .ok (.laload, 1) := by decide +kernel
theorem dLaw_law_476 : decode bLaw_law 476 = .ok (.iload 6, 2) := by decide +kernel
theorem dLaw_law_478 : decode bLaw_law 478 = .ok (.i2l, 1) := by decide +kernel
theorem dLaw_law_479 : decode bLaw_law 479 = .ok (.lcmp, 1) := by decide +kernel
theorem dLaw_law_480 : decode bLaw_law 480 = .ok (.ifCond .eq 5, 3) := by decide +kernel
theorem dLaw_law_483 : decode bLaw_law 483 = .ok (.iconst 0, 1) := by decide +kernel
theorem dLaw_law_484 : decode bLaw_law 484 = .ok (.ireturn, 1) := by decide +kernel
theorem dLaw_law_485 : decode bLaw_law 485 = .ok (.goto 615, 3) := by decide +kernel
theorem dLaw_law_488 : decode bLaw_law 488 = .ok (.aload_n 1, 1) := by decide +kernel
theorem dLaw_law_489 : decode bLaw_law 489 = .ok (.aload_n 0, 1) := by decide +kernel
theorem dLaw_law_490 : decode bLaw_law 490 = .ok (.iload 4, 2) := by decide +kernel
theorem dLaw_law_492 : decode bLaw_law 492 = .ok (.iconst 1, 1) := by decide +kernel
theorem dLaw_law_493 : decode bLaw_law 493 = .ok (.iadd, 1) := by decide +kernel
theorem dLaw_law_494 : decode bLaw_law 494 = .ok (.iaload, 1) := by decide +kernel
theorem dLaw_law_495 : decode bLaw_law 495 = .ok (.aload_n 0, 1) := by decide +kernel
theorem dLaw_law_496 : decode bLaw_law 496 = .ok (.iload 4, 2) := by decide +kernel
theorem dLaw_law_498 : decode bLaw_law 498 = .ok (.iconst 2, 1) := by decide +kernel
theorem dLaw_law_499 : decode bLaw_law 499 = .ok (.iadd, 1) := by decide +kernel
theorem dLaw_law_500 : decode bLaw_law 500 = .ok (.iaload, 1) := by decide +kernel
theorem dLaw_law_501 : decode bLaw_law 501 = .ok (.aload_n 3, 1) := by decide +kernel
theorem dLaw_law_502 : decode bLaw_law 502 = .ok (.invokestatic 82, 3) := by decide +kernel
theorem dLaw_law_505 : decode bLaw_law 505 = .ok (.istore 5, 2) := by decide +kernel
theorem dLaw_law_507 : decode bLaw_law 507 = .ok (.aload_n 2, 1) := by decide +kernel
theorem dLaw_law_508 : decode bLaw_law 508 = .ok (.aload_n 0, 1) := by decide +kernel
theorem dLaw_law_509 : decode bLaw_law 509 = .ok (.iload 4, 2) := by decide +kernel
theorem dLaw_law_511 : decode bLaw_law 511 = .ok (.iconst 1, 1) := by decide +kernel
theorem dLaw_law_512 : decode bLaw_law 512 = .ok (.iadd, 1) := by decide +kernel
theorem dLaw_law_513 : decode bLaw_law 513 = .ok (.iaload, 1) := by decide +kernel
theorem dLaw_law_514 : decode bLaw_law 514 = .ok (.aload_n 0, 1) := by decide +kernel
theorem dLaw_law_515 : decode bLaw_law 515 = .ok (.iload 4, 2) := by decide +kernel
theorem dLaw_law_517 : decode bLaw_law 517 = .ok (.iconst 2, 1) := by decide +kernel
theorem dLaw_law_518 : decode bLaw_law 518 = .ok (.iadd, 1) := by decide +kernel
theorem dLaw_law_519 : decode bLaw_law 519 = .ok (.iaload, 1) := by decide +kernel
theorem dLaw_law_520 : decode bLaw_law 520 = .ok (.invokevirtual 84, 3) := by decide +kernel
theorem dLaw_law_523 : decode bLaw_law 523 = .ok (.istore 6, 2) := by decide +kernel
theorem dLaw_law_525 : decode bLaw_law 525 = .ok (.aload_n 2, 1) := by decide +kernel
theorem dLaw_law_526 : decode bLaw_law 526 = .ok (.invokevirtual 68, 3) := by decide +kernel
theorem dLaw_law_529 : decode bLaw_law 529 = .ok (.iload 5, 2) := by decide +kernel
theorem dLaw_law_531 : decode bLaw_law 531 = .ok (.if_icmp .eq 5, 3) := by decide +kernel
theorem dLaw_law_534 : decode bLaw_law 534 = .ok (.iconst 0, 1) := by decide +kernel
theorem dLaw_law_535 : decode bLaw_law 535 = .ok (.ireturn, 1) := by decide +kernel
theorem dLaw_law_536 : decode bLaw_law 536 = .ok (.iload 5, 2) := by decide +kernel
theorem dLaw_law_538 : decode bLaw_law 538 = .ok (.ifCond .ne 15, 3) := by decide +kernel
theorem dLaw_law_541 : decode bLaw_law 541 = .ok (.aload_n 3, 1) := by decide +kernel
theorem dLaw_law_542 : decode bLaw_law 542 = .ok (.iconst 0, 1) := by decide +kernel
theorem dLaw_law_543 : decode bLaw_law 543 = .ok (.laload, 1) := by decide +kernel
theorem dLaw_law_544 : decode bLaw_law 544 = .ok (.iload 6, 2) := by decide +kernel
theorem dLaw_law_546 : decode bLaw_law 546 = .ok (.i2l, 1) := by decide +kernel
theorem dLaw_law_547 : decode bLaw_law 547 = .ok (.lcmp, 1) := by decide +kernel
theorem dLaw_law_548 : decode bLaw_law 548 = .ok (.ifCond .eq 5, 3) := by decide +kernel
theorem dLaw_law_551 : decode bLaw_law 551 = .ok (.iconst 0, 1) := by decide +kernel
theorem dLaw_law_552 : decode bLaw_law 552 = .ok (.ireturn, 1) := by decide +kernel
theorem dLaw_law_553 : decode bLaw_law 553 = .ok (.goto 547, 3) := by decide +kernel
theorem dLaw_law_556 : decode bLaw_law 556 = .ok (.aload_n 1, 1) := by decide +kernel
theorem dLaw_law_557 : decode bLaw_law 557 = .ok (.aload_n 0, 1) := by decide +kernel
theorem dLaw_law_558 : decode bLaw_law 558 = .ok (.iload 4, 2) := by decide +kernel
theorem dLaw_law_560 : decode bLaw_law 560 = .ok (.iconst 1, 1) := by decide +kernel
theorem dLaw_law_561 : decode bLaw_law 561 = .ok (.iadd, 1) := by decide +kernel
theorem dLaw_law_562 : decode bLaw_law 562 = .ok (.iaload, 1) := by decide +kernel
theorem dLaw_law_563 : decode bLaw_law 563 = .ok (.aload_n 0, 1) := by decide +kernel
theorem dLaw_law_564 : decode bLaw_law 564 = .ok (.iload 4, 2) := by decide +kernel
theorem dLaw_law_566 : decode bLaw_law 566 = .ok (.iconst 2, 1) := by decide +kernel
theorem dLaw_law_567 : decode bLaw_law 567 = .ok (.iadd, 1) := by decide +kernel
theorem dLaw_law_568 : decode bLaw_law 568 = .ok (.iaload, 1) := by decide +kernel
theorem dLaw_law_569 : decode bLaw_law 569 = .ok (.aload_n 3, 1) := by decide +kernel
theorem dLaw_law_570 : decode bLaw_law 570 = .ok (.invokestatic 85, 3) := by decide +kernel
theorem dLaw_law_573 : decode bLaw_law 573 = .ok (.istore 5, 2) := by decide +kernel
theorem dLaw_law_575 : decode bLaw_law 575 = .ok (.aload_n 2, 1) := by decide +kernel
theorem dLaw_law_576 : decode bLaw_law 576 = .ok (.aload_n 0, 1) := by decide +kernel
theorem dLaw_law_577 : decode bLaw_law 577 = .ok (.iload 4, 2) := by decide +kernel
theorem dLaw_law_579 : decode bLaw_law 579 = .ok (.iconst 1, 1) := by decide +kernel
theorem dLaw_law_580 : decode bLaw_law 580 = .ok (.iadd, 1) := by decide +kernel
theorem dLaw_law_581 : decode bLaw_law 581 = .ok (.iaload, 1) := by decide +kernel
theorem dLaw_law_582 : decode bLaw_law 582 = .ok (.aload_n 0, 1) := by decide +kernel
theorem dLaw_law_583 : decode bLaw_law 583 = .ok (.iload 4, 2) := by decide +kernel
theorem dLaw_law_585 : decode bLaw_law 585 = .ok (.iconst 2, 1) := by decide +kernel
theorem dLaw_law_586 : decode bLaw_law 586 = .ok (.iadd, 1) := by decide +kernel
theorem dLaw_law_587 : decode bLaw_law 587 = .ok (.iaload, 1) := by decide +kernel
theorem dLaw_law_588 : decode bLaw_law 588 = .ok (.invokevirtual 87, 3) := by decide +kernel
theorem dLaw_law_591 : decode bLaw_law 591 = .ok (.istore 6, 2) := by decide +kernel
theorem dLaw_law_593 : decode bLaw_law 593 = .ok (.aload_n 2, 1) := by decide +kernel
theorem dLaw_law_594 : decode bLaw_law 594 = .ok (.invokevirtual 68, 3) := by decide +kernel
theorem dLaw_law_597 : decode bLaw_law 597 = .ok (.iload 5, 2) := by decide +kernel
theorem dLaw_law_599 : decode bLaw_law 599 = .ok (.if_icmp .eq 5, 3) := by decide +kernel
theorem dLaw_law_602 : decode bLaw_law 602 = .ok (.iconst 0, 1) := by decide +kernel
theorem dLaw_law_603 : decode bLaw_law 603 = .ok (.ireturn, 1) := by decide +kernel
theorem dLaw_law_604 : decode bLaw_law 604 = .ok (.iload 5, 2) := by decide +kernel
theorem dLaw_law_606 : decode bLaw_law 606 = .ok (.ifCond .ne 15, 3) := by decide +kernel
theorem dLaw_law_609 : decode bLaw_law 609 = .ok (.aload_n 3, 1) := by decide +kernel
theorem dLaw_law_610 : decode bLaw_law 610 = .ok (.iconst 0, 1) := by decide +kernel
theorem dLaw_law_611 : decode bLaw_law 611 = .ok (.laload, 1) := by decide +kernel
theorem dLaw_law_612 : decode bLaw_law 612 = .ok (.iload 6, 2) := by decide +kernel
theorem dLaw_law_614 : decode bLaw_law 614 = .ok (.i2l, 1) := by decide +kernel
theorem dLaw_law_615 : decode bLaw_law 615 = .ok (.lcmp, 1) := by decide +kernel
theorem dLaw_law_616 : decode bLaw_law 616 = .ok (.ifCond .eq 5, 3) := by decide +kernel
theorem dLaw_law_619 : decode bLaw_law 619 = .ok (.iconst 0, 1) := by decide +kernel
theorem dLaw_law_620 : decode bLaw_law 620 = .ok (.ireturn, 1) := by decide +kernel
theorem dLaw_law_621 : decode bLaw_law 621 = .ok (.goto 479, 3) := by decide +kernel
theorem dLaw_law_624 : decode bLaw_law 624 = .ok (.aload_n 1, 1) := by decide +kernel
theorem dLaw_law_625 : decode bLaw_law 625 = .ok (.aload_n 0, 1) := by decide +kernel
theorem dLaw_law_626 : decode bLaw_law 626 = .ok (.iload 4, 2) := by decide +kernel
theorem dLaw_law_628 : decode bLaw_law 628 = .ok (.iconst 1, 1) := by decide +kernel
theorem dLaw_law_629 : decode bLaw_law 629 = .ok (.iadd, 1) := by decide +kernel
theorem dLaw_law_630 : decode bLaw_law 630 = .ok (.iaload, 1) := by decide +kernel
theorem dLaw_law_631 : decode bLaw_law 631 = .ok (.ifCond .eq 7, 3) := by decide +kernel
theorem dLaw_law_634 : decode bLaw_law 634 = .ok (.iconst 1, 1) := by decide +kernel
theorem dLaw_law_635 : decode bLaw_law 635 = .ok (.goto 4, 3) := by decide +kernel
theorem dLaw_law_638 : decode bLaw_law 638 = .ok (.iconst 0, 1) := by decide +kernel
theorem dLaw_law_639 : decode bLaw_law 639 = .ok (.aload_n 0, 1) := by decide +kernel
theorem dLaw_law_640 : decode bLaw_law 640 = .ok (.iload 4, 2) := by decide +kernel
theorem dLaw_law_642 : decode bLaw_law 642 = .ok (.iconst 2, 1) := by decide +kernel
theorem dLaw_law_643 : decode bLaw_law 643 = .ok (.iadd, 1) := by decide +kernel
theorem dLaw_law_644 : decode bLaw_law 644 = .ok (.iaload, 1) := by decide +kernel
theorem dLaw_law_645 : decode bLaw_law 645 = .ok (.aload_n 3, 1) := by decide +kernel
theorem dLaw_law_646 : decode bLaw_law 646 = .ok (.invokestatic 88, 3) := by decide +kernel
theorem dLaw_law_649 : decode bLaw_law 649 = .ok (.istore 5, 2) := by decide +kernel
theorem dLaw_law_651 : decode bLaw_law 651 = .ok (.aload_n 2, 1) := by decide +kernel
theorem dLaw_law_652 : decode bLaw_law 652 = .ok (.aload_n 0, 1) := by decide +kernel
theorem dLaw_law_653 : decode bLaw_law 653 = .ok (.iload 4, 2) := by decide +kernel
theorem dLaw_law_655 : decode bLaw_law 655 = .ok (.iconst 1, 1) := by decide +kernel
theorem dLaw_law_656 : decode bLaw_law 656 = .ok (.iadd, 1) := by decide +kernel
theorem dLaw_law_657 : decode bLaw_law 657 = .ok (.iaload, 1) := by decide +kernel
theorem dLaw_law_658 : decode bLaw_law 658 = .ok (.ifCond .eq 7, 3) := by decide +kernel
theorem dLaw_law_661 : decode bLaw_law 661 = .ok (.iconst 1, 1) := by decide +kernel
theorem dLaw_law_662 : decode bLaw_law 662 = .ok (.goto 4, 3) := by decide +kernel
theorem dLaw_law_665 : decode bLaw_law 665 = .ok (.iconst 0, 1) := by decide +kernel
theorem dLaw_law_666 : decode bLaw_law 666 = .ok (.aload_n 0, 1) := by decide +kernel
theorem dLaw_law_667 : decode bLaw_law 667 = .ok (.iload 4, 2) := by decide +kernel
theorem dLaw_law_669 : decode bLaw_law 669 = .ok (.iconst 2, 1) := by decide +kernel
theorem dLaw_law_670 : decode bLaw_law 670 = .ok (.iadd, 1) := by decide +kernel
theorem dLaw_law_671 : decode bLaw_law 671 = .ok (.iaload, 1) := by decide +kernel
theorem dLaw_law_672 : decode bLaw_law 672 = .ok (.invokevirtual 91, 3) := by decide +kernel
theorem dLaw_law_675 : decode bLaw_law 675 = .ok (.istore 6, 2) := by decide +kernel
theorem dLaw_law_677 : decode bLaw_law 677 = .ok (.aload_n 2, 1) := by decide +kernel
theorem dLaw_law_678 : decode bLaw_law 678 = .ok (.invokevirtual 68, 3) := by decide +kernel
theorem dLaw_law_681 : decode bLaw_law 681 = .ok (.iload 5, 2) := by decide +kernel
theorem dLaw_law_683 : decode bLaw_law 683 = .ok (.if_icmp .eq 5, 3) := by decide +kernel
theorem dLaw_law_686 : decode bLaw_law 686 = .ok (.iconst 0, 1) := by decide +kernel
theorem dLaw_law_687 : decode bLaw_law 687 = .ok (.ireturn, 1) := by decide +kernel
theorem dLaw_law_688 : decode bLaw_law 688 = .ok (.iload 5, 2) := by decide +kernel
theorem dLaw_law_690 : decode bLaw_law 690 = .ok (.ifCond .ne 15, 3) := by decide +kernel
theorem dLaw_law_693 : decode bLaw_law 693 = .ok (.aload_n 3, 1) := by decide +kernel
theorem dLaw_law_694 : decode bLaw_law 694 = .ok (.iconst 0, 1) := by decide +kernel
theorem dLaw_law_695 : decode bLaw_law 695 = .ok (.laload, 1) := by decide +kernel
theorem dLaw_law_696 : decode bLaw_law 696 = .ok (.iload 6, 2) := by decide +kernel
theorem dLaw_law_698 : decode bLaw_law 698 = .ok (.i2l, 1) := by decide +kernel
theorem dLaw_law_699 : decode bLaw_law 699 = .ok (.lcmp, 1) := by decide +kernel
theorem dLaw_law_700 : decode bLaw_law 700 = .ok (.ifCond .eq 5, 3) := by decide +kernel
theorem dLaw_law_703 : decode bLaw_law 703 = .ok (.iconst 0, 1) := by decide +kernel
theorem dLaw_law_704 : decode bLaw_law 704 = .ok (.ireturn, 1) := by decide +kernel
theorem dLaw_law_705 : decode bLaw_law 705 = .ok (.goto 395, 3) := by decide +kernel
theorem dLaw_law_708 : decode bLaw_law 708 = .ok (.aload_n 1, 1) := by decide +kernel
theorem dLaw_law_709 : decode bLaw_law 709 = .ok (.aload_n 0, 1) := by decide +kernel
theorem dLaw_law_710 : decode bLaw_law 710 = .ok (.iload 4, 2) := by decide +kernel
theorem dLaw_law_712 : decode bLaw_law 712 = .ok (.iconst 1, 1) := by decide +kernel
theorem dLaw_law_713 : decode bLaw_law 713 = .ok (.iadd, 1) := by decide +kernel
theorem dLaw_law_714 : decode bLaw_law 714 = .ok (.iaload, 1) := by decide +kernel
theorem dLaw_law_715 : decode bLaw_law 715 = .ok (.ifCond .eq 7, 3) := by decide +kernel
theorem dLaw_law_718 : decode bLaw_law 718 = .ok (.iconst 1, 1) := by decide +kernel
theorem dLaw_law_719 : decode bLaw_law 719 = .ok (.goto 4, 3) := by decide +kernel
theorem dLaw_law_722 : decode bLaw_law 722 = .ok (.iconst 0, 1) := by decide +kernel
theorem dLaw_law_723 : decode bLaw_law 723 = .ok (.invokevirtual 92, 3) := by decide +kernel
theorem dLaw_law_726 : decode bLaw_law 726 = .ok (.aload_n 2, 1) := by decide +kernel
theorem dLaw_law_727 : decode bLaw_law 727 = .ok (.aload_n 0, 1) := by decide +kernel
theorem dLaw_law_728 : decode bLaw_law 728 = .ok (.iload 4, 2) := by decide +kernel
theorem dLaw_law_730 : decode bLaw_law 730 = .ok (.iconst 1, 1) := by decide +kernel
theorem dLaw_law_731 : decode bLaw_law 731 = .ok (.iadd, 1) := by decide +kernel
theorem dLaw_law_732 : decode bLaw_law 732 = .ok (.iaload, 1) := by decide +kernel
theorem dLaw_law_733 : decode bLaw_law 733 = .ok (.ifCond .eq 7, 3) := by decide +kernel
theorem dLaw_law_736 : decode bLaw_law 736 = .ok (.iconst 1, 1) := by decide +kernel
theorem dLaw_law_737 : decode bLaw_law 737 = .ok (.goto 4, 3) := by decide +kernel
theorem dLaw_law_740 : decode bLaw_law 740 = .ok (.iconst 0, 1) := by decide +kernel
theorem dLaw_law_741 : decode bLaw_law 741 = .ok (.invokevirtual 96, 3) := by decide +kernel
theorem dLaw_law_744 : decode bLaw_law 744 = .ok (.if_icmp .eq 356, 3) := by decide +kernel
theorem dLaw_law_747 : decode bLaw_law 747 = .ok (.iconst 0, 1) := by decide +kernel
theorem dLaw_law_748 : decode bLaw_law 748 = .ok (.ireturn, 1) := by decide +kernel
theorem dLaw_law_749 : decode bLaw_law 749 = .ok (.aload_n 1, 1) := by decide +kernel
theorem dLaw_law_750 : decode bLaw_law 750 = .ok (.invokevirtual 97, 3) := by decide +kernel
theorem dLaw_law_753 : decode bLaw_law 753 = .ok (.aload_n 2, 1) := by decide +kernel
theorem dLaw_law_754 : decode bLaw_law 754 = .ok (.invokevirtual 101, 3) := by decide +kernel
theorem dLaw_law_757 : decode bLaw_law 757 = .ok (.if_icmp .eq 343, 3) := by decide +kernel
theorem dLaw_law_760 : decode bLaw_law 760 = .ok (.iconst 0, 1) := by decide +kernel
theorem dLaw_law_761 : decode bLaw_law 761 = .ok (.ireturn, 1) := by decide +kernel
theorem dLaw_law_762 : decode bLaw_law 762 = .ok (.aload_n 1, 1) := by decide +kernel
theorem dLaw_law_763 : decode bLaw_law 763 = .ok (.invokevirtual 102, 3) := by decide +kernel
theorem dLaw_law_766 : decode bLaw_law 766 = .ok (.aload_n 2, 1) := by decide +kernel
theorem dLaw_law_767 : decode bLaw_law 767 = .ok (.invokevirtual 105, 3) := by decide +kernel
theorem dLaw_law_770 : decode bLaw_law 770 = .ok (.if_icmp .eq 330, 3) := by decide +kernel
theorem dLaw_law_773 : decode bLaw_law 773 = .ok (.iconst 0, 1) := by decide +kernel
theorem dLaw_law_774 : decode bLaw_law 774 = .ok (.ireturn, 1) := by decide +kernel
theorem dLaw_law_775 : decode bLaw_law 775 = .ok (.aload_n 1, 1) := by decide +kernel
theorem dLaw_law_776 : decode bLaw_law 776 = .ok (.aload_n 3, 1) := by decide +kernel
theorem dLaw_law_777 : decode bLaw_law 777 = .ok (.invokestatic 106, 3) := by decide +kernel
theorem dLaw_law_780 : decode bLaw_law 780 = .ok (.istore 5, 2) := by decide +kernel
theorem dLaw_law_782 : decode bLaw_law 782 = .ok (.aload_n 2, 1) := by decide +kernel
theorem dLaw_law_783 : decode bLaw_law 783 = .ok (.invokevirtual 109, 3) := by decide +kernel
theorem dLaw_law_786 : decode bLaw_law 786 = .ok (.istore 6, 2) := by decide +kernel
theorem dLaw_law_788 : decode bLaw_law 788 = .ok (.aload_n 2, 1) := by decide +kernel
theorem dLaw_law_789 : decode bLaw_law 789 = .ok (.invokevirtual 68, 3) := by decide +kernel
theorem dLaw_law_792 : decode bLaw_law 792 = .ok (.iload 5, 2) := by decide +kernel
theorem dLaw_law_794 : decode bLaw_law 794 = .ok (.if_icmp .eq 5, 3) := by decide +kernel
theorem dLaw_law_797 : decode bLaw_law 797 = .ok (.iconst 0, 1) := by decide +kernel
theorem dLaw_law_798 : decode bLaw_law 798 = .ok (.ireturn, 1) := by decide +kernel
theorem dLaw_law_799 : decode bLaw_law 799 = .ok (.iload 5, 2) := by decide +kernel
theorem dLaw_law_801 : decode bLaw_law 801 = .ok (.ifCond .ne 15, 3) := by decide +kernel
theorem dLaw_law_804 : decode bLaw_law 804 = .ok (.aload_n 3, 1) := by decide +kernel
theorem dLaw_law_805 : decode bLaw_law 805 = .ok (.iconst 0, 1) := by decide +kernel
theorem dLaw_law_806 : decode bLaw_law 806 = .ok (.laload, 1) := by decide +kernel
theorem dLaw_law_807 : decode bLaw_law 807 = .ok (.iload 6, 2) := by decide +kernel
theorem dLaw_law_809 : decode bLaw_law 809 = .ok (.i2l, 1) := by decide +kernel
theorem dLaw_law_810 : decode bLaw_law 810 = .ok (.lcmp, 1) := by decide +kernel
theorem dLaw_law_811 : decode bLaw_law 811 = .ok (.ifCond .eq 5, 3) := by decide +kernel
theorem dLaw_law_814 : decode bLaw_law 814 = .ok (.iconst 0, 1) := by decide +kernel
theorem dLaw_law_815 : decode bLaw_law 815 = .ok (.ireturn, 1) := by decide +kernel
theorem dLaw_law_816 : decode bLaw_law 816 = .ok (.goto 284, 3) := by decide +kernel
theorem dLaw_law_819 : decode bLaw_law 819 = .ok (.aload_n 1, 1) := by decide +kernel
theorem dLaw_law_820 : decode bLaw_law 820 = .ok (.aload_n 3, 1) := by decide +kernel
theorem dLaw_law_821 : decode bLaw_law 821 = .ok (.invokestatic 110, 3) := by decide +kernel
theorem dLaw_law_824 : decode bLaw_law 824 = .ok (.istore 5, 2) := by decide +kernel
theorem dLaw_law_826 : decode bLaw_law 826 = .ok (.aload_n 2, 1) := by decide +kernel
theorem dLaw_law_827 : decode bLaw_law 827 = .ok (.invokevirtual 112, 3) := by decide +kernel
theorem dLaw_law_830 : decode bLaw_law 830 = .ok (.istore 6, 2) := by decide +kernel
theorem dLaw_law_832 : decode bLaw_law 832 = .ok (.aload_n 2, 1) := by decide +kernel
theorem dLaw_law_833 : decode bLaw_law 833 = .ok (.invokevirtual 68, 3) := by decide +kernel
theorem dLaw_law_836 : decode bLaw_law 836 = .ok (.iload 5, 2) := by decide +kernel
theorem dLaw_law_838 : decode bLaw_law 838 = .ok (.if_icmp .eq 5, 3) := by decide +kernel
theorem dLaw_law_841 : decode bLaw_law 841 = .ok (.iconst 0, 1) := by decide +kernel
theorem dLaw_law_842 : decode bLaw_law 842 = .ok (.ireturn, 1) := by decide +kernel
theorem dLaw_law_843 : decode bLaw_law 843 = .ok (.iload 5, 2) := by decide +kernel
theorem dLaw_law_845 : decode bLaw_law 845 = .ok (.ifCond .ne 15, 3) := by decide +kernel
theorem dLaw_law_848 : decode bLaw_law 848 = .ok (.aload_n 3, 1) := by decide +kernel
theorem dLaw_law_849 : decode bLaw_law 849 = .ok (.iconst 0, 1) := by decide +kernel
theorem dLaw_law_850 : decode bLaw_law 850 = .ok (.laload, 1) := by decide +kernel
theorem dLaw_law_851 : decode bLaw_law 851 = .ok (.iload 6, 2) := by decide +kernel
theorem dLaw_law_853 : decode bLaw_law 853 = .ok (.i2l, 1) := by decide +kernel
theorem dLaw_law_854 : decode bLaw_law 854 = .ok (.lcmp, 1) := by decide +kernel
theorem dLaw_law_855 : decode bLaw_law 855 = .ok (.ifCond .eq 5, 3) := by decide +kernel
theorem dLaw_law_858 : decode bLaw_law 858 = .ok (.iconst 0, 1) := by decide +kernel
theorem dLaw_law_859 : decode bLaw_law 859 = .ok (.ireturn, 1) := by decide +kernel
theorem dLaw_law_860 : decode bLaw_law 860 = .ok (.goto 240, 3) := by decide +kernel
theorem dLaw_law_863 : decode bLaw_law 863 = .ok (.aload_n 1, 1) := by decide +kernel
theorem dLaw_law_864 : decode bLaw_law 864 = .ok (.aload_n 0, 1) := by decide +kernel
theorem dLaw_law_865 : decode bLaw_law 865 = .ok (.iload 4, 2) := by decide +kernel
theorem dLaw_law_867 : decode bLaw_law 867 = .ok (.iconst 1, 1) := by decide +kernel
theorem dLaw_law_868 : decode bLaw_law 868 = .ok (.iadd, 1) := by decide +kernel
theorem dLaw_law_869 : decode bLaw_law 869 = .ok (.iaload, 1) := by decide +kernel
theorem dLaw_law_870 : decode bLaw_law 870 = .ok (.aload_n 0, 1) := by decide +kernel
theorem dLaw_law_871 : decode bLaw_law 871 = .ok (.iload 4, 2) := by decide +kernel
theorem dLaw_law_873 : decode bLaw_law 873 = .ok (.iconst 2, 1) := by decide +kernel
theorem dLaw_law_874 : decode bLaw_law 874 = .ok (.iadd, 1) := by decide +kernel
theorem dLaw_law_875 : decode bLaw_law 875 = .ok (.iaload, 1) := by decide +kernel
theorem dLaw_law_876 : decode bLaw_law 876 = .ok (.ifCond .eq 7, 3) := by decide +kernel
theorem dLaw_law_879 : decode bLaw_law 879 = .ok (.iconst 1, 1) := by decide +kernel
theorem dLaw_law_880 : decode bLaw_law 880 = .ok (.goto 4, 3) := by decide +kernel
theorem dLaw_law_883 : decode bLaw_law 883 = .ok (.iconst 0, 1) := by decide +kernel
theorem dLaw_law_884 : decode bLaw_law 884 = .ok (.aload_n 3, 1) := by decide +kernel
theorem dLaw_law_885 : decode bLaw_law 885 = .ok (.invokestatic 113, 3) := by decide +kernel
theorem dLaw_law_888 : decode bLaw_law 888 = .ok (.istore 5, 2) := by decide +kernel
theorem dLaw_law_890 : decode bLaw_law 890 = .ok (.aload_n 2, 1) := by decide +kernel
theorem dLaw_law_891 : decode bLaw_law 891 = .ok (.aload_n 0, 1) := by decide +kernel
theorem dLaw_law_892 : decode bLaw_law 892 = .ok (.iload 4, 2) := by decide +kernel
theorem dLaw_law_894 : decode bLaw_law 894 = .ok (.iconst 1, 1) := by decide +kernel
theorem dLaw_law_895 : decode bLaw_law 895 = .ok (.iadd, 1) := by decide +kernel
theorem dLaw_law_896 : decode bLaw_law 896 = .ok (.iaload, 1) := by decide +kernel
theorem dLaw_law_897 : decode bLaw_law 897 = .ok (.aload_n 0, 1) := by decide +kernel
theorem dLaw_law_898 : decode bLaw_law 898 = .ok (.iload 4, 2) := by decide +kernel
theorem dLaw_law_900 : decode bLaw_law 900 = .ok (.iconst 2, 1) := by decide +kernel
theorem dLaw_law_901 : decode bLaw_law 901 = .ok (.iadd, 1) := by decide +kernel
theorem dLaw_law_902 : decode bLaw_law 902 = .ok (.iaload, 1) := by decide +kernel
theorem dLaw_law_903 : decode bLaw_law 903 = .ok (.ifCond .eq 7, 3) := by decide +kernel
theorem dLaw_law_906 : decode bLaw_law 906 = .ok (.iconst 1, 1) := by decide +kernel
theorem dLaw_law_907 : decode bLaw_law 907 = .ok (.goto 4, 3) := by decide +kernel
theorem dLaw_law_910 : decode bLaw_law 910 = .ok (.iconst 0, 1) := by decide +kernel
theorem dLaw_law_911 : decode bLaw_law 911 = .ok (.invokevirtual 116, 3) := by decide +kernel
theorem dLaw_law_914 : decode bLaw_law 914 = .ok (.istore 6, 2) := by decide +kernel
theorem dLaw_law_916 : decode bLaw_law 916 = .ok (.aload_n 2, 1) := by decide +kernel
theorem dLaw_law_917 : decode bLaw_law 917 = .ok (.invokevirtual 68, 3) := by decide +kernel
theorem dLaw_law_920 : decode bLaw_law 920 = .ok (.iload 5, 2) := by decide +kernel
theorem dLaw_law_922 : decode bLaw_law 922 = .ok (.if_icmp .eq 5, 3) := by decide +kernel
theorem dLaw_law_925 : decode bLaw_law 925 = .ok (.iconst 0, 1) := by decide +kernel
theorem dLaw_law_926 : decode bLaw_law 926 = .ok (.ireturn, 1) := by decide +kernel
theorem dLaw_law_927 : decode bLaw_law 927 = .ok (.iload 5, 2) := by decide +kernel
theorem dLaw_law_929 : decode bLaw_law 929 = .ok (.ifCond .ne 15, 3) := by decide +kernel
theorem dLaw_law_932 : decode bLaw_law 932 = .ok (.aload_n 3, 1) := by decide +kernel
theorem dLaw_law_933 : decode bLaw_law 933 = .ok (.iconst 0, 1) := by decide +kernel
theorem dLaw_law_934 : decode bLaw_law 934 = .ok (.laload, 1) := by decide +kernel
theorem dLaw_law_935 : decode bLaw_law 935 = .ok (.iload 6, 2) := by decide +kernel
theorem dLaw_law_937 : decode bLaw_law 937 = .ok (.i2l, 1) := by decide +kernel
theorem dLaw_law_938 : decode bLaw_law 938 = .ok (.lcmp, 1) := by decide +kernel
theorem dLaw_law_939 : decode bLaw_law 939 = .ok (.ifCond .eq 5, 3) := by decide +kernel
theorem dLaw_law_942 : decode bLaw_law 942 = .ok (.iconst 0, 1) := by decide +kernel
theorem dLaw_law_943 : decode bLaw_law 943 = .ok (.ireturn, 1) := by decide +kernel
theorem dLaw_law_944 : decode bLaw_law 944 = .ok (.goto 156, 3) := by decide +kernel
theorem dLaw_law_947 : decode bLaw_law 947 = .ok (.aload_n 1, 1) := by decide +kernel
theorem dLaw_law_948 : decode bLaw_law 948 = .ok (.aload_n 0, 1) := by decide +kernel
theorem dLaw_law_949 : decode bLaw_law 949 = .ok (.iload 4, 2) := by decide +kernel
theorem dLaw_law_951 : decode bLaw_law 951 = .ok (.iconst 1, 1) := by decide +kernel
theorem dLaw_law_952 : decode bLaw_law 952 = .ok (.iadd, 1) := by decide +kernel
theorem dLaw_law_953 : decode bLaw_law 953 = .ok (.iaload, 1) := by decide +kernel
theorem dLaw_law_954 : decode bLaw_law 954 = .ok (.aload_n 0, 1) := by decide +kernel
theorem dLaw_law_955 : decode bLaw_law 955 = .ok (.iload 4, 2) := by decide +kernel
theorem dLaw_law_957 : decode bLaw_law 957 = .ok (.iconst 2, 1) := by decide +kernel
theorem dLaw_law_958 : decode bLaw_law 958 = .ok (.iadd, 1) := by decide +kernel
theorem dLaw_law_959 : decode bLaw_law 959 = .ok (.iaload, 1) := by decide +kernel
theorem dLaw_law_960 : decode bLaw_law 960 = .ok (.aload_n 0, 1) := by decide +kernel
theorem dLaw_law_961 : decode bLaw_law 961 = .ok (.iload 4, 2) := by decide +kernel
theorem dLaw_law_963 : decode bLaw_law 963 = .ok (.iconst 3, 1) := by decide +kernel
theorem dLaw_law_964 : decode bLaw_law 964 = .ok (.iadd, 1) := by decide +kernel
theorem dLaw_law_965 : decode bLaw_law 965 = .ok (.iaload, 1) := by decide +kernel
theorem dLaw_law_966 : decode bLaw_law 966 = .ok (.ifCond .eq 7, 3) := by decide +kernel
theorem dLaw_law_969 : decode bLaw_law 969 = .ok (.iconst 1, 1) := by decide +kernel
theorem dLaw_law_970 : decode bLaw_law 970 = .ok (.goto 4, 3) := by decide +kernel
theorem dLaw_law_973 : decode bLaw_law 973 = .ok (.iconst 0, 1) := by decide +kernel
theorem dLaw_law_974 : decode bLaw_law 974 = .ok (.aload_n 3, 1) := by decide +kernel
theorem dLaw_law_975 : decode bLaw_law 975 = .ok (.invokestatic 117, 3) := by decide +kernel
theorem dLaw_law_978 : decode bLaw_law 978 = .ok (.istore 5, 2) := by decide +kernel
theorem dLaw_law_980 : decode bLaw_law 980 = .ok (.aload_n 2, 1) := by decide +kernel
theorem dLaw_law_981 : decode bLaw_law 981 = .ok (.aload_n 0, 1) := by decide +kernel
theorem dLaw_law_982 : decode bLaw_law 982 = .ok (.iload 4, 2) := by decide +kernel
theorem dLaw_law_984 : decode bLaw_law 984 = .ok (.iconst 1, 1) := by decide +kernel
theorem dLaw_law_985 : decode bLaw_law 985 = .ok (.iadd, 1) := by decide +kernel
theorem dLaw_law_986 : decode bLaw_law 986 = .ok (.iaload, 1) := by decide +kernel
theorem dLaw_law_987 : decode bLaw_law 987 = .ok (.aload_n 0, 1) := by decide +kernel
theorem dLaw_law_988 : decode bLaw_law 988 = .ok (.iload 4, 2) := by decide +kernel
theorem dLaw_law_990 : decode bLaw_law 990 = .ok (.iconst 2, 1) := by decide +kernel
theorem dLaw_law_991 : decode bLaw_law 991 = .ok (.iadd, 1) := by decide +kernel
theorem dLaw_law_992 : decode bLaw_law 992 = .ok (.iaload, 1) := by decide +kernel
theorem dLaw_law_993 : decode bLaw_law 993 = .ok (.aload_n 0, 1) := by decide +kernel
theorem dLaw_law_994 : decode bLaw_law 994 = .ok (.iload 4, 2) := by decide +kernel
theorem dLaw_law_996 : decode bLaw_law 996 = .ok (.iconst 3, 1) := by decide +kernel
theorem dLaw_law_997 : decode bLaw_law 997 = .ok (.iadd, 1) := by decide +kernel
theorem dLaw_law_998 : decode bLaw_law 998 = .ok (.iaload, 1) := by decide +kernel
theorem dLaw_law_999 : decode bLaw_law 999 = .ok (.ifCond .eq 7, 3) := by decide +kernel
theorem dLaw_law_1002 : decode bLaw_law 1002 = .ok (.iconst 1, 1) := by decide +kernel
theorem dLaw_law_1003 : decode bLaw_law 1003 = .ok (.goto 4, 3) := by decide +kernel
theorem dLaw_law_1006 : decode bLaw_law 1006 = .ok (.iconst 0, 1) := by decide +kernel
theorem dLaw_law_1007 : decode bLaw_law 1007 = .ok (.invokevirtual 120, 3) := by decide +kernel
theorem dLaw_law_1010 : decode bLaw_law 1010 = .ok (.istore 6, 2) := by decide +kernel
theorem dLaw_law_1012 : decode bLaw_law 1012 = .ok (.aload_n 2, 1) := by decide +kernel
theorem dLaw_law_1013 : decode bLaw_law 1013 = .ok (.invokevirtual 68, 3) := by decide +kernel
theorem dLaw_law_1016 : decode bLaw_law 1016 = .ok (.iload 5, 2) := by decide +kernel
theorem dLaw_law_1018 : decode bLaw_law 1018 = .ok (.if_icmp .eq 5, 3) := by decide +kernel
theorem dLaw_law_1021 : decode bLaw_law 1021 = .ok (.iconst 0, 1) := by decide +kernel
theorem dLaw_law_1022 : decode bLaw_law 1022 = .ok (.ireturn, 1) := by decide +kernel
theorem dLaw_law_1023 : decode bLaw_law 1023 = .ok (.iload 5, 2) := by decide +kernel
theorem dLaw_law_1025 : decode bLaw_law 1025 = .ok (.ifCond .ne 15, 3) := by decide +kernel
theorem dLaw_law_1028 : decode bLaw_law 1028 = .ok (.aload_n 3, 1) := by decide +kernel
theorem dLaw_law_1029 : decode bLaw_law 1029 = .ok (.iconst 0, 1) := by decide +kernel
theorem dLaw_law_1030 : decode bLaw_law 1030 = .ok (.laload, 1) := by decide +kernel
theorem dLaw_law_1031 : decode bLaw_law 1031 = .ok (.iload 6, 2) := by decide +kernel
theorem dLaw_law_1033 : decode bLaw_law 1033 = .ok (.i2l, 1) := by decide +kernel
theorem dLaw_law_1034 : decode bLaw_law 1034 = .ok (.lcmp, 1) := by decide +kernel
theorem dLaw_law_1035 : decode bLaw_law 1035 = .ok (.ifCond .eq 5, 3) := by decide +kernel
theorem dLaw_law_1038 : decode bLaw_law 1038 = .ok (.iconst 0, 1) := by decide +kernel
theorem dLaw_law_1039 : decode bLaw_law 1039 = .ok (.ireturn, 1) := by decide +kernel
theorem dLaw_law_1040 : decode bLaw_law 1040 = .ok (.goto 60, 3) := by decide +kernel
theorem dLaw_law_1043 : decode bLaw_law 1043 = .ok (.aload_n 1, 1) := by decide +kernel
theorem dLaw_law_1044 : decode bLaw_law 1044 = .ok (.aload_n 3, 1) := by decide +kernel
theorem dLaw_law_1045 : decode bLaw_law 1045 = .ok (.invokestatic 121, 3) := by decide +kernel
theorem dLaw_law_1048 : decode bLaw_law 1048 = .ok (.istore 5, 2) := by decide +kernel
theorem dLaw_law_1050 : decode bLaw_law 1050 = .ok (.aload_n 2, 1) := by decide +kernel
theorem dLaw_law_1051 : decode bLaw_law 1051 = .ok (.invokevirtual 123, 3) := by decide +kernel
theorem dLaw_law_1054 : decode bLaw_law 1054 = .ok (.istore 6, 2) := by decide +kernel
theorem dLaw_law_1056 : decode bLaw_law 1056 = .ok (.aload_n 2, 1) := by decide +kernel
theorem dLaw_law_1057 : decode bLaw_law 1057 = .ok (.invokevirtual 68, 3) := by decide +kernel
theorem dLaw_law_1060 : decode bLaw_law 1060 = .ok (.iload 5, 2) := by decide +kernel
theorem dLaw_law_1062 : decode bLaw_law 1062 = .ok (.if_icmp .eq 5, 3) := by decide +kernel
theorem dLaw_law_1065 : decode bLaw_law 1065 = .ok (.iconst 0, 1) := by decide +kernel
theorem dLaw_law_1066 : decode bLaw_law 1066 = .ok (.ireturn, 1) := by decide +kernel
theorem dLaw_law_1067 : decode bLaw_law 1067 = .ok (.iload 5, 2) := by decide +kernel
theorem dLaw_law_1069 : decode bLaw_law 1069 = .ok (.ifCond .ne 15, 3) := by decide +kernel
theorem dLaw_law_1072 : decode bLaw_law 1072 = .ok (.aload_n 3, 1) := by decide +kernel
theorem dLaw_law_1073 : decode bLaw_law 1073 = .ok (.iconst 0, 1) := by decide +kernel
theorem dLaw_law_1074 : decode bLaw_law 1074 = .ok (.laload, 1) := by decide +kernel
theorem dLaw_law_1075 : decode bLaw_law 1075 = .ok (.iload 6, 2) := by decide +kernel
theorem dLaw_law_1077 : decode bLaw_law 1077 = .ok (.i2l, 1) := by decide +kernel
theorem dLaw_law_1078 : decode bLaw_law 1078 = .ok (.lcmp, 1) := by decide +kernel
theorem dLaw_law_1079 : decode bLaw_law 1079 = .ok (.ifCond .eq 5, 3) := by decide +kernel
theorem dLaw_law_1082 : decode bLaw_law 1082 = .ok (.iconst 0, 1) := by decide +kernel
theorem dLaw_law_1083 : decode bLaw_law 1083 = .ok (.ireturn, 1) := by decide +kernel
theorem dLaw_law_1084 : decode bLaw_law 1084 = .ok (.goto 16, 3) := by decide +kernel
theorem dLaw_law_1087 : decode bLaw_law 1087 = .ok (.aload_n 1, 1) := by decide +kernel
theorem dLaw_law_1088 : decode bLaw_law 1088 = .ok (.invokevirtual 124, 3) := by decide +kernel
theorem dLaw_law_1091 : decode bLaw_law 1091 = .ok (.aload_n 2, 1) := by decide +kernel
theorem dLaw_law_1092 : decode bLaw_law 1092 = .ok (.invokevirtual 127, 3) := by decide +kernel
theorem dLaw_law_1095 : decode bLaw_law 1095 = .ok (.if_icmp .eq 5, 3) := by decide +kernel
theorem dLaw_law_1098 : decode bLaw_law 1098 = .ok (.iconst 0, 1) := by decide +kernel
theorem dLaw_law_1099 : decode bLaw_law 1099 = .ok (.ireturn, 1) := by decide +kernel
theorem dLaw_law_1100 : decode bLaw_law 1100 = .ok (.iinc 4 5, 3) := by decide +kernel
theorem dLaw_law_1103 : decode bLaw_law 1103 = .ok (.goto (-1080), 3) := by decide +kernel
theorem dLaw_law_1106 : decode bLaw_law 1106 = .ok (.iconst 1, 1) := by decide +kernel
theorem dLaw_law_1107 : decode bLaw_law 1107 = .ok (.ireturn, 1) := by decide +kernel
end
section
theorem oi_PW_3 : Cond.methodLink "PairedWords" 3 Lib.objectInit ∈ xTAB := xin (List.mem_of_getElem? (i := 25) (by decide +kernel)) rfl
theorem oi_Pairs_3 : Cond.methodLink "PairedWords$Pairs" 3 Lib.objectInit ∈ xTAB := xin (List.mem_of_getElem? (i := 33) (by decide +kernel)) rfl
theorem oi_Rule_3 : Cond.methodLink "PairedWords$Rules" 3 Lib.objectInit ∈ xTAB := xin (List.mem_of_getElem? (i := 50) (by decide +kernel)) rfl
theorem oi_Patt_5 : Cond.methodLink "PairedWords$Patterns" 5 Lib.objectInit ∈ xTAB := xin (List.mem_of_getElem? (i := 56) (by decide +kernel)) rfl
theorem oi_Lexi_3 : Cond.methodLink "PairedWords$Lexicon" 3 Lib.objectInit ∈ xTAB := xin (List.mem_of_getElem? (i := 113) (by decide +kernel)) rfl
theorem oi_Line_3 : Cond.methodLink "PairedWords$Line" 3 Lib.objectInit ∈ xTAB := xin (List.mem_of_getElem? (i := 120) (by decide +kernel)) rfl
theorem oi_Samp_3 : Cond.methodLink "PairedWords$Samples" 3 Lib.objectInit ∈ xTAB := xin (List.mem_of_getElem? (i := 154) (by decide +kernel)) rfl
theorem oi_Resu_3 : Cond.methodLink "PairedWords$Results" 3 Lib.objectInit ∈ xTAB := xin (List.mem_of_getElem? (i := 172) (by decide +kernel)) rfl
theorem oi_Sear_3 : Cond.methodLink "PairedWords$Search" 3 Lib.objectInit ∈ xTAB := xin (List.mem_of_getElem? (i := 192) (by decide +kernel)) rfl
theorem oi_Mod_1 : Cond.methodLink "PairedWordsModel" 1 Lib.objectInit ∈ xTAB := xin (List.mem_of_getElem? (i := 823) (by decide +kernel)) rfl
theorem oi_1 : Cond.instanceMethod Lib.objectInit ∈ xTAB := xin (List.mem_of_getElem? (i := 26) (by decide +kernel)) rfl
theorem oi_2 : Cond.code Lib.objectInit ⟨#[0xb1]⟩ 1 none ∈ xTAB := xin (List.mem_of_getElem? (i := 27) (by decide +kernel)) rfl
theorem aw_int : Cond.arrayClass .int ∈ xTAB := xin (List.mem_of_getElem? (i := 44) (by decide +kernel)) rfl
theorem aw_long : Cond.arrayClass .long ∈ xTAB := xin (List.mem_of_getElem? (i := 183) (by decide +kernel)) rfl
theorem aw_boolean : Cond.arrayClass .boolean ∈ xTAB := xin (List.mem_of_getElem? (i := 951) (by decide +kernel)) rfl
theorem aw_Line : Cond.arrayOver (.object "PairedWords$Line") ∈ xTAB := xin (List.mem_of_getElem? (i := 115) (by decide +kernel)) rfl
theorem cl_Law_8 : Cond.classLink "PairedWordsLaw" 8 "PairedWords" ∈ xTAB := xin (List.mem_of_getElem? (i := 20) (by decide +kernel)) rfl
theorem cl_PW_9 : Cond.classLink "PairedWords" 9 "PairedWords$Pairs" ∈ xTAB := xin (List.mem_of_getElem? (i := 28) (by decide +kernel)) rfl
theorem cl_PW_16 : Cond.classLink "PairedWords" 16 "PairedWords$Rules" ∈ xTAB := xin (List.mem_of_getElem? (i := 45) (by decide +kernel)) rfl
theorem cl_Rule_9 : Cond.classLink "PairedWords$Rules" 9 "PairedWords$Patterns" ∈ xTAB := xin (List.mem_of_getElem? (i := 51) (by decide +kernel)) rfl
theorem cl_PW_23 : Cond.classLink "PairedWords" 23 "PairedWords$Lexicon" ∈ xTAB := xin (List.mem_of_getElem? (i := 108) (by decide +kernel)) rfl
theorem cl_Lexi_18 : Cond.classLink "PairedWords$Lexicon" 18 "PairedWords$Line" ∈ xTAB := xin (List.mem_of_getElem? (i := 114) (by decide +kernel)) rfl
theorem cl_PW_30 : Cond.classLink "PairedWords" 30 "PairedWords$Line" ∈ xTAB := xin (List.mem_of_getElem? (i := 147) (by decide +kernel)) rfl
theorem cl_PW_42 : Cond.classLink "PairedWords" 42 "PairedWords$Samples" ∈ xTAB := xin (List.mem_of_getElem? (i := 149) (by decide +kernel)) rfl
theorem cl_Samp_9 : Cond.classLink "PairedWords$Samples" 9 "PairedWords$Line" ∈ xTAB := xin (List.mem_of_getElem? (i := 155) (by decide +kernel)) rfl
theorem cl_PW_49 : Cond.classLink "PairedWords" 49 "PairedWords$Results" ∈ xTAB := xin (List.mem_of_getElem? (i := 167) (by decide +kernel)) rfl
theorem cl_PW_59 : Cond.classLink "PairedWords" 59 "PairedWords$Comparison" ∈ xTAB := xin (List.mem_of_getElem? (i := 184) (by decide +kernel)) rfl
theorem cl_Sear_9 : Cond.classLink "PairedWords$Search" 9 "PairedWords$Line" ∈ xTAB := xin (List.mem_of_getElem? (i := 193) (by decide +kernel)) rfl
theorem cl_Comp_9 : Cond.classLink "PairedWords$Comparison" 9 "PairedWords$Line" ∈ xTAB := xin (List.mem_of_getElem? (i := 195) (by decide +kernel)) rfl
theorem cl_PW_68 : Cond.classLink "PairedWords" 68 "PairedWords$Writing" ∈ xTAB := xin (List.mem_of_getElem? (i := 225) (by decide +kernel)) rfl
theorem cl_Writ_9 : Cond.classLink "PairedWords$Writing" 9 "PairedWords$Line" ∈ xTAB := xin (List.mem_of_getElem? (i := 231) (by decide +kernel)) rfl
theorem cl_Law_13 : Cond.classLink "PairedWordsLaw" 13 "java/lang/IllegalArgumentException" ∈ xTAB := xin (List.mem_of_getElem? (i := 461) (by decide +kernel)) rfl
theorem cl_Law_15 : Cond.classLink "PairedWordsLaw" 15 "java/lang/IllegalStateException" ∈ xTAB := xin (List.mem_of_getElem? (i := 462) (by decide +kernel)) rfl
theorem cl_PW_81 : Cond.classLink "PairedWords" 81 "java/lang/IllegalArgumentException" ∈ xTAB := xin (List.mem_of_getElem? (i := 473) (by decide +kernel)) rfl
theorem cl_PW_97 : Cond.classLink "PairedWords" 97 "java/lang/IllegalStateException" ∈ xTAB := xin (List.mem_of_getElem? (i := 550) (by decide +kernel)) rfl
theorem cl_Law_49 : Cond.classLink "PairedWordsLaw" 49 "java/lang/IndexOutOfBoundsException" ∈ xTAB := xin (List.mem_of_getElem? (i := 755) (by decide +kernel)) rfl
theorem cl_PW_219 : Cond.classLink "PairedWords" 219 "java/lang/IndexOutOfBoundsException" ∈ xTAB := xin (List.mem_of_getElem? (i := 760) (by decide +kernel)) rfl
theorem cl_Law_59 : Cond.classLink "PairedWordsLaw" 59 "PairedWordsModel" ∈ xTAB := xin (List.mem_of_getElem? (i := 818) (by decide +kernel)) rfl
theorem ca_IllegalArgumentException : Cond.castable "java/lang/IllegalArgumentException" "java/lang/IllegalArgumentException" ∈ xTAB := xin (List.mem_of_getElem? (i := 475) (by decide +kernel)) rfl
theorem ca_IllegalStateException : Cond.castable "java/lang/IllegalStateException" "java/lang/IllegalStateException" ∈ xTAB := xin (List.mem_of_getElem? (i := 552) (by decide +kernel)) rfl
theorem ca_IndexOutOfBoundsException : Cond.castable "java/lang/IndexOutOfBoundsException" "java/lang/IndexOutOfBoundsException" ∈ xTAB := xin (List.mem_of_getElem? (i := 762) (by decide +kernel)) rfl
end
section
/-! Bits of natural numbers under nI. -/
theorem nb_and (a b : Nat) : nI a &&& nI b = nI (a &&& b) := by
  apply Int32.toBitVec_inj.1
  show BitVec.ofNat 32 a &&& BitVec.ofNat 32 b = BitVec.ofNat 32 (a &&& b)
  apply BitVec.eq_of_getLsbD_eq
  intro i hi
  simp [hi]
theorem nb_or (a b : Nat) : nI a ||| nI b = nI (a ||| b) := by
  apply Int32.toBitVec_inj.1
  show BitVec.ofNat 32 a ||| BitVec.ofNat 32 b = BitVec.ofNat 32 (a ||| b)
  apply BitVec.eq_of_getLsbD_eq
  intro i hi
  simp [hi]
/-- a without the bits of b -/
def clr (a b : Nat) : Nat := a ^^^ (a &&& b)
theorem clr_bit (a b i : Nat) : (clr a b).testBit i = (a.testBit i && !b.testBit i) := by
  unfold clr
  rw [Nat.testBit_xor, Nat.testBit_and]
  cases a.testBit i <;> cases b.testBit i <;> rfl
theorem nb_clr (a b : Nat) : nI a &&& (nI b ^^^ (-1)) = nI (clr a b) := by
  apply Int32.toBitVec_inj.1
  show BitVec.ofNat 32 a &&& (BitVec.ofNat 32 b ^^^ BitVec.allOnes 32) = BitVec.ofNat 32 (clr a b)
  apply BitVec.eq_of_getLsbD_eq
  intro i hi
  rw [BitVec.getLsbD_and, BitVec.getLsbD_xor, BitVec.getLsbD_allOnes, BitVec.getLsbD_ofNat, BitVec.getLsbD_ofNat, BitVec.getLsbD_ofNat, clr_bit]
  simp only [hi, decide_true, Bool.true_and]
  cases a.testBit i <;> cases b.testBit i <;> rfl
theorem nb_cnt : ∀ j, j < 32 → ((nI j &&& 31).toBitVec.smod 32).toNat = j := by decide +kernel
theorem nb_shl {a k : Nat} (hk : k < 32) (h : a * 2 ^ k < 2 ^ 32) : nI a <<< (nI k &&& 31) = nI (a <<< k) := by
  rw [pk_shlN _ k (nb_cnt k hk) h, Nat.shiftLeft_eq]
theorem nb_shr {a k : Nat} (hk : k < 32) (h : a < 2 ^ 31) : nI a >>> (nI k &&& 31) = nI (a >>> k) := by
  rw [pk_shrN h _ k (nb_cnt k hk), Nat.shiftRight_eq_div_pow]
theorem nb_one {s i : Nat} : ((s >>> i) &&& 1 = 1) ↔ s.testBit i = true := by
  rw [Nat.and_one_is_mod, Nat.shiftRight_eq_div_pow, Nat.testBit_eq_decide_div_mod_eq, decide_eq_true_eq]
def bI (b : Bool) : Int32 := if b then 1 else 0
theorem bI_01 (b : Bool) : bI b = 0 ∨ bI b = 1 := by cases b <;> simp [bI]
theorem bI_0 {b : Bool} : bI b = 0 ↔ b = false := by cases b <;> simp [bI]
theorem bI_fits (b : Bool) : fits .boolean (.int (bI b)) = true := by cases b <;> decide
theorem bI_nar (b : Bool) : narrow .boolean (.int (bI b)) = .int (bI b) := by cases b <;> decide
theorem clr_lt {a b k : Nat} (h : a < 2 ^ k) : clr a b < 2 ^ k := by
  unfold clr
  exact Nat.xor_lt_two_pow h (Nat.lt_of_le_of_lt Nat.and_le_left h)
theorem and_ltr {a b k : Nat} (h : b < 2 ^ k) : a &&& b < 2 ^ k := Nat.lt_of_le_of_lt Nat.and_le_right h
theorem and_ltl {a b k : Nat} (h : a < 2 ^ k) : a &&& b < 2 ^ k := Nat.lt_of_le_of_lt Nat.and_le_left h
theorem shl_lt {a k j : Nat} (h : a < 2 ^ k) : a <<< j < 2 ^ (k + j) := by
  rw [Nat.shiftLeft_eq, Nat.pow_add]
  exact Nat.mul_lt_mul_of_pos_right h (Nat.two_pow_pos j)
theorem shr_lt {a k j : Nat} (h : a < 2 ^ k) : a >>> j < 2 ^ k := Nat.lt_of_le_of_lt (by rw [Nat.shiftRight_eq_div_pow]; exact Nat.div_le_self _ _) h
/-! the patterns' numbers -/
def pgoal (c : Nat) : Nat := 1 <<< (3 * c + 2)
def pfield (c : Nat) : Nat := 7 <<< (3 * c)
def plow (b c : Nat) : Nat := clr b (pfield c) ||| ((b &&& pfield c) >>> 1)
def pskip1 (st s : Nat) : Nat := s ||| ((s &&& st) <<< 1)
def pskip (st s : Nat) : Nat := pskip1 st (pskip1 st s)
def pnext (hv st ls s : Nat) : Nat := pskip st ((((s &&& hv) &&& st) ||| (clr (s &&& hv) st <<< 1)) ||| ls)
theorem pgoal_lt {c : Nat} (hc : c < 8) : pgoal c < 2 ^ 24 := by
  have : ∀ c, c < 8 → pgoal c < 2 ^ 24 := by decide +kernel
  exact this c hc
theorem pfield_lt {c : Nat} (hc : c < 8) : pfield c < 2 ^ 24 := by
  have : ∀ c, c < 8 → pfield c < 2 ^ 24 := by decide +kernel
  exact this c hc
theorem plow_lt {b c : Nat} (hb : b < 2 ^ 24) : plow b c < 2 ^ 24 := Nat.or_lt_two_pow (clr_lt hb) (shr_lt (and_ltl hb))
theorem pskip1_lt {st s : Nat} (h1 : st < 2 ^ 24) (h2 : s < 2 ^ 25) : pskip1 st s < 2 ^ 25 := Nat.or_lt_two_pow h2 (shl_lt (k := 24) (j := 1) (and_ltr h1))
theorem pskip_lt {st s : Nat} (h1 : st < 2 ^ 24) (h2 : s < 2 ^ 25) : pskip st s < 2 ^ 25 := pskip1_lt h1 (pskip1_lt h1 h2)
theorem pnext_in {hv st ls s : Nat} (h1 : hv < 2 ^ 24) (h3 : ls < 2 ^ 24) : (((s &&& hv) &&& st) ||| (clr (s &&& hv) st <<< 1)) ||| ls < 2 ^ 25 :=
  Nat.or_lt_two_pow (Nat.or_lt_two_pow (and_ltl (Nat.lt_of_lt_of_le (and_ltr h1) (by decide))) (shl_lt (k := 24) (j := 1) (clr_lt (and_ltr h1)))) (Nat.lt_of_lt_of_le h3 (by decide))
theorem pnext_lt {hv st ls s : Nat} (h1 : hv < 2 ^ 24) (h2 : st < 2 ^ 24) (h3 : ls < 2 ^ 24) : pnext hv st ls s < 2 ^ 25 := pskip_lt h2 (pnext_in h1 h3)
end
section
/-! Line: a row of signs. Ln h a N w: at a an object Line, at a + 1 its array of N places, which begins with w. -/
abbrev cI (N : Nat) (f : Nat → Int32) : xE := .inl (0, N, .inl f)
abbrev cLine (r sz : Nat) : xE := .inr (0, [.ref r, .int (nI sz)])
def Sm (h h' : xH) (lo hi : Nat) : Prop := h'.1 = h.1 ∧ ∀ q : Nat, (q < lo ∨ hi ≤ q) → h'.2 q = h.2 q
theorem Sm.rf {h : xH} {lo hi : Nat} : Sm h h lo hi := ⟨rfl, fun _ _ => rfl⟩
theorem Sm.trans {h h1 h2 : xH} {lo hi : Nat} (a : Sm h h1 lo hi) (b : Sm h1 h2 lo hi) : Sm h h2 lo hi := ⟨b.1.trans a.1, fun q hq => (b.2 q hq).trans (a.2 q hq)⟩
theorem Sm.wide {h h1 : xH} {lo hi lo' hi' : Nat} (a : Sm h h1 lo hi) (hl : lo' ≤ lo) (hh : hi ≤ hi') : Sm h h1 lo' hi' := ⟨a.1, fun q hq => a.2 q (by omega)⟩
theorem Sm.up {h : xH} {a lo hi : Nat} {e : xE} (h1 : lo ≤ a) (h2 : a < hi) : Sm h (xup h a e) lo hi := ⟨rfl, fun q hq => xup_ne h e (by omega)⟩
def Ln (h : xH) (a N : Nat) (w : List Nat) : Prop := ∃ f : Nat → Int32, h.2 a = some (cLine (a + 1) w.length) ∧ h.2 (a + 1) = some (cI N f) ∧ w.length ≤ N ∧ N < 100 ∧ ∀ j, j < w.length → f j = nI (w.getD j 0)
theorem Ln.sm {h h' : xH} {a N lo hi : Nat} {w : List Nat} (H : Ln h a N w) (hs : Sm h h' lo hi) (hd : a + 2 ≤ lo ∨ hi ≤ a) : Ln h' a N w := by
  obtain ⟨f, h1, h2, h3⟩ := H
  exact ⟨f, by rw [hs.2 a (by omega)]; exact h1, by rw [hs.2 (a + 1) (by omega)]; exact h2, h3⟩
section LINE
variable {l : Launch} {G : xG} {d : Nat} {h : xH} {a N : Nat} {w : List Nat}
theorem c_Line_size (H : Ln h a N w) : xMet l G mLine_size d 0 0 [.ref a] h (fun o h' => o = .inl (some (.int (nI w.length))) ∧ h' = h) := by
  obtain ⟨f, h1, h2, h3, h4, h5⟩ := H
  refine xMet_of (L := [_]) (by decide) (Nat.le_of_ble_eq_true rfl) rfl ?_
  refine ex_aload_n dLine_size_0 rfl ?_
  refine ex_get dLine_size_1 fg_Line_15 h1 rfl ?_
  exact ex_iret dLine_size_4 rfl (Nat.le_refl _) (Nat.le_refl _) ⟨rfl, rfl⟩
theorem c_Line_isFull (H : Ln h a N w) : xMet l G mLine_isFull d 0 0 [.ref a] h (fun o h' => o = .inl (some (.int (if w.length < N then 0 else 1))) ∧ h' = h) := by
  obtain ⟨f, h1, h2, h3, h4, h5⟩ := H
  refine xMet_of (L := [_]) (by decide) (Nat.le_of_ble_eq_true rfl) rfl ?_
  refine ex_aload_n dLine_isFull_0 rfl ?_
  refine ex_get dLine_isFull_1 fg_Line_15 h1 rfl ?_
  refine ex_aload_n dLine_isFull_4 rfl ?_
  refine ex_get dLine_isFull_5 fg_Line_9 h1 rfl ?_
  refine ex_alen dLine_isFull_8 h2 (fun _ => rfl) ?_
  refine ex_icmp_lt (tgt := 16) dLine_isFull_9 (by decide) (fun hc => ?_) (fun hc => ?_)
  · rw [nI_ltI (by omega) (by omega)] at hc
    refine ex_iconst (v := nI 0) dLine_isFull_16 (by decide) ?_
    exact ex_zret dLine_isFull_17 rfl (by decide) (Nat.le_refl _) (Nat.le_refl _) ⟨by rw [if_pos hc]; rfl, rfl⟩
  · rw [nI_ltI (by omega) (by omega)] at hc
    refine ex_iconst (v := nI 1) dLine_isFull_12 (by decide) ?_
    refine ex_goto (tgt := 17) dLine_isFull_13 (by decide) ?_
    exact ex_zret dLine_isFull_17 rfl (by decide) (Nat.le_refl _) (Nat.le_refl _) ⟨by rw [if_neg hc]; rfl, rfl⟩
theorem c_Line_hasRoomFor {b N' : Nat} {v : List Nat} (H : Ln h a N w) (H' : Ln h b N' v) : xMet l G mLine_hasRoomFor d 0 0 [.ref a, .ref b] h (fun o h' => o = .inl (some (.int (if w.length + v.length ≤ N then 1 else 0))) ∧ h' = h) := by
  obtain ⟨f, h1, h2, h3, h4, h5⟩ := H
  obtain ⟨f', h1', h2', h3', h4', h5'⟩ := H'
  refine xMet_of (L := [_, _]) (by decide) (Nat.le_of_ble_eq_true rfl) rfl ?_
  refine ex_aload_n dLine_hasRoomFor_0 rfl ?_
  refine ex_get dLine_hasRoomFor_1 fg_Line_15 h1' rfl ?_
  refine ex_aload_n dLine_hasRoomFor_4 rfl ?_
  refine ex_get dLine_hasRoomFor_5 fg_Line_9 h1 rfl ?_
  refine ex_alen dLine_hasRoomFor_8 h2 (fun _ => rfl) ?_
  refine ex_aload_n dLine_hasRoomFor_9 rfl ?_
  refine ex_get dLine_hasRoomFor_10 fg_Line_15 h1 rfl ?_
  refine ex_isub dLine_hasRoomFor_13 ?_
  rw [pk_sub h3]
  refine ex_icmp_gt (tgt := 21) dLine_hasRoomFor_14 (by decide) (fun hc => ?_) (fun hc => ?_)
  · rw [nI_ltI (by omega) (by omega)] at hc
    refine ex_iconst (v := nI 0) dLine_hasRoomFor_21 (by decide) ?_
    exact ex_zret dLine_hasRoomFor_22 rfl (by decide) (Nat.le_refl _) (Nat.le_refl _) ⟨by rw [if_neg (by omega)]; rfl, rfl⟩
  · rw [nI_ltI (by omega) (by omega)] at hc
    refine ex_iconst (v := nI 1) dLine_hasRoomFor_17 (by decide) ?_
    refine ex_goto (tgt := 22) dLine_hasRoomFor_18 (by decide) ?_
    exact ex_zret dLine_hasRoomFor_22 rfl (by decide) (Nat.le_refl _) (Nat.le_refl _) ⟨by rw [if_pos (by omega)]; rfl, rfl⟩
theorem c_Line_signAt {i : Nat} (hi : i < 2 ^ 31) (H : Ln h a N w) : xMet l G mLine_signAt d 0 0 [.ref a, .int (nI i)] h (fun o h' => o = .inl (some (.int (nI (w.getD i 0)))) ∧ h' = h) := by
  obtain ⟨f, h1, h2, h3, h4, h5⟩ := H
  refine xMet_of (L := [_, _]) (by decide) (Nat.le_of_ble_eq_true rfl) rfl ?_
  refine ex_iload_n dLine_signAt_0 rfl ?_
  refine ex_if_lt (tgt := 21) dLine_signAt_1 (by decide) (fun hc => ?_) (fun hc => ?_)
  · exact absurd hc (nI_pos hi)
  refine ex_iload_n dLine_signAt_4 rfl ?_
  refine ex_aload_n dLine_signAt_5 rfl ?_
  refine ex_get dLine_signAt_6 fg_Line_15 h1 rfl ?_
  refine ex_icmp_ge (tgt := 21) dLine_signAt_9 (by decide) (fun hc2 => ?_) (fun hc2 => ?_)
  · rw [nI_leI (by omega) (by omega)] at hc2
    refine ex_iconst (v := nI 0) dLine_signAt_21 (by decide) ?_
    exact ex_iret dLine_signAt_22 rfl (Nat.le_refl _) (Nat.le_refl _) ⟨by rw [List.getD_eq_getElem?_getD, List.getElem?_eq_none hc2]; rfl, rfl⟩
  · rw [nI_leI (by omega) (by omega)] at hc2
    refine ex_aload_n dLine_signAt_12 rfl ?_
    refine ex_get dLine_signAt_13 fg_Line_9 h1 rfl ?_
    refine ex_iload_n dLine_signAt_16 rfl ?_
    refine ex_iaload dLine_signAt_17 h2 rfl (by omega) (by omega) ?_
    refine ex_goto (tgt := 22) dLine_signAt_18 (by decide) ?_
    exact ex_iret dLine_signAt_22 rfl (Nat.le_refl _) (Nat.le_refl _) ⟨by rw [h5 i (by omega)], rfl⟩
theorem Ln.push {x : Nat} {f : Nat → Int32} (h1 : h.2 a = some (cLine (a + 1) w.length)) (h2 : h.2 (a + 1) = some (cI N f)) (h3 : w.length < N) (h4 : N < 100) (h5 : ∀ j, j < w.length → f j = nI (w.getD j 0)) :
    Ln (xup (xup h (a + 1) (cI N (upd f w.length (nI x)))) a (cLine (a + 1) (w.length + 1))) a N (w ++ [x]) ∧ Sm h (xup (xup h (a + 1) (cI N (upd f w.length (nI x)))) a (cLine (a + 1) (w.length + 1))) a (a + 2) := by
  refine ⟨⟨upd f w.length (nI x), ?_, ?_, ?_, h4, ?_⟩, ?_⟩
  · rw [xup_self]; simp
  · rw [xup_ne _ _ (by omega), xup_self]
  · simp; omega
  · intro j hj
    by_cases e : j = w.length
    · subst e; rw [pk_us]; simp
    · have hj' : j < w.length := by simp at hj; omega
      rw [pk_un e, h5 j hj']
      congr 1
      simp [List.getElem?_append_left hj']
  · exact (Sm.up (by omega) (by omega)).trans (Sm.up (by omega) (by omega))
theorem c_Line_add {x : Nat} (H : Ln h a N w) : xMet l G mLine_add (d + 1) 0 0 [.ref a, .int (nI x)] h (fun o h' => o = .inl (some (.int (nI ((w ++ [x]).take N).length))) ∧ Ln h' a N ((w ++ [x]).take N) ∧ Sm h h' a (a + 2)) := by
  have H0 := H
  obtain ⟨f, h1, h2, h3, h4, h5⟩ := H
  refine xMet_of (L := [_, _]) (by decide) (Nat.le_of_ble_eq_true rfl) rfl ?_
  refine ex_aload_n dLine_add_0 rfl ?_
  refine ex_v0 dLine_add_1 iv_Line_19 cd_Line_isFull ar_Line_isFull h1 (c_Line_isFull (d := d) H0) (by dsimp only; omega) (Nat.le_of_ble_eq_true rfl) (Nat.le_refl _) (Nat.le_refl _) (fun E h9 q9 => by simp at q9) (fun v9 hp9 hq => ?_)
  obtain ⟨e, e2⟩ := hq
  cases e
  rw [e2]
  refine ex_if_ne (tgt := 27) dLine_add_4 (by decide) (fun hc => ?_) (fun hc => ?_)
  · have hf : ¬ w.length < N := fun q => hc (by rw [if_pos q])
    have ht : (w ++ [x]).take N = w := by rw [List.take_append_of_le_length (by omega), List.take_of_length_le (by omega)]
    refine ex_aload_n dLine_add_27 rfl ?_
    refine ex_get dLine_add_28 fg_Line_15 h1 rfl ?_
    exact ex_iret dLine_add_31 rfl (Nat.le_refl _) (Nat.le_refl _) ⟨by rw [ht], by rw [ht]; exact ⟨f, h1, h2, h3, h4, h5⟩, Sm.rf⟩
  · have hf : w.length < N := Decidable.byContradiction fun q => by rw [if_neg q] at hc; exact absurd hc (by decide)
    have ht : (w ++ [x]).take N = w ++ [x] := List.take_of_length_le (by simp; omega)
    have e1 : (xup h (a + 1) (cI N (upd f w.length (nI x)))).2 a = some (cLine (a + 1) w.length) := by rw [xup_ne _ _ (by omega)]; exact h1
    refine ex_aload_n dLine_add_7 rfl ?_
    refine ex_get dLine_add_8 fg_Line_9 h1 rfl ?_
    refine ex_aload_n dLine_add_11 rfl ?_
    refine ex_get dLine_add_12 fg_Line_15 h1 rfl ?_
    refine ex_iload_n dLine_add_15 rfl ?_
    refine ex_iastore dLine_add_16 h2 rfl hf (by omega) ?_
    refine ex_aload_n dLine_add_17 rfl ?_
    refine ex_dup dLine_add_18 rfl ?_
    refine ex_get dLine_add_19 fg_Line_15 e1 rfl ?_
    refine ex_iconst (v := nI 1) dLine_add_22 (by decide) ?_
    refine ex_iadd dLine_add_23 ?_
    rw [show nI w.length + nI 1 = nI (w.length + 1) from nI_add _ _]
    refine ex_put (fs' := [_, _]) dLine_add_24 (fp_Line_15 _) e1 rfl rfl (Nat.le_of_ble_eq_true rfl) rfl ?_
    refine ex_aload_n dLine_add_27 rfl ?_
    refine ex_get dLine_add_28 fg_Line_15 (xup_self _ _ _) rfl ?_
    obtain ⟨p1, p2⟩ := Ln.push (x := x) h1 h2 hf h4 h5
    exact ex_iret dLine_add_31 rfl (Nat.le_refl _) (Nat.le_refl _) ⟨by rw [ht]; simp, by rw [ht]; exact p1, p2⟩
theorem c_Line_cutTo {k : Nat} (hk : k < 2 ^ 31) (H : Ln h a N w) : xMet l G mLine_cutTo d 0 0 [.ref a, .int (nI k)] h (fun o h' => o = .inl none ∧ Ln h' a N (w.take k) ∧ Sm h h' a (a + 2)) := by
  have H0 := H
  obtain ⟨f, h1, h2, h3, h4, h5⟩ := H
  refine xMet_of (L := [_, _]) (by decide) (Nat.le_of_ble_eq_true rfl) rfl ?_
  refine ex_iload_n dLine_cutTo_0 rfl ?_
  refine ex_if_lt (tgt := 17) dLine_cutTo_1 (by decide) (fun hc => ?_) (fun hc => ?_)
  · exact absurd hc (nI_pos hk)
  refine ex_iload_n dLine_cutTo_4 rfl ?_
  refine ex_aload_n dLine_cutTo_5 rfl ?_
  refine ex_get dLine_cutTo_6 fg_Line_15 h1 rfl ?_
  refine ex_icmp_ge (tgt := 17) dLine_cutTo_9 (by decide) (fun hc2 => ?_) (fun hc2 => ?_)
  · rw [nI_leI (by omega) (by omega)] at hc2
    exact ex_vret dLine_cutTo_17 rfl (Nat.le_refl _) (Nat.le_refl _) ⟨rfl, by rw [List.take_of_length_le hc2]; exact H0, Sm.rf⟩
  · rw [nI_leI (by omega) (by omega)] at hc2
    refine ex_aload_n dLine_cutTo_12 rfl ?_
    refine ex_iload_n dLine_cutTo_13 rfl ?_
    refine ex_put (fs' := [_, _]) dLine_cutTo_14 (fp_Line_15 _) h1 rfl rfl (Nat.le_of_ble_eq_true rfl) rfl ?_
    have hl : (w.take k).length = k := by rw [List.length_take]; omega
    refine ex_vret dLine_cutTo_17 rfl (Nat.le_refl _) (Nat.le_refl _) ⟨rfl, ⟨f, ?_, ?_, by omega, h4, fun j hj => ?_⟩, Sm.up (Nat.le_refl _) (by omega)⟩
    · rw [xup_self, hl]
    · rw [xup_ne _ _ (by omega)]; exact h2
    · rw [h5 j (by omega)]
      congr 1
      simp [List.getElem?_take, show j < k by omega]
theorem c_Line_addAll {b N' : Nat} {v : List Nat} (H : Ln h a N w) (H' : Ln h b N' v) (hd : b + 2 ≤ a ∨ a + 2 ≤ b) : xMet l G mLine_addAll (d + 2) 0 0 [.ref a, .ref b] h (fun o h' => o = .inl none ∧ Ln h' a N ((w ++ v).take N) ∧ Sm h h' a (a + 2)) := by
  have hwN : w.length ≤ N := by obtain ⟨f, h1, h2, h3, h4, h5⟩ := H; exact h3
  have loop : ∀ (j i : Nat) (hi : xH), i + j = v.length → Ln hi a N ((w ++ v.take i).take N) → Sm h hi a (a + 2) → Ex (l, G, d + 2, 0, 0, h, fun o h' => o = .inl none ∧ Ln h' a N ((w ++ v).take N) ∧ Sm h h' a (a + 2)) mLine_addAll 2 [some (.ref a), some (.ref b), some (.int (nI i))] [] hi 0 0 := by
    intro j
    induction j with
    | zero =>
      intro i hi hij HL hS
      obtain ⟨f', h1', h2', h3', h4', h5'⟩ := H'.sm hS hd
      refine ex_iload_n dLine_addAll_2 rfl ?_
      refine ex_aload_n dLine_addAll_3 rfl ?_
      refine ex_get dLine_addAll_4 fg_Line_15 h1' rfl ?_
      refine ex_icmp_ge (tgt := 27) dLine_addAll_7 (by decide) (fun hc => ?_) (fun hc => ?_)
      · rw [show v.take i = v from List.take_of_length_le (by omega)] at HL
        exact ex_vret dLine_addAll_27 rfl (Nat.le_refl _) (Nat.le_refl _) ⟨rfl, HL, hS⟩
      · exact absurd (nI_le (by omega) (by omega)) hc
    | succ j ih =>
      intro i hi hij HL hS
      obtain ⟨f', h1', h2', h3', h4', h5'⟩ := H'.sm hS hd
      have HL0 := HL
      obtain ⟨f, h1, h2, h3, h4, h5⟩ := HL0
      refine ex_iload_n dLine_addAll_2 rfl ?_
      refine ex_aload_n dLine_addAll_3 rfl ?_
      refine ex_get dLine_addAll_4 fg_Line_15 h1' rfl ?_
      refine ex_icmp_ge (tgt := 27) dLine_addAll_7 (by decide) (fun hc => ?_) (fun hc => ?_)
      · exact absurd hc (nI_ge (by omega) (by omega))
      refine ex_aload_n dLine_addAll_10 rfl ?_
      refine ex_aload_n dLine_addAll_11 rfl ?_
      refine ex_get dLine_addAll_12 fg_Line_9 h1' rfl ?_
      refine ex_iload_n dLine_addAll_15 rfl ?_
      refine ex_iaload dLine_addAll_16 h2' rfl (by omega) (by omega) ?_
      rw [h5' i (by omega)]
      refine ex_v1 dLine_addAll_17 iv_Line_23 cd_Line_add ar_Line_add h1 (c_Line_add (d := d) HL) (by dsimp only; omega) (Nat.le_of_ble_eq_true rfl) (Nat.le_refl _) (Nat.le_refl _) (fun E h9 q9 => by simp at q9) (fun x9 h9 hq => ?_)
      obtain ⟨e, HL9, hS9⟩ := hq
      cases e
      refine ex_pop dLine_addAll_20 rfl ?_
      refine ex_iinc (L' := [_, _, _]) dLine_addAll_21 rfl rfl (by decide) rfl ?_
      refine ex_goto (tgt := 2) dLine_addAll_24 (by decide) ?_
      rw [show nI i + Int32.ofInt 1 = nI (i + 1) from nI_1 i]
      refine ih (i + 1) h9 (by omega) ?_ (hS.trans hS9)
      have e : (((w ++ v.take i).take N) ++ [v.getD i 0]).take N = (w ++ v.take (i + 1)).take N := by
        have hg : v[i]? = some (v.getD i 0) := by rw [List.getD_eq_getElem?_getD, List.getElem?_eq_getElem (by omega)]; rfl
        rw [List.take_succ, hg, Option.toList_some, ← List.append_assoc]
        generalize w ++ List.take i v = u
        by_cases hu : u.length ≤ N
        · rw [List.take_of_length_le hu]
        · rw [List.take_append_of_le_length (by rw [List.length_take]; omega), List.take_append_of_le_length (by omega), List.take_take, Nat.min_self]
      rw [← e]; exact HL9
  refine xMet_of (L := [_, _, _]) (by decide) (Nat.le_of_ble_eq_true rfl) rfl ?_
  refine ex_iconst (v := nI 0) dLine_addAll_0 (by decide) ?_
  refine ex_istore_n (L' := [_, _, _]) dLine_addAll_1 (by decide) rfl ?_
  exact loop v.length 0 h (by omega) (by rw [List.take_zero, List.append_nil, List.take_of_length_le hwN]; exact H) Sm.rf
theorem c_Line_copy {b N' : Nat} {v : List Nat} (H : Ln h a N w) (H' : Ln h b N' v) (hd : b + 2 ≤ a ∨ a + 2 ≤ b) : xMet l G mLine_copy (d + 3) 0 0 [.ref a, .ref b] h (fun o h' => o = .inl none ∧ Ln h' a N (v.take N) ∧ Sm h h' a (a + 2)) := by
  have H0 := H
  obtain ⟨f, h1, h2, h3, h4, h5⟩ := H
  refine xMet_of (L := [_, _]) (by decide) (Nat.le_of_ble_eq_true rfl) rfl ?_
  refine ex_aload_n dLine_copy_0 rfl ?_
  refine ex_iconst (v := nI 0) dLine_copy_1 (by decide) ?_
  refine ex_v1 dLine_copy_2 iv_Line_27 cd_Line_cutTo ar_Line_cutTo h1 (c_Line_cutTo (d := d) (k := 0) (by decide) H0) (by dsimp only; omega) (Nat.le_of_ble_eq_true rfl) (Nat.le_refl _) (Nat.le_refl _) (fun E h9 q9 => by simp at q9) (fun x9 h9 hq => ?_)
  obtain ⟨e, HL9, hS9⟩ := hq
  cases e
  have H9 := H'.sm hS9 hd
  have HL8 := HL9
  obtain ⟨f9, h19, -⟩ := HL8
  refine ex_aload_n dLine_copy_5 rfl ?_
  refine ex_aload_n dLine_copy_6 rfl ?_
  refine ex_v1 dLine_copy_7 iv_Line_31 cd_Line_addAll ar_Line_addAll h19 (c_Line_addAll (d := d) HL9 H9 hd) (by dsimp only; omega) (Nat.le_of_ble_eq_true rfl) (Nat.le_refl _) (Nat.le_refl _) (fun E h9 q9 => by simp at q9) (fun x8 h8 hq => ?_)
  obtain ⟨e, HL7, hS7⟩ := hq
  cases e
  exact ex_vret dLine_copy_10 rfl (Nat.le_refl _) (Nat.le_refl _) ⟨rfl, by simpa using HL7, hS9.trans hS7⟩
theorem c_Line_init (hN : N < 100) (hz : h.1 = a + 1) (h1 : h.2 a = some (.inr (0, [.null, .int 0]))) : xMet l G mLine_init d 1 N [.ref a, .int (nI N)] h (fun o h' => o = .inl none ∧ Ln h' a N [] ∧ h'.1 = a + 2 ∧ ∀ q : Nat, (q < a ∨ a + 2 ≤ q) → h'.2 q = h.2 q) := by
  refine xMet_of (L := [_, _]) (by decide) (Nat.le_of_ble_eq_true rfl) rfl ?_
  refine ex_aload_n dLine_init_0 rfl ?_
  refine ex_objInit dLine_init_1 oi_Line_3 oi_1 oi_2 (by decide) ?_
  refine ex_aload_n dLine_init_4 rfl ?_
  refine ex_iload_n dLine_init_5 rfl ?_
  refine ex_newi dLine_init_6 aw_int rfl (by omega) (by show 0 + 1 ≤ 1; omega) (by show 0 + N ≤ N; omega) ?_
  rw [hz]
  have e1 : (xnew h (cI N (fun _ => 0))).2 a = some (.inr (0, [.null, .int 0])) := by simp [xnew, hz, h1]
  refine ex_put (fs' := [_, _]) dLine_init_8 fp_Line_9 e1 rfl rfl (Nat.le_of_ble_eq_true rfl) rfl ?_
  refine ex_vret dLine_init_11 rfl (by show 0 + 1 ≤ 1; omega) (by show 0 + N ≤ N; omega) ⟨rfl, ⟨fun _ => 0, ?_, ?_, Nat.zero_le _, hN, fun j hj => absurd hj (Nat.not_lt_zero _)⟩, ?_, fun q hq => ?_⟩
  · rw [xup_self]; rfl
  · rw [xup_ne _ _ (by omega)]; simp [xnew, hz]
  · simp [xup, xnew, hz]
  · rw [xup_ne _ _ (by omega)]; simp [xnew, hz, show q ≠ a + 1 by omega]
end LINE
end
section
/-! Pairs. Prs h a ps: at a the object, its arrays at a + 1 and a + 2. -/
abbrev cPairs (a c : Nat) : xE := .inr (1, [.ref (a + 1), .ref (a + 2), .int (nI c)])
def Prs (h : xH) (a : Nat) (ps : List (Nat × Nat)) : Prop := ∃ f g : Nat → Int32, h.2 a = some (cPairs a ps.length) ∧ h.2 (a + 1) = some (cI 10 f) ∧ h.2 (a + 2) = some (cI 10 g) ∧ ps.length ≤ 10 ∧ (∀ j, j < ps.length → f j = nI (ps.getD j (0, 0)).1) ∧ (∀ j, j < ps.length → g j = nI (ps.getD j (0, 0)).2) ∧ ∀ q ∈ ps, q.1 < 8 ∧ q.2 < 8
theorem Prs.sm {h h' : xH} {a lo hi : Nat} {ps : List (Nat × Nat)} (H : Prs h a ps) (hs : Sm h h' lo hi) (hd : a + 3 ≤ lo ∨ hi ≤ a) : Prs h' a ps := by
  obtain ⟨f, g, h1, h2, h3, h4⟩ := H
  exact ⟨f, g, by rw [hs.2 a (by omega)]; exact h1, by rw [hs.2 (a + 1) (by omega)]; exact h2, by rw [hs.2 (a + 2) (by omega)]; exact h3, h4⟩
theorem getD_mem {α : Type} {l : List α} {j : Nat} {d : α} (h : j < l.length) : l.getD j d ∈ l := by
  rw [List.getD_eq_getElem?_getD, List.getElem?_eq_getElem h]; exact List.getElem_mem h
theorem take_snoc {α : Type} {l : List α} {j : Nat} (d : α) (h : j < l.length) : l.take (j + 1) = l.take j ++ [l.getD j d] := by
  rw [List.take_succ, List.getD_eq_getElem?_getD, List.getElem?_eq_getElem h]; rfl
section PAIRS
variable {l : Launch} {G : xG} {d : Nat} {h : xH} {a : Nat} {ps : List (Nat × Nat)}
theorem c_Pairs_count (H : Prs h a ps) : xMet l G mPairs_count d 0 0 [.ref a] h (fun o h' => o = .inl (some (.int (nI ps.length))) ∧ h' = h) := by
  obtain ⟨f, g, h1, h2, h3, h4, h5, h6, h7⟩ := H
  refine xMet_of (L := [_]) (by decide) (Nat.le_of_ble_eq_true rfl) rfl ?_
  refine ex_aload_n dPairs_count_0 rfl ?_
  refine ex_get dPairs_count_1 fg_Pairs_18 h1 rfl ?_
  exact ex_iret dPairs_count_4 rfl (Nat.le_refl _) (Nat.le_refl _) ⟨rfl, rfl⟩
theorem c_Pairs_lowerOf {i : Nat} (hi : i < ps.length) (H : Prs h a ps) : xMet l G mPairs_lowerOf d 0 0 [.ref a, .int (nI i)] h (fun o h' => o = .inl (some (.int (nI (ps.getD i (0, 0)).1))) ∧ h' = h) := by
  obtain ⟨f, g, h1, h2, h3, h4, h5, h6, h7⟩ := H
  refine xMet_of (L := [_, _]) (by decide) (Nat.le_of_ble_eq_true rfl) rfl ?_
  refine ex_aload_n dPairs_lowerOf_0 rfl ?_
  refine ex_get dPairs_lowerOf_1 fg_Pairs_9 h1 rfl ?_
  refine ex_iload_n dPairs_lowerOf_4 rfl ?_
  refine ex_iaload dPairs_lowerOf_5 h2 rfl (by omega) (by omega) ?_
  exact ex_iret dPairs_lowerOf_6 rfl (Nat.le_refl _) (Nat.le_refl _) ⟨by rw [h5 i hi], rfl⟩
theorem c_Pairs_upperOf {i : Nat} (hi : i < ps.length) (H : Prs h a ps) : xMet l G mPairs_upperOf d 0 0 [.ref a, .int (nI i)] h (fun o h' => o = .inl (some (.int (nI (ps.getD i (0, 0)).2))) ∧ h' = h) := by
  obtain ⟨f, g, h1, h2, h3, h4, h5, h6, h7⟩ := H
  refine xMet_of (L := [_, _]) (by decide) (Nat.le_of_ble_eq_true rfl) rfl ?_
  refine ex_aload_n dPairs_upperOf_0 rfl ?_
  refine ex_get dPairs_upperOf_1 fg_Pairs_15 h1 rfl ?_
  refine ex_iload_n dPairs_upperOf_4 rfl ?_
  refine ex_iaload dPairs_upperOf_5 h3 rfl (by omega) (by omega) ?_
  exact ex_iret dPairs_upperOf_6 rfl (Nat.le_refl _) (Nat.le_refl _) ⟨by rw [h6 i hi], rfl⟩
theorem c_Pairs_has {x y : Nat} (hx : x < 8) (hy : y < 8) (H : Prs h a ps) : xMet l G mPairs_has d 0 0 [.ref a, .int (nI x), .int (nI y)] h (fun o h' => o = .inl (some (.int (if (x, y) ∈ ps then 1 else 0))) ∧ h' = h) := by
  obtain ⟨f, g, h1, h2, h3, h4, h5, h6, h7⟩ := H
  have loop : ∀ (j i : Nat), i + j = ps.length → (x, y) ∉ ps.take i → Ex (l, G, d, 0, 0, h, fun o h' => o = .inl (some (.int (if (x, y) ∈ ps then 1 else 0))) ∧ h' = h) mPairs_has 2 [some (.ref a), some (.int (nI x)), some (.int (nI y)), some (.int (nI i))] [] h 0 0 := by
    intro j
    induction j with
    | zero =>
      intro i hij hno
      refine ex_iload_n dPairs_has_2 rfl ?_
      refine ex_aload_n dPairs_has_3 rfl ?_
      refine ex_get dPairs_has_4 fg_Pairs_18 h1 rfl ?_
      refine ex_icmp_ge (tgt := 38) dPairs_has_7 (by decide) (fun hc => ?_) (fun hc => ?_)
      · rw [show ps.take i = ps from List.take_of_length_le (by omega)] at hno
        refine ex_iconst (v := nI 0) dPairs_has_38 (by decide) ?_
        exact ex_zret dPairs_has_39 rfl (by decide) (Nat.le_refl _) (Nat.le_refl _) ⟨by rw [if_neg hno]; rfl, rfl⟩
      · exact absurd (nI_le (by omega) (by omega)) hc
    | succ j ih =>
      intro i hij hno
      have hm : ps.getD i (0, 0) ∈ ps := getD_mem (by omega)
      have hr := h7 _ hm
      have next : ps.getD i (0, 0) ≠ (x, y) → Ex (l, G, d, 0, 0, h, fun o h' => o = .inl (some (.int (if (x, y) ∈ ps then 1 else 0))) ∧ h' = h) mPairs_has 32 [some (.ref a), some (.int (nI x)), some (.int (nI y)), some (.int (nI i))] [] h 0 0 := by
        intro hne
        refine ex_iinc (L' := [_, _, _, _]) dPairs_has_32 rfl rfl (by decide) rfl ?_
        refine ex_goto (tgt := 2) dPairs_has_35 (by decide) ?_
        rw [show nI i + Int32.ofInt 1 = nI (i + 1) from nI_1 i]
        refine ih (i + 1) (by omega) ?_
        rw [take_snoc (0, 0) (by omega), List.mem_append, List.mem_singleton]
        rintro (q | q)
        · exact hno q
        · exact hne q.symm
      refine ex_iload_n dPairs_has_2 rfl ?_
      refine ex_aload_n dPairs_has_3 rfl ?_
      refine ex_get dPairs_has_4 fg_Pairs_18 h1 rfl ?_
      refine ex_icmp_ge (tgt := 38) dPairs_has_7 (by decide) (fun hc => ?_) (fun hc => ?_)
      · exact absurd hc (nI_ge (by omega) (by omega))
      refine ex_aload_n dPairs_has_10 rfl ?_
      refine ex_get dPairs_has_11 fg_Pairs_9 h1 rfl ?_
      refine ex_iload_n dPairs_has_14 rfl ?_
      refine ex_iaload dPairs_has_15 h2 rfl (by omega) (by omega) ?_
      refine ex_iload_n dPairs_has_16 rfl ?_
      rw [h5 i (by omega)]
      refine ex_icmp_ne (tgt := 32) dPairs_has_17 (by decide) (fun hc2 => ?_) (fun hc2 => ?_)
      · refine next (fun q => hc2 ?_)
        rw [q]
      rw [nI_eq (by omega) (by omega)] at hc2
      refine ex_aload_n dPairs_has_20 rfl ?_
      refine ex_get dPairs_has_21 fg_Pairs_15 h1 rfl ?_
      refine ex_iload_n dPairs_has_24 rfl ?_
      refine ex_iaload dPairs_has_25 h3 rfl (by omega) (by omega) ?_
      refine ex_iload_n dPairs_has_26 rfl ?_
      rw [h6 i (by omega)]
      refine ex_icmp_ne (tgt := 32) dPairs_has_27 (by decide) (fun hc3 => ?_) (fun hc3 => ?_)
      · refine next (fun q => hc3 ?_)
        rw [q]
      rw [nI_eq (by omega) (by omega)] at hc3
      refine ex_iconst (v := nI 1) dPairs_has_30 (by decide) ?_
      exact ex_zret dPairs_has_31 rfl (by decide) (Nat.le_refl _) (Nat.le_refl _) ⟨by rw [if_pos (by have e : ps.getD i (0, 0) = (x, y) := Prod.ext hc2 hc3; rw [← e]; exact hm)]; rfl, rfl⟩
  refine xMet_of (L := [_, _, _, _]) (by decide) (Nat.le_of_ble_eq_true rfl) rfl ?_
  refine ex_iconst (v := nI 0) dPairs_has_0 (by decide) ?_
  refine ex_istore_n (L' := [_, _, _, _]) dPairs_has_1 (by decide) rfl ?_
  exact loop ps.length 0 (by omega) (by simp)
theorem c_Pairs_hasRoomFor {x : Nat} (hx : x < 8) (H : Prs h a ps) : xMet l G mPairs_hasRoomFor d 0 0 [.ref a, .int (nI x)] h (fun o h' => o = .inl (some (.int (if ps.length < 10 ∧ (ps.filter (fun q => q.1 == x)).length < (if x = 0 then 2 else 3) then 1 else 0))) ∧ h' = h) := by
  obtain ⟨f, g, h1, h2, h3, h4, h5, h6, h7⟩ := H
  have hfl : ∀ i, ((ps.take i).filter (fun q => q.1 == x)).length ≤ 10 := fun i => Nat.le_trans (List.length_filter_le _ _) (by rw [List.length_take]; omega)
  have last : ∀ c most : Nat, c = (ps.filter (fun q => q.1 == x)).length → most = (if x = 0 then 2 else 3) → Ex (l, G, d, 0, 0, h, fun o h' => o = .inl (some (.int (if ps.length < 10 ∧ (ps.filter (fun q => q.1 == x)).length < (if x = 0 then 2 else 3) then 1 else 0))) ∧ h' = h) mPairs_hasRoomFor 41 [some (.ref a), some (.int (nI x)), some (.int (nI c)), some (.int (nI most))] [] h 0 0 := by
    intro c most hcc hmost
    have hc10 : c ≤ 10 := by have := hfl ps.length; rw [List.take_length] at this; omega
    have hm3 : most ≤ 3 := by rw [hmost]; split <;> omega
    refine ex_aload_n dPairs_hasRoomFor_41 rfl ?_
    refine ex_get dPairs_hasRoomFor_42 fg_Pairs_18 h1 rfl ?_
    refine ex_bipush (v := nI 10) dPairs_hasRoomFor_45 (by decide) ?_
    refine ex_icmp_ge (tgt := 59) dPairs_hasRoomFor_47 (by decide) (fun hc => ?_) (fun hc => ?_)
    · rw [nI_leI (by omega) (by omega)] at hc
      refine ex_iconst (v := nI 0) dPairs_hasRoomFor_59 (by decide) ?_
      exact ex_zret dPairs_hasRoomFor_60 rfl (by decide) (Nat.le_refl _) (Nat.le_refl _) ⟨by rw [if_neg (by omega)]; rfl, rfl⟩
    · rw [nI_leI (by omega) (by omega)] at hc
      refine ex_iload_n dPairs_hasRoomFor_50 rfl ?_
      refine ex_iload_n dPairs_hasRoomFor_51 rfl ?_
      refine ex_icmp_ge (tgt := 59) dPairs_hasRoomFor_52 (by decide) (fun hc2 => ?_) (fun hc2 => ?_)
      · rw [nI_leI (by omega) (by omega)] at hc2
        refine ex_iconst (v := nI 0) dPairs_hasRoomFor_59 (by decide) ?_
        exact ex_zret dPairs_hasRoomFor_60 rfl (by decide) (Nat.le_refl _) (Nat.le_refl _) ⟨by rw [← hcc, ← hmost, if_neg (by omega)]; rfl, rfl⟩
      · rw [nI_leI (by omega) (by omega)] at hc2
        refine ex_iconst (v := nI 1) dPairs_hasRoomFor_55 (by decide) ?_
        refine ex_goto (tgt := 60) dPairs_hasRoomFor_56 (by decide) ?_
        exact ex_zret dPairs_hasRoomFor_60 rfl (by decide) (Nat.le_refl _) (Nat.le_refl _) ⟨by rw [← hcc, ← hmost, if_pos (by omega)]; rfl, rfl⟩
  have loop : ∀ (j i : Nat), i + j = ps.length → Ex (l, G, d, 0, 0, h, fun o h' => o = .inl (some (.int (if ps.length < 10 ∧ (ps.filter (fun q => q.1 == x)).length < (if x = 0 then 2 else 3) then 1 else 0))) ∧ h' = h) mPairs_hasRoomFor 4 [some (.ref a), some (.int (nI x)), some (.int (nI ((ps.take i).filter (fun q => q.1 == x)).length)), some (.int (nI i))] [] h 0 0 := by
    intro j
    induction j with
    | zero =>
      intro i hij
      refine ex_iload_n dPairs_hasRoomFor_4 rfl ?_
      refine ex_aload_n dPairs_hasRoomFor_5 rfl ?_
      refine ex_get dPairs_hasRoomFor_6 fg_Pairs_18 h1 rfl ?_
      refine ex_icmp_ge (tgt := 31) dPairs_hasRoomFor_9 (by decide) (fun hc => ?_) (fun hc => ?_)
      · rw [show ps.take i = ps from List.take_of_length_le (by omega)]
        refine ex_iload_n dPairs_hasRoomFor_31 rfl ?_
        refine ex_if_ne (tgt := 39) dPairs_hasRoomFor_32 (by decide) (fun hc2 => ?_) (fun hc2 => ?_)
        · refine ex_iconst (v := nI 3) dPairs_hasRoomFor_39 (by decide) ?_
          refine ex_istore_n (L' := [_, _, _, _]) dPairs_hasRoomFor_40 (by decide) rfl ?_
          refine last _ 3 rfl (by rw [if_neg (fun q => hc2 (by rw [q]; rfl))])
        · refine ex_iconst (v := nI 2) dPairs_hasRoomFor_35 (by decide) ?_
          refine ex_goto (tgt := 40) dPairs_hasRoomFor_36 (by decide) ?_
          refine ex_istore_n (L' := [_, _, _, _]) dPairs_hasRoomFor_40 (by decide) rfl ?_
          refine last _ 2 rfl (by rw [if_pos ((nI_eq (b := 0) (by omega) (by omega)).mp hc2)])
      · exact absurd (nI_le (by omega) (by omega)) hc
    | succ j ih =>
      intro i hij
      have hm : ps.getD i (0, 0) ∈ ps := getD_mem (by omega)
      have hr := h7 _ hm
      have ih' := ih (i + 1) (by omega)
      rw [take_snoc (0, 0) (by omega), List.filter_append, List.length_append] at ih'
      refine ex_iload_n dPairs_hasRoomFor_4 rfl ?_
      refine ex_aload_n dPairs_hasRoomFor_5 rfl ?_
      refine ex_get dPairs_hasRoomFor_6 fg_Pairs_18 h1 rfl ?_
      refine ex_icmp_ge (tgt := 31) dPairs_hasRoomFor_9 (by decide) (fun hc => ?_) (fun hc => ?_)
      · exact absurd hc (nI_ge (by omega) (by omega))
      refine ex_aload_n dPairs_hasRoomFor_12 rfl ?_
      refine ex_get dPairs_hasRoomFor_13 fg_Pairs_9 h1 rfl ?_
      refine ex_iload_n dPairs_hasRoomFor_16 rfl ?_
      refine ex_iaload dPairs_hasRoomFor_17 h2 rfl (by omega) (by omega) ?_
      refine ex_iload_n dPairs_hasRoomFor_18 rfl ?_
      rw [h5 i (by omega)]
      refine ex_icmp_ne (tgt := 25) dPairs_hasRoomFor_19 (by decide) (fun hc2 => ?_) (fun hc2 => ?_)
      · have hne : ¬ (ps.getD i (0, 0)).1 = x := fun q => hc2 (by rw [q])
        refine ex_iinc (L' := [_, _, _, _]) dPairs_hasRoomFor_25 rfl rfl (by decide) rfl ?_
        refine ex_goto (tgt := 4) dPairs_hasRoomFor_28 (by decide) ?_
        rw [show nI i + Int32.ofInt 1 = nI (i + 1) from nI_1 i]
        rw [List.filter_cons_of_neg (by simpa using hne)] at ih'
        exact ih'
      · have he : (ps.getD i (0, 0)).1 = x := (nI_eq (by omega) (by omega)).mp hc2
        refine ex_iinc (L' := [_, _, _, _]) dPairs_hasRoomFor_22 rfl rfl (by decide) rfl ?_
        refine ex_iinc (L' := [_, _, _, _]) dPairs_hasRoomFor_25 rfl rfl (by decide) rfl ?_
        refine ex_goto (tgt := 4) dPairs_hasRoomFor_28 (by decide) ?_
        rw [show nI i + Int32.ofInt 1 = nI (i + 1) from nI_1 i, show nI ((ps.take i).filter (fun q => q.1 == x)).length + Int32.ofInt 1 = nI (((ps.take i).filter (fun q => q.1 == x)).length + 1) from nI_1 _]
        rw [List.filter_cons_of_pos (by simpa using he)] at ih'
        exact ih'
  refine xMet_of (L := [_, _, _, _]) (by decide) (Nat.le_of_ble_eq_true rfl) rfl ?_
  refine ex_iconst (v := nI 0) dPairs_hasRoomFor_0 (by decide) ?_
  refine ex_istore_n (L' := [_, _, _, _]) dPairs_hasRoomFor_1 (by decide) rfl ?_
  refine ex_iconst (v := nI 0) dPairs_hasRoomFor_2 (by decide) ?_
  refine ex_istore_n (L' := [_, _, _, _]) dPairs_hasRoomFor_3 (by decide) rfl ?_
  exact loop ps.length 0 (by omega)
theorem c_Pairs_add {x y : Nat} (hx : x < 8) (hy : y < 8) (hl : ps.length < 10) (H : Prs h a ps) : xMet l G mPairs_add d 0 0 [.ref a, .int (nI x), .int (nI y)] h (fun o h' => o = .inl (some (.int (nI ps.length))) ∧ Prs h' a (ps ++ [(x, y)]) ∧ Sm h h' a (a + 3)) := by
  obtain ⟨f, g, h1, h2, h3, h4, h5, h6, h7⟩ := H
  have e1 : (xup h (a + 1) (cI 10 (upd f ps.length (nI x)))).2 a = some (cPairs a ps.length) := by rw [xup_ne _ _ (by omega)]; exact h1
  have e2 : (xup h (a + 1) (cI 10 (upd f ps.length (nI x)))).2 (a + 2) = some (cI 10 g) := by rw [xup_ne _ _ (by omega)]; exact h3
  have e3 : (xup (xup h (a + 1) (cI 10 (upd f ps.length (nI x)))) (a + 2) (cI 10 (upd g ps.length (nI y)))).2 a = some (cPairs a ps.length) := by rw [xup_ne _ _ (by omega)]; exact e1
  refine xMet_of (L := [_, _, _]) (by decide) (Nat.le_of_ble_eq_true rfl) rfl ?_
  refine ex_aload_n dPairs_add_0 rfl ?_
  refine ex_get dPairs_add_1 fg_Pairs_9 h1 rfl ?_
  refine ex_aload_n dPairs_add_4 rfl ?_
  refine ex_get dPairs_add_5 fg_Pairs_18 h1 rfl ?_
  refine ex_iload_n dPairs_add_8 rfl ?_
  refine ex_iastore dPairs_add_9 h2 rfl hl (by omega) ?_
  refine ex_aload_n dPairs_add_10 rfl ?_
  refine ex_get dPairs_add_11 fg_Pairs_15 e1 rfl ?_
  refine ex_aload_n dPairs_add_14 rfl ?_
  refine ex_get dPairs_add_15 fg_Pairs_18 e1 rfl ?_
  refine ex_iload_n dPairs_add_18 rfl ?_
  refine ex_iastore dPairs_add_19 e2 rfl hl (by omega) ?_
  refine ex_aload_n dPairs_add_20 rfl ?_
  refine ex_dup dPairs_add_21 rfl ?_
  refine ex_get dPairs_add_22 fg_Pairs_18 e3 rfl ?_
  refine ex_iconst (v := nI 1) dPairs_add_25 (by decide) ?_
  refine ex_iadd dPairs_add_26 ?_
  rw [show nI ps.length + nI 1 = nI (ps.length + 1) from nI_add _ _]
  refine ex_put (fs' := [_, _, _]) dPairs_add_27 (fp_Pairs_18 _) e3 rfl rfl (Nat.le_of_ble_eq_true rfl) rfl ?_
  refine ex_aload_n dPairs_add_30 rfl ?_
  refine ex_get dPairs_add_31 fg_Pairs_18 (xup_self _ _ _) rfl ?_
  refine ex_iconst (v := nI 1) dPairs_add_34 (by decide) ?_
  refine ex_isub dPairs_add_35 ?_
  refine ex_iret dPairs_add_36 rfl (Nat.le_refl _) (Nat.le_refl _) ⟨by rw [show nI (ps.length + 1) - nI 1 = nI ps.length from by rw [pk_sub (by omega)]; rfl], ⟨upd f ps.length (nI x), upd g ps.length (nI y), ?_, ?_, ?_, by simp; omega, fun j hj => ?_, fun j hj => ?_, fun q hq => ?_⟩, ?_⟩
  · rw [xup_self]; simp
  · rw [xup_ne _ _ (by omega), xup_ne _ _ (by omega), xup_self]
  · rw [xup_ne _ _ (by omega), xup_self]
  · by_cases e : j = ps.length
    · subst e; rw [pk_us]; simp
    · have hj' : j < ps.length := by simp at hj; omega
      rw [pk_un e, h5 j hj']; simp [List.getElem?_append_left hj']
  · by_cases e : j = ps.length
    · subst e; rw [pk_us]; simp
    · have hj' : j < ps.length := by simp at hj; omega
      rw [pk_un e, h6 j hj']; simp [List.getElem?_append_left hj']
  · rcases List.mem_append.mp hq with q1 | q1
    · exact h7 q q1
    · rw [List.mem_singleton.mp q1]; exact ⟨hx, hy⟩
  · exact ((Sm.up (by omega) (by omega)).trans (Sm.up (by omega) (by omega))).trans (Sm.up (by omega) (by omega))
theorem c_Pairs_init (hz : h.1 = a + 1) (h1 : h.2 a = some (.inr (1, [.null, .null, .int 0]))) : xMet l G mPairs_init d 2 20 [.ref a] h (fun o h' => o = .inl none ∧ Prs h' a [] ∧ h'.1 = a + 3 ∧ ∀ q : Nat, (q < a ∨ a + 3 ≤ q) → h'.2 q = h.2 q) := by
  refine xMet_of (L := [_]) (by decide) (Nat.le_of_ble_eq_true rfl) rfl ?_
  refine ex_aload_n dPairs_init_0 rfl ?_
  refine ex_objInit dPairs_init_1 oi_Pairs_3 oi_1 oi_2 (by decide) ?_
  refine ex_aload_n dPairs_init_4 rfl ?_
  refine ex_bipush (v := nI 10) dPairs_init_5 (by decide) ?_
  refine ex_newi dPairs_init_7 aw_int rfl (by omega) (Nat.le_of_ble_eq_true rfl) (Nat.le_of_ble_eq_true rfl) ?_
  rw [hz]
  have e1 : (xnew h (cI 10 (fun _ => 0))).2 a = some (.inr (1, [.null, .null, .int 0])) := by simp [xnew, hz, h1]
  refine ex_put (fs' := [_, _, _]) dPairs_init_9 fp_Pairs_9 e1 rfl rfl (Nat.le_of_ble_eq_true rfl) rfl ?_
  refine ex_aload_n dPairs_init_12 rfl ?_
  refine ex_bipush (v := nI 10) dPairs_init_13 (by decide) ?_
  refine ex_newi dPairs_init_15 aw_int rfl (by omega) (Nat.le_of_ble_eq_true rfl) (Nat.le_of_ble_eq_true rfl) ?_
  have hz2 : (xup (xnew h (cI 10 (fun _ => 0))) a (.inr (1, [.ref (a + 1), .null, .int 0]))).1 = a + 2 := by simp [xup, xnew, hz]
  rw [hz2]
  have e2 : (xnew (xup (xnew h (cI 10 (fun _ => 0))) a (.inr (1, [.ref (a + 1), .null, .int 0]))) (cI 10 (fun _ => 0))).2 a = some (.inr (1, [.ref (a + 1), .null, .int 0])) := by simp [xnew, xup, hz]; omega
  refine ex_put (fs' := [_, _, _]) dPairs_init_17 fp_Pairs_15 e2 rfl rfl (Nat.le_of_ble_eq_true rfl) rfl ?_
  refine ex_vret dPairs_init_20 rfl (Nat.le_of_ble_eq_true rfl) (Nat.le_of_ble_eq_true rfl) ⟨rfl, ⟨fun _ => 0, fun _ => 0, ?_, ?_, ?_, by simp, fun j hj => absurd hj (Nat.not_lt_zero _), fun j hj => absurd hj (Nat.not_lt_zero _), fun q hq => by simp at hq⟩, ?_, fun q hq => ?_⟩
  · rw [xup_self]; rfl
  · simp [xnew, xup, hz]
  · simp [xnew, xup, hz]
  · simp [xup, xnew, hz]
  · simp [xup, xnew, hz, show q ≠ a by omega, show q ≠ a + 1 by omega, show q ≠ a + 2 by omega]
end PAIRS
end
section
/-! Patterns. Pt h a fl sz hv st ss ls: at a the object, at a + 1 the sizes, at a + 2 what each pair is had by. -/
abbrev cPatt (a : Nat) (fl : Bool) (st ss ls : Nat) : xE := .inr (2, [.int (bI fl), .ref (a + 1), .ref (a + 2), .int (nI st), .int (nI ss), .int (nI ls)])
def Pt (h : xH) (a : Nat) (fl : Bool) (sz hv : Nat → Nat) (st ss ls : Nat) : Prop := ∃ f g : Nat → Int32, h.2 a = some (cPatt a fl st ss ls) ∧ h.2 (a + 1) = some (cI 8 f) ∧ h.2 (a + 2) = some (cI 10 g) ∧ (∀ j, j < 8 → f j = nI (sz j)) ∧ (∀ j, j < 10 → g j = nI (hv j)) ∧ (∀ j, j < 10 → hv j < 2 ^ 24) ∧ st < 2 ^ 24 ∧ ss < 2 ^ 24 ∧ ls < 2 ^ 24 ∧ ∀ j, j < 8 → sz j ≤ 2
theorem Pt.sm {h h' : xH} {a lo hi : Nat} {fl : Bool} {sz hv : Nat → Nat} {st ss ls : Nat} (H : Pt h a fl sz hv st ss ls) (hs : Sm h h' lo hi) (hd : a + 3 ≤ lo ∨ hi ≤ a) : Pt h' a fl sz hv st ss ls := by
  obtain ⟨f, g, h1, h2, h3, h4⟩ := H
  exact ⟨f, g, by rw [hs.2 a (by omega)]; exact h1, by rw [hs.2 (a + 1) (by omega)]; exact h2, by rw [hs.2 (a + 2) (by omega)]; exact h3, h4⟩
theorem Pt.obj {h : xH} {a : Nat} {fl : Bool} {sz hv : Nat → Nat} {st ss ls st' ss' ls' : Nat} (H : Pt h a fl sz hv st ss ls) (h1 : st' < 2 ^ 24) (h2 : ss' < 2 ^ 24) (h3 : ls' < 2 ^ 24) : Pt (xup h a (cPatt a fl st' ss' ls')) a fl sz hv st' ss' ls' ∧ Sm h (xup h a (cPatt a fl st' ss' ls')) a (a + 3) := by
  obtain ⟨f, g, e1, e2, e3, e4, e5, e6, e7, e8, e9, e10⟩ := H
  exact ⟨⟨f, g, xup_self _ _ _, by rw [xup_ne _ _ (by omega)]; exact e2, by rw [xup_ne _ _ (by omega)]; exact e3, e4, e5, e6, h1, h2, h3, e10⟩, Sm.up (by omega) (by omega)⟩
section PATT
variable {l : Launch} {G : xG} {d : Nat} {h : xH} {a : Nat} {fl : Bool} {sz hv : Nat → Nat} {st ss ls : Nat}
theorem c_Patt_goalOf {c : Nat} (hc : c < 8) : xMet l G mPatt_goalOf d 0 0 [.int (nI c)] h (fun o h' => o = .inl (some (.int (nI (pgoal c)))) ∧ h' = h) := by
  refine xMet_of (L := [_]) (by decide) (Nat.le_of_ble_eq_true rfl) rfl ?_
  refine ex_iconst (v := nI 1) dPatt_goalOf_0 (by decide) ?_
  refine ex_iconst (v := nI 3) dPatt_goalOf_1 (by decide) ?_
  refine ex_iload_n dPatt_goalOf_2 rfl ?_
  refine ex_imul dPatt_goalOf_3 ?_
  refine ex_iconst (v := nI 2) dPatt_goalOf_4 (by decide) ?_
  refine ex_iadd dPatt_goalOf_5 ?_
  refine ex_ishl dPatt_goalOf_6 ?_
  rw [pk_mul, nI_add, nb_shl (a := 1) (by omega) (by have := pgoal_lt hc; rw [pgoal, Nat.shiftLeft_eq] at this; omega)]
  exact ex_iret dPatt_goalOf_7 rfl (Nat.le_refl _) (Nat.le_refl _) ⟨rfl, rfl⟩
theorem c_Patt_lowered {b c : Nat} (hb : b < 2 ^ 24) (hc : c < 8) : xMet l G mPatt_lowered d 0 0 [.int (nI b), .int (nI c)] h (fun o h' => o = .inl (some (.int (nI (plow b c)))) ∧ h' = h) := by
  refine xMet_of (L := [_, _, _]) (by decide) (Nat.le_of_ble_eq_true rfl) rfl ?_
  refine ex_bipush (v := nI 7) dPatt_lowered_0 (by decide) ?_
  refine ex_iconst (v := nI 3) dPatt_lowered_2 (by decide) ?_
  refine ex_iload_n dPatt_lowered_3 rfl ?_
  refine ex_imul dPatt_lowered_4 ?_
  refine ex_ishl dPatt_lowered_5 ?_
  rw [pk_mul, nb_shl (a := 7) (by omega) (by have := pfield_lt hc; rw [pfield, Nat.shiftLeft_eq] at this; omega)]
  refine ex_istore_n (L' := [_, _, _]) dPatt_lowered_6 (by decide) rfl ?_
  refine ex_iload_n dPatt_lowered_7 rfl ?_
  refine ex_iload_n dPatt_lowered_8 rfl ?_
  refine ex_iconst (v := -1) dPatt_lowered_9 (by decide) ?_
  refine ex_ixor dPatt_lowered_10 ?_
  refine ex_iand dPatt_lowered_11 ?_
  refine ex_iload_n dPatt_lowered_12 rfl ?_
  refine ex_iload_n dPatt_lowered_13 rfl ?_
  refine ex_iand dPatt_lowered_14 ?_
  refine ex_iconst (v := nI 1) dPatt_lowered_15 (by decide) ?_
  refine ex_ishr dPatt_lowered_16 ?_
  refine ex_ior dPatt_lowered_17 ?_
  rw [nb_clr, nb_and, nb_shr (k := 1) (by omega) (Nat.lt_of_lt_of_le (and_ltl hb) (by decide)), nb_or]
  exact ex_iret dPatt_lowered_18 rfl (Nat.le_refl _) (Nat.le_refl _) ⟨rfl, rfl⟩
theorem c_Patt_skipStarred {s : Nat} (hs : s < 2 ^ 25) (H : Pt h a fl sz hv st ss ls) : xMet l G mPatt_skipStarred d 0 0 [.ref a, .int (nI s)] h (fun o h' => o = .inl (some (.int (nI (pskip st s)))) ∧ h' = h) := by
  obtain ⟨f, g, h1, h2, h3, h4, h5, h6, h7, h8, h9, h10⟩ := H
  have hs1 := pskip1_lt h7 hs
  refine xMet_of (L := [_, _, _, _]) (by decide) (Nat.le_of_ble_eq_true rfl) rfl ?_
  refine ex_iload_n dPatt_skipStarred_0 rfl ?_
  refine ex_istore_n (L' := [_, _, _, _]) dPatt_skipStarred_1 (by decide) rfl ?_
  refine ex_iconst (v := nI 0) dPatt_skipStarred_2 (by decide) ?_
  refine ex_istore_n (L' := [_, _, _, _]) dPatt_skipStarred_3 (by decide) rfl ?_
  refine ex_iload_n dPatt_skipStarred_4 rfl ?_
  refine ex_iconst (v := nI 2) dPatt_skipStarred_5 (by decide) ?_
  refine ex_icmp_ge (tgt := 26) dPatt_skipStarred_6 (by decide) (fun hc => ?_) (fun hc => ?_)
  · exact absurd hc (by decide)
  refine ex_iload_n dPatt_skipStarred_9 rfl ?_
  refine ex_iload_n dPatt_skipStarred_10 rfl ?_
  refine ex_aload_n dPatt_skipStarred_11 rfl ?_
  refine ex_get dPatt_skipStarred_12 fg_Patt_41 h1 rfl ?_
  refine ex_iand dPatt_skipStarred_15 ?_
  refine ex_iconst (v := nI 1) dPatt_skipStarred_16 (by decide) ?_
  refine ex_ishl dPatt_skipStarred_17 ?_
  refine ex_ior dPatt_skipStarred_18 ?_
  rw [nb_and, nb_shl (k := 1) (by omega) (by have := @and_ltr s st 24 h7; omega), nb_or]
  refine ex_istore_n (L' := [_, _, _, _]) dPatt_skipStarred_19 (by decide) rfl ?_
  refine ex_iinc (L' := [_, _, _, _]) dPatt_skipStarred_20 rfl rfl (by decide) rfl ?_
  refine ex_goto (tgt := 4) dPatt_skipStarred_23 (by decide) ?_
  refine ex_iload_n dPatt_skipStarred_4 rfl ?_
  refine ex_iconst (v := nI 2) dPatt_skipStarred_5 (by decide) ?_
  refine ex_icmp_ge (tgt := 26) dPatt_skipStarred_6 (by decide) (fun hc => ?_) (fun hc => ?_)
  · exact absurd hc (by decide)
  refine ex_iload_n dPatt_skipStarred_9 rfl ?_
  refine ex_iload_n dPatt_skipStarred_10 rfl ?_
  refine ex_aload_n dPatt_skipStarred_11 rfl ?_
  refine ex_get dPatt_skipStarred_12 fg_Patt_41 h1 rfl ?_
  refine ex_iand dPatt_skipStarred_15 ?_
  refine ex_iconst (v := nI 1) dPatt_skipStarred_16 (by decide) ?_
  refine ex_ishl dPatt_skipStarred_17 ?_
  refine ex_ior dPatt_skipStarred_18 ?_
  rw [show s ||| (s &&& st) <<< 1 = pskip1 st s from rfl, nb_and, nb_shl (k := 1) (by omega) (by have := @and_ltr (pskip1 st s) st 24 h7; omega), nb_or]
  refine ex_istore_n (L' := [_, _, _, _]) dPatt_skipStarred_19 (by decide) rfl ?_
  refine ex_iinc (L' := [_, _, _, _]) dPatt_skipStarred_20 rfl rfl (by decide) rfl ?_
  refine ex_goto (tgt := 4) dPatt_skipStarred_23 (by decide) ?_
  refine ex_iload_n dPatt_skipStarred_4 rfl ?_
  refine ex_iconst (v := nI 2) dPatt_skipStarred_5 (by decide) ?_
  refine ex_icmp_ge (tgt := 26) dPatt_skipStarred_6 (by decide) (fun hc => ?_) (fun hc => ?_)
  · refine ex_iload_n dPatt_skipStarred_26 rfl ?_
    exact ex_iret dPatt_skipStarred_27 rfl (Nat.le_refl _) (Nat.le_refl _) ⟨rfl, rfl⟩
  · exact absurd (by decide) hc
theorem c_Patt_first (H : Pt h a fl sz hv st ss ls) : xMet l G mPatt_first (d + 1) 0 0 [.ref a] h (fun o h' => o = .inl (some (.int (nI (pskip st ss)))) ∧ h' = h) := by
  have H0 := H
  obtain ⟨f, g, h1, h2, h3, h4, h5, h6, h7, h8, h9, h10⟩ := H
  refine xMet_of (L := [_]) (by decide) (Nat.le_of_ble_eq_true rfl) rfl ?_
  refine ex_aload_n dPatt_first_0 rfl ?_
  refine ex_aload_n dPatt_first_1 rfl ?_
  refine ex_get dPatt_first_2 fg_Patt_22 h1 rfl ?_
  refine ex_p1 dPatt_first_5 ip_Patt_44 cd_Patt_skipStarred ar_Patt_skipStarred h1 (c_Patt_skipStarred (d := d) (s := ss) (by omega) H0) (by dsimp only; omega) (Nat.le_of_ble_eq_true rfl) (Nat.le_refl _) (Nat.le_refl _) (fun E h9 q9 => by simp at q9) (fun v9 hp9 hq => ?_)
  obtain ⟨e, e2⟩ := hq
  cases e
  exact ex_iret dPatt_first_8 rfl (Nat.le_refl _) (Nat.le_refl _) ⟨rfl, e2⟩
theorem c_Patt_next {s i : Nat} (hi : i < 10) (H : Pt h a fl sz hv st ss ls) : xMet l G mPatt_next (d + 1) 0 0 [.ref a, .int (nI s), .int (nI i)] h (fun o h' => o = .inl (some (.int (nI (pnext (hv i) st ls s)))) ∧ h' = h) := by
  have H0 := H
  obtain ⟨f, g, h1, h2, h3, h4, h5, h6, h7, h8, h9, h10⟩ := H
  have hvi := h6 i hi
  refine xMet_of (L := [_, _, _, _, _]) (by decide) (Nat.le_of_ble_eq_true rfl) rfl ?_
  refine ex_iload_n dPatt_next_0 rfl ?_
  refine ex_aload_n dPatt_next_1 rfl ?_
  refine ex_get dPatt_next_2 fg_Patt_15 h1 rfl ?_
  refine ex_iload_n dPatt_next_5 rfl ?_
  refine ex_iaload dPatt_next_6 h3 rfl hi (by omega) ?_
  refine ex_iand dPatt_next_7 ?_
  rw [h5 i hi, nb_and]
  refine ex_istore_n (L' := [_, _, _, _, _]) dPatt_next_8 (by decide) rfl ?_
  refine ex_iload_n dPatt_next_9 rfl ?_
  refine ex_aload_n dPatt_next_10 rfl ?_
  refine ex_get dPatt_next_11 fg_Patt_41 h1 rfl ?_
  refine ex_iand dPatt_next_14 ?_
  refine ex_iload_n dPatt_next_15 rfl ?_
  refine ex_aload_n dPatt_next_16 rfl ?_
  refine ex_get dPatt_next_17 fg_Patt_41 h1 rfl ?_
  refine ex_iconst (v := -1) dPatt_next_20 (by decide) ?_
  refine ex_ixor dPatt_next_21 ?_
  refine ex_iand dPatt_next_22 ?_
  refine ex_iconst (v := nI 1) dPatt_next_23 (by decide) ?_
  refine ex_ishl dPatt_next_24 ?_
  refine ex_ior dPatt_next_25 ?_
  rw [nb_and, nb_clr, nb_shl (k := 1) (by omega) (by have := @clr_lt (s &&& hv i) st 24 (and_ltr hvi); omega), nb_or]
  refine ex_istore (L' := [_, _, _, _, _]) dPatt_next_26 (by decide) rfl ?_
  refine ex_aload_n dPatt_next_28 rfl ?_
  refine ex_iload dPatt_next_29 rfl ?_
  refine ex_aload_n dPatt_next_31 rfl ?_
  refine ex_get dPatt_next_32 fg_Patt_30 h1 rfl ?_
  refine ex_ior dPatt_next_35 ?_
  rw [nb_or]
  refine ex_p1 dPatt_next_36 ip_Patt_44 cd_Patt_skipStarred ar_Patt_skipStarred h1 (c_Patt_skipStarred (d := d) (pnext_in hvi h9) H0) (by dsimp only; omega) (Nat.le_of_ble_eq_true rfl) (Nat.le_refl _) (Nat.le_refl _) (fun E h9 q9 => by simp at q9) (fun v9 hp9 hq => ?_)
  obtain ⟨e, e2⟩ := hq
  cases e
  exact ex_iret dPatt_next_39 rfl (Nat.le_refl _) (Nat.le_refl _) ⟨rfl, e2⟩
theorem c_Patt_elementsOf {c : Nat} (hc : c < 8) (H : Pt h a fl sz hv st ss ls) : xMet l G mPatt_elementsOf d 0 0 [.ref a, .int (nI c)] h (fun o h' => o = .inl (some (.int (nI (sz c)))) ∧ h' = h) := by
  obtain ⟨f, g, h1, h2, h3, h4, h5, h6, h7, h8, h9, h10⟩ := H
  refine xMet_of (L := [_, _]) (by decide) (Nat.le_of_ble_eq_true rfl) rfl ?_
  refine ex_aload_n dPatt_elementsOf_0 rfl ?_
  refine ex_get dPatt_elementsOf_1 fg_Patt_11 h1 rfl ?_
  refine ex_iload_n dPatt_elementsOf_4 rfl ?_
  refine ex_iaload dPatt_elementsOf_5 h2 rfl hc (by omega) ?_
  exact ex_iret dPatt_elementsOf_6 rfl (Nat.le_refl _) (Nat.le_refl _) ⟨by rw [h4 c hc], rfl⟩
theorem c_Patt_open {c : Nat} {t : Bool} (hc : c < 8) (H : Pt h a fl sz hv st ss ls) : xMet l G mPatt_open (d + 1) 0 0 [.ref a, .int (nI c), .int (bI t)] h (fun o h' => o = .inl none ∧ Pt h' a fl sz hv st (ss ||| pgoal c) (if t then ls else ls ||| pgoal c) ∧ Sm h h' a (a + 3)) := by
  have H0 := H
  obtain ⟨f, g, h1, h2, h3, h4, h5, h6, h7, h8, h9, h10⟩ := H
  have hg := pgoal_lt hc
  have b1 : ss ||| pgoal c < 2 ^ 24 := Nat.or_lt_two_pow h8 hg
  have b2 : ls ||| pgoal c < 2 ^ 24 := Nat.or_lt_two_pow h9 hg
  obtain ⟨P1, S1⟩ := H0.obj h7 b1 h9
  obtain ⟨P2, S2⟩ := P1.obj h7 b1 b2
  refine xMet_of (L := [_, _, _]) (by decide) (Nat.le_of_ble_eq_true rfl) rfl ?_
  refine ex_aload_n dPatt_open_0 rfl ?_
  refine ex_dup dPatt_open_1 rfl ?_
  refine ex_get dPatt_open_2 fg_Patt_22 h1 rfl ?_
  refine ex_iload_n dPatt_open_5 rfl ?_
  refine ex_s1 dPatt_open_6 is_Patt_26 cd_Patt_goalOf ar_Patt_goalOf (c_Patt_goalOf (d := d) hc) (by dsimp only; omega) (Nat.le_of_ble_eq_true rfl) (Nat.le_refl _) (Nat.le_refl _) (fun E h9 q9 => by simp at q9) (fun v9 hp9 hq => ?_)
  obtain ⟨e, e2⟩ := hq
  cases e
  rw [e2]
  refine ex_ior dPatt_open_9 ?_
  rw [nb_or]
  refine ex_put (fs' := [_, _, _, _, _, _]) dPatt_open_10 (fp_Patt_22 _) h1 rfl rfl (Nat.le_of_ble_eq_true rfl) rfl ?_
  refine ex_iload_n dPatt_open_13 rfl ?_
  refine ex_if_ne (tgt := 30) dPatt_open_14 (by decide) (fun hc2 => ?_) (fun hc2 => ?_)
  · have ht : t = true := by cases t; exact absurd rfl hc2; rfl
    subst ht
    exact ex_vret dPatt_open_30 rfl (Nat.le_refl _) (Nat.le_refl _) ⟨rfl, P1, S1⟩
  have ht : t = false := bI_0.mp hc2
  subst ht
  refine ex_aload_n dPatt_open_17 rfl ?_
  refine ex_dup dPatt_open_18 rfl ?_
  refine ex_get dPatt_open_19 fg_Patt_30 (xup_self _ _ _) rfl ?_
  refine ex_iload_n dPatt_open_22 rfl ?_
  refine ex_s1 dPatt_open_23 is_Patt_26 cd_Patt_goalOf ar_Patt_goalOf (c_Patt_goalOf (d := d) hc) (by dsimp only; omega) (Nat.le_of_ble_eq_true rfl) (Nat.le_refl _) (Nat.le_refl _) (fun E h9 q9 => by simp at q9) (fun v9 hp9 hq => ?_)
  obtain ⟨e, e2⟩ := hq
  cases e
  rw [e2]
  refine ex_ior dPatt_open_26 ?_
  rw [nb_or]
  refine ex_put (fs' := [_, _, _, _, _, _]) dPatt_open_27 (fp_Patt_30 _) (xup_self _ _ _) rfl rfl (Nat.le_of_ble_eq_true rfl) rfl ?_
  exact ex_vret dPatt_open_30 rfl (Nat.le_refl _) (Nat.le_refl _) ⟨rfl, P2, S1.trans S2⟩
theorem c_Patt_lowerElements {c : Nat} (hc : c < 8) (H : Pt h a fl sz hv st ss ls) : xMet l G mPatt_lowerElements (d + 1) 0 0 [.ref a, .int (nI c)] h (fun o h' => o = .inl none ∧ Pt h' a fl sz (fun j => plow (hv j) c) (plow st c) ss ls ∧ Sm h h' a (a + 3)) := by
  have H0 := H
  obtain ⟨f, g, h1, h2, h3, h4, h5, h6, h7, h8, h9, h10⟩ := H
  have loop : ∀ (j i : Nat) (hi : xH), i + j = 10 → Pt hi a fl sz (fun q => if q < i then plow (hv q) c else hv q) (plow st c) ss ls → Sm h hi a (a + 3) → Ex (l, G, d + 1, 0, 0, h, fun o h' => o = .inl none ∧ Pt h' a fl sz (fun j => plow (hv j) c) (plow st c) ss ls ∧ Sm h h' a (a + 3)) mPatt_lowerElements 14 [some (.ref a), some (.int (nI c)), some (.int (nI i))] [] hi 0 0 := by
    intro j
    induction j with
    | zero =>
      intro i hi hij HP hS
      have e : i = 10 := by omega
      subst e
      refine ex_iload_n dPatt_lowerElements_14 rfl ?_
      refine ex_bipush (v := nI 10) dPatt_lowerElements_15 (by decide) ?_
      refine ex_icmp_ge (tgt := 42) dPatt_lowerElements_17 (by decide) (fun hc9 => ?_) (fun hc9 => ?_)
      · refine ex_vret dPatt_lowerElements_42 rfl (Nat.le_refl _) (Nat.le_refl _) ⟨rfl, ?_, hS⟩
        obtain ⟨f, g, h1, h2, h3, h4, h5, h6, h7, h8, h9, h10⟩ := HP
        exact ⟨f, g, h1, h2, h3, h4, fun j hj => by rw [h5 j hj]; dsimp only; rw [if_pos hj], fun j hj => by have := h6 j hj; dsimp only at this ⊢; rw [if_pos hj] at this; exact this, h7, h8, h9, h10⟩
      · exact absurd (by decide) hc9
    | succ j ih =>
      intro i hi hij HP hS
      obtain ⟨f, g, h1, h2, h3, h4, h5, h6, h7, h8, h9, h10⟩ := HP
      refine ex_iload_n dPatt_lowerElements_14 rfl ?_
      refine ex_bipush (v := nI 10) dPatt_lowerElements_15 (by decide) ?_
      refine ex_icmp_ge (tgt := 42) dPatt_lowerElements_17 (by decide) (fun hc9 => ?_) (fun hc9 => ?_)
      · exact absurd hc9 (nI_ge (by omega) (by omega))
      refine ex_aload_n dPatt_lowerElements_20 rfl ?_
      refine ex_get dPatt_lowerElements_21 fg_Patt_15 h1 rfl ?_
      refine ex_iload_n dPatt_lowerElements_24 rfl ?_
      refine ex_aload_n dPatt_lowerElements_25 rfl ?_
      refine ex_get dPatt_lowerElements_26 fg_Patt_15 h1 rfl ?_
      refine ex_iload_n dPatt_lowerElements_29 rfl ?_
      refine ex_iaload dPatt_lowerElements_30 h3 rfl (by omega) (by omega) ?_
      refine ex_iload_n dPatt_lowerElements_31 rfl ?_
      have hgi := h5 i (by omega)
      have hbi := h6 i (by omega)
      dsimp only at hgi hbi
      rw [if_neg (Nat.lt_irrefl i)] at hgi hbi
      rw [hgi]
      refine ex_s2 dPatt_lowerElements_32 is_Patt_33 cd_Patt_lowered ar_Patt_lowered (c_Patt_lowered (d := d) hbi hc) (by dsimp only; omega) (Nat.le_of_ble_eq_true rfl) (Nat.le_refl _) (Nat.le_refl _) (fun E h9 q9 => by simp at q9) (fun v9 hp9 hq => ?_)
      obtain ⟨e, e2⟩ := hq
      cases e
      rw [e2]
      refine ex_iastore dPatt_lowerElements_35 h3 rfl (by omega) (by omega) ?_
      refine ex_iinc (L' := [_, _, _]) dPatt_lowerElements_36 rfl rfl (by decide) rfl ?_
      refine ex_goto (tgt := 14) dPatt_lowerElements_39 (by decide) ?_
      rw [show nI i + Int32.ofInt 1 = nI (i + 1) from nI_1 i]
      refine ih (i + 1) _ (by omega) ⟨f, upd g i (nI (plow (hv i) c)), by rw [xup_ne _ _ (by omega)]; exact h1, by rw [xup_ne _ _ (by omega)]; exact h2, xup_self _ _ _, h4, fun q hq9 => ?_, fun q hq9 => ?_, h7, h8, h9, h10⟩ (hS.trans (Sm.up (by omega) (by omega)))
      · by_cases e : q = i
        · subst e; rw [pk_us]; dsimp only; rw [if_pos (by omega)]
        · rw [pk_un e, h5 q hq9]; congr 1; dsimp only
          by_cases hlt : q < i
          · rw [if_pos hlt, if_pos (by omega)]
          · rw [if_neg hlt, if_neg (by omega)]
      · have h6q := h6 q hq9
        dsimp only at h6q ⊢
        split
        · by_cases e : q = i
          · subst e; exact plow_lt hbi
          · rw [if_pos (by omega)] at h6q; exact h6q
        · rw [if_neg (by omega)] at h6q; exact h6q
  refine xMet_of (L := [_, _, _]) (by decide) (Nat.le_of_ble_eq_true rfl) rfl ?_
  refine ex_aload_n dPatt_lowerElements_0 rfl ?_
  refine ex_aload_n dPatt_lowerElements_1 rfl ?_
  refine ex_get dPatt_lowerElements_2 fg_Patt_41 h1 rfl ?_
  refine ex_iload_n dPatt_lowerElements_5 rfl ?_
  refine ex_s2 dPatt_lowerElements_6 is_Patt_33 cd_Patt_lowered ar_Patt_lowered (c_Patt_lowered (d := d) h7 hc) (by dsimp only; omega) (Nat.le_of_ble_eq_true rfl) (Nat.le_refl _) (Nat.le_refl _) (fun E h9 q9 => by simp at q9) (fun v9 hp9 hq => ?_)
  obtain ⟨e, e2⟩ := hq
  cases e
  rw [e2]
  refine ex_put (fs' := [_, _, _, _, _, _]) dPatt_lowerElements_9 (fp_Patt_41 _) h1 rfl rfl (Nat.le_of_ble_eq_true rfl) rfl ?_
  refine ex_iconst (v := nI 0) dPatt_lowerElements_12 (by decide) ?_
  refine ex_istore_n (L' := [_, _, _]) dPatt_lowerElements_13 (by decide) rfl ?_
  obtain ⟨P1, S1⟩ := H0.obj (plow_lt (c := c) h7) h8 h9
  refine loop 10 0 _ (by omega) ?_ S1
  obtain ⟨f, g, h1, h2, h3, h4, h5, h6, h7⟩ := P1
  exact ⟨f, g, h1, h2, h3, h4, fun j hj => by rw [h5 j hj]; dsimp only; rw [if_neg (Nat.not_lt_zero j)], fun j hj => by dsimp only; rw [if_neg (Nat.not_lt_zero j)]; exact h6 j hj, h7⟩
theorem c_Patt_init (hz : h.1 = a + 1) (h1 : h.2 a = some (.inr (2, [.int 0, .null, .null, .int 0, .int 0, .int 0]))) : xMet l G mPatt_init d 2 18 [.ref a, .int (bI fl)] h (fun o h' => o = .inl none ∧ Pt h' a fl (fun _ => 0) (fun _ => 0) 0 0 0 ∧ h'.1 = a + 3 ∧ ∀ q : Nat, (q < a ∨ a + 3 ≤ q) → h'.2 q = h.2 q) := by
  refine xMet_of (L := [_, _]) (by decide) (Nat.le_of_ble_eq_true rfl) rfl ?_
  refine ex_aload_n dPatt_init_0 rfl ?_
  refine ex_objInit dPatt_init_1 oi_Patt_5 oi_1 oi_2 (by decide) ?_
  refine ex_aload_n dPatt_init_4 rfl ?_
  refine ex_bipush (v := nI 8) dPatt_init_5 (by decide) ?_
  refine ex_newi dPatt_init_7 aw_int rfl (by omega) (Nat.le_of_ble_eq_true rfl) (Nat.le_of_ble_eq_true rfl) ?_
  rw [hz]
  have e1 : (xnew h (cI 8 (fun _ => 0))).2 a = some (.inr (2, [.int 0, .null, .null, .int 0, .int 0, .int 0])) := by simp [xnew, hz, h1]
  refine ex_put (fs' := [_, _, _, _, _, _]) dPatt_init_9 fp_Patt_11 e1 rfl rfl (Nat.le_of_ble_eq_true rfl) rfl ?_
  refine ex_aload_n dPatt_init_12 rfl ?_
  refine ex_bipush (v := nI 10) dPatt_init_13 (by decide) ?_
  refine ex_newi dPatt_init_15 aw_int rfl (by omega) (Nat.le_of_ble_eq_true rfl) (Nat.le_of_ble_eq_true rfl) ?_
  have hz2 : (xup (xnew h (cI 8 (fun _ => 0))) a (.inr (2, [.int 0, .ref (a + 1), .null, .int 0, .int 0, .int 0]))).1 = a + 2 := by simp [xup, xnew, hz]
  rw [hz2]
  have e2 : (xnew (xup (xnew h (cI 8 (fun _ => 0))) a (.inr (2, [.int 0, .ref (a + 1), .null, .int 0, .int 0, .int 0]))) (cI 10 (fun _ => 0))).2 a = some (.inr (2, [.int 0, .ref (a + 1), .null, .int 0, .int 0, .int 0])) := by simp [xnew, xup, hz]; omega
  refine ex_put (fs' := [_, _, _, _, _, _]) dPatt_init_17 fp_Patt_15 e2 rfl rfl (Nat.le_of_ble_eq_true rfl) rfl ?_
  refine ex_aload_n dPatt_init_20 rfl ?_
  refine ex_iload_n dPatt_init_21 rfl ?_
  refine ex_put (fs' := [_, _, _, _, _, _]) dPatt_init_22 fp_Patt_18 (xup_self _ _ _) (bI_nar _) (bI_fits _) (Nat.le_of_ble_eq_true rfl) rfl ?_
  refine ex_vret dPatt_init_25 rfl (Nat.le_of_ble_eq_true rfl) (Nat.le_of_ble_eq_true rfl) ⟨rfl, ⟨fun _ => 0, fun _ => 0, ?_, ?_, ?_, fun _ _ => rfl, fun _ _ => rfl, fun _ _ => Nat.two_pow_pos 24, by decide, by decide, by decide, fun _ _ => Nat.zero_le 2⟩, ?_, fun q hq => ?_⟩
  · rw [xup_self]; rfl
  · simp [xnew, xup, hz]
  · simp [xnew, xup, hz]
  · simp [xup, xnew, hz]
  · simp [xup, xnew, hz, show q ≠ a by omega, show q ≠ a + 1 by omega, show q ≠ a + 2 by omega]
end PATT
end
section
/-! Patterns.addElement. -/
def pbit (fl : Bool) (c n : Nat) : Nat := pgoal c >>> (if fl then 1 else n)
def padL (fl : Bool) (c x : Nat) : Nat := if fl then plow x c else x
def padH (fl : Bool) (c s n : Nat) (hv : Nat → Nat) : Nat → Nat := fun j => if s.testBit j then padL fl c (hv j) ||| pbit fl c n else padL fl c (hv j)
def padS (fl : Bool) (c n : Nat) (b : Bool) (st : Nat) : Nat := if b then padL fl c st ||| pbit fl c n else padL fl c st
theorem pbit_lt {fl : Bool} {c n : Nat} (hc : c < 8) : pbit fl c n < 2 ^ 24 := shr_lt (pgoal_lt hc)
theorem padL_lt {fl : Bool} {c x : Nat} (hx : x < 2 ^ 24) : padL fl c x < 2 ^ 24 := by
  unfold padL
  split
  · exact plow_lt hx
  · exact hx
section PADD
variable {l : Launch} {G : xG} {d : Nat} {h : xH} {a : Nat} {fl : Bool} {sz hv : Nat → Nat} {st ss ls : Nat}
theorem c_Patt_addElement {c s : Nat} {b : Bool} (hc : c < 8) (hs : s < 2 ^ 10) (hz : sz c < 2) (H : Pt h a fl sz hv st ss ls) : xMet l G mPatt_addElement (d + 2) 0 0 [.ref a, .int (nI c), .int (nI s), .int (bI b)] h (fun o h' => o = .inl (some (.int (nI (sz c + 1)))) ∧ Pt h' a fl (va_up sz c (sz c + 1)) (padH fl c s (sz c + 1) hv) (padS fl c (sz c + 1) b st) (plow ss c) (plow ls c) ∧ Sm h h' a (a + 3)) := by
  have H0 := H
  obtain ⟨f, g, h1, h2, h3, h4, h5, h6, h7, h8, h9, h10⟩ := H
  have hs1 : va_up sz c (sz c + 1) c = sz c + 1 := va_up_self _ _ _
  have hszu : ∀ j, j < 8 → va_up sz c (sz c + 1) j ≤ 2 := fun j hj => by
    by_cases e : j = c
    · subst e; rw [va_up_self]; omega
    · rw [va_up_ne _ _ e]; exact h10 j hj
  have fin : ∀ hi : xH, Pt hi a fl (va_up sz c (sz c + 1)) (padH fl c s (sz c + 1) hv) (padL fl c st) (plow ss c) (plow ls c) → Sm h hi a (a + 3) → ∀ x5, Ex (l, G, d + 2, 0, 0, h, fun o h' => o = .inl (some (.int (nI (sz c + 1)))) ∧ Pt h' a fl (va_up sz c (sz c + 1)) (padH fl c s (sz c + 1) hv) (padS fl c (sz c + 1) b st) (plow ss c) (plow ls c) ∧ Sm h h' a (a + 3)) mPatt_addElement 108 [some (.ref a), some (.int (nI c)), some (.int (nI s)), some (.int (bI b)), some (.int (nI (pbit fl c (sz c + 1)))), x5] [] hi 0 0 := by
    intro hi HP hS x5
    have HP0 := HP
    obtain ⟨f, g, h1, h2, h3, h4, h5, h6, h7, h8, h9, h10⟩ := HP
    refine ex_iload_n dPatt_addElement_108 rfl ?_
    refine ex_if_eq (tgt := 123) dPatt_addElement_109 (by decide) (fun hc2 => ?_) (fun hc2 => ?_)
    · have hb : b = false := bI_0.mp hc2
      subst hb
      refine ex_aload_n dPatt_addElement_123 rfl ?_
      refine ex_get dPatt_addElement_124 fg_Patt_11 h1 rfl ?_
      refine ex_iload_n dPatt_addElement_127 rfl ?_
      refine ex_iaload dPatt_addElement_128 h2 rfl hc (by omega) ?_
      exact ex_iret dPatt_addElement_129 rfl (Nat.le_refl _) (Nat.le_refl _) ⟨by rw [h4 c hc, hs1], HP0, hS⟩
    · have hb : b = true := by cases b; exact absurd rfl hc2; rfl
      subst hb
      refine ex_aload_n dPatt_addElement_112 rfl ?_
      refine ex_dup dPatt_addElement_113 rfl ?_
      refine ex_get dPatt_addElement_114 fg_Patt_41 h1 rfl ?_
      refine ex_iload dPatt_addElement_117 rfl ?_
      refine ex_ior dPatt_addElement_119 ?_
      rw [nb_or]
      obtain ⟨P1, S1⟩ := HP0.obj (st' := padL fl c st ||| pbit fl c (sz c + 1)) (Nat.or_lt_two_pow h7 (pbit_lt hc)) h8 h9
      have P0 := P1
      obtain ⟨f', g', p1, p2, p3, p4, -⟩ := P0
      refine ex_put (fs' := [_, _, _, _, _, _]) dPatt_addElement_120 (fp_Patt_41 _) h1 rfl rfl (Nat.le_of_ble_eq_true rfl) rfl ?_
      refine ex_aload_n dPatt_addElement_123 rfl ?_
      refine ex_get dPatt_addElement_124 fg_Patt_11 p1 rfl ?_
      refine ex_iload_n dPatt_addElement_127 rfl ?_
      refine ex_iaload dPatt_addElement_128 p2 rfl hc (by omega) ?_
      exact ex_iret dPatt_addElement_129 rfl (Nat.le_refl _) (Nat.le_refl _) ⟨by rw [p4 c hc, hs1], P1, hS.trans S1⟩
  have loop : ∀ (j i : Nat) (hi : xH), i + j = 10 → Pt hi a fl (va_up sz c (sz c + 1)) (fun q => if q < i then padH fl c s (sz c + 1) hv q else padL fl c (hv q)) (padL fl c st) (plow ss c) (plow ls c) → Sm h hi a (a + 3) → Ex (l, G, d + 2, 0, 0, h, fun o h' => o = .inl (some (.int (nI (sz c + 1)))) ∧ Pt h' a fl (va_up sz c (sz c + 1)) (padH fl c s (sz c + 1) hv) (padS fl c (sz c + 1) b st) (plow ss c) (plow ls c) ∧ Sm h h' a (a + 3)) mPatt_addElement 73 [some (.ref a), some (.int (nI c)), some (.int (nI s)), some (.int (bI b)), some (.int (nI (pbit fl c (sz c + 1)))), some (.int (nI i))] [] hi 0 0 := by
    intro j
    induction j with
    | zero =>
      intro i hi hij HP hS
      have e : i = 10 := by omega
      subst e
      refine ex_iload dPatt_addElement_73 rfl ?_
      refine ex_bipush (v := nI 10) dPatt_addElement_75 (by decide) ?_
      refine ex_icmp_ge (tgt := 108) dPatt_addElement_77 (by decide) (fun hc9 => ?_) (fun hc9 => ?_)
      · refine fin hi ?_ hS _
        obtain ⟨f, g, h1, h2, h3, h4, h5, h6, h7⟩ := HP
        exact ⟨f, g, h1, h2, h3, h4, fun j hj => by rw [h5 j hj]; dsimp only; rw [if_pos hj], fun j hj => by have := h6 j hj; dsimp only at this; rw [if_pos hj] at this; exact this, h7⟩
      · exact absurd (by decide) hc9
    | succ j ih =>
      intro i hi hij HP hS
      have HP0 := HP
      obtain ⟨f, g, h1, h2, h3, h4, h5, h6, h7, h8, h9, h10⟩ := HP
      have h5i := h5 i (by omega)
      have h6i := h6 i (by omega)
      dsimp only at h5i h6i
      rw [if_neg (Nat.lt_irrefl i)] at h5i h6i
      refine ex_iload dPatt_addElement_73 rfl ?_
      refine ex_bipush (v := nI 10) dPatt_addElement_75 (by decide) ?_
      refine ex_icmp_ge (tgt := 108) dPatt_addElement_77 (by decide) (fun hc9 => ?_) (fun hc9 => ?_)
      · exact absurd hc9 (nI_ge (by omega) (by omega))
      refine ex_iload_n dPatt_addElement_80 rfl ?_
      refine ex_iload dPatt_addElement_81 rfl ?_
      refine ex_ishr dPatt_addElement_83 ?_
      refine ex_iconst (v := nI 1) dPatt_addElement_84 (by decide) ?_
      refine ex_iand dPatt_addElement_85 ?_
      refine ex_iconst (v := nI 1) dPatt_addElement_86 (by decide) ?_
      rw [nb_shr (by omega) (by omega), nb_and]
      refine ex_icmp_ne (tgt := 102) dPatt_addElement_87 (by decide) (fun hc3 => ?_) (fun hc3 => ?_)
      · have hb : s.testBit i = false := by
          cases hb : s.testBit i
          · rfl
          · exact absurd (by rw [nb_one.mpr hb]) hc3
        refine ex_iinc (L' := [_, _, _, _, _, _]) dPatt_addElement_102 rfl rfl (by decide) rfl ?_
        refine ex_goto (tgt := 73) dPatt_addElement_105 (by decide) ?_
        rw [show nI i + Int32.ofInt 1 = nI (i + 1) from nI_1 i]
        refine ih (i + 1) hi (by omega) ⟨f, g, h1, h2, h3, h4, fun q hq9 => ?_, fun q hq9 => ?_, h7, h8, h9, h10⟩ hS
        · rw [h5 q hq9]; dsimp only
          by_cases e : q = i
          · subst e; rw [if_neg (Nat.lt_irrefl q), if_pos (by omega), padH, hb]; rfl
          · by_cases hlt : q < i
            · rw [if_pos hlt, if_pos (by omega)]
            · rw [if_neg hlt, if_neg (by omega)]
        · have h6q := h6 q hq9
          dsimp only at h6q ⊢
          by_cases e : q = i
          · subst e; rw [if_pos (by omega), padH, hb]; exact h6i
          · by_cases hlt : q < i
            · rw [if_pos hlt] at h6q; rw [if_pos (by omega)]; exact h6q
            · rw [if_neg hlt] at h6q; rw [if_neg (by omega)]; exact h6q
      · have hb : s.testBit i = true := nb_one.mp ((nI_eq (by have := @and_ltr (s >>> i) 1 1 (by decide); omega) (by omega)).mp hc3)
        refine ex_aload_n dPatt_addElement_90 rfl ?_
        refine ex_get dPatt_addElement_91 fg_Patt_15 h1 rfl ?_
        refine ex_iload dPatt_addElement_94 rfl ?_
        refine ex_dup2 dPatt_addElement_96 rfl rfl ?_
        refine ex_iaload dPatt_addElement_97 h3 rfl (by omega) (by omega) ?_
        refine ex_iload dPatt_addElement_98 rfl ?_
        rw [h5i]
        refine ex_ior dPatt_addElement_100 ?_
        rw [nb_or]
        refine ex_iastore dPatt_addElement_101 h3 rfl (by omega) (by omega) ?_
        refine ex_iinc (L' := [_, _, _, _, _, _]) dPatt_addElement_102 rfl rfl (by decide) rfl ?_
        refine ex_goto (tgt := 73) dPatt_addElement_105 (by decide) ?_
        rw [show nI i + Int32.ofInt 1 = nI (i + 1) from nI_1 i]
        refine ih (i + 1) _ (by omega) ⟨f, upd g i (nI (padL fl c (hv i) ||| pbit fl c (sz c + 1))), by rw [xup_ne _ _ (by omega)]; exact h1, by rw [xup_ne _ _ (by omega)]; exact h2, xup_self _ _ _, h4, fun q hq9 => ?_, fun q hq9 => ?_, h7, h8, h9, h10⟩ (hS.trans (Sm.up (by omega) (by omega)))
        · by_cases e : q = i
          · subst e; rw [pk_us]; dsimp only; rw [if_pos (by omega), padH, hb]; rfl
          · rw [pk_un e, h5 q hq9]; dsimp only
            by_cases hlt : q < i
            · rw [if_pos hlt, if_pos (by omega)]
            · rw [if_neg hlt, if_neg (by omega)]
        · have h6q := h6 q hq9
          dsimp only at h6q ⊢
          by_cases e : q = i
          · subst e; rw [if_pos (by omega), padH, hb]; exact Nat.or_lt_two_pow h6i (pbit_lt hc)
          · by_cases hlt : q < i
            · rw [if_pos hlt] at h6q; rw [if_pos (by omega)]; exact h6q
            · rw [if_neg hlt] at h6q; rw [if_neg (by omega)]; exact h6q
  have tail2 : ∀ (hi : xH) (k : Nat), Pt hi a fl (va_up sz c (sz c + 1)) (fun q => padL fl c (hv q)) (padL fl c st) (plow ss c) (plow ls c) → Sm h hi a (a + 3) → k = (if fl then 1 else sz c + 1) → Ex (l, G, d + 2, 0, 0, h, fun o h' => o = .inl (some (.int (nI (sz c + 1)))) ∧ Pt h' a fl (va_up sz c (sz c + 1)) (padH fl c s (sz c + 1) hv) (padS fl c (sz c + 1) b st) (plow ss c) (plow ls c) ∧ Sm h h' a (a + 3)) mPatt_addElement 67 [some (.ref a), some (.int (nI c)), some (.int (nI s)), some (.int (bI b)), none, none] [.int (nI k), .int (nI (pgoal c))] hi 0 0 := by
    intro hi k HP hS hk
    have hk2 : k < 32 := by rw [hk]; split <;> omega
    refine ex_ishr dPatt_addElement_67 ?_
    rw [nb_shr hk2 (Nat.lt_of_lt_of_le (pgoal_lt hc) (by decide)), show pgoal c >>> k = pbit fl c (sz c + 1) by rw [pbit, hk]]
    refine ex_istore (L' := [_, _, _, _, _, _]) dPatt_addElement_68 (by decide) rfl ?_
    refine ex_iconst (v := nI 0) dPatt_addElement_70 (by decide) ?_
    refine ex_istore (L' := [_, _, _, _, _, _]) dPatt_addElement_71 (by decide) rfl ?_
    refine loop 10 0 hi (by omega) ?_ hS
    obtain ⟨f, g, h1, h2, h3, h4, h5, h6, h7⟩ := HP
    exact ⟨f, g, h1, h2, h3, h4, fun j hj => by rw [h5 j hj]; dsimp only; rw [if_neg (Nat.not_lt_zero j)], fun j hj => by dsimp only; rw [if_neg (Nat.not_lt_zero j)]; exact h6 j hj, h7⟩
  have tail : ∀ hi : xH, Pt hi a fl sz (fun q => padL fl c (hv q)) (padL fl c st) (plow ss c) (plow ls c) → Sm h hi a (a + 3) → Ex (l, G, d + 2, 0, 0, h, fun o h' => o = .inl (some (.int (nI (sz c + 1)))) ∧ Pt h' a fl (va_up sz c (sz c + 1)) (padH fl c s (sz c + 1) hv) (padS fl c (sz c + 1) b st) (plow ss c) (plow ls c) ∧ Sm h h' a (a + 3)) mPatt_addElement 36 [some (.ref a), some (.int (nI c)), some (.int (nI s)), some (.int (bI b)), none, none] [] hi 0 0 := by
    intro hi HP hS
    obtain ⟨f, g, h1, h2, h3, h4, h5, h6, h7, h8, h9, h10⟩ := HP
    refine ex_aload_n dPatt_addElement_36 rfl ?_
    refine ex_get dPatt_addElement_37 fg_Patt_11 h1 rfl ?_
    refine ex_iload_n dPatt_addElement_40 rfl ?_
    refine ex_dup2 dPatt_addElement_41 rfl rfl ?_
    refine ex_iaload dPatt_addElement_42 h2 rfl hc (by omega) ?_
    refine ex_iconst (v := nI 1) dPatt_addElement_43 (by decide) ?_
    refine ex_iadd dPatt_addElement_44 ?_
    rw [h4 c hc, show nI (sz c) + nI 1 = nI (sz c + 1) from nI_add _ _]
    refine ex_iastore dPatt_addElement_45 h2 rfl hc (by omega) ?_
    refine ex_iload_n dPatt_addElement_46 rfl ?_
    have HP2 : Pt (xup hi (a + 1) (cI 8 (upd f c (nI (sz c + 1))))) a fl (va_up sz c (sz c + 1)) (fun q => padL fl c (hv q)) (padL fl c st) (plow ss c) (plow ls c) := by
      refine ⟨upd f c (nI (sz c + 1)), g, by rw [xup_ne _ _ (by omega)]; exact h1, xup_self _ _ _, by rw [xup_ne _ _ (by omega)]; exact h3, fun j hj => ?_, h5, h6, h7, h8, h9, hszu⟩
      by_cases e : j = c
      · subst e; rw [pk_us, va_up_self]
      · rw [pk_un e, va_up_ne _ _ e]; exact h4 j hj
    have hS2 : Sm h (xup hi (a + 1) (cI 8 (upd f c (nI (sz c + 1))))) a (a + 3) := hS.trans (Sm.up (by omega) (by omega))
    generalize xup hi (a + 1) (cI 8 (upd f c (nI (sz c + 1)))) = hj at HP2 hS2 ⊢
    refine ex_s1 dPatt_addElement_47 is_Patt_26 cd_Patt_goalOf ar_Patt_goalOf (c_Patt_goalOf (d := d) hc) (by dsimp only; omega) (Nat.le_of_ble_eq_true rfl) (Nat.le_refl _) (Nat.le_refl _) (fun E h9 q9 => by simp at q9) (fun v9 hp9 hq => ?_)
    obtain ⟨e, e2⟩ := hq
    cases e
    rw [e2]
    have HP3 := HP2
    obtain ⟨f', g', p1, p2, p3, p4, -⟩ := HP3
    refine ex_aload_n dPatt_addElement_50 rfl ?_
    refine ex_get dPatt_addElement_51 fg_Patt_18 p1 rfl ?_
    refine ex_if_eq (tgt := 61) dPatt_addElement_54 (by decide) (fun hc4 => ?_) (fun hc4 => ?_)
    · have hf : fl = false := bI_0.mp hc4
      refine ex_aload_n dPatt_addElement_61 rfl ?_
      refine ex_get dPatt_addElement_62 fg_Patt_11 p1 rfl ?_
      refine ex_iload_n dPatt_addElement_65 rfl ?_
      refine ex_iaload dPatt_addElement_66 p2 rfl hc (by omega) ?_
      rw [p4 c hc, hs1]
      exact tail2 hj _ HP2 hS2 (by rw [hf]; rfl)
    · have hf : fl = true := by cases fl; exact absurd rfl hc4; rfl
      refine ex_iconst (v := nI 1) dPatt_addElement_57 (by decide) ?_
      refine ex_goto (tgt := 67) dPatt_addElement_58 (by decide) ?_
      exact tail2 hj 1 HP2 hS2 (by rw [hf]; rfl)
  refine xMet_of (L := [_, _, _, _, _, _]) (by decide) (Nat.le_of_ble_eq_true rfl) rfl ?_
  refine ex_aload_n dPatt_addElement_0 rfl ?_
  refine ex_aload_n dPatt_addElement_1 rfl ?_
  refine ex_get dPatt_addElement_2 fg_Patt_22 h1 rfl ?_
  refine ex_iload_n dPatt_addElement_5 rfl ?_
  refine ex_s2 dPatt_addElement_6 is_Patt_33 cd_Patt_lowered ar_Patt_lowered (c_Patt_lowered (d := d) h8 hc) (by dsimp only; omega) (Nat.le_of_ble_eq_true rfl) (Nat.le_refl _) (Nat.le_refl _) (fun E h9 q9 => by simp at q9) (fun v9 hp9 hq => ?_)
  obtain ⟨e, e2⟩ := hq
  cases e
  rw [e2]
  obtain ⟨P1, S1⟩ := H0.obj h7 (plow_lt (c := c) h8) h9
  refine ex_put (fs' := [_, _, _, _, _, _]) dPatt_addElement_9 (fp_Patt_22 _) h1 rfl rfl (Nat.le_of_ble_eq_true rfl) rfl ?_
  refine ex_aload_n dPatt_addElement_12 rfl ?_
  refine ex_aload_n dPatt_addElement_13 rfl ?_
  refine ex_get dPatt_addElement_14 fg_Patt_30 (xup_self _ _ _) rfl ?_
  refine ex_iload_n dPatt_addElement_17 rfl ?_
  refine ex_s2 dPatt_addElement_18 is_Patt_33 cd_Patt_lowered ar_Patt_lowered (c_Patt_lowered (d := d) h9 hc) (by dsimp only; omega) (Nat.le_of_ble_eq_true rfl) (Nat.le_refl _) (Nat.le_refl _) (fun E h9 q9 => by simp at q9) (fun v9 hp9 hq => ?_)
  obtain ⟨e, e3⟩ := hq
  cases e
  rw [e3]
  obtain ⟨P2, S2⟩ := P1.obj h7 (plow_lt (c := c) h8) (plow_lt (c := c) h9)
  refine ex_put (fs' := [_, _, _, _, _, _]) dPatt_addElement_21 (fp_Patt_30 _) (xup_self _ _ _) rfl rfl (Nat.le_of_ble_eq_true rfl) rfl ?_
  refine ex_aload_n dPatt_addElement_24 rfl ?_
  refine ex_get dPatt_addElement_25 fg_Patt_18 (xup_self _ _ _) rfl ?_
  generalize xup (xup h a (cPatt a fl st (plow ss c) ls)) a (cPatt a fl st (plow ss c) (plow ls c)) = hB at P2 S2 ⊢
  have S3 := S1.trans S2
  have P3 := P2
  obtain ⟨f', g', p1, -⟩ := P3
  refine ex_if_eq (tgt := 36) dPatt_addElement_28 (by decide) (fun hc2 => ?_) (fun hc2 => ?_)
  · have hf : fl = false := bI_0.mp hc2
    subst hf
    exact tail hB P2 S3
  · have hf : fl = true := by cases fl; exact absurd rfl hc2; rfl
    subst hf
    refine ex_aload_n dPatt_addElement_31 rfl ?_
    refine ex_iload_n dPatt_addElement_32 rfl ?_
    refine ex_p1 dPatt_addElement_33 ip_Patt_37 cd_Patt_lowerElements ar_Patt_lowerElements p1 (c_Patt_lowerElements (d := d) hc P2) (by dsimp only; omega) (Nat.le_of_ble_eq_true rfl) (Nat.le_refl _) (Nat.le_refl _) (fun E h9 q9 => by simp at q9) (fun v9 hp9 hq => ?_)
    obtain ⟨e, P4, S4⟩ := hq
    cases e
    exact tail _ P4 (S3.trans S4)
end PADD
end
section
theorem kl_Resu_43 : Cond.constantLong "PairedWords$Results" 43 7 ∈ xTAB := xin (List.mem_of_getElem? (i := 784) (by decide +kernel)) rfl
theorem ac_l : Cond.methodLink "PairedWords$Results" 23 arraycopyName ∈ xTAB := xin (List.mem_of_getElem? (i := 718) (by decide +kernel)) rfl
theorem ac_n : Cond.native arraycopyName ∈ xTAB := xin (List.mem_of_getElem? (i := 720) (by decide +kernel)) rfl
theorem ac_s : Cond.static arraycopyName ∈ xTAB := xin (List.mem_of_getElem? (i := 719) (by decide +kernel)) rfl
theorem ac_i : Cond.initialized "java/lang/System" ∈ xTAB := xin (List.mem_of_getElem? (i := 18) (by decide +kernel)) rfl
theorem ne_Writ : (Cond.fieldLink "PairedWords$Writing" (34 : Nat) "PairedWords$Writing" "NO_ENTRIES" "[I") ∈ xTAB := xin (List.mem_of_getElem? (i := 376) (by decide +kernel)) rfl
end
section
/-! Numbers in longs. -/
theorem wb_tb (n : Nat) : (lN n).toBitVec = BitVec.ofNat 64 n := rfl
theorem wb_inj {a b : Int64} (h : a.toBitVec = b.toBitVec) : a = b := Int64.toBitVec_inj.mp h
theorem wb_c : ∀ k, k < 64 → ((nI k).toInt64 &&& 63) = lN k := by decide +kernel
theorem wb_sm : ∀ k, k < 64 → (BitVec.ofNat 64 k).smod 64 = BitVec.ofNat 64 k := by decide +kernel
theorem wb_shl (n : Nat) {k : Nat} (hk : k < 64) : lN n <<< ((nI k).toInt64 &&& 63) = lN (n * 2 ^ k) := by
  rw [wb_c k hk]
  apply wb_inj
  rw [Int64.toBitVec_shiftLeft, wb_tb, wb_tb, wb_tb, wb_sm k hk]
  apply BitVec.eq_of_toNat_eq
  rw [BitVec.shiftLeft_eq', BitVec.toNat_shiftLeft, BitVec.toNat_ofNat, BitVec.toNat_ofNat, BitVec.toNat_ofNat, Nat.mod_eq_of_lt (show k < 2 ^ 64 by omega), Nat.shiftLeft_eq, Nat.mul_mod, Nat.mod_mod, ← Nat.mul_mod]
theorem wb_and {a b : Nat} (ha : a < 2 ^ 64) (hb : b < 2 ^ 64) : lN a &&& lN b = lN (a &&& b) := by
  apply wb_inj
  rw [Int64.toBitVec_and, wb_tb, wb_tb, wb_tb]
  apply BitVec.eq_of_toNat_eq
  rw [BitVec.toNat_and, BitVec.toNat_ofNat, BitVec.toNat_ofNat, BitVec.toNat_ofNat, Nat.mod_eq_of_lt ha, Nat.mod_eq_of_lt hb, Nat.mod_eq_of_lt (Nat.and_lt_two_pow _ hb)]
theorem u_tn {n : Nat} (h : n < 2 ^ 64) : (UInt64.ofNat n).toNat = n := Nat.mod_eq_of_lt h
theorem g_or {k p a b : Nat} (hp : 2 ^ k = p) (ha : a < p) (h : b * p + a < 2 ^ 64) : lN (b * p) ||| lN a = lN (b * p + a) := by
  subst hp
  have h1 : b * 2 ^ k ||| a = b * 2 ^ k + a := by rw [← Nat.shiftLeft_eq, Nat.shiftLeft_add_eq_or_of_lt ha]
  have h3 : UInt64.ofNat (b * 2 ^ k) ||| UInt64.ofNat a = UInt64.ofNat (b * 2 ^ k + a) := UInt64.toNat_inj.mp (by rw [UInt64.toNat_or, u_tn (by omega), u_tn (by omega), u_tn h, h1])
  have h2 := congrArg UInt64.toInt64 h3
  exact h2
theorem pf_lI {a : Nat} (h : a < 2 ^ 63) : (lN a).toInt = (a : Int) := lg_ofNat_toInt h
theorem pf_shr {a d : Nat} {D : Int64} (hD : (D.toBitVec.smod 64).toNat = d) (h : a < 2 ^ 62) : lN a >>> D = lN (a / 2 ^ d) := by
  have hd : a / 2 ^ d ≤ a := Nat.div_le_self _ _
  apply Int64.toInt_inj.mp
  have e : (lN a >>> D).toInt = (lN a).toInt >>> d := by
    rw [← hD]
    exact BitVec.toInt_sshiftRight ..
  rw [e, Int.shiftRight_eq_div_pow, pf_lI (by omega), pf_lI (by omega)]
  rfl
/-! Results. Rs h a ks tm: at a the object, at a + 1 its keys, in order. -/
abbrev cResu (a c : Nat) (tm : Bool) : xE := .inr (3, [.ref (a + 1), .int (nI c), .int (bI tm)])
abbrev cL (N : Nat) (f : Nat → Int64) : xE := .inl (1, N, .inr (.inl f))
def Rs (h : xH) (a : Nat) (ks : List Nat) (tm : Bool) : Prop := ∃ f : Nat → Int64, h.2 a = some (cResu a ks.length tm) ∧ h.2 (a + 1) = some (cL 60 f) ∧ ks.length ≤ 60 ∧ (∀ j, j < ks.length → f j = lN (ks.getD j 0)) ∧ (∀ k ∈ ks, k < 2 ^ 62) ∧ ks.Pairwise (· < ·)
theorem Rs.sm {h h' : xH} {a lo hi : Nat} {ks : List Nat} {tm : Bool} (H : Rs h a ks tm) (hs : Sm h h' lo hi) (hd : a + 2 ≤ lo ∨ hi ≤ a) : Rs h' a ks tm := by
  obtain ⟨f, h1, h2, h3⟩ := H
  exact ⟨f, by rw [hs.2 a (by omega)]; exact h1, by rw [hs.2 (a + 1) (by omega)]; exact h2, h3⟩
/-- a number put in its place -/
def ins (k : Nat) : List Nat → List Nat
  | [] => [k]
  | x :: xs => if x < k then x :: ins k xs else k :: x :: xs
theorem ins_split {k : Nat} : ∀ (ks : List Nat) (i : Nat), i ≤ ks.length → (∀ j, j < i → ks.getD j 0 < k) → (∀ j, i ≤ j → j < ks.length → k < ks.getD j 0) → ins k ks = ks.take i ++ k :: ks.drop i
  | [], i, hi, _, _ => by simp [ins]
  | x :: xs, 0, hi, _, h2 => by
    have := h2 0 (Nat.le_refl _) (by simp)
    simp at this
    simp [ins]; omega
  | x :: xs, i + 1, hi, h1, h2 => by
    have a1 := h1 0 (by omega)
    simp at a1
    have ih := ins_split xs i (by simpa using hi) (fun j hj => by have := h1 (j + 1) (by omega); simpa using this) (fun j hj hl => by have := h2 (j + 1) (by omega) (by simpa using hl); simpa using this)
    simp [ins, a1, ih]
theorem ins_mem {k x : Nat} : ∀ {ks : List Nat}, x ∈ ins k ks ↔ x = k ∨ x ∈ ks
  | [] => by simp [ins]
  | y :: ys => by
    unfold ins
    split
    · rw [List.mem_cons, ins_mem (ks := ys), List.mem_cons]
      constructor
      · rintro (h | h | h) <;> simp [h]
      · rintro (h | h | h) <;> simp [h]
    · simp
theorem ins_len {k : Nat} : ∀ (ks : List Nat), (ins k ks).length = ks.length + 1
  | [] => rfl
  | y :: ys => by
    unfold ins
    split
    · simp [ins_len ys]
    · simp
theorem ins_sorted {k : Nat} : ∀ {ks : List Nat}, ks.Pairwise (· < ·) → k ∉ ks → (ins k ks).Pairwise (· < ·)
  | [], _, _ => by simp [ins]
  | y :: ys, h, hn => by
    rw [List.pairwise_cons] at h
    rw [List.mem_cons] at hn
    unfold ins
    split
    · rename_i hlt
      rw [List.pairwise_cons]
      refine ⟨fun z hz => ?_, ins_sorted h.2 (fun q => hn (Or.inr q))⟩
      rcases ins_mem.mp hz with rfl | q
      · exact hlt
      · exact h.1 z q
    · rename_i hge
      rw [List.pairwise_cons, List.pairwise_cons]
      refine ⟨fun z hz => ?_, h⟩
      have hyk : k < y := by omega
      rcases List.mem_cons.mp hz with rfl | q
      · exact hyk
      · exact Nat.lt_trans hyk (h.1 z q)
def radd (r : List Nat × Bool) (k : Nat) : List Nat × Bool := if k ∈ r.1 then r else if 60 ≤ r.1.length then (r.1, true) else (ins k r.1, r.2)
theorem sorted_get {ks : List Nat} (h : ks.Pairwise (· < ·)) {i j : Nat} (hij : i < j) (hj : j < ks.length) : ks.getD i 0 < ks.getD j 0 := by
  rw [List.pairwise_iff_getElem] at h
  have := h i j (by omega) hj hij
  rw [List.getD_eq_getElem?_getD, List.getD_eq_getElem?_getD, List.getElem?_eq_getElem (by omega), List.getElem?_eq_getElem hj]
  exact this
/-! the number of a result -/
def kcat (k : Nat) (f : Nat → Nat) : Nat → Nat
  | 0 => k
  | n + 1 => kcat k f n * 8 + f n
theorem kcat_lt {k : Nat} {f : Nat → Nat} : ∀ {n : Nat}, (∀ i, i < n → f i < 8) → kcat k f n < (k + 1) * 8 ^ n
  | 0, _ => by simp [kcat]
  | n + 1, h => by
    have h1 := kcat_lt (k := k) (f := f) (n := n) (fun i hi => h i (by omega))
    have h2 := h n (by omega)
    rw [kcat, Nat.pow_succ, ← Nat.mul_assoc]
    omega
def rkey (w : List Nat) (es : Nat → Nat) (n : Nat) : Nat := kcat (kcat w.length (fun i => w.getD i 0) 5 * 8 + n) (fun i => if i < n then es i else 0) 4
section RESU
variable {l : Launch} {G : xG} {d : Nat} {h : xH} {a : Nat} {ks : List Nat} {tm : Bool}
theorem c_Resu_count (H : Rs h a ks tm) : xMet l G mResu_count d 0 0 [.ref a] h (fun o h' => o = .inl (some (.int (nI ks.length))) ∧ h' = h) := by
  obtain ⟨f, h1, h2, h3, h4, h5, h6⟩ := H
  refine xMet_of (L := [_]) (by decide) (Nat.le_of_ble_eq_true rfl) rfl ?_
  refine ex_aload_n dResu_count_0 rfl ?_
  refine ex_get dResu_count_1 fg_Resu_15 h1 rfl ?_
  exact ex_iret dResu_count_4 rfl (Nat.le_refl _) (Nat.le_refl _) ⟨rfl, rfl⟩
theorem c_Resu_isTooMany (H : Rs h a ks tm) : xMet l G mResu_isTooMany d 0 0 [.ref a] h (fun o h' => o = .inl (some (.int (bI tm))) ∧ h' = h) := by
  obtain ⟨f, h1, h2, h3, h4, h5, h6⟩ := H
  refine xMet_of (L := [_]) (by decide) (Nat.le_of_ble_eq_true rfl) rfl ?_
  refine ex_aload_n dResu_isTooMany_0 rfl ?_
  refine ex_get dResu_isTooMany_1 fg_Resu_19 h1 rfl ?_
  exact ex_zret dResu_isTooMany_4 rfl (bI_01 _) (Nat.le_refl _) (Nat.le_refl _) ⟨rfl, rfl⟩
theorem c_Resu_clear (H : Rs h a ks tm) : xMet l G mResu_clear d 0 0 [.ref a] h (fun o h' => o = .inl none ∧ Rs h' a [] false ∧ Sm h h' a (a + 2)) := by
  obtain ⟨f, h1, h2, h3, h4, h5, h6⟩ := H
  refine xMet_of (L := [_]) (by decide) (Nat.le_of_ble_eq_true rfl) rfl ?_
  refine ex_aload_n dResu_clear_0 rfl ?_
  refine ex_iconst (v := nI 0) dResu_clear_1 (by decide) ?_
  refine ex_put (fs' := [_, _, _]) dResu_clear_2 (fp_Resu_15 _) h1 rfl rfl (Nat.le_of_ble_eq_true rfl) rfl ?_
  refine ex_aload_n dResu_clear_5 rfl ?_
  refine ex_iconst (v := nI 0) dResu_clear_6 (by decide) ?_
  refine ex_put (fs' := [_, _, _]) dResu_clear_7 (fp_Resu_19 _) (xup_self _ _ _) (bI_nar false) (bI_fits false) (Nat.le_of_ble_eq_true rfl) rfl ?_
  refine ex_vret dResu_clear_10 rfl (Nat.le_refl _) (Nat.le_refl _) ⟨rfl, ⟨f, xup_self _ _ _, ?_, by simp, fun j hj => absurd hj (Nat.not_lt_zero _), fun k hk => by simp at hk, List.Pairwise.nil⟩, (Sm.up (by omega) (by omega)).trans (Sm.up (by omega) (by omega))⟩
  rw [xup_ne _ _ (by omega), xup_ne _ _ (by omega)]; exact h2
theorem c_Resu_copy {b : Nat} {ks' : List Nat} {tm' : Bool} (hab : b + 2 ≤ a ∨ a + 2 ≤ b) (H : Rs h a ks tm) (H' : Rs h b ks' tm') : xMet l G mResu_copy d 0 0 [.ref a, .ref b] h (fun o h' => o = .inl none ∧ Rs h' a ks' tm' ∧ Sm h h' a (a + 2)) := by
  obtain ⟨f, h1, h2, h3, h4, h5, h6⟩ := H
  obtain ⟨g, g1, g2, g3, g4, g5, g6⟩ := H'
  have e1 : (xup h (a + 1) (cL 60 (fun j => if j < 60 then g j else f j))).2 b = some (cResu b ks'.length tm') := by rw [xup_ne _ _ (by omega)]; exact g1
  have e2 : (xup h (a + 1) (cL 60 (fun j => if j < 60 then g j else f j))).2 a = some (cResu a ks.length tm) := by rw [xup_ne _ _ (by omega)]; exact h1
  have e3 : (xup (xup h (a + 1) (cL 60 (fun j => if j < 60 then g j else f j))) a (cResu a ks'.length tm)).2 b = some (cResu b ks'.length tm') := by rw [xup_ne _ _ (by omega)]; exact e1
  refine xMet_of (L := [_, _]) (by decide) (Nat.le_of_ble_eq_true rfl) rfl ?_
  refine ex_aload_n dResu_copy_0 rfl ?_
  refine ex_get dResu_copy_1 fg_Resu_9 g1 rfl ?_
  refine ex_iconst (v := nI 0) dResu_copy_4 (by decide) ?_
  refine ex_aload_n dResu_copy_5 rfl ?_
  refine ex_get dResu_copy_6 fg_Resu_9 h1 rfl ?_
  refine ex_iconst (v := nI 0) dResu_copy_9 (by decide) ?_
  refine ex_bipush (v := nI 60) dResu_copy_10 (by decide) ?_
  refine ex_copyl dResu_copy_12 ac_l ac_n ac_s ac_i g2 h2 rfl rfl rfl (Nat.le_refl _) (Nat.le_refl _) (by decide) (Nat.le_of_ble_eq_true rfl) ?_
  refine ex_aload_n dResu_copy_15 rfl ?_
  refine ex_aload_n dResu_copy_16 rfl ?_
  refine ex_get dResu_copy_17 fg_Resu_15 e1 rfl ?_
  refine ex_put (fs' := [_, _, _]) dResu_copy_20 (fp_Resu_15 _) e2 rfl rfl (Nat.le_of_ble_eq_true rfl) rfl ?_
  refine ex_aload_n dResu_copy_23 rfl ?_
  refine ex_aload_n dResu_copy_24 rfl ?_
  refine ex_get dResu_copy_25 fg_Resu_19 e3 rfl ?_
  refine ex_put (fs' := [_, _, _]) dResu_copy_28 (fp_Resu_19 _) (xup_self _ _ _) (bI_nar _) (bI_fits _) (Nat.le_of_ble_eq_true rfl) rfl ?_
  refine ex_vret dResu_copy_31 rfl (Nat.le_refl _) (Nat.le_refl _) ⟨rfl, ⟨fun j => if j < 60 then g j else f j, xup_self _ _ _, ?_, g3, fun j hj => ?_, g5, g6⟩, ((Sm.up (by omega) (by omega)).trans (Sm.up (by omega) (by omega))).trans (Sm.up (by omega) (by omega))⟩
  · rw [xup_ne _ _ (by omega), xup_ne _ _ (by omega), xup_self]
  · dsimp only; rw [if_pos (by omega)]; exact g4 j hj
theorem c_Resu_add {k : Nat} (hk : k < 2 ^ 62) (H : Rs h a ks tm) : xMet l G mResu_add d 0 0 [.ref a, .long (lN k)] h (fun o h' => o = .inl none ∧ Rs h' a (radd (ks, tm) k).1 (radd (ks, tm) k).2 ∧ Sm h h' a (a + 2)) := by
  have H0 := H
  obtain ⟨f, h1, h2, h3, h4, h5, h6⟩ := H
  have hkb : ∀ j, j < ks.length → ks.getD j 0 < 2 ^ 62 := fun j hj => h5 _ (getD_mem hj)
  have shift : ∀ (z at_ i : Nat) (hi : xH) (g : Nat → Int64), at_ + z = i → i ≤ ks.length → ks.length < 60 → k ∉ ks → (∀ j, j < at_ → ks.getD j 0 < k) → (∀ j, at_ ≤ j → j < ks.length → k < ks.getD j 0) → hi.2 a = some (cResu a ks.length tm) → hi.2 (a + 1) = some (cL 60 g) → (∀ j, j < i → g j = lN (ks.getD j 0)) → (∀ j, i < j → j ≤ ks.length → g j = lN (ks.getD (j - 1) 0)) → Sm h hi a (a + 2) → Ex (l, G, d, 0, 0, h, fun o h' => o = .inl none ∧ Rs h' a (radd (ks, tm) k).1 (radd (ks, tm) k).2 ∧ Sm h h' a (a + 2)) mResu_add 67 [some (.ref a), some (.long (lN k)), none, some (.int (nI at_)), some (.int (nI i))] [] hi 0 0 := by
    intro z
    induction z with
    | zero =>
      intro at_ i hi g hz hin hlt hnk ha hb e1 e2 e3 e4 hS
      have e : i = at_ := by omega
      subst e
      refine ex_iload dResu_add_67 rfl ?_
      refine ex_iload_n dResu_add_69 rfl ?_
      refine ex_icmp_le (tgt := 95) dResu_add_70 (by decide) (fun hc => ?_) (fun hc => ?_)
      · have e5 : (xup hi (a + 1) (cL 60 (vp_updL g i (lN k)))).2 a = some (cResu a ks.length tm) := by rw [xup_ne _ _ (by omega)]; exact e1
        refine ex_aload_n dResu_add_95 rfl ?_
        refine ex_get dResu_add_96 fg_Resu_9 e1 rfl ?_
        refine ex_iload_n dResu_add_99 rfl ?_
        refine ex_lload_n dResu_add_100 rfl ?_
        refine ex_lastore dResu_add_101 e2 rfl (by omega) (by omega) ?_
        refine ex_aload_n dResu_add_102 rfl ?_
        refine ex_dup dResu_add_103 rfl ?_
        refine ex_get dResu_add_104 fg_Resu_15 e5 rfl ?_
        refine ex_iconst (v := nI 1) dResu_add_107 (by decide) ?_
        refine ex_iadd dResu_add_108 ?_
        rw [show nI ks.length + nI 1 = nI (ks.length + 1) from nI_add _ _]
        refine ex_put (fs' := [_, _, _]) dResu_add_109 (fp_Resu_15 _) e5 rfl rfl (Nat.le_of_ble_eq_true rfl) rfl ?_
        have hr : radd (ks, tm) k = (ins k ks, tm) := by unfold radd; rw [if_neg hnk, if_neg (by show ¬ 60 ≤ ks.length; omega)]
        refine ex_vret dResu_add_112 rfl (Nat.le_refl _) (Nat.le_refl _) ⟨rfl, ?_, (hS.trans (Sm.up (by omega) (by omega))).trans (Sm.up (by omega) (by omega))⟩
        rw [hr]
        refine ⟨vp_updL g i (lN k), by rw [ins_len]; exact xup_self _ _ _, by rw [xup_ne _ _ (by omega), xup_self], by rw [ins_len]; omega, fun j hj => ?_, fun q hq => ?_, ins_sorted h6 hnk⟩
        · rw [ins_len] at hj
          have hsp := ins_split ks i (by omega) ha hb
          dsimp only
          rw [hsp]
          by_cases e : j = i
          · subst e
            rw [pk_uLs, List.getD_eq_getElem?_getD, List.getElem?_append_right (by simp [List.length_take]; omega)]
            simp [List.length_take, Nat.min_eq_left hin]
          · rw [pk_uLn e]
            by_cases hji : j < i
            · rw [e3 j hji, List.getD_eq_getElem?_getD, List.getD_eq_getElem?_getD, List.getElem?_append_left (by rw [List.length_take]; omega), List.getElem?_take_of_lt hji]
            · rw [e4 j (by omega) (by omega), List.getD_eq_getElem?_getD, List.getD_eq_getElem?_getD, List.getElem?_append_right (by rw [List.length_take]; omega), List.length_take, Nat.min_eq_left hin, show j - i = (j - 1 - i) + 1 by omega, List.getElem?_cons_succ, List.getElem?_drop, show i + (j - 1 - i) = j - 1 by omega]
        · rcases ins_mem.mp hq with rfl | q1
          · exact hk
          · exact h5 q q1
      · exact absurd (nI_le (by omega) (by omega)) hc
    | succ z ih =>
      intro at_ i hi g hz hin hlt hnk ha hb e1 e2 e3 e4 hS
      refine ex_iload dResu_add_67 rfl ?_
      refine ex_iload_n dResu_add_69 rfl ?_
      refine ex_icmp_le (tgt := 95) dResu_add_70 (by decide) (fun hc => ?_) (fun hc => ?_)
      · exact absurd hc (nI_ge (by omega) (by omega))
      refine ex_aload_n dResu_add_73 rfl ?_
      refine ex_get dResu_add_74 fg_Resu_9 e1 rfl ?_
      refine ex_iload dResu_add_77 rfl ?_
      refine ex_aload_n dResu_add_79 rfl ?_
      refine ex_get dResu_add_80 fg_Resu_9 e1 rfl ?_
      refine ex_iload dResu_add_83 rfl ?_
      refine ex_iconst (v := nI 1) dResu_add_85 (by decide) ?_
      refine ex_isub dResu_add_86 ?_
      rw [show nI i - nI 1 = nI (i - 1) from pk_sub (by omega)]
      refine ex_laload dResu_add_87 e2 rfl (by omega) (by omega) ?_
      refine ex_lastore dResu_add_88 e2 rfl (by omega) (by omega) ?_
      refine ex_iinc (L' := [_, _, _, _, _]) dResu_add_89 rfl rfl (by decide) rfl ?_
      refine ex_goto (tgt := 67) dResu_add_92 (by decide) ?_
      rw [show nI i + Int32.ofInt (-1) = nI (i - 1) from by rw [show Int32.ofInt (-1) = -nI 1 from by decide, ← Int32.sub_eq_add_neg, pk_sub (by omega)]]
      refine ih at_ (i - 1) _ (vp_updL g i (g (i - 1))) (by omega) (by omega) hlt hnk ha hb (by rw [xup_ne _ _ (by omega)]; exact e1) (xup_self _ _ _) (fun j hj => by rw [pk_uLn (by omega)]; exact e3 j (by omega)) (fun j hj hl => ?_) (hS.trans (Sm.up (by omega) (by omega)))
      by_cases e : j = i
      · subst e; rw [pk_uLs, e3 (j - 1) (by omega)]
      · rw [pk_uLn e, e4 j (by omega) hl]
  have put : ∀ at_ : Nat, at_ ≤ ks.length → k ∉ ks → (∀ j, j < at_ → ks.getD j 0 < k) → (∀ j, at_ ≤ j → j < ks.length → k < ks.getD j 0) → Ex (l, G, d, 0, 0, h, fun o h' => o = .inl none ∧ Rs h' a (radd (ks, tm) k).1 (radd (ks, tm) k).2 ∧ Sm h h' a (a + 2)) mResu_add 46 [some (.ref a), some (.long (lN k)), none, some (.int (nI at_)), none] [] h 0 0 := by
    intro at_ hat hnk ha hb
    refine ex_aload_n dResu_add_46 rfl ?_
    refine ex_get dResu_add_47 fg_Resu_15 h1 rfl ?_
    refine ex_bipush (v := nI 60) dResu_add_50 (by decide) ?_
    refine ex_icmp_lt (tgt := 61) dResu_add_52 (by decide) (fun hc => ?_) (fun hc => ?_)
    · rw [nI_ltI (by omega) (by omega)] at hc
      refine ex_aload_n dResu_add_61 rfl ?_
      refine ex_get dResu_add_62 fg_Resu_15 h1 rfl ?_
      refine ex_istore (L' := [_, _, _, _, _]) dResu_add_65 (by decide) rfl ?_
      exact shift (ks.length - at_) at_ ks.length h f (by omega) (Nat.le_refl _) hc hnk ha hb h1 h2 h4 (fun j h1 h2 => by omega) Sm.rf
    · rw [nI_ltI (by omega) (by omega)] at hc
      refine ex_aload_n dResu_add_55 rfl ?_
      refine ex_iconst (v := nI 1) dResu_add_56 (by decide) ?_
      refine ex_put (fs' := [_, _, _]) dResu_add_57 (fp_Resu_19 _) h1 (bI_nar true) (bI_fits true) (Nat.le_of_ble_eq_true rfl) rfl ?_
      have hr : radd (ks, tm) k = (ks, true) := by unfold radd; rw [if_neg hnk, if_pos (by show 60 ≤ ks.length; omega)]
      refine ex_vret dResu_add_60 rfl (Nat.le_refl _) (Nat.le_refl _) ⟨rfl, ?_, Sm.up (by omega) (by omega)⟩
      rw [hr]
      exact ⟨f, xup_self _ _ _, by rw [xup_ne _ _ (by omega)]; exact h2, h3, h4, h5, h6⟩
  have low : ∀ at_ : Nat, at_ ≤ ks.length → (∀ j, at_ ≤ j → j < ks.length → k < ks.getD j 0) → (∀ i, at_ = i + 1 → ks.getD i 0 ≤ k) → Ex (l, G, d, 0, 0, h, fun o h' => o = .inl none ∧ Rs h' a (radd (ks, tm) k).1 (radd (ks, tm) k).2 ∧ Sm h h' a (a + 2)) mResu_add 28 [some (.ref a), some (.long (lN k)), none, some (.int (nI at_)), none] [] h 0 0 := by
    intro at_ hat hb hlo
    refine ex_iload_n dResu_add_28 rfl ?_
    refine ex_if_le (tgt := 46) dResu_add_29 (by decide) (fun hc => ?_) (fun hc => ?_)
    · have e : at_ = 0 := by have := (nI_leI (b := 0) (by omega) (by omega)).mp hc; omega
      subst e
      refine put 0 hat (fun q => ?_) (fun j hj => absurd hj (Nat.not_lt_zero _)) hb
      obtain ⟨j, hj, e⟩ := List.getElem_of_mem q
      have := hb j (Nat.zero_le _) hj
      rw [List.getD_eq_getElem?_getD, List.getElem?_eq_getElem hj, Option.getD_some, e] at this
      omega
    · have hp : 0 < at_ := by
        rcases Nat.eq_zero_or_pos at_ with e | e
        · subst e; exact absurd (Int32.le_refl _) hc
        · exact e
      have hle := hlo (at_ - 1) (by omega)
      refine ex_aload_n dResu_add_32 rfl ?_
      refine ex_get dResu_add_33 fg_Resu_9 h1 rfl ?_
      refine ex_iload_n dResu_add_36 rfl ?_
      refine ex_iconst (v := nI 1) dResu_add_37 (by decide) ?_
      refine ex_isub dResu_add_38 ?_
      rw [show nI at_ - nI 1 = nI (at_ - 1) from pk_sub (by omega)]
      refine ex_laload dResu_add_39 h2 rfl (by omega) (by omega) ?_
      refine ex_lload_n dResu_add_40 rfl ?_
      refine ex_lcmp dResu_add_41 ?_
      rw [h4 (at_ - 1) (by omega)]
      refine ex_if_ne (tgt := 46) dResu_add_42 (by decide) (fun hc2 => ?_) (fun hc2 => ?_)
      · rw [lg_cmp_eq, pk_lEQ (by have := hkb (at_ - 1) (by omega); omega) (by omega)] at hc2
        refine put at_ hat (fun q => ?_) (fun j hj => ?_) hb
        · obtain ⟨j, hj, e⟩ := List.getElem_of_mem q
          have ej : ks.getD j 0 = k := by rw [List.getD_eq_getElem?_getD, List.getElem?_eq_getElem hj, Option.getD_some, e]
          rcases Nat.lt_trichotomy j (at_ - 1) with hlt | heq | hgt
          · have := sorted_get h6 hlt (by omega); omega
          · subst heq; exact hc2 ej
          · have := hb j (by omega) hj; omega
        · by_cases e : j = at_ - 1
          · subst e; omega
          · have := sorted_get h6 (show j < at_ - 1 by omega) (by omega); omega
      · rw [lg_cmp_eq, pk_lEQ (by have := hkb (at_ - 1) (by omega); omega) (by omega)] at hc2
        have hm : k ∈ ks := by rw [← hc2]; exact getD_mem (by omega)
        have hr : radd (ks, tm) k = (ks, tm) := by unfold radd; rw [if_pos hm]
        refine ex_vret dResu_add_45 rfl (Nat.le_refl _) (Nat.le_refl _) ⟨rfl, ?_, Sm.rf⟩
        rw [hr]
        exact H0
  have loop : ∀ at_ : Nat, at_ ≤ ks.length → (∀ j, at_ ≤ j → j < ks.length → k < ks.getD j 0) → Ex (l, G, d, 0, 0, h, fun o h' => o = .inl none ∧ Rs h' a (radd (ks, tm) k).1 (radd (ks, tm) k).2 ∧ Sm h h' a (a + 2)) mResu_add 5 [some (.ref a), some (.long (lN k)), none, some (.int (nI at_)), none] [] h 0 0 := by
    intro at_
    induction at_ with
    | zero =>
      intro hat hb
      refine ex_iload_n dResu_add_5 rfl ?_
      refine ex_if_le (tgt := 28) dResu_add_6 (by decide) (fun hc => ?_) (fun hc => ?_)
      · exact low 0 hat hb (fun i hi => by omega)
      · exact absurd (Int32.le_refl _) hc
    | succ at_ ih =>
      intro hat hb
      refine ex_iload_n dResu_add_5 rfl ?_
      refine ex_if_le (tgt := 28) dResu_add_6 (by decide) (fun hc => ?_) (fun hc => ?_)
      · exact absurd hc (nI_nle (by omega) (by omega))
      refine ex_aload_n dResu_add_9 rfl ?_
      refine ex_get dResu_add_10 fg_Resu_9 h1 rfl ?_
      refine ex_iload_n dResu_add_13 rfl ?_
      refine ex_iconst (v := nI 1) dResu_add_14 (by decide) ?_
      refine ex_isub dResu_add_15 ?_
      rw [show nI (at_ + 1) - nI 1 = nI at_ from pk_sub (a := at_ + 1) (b := 1) (by omega)]
      refine ex_laload dResu_add_16 h2 rfl (by omega) (by omega) ?_
      refine ex_lload_n dResu_add_17 rfl ?_
      refine ex_lcmp dResu_add_18 ?_
      rw [h4 at_ (by omega)]
      refine ex_if_le (tgt := 28) dResu_add_19 (by decide) (fun hc2 => ?_) (fun hc2 => ?_)
      · rw [lg_cmp_le, pk_lLE (by have := hkb at_ (by omega); omega) (by omega)] at hc2
        exact low (at_ + 1) hat hb (fun i hi => by have e : i = at_ := by omega
                                                   subst e; exact hc2)
      · rw [lg_cmp_le, pk_lLE (by have := hkb at_ (by omega); omega) (by omega)] at hc2
        refine ex_iinc (L' := [_, _, _, _, _]) dResu_add_22 rfl rfl (by decide) rfl ?_
        refine ex_goto (tgt := 5) dResu_add_25 (by decide) ?_
        rw [show nI (at_ + 1) + Int32.ofInt (-1) = nI at_ from by rw [show Int32.ofInt (-1) = -nI 1 from by decide, ← Int32.sub_eq_add_neg, pk_sub (by omega)]; rfl]
        refine ih (by omega) (fun j hj hl => ?_)
        by_cases e : j = at_
        · subst e; omega
        · exact hb j (by omega) hl
  refine xMet_of (L := [_, _, _, _, _]) (by decide) (Nat.le_of_ble_eq_true rfl) rfl ?_
  refine ex_aload_n dResu_add_0 rfl ?_
  refine ex_get dResu_add_1 fg_Resu_15 h1 rfl ?_
  refine ex_istore_n (L' := [_, _, _, _, _]) dResu_add_4 (by decide) rfl ?_
  exact loop ks.length (Nat.le_refl _) (fun j h1 h2 => by omega)
theorem c_Resu_keyOf {N e n : Nat} {wd : List Nat} {es : Nat → Nat} (hw : wd.length ≤ 5) (hws : ∀ i, wd.getD i 0 < 8) (hn : n ≤ 4) (hes : ∀ i, i < n → es i < 8) (HL : Ln h a N wd) (he : n = 0 ∨ ∃ g : Nat → Int32, h.2 e = some (cI 4 g) ∧ ∀ i, i < n → g i = nI (es i)) : xMet l G mResu_keyOf (d + 1) 0 0 [.ref a, .ref e, .int (nI n)] h (fun o h' => o = .inl (some (.long (lN (rkey wd es n)))) ∧ h' = h) := by
  have HL0 := HL
  obtain ⟨f, h1, h2, h3, h4, h5⟩ := HL
  have hK : kcat wd.length (fun i => wd.getD i 0) 5 < 6 * 8 ^ 5 := Nat.lt_of_lt_of_le (kcat_lt (fun i _ => hws i)) (Nat.mul_le_mul_right _ (by omega))
  have hes' : ∀ i, (if i < n then es i else 0) < 8 := fun i => by split; exact hes i (by assumption); omega
  have loop2 : ∀ j i : Nat, i + j = 4 → Ex (l, G, d + 1, 0, 0, h, fun o h' => o = .inl (some (.long (lN (rkey wd es n)))) ∧ h' = h) mResu_keyOf 43 [some (.ref a), some (.ref e), some (.int (nI n)), some (.long (lN (kcat (kcat wd.length (fun i => wd.getD i 0) 5 * 8 + n) (fun i => if i < n then es i else 0) i))), none, some (.int (nI i))] [] h 0 0 := by
    intro j
    induction j with
    | zero =>
      intro i hij
      have e9 : i = 4 := by omega
      subst e9
      refine ex_iload dResu_keyOf_43 rfl ?_
      refine ex_iconst (v := nI 4) dResu_keyOf_45 (by decide) ?_
      refine ex_icmp_ge (tgt := 82) dResu_keyOf_46 (by decide) (fun hc => ?_) (fun hc => ?_)
      · refine ex_lload_n dResu_keyOf_82 rfl ?_
        exact ex_lret dResu_keyOf_83 rfl (Nat.le_refl _) (Nat.le_refl _) ⟨rfl, rfl⟩
      · exact absurd (by decide) hc
    | succ j ih =>
      intro i hij
      have hb9 : kcat (kcat wd.length (fun i => wd.getD i 0) 5 * 8 + n) (fun i => if i < n then es i else 0) i < 2 ^ 50 := by
        refine Nat.lt_of_lt_of_le (kcat_lt (fun i _ => hes' i)) ?_
        exact Nat.le_trans (Nat.mul_le_mul (show _ ≤ 6 * 8 ^ 5 * 8 + 5 by omega) (Nat.pow_le_pow_right (by omega) (show i ≤ 4 by omega))) (by decide)
      have tail : ∀ x : Nat, x = (if i < n then es i else 0) → Ex (l, G, d + 1, 0, 0, h, fun o h' => o = .inl (some (.long (lN (rkey wd es n)))) ∧ h' = h) mResu_keyOf 73 [some (.ref a), some (.ref e), some (.int (nI n)), some (.long (lN (kcat (kcat wd.length (fun i => wd.getD i 0) 5 * 8 + n) (fun i => if i < n then es i else 0) i))), none, some (.int (nI i))] [.int (nI x), .long (lN (kcat (kcat wd.length (fun i => wd.getD i 0) 5 * 8 + n) (fun i => if i < n then es i else 0) i * 2 ^ 3))] h 0 0 := by
        intro x hx
        have hx8 : x < 8 := by rw [hx]; exact hes' i
        refine ex_i2l dResu_keyOf_73 ?_
        refine ex_lor dResu_keyOf_74 ?_
        rw [nI_l (by omega), g_or (k := 3) rfl (by omega) (by omega)]
        refine ex_lstore_n (L' := [_, _, _, _, _, _]) dResu_keyOf_75 (by decide) rfl ?_
        refine ex_iinc (L' := [_, _, _, _, _, _]) dResu_keyOf_76 rfl rfl (by decide) rfl ?_
        refine ex_goto (tgt := 43) dResu_keyOf_79 (by decide) ?_
        rw [show nI i + Int32.ofInt 1 = nI (i + 1) from nI_1 i, hx]
        exact ih (i + 1) (by omega)
      refine ex_iload dResu_keyOf_43 rfl ?_
      refine ex_iconst (v := nI 4) dResu_keyOf_45 (by decide) ?_
      refine ex_icmp_ge (tgt := 82) dResu_keyOf_46 (by decide) (fun hc => ?_) (fun hc => ?_)
      · exact absurd hc (nI_ge (by omega) (by omega))
      refine ex_lload_n dResu_keyOf_49 rfl ?_
      refine ex_iconst (v := nI 3) dResu_keyOf_50 (by decide) ?_
      refine ex_lshl dResu_keyOf_51 ?_
      rw [wb_shl _ (by omega)]
      refine ex_iload dResu_keyOf_52 rfl ?_
      refine ex_iload_n dResu_keyOf_54 rfl ?_
      refine ex_icmp_ge (tgt := 72) dResu_keyOf_55 (by decide) (fun hc2 => ?_) (fun hc2 => ?_)
      · rw [nI_leI (by omega) (by omega)] at hc2
        refine ex_iconst (v := nI 0) dResu_keyOf_72 (by decide) ?_
        exact tail 0 (by rw [if_neg (by omega)])
      · rw [nI_leI (by omega) (by omega)] at hc2
        rcases he with he | ⟨g, he1, he2⟩
        · omega
        refine ex_iload dResu_keyOf_58 rfl ?_
        refine ex_aload_n dResu_keyOf_60 rfl ?_
        refine ex_alen dResu_keyOf_61 he1 (fun _ => rfl) ?_
        refine ex_icmp_ge (tgt := 72) dResu_keyOf_62 (by decide) (fun hc3 => ?_) (fun hc3 => ?_)
        · exact absurd hc3 (nI_ge (by omega) (by omega))
        refine ex_aload_n dResu_keyOf_65 rfl ?_
        refine ex_iload dResu_keyOf_66 rfl ?_
        refine ex_iaload dResu_keyOf_68 he1 rfl (by omega) (by omega) ?_
        refine ex_goto (tgt := 73) dResu_keyOf_69 (by decide) ?_
        rw [he2 i (by omega)]
        exact tail (es i) (by rw [if_pos (by omega)])
  have loop1 : ∀ j i : Nat, i + j = 5 → Ex (l, G, d + 1, 0, 0, h, fun o h' => o = .inl (some (.long (lN (rkey wd es n)))) ∧ h' = h) mResu_keyOf 9 [some (.ref a), some (.ref e), some (.int (nI n)), some (.long (lN (kcat wd.length (fun i => wd.getD i 0) i))), none, some (.int (nI i))] [] h 0 0 := by
    intro j
    induction j with
    | zero =>
      intro i hij
      have e9 : i = 5 := by omega
      subst e9
      refine ex_iload dResu_keyOf_9 rfl ?_
      refine ex_iconst (v := nI 5) dResu_keyOf_11 (by decide) ?_
      refine ex_icmp_ge (tgt := 33) dResu_keyOf_12 (by decide) (fun hc => ?_) (fun hc => ?_)
      · refine ex_lload_n dResu_keyOf_33 rfl ?_
        refine ex_iconst (v := nI 3) dResu_keyOf_34 (by decide) ?_
        refine ex_lshl dResu_keyOf_35 ?_
        refine ex_iload_n dResu_keyOf_36 rfl ?_
        refine ex_i2l dResu_keyOf_37 ?_
        rw [nI_l (by omega), wb_shl _ (by omega)]
        refine ex_lor dResu_keyOf_38 ?_
        rw [g_or (k := 3) rfl (by omega) (by omega)]
        refine ex_lstore_n (L' := [_, _, _, _, _, _]) dResu_keyOf_39 (by decide) rfl ?_
        refine ex_iconst (v := nI 0) dResu_keyOf_40 (by decide) ?_
        refine ex_istore (L' := [_, _, _, _, _, _]) dResu_keyOf_41 (by decide) rfl ?_
        exact loop2 4 0 (by omega)
      · exact absurd (by decide) hc
    | succ j ih =>
      intro i hij
      have hb9 : kcat wd.length (fun i => wd.getD i 0) i < 2 ^ 50 := by
        refine Nat.lt_of_lt_of_le (kcat_lt (fun i _ => hws i)) ?_
        exact Nat.le_trans (Nat.mul_le_mul (show _ ≤ 6 by omega) (Nat.pow_le_pow_right (by omega) (show i ≤ 5 by omega))) (by decide)
      refine ex_iload dResu_keyOf_9 rfl ?_
      refine ex_iconst (v := nI 5) dResu_keyOf_11 (by decide) ?_
      refine ex_icmp_ge (tgt := 33) dResu_keyOf_12 (by decide) (fun hc => ?_) (fun hc => ?_)
      · exact absurd hc (nI_ge (by omega) (by omega))
      refine ex_lload_n dResu_keyOf_15 rfl ?_
      refine ex_iconst (v := nI 3) dResu_keyOf_16 (by decide) ?_
      refine ex_lshl dResu_keyOf_17 ?_
      rw [wb_shl _ (by omega)]
      refine ex_aload_n dResu_keyOf_18 rfl ?_
      refine ex_iload dResu_keyOf_19 rfl ?_
      refine ex_v1 dResu_keyOf_21 iv_Resu_35 cd_Line_signAt ar_Line_signAt h1 (c_Line_signAt (d := d) (i := i) (by omega) HL0) (by dsimp only; omega) (Nat.le_of_ble_eq_true rfl) (Nat.le_refl _) (Nat.le_refl _) (fun E h9 q9 => by simp at q9) (fun v9 hp9 hq => ?_)
      obtain ⟨e3, e2⟩ := hq
      cases e3
      rw [e2]
      refine ex_i2l dResu_keyOf_24 ?_
      rw [nI_l (by have := hws i; omega)]
      refine ex_lor dResu_keyOf_25 ?_
      rw [g_or (k := 3) rfl (by have := hws i; omega) (by have := hws i; omega)]
      refine ex_lstore_n (L' := [_, _, _, _, _, _]) dResu_keyOf_26 (by decide) rfl ?_
      refine ex_iinc (L' := [_, _, _, _, _, _]) dResu_keyOf_27 rfl rfl (by decide) rfl ?_
      refine ex_goto (tgt := 9) dResu_keyOf_30 (by decide) ?_
      rw [show nI i + Int32.ofInt 1 = nI (i + 1) from nI_1 i]
      exact ih (i + 1) (by omega)
  refine xMet_of (L := [_, _, _, _, _, _]) (by decide) (Nat.le_of_ble_eq_true rfl) rfl ?_
  refine ex_aload_n dResu_keyOf_0 rfl ?_
  refine ex_v0 dResu_keyOf_1 iv_Resu_29 cd_Line_size ar_Line_size h1 (c_Line_size (d := d) HL0) (by dsimp only; omega) (Nat.le_of_ble_eq_true rfl) (Nat.le_refl _) (Nat.le_refl _) (fun E h9 q9 => by simp at q9) (fun v9 hp9 hq => ?_)
  obtain ⟨e3, e2⟩ := hq
  cases e3
  rw [e2]
  refine ex_i2l dResu_keyOf_4 ?_
  rw [nI_l (by omega)]
  refine ex_lstore_n (L' := [_, _, _, _, _, _]) dResu_keyOf_5 (by decide) rfl ?_
  refine ex_iconst (v := nI 0) dResu_keyOf_6 (by decide) ?_
  refine ex_istore (L' := [_, _, _, _, _, _]) dResu_keyOf_7 (by decide) rfl ?_
  exact loop1 5 0 (by omega)
def rdig (k dg : Nat) : Nat := k / 2 ^ (3 * (10 - dg)) % 8
theorem c_Resu_digitOf {i dg : Nat} (hi : i < ks.length) (hdg : dg ≤ 10) (H : Rs h a ks tm) : xMet l G mResu_digitOf d 0 0 [.ref a, .int (nI i), .int (nI dg)] h (fun o h' => o = .inl (some (.int (nI (rdig (ks.getD i 0) dg)))) ∧ h' = h) := by
  obtain ⟨f, h1, h2, h3, h4, h5, h6⟩ := H
  have hb := h5 _ (getD_mem (d := 0) hi)
  have hq := Nat.div_le_self (ks.getD i 0) (2 ^ (3 * (10 - dg)))
  refine xMet_of (L := [_, _, _, _, _]) (by decide) (Nat.le_of_ble_eq_true rfl) rfl ?_
  refine ex_ldc2 dResu_digitOf_0 kl_Resu_43 ?_
  refine ex_lstore_n (L' := [_, _, _, _, _]) dResu_digitOf_3 (by decide) rfl ?_
  refine ex_aload_n dResu_digitOf_4 rfl ?_
  refine ex_get dResu_digitOf_5 fg_Resu_9 h1 rfl ?_
  refine ex_iload_n dResu_digitOf_8 rfl ?_
  refine ex_laload dResu_digitOf_9 h2 rfl (by omega) (by omega) ?_
  refine ex_iconst (v := nI 3) dResu_digitOf_10 (by decide) ?_
  refine ex_bipush (v := nI 10) dResu_digitOf_11 (by decide) ?_
  refine ex_iload_n dResu_digitOf_13 rfl ?_
  refine ex_isub dResu_digitOf_14 ?_
  rw [h4 i hi, pk_sub hdg]
  refine ex_imul dResu_digitOf_15 ?_
  rw [pk_mul]
  refine ex_lshr dResu_digitOf_16 ?_
  rw [wb_c _ (by omega), pf_shr (d := 3 * (10 - dg)) (by rw [wb_tb, wb_sm _ (by omega), BitVec.toNat_ofNat, Nat.mod_eq_of_lt (by omega)]) hb]
  refine ex_lload_n dResu_digitOf_17 rfl ?_
  refine ex_land dResu_digitOf_18 ?_
  rw [show (7 : Int64) = lN 7 from rfl, wb_and (by omega) (by omega), Nat.and_two_pow_sub_one_eq_mod _ 3]
  refine ex_l2i dResu_digitOf_19 ?_
  rw [lN_i]
  exact ex_iret dResu_digitOf_20 rfl (Nat.le_refl _) (Nat.le_refl _) ⟨rfl, rfl⟩
theorem c_Resu_signsOf {i : Nat} (hi : i < ks.length) (H : Rs h a ks tm) : xMet l G mResu_signsOf (d + 1) 0 0 [.ref a, .int (nI i)] h (fun o h' => o = .inl (some (.int (nI (rdig (ks.getD i 0) (0))))) ∧ h' = h) := by
  have H0 := H
  obtain ⟨f, h1, h2, h3, h4, h5, h6⟩ := H
  refine xMet_of (L := [_, _]) (by decide) (Nat.le_of_ble_eq_true rfl) rfl ?_
  refine ex_aload_n dResu_signsOf_0 rfl ?_
  refine ex_iload_n dResu_signsOf_1 rfl ?_
  refine ex_iconst (v := nI 0) dResu_signsOf_2 (by decide) ?_
  refine ex_p2 dResu_signsOf_3 ip_Resu_39 cd_Resu_digitOf ar_Resu_digitOf h1 (c_Resu_digitOf (d := d) (dg := 0) hi (by omega) H0) (by dsimp only; omega) (Nat.le_of_ble_eq_true rfl) (Nat.le_refl _) (Nat.le_refl _) (fun E h9 q9 => by simp at q9) (fun v9 hp9 hq => ?_)
  obtain ⟨e, e2⟩ := hq
  cases e
  exact ex_iret dResu_signsOf_6 rfl (Nat.le_refl _) (Nat.le_refl _) ⟨rfl, e2⟩
theorem c_Resu_signOf {i j : Nat} (hj : j < 5) (hi : i < ks.length) (H : Rs h a ks tm) : xMet l G mResu_signOf (d + 1) 0 0 [.ref a, .int (nI i), .int (nI j)] h (fun o h' => o = .inl (some (.int (nI (rdig (ks.getD i 0) (1 + j))))) ∧ h' = h) := by
  have H0 := H
  obtain ⟨f, h1, h2, h3, h4, h5, h6⟩ := H
  refine xMet_of (L := [_, _, _]) (by decide) (Nat.le_of_ble_eq_true rfl) rfl ?_
  refine ex_aload_n dResu_signOf_0 rfl ?_
  refine ex_iload_n dResu_signOf_1 rfl ?_
  refine ex_iconst (v := nI 1) dResu_signOf_2 (by decide) ?_
  refine ex_iload_n dResu_signOf_3 rfl ?_
  refine ex_iadd dResu_signOf_4 ?_
  rw [nI_add]
  refine ex_p2 dResu_signOf_5 ip_Resu_39 cd_Resu_digitOf ar_Resu_digitOf h1 (c_Resu_digitOf (d := d) (dg := 1 + j) hi (by omega) H0) (by dsimp only; omega) (Nat.le_of_ble_eq_true rfl) (Nat.le_refl _) (Nat.le_refl _) (fun E h9 q9 => by simp at q9) (fun v9 hp9 hq => ?_)
  obtain ⟨e, e2⟩ := hq
  cases e
  exact ex_iret dResu_signOf_8 rfl (Nat.le_refl _) (Nat.le_refl _) ⟨rfl, e2⟩
theorem c_Resu_entriesOf {i : Nat} (hi : i < ks.length) (H : Rs h a ks tm) : xMet l G mResu_entriesOf (d + 1) 0 0 [.ref a, .int (nI i)] h (fun o h' => o = .inl (some (.int (nI (rdig (ks.getD i 0) (6))))) ∧ h' = h) := by
  have H0 := H
  obtain ⟨f, h1, h2, h3, h4, h5, h6⟩ := H
  refine xMet_of (L := [_, _]) (by decide) (Nat.le_of_ble_eq_true rfl) rfl ?_
  refine ex_aload_n dResu_entriesOf_0 rfl ?_
  refine ex_iload_n dResu_entriesOf_1 rfl ?_
  refine ex_bipush (v := nI 6) dResu_entriesOf_2 (by decide) ?_
  refine ex_p2 dResu_entriesOf_4 ip_Resu_39 cd_Resu_digitOf ar_Resu_digitOf h1 (c_Resu_digitOf (d := d) (dg := 6) hi (by omega) H0) (by dsimp only; omega) (Nat.le_of_ble_eq_true rfl) (Nat.le_refl _) (Nat.le_refl _) (fun E h9 q9 => by simp at q9) (fun v9 hp9 hq => ?_)
  obtain ⟨e, e2⟩ := hq
  cases e
  exact ex_iret dResu_entriesOf_7 rfl (Nat.le_refl _) (Nat.le_refl _) ⟨rfl, e2⟩
theorem c_Resu_entryOf {i j : Nat} (hj : j < 4) (hi : i < ks.length) (H : Rs h a ks tm) : xMet l G mResu_entryOf (d + 1) 0 0 [.ref a, .int (nI i), .int (nI j)] h (fun o h' => o = .inl (some (.int (nI (rdig (ks.getD i 0) (7 + j))))) ∧ h' = h) := by
  have H0 := H
  obtain ⟨f, h1, h2, h3, h4, h5, h6⟩ := H
  refine xMet_of (L := [_, _, _]) (by decide) (Nat.le_of_ble_eq_true rfl) rfl ?_
  refine ex_aload_n dResu_entryOf_0 rfl ?_
  refine ex_iload_n dResu_entryOf_1 rfl ?_
  refine ex_bipush (v := nI 7) dResu_entryOf_2 (by decide) ?_
  refine ex_iload_n dResu_entryOf_4 rfl ?_
  refine ex_iadd dResu_entryOf_5 ?_
  rw [nI_add]
  refine ex_p2 dResu_entryOf_6 ip_Resu_39 cd_Resu_digitOf ar_Resu_digitOf h1 (c_Resu_digitOf (d := d) (dg := 7 + j) hi (by omega) H0) (by dsimp only; omega) (Nat.le_of_ble_eq_true rfl) (Nat.le_refl _) (Nat.le_refl _) (fun E h9 q9 => by simp at q9) (fun v9 hp9 hq => ?_)
  obtain ⟨e, e2⟩ := hq
  cases e
  exact ex_iret dResu_entryOf_9 rfl (Nat.le_refl _) (Nat.le_refl _) ⟨rfl, e2⟩
theorem c_Resu_init (hz : h.1 = a + 1) (h1 : h.2 a = some (.inr (3, [.null, .int 0, .int 0]))) : xMet l G mResu_init d 1 60 [.ref a] h (fun o h' => o = .inl none ∧ Rs h' a [] false ∧ h'.1 = a + 2 ∧ ∀ q : Nat, (q < a ∨ a + 2 ≤ q) → h'.2 q = h.2 q) := by
  refine xMet_of (L := [_]) (by decide) (Nat.le_of_ble_eq_true rfl) rfl ?_
  refine ex_aload_n dResu_init_0 rfl ?_
  refine ex_objInit dResu_init_1 oi_Resu_3 oi_1 oi_2 (by decide) ?_
  refine ex_aload_n dResu_init_4 rfl ?_
  refine ex_bipush (v := nI 60) dResu_init_5 (by decide) ?_
  refine ex_newl dResu_init_7 aw_long rfl (by omega) (Nat.le_of_ble_eq_true rfl) (Nat.le_of_ble_eq_true rfl) ?_
  rw [hz]
  have e1 : (xnew h (cL 60 (fun _ => 0))).2 a = some (.inr (3, [.null, .int 0, .int 0])) := by simp [xnew, hz, h1]
  refine ex_put (fs' := [_, _, _]) dResu_init_9 fp_Resu_9 e1 rfl rfl (Nat.le_of_ble_eq_true rfl) rfl ?_
  refine ex_vret dResu_init_12 rfl (Nat.le_of_ble_eq_true rfl) (Nat.le_of_ble_eq_true rfl) ⟨rfl, ⟨fun _ => 0, ?_, ?_, by simp, fun j hj => absurd hj (Nat.not_lt_zero _), fun k hk => by simp at hk, List.Pairwise.nil⟩, ?_, fun q hq => ?_⟩
  · rw [xup_self]; rfl
  · simp [xnew, xup, hz]
  · simp [xup, xnew, hz]
  · simp [xup, xnew, hz, show q ≠ a by omega, show q ≠ a + 1 by omega]
end RESU
end
section
/-! Arrays of ints that hold natural numbers, the first n of them known. -/
def IA (h : xH) (a N n : Nat) (f : Nat → Nat) : Prop := ∃ g : Nat → Int32, h.2 a = some (cI N g) ∧ ∀ j, j < n → g j = nI (f j)
theorem IA.at {h h' : xH} {a N n : Nat} {f : Nat → Nat} (H : IA h a N n f) (e : h'.2 a = h.2 a) : IA h' a N n f := by
  obtain ⟨g, h1, h2⟩ := H
  exact ⟨g, e.trans h1, h2⟩
theorem IA.to {h : xH} {a N n n' : Nat} {f f' : Nat → Nat} (H : IA h a N n f) (hn : n' ≤ n) (e : ∀ j, j < n' → f j = f' j) : IA h a N n' f' := by
  obtain ⟨g, h1, h2⟩ := H
  exact ⟨g, h1, fun j hj => by rw [h2 j (by omega), e j hj]⟩
theorem IA.st {h : xH} {a N n i x : Nat} {f : Nat → Nat} {g : Nat → Int32} (h2 : ∀ j, j < n → g j = nI (f j)) : IA (xup h a (cI N (upd g i (nI x)))) a N n (va_up f i x) := by
  refine ⟨_, xup_self _ _ _, fun j hj => ?_⟩
  by_cases e : j = i
  · subst e; rw [pk_us, va_up_self]
  · rw [pk_un e, va_up_ne _ _ e, h2 j hj]
/-- one more behind the known ones -/
theorem IA.snoc {h : xH} {a N n x : Nat} {f : Nat → Nat} {g : Nat → Int32} (h2 : ∀ j, j < n → g j = nI (f j)) : IA (xup h a (cI N (upd g n (nI x)))) a N (n + 1) (va_up f n x) := by
  refine ⟨_, xup_self _ _ _, fun j hj => ?_⟩
  by_cases e : j = n
  · subst e; rw [pk_us, va_up_self]
  · rw [pk_un e, va_up_ne _ _ e, h2 j (by omega)]
/-! sets of rules -/
def msk (p : Nat → Bool) : Nat → Nat
  | 0 => 0
  | n + 1 => msk p n ||| (if p n then 1 <<< n else 0)
theorem msk_lt {p : Nat → Bool} : ∀ n : Nat, msk p n < 2 ^ n
  | 0 => by simp [msk]
  | n + 1 => by
    rw [msk]
    refine Nat.or_lt_two_pow (Nat.lt_trans (msk_lt n) (by rw [Nat.pow_succ]; have := Nat.two_pow_pos n; omega)) ?_
    split
    · rw [Nat.shiftLeft_eq, Nat.one_mul, Nat.pow_succ]; have := Nat.two_pow_pos n; omega
    · exact Nat.two_pow_pos _
theorem msk_lt16 {p : Nat → Bool} {n : Nat} (h : n ≤ 4) : msk p n < 16 := Nat.lt_of_lt_of_le (msk_lt n) (Nat.pow_le_pow_right (by omega) h : 2 ^ n ≤ 2 ^ 4)
theorem msk_bit {p : Nat → Bool} {i : Nat} : ∀ n : Nat, (msk p n).testBit i = (decide (i < n) && p i)
  | 0 => by simp [msk]
  | n + 1 => by
    rw [msk, Nat.testBit_or, msk_bit n]
    by_cases e : i = n
    · subst e
      cases hp : p i
      · simp
      · simp [Nat.shiftLeft_eq]
    · cases hp : p n
      · simp [show (i < n + 1) ↔ i < n by omega]
      · simp [Nat.shiftLeft_eq, Nat.testBit_two_pow, show ¬ n = i by omega, show (i < n + 1) ↔ i < n by omega]
def rasks (k : Nat) (same : Bool) : Bool := same && (k == 0 || k == 2)
def rbars (k : Nat) (same rival : Bool) : Bool := (rival && (k == 1 || k == 2)) || (same && k == 3)
def rask (rs : List (Nat × Nat)) (j : Nat) (r : Nat) : Bool := rasks (rs.getD r (0, 0)).1 (j == (rs.getD r (0, 0)).2)
def rrival (rs ps : List (Nat × Nat)) (j r : Nat) : Bool := !(j == (rs.getD r (0, 0)).2) && (ps.getD j (0, 0)).1 == (ps.getD (rs.getD r (0, 0)).2 (0, 0)).1
def rbar (rs ps : List (Nat × Nat)) (j r : Nat) : Bool := rbars (rs.getD r (0, 0)).1 (j == (rs.getD r (0, 0)).2) (rrival rs ps j r)
def rgoal (r : Nat) : Nat → Nat
  | 0 => 0
  | n + 1 => rgoal r n ||| pgoal (2 * r + n)
theorem rgoal_lt {r : Nat} (hr : r < 4) : ∀ n : Nat, n ≤ 2 → rgoal r n < 2 ^ 24
  | 0, _ => by simp [rgoal]
  | n + 1, h => by
    rw [rgoal]
    exact Nat.or_lt_two_pow (rgoal_lt hr n (by omega)) (pgoal_lt (by omega))
def rhold (cx : Nat → Nat) (m n : Nat) : Nat := msk (fun r => decide (m &&& rgoal r (cx r) ≠ 0)) n
def rbroken (rs ps : List (Nat × Nat)) (cx : Nat → Nat) (p sb sh : Nat) : Nat := clr (msk (rask rs p) rs.length) (rhold cx (sb &&& sh) rs.length) ||| (msk (rbar rs ps p) rs.length &&& rhold cx (sb &&& sh) rs.length)
theorem rbroken_lt {rs ps : List (Nat × Nat)} {cx : Nat → Nat} {p sb sh : Nat} (h : rs.length ≤ 4) : rbroken rs ps cx p sb sh < 2 ^ 4 := Nat.or_lt_two_pow (clr_lt (msk_lt16 h)) (and_ltl (msk_lt16 h))
/-! Rules. Ru h a rs cx: at a the object, Patterns at a + 1 and a + 4, arrays from a + 7 on; Sd: what settle leaves. -/
abbrev cRule (a c : Nat) : xE := .inr (4, [.ref (a + 1), .ref (a + 4), .ref (a + 7), .ref (a + 8), .ref (a + 9), .ref (a + 10), .ref (a + 11), .ref (a + 12), .int (nI c)])
def Ru (h : xH) (a : Nat) (rs : List (Nat × Nat)) (cx : Nat → Nat) : Prop := h.2 a = some (cRule a rs.length) ∧ IA h (a + 7) 4 rs.length (fun j => (rs.getD j (0, 0)).1) ∧ IA h (a + 8) 4 rs.length (fun j => (rs.getD j (0, 0)).2) ∧ IA h (a + 9) 4 4 cx ∧ IA h (a + 10) 4 4 (fun r => rgoal r (cx r)) ∧ IA h (a + 11) 10 0 (fun _ => 0) ∧ IA h (a + 12) 10 0 (fun _ => 0) ∧ rs.length ≤ 4 ∧ (∀ j, j < 4 → cx j ≤ 2) ∧ ∀ q ∈ rs, q.1 < 4 ∧ q.2 < 10
def Sd (h : xH) (a : Nat) (rs ps : List (Nat × Nat)) : Prop := IA h (a + 11) 10 ps.length (fun j => msk (rask rs j) rs.length) ∧ IA h (a + 12) 10 ps.length (fun j => msk (rbar rs ps j) rs.length)
theorem Ru.sm {h h' : xH} {a lo hi : Nat} {rs : List (Nat × Nat)} {cx : Nat → Nat} (H : Ru h a rs cx) (hs : Sm h h' lo hi) (hd : a + 13 ≤ lo ∨ hi ≤ a ∨ (a + 1 ≤ lo ∧ hi ≤ a + 7)) : Ru h' a rs cx := by
  obtain ⟨h1, h2, h3, h4, h5, h6, h7, h8⟩ := H
  exact ⟨(hs.2 _ (by omega)).trans h1, h2.at (hs.2 _ (by omega)), h3.at (hs.2 _ (by omega)), h4.at (hs.2 _ (by omega)), h5.at (hs.2 _ (by omega)), h6.at (hs.2 _ (by omega)), h7.at (hs.2 _ (by omega)), h8⟩
theorem Sd.sm {h h' : xH} {a lo hi : Nat} {rs ps : List (Nat × Nat)} (H : Sd h a rs ps) (hs : Sm h h' lo hi) (hd : a + 13 ≤ lo ∨ hi ≤ a + 11) : Sd h' a rs ps := ⟨H.1.at (hs.2 _ (by omega)), H.2.at (hs.2 _ (by omega))⟩
section RULE
variable {l : Launch} {G : xG} {d : Nat} {h : xH} {a : Nat} {rs ps : List (Nat × Nat)} {cx : Nat → Nat}
theorem c_Rule_count (H : Ru h a rs cx) : xMet l G mRule_count d 0 0 [.ref a] h (fun o h' => o = .inl (some (.int (nI rs.length))) ∧ h' = h) := by
  obtain ⟨h1, ⟨fk, h2, e2⟩, ⟨fp, h3, e3⟩, ⟨fc, h4, e4⟩, ⟨fg, h5, e5⟩, ⟨fa, h6, e6⟩, ⟨fb, h7, e7⟩, h8, h9, h10⟩ := H
  refine xMet_of (L := [_]) (by decide) (Nat.le_of_ble_eq_true rfl) rfl ?_
  refine ex_aload_n dRule_count_0 rfl ?_
  refine ex_get dRule_count_1 fg_Rule_42 h1 rfl ?_
  exact ex_iret dRule_count_4 rfl (Nat.le_refl _) (Nat.le_refl _) ⟨rfl, rfl⟩
theorem c_Rule_contextsOf {r : Nat} (hr : r < 4) (H : Ru h a rs cx) : xMet l G mRule_contextsOf d 0 0 [.ref a, .int (nI r)] h (fun o h' => o = .inl (some (.int (nI (cx r)))) ∧ h' = h) := by
  obtain ⟨h1, ⟨fk, h2, e2⟩, ⟨fp, h3, e3⟩, ⟨fc, h4, e4⟩, ⟨fg, h5, e5⟩, ⟨fa, h6, e6⟩, ⟨fb, h7, e7⟩, h8, h9, h10⟩ := H
  refine xMet_of (L := [_, _]) (by decide) (Nat.le_of_ble_eq_true rfl) rfl ?_
  refine ex_aload_n dRule_contextsOf_0 rfl ?_
  refine ex_get dRule_contextsOf_1 fg_Rule_30 h1 rfl ?_
  refine ex_iload_n dRule_contextsOf_4 rfl ?_
  refine ex_iaload dRule_contextsOf_5 h4 rfl hr (by omega) ?_
  exact ex_iret dRule_contextsOf_6 rfl (Nat.le_refl _) (Nat.le_refl _) ⟨by rw [e4 r hr], rfl⟩
theorem c_Rule_latestContextOf {r c n : Nat} {fc : Nat → Int32} (hr : r < 4) (h1 : h.2 a = some (cRule a n)) (h4 : h.2 (a + 9) = some (cI 4 fc)) (e4 : fc r = nI c) (hc : 0 < c) : xMet l G mRule_latestContextOf d 0 0 [.ref a, .int (nI r)] h (fun o h' => o = .inl (some (.int (nI (2 * r + c - 1)))) ∧ h' = h) := by
  refine xMet_of (L := [_, _]) (by decide) (Nat.le_of_ble_eq_true rfl) rfl ?_
  refine ex_iconst (v := nI 2) dRule_latestContextOf_0 (by decide) ?_
  refine ex_iload_n dRule_latestContextOf_1 rfl ?_
  refine ex_imul dRule_latestContextOf_2 ?_
  refine ex_aload_n dRule_latestContextOf_3 rfl ?_
  refine ex_get dRule_latestContextOf_4 fg_Rule_30 h1 rfl ?_
  refine ex_iload_n dRule_latestContextOf_7 rfl ?_
  refine ex_iaload dRule_latestContextOf_8 h4 rfl hr (by omega) ?_
  rw [pk_mul, e4]
  refine ex_iadd dRule_latestContextOf_9 ?_
  rw [nI_add]
  refine ex_iconst (v := nI 1) dRule_latestContextOf_10 (by decide) ?_
  refine ex_isub dRule_latestContextOf_11 ?_
  rw [pk_sub (by omega)]
  exact ex_iret dRule_latestContextOf_12 rfl (Nat.le_refl _) (Nat.le_refl _) ⟨rfl, rfl⟩
theorem c_Rule_add {k p : Nat} (hk : k < 4) (hp : p < 10) (hl : rs.length < 4) (H : Ru h a rs cx) : xMet l G mRule_add d 0 0 [.ref a, .int (nI k), .int (nI p)] h (fun o h' => o = .inl (some (.int (nI rs.length))) ∧ Ru h' a (rs ++ [(k, p)]) cx ∧ Sm h h' a (a + 13) ∧ ∀ q, a < q → q < a + 7 → h'.2 q = h.2 q) := by
  obtain ⟨h1, ⟨fk, h2, e2⟩, ⟨fp, h3, e3⟩, ⟨fc, h4, e4⟩, ⟨fg, h5, e5⟩, ⟨fa, h6, e6⟩, ⟨fb, h7, e7⟩, h8, h9, h10⟩ := H
  have d1 : (xup h (a + 7) (cI 4 (upd fk rs.length (nI k)))).2 a = some (cRule a rs.length) := by rw [xup_ne _ _ (by omega)]; exact h1
  have d2 : (xup h (a + 7) (cI 4 (upd fk rs.length (nI k)))).2 (a + 8) = some (cI 4 fp) := by rw [xup_ne _ _ (by omega)]; exact h3
  have d3 : (xup (xup h (a + 7) (cI 4 (upd fk rs.length (nI k)))) (a + 8) (cI 4 (upd fp rs.length (nI p)))).2 a = some (cRule a rs.length) := by rw [xup_ne _ _ (by omega)]; exact d1
  refine xMet_of (L := [_, _, _]) (by decide) (Nat.le_of_ble_eq_true rfl) rfl ?_
  refine ex_aload_n dRule_add_0 rfl ?_
  refine ex_get dRule_add_1 fg_Rule_23 h1 rfl ?_
  refine ex_aload_n dRule_add_4 rfl ?_
  refine ex_get dRule_add_5 fg_Rule_42 h1 rfl ?_
  refine ex_iload_n dRule_add_8 rfl ?_
  refine ex_iastore dRule_add_9 h2 rfl hl (by omega) ?_
  refine ex_aload_n dRule_add_10 rfl ?_
  refine ex_get dRule_add_11 fg_Rule_27 d1 rfl ?_
  refine ex_aload_n dRule_add_14 rfl ?_
  refine ex_get dRule_add_15 fg_Rule_42 d1 rfl ?_
  refine ex_iload_n dRule_add_18 rfl ?_
  refine ex_iastore dRule_add_19 d2 rfl hl (by omega) ?_
  refine ex_aload_n dRule_add_20 rfl ?_
  refine ex_dup dRule_add_21 rfl ?_
  refine ex_get dRule_add_22 fg_Rule_42 d3 rfl ?_
  refine ex_iconst (v := nI 1) dRule_add_25 (by decide) ?_
  refine ex_iadd dRule_add_26 ?_
  rw [show nI rs.length + nI 1 = nI (rs.length + 1) from nI_add _ _]
  refine ex_put (fs' := [_, _, _, _, _, _, _, _, _]) dRule_add_27 (fp_Rule_42 _) d3 rfl rfl (Nat.le_of_ble_eq_true rfl) rfl ?_
  refine ex_aload_n dRule_add_30 rfl ?_
  refine ex_get dRule_add_31 fg_Rule_42 (xup_self _ _ _) rfl ?_
  refine ex_iconst (v := nI 1) dRule_add_34 (by decide) ?_
  refine ex_isub dRule_add_35 ?_
  refine ex_iret dRule_add_36 rfl (Nat.le_refl _) (Nat.le_refl _) ⟨by rw [show nI (rs.length + 1) - nI 1 = nI rs.length from by rw [pk_sub (by omega)]; rfl], ⟨?_, ?_, ?_, ?_, ?_, ?_, ?_, ?_, h9, ?_⟩, ?_, ?_⟩
  · rw [xup_self]; simp
  · refine ((IA.snoc e2).at (h := xup h (a + 7) (cI 4 (upd fk rs.length (nI k)))) (by rw [xup_ne _ _ (by omega), xup_ne _ _ (by omega)])).to (by simp) (fun j hj => ?_)
    by_cases e : j = rs.length
    · subst e; rw [va_up_self]; simp
    · have hj' : j < rs.length := by simp at hj; omega
      rw [va_up_ne _ _ e]; simp [List.getElem?_append_left hj']
  · refine ((IA.snoc e3).at (h := xup (xup h (a + 7) (cI 4 (upd fk rs.length (nI k)))) (a + 8) (cI 4 (upd fp rs.length (nI p)))) (by rw [xup_ne _ _ (by omega)])).to (by simp) (fun j hj => ?_)
    by_cases e : j = rs.length
    · subst e; rw [va_up_self]; simp
    · have hj' : j < rs.length := by simp at hj; omega
      rw [va_up_ne _ _ e]; simp [List.getElem?_append_left hj']
  · exact ⟨fc, by rw [xup_ne _ _ (by omega), xup_ne _ _ (by omega), xup_ne _ _ (by omega)]; exact h4, e4⟩
  · exact ⟨fg, by rw [xup_ne _ _ (by omega), xup_ne _ _ (by omega), xup_ne _ _ (by omega)]; exact h5, e5⟩
  · exact ⟨fa, by rw [xup_ne _ _ (by omega), xup_ne _ _ (by omega), xup_ne _ _ (by omega)]; exact h6, e6⟩
  · exact ⟨fb, by rw [xup_ne _ _ (by omega), xup_ne _ _ (by omega), xup_ne _ _ (by omega)]; exact h7, e7⟩
  · simp; omega
  · intro q hq
    rcases List.mem_append.mp hq with q1 | q1
    · exact h10 q q1
    · rw [List.mem_singleton.mp q1]; exact ⟨hk, hp⟩
  · exact ((Sm.up (by omega) (by omega)).trans (Sm.up (by omega) (by omega))).trans (Sm.up (by omega) (by omega))
  · intro q hq1 hq2
    rw [xup_ne _ _ (by omega), xup_ne _ _ (by omega), xup_ne _ _ (by omega)]
theorem c_Rule_addContext {r : Nat} {t1 t2 b1 b2 : Bool} {sz1 hv1 sz2 hv2 : Nat → Nat} {st1 ss1 ls1 st2 ss2 ls2 : Nat} (hr : r < 4) (hx : cx r < 2) (H : Ru h a rs cx) (H1 : Pt h (a + 1) b1 sz1 hv1 st1 ss1 ls1) (H2 : Pt h (a + 4) b2 sz2 hv2 st2 ss2 ls2) : xMet l G mRule_addContext (d + 2) 0 0 [.ref a, .int (nI r), .int (bI t1), .int (bI t2)] h (fun o h' => o = .inl (some (.int (nI (cx r + 1)))) ∧ Ru h' a rs (va_up cx r (cx r + 1)) ∧ Pt h' (a + 1) b1 sz1 hv1 st1 (ss1 ||| pgoal (2 * r + cx r)) (if t1 then ls1 else ls1 ||| pgoal (2 * r + cx r)) ∧ Pt h' (a + 4) b2 sz2 hv2 st2 (ss2 ||| pgoal (2 * r + cx r)) (if t2 then ls2 else ls2 ||| pgoal (2 * r + cx r)) ∧ Sm h h' a (a + 11)) := by
  obtain ⟨h1, ⟨fk, h2, e2⟩, ⟨fp, h3, e3⟩, ⟨fc, h4, e4⟩, ⟨fg, h5, e5⟩, ⟨fa, h6, e6⟩, ⟨fb, h7, e7⟩, h8, h9, h10⟩ := H
  have d1 : (xup h (a + 9) (cI 4 (upd fc r (nI (cx r + 1))))).2 a = some (cRule a rs.length) := by rw [xup_ne _ _ (by omega)]; exact h1
  have S1 : Sm h (xup h (a + 9) (cI 4 (upd fc r (nI (cx r + 1))))) (a + 9) (a + 10) := Sm.up (by omega) (by omega)
  have H1' := H1.sm S1 (by omega)
  have H2' := H2.sm S1 (by omega)
  refine xMet_of (L := [_, _, _, _, _]) (by decide) (Nat.le_of_ble_eq_true rfl) rfl ?_
  refine ex_aload_n dRule_addContext_0 rfl ?_
  refine ex_get dRule_addContext_1 fg_Rule_30 h1 rfl ?_
  refine ex_iload_n dRule_addContext_4 rfl ?_
  refine ex_dup2 dRule_addContext_5 rfl rfl ?_
  refine ex_iaload dRule_addContext_6 h4 rfl hr (by omega) ?_
  refine ex_iconst (v := nI 1) dRule_addContext_7 (by decide) ?_
  refine ex_iadd dRule_addContext_8 ?_
  rw [e4 r hr, show nI (cx r) + nI 1 = nI (cx r + 1) from nI_add _ _]
  refine ex_iastore dRule_addContext_9 h4 rfl hr (by omega) ?_
  refine ex_aload_n dRule_addContext_10 rfl ?_
  refine ex_iload_n dRule_addContext_11 rfl ?_
  refine ex_v1 dRule_addContext_12 iv_Rule_46 cd_Rule_latestContextOf ar_Rule_latestContextOf d1 (c_Rule_latestContextOf (d := d + 1) (c := cx r + 1) hr d1 (xup_self _ _ _) pk_us (by omega)) (by dsimp only; omega) (Nat.le_of_ble_eq_true rfl) (Nat.le_refl _) (Nat.le_refl _) (fun E h9 q9 => by simp at q9) (fun v9 hp9 hq => ?_)
  obtain ⟨e, e1⟩ := hq
  cases e
  rw [e1, show 2 * r + (cx r + 1) - 1 = 2 * r + cx r by omega]
  refine ex_istore (L' := [_, _, _, _, _]) dRule_addContext_15 (by decide) rfl ?_
  refine ex_aload_n dRule_addContext_17 rfl ?_
  refine ex_get dRule_addContext_18 fg_Rule_14 d1 rfl ?_
  refine ex_iload dRule_addContext_21 rfl ?_
  refine ex_iload_n dRule_addContext_23 rfl ?_
  have H1c := H1'
  obtain ⟨f1, g1, p1, -⟩ := H1c
  refine ex_v2 dRule_addContext_24 iv_Rule_50 cd_Patt_open ar_Patt_open p1 (c_Patt_open (d := d) (c := 2 * r + cx r) (t := t1) (by omega) H1') (by dsimp only; omega) (Nat.le_of_ble_eq_true rfl) (Nat.le_refl _) (Nat.le_refl _) (fun E h9 q9 => by simp at q9) (fun v9 h8a hq => ?_)
  obtain ⟨e, P1, S2⟩ := hq
  cases e
  have d2 : h8a.2 a = some (cRule a rs.length) := (S2.2 a (by omega)).trans d1
  have H2s := H2'.sm S2 (by omega)
  have H2c := H2s
  obtain ⟨f2, g2, p2, -⟩ := H2c
  refine ex_aload_n dRule_addContext_27 rfl ?_
  refine ex_get dRule_addContext_28 fg_Rule_20 d2 rfl ?_
  refine ex_iload dRule_addContext_31 rfl ?_
  refine ex_iload_n dRule_addContext_33 rfl ?_
  refine ex_v2 dRule_addContext_34 iv_Rule_50 cd_Patt_open ar_Patt_open p2 (c_Patt_open (d := d) (c := 2 * r + cx r) (t := t2) (by omega) H2s) (by dsimp only; omega) (Nat.le_of_ble_eq_true rfl) (Nat.le_refl _) (Nat.le_refl _) (fun E h9 q9 => by simp at q9) (fun v8 h8b hq => ?_)
  obtain ⟨e, P2, S3⟩ := hq
  cases e
  have P1' := P1.sm S3 (by omega)
  have d3 : h8b.2 a = some (cRule a rs.length) := (S3.2 a (by omega)).trans d2
  have d5 : h8b.2 (a + 10) = some (cI 4 fg) := (S3.2 _ (by omega)).trans ((S2.2 _ (by omega)).trans (by rw [xup_ne _ _ (by omega)]; exact h5))
  have d4 : h8b.2 (a + 9) = some (cI 4 (upd fc r (nI (cx r + 1)))) := (S3.2 _ (by omega)).trans ((S2.2 _ (by omega)).trans (xup_self _ _ _))
  refine ex_aload_n dRule_addContext_37 rfl ?_
  refine ex_get dRule_addContext_38 fg_Rule_33 d3 rfl ?_
  refine ex_iload_n dRule_addContext_41 rfl ?_
  refine ex_dup2 dRule_addContext_42 rfl rfl ?_
  refine ex_iaload dRule_addContext_43 d5 rfl hr (by omega) ?_
  refine ex_iload dRule_addContext_44 rfl ?_
  rw [e5 r hr]
  refine ex_s1 dRule_addContext_46 is_Rule_54 cd_Patt_goalOf ar_Patt_goalOf (c_Patt_goalOf (d := d) (c := 2 * r + cx r) (by omega)) (by dsimp only; omega) (Nat.le_of_ble_eq_true rfl) (Nat.le_refl _) (Nat.le_refl _) (fun E h9 q9 => by simp at q9) (fun v7 h8c hq => ?_)
  obtain ⟨e, e1⟩ := hq
  cases e
  rw [e1]
  refine ex_ior dRule_addContext_49 ?_
  rw [nb_or]
  have d6 : (xup h8b (a + 10) (cI 4 (upd fg r (nI (rgoal r (cx r) ||| pgoal (2 * r + cx r)))))).2 a = some (cRule a rs.length) := by rw [xup_ne _ _ (by omega)]; exact d3
  have d7 : (xup h8b (a + 10) (cI 4 (upd fg r (nI (rgoal r (cx r) ||| pgoal (2 * r + cx r)))))).2 (a + 9) = some (cI 4 (upd fc r (nI (cx r + 1)))) := by rw [xup_ne _ _ (by omega)]; exact d4
  have S4 : Sm h8b (xup h8b (a + 10) (cI 4 (upd fg r (nI (rgoal r (cx r) ||| pgoal (2 * r + cx r)))))) (a + 10) (a + 11) := Sm.up (by omega) (by omega)
  have SS := ((S1.wide (lo' := a) (hi' := a + 11) (by omega) (by omega)).trans (S2.wide (by omega) (by omega))).trans ((S3.wide (by omega) (by omega)).trans (S4.wide (by omega) (by omega)))
  have hF : ∀ q, (q = a + 7 ∨ q = a + 8 ∨ q = a + 11 ∨ q = a + 12) → (xup h8b (a + 10) (cI 4 (upd fg r (nI (rgoal r (cx r) ||| pgoal (2 * r + cx r)))))).2 q = h.2 q := fun q hq => (S4.2 q (by omega)).trans ((S3.2 q (by omega)).trans ((S2.2 q (by omega)).trans (S1.2 q (by omega))))
  refine ex_iastore dRule_addContext_50 d5 rfl hr (by omega) ?_
  refine ex_aload_n dRule_addContext_51 rfl ?_
  refine ex_get dRule_addContext_52 fg_Rule_30 d6 rfl ?_
  refine ex_iload_n dRule_addContext_55 rfl ?_
  refine ex_iaload dRule_addContext_56 d7 rfl hr (by omega) ?_
  refine ex_iret dRule_addContext_57 rfl (Nat.le_refl _) (Nat.le_refl _) ⟨by rw [pk_us], ⟨d6, ⟨fk, (hF _ (by omega)).trans h2, e2⟩, ⟨fp, (hF _ (by omega)).trans h3, e3⟩, ⟨_, d7, fun j hj => ?_⟩, ⟨_, xup_self _ _ _, fun j hj => ?_⟩, ⟨fa, (hF _ (by omega)).trans h6, e6⟩, ⟨fb, (hF _ (by omega)).trans h7, e7⟩, h8, fun j hj => ?_, h10⟩, P1'.sm S4 (by omega), P2.sm S4 (by omega), SS⟩
  · by_cases e : j = r
    · subst e; rw [pk_us, va_up_self]
    · rw [pk_un e, va_up_ne _ _ e, e4 j hj]
  · by_cases e : j = r
    · subst e; dsimp only; rw [pk_us, va_up_self, rgoal]
    · dsimp only; rw [pk_un e, va_up_ne _ _ e, e5 j hj]
  · by_cases e : j = r
    · subst e; rw [va_up_self]; omega
    · rw [va_up_ne _ _ e]; exact h9 j hj
theorem c_Rule_asks {k : Nat} {s : Bool} (hk : k < 4) : xMet l G mRule_asks d 0 0 [.int (nI k), .int (bI s)] h (fun o h' => o = .inl (some (.int (bI (rasks k s)))) ∧ h' = h) := by
  have no : rasks k s = false → Ex (l, G, d, 0, 0, h, fun o h' => o = .inl (some (.int (bI (rasks k s)))) ∧ h' = h) mRule_asks 17 [some (.int (nI k)), some (.int (bI s))] [] h 0 0 := by
    intro e
    refine ex_iconst (v := nI 0) dRule_asks_17 (by decide) ?_
    exact ex_zret dRule_asks_18 rfl (by decide) (Nat.le_refl _) (Nat.le_refl _) ⟨by rw [e]; rfl, rfl⟩
  have yes : rasks k s = true → Ex (l, G, d, 0, 0, h, fun o h' => o = .inl (some (.int (bI (rasks k s)))) ∧ h' = h) mRule_asks 13 [some (.int (nI k)), some (.int (bI s))] [] h 0 0 := by
    intro e
    refine ex_iconst (v := nI 1) dRule_asks_13 (by decide) ?_
    refine ex_goto (tgt := 18) dRule_asks_14 (by decide) ?_
    exact ex_zret dRule_asks_18 rfl (by decide) (Nat.le_refl _) (Nat.le_refl _) ⟨by rw [e]; rfl, rfl⟩
  refine xMet_of (L := [_, _]) (by decide) (Nat.le_of_ble_eq_true rfl) rfl ?_
  refine ex_iload_n dRule_asks_0 rfl ?_
  refine ex_if_eq (tgt := 17) dRule_asks_1 (by decide) (fun hc => ?_) (fun hc => ?_)
  · exact no (by rw [bI_0.mp hc]; rfl)
  have hs : s = true := by cases s; exact absurd rfl hc; rfl
  subst hs
  refine ex_iload_n dRule_asks_4 rfl ?_
  refine ex_if_eq (tgt := 13) dRule_asks_5 (by decide) (fun hc2 => ?_) (fun hc2 => ?_)
  · exact yes (by rw [(nI_eq (b := 0) (by omega) (by omega)).mp hc2]; rfl)
  refine ex_iload_n dRule_asks_8 rfl ?_
  refine ex_iconst (v := nI 2) dRule_asks_9 (by decide) ?_
  refine ex_icmp_ne (tgt := 17) dRule_asks_10 (by decide) (fun hc3 => ?_) (fun hc3 => ?_)
  · refine no ?_
    have q0 : k ≠ 0 := fun q => hc2 (by rw [q]; rfl)
    have q2 : k ≠ 2 := fun q => hc3 (by rw [q])
    simp [rasks, q0, q2]
  exact yes (by rw [(nI_eq (by omega) (by omega)).mp hc3]; rfl)
theorem c_Rule_bars {k : Nat} {s v : Bool} (hk : k < 4) : xMet l G mRule_bars d 0 0 [.int (nI k), .int (bI s), .int (bI v)] h (fun o h' => o = .inl (some (.int (bI (rbars k s v)))) ∧ h' = h) := by
  have no : rbars k s v = false → Ex (l, G, d, 0, 0, h, fun o h' => o = .inl (some (.int (bI (rbars k s v)))) ∧ h' = h) mRule_bars 27 [some (.int (nI k)), some (.int (bI s)), some (.int (bI v))] [] h 0 0 := by
    intro e
    refine ex_iconst (v := nI 0) dRule_bars_27 (by decide) ?_
    exact ex_zret dRule_bars_28 rfl (by decide) (Nat.le_refl _) (Nat.le_refl _) ⟨by rw [e]; rfl, rfl⟩
  have yes : rbars k s v = true → Ex (l, G, d, 0, 0, h, fun o h' => o = .inl (some (.int (bI (rbars k s v)))) ∧ h' = h) mRule_bars 23 [some (.int (nI k)), some (.int (bI s)), some (.int (bI v))] [] h 0 0 := by
    intro e
    refine ex_iconst (v := nI 1) dRule_bars_23 (by decide) ?_
    refine ex_goto (tgt := 28) dRule_bars_24 (by decide) ?_
    exact ex_zret dRule_bars_28 rfl (by decide) (Nat.le_refl _) (Nat.le_refl _) ⟨by rw [e]; rfl, rfl⟩
  have mid : (v && (k == 1 || k == 2)) = false → Ex (l, G, d, 0, 0, h, fun o h' => o = .inl (some (.int (bI (rbars k s v)))) ∧ h' = h) mRule_bars 14 [some (.int (nI k)), some (.int (bI s)), some (.int (bI v))] [] h 0 0 := by
    intro e
    refine ex_iload_n dRule_bars_14 rfl ?_
    refine ex_if_eq (tgt := 27) dRule_bars_15 (by decide) (fun hc => ?_) (fun hc => ?_)
    · exact no (by unfold rbars; rw [e, bI_0.mp hc]; rfl)
    have hs : s = true := by cases s; exact absurd rfl hc; rfl
    refine ex_iload_n dRule_bars_18 rfl ?_
    refine ex_iconst (v := nI 3) dRule_bars_19 (by decide) ?_
    refine ex_icmp_ne (tgt := 27) dRule_bars_20 (by decide) (fun hc2 => ?_) (fun hc2 => ?_)
    · have q3 : k ≠ 3 := fun q => hc2 (by rw [q])
      exact no (by unfold rbars; rw [e]; simp [q3])
    · have q3 : k = 3 := (nI_eq (by omega) (by omega)).mp hc2
      exact yes (by unfold rbars; rw [e, hs, q3]; rfl)
  refine xMet_of (L := [_, _, _]) (by decide) (Nat.le_of_ble_eq_true rfl) rfl ?_
  refine ex_iload_n dRule_bars_0 rfl ?_
  refine ex_if_eq (tgt := 14) dRule_bars_1 (by decide) (fun hc => ?_) (fun hc => ?_)
  · exact mid (by rw [bI_0.mp hc]; rfl)
  have hv : v = true := by cases v; exact absurd rfl hc; rfl
  refine ex_iload_n dRule_bars_4 rfl ?_
  refine ex_iconst (v := nI 1) dRule_bars_5 (by decide) ?_
  refine ex_icmp_eq (tgt := 23) dRule_bars_6 (by decide) (fun hc2 => ?_) (fun hc2 => ?_)
  · exact yes (by unfold rbars; rw [hv, (nI_eq (b := 1) (by omega) (by omega)).mp hc2]; rfl)
  refine ex_iload_n dRule_bars_9 rfl ?_
  refine ex_iconst (v := nI 2) dRule_bars_10 (by decide) ?_
  refine ex_icmp_eq (tgt := 23) dRule_bars_11 (by decide) (fun hc3 => ?_) (fun hc3 => ?_)
  · exact yes (by unfold rbars; rw [hv, (nI_eq (b := 2) (by omega) (by omega)).mp hc3]; rfl)
  have q1 : k ≠ 1 := fun q => hc2 (by rw [q])
  have q2 : k ≠ 2 := fun q => hc3 (by rw [q])
  exact mid (by simp [q1, q2])
theorem c_Rule_brokenBy {p sb sh : Nat} (hp : p < ps.length) (hps : ps.length ≤ 10) (H : Ru h a rs cx) (HS : Sd h a rs ps) : xMet l G mRule_brokenBy d 0 0 [.ref a, .int (nI p), .int (nI sb), .int (nI sh)] h (fun o h' => o = .inl (some (.int (nI (rbroken rs ps cx p sb sh)))) ∧ h' = h) := by
  obtain ⟨h1, ⟨fk, h2, e2⟩, ⟨fp, h3, e3⟩, ⟨fc, h4, e4⟩, ⟨fg, h5, e5⟩, ⟨fa, h6, e6⟩, ⟨fb, h7, e7⟩, h8, h9, h10⟩ := H
  obtain ⟨⟨fa', h6', e6'⟩, ⟨fb', h7', e7'⟩⟩ := HS
  have loop : ∀ (j i : Nat), i + j = rs.length → Ex (l, G, d, 0, 0, h, fun o h' => o = .inl (some (.int (nI (rbroken rs ps cx p sb sh)))) ∧ h' = h) mRule_brokenBy 11 [some (.ref a), some (.int (nI p)), some (.int (nI sb)), some (.int (nI sh)), some (.int (nI (sb &&& sh))), some (.int (nI (rhold cx (sb &&& sh) i))), some (.int (nI i))] [] h 0 0 := by
    intro j
    induction j with
    | zero =>
      intro i hij
      have e : i = rs.length := by omega
      subst e
      refine ex_iload dRule_brokenBy_11 rfl ?_
      refine ex_aload_n dRule_brokenBy_13 rfl ?_
      refine ex_get dRule_brokenBy_14 fg_Rule_42 h1 rfl ?_
      refine ex_icmp_ge (tgt := 48) dRule_brokenBy_17 (by decide) (fun hc => ?_) (fun hc => ?_)
      · refine ex_aload_n dRule_brokenBy_48 rfl ?_
        refine ex_get dRule_brokenBy_49 fg_Rule_36 h1 rfl ?_
        refine ex_iload_n dRule_brokenBy_52 rfl ?_
        refine ex_iaload dRule_brokenBy_53 h6' rfl (by omega) (by omega) ?_
        refine ex_iload dRule_brokenBy_54 rfl ?_
        refine ex_iconst (v := -1) dRule_brokenBy_56 (by decide) ?_
        refine ex_ixor dRule_brokenBy_57 ?_
        refine ex_iand dRule_brokenBy_58 ?_
        rw [e6' p hp, nb_clr]
        refine ex_aload_n dRule_brokenBy_59 rfl ?_
        refine ex_get dRule_brokenBy_60 fg_Rule_39 h1 rfl ?_
        refine ex_iload_n dRule_brokenBy_63 rfl ?_
        refine ex_iaload dRule_brokenBy_64 h7' rfl (by omega) (by omega) ?_
        refine ex_iload dRule_brokenBy_65 rfl ?_
        refine ex_iand dRule_brokenBy_67 ?_
        rw [e7' p hp, nb_and]
        refine ex_ior dRule_brokenBy_68 ?_
        rw [nb_or]
        exact ex_iret dRule_brokenBy_69 rfl (Nat.le_refl _) (Nat.le_refl _) ⟨rfl, rfl⟩
      · exact absurd (nI_le (by omega) (by omega)) hc
    | succ j ih =>
      intro i hij
      have next : ∀ x, x = rhold cx (sb &&& sh) (i + 1) → Ex (l, G, d, 0, 0, h, fun o h' => o = .inl (some (.int (nI (rbroken rs ps cx p sb sh)))) ∧ h' = h) mRule_brokenBy 42 [some (.ref a), some (.int (nI p)), some (.int (nI sb)), some (.int (nI sh)), some (.int (nI (sb &&& sh))), some (.int (nI x)), some (.int (nI i))] [] h 0 0 := by
        intro x hx
        refine ex_iinc (L' := [_, _, _, _, _, _, _]) dRule_brokenBy_42 rfl rfl (by decide) rfl ?_
        refine ex_goto (tgt := 11) dRule_brokenBy_45 (by decide) ?_
        rw [show nI i + Int32.ofInt 1 = nI (i + 1) from nI_1 i, hx]
        exact ih (i + 1) (by omega)
      refine ex_iload dRule_brokenBy_11 rfl ?_
      refine ex_aload_n dRule_brokenBy_13 rfl ?_
      refine ex_get dRule_brokenBy_14 fg_Rule_42 h1 rfl ?_
      refine ex_icmp_ge (tgt := 48) dRule_brokenBy_17 (by decide) (fun hc => ?_) (fun hc => ?_)
      · exact absurd hc (nI_ge (by omega) (by omega))
      refine ex_iload dRule_brokenBy_20 rfl ?_
      refine ex_aload_n dRule_brokenBy_22 rfl ?_
      refine ex_get dRule_brokenBy_23 fg_Rule_33 h1 rfl ?_
      refine ex_iload dRule_brokenBy_26 rfl ?_
      refine ex_iaload dRule_brokenBy_28 h5 rfl (by omega) (by omega) ?_
      refine ex_iand dRule_brokenBy_29 ?_
      rw [e5 i (by omega), nb_and]
      have hgl := rgoal_lt (r := i) (by omega) (cx i) (h9 i (by omega))
      have hgm : (sb &&& sh) &&& rgoal i (cx i) < 2 ^ 24 := and_ltr hgl
      refine ex_if_eq (tgt := 42) dRule_brokenBy_30 (by decide) (fun hc2 => ?_) (fun hc2 => ?_)
      · refine next _ ?_
        have q : (sb &&& sh) &&& rgoal i (cx i) = 0 := (nI_eq (b := 0) (by omega) (by omega)).mp hc2
        rw [rhold, rhold, msk, if_neg (by simp [q])]; simp
      refine ex_iload dRule_brokenBy_33 rfl ?_
      refine ex_iconst (v := nI 1) dRule_brokenBy_35 (by decide) ?_
      refine ex_iload dRule_brokenBy_36 rfl ?_
      refine ex_ishl dRule_brokenBy_38 ?_
      rw [nb_shl (a := 1) (by omega) (by have := Nat.pow_le_pow_right (show 0 < 2 by omega) (show i ≤ 4 by omega); omega)]
      refine ex_ior dRule_brokenBy_39 ?_
      rw [nb_or]
      refine ex_istore (L' := [_, _, _, _, _, _, _]) dRule_brokenBy_40 (by decide) rfl ?_
      refine next _ ?_
      have q : (sb &&& sh) &&& rgoal i (cx i) ≠ 0 := fun q => hc2 (by rw [q]; rfl)
      rw [rhold, rhold, msk, if_pos (by simp [q])]
  refine xMet_of (L := [_, _, _, _, _, _, _]) (by decide) (Nat.le_of_ble_eq_true rfl) rfl ?_
  refine ex_iload_n dRule_brokenBy_0 rfl ?_
  refine ex_iload_n dRule_brokenBy_1 rfl ?_
  refine ex_iand dRule_brokenBy_2 ?_
  rw [nb_and]
  refine ex_istore (L' := [_, _, _, _, _, _, _]) dRule_brokenBy_3 (by decide) rfl ?_
  refine ex_iconst (v := nI 0) dRule_brokenBy_5 (by decide) ?_
  refine ex_istore (L' := [_, _, _, _, _, _, _]) dRule_brokenBy_6 (by decide) rfl ?_
  refine ex_iconst (v := nI 0) dRule_brokenBy_8 (by decide) ?_
  refine ex_istore (L' := [_, _, _, _, _, _, _]) dRule_brokenBy_9 (by decide) rfl ?_
  exact loop rs.length 0 (by omega)
end RULE
end
