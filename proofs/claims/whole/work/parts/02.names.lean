/-- a word that stays true while the tables grow warmer -/
def xwk (w : Cond) : Bool := (w.onTables && (w.keepsFace || w.keepsH)) || goodWord w || (match w with | .arrayOver (.object _) => true | _ => false)
def xTAB : List Cond := lw_tbl.filter xwk
theorem xin {w : Cond} (h : w ∈ tables_1) (hk : xwk w = true) : w ∈ xTAB := List.mem_filter.mpr ⟨List.mem_append_right _ h, hk⟩
theorem xinS {w : Cond} (h : w ∈ lw_tbl) (hk : xwk w = true) : w ∈ xTAB := List.mem_filter.mpr ⟨h, hk⟩
def RLine : String := "PairedWords$Line"
def TLine : u_T := fun k => match k with
  | 0 => ("PairedWords$Line", "signs", "[I", true)
  | _ => ("PairedWords$Line", "size", "I", false)
theorem nmLine : ∀ a, a < 2 → ∀ b, b < 2 → a ≠ b → (TLine a).2.1 ≠ (TLine b).2.1 := by decide +kernel
theorem fdLine : ∀ k, k < 2 → ∃ t, parseFieldDescriptor (TLine k).2.2.1 = some t := fun k hk => Option.isSome_iff_exists.mp ((by decide +kernel : ∀ k, k < 2 → (parseFieldDescriptor (TLine k).2.2.1).isSome = true) k hk)
theorem lyLine : ∀ w ∈ u_ws RLine TLine 2, w ∈ xTAB := by
  have h : u_ws RLine TLine 2 = [123, 125].filterMap (fun i => tables_1[i]?) := by decide +kernel
  have hk : (u_ws RLine TLine 2).all xwk = true := by decide +kernel
  intro w hw
  have h2 := List.all_eq_true.mp hk w hw
  rw [h] at hw
  obtain ⟨i, -, hi⟩ := List.mem_filterMap.mp hw
  exact xin (List.mem_of_getElem? hi) h2
def RPairs : String := "PairedWords$Pairs"
def TPairs : u_T := fun k => match k with
  | 0 => ("PairedWords$Pairs", "lowers", "[I", true)
  | 1 => ("PairedWords$Pairs", "uppers", "[I", true)
  | _ => ("PairedWords$Pairs", "count", "I", false)
theorem nmPairs : ∀ a, a < 3 → ∀ b, b < 3 → a ≠ b → (TPairs a).2.1 ≠ (TPairs b).2.1 := by decide +kernel
theorem fdPairs : ∀ k, k < 3 → ∃ t, parseFieldDescriptor (TPairs k).2.2.1 = some t := fun k hk => Option.isSome_iff_exists.mp ((by decide +kernel : ∀ k, k < 3 → (parseFieldDescriptor (TPairs k).2.2.1).isSome = true) k hk)
theorem lyPairs : ∀ w ∈ u_ws RPairs TPairs 3, w ∈ xTAB := by
  have h : u_ws RPairs TPairs 3 = [37, 39, 41].filterMap (fun i => tables_1[i]?) := by decide +kernel
  have hk : (u_ws RPairs TPairs 3).all xwk = true := by decide +kernel
  intro w hw
  have h2 := List.all_eq_true.mp hk w hw
  rw [h] at hw
  obtain ⟨i, -, hi⟩ := List.mem_filterMap.mp hw
  exact xin (List.mem_of_getElem? hi) h2
def RPatt : String := "PairedWords$Patterns"
def TPatt : u_T := fun k => match k with
  | 0 => ("PairedWords$Patterns", "fromLeft", "Z", true)
  | 1 => ("PairedWords$Patterns", "sizes", "[I", true)
  | 2 => ("PairedWords$Patterns", "having", "[I", true)
  | 3 => ("PairedWords$Patterns", "starred", "I", false)
  | 4 => ("PairedWords$Patterns", "starts", "I", false)
  | _ => ("PairedWords$Patterns", "looseStarts", "I", false)
theorem nmPatt : ∀ a, a < 6 → ∀ b, b < 6 → a ≠ b → (TPatt a).2.1 ≠ (TPatt b).2.1 := by decide +kernel
theorem fdPatt : ∀ k, k < 6 → ∃ t, parseFieldDescriptor (TPatt k).2.2.1 = some t := fun k hk => Option.isSome_iff_exists.mp ((by decide +kernel : ∀ k, k < 6 → (parseFieldDescriptor (TPatt k).2.2.1).isSome = true) k hk)
theorem lyPatt : ∀ w ∈ u_ws RPatt TPatt 6, w ∈ xTAB := by
  have h : u_ws RPatt TPatt 6 = [63, 65, 67, 69, 71, 73].filterMap (fun i => tables_1[i]?) := by decide +kernel
  have hk : (u_ws RPatt TPatt 6).all xwk = true := by decide +kernel
  intro w hw
  have h2 := List.all_eq_true.mp hk w hw
  rw [h] at hw
  obtain ⟨i, -, hi⟩ := List.mem_filterMap.mp hw
  exact xin (List.mem_of_getElem? hi) h2
def RResu : String := "PairedWords$Results"
def TResu : u_T := fun k => match k with
  | 0 => ("PairedWords$Results", "keys", "[J", true)
  | 1 => ("PairedWords$Results", "count", "I", false)
  | _ => ("PairedWords$Results", "tooMany", "Z", false)
theorem nmResu : ∀ a, a < 3 → ∀ b, b < 3 → a ≠ b → (TResu a).2.1 ≠ (TResu b).2.1 := by decide +kernel
theorem fdResu : ∀ k, k < 3 → ∃ t, parseFieldDescriptor (TResu k).2.2.1 = some t := fun k hk => Option.isSome_iff_exists.mp ((by decide +kernel : ∀ k, k < 3 → (parseFieldDescriptor (TResu k).2.2.1).isSome = true) k hk)
theorem lyResu : ∀ w ∈ u_ws RResu TResu 3, w ∈ xTAB := by
  have h : u_ws RResu TResu 3 = [176, 178, 180].filterMap (fun i => tables_1[i]?) := by decide +kernel
  have hk : (u_ws RResu TResu 3).all xwk = true := by decide +kernel
  intro w hw
  have h2 := List.all_eq_true.mp hk w hw
  rw [h] at hw
  obtain ⟨i, -, hi⟩ := List.mem_filterMap.mp hw
  exact xin (List.mem_of_getElem? hi) h2
def RRule : String := "PairedWords$Rules"
def TRule : u_T := fun k => match k with
  | 0 => ("PairedWords$Rules", "before", "LPairedWords$Patterns;", true)
  | 1 => ("PairedWords$Rules", "behind", "LPairedWords$Patterns;", true)
  | 2 => ("PairedWords$Rules", "kinds", "[I", true)
  | 3 => ("PairedWords$Rules", "pairOf", "[I", true)
  | 4 => ("PairedWords$Rules", "contexts", "[I", true)
  | 5 => ("PairedWords$Rules", "goals", "[I", true)
  | 6 => ("PairedWords$Rules", "asking", "[I", true)
  | 7 => ("PairedWords$Rules", "barring", "[I", true)
  | _ => ("PairedWords$Rules", "count", "I", false)
theorem nmRule : ∀ a, a < 9 → ∀ b, b < 9 → a ≠ b → (TRule a).2.1 ≠ (TRule b).2.1 := by decide +kernel
theorem fdRule : ∀ k, k < 9 → ∃ t, parseFieldDescriptor (TRule k).2.2.1 = some t := fun k hk => Option.isSome_iff_exists.mp ((by decide +kernel : ∀ k, k < 9 → (parseFieldDescriptor (TRule k).2.2.1).isSome = true) k hk)
theorem lyRule : ∀ w ∈ u_ws RRule TRule 9, w ∈ xTAB := by
  have h : u_ws RRule TRule 9 = [89, 91, 93, 95, 97, 99, 101, 103, 105].filterMap (fun i => tables_1[i]?) := by decide +kernel
  have hk : (u_ws RRule TRule 9).all xwk = true := by decide +kernel
  intro w hw
  have h2 := List.all_eq_true.mp hk w hw
  rw [h] at hw
  obtain ⟨i, -, hi⟩ := List.mem_filterMap.mp hw
  exact xin (List.mem_of_getElem? hi) h2
def RSamp : String := "PairedWords$Samples"
def TSamp : u_T := fun k => match k with
  | 0 => ("PairedWords$Samples", "lowers", "[LPairedWords$Line;", true)
  | 1 => ("PairedWords$Samples", "uppers", "[LPairedWords$Line;", true)
  | _ => ("PairedWords$Samples", "count", "I", false)
theorem nmSamp : ∀ a, a < 3 → ∀ b, b < 3 → a ≠ b → (TSamp a).2.1 ≠ (TSamp b).2.1 := by decide +kernel
theorem fdSamp : ∀ k, k < 3 → ∃ t, parseFieldDescriptor (TSamp k).2.2.1 = some t := fun k hk => Option.isSome_iff_exists.mp ((by decide +kernel : ∀ k, k < 3 → (parseFieldDescriptor (TSamp k).2.2.1).isSome = true) k hk)
theorem lySamp : ∀ w ∈ u_ws RSamp TSamp 3, w ∈ xTAB := by
  have h : u_ws RSamp TSamp 3 = [160, 162, 164].filterMap (fun i => tables_1[i]?) := by decide +kernel
  have hk : (u_ws RSamp TSamp 3).all xwk = true := by decide +kernel
  intro w hw
  have h2 := List.all_eq_true.mp hk w hw
  rw [h] at hw
  obtain ⟨i, -, hi⟩ := List.mem_filterMap.mp hw
  exact xin (List.mem_of_getElem? hi) h2
def RComp : String := "PairedWords$Comparison"
def TComp : u_T := fun k => match k with
  | 0 => ("PairedWords$Search", "pairs", "LPairedWords$Pairs;", true)
  | 1 => ("PairedWords$Search", "rules", "LPairedWords$Rules;", true)
  | 2 => ("PairedWords$Search", "lower", "LPairedWords$Line;", true)
  | 3 => ("PairedWords$Search", "row", "[I", true)
  | 4 => ("PairedWords$Search", "before", "[I", true)
  | 5 => ("PairedWords$Comparison", "upper", "LPairedWords$Line;", true)
  | 6 => ("PairedWords$Comparison", "any", "Z", false)
  | 7 => ("PairedWords$Comparison", "kept", "Z", false)
  | _ => ("PairedWords$Comparison", "brokenByAll", "I", false)
theorem nmComp : ∀ a, a < 9 → ∀ b, b < 9 → a ≠ b → (TComp a).2.1 ≠ (TComp b).2.1 := by decide +kernel
theorem fdComp : ∀ k, k < 9 → ∃ t, parseFieldDescriptor (TComp k).2.2.1 = some t := fun k hk => Option.isSome_iff_exists.mp ((by decide +kernel : ∀ k, k < 9 → (parseFieldDescriptor (TComp k).2.2.1).isSome = true) k hk)
theorem lyComp : ∀ w ∈ u_ws RComp TComp 9, w ∈ xTAB := by
  have h : u_ws RComp TComp 9 = [214, 216, 218, 220, 222, 206, 208, 210, 212].filterMap (fun i => tables_1[i]?) := by decide +kernel
  have hk : (u_ws RComp TComp 9).all xwk = true := by decide +kernel
  intro w hw
  have h2 := List.all_eq_true.mp hk w hw
  rw [h] at hw
  obtain ⟨i, -, hi⟩ := List.mem_filterMap.mp hw
  exact xin (List.mem_of_getElem? hi) h2
def RWrit : String := "PairedWords$Writing"
def TWrit : u_T := fun k => match k with
  | 0 => ("PairedWords$Search", "pairs", "LPairedWords$Pairs;", true)
  | 1 => ("PairedWords$Search", "rules", "LPairedWords$Rules;", true)
  | 2 => ("PairedWords$Search", "lower", "LPairedWords$Line;", true)
  | 3 => ("PairedWords$Search", "row", "[I", true)
  | 4 => ("PairedWords$Search", "before", "[I", true)
  | 5 => ("PairedWords$Writing", "upper", "LPairedWords$Line;", true)
  | _ => ("PairedWords$Writing", "forms", "LPairedWords$Results;", true)
theorem nmWrit : ∀ a, a < 7 → ∀ b, b < 7 → a ≠ b → (TWrit a).2.1 ≠ (TWrit b).2.1 := by decide +kernel
theorem fdWrit : ∀ k, k < 7 → ∃ t, parseFieldDescriptor (TWrit k).2.2.1 = some t := fun k hk => Option.isSome_iff_exists.mp ((by decide +kernel : ∀ k, k < 7 → (parseFieldDescriptor (TWrit k).2.2.1).isSome = true) k hk)
theorem lyWrit : ∀ w ∈ u_ws RWrit TWrit 7, w ∈ xTAB := by
  have h : u_ws RWrit TWrit 7 = [239, 240, 241, 242, 243, 235, 237].filterMap (fun i => tables_1[i]?) := by decide +kernel
  have hk : (u_ws RWrit TWrit 7).all xwk = true := by decide +kernel
  intro w hw
  have h2 := List.all_eq_true.mp hk w hw
  rw [h] at hw
  obtain ⟨i, -, hi⟩ := List.mem_filterMap.mp hw
  exact xin (List.mem_of_getElem? hi) h2
def RLexi : String := "PairedWords$Lexicon"
def TLexi : u_T := fun k => match k with
  | 0 => ("PairedWords$Lexicon", "parts", "[I", true)
  | 1 => ("PairedWords$Lexicon", "nexts", "[I", true)
  | 2 => ("PairedWords$Lexicon", "signs", "[LPairedWords$Line;", true)
  | 3 => ("PairedWords$Lexicon", "word", "[I", true)
  | 4 => ("PairedWords$Lexicon", "wordSigns", "LPairedWords$Line;", true)
  | _ => ("PairedWords$Lexicon", "count", "I", false)
theorem nmLexi : ∀ a, a < 6 → ∀ b, b < 6 → a ≠ b → (TLexi a).2.1 ≠ (TLexi b).2.1 := by decide +kernel
theorem fdLexi : ∀ k, k < 6 → ∃ t, parseFieldDescriptor (TLexi k).2.2.1 = some t := fun k hk => Option.isSome_iff_exists.mp ((by decide +kernel : ∀ k, k < 6 → (parseFieldDescriptor (TLexi k).2.2.1).isSome = true) k hk)
theorem lyLexi : ∀ w ∈ u_ws RLexi TLexi 6, w ∈ xTAB := by
  have h : u_ws RLexi TLexi 6 = [134, 136, 138, 140, 142, 144].filterMap (fun i => tables_1[i]?) := by decide +kernel
  have hk : (u_ws RLexi TLexi 6).all xwk = true := by decide +kernel
  intro w hw
  have h2 := List.all_eq_true.mp hk w hw
  rw [h] at hw
  obtain ⟨i, -, hi⟩ := List.mem_filterMap.mp hw
  exact xin (List.mem_of_getElem? hi) h2
def RPW : String := "PairedWords"
def TPW : u_T := fun k => match k with
  | 0 => ("PairedWords", "pairs", "LPairedWords$Pairs;", true)
  | 1 => ("PairedWords", "rules", "LPairedWords$Rules;", true)
  | 2 => ("PairedWords", "lexicon", "LPairedWords$Lexicon;", true)
  | 3 => ("PairedWords", "lowerLine", "LPairedWords$Line;", true)
  | 4 => ("PairedWords", "upperLine", "LPairedWords$Line;", true)
  | 5 => ("PairedWords", "samples", "LPairedWords$Samples;", true)
  | 6 => ("PairedWords", "results", "LPairedWords$Results;", true)
  | 7 => ("PairedWords", "gathered", "LPairedWords$Results;", true)
  | 8 => ("PairedWords", "comparison", "LPairedWords$Comparison;", true)
  | _ => ("PairedWords", "writing", "LPairedWords$Writing;", true)
theorem nmPW : ∀ a, a < 10 → ∀ b, b < 10 → a ≠ b → (TPW a).2.1 ≠ (TPW b).2.1 := by decide +kernel
theorem fdPW : ∀ k, k < 10 → ∃ t, parseFieldDescriptor (TPW k).2.2.1 = some t := fun k hk => Option.isSome_iff_exists.mp ((by decide +kernel : ∀ k, k < 10 → (parseFieldDescriptor (TPW k).2.2.1).isSome = true) k hk)
theorem lyPW : ∀ w ∈ u_ws RPW TPW 10, w ∈ xTAB := by
  have h : u_ws RPW TPW 10 = [255, 257, 259, 261, 263, 265, 267, 269, 271, 273].filterMap (fun i => tables_1[i]?) := by decide +kernel
  have hk : (u_ws RPW TPW 10).all xwk = true := by decide +kernel
  intro w hw
  have h2 := List.all_eq_true.mp hk w hw
  rw [h] at hw
  obtain ⟨i, -, hi⟩ := List.mem_filterMap.mp hw
  exact xin (List.mem_of_getElem? hi) h2
def RMod : String := "PairedWordsModel"
def TMod : u_T := fun k => match k with
  | 0 => ("PairedWordsModel", "thrown", "I", false)
  | 1 => ("PairedWordsModel", "pairs", "I", false)
  | 2 => ("PairedWordsModel", "lowers", "[I", false)
  | 3 => ("PairedWordsModel", "uppers", "[I", false)
  | 4 => ("PairedWordsModel", "rules", "I", false)
  | 5 => ("PairedWordsModel", "kinds", "[I", false)
  | 6 => ("PairedWordsModel", "rulePairs", "[I", false)
  | 7 => ("PairedWordsModel", "contexts", "[I", false)
  | 8 => ("PairedWordsModel", "tight", "[Z", false)
  | 9 => ("PairedWordsModel", "elements", "[I", false)
  | 10 => ("PairedWordsModel", "sets", "[I", false)
  | 11 => ("PairedWordsModel", "starred", "[Z", false)
  | 12 => ("PairedWordsModel", "entries", "I", false)
  | 13 => ("PairedWordsModel", "parts", "[I", false)
  | 14 => ("PairedWordsModel", "nexts", "[I", false)
  | 15 => ("PairedWordsModel", "spelled", "[I", false)
  | 16 => ("PairedWordsModel", "signs", "[I", false)
  | 17 => ("PairedWordsModel", "sizes", "[I", false)
  | 18 => ("PairedWordsModel", "lines", "[I", false)
  | 19 => ("PairedWordsModel", "results", "I", false)
  | 20 => ("PairedWordsModel", "resultSize", "[I", false)
  | 21 => ("PairedWordsModel", "resultSigns", "[I", false)
  | 22 => ("PairedWordsModel", "resultCount", "[I", false)
  | 23 => ("PairedWordsModel", "resultEntries", "[I", false)
  | 24 => ("PairedWordsModel", "found", "I", false)
  | 25 => ("PairedWordsModel", "foundSize", "[I", false)
  | 26 => ("PairedWordsModel", "foundSigns", "[I", false)
  | 27 => ("PairedWordsModel", "foundCount", "[I", false)
  | 28 => ("PairedWordsModel", "foundEntries", "[I", false)
  | 29 => ("PairedWordsModel", "samples", "I", false)
  | 30 => ("PairedWordsModel", "sampleSize", "[I", false)
  | 31 => ("PairedWordsModel", "sampleLines", "[I", false)
  | 32 => ("PairedWordsModel", "lowerSize", "I", false)
  | 33 => ("PairedWordsModel", "lower", "[I", false)
  | 34 => ("PairedWordsModel", "upperSize", "I", false)
  | 35 => ("PairedWordsModel", "upper", "[I", false)
  | 36 => ("PairedWordsModel", "length", "I", false)
  | 37 => ("PairedWordsModel", "row", "[I", false)
  | 38 => ("PairedWordsModel", "tried", "[I", false)
  | 39 => ("PairedWordsModel", "usedLower", "[I", false)
  | 40 => ("PairedWordsModel", "usedUpper", "[I", false)
  | _ => ("PairedWordsModel", "word", "[I", false)
theorem nmMod : ∀ a, a < 42 → ∀ b, b < 42 → a ≠ b → (TMod a).2.1 ≠ (TMod b).2.1 := by decide +kernel
theorem fdMod : ∀ k, k < 42 → ∃ t, parseFieldDescriptor (TMod k).2.2.1 = some t := fun k hk => Option.isSome_iff_exists.mp ((by decide +kernel : ∀ k, k < 42 → (parseFieldDescriptor (TMod k).2.2.1).isSome = true) k hk)
theorem lyMod : ∀ w ∈ u_ws RMod TMod 42, w ∈ xTAB := by
  have h : u_ws RMod TMod 42 = [866, 868, 870, 872, 874, 876, 878, 880, 882, 884, 886, 888, 890, 892, 894, 896, 898, 900, 902, 904, 906, 908, 910, 912, 914, 916, 918, 920, 922, 924, 926, 928, 930, 932, 934, 936, 938, 940, 942, 944, 946, 948].filterMap (fun i => tables_1[i]?) := by decide +kernel
  have hk : (u_ws RMod TMod 42).all xwk = true := by decide +kernel
  intro w hw
  have h2 := List.all_eq_true.mp hk w hw
  rw [h] at hw
  obtain ⟨i, -, hi⟩ := List.mem_filterMap.mp hw
  exact xin (List.mem_of_getElem? hi) h2
abbrev xcl : List vw_C := [(RLine, TLine, 2), (RPairs, TPairs, 3), (RPatt, TPatt, 6), (RResu, TResu, 3), (RRule, TRule, 9), (RSamp, TSamp, 3), (RComp, TComp, 9), (RWrit, TWrit, 7), (RLexi, TLexi, 6), (RPW, TPW, 10), (RMod, TMod, 42)]
/-! the methods: name, code, locals, answer, handlers -/
abbrev bPW_init : ByteArray := prog_1_method_1_code
def yPW_init : MethodName := ⟨"PairedWords", "<init>", "()V"⟩
abbrev mPW_init : MethodName × ByteArray × Nat × Option FieldType × List (Nat × Nat × Nat × Nat) := (yPW_init, bPW_init, 1, (Option.none : Option Jvm.ClassFile.FieldType), [])
abbrev bPW_pair : ByteArray := prog_1_method_2_code
def yPW_pair : MethodName := ⟨"PairedWords", "pair", "(II)I"⟩
abbrev mPW_pair : MethodName × ByteArray × Nat × Option FieldType × List (Nat × Nat × Nat × Nat) := (yPW_pair, bPW_pair, 4, (Option.some Jvm.ClassFile.FieldType.int), [])
abbrev bPW_rule : ByteArray := prog_1_method_3_code
def yPW_rule : MethodName := ⟨"PairedWords", "rule", "(II)I"⟩
abbrev mPW_rule : MethodName × ByteArray × Nat × Option FieldType × List (Nat × Nat × Nat × Nat) := (yPW_rule, bPW_rule, 4, (Option.some Jvm.ClassFile.FieldType.int), [])
abbrev bPW_context : ByteArray := prog_1_method_4_code
def yPW_context : MethodName := ⟨"PairedWords", "context", "(IZZ)I"⟩
abbrev mPW_context : MethodName × ByteArray × Nat × Option FieldType × List (Nat × Nat × Nat × Nat) := (yPW_context, bPW_context, 4, (Option.some Jvm.ClassFile.FieldType.int), [])
abbrev bPW_element : ByteArray := prog_1_method_5_code
def yPW_element : MethodName := ⟨"PairedWords", "element", "(IZIZ)I"⟩
abbrev mPW_element : MethodName × ByteArray × Nat × Option FieldType × List (Nat × Nat × Nat × Nat) := (yPW_element, bPW_element, 7, (Option.some Jvm.ClassFile.FieldType.int), [])
abbrev bPW_entry : ByteArray := prog_1_method_6_code
def yPW_entry : MethodName := ⟨"PairedWords", "entry", "(II)I"⟩
abbrev mPW_entry : MethodName × ByteArray × Nat × Option FieldType × List (Nat × Nat × Nat × Nat) := (yPW_entry, bPW_entry, 3, (Option.some Jvm.ClassFile.FieldType.int), [])
abbrev bPW_spell : ByteArray := prog_1_method_7_code
def yPW_spell : MethodName := ⟨"PairedWords", "spell", "(II)I"⟩
abbrev mPW_spell : MethodName × ByteArray × Nat × Option FieldType × List (Nat × Nat × Nat × Nat) := (yPW_spell, bPW_spell, 4, (Option.some Jvm.ClassFile.FieldType.int), [])
abbrev bPW_type : ByteArray := prog_1_method_8_code
def yPW_type : MethodName := ⟨"PairedWords", "type", "(ZI)I"⟩
abbrev mPW_type : MethodName × ByteArray × Nat × Option FieldType × List (Nat × Nat × Nat × Nat) := (yPW_type, bPW_type, 4, (Option.some Jvm.ClassFile.FieldType.int), [])
abbrev bPW_wipe : ByteArray := prog_1_method_9_code
def yPW_wipe : MethodName := ⟨"PairedWords", "wipe", "(Z)I"⟩
abbrev mPW_wipe : MethodName × ByteArray × Nat × Option FieldType × List (Nat × Nat × Nat × Nat) := (yPW_wipe, bPW_wipe, 4, (Option.some Jvm.ClassFile.FieldType.int), [])
abbrev bPW_belong : ByteArray := prog_1_method_10_code
def yPW_belong : MethodName := ⟨"PairedWords", "belong", "()Z"⟩
abbrev mPW_belong : MethodName × ByteArray × Nat × Option FieldType × List (Nat × Nat × Nat × Nat) := (yPW_belong, bPW_belong, 1, (Option.some Jvm.ClassFile.FieldType.boolean), [])
abbrev bPW_blame : ByteArray := prog_1_method_11_code
def yPW_blame : MethodName := ⟨"PairedWords", "blame", "()I"⟩
abbrev mPW_blame : MethodName × ByteArray × Nat × Option FieldType × List (Nat × Nat × Nat × Nat) := (yPW_blame, bPW_blame, 1, (Option.some Jvm.ClassFile.FieldType.int), [])
abbrev bPW_write : ByteArray := prog_1_method_12_code
def yPW_write : MethodName := ⟨"PairedWords", "write", "()I"⟩
abbrev mPW_write : MethodName × ByteArray × Nat × Option FieldType × List (Nat × Nat × Nat × Nat) := (yPW_write, bPW_write, 1, (Option.some Jvm.ClassFile.FieldType.int), [])
abbrev bPW_analyse : ByteArray := prog_1_method_13_code
def yPW_analyse : MethodName := ⟨"PairedWords", "analyse", "()I"⟩
abbrev mPW_analyse : MethodName × ByteArray × Nat × Option FieldType × List (Nat × Nat × Nat × Nat) := (yPW_analyse, bPW_analyse, 1, (Option.some Jvm.ClassFile.FieldType.int), [])
abbrev bPW_length : ByteArray := prog_1_method_14_code
def yPW_length : MethodName := ⟨"PairedWords", "length", "(IZ)I"⟩
abbrev mPW_length : MethodName × ByteArray × Nat × Option FieldType × List (Nat × Nat × Nat × Nat) := (yPW_length, bPW_length, 3, (Option.some Jvm.ClassFile.FieldType.int), [])
abbrev bPW_result : ByteArray := prog_1_method_15_code
def yPW_result : MethodName := ⟨"PairedWords", "result", "(IIZ)I"⟩
abbrev mPW_result : MethodName × ByteArray × Nat × Option FieldType × List (Nat × Nat × Nat × Nat) := (yPW_result, bPW_result, 5, (Option.some Jvm.ClassFile.FieldType.int), [])
abbrev bPW_sample : ByteArray := prog_1_method_16_code
def yPW_sample : MethodName := ⟨"PairedWords", "sample", "()I"⟩
abbrev mPW_sample : MethodName × ByteArray × Nat × Option FieldType × List (Nat × Nat × Nat × Nat) := (yPW_sample, bPW_sample, 1, (Option.some Jvm.ClassFile.FieldType.int), [])
abbrev bPW_check : ByteArray := prog_1_method_17_code
def yPW_check : MethodName := ⟨"PairedWords", "check", "()I"⟩
abbrev mPW_check : MethodName × ByteArray × Nat × Option FieldType × List (Nat × Nat × Nat × Nat) := (yPW_check, bPW_check, 2, (Option.some Jvm.ClassFile.FieldType.int), [])
abbrev bPW_isSign : ByteArray := prog_1_method_18_code
def yPW_isSign : MethodName := ⟨"PairedWords", "isSign", "(I)Z"⟩
abbrev mPW_isSign : MethodName × ByteArray × Nat × Option FieldType × List (Nat × Nat × Nat × Nat) := (yPW_isSign, bPW_isSign, 1, (Option.some Jvm.ClassFile.FieldType.boolean), [])
abbrev bPW_isSignOrEmpty : ByteArray := prog_1_method_19_code
def yPW_isSignOrEmpty : MethodName := ⟨"PairedWords", "isSignOrEmpty", "(I)Z"⟩
abbrev mPW_isSignOrEmpty : MethodName × ByteArray × Nat × Option FieldType × List (Nat × Nat × Nat × Nat) := (yPW_isSignOrEmpty, bPW_isSignOrEmpty, 1, (Option.some Jvm.ClassFile.FieldType.boolean), [])
abbrev bPW_isPart : ByteArray := prog_1_method_20_code
def yPW_isPart : MethodName := ⟨"PairedWords", "isPart", "(I)Z"⟩
abbrev mPW_isPart : MethodName × ByteArray × Nat × Option FieldType × List (Nat × Nat × Nat × Nat) := (yPW_isPart, bPW_isPart, 1, (Option.some Jvm.ClassFile.FieldType.boolean), [])
abbrev bMod_init : ByteArray := prog_13_method_1_code
def yMod_init : MethodName := ⟨"PairedWordsModel", "<init>", "()V"⟩
abbrev mMod_init : MethodName × ByteArray × Nat × Option FieldType × List (Nat × Nat × Nat × Nat) := (yMod_init, bMod_init, 1, (Option.none : Option Jvm.ClassFile.FieldType), [])
abbrev bMod_thrown : ByteArray := prog_13_method_2_code
def yMod_thrown : MethodName := ⟨"PairedWordsModel", "thrown", "()I"⟩
abbrev mMod_thrown : MethodName × ByteArray × Nat × Option FieldType × List (Nat × Nat × Nat × Nat) := (yMod_thrown, bMod_thrown, 1, (Option.some Jvm.ClassFile.FieldType.int), [])
abbrev bMod_noSign : ByteArray := prog_13_method_3_code
def yMod_noSign : MethodName := ⟨"PairedWordsModel", "noSign", "(II)Z"⟩
abbrev mMod_noSign : MethodName × ByteArray × Nat × Option FieldType × List (Nat × Nat × Nat × Nat) := (yMod_noSign, bMod_noSign, 3, (Option.some Jvm.ClassFile.FieldType.boolean), [])
abbrev bMod_pair : ByteArray := prog_13_method_4_code
def yMod_pair : MethodName := ⟨"PairedWordsModel", "pair", "(II)I"⟩
abbrev mMod_pair : MethodName × ByteArray × Nat × Option FieldType × List (Nat × Nat × Nat × Nat) := (yMod_pair, bMod_pair, 6, (Option.some Jvm.ClassFile.FieldType.int), [])
abbrev bMod_rule : ByteArray := prog_13_method_5_code
def yMod_rule : MethodName := ⟨"PairedWordsModel", "rule", "(II)I"⟩
abbrev mMod_rule : MethodName × ByteArray × Nat × Option FieldType × List (Nat × Nat × Nat × Nat) := (yMod_rule, bMod_rule, 3, (Option.some Jvm.ClassFile.FieldType.int), [])
abbrev bMod_noRule : ByteArray := prog_13_method_6_code
def yMod_noRule : MethodName := ⟨"PairedWordsModel", "noRule", "(I)Z"⟩
abbrev mMod_noRule : MethodName × ByteArray × Nat × Option FieldType × List (Nat × Nat × Nat × Nat) := (yMod_noRule, bMod_noRule, 2, (Option.some Jvm.ClassFile.FieldType.boolean), [])
abbrev bMod_context : ByteArray := prog_13_method_7_code
def yMod_context : MethodName := ⟨"PairedWordsModel", "context", "(IZZ)I"⟩
abbrev mMod_context : MethodName × ByteArray × Nat × Option FieldType × List (Nat × Nat × Nat × Nat) := (yMod_context, bMod_context, 5, (Option.some Jvm.ClassFile.FieldType.int), [])
abbrev bMod_element : ByteArray := prog_13_method_8_code
def yMod_element : MethodName := ⟨"PairedWordsModel", "element", "(IZIZ)I"⟩
abbrev mMod_element : MethodName × ByteArray × Nat × Option FieldType × List (Nat × Nat × Nat × Nat) := (yMod_element, bMod_element, 7, (Option.some Jvm.ClassFile.FieldType.int), [])
abbrev bMod_entry : ByteArray := prog_13_method_9_code
def yMod_entry : MethodName := ⟨"PairedWordsModel", "entry", "(II)I"⟩
abbrev mMod_entry : MethodName × ByteArray × Nat × Option FieldType × List (Nat × Nat × Nat × Nat) := (yMod_entry, bMod_entry, 3, (Option.some Jvm.ClassFile.FieldType.int), [])
abbrev bMod_spell : ByteArray := prog_13_method_10_code
def yMod_spell : MethodName := ⟨"PairedWordsModel", "spell", "(II)I"⟩
abbrev mMod_spell : MethodName × ByteArray × Nat × Option FieldType × List (Nat × Nat × Nat × Nat) := (yMod_spell, bMod_spell, 3, (Option.some Jvm.ClassFile.FieldType.int), [])
abbrev bMod_type : ByteArray := prog_13_method_11_code
def yMod_type : MethodName := ⟨"PairedWordsModel", "type", "(ZI)I"⟩
abbrev mMod_type : MethodName × ByteArray × Nat × Option FieldType × List (Nat × Nat × Nat × Nat) := (yMod_type, bMod_type, 4, (Option.some Jvm.ClassFile.FieldType.int), [])
abbrev bMod_wipe : ByteArray := prog_13_method_12_code
def yMod_wipe : MethodName := ⟨"PairedWordsModel", "wipe", "(Z)I"⟩
abbrev mMod_wipe : MethodName × ByteArray × Nat × Option FieldType × List (Nat × Nat × Nat × Nat) := (yMod_wipe, bMod_wipe, 3, (Option.some Jvm.ClassFile.FieldType.int), [])
abbrev bMod_inSet : ByteArray := prog_13_method_13_code
def yMod_inSet : MethodName := ⟨"PairedWordsModel", "inSet", "(II)Z"⟩
abbrev mMod_inSet : MethodName × ByteArray × Nat × Option FieldType × List (Nat × Nat × Nat × Nat) := (yMod_inSet, bMod_inSet, 3, (Option.some Jvm.ClassFile.FieldType.boolean), [])
abbrev bMod_allIn : ByteArray := prog_13_method_14_code
def yMod_allIn : MethodName := ⟨"PairedWordsModel", "allIn", "(III)Z"⟩
abbrev mMod_allIn : MethodName × ByteArray × Nat × Option FieldType × List (Nat × Nat × Nat × Nat) := (yMod_allIn, bMod_allIn, 6, (Option.some Jvm.ClassFile.FieldType.boolean), [])
abbrev bMod_isPart : ByteArray := prog_13_method_15_code
def yMod_isPart : MethodName := ⟨"PairedWordsModel", "isPart", "(III)Z"⟩
abbrev mMod_isPart : MethodName × ByteArray × Nat × Option FieldType × List (Nat × Nat × Nat × Nat) := (yMod_isPart, bMod_isPart, 4, (Option.some Jvm.ClassFile.FieldType.boolean), [])
abbrev bMod_isMatched : ByteArray := prog_13_method_16_code
def yMod_isMatched : MethodName := ⟨"PairedWordsModel", "isMatched", "(III)Z"⟩
abbrev mMod_isMatched : MethodName × ByteArray × Nat × Option FieldType × List (Nat × Nat × Nat × Nat) := (yMod_isMatched, bMod_isMatched, 6, (Option.some Jvm.ClassFile.FieldType.boolean), [])
abbrev bMod_holds : ByteArray := prog_13_method_17_code
def yMod_holds : MethodName := ⟨"PairedWordsModel", "holds", "(II)Z"⟩
abbrev mMod_holds : MethodName × ByteArray × Nat × Option FieldType × List (Nat × Nat × Nat × Nat) := (yMod_holds, bMod_holds, 6, (Option.some Jvm.ClassFile.FieldType.boolean), [])
abbrev bMod_isKept : ByteArray := prog_13_method_18_code
def yMod_isKept : MethodName := ⟨"PairedWordsModel", "isKept", "(I)Z"⟩
abbrev mMod_isKept : MethodName × ByteArray × Nat × Option FieldType × List (Nat × Nat × Nat × Nat) := (yMod_isKept, bMod_isKept, 7, (Option.some Jvm.ClassFile.FieldType.boolean), [])
abbrev bMod_keepsAll : ByteArray := prog_13_method_19_code
def yMod_keepsAll : MethodName := ⟨"PairedWordsModel", "keepsAll", "()Z"⟩
abbrev mMod_keepsAll : MethodName × ByteArray × Nat × Option FieldType × List (Nat × Nat × Nat × Nat) := (yMod_keepsAll, bMod_keepsAll, 3, (Option.some Jvm.ClassFile.FieldType.boolean), [])
abbrev bMod_begin : ByteArray := prog_13_method_20_code
def yMod_begin : MethodName := ⟨"PairedWordsModel", "begin", "()V"⟩
abbrev mMod_begin : MethodName × ByteArray × Nat × Option FieldType × List (Nat × Nat × Nat × Nat) := (yMod_begin, bMod_begin, 1, (Option.none : Option Jvm.ClassFile.FieldType), [])
abbrev bMod_mayCome : ByteArray := prog_13_method_21_code
def yMod_mayCome : MethodName := ⟨"PairedWordsModel", "mayCome", "(IZ)Z"⟩
abbrev mMod_mayCome : MethodName × ByteArray × Nat × Option FieldType × List (Nat × Nat × Nat × Nat) := (yMod_mayCome, bMod_mayCome, 6, (Option.some Jvm.ClassFile.FieldType.boolean), [])
abbrev bMod_nextAlignment : ByteArray := prog_13_method_22_code
def yMod_nextAlignment : MethodName := ⟨"PairedWordsModel", "nextAlignment", "(Z)Z"⟩
abbrev mMod_nextAlignment : MethodName × ByteArray × Nat × Option FieldType × List (Nat × Nat × Nat × Nat) := (yMod_nextAlignment, bMod_nextAlignment, 3, (Option.some Jvm.ClassFile.FieldType.boolean), [])
abbrev bMod_take : ByteArray := prog_13_method_23_code
def yMod_take : MethodName := ⟨"PairedWordsModel", "take", "([IIIII)V"⟩
abbrev mMod_take : MethodName × ByteArray × Nat × Option FieldType × List (Nat × Nat × Nat × Nat) := (yMod_take, bMod_take, 7, (Option.none : Option Jvm.ClassFile.FieldType), [])
abbrev bMod_doBelong : ByteArray := prog_13_method_24_code
def yMod_doBelong : MethodName := ⟨"PairedWordsModel", "doBelong", "()Z"⟩
abbrev mMod_doBelong : MethodName × ByteArray × Nat × Option FieldType × List (Nat × Nat × Nat × Nat) := (yMod_doBelong, bMod_doBelong, 1, (Option.some Jvm.ClassFile.FieldType.boolean), [])
abbrev bMod_belong : ByteArray := prog_13_method_25_code
def yMod_belong : MethodName := ⟨"PairedWordsModel", "belong", "()Z"⟩
abbrev mMod_belong : MethodName × ByteArray × Nat × Option FieldType × List (Nat × Nat × Nat × Nat) := (yMod_belong, bMod_belong, 1, (Option.some Jvm.ClassFile.FieldType.boolean), [])
abbrev bMod_blame : ByteArray := prog_13_method_26_code
def yMod_blame : MethodName := ⟨"PairedWordsModel", "blame", "()I"⟩
abbrev mMod_blame : MethodName × ByteArray × Nat × Option FieldType × List (Nat × Nat × Nat × Nat) := (yMod_blame, bMod_blame, 4, (Option.some Jvm.ClassFile.FieldType.int), [])
abbrev bMod_order : ByteArray := prog_13_method_27_code
def yMod_order : MethodName := ⟨"PairedWordsModel", "order", "(II)I"⟩
abbrev mMod_order : MethodName × ByteArray × Nat × Option FieldType × List (Nat × Nat × Nat × Nat) := (yMod_order, bMod_order, 4, (Option.some Jvm.ClassFile.FieldType.int), [])
abbrev bMod_put : ByteArray := prog_13_method_28_code
def yMod_put : MethodName := ⟨"PairedWordsModel", "put", "()Z"⟩
abbrev mMod_put : MethodName × ByteArray × Nat × Option FieldType × List (Nat × Nat × Nat × Nat) := (yMod_put, bMod_put, 7, (Option.some Jvm.ClassFile.FieldType.boolean), [])
abbrev bMod_finish : ByteArray := prog_13_method_29_code
def yMod_finish : MethodName := ⟨"PairedWordsModel", "finish", "()I"⟩
abbrev mMod_finish : MethodName × ByteArray × Nat × Option FieldType × List (Nat × Nat × Nat × Nat) := (yMod_finish, bMod_finish, 2, (Option.some Jvm.ClassFile.FieldType.int), [])
abbrev bMod_write : ByteArray := prog_13_method_30_code
def yMod_write : MethodName := ⟨"PairedWordsModel", "write", "()I"⟩
abbrev mMod_write : MethodName × ByteArray × Nat × Option FieldType × List (Nat × Nat × Nat × Nat) := (yMod_write, bMod_write, 5, (Option.some Jvm.ClassFile.FieldType.int), [])
abbrev bMod_isFound : ByteArray := prog_13_method_31_code
def yMod_isFound : MethodName := ⟨"PairedWordsModel", "isFound", "(I)Z"⟩
abbrev mMod_isFound : MethodName × ByteArray × Nat × Option FieldType × List (Nat × Nat × Nat × Nat) := (yMod_isFound, bMod_isFound, 9, (Option.some Jvm.ClassFile.FieldType.boolean), [])
abbrev bMod_analyse : ByteArray := prog_13_method_32_code
def yMod_analyse : MethodName := ⟨"PairedWordsModel", "analyse", "()I"⟩
abbrev mMod_analyse : MethodName × ByteArray × Nat × Option FieldType × List (Nat × Nat × Nat × Nat) := (yMod_analyse, bMod_analyse, 6, (Option.some Jvm.ClassFile.FieldType.int), [])
abbrev bMod_length : ByteArray := prog_13_method_33_code
def yMod_length : MethodName := ⟨"PairedWordsModel", "length", "(IZ)I"⟩
abbrev mMod_length : MethodName × ByteArray × Nat × Option FieldType × List (Nat × Nat × Nat × Nat) := (yMod_length, bMod_length, 3, (Option.some Jvm.ClassFile.FieldType.int), [])
abbrev bMod_result : ByteArray := prog_13_method_34_code
def yMod_result : MethodName := ⟨"PairedWordsModel", "result", "(IIZ)I"⟩
abbrev mMod_result : MethodName × ByteArray × Nat × Option FieldType × List (Nat × Nat × Nat × Nat) := (yMod_result, bMod_result, 6, (Option.some Jvm.ClassFile.FieldType.int), [])
abbrev bMod_sample : ByteArray := prog_13_method_35_code
def yMod_sample : MethodName := ⟨"PairedWordsModel", "sample", "()I"⟩
abbrev mMod_sample : MethodName × ByteArray × Nat × Option FieldType × List (Nat × Nat × Nat × Nat) := (yMod_sample, bMod_sample, 2, (Option.some Jvm.ClassFile.FieldType.int), [])
abbrev bMod_check : ByteArray := prog_13_method_36_code
def yMod_check : MethodName := ⟨"PairedWordsModel", "check", "()I"⟩
abbrev mMod_check : MethodName × ByteArray × Nat × Option FieldType × List (Nat × Nat × Nat × Nat) := (yMod_check, bMod_check, 2, (Option.some Jvm.ClassFile.FieldType.int), [])
abbrev bComp_init : ByteArray := prog_2_method_1_code
def yComp_init : MethodName := ⟨"PairedWords$Comparison", "<init>", "(LPairedWords$Pairs;LPairedWords$Rules;)V"⟩
abbrev mComp_init : MethodName × ByteArray × Nat × Option FieldType × List (Nat × Nat × Nat × Nat) := (yComp_init, bComp_init, 3, (Option.none : Option Jvm.ClassFile.FieldType), [])
abbrev bComp_finds : ByteArray := prog_2_method_2_code
def yComp_finds : MethodName := ⟨"PairedWords$Comparison", "finds", "(LPairedWords$Line;LPairedWords$Line;)Z"⟩
abbrev mComp_finds : MethodName × ByteArray × Nat × Option FieldType × List (Nat × Nat × Nat × Nat) := (yComp_finds, bComp_finds, 3, (Option.some Jvm.ClassFile.FieldType.boolean), [])
abbrev bComp_culprit : ByteArray := prog_2_method_3_code
def yComp_culprit : MethodName := ⟨"PairedWords$Comparison", "culprit", "()I"⟩
abbrev mComp_culprit : MethodName × ByteArray × Nat × Option FieldType × List (Nat × Nat × Nat × Nat) := (yComp_culprit, bComp_culprit, 2, (Option.some Jvm.ClassFile.FieldType.int), [])
abbrev bComp_takesUpper : ByteArray := prog_2_method_4_code
def yComp_takesUpper : MethodName := ⟨"PairedWords$Comparison", "takesUpper", "(II)Z"⟩
abbrev mComp_takesUpper : MethodName × ByteArray × Nat × Option FieldType × List (Nat × Nat × Nat × Nat) := (yComp_takesUpper, bComp_takesUpper, 3, (Option.some Jvm.ClassFile.FieldType.boolean), [])
abbrev bComp_mayEnd : ByteArray := prog_2_method_5_code
def yComp_mayEnd : MethodName := ⟨"PairedWords$Comparison", "mayEnd", "(I)Z"⟩
abbrev mComp_mayEnd : MethodName × ByteArray × Nat × Option FieldType × List (Nat × Nat × Nat × Nat) := (yComp_mayEnd, bComp_mayEnd, 2, (Option.some Jvm.ClassFile.FieldType.boolean), [])
abbrev bComp_meet : ByteArray := prog_2_method_6_code
def yComp_meet : MethodName := ⟨"PairedWords$Comparison", "meet", "(II)V"⟩
abbrev mComp_meet : MethodName × ByteArray × Nat × Option FieldType × List (Nat × Nat × Nat × Nat) := (yComp_meet, bComp_meet, 3, (Option.none : Option Jvm.ClassFile.FieldType), [])
abbrev bComp_isDone : ByteArray := prog_2_method_7_code
def yComp_isDone : MethodName := ⟨"PairedWords$Comparison", "isDone", "()Z"⟩
abbrev mComp_isDone : MethodName × ByteArray × Nat × Option FieldType × List (Nat × Nat × Nat × Nat) := (yComp_isDone, bComp_isDone, 1, (Option.some Jvm.ClassFile.FieldType.boolean), [])
abbrev bLexi_init : ByteArray := prog_3_method_1_code
def yLexi_init : MethodName := ⟨"PairedWords$Lexicon", "<init>", "()V"⟩
abbrev mLexi_init : MethodName × ByteArray × Nat × Option FieldType × List (Nat × Nat × Nat × Nat) := (yLexi_init, bLexi_init, 2, (Option.none : Option Jvm.ClassFile.FieldType), [])
abbrev bLexi_count : ByteArray := prog_3_method_2_code
def yLexi_count : MethodName := ⟨"PairedWords$Lexicon", "count", "()I"⟩
abbrev mLexi_count : MethodName × ByteArray × Nat × Option FieldType × List (Nat × Nat × Nat × Nat) := (yLexi_count, bLexi_count, 1, (Option.some Jvm.ClassFile.FieldType.int), [])
abbrev bLexi_signsOf : ByteArray := prog_3_method_3_code
def yLexi_signsOf : MethodName := ⟨"PairedWords$Lexicon", "signsOf", "(I)LPairedWords$Line;"⟩
abbrev mLexi_signsOf : MethodName × ByteArray × Nat × Option FieldType × List (Nat × Nat × Nat × Nat) := (yLexi_signsOf, bLexi_signsOf, 2, (Option.some (Jvm.ClassFile.FieldType.object "PairedWords$Line")), [])
abbrev bLexi_add : ByteArray := prog_3_method_4_code
def yLexi_add : MethodName := ⟨"PairedWords$Lexicon", "add", "(II)I"⟩
abbrev mLexi_add : MethodName × ByteArray × Nat × Option FieldType × List (Nat × Nat × Nat × Nat) := (yLexi_add, bLexi_add, 3, (Option.some Jvm.ClassFile.FieldType.int), [])
abbrev bLexi_goOn : ByteArray := prog_3_method_5_code
def yLexi_goOn : MethodName := ⟨"PairedWords$Lexicon", "goOn", "(IILPairedWords$Line;LPairedWords$Comparison;LPairedWords$Results;)V"⟩
abbrev mLexi_goOn : MethodName × ByteArray × Nat × Option FieldType × List (Nat × Nat × Nat × Nat) := (yLexi_goOn, bLexi_goOn, 7, (Option.none : Option Jvm.ClassFile.FieldType), [])
abbrev bLexi_put : ByteArray := prog_3_method_6_code
def yLexi_put : MethodName := ⟨"PairedWords$Lexicon", "put", "(IILPairedWords$Line;LPairedWords$Comparison;LPairedWords$Results;)V"⟩
abbrev mLexi_put : MethodName × ByteArray × Nat × Option FieldType × List (Nat × Nat × Nat × Nat) := (yLexi_put, bLexi_put, 7, (Option.none : Option Jvm.ClassFile.FieldType), [])
abbrev bLine_init : ByteArray := prog_4_method_1_code
def yLine_init : MethodName := ⟨"PairedWords$Line", "<init>", "(I)V"⟩
abbrev mLine_init : MethodName × ByteArray × Nat × Option FieldType × List (Nat × Nat × Nat × Nat) := (yLine_init, bLine_init, 2, (Option.none : Option Jvm.ClassFile.FieldType), [])
abbrev bLine_size : ByteArray := prog_4_method_2_code
def yLine_size : MethodName := ⟨"PairedWords$Line", "size", "()I"⟩
abbrev mLine_size : MethodName × ByteArray × Nat × Option FieldType × List (Nat × Nat × Nat × Nat) := (yLine_size, bLine_size, 1, (Option.some Jvm.ClassFile.FieldType.int), [])
abbrev bLine_isFull : ByteArray := prog_4_method_3_code
def yLine_isFull : MethodName := ⟨"PairedWords$Line", "isFull", "()Z"⟩
abbrev mLine_isFull : MethodName × ByteArray × Nat × Option FieldType × List (Nat × Nat × Nat × Nat) := (yLine_isFull, bLine_isFull, 1, (Option.some Jvm.ClassFile.FieldType.boolean), [])
abbrev bLine_hasRoomFor : ByteArray := prog_4_method_4_code
def yLine_hasRoomFor : MethodName := ⟨"PairedWords$Line", "hasRoomFor", "(LPairedWords$Line;)Z"⟩
abbrev mLine_hasRoomFor : MethodName × ByteArray × Nat × Option FieldType × List (Nat × Nat × Nat × Nat) := (yLine_hasRoomFor, bLine_hasRoomFor, 2, (Option.some Jvm.ClassFile.FieldType.boolean), [])
abbrev bLine_signAt : ByteArray := prog_4_method_5_code
def yLine_signAt : MethodName := ⟨"PairedWords$Line", "signAt", "(I)I"⟩
abbrev mLine_signAt : MethodName × ByteArray × Nat × Option FieldType × List (Nat × Nat × Nat × Nat) := (yLine_signAt, bLine_signAt, 2, (Option.some Jvm.ClassFile.FieldType.int), [])
abbrev bLine_add : ByteArray := prog_4_method_6_code
def yLine_add : MethodName := ⟨"PairedWords$Line", "add", "(I)I"⟩
abbrev mLine_add : MethodName × ByteArray × Nat × Option FieldType × List (Nat × Nat × Nat × Nat) := (yLine_add, bLine_add, 2, (Option.some Jvm.ClassFile.FieldType.int), [])
abbrev bLine_addAll : ByteArray := prog_4_method_7_code
def yLine_addAll : MethodName := ⟨"PairedWords$Line", "addAll", "(LPairedWords$Line;)V"⟩
abbrev mLine_addAll : MethodName × ByteArray × Nat × Option FieldType × List (Nat × Nat × Nat × Nat) := (yLine_addAll, bLine_addAll, 3, (Option.none : Option Jvm.ClassFile.FieldType), [])
abbrev bLine_cutTo : ByteArray := prog_4_method_8_code
def yLine_cutTo : MethodName := ⟨"PairedWords$Line", "cutTo", "(I)V"⟩
abbrev mLine_cutTo : MethodName × ByteArray × Nat × Option FieldType × List (Nat × Nat × Nat × Nat) := (yLine_cutTo, bLine_cutTo, 2, (Option.none : Option Jvm.ClassFile.FieldType), [])
abbrev bLine_copy : ByteArray := prog_4_method_9_code
def yLine_copy : MethodName := ⟨"PairedWords$Line", "copy", "(LPairedWords$Line;)V"⟩
abbrev mLine_copy : MethodName × ByteArray × Nat × Option FieldType × List (Nat × Nat × Nat × Nat) := (yLine_copy, bLine_copy, 2, (Option.none : Option Jvm.ClassFile.FieldType), [])
abbrev bPairs_init : ByteArray := prog_5_method_1_code
def yPairs_init : MethodName := ⟨"PairedWords$Pairs", "<init>", "()V"⟩
abbrev mPairs_init : MethodName × ByteArray × Nat × Option FieldType × List (Nat × Nat × Nat × Nat) := (yPairs_init, bPairs_init, 1, (Option.none : Option Jvm.ClassFile.FieldType), [])
abbrev bPairs_count : ByteArray := prog_5_method_2_code
def yPairs_count : MethodName := ⟨"PairedWords$Pairs", "count", "()I"⟩
abbrev mPairs_count : MethodName × ByteArray × Nat × Option FieldType × List (Nat × Nat × Nat × Nat) := (yPairs_count, bPairs_count, 1, (Option.some Jvm.ClassFile.FieldType.int), [])
abbrev bPairs_lowerOf : ByteArray := prog_5_method_3_code
def yPairs_lowerOf : MethodName := ⟨"PairedWords$Pairs", "lowerOf", "(I)I"⟩
abbrev mPairs_lowerOf : MethodName × ByteArray × Nat × Option FieldType × List (Nat × Nat × Nat × Nat) := (yPairs_lowerOf, bPairs_lowerOf, 2, (Option.some Jvm.ClassFile.FieldType.int), [])
abbrev bPairs_upperOf : ByteArray := prog_5_method_4_code
def yPairs_upperOf : MethodName := ⟨"PairedWords$Pairs", "upperOf", "(I)I"⟩
abbrev mPairs_upperOf : MethodName × ByteArray × Nat × Option FieldType × List (Nat × Nat × Nat × Nat) := (yPairs_upperOf, bPairs_upperOf, 2, (Option.some Jvm.ClassFile.FieldType.int), [])
abbrev bPairs_has : ByteArray := prog_5_method_5_code
def yPairs_has : MethodName := ⟨"PairedWords$Pairs", "has", "(II)Z"⟩
abbrev mPairs_has : MethodName × ByteArray × Nat × Option FieldType × List (Nat × Nat × Nat × Nat) := (yPairs_has, bPairs_has, 4, (Option.some Jvm.ClassFile.FieldType.boolean), [])
abbrev bPairs_hasRoomFor : ByteArray := prog_5_method_6_code
def yPairs_hasRoomFor : MethodName := ⟨"PairedWords$Pairs", "hasRoomFor", "(I)Z"⟩
abbrev mPairs_hasRoomFor : MethodName × ByteArray × Nat × Option FieldType × List (Nat × Nat × Nat × Nat) := (yPairs_hasRoomFor, bPairs_hasRoomFor, 4, (Option.some Jvm.ClassFile.FieldType.boolean), [])
abbrev bPairs_add : ByteArray := prog_5_method_7_code
def yPairs_add : MethodName := ⟨"PairedWords$Pairs", "add", "(II)I"⟩
abbrev mPairs_add : MethodName × ByteArray × Nat × Option FieldType × List (Nat × Nat × Nat × Nat) := (yPairs_add, bPairs_add, 3, (Option.some Jvm.ClassFile.FieldType.int), [])
abbrev bPatt_init : ByteArray := prog_6_method_1_code
def yPatt_init : MethodName := ⟨"PairedWords$Patterns", "<init>", "(Z)V"⟩
abbrev mPatt_init : MethodName × ByteArray × Nat × Option FieldType × List (Nat × Nat × Nat × Nat) := (yPatt_init, bPatt_init, 2, (Option.none : Option Jvm.ClassFile.FieldType), [])
abbrev bPatt_goalOf : ByteArray := prog_6_method_2_code
def yPatt_goalOf : MethodName := ⟨"PairedWords$Patterns", "goalOf", "(I)I"⟩
abbrev mPatt_goalOf : MethodName × ByteArray × Nat × Option FieldType × List (Nat × Nat × Nat × Nat) := (yPatt_goalOf, bPatt_goalOf, 1, (Option.some Jvm.ClassFile.FieldType.int), [])
abbrev bPatt_open : ByteArray := prog_6_method_3_code
def yPatt_open : MethodName := ⟨"PairedWords$Patterns", "open", "(IZ)V"⟩
abbrev mPatt_open : MethodName × ByteArray × Nat × Option FieldType × List (Nat × Nat × Nat × Nat) := (yPatt_open, bPatt_open, 3, (Option.none : Option Jvm.ClassFile.FieldType), [])
abbrev bPatt_elementsOf : ByteArray := prog_6_method_4_code
def yPatt_elementsOf : MethodName := ⟨"PairedWords$Patterns", "elementsOf", "(I)I"⟩
abbrev mPatt_elementsOf : MethodName × ByteArray × Nat × Option FieldType × List (Nat × Nat × Nat × Nat) := (yPatt_elementsOf, bPatt_elementsOf, 2, (Option.some Jvm.ClassFile.FieldType.int), [])
abbrev bPatt_addElement : ByteArray := prog_6_method_5_code
def yPatt_addElement : MethodName := ⟨"PairedWords$Patterns", "addElement", "(IIZ)I"⟩
abbrev mPatt_addElement : MethodName × ByteArray × Nat × Option FieldType × List (Nat × Nat × Nat × Nat) := (yPatt_addElement, bPatt_addElement, 6, (Option.some Jvm.ClassFile.FieldType.int), [])
abbrev bPatt_lowerElements : ByteArray := prog_6_method_6_code
def yPatt_lowerElements : MethodName := ⟨"PairedWords$Patterns", "lowerElements", "(I)V"⟩
abbrev mPatt_lowerElements : MethodName × ByteArray × Nat × Option FieldType × List (Nat × Nat × Nat × Nat) := (yPatt_lowerElements, bPatt_lowerElements, 3, (Option.none : Option Jvm.ClassFile.FieldType), [])
abbrev bPatt_lowered : ByteArray := prog_6_method_7_code
def yPatt_lowered : MethodName := ⟨"PairedWords$Patterns", "lowered", "(II)I"⟩
abbrev mPatt_lowered : MethodName × ByteArray × Nat × Option FieldType × List (Nat × Nat × Nat × Nat) := (yPatt_lowered, bPatt_lowered, 3, (Option.some Jvm.ClassFile.FieldType.int), [])
abbrev bPatt_first : ByteArray := prog_6_method_8_code
def yPatt_first : MethodName := ⟨"PairedWords$Patterns", "first", "()I"⟩
abbrev mPatt_first : MethodName × ByteArray × Nat × Option FieldType × List (Nat × Nat × Nat × Nat) := (yPatt_first, bPatt_first, 1, (Option.some Jvm.ClassFile.FieldType.int), [])
abbrev bPatt_next : ByteArray := prog_6_method_9_code
def yPatt_next : MethodName := ⟨"PairedWords$Patterns", "next", "(II)I"⟩
abbrev mPatt_next : MethodName × ByteArray × Nat × Option FieldType × List (Nat × Nat × Nat × Nat) := (yPatt_next, bPatt_next, 5, (Option.some Jvm.ClassFile.FieldType.int), [])
abbrev bPatt_skipStarred : ByteArray := prog_6_method_10_code
def yPatt_skipStarred : MethodName := ⟨"PairedWords$Patterns", "skipStarred", "(I)I"⟩
abbrev mPatt_skipStarred : MethodName × ByteArray × Nat × Option FieldType × List (Nat × Nat × Nat × Nat) := (yPatt_skipStarred, bPatt_skipStarred, 4, (Option.some Jvm.ClassFile.FieldType.int), [])
abbrev bResu_init : ByteArray := prog_7_method_1_code
def yResu_init : MethodName := ⟨"PairedWords$Results", "<init>", "()V"⟩
abbrev mResu_init : MethodName × ByteArray × Nat × Option FieldType × List (Nat × Nat × Nat × Nat) := (yResu_init, bResu_init, 1, (Option.none : Option Jvm.ClassFile.FieldType), [])
abbrev bResu_count : ByteArray := prog_7_method_2_code
def yResu_count : MethodName := ⟨"PairedWords$Results", "count", "()I"⟩
abbrev mResu_count : MethodName × ByteArray × Nat × Option FieldType × List (Nat × Nat × Nat × Nat) := (yResu_count, bResu_count, 1, (Option.some Jvm.ClassFile.FieldType.int), [])
abbrev bResu_isTooMany : ByteArray := prog_7_method_3_code
def yResu_isTooMany : MethodName := ⟨"PairedWords$Results", "isTooMany", "()Z"⟩
abbrev mResu_isTooMany : MethodName × ByteArray × Nat × Option FieldType × List (Nat × Nat × Nat × Nat) := (yResu_isTooMany, bResu_isTooMany, 1, (Option.some Jvm.ClassFile.FieldType.boolean), [])
abbrev bResu_clear : ByteArray := prog_7_method_4_code
def yResu_clear : MethodName := ⟨"PairedWords$Results", "clear", "()V"⟩
abbrev mResu_clear : MethodName × ByteArray × Nat × Option FieldType × List (Nat × Nat × Nat × Nat) := (yResu_clear, bResu_clear, 1, (Option.none : Option Jvm.ClassFile.FieldType), [])
abbrev bResu_copy : ByteArray := prog_7_method_5_code
def yResu_copy : MethodName := ⟨"PairedWords$Results", "copy", "(LPairedWords$Results;)V"⟩
abbrev mResu_copy : MethodName × ByteArray × Nat × Option FieldType × List (Nat × Nat × Nat × Nat) := (yResu_copy, bResu_copy, 2, (Option.none : Option Jvm.ClassFile.FieldType), [])
abbrev bResu_add : ByteArray := prog_7_method_6_code
def yResu_add : MethodName := ⟨"PairedWords$Results", "add", "(J)V"⟩
abbrev mResu_add : MethodName × ByteArray × Nat × Option FieldType × List (Nat × Nat × Nat × Nat) := (yResu_add, bResu_add, 5, (Option.none : Option Jvm.ClassFile.FieldType), [])
abbrev bResu_keyOf : ByteArray := prog_7_method_7_code
def yResu_keyOf : MethodName := ⟨"PairedWords$Results", "keyOf", "(LPairedWords$Line;[II)J"⟩
abbrev mResu_keyOf : MethodName × ByteArray × Nat × Option FieldType × List (Nat × Nat × Nat × Nat) := (yResu_keyOf, bResu_keyOf, 6, (Option.some Jvm.ClassFile.FieldType.long), [])
abbrev bResu_signsOf : ByteArray := prog_7_method_8_code
def yResu_signsOf : MethodName := ⟨"PairedWords$Results", "signsOf", "(I)I"⟩
abbrev mResu_signsOf : MethodName × ByteArray × Nat × Option FieldType × List (Nat × Nat × Nat × Nat) := (yResu_signsOf, bResu_signsOf, 2, (Option.some Jvm.ClassFile.FieldType.int), [])
abbrev bResu_signOf : ByteArray := prog_7_method_9_code
def yResu_signOf : MethodName := ⟨"PairedWords$Results", "signOf", "(II)I"⟩
abbrev mResu_signOf : MethodName × ByteArray × Nat × Option FieldType × List (Nat × Nat × Nat × Nat) := (yResu_signOf, bResu_signOf, 3, (Option.some Jvm.ClassFile.FieldType.int), [])
abbrev bResu_entriesOf : ByteArray := prog_7_method_10_code
def yResu_entriesOf : MethodName := ⟨"PairedWords$Results", "entriesOf", "(I)I"⟩
abbrev mResu_entriesOf : MethodName × ByteArray × Nat × Option FieldType × List (Nat × Nat × Nat × Nat) := (yResu_entriesOf, bResu_entriesOf, 2, (Option.some Jvm.ClassFile.FieldType.int), [])
abbrev bResu_entryOf : ByteArray := prog_7_method_11_code
def yResu_entryOf : MethodName := ⟨"PairedWords$Results", "entryOf", "(II)I"⟩
abbrev mResu_entryOf : MethodName × ByteArray × Nat × Option FieldType × List (Nat × Nat × Nat × Nat) := (yResu_entryOf, bResu_entryOf, 3, (Option.some Jvm.ClassFile.FieldType.int), [])
abbrev bResu_digitOf : ByteArray := prog_7_method_12_code
def yResu_digitOf : MethodName := ⟨"PairedWords$Results", "digitOf", "(II)I"⟩
abbrev mResu_digitOf : MethodName × ByteArray × Nat × Option FieldType × List (Nat × Nat × Nat × Nat) := (yResu_digitOf, bResu_digitOf, 5, (Option.some Jvm.ClassFile.FieldType.int), [])
abbrev bRule_init : ByteArray := prog_8_method_1_code
def yRule_init : MethodName := ⟨"PairedWords$Rules", "<init>", "()V"⟩
abbrev mRule_init : MethodName × ByteArray × Nat × Option FieldType × List (Nat × Nat × Nat × Nat) := (yRule_init, bRule_init, 1, (Option.none : Option Jvm.ClassFile.FieldType), [])
abbrev bRule_count : ByteArray := prog_8_method_2_code
def yRule_count : MethodName := ⟨"PairedWords$Rules", "count", "()I"⟩
abbrev mRule_count : MethodName × ByteArray × Nat × Option FieldType × List (Nat × Nat × Nat × Nat) := (yRule_count, bRule_count, 1, (Option.some Jvm.ClassFile.FieldType.int), [])
abbrev bRule_add : ByteArray := prog_8_method_3_code
def yRule_add : MethodName := ⟨"PairedWords$Rules", "add", "(II)I"⟩
abbrev mRule_add : MethodName × ByteArray × Nat × Option FieldType × List (Nat × Nat × Nat × Nat) := (yRule_add, bRule_add, 3, (Option.some Jvm.ClassFile.FieldType.int), [])
abbrev bRule_contextsOf : ByteArray := prog_8_method_4_code
def yRule_contextsOf : MethodName := ⟨"PairedWords$Rules", "contextsOf", "(I)I"⟩
abbrev mRule_contextsOf : MethodName × ByteArray × Nat × Option FieldType × List (Nat × Nat × Nat × Nat) := (yRule_contextsOf, bRule_contextsOf, 2, (Option.some Jvm.ClassFile.FieldType.int), [])
abbrev bRule_latestContextOf : ByteArray := prog_8_method_5_code
def yRule_latestContextOf : MethodName := ⟨"PairedWords$Rules", "latestContextOf", "(I)I"⟩
abbrev mRule_latestContextOf : MethodName × ByteArray × Nat × Option FieldType × List (Nat × Nat × Nat × Nat) := (yRule_latestContextOf, bRule_latestContextOf, 2, (Option.some Jvm.ClassFile.FieldType.int), [])
abbrev bRule_addContext : ByteArray := prog_8_method_6_code
def yRule_addContext : MethodName := ⟨"PairedWords$Rules", "addContext", "(IZZ)I"⟩
abbrev mRule_addContext : MethodName × ByteArray × Nat × Option FieldType × List (Nat × Nat × Nat × Nat) := (yRule_addContext, bRule_addContext, 5, (Option.some Jvm.ClassFile.FieldType.int), [])
abbrev bRule_settle : ByteArray := prog_8_method_7_code
def yRule_settle : MethodName := ⟨"PairedWords$Rules", "settle", "(LPairedWords$Pairs;)V"⟩
abbrev mRule_settle : MethodName × ByteArray × Nat × Option FieldType × List (Nat × Nat × Nat × Nat) := (yRule_settle, bRule_settle, 6, (Option.none : Option Jvm.ClassFile.FieldType), [])
abbrev bRule_asks : ByteArray := prog_8_method_8_code
def yRule_asks : MethodName := ⟨"PairedWords$Rules", "asks", "(IZ)Z"⟩
abbrev mRule_asks : MethodName × ByteArray × Nat × Option FieldType × List (Nat × Nat × Nat × Nat) := (yRule_asks, bRule_asks, 2, (Option.some Jvm.ClassFile.FieldType.boolean), [])
abbrev bRule_bars : ByteArray := prog_8_method_9_code
def yRule_bars : MethodName := ⟨"PairedWords$Rules", "bars", "(IZZ)Z"⟩
abbrev mRule_bars : MethodName × ByteArray × Nat × Option FieldType × List (Nat × Nat × Nat × Nat) := (yRule_bars, bRule_bars, 3, (Option.some Jvm.ClassFile.FieldType.boolean), [])
abbrev bRule_brokenBy : ByteArray := prog_8_method_10_code
def yRule_brokenBy : MethodName := ⟨"PairedWords$Rules", "brokenBy", "(III)I"⟩
abbrev mRule_brokenBy : MethodName × ByteArray × Nat × Option FieldType × List (Nat × Nat × Nat × Nat) := (yRule_brokenBy, bRule_brokenBy, 7, (Option.some Jvm.ClassFile.FieldType.int), [])
abbrev bSamp_init : ByteArray := prog_9_method_1_code
def ySamp_init : MethodName := ⟨"PairedWords$Samples", "<init>", "()V"⟩
abbrev mSamp_init : MethodName × ByteArray × Nat × Option FieldType × List (Nat × Nat × Nat × Nat) := (ySamp_init, bSamp_init, 2, (Option.none : Option Jvm.ClassFile.FieldType), [])
abbrev bSamp_count : ByteArray := prog_9_method_2_code
def ySamp_count : MethodName := ⟨"PairedWords$Samples", "count", "()I"⟩
abbrev mSamp_count : MethodName × ByteArray × Nat × Option FieldType × List (Nat × Nat × Nat × Nat) := (ySamp_count, bSamp_count, 1, (Option.some Jvm.ClassFile.FieldType.int), [])
abbrev bSamp_lowerOf : ByteArray := prog_9_method_3_code
def ySamp_lowerOf : MethodName := ⟨"PairedWords$Samples", "lowerOf", "(I)LPairedWords$Line;"⟩
abbrev mSamp_lowerOf : MethodName × ByteArray × Nat × Option FieldType × List (Nat × Nat × Nat × Nat) := (ySamp_lowerOf, bSamp_lowerOf, 2, (Option.some (Jvm.ClassFile.FieldType.object "PairedWords$Line")), [])
abbrev bSamp_upperOf : ByteArray := prog_9_method_4_code
def ySamp_upperOf : MethodName := ⟨"PairedWords$Samples", "upperOf", "(I)LPairedWords$Line;"⟩
abbrev mSamp_upperOf : MethodName × ByteArray × Nat × Option FieldType × List (Nat × Nat × Nat × Nat) := (ySamp_upperOf, bSamp_upperOf, 2, (Option.some (Jvm.ClassFile.FieldType.object "PairedWords$Line")), [])
abbrev bSamp_add : ByteArray := prog_9_method_5_code
def ySamp_add : MethodName := ⟨"PairedWords$Samples", "add", "(LPairedWords$Line;LPairedWords$Line;)I"⟩
abbrev mSamp_add : MethodName × ByteArray × Nat × Option FieldType × List (Nat × Nat × Nat × Nat) := (ySamp_add, bSamp_add, 3, (Option.some Jvm.ClassFile.FieldType.int), [])
abbrev bSear_init : ByteArray := prog_10_method_1_code
def ySear_init : MethodName := ⟨"PairedWords$Search", "<init>", "(LPairedWords$Pairs;LPairedWords$Rules;)V"⟩
abbrev mSear_init : MethodName × ByteArray × Nat × Option FieldType × List (Nat × Nat × Nat × Nat) := (ySear_init, bSear_init, 3, (Option.none : Option Jvm.ClassFile.FieldType), [])
abbrev bSear_goThrough : ByteArray := prog_10_method_6_code
def ySear_goThrough : MethodName := ⟨"PairedWords$Search", "goThrough", "(LPairedWords$Line;)V"⟩
abbrev mSear_goThrough : MethodName × ByteArray × Nat × Option FieldType × List (Nat × Nat × Nat × Nat) := (ySear_goThrough, bSear_goThrough, 2, (Option.none : Option Jvm.ClassFile.FieldType), [])
abbrev bSear_upperAt : ByteArray := prog_10_method_7_code
def ySear_upperAt : MethodName := ⟨"PairedWords$Search", "upperAt", "(I)I"⟩
abbrev mSear_upperAt : MethodName × ByteArray × Nat × Option FieldType × List (Nat × Nat × Nat × Nat) := (ySear_upperAt, bSear_upperAt, 2, (Option.some Jvm.ClassFile.FieldType.int), [])
abbrev bSear_extend : ByteArray := prog_10_method_8_code
def ySear_extend : MethodName := ⟨"PairedWords$Search", "extend", "(III)V"⟩
abbrev mSear_extend : MethodName × ByteArray × Nat × Option FieldType × List (Nat × Nat × Nat × Nat) := (ySear_extend, bSear_extend, 5, (Option.none : Option Jvm.ClassFile.FieldType), [])
abbrev bSear_put : ByteArray := prog_10_method_9_code
def ySear_put : MethodName := ⟨"PairedWords$Search", "put", "(IIII)V"⟩
abbrev mSear_put : MethodName × ByteArray × Nat × Option FieldType × List (Nat × Nat × Nat × Nat) := (ySear_put, bSear_put, 7, (Option.none : Option Jvm.ClassFile.FieldType), [])
abbrev bSear_fitsLower : ByteArray := prog_10_method_10_code
def ySear_fitsLower : MethodName := ⟨"PairedWords$Search", "fitsLower", "(III)Z"⟩
abbrev mSear_fitsLower : MethodName × ByteArray × Nat × Option FieldType × List (Nat × Nat × Nat × Nat) := (ySear_fitsLower, bSear_fitsLower, 5, (Option.some Jvm.ClassFile.FieldType.boolean), [])
abbrev bSear_fitsUpper : ByteArray := prog_10_method_11_code
def ySear_fitsUpper : MethodName := ⟨"PairedWords$Search", "fitsUpper", "(II)Z"⟩
abbrev mSear_fitsUpper : MethodName × ByteArray × Nat × Option FieldType × List (Nat × Nat × Nat × Nat) := (ySear_fitsUpper, bSear_fitsUpper, 4, (Option.some Jvm.ClassFile.FieldType.boolean), [])
abbrev bSear_brokenRules : ByteArray := prog_10_method_12_code
def ySear_brokenRules : MethodName := ⟨"PairedWords$Search", "brokenRules", "(I)I"⟩
abbrev mSear_brokenRules : MethodName × ByteArray × Nat × Option FieldType × List (Nat × Nat × Nat × Nat) := (ySear_brokenRules, bSear_brokenRules, 5, (Option.some Jvm.ClassFile.FieldType.int), [])
abbrev bWrit_init : ByteArray := prog_11_method_1_code
def yWrit_init : MethodName := ⟨"PairedWords$Writing", "<init>", "(LPairedWords$Pairs;LPairedWords$Rules;LPairedWords$Results;)V"⟩
abbrev mWrit_init : MethodName × ByteArray × Nat × Option FieldType × List (Nat × Nat × Nat × Nat) := (yWrit_init, bWrit_init, 4, (Option.none : Option Jvm.ClassFile.FieldType), [])
abbrev bWrit_takesUpper : ByteArray := prog_11_method_2_code
def yWrit_takesUpper : MethodName := ⟨"PairedWords$Writing", "takesUpper", "(II)Z"⟩
abbrev mWrit_takesUpper : MethodName × ByteArray × Nat × Option FieldType × List (Nat × Nat × Nat × Nat) := (yWrit_takesUpper, bWrit_takesUpper, 3, (Option.some Jvm.ClassFile.FieldType.boolean), [])
abbrev bWrit_mayEnd : ByteArray := prog_11_method_3_code
def yWrit_mayEnd : MethodName := ⟨"PairedWords$Writing", "mayEnd", "(I)Z"⟩
abbrev mWrit_mayEnd : MethodName × ByteArray × Nat × Option FieldType × List (Nat × Nat × Nat × Nat) := (yWrit_mayEnd, bWrit_mayEnd, 2, (Option.some Jvm.ClassFile.FieldType.boolean), [])
abbrev bWrit_meet : ByteArray := prog_11_method_4_code
def yWrit_meet : MethodName := ⟨"PairedWords$Writing", "meet", "(II)V"⟩
abbrev mWrit_meet : MethodName × ByteArray × Nat × Option FieldType × List (Nat × Nat × Nat × Nat) := (yWrit_meet, bWrit_meet, 4, (Option.none : Option Jvm.ClassFile.FieldType), [])
abbrev bWrit_isDone : ByteArray := prog_11_method_5_code
def yWrit_isDone : MethodName := ⟨"PairedWords$Writing", "isDone", "()Z"⟩
abbrev mWrit_isDone : MethodName × ByteArray × Nat × Option FieldType × List (Nat × Nat × Nat × Nat) := (yWrit_isDone, bWrit_isDone, 1, (Option.some Jvm.ClassFile.FieldType.boolean), [])
abbrev bLaw_pair : ByteArray := method_3_code
def yLaw_pair : MethodName := ⟨"PairedWordsLaw", "pair", "(LPairedWords;II[J)I"⟩
abbrev mLaw_pair : MethodName × ByteArray × Nat × Option FieldType × List (Nat × Nat × Nat × Nat) := (yLaw_pair, bLaw_pair, 5, (Option.some Jvm.ClassFile.FieldType.int), [((0 : Nat), (10 : Nat), (13 : Nat), (13 : Nat)), ((0 : Nat), (10 : Nat), (17 : Nat), (15 : Nat))])
abbrev bLaw_rule : ByteArray := method_4_code
def yLaw_rule : MethodName := ⟨"PairedWordsLaw", "rule", "(LPairedWords;II[J)I"⟩
abbrev mLaw_rule : MethodName × ByteArray × Nat × Option FieldType × List (Nat × Nat × Nat × Nat) := (yLaw_rule, bLaw_rule, 5, (Option.some Jvm.ClassFile.FieldType.int), [((0 : Nat), (10 : Nat), (13 : Nat), (13 : Nat)), ((0 : Nat), (10 : Nat), (17 : Nat), (15 : Nat))])
abbrev bLaw_context : ByteArray := method_5_code
def yLaw_context : MethodName := ⟨"PairedWordsLaw", "context", "(LPairedWords;IZZ[J)I"⟩
abbrev mLaw_context : MethodName × ByteArray × Nat × Option FieldType × List (Nat × Nat × Nat × Nat) := (yLaw_context, bLaw_context, 6, (Option.some Jvm.ClassFile.FieldType.int), [((0 : Nat), (12 : Nat), (15 : Nat), (13 : Nat)), ((0 : Nat), (12 : Nat), (19 : Nat), (15 : Nat))])
abbrev bLaw_element : ByteArray := method_6_code
def yLaw_element : MethodName := ⟨"PairedWordsLaw", "element", "(LPairedWords;IZIZ[J)I"⟩
abbrev mLaw_element : MethodName × ByteArray × Nat × Option FieldType × List (Nat × Nat × Nat × Nat) := (yLaw_element, bLaw_element, 7, (Option.some Jvm.ClassFile.FieldType.int), [((0 : Nat), (14 : Nat), (17 : Nat), (13 : Nat)), ((0 : Nat), (14 : Nat), (21 : Nat), (15 : Nat))])
abbrev bLaw_entry : ByteArray := method_7_code
def yLaw_entry : MethodName := ⟨"PairedWordsLaw", "entry", "(LPairedWords;II[J)I"⟩
abbrev mLaw_entry : MethodName × ByteArray × Nat × Option FieldType × List (Nat × Nat × Nat × Nat) := (yLaw_entry, bLaw_entry, 5, (Option.some Jvm.ClassFile.FieldType.int), [((0 : Nat), (10 : Nat), (13 : Nat), (13 : Nat)), ((0 : Nat), (10 : Nat), (17 : Nat), (15 : Nat))])
abbrev bLaw_spell : ByteArray := method_8_code
def yLaw_spell : MethodName := ⟨"PairedWordsLaw", "spell", "(LPairedWords;II[J)I"⟩
abbrev mLaw_spell : MethodName × ByteArray × Nat × Option FieldType × List (Nat × Nat × Nat × Nat) := (yLaw_spell, bLaw_spell, 5, (Option.some Jvm.ClassFile.FieldType.int), [((0 : Nat), (10 : Nat), (13 : Nat), (13 : Nat)), ((0 : Nat), (10 : Nat), (17 : Nat), (15 : Nat))])
abbrev bLaw_type : ByteArray := method_9_code
def yLaw_type : MethodName := ⟨"PairedWordsLaw", "type", "(LPairedWords;ZI[J)I"⟩
abbrev mLaw_type : MethodName × ByteArray × Nat × Option FieldType × List (Nat × Nat × Nat × Nat) := (yLaw_type, bLaw_type, 5, (Option.some Jvm.ClassFile.FieldType.int), [((0 : Nat), (10 : Nat), (13 : Nat), (13 : Nat)), ((0 : Nat), (10 : Nat), (17 : Nat), (15 : Nat))])
abbrev bLaw_write : ByteArray := method_10_code
def yLaw_write : MethodName := ⟨"PairedWordsLaw", "write", "(LPairedWords;[J)I"⟩
abbrev mLaw_write : MethodName × ByteArray × Nat × Option FieldType × List (Nat × Nat × Nat × Nat) := (yLaw_write, bLaw_write, 3, (Option.some Jvm.ClassFile.FieldType.int), [((0 : Nat), (8 : Nat), (11 : Nat), (15 : Nat))])
abbrev bLaw_analyse : ByteArray := method_11_code
def yLaw_analyse : MethodName := ⟨"PairedWordsLaw", "analyse", "(LPairedWords;[J)I"⟩
abbrev mLaw_analyse : MethodName × ByteArray × Nat × Option FieldType × List (Nat × Nat × Nat × Nat) := (yLaw_analyse, bLaw_analyse, 3, (Option.some Jvm.ClassFile.FieldType.int), [((0 : Nat), (8 : Nat), (11 : Nat), (15 : Nat))])
abbrev bLaw_length : ByteArray := method_12_code
def yLaw_length : MethodName := ⟨"PairedWordsLaw", "length", "(LPairedWords;IZ[J)I"⟩
abbrev mLaw_length : MethodName × ByteArray × Nat × Option FieldType × List (Nat × Nat × Nat × Nat) := (yLaw_length, bLaw_length, 5, (Option.some Jvm.ClassFile.FieldType.int), [((0 : Nat), (10 : Nat), (13 : Nat), (49 : Nat))])
abbrev bLaw_result : ByteArray := method_13_code
def yLaw_result : MethodName := ⟨"PairedWordsLaw", "result", "(LPairedWords;IIZ[J)I"⟩
abbrev mLaw_result : MethodName × ByteArray × Nat × Option FieldType × List (Nat × Nat × Nat × Nat) := (yLaw_result, bLaw_result, 6, (Option.some Jvm.ClassFile.FieldType.int), [((0 : Nat), (12 : Nat), (15 : Nat), (49 : Nat))])
abbrev bLaw_sample : ByteArray := method_14_code
def yLaw_sample : MethodName := ⟨"PairedWordsLaw", "sample", "(LPairedWords;[J)I"⟩
abbrev mLaw_sample : MethodName × ByteArray × Nat × Option FieldType × List (Nat × Nat × Nat × Nat) := (yLaw_sample, bLaw_sample, 3, (Option.some Jvm.ClassFile.FieldType.int), [((0 : Nat), (8 : Nat), (11 : Nat), (15 : Nat))])
abbrev bLaw_law : ByteArray := code
def yLaw_law : MethodName := ⟨"PairedWordsLaw", "law", "([I)Z"⟩
abbrev mLaw_law : MethodName × ByteArray × Nat × Option FieldType × List (Nat × Nat × Nat × Nat) := (yLaw_law, bLaw_law, 7, (Option.some Jvm.ClassFile.FieldType.boolean), [])
