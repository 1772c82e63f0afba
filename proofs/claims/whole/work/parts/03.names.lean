def RX0 : String := "PaperBoard$Appeal"
def TX0 : u_T := fun k => match k with
  | 0 => ("PaperBoard$Appeal", "paper", "LPaperBoard$Paper;", true)
  | 1 => ("PaperBoard$Appeal", "asked", "I", true)
  | 2 => ("PaperBoard$Appeal", "base", "I", true)
  | 3 => ("PaperBoard$Appeal", "copies", "I", true)
  | _ => ("PaperBoard$Appeal", "from", "I", false)
def tyX0 : Nat → FieldType := fun k => match k with
  | 0 => .object "PaperBoard$Paper"
  | 1 => .int
  | 2 => .int
  | 3 => .int
  | _ => .int
abbrev wsX00 : List Cond := u_ws RX0 TX0 5
theorem nmX0 : ∀ a, a < 5 → ∀ b, b < 5 → a ≠ b → (TX0 a).2.1 ≠ (TX0 b).2.1 := by decide +kernel
theorem tyX0_ok : ∀ k, k < 5 → parseFieldDescriptor (TX0 k).2.2.1 = some (tyX0 k) := by decide +kernel
abbrev cX0_init : ByteArray := prog_2_method_1_code
def yX0_init : MethodName := ⟨RX0, "<init>", "(LPaperBoard$Paper;I)V"⟩
abbrev cX0_isGranted : ByteArray := prog_2_method_2_code
def yX0_isGranted : MethodName := ⟨RX0, "isGranted", "()Z"⟩
abbrev cX0_farFrom : ByteArray := prog_2_method_3_code
def yX0_farFrom : MethodName := ⟨RX0, "farFrom", "(LPaperBoard$Appeal;)I"⟩
def RX1 : String := "PaperBoard$Breaches"
def TX1 : u_T := fun k => match k with
  | 0 => ("PaperBoard$Breaches", "all", "I", false)
  | 1 => ("PaperBoard$Breaches", "when", "I", false)
  | 2 => ("PaperBoard$Breaches", "which", "I", false)
  | 3 => ("PaperBoard$Breaches", "byOrder", "I", false)
  | _ => ("PaperBoard$Breaches", "byClause", "I", false)
def tyX1 : Nat → FieldType := fun k => match k with
  | 0 => .int
  | 1 => .int
  | 2 => .int
  | 3 => .int
  | _ => .int
abbrev wsX10 : List Cond := u_ws RX1 TX1 5
theorem nmX1 : ∀ a, a < 5 → ∀ b, b < 5 → a ≠ b → (TX1 a).2.1 ≠ (TX1 b).2.1 := by decide +kernel
theorem tyX1_ok : ∀ k, k < 5 → parseFieldDescriptor (TX1 k).2.2.1 = some (tyX1 k) := by decide +kernel
abbrev cX1_init : ByteArray := prog_3_method_1_code
def yX1_init : MethodName := ⟨RX1, "<init>", "()V"⟩
abbrev cX1_add : ByteArray := prog_3_method_2_code
def yX1_add : MethodName := ⟨RX1, "add", "(IIII)V"⟩
abbrev cX1_field : ByteArray := prog_3_method_3_code
def yX1_field : MethodName := ⟨RX1, "field", "(I)I"⟩
def RX2 : String := "PaperBoard$Ledger"
def TX2 : u_T := fun k => match k with
  | 0 => ("PaperBoard$Ledger", "rows", "[[I", true)
  | 1 => ("PaperBoard$Ledger", "anewPaper", "[I", true)
  | 2 => ("PaperBoard$Ledger", "anewMonth", "[I", true)
  | 3 => ("PaperBoard$Ledger", "anewUsed", "[I", true)
  | 4 => ("PaperBoard$Ledger", "anewWhen", "[I", true)
  | _ => ("PaperBoard$Ledger", "toldAnew", "I", false)
def tyX2 : Nat → FieldType := fun k => match k with
  | 0 => .array (.array .int)
  | 1 => .array .int
  | 2 => .array .int
  | 3 => .array .int
  | 4 => .array .int
  | _ => .int
abbrev wsX20 : List Cond := u_ws RX2 TX2 6
theorem nmX2 : ∀ a, a < 6 → ∀ b, b < 6 → a ≠ b → (TX2 a).2.1 ≠ (TX2 b).2.1 := by decide +kernel
theorem tyX2_ok : ∀ k, k < 6 → parseFieldDescriptor (TX2 k).2.2.1 = some (tyX2 k) := by decide +kernel
abbrev cX2_init : ByteArray := prog_4_method_1_code
def yX2_init : MethodName := ⟨RX2, "<init>", "()V"⟩
abbrev cX2_open : ByteArray := prog_4_method_2_code
def yX2_open : MethodName := ⟨RX2, "open", "(I)V"⟩
abbrev cX2_write : ByteArray := prog_4_method_3_code
def yX2_write : MethodName := ⟨RX2, "write", "(IIILPaperBoard$Paper;)V"⟩
abbrev cX2_put : ByteArray := prog_4_method_4_code
def yX2_put : MethodName := ⟨RX2, "put", "(IIII)V"⟩
abbrev cX2_rowsOf : ByteArray := prog_4_method_5_code
def yX2_rowsOf : MethodName := ⟨RX2, "rowsOf", "(I)[I"⟩
abbrev cX2_cell : ByteArray := prog_4_method_6_code
def yX2_cell : MethodName := ⟨RX2, "cell", "(III)I"⟩
abbrev cX2_has : ByteArray := prog_4_method_7_code
def yX2_has : MethodName := ⟨RX2, "has", "(II)Z"⟩
abbrev cX2_tellAnew : ByteArray := prog_4_method_8_code
def yX2_tellAnew : MethodName := ⟨RX2, "tellAnew", "(IIII)I"⟩
abbrev cX2_usedAsKnown : ByteArray := prog_4_method_9_code
def yX2_usedAsKnown : MethodName := ⟨RX2, "usedAsKnown", "(III)I"⟩
def RX3 : String := "PaperBoard$Offer"
def TX3 : u_T := fun k => match k with
  | 0 => ("PaperBoard$Offer", "pages", "I", false)
  | 1 => ("PaperBoard$Offer", "price", "I", false)
  | 2 => ("PaperBoard$Offer", "copies", "I", false)
  | _ => ("PaperBoard$Offer", "worth", "I", false)
def tyX3 : Nat → FieldType := fun k => match k with
  | 0 => .int
  | 1 => .int
  | 2 => .int
  | _ => .int
abbrev wsX30 : List Cond := u_ws RX3 TX3 4
theorem nmX3 : ∀ a, a < 4 → ∀ b, b < 4 → a ≠ b → (TX3 a).2.1 ≠ (TX3 b).2.1 := by decide +kernel
theorem tyX3_ok : ∀ k, k < 4 → parseFieldDescriptor (TX3 k).2.2.1 = some (tyX3 k) := by decide +kernel
abbrev cX3_init : ByteArray := prog_5_method_1_code
def yX3_init : MethodName := ⟨RX3, "<init>", "()V"⟩
abbrev cX3_clear : ByteArray := prog_5_method_2_code
def yX3_clear : MethodName := ⟨RX3, "clear", "()V"⟩
abbrev cX3_consider : ByteArray := prog_5_method_3_code
def yX3_consider : MethodName := ⟨RX3, "consider", "(III)V"⟩
abbrev cX3_isBetter : ByteArray := prog_5_method_4_code
def yX3_isBetter : MethodName := ⟨RX3, "isBetter", "(III)Z"⟩
abbrev cX3_field : ByteArray := prog_5_method_5_code
def yX3_field : MethodName := ⟨RX3, "field", "(I)I"⟩
def RX4 : String := "PaperBoard$Order"
def TX4 : u_T := fun k => match k with
  | 0 => ("PaperBoard$Order", "from", "I", true)
  | 1 => ("PaperBoard$Order", "part", "[I", false)
  | 2 => ("PaperBoard$Order", "price", "[I", false)
  | 3 => ("PaperBoard$Order", "priceClause", "I", false)
  | 4 => ("PaperBoard$Order", "pages", "[I", true)
  | 5 => ("PaperBoard$Order", "pagesClause", "[I", true)
  | 6 => ("PaperBoard$Order", "fine", "I", false)
  | 7 => ("PaperBoard$Order", "newcomers", "I", false)
  | 8 => ("PaperBoard$Order", "swapped", "I", false)
  | 9 => ("PaperBoard$Order", "waste", "I", false)
  | 10 => ("PaperBoard$Order", "least", "I", false)
  | 11 => ("PaperBoard$Order", "keep", "Z", false)
  | _ => ("PaperBoard$Order", "way", "I", false)
def tyX4 : Nat → FieldType := fun k => match k with
  | 0 => .int
  | 1 => .array .int
  | 2 => .array .int
  | 3 => .int
  | 4 => .array .int
  | 5 => .array .int
  | 6 => .int
  | 7 => .int
  | 8 => .int
  | 9 => .int
  | 10 => .int
  | 11 => .boolean
  | _ => .int
abbrev wsX40 : List Cond := u_ws RX4 TX4 13
theorem nmX4 : ∀ a, a < 13 → ∀ b, b < 13 → a ≠ b → (TX4 a).2.1 ≠ (TX4 b).2.1 := by decide +kernel
theorem tyX4_ok : ∀ k, k < 13 → parseFieldDescriptor (TX4 k).2.2.1 = some (tyX4 k) := by decide +kernel
abbrev cX4_init : ByteArray := prog_6_method_1_code
def yX4_init : MethodName := ⟨RX4, "<init>", "(I)V"⟩
abbrev cX4_pagesFor : ByteArray := prog_6_method_2_code
def yX4_pagesFor : MethodName := ⟨RX4, "pagesFor", "(I)I"⟩
abbrev cX4_pagesClauseFor : ByteArray := prog_6_method_3_code
def yX4_pagesClauseFor : MethodName := ⟨RX4, "pagesClauseFor", "(I)I"⟩
abbrev cX4_tellPages : ByteArray := prog_6_method_4_code
def yX4_tellPages : MethodName := ⟨RX4, "tellPages", "(III)V"⟩
def RX5 : String := "PaperBoard$Paper"
def TX5 : u_T := fun k => match k with
  | 0 => ("PaperBoard$Paper", "kind", "I", true)
  | 1 => ("PaperBoard$Paper", "base", "I", false)
  | 2 => ("PaperBoard$Paper", "copies", "I", false)
  | 3 => ("PaperBoard$Paper", "pages", "I", false)
  | 4 => ("PaperBoard$Paper", "price", "I", false)
  | 5 => ("PaperBoard$Paper", "points", "I", false)
  | 6 => ("PaperBoard$Paper", "coins", "I", false)
  | 7 => ("PaperBoard$Paper", "stock", "I", false)
  | 8 => ("PaperBoard$Paper", "right", "I", false)
  | 9 => ("PaperBoard$Paper", "state", "I", false)
  | 10 => ("PaperBoard$Paper", "used", "I", false)
  | 11 => ("PaperBoard$Paper", "asks", "I", false)
  | 12 => ("PaperBoard$Paper", "offers", "I", false)
  | 13 => ("PaperBoard$Paper", "loyal", "[I", true)
  | 14 => ("PaperBoard$Paper", "took", "[I", true)
  | 15 => ("PaperBoard$Paper", "breaches", "LPaperBoard$Breaches;", true)
  | _ => ("PaperBoard$Paper", "sources", "LPaperBoard$Sources;", true)
def tyX5 : Nat → FieldType := fun k => match k with
  | 0 => .int
  | 1 => .int
  | 2 => .int
  | 3 => .int
  | 4 => .int
  | 5 => .int
  | 6 => .int
  | 7 => .int
  | 8 => .int
  | 9 => .int
  | 10 => .int
  | 11 => .int
  | 12 => .int
  | 13 => .array .int
  | 14 => .array .int
  | 15 => .object "PaperBoard$Breaches"
  | _ => .object "PaperBoard$Sources"
abbrev wsX50 : List Cond := u_ws RX5 TX5 17
theorem nmX5 : ∀ a, a < 17 → ∀ b, b < 17 → a ≠ b → (TX5 a).2.1 ≠ (TX5 b).2.1 := by decide +kernel
theorem tyX5_ok : ∀ k, k < 17 → parseFieldDescriptor (TX5 k).2.2.1 = some (tyX5 k) := by decide +kernel
abbrev cX5_init : ByteArray := prog_7_method_1_code
def yX5_init : MethodName := ⟨RX5, "<init>", "(IIIII)V"⟩
abbrev cX5_isAdmitted : ByteArray := prog_7_method_2_code
def yX5_isAdmitted : MethodName := ⟨RX5, "isAdmitted", "()Z"⟩
abbrev cX5_field : ByteArray := prog_7_method_3_code
def yX5_field : MethodName := ⟨RX5, "field", "(I)I"⟩
abbrev cX5_change : ByteArray := prog_7_method_4_code
def yX5_change : MethodName := ⟨RX5, "change", "(II)I"⟩
abbrev cX5_takeFrom : ByteArray := prog_7_method_5_code
def yX5_takeFrom : MethodName := ⟨RX5, "takeFrom", "(II)V"⟩
abbrev cX5_tookFrom : ByteArray := prog_7_method_6_code
def yX5_tookFrom : MethodName := ⟨RX5, "tookFrom", "(I)I"⟩
abbrev cX5_forgetSwaps : ByteArray := prog_7_method_7_code
def yX5_forgetSwaps : MethodName := ⟨RX5, "forgetSwaps", "()V"⟩
abbrev cX5_addSize : ByteArray := prog_7_method_8_code
def yX5_addSize : MethodName := ⟨RX5, "addSize", "(LPaperBoard$Paper;)V"⟩
abbrev cX5_takeOver : ByteArray := prog_7_method_9_code
def yX5_takeOver : MethodName := ⟨RX5, "takeOver", "(LPaperBoard$Paper;)V"⟩
abbrev cX5_leave : ByteArray := prog_7_method_10_code
def yX5_leave : MethodName := ⟨RX5, "leave", "()V"⟩
def RX6 : String := "PaperBoard$Parting"
def TX6 : u_T := fun k => match k with
  | 0 => ("PaperBoard$Parting", "share", "[I", true)
  | 1 => ("PaperBoard$Parting", "weight", "[I", true)
  | _ => ("PaperBoard$Parting", "rest", "[J", true)
def tyX6 : Nat → FieldType := fun k => match k with
  | 0 => .array .int
  | 1 => .array .int
  | _ => .array .long
abbrev wsX60 : List Cond := u_ws RX6 TX6 3
theorem nmX6 : ∀ a, a < 3 → ∀ b, b < 3 → a ≠ b → (TX6 a).2.1 ≠ (TX6 b).2.1 := by decide +kernel
theorem tyX6_ok : ∀ k, k < 3 → parseFieldDescriptor (TX6 k).2.2.1 = some (tyX6 k) := by decide +kernel
abbrev cX6_init : ByteArray := prog_8_method_1_code
def yX6_init : MethodName := ⟨RX6, "<init>", "()V"⟩
abbrev cX6_shareOf : ByteArray := prog_8_method_2_code
def yX6_shareOf : MethodName := ⟨RX6, "shareOf", "(I)I"⟩
abbrev cX6_weigh : ByteArray := prog_8_method_3_code
def yX6_weigh : MethodName := ⟨RX6, "weigh", "(II)V"⟩
abbrev cX6_byBids : ByteArray := prog_8_method_4_code
def yX6_byBids : MethodName := ⟨RX6, "byBids", "(Ljava/util/ArrayList;I)V"⟩
abbrev cX6_nextBidder : ByteArray := prog_8_method_5_code
def yX6_nextBidder : MethodName := ⟨RX6, "nextBidder", "(Ljava/util/ArrayList;I)I"⟩
abbrev cX6_isBehind : ByteArray := prog_8_method_6_code
def yX6_isBehind : MethodName := ⟨RX6, "isBehind", "(Ljava/util/ArrayList;II)Z"⟩
abbrev cX6_byWeights : ByteArray := prog_8_method_7_code
def yX6_byWeights : MethodName := ⟨RX6, "byWeights", "(Ljava/util/ArrayList;IIZ)V"⟩
abbrev cX6_giveLeast : ByteArray := prog_8_method_8_code
def yX6_giveLeast : MethodName := ⟨RX6, "giveLeast", "(Ljava/util/ArrayList;II)I"⟩
abbrev cX6_giveOver : ByteArray := prog_8_method_9_code
def yX6_giveOver : MethodName := ⟨RX6, "giveOver", "(Ljava/util/ArrayList;I)V"⟩
def RX7 : String := "PaperBoard$Reader"
def TX7 : u_T := fun k => match k with
  | 0 => ("PaperBoard$Reader", "tape", "[I", true)
  | 1 => ("PaperBoard$Reader", "taped", "I", false)
  | 2 => ("PaperBoard$Reader", "size", "I", false)
  | 3 => ("PaperBoard$Reader", "sign", "I", false)
  | 4 => ("PaperBoard$Reader", "at", "I", false)
  | 5 => ("PaperBoard$Reader", "behind", "I", false)
  | 6 => ("PaperBoard$Reader", "fault", "I", false)
  | 7 => ("PaperBoard$Reader", "place", "I", false)
  | 8 => ("PaperBoard$Reader", "code", "[I", true)
  | _ => ("PaperBoard$Reader", "codes", "I", false)
def tyX7 : Nat → FieldType := fun k => match k with
  | 0 => .array .int
  | 1 => .int
  | 2 => .int
  | 3 => .int
  | 4 => .int
  | 5 => .int
  | 6 => .int
  | 7 => .int
  | 8 => .array .int
  | _ => .int
abbrev wsX70 : List Cond := u_ws RX7 TX7 10
theorem nmX7 : ∀ a, a < 10 → ∀ b, b < 10 → a ≠ b → (TX7 a).2.1 ≠ (TX7 b).2.1 := by decide +kernel
theorem tyX7_ok : ∀ k, k < 10 → parseFieldDescriptor (TX7 k).2.2.1 = some (tyX7 k) := by decide +kernel
abbrev cX7_init : ByteArray := prog_9_method_1_code
def yX7_init : MethodName := ⟨RX7, "<init>", "()V"⟩
abbrev cX7_tapeNumber : ByteArray := prog_9_method_2_code
def yX7_tapeNumber : MethodName := ⟨RX7, "tapeNumber", "(I)V"⟩
abbrev cX7_empty : ByteArray := prog_9_method_3_code
def yX7_empty : MethodName := ⟨RX7, "empty", "()V"⟩
abbrev cX7_read : ByteArray := prog_9_method_4_code
def yX7_read : MethodName := ⟨RX7, "read", "(II)LPaperBoard$Order;"⟩
abbrev cX7_fail : ByteArray := prog_9_method_5_code
def yX7_fail : MethodName := ⟨RX7, "fail", "(I)V"⟩
abbrev cX7_byteAt : ByteArray := prog_9_method_6_code
def yX7_byteAt : MethodName := ⟨RX7, "byteAt", "(I)I"⟩
abbrev cX7_isLetter : ByteArray := prog_9_method_7_code
def yX7_isLetter : MethodName := ⟨RX7, "isLetter", "(I)Z"⟩
abbrev cX7_isDigit : ByteArray := prog_9_method_8_code
def yX7_isDigit : MethodName := ⟨RX7, "isDigit", "(I)Z"⟩
abbrev cX7_next : ByteArray := prog_9_method_9_code
def yX7_next : MethodName := ⟨RX7, "next", "()V"⟩
abbrev cX7_take : ByteArray := prog_9_method_10_code
def yX7_take : MethodName := ⟨RX7, "take", "(I)V"⟩
abbrev cX7_wordAmong : ByteArray := prog_9_method_11_code
def yX7_wordAmong : MethodName := ⟨RX7, "wordAmong", "(Ljava/lang/String;)I"⟩
abbrev cX7_isWord : ByteArray := prog_9_method_12_code
def yX7_isWord : MethodName := ⟨RX7, "isWord", "(Ljava/lang/String;II)Z"⟩
abbrev cX7_takeWord : ByteArray := prog_9_method_13_code
def yX7_takeWord : MethodName := ⟨RX7, "takeWord", "(Ljava/lang/String;)I"⟩
abbrev cX7_takeNumber : ByteArray := prog_9_method_14_code
def yX7_takeNumber : MethodName := ⟨RX7, "takeNumber", "(II)I"⟩
abbrev cX7_readClause : ByteArray := prog_9_method_15_code
def yX7_readClause : MethodName := ⟨RX7, "readClause", "(LPaperBoard$Order;I)V"⟩
abbrev cX7_readPages : ByteArray := prog_9_method_16_code
def yX7_readPages : MethodName := ⟨RX7, "readPages", "(LPaperBoard$Order;I)V"⟩
abbrev cX7_formula : ByteArray := prog_9_method_17_code
def yX7_formula : MethodName := ⟨RX7, "formula", "()[I"⟩
abbrev cX7_emit : ByteArray := prog_9_method_18_code
def yX7_emit : MethodName := ⟨RX7, "emit", "(I)V"⟩
abbrev cX7_readSum : ByteArray := prog_9_method_19_code
def yX7_readSum : MethodName := ⟨RX7, "readSum", "(I)V"⟩
abbrev cX7_readProduct : ByteArray := prog_9_method_20_code
def yX7_readProduct : MethodName := ⟨RX7, "readProduct", "(I)V"⟩
abbrev cX7_readUnit : ByteArray := prog_9_method_21_code
def yX7_readUnit : MethodName := ⟨RX7, "readUnit", "(I)V"⟩
abbrev cX7_readNamed : ByteArray := prog_9_method_22_code
def yX7_readNamed : MethodName := ⟨RX7, "readNamed", "(I)V"⟩
abbrev cX7_openBracket : ByteArray := prog_9_method_23_code
def yX7_openBracket : MethodName := ⟨RX7, "openBracket", "(I)Z"⟩
abbrev cX7_readInBrackets : ByteArray := prog_9_method_24_code
def yX7_readInBrackets : MethodName := ⟨RX7, "readInBrackets", "(I)V"⟩
abbrev cX7_readTwo : ByteArray := prog_9_method_25_code
def yX7_readTwo : MethodName := ⟨RX7, "readTwo", "(I)V"⟩
abbrev cX7_readIf : ByteArray := prog_9_method_26_code
def yX7_readIf : MethodName := ⟨RX7, "readIf", "(I)V"⟩
abbrev cX7_takeRelation : ByteArray := prog_9_method_27_code
def yX7_takeRelation : MethodName := ⟨RX7, "takeRelation", "()I"⟩
def RX8 : String := "PaperBoard$Reel"
def TX8 : u_T := fun k => match k with
  | 0 => ("PaperBoard$Reel", "dry", "I", true)
  | _ => ("PaperBoard$Reel", "place", "I", false)
def tyX8 : Nat → FieldType := fun k => match k with
  | 0 => .int
  | _ => .int
abbrev wsX80 : List Cond := u_ws RX8 TX8 2
theorem nmX8 : ∀ a, a < 2 → ∀ b, b < 2 → a ≠ b → (TX8 a).2.1 ≠ (TX8 b).2.1 := by decide +kernel
theorem tyX8_ok : ∀ k, k < 2 → parseFieldDescriptor (TX8 k).2.2.1 = some (tyX8 k) := by decide +kernel
abbrev cX8_init : ByteArray := prog_10_method_1_code
def yX8_init : MethodName := ⟨RX8, "<init>", "(I)V"⟩
def RX9 : String := "PaperBoard$Sources"
def TX9 : u_T := fun k => match k with
  | 0 => ("PaperBoard$Sources", "from", "[I", true)
  | 1 => ("PaperBoard$Sources", "to", "[I", true)
  | _ => ("PaperBoard$Sources", "size", "I", false)
def tyX9 : Nat → FieldType := fun k => match k with
  | 0 => .array .int
  | 1 => .array .int
  | _ => .int
abbrev wsX90 : List Cond := u_ws RX9 TX9 3
theorem nmX9 : ∀ a, a < 3 → ∀ b, b < 3 → a ≠ b → (TX9 a).2.1 ≠ (TX9 b).2.1 := by decide +kernel
theorem tyX9_ok : ∀ k, k < 3 → parseFieldDescriptor (TX9 k).2.2.1 = some (tyX9 k) := by decide +kernel
abbrev cX9_init : ByteArray := prog_11_method_1_code
def yX9_init : MethodName := ⟨RX9, "<init>", "()V"⟩
abbrev cX9_add : ByteArray := prog_11_method_2_code
def yX9_add : MethodName := ⟨RX9, "add", "(II)I"⟩
abbrev cX9_field : ByteArray := prog_11_method_3_code
def yX9_field : MethodName := ⟨RX9, "field", "(I)I"⟩
abbrev cX9_bears : ByteArray := prog_11_method_4_code
def yX9_bears : MethodName := ⟨RX9, "bears", "(II)Z"⟩
abbrev cX9_bearers : ByteArray := prog_11_method_5_code
def yX9_bearers : MethodName := ⟨RX9, "bearers", "(I)I"⟩
abbrev cX9_mostBorne : ByteArray := prog_11_method_6_code
def yX9_mostBorne : MethodName := ⟨RX9, "mostBorne", "()I"⟩
abbrev cX9_lastAlike : ByteArray := prog_11_method_7_code
def yX9_lastAlike : MethodName := ⟨RX9, "lastAlike", "(I)I"⟩
abbrev cX9_rejected : ByteArray := prog_11_method_8_code
def yX9_rejected : MethodName := ⟨RX9, "rejected", "(I)I"⟩
def RX10 : String := "PaperBoard$Values"
def TX10 : u_T := fun k => match k with
  | _ => ("PaperBoard$Values", "stack", "[I", true)
def tyX10 : Nat → FieldType := fun k => match k with
  | _ => .array .int
abbrev wsX100 : List Cond := u_ws RX10 TX10 1
theorem nmX10 : ∀ a, a < 1 → ∀ b, b < 1 → a ≠ b → (TX10 a).2.1 ≠ (TX10 b).2.1 := by decide +kernel
theorem tyX10_ok : ∀ k, k < 1 → parseFieldDescriptor (TX10 k).2.2.1 = some (tyX10 k) := by decide +kernel
abbrev cX10_init : ByteArray := prog_12_method_1_code
def yX10_init : MethodName := ⟨RX10, "<init>", "()V"⟩
abbrev cX10_of : ByteArray := prog_12_method_2_code
def yX10_of : MethodName := ⟨RX10, "of", "([ILPaperBoard$Paper;II)I"⟩
abbrev cX10_named : ByteArray := prog_12_method_3_code
def yX10_named : MethodName := ⟨RX10, "named", "(ILPaperBoard$Paper;II)I"⟩
abbrev cX10_joined : ByteArray := prog_12_method_4_code
def yX10_joined : MethodName := ⟨RX10, "joined", "(III)I"⟩
abbrev cX10_compared : ByteArray := prog_12_method_5_code
def yX10_compared : MethodName := ⟨RX10, "compared", "(III)Z"⟩
def RX11 : String := "PaperBoard"
def TX11 : u_T := fun k => match k with
  | 0 => ("PaperBoard", "papers", "Ljava/util/ArrayList;", true)
  | 1 => ("PaperBoard", "reels", "Ljava/util/ArrayList;", true)
  | 2 => ("PaperBoard", "orders", "Ljava/util/ArrayList;", true)
  | 3 => ("PaperBoard", "appeals", "Ljava/util/ArrayList;", true)
  | 4 => ("PaperBoard", "readers", "[I", true)
  | 5 => ("PaperBoard", "wards", "I", false)
  | 6 => ("PaperBoard", "month", "I", false)
  | 7 => ("PaperBoard", "plainOrder", "LPaperBoard$Order;", true)
  | 8 => ("PaperBoard", "reader", "LPaperBoard$Reader;", true)
  | 9 => ("PaperBoard", "values", "LPaperBoard$Values;", true)
  | 10 => ("PaperBoard", "parting", "LPaperBoard$Parting;", true)
  | 11 => ("PaperBoard", "ledger", "LPaperBoard$Ledger;", true)
  | _ => ("PaperBoard", "offer", "LPaperBoard$Offer;", true)
def tyX11 : Nat → FieldType := fun k => match k with
  | 0 => .object "java/util/ArrayList"
  | 1 => .object "java/util/ArrayList"
  | 2 => .object "java/util/ArrayList"
  | 3 => .object "java/util/ArrayList"
  | 4 => .array .int
  | 5 => .int
  | 6 => .int
  | 7 => .object "PaperBoard$Order"
  | 8 => .object "PaperBoard$Reader"
  | 9 => .object "PaperBoard$Values"
  | 10 => .object "PaperBoard$Parting"
  | 11 => .object "PaperBoard$Ledger"
  | _ => .object "PaperBoard$Offer"
abbrev wsX110 : List Cond := u_ws RX11 TX11 13
theorem nmX11 : ∀ a, a < 13 → ∀ b, b < 13 → a ≠ b → (TX11 a).2.1 ≠ (TX11 b).2.1 := by decide +kernel
theorem tyX11_ok : ∀ k, k < 13 → parseFieldDescriptor (TX11 k).2.2.1 = some (tyX11 k) := by decide +kernel
abbrev cX11_init : ByteArray := prog_1_method_1_code
def yX11_init : MethodName := ⟨RX11, "<init>", "()V"⟩
abbrev cX11_paper : ByteArray := prog_1_method_2_code
def yX11_paper : MethodName := ⟨RX11, "paper", "(IIIII)I"⟩
abbrev cX11_set : ByteArray := prog_1_method_3_code
def yX11_set : MethodName := ⟨RX11, "set", "(III)I"⟩
abbrev cX11_told : ByteArray := prog_1_method_4_code
def yX11_told : MethodName := ⟨RX11, "told", "(II)I"⟩
abbrev cX11_reel : ByteArray := prog_1_method_5_code
def yX11_reel : MethodName := ⟨RX11, "reel", "(II)I"⟩
abbrev cX11_where : ByteArray := prog_1_method_6_code
def yX11_where : MethodName := ⟨RX11, "where", "(I)I"⟩
abbrev cX11_steal : ByteArray := prog_1_method_7_code
def yX11_steal : MethodName := ⟨RX11, "steal", "(I)I"⟩
abbrev cX11_find : ByteArray := prog_1_method_8_code
def yX11_find : MethodName := ⟨RX11, "find", "(I)I"⟩
abbrev cX11_ward : ByteArray := prog_1_method_9_code
def yX11_ward : MethodName := ⟨RX11, "ward", "(I)I"⟩
abbrev cX11_loyal : ByteArray := prog_1_method_10_code
def yX11_loyal : MethodName := ⟨RX11, "loyal", "(III)I"⟩
abbrev cX11_demand : ByteArray := prog_1_method_11_code
def yX11_demand : MethodName := ⟨RX11, "demand", "(II)I"⟩
abbrev cX11_feed : ByteArray := prog_1_method_12_code
def yX11_feed : MethodName := ⟨RX11, "feed", "(IIIII)I"⟩
abbrev cX11_order : ByteArray := prog_1_method_13_code
def yX11_order : MethodName := ⟨RX11, "order", "(II)I"⟩
abbrev cX11_fault : ByteArray := prog_1_method_14_code
def yX11_fault : MethodName := ⟨RX11, "fault", "()I"⟩
abbrev cX11_force : ByteArray := prog_1_method_15_code
def yX11_force : MethodName := ⟨RX11, "force", "(I)I"⟩
abbrev cX11_tells : ByteArray := prog_1_method_16_code
def yX11_tells : MethodName := ⟨RX11, "tells", "(II)I"⟩
abbrev cX11_bid : ByteArray := prog_1_method_17_code
def yX11_bid : MethodName := ⟨RX11, "bid", "(III)I"⟩
abbrev cX11_parted : ByteArray := prog_1_method_18_code
def yX11_parted : MethodName := ⟨RX11, "parted", "(II)I"⟩
abbrev cX11_months : ByteArray := prog_1_method_19_code
def yX11_months : MethodName := ⟨RX11, "months", "(I)I"⟩
abbrev cX11_swap : ByteArray := prog_1_method_20_code
def yX11_swap : MethodName := ⟨RX11, "swap", "(III)I"⟩
abbrev cX11_netted : ByteArray := prog_1_method_21_code
def yX11_netted : MethodName := ⟨RX11, "netted", "(II)I"⟩
abbrev cX11_merge : ByteArray := prog_1_method_22_code
def yX11_merge : MethodName := ⟨RX11, "merge", "(II)I"⟩
abbrev cX11_gain : ByteArray := prog_1_method_23_code
def yX11_gain : MethodName := ⟨RX11, "gain", "(II)I"⟩
abbrev cX11_breach : ByteArray := prog_1_method_24_code
def yX11_breach : MethodName := ⟨RX11, "breach", "(II)I"⟩
abbrev cX11_source : ByteArray := prog_1_method_25_code
def yX11_source : MethodName := ⟨RX11, "source", "(III)I"⟩
abbrev cX11_borne : ByteArray := prog_1_method_26_code
def yX11_borne : MethodName := ⟨RX11, "borne", "(II)I"⟩
abbrev cX11_appeal : ByteArray := prog_1_method_27_code
def yX11_appeal : MethodName := ⟨RX11, "appeal", "(II)I"⟩
abbrev cX11_alike : ByteArray := prog_1_method_28_code
def yX11_alike : MethodName := ⟨RX11, "alike", "(I)I"⟩
abbrev cX11_apart : ByteArray := prog_1_method_29_code
def yX11_apart : MethodName := ⟨RX11, "apart", "(II)I"⟩
abbrev cX11_grant : ByteArray := prog_1_method_30_code
def yX11_grant : MethodName := ⟨RX11, "grant", "(II)I"⟩
abbrev cX11_best : ByteArray := prog_1_method_31_code
def yX11_best : MethodName := ⟨RX11, "best", "(II)I"⟩
abbrev cX11_correct : ByteArray := prog_1_method_32_code
def yX11_correct : MethodName := ⟨RX11, "correct", "(III)I"⟩
abbrev cX11_row : ByteArray := prog_1_method_33_code
def yX11_row : MethodName := ⟨RX11, "row", "(IIII)I"⟩
abbrev cX11_count : ByteArray := prog_1_method_34_code
def yX11_count : MethodName := ⟨RX11, "count", "(I)I"⟩
abbrev cX11_within : ByteArray := prog_1_method_35_code
def yX11_within : MethodName := ⟨RX11, "within", "(III)Z"⟩
abbrev cX11_bounded : ByteArray := prog_1_method_36_code
def yX11_bounded : MethodName := ⟨RX11, "bounded", "(III)I"⟩
abbrev cX11_need : ByteArray := prog_1_method_37_code
def yX11_need : MethodName := ⟨RX11, "need", "(Z)V"⟩
abbrev cX11_settable : ByteArray := prog_1_method_38_code
def yX11_settable : MethodName := ⟨RX11, "settable", "(II)Z"⟩
abbrev cX11_kilogramsFor : ByteArray := prog_1_method_39_code
def yX11_kilogramsFor : MethodName := ⟨RX11, "kilogramsFor", "(II)I"⟩
abbrev cX11_mostCopies : ByteArray := prog_1_method_40_code
def yX11_mostCopies : MethodName := ⟨RX11, "mostCopies", "(II)I"⟩
abbrev cX11_paperAt : ByteArray := prog_1_method_41_code
def yX11_paperAt : MethodName := ⟨RX11, "paperAt", "(I)LPaperBoard$Paper;"⟩
abbrev cX11_reelAt : ByteArray := prog_1_method_42_code
def yX11_reelAt : MethodName := ⟨RX11, "reelAt", "(I)LPaperBoard$Reel;"⟩
abbrev cX11_appealAt : ByteArray := prog_1_method_43_code
def yX11_appealAt : MethodName := ⟨RX11, "appealAt", "(I)LPaperBoard$Appeal;"⟩
abbrev cX11_areTwoAdmitted : ByteArray := prog_1_method_44_code
def yX11_areTwoAdmitted : MethodName := ⟨RX11, "areTwoAdmitted", "(II)Z"⟩
abbrev cX11_isAdmittedAt : ByteArray := prog_1_method_45_code
def yX11_isAdmittedAt : MethodName := ⟨RX11, "isAdmittedAt", "(I)Z"⟩
abbrev cX11_papersThatAre : ByteArray := prog_1_method_46_code
def yX11_papersThatAre : MethodName := ⟨RX11, "papersThatAre", "(I)I"⟩
abbrev cX11_reelsStolen : ByteArray := prog_1_method_47_code
def yX11_reelsStolen : MethodName := ⟨RX11, "reelsStolen", "()I"⟩
abbrev cX11_pool : ByteArray := prog_1_method_48_code
def yX11_pool : MethodName := ⟨RX11, "pool", "()I"⟩
abbrev cX11_demandOf : ByteArray := prog_1_method_49_code
def yX11_demandOf : MethodName := ⟨RX11, "demandOf", "(LPaperBoard$Paper;I)I"⟩
abbrev cX11_numberInForce : ByteArray := prog_1_method_50_code
def yX11_numberInForce : MethodName := ⟨RX11, "numberInForce", "(I)I"⟩
abbrev cX11_orderNow : ByteArray := prog_1_method_51_code
def yX11_orderNow : MethodName := ⟨RX11, "orderNow", "()LPaperBoard$Order;"⟩
abbrev cX11_partValue : ByteArray := prog_1_method_52_code
def yX11_partValue : MethodName := ⟨RX11, "partValue", "(LPaperBoard$Order;LPaperBoard$Paper;)I"⟩
abbrev cX11_priceValue : ByteArray := prog_1_method_53_code
def yX11_priceValue : MethodName := ⟨RX11, "priceValue", "(LPaperBoard$Order;LPaperBoard$Paper;I)I"⟩
abbrev cX11_partPool : ByteArray := prog_1_method_54_code
def yX11_partPool : MethodName := ⟨RX11, "partPool", "(LPaperBoard$Order;I)V"⟩
abbrev cX11_weightOf : ByteArray := prog_1_method_55_code
def yX11_weightOf : MethodName := ⟨RX11, "weightOf", "(LPaperBoard$Order;LPaperBoard$Paper;I)I"⟩
abbrev cX11_goBy : ByteArray := prog_1_method_56_code
def yX11_goBy : MethodName := ⟨RX11, "goBy", "()V"⟩
abbrev cX11_takeGrants : ByteArray := prog_1_method_57_code
def yX11_takeGrants : MethodName := ⟨RX11, "takeGrants", "()V"⟩
abbrev cX11_admit : ByteArray := prog_1_method_58_code
def yX11_admit : MethodName := ⟨RX11, lw_n41, "(I)V"⟩
abbrev cX11_creditShares : ByteArray := prog_1_method_59_code
def yX11_creditShares : MethodName := ⟨RX11, "creditShares", "(I)V"⟩
abbrev cX11_giveReels : ByteArray := prog_1_method_60_code
def yX11_giveReels : MethodName := ⟨RX11, "giveReels", "()V"⟩
abbrev cX11_mostOwed : ByteArray := prog_1_method_61_code
def yX11_mostOwed : MethodName := ⟨RX11, "mostOwed", "()I"⟩
abbrev cX11_runMonth : ByteArray := prog_1_method_62_code
def yX11_runMonth : MethodName := ⟨RX11, "runMonth", "(LPaperBoard$Order;LPaperBoard$Paper;)V"⟩
abbrev cX11_payBreaches : ByteArray := prog_1_method_63_code
def yX11_payBreaches : MethodName := ⟨RX11, "payBreaches", "(LPaperBoard$Order;LPaperBoard$Paper;)V"⟩
abbrev cX11_findBest : ByteArray := prog_1_method_64_code
def yX11_findBest : MethodName := ⟨RX11, "findBest", "(LPaperBoard$Paper;LPaperBoard$Order;)V"⟩
def RX12 : String := "PaperBoardModel"
def TX12 : u_T := fun k => match k with
  | 0 => ("PaperBoardModel", "thrown", "I", false)
  | 1 => ("PaperBoardModel", "papers", "I", false)
  | 2 => ("PaperBoardModel", "month", "I", false)
  | 3 => ("PaperBoardModel", "kind", "[I", true)
  | 4 => ("PaperBoardModel", "base", "[I", true)
  | 5 => ("PaperBoardModel", "copies", "[I", true)
  | 6 => ("PaperBoardModel", "pages", "[I", true)
  | 7 => ("PaperBoardModel", "price", "[I", true)
  | 8 => ("PaperBoardModel", "points", "[I", true)
  | 9 => ("PaperBoardModel", "coins", "[I", true)
  | 10 => ("PaperBoardModel", "stock", "[I", true)
  | 11 => ("PaperBoardModel", "right", "[I", true)
  | 12 => ("PaperBoardModel", "state", "[I", true)
  | 13 => ("PaperBoardModel", "used", "[I", true)
  | 14 => ("PaperBoardModel", "bidKilograms", "[I", true)
  | 15 => ("PaperBoardModel", "bidCoins", "[I", true)
  | 16 => ("PaperBoardModel", "breaches", "[I", true)
  | 17 => ("PaperBoardModel", "breachMonth", "[I", true)
  | 18 => ("PaperBoardModel", "breachWhich", "[I", true)
  | 19 => ("PaperBoardModel", "breachOrder", "[I", true)
  | 20 => ("PaperBoardModel", "breachClause", "[I", true)
  | 21 => ("PaperBoardModel", "reels", "I", false)
  | 22 => ("PaperBoardModel", "dry", "[I", true)
  | 23 => ("PaperBoardModel", "at", "[I", true)
  | 24 => ("PaperBoardModel", "wards", "I", false)
  | 25 => ("PaperBoardModel", "readers", "[I", true)
  | 26 => ("PaperBoardModel", "loyal", "[I", true)
  | 27 => ("PaperBoardModel", "tape", "[B", true)
  | 28 => ("PaperBoardModel", "taped", "I", false)
  | 29 => ("PaperBoardModel", "orders", "I", false)
  | 30 => ("PaperBoardModel", "size", "I", false)
  | 31 => ("PaperBoardModel", "here", "I", false)
  | 32 => ("PaperBoardModel", "fault", "I", false)
  | 33 => ("PaperBoardModel", "place", "I", false)
  | 34 => ("PaperBoardModel", "open", "I", false)
  | 35 => ("PaperBoardModel", "codes", "I", false)
  | 36 => ("PaperBoardModel", "orderFrom", "[I", true)
  | 37 => ("PaperBoardModel", "clauseMany", "[I", true)
  | 38 => ("PaperBoardModel", "tellsWhat", "[I", true)
  | 39 => ("PaperBoardModel", "tellsMuch", "[I", true)
  | 40 => ("PaperBoardModel", "code", "[I", true)
  | 41 => ("PaperBoardModel", "number", "[I", true)
  | 42 => ("PaperBoardModel", "nowKind", "I", false)
  | 43 => ("PaperBoardModel", "nowBase", "I", false)
  | 44 => ("PaperBoardModel", "nowCopies", "I", false)
  | 45 => ("PaperBoardModel", "nowPages", "I", false)
  | 46 => ("PaperBoardModel", "nowPrice", "I", false)
  | 47 => ("PaperBoardModel", "nowStock", "I", false)
  | 48 => ("PaperBoardModel", "nowUsed", "I", false)
  | 49 => ("PaperBoardModel", "pile", "[I", true)
  | 50 => ("PaperBoardModel", "weights", "[I", true)
  | 51 => ("PaperBoardModel", "shares", "[I", true)
  | 52 => ("PaperBoardModel", "rests", "[J", true)
  | 53 => ("PaperBoardModel", "without", "I", false)
  | 54 => ("PaperBoardModel", "with", "I", false)
  | 55 => ("PaperBoardModel", "rows", "[I", true)
  | 56 => ("PaperBoardModel", "hasRow", "[Z", true)
  | 57 => ("PaperBoardModel", "partedNow", "[I", true)
  | 58 => ("PaperBoardModel", "came", "[I", true)
  | 59 => ("PaperBoardModel", "sources", "[I", true)
  | 60 => ("PaperBoardModel", "sourceFrom", "[I", true)
  | 61 => ("PaperBoardModel", "sourceTo", "[I", true)
  | 62 => ("PaperBoardModel", "appeals", "I", false)
  | 63 => ("PaperBoardModel", "appealer", "[I", true)
  | 64 => ("PaperBoardModel", "asked", "[I", true)
  | 65 => ("PaperBoardModel", "appealBase", "[I", true)
  | 66 => ("PaperBoardModel", "appealCopies", "[I", true)
  | 67 => ("PaperBoardModel", "appealKind", "[I", true)
  | 68 => ("PaperBoardModel", "granted", "[I", true)
  | 69 => ("PaperBoardModel", "bestPages", "I", false)
  | 70 => ("PaperBoardModel", "bestPrice", "I", false)
  | 71 => ("PaperBoardModel", "bestCopies", "I", false)
  | 72 => ("PaperBoardModel", "bestWorth", "I", false)
  | 73 => ("PaperBoardModel", "corrected", "I", false)
  | 74 => ("PaperBoardModel", "whose", "[I", true)
  | 75 => ("PaperBoardModel", "ofMonth", "[I", true)
  | 76 => ("PaperBoardModel", "usedThen", "[I", true)
  | _ => ("PaperBoardModel", "toldIn", "[I", true)
def tyX12 : Nat → FieldType := fun k => match k with
  | 0 => .int
  | 1 => .int
  | 2 => .int
  | 3 => .array .int
  | 4 => .array .int
  | 5 => .array .int
  | 6 => .array .int
  | 7 => .array .int
  | 8 => .array .int
  | 9 => .array .int
  | 10 => .array .int
  | 11 => .array .int
  | 12 => .array .int
  | 13 => .array .int
  | 14 => .array .int
  | 15 => .array .int
  | 16 => .array .int
  | 17 => .array .int
  | 18 => .array .int
  | 19 => .array .int
  | 20 => .array .int
  | 21 => .int
  | 22 => .array .int
  | 23 => .array .int
  | 24 => .int
  | 25 => .array .int
  | 26 => .array .int
  | 27 => .array .byte
  | 28 => .int
  | 29 => .int
  | 30 => .int
  | 31 => .int
  | 32 => .int
  | 33 => .int
  | 34 => .int
  | 35 => .int
  | 36 => .array .int
  | 37 => .array .int
  | 38 => .array .int
  | 39 => .array .int
  | 40 => .array .int
  | 41 => .array .int
  | 42 => .int
  | 43 => .int
  | 44 => .int
  | 45 => .int
  | 46 => .int
  | 47 => .int
  | 48 => .int
  | 49 => .array .int
  | 50 => .array .int
  | 51 => .array .int
  | 52 => .array .long
  | 53 => .int
  | 54 => .int
  | 55 => .array .int
  | 56 => .array .boolean
  | 57 => .array .int
  | 58 => .array .int
  | 59 => .array .int
  | 60 => .array .int
  | 61 => .array .int
  | 62 => .int
  | 63 => .array .int
  | 64 => .array .int
  | 65 => .array .int
  | 66 => .array .int
  | 67 => .array .int
  | 68 => .array .int
  | 69 => .int
  | 70 => .int
  | 71 => .int
  | 72 => .int
  | 73 => .int
  | 74 => .array .int
  | 75 => .array .int
  | 76 => .array .int
  | _ => .array .int
abbrev wsX120 : List Cond := u_ws RX12 TX12 78
theorem nmX12 : ∀ a, a < 78 → ∀ b, b < 78 → a ≠ b → (TX12 a).2.1 ≠ (TX12 b).2.1 := by decide +kernel
theorem tyX12_ok : ∀ k, k < 78 → parseFieldDescriptor (TX12 k).2.2.1 = some (tyX12 k) := by decide +kernel
abbrev cX12_init : ByteArray := prog_14_method_1_code
def yX12_init : MethodName := ⟨RX12, "<init>", "()V"⟩
abbrev cX12_thrown : ByteArray := prog_14_method_2_code
def yX12_thrown : MethodName := ⟨RX12, "thrown", "()I"⟩
abbrev cX12_bad : ByteArray := prog_14_method_3_code
def yX12_bad : MethodName := ⟨RX12, "bad", "(ZI)Z"⟩
abbrev cX12_in : ByteArray := prog_14_method_4_code
def yX12_in : MethodName := ⟨RX12, "in", "(III)Z"⟩
abbrev cX12_least : ByteArray := prog_14_method_5_code
def yX12_least : MethodName := ⟨RX12, "least", "(II)I"⟩
abbrev cX12_paper : ByteArray := prog_14_method_6_code
def yX12_paper : MethodName := ⟨RX12, "paper", "(IIIII)I"⟩
abbrev cX12_isPaper : ByteArray := prog_14_method_7_code
def yX12_isPaper : MethodName := ⟨RX12, "isPaper", "(I)Z"⟩
abbrev cX12_isSet : ByteArray := prog_14_method_8_code
def yX12_isSet : MethodName := ⟨RX12, "isSet", "(II)Z"⟩
abbrev cX12_set : ByteArray := prog_14_method_9_code
def yX12_set : MethodName := ⟨RX12, "set", "(III)I"⟩
abbrev cX12_told : ByteArray := prog_14_method_10_code
def yX12_told : MethodName := ⟨RX12, "told", "(II)I"⟩
abbrev cX12_reel : ByteArray := prog_14_method_11_code
def yX12_reel : MethodName := ⟨RX12, "reel", "(II)I"⟩
abbrev cX12_isReel : ByteArray := prog_14_method_12_code
def yX12_isReel : MethodName := ⟨RX12, "isReel", "(I)Z"⟩
abbrev cX12_where : ByteArray := prog_14_method_13_code
def yX12_where : MethodName := ⟨RX12, "where", "(I)I"⟩
abbrev cX12_steal : ByteArray := prog_14_method_14_code
def yX12_steal : MethodName := ⟨RX12, "steal", "(I)I"⟩
abbrev cX12_find : ByteArray := prog_14_method_15_code
def yX12_find : MethodName := ⟨RX12, "find", "(I)I"⟩
abbrev cX12_pool : ByteArray := prog_14_method_16_code
def yX12_pool : MethodName := ⟨RX12, "pool", "()I"⟩
abbrev cX12_ward : ByteArray := prog_14_method_17_code
def yX12_ward : MethodName := ⟨RX12, "ward", "(I)I"⟩
abbrev cX12_loyal : ByteArray := prog_14_method_18_code
def yX12_loyal : MethodName := ⟨RX12, "loyal", "(III)I"⟩
abbrev cX12_demandOf : ByteArray := prog_14_method_19_code
def yX12_demandOf : MethodName := ⟨RX12, "demandOf", "(II)I"⟩
abbrev cX12_demand : ByteArray := prog_14_method_20_code
def yX12_demand : MethodName := ⟨RX12, "demand", "(II)I"⟩
abbrev cX12_feed : ByteArray := prog_14_method_21_code
def yX12_feed : MethodName := ⟨RX12, "feed", "(IIIII)I"⟩
abbrev cX12_byteAt : ByteArray := prog_14_method_22_code
def yX12_byteAt : MethodName := ⟨RX12, "byteAt", "(I)I"⟩
abbrev cX12_blanks : ByteArray := prog_14_method_23_code
def yX12_blanks : MethodName := ⟨RX12, "blanks", "()V"⟩
abbrev cX12_isDigit : ByteArray := prog_14_method_24_code
def yX12_isDigit : MethodName := ⟨RX12, "isDigit", "(I)Z"⟩
abbrev cX12_wrong : ByteArray := prog_14_method_25_code
def yX12_wrong : MethodName := ⟨RX12, "wrong", "(II)V"⟩
abbrev cX12_isWord : ByteArray := prog_14_method_26_code
def yX12_isWord : MethodName := ⟨RX12, "isWord", "(Ljava/lang/String;)Z"⟩
abbrev cX12_eat : ByteArray := prog_14_method_27_code
def yX12_eat : MethodName := ⟨RX12, "eat", "(Ljava/lang/String;)Z"⟩
abbrev cX12_clauseName : ByteArray := prog_14_method_28_code
def yX12_clauseName : MethodName := ⟨RX12, "clauseName", "(I)Ljava/lang/String;"⟩
abbrev cX12_kindName : ByteArray := prog_14_method_29_code
def yX12_kindName : MethodName := ⟨RX12, "kindName", "(I)Ljava/lang/String;"⟩
abbrev cX12_wayName : ByteArray := prog_14_method_30_code
def yX12_wayName : MethodName := ⟨RX12, "wayName", "(I)Ljava/lang/String;"⟩
abbrev cX12_nameOf : ByteArray := prog_14_method_31_code
def yX12_nameOf : MethodName := ⟨RX12, "nameOf", "(I)Ljava/lang/String;"⟩
abbrev cX12_clauseHere : ByteArray := prog_14_method_32_code
def yX12_clauseHere : MethodName := ⟨RX12, "clauseHere", "()I"⟩
abbrev cX12_figures : ByteArray := prog_14_method_33_code
def yX12_figures : MethodName := ⟨RX12, "figures", "(II)I"⟩
abbrev cX12_sign : ByteArray := prog_14_method_34_code
def yX12_sign : MethodName := ⟨RX12, "sign", "(I)V"⟩
abbrev cX12_emits : ByteArray := prog_14_method_35_code
def yX12_emits : MethodName := ⟨RX12, "emits", "(II)V"⟩
abbrev cX12_opens : ByteArray := prog_14_method_36_code
def yX12_opens : MethodName := ⟨RX12, "opens", "()V"⟩
abbrev cX12_closes : ByteArray := prog_14_method_37_code
def yX12_closes : MethodName := ⟨RX12, "closes", "()V"⟩
abbrev cX12_sum : ByteArray := prog_14_method_38_code
def yX12_sum : MethodName := ⟨RX12, "sum", "()V"⟩
abbrev cX12_product : ByteArray := prog_14_method_39_code
def yX12_product : MethodName := ⟨RX12, "product", "()V"⟩
abbrev cX12_unit : ByteArray := prog_14_method_40_code
def yX12_unit : MethodName := ⟨RX12, "unit", "()V"⟩
abbrev cX12_chosen : ByteArray := prog_14_method_41_code
def yX12_chosen : MethodName := ⟨RX12, "chosen", "()V"⟩
abbrev cX12_formula : ByteArray := prog_14_method_42_code
def yX12_formula : MethodName := ⟨RX12, "formula", "(II)V"⟩
abbrev cX12_oneOf : ByteArray := prog_14_method_43_code
def yX12_oneOf : MethodName := ⟨RX12, "oneOf", "(IZ)I"⟩
abbrev cX12_clause : ByteArray := prog_14_method_44_code
def yX12_clause : MethodName := ⟨RX12, "clause", "(I)V"⟩
abbrev cX12_order : ByteArray := prog_14_method_45_code
def yX12_order : MethodName := ⟨RX12, "order", "(II)I"⟩
abbrev cX12_fault : ByteArray := prog_14_method_46_code
def yX12_fault : MethodName := ⟨RX12, "fault", "()I"⟩
abbrev cX12_forceIn : ByteArray := prog_14_method_47_code
def yX12_forceIn : MethodName := ⟨RX12, "forceIn", "(I)I"⟩
abbrev cX12_force : ByteArray := prog_14_method_48_code
def yX12_force : MethodName := ⟨RX12, "force", "(I)I"⟩
abbrev cX12_teller : ByteArray := prog_14_method_49_code
def yX12_teller : MethodName := ⟨RX12, "teller", "(I)I"⟩
abbrev cX12_without : ByteArray := prog_14_method_50_code
def yX12_without : MethodName := ⟨RX12, "without", "(I)I"⟩
abbrev cX12_much : ByteArray := prog_14_method_51_code
def yX12_much : MethodName := ⟨RX12, "much", "(I)I"⟩
abbrev cX12_means : ByteArray := prog_14_method_52_code
def yX12_means : MethodName := ⟨RX12, "means", "(I)V"⟩
abbrev cX12_named : ByteArray := prog_14_method_53_code
def yX12_named : MethodName := ⟨RX12, "named", "(I)I"⟩
abbrev cX12_worked : ByteArray := prog_14_method_54_code
def yX12_worked : MethodName := ⟨RX12, "worked", "(III)I"⟩
abbrev cX12_value : ByteArray := prog_14_method_55_code
def yX12_value : MethodName := ⟨RX12, "value", "(I)I"⟩
abbrev cX12_bounded : ByteArray := prog_14_method_56_code
def yX12_bounded : MethodName := ⟨RX12, "bounded", "(III)I"⟩
abbrev cX12_partNow : ByteArray := prog_14_method_57_code
def yX12_partNow : MethodName := ⟨RX12, "partNow", "()I"⟩
abbrev cX12_priceNow : ByteArray := prog_14_method_58_code
def yX12_priceNow : MethodName := ⟨RX12, "priceNow", "()I"⟩
abbrev cX12_tells : ByteArray := prog_14_method_59_code
def yX12_tells : MethodName := ⟨RX12, "tells", "(II)I"⟩
abbrev cX12_isIn : ByteArray := prog_14_method_60_code
def yX12_isIn : MethodName := ⟨RX12, "isIn", "(I)Z"⟩
abbrev cX12_bid : ByteArray := prog_14_method_61_code
def yX12_bid : MethodName := ⟨RX12, "bid", "(III)I"⟩
abbrev cX12_byBids : ByteArray := prog_14_method_62_code
def yX12_byBids : MethodName := ⟨RX12, "byBids", "(I)V"⟩
abbrev cX12_weightOf : ByteArray := prog_14_method_63_code
def yX12_weightOf : MethodName := ⟨RX12, "weightOf", "(II)I"⟩
abbrev cX12_parts : ByteArray := prog_14_method_64_code
def yX12_parts : MethodName := ⟨RX12, "parts", "(II)V"⟩
abbrev cX12_parted : ByteArray := prog_14_method_65_code
def yX12_parted : MethodName := ⟨RX12, "parted", "(II)I"⟩
abbrev cX12_admits : ByteArray := prog_14_method_66_code
def yX12_admits : MethodName := ⟨RX12, "admits", "()V"⟩
abbrev cX12_divides : ByteArray := prog_14_method_67_code
def yX12_divides : MethodName := ⟨RX12, "divides", "()V"⟩
abbrev cX12_hands : ByteArray := prog_14_method_68_code
def yX12_hands : MethodName := ⟨RX12, "hands", "()V"⟩
abbrev cX12_kilograms : ByteArray := prog_14_method_69_code
def yX12_kilograms : MethodName := ⟨RX12, "kilograms", "(II)I"⟩
abbrev cX12_printable : ByteArray := prog_14_method_70_code
def yX12_printable : MethodName := ⟨RX12, "printable", "(III)I"⟩
abbrev cX12_prints : ByteArray := prog_14_method_71_code
def yX12_prints : MethodName := ⟨RX12, "prints", "(I)V"⟩
abbrev cX12_breaks : ByteArray := prog_14_method_72_code
def yX12_breaks : MethodName := ⟨RX12, "breaks", "(I)V"⟩
abbrev cX12_goes : ByteArray := prog_14_method_73_code
def yX12_goes : MethodName := ⟨RX12, "goes", "()V"⟩
abbrev cX12_months : ByteArray := prog_14_method_74_code
def yX12_months : MethodName := ⟨RX12, "months", "(I)I"⟩
abbrev cX12_isTwo : ByteArray := prog_14_method_75_code
def yX12_isTwo : MethodName := ⟨RX12, "isTwo", "(II)Z"⟩
abbrev cX12_areTwo : ByteArray := prog_14_method_76_code
def yX12_areTwo : MethodName := ⟨RX12, "areTwo", "(II)Z"⟩
abbrev cX12_swap : ByteArray := prog_14_method_77_code
def yX12_swap : MethodName := ⟨RX12, "swap", "(III)I"⟩
abbrev cX12_netted : ByteArray := prog_14_method_78_code
def yX12_netted : MethodName := ⟨RX12, "netted", "(II)I"⟩
abbrev cX12_merge : ByteArray := prog_14_method_79_code
def yX12_merge : MethodName := ⟨RX12, "merge", "(II)I"⟩
abbrev cX12_gain : ByteArray := prog_14_method_80_code
def yX12_gain : MethodName := ⟨RX12, "gain", "(II)I"⟩
abbrev cX12_breach : ByteArray := prog_14_method_81_code
def yX12_breach : MethodName := ⟨RX12, "breach", "(II)I"⟩
abbrev cX12_source : ByteArray := prog_14_method_82_code
def yX12_source : MethodName := ⟨RX12, "source", "(III)I"⟩
abbrev cX12_lies : ByteArray := prog_14_method_83_code
def yX12_lies : MethodName := ⟨RX12, "lies", "(II)I"⟩
abbrev cX12_many : ByteArray := prog_14_method_84_code
def yX12_many : MethodName := ⟨RX12, "many", "(I)I"⟩
abbrev cX12_borne : ByteArray := prog_14_method_85_code
def yX12_borne : MethodName := ⟨RX12, "borne", "(II)I"⟩
abbrev cX12_appeal : ByteArray := prog_14_method_86_code
def yX12_appeal : MethodName := ⟨RX12, "appeal", "(II)I"⟩
abbrev cX12_far : ByteArray := prog_14_method_87_code
def yX12_far : MethodName := ⟨RX12, "far", "(II)I"⟩
abbrev cX12_apartOf : ByteArray := prog_14_method_88_code
def yX12_apartOf : MethodName := ⟨RX12, "apartOf", "(II)I"⟩
abbrev cX12_isAppeal : ByteArray := prog_14_method_89_code
def yX12_isAppeal : MethodName := ⟨RX12, "isAppeal", "(I)Z"⟩
abbrev cX12_alike : ByteArray := prog_14_method_90_code
def yX12_alike : MethodName := ⟨RX12, "alike", "(I)I"⟩
abbrev cX12_apart : ByteArray := prog_14_method_91_code
def yX12_apart : MethodName := ⟨RX12, "apart", "(II)I"⟩
abbrev cX12_grant : ByteArray := prog_14_method_92_code
def yX12_grant : MethodName := ⟨RX12, "grant", "(II)I"⟩
abbrev cX12_tries : ByteArray := prog_14_method_93_code
def yX12_tries : MethodName := ⟨RX12, "tries", "(IIII)V"⟩
abbrev cX12_best : ByteArray := prog_14_method_94_code
def yX12_best : MethodName := ⟨RX12, "best", "(II)I"⟩
abbrev cX12_isRow : ByteArray := prog_14_method_95_code
def yX12_isRow : MethodName := ⟨RX12, "isRow", "(II)Z"⟩
abbrev cX12_correct : ByteArray := prog_14_method_96_code
def yX12_correct : MethodName := ⟨RX12, "correct", "(III)I"⟩
abbrev cX12_row : ByteArray := prog_14_method_97_code
def yX12_row : MethodName := ⟨RX12, "row", "(IIII)I"⟩
abbrev cX12_paperMany : ByteArray := prog_14_method_98_code
def yX12_paperMany : MethodName := ⟨RX12, "paperMany", "(I)I"⟩
abbrev cX12_count : ByteArray := prog_14_method_99_code
def yX12_count : MethodName := ⟨RX12, "count", "(I)I"⟩
def RJx145de : String := "java/io/Serializable"
def TJx145de : u_T := fun k => match k with
  | _ => ("", "", "", false)
def tyJx145de : Nat → FieldType := fun k => match k with
  | _ => .int
abbrev wsJx145de0 : List Cond := u_ws RJx145de TJx145de 0
theorem nmJx145de : ∀ a, a < 0 → ∀ b, b < 0 → a ≠ b → (TJx145de a).2.1 ≠ (TJx145de b).2.1 := by decide +kernel
theorem tyJx145de_ok : ∀ k, k < 0 → parseFieldDescriptor (TJx145de k).2.2.1 = some (tyJx145de k) := by decide +kernel
def RJx9f9b0 : String := "java/lang/CharSequence"
def TJx9f9b0 : u_T := fun k => match k with
  | _ => ("", "", "", false)
def tyJx9f9b0 : Nat → FieldType := fun k => match k with
  | _ => .int
abbrev wsJx9f9b00 : List Cond := u_ws RJx9f9b0 TJx9f9b0 0
theorem nmJx9f9b0 : ∀ a, a < 0 → ∀ b, b < 0 → a ≠ b → (TJx9f9b0 a).2.1 ≠ (TJx9f9b0 b).2.1 := by decide +kernel
theorem tyJx9f9b0_ok : ∀ k, k < 0 → parseFieldDescriptor (TJx9f9b0 k).2.2.1 = some (tyJx9f9b0 k) := by decide +kernel
def RJx8e188 : String := "java/lang/Cloneable"
def TJx8e188 : u_T := fun k => match k with
  | _ => ("", "", "", false)
def tyJx8e188 : Nat → FieldType := fun k => match k with
  | _ => .int
abbrev wsJx8e1880 : List Cond := u_ws RJx8e188 TJx8e188 0
theorem nmJx8e188 : ∀ a, a < 0 → ∀ b, b < 0 → a ≠ b → (TJx8e188 a).2.1 ≠ (TJx8e188 b).2.1 := by decide +kernel
theorem tyJx8e188_ok : ∀ k, k < 0 → parseFieldDescriptor (TJx8e188 k).2.2.1 = some (tyJx8e188 k) := by decide +kernel
def RJxb160c : String := "java/lang/Comparable"
def TJxb160c : u_T := fun k => match k with
  | _ => ("", "", "", false)
def tyJxb160c : Nat → FieldType := fun k => match k with
  | _ => .int
abbrev wsJxb160c0 : List Cond := u_ws RJxb160c TJxb160c 0
theorem nmJxb160c : ∀ a, a < 0 → ∀ b, b < 0 → a ≠ b → (TJxb160c a).2.1 ≠ (TJxb160c b).2.1 := by decide +kernel
theorem tyJxb160c_ok : ∀ k, k < 0 → parseFieldDescriptor (TJxb160c k).2.2.1 = some (tyJxb160c k) := by decide +kernel
def RJ6 : String := "java/lang/Integer"
def TJ6 : u_T := fun k => match k with
  | _ => ("", "", "", false)
def tyJ6 : Nat → FieldType := fun k => match k with
  | _ => .int
abbrev wsJ60 : List Cond := u_ws RJ6 TJ6 0
theorem nmJ6 : ∀ a, a < 0 → ∀ b, b < 0 → a ≠ b → (TJ6 a).2.1 ≠ (TJ6 b).2.1 := by decide +kernel
theorem tyJ6_ok : ∀ k, k < 0 → parseFieldDescriptor (TJ6 k).2.2.1 = some (tyJ6 k) := by decide +kernel
abbrev cJ6_bitCount_0f7a4 : ByteArray := prog_23_method_49_code
def yJ6_bitCount_0f7a4 : MethodName := ⟨RJ6, "bitCount", "(I)I"⟩
def RJxab1ab : String := "java/lang/Iterable"
def TJxab1ab : u_T := fun k => match k with
  | _ => ("", "", "", false)
def tyJxab1ab : Nat → FieldType := fun k => match k with
  | _ => .int
abbrev wsJxab1ab0 : List Cond := u_ws RJxab1ab TJxab1ab 0
theorem nmJxab1ab : ∀ a, a < 0 → ∀ b, b < 0 → a ≠ b → (TJxab1ab a).2.1 ≠ (TJxab1ab b).2.1 := by decide +kernel
theorem tyJxab1ab_ok : ∀ k, k < 0 → parseFieldDescriptor (TJxab1ab k).2.2.1 = some (tyJxab1ab k) := by decide +kernel
def RJ9 : String := "java/lang/Math"
def TJ9 : u_T := fun k => match k with
  | _ => ("", "", "", false)
def tyJ9 : Nat → FieldType := fun k => match k with
  | _ => .int
abbrev wsJ90 : List Cond := u_ws RJ9 TJ9 0
theorem nmJ9 : ∀ a, a < 0 → ∀ b, b < 0 → a ≠ b → (TJ9 a).2.1 ≠ (TJ9 b).2.1 := by decide +kernel
theorem tyJ9_ok : ∀ k, k < 0 → parseFieldDescriptor (TJ9 k).2.2.1 = some (tyJ9 k) := by decide +kernel
abbrev cJ9_abs_0f7a4 : ByteArray := prog_25_method_59_code
def yJ9_abs_0f7a4 : MethodName := ⟨RJ9, "abs", "(I)I"⟩
abbrev cJ9_max_7cf53 : ByteArray := prog_25_method_65_code
def yJ9_max_7cf53 : MethodName := ⟨RJ9, "max", "(II)I"⟩
abbrev cJ9_min_7cf53 : ByteArray := prog_25_method_69_code
def yJ9_min_7cf53 : MethodName := ⟨RJ9, "min", "(II)I"⟩
def RJ0 : String := "java/lang/String"
def TJ0 : u_T := fun k => match k with
  | _ => ("", "", "", false)
def tyJ0 : Nat → FieldType := fun k => match k with
  | _ => .int
abbrev wsJ00 : List Cond := u_ws RJ0 TJ0 0
theorem nmJ0 : ∀ a, a < 0 → ∀ b, b < 0 → a ≠ b → (TJ0 a).2.1 ≠ (TJ0 b).2.1 := by decide +kernel
theorem tyJ0_ok : ∀ k, k < 0 → parseFieldDescriptor (TJ0 k).2.2.1 = some (tyJ0 k) := by decide +kernel
abbrev cJ0_length_8abf5 : ByteArray := prog_27_method_54_code
def yJ0_length_8abf5 : MethodName := ⟨RJ0, "length", "()I"⟩
abbrev cJ0_charAt_5068e : ByteArray := prog_27_method_56_code
def yJ0_charAt_5068e : MethodName := ⟨RJ0, "charAt", "(I)C"⟩
abbrev cJ0_coder_7d493 : ByteArray := prog_27_method_152_code
def yJ0_coder_7d493 : MethodName := ⟨RJ0, "coder", "()B"⟩
abbrev cJ0_isLatin1_aae02 : ByteArray := prog_27_method_154_code
def yJ0_isLatin1_aae02 : MethodName := ⟨RJ0, "isLatin1", "()Z"⟩
abbrev cJ0_checkIndex_df160 : ByteArray := prog_27_method_155_code
def yJ0_checkIndex_df160 : MethodName := ⟨RJ0, "checkIndex", "(II)V"⟩
def RJ1 : String := "java/lang/StringLatin1"
def TJ1 : u_T := fun k => match k with
  | _ => ("", "", "", false)
def tyJ1 : Nat → FieldType := fun k => match k with
  | _ => .int
abbrev wsJ10 : List Cond := u_ws RJ1 TJ1 0
theorem nmJ1 : ∀ a, a < 0 → ∀ b, b < 0 → a ≠ b → (TJ1 a).2.1 ≠ (TJ1 b).2.1 := by decide +kernel
theorem tyJ1_ok : ∀ k, k < 0 → parseFieldDescriptor (TJ1 k).2.2.1 = some (tyJ1 k) := by decide +kernel
abbrev cJ1_charAt_3b067 : ByteArray := prog_28_method_2_code
def yJ1_charAt_3b067 : MethodName := ⟨RJ1, "charAt", "([BI)C"⟩
def RJ2 : String := "java/lang/StringUTF16"
def TJ2 : u_T := fun k => match k with
  | _ => ("", "", "", false)
def tyJ2 : Nat → FieldType := fun k => match k with
  | _ => .int
abbrev wsJ20 : List Cond := u_ws RJ2 TJ2 0
theorem nmJ2 : ∀ a, a < 0 → ∀ b, b < 0 → a ≠ b → (TJ2 a).2.1 ≠ (TJ2 b).2.1 := by decide +kernel
theorem tyJ2_ok : ∀ k, k < 0 → parseFieldDescriptor (TJ2 k).2.2.1 = some (tyJ2 k) := by decide +kernel
abbrev cJ2_getChar_3b067 : ByteArray := prog_29_method_5_code
def yJ2_getChar_3b067 : MethodName := ⟨RJ2, "getChar", "([BI)C"⟩
abbrev cJ2_length_9d52b : ByteArray := prog_29_method_6_code
def yJ2_length_9d52b : MethodName := ⟨RJ2, "length", "([B)I"⟩
abbrev cJ2_charAt_3b067 : ByteArray := prog_29_method_83_code
def yJ2_charAt_3b067 : MethodName := ⟨RJ2, "charAt", "([BI)C"⟩
abbrev cJ2_checkIndex_2214a : ByteArray := prog_29_method_91_code
def yJ2_checkIndex_2214a : MethodName := ⟨RJ2, "checkIndex", "(I[B)V"⟩
def RJ10 : String := "java/lang/System"
def TJ10 : u_T := fun k => match k with
  | _ => ("", "", "", false)
def tyJ10 : Nat → FieldType := fun k => match k with
  | _ => .int
abbrev wsJ100 : List Cond := u_ws RJ10 TJ10 0
theorem nmJ10 : ∀ a, a < 0 → ∀ b, b < 0 → a ≠ b → (TJ10 a).2.1 ≠ (TJ10 b).2.1 := by decide +kernel
theorem tyJ10_ok : ∀ k, k < 0 → parseFieldDescriptor (TJ10 k).2.2.1 = some (tyJ10 k) := by decide +kernel
def RJxfd54e : String := "java/lang/constant/Constable"
def TJxfd54e : u_T := fun k => match k with
  | _ => ("", "", "", false)
def tyJxfd54e : Nat → FieldType := fun k => match k with
  | _ => .int
abbrev wsJxfd54e0 : List Cond := u_ws RJxfd54e TJxfd54e 0
theorem nmJxfd54e : ∀ a, a < 0 → ∀ b, b < 0 → a ≠ b → (TJxfd54e a).2.1 ≠ (TJxfd54e b).2.1 := by decide +kernel
theorem tyJxfd54e_ok : ∀ k, k < 0 → parseFieldDescriptor (TJxfd54e k).2.2.1 = some (tyJxfd54e k) := by decide +kernel
def RJx3cf43 : String := "java/lang/constant/ConstantDesc"
def TJx3cf43 : u_T := fun k => match k with
  | _ => ("", "", "", false)
def tyJx3cf43 : Nat → FieldType := fun k => match k with
  | _ => .int
abbrev wsJx3cf430 : List Cond := u_ws RJx3cf43 TJx3cf43 0
theorem nmJx3cf43 : ∀ a, a < 0 → ∀ b, b < 0 → a ≠ b → (TJx3cf43 a).2.1 ≠ (TJx3cf43 b).2.1 := by decide +kernel
theorem tyJx3cf43_ok : ∀ k, k < 0 → parseFieldDescriptor (TJx3cf43 k).2.2.1 = some (tyJx3cf43 k) := by decide +kernel
def RJxa1e45 : String := "java/util/AbstractCollection"
def TJxa1e45 : u_T := fun k => match k with
  | _ => ("", "", "", false)
def tyJxa1e45 : Nat → FieldType := fun k => match k with
  | _ => .int
abbrev wsJxa1e450 : List Cond := u_ws RJxa1e45 TJxa1e45 0
theorem nmJxa1e45 : ∀ a, a < 0 → ∀ b, b < 0 → a ≠ b → (TJxa1e45 a).2.1 ≠ (TJxa1e45 b).2.1 := by decide +kernel
theorem tyJxa1e45_ok : ∀ k, k < 0 → parseFieldDescriptor (TJxa1e45 k).2.2.1 = some (tyJxa1e45 k) := by decide +kernel
abbrev cJxa1e45_init_da8c8 : ByteArray := prog_34_method_1_code
def yJxa1e45_init_da8c8 : MethodName := ⟨RJxa1e45, "<init>", "()V"⟩
def RJxc12de : String := "java/util/AbstractList"
def TJxc12de : u_T := fun k => match k with
  | _ => ("", "", "", false)
def tyJxc12de : Nat → FieldType := fun k => match k with
  | _ => .int
abbrev wsJxc12de0 : List Cond := u_ws RJxc12de TJxc12de 0
theorem nmJxc12de : ∀ a, a < 0 → ∀ b, b < 0 → a ≠ b → (TJxc12de a).2.1 ≠ (TJxc12de b).2.1 := by decide +kernel
theorem tyJxc12de_ok : ∀ k, k < 0 → parseFieldDescriptor (TJxc12de k).2.2.1 = some (tyJxc12de k) := by decide +kernel
abbrev cJxc12de_init_da8c8 : ByteArray := prog_35_method_1_code
def yJxc12de_init_da8c8 : MethodName := ⟨RJxc12de, "<init>", "()V"⟩
def RJx4a65c : String := "java/util/ArrayList"
def TJx4a65c : u_T := fun k => match k with
  | 0 => ("java/util/AbstractList", "modCount", "I", false)
  | 1 => ("java/util/ArrayList", "elementData", "[Ljava/lang/Object;", false)
  | _ => ("java/util/ArrayList", "size", "I", false)
def tyJx4a65c : Nat → FieldType := fun k => match k with
  | 0 => .int
  | 1 => .array (.object "java/lang/Object")
  | _ => .int
abbrev wsJx4a65c0 : List Cond := u_ws RJx4a65c TJx4a65c 3
theorem nmJx4a65c : ∀ a, a < 3 → ∀ b, b < 3 → a ≠ b → (TJx4a65c a).2.1 ≠ (TJx4a65c b).2.1 := by decide +kernel
theorem tyJx4a65c_ok : ∀ k, k < 3 → parseFieldDescriptor (TJx4a65c k).2.2.1 = some (tyJx4a65c k) := by decide +kernel
abbrev cJx4a65c_init_da8c8 : ByteArray := prog_36_method_2_code
def yJx4a65c_init_da8c8 : MethodName := ⟨RJx4a65c, "<init>", "()V"⟩
abbrev cJx4a65c_grow_92f84 : ByteArray := prog_36_method_6_code
def yJx4a65c_grow_92f84 : MethodName := ⟨RJx4a65c, "grow", "(I)[Ljava/lang/Object;"⟩
abbrev cJx4a65c_grow_d5877 : ByteArray := prog_36_method_7_code
def yJx4a65c_grow_d5877 : MethodName := ⟨RJx4a65c, "grow", "()[Ljava/lang/Object;"⟩
abbrev cJx4a65c_size_8abf5 : ByteArray := prog_36_method_8_code
def yJx4a65c_size_8abf5 : MethodName := ⟨RJx4a65c, "size", "()I"⟩
abbrev cJx4a65c_elementData_915e3 : ByteArray := prog_36_method_18_code
def yJx4a65c_elementData_915e3 : MethodName := ⟨RJx4a65c, "elementData", "(I)Ljava/lang/Object;"⟩
abbrev cJx4a65c_get_915e3 : ByteArray := prog_36_method_20_code
def yJx4a65c_get_915e3 : MethodName := ⟨RJx4a65c, "get", "(I)Ljava/lang/Object;"⟩
abbrev cJx4a65c_add_72be8 : ByteArray := prog_36_method_24_code
def yJx4a65c_add_72be8 : MethodName := ⟨RJx4a65c, "add", "(Ljava/lang/Object;[Ljava/lang/Object;I)V"⟩
abbrev cJx4a65c_add_9ea2d : ByteArray := prog_36_method_25_code
def yJx4a65c_add_9ea2d : MethodName := ⟨RJx4a65c, "add", "(Ljava/lang/Object;)Z"⟩
def RJ7 : String := "java/util/Arrays"
def TJ7 : u_T := fun k => match k with
  | _ => ("", "", "", false)
def tyJ7 : Nat → FieldType := fun k => match k with
  | _ => .int
abbrev wsJ70 : List Cond := u_ws RJ7 TJ7 0
theorem nmJ7 : ∀ a, a < 0 → ∀ b, b < 0 → a ≠ b → (TJ7 a).2.1 ≠ (TJ7 b).2.1 := by decide +kernel
theorem tyJ7_ok : ∀ k, k < 0 → parseFieldDescriptor (TJ7 k).2.2.1 = some (tyJ7 k) := by decide +kernel
abbrev cJ7_fill_53178 : ByteArray := prog_37_method_103_code
def yJ7_fill_53178 : MethodName := ⟨RJ7, "fill", "([II)V"⟩
abbrev cJ7_copyOf_1904c : ByteArray := prog_37_method_119_code
def yJ7_copyOf_1904c : MethodName := ⟨RJ7, "copyOf", "([Ljava/lang/Object;I)[Ljava/lang/Object;"⟩
abbrev cJ7_copyOf_6403c : ByteArray := prog_37_method_120_code
def yJ7_copyOf_6403c : MethodName := ⟨RJ7, "copyOf", "([Ljava/lang/Object;ILjava/lang/Class;)[Ljava/lang/Object;"⟩
abbrev cJ7_copyOf_59c91 : ByteArray := prog_37_method_123_code
def yJ7_copyOf_59c91 : MethodName := ⟨RJ7, "copyOf", "([II)[I"⟩
def RJx5ef63 : String := "java/util/Collection"
def TJx5ef63 : u_T := fun k => match k with
  | _ => ("", "", "", false)
def tyJx5ef63 : Nat → FieldType := fun k => match k with
  | _ => .int
abbrev wsJx5ef630 : List Cond := u_ws RJx5ef63 TJx5ef63 0
theorem nmJx5ef63 : ∀ a, a < 0 → ∀ b, b < 0 → a ≠ b → (TJx5ef63 a).2.1 ≠ (TJx5ef63 b).2.1 := by decide +kernel
theorem tyJx5ef63_ok : ∀ k, k < 0 → parseFieldDescriptor (TJx5ef63 k).2.2.1 = some (tyJx5ef63 k) := by decide +kernel
def RJxbd725 : String := "java/util/List"
def TJxbd725 : u_T := fun k => match k with
  | _ => ("", "", "", false)
def tyJxbd725 : Nat → FieldType := fun k => match k with
  | _ => .int
abbrev wsJxbd7250 : List Cond := u_ws RJxbd725 TJxbd725 0
theorem nmJxbd725 : ∀ a, a < 0 → ∀ b, b < 0 → a ≠ b → (TJxbd725 a).2.1 ≠ (TJxbd725 b).2.1 := by decide +kernel
theorem tyJxbd725_ok : ∀ k, k < 0 → parseFieldDescriptor (TJxbd725 k).2.2.1 = some (tyJxbd725 k) := by decide +kernel
def RJ15 : String := "java/util/Objects"
def TJ15 : u_T := fun k => match k with
  | _ => ("", "", "", false)
def tyJ15 : Nat → FieldType := fun k => match k with
  | _ => .int
abbrev wsJ150 : List Cond := u_ws RJ15 TJ15 0
theorem nmJ15 : ∀ a, a < 0 → ∀ b, b < 0 → a ≠ b → (TJ15 a).2.1 ≠ (TJ15 b).2.1 := by decide +kernel
theorem tyJ15_ok : ∀ k, k < 0 → parseFieldDescriptor (TJ15 k).2.2.1 = some (tyJ15 k) := by decide +kernel
abbrev cJ15_checkIndex_7cf53 : ByteArray := prog_40_method_17_code
def yJ15_checkIndex_7cf53 : MethodName := ⟨RJ15, "checkIndex", "(II)I"⟩
def RJxf0a74 : String := "java/util/RandomAccess"
def TJxf0a74 : u_T := fun k => match k with
  | _ => ("", "", "", false)
def tyJxf0a74 : Nat → FieldType := fun k => match k with
  | _ => .int
abbrev wsJxf0a740 : List Cond := u_ws RJxf0a74 TJxf0a74 0
theorem nmJxf0a74 : ∀ a, a < 0 → ∀ b, b < 0 → a ≠ b → (TJxf0a74 a).2.1 ≠ (TJxf0a74 b).2.1 := by decide +kernel
theorem tyJxf0a74_ok : ∀ k, k < 0 → parseFieldDescriptor (TJxf0a74 k).2.2.1 = some (tyJxf0a74 k) := by decide +kernel
def RJxa66e6 : String := "java/util/SequencedCollection"
def TJxa66e6 : u_T := fun k => match k with
  | _ => ("", "", "", false)
def tyJxa66e6 : Nat → FieldType := fun k => match k with
  | _ => .int
abbrev wsJxa66e60 : List Cond := u_ws RJxa66e6 TJxa66e6 0
theorem nmJxa66e6 : ∀ a, a < 0 → ∀ b, b < 0 → a ≠ b → (TJxa66e6 a).2.1 ≠ (TJxa66e6 b).2.1 := by decide +kernel
theorem tyJxa66e6_ok : ∀ k, k < 0 → parseFieldDescriptor (TJxa66e6 k).2.2.1 = some (tyJxa66e6 k) := by decide +kernel
def RJ8 : String := "jdk/internal/util/ArraysSupport"
def TJ8 : u_T := fun k => match k with
  | _ => ("", "", "", false)
def tyJ8 : Nat → FieldType := fun k => match k with
  | _ => .int
abbrev wsJ80 : List Cond := u_ws RJ8 TJ8 0
theorem nmJ8 : ∀ a, a < 0 → ∀ b, b < 0 → a ≠ b → (TJ8 a).2.1 ≠ (TJ8 b).2.1 := by decide +kernel
theorem tyJ8_ok : ∀ k, k < 0 → parseFieldDescriptor (TJ8 k).2.2.1 = some (tyJ8 k) := by decide +kernel
abbrev cJ8_newLength_cabcc : ByteArray := prog_43_method_27_code
def yJ8_newLength_cabcc : MethodName := ⟨RJ8, "newLength", "(III)I"⟩
abbrev cJ8_hugeLength_7cf53 : ByteArray := prog_43_method_28_code
def yJ8_hugeLength_7cf53 : MethodName := ⟨RJ8, "hugeLength", "(II)I"⟩
def RJ3 : String := "jdk/internal/util/Preconditions"
def TJ3 : u_T := fun k => match k with
  | _ => ("", "", "", false)
def tyJ3 : Nat → FieldType := fun k => match k with
  | _ => .int
abbrev wsJ30 : List Cond := u_ws RJ3 TJ3 0
theorem nmJ3 : ∀ a, a < 0 → ∀ b, b < 0 → a ≠ b → (TJ3 a).2.1 ≠ (TJ3 b).2.1 := by decide +kernel
theorem tyJ3_ok : ∀ k, k < 0 → parseFieldDescriptor (TJ3 k).2.2.1 = some (tyJ3 k) := by decide +kernel
abbrev cJ3_checkIndex_8e157 : ByteArray := prog_44_method_11_code
def yJ3_checkIndex_8e157 : MethodName := ⟨RJ3, "checkIndex", "(IILjava/util/function/BiFunction;)I"⟩
def RL : String := "PaperBoardLaw"
abbrev cL_paper : ByteArray := method_3_code
def yL_paper : MethodName := ⟨RL, "paper", "(LPaperBoard;IIIII[J)I"⟩
abbrev cL_set : ByteArray := method_4_code
def yL_set : MethodName := ⟨RL, "set", "(LPaperBoard;III[J)I"⟩
abbrev cL_told : ByteArray := method_5_code
def yL_told : MethodName := ⟨RL, "told", "(LPaperBoard;II[J)I"⟩
abbrev cL_reel : ByteArray := method_6_code
def yL_reel : MethodName := ⟨RL, "reel", "(LPaperBoard;II[J)I"⟩
abbrev cL_where : ByteArray := method_7_code
def yL_where : MethodName := ⟨RL, "where", "(LPaperBoard;I[J)I"⟩
abbrev cL_steal : ByteArray := method_8_code
def yL_steal : MethodName := ⟨RL, "steal", "(LPaperBoard;I[J)I"⟩
abbrev cL_find : ByteArray := method_9_code
def yL_find : MethodName := ⟨RL, "find", "(LPaperBoard;I[J)I"⟩
abbrev cL_ward : ByteArray := method_10_code
def yL_ward : MethodName := ⟨RL, "ward", "(LPaperBoard;I[J)I"⟩
abbrev cL_loyal : ByteArray := method_11_code
def yL_loyal : MethodName := ⟨RL, "loyal", "(LPaperBoard;III[J)I"⟩
abbrev cL_demand : ByteArray := method_12_code
def yL_demand : MethodName := ⟨RL, "demand", "(LPaperBoard;II[J)I"⟩
abbrev cL_order : ByteArray := method_13_code
def yL_order : MethodName := ⟨RL, "order", "(LPaperBoard;II[J)I"⟩
abbrev cL_force : ByteArray := method_14_code
def yL_force : MethodName := ⟨RL, "force", "(LPaperBoard;I[J)I"⟩
abbrev cL_tells : ByteArray := method_15_code
def yL_tells : MethodName := ⟨RL, "tells", "(LPaperBoard;II[J)I"⟩
abbrev cL_bid : ByteArray := method_16_code
def yL_bid : MethodName := ⟨RL, "bid", "(LPaperBoard;III[J)I"⟩
abbrev cL_parted : ByteArray := method_17_code
def yL_parted : MethodName := ⟨RL, "parted", "(LPaperBoard;II[J)I"⟩
abbrev cL_months : ByteArray := method_18_code
def yL_months : MethodName := ⟨RL, "months", "(LPaperBoard;I[J)I"⟩
abbrev cL_swap : ByteArray := method_19_code
def yL_swap : MethodName := ⟨RL, "swap", "(LPaperBoard;III[J)I"⟩
abbrev cL_netted : ByteArray := method_20_code
def yL_netted : MethodName := ⟨RL, "netted", "(LPaperBoard;II[J)I"⟩
abbrev cL_merge : ByteArray := method_21_code
def yL_merge : MethodName := ⟨RL, "merge", "(LPaperBoard;II[J)I"⟩
abbrev cL_gain : ByteArray := method_22_code
def yL_gain : MethodName := ⟨RL, "gain", "(LPaperBoard;II[J)I"⟩
abbrev cL_breach : ByteArray := method_23_code
def yL_breach : MethodName := ⟨RL, "breach", "(LPaperBoard;II[J)I"⟩
abbrev cL_source : ByteArray := method_24_code
def yL_source : MethodName := ⟨RL, "source", "(LPaperBoard;III[J)I"⟩
abbrev cL_borne : ByteArray := method_25_code
def yL_borne : MethodName := ⟨RL, "borne", "(LPaperBoard;II[J)I"⟩
abbrev cL_appeal : ByteArray := method_26_code
def yL_appeal : MethodName := ⟨RL, "appeal", "(LPaperBoard;II[J)I"⟩
abbrev cL_alike : ByteArray := method_27_code
def yL_alike : MethodName := ⟨RL, "alike", "(LPaperBoard;I[J)I"⟩
abbrev cL_apart : ByteArray := method_28_code
def yL_apart : MethodName := ⟨RL, "apart", "(LPaperBoard;II[J)I"⟩
abbrev cL_grant : ByteArray := method_29_code
def yL_grant : MethodName := ⟨RL, "grant", "(LPaperBoard;II[J)I"⟩
abbrev cL_best : ByteArray := method_30_code
def yL_best : MethodName := ⟨RL, "best", "(LPaperBoard;II[J)I"⟩
abbrev cL_correct : ByteArray := method_31_code
def yL_correct : MethodName := ⟨RL, "correct", "(LPaperBoard;III[J)I"⟩
abbrev cL_row : ByteArray := method_32_code
def yL_row : MethodName := ⟨RL, "row", "(LPaperBoard;IIII[J)I"⟩
abbrev cL_law : ByteArray := code
def yL_law : MethodName := ⟨RL, "law", "([I)Z"⟩
abbrev vwCl : List vw_C := [(RJx4a65c, TJx4a65c, 3), (RX0, TX0, 5), (RX1, TX1, 5), (RX2, TX2, 6), (RX3, TX3, 4), (RX4, TX4, 13), (RX5, TX5, 17), (RX6, TX6, 3), (RX7, TX7, 10), (RX8, TX8, 2), (RX9, TX9, 3), (RX10, TX10, 1), (RX11, TX11, 13), (RX12, TX12, 78)]
def plX0 : Nat → Nat := fun k => ([1261, 1263, 1265, 1267, 1269] : List Nat).getD k 0
theorem plX0_ok : ∀ k, k < 5 → tables_1[plX0 k]? = some (u_lay RX0 TX0 k) := by decide +kernel
theorem innX0 : ∀ w ∈ u_ws RX0 TX0 5, w ∈ lw_tbl := fun w h => by
  obtain ⟨k, hk, rfl⟩ := List.mem_map.mp h
  exact List.mem_append_right _ (List.mem_of_getElem? (plX0_ok k (List.mem_range.mp hk)))
def plX1 : Nat → Nat := fun k => ([453, 455, 457, 459, 461] : List Nat).getD k 0
theorem plX1_ok : ∀ k, k < 5 → tables_1[plX1 k]? = some (u_lay RX1 TX1 k) := by decide +kernel
theorem innX1 : ∀ w ∈ u_ws RX1 TX1 5, w ∈ lw_tbl := fun w h => by
  obtain ⟨k, hk, rfl⟩ := List.mem_map.mp h
  exact List.mem_append_right _ (List.mem_of_getElem? (plX1_ok k (List.mem_range.mp hk)))
def plX2 : Nat → Nat := fun k => ([217, 219, 221, 223, 225, 227] : List Nat).getD k 0
theorem plX2_ok : ∀ k, k < 6 → tables_1[plX2 k]? = some (u_lay RX2 TX2 k) := by decide +kernel
theorem innX2 : ∀ w ∈ u_ws RX2 TX2 6, w ∈ lw_tbl := fun w h => by
  obtain ⟨k, hk, rfl⟩ := List.mem_map.mp h
  exact List.mem_append_right _ (List.mem_of_getElem? (plX2_ok k (List.mem_range.mp hk)))
def plX3 : Nat → Nat := fun k => ([240, 242, 244, 246] : List Nat).getD k 0
theorem plX3_ok : ∀ k, k < 4 → tables_1[plX3 k]? = some (u_lay RX3 TX3 k) := by decide +kernel
theorem innX3 : ∀ w ∈ u_ws RX3 TX3 4, w ∈ lw_tbl := fun w h => by
  obtain ⟨k, hk, rfl⟩ := List.mem_map.mp h
  exact List.mem_append_right _ (List.mem_of_getElem? (plX3_ok k (List.mem_range.mp hk)))
def plX4 : Nat → Nat := fun k => ([107, 109, 111, 113, 115, 117, 119, 121, 123, 125, 127, 129, 131] : List Nat).getD k 0
theorem plX4_ok : ∀ k, k < 13 → tables_1[plX4 k]? = some (u_lay RX4 TX4 k) := by decide +kernel
theorem innX4 : ∀ w ∈ u_ws RX4 TX4 13, w ∈ lw_tbl := fun w h => by
  obtain ⟨k, hk, rfl⟩ := List.mem_map.mp h
  exact List.mem_append_right _ (List.mem_of_getElem? (plX4_ok k (List.mem_range.mp hk)))
def plX5 : Nat → Nat := fun k => ([527, 529, 531, 533, 535, 537, 539, 541, 543, 545, 547, 549, 551, 553, 555, 557, 559] : List Nat).getD k 0
theorem plX5_ok : ∀ k, k < 17 → tables_1[plX5 k]? = some (u_lay RX5 TX5 k) := by decide +kernel
theorem innX5 : ∀ w ∈ u_ws RX5 TX5 17, w ∈ lw_tbl := fun w h => by
  obtain ⟨k, hk, rfl⟩ := List.mem_map.mp h
  exact List.mem_append_right _ (List.mem_of_getElem? (plX5_ok k (List.mem_range.mp hk)))
def plX6 : Nat → Nat := fun k => ([194, 196, 198] : List Nat).getD k 0
theorem plX6_ok : ∀ k, k < 3 → tables_1[plX6 k]? = some (u_lay RX6 TX6 k) := by decide +kernel
theorem innX6 : ∀ w ∈ u_ws RX6 TX6 3, w ∈ lw_tbl := fun w h => by
  obtain ⟨k, hk, rfl⟩ := List.mem_map.mp h
  exact List.mem_append_right _ (List.mem_of_getElem? (plX6_ok k (List.mem_range.mp hk)))
def plX7 : Nat → Nat := fun k => ([154, 156, 158, 160, 162, 164, 166, 168, 170, 172] : List Nat).getD k 0
theorem plX7_ok : ∀ k, k < 10 → tables_1[plX7 k]? = some (u_lay RX7 TX7 k) := by decide +kernel
theorem innX7 : ∀ w ∈ u_ws RX7 TX7 10, w ∈ lw_tbl := fun w h => by
  obtain ⟨k, hk, rfl⟩ := List.mem_map.mp h
  exact List.mem_append_right _ (List.mem_of_getElem? (plX7_ok k (List.mem_range.mp hk)))
def plX8 : Nat → Nat := fun k => ([688, 690] : List Nat).getD k 0
theorem plX8_ok : ∀ k, k < 2 → tables_1[plX8 k]? = some (u_lay RX8 TX8 k) := by decide +kernel
theorem innX8 : ∀ w ∈ u_ws RX8 TX8 2, w ∈ lw_tbl := fun w h => by
  obtain ⟨k, hk, rfl⟩ := List.mem_map.mp h
  exact List.mem_append_right _ (List.mem_of_getElem? (plX8_ok k (List.mem_range.mp hk)))
def plX9 : Nat → Nat := fun k => ([473, 475, 477] : List Nat).getD k 0
theorem plX9_ok : ∀ k, k < 3 → tables_1[plX9 k]? = some (u_lay RX9 TX9 k) := by decide +kernel
theorem innX9 : ∀ w ∈ u_ws RX9 TX9 3, w ∈ lw_tbl := fun w h => by
  obtain ⟨k, hk, rfl⟩ := List.mem_map.mp h
  exact List.mem_append_right _ (List.mem_of_getElem? (plX9_ok k (List.mem_range.mp hk)))
def plX10 : Nat → Nat := fun k => ([182] : List Nat).getD k 0
theorem plX10_ok : ∀ k, k < 1 → tables_1[plX10 k]? = some (u_lay RX10 TX10 k) := by decide +kernel
theorem innX10 : ∀ w ∈ u_ws RX10 TX10 1, w ∈ lw_tbl := fun w h => by
  obtain ⟨k, hk, rfl⟩ := List.mem_map.mp h
  exact List.mem_append_right _ (List.mem_of_getElem? (plX10_ok k (List.mem_range.mp hk)))
def plX11 : Nat → Nat := fun k => ([262, 264, 266, 268, 270, 272, 274, 276, 278, 280, 282, 284, 286] : List Nat).getD k 0
theorem plX11_ok : ∀ k, k < 13 → tables_1[plX11 k]? = some (u_lay RX11 TX11 k) := by decide +kernel
theorem innX11 : ∀ w ∈ u_ws RX11 TX11 13, w ∈ lw_tbl := fun w h => by
  obtain ⟨k, hk, rfl⟩ := List.mem_map.mp h
  exact List.mem_append_right _ (List.mem_of_getElem? (plX11_ok k (List.mem_range.mp hk)))
def plX12 : Nat → Nat := fun k => ([1453, 1455, 1457, 1459, 1461, 1463, 1465, 1467, 1469, 1471, 1473, 1475, 1477, 1479, 1481, 1483, 1485, 1487, 1489, 1491, 1493, 1495, 1497, 1499, 1501, 1503, 1505, 1507, 1509, 1511, 1513, 1515, 1517, 1519, 1521, 1523, 1525, 1527, 1529, 1531, 1533, 1535, 1537, 1539, 1541, 1543, 1545, 1547, 1549, 1551, 1553, 1555, 1557, 1559, 1561, 1563, 1565, 1567, 1569, 1571, 1573, 1575, 1577, 1579, 1581, 1583, 1585, 1587, 1589, 1591, 1593, 1595, 1597, 1599, 1601, 1603, 1605, 1607] : List Nat).getD k 0
theorem plX12_ok : ∀ k, k < 78 → tables_1[plX12 k]? = some (u_lay RX12 TX12 k) := by decide +kernel
theorem innX12 : ∀ w ∈ u_ws RX12 TX12 78, w ∈ lw_tbl := fun w h => by
  obtain ⟨k, hk, rfl⟩ := List.mem_map.mp h
  exact List.mem_append_right _ (List.mem_of_getElem? (plX12_ok k (List.mem_range.mp hk)))
def plJx4a65c : Nat → Nat := fun k => ([64, 60, 62] : List Nat).getD k 0
theorem plJx4a65c_ok : ∀ k, k < 3 → tables_1[plJx4a65c k]? = some (u_lay RJx4a65c TJx4a65c k) := by decide +kernel
theorem innJx4a65c : ∀ w ∈ u_ws RJx4a65c TJx4a65c 3, w ∈ lw_tbl := fun w h => by
  obtain ⟨k, hk, rfl⟩ := List.mem_map.mp h
  exact List.mem_append_right _ (List.mem_of_getElem? (plJx4a65c_ok k (List.mem_range.mp hk)))
