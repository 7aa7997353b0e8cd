def RX0 : String := "Watermarkmill$Dating"
def TX0 : u_T := fun k => match k with
  | 0 => ("Watermarkmill$Dating", "dates", "[I", true)
  | 1 => ("Watermarkmill$Dating", "stocks", "[I", true)
  | 2 => ("Watermarkmill$Dating", "claims", "[[I", true)
  | 3 => ("Watermarkmill$Dating", "steps", "[[I", true)
  | 4 => ("Watermarkmill$Dating", "documents", "I", false)
  | _ => ("Watermarkmill$Dating", "age", "I", false)
def tyX0 : Nat → FieldType := fun k => match k with
  | 0 => .array .int
  | 1 => .array .int
  | 2 => .array (.array .int)
  | 3 => .array (.array .int)
  | 4 => .int
  | _ => .int
theorem nmX0 : ∀ a, a < 6 → ∀ b, b < 6 → a ≠ b → (TX0 a).2.1 ≠ (TX0 b).2.1 := by decide +kernel
theorem tyX0_ok : ∀ k, k < 6 → parseFieldDescriptor (TX0 k).2.2.1 = some (tyX0 k) := by decide +kernel
abbrev cX0_init : ByteArray := prog_2_method_1_code
def yX0_init : MethodName := ⟨RX0, "<init>", "()V"⟩
abbrev cX0_addDocument : ByteArray := prog_2_method_2_code
def yX0_addDocument : MethodName := ⟨RX0, "addDocument", "()V"⟩
abbrev cX0_isClaimed : ByteArray := prog_2_method_3_code
def yX0_isClaimed : MethodName := ⟨RX0, "isClaimed", "(III)Z"⟩
abbrev cX0_addClaim : ByteArray := prog_2_method_4_code
def yX0_addClaim : MethodName := ⟨RX0, "addClaim", "(III)V"⟩
abbrev cX0_dropClaim : ByteArray := prog_2_method_5_code
def yX0_dropClaim : MethodName := ⟨RX0, "dropClaim", "(III)V"⟩
abbrev cX0_tellSteps : ByteArray := prog_2_method_6_code
def yX0_tellSteps : MethodName := ⟨RX0, "tellSteps", "()V"⟩
abbrev cX0_shortenSteps : ByteArray := prog_2_method_7_code
def yX0_shortenSteps : MethodName := ⟨RX0, "shortenSteps", "(II)V"⟩
abbrev cX0_isEarlierStock : ByteArray := prog_2_method_8_code
def yX0_isEarlierStock : MethodName := ⟨RX0, "isEarlierStock", "(II)Z"⟩
abbrev cX0_fitsWithout : ByteArray := prog_2_method_9_code
def yX0_fitsWithout : MethodName := ⟨RX0, "fitsWithout", "(I)Z"⟩
abbrev cX0_boundWithout : ByteArray := prog_2_method_10_code
def yX0_boundWithout : MethodName := ⟨RX0, "boundWithout", "(IIZ)I"⟩
abbrev cX0_firstYear : ByteArray := prog_2_method_11_code
def yX0_firstYear : MethodName := ⟨RX0, "firstYear", "(II)I"⟩
abbrev cX0_lastYear : ByteArray := prog_2_method_12_code
def yX0_lastYear : MethodName := ⟨RX0, "lastYear", "(II)I"⟩
abbrev cX0_hasDate : ByteArray := prog_2_method_13_code
def yX0_hasDate : MethodName := ⟨RX0, "hasDate", "(II)Z"⟩
def RX1 : String := "Watermarkmill$Document"
def TX1 : u_T := fun k => match k with
  | 0 => ("Watermarkmill$Document", "year", "I", true)
  | 1 => ("Watermarkmill$Document", "leaves", "I", true)
  | 2 => ("Watermarkmill$Document", "sheets", "[I", true)
  | 3 => ("Watermarkmill$Document", "stocks", "[I", true)
  | 4 => ("Watermarkmill$Document", "sources", "[I", true)
  | 5 => ("Watermarkmill$Document", "count", "I", false)
  | _ => ("Watermarkmill$Document", "isWashed", "Z", false)
def tyX1 : Nat → FieldType := fun k => match k with
  | 0 => .int
  | 1 => .int
  | 2 => .array .int
  | 3 => .array .int
  | 4 => .array .int
  | 5 => .int
  | _ => .boolean
theorem nmX1 : ∀ a, a < 7 → ∀ b, b < 7 → a ≠ b → (TX1 a).2.1 ≠ (TX1 b).2.1 := by decide +kernel
theorem tyX1_ok : ∀ k, k < 7 → parseFieldDescriptor (TX1 k).2.2.1 = some (tyX1 k) := by decide +kernel
abbrev cX1_init : ByteArray := prog_3_method_1_code
def yX1_init : MethodName := ⟨RX1, "<init>", "(II)V"⟩
abbrev cX1_add : ByteArray := prog_3_method_2_code
def yX1_add : MethodName := ⟨RX1, "add", "(I)V"⟩
abbrev cX1_replaceLeaf : ByteArray := prog_3_method_3_code
def yX1_replaceLeaf : MethodName := ⟨RX1, "replaceLeaf", "(III)V"⟩
abbrev cX1_sourceOf : ByteArray := prog_3_method_4_code
def yX1_sourceOf : MethodName := ⟨RX1, "sourceOf", "(II)I"⟩
abbrev cX1_mateOf : ByteArray := prog_3_method_5_code
def yX1_mateOf : MethodName := ⟨RX1, "mateOf", "(I)I"⟩
def RX2 : String := "Watermarkmill$Image"
def TX2 : u_T := fun k => match k with
  | 0 => ("Watermarkmill$Image", "mark", "I", true)
  | 1 => ("Watermarkmill$Image", "seen", "I", true)
  | 2 => ("Watermarkmill$Image", "distances", "[I", true)
  | _ => ("Watermarkmill$Image", "damages", "[I", true)
def tyX2 : Nat → FieldType := fun k => match k with
  | 0 => .int
  | 1 => .int
  | 2 => .array .int
  | _ => .array .int
theorem nmX2 : ∀ a, a < 4 → ∀ b, b < 4 → a ≠ b → (TX2 a).2.1 ≠ (TX2 b).2.1 := by decide +kernel
theorem tyX2_ok : ∀ k, k < 4 → parseFieldDescriptor (TX2 k).2.2.1 = some (tyX2 k) := by decide +kernel
abbrev cX2_init : ByteArray := prog_4_method_1_code
def yX2_init : MethodName := ⟨RX2, "<init>", "(II)V"⟩
abbrev cX2_isNear : ByteArray := prog_4_method_2_code
def yX2_isNear : MethodName := ⟨RX2, "isNear", "(LWatermarkmill$Image;I)Z"⟩
abbrev cX2_moreDamagedThan : ByteArray := prog_4_method_3_code
def yX2_moreDamagedThan : MethodName := ⟨RX2, "moreDamagedThan", "(LWatermarkmill$Image;)I"⟩
def RX3 : String := "Watermarkmill$Lot"
def TX3 : u_T := fun k => match k with
  | 0 => ("Watermarkmill$Lot", "mould", "I", true)
  | 1 => ("Watermarkmill$Lot", "turn", "I", true)
  | 2 => ("Watermarkmill$Lot", "year", "I", true)
  | 3 => ("Watermarkmill$Lot", "sheets", "I", true)
  | _ => ("Watermarkmill$Lot", "taken", "I", false)
def tyX3 : Nat → FieldType := fun k => match k with
  | 0 => .int
  | 1 => .int
  | 2 => .int
  | 3 => .int
  | _ => .int
theorem nmX3 : ∀ a, a < 5 → ∀ b, b < 5 → a ≠ b → (TX3 a).2.1 ≠ (TX3 b).2.1 := by decide +kernel
theorem tyX3_ok : ∀ k, k < 5 → parseFieldDescriptor (TX3 k).2.2.1 = some (tyX3 k) := by decide +kernel
abbrev cX3_init : ByteArray := prog_5_method_1_code
def yX3_init : MethodName := ⟨RX3, "<init>", "(IIII)V"⟩
abbrev cX3_left : ByteArray := prog_5_method_2_code
def yX3_left : MethodName := ⟨RX3, "left", "()I"⟩
abbrev cX3_takeSheet : ByteArray := prog_5_method_3_code
def yX3_takeSheet : MethodName := ⟨RX3, "takeSheet", "()I"⟩
def RX4 : String := "Watermarkmill$Mould"
def TX4 : u_T := fun k => match k with
  | 0 => ("Watermarkmill$Mould", "mill", "I", true)
  | 1 => ("Watermarkmill$Mould", "mark", "I", true)
  | 2 => ("Watermarkmill$Mould", "distances", "[I", true)
  | 3 => ("Watermarkmill$Mould", "damagedWires", "[I", true)
  | 4 => ("Watermarkmill$Mould", "damageKinds", "[I", true)
  | 5 => ("Watermarkmill$Mould", "damageYears", "[I", true)
  | 6 => ("Watermarkmill$Mould", "damages", "I", false)
  | 7 => ("Watermarkmill$Mould", "twin", "I", false)
  | 8 => ("Watermarkmill$Mould", "retired", "I", false)
  | 9 => ("Watermarkmill$Mould", "lastUse", "I", false)
  | _ => ("Watermarkmill$Mould", "lastSale", "LWatermarkmill$Sale;", false)
def tyX4 : Nat → FieldType := fun k => match k with
  | 0 => .int
  | 1 => .int
  | 2 => .array .int
  | 3 => .array .int
  | 4 => .array .int
  | 5 => .array .int
  | 6 => .int
  | 7 => .int
  | 8 => .int
  | 9 => .int
  | _ => .object "Watermarkmill$Sale"
theorem nmX4 : ∀ a, a < 11 → ∀ b, b < 11 → a ≠ b → (TX4 a).2.1 ≠ (TX4 b).2.1 := by decide +kernel
theorem tyX4_ok : ∀ k, k < 11 → parseFieldDescriptor (TX4 k).2.2.1 = some (tyX4 k) := by decide +kernel
abbrev cX4_init : ByteArray := prog_6_method_1_code
def yX4_init : MethodName := ⟨RX4, "<init>", "(II[I)V"⟩
abbrev cX4_addDamage : ByteArray := prog_6_method_2_code
def yX4_addDamage : MethodName := ⟨RX4, "addDamage", "(III)V"⟩
abbrev cX4_damageOf : ByteArray := prog_6_method_3_code
def yX4_damageOf : MethodName := ⟨RX4, "damageOf", "(II)I"⟩
abbrev cX4_stateIn : ByteArray := prog_6_method_4_code
def yX4_stateIn : MethodName := ⟨RX4, "stateIn", "(I)I"⟩
abbrev cX4_ownerIn : ByteArray := prog_6_method_5_code
def yX4_ownerIn : MethodName := ⟨RX4, "ownerIn", "(I)I"⟩
abbrev cX4_isSoldAfter : ByteArray := prog_6_method_6_code
def yX4_isSoldAfter : MethodName := ⟨RX4, "isSoldAfter", "(I)Z"⟩
abbrev cX4_isTouchedAfter : ByteArray := prog_6_method_7_code
def yX4_isTouchedAfter : MethodName := ⟨RX4, "isTouchedAfter", "(I)Z"⟩
abbrev cX4_isClosedIn : ByteArray := prog_6_method_8_code
def yX4_isClosedIn : MethodName := ⟨RX4, "isClosedIn", "(I)Z"⟩
abbrev cX4_isDamageKept : ByteArray := prog_6_method_9_code
def yX4_isDamageKept : MethodName := ⟨RX4, "isDamageKept", "()Z"⟩
def RX5 : String := "Watermarkmill$Ream"
def TX5 : u_T := fun k => match k with
  | 0 => ("Watermarkmill$Ream", "mill", "I", true)
  | 1 => ("Watermarkmill$Ream", "sheets", "[I", true)
  | _ => ("Watermarkmill$Ream", "count", "I", false)
def tyX5 : Nat → FieldType := fun k => match k with
  | 0 => .int
  | 1 => .array .int
  | _ => .int
theorem nmX5 : ∀ a, a < 3 → ∀ b, b < 3 → a ≠ b → (TX5 a).2.1 ≠ (TX5 b).2.1 := by decide +kernel
theorem tyX5_ok : ∀ k, k < 3 → parseFieldDescriptor (TX5 k).2.2.1 = some (tyX5 k) := by decide +kernel
abbrev cX5_init : ByteArray := prog_7_method_1_code
def yX5_init : MethodName := ⟨RX5, "<init>", "(I)V"⟩
abbrev cX5_add : ByteArray := prog_7_method_2_code
def yX5_add : MethodName := ⟨RX5, "add", "(I)V"⟩
abbrev cX5_dropFirst : ByteArray := prog_7_method_3_code
def yX5_dropFirst : MethodName := ⟨RX5, "dropFirst", "(I)V"⟩
def RX6 : String := "Watermarkmill$Repertory"
def TX6 : u_T := fun k => match k with
  | 0 => ("Watermarkmill$Repertory", "above", "[I", true)
  | 1 => ("Watermarkmill$Repertory", "linked", "[I", true)
  | 2 => ("Watermarkmill$Repertory", "tally", "[I", true)
  | _ => ("Watermarkmill$Repertory", "mergings", "I", false)
def tyX6 : Nat → FieldType := fun k => match k with
  | 0 => .array .int
  | 1 => .array .int
  | 2 => .array .int
  | _ => .int
theorem nmX6 : ∀ a, a < 4 → ∀ b, b < 4 → a ≠ b → (TX6 a).2.1 ≠ (TX6 b).2.1 := by decide +kernel
theorem tyX6_ok : ∀ k, k < 4 → parseFieldDescriptor (TX6 k).2.2.1 = some (tyX6 k) := by decide +kernel
abbrev cX6_init : ByteArray := prog_8_method_1_code
def yX6_init : MethodName := ⟨RX6, "<init>", "()V"⟩
abbrev cX6_lowestOf : ByteArray := prog_8_method_2_code
def yX6_lowestOf : MethodName := ⟨RX6, "lowestOf", "(I)I"⟩
abbrev cX6_join : ByteArray := prog_8_method_3_code
def yX6_join : MethodName := ⟨RX6, "join", "(II)Z"⟩
abbrev cX6_takeBack : ByteArray := prog_8_method_4_code
def yX6_takeBack : MethodName := ⟨RX6, "takeBack", "()V"⟩
abbrev cX6_clashesAmong : ByteArray := prog_8_method_5_code
def yX6_clashesAmong : MethodName := ⟨RX6, "clashesAmong", "(II)I"⟩
def RX7 : String := "Watermarkmill$Sale"
def TX7 : u_T := fun k => match k with
  | 0 => ("Watermarkmill$Sale", "mill", "I", true)
  | 1 => ("Watermarkmill$Sale", "year", "I", true)
  | _ => ("Watermarkmill$Sale", "earlier", "LWatermarkmill$Sale;", true)
def tyX7 : Nat → FieldType := fun k => match k with
  | 0 => .int
  | 1 => .int
  | _ => .object "Watermarkmill$Sale"
theorem nmX7 : ∀ a, a < 3 → ∀ b, b < 3 → a ≠ b → (TX7 a).2.1 ≠ (TX7 b).2.1 := by decide +kernel
theorem tyX7_ok : ∀ k, k < 3 → parseFieldDescriptor (TX7 k).2.2.1 = some (tyX7 k) := by decide +kernel
abbrev cX7_init : ByteArray := prog_9_method_1_code
def yX7_init : MethodName := ⟨RX7, "<init>", "(IILWatermarkmill$Sale;)V"⟩
def RX8 : String := "Watermarkmill"
def TX8 : u_T := fun k => match k with
  | 0 => ("Watermarkmill", "moulds", "Ljava/util/ArrayList;", true)
  | 1 => ("Watermarkmill", "lots", "Ljava/util/ArrayList;", true)
  | 2 => ("Watermarkmill", "reams", "Ljava/util/ArrayList;", true)
  | 3 => ("Watermarkmill", "documents", "Ljava/util/ArrayList;", true)
  | 4 => ("Watermarkmill", "images", "Ljava/util/ArrayList;", true)
  | 5 => ("Watermarkmill", "repertory", "LWatermarkmill$Repertory;", true)
  | 6 => ("Watermarkmill", "dating", "LWatermarkmill$Dating;", true)
  | 7 => ("Watermarkmill", "groupOfImage", "[I", true)
  | 8 => ("Watermarkmill", "tolerance", "I", false)
  | _ => ("Watermarkmill", "sales", "I", false)
def tyX8 : Nat → FieldType := fun k => match k with
  | 0 => .object "java/util/ArrayList"
  | 1 => .object "java/util/ArrayList"
  | 2 => .object "java/util/ArrayList"
  | 3 => .object "java/util/ArrayList"
  | 4 => .object "java/util/ArrayList"
  | 5 => .object "Watermarkmill$Repertory"
  | 6 => .object "Watermarkmill$Dating"
  | 7 => .array .int
  | 8 => .int
  | _ => .int
theorem nmX8 : ∀ a, a < 10 → ∀ b, b < 10 → a ≠ b → (TX8 a).2.1 ≠ (TX8 b).2.1 := by decide +kernel
theorem tyX8_ok : ∀ k, k < 10 → parseFieldDescriptor (TX8 k).2.2.1 = some (tyX8 k) := by decide +kernel
abbrev cX8_init : ByteArray := prog_1_method_1_code
def yX8_init : MethodName := ⟨RX8, "<init>", "()V"⟩
abbrev cX8_mould : ByteArray := prog_1_method_2_code
def yX8_mould : MethodName := ⟨RX8, "mould", "(IIIIII)I"⟩
abbrev cX8_copy : ByteArray := prog_1_method_3_code
def yX8_copy : MethodName := ⟨RX8, "copy", "(II)I"⟩
abbrev cX8_twin : ByteArray := prog_1_method_4_code
def yX8_twin : MethodName := ⟨RX8, "twin", "(II)Z"⟩
abbrev cX8_damage : ByteArray := prog_1_method_5_code
def yX8_damage : MethodName := ⟨RX8, "damage", "(IIZI)I"⟩
abbrev cX8_retire : ByteArray := prog_1_method_6_code
def yX8_retire : MethodName := ⟨RX8, "retire", "(II)I"⟩
abbrev cX8_sell : ByteArray := prog_1_method_7_code
def yX8_sell : MethodName := ⟨RX8, "sell", "(III)I"⟩
abbrev cX8_owner : ByteArray := prog_1_method_8_code
def yX8_owner : MethodName := ⟨RX8, "owner", "(II)I"⟩
abbrev cX8_state : ByteArray := prog_1_method_9_code
def yX8_state : MethodName := ⟨RX8, "state", "(II)I"⟩
abbrev cX8_wire : ByteArray := prog_1_method_10_code
def yX8_wire : MethodName := ⟨RX8, "wire", "(III)C"⟩
abbrev cX8_make : ByteArray := prog_1_method_11_code
def yX8_make : MethodName := ⟨RX8, "make", "(IZII)I"⟩
abbrev cX8_ream : ByteArray := prog_1_method_12_code
def yX8_ream : MethodName := ⟨RX8, "ream", "(I)I"⟩
abbrev cX8_put : ByteArray := prog_1_method_13_code
def yX8_put : MethodName := ⟨RX8, "put", "(III)I"⟩
abbrev cX8_tariff : ByteArray := prog_1_method_14_code
def yX8_tariff : MethodName := ⟨RX8, "tariff", "(I)I"⟩
abbrev cX8_document : ByteArray := prog_1_method_15_code
def yX8_document : MethodName := ⟨RX8, "document", "(II)I"⟩
abbrev cX8_use : ByteArray := prog_1_method_16_code
def yX8_use : MethodName := ⟨RX8, "use", "(III)I"⟩
abbrev cX8_cancel : ByteArray := prog_1_method_17_code
def yX8_cancel : MethodName := ⟨RX8, "cancel", "(IIII)Z"⟩
abbrev cX8_cancels : ByteArray := prog_1_method_18_code
def yX8_cancels : MethodName := ⟨RX8, "cancels", "(II)I"⟩
abbrev cX8_leafOf : ByteArray := prog_1_method_19_code
def yX8_leafOf : MethodName := ⟨RX8, "leafOf", "(III)I"⟩
abbrev cX8_markIn : ByteArray := prog_1_method_20_code
def yX8_markIn : MethodName := ⟨RX8, "markIn", "(II)I"⟩
abbrev cX8_conjugate : ByteArray := prog_1_method_21_code
def yX8_conjugate : MethodName := ⟨RX8, "conjugate", "(II)I"⟩
abbrev cX8_run : ByteArray := prog_1_method_22_code
def yX8_run : MethodName := ⟨RX8, "run", "(II)I"⟩
abbrev cX8_wash : ByteArray := prog_1_method_23_code
def yX8_wash : MethodName := ⟨RX8, "wash", "(I)Z"⟩
abbrev cX8_image : ByteArray := prog_1_method_24_code
def yX8_image : MethodName := ⟨RX8, "image", "(IIII)I"⟩
abbrev cX8_setTolerance : ByteArray := prog_1_method_25_code
def yX8_setTolerance : MethodName := ⟨RX8, "setTolerance", "(I)I"⟩
abbrev cX8_distance : ByteArray := prog_1_method_26_code
def yX8_distance : MethodName := ⟨RX8, "distance", "(II)I"⟩
abbrev cX8_compare : ByteArray := prog_1_method_27_code
def yX8_compare : MethodName := ⟨RX8, "compare", "(II)C"⟩
abbrev cX8_evidence : ByteArray := prog_1_method_28_code
def yX8_evidence : MethodName := ⟨RX8, "evidence", "(II)I"⟩
abbrev cX8_groups : ByteArray := prog_1_method_29_code
def yX8_groups : MethodName := ⟨RX8, "groups", "()I"⟩
abbrev cX8_merge : ByteArray := prog_1_method_30_code
def yX8_merge : MethodName := ⟨RX8, "merge", "(IIII)Z"⟩
abbrev cX8_unmerge : ByteArray := prog_1_method_31_code
def yX8_unmerge : MethodName := ⟨RX8, "unmerge", "()I"⟩
abbrev cX8_entry : ByteArray := prog_1_method_32_code
def yX8_entry : MethodName := ⟨RX8, "entry", "(II)I"⟩
abbrev cX8_clashes : ByteArray := prog_1_method_33_code
def yX8_clashes : MethodName := ⟨RX8, "clashes", "()I"⟩
abbrev cX8_claim : ByteArray := prog_1_method_34_code
def yX8_claim : MethodName := ⟨RX8, "claim", "(III)I"⟩
abbrev cX8_unclaim : ByteArray := prog_1_method_35_code
def yX8_unclaim : MethodName := ⟨RX8, "unclaim", "(III)I"⟩
abbrev cX8_date : ByteArray := prog_1_method_36_code
def yX8_date : MethodName := ⟨RX8, "date", "(II)I"⟩
abbrev cX8_setAge : ByteArray := prog_1_method_37_code
def yX8_setAge : MethodName := ⟨RX8, "setAge", "(I)I"⟩
abbrev cX8_fits : ByteArray := prog_1_method_38_code
def yX8_fits : MethodName := ⟨RX8, "fits", "()Z"⟩
abbrev cX8_year : ByteArray := prog_1_method_39_code
def yX8_year : MethodName := ⟨RX8, "year", "(IZ)I"⟩
abbrev cX8_ground : ByteArray := prog_1_method_40_code
def yX8_ground : MethodName := ⟨RX8, "ground", "(IZ)I"⟩
abbrev cX8_culprit : ByteArray := prog_1_method_41_code
def yX8_culprit : MethodName := ⟨RX8, "culprit", "()I"⟩
abbrev cX8_forged : ByteArray := prog_1_method_42_code
def yX8_forged : MethodName := ⟨RX8, "forged", "(II)C"⟩
abbrev cX8_years : ByteArray := prog_1_method_43_code
def yX8_years : MethodName := ⟨RX8, "years", "()J"⟩
abbrev cX8_usedShare : ByteArray := prog_1_method_44_code
def yX8_usedShare : MethodName := ⟨RX8, "usedShare", "()F"⟩
abbrev cX8_meanAge : ByteArray := prog_1_method_45_code
def yX8_meanAge : MethodName := ⟨RX8, "meanAge", "()D"⟩
abbrev cX8_isSound : ByteArray := prog_1_method_46_code
def yX8_isSound : MethodName := ⟨RX8, "isSound", "()Z"⟩
abbrev cX8_mouldAt : ByteArray := prog_1_method_47_code
def yX8_mouldAt : MethodName := ⟨RX8, "mouldAt", "(I)LWatermarkmill$Mould;"⟩
abbrev cX8_lotAt : ByteArray := prog_1_method_48_code
def yX8_lotAt : MethodName := ⟨RX8, "lotAt", "(I)LWatermarkmill$Lot;"⟩
abbrev cX8_reamAt : ByteArray := prog_1_method_49_code
def yX8_reamAt : MethodName := ⟨RX8, "reamAt", "(I)LWatermarkmill$Ream;"⟩
abbrev cX8_documentAt : ByteArray := prog_1_method_50_code
def yX8_documentAt : MethodName := ⟨RX8, "documentAt", "(I)LWatermarkmill$Document;"⟩
abbrev cX8_imageAt : ByteArray := prog_1_method_51_code
def yX8_imageAt : MethodName := ⟨RX8, "imageAt", "(I)LWatermarkmill$Image;"⟩
abbrev cX8_checkRange : ByteArray := prog_1_method_52_code
def yX8_checkRange : MethodName := ⟨RX8, "checkRange", "(III)V"⟩
abbrev cX8_checkYear : ByteArray := prog_1_method_53_code
def yX8_checkYear : MethodName := ⟨RX8, "checkYear", "(I)V"⟩
abbrev cX8_checkEntry : ByteArray := prog_1_method_54_code
def yX8_checkEntry : MethodName := ⟨RX8, "checkEntry", "(II)V"⟩
abbrev cX8_checkRoom : ByteArray := prog_1_method_55_code
def yX8_checkRoom : MethodName := ⟨RX8, "checkRoom", "(II)V"⟩
abbrev cX8_checkLeft : ByteArray := prog_1_method_56_code
def yX8_checkLeft : MethodName := ⟨RX8, "checkLeft", "(II)V"⟩
abbrev cX8_checkSheet : ByteArray := prog_1_method_57_code
def yX8_checkSheet : MethodName := ⟨RX8, "checkSheet", "(LWatermarkmill$Document;I)V"⟩
abbrev cX8_checkLeaf : ByteArray := prog_1_method_58_code
def yX8_checkLeaf : MethodName := ⟨RX8, "checkLeaf", "(LWatermarkmill$Document;I)V"⟩
abbrev cX8_checkFits : ByteArray := prog_1_method_59_code
def yX8_checkFits : MethodName := ⟨RX8, "checkFits", "(I)V"⟩
abbrev cX8_sheetOf : ByteArray := prog_1_method_60_code
def yX8_sheetOf : MethodName := ⟨RX8, "sheetOf", "(II)I"⟩
abbrev cX8_mouldOf : ByteArray := prog_1_method_61_code
def yX8_mouldOf : MethodName := ⟨RX8, "mouldOf", "(I)I"⟩
abbrev cX8_madeIn : ByteArray := prog_1_method_62_code
def yX8_madeIn : MethodName := ⟨RX8, "madeIn", "(I)I"⟩
abbrev cX8_stockOf : ByteArray := prog_1_method_63_code
def yX8_stockOf : MethodName := ⟨RX8, "stockOf", "(I)I"⟩
abbrev cX8_stockOfLeaf : ByteArray := prog_1_method_64_code
def yX8_stockOfLeaf : MethodName := ⟨RX8, "stockOfLeaf", "(LWatermarkmill$Document;II)I"⟩
abbrev cX8_tellStocks : ByteArray := prog_1_method_65_code
def yX8_tellStocks : MethodName := ⟨RX8, "tellStocks", "(LWatermarkmill$Document;)V"⟩
abbrev cX8_longestRun : ByteArray := prog_1_method_66_code
def yX8_longestRun : MethodName := ⟨RX8, "longestRun", "(LWatermarkmill$Document;LWatermarkmill$Document;I)I"⟩
abbrev cX8_verdictOn : ByteArray := prog_1_method_67_code
def yX8_verdictOn : MethodName := ⟨RX8, "verdictOn", "(LWatermarkmill$Image;LWatermarkmill$Image;)C"⟩
abbrev cX8_isOneGroup : ByteArray := prog_1_method_68_code
def yX8_isOneGroup : MethodName := ⟨RX8, "isOneGroup", "(LWatermarkmill$Image;LWatermarkmill$Image;)Z"⟩
abbrev cX8_joinGroups : ByteArray := prog_1_method_69_code
def yX8_joinGroups : MethodName := ⟨RX8, "joinGroups", "(II)V"⟩
abbrev cX8_sheetsMade : ByteArray := prog_1_method_70_code
def yX8_sheetsMade : MethodName := ⟨RX8, "sheetsMade", "()I"⟩
abbrev cX8_sheetsInLots : ByteArray := prog_1_method_71_code
def yX8_sheetsInLots : MethodName := ⟨RX8, "sheetsInLots", "()I"⟩
abbrev cX8_sheetsInReams : ByteArray := prog_1_method_72_code
def yX8_sheetsInReams : MethodName := ⟨RX8, "sheetsInReams", "()I"⟩
abbrev cX8_sheetsInDocuments : ByteArray := prog_1_method_73_code
def yX8_sheetsInDocuments : MethodName := ⟨RX8, "sheetsInDocuments", "()I"⟩
abbrev cX8_isDamageKept : ByteArray := prog_1_method_74_code
def yX8_isDamageKept : MethodName := ⟨RX8, "isDamageKept", "()Z"⟩
abbrev cX8_isPaperInTime : ByteArray := prog_1_method_75_code
def yX8_isPaperInTime : MethodName := ⟨RX8, "isPaperInTime", "()Z"⟩
abbrev cX8_isDatedAsTold : ByteArray := prog_1_method_76_code
def yX8_isDatedAsTold : MethodName := ⟨RX8, "isDatedAsTold", "()Z"⟩
def RX9 : String := "WatermarkmillModel$Document"
def TX9 : u_T := fun k => match k with
  | 0 => ("WatermarkmillModel$Document", "year", "I", true)
  | 1 => ("WatermarkmillModel$Document", "leaves", "I", true)
  | 2 => ("WatermarkmillModel$Document", "sheets", "Ljava/util/ArrayList;", true)
  | 3 => ("WatermarkmillModel$Document", "isWashed", "Z", false)
  | 4 => ("WatermarkmillModel$Document", "claims", "Ljava/util/ArrayList;", true)
  | _ => ("WatermarkmillModel$Document", "dated", "I", false)
def tyX9 : Nat → FieldType := fun k => match k with
  | 0 => .int
  | 1 => .int
  | 2 => .object "java/util/ArrayList"
  | 3 => .boolean
  | 4 => .object "java/util/ArrayList"
  | _ => .int
theorem nmX9 : ∀ a, a < 6 → ∀ b, b < 6 → a ≠ b → (TX9 a).2.1 ≠ (TX9 b).2.1 := by decide +kernel
theorem tyX9_ok : ∀ k, k < 6 → parseFieldDescriptor (TX9 k).2.2.1 = some (tyX9 k) := by decide +kernel
abbrev cX9_init : ByteArray := prog_12_method_1_code
def yX9_init : MethodName := ⟨RX9, "<init>", "(II)V"⟩
def RX10 : String := "WatermarkmillModel$Image"
def TX10 : u_T := fun k => match k with
  | 0 => ("WatermarkmillModel$Image", "mark", "I", true)
  | 1 => ("WatermarkmillModel$Image", "distances", "[I", true)
  | _ => ("WatermarkmillModel$Image", "wires", "[I", true)
def tyX10 : Nat → FieldType := fun k => match k with
  | 0 => .int
  | 1 => .array .int
  | _ => .array .int
theorem nmX10 : ∀ a, a < 3 → ∀ b, b < 3 → a ≠ b → (TX10 a).2.1 ≠ (TX10 b).2.1 := by decide +kernel
theorem tyX10_ok : ∀ k, k < 3 → parseFieldDescriptor (TX10 k).2.2.1 = some (tyX10 k) := by decide +kernel
abbrev cX10_init : ByteArray := prog_13_method_1_code
def yX10_init : MethodName := ⟨RX10, "<init>", "(I)V"⟩
def RX11 : String := "WatermarkmillModel$Mould"
def TX11 : u_T := fun k => match k with
  | 0 => ("WatermarkmillModel$Mould", "number", "I", true)
  | 1 => ("WatermarkmillModel$Mould", "mill", "I", true)
  | 2 => ("WatermarkmillModel$Mould", "mark", "I", true)
  | 3 => ("WatermarkmillModel$Mould", "distances", "[I", true)
  | 4 => ("WatermarkmillModel$Mould", "twin", "I", false)
  | 5 => ("WatermarkmillModel$Mould", "retired", "I", false)
  | 6 => ("WatermarkmillModel$Mould", "latest", "I", false)
  | 7 => ("WatermarkmillModel$Mould", "damages", "Ljava/util/ArrayList;", true)
  | _ => ("WatermarkmillModel$Mould", "sales", "Ljava/util/ArrayList;", true)
def tyX11 : Nat → FieldType := fun k => match k with
  | 0 => .int
  | 1 => .int
  | 2 => .int
  | 3 => .array .int
  | 4 => .int
  | 5 => .int
  | 6 => .int
  | 7 => .object "java/util/ArrayList"
  | _ => .object "java/util/ArrayList"
theorem nmX11 : ∀ a, a < 9 → ∀ b, b < 9 → a ≠ b → (TX11 a).2.1 ≠ (TX11 b).2.1 := by decide +kernel
theorem tyX11_ok : ∀ k, k < 9 → parseFieldDescriptor (TX11 k).2.2.1 = some (tyX11 k) := by decide +kernel
abbrev cX11_init : ByteArray := prog_14_method_1_code
def yX11_init : MethodName := ⟨RX11, "<init>", "(III[I)V"⟩
abbrev cX11_state : ByteArray := prog_14_method_2_code
def yX11_state : MethodName := ⟨RX11, "state", "(I)I"⟩
abbrev cX11_wire : ByteArray := prog_14_method_3_code
def yX11_wire : MethodName := ⟨RX11, "wire", "(II)I"⟩
abbrev cX11_owner : ByteArray := prog_14_method_4_code
def yX11_owner : MethodName := ⟨RX11, "owner", "(I)I"⟩
def RX12 : String := "WatermarkmillModel$Ream"
def TX12 : u_T := fun k => match k with
  | 0 => ("WatermarkmillModel$Ream", "mill", "I", true)
  | _ => ("WatermarkmillModel$Ream", "sheets", "Ljava/util/ArrayList;", true)
def tyX12 : Nat → FieldType := fun k => match k with
  | 0 => .int
  | _ => .object "java/util/ArrayList"
theorem nmX12 : ∀ a, a < 2 → ∀ b, b < 2 → a ≠ b → (TX12 a).2.1 ≠ (TX12 b).2.1 := by decide +kernel
theorem tyX12_ok : ∀ k, k < 2 → parseFieldDescriptor (TX12 k).2.2.1 = some (tyX12 k) := by decide +kernel
abbrev cX12_init : ByteArray := prog_15_method_1_code
def yX12_init : MethodName := ⟨RX12, "<init>", "(I)V"⟩
def RX13 : String := "WatermarkmillModel$Sheet"
def TX13 : u_T := fun k => match k with
  | 0 => ("WatermarkmillModel$Sheet", "mould", "LWatermarkmillModel$Mould;", true)
  | 1 => ("WatermarkmillModel$Sheet", "year", "I", true)
  | _ => ("WatermarkmillModel$Sheet", "leaves", "[LWatermarkmillModel$Sheet;", true)
def tyX13 : Nat → FieldType := fun k => match k with
  | 0 => .object "WatermarkmillModel$Mould"
  | 1 => .int
  | _ => .array (.object "WatermarkmillModel$Sheet")
theorem nmX13 : ∀ a, a < 3 → ∀ b, b < 3 → a ≠ b → (TX13 a).2.1 ≠ (TX13 b).2.1 := by decide +kernel
theorem tyX13_ok : ∀ k, k < 3 → parseFieldDescriptor (TX13 k).2.2.1 = some (tyX13 k) := by decide +kernel
abbrev cX13_init : ByteArray := prog_16_method_1_code
def yX13_init : MethodName := ⟨RX13, "<init>", "(LWatermarkmillModel$Mould;I)V"⟩
abbrev cX13_stock : ByteArray := prog_16_method_2_code
def yX13_stock : MethodName := ⟨RX13, "stock", "()I"⟩
def RX14 : String := "WatermarkmillModel"
def TX14 : u_T := fun k => match k with
  | 0 => ("WatermarkmillModel", "thrown", "I", false)
  | 1 => ("WatermarkmillModel", "moulds", "Ljava/util/ArrayList;", true)
  | 2 => ("WatermarkmillModel", "lots", "Ljava/util/ArrayList;", true)
  | 3 => ("WatermarkmillModel", "reams", "Ljava/util/ArrayList;", true)
  | 4 => ("WatermarkmillModel", "documents", "Ljava/util/ArrayList;", true)
  | 5 => ("WatermarkmillModel", "images", "Ljava/util/ArrayList;", true)
  | 6 => ("WatermarkmillModel", "merges", "Ljava/util/ArrayList;", true)
  | 7 => ("WatermarkmillModel", "made", "I", false)
  | 8 => ("WatermarkmillModel", "tolerance", "I", false)
  | 9 => ("WatermarkmillModel", "age", "I", false)
  | 10 => ("WatermarkmillModel", "firsts", "[I", true)
  | 11 => ("WatermarkmillModel", "lasts", "[I", true)
  | 12 => ("WatermarkmillModel", "madeFirst", "[[I", true)
  | 13 => ("WatermarkmillModel", "madeLast", "[[I", true)
  | 14 => ("WatermarkmillModel", "stateFirst", "[[I", true)
  | _ => ("WatermarkmillModel", "stateLast", "[[I", true)
def tyX14 : Nat → FieldType := fun k => match k with
  | 0 => .int
  | 1 => .object "java/util/ArrayList"
  | 2 => .object "java/util/ArrayList"
  | 3 => .object "java/util/ArrayList"
  | 4 => .object "java/util/ArrayList"
  | 5 => .object "java/util/ArrayList"
  | 6 => .object "java/util/ArrayList"
  | 7 => .int
  | 8 => .int
  | 9 => .int
  | 10 => .array .int
  | 11 => .array .int
  | 12 => .array (.array .int)
  | 13 => .array (.array .int)
  | 14 => .array (.array .int)
  | _ => .array (.array .int)
theorem nmX14 : ∀ a, a < 16 → ∀ b, b < 16 → a ≠ b → (TX14 a).2.1 ≠ (TX14 b).2.1 := by decide +kernel
theorem tyX14_ok : ∀ k, k < 16 → parseFieldDescriptor (TX14 k).2.2.1 = some (tyX14 k) := by decide +kernel
abbrev cX14_init : ByteArray := prog_11_method_1_code
def yX14_init : MethodName := ⟨RX14, "<init>", "()V"⟩
abbrev cX14_thrown : ByteArray := prog_11_method_2_code
def yX14_thrown : MethodName := ⟨RX14, "thrown", "()I"⟩
abbrev cX14_fails : ByteArray := prog_11_method_3_code
def yX14_fails : MethodName := ⟨RX14, "fails", "(I)Z"⟩
abbrev cX14_in : ByteArray := prog_11_method_4_code
def yX14_in : MethodName := ⟨RX14, "in", "(III)Z"⟩
abbrev cX14_isYear : ByteArray := prog_11_method_5_code
def yX14_isYear : MethodName := ⟨RX14, "isYear", "(I)Z"⟩
abbrev cX14_isMould : ByteArray := prog_11_method_6_code
def yX14_isMould : MethodName := ⟨RX14, "isMould", "(I)Z"⟩
abbrev cX14_isDocument : ByteArray := prog_11_method_7_code
def yX14_isDocument : MethodName := ⟨RX14, "isDocument", "(I)Z"⟩
abbrev cX14_failsMould : ByteArray := prog_11_method_8_code
def yX14_failsMould : MethodName := ⟨RX14, "failsMould", "(I)Z"⟩
abbrev cX14_failsDocument : ByteArray := prog_11_method_9_code
def yX14_failsDocument : MethodName := ⟨RX14, "failsDocument", "(I)Z"⟩
abbrev cX14_mould : ByteArray := prog_11_method_10_code
def yX14_mould : MethodName := ⟨RX14, "mould", "(IIIIII)I"⟩
abbrev cX14_copy : ByteArray := prog_11_method_11_code
def yX14_copy : MethodName := ⟨RX14, "copy", "(II)I"⟩
abbrev cX14_twin : ByteArray := prog_11_method_12_code
def yX14_twin : MethodName := ⟨RX14, "twin", "(II)Z"⟩
abbrev cX14_canBe : ByteArray := prog_11_method_13_code
def yX14_canBe : MethodName := ⟨RX14, "canBe", "(LWatermarkmillModel$Mould;I)Z"⟩
abbrev cX14_damage : ByteArray := prog_11_method_14_code
def yX14_damage : MethodName := ⟨RX14, "damage", "(IIZI)I"⟩
abbrev cX14_retire : ByteArray := prog_11_method_15_code
def yX14_retire : MethodName := ⟨RX14, "retire", "(II)I"⟩
abbrev cX14_sell : ByteArray := prog_11_method_16_code
def yX14_sell : MethodName := ⟨RX14, "sell", "(III)I"⟩
abbrev cX14_owner : ByteArray := prog_11_method_17_code
def yX14_owner : MethodName := ⟨RX14, "owner", "(II)I"⟩
abbrev cX14_state : ByteArray := prog_11_method_18_code
def yX14_state : MethodName := ⟨RX14, "state", "(II)I"⟩
abbrev cX14_letter : ByteArray := prog_11_method_19_code
def yX14_letter : MethodName := ⟨RX14, "letter", "(I)C"⟩
abbrev cX14_wire : ByteArray := prog_11_method_20_code
def yX14_wire : MethodName := ⟨RX14, "wire", "(III)C"⟩
abbrev cX14_make : ByteArray := prog_11_method_21_code
def yX14_make : MethodName := ⟨RX14, "make", "(IZII)I"⟩
abbrev cX14_ream : ByteArray := prog_11_method_22_code
def yX14_ream : MethodName := ⟨RX14, "ream", "(I)I"⟩
abbrev cX14_put : ByteArray := prog_11_method_23_code
def yX14_put : MethodName := ⟨RX14, "put", "(III)I"⟩
abbrev cX14_tariff : ByteArray := prog_11_method_24_code
def yX14_tariff : MethodName := ⟨RX14, "tariff", "(I)I"⟩
abbrev cX14_document : ByteArray := prog_11_method_25_code
def yX14_document : MethodName := ⟨RX14, "document", "(II)I"⟩
abbrev cX14_use : ByteArray := prog_11_method_26_code
def yX14_use : MethodName := ⟨RX14, "use", "(III)I"⟩
abbrev cX14_isSheet : ByteArray := prog_11_method_27_code
def yX14_isSheet : MethodName := ⟨RX14, "isSheet", "(II)Z"⟩
abbrev cX14_isLeaf : ByteArray := prog_11_method_28_code
def yX14_isLeaf : MethodName := ⟨RX14, "isLeaf", "(II)Z"⟩
abbrev cX14_cancel : ByteArray := prog_11_method_29_code
def yX14_cancel : MethodName := ⟨RX14, "cancel", "(IIII)Z"⟩
abbrev cX14_stock : ByteArray := prog_11_method_30_code
def yX14_stock : MethodName := ⟨RX14, "stock", "(LWatermarkmillModel$Sheet;I)I"⟩
abbrev cX14_cancels : ByteArray := prog_11_method_31_code
def yX14_cancels : MethodName := ⟨RX14, "cancels", "(II)I"⟩
abbrev cX14_leafOf : ByteArray := prog_11_method_32_code
def yX14_leafOf : MethodName := ⟨RX14, "leafOf", "(III)I"⟩
abbrev cX14_markIn : ByteArray := prog_11_method_33_code
def yX14_markIn : MethodName := ⟨RX14, "markIn", "(II)I"⟩
abbrev cX14_conjugate : ByteArray := prog_11_method_34_code
def yX14_conjugate : MethodName := ⟨RX14, "conjugate", "(II)I"⟩
abbrev cX14_run : ByteArray := prog_11_method_35_code
def yX14_run : MethodName := ⟨RX14, "run", "(II)I"⟩
abbrev cX14_wash : ByteArray := prog_11_method_36_code
def yX14_wash : MethodName := ⟨RX14, "wash", "(I)Z"⟩
abbrev cX14_image : ByteArray := prog_11_method_37_code
def yX14_image : MethodName := ⟨RX14, "image", "(IIII)I"⟩
abbrev cX14_setTolerance : ByteArray := prog_11_method_38_code
def yX14_setTolerance : MethodName := ⟨RX14, "setTolerance", "(I)I"⟩
abbrev cX14_distance : ByteArray := prog_11_method_39_code
def yX14_distance : MethodName := ⟨RX14, "distance", "(II)I"⟩
abbrev cX14_areImages : ByteArray := prog_11_method_40_code
def yX14_areImages : MethodName := ⟨RX14, "areImages", "(II)Z"⟩
abbrev cX14_compare : ByteArray := prog_11_method_41_code
def yX14_compare : MethodName := ⟨RX14, "compare", "(LWatermarkmillModel$Image;LWatermarkmillModel$Image;)C"⟩
abbrev cX14_compare_ : ByteArray := prog_11_method_42_code
def yX14_compare_ : MethodName := ⟨RX14, "compare", "(II)C"⟩
abbrev cX14_evidence : ByteArray := prog_11_method_43_code
def yX14_evidence : MethodName := ⟨RX14, "evidence", "(II)I"⟩
abbrev cX14_groups : ByteArray := prog_11_method_44_code
def yX14_groups : MethodName := ⟨RX14, "groups", "()I"⟩
abbrev cX14_join : ByteArray := prog_11_method_45_code
def yX14_join : MethodName := ⟨RX14, "join", "([III)V"⟩
abbrev cX14_repertory : ByteArray := prog_11_method_46_code
def yX14_repertory : MethodName := ⟨RX14, "repertory", "()[I"⟩
abbrev cX14_merge : ByteArray := prog_11_method_47_code
def yX14_merge : MethodName := ⟨RX14, "merge", "(IIII)Z"⟩
abbrev cX14_unmerge : ByteArray := prog_11_method_48_code
def yX14_unmerge : MethodName := ⟨RX14, "unmerge", "()I"⟩
abbrev cX14_entry : ByteArray := prog_11_method_49_code
def yX14_entry : MethodName := ⟨RX14, "entry", "(II)I"⟩
abbrev cX14_clashes : ByteArray := prog_11_method_50_code
def yX14_clashes : MethodName := ⟨RX14, "clashes", "()I"⟩
abbrev cX14_find : ByteArray := prog_11_method_51_code
def yX14_find : MethodName := ⟨RX14, "find", "(LWatermarkmillModel$Document;II)I"⟩
abbrev cX14_claim : ByteArray := prog_11_method_52_code
def yX14_claim : MethodName := ⟨RX14, "claim", "(III)I"⟩
abbrev cX14_unclaim : ByteArray := prog_11_method_53_code
def yX14_unclaim : MethodName := ⟨RX14, "unclaim", "(III)I"⟩
abbrev cX14_date : ByteArray := prog_11_method_54_code
def yX14_date : MethodName := ⟨RX14, "date", "(II)I"⟩
abbrev cX14_setAge : ByteArray := prog_11_method_55_code
def yX14_setAge : MethodName := ⟨RX14, "setAge", "(I)I"⟩
abbrev cX14_find_ : ByteArray := prog_11_method_56_code
def yX14_find_ : MethodName := ⟨RX14, "find", "(I)Z"⟩
abbrev cX14_gather : ByteArray := prog_11_method_57_code
def yX14_gather : MethodName := ⟨RX14, "gather", "()V"⟩
abbrev cX14_tighten : ByteArray := prog_11_method_58_code
def yX14_tighten : MethodName := ⟨RX14, "tighten", "(I)Z"⟩
abbrev cX14_fits : ByteArray := prog_11_method_59_code
def yX14_fits : MethodName := ⟨RX14, "fits", "()Z"⟩
abbrev cX14_bound : ByteArray := prog_11_method_60_code
def yX14_bound : MethodName := ⟨RX14, "bound", "(IZ)I"⟩
abbrev cX14_year : ByteArray := prog_11_method_61_code
def yX14_year : MethodName := ⟨RX14, "year", "(IZ)I"⟩
abbrev cX14_ground : ByteArray := prog_11_method_62_code
def yX14_ground : MethodName := ⟨RX14, "ground", "(IZ)I"⟩
abbrev cX14_culprit : ByteArray := prog_11_method_63_code
def yX14_culprit : MethodName := ⟨RX14, "culprit", "()I"⟩
abbrev cX14_forged : ByteArray := prog_11_method_64_code
def yX14_forged : MethodName := ⟨RX14, "forged", "(II)C"⟩
abbrev cX14_years : ByteArray := prog_11_method_65_code
def yX14_years : MethodName := ⟨RX14, "years", "()J"⟩
abbrev cX14_used : ByteArray := prog_11_method_66_code
def yX14_used : MethodName := ⟨RX14, "used", "()I"⟩
abbrev cX14_usedShare : ByteArray := prog_11_method_67_code
def yX14_usedShare : MethodName := ⟨RX14, "usedShare", "()F"⟩
abbrev cX14_meanAge : ByteArray := prog_11_method_68_code
def yX14_meanAge : MethodName := ⟨RX14, "meanAge", "()D"⟩
abbrev cX14_isSound : ByteArray := prog_11_method_69_code
def yX14_isSound : MethodName := ⟨RX14, "isSound", "()Z"⟩
def RJx145de : String := "java/io/Serializable"
def TJx145de : u_T := fun k => match k with
  | _ => ("", "", "", false)
def tyJx145de : Nat → FieldType := fun k => match k with
  | _ => .int
theorem nmJx145de : ∀ a, a < 0 → ∀ b, b < 0 → a ≠ b → (TJx145de a).2.1 ≠ (TJx145de b).2.1 := by decide +kernel
theorem tyJx145de_ok : ∀ k, k < 0 → parseFieldDescriptor (TJx145de k).2.2.1 = some (tyJx145de k) := by decide +kernel
def RJx00060 : String := "java/lang/ArrayIndexOutOfBoundsException"
def TJx00060 : u_T := fun k => match k with
  | 0 => ("java/lang/Throwable", "backtrace", "Ljava/lang/Object;", false)
  | 1 => ("java/lang/Throwable", "detailMessage", "Ljava/lang/String;", false)
  | 2 => ("java/lang/Throwable", "cause", "Ljava/lang/Throwable;", false)
  | 3 => ("java/lang/Throwable", "stackTrace", "[Ljava/lang/StackTraceElement;", false)
  | 4 => ("java/lang/Throwable", "depth", "I", false)
  | _ => ("java/lang/Throwable", "suppressedExceptions", "Ljava/util/List;", false)
def tyJx00060 : Nat → FieldType := fun k => match k with
  | 0 => .object "java/lang/Object"
  | 1 => .object "java/lang/String"
  | 2 => .object "java/lang/Throwable"
  | 3 => .array (.object "java/lang/StackTraceElement")
  | 4 => .int
  | _ => .object "java/util/List"
theorem nmJx00060 : ∀ a, a < 6 → ∀ b, b < 6 → a ≠ b → (TJx00060 a).2.1 ≠ (TJx00060 b).2.1 := by decide +kernel
theorem tyJx00060_ok : ∀ k, k < 6 → parseFieldDescriptor (TJx00060 k).2.2.1 = some (tyJx00060 k) := by decide +kernel
abbrev cJx00060_init_a7421 : ByteArray := prog_19_method_2_code
def yJx00060_init_a7421 : MethodName := ⟨RJx00060, "<init>", "(Ljava/lang/String;)V"⟩
def RJx8e188 : String := "java/lang/Cloneable"
def TJx8e188 : u_T := fun k => match k with
  | _ => ("", "", "", false)
def tyJx8e188 : Nat → FieldType := fun k => match k with
  | _ => .int
theorem nmJx8e188 : ∀ a, a < 0 → ∀ b, b < 0 → a ≠ b → (TJx8e188 a).2.1 ≠ (TJx8e188 b).2.1 := by decide +kernel
theorem tyJx8e188_ok : ∀ k, k < 0 → parseFieldDescriptor (TJx8e188 k).2.2.1 = some (tyJx8e188 k) := by decide +kernel
def RJxab1ab : String := "java/lang/Iterable"
def TJxab1ab : u_T := fun k => match k with
  | _ => ("", "", "", false)
def tyJxab1ab : Nat → FieldType := fun k => match k with
  | _ => .int
theorem nmJxab1ab : ∀ a, a < 0 → ∀ b, b < 0 → a ≠ b → (TJxab1ab a).2.1 ≠ (TJxab1ab b).2.1 := by decide +kernel
theorem tyJxab1ab_ok : ∀ k, k < 0 → parseFieldDescriptor (TJxab1ab k).2.2.1 = some (tyJxab1ab k) := by decide +kernel
def RJ9 : String := "java/lang/Math"
def TJ9 : u_T := fun k => match k with
  | _ => ("", "", "", false)
def tyJ9 : Nat → FieldType := fun k => match k with
  | _ => .int
theorem nmJ9 : ∀ a, a < 0 → ∀ b, b < 0 → a ≠ b → (TJ9 a).2.1 ≠ (TJ9 b).2.1 := by decide +kernel
theorem tyJ9_ok : ∀ k, k < 0 → parseFieldDescriptor (TJ9 k).2.2.1 = some (tyJ9 k) := by decide +kernel
abbrev cJ9_abs_0f7a4 : ByteArray := prog_26_method_59_code
def yJ9_abs_0f7a4 : MethodName := ⟨RJ9, "abs", "(I)I"⟩
abbrev cJ9_max_7cf53 : ByteArray := prog_26_method_65_code
def yJ9_max_7cf53 : MethodName := ⟨RJ9, "max", "(II)I"⟩
abbrev cJ9_min_7cf53 : ByteArray := prog_26_method_69_code
def yJ9_min_7cf53 : MethodName := ⟨RJ9, "min", "(II)I"⟩
def RJ0 : String := "java/lang/String"
def TJ0 : u_T := fun k => match k with
  | 0 => ("java/lang/String", "value", "[B", true)
  | _ => ("java/lang/String", "coder", "B", true)
def tyJ0 : Nat → FieldType := fun k => match k with
  | 0 => .array .byte
  | _ => .byte
theorem nmJ0 : ∀ a, a < 2 → ∀ b, b < 2 → a ≠ b → (TJ0 a).2.1 ≠ (TJ0 b).2.1 := by decide +kernel
theorem tyJ0_ok : ∀ k, k < 2 → parseFieldDescriptor (TJ0 k).2.2.1 = some (tyJ0 k) := by decide +kernel
def RJ10 : String := "java/lang/System"
def TJ10 : u_T := fun k => match k with
  | _ => ("", "", "", false)
def tyJ10 : Nat → FieldType := fun k => match k with
  | _ => .int
theorem nmJ10 : ∀ a, a < 0 → ∀ b, b < 0 → a ≠ b → (TJ10 a).2.1 ≠ (TJ10 b).2.1 := by decide +kernel
theorem tyJ10_ok : ∀ k, k < 0 → parseFieldDescriptor (TJ10 k).2.2.1 = some (tyJ10 k) := by decide +kernel
def RJxa1e45 : String := "java/util/AbstractCollection"
def TJxa1e45 : u_T := fun k => match k with
  | _ => ("", "", "", false)
def tyJxa1e45 : Nat → FieldType := fun k => match k with
  | _ => .int
theorem nmJxa1e45 : ∀ a, a < 0 → ∀ b, b < 0 → a ≠ b → (TJxa1e45 a).2.1 ≠ (TJxa1e45 b).2.1 := by decide +kernel
theorem tyJxa1e45_ok : ∀ k, k < 0 → parseFieldDescriptor (TJxa1e45 k).2.2.1 = some (tyJxa1e45 k) := by decide +kernel
abbrev cJxa1e45_init_da8c8 : ByteArray := prog_32_method_1_code
def yJxa1e45_init_da8c8 : MethodName := ⟨RJxa1e45, "<init>", "()V"⟩
def RJxc12de : String := "java/util/AbstractList"
def TJxc12de : u_T := fun k => match k with
  | _ => ("", "", "", false)
def tyJxc12de : Nat → FieldType := fun k => match k with
  | _ => .int
theorem nmJxc12de : ∀ a, a < 0 → ∀ b, b < 0 → a ≠ b → (TJxc12de a).2.1 ≠ (TJxc12de b).2.1 := by decide +kernel
theorem tyJxc12de_ok : ∀ k, k < 0 → parseFieldDescriptor (TJxc12de k).2.2.1 = some (tyJxc12de k) := by decide +kernel
abbrev cJxc12de_init_da8c8 : ByteArray := prog_33_method_1_code
def yJxc12de_init_da8c8 : MethodName := ⟨RJxc12de, "<init>", "()V"⟩
def RJx35411 : String := "java/util/ArrayList$Itr"
def TJx35411 : u_T := fun k => match k with
  | 0 => ("java/util/ArrayList$Itr", "cursor", "I", false)
  | 1 => ("java/util/ArrayList$Itr", "lastRet", "I", false)
  | 2 => ("java/util/ArrayList$Itr", "expectedModCount", "I", false)
  | _ => ("java/util/ArrayList$Itr", "this$0", "Ljava/util/ArrayList;", true)
def tyJx35411 : Nat → FieldType := fun k => match k with
  | 0 => .int
  | 1 => .int
  | 2 => .int
  | _ => .object "java/util/ArrayList"
theorem nmJx35411 : ∀ a, a < 4 → ∀ b, b < 4 → a ≠ b → (TJx35411 a).2.1 ≠ (TJx35411 b).2.1 := by decide +kernel
theorem tyJx35411_ok : ∀ k, k < 4 → parseFieldDescriptor (TJx35411 k).2.2.1 = some (tyJx35411 k) := by decide +kernel
abbrev cJx35411_init_45d68 : ByteArray := prog_35_method_1_code
def yJx35411_init_45d68 : MethodName := ⟨RJx35411, "<init>", "(Ljava/util/ArrayList;)V"⟩
abbrev cJx35411_hasNext_aae02 : ByteArray := prog_35_method_2_code
def yJx35411_hasNext_aae02 : MethodName := ⟨RJx35411, "hasNext", "()Z"⟩
abbrev cJx35411_next_0502b : ByteArray := prog_35_method_3_code
def yJx35411_next_0502b : MethodName := ⟨RJx35411, "next", "()Ljava/lang/Object;"⟩
abbrev cJx35411_checkForComodification_da8c8 : ByteArray := prog_35_method_6_code
def yJx35411_checkForComodification_da8c8 : MethodName := ⟨RJx35411, "checkForComodification", "()V"⟩
def RJx4a65c : String := "java/util/ArrayList"
def TJx4a65c : u_T := fun k => match k with
  | 0 => ("java/util/AbstractList", "modCount", "I", false)
  | 1 => ("java/util/ArrayList", "elementData", "[Ljava/lang/Object;", false)
  | _ => ("java/util/ArrayList", "size", "I", false)
def tyJx4a65c : Nat → FieldType := fun k => match k with
  | 0 => .int
  | 1 => .array (.object "java/lang/Object")
  | _ => .int
theorem nmJx4a65c : ∀ a, a < 3 → ∀ b, b < 3 → a ≠ b → (TJx4a65c a).2.1 ≠ (TJx4a65c b).2.1 := by decide +kernel
theorem tyJx4a65c_ok : ∀ k, k < 3 → parseFieldDescriptor (TJx4a65c k).2.2.1 = some (tyJx4a65c k) := by decide +kernel
abbrev cJx4a65c_init_da8c8 : ByteArray := prog_34_method_2_code
def yJx4a65c_init_da8c8 : MethodName := ⟨RJx4a65c, "<init>", "()V"⟩
abbrev cJx4a65c_grow_92f84 : ByteArray := prog_34_method_6_code
def yJx4a65c_grow_92f84 : MethodName := ⟨RJx4a65c, "grow", "(I)[Ljava/lang/Object;"⟩
abbrev cJx4a65c_grow_d5877 : ByteArray := prog_34_method_7_code
def yJx4a65c_grow_d5877 : MethodName := ⟨RJx4a65c, "grow", "()[Ljava/lang/Object;"⟩
abbrev cJx4a65c_size_8abf5 : ByteArray := prog_34_method_8_code
def yJx4a65c_size_8abf5 : MethodName := ⟨RJx4a65c, "size", "()I"⟩
abbrev cJx4a65c_isEmpty_aae02 : ByteArray := prog_34_method_9_code
def yJx4a65c_isEmpty_aae02 : MethodName := ⟨RJx4a65c, "isEmpty", "()Z"⟩
abbrev cJx4a65c_elementData_915e3 : ByteArray := prog_34_method_18_code
def yJx4a65c_elementData_915e3 : MethodName := ⟨RJx4a65c, "elementData", "(I)Ljava/lang/Object;"⟩
abbrev cJx4a65c_get_915e3 : ByteArray := prog_34_method_20_code
def yJx4a65c_get_915e3 : MethodName := ⟨RJx4a65c, "get", "(I)Ljava/lang/Object;"⟩
abbrev cJx4a65c_add_72be8 : ByteArray := prog_34_method_24_code
def yJx4a65c_add_72be8 : MethodName := ⟨RJx4a65c, "add", "(Ljava/lang/Object;[Ljava/lang/Object;I)V"⟩
abbrev cJx4a65c_add_9ea2d : ByteArray := prog_34_method_25_code
def yJx4a65c_add_9ea2d : MethodName := ⟨RJx4a65c, "add", "(Ljava/lang/Object;)Z"⟩
abbrev cJx4a65c_remove_915e3 : ByteArray := prog_34_method_29_code
def yJx4a65c_remove_915e3 : MethodName := ⟨RJx4a65c, "remove", "(I)Ljava/lang/Object;"⟩
abbrev cJx4a65c_fastRemove_b59b0 : ByteArray := prog_34_method_39_code
def yJx4a65c_fastRemove_b59b0 : MethodName := ⟨RJx4a65c, "fastRemove", "([Ljava/lang/Object;I)V"⟩
abbrev cJx4a65c_iterator_32c93 : ByteArray := prog_34_method_55_code
def yJx4a65c_iterator_32c93 : MethodName := ⟨RJx4a65c, "iterator", "()Ljava/util/Iterator;"⟩
def RJ7 : String := "java/util/Arrays"
def TJ7 : u_T := fun k => match k with
  | _ => ("", "", "", false)
def tyJ7 : Nat → FieldType := fun k => match k with
  | _ => .int
theorem nmJ7 : ∀ a, a < 0 → ∀ b, b < 0 → a ≠ b → (TJ7 a).2.1 ≠ (TJ7 b).2.1 := by decide +kernel
theorem tyJ7_ok : ∀ k, k < 0 → parseFieldDescriptor (TJ7 k).2.2.1 = some (tyJ7 k) := by decide +kernel
abbrev cJ7_fill_53178 : ByteArray := prog_36_method_103_code
def yJ7_fill_53178 : MethodName := ⟨RJ7, "fill", "([II)V"⟩
abbrev cJ7_copyOf_1904c : ByteArray := prog_36_method_119_code
def yJ7_copyOf_1904c : MethodName := ⟨RJ7, "copyOf", "([Ljava/lang/Object;I)[Ljava/lang/Object;"⟩
abbrev cJ7_copyOf_6403c : ByteArray := prog_36_method_120_code
def yJ7_copyOf_6403c : MethodName := ⟨RJ7, "copyOf", "([Ljava/lang/Object;ILjava/lang/Class;)[Ljava/lang/Object;"⟩
def RJx5ef63 : String := "java/util/Collection"
def TJx5ef63 : u_T := fun k => match k with
  | _ => ("", "", "", false)
def tyJx5ef63 : Nat → FieldType := fun k => match k with
  | _ => .int
theorem nmJx5ef63 : ∀ a, a < 0 → ∀ b, b < 0 → a ≠ b → (TJx5ef63 a).2.1 ≠ (TJx5ef63 b).2.1 := by decide +kernel
theorem tyJx5ef63_ok : ∀ k, k < 0 → parseFieldDescriptor (TJx5ef63 k).2.2.1 = some (tyJx5ef63 k) := by decide +kernel
def RJx4d0d8 : String := "java/util/Iterator"
def TJx4d0d8 : u_T := fun k => match k with
  | _ => ("", "", "", false)
def tyJx4d0d8 : Nat → FieldType := fun k => match k with
  | _ => .int
theorem nmJx4d0d8 : ∀ a, a < 0 → ∀ b, b < 0 → a ≠ b → (TJx4d0d8 a).2.1 ≠ (TJx4d0d8 b).2.1 := by decide +kernel
theorem tyJx4d0d8_ok : ∀ k, k < 0 → parseFieldDescriptor (TJx4d0d8 k).2.2.1 = some (tyJx4d0d8 k) := by decide +kernel
def RJxbd725 : String := "java/util/List"
def TJxbd725 : u_T := fun k => match k with
  | _ => ("", "", "", false)
def tyJxbd725 : Nat → FieldType := fun k => match k with
  | _ => .int
theorem nmJxbd725 : ∀ a, a < 0 → ∀ b, b < 0 → a ≠ b → (TJxbd725 a).2.1 ≠ (TJxbd725 b).2.1 := by decide +kernel
theorem tyJxbd725_ok : ∀ k, k < 0 → parseFieldDescriptor (TJxbd725 k).2.2.1 = some (tyJxbd725 k) := by decide +kernel
def RJ15 : String := "java/util/Objects"
def TJ15 : u_T := fun k => match k with
  | _ => ("", "", "", false)
def tyJ15 : Nat → FieldType := fun k => match k with
  | _ => .int
theorem nmJ15 : ∀ a, a < 0 → ∀ b, b < 0 → a ≠ b → (TJ15 a).2.1 ≠ (TJ15 b).2.1 := by decide +kernel
theorem tyJ15_ok : ∀ k, k < 0 → parseFieldDescriptor (TJ15 k).2.2.1 = some (tyJ15 k) := by decide +kernel
abbrev cJ15_checkIndex_7cf53 : ByteArray := prog_41_method_17_code
def yJ15_checkIndex_7cf53 : MethodName := ⟨RJ15, "checkIndex", "(II)I"⟩
def RJxf0a74 : String := "java/util/RandomAccess"
def TJxf0a74 : u_T := fun k => match k with
  | _ => ("", "", "", false)
def tyJxf0a74 : Nat → FieldType := fun k => match k with
  | _ => .int
theorem nmJxf0a74 : ∀ a, a < 0 → ∀ b, b < 0 → a ≠ b → (TJxf0a74 a).2.1 ≠ (TJxf0a74 b).2.1 := by decide +kernel
theorem tyJxf0a74_ok : ∀ k, k < 0 → parseFieldDescriptor (TJxf0a74 k).2.2.1 = some (tyJxf0a74 k) := by decide +kernel
def RJxa66e6 : String := "java/util/SequencedCollection"
def TJxa66e6 : u_T := fun k => match k with
  | _ => ("", "", "", false)
def tyJxa66e6 : Nat → FieldType := fun k => match k with
  | _ => .int
theorem nmJxa66e6 : ∀ a, a < 0 → ∀ b, b < 0 → a ≠ b → (TJxa66e6 a).2.1 ≠ (TJxa66e6 b).2.1 := by decide +kernel
theorem tyJxa66e6_ok : ∀ k, k < 0 → parseFieldDescriptor (TJxa66e6 k).2.2.1 = some (tyJxa66e6 k) := by decide +kernel
def RJ8 : String := "jdk/internal/util/ArraysSupport"
def TJ8 : u_T := fun k => match k with
  | _ => ("", "", "", false)
def tyJ8 : Nat → FieldType := fun k => match k with
  | _ => .int
theorem nmJ8 : ∀ a, a < 0 → ∀ b, b < 0 → a ≠ b → (TJ8 a).2.1 ≠ (TJ8 b).2.1 := by decide +kernel
theorem tyJ8_ok : ∀ k, k < 0 → parseFieldDescriptor (TJ8 k).2.2.1 = some (tyJ8 k) := by decide +kernel
abbrev cJ8_newLength_cabcc : ByteArray := prog_44_method_27_code
def yJ8_newLength_cabcc : MethodName := ⟨RJ8, "newLength", "(III)I"⟩
abbrev cJ8_hugeLength_7cf53 : ByteArray := prog_44_method_28_code
def yJ8_hugeLength_7cf53 : MethodName := ⟨RJ8, "hugeLength", "(II)I"⟩
def RJ3 : String := "jdk/internal/util/Preconditions"
def TJ3 : u_T := fun k => match k with
  | _ => ("", "", "", false)
def tyJ3 : Nat → FieldType := fun k => match k with
  | _ => .int
theorem nmJ3 : ∀ a, a < 0 → ∀ b, b < 0 → a ≠ b → (TJ3 a).2.1 ≠ (TJ3 b).2.1 := by decide +kernel
theorem tyJ3_ok : ∀ k, k < 0 → parseFieldDescriptor (TJ3 k).2.2.1 = some (tyJ3 k) := by decide +kernel
abbrev cJ3_checkIndex_8e157 : ByteArray := prog_45_method_11_code
def yJ3_checkIndex_8e157 : MethodName := ⟨RJ3, "checkIndex", "(IILjava/util/function/BiFunction;)I"⟩
def RL : String := "WatermarkmillLaw"
abbrev cL_mould : ByteArray := method_3_code
def yL_mould : MethodName := ⟨RL, "mould", "(LWatermarkmill;IIIIII[J)I"⟩
abbrev cL_copy : ByteArray := method_4_code
def yL_copy : MethodName := ⟨RL, "copy", "(LWatermarkmill;II[J)I"⟩
abbrev cL_twin : ByteArray := method_5_code
def yL_twin : MethodName := ⟨RL, "twin", "(LWatermarkmill;II[J)I"⟩
abbrev cL_damage : ByteArray := method_6_code
def yL_damage : MethodName := ⟨RL, "damage", "(LWatermarkmill;IIZI[J)I"⟩
abbrev cL_retire : ByteArray := method_7_code
def yL_retire : MethodName := ⟨RL, "retire", "(LWatermarkmill;II[J)I"⟩
abbrev cL_sell : ByteArray := method_8_code
def yL_sell : MethodName := ⟨RL, "sell", "(LWatermarkmill;III[J)I"⟩
abbrev cL_owner : ByteArray := method_9_code
def yL_owner : MethodName := ⟨RL, "owner", "(LWatermarkmill;II[J)I"⟩
abbrev cL_state : ByteArray := method_10_code
def yL_state : MethodName := ⟨RL, "state", "(LWatermarkmill;II[J)I"⟩
abbrev cL_wire : ByteArray := method_11_code
def yL_wire : MethodName := ⟨RL, "wire", "(LWatermarkmill;III[J)I"⟩
abbrev cL_make : ByteArray := method_12_code
def yL_make : MethodName := ⟨RL, "make", "(LWatermarkmill;IZII[J)I"⟩
abbrev cL_ream : ByteArray := method_13_code
def yL_ream : MethodName := ⟨RL, "ream", "(LWatermarkmill;I[J)I"⟩
abbrev cL_put : ByteArray := method_14_code
def yL_put : MethodName := ⟨RL, "put", "(LWatermarkmill;III[J)I"⟩
abbrev cL_tariff : ByteArray := method_15_code
def yL_tariff : MethodName := ⟨RL, "tariff", "(LWatermarkmill;I[J)I"⟩
abbrev cL_document : ByteArray := method_16_code
def yL_document : MethodName := ⟨RL, "document", "(LWatermarkmill;II[J)I"⟩
abbrev cL_use : ByteArray := method_17_code
def yL_use : MethodName := ⟨RL, "use", "(LWatermarkmill;III[J)I"⟩
abbrev cL_cancel : ByteArray := method_18_code
def yL_cancel : MethodName := ⟨RL, "cancel", "(LWatermarkmill;IIII[J)I"⟩
abbrev cL_cancels : ByteArray := method_19_code
def yL_cancels : MethodName := ⟨RL, "cancels", "(LWatermarkmill;II[J)I"⟩
abbrev cL_leafOf : ByteArray := method_20_code
def yL_leafOf : MethodName := ⟨RL, "leafOf", "(LWatermarkmill;III[J)I"⟩
abbrev cL_markIn : ByteArray := method_21_code
def yL_markIn : MethodName := ⟨RL, "markIn", "(LWatermarkmill;II[J)I"⟩
abbrev cL_conjugate : ByteArray := method_22_code
def yL_conjugate : MethodName := ⟨RL, "conjugate", "(LWatermarkmill;II[J)I"⟩
abbrev cL_run : ByteArray := method_23_code
def yL_run : MethodName := ⟨RL, "run", "(LWatermarkmill;II[J)I"⟩
abbrev cL_wash : ByteArray := method_24_code
def yL_wash : MethodName := ⟨RL, "wash", "(LWatermarkmill;I[J)I"⟩
abbrev cL_image : ByteArray := method_25_code
def yL_image : MethodName := ⟨RL, "image", "(LWatermarkmill;IIII[J)I"⟩
abbrev cL_setTolerance : ByteArray := method_26_code
def yL_setTolerance : MethodName := ⟨RL, "setTolerance", "(LWatermarkmill;I[J)I"⟩
abbrev cL_distance : ByteArray := method_27_code
def yL_distance : MethodName := ⟨RL, "distance", "(LWatermarkmill;II[J)I"⟩
abbrev cL_compare : ByteArray := method_28_code
def yL_compare : MethodName := ⟨RL, "compare", "(LWatermarkmill;II[J)I"⟩
abbrev cL_evidence : ByteArray := method_29_code
def yL_evidence : MethodName := ⟨RL, "evidence", "(LWatermarkmill;II[J)I"⟩
abbrev cL_merge : ByteArray := method_30_code
def yL_merge : MethodName := ⟨RL, "merge", "(LWatermarkmill;IIII[J)I"⟩
abbrev cL_unmerge : ByteArray := method_31_code
def yL_unmerge : MethodName := ⟨RL, "unmerge", "(LWatermarkmill;[J)I"⟩
abbrev cL_entry : ByteArray := method_32_code
def yL_entry : MethodName := ⟨RL, "entry", "(LWatermarkmill;II[J)I"⟩
abbrev cL_claim : ByteArray := method_33_code
def yL_claim : MethodName := ⟨RL, "claim", "(LWatermarkmill;III[J)I"⟩
abbrev cL_unclaim : ByteArray := method_34_code
def yL_unclaim : MethodName := ⟨RL, "unclaim", "(LWatermarkmill;III[J)I"⟩
abbrev cL_date : ByteArray := method_35_code
def yL_date : MethodName := ⟨RL, "date", "(LWatermarkmill;II[J)I"⟩
abbrev cL_setAge : ByteArray := method_36_code
def yL_setAge : MethodName := ⟨RL, "setAge", "(LWatermarkmill;I[J)I"⟩
abbrev cL_year : ByteArray := method_37_code
def yL_year : MethodName := ⟨RL, "year", "(LWatermarkmill;IZ[J)I"⟩
abbrev cL_ground : ByteArray := method_38_code
def yL_ground : MethodName := ⟨RL, "ground", "(LWatermarkmill;IZ[J)I"⟩
abbrev cL_culprit : ByteArray := method_39_code
def yL_culprit : MethodName := ⟨RL, "culprit", "(LWatermarkmill;[J)I"⟩
abbrev cL_forged : ByteArray := method_40_code
def yL_forged : MethodName := ⟨RL, "forged", "(LWatermarkmill;II[J)I"⟩
abbrev cL_years : ByteArray := method_41_code
def yL_years : MethodName := ⟨RL, "years", "(LWatermarkmill;[J)I"⟩
abbrev cL_usedShare : ByteArray := method_42_code
def yL_usedShare : MethodName := ⟨RL, "usedShare", "(LWatermarkmill;[D)I"⟩
abbrev cL_meanAge : ByteArray := method_43_code
def yL_meanAge : MethodName := ⟨RL, "meanAge", "(LWatermarkmill;[D)I"⟩
abbrev cL_law : ByteArray := code
def yL_law : MethodName := ⟨RL, "law", "([I)Z"⟩
abbrev vwCl : List vw_C := [(RJx35411, TJx35411, 4), (RJx00060, TJx00060, 6), (RJx35411, TJx35411, 4), (RJx4a65c, TJx4a65c, 3), (RX0, TX0, 6), (RX1, TX1, 7), (RX2, TX2, 4), (RX3, TX3, 5), (RX4, TX4, 11), (RX5, TX5, 3), (RX6, TX6, 4), (RX7, TX7, 3), (RX8, TX8, 10), (RX9, TX9, 6), (RX10, TX10, 3), (RX11, TX11, 9), (RX12, TX12, 2), (RX13, TX13, 3), (RX14, TX14, 16)]
