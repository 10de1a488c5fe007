def RX0 : String := "Strikehall$Contract"
def TX0 : u_T := fun k => match k with
  | 0 => ("Strikehall$Contract", "kind", "I", true)
  | 1 => ("Strikehall$Contract", "strike", "I", true)
  | 2 => ("Strikehall$Contract", "expiry", "I", true)
  | 3 => ("Strikehall$Contract", "isAmerican", "Z", true)
  | 4 => ("Strikehall$Contract", "held", "[I", true)
  | 5 => ("Strikehall$Contract", "notices", "[Z", true)
  | 6 => ("Strikehall$Contract", "bid", "I", false)
  | 7 => ("Strikehall$Contract", "ask", "I", false)
  | 8 => ("Strikehall$Contract", "bidLeft", "I", false)
  | _ => ("Strikehall$Contract", "askLeft", "I", false)
def tyX0 : Nat → FieldType := fun k => match k with
  | 0 => .int
  | 1 => .int
  | 2 => .int
  | 3 => .boolean
  | 4 => .array .int
  | 5 => .array .boolean
  | 6 => .int
  | 7 => .int
  | 8 => .int
  | _ => .int
theorem nmX0 : ∀ a, a < 10 → ∀ b, b < 10 → a ≠ b → (TX0 a).2.1 ≠ (TX0 b).2.1 := by decide +kernel
theorem tyX0_ok : ∀ k, k < 10 → parseFieldDescriptor (TX0 k).2.2.1 = some (tyX0 k) := by decide +kernel
abbrev cX0_init : ByteArray := prog_2_method_1_code
def yX0_init : MethodName := ⟨RX0, "<init>", "(IIIZ)V"⟩
abbrev cX0_paysAt : ByteArray := prog_2_method_2_code
def yX0_paysAt : MethodName := ⟨RX0, "paysAt", "(I)I"⟩
abbrev cX0_tellQuote : ByteArray := prog_2_method_3_code
def yX0_tellQuote : MethodName := ⟨RX0, "tellQuote", "(III)V"⟩
abbrev cX0_takeQuoteAway : ByteArray := prog_2_method_4_code
def yX0_takeQuoteAway : MethodName := ⟨RX0, "takeQuoteAway", "()V"⟩
abbrev cX0_endQuoteUsedUp : ByteArray := prog_2_method_5_code
def yX0_endQuoteUsedUp : MethodName := ⟨RX0, "endQuoteUsedUp", "()V"⟩
abbrev cX0_hasSomethingLeft : ByteArray := prog_2_method_6_code
def yX0_hasSomethingLeft : MethodName := ⟨RX0, "hasSomethingLeft", "()Z"⟩
abbrev cX0_isQuotedBoth : ByteArray := prog_2_method_7_code
def yX0_isQuotedBoth : MethodName := ⟨RX0, "isQuotedBoth", "()Z"⟩
abbrev cX0_lotsAt : ByteArray := prog_2_method_8_code
def yX0_lotsAt : MethodName := ⟨RX0, "lotsAt", "(I)I"⟩
abbrev cX0_addLots : ByteArray := prog_2_method_9_code
def yX0_addLots : MethodName := ⟨RX0, "addLots", "(II)V"⟩
abbrev cX0_dropLots : ByteArray := prog_2_method_10_code
def yX0_dropLots : MethodName := ⟨RX0, "dropLots", "()V"⟩
abbrev cX0_hasNotice : ByteArray := prog_2_method_11_code
def yX0_hasNotice : MethodName := ⟨RX0, "hasNotice", "(I)Z"⟩
abbrev cX0_setNotice : ByteArray := prog_2_method_12_code
def yX0_setNotice : MethodName := ⟨RX0, "setNotice", "(IZ)Z"⟩
abbrev cX0_owed : ByteArray := prog_2_method_13_code
def yX0_owed : MethodName := ⟨RX0, "owed", "()I"⟩
abbrev cX0_owerOf : ByteArray := prog_2_method_14_code
def yX0_owerOf : MethodName := ⟨RX0, "owerOf", "(I)I"⟩
def RX1 : String := "Strikehall$Lottery"
def TX1 : u_T := fun k => match k with
  | _ => ("Strikehall$Lottery", "state", "J", false)
def tyX1 : Nat → FieldType := fun k => match k with
  | _ => .long
theorem nmX1 : ∀ a, a < 1 → ∀ b, b < 1 → a ≠ b → (TX1 a).2.1 ≠ (TX1 b).2.1 := by decide +kernel
theorem tyX1_ok : ∀ k, k < 1 → parseFieldDescriptor (TX1 k).2.2.1 = some (tyX1 k) := by decide +kernel
abbrev cX1_init : ByteArray := prog_3_method_1_code
def yX1_init : MethodName := ⟨RX1, "<init>", "()V"⟩
abbrev cX1_drawOf : ByteArray := prog_3_method_2_code
def yX1_drawOf : MethodName := ⟨RX1, "drawOf", "(I)I"⟩
def RX2 : String := "Strikehall$Share"
def TX2 : u_T := fun k => match k with
  | 0 => ("Strikehall$Share", "dividends", "[I", true)
  | 1 => ("Strikehall$Share", "row", "[J", true)
  | 2 => ("Strikehall$Share", "price", "I", false)
  | 3 => ("Strikehall$Share", "up", "I", false)
  | 4 => ("Strikehall$Share", "down", "I", false)
  | _ => ("Strikehall$Share", "today", "I", false)
def tyX2 : Nat → FieldType := fun k => match k with
  | 0 => .array .int
  | 1 => .array .long
  | 2 => .int
  | 3 => .int
  | 4 => .int
  | _ => .int
theorem nmX2 : ∀ a, a < 6 → ∀ b, b < 6 → a ≠ b → (TX2 a).2.1 ≠ (TX2 b).2.1 := by decide +kernel
theorem tyX2_ok : ∀ k, k < 6 → parseFieldDescriptor (TX2 k).2.2.1 = some (tyX2 k) := by decide +kernel
abbrev cX2_init : ByteArray := prog_4_method_1_code
def yX2_init : MethodName := ⟨RX2, "<init>", "()V"⟩
abbrev cX2_dividendOn : ByteArray := prog_4_method_2_code
def yX2_dividendOn : MethodName := ⟨RX2, "dividendOn", "(I)I"⟩
abbrev cX2_tellDividend : ByteArray := prog_4_method_3_code
def yX2_tellDividend : MethodName := ⟨RX2, "tellDividend", "(II)V"⟩
abbrev cX2_belowOf : ByteArray := prog_4_method_4_code
def yX2_belowOf : MethodName := ⟨RX2, "belowOf", "(LStrikehall$Contract;)J"⟩
abbrev cX2_markAt : ByteArray := prog_4_method_5_code
def yX2_markAt : MethodName := ⟨RX2, "markAt", "(LStrikehall$Contract;I)I"⟩
abbrev cX2_numberAt : ByteArray := prog_4_method_6_code
def yX2_numberAt : MethodName := ⟨RX2, "numberAt", "(LStrikehall$Contract;I)J"⟩
abbrev cX2_lowestAfter : ByteArray := prog_4_method_7_code
def yX2_lowestAfter : MethodName := ⟨RX2, "lowestAfter", "(II)I"⟩
def RX3 : String := "Strikehall"
def TX3 : u_T := fun k => match k with
  | 0 => ("Strikehall", "share", "LStrikehall$Share;", true)
  | 1 => ("Strikehall", "lottery", "LStrikehall$Lottery;", true)
  | 2 => ("Strikehall", "contracts", "Ljava/util/ArrayList;", true)
  | 3 => ("Strikehall", "purses", "[J", true)
  | 4 => ("Strikehall", "profits", "[J", true)
  | 5 => ("Strikehall", "mostLots", "I", false)
  | 6 => ("Strikehall", "heldShares", "I", false)
  | _ => ("Strikehall", "shareCost", "I", false)
def tyX3 : Nat → FieldType := fun k => match k with
  | 0 => .object "Strikehall$Share"
  | 1 => .object "Strikehall$Lottery"
  | 2 => .object "java/util/ArrayList"
  | 3 => .array .long
  | 4 => .array .long
  | 5 => .int
  | 6 => .int
  | _ => .int
theorem nmX3 : ∀ a, a < 8 → ∀ b, b < 8 → a ≠ b → (TX3 a).2.1 ≠ (TX3 b).2.1 := by decide +kernel
theorem tyX3_ok : ∀ k, k < 8 → parseFieldDescriptor (TX3 k).2.2.1 = some (tyX3 k) := by decide +kernel
abbrev cX3_init : ByteArray := prog_1_method_1_code
def yX3_init : MethodName := ⟨RX3, "<init>", "()V"⟩
abbrev cX3_steps : ByteArray := prog_1_method_2_code
def yX3_steps : MethodName := ⟨RX3, "steps", "(II)V"⟩
abbrev cX3_move : ByteArray := prog_1_method_3_code
def yX3_move : MethodName := ⟨RX3, "move", "(I)J"⟩
abbrev cX3_dividend : ByteArray := prog_1_method_4_code
def yX3_dividend : MethodName := ⟨RX3, "dividend", "(II)I"⟩
abbrev cX3_contract : ByteArray := prog_1_method_5_code
def yX3_contract : MethodName := ⟨RX3, "contract", "(IIIZ)I"⟩
abbrev cX3_quote : ByteArray := prog_1_method_6_code
def yX3_quote : MethodName := ⟨RX3, "quote", "(IIII)I"⟩
abbrev cX3_limit : ByteArray := prog_1_method_8_code
def yX3_limit : MethodName := ⟨RX3, "limit", "(I)I"⟩
abbrev cX3_order : ByteArray := prog_1_method_9_code
def yX3_order : MethodName := ⟨RX3, "order", "(IIII)I"⟩
abbrev cX3_hedge : ByteArray := prog_1_method_10_code
def yX3_hedge : MethodName := ⟨RX3, "hedge", "(II)I"⟩
abbrev cX3_seed : ByteArray := prog_1_method_11_code
def yX3_seed : MethodName := ⟨RX3, "seed", "(I)V"⟩
abbrev cX3_exercise : ByteArray := prog_1_method_12_code
def yX3_exercise : MethodName := ⟨RX3, "exercise", "(III)I"⟩
abbrev cX3_contrary : ByteArray := prog_1_method_13_code
def yX3_contrary : MethodName := ⟨RX3, "contrary", "(IIZ)Z"⟩
abbrev cX3_close : ByteArray := prog_1_method_14_code
def yX3_close : MethodName := ⟨RX3, "close", "()I"⟩
abbrev cX3_value : ByteArray := prog_1_method_15_code
def yX3_value : MethodName := ⟨RX3, "value", "(IZ)J"⟩
abbrev cX3_mark : ByteArray := prog_1_method_16_code
def yX3_mark : MethodName := ⟨RX3, "mark", "(I)I"⟩
abbrev cX3_fault : ByteArray := prog_1_method_18_code
def yX3_fault : MethodName := ⟨RX3, "fault", "()I"⟩
abbrev cX3_quoted : ByteArray := prog_1_method_19_code
def yX3_quoted : MethodName := ⟨RX3, "quoted", "(II)I"⟩
abbrev cX3_lots : ByteArray := prog_1_method_20_code
def yX3_lots : MethodName := ⟨RX3, "lots", "(II)I"⟩
abbrev cX3_cash : ByteArray := prog_1_method_21_code
def yX3_cash : MethodName := ⟨RX3, "cash", "(I)J"⟩
abbrev cX3_worth : ByteArray := prog_1_method_22_code
def yX3_worth : MethodName := ⟨RX3, "worth", "()J"⟩
abbrev cX3_cause : ByteArray := prog_1_method_23_code
def yX3_cause : MethodName := ⟨RX3, "cause", "(I)J"⟩
abbrev cX3_worst : ByteArray := prog_1_method_24_code
def yX3_worst : MethodName := ⟨RX3, "worst", "(I)J"⟩
abbrev cX3_checkRange : ByteArray := prog_1_method_25_code
def yX3_checkRange : MethodName := ⟨RX3, "checkRange", "(III)V"⟩
abbrev cX3_checkCustomer : ByteArray := prog_1_method_26_code
def yX3_checkCustomer : MethodName := ⟨RX3, "checkCustomer", "(I)V"⟩
abbrev cX3_checkNotOver : ByteArray := prog_1_method_27_code
def yX3_checkNotOver : MethodName := ⟨RX3, "checkNotOver", "(LStrikehall$Contract;)V"⟩
abbrev cX3_placeOf : ByteArray := prog_1_method_28_code
def yX3_placeOf : MethodName := ⟨RX3, "placeOf", "(I)I"⟩
abbrev cX3_contractOf : ByteArray := prog_1_method_29_code
def yX3_contractOf : MethodName := ⟨RX3, "contractOf", "(I)LStrikehall$Contract;"⟩
abbrev cX3_moneyAt : ByteArray := prog_1_method_30_code
def yX3_moneyAt : MethodName := ⟨RX3, "moneyAt", "(I)J"⟩
abbrev cX3_addMoney : ByteArray := prog_1_method_31_code
def yX3_addMoney : MethodName := ⟨RX3, "addMoney", "(IJ)V"⟩
abbrev cX3_addProfit : ByteArray := prog_1_method_32_code
def yX3_addProfit : MethodName := ⟨RX3, "addProfit", "(IJ)V"⟩
abbrev cX3_worthNow : ByteArray := prog_1_method_33_code
def yX3_worthNow : MethodName := ⟨RX3, "worthNow", "()J"⟩
abbrev cX3_worthAt : ByteArray := prog_1_method_34_code
def yX3_worthAt : MethodName := ⟨RX3, "worthAt", "(I)J"⟩
abbrev cX3_buy : ByteArray := prog_1_method_35_code
def yX3_buy : MethodName := ⟨RX3, "buy", "(ILStrikehall$Contract;II)I"⟩
abbrev cX3_sell : ByteArray := prog_1_method_36_code
def yX3_sell : MethodName := ⟨RX3, "sell", "(ILStrikehall$Contract;II)I"⟩
abbrev cX3_deal : ByteArray := prog_1_method_37_code
def yX3_deal : MethodName := ⟨RX3, "deal", "(ILStrikehall$Contract;II)V"⟩
abbrev cX3_exerciseLots : ByteArray := prog_1_method_38_code
def yX3_exerciseLots : MethodName := ⟨RX3, "exerciseLots", "(ILStrikehall$Contract;I)V"⟩
abbrev cX3_expire : ByteArray := prog_1_method_39_code
def yX3_expire : MethodName := ⟨RX3, "expire", "(LStrikehall$Contract;)V"⟩
abbrev cX3_commonDivisor : ByteArray := prog_1_method_40_code
def yX3_commonDivisor : MethodName := ⟨RX3, "commonDivisor", "(JJ)J"⟩
abbrev cX3_thousandTimes : ByteArray := prog_1_method_41_code
def yX3_thousandTimes : MethodName := ⟨RX3, "thousandTimes", "(JJ)I"⟩
abbrev cX3_power : ByteArray := prog_1_method_42_code
def yX3_power : MethodName := ⟨RX3, "power", "(JI)J"⟩
abbrev cX3_firstFault : ByteArray := prog_1_method_44_code
def yX3_firstFault : MethodName := ⟨RX3, "firstFault", "()I"⟩
abbrev cX3_hasCrossedQuote : ByteArray := prog_1_method_45_code
def yX3_hasCrossedQuote : MethodName := ⟨RX3, "hasCrossedQuote", "()Z"⟩
abbrev cX3_hasStrikesFault : ByteArray := prog_1_method_46_code
def yX3_hasStrikesFault : MethodName := ⟨RX3, "hasStrikesFault", "()Z"⟩
abbrev cX3_hasMiddleFault : ByteArray := prog_1_method_47_code
def yX3_hasMiddleFault : MethodName := ⟨RX3, "hasMiddleFault", "()Z"⟩
abbrev cX3_hasMiddleFaultWith : ByteArray := prog_1_method_48_code
def yX3_hasMiddleFaultWith : MethodName := ⟨RX3, "hasMiddleFaultWith", "(LStrikehall$Contract;LStrikehall$Contract;)Z"⟩
abbrev cX3_hasExpiriesFault : ByteArray := prog_1_method_49_code
def yX3_hasExpiriesFault : MethodName := ⟨RX3, "hasExpiriesFault", "()Z"⟩
abbrev cX3_isStrikePair : ByteArray := prog_1_method_50_code
def yX3_isStrikePair : MethodName := ⟨RX3, "isStrikePair", "(LStrikehall$Contract;LStrikehall$Contract;)Z"⟩
abbrev cX3_isStrikesFault : ByteArray := prog_1_method_51_code
def yX3_isStrikesFault : MethodName := ⟨RX3, "isStrikesFault", "(LStrikehall$Contract;LStrikehall$Contract;)Z"⟩
abbrev cX3_isMiddleFault : ByteArray := prog_1_method_52_code
def yX3_isMiddleFault : MethodName := ⟨RX3, "isMiddleFault", "(LStrikehall$Contract;LStrikehall$Contract;LStrikehall$Contract;)Z"⟩
abbrev cX3_isExpiriesFault : ByteArray := prog_1_method_53_code
def yX3_isExpiriesFault : MethodName := ⟨RX3, "isExpiriesFault", "(LStrikehall$Contract;LStrikehall$Contract;)Z"⟩
def RX4 : String := "StrikehallModel"
def TX4 : u_T := fun k => match k with
  | _ => ("", "", "", false)
def tyX4 : Nat → FieldType := fun k => match k with
  | _ => .int
theorem nmX4 : ∀ a, a < 0 → ∀ b, b < 0 → a ≠ b → (TX4 a).2.1 ≠ (TX4 b).2.1 := by decide +kernel
theorem tyX4_ok : ∀ k, k < 0 → parseFieldDescriptor (TX4 k).2.2.1 = some (tyX4 k) := by decide +kernel
def RJx145de : String := "java/io/Serializable"
def TJx145de : u_T := fun k => match k with
  | _ => ("", "", "", false)
def tyJx145de : Nat → FieldType := fun k => match k with
  | _ => .int
theorem nmJx145de : ∀ a, a < 0 → ∀ b, b < 0 → a ≠ b → (TJx145de a).2.1 ≠ (TJx145de b).2.1 := by decide +kernel
theorem tyJx145de_ok : ∀ k, k < 0 → parseFieldDescriptor (TJx145de k).2.2.1 = some (tyJx145de k) := by decide +kernel
def RJx8e188 : String := "java/lang/Cloneable"
def TJx8e188 : u_T := fun k => match k with
  | _ => ("", "", "", false)
def tyJx8e188 : Nat → FieldType := fun k => match k with
  | _ => .int
theorem nmJx8e188 : ∀ a, a < 0 → ∀ b, b < 0 → a ≠ b → (TJx8e188 a).2.1 ≠ (TJx8e188 b).2.1 := by decide +kernel
theorem tyJx8e188_ok : ∀ k, k < 0 → parseFieldDescriptor (TJx8e188 k).2.2.1 = some (tyJx8e188 k) := by decide +kernel
def RJxab1ab : String := "java/lang/Iterable"
def TJxab1ab : u_T := fun k => match k with
  | _ => ("", "", "", false)
def tyJxab1ab : Nat → FieldType := fun k => match k with
  | _ => .int
theorem nmJxab1ab : ∀ a, a < 0 → ∀ b, b < 0 → a ≠ b → (TJxab1ab a).2.1 ≠ (TJxab1ab b).2.1 := by decide +kernel
theorem tyJxab1ab_ok : ∀ k, k < 0 → parseFieldDescriptor (TJxab1ab k).2.2.1 = some (tyJxab1ab k) := by decide +kernel
def RJ9 : String := "java/lang/Math"
def TJ9 : u_T := fun k => match k with
  | _ => ("", "", "", false)
def tyJ9 : Nat → FieldType := fun k => match k with
  | _ => .int
theorem nmJ9 : ∀ a, a < 0 → ∀ b, b < 0 → a ≠ b → (TJ9 a).2.1 ≠ (TJ9 b).2.1 := by decide +kernel
theorem tyJ9_ok : ∀ k, k < 0 → parseFieldDescriptor (TJ9 k).2.2.1 = some (tyJ9 k) := by decide +kernel
abbrev cJ9_abs_0f7a4 : ByteArray := prog_14_method_59_code
def yJ9_abs_0f7a4 : MethodName := ⟨RJ9, "abs", "(I)I"⟩
abbrev cJ9_max_7cf53 : ByteArray := prog_14_method_65_code
def yJ9_max_7cf53 : MethodName := ⟨RJ9, "max", "(II)I"⟩
abbrev cJ9_max_f86c9 : ByteArray := prog_14_method_66_code
def yJ9_max_f86c9 : MethodName := ⟨RJ9, "max", "(JJ)J"⟩
abbrev cJ9_min_7cf53 : ByteArray := prog_14_method_69_code
def yJ9_min_7cf53 : MethodName := ⟨RJ9, "min", "(II)I"⟩
def RJ0 : String := "java/lang/String"
def TJ0 : u_T := fun k => match k with
  | _ => ("", "", "", false)
def tyJ0 : Nat → FieldType := fun k => match k with
  | _ => .int
theorem nmJ0 : ∀ a, a < 0 → ∀ b, b < 0 → a ≠ b → (TJ0 a).2.1 ≠ (TJ0 b).2.1 := by decide +kernel
theorem tyJ0_ok : ∀ k, k < 0 → parseFieldDescriptor (TJ0 k).2.2.1 = some (tyJ0 k) := by decide +kernel
def RJ10 : String := "java/lang/System"
def TJ10 : u_T := fun k => match k with
  | _ => ("", "", "", false)
def tyJ10 : Nat → FieldType := fun k => match k with
  | _ => .int
theorem nmJ10 : ∀ a, a < 0 → ∀ b, b < 0 → a ≠ b → (TJ10 a).2.1 ≠ (TJ10 b).2.1 := by decide +kernel
theorem tyJ10_ok : ∀ k, k < 0 → parseFieldDescriptor (TJ10 k).2.2.1 = some (tyJ10 k) := by decide +kernel
def RJxa1e45 : String := "java/util/AbstractCollection"
def TJxa1e45 : u_T := fun k => match k with
  | _ => ("", "", "", false)
def tyJxa1e45 : Nat → FieldType := fun k => match k with
  | _ => .int
theorem nmJxa1e45 : ∀ a, a < 0 → ∀ b, b < 0 → a ≠ b → (TJxa1e45 a).2.1 ≠ (TJxa1e45 b).2.1 := by decide +kernel
theorem tyJxa1e45_ok : ∀ k, k < 0 → parseFieldDescriptor (TJxa1e45 k).2.2.1 = some (tyJxa1e45 k) := by decide +kernel
abbrev cJxa1e45_init_da8c8 : ByteArray := prog_19_method_1_code
def yJxa1e45_init_da8c8 : MethodName := ⟨RJxa1e45, "<init>", "()V"⟩
def RJxc12de : String := "java/util/AbstractList"
def TJxc12de : u_T := fun k => match k with
  | _ => ("", "", "", false)
def tyJxc12de : Nat → FieldType := fun k => match k with
  | _ => .int
theorem nmJxc12de : ∀ a, a < 0 → ∀ b, b < 0 → a ≠ b → (TJxc12de a).2.1 ≠ (TJxc12de b).2.1 := by decide +kernel
theorem tyJxc12de_ok : ∀ k, k < 0 → parseFieldDescriptor (TJxc12de k).2.2.1 = some (tyJxc12de k) := by decide +kernel
abbrev cJxc12de_init_da8c8 : ByteArray := prog_20_method_1_code
def yJxc12de_init_da8c8 : MethodName := ⟨RJxc12de, "<init>", "()V"⟩
def RJx4a65c : String := "java/util/ArrayList"
def TJx4a65c : u_T := fun k => match k with
  | 0 => ("java/util/AbstractList", "modCount", "I", false)
  | 1 => ("java/util/ArrayList", "elementData", "[Ljava/lang/Object;", false)
  | _ => ("java/util/ArrayList", "size", "I", false)
def tyJx4a65c : Nat → FieldType := fun k => match k with
  | 0 => .int
  | 1 => .array (.object "java/lang/Object")
  | _ => .int
theorem nmJx4a65c : ∀ a, a < 3 → ∀ b, b < 3 → a ≠ b → (TJx4a65c a).2.1 ≠ (TJx4a65c b).2.1 := by decide +kernel
theorem tyJx4a65c_ok : ∀ k, k < 3 → parseFieldDescriptor (TJx4a65c k).2.2.1 = some (tyJx4a65c k) := by decide +kernel
abbrev cJx4a65c_init_da8c8 : ByteArray := prog_21_method_2_code
def yJx4a65c_init_da8c8 : MethodName := ⟨RJx4a65c, "<init>", "()V"⟩
abbrev cJx4a65c_grow_92f84 : ByteArray := prog_21_method_6_code
def yJx4a65c_grow_92f84 : MethodName := ⟨RJx4a65c, "grow", "(I)[Ljava/lang/Object;"⟩
abbrev cJx4a65c_grow_d5877 : ByteArray := prog_21_method_7_code
def yJx4a65c_grow_d5877 : MethodName := ⟨RJx4a65c, "grow", "()[Ljava/lang/Object;"⟩
abbrev cJx4a65c_size_8abf5 : ByteArray := prog_21_method_8_code
def yJx4a65c_size_8abf5 : MethodName := ⟨RJx4a65c, "size", "()I"⟩
abbrev cJx4a65c_elementData_915e3 : ByteArray := prog_21_method_18_code
def yJx4a65c_elementData_915e3 : MethodName := ⟨RJx4a65c, "elementData", "(I)Ljava/lang/Object;"⟩
abbrev cJx4a65c_get_915e3 : ByteArray := prog_21_method_20_code
def yJx4a65c_get_915e3 : MethodName := ⟨RJx4a65c, "get", "(I)Ljava/lang/Object;"⟩
abbrev cJx4a65c_add_72be8 : ByteArray := prog_21_method_24_code
def yJx4a65c_add_72be8 : MethodName := ⟨RJx4a65c, "add", "(Ljava/lang/Object;[Ljava/lang/Object;I)V"⟩
abbrev cJx4a65c_add_9ea2d : ByteArray := prog_21_method_25_code
def yJx4a65c_add_9ea2d : MethodName := ⟨RJx4a65c, "add", "(Ljava/lang/Object;)Z"⟩
def RJ7 : String := "java/util/Arrays"
def TJ7 : u_T := fun k => match k with
  | _ => ("", "", "", false)
def tyJ7 : Nat → FieldType := fun k => match k with
  | _ => .int
theorem nmJ7 : ∀ a, a < 0 → ∀ b, b < 0 → a ≠ b → (TJ7 a).2.1 ≠ (TJ7 b).2.1 := by decide +kernel
theorem tyJ7_ok : ∀ k, k < 0 → parseFieldDescriptor (TJ7 k).2.2.1 = some (tyJ7 k) := by decide +kernel
abbrev cJ7_copyOf_1904c : ByteArray := prog_22_method_119_code
def yJ7_copyOf_1904c : MethodName := ⟨RJ7, "copyOf", "([Ljava/lang/Object;I)[Ljava/lang/Object;"⟩
abbrev cJ7_copyOf_6403c : ByteArray := prog_22_method_120_code
def yJ7_copyOf_6403c : MethodName := ⟨RJ7, "copyOf", "([Ljava/lang/Object;ILjava/lang/Class;)[Ljava/lang/Object;"⟩
def RJx5ef63 : String := "java/util/Collection"
def TJx5ef63 : u_T := fun k => match k with
  | _ => ("", "", "", false)
def tyJx5ef63 : Nat → FieldType := fun k => match k with
  | _ => .int
theorem nmJx5ef63 : ∀ a, a < 0 → ∀ b, b < 0 → a ≠ b → (TJx5ef63 a).2.1 ≠ (TJx5ef63 b).2.1 := by decide +kernel
theorem tyJx5ef63_ok : ∀ k, k < 0 → parseFieldDescriptor (TJx5ef63 k).2.2.1 = some (tyJx5ef63 k) := by decide +kernel
def RJxbd725 : String := "java/util/List"
def TJxbd725 : u_T := fun k => match k with
  | _ => ("", "", "", false)
def tyJxbd725 : Nat → FieldType := fun k => match k with
  | _ => .int
theorem nmJxbd725 : ∀ a, a < 0 → ∀ b, b < 0 → a ≠ b → (TJxbd725 a).2.1 ≠ (TJxbd725 b).2.1 := by decide +kernel
theorem tyJxbd725_ok : ∀ k, k < 0 → parseFieldDescriptor (TJxbd725 k).2.2.1 = some (tyJxbd725 k) := by decide +kernel
def RJ15 : String := "java/util/Objects"
def TJ15 : u_T := fun k => match k with
  | _ => ("", "", "", false)
def tyJ15 : Nat → FieldType := fun k => match k with
  | _ => .int
theorem nmJ15 : ∀ a, a < 0 → ∀ b, b < 0 → a ≠ b → (TJ15 a).2.1 ≠ (TJ15 b).2.1 := by decide +kernel
theorem tyJ15_ok : ∀ k, k < 0 → parseFieldDescriptor (TJ15 k).2.2.1 = some (tyJ15 k) := by decide +kernel
abbrev cJ15_checkIndex_7cf53 : ByteArray := prog_25_method_17_code
def yJ15_checkIndex_7cf53 : MethodName := ⟨RJ15, "checkIndex", "(II)I"⟩
def RJxf0a74 : String := "java/util/RandomAccess"
def TJxf0a74 : u_T := fun k => match k with
  | _ => ("", "", "", false)
def tyJxf0a74 : Nat → FieldType := fun k => match k with
  | _ => .int
theorem nmJxf0a74 : ∀ a, a < 0 → ∀ b, b < 0 → a ≠ b → (TJxf0a74 a).2.1 ≠ (TJxf0a74 b).2.1 := by decide +kernel
theorem tyJxf0a74_ok : ∀ k, k < 0 → parseFieldDescriptor (TJxf0a74 k).2.2.1 = some (tyJxf0a74 k) := by decide +kernel
def RJxa66e6 : String := "java/util/SequencedCollection"
def TJxa66e6 : u_T := fun k => match k with
  | _ => ("", "", "", false)
def tyJxa66e6 : Nat → FieldType := fun k => match k with
  | _ => .int
theorem nmJxa66e6 : ∀ a, a < 0 → ∀ b, b < 0 → a ≠ b → (TJxa66e6 a).2.1 ≠ (TJxa66e6 b).2.1 := by decide +kernel
theorem tyJxa66e6_ok : ∀ k, k < 0 → parseFieldDescriptor (TJxa66e6 k).2.2.1 = some (tyJxa66e6 k) := by decide +kernel
def RJ8 : String := "jdk/internal/util/ArraysSupport"
def TJ8 : u_T := fun k => match k with
  | _ => ("", "", "", false)
def tyJ8 : Nat → FieldType := fun k => match k with
  | _ => .int
theorem nmJ8 : ∀ a, a < 0 → ∀ b, b < 0 → a ≠ b → (TJ8 a).2.1 ≠ (TJ8 b).2.1 := by decide +kernel
theorem tyJ8_ok : ∀ k, k < 0 → parseFieldDescriptor (TJ8 k).2.2.1 = some (tyJ8 k) := by decide +kernel
abbrev cJ8_newLength_cabcc : ByteArray := prog_28_method_27_code
def yJ8_newLength_cabcc : MethodName := ⟨RJ8, "newLength", "(III)I"⟩
abbrev cJ8_hugeLength_7cf53 : ByteArray := prog_28_method_28_code
def yJ8_hugeLength_7cf53 : MethodName := ⟨RJ8, "hugeLength", "(II)I"⟩
def RJ3 : String := "jdk/internal/util/Preconditions"
def TJ3 : u_T := fun k => match k with
  | _ => ("", "", "", false)
def tyJ3 : Nat → FieldType := fun k => match k with
  | _ => .int
theorem nmJ3 : ∀ a, a < 0 → ∀ b, b < 0 → a ≠ b → (TJ3 a).2.1 ≠ (TJ3 b).2.1 := by decide +kernel
theorem tyJ3_ok : ∀ k, k < 0 → parseFieldDescriptor (TJ3 k).2.2.1 = some (tyJ3 k) := by decide +kernel
abbrev cJ3_checkIndex_8e157 : ByteArray := prog_29_method_11_code
def yJ3_checkIndex_8e157 : MethodName := ⟨RJ3, "checkIndex", "(IILjava/util/function/BiFunction;)I"⟩
def RL : String := "StrikehallLaw"
abbrev cL_cell : ByteArray := method_2_code
def yL_cell : MethodName := ⟨RL, "cell", "([II)I"⟩
abbrev cL_low : ByteArray := method_3_code
def yL_low : MethodName := ⟨RL, "low", "(II)I"⟩
abbrev cL_steps : ByteArray := method_4_code
def yL_steps : MethodName := ⟨RL, "steps", "(LStrikehall;II)I"⟩
abbrev cL_move : ByteArray := method_5_code
def yL_move : MethodName := ⟨RL, "move", "(LStrikehall;I)J"⟩
abbrev cL_dividend : ByteArray := method_6_code
def yL_dividend : MethodName := ⟨RL, "dividend", "(LStrikehall;II)I"⟩
abbrev cL_contract : ByteArray := method_7_code
def yL_contract : MethodName := ⟨RL, "contract", "(LStrikehall;IIIZ)I"⟩
abbrev cL_quote : ByteArray := method_8_code
def yL_quote : MethodName := ⟨RL, "quote", "(LStrikehall;IIII)I"⟩
abbrev cL_limit : ByteArray := method_9_code
def yL_limit : MethodName := ⟨RL, "limit", "(LStrikehall;I)I"⟩
abbrev cL_order : ByteArray := method_10_code
def yL_order : MethodName := ⟨RL, "order", "(LStrikehall;IIII)I"⟩
abbrev cL_hedge : ByteArray := method_11_code
def yL_hedge : MethodName := ⟨RL, "hedge", "(LStrikehall;II)I"⟩
abbrev cL_seed : ByteArray := method_12_code
def yL_seed : MethodName := ⟨RL, "seed", "(LStrikehall;I)I"⟩
abbrev cL_exercise : ByteArray := method_13_code
def yL_exercise : MethodName := ⟨RL, "exercise", "(LStrikehall;III)I"⟩
abbrev cL_contrary : ByteArray := method_14_code
def yL_contrary : MethodName := ⟨RL, "contrary", "(LStrikehall;IIZ)I"⟩
abbrev cL_close : ByteArray := method_15_code
def yL_close : MethodName := ⟨RL, "close", "(LStrikehall;)I"⟩
abbrev cL_value : ByteArray := method_16_code
def yL_value : MethodName := ⟨RL, "value", "(LStrikehall;IZ)J"⟩
abbrev cL_mark : ByteArray := method_17_code
def yL_mark : MethodName := ⟨RL, "mark", "(LStrikehall;I)I"⟩
abbrev cL_quoted : ByteArray := method_19_code
def yL_quoted : MethodName := ⟨RL, "quoted", "(LStrikehall;II)I"⟩
abbrev cL_lots : ByteArray := method_20_code
def yL_lots : MethodName := ⟨RL, "lots", "(LStrikehall;II)I"⟩
abbrev cL_cash : ByteArray := method_21_code
def yL_cash : MethodName := ⟨RL, "cash", "(LStrikehall;I)J"⟩
abbrev cL_cause : ByteArray := method_22_code
def yL_cause : MethodName := ⟨RL, "cause", "(LStrikehall;I)J"⟩
abbrev cL_worst : ByteArray := method_23_code
def yL_worst : MethodName := ⟨RL, "worst", "(LStrikehall;I)J"⟩
abbrev cL_pays : ByteArray := method_24_code
def yL_pays : MethodName := ⟨RL, "pays", "(IJ[I)J"⟩
abbrev cL_above : ByteArray := method_25_code
def yL_above : MethodName := ⟨RL, "above", "(II[I[I[I)J"⟩
abbrev cL_at : ByteArray := method_26_code
def yL_at : MethodName := ⟨RL, "at", "(III[I[I)J"⟩
abbrev cL_below : ByteArray := method_27_code
def yL_below : MethodName := ⟨RL, "below", "(I[I[I)J"⟩
abbrev cL_markOf : ByteArray := method_28_code
def yL_markOf : MethodName := ⟨RL, "markOf", "(II[I[I[I)J"⟩
abbrev cL_worth : ByteArray := method_29_code
def yL_worth : MethodName := ⟨RL, "worth", "(I[I[I[I[I[J)J"⟩
abbrev cL_faultOf : ByteArray := method_30_code
def yL_faultOf : MethodName := ⟨RL, "faultOf", "([I[I[I)I"⟩
abbrev cL_exercises : ByteArray := method_31_code
def yL_exercises : MethodName := ⟨RL, "exercises", "(IIJ[I[J)V"⟩
abbrev cL_isTold : ByteArray := method_32_code
def yL_isTold : MethodName := ⟨RL, "isTold", "(LStrikehall;I[I[I[I[I[I[J)Z"⟩
abbrev cL_law : ByteArray := code
def yL_law : MethodName := ⟨RL, "law", "([I)Z"⟩
theorem dX0_init_0 : decode cX0_init 0 = .ok (.aload_n 0, 1) := by decide +kernel
theorem dX0_init_1 : decode cX0_init 1 = .ok (.invokespecial 3, 3) := by decide +kernel
theorem dX0_init_4 : decode cX0_init 4 = .ok (.aload_n 0, 1) := by decide +kernel
theorem dX0_init_5 : decode cX0_init 5 = .ok (.bipush 7, 2) := by decide +kernel
theorem dX0_init_7 : decode cX0_init 7 = .ok (.newarray .int, 2) := by decide +kernel
theorem dX0_init_9 : decode cX0_init 9 = .ok (.putfield 9, 3) := by decide +kernel
theorem dX0_init_12 : decode cX0_init 12 = .ok (.aload_n 0, 1) := by decide +kernel
theorem dX0_init_13 : decode cX0_init 13 = .ok (.bipush 7, 2) := by decide +kernel
theorem dX0_init_15 : decode cX0_init 15 = .ok (.newarray .boolean, 2) := by decide +kernel
theorem dX0_init_17 : decode cX0_init 17 = .ok (.putfield 15, 3) := by decide +kernel
theorem dX0_init_20 : decode cX0_init 20 = .ok (.aload_n 0, 1) := by decide +kernel
theorem dX0_init_21 : decode cX0_init 21 = .ok (.iconst 0, 1) := by decide +kernel
theorem dX0_init_22 : decode cX0_init 22 = .ok (.putfield 19, 3) := by decide +kernel
theorem dX0_init_25 : decode cX0_init 25 = .ok (.aload_n 0, 1) := by decide +kernel
theorem dX0_init_26 : decode cX0_init 26 = .ok (.iconst 0, 1) := by decide +kernel
theorem dX0_init_27 : decode cX0_init 27 = .ok (.putfield 23, 3) := by decide +kernel
theorem dX0_init_30 : decode cX0_init 30 = .ok (.aload_n 0, 1) := by decide +kernel
theorem dX0_init_31 : decode cX0_init 31 = .ok (.iconst 0, 1) := by decide +kernel
theorem dX0_init_32 : decode cX0_init 32 = .ok (.putfield 26, 3) := by decide +kernel
theorem dX0_init_35 : decode cX0_init 35 = .ok (.aload_n 0, 1) := by decide +kernel
theorem dX0_init_36 : decode cX0_init 36 = .ok (.iconst 0, 1) := by decide +kernel
theorem dX0_init_37 : decode cX0_init 37 = .ok (.putfield 29, 3) := by decide +kernel
theorem dX0_init_40 : decode cX0_init 40 = .ok (.aload_n 0, 1) := by decide +kernel
theorem dX0_init_41 : decode cX0_init 41 = .ok (.iload_n 1, 1) := by decide +kernel
theorem dX0_init_42 : decode cX0_init 42 = .ok (.putfield 32, 3) := by decide +kernel
theorem dX0_init_45 : decode cX0_init 45 = .ok (.aload_n 0, 1) := by decide +kernel
theorem dX0_init_46 : decode cX0_init 46 = .ok (.iload_n 2, 1) := by decide +kernel
theorem dX0_init_47 : decode cX0_init 47 = .ok (.putfield 35, 3) := by decide +kernel
theorem dX0_init_50 : decode cX0_init 50 = .ok (.aload_n 0, 1) := by decide +kernel
theorem dX0_init_51 : decode cX0_init 51 = .ok (.iload_n 3, 1) := by decide +kernel
theorem dX0_init_52 : decode cX0_init 52 = .ok (.putfield 38, 3) := by decide +kernel
theorem dX0_init_55 : decode cX0_init 55 = .ok (.aload_n 0, 1) := by decide +kernel
theorem dX0_init_56 : decode cX0_init 56 = .ok (.iload 4, 2) := by decide +kernel
theorem dX0_init_58 : decode cX0_init 58 = .ok (.putfield 41, 3) := by decide +kernel
theorem dX0_init_61 : decode cX0_init 61 = .ok (.return_, 1) := by decide +kernel
theorem dX0_paysAt_0 : decode cX0_paysAt 0 = .ok (.iconst 0, 1) := by decide +kernel
theorem dX0_paysAt_1 : decode cX0_paysAt 1 = .ok (.aload_n 0, 1) := by decide +kernel
theorem dX0_paysAt_2 : decode cX0_paysAt 2 = .ok (.getfield 32, 3) := by decide +kernel
theorem dX0_paysAt_5 : decode cX0_paysAt 5 = .ok (.ifCond .ne 12, 3) := by decide +kernel
theorem dX0_paysAt_8 : decode cX0_paysAt 8 = .ok (.iload_n 1, 1) := by decide +kernel
theorem dX0_paysAt_9 : decode cX0_paysAt 9 = .ok (.aload_n 0, 1) := by decide +kernel
theorem dX0_paysAt_10 : decode cX0_paysAt 10 = .ok (.getfield 35, 3) := by decide +kernel
theorem dX0_paysAt_13 : decode cX0_paysAt 13 = .ok (.isub, 1) := by decide +kernel
theorem dX0_paysAt_14 : decode cX0_paysAt 14 = .ok (.goto 9, 3) := by decide +kernel
theorem dX0_paysAt_17 : decode cX0_paysAt 17 = .ok (.aload_n 0, 1) := by decide +kernel
theorem dX0_paysAt_18 : decode cX0_paysAt 18 = .ok (.getfield 35, 3) := by decide +kernel
theorem dX0_paysAt_21 : decode cX0_paysAt 21 = .ok (.iload_n 1, 1) := by decide +kernel
theorem dX0_paysAt_22 : decode cX0_paysAt 22 = .ok (.isub, 1) := by decide +kernel
theorem dX0_paysAt_23 : decode cX0_paysAt 23 = .ok (.invokestatic 45, 3) := by decide +kernel
theorem dX0_paysAt_26 : decode cX0_paysAt 26 = .ok (.ireturn, 1) := by decide +kernel
theorem dX0_tellQuote_0 : decode cX0_tellQuote 0 = .ok (.aload_n 0, 1) := by decide +kernel
theorem dX0_tellQuote_1 : decode cX0_tellQuote 1 = .ok (.iload_n 3, 1) := by decide +kernel
theorem dX0_tellQuote_2 : decode cX0_tellQuote 2 = .ok (.ifCond .le 7, 3) := by decide +kernel
theorem dX0_tellQuote_5 : decode cX0_tellQuote 5 = .ok (.iload_n 1, 1) := by decide +kernel
theorem dX0_tellQuote_6 : decode cX0_tellQuote 6 = .ok (.goto 4, 3) := by decide +kernel
theorem dX0_tellQuote_9 : decode cX0_tellQuote 9 = .ok (.iconst 0, 1) := by decide +kernel
theorem dX0_tellQuote_10 : decode cX0_tellQuote 10 = .ok (.putfield 19, 3) := by decide +kernel
theorem dX0_tellQuote_13 : decode cX0_tellQuote 13 = .ok (.aload_n 0, 1) := by decide +kernel
theorem dX0_tellQuote_14 : decode cX0_tellQuote 14 = .ok (.iload_n 3, 1) := by decide +kernel
theorem dX0_tellQuote_15 : decode cX0_tellQuote 15 = .ok (.ifCond .le 7, 3) := by decide +kernel
theorem dX0_tellQuote_18 : decode cX0_tellQuote 18 = .ok (.iload_n 2, 1) := by decide +kernel
theorem dX0_tellQuote_19 : decode cX0_tellQuote 19 = .ok (.goto 4, 3) := by decide +kernel
theorem dX0_tellQuote_22 : decode cX0_tellQuote 22 = .ok (.iconst 0, 1) := by decide +kernel
theorem dX0_tellQuote_23 : decode cX0_tellQuote 23 = .ok (.putfield 23, 3) := by decide +kernel
theorem dX0_tellQuote_26 : decode cX0_tellQuote 26 = .ok (.aload_n 0, 1) := by decide +kernel
theorem dX0_tellQuote_27 : decode cX0_tellQuote 27 = .ok (.iload_n 3, 1) := by decide +kernel
theorem dX0_tellQuote_28 : decode cX0_tellQuote 28 = .ok (.putfield 26, 3) := by decide +kernel
theorem dX0_tellQuote_31 : decode cX0_tellQuote 31 = .ok (.aload_n 0, 1) := by decide +kernel
theorem dX0_tellQuote_32 : decode cX0_tellQuote 32 = .ok (.iload_n 3, 1) := by decide +kernel
theorem dX0_tellQuote_33 : decode cX0_tellQuote 33 = .ok (.putfield 29, 3) := by decide +kernel
theorem dX0_tellQuote_36 : decode cX0_tellQuote 36 = .ok (.return_, 1) := by decide +kernel
theorem dX0_takeQuoteAway_0 : decode cX0_takeQuoteAway 0 = .ok (.aload_n 0, 1) := by decide +kernel
theorem dX0_takeQuoteAway_1 : decode cX0_takeQuoteAway 1 = .ok (.iconst 0, 1) := by decide +kernel
theorem dX0_takeQuoteAway_2 : decode cX0_takeQuoteAway 2 = .ok (.iconst 0, 1) := by decide +kernel
theorem dX0_takeQuoteAway_3 : decode cX0_takeQuoteAway 3 = .ok (.iconst 0, 1) := by decide +kernel
theorem dX0_takeQuoteAway_4 : decode cX0_takeQuoteAway 4 = .ok (.invokevirtual 51, 3) := by decide +kernel
theorem dX0_takeQuoteAway_7 : decode cX0_takeQuoteAway 7 = .ok (.return_, 1) := by decide +kernel
theorem dX0_endQuoteUsedUp_0 : decode cX0_endQuoteUsedUp 0 = .ok (.aload_n 0, 1) := by decide +kernel
theorem dX0_endQuoteUsedUp_1 : decode cX0_endQuoteUsedUp 1 = .ok (.invokevirtual 55, 3) := by decide +kernel
theorem dX0_endQuoteUsedUp_4 : decode cX0_endQuoteUsedUp 4 = .ok (.ifCond .ne 7, 3) := by decide +kernel
theorem dX0_endQuoteUsedUp_7 : decode cX0_endQuoteUsedUp 7 = .ok (.aload_n 0, 1) := by decide +kernel
theorem dX0_endQuoteUsedUp_8 : decode cX0_endQuoteUsedUp 8 = .ok (.invokevirtual 59, 3) := by decide +kernel
theorem dX0_endQuoteUsedUp_11 : decode cX0_endQuoteUsedUp 11 = .ok (.return_, 1) := by decide +kernel
theorem dX0_hasSomethingLeft_0 : decode cX0_hasSomethingLeft 0 = .ok (.aload_n 0, 1) := by decide +kernel
theorem dX0_hasSomethingLeft_1 : decode cX0_hasSomethingLeft 1 = .ok (.getfield 26, 3) := by decide +kernel
theorem dX0_hasSomethingLeft_4 : decode cX0_hasSomethingLeft 4 = .ok (.ifCond .gt 10, 3) := by decide +kernel
theorem dX0_hasSomethingLeft_7 : decode cX0_hasSomethingLeft 7 = .ok (.aload_n 0, 1) := by decide +kernel
theorem dX0_hasSomethingLeft_8 : decode cX0_hasSomethingLeft 8 = .ok (.getfield 29, 3) := by decide +kernel
theorem dX0_hasSomethingLeft_11 : decode cX0_hasSomethingLeft 11 = .ok (.ifCond .le 7, 3) := by decide +kernel
theorem dX0_hasSomethingLeft_14 : decode cX0_hasSomethingLeft 14 = .ok (.iconst 1, 1) := by decide +kernel
theorem dX0_hasSomethingLeft_15 : decode cX0_hasSomethingLeft 15 = .ok (.goto 4, 3) := by decide +kernel
theorem dX0_hasSomethingLeft_18 : decode cX0_hasSomethingLeft 18 = .ok (.iconst 0, 1) := by decide +kernel
theorem dX0_hasSomethingLeft_19 : decode cX0_hasSomethingLeft 19 = .ok (.ireturn, 1) := by decide +kernel
theorem dX0_isQuotedBoth_0 : decode cX0_isQuotedBoth 0 = .ok (.aload_n 0, 1) := by decide +kernel
theorem dX0_isQuotedBoth_1 : decode cX0_isQuotedBoth 1 = .ok (.getfield 26, 3) := by decide +kernel
theorem dX0_isQuotedBoth_4 : decode cX0_isQuotedBoth 4 = .ok (.ifCond .le 14, 3) := by decide +kernel
theorem dX0_isQuotedBoth_7 : decode cX0_isQuotedBoth 7 = .ok (.aload_n 0, 1) := by decide +kernel
theorem dX0_isQuotedBoth_8 : decode cX0_isQuotedBoth 8 = .ok (.getfield 29, 3) := by decide +kernel
theorem dX0_isQuotedBoth_11 : decode cX0_isQuotedBoth 11 = .ok (.ifCond .le 7, 3) := by decide +kernel
theorem dX0_isQuotedBoth_14 : decode cX0_isQuotedBoth 14 = .ok (.iconst 1, 1) := by decide +kernel
theorem dX0_isQuotedBoth_15 : decode cX0_isQuotedBoth 15 = .ok (.goto 4, 3) := by decide +kernel
theorem dX0_isQuotedBoth_18 : decode cX0_isQuotedBoth 18 = .ok (.iconst 0, 1) := by decide +kernel
theorem dX0_isQuotedBoth_19 : decode cX0_isQuotedBoth 19 = .ok (.ireturn, 1) := by decide +kernel
theorem dX0_lotsAt_0 : decode cX0_lotsAt 0 = .ok (.iload_n 1, 1) := by decide +kernel
theorem dX0_lotsAt_1 : decode cX0_lotsAt 1 = .ok (.ifCond .lt 21, 3) := by decide +kernel
theorem dX0_lotsAt_4 : decode cX0_lotsAt 4 = .ok (.iload_n 1, 1) := by decide +kernel
theorem dX0_lotsAt_5 : decode cX0_lotsAt 5 = .ok (.aload_n 0, 1) := by decide +kernel
theorem dX0_lotsAt_6 : decode cX0_lotsAt 6 = .ok (.getfield 9, 3) := by decide +kernel
theorem dX0_lotsAt_9 : decode cX0_lotsAt 9 = .ok (.arraylength, 1) := by decide +kernel
theorem dX0_lotsAt_10 : decode cX0_lotsAt 10 = .ok (.if_icmp .ge 12, 3) := by decide +kernel
theorem dX0_lotsAt_13 : decode cX0_lotsAt 13 = .ok (.aload_n 0, 1) := by decide +kernel
theorem dX0_lotsAt_14 : decode cX0_lotsAt 14 = .ok (.getfield 9, 3) := by decide +kernel
theorem dX0_lotsAt_17 : decode cX0_lotsAt 17 = .ok (.iload_n 1, 1) := by decide +kernel
theorem dX0_lotsAt_18 : decode cX0_lotsAt 18 = .ok (.iaload, 1) := by decide +kernel
theorem dX0_lotsAt_19 : decode cX0_lotsAt 19 = .ok (.goto 4, 3) := by decide +kernel
theorem dX0_lotsAt_22 : decode cX0_lotsAt 22 = .ok (.iconst 0, 1) := by decide +kernel
theorem dX0_lotsAt_23 : decode cX0_lotsAt 23 = .ok (.ireturn, 1) := by decide +kernel
theorem dX0_addLots_0 : decode cX0_addLots 0 = .ok (.iload_n 1, 1) := by decide +kernel
theorem dX0_addLots_1 : decode cX0_addLots 1 = .ok (.ifCond .lt 22, 3) := by decide +kernel
theorem dX0_addLots_4 : decode cX0_addLots 4 = .ok (.iload_n 1, 1) := by decide +kernel
theorem dX0_addLots_5 : decode cX0_addLots 5 = .ok (.aload_n 0, 1) := by decide +kernel
theorem dX0_addLots_6 : decode cX0_addLots 6 = .ok (.getfield 9, 3) := by decide +kernel
theorem dX0_addLots_9 : decode cX0_addLots 9 = .ok (.arraylength, 1) := by decide +kernel
theorem dX0_addLots_10 : decode cX0_addLots 10 = .ok (.if_icmp .ge 13, 3) := by decide +kernel
theorem dX0_addLots_13 : decode cX0_addLots 13 = .ok (.aload_n 0, 1) := by decide +kernel
theorem dX0_addLots_14 : decode cX0_addLots 14 = .ok (.getfield 9, 3) := by decide +kernel
theorem dX0_addLots_17 : decode cX0_addLots 17 = .ok (.iload_n 1, 1) := by decide +kernel
theorem dX0_addLots_18 : decode cX0_addLots 18 = .ok (.dup2, 1) := by decide +kernel
theorem dX0_addLots_19 : decode cX0_addLots 19 = .ok (.iaload, 1) := by decide +kernel
theorem dX0_addLots_20 : decode cX0_addLots 20 = .ok (.iload_n 2, 1) := by decide +kernel
theorem dX0_addLots_21 : decode cX0_addLots 21 = .ok (.iadd, 1) := by decide +kernel
theorem dX0_addLots_22 : decode cX0_addLots 22 = .ok (.iastore, 1) := by decide +kernel
theorem dX0_addLots_23 : decode cX0_addLots 23 = .ok (.return_, 1) := by decide +kernel
theorem dX0_dropLots_0 : decode cX0_dropLots 0 = .ok (.iconst 0, 1) := by decide +kernel
theorem dX0_dropLots_1 : decode cX0_dropLots 1 = .ok (.istore_n 1, 1) := by decide +kernel
theorem dX0_dropLots_2 : decode cX0_dropLots 2 = .ok (.iload_n 1, 1) := by decide +kernel
theorem dX0_dropLots_3 : decode cX0_dropLots 3 = .ok (.aload_n 0, 1) := by decide +kernel
theorem dX0_dropLots_4 : decode cX0_dropLots 4 = .ok (.getfield 9, 3) := by decide +kernel
theorem dX0_dropLots_7 : decode cX0_dropLots 7 = .ok (.arraylength, 1) := by decide +kernel
theorem dX0_dropLots_8 : decode cX0_dropLots 8 = .ok (.if_icmp .ge 16, 3) := by decide +kernel
theorem dX0_dropLots_11 : decode cX0_dropLots 11 = .ok (.aload_n 0, 1) := by decide +kernel
theorem dX0_dropLots_12 : decode cX0_dropLots 12 = .ok (.getfield 9, 3) := by decide +kernel
theorem dX0_dropLots_15 : decode cX0_dropLots 15 = .ok (.iload_n 1, 1) := by decide +kernel
theorem dX0_dropLots_16 : decode cX0_dropLots 16 = .ok (.iconst 0, 1) := by decide +kernel
theorem dX0_dropLots_17 : decode cX0_dropLots 17 = .ok (.iastore, 1) := by decide +kernel
theorem dX0_dropLots_18 : decode cX0_dropLots 18 = .ok (.iinc 1 1, 3) := by decide +kernel
theorem dX0_dropLots_21 : decode cX0_dropLots 21 = .ok (.goto (-19), 3) := by decide +kernel
theorem dX0_dropLots_24 : decode cX0_dropLots 24 = .ok (.return_, 1) := by decide +kernel
theorem dX0_hasNotice_0 : decode cX0_hasNotice 0 = .ok (.iload_n 1, 1) := by decide +kernel
theorem dX0_hasNotice_1 : decode cX0_hasNotice 1 = .ok (.ifCond .lt 25, 3) := by decide +kernel
theorem dX0_hasNotice_4 : decode cX0_hasNotice 4 = .ok (.iload_n 1, 1) := by decide +kernel
theorem dX0_hasNotice_5 : decode cX0_hasNotice 5 = .ok (.aload_n 0, 1) := by decide +kernel
theorem dX0_hasNotice_6 : decode cX0_hasNotice 6 = .ok (.getfield 15, 3) := by decide +kernel
theorem dX0_hasNotice_9 : decode cX0_hasNotice 9 = .ok (.arraylength, 1) := by decide +kernel
theorem dX0_hasNotice_10 : decode cX0_hasNotice 10 = .ok (.if_icmp .ge 16, 3) := by decide +kernel
theorem dX0_hasNotice_13 : decode cX0_hasNotice 13 = .ok (.aload_n 0, 1) := by decide +kernel
theorem dX0_hasNotice_14 : decode cX0_hasNotice 14 = .ok (.getfield 15, 3) := by decide +kernel
theorem dX0_hasNotice_17 : decode cX0_hasNotice 17 = .ok (.iload_n 1, 1) := by decide +kernel
theorem dX0_hasNotice_18 : decode cX0_hasNotice 18 = .ok (.baload, 1) := by decide +kernel
theorem dX0_hasNotice_19 : decode cX0_hasNotice 19 = .ok (.ifCond .eq 7, 3) := by decide +kernel
theorem dX0_hasNotice_22 : decode cX0_hasNotice 22 = .ok (.iconst 1, 1) := by decide +kernel
theorem dX0_hasNotice_23 : decode cX0_hasNotice 23 = .ok (.goto 4, 3) := by decide +kernel
theorem dX0_hasNotice_26 : decode cX0_hasNotice 26 = .ok (.iconst 0, 1) := by decide +kernel
theorem dX0_hasNotice_27 : decode cX0_hasNotice 27 = .ok (.ireturn, 1) := by decide +kernel
theorem dX0_setNotice_0 : decode cX0_setNotice 0 = .ok (.iload_n 1, 1) := by decide +kernel
theorem dX0_setNotice_1 : decode cX0_setNotice 1 = .ok (.ifCond .lt 22, 3) := by decide +kernel
theorem dX0_setNotice_4 : decode cX0_setNotice 4 = .ok (.iload_n 1, 1) := by decide +kernel
theorem dX0_setNotice_5 : decode cX0_setNotice 5 = .ok (.aload_n 0, 1) := by decide +kernel
theorem dX0_setNotice_6 : decode cX0_setNotice 6 = .ok (.getfield 15, 3) := by decide +kernel
theorem dX0_setNotice_9 : decode cX0_setNotice 9 = .ok (.arraylength, 1) := by decide +kernel
theorem dX0_setNotice_10 : decode cX0_setNotice 10 = .ok (.if_icmp .ge 13, 3) := by decide +kernel
theorem dX0_setNotice_13 : decode cX0_setNotice 13 = .ok (.aload_n 0, 1) := by decide +kernel
theorem dX0_setNotice_14 : decode cX0_setNotice 14 = .ok (.getfield 15, 3) := by decide +kernel
theorem dX0_setNotice_17 : decode cX0_setNotice 17 = .ok (.iload_n 1, 1) := by decide +kernel
theorem dX0_setNotice_18 : decode cX0_setNotice 18 = .ok (.baload, 1) := by decide +kernel
theorem dX0_setNotice_19 : decode cX0_setNotice 19 = .ok (.iload_n 2, 1) := by decide +kernel
theorem dX0_setNotice_20 : decode cX0_setNotice 20 = .ok (.if_icmp .ne 5, 3) := by decide +kernel
theorem dX0_setNotice_23 : decode cX0_setNotice 23 = .ok (.iconst 0, 1) := by decide +kernel
theorem dX0_setNotice_24 : decode cX0_setNotice 24 = .ok (.ireturn, 1) := by decide +kernel
theorem dX0_setNotice_25 : decode cX0_setNotice 25 = .ok (.aload_n 0, 1) := by decide +kernel
theorem dX0_setNotice_26 : decode cX0_setNotice 26 = .ok (.getfield 15, 3) := by decide +kernel
theorem dX0_setNotice_29 : decode cX0_setNotice 29 = .ok (.iload_n 1, 1) := by decide +kernel
theorem dX0_setNotice_30 : decode cX0_setNotice 30 = .ok (.iload_n 2, 1) := by decide +kernel
theorem dX0_setNotice_31 : decode cX0_setNotice 31 = .ok (.bastore, 1) := by decide +kernel
theorem dX0_setNotice_32 : decode cX0_setNotice 32 = .ok (.iconst 1, 1) := by decide +kernel
theorem dX0_setNotice_33 : decode cX0_setNotice 33 = .ok (.ireturn, 1) := by decide +kernel
theorem dX0_owed_0 : decode cX0_owed 0 = .ok (.iconst 0, 1) := by decide +kernel
theorem dX0_owed_1 : decode cX0_owed 1 = .ok (.istore_n 1, 1) := by decide +kernel
theorem dX0_owed_2 : decode cX0_owed 2 = .ok (.iconst 0, 1) := by decide +kernel
theorem dX0_owed_3 : decode cX0_owed 3 = .ok (.istore_n 2, 1) := by decide +kernel
theorem dX0_owed_4 : decode cX0_owed 4 = .ok (.iload_n 2, 1) := by decide +kernel
theorem dX0_owed_5 : decode cX0_owed 5 = .ok (.aload_n 0, 1) := by decide +kernel
theorem dX0_owed_6 : decode cX0_owed 6 = .ok (.getfield 9, 3) := by decide +kernel
theorem dX0_owed_9 : decode cX0_owed 9 = .ok (.arraylength, 1) := by decide +kernel
theorem dX0_owed_10 : decode cX0_owed 10 = .ok (.if_icmp .ge 23, 3) := by decide +kernel
theorem dX0_owed_13 : decode cX0_owed 13 = .ok (.iload_n 1, 1) := by decide +kernel
theorem dX0_owed_14 : decode cX0_owed 14 = .ok (.iconst 0, 1) := by decide +kernel
theorem dX0_owed_15 : decode cX0_owed 15 = .ok (.aload_n 0, 1) := by decide +kernel
theorem dX0_owed_16 : decode cX0_owed 16 = .ok (.getfield 9, 3) := by decide +kernel
theorem dX0_owed_19 : decode cX0_owed 19 = .ok (.iload_n 2, 1) := by decide +kernel
theorem dX0_owed_20 : decode cX0_owed 20 = .ok (.iaload, 1) := by decide +kernel
theorem dX0_owed_21 : decode cX0_owed 21 = .ok (.ineg, 1) := by decide +kernel
theorem dX0_owed_22 : decode cX0_owed 22 = .ok (.invokestatic 45, 3) := by decide +kernel
theorem dX0_owed_25 : decode cX0_owed 25 = .ok (.iadd, 1) := by decide +kernel
theorem dX0_owed_26 : decode cX0_owed 26 = .ok (.istore_n 1, 1) := by decide +kernel
theorem dX0_owed_27 : decode cX0_owed 27 = .ok (.iinc 2 1, 3) := by decide +kernel
theorem dX0_owed_30 : decode cX0_owed 30 = .ok (.goto (-26), 3) := by decide +kernel
theorem dX0_owed_33 : decode cX0_owed 33 = .ok (.iload_n 1, 1) := by decide +kernel
theorem dX0_owed_34 : decode cX0_owed 34 = .ok (.ireturn, 1) := by decide +kernel
theorem dX0_owerOf_0 : decode cX0_owerOf 0 = .ok (.iload_n 1, 1) := by decide +kernel
theorem dX0_owerOf_1 : decode cX0_owerOf 1 = .ok (.istore_n 2, 1) := by decide +kernel
theorem dX0_owerOf_2 : decode cX0_owerOf 2 = .ok (.iconst 0, 1) := by decide +kernel
theorem dX0_owerOf_3 : decode cX0_owerOf 3 = .ok (.istore_n 3, 1) := by decide +kernel
theorem dX0_owerOf_4 : decode cX0_owerOf 4 = .ok (.iload_n 3, 1) := by decide +kernel
theorem dX0_owerOf_5 : decode cX0_owerOf 5 = .ok (.aload_n 0, 1) := by decide +kernel
theorem dX0_owerOf_6 : decode cX0_owerOf 6 = .ok (.getfield 9, 3) := by decide +kernel
theorem dX0_owerOf_9 : decode cX0_owerOf 9 = .ok (.arraylength, 1) := by decide +kernel
theorem dX0_owerOf_10 : decode cX0_owerOf 10 = .ok (.if_icmp .ge 29, 3) := by decide +kernel
theorem dX0_owerOf_13 : decode cX0_owerOf 13 = .ok (.iload_n 2, 1) := by decide +kernel
theorem dX0_owerOf_14 : decode cX0_owerOf 14 = .ok (.iconst 0, 1) := by decide +kernel
theorem dX0_owerOf_15 : decode cX0_owerOf 15 = .ok (.aload_n 0, 1) := by decide +kernel
theorem dX0_owerOf_16 : decode cX0_owerOf 16 = .ok (.getfield 9, 3) := by decide +kernel
theorem dX0_owerOf_19 : decode cX0_owerOf 19 = .ok (.iload_n 3, 1) := by decide +kernel
theorem dX0_owerOf_20 : decode cX0_owerOf 20 = .ok (.iaload, 1) := by decide +kernel
theorem dX0_owerOf_21 : decode cX0_owerOf 21 = .ok (.ineg, 1) := by decide +kernel
theorem dX0_owerOf_22 : decode cX0_owerOf 22 = .ok (.invokestatic 45, 3) := by decide +kernel
theorem dX0_owerOf_25 : decode cX0_owerOf 25 = .ok (.isub, 1) := by decide +kernel
theorem dX0_owerOf_26 : decode cX0_owerOf 26 = .ok (.istore_n 2, 1) := by decide +kernel
theorem dX0_owerOf_27 : decode cX0_owerOf 27 = .ok (.iload_n 2, 1) := by decide +kernel
theorem dX0_owerOf_28 : decode cX0_owerOf 28 = .ok (.ifCond .ge 5, 3) := by decide +kernel
theorem dX0_owerOf_31 : decode cX0_owerOf 31 = .ok (.iload_n 3, 1) := by decide +kernel
theorem dX0_owerOf_32 : decode cX0_owerOf 32 = .ok (.ireturn, 1) := by decide +kernel
theorem dX0_owerOf_33 : decode cX0_owerOf 33 = .ok (.iinc 3 1, 3) := by decide +kernel
theorem dX0_owerOf_36 : decode cX0_owerOf 36 = .ok (.goto (-32), 3) := by decide +kernel
theorem dX0_owerOf_39 : decode cX0_owerOf 39 = .ok (.bipush 6, 2) := by decide +kernel
theorem dX0_owerOf_41 : decode cX0_owerOf 41 = .ok (.ireturn, 1) := by decide +kernel
theorem dX1_init_0 : decode cX1_init 0 = .ok (.aload_n 0, 1) := by decide +kernel
theorem dX1_init_1 : decode cX1_init 1 = .ok (.invokespecial 1, 3) := by decide +kernel
theorem dX1_init_4 : decode cX1_init 4 = .ok (.aload_n 0, 1) := by decide +kernel
theorem dX1_init_5 : decode cX1_init 5 = .ok (.lconst 0, 1) := by decide +kernel
theorem dX1_init_6 : decode cX1_init 6 = .ok (.putfield 7, 3) := by decide +kernel
theorem dX1_init_9 : decode cX1_init 9 = .ok (.return_, 1) := by decide +kernel
theorem dX1_drawOf_0 : decode cX1_drawOf 0 = .ok (.aload_n 0, 1) := by decide +kernel
theorem dX1_drawOf_1 : decode cX1_drawOf 1 = .ok (.ldc2_w 13, 3) := by decide +kernel
theorem dX1_drawOf_4 : decode cX1_drawOf 4 = .ok (.aload_n 0, 1) := by decide +kernel
theorem dX1_drawOf_5 : decode cX1_drawOf 5 = .ok (.getfield 7, 3) := by decide +kernel
theorem dX1_drawOf_8 : decode cX1_drawOf 8 = .ok (.lmul, 1) := by decide +kernel
theorem dX1_drawOf_9 : decode cX1_drawOf 9 = .ok (.ldc2_w 15, 3) := by decide +kernel
theorem dX1_drawOf_12 : decode cX1_drawOf 12 = .ok (.ladd, 1) := by decide +kernel
theorem dX1_drawOf_13 : decode cX1_drawOf 13 = .ok (.ldc2_w 17, 3) := by decide +kernel
theorem dX1_drawOf_16 : decode cX1_drawOf 16 = .ok (.lrem, 1) := by decide +kernel
theorem dX1_drawOf_17 : decode cX1_drawOf 17 = .ok (.putfield 7, 3) := by decide +kernel
theorem dX1_drawOf_20 : decode cX1_drawOf 20 = .ok (.iload_n 1, 1) := by decide +kernel
theorem dX1_drawOf_21 : decode cX1_drawOf 21 = .ok (.ifCond .le 18, 3) := by decide +kernel
theorem dX1_drawOf_24 : decode cX1_drawOf 24 = .ok (.aload_n 0, 1) := by decide +kernel
theorem dX1_drawOf_25 : decode cX1_drawOf 25 = .ok (.getfield 7, 3) := by decide +kernel
theorem dX1_drawOf_28 : decode cX1_drawOf 28 = .ok (.ldc2_w 19, 3) := by decide +kernel
theorem dX1_drawOf_31 : decode cX1_drawOf 31 = .ok (.ldiv, 1) := by decide +kernel
theorem dX1_drawOf_32 : decode cX1_drawOf 32 = .ok (.iload_n 1, 1) := by decide +kernel
theorem dX1_drawOf_33 : decode cX1_drawOf 33 = .ok (.i2l, 1) := by decide +kernel
theorem dX1_drawOf_34 : decode cX1_drawOf 34 = .ok (.lrem, 1) := by decide +kernel
theorem dX1_drawOf_35 : decode cX1_drawOf 35 = .ok (.l2i, 1) := by decide +kernel
theorem dX1_drawOf_36 : decode cX1_drawOf 36 = .ok (.goto 4, 3) := by decide +kernel
theorem dX1_drawOf_39 : decode cX1_drawOf 39 = .ok (.iconst 0, 1) := by decide +kernel
theorem dX1_drawOf_40 : decode cX1_drawOf 40 = .ok (.ireturn, 1) := by decide +kernel
theorem dX2_init_0 : decode cX2_init 0 = .ok (.aload_n 0, 1) := by decide +kernel
theorem dX2_init_1 : decode cX2_init 1 = .ok (.invokespecial 3, 3) := by decide +kernel
theorem dX2_init_4 : decode cX2_init 4 = .ok (.aload_n 0, 1) := by decide +kernel
theorem dX2_init_5 : decode cX2_init 5 = .ok (.sipush 201, 3) := by decide +kernel
theorem dX2_init_8 : decode cX2_init 8 = .ok (.newarray .int, 2) := by decide +kernel
theorem dX2_init_10 : decode cX2_init 10 = .ok (.putfield 9, 3) := by decide +kernel
theorem dX2_init_13 : decode cX2_init 13 = .ok (.aload_n 0, 1) := by decide +kernel
theorem dX2_init_14 : decode cX2_init 14 = .ok (.bipush 11, 2) := by decide +kernel
theorem dX2_init_16 : decode cX2_init 16 = .ok (.newarray .long, 2) := by decide +kernel
theorem dX2_init_18 : decode cX2_init 18 = .ok (.putfield 15, 3) := by decide +kernel
theorem dX2_init_21 : decode cX2_init 21 = .ok (.aload_n 0, 1) := by decide +kernel
theorem dX2_init_22 : decode cX2_init 22 = .ok (.sipush 10000, 3) := by decide +kernel
theorem dX2_init_25 : decode cX2_init 25 = .ok (.putfield 19, 3) := by decide +kernel
theorem dX2_init_28 : decode cX2_init 28 = .ok (.aload_n 0, 1) := by decide +kernel
theorem dX2_init_29 : decode cX2_init 29 = .ok (.bipush 10, 2) := by decide +kernel
theorem dX2_init_31 : decode cX2_init 31 = .ok (.putfield 23, 3) := by decide +kernel
theorem dX2_init_34 : decode cX2_init 34 = .ok (.aload_n 0, 1) := by decide +kernel
theorem dX2_init_35 : decode cX2_init 35 = .ok (.bipush 10, 2) := by decide +kernel
theorem dX2_init_37 : decode cX2_init 37 = .ok (.putfield 26, 3) := by decide +kernel
theorem dX2_init_40 : decode cX2_init 40 = .ok (.aload_n 0, 1) := by decide +kernel
theorem dX2_init_41 : decode cX2_init 41 = .ok (.iconst 0, 1) := by decide +kernel
theorem dX2_init_42 : decode cX2_init 42 = .ok (.putfield 29, 3) := by decide +kernel
theorem dX2_init_45 : decode cX2_init 45 = .ok (.return_, 1) := by decide +kernel
theorem dX2_dividendOn_0 : decode cX2_dividendOn 0 = .ok (.iload_n 1, 1) := by decide +kernel
theorem dX2_dividendOn_1 : decode cX2_dividendOn 1 = .ok (.ifCond .lt 21, 3) := by decide +kernel
theorem dX2_dividendOn_4 : decode cX2_dividendOn 4 = .ok (.iload_n 1, 1) := by decide +kernel
theorem dX2_dividendOn_5 : decode cX2_dividendOn 5 = .ok (.aload_n 0, 1) := by decide +kernel
theorem dX2_dividendOn_6 : decode cX2_dividendOn 6 = .ok (.getfield 9, 3) := by decide +kernel
theorem dX2_dividendOn_9 : decode cX2_dividendOn 9 = .ok (.arraylength, 1) := by decide +kernel
theorem dX2_dividendOn_10 : decode cX2_dividendOn 10 = .ok (.if_icmp .ge 12, 3) := by decide +kernel
theorem dX2_dividendOn_13 : decode cX2_dividendOn 13 = .ok (.aload_n 0, 1) := by decide +kernel
theorem dX2_dividendOn_14 : decode cX2_dividendOn 14 = .ok (.getfield 9, 3) := by decide +kernel
theorem dX2_dividendOn_17 : decode cX2_dividendOn 17 = .ok (.iload_n 1, 1) := by decide +kernel
theorem dX2_dividendOn_18 : decode cX2_dividendOn 18 = .ok (.iaload, 1) := by decide +kernel
theorem dX2_dividendOn_19 : decode cX2_dividendOn 19 = .ok (.goto 4, 3) := by decide +kernel
theorem dX2_dividendOn_22 : decode cX2_dividendOn 22 = .ok (.iconst 0, 1) := by decide +kernel
theorem dX2_dividendOn_23 : decode cX2_dividendOn 23 = .ok (.ireturn, 1) := by decide +kernel
theorem dX2_tellDividend_0 : decode cX2_tellDividend 0 = .ok (.iload_n 1, 1) := by decide +kernel
theorem dX2_tellDividend_1 : decode cX2_tellDividend 1 = .ok (.ifCond .lt 19, 3) := by decide +kernel
theorem dX2_tellDividend_4 : decode cX2_tellDividend 4 = .ok (.iload_n 1, 1) := by decide +kernel
theorem dX2_tellDividend_5 : decode cX2_tellDividend 5 = .ok (.aload_n 0, 1) := by decide +kernel
theorem dX2_tellDividend_6 : decode cX2_tellDividend 6 = .ok (.getfield 9, 3) := by decide +kernel
theorem dX2_tellDividend_9 : decode cX2_tellDividend 9 = .ok (.arraylength, 1) := by decide +kernel
theorem dX2_tellDividend_10 : decode cX2_tellDividend 10 = .ok (.if_icmp .ge 10, 3) := by decide +kernel
theorem dX2_tellDividend_13 : decode cX2_tellDividend 13 = .ok (.aload_n 0, 1) := by decide +kernel
theorem dX2_tellDividend_14 : decode cX2_tellDividend 14 = .ok (.getfield 9, 3) := by decide +kernel
theorem dX2_tellDividend_17 : decode cX2_tellDividend 17 = .ok (.iload_n 1, 1) := by decide +kernel
theorem dX2_tellDividend_18 : decode cX2_tellDividend 18 = .ok (.iload_n 2, 1) := by decide +kernel
theorem dX2_tellDividend_19 : decode cX2_tellDividend 19 = .ok (.iastore, 1) := by decide +kernel
theorem dX2_tellDividend_20 : decode cX2_tellDividend 20 = .ok (.return_, 1) := by decide +kernel
theorem dX2_belowOf_0 : decode cX2_belowOf 0 = .ok (.aload_n 0, 1) := by decide +kernel
theorem dX2_belowOf_1 : decode cX2_belowOf 1 = .ok (.getfield 23, 3) := by decide +kernel
theorem dX2_belowOf_4 : decode cX2_belowOf 4 = .ok (.aload_n 0, 1) := by decide +kernel
theorem dX2_belowOf_5 : decode cX2_belowOf 5 = .ok (.getfield 26, 3) := by decide +kernel
theorem dX2_belowOf_8 : decode cX2_belowOf 8 = .ok (.iadd, 1) := by decide +kernel
theorem dX2_belowOf_9 : decode cX2_belowOf 9 = .ok (.i2l, 1) := by decide +kernel
theorem dX2_belowOf_10 : decode cX2_belowOf 10 = .ok (.aload_n 1, 1) := by decide +kernel
theorem dX2_belowOf_11 : decode cX2_belowOf 11 = .ok (.getfield 32, 3) := by decide +kernel
theorem dX2_belowOf_14 : decode cX2_belowOf 14 = .ok (.aload_n 0, 1) := by decide +kernel
theorem dX2_belowOf_15 : decode cX2_belowOf 15 = .ok (.getfield 29, 3) := by decide +kernel
theorem dX2_belowOf_18 : decode cX2_belowOf 18 = .ok (.isub, 1) := by decide +kernel
theorem dX2_belowOf_19 : decode cX2_belowOf 19 = .ok (.bipush 10, 2) := by decide +kernel
theorem dX2_belowOf_21 : decode cX2_belowOf 21 = .ok (.invokestatic 37, 3) := by decide +kernel
theorem dX2_belowOf_24 : decode cX2_belowOf 24 = .ok (.invokestatic 43, 3) := by decide +kernel
theorem dX2_belowOf_27 : decode cX2_belowOf 27 = .ok (.lreturn, 1) := by decide +kernel
theorem dX2_markAt_0 : decode cX2_markAt 0 = .ok (.aload_n 0, 1) := by decide +kernel
theorem dX2_markAt_1 : decode cX2_markAt 1 = .ok (.aload_n 1, 1) := by decide +kernel
theorem dX2_markAt_2 : decode cX2_markAt 2 = .ok (.iload_n 2, 1) := by decide +kernel
theorem dX2_markAt_3 : decode cX2_markAt 3 = .ok (.invokevirtual 47, 3) := by decide +kernel
theorem dX2_markAt_6 : decode cX2_markAt 6 = .ok (.aload_n 0, 1) := by decide +kernel
theorem dX2_markAt_7 : decode cX2_markAt 7 = .ok (.aload_n 1, 1) := by decide +kernel
theorem dX2_markAt_8 : decode cX2_markAt 8 = .ok (.invokevirtual 51, 3) := by decide +kernel
theorem dX2_markAt_11 : decode cX2_markAt 11 = .ok (.invokestatic 55, 3) := by decide +kernel
theorem dX2_markAt_14 : decode cX2_markAt 14 = .ok (.ireturn, 1) := by decide +kernel
theorem dX2_numberAt_0 : decode cX2_numberAt 0 = .ok (.aload_n 1, 1) := by decide +kernel
theorem dX2_numberAt_1 : decode cX2_numberAt 1 = .ok (.getfield 32, 3) := by decide +kernel
theorem dX2_numberAt_4 : decode cX2_numberAt 4 = .ok (.aload_n 0, 1) := by decide +kernel
theorem dX2_numberAt_5 : decode cX2_numberAt 5 = .ok (.getfield 29, 3) := by decide +kernel
theorem dX2_numberAt_8 : decode cX2_numberAt 8 = .ok (.isub, 1) := by decide +kernel
theorem dX2_numberAt_9 : decode cX2_numberAt 9 = .ok (.istore_n 3, 1) := by decide +kernel
theorem dX2_numberAt_10 : decode cX2_numberAt 10 = .ok (.iload_n 3, 1) := by decide +kernel
theorem dX2_numberAt_11 : decode cX2_numberAt 11 = .ok (.ifCond .lt 12, 3) := by decide +kernel
theorem dX2_numberAt_14 : decode cX2_numberAt 14 = .ok (.iload_n 3, 1) := by decide +kernel
theorem dX2_numberAt_15 : decode cX2_numberAt 15 = .ok (.aload_n 0, 1) := by decide +kernel
theorem dX2_numberAt_16 : decode cX2_numberAt 16 = .ok (.getfield 15, 3) := by decide +kernel
theorem dX2_numberAt_19 : decode cX2_numberAt 19 = .ok (.arraylength, 1) := by decide +kernel
theorem dX2_numberAt_20 : decode cX2_numberAt 20 = .ok (.if_icmp .lt 5, 3) := by decide +kernel
theorem dX2_numberAt_23 : decode cX2_numberAt 23 = .ok (.lconst 0, 1) := by decide +kernel
theorem dX2_numberAt_24 : decode cX2_numberAt 24 = .ok (.lreturn, 1) := by decide +kernel
theorem dX2_numberAt_25 : decode cX2_numberAt 25 = .ok (.bipush 10, 2) := by decide +kernel
theorem dX2_numberAt_27 : decode cX2_numberAt 27 = .ok (.aload_n 0, 1) := by decide +kernel
theorem dX2_numberAt_28 : decode cX2_numberAt 28 = .ok (.getfield 23, 3) := by decide +kernel
theorem dX2_numberAt_31 : decode cX2_numberAt 31 = .ok (.aload_n 0, 1) := by decide +kernel
theorem dX2_numberAt_32 : decode cX2_numberAt 32 = .ok (.getfield 26, 3) := by decide +kernel
theorem dX2_numberAt_35 : decode cX2_numberAt 35 = .ok (.iadd, 1) := by decide +kernel
theorem dX2_numberAt_36 : decode cX2_numberAt 36 = .ok (.imul, 1) := by decide +kernel
theorem dX2_numberAt_37 : decode cX2_numberAt 37 = .ok (.istore 4, 2) := by decide +kernel
theorem dX2_numberAt_39 : decode cX2_numberAt 39 = .ok (.aload_n 0, 1) := by decide +kernel
theorem dX2_numberAt_40 : decode cX2_numberAt 40 = .ok (.iload_n 3, 1) := by decide +kernel
theorem dX2_numberAt_41 : decode cX2_numberAt 41 = .ok (.iload_n 2, 1) := by decide +kernel
theorem dX2_numberAt_42 : decode cX2_numberAt 42 = .ok (.invokevirtual 59, 3) := by decide +kernel
theorem dX2_numberAt_45 : decode cX2_numberAt 45 = .ok (.istore 5, 2) := by decide +kernel
theorem dX2_numberAt_47 : decode cX2_numberAt 47 = .ok (.iconst 0, 1) := by decide +kernel
theorem dX2_numberAt_48 : decode cX2_numberAt 48 = .ok (.istore 6, 2) := by decide +kernel
theorem dX2_numberAt_50 : decode cX2_numberAt 50 = .ok (.iload 6, 2) := by decide +kernel
theorem dX2_numberAt_52 : decode cX2_numberAt 52 = .ok (.iload_n 3, 1) := by decide +kernel
theorem dX2_numberAt_53 : decode cX2_numberAt 53 = .ok (.if_icmp .gt 29, 3) := by decide +kernel
theorem dX2_numberAt_56 : decode cX2_numberAt 56 = .ok (.aload_n 0, 1) := by decide +kernel
theorem dX2_numberAt_57 : decode cX2_numberAt 57 = .ok (.getfield 15, 3) := by decide +kernel
theorem dX2_numberAt_60 : decode cX2_numberAt 60 = .ok (.iload 6, 2) := by decide +kernel
theorem dX2_numberAt_62 : decode cX2_numberAt 62 = .ok (.aload_n 1, 1) := by decide +kernel
theorem dX2_numberAt_63 : decode cX2_numberAt 63 = .ok (.iload 5, 2) := by decide +kernel
theorem dX2_numberAt_65 : decode cX2_numberAt 65 = .ok (.iload 6, 2) := by decide +kernel
theorem dX2_numberAt_67 : decode cX2_numberAt 67 = .ok (.iload 4, 2) := by decide +kernel
theorem dX2_numberAt_69 : decode cX2_numberAt 69 = .ok (.imul, 1) := by decide +kernel
theorem dX2_numberAt_70 : decode cX2_numberAt 70 = .ok (.iadd, 1) := by decide +kernel
theorem dX2_numberAt_71 : decode cX2_numberAt 71 = .ok (.invokevirtual 62, 3) := by decide +kernel
theorem dX2_numberAt_74 : decode cX2_numberAt 74 = .ok (.i2l, 1) := by decide +kernel
theorem dX2_numberAt_75 : decode cX2_numberAt 75 = .ok (.lastore, 1) := by decide +kernel
theorem dX2_numberAt_76 : decode cX2_numberAt 76 = .ok (.iinc 6 1, 3) := by decide +kernel
theorem dX2_numberAt_79 : decode cX2_numberAt 79 = .ok (.goto (-29), 3) := by decide +kernel
theorem dX2_numberAt_82 : decode cX2_numberAt 82 = .ok (.lconst 1, 1) := by decide +kernel
theorem dX2_numberAt_83 : decode cX2_numberAt 83 = .ok (.lstore 6, 2) := by decide +kernel
theorem dX2_numberAt_85 : decode cX2_numberAt 85 = .ok (.iload_n 3, 1) := by decide +kernel
theorem dX2_numberAt_86 : decode cX2_numberAt 86 = .ok (.iconst 1, 1) := by decide +kernel
theorem dX2_numberAt_87 : decode cX2_numberAt 87 = .ok (.isub, 1) := by decide +kernel
theorem dX2_numberAt_88 : decode cX2_numberAt 88 = .ok (.istore 8, 2) := by decide +kernel
theorem dX2_numberAt_90 : decode cX2_numberAt 90 = .ok (.iload 8, 2) := by decide +kernel
theorem dX2_numberAt_92 : decode cX2_numberAt 92 = .ok (.ifCond .lt 142, 3) := by decide +kernel
theorem dX2_numberAt_95 : decode cX2_numberAt 95 = .ok (.iload 5, 2) := by decide +kernel
theorem dX2_numberAt_97 : decode cX2_numberAt 97 = .ok (.bipush 10, 2) := by decide +kernel
theorem dX2_numberAt_99 : decode cX2_numberAt 99 = .ok (.aload_n 0, 1) := by decide +kernel
theorem dX2_numberAt_100 : decode cX2_numberAt 100 = .ok (.getfield 26, 3) := by decide +kernel
theorem dX2_numberAt_103 : decode cX2_numberAt 103 = .ok (.imul, 1) := by decide +kernel
theorem dX2_numberAt_104 : decode cX2_numberAt 104 = .ok (.aload_n 0, 1) := by decide +kernel
theorem dX2_numberAt_105 : decode cX2_numberAt 105 = .ok (.aload_n 0, 1) := by decide +kernel
theorem dX2_numberAt_106 : decode cX2_numberAt 106 = .ok (.getfield 29, 3) := by decide +kernel
theorem dX2_numberAt_109 : decode cX2_numberAt 109 = .ok (.iload 8, 2) := by decide +kernel
theorem dX2_numberAt_111 : decode cX2_numberAt 111 = .ok (.iadd, 1) := by decide +kernel
theorem dX2_numberAt_112 : decode cX2_numberAt 112 = .ok (.iconst 1, 1) := by decide +kernel
theorem dX2_numberAt_113 : decode cX2_numberAt 113 = .ok (.iadd, 1) := by decide +kernel
theorem dX2_numberAt_114 : decode cX2_numberAt 114 = .ok (.invokevirtual 66, 3) := by decide +kernel
theorem dX2_numberAt_117 : decode cX2_numberAt 117 = .ok (.iadd, 1) := by decide +kernel
theorem dX2_numberAt_118 : decode cX2_numberAt 118 = .ok (.iadd, 1) := by decide +kernel
theorem dX2_numberAt_119 : decode cX2_numberAt 119 = .ok (.istore 5, 2) := by decide +kernel
theorem dX2_numberAt_121 : decode cX2_numberAt 121 = .ok (.lload 6, 2) := by decide +kernel
theorem dX2_numberAt_123 : decode cX2_numberAt 123 = .ok (.aload_n 0, 1) := by decide +kernel
theorem dX2_numberAt_124 : decode cX2_numberAt 124 = .ok (.getfield 23, 3) := by decide +kernel
theorem dX2_numberAt_127 : decode cX2_numberAt 127 = .ok (.aload_n 0, 1) := by decide +kernel
theorem dX2_numberAt_128 : decode cX2_numberAt 128 = .ok (.getfield 26, 3) := by decide +kernel
theorem dX2_numberAt_131 : decode cX2_numberAt 131 = .ok (.iadd, 1) := by decide +kernel
theorem dX2_numberAt_132 : decode cX2_numberAt 132 = .ok (.i2l, 1) := by decide +kernel
theorem dX2_numberAt_133 : decode cX2_numberAt 133 = .ok (.lmul, 1) := by decide +kernel
theorem dX2_numberAt_134 : decode cX2_numberAt 134 = .ok (.lstore 6, 2) := by decide +kernel
theorem dX2_numberAt_136 : decode cX2_numberAt 136 = .ok (.iconst 0, 1) := by decide +kernel
theorem dX2_numberAt_137 : decode cX2_numberAt 137 = .ok (.istore 9, 2) := by decide +kernel
theorem dX2_numberAt_139 : decode cX2_numberAt 139 = .ok (.iload 9, 2) := by decide +kernel
theorem dX2_numberAt_141 : decode cX2_numberAt 141 = .ok (.iload 8, 2) := by decide +kernel
theorem dX2_numberAt_143 : decode cX2_numberAt 143 = .ok (.if_icmp .gt 85, 3) := by decide +kernel
theorem dX2_numberAt_146 : decode cX2_numberAt 146 = .ok (.aload_n 0, 1) := by decide +kernel
theorem dX2_numberAt_147 : decode cX2_numberAt 147 = .ok (.getfield 15, 3) := by decide +kernel
theorem dX2_numberAt_150 : decode cX2_numberAt 150 = .ok (.iload 9, 2) := by decide +kernel
theorem dX2_numberAt_152 : decode cX2_numberAt 152 = .ok (.aload_n 0, 1) := by decide +kernel
theorem dX2_numberAt_153 : decode cX2_numberAt 153 = .ok (.getfield 26, 3) := by decide +kernel
theorem dX2_numberAt_156 : decode cX2_numberAt 156 = .ok (.i2l, 1) := by decide +kernel
theorem dX2_numberAt_157 : decode cX2_numberAt 157 = .ok (.aload_n 0, 1) := by decide +kernel
theorem dX2_numberAt_158 : decode cX2_numberAt 158 = .ok (.getfield 15, 3) := by decide +kernel
theorem dX2_numberAt_161 : decode cX2_numberAt 161 = .ok (.iload 9, 2) := by decide +kernel
theorem dX2_numberAt_163 : decode cX2_numberAt 163 = .ok (.iconst 1, 1) := by decide +kernel
theorem dX2_numberAt_164 : decode cX2_numberAt 164 = .ok (.iadd, 1) := by decide +kernel
theorem dX2_numberAt_165 : decode cX2_numberAt 165 = .ok (.laload, 1) := by decide +kernel
theorem dX2_numberAt_166 : decode cX2_numberAt 166 = .ok (.lmul, 1) := by decide +kernel
theorem dX2_numberAt_167 : decode cX2_numberAt 167 = .ok (.aload_n 0, 1) := by decide +kernel
theorem dX2_numberAt_168 : decode cX2_numberAt 168 = .ok (.getfield 23, 3) := by decide +kernel
theorem dX2_numberAt_171 : decode cX2_numberAt 171 = .ok (.i2l, 1) := by decide +kernel
theorem dX2_numberAt_172 : decode cX2_numberAt 172 = .ok (.aload_n 0, 1) := by decide +kernel
theorem dX2_numberAt_173 : decode cX2_numberAt 173 = .ok (.getfield 15, 3) := by decide +kernel
theorem dX2_numberAt_176 : decode cX2_numberAt 176 = .ok (.iload 9, 2) := by decide +kernel
theorem dX2_numberAt_178 : decode cX2_numberAt 178 = .ok (.laload, 1) := by decide +kernel
theorem dX2_numberAt_179 : decode cX2_numberAt 179 = .ok (.lmul, 1) := by decide +kernel
theorem dX2_numberAt_180 : decode cX2_numberAt 180 = .ok (.ladd, 1) := by decide +kernel
theorem dX2_numberAt_181 : decode cX2_numberAt 181 = .ok (.lastore, 1) := by decide +kernel
theorem dX2_numberAt_182 : decode cX2_numberAt 182 = .ok (.aload_n 1, 1) := by decide +kernel
theorem dX2_numberAt_183 : decode cX2_numberAt 183 = .ok (.getfield 69, 3) := by decide +kernel
theorem dX2_numberAt_186 : decode cX2_numberAt 186 = .ok (.ifCond .eq 36, 3) := by decide +kernel
theorem dX2_numberAt_189 : decode cX2_numberAt 189 = .ok (.aload_n 0, 1) := by decide +kernel
theorem dX2_numberAt_190 : decode cX2_numberAt 190 = .ok (.getfield 15, 3) := by decide +kernel
theorem dX2_numberAt_193 : decode cX2_numberAt 193 = .ok (.iload 9, 2) := by decide +kernel
theorem dX2_numberAt_195 : decode cX2_numberAt 195 = .ok (.aload_n 0, 1) := by decide +kernel
theorem dX2_numberAt_196 : decode cX2_numberAt 196 = .ok (.getfield 15, 3) := by decide +kernel
theorem dX2_numberAt_199 : decode cX2_numberAt 199 = .ok (.iload 9, 2) := by decide +kernel
theorem dX2_numberAt_201 : decode cX2_numberAt 201 = .ok (.laload, 1) := by decide +kernel
theorem dX2_numberAt_202 : decode cX2_numberAt 202 = .ok (.lload 6, 2) := by decide +kernel
theorem dX2_numberAt_204 : decode cX2_numberAt 204 = .ok (.aload_n 1, 1) := by decide +kernel
theorem dX2_numberAt_205 : decode cX2_numberAt 205 = .ok (.iload 5, 2) := by decide +kernel
theorem dX2_numberAt_207 : decode cX2_numberAt 207 = .ok (.iload 9, 2) := by decide +kernel
theorem dX2_numberAt_209 : decode cX2_numberAt 209 = .ok (.iload 4, 2) := by decide +kernel
theorem dX2_numberAt_211 : decode cX2_numberAt 211 = .ok (.imul, 1) := by decide +kernel
theorem dX2_numberAt_212 : decode cX2_numberAt 212 = .ok (.iadd, 1) := by decide +kernel
theorem dX2_numberAt_213 : decode cX2_numberAt 213 = .ok (.invokevirtual 62, 3) := by decide +kernel
theorem dX2_numberAt_216 : decode cX2_numberAt 216 = .ok (.i2l, 1) := by decide +kernel
theorem dX2_numberAt_217 : decode cX2_numberAt 217 = .ok (.lmul, 1) := by decide +kernel
theorem dX2_numberAt_218 : decode cX2_numberAt 218 = .ok (.invokestatic 73, 3) := by decide +kernel
theorem dX2_numberAt_221 : decode cX2_numberAt 221 = .ok (.lastore, 1) := by decide +kernel
theorem dX2_numberAt_222 : decode cX2_numberAt 222 = .ok (.iinc 9 1, 3) := by decide +kernel
theorem dX2_numberAt_225 : decode cX2_numberAt 225 = .ok (.goto (-86), 3) := by decide +kernel
theorem dX2_numberAt_228 : decode cX2_numberAt 228 = .ok (.iinc 8 (-1), 3) := by decide +kernel
theorem dX2_numberAt_231 : decode cX2_numberAt 231 = .ok (.goto (-141), 3) := by decide +kernel
theorem dX2_numberAt_234 : decode cX2_numberAt 234 = .ok (.aload_n 0, 1) := by decide +kernel
theorem dX2_numberAt_235 : decode cX2_numberAt 235 = .ok (.getfield 15, 3) := by decide +kernel
theorem dX2_numberAt_238 : decode cX2_numberAt 238 = .ok (.iconst 0, 1) := by decide +kernel
theorem dX2_numberAt_239 : decode cX2_numberAt 239 = .ok (.laload, 1) := by decide +kernel
theorem dX2_numberAt_240 : decode cX2_numberAt 240 = .ok (.lreturn, 1) := by decide +kernel
theorem dX2_lowestAfter_0 : decode cX2_lowestAfter 0 = .ok (.iload_n 2, 1) := by decide +kernel
theorem dX2_lowestAfter_1 : decode cX2_lowestAfter 1 = .ok (.istore_n 3, 1) := by decide +kernel
theorem dX2_lowestAfter_2 : decode cX2_lowestAfter 2 = .ok (.iconst 1, 1) := by decide +kernel
theorem dX2_lowestAfter_3 : decode cX2_lowestAfter 3 = .ok (.istore 4, 2) := by decide +kernel
theorem dX2_lowestAfter_5 : decode cX2_lowestAfter 5 = .ok (.iload 4, 2) := by decide +kernel
theorem dX2_lowestAfter_7 : decode cX2_lowestAfter 7 = .ok (.iload_n 1, 1) := by decide +kernel
theorem dX2_lowestAfter_8 : decode cX2_lowestAfter 8 = .ok (.if_icmp .gt 31, 3) := by decide +kernel
theorem dX2_lowestAfter_11 : decode cX2_lowestAfter 11 = .ok (.iload_n 3, 1) := by decide +kernel
theorem dX2_lowestAfter_12 : decode cX2_lowestAfter 12 = .ok (.bipush 10, 2) := by decide +kernel
theorem dX2_lowestAfter_14 : decode cX2_lowestAfter 14 = .ok (.aload_n 0, 1) := by decide +kernel
theorem dX2_lowestAfter_15 : decode cX2_lowestAfter 15 = .ok (.getfield 26, 3) := by decide +kernel
theorem dX2_lowestAfter_18 : decode cX2_lowestAfter 18 = .ok (.imul, 1) := by decide +kernel
theorem dX2_lowestAfter_19 : decode cX2_lowestAfter 19 = .ok (.aload_n 0, 1) := by decide +kernel
theorem dX2_lowestAfter_20 : decode cX2_lowestAfter 20 = .ok (.aload_n 0, 1) := by decide +kernel
theorem dX2_lowestAfter_21 : decode cX2_lowestAfter 21 = .ok (.getfield 29, 3) := by decide +kernel
theorem dX2_lowestAfter_24 : decode cX2_lowestAfter 24 = .ok (.iload 4, 2) := by decide +kernel
theorem dX2_lowestAfter_26 : decode cX2_lowestAfter 26 = .ok (.iadd, 1) := by decide +kernel
theorem dX2_lowestAfter_27 : decode cX2_lowestAfter 27 = .ok (.invokevirtual 66, 3) := by decide +kernel
theorem dX2_lowestAfter_30 : decode cX2_lowestAfter 30 = .ok (.iadd, 1) := by decide +kernel
theorem dX2_lowestAfter_31 : decode cX2_lowestAfter 31 = .ok (.isub, 1) := by decide +kernel
theorem dX2_lowestAfter_32 : decode cX2_lowestAfter 32 = .ok (.istore_n 3, 1) := by decide +kernel
theorem dX2_lowestAfter_33 : decode cX2_lowestAfter 33 = .ok (.iinc 4 1, 3) := by decide +kernel
theorem dX2_lowestAfter_36 : decode cX2_lowestAfter 36 = .ok (.goto (-31), 3) := by decide +kernel
theorem dX2_lowestAfter_39 : decode cX2_lowestAfter 39 = .ok (.iload_n 3, 1) := by decide +kernel
theorem dX2_lowestAfter_40 : decode cX2_lowestAfter 40 = .ok (.ireturn, 1) := by decide +kernel
theorem dX3_init_0 : decode cX3_init 0 = .ok (.aload_n 0, 1) := by decide +kernel
theorem dX3_init_1 : decode cX3_init 1 = .ok (.invokespecial 3, 3) := by decide +kernel
theorem dX3_init_4 : decode cX3_init 4 = .ok (.aload_n 0, 1) := by decide +kernel
theorem dX3_init_5 : decode cX3_init 5 = .ok (.new 9, 3) := by decide +kernel
theorem dX3_init_8 : decode cX3_init 8 = .ok (.dup, 1) := by decide +kernel
theorem dX3_init_9 : decode cX3_init 9 = .ok (.invokespecial 11, 3) := by decide +kernel
theorem dX3_init_12 : decode cX3_init 12 = .ok (.putfield 12, 3) := by decide +kernel
theorem dX3_init_15 : decode cX3_init 15 = .ok (.aload_n 0, 1) := by decide +kernel
theorem dX3_init_16 : decode cX3_init 16 = .ok (.new 16, 3) := by decide +kernel
theorem dX3_init_19 : decode cX3_init 19 = .ok (.dup, 1) := by decide +kernel
theorem dX3_init_20 : decode cX3_init 20 = .ok (.invokespecial 18, 3) := by decide +kernel
theorem dX3_init_23 : decode cX3_init 23 = .ok (.putfield 19, 3) := by decide +kernel
theorem dX3_init_26 : decode cX3_init 26 = .ok (.aload_n 0, 1) := by decide +kernel
theorem dX3_init_27 : decode cX3_init 27 = .ok (.new 23, 3) := by decide +kernel
theorem dX3_init_30 : decode cX3_init 30 = .ok (.dup, 1) := by decide +kernel
theorem dX3_init_31 : decode cX3_init 31 = .ok (.invokespecial 25, 3) := by decide +kernel
theorem dX3_init_34 : decode cX3_init 34 = .ok (.putfield 26, 3) := by decide +kernel
theorem dX3_init_37 : decode cX3_init 37 = .ok (.aload_n 0, 1) := by decide +kernel
theorem dX3_init_38 : decode cX3_init 38 = .ok (.bipush 7, 2) := by decide +kernel
theorem dX3_init_40 : decode cX3_init 40 = .ok (.newarray .long, 2) := by decide +kernel
theorem dX3_init_42 : decode cX3_init 42 = .ok (.putfield 30, 3) := by decide +kernel
theorem dX3_init_45 : decode cX3_init 45 = .ok (.aload_n 0, 1) := by decide +kernel
theorem dX3_init_46 : decode cX3_init 46 = .ok (.bipush 6, 2) := by decide +kernel
theorem dX3_init_48 : decode cX3_init 48 = .ok (.newarray .long, 2) := by decide +kernel
theorem dX3_init_50 : decode cX3_init 50 = .ok (.putfield 34, 3) := by decide +kernel
theorem dX3_init_53 : decode cX3_init 53 = .ok (.aload_n 0, 1) := by decide +kernel
theorem dX3_init_54 : decode cX3_init 54 = .ok (.bipush 100, 2) := by decide +kernel
theorem dX3_init_56 : decode cX3_init 56 = .ok (.putfield 37, 3) := by decide +kernel
theorem dX3_init_59 : decode cX3_init 59 = .ok (.aload_n 0, 1) := by decide +kernel
theorem dX3_init_60 : decode cX3_init 60 = .ok (.iconst 0, 1) := by decide +kernel
theorem dX3_init_61 : decode cX3_init 61 = .ok (.putfield 41, 3) := by decide +kernel
theorem dX3_init_64 : decode cX3_init 64 = .ok (.aload_n 0, 1) := by decide +kernel
theorem dX3_init_65 : decode cX3_init 65 = .ok (.sipush 500, 3) := by decide +kernel
theorem dX3_init_68 : decode cX3_init 68 = .ok (.putfield 44, 3) := by decide +kernel
theorem dX3_init_71 : decode cX3_init 71 = .ok (.return_, 1) := by decide +kernel
theorem dX3_steps_0 : decode cX3_steps 0 = .ok (.iload_n 1, 1) := by decide +kernel
theorem dX3_steps_1 : decode cX3_steps 1 = .ok (.iconst 1, 1) := by decide +kernel
theorem dX3_steps_2 : decode cX3_steps 2 = .ok (.bipush 10, 2) := by decide +kernel
theorem dX3_steps_4 : decode cX3_steps 4 = .ok (.invokestatic 47, 3) := by decide +kernel
theorem dX3_steps_7 : decode cX3_steps 7 = .ok (.iload_n 2, 1) := by decide +kernel
theorem dX3_steps_8 : decode cX3_steps 8 = .ok (.iconst 1, 1) := by decide +kernel
theorem dX3_steps_9 : decode cX3_steps 9 = .ok (.bipush 10, 2) := by decide +kernel
theorem dX3_steps_11 : decode cX3_steps 11 = .ok (.invokestatic 47, 3) := by decide +kernel
theorem dX3_steps_14 : decode cX3_steps 14 = .ok (.aload_n 0, 1) := by decide +kernel
theorem dX3_steps_15 : decode cX3_steps 15 = .ok (.invokevirtual 51, 3) := by decide +kernel
theorem dX3_steps_18 : decode cX3_steps 18 = .ok (.lstore_n 3, 1) := by decide +kernel
theorem dX3_steps_19 : decode cX3_steps 19 = .ok (.aload_n 0, 1) := by decide +kernel
theorem dX3_steps_20 : decode cX3_steps 20 = .ok (.getfield 12, 3) := by decide +kernel
theorem dX3_steps_23 : decode cX3_steps 23 = .ok (.iload_n 1, 1) := by decide +kernel
theorem dX3_steps_24 : decode cX3_steps 24 = .ok (.putfield 55, 3) := by decide +kernel
theorem dX3_steps_27 : decode cX3_steps 27 = .ok (.aload_n 0, 1) := by decide +kernel
theorem dX3_steps_28 : decode cX3_steps 28 = .ok (.getfield 12, 3) := by decide +kernel
theorem dX3_steps_31 : decode cX3_steps 31 = .ok (.iload_n 2, 1) := by decide +kernel
theorem dX3_steps_32 : decode cX3_steps 32 = .ok (.putfield 58, 3) := by decide +kernel
theorem dX3_steps_35 : decode cX3_steps 35 = .ok (.aload_n 0, 1) := by decide +kernel
theorem dX3_steps_36 : decode cX3_steps 36 = .ok (.iconst 5, 1) := by decide +kernel
theorem dX3_steps_37 : decode cX3_steps 37 = .ok (.aload_n 0, 1) := by decide +kernel
theorem dX3_steps_38 : decode cX3_steps 38 = .ok (.invokevirtual 51, 3) := by decide +kernel
theorem dX3_steps_41 : decode cX3_steps 41 = .ok (.lload_n 3, 1) := by decide +kernel
theorem dX3_steps_42 : decode cX3_steps 42 = .ok (.lsub, 1) := by decide +kernel
theorem dX3_steps_43 : decode cX3_steps 43 = .ok (.invokevirtual 61, 3) := by decide +kernel
theorem dX3_steps_46 : decode cX3_steps 46 = .ok (.return_, 1) := by decide +kernel
theorem dX3_move_0 : decode cX3_move 0 = .ok (.iload_n 1, 1) := by decide +kernel
theorem dX3_move_1 : decode cX3_move 1 = .ok (.iconst 0, 1) := by decide +kernel
theorem dX3_move_2 : decode cX3_move 2 = .ok (.sipush 20000, 3) := by decide +kernel
theorem dX3_move_5 : decode cX3_move 5 = .ok (.invokestatic 47, 3) := by decide +kernel
theorem dX3_move_8 : decode cX3_move 8 = .ok (.aload_n 0, 1) := by decide +kernel
theorem dX3_move_9 : decode cX3_move 9 = .ok (.invokevirtual 51, 3) := by decide +kernel
theorem dX3_move_12 : decode cX3_move 12 = .ok (.lstore_n 2, 1) := by decide +kernel
theorem dX3_move_13 : decode cX3_move 13 = .ok (.aload_n 0, 1) := by decide +kernel
theorem dX3_move_14 : decode cX3_move 14 = .ok (.getfield 12, 3) := by decide +kernel
theorem dX3_move_17 : decode cX3_move 17 = .ok (.iload_n 1, 1) := by decide +kernel
theorem dX3_move_18 : decode cX3_move 18 = .ok (.putfield 65, 3) := by decide +kernel
theorem dX3_move_21 : decode cX3_move 21 = .ok (.aload_n 0, 1) := by decide +kernel
theorem dX3_move_22 : decode cX3_move 22 = .ok (.invokevirtual 51, 3) := by decide +kernel
theorem dX3_move_25 : decode cX3_move 25 = .ok (.lload_n 2, 1) := by decide +kernel
theorem dX3_move_26 : decode cX3_move 26 = .ok (.lsub, 1) := by decide +kernel
theorem dX3_move_27 : decode cX3_move 27 = .ok (.lstore 4, 2) := by decide +kernel
theorem dX3_move_29 : decode cX3_move 29 = .ok (.aload_n 0, 1) := by decide +kernel
theorem dX3_move_30 : decode cX3_move 30 = .ok (.iconst 1, 1) := by decide +kernel
theorem dX3_move_31 : decode cX3_move 31 = .ok (.lload 4, 2) := by decide +kernel
theorem dX3_move_33 : decode cX3_move 33 = .ok (.invokevirtual 61, 3) := by decide +kernel
theorem dX3_move_36 : decode cX3_move 36 = .ok (.lload 4, 2) := by decide +kernel
theorem dX3_move_38 : decode cX3_move 38 = .ok (.lreturn, 1) := by decide +kernel
theorem dX3_dividend_0 : decode cX3_dividend 0 = .ok (.iload_n 1, 1) := by decide +kernel
theorem dX3_dividend_1 : decode cX3_dividend 1 = .ok (.aload_n 0, 1) := by decide +kernel
theorem dX3_dividend_2 : decode cX3_dividend 2 = .ok (.getfield 12, 3) := by decide +kernel
theorem dX3_dividend_5 : decode cX3_dividend 5 = .ok (.getfield 68, 3) := by decide +kernel
theorem dX3_dividend_8 : decode cX3_dividend 8 = .ok (.iconst 1, 1) := by decide +kernel
theorem dX3_dividend_9 : decode cX3_dividend 9 = .ok (.iadd, 1) := by decide +kernel
theorem dX3_dividend_10 : decode cX3_dividend 10 = .ok (.sipush 200, 3) := by decide +kernel
theorem dX3_dividend_13 : decode cX3_dividend 13 = .ok (.invokestatic 47, 3) := by decide +kernel
theorem dX3_dividend_16 : decode cX3_dividend 16 = .ok (.iload_n 2, 1) := by decide +kernel
theorem dX3_dividend_17 : decode cX3_dividend 17 = .ok (.iconst 0, 1) := by decide +kernel
theorem dX3_dividend_18 : decode cX3_dividend 18 = .ok (.sipush 1000, 3) := by decide +kernel
theorem dX3_dividend_21 : decode cX3_dividend 21 = .ok (.invokestatic 47, 3) := by decide +kernel
theorem dX3_dividend_24 : decode cX3_dividend 24 = .ok (.aload_n 0, 1) := by decide +kernel
theorem dX3_dividend_25 : decode cX3_dividend 25 = .ok (.invokevirtual 51, 3) := by decide +kernel
theorem dX3_dividend_28 : decode cX3_dividend 28 = .ok (.lstore_n 3, 1) := by decide +kernel
theorem dX3_dividend_29 : decode cX3_dividend 29 = .ok (.aload_n 0, 1) := by decide +kernel
theorem dX3_dividend_30 : decode cX3_dividend 30 = .ok (.getfield 12, 3) := by decide +kernel
theorem dX3_dividend_33 : decode cX3_dividend 33 = .ok (.iload_n 1, 1) := by decide +kernel
theorem dX3_dividend_34 : decode cX3_dividend 34 = .ok (.invokevirtual 71, 3) := by decide +kernel
theorem dX3_dividend_37 : decode cX3_dividend 37 = .ok (.istore 5, 2) := by decide +kernel
theorem dX3_dividend_39 : decode cX3_dividend 39 = .ok (.aload_n 0, 1) := by decide +kernel
theorem dX3_dividend_40 : decode cX3_dividend 40 = .ok (.getfield 12, 3) := by decide +kernel
theorem dX3_dividend_43 : decode cX3_dividend 43 = .ok (.iload_n 1, 1) := by decide +kernel
theorem dX3_dividend_44 : decode cX3_dividend 44 = .ok (.iload_n 2, 1) := by decide +kernel
theorem dX3_dividend_45 : decode cX3_dividend 45 = .ok (.invokevirtual 75, 3) := by decide +kernel
theorem dX3_dividend_48 : decode cX3_dividend 48 = .ok (.aload_n 0, 1) := by decide +kernel
theorem dX3_dividend_49 : decode cX3_dividend 49 = .ok (.iconst 5, 1) := by decide +kernel
theorem dX3_dividend_50 : decode cX3_dividend 50 = .ok (.aload_n 0, 1) := by decide +kernel
theorem dX3_dividend_51 : decode cX3_dividend 51 = .ok (.invokevirtual 51, 3) := by decide +kernel
theorem dX3_dividend_54 : decode cX3_dividend 54 = .ok (.lload_n 3, 1) := by decide +kernel
theorem dX3_dividend_55 : decode cX3_dividend 55 = .ok (.lsub, 1) := by decide +kernel
theorem dX3_dividend_56 : decode cX3_dividend 56 = .ok (.invokevirtual 61, 3) := by decide +kernel
theorem dX3_dividend_59 : decode cX3_dividend 59 = .ok (.iload 5, 2) := by decide +kernel
theorem dX3_dividend_61 : decode cX3_dividend 61 = .ok (.ireturn, 1) := by decide +kernel
theorem dX3_contract_0 : decode cX3_contract 0 = .ok (.iload_n 1, 1) := by decide +kernel
theorem dX3_contract_1 : decode cX3_contract 1 = .ok (.iconst 0, 1) := by decide +kernel
theorem dX3_contract_2 : decode cX3_contract 2 = .ok (.iconst 1, 1) := by decide +kernel
theorem dX3_contract_3 : decode cX3_contract 3 = .ok (.invokestatic 47, 3) := by decide +kernel
theorem dX3_contract_6 : decode cX3_contract 6 = .ok (.iload_n 2, 1) := by decide +kernel
theorem dX3_contract_7 : decode cX3_contract 7 = .ok (.iconst 0, 1) := by decide +kernel
theorem dX3_contract_8 : decode cX3_contract 8 = .ok (.sipush 20000, 3) := by decide +kernel
theorem dX3_contract_11 : decode cX3_contract 11 = .ok (.invokestatic 47, 3) := by decide +kernel
theorem dX3_contract_14 : decode cX3_contract 14 = .ok (.iload_n 3, 1) := by decide +kernel
theorem dX3_contract_15 : decode cX3_contract 15 = .ok (.aload_n 0, 1) := by decide +kernel
theorem dX3_contract_16 : decode cX3_contract 16 = .ok (.getfield 12, 3) := by decide +kernel
theorem dX3_contract_19 : decode cX3_contract 19 = .ok (.getfield 68, 3) := by decide +kernel
theorem dX3_contract_22 : decode cX3_contract 22 = .ok (.aload_n 0, 1) := by decide +kernel
theorem dX3_contract_23 : decode cX3_contract 23 = .ok (.getfield 12, 3) := by decide +kernel
theorem dX3_contract_26 : decode cX3_contract 26 = .ok (.getfield 68, 3) := by decide +kernel
theorem dX3_contract_29 : decode cX3_contract 29 = .ok (.bipush 10, 2) := by decide +kernel
theorem dX3_contract_31 : decode cX3_contract 31 = .ok (.iadd, 1) := by decide +kernel
theorem dX3_contract_32 : decode cX3_contract 32 = .ok (.sipush 200, 3) := by decide +kernel
theorem dX3_contract_35 : decode cX3_contract 35 = .ok (.invokestatic 79, 3) := by decide +kernel
theorem dX3_contract_38 : decode cX3_contract 38 = .ok (.invokestatic 47, 3) := by decide +kernel
theorem dX3_contract_41 : decode cX3_contract 41 = .ok (.aload_n 0, 1) := by decide +kernel
theorem dX3_contract_42 : decode cX3_contract 42 = .ok (.getfield 26, 3) := by decide +kernel
theorem dX3_contract_45 : decode cX3_contract 45 = .ok (.invokevirtual 85, 3) := by decide +kernel
theorem dX3_contract_48 : decode cX3_contract 48 = .ok (.istore 5, 2) := by decide +kernel
theorem dX3_contract_50 : decode cX3_contract 50 = .ok (.iload 5, 2) := by decide +kernel
theorem dX3_contract_52 : decode cX3_contract 52 = .ok (.bipush 12, 2) := by decide +kernel
theorem dX3_contract_54 : decode cX3_contract 54 = .ok (.if_icmp .lt 13, 3) := by decide +kernel
theorem dX3_contract_57 : decode cX3_contract 57 = .ok (.new 89, 3) := by decide +kernel
theorem dX3_contract_60 : decode cX3_contract 60 = .ok (.dup, 1) := by decide +kernel
theorem dX3_contract_61 : decode cX3_contract 61 = .ok (.ldc 91, 2) := by decide +kernel
theorem dX3_contract_63 : decode cX3_contract 63 = .ok (.invokespecial 93, 3) := by decide +kernel
theorem dX3_contract_66 : decode cX3_contract 66 = .ok (.athrow, 1) := by decide +kernel
theorem dX3_contract_67 : decode cX3_contract 67 = .ok (.aload_n 0, 1) := by decide +kernel
theorem dX3_contract_68 : decode cX3_contract 68 = .ok (.getfield 26, 3) := by decide +kernel
theorem dX3_contract_71 : decode cX3_contract 71 = .ok (.new 96, 3) := by decide +kernel
theorem dX3_contract_74 : decode cX3_contract 74 = .ok (.dup, 1) := by decide +kernel
theorem dX3_contract_75 : decode cX3_contract 75 = .ok (.iload_n 1, 1) := by decide +kernel
theorem dX3_contract_76 : decode cX3_contract 76 = .ok (.iload_n 2, 1) := by decide +kernel
theorem dX3_contract_77 : decode cX3_contract 77 = .ok (.iload_n 3, 1) := by decide +kernel
theorem dX3_contract_78 : decode cX3_contract 78 = .ok (.iload 4, 2) := by decide +kernel
theorem dX3_contract_80 : decode cX3_contract 80 = .ok (.invokespecial 98, 3) := by decide +kernel
theorem dX3_contract_83 : decode cX3_contract 83 = .ok (.invokevirtual 101, 3) := by decide +kernel
theorem dX3_contract_86 : decode cX3_contract 86 = .ok (.pop, 1) := by decide +kernel
theorem dX3_contract_87 : decode cX3_contract 87 = .ok (.iload 5, 2) := by decide +kernel
theorem dX3_contract_89 : decode cX3_contract 89 = .ok (.ireturn, 1) := by decide +kernel
theorem dX3_quote_0 : decode cX3_quote 0 = .ok (.aload_n 0, 1) := by decide +kernel
theorem dX3_quote_1 : decode cX3_quote 1 = .ok (.iload_n 1, 1) := by decide +kernel
theorem dX3_quote_2 : decode cX3_quote 2 = .ok (.invokevirtual 105, 3) := by decide +kernel
theorem dX3_quote_5 : decode cX3_quote 5 = .ok (.astore 5, 2) := by decide +kernel
theorem dX3_quote_7 : decode cX3_quote 7 = .ok (.iload_n 2, 1) := by decide +kernel
theorem dX3_quote_8 : decode cX3_quote 8 = .ok (.iconst 0, 1) := by decide +kernel
theorem dX3_quote_9 : decode cX3_quote 9 = .ok (.sipush 20000, 3) := by decide +kernel
theorem dX3_quote_12 : decode cX3_quote 12 = .ok (.invokestatic 47, 3) := by decide +kernel
theorem dX3_quote_15 : decode cX3_quote 15 = .ok (.iload_n 3, 1) := by decide +kernel
theorem dX3_quote_16 : decode cX3_quote 16 = .ok (.iconst 0, 1) := by decide +kernel
theorem dX3_quote_17 : decode cX3_quote 17 = .ok (.sipush 20000, 3) := by decide +kernel
theorem dX3_quote_20 : decode cX3_quote 20 = .ok (.invokestatic 47, 3) := by decide +kernel
theorem dX3_quote_23 : decode cX3_quote 23 = .ok (.iload 4, 2) := by decide +kernel
theorem dX3_quote_25 : decode cX3_quote 25 = .ok (.iconst 0, 1) := by decide +kernel
theorem dX3_quote_26 : decode cX3_quote 26 = .ok (.bipush 100, 2) := by decide +kernel
theorem dX3_quote_28 : decode cX3_quote 28 = .ok (.invokestatic 47, 3) := by decide +kernel
theorem dX3_quote_31 : decode cX3_quote 31 = .ok (.aload_n 0, 1) := by decide +kernel
theorem dX3_quote_32 : decode cX3_quote 32 = .ok (.aload 5, 2) := by decide +kernel
theorem dX3_quote_34 : decode cX3_quote 34 = .ok (.invokevirtual 109, 3) := by decide +kernel
theorem dX3_quote_37 : decode cX3_quote 37 = .ok (.aload 5, 2) := by decide +kernel
theorem dX3_quote_39 : decode cX3_quote 39 = .ok (.iload_n 2, 1) := by decide +kernel
theorem dX3_quote_40 : decode cX3_quote 40 = .ok (.iload_n 3, 1) := by decide +kernel
theorem dX3_quote_41 : decode cX3_quote 41 = .ok (.iload 4, 2) := by decide +kernel
theorem dX3_quote_43 : decode cX3_quote 43 = .ok (.invokevirtual 113, 3) := by decide +kernel
theorem dX3_quote_46 : decode cX3_quote 46 = .ok (.aload_n 0, 1) := by decide +kernel
theorem dX3_quote_47 : decode cX3_quote 47 = .ok (.invokevirtual 116, 3) := by decide +kernel
theorem dX3_quote_50 : decode cX3_quote 50 = .ok (.ireturn, 1) := by decide +kernel
theorem dX3_limit_0 : decode cX3_limit 0 = .ok (.iload_n 1, 1) := by decide +kernel
theorem dX3_limit_1 : decode cX3_limit 1 = .ok (.iconst 0, 1) := by decide +kernel
theorem dX3_limit_2 : decode cX3_limit 2 = .ok (.sipush 1000, 3) := by decide +kernel
theorem dX3_limit_5 : decode cX3_limit 5 = .ok (.invokestatic 47, 3) := by decide +kernel
theorem dX3_limit_8 : decode cX3_limit 8 = .ok (.aload_n 0, 1) := by decide +kernel
theorem dX3_limit_9 : decode cX3_limit 9 = .ok (.getfield 37, 3) := by decide +kernel
theorem dX3_limit_12 : decode cX3_limit 12 = .ok (.istore_n 2, 1) := by decide +kernel
theorem dX3_limit_13 : decode cX3_limit 13 = .ok (.aload_n 0, 1) := by decide +kernel
theorem dX3_limit_14 : decode cX3_limit 14 = .ok (.iload_n 1, 1) := by decide +kernel
theorem dX3_limit_15 : decode cX3_limit 15 = .ok (.putfield 37, 3) := by decide +kernel
theorem dX3_limit_18 : decode cX3_limit 18 = .ok (.iload_n 2, 1) := by decide +kernel
theorem dX3_limit_19 : decode cX3_limit 19 = .ok (.ireturn, 1) := by decide +kernel
theorem dX3_order_0 : decode cX3_order 0 = .ok (.iload_n 1, 1) := by decide +kernel
theorem dX3_order_1 : decode cX3_order 1 = .ok (.invokestatic 130, 3) := by decide +kernel
theorem dX3_order_4 : decode cX3_order 4 = .ok (.aload_n 0, 1) := by decide +kernel
theorem dX3_order_5 : decode cX3_order 5 = .ok (.iload_n 2, 1) := by decide +kernel
theorem dX3_order_6 : decode cX3_order 6 = .ok (.invokevirtual 105, 3) := by decide +kernel
theorem dX3_order_9 : decode cX3_order 9 = .ok (.astore 5, 2) := by decide +kernel
theorem dX3_order_11 : decode cX3_order 11 = .ok (.iload_n 3, 1) := by decide +kernel
theorem dX3_order_12 : decode cX3_order 12 = .ok (.bipush (-100), 2) := by decide +kernel
theorem dX3_order_14 : decode cX3_order 14 = .ok (.bipush 100, 2) := by decide +kernel
theorem dX3_order_16 : decode cX3_order 16 = .ok (.invokestatic 47, 3) := by decide +kernel
theorem dX3_order_19 : decode cX3_order 19 = .ok (.iload_n 3, 1) := by decide +kernel
theorem dX3_order_20 : decode cX3_order 20 = .ok (.ifCond .ne 13, 3) := by decide +kernel
theorem dX3_order_23 : decode cX3_order 23 = .ok (.new 134, 3) := by decide +kernel
theorem dX3_order_26 : decode cX3_order 26 = .ok (.dup, 1) := by decide +kernel
theorem dX3_order_27 : decode cX3_order 27 = .ok (.ldc 136, 2) := by decide +kernel
theorem dX3_order_29 : decode cX3_order 29 = .ok (.invokespecial 138, 3) := by decide +kernel
theorem dX3_order_32 : decode cX3_order 32 = .ok (.athrow, 1) := by decide +kernel
theorem dX3_order_33 : decode cX3_order 33 = .ok (.iload 4, 2) := by decide +kernel
theorem dX3_order_35 : decode cX3_order 35 = .ok (.iconst 0, 1) := by decide +kernel
theorem dX3_order_36 : decode cX3_order 36 = .ok (.sipush 20000, 3) := by decide +kernel
theorem dX3_order_39 : decode cX3_order 39 = .ok (.invokestatic 47, 3) := by decide +kernel
theorem dX3_order_42 : decode cX3_order 42 = .ok (.aload_n 0, 1) := by decide +kernel
theorem dX3_order_43 : decode cX3_order 43 = .ok (.aload 5, 2) := by decide +kernel
theorem dX3_order_45 : decode cX3_order 45 = .ok (.invokevirtual 109, 3) := by decide +kernel
theorem dX3_order_48 : decode cX3_order 48 = .ok (.aload_n 0, 1) := by decide +kernel
theorem dX3_order_49 : decode cX3_order 49 = .ok (.invokevirtual 51, 3) := by decide +kernel
theorem dX3_order_52 : decode cX3_order 52 = .ok (.lstore 6, 2) := by decide +kernel
theorem dX3_order_54 : decode cX3_order 54 = .ok (.iload_n 3, 1) := by decide +kernel
theorem dX3_order_55 : decode cX3_order 55 = .ok (.ifCond .le 16, 3) := by decide +kernel
theorem dX3_order_58 : decode cX3_order 58 = .ok (.aload_n 0, 1) := by decide +kernel
theorem dX3_order_59 : decode cX3_order 59 = .ok (.iload_n 1, 1) := by decide +kernel
theorem dX3_order_60 : decode cX3_order 60 = .ok (.aload 5, 2) := by decide +kernel
theorem dX3_order_62 : decode cX3_order 62 = .ok (.iload_n 3, 1) := by decide +kernel
theorem dX3_order_63 : decode cX3_order 63 = .ok (.iload 4, 2) := by decide +kernel
theorem dX3_order_65 : decode cX3_order 65 = .ok (.invokevirtual 139, 3) := by decide +kernel
theorem dX3_order_68 : decode cX3_order 68 = .ok (.goto 14, 3) := by decide +kernel
theorem dX3_order_71 : decode cX3_order 71 = .ok (.aload_n 0, 1) := by decide +kernel
theorem dX3_order_72 : decode cX3_order 72 = .ok (.iload_n 1, 1) := by decide +kernel
theorem dX3_order_73 : decode cX3_order 73 = .ok (.aload 5, 2) := by decide +kernel
theorem dX3_order_75 : decode cX3_order 75 = .ok (.iload_n 3, 1) := by decide +kernel
theorem dX3_order_76 : decode cX3_order 76 = .ok (.ineg, 1) := by decide +kernel
theorem dX3_order_77 : decode cX3_order 77 = .ok (.iload 4, 2) := by decide +kernel
theorem dX3_order_79 : decode cX3_order 79 = .ok (.invokevirtual 143, 3) := by decide +kernel
theorem dX3_order_82 : decode cX3_order 82 = .ok (.istore 8, 2) := by decide +kernel
theorem dX3_order_84 : decode cX3_order 84 = .ok (.aload 5, 2) := by decide +kernel
theorem dX3_order_86 : decode cX3_order 86 = .ok (.invokevirtual 146, 3) := by decide +kernel
theorem dX3_order_89 : decode cX3_order 89 = .ok (.aload_n 0, 1) := by decide +kernel
theorem dX3_order_90 : decode cX3_order 90 = .ok (.iconst 0, 1) := by decide +kernel
theorem dX3_order_91 : decode cX3_order 91 = .ok (.aload_n 0, 1) := by decide +kernel
theorem dX3_order_92 : decode cX3_order 92 = .ok (.invokevirtual 51, 3) := by decide +kernel
theorem dX3_order_95 : decode cX3_order 95 = .ok (.lload 6, 2) := by decide +kernel
theorem dX3_order_97 : decode cX3_order 97 = .ok (.lsub, 1) := by decide +kernel
theorem dX3_order_98 : decode cX3_order 98 = .ok (.invokevirtual 61, 3) := by decide +kernel
theorem dX3_order_101 : decode cX3_order 101 = .ok (.iload 8, 2) := by decide +kernel
theorem dX3_order_103 : decode cX3_order 103 = .ok (.ireturn, 1) := by decide +kernel
theorem dX3_hedge_0 : decode cX3_hedge 0 = .ok (.iload_n 1, 1) := by decide +kernel
theorem dX3_hedge_1 : decode cX3_hedge 1 = .ok (.sipush (-10000), 3) := by decide +kernel
theorem dX3_hedge_4 : decode cX3_hedge 4 = .ok (.sipush 10000, 3) := by decide +kernel
theorem dX3_hedge_7 : decode cX3_hedge 7 = .ok (.invokestatic 47, 3) := by decide +kernel
theorem dX3_hedge_10 : decode cX3_hedge 10 = .ok (.iload_n 2, 1) := by decide +kernel
theorem dX3_hedge_11 : decode cX3_hedge 11 = .ok (.iconst 0, 1) := by decide +kernel
theorem dX3_hedge_12 : decode cX3_hedge 12 = .ok (.sipush 10000, 3) := by decide +kernel
theorem dX3_hedge_15 : decode cX3_hedge 15 = .ok (.invokestatic 47, 3) := by decide +kernel
theorem dX3_hedge_18 : decode cX3_hedge 18 = .ok (.aload_n 0, 1) := by decide +kernel
theorem dX3_hedge_19 : decode cX3_hedge 19 = .ok (.getfield 41, 3) := by decide +kernel
theorem dX3_hedge_22 : decode cX3_hedge 22 = .ok (.iload_n 1, 1) := by decide +kernel
theorem dX3_hedge_23 : decode cX3_hedge 23 = .ok (.iadd, 1) := by decide +kernel
theorem dX3_hedge_24 : decode cX3_hedge 24 = .ok (.ldc 149, 2) := by decide +kernel
theorem dX3_hedge_26 : decode cX3_hedge 26 = .ok (.ldc 150, 2) := by decide +kernel
theorem dX3_hedge_28 : decode cX3_hedge 28 = .ok (.invokestatic 47, 3) := by decide +kernel
theorem dX3_hedge_31 : decode cX3_hedge 31 = .ok (.aload_n 0, 1) := by decide +kernel
theorem dX3_hedge_32 : decode cX3_hedge 32 = .ok (.invokevirtual 51, 3) := by decide +kernel
theorem dX3_hedge_35 : decode cX3_hedge 35 = .ok (.lstore_n 3, 1) := by decide +kernel
theorem dX3_hedge_36 : decode cX3_hedge 36 = .ok (.aload_n 0, 1) := by decide +kernel
theorem dX3_hedge_37 : decode cX3_hedge 37 = .ok (.iload_n 2, 1) := by decide +kernel
theorem dX3_hedge_38 : decode cX3_hedge 38 = .ok (.putfield 44, 3) := by decide +kernel
theorem dX3_hedge_41 : decode cX3_hedge 41 = .ok (.aload_n 0, 1) := by decide +kernel
theorem dX3_hedge_42 : decode cX3_hedge 42 = .ok (.dup, 1) := by decide +kernel
theorem dX3_hedge_43 : decode cX3_hedge 43 = .ok (.getfield 41, 3) := by decide +kernel
theorem dX3_hedge_46 : decode cX3_hedge 46 = .ok (.iload_n 1, 1) := by decide +kernel
theorem dX3_hedge_47 : decode cX3_hedge 47 = .ok (.iadd, 1) := by decide +kernel
theorem dX3_hedge_48 : decode cX3_hedge 48 = .ok (.putfield 41, 3) := by decide +kernel
theorem dX3_hedge_51 : decode cX3_hedge 51 = .ok (.aload_n 0, 1) := by decide +kernel
theorem dX3_hedge_52 : decode cX3_hedge 52 = .ok (.bipush 6, 2) := by decide +kernel
theorem dX3_hedge_54 : decode cX3_hedge 54 = .ok (.ldc2_w 151, 3) := by decide +kernel
theorem dX3_hedge_57 : decode cX3_hedge 57 = .ok (.aload_n 0, 1) := by decide +kernel
theorem dX3_hedge_58 : decode cX3_hedge 58 = .ok (.getfield 12, 3) := by decide +kernel
theorem dX3_hedge_61 : decode cX3_hedge 61 = .ok (.getfield 65, 3) := by decide +kernel
theorem dX3_hedge_64 : decode cX3_hedge 64 = .ok (.i2l, 1) := by decide +kernel
theorem dX3_hedge_65 : decode cX3_hedge 65 = .ok (.lmul, 1) := by decide +kernel
theorem dX3_hedge_66 : decode cX3_hedge 66 = .ok (.iload_n 1, 1) := by decide +kernel
theorem dX3_hedge_67 : decode cX3_hedge 67 = .ok (.i2l, 1) := by decide +kernel
theorem dX3_hedge_68 : decode cX3_hedge 68 = .ok (.lmul, 1) := by decide +kernel
theorem dX3_hedge_69 : decode cX3_hedge 69 = .ok (.invokevirtual 153, 3) := by decide +kernel
theorem dX3_hedge_72 : decode cX3_hedge 72 = .ok (.aload_n 0, 1) := by decide +kernel
theorem dX3_hedge_73 : decode cX3_hedge 73 = .ok (.bipush 6, 2) := by decide +kernel
theorem dX3_hedge_75 : decode cX3_hedge 75 = .ok (.aload_n 0, 1) := by decide +kernel
theorem dX3_hedge_76 : decode cX3_hedge 76 = .ok (.getfield 44, 3) := by decide +kernel
theorem dX3_hedge_79 : decode cX3_hedge 79 = .ok (.i2l, 1) := by decide +kernel
theorem dX3_hedge_80 : decode cX3_hedge 80 = .ok (.lneg, 1) := by decide +kernel
theorem dX3_hedge_81 : decode cX3_hedge 81 = .ok (.iload_n 1, 1) := by decide +kernel
theorem dX3_hedge_82 : decode cX3_hedge 82 = .ok (.invokestatic 156, 3) := by decide +kernel
theorem dX3_hedge_85 : decode cX3_hedge 85 = .ok (.i2l, 1) := by decide +kernel
theorem dX3_hedge_86 : decode cX3_hedge 86 = .ok (.lmul, 1) := by decide +kernel
theorem dX3_hedge_87 : decode cX3_hedge 87 = .ok (.invokevirtual 153, 3) := by decide +kernel
theorem dX3_hedge_90 : decode cX3_hedge 90 = .ok (.aload_n 0, 1) := by decide +kernel
theorem dX3_hedge_91 : decode cX3_hedge 91 = .ok (.iconst 3, 1) := by decide +kernel
theorem dX3_hedge_92 : decode cX3_hedge 92 = .ok (.aload_n 0, 1) := by decide +kernel
theorem dX3_hedge_93 : decode cX3_hedge 93 = .ok (.invokevirtual 51, 3) := by decide +kernel
theorem dX3_hedge_96 : decode cX3_hedge 96 = .ok (.lload_n 3, 1) := by decide +kernel
theorem dX3_hedge_97 : decode cX3_hedge 97 = .ok (.lsub, 1) := by decide +kernel
theorem dX3_hedge_98 : decode cX3_hedge 98 = .ok (.invokevirtual 61, 3) := by decide +kernel
theorem dX3_hedge_101 : decode cX3_hedge 101 = .ok (.aload_n 0, 1) := by decide +kernel
theorem dX3_hedge_102 : decode cX3_hedge 102 = .ok (.getfield 41, 3) := by decide +kernel
theorem dX3_hedge_105 : decode cX3_hedge 105 = .ok (.ireturn, 1) := by decide +kernel
theorem dX3_seed_0 : decode cX3_seed 0 = .ok (.iload_n 1, 1) := by decide +kernel
theorem dX3_seed_1 : decode cX3_seed 1 = .ok (.ifCond .ge 13, 3) := by decide +kernel
theorem dX3_seed_4 : decode cX3_seed 4 = .ok (.new 134, 3) := by decide +kernel
theorem dX3_seed_7 : decode cX3_seed 7 = .ok (.dup, 1) := by decide +kernel
theorem dX3_seed_8 : decode cX3_seed 8 = .ok (.ldc 159, 2) := by decide +kernel
theorem dX3_seed_10 : decode cX3_seed 10 = .ok (.invokespecial 138, 3) := by decide +kernel
theorem dX3_seed_13 : decode cX3_seed 13 = .ok (.athrow, 1) := by decide +kernel
theorem dX3_seed_14 : decode cX3_seed 14 = .ok (.aload_n 0, 1) := by decide +kernel
theorem dX3_seed_15 : decode cX3_seed 15 = .ok (.getfield 19, 3) := by decide +kernel
theorem dX3_seed_18 : decode cX3_seed 18 = .ok (.iload_n 1, 1) := by decide +kernel
theorem dX3_seed_19 : decode cX3_seed 19 = .ok (.i2l, 1) := by decide +kernel
theorem dX3_seed_20 : decode cX3_seed 20 = .ok (.putfield 161, 3) := by decide +kernel
theorem dX3_seed_23 : decode cX3_seed 23 = .ok (.return_, 1) := by decide +kernel
theorem dX3_exercise_0 : decode cX3_exercise 0 = .ok (.iload_n 1, 1) := by decide +kernel
theorem dX3_exercise_1 : decode cX3_exercise 1 = .ok (.invokestatic 165, 3) := by decide +kernel
theorem dX3_exercise_4 : decode cX3_exercise 4 = .ok (.istore 4, 2) := by decide +kernel
theorem dX3_exercise_6 : decode cX3_exercise 6 = .ok (.aload_n 0, 1) := by decide +kernel
theorem dX3_exercise_7 : decode cX3_exercise 7 = .ok (.iload_n 2, 1) := by decide +kernel
theorem dX3_exercise_8 : decode cX3_exercise 8 = .ok (.invokevirtual 105, 3) := by decide +kernel
theorem dX3_exercise_11 : decode cX3_exercise 11 = .ok (.astore 5, 2) := by decide +kernel
theorem dX3_exercise_13 : decode cX3_exercise 13 = .ok (.iload_n 3, 1) := by decide +kernel
theorem dX3_exercise_14 : decode cX3_exercise 14 = .ok (.iconst 1, 1) := by decide +kernel
theorem dX3_exercise_15 : decode cX3_exercise 15 = .ok (.sipush 1000, 3) := by decide +kernel
theorem dX3_exercise_18 : decode cX3_exercise 18 = .ok (.invokestatic 47, 3) := by decide +kernel
theorem dX3_exercise_21 : decode cX3_exercise 21 = .ok (.aload_n 0, 1) := by decide +kernel
theorem dX3_exercise_22 : decode cX3_exercise 22 = .ok (.aload 5, 2) := by decide +kernel
theorem dX3_exercise_24 : decode cX3_exercise 24 = .ok (.invokevirtual 109, 3) := by decide +kernel
theorem dX3_exercise_27 : decode cX3_exercise 27 = .ok (.aload 5, 2) := by decide +kernel
theorem dX3_exercise_29 : decode cX3_exercise 29 = .ok (.iload 4, 2) := by decide +kernel
theorem dX3_exercise_31 : decode cX3_exercise 31 = .ok (.invokevirtual 168, 3) := by decide +kernel
theorem dX3_exercise_34 : decode cX3_exercise 34 = .ok (.iload_n 3, 1) := by decide +kernel
theorem dX3_exercise_35 : decode cX3_exercise 35 = .ok (.if_icmp .ge 13, 3) := by decide +kernel
theorem dX3_exercise_38 : decode cX3_exercise 38 = .ok (.new 89, 3) := by decide +kernel
theorem dX3_exercise_41 : decode cX3_exercise 41 = .ok (.dup, 1) := by decide +kernel
theorem dX3_exercise_42 : decode cX3_exercise 42 = .ok (.ldc 171, 2) := by decide +kernel
theorem dX3_exercise_44 : decode cX3_exercise 44 = .ok (.invokespecial 93, 3) := by decide +kernel
theorem dX3_exercise_47 : decode cX3_exercise 47 = .ok (.athrow, 1) := by decide +kernel
theorem dX3_exercise_48 : decode cX3_exercise 48 = .ok (.aload 5, 2) := by decide +kernel
theorem dX3_exercise_50 : decode cX3_exercise 50 = .ok (.getfield 173, 3) := by decide +kernel
theorem dX3_exercise_53 : decode cX3_exercise 53 = .ok (.ifCond .ne 28, 3) := by decide +kernel
theorem dX3_exercise_56 : decode cX3_exercise 56 = .ok (.aload 5, 2) := by decide +kernel
theorem dX3_exercise_58 : decode cX3_exercise 58 = .ok (.getfield 177, 3) := by decide +kernel
theorem dX3_exercise_61 : decode cX3_exercise 61 = .ok (.aload_n 0, 1) := by decide +kernel
theorem dX3_exercise_62 : decode cX3_exercise 62 = .ok (.getfield 12, 3) := by decide +kernel
theorem dX3_exercise_65 : decode cX3_exercise 65 = .ok (.getfield 68, 3) := by decide +kernel
theorem dX3_exercise_68 : decode cX3_exercise 68 = .ok (.if_icmp .eq 13, 3) := by decide +kernel
theorem dX3_exercise_71 : decode cX3_exercise 71 = .ok (.new 89, 3) := by decide +kernel
theorem dX3_exercise_74 : decode cX3_exercise 74 = .ok (.dup, 1) := by decide +kernel
theorem dX3_exercise_75 : decode cX3_exercise 75 = .ok (.ldc 180, 2) := by decide +kernel
theorem dX3_exercise_77 : decode cX3_exercise 77 = .ok (.invokespecial 93, 3) := by decide +kernel
theorem dX3_exercise_80 : decode cX3_exercise 80 = .ok (.athrow, 1) := by decide +kernel
theorem dX3_exercise_81 : decode cX3_exercise 81 = .ok (.aload_n 0, 1) := by decide +kernel
theorem dX3_exercise_82 : decode cX3_exercise 82 = .ok (.invokevirtual 51, 3) := by decide +kernel
theorem dX3_exercise_85 : decode cX3_exercise 85 = .ok (.lstore 6, 2) := by decide +kernel
theorem dX3_exercise_87 : decode cX3_exercise 87 = .ok (.aload_n 0, 1) := by decide +kernel
theorem dX3_exercise_88 : decode cX3_exercise 88 = .ok (.iload 4, 2) := by decide +kernel
theorem dX3_exercise_90 : decode cX3_exercise 90 = .ok (.aload 5, 2) := by decide +kernel
theorem dX3_exercise_92 : decode cX3_exercise 92 = .ok (.iload_n 3, 1) := by decide +kernel
theorem dX3_exercise_93 : decode cX3_exercise 93 = .ok (.invokevirtual 182, 3) := by decide +kernel
theorem dX3_exercise_96 : decode cX3_exercise 96 = .ok (.aload_n 0, 1) := by decide +kernel
theorem dX3_exercise_97 : decode cX3_exercise 97 = .ok (.iconst 4, 1) := by decide +kernel
theorem dX3_exercise_98 : decode cX3_exercise 98 = .ok (.aload_n 0, 1) := by decide +kernel
theorem dX3_exercise_99 : decode cX3_exercise 99 = .ok (.invokevirtual 51, 3) := by decide +kernel
theorem dX3_exercise_102 : decode cX3_exercise 102 = .ok (.lload 6, 2) := by decide +kernel
theorem dX3_exercise_104 : decode cX3_exercise 104 = .ok (.lsub, 1) := by decide +kernel
theorem dX3_exercise_105 : decode cX3_exercise 105 = .ok (.invokevirtual 61, 3) := by decide +kernel
theorem dX3_exercise_108 : decode cX3_exercise 108 = .ok (.aload 5, 2) := by decide +kernel
theorem dX3_exercise_110 : decode cX3_exercise 110 = .ok (.aload_n 0, 1) := by decide +kernel
theorem dX3_exercise_111 : decode cX3_exercise 111 = .ok (.getfield 12, 3) := by decide +kernel
theorem dX3_exercise_114 : decode cX3_exercise 114 = .ok (.getfield 65, 3) := by decide +kernel
theorem dX3_exercise_117 : decode cX3_exercise 117 = .ok (.invokevirtual 186, 3) := by decide +kernel
theorem dX3_exercise_120 : decode cX3_exercise 120 = .ok (.ireturn, 1) := by decide +kernel
theorem dX3_contrary_0 : decode cX3_contrary 0 = .ok (.iload_n 1, 1) := by decide +kernel
theorem dX3_contrary_1 : decode cX3_contrary 1 = .ok (.invokestatic 130, 3) := by decide +kernel
theorem dX3_contrary_4 : decode cX3_contrary 4 = .ok (.aload_n 0, 1) := by decide +kernel
theorem dX3_contrary_5 : decode cX3_contrary 5 = .ok (.iload_n 2, 1) := by decide +kernel
theorem dX3_contrary_6 : decode cX3_contrary 6 = .ok (.invokevirtual 105, 3) := by decide +kernel
theorem dX3_contrary_9 : decode cX3_contrary 9 = .ok (.astore 4, 2) := by decide +kernel
theorem dX3_contrary_11 : decode cX3_contrary 11 = .ok (.aload_n 0, 1) := by decide +kernel
theorem dX3_contrary_12 : decode cX3_contrary 12 = .ok (.aload 4, 2) := by decide +kernel
theorem dX3_contrary_14 : decode cX3_contrary 14 = .ok (.invokevirtual 109, 3) := by decide +kernel
theorem dX3_contrary_17 : decode cX3_contrary 17 = .ok (.aload 4, 2) := by decide +kernel
theorem dX3_contrary_19 : decode cX3_contrary 19 = .ok (.iload_n 1, 1) := by decide +kernel
theorem dX3_contrary_20 : decode cX3_contrary 20 = .ok (.iload_n 3, 1) := by decide +kernel
theorem dX3_contrary_21 : decode cX3_contrary 21 = .ok (.invokevirtual 189, 3) := by decide +kernel
theorem dX3_contrary_24 : decode cX3_contrary 24 = .ok (.ireturn, 1) := by decide +kernel
theorem dX3_close_0 : decode cX3_close 0 = .ok (.aload_n 0, 1) := by decide +kernel
theorem dX3_close_1 : decode cX3_close 1 = .ok (.getfield 12, 3) := by decide +kernel
theorem dX3_close_4 : decode cX3_close 4 = .ok (.getfield 68, 3) := by decide +kernel
theorem dX3_close_7 : decode cX3_close 7 = .ok (.sipush 200, 3) := by decide +kernel
theorem dX3_close_10 : decode cX3_close 10 = .ok (.if_icmp .lt 13, 3) := by decide +kernel
theorem dX3_close_13 : decode cX3_close 13 = .ok (.new 89, 3) := by decide +kernel
theorem dX3_close_16 : decode cX3_close 16 = .ok (.dup, 1) := by decide +kernel
theorem dX3_close_17 : decode cX3_close 17 = .ok (.ldc 193, 2) := by decide +kernel
theorem dX3_close_19 : decode cX3_close 19 = .ok (.invokespecial 93, 3) := by decide +kernel
theorem dX3_close_22 : decode cX3_close 22 = .ok (.athrow, 1) := by decide +kernel
theorem dX3_close_23 : decode cX3_close 23 = .ok (.aload_n 0, 1) := by decide +kernel
theorem dX3_close_24 : decode cX3_close 24 = .ok (.invokevirtual 51, 3) := by decide +kernel
theorem dX3_close_27 : decode cX3_close 27 = .ok (.lstore_n 1, 1) := by decide +kernel
theorem dX3_close_28 : decode cX3_close 28 = .ok (.iconst 0, 1) := by decide +kernel
theorem dX3_close_29 : decode cX3_close 29 = .ok (.istore_n 3, 1) := by decide +kernel
theorem dX3_close_30 : decode cX3_close 30 = .ok (.iload_n 3, 1) := by decide +kernel
theorem dX3_close_31 : decode cX3_close 31 = .ok (.aload_n 0, 1) := by decide +kernel
theorem dX3_close_32 : decode cX3_close 32 = .ok (.getfield 26, 3) := by decide +kernel
theorem dX3_close_35 : decode cX3_close 35 = .ok (.invokevirtual 85, 3) := by decide +kernel
theorem dX3_close_38 : decode cX3_close 38 = .ok (.if_icmp .ge 43, 3) := by decide +kernel
theorem dX3_close_41 : decode cX3_close 41 = .ok (.aload_n 0, 1) := by decide +kernel
theorem dX3_close_42 : decode cX3_close 42 = .ok (.getfield 26, 3) := by decide +kernel
theorem dX3_close_45 : decode cX3_close 45 = .ok (.iload_n 3, 1) := by decide +kernel
theorem dX3_close_46 : decode cX3_close 46 = .ok (.invokevirtual 119, 3) := by decide +kernel
theorem dX3_close_49 : decode cX3_close 49 = .ok (.checkcast 96, 3) := by decide +kernel
theorem dX3_close_52 : decode cX3_close 52 = .ok (.astore 4, 2) := by decide +kernel
theorem dX3_close_54 : decode cX3_close 54 = .ok (.aload 4, 2) := by decide +kernel
theorem dX3_close_56 : decode cX3_close 56 = .ok (.getfield 177, 3) := by decide +kernel
theorem dX3_close_59 : decode cX3_close 59 = .ok (.aload_n 0, 1) := by decide +kernel
theorem dX3_close_60 : decode cX3_close 60 = .ok (.getfield 12, 3) := by decide +kernel
theorem dX3_close_63 : decode cX3_close 63 = .ok (.getfield 68, 3) := by decide +kernel
theorem dX3_close_66 : decode cX3_close 66 = .ok (.if_icmp .ne 9, 3) := by decide +kernel
theorem dX3_close_69 : decode cX3_close 69 = .ok (.aload_n 0, 1) := by decide +kernel
theorem dX3_close_70 : decode cX3_close 70 = .ok (.aload 4, 2) := by decide +kernel
theorem dX3_close_72 : decode cX3_close 72 = .ok (.invokevirtual 195, 3) := by decide +kernel
theorem dX3_close_75 : decode cX3_close 75 = .ok (.iinc 3 1, 3) := by decide +kernel
theorem dX3_close_78 : decode cX3_close 78 = .ok (.goto (-48), 3) := by decide +kernel
theorem dX3_close_81 : decode cX3_close 81 = .ok (.aload_n 0, 1) := by decide +kernel
theorem dX3_close_82 : decode cX3_close 82 = .ok (.invokevirtual 51, 3) := by decide +kernel
theorem dX3_close_85 : decode cX3_close 85 = .ok (.lstore_n 3, 1) := by decide +kernel
theorem dX3_close_86 : decode cX3_close 86 = .ok (.aload_n 0, 1) := by decide +kernel
theorem dX3_close_87 : decode cX3_close 87 = .ok (.getfield 12, 3) := by decide +kernel
theorem dX3_close_90 : decode cX3_close 90 = .ok (.dup, 1) := by decide +kernel
theorem dX3_close_91 : decode cX3_close 91 = .ok (.getfield 68, 3) := by decide +kernel
theorem dX3_close_94 : decode cX3_close 94 = .ok (.iconst 1, 1) := by decide +kernel
theorem dX3_close_95 : decode cX3_close 95 = .ok (.iadd, 1) := by decide +kernel
theorem dX3_close_96 : decode cX3_close 96 = .ok (.putfield 68, 3) := by decide +kernel
theorem dX3_close_99 : decode cX3_close 99 = .ok (.aload_n 0, 1) := by decide +kernel
theorem dX3_close_100 : decode cX3_close 100 = .ok (.iconst 4, 1) := by decide +kernel
theorem dX3_close_101 : decode cX3_close 101 = .ok (.lload_n 3, 1) := by decide +kernel
theorem dX3_close_102 : decode cX3_close 102 = .ok (.lload_n 1, 1) := by decide +kernel
theorem dX3_close_103 : decode cX3_close 103 = .ok (.lsub, 1) := by decide +kernel
theorem dX3_close_104 : decode cX3_close 104 = .ok (.invokevirtual 61, 3) := by decide +kernel
theorem dX3_close_107 : decode cX3_close 107 = .ok (.aload_n 0, 1) := by decide +kernel
theorem dX3_close_108 : decode cX3_close 108 = .ok (.iconst 2, 1) := by decide +kernel
theorem dX3_close_109 : decode cX3_close 109 = .ok (.aload_n 0, 1) := by decide +kernel
theorem dX3_close_110 : decode cX3_close 110 = .ok (.invokevirtual 51, 3) := by decide +kernel
theorem dX3_close_113 : decode cX3_close 113 = .ok (.lload_n 3, 1) := by decide +kernel
theorem dX3_close_114 : decode cX3_close 114 = .ok (.lsub, 1) := by decide +kernel
theorem dX3_close_115 : decode cX3_close 115 = .ok (.invokevirtual 61, 3) := by decide +kernel
theorem dX3_close_118 : decode cX3_close 118 = .ok (.aload_n 0, 1) := by decide +kernel
theorem dX3_close_119 : decode cX3_close 119 = .ok (.getfield 12, 3) := by decide +kernel
theorem dX3_close_122 : decode cX3_close 122 = .ok (.getfield 68, 3) := by decide +kernel
theorem dX3_close_125 : decode cX3_close 125 = .ok (.ireturn, 1) := by decide +kernel
theorem dX3_value_0 : decode cX3_value 0 = .ok (.aload_n 0, 1) := by decide +kernel
theorem dX3_value_1 : decode cX3_value 1 = .ok (.iload_n 1, 1) := by decide +kernel
theorem dX3_value_2 : decode cX3_value 2 = .ok (.invokevirtual 105, 3) := by decide +kernel
theorem dX3_value_5 : decode cX3_value 5 = .ok (.astore_n 3, 1) := by decide +kernel
theorem dX3_value_6 : decode cX3_value 6 = .ok (.aload_n 0, 1) := by decide +kernel
theorem dX3_value_7 : decode cX3_value 7 = .ok (.getfield 12, 3) := by decide +kernel
theorem dX3_value_10 : decode cX3_value 10 = .ok (.aload_n 3, 1) := by decide +kernel
theorem dX3_value_11 : decode cX3_value 11 = .ok (.aload_n 0, 1) := by decide +kernel
theorem dX3_value_12 : decode cX3_value 12 = .ok (.getfield 12, 3) := by decide +kernel
theorem dX3_value_15 : decode cX3_value 15 = .ok (.getfield 65, 3) := by decide +kernel
theorem dX3_value_18 : decode cX3_value 18 = .ok (.invokevirtual 198, 3) := by decide +kernel
theorem dX3_value_21 : decode cX3_value 21 = .ok (.lstore 4, 2) := by decide +kernel
theorem dX3_value_23 : decode cX3_value 23 = .ok (.aload_n 0, 1) := by decide +kernel
theorem dX3_value_24 : decode cX3_value 24 = .ok (.getfield 12, 3) := by decide +kernel
theorem dX3_value_27 : decode cX3_value 27 = .ok (.aload_n 3, 1) := by decide +kernel
theorem dX3_value_28 : decode cX3_value 28 = .ok (.invokevirtual 202, 3) := by decide +kernel
theorem dX3_value_31 : decode cX3_value 31 = .ok (.lstore 6, 2) := by decide +kernel
theorem dX3_value_33 : decode cX3_value 33 = .ok (.lload 4, 2) := by decide +kernel
theorem dX3_value_35 : decode cX3_value 35 = .ok (.lload 6, 2) := by decide +kernel
theorem dX3_value_37 : decode cX3_value 37 = .ok (.invokestatic 206, 3) := by decide +kernel
theorem dX3_value_40 : decode cX3_value 40 = .ok (.lstore 8, 2) := by decide +kernel
theorem dX3_value_42 : decode cX3_value 42 = .ok (.lload 8, 2) := by decide +kernel
theorem dX3_value_44 : decode cX3_value 44 = .ok (.lconst 0, 1) := by decide +kernel
theorem dX3_value_45 : decode cX3_value 45 = .ok (.lcmp, 1) := by decide +kernel
theorem dX3_value_46 : decode cX3_value 46 = .ok (.ifCond .ne 13, 3) := by decide +kernel
theorem dX3_value_49 : decode cX3_value 49 = .ok (.iload_n 2, 1) := by decide +kernel
theorem dX3_value_50 : decode cX3_value 50 = .ok (.ifCond .eq 7, 3) := by decide +kernel
theorem dX3_value_53 : decode cX3_value 53 = .ok (.lconst 1, 1) := by decide +kernel
theorem dX3_value_54 : decode cX3_value 54 = .ok (.goto 4, 3) := by decide +kernel
theorem dX3_value_57 : decode cX3_value 57 = .ok (.lconst 0, 1) := by decide +kernel
theorem dX3_value_58 : decode cX3_value 58 = .ok (.lreturn, 1) := by decide +kernel
theorem dX3_value_59 : decode cX3_value 59 = .ok (.iload_n 2, 1) := by decide +kernel
theorem dX3_value_60 : decode cX3_value 60 = .ok (.ifCond .eq 8, 3) := by decide +kernel
theorem dX3_value_63 : decode cX3_value 63 = .ok (.lload 6, 2) := by decide +kernel
theorem dX3_value_65 : decode cX3_value 65 = .ok (.goto 5, 3) := by decide +kernel
theorem dX3_value_68 : decode cX3_value 68 = .ok (.lload 4, 2) := by decide +kernel
theorem dX3_value_70 : decode cX3_value 70 = .ok (.lload 8, 2) := by decide +kernel
theorem dX3_value_72 : decode cX3_value 72 = .ok (.ldiv, 1) := by decide +kernel
theorem dX3_value_73 : decode cX3_value 73 = .ok (.lreturn, 1) := by decide +kernel
theorem dX3_mark_0 : decode cX3_mark 0 = .ok (.aload_n 0, 1) := by decide +kernel
theorem dX3_mark_1 : decode cX3_mark 1 = .ok (.getfield 12, 3) := by decide +kernel
theorem dX3_mark_4 : decode cX3_mark 4 = .ok (.aload_n 0, 1) := by decide +kernel
theorem dX3_mark_5 : decode cX3_mark 5 = .ok (.iload_n 1, 1) := by decide +kernel
theorem dX3_mark_6 : decode cX3_mark 6 = .ok (.invokevirtual 105, 3) := by decide +kernel
theorem dX3_mark_9 : decode cX3_mark 9 = .ok (.aload_n 0, 1) := by decide +kernel
theorem dX3_mark_10 : decode cX3_mark 10 = .ok (.getfield 12, 3) := by decide +kernel
theorem dX3_mark_13 : decode cX3_mark 13 = .ok (.getfield 65, 3) := by decide +kernel
theorem dX3_mark_16 : decode cX3_mark 16 = .ok (.invokevirtual 210, 3) := by decide +kernel
theorem dX3_mark_19 : decode cX3_mark 19 = .ok (.ireturn, 1) := by decide +kernel
theorem dX3_fault_0 : decode cX3_fault 0 = .ok (.aload_n 0, 1) := by decide +kernel
theorem dX3_fault_1 : decode cX3_fault 1 = .ok (.invokevirtual 116, 3) := by decide +kernel
theorem dX3_fault_4 : decode cX3_fault 4 = .ok (.ireturn, 1) := by decide +kernel
theorem dX3_quoted_0 : decode cX3_quoted 0 = .ok (.aload_n 0, 1) := by decide +kernel
theorem dX3_quoted_1 : decode cX3_quoted 1 = .ok (.iload_n 1, 1) := by decide +kernel
theorem dX3_quoted_2 : decode cX3_quoted 2 = .ok (.invokevirtual 105, 3) := by decide +kernel
theorem dX3_quoted_5 : decode cX3_quoted 5 = .ok (.astore_n 3, 1) := by decide +kernel
theorem dX3_quoted_6 : decode cX3_quoted 6 = .ok (.iload_n 2, 1) := by decide +kernel
theorem dX3_quoted_7 : decode cX3_quoted 7 = .ok (.tableswitch 49 0 3 #[29, 34, 39, 44], 29) := by decide +kernel
theorem dX3_quoted_36 : decode cX3_quoted 36 = .ok (.aload_n 3, 1) := by decide +kernel
theorem dX3_quoted_37 : decode cX3_quoted 37 = .ok (.getfield 222, 3) := by decide +kernel
theorem dX3_quoted_40 : decode cX3_quoted 40 = .ok (.ireturn, 1) := by decide +kernel
theorem dX3_quoted_41 : decode cX3_quoted 41 = .ok (.aload_n 3, 1) := by decide +kernel
theorem dX3_quoted_42 : decode cX3_quoted 42 = .ok (.getfield 225, 3) := by decide +kernel
theorem dX3_quoted_45 : decode cX3_quoted 45 = .ok (.ireturn, 1) := by decide +kernel
theorem dX3_quoted_46 : decode cX3_quoted 46 = .ok (.aload_n 3, 1) := by decide +kernel
theorem dX3_quoted_47 : decode cX3_quoted 47 = .ok (.getfield 228, 3) := by decide +kernel
theorem dX3_quoted_50 : decode cX3_quoted 50 = .ok (.ireturn, 1) := by decide +kernel
theorem dX3_quoted_51 : decode cX3_quoted 51 = .ok (.aload_n 3, 1) := by decide +kernel
theorem dX3_quoted_52 : decode cX3_quoted 52 = .ok (.getfield 231, 3) := by decide +kernel
theorem dX3_quoted_55 : decode cX3_quoted 55 = .ok (.ireturn, 1) := by decide +kernel
theorem dX3_quoted_56 : decode cX3_quoted 56 = .ok (.new 134, 3) := by decide +kernel
theorem dX3_quoted_59 : decode cX3_quoted 59 = .ok (.dup, 1) := by decide +kernel
theorem dX3_quoted_60 : decode cX3_quoted 60 = .ok (.ldc 234, 2) := by decide +kernel
theorem dX3_quoted_62 : decode cX3_quoted 62 = .ok (.invokespecial 138, 3) := by decide +kernel
theorem dX3_quoted_65 : decode cX3_quoted 65 = .ok (.athrow, 1) := by decide +kernel
theorem dX3_lots_0 : decode cX3_lots 0 = .ok (.iload_n 1, 1) := by decide +kernel
theorem dX3_lots_1 : decode cX3_lots 1 = .ok (.invokestatic 165, 3) := by decide +kernel
theorem dX3_lots_4 : decode cX3_lots 4 = .ok (.istore_n 3, 1) := by decide +kernel
theorem dX3_lots_5 : decode cX3_lots 5 = .ok (.aload_n 0, 1) := by decide +kernel
theorem dX3_lots_6 : decode cX3_lots 6 = .ok (.iload_n 2, 1) := by decide +kernel
theorem dX3_lots_7 : decode cX3_lots 7 = .ok (.invokevirtual 105, 3) := by decide +kernel
theorem dX3_lots_10 : decode cX3_lots 10 = .ok (.iload_n 3, 1) := by decide +kernel
theorem dX3_lots_11 : decode cX3_lots 11 = .ok (.invokevirtual 168, 3) := by decide +kernel
theorem dX3_lots_14 : decode cX3_lots 14 = .ok (.ireturn, 1) := by decide +kernel
theorem dX3_cash_0 : decode cX3_cash 0 = .ok (.aload_n 0, 1) := by decide +kernel
theorem dX3_cash_1 : decode cX3_cash 1 = .ok (.iload_n 1, 1) := by decide +kernel
theorem dX3_cash_2 : decode cX3_cash 2 = .ok (.invokestatic 165, 3) := by decide +kernel
theorem dX3_cash_5 : decode cX3_cash 5 = .ok (.invokevirtual 236, 3) := by decide +kernel
theorem dX3_cash_8 : decode cX3_cash 8 = .ok (.lreturn, 1) := by decide +kernel
theorem dX3_worth_0 : decode cX3_worth 0 = .ok (.aload_n 0, 1) := by decide +kernel
theorem dX3_worth_1 : decode cX3_worth 1 = .ok (.invokevirtual 51, 3) := by decide +kernel
theorem dX3_worth_4 : decode cX3_worth 4 = .ok (.lreturn, 1) := by decide +kernel
theorem dX3_cause_0 : decode cX3_cause 0 = .ok (.iload_n 1, 1) := by decide +kernel
theorem dX3_cause_1 : decode cX3_cause 1 = .ok (.ifCond .lt 12, 3) := by decide +kernel
theorem dX3_cause_4 : decode cX3_cause 4 = .ok (.iload_n 1, 1) := by decide +kernel
theorem dX3_cause_5 : decode cX3_cause 5 = .ok (.aload_n 0, 1) := by decide +kernel
theorem dX3_cause_6 : decode cX3_cause 6 = .ok (.getfield 34, 3) := by decide +kernel
theorem dX3_cause_9 : decode cX3_cause 9 = .ok (.arraylength, 1) := by decide +kernel
theorem dX3_cause_10 : decode cX3_cause 10 = .ok (.if_icmp .lt 13, 3) := by decide +kernel
theorem dX3_cause_13 : decode cX3_cause 13 = .ok (.new 240, 3) := by decide +kernel
theorem dX3_cause_16 : decode cX3_cause 16 = .ok (.dup, 1) := by decide +kernel
