def RX0 : String := "Doublecoat$Casting"
def TX0 : u_T := fun k => match k with
  | 0 => ("Doublecoat$Casting", "bestRoles", "[I", true)
  | 1 => ("Doublecoat$Casting", "bestCount", "I", false)
  | 2 => ("Doublecoat$Casting", "cut", "I", false)
  | 3 => ("Doublecoat$Casting", "known", "Z", false)
  | 4 => ("Doublecoat$Casting", "able", "[I", true)
  | 5 => ("Doublecoat$Casting", "clash", "[I", true)
  | 6 => ("Doublecoat$Casting", "order", "[I", true)
  | 7 => ("Doublecoat$Casting", "roles", "[I", true)
  | _ => ("Doublecoat$Casting", "ordered", "I", false)
def tyX0 : Nat → FieldType := fun k => match k with
  | 0 => .array .int
  | 1 => .int
  | 2 => .int
  | 3 => .boolean
  | 4 => .array .int
  | 5 => .array .int
  | 6 => .array .int
  | 7 => .array .int
  | _ => .int
abbrev wsX00 : List Cond := u_ws RX0 TX0 9
theorem nmX0 : ∀ a, a < 9 → ∀ b, b < 9 → a ≠ b → (TX0 a).2.1 ≠ (TX0 b).2.1 := by decide +kernel
theorem tyX0_ok : ∀ k, k < 9 → parseFieldDescriptor (TX0 k).2.2.1 = some (tyX0 k) := by decide +kernel
abbrev cX0_init : ByteArray := prog_2_method_1_code
def yX0_init : MethodName := ⟨RX0, "<init>", "()V"⟩
abbrev cX0_forget : ByteArray := prog_2_method_2_code
def yX0_forget : MethodName := ⟨RX0, "forget", "()V"⟩
abbrev cX0_recall : ByteArray := prog_2_method_3_code
def yX0_recall : MethodName := ⟨RX0, "recall", "(LDoublecoat$Play;LDoublecoat$Company;)V"⟩
abbrev cX0_keepFirst : ByteArray := prog_2_method_4_code
def yX0_keepFirst : MethodName := ⟨RX0, "keepFirst", "(LDoublecoat$Play;)V"⟩
abbrev cX0_fewestCut : ByteArray := prog_2_method_5_code
def yX0_fewestCut : MethodName := ⟨RX0, "fewestCut", "(LDoublecoat$Play;LDoublecoat$Company;)I"⟩
abbrev cX0_playerOf : ByteArray := prog_2_method_6_code
def yX0_playerOf : MethodName := ⟨RX0, "playerOf", "(I)I"⟩
abbrev cX0_actors : ByteArray := prog_2_method_7_code
def yX0_actors : MethodName := ⟨RX0, "actors", "()I"⟩
abbrev cX0_clashesOf : ByteArray := prog_2_method_8_code
def yX0_clashesOf : MethodName := ⟨RX0, "clashesOf", "(ILDoublecoat$Play;)I"⟩
abbrev cX0_fewest : ByteArray := prog_2_method_9_code
def yX0_fewest : MethodName := ⟨RX0, "fewest", "(LDoublecoat$Play;LDoublecoat$Company;I)I"⟩
abbrev cX0_prepare : ByteArray := prog_2_method_10_code
def yX0_prepare : MethodName := ⟨RX0, "prepare", "(LDoublecoat$Play;LDoublecoat$Company;I)V"⟩
abbrev cX0_orderByChoice : ByteArray := prog_2_method_11_code
def yX0_orderByChoice : MethodName := ⟨RX0, "orderByChoice", "(I)V"⟩
abbrev cX0_orderByNumber : ByteArray := prog_2_method_12_code
def yX0_orderByNumber : MethodName := ⟨RX0, "orderByNumber", "(I)V"⟩
abbrev cX0_canPlace : ByteArray := prog_2_method_13_code
def yX0_canPlace : MethodName := ⟨RX0, "canPlace", "(I)Z"⟩
abbrev cX0_canPlaceFrom : ByteArray := prog_2_method_14_code
def yX0_canPlaceFrom : MethodName := ⟨RX0, "canPlaceFrom", "(LDoublecoat$Casting;II)Z"⟩
def RX1 : String := "Doublecoat$Company"
def TX1 : u_T := fun k => match k with
  | 0 => ("Doublecoat$Company", "voices", "[I", true)
  | 1 => ("Doublecoat$Company", "size", "[I", true)
  | 2 => ("Doublecoat$Company", "share", "[I", true)
  | 3 => ("Doublecoat$Company", "purse", "[I", true)
  | 4 => ("Doublecoat$Company", "players", "I", false)
  | _ => ("Doublecoat$Company", "sick", "I", false)
def tyX1 : Nat → FieldType := fun k => match k with
  | 0 => .array .int
  | 1 => .array .int
  | 2 => .array .int
  | 3 => .array .int
  | 4 => .int
  | _ => .int
abbrev wsX10 : List Cond := u_ws RX1 TX1 6
theorem nmX1 : ∀ a, a < 6 → ∀ b, b < 6 → a ≠ b → (TX1 a).2.1 ≠ (TX1 b).2.1 := by decide +kernel
theorem tyX1_ok : ∀ k, k < 6 → parseFieldDescriptor (TX1 k).2.2.1 = some (tyX1 k) := by decide +kernel
abbrev cX1_init : ByteArray := prog_3_method_1_code
def yX1_init : MethodName := ⟨RX1, "<init>", "()V"⟩
abbrev cX1_addPlayer : ByteArray := prog_3_method_2_code
def yX1_addPlayer : MethodName := ⟨RX1, "addPlayer", "(III)I"⟩
abbrev cX1_countWell : ByteArray := prog_3_method_3_code
def yX1_countWell : MethodName := ⟨RX1, "countWell", "()I"⟩
abbrev cX1_ableOfAny : ByteArray := prog_3_method_4_code
def yX1_ableOfAny : MethodName := ⟨RX1, "ableOfAny", "(I)I"⟩
abbrev cX1_allPurses : ByteArray := prog_3_method_5_code
def yX1_allPurses : MethodName := ⟨RX1, "allPurses", "()I"⟩
abbrev cX1_hasDebt : ByteArray := prog_3_method_6_code
def yX1_hasDebt : MethodName := ⟨RX1, "hasDebt", "()Z"⟩
abbrev cX1_portion : ByteArray := prog_3_method_7_code
def yX1_portion : MethodName := ⟨RX1, "portion", "(III)I"⟩
abbrev cX1_sharesOf : ByteArray := prog_3_method_8_code
def yX1_sharesOf : MethodName := ⟨RX1, "sharesOf", "(I)I"⟩
def RX2 : String := "Doublecoat$Play"
def TX2 : u_T := fun k => match k with
  | 0 => ("Doublecoat$Play", "voice", "[I", true)
  | 1 => ("Doublecoat$Play", "rank", "[I", true)
  | 2 => ("Doublecoat$Play", "change", "[I", true)
  | 3 => ("Doublecoat$Play", "sceneParts", "[I", true)
  | 4 => ("Doublecoat$Play", "scenePause", "[I", true)
  | 5 => ("Doublecoat$Play", "parts", "I", false)
  | _ => ("Doublecoat$Play", "scenes", "I", false)
def tyX2 : Nat → FieldType := fun k => match k with
  | 0 => .array .int
  | 1 => .array .int
  | 2 => .array .int
  | 3 => .array .int
  | 4 => .array .int
  | 5 => .int
  | _ => .int
abbrev wsX20 : List Cond := u_ws RX2 TX2 7
theorem nmX2 : ∀ a, a < 7 → ∀ b, b < 7 → a ≠ b → (TX2 a).2.1 ≠ (TX2 b).2.1 := by decide +kernel
theorem tyX2_ok : ∀ k, k < 7 → parseFieldDescriptor (TX2 k).2.2.1 = some (tyX2 k) := by decide +kernel
abbrev cX2_init : ByteArray := prog_4_method_1_code
def yX2_init : MethodName := ⟨RX2, "<init>", "()V"⟩
abbrev cX2_addPart : ByteArray := prog_4_method_2_code
def yX2_addPart : MethodName := ⟨RX2, "addPart", "(III)I"⟩
abbrev cX2_addScene : ByteArray := prog_4_method_3_code
def yX2_addScene : MethodName := ⟨RX2, "addScene", "(II)I"⟩
abbrev cX2_allScenes : ByteArray := prog_4_method_4_code
def yX2_allScenes : MethodName := ⟨RX2, "allScenes", "()I"⟩
abbrev cX2_scenesWith : ByteArray := prog_4_method_5_code
def yX2_scenesWith : MethodName := ⟨RX2, "scenesWith", "(I)I"⟩
abbrev cX2_partsOf : ByteArray := prog_4_method_6_code
def yX2_partsOf : MethodName := ⟨RX2, "partsOf", "(I)I"⟩
abbrev cX2_fillClashes : ByteArray := prog_4_method_7_code
def yX2_fillClashes : MethodName := ⟨RX2, "fillClashes", "(I[I)V"⟩
abbrev cX2_clashTogether : ByteArray := prog_4_method_8_code
def yX2_clashTogether : MethodName := ⟨RX2, "clashTogether", "(I[I)V"⟩
abbrev cX2_clashInTurn : ByteArray := prog_4_method_9_code
def yX2_clashInTurn : MethodName := ⟨RX2, "clashInTurn", "(II[I)V"⟩
def RX3 : String := "Doublecoat$Road"
def TX3 : u_T := fun k => match k with
  | 0 => ("Doublecoat$Road", "x", "[I", true)
  | 1 => ("Doublecoat$Road", "y", "[I", true)
  | 2 => ("Doublecoat$Road", "takings", "[I", true)
  | 3 => ("Doublecoat$Road", "round", "[I", true)
  | 4 => ("Doublecoat$Road", "towns", "I", false)
  | _ => ("Doublecoat$Road", "out", "[[I", true)
def tyX3 : Nat → FieldType := fun k => match k with
  | 0 => .array .int
  | 1 => .array .int
  | 2 => .array .int
  | 3 => .array .int
  | 4 => .int
  | _ => .array (.array .int)
abbrev wsX30 : List Cond := u_ws RX3 TX3 6
theorem nmX3 : ∀ a, a < 6 → ∀ b, b < 6 → a ≠ b → (TX3 a).2.1 ≠ (TX3 b).2.1 := by decide +kernel
theorem tyX3_ok : ∀ k, k < 6 → parseFieldDescriptor (TX3 k).2.2.1 = some (tyX3 k) := by decide +kernel
abbrev cX3_init : ByteArray := prog_5_method_1_code
def yX3_init : MethodName := ⟨RX3, "<init>", "()V"⟩
abbrev cX3_addTown : ByteArray := prog_5_method_2_code
def yX3_addTown : MethodName := ⟨RX3, "addTown", "(III)I"⟩
abbrev cX3_measure : ByteArray := prog_5_method_3_code
def yX3_measure : MethodName := ⟨RX3, "measure", "(I)V"⟩
abbrev cX3_milesOut : ByteArray := prog_5_method_4_code
def yX3_milesOut : MethodName := ⟨RX3, "milesOut", "(II)I"⟩
abbrev cX3_milesHome : ByteArray := prog_5_method_5_code
def yX3_milesHome : MethodName := ⟨RX3, "milesHome", "(I)I"⟩
abbrev cX3_takingsOf : ByteArray := prog_5_method_6_code
def yX3_takingsOf : MethodName := ⟨RX3, "takingsOf", "(I)I"⟩
abbrev cX3_bestTour : ByteArray := prog_5_method_7_code
def yX3_bestTour : MethodName := ⟨RX3, "bestTour", "(I)I"⟩
def RX4 : String := "Doublecoat$Wardrobe"
def TX4 : u_T := fun k => match k with
  | 0 => ("Doublecoat$Wardrobe", "rank", "[I", true)
  | 1 => ("Doublecoat$Wardrobe", "size", "[I", true)
  | 2 => ("Doublecoat$Wardrobe", "price", "[I", true)
  | 3 => ("Doublecoat$Wardrobe", "coats", "I", false)
  | 4 => ("Doublecoat$Wardrobe", "pawned", "I", false)
  | 5 => ("Doublecoat$Wardrobe", "least", "[I", true)
  | _ => ("Doublecoat$Wardrobe", "dressed", "I", false)
def tyX4 : Nat → FieldType := fun k => match k with
  | 0 => .array .int
  | 1 => .array .int
  | 2 => .array .int
  | 3 => .int
  | 4 => .int
  | 5 => .array .int
  | _ => .int
abbrev wsX40 : List Cond := u_ws RX4 TX4 7
theorem nmX4 : ∀ a, a < 7 → ∀ b, b < 7 → a ≠ b → (TX4 a).2.1 ≠ (TX4 b).2.1 := by decide +kernel
theorem tyX4_ok : ∀ k, k < 7 → parseFieldDescriptor (TX4 k).2.2.1 = some (tyX4 k) := by decide +kernel
abbrev cX4_init : ByteArray := prog_6_method_1_code
def yX4_init : MethodName := ⟨RX4, "<init>", "()V"⟩
abbrev cX4_addCoat : ByteArray := prog_6_method_2_code
def yX4_addCoat : MethodName := ⟨RX4, "addCoat", "(III)I"⟩
abbrev cX4_startDressing : ByteArray := prog_6_method_3_code
def yX4_startDressing : MethodName := ⟨RX4, "startDressing", "()V"⟩
abbrev cX4_dressOneMore : ByteArray := prog_6_method_4_code
def yX4_dressOneMore : MethodName := ⟨RX4, "dressOneMore", "(II)V"⟩
abbrev cX4_leastWaste : ByteArray := prog_6_method_5_code
def yX4_leastWaste : MethodName := ⟨RX4, "leastWaste", "()I"⟩
abbrev cX4_keepLess : ByteArray := prog_6_method_6_code
def yX4_keepLess : MethodName := ⟨RX4, "keepLess", "(II)V"⟩
abbrev cX4_wasteOf : ByteArray := prog_6_method_7_code
def yX4_wasteOf : MethodName := ⟨RX4, "wasteOf", "(III)I"⟩
def RX5 : String := "Doublecoat"
def TX5 : u_T := fun k => match k with
  | 0 => ("Doublecoat", "play", "LDoublecoat$Play;", true)
  | 1 => ("Doublecoat", "company", "LDoublecoat$Company;", true)
  | 2 => ("Doublecoat", "casting", "LDoublecoat$Casting;", true)
  | 3 => ("Doublecoat", "wardrobe", "LDoublecoat$Wardrobe;", true)
  | 4 => ("Doublecoat", "road", "LDoublecoat$Road;", true)
  | 5 => ("Doublecoat", "takenIn", "I", false)
  | 6 => ("Doublecoat", "paid", "I", false)
  | 7 => ("Doublecoat", "nights", "I", false)
  | _ => ("Doublecoat", "refused", "I", false)
def tyX5 : Nat → FieldType := fun k => match k with
  | 0 => .object "Doublecoat$Play"
  | 1 => .object "Doublecoat$Company"
  | 2 => .object "Doublecoat$Casting"
  | 3 => .object "Doublecoat$Wardrobe"
  | 4 => .object "Doublecoat$Road"
  | 5 => .int
  | 6 => .int
  | 7 => .int
  | _ => .int
abbrev wsX50 : List Cond := u_ws RX5 TX5 9
theorem nmX5 : ∀ a, a < 9 → ∀ b, b < 9 → a ≠ b → (TX5 a).2.1 ≠ (TX5 b).2.1 := by decide +kernel
theorem tyX5_ok : ∀ k, k < 9 → parseFieldDescriptor (TX5 k).2.2.1 = some (tyX5 k) := by decide +kernel
abbrev cX5_init : ByteArray := prog_1_method_1_code
def yX5_init : MethodName := ⟨RX5, "<init>", "()V"⟩
abbrev cX5_part : ByteArray := prog_1_method_2_code
def yX5_part : MethodName := ⟨RX5, "part", "(III)I"⟩
abbrev cX5_player : ByteArray := prog_1_method_3_code
def yX5_player : MethodName := ⟨RX5, "player", "(III)I"⟩
abbrev cX5_scene : ByteArray := prog_1_method_4_code
def yX5_scene : MethodName := ⟨RX5, "scene", "(II)I"⟩
abbrev cX5_pause : ByteArray := prog_1_method_5_code
def yX5_pause : MethodName := ⟨RX5, "pause", "(II)I"⟩
abbrev cX5_sick : ByteArray := prog_1_method_6_code
def yX5_sick : MethodName := ⟨RX5, "sick", "(IZ)I"⟩
abbrev cX5_coat : ByteArray := prog_1_method_7_code
def yX5_coat : MethodName := ⟨RX5, "coat", "(III)I"⟩
abbrev cX5_pawn : ByteArray := prog_1_method_8_code
def yX5_pawn : MethodName := ⟨RX5, "pawn", "(II)I"⟩
abbrev cX5_redeem : ByteArray := prog_1_method_9_code
def yX5_redeem : MethodName := ⟨RX5, "redeem", "(II)I"⟩
abbrev cX5_town : ByteArray := prog_1_method_10_code
def yX5_town : MethodName := ⟨RX5, "town", "(III)I"⟩
abbrev cX5_night : ByteArray := prog_1_method_11_code
def yX5_night : MethodName := ⟨RX5, "night", "(I)I"⟩
abbrev cX5_knock : ByteArray := prog_1_method_12_code
def yX5_knock : MethodName := ⟨RX5, "knock", "()I"⟩
abbrev cX5_ofPart : ByteArray := prog_1_method_13_code
def yX5_ofPart : MethodName := ⟨RX5, "ofPart", "(II)I"⟩
abbrev cX5_ofPlayer : ByteArray := prog_1_method_14_code
def yX5_ofPlayer : MethodName := ⟨RX5, "ofPlayer", "(II)I"⟩
abbrev cX5_ofScene : ByteArray := prog_1_method_15_code
def yX5_ofScene : MethodName := ⟨RX5, "ofScene", "(II)I"⟩
abbrev cX5_ofCoat : ByteArray := prog_1_method_16_code
def yX5_ofCoat : MethodName := ⟨RX5, "ofCoat", "(II)I"⟩
abbrev cX5_ofTown : ByteArray := prog_1_method_17_code
def yX5_ofTown : MethodName := ⟨RX5, "ofTown", "(II)I"⟩
abbrev cX5_house : ByteArray := prog_1_method_18_code
def yX5_house : MethodName := ⟨RX5, "house", "(I)I"⟩
abbrev cX5_cast : ByteArray := prog_1_method_19_code
def yX5_cast : MethodName := ⟨RX5, "cast", "()Ljava/lang/String;"⟩
abbrev cX5_tour : ByteArray := prog_1_method_20_code
def yX5_tour : MethodName := ⟨RX5, "tour", "(II)I"⟩
abbrev cX5_would : ByteArray := prog_1_method_21_code
def yX5_would : MethodName := ⟨RX5, "would", "(I)I"⟩
abbrev cX5_without : ByteArray := prog_1_method_22_code
def yX5_without : MethodName := ⟨RX5, "without", "(I)I"⟩
abbrev cX5_shareOf : ByteArray := prog_1_method_23_code
def yX5_shareOf : MethodName := ⟨RX5, "shareOf", "(II)I"⟩
abbrev cX5_isSound : ByteArray := prog_1_method_24_code
def yX5_isSound : MethodName := ⟨RX5, "isSound", "()Z"⟩
abbrev cX5_digest : ByteArray := prog_1_method_25_code
def yX5_digest : MethodName := ⟨RX5, "digest", "()J"⟩
abbrev cX5_needWithin : ByteArray := prog_1_method_26_code
def yX5_needWithin : MethodName := ⟨RX5, "needWithin", "(III)V"⟩
abbrev cX5_needSet : ByteArray := prog_1_method_27_code
def yX5_needSet : MethodName := ⟨RX5, "needSet", "(II)V"⟩
abbrev cX5_needIndex : ByteArray := prog_1_method_28_code
def yX5_needIndex : MethodName := ⟨RX5, "needIndex", "(II)V"⟩
abbrev cX5_needRoom : ByteArray := prog_1_method_29_code
def yX5_needRoom : MethodName := ⟨RX5, "needRoom", "(II)V"⟩
abbrev cX5_has : ByteArray := prog_1_method_30_code
def yX5_has : MethodName := ⟨RX5, "has", "(II)Z"⟩
abbrev cX5_bestCastClashes : ByteArray := prog_1_method_31_code
def yX5_bestCastClashes : MethodName := ⟨RX5, "bestCastClashes", "()Z"⟩
abbrev cX5_filled : ByteArray := prog_1_method_32_code
def yX5_filled : MethodName := ⟨RX5, "filled", "(I)I"⟩
abbrev cX5_withOneMore : ByteArray := prog_1_method_33_code
def yX5_withOneMore : MethodName := ⟨RX5, "withOneMore", "(II)I"⟩
abbrev cX5_lack : ByteArray := prog_1_method_34_code
def yX5_lack : MethodName := ⟨RX5, "lack", "(I)I"⟩
abbrev cX5_excess : ByteArray := prog_1_method_35_code
def yX5_excess : MethodName := ⟨RX5, "excess", "(I)I"⟩
abbrev cX5_leastWaste : ByteArray := prog_1_method_36_code
def yX5_leastWaste : MethodName := ⟨RX5, "leastWaste", "(I)I"⟩
def RX6 : String := "DoublecoatLaw$Out"
def TX6 : u_T := fun k => match k with
  | _ => ("DoublecoatLaw$Out", "n", "J", false)
def tyX6 : Nat → FieldType := fun k => match k with
  | _ => .long
abbrev wsX60 : List Cond := u_ws RX6 TX6 1
theorem nmX6 : ∀ a, a < 1 → ∀ b, b < 1 → a ≠ b → (TX6 a).2.1 ≠ (TX6 b).2.1 := by decide +kernel
theorem tyX6_ok : ∀ k, k < 1 → parseFieldDescriptor (TX6 k).2.2.1 = some (tyX6 k) := by decide +kernel
abbrev cX6_init : ByteArray := prog_8_method_1_code
def yX6_init : MethodName := ⟨RX6, "<init>", "()V"⟩
def RX7 : String := "DoublecoatModel$Coat"
def TX7 : u_T := fun k => match k with
  | 0 => ("DoublecoatModel$Coat", "rank", "I", false)
  | 1 => ("DoublecoatModel$Coat", "size", "I", false)
  | 2 => ("DoublecoatModel$Coat", "price", "I", false)
  | _ => ("DoublecoatModel$Coat", "isPawned", "Z", false)
def tyX7 : Nat → FieldType := fun k => match k with
  | 0 => .int
  | 1 => .int
  | 2 => .int
  | _ => .boolean
abbrev wsX70 : List Cond := u_ws RX7 TX7 4
theorem nmX7 : ∀ a, a < 4 → ∀ b, b < 4 → a ≠ b → (TX7 a).2.1 ≠ (TX7 b).2.1 := by decide +kernel
theorem tyX7_ok : ∀ k, k < 4 → parseFieldDescriptor (TX7 k).2.2.1 = some (tyX7 k) := by decide +kernel
abbrev cX7_init : ByteArray := prog_10_method_1_code
def yX7_init : MethodName := ⟨RX7, "<init>", "()V"⟩
def RX8 : String := "DoublecoatModel$Part"
def TX8 : u_T := fun k => match k with
  | 0 => ("DoublecoatModel$Part", "voice", "I", false)
  | 1 => ("DoublecoatModel$Part", "rank", "I", false)
  | _ => ("DoublecoatModel$Part", "change", "I", false)
def tyX8 : Nat → FieldType := fun k => match k with
  | 0 => .int
  | 1 => .int
  | _ => .int
abbrev wsX80 : List Cond := u_ws RX8 TX8 3
theorem nmX8 : ∀ a, a < 3 → ∀ b, b < 3 → a ≠ b → (TX8 a).2.1 ≠ (TX8 b).2.1 := by decide +kernel
theorem tyX8_ok : ∀ k, k < 3 → parseFieldDescriptor (TX8 k).2.2.1 = some (tyX8 k) := by decide +kernel
abbrev cX8_init : ByteArray := prog_11_method_1_code
def yX8_init : MethodName := ⟨RX8, "<init>", "()V"⟩
def RX9 : String := "DoublecoatModel$Player"
def TX9 : u_T := fun k => match k with
  | 0 => ("DoublecoatModel$Player", "voices", "I", false)
  | 1 => ("DoublecoatModel$Player", "size", "I", false)
  | 2 => ("DoublecoatModel$Player", "share", "I", false)
  | 3 => ("DoublecoatModel$Player", "isSick", "Z", false)
  | _ => ("DoublecoatModel$Player", "purse", "I", false)
def tyX9 : Nat → FieldType := fun k => match k with
  | 0 => .int
  | 1 => .int
  | 2 => .int
  | 3 => .boolean
  | _ => .int
abbrev wsX90 : List Cond := u_ws RX9 TX9 5
theorem nmX9 : ∀ a, a < 5 → ∀ b, b < 5 → a ≠ b → (TX9 a).2.1 ≠ (TX9 b).2.1 := by decide +kernel
theorem tyX9_ok : ∀ k, k < 5 → parseFieldDescriptor (TX9 k).2.2.1 = some (tyX9 k) := by decide +kernel
abbrev cX9_init : ByteArray := prog_12_method_1_code
def yX9_init : MethodName := ⟨RX9, "<init>", "()V"⟩
def RX10 : String := "DoublecoatModel$Scene"
def TX10 : u_T := fun k => match k with
  | 0 => ("DoublecoatModel$Scene", "parts", "I", false)
  | _ => ("DoublecoatModel$Scene", "pause", "I", false)
def tyX10 : Nat → FieldType := fun k => match k with
  | 0 => .int
  | _ => .int
abbrev wsX100 : List Cond := u_ws RX10 TX10 2
theorem nmX10 : ∀ a, a < 2 → ∀ b, b < 2 → a ≠ b → (TX10 a).2.1 ≠ (TX10 b).2.1 := by decide +kernel
theorem tyX10_ok : ∀ k, k < 2 → parseFieldDescriptor (TX10 k).2.2.1 = some (tyX10 k) := by decide +kernel
abbrev cX10_init : ByteArray := prog_13_method_1_code
def yX10_init : MethodName := ⟨RX10, "<init>", "()V"⟩
def RX11 : String := "DoublecoatModel$Town"
def TX11 : u_T := fun k => match k with
  | 0 => ("DoublecoatModel$Town", "x", "I", false)
  | 1 => ("DoublecoatModel$Town", "y", "I", false)
  | _ => ("DoublecoatModel$Town", "takings", "I", false)
def tyX11 : Nat → FieldType := fun k => match k with
  | 0 => .int
  | 1 => .int
  | _ => .int
abbrev wsX110 : List Cond := u_ws RX11 TX11 3
theorem nmX11 : ∀ a, a < 3 → ∀ b, b < 3 → a ≠ b → (TX11 a).2.1 ≠ (TX11 b).2.1 := by decide +kernel
theorem tyX11_ok : ∀ k, k < 3 → parseFieldDescriptor (TX11 k).2.2.1 = some (tyX11 k) := by decide +kernel
abbrev cX11_init : ByteArray := prog_14_method_1_code
def yX11_init : MethodName := ⟨RX11, "<init>", "()V"⟩
def RX12 : String := "DoublecoatModel"
def TX12 : u_T := fun k => match k with
  | 0 => ("DoublecoatModel", "thrown", "I", false)
  | 1 => ("DoublecoatModel", "parts", "Ljava/util/ArrayList;", true)
  | 2 => ("DoublecoatModel", "players", "Ljava/util/ArrayList;", true)
  | 3 => ("DoublecoatModel", "scenes", "Ljava/util/ArrayList;", true)
  | 4 => ("DoublecoatModel", "coats", "Ljava/util/ArrayList;", true)
  | 5 => ("DoublecoatModel", "towns", "Ljava/util/ArrayList;", true)
  | 6 => ("DoublecoatModel", "taken", "I", false)
  | 7 => ("DoublecoatModel", "paid", "I", false)
  | 8 => ("DoublecoatModel", "nights", "I", false)
  | 9 => ("DoublecoatModel", "refused", "I", false)
  | 10 => ("DoublecoatModel", "cast", "[I", true)
  | 11 => ("DoublecoatModel", "isKnown", "Z", false)
  | 12 => ("DoublecoatModel", "needed", "I", false)
  | 13 => ("DoublecoatModel", "row", "[I", true)
  | 14 => ("DoublecoatModel", "clashing", "[I", true)
  | 15 => ("DoublecoatModel", "least", "I", false)
  | 16 => ("DoublecoatModel", "bestSum", "I", false)
  | 17 => ("DoublecoatModel", "bestMiles", "I", false)
  | 18 => ("DoublecoatModel", "bestSet", "I", false)
  | _ => ("DoublecoatModel", "sum", "J", false)
def tyX12 : Nat → FieldType := fun k => match k with
  | 0 => .int
  | 1 => .object "java/util/ArrayList"
  | 2 => .object "java/util/ArrayList"
  | 3 => .object "java/util/ArrayList"
  | 4 => .object "java/util/ArrayList"
  | 5 => .object "java/util/ArrayList"
  | 6 => .int
  | 7 => .int
  | 8 => .int
  | 9 => .int
  | 10 => .array .int
  | 11 => .boolean
  | 12 => .int
  | 13 => .array .int
  | 14 => .array .int
  | 15 => .int
  | 16 => .int
  | 17 => .int
  | 18 => .int
  | _ => .long
abbrev wsX120 : List Cond := u_ws RX12 TX12 20
theorem nmX12 : ∀ a, a < 20 → ∀ b, b < 20 → a ≠ b → (TX12 a).2.1 ≠ (TX12 b).2.1 := by decide +kernel
theorem tyX12_ok : ∀ k, k < 20 → parseFieldDescriptor (TX12 k).2.2.1 = some (tyX12 k) := by decide +kernel
abbrev cX12_init : ByteArray := prog_9_method_1_code
def yX12_init : MethodName := ⟨RX12, "<init>", "()V"⟩
abbrev cX12_thrown : ByteArray := prog_9_method_2_code
def yX12_thrown : MethodName := ⟨RX12, "thrown", "()I"⟩
abbrev cX12_refuse : ByteArray := prog_9_method_3_code
def yX12_refuse : MethodName := ⟨RX12, "refuse", "(I)I"⟩
abbrev cX12_is : ByteArray := prog_9_method_4_code
def yX12_is : MethodName := ⟨RX12, "is", "(III)Z"⟩
abbrev cX12_isIn : ByteArray := prog_9_method_5_code
def yX12_isIn : MethodName := ⟨RX12, "isIn", "(II)Z"⟩
abbrev cX12_isPart : ByteArray := prog_9_method_6_code
def yX12_isPart : MethodName := ⟨RX12, "isPart", "(I)Z"⟩
abbrev cX12_isPlayer : ByteArray := prog_9_method_7_code
def yX12_isPlayer : MethodName := ⟨RX12, "isPlayer", "(I)Z"⟩
abbrev cX12_isScene : ByteArray := prog_9_method_8_code
def yX12_isScene : MethodName := ⟨RX12, "isScene", "(I)Z"⟩
abbrev cX12_isCoat : ByteArray := prog_9_method_9_code
def yX12_isCoat : MethodName := ⟨RX12, "isCoat", "(I)Z"⟩
abbrev cX12_isTown : ByteArray := prog_9_method_10_code
def yX12_isTown : MethodName := ⟨RX12, "isTown", "(I)Z"⟩
abbrev cX12_all : ByteArray := prog_9_method_11_code
def yX12_all : MethodName := ⟨RX12, "all", "()I"⟩
abbrev cX12_part : ByteArray := prog_9_method_12_code
def yX12_part : MethodName := ⟨RX12, "part", "(III)I"⟩
abbrev cX12_player : ByteArray := prog_9_method_13_code
def yX12_player : MethodName := ⟨RX12, "player", "(III)I"⟩
abbrev cX12_scene : ByteArray := prog_9_method_14_code
def yX12_scene : MethodName := ⟨RX12, "scene", "(II)I"⟩
abbrev cX12_pause : ByteArray := prog_9_method_15_code
def yX12_pause : MethodName := ⟨RX12, "pause", "(II)I"⟩
abbrev cX12_well : ByteArray := prog_9_method_16_code
def yX12_well : MethodName := ⟨RX12, "well", "()I"⟩
abbrev cX12_sick : ByteArray := prog_9_method_17_code
def yX12_sick : MethodName := ⟨RX12, "sick", "(IZ)I"⟩
abbrev cX12_coat : ByteArray := prog_9_method_18_code
def yX12_coat : MethodName := ⟨RX12, "coat", "(III)I"⟩
abbrev cX12_pawn : ByteArray := prog_9_method_19_code
def yX12_pawn : MethodName := ⟨RX12, "pawn", "(II)I"⟩
abbrev cX12_redeem : ByteArray := prog_9_method_20_code
def yX12_redeem : MethodName := ⟨RX12, "redeem", "(II)I"⟩
abbrev cX12_town : ByteArray := prog_9_method_21_code
def yX12_town : MethodName := ⟨RX12, "town", "(III)I"⟩
abbrev cX12_plays : ByteArray := prog_9_method_22_code
def yX12_plays : MethodName := ⟨RX12, "plays", "(II)Z"⟩
abbrev cX12_players : ByteArray := prog_9_method_23_code
def yX12_players : MethodName := ⟨RX12, "players", "(I)I"⟩
abbrev cX12_clash : ByteArray := prog_9_method_24_code
def yX12_clash : MethodName := ⟨RX12, "clash", "(I)V"⟩
abbrev cX12_partsOf : ByteArray := prog_9_method_25_code
def yX12_partsOf : MethodName := ⟨RX12, "partsOf", "(I)I"⟩
abbrev cX12_fills : ByteArray := prog_9_method_26_code
def yX12_fills : MethodName := ⟨RX12, "fills", "(IIII)Z"⟩
abbrev cX12_needs : ByteArray := prog_9_method_27_code
def yX12_needs : MethodName := ⟨RX12, "needs", "(I)I"⟩
abbrev cX12_isCast : ByteArray := prog_9_method_28_code
def yX12_isCast : MethodName := ⟨RX12, "isCast", "()Z"⟩
abbrev cX12_cutScenes : ByteArray := prog_9_method_29_code
def yX12_cutScenes : MethodName := ⟨RX12, "cutScenes", "()I"⟩
abbrev cX12_finds : ByteArray := prog_9_method_30_code
def yX12_finds : MethodName := ⟨RX12, "finds", "(II[I[Z)Z"⟩
abbrev cX12_filled : ByteArray := prog_9_method_31_code
def yX12_filled : MethodName := ⟨RX12, "filled", "(I)I"⟩
abbrev cX12_excess : ByteArray := prog_9_method_32_code
def yX12_excess : MethodName := ⟨RX12, "excess", "(I)I"⟩
abbrev cX12_lack : ByteArray := prog_9_method_33_code
def yX12_lack : MethodName := ⟨RX12, "lack", "(I)I"⟩
abbrev cX12_waste : ByteArray := prog_9_method_34_code
def yX12_waste : MethodName := ⟨RX12, "waste", "(LDoublecoatModel$Coat;I)I"⟩
abbrev cX12_dress : ByteArray := prog_9_method_35_code
def yX12_dress : MethodName := ⟨RX12, "dress", "(III)V"⟩
abbrev cX12_dressed : ByteArray := prog_9_method_36_code
def yX12_dressed : MethodName := ⟨RX12, "dressed", "(I)I"⟩
abbrev cX12_partsWith : ByteArray := prog_9_method_37_code
def yX12_partsWith : MethodName := ⟨RX12, "partsWith", "(I)I"⟩
abbrev cX12_shares : ByteArray := prog_9_method_38_code
def yX12_shares : MethodName := ⟨RX12, "shares", "()I"⟩
abbrev cX12_shareNow : ByteArray := prog_9_method_39_code
def yX12_shareNow : MethodName := ⟨RX12, "shareNow", "(II)I"⟩
abbrev cX12_night : ByteArray := prog_9_method_40_code
def yX12_night : MethodName := ⟨RX12, "night", "(I)I"⟩
abbrev cX12_knock : ByteArray := prog_9_method_41_code
def yX12_knock : MethodName := ⟨RX12, "knock", "()I"⟩
abbrev cX12_miles : ByteArray := prog_9_method_42_code
def yX12_miles : MethodName := ⟨RX12, "miles", "(IIII)I"⟩
abbrev cX12_go : ByteArray := prog_9_method_43_code
def yX12_go : MethodName := ⟨RX12, "go", "(IIIIII)V"⟩
abbrev cX12_tourNow : ByteArray := prog_9_method_44_code
def yX12_tourNow : MethodName := ⟨RX12, "tourNow", "(II)I"⟩
abbrev cX12_scenesWith : ByteArray := prog_9_method_45_code
def yX12_scenesWith : MethodName := ⟨RX12, "scenesWith", "(I)I"⟩
abbrev cX12_ofPartNow : ByteArray := prog_9_method_46_code
def yX12_ofPartNow : MethodName := ⟨RX12, "ofPartNow", "(II)I"⟩
abbrev cX12_ofPart : ByteArray := prog_9_method_47_code
def yX12_ofPart : MethodName := ⟨RX12, "ofPart", "(II)I"⟩
abbrev cX12_ofPlayerNow : ByteArray := prog_9_method_48_code
def yX12_ofPlayerNow : MethodName := ⟨RX12, "ofPlayerNow", "(II)I"⟩
abbrev cX12_ofPlayer : ByteArray := prog_9_method_49_code
def yX12_ofPlayer : MethodName := ⟨RX12, "ofPlayer", "(II)I"⟩
abbrev cX12_ofSceneNow : ByteArray := prog_9_method_50_code
def yX12_ofSceneNow : MethodName := ⟨RX12, "ofSceneNow", "(II)I"⟩
abbrev cX12_ofScene : ByteArray := prog_9_method_51_code
def yX12_ofScene : MethodName := ⟨RX12, "ofScene", "(II)I"⟩
abbrev cX12_ofCoatNow : ByteArray := prog_9_method_52_code
def yX12_ofCoatNow : MethodName := ⟨RX12, "ofCoatNow", "(II)I"⟩
abbrev cX12_ofCoat : ByteArray := prog_9_method_53_code
def yX12_ofCoat : MethodName := ⟨RX12, "ofCoat", "(II)I"⟩
abbrev cX12_ofTownNow : ByteArray := prog_9_method_54_code
def yX12_ofTownNow : MethodName := ⟨RX12, "ofTownNow", "(II)I"⟩
abbrev cX12_ofTown : ByteArray := prog_9_method_55_code
def yX12_ofTown : MethodName := ⟨RX12, "ofTown", "(II)I"⟩
abbrev cX12_purses : ByteArray := prog_9_method_56_code
def yX12_purses : MethodName := ⟨RX12, "purses", "()I"⟩
abbrev cX12_pawned : ByteArray := prog_9_method_57_code
def yX12_pawned : MethodName := ⟨RX12, "pawned", "()I"⟩
abbrev cX12_houseNow : ByteArray := prog_9_method_58_code
def yX12_houseNow : MethodName := ⟨RX12, "houseNow", "(I)I"⟩
abbrev cX12_house : ByteArray := prog_9_method_59_code
def yX12_house : MethodName := ⟨RX12, "house", "(I)I"⟩
abbrev cX12_castNow : ByteArray := prog_9_method_60_code
def yX12_castNow : MethodName := ⟨RX12, "castNow", "()Ljava/lang/String;"⟩
abbrev cX12_cast : ByteArray := prog_9_method_61_code
def yX12_cast : MethodName := ⟨RX12, "cast", "()Ljava/lang/String;"⟩
abbrev cX12_tour : ByteArray := prog_9_method_62_code
def yX12_tour : MethodName := ⟨RX12, "tour", "(II)I"⟩
abbrev cX12_would : ByteArray := prog_9_method_63_code
def yX12_would : MethodName := ⟨RX12, "would", "(I)I"⟩
abbrev cX12_withoutNow : ByteArray := prog_9_method_64_code
def yX12_withoutNow : MethodName := ⟨RX12, "withoutNow", "(I)I"⟩
abbrev cX12_without : ByteArray := prog_9_method_65_code
def yX12_without : MethodName := ⟨RX12, "without", "(I)I"⟩
abbrev cX12_shareOf : ByteArray := prog_9_method_66_code
def yX12_shareOf : MethodName := ⟨RX12, "shareOf", "(II)I"⟩
abbrev cX12_isSoundNow : ByteArray := prog_9_method_67_code
def yX12_isSoundNow : MethodName := ⟨RX12, "isSoundNow", "()Z"⟩
abbrev cX12_isSound : ByteArray := prog_9_method_68_code
def yX12_isSound : MethodName := ⟨RX12, "isSound", "()Z"⟩
abbrev cX12_add : ByteArray := prog_9_method_69_code
def yX12_add : MethodName := ⟨RX12, "add", "(J)V"⟩
abbrev cX12_digest : ByteArray := prog_9_method_70_code
def yX12_digest : MethodName := ⟨RX12, "digest", "()J"⟩
def RJx145de : String := "java/io/Serializable"
def TJx145de : u_T := fun k => match k with
  | _ => ("", "", "", false)
def tyJx145de : Nat → FieldType := fun k => match k with
  | _ => .int
abbrev wsJx145de0 : List Cond := u_ws RJx145de TJx145de 0
theorem nmJx145de : ∀ a, a < 0 → ∀ b, b < 0 → a ≠ b → (TJx145de a).2.1 ≠ (TJx145de b).2.1 := by decide +kernel
theorem tyJx145de_ok : ∀ k, k < 0 → parseFieldDescriptor (TJx145de k).2.2.1 = some (tyJx145de k) := by decide +kernel
def RJ5 : String := "java/lang/AbstractStringBuilder"
def TJ5 : u_T := fun k => match k with
  | _ => ("", "", "", false)
def tyJ5 : Nat → FieldType := fun k => match k with
  | _ => .int
abbrev wsJ50 : List Cond := u_ws RJ5 TJ5 0
theorem nmJ5 : ∀ a, a < 0 → ∀ b, b < 0 → a ≠ b → (TJ5 a).2.1 ≠ (TJ5 b).2.1 := by decide +kernel
theorem tyJ5_ok : ∀ k, k < 0 → parseFieldDescriptor (TJ5 k).2.2.1 = some (tyJ5 k) := by decide +kernel
abbrev cJ5_init_d00df : ByteArray := prog_16_method_2_code
def yJ5_init_d00df : MethodName := ⟨RJ5, "<init>", "(I)V"⟩
abbrev cJ5_length_8abf5 : ByteArray := prog_16_method_6_code
def yJ5_length_8abf5 : MethodName := ⟨RJ5, "length", "()I"⟩
abbrev cJ5_ensureCapacityInternal_d00df : ByteArray := prog_16_method_9_code
def yJ5_ensureCapacityInternal_d00df : MethodName := ⟨RJ5, "ensureCapacityInternal", "(I)V"⟩
abbrev cJ5_newCapacity_0f7a4 : ByteArray := prog_16_method_10_code
def yJ5_newCapacity_0f7a4 : MethodName := ⟨RJ5, "newCapacity", "(I)I"⟩
abbrev cJ5_inflate_da8c8 : ByteArray := prog_16_method_11_code
def yJ5_inflate_da8c8 : MethodName := ⟨RJ5, "inflate", "()V"⟩
abbrev cJ5_append_cf1ce : ByteArray := prog_16_method_22_code
def yJ5_append_cf1ce : MethodName := ⟨RJ5, "append", "(Ljava/lang/String;)Ljava/lang/AbstractStringBuilder;"⟩
abbrev cJ5_appendNull_278bc : ByteArray := prog_16_method_26_code
def yJ5_appendNull_278bc : MethodName := ⟨RJ5, "appendNull", "()Ljava/lang/AbstractStringBuilder;"⟩
abbrev cJ5_append_3fe6f : ByteArray := prog_16_method_31_code
def yJ5_append_3fe6f : MethodName := ⟨RJ5, "append", "(C)Ljava/lang/AbstractStringBuilder;"⟩
abbrev cJ5_append_c97b9 : ByteArray := prog_16_method_32_code
def yJ5_append_c97b9 : MethodName := ⟨RJ5, "append", "(I)Ljava/lang/AbstractStringBuilder;"⟩
abbrev cJ5_getValue_6d5f1 : ByteArray := prog_16_method_64_code
def yJ5_getValue_6d5f1 : MethodName := ⟨RJ5, "getValue", "()[B"⟩
abbrev cJ5_isLatin1_aae02 : ByteArray := prog_16_method_68_code
def yJ5_isLatin1_aae02 : MethodName := ⟨RJ5, "isLatin1", "()Z"⟩
abbrev cJ5_inflateIfNeededFor_a7421 : ByteArray := prog_16_method_71_code
def yJ5_inflateIfNeededFor_a7421 : MethodName := ⟨RJ5, "inflateIfNeededFor", "(Ljava/lang/String;)V"⟩
abbrev cJ5_putStringAt_47b60 : ByteArray := prog_16_method_73_code
def yJ5_putStringAt_47b60 : MethodName := ⟨RJ5, "putStringAt", "(ILjava/lang/String;)V"⟩
def RJx2cfe8 : String := "java/lang/Appendable"
def TJx2cfe8 : u_T := fun k => match k with
  | _ => ("", "", "", false)
def tyJx2cfe8 : Nat → FieldType := fun k => match k with
  | _ => .int
abbrev wsJx2cfe80 : List Cond := u_ws RJx2cfe8 TJx2cfe8 0
theorem nmJx2cfe8 : ∀ a, a < 0 → ∀ b, b < 0 → a ≠ b → (TJx2cfe8 a).2.1 ≠ (TJx2cfe8 b).2.1 := by decide +kernel
theorem tyJx2cfe8_ok : ∀ k, k < 0 → parseFieldDescriptor (TJx2cfe8 k).2.2.1 = some (tyJx2cfe8 k) := by decide +kernel
def RJx9f9b0 : String := "java/lang/CharSequence"
def TJx9f9b0 : u_T := fun k => match k with
  | _ => ("", "", "", false)
def tyJx9f9b0 : Nat → FieldType := fun k => match k with
  | _ => .int
abbrev wsJx9f9b00 : List Cond := u_ws RJx9f9b0 TJx9f9b0 0
theorem nmJx9f9b0 : ∀ a, a < 0 → ∀ b, b < 0 → a ≠ b → (TJx9f9b0 a).2.1 ≠ (TJx9f9b0 b).2.1 := by decide +kernel
theorem tyJx9f9b0_ok : ∀ k, k < 0 → parseFieldDescriptor (TJx9f9b0 k).2.2.1 = some (tyJx9f9b0 k) := by decide +kernel
def RJx8e188 : String := "java/lang/Cloneable"
def TJx8e188 : u_T := fun k => match k with
  | _ => ("", "", "", false)
def tyJx8e188 : Nat → FieldType := fun k => match k with
  | _ => .int
abbrev wsJx8e1880 : List Cond := u_ws RJx8e188 TJx8e188 0
theorem nmJx8e188 : ∀ a, a < 0 → ∀ b, b < 0 → a ≠ b → (TJx8e188 a).2.1 ≠ (TJx8e188 b).2.1 := by decide +kernel
theorem tyJx8e188_ok : ∀ k, k < 0 → parseFieldDescriptor (TJx8e188 k).2.2.1 = some (tyJx8e188 k) := by decide +kernel
def RJxb160c : String := "java/lang/Comparable"
def TJxb160c : u_T := fun k => match k with
  | _ => ("", "", "", false)
def tyJxb160c : Nat → FieldType := fun k => match k with
  | _ => .int
abbrev wsJxb160c0 : List Cond := u_ws RJxb160c TJxb160c 0
theorem nmJxb160c : ∀ a, a < 0 → ∀ b, b < 0 → a ≠ b → (TJxb160c a).2.1 ≠ (TJxb160c b).2.1 := by decide +kernel
theorem tyJxb160c_ok : ∀ k, k < 0 → parseFieldDescriptor (TJxb160c k).2.2.1 = some (tyJxb160c k) := by decide +kernel
def RJ6 : String := "java/lang/Integer"
def TJ6 : u_T := fun k => match k with
  | _ => ("", "", "", false)
def tyJ6 : Nat → FieldType := fun k => match k with
  | _ => .int
abbrev wsJ60 : List Cond := u_ws RJ6 TJ6 0
theorem nmJ6 : ∀ a, a < 0 → ∀ b, b < 0 → a ≠ b → (TJ6 a).2.1 ≠ (TJ6 b).2.1 := by decide +kernel
theorem tyJ6_ok : ∀ k, k < 0 → parseFieldDescriptor (TJ6 k).2.2.1 = some (tyJ6 k) := by decide +kernel
abbrev cJ6_getChars_ba4f3 : ByteArray := prog_25_method_12_code
def yJ6_getChars_ba4f3 : MethodName := ⟨RJ6, "getChars", "(II[B)I"⟩
abbrev cJ6_stringSize_0f7a4 : ByteArray := prog_25_method_13_code
def yJ6_stringSize_0f7a4 : MethodName := ⟨RJ6, "stringSize", "(I)I"⟩
abbrev cJ6_numberOfTrailingZeros_0f7a4 : ByteArray := prog_25_method_48_code
def yJ6_numberOfTrailingZeros_0f7a4 : MethodName := ⟨RJ6, "numberOfTrailingZeros", "(I)I"⟩
abbrev cJ6_bitCount_0f7a4 : ByteArray := prog_25_method_49_code
def yJ6_bitCount_0f7a4 : MethodName := ⟨RJ6, "bitCount", "(I)I"⟩
def RJxab1ab : String := "java/lang/Iterable"
def TJxab1ab : u_T := fun k => match k with
  | _ => ("", "", "", false)
def tyJxab1ab : Nat → FieldType := fun k => match k with
  | _ => .int
abbrev wsJxab1ab0 : List Cond := u_ws RJxab1ab TJxab1ab 0
theorem nmJxab1ab : ∀ a, a < 0 → ∀ b, b < 0 → a ≠ b → (TJxab1ab a).2.1 ≠ (TJxab1ab b).2.1 := by decide +kernel
theorem tyJxab1ab_ok : ∀ k, k < 0 → parseFieldDescriptor (TJxab1ab k).2.2.1 = some (tyJxab1ab k) := by decide +kernel
def RJ9 : String := "java/lang/Math"
def TJ9 : u_T := fun k => match k with
  | _ => ("", "", "", false)
def tyJ9 : Nat → FieldType := fun k => match k with
  | _ => .int
abbrev wsJ90 : List Cond := u_ws RJ9 TJ9 0
theorem nmJ9 : ∀ a, a < 0 → ∀ b, b < 0 → a ≠ b → (TJ9 a).2.1 ≠ (TJ9 b).2.1 := by decide +kernel
theorem tyJ9_ok : ∀ k, k < 0 → parseFieldDescriptor (TJ9 k).2.2.1 = some (tyJ9 k) := by decide +kernel
abbrev cJ9_abs_0f7a4 : ByteArray := prog_27_method_59_code
def yJ9_abs_0f7a4 : MethodName := ⟨RJ9, "abs", "(I)I"⟩
abbrev cJ9_max_7cf53 : ByteArray := prog_27_method_65_code
def yJ9_max_7cf53 : MethodName := ⟨RJ9, "max", "(II)I"⟩
abbrev cJ9_min_7cf53 : ByteArray := prog_27_method_69_code
def yJ9_min_7cf53 : MethodName := ⟨RJ9, "min", "(II)I"⟩
def RJxd2413 : String := "java/lang/Number"
def TJxd2413 : u_T := fun k => match k with
  | _ => ("", "", "", false)
def tyJxd2413 : Nat → FieldType := fun k => match k with
  | _ => .int
abbrev wsJxd24130 : List Cond := u_ws RJxd2413 TJxd2413 0
theorem nmJxd2413 : ∀ a, a < 0 → ∀ b, b < 0 → a ≠ b → (TJxd2413 a).2.1 ≠ (TJxd2413 b).2.1 := by decide +kernel
theorem tyJxd2413_ok : ∀ k, k < 0 → parseFieldDescriptor (TJxd2413 k).2.2.1 = some (tyJxd2413 k) := by decide +kernel
def RJ0 : String := "java/lang/String"
def TJ0 : u_T := fun k => match k with
  | 0 => ("java/lang/String", "value", "[B", true)
  | 1 => ("java/lang/String", "coder", "B", true)
  | 2 => ("java/lang/String", "hash", "I", false)
  | _ => ("java/lang/String", "hashIsZero", "Z", false)
def tyJ0 : Nat → FieldType := fun k => match k with
  | 0 => .array .byte
  | 1 => .byte
  | 2 => .int
  | _ => .boolean
abbrev wsJ00 : List Cond := u_ws RJ0 TJ0 4
theorem nmJ0 : ∀ a, a < 4 → ∀ b, b < 4 → a ≠ b → (TJ0 a).2.1 ≠ (TJ0 b).2.1 := by decide +kernel
theorem tyJ0_ok : ∀ k, k < 4 → parseFieldDescriptor (TJ0 k).2.2.1 = some (tyJ0 k) := by decide +kernel
abbrev cJ0_init_81219 : ByteArray := prog_30_method_53_code
def yJ0_init_81219 : MethodName := ⟨RJ0, "<init>", "(Ljava/lang/StringBuilder;)V"⟩
abbrev cJ0_length_8abf5 : ByteArray := prog_30_method_54_code
def yJ0_length_8abf5 : MethodName := ⟨RJ0, "length", "()I"⟩
abbrev cJ0_getBytes_840e7 : ByteArray := prog_30_method_147_code
def yJ0_getBytes_840e7 : MethodName := ⟨RJ0, "getBytes", "([BIB)V"⟩
abbrev cJ0_init_db425 : ByteArray := prog_30_method_150_code
def yJ0_init_db425 : MethodName := ⟨RJ0, "<init>", "(Ljava/lang/AbstractStringBuilder;Ljava/lang/Void;)V"⟩
abbrev cJ0_coder_7d493 : ByteArray := prog_30_method_152_code
def yJ0_coder_7d493 : MethodName := ⟨RJ0, "coder", "()B"⟩
abbrev cJ0_checkIndex_df160 : ByteArray := prog_30_method_155_code
def yJ0_checkIndex_df160 : MethodName := ⟨RJ0, "checkIndex", "(II)V"⟩
abbrev cJ0_checkBoundsOffCount_cabcc : ByteArray := prog_30_method_157_code
def yJ0_checkBoundsOffCount_cabcc : MethodName := ⟨RJ0, "checkBoundsOffCount", "(III)I"⟩
abbrev cJ0_checkBoundsBeginEnd_23922 : ByteArray := prog_30_method_158_code
def yJ0_checkBoundsBeginEnd_23922 : MethodName := ⟨RJ0, "checkBoundsBeginEnd", "(III)V"⟩
def RJ4 : String := "java/lang/StringBuilder"
def TJ4 : u_T := fun k => match k with
  | 0 => ("java/lang/AbstractStringBuilder", "value", "[B", false)
  | 1 => ("java/lang/AbstractStringBuilder", "coder", "B", false)
  | 2 => ("java/lang/AbstractStringBuilder", "maybeLatin1", "Z", false)
  | _ => ("java/lang/AbstractStringBuilder", "count", "I", false)
def tyJ4 : Nat → FieldType := fun k => match k with
  | 0 => .array .byte
  | 1 => .byte
  | 2 => .boolean
  | _ => .int
abbrev wsJ40 : List Cond := u_ws RJ4 TJ4 4
theorem nmJ4 : ∀ a, a < 4 → ∀ b, b < 4 → a ≠ b → (TJ4 a).2.1 ≠ (TJ4 b).2.1 := by decide +kernel
theorem tyJ4_ok : ∀ k, k < 4 → parseFieldDescriptor (TJ4 k).2.2.1 = some (tyJ4 k) := by decide +kernel
abbrev cJ4_init_da8c8 : ByteArray := prog_31_method_1_code
def yJ4_init_da8c8 : MethodName := ⟨RJ4, "<init>", "()V"⟩
abbrev cJ4_append_15ec4 : ByteArray := prog_31_method_7_code
def yJ4_append_15ec4 : MethodName := ⟨RJ4, "append", "(Ljava/lang/String;)Ljava/lang/StringBuilder;"⟩
abbrev cJ4_append_cf468 : ByteArray := prog_31_method_14_code
def yJ4_append_cf468 : MethodName := ⟨RJ4, "append", "(C)Ljava/lang/StringBuilder;"⟩
abbrev cJ4_append_bf812 : ByteArray := prog_31_method_15_code
def yJ4_append_bf812 : MethodName := ⟨RJ4, "append", "(I)Ljava/lang/StringBuilder;"⟩
abbrev cJ4_toString_0e30d : ByteArray := prog_31_method_42_code
def yJ4_toString_0e30d : MethodName := ⟨RJ4, "toString", "()Ljava/lang/String;"⟩
abbrev cJ4_length_8abf5 : ByteArray := prog_31_method_93_code
def yJ4_length_8abf5 : MethodName := ⟨RJ4, "length", "()I"⟩
def RJ1 : String := "java/lang/StringLatin1"
def TJ1 : u_T := fun k => match k with
  | _ => ("", "", "", false)
def tyJ1 : Nat → FieldType := fun k => match k with
  | _ => .int
abbrev wsJ10 : List Cond := u_ws RJ1 TJ1 0
theorem nmJ1 : ∀ a, a < 0 → ∀ b, b < 0 → a ≠ b → (TJ1 a).2.1 ≠ (TJ1 b).2.1 := by decide +kernel
theorem tyJ1_ok : ∀ k, k < 0 → parseFieldDescriptor (TJ1 k).2.2.1 = some (tyJ1 k) := by decide +kernel
abbrev cJ1_canEncode_fc78d : ByteArray := prog_32_method_3_code
def yJ1_canEncode_fc78d : MethodName := ⟨RJ1, "canEncode", "(C)Z"⟩
abbrev cJ1_inflate_0e8fd : ByteArray := prog_32_method_50_code
def yJ1_inflate_0e8fd : MethodName := ⟨RJ1, "inflate", "([BI[BII)V"⟩
def RJ2 : String := "java/lang/StringUTF16"
def TJ2 : u_T := fun k => match k with
  | _ => ("", "", "", false)
def tyJ2 : Nat → FieldType := fun k => match k with
  | _ => .int
abbrev wsJ20 : List Cond := u_ws RJ2 TJ2 0
theorem nmJ2 : ∀ a, a < 0 → ∀ b, b < 0 → a ≠ b → (TJ2 a).2.1 ≠ (TJ2 b).2.1 := by decide +kernel
theorem tyJ2_ok : ∀ k, k < 0 → parseFieldDescriptor (TJ2 k).2.2.1 = some (tyJ2 k) := by decide +kernel
abbrev cJ2_newBytesFor_77867 : ByteArray := prog_33_method_2_code
def yJ2_newBytesFor_77867 : MethodName := ⟨RJ2, "newBytesFor", "(I)[B"⟩
abbrev cJ2_newBytesLength_0f7a4 : ByteArray := prog_33_method_3_code
def yJ2_newBytesLength_0f7a4 : MethodName := ⟨RJ2, "newBytesLength", "(I)I"⟩
abbrev cJ2_putChar_b72d1 : ByteArray := prog_33_method_4_code
def yJ2_putChar_b72d1 : MethodName := ⟨RJ2, "putChar", "([BII)V"⟩
abbrev cJ2_getChar_3b067 : ByteArray := prog_33_method_5_code
def yJ2_getChar_3b067 : MethodName := ⟨RJ2, "getChar", "([BI)C"⟩
abbrev cJ2_length_9d52b : ByteArray := prog_33_method_6_code
def yJ2_length_9d52b : MethodName := ⟨RJ2, "length", "([B)I"⟩
abbrev cJ2_coderFromArrayLen_85cad : ByteArray := prog_33_method_15_code
def yJ2_coderFromArrayLen_85cad : MethodName := ⟨RJ2, "coderFromArrayLen", "([BI)B"⟩
abbrev cJ2_compress_39247 : ByteArray := prog_33_method_17_code
def yJ2_compress_39247 : MethodName := ⟨RJ2, "compress", "([BII)[B"⟩
abbrev cJ2_compress_5af95 : ByteArray := prog_33_method_22_code
def yJ2_compress_5af95 : MethodName := ⟨RJ2, "compress", "([BI[BII)I"⟩
abbrev cJ2_putCharSB_b72d1 : ByteArray := prog_33_method_71_code
def yJ2_putCharSB_b72d1 : MethodName := ⟨RJ2, "putCharSB", "([BII)V"⟩
abbrev cJ2_getChars_46870 : ByteArray := prog_33_method_77_code
def yJ2_getChars_46870 : MethodName := ⟨RJ2, "getChars", "(III[B)I"⟩
abbrev cJ2_putCharsAt_cd4e5 : ByteArray := prog_33_method_81_code
def yJ2_putCharsAt_cd4e5 : MethodName := ⟨RJ2, "putCharsAt", "([BICCCC)I"⟩
abbrev cJ2_inflate_0e8fd : ByteArray := prog_33_method_86_code
def yJ2_inflate_0e8fd : MethodName := ⟨RJ2, "inflate", "([BI[BII)V"⟩
abbrev cJ2_getChars_ba4f3 : ByteArray := prog_33_method_89_code
def yJ2_getChars_ba4f3 : MethodName := ⟨RJ2, "getChars", "(II[B)I"⟩
abbrev cJ2_checkIndex_2214a : ByteArray := prog_33_method_91_code
def yJ2_checkIndex_2214a : MethodName := ⟨RJ2, "checkIndex", "(I[B)V"⟩
abbrev cJ2_checkBoundsBeginEnd_d044e : ByteArray := prog_33_method_93_code
def yJ2_checkBoundsBeginEnd_d044e : MethodName := ⟨RJ2, "checkBoundsBeginEnd", "(II[B)V"⟩
abbrev cJ2_checkBoundsOffCount_d044e : ByteArray := prog_33_method_94_code
def yJ2_checkBoundsOffCount_d044e : MethodName := ⟨RJ2, "checkBoundsOffCount", "(II[B)V"⟩
def RJ10 : String := "java/lang/System"
def TJ10 : u_T := fun k => match k with
  | _ => ("", "", "", false)
def tyJ10 : Nat → FieldType := fun k => match k with
  | _ => .int
abbrev wsJ100 : List Cond := u_ws RJ10 TJ10 0
theorem nmJ10 : ∀ a, a < 0 → ∀ b, b < 0 → a ≠ b → (TJ10 a).2.1 ≠ (TJ10 b).2.1 := by decide +kernel
theorem tyJ10_ok : ∀ k, k < 0 → parseFieldDescriptor (TJ10 k).2.2.1 = some (tyJ10 k) := by decide +kernel
def RJxfd54e : String := "java/lang/constant/Constable"
def TJxfd54e : u_T := fun k => match k with
  | _ => ("", "", "", false)
def tyJxfd54e : Nat → FieldType := fun k => match k with
  | _ => .int
abbrev wsJxfd54e0 : List Cond := u_ws RJxfd54e TJxfd54e 0
theorem nmJxfd54e : ∀ a, a < 0 → ∀ b, b < 0 → a ≠ b → (TJxfd54e a).2.1 ≠ (TJxfd54e b).2.1 := by decide +kernel
theorem tyJxfd54e_ok : ∀ k, k < 0 → parseFieldDescriptor (TJxfd54e k).2.2.1 = some (tyJxfd54e k) := by decide +kernel
def RJx3cf43 : String := "java/lang/constant/ConstantDesc"
def TJx3cf43 : u_T := fun k => match k with
  | _ => ("", "", "", false)
def tyJx3cf43 : Nat → FieldType := fun k => match k with
  | _ => .int
abbrev wsJx3cf430 : List Cond := u_ws RJx3cf43 TJx3cf43 0
theorem nmJx3cf43 : ∀ a, a < 0 → ∀ b, b < 0 → a ≠ b → (TJx3cf43 a).2.1 ≠ (TJx3cf43 b).2.1 := by decide +kernel
theorem tyJx3cf43_ok : ∀ k, k < 0 → parseFieldDescriptor (TJx3cf43 k).2.2.1 = some (tyJx3cf43 k) := by decide +kernel
def RJxa1e45 : String := "java/util/AbstractCollection"
def TJxa1e45 : u_T := fun k => match k with
  | _ => ("", "", "", false)
def tyJxa1e45 : Nat → FieldType := fun k => match k with
  | _ => .int
abbrev wsJxa1e450 : List Cond := u_ws RJxa1e45 TJxa1e45 0
theorem nmJxa1e45 : ∀ a, a < 0 → ∀ b, b < 0 → a ≠ b → (TJxa1e45 a).2.1 ≠ (TJxa1e45 b).2.1 := by decide +kernel
theorem tyJxa1e45_ok : ∀ k, k < 0 → parseFieldDescriptor (TJxa1e45 k).2.2.1 = some (tyJxa1e45 k) := by decide +kernel
abbrev cJxa1e45_init_da8c8 : ByteArray := prog_38_method_1_code
def yJxa1e45_init_da8c8 : MethodName := ⟨RJxa1e45, "<init>", "()V"⟩
def RJxc12de : String := "java/util/AbstractList"
def TJxc12de : u_T := fun k => match k with
  | _ => ("", "", "", false)
def tyJxc12de : Nat → FieldType := fun k => match k with
  | _ => .int
abbrev wsJxc12de0 : List Cond := u_ws RJxc12de TJxc12de 0
theorem nmJxc12de : ∀ a, a < 0 → ∀ b, b < 0 → a ≠ b → (TJxc12de a).2.1 ≠ (TJxc12de b).2.1 := by decide +kernel
theorem tyJxc12de_ok : ∀ k, k < 0 → parseFieldDescriptor (TJxc12de k).2.2.1 = some (tyJxc12de k) := by decide +kernel
abbrev cJxc12de_init_da8c8 : ByteArray := prog_39_method_1_code
def yJxc12de_init_da8c8 : MethodName := ⟨RJxc12de, "<init>", "()V"⟩
def RJx35411 : String := "java/util/ArrayList$Itr"
def TJx35411 : u_T := fun k => match k with
  | 0 => ("java/util/ArrayList$Itr", "cursor", "I", false)
  | 1 => ("java/util/ArrayList$Itr", "lastRet", "I", false)
  | 2 => ("java/util/ArrayList$Itr", "expectedModCount", "I", false)
  | _ => ("java/util/ArrayList$Itr", "this$0", "Ljava/util/ArrayList;", true)
def tyJx35411 : Nat → FieldType := fun k => match k with
  | 0 => .int
  | 1 => .int
  | 2 => .int
  | _ => .object "java/util/ArrayList"
abbrev wsJx354110 : List Cond := u_ws RJx35411 TJx35411 4
theorem nmJx35411 : ∀ a, a < 4 → ∀ b, b < 4 → a ≠ b → (TJx35411 a).2.1 ≠ (TJx35411 b).2.1 := by decide +kernel
theorem tyJx35411_ok : ∀ k, k < 4 → parseFieldDescriptor (TJx35411 k).2.2.1 = some (tyJx35411 k) := by decide +kernel
abbrev cJx35411_init_45d68 : ByteArray := prog_41_method_1_code
def yJx35411_init_45d68 : MethodName := ⟨RJx35411, "<init>", "(Ljava/util/ArrayList;)V"⟩
abbrev cJx35411_hasNext_aae02 : ByteArray := prog_41_method_2_code
def yJx35411_hasNext_aae02 : MethodName := ⟨RJx35411, "hasNext", "()Z"⟩
abbrev cJx35411_next_0502b : ByteArray := prog_41_method_3_code
def yJx35411_next_0502b : MethodName := ⟨RJx35411, "next", "()Ljava/lang/Object;"⟩
abbrev cJx35411_checkForComodification_da8c8 : ByteArray := prog_41_method_6_code
def yJx35411_checkForComodification_da8c8 : MethodName := ⟨RJx35411, "checkForComodification", "()V"⟩
def RJx4a65c : String := "java/util/ArrayList"
def TJx4a65c : u_T := fun k => match k with
  | 0 => ("java/util/AbstractList", "modCount", "I", false)
  | 1 => ("java/util/ArrayList", "elementData", "[Ljava/lang/Object;", false)
  | _ => ("java/util/ArrayList", "size", "I", false)
def tyJx4a65c : Nat → FieldType := fun k => match k with
  | 0 => .int
  | 1 => .array (.object "java/lang/Object")
  | _ => .int
abbrev wsJx4a65c0 : List Cond := u_ws RJx4a65c TJx4a65c 3
theorem nmJx4a65c : ∀ a, a < 3 → ∀ b, b < 3 → a ≠ b → (TJx4a65c a).2.1 ≠ (TJx4a65c b).2.1 := by decide +kernel
theorem tyJx4a65c_ok : ∀ k, k < 3 → parseFieldDescriptor (TJx4a65c k).2.2.1 = some (tyJx4a65c k) := by decide +kernel
abbrev cJx4a65c_init_da8c8 : ByteArray := prog_40_method_2_code
def yJx4a65c_init_da8c8 : MethodName := ⟨RJx4a65c, "<init>", "()V"⟩
abbrev cJx4a65c_grow_92f84 : ByteArray := prog_40_method_6_code
def yJx4a65c_grow_92f84 : MethodName := ⟨RJx4a65c, "grow", "(I)[Ljava/lang/Object;"⟩
abbrev cJx4a65c_grow_d5877 : ByteArray := prog_40_method_7_code
def yJx4a65c_grow_d5877 : MethodName := ⟨RJx4a65c, "grow", "()[Ljava/lang/Object;"⟩
abbrev cJx4a65c_size_8abf5 : ByteArray := prog_40_method_8_code
def yJx4a65c_size_8abf5 : MethodName := ⟨RJx4a65c, "size", "()I"⟩
abbrev cJx4a65c_elementData_915e3 : ByteArray := prog_40_method_18_code
def yJx4a65c_elementData_915e3 : MethodName := ⟨RJx4a65c, "elementData", "(I)Ljava/lang/Object;"⟩
abbrev cJx4a65c_get_915e3 : ByteArray := prog_40_method_20_code
def yJx4a65c_get_915e3 : MethodName := ⟨RJx4a65c, "get", "(I)Ljava/lang/Object;"⟩
abbrev cJx4a65c_add_72be8 : ByteArray := prog_40_method_24_code
def yJx4a65c_add_72be8 : MethodName := ⟨RJx4a65c, "add", "(Ljava/lang/Object;[Ljava/lang/Object;I)V"⟩
abbrev cJx4a65c_add_9ea2d : ByteArray := prog_40_method_25_code
def yJx4a65c_add_9ea2d : MethodName := ⟨RJx4a65c, "add", "(Ljava/lang/Object;)Z"⟩
abbrev cJx4a65c_iterator_32c93 : ByteArray := prog_40_method_55_code
def yJx4a65c_iterator_32c93 : MethodName := ⟨RJx4a65c, "iterator", "()Ljava/util/Iterator;"⟩
def RJ7 : String := "java/util/Arrays"
def TJ7 : u_T := fun k => match k with
  | _ => ("", "", "", false)
def tyJ7 : Nat → FieldType := fun k => match k with
  | _ => .int
abbrev wsJ70 : List Cond := u_ws RJ7 TJ7 0
theorem nmJ7 : ∀ a, a < 0 → ∀ b, b < 0 → a ≠ b → (TJ7 a).2.1 ≠ (TJ7 b).2.1 := by decide +kernel
theorem tyJ7_ok : ∀ k, k < 0 → parseFieldDescriptor (TJ7 k).2.2.1 = some (tyJ7 k) := by decide +kernel
abbrev cJ7_copyOf_1904c : ByteArray := prog_42_method_119_code
def yJ7_copyOf_1904c : MethodName := ⟨RJ7, "copyOf", "([Ljava/lang/Object;I)[Ljava/lang/Object;"⟩
abbrev cJ7_copyOf_6403c : ByteArray := prog_42_method_120_code
def yJ7_copyOf_6403c : MethodName := ⟨RJ7, "copyOf", "([Ljava/lang/Object;ILjava/lang/Class;)[Ljava/lang/Object;"⟩
abbrev cJ7_copyOf_9075b : ByteArray := prog_42_method_121_code
def yJ7_copyOf_9075b : MethodName := ⟨RJ7, "copyOf", "([BI)[B"⟩
abbrev cJ7_checkLength_df160 : ByteArray := prog_42_method_131_code
def yJ7_checkLength_df160 : MethodName := ⟨RJ7, "checkLength", "(II)V"⟩
abbrev cJ7_copyOfRange_39247 : ByteArray := prog_42_method_132_code
def yJ7_copyOfRange_39247 : MethodName := ⟨RJ7, "copyOfRange", "([BII)[B"⟩
abbrev cJ7_copyOfRangeByte_39247 : ByteArray := prog_42_method_133_code
def yJ7_copyOfRangeByte_39247 : MethodName := ⟨RJ7, "copyOfRangeByte", "([BII)[B"⟩
def RJx5ef63 : String := "java/util/Collection"
def TJx5ef63 : u_T := fun k => match k with
  | _ => ("", "", "", false)
def tyJx5ef63 : Nat → FieldType := fun k => match k with
  | _ => .int
abbrev wsJx5ef630 : List Cond := u_ws RJx5ef63 TJx5ef63 0
theorem nmJx5ef63 : ∀ a, a < 0 → ∀ b, b < 0 → a ≠ b → (TJx5ef63 a).2.1 ≠ (TJx5ef63 b).2.1 := by decide +kernel
theorem tyJx5ef63_ok : ∀ k, k < 0 → parseFieldDescriptor (TJx5ef63 k).2.2.1 = some (tyJx5ef63 k) := by decide +kernel
def RJx4d0d8 : String := "java/util/Iterator"
def TJx4d0d8 : u_T := fun k => match k with
  | _ => ("", "", "", false)
def tyJx4d0d8 : Nat → FieldType := fun k => match k with
  | _ => .int
abbrev wsJx4d0d80 : List Cond := u_ws RJx4d0d8 TJx4d0d8 0
theorem nmJx4d0d8 : ∀ a, a < 0 → ∀ b, b < 0 → a ≠ b → (TJx4d0d8 a).2.1 ≠ (TJx4d0d8 b).2.1 := by decide +kernel
theorem tyJx4d0d8_ok : ∀ k, k < 0 → parseFieldDescriptor (TJx4d0d8 k).2.2.1 = some (tyJx4d0d8 k) := by decide +kernel
def RJxbd725 : String := "java/util/List"
def TJxbd725 : u_T := fun k => match k with
  | _ => ("", "", "", false)
def tyJxbd725 : Nat → FieldType := fun k => match k with
  | _ => .int
abbrev wsJxbd7250 : List Cond := u_ws RJxbd725 TJxbd725 0
theorem nmJxbd725 : ∀ a, a < 0 → ∀ b, b < 0 → a ≠ b → (TJxbd725 a).2.1 ≠ (TJxbd725 b).2.1 := by decide +kernel
theorem tyJxbd725_ok : ∀ k, k < 0 → parseFieldDescriptor (TJxbd725 k).2.2.1 = some (tyJxbd725 k) := by decide +kernel
def RJ15 : String := "java/util/Objects"
def TJ15 : u_T := fun k => match k with
  | _ => ("", "", "", false)
def tyJ15 : Nat → FieldType := fun k => match k with
  | _ => .int
abbrev wsJ150 : List Cond := u_ws RJ15 TJ15 0
theorem nmJ15 : ∀ a, a < 0 → ∀ b, b < 0 → a ≠ b → (TJ15 a).2.1 ≠ (TJ15 b).2.1 := by decide +kernel
theorem tyJ15_ok : ∀ k, k < 0 → parseFieldDescriptor (TJ15 k).2.2.1 = some (tyJ15 k) := by decide +kernel
abbrev cJ15_checkIndex_7cf53 : ByteArray := prog_46_method_17_code
def yJ15_checkIndex_7cf53 : MethodName := ⟨RJ15, "checkIndex", "(II)I"⟩
def RJxf0a74 : String := "java/util/RandomAccess"
def TJxf0a74 : u_T := fun k => match k with
  | _ => ("", "", "", false)
def tyJxf0a74 : Nat → FieldType := fun k => match k with
  | _ => .int
abbrev wsJxf0a740 : List Cond := u_ws RJxf0a74 TJxf0a74 0
theorem nmJxf0a74 : ∀ a, a < 0 → ∀ b, b < 0 → a ≠ b → (TJxf0a74 a).2.1 ≠ (TJxf0a74 b).2.1 := by decide +kernel
theorem tyJxf0a74_ok : ∀ k, k < 0 → parseFieldDescriptor (TJxf0a74 k).2.2.1 = some (tyJxf0a74 k) := by decide +kernel
def RJxa66e6 : String := "java/util/SequencedCollection"
def TJxa66e6 : u_T := fun k => match k with
  | _ => ("", "", "", false)
def tyJxa66e6 : Nat → FieldType := fun k => match k with
  | _ => .int
abbrev wsJxa66e60 : List Cond := u_ws RJxa66e6 TJxa66e6 0
theorem nmJxa66e6 : ∀ a, a < 0 → ∀ b, b < 0 → a ≠ b → (TJxa66e6 a).2.1 ≠ (TJxa66e6 b).2.1 := by decide +kernel
theorem tyJxa66e6_ok : ∀ k, k < 0 → parseFieldDescriptor (TJxa66e6 k).2.2.1 = some (tyJxa66e6 k) := by decide +kernel
def RJ8 : String := "jdk/internal/util/ArraysSupport"
def TJ8 : u_T := fun k => match k with
  | _ => ("", "", "", false)
def tyJ8 : Nat → FieldType := fun k => match k with
  | _ => .int
abbrev wsJ80 : List Cond := u_ws RJ8 TJ8 0
theorem nmJ8 : ∀ a, a < 0 → ∀ b, b < 0 → a ≠ b → (TJ8 a).2.1 ≠ (TJ8 b).2.1 := by decide +kernel
theorem tyJ8_ok : ∀ k, k < 0 → parseFieldDescriptor (TJ8 k).2.2.1 = some (tyJ8 k) := by decide +kernel
abbrev cJ8_newLength_cabcc : ByteArray := prog_49_method_27_code
def yJ8_newLength_cabcc : MethodName := ⟨RJ8, "newLength", "(III)I"⟩
abbrev cJ8_hugeLength_7cf53 : ByteArray := prog_49_method_28_code
def yJ8_hugeLength_7cf53 : MethodName := ⟨RJ8, "hugeLength", "(II)I"⟩
def RJ3 : String := "jdk/internal/util/Preconditions"
def TJ3 : u_T := fun k => match k with
  | _ => ("", "", "", false)
def tyJ3 : Nat → FieldType := fun k => match k with
  | _ => .int
abbrev wsJ30 : List Cond := u_ws RJ3 TJ3 0
theorem nmJ3 : ∀ a, a < 0 → ∀ b, b < 0 → a ≠ b → (TJ3 a).2.1 ≠ (TJ3 b).2.1 := by decide +kernel
theorem tyJ3_ok : ∀ k, k < 0 → parseFieldDescriptor (TJ3 k).2.2.1 = some (tyJ3 k) := by decide +kernel
abbrev cJ3_checkIndex_8e157 : ByteArray := prog_50_method_11_code
def yJ3_checkIndex_8e157 : MethodName := ⟨RJ3, "checkIndex", "(IILjava/util/function/BiFunction;)I"⟩
abbrev cJ3_checkFromToIndex_8c36e : ByteArray := prog_50_method_12_code
def yJ3_checkFromToIndex_8c36e : MethodName := ⟨RJ3, "checkFromToIndex", "(IIILjava/util/function/BiFunction;)I"⟩
abbrev cJ3_checkFromIndexSize_8c36e : ByteArray := prog_50_method_13_code
def yJ3_checkFromIndexSize_8c36e : MethodName := ⟨RJ3, "checkFromIndexSize", "(IIILjava/util/function/BiFunction;)I"⟩
def RL : String := "DoublecoatLaw"
abbrev cL_part : ByteArray := method_2_code
def yL_part : MethodName := ⟨RL, "part", "(LDoublecoat;IIILDoublecoatLaw$Out;)I"⟩
abbrev cL_player : ByteArray := method_3_code
def yL_player : MethodName := ⟨RL, "player", "(LDoublecoat;IIILDoublecoatLaw$Out;)I"⟩
abbrev cL_scene : ByteArray := method_4_code
def yL_scene : MethodName := ⟨RL, "scene", "(LDoublecoat;IILDoublecoatLaw$Out;)I"⟩
abbrev cL_pause : ByteArray := method_5_code
def yL_pause : MethodName := ⟨RL, "pause", "(LDoublecoat;IILDoublecoatLaw$Out;)I"⟩
abbrev cL_sick : ByteArray := method_6_code
def yL_sick : MethodName := ⟨RL, "sick", "(LDoublecoat;IZLDoublecoatLaw$Out;)I"⟩
abbrev cL_coat : ByteArray := method_7_code
def yL_coat : MethodName := ⟨RL, "coat", "(LDoublecoat;IIILDoublecoatLaw$Out;)I"⟩
abbrev cL_pawn : ByteArray := method_8_code
def yL_pawn : MethodName := ⟨RL, "pawn", "(LDoublecoat;IILDoublecoatLaw$Out;)I"⟩
abbrev cL_redeem : ByteArray := method_9_code
def yL_redeem : MethodName := ⟨RL, "redeem", "(LDoublecoat;IILDoublecoatLaw$Out;)I"⟩
abbrev cL_town : ByteArray := method_10_code
def yL_town : MethodName := ⟨RL, "town", "(LDoublecoat;IIILDoublecoatLaw$Out;)I"⟩
abbrev cL_night : ByteArray := method_11_code
def yL_night : MethodName := ⟨RL, "night", "(LDoublecoat;ILDoublecoatLaw$Out;)I"⟩
abbrev cL_ofPart : ByteArray := method_12_code
def yL_ofPart : MethodName := ⟨RL, "ofPart", "(LDoublecoat;IILDoublecoatLaw$Out;)I"⟩
abbrev cL_ofPlayer : ByteArray := method_13_code
def yL_ofPlayer : MethodName := ⟨RL, "ofPlayer", "(LDoublecoat;IILDoublecoatLaw$Out;)I"⟩
abbrev cL_ofScene : ByteArray := method_14_code
def yL_ofScene : MethodName := ⟨RL, "ofScene", "(LDoublecoat;IILDoublecoatLaw$Out;)I"⟩
abbrev cL_ofCoat : ByteArray := method_15_code
def yL_ofCoat : MethodName := ⟨RL, "ofCoat", "(LDoublecoat;IILDoublecoatLaw$Out;)I"⟩
abbrev cL_ofTown : ByteArray := method_16_code
def yL_ofTown : MethodName := ⟨RL, "ofTown", "(LDoublecoat;IILDoublecoatLaw$Out;)I"⟩
abbrev cL_house : ByteArray := method_17_code
def yL_house : MethodName := ⟨RL, "house", "(LDoublecoat;ILDoublecoatLaw$Out;)I"⟩
abbrev cL_tour : ByteArray := method_18_code
def yL_tour : MethodName := ⟨RL, "tour", "(LDoublecoat;IILDoublecoatLaw$Out;)I"⟩
abbrev cL_would : ByteArray := method_19_code
def yL_would : MethodName := ⟨RL, "would", "(LDoublecoat;ILDoublecoatLaw$Out;)I"⟩
abbrev cL_without : ByteArray := method_20_code
def yL_without : MethodName := ⟨RL, "without", "(LDoublecoat;ILDoublecoatLaw$Out;)I"⟩
abbrev cL_shareOf : ByteArray := method_21_code
def yL_shareOf : MethodName := ⟨RL, "shareOf", "(LDoublecoat;IILDoublecoatLaw$Out;)I"⟩
abbrev cL_law : ByteArray := code
def yL_law : MethodName := ⟨RL, "law", "([I)Z"⟩
abbrev vwCl : List vw_C := [(RJ0, TJ0, 4), (RJ4, TJ4, 4), (RJx35411, TJx35411, 4), (RJx4a65c, TJx4a65c, 3), (RX0, TX0, 9), (RX1, TX1, 6), (RX2, TX2, 7), (RX3, TX3, 6), (RX4, TX4, 7), (RX5, TX5, 9), (RX6, TX6, 1), (RX7, TX7, 4), (RX8, TX8, 3), (RX9, TX9, 5), (RX10, TX10, 2), (RX11, TX11, 3), (RX12, TX12, 20)]
