def RX0 : String := "Doublecoat$Casting"
def TX0 : u_T := fun k => match k with
  | 0 => ("Doublecoat$Casting", "bestRoles", "[I", true)
  | 1 => ("Doublecoat$Casting", "bestCount", "I", false)
  | 2 => ("Doublecoat$Casting", "cut", "I", false)
  | 3 => ("Doublecoat$Casting", "known", "Z", false)
  | 4 => ("Doublecoat$Casting", "able", "[I", true)
  | 5 => ("Doublecoat$Casting", "clash", "[I", true)
  | 6 => ("Doublecoat$Casting", "order", "[I", true)
  | 7 => ("Doublecoat$Casting", "roles", "[I", true)
  | _ => ("Doublecoat$Casting", "ordered", "I", false)
def tyX0 : Nat → FieldType := fun k => match k with
  | 0 => .array .int
  | 1 => .int
  | 2 => .int
  | 3 => .boolean
  | 4 => .array .int
  | 5 => .array .int
  | 6 => .array .int
  | 7 => .array .int
  | _ => .int
abbrev wsX00 : List Cond := u_ws RX0 TX0 9
theorem nmX0 : ∀ a, a < 9 → ∀ b, b < 9 → a ≠ b → (TX0 a).2.1 ≠ (TX0 b).2.1 := by decide +kernel
theorem tyX0_ok : ∀ k, k < 9 → parseFieldDescriptor (TX0 k).2.2.1 = some (tyX0 k) := by decide +kernel
abbrev cX0_init : ByteArray := prog_2_method_1_code
def yX0_init : MethodName := ⟨RX0, "<init>", "()V"⟩
abbrev cX0_forget : ByteArray := prog_2_method_2_code
def yX0_forget : MethodName := ⟨RX0, "forget", "()V"⟩
abbrev cX0_recall : ByteArray := prog_2_method_3_code
def yX0_recall : MethodName := ⟨RX0, "recall", "(LDoublecoat$Play;LDoublecoat$Company;)V"⟩
abbrev cX0_keepFirst : ByteArray := prog_2_method_4_code
def yX0_keepFirst : MethodName := ⟨RX0, "keepFirst", "(LDoublecoat$Play;)V"⟩
abbrev cX0_fewestCut : ByteArray := prog_2_method_5_code
def yX0_fewestCut : MethodName := ⟨RX0, "fewestCut", "(LDoublecoat$Play;LDoublecoat$Company;)I"⟩
abbrev cX0_playerOf : ByteArray := prog_2_method_6_code
def yX0_playerOf : MethodName := ⟨RX0, "playerOf", "(I)I"⟩
abbrev cX0_actors : ByteArray := prog_2_method_7_code
def yX0_actors : MethodName := ⟨RX0, "actors", "()I"⟩
abbrev cX0_clashesOf : ByteArray := prog_2_method_8_code
def yX0_clashesOf : MethodName := ⟨RX0, "clashesOf", "(ILDoublecoat$Play;)I"⟩
abbrev cX0_fewest : ByteArray := prog_2_method_9_code
def yX0_fewest : MethodName := ⟨RX0, "fewest", "(LDoublecoat$Play;LDoublecoat$Company;I)I"⟩
abbrev cX0_prepare : ByteArray := prog_2_method_10_code
def yX0_prepare : MethodName := ⟨RX0, "prepare", "(LDoublecoat$Play;LDoublecoat$Company;I)V"⟩
abbrev cX0_orderByChoice : ByteArray := prog_2_method_11_code
def yX0_orderByChoice : MethodName := ⟨RX0, "orderByChoice", "(I)V"⟩
abbrev cX0_orderByNumber : ByteArray := prog_2_method_12_code
def yX0_orderByNumber : MethodName := ⟨RX0, "orderByNumber", "(I)V"⟩
abbrev cX0_canPlace : ByteArray := prog_2_method_13_code
def yX0_canPlace : MethodName := ⟨RX0, "canPlace", "(I)Z"⟩
abbrev cX0_canPlaceFrom : ByteArray := prog_2_method_14_code
def yX0_canPlaceFrom : MethodName := ⟨RX0, "canPlaceFrom", "(LDoublecoat$Casting;II)Z"⟩
def RX1 : String := "Doublecoat$Company"
def TX1 : u_T := fun k => match k with
  | 0 => ("Doublecoat$Company", "voices", "[I", true)
  | 1 => ("Doublecoat$Company", "size", "[I", true)
  | 2 => ("Doublecoat$Company", "share", "[I", true)
  | 3 => ("Doublecoat$Company", "purse", "[I", true)
  | 4 => ("Doublecoat$Company", "players", "I", false)
  | _ => ("Doublecoat$Company", "sick", "I", false)
def tyX1 : Nat → FieldType := fun k => match k with
  | 0 => .array .int
  | 1 => .array .int
  | 2 => .array .int
  | 3 => .array .int
  | 4 => .int
  | _ => .int
abbrev wsX10 : List Cond := u_ws RX1 TX1 6
theorem nmX1 : ∀ a, a < 6 → ∀ b, b < 6 → a ≠ b → (TX1 a).2.1 ≠ (TX1 b).2.1 := by decide +kernel
theorem tyX1_ok : ∀ k, k < 6 → parseFieldDescriptor (TX1 k).2.2.1 = some (tyX1 k) := by decide +kernel
abbrev cX1_init : ByteArray := prog_3_method_1_code
def yX1_init : MethodName := ⟨RX1, "<init>", "()V"⟩
abbrev cX1_addPlayer : ByteArray := prog_3_method_2_code
def yX1_addPlayer : MethodName := ⟨RX1, "addPlayer", "(III)I"⟩
abbrev cX1_countWell : ByteArray := prog_3_method_3_code
def yX1_countWell : MethodName := ⟨RX1, "countWell", "()I"⟩
abbrev cX1_ableOfAny : ByteArray := prog_3_method_4_code
def yX1_ableOfAny : MethodName := ⟨RX1, "ableOfAny", "(I)I"⟩
abbrev cX1_allPurses : ByteArray := prog_3_method_5_code
def yX1_allPurses : MethodName := ⟨RX1, "allPurses", "()I"⟩
abbrev cX1_hasDebt : ByteArray := prog_3_method_6_code
def yX1_hasDebt : MethodName := ⟨RX1, "hasDebt", "()Z"⟩
abbrev cX1_portion : ByteArray := prog_3_method_7_code
def yX1_portion : MethodName := ⟨RX1, "portion", "(III)I"⟩
abbrev cX1_sharesOf : ByteArray := prog_3_method_8_code
def yX1_sharesOf : MethodName := ⟨RX1, "sharesOf", "(I)I"⟩
def RX2 : String := "Doublecoat$Play"
def TX2 : u_T := fun k => match k with
  | 0 => ("Doublecoat$Play", "voice", "[I", true)
  | 1 => ("Doublecoat$Play", "rank", "[I", true)
  | 2 => ("Doublecoat$Play", "change", "[I", true)
  | 3 => ("Doublecoat$Play", "sceneParts", "[I", true)
  | 4 => ("Doublecoat$Play", "scenePause", "[I", true)
  | 5 => ("Doublecoat$Play", "parts", "I", false)
  | _ => ("Doublecoat$Play", "scenes", "I", false)
def tyX2 : Nat → FieldType := fun k => match k with
  | 0 => .array .int
  | 1 => .array .int
  | 2 => .array .int
  | 3 => .array .int
  | 4 => .array .int
  | 5 => .int
  | _ => .int
abbrev wsX20 : List Cond := u_ws RX2 TX2 7
theorem nmX2 : ∀ a, a < 7 → ∀ b, b < 7 → a ≠ b → (TX2 a).2.1 ≠ (TX2 b).2.1 := by decide +kernel
theorem tyX2_ok : ∀ k, k < 7 → parseFieldDescriptor (TX2 k).2.2.1 = some (tyX2 k) := by decide +kernel
abbrev cX2_init : ByteArray := prog_4_method_1_code
def yX2_init : MethodName := ⟨RX2, "<init>", "()V"⟩
abbrev cX2_addPart : ByteArray := prog_4_method_2_code
def yX2_addPart : MethodName := ⟨RX2, "addPart", "(III)I"⟩
abbrev cX2_addScene : ByteArray := prog_4_method_3_code
def yX2_addScene : MethodName := ⟨RX2, "addScene", "(II)I"⟩
abbrev cX2_allScenes : ByteArray := prog_4_method_4_code
def yX2_allScenes : MethodName := ⟨RX2, "allScenes", "()I"⟩
abbrev cX2_scenesWith : ByteArray := prog_4_method_5_code
def yX2_scenesWith : MethodName := ⟨RX2, "scenesWith", "(I)I"⟩
abbrev cX2_partsOf : ByteArray := prog_4_method_6_code
def yX2_partsOf : MethodName := ⟨RX2, "partsOf", "(I)I"⟩
abbrev cX2_fillClashes : ByteArray := prog_4_method_7_code
def yX2_fillClashes : MethodName := ⟨RX2, "fillClashes", "(I[I)V"⟩
abbrev cX2_clashTogether : ByteArray := prog_4_method_8_code
def yX2_clashTogether : MethodName := ⟨RX2, "clashTogether", "(I[I)V"⟩
abbrev cX2_clashInTurn : ByteArray := prog_4_method_9_code
def yX2_clashInTurn : MethodName := ⟨RX2, "clashInTurn", "(II[I)V"⟩
def RX3 : String := "Doublecoat$Road"
def TX3 : u_T := fun k => match k with
  | 0 => ("Doublecoat$Road", "x", "[I", true)
  | 1 => ("Doublecoat$Road", "y", "[I", true)
  | 2 => ("Doublecoat$Road", "takings", "[I", true)
  | 3 => ("Doublecoat$Road", "round", "[I", true)
  | 4 => ("Doublecoat$Road", "towns", "I", false)
  | _ => ("Doublecoat$Road", "out", "[[I", true)
def tyX3 : Nat → FieldType := fun k => match k with
  | 0 => .array .int
  | 1 => .array .int
  | 2 => .array .int
  | 3 => .array .int
  | 4 => .int
  | _ => .array (.array .int)
abbrev wsX30 : List Cond := u_ws RX3 TX3 6
theorem nmX3 : ∀ a, a < 6 → ∀ b, b < 6 → a ≠ b → (TX3 a).2.1 ≠ (TX3 b).2.1 := by decide +kernel
theorem tyX3_ok : ∀ k, k < 6 → parseFieldDescriptor (TX3 k).2.2.1 = some (tyX3 k) := by decide +kernel
abbrev cX3_init : ByteArray := prog_5_method_1_code
def yX3_init : MethodName := ⟨RX3, "<init>", "()V"⟩
abbrev cX3_addTown : ByteArray := prog_5_method_2_code
def yX3_addTown : MethodName := ⟨RX3, "addTown", "(III)I"⟩
abbrev cX3_measure : ByteArray := prog_5_method_3_code
def yX3_measure : MethodName := ⟨RX3, "measure", "(I)V"⟩
abbrev cX3_milesOut : ByteArray := prog_5_method_4_code
def yX3_milesOut : MethodName := ⟨RX3, "milesOut", "(II)I"⟩
abbrev cX3_milesHome : ByteArray := prog_5_method_5_code
def yX3_milesHome : MethodName := ⟨RX3, "milesHome", "(I)I"⟩
abbrev cX3_takingsOf : ByteArray := prog_5_method_6_code
def yX3_takingsOf : MethodName := ⟨RX3, "takingsOf", "(I)I"⟩
abbrev cX3_bestTour : ByteArray := prog_5_method_7_code
def yX3_bestTour : MethodName := ⟨RX3, "bestTour", "(I)I"⟩
def RX4 : String := "Doublecoat$Wardrobe"
def TX4 : u_T := fun k => match k with
  | 0 => ("Doublecoat$Wardrobe", "rank", "[I", true)
  | 1 => ("Doublecoat$Wardrobe", "size", "[I", true)
  | 2 => ("Doublecoat$Wardrobe", "price", "[I", true)
  | 3 => ("Doublecoat$Wardrobe", "coats", "I", false)
  | 4 => ("Doublecoat$Wardrobe", "pawned", "I", false)
  | 5 => ("Doublecoat$Wardrobe", "least", "[I", true)
  | _ => ("Doublecoat$Wardrobe", "dressed", "I", false)
def tyX4 : Nat → FieldType := fun k => match k with
  | 0 => .array .int
  | 1 => .array .int
  | 2 => .array .int
  | 3 => .int
  | 4 => .int
  | 5 => .array .int
  | _ => .int
abbrev wsX40 : List Cond := u_ws RX4 TX4 7
theorem nmX4 : ∀ a, a < 7 → ∀ b, b < 7 → a ≠ b → (TX4 a).2.1 ≠ (TX4 b).2.1 := by decide +kernel
theorem tyX4_ok : ∀ k, k < 7 → parseFieldDescriptor (TX4 k).2.2.1 = some (tyX4 k) := by decide +kernel
abbrev cX4_init : ByteArray := prog_6_method_1_code
def yX4_init : MethodName := ⟨RX4, "<init>", "()V"⟩
abbrev cX4_addCoat : ByteArray := prog_6_method_2_code
def yX4_addCoat : MethodName := ⟨RX4, "addCoat", "(III)I"⟩
abbrev cX4_startDressing : ByteArray := prog_6_method_3_code
def yX4_startDressing : MethodName := ⟨RX4, "startDressing", "()V"⟩
abbrev cX4_dressOneMore : ByteArray := prog_6_method_4_code
def yX4_dressOneMore : MethodName := ⟨RX4, "dressOneMore", "(II)V"⟩
abbrev cX4_leastWaste : ByteArray := prog_6_method_5_code
def yX4_leastWaste : MethodName := ⟨RX4, "leastWaste", "()I"⟩
abbrev cX4_keepLess : ByteArray := prog_6_method_6_code
def yX4_keepLess : MethodName := ⟨RX4, "keepLess", "(II)V"⟩
abbrev cX4_wasteOf : ByteArray := prog_6_method_7_code
def yX4_wasteOf : MethodName := ⟨RX4, "wasteOf", "(III)I"⟩
def RX5 : String := "Doublecoat"
def TX5 : u_T := fun k => match k with
  | 0 => ("Doublecoat", "play", "LDoublecoat$Play;", true)
  | 1 => ("Doublecoat", "company", "LDoublecoat$Company;", true)
  | 2 => ("Doublecoat", "casting", "LDoublecoat$Casting;", true)
  | 3 => ("Doublecoat", "wardrobe", "LDoublecoat$Wardrobe;", true)
  | 4 => ("Doublecoat", "road", "LDoublecoat$Road;", true)
  | 5 => ("Doublecoat", "takenIn", "I", false)
  | 6 => ("Doublecoat", "paid", "I", false)
  | 7 => ("Doublecoat", "nights", "I", false)
  | _ => ("Doublecoat", "refused", "I", false)
def tyX5 : Nat → FieldType := fun k => match k with
  | 0 => .object "Doublecoat$Play"
  | 1 => .object "Doublecoat$Company"
  | 2 => .object "Doublecoat$Casting"
  | 3 => .object "Doublecoat$Wardrobe"
  | 4 => .object "Doublecoat$Road"
  | 5 => .int
  | 6 => .int
  | 7 => .int
  | _ => .int
abbrev wsX50 : List Cond := u_ws RX5 TX5 9
theorem nmX5 : ∀ a, a < 9 → ∀ b, b < 9 → a ≠ b → (TX5 a).2.1 ≠ (TX5 b).2.1 := by decide +kernel
theorem tyX5_ok : ∀ k, k < 9 → parseFieldDescriptor (TX5 k).2.2.1 = some (tyX5 k) := by decide +kernel
abbrev cX5_init : ByteArray := prog_1_method_1_code
def yX5_init : MethodName := ⟨RX5, "<init>", "()V"⟩
abbrev cX5_part : ByteArray := prog_1_method_2_code
def yX5_part : MethodName := ⟨RX5, "part", "(III)I"⟩
abbrev cX5_player : ByteArray := prog_1_method_3_code
def yX5_player : MethodName := ⟨RX5, "player", "(III)I"⟩
abbrev cX5_scene : ByteArray := prog_1_method_4_code
def yX5_scene : MethodName := ⟨RX5, "scene", "(II)I"⟩
abbrev cX5_pause : ByteArray := prog_1_method_5_code
def yX5_pause : MethodName := ⟨RX5, "pause", "(II)I"⟩
abbrev cX5_sick : ByteArray := prog_1_method_6_code
def yX5_sick : MethodName := ⟨RX5, "sick", "(IZ)I"⟩
abbrev cX5_coat : ByteArray := prog_1_method_7_code
def yX5_coat : MethodName := ⟨RX5, "coat", "(III)I"⟩
abbrev cX5_pawn : ByteArray := prog_1_method_8_code
def yX5_pawn : MethodName := ⟨RX5, "pawn", "(II)I"⟩
abbrev cX5_redeem : ByteArray := prog_1_method_9_code
def yX5_redeem : MethodName := ⟨RX5, "redeem", "(II)I"⟩
abbrev cX5_town : ByteArray := prog_1_method_10_code
def yX5_town : MethodName := ⟨RX5, "town", "(III)I"⟩
abbrev cX5_night : ByteArray := prog_1_method_11_code
def yX5_night : MethodName := ⟨RX5, "night", "(I)I"⟩
abbrev cX5_ofPart : ByteArray := prog_1_method_13_code
def yX5_ofPart : MethodName := ⟨RX5, "ofPart", "(II)I"⟩
abbrev cX5_ofPlayer : ByteArray := prog_1_method_14_code
def yX5_ofPlayer : MethodName := ⟨RX5, "ofPlayer", "(II)I"⟩
abbrev cX5_ofScene : ByteArray := prog_1_method_15_code
def yX5_ofScene : MethodName := ⟨RX5, "ofScene", "(II)I"⟩
abbrev cX5_ofCoat : ByteArray := prog_1_method_16_code
def yX5_ofCoat : MethodName := ⟨RX5, "ofCoat", "(II)I"⟩
abbrev cX5_ofTown : ByteArray := prog_1_method_17_code
def yX5_ofTown : MethodName := ⟨RX5, "ofTown", "(II)I"⟩
abbrev cX5_house : ByteArray := prog_1_method_18_code
def yX5_house : MethodName := ⟨RX5, "house", "(I)I"⟩
abbrev cX5_cast : ByteArray := prog_1_method_19_code
def yX5_cast : MethodName := ⟨RX5, "cast", "()Ljava/lang/String;"⟩
abbrev cX5_tour : ByteArray := prog_1_method_20_code
def yX5_tour : MethodName := ⟨RX5, "tour", "(II)I"⟩
abbrev cX5_without : ByteArray := prog_1_method_22_code
def yX5_without : MethodName := ⟨RX5, "without", "(I)I"⟩
abbrev cX5_shareOf : ByteArray := prog_1_method_23_code
def yX5_shareOf : MethodName := ⟨RX5, "shareOf", "(II)I"⟩
abbrev cX5_isSound : ByteArray := prog_1_method_24_code
def yX5_isSound : MethodName := ⟨RX5, "isSound", "()Z"⟩
abbrev cX5_digest : ByteArray := prog_1_method_25_code
def yX5_digest : MethodName := ⟨RX5, "digest", "()J"⟩
abbrev cX5_needWithin : ByteArray := prog_1_method_26_code
def yX5_needWithin : MethodName := ⟨RX5, "needWithin", "(III)V"⟩
abbrev cX5_needSet : ByteArray := prog_1_method_27_code
def yX5_needSet : MethodName := ⟨RX5, "needSet", "(II)V"⟩
abbrev cX5_needIndex : ByteArray := prog_1_method_28_code
def yX5_needIndex : MethodName := ⟨RX5, "needIndex", "(II)V"⟩
abbrev cX5_needRoom : ByteArray := prog_1_method_29_code
def yX5_needRoom : MethodName := ⟨RX5, "needRoom", "(II)V"⟩
abbrev cX5_has : ByteArray := prog_1_method_30_code
def yX5_has : MethodName := ⟨RX5, "has", "(II)Z"⟩
abbrev cX5_bestCastClashes : ByteArray := prog_1_method_31_code
def yX5_bestCastClashes : MethodName := ⟨RX5, "bestCastClashes", "()Z"⟩
abbrev cX5_filled : ByteArray := prog_1_method_32_code
def yX5_filled : MethodName := ⟨RX5, "filled", "(I)I"⟩
abbrev cX5_withOneMore : ByteArray := prog_1_method_33_code
def yX5_withOneMore : MethodName := ⟨RX5, "withOneMore", "(II)I"⟩
abbrev cX5_lack : ByteArray := prog_1_method_34_code
def yX5_lack : MethodName := ⟨RX5, "lack", "(I)I"⟩
abbrev cX5_excess : ByteArray := prog_1_method_35_code
def yX5_excess : MethodName := ⟨RX5, "excess", "(I)I"⟩
abbrev cX5_leastWaste : ByteArray := prog_1_method_36_code
def yX5_leastWaste : MethodName := ⟨RX5, "leastWaste", "(I)I"⟩
def RX6 : String := "DoublecoatModel$Coat"
def TX6 : u_T := fun k => match k with
  | _ => ("", "", "", false)
def tyX6 : Nat → FieldType := fun k => match k with
  | _ => .int
abbrev wsX60 : List Cond := u_ws RX6 TX6 0
theorem nmX6 : ∀ a, a < 0 → ∀ b, b < 0 → a ≠ b → (TX6 a).2.1 ≠ (TX6 b).2.1 := by decide +kernel
theorem tyX6_ok : ∀ k, k < 0 → parseFieldDescriptor (TX6 k).2.2.1 = some (tyX6 k) := by decide +kernel
def RX7 : String := "DoublecoatModel$Part"
def TX7 : u_T := fun k => match k with
  | _ => ("", "", "", false)
def tyX7 : Nat → FieldType := fun k => match k with
  | _ => .int
abbrev wsX70 : List Cond := u_ws RX7 TX7 0
theorem nmX7 : ∀ a, a < 0 → ∀ b, b < 0 → a ≠ b → (TX7 a).2.1 ≠ (TX7 b).2.1 := by decide +kernel
theorem tyX7_ok : ∀ k, k < 0 → parseFieldDescriptor (TX7 k).2.2.1 = some (tyX7 k) := by decide +kernel
def RX8 : String := "DoublecoatModel$Player"
def TX8 : u_T := fun k => match k with
  | _ => ("", "", "", false)
def tyX8 : Nat → FieldType := fun k => match k with
  | _ => .int
abbrev wsX80 : List Cond := u_ws RX8 TX8 0
theorem nmX8 : ∀ a, a < 0 → ∀ b, b < 0 → a ≠ b → (TX8 a).2.1 ≠ (TX8 b).2.1 := by decide +kernel
theorem tyX8_ok : ∀ k, k < 0 → parseFieldDescriptor (TX8 k).2.2.1 = some (tyX8 k) := by decide +kernel
def RX9 : String := "DoublecoatModel$Scene"
def TX9 : u_T := fun k => match k with
  | _ => ("", "", "", false)
def tyX9 : Nat → FieldType := fun k => match k with
  | _ => .int
abbrev wsX90 : List Cond := u_ws RX9 TX9 0
theorem nmX9 : ∀ a, a < 0 → ∀ b, b < 0 → a ≠ b → (TX9 a).2.1 ≠ (TX9 b).2.1 := by decide +kernel
theorem tyX9_ok : ∀ k, k < 0 → parseFieldDescriptor (TX9 k).2.2.1 = some (tyX9 k) := by decide +kernel
def RX10 : String := "DoublecoatModel$Town"
def TX10 : u_T := fun k => match k with
  | _ => ("", "", "", false)
def tyX10 : Nat → FieldType := fun k => match k with
  | _ => .int
abbrev wsX100 : List Cond := u_ws RX10 TX10 0
theorem nmX10 : ∀ a, a < 0 → ∀ b, b < 0 → a ≠ b → (TX10 a).2.1 ≠ (TX10 b).2.1 := by decide +kernel
theorem tyX10_ok : ∀ k, k < 0 → parseFieldDescriptor (TX10 k).2.2.1 = some (tyX10 k) := by decide +kernel
def RX11 : String := "DoublecoatModel"
def TX11 : u_T := fun k => match k with
  | _ => ("", "", "", false)
def tyX11 : Nat → FieldType := fun k => match k with
  | _ => .int
abbrev wsX110 : List Cond := u_ws RX11 TX11 0
theorem nmX11 : ∀ a, a < 0 → ∀ b, b < 0 → a ≠ b → (TX11 a).2.1 ≠ (TX11 b).2.1 := by decide +kernel
theorem tyX11_ok : ∀ k, k < 0 → parseFieldDescriptor (TX11 k).2.2.1 = some (tyX11 k) := by decide +kernel
def RJx145de : String := "java/io/Serializable"
def TJx145de : u_T := fun k => match k with
  | _ => ("", "", "", false)
def tyJx145de : Nat → FieldType := fun k => match k with
  | _ => .int
abbrev wsJx145de0 : List Cond := u_ws RJx145de TJx145de 0
theorem nmJx145de : ∀ a, a < 0 → ∀ b, b < 0 → a ≠ b → (TJx145de a).2.1 ≠ (TJx145de b).2.1 := by decide +kernel
theorem tyJx145de_ok : ∀ k, k < 0 → parseFieldDescriptor (TJx145de k).2.2.1 = some (tyJx145de k) := by decide +kernel
def RJ5 : String := "java/lang/AbstractStringBuilder"
def TJ5 : u_T := fun k => match k with
  | _ => ("", "", "", false)
def tyJ5 : Nat → FieldType := fun k => match k with
  | _ => .int
abbrev wsJ50 : List Cond := u_ws RJ5 TJ5 0
theorem nmJ5 : ∀ a, a < 0 → ∀ b, b < 0 → a ≠ b → (TJ5 a).2.1 ≠ (TJ5 b).2.1 := by decide +kernel
theorem tyJ5_ok : ∀ k, k < 0 → parseFieldDescriptor (TJ5 k).2.2.1 = some (tyJ5 k) := by decide +kernel
abbrev cJ5_init_d00df : ByteArray := prog_14_method_2_code
def yJ5_init_d00df : MethodName := ⟨RJ5, "<init>", "(I)V"⟩
abbrev cJ5_length_8abf5 : ByteArray := prog_14_method_6_code
def yJ5_length_8abf5 : MethodName := ⟨RJ5, "length", "()I"⟩
abbrev cJ5_ensureCapacityInternal_d00df : ByteArray := prog_14_method_9_code
def yJ5_ensureCapacityInternal_d00df : MethodName := ⟨RJ5, "ensureCapacityInternal", "(I)V"⟩
abbrev cJ5_newCapacity_0f7a4 : ByteArray := prog_14_method_10_code
def yJ5_newCapacity_0f7a4 : MethodName := ⟨RJ5, "newCapacity", "(I)I"⟩
abbrev cJ5_inflate_da8c8 : ByteArray := prog_14_method_11_code
def yJ5_inflate_da8c8 : MethodName := ⟨RJ5, "inflate", "()V"⟩
abbrev cJ5_append_3fe6f : ByteArray := prog_14_method_31_code
def yJ5_append_3fe6f : MethodName := ⟨RJ5, "append", "(C)Ljava/lang/AbstractStringBuilder;"⟩
abbrev cJ5_getValue_6d5f1 : ByteArray := prog_14_method_64_code
def yJ5_getValue_6d5f1 : MethodName := ⟨RJ5, "getValue", "()[B"⟩
abbrev cJ5_isLatin1_aae02 : ByteArray := prog_14_method_68_code
def yJ5_isLatin1_aae02 : MethodName := ⟨RJ5, "isLatin1", "()Z"⟩
def RJx2cfe8 : String := "java/lang/Appendable"
def TJx2cfe8 : u_T := fun k => match k with
  | _ => ("", "", "", false)
def tyJx2cfe8 : Nat → FieldType := fun k => match k with
  | _ => .int
abbrev wsJx2cfe80 : List Cond := u_ws RJx2cfe8 TJx2cfe8 0
theorem nmJx2cfe8 : ∀ a, a < 0 → ∀ b, b < 0 → a ≠ b → (TJx2cfe8 a).2.1 ≠ (TJx2cfe8 b).2.1 := by decide +kernel
theorem tyJx2cfe8_ok : ∀ k, k < 0 → parseFieldDescriptor (TJx2cfe8 k).2.2.1 = some (tyJx2cfe8 k) := by decide +kernel
def RJx9f9b0 : String := "java/lang/CharSequence"
def TJx9f9b0 : u_T := fun k => match k with
  | _ => ("", "", "", false)
def tyJx9f9b0 : Nat → FieldType := fun k => match k with
  | _ => .int
abbrev wsJx9f9b00 : List Cond := u_ws RJx9f9b0 TJx9f9b0 0
theorem nmJx9f9b0 : ∀ a, a < 0 → ∀ b, b < 0 → a ≠ b → (TJx9f9b0 a).2.1 ≠ (TJx9f9b0 b).2.1 := by decide +kernel
theorem tyJx9f9b0_ok : ∀ k, k < 0 → parseFieldDescriptor (TJx9f9b0 k).2.2.1 = some (tyJx9f9b0 k) := by decide +kernel
def RJx8e188 : String := "java/lang/Cloneable"
def TJx8e188 : u_T := fun k => match k with
  | _ => ("", "", "", false)
def tyJx8e188 : Nat → FieldType := fun k => match k with
  | _ => .int
abbrev wsJx8e1880 : List Cond := u_ws RJx8e188 TJx8e188 0
theorem nmJx8e188 : ∀ a, a < 0 → ∀ b, b < 0 → a ≠ b → (TJx8e188 a).2.1 ≠ (TJx8e188 b).2.1 := by decide +kernel
theorem tyJx8e188_ok : ∀ k, k < 0 → parseFieldDescriptor (TJx8e188 k).2.2.1 = some (tyJx8e188 k) := by decide +kernel
def RJxb160c : String := "java/lang/Comparable"
def TJxb160c : u_T := fun k => match k with
  | _ => ("", "", "", false)
def tyJxb160c : Nat → FieldType := fun k => match k with
  | _ => .int
abbrev wsJxb160c0 : List Cond := u_ws RJxb160c TJxb160c 0
theorem nmJxb160c : ∀ a, a < 0 → ∀ b, b < 0 → a ≠ b → (TJxb160c a).2.1 ≠ (TJxb160c b).2.1 := by decide +kernel
theorem tyJxb160c_ok : ∀ k, k < 0 → parseFieldDescriptor (TJxb160c k).2.2.1 = some (tyJxb160c k) := by decide +kernel
def RJ6 : String := "java/lang/Integer"
def TJ6 : u_T := fun k => match k with
  | _ => ("", "", "", false)
def tyJ6 : Nat → FieldType := fun k => match k with
  | _ => .int
abbrev wsJ60 : List Cond := u_ws RJ6 TJ6 0
theorem nmJ6 : ∀ a, a < 0 → ∀ b, b < 0 → a ≠ b → (TJ6 a).2.1 ≠ (TJ6 b).2.1 := by decide +kernel
theorem tyJ6_ok : ∀ k, k < 0 → parseFieldDescriptor (TJ6 k).2.2.1 = some (tyJ6 k) := by decide +kernel
abbrev cJ6_numberOfTrailingZeros_0f7a4 : ByteArray := prog_20_method_48_code
def yJ6_numberOfTrailingZeros_0f7a4 : MethodName := ⟨RJ6, "numberOfTrailingZeros", "(I)I"⟩
abbrev cJ6_bitCount_0f7a4 : ByteArray := prog_20_method_49_code
def yJ6_bitCount_0f7a4 : MethodName := ⟨RJ6, "bitCount", "(I)I"⟩
def RJ9 : String := "java/lang/Math"
def TJ9 : u_T := fun k => match k with
  | _ => ("", "", "", false)
def tyJ9 : Nat → FieldType := fun k => match k with
  | _ => .int
abbrev wsJ90 : List Cond := u_ws RJ9 TJ9 0
theorem nmJ9 : ∀ a, a < 0 → ∀ b, b < 0 → a ≠ b → (TJ9 a).2.1 ≠ (TJ9 b).2.1 := by decide +kernel
theorem tyJ9_ok : ∀ k, k < 0 → parseFieldDescriptor (TJ9 k).2.2.1 = some (tyJ9 k) := by decide +kernel
abbrev cJ9_abs_0f7a4 : ByteArray := prog_21_method_59_code
def yJ9_abs_0f7a4 : MethodName := ⟨RJ9, "abs", "(I)I"⟩
abbrev cJ9_max_7cf53 : ByteArray := prog_21_method_65_code
def yJ9_max_7cf53 : MethodName := ⟨RJ9, "max", "(II)I"⟩
abbrev cJ9_min_7cf53 : ByteArray := prog_21_method_69_code
def yJ9_min_7cf53 : MethodName := ⟨RJ9, "min", "(II)I"⟩
def RJ0 : String := "java/lang/String"
def TJ0 : u_T := fun k => match k with
  | 0 => ("java/lang/String", "value", "[B", true)
  | 1 => ("java/lang/String", "coder", "B", true)
  | 2 => ("java/lang/String", "hash", "I", false)
  | _ => ("java/lang/String", "hashIsZero", "Z", false)
def tyJ0 : Nat → FieldType := fun k => match k with
  | 0 => .array .byte
  | 1 => .byte
  | 2 => .int
  | _ => .boolean
abbrev wsJ00 : List Cond := u_ws RJ0 TJ0 4
theorem nmJ0 : ∀ a, a < 4 → ∀ b, b < 4 → a ≠ b → (TJ0 a).2.1 ≠ (TJ0 b).2.1 := by decide +kernel
theorem tyJ0_ok : ∀ k, k < 4 → parseFieldDescriptor (TJ0 k).2.2.1 = some (tyJ0 k) := by decide +kernel
abbrev cJ0_init_81219 : ByteArray := prog_23_method_53_code
def yJ0_init_81219 : MethodName := ⟨RJ0, "<init>", "(Ljava/lang/StringBuilder;)V"⟩
abbrev cJ0_length_8abf5 : ByteArray := prog_23_method_54_code
def yJ0_length_8abf5 : MethodName := ⟨RJ0, "length", "()I"⟩
abbrev cJ0_init_db425 : ByteArray := prog_23_method_150_code
def yJ0_init_db425 : MethodName := ⟨RJ0, "<init>", "(Ljava/lang/AbstractStringBuilder;Ljava/lang/Void;)V"⟩
abbrev cJ0_coder_7d493 : ByteArray := prog_23_method_152_code
def yJ0_coder_7d493 : MethodName := ⟨RJ0, "coder", "()B"⟩
abbrev cJ0_checkIndex_df160 : ByteArray := prog_23_method_155_code
def yJ0_checkIndex_df160 : MethodName := ⟨RJ0, "checkIndex", "(II)V"⟩
abbrev cJ0_checkBoundsOffCount_cabcc : ByteArray := prog_23_method_157_code
def yJ0_checkBoundsOffCount_cabcc : MethodName := ⟨RJ0, "checkBoundsOffCount", "(III)I"⟩
def RJ4 : String := "java/lang/StringBuilder"
def TJ4 : u_T := fun k => match k with
  | 0 => ("java/lang/AbstractStringBuilder", "value", "[B", false)
  | 1 => ("java/lang/AbstractStringBuilder", "coder", "B", false)
  | 2 => ("java/lang/AbstractStringBuilder", "maybeLatin1", "Z", false)
  | _ => ("java/lang/AbstractStringBuilder", "count", "I", false)
def tyJ4 : Nat → FieldType := fun k => match k with
  | 0 => .array .byte
  | 1 => .byte
  | 2 => .boolean
  | _ => .int
abbrev wsJ40 : List Cond := u_ws RJ4 TJ4 4
theorem nmJ4 : ∀ a, a < 4 → ∀ b, b < 4 → a ≠ b → (TJ4 a).2.1 ≠ (TJ4 b).2.1 := by decide +kernel
theorem tyJ4_ok : ∀ k, k < 4 → parseFieldDescriptor (TJ4 k).2.2.1 = some (tyJ4 k) := by decide +kernel
abbrev cJ4_init_da8c8 : ByteArray := prog_24_method_1_code
def yJ4_init_da8c8 : MethodName := ⟨RJ4, "<init>", "()V"⟩
abbrev cJ4_append_cf468 : ByteArray := prog_24_method_14_code
def yJ4_append_cf468 : MethodName := ⟨RJ4, "append", "(C)Ljava/lang/StringBuilder;"⟩
abbrev cJ4_toString_0e30d : ByteArray := prog_24_method_42_code
def yJ4_toString_0e30d : MethodName := ⟨RJ4, "toString", "()Ljava/lang/String;"⟩
abbrev cJ4_length_8abf5 : ByteArray := prog_24_method_93_code
def yJ4_length_8abf5 : MethodName := ⟨RJ4, "length", "()I"⟩
def RJ1 : String := "java/lang/StringLatin1"
def TJ1 : u_T := fun k => match k with
  | _ => ("", "", "", false)
def tyJ1 : Nat → FieldType := fun k => match k with
  | _ => .int
abbrev wsJ10 : List Cond := u_ws RJ1 TJ1 0
theorem nmJ1 : ∀ a, a < 0 → ∀ b, b < 0 → a ≠ b → (TJ1 a).2.1 ≠ (TJ1 b).2.1 := by decide +kernel
theorem tyJ1_ok : ∀ k, k < 0 → parseFieldDescriptor (TJ1 k).2.2.1 = some (tyJ1 k) := by decide +kernel
abbrev cJ1_canEncode_fc78d : ByteArray := prog_25_method_3_code
def yJ1_canEncode_fc78d : MethodName := ⟨RJ1, "canEncode", "(C)Z"⟩
abbrev cJ1_inflate_0e8fd : ByteArray := prog_25_method_50_code
def yJ1_inflate_0e8fd : MethodName := ⟨RJ1, "inflate", "([BI[BII)V"⟩
def RJ2 : String := "java/lang/StringUTF16"
def TJ2 : u_T := fun k => match k with
  | _ => ("", "", "", false)
def tyJ2 : Nat → FieldType := fun k => match k with
  | _ => .int
abbrev wsJ20 : List Cond := u_ws RJ2 TJ2 0
theorem nmJ2 : ∀ a, a < 0 → ∀ b, b < 0 → a ≠ b → (TJ2 a).2.1 ≠ (TJ2 b).2.1 := by decide +kernel
theorem tyJ2_ok : ∀ k, k < 0 → parseFieldDescriptor (TJ2 k).2.2.1 = some (tyJ2 k) := by decide +kernel
abbrev cJ2_newBytesFor_77867 : ByteArray := prog_26_method_2_code
def yJ2_newBytesFor_77867 : MethodName := ⟨RJ2, "newBytesFor", "(I)[B"⟩
abbrev cJ2_newBytesLength_0f7a4 : ByteArray := prog_26_method_3_code
def yJ2_newBytesLength_0f7a4 : MethodName := ⟨RJ2, "newBytesLength", "(I)I"⟩
abbrev cJ2_putChar_b72d1 : ByteArray := prog_26_method_4_code
def yJ2_putChar_b72d1 : MethodName := ⟨RJ2, "putChar", "([BII)V"⟩
abbrev cJ2_getChar_3b067 : ByteArray := prog_26_method_5_code
def yJ2_getChar_3b067 : MethodName := ⟨RJ2, "getChar", "([BI)C"⟩
abbrev cJ2_length_9d52b : ByteArray := prog_26_method_6_code
def yJ2_length_9d52b : MethodName := ⟨RJ2, "length", "([B)I"⟩
abbrev cJ2_coderFromArrayLen_85cad : ByteArray := prog_26_method_15_code
def yJ2_coderFromArrayLen_85cad : MethodName := ⟨RJ2, "coderFromArrayLen", "([BI)B"⟩
abbrev cJ2_compress_39247 : ByteArray := prog_26_method_17_code
def yJ2_compress_39247 : MethodName := ⟨RJ2, "compress", "([BII)[B"⟩
abbrev cJ2_compress_5af95 : ByteArray := prog_26_method_22_code
def yJ2_compress_5af95 : MethodName := ⟨RJ2, "compress", "([BI[BII)I"⟩
abbrev cJ2_putCharSB_b72d1 : ByteArray := prog_26_method_71_code
def yJ2_putCharSB_b72d1 : MethodName := ⟨RJ2, "putCharSB", "([BII)V"⟩
abbrev cJ2_inflate_0e8fd : ByteArray := prog_26_method_86_code
def yJ2_inflate_0e8fd : MethodName := ⟨RJ2, "inflate", "([BI[BII)V"⟩
abbrev cJ2_checkIndex_2214a : ByteArray := prog_26_method_91_code
def yJ2_checkIndex_2214a : MethodName := ⟨RJ2, "checkIndex", "(I[B)V"⟩
abbrev cJ2_checkBoundsOffCount_d044e : ByteArray := prog_26_method_94_code
def yJ2_checkBoundsOffCount_d044e : MethodName := ⟨RJ2, "checkBoundsOffCount", "(II[B)V"⟩
def RJ10 : String := "java/lang/System"
def TJ10 : u_T := fun k => match k with
  | _ => ("", "", "", false)
def tyJ10 : Nat → FieldType := fun k => match k with
  | _ => .int
abbrev wsJ100 : List Cond := u_ws RJ10 TJ10 0
theorem nmJ10 : ∀ a, a < 0 → ∀ b, b < 0 → a ≠ b → (TJ10 a).2.1 ≠ (TJ10 b).2.1 := by decide +kernel
theorem tyJ10_ok : ∀ k, k < 0 → parseFieldDescriptor (TJ10 k).2.2.1 = some (tyJ10 k) := by decide +kernel
def RJxfd54e : String := "java/lang/constant/Constable"
def TJxfd54e : u_T := fun k => match k with
  | _ => ("", "", "", false)
def tyJxfd54e : Nat → FieldType := fun k => match k with
  | _ => .int
abbrev wsJxfd54e0 : List Cond := u_ws RJxfd54e TJxfd54e 0
theorem nmJxfd54e : ∀ a, a < 0 → ∀ b, b < 0 → a ≠ b → (TJxfd54e a).2.1 ≠ (TJxfd54e b).2.1 := by decide +kernel
theorem tyJxfd54e_ok : ∀ k, k < 0 → parseFieldDescriptor (TJxfd54e k).2.2.1 = some (tyJxfd54e k) := by decide +kernel
def RJx3cf43 : String := "java/lang/constant/ConstantDesc"
def TJx3cf43 : u_T := fun k => match k with
  | _ => ("", "", "", false)
def tyJx3cf43 : Nat → FieldType := fun k => match k with
  | _ => .int
abbrev wsJx3cf430 : List Cond := u_ws RJx3cf43 TJx3cf43 0
theorem nmJx3cf43 : ∀ a, a < 0 → ∀ b, b < 0 → a ≠ b → (TJx3cf43 a).2.1 ≠ (TJx3cf43 b).2.1 := by decide +kernel
theorem tyJx3cf43_ok : ∀ k, k < 0 → parseFieldDescriptor (TJx3cf43 k).2.2.1 = some (tyJx3cf43 k) := by decide +kernel
def RJ7 : String := "java/util/Arrays"
def TJ7 : u_T := fun k => match k with
  | _ => ("", "", "", false)
def tyJ7 : Nat → FieldType := fun k => match k with
  | _ => .int
abbrev wsJ70 : List Cond := u_ws RJ7 TJ7 0
theorem nmJ7 : ∀ a, a < 0 → ∀ b, b < 0 → a ≠ b → (TJ7 a).2.1 ≠ (TJ7 b).2.1 := by decide +kernel
theorem tyJ7_ok : ∀ k, k < 0 → parseFieldDescriptor (TJ7 k).2.2.1 = some (tyJ7 k) := by decide +kernel
abbrev cJ7_copyOf_9075b : ByteArray := prog_29_method_121_code
def yJ7_copyOf_9075b : MethodName := ⟨RJ7, "copyOf", "([BI)[B"⟩
abbrev cJ7_checkLength_df160 : ByteArray := prog_29_method_131_code
def yJ7_checkLength_df160 : MethodName := ⟨RJ7, "checkLength", "(II)V"⟩
abbrev cJ7_copyOfRange_39247 : ByteArray := prog_29_method_132_code
def yJ7_copyOfRange_39247 : MethodName := ⟨RJ7, "copyOfRange", "([BII)[B"⟩
abbrev cJ7_copyOfRangeByte_39247 : ByteArray := prog_29_method_133_code
def yJ7_copyOfRangeByte_39247 : MethodName := ⟨RJ7, "copyOfRangeByte", "([BII)[B"⟩
def RJ8 : String := "jdk/internal/util/ArraysSupport"
def TJ8 : u_T := fun k => match k with
  | _ => ("", "", "", false)
def tyJ8 : Nat → FieldType := fun k => match k with
  | _ => .int
abbrev wsJ80 : List Cond := u_ws RJ8 TJ8 0
theorem nmJ8 : ∀ a, a < 0 → ∀ b, b < 0 → a ≠ b → (TJ8 a).2.1 ≠ (TJ8 b).2.1 := by decide +kernel
theorem tyJ8_ok : ∀ k, k < 0 → parseFieldDescriptor (TJ8 k).2.2.1 = some (tyJ8 k) := by decide +kernel
abbrev cJ8_newLength_cabcc : ByteArray := prog_30_method_27_code
def yJ8_newLength_cabcc : MethodName := ⟨RJ8, "newLength", "(III)I"⟩
abbrev cJ8_hugeLength_7cf53 : ByteArray := prog_30_method_28_code
def yJ8_hugeLength_7cf53 : MethodName := ⟨RJ8, "hugeLength", "(II)I"⟩
def RJ3 : String := "jdk/internal/util/Preconditions"
def TJ3 : u_T := fun k => match k with
  | _ => ("", "", "", false)
def tyJ3 : Nat → FieldType := fun k => match k with
  | _ => .int
abbrev wsJ30 : List Cond := u_ws RJ3 TJ3 0
theorem nmJ3 : ∀ a, a < 0 → ∀ b, b < 0 → a ≠ b → (TJ3 a).2.1 ≠ (TJ3 b).2.1 := by decide +kernel
theorem tyJ3_ok : ∀ k, k < 0 → parseFieldDescriptor (TJ3 k).2.2.1 = some (tyJ3 k) := by decide +kernel
abbrev cJ3_checkIndex_8e157 : ByteArray := prog_31_method_11_code
def yJ3_checkIndex_8e157 : MethodName := ⟨RJ3, "checkIndex", "(IILjava/util/function/BiFunction;)I"⟩
abbrev cJ3_checkFromIndexSize_8c36e : ByteArray := prog_31_method_13_code
def yJ3_checkFromIndexSize_8c36e : MethodName := ⟨RJ3, "checkFromIndexSize", "(IIILjava/util/function/BiFunction;)I"⟩
def RL : String := "DoublecoatLaw"
abbrev cL_below : ByteArray := method_2_code
def yL_below : MethodName := ⟨RL, "below", "(II)I"⟩
abbrev cL_cell : ByteArray := method_3_code
def yL_cell : MethodName := ⟨RL, "cell", "([II)I"⟩
abbrev cL_company : ByteArray := method_4_code
def yL_company : MethodName := ⟨RL, "company", "([I)LDoublecoat;"⟩
abbrev cL_isDone : ByteArray := method_5_code
def yL_isDone : MethodName := ⟨RL, "isDone", "(LDoublecoat;I)Z"⟩
abbrev cL_law : ByteArray := code
def yL_law : MethodName := ⟨RL, "law", "([I)Z"⟩
abbrev cL_isFilled : ByteArray := method_7_code
def yL_isFilled : MethodName := ⟨RL, "isFilled", "(LDoublecoat;I)Z"⟩
abbrev cL_excess : ByteArray := method_8_code
def yL_excess : MethodName := ⟨RL, "excess", "(LDoublecoat;I)I"⟩
abbrev vwCl : List vw_C := [(RJ0, TJ0, 4), (RJ4, TJ4, 4), (RX0, TX0, 9), (RX1, TX1, 6), (RX2, TX2, 7), (RX3, TX3, 6), (RX4, TX4, 7), (RX5, TX5, 9)]
