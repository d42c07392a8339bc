/-! ===== BEGIN words of one list among another's, by their places ===== -/
theorem goodIn_r {big : List Cond} (ws : List Cond) (ps : List Nat) (hp : ws = ps.filterMap (fun i => big[i]?)) (h : ws.all goodWord = true) : GoodIn big ws := by
  intro w hw
  have h1 := List.all_eq_true.mp h w hw
  rw [hp] at hw
  obtain ⟨i, -, hi⟩ := List.mem_filterMap.mp hw
  have hm : w ∈ big := by first | exact List.mem_of_getElem? hi | exact List.getElem?_mem hi
  exact ⟨hm, good_of_word h1⟩
theorem goodIn_app {big a b : List Cond} (ha : GoodIn big a) (hb : GoodIn big b) : GoodIn big (a ++ b) := fun w h => (List.mem_append.mp h).elim (ha w) (hb w)
theorem goodIn_ca {big a b : List Cond} {c : Cond} (ha : GoodIn big (c :: a)) (hb : GoodIn big b) : GoodIn big (c :: (a ++ b)) := fun w h => (List.mem_cons.mp h).elim (fun e => ha w (List.mem_cons.mpr (Or.inl e))) (fun h => (List.mem_append.mp h).elim (fun h => ha w (List.mem_cons.mpr (Or.inr h))) (hb w))
theorem goodIn_sub {big ws : List Cond} (hm : ∀ w ∈ ws, w ∈ big) (h : ws.all goodWord = true) : GoodIn big ws := fun w hw => ⟨hm w hw, good_of_word (List.all_eq_true.mp h w hw)⟩

/-! ===== END ===== -/
/-! ===== BEGIN printed: names, fields, word lists, decode rows ===== -/
def RX0 : String := "CostumeStock$Cast"
def TX0 : u_T := fun k => match k with
  | 0 => ("CostumeStock$Cast", "size", "I", false)
  | 1 => ("CostumeStock$Cast", "measures", "[I", true)
  | _ => ("CostumeStock$Cast", "worn", "[I", true)
def tyX0 : Nat → FieldType := fun k => match k with
  | 0 => .int
  | 1 => .array .int
  | _ => .array .int
abbrev wsX00 : List Cond := u_ws RX0 TX0 3
theorem nmX0 : ∀ a, a < 3 → ∀ b, b < 3 → a ≠ b → (TX0 a).2.1 ≠ (TX0 b).2.1 := by decide +kernel
theorem tyX0_ok : ∀ k, k < 3 → parseFieldDescriptor (TX0 k).2.2.1 = some (tyX0 k) := by decide +kernel
abbrev cX0_init : ByteArray := prog_2_method_1_code
def yX0_init : MethodName := ⟨RX0, "<init>", "()V"⟩
abbrev cX0_copyFrom : ByteArray := prog_2_method_2_code
def yX0_copyFrom : MethodName := ⟨RX0, "copyFrom", "(LCostumeStock$Cast;)V"⟩
abbrev cX0_has : ByteArray := prog_2_method_3_code
def yX0_has : MethodName := ⟨RX0, "has", "(I)Z"⟩
abbrev cX0_add : ByteArray := prog_2_method_4_code
def yX0_add : MethodName := ⟨RX0, "add", "(III)I"⟩
abbrev cX0_measureOf : ByteArray := prog_2_method_5_code
def yX0_measureOf : MethodName := ⟨RX0, "measureOf", "(II)I"⟩
abbrev cX0_wornIn : ByteArray := prog_2_method_6_code
def yX0_wornIn : MethodName := ⟨RX0, "wornIn", "(II)I"⟩
abbrev cX0_dress : ByteArray := prog_2_method_7_code
def yX0_dress : MethodName := ⟨RX0, "dress", "(III)I"⟩
abbrev cX0_wearers : ByteArray := prog_2_method_8_code
def yX0_wearers : MethodName := ⟨RX0, "wearers", "(II)I"⟩
abbrev cX0_isWornByAnother : ByteArray := prog_2_method_9_code
def yX0_isWornByAnother : MethodName := ⟨RX0, "isWornByAnother", "(III)Z"⟩
abbrev cX0_scenesOf : ByteArray := prog_2_method_10_code
def yX0_scenesOf : MethodName := ⟨RX0, "scenesOf", "(I)I"⟩
abbrev cX0_isHandedOver : ByteArray := prog_2_method_11_code
def yX0_isHandedOver : MethodName := ⟨RX0, "isHandedOver", "(II)Z"⟩
abbrev cX0_quickChanges : ByteArray := prog_2_method_12_code
def yX0_quickChanges : MethodName := ⟨RX0, "quickChanges", "()I"⟩
def RX1 : String := "CostumeStock$Hires"
def TX1 : u_T := fun k => match k with
  | 0 => ("CostumeStock$Hires", "size", "I", false)
  | 1 => ("CostumeStock$Hires", "costume", "[I", true)
  | 2 => ("CostumeStock$Hires", "first", "[I", true)
  | 3 => ("CostumeStock$Hires", "days", "[I", true)
  | 4 => ("CostumeStock$Hires", "rate", "[I", true)
  | _ => ("CostumeStock$Hires", "fee", "[I", true)
def tyX1 : Nat → FieldType := fun k => match k with
  | 0 => .int
  | 1 => .array .int
  | 2 => .array .int
  | 3 => .array .int
  | 4 => .array .int
  | _ => .array .int
abbrev wsX10 : List Cond := u_ws RX1 TX1 6
theorem nmX1 : ∀ a, a < 6 → ∀ b, b < 6 → a ≠ b → (TX1 a).2.1 ≠ (TX1 b).2.1 := by decide +kernel
theorem tyX1_ok : ∀ k, k < 6 → parseFieldDescriptor (TX1 k).2.2.1 = some (tyX1 k) := by decide +kernel
abbrev cX1_init : ByteArray := prog_3_method_1_code
def yX1_init : MethodName := ⟨RX1, "<init>", "()V"⟩
abbrev cX1_copyFrom : ByteArray := prog_3_method_2_code
def yX1_copyFrom : MethodName := ⟨RX1, "copyFrom", "(LCostumeStock$Hires;)V"⟩
abbrev cX1_has : ByteArray := prog_3_method_3_code
def yX1_has : MethodName := ⟨RX1, "has", "(I)Z"⟩
abbrev cX1_feeFor : ByteArray := prog_3_method_4_code
def yX1_feeFor : MethodName := ⟨RX1, "feeFor", "(II)I"⟩
abbrev cX1_add : ByteArray := prog_3_method_5_code
def yX1_add : MethodName := ⟨RX1, "add", "(IIII)I"⟩
abbrev cX1_dayAfter : ByteArray := prog_3_method_6_code
def yX1_dayAfter : MethodName := ⟨RX1, "dayAfter", "(I)I"⟩
abbrev cX1_overlapping : ByteArray := prog_3_method_7_code
def yX1_overlapping : MethodName := ⟨RX1, "overlapping", "(III)I"⟩
abbrev cX1_hiresOf : ByteArray := prog_3_method_8_code
def yX1_hiresOf : MethodName := ⟨RX1, "hiresOf", "(I)I"⟩
abbrev cX1_canEnd : ByteArray := prog_3_method_9_code
def yX1_canEnd : MethodName := ⟨RX1, "canEnd", "(II)Z"⟩
abbrev cX1_end : ByteArray := prog_3_method_10_code
def yX1_end : MethodName := ⟨RX1, "end", "(II)I"⟩
abbrev cX1_firstFree : ByteArray := prog_3_method_11_code
def yX1_firstFree : MethodName := ⟨RX1, "firstFree", "(III)I"⟩
def RX2 : String := "CostumeStock$History"
def TX2 : u_T := fun k => match k with
  | 0 => ("CostumeStock$History", "size", "I", false)
  | 1 => ("CostumeStock$History", "next", "I", false)
  | _ => ("CostumeStock$History", "states", "[LCostumeStock$State;", true)
def tyX2 : Nat → FieldType := fun k => match k with
  | 0 => .int
  | 1 => .int
  | _ => .array (.object "CostumeStock$State")
abbrev wsX20 : List Cond := u_ws RX2 TX2 3
theorem nmX2 : ∀ a, a < 3 → ∀ b, b < 3 → a ≠ b → (TX2 a).2.1 ≠ (TX2 b).2.1 := by decide +kernel
theorem tyX2_ok : ∀ k, k < 3 → parseFieldDescriptor (TX2 k).2.2.1 = some (tyX2 k) := by decide +kernel
abbrev cX2_init : ByteArray := prog_4_method_1_code
def yX2_init : MethodName := ⟨RX2, "<init>", "()V"⟩
abbrev cX2_remember : ByteArray := prog_4_method_2_code
def yX2_remember : MethodName := ⟨RX2, "remember", "(LCostumeStock$State;)V"⟩
abbrev cX2_restore : ByteArray := prog_4_method_3_code
def yX2_restore : MethodName := ⟨RX2, "restore", "(LCostumeStock$State;)V"⟩
abbrev cX2_stateAt : ByteArray := prog_4_method_4_code
def yX2_stateAt : MethodName := ⟨RX2, "stateAt", "(I)LCostumeStock$State;"⟩
def RX3 : String := "CostumeStock$Reader"
def TX3 : u_T := fun k => match k with
  | 0 => ("CostumeStock$Reader", "items", "I", false)
  | 1 => ("CostumeStock$Reader", "start", "I", false)
  | 2 => ("CostumeStock$Reader", "end", "I", false)
  | 3 => ("CostumeStock$Reader", "token", "I", false)
  | 4 => ("CostumeStock$Reader", "costumesLeft", "I", false)
  | 5 => ("CostumeStock$Reader", "actorsLeft", "I", false)
  | 6 => ("CostumeStock$Reader", "text", "LCostumeStock$Text;", true)
  | _ => ("CostumeStock$Reader", "parts", "[I", true)
def tyX3 : Nat → FieldType := fun k => match k with
  | 0 => .int
  | 1 => .int
  | 2 => .int
  | 3 => .int
  | 4 => .int
  | 5 => .int
  | 6 => .object "CostumeStock$Text"
  | _ => .array .int
abbrev wsX30 : List Cond := u_ws RX3 TX3 8
theorem nmX3 : ∀ a, a < 8 → ∀ b, b < 8 → a ≠ b → (TX3 a).2.1 ≠ (TX3 b).2.1 := by decide +kernel
theorem tyX3_ok : ∀ k, k < 8 → parseFieldDescriptor (TX3 k).2.2.1 = some (tyX3 k) := by decide +kernel
abbrev cX3_init : ByteArray := prog_5_method_1_code
def yX3_init : MethodName := ⟨RX3, "<init>", "(LCostumeStock$Text;)V"⟩
abbrev cX3_part : ByteArray := prog_5_method_2_code
def yX3_part : MethodName := ⟨RX3, "part", "(II)I"⟩
abbrev cX3_keep : ByteArray := prog_5_method_3_code
def yX3_keep : MethodName := ⟨RX3, "keep", "(II)V"⟩
abbrev cX3_readAll : ByteArray := prog_5_method_4_code
def yX3_readAll : MethodName := ⟨RX3, "readAll", "(II)Z"⟩
abbrev cX3_readItem : ByteArray := prog_5_method_5_code
def yX3_readItem : MethodName := ⟨RX3, "readItem", "()Z"⟩
abbrev cX3_takePlace : ByteArray := prog_5_method_6_code
def yX3_takePlace : MethodName := ⟨RX3, "takePlace", "(Z)Z"⟩
abbrev cX3_readNumber : ByteArray := prog_5_method_7_code
def yX3_readNumber : MethodName := ⟨RX3, "readNumber", "(I)Z"⟩
abbrev cX3_isAllowed : ByteArray := prog_5_method_8_code
def yX3_isAllowed : MethodName := ⟨RX3, "isAllowed", "(II)Z"⟩
abbrev cX3_isWord : ByteArray := prog_5_method_9_code
def yX3_isWord : MethodName := ⟨RX3, "isWord", "(Ljava/lang/String;)Z"⟩
abbrev cX3_nextToken : ByteArray := prog_5_method_10_code
def yX3_nextToken : MethodName := ⟨RX3, "nextToken", "()V"⟩
abbrev cX3_kindAt : ByteArray := prog_5_method_11_code
def yX3_kindAt : MethodName := ⟨RX3, "kindAt", "(I)I"⟩
def RX4 : String := "CostumeStock$State"
def TX4 : u_T := fun k => match k with
  | 0 => ("CostumeStock$State", "wardrobe", "LCostumeStock$Wardrobe;", true)
  | 1 => ("CostumeStock$State", "cast", "LCostumeStock$Cast;", true)
  | 2 => ("CostumeStock$State", "hires", "LCostumeStock$Hires;", true)
  | 3 => ("CostumeStock$State", "settings", "[I", true)
  | 4 => ("CostumeStock$State", "today", "I", false)
  | 5 => ("CostumeStock$State", "minutes", "I", false)
  | 6 => ("CostumeStock$State", "fees", "I", false)
  | 7 => ("CostumeStock$State", "washing", "I", false)
  | _ => ("CostumeStock$State", "performances", "I", false)
def tyX4 : Nat → FieldType := fun k => match k with
  | 0 => .object "CostumeStock$Wardrobe"
  | 1 => .object "CostumeStock$Cast"
  | 2 => .object "CostumeStock$Hires"
  | 3 => .array .int
  | 4 => .int
  | 5 => .int
  | 6 => .int
  | 7 => .int
  | _ => .int
abbrev wsX40 : List Cond := u_ws RX4 TX4 9
theorem nmX4 : ∀ a, a < 9 → ∀ b, b < 9 → a ≠ b → (TX4 a).2.1 ≠ (TX4 b).2.1 := by decide +kernel
theorem tyX4_ok : ∀ k, k < 9 → parseFieldDescriptor (TX4 k).2.2.1 = some (tyX4 k) := by decide +kernel
abbrev cX4_init : ByteArray := prog_6_method_1_code
def yX4_init : MethodName := ⟨RX4, "<init>", "()V"⟩
abbrev cX4_become : ByteArray := prog_6_method_2_code
def yX4_become : MethodName := ⟨RX4, "become", "(LCostumeStock$State;)V"⟩
abbrev cX4_isAway : ByteArray := prog_6_method_3_code
def yX4_isAway : MethodName := ⟨RX4, "isAway", "(I)Z"⟩
abbrev cX4_awayToday : ByteArray := prog_6_method_4_code
def yX4_awayToday : MethodName := ⟨RX4, "awayToday", "()I"⟩
abbrev cX4_isTooDirty : ByteArray := prog_6_method_5_code
def yX4_isTooDirty : MethodName := ⟨RX4, "isTooDirty", "(I)Z"⟩
abbrev cX4_lackOf : ByteArray := prog_6_method_6_code
def yX4_lackOf : MethodName := ⟨RX4, "lackOf", "(III)I"⟩
abbrev cX4_misfitOf : ByteArray := prog_6_method_7_code
def yX4_misfitOf : MethodName := ⟨RX4, "misfitOf", "(II)I"⟩
abbrev cX4_leastChange : ByteArray := prog_6_method_8_code
def yX4_leastChange : MethodName := ⟨RX4, "leastChange", "(II)I"⟩
abbrev cX4_bestCostume : ByteArray := prog_6_method_9_code
def yX4_bestCostume : MethodName := ⟨RX4, "bestCostume", "(II)I"⟩
abbrev cX4_isFreeFor : ByteArray := prog_6_method_10_code
def yX4_isFreeFor : MethodName := ⟨RX4, "isFreeFor", "(III)Z"⟩
abbrev cX4_problemsOf : ByteArray := prog_6_method_11_code
def yX4_problemsOf : MethodName := ⟨RX4, "problemsOf", "(I)I"⟩
abbrev cX4_wornTwice : ByteArray := prog_6_method_12_code
def yX4_wornTwice : MethodName := ⟨RX4, "wornTwice", "()I"⟩
abbrev cX4_handedOver : ByteArray := prog_6_method_13_code
def yX4_handedOver : MethodName := ⟨RX4, "handedOver", "()I"⟩
abbrev cX4_wornAmiss : ByteArray := prog_6_method_14_code
def yX4_wornAmiss : MethodName := ⟨RX4, "wornAmiss", "(I)I"⟩
abbrev cX4_soilAll : ByteArray := prog_6_method_15_code
def yX4_soilAll : MethodName := ⟨RX4, "soilAll", "()V"⟩
abbrev cX4_allowsLoad : ByteArray := prog_6_method_16_code
def yX4_allowsLoad : MethodName := ⟨RX4, "allowsLoad", "(II)Z"⟩
abbrev cX4_dirtySet : ByteArray := prog_6_method_17_code
def yX4_dirtySet : MethodName := ⟨RX4, "dirtySet", "(II)I"⟩
def RX5 : String := "CostumeStock$Text"
def TX5 : u_T := fun k => match k with
  | 0 => ("CostumeStock$Text", "length", "I", false)
  | _ => ("CostumeStock$Text", "characters", "[I", true)
def tyX5 : Nat → FieldType := fun k => match k with
  | 0 => .int
  | _ => .array .int
abbrev wsX50 : List Cond := u_ws RX5 TX5 2
theorem nmX5 : ∀ a, a < 2 → ∀ b, b < 2 → a ≠ b → (TX5 a).2.1 ≠ (TX5 b).2.1 := by decide +kernel
theorem tyX5_ok : ∀ k, k < 2 → parseFieldDescriptor (TX5 k).2.2.1 = some (tyX5 k) := by decide +kernel
abbrev cX5_init : ByteArray := prog_7_method_1_code
def yX5_init : MethodName := ⟨RX5, "<init>", "()V"⟩
abbrev cX5_add : ByteArray := prog_7_method_2_code
def yX5_add : MethodName := ⟨RX5, "add", "(I)I"⟩
abbrev cX5_empty : ByteArray := prog_7_method_3_code
def yX5_empty : MethodName := ⟨RX5, "empty", "()I"⟩
def RX6 : String := "CostumeStock$Wardrobe"
def TX6 : u_T := fun k => match k with
  | 0 => ("CostumeStock$Wardrobe", "size", "I", false)
  | 1 => ("CostumeStock$Wardrobe", "original", "[I", true)
  | 2 => ("CostumeStock$Wardrobe", "allowance", "[I", true)
  | 3 => ("CostumeStock$Wardrobe", "code", "[I", true)
  | 4 => ("CostumeStock$Wardrobe", "color", "[I", true)
  | 5 => ("CostumeStock$Wardrobe", "dirt", "[I", true)
  | 6 => ("CostumeStock$Wardrobe", "alterations", "[I", true)
  | 7 => ("CostumeStock$Wardrobe", "alteredMeasure", "[I", true)
  | _ => ("CostumeStock$Wardrobe", "change", "[I", true)
def tyX6 : Nat → FieldType := fun k => match k with
  | 0 => .int
  | 1 => .array .int
  | 2 => .array .int
  | 3 => .array .int
  | 4 => .array .int
  | 5 => .array .int
  | 6 => .array .int
  | 7 => .array .int
  | _ => .array .int
abbrev wsX60 : List Cond := u_ws RX6 TX6 9
theorem nmX6 : ∀ a, a < 9 → ∀ b, b < 9 → a ≠ b → (TX6 a).2.1 ≠ (TX6 b).2.1 := by decide +kernel
theorem tyX6_ok : ∀ k, k < 9 → parseFieldDescriptor (TX6 k).2.2.1 = some (tyX6 k) := by decide +kernel
abbrev cX6_init : ByteArray := prog_8_method_1_code
def yX6_init : MethodName := ⟨RX6, "<init>", "()V"⟩
abbrev cX6_copyFrom : ByteArray := prog_8_method_2_code
def yX6_copyFrom : MethodName := ⟨RX6, "copyFrom", "(LCostumeStock$Wardrobe;)V"⟩
abbrev cX6_has : ByteArray := prog_8_method_3_code
def yX6_has : MethodName := ⟨RX6, "has", "(I)Z"⟩
abbrev cX6_add : ByteArray := prog_8_method_4_code
def yX6_add : MethodName := ⟨RX6, "add", "(IIIIII)I"⟩
abbrev cX6_originalOf : ByteArray := prog_8_method_5_code
def yX6_originalOf : MethodName := ⟨RX6, "originalOf", "(II)I"⟩
abbrev cX6_placeOf : ByteArray := prog_8_method_6_code
def yX6_placeOf : MethodName := ⟨RX6, "placeOf", "(II)I"⟩
abbrev cX6_present : ByteArray := prog_8_method_7_code
def yX6_present : MethodName := ⟨RX6, "present", "(II)I"⟩
abbrev cX6_allows : ByteArray := prog_8_method_8_code
def yX6_allows : MethodName := ⟨RX6, "allows", "(III)Z"⟩
abbrev cX6_roomForAlterations : ByteArray := prog_8_method_9_code
def yX6_roomForAlterations : MethodName := ⟨RX6, "roomForAlterations", "(I)I"⟩
abbrev cX6_addAlteration : ByteArray := prog_8_method_10_code
def yX6_addAlteration : MethodName := ⟨RX6, "addAlteration", "(III)V"⟩
abbrev cX6_removeAlteration : ByteArray := prog_8_method_11_code
def yX6_removeAlteration : MethodName := ⟨RX6, "removeAlteration", "(I)I"⟩
abbrev cX6_canBeWashed : ByteArray := prog_8_method_12_code
def yX6_canBeWashed : MethodName := ⟨RX6, "canBeWashed", "(II)Z"⟩
abbrev cX6_soil : ByteArray := prog_8_method_13_code
def yX6_soil : MethodName := ⟨RX6, "soil", "(II)V"⟩
abbrev cX6_clean : ByteArray := prog_8_method_14_code
def yX6_clean : MethodName := ⟨RX6, "clean", "(II)I"⟩
def RX7 : String := "CostumeStock"
def TX7 : u_T := fun k => match k with
  | 0 => ("CostumeStock", "state", "LCostumeStock$State;", true)
  | 1 => ("CostumeStock", "history", "LCostumeStock$History;", true)
  | 2 => ("CostumeStock", "text", "LCostumeStock$Text;", true)
  | _ => ("CostumeStock", "reader", "LCostumeStock$Reader;", true)
def tyX7 : Nat → FieldType := fun k => match k with
  | 0 => .object "CostumeStock$State"
  | 1 => .object "CostumeStock$History"
  | 2 => .object "CostumeStock$Text"
  | _ => .object "CostumeStock$Reader"
abbrev wsX70 : List Cond := u_ws RX7 TX7 4
theorem nmX7 : ∀ a, a < 4 → ∀ b, b < 4 → a ≠ b → (TX7 a).2.1 ≠ (TX7 b).2.1 := by decide +kernel
theorem tyX7_ok : ∀ k, k < 4 → parseFieldDescriptor (TX7 k).2.2.1 = some (tyX7 k) := by decide +kernel
abbrev cX7_init : ByteArray := prog_1_method_1_code
def yX7_init : MethodName := ⟨RX7, "<init>", "()V"⟩
abbrev cX7_addCostume : ByteArray := prog_1_method_2_code
def yX7_addCostume : MethodName := ⟨RX7, "addCostume", "(IIIII)I"⟩
abbrev cX7_setColor : ByteArray := prog_1_method_3_code
def yX7_setColor : MethodName := ⟨RX7, "setColor", "(II)I"⟩
abbrev cX7_addActor : ByteArray := prog_1_method_4_code
def yX7_addActor : MethodName := ⟨RX7, "addActor", "(III)I"⟩
abbrev cX7_set : ByteArray := prog_1_method_5_code
def yX7_set : MethodName := ⟨RX7, "set", "(II)I"⟩
abbrev cX7_alter : ByteArray := prog_1_method_6_code
def yX7_alter : MethodName := ⟨RX7, "alter", "(III)I"⟩
abbrev cX7_unpick : ByteArray := prog_1_method_7_code
def yX7_unpick : MethodName := ⟨RX7, "unpick", "(I)I"⟩
abbrev cX7_append : ByteArray := prog_1_method_8_code
def yX7_append : MethodName := ⟨RX7, "append", "(I)I"⟩
abbrev cX7_load : ByteArray := prog_1_method_10_code
def yX7_load : MethodName := ⟨RX7, "load", "()I"⟩
abbrev cX7_addItem : ByteArray := prog_1_method_11_code
def yX7_addItem : MethodName := ⟨RX7, "addItem", "(I)V"⟩
abbrev cX7_wear : ByteArray := prog_1_method_12_code
def yX7_wear : MethodName := ⟨RX7, "wear", "(III)I"⟩
abbrev cX7_perform : ByteArray := prog_1_method_13_code
def yX7_perform : MethodName := ⟨RX7, "perform", "()I"⟩
abbrev cX7_pass : ByteArray := prog_1_method_14_code
def yX7_pass : MethodName := ⟨RX7, "pass", "(I)I"⟩
abbrev cX7_hire : ByteArray := prog_1_method_15_code
def yX7_hire : MethodName := ⟨RX7, "hire", "(IIII)I"⟩
abbrev cX7_endHire : ByteArray := prog_1_method_16_code
def yX7_endHire : MethodName := ⟨RX7, "endHire", "(I)I"⟩
abbrev cX7_wash : ByteArray := prog_1_method_17_code
def yX7_wash : MethodName := ⟨RX7, "wash", "(II)I"⟩
abbrev cX7_undo : ByteArray := prog_1_method_18_code
def yX7_undo : MethodName := ⟨RX7, "undo", "()I"⟩
abbrev cX7_count : ByteArray := prog_1_method_19_code
def yX7_count : MethodName := ⟨RX7, "count", "(I)I"⟩
abbrev cX7_costume : ByteArray := prog_1_method_20_code
def yX7_costume : MethodName := ⟨RX7, "costume", "(II)I"⟩
abbrev cX7_alteration : ByteArray := prog_1_method_21_code
def yX7_alteration : MethodName := ⟨RX7, "alteration", "(III)I"⟩
abbrev cX7_actor : ByteArray := prog_1_method_22_code
def yX7_actor : MethodName := ⟨RX7, "actor", "(II)I"⟩
abbrev cX7_hired : ByteArray := prog_1_method_23_code
def yX7_hired : MethodName := ⟨RX7, "hired", "(II)I"⟩
abbrev cX7_problems : ByteArray := prog_1_method_24_code
def yX7_problems : MethodName := ⟨RX7, "problems", "(I)I"⟩
abbrev cX7_misfit : ByteArray := prog_1_method_25_code
def yX7_misfit : MethodName := ⟨RX7, "misfit", "(II)I"⟩
abbrev cX7_leastAlteration : ByteArray := prog_1_method_26_code
def yX7_leastAlteration : MethodName := ⟨RX7, "leastAlteration", "(II)I"⟩
abbrev cX7_costumeFor : ByteArray := prog_1_method_27_code
def yX7_costumeFor : MethodName := ⟨RX7, "costumeFor", "(II)I"⟩
abbrev cX7_freeFrom : ByteArray := prog_1_method_28_code
def yX7_freeFrom : MethodName := ⟨RX7, "freeFrom", "(II)I"⟩
abbrev cX7_washable : ByteArray := prog_1_method_29_code
def yX7_washable : MethodName := ⟨RX7, "washable", "(II)I"⟩
abbrev cX7_isWithin : ByteArray := prog_1_method_30_code
def yX7_isWithin : MethodName := ⟨RX7, "isWithin", "(III)Z"⟩
abbrev cX7_areMeasures : ByteArray := prog_1_method_31_code
def yX7_areMeasures : MethodName := ⟨RX7, "areMeasures", "(III)Z"⟩
abbrev cX7_isSetting : ByteArray := prog_1_method_32_code
def yX7_isSetting : MethodName := ⟨RX7, "isSetting", "(II)Z"⟩
abbrev cX7_isProgram : ByteArray := prog_1_method_33_code
def yX7_isProgram : MethodName := ⟨RX7, "isProgram", "(I)Z"⟩
abbrev cX7_isSetOfCostumes : ByteArray := prog_1_method_34_code
def yX7_isSetOfCostumes : MethodName := ⟨RX7, "isSetOfCostumes", "(I)Z"⟩
abbrev cX7_at : ByteArray := prog_1_method_35_code
def yX7_at : MethodName := ⟨RX7, "at", "([II)I"⟩
abbrev cX7_put : ByteArray := prog_1_method_36_code
def yX7_put : MethodName := ⟨RX7, "put", "([III)V"⟩
abbrev cX7_copyRow : ByteArray := prog_1_method_37_code
def yX7_copyRow : MethodName := ⟨RX7, "copyRow", "([I[I)V"⟩
abbrev cX7_isIn : ByteArray := prog_1_method_38_code
def yX7_isIn : MethodName := ⟨RX7, "isIn", "(II)Z"⟩
def RX8 : String := "CostumeStockModel"
def TX8 : u_T := fun k => match k with
  | _ => ("", "", "", false)
def tyX8 : Nat → FieldType := fun k => match k with
  | _ => .int
abbrev wsX80 : List Cond := u_ws RX8 TX8 0
theorem nmX8 : ∀ a, a < 0 → ∀ b, b < 0 → a ≠ b → (TX8 a).2.1 ≠ (TX8 b).2.1 := by decide +kernel
theorem tyX8_ok : ∀ k, k < 0 → parseFieldDescriptor (TX8 k).2.2.1 = some (tyX8 k) := by decide +kernel
def RJ6 : String := "java/lang/Integer"
def TJ6 : u_T := fun k => match k with
  | _ => ("", "", "", false)
def tyJ6 : Nat → FieldType := fun k => match k with
  | _ => .int
abbrev wsJ60 : List Cond := u_ws RJ6 TJ6 0
theorem nmJ6 : ∀ a, a < 0 → ∀ b, b < 0 → a ≠ b → (TJ6 a).2.1 ≠ (TJ6 b).2.1 := by decide +kernel
theorem tyJ6_ok : ∀ k, k < 0 → parseFieldDescriptor (TJ6 k).2.2.1 = some (tyJ6 k) := by decide +kernel
abbrev cJ6_bitCount_0f7a4 : ByteArray := prog_11_method_49_code
def yJ6_bitCount_0f7a4 : MethodName := ⟨RJ6, "bitCount", "(I)I"⟩
def RJ9 : String := "java/lang/Math"
def TJ9 : u_T := fun k => match k with
  | _ => ("", "", "", false)
def tyJ9 : Nat → FieldType := fun k => match k with
  | _ => .int
abbrev wsJ90 : List Cond := u_ws RJ9 TJ9 0
theorem nmJ9 : ∀ a, a < 0 → ∀ b, b < 0 → a ≠ b → (TJ9 a).2.1 ≠ (TJ9 b).2.1 := by decide +kernel
theorem tyJ9_ok : ∀ k, k < 0 → parseFieldDescriptor (TJ9 k).2.2.1 = some (tyJ9 k) := by decide +kernel
abbrev cJ9_abs_0f7a4 : ByteArray := prog_12_method_59_code
def yJ9_abs_0f7a4 : MethodName := ⟨RJ9, "abs", "(I)I"⟩
abbrev cJ9_max_7cf53 : ByteArray := prog_12_method_65_code
def yJ9_max_7cf53 : MethodName := ⟨RJ9, "max", "(II)I"⟩
abbrev cJ9_min_7cf53 : ByteArray := prog_12_method_69_code
def yJ9_min_7cf53 : MethodName := ⟨RJ9, "min", "(II)I"⟩
def RJ0 : String := "java/lang/String"
def TJ0 : u_T := fun k => match k with
  | _ => ("", "", "", false)
def tyJ0 : Nat → FieldType := fun k => match k with
  | _ => .int
abbrev wsJ00 : List Cond := u_ws RJ0 TJ0 0
theorem nmJ0 : ∀ a, a < 0 → ∀ b, b < 0 → a ≠ b → (TJ0 a).2.1 ≠ (TJ0 b).2.1 := by decide +kernel
theorem tyJ0_ok : ∀ k, k < 0 → parseFieldDescriptor (TJ0 k).2.2.1 = some (tyJ0 k) := by decide +kernel
abbrev cJ0_length_8abf5 : ByteArray := prog_13_method_54_code
def yJ0_length_8abf5 : MethodName := ⟨RJ0, "length", "()I"⟩
abbrev cJ0_charAt_5068e : ByteArray := prog_13_method_56_code
def yJ0_charAt_5068e : MethodName := ⟨RJ0, "charAt", "(I)C"⟩
abbrev cJ0_coder_7d493 : ByteArray := prog_13_method_152_code
def yJ0_coder_7d493 : MethodName := ⟨RJ0, "coder", "()B"⟩
abbrev cJ0_isLatin1_aae02 : ByteArray := prog_13_method_154_code
def yJ0_isLatin1_aae02 : MethodName := ⟨RJ0, "isLatin1", "()Z"⟩
abbrev cJ0_checkIndex_df160 : ByteArray := prog_13_method_155_code
def yJ0_checkIndex_df160 : MethodName := ⟨RJ0, "checkIndex", "(II)V"⟩
def RJ1 : String := "java/lang/StringLatin1"
def TJ1 : u_T := fun k => match k with
  | _ => ("", "", "", false)
def tyJ1 : Nat → FieldType := fun k => match k with
  | _ => .int
abbrev wsJ10 : List Cond := u_ws RJ1 TJ1 0
theorem nmJ1 : ∀ a, a < 0 → ∀ b, b < 0 → a ≠ b → (TJ1 a).2.1 ≠ (TJ1 b).2.1 := by decide +kernel
theorem tyJ1_ok : ∀ k, k < 0 → parseFieldDescriptor (TJ1 k).2.2.1 = some (tyJ1 k) := by decide +kernel
abbrev cJ1_charAt_3b067 : ByteArray := prog_14_method_2_code
def yJ1_charAt_3b067 : MethodName := ⟨RJ1, "charAt", "([BI)C"⟩
def RJ2 : String := "java/lang/StringUTF16"
def TJ2 : u_T := fun k => match k with
  | _ => ("", "", "", false)
def tyJ2 : Nat → FieldType := fun k => match k with
  | _ => .int
abbrev wsJ20 : List Cond := u_ws RJ2 TJ2 0
theorem nmJ2 : ∀ a, a < 0 → ∀ b, b < 0 → a ≠ b → (TJ2 a).2.1 ≠ (TJ2 b).2.1 := by decide +kernel
theorem tyJ2_ok : ∀ k, k < 0 → parseFieldDescriptor (TJ2 k).2.2.1 = some (tyJ2 k) := by decide +kernel
abbrev cJ2_getChar_3b067 : ByteArray := prog_15_method_5_code
def yJ2_getChar_3b067 : MethodName := ⟨RJ2, "getChar", "([BI)C"⟩
abbrev cJ2_length_9d52b : ByteArray := prog_15_method_6_code
def yJ2_length_9d52b : MethodName := ⟨RJ2, "length", "([B)I"⟩
abbrev cJ2_charAt_3b067 : ByteArray := prog_15_method_83_code
def yJ2_charAt_3b067 : MethodName := ⟨RJ2, "charAt", "([BI)C"⟩
abbrev cJ2_checkIndex_2214a : ByteArray := prog_15_method_91_code
def yJ2_checkIndex_2214a : MethodName := ⟨RJ2, "checkIndex", "(I[B)V"⟩
def RJ10 : String := "java/lang/System"
def TJ10 : u_T := fun k => match k with
  | _ => ("", "", "", false)
def tyJ10 : Nat → FieldType := fun k => match k with
  | _ => .int
abbrev wsJ100 : List Cond := u_ws RJ10 TJ10 0
theorem nmJ10 : ∀ a, a < 0 → ∀ b, b < 0 → a ≠ b → (TJ10 a).2.1 ≠ (TJ10 b).2.1 := by decide +kernel
theorem tyJ10_ok : ∀ k, k < 0 → parseFieldDescriptor (TJ10 k).2.2.1 = some (tyJ10 k) := by decide +kernel
def RJ3 : String := "jdk/internal/util/Preconditions"
def TJ3 : u_T := fun k => match k with
  | _ => ("", "", "", false)
def tyJ3 : Nat → FieldType := fun k => match k with
  | _ => .int
abbrev wsJ30 : List Cond := u_ws RJ3 TJ3 0
theorem nmJ3 : ∀ a, a < 0 → ∀ b, b < 0 → a ≠ b → (TJ3 a).2.1 ≠ (TJ3 b).2.1 := by decide +kernel
theorem tyJ3_ok : ∀ k, k < 0 → parseFieldDescriptor (TJ3 k).2.2.1 = some (tyJ3 k) := by decide +kernel
abbrev cJ3_checkIndex_8e157 : ByteArray := prog_17_method_11_code
def yJ3_checkIndex_8e157 : MethodName := ⟨RJ3, "checkIndex", "(IILjava/util/function/BiFunction;)I"⟩
def RL : String := "CostumeStockLaw"
def wsX0_init : List Cond := .code yX0_init cX0_init 1 none :: ([.methodLink RX0 3 objectInit, .instanceMethod objectInit, .code objectInit ⟨#[0xb1]⟩ 1 none, .arrayClass .int, .fieldLink RX0 9 "CostumeStock$Cast" "measures" "[I", .fieldLink RX0 15 "CostumeStock$Cast" "worn" "[I"] ++ wsX00)
def wsX7_copyRow : List Cond := .code yX7_copyRow cX7_copyRow 2 none :: ([.methodLink RX7 284 Lib.Math.min.name, .static Lib.Math.min.name, .initialized "java/lang/Math", .code Lib.Math.min.name Lib.Math.min.code 2 (some .int), .methodLink RX7 287 arraycopyName, .native arraycopyName, .static arraycopyName, .initialized "java/lang/System"])
def wsX0_copyFrom : List Cond := .code yX0_copyFrom cX0_copyFrom 2 none :: ([.fieldLink RX0 18 "CostumeStock$Cast" "size" "I", .fieldLink RX0 9 "CostumeStock$Cast" "measures" "[I", .fieldLink RX0 15 "CostumeStock$Cast" "worn" "[I", .static yX7_copyRow, .initialized RX7, .code yX7_copyRow cX7_copyRow 2 none, .methodLink RX7 284 Lib.Math.min.name, .static Lib.Math.min.name, .initialized "java/lang/Math", .code Lib.Math.min.name Lib.Math.min.code 2 (some .int), .methodLink RX7 287 arraycopyName, .native arraycopyName, .static arraycopyName, .initialized "java/lang/System"] ++ wsX00)
def wsX0_has : List Cond := .code yX0_has cX0_has 2 (some .boolean) :: ([.fieldLink RX0 18 "CostumeStock$Cast" "size" "I"] ++ wsX00)
def wsX7_put : List Cond := .code yX7_put cX7_put 3 none :: ([])
def wsX0_add : List Cond := .code yX0_add cX0_add 6 (some .int) :: ([.fieldLink RX0 18 "CostumeStock$Cast" "size" "I", .fieldLink RX0 9 "CostumeStock$Cast" "measures" "[I", .fieldLink RX0 15 "CostumeStock$Cast" "worn" "[I", .static yX7_put, .initialized RX7, .code yX7_put cX7_put 3 none] ++ wsX00)
def wsX7_at : List Cond := .code yX7_at cX7_at 2 (some .int) :: ([])
def wsX0_measureOf : List Cond := .code yX0_measureOf cX0_measureOf 3 (some .int) :: ([.fieldLink RX0 9 "CostumeStock$Cast" "measures" "[I", .static yX7_at, .initialized RX7, .code yX7_at cX7_at 2 (some .int)] ++ wsX00)
def wsX0_wornIn : List Cond := .code yX0_wornIn cX0_wornIn 3 (some .int) :: ([.fieldLink RX0 15 "CostumeStock$Cast" "worn" "[I", .static yX7_at, .initialized RX7, .code yX7_at cX7_at 2 (some .int)] ++ wsX00)
def wsX0_dress : List Cond := .code yX0_dress cX0_dress 5 (some .int) :: ([.fieldLink RX0 15 "CostumeStock$Cast" "worn" "[I", .methodLink RX0 34 yX0_wornIn, .instanceMethod yX0_wornIn, .selects RX0 yX0_wornIn yX0_wornIn, .initialized RX0, .code yX0_wornIn cX0_wornIn 3 (some .int), .static yX7_at, .initialized RX7, .code yX7_at cX7_at 2 (some .int), .static yX7_put, .code yX7_put cX7_put 3 none] ++ wsX00)
def wsX0_wearers : List Cond := .code yX0_wearers cX0_wearers 5 (some .int) :: ([.fieldLink RX0 18 "CostumeStock$Cast" "size" "I", .methodLink RX0 34 yX0_wornIn, .instanceMethod yX0_wornIn, .selects RX0 yX0_wornIn yX0_wornIn, .initialized RX0, .code yX0_wornIn cX0_wornIn 3 (some .int), .fieldLink RX0 15 "CostumeStock$Cast" "worn" "[I", .static yX7_at, .initialized RX7, .code yX7_at cX7_at 2 (some .int)] ++ wsX00)
def wsX0_isWornByAnother : List Cond := .code yX0_isWornByAnother cX0_isWornByAnother 5 (some .boolean) :: ([.methodLink RX0 34 yX0_wornIn, .instanceMethod yX0_wornIn, .selects RX0 yX0_wornIn yX0_wornIn, .initialized RX0, .code yX0_wornIn cX0_wornIn 3 (some .int), .fieldLink RX0 15 "CostumeStock$Cast" "worn" "[I", .static yX7_at, .initialized RX7, .code yX7_at cX7_at 2 (some .int), .methodLink RX0 38 yX0_wearers, .instanceMethod yX0_wearers, .selects RX0 yX0_wearers yX0_wearers, .code yX0_wearers cX0_wearers 5 (some .int), .fieldLink RX0 18 "CostumeStock$Cast" "size" "I"] ++ wsX00)
def wsX0_scenesOf : List Cond := .code yX0_scenesOf cX0_scenesOf 4 (some .int) :: ([.methodLink RX0 38 yX0_wearers, .instanceMethod yX0_wearers, .selects RX0 yX0_wearers yX0_wearers, .initialized RX0, .code yX0_wearers cX0_wearers 5 (some .int), .fieldLink RX0 18 "CostumeStock$Cast" "size" "I", .methodLink RX0 34 yX0_wornIn, .instanceMethod yX0_wornIn, .selects RX0 yX0_wornIn yX0_wornIn, .code yX0_wornIn cX0_wornIn 3 (some .int), .fieldLink RX0 15 "CostumeStock$Cast" "worn" "[I", .static yX7_at, .initialized RX7, .code yX7_at cX7_at 2 (some .int)] ++ wsX00)
def wsX0_isHandedOver : List Cond := .code yX0_isHandedOver cX0_isHandedOver 4 (some .boolean) :: ([.fieldLink RX0 18 "CostumeStock$Cast" "size" "I", .methodLink RX0 38 yX0_wearers, .instanceMethod yX0_wearers, .selects RX0 yX0_wearers yX0_wearers, .initialized RX0, .code yX0_wearers cX0_wearers 5 (some .int), .methodLink RX0 34 yX0_wornIn, .instanceMethod yX0_wornIn, .selects RX0 yX0_wornIn yX0_wornIn, .code yX0_wornIn cX0_wornIn 3 (some .int), .fieldLink RX0 15 "CostumeStock$Cast" "worn" "[I", .static yX7_at, .initialized RX7, .code yX7_at cX7_at 2 (some .int)] ++ wsX00)
def wsX0_quickChanges : List Cond := .code yX0_quickChanges cX0_quickChanges 6 (some .int) :: ([.fieldLink RX0 18 "CostumeStock$Cast" "size" "I", .methodLink RX0 34 yX0_wornIn, .instanceMethod yX0_wornIn, .selects RX0 yX0_wornIn yX0_wornIn, .initialized RX0, .code yX0_wornIn cX0_wornIn 3 (some .int), .fieldLink RX0 15 "CostumeStock$Cast" "worn" "[I", .static yX7_at, .initialized RX7, .code yX7_at cX7_at 2 (some .int)] ++ wsX00)
def wsX1_init : List Cond := .code yX1_init cX1_init 1 none :: ([.methodLink RX1 3 objectInit, .instanceMethod objectInit, .code objectInit ⟨#[0xb1]⟩ 1 none, .arrayClass .int, .fieldLink RX1 9 "CostumeStock$Hires" "costume" "[I", .fieldLink RX1 15 "CostumeStock$Hires" "first" "[I", .fieldLink RX1 18 "CostumeStock$Hires" "days" "[I", .fieldLink RX1 21 "CostumeStock$Hires" "rate" "[I", .fieldLink RX1 24 "CostumeStock$Hires" "fee" "[I"] ++ wsX10)
def wsX1_copyFrom : List Cond := .code yX1_copyFrom cX1_copyFrom 2 none :: ([.fieldLink RX1 27 "CostumeStock$Hires" "size" "I", .fieldLink RX1 9 "CostumeStock$Hires" "costume" "[I", .fieldLink RX1 15 "CostumeStock$Hires" "first" "[I", .fieldLink RX1 18 "CostumeStock$Hires" "days" "[I", .fieldLink RX1 21 "CostumeStock$Hires" "rate" "[I", .fieldLink RX1 24 "CostumeStock$Hires" "fee" "[I", .static yX7_copyRow, .initialized RX7, .code yX7_copyRow cX7_copyRow 2 none, .methodLink RX7 284 Lib.Math.min.name, .static Lib.Math.min.name, .initialized "java/lang/Math", .code Lib.Math.min.name Lib.Math.min.code 2 (some .int), .methodLink RX7 287 arraycopyName, .native arraycopyName, .static arraycopyName, .initialized "java/lang/System"] ++ wsX10)
def wsX1_has : List Cond := .code yX1_has cX1_has 2 (some .boolean) :: ([.fieldLink RX1 27 "CostumeStock$Hires" "size" "I"] ++ wsX10)
def wsX1_feeFor : List Cond := .code yX1_feeFor cX1_feeFor 2 (some .int) :: ([])
def wsX1_add : List Cond := .code yX1_add cX1_add 6 (some .int) :: ([.fieldLink RX1 9 "CostumeStock$Hires" "costume" "[I", .fieldLink RX1 27 "CostumeStock$Hires" "size" "I", .fieldLink RX1 15 "CostumeStock$Hires" "first" "[I", .fieldLink RX1 18 "CostumeStock$Hires" "days" "[I", .fieldLink RX1 21 "CostumeStock$Hires" "rate" "[I", .fieldLink RX1 24 "CostumeStock$Hires" "fee" "[I", .methodLink RX1 35 yX1_feeFor, .static yX1_feeFor, .initialized RX1, .code yX1_feeFor cX1_feeFor 2 (some .int), .static yX7_put, .initialized RX7, .code yX7_put cX7_put 3 none] ++ wsX10)
def wsX1_dayAfter : List Cond := .code yX1_dayAfter cX1_dayAfter 2 (some .int) :: ([.fieldLink RX1 15 "CostumeStock$Hires" "first" "[I", .fieldLink RX1 18 "CostumeStock$Hires" "days" "[I", .static yX7_at, .initialized RX7, .code yX7_at cX7_at 2 (some .int)] ++ wsX10)
def wsX1_overlapping : List Cond := .code yX1_overlapping cX1_overlapping 5 (some .int) :: ([.fieldLink RX1 27 "CostumeStock$Hires" "size" "I", .fieldLink RX1 9 "CostumeStock$Hires" "costume" "[I", .fieldLink RX1 15 "CostumeStock$Hires" "first" "[I", .static yX7_at, .initialized RX7, .code yX7_at cX7_at 2 (some .int), .methodLink RX1 47 yX1_dayAfter, .instanceMethod yX1_dayAfter, .selects RX1 yX1_dayAfter yX1_dayAfter, .initialized RX1, .code yX1_dayAfter cX1_dayAfter 2 (some .int), .fieldLink RX1 18 "CostumeStock$Hires" "days" "[I"] ++ wsX10)
def wsX1_hiresOf : List Cond := .code yX1_hiresOf cX1_hiresOf 4 (some .int) :: ([.fieldLink RX1 27 "CostumeStock$Hires" "size" "I", .fieldLink RX1 9 "CostumeStock$Hires" "costume" "[I", .static yX7_at, .initialized RX7, .code yX7_at cX7_at 2 (some .int)] ++ wsX10)
def wsX1_canEnd : List Cond := .code yX1_canEnd cX1_canEnd 3 (some .boolean) :: ([.fieldLink RX1 15 "CostumeStock$Hires" "first" "[I", .static yX7_at, .initialized RX7, .code yX7_at cX7_at 2 (some .int), .methodLink RX1 47 yX1_dayAfter, .instanceMethod yX1_dayAfter, .selects RX1 yX1_dayAfter yX1_dayAfter, .initialized RX1, .code yX1_dayAfter cX1_dayAfter 2 (some .int), .fieldLink RX1 18 "CostumeStock$Hires" "days" "[I"] ++ wsX10)
def wsX1_end : List Cond := .code yX1_end cX1_end 5 (some .int) :: ([.fieldLink RX1 15 "CostumeStock$Hires" "first" "[I", .fieldLink RX1 24 "CostumeStock$Hires" "fee" "[I", .fieldLink RX1 21 "CostumeStock$Hires" "rate" "[I", .fieldLink RX1 18 "CostumeStock$Hires" "days" "[I", .static yX7_at, .initialized RX7, .code yX7_at cX7_at 2 (some .int), .methodLink RX1 35 yX1_feeFor, .static yX1_feeFor, .initialized RX1, .code yX1_feeFor cX1_feeFor 2 (some .int), .static yX7_put, .code yX7_put cX7_put 3 none] ++ wsX10)
def wsX1_firstFree : List Cond := .code yX1_firstFree cX1_firstFree 7 (some .int) :: ([.methodLink RX1 51 yX1_overlapping, .instanceMethod yX1_overlapping, .selects RX1 yX1_overlapping yX1_overlapping, .initialized RX1, .code yX1_overlapping cX1_overlapping 5 (some .int), .fieldLink RX1 27 "CostumeStock$Hires" "size" "I", .fieldLink RX1 9 "CostumeStock$Hires" "costume" "[I", .fieldLink RX1 15 "CostumeStock$Hires" "first" "[I", .static yX7_at, .initialized RX7, .code yX7_at cX7_at 2 (some .int), .methodLink RX1 47 yX1_dayAfter, .instanceMethod yX1_dayAfter, .selects RX1 yX1_dayAfter yX1_dayAfter, .code yX1_dayAfter cX1_dayAfter 2 (some .int), .fieldLink RX1 18 "CostumeStock$Hires" "days" "[I"] ++ wsX10)
def wsX6_init : List Cond := .code yX6_init cX6_init 1 none :: ([.methodLink RX6 3 objectInit, .instanceMethod objectInit, .code objectInit ⟨#[0xb1]⟩ 1 none, .arrayClass .int, .fieldLink RX6 9 "CostumeStock$Wardrobe" "original" "[I", .fieldLink RX6 15 "CostumeStock$Wardrobe" "allowance" "[I", .fieldLink RX6 18 "CostumeStock$Wardrobe" "code" "[I", .fieldLink RX6 21 "CostumeStock$Wardrobe" "color" "[I", .fieldLink RX6 24 "CostumeStock$Wardrobe" "dirt" "[I", .fieldLink RX6 27 "CostumeStock$Wardrobe" "alterations" "[I", .fieldLink RX6 30 "CostumeStock$Wardrobe" "alteredMeasure" "[I", .fieldLink RX6 33 "CostumeStock$Wardrobe" "change" "[I"] ++ wsX60)
def wsX4_init_r1 : List Cond := [Cond.methodLink RX4 3 objectInit, Cond.instanceMethod objectInit, Cond.code objectInit ⟨#[0xb1]⟩ 1 none, Cond.classLink RX4 9 RX6, Cond.instantiable RX6 9, Cond.initialized RX6, Cond.fieldLink RX4 12 "CostumeStock$State" "wardrobe" "LCostumeStock$Wardrobe;", Cond.classLink RX4 18 RX0, Cond.instantiable RX0 3, Cond.initialized RX0, Cond.fieldLink RX4 21 "CostumeStock$State" "cast" "LCostumeStock$Cast;", Cond.classLink RX4 25 RX1, Cond.instantiable RX1 6, Cond.initialized RX1, Cond.fieldLink RX4 28 "CostumeStock$State" "hires" "LCostumeStock$Hires;", Cond.arrayClass .int, Cond.fieldLink RX4 32 "CostumeStock$State" "settings" "[I", Cond.instanceMethod yX6_init, Cond.code yX6_init cX6_init 1 none, Cond.methodLink RX6 3 objectInit, Cond.fieldLink RX6 9 "CostumeStock$Wardrobe" "original" "[I", Cond.fieldLink RX6 15 "CostumeStock$Wardrobe" "allowance" "[I", Cond.fieldLink RX6 18 "CostumeStock$Wardrobe" "code" "[I", Cond.fieldLink RX6 21 "CostumeStock$Wardrobe" "color" "[I"]
def wsX4_init_r2 : List Cond := [Cond.fieldLink RX6 24 "CostumeStock$Wardrobe" "dirt" "[I", Cond.fieldLink RX6 27 "CostumeStock$Wardrobe" "alterations" "[I", Cond.fieldLink RX6 30 "CostumeStock$Wardrobe" "alteredMeasure" "[I", Cond.fieldLink RX6 33 "CostumeStock$Wardrobe" "change" "[I", Cond.instanceMethod yX0_init, Cond.code yX0_init cX0_init 1 none, Cond.methodLink RX0 3 objectInit, Cond.fieldLink RX0 9 "CostumeStock$Cast" "measures" "[I", Cond.fieldLink RX0 15 "CostumeStock$Cast" "worn" "[I", Cond.instanceMethod yX1_init, Cond.code yX1_init cX1_init 1 none, Cond.methodLink RX1 3 objectInit, Cond.fieldLink RX1 9 "CostumeStock$Hires" "costume" "[I", Cond.fieldLink RX1 15 "CostumeStock$Hires" "first" "[I", Cond.fieldLink RX1 18 "CostumeStock$Hires" "days" "[I", Cond.fieldLink RX1 21 "CostumeStock$Hires" "rate" "[I", Cond.fieldLink RX1 24 "CostumeStock$Hires" "fee" "[I"]
def wsX4_init : List Cond := .code yX4_init cX4_init 1 none :: ((wsX4_init_r1 ++ wsX4_init_r2) ++ wsX60 ++ wsX40 ++ wsX00 ++ wsX10)
def wsX2_init_r1 : List Cond := [Cond.methodLink RX2 3 objectInit, Cond.instanceMethod objectInit, Cond.code objectInit ⟨#[0xb1]⟩ 1 none, Cond.classLink RX2 9 RX4, Cond.fieldLink RX2 11 "CostumeStock$History" "states" "[LCostumeStock$State;", Cond.instantiable RX4 9, Cond.initialized RX4, Cond.instanceMethod yX4_init, Cond.code yX4_init cX4_init 1 none, Cond.methodLink RX4 3 objectInit, Cond.classLink RX4 9 RX6, Cond.instantiable RX6 9, Cond.initialized RX6, Cond.fieldLink RX4 12 "CostumeStock$State" "wardrobe" "LCostumeStock$Wardrobe;", Cond.classLink RX4 18 RX0, Cond.instantiable RX0 3, Cond.initialized RX0, Cond.fieldLink RX4 21 "CostumeStock$State" "cast" "LCostumeStock$Cast;", Cond.classLink RX4 25 RX1, Cond.instantiable RX1 6, Cond.initialized RX1, Cond.fieldLink RX4 28 "CostumeStock$State" "hires" "LCostumeStock$Hires;", Cond.arrayClass .int, Cond.fieldLink RX4 32 "CostumeStock$State" "settings" "[I"]
def wsX2_init_r2 : List Cond := [Cond.instanceMethod yX6_init, Cond.code yX6_init cX6_init 1 none, Cond.methodLink RX6 3 objectInit, Cond.fieldLink RX6 9 "CostumeStock$Wardrobe" "original" "[I", Cond.fieldLink RX6 15 "CostumeStock$Wardrobe" "allowance" "[I", Cond.fieldLink RX6 18 "CostumeStock$Wardrobe" "code" "[I", Cond.fieldLink RX6 21 "CostumeStock$Wardrobe" "color" "[I", Cond.fieldLink RX6 24 "CostumeStock$Wardrobe" "dirt" "[I", Cond.fieldLink RX6 27 "CostumeStock$Wardrobe" "alterations" "[I", Cond.fieldLink RX6 30 "CostumeStock$Wardrobe" "alteredMeasure" "[I", Cond.fieldLink RX6 33 "CostumeStock$Wardrobe" "change" "[I", Cond.instanceMethod yX0_init, Cond.code yX0_init cX0_init 1 none, Cond.methodLink RX0 3 objectInit, Cond.fieldLink RX0 9 "CostumeStock$Cast" "measures" "[I", Cond.fieldLink RX0 15 "CostumeStock$Cast" "worn" "[I", Cond.instanceMethod yX1_init, Cond.code yX1_init cX1_init 1 none, Cond.methodLink RX1 3 objectInit, Cond.fieldLink RX1 9 "CostumeStock$Hires" "costume" "[I", Cond.fieldLink RX1 15 "CostumeStock$Hires" "first" "[I", Cond.fieldLink RX1 18 "CostumeStock$Hires" "days" "[I", Cond.fieldLink RX1 21 "CostumeStock$Hires" "rate" "[I", Cond.fieldLink RX1 24 "CostumeStock$Hires" "fee" "[I"]
def wsX2_init : List Cond := .code yX2_init cX2_init 2 none :: ((wsX2_init_r1 ++ wsX2_init_r2) ++ wsX20 ++ wsX40 ++ wsX60 ++ wsX00 ++ wsX10)
def wsX2_stateAt : List Cond := .code yX2_stateAt cX2_stateAt 2 (some (.object "CostumeStock$State")) :: ([.fieldLink RX2 11 "CostumeStock$History" "states" "[LCostumeStock$State;"] ++ wsX20)
def wsX6_copyFrom : List Cond := .code yX6_copyFrom cX6_copyFrom 2 none :: ([.fieldLink RX6 36 "CostumeStock$Wardrobe" "size" "I", .fieldLink RX6 9 "CostumeStock$Wardrobe" "original" "[I", .fieldLink RX6 15 "CostumeStock$Wardrobe" "allowance" "[I", .fieldLink RX6 18 "CostumeStock$Wardrobe" "code" "[I", .fieldLink RX6 21 "CostumeStock$Wardrobe" "color" "[I", .fieldLink RX6 24 "CostumeStock$Wardrobe" "dirt" "[I", .fieldLink RX6 27 "CostumeStock$Wardrobe" "alterations" "[I", .fieldLink RX6 30 "CostumeStock$Wardrobe" "alteredMeasure" "[I", .fieldLink RX6 33 "CostumeStock$Wardrobe" "change" "[I", .static yX7_copyRow, .initialized RX7, .code yX7_copyRow cX7_copyRow 2 none, .methodLink RX7 284 Lib.Math.min.name, .static Lib.Math.min.name, .initialized "java/lang/Math", .code Lib.Math.min.name Lib.Math.min.code 2 (some .int), .methodLink RX7 287 arraycopyName, .native arraycopyName, .static arraycopyName, .initialized "java/lang/System"] ++ wsX60)
def wsX4_become_r1 : List Cond := [Cond.fieldLink RX4 12 "CostumeStock$State" "wardrobe" "LCostumeStock$Wardrobe;", Cond.fieldLink RX4 21 "CostumeStock$State" "cast" "LCostumeStock$Cast;", Cond.fieldLink RX4 28 "CostumeStock$State" "hires" "LCostumeStock$Hires;", Cond.fieldLink RX4 32 "CostumeStock$State" "settings" "[I", Cond.fieldLink RX4 50 "CostumeStock$State" "today" "I", Cond.fieldLink RX4 54 "CostumeStock$State" "minutes" "I", Cond.fieldLink RX4 57 "CostumeStock$State" "fees" "I", Cond.fieldLink RX4 60 "CostumeStock$State" "washing" "I", Cond.fieldLink RX4 63 "CostumeStock$State" "performances" "I", Cond.methodLink RX4 36 yX6_copyFrom, Cond.instanceMethod yX6_copyFrom, Cond.selects RX6 yX6_copyFrom yX6_copyFrom, Cond.initialized RX6, Cond.code yX6_copyFrom cX6_copyFrom 2 none, Cond.fieldLink RX6 36 "CostumeStock$Wardrobe" "size" "I", Cond.fieldLink RX6 9 "CostumeStock$Wardrobe" "original" "[I", Cond.fieldLink RX6 15 "CostumeStock$Wardrobe" "allowance" "[I", Cond.fieldLink RX6 18 "CostumeStock$Wardrobe" "code" "[I", Cond.fieldLink RX6 21 "CostumeStock$Wardrobe" "color" "[I", Cond.fieldLink RX6 24 "CostumeStock$Wardrobe" "dirt" "[I", Cond.fieldLink RX6 27 "CostumeStock$Wardrobe" "alterations" "[I", Cond.fieldLink RX6 30 "CostumeStock$Wardrobe" "alteredMeasure" "[I", Cond.fieldLink RX6 33 "CostumeStock$Wardrobe" "change" "[I", Cond.static yX7_copyRow]
def wsX4_become_r2 : List Cond := [Cond.initialized RX7, Cond.code yX7_copyRow cX7_copyRow 2 none, Cond.methodLink RX7 284 Lib.Math.min.name, Cond.static Lib.Math.min.name, Cond.initialized "java/lang/Math", Cond.code Lib.Math.min.name Lib.Math.min.code 2 (some .int), Cond.methodLink RX7 287 arraycopyName, Cond.native arraycopyName, Cond.static arraycopyName, Cond.initialized "java/lang/System", Cond.methodLink RX4 40 yX0_copyFrom, Cond.instanceMethod yX0_copyFrom, Cond.selects RX0 yX0_copyFrom yX0_copyFrom, Cond.initialized RX0, Cond.code yX0_copyFrom cX0_copyFrom 2 none, Cond.fieldLink RX0 18 "CostumeStock$Cast" "size" "I", Cond.fieldLink RX0 9 "CostumeStock$Cast" "measures" "[I", Cond.fieldLink RX0 15 "CostumeStock$Cast" "worn" "[I", Cond.methodLink RX4 43 yX1_copyFrom, Cond.instanceMethod yX1_copyFrom, Cond.selects RX1 yX1_copyFrom yX1_copyFrom, Cond.initialized RX1, Cond.code yX1_copyFrom cX1_copyFrom 2 none, Cond.fieldLink RX1 27 "CostumeStock$Hires" "size" "I"]
def wsX4_become_r3 : List Cond := [Cond.fieldLink RX1 9 "CostumeStock$Hires" "costume" "[I", Cond.fieldLink RX1 15 "CostumeStock$Hires" "first" "[I", Cond.fieldLink RX1 18 "CostumeStock$Hires" "days" "[I", Cond.fieldLink RX1 21 "CostumeStock$Hires" "rate" "[I", Cond.fieldLink RX1 24 "CostumeStock$Hires" "fee" "[I"]
def wsX4_become : List Cond := .code yX4_become cX4_become 2 none :: ((wsX4_become_r1 ++ (wsX4_become_r2 ++ wsX4_become_r3)) ++ wsX40 ++ wsX60 ++ wsX00 ++ wsX10)
def wsX2_remember_r1 : List Cond := [Cond.fieldLink RX2 18 "CostumeStock$History" "next" "I", Cond.fieldLink RX2 30 "CostumeStock$History" "size" "I", Cond.methodLink RX2 33 Lib.Math.min.name, Cond.static Lib.Math.min.name, Cond.initialized "java/lang/Math", Cond.code Lib.Math.min.name Lib.Math.min.code 2 (some .int), Cond.methodLink RX2 22 yX2_stateAt, Cond.instanceMethod yX2_stateAt, Cond.selects RX2 yX2_stateAt yX2_stateAt, Cond.initialized RX2, Cond.code yX2_stateAt cX2_stateAt 2 (some (.object "CostumeStock$State")), Cond.fieldLink RX2 11 "CostumeStock$History" "states" "[LCostumeStock$State;", Cond.methodLink RX2 26 yX4_become, Cond.instanceMethod yX4_become, Cond.selects RX4 yX4_become yX4_become, Cond.initialized RX4, Cond.code yX4_become cX4_become 2 none, Cond.fieldLink RX4 12 "CostumeStock$State" "wardrobe" "LCostumeStock$Wardrobe;", Cond.fieldLink RX4 21 "CostumeStock$State" "cast" "LCostumeStock$Cast;", Cond.fieldLink RX4 28 "CostumeStock$State" "hires" "LCostumeStock$Hires;", Cond.fieldLink RX4 32 "CostumeStock$State" "settings" "[I", Cond.fieldLink RX4 50 "CostumeStock$State" "today" "I", Cond.fieldLink RX4 54 "CostumeStock$State" "minutes" "I", Cond.fieldLink RX4 57 "CostumeStock$State" "fees" "I"]
def wsX2_remember_r2 : List Cond := [Cond.fieldLink RX4 60 "CostumeStock$State" "washing" "I", Cond.fieldLink RX4 63 "CostumeStock$State" "performances" "I", Cond.methodLink RX4 36 yX6_copyFrom, Cond.instanceMethod yX6_copyFrom, Cond.selects RX6 yX6_copyFrom yX6_copyFrom, Cond.initialized RX6, Cond.code yX6_copyFrom cX6_copyFrom 2 none, Cond.fieldLink RX6 36 "CostumeStock$Wardrobe" "size" "I", Cond.fieldLink RX6 9 "CostumeStock$Wardrobe" "original" "[I", Cond.fieldLink RX6 15 "CostumeStock$Wardrobe" "allowance" "[I", Cond.fieldLink RX6 18 "CostumeStock$Wardrobe" "code" "[I", Cond.fieldLink RX6 21 "CostumeStock$Wardrobe" "color" "[I", Cond.fieldLink RX6 24 "CostumeStock$Wardrobe" "dirt" "[I", Cond.fieldLink RX6 27 "CostumeStock$Wardrobe" "alterations" "[I", Cond.fieldLink RX6 30 "CostumeStock$Wardrobe" "alteredMeasure" "[I", Cond.fieldLink RX6 33 "CostumeStock$Wardrobe" "change" "[I", Cond.static yX7_copyRow, Cond.initialized RX7, Cond.code yX7_copyRow cX7_copyRow 2 none, Cond.methodLink RX7 284 Lib.Math.min.name, Cond.methodLink RX7 287 arraycopyName, Cond.native arraycopyName, Cond.static arraycopyName, Cond.initialized "java/lang/System"]
def wsX2_remember_r3 : List Cond := [Cond.methodLink RX4 40 yX0_copyFrom, Cond.instanceMethod yX0_copyFrom, Cond.selects RX0 yX0_copyFrom yX0_copyFrom, Cond.initialized RX0, Cond.code yX0_copyFrom cX0_copyFrom 2 none, Cond.fieldLink RX0 18 "CostumeStock$Cast" "size" "I", Cond.fieldLink RX0 9 "CostumeStock$Cast" "measures" "[I", Cond.fieldLink RX0 15 "CostumeStock$Cast" "worn" "[I", Cond.methodLink RX4 43 yX1_copyFrom, Cond.instanceMethod yX1_copyFrom, Cond.selects RX1 yX1_copyFrom yX1_copyFrom, Cond.initialized RX1, Cond.code yX1_copyFrom cX1_copyFrom 2 none, Cond.fieldLink RX1 27 "CostumeStock$Hires" "size" "I", Cond.fieldLink RX1 9 "CostumeStock$Hires" "costume" "[I", Cond.fieldLink RX1 15 "CostumeStock$Hires" "first" "[I", Cond.fieldLink RX1 18 "CostumeStock$Hires" "days" "[I", Cond.fieldLink RX1 21 "CostumeStock$Hires" "rate" "[I", Cond.fieldLink RX1 24 "CostumeStock$Hires" "fee" "[I"]
def wsX2_remember : List Cond := .code yX2_remember cX2_remember 3 none :: ((wsX2_remember_r1 ++ (wsX2_remember_r2 ++ wsX2_remember_r3)) ++ wsX20 ++ wsX40 ++ wsX60 ++ wsX00 ++ wsX10)
def wsX2_restore_r1 : List Cond := [Cond.fieldLink RX2 18 "CostumeStock$History" "next" "I", Cond.fieldLink RX2 30 "CostumeStock$History" "size" "I", Cond.methodLink RX2 22 yX2_stateAt, Cond.instanceMethod yX2_stateAt, Cond.selects RX2 yX2_stateAt yX2_stateAt, Cond.initialized RX2, Cond.code yX2_stateAt cX2_stateAt 2 (some (.object "CostumeStock$State")), Cond.fieldLink RX2 11 "CostumeStock$History" "states" "[LCostumeStock$State;", Cond.methodLink RX2 26 yX4_become, Cond.instanceMethod yX4_become, Cond.selects RX4 yX4_become yX4_become, Cond.initialized RX4, Cond.code yX4_become cX4_become 2 none, Cond.fieldLink RX4 12 "CostumeStock$State" "wardrobe" "LCostumeStock$Wardrobe;", Cond.fieldLink RX4 21 "CostumeStock$State" "cast" "LCostumeStock$Cast;", Cond.fieldLink RX4 28 "CostumeStock$State" "hires" "LCostumeStock$Hires;", Cond.fieldLink RX4 32 "CostumeStock$State" "settings" "[I", Cond.fieldLink RX4 50 "CostumeStock$State" "today" "I", Cond.fieldLink RX4 54 "CostumeStock$State" "minutes" "I", Cond.fieldLink RX4 57 "CostumeStock$State" "fees" "I", Cond.fieldLink RX4 60 "CostumeStock$State" "washing" "I", Cond.fieldLink RX4 63 "CostumeStock$State" "performances" "I", Cond.methodLink RX4 36 yX6_copyFrom, Cond.instanceMethod yX6_copyFrom]
def wsX2_restore_r2 : List Cond := [Cond.selects RX6 yX6_copyFrom yX6_copyFrom, Cond.initialized RX6, Cond.code yX6_copyFrom cX6_copyFrom 2 none, Cond.fieldLink RX6 36 "CostumeStock$Wardrobe" "size" "I", Cond.fieldLink RX6 9 "CostumeStock$Wardrobe" "original" "[I", Cond.fieldLink RX6 15 "CostumeStock$Wardrobe" "allowance" "[I", Cond.fieldLink RX6 18 "CostumeStock$Wardrobe" "code" "[I", Cond.fieldLink RX6 21 "CostumeStock$Wardrobe" "color" "[I", Cond.fieldLink RX6 24 "CostumeStock$Wardrobe" "dirt" "[I", Cond.fieldLink RX6 27 "CostumeStock$Wardrobe" "alterations" "[I", Cond.fieldLink RX6 30 "CostumeStock$Wardrobe" "alteredMeasure" "[I", Cond.fieldLink RX6 33 "CostumeStock$Wardrobe" "change" "[I", Cond.static yX7_copyRow, Cond.initialized RX7, Cond.code yX7_copyRow cX7_copyRow 2 none, Cond.methodLink RX7 284 Lib.Math.min.name, Cond.static Lib.Math.min.name, Cond.initialized "java/lang/Math", Cond.code Lib.Math.min.name Lib.Math.min.code 2 (some .int), Cond.methodLink RX7 287 arraycopyName, Cond.native arraycopyName, Cond.static arraycopyName, Cond.initialized "java/lang/System", Cond.methodLink RX4 40 yX0_copyFrom]
def wsX2_restore_r3 : List Cond := [Cond.instanceMethod yX0_copyFrom, Cond.selects RX0 yX0_copyFrom yX0_copyFrom, Cond.initialized RX0, Cond.code yX0_copyFrom cX0_copyFrom 2 none, Cond.fieldLink RX0 18 "CostumeStock$Cast" "size" "I", Cond.fieldLink RX0 9 "CostumeStock$Cast" "measures" "[I", Cond.fieldLink RX0 15 "CostumeStock$Cast" "worn" "[I", Cond.methodLink RX4 43 yX1_copyFrom, Cond.instanceMethod yX1_copyFrom, Cond.selects RX1 yX1_copyFrom yX1_copyFrom, Cond.initialized RX1, Cond.code yX1_copyFrom cX1_copyFrom 2 none, Cond.fieldLink RX1 27 "CostumeStock$Hires" "size" "I", Cond.fieldLink RX1 9 "CostumeStock$Hires" "costume" "[I", Cond.fieldLink RX1 15 "CostumeStock$Hires" "first" "[I", Cond.fieldLink RX1 18 "CostumeStock$Hires" "days" "[I", Cond.fieldLink RX1 21 "CostumeStock$Hires" "rate" "[I", Cond.fieldLink RX1 24 "CostumeStock$Hires" "fee" "[I"]
def wsX2_restore : List Cond := .code yX2_restore cX2_restore 4 none :: ((wsX2_restore_r1 ++ (wsX2_restore_r2 ++ wsX2_restore_r3)) ++ wsX20 ++ wsX40 ++ wsX60 ++ wsX00 ++ wsX10)
def wsX3_init : List Cond := .code yX3_init cX3_init 2 none :: ([.methodLink RX3 3 objectInit, .instanceMethod objectInit, .code objectInit ⟨#[0xb1]⟩ 1 none, .fieldLink RX3 9 "CostumeStock$Reader" "text" "LCostumeStock$Text;", .arrayClass .int, .fieldLink RX3 15 "CostumeStock$Reader" "parts" "[I"] ++ wsX30)
def wsX3_part : List Cond := .code yX3_part cX3_part 3 (some .int) :: ([.fieldLink RX3 15 "CostumeStock$Reader" "parts" "[I", .static yX7_at, .initialized RX7, .code yX7_at cX7_at 2 (some .int)] ++ wsX30)
def wsX3_keep : List Cond := .code yX3_keep cX3_keep 3 none :: ([.fieldLink RX3 15 "CostumeStock$Reader" "parts" "[I", .fieldLink RX3 23 "CostumeStock$Reader" "items" "I", .static yX7_put, .initialized RX7, .code yX7_put cX7_put 3 none] ++ wsX30)
def wsX7_isWithin : List Cond := .code yX7_isWithin cX7_isWithin 3 (some .boolean) :: ([])
def wsX3_kindAt : List Cond := .code yX3_kindAt cX3_kindAt 3 (some .int) :: ([.fieldLink RX3 9 "CostumeStock$Reader" "text" "LCostumeStock$Text;", .fieldLink RX3 104 "CostumeStock$Text" "length" "I", .fieldLink RX3 72 "CostumeStock$Text" "characters" "[I", .static yX7_at, .initialized RX7, .code yX7_at cX7_at 2 (some .int), .static yX7_isWithin, .code yX7_isWithin cX7_isWithin 3 (some .boolean)] ++ wsX30 ++ wsX50)
def wsX3_nextToken : List Cond := .code yX3_nextToken cX3_nextToken 1 none :: ([.fieldLink RX3 37 "CostumeStock$Reader" "end" "I", .fieldLink RX3 77 "CostumeStock$Reader" "start" "I", .fieldLink RX3 9 "CostumeStock$Reader" "text" "LCostumeStock$Text;", .fieldLink RX3 104 "CostumeStock$Text" "length" "I", .fieldLink RX3 72 "CostumeStock$Text" "characters" "[I", .fieldLink RX3 43 "CostumeStock$Reader" "token" "I", .static yX7_at, .initialized RX7, .code yX7_at cX7_at 2 (some .int), .methodLink RX3 106 yX3_kindAt, .instanceMethod yX3_kindAt, .selects RX3 yX3_kindAt yX3_kindAt, .initialized RX3, .code yX3_kindAt cX3_kindAt 3 (some .int), .static yX7_isWithin, .code yX7_isWithin cX7_isWithin 3 (some .boolean)] ++ wsX30 ++ wsX50)
def wsJ0_coder_7d493 : List Cond := .code yJ0_coder_7d493 cJ0_coder_7d493 1 (some .byte) :: ([.fieldLink RJ0 38 "java/lang/String" "COMPACT_STRINGS" "Z", .fieldLink RJ0 15 "java/lang/String" "coder" "B"])
def wsJ0_length_8abf5 : List Cond := .code yJ0_length_8abf5 cJ0_length_8abf5 1 (some .int) :: ([.fieldLink RJ0 9 "java/lang/String" "value" "[B", .methodLink RJ0 335 yJ0_coder_7d493, .instanceMethod yJ0_coder_7d493, .selects RJ0 yJ0_coder_7d493 yJ0_coder_7d493, .initialized RJ0, .code yJ0_coder_7d493 cJ0_coder_7d493 1 (some .byte), .fieldLink RJ0 38 "java/lang/String" "COMPACT_STRINGS" "Z", .fieldLink RJ0 15 "java/lang/String" "coder" "B"])
def wsJ0_isLatin1_aae02 : List Cond := .code yJ0_isLatin1_aae02 cJ0_isLatin1_aae02 1 (some .boolean) :: ([.fieldLink RJ0 38 "java/lang/String" "COMPACT_STRINGS" "Z", .fieldLink RJ0 15 "java/lang/String" "coder" "B"])
def wsJ3_checkIndex_8e157 : List Cond := .code yJ3_checkIndex_8e157 cJ3_checkIndex_8e157 3 (some .int) :: ([])
def wsJ0_checkIndex_df160 : List Cond := .code yJ0_checkIndex_df160 cJ0_checkIndex_df160 2 none :: ([.fieldLink RJ0 1053 "jdk/internal/util/Preconditions" "SIOOBE_FORMATTER" "Ljava/util/function/BiFunction;", .methodLink RJ0 1059 yJ3_checkIndex_8e157, .static yJ3_checkIndex_8e157, .initialized RJ3, .code yJ3_checkIndex_8e157 cJ3_checkIndex_8e157 3 (some .int)])
def wsJ1_charAt_3b067 : List Cond := .code yJ1_charAt_3b067 cJ1_charAt_3b067 2 (some .char) :: ([.methodLink RJ1 9 yJ0_checkIndex_df160, .static yJ0_checkIndex_df160, .initialized RJ0, .code yJ0_checkIndex_df160 cJ0_checkIndex_df160 2 none, .fieldLink RJ0 1053 "jdk/internal/util/Preconditions" "SIOOBE_FORMATTER" "Ljava/util/function/BiFunction;", .methodLink RJ0 1059 yJ3_checkIndex_8e157, .static yJ3_checkIndex_8e157, .initialized RJ3, .code yJ3_checkIndex_8e157 cJ3_checkIndex_8e157 3 (some .int)])
def wsJ2_length_9d52b : List Cond := .code yJ2_length_9d52b cJ2_length_9d52b 1 (some .int) :: ([])
def wsJ2_checkIndex_2214a : List Cond := .code yJ2_checkIndex_2214a cJ2_checkIndex_2214a 2 none :: ([.methodLink RJ2 48 yJ2_length_9d52b, .static yJ2_length_9d52b, .initialized RJ2, .code yJ2_length_9d52b cJ2_length_9d52b 1 (some .int), .methodLink RJ2 414 yJ0_checkIndex_df160, .static yJ0_checkIndex_df160, .initialized RJ0, .code yJ0_checkIndex_df160 cJ0_checkIndex_df160 2 none, .fieldLink RJ0 1053 "jdk/internal/util/Preconditions" "SIOOBE_FORMATTER" "Ljava/util/function/BiFunction;", .methodLink RJ0 1059 yJ3_checkIndex_8e157, .static yJ3_checkIndex_8e157, .initialized RJ3, .code yJ3_checkIndex_8e157 cJ3_checkIndex_8e157 3 (some .int)])
def wsJ2_getChar_3b067 : List Cond := .code yJ2_getChar_3b067 cJ2_getChar_3b067 2 (some .char) :: ([.fieldLink RJ2 44 "java/lang/StringUTF16" "$assertionsDisabled" "Z", .fieldLink RJ2 59 "java/lang/StringUTF16" "HI_BYTE_SHIFT" "I", .fieldLink RJ2 63 "java/lang/StringUTF16" "LO_BYTE_SHIFT" "I", .methodLink RJ2 48 yJ2_length_9d52b, .static yJ2_length_9d52b, .initialized RJ2, .code yJ2_length_9d52b cJ2_length_9d52b 1 (some .int)])
def wsJ2_charAt_3b067 : List Cond := .code yJ2_charAt_3b067 cJ2_charAt_3b067 2 (some .char) :: ([.methodLink RJ2 67 yJ2_checkIndex_2214a, .static yJ2_checkIndex_2214a, .initialized RJ2, .code yJ2_checkIndex_2214a cJ2_checkIndex_2214a 2 none, .methodLink RJ2 48 yJ2_length_9d52b, .static yJ2_length_9d52b, .code yJ2_length_9d52b cJ2_length_9d52b 1 (some .int), .methodLink RJ2 414 yJ0_checkIndex_df160, .static yJ0_checkIndex_df160, .initialized RJ0, .code yJ0_checkIndex_df160 cJ0_checkIndex_df160 2 none, .fieldLink RJ0 1053 "jdk/internal/util/Preconditions" "SIOOBE_FORMATTER" "Ljava/util/function/BiFunction;", .methodLink RJ0 1059 yJ3_checkIndex_8e157, .static yJ3_checkIndex_8e157, .initialized RJ3, .code yJ3_checkIndex_8e157 cJ3_checkIndex_8e157 3 (some .int), .methodLink RJ2 71 yJ2_getChar_3b067, .static yJ2_getChar_3b067, .code yJ2_getChar_3b067 cJ2_getChar_3b067 2 (some .char), .fieldLink RJ2 44 "java/lang/StringUTF16" "$assertionsDisabled" "Z", .fieldLink RJ2 59 "java/lang/StringUTF16" "HI_BYTE_SHIFT" "I", .fieldLink RJ2 63 "java/lang/StringUTF16" "LO_BYTE_SHIFT" "I"])
def wsJ0_charAt_5068e_r1 : List Cond := [Cond.fieldLink RJ0 9 "java/lang/String" "value" "[B", Cond.methodLink RJ0 492 yJ0_isLatin1_aae02, Cond.instanceMethod yJ0_isLatin1_aae02, Cond.selects RJ0 yJ0_isLatin1_aae02 yJ0_isLatin1_aae02, Cond.initialized RJ0, Cond.code yJ0_isLatin1_aae02 cJ0_isLatin1_aae02 1 (some .boolean), Cond.fieldLink RJ0 38 "java/lang/String" "COMPACT_STRINGS" "Z", Cond.fieldLink RJ0 15 "java/lang/String" "coder" "B", Cond.methodLink RJ0 495 yJ1_charAt_3b067, Cond.static yJ1_charAt_3b067, Cond.initialized RJ1, Cond.code yJ1_charAt_3b067 cJ1_charAt_3b067 2 (some .char), Cond.methodLink RJ1 9 yJ0_checkIndex_df160, Cond.static yJ0_checkIndex_df160, Cond.code yJ0_checkIndex_df160 cJ0_checkIndex_df160 2 none, Cond.fieldLink RJ0 1053 "jdk/internal/util/Preconditions" "SIOOBE_FORMATTER" "Ljava/util/function/BiFunction;", Cond.methodLink RJ0 1059 yJ3_checkIndex_8e157, Cond.static yJ3_checkIndex_8e157, Cond.initialized RJ3, Cond.code yJ3_checkIndex_8e157 cJ3_checkIndex_8e157 3 (some .int), Cond.methodLink RJ0 498 yJ2_charAt_3b067, Cond.static yJ2_charAt_3b067, Cond.initialized RJ2, Cond.code yJ2_charAt_3b067 cJ2_charAt_3b067 2 (some .char)]
def wsJ0_charAt_5068e_r2 : List Cond := [Cond.methodLink RJ2 67 yJ2_checkIndex_2214a, Cond.static yJ2_checkIndex_2214a, Cond.code yJ2_checkIndex_2214a cJ2_checkIndex_2214a 2 none, Cond.methodLink RJ2 48 yJ2_length_9d52b, Cond.static yJ2_length_9d52b, Cond.code yJ2_length_9d52b cJ2_length_9d52b 1 (some .int), Cond.methodLink RJ2 414 yJ0_checkIndex_df160, Cond.methodLink RJ2 71 yJ2_getChar_3b067, Cond.static yJ2_getChar_3b067, Cond.code yJ2_getChar_3b067 cJ2_getChar_3b067 2 (some .char), Cond.fieldLink RJ2 44 "java/lang/StringUTF16" "$assertionsDisabled" "Z", Cond.fieldLink RJ2 59 "java/lang/StringUTF16" "HI_BYTE_SHIFT" "I", Cond.fieldLink RJ2 63 "java/lang/StringUTF16" "LO_BYTE_SHIFT" "I"]
def wsJ0_charAt_5068e : List Cond := .code yJ0_charAt_5068e cJ0_charAt_5068e 2 (some .char) :: ((wsJ0_charAt_5068e_r1 ++ wsJ0_charAt_5068e_r2))
def wsX3_isWord_r1 : List Cond := [Cond.fieldLink RX3 43 "CostumeStock$Reader" "token" "I", Cond.fieldLink RX3 37 "CostumeStock$Reader" "end" "I", Cond.fieldLink RX3 77 "CostumeStock$Reader" "start" "I", Cond.fieldLink RX3 9 "CostumeStock$Reader" "text" "LCostumeStock$Text;", Cond.fieldLink RX3 72 "CostumeStock$Text" "characters" "[I", Cond.methodLink RX3 94 yJ0_length_8abf5, Cond.instanceMethod yJ0_length_8abf5, Cond.selects RJ0 yJ0_length_8abf5 yJ0_length_8abf5, Cond.initialized RJ0, Cond.code yJ0_length_8abf5 cJ0_length_8abf5 1 (some .int), Cond.fieldLink RJ0 9 "java/lang/String" "value" "[B", Cond.methodLink RJ0 335 yJ0_coder_7d493, Cond.instanceMethod yJ0_coder_7d493, Cond.selects RJ0 yJ0_coder_7d493 yJ0_coder_7d493, Cond.code yJ0_coder_7d493 cJ0_coder_7d493 1 (some .byte), Cond.fieldLink RJ0 38 "java/lang/String" "COMPACT_STRINGS" "Z", Cond.fieldLink RJ0 15 "java/lang/String" "coder" "B", Cond.static yX7_at, Cond.initialized RX7, Cond.code yX7_at cX7_at 2 (some .int), Cond.methodLink RX3 100 yJ0_charAt_5068e, Cond.instanceMethod yJ0_charAt_5068e, Cond.selects RJ0 yJ0_charAt_5068e yJ0_charAt_5068e, Cond.code yJ0_charAt_5068e cJ0_charAt_5068e 2 (some .char)]
def wsX3_isWord_r2 : List Cond := [Cond.methodLink RJ0 492 yJ0_isLatin1_aae02, Cond.instanceMethod yJ0_isLatin1_aae02, Cond.selects RJ0 yJ0_isLatin1_aae02 yJ0_isLatin1_aae02, Cond.code yJ0_isLatin1_aae02 cJ0_isLatin1_aae02 1 (some .boolean), Cond.methodLink RJ0 495 yJ1_charAt_3b067, Cond.static yJ1_charAt_3b067, Cond.initialized RJ1, Cond.code yJ1_charAt_3b067 cJ1_charAt_3b067 2 (some .char), Cond.methodLink RJ1 9 yJ0_checkIndex_df160, Cond.static yJ0_checkIndex_df160, Cond.code yJ0_checkIndex_df160 cJ0_checkIndex_df160 2 none, Cond.fieldLink RJ0 1053 "jdk/internal/util/Preconditions" "SIOOBE_FORMATTER" "Ljava/util/function/BiFunction;", Cond.methodLink RJ0 1059 yJ3_checkIndex_8e157, Cond.static yJ3_checkIndex_8e157, Cond.initialized RJ3, Cond.code yJ3_checkIndex_8e157 cJ3_checkIndex_8e157 3 (some .int), Cond.methodLink RJ0 498 yJ2_charAt_3b067, Cond.static yJ2_charAt_3b067, Cond.initialized RJ2, Cond.code yJ2_charAt_3b067 cJ2_charAt_3b067 2 (some .char), Cond.methodLink RJ2 67 yJ2_checkIndex_2214a, Cond.static yJ2_checkIndex_2214a, Cond.code yJ2_checkIndex_2214a cJ2_checkIndex_2214a 2 none, Cond.methodLink RJ2 48 yJ2_length_9d52b]
def wsX3_isWord_r3 : List Cond := [Cond.static yJ2_length_9d52b, Cond.code yJ2_length_9d52b cJ2_length_9d52b 1 (some .int), Cond.methodLink RJ2 414 yJ0_checkIndex_df160, Cond.methodLink RJ2 71 yJ2_getChar_3b067, Cond.static yJ2_getChar_3b067, Cond.code yJ2_getChar_3b067 cJ2_getChar_3b067 2 (some .char), Cond.fieldLink RJ2 44 "java/lang/StringUTF16" "$assertionsDisabled" "Z", Cond.fieldLink RJ2 59 "java/lang/StringUTF16" "HI_BYTE_SHIFT" "I", Cond.fieldLink RJ2 63 "java/lang/StringUTF16" "LO_BYTE_SHIFT" "I"]
def wsX3_isWord : List Cond := .code yX3_isWord cX3_isWord 3 (some .boolean) :: ((wsX3_isWord_r1 ++ (wsX3_isWord_r2 ++ wsX3_isWord_r3)) ++ wsX30 ++ wsX50)
def wsX3_takePlace : List Cond := .code yX3_takePlace cX3_takePlace 2 (some .boolean) :: ([.fieldLink RX3 31 "CostumeStock$Reader" "costumesLeft" "I", .fieldLink RX3 34 "CostumeStock$Reader" "actorsLeft" "I"] ++ wsX30)
def wsX3_isAllowed : List Cond := .code yX3_isAllowed cX3_isAllowed 2 (some .boolean) :: ([.static yX7_isWithin, .initialized RX7, .code yX7_isWithin cX7_isWithin 3 (some .boolean)])
def wsX3_readNumber_r1 : List Cond := [Cond.fieldLink RX3 37 "CostumeStock$Reader" "end" "I", Cond.fieldLink RX3 77 "CostumeStock$Reader" "start" "I", Cond.fieldLink RX3 9 "CostumeStock$Reader" "text" "LCostumeStock$Text;", Cond.fieldLink RX3 72 "CostumeStock$Text" "characters" "[I", Cond.fieldLink RX3 43 "CostumeStock$Reader" "token" "I", Cond.methodLink RX3 80 Lib.Math.min.name, Cond.static Lib.Math.min.name, Cond.initialized "java/lang/Math", Cond.code Lib.Math.min.name Lib.Math.min.code 2 (some .int), Cond.methodLink RX3 40 yX3_nextToken, Cond.instanceMethod yX3_nextToken, Cond.selects RX3 yX3_nextToken yX3_nextToken, Cond.initialized RX3, Cond.code yX3_nextToken cX3_nextToken 1 none, Cond.fieldLink RX3 104 "CostumeStock$Text" "length" "I", Cond.static yX7_at, Cond.initialized RX7, Cond.code yX7_at cX7_at 2 (some .int), Cond.methodLink RX3 106 yX3_kindAt, Cond.instanceMethod yX3_kindAt, Cond.selects RX3 yX3_kindAt yX3_kindAt, Cond.code yX3_kindAt cX3_kindAt 3 (some .int), Cond.static yX7_isWithin, Cond.code yX7_isWithin cX7_isWithin 3 (some .boolean)]
def wsX3_readNumber_r2 : List Cond := [Cond.methodLink RX3 62 yX3_keep, Cond.instanceMethod yX3_keep, Cond.selects RX3 yX3_keep yX3_keep, Cond.code yX3_keep cX3_keep 3 none, Cond.fieldLink RX3 15 "CostumeStock$Reader" "parts" "[I", Cond.fieldLink RX3 23 "CostumeStock$Reader" "items" "I", Cond.static yX7_put, Cond.code yX7_put cX7_put 3 none, Cond.methodLink RX3 86 yX3_isAllowed, Cond.static yX3_isAllowed, Cond.code yX3_isAllowed cX3_isAllowed 2 (some .boolean)]
def wsX3_readNumber : List Cond := .code yX3_readNumber cX3_readNumber 5 (some .boolean) :: ((wsX3_readNumber_r1 ++ wsX3_readNumber_r2) ++ wsX30 ++ wsX50)
def wsX3_readItem_r1 : List Cond := [Cond.fieldLink RX3 43 "CostumeStock$Reader" "token" "I", Cond.fieldLink RX3 9 "CostumeStock$Reader" "text" "LCostumeStock$Text;", Cond.fieldLink RX3 72 "CostumeStock$Text" "characters" "[I", Cond.fieldLink RX3 77 "CostumeStock$Reader" "start" "I", Cond.methodLink RX3 52 yX3_isWord, Cond.instanceMethod yX3_isWord, Cond.selects RX3 yX3_isWord yX3_isWord, Cond.initialized RX3, Cond.code yX3_isWord cX3_isWord 3 (some .boolean), Cond.fieldLink RX3 37 "CostumeStock$Reader" "end" "I", Cond.methodLink RX3 94 yJ0_length_8abf5, Cond.instanceMethod yJ0_length_8abf5, Cond.selects RJ0 yJ0_length_8abf5 yJ0_length_8abf5, Cond.initialized RJ0, Cond.code yJ0_length_8abf5 cJ0_length_8abf5 1 (some .int), Cond.fieldLink RJ0 9 "java/lang/String" "value" "[B", Cond.methodLink RJ0 335 yJ0_coder_7d493, Cond.instanceMethod yJ0_coder_7d493, Cond.selects RJ0 yJ0_coder_7d493 yJ0_coder_7d493, Cond.code yJ0_coder_7d493 cJ0_coder_7d493 1 (some .byte), Cond.fieldLink RJ0 38 "java/lang/String" "COMPACT_STRINGS" "Z", Cond.fieldLink RJ0 15 "java/lang/String" "coder" "B", Cond.static yX7_at, Cond.initialized RX7]
def wsX3_readItem_r2 : List Cond := [Cond.code yX7_at cX7_at 2 (some .int), Cond.methodLink RX3 100 yJ0_charAt_5068e, Cond.instanceMethod yJ0_charAt_5068e, Cond.selects RJ0 yJ0_charAt_5068e yJ0_charAt_5068e, Cond.code yJ0_charAt_5068e cJ0_charAt_5068e 2 (some .char), Cond.methodLink RJ0 492 yJ0_isLatin1_aae02, Cond.instanceMethod yJ0_isLatin1_aae02, Cond.selects RJ0 yJ0_isLatin1_aae02 yJ0_isLatin1_aae02, Cond.code yJ0_isLatin1_aae02 cJ0_isLatin1_aae02 1 (some .boolean), Cond.methodLink RJ0 495 yJ1_charAt_3b067, Cond.static yJ1_charAt_3b067, Cond.initialized RJ1, Cond.code yJ1_charAt_3b067 cJ1_charAt_3b067 2 (some .char), Cond.methodLink RJ1 9 yJ0_checkIndex_df160, Cond.static yJ0_checkIndex_df160, Cond.code yJ0_checkIndex_df160 cJ0_checkIndex_df160 2 none, Cond.fieldLink RJ0 1053 "jdk/internal/util/Preconditions" "SIOOBE_FORMATTER" "Ljava/util/function/BiFunction;", Cond.methodLink RJ0 1059 yJ3_checkIndex_8e157, Cond.static yJ3_checkIndex_8e157, Cond.initialized RJ3, Cond.code yJ3_checkIndex_8e157 cJ3_checkIndex_8e157 3 (some .int), Cond.methodLink RJ0 498 yJ2_charAt_3b067, Cond.static yJ2_charAt_3b067, Cond.initialized RJ2]
def wsX3_readItem_r3 : List Cond := [Cond.code yJ2_charAt_3b067 cJ2_charAt_3b067 2 (some .char), Cond.methodLink RJ2 67 yJ2_checkIndex_2214a, Cond.static yJ2_checkIndex_2214a, Cond.code yJ2_checkIndex_2214a cJ2_checkIndex_2214a 2 none, Cond.methodLink RJ2 48 yJ2_length_9d52b, Cond.static yJ2_length_9d52b, Cond.code yJ2_length_9d52b cJ2_length_9d52b 1 (some .int), Cond.methodLink RJ2 414 yJ0_checkIndex_df160, Cond.methodLink RJ2 71 yJ2_getChar_3b067, Cond.static yJ2_getChar_3b067, Cond.code yJ2_getChar_3b067 cJ2_getChar_3b067 2 (some .char), Cond.fieldLink RJ2 44 "java/lang/StringUTF16" "$assertionsDisabled" "Z", Cond.fieldLink RJ2 59 "java/lang/StringUTF16" "HI_BYTE_SHIFT" "I", Cond.fieldLink RJ2 63 "java/lang/StringUTF16" "LO_BYTE_SHIFT" "I", Cond.methodLink RX3 58 yX3_takePlace, Cond.instanceMethod yX3_takePlace, Cond.selects RX3 yX3_takePlace yX3_takePlace, Cond.code yX3_takePlace cX3_takePlace 2 (some .boolean), Cond.fieldLink RX3 31 "CostumeStock$Reader" "costumesLeft" "I", Cond.fieldLink RX3 34 "CostumeStock$Reader" "actorsLeft" "I", Cond.methodLink RX3 62 yX3_keep, Cond.instanceMethod yX3_keep, Cond.selects RX3 yX3_keep yX3_keep, Cond.code yX3_keep cX3_keep 3 none]
def wsX3_readItem_r4 : List Cond := [Cond.fieldLink RX3 15 "CostumeStock$Reader" "parts" "[I", Cond.fieldLink RX3 23 "CostumeStock$Reader" "items" "I", Cond.static yX7_put, Cond.code yX7_put cX7_put 3 none, Cond.methodLink RX3 66 yX3_readNumber, Cond.instanceMethod yX3_readNumber, Cond.selects RX3 yX3_readNumber yX3_readNumber, Cond.code yX3_readNumber cX3_readNumber 5 (some .boolean), Cond.methodLink RX3 80 Lib.Math.min.name, Cond.static Lib.Math.min.name, Cond.initialized "java/lang/Math", Cond.code Lib.Math.min.name Lib.Math.min.code 2 (some .int), Cond.methodLink RX3 40 yX3_nextToken, Cond.instanceMethod yX3_nextToken, Cond.selects RX3 yX3_nextToken yX3_nextToken, Cond.code yX3_nextToken cX3_nextToken 1 none, Cond.fieldLink RX3 104 "CostumeStock$Text" "length" "I", Cond.methodLink RX3 106 yX3_kindAt, Cond.instanceMethod yX3_kindAt, Cond.selects RX3 yX3_kindAt yX3_kindAt, Cond.code yX3_kindAt cX3_kindAt 3 (some .int), Cond.static yX7_isWithin, Cond.code yX7_isWithin cX7_isWithin 3 (some .boolean), Cond.methodLink RX3 86 yX3_isAllowed]
def wsX3_readItem_r5 : List Cond := [Cond.static yX3_isAllowed, Cond.code yX3_isAllowed cX3_isAllowed 2 (some .boolean)]
def wsX3_readItem : List Cond := .code yX3_readItem cX3_readItem 4 (some .boolean) :: ((wsX3_readItem_r1 ++ (wsX3_readItem_r2 ++ (wsX3_readItem_r3 ++ (wsX3_readItem_r4 ++ wsX3_readItem_r5)))) ++ wsX30 ++ wsX50)
def wsX3_readAll_r1 : List Cond := [Cond.fieldLink RX3 31 "CostumeStock$Reader" "costumesLeft" "I", Cond.fieldLink RX3 34 "CostumeStock$Reader" "actorsLeft" "I", Cond.fieldLink RX3 23 "CostumeStock$Reader" "items" "I", Cond.fieldLink RX3 37 "CostumeStock$Reader" "end" "I", Cond.fieldLink RX3 43 "CostumeStock$Reader" "token" "I", Cond.methodLink RX3 40 yX3_nextToken, Cond.instanceMethod yX3_nextToken, Cond.selects RX3 yX3_nextToken yX3_nextToken, Cond.initialized RX3, Cond.code yX3_nextToken cX3_nextToken 1 none, Cond.fieldLink RX3 77 "CostumeStock$Reader" "start" "I", Cond.fieldLink RX3 9 "CostumeStock$Reader" "text" "LCostumeStock$Text;", Cond.fieldLink RX3 104 "CostumeStock$Text" "length" "I", Cond.fieldLink RX3 72 "CostumeStock$Text" "characters" "[I", Cond.static yX7_at, Cond.initialized RX7, Cond.code yX7_at cX7_at 2 (some .int), Cond.methodLink RX3 106 yX3_kindAt, Cond.instanceMethod yX3_kindAt, Cond.selects RX3 yX3_kindAt yX3_kindAt, Cond.code yX3_kindAt cX3_kindAt 3 (some .int), Cond.static yX7_isWithin, Cond.code yX7_isWithin cX7_isWithin 3 (some .boolean), Cond.methodLink RX3 46 yX3_readItem]
def wsX3_readAll_r2 : List Cond := [Cond.instanceMethod yX3_readItem, Cond.selects RX3 yX3_readItem yX3_readItem, Cond.code yX3_readItem cX3_readItem 4 (some .boolean), Cond.methodLink RX3 52 yX3_isWord, Cond.instanceMethod yX3_isWord, Cond.selects RX3 yX3_isWord yX3_isWord, Cond.code yX3_isWord cX3_isWord 3 (some .boolean), Cond.methodLink RX3 94 yJ0_length_8abf5, Cond.instanceMethod yJ0_length_8abf5, Cond.selects RJ0 yJ0_length_8abf5 yJ0_length_8abf5, Cond.initialized RJ0, Cond.code yJ0_length_8abf5 cJ0_length_8abf5 1 (some .int), Cond.fieldLink RJ0 9 "java/lang/String" "value" "[B", Cond.methodLink RJ0 335 yJ0_coder_7d493, Cond.instanceMethod yJ0_coder_7d493, Cond.selects RJ0 yJ0_coder_7d493 yJ0_coder_7d493, Cond.code yJ0_coder_7d493 cJ0_coder_7d493 1 (some .byte), Cond.fieldLink RJ0 38 "java/lang/String" "COMPACT_STRINGS" "Z", Cond.fieldLink RJ0 15 "java/lang/String" "coder" "B", Cond.methodLink RX3 100 yJ0_charAt_5068e, Cond.instanceMethod yJ0_charAt_5068e, Cond.selects RJ0 yJ0_charAt_5068e yJ0_charAt_5068e, Cond.code yJ0_charAt_5068e cJ0_charAt_5068e 2 (some .char), Cond.methodLink RJ0 492 yJ0_isLatin1_aae02]
def wsX3_readAll_r3 : List Cond := [Cond.instanceMethod yJ0_isLatin1_aae02, Cond.selects RJ0 yJ0_isLatin1_aae02 yJ0_isLatin1_aae02, Cond.code yJ0_isLatin1_aae02 cJ0_isLatin1_aae02 1 (some .boolean), Cond.methodLink RJ0 495 yJ1_charAt_3b067, Cond.static yJ1_charAt_3b067, Cond.initialized RJ1, Cond.code yJ1_charAt_3b067 cJ1_charAt_3b067 2 (some .char), Cond.methodLink RJ1 9 yJ0_checkIndex_df160, Cond.static yJ0_checkIndex_df160, Cond.code yJ0_checkIndex_df160 cJ0_checkIndex_df160 2 none, Cond.fieldLink RJ0 1053 "jdk/internal/util/Preconditions" "SIOOBE_FORMATTER" "Ljava/util/function/BiFunction;", Cond.methodLink RJ0 1059 yJ3_checkIndex_8e157, Cond.static yJ3_checkIndex_8e157, Cond.initialized RJ3, Cond.code yJ3_checkIndex_8e157 cJ3_checkIndex_8e157 3 (some .int), Cond.methodLink RJ0 498 yJ2_charAt_3b067, Cond.static yJ2_charAt_3b067, Cond.initialized RJ2, Cond.code yJ2_charAt_3b067 cJ2_charAt_3b067 2 (some .char), Cond.methodLink RJ2 67 yJ2_checkIndex_2214a, Cond.static yJ2_checkIndex_2214a, Cond.code yJ2_checkIndex_2214a cJ2_checkIndex_2214a 2 none, Cond.methodLink RJ2 48 yJ2_length_9d52b, Cond.static yJ2_length_9d52b]
def wsX3_readAll_r4 : List Cond := [Cond.code yJ2_length_9d52b cJ2_length_9d52b 1 (some .int), Cond.methodLink RJ2 414 yJ0_checkIndex_df160, Cond.methodLink RJ2 71 yJ2_getChar_3b067, Cond.static yJ2_getChar_3b067, Cond.code yJ2_getChar_3b067 cJ2_getChar_3b067 2 (some .char), Cond.fieldLink RJ2 44 "java/lang/StringUTF16" "$assertionsDisabled" "Z", Cond.fieldLink RJ2 59 "java/lang/StringUTF16" "HI_BYTE_SHIFT" "I", Cond.fieldLink RJ2 63 "java/lang/StringUTF16" "LO_BYTE_SHIFT" "I", Cond.methodLink RX3 58 yX3_takePlace, Cond.instanceMethod yX3_takePlace, Cond.selects RX3 yX3_takePlace yX3_takePlace, Cond.code yX3_takePlace cX3_takePlace 2 (some .boolean), Cond.methodLink RX3 62 yX3_keep, Cond.instanceMethod yX3_keep, Cond.selects RX3 yX3_keep yX3_keep, Cond.code yX3_keep cX3_keep 3 none, Cond.fieldLink RX3 15 "CostumeStock$Reader" "parts" "[I", Cond.static yX7_put, Cond.code yX7_put cX7_put 3 none, Cond.methodLink RX3 66 yX3_readNumber, Cond.instanceMethod yX3_readNumber, Cond.selects RX3 yX3_readNumber yX3_readNumber, Cond.code yX3_readNumber cX3_readNumber 5 (some .boolean), Cond.methodLink RX3 80 Lib.Math.min.name]
def wsX3_readAll_r5 : List Cond := [Cond.static Lib.Math.min.name, Cond.initialized "java/lang/Math", Cond.code Lib.Math.min.name Lib.Math.min.code 2 (some .int), Cond.methodLink RX3 86 yX3_isAllowed, Cond.static yX3_isAllowed, Cond.code yX3_isAllowed cX3_isAllowed 2 (some .boolean)]
def wsX3_readAll : List Cond := .code yX3_readAll cX3_readAll 4 (some .boolean) :: ((wsX3_readAll_r1 ++ (wsX3_readAll_r2 ++ (wsX3_readAll_r3 ++ (wsX3_readAll_r4 ++ wsX3_readAll_r5)))) ++ wsX30 ++ wsX50)
def wsX4_isAway : List Cond := .code yX4_isAway cX4_isAway 2 (some .boolean) :: ([.fieldLink RX4 28 "CostumeStock$State" "hires" "LCostumeStock$Hires;", .fieldLink RX4 50 "CostumeStock$State" "today" "I", .methodLink RX4 66 yX1_overlapping, .instanceMethod yX1_overlapping, .selects RX1 yX1_overlapping yX1_overlapping, .initialized RX1, .code yX1_overlapping cX1_overlapping 5 (some .int), .fieldLink RX1 27 "CostumeStock$Hires" "size" "I", .fieldLink RX1 9 "CostumeStock$Hires" "costume" "[I", .fieldLink RX1 15 "CostumeStock$Hires" "first" "[I", .static yX7_at, .initialized RX7, .code yX7_at cX7_at 2 (some .int), .methodLink RX1 47 yX1_dayAfter, .instanceMethod yX1_dayAfter, .selects RX1 yX1_dayAfter yX1_dayAfter, .code yX1_dayAfter cX1_dayAfter 2 (some .int), .fieldLink RX1 18 "CostumeStock$Hires" "days" "[I"] ++ wsX40 ++ wsX10)
def wsX4_awayToday_r1 : List Cond := [Cond.fieldLink RX4 12 "CostumeStock$State" "wardrobe" "LCostumeStock$Wardrobe;", Cond.fieldLink RX4 70 "CostumeStock$Wardrobe" "size" "I", Cond.methodLink RX4 73 yX4_isAway, Cond.instanceMethod yX4_isAway, Cond.selects RX4 yX4_isAway yX4_isAway, Cond.initialized RX4, Cond.code yX4_isAway cX4_isAway 2 (some .boolean), Cond.fieldLink RX4 28 "CostumeStock$State" "hires" "LCostumeStock$Hires;", Cond.fieldLink RX4 50 "CostumeStock$State" "today" "I", Cond.methodLink RX4 66 yX1_overlapping, Cond.instanceMethod yX1_overlapping, Cond.selects RX1 yX1_overlapping yX1_overlapping, Cond.initialized RX1, Cond.code yX1_overlapping cX1_overlapping 5 (some .int), Cond.fieldLink RX1 27 "CostumeStock$Hires" "size" "I", Cond.fieldLink RX1 9 "CostumeStock$Hires" "costume" "[I", Cond.fieldLink RX1 15 "CostumeStock$Hires" "first" "[I", Cond.static yX7_at, Cond.initialized RX7, Cond.code yX7_at cX7_at 2 (some .int), Cond.methodLink RX1 47 yX1_dayAfter, Cond.instanceMethod yX1_dayAfter, Cond.selects RX1 yX1_dayAfter yX1_dayAfter, Cond.code yX1_dayAfter cX1_dayAfter 2 (some .int)]
def wsX4_awayToday_r2 : List Cond := [Cond.fieldLink RX1 18 "CostumeStock$Hires" "days" "[I"]
def wsX4_awayToday : List Cond := .code yX4_awayToday cX4_awayToday 3 (some .int) :: ((wsX4_awayToday_r1 ++ wsX4_awayToday_r2) ++ wsX40 ++ wsX60 ++ wsX10)
def wsX4_isTooDirty : List Cond := .code yX4_isTooDirty cX4_isTooDirty 2 (some .boolean) :: ([.fieldLink RX4 12 "CostumeStock$State" "wardrobe" "LCostumeStock$Wardrobe;", .fieldLink RX4 77 "CostumeStock$Wardrobe" "dirt" "[I", .fieldLink RX4 32 "CostumeStock$State" "settings" "[I", .static yX7_at, .initialized RX7, .code yX7_at cX7_at 2 (some .int)] ++ wsX40 ++ wsX60)
def wsX6_originalOf : List Cond := .code yX6_originalOf cX6_originalOf 3 (some .int) :: ([.fieldLink RX6 9 "CostumeStock$Wardrobe" "original" "[I", .static yX7_at, .initialized RX7, .code yX7_at cX7_at 2 (some .int)] ++ wsX60)
def wsX6_placeOf : List Cond := .code yX6_placeOf cX6_placeOf 3 (some .int) :: ([])
def wsX6_present : List Cond := .code yX6_present cX6_present 7 (some .int) :: ([.fieldLink RX6 27 "CostumeStock$Wardrobe" "alterations" "[I", .fieldLink RX6 30 "CostumeStock$Wardrobe" "alteredMeasure" "[I", .fieldLink RX6 33 "CostumeStock$Wardrobe" "change" "[I", .methodLink RX6 52 yX6_originalOf, .instanceMethod yX6_originalOf, .selects RX6 yX6_originalOf yX6_originalOf, .initialized RX6, .code yX6_originalOf cX6_originalOf 3 (some .int), .fieldLink RX6 9 "CostumeStock$Wardrobe" "original" "[I", .static yX7_at, .initialized RX7, .code yX7_at cX7_at 2 (some .int), .methodLink RX6 56 yX6_placeOf, .instanceMethod yX6_placeOf, .selects RX6 yX6_placeOf yX6_placeOf, .code yX6_placeOf cX6_placeOf 3 (some .int)] ++ wsX60)
def wsX4_lackOf_r1 : List Cond := [Cond.fieldLink RX4 12 "CostumeStock$State" "wardrobe" "LCostumeStock$Wardrobe;", Cond.fieldLink RX4 21 "CostumeStock$State" "cast" "LCostumeStock$Cast;", Cond.fieldLink RX4 32 "CostumeStock$State" "settings" "[I", Cond.methodLink RX4 84 yX6_present, Cond.instanceMethod yX6_present, Cond.selects RX6 yX6_present yX6_present, Cond.initialized RX6, Cond.code yX6_present cX6_present 7 (some .int), Cond.fieldLink RX6 27 "CostumeStock$Wardrobe" "alterations" "[I", Cond.fieldLink RX6 30 "CostumeStock$Wardrobe" "alteredMeasure" "[I", Cond.fieldLink RX6 33 "CostumeStock$Wardrobe" "change" "[I", Cond.methodLink RX6 52 yX6_originalOf, Cond.instanceMethod yX6_originalOf, Cond.selects RX6 yX6_originalOf yX6_originalOf, Cond.code yX6_originalOf cX6_originalOf 3 (some .int), Cond.fieldLink RX6 9 "CostumeStock$Wardrobe" "original" "[I", Cond.static yX7_at, Cond.initialized RX7, Cond.code yX7_at cX7_at 2 (some .int), Cond.methodLink RX6 56 yX6_placeOf, Cond.instanceMethod yX6_placeOf, Cond.selects RX6 yX6_placeOf yX6_placeOf, Cond.code yX6_placeOf cX6_placeOf 3 (some .int), Cond.methodLink RX4 88 yX0_measureOf]
def wsX4_lackOf_r2 : List Cond := [Cond.instanceMethod yX0_measureOf, Cond.selects RX0 yX0_measureOf yX0_measureOf, Cond.initialized RX0, Cond.code yX0_measureOf cX0_measureOf 3 (some .int), Cond.fieldLink RX0 9 "CostumeStock$Cast" "measures" "[I"]
def wsX4_lackOf : List Cond := .code yX4_lackOf cX4_lackOf 7 (some .int) :: ((wsX4_lackOf_r1 ++ wsX4_lackOf_r2) ++ wsX40 ++ wsX60 ++ wsX00)
def wsX4_misfitOf_r1 : List Cond := [Cond.methodLink RX4 94 Lib.Math.abs.name, Cond.static Lib.Math.abs.name, Cond.initialized "java/lang/Math", Cond.code Lib.Math.abs.name Lib.Math.abs.code 1 (some .int), Cond.methodLink RX4 91 yX4_lackOf, Cond.instanceMethod yX4_lackOf, Cond.selects RX4 yX4_lackOf yX4_lackOf, Cond.initialized RX4, Cond.code yX4_lackOf cX4_lackOf 7 (some .int), Cond.fieldLink RX4 12 "CostumeStock$State" "wardrobe" "LCostumeStock$Wardrobe;", Cond.fieldLink RX4 21 "CostumeStock$State" "cast" "LCostumeStock$Cast;", Cond.fieldLink RX4 32 "CostumeStock$State" "settings" "[I", Cond.methodLink RX4 84 yX6_present, Cond.instanceMethod yX6_present, Cond.selects RX6 yX6_present yX6_present, Cond.initialized RX6, Cond.code yX6_present cX6_present 7 (some .int), Cond.fieldLink RX6 27 "CostumeStock$Wardrobe" "alterations" "[I", Cond.fieldLink RX6 30 "CostumeStock$Wardrobe" "alteredMeasure" "[I", Cond.fieldLink RX6 33 "CostumeStock$Wardrobe" "change" "[I", Cond.methodLink RX6 52 yX6_originalOf, Cond.instanceMethod yX6_originalOf, Cond.selects RX6 yX6_originalOf yX6_originalOf, Cond.code yX6_originalOf cX6_originalOf 3 (some .int)]
def wsX4_misfitOf_r2 : List Cond := [Cond.fieldLink RX6 9 "CostumeStock$Wardrobe" "original" "[I", Cond.static yX7_at, Cond.initialized RX7, Cond.code yX7_at cX7_at 2 (some .int), Cond.methodLink RX6 56 yX6_placeOf, Cond.instanceMethod yX6_placeOf, Cond.selects RX6 yX6_placeOf yX6_placeOf, Cond.code yX6_placeOf cX6_placeOf 3 (some .int), Cond.methodLink RX4 88 yX0_measureOf, Cond.instanceMethod yX0_measureOf, Cond.selects RX0 yX0_measureOf yX0_measureOf, Cond.initialized RX0, Cond.code yX0_measureOf cX0_measureOf 3 (some .int), Cond.fieldLink RX0 9 "CostumeStock$Cast" "measures" "[I"]
def wsX4_misfitOf : List Cond := .code yX4_misfitOf cX4_misfitOf 5 (some .int) :: ((wsX4_misfitOf_r1 ++ wsX4_misfitOf_r2) ++ wsX40 ++ wsX60 ++ wsX00)
def wsX6_roomForAlterations : List Cond := .code yX6_roomForAlterations cX6_roomForAlterations 2 (some .int) :: ([.fieldLink RX6 27 "CostumeStock$Wardrobe" "alterations" "[I", .static yX7_at, .initialized RX7, .code yX7_at cX7_at 2 (some .int)] ++ wsX60)
def wsX6_allows : List Cond := .code yX6_allows cX6_allows 6 (some .boolean) :: ([.fieldLink RX6 15 "CostumeStock$Wardrobe" "allowance" "[I", .methodLink RX6 52 yX6_originalOf, .instanceMethod yX6_originalOf, .selects RX6 yX6_originalOf yX6_originalOf, .initialized RX6, .code yX6_originalOf cX6_originalOf 3 (some .int), .fieldLink RX6 9 "CostumeStock$Wardrobe" "original" "[I", .static yX7_at, .initialized RX7, .code yX7_at cX7_at 2 (some .int), .methodLink RX6 59 yX6_present, .instanceMethod yX6_present, .selects RX6 yX6_present yX6_present, .code yX6_present cX6_present 7 (some .int), .fieldLink RX6 27 "CostumeStock$Wardrobe" "alterations" "[I", .fieldLink RX6 30 "CostumeStock$Wardrobe" "alteredMeasure" "[I", .fieldLink RX6 33 "CostumeStock$Wardrobe" "change" "[I", .methodLink RX6 56 yX6_placeOf, .instanceMethod yX6_placeOf, .selects RX6 yX6_placeOf yX6_placeOf, .code yX6_placeOf cX6_placeOf 3 (some .int)] ++ wsX60)
def wsX4_leastChange_r1 : List Cond := [Cond.fieldLink RX4 12 "CostumeStock$State" "wardrobe" "LCostumeStock$Wardrobe;", Cond.methodLink RX4 94 Lib.Math.abs.name, Cond.static Lib.Math.abs.name, Cond.initialized "java/lang/Math", Cond.code Lib.Math.abs.name Lib.Math.abs.code 1 (some .int), Cond.methodLink RX4 100 yX6_roomForAlterations, Cond.instanceMethod yX6_roomForAlterations, Cond.selects RX6 yX6_roomForAlterations yX6_roomForAlterations, Cond.initialized RX6, Cond.code yX6_roomForAlterations cX6_roomForAlterations 2 (some .int), Cond.fieldLink RX6 27 "CostumeStock$Wardrobe" "alterations" "[I", Cond.static yX7_at, Cond.initialized RX7, Cond.code yX7_at cX7_at 2 (some .int), Cond.methodLink RX4 91 yX4_lackOf, Cond.instanceMethod yX4_lackOf, Cond.selects RX4 yX4_lackOf yX4_lackOf, Cond.initialized RX4, Cond.code yX4_lackOf cX4_lackOf 7 (some .int), Cond.fieldLink RX4 21 "CostumeStock$State" "cast" "LCostumeStock$Cast;", Cond.fieldLink RX4 32 "CostumeStock$State" "settings" "[I", Cond.methodLink RX4 84 yX6_present, Cond.instanceMethod yX6_present, Cond.selects RX6 yX6_present yX6_present]
def wsX4_leastChange_r2 : List Cond := [Cond.code yX6_present cX6_present 7 (some .int), Cond.fieldLink RX6 30 "CostumeStock$Wardrobe" "alteredMeasure" "[I", Cond.fieldLink RX6 33 "CostumeStock$Wardrobe" "change" "[I", Cond.methodLink RX6 52 yX6_originalOf, Cond.instanceMethod yX6_originalOf, Cond.selects RX6 yX6_originalOf yX6_originalOf, Cond.code yX6_originalOf cX6_originalOf 3 (some .int), Cond.fieldLink RX6 9 "CostumeStock$Wardrobe" "original" "[I", Cond.methodLink RX6 56 yX6_placeOf, Cond.instanceMethod yX6_placeOf, Cond.selects RX6 yX6_placeOf yX6_placeOf, Cond.code yX6_placeOf cX6_placeOf 3 (some .int), Cond.methodLink RX4 88 yX0_measureOf, Cond.instanceMethod yX0_measureOf, Cond.selects RX0 yX0_measureOf yX0_measureOf, Cond.initialized RX0, Cond.code yX0_measureOf cX0_measureOf 3 (some .int), Cond.fieldLink RX0 9 "CostumeStock$Cast" "measures" "[I", Cond.methodLink RX4 103 yX6_allows, Cond.instanceMethod yX6_allows, Cond.selects RX6 yX6_allows yX6_allows, Cond.code yX6_allows cX6_allows 6 (some .boolean), Cond.fieldLink RX6 15 "CostumeStock$Wardrobe" "allowance" "[I", Cond.methodLink RX6 59 yX6_present]
def wsX4_leastChange : List Cond := .code yX4_leastChange cX4_leastChange 7 (some .int) :: ((wsX4_leastChange_r1 ++ wsX4_leastChange_r2) ++ wsX40 ++ wsX60 ++ wsX00)
def wsX4_isFreeFor_r1 : List Cond := [Cond.methodLink RX4 116 Lib.Math.min.name, Cond.static Lib.Math.min.name, Cond.initialized "java/lang/Math", Cond.code Lib.Math.min.name Lib.Math.min.code 2 (some .int), Cond.methodLink RX4 119 Lib.Math.max.name, Cond.static Lib.Math.max.name, Cond.code Lib.Math.max.name Lib.Math.max.code 2 (some .int), Cond.fieldLink RX4 21 "CostumeStock$State" "cast" "LCostumeStock$Cast;", Cond.methodLink RX4 73 yX4_isAway, Cond.instanceMethod yX4_isAway, Cond.selects RX4 yX4_isAway yX4_isAway, Cond.initialized RX4, Cond.code yX4_isAway cX4_isAway 2 (some .boolean), Cond.fieldLink RX4 28 "CostumeStock$State" "hires" "LCostumeStock$Hires;", Cond.fieldLink RX4 50 "CostumeStock$State" "today" "I", Cond.methodLink RX4 66 yX1_overlapping, Cond.instanceMethod yX1_overlapping, Cond.selects RX1 yX1_overlapping yX1_overlapping, Cond.initialized RX1, Cond.code yX1_overlapping cX1_overlapping 5 (some .int), Cond.fieldLink RX1 27 "CostumeStock$Hires" "size" "I", Cond.fieldLink RX1 9 "CostumeStock$Hires" "costume" "[I", Cond.fieldLink RX1 15 "CostumeStock$Hires" "first" "[I", Cond.static yX7_at]
def wsX4_isFreeFor_r2 : List Cond := [Cond.initialized RX7, Cond.code yX7_at cX7_at 2 (some .int), Cond.methodLink RX1 47 yX1_dayAfter, Cond.instanceMethod yX1_dayAfter, Cond.selects RX1 yX1_dayAfter yX1_dayAfter, Cond.code yX1_dayAfter cX1_dayAfter 2 (some .int), Cond.fieldLink RX1 18 "CostumeStock$Hires" "days" "[I", Cond.methodLink RX4 113 yX4_isTooDirty, Cond.instanceMethod yX4_isTooDirty, Cond.selects RX4 yX4_isTooDirty yX4_isTooDirty, Cond.code yX4_isTooDirty cX4_isTooDirty 2 (some .boolean), Cond.fieldLink RX4 12 "CostumeStock$State" "wardrobe" "LCostumeStock$Wardrobe;", Cond.fieldLink RX4 77 "CostumeStock$Wardrobe" "dirt" "[I", Cond.fieldLink RX4 32 "CostumeStock$State" "settings" "[I", Cond.methodLink RX4 122 yX0_isWornByAnother, Cond.instanceMethod yX0_isWornByAnother, Cond.selects RX0 yX0_isWornByAnother yX0_isWornByAnother, Cond.initialized RX0, Cond.code yX0_isWornByAnother cX0_isWornByAnother 5 (some .boolean), Cond.methodLink RX0 34 yX0_wornIn, Cond.instanceMethod yX0_wornIn, Cond.selects RX0 yX0_wornIn yX0_wornIn, Cond.code yX0_wornIn cX0_wornIn 3 (some .int), Cond.fieldLink RX0 15 "CostumeStock$Cast" "worn" "[I"]
def wsX4_isFreeFor_r3 : List Cond := [Cond.methodLink RX0 38 yX0_wearers, Cond.instanceMethod yX0_wearers, Cond.selects RX0 yX0_wearers yX0_wearers, Cond.code yX0_wearers cX0_wearers 5 (some .int), Cond.fieldLink RX0 18 "CostumeStock$Cast" "size" "I"]
def wsX4_isFreeFor : List Cond := .code yX4_isFreeFor cX4_isFreeFor 6 (some .boolean) :: ((wsX4_isFreeFor_r1 ++ (wsX4_isFreeFor_r2 ++ wsX4_isFreeFor_r3)) ++ wsX40 ++ wsX10 ++ wsX60 ++ wsX00)
def wsX4_bestCostume_r1 : List Cond := [Cond.fieldLink RX4 12 "CostumeStock$State" "wardrobe" "LCostumeStock$Wardrobe;", Cond.fieldLink RX4 70 "CostumeStock$Wardrobe" "size" "I", Cond.methodLink RX4 107 yX4_isFreeFor, Cond.instanceMethod yX4_isFreeFor, Cond.selects RX4 yX4_isFreeFor yX4_isFreeFor, Cond.initialized RX4, Cond.code yX4_isFreeFor cX4_isFreeFor 6 (some .boolean), Cond.methodLink RX4 116 Lib.Math.min.name, Cond.static Lib.Math.min.name, Cond.initialized "java/lang/Math", Cond.code Lib.Math.min.name Lib.Math.min.code 2 (some .int), Cond.methodLink RX4 119 Lib.Math.max.name, Cond.static Lib.Math.max.name, Cond.code Lib.Math.max.name Lib.Math.max.code 2 (some .int), Cond.fieldLink RX4 21 "CostumeStock$State" "cast" "LCostumeStock$Cast;", Cond.methodLink RX4 73 yX4_isAway, Cond.instanceMethod yX4_isAway, Cond.selects RX4 yX4_isAway yX4_isAway, Cond.code yX4_isAway cX4_isAway 2 (some .boolean), Cond.fieldLink RX4 28 "CostumeStock$State" "hires" "LCostumeStock$Hires;", Cond.fieldLink RX4 50 "CostumeStock$State" "today" "I", Cond.methodLink RX4 66 yX1_overlapping, Cond.instanceMethod yX1_overlapping, Cond.selects RX1 yX1_overlapping yX1_overlapping]
def wsX4_bestCostume_r2 : List Cond := [Cond.initialized RX1, Cond.code yX1_overlapping cX1_overlapping 5 (some .int), Cond.fieldLink RX1 27 "CostumeStock$Hires" "size" "I", Cond.fieldLink RX1 9 "CostumeStock$Hires" "costume" "[I", Cond.fieldLink RX1 15 "CostumeStock$Hires" "first" "[I", Cond.static yX7_at, Cond.initialized RX7, Cond.code yX7_at cX7_at 2 (some .int), Cond.methodLink RX1 47 yX1_dayAfter, Cond.instanceMethod yX1_dayAfter, Cond.selects RX1 yX1_dayAfter yX1_dayAfter, Cond.code yX1_dayAfter cX1_dayAfter 2 (some .int), Cond.fieldLink RX1 18 "CostumeStock$Hires" "days" "[I", Cond.methodLink RX4 113 yX4_isTooDirty, Cond.instanceMethod yX4_isTooDirty, Cond.selects RX4 yX4_isTooDirty yX4_isTooDirty, Cond.code yX4_isTooDirty cX4_isTooDirty 2 (some .boolean), Cond.fieldLink RX4 77 "CostumeStock$Wardrobe" "dirt" "[I", Cond.fieldLink RX4 32 "CostumeStock$State" "settings" "[I", Cond.methodLink RX4 122 yX0_isWornByAnother, Cond.instanceMethod yX0_isWornByAnother, Cond.selects RX0 yX0_isWornByAnother yX0_isWornByAnother, Cond.initialized RX0, Cond.code yX0_isWornByAnother cX0_isWornByAnother 5 (some .boolean)]
def wsX4_bestCostume_r3 : List Cond := [Cond.methodLink RX0 34 yX0_wornIn, Cond.instanceMethod yX0_wornIn, Cond.selects RX0 yX0_wornIn yX0_wornIn, Cond.code yX0_wornIn cX0_wornIn 3 (some .int), Cond.fieldLink RX0 15 "CostumeStock$Cast" "worn" "[I", Cond.methodLink RX0 38 yX0_wearers, Cond.instanceMethod yX0_wearers, Cond.selects RX0 yX0_wearers yX0_wearers, Cond.code yX0_wearers cX0_wearers 5 (some .int), Cond.fieldLink RX0 18 "CostumeStock$Cast" "size" "I", Cond.methodLink RX4 110 yX4_leastChange, Cond.instanceMethod yX4_leastChange, Cond.selects RX4 yX4_leastChange yX4_leastChange, Cond.code yX4_leastChange cX4_leastChange 7 (some .int), Cond.methodLink RX4 94 Lib.Math.abs.name, Cond.static Lib.Math.abs.name, Cond.code Lib.Math.abs.name Lib.Math.abs.code 1 (some .int), Cond.methodLink RX4 100 yX6_roomForAlterations, Cond.instanceMethod yX6_roomForAlterations, Cond.selects RX6 yX6_roomForAlterations yX6_roomForAlterations, Cond.initialized RX6, Cond.code yX6_roomForAlterations cX6_roomForAlterations 2 (some .int), Cond.fieldLink RX6 27 "CostumeStock$Wardrobe" "alterations" "[I", Cond.methodLink RX4 91 yX4_lackOf]
def wsX4_bestCostume_r4 : List Cond := [Cond.instanceMethod yX4_lackOf, Cond.selects RX4 yX4_lackOf yX4_lackOf, Cond.code yX4_lackOf cX4_lackOf 7 (some .int), Cond.methodLink RX4 84 yX6_present, Cond.instanceMethod yX6_present, Cond.selects RX6 yX6_present yX6_present, Cond.code yX6_present cX6_present 7 (some .int), Cond.fieldLink RX6 30 "CostumeStock$Wardrobe" "alteredMeasure" "[I", Cond.fieldLink RX6 33 "CostumeStock$Wardrobe" "change" "[I", Cond.methodLink RX6 52 yX6_originalOf, Cond.instanceMethod yX6_originalOf, Cond.selects RX6 yX6_originalOf yX6_originalOf, Cond.code yX6_originalOf cX6_originalOf 3 (some .int), Cond.fieldLink RX6 9 "CostumeStock$Wardrobe" "original" "[I", Cond.methodLink RX6 56 yX6_placeOf, Cond.instanceMethod yX6_placeOf, Cond.selects RX6 yX6_placeOf yX6_placeOf, Cond.code yX6_placeOf cX6_placeOf 3 (some .int), Cond.methodLink RX4 88 yX0_measureOf, Cond.instanceMethod yX0_measureOf, Cond.selects RX0 yX0_measureOf yX0_measureOf, Cond.code yX0_measureOf cX0_measureOf 3 (some .int), Cond.fieldLink RX0 9 "CostumeStock$Cast" "measures" "[I", Cond.methodLink RX4 103 yX6_allows]
def wsX4_bestCostume_r5 : List Cond := [Cond.instanceMethod yX6_allows, Cond.selects RX6 yX6_allows yX6_allows, Cond.code yX6_allows cX6_allows 6 (some .boolean), Cond.fieldLink RX6 15 "CostumeStock$Wardrobe" "allowance" "[I", Cond.methodLink RX6 59 yX6_present]
def wsX4_bestCostume : List Cond := .code yX4_bestCostume cX4_bestCostume 7 (some .int) :: ((wsX4_bestCostume_r1 ++ (wsX4_bestCostume_r2 ++ (wsX4_bestCostume_r3 ++ (wsX4_bestCostume_r4 ++ wsX4_bestCostume_r5)))) ++ wsX40 ++ wsX60 ++ wsX10 ++ wsX00)
def wsX4_wornTwice : List Cond := .code yX4_wornTwice cX4_wornTwice 4 (some .int) :: ([.fieldLink RX4 12 "CostumeStock$State" "wardrobe" "LCostumeStock$Wardrobe;", .fieldLink RX4 70 "CostumeStock$Wardrobe" "size" "I", .fieldLink RX4 21 "CostumeStock$State" "cast" "LCostumeStock$Cast;", .methodLink RX4 135 yX0_wearers, .instanceMethod yX0_wearers, .selects RX0 yX0_wearers yX0_wearers, .initialized RX0, .code yX0_wearers cX0_wearers 5 (some .int), .fieldLink RX0 18 "CostumeStock$Cast" "size" "I", .methodLink RX0 34 yX0_wornIn, .instanceMethod yX0_wornIn, .selects RX0 yX0_wornIn yX0_wornIn, .code yX0_wornIn cX0_wornIn 3 (some .int), .fieldLink RX0 15 "CostumeStock$Cast" "worn" "[I", .static yX7_at, .initialized RX7, .code yX7_at cX7_at 2 (some .int)] ++ wsX40 ++ wsX60 ++ wsX00)
def wsX4_handedOver : List Cond := .code yX4_handedOver cX4_handedOver 4 (some .int) :: ([.fieldLink RX4 12 "CostumeStock$State" "wardrobe" "LCostumeStock$Wardrobe;", .fieldLink RX4 70 "CostumeStock$Wardrobe" "size" "I", .fieldLink RX4 21 "CostumeStock$State" "cast" "LCostumeStock$Cast;", .methodLink RX4 138 yX0_isHandedOver, .instanceMethod yX0_isHandedOver, .selects RX0 yX0_isHandedOver yX0_isHandedOver, .initialized RX0, .code yX0_isHandedOver cX0_isHandedOver 4 (some .boolean), .fieldLink RX0 18 "CostumeStock$Cast" "size" "I", .methodLink RX0 38 yX0_wearers, .instanceMethod yX0_wearers, .selects RX0 yX0_wearers yX0_wearers, .code yX0_wearers cX0_wearers 5 (some .int), .methodLink RX0 34 yX0_wornIn, .instanceMethod yX0_wornIn, .selects RX0 yX0_wornIn yX0_wornIn, .code yX0_wornIn cX0_wornIn 3 (some .int), .fieldLink RX0 15 "CostumeStock$Cast" "worn" "[I", .static yX7_at, .initialized RX7, .code yX7_at cX7_at 2 (some .int)] ++ wsX40 ++ wsX60 ++ wsX00)
def wsX4_wornAmiss_r1 : List Cond := [Cond.fieldLink RX4 21 "CostumeStock$State" "cast" "LCostumeStock$Cast;", Cond.fieldLink RX4 142 "CostumeStock$Cast" "size" "I", Cond.methodLink RX4 143 yX0_wornIn, Cond.instanceMethod yX0_wornIn, Cond.selects RX0 yX0_wornIn yX0_wornIn, Cond.initialized RX0, Cond.code yX0_wornIn cX0_wornIn 3 (some .int), Cond.fieldLink RX0 15 "CostumeStock$Cast" "worn" "[I", Cond.static yX7_at, Cond.initialized RX7, Cond.code yX7_at cX7_at 2 (some .int), Cond.methodLink RX4 146 yX4_misfitOf, Cond.instanceMethod yX4_misfitOf, Cond.selects RX4 yX4_misfitOf yX4_misfitOf, Cond.initialized RX4, Cond.code yX4_misfitOf cX4_misfitOf 5 (some .int), Cond.methodLink RX4 94 Lib.Math.abs.name, Cond.static Lib.Math.abs.name, Cond.initialized "java/lang/Math", Cond.code Lib.Math.abs.name Lib.Math.abs.code 1 (some .int), Cond.methodLink RX4 91 yX4_lackOf, Cond.instanceMethod yX4_lackOf, Cond.selects RX4 yX4_lackOf yX4_lackOf, Cond.code yX4_lackOf cX4_lackOf 7 (some .int)]
def wsX4_wornAmiss_r2 : List Cond := [Cond.fieldLink RX4 12 "CostumeStock$State" "wardrobe" "LCostumeStock$Wardrobe;", Cond.fieldLink RX4 32 "CostumeStock$State" "settings" "[I", Cond.methodLink RX4 84 yX6_present, Cond.instanceMethod yX6_present, Cond.selects RX6 yX6_present yX6_present, Cond.initialized RX6, Cond.code yX6_present cX6_present 7 (some .int), Cond.fieldLink RX6 27 "CostumeStock$Wardrobe" "alterations" "[I", Cond.fieldLink RX6 30 "CostumeStock$Wardrobe" "alteredMeasure" "[I", Cond.fieldLink RX6 33 "CostumeStock$Wardrobe" "change" "[I", Cond.methodLink RX6 52 yX6_originalOf, Cond.instanceMethod yX6_originalOf, Cond.selects RX6 yX6_originalOf yX6_originalOf, Cond.code yX6_originalOf cX6_originalOf 3 (some .int), Cond.fieldLink RX6 9 "CostumeStock$Wardrobe" "original" "[I", Cond.methodLink RX6 56 yX6_placeOf, Cond.instanceMethod yX6_placeOf, Cond.selects RX6 yX6_placeOf yX6_placeOf, Cond.code yX6_placeOf cX6_placeOf 3 (some .int), Cond.methodLink RX4 88 yX0_measureOf, Cond.instanceMethod yX0_measureOf, Cond.selects RX0 yX0_measureOf yX0_measureOf, Cond.code yX0_measureOf cX0_measureOf 3 (some .int), Cond.fieldLink RX0 9 "CostumeStock$Cast" "measures" "[I"]
def wsX4_wornAmiss_r3 : List Cond := [Cond.methodLink RX4 73 yX4_isAway, Cond.instanceMethod yX4_isAway, Cond.selects RX4 yX4_isAway yX4_isAway, Cond.code yX4_isAway cX4_isAway 2 (some .boolean), Cond.fieldLink RX4 28 "CostumeStock$State" "hires" "LCostumeStock$Hires;", Cond.fieldLink RX4 50 "CostumeStock$State" "today" "I", Cond.methodLink RX4 66 yX1_overlapping, Cond.instanceMethod yX1_overlapping, Cond.selects RX1 yX1_overlapping yX1_overlapping, Cond.initialized RX1, Cond.code yX1_overlapping cX1_overlapping 5 (some .int), Cond.fieldLink RX1 27 "CostumeStock$Hires" "size" "I", Cond.fieldLink RX1 9 "CostumeStock$Hires" "costume" "[I", Cond.fieldLink RX1 15 "CostumeStock$Hires" "first" "[I", Cond.methodLink RX1 47 yX1_dayAfter, Cond.instanceMethod yX1_dayAfter, Cond.selects RX1 yX1_dayAfter yX1_dayAfter, Cond.code yX1_dayAfter cX1_dayAfter 2 (some .int), Cond.fieldLink RX1 18 "CostumeStock$Hires" "days" "[I", Cond.methodLink RX4 113 yX4_isTooDirty, Cond.instanceMethod yX4_isTooDirty, Cond.selects RX4 yX4_isTooDirty yX4_isTooDirty, Cond.code yX4_isTooDirty cX4_isTooDirty 2 (some .boolean), Cond.fieldLink RX4 77 "CostumeStock$Wardrobe" "dirt" "[I"]
def wsX4_wornAmiss : List Cond := .code yX4_wornAmiss cX4_wornAmiss 7 (some .int) :: ((wsX4_wornAmiss_r1 ++ (wsX4_wornAmiss_r2 ++ wsX4_wornAmiss_r3)) ++ wsX40 ++ wsX00 ++ wsX60 ++ wsX10)
def wsX4_problemsOf_r1 : List Cond := [Cond.methodLink RX4 125 yX4_wornTwice, Cond.instanceMethod yX4_wornTwice, Cond.selects RX4 yX4_wornTwice yX4_wornTwice, Cond.initialized RX4, Cond.code yX4_wornTwice cX4_wornTwice 4 (some .int), Cond.fieldLink RX4 12 "CostumeStock$State" "wardrobe" "LCostumeStock$Wardrobe;", Cond.fieldLink RX4 70 "CostumeStock$Wardrobe" "size" "I", Cond.fieldLink RX4 21 "CostumeStock$State" "cast" "LCostumeStock$Cast;", Cond.methodLink RX4 135 yX0_wearers, Cond.instanceMethod yX0_wearers, Cond.selects RX0 yX0_wearers yX0_wearers, Cond.initialized RX0, Cond.code yX0_wearers cX0_wearers 5 (some .int), Cond.fieldLink RX0 18 "CostumeStock$Cast" "size" "I", Cond.methodLink RX0 34 yX0_wornIn, Cond.instanceMethod yX0_wornIn, Cond.selects RX0 yX0_wornIn yX0_wornIn, Cond.code yX0_wornIn cX0_wornIn 3 (some .int), Cond.fieldLink RX0 15 "CostumeStock$Cast" "worn" "[I", Cond.static yX7_at, Cond.initialized RX7, Cond.code yX7_at cX7_at 2 (some .int), Cond.methodLink RX4 129 yX4_handedOver, Cond.instanceMethod yX4_handedOver]
def wsX4_problemsOf_r2 : List Cond := [Cond.selects RX4 yX4_handedOver yX4_handedOver, Cond.code yX4_handedOver cX4_handedOver 4 (some .int), Cond.methodLink RX4 138 yX0_isHandedOver, Cond.instanceMethod yX0_isHandedOver, Cond.selects RX0 yX0_isHandedOver yX0_isHandedOver, Cond.code yX0_isHandedOver cX0_isHandedOver 4 (some .boolean), Cond.methodLink RX0 38 yX0_wearers, Cond.methodLink RX4 132 yX4_wornAmiss, Cond.instanceMethod yX4_wornAmiss, Cond.selects RX4 yX4_wornAmiss yX4_wornAmiss, Cond.code yX4_wornAmiss cX4_wornAmiss 7 (some .int), Cond.fieldLink RX4 142 "CostumeStock$Cast" "size" "I", Cond.methodLink RX4 143 yX0_wornIn, Cond.methodLink RX4 146 yX4_misfitOf, Cond.instanceMethod yX4_misfitOf, Cond.selects RX4 yX4_misfitOf yX4_misfitOf, Cond.code yX4_misfitOf cX4_misfitOf 5 (some .int), Cond.methodLink RX4 94 Lib.Math.abs.name, Cond.static Lib.Math.abs.name, Cond.initialized "java/lang/Math", Cond.code Lib.Math.abs.name Lib.Math.abs.code 1 (some .int), Cond.methodLink RX4 91 yX4_lackOf, Cond.instanceMethod yX4_lackOf, Cond.selects RX4 yX4_lackOf yX4_lackOf]
def wsX4_problemsOf_r3 : List Cond := [Cond.code yX4_lackOf cX4_lackOf 7 (some .int), Cond.fieldLink RX4 32 "CostumeStock$State" "settings" "[I", Cond.methodLink RX4 84 yX6_present, Cond.instanceMethod yX6_present, Cond.selects RX6 yX6_present yX6_present, Cond.initialized RX6, Cond.code yX6_present cX6_present 7 (some .int), Cond.fieldLink RX6 27 "CostumeStock$Wardrobe" "alterations" "[I", Cond.fieldLink RX6 30 "CostumeStock$Wardrobe" "alteredMeasure" "[I", Cond.fieldLink RX6 33 "CostumeStock$Wardrobe" "change" "[I", Cond.methodLink RX6 52 yX6_originalOf, Cond.instanceMethod yX6_originalOf, Cond.selects RX6 yX6_originalOf yX6_originalOf, Cond.code yX6_originalOf cX6_originalOf 3 (some .int), Cond.fieldLink RX6 9 "CostumeStock$Wardrobe" "original" "[I", Cond.methodLink RX6 56 yX6_placeOf, Cond.instanceMethod yX6_placeOf, Cond.selects RX6 yX6_placeOf yX6_placeOf, Cond.code yX6_placeOf cX6_placeOf 3 (some .int), Cond.methodLink RX4 88 yX0_measureOf, Cond.instanceMethod yX0_measureOf, Cond.selects RX0 yX0_measureOf yX0_measureOf, Cond.code yX0_measureOf cX0_measureOf 3 (some .int), Cond.fieldLink RX0 9 "CostumeStock$Cast" "measures" "[I"]
def wsX4_problemsOf_r4 : List Cond := [Cond.methodLink RX4 73 yX4_isAway, Cond.instanceMethod yX4_isAway, Cond.selects RX4 yX4_isAway yX4_isAway, Cond.code yX4_isAway cX4_isAway 2 (some .boolean), Cond.fieldLink RX4 28 "CostumeStock$State" "hires" "LCostumeStock$Hires;", Cond.fieldLink RX4 50 "CostumeStock$State" "today" "I", Cond.methodLink RX4 66 yX1_overlapping, Cond.instanceMethod yX1_overlapping, Cond.selects RX1 yX1_overlapping yX1_overlapping, Cond.initialized RX1, Cond.code yX1_overlapping cX1_overlapping 5 (some .int), Cond.fieldLink RX1 27 "CostumeStock$Hires" "size" "I", Cond.fieldLink RX1 9 "CostumeStock$Hires" "costume" "[I", Cond.fieldLink RX1 15 "CostumeStock$Hires" "first" "[I", Cond.methodLink RX1 47 yX1_dayAfter, Cond.instanceMethod yX1_dayAfter, Cond.selects RX1 yX1_dayAfter yX1_dayAfter, Cond.code yX1_dayAfter cX1_dayAfter 2 (some .int), Cond.fieldLink RX1 18 "CostumeStock$Hires" "days" "[I", Cond.methodLink RX4 113 yX4_isTooDirty, Cond.instanceMethod yX4_isTooDirty, Cond.selects RX4 yX4_isTooDirty yX4_isTooDirty, Cond.code yX4_isTooDirty cX4_isTooDirty 2 (some .boolean), Cond.fieldLink RX4 77 "CostumeStock$Wardrobe" "dirt" "[I"]
def wsX4_problemsOf : List Cond := .code yX4_problemsOf cX4_problemsOf 2 (some .int) :: ((wsX4_problemsOf_r1 ++ (wsX4_problemsOf_r2 ++ (wsX4_problemsOf_r3 ++ wsX4_problemsOf_r4))) ++ wsX40 ++ wsX60 ++ wsX00 ++ wsX10)
def wsX6_soil : List Cond := .code yX6_soil cX6_soil 3 none :: ([.fieldLink RX6 24 "CostumeStock$Wardrobe" "dirt" "[I", .methodLink RX6 69 Lib.Math.min.name, .static Lib.Math.min.name, .initialized "java/lang/Math", .code Lib.Math.min.name Lib.Math.min.code 2 (some .int), .static yX7_at, .initialized RX7, .code yX7_at cX7_at 2 (some .int), .static yX7_put, .code yX7_put cX7_put 3 none] ++ wsX60)
def wsX4_soilAll_r1 : List Cond := [Cond.fieldLink RX4 12 "CostumeStock$State" "wardrobe" "LCostumeStock$Wardrobe;", Cond.fieldLink RX4 70 "CostumeStock$Wardrobe" "size" "I", Cond.fieldLink RX4 21 "CostumeStock$State" "cast" "LCostumeStock$Cast;", Cond.methodLink RX4 149 yX0_scenesOf, Cond.instanceMethod yX0_scenesOf, Cond.selects RX0 yX0_scenesOf yX0_scenesOf, Cond.initialized RX0, Cond.code yX0_scenesOf cX0_scenesOf 4 (some .int), Cond.methodLink RX0 38 yX0_wearers, Cond.instanceMethod yX0_wearers, Cond.selects RX0 yX0_wearers yX0_wearers, Cond.code yX0_wearers cX0_wearers 5 (some .int), Cond.fieldLink RX0 18 "CostumeStock$Cast" "size" "I", Cond.methodLink RX0 34 yX0_wornIn, Cond.instanceMethod yX0_wornIn, Cond.selects RX0 yX0_wornIn yX0_wornIn, Cond.code yX0_wornIn cX0_wornIn 3 (some .int), Cond.fieldLink RX0 15 "CostumeStock$Cast" "worn" "[I", Cond.static yX7_at, Cond.initialized RX7, Cond.code yX7_at cX7_at 2 (some .int), Cond.methodLink RX4 152 yX6_soil, Cond.instanceMethod yX6_soil, Cond.selects RX6 yX6_soil yX6_soil]
def wsX4_soilAll_r2 : List Cond := [Cond.initialized RX6, Cond.code yX6_soil cX6_soil 3 none, Cond.fieldLink RX6 24 "CostumeStock$Wardrobe" "dirt" "[I", Cond.methodLink RX6 69 Lib.Math.min.name, Cond.static Lib.Math.min.name, Cond.initialized "java/lang/Math", Cond.code Lib.Math.min.name Lib.Math.min.code 2 (some .int), Cond.static yX7_put, Cond.code yX7_put cX7_put 3 none]
def wsX4_soilAll : List Cond := .code yX4_soilAll cX4_soilAll 2 none :: ((wsX4_soilAll_r1 ++ wsX4_soilAll_r2) ++ wsX40 ++ wsX60 ++ wsX00)
def wsJ6_bitCount_0f7a4 : List Cond := .code yJ6_bitCount_0f7a4 cJ6_bitCount_0f7a4 1 (some .int) :: ([.constant RJ6 265 (1431655765), .constant RJ6 266 (858993459), .constant RJ6 267 (252645135)])
def wsX7_isIn : List Cond := .code yX7_isIn cX7_isIn 2 (some .boolean) :: ([])
def wsX6_canBeWashed : List Cond := .code yX6_canBeWashed cX6_canBeWashed 3 (some .boolean) :: ([.fieldLink RX6 18 "CostumeStock$Wardrobe" "code" "[I", .static yX7_at, .initialized RX7, .code yX7_at cX7_at 2 (some .int), .static yX7_isIn, .code yX7_isIn cX7_isIn 2 (some .boolean)] ++ wsX60)
def wsX4_allowsLoad_r1 : List Cond := [Cond.fieldLink RX4 12 "CostumeStock$State" "wardrobe" "LCostumeStock$Wardrobe;", Cond.fieldLink RX4 70 "CostumeStock$Wardrobe" "size" "I", Cond.fieldLink RX4 167 "CostumeStock$Wardrobe" "color" "[I", Cond.methodLink RX4 156 yJ6_bitCount_0f7a4, Cond.static yJ6_bitCount_0f7a4, Cond.initialized RJ6, Cond.code yJ6_bitCount_0f7a4 cJ6_bitCount_0f7a4 1 (some .int), Cond.constant RJ6 265 (1431655765), Cond.constant RJ6 266 (858993459), Cond.constant RJ6 267 (252645135), Cond.static yX7_isIn, Cond.initialized RX7, Cond.code yX7_isIn cX7_isIn 2 (some .boolean), Cond.methodLink RX4 73 yX4_isAway, Cond.instanceMethod yX4_isAway, Cond.selects RX4 yX4_isAway yX4_isAway, Cond.initialized RX4, Cond.code yX4_isAway cX4_isAway 2 (some .boolean), Cond.fieldLink RX4 28 "CostumeStock$State" "hires" "LCostumeStock$Hires;", Cond.fieldLink RX4 50 "CostumeStock$State" "today" "I", Cond.methodLink RX4 66 yX1_overlapping, Cond.instanceMethod yX1_overlapping, Cond.selects RX1 yX1_overlapping yX1_overlapping, Cond.initialized RX1]
def wsX4_allowsLoad_r2 : List Cond := [Cond.code yX1_overlapping cX1_overlapping 5 (some .int), Cond.fieldLink RX1 27 "CostumeStock$Hires" "size" "I", Cond.fieldLink RX1 9 "CostumeStock$Hires" "costume" "[I", Cond.fieldLink RX1 15 "CostumeStock$Hires" "first" "[I", Cond.static yX7_at, Cond.code yX7_at cX7_at 2 (some .int), Cond.methodLink RX1 47 yX1_dayAfter, Cond.instanceMethod yX1_dayAfter, Cond.selects RX1 yX1_dayAfter yX1_dayAfter, Cond.code yX1_dayAfter cX1_dayAfter 2 (some .int), Cond.fieldLink RX1 18 "CostumeStock$Hires" "days" "[I", Cond.methodLink RX4 164 yX6_canBeWashed, Cond.instanceMethod yX6_canBeWashed, Cond.selects RX6 yX6_canBeWashed yX6_canBeWashed, Cond.initialized RX6, Cond.code yX6_canBeWashed cX6_canBeWashed 3 (some .boolean), Cond.fieldLink RX6 18 "CostumeStock$Wardrobe" "code" "[I"]
def wsX4_allowsLoad : List Cond := .code yX4_allowsLoad cX4_allowsLoad 5 (some .boolean) :: ((wsX4_allowsLoad_r1 ++ wsX4_allowsLoad_r2) ++ wsX40 ++ wsX60 ++ wsX10)
def wsX4_dirtySet_r1 : List Cond := [Cond.fieldLink RX4 12 "CostumeStock$State" "wardrobe" "LCostumeStock$Wardrobe;", Cond.fieldLink RX4 70 "CostumeStock$Wardrobe" "size" "I", Cond.fieldLink RX4 167 "CostumeStock$Wardrobe" "color" "[I", Cond.fieldLink RX4 77 "CostumeStock$Wardrobe" "dirt" "[I", Cond.static yX7_at, Cond.initialized RX7, Cond.code yX7_at cX7_at 2 (some .int), Cond.methodLink RX4 73 yX4_isAway, Cond.instanceMethod yX4_isAway, Cond.selects RX4 yX4_isAway yX4_isAway, Cond.initialized RX4, Cond.code yX4_isAway cX4_isAway 2 (some .boolean), Cond.fieldLink RX4 28 "CostumeStock$State" "hires" "LCostumeStock$Hires;", Cond.fieldLink RX4 50 "CostumeStock$State" "today" "I", Cond.methodLink RX4 66 yX1_overlapping, Cond.instanceMethod yX1_overlapping, Cond.selects RX1 yX1_overlapping yX1_overlapping, Cond.initialized RX1, Cond.code yX1_overlapping cX1_overlapping 5 (some .int), Cond.fieldLink RX1 27 "CostumeStock$Hires" "size" "I", Cond.fieldLink RX1 9 "CostumeStock$Hires" "costume" "[I", Cond.fieldLink RX1 15 "CostumeStock$Hires" "first" "[I", Cond.methodLink RX1 47 yX1_dayAfter, Cond.instanceMethod yX1_dayAfter]
def wsX4_dirtySet_r2 : List Cond := [Cond.selects RX1 yX1_dayAfter yX1_dayAfter, Cond.code yX1_dayAfter cX1_dayAfter 2 (some .int), Cond.fieldLink RX1 18 "CostumeStock$Hires" "days" "[I", Cond.methodLink RX4 164 yX6_canBeWashed, Cond.instanceMethod yX6_canBeWashed, Cond.selects RX6 yX6_canBeWashed yX6_canBeWashed, Cond.initialized RX6, Cond.code yX6_canBeWashed cX6_canBeWashed 3 (some .boolean), Cond.fieldLink RX6 18 "CostumeStock$Wardrobe" "code" "[I", Cond.static yX7_isIn, Cond.code yX7_isIn cX7_isIn 2 (some .boolean)]
def wsX4_dirtySet : List Cond := .code yX4_dirtySet cX4_dirtySet 6 (some .int) :: ((wsX4_dirtySet_r1 ++ wsX4_dirtySet_r2) ++ wsX40 ++ wsX60 ++ wsX10)
def wsX5_init : List Cond := .code yX5_init cX5_init 1 none :: ([.methodLink RX5 3 objectInit, .instanceMethod objectInit, .code objectInit ⟨#[0xb1]⟩ 1 none, .arrayClass .int, .fieldLink RX5 9 "CostumeStock$Text" "characters" "[I"] ++ wsX50)
def wsX5_add : List Cond := .code yX5_add cX5_add 2 (some .int) :: ([.fieldLink RX5 9 "CostumeStock$Text" "characters" "[I", .fieldLink RX5 15 "CostumeStock$Text" "length" "I", .static yX7_put, .initialized RX7, .code yX7_put cX7_put 3 none] ++ wsX50)
def wsX5_empty : List Cond := .code yX5_empty cX5_empty 2 (some .int) :: ([.fieldLink RX5 15 "CostumeStock$Text" "length" "I"] ++ wsX50)
def wsX6_has : List Cond := .code yX6_has cX6_has 2 (some .boolean) :: ([.fieldLink RX6 36 "CostumeStock$Wardrobe" "size" "I"] ++ wsX60)
def wsX6_add : List Cond := .code yX6_add cX6_add 8 (some .int) :: ([.fieldLink RX6 36 "CostumeStock$Wardrobe" "size" "I", .fieldLink RX6 9 "CostumeStock$Wardrobe" "original" "[I", .fieldLink RX6 15 "CostumeStock$Wardrobe" "allowance" "[I", .fieldLink RX6 18 "CostumeStock$Wardrobe" "code" "[I", .fieldLink RX6 21 "CostumeStock$Wardrobe" "color" "[I", .fieldLink RX6 24 "CostumeStock$Wardrobe" "dirt" "[I", .fieldLink RX6 27 "CostumeStock$Wardrobe" "alterations" "[I", .static yX7_put, .initialized RX7, .code yX7_put cX7_put 3 none] ++ wsX60)
def wsX6_addAlteration : List Cond := .code yX6_addAlteration cX6_addAlteration 5 none :: ([.fieldLink RX6 27 "CostumeStock$Wardrobe" "alterations" "[I", .fieldLink RX6 30 "CostumeStock$Wardrobe" "alteredMeasure" "[I", .fieldLink RX6 33 "CostumeStock$Wardrobe" "change" "[I", .static yX7_at, .initialized RX7, .code yX7_at cX7_at 2 (some .int), .methodLink RX6 56 yX6_placeOf, .instanceMethod yX6_placeOf, .selects RX6 yX6_placeOf yX6_placeOf, .initialized RX6, .code yX6_placeOf cX6_placeOf 3 (some .int), .static yX7_put, .code yX7_put cX7_put 3 none] ++ wsX60)
def wsX6_removeAlteration : List Cond := .code yX6_removeAlteration cX6_removeAlteration 3 (some .int) :: ([.fieldLink RX6 27 "CostumeStock$Wardrobe" "alterations" "[I", .fieldLink RX6 33 "CostumeStock$Wardrobe" "change" "[I", .static yX7_at, .initialized RX7, .code yX7_at cX7_at 2 (some .int), .static yX7_put, .code yX7_put cX7_put 3 none, .methodLink RX6 56 yX6_placeOf, .instanceMethod yX6_placeOf, .selects RX6 yX6_placeOf yX6_placeOf, .initialized RX6, .code yX6_placeOf cX6_placeOf 3 (some .int)] ++ wsX60)
def wsX6_clean : List Cond := .code yX6_clean cX6_clean 6 (some .int) :: ([.fieldLink RX6 36 "CostumeStock$Wardrobe" "size" "I", .fieldLink RX6 24 "CostumeStock$Wardrobe" "dirt" "[I", .methodLink RX6 69 Lib.Math.min.name, .static Lib.Math.min.name, .initialized "java/lang/Math", .code Lib.Math.min.name Lib.Math.min.code 2 (some .int), .static yX7_isIn, .initialized RX7, .code yX7_isIn cX7_isIn 2 (some .boolean), .static yX7_at, .code yX7_at cX7_at 2 (some .int), .static yX7_put, .code yX7_put cX7_put 3 none] ++ wsX60)
def wsX7_init_r1 : List Cond := [Cond.methodLink RX7 1 objectInit, Cond.instanceMethod objectInit, Cond.code objectInit ⟨#[0xb1]⟩ 1 none, Cond.classLink RX7 7 RX4, Cond.instantiable RX4 9, Cond.initialized RX4, Cond.fieldLink RX7 10 "CostumeStock" "state" "LCostumeStock$State;", Cond.classLink RX7 16 RX2, Cond.instantiable RX2 3, Cond.initialized RX2, Cond.fieldLink RX7 19 "CostumeStock" "history" "LCostumeStock$History;", Cond.classLink RX7 23 RX5, Cond.instantiable RX5 2, Cond.initialized RX5, Cond.fieldLink RX7 26 "CostumeStock" "text" "LCostumeStock$Text;", Cond.classLink RX7 30 RX3, Cond.instantiable RX3 8, Cond.initialized RX3, Cond.fieldLink RX7 35 "CostumeStock" "reader" "LCostumeStock$Reader;", Cond.instanceMethod yX4_init, Cond.code yX4_init cX4_init 1 none, Cond.methodLink RX4 3 objectInit, Cond.classLink RX4 9 RX6, Cond.instantiable RX6 9]
def wsX7_init_r2 : List Cond := [Cond.initialized RX6, Cond.fieldLink RX4 12 "CostumeStock$State" "wardrobe" "LCostumeStock$Wardrobe;", Cond.classLink RX4 18 RX0, Cond.instantiable RX0 3, Cond.initialized RX0, Cond.fieldLink RX4 21 "CostumeStock$State" "cast" "LCostumeStock$Cast;", Cond.classLink RX4 25 RX1, Cond.instantiable RX1 6, Cond.initialized RX1, Cond.fieldLink RX4 28 "CostumeStock$State" "hires" "LCostumeStock$Hires;", Cond.arrayClass .int, Cond.fieldLink RX4 32 "CostumeStock$State" "settings" "[I", Cond.instanceMethod yX6_init, Cond.code yX6_init cX6_init 1 none, Cond.methodLink RX6 3 objectInit, Cond.fieldLink RX6 9 "CostumeStock$Wardrobe" "original" "[I", Cond.fieldLink RX6 15 "CostumeStock$Wardrobe" "allowance" "[I", Cond.fieldLink RX6 18 "CostumeStock$Wardrobe" "code" "[I", Cond.fieldLink RX6 21 "CostumeStock$Wardrobe" "color" "[I", Cond.fieldLink RX6 24 "CostumeStock$Wardrobe" "dirt" "[I", Cond.fieldLink RX6 27 "CostumeStock$Wardrobe" "alterations" "[I", Cond.fieldLink RX6 30 "CostumeStock$Wardrobe" "alteredMeasure" "[I", Cond.fieldLink RX6 33 "CostumeStock$Wardrobe" "change" "[I", Cond.instanceMethod yX0_init]
def wsX7_init_r3 : List Cond := [Cond.code yX0_init cX0_init 1 none, Cond.methodLink RX0 3 objectInit, Cond.fieldLink RX0 9 "CostumeStock$Cast" "measures" "[I", Cond.fieldLink RX0 15 "CostumeStock$Cast" "worn" "[I", Cond.instanceMethod yX1_init, Cond.code yX1_init cX1_init 1 none, Cond.methodLink RX1 3 objectInit, Cond.fieldLink RX1 9 "CostumeStock$Hires" "costume" "[I", Cond.fieldLink RX1 15 "CostumeStock$Hires" "first" "[I", Cond.fieldLink RX1 18 "CostumeStock$Hires" "days" "[I", Cond.fieldLink RX1 21 "CostumeStock$Hires" "rate" "[I", Cond.fieldLink RX1 24 "CostumeStock$Hires" "fee" "[I", Cond.methodLink RX7 18 yX2_init, Cond.instanceMethod yX2_init, Cond.code yX2_init cX2_init 2 none, Cond.methodLink RX2 3 objectInit, Cond.classLink RX2 9 RX4, Cond.fieldLink RX2 11 "CostumeStock$History" "states" "[LCostumeStock$State;", Cond.instanceMethod yX5_init, Cond.code yX5_init cX5_init 1 none, Cond.methodLink RX5 3 objectInit, Cond.fieldLink RX5 9 "CostumeStock$Text" "characters" "[I", Cond.methodLink RX7 32 yX3_init, Cond.instanceMethod yX3_init]
def wsX7_init_r4 : List Cond := [Cond.code yX3_init cX3_init 2 none, Cond.methodLink RX3 3 objectInit, Cond.fieldLink RX3 9 "CostumeStock$Reader" "text" "LCostumeStock$Text;", Cond.fieldLink RX3 15 "CostumeStock$Reader" "parts" "[I"]
def wsX7_init : List Cond := .code yX7_init cX7_init 1 none :: ((wsX7_init_r1 ++ (wsX7_init_r2 ++ (wsX7_init_r3 ++ wsX7_init_r4))) ++ wsX40 ++ wsX70 ++ wsX20 ++ wsX50 ++ wsX30 ++ wsX60 ++ wsX00 ++ wsX10)
def wsX7_areMeasures : List Cond := .code yX7_areMeasures cX7_areMeasures 3 (some .boolean) :: ([.methodLink RX7 43 yX7_isWithin, .static yX7_isWithin, .initialized RX7, .code yX7_isWithin cX7_isWithin 3 (some .boolean)])
def wsX7_addCostume_r1 : List Cond := [Cond.fieldLink RX7 10 "CostumeStock" "state" "LCostumeStock$State;", Cond.fieldLink RX7 46 "CostumeStock$State" "wardrobe" "LCostumeStock$Wardrobe;", Cond.fieldLink RX7 50 "CostumeStock$Wardrobe" "size" "I", Cond.fieldLink RX7 19 "CostumeStock" "history" "LCostumeStock$History;", Cond.methodLink RX7 39 yX7_areMeasures, Cond.static yX7_areMeasures, Cond.initialized RX7, Cond.code yX7_areMeasures cX7_areMeasures 3 (some .boolean), Cond.methodLink RX7 43 yX7_isWithin, Cond.static yX7_isWithin, Cond.code yX7_isWithin cX7_isWithin 3 (some .boolean), Cond.methodLink RX7 56 yX2_remember, Cond.instanceMethod yX2_remember, Cond.selects RX2 yX2_remember yX2_remember, Cond.initialized RX2, Cond.code yX2_remember cX2_remember 3 none, Cond.fieldLink RX2 18 "CostumeStock$History" "next" "I", Cond.fieldLink RX2 30 "CostumeStock$History" "size" "I", Cond.methodLink RX2 33 Lib.Math.min.name, Cond.static Lib.Math.min.name, Cond.initialized "java/lang/Math", Cond.code Lib.Math.min.name Lib.Math.min.code 2 (some .int), Cond.methodLink RX2 22 yX2_stateAt, Cond.instanceMethod yX2_stateAt]
def wsX7_addCostume_r2 : List Cond := [Cond.selects RX2 yX2_stateAt yX2_stateAt, Cond.code yX2_stateAt cX2_stateAt 2 (some (.object "CostumeStock$State")), Cond.fieldLink RX2 11 "CostumeStock$History" "states" "[LCostumeStock$State;", Cond.methodLink RX2 26 yX4_become, Cond.instanceMethod yX4_become, Cond.selects RX4 yX4_become yX4_become, Cond.initialized RX4, Cond.code yX4_become cX4_become 2 none, Cond.fieldLink RX4 12 "CostumeStock$State" "wardrobe" "LCostumeStock$Wardrobe;", Cond.fieldLink RX4 21 "CostumeStock$State" "cast" "LCostumeStock$Cast;", Cond.fieldLink RX4 28 "CostumeStock$State" "hires" "LCostumeStock$Hires;", Cond.fieldLink RX4 32 "CostumeStock$State" "settings" "[I", Cond.fieldLink RX4 50 "CostumeStock$State" "today" "I", Cond.fieldLink RX4 54 "CostumeStock$State" "minutes" "I", Cond.fieldLink RX4 57 "CostumeStock$State" "fees" "I", Cond.fieldLink RX4 60 "CostumeStock$State" "washing" "I", Cond.fieldLink RX4 63 "CostumeStock$State" "performances" "I", Cond.methodLink RX4 36 yX6_copyFrom, Cond.instanceMethod yX6_copyFrom, Cond.selects RX6 yX6_copyFrom yX6_copyFrom, Cond.initialized RX6, Cond.code yX6_copyFrom cX6_copyFrom 2 none, Cond.fieldLink RX6 36 "CostumeStock$Wardrobe" "size" "I", Cond.fieldLink RX6 9 "CostumeStock$Wardrobe" "original" "[I"]
def wsX7_addCostume_r3 : List Cond := [Cond.fieldLink RX6 15 "CostumeStock$Wardrobe" "allowance" "[I", Cond.fieldLink RX6 18 "CostumeStock$Wardrobe" "code" "[I", Cond.fieldLink RX6 21 "CostumeStock$Wardrobe" "color" "[I", Cond.fieldLink RX6 24 "CostumeStock$Wardrobe" "dirt" "[I", Cond.fieldLink RX6 27 "CostumeStock$Wardrobe" "alterations" "[I", Cond.fieldLink RX6 30 "CostumeStock$Wardrobe" "alteredMeasure" "[I", Cond.fieldLink RX6 33 "CostumeStock$Wardrobe" "change" "[I", Cond.static yX7_copyRow, Cond.code yX7_copyRow cX7_copyRow 2 none, Cond.methodLink RX7 284 Lib.Math.min.name, Cond.methodLink RX7 287 arraycopyName, Cond.native arraycopyName, Cond.static arraycopyName, Cond.initialized "java/lang/System", Cond.methodLink RX4 40 yX0_copyFrom, Cond.instanceMethod yX0_copyFrom, Cond.selects RX0 yX0_copyFrom yX0_copyFrom, Cond.initialized RX0, Cond.code yX0_copyFrom cX0_copyFrom 2 none, Cond.fieldLink RX0 18 "CostumeStock$Cast" "size" "I", Cond.fieldLink RX0 9 "CostumeStock$Cast" "measures" "[I", Cond.fieldLink RX0 15 "CostumeStock$Cast" "worn" "[I", Cond.methodLink RX4 43 yX1_copyFrom, Cond.instanceMethod yX1_copyFrom]
def wsX7_addCostume_r4 : List Cond := [Cond.selects RX1 yX1_copyFrom yX1_copyFrom, Cond.initialized RX1, Cond.code yX1_copyFrom cX1_copyFrom 2 none, Cond.fieldLink RX1 27 "CostumeStock$Hires" "size" "I", Cond.fieldLink RX1 9 "CostumeStock$Hires" "costume" "[I", Cond.fieldLink RX1 15 "CostumeStock$Hires" "first" "[I", Cond.fieldLink RX1 18 "CostumeStock$Hires" "days" "[I", Cond.fieldLink RX1 21 "CostumeStock$Hires" "rate" "[I", Cond.fieldLink RX1 24 "CostumeStock$Hires" "fee" "[I", Cond.methodLink RX7 60 yX6_add, Cond.instanceMethod yX6_add, Cond.selects RX6 yX6_add yX6_add, Cond.code yX6_add cX6_add 8 (some .int), Cond.static yX7_put, Cond.code yX7_put cX7_put 3 none]
def wsX7_addCostume : List Cond := .code yX7_addCostume cX7_addCostume 6 (some .int) :: ((wsX7_addCostume_r1 ++ (wsX7_addCostume_r2 ++ (wsX7_addCostume_r3 ++ wsX7_addCostume_r4))) ++ wsX70 ++ wsX40 ++ wsX60 ++ wsX20 ++ wsX00 ++ wsX10)
def wsX7_setColor_r1 : List Cond := [Cond.fieldLink RX7 10 "CostumeStock" "state" "LCostumeStock$State;", Cond.fieldLink RX7 46 "CostumeStock$State" "wardrobe" "LCostumeStock$Wardrobe;", Cond.fieldLink RX7 19 "CostumeStock" "history" "LCostumeStock$History;", Cond.fieldLink RX7 68 "CostumeStock$Wardrobe" "color" "[I", Cond.methodLink RX7 64 yX6_has, Cond.instanceMethod yX6_has, Cond.selects RX6 yX6_has yX6_has, Cond.initialized RX6, Cond.code yX6_has cX6_has 2 (some .boolean), Cond.fieldLink RX6 36 "CostumeStock$Wardrobe" "size" "I", Cond.methodLink RX7 43 yX7_isWithin, Cond.static yX7_isWithin, Cond.initialized RX7, Cond.code yX7_isWithin cX7_isWithin 3 (some .boolean), Cond.methodLink RX7 56 yX2_remember, Cond.instanceMethod yX2_remember, Cond.selects RX2 yX2_remember yX2_remember, Cond.initialized RX2, Cond.code yX2_remember cX2_remember 3 none, Cond.fieldLink RX2 18 "CostumeStock$History" "next" "I", Cond.fieldLink RX2 30 "CostumeStock$History" "size" "I", Cond.methodLink RX2 33 Lib.Math.min.name, Cond.static Lib.Math.min.name, Cond.initialized "java/lang/Math"]
def wsX7_setColor_r2 : List Cond := [Cond.code Lib.Math.min.name Lib.Math.min.code 2 (some .int), Cond.methodLink RX2 22 yX2_stateAt, Cond.instanceMethod yX2_stateAt, Cond.selects RX2 yX2_stateAt yX2_stateAt, Cond.code yX2_stateAt cX2_stateAt 2 (some (.object "CostumeStock$State")), Cond.fieldLink RX2 11 "CostumeStock$History" "states" "[LCostumeStock$State;", Cond.methodLink RX2 26 yX4_become, Cond.instanceMethod yX4_become, Cond.selects RX4 yX4_become yX4_become, Cond.initialized RX4, Cond.code yX4_become cX4_become 2 none, Cond.fieldLink RX4 12 "CostumeStock$State" "wardrobe" "LCostumeStock$Wardrobe;", Cond.fieldLink RX4 21 "CostumeStock$State" "cast" "LCostumeStock$Cast;", Cond.fieldLink RX4 28 "CostumeStock$State" "hires" "LCostumeStock$Hires;", Cond.fieldLink RX4 32 "CostumeStock$State" "settings" "[I", Cond.fieldLink RX4 50 "CostumeStock$State" "today" "I", Cond.fieldLink RX4 54 "CostumeStock$State" "minutes" "I", Cond.fieldLink RX4 57 "CostumeStock$State" "fees" "I", Cond.fieldLink RX4 60 "CostumeStock$State" "washing" "I", Cond.fieldLink RX4 63 "CostumeStock$State" "performances" "I", Cond.methodLink RX4 36 yX6_copyFrom, Cond.instanceMethod yX6_copyFrom, Cond.selects RX6 yX6_copyFrom yX6_copyFrom, Cond.code yX6_copyFrom cX6_copyFrom 2 none]
def wsX7_setColor_r3 : List Cond := [Cond.fieldLink RX6 9 "CostumeStock$Wardrobe" "original" "[I", Cond.fieldLink RX6 15 "CostumeStock$Wardrobe" "allowance" "[I", Cond.fieldLink RX6 18 "CostumeStock$Wardrobe" "code" "[I", Cond.fieldLink RX6 21 "CostumeStock$Wardrobe" "color" "[I", Cond.fieldLink RX6 24 "CostumeStock$Wardrobe" "dirt" "[I", Cond.fieldLink RX6 27 "CostumeStock$Wardrobe" "alterations" "[I", Cond.fieldLink RX6 30 "CostumeStock$Wardrobe" "alteredMeasure" "[I", Cond.fieldLink RX6 33 "CostumeStock$Wardrobe" "change" "[I", Cond.static yX7_copyRow, Cond.code yX7_copyRow cX7_copyRow 2 none, Cond.methodLink RX7 284 Lib.Math.min.name, Cond.methodLink RX7 287 arraycopyName, Cond.native arraycopyName, Cond.static arraycopyName, Cond.initialized "java/lang/System", Cond.methodLink RX4 40 yX0_copyFrom, Cond.instanceMethod yX0_copyFrom, Cond.selects RX0 yX0_copyFrom yX0_copyFrom, Cond.initialized RX0, Cond.code yX0_copyFrom cX0_copyFrom 2 none, Cond.fieldLink RX0 18 "CostumeStock$Cast" "size" "I", Cond.fieldLink RX0 9 "CostumeStock$Cast" "measures" "[I", Cond.fieldLink RX0 15 "CostumeStock$Cast" "worn" "[I", Cond.methodLink RX4 43 yX1_copyFrom]
def wsX7_setColor_r4 : List Cond := [Cond.instanceMethod yX1_copyFrom, Cond.selects RX1 yX1_copyFrom yX1_copyFrom, Cond.initialized RX1, Cond.code yX1_copyFrom cX1_copyFrom 2 none, Cond.fieldLink RX1 27 "CostumeStock$Hires" "size" "I", Cond.fieldLink RX1 9 "CostumeStock$Hires" "costume" "[I", Cond.fieldLink RX1 15 "CostumeStock$Hires" "first" "[I", Cond.fieldLink RX1 18 "CostumeStock$Hires" "days" "[I", Cond.fieldLink RX1 21 "CostumeStock$Hires" "rate" "[I", Cond.fieldLink RX1 24 "CostumeStock$Hires" "fee" "[I", Cond.methodLink RX7 72 yX7_at, Cond.static yX7_at, Cond.code yX7_at cX7_at 2 (some .int), Cond.methodLink RX7 76 yX7_put, Cond.static yX7_put, Cond.code yX7_put cX7_put 3 none]
def wsX7_setColor : List Cond := .code yX7_setColor cX7_setColor 4 (some .int) :: ((wsX7_setColor_r1 ++ (wsX7_setColor_r2 ++ (wsX7_setColor_r3 ++ wsX7_setColor_r4))) ++ wsX70 ++ wsX40 ++ wsX60 ++ wsX20 ++ wsX00 ++ wsX10)
def wsX7_addActor_r1 : List Cond := [Cond.fieldLink RX7 10 "CostumeStock" "state" "LCostumeStock$State;", Cond.fieldLink RX7 80 "CostumeStock$State" "cast" "LCostumeStock$Cast;", Cond.fieldLink RX7 84 "CostumeStock$Cast" "size" "I", Cond.fieldLink RX7 19 "CostumeStock" "history" "LCostumeStock$History;", Cond.methodLink RX7 39 yX7_areMeasures, Cond.static yX7_areMeasures, Cond.initialized RX7, Cond.code yX7_areMeasures cX7_areMeasures 3 (some .boolean), Cond.methodLink RX7 43 yX7_isWithin, Cond.static yX7_isWithin, Cond.code yX7_isWithin cX7_isWithin 3 (some .boolean), Cond.methodLink RX7 56 yX2_remember, Cond.instanceMethod yX2_remember, Cond.selects RX2 yX2_remember yX2_remember, Cond.initialized RX2, Cond.code yX2_remember cX2_remember 3 none, Cond.fieldLink RX2 18 "CostumeStock$History" "next" "I", Cond.fieldLink RX2 30 "CostumeStock$History" "size" "I", Cond.methodLink RX2 33 Lib.Math.min.name, Cond.static Lib.Math.min.name, Cond.initialized "java/lang/Math", Cond.code Lib.Math.min.name Lib.Math.min.code 2 (some .int), Cond.methodLink RX2 22 yX2_stateAt, Cond.instanceMethod yX2_stateAt]
def wsX7_addActor_r2 : List Cond := [Cond.selects RX2 yX2_stateAt yX2_stateAt, Cond.code yX2_stateAt cX2_stateAt 2 (some (.object "CostumeStock$State")), Cond.fieldLink RX2 11 "CostumeStock$History" "states" "[LCostumeStock$State;", Cond.methodLink RX2 26 yX4_become, Cond.instanceMethod yX4_become, Cond.selects RX4 yX4_become yX4_become, Cond.initialized RX4, Cond.code yX4_become cX4_become 2 none, Cond.fieldLink RX4 12 "CostumeStock$State" "wardrobe" "LCostumeStock$Wardrobe;", Cond.fieldLink RX4 21 "CostumeStock$State" "cast" "LCostumeStock$Cast;", Cond.fieldLink RX4 28 "CostumeStock$State" "hires" "LCostumeStock$Hires;", Cond.fieldLink RX4 32 "CostumeStock$State" "settings" "[I", Cond.fieldLink RX4 50 "CostumeStock$State" "today" "I", Cond.fieldLink RX4 54 "CostumeStock$State" "minutes" "I", Cond.fieldLink RX4 57 "CostumeStock$State" "fees" "I", Cond.fieldLink RX4 60 "CostumeStock$State" "washing" "I", Cond.fieldLink RX4 63 "CostumeStock$State" "performances" "I", Cond.methodLink RX4 36 yX6_copyFrom, Cond.instanceMethod yX6_copyFrom, Cond.selects RX6 yX6_copyFrom yX6_copyFrom, Cond.initialized RX6, Cond.code yX6_copyFrom cX6_copyFrom 2 none, Cond.fieldLink RX6 36 "CostumeStock$Wardrobe" "size" "I", Cond.fieldLink RX6 9 "CostumeStock$Wardrobe" "original" "[I"]
def wsX7_addActor_r3 : List Cond := [Cond.fieldLink RX6 15 "CostumeStock$Wardrobe" "allowance" "[I", Cond.fieldLink RX6 18 "CostumeStock$Wardrobe" "code" "[I", Cond.fieldLink RX6 21 "CostumeStock$Wardrobe" "color" "[I", Cond.fieldLink RX6 24 "CostumeStock$Wardrobe" "dirt" "[I", Cond.fieldLink RX6 27 "CostumeStock$Wardrobe" "alterations" "[I", Cond.fieldLink RX6 30 "CostumeStock$Wardrobe" "alteredMeasure" "[I", Cond.fieldLink RX6 33 "CostumeStock$Wardrobe" "change" "[I", Cond.static yX7_copyRow, Cond.code yX7_copyRow cX7_copyRow 2 none, Cond.methodLink RX7 284 Lib.Math.min.name, Cond.methodLink RX7 287 arraycopyName, Cond.native arraycopyName, Cond.static arraycopyName, Cond.initialized "java/lang/System", Cond.methodLink RX4 40 yX0_copyFrom, Cond.instanceMethod yX0_copyFrom, Cond.selects RX0 yX0_copyFrom yX0_copyFrom, Cond.initialized RX0, Cond.code yX0_copyFrom cX0_copyFrom 2 none, Cond.fieldLink RX0 18 "CostumeStock$Cast" "size" "I", Cond.fieldLink RX0 9 "CostumeStock$Cast" "measures" "[I", Cond.fieldLink RX0 15 "CostumeStock$Cast" "worn" "[I", Cond.methodLink RX4 43 yX1_copyFrom, Cond.instanceMethod yX1_copyFrom]
def wsX7_addActor_r4 : List Cond := [Cond.selects RX1 yX1_copyFrom yX1_copyFrom, Cond.initialized RX1, Cond.code yX1_copyFrom cX1_copyFrom 2 none, Cond.fieldLink RX1 27 "CostumeStock$Hires" "size" "I", Cond.fieldLink RX1 9 "CostumeStock$Hires" "costume" "[I", Cond.fieldLink RX1 15 "CostumeStock$Hires" "first" "[I", Cond.fieldLink RX1 18 "CostumeStock$Hires" "days" "[I", Cond.fieldLink RX1 21 "CostumeStock$Hires" "rate" "[I", Cond.fieldLink RX1 24 "CostumeStock$Hires" "fee" "[I", Cond.methodLink RX7 87 yX0_add, Cond.instanceMethod yX0_add, Cond.selects RX0 yX0_add yX0_add, Cond.code yX0_add cX0_add 6 (some .int), Cond.static yX7_put, Cond.code yX7_put cX7_put 3 none]
def wsX7_addActor : List Cond := .code yX7_addActor cX7_addActor 4 (some .int) :: ((wsX7_addActor_r1 ++ (wsX7_addActor_r2 ++ (wsX7_addActor_r3 ++ wsX7_addActor_r4))) ++ wsX70 ++ wsX40 ++ wsX00 ++ wsX20 ++ wsX60 ++ wsX10)
def wsX7_isSetting : List Cond := .code yX7_isSetting cX7_isSetting 2 (some .boolean) :: ([.methodLink RX7 43 yX7_isWithin, .static yX7_isWithin, .initialized RX7, .code yX7_isWithin cX7_isWithin 3 (some .boolean)])
def wsX7_set_r1 : List Cond := [Cond.fieldLink RX7 19 "CostumeStock" "history" "LCostumeStock$History;", Cond.fieldLink RX7 10 "CostumeStock" "state" "LCostumeStock$State;", Cond.fieldLink RX7 94 "CostumeStock$State" "settings" "[I", Cond.methodLink RX7 43 yX7_isWithin, Cond.static yX7_isWithin, Cond.initialized RX7, Cond.code yX7_isWithin cX7_isWithin 3 (some .boolean), Cond.methodLink RX7 90 yX7_isSetting, Cond.static yX7_isSetting, Cond.code yX7_isSetting cX7_isSetting 2 (some .boolean), Cond.methodLink RX7 56 yX2_remember, Cond.instanceMethod yX2_remember, Cond.selects RX2 yX2_remember yX2_remember, Cond.initialized RX2, Cond.code yX2_remember cX2_remember 3 none, Cond.fieldLink RX2 18 "CostumeStock$History" "next" "I", Cond.fieldLink RX2 30 "CostumeStock$History" "size" "I", Cond.methodLink RX2 33 Lib.Math.min.name, Cond.static Lib.Math.min.name, Cond.initialized "java/lang/Math", Cond.code Lib.Math.min.name Lib.Math.min.code 2 (some .int), Cond.methodLink RX2 22 yX2_stateAt, Cond.instanceMethod yX2_stateAt, Cond.selects RX2 yX2_stateAt yX2_stateAt]
def wsX7_set_r2 : List Cond := [Cond.code yX2_stateAt cX2_stateAt 2 (some (.object "CostumeStock$State")), Cond.fieldLink RX2 11 "CostumeStock$History" "states" "[LCostumeStock$State;", Cond.methodLink RX2 26 yX4_become, Cond.instanceMethod yX4_become, Cond.selects RX4 yX4_become yX4_become, Cond.initialized RX4, Cond.code yX4_become cX4_become 2 none, Cond.fieldLink RX4 12 "CostumeStock$State" "wardrobe" "LCostumeStock$Wardrobe;", Cond.fieldLink RX4 21 "CostumeStock$State" "cast" "LCostumeStock$Cast;", Cond.fieldLink RX4 28 "CostumeStock$State" "hires" "LCostumeStock$Hires;", Cond.fieldLink RX4 32 "CostumeStock$State" "settings" "[I", Cond.fieldLink RX4 50 "CostumeStock$State" "today" "I", Cond.fieldLink RX4 54 "CostumeStock$State" "minutes" "I", Cond.fieldLink RX4 57 "CostumeStock$State" "fees" "I", Cond.fieldLink RX4 60 "CostumeStock$State" "washing" "I", Cond.fieldLink RX4 63 "CostumeStock$State" "performances" "I", Cond.methodLink RX4 36 yX6_copyFrom, Cond.instanceMethod yX6_copyFrom, Cond.selects RX6 yX6_copyFrom yX6_copyFrom, Cond.initialized RX6, Cond.code yX6_copyFrom cX6_copyFrom 2 none, Cond.fieldLink RX6 36 "CostumeStock$Wardrobe" "size" "I", Cond.fieldLink RX6 9 "CostumeStock$Wardrobe" "original" "[I", Cond.fieldLink RX6 15 "CostumeStock$Wardrobe" "allowance" "[I"]
def wsX7_set_r3 : List Cond := [Cond.fieldLink RX6 18 "CostumeStock$Wardrobe" "code" "[I", Cond.fieldLink RX6 21 "CostumeStock$Wardrobe" "color" "[I", Cond.fieldLink RX6 24 "CostumeStock$Wardrobe" "dirt" "[I", Cond.fieldLink RX6 27 "CostumeStock$Wardrobe" "alterations" "[I", Cond.fieldLink RX6 30 "CostumeStock$Wardrobe" "alteredMeasure" "[I", Cond.fieldLink RX6 33 "CostumeStock$Wardrobe" "change" "[I", Cond.static yX7_copyRow, Cond.code yX7_copyRow cX7_copyRow 2 none, Cond.methodLink RX7 284 Lib.Math.min.name, Cond.methodLink RX7 287 arraycopyName, Cond.native arraycopyName, Cond.static arraycopyName, Cond.initialized "java/lang/System", Cond.methodLink RX4 40 yX0_copyFrom, Cond.instanceMethod yX0_copyFrom, Cond.selects RX0 yX0_copyFrom yX0_copyFrom, Cond.initialized RX0, Cond.code yX0_copyFrom cX0_copyFrom 2 none, Cond.fieldLink RX0 18 "CostumeStock$Cast" "size" "I", Cond.fieldLink RX0 9 "CostumeStock$Cast" "measures" "[I", Cond.fieldLink RX0 15 "CostumeStock$Cast" "worn" "[I", Cond.methodLink RX4 43 yX1_copyFrom, Cond.instanceMethod yX1_copyFrom, Cond.selects RX1 yX1_copyFrom yX1_copyFrom]
def wsX7_set_r4 : List Cond := [Cond.initialized RX1, Cond.code yX1_copyFrom cX1_copyFrom 2 none, Cond.fieldLink RX1 27 "CostumeStock$Hires" "size" "I", Cond.fieldLink RX1 9 "CostumeStock$Hires" "costume" "[I", Cond.fieldLink RX1 15 "CostumeStock$Hires" "first" "[I", Cond.fieldLink RX1 18 "CostumeStock$Hires" "days" "[I", Cond.fieldLink RX1 21 "CostumeStock$Hires" "rate" "[I", Cond.fieldLink RX1 24 "CostumeStock$Hires" "fee" "[I", Cond.methodLink RX7 72 yX7_at, Cond.static yX7_at, Cond.code yX7_at cX7_at 2 (some .int), Cond.methodLink RX7 76 yX7_put, Cond.static yX7_put, Cond.code yX7_put cX7_put 3 none]
def wsX7_set : List Cond := .code yX7_set cX7_set 4 (some .int) :: ((wsX7_set_r1 ++ (wsX7_set_r2 ++ (wsX7_set_r3 ++ wsX7_set_r4))) ++ wsX70 ++ wsX40 ++ wsX20 ++ wsX60 ++ wsX00 ++ wsX10)
def wsX7_alter_r1 : List Cond := [Cond.fieldLink RX7 10 "CostumeStock" "state" "LCostumeStock$State;", Cond.fieldLink RX7 46 "CostumeStock$State" "wardrobe" "LCostumeStock$Wardrobe;", Cond.fieldLink RX7 19 "CostumeStock" "history" "LCostumeStock$History;", Cond.methodLink RX7 111 Lib.Math.abs.name, Cond.static Lib.Math.abs.name, Cond.initialized "java/lang/Math", Cond.code Lib.Math.abs.name Lib.Math.abs.code 1 (some .int), Cond.fieldLink RX7 116 "CostumeStock$State" "minutes" "I", Cond.methodLink RX7 64 yX6_has, Cond.instanceMethod yX6_has, Cond.selects RX6 yX6_has yX6_has, Cond.initialized RX6, Cond.code yX6_has cX6_has 2 (some .boolean), Cond.fieldLink RX6 36 "CostumeStock$Wardrobe" "size" "I", Cond.methodLink RX7 43 yX7_isWithin, Cond.static yX7_isWithin, Cond.initialized RX7, Cond.code yX7_isWithin cX7_isWithin 3 (some .boolean), Cond.methodLink RX7 97 yX4_isAway, Cond.instanceMethod yX4_isAway, Cond.selects RX4 yX4_isAway yX4_isAway, Cond.initialized RX4, Cond.code yX4_isAway cX4_isAway 2 (some .boolean), Cond.fieldLink RX4 28 "CostumeStock$State" "hires" "LCostumeStock$Hires;"]
def wsX7_alter_r2 : List Cond := [Cond.fieldLink RX4 50 "CostumeStock$State" "today" "I", Cond.methodLink RX4 66 yX1_overlapping, Cond.instanceMethod yX1_overlapping, Cond.selects RX1 yX1_overlapping yX1_overlapping, Cond.initialized RX1, Cond.code yX1_overlapping cX1_overlapping 5 (some .int), Cond.fieldLink RX1 27 "CostumeStock$Hires" "size" "I", Cond.fieldLink RX1 9 "CostumeStock$Hires" "costume" "[I", Cond.fieldLink RX1 15 "CostumeStock$Hires" "first" "[I", Cond.static yX7_at, Cond.code yX7_at cX7_at 2 (some .int), Cond.methodLink RX1 47 yX1_dayAfter, Cond.instanceMethod yX1_dayAfter, Cond.selects RX1 yX1_dayAfter yX1_dayAfter, Cond.code yX1_dayAfter cX1_dayAfter 2 (some .int), Cond.fieldLink RX1 18 "CostumeStock$Hires" "days" "[I", Cond.methodLink RX7 100 yX6_allows, Cond.instanceMethod yX6_allows, Cond.selects RX6 yX6_allows yX6_allows, Cond.code yX6_allows cX6_allows 6 (some .boolean), Cond.fieldLink RX6 15 "CostumeStock$Wardrobe" "allowance" "[I", Cond.methodLink RX6 52 yX6_originalOf, Cond.instanceMethod yX6_originalOf, Cond.selects RX6 yX6_originalOf yX6_originalOf]
def wsX7_alter_r3 : List Cond := [Cond.code yX6_originalOf cX6_originalOf 3 (some .int), Cond.fieldLink RX6 9 "CostumeStock$Wardrobe" "original" "[I", Cond.methodLink RX6 59 yX6_present, Cond.instanceMethod yX6_present, Cond.selects RX6 yX6_present yX6_present, Cond.code yX6_present cX6_present 7 (some .int), Cond.fieldLink RX6 27 "CostumeStock$Wardrobe" "alterations" "[I", Cond.fieldLink RX6 30 "CostumeStock$Wardrobe" "alteredMeasure" "[I", Cond.fieldLink RX6 33 "CostumeStock$Wardrobe" "change" "[I", Cond.methodLink RX6 56 yX6_placeOf, Cond.instanceMethod yX6_placeOf, Cond.selects RX6 yX6_placeOf yX6_placeOf, Cond.code yX6_placeOf cX6_placeOf 3 (some .int), Cond.methodLink RX7 103 yX6_roomForAlterations, Cond.instanceMethod yX6_roomForAlterations, Cond.selects RX6 yX6_roomForAlterations yX6_roomForAlterations, Cond.code yX6_roomForAlterations cX6_roomForAlterations 2 (some .int), Cond.methodLink RX7 56 yX2_remember, Cond.instanceMethod yX2_remember, Cond.selects RX2 yX2_remember yX2_remember, Cond.initialized RX2, Cond.code yX2_remember cX2_remember 3 none, Cond.fieldLink RX2 18 "CostumeStock$History" "next" "I", Cond.fieldLink RX2 30 "CostumeStock$History" "size" "I"]
def wsX7_alter_r4 : List Cond := [Cond.methodLink RX2 33 Lib.Math.min.name, Cond.static Lib.Math.min.name, Cond.code Lib.Math.min.name Lib.Math.min.code 2 (some .int), Cond.methodLink RX2 22 yX2_stateAt, Cond.instanceMethod yX2_stateAt, Cond.selects RX2 yX2_stateAt yX2_stateAt, Cond.code yX2_stateAt cX2_stateAt 2 (some (.object "CostumeStock$State")), Cond.fieldLink RX2 11 "CostumeStock$History" "states" "[LCostumeStock$State;", Cond.methodLink RX2 26 yX4_become, Cond.instanceMethod yX4_become, Cond.selects RX4 yX4_become yX4_become, Cond.code yX4_become cX4_become 2 none, Cond.fieldLink RX4 12 "CostumeStock$State" "wardrobe" "LCostumeStock$Wardrobe;", Cond.fieldLink RX4 21 "CostumeStock$State" "cast" "LCostumeStock$Cast;", Cond.fieldLink RX4 32 "CostumeStock$State" "settings" "[I", Cond.fieldLink RX4 54 "CostumeStock$State" "minutes" "I", Cond.fieldLink RX4 57 "CostumeStock$State" "fees" "I", Cond.fieldLink RX4 60 "CostumeStock$State" "washing" "I", Cond.fieldLink RX4 63 "CostumeStock$State" "performances" "I", Cond.methodLink RX4 36 yX6_copyFrom, Cond.instanceMethod yX6_copyFrom, Cond.selects RX6 yX6_copyFrom yX6_copyFrom, Cond.code yX6_copyFrom cX6_copyFrom 2 none, Cond.fieldLink RX6 18 "CostumeStock$Wardrobe" "code" "[I"]
def wsX7_alter_r5 : List Cond := [Cond.fieldLink RX6 21 "CostumeStock$Wardrobe" "color" "[I", Cond.fieldLink RX6 24 "CostumeStock$Wardrobe" "dirt" "[I", Cond.static yX7_copyRow, Cond.code yX7_copyRow cX7_copyRow 2 none, Cond.methodLink RX7 284 Lib.Math.min.name, Cond.methodLink RX7 287 arraycopyName, Cond.native arraycopyName, Cond.static arraycopyName, Cond.initialized "java/lang/System", Cond.methodLink RX4 40 yX0_copyFrom, Cond.instanceMethod yX0_copyFrom, Cond.selects RX0 yX0_copyFrom yX0_copyFrom, Cond.initialized RX0, Cond.code yX0_copyFrom cX0_copyFrom 2 none, Cond.fieldLink RX0 18 "CostumeStock$Cast" "size" "I", Cond.fieldLink RX0 9 "CostumeStock$Cast" "measures" "[I", Cond.fieldLink RX0 15 "CostumeStock$Cast" "worn" "[I", Cond.methodLink RX4 43 yX1_copyFrom, Cond.instanceMethod yX1_copyFrom, Cond.selects RX1 yX1_copyFrom yX1_copyFrom, Cond.code yX1_copyFrom cX1_copyFrom 2 none, Cond.fieldLink RX1 21 "CostumeStock$Hires" "rate" "[I", Cond.fieldLink RX1 24 "CostumeStock$Hires" "fee" "[I", Cond.methodLink RX7 107 yX6_addAlteration]
def wsX7_alter_r6 : List Cond := [Cond.instanceMethod yX6_addAlteration, Cond.selects RX6 yX6_addAlteration yX6_addAlteration, Cond.code yX6_addAlteration cX6_addAlteration 5 none, Cond.static yX7_put, Cond.code yX7_put cX7_put 3 none]
def wsX7_alter : List Cond := .code yX7_alter cX7_alter 5 (some .int) :: ((wsX7_alter_r1 ++ (wsX7_alter_r2 ++ (wsX7_alter_r3 ++ (wsX7_alter_r4 ++ (wsX7_alter_r5 ++ wsX7_alter_r6))))) ++ wsX70 ++ wsX40 ++ wsX60 ++ wsX10 ++ wsX20 ++ wsX00)
def wsX7_unpick_r1 : List Cond := [Cond.fieldLink RX7 10 "CostumeStock" "state" "LCostumeStock$State;", Cond.fieldLink RX7 46 "CostumeStock$State" "wardrobe" "LCostumeStock$Wardrobe;", Cond.fieldLink RX7 119 "CostumeStock$Wardrobe" "alterations" "[I", Cond.fieldLink RX7 19 "CostumeStock" "history" "LCostumeStock$History;", Cond.methodLink RX7 111 Lib.Math.abs.name, Cond.static Lib.Math.abs.name, Cond.initialized "java/lang/Math", Cond.code Lib.Math.abs.name Lib.Math.abs.code 1 (some .int), Cond.fieldLink RX7 116 "CostumeStock$State" "minutes" "I", Cond.methodLink RX7 64 yX6_has, Cond.instanceMethod yX6_has, Cond.selects RX6 yX6_has yX6_has, Cond.initialized RX6, Cond.code yX6_has cX6_has 2 (some .boolean), Cond.fieldLink RX6 36 "CostumeStock$Wardrobe" "size" "I", Cond.methodLink RX7 97 yX4_isAway, Cond.instanceMethod yX4_isAway, Cond.selects RX4 yX4_isAway yX4_isAway, Cond.initialized RX4, Cond.code yX4_isAway cX4_isAway 2 (some .boolean), Cond.fieldLink RX4 28 "CostumeStock$State" "hires" "LCostumeStock$Hires;", Cond.fieldLink RX4 50 "CostumeStock$State" "today" "I", Cond.methodLink RX4 66 yX1_overlapping, Cond.instanceMethod yX1_overlapping]
def wsX7_unpick_r2 : List Cond := [Cond.selects RX1 yX1_overlapping yX1_overlapping, Cond.initialized RX1, Cond.code yX1_overlapping cX1_overlapping 5 (some .int), Cond.fieldLink RX1 27 "CostumeStock$Hires" "size" "I", Cond.fieldLink RX1 9 "CostumeStock$Hires" "costume" "[I", Cond.fieldLink RX1 15 "CostumeStock$Hires" "first" "[I", Cond.static yX7_at, Cond.initialized RX7, Cond.code yX7_at cX7_at 2 (some .int), Cond.methodLink RX1 47 yX1_dayAfter, Cond.instanceMethod yX1_dayAfter, Cond.selects RX1 yX1_dayAfter yX1_dayAfter, Cond.code yX1_dayAfter cX1_dayAfter 2 (some .int), Cond.fieldLink RX1 18 "CostumeStock$Hires" "days" "[I", Cond.methodLink RX7 72 yX7_at, Cond.methodLink RX7 56 yX2_remember, Cond.instanceMethod yX2_remember, Cond.selects RX2 yX2_remember yX2_remember, Cond.initialized RX2, Cond.code yX2_remember cX2_remember 3 none, Cond.fieldLink RX2 18 "CostumeStock$History" "next" "I", Cond.fieldLink RX2 30 "CostumeStock$History" "size" "I", Cond.methodLink RX2 33 Lib.Math.min.name, Cond.static Lib.Math.min.name]
def wsX7_unpick_r3 : List Cond := [Cond.code Lib.Math.min.name Lib.Math.min.code 2 (some .int), Cond.methodLink RX2 22 yX2_stateAt, Cond.instanceMethod yX2_stateAt, Cond.selects RX2 yX2_stateAt yX2_stateAt, Cond.code yX2_stateAt cX2_stateAt 2 (some (.object "CostumeStock$State")), Cond.fieldLink RX2 11 "CostumeStock$History" "states" "[LCostumeStock$State;", Cond.methodLink RX2 26 yX4_become, Cond.instanceMethod yX4_become, Cond.selects RX4 yX4_become yX4_become, Cond.code yX4_become cX4_become 2 none, Cond.fieldLink RX4 12 "CostumeStock$State" "wardrobe" "LCostumeStock$Wardrobe;", Cond.fieldLink RX4 21 "CostumeStock$State" "cast" "LCostumeStock$Cast;", Cond.fieldLink RX4 32 "CostumeStock$State" "settings" "[I", Cond.fieldLink RX4 54 "CostumeStock$State" "minutes" "I", Cond.fieldLink RX4 57 "CostumeStock$State" "fees" "I", Cond.fieldLink RX4 60 "CostumeStock$State" "washing" "I", Cond.fieldLink RX4 63 "CostumeStock$State" "performances" "I", Cond.methodLink RX4 36 yX6_copyFrom, Cond.instanceMethod yX6_copyFrom, Cond.selects RX6 yX6_copyFrom yX6_copyFrom, Cond.code yX6_copyFrom cX6_copyFrom 2 none, Cond.fieldLink RX6 9 "CostumeStock$Wardrobe" "original" "[I", Cond.fieldLink RX6 15 "CostumeStock$Wardrobe" "allowance" "[I", Cond.fieldLink RX6 18 "CostumeStock$Wardrobe" "code" "[I"]
def wsX7_unpick_r4 : List Cond := [Cond.fieldLink RX6 21 "CostumeStock$Wardrobe" "color" "[I", Cond.fieldLink RX6 24 "CostumeStock$Wardrobe" "dirt" "[I", Cond.fieldLink RX6 27 "CostumeStock$Wardrobe" "alterations" "[I", Cond.fieldLink RX6 30 "CostumeStock$Wardrobe" "alteredMeasure" "[I", Cond.fieldLink RX6 33 "CostumeStock$Wardrobe" "change" "[I", Cond.static yX7_copyRow, Cond.code yX7_copyRow cX7_copyRow 2 none, Cond.methodLink RX7 284 Lib.Math.min.name, Cond.methodLink RX7 287 arraycopyName, Cond.native arraycopyName, Cond.static arraycopyName, Cond.initialized "java/lang/System", Cond.methodLink RX4 40 yX0_copyFrom, Cond.instanceMethod yX0_copyFrom, Cond.selects RX0 yX0_copyFrom yX0_copyFrom, Cond.initialized RX0, Cond.code yX0_copyFrom cX0_copyFrom 2 none, Cond.fieldLink RX0 18 "CostumeStock$Cast" "size" "I", Cond.fieldLink RX0 9 "CostumeStock$Cast" "measures" "[I", Cond.fieldLink RX0 15 "CostumeStock$Cast" "worn" "[I", Cond.methodLink RX4 43 yX1_copyFrom, Cond.instanceMethod yX1_copyFrom, Cond.selects RX1 yX1_copyFrom yX1_copyFrom, Cond.code yX1_copyFrom cX1_copyFrom 2 none]
def wsX7_unpick_r5 : List Cond := [Cond.fieldLink RX1 21 "CostumeStock$Hires" "rate" "[I", Cond.fieldLink RX1 24 "CostumeStock$Hires" "fee" "[I", Cond.methodLink RX7 122 yX6_removeAlteration, Cond.instanceMethod yX6_removeAlteration, Cond.selects RX6 yX6_removeAlteration yX6_removeAlteration, Cond.code yX6_removeAlteration cX6_removeAlteration 3 (some .int), Cond.static yX7_put, Cond.code yX7_put cX7_put 3 none, Cond.methodLink RX6 56 yX6_placeOf, Cond.instanceMethod yX6_placeOf, Cond.selects RX6 yX6_placeOf yX6_placeOf, Cond.code yX6_placeOf cX6_placeOf 3 (some .int)]
def wsX7_unpick : List Cond := .code yX7_unpick cX7_unpick 4 (some .int) :: ((wsX7_unpick_r1 ++ (wsX7_unpick_r2 ++ (wsX7_unpick_r3 ++ (wsX7_unpick_r4 ++ wsX7_unpick_r5)))) ++ wsX70 ++ wsX40 ++ wsX60 ++ wsX10 ++ wsX20 ++ wsX00)
def wsX7_append : List Cond := .code yX7_append cX7_append 2 (some .int) :: ([.fieldLink RX7 26 "CostumeStock" "text" "LCostumeStock$Text;", .fieldLink RX7 125 "CostumeStock$Text" "length" "I", .methodLink RX7 43 yX7_isWithin, .static yX7_isWithin, .initialized RX7, .code yX7_isWithin cX7_isWithin 3 (some .boolean), .methodLink RX7 128 yX5_add, .instanceMethod yX5_add, .selects RX5 yX5_add yX5_add, .initialized RX5, .code yX5_add cX5_add 2 (some .int), .fieldLink RX5 9 "CostumeStock$Text" "characters" "[I", .fieldLink RX5 15 "CostumeStock$Text" "length" "I", .static yX7_put, .code yX7_put cX7_put 3 none] ++ wsX70 ++ wsX50)
def wsX7_addItem_r1 : List Cond := [Cond.fieldLink RX7 35 "CostumeStock" "reader" "LCostumeStock$Reader;", Cond.fieldLink RX7 10 "CostumeStock" "state" "LCostumeStock$State;", Cond.fieldLink RX7 80 "CostumeStock$State" "cast" "LCostumeStock$Cast;", Cond.fieldLink RX7 46 "CostumeStock$State" "wardrobe" "LCostumeStock$Wardrobe;", Cond.methodLink RX7 147 yX3_part, Cond.instanceMethod yX3_part, Cond.selects RX3 yX3_part yX3_part, Cond.initialized RX3, Cond.code yX3_part cX3_part 3 (some .int), Cond.fieldLink RX3 15 "CostumeStock$Reader" "parts" "[I", Cond.static yX7_at, Cond.initialized RX7, Cond.code yX7_at cX7_at 2 (some .int), Cond.methodLink RX7 87 yX0_add, Cond.instanceMethod yX0_add, Cond.selects RX0 yX0_add yX0_add, Cond.initialized RX0, Cond.code yX0_add cX0_add 6 (some .int), Cond.fieldLink RX0 18 "CostumeStock$Cast" "size" "I", Cond.fieldLink RX0 9 "CostumeStock$Cast" "measures" "[I", Cond.fieldLink RX0 15 "CostumeStock$Cast" "worn" "[I", Cond.static yX7_put, Cond.code yX7_put cX7_put 3 none, Cond.methodLink RX7 60 yX6_add]
def wsX7_addItem_r2 : List Cond := [Cond.instanceMethod yX6_add, Cond.selects RX6 yX6_add yX6_add, Cond.initialized RX6, Cond.code yX6_add cX6_add 8 (some .int), Cond.fieldLink RX6 36 "CostumeStock$Wardrobe" "size" "I", Cond.fieldLink RX6 9 "CostumeStock$Wardrobe" "original" "[I", Cond.fieldLink RX6 15 "CostumeStock$Wardrobe" "allowance" "[I", Cond.fieldLink RX6 18 "CostumeStock$Wardrobe" "code" "[I", Cond.fieldLink RX6 21 "CostumeStock$Wardrobe" "color" "[I", Cond.fieldLink RX6 24 "CostumeStock$Wardrobe" "dirt" "[I", Cond.fieldLink RX6 27 "CostumeStock$Wardrobe" "alterations" "[I"]
def wsX7_addItem : List Cond := .code yX7_addItem cX7_addItem 5 none :: ((wsX7_addItem_r1 ++ wsX7_addItem_r2) ++ wsX70 ++ wsX40 ++ wsX30 ++ wsX00 ++ wsX60)
def wsX7_load_r1 : List Cond := [Cond.fieldLink RX7 35 "CostumeStock" "reader" "LCostumeStock$Reader;", Cond.fieldLink RX7 10 "CostumeStock" "state" "LCostumeStock$State;", Cond.fieldLink RX7 46 "CostumeStock$State" "wardrobe" "LCostumeStock$Wardrobe;", Cond.fieldLink RX7 50 "CostumeStock$Wardrobe" "size" "I", Cond.fieldLink RX7 80 "CostumeStock$State" "cast" "LCostumeStock$Cast;", Cond.fieldLink RX7 84 "CostumeStock$Cast" "size" "I", Cond.fieldLink RX7 137 "CostumeStock$Reader" "start" "I", Cond.fieldLink RX7 19 "CostumeStock" "history" "LCostumeStock$History;", Cond.fieldLink RX7 140 "CostumeStock$Reader" "items" "I", Cond.fieldLink RX7 26 "CostumeStock" "text" "LCostumeStock$Text;", Cond.methodLink RX7 134 yX3_readAll, Cond.instanceMethod yX3_readAll, Cond.selects RX3 yX3_readAll yX3_readAll, Cond.initialized RX3, Cond.code yX3_readAll cX3_readAll 4 (some .boolean), Cond.fieldLink RX3 31 "CostumeStock$Reader" "costumesLeft" "I", Cond.fieldLink RX3 34 "CostumeStock$Reader" "actorsLeft" "I", Cond.fieldLink RX3 23 "CostumeStock$Reader" "items" "I", Cond.fieldLink RX3 37 "CostumeStock$Reader" "end" "I", Cond.fieldLink RX3 43 "CostumeStock$Reader" "token" "I", Cond.methodLink RX3 40 yX3_nextToken, Cond.instanceMethod yX3_nextToken, Cond.selects RX3 yX3_nextToken yX3_nextToken, Cond.code yX3_nextToken cX3_nextToken 1 none]
def wsX7_load_r2 : List Cond := [Cond.fieldLink RX3 77 "CostumeStock$Reader" "start" "I", Cond.fieldLink RX3 9 "CostumeStock$Reader" "text" "LCostumeStock$Text;", Cond.fieldLink RX3 104 "CostumeStock$Text" "length" "I", Cond.fieldLink RX3 72 "CostumeStock$Text" "characters" "[I", Cond.static yX7_at, Cond.initialized RX7, Cond.code yX7_at cX7_at 2 (some .int), Cond.methodLink RX3 106 yX3_kindAt, Cond.instanceMethod yX3_kindAt, Cond.selects RX3 yX3_kindAt yX3_kindAt, Cond.code yX3_kindAt cX3_kindAt 3 (some .int), Cond.static yX7_isWithin, Cond.code yX7_isWithin cX7_isWithin 3 (some .boolean), Cond.methodLink RX3 46 yX3_readItem, Cond.instanceMethod yX3_readItem, Cond.selects RX3 yX3_readItem yX3_readItem, Cond.code yX3_readItem cX3_readItem 4 (some .boolean), Cond.methodLink RX3 52 yX3_isWord, Cond.instanceMethod yX3_isWord, Cond.selects RX3 yX3_isWord yX3_isWord, Cond.code yX3_isWord cX3_isWord 3 (some .boolean), Cond.methodLink RX3 94 yJ0_length_8abf5, Cond.instanceMethod yJ0_length_8abf5, Cond.selects RJ0 yJ0_length_8abf5 yJ0_length_8abf5]
def wsX7_load_r3 : List Cond := [Cond.initialized RJ0, Cond.code yJ0_length_8abf5 cJ0_length_8abf5 1 (some .int), Cond.fieldLink RJ0 9 "java/lang/String" "value" "[B", Cond.methodLink RJ0 335 yJ0_coder_7d493, Cond.instanceMethod yJ0_coder_7d493, Cond.selects RJ0 yJ0_coder_7d493 yJ0_coder_7d493, Cond.code yJ0_coder_7d493 cJ0_coder_7d493 1 (some .byte), Cond.fieldLink RJ0 38 "java/lang/String" "COMPACT_STRINGS" "Z", Cond.fieldLink RJ0 15 "java/lang/String" "coder" "B", Cond.methodLink RX3 100 yJ0_charAt_5068e, Cond.instanceMethod yJ0_charAt_5068e, Cond.selects RJ0 yJ0_charAt_5068e yJ0_charAt_5068e, Cond.code yJ0_charAt_5068e cJ0_charAt_5068e 2 (some .char), Cond.methodLink RJ0 492 yJ0_isLatin1_aae02, Cond.instanceMethod yJ0_isLatin1_aae02, Cond.selects RJ0 yJ0_isLatin1_aae02 yJ0_isLatin1_aae02, Cond.code yJ0_isLatin1_aae02 cJ0_isLatin1_aae02 1 (some .boolean), Cond.methodLink RJ0 495 yJ1_charAt_3b067, Cond.static yJ1_charAt_3b067, Cond.initialized RJ1, Cond.code yJ1_charAt_3b067 cJ1_charAt_3b067 2 (some .char), Cond.methodLink RJ1 9 yJ0_checkIndex_df160, Cond.static yJ0_checkIndex_df160, Cond.code yJ0_checkIndex_df160 cJ0_checkIndex_df160 2 none]
def wsX7_load_r4 : List Cond := [Cond.fieldLink RJ0 1053 "jdk/internal/util/Preconditions" "SIOOBE_FORMATTER" "Ljava/util/function/BiFunction;", Cond.methodLink RJ0 1059 yJ3_checkIndex_8e157, Cond.static yJ3_checkIndex_8e157, Cond.initialized RJ3, Cond.code yJ3_checkIndex_8e157 cJ3_checkIndex_8e157 3 (some .int), Cond.methodLink RJ0 498 yJ2_charAt_3b067, Cond.static yJ2_charAt_3b067, Cond.initialized RJ2, Cond.code yJ2_charAt_3b067 cJ2_charAt_3b067 2 (some .char), Cond.methodLink RJ2 67 yJ2_checkIndex_2214a, Cond.static yJ2_checkIndex_2214a, Cond.code yJ2_checkIndex_2214a cJ2_checkIndex_2214a 2 none, Cond.methodLink RJ2 48 yJ2_length_9d52b, Cond.static yJ2_length_9d52b, Cond.code yJ2_length_9d52b cJ2_length_9d52b 1 (some .int), Cond.methodLink RJ2 414 yJ0_checkIndex_df160, Cond.methodLink RJ2 71 yJ2_getChar_3b067, Cond.static yJ2_getChar_3b067, Cond.code yJ2_getChar_3b067 cJ2_getChar_3b067 2 (some .char), Cond.fieldLink RJ2 44 "java/lang/StringUTF16" "$assertionsDisabled" "Z", Cond.fieldLink RJ2 59 "java/lang/StringUTF16" "HI_BYTE_SHIFT" "I", Cond.fieldLink RJ2 63 "java/lang/StringUTF16" "LO_BYTE_SHIFT" "I", Cond.methodLink RX3 58 yX3_takePlace, Cond.instanceMethod yX3_takePlace]
def wsX7_load_r5 : List Cond := [Cond.selects RX3 yX3_takePlace yX3_takePlace, Cond.code yX3_takePlace cX3_takePlace 2 (some .boolean), Cond.methodLink RX3 62 yX3_keep, Cond.instanceMethod yX3_keep, Cond.selects RX3 yX3_keep yX3_keep, Cond.code yX3_keep cX3_keep 3 none, Cond.fieldLink RX3 15 "CostumeStock$Reader" "parts" "[I", Cond.static yX7_put, Cond.code yX7_put cX7_put 3 none, Cond.methodLink RX3 66 yX3_readNumber, Cond.instanceMethod yX3_readNumber, Cond.selects RX3 yX3_readNumber yX3_readNumber, Cond.code yX3_readNumber cX3_readNumber 5 (some .boolean), Cond.methodLink RX3 80 Lib.Math.min.name, Cond.static Lib.Math.min.name, Cond.initialized "java/lang/Math", Cond.code Lib.Math.min.name Lib.Math.min.code 2 (some .int), Cond.methodLink RX3 86 yX3_isAllowed, Cond.static yX3_isAllowed, Cond.code yX3_isAllowed cX3_isAllowed 2 (some .boolean), Cond.methodLink RX7 56 yX2_remember, Cond.instanceMethod yX2_remember, Cond.selects RX2 yX2_remember yX2_remember, Cond.initialized RX2]
def wsX7_load_r6 : List Cond := [Cond.code yX2_remember cX2_remember 3 none, Cond.fieldLink RX2 18 "CostumeStock$History" "next" "I", Cond.fieldLink RX2 30 "CostumeStock$History" "size" "I", Cond.methodLink RX2 33 Lib.Math.min.name, Cond.methodLink RX2 22 yX2_stateAt, Cond.instanceMethod yX2_stateAt, Cond.selects RX2 yX2_stateAt yX2_stateAt, Cond.code yX2_stateAt cX2_stateAt 2 (some (.object "CostumeStock$State")), Cond.fieldLink RX2 11 "CostumeStock$History" "states" "[LCostumeStock$State;", Cond.methodLink RX2 26 yX4_become, Cond.instanceMethod yX4_become, Cond.selects RX4 yX4_become yX4_become, Cond.initialized RX4, Cond.code yX4_become cX4_become 2 none, Cond.fieldLink RX4 12 "CostumeStock$State" "wardrobe" "LCostumeStock$Wardrobe;", Cond.fieldLink RX4 21 "CostumeStock$State" "cast" "LCostumeStock$Cast;", Cond.fieldLink RX4 28 "CostumeStock$State" "hires" "LCostumeStock$Hires;", Cond.fieldLink RX4 32 "CostumeStock$State" "settings" "[I", Cond.fieldLink RX4 50 "CostumeStock$State" "today" "I", Cond.fieldLink RX4 54 "CostumeStock$State" "minutes" "I", Cond.fieldLink RX4 57 "CostumeStock$State" "fees" "I", Cond.fieldLink RX4 60 "CostumeStock$State" "washing" "I", Cond.fieldLink RX4 63 "CostumeStock$State" "performances" "I", Cond.methodLink RX4 36 yX6_copyFrom]
def wsX7_load_r7 : List Cond := [Cond.instanceMethod yX6_copyFrom, Cond.selects RX6 yX6_copyFrom yX6_copyFrom, Cond.initialized RX6, Cond.code yX6_copyFrom cX6_copyFrom 2 none, Cond.fieldLink RX6 36 "CostumeStock$Wardrobe" "size" "I", Cond.fieldLink RX6 9 "CostumeStock$Wardrobe" "original" "[I", Cond.fieldLink RX6 15 "CostumeStock$Wardrobe" "allowance" "[I", Cond.fieldLink RX6 18 "CostumeStock$Wardrobe" "code" "[I", Cond.fieldLink RX6 21 "CostumeStock$Wardrobe" "color" "[I", Cond.fieldLink RX6 24 "CostumeStock$Wardrobe" "dirt" "[I", Cond.fieldLink RX6 27 "CostumeStock$Wardrobe" "alterations" "[I", Cond.fieldLink RX6 30 "CostumeStock$Wardrobe" "alteredMeasure" "[I", Cond.fieldLink RX6 33 "CostumeStock$Wardrobe" "change" "[I", Cond.static yX7_copyRow, Cond.code yX7_copyRow cX7_copyRow 2 none, Cond.methodLink RX7 284 Lib.Math.min.name, Cond.methodLink RX7 287 arraycopyName, Cond.native arraycopyName, Cond.static arraycopyName, Cond.initialized "java/lang/System", Cond.methodLink RX4 40 yX0_copyFrom, Cond.instanceMethod yX0_copyFrom, Cond.selects RX0 yX0_copyFrom yX0_copyFrom, Cond.initialized RX0]
def wsX7_load_r8 : List Cond := [Cond.code yX0_copyFrom cX0_copyFrom 2 none, Cond.fieldLink RX0 18 "CostumeStock$Cast" "size" "I", Cond.fieldLink RX0 9 "CostumeStock$Cast" "measures" "[I", Cond.fieldLink RX0 15 "CostumeStock$Cast" "worn" "[I", Cond.methodLink RX4 43 yX1_copyFrom, Cond.instanceMethod yX1_copyFrom, Cond.selects RX1 yX1_copyFrom yX1_copyFrom, Cond.initialized RX1, Cond.code yX1_copyFrom cX1_copyFrom 2 none, Cond.fieldLink RX1 27 "CostumeStock$Hires" "size" "I", Cond.fieldLink RX1 9 "CostumeStock$Hires" "costume" "[I", Cond.fieldLink RX1 15 "CostumeStock$Hires" "first" "[I", Cond.fieldLink RX1 18 "CostumeStock$Hires" "days" "[I", Cond.fieldLink RX1 21 "CostumeStock$Hires" "rate" "[I", Cond.fieldLink RX1 24 "CostumeStock$Hires" "fee" "[I", Cond.methodLink RX7 143 yX7_addItem, Cond.instanceMethod yX7_addItem, Cond.selects RX7 yX7_addItem yX7_addItem, Cond.code yX7_addItem cX7_addItem 5 none, Cond.methodLink RX7 147 yX3_part, Cond.instanceMethod yX3_part, Cond.selects RX3 yX3_part yX3_part, Cond.code yX3_part cX3_part 3 (some .int), Cond.methodLink RX7 87 yX0_add]
def wsX7_load_r9 : List Cond := [Cond.instanceMethod yX0_add, Cond.selects RX0 yX0_add yX0_add, Cond.code yX0_add cX0_add 6 (some .int), Cond.methodLink RX7 60 yX6_add, Cond.instanceMethod yX6_add, Cond.selects RX6 yX6_add yX6_add, Cond.code yX6_add cX6_add 8 (some .int), Cond.methodLink RX7 130 yX5_empty, Cond.instanceMethod yX5_empty, Cond.selects RX5 yX5_empty yX5_empty, Cond.initialized RX5, Cond.code yX5_empty cX5_empty 2 (some .int), Cond.fieldLink RX5 15 "CostumeStock$Text" "length" "I"]
def wsX7_load : List Cond := .code yX7_load cX7_load 2 (some .int) :: ((wsX7_load_r1 ++ (wsX7_load_r2 ++ (wsX7_load_r3 ++ (wsX7_load_r4 ++ (wsX7_load_r5 ++ (wsX7_load_r6 ++ (wsX7_load_r7 ++ (wsX7_load_r8 ++ wsX7_load_r9)))))))) ++ wsX70 ++ wsX40 ++ wsX60 ++ wsX00 ++ wsX30 ++ wsX50 ++ wsX20 ++ wsX10)
def wsX7_wear_r1 : List Cond := [Cond.fieldLink RX7 10 "CostumeStock" "state" "LCostumeStock$State;", Cond.fieldLink RX7 80 "CostumeStock$State" "cast" "LCostumeStock$Cast;", Cond.fieldLink RX7 46 "CostumeStock$State" "wardrobe" "LCostumeStock$Wardrobe;", Cond.fieldLink RX7 19 "CostumeStock" "history" "LCostumeStock$History;", Cond.methodLink RX7 43 yX7_isWithin, Cond.static yX7_isWithin, Cond.initialized RX7, Cond.code yX7_isWithin cX7_isWithin 3 (some .boolean), Cond.methodLink RX7 151 yX0_has, Cond.instanceMethod yX0_has, Cond.selects RX0 yX0_has yX0_has, Cond.initialized RX0, Cond.code yX0_has cX0_has 2 (some .boolean), Cond.fieldLink RX0 18 "CostumeStock$Cast" "size" "I", Cond.methodLink RX7 64 yX6_has, Cond.instanceMethod yX6_has, Cond.selects RX6 yX6_has yX6_has, Cond.initialized RX6, Cond.code yX6_has cX6_has 2 (some .boolean), Cond.fieldLink RX6 36 "CostumeStock$Wardrobe" "size" "I", Cond.methodLink RX7 56 yX2_remember, Cond.instanceMethod yX2_remember, Cond.selects RX2 yX2_remember yX2_remember, Cond.initialized RX2]
def wsX7_wear_r2 : List Cond := [Cond.code yX2_remember cX2_remember 3 none, Cond.fieldLink RX2 18 "CostumeStock$History" "next" "I", Cond.fieldLink RX2 30 "CostumeStock$History" "size" "I", Cond.methodLink RX2 33 Lib.Math.min.name, Cond.static Lib.Math.min.name, Cond.initialized "java/lang/Math", Cond.code Lib.Math.min.name Lib.Math.min.code 2 (some .int), Cond.methodLink RX2 22 yX2_stateAt, Cond.instanceMethod yX2_stateAt, Cond.selects RX2 yX2_stateAt yX2_stateAt, Cond.code yX2_stateAt cX2_stateAt 2 (some (.object "CostumeStock$State")), Cond.fieldLink RX2 11 "CostumeStock$History" "states" "[LCostumeStock$State;", Cond.methodLink RX2 26 yX4_become, Cond.instanceMethod yX4_become, Cond.selects RX4 yX4_become yX4_become, Cond.initialized RX4, Cond.code yX4_become cX4_become 2 none, Cond.fieldLink RX4 12 "CostumeStock$State" "wardrobe" "LCostumeStock$Wardrobe;", Cond.fieldLink RX4 21 "CostumeStock$State" "cast" "LCostumeStock$Cast;", Cond.fieldLink RX4 28 "CostumeStock$State" "hires" "LCostumeStock$Hires;", Cond.fieldLink RX4 32 "CostumeStock$State" "settings" "[I", Cond.fieldLink RX4 50 "CostumeStock$State" "today" "I", Cond.fieldLink RX4 54 "CostumeStock$State" "minutes" "I", Cond.fieldLink RX4 57 "CostumeStock$State" "fees" "I"]
def wsX7_wear_r3 : List Cond := [Cond.fieldLink RX4 60 "CostumeStock$State" "washing" "I", Cond.fieldLink RX4 63 "CostumeStock$State" "performances" "I", Cond.methodLink RX4 36 yX6_copyFrom, Cond.instanceMethod yX6_copyFrom, Cond.selects RX6 yX6_copyFrom yX6_copyFrom, Cond.code yX6_copyFrom cX6_copyFrom 2 none, Cond.fieldLink RX6 9 "CostumeStock$Wardrobe" "original" "[I", Cond.fieldLink RX6 15 "CostumeStock$Wardrobe" "allowance" "[I", Cond.fieldLink RX6 18 "CostumeStock$Wardrobe" "code" "[I", Cond.fieldLink RX6 21 "CostumeStock$Wardrobe" "color" "[I", Cond.fieldLink RX6 24 "CostumeStock$Wardrobe" "dirt" "[I", Cond.fieldLink RX6 27 "CostumeStock$Wardrobe" "alterations" "[I", Cond.fieldLink RX6 30 "CostumeStock$Wardrobe" "alteredMeasure" "[I", Cond.fieldLink RX6 33 "CostumeStock$Wardrobe" "change" "[I", Cond.static yX7_copyRow, Cond.code yX7_copyRow cX7_copyRow 2 none, Cond.methodLink RX7 284 Lib.Math.min.name, Cond.methodLink RX7 287 arraycopyName, Cond.native arraycopyName, Cond.static arraycopyName, Cond.initialized "java/lang/System", Cond.methodLink RX4 40 yX0_copyFrom, Cond.instanceMethod yX0_copyFrom, Cond.selects RX0 yX0_copyFrom yX0_copyFrom]
def wsX7_wear_r4 : List Cond := [Cond.code yX0_copyFrom cX0_copyFrom 2 none, Cond.fieldLink RX0 9 "CostumeStock$Cast" "measures" "[I", Cond.fieldLink RX0 15 "CostumeStock$Cast" "worn" "[I", Cond.methodLink RX4 43 yX1_copyFrom, Cond.instanceMethod yX1_copyFrom, Cond.selects RX1 yX1_copyFrom yX1_copyFrom, Cond.initialized RX1, Cond.code yX1_copyFrom cX1_copyFrom 2 none, Cond.fieldLink RX1 27 "CostumeStock$Hires" "size" "I", Cond.fieldLink RX1 9 "CostumeStock$Hires" "costume" "[I", Cond.fieldLink RX1 15 "CostumeStock$Hires" "first" "[I", Cond.fieldLink RX1 18 "CostumeStock$Hires" "days" "[I", Cond.fieldLink RX1 21 "CostumeStock$Hires" "rate" "[I", Cond.fieldLink RX1 24 "CostumeStock$Hires" "fee" "[I", Cond.methodLink RX7 152 yX0_dress, Cond.instanceMethod yX0_dress, Cond.selects RX0 yX0_dress yX0_dress, Cond.code yX0_dress cX0_dress 5 (some .int), Cond.methodLink RX0 34 yX0_wornIn, Cond.instanceMethod yX0_wornIn, Cond.selects RX0 yX0_wornIn yX0_wornIn, Cond.code yX0_wornIn cX0_wornIn 3 (some .int), Cond.static yX7_at, Cond.code yX7_at cX7_at 2 (some .int)]
def wsX7_wear_r5 : List Cond := [Cond.static yX7_put, Cond.code yX7_put cX7_put 3 none]
def wsX7_wear : List Cond := .code yX7_wear cX7_wear 4 (some .int) :: ((wsX7_wear_r1 ++ (wsX7_wear_r2 ++ (wsX7_wear_r3 ++ (wsX7_wear_r4 ++ wsX7_wear_r5)))) ++ wsX70 ++ wsX40 ++ wsX00 ++ wsX60 ++ wsX20 ++ wsX10)
def wsX7_perform_r1 : List Cond := [Cond.fieldLink RX7 10 "CostumeStock" "state" "LCostumeStock$State;", Cond.fieldLink RX7 158 "CostumeStock$State" "today" "I", Cond.fieldLink RX7 19 "CostumeStock" "history" "LCostumeStock$History;", Cond.fieldLink RX7 164 "CostumeStock$State" "performances" "I", Cond.methodLink RX7 155 yX4_problemsOf, Cond.instanceMethod yX4_problemsOf, Cond.selects RX4 yX4_problemsOf yX4_problemsOf, Cond.initialized RX4, Cond.code yX4_problemsOf cX4_problemsOf 2 (some .int), Cond.methodLink RX4 125 yX4_wornTwice, Cond.instanceMethod yX4_wornTwice, Cond.selects RX4 yX4_wornTwice yX4_wornTwice, Cond.code yX4_wornTwice cX4_wornTwice 4 (some .int), Cond.fieldLink RX4 12 "CostumeStock$State" "wardrobe" "LCostumeStock$Wardrobe;", Cond.fieldLink RX4 70 "CostumeStock$Wardrobe" "size" "I", Cond.fieldLink RX4 21 "CostumeStock$State" "cast" "LCostumeStock$Cast;", Cond.methodLink RX4 135 yX0_wearers, Cond.instanceMethod yX0_wearers, Cond.selects RX0 yX0_wearers yX0_wearers, Cond.initialized RX0, Cond.code yX0_wearers cX0_wearers 5 (some .int), Cond.fieldLink RX0 18 "CostumeStock$Cast" "size" "I", Cond.methodLink RX0 34 yX0_wornIn, Cond.instanceMethod yX0_wornIn]
def wsX7_perform_r2 : List Cond := [Cond.selects RX0 yX0_wornIn yX0_wornIn, Cond.code yX0_wornIn cX0_wornIn 3 (some .int), Cond.fieldLink RX0 15 "CostumeStock$Cast" "worn" "[I", Cond.static yX7_at, Cond.initialized RX7, Cond.code yX7_at cX7_at 2 (some .int), Cond.methodLink RX4 129 yX4_handedOver, Cond.instanceMethod yX4_handedOver, Cond.selects RX4 yX4_handedOver yX4_handedOver, Cond.code yX4_handedOver cX4_handedOver 4 (some .int), Cond.methodLink RX4 138 yX0_isHandedOver, Cond.instanceMethod yX0_isHandedOver, Cond.selects RX0 yX0_isHandedOver yX0_isHandedOver, Cond.code yX0_isHandedOver cX0_isHandedOver 4 (some .boolean), Cond.methodLink RX0 38 yX0_wearers, Cond.methodLink RX4 132 yX4_wornAmiss, Cond.instanceMethod yX4_wornAmiss, Cond.selects RX4 yX4_wornAmiss yX4_wornAmiss, Cond.code yX4_wornAmiss cX4_wornAmiss 7 (some .int), Cond.fieldLink RX4 142 "CostumeStock$Cast" "size" "I", Cond.methodLink RX4 143 yX0_wornIn, Cond.methodLink RX4 146 yX4_misfitOf, Cond.instanceMethod yX4_misfitOf, Cond.selects RX4 yX4_misfitOf yX4_misfitOf]
def wsX7_perform_r3 : List Cond := [Cond.code yX4_misfitOf cX4_misfitOf 5 (some .int), Cond.methodLink RX4 94 Lib.Math.abs.name, Cond.static Lib.Math.abs.name, Cond.initialized "java/lang/Math", Cond.code Lib.Math.abs.name Lib.Math.abs.code 1 (some .int), Cond.methodLink RX4 91 yX4_lackOf, Cond.instanceMethod yX4_lackOf, Cond.selects RX4 yX4_lackOf yX4_lackOf, Cond.code yX4_lackOf cX4_lackOf 7 (some .int), Cond.fieldLink RX4 32 "CostumeStock$State" "settings" "[I", Cond.methodLink RX4 84 yX6_present, Cond.instanceMethod yX6_present, Cond.selects RX6 yX6_present yX6_present, Cond.initialized RX6, Cond.code yX6_present cX6_present 7 (some .int), Cond.fieldLink RX6 27 "CostumeStock$Wardrobe" "alterations" "[I", Cond.fieldLink RX6 30 "CostumeStock$Wardrobe" "alteredMeasure" "[I", Cond.fieldLink RX6 33 "CostumeStock$Wardrobe" "change" "[I", Cond.methodLink RX6 52 yX6_originalOf, Cond.instanceMethod yX6_originalOf, Cond.selects RX6 yX6_originalOf yX6_originalOf, Cond.code yX6_originalOf cX6_originalOf 3 (some .int), Cond.fieldLink RX6 9 "CostumeStock$Wardrobe" "original" "[I", Cond.methodLink RX6 56 yX6_placeOf]
def wsX7_perform_r4 : List Cond := [Cond.instanceMethod yX6_placeOf, Cond.selects RX6 yX6_placeOf yX6_placeOf, Cond.code yX6_placeOf cX6_placeOf 3 (some .int), Cond.methodLink RX4 88 yX0_measureOf, Cond.instanceMethod yX0_measureOf, Cond.selects RX0 yX0_measureOf yX0_measureOf, Cond.code yX0_measureOf cX0_measureOf 3 (some .int), Cond.fieldLink RX0 9 "CostumeStock$Cast" "measures" "[I", Cond.methodLink RX4 73 yX4_isAway, Cond.instanceMethod yX4_isAway, Cond.selects RX4 yX4_isAway yX4_isAway, Cond.code yX4_isAway cX4_isAway 2 (some .boolean), Cond.fieldLink RX4 28 "CostumeStock$State" "hires" "LCostumeStock$Hires;", Cond.fieldLink RX4 50 "CostumeStock$State" "today" "I", Cond.methodLink RX4 66 yX1_overlapping, Cond.instanceMethod yX1_overlapping, Cond.selects RX1 yX1_overlapping yX1_overlapping, Cond.initialized RX1, Cond.code yX1_overlapping cX1_overlapping 5 (some .int), Cond.fieldLink RX1 27 "CostumeStock$Hires" "size" "I", Cond.fieldLink RX1 9 "CostumeStock$Hires" "costume" "[I", Cond.fieldLink RX1 15 "CostumeStock$Hires" "first" "[I", Cond.methodLink RX1 47 yX1_dayAfter, Cond.instanceMethod yX1_dayAfter]
def wsX7_perform_r5 : List Cond := [Cond.selects RX1 yX1_dayAfter yX1_dayAfter, Cond.code yX1_dayAfter cX1_dayAfter 2 (some .int), Cond.fieldLink RX1 18 "CostumeStock$Hires" "days" "[I", Cond.methodLink RX4 113 yX4_isTooDirty, Cond.instanceMethod yX4_isTooDirty, Cond.selects RX4 yX4_isTooDirty yX4_isTooDirty, Cond.code yX4_isTooDirty cX4_isTooDirty 2 (some .boolean), Cond.fieldLink RX4 77 "CostumeStock$Wardrobe" "dirt" "[I", Cond.methodLink RX7 56 yX2_remember, Cond.instanceMethod yX2_remember, Cond.selects RX2 yX2_remember yX2_remember, Cond.initialized RX2, Cond.code yX2_remember cX2_remember 3 none, Cond.fieldLink RX2 18 "CostumeStock$History" "next" "I", Cond.fieldLink RX2 30 "CostumeStock$History" "size" "I", Cond.methodLink RX2 33 Lib.Math.min.name, Cond.static Lib.Math.min.name, Cond.code Lib.Math.min.name Lib.Math.min.code 2 (some .int), Cond.methodLink RX2 22 yX2_stateAt, Cond.instanceMethod yX2_stateAt, Cond.selects RX2 yX2_stateAt yX2_stateAt, Cond.code yX2_stateAt cX2_stateAt 2 (some (.object "CostumeStock$State")), Cond.fieldLink RX2 11 "CostumeStock$History" "states" "[LCostumeStock$State;", Cond.methodLink RX2 26 yX4_become]
def wsX7_perform_r6 : List Cond := [Cond.instanceMethod yX4_become, Cond.selects RX4 yX4_become yX4_become, Cond.code yX4_become cX4_become 2 none, Cond.fieldLink RX4 54 "CostumeStock$State" "minutes" "I", Cond.fieldLink RX4 57 "CostumeStock$State" "fees" "I", Cond.fieldLink RX4 60 "CostumeStock$State" "washing" "I", Cond.fieldLink RX4 63 "CostumeStock$State" "performances" "I", Cond.methodLink RX4 36 yX6_copyFrom, Cond.instanceMethod yX6_copyFrom, Cond.selects RX6 yX6_copyFrom yX6_copyFrom, Cond.code yX6_copyFrom cX6_copyFrom 2 none, Cond.fieldLink RX6 36 "CostumeStock$Wardrobe" "size" "I", Cond.fieldLink RX6 15 "CostumeStock$Wardrobe" "allowance" "[I", Cond.fieldLink RX6 18 "CostumeStock$Wardrobe" "code" "[I", Cond.fieldLink RX6 21 "CostumeStock$Wardrobe" "color" "[I", Cond.fieldLink RX6 24 "CostumeStock$Wardrobe" "dirt" "[I", Cond.static yX7_copyRow, Cond.code yX7_copyRow cX7_copyRow 2 none, Cond.methodLink RX7 284 Lib.Math.min.name, Cond.methodLink RX7 287 arraycopyName, Cond.native arraycopyName, Cond.static arraycopyName, Cond.initialized "java/lang/System", Cond.methodLink RX4 40 yX0_copyFrom]
def wsX7_perform_r7 : List Cond := [Cond.instanceMethod yX0_copyFrom, Cond.selects RX0 yX0_copyFrom yX0_copyFrom, Cond.code yX0_copyFrom cX0_copyFrom 2 none, Cond.methodLink RX4 43 yX1_copyFrom, Cond.instanceMethod yX1_copyFrom, Cond.selects RX1 yX1_copyFrom yX1_copyFrom, Cond.code yX1_copyFrom cX1_copyFrom 2 none, Cond.fieldLink RX1 21 "CostumeStock$Hires" "rate" "[I", Cond.fieldLink RX1 24 "CostumeStock$Hires" "fee" "[I", Cond.methodLink RX7 161 yX4_soilAll, Cond.instanceMethod yX4_soilAll, Cond.selects RX4 yX4_soilAll yX4_soilAll, Cond.code yX4_soilAll cX4_soilAll 2 none, Cond.methodLink RX4 149 yX0_scenesOf, Cond.instanceMethod yX0_scenesOf, Cond.selects RX0 yX0_scenesOf yX0_scenesOf, Cond.code yX0_scenesOf cX0_scenesOf 4 (some .int), Cond.methodLink RX4 152 yX6_soil, Cond.instanceMethod yX6_soil, Cond.selects RX6 yX6_soil yX6_soil, Cond.code yX6_soil cX6_soil 3 none, Cond.methodLink RX6 69 Lib.Math.min.name, Cond.static yX7_put, Cond.code yX7_put cX7_put 3 none]
def wsX7_perform : List Cond := .code yX7_perform cX7_perform 2 (some .int) :: ((wsX7_perform_r1 ++ (wsX7_perform_r2 ++ (wsX7_perform_r3 ++ (wsX7_perform_r4 ++ (wsX7_perform_r5 ++ (wsX7_perform_r6 ++ wsX7_perform_r7)))))) ++ wsX70 ++ wsX40 ++ wsX60 ++ wsX00 ++ wsX10 ++ wsX20)
def wsX7_pass_r1 : List Cond := [Cond.fieldLink RX7 10 "CostumeStock" "state" "LCostumeStock$State;", Cond.fieldLink RX7 158 "CostumeStock$State" "today" "I", Cond.fieldLink RX7 19 "CostumeStock" "history" "LCostumeStock$History;", Cond.methodLink RX7 43 yX7_isWithin, Cond.static yX7_isWithin, Cond.initialized RX7, Cond.code yX7_isWithin cX7_isWithin 3 (some .boolean), Cond.methodLink RX7 56 yX2_remember, Cond.instanceMethod yX2_remember, Cond.selects RX2 yX2_remember yX2_remember, Cond.initialized RX2, Cond.code yX2_remember cX2_remember 3 none, Cond.fieldLink RX2 18 "CostumeStock$History" "next" "I", Cond.fieldLink RX2 30 "CostumeStock$History" "size" "I", Cond.methodLink RX2 33 Lib.Math.min.name, Cond.static Lib.Math.min.name, Cond.initialized "java/lang/Math", Cond.code Lib.Math.min.name Lib.Math.min.code 2 (some .int), Cond.methodLink RX2 22 yX2_stateAt, Cond.instanceMethod yX2_stateAt, Cond.selects RX2 yX2_stateAt yX2_stateAt, Cond.code yX2_stateAt cX2_stateAt 2 (some (.object "CostumeStock$State")), Cond.fieldLink RX2 11 "CostumeStock$History" "states" "[LCostumeStock$State;", Cond.methodLink RX2 26 yX4_become]
def wsX7_pass_r2 : List Cond := [Cond.instanceMethod yX4_become, Cond.selects RX4 yX4_become yX4_become, Cond.initialized RX4, Cond.code yX4_become cX4_become 2 none, Cond.fieldLink RX4 12 "CostumeStock$State" "wardrobe" "LCostumeStock$Wardrobe;", Cond.fieldLink RX4 21 "CostumeStock$State" "cast" "LCostumeStock$Cast;", Cond.fieldLink RX4 28 "CostumeStock$State" "hires" "LCostumeStock$Hires;", Cond.fieldLink RX4 32 "CostumeStock$State" "settings" "[I", Cond.fieldLink RX4 50 "CostumeStock$State" "today" "I", Cond.fieldLink RX4 54 "CostumeStock$State" "minutes" "I", Cond.fieldLink RX4 57 "CostumeStock$State" "fees" "I", Cond.fieldLink RX4 60 "CostumeStock$State" "washing" "I", Cond.fieldLink RX4 63 "CostumeStock$State" "performances" "I", Cond.methodLink RX4 36 yX6_copyFrom, Cond.instanceMethod yX6_copyFrom, Cond.selects RX6 yX6_copyFrom yX6_copyFrom, Cond.initialized RX6, Cond.code yX6_copyFrom cX6_copyFrom 2 none, Cond.fieldLink RX6 36 "CostumeStock$Wardrobe" "size" "I", Cond.fieldLink RX6 9 "CostumeStock$Wardrobe" "original" "[I", Cond.fieldLink RX6 15 "CostumeStock$Wardrobe" "allowance" "[I", Cond.fieldLink RX6 18 "CostumeStock$Wardrobe" "code" "[I", Cond.fieldLink RX6 21 "CostumeStock$Wardrobe" "color" "[I", Cond.fieldLink RX6 24 "CostumeStock$Wardrobe" "dirt" "[I"]
def wsX7_pass_r3 : List Cond := [Cond.fieldLink RX6 27 "CostumeStock$Wardrobe" "alterations" "[I", Cond.fieldLink RX6 30 "CostumeStock$Wardrobe" "alteredMeasure" "[I", Cond.fieldLink RX6 33 "CostumeStock$Wardrobe" "change" "[I", Cond.static yX7_copyRow, Cond.code yX7_copyRow cX7_copyRow 2 none, Cond.methodLink RX7 284 Lib.Math.min.name, Cond.methodLink RX7 287 arraycopyName, Cond.native arraycopyName, Cond.static arraycopyName, Cond.initialized "java/lang/System", Cond.methodLink RX4 40 yX0_copyFrom, Cond.instanceMethod yX0_copyFrom, Cond.selects RX0 yX0_copyFrom yX0_copyFrom, Cond.initialized RX0, Cond.code yX0_copyFrom cX0_copyFrom 2 none, Cond.fieldLink RX0 18 "CostumeStock$Cast" "size" "I", Cond.fieldLink RX0 9 "CostumeStock$Cast" "measures" "[I", Cond.fieldLink RX0 15 "CostumeStock$Cast" "worn" "[I", Cond.methodLink RX4 43 yX1_copyFrom, Cond.instanceMethod yX1_copyFrom, Cond.selects RX1 yX1_copyFrom yX1_copyFrom, Cond.initialized RX1, Cond.code yX1_copyFrom cX1_copyFrom 2 none, Cond.fieldLink RX1 27 "CostumeStock$Hires" "size" "I"]
def wsX7_pass_r4 : List Cond := [Cond.fieldLink RX1 9 "CostumeStock$Hires" "costume" "[I", Cond.fieldLink RX1 15 "CostumeStock$Hires" "first" "[I", Cond.fieldLink RX1 18 "CostumeStock$Hires" "days" "[I", Cond.fieldLink RX1 21 "CostumeStock$Hires" "rate" "[I", Cond.fieldLink RX1 24 "CostumeStock$Hires" "fee" "[I"]
def wsX7_pass : List Cond := .code yX7_pass cX7_pass 2 (some .int) :: ((wsX7_pass_r1 ++ (wsX7_pass_r2 ++ (wsX7_pass_r3 ++ wsX7_pass_r4))) ++ wsX70 ++ wsX40 ++ wsX20 ++ wsX60 ++ wsX00 ++ wsX10)
def wsX7_hire_r1 : List Cond := [Cond.fieldLink RX7 10 "CostumeStock" "state" "LCostumeStock$State;", Cond.fieldLink RX7 46 "CostumeStock$State" "wardrobe" "LCostumeStock$Wardrobe;", Cond.fieldLink RX7 158 "CostumeStock$State" "today" "I", Cond.fieldLink RX7 167 "CostumeStock$State" "hires" "LCostumeStock$Hires;", Cond.fieldLink RX7 176 "CostumeStock$Hires" "size" "I", Cond.fieldLink RX7 19 "CostumeStock" "history" "LCostumeStock$History;", Cond.fieldLink RX7 180 "CostumeStock$State" "fees" "I", Cond.methodLink RX7 64 yX6_has, Cond.instanceMethod yX6_has, Cond.selects RX6 yX6_has yX6_has, Cond.initialized RX6, Cond.code yX6_has cX6_has 2 (some .boolean), Cond.fieldLink RX6 36 "CostumeStock$Wardrobe" "size" "I", Cond.methodLink RX7 43 yX7_isWithin, Cond.static yX7_isWithin, Cond.initialized RX7, Cond.code yX7_isWithin cX7_isWithin 3 (some .boolean), Cond.methodLink RX7 171 yX1_overlapping, Cond.instanceMethod yX1_overlapping, Cond.selects RX1 yX1_overlapping yX1_overlapping, Cond.initialized RX1, Cond.code yX1_overlapping cX1_overlapping 5 (some .int), Cond.fieldLink RX1 27 "CostumeStock$Hires" "size" "I", Cond.fieldLink RX1 9 "CostumeStock$Hires" "costume" "[I"]
def wsX7_hire_r2 : List Cond := [Cond.fieldLink RX1 15 "CostumeStock$Hires" "first" "[I", Cond.static yX7_at, Cond.code yX7_at cX7_at 2 (some .int), Cond.methodLink RX1 47 yX1_dayAfter, Cond.instanceMethod yX1_dayAfter, Cond.selects RX1 yX1_dayAfter yX1_dayAfter, Cond.code yX1_dayAfter cX1_dayAfter 2 (some .int), Cond.fieldLink RX1 18 "CostumeStock$Hires" "days" "[I", Cond.methodLink RX7 56 yX2_remember, Cond.instanceMethod yX2_remember, Cond.selects RX2 yX2_remember yX2_remember, Cond.initialized RX2, Cond.code yX2_remember cX2_remember 3 none, Cond.fieldLink RX2 18 "CostumeStock$History" "next" "I", Cond.fieldLink RX2 30 "CostumeStock$History" "size" "I", Cond.methodLink RX2 33 Lib.Math.min.name, Cond.static Lib.Math.min.name, Cond.initialized "java/lang/Math", Cond.code Lib.Math.min.name Lib.Math.min.code 2 (some .int), Cond.methodLink RX2 22 yX2_stateAt, Cond.instanceMethod yX2_stateAt, Cond.selects RX2 yX2_stateAt yX2_stateAt, Cond.code yX2_stateAt cX2_stateAt 2 (some (.object "CostumeStock$State")), Cond.fieldLink RX2 11 "CostumeStock$History" "states" "[LCostumeStock$State;"]
def wsX7_hire_r3 : List Cond := [Cond.methodLink RX2 26 yX4_become, Cond.instanceMethod yX4_become, Cond.selects RX4 yX4_become yX4_become, Cond.initialized RX4, Cond.code yX4_become cX4_become 2 none, Cond.fieldLink RX4 12 "CostumeStock$State" "wardrobe" "LCostumeStock$Wardrobe;", Cond.fieldLink RX4 21 "CostumeStock$State" "cast" "LCostumeStock$Cast;", Cond.fieldLink RX4 28 "CostumeStock$State" "hires" "LCostumeStock$Hires;", Cond.fieldLink RX4 32 "CostumeStock$State" "settings" "[I", Cond.fieldLink RX4 50 "CostumeStock$State" "today" "I", Cond.fieldLink RX4 54 "CostumeStock$State" "minutes" "I", Cond.fieldLink RX4 57 "CostumeStock$State" "fees" "I", Cond.fieldLink RX4 60 "CostumeStock$State" "washing" "I", Cond.fieldLink RX4 63 "CostumeStock$State" "performances" "I", Cond.methodLink RX4 36 yX6_copyFrom, Cond.instanceMethod yX6_copyFrom, Cond.selects RX6 yX6_copyFrom yX6_copyFrom, Cond.code yX6_copyFrom cX6_copyFrom 2 none, Cond.fieldLink RX6 9 "CostumeStock$Wardrobe" "original" "[I", Cond.fieldLink RX6 15 "CostumeStock$Wardrobe" "allowance" "[I", Cond.fieldLink RX6 18 "CostumeStock$Wardrobe" "code" "[I", Cond.fieldLink RX6 21 "CostumeStock$Wardrobe" "color" "[I", Cond.fieldLink RX6 24 "CostumeStock$Wardrobe" "dirt" "[I", Cond.fieldLink RX6 27 "CostumeStock$Wardrobe" "alterations" "[I"]
def wsX7_hire_r4 : List Cond := [Cond.fieldLink RX6 30 "CostumeStock$Wardrobe" "alteredMeasure" "[I", Cond.fieldLink RX6 33 "CostumeStock$Wardrobe" "change" "[I", Cond.static yX7_copyRow, Cond.code yX7_copyRow cX7_copyRow 2 none, Cond.methodLink RX7 284 Lib.Math.min.name, Cond.methodLink RX7 287 arraycopyName, Cond.native arraycopyName, Cond.static arraycopyName, Cond.initialized "java/lang/System", Cond.methodLink RX4 40 yX0_copyFrom, Cond.instanceMethod yX0_copyFrom, Cond.selects RX0 yX0_copyFrom yX0_copyFrom, Cond.initialized RX0, Cond.code yX0_copyFrom cX0_copyFrom 2 none, Cond.fieldLink RX0 18 "CostumeStock$Cast" "size" "I", Cond.fieldLink RX0 9 "CostumeStock$Cast" "measures" "[I", Cond.fieldLink RX0 15 "CostumeStock$Cast" "worn" "[I", Cond.methodLink RX4 43 yX1_copyFrom, Cond.instanceMethod yX1_copyFrom, Cond.selects RX1 yX1_copyFrom yX1_copyFrom, Cond.code yX1_copyFrom cX1_copyFrom 2 none, Cond.fieldLink RX1 21 "CostumeStock$Hires" "rate" "[I", Cond.fieldLink RX1 24 "CostumeStock$Hires" "fee" "[I", Cond.methodLink RX7 177 yX1_add]
def wsX7_hire_r5 : List Cond := [Cond.instanceMethod yX1_add, Cond.selects RX1 yX1_add yX1_add, Cond.code yX1_add cX1_add 6 (some .int), Cond.methodLink RX1 35 yX1_feeFor, Cond.static yX1_feeFor, Cond.code yX1_feeFor cX1_feeFor 2 (some .int), Cond.static yX7_put, Cond.code yX7_put cX7_put 3 none]
def wsX7_hire : List Cond := .code yX7_hire cX7_hire 6 (some .int) :: ((wsX7_hire_r1 ++ (wsX7_hire_r2 ++ (wsX7_hire_r3 ++ (wsX7_hire_r4 ++ wsX7_hire_r5)))) ++ wsX70 ++ wsX40 ++ wsX10 ++ wsX60 ++ wsX20 ++ wsX00)
def wsX7_endHire_r1 : List Cond := [Cond.fieldLink RX7 10 "CostumeStock" "state" "LCostumeStock$State;", Cond.fieldLink RX7 167 "CostumeStock$State" "hires" "LCostumeStock$Hires;", Cond.fieldLink RX7 158 "CostumeStock$State" "today" "I", Cond.fieldLink RX7 19 "CostumeStock" "history" "LCostumeStock$History;", Cond.fieldLink RX7 180 "CostumeStock$State" "fees" "I", Cond.methodLink RX7 183 yX1_has, Cond.instanceMethod yX1_has, Cond.selects RX1 yX1_has yX1_has, Cond.initialized RX1, Cond.code yX1_has cX1_has 2 (some .boolean), Cond.fieldLink RX1 27 "CostumeStock$Hires" "size" "I", Cond.methodLink RX7 184 yX1_canEnd, Cond.instanceMethod yX1_canEnd, Cond.selects RX1 yX1_canEnd yX1_canEnd, Cond.code yX1_canEnd cX1_canEnd 3 (some .boolean), Cond.fieldLink RX1 15 "CostumeStock$Hires" "first" "[I", Cond.static yX7_at, Cond.initialized RX7, Cond.code yX7_at cX7_at 2 (some .int), Cond.methodLink RX1 47 yX1_dayAfter, Cond.instanceMethod yX1_dayAfter, Cond.selects RX1 yX1_dayAfter yX1_dayAfter, Cond.code yX1_dayAfter cX1_dayAfter 2 (some .int), Cond.fieldLink RX1 18 "CostumeStock$Hires" "days" "[I"]
def wsX7_endHire_r2 : List Cond := [Cond.methodLink RX7 56 yX2_remember, Cond.instanceMethod yX2_remember, Cond.selects RX2 yX2_remember yX2_remember, Cond.initialized RX2, Cond.code yX2_remember cX2_remember 3 none, Cond.fieldLink RX2 18 "CostumeStock$History" "next" "I", Cond.fieldLink RX2 30 "CostumeStock$History" "size" "I", Cond.methodLink RX2 33 Lib.Math.min.name, Cond.static Lib.Math.min.name, Cond.initialized "java/lang/Math", Cond.code Lib.Math.min.name Lib.Math.min.code 2 (some .int), Cond.methodLink RX2 22 yX2_stateAt, Cond.instanceMethod yX2_stateAt, Cond.selects RX2 yX2_stateAt yX2_stateAt, Cond.code yX2_stateAt cX2_stateAt 2 (some (.object "CostumeStock$State")), Cond.fieldLink RX2 11 "CostumeStock$History" "states" "[LCostumeStock$State;", Cond.methodLink RX2 26 yX4_become, Cond.instanceMethod yX4_become, Cond.selects RX4 yX4_become yX4_become, Cond.initialized RX4, Cond.code yX4_become cX4_become 2 none, Cond.fieldLink RX4 12 "CostumeStock$State" "wardrobe" "LCostumeStock$Wardrobe;", Cond.fieldLink RX4 21 "CostumeStock$State" "cast" "LCostumeStock$Cast;", Cond.fieldLink RX4 28 "CostumeStock$State" "hires" "LCostumeStock$Hires;"]
def wsX7_endHire_r3 : List Cond := [Cond.fieldLink RX4 32 "CostumeStock$State" "settings" "[I", Cond.fieldLink RX4 50 "CostumeStock$State" "today" "I", Cond.fieldLink RX4 54 "CostumeStock$State" "minutes" "I", Cond.fieldLink RX4 57 "CostumeStock$State" "fees" "I", Cond.fieldLink RX4 60 "CostumeStock$State" "washing" "I", Cond.fieldLink RX4 63 "CostumeStock$State" "performances" "I", Cond.methodLink RX4 36 yX6_copyFrom, Cond.instanceMethod yX6_copyFrom, Cond.selects RX6 yX6_copyFrom yX6_copyFrom, Cond.initialized RX6, Cond.code yX6_copyFrom cX6_copyFrom 2 none, Cond.fieldLink RX6 36 "CostumeStock$Wardrobe" "size" "I", Cond.fieldLink RX6 9 "CostumeStock$Wardrobe" "original" "[I", Cond.fieldLink RX6 15 "CostumeStock$Wardrobe" "allowance" "[I", Cond.fieldLink RX6 18 "CostumeStock$Wardrobe" "code" "[I", Cond.fieldLink RX6 21 "CostumeStock$Wardrobe" "color" "[I", Cond.fieldLink RX6 24 "CostumeStock$Wardrobe" "dirt" "[I", Cond.fieldLink RX6 27 "CostumeStock$Wardrobe" "alterations" "[I", Cond.fieldLink RX6 30 "CostumeStock$Wardrobe" "alteredMeasure" "[I", Cond.fieldLink RX6 33 "CostumeStock$Wardrobe" "change" "[I", Cond.static yX7_copyRow, Cond.code yX7_copyRow cX7_copyRow 2 none, Cond.methodLink RX7 284 Lib.Math.min.name, Cond.methodLink RX7 287 arraycopyName]
def wsX7_endHire_r4 : List Cond := [Cond.native arraycopyName, Cond.static arraycopyName, Cond.initialized "java/lang/System", Cond.methodLink RX4 40 yX0_copyFrom, Cond.instanceMethod yX0_copyFrom, Cond.selects RX0 yX0_copyFrom yX0_copyFrom, Cond.initialized RX0, Cond.code yX0_copyFrom cX0_copyFrom 2 none, Cond.fieldLink RX0 18 "CostumeStock$Cast" "size" "I", Cond.fieldLink RX0 9 "CostumeStock$Cast" "measures" "[I", Cond.fieldLink RX0 15 "CostumeStock$Cast" "worn" "[I", Cond.methodLink RX4 43 yX1_copyFrom, Cond.instanceMethod yX1_copyFrom, Cond.selects RX1 yX1_copyFrom yX1_copyFrom, Cond.code yX1_copyFrom cX1_copyFrom 2 none, Cond.fieldLink RX1 9 "CostumeStock$Hires" "costume" "[I", Cond.fieldLink RX1 21 "CostumeStock$Hires" "rate" "[I", Cond.fieldLink RX1 24 "CostumeStock$Hires" "fee" "[I", Cond.methodLink RX7 187 yX1_end, Cond.instanceMethod yX1_end, Cond.selects RX1 yX1_end yX1_end, Cond.code yX1_end cX1_end 5 (some .int), Cond.methodLink RX1 35 yX1_feeFor, Cond.static yX1_feeFor]
def wsX7_endHire_r5 : List Cond := [Cond.code yX1_feeFor cX1_feeFor 2 (some .int), Cond.static yX7_put, Cond.code yX7_put cX7_put 3 none]
def wsX7_endHire : List Cond := .code yX7_endHire cX7_endHire 3 (some .int) :: ((wsX7_endHire_r1 ++ (wsX7_endHire_r2 ++ (wsX7_endHire_r3 ++ (wsX7_endHire_r4 ++ wsX7_endHire_r5)))) ++ wsX70 ++ wsX40 ++ wsX10 ++ wsX20 ++ wsX60 ++ wsX00)
def wsX7_isProgram : List Cond := .code yX7_isProgram cX7_isProgram 1 (some .boolean) :: ([.methodLink RX7 43 yX7_isWithin, .static yX7_isWithin, .initialized RX7, .code yX7_isWithin cX7_isWithin 3 (some .boolean)])
def wsX7_isSetOfCostumes : List Cond := .code yX7_isSetOfCostumes cX7_isSetOfCostumes 2 (some .boolean) :: ([.fieldLink RX7 10 "CostumeStock" "state" "LCostumeStock$State;", .fieldLink RX7 46 "CostumeStock$State" "wardrobe" "LCostumeStock$Wardrobe;", .fieldLink RX7 50 "CostumeStock$Wardrobe" "size" "I"] ++ wsX70 ++ wsX40 ++ wsX60)
def wsX7_wash_r1 : List Cond := [Cond.fieldLink RX7 10 "CostumeStock" "state" "LCostumeStock$State;", Cond.fieldLink RX7 19 "CostumeStock" "history" "LCostumeStock$History;", Cond.fieldLink RX7 199 "CostumeStock$State" "washing" "I", Cond.fieldLink RX7 202 "CostumeStock" "COST_OF_PROGRAM" "[I", Cond.fieldLink RX7 46 "CostumeStock$State" "wardrobe" "LCostumeStock$Wardrobe;", Cond.fieldLink RX7 205 "CostumeStock" "DIRT_OUT_OF_PROGRAM" "[I", Cond.methodLink RX7 190 yX7_isProgram, Cond.static yX7_isProgram, Cond.initialized RX7, Cond.code yX7_isProgram cX7_isProgram 1 (some .boolean), Cond.methodLink RX7 43 yX7_isWithin, Cond.static yX7_isWithin, Cond.code yX7_isWithin cX7_isWithin 3 (some .boolean), Cond.methodLink RX7 193 yX7_isSetOfCostumes, Cond.instanceMethod yX7_isSetOfCostumes, Cond.selects RX7 yX7_isSetOfCostumes yX7_isSetOfCostumes, Cond.code yX7_isSetOfCostumes cX7_isSetOfCostumes 2 (some .boolean), Cond.fieldLink RX7 50 "CostumeStock$Wardrobe" "size" "I", Cond.methodLink RX7 196 yX4_allowsLoad, Cond.instanceMethod yX4_allowsLoad, Cond.selects RX4 yX4_allowsLoad yX4_allowsLoad, Cond.initialized RX4, Cond.code yX4_allowsLoad cX4_allowsLoad 5 (some .boolean), Cond.fieldLink RX4 12 "CostumeStock$State" "wardrobe" "LCostumeStock$Wardrobe;"]
def wsX7_wash_r2 : List Cond := [Cond.fieldLink RX4 70 "CostumeStock$Wardrobe" "size" "I", Cond.fieldLink RX4 167 "CostumeStock$Wardrobe" "color" "[I", Cond.methodLink RX4 156 yJ6_bitCount_0f7a4, Cond.static yJ6_bitCount_0f7a4, Cond.initialized RJ6, Cond.code yJ6_bitCount_0f7a4 cJ6_bitCount_0f7a4 1 (some .int), Cond.constant RJ6 265 (1431655765), Cond.constant RJ6 266 (858993459), Cond.constant RJ6 267 (252645135), Cond.static yX7_isIn, Cond.code yX7_isIn cX7_isIn 2 (some .boolean), Cond.methodLink RX4 73 yX4_isAway, Cond.instanceMethod yX4_isAway, Cond.selects RX4 yX4_isAway yX4_isAway, Cond.code yX4_isAway cX4_isAway 2 (some .boolean), Cond.fieldLink RX4 28 "CostumeStock$State" "hires" "LCostumeStock$Hires;", Cond.fieldLink RX4 50 "CostumeStock$State" "today" "I", Cond.methodLink RX4 66 yX1_overlapping, Cond.instanceMethod yX1_overlapping, Cond.selects RX1 yX1_overlapping yX1_overlapping, Cond.initialized RX1, Cond.code yX1_overlapping cX1_overlapping 5 (some .int), Cond.fieldLink RX1 27 "CostumeStock$Hires" "size" "I", Cond.fieldLink RX1 9 "CostumeStock$Hires" "costume" "[I"]
def wsX7_wash_r3 : List Cond := [Cond.fieldLink RX1 15 "CostumeStock$Hires" "first" "[I", Cond.static yX7_at, Cond.code yX7_at cX7_at 2 (some .int), Cond.methodLink RX1 47 yX1_dayAfter, Cond.instanceMethod yX1_dayAfter, Cond.selects RX1 yX1_dayAfter yX1_dayAfter, Cond.code yX1_dayAfter cX1_dayAfter 2 (some .int), Cond.fieldLink RX1 18 "CostumeStock$Hires" "days" "[I", Cond.methodLink RX4 164 yX6_canBeWashed, Cond.instanceMethod yX6_canBeWashed, Cond.selects RX6 yX6_canBeWashed yX6_canBeWashed, Cond.initialized RX6, Cond.code yX6_canBeWashed cX6_canBeWashed 3 (some .boolean), Cond.fieldLink RX6 18 "CostumeStock$Wardrobe" "code" "[I", Cond.methodLink RX7 56 yX2_remember, Cond.instanceMethod yX2_remember, Cond.selects RX2 yX2_remember yX2_remember, Cond.initialized RX2, Cond.code yX2_remember cX2_remember 3 none, Cond.fieldLink RX2 18 "CostumeStock$History" "next" "I", Cond.fieldLink RX2 30 "CostumeStock$History" "size" "I", Cond.methodLink RX2 33 Lib.Math.min.name, Cond.static Lib.Math.min.name, Cond.initialized "java/lang/Math"]
def wsX7_wash_r4 : List Cond := [Cond.code Lib.Math.min.name Lib.Math.min.code 2 (some .int), Cond.methodLink RX2 22 yX2_stateAt, Cond.instanceMethod yX2_stateAt, Cond.selects RX2 yX2_stateAt yX2_stateAt, Cond.code yX2_stateAt cX2_stateAt 2 (some (.object "CostumeStock$State")), Cond.fieldLink RX2 11 "CostumeStock$History" "states" "[LCostumeStock$State;", Cond.methodLink RX2 26 yX4_become, Cond.instanceMethod yX4_become, Cond.selects RX4 yX4_become yX4_become, Cond.code yX4_become cX4_become 2 none, Cond.fieldLink RX4 21 "CostumeStock$State" "cast" "LCostumeStock$Cast;", Cond.fieldLink RX4 32 "CostumeStock$State" "settings" "[I", Cond.fieldLink RX4 54 "CostumeStock$State" "minutes" "I", Cond.fieldLink RX4 57 "CostumeStock$State" "fees" "I", Cond.fieldLink RX4 60 "CostumeStock$State" "washing" "I", Cond.fieldLink RX4 63 "CostumeStock$State" "performances" "I", Cond.methodLink RX4 36 yX6_copyFrom, Cond.instanceMethod yX6_copyFrom, Cond.selects RX6 yX6_copyFrom yX6_copyFrom, Cond.code yX6_copyFrom cX6_copyFrom 2 none, Cond.fieldLink RX6 36 "CostumeStock$Wardrobe" "size" "I", Cond.fieldLink RX6 9 "CostumeStock$Wardrobe" "original" "[I", Cond.fieldLink RX6 15 "CostumeStock$Wardrobe" "allowance" "[I", Cond.fieldLink RX6 21 "CostumeStock$Wardrobe" "color" "[I"]
def wsX7_wash_r5 : List Cond := [Cond.fieldLink RX6 24 "CostumeStock$Wardrobe" "dirt" "[I", Cond.fieldLink RX6 27 "CostumeStock$Wardrobe" "alterations" "[I", Cond.fieldLink RX6 30 "CostumeStock$Wardrobe" "alteredMeasure" "[I", Cond.fieldLink RX6 33 "CostumeStock$Wardrobe" "change" "[I", Cond.static yX7_copyRow, Cond.code yX7_copyRow cX7_copyRow 2 none, Cond.methodLink RX7 284 Lib.Math.min.name, Cond.methodLink RX7 287 arraycopyName, Cond.native arraycopyName, Cond.static arraycopyName, Cond.initialized "java/lang/System", Cond.methodLink RX4 40 yX0_copyFrom, Cond.instanceMethod yX0_copyFrom, Cond.selects RX0 yX0_copyFrom yX0_copyFrom, Cond.initialized RX0, Cond.code yX0_copyFrom cX0_copyFrom 2 none, Cond.fieldLink RX0 18 "CostumeStock$Cast" "size" "I", Cond.fieldLink RX0 9 "CostumeStock$Cast" "measures" "[I", Cond.fieldLink RX0 15 "CostumeStock$Cast" "worn" "[I", Cond.methodLink RX4 43 yX1_copyFrom, Cond.instanceMethod yX1_copyFrom, Cond.selects RX1 yX1_copyFrom yX1_copyFrom, Cond.code yX1_copyFrom cX1_copyFrom 2 none, Cond.fieldLink RX1 21 "CostumeStock$Hires" "rate" "[I"]
def wsX7_wash_r6 : List Cond := [Cond.fieldLink RX1 24 "CostumeStock$Hires" "fee" "[I", Cond.methodLink RX7 72 yX7_at, Cond.methodLink RX7 208 yX6_clean, Cond.instanceMethod yX6_clean, Cond.selects RX6 yX6_clean yX6_clean, Cond.code yX6_clean cX6_clean 6 (some .int), Cond.methodLink RX6 69 Lib.Math.min.name, Cond.static yX7_put, Cond.code yX7_put cX7_put 3 none]
def wsX7_wash : List Cond := .code yX7_wash cX7_wash 3 (some .int) :: ((wsX7_wash_r1 ++ (wsX7_wash_r2 ++ (wsX7_wash_r3 ++ (wsX7_wash_r4 ++ (wsX7_wash_r5 ++ wsX7_wash_r6))))) ++ wsX70 ++ wsX40 ++ wsX60 ++ wsX10 ++ wsX20 ++ wsX00)
def wsX7_undo_r1 : List Cond := [Cond.fieldLink RX7 19 "CostumeStock" "history" "LCostumeStock$History;", Cond.fieldLink RX7 211 "CostumeStock$History" "size" "I", Cond.fieldLink RX7 10 "CostumeStock" "state" "LCostumeStock$State;", Cond.methodLink RX7 212 yX2_restore, Cond.instanceMethod yX2_restore, Cond.selects RX2 yX2_restore yX2_restore, Cond.initialized RX2, Cond.code yX2_restore cX2_restore 4 none, Cond.fieldLink RX2 18 "CostumeStock$History" "next" "I", Cond.fieldLink RX2 30 "CostumeStock$History" "size" "I", Cond.methodLink RX2 22 yX2_stateAt, Cond.instanceMethod yX2_stateAt, Cond.selects RX2 yX2_stateAt yX2_stateAt, Cond.code yX2_stateAt cX2_stateAt 2 (some (.object "CostumeStock$State")), Cond.fieldLink RX2 11 "CostumeStock$History" "states" "[LCostumeStock$State;", Cond.methodLink RX2 26 yX4_become, Cond.instanceMethod yX4_become, Cond.selects RX4 yX4_become yX4_become, Cond.initialized RX4, Cond.code yX4_become cX4_become 2 none, Cond.fieldLink RX4 12 "CostumeStock$State" "wardrobe" "LCostumeStock$Wardrobe;", Cond.fieldLink RX4 21 "CostumeStock$State" "cast" "LCostumeStock$Cast;", Cond.fieldLink RX4 28 "CostumeStock$State" "hires" "LCostumeStock$Hires;", Cond.fieldLink RX4 32 "CostumeStock$State" "settings" "[I"]
def wsX7_undo_r2 : List Cond := [Cond.fieldLink RX4 50 "CostumeStock$State" "today" "I", Cond.fieldLink RX4 54 "CostumeStock$State" "minutes" "I", Cond.fieldLink RX4 57 "CostumeStock$State" "fees" "I", Cond.fieldLink RX4 60 "CostumeStock$State" "washing" "I", Cond.fieldLink RX4 63 "CostumeStock$State" "performances" "I", Cond.methodLink RX4 36 yX6_copyFrom, Cond.instanceMethod yX6_copyFrom, Cond.selects RX6 yX6_copyFrom yX6_copyFrom, Cond.initialized RX6, Cond.code yX6_copyFrom cX6_copyFrom 2 none, Cond.fieldLink RX6 36 "CostumeStock$Wardrobe" "size" "I", Cond.fieldLink RX6 9 "CostumeStock$Wardrobe" "original" "[I", Cond.fieldLink RX6 15 "CostumeStock$Wardrobe" "allowance" "[I", Cond.fieldLink RX6 18 "CostumeStock$Wardrobe" "code" "[I", Cond.fieldLink RX6 21 "CostumeStock$Wardrobe" "color" "[I", Cond.fieldLink RX6 24 "CostumeStock$Wardrobe" "dirt" "[I", Cond.fieldLink RX6 27 "CostumeStock$Wardrobe" "alterations" "[I", Cond.fieldLink RX6 30 "CostumeStock$Wardrobe" "alteredMeasure" "[I", Cond.fieldLink RX6 33 "CostumeStock$Wardrobe" "change" "[I", Cond.static yX7_copyRow, Cond.initialized RX7, Cond.code yX7_copyRow cX7_copyRow 2 none, Cond.methodLink RX7 284 Lib.Math.min.name, Cond.static Lib.Math.min.name]
def wsX7_undo_r3 : List Cond := [Cond.initialized "java/lang/Math", Cond.code Lib.Math.min.name Lib.Math.min.code 2 (some .int), Cond.methodLink RX7 287 arraycopyName, Cond.native arraycopyName, Cond.static arraycopyName, Cond.initialized "java/lang/System", Cond.methodLink RX4 40 yX0_copyFrom, Cond.instanceMethod yX0_copyFrom, Cond.selects RX0 yX0_copyFrom yX0_copyFrom, Cond.initialized RX0, Cond.code yX0_copyFrom cX0_copyFrom 2 none, Cond.fieldLink RX0 18 "CostumeStock$Cast" "size" "I", Cond.fieldLink RX0 9 "CostumeStock$Cast" "measures" "[I", Cond.fieldLink RX0 15 "CostumeStock$Cast" "worn" "[I", Cond.methodLink RX4 43 yX1_copyFrom, Cond.instanceMethod yX1_copyFrom, Cond.selects RX1 yX1_copyFrom yX1_copyFrom, Cond.initialized RX1, Cond.code yX1_copyFrom cX1_copyFrom 2 none, Cond.fieldLink RX1 27 "CostumeStock$Hires" "size" "I", Cond.fieldLink RX1 9 "CostumeStock$Hires" "costume" "[I", Cond.fieldLink RX1 15 "CostumeStock$Hires" "first" "[I", Cond.fieldLink RX1 18 "CostumeStock$Hires" "days" "[I", Cond.fieldLink RX1 21 "CostumeStock$Hires" "rate" "[I"]
def wsX7_undo_r4 : List Cond := [Cond.fieldLink RX1 24 "CostumeStock$Hires" "fee" "[I"]
def wsX7_undo : List Cond := .code yX7_undo cX7_undo 1 (some .int) :: ((wsX7_undo_r1 ++ (wsX7_undo_r2 ++ (wsX7_undo_r3 ++ wsX7_undo_r4))) ++ wsX70 ++ wsX20 ++ wsX40 ++ wsX60 ++ wsX00 ++ wsX10)
def wsX7_count_r1 : List Cond := [Cond.fieldLink RX7 10 "CostumeStock" "state" "LCostumeStock$State;", Cond.fieldLink RX7 46 "CostumeStock$State" "wardrobe" "LCostumeStock$Wardrobe;", Cond.fieldLink RX7 50 "CostumeStock$Wardrobe" "size" "I", Cond.fieldLink RX7 80 "CostumeStock$State" "cast" "LCostumeStock$Cast;", Cond.fieldLink RX7 84 "CostumeStock$Cast" "size" "I", Cond.fieldLink RX7 167 "CostumeStock$State" "hires" "LCostumeStock$Hires;", Cond.fieldLink RX7 176 "CostumeStock$Hires" "size" "I", Cond.fieldLink RX7 158 "CostumeStock$State" "today" "I", Cond.fieldLink RX7 116 "CostumeStock$State" "minutes" "I", Cond.fieldLink RX7 180 "CostumeStock$State" "fees" "I", Cond.fieldLink RX7 199 "CostumeStock$State" "washing" "I", Cond.fieldLink RX7 164 "CostumeStock$State" "performances" "I", Cond.fieldLink RX7 19 "CostumeStock" "history" "LCostumeStock$History;", Cond.fieldLink RX7 211 "CostumeStock$History" "size" "I", Cond.fieldLink RX7 26 "CostumeStock" "text" "LCostumeStock$Text;", Cond.fieldLink RX7 125 "CostumeStock$Text" "length" "I", Cond.fieldLink RX7 94 "CostumeStock$State" "settings" "[I", Cond.methodLink RX7 215 yX0_quickChanges, Cond.instanceMethod yX0_quickChanges, Cond.selects RX0 yX0_quickChanges yX0_quickChanges, Cond.initialized RX0, Cond.code yX0_quickChanges cX0_quickChanges 6 (some .int), Cond.fieldLink RX0 18 "CostumeStock$Cast" "size" "I", Cond.methodLink RX0 34 yX0_wornIn]
def wsX7_count_r2 : List Cond := [Cond.instanceMethod yX0_wornIn, Cond.selects RX0 yX0_wornIn yX0_wornIn, Cond.code yX0_wornIn cX0_wornIn 3 (some .int), Cond.fieldLink RX0 15 "CostumeStock$Cast" "worn" "[I", Cond.static yX7_at, Cond.initialized RX7, Cond.code yX7_at cX7_at 2 (some .int), Cond.methodLink RX7 218 yX4_awayToday, Cond.instanceMethod yX4_awayToday, Cond.selects RX4 yX4_awayToday yX4_awayToday, Cond.initialized RX4, Cond.code yX4_awayToday cX4_awayToday 3 (some .int), Cond.fieldLink RX4 12 "CostumeStock$State" "wardrobe" "LCostumeStock$Wardrobe;", Cond.fieldLink RX4 70 "CostumeStock$Wardrobe" "size" "I", Cond.methodLink RX4 73 yX4_isAway, Cond.instanceMethod yX4_isAway, Cond.selects RX4 yX4_isAway yX4_isAway, Cond.code yX4_isAway cX4_isAway 2 (some .boolean), Cond.fieldLink RX4 28 "CostumeStock$State" "hires" "LCostumeStock$Hires;", Cond.fieldLink RX4 50 "CostumeStock$State" "today" "I", Cond.methodLink RX4 66 yX1_overlapping, Cond.instanceMethod yX1_overlapping, Cond.selects RX1 yX1_overlapping yX1_overlapping, Cond.initialized RX1]
def wsX7_count_r3 : List Cond := [Cond.code yX1_overlapping cX1_overlapping 5 (some .int), Cond.fieldLink RX1 27 "CostumeStock$Hires" "size" "I", Cond.fieldLink RX1 9 "CostumeStock$Hires" "costume" "[I", Cond.fieldLink RX1 15 "CostumeStock$Hires" "first" "[I", Cond.methodLink RX1 47 yX1_dayAfter, Cond.instanceMethod yX1_dayAfter, Cond.selects RX1 yX1_dayAfter yX1_dayAfter, Cond.code yX1_dayAfter cX1_dayAfter 2 (some .int), Cond.fieldLink RX1 18 "CostumeStock$Hires" "days" "[I", Cond.methodLink RX7 43 yX7_isWithin, Cond.static yX7_isWithin, Cond.code yX7_isWithin cX7_isWithin 3 (some .boolean), Cond.methodLink RX7 72 yX7_at]
def wsX7_count : List Cond := .code yX7_count cX7_count 2 (some .int) :: ((wsX7_count_r1 ++ (wsX7_count_r2 ++ wsX7_count_r3)) ++ wsX70 ++ wsX40 ++ wsX60 ++ wsX00 ++ wsX10 ++ wsX20 ++ wsX50)
def wsX7_costume_r1 : List Cond := [Cond.fieldLink RX7 10 "CostumeStock" "state" "LCostumeStock$State;", Cond.fieldLink RX7 46 "CostumeStock$State" "wardrobe" "LCostumeStock$Wardrobe;", Cond.fieldLink RX7 227 "CostumeStock$Wardrobe" "allowance" "[I", Cond.fieldLink RX7 230 "CostumeStock$Wardrobe" "code" "[I", Cond.fieldLink RX7 68 "CostumeStock$Wardrobe" "color" "[I", Cond.fieldLink RX7 233 "CostumeStock$Wardrobe" "dirt" "[I", Cond.fieldLink RX7 119 "CostumeStock$Wardrobe" "alterations" "[I", Cond.fieldLink RX7 80 "CostumeStock$State" "cast" "LCostumeStock$Cast;", Cond.fieldLink RX7 167 "CostumeStock$State" "hires" "LCostumeStock$Hires;", Cond.methodLink RX7 64 yX6_has, Cond.instanceMethod yX6_has, Cond.selects RX6 yX6_has yX6_has, Cond.initialized RX6, Cond.code yX6_has cX6_has 2 (some .boolean), Cond.fieldLink RX6 36 "CostumeStock$Wardrobe" "size" "I", Cond.methodLink RX7 221 yX6_present, Cond.instanceMethod yX6_present, Cond.selects RX6 yX6_present yX6_present, Cond.code yX6_present cX6_present 7 (some .int), Cond.fieldLink RX6 27 "CostumeStock$Wardrobe" "alterations" "[I", Cond.fieldLink RX6 30 "CostumeStock$Wardrobe" "alteredMeasure" "[I", Cond.fieldLink RX6 33 "CostumeStock$Wardrobe" "change" "[I", Cond.methodLink RX6 52 yX6_originalOf, Cond.instanceMethod yX6_originalOf]
def wsX7_costume_r2 : List Cond := [Cond.selects RX6 yX6_originalOf yX6_originalOf, Cond.code yX6_originalOf cX6_originalOf 3 (some .int), Cond.fieldLink RX6 9 "CostumeStock$Wardrobe" "original" "[I", Cond.static yX7_at, Cond.initialized RX7, Cond.code yX7_at cX7_at 2 (some .int), Cond.methodLink RX6 56 yX6_placeOf, Cond.instanceMethod yX6_placeOf, Cond.selects RX6 yX6_placeOf yX6_placeOf, Cond.code yX6_placeOf cX6_placeOf 3 (some .int), Cond.methodLink RX7 224 yX6_originalOf, Cond.methodLink RX7 72 yX7_at, Cond.methodLink RX7 236 yX0_scenesOf, Cond.instanceMethod yX0_scenesOf, Cond.selects RX0 yX0_scenesOf yX0_scenesOf, Cond.initialized RX0, Cond.code yX0_scenesOf cX0_scenesOf 4 (some .int), Cond.methodLink RX0 38 yX0_wearers, Cond.instanceMethod yX0_wearers, Cond.selects RX0 yX0_wearers yX0_wearers, Cond.code yX0_wearers cX0_wearers 5 (some .int), Cond.fieldLink RX0 18 "CostumeStock$Cast" "size" "I", Cond.methodLink RX0 34 yX0_wornIn, Cond.instanceMethod yX0_wornIn]
def wsX7_costume_r3 : List Cond := [Cond.selects RX0 yX0_wornIn yX0_wornIn, Cond.code yX0_wornIn cX0_wornIn 3 (some .int), Cond.fieldLink RX0 15 "CostumeStock$Cast" "worn" "[I", Cond.methodLink RX7 239 yX1_hiresOf, Cond.instanceMethod yX1_hiresOf, Cond.selects RX1 yX1_hiresOf yX1_hiresOf, Cond.initialized RX1, Cond.code yX1_hiresOf cX1_hiresOf 4 (some .int), Cond.fieldLink RX1 27 "CostumeStock$Hires" "size" "I", Cond.fieldLink RX1 9 "CostumeStock$Hires" "costume" "[I"]
def wsX7_costume : List Cond := .code yX7_costume cX7_costume 3 (some .int) :: ((wsX7_costume_r1 ++ (wsX7_costume_r2 ++ wsX7_costume_r3)) ++ wsX70 ++ wsX40 ++ wsX60 ++ wsX00 ++ wsX10)
def wsX7_alteration : List Cond := .code yX7_alteration cX7_alteration 5 (some .int) :: ([.fieldLink RX7 10 "CostumeStock" "state" "LCostumeStock$State;", .fieldLink RX7 46 "CostumeStock$State" "wardrobe" "LCostumeStock$Wardrobe;", .fieldLink RX7 119 "CostumeStock$Wardrobe" "alterations" "[I", .fieldLink RX7 245 "CostumeStock$Wardrobe" "alteredMeasure" "[I", .fieldLink RX7 248 "CostumeStock$Wardrobe" "change" "[I", .methodLink RX7 64 yX6_has, .instanceMethod yX6_has, .selects RX6 yX6_has yX6_has, .initialized RX6, .code yX6_has cX6_has 2 (some .boolean), .fieldLink RX6 36 "CostumeStock$Wardrobe" "size" "I", .methodLink RX7 43 yX7_isWithin, .static yX7_isWithin, .initialized RX7, .code yX7_isWithin cX7_isWithin 3 (some .boolean), .methodLink RX7 72 yX7_at, .static yX7_at, .code yX7_at cX7_at 2 (some .int), .methodLink RX7 242 yX6_placeOf, .instanceMethod yX6_placeOf, .selects RX6 yX6_placeOf yX6_placeOf, .code yX6_placeOf cX6_placeOf 3 (some .int)] ++ wsX70 ++ wsX40 ++ wsX60)
def wsX7_actor : List Cond := .code yX7_actor cX7_actor 3 (some .int) :: ([.fieldLink RX7 10 "CostumeStock" "state" "LCostumeStock$State;", .fieldLink RX7 80 "CostumeStock$State" "cast" "LCostumeStock$Cast;", .methodLink RX7 151 yX0_has, .instanceMethod yX0_has, .selects RX0 yX0_has yX0_has, .initialized RX0, .code yX0_has cX0_has 2 (some .boolean), .fieldLink RX0 18 "CostumeStock$Cast" "size" "I", .methodLink RX7 43 yX7_isWithin, .static yX7_isWithin, .initialized RX7, .code yX7_isWithin cX7_isWithin 3 (some .boolean), .methodLink RX7 251 yX0_measureOf, .instanceMethod yX0_measureOf, .selects RX0 yX0_measureOf yX0_measureOf, .code yX0_measureOf cX0_measureOf 3 (some .int), .fieldLink RX0 9 "CostumeStock$Cast" "measures" "[I", .static yX7_at, .code yX7_at cX7_at 2 (some .int), .methodLink RX7 254 yX0_wornIn, .instanceMethod yX0_wornIn, .selects RX0 yX0_wornIn yX0_wornIn, .code yX0_wornIn cX0_wornIn 3 (some .int), .fieldLink RX0 15 "CostumeStock$Cast" "worn" "[I"] ++ wsX70 ++ wsX40 ++ wsX00)
def wsX7_hired : List Cond := .code yX7_hired cX7_hired 3 (some .int) :: ([.fieldLink RX7 10 "CostumeStock" "state" "LCostumeStock$State;", .fieldLink RX7 167 "CostumeStock$State" "hires" "LCostumeStock$Hires;", .fieldLink RX7 257 "CostumeStock$Hires" "costume" "[I", .fieldLink RX7 260 "CostumeStock$Hires" "first" "[I", .fieldLink RX7 263 "CostumeStock$Hires" "days" "[I", .fieldLink RX7 266 "CostumeStock$Hires" "fee" "[I", .methodLink RX7 183 yX1_has, .instanceMethod yX1_has, .selects RX1 yX1_has yX1_has, .initialized RX1, .code yX1_has cX1_has 2 (some .boolean), .fieldLink RX1 27 "CostumeStock$Hires" "size" "I", .methodLink RX7 72 yX7_at, .static yX7_at, .initialized RX7, .code yX7_at cX7_at 2 (some .int)] ++ wsX70 ++ wsX40 ++ wsX10)
def wsX7_problems_r1 : List Cond := [Cond.fieldLink RX7 10 "CostumeStock" "state" "LCostumeStock$State;", Cond.methodLink RX7 43 yX7_isWithin, Cond.static yX7_isWithin, Cond.initialized RX7, Cond.code yX7_isWithin cX7_isWithin 3 (some .boolean), Cond.methodLink RX7 155 yX4_problemsOf, Cond.instanceMethod yX4_problemsOf, Cond.selects RX4 yX4_problemsOf yX4_problemsOf, Cond.initialized RX4, Cond.code yX4_problemsOf cX4_problemsOf 2 (some .int), Cond.methodLink RX4 125 yX4_wornTwice, Cond.instanceMethod yX4_wornTwice, Cond.selects RX4 yX4_wornTwice yX4_wornTwice, Cond.code yX4_wornTwice cX4_wornTwice 4 (some .int), Cond.fieldLink RX4 12 "CostumeStock$State" "wardrobe" "LCostumeStock$Wardrobe;", Cond.fieldLink RX4 70 "CostumeStock$Wardrobe" "size" "I", Cond.fieldLink RX4 21 "CostumeStock$State" "cast" "LCostumeStock$Cast;", Cond.methodLink RX4 135 yX0_wearers, Cond.instanceMethod yX0_wearers, Cond.selects RX0 yX0_wearers yX0_wearers, Cond.initialized RX0, Cond.code yX0_wearers cX0_wearers 5 (some .int), Cond.fieldLink RX0 18 "CostumeStock$Cast" "size" "I", Cond.methodLink RX0 34 yX0_wornIn]
def wsX7_problems_r2 : List Cond := [Cond.instanceMethod yX0_wornIn, Cond.selects RX0 yX0_wornIn yX0_wornIn, Cond.code yX0_wornIn cX0_wornIn 3 (some .int), Cond.fieldLink RX0 15 "CostumeStock$Cast" "worn" "[I", Cond.static yX7_at, Cond.code yX7_at cX7_at 2 (some .int), Cond.methodLink RX4 129 yX4_handedOver, Cond.instanceMethod yX4_handedOver, Cond.selects RX4 yX4_handedOver yX4_handedOver, Cond.code yX4_handedOver cX4_handedOver 4 (some .int), Cond.methodLink RX4 138 yX0_isHandedOver, Cond.instanceMethod yX0_isHandedOver, Cond.selects RX0 yX0_isHandedOver yX0_isHandedOver, Cond.code yX0_isHandedOver cX0_isHandedOver 4 (some .boolean), Cond.methodLink RX0 38 yX0_wearers, Cond.methodLink RX4 132 yX4_wornAmiss, Cond.instanceMethod yX4_wornAmiss, Cond.selects RX4 yX4_wornAmiss yX4_wornAmiss, Cond.code yX4_wornAmiss cX4_wornAmiss 7 (some .int), Cond.fieldLink RX4 142 "CostumeStock$Cast" "size" "I", Cond.methodLink RX4 143 yX0_wornIn, Cond.methodLink RX4 146 yX4_misfitOf, Cond.instanceMethod yX4_misfitOf, Cond.selects RX4 yX4_misfitOf yX4_misfitOf]
def wsX7_problems_r3 : List Cond := [Cond.code yX4_misfitOf cX4_misfitOf 5 (some .int), Cond.methodLink RX4 94 Lib.Math.abs.name, Cond.static Lib.Math.abs.name, Cond.initialized "java/lang/Math", Cond.code Lib.Math.abs.name Lib.Math.abs.code 1 (some .int), Cond.methodLink RX4 91 yX4_lackOf, Cond.instanceMethod yX4_lackOf, Cond.selects RX4 yX4_lackOf yX4_lackOf, Cond.code yX4_lackOf cX4_lackOf 7 (some .int), Cond.fieldLink RX4 32 "CostumeStock$State" "settings" "[I", Cond.methodLink RX4 84 yX6_present, Cond.instanceMethod yX6_present, Cond.selects RX6 yX6_present yX6_present, Cond.initialized RX6, Cond.code yX6_present cX6_present 7 (some .int), Cond.fieldLink RX6 27 "CostumeStock$Wardrobe" "alterations" "[I", Cond.fieldLink RX6 30 "CostumeStock$Wardrobe" "alteredMeasure" "[I", Cond.fieldLink RX6 33 "CostumeStock$Wardrobe" "change" "[I", Cond.methodLink RX6 52 yX6_originalOf, Cond.instanceMethod yX6_originalOf, Cond.selects RX6 yX6_originalOf yX6_originalOf, Cond.code yX6_originalOf cX6_originalOf 3 (some .int), Cond.fieldLink RX6 9 "CostumeStock$Wardrobe" "original" "[I", Cond.methodLink RX6 56 yX6_placeOf]
def wsX7_problems_r4 : List Cond := [Cond.instanceMethod yX6_placeOf, Cond.selects RX6 yX6_placeOf yX6_placeOf, Cond.code yX6_placeOf cX6_placeOf 3 (some .int), Cond.methodLink RX4 88 yX0_measureOf, Cond.instanceMethod yX0_measureOf, Cond.selects RX0 yX0_measureOf yX0_measureOf, Cond.code yX0_measureOf cX0_measureOf 3 (some .int), Cond.fieldLink RX0 9 "CostumeStock$Cast" "measures" "[I", Cond.methodLink RX4 73 yX4_isAway, Cond.instanceMethod yX4_isAway, Cond.selects RX4 yX4_isAway yX4_isAway, Cond.code yX4_isAway cX4_isAway 2 (some .boolean), Cond.fieldLink RX4 28 "CostumeStock$State" "hires" "LCostumeStock$Hires;", Cond.fieldLink RX4 50 "CostumeStock$State" "today" "I", Cond.methodLink RX4 66 yX1_overlapping, Cond.instanceMethod yX1_overlapping, Cond.selects RX1 yX1_overlapping yX1_overlapping, Cond.initialized RX1, Cond.code yX1_overlapping cX1_overlapping 5 (some .int), Cond.fieldLink RX1 27 "CostumeStock$Hires" "size" "I", Cond.fieldLink RX1 9 "CostumeStock$Hires" "costume" "[I", Cond.fieldLink RX1 15 "CostumeStock$Hires" "first" "[I", Cond.methodLink RX1 47 yX1_dayAfter, Cond.instanceMethod yX1_dayAfter]
def wsX7_problems_r5 : List Cond := [Cond.selects RX1 yX1_dayAfter yX1_dayAfter, Cond.code yX1_dayAfter cX1_dayAfter 2 (some .int), Cond.fieldLink RX1 18 "CostumeStock$Hires" "days" "[I", Cond.methodLink RX4 113 yX4_isTooDirty, Cond.instanceMethod yX4_isTooDirty, Cond.selects RX4 yX4_isTooDirty yX4_isTooDirty, Cond.code yX4_isTooDirty cX4_isTooDirty 2 (some .boolean), Cond.fieldLink RX4 77 "CostumeStock$Wardrobe" "dirt" "[I"]
def wsX7_problems : List Cond := .code yX7_problems cX7_problems 2 (some .int) :: ((wsX7_problems_r1 ++ (wsX7_problems_r2 ++ (wsX7_problems_r3 ++ (wsX7_problems_r4 ++ wsX7_problems_r5)))) ++ wsX70 ++ wsX40 ++ wsX60 ++ wsX00 ++ wsX10)
def wsX7_misfit_r1 : List Cond := [Cond.fieldLink RX7 10 "CostumeStock" "state" "LCostumeStock$State;", Cond.fieldLink RX7 46 "CostumeStock$State" "wardrobe" "LCostumeStock$Wardrobe;", Cond.fieldLink RX7 80 "CostumeStock$State" "cast" "LCostumeStock$Cast;", Cond.methodLink RX7 64 yX6_has, Cond.instanceMethod yX6_has, Cond.selects RX6 yX6_has yX6_has, Cond.initialized RX6, Cond.code yX6_has cX6_has 2 (some .boolean), Cond.fieldLink RX6 36 "CostumeStock$Wardrobe" "size" "I", Cond.methodLink RX7 151 yX0_has, Cond.instanceMethod yX0_has, Cond.selects RX0 yX0_has yX0_has, Cond.initialized RX0, Cond.code yX0_has cX0_has 2 (some .boolean), Cond.fieldLink RX0 18 "CostumeStock$Cast" "size" "I", Cond.methodLink RX7 269 yX4_misfitOf, Cond.instanceMethod yX4_misfitOf, Cond.selects RX4 yX4_misfitOf yX4_misfitOf, Cond.initialized RX4, Cond.code yX4_misfitOf cX4_misfitOf 5 (some .int), Cond.methodLink RX4 94 Lib.Math.abs.name, Cond.static Lib.Math.abs.name, Cond.initialized "java/lang/Math", Cond.code Lib.Math.abs.name Lib.Math.abs.code 1 (some .int)]
def wsX7_misfit_r2 : List Cond := [Cond.methodLink RX4 91 yX4_lackOf, Cond.instanceMethod yX4_lackOf, Cond.selects RX4 yX4_lackOf yX4_lackOf, Cond.code yX4_lackOf cX4_lackOf 7 (some .int), Cond.fieldLink RX4 12 "CostumeStock$State" "wardrobe" "LCostumeStock$Wardrobe;", Cond.fieldLink RX4 21 "CostumeStock$State" "cast" "LCostumeStock$Cast;", Cond.fieldLink RX4 32 "CostumeStock$State" "settings" "[I", Cond.methodLink RX4 84 yX6_present, Cond.instanceMethod yX6_present, Cond.selects RX6 yX6_present yX6_present, Cond.code yX6_present cX6_present 7 (some .int), Cond.fieldLink RX6 27 "CostumeStock$Wardrobe" "alterations" "[I", Cond.fieldLink RX6 30 "CostumeStock$Wardrobe" "alteredMeasure" "[I", Cond.fieldLink RX6 33 "CostumeStock$Wardrobe" "change" "[I", Cond.methodLink RX6 52 yX6_originalOf, Cond.instanceMethod yX6_originalOf, Cond.selects RX6 yX6_originalOf yX6_originalOf, Cond.code yX6_originalOf cX6_originalOf 3 (some .int), Cond.fieldLink RX6 9 "CostumeStock$Wardrobe" "original" "[I", Cond.static yX7_at, Cond.initialized RX7, Cond.code yX7_at cX7_at 2 (some .int), Cond.methodLink RX6 56 yX6_placeOf, Cond.instanceMethod yX6_placeOf]
def wsX7_misfit_r3 : List Cond := [Cond.selects RX6 yX6_placeOf yX6_placeOf, Cond.code yX6_placeOf cX6_placeOf 3 (some .int), Cond.methodLink RX4 88 yX0_measureOf, Cond.instanceMethod yX0_measureOf, Cond.selects RX0 yX0_measureOf yX0_measureOf, Cond.code yX0_measureOf cX0_measureOf 3 (some .int), Cond.fieldLink RX0 9 "CostumeStock$Cast" "measures" "[I"]
def wsX7_misfit : List Cond := .code yX7_misfit cX7_misfit 3 (some .int) :: ((wsX7_misfit_r1 ++ (wsX7_misfit_r2 ++ wsX7_misfit_r3)) ++ wsX70 ++ wsX40 ++ wsX60 ++ wsX00)
def wsX7_leastAlteration_r1 : List Cond := [Cond.fieldLink RX7 10 "CostumeStock" "state" "LCostumeStock$State;", Cond.fieldLink RX7 46 "CostumeStock$State" "wardrobe" "LCostumeStock$Wardrobe;", Cond.fieldLink RX7 80 "CostumeStock$State" "cast" "LCostumeStock$Cast;", Cond.methodLink RX7 64 yX6_has, Cond.instanceMethod yX6_has, Cond.selects RX6 yX6_has yX6_has, Cond.initialized RX6, Cond.code yX6_has cX6_has 2 (some .boolean), Cond.fieldLink RX6 36 "CostumeStock$Wardrobe" "size" "I", Cond.methodLink RX7 151 yX0_has, Cond.instanceMethod yX0_has, Cond.selects RX0 yX0_has yX0_has, Cond.initialized RX0, Cond.code yX0_has cX0_has 2 (some .boolean), Cond.fieldLink RX0 18 "CostumeStock$Cast" "size" "I", Cond.methodLink RX7 272 yX4_leastChange, Cond.instanceMethod yX4_leastChange, Cond.selects RX4 yX4_leastChange yX4_leastChange, Cond.initialized RX4, Cond.code yX4_leastChange cX4_leastChange 7 (some .int), Cond.fieldLink RX4 12 "CostumeStock$State" "wardrobe" "LCostumeStock$Wardrobe;", Cond.methodLink RX4 94 Lib.Math.abs.name, Cond.static Lib.Math.abs.name, Cond.initialized "java/lang/Math"]
def wsX7_leastAlteration_r2 : List Cond := [Cond.code Lib.Math.abs.name Lib.Math.abs.code 1 (some .int), Cond.methodLink RX4 100 yX6_roomForAlterations, Cond.instanceMethod yX6_roomForAlterations, Cond.selects RX6 yX6_roomForAlterations yX6_roomForAlterations, Cond.code yX6_roomForAlterations cX6_roomForAlterations 2 (some .int), Cond.fieldLink RX6 27 "CostumeStock$Wardrobe" "alterations" "[I", Cond.static yX7_at, Cond.initialized RX7, Cond.code yX7_at cX7_at 2 (some .int), Cond.methodLink RX4 91 yX4_lackOf, Cond.instanceMethod yX4_lackOf, Cond.selects RX4 yX4_lackOf yX4_lackOf, Cond.code yX4_lackOf cX4_lackOf 7 (some .int), Cond.fieldLink RX4 21 "CostumeStock$State" "cast" "LCostumeStock$Cast;", Cond.fieldLink RX4 32 "CostumeStock$State" "settings" "[I", Cond.methodLink RX4 84 yX6_present, Cond.instanceMethod yX6_present, Cond.selects RX6 yX6_present yX6_present, Cond.code yX6_present cX6_present 7 (some .int), Cond.fieldLink RX6 30 "CostumeStock$Wardrobe" "alteredMeasure" "[I", Cond.fieldLink RX6 33 "CostumeStock$Wardrobe" "change" "[I", Cond.methodLink RX6 52 yX6_originalOf, Cond.instanceMethod yX6_originalOf, Cond.selects RX6 yX6_originalOf yX6_originalOf]
def wsX7_leastAlteration_r3 : List Cond := [Cond.code yX6_originalOf cX6_originalOf 3 (some .int), Cond.fieldLink RX6 9 "CostumeStock$Wardrobe" "original" "[I", Cond.methodLink RX6 56 yX6_placeOf, Cond.instanceMethod yX6_placeOf, Cond.selects RX6 yX6_placeOf yX6_placeOf, Cond.code yX6_placeOf cX6_placeOf 3 (some .int), Cond.methodLink RX4 88 yX0_measureOf, Cond.instanceMethod yX0_measureOf, Cond.selects RX0 yX0_measureOf yX0_measureOf, Cond.code yX0_measureOf cX0_measureOf 3 (some .int), Cond.fieldLink RX0 9 "CostumeStock$Cast" "measures" "[I", Cond.methodLink RX4 103 yX6_allows, Cond.instanceMethod yX6_allows, Cond.selects RX6 yX6_allows yX6_allows, Cond.code yX6_allows cX6_allows 6 (some .boolean), Cond.fieldLink RX6 15 "CostumeStock$Wardrobe" "allowance" "[I", Cond.methodLink RX6 59 yX6_present]
def wsX7_leastAlteration : List Cond := .code yX7_leastAlteration cX7_leastAlteration 3 (some .int) :: ((wsX7_leastAlteration_r1 ++ (wsX7_leastAlteration_r2 ++ wsX7_leastAlteration_r3)) ++ wsX70 ++ wsX40 ++ wsX60 ++ wsX00)
def wsX7_costumeFor_r1 : List Cond := [Cond.fieldLink RX7 10 "CostumeStock" "state" "LCostumeStock$State;", Cond.fieldLink RX7 80 "CostumeStock$State" "cast" "LCostumeStock$Cast;", Cond.methodLink RX7 43 yX7_isWithin, Cond.static yX7_isWithin, Cond.initialized RX7, Cond.code yX7_isWithin cX7_isWithin 3 (some .boolean), Cond.methodLink RX7 151 yX0_has, Cond.instanceMethod yX0_has, Cond.selects RX0 yX0_has yX0_has, Cond.initialized RX0, Cond.code yX0_has cX0_has 2 (some .boolean), Cond.fieldLink RX0 18 "CostumeStock$Cast" "size" "I", Cond.methodLink RX7 275 yX4_bestCostume, Cond.instanceMethod yX4_bestCostume, Cond.selects RX4 yX4_bestCostume yX4_bestCostume, Cond.initialized RX4, Cond.code yX4_bestCostume cX4_bestCostume 7 (some .int), Cond.fieldLink RX4 12 "CostumeStock$State" "wardrobe" "LCostumeStock$Wardrobe;", Cond.fieldLink RX4 70 "CostumeStock$Wardrobe" "size" "I", Cond.methodLink RX4 107 yX4_isFreeFor, Cond.instanceMethod yX4_isFreeFor, Cond.selects RX4 yX4_isFreeFor yX4_isFreeFor, Cond.code yX4_isFreeFor cX4_isFreeFor 6 (some .boolean), Cond.methodLink RX4 116 Lib.Math.min.name]
def wsX7_costumeFor_r2 : List Cond := [Cond.static Lib.Math.min.name, Cond.initialized "java/lang/Math", Cond.code Lib.Math.min.name Lib.Math.min.code 2 (some .int), Cond.methodLink RX4 119 Lib.Math.max.name, Cond.static Lib.Math.max.name, Cond.code Lib.Math.max.name Lib.Math.max.code 2 (some .int), Cond.fieldLink RX4 21 "CostumeStock$State" "cast" "LCostumeStock$Cast;", Cond.methodLink RX4 73 yX4_isAway, Cond.instanceMethod yX4_isAway, Cond.selects RX4 yX4_isAway yX4_isAway, Cond.code yX4_isAway cX4_isAway 2 (some .boolean), Cond.fieldLink RX4 28 "CostumeStock$State" "hires" "LCostumeStock$Hires;", Cond.fieldLink RX4 50 "CostumeStock$State" "today" "I", Cond.methodLink RX4 66 yX1_overlapping, Cond.instanceMethod yX1_overlapping, Cond.selects RX1 yX1_overlapping yX1_overlapping, Cond.initialized RX1, Cond.code yX1_overlapping cX1_overlapping 5 (some .int), Cond.fieldLink RX1 27 "CostumeStock$Hires" "size" "I", Cond.fieldLink RX1 9 "CostumeStock$Hires" "costume" "[I", Cond.fieldLink RX1 15 "CostumeStock$Hires" "first" "[I", Cond.static yX7_at, Cond.code yX7_at cX7_at 2 (some .int), Cond.methodLink RX1 47 yX1_dayAfter]
def wsX7_costumeFor_r3 : List Cond := [Cond.instanceMethod yX1_dayAfter, Cond.selects RX1 yX1_dayAfter yX1_dayAfter, Cond.code yX1_dayAfter cX1_dayAfter 2 (some .int), Cond.fieldLink RX1 18 "CostumeStock$Hires" "days" "[I", Cond.methodLink RX4 113 yX4_isTooDirty, Cond.instanceMethod yX4_isTooDirty, Cond.selects RX4 yX4_isTooDirty yX4_isTooDirty, Cond.code yX4_isTooDirty cX4_isTooDirty 2 (some .boolean), Cond.fieldLink RX4 77 "CostumeStock$Wardrobe" "dirt" "[I", Cond.fieldLink RX4 32 "CostumeStock$State" "settings" "[I", Cond.methodLink RX4 122 yX0_isWornByAnother, Cond.instanceMethod yX0_isWornByAnother, Cond.selects RX0 yX0_isWornByAnother yX0_isWornByAnother, Cond.code yX0_isWornByAnother cX0_isWornByAnother 5 (some .boolean), Cond.methodLink RX0 34 yX0_wornIn, Cond.instanceMethod yX0_wornIn, Cond.selects RX0 yX0_wornIn yX0_wornIn, Cond.code yX0_wornIn cX0_wornIn 3 (some .int), Cond.fieldLink RX0 15 "CostumeStock$Cast" "worn" "[I", Cond.methodLink RX0 38 yX0_wearers, Cond.instanceMethod yX0_wearers, Cond.selects RX0 yX0_wearers yX0_wearers, Cond.code yX0_wearers cX0_wearers 5 (some .int), Cond.methodLink RX4 110 yX4_leastChange]
def wsX7_costumeFor_r4 : List Cond := [Cond.instanceMethod yX4_leastChange, Cond.selects RX4 yX4_leastChange yX4_leastChange, Cond.code yX4_leastChange cX4_leastChange 7 (some .int), Cond.methodLink RX4 94 Lib.Math.abs.name, Cond.static Lib.Math.abs.name, Cond.code Lib.Math.abs.name Lib.Math.abs.code 1 (some .int), Cond.methodLink RX4 100 yX6_roomForAlterations, Cond.instanceMethod yX6_roomForAlterations, Cond.selects RX6 yX6_roomForAlterations yX6_roomForAlterations, Cond.initialized RX6, Cond.code yX6_roomForAlterations cX6_roomForAlterations 2 (some .int), Cond.fieldLink RX6 27 "CostumeStock$Wardrobe" "alterations" "[I", Cond.methodLink RX4 91 yX4_lackOf, Cond.instanceMethod yX4_lackOf, Cond.selects RX4 yX4_lackOf yX4_lackOf, Cond.code yX4_lackOf cX4_lackOf 7 (some .int), Cond.methodLink RX4 84 yX6_present, Cond.instanceMethod yX6_present, Cond.selects RX6 yX6_present yX6_present, Cond.code yX6_present cX6_present 7 (some .int), Cond.fieldLink RX6 30 "CostumeStock$Wardrobe" "alteredMeasure" "[I", Cond.fieldLink RX6 33 "CostumeStock$Wardrobe" "change" "[I", Cond.methodLink RX6 52 yX6_originalOf, Cond.instanceMethod yX6_originalOf]
def wsX7_costumeFor_r5 : List Cond := [Cond.selects RX6 yX6_originalOf yX6_originalOf, Cond.code yX6_originalOf cX6_originalOf 3 (some .int), Cond.fieldLink RX6 9 "CostumeStock$Wardrobe" "original" "[I", Cond.methodLink RX6 56 yX6_placeOf, Cond.instanceMethod yX6_placeOf, Cond.selects RX6 yX6_placeOf yX6_placeOf, Cond.code yX6_placeOf cX6_placeOf 3 (some .int), Cond.methodLink RX4 88 yX0_measureOf, Cond.instanceMethod yX0_measureOf, Cond.selects RX0 yX0_measureOf yX0_measureOf, Cond.code yX0_measureOf cX0_measureOf 3 (some .int), Cond.fieldLink RX0 9 "CostumeStock$Cast" "measures" "[I", Cond.methodLink RX4 103 yX6_allows, Cond.instanceMethod yX6_allows, Cond.selects RX6 yX6_allows yX6_allows, Cond.code yX6_allows cX6_allows 6 (some .boolean), Cond.fieldLink RX6 15 "CostumeStock$Wardrobe" "allowance" "[I", Cond.methodLink RX6 59 yX6_present]
def wsX7_costumeFor : List Cond := .code yX7_costumeFor cX7_costumeFor 3 (some .int) :: ((wsX7_costumeFor_r1 ++ (wsX7_costumeFor_r2 ++ (wsX7_costumeFor_r3 ++ (wsX7_costumeFor_r4 ++ wsX7_costumeFor_r5)))) ++ wsX70 ++ wsX40 ++ wsX00 ++ wsX60 ++ wsX10)
def wsX7_freeFrom_r1 : List Cond := [Cond.fieldLink RX7 10 "CostumeStock" "state" "LCostumeStock$State;", Cond.fieldLink RX7 46 "CostumeStock$State" "wardrobe" "LCostumeStock$Wardrobe;", Cond.fieldLink RX7 167 "CostumeStock$State" "hires" "LCostumeStock$Hires;", Cond.fieldLink RX7 158 "CostumeStock$State" "today" "I", Cond.methodLink RX7 64 yX6_has, Cond.instanceMethod yX6_has, Cond.selects RX6 yX6_has yX6_has, Cond.initialized RX6, Cond.code yX6_has cX6_has 2 (some .boolean), Cond.fieldLink RX6 36 "CostumeStock$Wardrobe" "size" "I", Cond.methodLink RX7 43 yX7_isWithin, Cond.static yX7_isWithin, Cond.initialized RX7, Cond.code yX7_isWithin cX7_isWithin 3 (some .boolean), Cond.methodLink RX7 278 yX1_firstFree, Cond.instanceMethod yX1_firstFree, Cond.selects RX1 yX1_firstFree yX1_firstFree, Cond.initialized RX1, Cond.code yX1_firstFree cX1_firstFree 7 (some .int), Cond.methodLink RX1 51 yX1_overlapping, Cond.instanceMethod yX1_overlapping, Cond.selects RX1 yX1_overlapping yX1_overlapping, Cond.code yX1_overlapping cX1_overlapping 5 (some .int), Cond.fieldLink RX1 27 "CostumeStock$Hires" "size" "I"]
def wsX7_freeFrom_r2 : List Cond := [Cond.fieldLink RX1 9 "CostumeStock$Hires" "costume" "[I", Cond.fieldLink RX1 15 "CostumeStock$Hires" "first" "[I", Cond.static yX7_at, Cond.code yX7_at cX7_at 2 (some .int), Cond.methodLink RX1 47 yX1_dayAfter, Cond.instanceMethod yX1_dayAfter, Cond.selects RX1 yX1_dayAfter yX1_dayAfter, Cond.code yX1_dayAfter cX1_dayAfter 2 (some .int), Cond.fieldLink RX1 18 "CostumeStock$Hires" "days" "[I"]
def wsX7_freeFrom : List Cond := .code yX7_freeFrom cX7_freeFrom 3 (some .int) :: ((wsX7_freeFrom_r1 ++ wsX7_freeFrom_r2) ++ wsX70 ++ wsX40 ++ wsX60 ++ wsX10)
def wsX7_washable_r1 : List Cond := [Cond.fieldLink RX7 10 "CostumeStock" "state" "LCostumeStock$State;", Cond.methodLink RX7 190 yX7_isProgram, Cond.static yX7_isProgram, Cond.initialized RX7, Cond.code yX7_isProgram cX7_isProgram 1 (some .boolean), Cond.methodLink RX7 43 yX7_isWithin, Cond.static yX7_isWithin, Cond.code yX7_isWithin cX7_isWithin 3 (some .boolean), Cond.methodLink RX7 281 yX4_dirtySet, Cond.instanceMethod yX4_dirtySet, Cond.selects RX4 yX4_dirtySet yX4_dirtySet, Cond.initialized RX4, Cond.code yX4_dirtySet cX4_dirtySet 6 (some .int), Cond.fieldLink RX4 12 "CostumeStock$State" "wardrobe" "LCostumeStock$Wardrobe;", Cond.fieldLink RX4 70 "CostumeStock$Wardrobe" "size" "I", Cond.fieldLink RX4 167 "CostumeStock$Wardrobe" "color" "[I", Cond.fieldLink RX4 77 "CostumeStock$Wardrobe" "dirt" "[I", Cond.static yX7_at, Cond.code yX7_at cX7_at 2 (some .int), Cond.methodLink RX4 73 yX4_isAway, Cond.instanceMethod yX4_isAway, Cond.selects RX4 yX4_isAway yX4_isAway, Cond.code yX4_isAway cX4_isAway 2 (some .boolean), Cond.fieldLink RX4 28 "CostumeStock$State" "hires" "LCostumeStock$Hires;"]
def wsX7_washable_r2 : List Cond := [Cond.fieldLink RX4 50 "CostumeStock$State" "today" "I", Cond.methodLink RX4 66 yX1_overlapping, Cond.instanceMethod yX1_overlapping, Cond.selects RX1 yX1_overlapping yX1_overlapping, Cond.initialized RX1, Cond.code yX1_overlapping cX1_overlapping 5 (some .int), Cond.fieldLink RX1 27 "CostumeStock$Hires" "size" "I", Cond.fieldLink RX1 9 "CostumeStock$Hires" "costume" "[I", Cond.fieldLink RX1 15 "CostumeStock$Hires" "first" "[I", Cond.methodLink RX1 47 yX1_dayAfter, Cond.instanceMethod yX1_dayAfter, Cond.selects RX1 yX1_dayAfter yX1_dayAfter, Cond.code yX1_dayAfter cX1_dayAfter 2 (some .int), Cond.fieldLink RX1 18 "CostumeStock$Hires" "days" "[I", Cond.methodLink RX4 164 yX6_canBeWashed, Cond.instanceMethod yX6_canBeWashed, Cond.selects RX6 yX6_canBeWashed yX6_canBeWashed, Cond.initialized RX6, Cond.code yX6_canBeWashed cX6_canBeWashed 3 (some .boolean), Cond.fieldLink RX6 18 "CostumeStock$Wardrobe" "code" "[I", Cond.static yX7_isIn, Cond.code yX7_isIn cX7_isIn 2 (some .boolean)]
def wsX7_washable : List Cond := .code yX7_washable cX7_washable 3 (some .int) :: ((wsX7_washable_r1 ++ wsX7_washable_r2) ++ wsX70 ++ wsX40 ++ wsX60 ++ wsX10)
def wsJ9_abs_0f7a4 : List Cond := .code yJ9_abs_0f7a4 cJ9_abs_0f7a4 1 (some .int) :: ([])
def wsJ9_max_7cf53 : List Cond := .code yJ9_max_7cf53 cJ9_max_7cf53 2 (some .int) :: ([])
def wsJ9_min_7cf53 : List Cond := .code yJ9_min_7cf53 cJ9_min_7cf53 2 (some .int) :: ([])
set_option maxRecDepth 20000 in
theorem ggX0_copyFrom_X7_copyRow : GoodIn wsX0_copyFrom wsX7_copyRow := goodIn_r _ [6, 7, 8, 9, 10, 11, 12, 13, 14] (by decide +kernel) (by decide +kernel)
set_option maxRecDepth 20000 in
theorem gX0_copyFrom_X7_copyRow_n22 : GoodIn wsX0_copyFrom (wsX7_copyRow) := ggX0_copyFrom_X7_copyRow
set_option maxRecDepth 20000 in
theorem ggX0_add_X7_put : GoodIn wsX0_add wsX7_put := goodIn_r _ [6] (by decide +kernel) (by decide +kernel)
set_option maxRecDepth 20000 in
theorem gX0_add_X7_put_n26 : GoodIn wsX0_add (wsX7_put) := ggX0_add_X7_put
set_option maxRecDepth 20000 in
theorem ggX0_measureOf_X7_at : GoodIn wsX0_measureOf wsX7_at := goodIn_r _ [4] (by decide +kernel) (by decide +kernel)
set_option maxRecDepth 20000 in
theorem gX0_measureOf_X7_at_n30 : GoodIn wsX0_measureOf (wsX7_at) := ggX0_measureOf_X7_at
set_option maxRecDepth 20000 in
theorem ggX0_wornIn_X7_at : GoodIn wsX0_wornIn wsX7_at := goodIn_r _ [4] (by decide +kernel) (by decide +kernel)
set_option maxRecDepth 20000 in
theorem gX0_wornIn_X7_at_n30 : GoodIn wsX0_wornIn (wsX7_at) := ggX0_wornIn_X7_at
set_option maxRecDepth 20000 in
theorem ggX0_dress_X0_wornIn : GoodIn wsX0_dress wsX0_wornIn := goodIn_r _ [6, 1, 7, 8, 9, 12, 13, 14] (by decide +kernel) (by decide +kernel)
set_option maxRecDepth 20000 in
theorem gX0_dress_X0_wornIn : GoodIn wsX0_dress (wsV RX0 34 RX0 yX0_wornIn wsX0_wornIn) := goodIn_app (goodIn_of _ (by decide +kernel)) ggX0_dress_X0_wornIn
set_option maxRecDepth 20000 in
theorem ggX0_dress_X7_put : GoodIn wsX0_dress wsX7_put := goodIn_r _ [11] (by decide +kernel) (by decide +kernel)
set_option maxRecDepth 20000 in
theorem gX0_dress_X7_put_n26 : GoodIn wsX0_dress (wsX7_put) := ggX0_dress_X7_put
set_option maxRecDepth 20000 in
theorem ggX0_wearers_X0_wornIn : GoodIn wsX0_wearers wsX0_wornIn := goodIn_r _ [6, 7, 8, 9, 10, 11, 12, 13] (by decide +kernel) (by decide +kernel)
set_option maxRecDepth 20000 in
theorem gX0_wearers_X0_wornIn : GoodIn wsX0_wearers (wsV RX0 34 RX0 yX0_wornIn wsX0_wornIn) := goodIn_app (goodIn_of _ (by decide +kernel)) ggX0_wearers_X0_wornIn
set_option maxRecDepth 20000 in
theorem ggX0_isWornByAnother_X0_wornIn : GoodIn wsX0_isWornByAnother wsX0_wornIn := goodIn_r _ [5, 6, 7, 8, 9, 15, 16, 17] (by decide +kernel) (by decide +kernel)
set_option maxRecDepth 20000 in
theorem gX0_isWornByAnother_X0_wornIn : GoodIn wsX0_isWornByAnother (wsV RX0 34 RX0 yX0_wornIn wsX0_wornIn) := goodIn_app (goodIn_of _ (by decide +kernel)) ggX0_isWornByAnother_X0_wornIn
set_option maxRecDepth 20000 in
theorem ggX0_isWornByAnother_X0_wearers : GoodIn wsX0_isWornByAnother wsX0_wearers := goodIn_r _ [13, 14, 1, 2, 3, 4, 5, 6, 7, 8, 9, 15, 16, 17] (by decide +kernel) (by decide +kernel)
set_option maxRecDepth 20000 in
theorem gX0_isWornByAnother_X0_wearers : GoodIn wsX0_isWornByAnother (wsV RX0 38 RX0 yX0_wearers wsX0_wearers) := goodIn_app (goodIn_of _ (by decide +kernel)) ggX0_isWornByAnother_X0_wearers
set_option maxRecDepth 20000 in
theorem ggX0_scenesOf_X0_wearers : GoodIn wsX0_scenesOf wsX0_wearers := goodIn_r _ [5, 6, 7, 8, 9, 4, 10, 11, 12, 13, 14, 15, 16, 17] (by decide +kernel) (by decide +kernel)
set_option maxRecDepth 20000 in
theorem gX0_scenesOf_X0_wearers : GoodIn wsX0_scenesOf (wsV RX0 38 RX0 yX0_wearers wsX0_wearers) := goodIn_app (goodIn_of _ (by decide +kernel)) ggX0_scenesOf_X0_wearers
set_option maxRecDepth 20000 in
theorem ggX0_isHandedOver_X0_wearers : GoodIn wsX0_isHandedOver wsX0_wearers := goodIn_r _ [6, 1, 7, 8, 9, 5, 10, 11, 12, 13, 14, 15, 16, 17] (by decide +kernel) (by decide +kernel)
set_option maxRecDepth 20000 in
theorem gX0_isHandedOver_X0_wearers : GoodIn wsX0_isHandedOver (wsV RX0 38 RX0 yX0_wearers wsX0_wearers) := goodIn_app (goodIn_of _ (by decide +kernel)) ggX0_isHandedOver_X0_wearers
set_option maxRecDepth 20000 in
theorem ggX0_isHandedOver_X0_wornIn : GoodIn wsX0_isHandedOver wsX0_wornIn := goodIn_r _ [10, 11, 12, 13, 14, 15, 16, 17] (by decide +kernel) (by decide +kernel)
set_option maxRecDepth 20000 in
theorem gX0_isHandedOver_X0_wornIn : GoodIn wsX0_isHandedOver (wsV RX0 34 RX0 yX0_wornIn wsX0_wornIn) := goodIn_app (goodIn_of _ (by decide +kernel)) ggX0_isHandedOver_X0_wornIn
set_option maxRecDepth 20000 in
theorem ggX0_quickChanges_X0_wornIn : GoodIn wsX0_quickChanges wsX0_wornIn := goodIn_r _ [6, 7, 8, 9, 10, 11, 12, 13] (by decide +kernel) (by decide +kernel)
set_option maxRecDepth 20000 in
theorem gX0_quickChanges_X0_wornIn : GoodIn wsX0_quickChanges (wsV RX0 34 RX0 yX0_wornIn wsX0_wornIn) := goodIn_app (goodIn_of _ (by decide +kernel)) ggX0_quickChanges_X0_wornIn
set_option maxRecDepth 20000 in
theorem ggX1_copyFrom_X7_copyRow : GoodIn wsX1_copyFrom wsX7_copyRow := goodIn_r _ [9, 10, 11, 12, 13, 14, 15, 16, 17] (by decide +kernel) (by decide +kernel)
set_option maxRecDepth 20000 in
theorem gX1_copyFrom_X7_copyRow_n31 : GoodIn wsX1_copyFrom (wsX7_copyRow) := ggX1_copyFrom_X7_copyRow
set_option maxRecDepth 20000 in
theorem ggX1_add_X1_feeFor : GoodIn wsX1_add wsX1_feeFor := goodIn_r _ [10] (by decide +kernel) (by decide +kernel)
set_option maxRecDepth 20000 in
theorem gX1_add_X1_feeFor : GoodIn wsX1_add (va_wsS RX1 35 yX1_feeFor wsX1_feeFor) := goodIn_app (goodIn_of _ (by decide +kernel)) ggX1_add_X1_feeFor
set_option maxRecDepth 20000 in
theorem ggX1_add_X7_put : GoodIn wsX1_add wsX7_put := goodIn_r _ [13] (by decide +kernel) (by decide +kernel)
set_option maxRecDepth 20000 in
theorem gX1_add_X7_put_n39 : GoodIn wsX1_add (wsX7_put) := ggX1_add_X7_put
set_option maxRecDepth 20000 in
theorem ggX1_dayAfter_X7_at : GoodIn wsX1_dayAfter wsX7_at := goodIn_r _ [5] (by decide +kernel) (by decide +kernel)
set_option maxRecDepth 20000 in
theorem gX1_dayAfter_X7_at_n43 : GoodIn wsX1_dayAfter (wsX7_at) := ggX1_dayAfter_X7_at
set_option maxRecDepth 20000 in
theorem ggX1_overlapping_X7_at : GoodIn wsX1_overlapping wsX7_at := goodIn_r _ [6] (by decide +kernel) (by decide +kernel)
set_option maxRecDepth 20000 in
theorem gX1_overlapping_X7_at_n43 : GoodIn wsX1_overlapping (wsX7_at) := ggX1_overlapping_X7_at
set_option maxRecDepth 20000 in
theorem ggX1_overlapping_X1_dayAfter : GoodIn wsX1_overlapping wsX1_dayAfter := goodIn_r _ [11, 3, 12, 4, 5, 6, 13, 14, 15, 16, 17, 18] (by decide +kernel) (by decide +kernel)
set_option maxRecDepth 20000 in
theorem gX1_overlapping_X1_dayAfter : GoodIn wsX1_overlapping (wsV RX1 47 RX1 yX1_dayAfter wsX1_dayAfter) := goodIn_app (goodIn_of _ (by decide +kernel)) ggX1_overlapping_X1_dayAfter
set_option maxRecDepth 20000 in
theorem ggX1_hiresOf_X7_at : GoodIn wsX1_hiresOf wsX7_at := goodIn_r _ [5] (by decide +kernel) (by decide +kernel)
set_option maxRecDepth 20000 in
theorem gX1_hiresOf_X7_at_n43 : GoodIn wsX1_hiresOf (wsX7_at) := ggX1_hiresOf_X7_at
set_option maxRecDepth 20000 in
theorem ggX1_canEnd_X7_at : GoodIn wsX1_canEnd wsX7_at := goodIn_r _ [4] (by decide +kernel) (by decide +kernel)
set_option maxRecDepth 20000 in
theorem gX1_canEnd_X7_at_n43 : GoodIn wsX1_canEnd (wsX7_at) := ggX1_canEnd_X7_at
set_option maxRecDepth 20000 in
theorem ggX1_canEnd_X1_dayAfter : GoodIn wsX1_canEnd wsX1_dayAfter := goodIn_r _ [9, 1, 10, 2, 3, 4, 11, 12, 13, 14, 15, 16] (by decide +kernel) (by decide +kernel)
set_option maxRecDepth 20000 in
theorem gX1_canEnd_X1_dayAfter : GoodIn wsX1_canEnd (wsV RX1 47 RX1 yX1_dayAfter wsX1_dayAfter) := goodIn_app (goodIn_of _ (by decide +kernel)) ggX1_canEnd_X1_dayAfter
set_option maxRecDepth 20000 in
theorem ggX1_end_X7_at : GoodIn wsX1_end wsX7_at := goodIn_r _ [7] (by decide +kernel) (by decide +kernel)
set_option maxRecDepth 20000 in
theorem gX1_end_X7_at_n43 : GoodIn wsX1_end (wsX7_at) := ggX1_end_X7_at
set_option maxRecDepth 20000 in
theorem ggX1_end_X1_feeFor : GoodIn wsX1_end wsX1_feeFor := goodIn_r _ [11] (by decide +kernel) (by decide +kernel)
set_option maxRecDepth 20000 in
theorem gX1_end_X1_feeFor : GoodIn wsX1_end (va_wsS RX1 35 yX1_feeFor wsX1_feeFor) := goodIn_app (goodIn_of _ (by decide +kernel)) ggX1_end_X1_feeFor
set_option maxRecDepth 20000 in
theorem ggX1_end_X7_put : GoodIn wsX1_end wsX7_put := goodIn_r _ [13] (by decide +kernel) (by decide +kernel)
set_option maxRecDepth 20000 in
theorem gX1_end_X7_put_n39 : GoodIn wsX1_end (wsX7_put) := ggX1_end_X7_put
set_option maxRecDepth 20000 in
theorem ggX1_firstFree_X1_overlapping : GoodIn wsX1_firstFree wsX1_overlapping := goodIn_r _ [5, 6, 7, 8, 9, 10, 11, 12, 13, 14, 4, 15, 16, 17, 18, 19, 20, 21, 22] (by decide +kernel) (by decide +kernel)
set_option maxRecDepth 20000 in
theorem gX1_firstFree_X1_overlapping : GoodIn wsX1_firstFree (wsV RX1 51 RX1 yX1_overlapping wsX1_overlapping) := goodIn_app (goodIn_of _ (by decide +kernel)) ggX1_firstFree_X1_overlapping
set_option maxRecDepth 20000 in
theorem ggX1_firstFree_X1_dayAfter : GoodIn wsX1_firstFree wsX1_dayAfter := goodIn_r _ [15, 8, 16, 9, 10, 11, 17, 18, 19, 20, 21, 22] (by decide +kernel) (by decide +kernel)
set_option maxRecDepth 20000 in
theorem gX1_firstFree_X1_dayAfter : GoodIn wsX1_firstFree (wsV RX1 47 RX1 yX1_dayAfter wsX1_dayAfter) := goodIn_app (goodIn_of _ (by decide +kernel)) ggX1_firstFree_X1_dayAfter
set_option maxRecDepth 20000 in
theorem ggX2_init_X4_init : GoodIn wsX2_init wsX4_init := goodIn_r _ [9, 10, 2, 3, 11, 12, 13, 14, 15, 16, 17, 18, 19, 20, 21, 22, 23, 24, 25, 26, 27, 28, 29, 30, 31, 32, 33, 34, 35, 36, 37, 38, 39, 40, 41, 42, 43, 44, 45, 46, 47, 48, 61, 62, 63, 64, 65, 66, 67, 68, 69, 52, 53, 54, 55, 56, 57, 58, 59, 60, 70, 71, 72, 73, 74, 75, 76, 77, 78] (by decide +kernel) (by decide +kernel)
set_option maxRecDepth 20000 in
theorem gX2_init_X4_init_n17 : GoodIn wsX2_init (wsX4_init) := ggX2_init_X4_init
set_option maxRecDepth 20000 in
theorem ggX2_remember_X2_stateAt : GoodIn wsX2_remember wsX2_stateAt := goodIn_r _ [11, 12, 68, 69, 70] (by decide +kernel) (by decide +kernel)
set_option maxRecDepth 20000 in
theorem gX2_remember_X2_stateAt : GoodIn wsX2_remember (wsV RX2 22 RX2 yX2_stateAt wsX2_stateAt) := goodIn_app (goodIn_of _ (by decide +kernel)) ggX2_remember_X2_stateAt
set_option maxRecDepth 20000 in
theorem ggX2_remember_X4_become : GoodIn wsX2_remember wsX4_become := goodIn_r _ [17, 18, 19, 20, 21, 22, 23, 24, 25, 26, 27, 28, 29, 30, 31, 32, 33, 34, 35, 36, 37, 38, 39, 40, 41, 42, 43, 44, 4, 5, 6, 45, 46, 47, 48, 49, 50, 51, 52, 53, 54, 55, 56, 57, 58, 59, 60, 61, 62, 63, 64, 65, 66, 67, 71, 72, 73, 74, 75, 76, 77, 78, 79, 80, 81, 82, 83, 84, 85, 86, 87, 88, 89, 90, 91, 92, 93, 94, 95, 96, 97] (by decide +kernel) (by decide +kernel)
set_option maxRecDepth 20000 in
theorem gX2_remember_X4_become : GoodIn wsX2_remember (wsV RX2 26 RX4 yX4_become wsX4_become) := goodIn_app (goodIn_of _ (by decide +kernel)) ggX2_remember_X4_become
set_option maxRecDepth 20000 in
theorem ggX2_restore_X2_stateAt : GoodIn wsX2_restore wsX2_stateAt := goodIn_r _ [7, 8, 67, 68, 69] (by decide +kernel) (by decide +kernel)
set_option maxRecDepth 20000 in
theorem gX2_restore_X2_stateAt : GoodIn wsX2_restore (wsV RX2 22 RX2 yX2_stateAt wsX2_stateAt) := goodIn_app (goodIn_of _ (by decide +kernel)) ggX2_restore_X2_stateAt
set_option maxRecDepth 20000 in
theorem ggX2_restore_X4_become : GoodIn wsX2_restore wsX4_become := goodIn_r _ [13, 14, 15, 16, 17, 18, 19, 20, 21, 22, 23, 24, 25, 26, 27, 28, 29, 30, 31, 32, 33, 34, 35, 36, 37, 38, 39, 40, 41, 42, 43, 44, 45, 46, 47, 48, 49, 50, 51, 52, 53, 54, 55, 56, 57, 58, 59, 60, 61, 62, 63, 64, 65, 66, 70, 71, 72, 73, 74, 75, 76, 77, 78, 79, 80, 81, 82, 83, 84, 85, 86, 87, 88, 89, 90, 91, 92, 93, 94, 95, 96] (by decide +kernel) (by decide +kernel)
set_option maxRecDepth 20000 in
theorem gX2_restore_X4_become : GoodIn wsX2_restore (wsV RX2 26 RX4 yX4_become wsX4_become) := goodIn_app (goodIn_of _ (by decide +kernel)) ggX2_restore_X4_become
set_option maxRecDepth 20000 in
theorem ggX3_part_X7_at : GoodIn wsX3_part wsX7_at := goodIn_r _ [4] (by decide +kernel) (by decide +kernel)
set_option maxRecDepth 20000 in
theorem gX3_part_X7_at_n19 : GoodIn wsX3_part (wsX7_at) := ggX3_part_X7_at
set_option maxRecDepth 20000 in
theorem ggX3_keep_X7_put : GoodIn wsX3_keep wsX7_put := goodIn_r _ [5] (by decide +kernel) (by decide +kernel)
set_option maxRecDepth 20000 in
theorem gX3_keep_X7_put_n27 : GoodIn wsX3_keep (wsX7_put) := ggX3_keep_X7_put
set_option maxRecDepth 20000 in
theorem ggX3_readAll_X3_nextToken : GoodIn wsX3_readAll wsX3_nextToken := goodIn_r _ [10, 4, 11, 12, 13, 14, 5, 15, 16, 17, 18, 19, 20, 9, 21, 22, 23, 103, 104, 105, 106, 107, 108, 109, 110, 111, 112] (by decide +kernel) (by decide +kernel)
set_option maxRecDepth 20000 in
theorem gX3_readAll_X3_nextToken : GoodIn wsX3_readAll (wsV RX3 40 RX3 yX3_nextToken wsX3_nextToken) := goodIn_app (goodIn_of _ (by decide +kernel)) ggX3_readAll_X3_nextToken
set_option maxRecDepth 20000 in
theorem ggX3_readAll_X3_readItem : GoodIn wsX3_readAll wsX3_readItem := goodIn_r _ [27, 5, 12, 14, 11, 28, 29, 30, 9, 31, 4, 32, 33, 34, 35, 36, 37, 38, 39, 40, 41, 42, 43, 15, 16, 17, 44, 45, 46, 47, 48, 49, 50, 51, 52, 53, 54, 55, 56, 57, 58, 59, 60, 61, 62, 63, 64, 65, 66, 67, 68, 69, 70, 71, 72, 73, 74, 75, 76, 77, 78, 79, 80, 81, 82, 83, 84, 1, 2, 85, 86, 87, 88, 89, 3, 90, 91, 92, 93, 94, 95, 96, 97, 98, 99, 6, 7, 8, 10, 13, 18, 19, 20, 21, 22, 23, 100, 101, 102, 103, 104, 105, 106, 107, 108, 109, 110, 111, 112] (by decide +kernel) (by decide +kernel)
set_option maxRecDepth 20000 in
theorem gX3_readAll_X3_readItem : GoodIn wsX3_readAll (wsV RX3 46 RX3 yX3_readItem wsX3_readItem) := goodIn_app (goodIn_of _ (by decide +kernel)) ggX3_readAll_X3_readItem
set_option maxRecDepth 20000 in
theorem ggX3_readItem_X3_isWord : GoodIn wsX3_readItem wsX3_isWord := goodIn_r _ [9, 1, 10, 4, 2, 3, 11, 12, 13, 14, 15, 16, 17, 18, 19, 20, 21, 22, 23, 24, 25, 26, 27, 28, 29, 30, 31, 32, 33, 34, 35, 36, 37, 38, 39, 40, 41, 42, 43, 44, 45, 46, 47, 48, 49, 50, 51, 52, 53, 54, 55, 56, 57, 58, 59, 60, 61, 62, 99, 100, 101, 102, 103, 104, 105, 106, 107, 108] (by decide +kernel) (by decide +kernel)
set_option maxRecDepth 20000 in
theorem gX3_readItem_X3_isWord : GoodIn wsX3_readItem (wsV RX3 52 RX3 yX3_isWord wsX3_isWord) := goodIn_app (goodIn_of _ (by decide +kernel)) ggX3_readItem_X3_isWord
set_option maxRecDepth 20000 in
theorem ggX3_readItem_X3_takePlace : GoodIn wsX3_readItem wsX3_takePlace := goodIn_r _ [66, 67, 68, 99, 100, 101, 102, 103, 104, 105, 106] (by decide +kernel) (by decide +kernel)
set_option maxRecDepth 20000 in
theorem gX3_readItem_X3_takePlace : GoodIn wsX3_readItem (wsV RX3 58 RX3 yX3_takePlace wsX3_takePlace) := goodIn_app (goodIn_of _ (by decide +kernel)) ggX3_readItem_X3_takePlace
set_option maxRecDepth 20000 in
theorem ggX3_readItem_X3_keep : GoodIn wsX3_readItem wsX3_keep := goodIn_r _ [72, 73, 74, 75, 24, 76, 99, 100, 101, 102, 103, 104, 105, 106] (by decide +kernel) (by decide +kernel)
set_option maxRecDepth 20000 in
theorem gX3_readItem_X3_keep : GoodIn wsX3_readItem (wsV RX3 62 RX3 yX3_keep wsX3_keep) := goodIn_app (goodIn_of _ (by decide +kernel)) ggX3_readItem_X3_keep
set_option maxRecDepth 20000 in
theorem ggX3_readItem_X3_readNumber : GoodIn wsX3_readItem wsX3_readNumber := goodIn_r _ [80, 10, 4, 2, 3, 1, 81, 82, 83, 84, 85, 86, 87, 8, 88, 89, 23, 24, 25, 90, 91, 92, 93, 94, 95, 69, 70, 71, 72, 73, 74, 75, 76, 96, 97, 98, 99, 100, 101, 102, 103, 104, 105, 106, 107, 108] (by decide +kernel) (by decide +kernel)
set_option maxRecDepth 20000 in
theorem gX3_readItem_X3_readNumber : GoodIn wsX3_readItem (wsV RX3 66 RX3 yX3_readNumber wsX3_readNumber) := goodIn_app (goodIn_of _ (by decide +kernel)) ggX3_readItem_X3_readNumber
set_option maxRecDepth 20000 in
theorem ggX3_readItem_X3_nextToken : GoodIn wsX3_readItem wsX3_nextToken := goodIn_r _ [88, 10, 4, 2, 89, 3, 1, 23, 24, 25, 90, 91, 92, 8, 93, 94, 95, 99, 100, 101, 102, 103, 104, 105, 106, 107, 108] (by decide +kernel) (by decide +kernel)
set_option maxRecDepth 20000 in
theorem gX3_readItem_X3_nextToken : GoodIn wsX3_readItem (wsV RX3 40 RX3 yX3_nextToken wsX3_nextToken) := goodIn_app (goodIn_of _ (by decide +kernel)) ggX3_readItem_X3_nextToken
set_option maxRecDepth 20000 in
theorem ggX3_readItem_X7_at : GoodIn wsX3_readItem wsX7_at := goodIn_r _ [25] (by decide +kernel) (by decide +kernel)
set_option maxRecDepth 20000 in
theorem gX3_readItem_X7_at_n19 : GoodIn wsX3_readItem (wsX7_at) := ggX3_readItem_X7_at
set_option maxRecDepth 20000 in
theorem ggX3_readNumber_X3_nextToken : GoodIn wsX3_readNumber wsX3_nextToken := goodIn_r _ [14, 1, 2, 3, 15, 4, 5, 16, 17, 18, 19, 20, 21, 13, 22, 23, 24, 36, 37, 38, 39, 40, 41, 42, 43, 44, 45] (by decide +kernel) (by decide +kernel)
set_option maxRecDepth 20000 in
theorem gX3_readNumber_X3_nextToken : GoodIn wsX3_readNumber (wsV RX3 40 RX3 yX3_nextToken wsX3_nextToken) := goodIn_app (goodIn_of _ (by decide +kernel)) ggX3_readNumber_X3_nextToken
set_option maxRecDepth 20000 in
theorem ggX3_readNumber_X7_at : GoodIn wsX3_readNumber wsX7_at := goodIn_r _ [18] (by decide +kernel) (by decide +kernel)
set_option maxRecDepth 20000 in
theorem gX3_readNumber_X7_at_n19 : GoodIn wsX3_readNumber (wsX7_at) := ggX3_readNumber_X7_at
set_option maxRecDepth 20000 in
theorem ggX3_readNumber_X3_keep : GoodIn wsX3_readNumber wsX3_keep := goodIn_r _ [28, 29, 30, 31, 17, 32, 36, 37, 38, 39, 40, 41, 42, 43] (by decide +kernel) (by decide +kernel)
set_option maxRecDepth 20000 in
theorem gX3_readNumber_X3_keep : GoodIn wsX3_readNumber (wsV RX3 62 RX3 yX3_keep wsX3_keep) := goodIn_app (goodIn_of _ (by decide +kernel)) ggX3_readNumber_X3_keep
set_option maxRecDepth 20000 in
theorem ggX3_readNumber_X3_isAllowed : GoodIn wsX3_readNumber wsX3_isAllowed := goodIn_r _ [35, 23, 17, 24] (by decide +kernel) (by decide +kernel)
set_option maxRecDepth 20000 in
theorem gX3_readNumber_X3_isAllowed : GoodIn wsX3_readNumber (va_wsS RX3 86 yX3_isAllowed wsX3_isAllowed) := goodIn_app (goodIn_of _ (by decide +kernel)) ggX3_readNumber_X3_isAllowed
set_option maxRecDepth 20000 in
theorem ggX3_isAllowed_X7_isWithin : GoodIn wsX3_isAllowed wsX7_isWithin := goodIn_r _ [3] (by decide +kernel) (by decide +kernel)
set_option maxRecDepth 20000 in
theorem gX3_isAllowed_X7_isWithin_n90 : GoodIn wsX3_isAllowed (wsX7_isWithin) := ggX3_isAllowed_X7_isWithin
set_option maxRecDepth 20000 in
theorem ggX3_isWord_J0_length_8abf5 : GoodIn wsX3_isWord wsJ0_length_8abf5 := goodIn_r _ [10, 11, 12, 13, 14, 9, 15, 16, 17] (by decide +kernel) (by decide +kernel)
set_option maxRecDepth 20000 in
theorem gX3_isWord_J0_length_8abf5 : GoodIn wsX3_isWord (wsV RX3 94 RJ0 yJ0_length_8abf5 wsJ0_length_8abf5) := goodIn_app (goodIn_of _ (by decide +kernel)) ggX3_isWord_J0_length_8abf5
set_option maxRecDepth 20000 in
theorem ggX3_isWord_X7_at : GoodIn wsX3_isWord wsX7_at := goodIn_r _ [20] (by decide +kernel) (by decide +kernel)
set_option maxRecDepth 20000 in
theorem gX3_isWord_X7_at_n19 : GoodIn wsX3_isWord (wsX7_at) := ggX3_isWord_X7_at
set_option maxRecDepth 20000 in
theorem ggX3_isWord_J0_charAt_5068e : GoodIn wsX3_isWord wsJ0_charAt_5068e := goodIn_r _ [24, 11, 25, 26, 27, 9, 28, 16, 17, 29, 30, 31, 32, 33, 34, 35, 36, 37, 38, 39, 40, 41, 42, 43, 44, 45, 46, 47, 48, 49, 50, 51, 52, 53, 54, 55, 56, 57] (by decide +kernel) (by decide +kernel)
set_option maxRecDepth 20000 in
theorem gX3_isWord_J0_charAt_5068e : GoodIn wsX3_isWord (wsV RX3 100 RJ0 yJ0_charAt_5068e wsJ0_charAt_5068e) := goodIn_app (goodIn_of _ (by decide +kernel)) ggX3_isWord_J0_charAt_5068e
set_option maxRecDepth 20000 in
theorem ggX3_nextToken_X7_at : GoodIn wsX3_nextToken wsX7_at := goodIn_r _ [9] (by decide +kernel) (by decide +kernel)
set_option maxRecDepth 20000 in
theorem gX3_nextToken_X7_at_n19 : GoodIn wsX3_nextToken (wsX7_at) := ggX3_nextToken_X7_at
set_option maxRecDepth 20000 in
theorem ggX3_nextToken_X3_kindAt : GoodIn wsX3_nextToken wsX3_kindAt := goodIn_r _ [14, 3, 4, 5, 7, 8, 9, 15, 16, 17, 18, 19, 20, 21, 22, 23, 24, 25, 26] (by decide +kernel) (by decide +kernel)
set_option maxRecDepth 20000 in
theorem gX3_nextToken_X3_kindAt : GoodIn wsX3_nextToken (wsV RX3 106 RX3 yX3_kindAt wsX3_kindAt) := goodIn_app (goodIn_of _ (by decide +kernel)) ggX3_nextToken_X3_kindAt
set_option maxRecDepth 20000 in
theorem ggX3_kindAt_X7_at : GoodIn wsX3_kindAt wsX7_at := goodIn_r _ [6] (by decide +kernel) (by decide +kernel)
set_option maxRecDepth 20000 in
theorem gX3_kindAt_X7_at_n19 : GoodIn wsX3_kindAt (wsX7_at) := ggX3_kindAt_X7_at
set_option maxRecDepth 20000 in
theorem ggX3_kindAt_X7_isWithin : GoodIn wsX3_kindAt wsX7_isWithin := goodIn_r _ [8] (by decide +kernel) (by decide +kernel)
set_option maxRecDepth 20000 in
theorem gX3_kindAt_X7_isWithin_n90 : GoodIn wsX3_kindAt (wsX7_isWithin) := ggX3_kindAt_X7_isWithin
set_option maxRecDepth 20000 in
theorem ggX4_init_X6_init : GoodIn wsX4_init wsX6_init := goodIn_r _ [19, 20, 2, 3, 16, 21, 22, 23, 24, 25, 26, 27, 28, 42, 43, 44, 45, 46, 47, 48, 49, 50] (by decide +kernel) (by decide +kernel)
set_option maxRecDepth 20000 in
theorem gX4_init_X6_init_n11 : GoodIn wsX4_init (wsX6_init) := ggX4_init_X6_init
set_option maxRecDepth 20000 in
theorem ggX4_init_X0_init : GoodIn wsX4_init wsX0_init := goodIn_r _ [30, 31, 2, 3, 16, 32, 33, 60, 61, 62] (by decide +kernel) (by decide +kernel)
set_option maxRecDepth 20000 in
theorem gX4_init_X0_init_n20 : GoodIn wsX4_init (wsX0_init) := ggX4_init_X0_init
set_option maxRecDepth 20000 in
theorem ggX4_init_X1_init : GoodIn wsX4_init wsX1_init := goodIn_r _ [35, 36, 2, 3, 16, 37, 38, 39, 40, 41, 63, 64, 65, 66, 67, 68] (by decide +kernel) (by decide +kernel)
set_option maxRecDepth 20000 in
theorem gX4_init_X1_init_n27 : GoodIn wsX4_init (wsX1_init) := ggX4_init_X1_init
set_option maxRecDepth 20000 in
theorem ggX4_become_X6_copyFrom : GoodIn wsX4_become wsX6_copyFrom := goodIn_r _ [14, 15, 16, 17, 18, 19, 20, 21, 22, 23, 24, 25, 26, 27, 28, 29, 30, 31, 32, 33, 34, 63, 64, 65, 66, 67, 68, 69, 70, 71] (by decide +kernel) (by decide +kernel)
set_option maxRecDepth 20000 in
theorem gX4_become_X6_copyFrom : GoodIn wsX4_become (wsV RX4 36 RX6 yX6_copyFrom wsX6_copyFrom) := goodIn_app (goodIn_of _ (by decide +kernel)) ggX4_become_X6_copyFrom
set_option maxRecDepth 20000 in
theorem ggX4_become_X0_copyFrom : GoodIn wsX4_become wsX0_copyFrom := goodIn_r _ [39, 40, 41, 42, 24, 25, 26, 27, 28, 29, 30, 31, 32, 33, 34, 72, 73, 74] (by decide +kernel) (by decide +kernel)
set_option maxRecDepth 20000 in
theorem gX4_become_X0_copyFrom : GoodIn wsX4_become (wsV RX4 40 RX0 yX0_copyFrom wsX0_copyFrom) := goodIn_app (goodIn_of _ (by decide +kernel)) ggX4_become_X0_copyFrom
set_option maxRecDepth 20000 in
theorem ggX4_become_X1_copyFrom : GoodIn wsX4_become wsX1_copyFrom := goodIn_r _ [47, 48, 49, 50, 51, 52, 53, 24, 25, 26, 27, 28, 29, 30, 31, 32, 33, 34, 75, 76, 77, 78, 79, 80] (by decide +kernel) (by decide +kernel)
set_option maxRecDepth 20000 in
theorem gX4_become_X1_copyFrom : GoodIn wsX4_become (wsV RX4 43 RX1 yX1_copyFrom wsX1_copyFrom) := goodIn_app (goodIn_of _ (by decide +kernel)) ggX4_become_X1_copyFrom
set_option maxRecDepth 20000 in
theorem ggX4_become_X7_copyRow : GoodIn wsX4_become wsX7_copyRow := goodIn_r _ [26, 27, 28, 29, 30, 31, 32, 33, 34] (by decide +kernel) (by decide +kernel)
set_option maxRecDepth 20000 in
theorem gX4_become_X7_copyRow_n46 : GoodIn wsX4_become (wsX7_copyRow) := ggX4_become_X7_copyRow
set_option maxRecDepth 20000 in
theorem ggX4_isAway_X1_overlapping : GoodIn wsX4_isAway wsX1_overlapping := goodIn_r _ [7, 8, 9, 10, 11, 12, 13, 14, 15, 16, 6, 17, 18, 28, 29, 30, 31, 32, 33] (by decide +kernel) (by decide +kernel)
set_option maxRecDepth 20000 in
theorem gX4_isAway_X1_overlapping : GoodIn wsX4_isAway (wsV RX4 66 RX1 yX1_overlapping wsX1_overlapping) := goodIn_app (goodIn_of _ (by decide +kernel)) ggX4_isAway_X1_overlapping
set_option maxRecDepth 20000 in
theorem ggX4_awayToday_X4_isAway : GoodIn wsX4_awayToday wsX4_isAway := goodIn_r _ [7, 8, 9, 10, 11, 12, 13, 14, 15, 16, 17, 18, 19, 20, 21, 22, 23, 24, 25, 26, 27, 28, 29, 30, 31, 32, 33, 34, 44, 45, 46, 47, 48, 49] (by decide +kernel) (by decide +kernel)
set_option maxRecDepth 20000 in
theorem gX4_awayToday_X4_isAway : GoodIn wsX4_awayToday (wsV RX4 73 RX4 yX4_isAway wsX4_isAway) := goodIn_app (goodIn_of _ (by decide +kernel)) ggX4_awayToday_X4_isAway
set_option maxRecDepth 20000 in
theorem ggX4_isTooDirty_X7_at : GoodIn wsX4_isTooDirty wsX7_at := goodIn_r _ [6] (by decide +kernel) (by decide +kernel)
set_option maxRecDepth 20000 in
theorem gX4_isTooDirty_X7_at_n80 : GoodIn wsX4_isTooDirty (wsX7_at) := ggX4_isTooDirty_X7_at
set_option maxRecDepth 20000 in
theorem ggX4_lackOf_X6_present : GoodIn wsX4_lackOf wsX6_present := goodIn_r _ [8, 9, 10, 11, 12, 13, 14, 7, 15, 16, 17, 18, 19, 20, 21, 22, 23, 39, 40, 41, 42, 43, 44, 45, 46, 47] (by decide +kernel) (by decide +kernel)
set_option maxRecDepth 20000 in
theorem gX4_lackOf_X6_present : GoodIn wsX4_lackOf (wsV RX4 84 RX6 yX6_present wsX6_present) := goodIn_app (goodIn_of _ (by decide +kernel)) ggX4_lackOf_X6_present
set_option maxRecDepth 20000 in
theorem ggX4_lackOf_X0_measureOf : GoodIn wsX4_lackOf wsX0_measureOf := goodIn_r _ [28, 29, 17, 18, 19, 48, 49, 50] (by decide +kernel) (by decide +kernel)
set_option maxRecDepth 20000 in
theorem gX4_lackOf_X0_measureOf : GoodIn wsX4_lackOf (wsV RX4 88 RX0 yX0_measureOf wsX0_measureOf) := goodIn_app (goodIn_of _ (by decide +kernel)) ggX4_lackOf_X0_measureOf
set_option maxRecDepth 20000 in
theorem ggX4_lackOf_X7_at : GoodIn wsX4_lackOf wsX7_at := goodIn_r _ [19] (by decide +kernel) (by decide +kernel)
set_option maxRecDepth 20000 in
theorem gX4_lackOf_X7_at_n80 : GoodIn wsX4_lackOf (wsX7_at) := ggX4_lackOf_X7_at
set_option maxRecDepth 20000 in
theorem ggX4_misfitOf_X4_lackOf : GoodIn wsX4_misfitOf wsX4_lackOf := goodIn_r _ [9, 10, 11, 12, 13, 14, 15, 16, 17, 18, 19, 20, 21, 22, 23, 24, 25, 26, 27, 28, 29, 30, 31, 32, 33, 34, 35, 36, 37, 38, 39, 40, 41, 42, 43, 44, 45, 46, 47, 48, 49, 50, 51, 52, 53, 54, 55, 56, 57, 58, 59] (by decide +kernel) (by decide +kernel)
set_option maxRecDepth 20000 in
theorem gX4_misfitOf_X4_lackOf : GoodIn wsX4_misfitOf (wsV RX4 91 RX4 yX4_lackOf wsX4_lackOf) := goodIn_app (goodIn_of _ (by decide +kernel)) ggX4_misfitOf_X4_lackOf
set_option maxRecDepth 20000 in
theorem ggX4_leastChange_X6_roomForAlterations : GoodIn wsX4_leastChange wsX6_roomForAlterations := goodIn_r _ [10, 11, 12, 13, 14, 58, 59, 60, 61, 62, 63, 64, 65, 66] (by decide +kernel) (by decide +kernel)
set_option maxRecDepth 20000 in
theorem gX4_leastChange_X6_roomForAlterations : GoodIn wsX4_leastChange (wsV RX4 100 RX6 yX6_roomForAlterations wsX6_roomForAlterations) := goodIn_app (goodIn_of _ (by decide +kernel)) ggX4_leastChange_X6_roomForAlterations
set_option maxRecDepth 20000 in
theorem ggX4_leastChange_X4_lackOf : GoodIn wsX4_leastChange wsX4_lackOf := goodIn_r _ [19, 1, 20, 21, 22, 23, 24, 9, 25, 11, 26, 27, 28, 29, 30, 31, 32, 12, 13, 14, 33, 34, 35, 36, 37, 38, 39, 40, 41, 42, 49, 50, 51, 52, 53, 54, 55, 56, 57, 58, 59, 60, 61, 62, 63, 64, 65, 66, 67, 68, 69] (by decide +kernel) (by decide +kernel)
set_option maxRecDepth 20000 in
theorem gX4_leastChange_X4_lackOf : GoodIn wsX4_leastChange (wsV RX4 91 RX4 yX4_lackOf wsX4_lackOf) := goodIn_app (goodIn_of _ (by decide +kernel)) ggX4_leastChange_X4_lackOf
set_option maxRecDepth 20000 in
theorem ggX4_leastChange_X6_allows : GoodIn wsX4_leastChange wsX6_allows := goodIn_r _ [46, 47, 28, 29, 30, 9, 31, 32, 12, 13, 14, 48, 23, 24, 25, 11, 26, 27, 33, 34, 35, 36, 58, 59, 60, 61, 62, 63, 64, 65, 66] (by decide +kernel) (by decide +kernel)
set_option maxRecDepth 20000 in
theorem gX4_leastChange_X6_allows : GoodIn wsX4_leastChange (wsV RX4 103 RX6 yX6_allows wsX6_allows) := goodIn_app (goodIn_of _ (by decide +kernel)) ggX4_leastChange_X6_allows
set_option maxRecDepth 20000 in
theorem ggX4_bestCostume_X4_isFreeFor : GoodIn wsX4_bestCostume wsX4_isFreeFor := goodIn_r _ [7, 8, 9, 10, 11, 12, 13, 14, 15, 16, 17, 18, 6, 19, 20, 21, 22, 23, 24, 25, 26, 27, 28, 29, 30, 31, 32, 33, 34, 35, 36, 37, 38, 39, 40, 41, 1, 42, 43, 44, 45, 46, 47, 48, 49, 50, 51, 52, 53, 54, 55, 56, 57, 58, 102, 103, 104, 105, 106, 107, 108, 109, 110, 120, 121, 122, 123, 124, 125, 111, 112, 113, 114, 115, 116, 117, 118, 119, 126, 127, 128] (by decide +kernel) (by decide +kernel)
set_option maxRecDepth 20000 in
theorem gX4_bestCostume_X4_isFreeFor : GoodIn wsX4_bestCostume (wsV RX4 107 RX4 yX4_isFreeFor wsX4_isFreeFor) := goodIn_app (goodIn_of _ (by decide +kernel)) ggX4_bestCostume_X4_isFreeFor
set_option maxRecDepth 20000 in
theorem ggX4_bestCostume_X4_leastChange : GoodIn wsX4_bestCostume wsX4_leastChange := goodIn_r _ [62, 1, 63, 64, 10, 65, 66, 67, 68, 69, 70, 71, 30, 31, 32, 72, 73, 74, 6, 75, 15, 43, 76, 77, 78, 79, 80, 81, 82, 83, 84, 85, 86, 87, 88, 89, 90, 91, 92, 93, 47, 94, 95, 96, 97, 98, 99, 100, 101, 102, 103, 104, 105, 106, 107, 108, 109, 110, 111, 112, 113, 114, 115, 116, 117, 118, 119, 126, 127, 128] (by decide +kernel) (by decide +kernel)
set_option maxRecDepth 20000 in
theorem gX4_bestCostume_X4_leastChange : GoodIn wsX4_bestCostume (wsV RX4 110 RX4 yX4_leastChange wsX4_leastChange) := goodIn_app (goodIn_of _ (by decide +kernel)) ggX4_bestCostume_X4_leastChange
set_option maxRecDepth 20000 in
theorem ggX4_isFreeFor_X4_isAway : GoodIn wsX4_isFreeFor wsX4_isAway := goodIn_r _ [13, 14, 15, 16, 17, 18, 19, 20, 21, 22, 23, 24, 25, 26, 27, 28, 29, 30, 31, 54, 55, 56, 57, 58, 59, 60, 61, 62, 63, 64, 65, 66, 67, 68] (by decide +kernel) (by decide +kernel)
set_option maxRecDepth 20000 in
theorem gX4_isFreeFor_X4_isAway : GoodIn wsX4_isFreeFor (wsV RX4 73 RX4 yX4_isAway wsX4_isAway) := goodIn_app (goodIn_of _ (by decide +kernel)) ggX4_isFreeFor_X4_isAway
set_option maxRecDepth 20000 in
theorem ggX4_isFreeFor_X4_isTooDirty : GoodIn wsX4_isFreeFor wsX4_isTooDirty := goodIn_r _ [35, 36, 37, 38, 24, 25, 26, 54, 55, 56, 57, 58, 59, 60, 61, 62, 69, 70, 71, 72, 73, 74, 75, 76, 77] (by decide +kernel) (by decide +kernel)
set_option maxRecDepth 20000 in
theorem gX4_isFreeFor_X4_isTooDirty : GoodIn wsX4_isFreeFor (wsV RX4 113 RX4 yX4_isTooDirty wsX4_isTooDirty) := goodIn_app (goodIn_of _ (by decide +kernel)) ggX4_isFreeFor_X4_isTooDirty
set_option maxRecDepth 20000 in
theorem ggX4_isFreeFor_X0_isWornByAnother : GoodIn wsX4_isFreeFor wsX0_isWornByAnother := goodIn_r _ [43, 44, 45, 46, 42, 47, 48, 24, 25, 26, 49, 50, 51, 52, 53, 78, 79, 80] (by decide +kernel) (by decide +kernel)
set_option maxRecDepth 20000 in
theorem gX4_isFreeFor_X0_isWornByAnother : GoodIn wsX4_isFreeFor (wsV RX4 122 RX0 yX0_isWornByAnother wsX0_isWornByAnother) := goodIn_app (goodIn_of _ (by decide +kernel)) ggX4_isFreeFor_X0_isWornByAnother
set_option maxRecDepth 20000 in
theorem ggX4_problemsOf_X4_wornTwice : GoodIn wsX4_problemsOf wsX4_wornTwice := goodIn_r _ [5, 6, 7, 8, 9, 10, 11, 12, 13, 14, 15, 16, 17, 18, 19, 20, 21, 22, 97, 98, 99, 100, 101, 102, 103, 104, 105, 106, 107, 108, 109, 110, 111, 112, 113, 114, 115, 116, 117] (by decide +kernel) (by decide +kernel)
set_option maxRecDepth 20000 in
theorem gX4_problemsOf_X4_wornTwice : GoodIn wsX4_problemsOf (wsV RX4 125 RX4 yX4_wornTwice wsX4_wornTwice) := goodIn_app (goodIn_of _ (by decide +kernel)) ggX4_problemsOf_X4_wornTwice
set_option maxRecDepth 20000 in
theorem ggX4_problemsOf_X4_handedOver : GoodIn wsX4_problemsOf wsX4_handedOver := goodIn_r _ [26, 6, 7, 8, 27, 28, 29, 12, 30, 14, 31, 10, 11, 13, 15, 16, 17, 18, 19, 20, 21, 22, 97, 98, 99, 100, 101, 102, 103, 104, 105, 106, 107, 108, 109, 110, 111, 112, 113, 114, 115, 116, 117] (by decide +kernel) (by decide +kernel)
set_option maxRecDepth 20000 in
theorem gX4_problemsOf_X4_handedOver : GoodIn wsX4_problemsOf (wsV RX4 129 RX4 yX4_handedOver wsX4_handedOver) := goodIn_app (goodIn_of _ (by decide +kernel)) ggX4_problemsOf_X4_handedOver
set_option maxRecDepth 20000 in
theorem ggX4_problemsOf_X4_wornAmiss : GoodIn wsX4_problemsOf wsX4_wornAmiss := goodIn_r _ [35, 8, 36, 37, 16, 17, 12, 18, 19, 20, 21, 22, 38, 39, 40, 4, 41, 42, 43, 44, 45, 46, 47, 48, 49, 6, 50, 51, 52, 53, 54, 55, 56, 57, 58, 59, 60, 61, 62, 63, 64, 65, 66, 67, 68, 69, 70, 71, 72, 73, 74, 75, 76, 77, 78, 79, 80, 81, 82, 83, 84, 85, 86, 87, 88, 89, 90, 91, 92, 93, 94, 95, 96, 97, 98, 99, 100, 101, 102, 103, 104, 105, 115, 116, 117, 106, 107, 108, 109, 110, 111, 112, 113, 114, 118, 119, 120, 121, 122, 123] (by decide +kernel) (by decide +kernel)
set_option maxRecDepth 20000 in
theorem gX4_problemsOf_X4_wornAmiss : GoodIn wsX4_problemsOf (wsV RX4 132 RX4 yX4_wornAmiss wsX4_wornAmiss) := goodIn_app (goodIn_of _ (by decide +kernel)) ggX4_problemsOf_X4_wornAmiss
set_option maxRecDepth 20000 in
theorem ggX4_wornTwice_X0_wearers : GoodIn wsX4_wornTwice wsX0_wearers := goodIn_r _ [8, 9, 10, 11, 12, 7, 13, 14, 15, 16, 17, 36, 37, 38] (by decide +kernel) (by decide +kernel)
set_option maxRecDepth 20000 in
theorem gX4_wornTwice_X0_wearers : GoodIn wsX4_wornTwice (wsV RX4 135 RX0 yX0_wearers wsX0_wearers) := goodIn_app (goodIn_of _ (by decide +kernel)) ggX4_wornTwice_X0_wearers
set_option maxRecDepth 20000 in
theorem ggX4_handedOver_X0_isHandedOver : GoodIn wsX4_handedOver wsX0_isHandedOver := goodIn_r _ [8, 9, 10, 11, 12, 7, 13, 14, 15, 16, 17, 18, 19, 20, 21, 40, 41, 42] (by decide +kernel) (by decide +kernel)
set_option maxRecDepth 20000 in
theorem gX4_handedOver_X0_isHandedOver : GoodIn wsX4_handedOver (wsV RX4 138 RX0 yX0_isHandedOver wsX0_isHandedOver) := goodIn_app (goodIn_of _ (by decide +kernel)) ggX4_handedOver_X0_isHandedOver
set_option maxRecDepth 20000 in
theorem ggX4_wornAmiss_X0_wornIn : GoodIn wsX4_wornAmiss wsX0_wornIn := goodIn_r _ [7, 8, 9, 10, 11, 82, 83, 84] (by decide +kernel) (by decide +kernel)
set_option maxRecDepth 20000 in
theorem gX4_wornAmiss_X0_wornIn : GoodIn wsX4_wornAmiss (wsV RX4 143 RX0 yX0_wornIn wsX0_wornIn) := goodIn_app (goodIn_of _ (by decide +kernel)) ggX4_wornAmiss_X0_wornIn
set_option maxRecDepth 20000 in
theorem ggX4_wornAmiss_X4_misfitOf : GoodIn wsX4_wornAmiss wsX4_misfitOf := goodIn_r _ [16, 17, 18, 19, 20, 21, 22, 23, 15, 24, 25, 1, 26, 27, 28, 29, 30, 31, 32, 33, 34, 35, 36, 37, 38, 39, 9, 10, 11, 40, 41, 42, 43, 44, 45, 46, 6, 47, 48, 73, 74, 75, 76, 77, 78, 79, 80, 81, 85, 86, 87, 88, 89, 90, 91, 92, 93, 82, 83, 84] (by decide +kernel) (by decide +kernel)
set_option maxRecDepth 20000 in
theorem gX4_wornAmiss_X4_misfitOf : GoodIn wsX4_wornAmiss (wsV RX4 146 RX4 yX4_misfitOf wsX4_misfitOf) := goodIn_app (goodIn_of _ (by decide +kernel)) ggX4_wornAmiss_X4_misfitOf
set_option maxRecDepth 20000 in
theorem ggX4_wornAmiss_X4_isAway : GoodIn wsX4_wornAmiss wsX4_isAway := goodIn_r _ [52, 53, 54, 55, 56, 57, 58, 59, 60, 61, 62, 9, 10, 11, 63, 64, 65, 66, 67, 73, 74, 75, 76, 77, 78, 79, 80, 81, 94, 95, 96, 97, 98, 99] (by decide +kernel) (by decide +kernel)
set_option maxRecDepth 20000 in
theorem gX4_wornAmiss_X4_isAway : GoodIn wsX4_wornAmiss (wsV RX4 73 RX4 yX4_isAway wsX4_isAway) := goodIn_app (goodIn_of _ (by decide +kernel)) ggX4_wornAmiss_X4_isAway
set_option maxRecDepth 20000 in
theorem ggX4_wornAmiss_X4_isTooDirty : GoodIn wsX4_wornAmiss wsX4_isTooDirty := goodIn_r _ [71, 25, 72, 26, 9, 10, 11, 73, 74, 75, 76, 77, 78, 79, 80, 81, 85, 86, 87, 88, 89, 90, 91, 92, 93] (by decide +kernel) (by decide +kernel)
set_option maxRecDepth 20000 in
theorem gX4_wornAmiss_X4_isTooDirty : GoodIn wsX4_wornAmiss (wsV RX4 113 RX4 yX4_isTooDirty wsX4_isTooDirty) := goodIn_app (goodIn_of _ (by decide +kernel)) ggX4_wornAmiss_X4_isTooDirty
set_option maxRecDepth 20000 in
theorem ggX4_soilAll_X0_scenesOf : GoodIn wsX4_soilAll wsX0_scenesOf := goodIn_r _ [8, 9, 10, 11, 7, 12, 13, 14, 15, 16, 17, 18, 19, 20, 21, 52, 53, 54] (by decide +kernel) (by decide +kernel)
set_option maxRecDepth 20000 in
theorem gX4_soilAll_X0_scenesOf : GoodIn wsX4_soilAll (wsV RX4 149 RX0 yX0_scenesOf wsX0_scenesOf) := goodIn_app (goodIn_of _ (by decide +kernel)) ggX4_soilAll_X0_scenesOf
set_option maxRecDepth 20000 in
theorem ggX4_soilAll_X6_soil : GoodIn wsX4_soilAll wsX6_soil := goodIn_r _ [26, 27, 28, 29, 30, 31, 19, 20, 21, 32, 33, 43, 44, 45, 46, 47, 48, 49, 50, 51] (by decide +kernel) (by decide +kernel)
set_option maxRecDepth 20000 in
theorem gX4_soilAll_X6_soil : GoodIn wsX4_soilAll (wsV RX4 152 RX6 yX6_soil wsX6_soil) := goodIn_app (goodIn_of _ (by decide +kernel)) ggX4_soilAll_X6_soil
set_option maxRecDepth 20000 in
theorem ggX4_allowsLoad_J6_bitCount_0f7a4 : GoodIn wsX4_allowsLoad wsJ6_bitCount_0f7a4 := goodIn_r _ [7, 8, 9, 10] (by decide +kernel) (by decide +kernel)
set_option maxRecDepth 20000 in
theorem gX4_allowsLoad_J6_bitCount_0f7a4 : GoodIn wsX4_allowsLoad (va_wsS RX4 156 yJ6_bitCount_0f7a4 wsJ6_bitCount_0f7a4) := goodIn_app (goodIn_of _ (by decide +kernel)) ggX4_allowsLoad_J6_bitCount_0f7a4
set_option maxRecDepth 20000 in
theorem ggX4_allowsLoad_X7_isIn : GoodIn wsX4_allowsLoad wsX7_isIn := goodIn_r _ [13] (by decide +kernel) (by decide +kernel)
set_option maxRecDepth 20000 in
theorem gX4_allowsLoad_X7_isIn_n161 : GoodIn wsX4_allowsLoad (wsX7_isIn) := ggX4_allowsLoad_X7_isIn
set_option maxRecDepth 20000 in
theorem ggX4_allowsLoad_X4_isAway : GoodIn wsX4_allowsLoad wsX4_isAway := goodIn_r _ [18, 19, 20, 21, 22, 23, 24, 25, 26, 27, 28, 29, 12, 30, 31, 32, 33, 34, 35, 42, 43, 44, 45, 46, 47, 48, 49, 50, 60, 61, 62, 63, 64, 65] (by decide +kernel) (by decide +kernel)
set_option maxRecDepth 20000 in
theorem gX4_allowsLoad_X4_isAway : GoodIn wsX4_allowsLoad (wsV RX4 73 RX4 yX4_isAway wsX4_isAway) := goodIn_app (goodIn_of _ (by decide +kernel)) ggX4_allowsLoad_X4_isAway
set_option maxRecDepth 20000 in
theorem ggX4_allowsLoad_X6_canBeWashed : GoodIn wsX4_allowsLoad wsX6_canBeWashed := goodIn_r _ [40, 41, 29, 12, 30, 11, 13, 51, 52, 53, 54, 55, 56, 57, 58, 59] (by decide +kernel) (by decide +kernel)
set_option maxRecDepth 20000 in
theorem gX4_allowsLoad_X6_canBeWashed : GoodIn wsX4_allowsLoad (wsV RX4 164 RX6 yX6_canBeWashed wsX6_canBeWashed) := goodIn_app (goodIn_of _ (by decide +kernel)) ggX4_allowsLoad_X6_canBeWashed
set_option maxRecDepth 20000 in
theorem ggX4_allowsLoad_X7_at : GoodIn wsX4_allowsLoad wsX7_at := goodIn_r _ [30] (by decide +kernel) (by decide +kernel)
set_option maxRecDepth 20000 in
theorem gX4_allowsLoad_X7_at_n80 : GoodIn wsX4_allowsLoad (wsX7_at) := ggX4_allowsLoad_X7_at
set_option maxRecDepth 20000 in
theorem ggX4_dirtySet_X7_at : GoodIn wsX4_dirtySet wsX7_at := goodIn_r _ [7] (by decide +kernel) (by decide +kernel)
set_option maxRecDepth 20000 in
theorem gX4_dirtySet_X7_at_n80 : GoodIn wsX4_dirtySet (wsX7_at) := ggX4_dirtySet_X7_at
set_option maxRecDepth 20000 in
theorem ggX4_dirtySet_X4_isAway : GoodIn wsX4_dirtySet wsX4_isAway := goodIn_r _ [12, 13, 14, 15, 16, 17, 18, 19, 20, 21, 22, 5, 6, 7, 23, 24, 25, 26, 27, 36, 37, 38, 39, 40, 41, 42, 43, 44, 54, 55, 56, 57, 58, 59] (by decide +kernel) (by decide +kernel)
set_option maxRecDepth 20000 in
theorem gX4_dirtySet_X4_isAway : GoodIn wsX4_dirtySet (wsV RX4 73 RX4 yX4_isAway wsX4_isAway) := goodIn_app (goodIn_of _ (by decide +kernel)) ggX4_dirtySet_X4_isAway
set_option maxRecDepth 20000 in
theorem ggX4_dirtySet_X6_canBeWashed : GoodIn wsX4_dirtySet wsX6_canBeWashed := goodIn_r _ [32, 33, 5, 6, 7, 34, 35, 45, 46, 47, 48, 49, 50, 51, 52, 53] (by decide +kernel) (by decide +kernel)
set_option maxRecDepth 20000 in
theorem gX4_dirtySet_X6_canBeWashed : GoodIn wsX4_dirtySet (wsV RX4 164 RX6 yX6_canBeWashed wsX6_canBeWashed) := goodIn_app (goodIn_of _ (by decide +kernel)) ggX4_dirtySet_X6_canBeWashed
set_option maxRecDepth 20000 in
theorem ggX5_add_X7_put : GoodIn wsX5_add wsX7_put := goodIn_r _ [5] (by decide +kernel) (by decide +kernel)
set_option maxRecDepth 20000 in
theorem gX5_add_X7_put_n19 : GoodIn wsX5_add (wsX7_put) := ggX5_add_X7_put
set_option maxRecDepth 20000 in
theorem ggX6_copyFrom_X7_copyRow : GoodIn wsX6_copyFrom wsX7_copyRow := goodIn_r _ [12, 13, 14, 15, 16, 17, 18, 19, 20] (by decide +kernel) (by decide +kernel)
set_option maxRecDepth 20000 in
theorem gX6_copyFrom_X7_copyRow_n40 : GoodIn wsX6_copyFrom (wsX7_copyRow) := ggX6_copyFrom_X7_copyRow
set_option maxRecDepth 20000 in
theorem ggX6_add_X7_put : GoodIn wsX6_add wsX7_put := goodIn_r _ [10] (by decide +kernel) (by decide +kernel)
set_option maxRecDepth 20000 in
theorem gX6_add_X7_put_n44 : GoodIn wsX6_add (wsX7_put) := ggX6_add_X7_put
set_option maxRecDepth 20000 in
theorem ggX6_originalOf_X7_at : GoodIn wsX6_originalOf wsX7_at := goodIn_r _ [4] (by decide +kernel) (by decide +kernel)
set_option maxRecDepth 20000 in
theorem gX6_originalOf_X7_at_n48 : GoodIn wsX6_originalOf (wsX7_at) := ggX6_originalOf_X7_at
set_option maxRecDepth 20000 in
theorem ggX6_present_X6_originalOf : GoodIn wsX6_present wsX6_originalOf := goodIn_r _ [8, 9, 10, 11, 12, 17, 18, 19, 20, 21, 22, 23, 24, 25] (by decide +kernel) (by decide +kernel)
set_option maxRecDepth 20000 in
theorem gX6_present_X6_originalOf : GoodIn wsX6_present (wsV RX6 52 RX6 yX6_originalOf wsX6_originalOf) := goodIn_app (goodIn_of _ (by decide +kernel)) ggX6_present_X6_originalOf
set_option maxRecDepth 20000 in
theorem ggX6_present_X7_at : GoodIn wsX6_present wsX7_at := goodIn_r _ [12] (by decide +kernel) (by decide +kernel)
set_option maxRecDepth 20000 in
theorem gX6_present_X7_at_n48 : GoodIn wsX6_present (wsX7_at) := ggX6_present_X7_at
set_option maxRecDepth 20000 in
theorem ggX6_present_X6_placeOf : GoodIn wsX6_present wsX6_placeOf := goodIn_r _ [16] (by decide +kernel) (by decide +kernel)
set_option maxRecDepth 20000 in
theorem gX6_present_X6_placeOf : GoodIn wsX6_present (wsV RX6 56 RX6 yX6_placeOf wsX6_placeOf) := goodIn_app (goodIn_of _ (by decide +kernel)) ggX6_present_X6_placeOf
set_option maxRecDepth 20000 in
theorem ggX6_allows_X6_originalOf : GoodIn wsX6_allows wsX6_originalOf := goodIn_r _ [6, 7, 8, 9, 10, 22, 23, 24, 25, 26, 27, 28, 29, 30] (by decide +kernel) (by decide +kernel)
set_option maxRecDepth 20000 in
theorem gX6_allows_X6_originalOf : GoodIn wsX6_allows (wsV RX6 52 RX6 yX6_originalOf wsX6_originalOf) := goodIn_app (goodIn_of _ (by decide +kernel)) ggX6_allows_X6_originalOf
set_option maxRecDepth 20000 in
theorem ggX6_allows_X6_present : GoodIn wsX6_allows wsX6_present := goodIn_r _ [14, 15, 16, 17, 2, 3, 4, 5, 6, 7, 8, 9, 10, 18, 19, 20, 21, 22, 23, 24, 25, 26, 27, 28, 29, 30] (by decide +kernel) (by decide +kernel)
set_option maxRecDepth 20000 in
theorem gX6_allows_X6_present : GoodIn wsX6_allows (wsV RX6 59 RX6 yX6_present wsX6_present) := goodIn_app (goodIn_of _ (by decide +kernel)) ggX6_allows_X6_present
set_option maxRecDepth 20000 in
theorem ggX6_allows_X7_at : GoodIn wsX6_allows wsX7_at := goodIn_r _ [10] (by decide +kernel) (by decide +kernel)
set_option maxRecDepth 20000 in
theorem gX6_allows_X7_at_n48 : GoodIn wsX6_allows (wsX7_at) := ggX6_allows_X7_at
set_option maxRecDepth 20000 in
theorem ggX6_roomForAlterations_X7_at : GoodIn wsX6_roomForAlterations wsX7_at := goodIn_r _ [4] (by decide +kernel) (by decide +kernel)
set_option maxRecDepth 20000 in
theorem gX6_roomForAlterations_X7_at_n48 : GoodIn wsX6_roomForAlterations (wsX7_at) := ggX6_roomForAlterations_X7_at
set_option maxRecDepth 20000 in
theorem ggX6_addAlteration_X7_at : GoodIn wsX6_addAlteration wsX7_at := goodIn_r _ [6] (by decide +kernel) (by decide +kernel)
set_option maxRecDepth 20000 in
theorem gX6_addAlteration_X7_at_n48 : GoodIn wsX6_addAlteration (wsX7_at) := ggX6_addAlteration_X7_at
set_option maxRecDepth 20000 in
theorem ggX6_addAlteration_X6_placeOf : GoodIn wsX6_addAlteration wsX6_placeOf := goodIn_r _ [11] (by decide +kernel) (by decide +kernel)
set_option maxRecDepth 20000 in
theorem gX6_addAlteration_X6_placeOf : GoodIn wsX6_addAlteration (wsV RX6 56 RX6 yX6_placeOf wsX6_placeOf) := goodIn_app (goodIn_of _ (by decide +kernel)) ggX6_addAlteration_X6_placeOf
set_option maxRecDepth 20000 in
theorem ggX6_addAlteration_X7_put : GoodIn wsX6_addAlteration wsX7_put := goodIn_r _ [13] (by decide +kernel) (by decide +kernel)
set_option maxRecDepth 20000 in
theorem gX6_addAlteration_X7_put_n44 : GoodIn wsX6_addAlteration (wsX7_put) := ggX6_addAlteration_X7_put
set_option maxRecDepth 20000 in
theorem ggX6_removeAlteration_X7_at : GoodIn wsX6_removeAlteration wsX7_at := goodIn_r _ [5] (by decide +kernel) (by decide +kernel)
set_option maxRecDepth 20000 in
theorem gX6_removeAlteration_X7_at_n48 : GoodIn wsX6_removeAlteration (wsX7_at) := ggX6_removeAlteration_X7_at
set_option maxRecDepth 20000 in
theorem ggX6_removeAlteration_X7_put : GoodIn wsX6_removeAlteration wsX7_put := goodIn_r _ [7] (by decide +kernel) (by decide +kernel)
set_option maxRecDepth 20000 in
theorem gX6_removeAlteration_X7_put_n44 : GoodIn wsX6_removeAlteration (wsX7_put) := ggX6_removeAlteration_X7_put
set_option maxRecDepth 20000 in
theorem ggX6_removeAlteration_X6_placeOf : GoodIn wsX6_removeAlteration wsX6_placeOf := goodIn_r _ [12] (by decide +kernel) (by decide +kernel)
set_option maxRecDepth 20000 in
theorem gX6_removeAlteration_X6_placeOf : GoodIn wsX6_removeAlteration (wsV RX6 56 RX6 yX6_placeOf wsX6_placeOf) := goodIn_app (goodIn_of _ (by decide +kernel)) ggX6_removeAlteration_X6_placeOf
set_option maxRecDepth 20000 in
theorem ggX6_canBeWashed_X7_at : GoodIn wsX6_canBeWashed wsX7_at := goodIn_r _ [4] (by decide +kernel) (by decide +kernel)
set_option maxRecDepth 20000 in
theorem gX6_canBeWashed_X7_at_n48 : GoodIn wsX6_canBeWashed (wsX7_at) := ggX6_canBeWashed_X7_at
set_option maxRecDepth 20000 in
theorem ggX6_canBeWashed_X7_isIn : GoodIn wsX6_canBeWashed wsX7_isIn := goodIn_r _ [6] (by decide +kernel) (by decide +kernel)
set_option maxRecDepth 20000 in
theorem gX6_canBeWashed_X7_isIn_n65 : GoodIn wsX6_canBeWashed (wsX7_isIn) := ggX6_canBeWashed_X7_isIn
set_option maxRecDepth 20000 in
theorem ggX6_soil_X7_at : GoodIn wsX6_soil wsX7_at := goodIn_r _ [8] (by decide +kernel) (by decide +kernel)
set_option maxRecDepth 20000 in
theorem gX6_soil_X7_at_n48 : GoodIn wsX6_soil (wsX7_at) := ggX6_soil_X7_at
set_option maxRecDepth 20000 in
theorem ggX6_soil_X7_put : GoodIn wsX6_soil wsX7_put := goodIn_r _ [10] (by decide +kernel) (by decide +kernel)
set_option maxRecDepth 20000 in
theorem gX6_soil_X7_put_n44 : GoodIn wsX6_soil (wsX7_put) := ggX6_soil_X7_put
set_option maxRecDepth 20000 in
theorem ggX6_clean_X7_isIn : GoodIn wsX6_clean wsX7_isIn := goodIn_r _ [9] (by decide +kernel) (by decide +kernel)
set_option maxRecDepth 20000 in
theorem gX6_clean_X7_isIn_n65 : GoodIn wsX6_clean (wsX7_isIn) := ggX6_clean_X7_isIn
set_option maxRecDepth 20000 in
theorem ggX6_clean_X7_at : GoodIn wsX6_clean wsX7_at := goodIn_r _ [11] (by decide +kernel) (by decide +kernel)
set_option maxRecDepth 20000 in
theorem gX6_clean_X7_at_n48 : GoodIn wsX6_clean (wsX7_at) := ggX6_clean_X7_at
set_option maxRecDepth 20000 in
theorem ggX6_clean_X7_put : GoodIn wsX6_clean wsX7_put := goodIn_r _ [13] (by decide +kernel) (by decide +kernel)
set_option maxRecDepth 20000 in
theorem gX6_clean_X7_put_n44 : GoodIn wsX6_clean (wsX7_put) := ggX6_clean_X7_put
set_option maxRecDepth 20000 in
theorem ggX7_init_X4_init : GoodIn wsX7_init wsX4_init := goodIn_r _ [21, 22, 2, 3, 23, 24, 25, 26, 27, 28, 29, 30, 31, 32, 33, 34, 35, 36, 37, 38, 39, 40, 41, 42, 43, 44, 45, 46, 47, 48, 49, 50, 51, 52, 53, 54, 55, 56, 57, 58, 59, 60, 103, 104, 105, 106, 107, 108, 109, 110, 111, 77, 78, 79, 80, 81, 82, 83, 84, 85, 112, 113, 114, 115, 116, 117, 118, 119, 120] (by decide +kernel) (by decide +kernel)
set_option maxRecDepth 20000 in
theorem gX7_init_X4_init_n9 : GoodIn wsX7_init (wsX4_init) := ggX7_init_X4_init
set_option maxRecDepth 20000 in
theorem ggX7_init_X2_init : GoodIn wsX7_init wsX2_init := goodIn_r _ [63, 64, 2, 3, 65, 66, 5, 6, 20, 21, 22, 23, 24, 25, 26, 27, 28, 29, 30, 31, 32, 33, 34, 35, 36, 37, 38, 39, 40, 41, 42, 43, 44, 45, 46, 47, 48, 49, 50, 51, 52, 53, 54, 55, 56, 57, 58, 59, 60, 90, 91, 92, 77, 78, 79, 80, 81, 82, 83, 84, 85, 103, 104, 105, 106, 107, 108, 109, 110, 111, 112, 113, 114, 115, 116, 117, 118, 119, 120] (by decide +kernel) (by decide +kernel)
set_option maxRecDepth 20000 in
theorem gX7_init_X2_init : GoodIn wsX7_init (wsX2_init) := ggX7_init_X2_init
set_option maxRecDepth 20000 in
theorem ggX7_init_X5_init : GoodIn wsX7_init wsX5_init := goodIn_r _ [68, 69, 2, 3, 35, 70, 93, 94] (by decide +kernel) (by decide +kernel)
set_option maxRecDepth 20000 in
theorem gX7_init_X5_init_n25 : GoodIn wsX7_init (wsX5_init) := ggX7_init_X5_init
set_option maxRecDepth 20000 in
theorem ggX7_init_X3_init : GoodIn wsX7_init wsX3_init := goodIn_r _ [73, 74, 2, 3, 75, 35, 76, 95, 96, 97, 98, 99, 100, 101, 102] (by decide +kernel) (by decide +kernel)
set_option maxRecDepth 20000 in
theorem gX7_init_X3_init : GoodIn wsX7_init (wsX3_init) := ggX7_init_X3_init
set_option maxRecDepth 20000 in
theorem ggX7_addCostume_X7_areMeasures : GoodIn wsX7_addCostume wsX7_areMeasures := goodIn_r _ [8, 9, 10, 7, 11] (by decide +kernel) (by decide +kernel)
set_option maxRecDepth 20000 in
theorem gX7_addCostume_X7_areMeasures : GoodIn wsX7_addCostume (va_wsS RX7 39 yX7_areMeasures wsX7_areMeasures) := goodIn_app (goodIn_of _ (by decide +kernel)) ggX7_addCostume_X7_areMeasures
set_option maxRecDepth 20000 in
theorem ggX7_addCostume_X7_isWithin : GoodIn wsX7_addCostume wsX7_isWithin := goodIn_r _ [11] (by decide +kernel) (by decide +kernel)
set_option maxRecDepth 20000 in
theorem gX7_addCostume_X7_isWithin : GoodIn wsX7_addCostume (va_wsS RX7 43 yX7_isWithin wsX7_isWithin) := goodIn_app (goodIn_of _ (by decide +kernel)) ggX7_addCostume_X7_isWithin
set_option maxRecDepth 20000 in
theorem ggX7_addCostume_X2_remember : GoodIn wsX7_addCostume wsX2_remember := goodIn_r _ [16, 17, 18, 19, 20, 21, 22, 23, 24, 25, 15, 26, 27, 28, 29, 30, 31, 32, 33, 34, 35, 36, 37, 38, 39, 40, 41, 42, 43, 44, 45, 46, 47, 48, 49, 50, 51, 52, 53, 54, 55, 56, 7, 57, 58, 59, 60, 61, 62, 63, 64, 65, 66, 67, 68, 69, 70, 71, 72, 73, 74, 75, 76, 77, 78, 79, 80, 81, 110, 111, 112, 92, 93, 94, 95, 96, 97, 98, 99, 100, 101, 102, 103, 104, 105, 106, 107, 108, 109, 113, 114, 115, 116, 117, 118, 119, 120, 121] (by decide +kernel) (by decide +kernel)
set_option maxRecDepth 20000 in
theorem gX7_addCostume_X2_remember : GoodIn wsX7_addCostume (wsV RX7 56 RX2 yX2_remember wsX2_remember) := goodIn_app (goodIn_of _ (by decide +kernel)) ggX7_addCostume_X2_remember
set_option maxRecDepth 20000 in
theorem ggX7_addCostume_X6_add : GoodIn wsX7_addCostume wsX6_add := goodIn_r _ [85, 47, 48, 49, 50, 51, 52, 53, 86, 7, 87, 101, 102, 103, 104, 105, 106, 107, 108, 109] (by decide +kernel) (by decide +kernel)
set_option maxRecDepth 20000 in
theorem gX7_addCostume_X6_add : GoodIn wsX7_addCostume (wsV RX7 60 RX6 yX6_add wsX6_add) := goodIn_app (goodIn_of _ (by decide +kernel)) ggX7_addCostume_X6_add
set_option maxRecDepth 20000 in
theorem ggX7_setColor_X6_has : GoodIn wsX7_setColor wsX6_has := goodIn_r _ [9, 10, 102, 103, 104, 105, 106, 107, 108, 109, 110] (by decide +kernel) (by decide +kernel)
set_option maxRecDepth 20000 in
theorem gX7_setColor_X6_has : GoodIn wsX7_setColor (wsV RX7 64 RX6 yX6_has wsX6_has) := goodIn_app (goodIn_of _ (by decide +kernel)) ggX7_setColor_X6_has
set_option maxRecDepth 20000 in
theorem ggX7_setColor_X7_isWithin : GoodIn wsX7_setColor wsX7_isWithin := goodIn_r _ [14] (by decide +kernel) (by decide +kernel)
set_option maxRecDepth 20000 in
theorem gX7_setColor_X7_isWithin : GoodIn wsX7_setColor (va_wsS RX7 43 yX7_isWithin wsX7_isWithin) := goodIn_app (goodIn_of _ (by decide +kernel)) ggX7_setColor_X7_isWithin
set_option maxRecDepth 20000 in
theorem ggX7_setColor_X2_remember : GoodIn wsX7_setColor wsX2_remember := goodIn_r _ [19, 20, 21, 22, 23, 24, 25, 26, 27, 28, 18, 29, 30, 31, 32, 33, 34, 35, 36, 37, 38, 39, 40, 41, 42, 43, 44, 45, 46, 47, 8, 48, 10, 49, 50, 51, 52, 53, 54, 55, 56, 57, 13, 58, 59, 60, 61, 62, 63, 64, 65, 66, 67, 68, 69, 70, 71, 72, 73, 74, 75, 76, 77, 78, 79, 80, 81, 82, 111, 112, 113, 93, 94, 95, 96, 97, 98, 99, 100, 101, 102, 103, 104, 105, 106, 107, 108, 109, 110, 114, 115, 116, 117, 118, 119, 120, 121, 122] (by decide +kernel) (by decide +kernel)
set_option maxRecDepth 20000 in
theorem gX7_setColor_X2_remember : GoodIn wsX7_setColor (wsV RX7 56 RX2 yX2_remember wsX2_remember) := goodIn_app (goodIn_of _ (by decide +kernel)) ggX7_setColor_X2_remember
set_option maxRecDepth 20000 in
theorem ggX7_setColor_X7_at : GoodIn wsX7_setColor wsX7_at := goodIn_r _ [85] (by decide +kernel) (by decide +kernel)
set_option maxRecDepth 20000 in
theorem gX7_setColor_X7_at : GoodIn wsX7_setColor (va_wsS RX7 72 yX7_at wsX7_at) := goodIn_app (goodIn_of _ (by decide +kernel)) ggX7_setColor_X7_at
set_option maxRecDepth 20000 in
theorem ggX7_setColor_X7_put : GoodIn wsX7_setColor wsX7_put := goodIn_r _ [88] (by decide +kernel) (by decide +kernel)
set_option maxRecDepth 20000 in
theorem gX7_setColor_X7_put : GoodIn wsX7_setColor (va_wsS RX7 76 yX7_put wsX7_put) := goodIn_app (goodIn_of _ (by decide +kernel)) ggX7_setColor_X7_put
set_option maxRecDepth 20000 in
theorem ggX7_addActor_X7_areMeasures : GoodIn wsX7_addActor wsX7_areMeasures := goodIn_r _ [8, 9, 10, 7, 11] (by decide +kernel) (by decide +kernel)
set_option maxRecDepth 20000 in
theorem gX7_addActor_X7_areMeasures : GoodIn wsX7_addActor (va_wsS RX7 39 yX7_areMeasures wsX7_areMeasures) := goodIn_app (goodIn_of _ (by decide +kernel)) ggX7_addActor_X7_areMeasures
set_option maxRecDepth 20000 in
theorem ggX7_addActor_X2_remember : GoodIn wsX7_addActor wsX2_remember := goodIn_r _ [16, 17, 18, 19, 20, 21, 22, 23, 24, 25, 15, 26, 27, 28, 29, 30, 31, 32, 33, 34, 35, 36, 37, 38, 39, 40, 41, 42, 43, 44, 45, 46, 47, 48, 49, 50, 51, 52, 53, 54, 55, 56, 7, 57, 58, 59, 60, 61, 62, 63, 64, 65, 66, 67, 68, 69, 70, 71, 72, 73, 74, 75, 76, 77, 78, 79, 80, 81, 104, 105, 106, 92, 93, 94, 95, 96, 97, 98, 99, 100, 107, 108, 109, 110, 111, 112, 113, 114, 115, 101, 102, 103, 116, 117, 118, 119, 120, 121] (by decide +kernel) (by decide +kernel)
set_option maxRecDepth 20000 in
theorem gX7_addActor_X2_remember : GoodIn wsX7_addActor (wsV RX7 56 RX2 yX2_remember wsX2_remember) := goodIn_app (goodIn_of _ (by decide +kernel)) ggX7_addActor_X2_remember
set_option maxRecDepth 20000 in
theorem ggX7_addActor_X0_add : GoodIn wsX7_addActor wsX0_add := goodIn_r _ [85, 68, 69, 70, 86, 7, 87, 101, 102, 103] (by decide +kernel) (by decide +kernel)
set_option maxRecDepth 20000 in
theorem gX7_addActor_X0_add : GoodIn wsX7_addActor (wsV RX7 87 RX0 yX0_add wsX0_add) := goodIn_app (goodIn_of _ (by decide +kernel)) ggX7_addActor_X0_add
set_option maxRecDepth 20000 in
theorem ggX7_set_X7_isWithin : GoodIn wsX7_set wsX7_isWithin := goodIn_r _ [7] (by decide +kernel) (by decide +kernel)
set_option maxRecDepth 20000 in
theorem gX7_set_X7_isWithin : GoodIn wsX7_set (va_wsS RX7 43 yX7_isWithin wsX7_isWithin) := goodIn_app (goodIn_of _ (by decide +kernel)) ggX7_set_X7_isWithin
set_option maxRecDepth 20000 in
theorem ggX7_set_X7_isSetting : GoodIn wsX7_set wsX7_isSetting := goodIn_r _ [10, 4, 5, 6, 7] (by decide +kernel) (by decide +kernel)
set_option maxRecDepth 20000 in
theorem gX7_set_X7_isSetting : GoodIn wsX7_set (va_wsS RX7 90 yX7_isSetting wsX7_isSetting) := goodIn_app (goodIn_of _ (by decide +kernel)) ggX7_set_X7_isSetting
set_option maxRecDepth 20000 in
theorem ggX7_set_X2_remember : GoodIn wsX7_set wsX2_remember := goodIn_r _ [15, 16, 17, 18, 19, 20, 21, 22, 23, 24, 14, 25, 26, 27, 28, 29, 30, 31, 32, 33, 34, 35, 36, 37, 38, 39, 40, 41, 42, 43, 44, 45, 46, 47, 48, 49, 50, 51, 52, 53, 54, 55, 6, 56, 57, 58, 59, 60, 61, 62, 63, 64, 65, 66, 67, 68, 69, 70, 71, 72, 73, 74, 75, 76, 77, 78, 79, 80, 100, 101, 102, 91, 92, 93, 94, 95, 96, 97, 98, 99, 103, 104, 105, 106, 107, 108, 109, 110, 111, 112, 113, 114, 115, 116, 117, 118, 119, 120] (by decide +kernel) (by decide +kernel)
set_option maxRecDepth 20000 in
theorem gX7_set_X2_remember : GoodIn wsX7_set (wsV RX7 56 RX2 yX2_remember wsX2_remember) := goodIn_app (goodIn_of _ (by decide +kernel)) ggX7_set_X2_remember
set_option maxRecDepth 20000 in
theorem ggX7_set_X7_at : GoodIn wsX7_set wsX7_at := goodIn_r _ [83] (by decide +kernel) (by decide +kernel)
set_option maxRecDepth 20000 in
theorem gX7_set_X7_at : GoodIn wsX7_set (va_wsS RX7 72 yX7_at wsX7_at) := goodIn_app (goodIn_of _ (by decide +kernel)) ggX7_set_X7_at
set_option maxRecDepth 20000 in
theorem ggX7_set_X7_put : GoodIn wsX7_set wsX7_put := goodIn_r _ [86] (by decide +kernel) (by decide +kernel)
set_option maxRecDepth 20000 in
theorem gX7_set_X7_put : GoodIn wsX7_set (va_wsS RX7 76 yX7_put wsX7_put) := goodIn_app (goodIn_of _ (by decide +kernel)) ggX7_set_X7_put
set_option maxRecDepth 20000 in
theorem ggX7_alter_X6_has : GoodIn wsX7_alter wsX6_has := goodIn_r _ [13, 14, 139, 140, 141, 142, 143, 144, 145, 146, 147] (by decide +kernel) (by decide +kernel)
set_option maxRecDepth 20000 in
theorem gX7_alter_X6_has : GoodIn wsX7_alter (wsV RX7 64 RX6 yX6_has wsX6_has) := goodIn_app (goodIn_of _ (by decide +kernel)) ggX7_alter_X6_has
set_option maxRecDepth 20000 in
theorem ggX7_alter_X7_isWithin : GoodIn wsX7_alter wsX7_isWithin := goodIn_r _ [18] (by decide +kernel) (by decide +kernel)
set_option maxRecDepth 20000 in
theorem gX7_alter_X7_isWithin : GoodIn wsX7_alter (va_wsS RX7 43 yX7_isWithin wsX7_isWithin) := goodIn_app (goodIn_of _ (by decide +kernel)) ggX7_alter_X7_isWithin
set_option maxRecDepth 20000 in
theorem ggX7_alter_X4_isAway : GoodIn wsX7_alter wsX4_isAway := goodIn_r _ [23, 24, 25, 26, 27, 28, 29, 30, 31, 32, 33, 34, 17, 35, 36, 37, 38, 39, 40, 130, 131, 132, 133, 134, 135, 136, 137, 138, 148, 149, 150, 151, 152, 153] (by decide +kernel) (by decide +kernel)
set_option maxRecDepth 20000 in
theorem gX7_alter_X4_isAway : GoodIn wsX7_alter (wsV RX7 97 RX4 yX4_isAway wsX4_isAway) := goodIn_app (goodIn_of _ (by decide +kernel)) ggX7_alter_X4_isAway
set_option maxRecDepth 20000 in
theorem ggX7_alter_X6_allows : GoodIn wsX7_alter wsX6_allows := goodIn_r _ [44, 45, 46, 47, 48, 12, 49, 50, 34, 17, 35, 51, 52, 53, 54, 55, 56, 57, 58, 59, 60, 61, 139, 140, 141, 142, 143, 144, 145, 146, 147] (by decide +kernel) (by decide +kernel)
set_option maxRecDepth 20000 in
theorem gX7_alter_X6_allows : GoodIn wsX7_alter (wsV RX7 100 RX6 yX6_allows wsX6_allows) := goodIn_app (goodIn_of _ (by decide +kernel)) ggX7_alter_X6_allows
set_option maxRecDepth 20000 in
theorem ggX7_alter_X6_roomForAlterations : GoodIn wsX7_alter wsX6_roomForAlterations := goodIn_r _ [65, 55, 34, 17, 35, 139, 140, 141, 142, 143, 144, 145, 146, 147] (by decide +kernel) (by decide +kernel)
set_option maxRecDepth 20000 in
theorem gX7_alter_X6_roomForAlterations : GoodIn wsX7_alter (wsV RX7 103 RX6 yX6_roomForAlterations wsX6_roomForAlterations) := goodIn_app (goodIn_of _ (by decide +kernel)) ggX7_alter_X6_roomForAlterations
set_option maxRecDepth 20000 in
theorem ggX7_alter_X2_remember : GoodIn wsX7_alter wsX2_remember := goodIn_r _ [70, 71, 72, 73, 74, 6, 75, 76, 77, 78, 69, 79, 80, 81, 82, 83, 22, 84, 85, 86, 24, 87, 25, 88, 89, 90, 91, 92, 93, 94, 12, 95, 14, 50, 45, 96, 97, 98, 55, 56, 57, 99, 17, 100, 101, 102, 103, 104, 105, 106, 107, 108, 109, 110, 111, 112, 113, 114, 115, 116, 29, 117, 31, 32, 33, 40, 118, 119, 154, 155, 156, 130, 131, 132, 133, 134, 135, 136, 137, 138, 139, 140, 141, 142, 143, 144, 145, 146, 147, 157, 158, 159, 148, 149, 150, 151, 152, 153] (by decide +kernel) (by decide +kernel)
set_option maxRecDepth 20000 in
theorem gX7_alter_X2_remember : GoodIn wsX7_alter (wsV RX7 56 RX2 yX2_remember wsX2_remember) := goodIn_app (goodIn_of _ (by decide +kernel)) ggX7_alter_X2_remember
set_option maxRecDepth 20000 in
theorem ggX7_alter_X6_addAlteration : GoodIn wsX7_alter wsX6_addAlteration := goodIn_r _ [123, 55, 56, 57, 34, 17, 35, 58, 59, 60, 12, 61, 124, 125, 139, 140, 141, 142, 143, 144, 145, 146, 147] (by decide +kernel) (by decide +kernel)
set_option maxRecDepth 20000 in
theorem gX7_alter_X6_addAlteration : GoodIn wsX7_alter (wsV RX7 107 RX6 yX6_addAlteration wsX6_addAlteration) := goodIn_app (goodIn_of _ (by decide +kernel)) ggX7_alter_X6_addAlteration
set_option maxRecDepth 20000 in
theorem ggX7_unpick_X6_has : GoodIn wsX7_unpick wsX6_has := goodIn_r _ [14, 15, 122, 123, 124, 125, 126, 127, 128, 129, 130] (by decide +kernel) (by decide +kernel)
set_option maxRecDepth 20000 in
theorem gX7_unpick_X6_has : GoodIn wsX7_unpick (wsV RX7 64 RX6 yX6_has wsX6_has) := goodIn_app (goodIn_of _ (by decide +kernel)) ggX7_unpick_X6_has
set_option maxRecDepth 20000 in
theorem ggX7_unpick_X4_isAway : GoodIn wsX7_unpick wsX4_isAway := goodIn_r _ [20, 21, 22, 23, 24, 25, 26, 27, 28, 29, 30, 31, 32, 33, 34, 35, 36, 37, 38, 113, 114, 115, 116, 117, 118, 119, 120, 121, 131, 132, 133, 134, 135, 136] (by decide +kernel) (by decide +kernel)
set_option maxRecDepth 20000 in
theorem gX7_unpick_X4_isAway : GoodIn wsX7_unpick (wsV RX7 97 RX4 yX4_isAway wsX4_isAway) := goodIn_app (goodIn_of _ (by decide +kernel)) ggX7_unpick_X4_isAway
set_option maxRecDepth 20000 in
theorem ggX7_unpick_X7_at : GoodIn wsX7_unpick wsX7_at := goodIn_r _ [33] (by decide +kernel) (by decide +kernel)
set_option maxRecDepth 20000 in
theorem gX7_unpick_X7_at : GoodIn wsX7_unpick (va_wsS RX7 72 yX7_at wsX7_at) := goodIn_app (goodIn_of _ (by decide +kernel)) ggX7_unpick_X7_at
set_option maxRecDepth 20000 in
theorem ggX7_unpick_X2_remember : GoodIn wsX7_unpick wsX2_remember := goodIn_r _ [44, 45, 46, 47, 48, 7, 49, 50, 51, 52, 43, 53, 54, 55, 56, 57, 19, 58, 59, 60, 21, 61, 22, 62, 63, 64, 65, 66, 67, 68, 13, 69, 15, 70, 71, 72, 73, 74, 75, 76, 77, 78, 32, 79, 80, 81, 82, 83, 84, 85, 86, 87, 88, 89, 90, 91, 92, 93, 94, 95, 26, 96, 28, 29, 30, 38, 97, 98, 137, 138, 139, 113, 114, 115, 116, 117, 118, 119, 120, 121, 122, 123, 124, 125, 126, 127, 128, 129, 130, 140, 141, 142, 131, 132, 133, 134, 135, 136] (by decide +kernel) (by decide +kernel)
set_option maxRecDepth 20000 in
theorem gX7_unpick_X2_remember : GoodIn wsX7_unpick (wsV RX7 56 RX2 yX2_remember wsX2_remember) := goodIn_app (goodIn_of _ (by decide +kernel)) ggX7_unpick_X2_remember
set_option maxRecDepth 20000 in
theorem ggX7_unpick_X6_removeAlteration : GoodIn wsX7_unpick wsX6_removeAlteration := goodIn_r _ [102, 75, 77, 31, 32, 33, 103, 104, 105, 106, 107, 13, 108, 122, 123, 124, 125, 126, 127, 128, 129, 130] (by decide +kernel) (by decide +kernel)
set_option maxRecDepth 20000 in
theorem gX7_unpick_X6_removeAlteration : GoodIn wsX7_unpick (wsV RX7 122 RX6 yX6_removeAlteration wsX6_removeAlteration) := goodIn_app (goodIn_of _ (by decide +kernel)) ggX7_unpick_X6_removeAlteration
set_option maxRecDepth 20000 in
theorem ggX7_append_X7_isWithin : GoodIn wsX7_append wsX7_isWithin := goodIn_r _ [6] (by decide +kernel) (by decide +kernel)
set_option maxRecDepth 20000 in
theorem gX7_append_X7_isWithin : GoodIn wsX7_append (va_wsS RX7 43 yX7_isWithin wsX7_isWithin) := goodIn_app (goodIn_of _ (by decide +kernel)) ggX7_append_X7_isWithin
set_option maxRecDepth 20000 in
theorem ggX7_append_X5_add : GoodIn wsX7_append wsX5_add := goodIn_r _ [11, 12, 13, 14, 5, 15, 20, 21] (by decide +kernel) (by decide +kernel)
set_option maxRecDepth 20000 in
theorem gX7_append_X5_add : GoodIn wsX7_append (wsV RX7 128 RX5 yX5_add wsX5_add) := goodIn_app (goodIn_of _ (by decide +kernel)) ggX7_append_X5_add
set_option maxRecDepth 20000 in
theorem ggX7_load_X3_readAll : GoodIn wsX7_load wsX3_readAll := goodIn_r _ [15, 16, 17, 18, 19, 20, 21, 22, 23, 14, 24, 25, 26, 27, 28, 29, 30, 31, 32, 33, 34, 35, 36, 37, 38, 39, 40, 41, 42, 43, 44, 45, 46, 47, 48, 49, 50, 51, 52, 53, 54, 55, 56, 57, 58, 59, 60, 61, 62, 63, 64, 65, 66, 67, 68, 69, 70, 71, 72, 73, 74, 75, 76, 77, 78, 79, 80, 81, 82, 83, 84, 85, 86, 87, 88, 89, 90, 91, 92, 93, 94, 95, 96, 97, 98, 99, 100, 101, 102, 103, 104, 105, 106, 107, 108, 109, 110, 111, 112, 113, 114, 115, 116, 231, 232, 233, 234, 235, 236, 237, 238, 239, 240] (by decide +kernel) (by decide +kernel)
set_option maxRecDepth 20000 in
theorem gX7_load_X3_readAll : GoodIn wsX7_load (wsV RX7 134 RX3 yX3_readAll wsX3_readAll) := goodIn_app (goodIn_of _ (by decide +kernel)) ggX7_load_X3_readAll
set_option maxRecDepth 20000 in
theorem ggX7_load_X2_remember : GoodIn wsX7_load wsX2_remember := goodIn_r _ [121, 122, 123, 124, 111, 112, 113, 125, 126, 127, 120, 128, 129, 130, 131, 132, 133, 134, 135, 136, 137, 138, 139, 140, 141, 142, 143, 144, 145, 146, 147, 148, 149, 150, 151, 152, 153, 154, 155, 156, 157, 158, 30, 159, 160, 161, 162, 163, 164, 165, 166, 167, 168, 169, 170, 171, 172, 173, 174, 175, 176, 177, 178, 179, 180, 181, 182, 183, 241, 242, 243, 210, 211, 212, 213, 214, 215, 216, 217, 218, 219, 220, 221, 222, 223, 224, 225, 226, 227, 228, 229, 230, 244, 245, 246, 247, 248, 249] (by decide +kernel) (by decide +kernel)
set_option maxRecDepth 20000 in
theorem gX7_load_X2_remember : GoodIn wsX7_load (wsV RX7 56 RX2 yX2_remember wsX2_remember) := goodIn_app (goodIn_of _ (by decide +kernel)) ggX7_load_X2_remember
set_option maxRecDepth 20000 in
theorem ggX7_load_X7_addItem : GoodIn wsX7_load wsX7_addItem := goodIn_r _ [187, 1, 2, 5, 3, 188, 189, 190, 14, 191, 103, 29, 30, 31, 192, 193, 194, 168, 195, 170, 171, 172, 104, 105, 196, 197, 198, 147, 199, 149, 150, 151, 152, 153, 154, 155, 206, 207, 208, 209, 210, 211, 212, 213, 214, 215, 216, 217, 218, 231, 232, 233, 234, 235, 236, 237, 238, 228, 229, 230, 219, 220, 221, 222, 223, 224, 225, 226, 227] (by decide +kernel) (by decide +kernel)
set_option maxRecDepth 20000 in
theorem gX7_load_X7_addItem : GoodIn wsX7_load (wsV RX7 143 RX7 yX7_addItem wsX7_addItem) := goodIn_app (goodIn_of _ (by decide +kernel)) ggX7_load_X7_addItem
set_option maxRecDepth 20000 in
theorem ggX7_load_X5_empty : GoodIn wsX7_load wsX5_empty := goodIn_r _ [204, 205, 239, 240] (by decide +kernel) (by decide +kernel)
set_option maxRecDepth 20000 in
theorem gX7_load_X5_empty : GoodIn wsX7_load (wsV RX7 130 RX5 yX5_empty wsX5_empty) := goodIn_app (goodIn_of _ (by decide +kernel)) ggX7_load_X5_empty
set_option maxRecDepth 20000 in
theorem ggX7_addItem_X3_part : GoodIn wsX7_addItem wsX3_part := goodIn_r _ [9, 10, 11, 12, 13, 49, 50, 51, 52, 53, 54, 55, 56] (by decide +kernel) (by decide +kernel)
set_option maxRecDepth 20000 in
theorem gX7_addItem_X3_part : GoodIn wsX7_addItem (wsV RX7 147 RX3 yX3_part wsX3_part) := goodIn_app (goodIn_of _ (by decide +kernel)) ggX7_addItem_X3_part
set_option maxRecDepth 20000 in
theorem ggX7_addItem_X0_add : GoodIn wsX7_addItem wsX0_add := goodIn_r _ [18, 19, 20, 21, 22, 12, 23, 57, 58, 59] (by decide +kernel) (by decide +kernel)
set_option maxRecDepth 20000 in
theorem gX7_addItem_X0_add : GoodIn wsX7_addItem (wsV RX7 87 RX0 yX0_add wsX0_add) := goodIn_app (goodIn_of _ (by decide +kernel)) ggX7_addItem_X0_add
set_option maxRecDepth 20000 in
theorem ggX7_addItem_X6_add : GoodIn wsX7_addItem wsX6_add := goodIn_r _ [28, 29, 30, 31, 32, 33, 34, 35, 22, 12, 23, 60, 61, 62, 63, 64, 65, 66, 67, 68] (by decide +kernel) (by decide +kernel)
set_option maxRecDepth 20000 in
theorem gX7_addItem_X6_add : GoodIn wsX7_addItem (wsV RX7 60 RX6 yX6_add wsX6_add) := goodIn_app (goodIn_of _ (by decide +kernel)) ggX7_addItem_X6_add
set_option maxRecDepth 20000 in
theorem ggX7_wear_X7_isWithin : GoodIn wsX7_wear wsX7_isWithin := goodIn_r _ [8] (by decide +kernel) (by decide +kernel)
set_option maxRecDepth 20000 in
theorem gX7_wear_X7_isWithin : GoodIn wsX7_wear (va_wsS RX7 43 yX7_isWithin wsX7_isWithin) := goodIn_app (goodIn_of _ (by decide +kernel)) ggX7_wear_X7_isWithin
set_option maxRecDepth 20000 in
theorem ggX7_wear_X0_has : GoodIn wsX7_wear wsX0_has := goodIn_r _ [13, 14, 112, 113, 114] (by decide +kernel) (by decide +kernel)
set_option maxRecDepth 20000 in
theorem gX7_wear_X0_has : GoodIn wsX7_wear (wsV RX7 151 RX0 yX0_has wsX0_has) := goodIn_app (goodIn_of _ (by decide +kernel)) ggX7_wear_X0_has
set_option maxRecDepth 20000 in
theorem ggX7_wear_X6_has : GoodIn wsX7_wear wsX6_has := goodIn_r _ [19, 20, 115, 116, 117, 118, 119, 120, 121, 122, 123] (by decide +kernel) (by decide +kernel)
set_option maxRecDepth 20000 in
theorem gX7_wear_X6_has : GoodIn wsX7_wear (wsV RX7 64 RX6 yX6_has wsX6_has) := goodIn_app (goodIn_of _ (by decide +kernel)) ggX7_wear_X6_has
set_option maxRecDepth 20000 in
theorem ggX7_wear_X2_remember : GoodIn wsX7_wear wsX2_remember := goodIn_r _ [25, 26, 27, 28, 29, 30, 31, 32, 33, 34, 24, 35, 36, 37, 38, 39, 40, 41, 42, 43, 44, 45, 46, 47, 48, 49, 50, 51, 52, 53, 18, 54, 20, 55, 56, 57, 58, 59, 60, 61, 62, 63, 7, 64, 65, 66, 67, 68, 69, 70, 71, 72, 12, 73, 14, 74, 75, 76, 77, 78, 79, 80, 81, 82, 83, 84, 85, 86, 124, 125, 126, 103, 104, 105, 106, 107, 108, 109, 110, 111, 115, 116, 117, 118, 119, 120, 121, 122, 123, 112, 113, 114, 127, 128, 129, 130, 131, 132] (by decide +kernel) (by decide +kernel)
set_option maxRecDepth 20000 in
theorem gX7_wear_X2_remember : GoodIn wsX7_wear (wsV RX7 56 RX2 yX2_remember wsX2_remember) := goodIn_app (goodIn_of _ (by decide +kernel)) ggX7_wear_X2_remember
set_option maxRecDepth 20000 in
theorem ggX7_wear_X0_dress : GoodIn wsX7_wear wsX0_dress := goodIn_r _ [90, 75, 91, 92, 93, 12, 94, 95, 7, 96, 97, 98, 112, 113, 114] (by decide +kernel) (by decide +kernel)
set_option maxRecDepth 20000 in
theorem gX7_wear_X0_dress : GoodIn wsX7_wear (wsV RX7 152 RX0 yX0_dress wsX0_dress) := goodIn_app (goodIn_of _ (by decide +kernel)) ggX7_wear_X0_dress
set_option maxRecDepth 20000 in
theorem ggX7_perform_X4_problemsOf : GoodIn wsX7_perform wsX4_problemsOf := goodIn_r _ [9, 10, 11, 12, 8, 13, 14, 15, 16, 17, 18, 19, 20, 21, 22, 23, 24, 25, 26, 27, 28, 29, 30, 31, 32, 33, 34, 35, 36, 37, 38, 39, 40, 41, 42, 43, 44, 45, 46, 47, 48, 49, 50, 51, 52, 53, 54, 55, 56, 57, 58, 59, 60, 61, 62, 63, 64, 65, 66, 67, 68, 69, 70, 71, 72, 73, 74, 75, 76, 77, 78, 79, 80, 81, 82, 83, 84, 85, 86, 87, 88, 89, 90, 91, 92, 93, 94, 95, 96, 97, 98, 99, 100, 101, 102, 103, 104, 173, 174, 175, 176, 177, 178, 179, 180, 181, 182, 183, 184, 185, 186, 187, 188, 189, 190, 191, 192, 193, 194, 195, 196, 197, 198, 199] (by decide +kernel) (by decide +kernel)
set_option maxRecDepth 20000 in
theorem gX7_perform_X4_problemsOf : GoodIn wsX7_perform (wsV RX7 155 RX4 yX4_problemsOf wsX4_problemsOf) := goodIn_app (goodIn_of _ (by decide +kernel)) ggX7_perform_X4_problemsOf
set_option maxRecDepth 20000 in
theorem ggX7_perform_X2_remember : GoodIn wsX7_perform wsX2_remember := goodIn_r _ [109, 110, 111, 112, 113, 52, 114, 115, 116, 117, 108, 118, 119, 120, 121, 122, 8, 123, 14, 16, 85, 58, 86, 124, 125, 126, 127, 128, 129, 130, 62, 131, 132, 71, 133, 134, 135, 136, 64, 65, 66, 137, 29, 138, 139, 140, 141, 142, 143, 144, 145, 146, 20, 147, 22, 80, 27, 148, 149, 150, 90, 151, 92, 93, 94, 99, 152, 153, 200, 201, 202, 173, 174, 175, 176, 177, 178, 179, 180, 181, 182, 183, 184, 185, 186, 187, 188, 189, 190, 191, 192, 193, 194, 195, 196, 197, 198, 199] (by decide +kernel) (by decide +kernel)
set_option maxRecDepth 20000 in
theorem gX7_perform_X2_remember : GoodIn wsX7_perform (wsV RX7 56 RX2 yX2_remember wsX2_remember) := goodIn_app (goodIn_of _ (by decide +kernel)) ggX7_perform_X2_remember
set_option maxRecDepth 20000 in
theorem ggX7_perform_X4_soilAll : GoodIn wsX7_perform wsX4_soilAll := goodIn_r _ [157, 14, 15, 16, 158, 159, 160, 20, 161, 39, 18, 19, 21, 22, 23, 24, 25, 26, 27, 28, 29, 30, 162, 163, 164, 62, 165, 136, 166, 113, 52, 114, 167, 168, 173, 174, 175, 176, 177, 178, 179, 180, 181, 182, 183, 184, 185, 186, 187, 188, 189, 190, 191, 192, 193] (by decide +kernel) (by decide +kernel)
set_option maxRecDepth 20000 in
theorem gX7_perform_X4_soilAll : GoodIn wsX7_perform (wsV RX7 161 RX4 yX4_soilAll wsX4_soilAll) := goodIn_app (goodIn_of _ (by decide +kernel)) ggX7_perform_X4_soilAll
set_option maxRecDepth 20000 in
theorem ggX7_pass_X7_isWithin : GoodIn wsX7_pass wsX7_isWithin := goodIn_r _ [7] (by decide +kernel) (by decide +kernel)
set_option maxRecDepth 20000 in
theorem gX7_pass_X7_isWithin : GoodIn wsX7_pass (va_wsS RX7 43 yX7_isWithin wsX7_isWithin) := goodIn_app (goodIn_of _ (by decide +kernel)) ggX7_pass_X7_isWithin
set_option maxRecDepth 20000 in
theorem ggX7_pass_X2_remember : GoodIn wsX7_pass wsX2_remember := goodIn_r _ [12, 13, 14, 15, 16, 17, 18, 19, 20, 21, 11, 22, 23, 24, 25, 26, 27, 28, 29, 30, 31, 32, 33, 34, 35, 36, 37, 38, 39, 40, 41, 42, 43, 44, 45, 46, 47, 48, 49, 50, 51, 52, 6, 53, 54, 55, 56, 57, 58, 59, 60, 61, 62, 63, 64, 65, 66, 67, 68, 69, 70, 71, 72, 73, 74, 75, 76, 77, 91, 92, 93, 82, 83, 84, 85, 86, 87, 88, 89, 90, 94, 95, 96, 97, 98, 99, 100, 101, 102, 103, 104, 105, 106, 107, 108, 109, 110, 111] (by decide +kernel) (by decide +kernel)
set_option maxRecDepth 20000 in
theorem gX7_pass_X2_remember : GoodIn wsX7_pass (wsV RX7 56 RX2 yX2_remember wsX2_remember) := goodIn_app (goodIn_of _ (by decide +kernel)) ggX7_pass_X2_remember
set_option maxRecDepth 20000 in
theorem ggX7_hire_X6_has : GoodIn wsX7_hire wsX6_has := goodIn_r _ [12, 13, 124, 125, 126, 127, 128, 129, 130, 131, 132] (by decide +kernel) (by decide +kernel)
set_option maxRecDepth 20000 in
theorem gX7_hire_X6_has : GoodIn wsX7_hire (wsV RX7 64 RX6 yX6_has wsX6_has) := goodIn_app (goodIn_of _ (by decide +kernel)) ggX7_hire_X6_has
set_option maxRecDepth 20000 in
theorem ggX7_hire_X7_isWithin : GoodIn wsX7_hire wsX7_isWithin := goodIn_r _ [17] (by decide +kernel) (by decide +kernel)
set_option maxRecDepth 20000 in
theorem gX7_hire_X7_isWithin : GoodIn wsX7_hire (va_wsS RX7 43 yX7_isWithin wsX7_isWithin) := goodIn_app (goodIn_of _ (by decide +kernel)) ggX7_hire_X7_isWithin
set_option maxRecDepth 20000 in
theorem ggX7_hire_X1_overlapping : GoodIn wsX7_hire wsX1_overlapping := goodIn_r _ [22, 23, 24, 25, 26, 16, 27, 28, 29, 30, 21, 31, 32, 118, 119, 120, 121, 122, 123] (by decide +kernel) (by decide +kernel)
set_option maxRecDepth 20000 in
theorem gX7_hire_X1_overlapping : GoodIn wsX7_hire (wsV RX7 171 RX1 yX1_overlapping wsX1_overlapping) := goodIn_app (goodIn_of _ (by decide +kernel)) ggX7_hire_X1_overlapping
set_option maxRecDepth 20000 in
theorem ggX7_hire_X2_remember : GoodIn wsX7_hire wsX2_remember := goodIn_r _ [37, 38, 39, 40, 41, 42, 43, 44, 45, 46, 36, 47, 48, 49, 50, 51, 52, 53, 54, 55, 56, 57, 58, 59, 60, 61, 62, 63, 64, 65, 11, 66, 13, 67, 68, 69, 70, 71, 72, 73, 74, 75, 16, 76, 77, 78, 79, 80, 81, 82, 83, 84, 85, 86, 87, 88, 89, 90, 91, 92, 21, 93, 23, 24, 25, 32, 94, 95, 133, 134, 135, 109, 110, 111, 112, 113, 114, 115, 116, 117, 124, 125, 126, 127, 128, 129, 130, 131, 132, 136, 137, 138, 118, 119, 120, 121, 122, 123] (by decide +kernel) (by decide +kernel)
set_option maxRecDepth 20000 in
theorem gX7_hire_X2_remember : GoodIn wsX7_hire (wsV RX7 56 RX2 yX2_remember wsX2_remember) := goodIn_app (goodIn_of _ (by decide +kernel)) ggX7_hire_X2_remember
set_option maxRecDepth 20000 in
theorem ggX7_hire_X1_add : GoodIn wsX7_hire wsX1_add := goodIn_r _ [99, 24, 23, 25, 32, 94, 95, 100, 101, 21, 102, 103, 16, 104, 118, 119, 120, 121, 122, 123] (by decide +kernel) (by decide +kernel)
set_option maxRecDepth 20000 in
theorem gX7_hire_X1_add : GoodIn wsX7_hire (wsV RX7 177 RX1 yX1_add wsX1_add) := goodIn_app (goodIn_of _ (by decide +kernel)) ggX7_hire_X1_add
set_option maxRecDepth 20000 in
theorem ggX7_endHire_X1_has : GoodIn wsX7_endHire wsX1_has := goodIn_r _ [10, 11, 113, 114, 115, 116, 117, 118] (by decide +kernel) (by decide +kernel)
set_option maxRecDepth 20000 in
theorem gX7_endHire_X1_has : GoodIn wsX7_endHire (wsV RX7 183 RX1 yX1_has wsX1_has) := goodIn_app (goodIn_of _ (by decide +kernel)) ggX7_endHire_X1_has
set_option maxRecDepth 20000 in
theorem ggX7_endHire_X1_canEnd : GoodIn wsX7_endHire wsX1_canEnd := goodIn_r _ [15, 16, 17, 18, 19, 20, 21, 22, 9, 23, 24, 113, 114, 115, 116, 117, 118] (by decide +kernel) (by decide +kernel)
set_option maxRecDepth 20000 in
theorem gX7_endHire_X1_canEnd : GoodIn wsX7_endHire (wsV RX7 184 RX1 yX1_canEnd wsX1_canEnd) := goodIn_app (goodIn_of _ (by decide +kernel)) ggX7_endHire_X1_canEnd
set_option maxRecDepth 20000 in
theorem ggX7_endHire_X2_remember : GoodIn wsX7_endHire wsX2_remember := goodIn_r _ [29, 30, 31, 32, 33, 34, 35, 36, 37, 38, 28, 39, 40, 41, 42, 43, 44, 45, 46, 47, 48, 49, 50, 51, 52, 53, 54, 55, 56, 57, 58, 59, 60, 61, 62, 63, 64, 65, 66, 67, 68, 69, 18, 70, 71, 72, 73, 74, 75, 76, 77, 78, 79, 80, 81, 82, 83, 84, 85, 86, 9, 87, 11, 88, 16, 24, 89, 90, 119, 120, 121, 104, 105, 106, 107, 108, 109, 110, 111, 112, 122, 123, 124, 125, 126, 127, 128, 129, 130, 131, 132, 133, 113, 114, 115, 116, 117, 118] (by decide +kernel) (by decide +kernel)
set_option maxRecDepth 20000 in
theorem gX7_endHire_X2_remember : GoodIn wsX7_endHire (wsV RX7 56 RX2 yX2_remember wsX2_remember) := goodIn_app (goodIn_of _ (by decide +kernel)) ggX7_endHire_X2_remember
set_option maxRecDepth 20000 in
theorem ggX7_endHire_X1_end : GoodIn wsX7_endHire wsX1_end := goodIn_r _ [94, 16, 90, 89, 24, 17, 18, 19, 95, 96, 9, 97, 98, 99, 113, 114, 115, 116, 117, 118] (by decide +kernel) (by decide +kernel)
set_option maxRecDepth 20000 in
theorem gX7_endHire_X1_end : GoodIn wsX7_endHire (wsV RX7 187 RX1 yX1_end wsX1_end) := goodIn_app (goodIn_of _ (by decide +kernel)) ggX7_endHire_X1_end
set_option maxRecDepth 20000 in
theorem ggX7_wash_X7_isProgram : GoodIn wsX7_wash wsX7_isProgram := goodIn_r _ [10, 11, 12, 9, 13] (by decide +kernel) (by decide +kernel)
set_option maxRecDepth 20000 in
theorem gX7_wash_X7_isProgram : GoodIn wsX7_wash (va_wsS RX7 190 yX7_isProgram wsX7_isProgram) := goodIn_app (goodIn_of _ (by decide +kernel)) ggX7_wash_X7_isProgram
set_option maxRecDepth 20000 in
theorem ggX7_wash_X7_isSetOfCostumes : GoodIn wsX7_wash wsX7_isSetOfCostumes := goodIn_r _ [17, 1, 5, 18, 130, 131, 132, 133, 134, 135, 136, 137, 138, 139, 140, 141, 142, 143, 144, 145, 146, 147, 148, 149, 150, 151] (by decide +kernel) (by decide +kernel)
set_option maxRecDepth 20000 in
theorem gX7_wash_X7_isSetOfCostumes : GoodIn wsX7_wash (wsV RX7 193 RX7 yX7_isSetOfCostumes wsX7_isSetOfCostumes) := goodIn_app (goodIn_of _ (by decide +kernel)) ggX7_wash_X7_isSetOfCostumes
set_option maxRecDepth 20000 in
theorem ggX7_wash_X4_allowsLoad : GoodIn wsX7_wash wsX4_allowsLoad := goodIn_r _ [23, 24, 25, 26, 27, 28, 29, 30, 31, 32, 33, 34, 9, 35, 36, 37, 38, 22, 39, 40, 41, 42, 43, 44, 45, 46, 47, 48, 49, 50, 51, 52, 53, 54, 55, 56, 57, 58, 59, 60, 61, 62, 134, 135, 136, 137, 138, 139, 140, 141, 142, 143, 144, 145, 146, 147, 148, 149, 150, 151, 152, 153, 154, 155, 156, 157] (by decide +kernel) (by decide +kernel)
set_option maxRecDepth 20000 in
theorem gX7_wash_X4_allowsLoad : GoodIn wsX7_wash (wsV RX7 196 RX4 yX4_allowsLoad wsX4_allowsLoad) := goodIn_app (goodIn_of _ (by decide +kernel)) ggX7_wash_X4_allowsLoad
set_option maxRecDepth 20000 in
theorem ggX7_wash_X2_remember : GoodIn wsX7_wash wsX2_remember := goodIn_r _ [67, 68, 69, 70, 71, 72, 73, 74, 75, 76, 66, 77, 78, 79, 80, 81, 22, 82, 24, 83, 40, 84, 41, 85, 86, 87, 88, 89, 90, 91, 60, 92, 93, 94, 95, 62, 96, 97, 98, 99, 100, 101, 9, 102, 103, 104, 105, 106, 107, 108, 109, 110, 111, 112, 113, 114, 115, 116, 117, 118, 45, 119, 47, 48, 49, 56, 120, 121, 158, 159, 160, 134, 135, 136, 137, 138, 139, 140, 141, 142, 143, 144, 145, 146, 147, 148, 149, 150, 151, 161, 162, 163, 152, 153, 154, 155, 156, 157] (by decide +kernel) (by decide +kernel)
set_option maxRecDepth 20000 in
theorem gX7_wash_X2_remember : GoodIn wsX7_wash (wsV RX7 56 RX2 yX2_remember wsX2_remember) := goodIn_app (goodIn_of _ (by decide +kernel)) ggX7_wash_X2_remember
set_option maxRecDepth 20000 in
theorem ggX7_wash_X7_at : GoodIn wsX7_wash wsX7_at := goodIn_r _ [51] (by decide +kernel) (by decide +kernel)
set_option maxRecDepth 20000 in
theorem gX7_wash_X7_at : GoodIn wsX7_wash (va_wsS RX7 72 yX7_at wsX7_at) := goodIn_app (goodIn_of _ (by decide +kernel)) ggX7_wash_X7_at
set_option maxRecDepth 20000 in
theorem ggX7_wash_X6_clean : GoodIn wsX7_wash wsX6_clean := goodIn_r _ [126, 93, 97, 127, 71, 72, 73, 34, 9, 35, 50, 51, 128, 129, 143, 144, 145, 146, 147, 148, 149, 150, 151] (by decide +kernel) (by decide +kernel)
set_option maxRecDepth 20000 in
theorem gX7_wash_X6_clean : GoodIn wsX7_wash (wsV RX7 208 RX6 yX6_clean wsX6_clean) := goodIn_app (goodIn_of _ (by decide +kernel)) ggX7_wash_X6_clean
set_option maxRecDepth 20000 in
theorem ggX7_undo_X2_restore : GoodIn wsX7_undo wsX2_restore := goodIn_r _ [8, 9, 10, 11, 12, 13, 7, 14, 15, 16, 17, 18, 19, 20, 21, 22, 23, 24, 25, 26, 27, 28, 29, 30, 31, 32, 33, 34, 35, 36, 37, 38, 39, 40, 41, 42, 43, 44, 45, 46, 47, 48, 49, 50, 51, 52, 53, 54, 55, 56, 57, 58, 59, 60, 61, 62, 63, 64, 65, 66, 67, 68, 69, 70, 71, 72, 73, 78, 79, 80, 81, 82, 83, 84, 85, 86, 87, 88, 89, 90, 91, 92, 93, 94, 95, 96, 97, 98, 99, 100, 101, 102, 103, 104, 105, 106, 107] (by decide +kernel) (by decide +kernel)
set_option maxRecDepth 20000 in
theorem gX7_undo_X2_restore : GoodIn wsX7_undo (wsV RX7 212 RX2 yX2_restore wsX2_restore) := goodIn_app (goodIn_of _ (by decide +kernel)) ggX7_undo_X2_restore
set_option maxRecDepth 20000 in
theorem ggX7_count_X0_quickChanges : GoodIn wsX7_count wsX0_quickChanges := goodIn_r _ [22, 23, 24, 25, 26, 21, 27, 28, 29, 30, 31, 84, 85, 86] (by decide +kernel) (by decide +kernel)
set_option maxRecDepth 20000 in
theorem gX7_count_X0_quickChanges : GoodIn wsX7_count (wsV RX7 215 RX0 yX0_quickChanges wsX0_quickChanges) := goodIn_app (goodIn_of _ (by decide +kernel)) ggX7_count_X0_quickChanges
set_option maxRecDepth 20000 in
theorem ggX7_count_X4_awayToday : GoodIn wsX7_count wsX4_awayToday := goodIn_r _ [36, 37, 38, 39, 40, 41, 35, 42, 43, 44, 45, 46, 47, 48, 49, 50, 51, 52, 29, 30, 31, 53, 54, 55, 56, 57, 66, 67, 68, 69, 70, 71, 72, 73, 74, 75, 76, 77, 78, 79, 80, 81, 82, 83, 87, 88, 89, 90, 91, 92] (by decide +kernel) (by decide +kernel)
set_option maxRecDepth 20000 in
theorem gX7_count_X4_awayToday : GoodIn wsX7_count (wsV RX7 218 RX4 yX4_awayToday wsX4_awayToday) := goodIn_app (goodIn_of _ (by decide +kernel)) ggX7_count_X4_awayToday
set_option maxRecDepth 20000 in
theorem ggX7_count_X7_isWithin : GoodIn wsX7_count wsX7_isWithin := goodIn_r _ [60] (by decide +kernel) (by decide +kernel)
set_option maxRecDepth 20000 in
theorem gX7_count_X7_isWithin : GoodIn wsX7_count (va_wsS RX7 43 yX7_isWithin wsX7_isWithin) := goodIn_app (goodIn_of _ (by decide +kernel)) ggX7_count_X7_isWithin
set_option maxRecDepth 20000 in
theorem ggX7_count_X7_at : GoodIn wsX7_count wsX7_at := goodIn_r _ [31] (by decide +kernel) (by decide +kernel)
set_option maxRecDepth 20000 in
theorem gX7_count_X7_at : GoodIn wsX7_count (va_wsS RX7 72 yX7_at wsX7_at) := goodIn_app (goodIn_of _ (by decide +kernel)) ggX7_count_X7_at
set_option maxRecDepth 20000 in
theorem ggX7_costume_X6_has : GoodIn wsX7_costume wsX6_has := goodIn_r _ [14, 15, 72, 73, 74, 75, 76, 77, 78, 79, 80] (by decide +kernel) (by decide +kernel)
set_option maxRecDepth 20000 in
theorem gX7_costume_X6_has : GoodIn wsX7_costume (wsV RX7 64 RX6 yX6_has wsX6_has) := goodIn_app (goodIn_of _ (by decide +kernel)) ggX7_costume_X6_has
set_option maxRecDepth 20000 in
theorem ggX7_costume_X6_present : GoodIn wsX7_costume wsX6_present := goodIn_r _ [19, 20, 21, 22, 23, 24, 25, 13, 26, 27, 28, 29, 30, 31, 32, 33, 34, 72, 73, 74, 75, 76, 77, 78, 79, 80] (by decide +kernel) (by decide +kernel)
set_option maxRecDepth 20000 in
theorem gX7_costume_X6_present : GoodIn wsX7_costume (wsV RX7 221 RX6 yX6_present wsX6_present) := goodIn_app (goodIn_of _ (by decide +kernel)) ggX7_costume_X6_present
set_option maxRecDepth 20000 in
theorem ggX7_costume_X6_originalOf : GoodIn wsX7_costume wsX6_originalOf := goodIn_r _ [26, 27, 28, 29, 30, 72, 73, 74, 75, 76, 77, 78, 79, 80] (by decide +kernel) (by decide +kernel)
set_option maxRecDepth 20000 in
theorem gX7_costume_X6_originalOf : GoodIn wsX7_costume (wsV RX7 224 RX6 yX6_originalOf wsX6_originalOf) := goodIn_app (goodIn_of _ (by decide +kernel)) ggX7_costume_X6_originalOf
set_option maxRecDepth 20000 in
theorem ggX7_costume_X7_at : GoodIn wsX7_costume wsX7_at := goodIn_r _ [30] (by decide +kernel) (by decide +kernel)
set_option maxRecDepth 20000 in
theorem gX7_costume_X7_at : GoodIn wsX7_costume (va_wsS RX7 72 yX7_at wsX7_at) := goodIn_app (goodIn_of _ (by decide +kernel)) ggX7_costume_X7_at
set_option maxRecDepth 20000 in
theorem ggX7_costume_X0_scenesOf : GoodIn wsX7_costume wsX0_scenesOf := goodIn_r _ [41, 42, 43, 44, 40, 45, 46, 47, 48, 49, 50, 51, 28, 29, 30, 81, 82, 83] (by decide +kernel) (by decide +kernel)
set_option maxRecDepth 20000 in
theorem gX7_costume_X0_scenesOf : GoodIn wsX7_costume (wsV RX7 236 RX0 yX0_scenesOf wsX0_scenesOf) := goodIn_app (goodIn_of _ (by decide +kernel)) ggX7_costume_X0_scenesOf
set_option maxRecDepth 20000 in
theorem ggX7_costume_X1_hiresOf : GoodIn wsX7_costume wsX1_hiresOf := goodIn_r _ [56, 57, 58, 28, 29, 30, 84, 85, 86, 87, 88, 89] (by decide +kernel) (by decide +kernel)
set_option maxRecDepth 20000 in
theorem gX7_costume_X1_hiresOf : GoodIn wsX7_costume (wsV RX7 239 RX1 yX1_hiresOf wsX1_hiresOf) := goodIn_app (goodIn_of _ (by decide +kernel)) ggX7_costume_X1_hiresOf
set_option maxRecDepth 20000 in
theorem ggX7_alteration_X6_has : GoodIn wsX7_alteration wsX6_has := goodIn_r _ [10, 11, 36, 37, 38, 39, 40, 41, 42, 43, 44] (by decide +kernel) (by decide +kernel)
set_option maxRecDepth 20000 in
theorem gX7_alteration_X6_has : GoodIn wsX7_alteration (wsV RX7 64 RX6 yX6_has wsX6_has) := goodIn_app (goodIn_of _ (by decide +kernel)) ggX7_alteration_X6_has
set_option maxRecDepth 20000 in
theorem ggX7_alteration_X7_isWithin : GoodIn wsX7_alteration wsX7_isWithin := goodIn_r _ [15] (by decide +kernel) (by decide +kernel)
set_option maxRecDepth 20000 in
theorem gX7_alteration_X7_isWithin : GoodIn wsX7_alteration (va_wsS RX7 43 yX7_isWithin wsX7_isWithin) := goodIn_app (goodIn_of _ (by decide +kernel)) ggX7_alteration_X7_isWithin
set_option maxRecDepth 20000 in
theorem ggX7_alteration_X7_at : GoodIn wsX7_alteration wsX7_at := goodIn_r _ [18] (by decide +kernel) (by decide +kernel)
set_option maxRecDepth 20000 in
theorem gX7_alteration_X7_at : GoodIn wsX7_alteration (va_wsS RX7 72 yX7_at wsX7_at) := goodIn_app (goodIn_of _ (by decide +kernel)) ggX7_alteration_X7_at
set_option maxRecDepth 20000 in
theorem ggX7_alteration_X6_placeOf : GoodIn wsX7_alteration wsX6_placeOf := goodIn_r _ [22] (by decide +kernel) (by decide +kernel)
set_option maxRecDepth 20000 in
theorem gX7_alteration_X6_placeOf : GoodIn wsX7_alteration (wsV RX7 242 RX6 yX6_placeOf wsX6_placeOf) := goodIn_app (goodIn_of _ (by decide +kernel)) ggX7_alteration_X6_placeOf
set_option maxRecDepth 20000 in
theorem ggX7_actor_X0_has : GoodIn wsX7_actor wsX0_has := goodIn_r _ [7, 8, 38, 39, 40] (by decide +kernel) (by decide +kernel)
set_option maxRecDepth 20000 in
theorem gX7_actor_X0_has : GoodIn wsX7_actor (wsV RX7 151 RX0 yX0_has wsX0_has) := goodIn_app (goodIn_of _ (by decide +kernel)) ggX7_actor_X0_has
set_option maxRecDepth 20000 in
theorem ggX7_actor_X7_isWithin : GoodIn wsX7_actor wsX7_isWithin := goodIn_r _ [12] (by decide +kernel) (by decide +kernel)
set_option maxRecDepth 20000 in
theorem gX7_actor_X7_isWithin : GoodIn wsX7_actor (va_wsS RX7 43 yX7_isWithin wsX7_isWithin) := goodIn_app (goodIn_of _ (by decide +kernel)) ggX7_actor_X7_isWithin
set_option maxRecDepth 20000 in
theorem ggX7_actor_X0_measureOf : GoodIn wsX7_actor wsX0_measureOf := goodIn_r _ [16, 17, 18, 11, 19, 38, 39, 40] (by decide +kernel) (by decide +kernel)
set_option maxRecDepth 20000 in
theorem gX7_actor_X0_measureOf : GoodIn wsX7_actor (wsV RX7 251 RX0 yX0_measureOf wsX0_measureOf) := goodIn_app (goodIn_of _ (by decide +kernel)) ggX7_actor_X0_measureOf
set_option maxRecDepth 20000 in
theorem ggX7_actor_X0_wornIn : GoodIn wsX7_actor wsX0_wornIn := goodIn_r _ [23, 24, 18, 11, 19, 38, 39, 40] (by decide +kernel) (by decide +kernel)
set_option maxRecDepth 20000 in
theorem gX7_actor_X0_wornIn : GoodIn wsX7_actor (wsV RX7 254 RX0 yX0_wornIn wsX0_wornIn) := goodIn_app (goodIn_of _ (by decide +kernel)) ggX7_actor_X0_wornIn
set_option maxRecDepth 20000 in
theorem ggX7_hired_X1_has : GoodIn wsX7_hired wsX1_has := goodIn_r _ [11, 12, 30, 31, 32, 33, 34, 35] (by decide +kernel) (by decide +kernel)
set_option maxRecDepth 20000 in
theorem gX7_hired_X1_has : GoodIn wsX7_hired (wsV RX7 183 RX1 yX1_has wsX1_has) := goodIn_app (goodIn_of _ (by decide +kernel)) ggX7_hired_X1_has
set_option maxRecDepth 20000 in
theorem ggX7_hired_X7_at : GoodIn wsX7_hired wsX7_at := goodIn_r _ [16] (by decide +kernel) (by decide +kernel)
set_option maxRecDepth 20000 in
theorem gX7_hired_X7_at : GoodIn wsX7_hired (va_wsS RX7 72 yX7_at wsX7_at) := goodIn_app (goodIn_of _ (by decide +kernel)) ggX7_hired_X7_at
set_option maxRecDepth 20000 in
theorem ggX7_problems_X7_isWithin : GoodIn wsX7_problems wsX7_isWithin := goodIn_r _ [5] (by decide +kernel) (by decide +kernel)
set_option maxRecDepth 20000 in
theorem gX7_problems_X7_isWithin : GoodIn wsX7_problems (va_wsS RX7 43 yX7_isWithin wsX7_isWithin) := goodIn_app (goodIn_of _ (by decide +kernel)) ggX7_problems_X7_isWithin
set_option maxRecDepth 20000 in
theorem ggX7_problems_X4_problemsOf : GoodIn wsX7_problems wsX4_problemsOf := goodIn_r _ [10, 11, 12, 13, 9, 14, 15, 16, 17, 18, 19, 20, 21, 22, 23, 24, 25, 26, 27, 28, 29, 4, 30, 31, 32, 33, 34, 35, 36, 37, 38, 39, 40, 41, 42, 43, 44, 45, 46, 47, 48, 49, 50, 51, 52, 53, 54, 55, 56, 57, 58, 59, 60, 61, 62, 63, 64, 65, 66, 67, 68, 69, 70, 71, 72, 73, 74, 75, 76, 77, 78, 79, 80, 81, 82, 83, 84, 85, 86, 87, 88, 89, 90, 91, 92, 93, 94, 95, 96, 97, 98, 99, 100, 101, 102, 103, 104, 109, 110, 111, 112, 113, 114, 115, 116, 117, 118, 119, 120, 121, 122, 123, 124, 125, 126, 127, 128, 129, 130, 131, 132, 133, 134, 135] (by decide +kernel) (by decide +kernel)
set_option maxRecDepth 20000 in
theorem gX7_problems_X4_problemsOf : GoodIn wsX7_problems (wsV RX7 155 RX4 yX4_problemsOf wsX4_problemsOf) := goodIn_app (goodIn_of _ (by decide +kernel)) ggX7_problems_X4_problemsOf
set_option maxRecDepth 20000 in
theorem ggX7_misfit_X6_has : GoodIn wsX7_misfit wsX6_has := goodIn_r _ [8, 9, 69, 70, 71, 72, 73, 74, 75, 76, 77] (by decide +kernel) (by decide +kernel)
set_option maxRecDepth 20000 in
theorem gX7_misfit_X6_has : GoodIn wsX7_misfit (wsV RX7 64 RX6 yX6_has wsX6_has) := goodIn_app (goodIn_of _ (by decide +kernel)) ggX7_misfit_X6_has
set_option maxRecDepth 20000 in
theorem ggX7_misfit_X0_has : GoodIn wsX7_misfit wsX0_has := goodIn_r _ [14, 15, 78, 79, 80] (by decide +kernel) (by decide +kernel)
set_option maxRecDepth 20000 in
theorem gX7_misfit_X0_has : GoodIn wsX7_misfit (wsV RX7 151 RX0 yX0_has wsX0_has) := goodIn_app (goodIn_of _ (by decide +kernel)) ggX7_misfit_X0_has
set_option maxRecDepth 20000 in
theorem ggX7_misfit_X4_misfitOf : GoodIn wsX7_misfit wsX4_misfitOf := goodIn_r _ [20, 21, 22, 23, 24, 25, 26, 27, 19, 28, 29, 30, 31, 32, 33, 34, 7, 35, 36, 37, 38, 39, 40, 41, 42, 43, 44, 45, 46, 47, 48, 49, 50, 51, 52, 53, 13, 54, 55, 60, 61, 62, 63, 64, 65, 66, 67, 68, 69, 70, 71, 72, 73, 74, 75, 76, 77, 78, 79, 80] (by decide +kernel) (by decide +kernel)
set_option maxRecDepth 20000 in
theorem gX7_misfit_X4_misfitOf : GoodIn wsX7_misfit (wsV RX7 269 RX4 yX4_misfitOf wsX4_misfitOf) := goodIn_app (goodIn_of _ (by decide +kernel)) ggX7_misfit_X4_misfitOf
set_option maxRecDepth 20000 in
theorem ggX7_leastAlteration_X6_has : GoodIn wsX7_leastAlteration wsX6_has := goodIn_r _ [8, 9, 79, 80, 81, 82, 83, 84, 85, 86, 87] (by decide +kernel) (by decide +kernel)
set_option maxRecDepth 20000 in
theorem gX7_leastAlteration_X6_has : GoodIn wsX7_leastAlteration (wsV RX7 64 RX6 yX6_has wsX6_has) := goodIn_app (goodIn_of _ (by decide +kernel)) ggX7_leastAlteration_X6_has
set_option maxRecDepth 20000 in
theorem ggX7_leastAlteration_X0_has : GoodIn wsX7_leastAlteration wsX0_has := goodIn_r _ [14, 15, 88, 89, 90] (by decide +kernel) (by decide +kernel)
set_option maxRecDepth 20000 in
theorem gX7_leastAlteration_X0_has : GoodIn wsX7_leastAlteration (wsV RX7 151 RX0 yX0_has wsX0_has) := goodIn_app (goodIn_of _ (by decide +kernel)) ggX7_leastAlteration_X0_has
set_option maxRecDepth 20000 in
theorem ggX7_leastAlteration_X4_leastChange : GoodIn wsX7_leastAlteration wsX4_leastChange := goodIn_r _ [20, 21, 22, 23, 24, 25, 26, 27, 28, 7, 29, 30, 31, 32, 33, 34, 35, 36, 19, 37, 38, 39, 40, 41, 42, 43, 44, 45, 46, 47, 48, 49, 50, 51, 52, 53, 54, 55, 56, 57, 13, 58, 59, 60, 61, 62, 63, 64, 65, 70, 71, 72, 73, 74, 75, 76, 77, 78, 79, 80, 81, 82, 83, 84, 85, 86, 87, 88, 89, 90] (by decide +kernel) (by decide +kernel)
set_option maxRecDepth 20000 in
theorem gX7_leastAlteration_X4_leastChange : GoodIn wsX7_leastAlteration (wsV RX7 272 RX4 yX4_leastChange wsX4_leastChange) := goodIn_app (goodIn_of _ (by decide +kernel)) ggX7_leastAlteration_X4_leastChange
set_option maxRecDepth 20000 in
theorem ggX7_costumeFor_X7_isWithin : GoodIn wsX7_costumeFor wsX7_isWithin := goodIn_r _ [6] (by decide +kernel) (by decide +kernel)
set_option maxRecDepth 20000 in
theorem gX7_costumeFor_X7_isWithin : GoodIn wsX7_costumeFor (va_wsS RX7 43 yX7_isWithin wsX7_isWithin) := goodIn_app (goodIn_of _ (by decide +kernel)) ggX7_costumeFor_X7_isWithin
set_option maxRecDepth 20000 in
theorem ggX7_costumeFor_X0_has : GoodIn wsX7_costumeFor wsX0_has := goodIn_r _ [11, 12, 128, 129, 130] (by decide +kernel) (by decide +kernel)
set_option maxRecDepth 20000 in
theorem gX7_costumeFor_X0_has : GoodIn wsX7_costumeFor (wsV RX7 151 RX0 yX0_has wsX0_has) := goodIn_app (goodIn_of _ (by decide +kernel)) ggX7_costumeFor_X0_has
set_option maxRecDepth 20000 in
theorem ggX7_costumeFor_X4_bestCostume : GoodIn wsX7_costumeFor wsX4_bestCostume := goodIn_r _ [17, 18, 19, 20, 21, 22, 16, 23, 24, 25, 26, 27, 28, 29, 30, 31, 32, 33, 34, 35, 36, 37, 38, 39, 40, 41, 42, 43, 44, 45, 46, 5, 47, 48, 49, 50, 51, 52, 53, 54, 55, 56, 57, 58, 59, 60, 61, 10, 62, 63, 64, 65, 66, 67, 68, 69, 70, 71, 12, 72, 73, 74, 75, 76, 77, 78, 79, 80, 81, 82, 83, 84, 85, 86, 87, 88, 89, 90, 91, 92, 93, 94, 95, 96, 97, 98, 99, 100, 101, 102, 103, 104, 105, 106, 107, 108, 109, 110, 111, 112, 113, 114, 119, 120, 121, 122, 123, 124, 125, 126, 127, 131, 132, 133, 134, 135, 136, 137, 138, 139, 140, 141, 142, 143, 144, 145, 128, 129, 130] (by decide +kernel) (by decide +kernel)
set_option maxRecDepth 20000 in
theorem gX7_costumeFor_X4_bestCostume : GoodIn wsX7_costumeFor (wsV RX7 275 RX4 yX4_bestCostume wsX4_bestCostume) := goodIn_app (goodIn_of _ (by decide +kernel)) ggX7_costumeFor_X4_bestCostume
set_option maxRecDepth 20000 in
theorem ggX7_freeFrom_X6_has : GoodIn wsX7_freeFrom wsX6_has := goodIn_r _ [9, 10, 47, 48, 49, 50, 51, 52, 53, 54, 55] (by decide +kernel) (by decide +kernel)
set_option maxRecDepth 20000 in
theorem gX7_freeFrom_X6_has : GoodIn wsX7_freeFrom (wsV RX7 64 RX6 yX6_has wsX6_has) := goodIn_app (goodIn_of _ (by decide +kernel)) ggX7_freeFrom_X6_has
set_option maxRecDepth 20000 in
theorem ggX7_freeFrom_X7_isWithin : GoodIn wsX7_freeFrom wsX7_isWithin := goodIn_r _ [14] (by decide +kernel) (by decide +kernel)
set_option maxRecDepth 20000 in
theorem gX7_freeFrom_X7_isWithin : GoodIn wsX7_freeFrom (va_wsS RX7 43 yX7_isWithin wsX7_isWithin) := goodIn_app (goodIn_of _ (by decide +kernel)) ggX7_freeFrom_X7_isWithin
set_option maxRecDepth 20000 in
theorem ggX7_freeFrom_X1_firstFree : GoodIn wsX7_freeFrom wsX1_firstFree := goodIn_r _ [19, 20, 21, 22, 18, 23, 24, 25, 26, 27, 13, 28, 29, 30, 31, 32, 33, 56, 57, 58, 59, 60, 61] (by decide +kernel) (by decide +kernel)
set_option maxRecDepth 20000 in
theorem gX7_freeFrom_X1_firstFree : GoodIn wsX7_freeFrom (wsV RX7 278 RX1 yX1_firstFree wsX1_firstFree) := goodIn_app (goodIn_of _ (by decide +kernel)) ggX7_freeFrom_X1_firstFree
set_option maxRecDepth 20000 in
theorem ggX7_washable_X7_isProgram : GoodIn wsX7_washable wsX7_isProgram := goodIn_r _ [5, 6, 7, 4, 8] (by decide +kernel) (by decide +kernel)
set_option maxRecDepth 20000 in
theorem gX7_washable_X7_isProgram : GoodIn wsX7_washable (va_wsS RX7 190 yX7_isProgram wsX7_isProgram) := goodIn_app (goodIn_of _ (by decide +kernel)) ggX7_washable_X7_isProgram
set_option maxRecDepth 20000 in
theorem ggX7_washable_X7_isWithin : GoodIn wsX7_washable wsX7_isWithin := goodIn_r _ [8] (by decide +kernel) (by decide +kernel)
set_option maxRecDepth 20000 in
theorem gX7_washable_X7_isWithin : GoodIn wsX7_washable (va_wsS RX7 43 yX7_isWithin wsX7_isWithin) := goodIn_app (goodIn_of _ (by decide +kernel)) ggX7_washable_X7_isWithin
set_option maxRecDepth 20000 in
theorem ggX7_washable_X4_dirtySet : GoodIn wsX7_washable wsX4_dirtySet := goodIn_r _ [13, 14, 15, 16, 17, 18, 4, 19, 20, 21, 22, 12, 23, 24, 25, 26, 27, 28, 29, 30, 31, 32, 33, 34, 35, 36, 37, 38, 39, 40, 41, 42, 43, 44, 45, 46, 51, 52, 53, 54, 55, 56, 57, 58, 59, 60, 61, 62, 63, 64, 65, 66, 67, 68, 69, 70, 71, 72, 73, 74] (by decide +kernel) (by decide +kernel)
set_option maxRecDepth 20000 in
theorem gX7_washable_X4_dirtySet : GoodIn wsX7_washable (wsV RX7 281 RX4 yX4_dirtySet wsX4_dirtySet) := goodIn_app (goodIn_of _ (by decide +kernel)) ggX7_washable_X4_dirtySet
set_option maxRecDepth 20000 in
theorem ggX7_areMeasures_X7_isWithin : GoodIn wsX7_areMeasures wsX7_isWithin := goodIn_r _ [4] (by decide +kernel) (by decide +kernel)
set_option maxRecDepth 20000 in
theorem gX7_areMeasures_X7_isWithin : GoodIn wsX7_areMeasures (va_wsS RX7 43 yX7_isWithin wsX7_isWithin) := goodIn_app (goodIn_of _ (by decide +kernel)) ggX7_areMeasures_X7_isWithin
set_option maxRecDepth 20000 in
theorem ggX7_isSetting_X7_isWithin : GoodIn wsX7_isSetting wsX7_isWithin := goodIn_r _ [4] (by decide +kernel) (by decide +kernel)
set_option maxRecDepth 20000 in
theorem gX7_isSetting_X7_isWithin : GoodIn wsX7_isSetting (va_wsS RX7 43 yX7_isWithin wsX7_isWithin) := goodIn_app (goodIn_of _ (by decide +kernel)) ggX7_isSetting_X7_isWithin
set_option maxRecDepth 20000 in
theorem ggX7_isProgram_X7_isWithin : GoodIn wsX7_isProgram wsX7_isWithin := goodIn_r _ [4] (by decide +kernel) (by decide +kernel)
set_option maxRecDepth 20000 in
theorem gX7_isProgram_X7_isWithin : GoodIn wsX7_isProgram (va_wsS RX7 43 yX7_isWithin wsX7_isWithin) := goodIn_app (goodIn_of _ (by decide +kernel)) ggX7_isProgram_X7_isWithin
set_option maxRecDepth 20000 in
theorem ggJ0_length_8abf5_J0_coder_7d493 : GoodIn wsJ0_length_8abf5 wsJ0_coder_7d493 := goodIn_r _ [6, 7, 8] (by decide +kernel) (by decide +kernel)
set_option maxRecDepth 20000 in
theorem gJ0_length_8abf5_J0_coder_7d493 : GoodIn wsJ0_length_8abf5 (wsV RJ0 335 RJ0 yJ0_coder_7d493 wsJ0_coder_7d493) := goodIn_app (goodIn_of _ (by decide +kernel)) ggJ0_length_8abf5_J0_coder_7d493
set_option maxRecDepth 20000 in
theorem ggJ0_charAt_5068e_J0_isLatin1_aae02 : GoodIn wsJ0_charAt_5068e wsJ0_isLatin1_aae02 := goodIn_r _ [6, 7, 8] (by decide +kernel) (by decide +kernel)
set_option maxRecDepth 20000 in
theorem gJ0_charAt_5068e_J0_isLatin1_aae02 : GoodIn wsJ0_charAt_5068e (wsV RJ0 492 RJ0 yJ0_isLatin1_aae02 wsJ0_isLatin1_aae02) := goodIn_app (goodIn_of _ (by decide +kernel)) ggJ0_charAt_5068e_J0_isLatin1_aae02
set_option maxRecDepth 20000 in
theorem ggJ0_charAt_5068e_J1_charAt_3b067 : GoodIn wsJ0_charAt_5068e wsJ1_charAt_3b067 := goodIn_r _ [12, 13, 14, 5, 15, 16, 17, 18, 19, 20] (by decide +kernel) (by decide +kernel)
set_option maxRecDepth 20000 in
theorem gJ0_charAt_5068e_J1_charAt_3b067 : GoodIn wsJ0_charAt_5068e (va_wsS RJ0 495 yJ1_charAt_3b067 wsJ1_charAt_3b067) := goodIn_app (goodIn_of _ (by decide +kernel)) ggJ0_charAt_5068e_J1_charAt_3b067
set_option maxRecDepth 20000 in
theorem ggJ0_charAt_5068e_J2_charAt_3b067 : GoodIn wsJ0_charAt_5068e wsJ2_charAt_3b067 := goodIn_r _ [24, 25, 26, 23, 27, 28, 29, 30, 31, 14, 5, 15, 16, 17, 18, 19, 20, 32, 33, 34, 35, 36, 37] (by decide +kernel) (by decide +kernel)
set_option maxRecDepth 20000 in
theorem gJ0_charAt_5068e_J2_charAt_3b067 : GoodIn wsJ0_charAt_5068e (va_wsS RJ0 498 yJ2_charAt_3b067 wsJ2_charAt_3b067) := goodIn_app (goodIn_of _ (by decide +kernel)) ggJ0_charAt_5068e_J2_charAt_3b067
set_option maxRecDepth 20000 in
theorem ggJ0_checkIndex_df160_J3_checkIndex_8e157 : GoodIn wsJ0_checkIndex_df160 wsJ3_checkIndex_8e157 := goodIn_r _ [5] (by decide +kernel) (by decide +kernel)
set_option maxRecDepth 20000 in
theorem gJ0_checkIndex_df160_J3_checkIndex_8e157 : GoodIn wsJ0_checkIndex_df160 (va_wsS RJ0 1059 yJ3_checkIndex_8e157 wsJ3_checkIndex_8e157) := goodIn_app (goodIn_of _ (by decide +kernel)) ggJ0_checkIndex_df160_J3_checkIndex_8e157
set_option maxRecDepth 20000 in
theorem ggJ1_charAt_3b067_J0_checkIndex_df160 : GoodIn wsJ1_charAt_3b067 wsJ0_checkIndex_df160 := goodIn_r _ [4, 5, 6, 7, 8, 9] (by decide +kernel) (by decide +kernel)
set_option maxRecDepth 20000 in
theorem gJ1_charAt_3b067_J0_checkIndex_df160 : GoodIn wsJ1_charAt_3b067 (va_wsS RJ1 9 yJ0_checkIndex_df160 wsJ0_checkIndex_df160) := goodIn_app (goodIn_of _ (by decide +kernel)) ggJ1_charAt_3b067_J0_checkIndex_df160
set_option maxRecDepth 20000 in
theorem ggJ2_getChar_3b067_J2_length_9d52b : GoodIn wsJ2_getChar_3b067 wsJ2_length_9d52b := goodIn_r _ [7] (by decide +kernel) (by decide +kernel)
set_option maxRecDepth 20000 in
theorem gJ2_getChar_3b067_J2_length_9d52b : GoodIn wsJ2_getChar_3b067 (va_wsS RJ2 48 yJ2_length_9d52b wsJ2_length_9d52b) := goodIn_app (goodIn_of _ (by decide +kernel)) ggJ2_getChar_3b067_J2_length_9d52b
set_option maxRecDepth 20000 in
theorem ggJ2_charAt_3b067_J2_checkIndex_2214a : GoodIn wsJ2_charAt_3b067 wsJ2_checkIndex_2214a := goodIn_r _ [4, 5, 6, 3, 7, 8, 9, 10, 11, 12, 13, 14, 15, 16] (by decide +kernel) (by decide +kernel)
set_option maxRecDepth 20000 in
theorem gJ2_charAt_3b067_J2_checkIndex_2214a : GoodIn wsJ2_charAt_3b067 (va_wsS RJ2 67 yJ2_checkIndex_2214a wsJ2_checkIndex_2214a) := goodIn_app (goodIn_of _ (by decide +kernel)) ggJ2_charAt_3b067_J2_checkIndex_2214a
set_option maxRecDepth 20000 in
theorem ggJ2_charAt_3b067_J2_getChar_3b067 : GoodIn wsJ2_charAt_3b067 wsJ2_getChar_3b067 := goodIn_r _ [19, 20, 21, 22, 5, 6, 3, 7] (by decide +kernel) (by decide +kernel)
set_option maxRecDepth 20000 in
theorem gJ2_charAt_3b067_J2_getChar_3b067 : GoodIn wsJ2_charAt_3b067 (va_wsS RJ2 71 yJ2_getChar_3b067 wsJ2_getChar_3b067) := goodIn_app (goodIn_of _ (by decide +kernel)) ggJ2_charAt_3b067_J2_getChar_3b067
set_option maxRecDepth 20000 in
theorem ggJ2_checkIndex_2214a_J2_length_9d52b : GoodIn wsJ2_checkIndex_2214a wsJ2_length_9d52b := goodIn_r _ [4] (by decide +kernel) (by decide +kernel)
set_option maxRecDepth 20000 in
theorem gJ2_checkIndex_2214a_J2_length_9d52b : GoodIn wsJ2_checkIndex_2214a (va_wsS RJ2 48 yJ2_length_9d52b wsJ2_length_9d52b) := goodIn_app (goodIn_of _ (by decide +kernel)) ggJ2_checkIndex_2214a_J2_length_9d52b
set_option maxRecDepth 20000 in
theorem ggJ2_checkIndex_2214a_J0_checkIndex_df160 : GoodIn wsJ2_checkIndex_2214a wsJ0_checkIndex_df160 := goodIn_r _ [8, 9, 10, 11, 12, 13] (by decide +kernel) (by decide +kernel)
set_option maxRecDepth 20000 in
theorem gJ2_checkIndex_2214a_J0_checkIndex_df160 : GoodIn wsJ2_checkIndex_2214a (va_wsS RJ2 414 yJ0_checkIndex_df160 wsJ0_checkIndex_df160) := goodIn_app (goodIn_of _ (by decide +kernel)) ggJ2_checkIndex_2214a_J0_checkIndex_df160
abbrev vwCl : List vw_C := [(RX0, TX0, 3), (RX1, TX1, 6), (RX2, TX2, 3), (RX3, TX3, 8), (RX4, TX4, 9), (RX5, TX5, 2), (RX6, TX6, 9), (RX7, TX7, 4)]
