def wsX8_misfit : List Cond := .code yX8_misfit cX8_misfit 3 (some .int) :: ((wsX8_misfit_r1 ++ wsX8_misfit_r2) ++ wsX80)
def wsX8_leastOf_r1 : List Cond := [Cond.constantLong RX8 88 (-10), Cond.constantLong RX8 90 (10), Cond.methodLink RX8 181 yX8_wantedOf, Cond.instanceMethod yX8_wantedOf, Cond.selects RX8 yX8_wantedOf yX8_wantedOf, Cond.initialized RX8, Cond.code yX8_wantedOf cX8_wantedOf 7 (some .int), Cond.fieldLink RX8 7 "CostumeStockModel" "s" "[I", Cond.methodLink RX8 78 yX8_present, Cond.instanceMethod yX8_present, Cond.selects RX8 yX8_present yX8_present, Cond.code yX8_present cX8_present 5 (some .int), Cond.methodLink RX8 75 yX8_of, Cond.instanceMethod yX8_of, Cond.selects RX8 yX8_of yX8_of, Cond.code yX8_of cX8_of 3 (some .int), Cond.methodLink RX8 184 yX8_measureOf, Cond.instanceMethod yX8_measureOf, Cond.selects RX8 yX8_measureOf yX8_measureOf, Cond.code yX8_measureOf cX8_measureOf 3 (some .int), Cond.methodLink RX8 32 yX8_in, Cond.static yX8_in, Cond.code yX8_in cX8_in 6 (some .boolean), Cond.methodLink RX8 95 yX8_isAllowed]
def wsX8_leastOf_r2 : List Cond := [Cond.instanceMethod yX8_isAllowed, Cond.selects RX8 yX8_isAllowed yX8_isAllowed, Cond.code yX8_isAllowed cX8_isAllowed 6 (some .boolean), Cond.methodLink RX8 99 yX8_distance, Cond.static yX8_distance, Cond.code yX8_distance cX8_distance 2 (some .int)]
def wsX8_leastOf : List Cond := .code yX8_leastOf cX8_leastOf 7 (some .int) :: ((wsX8_leastOf_r1 ++ wsX8_leastOf_r2) ++ wsX80)
def wsX8_leastAlteration_r1 : List Cond := [Cond.fieldLink RX8 22 "CostumeStockModel" "thrown" "I", Cond.methodLink RX8 58 yX8_isCostume, Cond.instanceMethod yX8_isCostume, Cond.selects RX8 yX8_isCostume yX8_isCostume, Cond.initialized RX8, Cond.code yX8_isCostume cX8_isCostume 2 (some .boolean), Cond.fieldLink RX8 7 "CostumeStockModel" "s" "[I", Cond.methodLink RX8 32 yX8_in, Cond.static yX8_in, Cond.code yX8_in cX8_in 6 (some .boolean), Cond.methodLink RX8 169 yX8_isActor, Cond.instanceMethod yX8_isActor, Cond.selects RX8 yX8_isActor yX8_isActor, Cond.code yX8_isActor cX8_isActor 2 (some .boolean), Cond.methodLink RX8 247 yX8_leastOf, Cond.instanceMethod yX8_leastOf, Cond.selects RX8 yX8_leastOf yX8_leastOf, Cond.code yX8_leastOf cX8_leastOf 7 (some .int), Cond.constantLong RX8 88 (-10), Cond.constantLong RX8 90 (10), Cond.methodLink RX8 181 yX8_wantedOf, Cond.instanceMethod yX8_wantedOf, Cond.selects RX8 yX8_wantedOf yX8_wantedOf, Cond.code yX8_wantedOf cX8_wantedOf 7 (some .int)]
def wsX8_leastAlteration_r2 : List Cond := [Cond.methodLink RX8 78 yX8_present, Cond.instanceMethod yX8_present, Cond.selects RX8 yX8_present yX8_present, Cond.code yX8_present cX8_present 5 (some .int), Cond.methodLink RX8 75 yX8_of, Cond.instanceMethod yX8_of, Cond.selects RX8 yX8_of yX8_of, Cond.code yX8_of cX8_of 3 (some .int), Cond.methodLink RX8 184 yX8_measureOf, Cond.instanceMethod yX8_measureOf, Cond.selects RX8 yX8_measureOf yX8_measureOf, Cond.code yX8_measureOf cX8_measureOf 3 (some .int), Cond.methodLink RX8 95 yX8_isAllowed, Cond.instanceMethod yX8_isAllowed, Cond.selects RX8 yX8_isAllowed yX8_isAllowed, Cond.code yX8_isAllowed cX8_isAllowed 6 (some .boolean), Cond.methodLink RX8 99 yX8_distance, Cond.static yX8_distance, Cond.code yX8_distance cX8_distance 2 (some .int)]
def wsX8_leastAlteration : List Cond := .code yX8_leastAlteration cX8_leastAlteration 3 (some .int) :: ((wsX8_leastAlteration_r1 ++ wsX8_leastAlteration_r2) ++ wsX80)
def wsX8_isTaken : List Cond := .code yX8_isTaken cX8_isTaken 4 (some .boolean) :: ([.methodLink RX8 166 yX8_isScene, .static yX8_isScene, .initialized RX8, .code yX8_isScene cX8_isScene 1 (some .boolean), .constantLong RX8 36 (11), .methodLink RX8 32 yX8_in, .static yX8_in, .code yX8_in cX8_in 6 (some .boolean), .methodLink RX8 175 yX8_wearers, .instanceMethod yX8_wearers, .selects RX8 yX8_wearers yX8_wearers, .code yX8_wearers cX8_wearers 5 (some .int), .fieldLink RX8 7 "CostumeStockModel" "s" "[I", .methodLink RX8 172 yX8_worn, .instanceMethod yX8_worn, .selects RX8 yX8_worn yX8_worn, .code yX8_worn cX8_worn 3 (some .int)] ++ wsX80)
def wsX8_costumeFor_r1 : List Cond := [Cond.fieldLink RX8 22 "CostumeStockModel" "thrown" "I", Cond.fieldLink RX8 7 "CostumeStockModel" "s" "[I", Cond.methodLink RX8 166 yX8_isScene, Cond.static yX8_isScene, Cond.initialized RX8, Cond.code yX8_isScene cX8_isScene 1 (some .boolean), Cond.constantLong RX8 36 (11), Cond.methodLink RX8 32 yX8_in, Cond.static yX8_in, Cond.code yX8_in cX8_in 6 (some .boolean), Cond.methodLink RX8 169 yX8_isActor, Cond.instanceMethod yX8_isActor, Cond.selects RX8 yX8_isActor yX8_isActor, Cond.code yX8_isActor cX8_isActor 2 (some .boolean), Cond.methodLink RX8 250 yX8_isTaken, Cond.instanceMethod yX8_isTaken, Cond.selects RX8 yX8_isTaken yX8_isTaken, Cond.code yX8_isTaken cX8_isTaken 4 (some .boolean), Cond.methodLink RX8 175 yX8_wearers, Cond.instanceMethod yX8_wearers, Cond.selects RX8 yX8_wearers yX8_wearers, Cond.code yX8_wearers cX8_wearers 5 (some .int), Cond.methodLink RX8 172 yX8_worn, Cond.instanceMethod yX8_worn]
def wsX8_costumeFor_r2 : List Cond := [Cond.selects RX8 yX8_worn yX8_worn, Cond.code yX8_worn cX8_worn 3 (some .int), Cond.methodLink RX8 92 yX8_isAwayToday, Cond.instanceMethod yX8_isAwayToday, Cond.selects RX8 yX8_isAwayToday yX8_isAwayToday, Cond.code yX8_isAwayToday cX8_isAwayToday 2 (some .boolean), Cond.methodLink RX8 84 yX8_isAway, Cond.instanceMethod yX8_isAway, Cond.selects RX8 yX8_isAway yX8_isAway, Cond.code yX8_isAway cX8_isAway 4 (some .boolean), Cond.methodLink RX8 81 yX8_ofHire, Cond.instanceMethod yX8_ofHire, Cond.selects RX8 yX8_ofHire yX8_ofHire, Cond.code yX8_ofHire cX8_ofHire 3 (some .int), Cond.methodLink RX8 75 yX8_of, Cond.instanceMethod yX8_of, Cond.selects RX8 yX8_of yX8_of, Cond.code yX8_of cX8_of 3 (some .int), Cond.methodLink RX8 247 yX8_leastOf, Cond.instanceMethod yX8_leastOf, Cond.selects RX8 yX8_leastOf yX8_leastOf, Cond.code yX8_leastOf cX8_leastOf 7 (some .int), Cond.constantLong RX8 88 (-10), Cond.constantLong RX8 90 (10)]
def wsX8_costumeFor_r3 : List Cond := [Cond.methodLink RX8 181 yX8_wantedOf, Cond.instanceMethod yX8_wantedOf, Cond.selects RX8 yX8_wantedOf yX8_wantedOf, Cond.code yX8_wantedOf cX8_wantedOf 7 (some .int), Cond.methodLink RX8 78 yX8_present, Cond.instanceMethod yX8_present, Cond.selects RX8 yX8_present yX8_present, Cond.code yX8_present cX8_present 5 (some .int), Cond.methodLink RX8 184 yX8_measureOf, Cond.instanceMethod yX8_measureOf, Cond.selects RX8 yX8_measureOf yX8_measureOf, Cond.code yX8_measureOf cX8_measureOf 3 (some .int), Cond.methodLink RX8 95 yX8_isAllowed, Cond.instanceMethod yX8_isAllowed, Cond.selects RX8 yX8_isAllowed yX8_isAllowed, Cond.code yX8_isAllowed cX8_isAllowed 6 (some .boolean), Cond.methodLink RX8 99 yX8_distance, Cond.static yX8_distance, Cond.code yX8_distance cX8_distance 2 (some .int)]
def wsX8_costumeFor : List Cond := .code yX8_costumeFor cX8_costumeFor 6 (some .int) :: ((wsX8_costumeFor_r1 ++ (wsX8_costumeFor_r2 ++ wsX8_costumeFor_r3)) ++ wsX80)
def wsX8_freeFrom : List Cond := .code yX8_freeFrom cX8_freeFrom 4 (some .int) :: ([.fieldLink RX8 22 "CostumeStockModel" "thrown" "I", .constantLong RX8 203 (60), .fieldLink RX8 7 "CostumeStockModel" "s" "[I", .methodLink RX8 58 yX8_isCostume, .instanceMethod yX8_isCostume, .selects RX8 yX8_isCostume yX8_isCostume, .initialized RX8, .code yX8_isCostume cX8_isCostume 2 (some .boolean), .methodLink RX8 32 yX8_in, .static yX8_in, .code yX8_in cX8_in 6 (some .boolean), .methodLink RX8 209 yX8_isAwayIn, .instanceMethod yX8_isAwayIn, .selects RX8 yX8_isAwayIn yX8_isAwayIn, .code yX8_isAwayIn cX8_isAwayIn 7 (some .boolean), .methodLink RX8 81 yX8_ofHire, .instanceMethod yX8_ofHire, .selects RX8 yX8_ofHire yX8_ofHire, .code yX8_ofHire cX8_ofHire 3 (some .int)] ++ wsX80)
def wsX8_washable_r1 : List Cond := [Cond.fieldLink RX8 22 "CostumeStockModel" "thrown" "I", Cond.constantLong RX8 52 (3), Cond.fieldLink RX8 7 "CostumeStockModel" "s" "[I", Cond.methodLink RX8 32 yX8_in, Cond.static yX8_in, Cond.initialized RX8, Cond.code yX8_in cX8_in 6 (some .boolean), Cond.methodLink RX8 75 yX8_of, Cond.instanceMethod yX8_of, Cond.selects RX8 yX8_of yX8_of, Cond.code yX8_of cX8_of 3 (some .int), Cond.methodLink RX8 92 yX8_isAwayToday, Cond.instanceMethod yX8_isAwayToday, Cond.selects RX8 yX8_isAwayToday yX8_isAwayToday, Cond.code yX8_isAwayToday cX8_isAwayToday 2 (some .boolean), Cond.methodLink RX8 84 yX8_isAway, Cond.instanceMethod yX8_isAway, Cond.selects RX8 yX8_isAway yX8_isAway, Cond.code yX8_isAway cX8_isAway 4 (some .boolean), Cond.methodLink RX8 81 yX8_ofHire, Cond.instanceMethod yX8_ofHire, Cond.selects RX8 yX8_ofHire yX8_ofHire, Cond.code yX8_ofHire cX8_ofHire 3 (some .int), Cond.methodLink RX8 218 yX8_canWash]
def wsX8_washable_r2 : List Cond := [Cond.static yX8_canWash, Cond.code yX8_canWash cX8_canWash 2 (some .boolean)]
def wsX8_washable : List Cond := .code yX8_washable cX8_washable 6 (some .int) :: ((wsX8_washable_r1 ++ wsX8_washable_r2) ++ wsX80)
def wsJ9_abs_0f7a4 : List Cond := .code yJ9_abs_0f7a4 cJ9_abs_0f7a4 1 (some .int) :: ([])
def wsJ9_max_7cf53 : List Cond := .code yJ9_max_7cf53 cJ9_max_7cf53 2 (some .int) :: ([])
def wsJ9_min_7cf53 : List Cond := .code yJ9_min_7cf53 cJ9_min_7cf53 2 (some .int) :: ([])
def wsL_law_r1 : List Cond := [Cond.classLink RL 7 RX7, Cond.instantiable RX7 4, Cond.initialized RX7, Cond.classLink RL 10 RX8, Cond.instantiable RX8 12, Cond.initialized RX8, Cond.methodLink RL 9 yX7_init, Cond.instanceMethod yX7_init, Cond.code yX7_init cX7_init 1 none, Cond.methodLink RX7 1 objectInit, Cond.instanceMethod objectInit, Cond.code objectInit ⟨#[0xb1]⟩ 1 none, Cond.classLink RX7 7 RX4, Cond.instantiable RX4 9, Cond.initialized RX4, Cond.fieldLink RX7 10 "CostumeStock" "state" "LCostumeStock$State;", Cond.classLink RX7 16 RX2, Cond.instantiable RX2 3, Cond.initialized RX2, Cond.fieldLink RX7 19 "CostumeStock" "history" "LCostumeStock$History;", Cond.classLink RX7 23 RX5, Cond.instantiable RX5 2, Cond.initialized RX5, Cond.fieldLink RX7 26 "CostumeStock" "text" "LCostumeStock$Text;"]
def wsL_law_r2 : List Cond := [Cond.classLink RX7 30 RX3, Cond.instantiable RX3 8, Cond.initialized RX3, Cond.fieldLink RX7 35 "CostumeStock" "reader" "LCostumeStock$Reader;", Cond.instanceMethod yX4_init, Cond.code yX4_init cX4_init 1 none, Cond.methodLink RX4 3 objectInit, Cond.classLink RX4 9 RX6, Cond.instantiable RX6 9, Cond.initialized RX6, Cond.fieldLink RX4 12 "CostumeStock$State" "wardrobe" "LCostumeStock$Wardrobe;", Cond.classLink RX4 18 RX0, Cond.instantiable RX0 3, Cond.initialized RX0, Cond.fieldLink RX4 21 "CostumeStock$State" "cast" "LCostumeStock$Cast;", Cond.classLink RX4 25 RX1, Cond.instantiable RX1 6, Cond.initialized RX1, Cond.fieldLink RX4 28 "CostumeStock$State" "hires" "LCostumeStock$Hires;", Cond.arrayClass .int, Cond.fieldLink RX4 32 "CostumeStock$State" "settings" "[I", Cond.instanceMethod yX6_init, Cond.code yX6_init cX6_init 1 none, Cond.methodLink RX6 3 objectInit]
def wsL_law_r3 : List Cond := [Cond.fieldLink RX6 9 "CostumeStock$Wardrobe" "original" "[I", Cond.fieldLink RX6 15 "CostumeStock$Wardrobe" "allowance" "[I", Cond.fieldLink RX6 18 "CostumeStock$Wardrobe" "code" "[I", Cond.fieldLink RX6 21 "CostumeStock$Wardrobe" "color" "[I", Cond.fieldLink RX6 24 "CostumeStock$Wardrobe" "dirt" "[I", Cond.fieldLink RX6 27 "CostumeStock$Wardrobe" "alterations" "[I", Cond.fieldLink RX6 30 "CostumeStock$Wardrobe" "alteredMeasure" "[I", Cond.fieldLink RX6 33 "CostumeStock$Wardrobe" "change" "[I", Cond.instanceMethod yX0_init, Cond.code yX0_init cX0_init 1 none, Cond.methodLink RX0 3 objectInit, Cond.fieldLink RX0 9 "CostumeStock$Cast" "measures" "[I", Cond.fieldLink RX0 15 "CostumeStock$Cast" "worn" "[I", Cond.instanceMethod yX1_init, Cond.code yX1_init cX1_init 1 none, Cond.methodLink RX1 3 objectInit, Cond.fieldLink RX1 9 "CostumeStock$Hires" "costume" "[I", Cond.fieldLink RX1 15 "CostumeStock$Hires" "first" "[I", Cond.fieldLink RX1 18 "CostumeStock$Hires" "days" "[I", Cond.fieldLink RX1 21 "CostumeStock$Hires" "rate" "[I", Cond.fieldLink RX1 24 "CostumeStock$Hires" "fee" "[I", Cond.methodLink RX7 18 yX2_init, Cond.instanceMethod yX2_init, Cond.code yX2_init cX2_init 2 none]
def wsL_law_r4 : List Cond := [Cond.methodLink RX2 3 objectInit, Cond.classLink RX2 9 RX4, Cond.fieldLink RX2 11 "CostumeStock$History" "states" "[LCostumeStock$State;", Cond.instanceMethod yX5_init, Cond.code yX5_init cX5_init 1 none, Cond.methodLink RX5 3 objectInit, Cond.fieldLink RX5 9 "CostumeStock$Text" "characters" "[I", Cond.methodLink RX7 32 yX3_init, Cond.instanceMethod yX3_init, Cond.code yX3_init cX3_init 2 none, Cond.methodLink RX3 3 objectInit, Cond.fieldLink RX3 9 "CostumeStock$Reader" "text" "LCostumeStock$Text;", Cond.fieldLink RX3 15 "CostumeStock$Reader" "parts" "[I", Cond.methodLink RL 12 yX8_init, Cond.instanceMethod yX8_init, Cond.code yX8_init cX8_init 1 none, Cond.methodLink RX8 1 objectInit, Cond.fieldLink RX8 7 "CostumeStockModel" "s" "[I", Cond.fieldLink RX8 13 "CostumeStockModel" "aside" "[I", Cond.fieldLink RX8 16 "CostumeStockModel" "saved" "[I", Cond.fieldLink RX8 19 "CostumeStockModel" "text" "[I", Cond.fieldLink RX8 22 "CostumeStockModel" "thrown" "I", Cond.methodLink RL 13 yX7_addCostume, Cond.instanceMethod yX7_addCostume]
def wsL_law_r5 : List Cond := [Cond.selects RX7 yX7_addCostume yX7_addCostume, Cond.code yX7_addCostume cX7_addCostume 6 (some .int), Cond.fieldLink RX7 46 "CostumeStock$State" "wardrobe" "LCostumeStock$Wardrobe;", Cond.fieldLink RX7 50 "CostumeStock$Wardrobe" "size" "I", Cond.methodLink RX7 39 yX7_areMeasures, Cond.static yX7_areMeasures, Cond.code yX7_areMeasures cX7_areMeasures 3 (some .boolean), Cond.methodLink RX7 43 yX7_isWithin, Cond.static yX7_isWithin, Cond.code yX7_isWithin cX7_isWithin 3 (some .boolean), Cond.methodLink RX7 56 yX2_remember, Cond.instanceMethod yX2_remember, Cond.selects RX2 yX2_remember yX2_remember, Cond.code yX2_remember cX2_remember 3 none, Cond.fieldLink RX2 18 "CostumeStock$History" "next" "I", Cond.fieldLink RX2 30 "CostumeStock$History" "size" "I", Cond.methodLink RX2 33 Lib.Math.min.name, Cond.static Lib.Math.min.name, Cond.initialized "java/lang/Math", Cond.code Lib.Math.min.name Lib.Math.min.code 2 (some .int), Cond.methodLink RX2 22 yX2_stateAt, Cond.instanceMethod yX2_stateAt, Cond.selects RX2 yX2_stateAt yX2_stateAt, Cond.code yX2_stateAt cX2_stateAt 2 (some (.object "CostumeStock$State"))]
def wsL_law_r6 : List Cond := [Cond.methodLink RX2 26 yX4_become, Cond.instanceMethod yX4_become, Cond.selects RX4 yX4_become yX4_become, Cond.code yX4_become cX4_become 2 none, Cond.fieldLink RX4 50 "CostumeStock$State" "today" "I", Cond.fieldLink RX4 54 "CostumeStock$State" "minutes" "I", Cond.fieldLink RX4 57 "CostumeStock$State" "fees" "I", Cond.fieldLink RX4 60 "CostumeStock$State" "washing" "I", Cond.fieldLink RX4 63 "CostumeStock$State" "performances" "I", Cond.methodLink RX4 36 yX6_copyFrom, Cond.instanceMethod yX6_copyFrom, Cond.selects RX6 yX6_copyFrom yX6_copyFrom, Cond.code yX6_copyFrom cX6_copyFrom 2 none, Cond.fieldLink RX6 36 "CostumeStock$Wardrobe" "size" "I", Cond.static yX7_copyRow, Cond.code yX7_copyRow cX7_copyRow 2 none, Cond.methodLink RX7 284 Lib.Math.min.name, Cond.methodLink RX7 287 arraycopyName, Cond.native arraycopyName, Cond.static arraycopyName, Cond.initialized "java/lang/System", Cond.methodLink RX4 40 yX0_copyFrom, Cond.instanceMethod yX0_copyFrom, Cond.selects RX0 yX0_copyFrom yX0_copyFrom]
def wsL_law_r7 : List Cond := [Cond.code yX0_copyFrom cX0_copyFrom 2 none, Cond.fieldLink RX0 18 "CostumeStock$Cast" "size" "I", Cond.methodLink RX4 43 yX1_copyFrom, Cond.instanceMethod yX1_copyFrom, Cond.selects RX1 yX1_copyFrom yX1_copyFrom, Cond.code yX1_copyFrom cX1_copyFrom 2 none, Cond.fieldLink RX1 27 "CostumeStock$Hires" "size" "I", Cond.methodLink RX7 60 yX6_add, Cond.instanceMethod yX6_add, Cond.selects RX6 yX6_add yX6_add, Cond.code yX6_add cX6_add 8 (some .int), Cond.static yX7_put, Cond.code yX7_put cX7_put 3 none, Cond.methodLink RL 17 yX8_addCostume, Cond.instanceMethod yX8_addCostume, Cond.selects RX8 yX8_addCostume yX8_addCostume, Cond.code yX8_addCostume cX8_addCostume 6 (some .int), Cond.constantLong RX8 50 (8), Cond.constantLong RX8 52 (3), Cond.methodLink RX8 46 yX8_isMeasure, Cond.static yX8_isMeasure, Cond.code yX8_isMeasure cX8_isMeasure 1 (some .boolean), Cond.constantLong RX8 38 (40), Cond.constantLong RX8 40 (200)]
def wsL_law_r8 : List Cond := [Cond.methodLink RX8 32 yX8_in, Cond.static yX8_in, Cond.code yX8_in cX8_in 6 (some .boolean), Cond.methodLink RX8 29 yX8_act, Cond.instanceMethod yX8_act, Cond.selects RX8 yX8_act yX8_act, Cond.code yX8_act cX8_act 2 none, Cond.fieldLink RX8 26 "CostumeStockModel" "savedMany" "I", Cond.methodLink RX8 54 yX8_makeCostume, Cond.instanceMethod yX8_makeCostume, Cond.selects RX8 yX8_makeCostume yX8_makeCostume, Cond.code yX8_makeCostume cX8_makeCostume 9 (some .int), Cond.methodLink RX8 42 yX8_lay, Cond.instanceMethod yX8_lay, Cond.selects RX8 yX8_lay yX8_lay, Cond.code yX8_lay cX8_lay 4 none, Cond.methodLink RL 18 yX7_setColor, Cond.instanceMethod yX7_setColor, Cond.selects RX7 yX7_setColor yX7_setColor, Cond.code yX7_setColor cX7_setColor 4 (some .int), Cond.fieldLink RX7 68 "CostumeStock$Wardrobe" "color" "[I", Cond.methodLink RX7 64 yX6_has, Cond.instanceMethod yX6_has, Cond.selects RX6 yX6_has yX6_has]
def wsL_law_r9 : List Cond := [Cond.code yX6_has cX6_has 2 (some .boolean), Cond.methodLink RX7 72 yX7_at, Cond.static yX7_at, Cond.code yX7_at cX7_at 2 (some .int), Cond.methodLink RX7 76 yX7_put, Cond.methodLink RL 22 yX8_setColor, Cond.instanceMethod yX8_setColor, Cond.selects RX8 yX8_setColor yX8_setColor, Cond.code yX8_setColor cX8_setColor 3 (some .int), Cond.methodLink RX8 58 yX8_isCostume, Cond.instanceMethod yX8_isCostume, Cond.selects RX8 yX8_isCostume yX8_isCostume, Cond.code yX8_isCostume cX8_isCostume 2 (some .boolean), Cond.methodLink RX8 61 yX8_put, Cond.instanceMethod yX8_put, Cond.selects RX8 yX8_put yX8_put, Cond.code yX8_put cX8_put 4 (some .int), Cond.methodLink RL 23 yX7_addActor, Cond.instanceMethod yX7_addActor, Cond.selects RX7 yX7_addActor yX7_addActor, Cond.code yX7_addActor cX7_addActor 4 (some .int), Cond.fieldLink RX7 80 "CostumeStock$State" "cast" "LCostumeStock$Cast;", Cond.fieldLink RX7 84 "CostumeStock$Cast" "size" "I", Cond.methodLink RX7 87 yX0_add]
def wsL_law_r10 : List Cond := [Cond.instanceMethod yX0_add, Cond.selects RX0 yX0_add yX0_add, Cond.code yX0_add cX0_add 6 (some .int), Cond.methodLink RL 27 yX8_addActor, Cond.instanceMethod yX8_addActor, Cond.selects RX8 yX8_addActor yX8_addActor, Cond.code yX8_addActor cX8_addActor 4 (some .int), Cond.methodLink RX8 65 yX8_makeActor, Cond.instanceMethod yX8_makeActor, Cond.selects RX8 yX8_makeActor yX8_makeActor, Cond.code yX8_makeActor cX8_makeActor 6 (some .int), Cond.methodLink RL 28 yX7_set, Cond.instanceMethod yX7_set, Cond.selects RX7 yX7_set yX7_set, Cond.code yX7_set cX7_set 4 (some .int), Cond.fieldLink RX7 94 "CostumeStock$State" "settings" "[I", Cond.methodLink RX7 90 yX7_isSetting, Cond.static yX7_isSetting, Cond.code yX7_isSetting cX7_isSetting 2 (some .boolean), Cond.methodLink RL 31 yX8_set, Cond.instanceMethod yX8_set, Cond.selects RX8 yX8_set yX8_set, Cond.code yX8_set cX8_set 4 (some .int), Cond.constantLong RX8 69 (9)]
def wsL_law_r11 : List Cond := [Cond.constantLong RX8 71 (2), Cond.constantLong RX8 73 (20), Cond.methodLink RL 32 yX7_alter, Cond.instanceMethod yX7_alter, Cond.selects RX7 yX7_alter yX7_alter, Cond.code yX7_alter cX7_alter 5 (some .int), Cond.methodLink RX7 111 Lib.Math.abs.name, Cond.static Lib.Math.abs.name, Cond.code Lib.Math.abs.name Lib.Math.abs.code 1 (some .int), Cond.fieldLink RX7 116 "CostumeStock$State" "minutes" "I", Cond.methodLink RX7 97 yX4_isAway, Cond.instanceMethod yX4_isAway, Cond.selects RX4 yX4_isAway yX4_isAway, Cond.code yX4_isAway cX4_isAway 2 (some .boolean), Cond.methodLink RX4 66 yX1_overlapping, Cond.instanceMethod yX1_overlapping, Cond.selects RX1 yX1_overlapping yX1_overlapping, Cond.code yX1_overlapping cX1_overlapping 5 (some .int), Cond.methodLink RX1 47 yX1_dayAfter, Cond.instanceMethod yX1_dayAfter, Cond.selects RX1 yX1_dayAfter yX1_dayAfter, Cond.code yX1_dayAfter cX1_dayAfter 2 (some .int), Cond.methodLink RX7 100 yX6_allows, Cond.instanceMethod yX6_allows]
def wsL_law_r12 : List Cond := [Cond.selects RX6 yX6_allows yX6_allows, Cond.code yX6_allows cX6_allows 6 (some .boolean), Cond.methodLink RX6 52 yX6_originalOf, Cond.instanceMethod yX6_originalOf, Cond.selects RX6 yX6_originalOf yX6_originalOf, Cond.code yX6_originalOf cX6_originalOf 3 (some .int), Cond.methodLink RX6 59 yX6_present, Cond.instanceMethod yX6_present, Cond.selects RX6 yX6_present yX6_present, Cond.code yX6_present cX6_present 7 (some .int), Cond.methodLink RX6 56 yX6_placeOf, Cond.instanceMethod yX6_placeOf, Cond.selects RX6 yX6_placeOf yX6_placeOf, Cond.code yX6_placeOf cX6_placeOf 3 (some .int), Cond.methodLink RX7 103 yX6_roomForAlterations, Cond.instanceMethod yX6_roomForAlterations, Cond.selects RX6 yX6_roomForAlterations yX6_roomForAlterations, Cond.code yX6_roomForAlterations cX6_roomForAlterations 2 (some .int), Cond.methodLink RX7 107 yX6_addAlteration, Cond.instanceMethod yX6_addAlteration, Cond.selects RX6 yX6_addAlteration yX6_addAlteration, Cond.code yX6_addAlteration cX6_addAlteration 5 none, Cond.methodLink RL 35 yX8_alter, Cond.instanceMethod yX8_alter]
def wsL_law_r13 : List Cond := [Cond.selects RX8 yX8_alter yX8_alter, Cond.code yX8_alter cX8_alter 6 (some .int), Cond.constantLong RX8 88 (-10), Cond.constantLong RX8 90 (10), Cond.methodLink RX8 92 yX8_isAwayToday, Cond.instanceMethod yX8_isAwayToday, Cond.selects RX8 yX8_isAwayToday yX8_isAwayToday, Cond.code yX8_isAwayToday cX8_isAwayToday 2 (some .boolean), Cond.methodLink RX8 84 yX8_isAway, Cond.instanceMethod yX8_isAway, Cond.selects RX8 yX8_isAway yX8_isAway, Cond.code yX8_isAway cX8_isAway 4 (some .boolean), Cond.methodLink RX8 81 yX8_ofHire, Cond.instanceMethod yX8_ofHire, Cond.selects RX8 yX8_ofHire yX8_ofHire, Cond.code yX8_ofHire cX8_ofHire 3 (some .int), Cond.methodLink RX8 95 yX8_isAllowed, Cond.instanceMethod yX8_isAllowed, Cond.selects RX8 yX8_isAllowed yX8_isAllowed, Cond.code yX8_isAllowed cX8_isAllowed 6 (some .boolean), Cond.methodLink RX8 78 yX8_present, Cond.instanceMethod yX8_present, Cond.selects RX8 yX8_present yX8_present, Cond.code yX8_present cX8_present 5 (some .int)]
def wsL_law_r14 : List Cond := [Cond.methodLink RX8 75 yX8_of, Cond.instanceMethod yX8_of, Cond.selects RX8 yX8_of yX8_of, Cond.code yX8_of cX8_of 3 (some .int), Cond.methodLink RX8 99 yX8_distance, Cond.static yX8_distance, Cond.code yX8_distance cX8_distance 2 (some .int), Cond.methodLink RL 36 yX7_unpick, Cond.instanceMethod yX7_unpick, Cond.selects RX7 yX7_unpick yX7_unpick, Cond.code yX7_unpick cX7_unpick 4 (some .int), Cond.fieldLink RX7 119 "CostumeStock$Wardrobe" "alterations" "[I", Cond.methodLink RX7 122 yX6_removeAlteration, Cond.instanceMethod yX6_removeAlteration, Cond.selects RX6 yX6_removeAlteration yX6_removeAlteration, Cond.code yX6_removeAlteration cX6_removeAlteration 3 (some .int), Cond.methodLink RL 40 yX8_unpick, Cond.instanceMethod yX8_unpick, Cond.selects RX8 yX8_unpick yX8_unpick, Cond.code yX8_unpick cX8_unpick 4 (some .int), Cond.methodLink RL 41 yX7_append, Cond.instanceMethod yX7_append, Cond.selects RX7 yX7_append yX7_append, Cond.code yX7_append cX7_append 2 (some .int)]
def wsL_law_r15 : List Cond := [Cond.fieldLink RX7 125 "CostumeStock$Text" "length" "I", Cond.methodLink RX7 128 yX5_add, Cond.instanceMethod yX5_add, Cond.selects RX5 yX5_add yX5_add, Cond.code yX5_add cX5_add 2 (some .int), Cond.fieldLink RX5 15 "CostumeStock$Text" "length" "I", Cond.methodLink RL 44 yX8_append, Cond.instanceMethod yX8_append, Cond.selects RX8 yX8_append yX8_append, Cond.code yX8_append cX8_append 2 (some .int), Cond.constantLong RX8 102 (255), Cond.fieldLink RX8 104 "CostumeStockModel" "length" "I", Cond.methodLink RL 45 yX7_clearText, Cond.instanceMethod yX7_clearText, Cond.selects RX7 yX7_clearText yX7_clearText, Cond.code yX7_clearText cX7_clearText 1 (some .int), Cond.methodLink RX7 130 yX5_empty, Cond.instanceMethod yX5_empty, Cond.selects RX5 yX5_empty yX5_empty, Cond.code yX5_empty cX5_empty 2 (some .int), Cond.methodLink RL 49 yX8_clearText, Cond.instanceMethod yX8_clearText, Cond.selects RX8 yX8_clearText yX8_clearText, Cond.code yX8_clearText cX8_clearText 2 (some .int)]
def wsL_law_r16 : List Cond := [Cond.methodLink RL 50 yX7_load, Cond.instanceMethod yX7_load, Cond.selects RX7 yX7_load yX7_load, Cond.code yX7_load cX7_load 2 (some .int), Cond.fieldLink RX7 137 "CostumeStock$Reader" "start" "I", Cond.fieldLink RX7 140 "CostumeStock$Reader" "items" "I", Cond.methodLink RX7 134 yX3_readAll, Cond.instanceMethod yX3_readAll, Cond.selects RX3 yX3_readAll yX3_readAll, Cond.code yX3_readAll cX3_readAll 4 (some .boolean), Cond.fieldLink RX3 31 "CostumeStock$Reader" "costumesLeft" "I", Cond.fieldLink RX3 34 "CostumeStock$Reader" "actorsLeft" "I", Cond.fieldLink RX3 23 "CostumeStock$Reader" "items" "I", Cond.fieldLink RX3 37 "CostumeStock$Reader" "end" "I", Cond.fieldLink RX3 43 "CostumeStock$Reader" "token" "I", Cond.methodLink RX3 40 yX3_nextToken, Cond.instanceMethod yX3_nextToken, Cond.selects RX3 yX3_nextToken yX3_nextToken, Cond.code yX3_nextToken cX3_nextToken 1 none, Cond.fieldLink RX3 77 "CostumeStock$Reader" "start" "I", Cond.fieldLink RX3 104 "CostumeStock$Text" "length" "I", Cond.fieldLink RX3 72 "CostumeStock$Text" "characters" "[I", Cond.methodLink RX3 106 yX3_kindAt, Cond.instanceMethod yX3_kindAt]
def wsL_law_r17 : List Cond := [Cond.selects RX3 yX3_kindAt yX3_kindAt, Cond.code yX3_kindAt cX3_kindAt 3 (some .int), Cond.methodLink RX3 46 yX3_readItem, Cond.instanceMethod yX3_readItem, Cond.selects RX3 yX3_readItem yX3_readItem, Cond.code yX3_readItem cX3_readItem 4 (some .boolean), Cond.methodLink RX3 52 yX3_isWord, Cond.instanceMethod yX3_isWord, Cond.selects RX3 yX3_isWord yX3_isWord, Cond.code yX3_isWord cX3_isWord 3 (some .boolean), Cond.methodLink RX3 94 yJ0_length_8abf5, Cond.instanceMethod yJ0_length_8abf5, Cond.selects RJ0 yJ0_length_8abf5 yJ0_length_8abf5, Cond.initialized RJ0, Cond.code yJ0_length_8abf5 cJ0_length_8abf5 1 (some .int), Cond.fieldLink RJ0 9 "java/lang/String" "value" "[B", Cond.methodLink RJ0 335 yJ0_coder_7d493, Cond.instanceMethod yJ0_coder_7d493, Cond.selects RJ0 yJ0_coder_7d493 yJ0_coder_7d493, Cond.code yJ0_coder_7d493 cJ0_coder_7d493 1 (some .byte), Cond.fieldLink RJ0 38 "java/lang/String" "COMPACT_STRINGS" "Z", Cond.fieldLink RJ0 15 "java/lang/String" "coder" "B", Cond.methodLink RX3 100 yJ0_charAt_5068e, Cond.instanceMethod yJ0_charAt_5068e]
def wsL_law_r18 : List Cond := [Cond.selects RJ0 yJ0_charAt_5068e yJ0_charAt_5068e, Cond.code yJ0_charAt_5068e cJ0_charAt_5068e 2 (some .char), Cond.methodLink RJ0 492 yJ0_isLatin1_aae02, Cond.instanceMethod yJ0_isLatin1_aae02, Cond.selects RJ0 yJ0_isLatin1_aae02 yJ0_isLatin1_aae02, Cond.code yJ0_isLatin1_aae02 cJ0_isLatin1_aae02 1 (some .boolean), Cond.methodLink RJ0 495 yJ1_charAt_3b067, Cond.static yJ1_charAt_3b067, Cond.initialized RJ1, Cond.code yJ1_charAt_3b067 cJ1_charAt_3b067 2 (some .char), Cond.methodLink RJ1 9 yJ0_checkIndex_df160, Cond.static yJ0_checkIndex_df160, Cond.code yJ0_checkIndex_df160 cJ0_checkIndex_df160 2 none, Cond.fieldLink RJ0 1053 "jdk/internal/util/Preconditions" "SIOOBE_FORMATTER" "Ljava/util/function/BiFunction;", Cond.methodLink RJ0 1059 yJ3_checkIndex_8e157, Cond.static yJ3_checkIndex_8e157, Cond.initialized RJ3, Cond.code yJ3_checkIndex_8e157 cJ3_checkIndex_8e157 3 (some .int), Cond.methodLink RJ0 498 yJ2_charAt_3b067, Cond.static yJ2_charAt_3b067, Cond.initialized RJ2, Cond.code yJ2_charAt_3b067 cJ2_charAt_3b067 2 (some .char), Cond.methodLink RJ2 67 yJ2_checkIndex_2214a, Cond.static yJ2_checkIndex_2214a]
def wsL_law_r19 : List Cond := [Cond.code yJ2_checkIndex_2214a cJ2_checkIndex_2214a 2 none, Cond.methodLink RJ2 48 yJ2_length_9d52b, Cond.static yJ2_length_9d52b, Cond.code yJ2_length_9d52b cJ2_length_9d52b 1 (some .int), Cond.methodLink RJ2 414 yJ0_checkIndex_df160, Cond.methodLink RJ2 71 yJ2_getChar_3b067, Cond.static yJ2_getChar_3b067, Cond.code yJ2_getChar_3b067 cJ2_getChar_3b067 2 (some .char), Cond.fieldLink RJ2 44 "java/lang/StringUTF16" "$assertionsDisabled" "Z", Cond.fieldLink RJ2 59 "java/lang/StringUTF16" "HI_BYTE_SHIFT" "I", Cond.fieldLink RJ2 63 "java/lang/StringUTF16" "LO_BYTE_SHIFT" "I", Cond.methodLink RX3 58 yX3_takePlace, Cond.instanceMethod yX3_takePlace, Cond.selects RX3 yX3_takePlace yX3_takePlace, Cond.code yX3_takePlace cX3_takePlace 2 (some .boolean), Cond.methodLink RX3 62 yX3_keep, Cond.instanceMethod yX3_keep, Cond.selects RX3 yX3_keep yX3_keep, Cond.code yX3_keep cX3_keep 3 none, Cond.methodLink RX3 66 yX3_readNumber, Cond.instanceMethod yX3_readNumber, Cond.selects RX3 yX3_readNumber yX3_readNumber, Cond.code yX3_readNumber cX3_readNumber 5 (some .boolean), Cond.methodLink RX3 80 Lib.Math.min.name]
def wsL_law_r20 : List Cond := [Cond.methodLink RX3 86 yX3_isAllowed, Cond.static yX3_isAllowed, Cond.code yX3_isAllowed cX3_isAllowed 2 (some .boolean), Cond.methodLink RX7 143 yX7_addItem, Cond.instanceMethod yX7_addItem, Cond.selects RX7 yX7_addItem yX7_addItem, Cond.code yX7_addItem cX7_addItem 5 none, Cond.methodLink RX7 147 yX3_part, Cond.instanceMethod yX3_part, Cond.selects RX3 yX3_part yX3_part, Cond.code yX3_part cX3_part 3 (some .int), Cond.methodLink RL 53 yX8_load, Cond.instanceMethod yX8_load, Cond.selects RX8 yX8_load yX8_load, Cond.code yX8_load cX8_load 2 (some .int), Cond.fieldLink RX8 107 "CostumeStockModel" "next" "I", Cond.fieldLink RX8 136 "CostumeStockModel" "isWrong" "Z", Cond.fieldLink RX8 121 "CostumeStockModel" "token" "I", Cond.fieldLink RX8 114 "CostumeStockModel" "start" "I", Cond.methodLink RX8 140 yX8_read, Cond.instanceMethod yX8_read, Cond.selects RX8 yX8_read yX8_read, Cond.code yX8_read cX8_read 1 none, Cond.fieldLink RX8 117 "CostumeStockModel" "worth" "J"]
def wsL_law_r21 : List Cond := [Cond.constantLong RX8 124 (97), Cond.constantLong RX8 126 (122), Cond.constantLong RX8 128 (27), Cond.constantLong RX8 130 (48), Cond.constantLong RX8 132 (57), Cond.constantLong RX8 134 (100000), Cond.methodLink RX8 110 yX8_here, Cond.instanceMethod yX8_here, Cond.selects RX8 yX8_here yX8_here, Cond.code yX8_here cX8_here 1 (some .int), Cond.methodLink RX8 160 yX8_readItem, Cond.instanceMethod yX8_readItem, Cond.selects RX8 yX8_readItem yX8_readItem, Cond.code yX8_readItem cX8_readItem 9 none, Cond.constantLong RX8 147 (1388001776), Cond.constantLong RX8 153 (605493), Cond.constantLong RX8 158 (79958), Cond.methodLink RX8 149 yX8_isWord, Cond.instanceMethod yX8_isWord, Cond.selects RX8 yX8_isWord yX8_isWord, Cond.code yX8_isWord cX8_isWord 3 (some .boolean), Cond.methodLink RX8 143 yX8_take, Cond.instanceMethod yX8_take, Cond.selects RX8 yX8_take yX8_take]
def wsL_law_r22 : List Cond := [Cond.code yX8_take cX8_take 2 none, Cond.methodLink RX8 155 yX8_takeNumber, Cond.instanceMethod yX8_takeNumber, Cond.selects RX8 yX8_takeNumber yX8_takeNumber, Cond.code yX8_takeNumber cX8_takeNumber 4 (some .int), Cond.methodLink RX8 163 yX8_exchange, Cond.instanceMethod yX8_exchange, Cond.selects RX8 yX8_exchange yX8_exchange, Cond.code yX8_exchange cX8_exchange 3 none, Cond.methodLink RL 54 yX7_wear, Cond.instanceMethod yX7_wear, Cond.selects RX7 yX7_wear yX7_wear, Cond.code yX7_wear cX7_wear 4 (some .int), Cond.methodLink RX7 151 yX0_has, Cond.instanceMethod yX0_has, Cond.selects RX0 yX0_has yX0_has, Cond.code yX0_has cX0_has 2 (some .boolean), Cond.methodLink RX7 152 yX0_dress, Cond.instanceMethod yX0_dress, Cond.selects RX0 yX0_dress yX0_dress, Cond.code yX0_dress cX0_dress 5 (some .int), Cond.methodLink RX0 34 yX0_wornIn, Cond.instanceMethod yX0_wornIn, Cond.selects RX0 yX0_wornIn yX0_wornIn]
def wsL_law_r23 : List Cond := [Cond.code yX0_wornIn cX0_wornIn 3 (some .int), Cond.methodLink RL 57 yX8_wear, Cond.instanceMethod yX8_wear, Cond.selects RX8 yX8_wear yX8_wear, Cond.code yX8_wear cX8_wear 4 (some .int), Cond.methodLink RX8 166 yX8_isScene, Cond.static yX8_isScene, Cond.code yX8_isScene cX8_isScene 1 (some .boolean), Cond.constantLong RX8 36 (11), Cond.methodLink RX8 169 yX8_isActor, Cond.instanceMethod yX8_isActor, Cond.selects RX8 yX8_isActor yX8_isActor, Cond.code yX8_isActor cX8_isActor 2 (some .boolean), Cond.methodLink RL 58 yX7_perform, Cond.instanceMethod yX7_perform, Cond.selects RX7 yX7_perform yX7_perform, Cond.code yX7_perform cX7_perform 2 (some .int), Cond.fieldLink RX7 158 "CostumeStock$State" "today" "I", Cond.fieldLink RX7 164 "CostumeStock$State" "performances" "I", Cond.methodLink RX7 155 yX4_problemsOf, Cond.instanceMethod yX4_problemsOf, Cond.selects RX4 yX4_problemsOf yX4_problemsOf, Cond.code yX4_problemsOf cX4_problemsOf 2 (some .int), Cond.methodLink RX4 125 yX4_wornTwice]
def wsL_law_r24 : List Cond := [Cond.instanceMethod yX4_wornTwice, Cond.selects RX4 yX4_wornTwice yX4_wornTwice, Cond.code yX4_wornTwice cX4_wornTwice 4 (some .int), Cond.fieldLink RX4 70 "CostumeStock$Wardrobe" "size" "I", Cond.methodLink RX4 135 yX0_wearers, Cond.instanceMethod yX0_wearers, Cond.selects RX0 yX0_wearers yX0_wearers, Cond.code yX0_wearers cX0_wearers 5 (some .int), Cond.methodLink RX4 129 yX4_handedOver, Cond.instanceMethod yX4_handedOver, Cond.selects RX4 yX4_handedOver yX4_handedOver, Cond.code yX4_handedOver cX4_handedOver 4 (some .int), Cond.methodLink RX4 138 yX0_isHandedOver, Cond.instanceMethod yX0_isHandedOver, Cond.selects RX0 yX0_isHandedOver yX0_isHandedOver, Cond.code yX0_isHandedOver cX0_isHandedOver 4 (some .boolean), Cond.methodLink RX0 38 yX0_wearers, Cond.methodLink RX4 132 yX4_wornAmiss, Cond.instanceMethod yX4_wornAmiss, Cond.selects RX4 yX4_wornAmiss yX4_wornAmiss, Cond.code yX4_wornAmiss cX4_wornAmiss 7 (some .int), Cond.fieldLink RX4 142 "CostumeStock$Cast" "size" "I", Cond.methodLink RX4 143 yX0_wornIn, Cond.methodLink RX4 146 yX4_misfitOf]
def wsL_law_r25 : List Cond := [Cond.instanceMethod yX4_misfitOf, Cond.selects RX4 yX4_misfitOf yX4_misfitOf, Cond.code yX4_misfitOf cX4_misfitOf 5 (some .int), Cond.methodLink RX4 94 Lib.Math.abs.name, Cond.methodLink RX4 91 yX4_lackOf, Cond.instanceMethod yX4_lackOf, Cond.selects RX4 yX4_lackOf yX4_lackOf, Cond.code yX4_lackOf cX4_lackOf 7 (some .int), Cond.methodLink RX4 84 yX6_present, Cond.methodLink RX4 88 yX0_measureOf, Cond.instanceMethod yX0_measureOf, Cond.selects RX0 yX0_measureOf yX0_measureOf, Cond.code yX0_measureOf cX0_measureOf 3 (some .int), Cond.methodLink RX4 73 yX4_isAway, Cond.methodLink RX4 113 yX4_isTooDirty, Cond.instanceMethod yX4_isTooDirty, Cond.selects RX4 yX4_isTooDirty yX4_isTooDirty, Cond.code yX4_isTooDirty cX4_isTooDirty 2 (some .boolean), Cond.fieldLink RX4 77 "CostumeStock$Wardrobe" "dirt" "[I", Cond.methodLink RX7 161 yX4_soilAll, Cond.instanceMethod yX4_soilAll, Cond.selects RX4 yX4_soilAll yX4_soilAll, Cond.code yX4_soilAll cX4_soilAll 2 none, Cond.methodLink RX4 149 yX0_scenesOf]
def wsL_law_r26 : List Cond := [Cond.instanceMethod yX0_scenesOf, Cond.selects RX0 yX0_scenesOf yX0_scenesOf, Cond.code yX0_scenesOf cX0_scenesOf 4 (some .int), Cond.methodLink RX4 152 yX6_soil, Cond.instanceMethod yX6_soil, Cond.selects RX6 yX6_soil yX6_soil, Cond.code yX6_soil cX6_soil 3 none, Cond.methodLink RX6 69 Lib.Math.min.name, Cond.methodLink RL 61 yX8_perform, Cond.instanceMethod yX8_perform, Cond.selects RX8 yX8_perform yX8_perform, Cond.code yX8_perform cX8_perform 3 (some .int), Cond.methodLink RX8 197 yX8_problemsOf, Cond.instanceMethod yX8_problemsOf, Cond.selects RX8 yX8_problemsOf yX8_problemsOf, Cond.code yX8_problemsOf cX8_problemsOf 5 (some .int), Cond.methodLink RX8 190 yX8_costumeProblems, Cond.instanceMethod yX8_costumeProblems, Cond.selects RX8 yX8_costumeProblems yX8_costumeProblems, Cond.code yX8_costumeProblems cX8_costumeProblems 5 (some .int), Cond.methodLink RX8 175 yX8_wearers, Cond.instanceMethod yX8_wearers, Cond.selects RX8 yX8_wearers yX8_wearers, Cond.code yX8_wearers cX8_wearers 5 (some .int)]
def wsL_law_r27 : List Cond := [Cond.methodLink RX8 172 yX8_worn, Cond.instanceMethod yX8_worn, Cond.selects RX8 yX8_worn yX8_worn, Cond.code yX8_worn cX8_worn 3 (some .int), Cond.methodLink RX8 178 yX8_isHanded, Cond.instanceMethod yX8_isHanded, Cond.selects RX8 yX8_isHanded yX8_isHanded, Cond.code yX8_isHanded cX8_isHanded 5 (some .boolean), Cond.methodLink RX8 194 yX8_isProblem, Cond.instanceMethod yX8_isProblem, Cond.selects RX8 yX8_isProblem yX8_isProblem, Cond.code yX8_isProblem cX8_isProblem 4 (some .boolean), Cond.methodLink RX8 187 yX8_misfitOf, Cond.instanceMethod yX8_misfitOf, Cond.selects RX8 yX8_misfitOf yX8_misfitOf, Cond.code yX8_misfitOf cX8_misfitOf 5 (some .int), Cond.methodLink RX8 181 yX8_wantedOf, Cond.instanceMethod yX8_wantedOf, Cond.selects RX8 yX8_wantedOf yX8_wantedOf, Cond.code yX8_wantedOf cX8_wantedOf 7 (some .int), Cond.methodLink RX8 184 yX8_measureOf, Cond.instanceMethod yX8_measureOf, Cond.selects RX8 yX8_measureOf yX8_measureOf, Cond.code yX8_measureOf cX8_measureOf 3 (some .int)]
def wsL_law_r28 : List Cond := [Cond.methodLink RX8 200 yX8_scenesOf, Cond.instanceMethod yX8_scenesOf, Cond.selects RX8 yX8_scenesOf yX8_scenesOf, Cond.code yX8_scenesOf cX8_scenesOf 4 (some .int), Cond.methodLink RL 62 yX7_pass, Cond.instanceMethod yX7_pass, Cond.selects RX7 yX7_pass yX7_pass, Cond.code yX7_pass cX7_pass 2 (some .int), Cond.methodLink RL 65 yX8_pass, Cond.instanceMethod yX8_pass, Cond.selects RX8 yX8_pass yX8_pass, Cond.code yX8_pass cX8_pass 2 (some .int), Cond.constantLong RX8 203 (60), Cond.methodLink RL 66 yX7_hire, Cond.instanceMethod yX7_hire, Cond.selects RX7 yX7_hire yX7_hire, Cond.code yX7_hire cX7_hire 6 (some .int), Cond.fieldLink RX7 167 "CostumeStock$State" "hires" "LCostumeStock$Hires;", Cond.fieldLink RX7 176 "CostumeStock$Hires" "size" "I", Cond.fieldLink RX7 180 "CostumeStock$State" "fees" "I", Cond.methodLink RX7 171 yX1_overlapping, Cond.methodLink RX7 177 yX1_add, Cond.instanceMethod yX1_add, Cond.selects RX1 yX1_add yX1_add]
def wsL_law_r29 : List Cond := [Cond.code yX1_add cX1_add 6 (some .int), Cond.methodLink RX1 35 yX1_feeFor, Cond.static yX1_feeFor, Cond.code yX1_feeFor cX1_feeFor 2 (some .int), Cond.methodLink RL 70 yX8_hire, Cond.instanceMethod yX8_hire, Cond.selects RX8 yX8_hire yX8_hire, Cond.code yX8_hire cX8_hire 6 (some .int), Cond.constantLong RX8 205 (300), Cond.constantLong RX8 207 (50), Cond.methodLink RX8 209 yX8_isAwayIn, Cond.instanceMethod yX8_isAwayIn, Cond.selects RX8 yX8_isAwayIn yX8_isAwayIn, Cond.code yX8_isAwayIn cX8_isAwayIn 7 (some .boolean), Cond.methodLink RX8 212 yX8_feeOf, Cond.static yX8_feeOf, Cond.code yX8_feeOf cX8_feeOf 2 (some .int), Cond.methodLink RL 71 yX7_endHire, Cond.instanceMethod yX7_endHire, Cond.selects RX7 yX7_endHire yX7_endHire, Cond.code yX7_endHire cX7_endHire 3 (some .int), Cond.methodLink RX7 183 yX1_has, Cond.instanceMethod yX1_has, Cond.selects RX1 yX1_has yX1_has]
def wsL_law_r30 : List Cond := [Cond.code yX1_has cX1_has 2 (some .boolean), Cond.methodLink RX7 184 yX1_canEnd, Cond.instanceMethod yX1_canEnd, Cond.selects RX1 yX1_canEnd yX1_canEnd, Cond.code yX1_canEnd cX1_canEnd 3 (some .boolean), Cond.methodLink RX7 187 yX1_end, Cond.instanceMethod yX1_end, Cond.selects RX1 yX1_end yX1_end, Cond.code yX1_end cX1_end 5 (some .int), Cond.methodLink RL 74 yX8_endHire, Cond.instanceMethod yX8_endHire, Cond.selects RX8 yX8_endHire yX8_endHire, Cond.code yX8_endHire cX8_endHire 5 (some .int), Cond.methodLink RL 75 yX7_wash, Cond.instanceMethod yX7_wash, Cond.selects RX7 yX7_wash yX7_wash, Cond.code yX7_wash cX7_wash 3 (some .int), Cond.fieldLink RX7 199 "CostumeStock$State" "washing" "I", Cond.fieldLink RX7 202 "CostumeStock" "COST_OF_PROGRAM" "[I", Cond.fieldLink RX7 205 "CostumeStock" "DIRT_OUT_OF_PROGRAM" "[I", Cond.methodLink RX7 190 yX7_isProgram, Cond.static yX7_isProgram, Cond.code yX7_isProgram cX7_isProgram 1 (some .boolean), Cond.methodLink RX7 193 yX7_isSetOfCostumes]
def wsL_law_r31 : List Cond := [Cond.instanceMethod yX7_isSetOfCostumes, Cond.selects RX7 yX7_isSetOfCostumes yX7_isSetOfCostumes, Cond.code yX7_isSetOfCostumes cX7_isSetOfCostumes 2 (some .boolean), Cond.methodLink RX7 196 yX4_allowsLoad, Cond.instanceMethod yX4_allowsLoad, Cond.selects RX4 yX4_allowsLoad yX4_allowsLoad, Cond.code yX4_allowsLoad cX4_allowsLoad 5 (some .boolean), Cond.fieldLink RX4 167 "CostumeStock$Wardrobe" "color" "[I", Cond.methodLink RX4 156 yJ6_bitCount_0f7a4, Cond.static yJ6_bitCount_0f7a4, Cond.initialized RJ6, Cond.code yJ6_bitCount_0f7a4 cJ6_bitCount_0f7a4 1 (some .int), Cond.constant RJ6 265 (1431655765), Cond.constant RJ6 266 (858993459), Cond.constant RJ6 267 (252645135), Cond.static yX7_isIn, Cond.code yX7_isIn cX7_isIn 2 (some .boolean), Cond.methodLink RX4 164 yX6_canBeWashed, Cond.instanceMethod yX6_canBeWashed, Cond.selects RX6 yX6_canBeWashed yX6_canBeWashed, Cond.code yX6_canBeWashed cX6_canBeWashed 3 (some .boolean), Cond.methodLink RX7 208 yX6_clean, Cond.instanceMethod yX6_clean, Cond.selects RX6 yX6_clean yX6_clean]
def wsL_law_r32 : List Cond := [Cond.code yX6_clean cX6_clean 6 (some .int), Cond.methodLink RL 78 yX8_wash, Cond.instanceMethod yX8_wash, Cond.selects RX8 yX8_wash yX8_wash, Cond.code yX8_wash cX8_wash 7 (some .int), Cond.methodLink RX8 221 yX8_isLoadAllowed, Cond.instanceMethod yX8_isLoadAllowed, Cond.selects RX8 yX8_isLoadAllowed yX8_isLoadAllowed, Cond.code yX8_isLoadAllowed cX8_isLoadAllowed 7 (some .boolean), Cond.methodLink RX8 215 yX8_has, Cond.static yX8_has, Cond.code yX8_has cX8_has 2 (some .boolean), Cond.methodLink RX8 218 yX8_canWash, Cond.static yX8_canWash, Cond.code yX8_canWash cX8_canWash 2 (some .boolean), Cond.methodLink RX8 224 yX8_washesOut, Cond.static yX8_washesOut, Cond.code yX8_washesOut cX8_washesOut 1 (some .int), Cond.methodLink RX8 227 yX8_costOf, Cond.static yX8_costOf, Cond.code yX8_costOf cX8_costOf 1 (some .int), Cond.methodLink RL 79 yX7_undo, Cond.instanceMethod yX7_undo, Cond.selects RX7 yX7_undo yX7_undo]
def wsL_law_r33 : List Cond := [Cond.code yX7_undo cX7_undo 1 (some .int), Cond.fieldLink RX7 211 "CostumeStock$History" "size" "I", Cond.methodLink RX7 212 yX2_restore, Cond.instanceMethod yX2_restore, Cond.selects RX2 yX2_restore yX2_restore, Cond.code yX2_restore cX2_restore 4 none, Cond.methodLink RL 82 yX8_undo, Cond.instanceMethod yX8_undo, Cond.selects RX8 yX8_undo yX8_undo, Cond.code yX8_undo cX8_undo 2 (some .int), Cond.methodLink RL 83 yX7_count, Cond.instanceMethod yX7_count, Cond.selects RX7 yX7_count yX7_count, Cond.code yX7_count cX7_count 2 (some .int), Cond.methodLink RX7 215 yX0_quickChanges, Cond.instanceMethod yX0_quickChanges, Cond.selects RX0 yX0_quickChanges yX0_quickChanges, Cond.code yX0_quickChanges cX0_quickChanges 6 (some .int), Cond.methodLink RX7 218 yX4_awayToday, Cond.instanceMethod yX4_awayToday, Cond.selects RX4 yX4_awayToday yX4_awayToday, Cond.code yX4_awayToday cX4_awayToday 3 (some .int), Cond.methodLink RL 86 yX8_count, Cond.instanceMethod yX8_count]
def wsL_law_r34 : List Cond := [Cond.selects RX8 yX8_count yX8_count, Cond.code yX8_count cX8_count 2 (some .int), Cond.constantLong RX8 236 (12), Cond.constantLong RX8 238 (15), Cond.methodLink RX8 230 yX8_quickChanges, Cond.instanceMethod yX8_quickChanges, Cond.selects RX8 yX8_quickChanges yX8_quickChanges, Cond.code yX8_quickChanges cX8_quickChanges 6 (some .int), Cond.methodLink RX8 233 yX8_awayToday, Cond.instanceMethod yX8_awayToday, Cond.selects RX8 yX8_awayToday yX8_awayToday, Cond.code yX8_awayToday cX8_awayToday 3 (some .int), Cond.methodLink RL 87 yX7_costume, Cond.instanceMethod yX7_costume, Cond.selects RX7 yX7_costume yX7_costume, Cond.code yX7_costume cX7_costume 3 (some .int), Cond.fieldLink RX7 227 "CostumeStock$Wardrobe" "allowance" "[I", Cond.fieldLink RX7 230 "CostumeStock$Wardrobe" "code" "[I", Cond.fieldLink RX7 233 "CostumeStock$Wardrobe" "dirt" "[I", Cond.methodLink RX7 221 yX6_present, Cond.methodLink RX7 224 yX6_originalOf, Cond.methodLink RX7 236 yX0_scenesOf, Cond.methodLink RX7 239 yX1_hiresOf, Cond.instanceMethod yX1_hiresOf]
def wsL_law_r35 : List Cond := [Cond.selects RX1 yX1_hiresOf yX1_hiresOf, Cond.code yX1_hiresOf cX1_hiresOf 4 (some .int), Cond.methodLink RL 90 yX8_costume, Cond.instanceMethod yX8_costume, Cond.selects RX8 yX8_costume yX8_costume, Cond.code yX8_costume cX8_costume 3 (some .int), Cond.methodLink RX8 240 yX8_hiresOf, Cond.instanceMethod yX8_hiresOf, Cond.selects RX8 yX8_hiresOf yX8_hiresOf, Cond.code yX8_hiresOf cX8_hiresOf 4 (some .int), Cond.methodLink RL 91 yX7_alteration, Cond.instanceMethod yX7_alteration, Cond.selects RX7 yX7_alteration yX7_alteration, Cond.code yX7_alteration cX7_alteration 5 (some .int), Cond.fieldLink RX7 245 "CostumeStock$Wardrobe" "alteredMeasure" "[I", Cond.fieldLink RX7 248 "CostumeStock$Wardrobe" "change" "[I", Cond.methodLink RX7 242 yX6_placeOf, Cond.methodLink RL 94 yX8_alteration, Cond.instanceMethod yX8_alteration, Cond.selects RX8 yX8_alteration yX8_alteration, Cond.code yX8_alteration cX8_alteration 4 (some .int), Cond.methodLink RL 95 yX7_actor, Cond.instanceMethod yX7_actor, Cond.selects RX7 yX7_actor yX7_actor]
def wsL_law_r36 : List Cond := [Cond.code yX7_actor cX7_actor 3 (some .int), Cond.methodLink RX7 251 yX0_measureOf, Cond.methodLink RX7 254 yX0_wornIn, Cond.methodLink RL 98 yX8_actor, Cond.instanceMethod yX8_actor, Cond.selects RX8 yX8_actor yX8_actor, Cond.code yX8_actor cX8_actor 3 (some .int), Cond.constantLong RX8 243 (14), Cond.methodLink RL 99 yX7_hired, Cond.instanceMethod yX7_hired, Cond.selects RX7 yX7_hired yX7_hired, Cond.code yX7_hired cX7_hired 3 (some .int), Cond.fieldLink RX7 257 "CostumeStock$Hires" "costume" "[I", Cond.fieldLink RX7 260 "CostumeStock$Hires" "first" "[I", Cond.fieldLink RX7 263 "CostumeStock$Hires" "days" "[I", Cond.fieldLink RX7 266 "CostumeStock$Hires" "fee" "[I", Cond.methodLink RL 102 yX8_hired, Cond.instanceMethod yX8_hired, Cond.selects RX8 yX8_hired yX8_hired, Cond.code yX8_hired cX8_hired 3 (some .int), Cond.methodLink RL 103 yX7_problems, Cond.instanceMethod yX7_problems, Cond.selects RX7 yX7_problems yX7_problems, Cond.code yX7_problems cX7_problems 2 (some .int)]
def wsL_law_r37 : List Cond := [Cond.methodLink RL 106 yX8_problems, Cond.instanceMethod yX8_problems, Cond.selects RX8 yX8_problems yX8_problems, Cond.code yX8_problems cX8_problems 2 (some .int), Cond.constantLong RX8 245 (4), Cond.methodLink RL 107 yX7_misfit, Cond.instanceMethod yX7_misfit, Cond.selects RX7 yX7_misfit yX7_misfit, Cond.code yX7_misfit cX7_misfit 3 (some .int), Cond.methodLink RX7 269 yX4_misfitOf, Cond.methodLink RL 110 yX8_misfit, Cond.instanceMethod yX8_misfit, Cond.selects RX8 yX8_misfit yX8_misfit, Cond.code yX8_misfit cX8_misfit 3 (some .int), Cond.methodLink RL 111 yX7_leastAlteration, Cond.instanceMethod yX7_leastAlteration, Cond.selects RX7 yX7_leastAlteration yX7_leastAlteration, Cond.code yX7_leastAlteration cX7_leastAlteration 3 (some .int), Cond.methodLink RX7 272 yX4_leastChange, Cond.instanceMethod yX4_leastChange, Cond.selects RX4 yX4_leastChange yX4_leastChange, Cond.code yX4_leastChange cX4_leastChange 7 (some .int), Cond.methodLink RX4 100 yX6_roomForAlterations, Cond.methodLink RX4 103 yX6_allows]
def wsL_law_r38 : List Cond := [Cond.methodLink RL 114 yX8_leastAlteration, Cond.instanceMethod yX8_leastAlteration, Cond.selects RX8 yX8_leastAlteration yX8_leastAlteration, Cond.code yX8_leastAlteration cX8_leastAlteration 3 (some .int), Cond.methodLink RX8 247 yX8_leastOf, Cond.instanceMethod yX8_leastOf, Cond.selects RX8 yX8_leastOf yX8_leastOf, Cond.code yX8_leastOf cX8_leastOf 7 (some .int), Cond.methodLink RL 115 yX7_costumeFor, Cond.instanceMethod yX7_costumeFor, Cond.selects RX7 yX7_costumeFor yX7_costumeFor, Cond.code yX7_costumeFor cX7_costumeFor 3 (some .int), Cond.methodLink RX7 275 yX4_bestCostume, Cond.instanceMethod yX4_bestCostume, Cond.selects RX4 yX4_bestCostume yX4_bestCostume, Cond.code yX4_bestCostume cX4_bestCostume 7 (some .int), Cond.methodLink RX4 107 yX4_isFreeFor, Cond.instanceMethod yX4_isFreeFor, Cond.selects RX4 yX4_isFreeFor yX4_isFreeFor, Cond.code yX4_isFreeFor cX4_isFreeFor 6 (some .boolean), Cond.methodLink RX4 116 Lib.Math.min.name, Cond.methodLink RX4 119 Lib.Math.max.name, Cond.static Lib.Math.max.name, Cond.code Lib.Math.max.name Lib.Math.max.code 2 (some .int)]
def wsL_law_r39 : List Cond := [Cond.methodLink RX4 122 yX0_isWornByAnother, Cond.instanceMethod yX0_isWornByAnother, Cond.selects RX0 yX0_isWornByAnother yX0_isWornByAnother, Cond.code yX0_isWornByAnother cX0_isWornByAnother 5 (some .boolean), Cond.methodLink RX4 110 yX4_leastChange, Cond.methodLink RL 118 yX8_costumeFor, Cond.instanceMethod yX8_costumeFor, Cond.selects RX8 yX8_costumeFor yX8_costumeFor, Cond.code yX8_costumeFor cX8_costumeFor 6 (some .int), Cond.methodLink RX8 250 yX8_isTaken, Cond.instanceMethod yX8_isTaken, Cond.selects RX8 yX8_isTaken yX8_isTaken, Cond.code yX8_isTaken cX8_isTaken 4 (some .boolean), Cond.methodLink RL 119 yX7_freeFrom, Cond.instanceMethod yX7_freeFrom, Cond.selects RX7 yX7_freeFrom yX7_freeFrom, Cond.code yX7_freeFrom cX7_freeFrom 3 (some .int), Cond.methodLink RX7 278 yX1_firstFree, Cond.instanceMethod yX1_firstFree, Cond.selects RX1 yX1_firstFree yX1_firstFree, Cond.code yX1_firstFree cX1_firstFree 7 (some .int), Cond.methodLink RX1 51 yX1_overlapping, Cond.methodLink RL 122 yX8_freeFrom, Cond.instanceMethod yX8_freeFrom]
def wsL_law_r40 : List Cond := [Cond.selects RX8 yX8_freeFrom yX8_freeFrom, Cond.code yX8_freeFrom cX8_freeFrom 4 (some .int), Cond.methodLink RL 123 yX7_washable, Cond.instanceMethod yX7_washable, Cond.selects RX7 yX7_washable yX7_washable, Cond.code yX7_washable cX7_washable 3 (some .int), Cond.methodLink RX7 281 yX4_dirtySet, Cond.instanceMethod yX4_dirtySet, Cond.selects RX4 yX4_dirtySet yX4_dirtySet, Cond.code yX4_dirtySet cX4_dirtySet 6 (some .int), Cond.methodLink RL 126 yX8_washable, Cond.instanceMethod yX8_washable, Cond.selects RX8 yX8_washable yX8_washable, Cond.code yX8_washable cX8_washable 6 (some .int)]
def wsL_law : List Cond := (wsL_law_r1 ++ (wsL_law_r2 ++ (wsL_law_r3 ++ (wsL_law_r4 ++ (wsL_law_r5 ++ (wsL_law_r6 ++ (wsL_law_r7 ++ (wsL_law_r8 ++ (wsL_law_r9 ++ (wsL_law_r10 ++ (wsL_law_r11 ++ (wsL_law_r12 ++ (wsL_law_r13 ++ (wsL_law_r14 ++ (wsL_law_r15 ++ (wsL_law_r16 ++ (wsL_law_r17 ++ (wsL_law_r18 ++ (wsL_law_r19 ++ (wsL_law_r20 ++ (wsL_law_r21 ++ (wsL_law_r22 ++ (wsL_law_r23 ++ (wsL_law_r24 ++ (wsL_law_r25 ++ (wsL_law_r26 ++ (wsL_law_r27 ++ (wsL_law_r28 ++ (wsL_law_r29 ++ (wsL_law_r30 ++ (wsL_law_r31 ++ (wsL_law_r32 ++ (wsL_law_r33 ++ (wsL_law_r34 ++ (wsL_law_r35 ++ (wsL_law_r36 ++ (wsL_law_r37 ++ (wsL_law_r38 ++ (wsL_law_r39 ++ wsL_law_r40))))))))))))))))))))))))))))))))))))))) ++ wsX70 ++ wsX80 ++ wsX40 ++ wsX20 ++ wsX50 ++ wsX30 ++ wsX60 ++ wsX00 ++ wsX10 ++ ([] : List Cond)
set_option maxRecDepth 20000 in
theorem wsL_law_in : ∀ w ∈ wsL_law, w ∈ lw_tbl := fun w h => (goodIn_p wsL_law [68, 71, 76, 82, 128, 146, 213, 233, 249, 805, 294, 297, 300, 304, 322, 308, 312, 316, 319, 329, 334, 341, 344, 847, 850, 855, 861, 865, 869, 348, 352, 355, 873, 877, 881, 360, 364, 885, 889, 369, 372, 893, 376, 417, 380, 384, 389, 393, 397, 402, 406, 410, 414, 900, 906, 910, 914, 918, 922, 926, 929, 421, 425, 933, 429, 433, 937, 438, 442, 942, 446, 450, 454, 459, 464, 469, 473, 477, 483, 487, 490, 493, 498, 501, 504, 507, 511, 522, 526, 531, 535, 540, 544, 946, 950, 954, 964, 969, 974, 978, 983, 549, 553, 557, 561, 987, 990, 995, 566, 570, 574, 578, 582, 586, 591, 596, 600, 605, 612, 616, 620, 624, 999, 1003, 1007, 1011, 1015, 1019, 1023, 1027, 1031, 1035, 1039, 629, 1043, 633, 638, 641, 1048, 1054, 1057, 646, 650, 654, 658, 1061, 662, 665, 669, 673, 676, 682, 686, 697, 1065, 1069, 1072, 1075, 1078, 1081, 701, 705, 1085, 709, 713, 717, 1089, 1093, 1097, 721, 728, 1103, 1107, 732, 1111, 737, 1115, 743, 1120, 747, 1124, 751, 1129, 756, 760, 1133, 1137, 766, 770, 774, 778, 782, 1141, 1145, 787, 791, 1149, 796, 800, 1153] (by decide +kernel) (by decide +kernel) w h).1
theorem inlX0 : ∀ w ∈ wsX00, w ∈ wsL_law := fun _ h => List.mem_append_left _ (List.mem_append_left _ (List.mem_append_right _ h))
theorem inX0 : ∀ w ∈ wsX00, w ∈ lw_tbl := fun w h => wsL_law_in w (inlX0 w h)
theorem inlX1 : ∀ w ∈ wsX10, w ∈ wsL_law := fun _ h => List.mem_append_left _ (List.mem_append_right _ h)
theorem inX1 : ∀ w ∈ wsX10, w ∈ lw_tbl := fun w h => wsL_law_in w (inlX1 w h)
theorem inlX2 : ∀ w ∈ wsX20, w ∈ wsL_law := fun _ h => List.mem_append_left _ (List.mem_append_left _ (List.mem_append_left _ (List.mem_append_left _ (List.mem_append_left _ (List.mem_append_left _ (List.mem_append_right _ h))))))
theorem inX2 : ∀ w ∈ wsX20, w ∈ lw_tbl := fun w h => wsL_law_in w (inlX2 w h)
theorem inlX3 : ∀ w ∈ wsX30, w ∈ wsL_law := fun _ h => List.mem_append_left _ (List.mem_append_left _ (List.mem_append_left _ (List.mem_append_left _ (List.mem_append_right _ h))))
theorem inX3 : ∀ w ∈ wsX30, w ∈ lw_tbl := fun w h => wsL_law_in w (inlX3 w h)
theorem inlX4 : ∀ w ∈ wsX40, w ∈ wsL_law := fun _ h => List.mem_append_left _ (List.mem_append_left _ (List.mem_append_left _ (List.mem_append_left _ (List.mem_append_left _ (List.mem_append_left _ (List.mem_append_left _ (List.mem_append_right _ h)))))))
theorem inX4 : ∀ w ∈ wsX40, w ∈ lw_tbl := fun w h => wsL_law_in w (inlX4 w h)
theorem inlX5 : ∀ w ∈ wsX50, w ∈ wsL_law := fun _ h => List.mem_append_left _ (List.mem_append_left _ (List.mem_append_left _ (List.mem_append_left _ (List.mem_append_left _ (List.mem_append_right _ h)))))
theorem inX5 : ∀ w ∈ wsX50, w ∈ lw_tbl := fun w h => wsL_law_in w (inlX5 w h)
theorem inlX6 : ∀ w ∈ wsX60, w ∈ wsL_law := fun _ h => List.mem_append_left _ (List.mem_append_left _ (List.mem_append_left _ (List.mem_append_right _ h)))
theorem inX6 : ∀ w ∈ wsX60, w ∈ lw_tbl := fun w h => wsL_law_in w (inlX6 w h)
theorem inlX7 : ∀ w ∈ wsX70, w ∈ wsL_law := fun _ h => List.mem_append_left _ (List.mem_append_left _ (List.mem_append_left _ (List.mem_append_left _ (List.mem_append_left _ (List.mem_append_left _ (List.mem_append_left _ (List.mem_append_left _ (List.mem_append_left _ (List.mem_append_right _ h)))))))))
theorem inX7 : ∀ w ∈ wsX70, w ∈ lw_tbl := fun w h => wsL_law_in w (inlX7 w h)
theorem inlX8 : ∀ w ∈ wsX80, w ∈ wsL_law := fun _ h => List.mem_append_left _ (List.mem_append_left _ (List.mem_append_left _ (List.mem_append_left _ (List.mem_append_left _ (List.mem_append_left _ (List.mem_append_left _ (List.mem_append_left _ (List.mem_append_right _ h))))))))
theorem inX8 : ∀ w ∈ wsX80, w ∈ lw_tbl := fun w h => wsL_law_in w (inlX8 w h)
theorem inJ6 : ∀ w ∈ wsJ60, w ∈ lw_tbl := by decide +kernel
theorem inJ9 : ∀ w ∈ wsJ90, w ∈ lw_tbl := by decide +kernel
theorem inJ0 : ∀ w ∈ wsJ00, w ∈ lw_tbl := by decide +kernel
theorem inJ1 : ∀ w ∈ wsJ10, w ∈ lw_tbl := by decide +kernel
theorem inJ2 : ∀ w ∈ wsJ20, w ∈ lw_tbl := by decide +kernel
theorem inJ10 : ∀ w ∈ wsJ100, w ∈ lw_tbl := by decide +kernel
theorem inJ3 : ∀ w ∈ wsJ30, w ∈ lw_tbl := by decide +kernel
theorem dX0_init_0 : decode cX0_init 0 = .ok (.aload_n 0, 1) := by decide +kernel
theorem dX0_init_1 : decode cX0_init 1 = .ok (.invokespecial 3, 3) := by decide +kernel
theorem dX0_init_4 : decode cX0_init 4 = .ok (.aload_n 0, 1) := by decide +kernel
theorem dX0_init_5 : decode cX0_init 5 = .ok (.bipush 24, 2) := by decide +kernel
theorem dX0_init_7 : decode cX0_init 7 = .ok (.newarray .int, 2) := by decide +kernel
theorem dX0_init_9 : decode cX0_init 9 = .ok (.putfield 9, 3) := by decide +kernel
theorem dX0_init_12 : decode cX0_init 12 = .ok (.aload_n 0, 1) := by decide +kernel
theorem dX0_init_13 : decode cX0_init 13 = .ok (.bipush 96, 2) := by decide +kernel
theorem dX0_init_15 : decode cX0_init 15 = .ok (.newarray .int, 2) := by decide +kernel
theorem dX0_init_17 : decode cX0_init 17 = .ok (.putfield 15, 3) := by decide +kernel
theorem dX0_init_20 : decode cX0_init 20 = .ok (.return_, 1) := by decide +kernel
set_option maxRecDepth 20000 in
theorem ggX0_copyFrom_X7_copyRow : GoodIn wsX0_copyFrom wsX7_copyRow := goodIn_r _ [6, 7, 8, 9, 10, 11, 12, 13, 14] (by decide +kernel) (by decide +kernel)
set_option maxRecDepth 20000 in
theorem gX0_copyFrom_X7_copyRow_n22 : GoodIn wsX0_copyFrom (wsX7_copyRow) := ggX0_copyFrom_X7_copyRow
theorem dX0_copyFrom_0 : decode cX0_copyFrom 0 = .ok (.aload_n 0, 1) := by decide +kernel
theorem dX0_copyFrom_1 : decode cX0_copyFrom 1 = .ok (.aload_n 1, 1) := by decide +kernel
theorem dX0_copyFrom_2 : decode cX0_copyFrom 2 = .ok (.getfield 18, 3) := by decide +kernel
theorem dX0_copyFrom_5 : decode cX0_copyFrom 5 = .ok (.putfield 18, 3) := by decide +kernel
theorem dX0_copyFrom_8 : decode cX0_copyFrom 8 = .ok (.aload_n 1, 1) := by decide +kernel
theorem dX0_copyFrom_9 : decode cX0_copyFrom 9 = .ok (.getfield 9, 3) := by decide +kernel
theorem dX0_copyFrom_12 : decode cX0_copyFrom 12 = .ok (.aload_n 0, 1) := by decide +kernel
theorem dX0_copyFrom_13 : decode cX0_copyFrom 13 = .ok (.getfield 9, 3) := by decide +kernel
theorem dX0_copyFrom_16 : decode cX0_copyFrom 16 = .ok (.invokestatic 22, 3) := by decide +kernel
theorem dX0_copyFrom_19 : decode cX0_copyFrom 19 = .ok (.aload_n 1, 1) := by decide +kernel
theorem dX0_copyFrom_20 : decode cX0_copyFrom 20 = .ok (.getfield 15, 3) := by decide +kernel
theorem dX0_copyFrom_23 : decode cX0_copyFrom 23 = .ok (.aload_n 0, 1) := by decide +kernel
theorem dX0_copyFrom_24 : decode cX0_copyFrom 24 = .ok (.getfield 15, 3) := by decide +kernel
theorem dX0_copyFrom_27 : decode cX0_copyFrom 27 = .ok (.invokestatic 22, 3) := by decide +kernel
theorem dX0_copyFrom_30 : decode cX0_copyFrom 30 = .ok (.return_, 1) := by decide +kernel
theorem dX0_has_0 : decode cX0_has 0 = .ok (.iload_n 1, 1) := by decide +kernel
theorem dX0_has_1 : decode cX0_has 1 = .ok (.ifCond .lt 15, 3) := by decide +kernel
theorem dX0_has_4 : decode cX0_has 4 = .ok (.iload_n 1, 1) := by decide +kernel
theorem dX0_has_5 : decode cX0_has 5 = .ok (.aload_n 0, 1) := by decide +kernel
theorem dX0_has_6 : decode cX0_has 6 = .ok (.getfield 18, 3) := by decide +kernel
theorem dX0_has_9 : decode cX0_has 9 = .ok (.if_icmp .ge 7, 3) := by decide +kernel
theorem dX0_has_12 : decode cX0_has 12 = .ok (.iconst 1, 1) := by decide +kernel
theorem dX0_has_13 : decode cX0_has 13 = .ok (.goto 4, 3) := by decide +kernel
theorem dX0_has_16 : decode cX0_has 16 = .ok (.iconst 0, 1) := by decide +kernel
theorem dX0_has_17 : decode cX0_has 17 = .ok (.ireturn, 1) := by decide +kernel
set_option maxRecDepth 20000 in
theorem ggX0_add_X7_put : GoodIn wsX0_add wsX7_put := goodIn_r _ [6] (by decide +kernel) (by decide +kernel)
set_option maxRecDepth 20000 in
theorem gX0_add_X7_put_n26 : GoodIn wsX0_add (wsX7_put) := ggX0_add_X7_put
theorem dX0_add_0 : decode cX0_add 0 = .ok (.aload_n 0, 1) := by decide +kernel
theorem dX0_add_1 : decode cX0_add 1 = .ok (.getfield 18, 3) := by decide +kernel
theorem dX0_add_4 : decode cX0_add 4 = .ok (.istore 4, 2) := by decide +kernel
theorem dX0_add_6 : decode cX0_add 6 = .ok (.aload_n 0, 1) := by decide +kernel
theorem dX0_add_7 : decode cX0_add 7 = .ok (.getfield 9, 3) := by decide +kernel
theorem dX0_add_10 : decode cX0_add 10 = .ok (.iload 4, 2) := by decide +kernel
theorem dX0_add_12 : decode cX0_add 12 = .ok (.iconst 3, 1) := by decide +kernel
theorem dX0_add_13 : decode cX0_add 13 = .ok (.imul, 1) := by decide +kernel
theorem dX0_add_14 : decode cX0_add 14 = .ok (.iload_n 1, 1) := by decide +kernel
theorem dX0_add_15 : decode cX0_add 15 = .ok (.invokestatic 26, 3) := by decide +kernel
theorem dX0_add_18 : decode cX0_add 18 = .ok (.aload_n 0, 1) := by decide +kernel
theorem dX0_add_19 : decode cX0_add 19 = .ok (.getfield 9, 3) := by decide +kernel
theorem dX0_add_22 : decode cX0_add 22 = .ok (.iload 4, 2) := by decide +kernel
theorem dX0_add_24 : decode cX0_add 24 = .ok (.iconst 3, 1) := by decide +kernel
theorem dX0_add_25 : decode cX0_add 25 = .ok (.imul, 1) := by decide +kernel
theorem dX0_add_26 : decode cX0_add 26 = .ok (.iconst 1, 1) := by decide +kernel
theorem dX0_add_27 : decode cX0_add 27 = .ok (.iadd, 1) := by decide +kernel
theorem dX0_add_28 : decode cX0_add 28 = .ok (.iload_n 2, 1) := by decide +kernel
theorem dX0_add_29 : decode cX0_add 29 = .ok (.invokestatic 26, 3) := by decide +kernel
theorem dX0_add_32 : decode cX0_add 32 = .ok (.aload_n 0, 1) := by decide +kernel
theorem dX0_add_33 : decode cX0_add 33 = .ok (.getfield 9, 3) := by decide +kernel
theorem dX0_add_36 : decode cX0_add 36 = .ok (.iload 4, 2) := by decide +kernel
theorem dX0_add_38 : decode cX0_add 38 = .ok (.iconst 3, 1) := by decide +kernel
theorem dX0_add_39 : decode cX0_add 39 = .ok (.imul, 1) := by decide +kernel
theorem dX0_add_40 : decode cX0_add 40 = .ok (.iconst 2, 1) := by decide +kernel
theorem dX0_add_41 : decode cX0_add 41 = .ok (.iadd, 1) := by decide +kernel
theorem dX0_add_42 : decode cX0_add 42 = .ok (.iload_n 3, 1) := by decide +kernel
theorem dX0_add_43 : decode cX0_add 43 = .ok (.invokestatic 26, 3) := by decide +kernel
theorem dX0_add_46 : decode cX0_add 46 = .ok (.iconst 0, 1) := by decide +kernel
theorem dX0_add_47 : decode cX0_add 47 = .ok (.istore 5, 2) := by decide +kernel
theorem dX0_add_49 : decode cX0_add 49 = .ok (.iload 5, 2) := by decide +kernel
theorem dX0_add_51 : decode cX0_add 51 = .ok (.bipush 12, 2) := by decide +kernel
theorem dX0_add_53 : decode cX0_add 53 = .ok (.if_icmp .ge 25, 3) := by decide +kernel
theorem dX0_add_56 : decode cX0_add 56 = .ok (.aload_n 0, 1) := by decide +kernel
theorem dX0_add_57 : decode cX0_add 57 = .ok (.getfield 15, 3) := by decide +kernel
theorem dX0_add_60 : decode cX0_add 60 = .ok (.iload 5, 2) := by decide +kernel
theorem dX0_add_62 : decode cX0_add 62 = .ok (.bipush 8, 2) := by decide +kernel
theorem dX0_add_64 : decode cX0_add 64 = .ok (.imul, 1) := by decide +kernel
theorem dX0_add_65 : decode cX0_add 65 = .ok (.iload 4, 2) := by decide +kernel
theorem dX0_add_67 : decode cX0_add 67 = .ok (.iadd, 1) := by decide +kernel
theorem dX0_add_68 : decode cX0_add 68 = .ok (.iconst (-1), 1) := by decide +kernel
theorem dX0_add_69 : decode cX0_add 69 = .ok (.invokestatic 26, 3) := by decide +kernel
theorem dX0_add_72 : decode cX0_add 72 = .ok (.iinc 5 1, 3) := by decide +kernel
theorem dX0_add_75 : decode cX0_add 75 = .ok (.goto (-26), 3) := by decide +kernel
theorem dX0_add_78 : decode cX0_add 78 = .ok (.aload_n 0, 1) := by decide +kernel
theorem dX0_add_79 : decode cX0_add 79 = .ok (.dup, 1) := by decide +kernel
theorem dX0_add_80 : decode cX0_add 80 = .ok (.getfield 18, 3) := by decide +kernel
theorem dX0_add_83 : decode cX0_add 83 = .ok (.iconst 1, 1) := by decide +kernel
theorem dX0_add_84 : decode cX0_add 84 = .ok (.iadd, 1) := by decide +kernel
theorem dX0_add_85 : decode cX0_add 85 = .ok (.putfield 18, 3) := by decide +kernel
theorem dX0_add_88 : decode cX0_add 88 = .ok (.iload 4, 2) := by decide +kernel
theorem dX0_add_90 : decode cX0_add 90 = .ok (.ireturn, 1) := by decide +kernel
set_option maxRecDepth 20000 in
theorem ggX0_measureOf_X7_at : GoodIn wsX0_measureOf wsX7_at := goodIn_r _ [4] (by decide +kernel) (by decide +kernel)
set_option maxRecDepth 20000 in
theorem gX0_measureOf_X7_at_n30 : GoodIn wsX0_measureOf (wsX7_at) := ggX0_measureOf_X7_at
theorem dX0_measureOf_0 : decode cX0_measureOf 0 = .ok (.aload_n 0, 1) := by decide +kernel
theorem dX0_measureOf_1 : decode cX0_measureOf 1 = .ok (.getfield 9, 3) := by decide +kernel
theorem dX0_measureOf_4 : decode cX0_measureOf 4 = .ok (.iload_n 1, 1) := by decide +kernel
theorem dX0_measureOf_5 : decode cX0_measureOf 5 = .ok (.iconst 3, 1) := by decide +kernel
theorem dX0_measureOf_6 : decode cX0_measureOf 6 = .ok (.imul, 1) := by decide +kernel
theorem dX0_measureOf_7 : decode cX0_measureOf 7 = .ok (.iload_n 2, 1) := by decide +kernel
theorem dX0_measureOf_8 : decode cX0_measureOf 8 = .ok (.iadd, 1) := by decide +kernel
theorem dX0_measureOf_9 : decode cX0_measureOf 9 = .ok (.invokestatic 30, 3) := by decide +kernel
theorem dX0_measureOf_12 : decode cX0_measureOf 12 = .ok (.ireturn, 1) := by decide +kernel
set_option maxRecDepth 20000 in
theorem ggX0_wornIn_X7_at : GoodIn wsX0_wornIn wsX7_at := goodIn_r _ [4] (by decide +kernel) (by decide +kernel)
set_option maxRecDepth 20000 in
theorem gX0_wornIn_X7_at_n30 : GoodIn wsX0_wornIn (wsX7_at) := ggX0_wornIn_X7_at
theorem dX0_wornIn_0 : decode cX0_wornIn 0 = .ok (.aload_n 0, 1) := by decide +kernel
theorem dX0_wornIn_1 : decode cX0_wornIn 1 = .ok (.getfield 15, 3) := by decide +kernel
theorem dX0_wornIn_4 : decode cX0_wornIn 4 = .ok (.iload_n 1, 1) := by decide +kernel
theorem dX0_wornIn_5 : decode cX0_wornIn 5 = .ok (.bipush 8, 2) := by decide +kernel
theorem dX0_wornIn_7 : decode cX0_wornIn 7 = .ok (.imul, 1) := by decide +kernel
theorem dX0_wornIn_8 : decode cX0_wornIn 8 = .ok (.iload_n 2, 1) := by decide +kernel
theorem dX0_wornIn_9 : decode cX0_wornIn 9 = .ok (.iadd, 1) := by decide +kernel
theorem dX0_wornIn_10 : decode cX0_wornIn 10 = .ok (.invokestatic 30, 3) := by decide +kernel
theorem dX0_wornIn_13 : decode cX0_wornIn 13 = .ok (.ireturn, 1) := by decide +kernel
set_option maxRecDepth 20000 in
theorem ggX0_dress_X0_wornIn : GoodIn wsX0_dress wsX0_wornIn := goodIn_r _ [6, 1, 7, 8, 9, 12, 13, 14] (by decide +kernel) (by decide +kernel)
set_option maxRecDepth 20000 in
theorem gX0_dress_X0_wornIn : GoodIn wsX0_dress (wsV RX0 34 RX0 yX0_wornIn wsX0_wornIn) := goodIn_app (goodIn_of _ (by decide +kernel)) ggX0_dress_X0_wornIn
set_option maxRecDepth 20000 in
theorem ggX0_dress_X7_put : GoodIn wsX0_dress wsX7_put := goodIn_r _ [11] (by decide +kernel) (by decide +kernel)
set_option maxRecDepth 20000 in
theorem gX0_dress_X7_put_n26 : GoodIn wsX0_dress (wsX7_put) := ggX0_dress_X7_put
theorem dX0_dress_0 : decode cX0_dress 0 = .ok (.aload_n 0, 1) := by decide +kernel
theorem dX0_dress_1 : decode cX0_dress 1 = .ok (.iload_n 1, 1) := by decide +kernel
theorem dX0_dress_2 : decode cX0_dress 2 = .ok (.iload_n 2, 1) := by decide +kernel
theorem dX0_dress_3 : decode cX0_dress 3 = .ok (.invokevirtual 34, 3) := by decide +kernel
theorem dX0_dress_6 : decode cX0_dress 6 = .ok (.istore 4, 2) := by decide +kernel
theorem dX0_dress_8 : decode cX0_dress 8 = .ok (.aload_n 0, 1) := by decide +kernel
theorem dX0_dress_9 : decode cX0_dress 9 = .ok (.getfield 15, 3) := by decide +kernel
theorem dX0_dress_12 : decode cX0_dress 12 = .ok (.iload_n 1, 1) := by decide +kernel
theorem dX0_dress_13 : decode cX0_dress 13 = .ok (.bipush 8, 2) := by decide +kernel
theorem dX0_dress_15 : decode cX0_dress 15 = .ok (.imul, 1) := by decide +kernel
theorem dX0_dress_16 : decode cX0_dress 16 = .ok (.iload_n 2, 1) := by decide +kernel
theorem dX0_dress_17 : decode cX0_dress 17 = .ok (.iadd, 1) := by decide +kernel
theorem dX0_dress_18 : decode cX0_dress 18 = .ok (.iload_n 3, 1) := by decide +kernel
theorem dX0_dress_19 : decode cX0_dress 19 = .ok (.invokestatic 26, 3) := by decide +kernel
theorem dX0_dress_22 : decode cX0_dress 22 = .ok (.iload 4, 2) := by decide +kernel
theorem dX0_dress_24 : decode cX0_dress 24 = .ok (.ireturn, 1) := by decide +kernel
set_option maxRecDepth 20000 in
theorem ggX0_wearers_X0_wornIn : GoodIn wsX0_wearers wsX0_wornIn := goodIn_r _ [6, 7, 8, 9, 10, 11, 12, 13] (by decide +kernel) (by decide +kernel)
set_option maxRecDepth 20000 in
theorem gX0_wearers_X0_wornIn : GoodIn wsX0_wearers (wsV RX0 34 RX0 yX0_wornIn wsX0_wornIn) := goodIn_app (goodIn_of _ (by decide +kernel)) ggX0_wearers_X0_wornIn
theorem dX0_wearers_0 : decode cX0_wearers 0 = .ok (.iconst 0, 1) := by decide +kernel
theorem dX0_wearers_1 : decode cX0_wearers 1 = .ok (.istore_n 3, 1) := by decide +kernel
theorem dX0_wearers_2 : decode cX0_wearers 2 = .ok (.iconst 0, 1) := by decide +kernel
theorem dX0_wearers_3 : decode cX0_wearers 3 = .ok (.istore 4, 2) := by decide +kernel
theorem dX0_wearers_5 : decode cX0_wearers 5 = .ok (.iload 4, 2) := by decide +kernel
theorem dX0_wearers_7 : decode cX0_wearers 7 = .ok (.aload_n 0, 1) := by decide +kernel
theorem dX0_wearers_8 : decode cX0_wearers 8 = .ok (.getfield 18, 3) := by decide +kernel
theorem dX0_wearers_11 : decode cX0_wearers 11 = .ok (.if_icmp .ge 23, 3) := by decide +kernel
theorem dX0_wearers_14 : decode cX0_wearers 14 = .ok (.aload_n 0, 1) := by decide +kernel
theorem dX0_wearers_15 : decode cX0_wearers 15 = .ok (.iload_n 1, 1) := by decide +kernel
theorem dX0_wearers_16 : decode cX0_wearers 16 = .ok (.iload 4, 2) := by decide +kernel
theorem dX0_wearers_18 : decode cX0_wearers 18 = .ok (.invokevirtual 34, 3) := by decide +kernel
theorem dX0_wearers_21 : decode cX0_wearers 21 = .ok (.iload_n 2, 1) := by decide +kernel
theorem dX0_wearers_22 : decode cX0_wearers 22 = .ok (.if_icmp .ne 6, 3) := by decide +kernel
theorem dX0_wearers_25 : decode cX0_wearers 25 = .ok (.iinc 3 1, 3) := by decide +kernel
theorem dX0_wearers_28 : decode cX0_wearers 28 = .ok (.iinc 4 1, 3) := by decide +kernel
theorem dX0_wearers_31 : decode cX0_wearers 31 = .ok (.goto (-26), 3) := by decide +kernel
theorem dX0_wearers_34 : decode cX0_wearers 34 = .ok (.iload_n 3, 1) := by decide +kernel
theorem dX0_wearers_35 : decode cX0_wearers 35 = .ok (.ireturn, 1) := by decide +kernel
set_option maxRecDepth 20000 in
theorem ggX0_isWornByAnother_X0_wornIn : GoodIn wsX0_isWornByAnother wsX0_wornIn := goodIn_r _ [5, 6, 7, 8, 9, 15, 16, 17] (by decide +kernel) (by decide +kernel)
set_option maxRecDepth 20000 in
theorem gX0_isWornByAnother_X0_wornIn : GoodIn wsX0_isWornByAnother (wsV RX0 34 RX0 yX0_wornIn wsX0_wornIn) := goodIn_app (goodIn_of _ (by decide +kernel)) ggX0_isWornByAnother_X0_wornIn
set_option maxRecDepth 20000 in
theorem ggX0_isWornByAnother_X0_wearers : GoodIn wsX0_isWornByAnother wsX0_wearers := goodIn_r _ [13, 14, 1, 2, 3, 4, 5, 6, 7, 8, 9, 15, 16, 17] (by decide +kernel) (by decide +kernel)
set_option maxRecDepth 20000 in
theorem gX0_isWornByAnother_X0_wearers : GoodIn wsX0_isWornByAnother (wsV RX0 38 RX0 yX0_wearers wsX0_wearers) := goodIn_app (goodIn_of _ (by decide +kernel)) ggX0_isWornByAnother_X0_wearers
theorem dX0_isWornByAnother_0 : decode cX0_isWornByAnother 0 = .ok (.aload_n 0, 1) := by decide +kernel
theorem dX0_isWornByAnother_1 : decode cX0_isWornByAnother 1 = .ok (.iload_n 1, 1) := by decide +kernel
theorem dX0_isWornByAnother_2 : decode cX0_isWornByAnother 2 = .ok (.iload_n 2, 1) := by decide +kernel
theorem dX0_isWornByAnother_3 : decode cX0_isWornByAnother 3 = .ok (.invokevirtual 34, 3) := by decide +kernel
theorem dX0_isWornByAnother_6 : decode cX0_isWornByAnother 6 = .ok (.iload_n 3, 1) := by decide +kernel
theorem dX0_isWornByAnother_7 : decode cX0_isWornByAnother 7 = .ok (.if_icmp .ne 7, 3) := by decide +kernel
theorem dX0_isWornByAnother_10 : decode cX0_isWornByAnother 10 = .ok (.iconst 1, 1) := by decide +kernel
theorem dX0_isWornByAnother_11 : decode cX0_isWornByAnother 11 = .ok (.goto 4, 3) := by decide +kernel
theorem dX0_isWornByAnother_14 : decode cX0_isWornByAnother 14 = .ok (.iconst 0, 1) := by decide +kernel
theorem dX0_isWornByAnother_15 : decode cX0_isWornByAnother 15 = .ok (.istore 4, 2) := by decide +kernel
theorem dX0_isWornByAnother_17 : decode cX0_isWornByAnother 17 = .ok (.aload_n 0, 1) := by decide +kernel
theorem dX0_isWornByAnother_18 : decode cX0_isWornByAnother 18 = .ok (.iload_n 1, 1) := by decide +kernel
theorem dX0_isWornByAnother_19 : decode cX0_isWornByAnother 19 = .ok (.iload_n 3, 1) := by decide +kernel
theorem dX0_isWornByAnother_20 : decode cX0_isWornByAnother 20 = .ok (.invokevirtual 38, 3) := by decide +kernel
theorem dX0_isWornByAnother_23 : decode cX0_isWornByAnother 23 = .ok (.iload 4, 2) := by decide +kernel
theorem dX0_isWornByAnother_25 : decode cX0_isWornByAnother 25 = .ok (.if_icmp .le 7, 3) := by decide +kernel
theorem dX0_isWornByAnother_28 : decode cX0_isWornByAnother 28 = .ok (.iconst 1, 1) := by decide +kernel
theorem dX0_isWornByAnother_29 : decode cX0_isWornByAnother 29 = .ok (.goto 4, 3) := by decide +kernel
theorem dX0_isWornByAnother_32 : decode cX0_isWornByAnother 32 = .ok (.iconst 0, 1) := by decide +kernel
theorem dX0_isWornByAnother_33 : decode cX0_isWornByAnother 33 = .ok (.ireturn, 1) := by decide +kernel
set_option maxRecDepth 20000 in
theorem ggX0_scenesOf_X0_wearers : GoodIn wsX0_scenesOf wsX0_wearers := goodIn_r _ [5, 6, 7, 8, 9, 4, 10, 11, 12, 13, 14, 15, 16, 17] (by decide +kernel) (by decide +kernel)
set_option maxRecDepth 20000 in
theorem gX0_scenesOf_X0_wearers : GoodIn wsX0_scenesOf (wsV RX0 38 RX0 yX0_wearers wsX0_wearers) := goodIn_app (goodIn_of _ (by decide +kernel)) ggX0_scenesOf_X0_wearers
theorem dX0_scenesOf_0 : decode cX0_scenesOf 0 = .ok (.iconst 0, 1) := by decide +kernel
theorem dX0_scenesOf_1 : decode cX0_scenesOf 1 = .ok (.istore_n 2, 1) := by decide +kernel
theorem dX0_scenesOf_2 : decode cX0_scenesOf 2 = .ok (.iconst 0, 1) := by decide +kernel
theorem dX0_scenesOf_3 : decode cX0_scenesOf 3 = .ok (.istore_n 3, 1) := by decide +kernel
theorem dX0_scenesOf_4 : decode cX0_scenesOf 4 = .ok (.iload_n 3, 1) := by decide +kernel
theorem dX0_scenesOf_5 : decode cX0_scenesOf 5 = .ok (.bipush 12, 2) := by decide +kernel
theorem dX0_scenesOf_7 : decode cX0_scenesOf 7 = .ok (.if_icmp .ge 21, 3) := by decide +kernel
theorem dX0_scenesOf_10 : decode cX0_scenesOf 10 = .ok (.aload_n 0, 1) := by decide +kernel
theorem dX0_scenesOf_11 : decode cX0_scenesOf 11 = .ok (.iload_n 3, 1) := by decide +kernel
theorem dX0_scenesOf_12 : decode cX0_scenesOf 12 = .ok (.iload_n 1, 1) := by decide +kernel
theorem dX0_scenesOf_13 : decode cX0_scenesOf 13 = .ok (.invokevirtual 38, 3) := by decide +kernel
theorem dX0_scenesOf_16 : decode cX0_scenesOf 16 = .ok (.ifCond .le 6, 3) := by decide +kernel
theorem dX0_scenesOf_19 : decode cX0_scenesOf 19 = .ok (.iinc 2 1, 3) := by decide +kernel
theorem dX0_scenesOf_22 : decode cX0_scenesOf 22 = .ok (.iinc 3 1, 3) := by decide +kernel
theorem dX0_scenesOf_25 : decode cX0_scenesOf 25 = .ok (.goto (-21), 3) := by decide +kernel
theorem dX0_scenesOf_28 : decode cX0_scenesOf 28 = .ok (.iload_n 2, 1) := by decide +kernel
theorem dX0_scenesOf_29 : decode cX0_scenesOf 29 = .ok (.ireturn, 1) := by decide +kernel
set_option maxRecDepth 20000 in
theorem ggX0_isHandedOver_X0_wearers : GoodIn wsX0_isHandedOver wsX0_wearers := goodIn_r _ [6, 1, 7, 8, 9, 5, 10, 11, 12, 13, 14, 15, 16, 17] (by decide +kernel) (by decide +kernel)
set_option maxRecDepth 20000 in
theorem gX0_isHandedOver_X0_wearers : GoodIn wsX0_isHandedOver (wsV RX0 38 RX0 yX0_wearers wsX0_wearers) := goodIn_app (goodIn_of _ (by decide +kernel)) ggX0_isHandedOver_X0_wearers
set_option maxRecDepth 20000 in
theorem ggX0_isHandedOver_X0_wornIn : GoodIn wsX0_isHandedOver wsX0_wornIn := goodIn_r _ [10, 11, 12, 13, 14, 15, 16, 17] (by decide +kernel) (by decide +kernel)
set_option maxRecDepth 20000 in
theorem gX0_isHandedOver_X0_wornIn : GoodIn wsX0_isHandedOver (wsV RX0 34 RX0 yX0_wornIn wsX0_wornIn) := goodIn_app (goodIn_of _ (by decide +kernel)) ggX0_isHandedOver_X0_wornIn
theorem dX0_isHandedOver_0 : decode cX0_isHandedOver 0 = .ok (.aload_n 0, 1) := by decide +kernel
theorem dX0_isHandedOver_1 : decode cX0_isHandedOver 1 = .ok (.iload_n 1, 1) := by decide +kernel
theorem dX0_isHandedOver_2 : decode cX0_isHandedOver 2 = .ok (.iload_n 2, 1) := by decide +kernel
theorem dX0_isHandedOver_3 : decode cX0_isHandedOver 3 = .ok (.invokevirtual 38, 3) := by decide +kernel
theorem dX0_isHandedOver_6 : decode cX0_isHandedOver 6 = .ok (.ifCond .ne 5, 3) := by decide +kernel
theorem dX0_isHandedOver_9 : decode cX0_isHandedOver 9 = .ok (.iconst 0, 1) := by decide +kernel
theorem dX0_isHandedOver_10 : decode cX0_isHandedOver 10 = .ok (.ireturn, 1) := by decide +kernel
theorem dX0_isHandedOver_11 : decode cX0_isHandedOver 11 = .ok (.iconst 0, 1) := by decide +kernel
theorem dX0_isHandedOver_12 : decode cX0_isHandedOver 12 = .ok (.istore_n 3, 1) := by decide +kernel
theorem dX0_isHandedOver_13 : decode cX0_isHandedOver 13 = .ok (.iload_n 3, 1) := by decide +kernel
theorem dX0_isHandedOver_14 : decode cX0_isHandedOver 14 = .ok (.aload_n 0, 1) := by decide +kernel
theorem dX0_isHandedOver_15 : decode cX0_isHandedOver 15 = .ok (.getfield 18, 3) := by decide +kernel
theorem dX0_isHandedOver_18 : decode cX0_isHandedOver 18 = .ok (.if_icmp .ge 33, 3) := by decide +kernel
theorem dX0_isHandedOver_21 : decode cX0_isHandedOver 21 = .ok (.aload_n 0, 1) := by decide +kernel
theorem dX0_isHandedOver_22 : decode cX0_isHandedOver 22 = .ok (.iload_n 1, 1) := by decide +kernel
theorem dX0_isHandedOver_23 : decode cX0_isHandedOver 23 = .ok (.iconst 1, 1) := by decide +kernel
theorem dX0_isHandedOver_24 : decode cX0_isHandedOver 24 = .ok (.iadd, 1) := by decide +kernel
theorem dX0_isHandedOver_25 : decode cX0_isHandedOver 25 = .ok (.iload_n 3, 1) := by decide +kernel
theorem dX0_isHandedOver_26 : decode cX0_isHandedOver 26 = .ok (.invokevirtual 34, 3) := by decide +kernel
theorem dX0_isHandedOver_29 : decode cX0_isHandedOver 29 = .ok (.iload_n 2, 1) := by decide +kernel
theorem dX0_isHandedOver_30 : decode cX0_isHandedOver 30 = .ok (.if_icmp .ne 15, 3) := by decide +kernel
theorem dX0_isHandedOver_33 : decode cX0_isHandedOver 33 = .ok (.aload_n 0, 1) := by decide +kernel
theorem dX0_isHandedOver_34 : decode cX0_isHandedOver 34 = .ok (.iload_n 1, 1) := by decide +kernel
theorem dX0_isHandedOver_35 : decode cX0_isHandedOver 35 = .ok (.iload_n 3, 1) := by decide +kernel
theorem dX0_isHandedOver_36 : decode cX0_isHandedOver 36 = .ok (.invokevirtual 34, 3) := by decide +kernel
theorem dX0_isHandedOver_39 : decode cX0_isHandedOver 39 = .ok (.iload_n 2, 1) := by decide +kernel
theorem dX0_isHandedOver_40 : decode cX0_isHandedOver 40 = .ok (.if_icmp .eq 5, 3) := by decide +kernel
theorem dX0_isHandedOver_43 : decode cX0_isHandedOver 43 = .ok (.iconst 1, 1) := by decide +kernel
theorem dX0_isHandedOver_44 : decode cX0_isHandedOver 44 = .ok (.ireturn, 1) := by decide +kernel
theorem dX0_isHandedOver_45 : decode cX0_isHandedOver 45 = .ok (.iinc 3 1, 3) := by decide +kernel
theorem dX0_isHandedOver_48 : decode cX0_isHandedOver 48 = .ok (.goto (-35), 3) := by decide +kernel
theorem dX0_isHandedOver_51 : decode cX0_isHandedOver 51 = .ok (.iconst 0, 1) := by decide +kernel
theorem dX0_isHandedOver_52 : decode cX0_isHandedOver 52 = .ok (.ireturn, 1) := by decide +kernel
set_option maxRecDepth 20000 in
theorem ggX0_quickChanges_X0_wornIn : GoodIn wsX0_quickChanges wsX0_wornIn := goodIn_r _ [6, 7, 8, 9, 10, 11, 12, 13] (by decide +kernel) (by decide +kernel)
set_option maxRecDepth 20000 in
theorem gX0_quickChanges_X0_wornIn : GoodIn wsX0_quickChanges (wsV RX0 34 RX0 yX0_wornIn wsX0_wornIn) := goodIn_app (goodIn_of _ (by decide +kernel)) ggX0_quickChanges_X0_wornIn
theorem dX0_quickChanges_0 : decode cX0_quickChanges 0 = .ok (.iconst 0, 1) := by decide +kernel
theorem dX0_quickChanges_1 : decode cX0_quickChanges 1 = .ok (.istore_n 1, 1) := by decide +kernel
theorem dX0_quickChanges_2 : decode cX0_quickChanges 2 = .ok (.iconst 0, 1) := by decide +kernel
theorem dX0_quickChanges_3 : decode cX0_quickChanges 3 = .ok (.istore_n 2, 1) := by decide +kernel
theorem dX0_quickChanges_4 : decode cX0_quickChanges 4 = .ok (.iload_n 2, 1) := by decide +kernel
theorem dX0_quickChanges_5 : decode cX0_quickChanges 5 = .ok (.iconst 1, 1) := by decide +kernel
theorem dX0_quickChanges_6 : decode cX0_quickChanges 6 = .ok (.iadd, 1) := by decide +kernel
theorem dX0_quickChanges_7 : decode cX0_quickChanges 7 = .ok (.bipush 12, 2) := by decide +kernel
theorem dX0_quickChanges_9 : decode cX0_quickChanges 9 = .ok (.if_icmp .ge 65, 3) := by decide +kernel
theorem dX0_quickChanges_12 : decode cX0_quickChanges 12 = .ok (.iconst 0, 1) := by decide +kernel
theorem dX0_quickChanges_13 : decode cX0_quickChanges 13 = .ok (.istore_n 3, 1) := by decide +kernel
theorem dX0_quickChanges_14 : decode cX0_quickChanges 14 = .ok (.iload_n 3, 1) := by decide +kernel
theorem dX0_quickChanges_15 : decode cX0_quickChanges 15 = .ok (.aload_n 0, 1) := by decide +kernel
theorem dX0_quickChanges_16 : decode cX0_quickChanges 16 = .ok (.getfield 18, 3) := by decide +kernel
theorem dX0_quickChanges_19 : decode cX0_quickChanges 19 = .ok (.if_icmp .ge 49, 3) := by decide +kernel
theorem dX0_quickChanges_22 : decode cX0_quickChanges 22 = .ok (.aload_n 0, 1) := by decide +kernel
theorem dX0_quickChanges_23 : decode cX0_quickChanges 23 = .ok (.iload_n 2, 1) := by decide +kernel
theorem dX0_quickChanges_24 : decode cX0_quickChanges 24 = .ok (.iload_n 3, 1) := by decide +kernel
theorem dX0_quickChanges_25 : decode cX0_quickChanges 25 = .ok (.invokevirtual 34, 3) := by decide +kernel
theorem dX0_quickChanges_28 : decode cX0_quickChanges 28 = .ok (.istore 4, 2) := by decide +kernel
theorem dX0_quickChanges_30 : decode cX0_quickChanges 30 = .ok (.aload_n 0, 1) := by decide +kernel
theorem dX0_quickChanges_31 : decode cX0_quickChanges 31 = .ok (.iload_n 2, 1) := by decide +kernel
theorem dX0_quickChanges_32 : decode cX0_quickChanges 32 = .ok (.iconst 1, 1) := by decide +kernel
theorem dX0_quickChanges_33 : decode cX0_quickChanges 33 = .ok (.iadd, 1) := by decide +kernel
theorem dX0_quickChanges_34 : decode cX0_quickChanges 34 = .ok (.iload_n 3, 1) := by decide +kernel
theorem dX0_quickChanges_35 : decode cX0_quickChanges 35 = .ok (.invokevirtual 34, 3) := by decide +kernel
theorem dX0_quickChanges_38 : decode cX0_quickChanges 38 = .ok (.istore 5, 2) := by decide +kernel
theorem dX0_quickChanges_40 : decode cX0_quickChanges 40 = .ok (.iload 4, 2) := by decide +kernel
theorem dX0_quickChanges_42 : decode cX0_quickChanges 42 = .ok (.iconst (-1), 1) := by decide +kernel
theorem dX0_quickChanges_43 : decode cX0_quickChanges 43 = .ok (.if_icmp .eq 19, 3) := by decide +kernel
theorem dX0_quickChanges_46 : decode cX0_quickChanges 46 = .ok (.iload 5, 2) := by decide +kernel
theorem dX0_quickChanges_48 : decode cX0_quickChanges 48 = .ok (.iconst (-1), 1) := by decide +kernel
theorem dX0_quickChanges_49 : decode cX0_quickChanges 49 = .ok (.if_icmp .eq 13, 3) := by decide +kernel
theorem dX0_quickChanges_52 : decode cX0_quickChanges 52 = .ok (.iload 4, 2) := by decide +kernel
theorem dX0_quickChanges_54 : decode cX0_quickChanges 54 = .ok (.iload 5, 2) := by decide +kernel
theorem dX0_quickChanges_56 : decode cX0_quickChanges 56 = .ok (.if_icmp .eq 6, 3) := by decide +kernel
theorem dX0_quickChanges_59 : decode cX0_quickChanges 59 = .ok (.iinc 1 1, 3) := by decide +kernel
theorem dX0_quickChanges_62 : decode cX0_quickChanges 62 = .ok (.iinc 3 1, 3) := by decide +kernel
theorem dX0_quickChanges_65 : decode cX0_quickChanges 65 = .ok (.goto (-51), 3) := by decide +kernel
theorem dX0_quickChanges_68 : decode cX0_quickChanges 68 = .ok (.iinc 2 1, 3) := by decide +kernel
theorem dX0_quickChanges_71 : decode cX0_quickChanges 71 = .ok (.goto (-67), 3) := by decide +kernel
theorem dX0_quickChanges_74 : decode cX0_quickChanges 74 = .ok (.iload_n 1, 1) := by decide +kernel
theorem dX0_quickChanges_75 : decode cX0_quickChanges 75 = .ok (.ireturn, 1) := by decide +kernel
theorem dX1_init_0 : decode cX1_init 0 = .ok (.aload_n 0, 1) := by decide +kernel
theorem dX1_init_1 : decode cX1_init 1 = .ok (.invokespecial 3, 3) := by decide +kernel
theorem dX1_init_4 : decode cX1_init 4 = .ok (.aload_n 0, 1) := by decide +kernel
theorem dX1_init_5 : decode cX1_init 5 = .ok (.bipush 24, 2) := by decide +kernel
theorem dX1_init_7 : decode cX1_init 7 = .ok (.newarray .int, 2) := by decide +kernel
theorem dX1_init_9 : decode cX1_init 9 = .ok (.putfield 9, 3) := by decide +kernel
theorem dX1_init_12 : decode cX1_init 12 = .ok (.aload_n 0, 1) := by decide +kernel
theorem dX1_init_13 : decode cX1_init 13 = .ok (.bipush 24, 2) := by decide +kernel
theorem dX1_init_15 : decode cX1_init 15 = .ok (.newarray .int, 2) := by decide +kernel
theorem dX1_init_17 : decode cX1_init 17 = .ok (.putfield 15, 3) := by decide +kernel
theorem dX1_init_20 : decode cX1_init 20 = .ok (.aload_n 0, 1) := by decide +kernel
theorem dX1_init_21 : decode cX1_init 21 = .ok (.bipush 24, 2) := by decide +kernel
theorem dX1_init_23 : decode cX1_init 23 = .ok (.newarray .int, 2) := by decide +kernel
theorem dX1_init_25 : decode cX1_init 25 = .ok (.putfield 18, 3) := by decide +kernel
theorem dX1_init_28 : decode cX1_init 28 = .ok (.aload_n 0, 1) := by decide +kernel
theorem dX1_init_29 : decode cX1_init 29 = .ok (.bipush 24, 2) := by decide +kernel
theorem dX1_init_31 : decode cX1_init 31 = .ok (.newarray .int, 2) := by decide +kernel
theorem dX1_init_33 : decode cX1_init 33 = .ok (.putfield 21, 3) := by decide +kernel
theorem dX1_init_36 : decode cX1_init 36 = .ok (.aload_n 0, 1) := by decide +kernel
theorem dX1_init_37 : decode cX1_init 37 = .ok (.bipush 24, 2) := by decide +kernel
theorem dX1_init_39 : decode cX1_init 39 = .ok (.newarray .int, 2) := by decide +kernel
theorem dX1_init_41 : decode cX1_init 41 = .ok (.putfield 24, 3) := by decide +kernel
theorem dX1_init_44 : decode cX1_init 44 = .ok (.return_, 1) := by decide +kernel
set_option maxRecDepth 20000 in
theorem ggX1_copyFrom_X7_copyRow : GoodIn wsX1_copyFrom wsX7_copyRow := goodIn_r _ [9, 10, 11, 12, 13, 14, 15, 16, 17] (by decide +kernel) (by decide +kernel)
set_option maxRecDepth 20000 in
theorem gX1_copyFrom_X7_copyRow_n31 : GoodIn wsX1_copyFrom (wsX7_copyRow) := ggX1_copyFrom_X7_copyRow
theorem dX1_copyFrom_0 : decode cX1_copyFrom 0 = .ok (.aload_n 0, 1) := by decide +kernel
theorem dX1_copyFrom_1 : decode cX1_copyFrom 1 = .ok (.aload_n 1, 1) := by decide +kernel
theorem dX1_copyFrom_2 : decode cX1_copyFrom 2 = .ok (.getfield 27, 3) := by decide +kernel
theorem dX1_copyFrom_5 : decode cX1_copyFrom 5 = .ok (.putfield 27, 3) := by decide +kernel
theorem dX1_copyFrom_8 : decode cX1_copyFrom 8 = .ok (.aload_n 1, 1) := by decide +kernel
theorem dX1_copyFrom_9 : decode cX1_copyFrom 9 = .ok (.getfield 9, 3) := by decide +kernel
theorem dX1_copyFrom_12 : decode cX1_copyFrom 12 = .ok (.aload_n 0, 1) := by decide +kernel
theorem dX1_copyFrom_13 : decode cX1_copyFrom 13 = .ok (.getfield 9, 3) := by decide +kernel
theorem dX1_copyFrom_16 : decode cX1_copyFrom 16 = .ok (.invokestatic 31, 3) := by decide +kernel
theorem dX1_copyFrom_19 : decode cX1_copyFrom 19 = .ok (.aload_n 1, 1) := by decide +kernel
theorem dX1_copyFrom_20 : decode cX1_copyFrom 20 = .ok (.getfield 15, 3) := by decide +kernel
theorem dX1_copyFrom_23 : decode cX1_copyFrom 23 = .ok (.aload_n 0, 1) := by decide +kernel
theorem dX1_copyFrom_24 : decode cX1_copyFrom 24 = .ok (.getfield 15, 3) := by decide +kernel
theorem dX1_copyFrom_27 : decode cX1_copyFrom 27 = .ok (.invokestatic 31, 3) := by decide +kernel
theorem dX1_copyFrom_30 : decode cX1_copyFrom 30 = .ok (.aload_n 1, 1) := by decide +kernel
theorem dX1_copyFrom_31 : decode cX1_copyFrom 31 = .ok (.getfield 18, 3) := by decide +kernel
theorem dX1_copyFrom_34 : decode cX1_copyFrom 34 = .ok (.aload_n 0, 1) := by decide +kernel
theorem dX1_copyFrom_35 : decode cX1_copyFrom 35 = .ok (.getfield 18, 3) := by decide +kernel
theorem dX1_copyFrom_38 : decode cX1_copyFrom 38 = .ok (.invokestatic 31, 3) := by decide +kernel
theorem dX1_copyFrom_41 : decode cX1_copyFrom 41 = .ok (.aload_n 1, 1) := by decide +kernel
theorem dX1_copyFrom_42 : decode cX1_copyFrom 42 = .ok (.getfield 21, 3) := by decide +kernel
theorem dX1_copyFrom_45 : decode cX1_copyFrom 45 = .ok (.aload_n 0, 1) := by decide +kernel
theorem dX1_copyFrom_46 : decode cX1_copyFrom 46 = .ok (.getfield 21, 3) := by decide +kernel
theorem dX1_copyFrom_49 : decode cX1_copyFrom 49 = .ok (.invokestatic 31, 3) := by decide +kernel
theorem dX1_copyFrom_52 : decode cX1_copyFrom 52 = .ok (.aload_n 1, 1) := by decide +kernel
theorem dX1_copyFrom_53 : decode cX1_copyFrom 53 = .ok (.getfield 24, 3) := by decide +kernel
theorem dX1_copyFrom_56 : decode cX1_copyFrom 56 = .ok (.aload_n 0, 1) := by decide +kernel
theorem dX1_copyFrom_57 : decode cX1_copyFrom 57 = .ok (.getfield 24, 3) := by decide +kernel
theorem dX1_copyFrom_60 : decode cX1_copyFrom 60 = .ok (.invokestatic 31, 3) := by decide +kernel
theorem dX1_copyFrom_63 : decode cX1_copyFrom 63 = .ok (.return_, 1) := by decide +kernel
theorem dX1_has_0 : decode cX1_has 0 = .ok (.iload_n 1, 1) := by decide +kernel
theorem dX1_has_1 : decode cX1_has 1 = .ok (.ifCond .lt 15, 3) := by decide +kernel
theorem dX1_has_4 : decode cX1_has 4 = .ok (.iload_n 1, 1) := by decide +kernel
theorem dX1_has_5 : decode cX1_has 5 = .ok (.aload_n 0, 1) := by decide +kernel
theorem dX1_has_6 : decode cX1_has 6 = .ok (.getfield 27, 3) := by decide +kernel
theorem dX1_has_9 : decode cX1_has 9 = .ok (.if_icmp .ge 7, 3) := by decide +kernel
theorem dX1_has_12 : decode cX1_has 12 = .ok (.iconst 1, 1) := by decide +kernel
theorem dX1_has_13 : decode cX1_has 13 = .ok (.goto 4, 3) := by decide +kernel
theorem dX1_has_16 : decode cX1_has 16 = .ok (.iconst 0, 1) := by decide +kernel
theorem dX1_has_17 : decode cX1_has 17 = .ok (.ireturn, 1) := by decide +kernel
theorem dX1_feeFor_0 : decode cX1_feeFor 0 = .ok (.iload_n 1, 1) := by decide +kernel
theorem dX1_feeFor_1 : decode cX1_feeFor 1 = .ok (.iload_n 0, 1) := by decide +kernel
theorem dX1_feeFor_2 : decode cX1_feeFor 2 = .ok (.iload_n 0, 1) := by decide +kernel
theorem dX1_feeFor_3 : decode cX1_feeFor 3 = .ok (.bipush 7, 2) := by decide +kernel
theorem dX1_feeFor_5 : decode cX1_feeFor 5 = .ok (.idiv, 1) := by decide +kernel
theorem dX1_feeFor_6 : decode cX1_feeFor 6 = .ok (.isub, 1) := by decide +kernel
theorem dX1_feeFor_7 : decode cX1_feeFor 7 = .ok (.imul, 1) := by decide +kernel
theorem dX1_feeFor_8 : decode cX1_feeFor 8 = .ok (.ireturn, 1) := by decide +kernel
set_option maxRecDepth 20000 in
theorem ggX1_add_X1_feeFor : GoodIn wsX1_add wsX1_feeFor := goodIn_r _ [10] (by decide +kernel) (by decide +kernel)
set_option maxRecDepth 20000 in
theorem gX1_add_X1_feeFor : GoodIn wsX1_add (va_wsS RX1 35 yX1_feeFor wsX1_feeFor) := goodIn_app (goodIn_of _ (by decide +kernel)) ggX1_add_X1_feeFor
set_option maxRecDepth 20000 in
theorem ggX1_add_X7_put : GoodIn wsX1_add wsX7_put := goodIn_r _ [13] (by decide +kernel) (by decide +kernel)
set_option maxRecDepth 20000 in
theorem gX1_add_X7_put_n39 : GoodIn wsX1_add (wsX7_put) := ggX1_add_X7_put
theorem dX1_add_0 : decode cX1_add 0 = .ok (.iload_n 3, 1) := by decide +kernel
theorem dX1_add_1 : decode cX1_add 1 = .ok (.iload 4, 2) := by decide +kernel
theorem dX1_add_3 : decode cX1_add 3 = .ok (.invokestatic 35, 3) := by decide +kernel
theorem dX1_add_6 : decode cX1_add 6 = .ok (.istore 5, 2) := by decide +kernel
theorem dX1_add_8 : decode cX1_add 8 = .ok (.aload_n 0, 1) := by decide +kernel
theorem dX1_add_9 : decode cX1_add 9 = .ok (.getfield 9, 3) := by decide +kernel
theorem dX1_add_12 : decode cX1_add 12 = .ok (.aload_n 0, 1) := by decide +kernel
theorem dX1_add_13 : decode cX1_add 13 = .ok (.getfield 27, 3) := by decide +kernel
theorem dX1_add_16 : decode cX1_add 16 = .ok (.iload_n 1, 1) := by decide +kernel
theorem dX1_add_17 : decode cX1_add 17 = .ok (.invokestatic 39, 3) := by decide +kernel
theorem dX1_add_20 : decode cX1_add 20 = .ok (.aload_n 0, 1) := by decide +kernel
theorem dX1_add_21 : decode cX1_add 21 = .ok (.getfield 15, 3) := by decide +kernel
theorem dX1_add_24 : decode cX1_add 24 = .ok (.aload_n 0, 1) := by decide +kernel
theorem dX1_add_25 : decode cX1_add 25 = .ok (.getfield 27, 3) := by decide +kernel
theorem dX1_add_28 : decode cX1_add 28 = .ok (.iload_n 2, 1) := by decide +kernel
theorem dX1_add_29 : decode cX1_add 29 = .ok (.invokestatic 39, 3) := by decide +kernel
theorem dX1_add_32 : decode cX1_add 32 = .ok (.aload_n 0, 1) := by decide +kernel
theorem dX1_add_33 : decode cX1_add 33 = .ok (.getfield 18, 3) := by decide +kernel
theorem dX1_add_36 : decode cX1_add 36 = .ok (.aload_n 0, 1) := by decide +kernel
theorem dX1_add_37 : decode cX1_add 37 = .ok (.getfield 27, 3) := by decide +kernel
theorem dX1_add_40 : decode cX1_add 40 = .ok (.iload_n 3, 1) := by decide +kernel
theorem dX1_add_41 : decode cX1_add 41 = .ok (.invokestatic 39, 3) := by decide +kernel
theorem dX1_add_44 : decode cX1_add 44 = .ok (.aload_n 0, 1) := by decide +kernel
theorem dX1_add_45 : decode cX1_add 45 = .ok (.getfield 21, 3) := by decide +kernel
theorem dX1_add_48 : decode cX1_add 48 = .ok (.aload_n 0, 1) := by decide +kernel
theorem dX1_add_49 : decode cX1_add 49 = .ok (.getfield 27, 3) := by decide +kernel
theorem dX1_add_52 : decode cX1_add 52 = .ok (.iload 4, 2) := by decide +kernel
theorem dX1_add_54 : decode cX1_add 54 = .ok (.invokestatic 39, 3) := by decide +kernel
theorem dX1_add_57 : decode cX1_add 57 = .ok (.aload_n 0, 1) := by decide +kernel
theorem dX1_add_58 : decode cX1_add 58 = .ok (.getfield 24, 3) := by decide +kernel
theorem dX1_add_61 : decode cX1_add 61 = .ok (.aload_n 0, 1) := by decide +kernel
theorem dX1_add_62 : decode cX1_add 62 = .ok (.getfield 27, 3) := by decide +kernel
theorem dX1_add_65 : decode cX1_add 65 = .ok (.iload 5, 2) := by decide +kernel
theorem dX1_add_67 : decode cX1_add 67 = .ok (.invokestatic 39, 3) := by decide +kernel
theorem dX1_add_70 : decode cX1_add 70 = .ok (.aload_n 0, 1) := by decide +kernel
theorem dX1_add_71 : decode cX1_add 71 = .ok (.dup, 1) := by decide +kernel
theorem dX1_add_72 : decode cX1_add 72 = .ok (.getfield 27, 3) := by decide +kernel
theorem dX1_add_75 : decode cX1_add 75 = .ok (.iconst 1, 1) := by decide +kernel
theorem dX1_add_76 : decode cX1_add 76 = .ok (.iadd, 1) := by decide +kernel
theorem dX1_add_77 : decode cX1_add 77 = .ok (.putfield 27, 3) := by decide +kernel
theorem dX1_add_80 : decode cX1_add 80 = .ok (.iload 5, 2) := by decide +kernel
theorem dX1_add_82 : decode cX1_add 82 = .ok (.ireturn, 1) := by decide +kernel
set_option maxRecDepth 20000 in
theorem ggX1_dayAfter_X7_at : GoodIn wsX1_dayAfter wsX7_at := goodIn_r _ [5] (by decide +kernel) (by decide +kernel)
set_option maxRecDepth 20000 in
theorem gX1_dayAfter_X7_at_n43 : GoodIn wsX1_dayAfter (wsX7_at) := ggX1_dayAfter_X7_at
theorem dX1_dayAfter_0 : decode cX1_dayAfter 0 = .ok (.aload_n 0, 1) := by decide +kernel
theorem dX1_dayAfter_1 : decode cX1_dayAfter 1 = .ok (.getfield 15, 3) := by decide +kernel
theorem dX1_dayAfter_4 : decode cX1_dayAfter 4 = .ok (.iload_n 1, 1) := by decide +kernel
theorem dX1_dayAfter_5 : decode cX1_dayAfter 5 = .ok (.invokestatic 43, 3) := by decide +kernel
theorem dX1_dayAfter_8 : decode cX1_dayAfter 8 = .ok (.aload_n 0, 1) := by decide +kernel
theorem dX1_dayAfter_9 : decode cX1_dayAfter 9 = .ok (.getfield 18, 3) := by decide +kernel
theorem dX1_dayAfter_12 : decode cX1_dayAfter 12 = .ok (.iload_n 1, 1) := by decide +kernel
theorem dX1_dayAfter_13 : decode cX1_dayAfter 13 = .ok (.invokestatic 43, 3) := by decide +kernel
theorem dX1_dayAfter_16 : decode cX1_dayAfter 16 = .ok (.iadd, 1) := by decide +kernel
theorem dX1_dayAfter_17 : decode cX1_dayAfter 17 = .ok (.ireturn, 1) := by decide +kernel
set_option maxRecDepth 20000 in
theorem ggX1_overlapping_X7_at : GoodIn wsX1_overlapping wsX7_at := goodIn_r _ [6] (by decide +kernel) (by decide +kernel)
set_option maxRecDepth 20000 in
theorem gX1_overlapping_X7_at_n43 : GoodIn wsX1_overlapping (wsX7_at) := ggX1_overlapping_X7_at
set_option maxRecDepth 20000 in
theorem ggX1_overlapping_X1_dayAfter : GoodIn wsX1_overlapping wsX1_dayAfter := goodIn_r _ [11, 3, 12, 4, 5, 6, 13, 14, 15, 16, 17, 18] (by decide +kernel) (by decide +kernel)
set_option maxRecDepth 20000 in
theorem gX1_overlapping_X1_dayAfter : GoodIn wsX1_overlapping (wsV RX1 47 RX1 yX1_dayAfter wsX1_dayAfter) := goodIn_app (goodIn_of _ (by decide +kernel)) ggX1_overlapping_X1_dayAfter
theorem dX1_overlapping_0 : decode cX1_overlapping 0 = .ok (.iconst 0, 1) := by decide +kernel
theorem dX1_overlapping_1 : decode cX1_overlapping 1 = .ok (.istore 4, 2) := by decide +kernel
theorem dX1_overlapping_3 : decode cX1_overlapping 3 = .ok (.iload 4, 2) := by decide +kernel
theorem dX1_overlapping_5 : decode cX1_overlapping 5 = .ok (.aload_n 0, 1) := by decide +kernel
theorem dX1_overlapping_6 : decode cX1_overlapping 6 = .ok (.getfield 27, 3) := by decide +kernel
theorem dX1_overlapping_9 : decode cX1_overlapping 9 = .ok (.if_icmp .ge 50, 3) := by decide +kernel
theorem dX1_overlapping_12 : decode cX1_overlapping 12 = .ok (.aload_n 0, 1) := by decide +kernel
theorem dX1_overlapping_13 : decode cX1_overlapping 13 = .ok (.getfield 9, 3) := by decide +kernel
theorem dX1_overlapping_16 : decode cX1_overlapping 16 = .ok (.iload 4, 2) := by decide +kernel
theorem dX1_overlapping_18 : decode cX1_overlapping 18 = .ok (.invokestatic 43, 3) := by decide +kernel
theorem dX1_overlapping_21 : decode cX1_overlapping 21 = .ok (.iload_n 1, 1) := by decide +kernel
theorem dX1_overlapping_22 : decode cX1_overlapping 22 = .ok (.if_icmp .ne 31, 3) := by decide +kernel
theorem dX1_overlapping_25 : decode cX1_overlapping 25 = .ok (.aload_n 0, 1) := by decide +kernel
theorem dX1_overlapping_26 : decode cX1_overlapping 26 = .ok (.getfield 15, 3) := by decide +kernel
theorem dX1_overlapping_29 : decode cX1_overlapping 29 = .ok (.iload 4, 2) := by decide +kernel
theorem dX1_overlapping_31 : decode cX1_overlapping 31 = .ok (.invokestatic 43, 3) := by decide +kernel
theorem dX1_overlapping_34 : decode cX1_overlapping 34 = .ok (.iload_n 2, 1) := by decide +kernel
theorem dX1_overlapping_35 : decode cX1_overlapping 35 = .ok (.iload_n 3, 1) := by decide +kernel
theorem dX1_overlapping_36 : decode cX1_overlapping 36 = .ok (.iadd, 1) := by decide +kernel
theorem dX1_overlapping_37 : decode cX1_overlapping 37 = .ok (.if_icmp .ge 16, 3) := by decide +kernel
theorem dX1_overlapping_40 : decode cX1_overlapping 40 = .ok (.iload_n 2, 1) := by decide +kernel
theorem dX1_overlapping_41 : decode cX1_overlapping 41 = .ok (.aload_n 0, 1) := by decide +kernel
theorem dX1_overlapping_42 : decode cX1_overlapping 42 = .ok (.iload 4, 2) := by decide +kernel
theorem dX1_overlapping_44 : decode cX1_overlapping 44 = .ok (.invokevirtual 47, 3) := by decide +kernel
theorem dX1_overlapping_47 : decode cX1_overlapping 47 = .ok (.if_icmp .ge 6, 3) := by decide +kernel
theorem dX1_overlapping_50 : decode cX1_overlapping 50 = .ok (.iload 4, 2) := by decide +kernel
theorem dX1_overlapping_52 : decode cX1_overlapping 52 = .ok (.ireturn, 1) := by decide +kernel
theorem dX1_overlapping_53 : decode cX1_overlapping 53 = .ok (.iinc 4 1, 3) := by decide +kernel
theorem dX1_overlapping_56 : decode cX1_overlapping 56 = .ok (.goto (-53), 3) := by decide +kernel
theorem dX1_overlapping_59 : decode cX1_overlapping 59 = .ok (.iconst (-1), 1) := by decide +kernel
theorem dX1_overlapping_60 : decode cX1_overlapping 60 = .ok (.ireturn, 1) := by decide +kernel
set_option maxRecDepth 20000 in
theorem ggX1_hiresOf_X7_at : GoodIn wsX1_hiresOf wsX7_at := goodIn_r _ [5] (by decide +kernel) (by decide +kernel)
set_option maxRecDepth 20000 in
theorem gX1_hiresOf_X7_at_n43 : GoodIn wsX1_hiresOf (wsX7_at) := ggX1_hiresOf_X7_at
theorem dX1_hiresOf_0 : decode cX1_hiresOf 0 = .ok (.iconst 0, 1) := by decide +kernel
theorem dX1_hiresOf_1 : decode cX1_hiresOf 1 = .ok (.istore_n 2, 1) := by decide +kernel
theorem dX1_hiresOf_2 : decode cX1_hiresOf 2 = .ok (.iconst 0, 1) := by decide +kernel
theorem dX1_hiresOf_3 : decode cX1_hiresOf 3 = .ok (.istore_n 3, 1) := by decide +kernel
theorem dX1_hiresOf_4 : decode cX1_hiresOf 4 = .ok (.iload_n 3, 1) := by decide +kernel
theorem dX1_hiresOf_5 : decode cX1_hiresOf 5 = .ok (.aload_n 0, 1) := by decide +kernel
theorem dX1_hiresOf_6 : decode cX1_hiresOf 6 = .ok (.getfield 27, 3) := by decide +kernel
theorem dX1_hiresOf_9 : decode cX1_hiresOf 9 = .ok (.if_icmp .ge 24, 3) := by decide +kernel
theorem dX1_hiresOf_12 : decode cX1_hiresOf 12 = .ok (.aload_n 0, 1) := by decide +kernel
theorem dX1_hiresOf_13 : decode cX1_hiresOf 13 = .ok (.getfield 9, 3) := by decide +kernel
theorem dX1_hiresOf_16 : decode cX1_hiresOf 16 = .ok (.iload_n 3, 1) := by decide +kernel
theorem dX1_hiresOf_17 : decode cX1_hiresOf 17 = .ok (.invokestatic 43, 3) := by decide +kernel
theorem dX1_hiresOf_20 : decode cX1_hiresOf 20 = .ok (.iload_n 1, 1) := by decide +kernel
theorem dX1_hiresOf_21 : decode cX1_hiresOf 21 = .ok (.if_icmp .ne 6, 3) := by decide +kernel
theorem dX1_hiresOf_24 : decode cX1_hiresOf 24 = .ok (.iinc 2 1, 3) := by decide +kernel
theorem dX1_hiresOf_27 : decode cX1_hiresOf 27 = .ok (.iinc 3 1, 3) := by decide +kernel
theorem dX1_hiresOf_30 : decode cX1_hiresOf 30 = .ok (.goto (-26), 3) := by decide +kernel
theorem dX1_hiresOf_33 : decode cX1_hiresOf 33 = .ok (.iload_n 2, 1) := by decide +kernel
theorem dX1_hiresOf_34 : decode cX1_hiresOf 34 = .ok (.ireturn, 1) := by decide +kernel
set_option maxRecDepth 20000 in
theorem ggX1_canEnd_X7_at : GoodIn wsX1_canEnd wsX7_at := goodIn_r _ [4] (by decide +kernel) (by decide +kernel)
set_option maxRecDepth 20000 in
theorem gX1_canEnd_X7_at_n43 : GoodIn wsX1_canEnd (wsX7_at) := ggX1_canEnd_X7_at
set_option maxRecDepth 20000 in
theorem ggX1_canEnd_X1_dayAfter : GoodIn wsX1_canEnd wsX1_dayAfter := goodIn_r _ [9, 1, 10, 2, 3, 4, 11, 12, 13, 14, 15, 16] (by decide +kernel) (by decide +kernel)
set_option maxRecDepth 20000 in
theorem gX1_canEnd_X1_dayAfter : GoodIn wsX1_canEnd (wsV RX1 47 RX1 yX1_dayAfter wsX1_dayAfter) := goodIn_app (goodIn_of _ (by decide +kernel)) ggX1_canEnd_X1_dayAfter
theorem dX1_canEnd_0 : decode cX1_canEnd 0 = .ok (.aload_n 0, 1) := by decide +kernel
theorem dX1_canEnd_1 : decode cX1_canEnd 1 = .ok (.getfield 15, 3) := by decide +kernel
theorem dX1_canEnd_4 : decode cX1_canEnd 4 = .ok (.iload_n 1, 1) := by decide +kernel
theorem dX1_canEnd_5 : decode cX1_canEnd 5 = .ok (.invokestatic 43, 3) := by decide +kernel
theorem dX1_canEnd_8 : decode cX1_canEnd 8 = .ok (.iload_n 2, 1) := by decide +kernel
theorem dX1_canEnd_9 : decode cX1_canEnd 9 = .ok (.if_icmp .gt 18, 3) := by decide +kernel
theorem dX1_canEnd_12 : decode cX1_canEnd 12 = .ok (.iload_n 2, 1) := by decide +kernel
theorem dX1_canEnd_13 : decode cX1_canEnd 13 = .ok (.iconst 1, 1) := by decide +kernel
theorem dX1_canEnd_14 : decode cX1_canEnd 14 = .ok (.iadd, 1) := by decide +kernel
theorem dX1_canEnd_15 : decode cX1_canEnd 15 = .ok (.aload_n 0, 1) := by decide +kernel
theorem dX1_canEnd_16 : decode cX1_canEnd 16 = .ok (.iload_n 1, 1) := by decide +kernel
theorem dX1_canEnd_17 : decode cX1_canEnd 17 = .ok (.invokevirtual 47, 3) := by decide +kernel
theorem dX1_canEnd_20 : decode cX1_canEnd 20 = .ok (.if_icmp .ge 7, 3) := by decide +kernel
theorem dX1_canEnd_23 : decode cX1_canEnd 23 = .ok (.iconst 1, 1) := by decide +kernel
theorem dX1_canEnd_24 : decode cX1_canEnd 24 = .ok (.goto 4, 3) := by decide +kernel
theorem dX1_canEnd_27 : decode cX1_canEnd 27 = .ok (.iconst 0, 1) := by decide +kernel
theorem dX1_canEnd_28 : decode cX1_canEnd 28 = .ok (.ireturn, 1) := by decide +kernel
set_option maxRecDepth 20000 in
theorem ggX1_end_X7_at : GoodIn wsX1_end wsX7_at := goodIn_r _ [7] (by decide +kernel) (by decide +kernel)
set_option maxRecDepth 20000 in
theorem gX1_end_X7_at_n43 : GoodIn wsX1_end (wsX7_at) := ggX1_end_X7_at
set_option maxRecDepth 20000 in
theorem ggX1_end_X1_feeFor : GoodIn wsX1_end wsX1_feeFor := goodIn_r _ [11] (by decide +kernel) (by decide +kernel)
set_option maxRecDepth 20000 in
theorem gX1_end_X1_feeFor : GoodIn wsX1_end (va_wsS RX1 35 yX1_feeFor wsX1_feeFor) := goodIn_app (goodIn_of _ (by decide +kernel)) ggX1_end_X1_feeFor
set_option maxRecDepth 20000 in
theorem ggX1_end_X7_put : GoodIn wsX1_end wsX7_put := goodIn_r _ [13] (by decide +kernel) (by decide +kernel)
set_option maxRecDepth 20000 in
theorem gX1_end_X7_put_n39 : GoodIn wsX1_end (wsX7_put) := ggX1_end_X7_put
theorem dX1_end_0 : decode cX1_end 0 = .ok (.iload_n 2, 1) := by decide +kernel
theorem dX1_end_1 : decode cX1_end 1 = .ok (.aload_n 0, 1) := by decide +kernel
theorem dX1_end_2 : decode cX1_end 2 = .ok (.getfield 15, 3) := by decide +kernel
theorem dX1_end_5 : decode cX1_end 5 = .ok (.iload_n 1, 1) := by decide +kernel
theorem dX1_end_6 : decode cX1_end 6 = .ok (.invokestatic 43, 3) := by decide +kernel
theorem dX1_end_9 : decode cX1_end 9 = .ok (.isub, 1) := by decide +kernel
theorem dX1_end_10 : decode cX1_end 10 = .ok (.iconst 1, 1) := by decide +kernel
theorem dX1_end_11 : decode cX1_end 11 = .ok (.iadd, 1) := by decide +kernel
theorem dX1_end_12 : decode cX1_end 12 = .ok (.istore_n 3, 1) := by decide +kernel
theorem dX1_end_13 : decode cX1_end 13 = .ok (.aload_n 0, 1) := by decide +kernel
theorem dX1_end_14 : decode cX1_end 14 = .ok (.getfield 24, 3) := by decide +kernel
theorem dX1_end_17 : decode cX1_end 17 = .ok (.iload_n 1, 1) := by decide +kernel
theorem dX1_end_18 : decode cX1_end 18 = .ok (.invokestatic 43, 3) := by decide +kernel
theorem dX1_end_21 : decode cX1_end 21 = .ok (.iload_n 3, 1) := by decide +kernel
theorem dX1_end_22 : decode cX1_end 22 = .ok (.aload_n 0, 1) := by decide +kernel
theorem dX1_end_23 : decode cX1_end 23 = .ok (.getfield 21, 3) := by decide +kernel
theorem dX1_end_26 : decode cX1_end 26 = .ok (.iload_n 1, 1) := by decide +kernel
theorem dX1_end_27 : decode cX1_end 27 = .ok (.invokestatic 43, 3) := by decide +kernel
theorem dX1_end_30 : decode cX1_end 30 = .ok (.invokestatic 35, 3) := by decide +kernel
theorem dX1_end_33 : decode cX1_end 33 = .ok (.isub, 1) := by decide +kernel
theorem dX1_end_34 : decode cX1_end 34 = .ok (.iconst 2, 1) := by decide +kernel
theorem dX1_end_35 : decode cX1_end 35 = .ok (.idiv, 1) := by decide +kernel
theorem dX1_end_36 : decode cX1_end 36 = .ok (.istore 4, 2) := by decide +kernel
theorem dX1_end_38 : decode cX1_end 38 = .ok (.aload_n 0, 1) := by decide +kernel
theorem dX1_end_39 : decode cX1_end 39 = .ok (.getfield 18, 3) := by decide +kernel
theorem dX1_end_42 : decode cX1_end 42 = .ok (.iload_n 1, 1) := by decide +kernel
theorem dX1_end_43 : decode cX1_end 43 = .ok (.iload_n 3, 1) := by decide +kernel
theorem dX1_end_44 : decode cX1_end 44 = .ok (.invokestatic 39, 3) := by decide +kernel
theorem dX1_end_47 : decode cX1_end 47 = .ok (.aload_n 0, 1) := by decide +kernel
theorem dX1_end_48 : decode cX1_end 48 = .ok (.getfield 24, 3) := by decide +kernel
theorem dX1_end_51 : decode cX1_end 51 = .ok (.iload_n 1, 1) := by decide +kernel
theorem dX1_end_52 : decode cX1_end 52 = .ok (.aload_n 0, 1) := by decide +kernel
theorem dX1_end_53 : decode cX1_end 53 = .ok (.getfield 24, 3) := by decide +kernel
theorem dX1_end_56 : decode cX1_end 56 = .ok (.iload_n 1, 1) := by decide +kernel
theorem dX1_end_57 : decode cX1_end 57 = .ok (.invokestatic 43, 3) := by decide +kernel
theorem dX1_end_60 : decode cX1_end 60 = .ok (.iload 4, 2) := by decide +kernel
theorem dX1_end_62 : decode cX1_end 62 = .ok (.isub, 1) := by decide +kernel
theorem dX1_end_63 : decode cX1_end 63 = .ok (.invokestatic 39, 3) := by decide +kernel
theorem dX1_end_66 : decode cX1_end 66 = .ok (.iload 4, 2) := by decide +kernel
theorem dX1_end_68 : decode cX1_end 68 = .ok (.ireturn, 1) := by decide +kernel
set_option maxRecDepth 20000 in
theorem ggX1_firstFree_X1_overlapping : GoodIn wsX1_firstFree wsX1_overlapping := goodIn_r _ [5, 6, 7, 8, 9, 10, 11, 12, 13, 14, 4, 15, 16, 17, 18, 19, 20, 21, 22] (by decide +kernel) (by decide +kernel)
set_option maxRecDepth 20000 in
theorem gX1_firstFree_X1_overlapping : GoodIn wsX1_firstFree (wsV RX1 51 RX1 yX1_overlapping wsX1_overlapping) := goodIn_app (goodIn_of _ (by decide +kernel)) ggX1_firstFree_X1_overlapping
set_option maxRecDepth 20000 in
theorem ggX1_firstFree_X1_dayAfter : GoodIn wsX1_firstFree wsX1_dayAfter := goodIn_r _ [15, 8, 16, 9, 10, 11, 17, 18, 19, 20, 21, 22] (by decide +kernel) (by decide +kernel)
set_option maxRecDepth 20000 in
theorem gX1_firstFree_X1_dayAfter : GoodIn wsX1_firstFree (wsV RX1 47 RX1 yX1_dayAfter wsX1_dayAfter) := goodIn_app (goodIn_of _ (by decide +kernel)) ggX1_firstFree_X1_dayAfter
theorem dX1_firstFree_0 : decode cX1_firstFree 0 = .ok (.iload_n 2, 1) := by decide +kernel
theorem dX1_firstFree_1 : decode cX1_firstFree 1 = .ok (.istore 4, 2) := by decide +kernel
theorem dX1_firstFree_3 : decode cX1_firstFree 3 = .ok (.iconst 0, 1) := by decide +kernel
theorem dX1_firstFree_4 : decode cX1_firstFree 4 = .ok (.istore 5, 2) := by decide +kernel
theorem dX1_firstFree_6 : decode cX1_firstFree 6 = .ok (.iload 5, 2) := by decide +kernel
theorem dX1_firstFree_8 : decode cX1_firstFree 8 = .ok (.bipush 24, 2) := by decide +kernel
theorem dX1_firstFree_10 : decode cX1_firstFree 10 = .ok (.if_icmp .gt 35, 3) := by decide +kernel
theorem dX1_firstFree_13 : decode cX1_firstFree 13 = .ok (.aload_n 0, 1) := by decide +kernel
theorem dX1_firstFree_14 : decode cX1_firstFree 14 = .ok (.iload_n 1, 1) := by decide +kernel
theorem dX1_firstFree_15 : decode cX1_firstFree 15 = .ok (.iload 4, 2) := by decide +kernel
theorem dX1_firstFree_17 : decode cX1_firstFree 17 = .ok (.iload_n 3, 1) := by decide +kernel
theorem dX1_firstFree_18 : decode cX1_firstFree 18 = .ok (.invokevirtual 51, 3) := by decide +kernel
theorem dX1_firstFree_21 : decode cX1_firstFree 21 = .ok (.istore 6, 2) := by decide +kernel
theorem dX1_firstFree_23 : decode cX1_firstFree 23 = .ok (.iload 6, 2) := by decide +kernel
theorem dX1_firstFree_25 : decode cX1_firstFree 25 = .ok (.ifCond .ge 6, 3) := by decide +kernel
theorem dX1_firstFree_28 : decode cX1_firstFree 28 = .ok (.iload 4, 2) := by decide +kernel
theorem dX1_firstFree_30 : decode cX1_firstFree 30 = .ok (.ireturn, 1) := by decide +kernel
theorem dX1_firstFree_31 : decode cX1_firstFree 31 = .ok (.aload_n 0, 1) := by decide +kernel
theorem dX1_firstFree_32 : decode cX1_firstFree 32 = .ok (.iload 6, 2) := by decide +kernel
theorem dX1_firstFree_34 : decode cX1_firstFree 34 = .ok (.invokevirtual 47, 3) := by decide +kernel
theorem dX1_firstFree_37 : decode cX1_firstFree 37 = .ok (.istore 4, 2) := by decide +kernel
theorem dX1_firstFree_39 : decode cX1_firstFree 39 = .ok (.iinc 5 1, 3) := by decide +kernel
theorem dX1_firstFree_42 : decode cX1_firstFree 42 = .ok (.goto (-36), 3) := by decide +kernel
theorem dX1_firstFree_45 : decode cX1_firstFree 45 = .ok (.iload 4, 2) := by decide +kernel
theorem dX1_firstFree_47 : decode cX1_firstFree 47 = .ok (.ireturn, 1) := by decide +kernel
set_option maxRecDepth 20000 in
theorem ggX2_init_X4_init : GoodIn wsX2_init wsX4_init := goodIn_r _ [9, 10, 2, 3, 11, 12, 13, 14, 15, 16, 17, 18, 19, 20, 21, 22, 23, 24, 25, 26, 27, 28, 29, 30, 31, 32, 33, 34, 35, 36, 37, 38, 39, 40, 41, 42, 43, 44, 45, 46, 47, 48, 61, 62, 63, 64, 65, 66, 67, 68, 69, 52, 53, 54, 55, 56, 57, 58, 59, 60, 70, 71, 72, 73, 74, 75, 76, 77, 78] (by decide +kernel) (by decide +kernel)
set_option maxRecDepth 20000 in
theorem gX2_init_X4_init_n17 : GoodIn wsX2_init (wsX4_init) := ggX2_init_X4_init
theorem dX2_init_0 : decode cX2_init 0 = .ok (.aload_n 0, 1) := by decide +kernel
theorem dX2_init_1 : decode cX2_init 1 = .ok (.invokespecial 3, 3) := by decide +kernel
theorem dX2_init_4 : decode cX2_init 4 = .ok (.aload_n 0, 1) := by decide +kernel
theorem dX2_init_5 : decode cX2_init 5 = .ok (.iconst 5, 1) := by decide +kernel
theorem dX2_init_6 : decode cX2_init 6 = .ok (.anewarray 9, 3) := by decide +kernel
theorem dX2_init_9 : decode cX2_init 9 = .ok (.putfield 11, 3) := by decide +kernel
theorem dX2_init_12 : decode cX2_init 12 = .ok (.iconst 0, 1) := by decide +kernel
theorem dX2_init_13 : decode cX2_init 13 = .ok (.istore_n 1, 1) := by decide +kernel
theorem dX2_init_14 : decode cX2_init 14 = .ok (.iload_n 1, 1) := by decide +kernel
theorem dX2_init_15 : decode cX2_init 15 = .ok (.aload_n 0, 1) := by decide +kernel
theorem dX2_init_16 : decode cX2_init 16 = .ok (.getfield 11, 3) := by decide +kernel
theorem dX2_init_19 : decode cX2_init 19 = .ok (.arraylength, 1) := by decide +kernel
theorem dX2_init_20 : decode cX2_init 20 = .ok (.if_icmp .ge 22, 3) := by decide +kernel
theorem dX2_init_23 : decode cX2_init 23 = .ok (.aload_n 0, 1) := by decide +kernel
theorem dX2_init_24 : decode cX2_init 24 = .ok (.getfield 11, 3) := by decide +kernel
theorem dX2_init_27 : decode cX2_init 27 = .ok (.iload_n 1, 1) := by decide +kernel
theorem dX2_init_28 : decode cX2_init 28 = .ok (.new 9, 3) := by decide +kernel
theorem dX2_init_31 : decode cX2_init 31 = .ok (.dup, 1) := by decide +kernel
theorem dX2_init_32 : decode cX2_init 32 = .ok (.invokespecial 17, 3) := by decide +kernel
theorem dX2_init_35 : decode cX2_init 35 = .ok (.aastore, 1) := by decide +kernel
theorem dX2_init_36 : decode cX2_init 36 = .ok (.iinc 1 1, 3) := by decide +kernel
theorem dX2_init_39 : decode cX2_init 39 = .ok (.goto (-25), 3) := by decide +kernel
theorem dX2_init_42 : decode cX2_init 42 = .ok (.return_, 1) := by decide +kernel
set_option maxRecDepth 20000 in
theorem ggX2_remember_X2_stateAt : GoodIn wsX2_remember wsX2_stateAt := goodIn_r _ [11, 12, 68, 69, 70] (by decide +kernel) (by decide +kernel)
set_option maxRecDepth 20000 in
theorem gX2_remember_X2_stateAt : GoodIn wsX2_remember (wsV RX2 22 RX2 yX2_stateAt wsX2_stateAt) := goodIn_app (goodIn_of _ (by decide +kernel)) ggX2_remember_X2_stateAt
set_option maxRecDepth 20000 in
theorem ggX2_remember_X4_become : GoodIn wsX2_remember wsX4_become := goodIn_r _ [17, 18, 19, 20, 21, 22, 23, 24, 25, 26, 27, 28, 29, 30, 31, 32, 33, 34, 35, 36, 37, 38, 39, 40, 41, 42, 43, 44, 4, 5, 6, 45, 46, 47, 48, 49, 50, 51, 52, 53, 54, 55, 56, 57, 58, 59, 60, 61, 62, 63, 64, 65, 66, 67, 71, 72, 73, 74, 75, 76, 77, 78, 79, 80, 81, 82, 83, 84, 85, 86, 87, 88, 89, 90, 91, 92, 93, 94, 95, 96, 97] (by decide +kernel) (by decide +kernel)
set_option maxRecDepth 20000 in
theorem gX2_remember_X4_become : GoodIn wsX2_remember (wsV RX2 26 RX4 yX4_become wsX4_become) := goodIn_app (goodIn_of _ (by decide +kernel)) ggX2_remember_X4_become
theorem dX2_remember_0 : decode cX2_remember 0 = .ok (.aload_n 0, 1) := by decide +kernel
theorem dX2_remember_1 : decode cX2_remember 1 = .ok (.aload_n 0, 1) := by decide +kernel
theorem dX2_remember_2 : decode cX2_remember 2 = .ok (.getfield 18, 3) := by decide +kernel
theorem dX2_remember_5 : decode cX2_remember 5 = .ok (.invokevirtual 22, 3) := by decide +kernel
theorem dX2_remember_8 : decode cX2_remember 8 = .ok (.astore_n 2, 1) := by decide +kernel
theorem dX2_remember_9 : decode cX2_remember 9 = .ok (.aload_n 2, 1) := by decide +kernel
theorem dX2_remember_10 : decode cX2_remember 10 = .ok (.ifnonnull 4, 3) := by decide +kernel
theorem dX2_remember_13 : decode cX2_remember 13 = .ok (.return_, 1) := by decide +kernel
theorem dX2_remember_14 : decode cX2_remember 14 = .ok (.aload_n 2, 1) := by decide +kernel
theorem dX2_remember_15 : decode cX2_remember 15 = .ok (.aload_n 1, 1) := by decide +kernel
theorem dX2_remember_16 : decode cX2_remember 16 = .ok (.invokevirtual 26, 3) := by decide +kernel
theorem dX2_remember_19 : decode cX2_remember 19 = .ok (.aload_n 0, 1) := by decide +kernel
theorem dX2_remember_20 : decode cX2_remember 20 = .ok (.aload_n 0, 1) := by decide +kernel
theorem dX2_remember_21 : decode cX2_remember 21 = .ok (.getfield 18, 3) := by decide +kernel
theorem dX2_remember_24 : decode cX2_remember 24 = .ok (.iconst 1, 1) := by decide +kernel
theorem dX2_remember_25 : decode cX2_remember 25 = .ok (.iadd, 1) := by decide +kernel
theorem dX2_remember_26 : decode cX2_remember 26 = .ok (.iconst 5, 1) := by decide +kernel
theorem dX2_remember_27 : decode cX2_remember 27 = .ok (.if_icmp .ge 12, 3) := by decide +kernel
theorem dX2_remember_30 : decode cX2_remember 30 = .ok (.aload_n 0, 1) := by decide +kernel
theorem dX2_remember_31 : decode cX2_remember 31 = .ok (.getfield 18, 3) := by decide +kernel
theorem dX2_remember_34 : decode cX2_remember 34 = .ok (.iconst 1, 1) := by decide +kernel
theorem dX2_remember_35 : decode cX2_remember 35 = .ok (.iadd, 1) := by decide +kernel
theorem dX2_remember_36 : decode cX2_remember 36 = .ok (.goto 4, 3) := by decide +kernel
theorem dX2_remember_39 : decode cX2_remember 39 = .ok (.iconst 0, 1) := by decide +kernel
theorem dX2_remember_40 : decode cX2_remember 40 = .ok (.putfield 18, 3) := by decide +kernel
theorem dX2_remember_43 : decode cX2_remember 43 = .ok (.aload_n 0, 1) := by decide +kernel
theorem dX2_remember_44 : decode cX2_remember 44 = .ok (.aload_n 0, 1) := by decide +kernel
theorem dX2_remember_45 : decode cX2_remember 45 = .ok (.getfield 30, 3) := by decide +kernel
theorem dX2_remember_48 : decode cX2_remember 48 = .ok (.iconst 1, 1) := by decide +kernel
theorem dX2_remember_49 : decode cX2_remember 49 = .ok (.iadd, 1) := by decide +kernel
theorem dX2_remember_50 : decode cX2_remember 50 = .ok (.iconst 5, 1) := by decide +kernel
theorem dX2_remember_51 : decode cX2_remember 51 = .ok (.invokestatic 33, 3) := by decide +kernel
theorem dX2_remember_54 : decode cX2_remember 54 = .ok (.putfield 30, 3) := by decide +kernel
theorem dX2_remember_57 : decode cX2_remember 57 = .ok (.return_, 1) := by decide +kernel
set_option maxRecDepth 20000 in
theorem ggX2_restore_X2_stateAt : GoodIn wsX2_restore wsX2_stateAt := goodIn_r _ [7, 8, 67, 68, 69] (by decide +kernel) (by decide +kernel)
set_option maxRecDepth 20000 in
theorem gX2_restore_X2_stateAt : GoodIn wsX2_restore (wsV RX2 22 RX2 yX2_stateAt wsX2_stateAt) := goodIn_app (goodIn_of _ (by decide +kernel)) ggX2_restore_X2_stateAt
set_option maxRecDepth 20000 in
theorem ggX2_restore_X4_become : GoodIn wsX2_restore wsX4_become := goodIn_r _ [13, 14, 15, 16, 17, 18, 19, 20, 21, 22, 23, 24, 25, 26, 27, 28, 29, 30, 31, 32, 33, 34, 35, 36, 37, 38, 39, 40, 41, 42, 43, 44, 45, 46, 47, 48, 49, 50, 51, 52, 53, 54, 55, 56, 57, 58, 59, 60, 61, 62, 63, 64, 65, 66, 70, 71, 72, 73, 74, 75, 76, 77, 78, 79, 80, 81, 82, 83, 84, 85, 86, 87, 88, 89, 90, 91, 92, 93, 94, 95, 96] (by decide +kernel) (by decide +kernel)
set_option maxRecDepth 20000 in
theorem gX2_restore_X4_become : GoodIn wsX2_restore (wsV RX2 26 RX4 yX4_become wsX4_become) := goodIn_app (goodIn_of _ (by decide +kernel)) ggX2_restore_X4_become
theorem dX2_restore_0 : decode cX2_restore 0 = .ok (.aload_n 0, 1) := by decide +kernel
theorem dX2_restore_1 : decode cX2_restore 1 = .ok (.getfield 18, 3) := by decide +kernel
theorem dX2_restore_4 : decode cX2_restore 4 = .ok (.ifCond .le 12, 3) := by decide +kernel
theorem dX2_restore_7 : decode cX2_restore 7 = .ok (.aload_n 0, 1) := by decide +kernel
theorem dX2_restore_8 : decode cX2_restore 8 = .ok (.getfield 18, 3) := by decide +kernel
theorem dX2_restore_11 : decode cX2_restore 11 = .ok (.iconst 1, 1) := by decide +kernel
theorem dX2_restore_12 : decode cX2_restore 12 = .ok (.isub, 1) := by decide +kernel
theorem dX2_restore_13 : decode cX2_restore 13 = .ok (.goto 4, 3) := by decide +kernel
theorem dX2_restore_16 : decode cX2_restore 16 = .ok (.iconst 4, 1) := by decide +kernel
theorem dX2_restore_17 : decode cX2_restore 17 = .ok (.istore_n 2, 1) := by decide +kernel
theorem dX2_restore_18 : decode cX2_restore 18 = .ok (.aload_n 0, 1) := by decide +kernel
theorem dX2_restore_19 : decode cX2_restore 19 = .ok (.iload_n 2, 1) := by decide +kernel
theorem dX2_restore_20 : decode cX2_restore 20 = .ok (.invokevirtual 22, 3) := by decide +kernel
theorem dX2_restore_23 : decode cX2_restore 23 = .ok (.astore_n 3, 1) := by decide +kernel
theorem dX2_restore_24 : decode cX2_restore 24 = .ok (.aload_n 0, 1) := by decide +kernel
theorem dX2_restore_25 : decode cX2_restore 25 = .ok (.getfield 30, 3) := by decide +kernel
theorem dX2_restore_28 : decode cX2_restore 28 = .ok (.ifCond .le 7, 3) := by decide +kernel
theorem dX2_restore_31 : decode cX2_restore 31 = .ok (.aload_n 3, 1) := by decide +kernel
theorem dX2_restore_32 : decode cX2_restore 32 = .ok (.ifnonnull 4, 3) := by decide +kernel
theorem dX2_restore_35 : decode cX2_restore 35 = .ok (.return_, 1) := by decide +kernel
theorem dX2_restore_36 : decode cX2_restore 36 = .ok (.aload_n 1, 1) := by decide +kernel
theorem dX2_restore_37 : decode cX2_restore 37 = .ok (.aload_n 3, 1) := by decide +kernel
theorem dX2_restore_38 : decode cX2_restore 38 = .ok (.invokevirtual 26, 3) := by decide +kernel
theorem dX2_restore_41 : decode cX2_restore 41 = .ok (.aload_n 0, 1) := by decide +kernel
theorem dX2_restore_42 : decode cX2_restore 42 = .ok (.iload_n 2, 1) := by decide +kernel
theorem dX2_restore_43 : decode cX2_restore 43 = .ok (.putfield 18, 3) := by decide +kernel
theorem dX2_restore_46 : decode cX2_restore 46 = .ok (.aload_n 0, 1) := by decide +kernel
theorem dX2_restore_47 : decode cX2_restore 47 = .ok (.dup, 1) := by decide +kernel
theorem dX2_restore_48 : decode cX2_restore 48 = .ok (.getfield 30, 3) := by decide +kernel
theorem dX2_restore_51 : decode cX2_restore 51 = .ok (.iconst 1, 1) := by decide +kernel
theorem dX2_restore_52 : decode cX2_restore 52 = .ok (.isub, 1) := by decide +kernel
theorem dX2_restore_53 : decode cX2_restore 53 = .ok (.putfield 30, 3) := by decide +kernel
theorem dX2_restore_56 : decode cX2_restore 56 = .ok (.return_, 1) := by decide +kernel
theorem dX2_stateAt_0 : decode cX2_stateAt 0 = .ok (.iload_n 1, 1) := by decide +kernel
theorem dX2_stateAt_1 : decode cX2_stateAt 1 = .ok (.ifCond .lt 21, 3) := by decide +kernel
theorem dX2_stateAt_4 : decode cX2_stateAt 4 = .ok (.iload_n 1, 1) := by decide +kernel
theorem dX2_stateAt_5 : decode cX2_stateAt 5 = .ok (.aload_n 0, 1) := by decide +kernel
theorem dX2_stateAt_6 : decode cX2_stateAt 6 = .ok (.getfield 11, 3) := by decide +kernel
theorem dX2_stateAt_9 : decode cX2_stateAt 9 = .ok (.arraylength, 1) := by decide +kernel
theorem dX2_stateAt_10 : decode cX2_stateAt 10 = .ok (.if_icmp .ge 12, 3) := by decide +kernel
theorem dX2_stateAt_13 : decode cX2_stateAt 13 = .ok (.aload_n 0, 1) := by decide +kernel
theorem dX2_stateAt_14 : decode cX2_stateAt 14 = .ok (.getfield 11, 3) := by decide +kernel
theorem dX2_stateAt_17 : decode cX2_stateAt 17 = .ok (.iload_n 1, 1) := by decide +kernel
theorem dX2_stateAt_18 : decode cX2_stateAt 18 = .ok (.aaload, 1) := by decide +kernel
theorem dX2_stateAt_19 : decode cX2_stateAt 19 = .ok (.goto 4, 3) := by decide +kernel
theorem dX2_stateAt_22 : decode cX2_stateAt 22 = .ok (.aconst_null, 1) := by decide +kernel
theorem dX2_stateAt_23 : decode cX2_stateAt 23 = .ok (.areturn, 1) := by decide +kernel
theorem dX3_init_0 : decode cX3_init 0 = .ok (.aload_n 0, 1) := by decide +kernel
theorem dX3_init_1 : decode cX3_init 1 = .ok (.invokespecial 3, 3) := by decide +kernel
theorem dX3_init_4 : decode cX3_init 4 = .ok (.aload_n 0, 1) := by decide +kernel
theorem dX3_init_5 : decode cX3_init 5 = .ok (.aload_n 1, 1) := by decide +kernel
theorem dX3_init_6 : decode cX3_init 6 = .ok (.putfield 9, 3) := by decide +kernel
theorem dX3_init_9 : decode cX3_init 9 = .ok (.aload_n 0, 1) := by decide +kernel
theorem dX3_init_10 : decode cX3_init 10 = .ok (.sipush 168, 3) := by decide +kernel
theorem dX3_init_13 : decode cX3_init 13 = .ok (.newarray .int, 2) := by decide +kernel
theorem dX3_init_15 : decode cX3_init 15 = .ok (.putfield 15, 3) := by decide +kernel
theorem dX3_init_18 : decode cX3_init 18 = .ok (.return_, 1) := by decide +kernel
set_option maxRecDepth 20000 in
theorem ggX3_part_X7_at : GoodIn wsX3_part wsX7_at := goodIn_r _ [4] (by decide +kernel) (by decide +kernel)
set_option maxRecDepth 20000 in
theorem gX3_part_X7_at_n19 : GoodIn wsX3_part (wsX7_at) := ggX3_part_X7_at
theorem dX3_part_0 : decode cX3_part 0 = .ok (.aload_n 0, 1) := by decide +kernel
theorem dX3_part_1 : decode cX3_part 1 = .ok (.getfield 15, 3) := by decide +kernel
theorem dX3_part_4 : decode cX3_part 4 = .ok (.iload_n 1, 1) := by decide +kernel
theorem dX3_part_5 : decode cX3_part 5 = .ok (.bipush 7, 2) := by decide +kernel
theorem dX3_part_7 : decode cX3_part 7 = .ok (.imul, 1) := by decide +kernel
theorem dX3_part_8 : decode cX3_part 8 = .ok (.iload_n 2, 1) := by decide +kernel
theorem dX3_part_9 : decode cX3_part 9 = .ok (.iadd, 1) := by decide +kernel
theorem dX3_part_10 : decode cX3_part 10 = .ok (.invokestatic 19, 3) := by decide +kernel
theorem dX3_part_13 : decode cX3_part 13 = .ok (.ireturn, 1) := by decide +kernel
set_option maxRecDepth 20000 in
theorem ggX3_keep_X7_put : GoodIn wsX3_keep wsX7_put := goodIn_r _ [5] (by decide +kernel) (by decide +kernel)
set_option maxRecDepth 20000 in
theorem gX3_keep_X7_put_n27 : GoodIn wsX3_keep (wsX7_put) := ggX3_keep_X7_put
theorem dX3_keep_0 : decode cX3_keep 0 = .ok (.aload_n 0, 1) := by decide +kernel
theorem dX3_keep_1 : decode cX3_keep 1 = .ok (.getfield 15, 3) := by decide +kernel
theorem dX3_keep_4 : decode cX3_keep 4 = .ok (.aload_n 0, 1) := by decide +kernel
theorem dX3_keep_5 : decode cX3_keep 5 = .ok (.getfield 23, 3) := by decide +kernel
theorem dX3_keep_8 : decode cX3_keep 8 = .ok (.bipush 7, 2) := by decide +kernel
theorem dX3_keep_10 : decode cX3_keep 10 = .ok (.imul, 1) := by decide +kernel
theorem dX3_keep_11 : decode cX3_keep 11 = .ok (.iload_n 1, 1) := by decide +kernel
theorem dX3_keep_12 : decode cX3_keep 12 = .ok (.iadd, 1) := by decide +kernel
theorem dX3_keep_13 : decode cX3_keep 13 = .ok (.iload_n 2, 1) := by decide +kernel
theorem dX3_keep_14 : decode cX3_keep 14 = .ok (.invokestatic 27, 3) := by decide +kernel
theorem dX3_keep_17 : decode cX3_keep 17 = .ok (.return_, 1) := by decide +kernel
set_option maxRecDepth 20000 in
theorem ggX3_readAll_X3_nextToken : GoodIn wsX3_readAll wsX3_nextToken := goodIn_r _ [10, 4, 11, 12, 13, 14, 5, 15, 16, 17, 18, 19, 20, 9, 21, 22, 23, 103, 104, 105, 106, 107, 108, 109, 110, 111, 112] (by decide +kernel) (by decide +kernel)
set_option maxRecDepth 20000 in
theorem gX3_readAll_X3_nextToken : GoodIn wsX3_readAll (wsV RX3 40 RX3 yX3_nextToken wsX3_nextToken) := goodIn_app (goodIn_of _ (by decide +kernel)) ggX3_readAll_X3_nextToken
set_option maxRecDepth 20000 in
theorem ggX3_readAll_X3_readItem : GoodIn wsX3_readAll wsX3_readItem := goodIn_r _ [27, 5, 12, 14, 11, 28, 29, 30, 9, 31, 4, 32, 33, 34, 35, 36, 37, 38, 39, 40, 41, 42, 43, 15, 16, 17, 44, 45, 46, 47, 48, 49, 50, 51, 52, 53, 54, 55, 56, 57, 58, 59, 60, 61, 62, 63, 64, 65, 66, 67, 68, 69, 70, 71, 72, 73, 74, 75, 76, 77, 78, 79, 80, 81, 82, 83, 84, 1, 2, 85, 86, 87, 88, 89, 3, 90, 91, 92, 93, 94, 95, 96, 97, 98, 99, 6, 7, 8, 10, 13, 18, 19, 20, 21, 22, 23, 100, 101, 102, 103, 104, 105, 106, 107, 108, 109, 110, 111, 112] (by decide +kernel) (by decide +kernel)
set_option maxRecDepth 20000 in
theorem gX3_readAll_X3_readItem : GoodIn wsX3_readAll (wsV RX3 46 RX3 yX3_readItem wsX3_readItem) := goodIn_app (goodIn_of _ (by decide +kernel)) ggX3_readAll_X3_readItem
theorem dX3_readAll_0 : decode cX3_readAll 0 = .ok (.aload_n 0, 1) := by decide +kernel
theorem dX3_readAll_1 : decode cX3_readAll 1 = .ok (.bipush 16, 2) := by decide +kernel
theorem dX3_readAll_3 : decode cX3_readAll 3 = .ok (.iload_n 1, 1) := by decide +kernel
theorem dX3_readAll_4 : decode cX3_readAll 4 = .ok (.isub, 1) := by decide +kernel
theorem dX3_readAll_5 : decode cX3_readAll 5 = .ok (.putfield 31, 3) := by decide +kernel
theorem dX3_readAll_8 : decode cX3_readAll 8 = .ok (.aload_n 0, 1) := by decide +kernel
theorem dX3_readAll_9 : decode cX3_readAll 9 = .ok (.bipush 8, 2) := by decide +kernel
theorem dX3_readAll_11 : decode cX3_readAll 11 = .ok (.iload_n 2, 1) := by decide +kernel
theorem dX3_readAll_12 : decode cX3_readAll 12 = .ok (.isub, 1) := by decide +kernel
theorem dX3_readAll_13 : decode cX3_readAll 13 = .ok (.putfield 34, 3) := by decide +kernel
theorem dX3_readAll_16 : decode cX3_readAll 16 = .ok (.aload_n 0, 1) := by decide +kernel
theorem dX3_readAll_17 : decode cX3_readAll 17 = .ok (.iconst 0, 1) := by decide +kernel
theorem dX3_readAll_18 : decode cX3_readAll 18 = .ok (.putfield 23, 3) := by decide +kernel
theorem dX3_readAll_21 : decode cX3_readAll 21 = .ok (.aload_n 0, 1) := by decide +kernel
theorem dX3_readAll_22 : decode cX3_readAll 22 = .ok (.iconst 0, 1) := by decide +kernel
theorem dX3_readAll_23 : decode cX3_readAll 23 = .ok (.putfield 37, 3) := by decide +kernel
theorem dX3_readAll_26 : decode cX3_readAll 26 = .ok (.aload_n 0, 1) := by decide +kernel
theorem dX3_readAll_27 : decode cX3_readAll 27 = .ok (.invokevirtual 40, 3) := by decide +kernel
theorem dX3_readAll_30 : decode cX3_readAll 30 = .ok (.iconst 0, 1) := by decide +kernel
theorem dX3_readAll_31 : decode cX3_readAll 31 = .ok (.istore_n 3, 1) := by decide +kernel
theorem dX3_readAll_32 : decode cX3_readAll 32 = .ok (.iload_n 3, 1) := by decide +kernel
theorem dX3_readAll_33 : decode cX3_readAll 33 = .ok (.bipush 120, 2) := by decide +kernel
theorem dX3_readAll_35 : decode cX3_readAll 35 = .ok (.if_icmp .ge 39, 3) := by decide +kernel
theorem dX3_readAll_38 : decode cX3_readAll 38 = .ok (.aload_n 0, 1) := by decide +kernel
theorem dX3_readAll_39 : decode cX3_readAll 39 = .ok (.getfield 43, 3) := by decide +kernel
theorem dX3_readAll_42 : decode cX3_readAll 42 = .ok (.ifCond .eq 32, 3) := by decide +kernel
theorem dX3_readAll_45 : decode cX3_readAll 45 = .ok (.aload_n 0, 1) := by decide +kernel
theorem dX3_readAll_46 : decode cX3_readAll 46 = .ok (.invokevirtual 46, 3) := by decide +kernel
theorem dX3_readAll_49 : decode cX3_readAll 49 = .ok (.ifCond .ne 5, 3) := by decide +kernel
theorem dX3_readAll_52 : decode cX3_readAll 52 = .ok (.iconst 0, 1) := by decide +kernel
theorem dX3_readAll_53 : decode cX3_readAll 53 = .ok (.ireturn, 1) := by decide +kernel
theorem dX3_readAll_54 : decode cX3_readAll 54 = .ok (.aload_n 0, 1) := by decide +kernel
theorem dX3_readAll_55 : decode cX3_readAll 55 = .ok (.dup, 1) := by decide +kernel
theorem dX3_readAll_56 : decode cX3_readAll 56 = .ok (.getfield 23, 3) := by decide +kernel
theorem dX3_readAll_59 : decode cX3_readAll 59 = .ok (.iconst 1, 1) := by decide +kernel
theorem dX3_readAll_60 : decode cX3_readAll 60 = .ok (.iadd, 1) := by decide +kernel
theorem dX3_readAll_61 : decode cX3_readAll 61 = .ok (.putfield 23, 3) := by decide +kernel
theorem dX3_readAll_64 : decode cX3_readAll 64 = .ok (.aload_n 0, 1) := by decide +kernel
theorem dX3_readAll_65 : decode cX3_readAll 65 = .ok (.invokevirtual 40, 3) := by decide +kernel
theorem dX3_readAll_68 : decode cX3_readAll 68 = .ok (.iinc 3 1, 3) := by decide +kernel
theorem dX3_readAll_71 : decode cX3_readAll 71 = .ok (.goto (-39), 3) := by decide +kernel
theorem dX3_readAll_74 : decode cX3_readAll 74 = .ok (.aload_n 0, 1) := by decide +kernel
theorem dX3_readAll_75 : decode cX3_readAll 75 = .ok (.getfield 43, 3) := by decide +kernel
theorem dX3_readAll_78 : decode cX3_readAll 78 = .ok (.ifCond .ne 7, 3) := by decide +kernel
theorem dX3_readAll_81 : decode cX3_readAll 81 = .ok (.iconst 1, 1) := by decide +kernel
theorem dX3_readAll_82 : decode cX3_readAll 82 = .ok (.goto 4, 3) := by decide +kernel
theorem dX3_readAll_85 : decode cX3_readAll 85 = .ok (.iconst 0, 1) := by decide +kernel
theorem dX3_readAll_86 : decode cX3_readAll 86 = .ok (.ireturn, 1) := by decide +kernel
set_option maxRecDepth 20000 in
theorem ggX3_readItem_X3_isWord : GoodIn wsX3_readItem wsX3_isWord := goodIn_r _ [9, 1, 10, 4, 2, 3, 11, 12, 13, 14, 15, 16, 17, 18, 19, 20, 21, 22, 23, 24, 25, 26, 27, 28, 29, 30, 31, 32, 33, 34, 35, 36, 37, 38, 39, 40, 41, 42, 43, 44, 45, 46, 47, 48, 49, 50, 51, 52, 53, 54, 55, 56, 57, 58, 59, 60, 61, 62, 99, 100, 101, 102, 103, 104, 105, 106, 107, 108] (by decide +kernel) (by decide +kernel)
set_option maxRecDepth 20000 in
theorem gX3_readItem_X3_isWord : GoodIn wsX3_readItem (wsV RX3 52 RX3 yX3_isWord wsX3_isWord) := goodIn_app (goodIn_of _ (by decide +kernel)) ggX3_readItem_X3_isWord
set_option maxRecDepth 20000 in
theorem ggX3_readItem_X3_takePlace : GoodIn wsX3_readItem wsX3_takePlace := goodIn_r _ [66, 67, 68, 99, 100, 101, 102, 103, 104, 105, 106] (by decide +kernel) (by decide +kernel)
set_option maxRecDepth 20000 in
theorem gX3_readItem_X3_takePlace : GoodIn wsX3_readItem (wsV RX3 58 RX3 yX3_takePlace wsX3_takePlace) := goodIn_app (goodIn_of _ (by decide +kernel)) ggX3_readItem_X3_takePlace
set_option maxRecDepth 20000 in
theorem ggX3_readItem_X3_keep : GoodIn wsX3_readItem wsX3_keep := goodIn_r _ [72, 73, 74, 75, 24, 76, 99, 100, 101, 102, 103, 104, 105, 106] (by decide +kernel) (by decide +kernel)
set_option maxRecDepth 20000 in
theorem gX3_readItem_X3_keep : GoodIn wsX3_readItem (wsV RX3 62 RX3 yX3_keep wsX3_keep) := goodIn_app (goodIn_of _ (by decide +kernel)) ggX3_readItem_X3_keep
set_option maxRecDepth 20000 in
theorem ggX3_readItem_X3_readNumber : GoodIn wsX3_readItem wsX3_readNumber := goodIn_r _ [80, 10, 4, 2, 3, 1, 81, 82, 83, 84, 85, 86, 87, 8, 88, 89, 23, 24, 25, 90, 91, 92, 93, 94, 95, 69, 70, 71, 72, 73, 74, 75, 76, 96, 97, 98, 99, 100, 101, 102, 103, 104, 105, 106, 107, 108] (by decide +kernel) (by decide +kernel)
set_option maxRecDepth 20000 in
theorem gX3_readItem_X3_readNumber : GoodIn wsX3_readItem (wsV RX3 66 RX3 yX3_readNumber wsX3_readNumber) := goodIn_app (goodIn_of _ (by decide +kernel)) ggX3_readItem_X3_readNumber
set_option maxRecDepth 20000 in
theorem ggX3_readItem_X3_nextToken : GoodIn wsX3_readItem wsX3_nextToken := goodIn_r _ [88, 10, 4, 2, 89, 3, 1, 23, 24, 25, 90, 91, 92, 8, 93, 94, 95, 99, 100, 101, 102, 103, 104, 105, 106, 107, 108] (by decide +kernel) (by decide +kernel)
set_option maxRecDepth 20000 in
theorem gX3_readItem_X3_nextToken : GoodIn wsX3_readItem (wsV RX3 40 RX3 yX3_nextToken wsX3_nextToken) := goodIn_app (goodIn_of _ (by decide +kernel)) ggX3_readItem_X3_nextToken
set_option maxRecDepth 20000 in
theorem ggX3_readItem_X7_at : GoodIn wsX3_readItem wsX7_at := goodIn_r _ [25] (by decide +kernel) (by decide +kernel)
set_option maxRecDepth 20000 in
theorem gX3_readItem_X7_at_n19 : GoodIn wsX3_readItem (wsX7_at) := ggX3_readItem_X7_at
theorem dX3_readItem_0 : decode cX3_readItem 0 = .ok (.aload_n 0, 1) := by decide +kernel
theorem dX3_readItem_1 : decode cX3_readItem 1 = .ok (.ldc 50, 2) := by decide +kernel
theorem dX3_readItem_3 : decode cX3_readItem 3 = .ok (.invokevirtual 52, 3) := by decide +kernel
theorem dX3_readItem_6 : decode cX3_readItem 6 = .ok (.istore_n 1, 1) := by decide +kernel
theorem dX3_readItem_7 : decode cX3_readItem 7 = .ok (.iload_n 1, 1) := by decide +kernel
theorem dX3_readItem_8 : decode cX3_readItem 8 = .ok (.ifCond .ne 12, 3) := by decide +kernel
theorem dX3_readItem_11 : decode cX3_readItem 11 = .ok (.aload_n 0, 1) := by decide +kernel
theorem dX3_readItem_12 : decode cX3_readItem 12 = .ok (.ldc 56, 2) := by decide +kernel
theorem dX3_readItem_14 : decode cX3_readItem 14 = .ok (.invokevirtual 52, 3) := by decide +kernel
theorem dX3_readItem_17 : decode cX3_readItem 17 = .ok (.ifCond .eq 11, 3) := by decide +kernel
theorem dX3_readItem_20 : decode cX3_readItem 20 = .ok (.aload_n 0, 1) := by decide +kernel
theorem dX3_readItem_21 : decode cX3_readItem 21 = .ok (.iload_n 1, 1) := by decide +kernel
theorem dX3_readItem_22 : decode cX3_readItem 22 = .ok (.invokevirtual 58, 3) := by decide +kernel
theorem dX3_readItem_25 : decode cX3_readItem 25 = .ok (.ifCond .ne 5, 3) := by decide +kernel
theorem dX3_readItem_28 : decode cX3_readItem 28 = .ok (.iconst 0, 1) := by decide +kernel
theorem dX3_readItem_29 : decode cX3_readItem 29 = .ok (.ireturn, 1) := by decide +kernel
theorem dX3_readItem_30 : decode cX3_readItem 30 = .ok (.aload_n 0, 1) := by decide +kernel
theorem dX3_readItem_31 : decode cX3_readItem 31 = .ok (.iconst 0, 1) := by decide +kernel
theorem dX3_readItem_32 : decode cX3_readItem 32 = .ok (.iload_n 1, 1) := by decide +kernel
theorem dX3_readItem_33 : decode cX3_readItem 33 = .ok (.ifCond .eq 7, 3) := by decide +kernel
theorem dX3_readItem_36 : decode cX3_readItem 36 = .ok (.iconst 0, 1) := by decide +kernel
theorem dX3_readItem_37 : decode cX3_readItem 37 = .ok (.goto 4, 3) := by decide +kernel
theorem dX3_readItem_40 : decode cX3_readItem 40 = .ok (.iconst 1, 1) := by decide +kernel
theorem dX3_readItem_41 : decode cX3_readItem 41 = .ok (.invokevirtual 62, 3) := by decide +kernel
theorem dX3_readItem_44 : decode cX3_readItem 44 = .ok (.iload_n 1, 1) := by decide +kernel
theorem dX3_readItem_45 : decode cX3_readItem 45 = .ok (.ifCond .eq 7, 3) := by decide +kernel
theorem dX3_readItem_48 : decode cX3_readItem 48 = .ok (.iconst 5, 1) := by decide +kernel
theorem dX3_readItem_49 : decode cX3_readItem 49 = .ok (.goto 4, 3) := by decide +kernel
theorem dX3_readItem_52 : decode cX3_readItem 52 = .ok (.iconst 3, 1) := by decide +kernel
theorem dX3_readItem_53 : decode cX3_readItem 53 = .ok (.istore_n 2, 1) := by decide +kernel
theorem dX3_readItem_54 : decode cX3_readItem 54 = .ok (.iconst 1, 1) := by decide +kernel
theorem dX3_readItem_55 : decode cX3_readItem 55 = .ok (.istore_n 3, 1) := by decide +kernel
theorem dX3_readItem_56 : decode cX3_readItem 56 = .ok (.iload_n 3, 1) := by decide +kernel
theorem dX3_readItem_57 : decode cX3_readItem 57 = .ok (.iload_n 2, 1) := by decide +kernel
theorem dX3_readItem_58 : decode cX3_readItem 58 = .ok (.if_icmp .gt 19, 3) := by decide +kernel
theorem dX3_readItem_61 : decode cX3_readItem 61 = .ok (.aload_n 0, 1) := by decide +kernel
theorem dX3_readItem_62 : decode cX3_readItem 62 = .ok (.iload_n 3, 1) := by decide +kernel
theorem dX3_readItem_63 : decode cX3_readItem 63 = .ok (.invokevirtual 66, 3) := by decide +kernel
theorem dX3_readItem_66 : decode cX3_readItem 66 = .ok (.ifCond .ne 5, 3) := by decide +kernel
theorem dX3_readItem_69 : decode cX3_readItem 69 = .ok (.iconst 0, 1) := by decide +kernel
theorem dX3_readItem_70 : decode cX3_readItem 70 = .ok (.ireturn, 1) := by decide +kernel
theorem dX3_readItem_71 : decode cX3_readItem 71 = .ok (.iinc 3 1, 3) := by decide +kernel
theorem dX3_readItem_74 : decode cX3_readItem 74 = .ok (.goto (-18), 3) := by decide +kernel
theorem dX3_readItem_77 : decode cX3_readItem 77 = .ok (.aload_n 0, 1) := by decide +kernel
theorem dX3_readItem_78 : decode cX3_readItem 78 = .ok (.invokevirtual 40, 3) := by decide +kernel
theorem dX3_readItem_81 : decode cX3_readItem 81 = .ok (.iload_n 1, 1) := by decide +kernel
theorem dX3_readItem_82 : decode cX3_readItem 82 = .ok (.ifCond .eq 16, 3) := by decide +kernel
theorem dX3_readItem_85 : decode cX3_readItem 85 = .ok (.aload_n 0, 1) := by decide +kernel
theorem dX3_readItem_86 : decode cX3_readItem 86 = .ok (.ldc 70, 2) := by decide +kernel
theorem dX3_readItem_88 : decode cX3_readItem 88 = .ok (.invokevirtual 52, 3) := by decide +kernel
theorem dX3_readItem_91 : decode cX3_readItem 91 = .ok (.ifCond .eq 7, 3) := by decide +kernel
theorem dX3_readItem_94 : decode cX3_readItem 94 = .ok (.iconst 1, 1) := by decide +kernel
theorem dX3_readItem_95 : decode cX3_readItem 95 = .ok (.goto 4, 3) := by decide +kernel
theorem dX3_readItem_98 : decode cX3_readItem 98 = .ok (.iconst 0, 1) := by decide +kernel
theorem dX3_readItem_99 : decode cX3_readItem 99 = .ok (.istore_n 3, 1) := by decide +kernel
theorem dX3_readItem_100 : decode cX3_readItem 100 = .ok (.aload_n 0, 1) := by decide +kernel
theorem dX3_readItem_101 : decode cX3_readItem 101 = .ok (.bipush 6, 2) := by decide +kernel
theorem dX3_readItem_103 : decode cX3_readItem 103 = .ok (.iload_n 3, 1) := by decide +kernel
theorem dX3_readItem_104 : decode cX3_readItem 104 = .ok (.ifCond .eq 7, 3) := by decide +kernel
theorem dX3_readItem_107 : decode cX3_readItem 107 = .ok (.iconst 1, 1) := by decide +kernel
theorem dX3_readItem_108 : decode cX3_readItem 108 = .ok (.goto 4, 3) := by decide +kernel
theorem dX3_readItem_111 : decode cX3_readItem 111 = .ok (.iconst 0, 1) := by decide +kernel
theorem dX3_readItem_112 : decode cX3_readItem 112 = .ok (.invokevirtual 62, 3) := by decide +kernel
theorem dX3_readItem_115 : decode cX3_readItem 115 = .ok (.iload_n 3, 1) := by decide +kernel
theorem dX3_readItem_116 : decode cX3_readItem 116 = .ok (.ifCond .eq 7, 3) := by decide +kernel
theorem dX3_readItem_119 : decode cX3_readItem 119 = .ok (.aload_n 0, 1) := by decide +kernel
theorem dX3_readItem_120 : decode cX3_readItem 120 = .ok (.invokevirtual 40, 3) := by decide +kernel
theorem dX3_readItem_123 : decode cX3_readItem 123 = .ok (.aload_n 0, 1) := by decide +kernel
theorem dX3_readItem_124 : decode cX3_readItem 124 = .ok (.getfield 43, 3) := by decide +kernel
theorem dX3_readItem_127 : decode cX3_readItem 127 = .ok (.iconst 3, 1) := by decide +kernel
theorem dX3_readItem_128 : decode cX3_readItem 128 = .ok (.if_icmp .ne 26, 3) := by decide +kernel
theorem dX3_readItem_131 : decode cX3_readItem 131 = .ok (.aload_n 0, 1) := by decide +kernel
theorem dX3_readItem_132 : decode cX3_readItem 132 = .ok (.getfield 9, 3) := by decide +kernel
theorem dX3_readItem_135 : decode cX3_readItem 135 = .ok (.getfield 72, 3) := by decide +kernel
theorem dX3_readItem_138 : decode cX3_readItem 138 = .ok (.aload_n 0, 1) := by decide +kernel
theorem dX3_readItem_139 : decode cX3_readItem 139 = .ok (.getfield 77, 3) := by decide +kernel
theorem dX3_readItem_142 : decode cX3_readItem 142 = .ok (.invokestatic 19, 3) := by decide +kernel
theorem dX3_readItem_145 : decode cX3_readItem 145 = .ok (.bipush 59, 2) := by decide +kernel
theorem dX3_readItem_147 : decode cX3_readItem 147 = .ok (.if_icmp .ne 7, 3) := by decide +kernel
theorem dX3_readItem_150 : decode cX3_readItem 150 = .ok (.iconst 1, 1) := by decide +kernel
theorem dX3_readItem_151 : decode cX3_readItem 151 = .ok (.goto 4, 3) := by decide +kernel
theorem dX3_readItem_154 : decode cX3_readItem 154 = .ok (.iconst 0, 1) := by decide +kernel
theorem dX3_readItem_155 : decode cX3_readItem 155 = .ok (.ireturn, 1) := by decide +kernel
theorem dX3_takePlace_0 : decode cX3_takePlace 0 = .ok (.iload_n 1, 1) := by decide +kernel
theorem dX3_takePlace_1 : decode cX3_takePlace 1 = .ok (.ifCond .eq 26, 3) := by decide +kernel
theorem dX3_takePlace_4 : decode cX3_takePlace 4 = .ok (.aload_n 0, 1) := by decide +kernel
theorem dX3_takePlace_5 : decode cX3_takePlace 5 = .ok (.dup, 1) := by decide +kernel
theorem dX3_takePlace_6 : decode cX3_takePlace 6 = .ok (.getfield 31, 3) := by decide +kernel
theorem dX3_takePlace_9 : decode cX3_takePlace 9 = .ok (.iconst 1, 1) := by decide +kernel
theorem dX3_takePlace_10 : decode cX3_takePlace 10 = .ok (.isub, 1) := by decide +kernel
theorem dX3_takePlace_11 : decode cX3_takePlace 11 = .ok (.putfield 31, 3) := by decide +kernel
theorem dX3_takePlace_14 : decode cX3_takePlace 14 = .ok (.aload_n 0, 1) := by decide +kernel
theorem dX3_takePlace_15 : decode cX3_takePlace 15 = .ok (.getfield 31, 3) := by decide +kernel
theorem dX3_takePlace_18 : decode cX3_takePlace 18 = .ok (.ifCond .lt 7, 3) := by decide +kernel
theorem dX3_takePlace_21 : decode cX3_takePlace 21 = .ok (.iconst 1, 1) := by decide +kernel
theorem dX3_takePlace_22 : decode cX3_takePlace 22 = .ok (.goto 4, 3) := by decide +kernel
theorem dX3_takePlace_25 : decode cX3_takePlace 25 = .ok (.iconst 0, 1) := by decide +kernel
theorem dX3_takePlace_26 : decode cX3_takePlace 26 = .ok (.ireturn, 1) := by decide +kernel
theorem dX3_takePlace_27 : decode cX3_takePlace 27 = .ok (.aload_n 0, 1) := by decide +kernel
theorem dX3_takePlace_28 : decode cX3_takePlace 28 = .ok (.dup, 1) := by decide +kernel
theorem dX3_takePlace_29 : decode cX3_takePlace 29 = .ok (.getfield 34, 3) := by decide +kernel
theorem dX3_takePlace_32 : decode cX3_takePlace 32 = .ok (.iconst 1, 1) := by decide +kernel
theorem dX3_takePlace_33 : decode cX3_takePlace 33 = .ok (.isub, 1) := by decide +kernel
theorem dX3_takePlace_34 : decode cX3_takePlace 34 = .ok (.putfield 34, 3) := by decide +kernel
theorem dX3_takePlace_37 : decode cX3_takePlace 37 = .ok (.aload_n 0, 1) := by decide +kernel
theorem dX3_takePlace_38 : decode cX3_takePlace 38 = .ok (.getfield 34, 3) := by decide +kernel
theorem dX3_takePlace_41 : decode cX3_takePlace 41 = .ok (.ifCond .lt 7, 3) := by decide +kernel
theorem dX3_takePlace_44 : decode cX3_takePlace 44 = .ok (.iconst 1, 1) := by decide +kernel
theorem dX3_takePlace_45 : decode cX3_takePlace 45 = .ok (.goto 4, 3) := by decide +kernel
theorem dX3_takePlace_48 : decode cX3_takePlace 48 = .ok (.iconst 0, 1) := by decide +kernel
theorem dX3_takePlace_49 : decode cX3_takePlace 49 = .ok (.ireturn, 1) := by decide +kernel
set_option maxRecDepth 20000 in
theorem ggX3_readNumber_X3_nextToken : GoodIn wsX3_readNumber wsX3_nextToken := goodIn_r _ [14, 1, 2, 3, 15, 4, 5, 16, 17, 18, 19, 20, 21, 13, 22, 23, 24, 36, 37, 38, 39, 40, 41, 42, 43, 44, 45] (by decide +kernel) (by decide +kernel)
set_option maxRecDepth 20000 in
theorem gX3_readNumber_X3_nextToken : GoodIn wsX3_readNumber (wsV RX3 40 RX3 yX3_nextToken wsX3_nextToken) := goodIn_app (goodIn_of _ (by decide +kernel)) ggX3_readNumber_X3_nextToken
set_option maxRecDepth 20000 in
theorem ggX3_readNumber_X7_at : GoodIn wsX3_readNumber wsX7_at := goodIn_r _ [18] (by decide +kernel) (by decide +kernel)
set_option maxRecDepth 20000 in
theorem gX3_readNumber_X7_at_n19 : GoodIn wsX3_readNumber (wsX7_at) := ggX3_readNumber_X7_at
set_option maxRecDepth 20000 in
theorem ggX3_readNumber_X3_keep : GoodIn wsX3_readNumber wsX3_keep := goodIn_r _ [28, 29, 30, 31, 17, 32, 36, 37, 38, 39, 40, 41, 42, 43] (by decide +kernel) (by decide +kernel)
set_option maxRecDepth 20000 in
theorem gX3_readNumber_X3_keep : GoodIn wsX3_readNumber (wsV RX3 62 RX3 yX3_keep wsX3_keep) := goodIn_app (goodIn_of _ (by decide +kernel)) ggX3_readNumber_X3_keep
set_option maxRecDepth 20000 in
theorem ggX3_readNumber_X3_isAllowed : GoodIn wsX3_readNumber wsX3_isAllowed := goodIn_r _ [35, 23, 17, 24] (by decide +kernel) (by decide +kernel)
set_option maxRecDepth 20000 in
theorem gX3_readNumber_X3_isAllowed : GoodIn wsX3_readNumber (va_wsS RX3 86 yX3_isAllowed wsX3_isAllowed) := goodIn_app (goodIn_of _ (by decide +kernel)) ggX3_readNumber_X3_isAllowed
theorem dX3_readNumber_0 : decode cX3_readNumber 0 = .ok (.aload_n 0, 1) := by decide +kernel
theorem dX3_readNumber_1 : decode cX3_readNumber 1 = .ok (.invokevirtual 40, 3) := by decide +kernel
theorem dX3_readNumber_4 : decode cX3_readNumber 4 = .ok (.aload_n 0, 1) := by decide +kernel
theorem dX3_readNumber_5 : decode cX3_readNumber 5 = .ok (.getfield 37, 3) := by decide +kernel
theorem dX3_readNumber_8 : decode cX3_readNumber 8 = .ok (.aload_n 0, 1) := by decide +kernel
theorem dX3_readNumber_9 : decode cX3_readNumber 9 = .ok (.getfield 77, 3) := by decide +kernel
theorem dX3_readNumber_12 : decode cX3_readNumber 12 = .ok (.isub, 1) := by decide +kernel
theorem dX3_readNumber_13 : decode cX3_readNumber 13 = .ok (.iconst 1, 1) := by decide +kernel
theorem dX3_readNumber_14 : decode cX3_readNumber 14 = .ok (.if_icmp .le 26, 3) := by decide +kernel
theorem dX3_readNumber_17 : decode cX3_readNumber 17 = .ok (.aload_n 0, 1) := by decide +kernel
theorem dX3_readNumber_18 : decode cX3_readNumber 18 = .ok (.getfield 9, 3) := by decide +kernel
theorem dX3_readNumber_21 : decode cX3_readNumber 21 = .ok (.getfield 72, 3) := by decide +kernel
theorem dX3_readNumber_24 : decode cX3_readNumber 24 = .ok (.aload_n 0, 1) := by decide +kernel
theorem dX3_readNumber_25 : decode cX3_readNumber 25 = .ok (.getfield 77, 3) := by decide +kernel
theorem dX3_readNumber_28 : decode cX3_readNumber 28 = .ok (.invokestatic 19, 3) := by decide +kernel
theorem dX3_readNumber_31 : decode cX3_readNumber 31 = .ok (.bipush 48, 2) := by decide +kernel
theorem dX3_readNumber_33 : decode cX3_readNumber 33 = .ok (.if_icmp .ne 7, 3) := by decide +kernel
theorem dX3_readNumber_36 : decode cX3_readNumber 36 = .ok (.iconst 1, 1) := by decide +kernel
theorem dX3_readNumber_37 : decode cX3_readNumber 37 = .ok (.goto 4, 3) := by decide +kernel
theorem dX3_readNumber_40 : decode cX3_readNumber 40 = .ok (.iconst 0, 1) := by decide +kernel
theorem dX3_readNumber_41 : decode cX3_readNumber 41 = .ok (.istore_n 2, 1) := by decide +kernel
theorem dX3_readNumber_42 : decode cX3_readNumber 42 = .ok (.aload_n 0, 1) := by decide +kernel
theorem dX3_readNumber_43 : decode cX3_readNumber 43 = .ok (.getfield 43, 3) := by decide +kernel
theorem dX3_readNumber_46 : decode cX3_readNumber 46 = .ok (.iconst 2, 1) := by decide +kernel
theorem dX3_readNumber_47 : decode cX3_readNumber 47 = .ok (.if_icmp .ne 7, 3) := by decide +kernel
theorem dX3_readNumber_50 : decode cX3_readNumber 50 = .ok (.iload_n 2, 1) := by decide +kernel
theorem dX3_readNumber_51 : decode cX3_readNumber 51 = .ok (.ifCond .eq 5, 3) := by decide +kernel
theorem dX3_readNumber_54 : decode cX3_readNumber 54 = .ok (.iconst 0, 1) := by decide +kernel
theorem dX3_readNumber_55 : decode cX3_readNumber 55 = .ok (.ireturn, 1) := by decide +kernel
theorem dX3_readNumber_56 : decode cX3_readNumber 56 = .ok (.iconst 0, 1) := by decide +kernel
theorem dX3_readNumber_57 : decode cX3_readNumber 57 = .ok (.istore_n 3, 1) := by decide +kernel
theorem dX3_readNumber_58 : decode cX3_readNumber 58 = .ok (.aload_n 0, 1) := by decide +kernel
theorem dX3_readNumber_59 : decode cX3_readNumber 59 = .ok (.getfield 77, 3) := by decide +kernel
theorem dX3_readNumber_62 : decode cX3_readNumber 62 = .ok (.istore 4, 2) := by decide +kernel
theorem dX3_readNumber_64 : decode cX3_readNumber 64 = .ok (.iload 4, 2) := by decide +kernel
theorem dX3_readNumber_66 : decode cX3_readNumber 66 = .ok (.aload_n 0, 1) := by decide +kernel
theorem dX3_readNumber_67 : decode cX3_readNumber 67 = .ok (.getfield 37, 3) := by decide +kernel
theorem dX3_readNumber_70 : decode cX3_readNumber 70 = .ok (.if_icmp .ge 36, 3) := by decide +kernel
theorem dX3_readNumber_73 : decode cX3_readNumber 73 = .ok (.iload_n 3, 1) := by decide +kernel
theorem dX3_readNumber_74 : decode cX3_readNumber 74 = .ok (.bipush 10, 2) := by decide +kernel
theorem dX3_readNumber_76 : decode cX3_readNumber 76 = .ok (.imul, 1) := by decide +kernel
theorem dX3_readNumber_77 : decode cX3_readNumber 77 = .ok (.aload_n 0, 1) := by decide +kernel
theorem dX3_readNumber_78 : decode cX3_readNumber 78 = .ok (.getfield 9, 3) := by decide +kernel
theorem dX3_readNumber_81 : decode cX3_readNumber 81 = .ok (.getfield 72, 3) := by decide +kernel
theorem dX3_readNumber_84 : decode cX3_readNumber 84 = .ok (.iload 4, 2) := by decide +kernel
theorem dX3_readNumber_86 : decode cX3_readNumber 86 = .ok (.invokestatic 19, 3) := by decide +kernel
theorem dX3_readNumber_89 : decode cX3_readNumber 89 = .ok (.iadd, 1) := by decide +kernel
theorem dX3_readNumber_90 : decode cX3_readNumber 90 = .ok (.bipush 48, 2) := by decide +kernel
theorem dX3_readNumber_92 : decode cX3_readNumber 92 = .ok (.isub, 1) := by decide +kernel
theorem dX3_readNumber_93 : decode cX3_readNumber 93 = .ok (.sipush 1000, 3) := by decide +kernel
theorem dX3_readNumber_96 : decode cX3_readNumber 96 = .ok (.invokestatic 80, 3) := by decide +kernel
theorem dX3_readNumber_99 : decode cX3_readNumber 99 = .ok (.istore_n 3, 1) := by decide +kernel
theorem dX3_readNumber_100 : decode cX3_readNumber 100 = .ok (.iinc 4 1, 3) := by decide +kernel
theorem dX3_readNumber_103 : decode cX3_readNumber 103 = .ok (.goto (-39), 3) := by decide +kernel
theorem dX3_readNumber_106 : decode cX3_readNumber 106 = .ok (.aload_n 0, 1) := by decide +kernel
theorem dX3_readNumber_107 : decode cX3_readNumber 107 = .ok (.iload_n 1, 1) := by decide +kernel
theorem dX3_readNumber_108 : decode cX3_readNumber 108 = .ok (.iload_n 3, 1) := by decide +kernel
theorem dX3_readNumber_109 : decode cX3_readNumber 109 = .ok (.invokevirtual 62, 3) := by decide +kernel
theorem dX3_readNumber_112 : decode cX3_readNumber 112 = .ok (.iload_n 1, 1) := by decide +kernel
theorem dX3_readNumber_113 : decode cX3_readNumber 113 = .ok (.iload_n 3, 1) := by decide +kernel
theorem dX3_readNumber_114 : decode cX3_readNumber 114 = .ok (.invokestatic 86, 3) := by decide +kernel
theorem dX3_readNumber_117 : decode cX3_readNumber 117 = .ok (.ireturn, 1) := by decide +kernel
set_option maxRecDepth 20000 in
theorem ggX3_isAllowed_X7_isWithin : GoodIn wsX3_isAllowed wsX7_isWithin := goodIn_r _ [3] (by decide +kernel) (by decide +kernel)
set_option maxRecDepth 20000 in
theorem gX3_isAllowed_X7_isWithin_n90 : GoodIn wsX3_isAllowed (wsX7_isWithin) := ggX3_isAllowed_X7_isWithin
theorem dX3_isAllowed_0 : decode cX3_isAllowed 0 = .ok (.iload_n 0, 1) := by decide +kernel
theorem dX3_isAllowed_1 : decode cX3_isAllowed 1 = .ok (.lookupswitch 42 #[(4, 27), (5, 35)], 27) := by decide +kernel
theorem dX3_isAllowed_28 : decode cX3_isAllowed 28 = .ok (.iload_n 1, 1) := by decide +kernel
theorem dX3_isAllowed_29 : decode cX3_isAllowed 29 = .ok (.iconst 0, 1) := by decide +kernel
theorem dX3_isAllowed_30 : decode cX3_isAllowed 30 = .ok (.bipush 8, 2) := by decide +kernel
theorem dX3_isAllowed_32 : decode cX3_isAllowed 32 = .ok (.invokestatic 90, 3) := by decide +kernel
theorem dX3_isAllowed_35 : decode cX3_isAllowed 35 = .ok (.ireturn, 1) := by decide +kernel
theorem dX3_isAllowed_36 : decode cX3_isAllowed 36 = .ok (.iload_n 1, 1) := by decide +kernel
theorem dX3_isAllowed_37 : decode cX3_isAllowed 37 = .ok (.iconst 0, 1) := by decide +kernel
theorem dX3_isAllowed_38 : decode cX3_isAllowed 38 = .ok (.iconst 3, 1) := by decide +kernel
theorem dX3_isAllowed_39 : decode cX3_isAllowed 39 = .ok (.invokestatic 90, 3) := by decide +kernel
theorem dX3_isAllowed_42 : decode cX3_isAllowed 42 = .ok (.ireturn, 1) := by decide +kernel
theorem dX3_isAllowed_43 : decode cX3_isAllowed 43 = .ok (.iload_n 1, 1) := by decide +kernel
theorem dX3_isAllowed_44 : decode cX3_isAllowed 44 = .ok (.bipush 40, 2) := by decide +kernel
theorem dX3_isAllowed_46 : decode cX3_isAllowed 46 = .ok (.sipush 200, 3) := by decide +kernel
theorem dX3_isAllowed_49 : decode cX3_isAllowed 49 = .ok (.invokestatic 90, 3) := by decide +kernel
theorem dX3_isAllowed_52 : decode cX3_isAllowed 52 = .ok (.ireturn, 1) := by decide +kernel
set_option maxRecDepth 20000 in
theorem ggX3_isWord_J0_length_8abf5 : GoodIn wsX3_isWord wsJ0_length_8abf5 := goodIn_r _ [10, 11, 12, 13, 14, 9, 15, 16, 17] (by decide +kernel) (by decide +kernel)
set_option maxRecDepth 20000 in
theorem gX3_isWord_J0_length_8abf5 : GoodIn wsX3_isWord (wsV RX3 94 RJ0 yJ0_length_8abf5 wsJ0_length_8abf5) := goodIn_app (goodIn_of _ (by decide +kernel)) ggX3_isWord_J0_length_8abf5
set_option maxRecDepth 20000 in
theorem ggX3_isWord_X7_at : GoodIn wsX3_isWord wsX7_at := goodIn_r _ [20] (by decide +kernel) (by decide +kernel)
set_option maxRecDepth 20000 in
theorem gX3_isWord_X7_at_n19 : GoodIn wsX3_isWord (wsX7_at) := ggX3_isWord_X7_at
set_option maxRecDepth 20000 in
theorem ggX3_isWord_J0_charAt_5068e : GoodIn wsX3_isWord wsJ0_charAt_5068e := goodIn_r _ [24, 11, 25, 26, 27, 9, 28, 16, 17, 29, 30, 31, 32, 33, 34, 35, 36, 37, 38, 39, 40, 41, 42, 43, 44, 45, 46, 47, 48, 49, 50, 51, 52, 53, 54, 55, 56, 57] (by decide +kernel) (by decide +kernel)
set_option maxRecDepth 20000 in
theorem gX3_isWord_J0_charAt_5068e : GoodIn wsX3_isWord (wsV RX3 100 RJ0 yJ0_charAt_5068e wsJ0_charAt_5068e) := goodIn_app (goodIn_of _ (by decide +kernel)) ggX3_isWord_J0_charAt_5068e
theorem dX3_isWord_0 : decode cX3_isWord 0 = .ok (.aload_n 0, 1) := by decide +kernel
theorem dX3_isWord_1 : decode cX3_isWord 1 = .ok (.getfield 43, 3) := by decide +kernel
theorem dX3_isWord_4 : decode cX3_isWord 4 = .ok (.iconst 1, 1) := by decide +kernel
theorem dX3_isWord_5 : decode cX3_isWord 5 = .ok (.if_icmp .ne 19, 3) := by decide +kernel
theorem dX3_isWord_8 : decode cX3_isWord 8 = .ok (.aload_n 0, 1) := by decide +kernel
theorem dX3_isWord_9 : decode cX3_isWord 9 = .ok (.getfield 37, 3) := by decide +kernel
theorem dX3_isWord_12 : decode cX3_isWord 12 = .ok (.aload_n 0, 1) := by decide +kernel
theorem dX3_isWord_13 : decode cX3_isWord 13 = .ok (.getfield 77, 3) := by decide +kernel
theorem dX3_isWord_16 : decode cX3_isWord 16 = .ok (.isub, 1) := by decide +kernel
theorem dX3_isWord_17 : decode cX3_isWord 17 = .ok (.aload_n 1, 1) := by decide +kernel
theorem dX3_isWord_18 : decode cX3_isWord 18 = .ok (.invokevirtual 94, 3) := by decide +kernel
theorem dX3_isWord_21 : decode cX3_isWord 21 = .ok (.if_icmp .eq 5, 3) := by decide +kernel
theorem dX3_isWord_24 : decode cX3_isWord 24 = .ok (.iconst 0, 1) := by decide +kernel
theorem dX3_isWord_25 : decode cX3_isWord 25 = .ok (.ireturn, 1) := by decide +kernel
theorem dX3_isWord_26 : decode cX3_isWord 26 = .ok (.iconst 0, 1) := by decide +kernel
theorem dX3_isWord_27 : decode cX3_isWord 27 = .ok (.istore_n 2, 1) := by decide +kernel
theorem dX3_isWord_28 : decode cX3_isWord 28 = .ok (.iload_n 2, 1) := by decide +kernel
theorem dX3_isWord_29 : decode cX3_isWord 29 = .ok (.aload_n 1, 1) := by decide +kernel
theorem dX3_isWord_30 : decode cX3_isWord 30 = .ok (.invokevirtual 94, 3) := by decide +kernel
theorem dX3_isWord_33 : decode cX3_isWord 33 = .ok (.if_icmp .ge 35, 3) := by decide +kernel
theorem dX3_isWord_36 : decode cX3_isWord 36 = .ok (.aload_n 0, 1) := by decide +kernel
theorem dX3_isWord_37 : decode cX3_isWord 37 = .ok (.getfield 9, 3) := by decide +kernel
theorem dX3_isWord_40 : decode cX3_isWord 40 = .ok (.getfield 72, 3) := by decide +kernel
theorem dX3_isWord_43 : decode cX3_isWord 43 = .ok (.aload_n 0, 1) := by decide +kernel
theorem dX3_isWord_44 : decode cX3_isWord 44 = .ok (.getfield 77, 3) := by decide +kernel
theorem dX3_isWord_47 : decode cX3_isWord 47 = .ok (.iload_n 2, 1) := by decide +kernel
theorem dX3_isWord_48 : decode cX3_isWord 48 = .ok (.iadd, 1) := by decide +kernel
theorem dX3_isWord_49 : decode cX3_isWord 49 = .ok (.invokestatic 19, 3) := by decide +kernel
theorem dX3_isWord_52 : decode cX3_isWord 52 = .ok (.aload_n 1, 1) := by decide +kernel
theorem dX3_isWord_53 : decode cX3_isWord 53 = .ok (.iload_n 2, 1) := by decide +kernel
theorem dX3_isWord_54 : decode cX3_isWord 54 = .ok (.invokevirtual 100, 3) := by decide +kernel
theorem dX3_isWord_57 : decode cX3_isWord 57 = .ok (.if_icmp .eq 5, 3) := by decide +kernel
theorem dX3_isWord_60 : decode cX3_isWord 60 = .ok (.iconst 0, 1) := by decide +kernel
theorem dX3_isWord_61 : decode cX3_isWord 61 = .ok (.ireturn, 1) := by decide +kernel
theorem dX3_isWord_62 : decode cX3_isWord 62 = .ok (.iinc 2 1, 3) := by decide +kernel
theorem dX3_isWord_65 : decode cX3_isWord 65 = .ok (.goto (-37), 3) := by decide +kernel
theorem dX3_isWord_68 : decode cX3_isWord 68 = .ok (.iconst 1, 1) := by decide +kernel
theorem dX3_isWord_69 : decode cX3_isWord 69 = .ok (.ireturn, 1) := by decide +kernel
set_option maxRecDepth 20000 in
theorem ggX3_nextToken_X7_at : GoodIn wsX3_nextToken wsX7_at := goodIn_r _ [9] (by decide +kernel) (by decide +kernel)
set_option maxRecDepth 20000 in
theorem gX3_nextToken_X7_at_n19 : GoodIn wsX3_nextToken (wsX7_at) := ggX3_nextToken_X7_at
set_option maxRecDepth 20000 in
theorem ggX3_nextToken_X3_kindAt : GoodIn wsX3_nextToken wsX3_kindAt := goodIn_r _ [14, 3, 4, 5, 7, 8, 9, 15, 16, 17, 18, 19, 20, 21, 22, 23, 24, 25, 26] (by decide +kernel) (by decide +kernel)
set_option maxRecDepth 20000 in
theorem gX3_nextToken_X3_kindAt : GoodIn wsX3_nextToken (wsV RX3 106 RX3 yX3_kindAt wsX3_kindAt) := goodIn_app (goodIn_of _ (by decide +kernel)) ggX3_nextToken_X3_kindAt
theorem dX3_nextToken_0 : decode cX3_nextToken 0 = .ok (.aload_n 0, 1) := by decide +kernel
theorem dX3_nextToken_1 : decode cX3_nextToken 1 = .ok (.aload_n 0, 1) := by decide +kernel
theorem dX3_nextToken_2 : decode cX3_nextToken 2 = .ok (.getfield 37, 3) := by decide +kernel
theorem dX3_nextToken_5 : decode cX3_nextToken 5 = .ok (.putfield 77, 3) := by decide +kernel
theorem dX3_nextToken_8 : decode cX3_nextToken 8 = .ok (.aload_n 0, 1) := by decide +kernel
theorem dX3_nextToken_9 : decode cX3_nextToken 9 = .ok (.getfield 77, 3) := by decide +kernel
theorem dX3_nextToken_12 : decode cX3_nextToken 12 = .ok (.aload_n 0, 1) := by decide +kernel
theorem dX3_nextToken_13 : decode cX3_nextToken 13 = .ok (.getfield 9, 3) := by decide +kernel
theorem dX3_nextToken_16 : decode cX3_nextToken 16 = .ok (.getfield 104, 3) := by decide +kernel
theorem dX3_nextToken_19 : decode cX3_nextToken 19 = .ok (.if_icmp .ge 35, 3) := by decide +kernel
theorem dX3_nextToken_22 : decode cX3_nextToken 22 = .ok (.aload_n 0, 1) := by decide +kernel
theorem dX3_nextToken_23 : decode cX3_nextToken 23 = .ok (.getfield 9, 3) := by decide +kernel
theorem dX3_nextToken_26 : decode cX3_nextToken 26 = .ok (.getfield 72, 3) := by decide +kernel
theorem dX3_nextToken_29 : decode cX3_nextToken 29 = .ok (.aload_n 0, 1) := by decide +kernel
theorem dX3_nextToken_30 : decode cX3_nextToken 30 = .ok (.getfield 77, 3) := by decide +kernel
theorem dX3_nextToken_33 : decode cX3_nextToken 33 = .ok (.invokestatic 19, 3) := by decide +kernel
theorem dX3_nextToken_36 : decode cX3_nextToken 36 = .ok (.bipush 32, 2) := by decide +kernel
theorem dX3_nextToken_38 : decode cX3_nextToken 38 = .ok (.if_icmp .ne 16, 3) := by decide +kernel
theorem dX3_nextToken_41 : decode cX3_nextToken 41 = .ok (.aload_n 0, 1) := by decide +kernel
theorem dX3_nextToken_42 : decode cX3_nextToken 42 = .ok (.dup, 1) := by decide +kernel
theorem dX3_nextToken_43 : decode cX3_nextToken 43 = .ok (.getfield 77, 3) := by decide +kernel
theorem dX3_nextToken_46 : decode cX3_nextToken 46 = .ok (.iconst 1, 1) := by decide +kernel
theorem dX3_nextToken_47 : decode cX3_nextToken 47 = .ok (.iadd, 1) := by decide +kernel
theorem dX3_nextToken_48 : decode cX3_nextToken 48 = .ok (.putfield 77, 3) := by decide +kernel
theorem dX3_nextToken_51 : decode cX3_nextToken 51 = .ok (.goto (-43), 3) := by decide +kernel
theorem dX3_nextToken_54 : decode cX3_nextToken 54 = .ok (.aload_n 0, 1) := by decide +kernel
theorem dX3_nextToken_55 : decode cX3_nextToken 55 = .ok (.aload_n 0, 1) := by decide +kernel
theorem dX3_nextToken_56 : decode cX3_nextToken 56 = .ok (.aload_n 0, 1) := by decide +kernel
theorem dX3_nextToken_57 : decode cX3_nextToken 57 = .ok (.getfield 77, 3) := by decide +kernel
theorem dX3_nextToken_60 : decode cX3_nextToken 60 = .ok (.invokevirtual 106, 3) := by decide +kernel
theorem dX3_nextToken_63 : decode cX3_nextToken 63 = .ok (.putfield 43, 3) := by decide +kernel
theorem dX3_nextToken_66 : decode cX3_nextToken 66 = .ok (.aload_n 0, 1) := by decide +kernel
theorem dX3_nextToken_67 : decode cX3_nextToken 67 = .ok (.aload_n 0, 1) := by decide +kernel
theorem dX3_nextToken_68 : decode cX3_nextToken 68 = .ok (.getfield 43, 3) := by decide +kernel
theorem dX3_nextToken_71 : decode cX3_nextToken 71 = .ok (.ifCond .ne 10, 3) := by decide +kernel
theorem dX3_nextToken_74 : decode cX3_nextToken 74 = .ok (.aload_n 0, 1) := by decide +kernel
theorem dX3_nextToken_75 : decode cX3_nextToken 75 = .ok (.getfield 77, 3) := by decide +kernel
theorem dX3_nextToken_78 : decode cX3_nextToken 78 = .ok (.goto 9, 3) := by decide +kernel
theorem dX3_nextToken_81 : decode cX3_nextToken 81 = .ok (.aload_n 0, 1) := by decide +kernel
theorem dX3_nextToken_82 : decode cX3_nextToken 82 = .ok (.getfield 77, 3) := by decide +kernel
theorem dX3_nextToken_85 : decode cX3_nextToken 85 = .ok (.iconst 1, 1) := by decide +kernel
theorem dX3_nextToken_86 : decode cX3_nextToken 86 = .ok (.iadd, 1) := by decide +kernel
theorem dX3_nextToken_87 : decode cX3_nextToken 87 = .ok (.putfield 37, 3) := by decide +kernel
theorem dX3_nextToken_90 : decode cX3_nextToken 90 = .ok (.aload_n 0, 1) := by decide +kernel
theorem dX3_nextToken_91 : decode cX3_nextToken 91 = .ok (.getfield 43, 3) := by decide +kernel
theorem dX3_nextToken_94 : decode cX3_nextToken 94 = .ok (.iconst 1, 1) := by decide +kernel
theorem dX3_nextToken_95 : decode cX3_nextToken 95 = .ok (.if_icmp .eq 11, 3) := by decide +kernel
theorem dX3_nextToken_98 : decode cX3_nextToken 98 = .ok (.aload_n 0, 1) := by decide +kernel
theorem dX3_nextToken_99 : decode cX3_nextToken 99 = .ok (.getfield 43, 3) := by decide +kernel
theorem dX3_nextToken_102 : decode cX3_nextToken 102 = .ok (.iconst 2, 1) := by decide +kernel
theorem dX3_nextToken_103 : decode cX3_nextToken 103 = .ok (.if_icmp .ne 45, 3) := by decide +kernel
theorem dX3_nextToken_106 : decode cX3_nextToken 106 = .ok (.aload_n 0, 1) := by decide +kernel
theorem dX3_nextToken_107 : decode cX3_nextToken 107 = .ok (.getfield 37, 3) := by decide +kernel
theorem dX3_nextToken_110 : decode cX3_nextToken 110 = .ok (.aload_n 0, 1) := by decide +kernel
theorem dX3_nextToken_111 : decode cX3_nextToken 111 = .ok (.getfield 9, 3) := by decide +kernel
theorem dX3_nextToken_114 : decode cX3_nextToken 114 = .ok (.getfield 104, 3) := by decide +kernel
theorem dX3_nextToken_117 : decode cX3_nextToken 117 = .ok (.if_icmp .ge 31, 3) := by decide +kernel
theorem dX3_nextToken_120 : decode cX3_nextToken 120 = .ok (.aload_n 0, 1) := by decide +kernel
theorem dX3_nextToken_121 : decode cX3_nextToken 121 = .ok (.aload_n 0, 1) := by decide +kernel
theorem dX3_nextToken_122 : decode cX3_nextToken 122 = .ok (.getfield 37, 3) := by decide +kernel
theorem dX3_nextToken_125 : decode cX3_nextToken 125 = .ok (.invokevirtual 106, 3) := by decide +kernel
theorem dX3_nextToken_128 : decode cX3_nextToken 128 = .ok (.aload_n 0, 1) := by decide +kernel
theorem dX3_nextToken_129 : decode cX3_nextToken 129 = .ok (.getfield 43, 3) := by decide +kernel
theorem dX3_nextToken_132 : decode cX3_nextToken 132 = .ok (.if_icmp .ne 16, 3) := by decide +kernel
theorem dX3_nextToken_135 : decode cX3_nextToken 135 = .ok (.aload_n 0, 1) := by decide +kernel
theorem dX3_nextToken_136 : decode cX3_nextToken 136 = .ok (.dup, 1) := by decide +kernel
theorem dX3_nextToken_137 : decode cX3_nextToken 137 = .ok (.getfield 37, 3) := by decide +kernel
theorem dX3_nextToken_140 : decode cX3_nextToken 140 = .ok (.iconst 1, 1) := by decide +kernel
theorem dX3_nextToken_141 : decode cX3_nextToken 141 = .ok (.iadd, 1) := by decide +kernel
theorem dX3_nextToken_142 : decode cX3_nextToken 142 = .ok (.putfield 37, 3) := by decide +kernel
theorem dX3_nextToken_145 : decode cX3_nextToken 145 = .ok (.goto (-39), 3) := by decide +kernel
theorem dX3_nextToken_148 : decode cX3_nextToken 148 = .ok (.return_, 1) := by decide +kernel
set_option maxRecDepth 20000 in
theorem ggX3_kindAt_X7_at : GoodIn wsX3_kindAt wsX7_at := goodIn_r _ [6] (by decide +kernel) (by decide +kernel)
set_option maxRecDepth 20000 in
theorem gX3_kindAt_X7_at_n19 : GoodIn wsX3_kindAt (wsX7_at) := ggX3_kindAt_X7_at
set_option maxRecDepth 20000 in
theorem ggX3_kindAt_X7_isWithin : GoodIn wsX3_kindAt wsX7_isWithin := goodIn_r _ [8] (by decide +kernel) (by decide +kernel)
set_option maxRecDepth 20000 in
theorem gX3_kindAt_X7_isWithin_n90 : GoodIn wsX3_kindAt (wsX7_isWithin) := ggX3_kindAt_X7_isWithin
theorem dX3_kindAt_0 : decode cX3_kindAt 0 = .ok (.iload_n 1, 1) := by decide +kernel
theorem dX3_kindAt_1 : decode cX3_kindAt 1 = .ok (.aload_n 0, 1) := by decide +kernel
theorem dX3_kindAt_2 : decode cX3_kindAt 2 = .ok (.getfield 9, 3) := by decide +kernel
theorem dX3_kindAt_5 : decode cX3_kindAt 5 = .ok (.getfield 104, 3) := by decide +kernel
theorem dX3_kindAt_8 : decode cX3_kindAt 8 = .ok (.if_icmp .lt 5, 3) := by decide +kernel
theorem dX3_kindAt_11 : decode cX3_kindAt 11 = .ok (.iconst 0, 1) := by decide +kernel
theorem dX3_kindAt_12 : decode cX3_kindAt 12 = .ok (.ireturn, 1) := by decide +kernel
theorem dX3_kindAt_13 : decode cX3_kindAt 13 = .ok (.aload_n 0, 1) := by decide +kernel
theorem dX3_kindAt_14 : decode cX3_kindAt 14 = .ok (.getfield 9, 3) := by decide +kernel
theorem dX3_kindAt_17 : decode cX3_kindAt 17 = .ok (.getfield 72, 3) := by decide +kernel
theorem dX3_kindAt_20 : decode cX3_kindAt 20 = .ok (.iload_n 1, 1) := by decide +kernel
theorem dX3_kindAt_21 : decode cX3_kindAt 21 = .ok (.invokestatic 19, 3) := by decide +kernel
theorem dX3_kindAt_24 : decode cX3_kindAt 24 = .ok (.istore_n 2, 1) := by decide +kernel
theorem dX3_kindAt_25 : decode cX3_kindAt 25 = .ok (.iload_n 2, 1) := by decide +kernel
theorem dX3_kindAt_26 : decode cX3_kindAt 26 = .ok (.bipush 97, 2) := by decide +kernel
theorem dX3_kindAt_28 : decode cX3_kindAt 28 = .ok (.bipush 122, 2) := by decide +kernel
theorem dX3_kindAt_30 : decode cX3_kindAt 30 = .ok (.invokestatic 90, 3) := by decide +kernel
theorem dX3_kindAt_33 : decode cX3_kindAt 33 = .ok (.ifCond .eq 5, 3) := by decide +kernel
theorem dX3_kindAt_36 : decode cX3_kindAt 36 = .ok (.iconst 1, 1) := by decide +kernel
theorem dX3_kindAt_37 : decode cX3_kindAt 37 = .ok (.ireturn, 1) := by decide +kernel
theorem dX3_kindAt_38 : decode cX3_kindAt 38 = .ok (.iload_n 2, 1) := by decide +kernel
theorem dX3_kindAt_39 : decode cX3_kindAt 39 = .ok (.bipush 48, 2) := by decide +kernel
theorem dX3_kindAt_41 : decode cX3_kindAt 41 = .ok (.bipush 57, 2) := by decide +kernel
theorem dX3_kindAt_43 : decode cX3_kindAt 43 = .ok (.invokestatic 90, 3) := by decide +kernel
theorem dX3_kindAt_46 : decode cX3_kindAt 46 = .ok (.ifCond .eq 7, 3) := by decide +kernel
theorem dX3_kindAt_49 : decode cX3_kindAt 49 = .ok (.iconst 2, 1) := by decide +kernel
theorem dX3_kindAt_50 : decode cX3_kindAt 50 = .ok (.goto 4, 3) := by decide +kernel
theorem dX3_kindAt_53 : decode cX3_kindAt 53 = .ok (.iconst 3, 1) := by decide +kernel
theorem dX3_kindAt_54 : decode cX3_kindAt 54 = .ok (.ireturn, 1) := by decide +kernel
set_option maxRecDepth 20000 in
theorem ggX4_init_X6_init : GoodIn wsX4_init wsX6_init := goodIn_r _ [19, 20, 2, 3, 16, 21, 22, 23, 24, 25, 26, 27, 28, 42, 43, 44, 45, 46, 47, 48, 49, 50] (by decide +kernel) (by decide +kernel)
set_option maxRecDepth 20000 in
theorem gX4_init_X6_init_n11 : GoodIn wsX4_init (wsX6_init) := ggX4_init_X6_init
set_option maxRecDepth 20000 in
theorem ggX4_init_X0_init : GoodIn wsX4_init wsX0_init := goodIn_r _ [30, 31, 2, 3, 16, 32, 33, 60, 61, 62] (by decide +kernel) (by decide +kernel)
set_option maxRecDepth 20000 in
theorem gX4_init_X0_init_n20 : GoodIn wsX4_init (wsX0_init) := ggX4_init_X0_init
set_option maxRecDepth 20000 in
theorem ggX4_init_X1_init : GoodIn wsX4_init wsX1_init := goodIn_r _ [35, 36, 2, 3, 16, 37, 38, 39, 40, 41, 63, 64, 65, 66, 67, 68] (by decide +kernel) (by decide +kernel)
set_option maxRecDepth 20000 in
theorem gX4_init_X1_init_n27 : GoodIn wsX4_init (wsX1_init) := ggX4_init_X1_init
theorem dX4_init_0 : decode cX4_init 0 = .ok (.aload_n 0, 1) := by decide +kernel
theorem dX4_init_1 : decode cX4_init 1 = .ok (.invokespecial 3, 3) := by decide +kernel
theorem dX4_init_4 : decode cX4_init 4 = .ok (.aload_n 0, 1) := by decide +kernel
theorem dX4_init_5 : decode cX4_init 5 = .ok (.new 9, 3) := by decide +kernel
theorem dX4_init_8 : decode cX4_init 8 = .ok (.dup, 1) := by decide +kernel
theorem dX4_init_9 : decode cX4_init 9 = .ok (.invokespecial 11, 3) := by decide +kernel
theorem dX4_init_12 : decode cX4_init 12 = .ok (.putfield 12, 3) := by decide +kernel
theorem dX4_init_15 : decode cX4_init 15 = .ok (.aload_n 0, 1) := by decide +kernel
theorem dX4_init_16 : decode cX4_init 16 = .ok (.new 18, 3) := by decide +kernel
theorem dX4_init_19 : decode cX4_init 19 = .ok (.dup, 1) := by decide +kernel
theorem dX4_init_20 : decode cX4_init 20 = .ok (.invokespecial 20, 3) := by decide +kernel
theorem dX4_init_23 : decode cX4_init 23 = .ok (.putfield 21, 3) := by decide +kernel
theorem dX4_init_26 : decode cX4_init 26 = .ok (.aload_n 0, 1) := by decide +kernel
theorem dX4_init_27 : decode cX4_init 27 = .ok (.new 25, 3) := by decide +kernel
theorem dX4_init_30 : decode cX4_init 30 = .ok (.dup, 1) := by decide +kernel
theorem dX4_init_31 : decode cX4_init 31 = .ok (.invokespecial 27, 3) := by decide +kernel
theorem dX4_init_34 : decode cX4_init 34 = .ok (.putfield 28, 3) := by decide +kernel
theorem dX4_init_37 : decode cX4_init 37 = .ok (.aload_n 0, 1) := by decide +kernel
theorem dX4_init_38 : decode cX4_init 38 = .ok (.iconst 4, 1) := by decide +kernel
theorem dX4_init_39 : decode cX4_init 39 = .ok (.newarray .int, 2) := by decide +kernel
theorem dX4_init_41 : decode cX4_init 41 = .ok (.dup, 1) := by decide +kernel
theorem dX4_init_42 : decode cX4_init 42 = .ok (.iconst 0, 1) := by decide +kernel
theorem dX4_init_43 : decode cX4_init 43 = .ok (.bipush 6, 2) := by decide +kernel
theorem dX4_init_45 : decode cX4_init 45 = .ok (.iastore, 1) := by decide +kernel
theorem dX4_init_46 : decode cX4_init 46 = .ok (.dup, 1) := by decide +kernel
theorem dX4_init_47 : decode cX4_init 47 = .ok (.iconst 1, 1) := by decide +kernel
theorem dX4_init_48 : decode cX4_init 48 = .ok (.bipush 6, 2) := by decide +kernel
theorem dX4_init_50 : decode cX4_init 50 = .ok (.iastore, 1) := by decide +kernel
theorem dX4_init_51 : decode cX4_init 51 = .ok (.dup, 1) := by decide +kernel
theorem dX4_init_52 : decode cX4_init 52 = .ok (.iconst 2, 1) := by decide +kernel
theorem dX4_init_53 : decode cX4_init 53 = .ok (.iconst 4, 1) := by decide +kernel
theorem dX4_init_54 : decode cX4_init 54 = .ok (.iastore, 1) := by decide +kernel
theorem dX4_init_55 : decode cX4_init 55 = .ok (.dup, 1) := by decide +kernel
theorem dX4_init_56 : decode cX4_init 56 = .ok (.iconst 3, 1) := by decide +kernel
theorem dX4_init_57 : decode cX4_init 57 = .ok (.iconst 5, 1) := by decide +kernel
theorem dX4_init_58 : decode cX4_init 58 = .ok (.iastore, 1) := by decide +kernel
theorem dX4_init_59 : decode cX4_init 59 = .ok (.putfield 32, 3) := by decide +kernel
theorem dX4_init_62 : decode cX4_init 62 = .ok (.return_, 1) := by decide +kernel
set_option maxRecDepth 20000 in
theorem ggX4_become_X6_copyFrom : GoodIn wsX4_become wsX6_copyFrom := goodIn_r _ [14, 15, 16, 17, 18, 19, 20, 21, 22, 23, 24, 25, 26, 27, 28, 29, 30, 31, 32, 33, 34, 63, 64, 65, 66, 67, 68, 69, 70, 71] (by decide +kernel) (by decide +kernel)
set_option maxRecDepth 20000 in
theorem gX4_become_X6_copyFrom : GoodIn wsX4_become (wsV RX4 36 RX6 yX6_copyFrom wsX6_copyFrom) := goodIn_app (goodIn_of _ (by decide +kernel)) ggX4_become_X6_copyFrom
set_option maxRecDepth 20000 in
theorem ggX4_become_X0_copyFrom : GoodIn wsX4_become wsX0_copyFrom := goodIn_r _ [39, 40, 41, 42, 24, 25, 26, 27, 28, 29, 30, 31, 32, 33, 34, 72, 73, 74] (by decide +kernel) (by decide +kernel)
set_option maxRecDepth 20000 in
theorem gX4_become_X0_copyFrom : GoodIn wsX4_become (wsV RX4 40 RX0 yX0_copyFrom wsX0_copyFrom) := goodIn_app (goodIn_of _ (by decide +kernel)) ggX4_become_X0_copyFrom
set_option maxRecDepth 20000 in
theorem ggX4_become_X1_copyFrom : GoodIn wsX4_become wsX1_copyFrom := goodIn_r _ [47, 48, 49, 50, 51, 52, 53, 24, 25, 26, 27, 28, 29, 30, 31, 32, 33, 34, 75, 76, 77, 78, 79, 80] (by decide +kernel) (by decide +kernel)
set_option maxRecDepth 20000 in
theorem gX4_become_X1_copyFrom : GoodIn wsX4_become (wsV RX4 43 RX1 yX1_copyFrom wsX1_copyFrom) := goodIn_app (goodIn_of _ (by decide +kernel)) ggX4_become_X1_copyFrom
set_option maxRecDepth 20000 in
theorem ggX4_become_X7_copyRow : GoodIn wsX4_become wsX7_copyRow := goodIn_r _ [26, 27, 28, 29, 30, 31, 32, 33, 34] (by decide +kernel) (by decide +kernel)
set_option maxRecDepth 20000 in
theorem gX4_become_X7_copyRow_n46 : GoodIn wsX4_become (wsX7_copyRow) := ggX4_become_X7_copyRow
theorem dX4_become_0 : decode cX4_become 0 = .ok (.aload_n 0, 1) := by decide +kernel
theorem dX4_become_1 : decode cX4_become 1 = .ok (.getfield 12, 3) := by decide +kernel
theorem dX4_become_4 : decode cX4_become 4 = .ok (.aload_n 1, 1) := by decide +kernel
theorem dX4_become_5 : decode cX4_become 5 = .ok (.getfield 12, 3) := by decide +kernel
theorem dX4_become_8 : decode cX4_become 8 = .ok (.invokevirtual 36, 3) := by decide +kernel
theorem dX4_become_11 : decode cX4_become 11 = .ok (.aload_n 0, 1) := by decide +kernel
theorem dX4_become_12 : decode cX4_become 12 = .ok (.getfield 21, 3) := by decide +kernel
theorem dX4_become_15 : decode cX4_become 15 = .ok (.aload_n 1, 1) := by decide +kernel
theorem dX4_become_16 : decode cX4_become 16 = .ok (.getfield 21, 3) := by decide +kernel
theorem dX4_become_19 : decode cX4_become 19 = .ok (.invokevirtual 40, 3) := by decide +kernel
theorem dX4_become_22 : decode cX4_become 22 = .ok (.aload_n 0, 1) := by decide +kernel
theorem dX4_become_23 : decode cX4_become 23 = .ok (.getfield 28, 3) := by decide +kernel
theorem dX4_become_26 : decode cX4_become 26 = .ok (.aload_n 1, 1) := by decide +kernel
theorem dX4_become_27 : decode cX4_become 27 = .ok (.getfield 28, 3) := by decide +kernel
theorem dX4_become_30 : decode cX4_become 30 = .ok (.invokevirtual 43, 3) := by decide +kernel
theorem dX4_become_33 : decode cX4_become 33 = .ok (.aload_n 1, 1) := by decide +kernel
theorem dX4_become_34 : decode cX4_become 34 = .ok (.getfield 32, 3) := by decide +kernel
theorem dX4_become_37 : decode cX4_become 37 = .ok (.aload_n 0, 1) := by decide +kernel
theorem dX4_become_38 : decode cX4_become 38 = .ok (.getfield 32, 3) := by decide +kernel
theorem dX4_become_41 : decode cX4_become 41 = .ok (.invokestatic 46, 3) := by decide +kernel
theorem dX4_become_44 : decode cX4_become 44 = .ok (.aload_n 0, 1) := by decide +kernel
theorem dX4_become_45 : decode cX4_become 45 = .ok (.aload_n 1, 1) := by decide +kernel
theorem dX4_become_46 : decode cX4_become 46 = .ok (.getfield 50, 3) := by decide +kernel
theorem dX4_become_49 : decode cX4_become 49 = .ok (.putfield 50, 3) := by decide +kernel
theorem dX4_become_52 : decode cX4_become 52 = .ok (.aload_n 0, 1) := by decide +kernel
theorem dX4_become_53 : decode cX4_become 53 = .ok (.aload_n 1, 1) := by decide +kernel
theorem dX4_become_54 : decode cX4_become 54 = .ok (.getfield 54, 3) := by decide +kernel
theorem dX4_become_57 : decode cX4_become 57 = .ok (.putfield 54, 3) := by decide +kernel
theorem dX4_become_60 : decode cX4_become 60 = .ok (.aload_n 0, 1) := by decide +kernel
theorem dX4_become_61 : decode cX4_become 61 = .ok (.aload_n 1, 1) := by decide +kernel
theorem dX4_become_62 : decode cX4_become 62 = .ok (.getfield 57, 3) := by decide +kernel
theorem dX4_become_65 : decode cX4_become 65 = .ok (.putfield 57, 3) := by decide +kernel
theorem dX4_become_68 : decode cX4_become 68 = .ok (.aload_n 0, 1) := by decide +kernel
theorem dX4_become_69 : decode cX4_become 69 = .ok (.aload_n 1, 1) := by decide +kernel
theorem dX4_become_70 : decode cX4_become 70 = .ok (.getfield 60, 3) := by decide +kernel
theorem dX4_become_73 : decode cX4_become 73 = .ok (.putfield 60, 3) := by decide +kernel
theorem dX4_become_76 : decode cX4_become 76 = .ok (.aload_n 0, 1) := by decide +kernel
theorem dX4_become_77 : decode cX4_become 77 = .ok (.aload_n 1, 1) := by decide +kernel
theorem dX4_become_78 : decode cX4_become 78 = .ok (.getfield 63, 3) := by decide +kernel
theorem dX4_become_81 : decode cX4_become 81 = .ok (.putfield 63, 3) := by decide +kernel
theorem dX4_become_84 : decode cX4_become 84 = .ok (.return_, 1) := by decide +kernel
set_option maxRecDepth 20000 in
theorem ggX4_isAway_X1_overlapping : GoodIn wsX4_isAway wsX1_overlapping := goodIn_r _ [7, 8, 9, 10, 11, 12, 13, 14, 15, 16, 6, 17, 18, 28, 29, 30, 31, 32, 33] (by decide +kernel) (by decide +kernel)
set_option maxRecDepth 20000 in
theorem gX4_isAway_X1_overlapping : GoodIn wsX4_isAway (wsV RX4 66 RX1 yX1_overlapping wsX1_overlapping) := goodIn_app (goodIn_of _ (by decide +kernel)) ggX4_isAway_X1_overlapping
theorem dX4_isAway_0 : decode cX4_isAway 0 = .ok (.aload_n 0, 1) := by decide +kernel
theorem dX4_isAway_1 : decode cX4_isAway 1 = .ok (.getfield 28, 3) := by decide +kernel
theorem dX4_isAway_4 : decode cX4_isAway 4 = .ok (.iload_n 1, 1) := by decide +kernel
theorem dX4_isAway_5 : decode cX4_isAway 5 = .ok (.aload_n 0, 1) := by decide +kernel
theorem dX4_isAway_6 : decode cX4_isAway 6 = .ok (.getfield 50, 3) := by decide +kernel
theorem dX4_isAway_9 : decode cX4_isAway 9 = .ok (.iconst 1, 1) := by decide +kernel
theorem dX4_isAway_10 : decode cX4_isAway 10 = .ok (.invokevirtual 66, 3) := by decide +kernel
theorem dX4_isAway_13 : decode cX4_isAway 13 = .ok (.ifCond .lt 7, 3) := by decide +kernel
theorem dX4_isAway_16 : decode cX4_isAway 16 = .ok (.iconst 1, 1) := by decide +kernel
theorem dX4_isAway_17 : decode cX4_isAway 17 = .ok (.goto 4, 3) := by decide +kernel
theorem dX4_isAway_20 : decode cX4_isAway 20 = .ok (.iconst 0, 1) := by decide +kernel
theorem dX4_isAway_21 : decode cX4_isAway 21 = .ok (.ireturn, 1) := by decide +kernel
set_option maxRecDepth 20000 in
theorem ggX4_awayToday_X4_isAway : GoodIn wsX4_awayToday wsX4_isAway := goodIn_r _ [7, 8, 9, 10, 11, 12, 13, 14, 15, 16, 17, 18, 19, 20, 21, 22, 23, 24, 25, 26, 27, 28, 29, 30, 31, 32, 33, 34, 44, 45, 46, 47, 48, 49] (by decide +kernel) (by decide +kernel)
set_option maxRecDepth 20000 in
theorem gX4_awayToday_X4_isAway : GoodIn wsX4_awayToday (wsV RX4 73 RX4 yX4_isAway wsX4_isAway) := goodIn_app (goodIn_of _ (by decide +kernel)) ggX4_awayToday_X4_isAway
theorem dX4_awayToday_0 : decode cX4_awayToday 0 = .ok (.iconst 0, 1) := by decide +kernel
theorem dX4_awayToday_1 : decode cX4_awayToday 1 = .ok (.istore_n 1, 1) := by decide +kernel
theorem dX4_awayToday_2 : decode cX4_awayToday 2 = .ok (.iconst 0, 1) := by decide +kernel
theorem dX4_awayToday_3 : decode cX4_awayToday 3 = .ok (.istore_n 2, 1) := by decide +kernel
theorem dX4_awayToday_4 : decode cX4_awayToday 4 = .ok (.iload_n 2, 1) := by decide +kernel
theorem dX4_awayToday_5 : decode cX4_awayToday 5 = .ok (.aload_n 0, 1) := by decide +kernel
theorem dX4_awayToday_6 : decode cX4_awayToday 6 = .ok (.getfield 12, 3) := by decide +kernel
theorem dX4_awayToday_9 : decode cX4_awayToday 9 = .ok (.getfield 70, 3) := by decide +kernel
theorem dX4_awayToday_12 : decode cX4_awayToday 12 = .ok (.if_icmp .ge 23, 3) := by decide +kernel
theorem dX4_awayToday_15 : decode cX4_awayToday 15 = .ok (.aload_n 0, 1) := by decide +kernel
theorem dX4_awayToday_16 : decode cX4_awayToday 16 = .ok (.iload_n 2, 1) := by decide +kernel
theorem dX4_awayToday_17 : decode cX4_awayToday 17 = .ok (.invokevirtual 73, 3) := by decide +kernel
theorem dX4_awayToday_20 : decode cX4_awayToday 20 = .ok (.ifCond .eq 9, 3) := by decide +kernel
theorem dX4_awayToday_23 : decode cX4_awayToday 23 = .ok (.iload_n 1, 1) := by decide +kernel
theorem dX4_awayToday_24 : decode cX4_awayToday 24 = .ok (.iconst 1, 1) := by decide +kernel
theorem dX4_awayToday_25 : decode cX4_awayToday 25 = .ok (.iload_n 2, 1) := by decide +kernel
theorem dX4_awayToday_26 : decode cX4_awayToday 26 = .ok (.ishl, 1) := by decide +kernel
theorem dX4_awayToday_27 : decode cX4_awayToday 27 = .ok (.ior, 1) := by decide +kernel
theorem dX4_awayToday_28 : decode cX4_awayToday 28 = .ok (.istore_n 1, 1) := by decide +kernel
theorem dX4_awayToday_29 : decode cX4_awayToday 29 = .ok (.iinc 2 1, 3) := by decide +kernel
theorem dX4_awayToday_32 : decode cX4_awayToday 32 = .ok (.goto (-28), 3) := by decide +kernel
theorem dX4_awayToday_35 : decode cX4_awayToday 35 = .ok (.iload_n 1, 1) := by decide +kernel
theorem dX4_awayToday_36 : decode cX4_awayToday 36 = .ok (.ireturn, 1) := by decide +kernel
set_option maxRecDepth 20000 in
theorem ggX4_isTooDirty_X7_at : GoodIn wsX4_isTooDirty wsX7_at := goodIn_r _ [6] (by decide +kernel) (by decide +kernel)
set_option maxRecDepth 20000 in
theorem gX4_isTooDirty_X7_at_n80 : GoodIn wsX4_isTooDirty (wsX7_at) := ggX4_isTooDirty_X7_at
theorem dX4_isTooDirty_0 : decode cX4_isTooDirty 0 = .ok (.aload_n 0, 1) := by decide +kernel
theorem dX4_isTooDirty_1 : decode cX4_isTooDirty 1 = .ok (.getfield 12, 3) := by decide +kernel
theorem dX4_isTooDirty_4 : decode cX4_isTooDirty 4 = .ok (.getfield 77, 3) := by decide +kernel
theorem dX4_isTooDirty_7 : decode cX4_isTooDirty 7 = .ok (.iload_n 1, 1) := by decide +kernel
theorem dX4_isTooDirty_8 : decode cX4_isTooDirty 8 = .ok (.invokestatic 80, 3) := by decide +kernel
theorem dX4_isTooDirty_11 : decode cX4_isTooDirty 11 = .ok (.aload_n 0, 1) := by decide +kernel
theorem dX4_isTooDirty_12 : decode cX4_isTooDirty 12 = .ok (.getfield 32, 3) := by decide +kernel
theorem dX4_isTooDirty_15 : decode cX4_isTooDirty 15 = .ok (.iconst 3, 1) := by decide +kernel
theorem dX4_isTooDirty_16 : decode cX4_isTooDirty 16 = .ok (.invokestatic 80, 3) := by decide +kernel
theorem dX4_isTooDirty_19 : decode cX4_isTooDirty 19 = .ok (.if_icmp .lt 7, 3) := by decide +kernel
theorem dX4_isTooDirty_22 : decode cX4_isTooDirty 22 = .ok (.iconst 1, 1) := by decide +kernel
theorem dX4_isTooDirty_23 : decode cX4_isTooDirty 23 = .ok (.goto 4, 3) := by decide +kernel
theorem dX4_isTooDirty_26 : decode cX4_isTooDirty 26 = .ok (.iconst 0, 1) := by decide +kernel
theorem dX4_isTooDirty_27 : decode cX4_isTooDirty 27 = .ok (.ireturn, 1) := by decide +kernel
set_option maxRecDepth 20000 in
theorem ggX4_lackOf_X6_present : GoodIn wsX4_lackOf wsX6_present := goodIn_r _ [8, 9, 10, 11, 12, 13, 14, 7, 15, 16, 17, 18, 19, 20, 21, 22, 23, 39, 40, 41, 42, 43, 44, 45, 46, 47] (by decide +kernel) (by decide +kernel)
set_option maxRecDepth 20000 in
theorem gX4_lackOf_X6_present : GoodIn wsX4_lackOf (wsV RX4 84 RX6 yX6_present wsX6_present) := goodIn_app (goodIn_of _ (by decide +kernel)) ggX4_lackOf_X6_present
set_option maxRecDepth 20000 in
theorem ggX4_lackOf_X0_measureOf : GoodIn wsX4_lackOf wsX0_measureOf := goodIn_r _ [28, 29, 17, 18, 19, 48, 49, 50] (by decide +kernel) (by decide +kernel)
set_option maxRecDepth 20000 in
theorem gX4_lackOf_X0_measureOf : GoodIn wsX4_lackOf (wsV RX4 88 RX0 yX0_measureOf wsX0_measureOf) := goodIn_app (goodIn_of _ (by decide +kernel)) ggX4_lackOf_X0_measureOf
set_option maxRecDepth 20000 in
theorem ggX4_lackOf_X7_at : GoodIn wsX4_lackOf wsX7_at := goodIn_r _ [19] (by decide +kernel) (by decide +kernel)
set_option maxRecDepth 20000 in
theorem gX4_lackOf_X7_at_n80 : GoodIn wsX4_lackOf (wsX7_at) := ggX4_lackOf_X7_at
theorem dX4_lackOf_0 : decode cX4_lackOf 0 = .ok (.aload_n 0, 1) := by decide +kernel
theorem dX4_lackOf_1 : decode cX4_lackOf 1 = .ok (.getfield 12, 3) := by decide +kernel
theorem dX4_lackOf_4 : decode cX4_lackOf 4 = .ok (.iload_n 1, 1) := by decide +kernel
theorem dX4_lackOf_5 : decode cX4_lackOf 5 = .ok (.iload_n 3, 1) := by decide +kernel
theorem dX4_lackOf_6 : decode cX4_lackOf 6 = .ok (.invokevirtual 84, 3) := by decide +kernel
theorem dX4_lackOf_9 : decode cX4_lackOf 9 = .ok (.istore 4, 2) := by decide +kernel
theorem dX4_lackOf_11 : decode cX4_lackOf 11 = .ok (.aload_n 0, 1) := by decide +kernel
theorem dX4_lackOf_12 : decode cX4_lackOf 12 = .ok (.getfield 21, 3) := by decide +kernel
theorem dX4_lackOf_15 : decode cX4_lackOf 15 = .ok (.iload_n 2, 1) := by decide +kernel
theorem dX4_lackOf_16 : decode cX4_lackOf 16 = .ok (.iload_n 3, 1) := by decide +kernel
theorem dX4_lackOf_17 : decode cX4_lackOf 17 = .ok (.invokevirtual 88, 3) := by decide +kernel
theorem dX4_lackOf_20 : decode cX4_lackOf 20 = .ok (.istore 5, 2) := by decide +kernel
theorem dX4_lackOf_22 : decode cX4_lackOf 22 = .ok (.iload 5, 2) := by decide +kernel
theorem dX4_lackOf_24 : decode cX4_lackOf 24 = .ok (.aload_n 0, 1) := by decide +kernel
theorem dX4_lackOf_25 : decode cX4_lackOf 25 = .ok (.getfield 32, 3) := by decide +kernel
theorem dX4_lackOf_28 : decode cX4_lackOf 28 = .ok (.iload_n 3, 1) := by decide +kernel
theorem dX4_lackOf_29 : decode cX4_lackOf 29 = .ok (.invokestatic 80, 3) := by decide +kernel
theorem dX4_lackOf_32 : decode cX4_lackOf 32 = .ok (.iadd, 1) := by decide +kernel
theorem dX4_lackOf_33 : decode cX4_lackOf 33 = .ok (.istore 6, 2) := by decide +kernel
theorem dX4_lackOf_35 : decode cX4_lackOf 35 = .ok (.iload 4, 2) := by decide +kernel
theorem dX4_lackOf_37 : decode cX4_lackOf 37 = .ok (.iload 5, 2) := by decide +kernel
theorem dX4_lackOf_39 : decode cX4_lackOf 39 = .ok (.if_icmp .ge 9, 3) := by decide +kernel
theorem dX4_lackOf_42 : decode cX4_lackOf 42 = .ok (.iload 5, 2) := by decide +kernel
theorem dX4_lackOf_44 : decode cX4_lackOf 44 = .ok (.iload 4, 2) := by decide +kernel
theorem dX4_lackOf_46 : decode cX4_lackOf 46 = .ok (.isub, 1) := by decide +kernel
theorem dX4_lackOf_47 : decode cX4_lackOf 47 = .ok (.ireturn, 1) := by decide +kernel
theorem dX4_lackOf_48 : decode cX4_lackOf 48 = .ok (.iload 4, 2) := by decide +kernel
theorem dX4_lackOf_50 : decode cX4_lackOf 50 = .ok (.iload 6, 2) := by decide +kernel
theorem dX4_lackOf_52 : decode cX4_lackOf 52 = .ok (.if_icmp .le 11, 3) := by decide +kernel
theorem dX4_lackOf_55 : decode cX4_lackOf 55 = .ok (.iload 6, 2) := by decide +kernel
theorem dX4_lackOf_57 : decode cX4_lackOf 57 = .ok (.iload 4, 2) := by decide +kernel
theorem dX4_lackOf_59 : decode cX4_lackOf 59 = .ok (.isub, 1) := by decide +kernel
theorem dX4_lackOf_60 : decode cX4_lackOf 60 = .ok (.goto 4, 3) := by decide +kernel
theorem dX4_lackOf_63 : decode cX4_lackOf 63 = .ok (.iconst 0, 1) := by decide +kernel
theorem dX4_lackOf_64 : decode cX4_lackOf 64 = .ok (.ireturn, 1) := by decide +kernel
set_option maxRecDepth 20000 in
theorem ggX4_misfitOf_X4_lackOf : GoodIn wsX4_misfitOf wsX4_lackOf := goodIn_r _ [9, 10, 11, 12, 13, 14, 15, 16, 17, 18, 19, 20, 21, 22, 23, 24, 25, 26, 27, 28, 29, 30, 31, 32, 33, 34, 35, 36, 37, 38, 39, 40, 41, 42, 43, 44, 45, 46, 47, 48, 49, 50, 51, 52, 53, 54, 55, 56, 57, 58, 59] (by decide +kernel) (by decide +kernel)
set_option maxRecDepth 20000 in
theorem gX4_misfitOf_X4_lackOf : GoodIn wsX4_misfitOf (wsV RX4 91 RX4 yX4_lackOf wsX4_lackOf) := goodIn_app (goodIn_of _ (by decide +kernel)) ggX4_misfitOf_X4_lackOf
theorem dX4_misfitOf_0 : decode cX4_misfitOf 0 = .ok (.iconst 0, 1) := by decide +kernel
theorem dX4_misfitOf_1 : decode cX4_misfitOf 1 = .ok (.istore_n 3, 1) := by decide +kernel
theorem dX4_misfitOf_2 : decode cX4_misfitOf 2 = .ok (.iconst 0, 1) := by decide +kernel
theorem dX4_misfitOf_3 : decode cX4_misfitOf 3 = .ok (.istore 4, 2) := by decide +kernel
theorem dX4_misfitOf_5 : decode cX4_misfitOf 5 = .ok (.iload 4, 2) := by decide +kernel
theorem dX4_misfitOf_7 : decode cX4_misfitOf 7 = .ok (.iconst 3, 1) := by decide +kernel
theorem dX4_misfitOf_8 : decode cX4_misfitOf 8 = .ok (.if_icmp .ge 23, 3) := by decide +kernel
theorem dX4_misfitOf_11 : decode cX4_misfitOf 11 = .ok (.iload_n 3, 1) := by decide +kernel
theorem dX4_misfitOf_12 : decode cX4_misfitOf 12 = .ok (.aload_n 0, 1) := by decide +kernel
theorem dX4_misfitOf_13 : decode cX4_misfitOf 13 = .ok (.iload_n 1, 1) := by decide +kernel
theorem dX4_misfitOf_14 : decode cX4_misfitOf 14 = .ok (.iload_n 2, 1) := by decide +kernel
theorem dX4_misfitOf_15 : decode cX4_misfitOf 15 = .ok (.iload 4, 2) := by decide +kernel
theorem dX4_misfitOf_17 : decode cX4_misfitOf 17 = .ok (.invokevirtual 91, 3) := by decide +kernel
theorem dX4_misfitOf_20 : decode cX4_misfitOf 20 = .ok (.invokestatic 94, 3) := by decide +kernel
theorem dX4_misfitOf_23 : decode cX4_misfitOf 23 = .ok (.iadd, 1) := by decide +kernel
theorem dX4_misfitOf_24 : decode cX4_misfitOf 24 = .ok (.istore_n 3, 1) := by decide +kernel
theorem dX4_misfitOf_25 : decode cX4_misfitOf 25 = .ok (.iinc 4 1, 3) := by decide +kernel
theorem dX4_misfitOf_28 : decode cX4_misfitOf 28 = .ok (.goto (-23), 3) := by decide +kernel
theorem dX4_misfitOf_31 : decode cX4_misfitOf 31 = .ok (.iload_n 3, 1) := by decide +kernel
theorem dX4_misfitOf_32 : decode cX4_misfitOf 32 = .ok (.ireturn, 1) := by decide +kernel
set_option maxRecDepth 20000 in
theorem ggX4_leastChange_X6_roomForAlterations : GoodIn wsX4_leastChange wsX6_roomForAlterations := goodIn_r _ [10, 11, 12, 13, 14, 58, 59, 60, 61, 62, 63, 64, 65, 66] (by decide +kernel) (by decide +kernel)
set_option maxRecDepth 20000 in
theorem gX4_leastChange_X6_roomForAlterations : GoodIn wsX4_leastChange (wsV RX4 100 RX6 yX6_roomForAlterations wsX6_roomForAlterations) := goodIn_app (goodIn_of _ (by decide +kernel)) ggX4_leastChange_X6_roomForAlterations
set_option maxRecDepth 20000 in
theorem ggX4_leastChange_X4_lackOf : GoodIn wsX4_leastChange wsX4_lackOf := goodIn_r _ [19, 1, 20, 21, 22, 23, 24, 9, 25, 11, 26, 27, 28, 29, 30, 31, 32, 12, 13, 14, 33, 34, 35, 36, 37, 38, 39, 40, 41, 42, 49, 50, 51, 52, 53, 54, 55, 56, 57, 58, 59, 60, 61, 62, 63, 64, 65, 66, 67, 68, 69] (by decide +kernel) (by decide +kernel)
set_option maxRecDepth 20000 in
theorem gX4_leastChange_X4_lackOf : GoodIn wsX4_leastChange (wsV RX4 91 RX4 yX4_lackOf wsX4_lackOf) := goodIn_app (goodIn_of _ (by decide +kernel)) ggX4_leastChange_X4_lackOf
set_option maxRecDepth 20000 in
theorem ggX4_leastChange_X6_allows : GoodIn wsX4_leastChange wsX6_allows := goodIn_r _ [46, 47, 28, 29, 30, 9, 31, 32, 12, 13, 14, 48, 23, 24, 25, 11, 26, 27, 33, 34, 35, 36, 58, 59, 60, 61, 62, 63, 64, 65, 66] (by decide +kernel) (by decide +kernel)
set_option maxRecDepth 20000 in
theorem gX4_leastChange_X6_allows : GoodIn wsX4_leastChange (wsV RX4 103 RX6 yX6_allows wsX6_allows) := goodIn_app (goodIn_of _ (by decide +kernel)) ggX4_leastChange_X6_allows
theorem dX4_leastChange_0 : decode cX4_leastChange 0 = .ok (.iconst 0, 1) := by decide +kernel
theorem dX4_leastChange_1 : decode cX4_leastChange 1 = .ok (.istore_n 3, 1) := by decide +kernel
theorem dX4_leastChange_2 : decode cX4_leastChange 2 = .ok (.aload_n 0, 1) := by decide +kernel
theorem dX4_leastChange_3 : decode cX4_leastChange 3 = .ok (.getfield 12, 3) := by decide +kernel
theorem dX4_leastChange_6 : decode cX4_leastChange 6 = .ok (.iload_n 1, 1) := by decide +kernel
theorem dX4_leastChange_7 : decode cX4_leastChange 7 = .ok (.invokevirtual 100, 3) := by decide +kernel
theorem dX4_leastChange_10 : decode cX4_leastChange 10 = .ok (.istore 4, 2) := by decide +kernel
theorem dX4_leastChange_12 : decode cX4_leastChange 12 = .ok (.iconst 0, 1) := by decide +kernel
theorem dX4_leastChange_13 : decode cX4_leastChange 13 = .ok (.istore 5, 2) := by decide +kernel
theorem dX4_leastChange_15 : decode cX4_leastChange 15 = .ok (.iload 5, 2) := by decide +kernel
theorem dX4_leastChange_17 : decode cX4_leastChange 17 = .ok (.iconst 3, 1) := by decide +kernel
theorem dX4_leastChange_18 : decode cX4_leastChange 18 = .ok (.if_icmp .ge 72, 3) := by decide +kernel
theorem dX4_leastChange_21 : decode cX4_leastChange 21 = .ok (.aload_n 0, 1) := by decide +kernel
theorem dX4_leastChange_22 : decode cX4_leastChange 22 = .ok (.iload_n 1, 1) := by decide +kernel
theorem dX4_leastChange_23 : decode cX4_leastChange 23 = .ok (.iload_n 2, 1) := by decide +kernel
theorem dX4_leastChange_24 : decode cX4_leastChange 24 = .ok (.iload 5, 2) := by decide +kernel
theorem dX4_leastChange_26 : decode cX4_leastChange 26 = .ok (.invokevirtual 91, 3) := by decide +kernel
theorem dX4_leastChange_29 : decode cX4_leastChange 29 = .ok (.istore 6, 2) := by decide +kernel
theorem dX4_leastChange_31 : decode cX4_leastChange 31 = .ok (.iload 6, 2) := by decide +kernel
theorem dX4_leastChange_33 : decode cX4_leastChange 33 = .ok (.ifCond .ne 6, 3) := by decide +kernel
theorem dX4_leastChange_36 : decode cX4_leastChange 36 = .ok (.goto 48, 3) := by decide +kernel
theorem dX4_leastChange_39 : decode cX4_leastChange 39 = .ok (.iload 4, 2) := by decide +kernel
theorem dX4_leastChange_41 : decode cX4_leastChange 41 = .ok (.ifCond .le 28, 3) := by decide +kernel
theorem dX4_leastChange_44 : decode cX4_leastChange 44 = .ok (.iload 6, 2) := by decide +kernel
theorem dX4_leastChange_46 : decode cX4_leastChange 46 = .ok (.invokestatic 94, 3) := by decide +kernel
theorem dX4_leastChange_49 : decode cX4_leastChange 49 = .ok (.bipush 10, 2) := by decide +kernel
theorem dX4_leastChange_51 : decode cX4_leastChange 51 = .ok (.if_icmp .gt 18, 3) := by decide +kernel
theorem dX4_leastChange_54 : decode cX4_leastChange 54 = .ok (.aload_n 0, 1) := by decide +kernel
theorem dX4_leastChange_55 : decode cX4_leastChange 55 = .ok (.getfield 12, 3) := by decide +kernel
theorem dX4_leastChange_58 : decode cX4_leastChange 58 = .ok (.iload_n 1, 1) := by decide +kernel
theorem dX4_leastChange_59 : decode cX4_leastChange 59 = .ok (.iload 5, 2) := by decide +kernel
theorem dX4_leastChange_61 : decode cX4_leastChange 61 = .ok (.iload 6, 2) := by decide +kernel
theorem dX4_leastChange_63 : decode cX4_leastChange 63 = .ok (.invokevirtual 103, 3) := by decide +kernel
theorem dX4_leastChange_66 : decode cX4_leastChange 66 = .ok (.ifCond .ne 7, 3) := by decide +kernel
theorem dX4_leastChange_69 : decode cX4_leastChange 69 = .ok (.sipush (-2009), 3) := by decide +kernel
theorem dX4_leastChange_72 : decode cX4_leastChange 72 = .ok (.ireturn, 1) := by decide +kernel
theorem dX4_leastChange_73 : decode cX4_leastChange 73 = .ok (.iinc 4 (-1), 3) := by decide +kernel
theorem dX4_leastChange_76 : decode cX4_leastChange 76 = .ok (.iload_n 3, 1) := by decide +kernel
theorem dX4_leastChange_77 : decode cX4_leastChange 77 = .ok (.iload 6, 2) := by decide +kernel
theorem dX4_leastChange_79 : decode cX4_leastChange 79 = .ok (.invokestatic 94, 3) := by decide +kernel
theorem dX4_leastChange_82 : decode cX4_leastChange 82 = .ok (.iadd, 1) := by decide +kernel
theorem dX4_leastChange_83 : decode cX4_leastChange 83 = .ok (.istore_n 3, 1) := by decide +kernel
theorem dX4_leastChange_84 : decode cX4_leastChange 84 = .ok (.iinc 5 1, 3) := by decide +kernel
theorem dX4_leastChange_87 : decode cX4_leastChange 87 = .ok (.goto (-72), 3) := by decide +kernel
theorem dX4_leastChange_90 : decode cX4_leastChange 90 = .ok (.iload_n 3, 1) := by decide +kernel
theorem dX4_leastChange_91 : decode cX4_leastChange 91 = .ok (.ireturn, 1) := by decide +kernel
set_option maxRecDepth 20000 in
theorem ggX4_bestCostume_X4_isFreeFor : GoodIn wsX4_bestCostume wsX4_isFreeFor := goodIn_r _ [7, 8, 9, 10, 11, 12, 13, 14, 15, 16, 17, 18, 6, 19, 20, 21, 22, 23, 24, 25, 26, 27, 28, 29, 30, 31, 32, 33, 34, 35, 36, 37, 38, 39, 40, 41, 1, 42, 43, 44, 45, 46, 47, 48, 49, 50, 51, 52, 53, 54, 55, 56, 57, 58, 102, 103, 104, 105, 106, 107, 108, 109, 110, 120, 121, 122, 123, 124, 125, 111, 112, 113, 114, 115, 116, 117, 118, 119, 126, 127, 128] (by decide +kernel) (by decide +kernel)
set_option maxRecDepth 20000 in
theorem gX4_bestCostume_X4_isFreeFor : GoodIn wsX4_bestCostume (wsV RX4 107 RX4 yX4_isFreeFor wsX4_isFreeFor) := goodIn_app (goodIn_of _ (by decide +kernel)) ggX4_bestCostume_X4_isFreeFor
set_option maxRecDepth 20000 in
theorem ggX4_bestCostume_X4_leastChange : GoodIn wsX4_bestCostume wsX4_leastChange := goodIn_r _ [62, 1, 63, 64, 10, 65, 66, 67, 68, 69, 70, 71, 30, 31, 32, 72, 73, 74, 6, 75, 15, 43, 76, 77, 78, 79, 80, 81, 82, 83, 84, 85, 86, 87, 88, 89, 90, 91, 92, 93, 47, 94, 95, 96, 97, 98, 99, 100, 101, 102, 103, 104, 105, 106, 107, 108, 109, 110, 111, 112, 113, 114, 115, 116, 117, 118, 119, 126, 127, 128] (by decide +kernel) (by decide +kernel)
set_option maxRecDepth 20000 in
theorem gX4_bestCostume_X4_leastChange : GoodIn wsX4_bestCostume (wsV RX4 110 RX4 yX4_leastChange wsX4_leastChange) := goodIn_app (goodIn_of _ (by decide +kernel)) ggX4_bestCostume_X4_leastChange
theorem dX4_bestCostume_0 : decode cX4_bestCostume 0 = .ok (.sipush (-2009), 3) := by decide +kernel
theorem dX4_bestCostume_3 : decode cX4_bestCostume 3 = .ok (.istore_n 3, 1) := by decide +kernel
theorem dX4_bestCostume_4 : decode cX4_bestCostume 4 = .ok (.iconst 0, 1) := by decide +kernel
theorem dX4_bestCostume_5 : decode cX4_bestCostume 5 = .ok (.istore 4, 2) := by decide +kernel
theorem dX4_bestCostume_7 : decode cX4_bestCostume 7 = .ok (.iconst 0, 1) := by decide +kernel
theorem dX4_bestCostume_8 : decode cX4_bestCostume 8 = .ok (.istore 5, 2) := by decide +kernel
theorem dX4_bestCostume_10 : decode cX4_bestCostume 10 = .ok (.iload 5, 2) := by decide +kernel
theorem dX4_bestCostume_12 : decode cX4_bestCostume 12 = .ok (.aload_n 0, 1) := by decide +kernel
theorem dX4_bestCostume_13 : decode cX4_bestCostume 13 = .ok (.getfield 12, 3) := by decide +kernel
theorem dX4_bestCostume_16 : decode cX4_bestCostume 16 = .ok (.getfield 70, 3) := by decide +kernel
theorem dX4_bestCostume_19 : decode cX4_bestCostume 19 = .ok (.if_icmp .ge 61, 3) := by decide +kernel
theorem dX4_bestCostume_22 : decode cX4_bestCostume 22 = .ok (.aload_n 0, 1) := by decide +kernel
theorem dX4_bestCostume_23 : decode cX4_bestCostume 23 = .ok (.iload_n 1, 1) := by decide +kernel
theorem dX4_bestCostume_24 : decode cX4_bestCostume 24 = .ok (.iload_n 2, 1) := by decide +kernel
theorem dX4_bestCostume_25 : decode cX4_bestCostume 25 = .ok (.iload 5, 2) := by decide +kernel
theorem dX4_bestCostume_27 : decode cX4_bestCostume 27 = .ok (.invokevirtual 107, 3) := by decide +kernel
theorem dX4_bestCostume_30 : decode cX4_bestCostume 30 = .ok (.ifCond .ne 6, 3) := by decide +kernel
theorem dX4_bestCostume_33 : decode cX4_bestCostume 33 = .ok (.goto 41, 3) := by decide +kernel
theorem dX4_bestCostume_36 : decode cX4_bestCostume 36 = .ok (.aload_n 0, 1) := by decide +kernel
theorem dX4_bestCostume_37 : decode cX4_bestCostume 37 = .ok (.iload 5, 2) := by decide +kernel
theorem dX4_bestCostume_39 : decode cX4_bestCostume 39 = .ok (.iload_n 2, 1) := by decide +kernel
theorem dX4_bestCostume_40 : decode cX4_bestCostume 40 = .ok (.invokevirtual 110, 3) := by decide +kernel
theorem dX4_bestCostume_43 : decode cX4_bestCostume 43 = .ok (.istore 6, 2) := by decide +kernel
theorem dX4_bestCostume_45 : decode cX4_bestCostume 45 = .ok (.iload 6, 2) := by decide +kernel
theorem dX4_bestCostume_47 : decode cX4_bestCostume 47 = .ok (.sipush (-2009), 3) := by decide +kernel
theorem dX4_bestCostume_50 : decode cX4_bestCostume 50 = .ok (.if_icmp .eq 24, 3) := by decide +kernel
theorem dX4_bestCostume_53 : decode cX4_bestCostume 53 = .ok (.iload_n 3, 1) := by decide +kernel
theorem dX4_bestCostume_54 : decode cX4_bestCostume 54 = .ok (.sipush (-2009), 3) := by decide +kernel
theorem dX4_bestCostume_57 : decode cX4_bestCostume 57 = .ok (.if_icmp .eq 10, 3) := by decide +kernel
theorem dX4_bestCostume_60 : decode cX4_bestCostume 60 = .ok (.iload 6, 2) := by decide +kernel
theorem dX4_bestCostume_62 : decode cX4_bestCostume 62 = .ok (.iload 4, 2) := by decide +kernel
theorem dX4_bestCostume_64 : decode cX4_bestCostume 64 = .ok (.if_icmp .ge 10, 3) := by decide +kernel
theorem dX4_bestCostume_67 : decode cX4_bestCostume 67 = .ok (.iload 5, 2) := by decide +kernel
theorem dX4_bestCostume_69 : decode cX4_bestCostume 69 = .ok (.istore_n 3, 1) := by decide +kernel
theorem dX4_bestCostume_70 : decode cX4_bestCostume 70 = .ok (.iload 6, 2) := by decide +kernel
theorem dX4_bestCostume_72 : decode cX4_bestCostume 72 = .ok (.istore 4, 2) := by decide +kernel
theorem dX4_bestCostume_74 : decode cX4_bestCostume 74 = .ok (.iinc 5 1, 3) := by decide +kernel
theorem dX4_bestCostume_77 : decode cX4_bestCostume 77 = .ok (.goto (-67), 3) := by decide +kernel
theorem dX4_bestCostume_80 : decode cX4_bestCostume 80 = .ok (.iload_n 3, 1) := by decide +kernel
theorem dX4_bestCostume_81 : decode cX4_bestCostume 81 = .ok (.ireturn, 1) := by decide +kernel
set_option maxRecDepth 20000 in
theorem ggX4_isFreeFor_X4_isAway : GoodIn wsX4_isFreeFor wsX4_isAway := goodIn_r _ [13, 14, 15, 16, 17, 18, 19, 20, 21, 22, 23, 24, 25, 26, 27, 28, 29, 30, 31, 54, 55, 56, 57, 58, 59, 60, 61, 62, 63, 64, 65, 66, 67, 68] (by decide +kernel) (by decide +kernel)
set_option maxRecDepth 20000 in
theorem gX4_isFreeFor_X4_isAway : GoodIn wsX4_isFreeFor (wsV RX4 73 RX4 yX4_isAway wsX4_isAway) := goodIn_app (goodIn_of _ (by decide +kernel)) ggX4_isFreeFor_X4_isAway
set_option maxRecDepth 20000 in
theorem ggX4_isFreeFor_X4_isTooDirty : GoodIn wsX4_isFreeFor wsX4_isTooDirty := goodIn_r _ [35, 36, 37, 38, 24, 25, 26, 54, 55, 56, 57, 58, 59, 60, 61, 62, 69, 70, 71, 72, 73, 74, 75, 76, 77] (by decide +kernel) (by decide +kernel)
set_option maxRecDepth 20000 in
theorem gX4_isFreeFor_X4_isTooDirty : GoodIn wsX4_isFreeFor (wsV RX4 113 RX4 yX4_isTooDirty wsX4_isTooDirty) := goodIn_app (goodIn_of _ (by decide +kernel)) ggX4_isFreeFor_X4_isTooDirty
set_option maxRecDepth 20000 in
theorem ggX4_isFreeFor_X0_isWornByAnother : GoodIn wsX4_isFreeFor wsX0_isWornByAnother := goodIn_r _ [43, 44, 45, 46, 42, 47, 48, 24, 25, 26, 49, 50, 51, 52, 53, 78, 79, 80] (by decide +kernel) (by decide +kernel)
set_option maxRecDepth 20000 in
theorem gX4_isFreeFor_X0_isWornByAnother : GoodIn wsX4_isFreeFor (wsV RX4 122 RX0 yX0_isWornByAnother wsX0_isWornByAnother) := goodIn_app (goodIn_of _ (by decide +kernel)) ggX4_isFreeFor_X0_isWornByAnother
theorem dX4_isFreeFor_0 : decode cX4_isFreeFor 0 = .ok (.aload_n 0, 1) := by decide +kernel
theorem dX4_isFreeFor_1 : decode cX4_isFreeFor 1 = .ok (.iload_n 3, 1) := by decide +kernel
theorem dX4_isFreeFor_2 : decode cX4_isFreeFor 2 = .ok (.invokevirtual 73, 3) := by decide +kernel
theorem dX4_isFreeFor_5 : decode cX4_isFreeFor 5 = .ok (.ifCond .ne 11, 3) := by decide +kernel
theorem dX4_isFreeFor_8 : decode cX4_isFreeFor 8 = .ok (.aload_n 0, 1) := by decide +kernel
theorem dX4_isFreeFor_9 : decode cX4_isFreeFor 9 = .ok (.iload_n 3, 1) := by decide +kernel
theorem dX4_isFreeFor_10 : decode cX4_isFreeFor 10 = .ok (.invokevirtual 113, 3) := by decide +kernel
theorem dX4_isFreeFor_13 : decode cX4_isFreeFor 13 = .ok (.ifCond .eq 5, 3) := by decide +kernel
theorem dX4_isFreeFor_16 : decode cX4_isFreeFor 16 = .ok (.iconst 0, 1) := by decide +kernel
theorem dX4_isFreeFor_17 : decode cX4_isFreeFor 17 = .ok (.ireturn, 1) := by decide +kernel
theorem dX4_isFreeFor_18 : decode cX4_isFreeFor 18 = .ok (.iload_n 1, 1) := by decide +kernel
theorem dX4_isFreeFor_19 : decode cX4_isFreeFor 19 = .ok (.iconst 1, 1) := by decide +kernel
theorem dX4_isFreeFor_20 : decode cX4_isFreeFor 20 = .ok (.iadd, 1) := by decide +kernel
theorem dX4_isFreeFor_21 : decode cX4_isFreeFor 21 = .ok (.bipush 11, 2) := by decide +kernel
theorem dX4_isFreeFor_23 : decode cX4_isFreeFor 23 = .ok (.invokestatic 116, 3) := by decide +kernel
theorem dX4_isFreeFor_26 : decode cX4_isFreeFor 26 = .ok (.istore 4, 2) := by decide +kernel
theorem dX4_isFreeFor_28 : decode cX4_isFreeFor 28 = .ok (.iload_n 1, 1) := by decide +kernel
theorem dX4_isFreeFor_29 : decode cX4_isFreeFor 29 = .ok (.iconst 1, 1) := by decide +kernel
theorem dX4_isFreeFor_30 : decode cX4_isFreeFor 30 = .ok (.isub, 1) := by decide +kernel
theorem dX4_isFreeFor_31 : decode cX4_isFreeFor 31 = .ok (.iconst 0, 1) := by decide +kernel
theorem dX4_isFreeFor_32 : decode cX4_isFreeFor 32 = .ok (.invokestatic 119, 3) := by decide +kernel
theorem dX4_isFreeFor_35 : decode cX4_isFreeFor 35 = .ok (.istore 5, 2) := by decide +kernel
theorem dX4_isFreeFor_37 : decode cX4_isFreeFor 37 = .ok (.iload 5, 2) := by decide +kernel
theorem dX4_isFreeFor_39 : decode cX4_isFreeFor 39 = .ok (.iload 4, 2) := by decide +kernel
theorem dX4_isFreeFor_41 : decode cX4_isFreeFor 41 = .ok (.if_icmp .gt 25, 3) := by decide +kernel
theorem dX4_isFreeFor_44 : decode cX4_isFreeFor 44 = .ok (.aload_n 0, 1) := by decide +kernel
theorem dX4_isFreeFor_45 : decode cX4_isFreeFor 45 = .ok (.getfield 21, 3) := by decide +kernel
theorem dX4_isFreeFor_48 : decode cX4_isFreeFor 48 = .ok (.iload 5, 2) := by decide +kernel
theorem dX4_isFreeFor_50 : decode cX4_isFreeFor 50 = .ok (.iload_n 2, 1) := by decide +kernel
theorem dX4_isFreeFor_51 : decode cX4_isFreeFor 51 = .ok (.iload_n 3, 1) := by decide +kernel
theorem dX4_isFreeFor_52 : decode cX4_isFreeFor 52 = .ok (.invokevirtual 122, 3) := by decide +kernel
theorem dX4_isFreeFor_55 : decode cX4_isFreeFor 55 = .ok (.ifCond .eq 5, 3) := by decide +kernel
theorem dX4_isFreeFor_58 : decode cX4_isFreeFor 58 = .ok (.iconst 0, 1) := by decide +kernel
theorem dX4_isFreeFor_59 : decode cX4_isFreeFor 59 = .ok (.ireturn, 1) := by decide +kernel
theorem dX4_isFreeFor_60 : decode cX4_isFreeFor 60 = .ok (.iinc 5 1, 3) := by decide +kernel
theorem dX4_isFreeFor_63 : decode cX4_isFreeFor 63 = .ok (.goto (-26), 3) := by decide +kernel
theorem dX4_isFreeFor_66 : decode cX4_isFreeFor 66 = .ok (.iconst 1, 1) := by decide +kernel
theorem dX4_isFreeFor_67 : decode cX4_isFreeFor 67 = .ok (.ireturn, 1) := by decide +kernel
set_option maxRecDepth 20000 in
theorem ggX4_problemsOf_X4_wornTwice : GoodIn wsX4_problemsOf wsX4_wornTwice := goodIn_r _ [5, 6, 7, 8, 9, 10, 11, 12, 13, 14, 15, 16, 17, 18, 19, 20, 21, 22, 97, 98, 99, 100, 101, 102, 103, 104, 105, 106, 107, 108, 109, 110, 111, 112, 113, 114, 115, 116, 117] (by decide +kernel) (by decide +kernel)
set_option maxRecDepth 20000 in
theorem gX4_problemsOf_X4_wornTwice : GoodIn wsX4_problemsOf (wsV RX4 125 RX4 yX4_wornTwice wsX4_wornTwice) := goodIn_app (goodIn_of _ (by decide +kernel)) ggX4_problemsOf_X4_wornTwice
set_option maxRecDepth 20000 in
theorem ggX4_problemsOf_X4_handedOver : GoodIn wsX4_problemsOf wsX4_handedOver := goodIn_r _ [26, 6, 7, 8, 27, 28, 29, 12, 30, 14, 31, 10, 11, 13, 15, 16, 17, 18, 19, 20, 21, 22, 97, 98, 99, 100, 101, 102, 103, 104, 105, 106, 107, 108, 109, 110, 111, 112, 113, 114, 115, 116, 117] (by decide +kernel) (by decide +kernel)
set_option maxRecDepth 20000 in
theorem gX4_problemsOf_X4_handedOver : GoodIn wsX4_problemsOf (wsV RX4 129 RX4 yX4_handedOver wsX4_handedOver) := goodIn_app (goodIn_of _ (by decide +kernel)) ggX4_problemsOf_X4_handedOver
set_option maxRecDepth 20000 in
theorem ggX4_problemsOf_X4_wornAmiss : GoodIn wsX4_problemsOf wsX4_wornAmiss := goodIn_r _ [35, 8, 36, 37, 16, 17, 12, 18, 19, 20, 21, 22, 38, 39, 40, 4, 41, 42, 43, 44, 45, 46, 47, 48, 49, 6, 50, 51, 52, 53, 54, 55, 56, 57, 58, 59, 60, 61, 62, 63, 64, 65, 66, 67, 68, 69, 70, 71, 72, 73, 74, 75, 76, 77, 78, 79, 80, 81, 82, 83, 84, 85, 86, 87, 88, 89, 90, 91, 92, 93, 94, 95, 96, 97, 98, 99, 100, 101, 102, 103, 104, 105, 115, 116, 117, 106, 107, 108, 109, 110, 111, 112, 113, 114, 118, 119, 120, 121, 122, 123] (by decide +kernel) (by decide +kernel)
set_option maxRecDepth 20000 in
theorem gX4_problemsOf_X4_wornAmiss : GoodIn wsX4_problemsOf (wsV RX4 132 RX4 yX4_wornAmiss wsX4_wornAmiss) := goodIn_app (goodIn_of _ (by decide +kernel)) ggX4_problemsOf_X4_wornAmiss
theorem dX4_problemsOf_0 : decode cX4_problemsOf 0 = .ok (.iload_n 1, 1) := by decide +kernel
theorem dX4_problemsOf_1 : decode cX4_problemsOf 1 = .ok (.lookupswitch 37 #[(0, 27), (1, 32)], 27) := by decide +kernel
theorem dX4_problemsOf_28 : decode cX4_problemsOf 28 = .ok (.aload_n 0, 1) := by decide +kernel
theorem dX4_problemsOf_29 : decode cX4_problemsOf 29 = .ok (.invokevirtual 125, 3) := by decide +kernel
theorem dX4_problemsOf_32 : decode cX4_problemsOf 32 = .ok (.ireturn, 1) := by decide +kernel
theorem dX4_problemsOf_33 : decode cX4_problemsOf 33 = .ok (.aload_n 0, 1) := by decide +kernel
theorem dX4_problemsOf_34 : decode cX4_problemsOf 34 = .ok (.invokevirtual 129, 3) := by decide +kernel
theorem dX4_problemsOf_37 : decode cX4_problemsOf 37 = .ok (.ireturn, 1) := by decide +kernel
theorem dX4_problemsOf_38 : decode cX4_problemsOf 38 = .ok (.aload_n 0, 1) := by decide +kernel
theorem dX4_problemsOf_39 : decode cX4_problemsOf 39 = .ok (.iload_n 1, 1) := by decide +kernel
theorem dX4_problemsOf_40 : decode cX4_problemsOf 40 = .ok (.invokevirtual 132, 3) := by decide +kernel
theorem dX4_problemsOf_43 : decode cX4_problemsOf 43 = .ok (.ireturn, 1) := by decide +kernel
set_option maxRecDepth 20000 in
theorem ggX4_wornTwice_X0_wearers : GoodIn wsX4_wornTwice wsX0_wearers := goodIn_r _ [8, 9, 10, 11, 12, 7, 13, 14, 15, 16, 17, 36, 37, 38] (by decide +kernel) (by decide +kernel)
set_option maxRecDepth 20000 in
theorem gX4_wornTwice_X0_wearers : GoodIn wsX4_wornTwice (wsV RX4 135 RX0 yX0_wearers wsX0_wearers) := goodIn_app (goodIn_of _ (by decide +kernel)) ggX4_wornTwice_X0_wearers
theorem dX4_wornTwice_0 : decode cX4_wornTwice 0 = .ok (.iconst 0, 1) := by decide +kernel
theorem dX4_wornTwice_1 : decode cX4_wornTwice 1 = .ok (.istore_n 1, 1) := by decide +kernel
theorem dX4_wornTwice_2 : decode cX4_wornTwice 2 = .ok (.iconst 0, 1) := by decide +kernel
theorem dX4_wornTwice_3 : decode cX4_wornTwice 3 = .ok (.istore_n 2, 1) := by decide +kernel
theorem dX4_wornTwice_4 : decode cX4_wornTwice 4 = .ok (.iload_n 2, 1) := by decide +kernel
theorem dX4_wornTwice_5 : decode cX4_wornTwice 5 = .ok (.bipush 12, 2) := by decide +kernel
theorem dX4_wornTwice_7 : decode cX4_wornTwice 7 = .ok (.if_icmp .ge 44, 3) := by decide +kernel
theorem dX4_wornTwice_10 : decode cX4_wornTwice 10 = .ok (.iconst 0, 1) := by decide +kernel
theorem dX4_wornTwice_11 : decode cX4_wornTwice 11 = .ok (.istore_n 3, 1) := by decide +kernel
theorem dX4_wornTwice_12 : decode cX4_wornTwice 12 = .ok (.iload_n 3, 1) := by decide +kernel
theorem dX4_wornTwice_13 : decode cX4_wornTwice 13 = .ok (.aload_n 0, 1) := by decide +kernel
theorem dX4_wornTwice_14 : decode cX4_wornTwice 14 = .ok (.getfield 12, 3) := by decide +kernel
theorem dX4_wornTwice_17 : decode cX4_wornTwice 17 = .ok (.getfield 70, 3) := by decide +kernel
theorem dX4_wornTwice_20 : decode cX4_wornTwice 20 = .ok (.if_icmp .ge 25, 3) := by decide +kernel
theorem dX4_wornTwice_23 : decode cX4_wornTwice 23 = .ok (.aload_n 0, 1) := by decide +kernel
theorem dX4_wornTwice_24 : decode cX4_wornTwice 24 = .ok (.getfield 21, 3) := by decide +kernel
theorem dX4_wornTwice_27 : decode cX4_wornTwice 27 = .ok (.iload_n 2, 1) := by decide +kernel
theorem dX4_wornTwice_28 : decode cX4_wornTwice 28 = .ok (.iload_n 3, 1) := by decide +kernel
theorem dX4_wornTwice_29 : decode cX4_wornTwice 29 = .ok (.invokevirtual 135, 3) := by decide +kernel
theorem dX4_wornTwice_32 : decode cX4_wornTwice 32 = .ok (.iconst 1, 1) := by decide +kernel
theorem dX4_wornTwice_33 : decode cX4_wornTwice 33 = .ok (.if_icmp .le 6, 3) := by decide +kernel
theorem dX4_wornTwice_36 : decode cX4_wornTwice 36 = .ok (.iinc 1 1, 3) := by decide +kernel
theorem dX4_wornTwice_39 : decode cX4_wornTwice 39 = .ok (.iinc 3 1, 3) := by decide +kernel
theorem dX4_wornTwice_42 : decode cX4_wornTwice 42 = .ok (.goto (-30), 3) := by decide +kernel
theorem dX4_wornTwice_45 : decode cX4_wornTwice 45 = .ok (.iinc 2 1, 3) := by decide +kernel
theorem dX4_wornTwice_48 : decode cX4_wornTwice 48 = .ok (.goto (-44), 3) := by decide +kernel
theorem dX4_wornTwice_51 : decode cX4_wornTwice 51 = .ok (.iload_n 1, 1) := by decide +kernel
theorem dX4_wornTwice_52 : decode cX4_wornTwice 52 = .ok (.ireturn, 1) := by decide +kernel
set_option maxRecDepth 20000 in
theorem ggX4_handedOver_X0_isHandedOver : GoodIn wsX4_handedOver wsX0_isHandedOver := goodIn_r _ [8, 9, 10, 11, 12, 7, 13, 14, 15, 16, 17, 18, 19, 20, 21, 40, 41, 42] (by decide +kernel) (by decide +kernel)
set_option maxRecDepth 20000 in
theorem gX4_handedOver_X0_isHandedOver : GoodIn wsX4_handedOver (wsV RX4 138 RX0 yX0_isHandedOver wsX0_isHandedOver) := goodIn_app (goodIn_of _ (by decide +kernel)) ggX4_handedOver_X0_isHandedOver
theorem dX4_handedOver_0 : decode cX4_handedOver 0 = .ok (.iconst 0, 1) := by decide +kernel
theorem dX4_handedOver_1 : decode cX4_handedOver 1 = .ok (.istore_n 1, 1) := by decide +kernel
theorem dX4_handedOver_2 : decode cX4_handedOver 2 = .ok (.iconst 0, 1) := by decide +kernel
theorem dX4_handedOver_3 : decode cX4_handedOver 3 = .ok (.istore_n 2, 1) := by decide +kernel
theorem dX4_handedOver_4 : decode cX4_handedOver 4 = .ok (.iload_n 2, 1) := by decide +kernel
theorem dX4_handedOver_5 : decode cX4_handedOver 5 = .ok (.iconst 1, 1) := by decide +kernel
theorem dX4_handedOver_6 : decode cX4_handedOver 6 = .ok (.iadd, 1) := by decide +kernel
theorem dX4_handedOver_7 : decode cX4_handedOver 7 = .ok (.bipush 12, 2) := by decide +kernel
theorem dX4_handedOver_9 : decode cX4_handedOver 9 = .ok (.if_icmp .ge 43, 3) := by decide +kernel
theorem dX4_handedOver_12 : decode cX4_handedOver 12 = .ok (.iconst 0, 1) := by decide +kernel
theorem dX4_handedOver_13 : decode cX4_handedOver 13 = .ok (.istore_n 3, 1) := by decide +kernel
theorem dX4_handedOver_14 : decode cX4_handedOver 14 = .ok (.iload_n 3, 1) := by decide +kernel
theorem dX4_handedOver_15 : decode cX4_handedOver 15 = .ok (.aload_n 0, 1) := by decide +kernel
theorem dX4_handedOver_16 : decode cX4_handedOver 16 = .ok (.getfield 12, 3) := by decide +kernel
theorem dX4_handedOver_19 : decode cX4_handedOver 19 = .ok (.getfield 70, 3) := by decide +kernel
theorem dX4_handedOver_22 : decode cX4_handedOver 22 = .ok (.if_icmp .ge 24, 3) := by decide +kernel
theorem dX4_handedOver_25 : decode cX4_handedOver 25 = .ok (.aload_n 0, 1) := by decide +kernel
theorem dX4_handedOver_26 : decode cX4_handedOver 26 = .ok (.getfield 21, 3) := by decide +kernel
theorem dX4_handedOver_29 : decode cX4_handedOver 29 = .ok (.iload_n 2, 1) := by decide +kernel
theorem dX4_handedOver_30 : decode cX4_handedOver 30 = .ok (.iload_n 3, 1) := by decide +kernel
theorem dX4_handedOver_31 : decode cX4_handedOver 31 = .ok (.invokevirtual 138, 3) := by decide +kernel
theorem dX4_handedOver_34 : decode cX4_handedOver 34 = .ok (.ifCond .eq 6, 3) := by decide +kernel
theorem dX4_handedOver_37 : decode cX4_handedOver 37 = .ok (.iinc 1 1, 3) := by decide +kernel
theorem dX4_handedOver_40 : decode cX4_handedOver 40 = .ok (.iinc 3 1, 3) := by decide +kernel
theorem dX4_handedOver_43 : decode cX4_handedOver 43 = .ok (.goto (-29), 3) := by decide +kernel
theorem dX4_handedOver_46 : decode cX4_handedOver 46 = .ok (.iinc 2 1, 3) := by decide +kernel
theorem dX4_handedOver_49 : decode cX4_handedOver 49 = .ok (.goto (-45), 3) := by decide +kernel
theorem dX4_handedOver_52 : decode cX4_handedOver 52 = .ok (.iload_n 1, 1) := by decide +kernel
theorem dX4_handedOver_53 : decode cX4_handedOver 53 = .ok (.ireturn, 1) := by decide +kernel
set_option maxRecDepth 20000 in
theorem ggX4_wornAmiss_X0_wornIn : GoodIn wsX4_wornAmiss wsX0_wornIn := goodIn_r _ [7, 8, 9, 10, 11, 82, 83, 84] (by decide +kernel) (by decide +kernel)
set_option maxRecDepth 20000 in
theorem gX4_wornAmiss_X0_wornIn : GoodIn wsX4_wornAmiss (wsV RX4 143 RX0 yX0_wornIn wsX0_wornIn) := goodIn_app (goodIn_of _ (by decide +kernel)) ggX4_wornAmiss_X0_wornIn
set_option maxRecDepth 20000 in
theorem ggX4_wornAmiss_X4_misfitOf : GoodIn wsX4_wornAmiss wsX4_misfitOf := goodIn_r _ [16, 17, 18, 19, 20, 21, 22, 23, 15, 24, 25, 1, 26, 27, 28, 29, 30, 31, 32, 33, 34, 35, 36, 37, 38, 39, 9, 10, 11, 40, 41, 42, 43, 44, 45, 46, 6, 47, 48, 73, 74, 75, 76, 77, 78, 79, 80, 81, 85, 86, 87, 88, 89, 90, 91, 92, 93, 82, 83, 84] (by decide +kernel) (by decide +kernel)
set_option maxRecDepth 20000 in
theorem gX4_wornAmiss_X4_misfitOf : GoodIn wsX4_wornAmiss (wsV RX4 146 RX4 yX4_misfitOf wsX4_misfitOf) := goodIn_app (goodIn_of _ (by decide +kernel)) ggX4_wornAmiss_X4_misfitOf
set_option maxRecDepth 20000 in
theorem ggX4_wornAmiss_X4_isAway : GoodIn wsX4_wornAmiss wsX4_isAway := goodIn_r _ [52, 53, 54, 55, 56, 57, 58, 59, 60, 61, 62, 9, 10, 11, 63, 64, 65, 66, 67, 73, 74, 75, 76, 77, 78, 79, 80, 81, 94, 95, 96, 97, 98, 99] (by decide +kernel) (by decide +kernel)
set_option maxRecDepth 20000 in
theorem gX4_wornAmiss_X4_isAway : GoodIn wsX4_wornAmiss (wsV RX4 73 RX4 yX4_isAway wsX4_isAway) := goodIn_app (goodIn_of _ (by decide +kernel)) ggX4_wornAmiss_X4_isAway
set_option maxRecDepth 20000 in
theorem ggX4_wornAmiss_X4_isTooDirty : GoodIn wsX4_wornAmiss wsX4_isTooDirty := goodIn_r _ [71, 25, 72, 26, 9, 10, 11, 73, 74, 75, 76, 77, 78, 79, 80, 81, 85, 86, 87, 88, 89, 90, 91, 92, 93] (by decide +kernel) (by decide +kernel)
set_option maxRecDepth 20000 in
theorem gX4_wornAmiss_X4_isTooDirty : GoodIn wsX4_wornAmiss (wsV RX4 113 RX4 yX4_isTooDirty wsX4_isTooDirty) := goodIn_app (goodIn_of _ (by decide +kernel)) ggX4_wornAmiss_X4_isTooDirty
theorem dX4_wornAmiss_0 : decode cX4_wornAmiss 0 = .ok (.iconst 0, 1) := by decide +kernel
theorem dX4_wornAmiss_1 : decode cX4_wornAmiss 1 = .ok (.istore_n 2, 1) := by decide +kernel
theorem dX4_wornAmiss_2 : decode cX4_wornAmiss 2 = .ok (.iconst 0, 1) := by decide +kernel
theorem dX4_wornAmiss_3 : decode cX4_wornAmiss 3 = .ok (.istore_n 3, 1) := by decide +kernel
theorem dX4_wornAmiss_4 : decode cX4_wornAmiss 4 = .ok (.iload_n 3, 1) := by decide +kernel
theorem dX4_wornAmiss_5 : decode cX4_wornAmiss 5 = .ok (.bipush 12, 2) := by decide +kernel
theorem dX4_wornAmiss_7 : decode cX4_wornAmiss 7 = .ok (.if_icmp .ge 105, 3) := by decide +kernel
theorem dX4_wornAmiss_10 : decode cX4_wornAmiss 10 = .ok (.iconst 0, 1) := by decide +kernel
theorem dX4_wornAmiss_11 : decode cX4_wornAmiss 11 = .ok (.istore 4, 2) := by decide +kernel
theorem dX4_wornAmiss_13 : decode cX4_wornAmiss 13 = .ok (.iload 4, 2) := by decide +kernel
theorem dX4_wornAmiss_15 : decode cX4_wornAmiss 15 = .ok (.aload_n 0, 1) := by decide +kernel
theorem dX4_wornAmiss_16 : decode cX4_wornAmiss 16 = .ok (.getfield 21, 3) := by decide +kernel
theorem dX4_wornAmiss_19 : decode cX4_wornAmiss 19 = .ok (.getfield 142, 3) := by decide +kernel
theorem dX4_wornAmiss_22 : decode cX4_wornAmiss 22 = .ok (.if_icmp .ge 84, 3) := by decide +kernel
theorem dX4_wornAmiss_25 : decode cX4_wornAmiss 25 = .ok (.aload_n 0, 1) := by decide +kernel
theorem dX4_wornAmiss_26 : decode cX4_wornAmiss 26 = .ok (.getfield 21, 3) := by decide +kernel
theorem dX4_wornAmiss_29 : decode cX4_wornAmiss 29 = .ok (.iload_n 3, 1) := by decide +kernel
theorem dX4_wornAmiss_30 : decode cX4_wornAmiss 30 = .ok (.iload 4, 2) := by decide +kernel
theorem dX4_wornAmiss_32 : decode cX4_wornAmiss 32 = .ok (.invokevirtual 143, 3) := by decide +kernel
theorem dX4_wornAmiss_35 : decode cX4_wornAmiss 35 = .ok (.istore 5, 2) := by decide +kernel
theorem dX4_wornAmiss_37 : decode cX4_wornAmiss 37 = .ok (.iload 5, 2) := by decide +kernel
theorem dX4_wornAmiss_39 : decode cX4_wornAmiss 39 = .ok (.iconst (-1), 1) := by decide +kernel
theorem dX4_wornAmiss_40 : decode cX4_wornAmiss 40 = .ok (.if_icmp .ne 6, 3) := by decide +kernel
theorem dX4_wornAmiss_43 : decode cX4_wornAmiss 43 = .ok (.goto 57, 3) := by decide +kernel
theorem dX4_wornAmiss_46 : decode cX4_wornAmiss 46 = .ok (.iload_n 1, 1) := by decide +kernel
theorem dX4_wornAmiss_47 : decode cX4_wornAmiss 47 = .ok (.iconst 2, 1) := by decide +kernel
theorem dX4_wornAmiss_48 : decode cX4_wornAmiss 48 = .ok (.if_icmp .ne 22, 3) := by decide +kernel
theorem dX4_wornAmiss_51 : decode cX4_wornAmiss 51 = .ok (.aload_n 0, 1) := by decide +kernel
theorem dX4_wornAmiss_52 : decode cX4_wornAmiss 52 = .ok (.iload 5, 2) := by decide +kernel
theorem dX4_wornAmiss_54 : decode cX4_wornAmiss 54 = .ok (.iload 4, 2) := by decide +kernel
theorem dX4_wornAmiss_56 : decode cX4_wornAmiss 56 = .ok (.invokevirtual 146, 3) := by decide +kernel
theorem dX4_wornAmiss_59 : decode cX4_wornAmiss 59 = .ok (.ifCond .le 7, 3) := by decide +kernel
theorem dX4_wornAmiss_62 : decode cX4_wornAmiss 62 = .ok (.iconst 1, 1) := by decide +kernel
theorem dX4_wornAmiss_63 : decode cX4_wornAmiss 63 = .ok (.goto 27, 3) := by decide +kernel
theorem dX4_wornAmiss_66 : decode cX4_wornAmiss 66 = .ok (.iconst 0, 1) := by decide +kernel
theorem dX4_wornAmiss_67 : decode cX4_wornAmiss 67 = .ok (.goto 23, 3) := by decide +kernel
theorem dX4_wornAmiss_70 : decode cX4_wornAmiss 70 = .ok (.iload_n 1, 1) := by decide +kernel
theorem dX4_wornAmiss_71 : decode cX4_wornAmiss 71 = .ok (.iconst 3, 1) := by decide +kernel
theorem dX4_wornAmiss_72 : decode cX4_wornAmiss 72 = .ok (.if_icmp .ne 12, 3) := by decide +kernel
theorem dX4_wornAmiss_75 : decode cX4_wornAmiss 75 = .ok (.aload_n 0, 1) := by decide +kernel
theorem dX4_wornAmiss_76 : decode cX4_wornAmiss 76 = .ok (.iload 5, 2) := by decide +kernel
theorem dX4_wornAmiss_78 : decode cX4_wornAmiss 78 = .ok (.invokevirtual 73, 3) := by decide +kernel
theorem dX4_wornAmiss_81 : decode cX4_wornAmiss 81 = .ok (.goto 9, 3) := by decide +kernel
theorem dX4_wornAmiss_84 : decode cX4_wornAmiss 84 = .ok (.aload_n 0, 1) := by decide +kernel
theorem dX4_wornAmiss_85 : decode cX4_wornAmiss 85 = .ok (.iload 5, 2) := by decide +kernel
theorem dX4_wornAmiss_87 : decode cX4_wornAmiss 87 = .ok (.invokevirtual 113, 3) := by decide +kernel
theorem dX4_wornAmiss_90 : decode cX4_wornAmiss 90 = .ok (.istore 6, 2) := by decide +kernel
theorem dX4_wornAmiss_92 : decode cX4_wornAmiss 92 = .ok (.iload 6, 2) := by decide +kernel
theorem dX4_wornAmiss_94 : decode cX4_wornAmiss 94 = .ok (.ifCond .eq 6, 3) := by decide +kernel
theorem dX4_wornAmiss_97 : decode cX4_wornAmiss 97 = .ok (.iinc 2 1, 3) := by decide +kernel
theorem dX4_wornAmiss_100 : decode cX4_wornAmiss 100 = .ok (.iinc 4 1, 3) := by decide +kernel
theorem dX4_wornAmiss_103 : decode cX4_wornAmiss 103 = .ok (.goto (-90), 3) := by decide +kernel
theorem dX4_wornAmiss_106 : decode cX4_wornAmiss 106 = .ok (.iinc 3 1, 3) := by decide +kernel
theorem dX4_wornAmiss_109 : decode cX4_wornAmiss 109 = .ok (.goto (-105), 3) := by decide +kernel
theorem dX4_wornAmiss_112 : decode cX4_wornAmiss 112 = .ok (.iload_n 2, 1) := by decide +kernel
theorem dX4_wornAmiss_113 : decode cX4_wornAmiss 113 = .ok (.ireturn, 1) := by decide +kernel
set_option maxRecDepth 20000 in
theorem ggX4_soilAll_X0_scenesOf : GoodIn wsX4_soilAll wsX0_scenesOf := goodIn_r _ [8, 9, 10, 11, 7, 12, 13, 14, 15, 16, 17, 18, 19, 20, 21, 52, 53, 54] (by decide +kernel) (by decide +kernel)
set_option maxRecDepth 20000 in
theorem gX4_soilAll_X0_scenesOf : GoodIn wsX4_soilAll (wsV RX4 149 RX0 yX0_scenesOf wsX0_scenesOf) := goodIn_app (goodIn_of _ (by decide +kernel)) ggX4_soilAll_X0_scenesOf
set_option maxRecDepth 20000 in
theorem ggX4_soilAll_X6_soil : GoodIn wsX4_soilAll wsX6_soil := goodIn_r _ [26, 27, 28, 29, 30, 31, 19, 20, 21, 32, 33, 43, 44, 45, 46, 47, 48, 49, 50, 51] (by decide +kernel) (by decide +kernel)
set_option maxRecDepth 20000 in
theorem gX4_soilAll_X6_soil : GoodIn wsX4_soilAll (wsV RX4 152 RX6 yX6_soil wsX6_soil) := goodIn_app (goodIn_of _ (by decide +kernel)) ggX4_soilAll_X6_soil
theorem dX4_soilAll_0 : decode cX4_soilAll 0 = .ok (.iconst 0, 1) := by decide +kernel
theorem dX4_soilAll_1 : decode cX4_soilAll 1 = .ok (.istore_n 1, 1) := by decide +kernel
theorem dX4_soilAll_2 : decode cX4_soilAll 2 = .ok (.iload_n 1, 1) := by decide +kernel
theorem dX4_soilAll_3 : decode cX4_soilAll 3 = .ok (.aload_n 0, 1) := by decide +kernel
theorem dX4_soilAll_4 : decode cX4_soilAll 4 = .ok (.getfield 12, 3) := by decide +kernel
theorem dX4_soilAll_7 : decode cX4_soilAll 7 = .ok (.getfield 70, 3) := by decide +kernel
theorem dX4_soilAll_10 : decode cX4_soilAll 10 = .ok (.if_icmp .ge 25, 3) := by decide +kernel
theorem dX4_soilAll_13 : decode cX4_soilAll 13 = .ok (.aload_n 0, 1) := by decide +kernel
theorem dX4_soilAll_14 : decode cX4_soilAll 14 = .ok (.getfield 12, 3) := by decide +kernel
theorem dX4_soilAll_17 : decode cX4_soilAll 17 = .ok (.iload_n 1, 1) := by decide +kernel
theorem dX4_soilAll_18 : decode cX4_soilAll 18 = .ok (.aload_n 0, 1) := by decide +kernel
theorem dX4_soilAll_19 : decode cX4_soilAll 19 = .ok (.getfield 21, 3) := by decide +kernel
theorem dX4_soilAll_22 : decode cX4_soilAll 22 = .ok (.iload_n 1, 1) := by decide +kernel
theorem dX4_soilAll_23 : decode cX4_soilAll 23 = .ok (.invokevirtual 149, 3) := by decide +kernel
theorem dX4_soilAll_26 : decode cX4_soilAll 26 = .ok (.invokevirtual 152, 3) := by decide +kernel
theorem dX4_soilAll_29 : decode cX4_soilAll 29 = .ok (.iinc 1 1, 3) := by decide +kernel
theorem dX4_soilAll_32 : decode cX4_soilAll 32 = .ok (.goto (-30), 3) := by decide +kernel
theorem dX4_soilAll_35 : decode cX4_soilAll 35 = .ok (.return_, 1) := by decide +kernel
set_option maxRecDepth 20000 in
theorem ggX4_allowsLoad_J6_bitCount_0f7a4 : GoodIn wsX4_allowsLoad wsJ6_bitCount_0f7a4 := goodIn_r _ [7, 8, 9, 10] (by decide +kernel) (by decide +kernel)
set_option maxRecDepth 20000 in
theorem gX4_allowsLoad_J6_bitCount_0f7a4 : GoodIn wsX4_allowsLoad (va_wsS RX4 156 yJ6_bitCount_0f7a4 wsJ6_bitCount_0f7a4) := goodIn_app (goodIn_of _ (by decide +kernel)) ggX4_allowsLoad_J6_bitCount_0f7a4
set_option maxRecDepth 20000 in
theorem ggX4_allowsLoad_X7_isIn : GoodIn wsX4_allowsLoad wsX7_isIn := goodIn_r _ [13] (by decide +kernel) (by decide +kernel)
set_option maxRecDepth 20000 in
theorem gX4_allowsLoad_X7_isIn_n161 : GoodIn wsX4_allowsLoad (wsX7_isIn) := ggX4_allowsLoad_X7_isIn
set_option maxRecDepth 20000 in
theorem ggX4_allowsLoad_X4_isAway : GoodIn wsX4_allowsLoad wsX4_isAway := goodIn_r _ [18, 19, 20, 21, 22, 23, 24, 25, 26, 27, 28, 29, 12, 30, 31, 32, 33, 34, 35, 42, 43, 44, 45, 46, 47, 48, 49, 50, 60, 61, 62, 63, 64, 65] (by decide +kernel) (by decide +kernel)
set_option maxRecDepth 20000 in
theorem gX4_allowsLoad_X4_isAway : GoodIn wsX4_allowsLoad (wsV RX4 73 RX4 yX4_isAway wsX4_isAway) := goodIn_app (goodIn_of _ (by decide +kernel)) ggX4_allowsLoad_X4_isAway
set_option maxRecDepth 20000 in
theorem ggX4_allowsLoad_X6_canBeWashed : GoodIn wsX4_allowsLoad wsX6_canBeWashed := goodIn_r _ [40, 41, 29, 12, 30, 11, 13, 51, 52, 53, 54, 55, 56, 57, 58, 59] (by decide +kernel) (by decide +kernel)
set_option maxRecDepth 20000 in
theorem gX4_allowsLoad_X6_canBeWashed : GoodIn wsX4_allowsLoad (wsV RX4 164 RX6 yX6_canBeWashed wsX6_canBeWashed) := goodIn_app (goodIn_of _ (by decide +kernel)) ggX4_allowsLoad_X6_canBeWashed
set_option maxRecDepth 20000 in
theorem ggX4_allowsLoad_X7_at : GoodIn wsX4_allowsLoad wsX7_at := goodIn_r _ [30] (by decide +kernel) (by decide +kernel)
set_option maxRecDepth 20000 in
theorem gX4_allowsLoad_X7_at_n80 : GoodIn wsX4_allowsLoad (wsX7_at) := ggX4_allowsLoad_X7_at
theorem dX4_allowsLoad_0 : decode cX4_allowsLoad 0 = .ok (.iload_n 2, 1) := by decide +kernel
theorem dX4_allowsLoad_1 : decode cX4_allowsLoad 1 = .ok (.invokestatic 156, 3) := by decide +kernel
theorem dX4_allowsLoad_4 : decode cX4_allowsLoad 4 = .ok (.iconst 5, 1) := by decide +kernel
theorem dX4_allowsLoad_5 : decode cX4_allowsLoad 5 = .ok (.if_icmp .le 5, 3) := by decide +kernel
theorem dX4_allowsLoad_8 : decode cX4_allowsLoad 8 = .ok (.iconst 0, 1) := by decide +kernel
theorem dX4_allowsLoad_9 : decode cX4_allowsLoad 9 = .ok (.ireturn, 1) := by decide +kernel
theorem dX4_allowsLoad_10 : decode cX4_allowsLoad 10 = .ok (.iconst 0, 1) := by decide +kernel
theorem dX4_allowsLoad_11 : decode cX4_allowsLoad 11 = .ok (.istore_n 3, 1) := by decide +kernel
theorem dX4_allowsLoad_12 : decode cX4_allowsLoad 12 = .ok (.iconst 0, 1) := by decide +kernel
theorem dX4_allowsLoad_13 : decode cX4_allowsLoad 13 = .ok (.istore 4, 2) := by decide +kernel
theorem dX4_allowsLoad_15 : decode cX4_allowsLoad 15 = .ok (.iload 4, 2) := by decide +kernel
theorem dX4_allowsLoad_17 : decode cX4_allowsLoad 17 = .ok (.aload_n 0, 1) := by decide +kernel
theorem dX4_allowsLoad_18 : decode cX4_allowsLoad 18 = .ok (.getfield 12, 3) := by decide +kernel
theorem dX4_allowsLoad_21 : decode cX4_allowsLoad 21 = .ok (.getfield 70, 3) := by decide +kernel
theorem dX4_allowsLoad_24 : decode cX4_allowsLoad 24 = .ok (.if_icmp .ge 62, 3) := by decide +kernel
theorem dX4_allowsLoad_27 : decode cX4_allowsLoad 27 = .ok (.iload_n 2, 1) := by decide +kernel
theorem dX4_allowsLoad_28 : decode cX4_allowsLoad 28 = .ok (.iload 4, 2) := by decide +kernel
theorem dX4_allowsLoad_30 : decode cX4_allowsLoad 30 = .ok (.invokestatic 161, 3) := by decide +kernel
theorem dX4_allowsLoad_33 : decode cX4_allowsLoad 33 = .ok (.ifCond .ne 6, 3) := by decide +kernel
theorem dX4_allowsLoad_36 : decode cX4_allowsLoad 36 = .ok (.goto 44, 3) := by decide +kernel
theorem dX4_allowsLoad_39 : decode cX4_allowsLoad 39 = .ok (.aload_n 0, 1) := by decide +kernel
theorem dX4_allowsLoad_40 : decode cX4_allowsLoad 40 = .ok (.iload 4, 2) := by decide +kernel
theorem dX4_allowsLoad_42 : decode cX4_allowsLoad 42 = .ok (.invokevirtual 73, 3) := by decide +kernel
theorem dX4_allowsLoad_45 : decode cX4_allowsLoad 45 = .ok (.ifCond .ne 16, 3) := by decide +kernel
theorem dX4_allowsLoad_48 : decode cX4_allowsLoad 48 = .ok (.aload_n 0, 1) := by decide +kernel
theorem dX4_allowsLoad_49 : decode cX4_allowsLoad 49 = .ok (.getfield 12, 3) := by decide +kernel
theorem dX4_allowsLoad_52 : decode cX4_allowsLoad 52 = .ok (.iload 4, 2) := by decide +kernel
theorem dX4_allowsLoad_54 : decode cX4_allowsLoad 54 = .ok (.iload_n 1, 1) := by decide +kernel
theorem dX4_allowsLoad_55 : decode cX4_allowsLoad 55 = .ok (.invokevirtual 164, 3) := by decide +kernel
theorem dX4_allowsLoad_58 : decode cX4_allowsLoad 58 = .ok (.ifCond .ne 5, 3) := by decide +kernel
theorem dX4_allowsLoad_61 : decode cX4_allowsLoad 61 = .ok (.iconst 0, 1) := by decide +kernel
theorem dX4_allowsLoad_62 : decode cX4_allowsLoad 62 = .ok (.ireturn, 1) := by decide +kernel
theorem dX4_allowsLoad_63 : decode cX4_allowsLoad 63 = .ok (.iload_n 3, 1) := by decide +kernel
theorem dX4_allowsLoad_64 : decode cX4_allowsLoad 64 = .ok (.iconst 1, 1) := by decide +kernel
theorem dX4_allowsLoad_65 : decode cX4_allowsLoad 65 = .ok (.aload_n 0, 1) := by decide +kernel
theorem dX4_allowsLoad_66 : decode cX4_allowsLoad 66 = .ok (.getfield 12, 3) := by decide +kernel
theorem dX4_allowsLoad_69 : decode cX4_allowsLoad 69 = .ok (.getfield 167, 3) := by decide +kernel
theorem dX4_allowsLoad_72 : decode cX4_allowsLoad 72 = .ok (.iload 4, 2) := by decide +kernel
theorem dX4_allowsLoad_74 : decode cX4_allowsLoad 74 = .ok (.invokestatic 80, 3) := by decide +kernel
theorem dX4_allowsLoad_77 : decode cX4_allowsLoad 77 = .ok (.ishl, 1) := by decide +kernel
theorem dX4_allowsLoad_78 : decode cX4_allowsLoad 78 = .ok (.ior, 1) := by decide +kernel
theorem dX4_allowsLoad_79 : decode cX4_allowsLoad 79 = .ok (.istore_n 3, 1) := by decide +kernel
theorem dX4_allowsLoad_80 : decode cX4_allowsLoad 80 = .ok (.iinc 4 1, 3) := by decide +kernel
theorem dX4_allowsLoad_83 : decode cX4_allowsLoad 83 = .ok (.goto (-68), 3) := by decide +kernel
theorem dX4_allowsLoad_86 : decode cX4_allowsLoad 86 = .ok (.iload_n 1, 1) := by decide +kernel
theorem dX4_allowsLoad_87 : decode cX4_allowsLoad 87 = .ok (.iconst 3, 1) := by decide +kernel
theorem dX4_allowsLoad_88 : decode cX4_allowsLoad 88 = .ok (.if_icmp .eq 11, 3) := by decide +kernel
theorem dX4_allowsLoad_91 : decode cX4_allowsLoad 91 = .ok (.iload_n 3, 1) := by decide +kernel
theorem dX4_allowsLoad_92 : decode cX4_allowsLoad 92 = .ok (.invokestatic 156, 3) := by decide +kernel
theorem dX4_allowsLoad_95 : decode cX4_allowsLoad 95 = .ok (.iconst 1, 1) := by decide +kernel
theorem dX4_allowsLoad_96 : decode cX4_allowsLoad 96 = .ok (.if_icmp .gt 7, 3) := by decide +kernel
theorem dX4_allowsLoad_99 : decode cX4_allowsLoad 99 = .ok (.iconst 1, 1) := by decide +kernel
theorem dX4_allowsLoad_100 : decode cX4_allowsLoad 100 = .ok (.goto 4, 3) := by decide +kernel
theorem dX4_allowsLoad_103 : decode cX4_allowsLoad 103 = .ok (.iconst 0, 1) := by decide +kernel
theorem dX4_allowsLoad_104 : decode cX4_allowsLoad 104 = .ok (.ireturn, 1) := by decide +kernel
set_option maxRecDepth 20000 in
theorem ggX4_dirtySet_X7_at : GoodIn wsX4_dirtySet wsX7_at := goodIn_r _ [7] (by decide +kernel) (by decide +kernel)
set_option maxRecDepth 20000 in
theorem gX4_dirtySet_X7_at_n80 : GoodIn wsX4_dirtySet (wsX7_at) := ggX4_dirtySet_X7_at
set_option maxRecDepth 20000 in
theorem ggX4_dirtySet_X4_isAway : GoodIn wsX4_dirtySet wsX4_isAway := goodIn_r _ [12, 13, 14, 15, 16, 17, 18, 19, 20, 21, 22, 5, 6, 7, 23, 24, 25, 26, 27, 36, 37, 38, 39, 40, 41, 42, 43, 44, 54, 55, 56, 57, 58, 59] (by decide +kernel) (by decide +kernel)
set_option maxRecDepth 20000 in
theorem gX4_dirtySet_X4_isAway : GoodIn wsX4_dirtySet (wsV RX4 73 RX4 yX4_isAway wsX4_isAway) := goodIn_app (goodIn_of _ (by decide +kernel)) ggX4_dirtySet_X4_isAway
set_option maxRecDepth 20000 in
theorem ggX4_dirtySet_X6_canBeWashed : GoodIn wsX4_dirtySet wsX6_canBeWashed := goodIn_r _ [32, 33, 5, 6, 7, 34, 35, 45, 46, 47, 48, 49, 50, 51, 52, 53] (by decide +kernel) (by decide +kernel)
set_option maxRecDepth 20000 in
theorem gX4_dirtySet_X6_canBeWashed : GoodIn wsX4_dirtySet (wsV RX4 164 RX6 yX6_canBeWashed wsX6_canBeWashed) := goodIn_app (goodIn_of _ (by decide +kernel)) ggX4_dirtySet_X6_canBeWashed
theorem dX4_dirtySet_0 : decode cX4_dirtySet 0 = .ok (.iconst 0, 1) := by decide +kernel
theorem dX4_dirtySet_1 : decode cX4_dirtySet 1 = .ok (.istore_n 3, 1) := by decide +kernel
theorem dX4_dirtySet_2 : decode cX4_dirtySet 2 = .ok (.iconst 0, 1) := by decide +kernel
theorem dX4_dirtySet_3 : decode cX4_dirtySet 3 = .ok (.istore 4, 2) := by decide +kernel
theorem dX4_dirtySet_5 : decode cX4_dirtySet 5 = .ok (.iload 4, 2) := by decide +kernel
theorem dX4_dirtySet_7 : decode cX4_dirtySet 7 = .ok (.aload_n 0, 1) := by decide +kernel
theorem dX4_dirtySet_8 : decode cX4_dirtySet 8 = .ok (.getfield 12, 3) := by decide +kernel
theorem dX4_dirtySet_11 : decode cX4_dirtySet 11 = .ok (.getfield 70, 3) := by decide +kernel
theorem dX4_dirtySet_14 : decode cX4_dirtySet 14 = .ok (.if_icmp .ge 86, 3) := by decide +kernel
theorem dX4_dirtySet_17 : decode cX4_dirtySet 17 = .ok (.iload_n 1, 1) := by decide +kernel
theorem dX4_dirtySet_18 : decode cX4_dirtySet 18 = .ok (.iconst 3, 1) := by decide +kernel
theorem dX4_dirtySet_19 : decode cX4_dirtySet 19 = .ok (.if_icmp .eq 19, 3) := by decide +kernel
theorem dX4_dirtySet_22 : decode cX4_dirtySet 22 = .ok (.aload_n 0, 1) := by decide +kernel
theorem dX4_dirtySet_23 : decode cX4_dirtySet 23 = .ok (.getfield 12, 3) := by decide +kernel
theorem dX4_dirtySet_26 : decode cX4_dirtySet 26 = .ok (.getfield 167, 3) := by decide +kernel
theorem dX4_dirtySet_29 : decode cX4_dirtySet 29 = .ok (.iload 4, 2) := by decide +kernel
theorem dX4_dirtySet_31 : decode cX4_dirtySet 31 = .ok (.invokestatic 80, 3) := by decide +kernel
theorem dX4_dirtySet_34 : decode cX4_dirtySet 34 = .ok (.iload_n 2, 1) := by decide +kernel
theorem dX4_dirtySet_35 : decode cX4_dirtySet 35 = .ok (.if_icmp .ne 7, 3) := by decide +kernel
theorem dX4_dirtySet_38 : decode cX4_dirtySet 38 = .ok (.iconst 1, 1) := by decide +kernel
theorem dX4_dirtySet_39 : decode cX4_dirtySet 39 = .ok (.goto 4, 3) := by decide +kernel
theorem dX4_dirtySet_42 : decode cX4_dirtySet 42 = .ok (.iconst 0, 1) := by decide +kernel
theorem dX4_dirtySet_43 : decode cX4_dirtySet 43 = .ok (.istore 5, 2) := by decide +kernel
theorem dX4_dirtySet_45 : decode cX4_dirtySet 45 = .ok (.iload 5, 2) := by decide +kernel
theorem dX4_dirtySet_47 : decode cX4_dirtySet 47 = .ok (.ifCond .eq 47, 3) := by decide +kernel
theorem dX4_dirtySet_50 : decode cX4_dirtySet 50 = .ok (.aload_n 0, 1) := by decide +kernel
theorem dX4_dirtySet_51 : decode cX4_dirtySet 51 = .ok (.getfield 12, 3) := by decide +kernel
theorem dX4_dirtySet_54 : decode cX4_dirtySet 54 = .ok (.getfield 77, 3) := by decide +kernel
theorem dX4_dirtySet_57 : decode cX4_dirtySet 57 = .ok (.iload 4, 2) := by decide +kernel
theorem dX4_dirtySet_59 : decode cX4_dirtySet 59 = .ok (.invokestatic 80, 3) := by decide +kernel
theorem dX4_dirtySet_62 : decode cX4_dirtySet 62 = .ok (.ifCond .le 32, 3) := by decide +kernel
theorem dX4_dirtySet_65 : decode cX4_dirtySet 65 = .ok (.aload_n 0, 1) := by decide +kernel
theorem dX4_dirtySet_66 : decode cX4_dirtySet 66 = .ok (.iload 4, 2) := by decide +kernel
theorem dX4_dirtySet_68 : decode cX4_dirtySet 68 = .ok (.invokevirtual 73, 3) := by decide +kernel
theorem dX4_dirtySet_71 : decode cX4_dirtySet 71 = .ok (.ifCond .ne 23, 3) := by decide +kernel
theorem dX4_dirtySet_74 : decode cX4_dirtySet 74 = .ok (.aload_n 0, 1) := by decide +kernel
theorem dX4_dirtySet_75 : decode cX4_dirtySet 75 = .ok (.getfield 12, 3) := by decide +kernel
theorem dX4_dirtySet_78 : decode cX4_dirtySet 78 = .ok (.iload 4, 2) := by decide +kernel
theorem dX4_dirtySet_80 : decode cX4_dirtySet 80 = .ok (.iload_n 1, 1) := by decide +kernel
theorem dX4_dirtySet_81 : decode cX4_dirtySet 81 = .ok (.invokevirtual 164, 3) := by decide +kernel
theorem dX4_dirtySet_84 : decode cX4_dirtySet 84 = .ok (.ifCond .eq 10, 3) := by decide +kernel
theorem dX4_dirtySet_87 : decode cX4_dirtySet 87 = .ok (.iload_n 3, 1) := by decide +kernel
theorem dX4_dirtySet_88 : decode cX4_dirtySet 88 = .ok (.iconst 1, 1) := by decide +kernel
theorem dX4_dirtySet_89 : decode cX4_dirtySet 89 = .ok (.iload 4, 2) := by decide +kernel
theorem dX4_dirtySet_91 : decode cX4_dirtySet 91 = .ok (.ishl, 1) := by decide +kernel
theorem dX4_dirtySet_92 : decode cX4_dirtySet 92 = .ok (.ior, 1) := by decide +kernel
theorem dX4_dirtySet_93 : decode cX4_dirtySet 93 = .ok (.istore_n 3, 1) := by decide +kernel
theorem dX4_dirtySet_94 : decode cX4_dirtySet 94 = .ok (.iinc 4 1, 3) := by decide +kernel
theorem dX4_dirtySet_97 : decode cX4_dirtySet 97 = .ok (.goto (-92), 3) := by decide +kernel
theorem dX4_dirtySet_100 : decode cX4_dirtySet 100 = .ok (.iload_n 3, 1) := by decide +kernel
theorem dX4_dirtySet_101 : decode cX4_dirtySet 101 = .ok (.ireturn, 1) := by decide +kernel
theorem dX5_init_0 : decode cX5_init 0 = .ok (.aload_n 0, 1) := by decide +kernel
theorem dX5_init_1 : decode cX5_init 1 = .ok (.invokespecial 3, 3) := by decide +kernel
theorem dX5_init_4 : decode cX5_init 4 = .ok (.aload_n 0, 1) := by decide +kernel
theorem dX5_init_5 : decode cX5_init 5 = .ok (.bipush 120, 2) := by decide +kernel
theorem dX5_init_7 : decode cX5_init 7 = .ok (.newarray .int, 2) := by decide +kernel
theorem dX5_init_9 : decode cX5_init 9 = .ok (.putfield 9, 3) := by decide +kernel
theorem dX5_init_12 : decode cX5_init 12 = .ok (.return_, 1) := by decide +kernel
set_option maxRecDepth 20000 in
theorem ggX5_add_X7_put : GoodIn wsX5_add wsX7_put := goodIn_r _ [5] (by decide +kernel) (by decide +kernel)
set_option maxRecDepth 20000 in
theorem gX5_add_X7_put_n19 : GoodIn wsX5_add (wsX7_put) := ggX5_add_X7_put
theorem dX5_add_0 : decode cX5_add 0 = .ok (.aload_n 0, 1) := by decide +kernel
theorem dX5_add_1 : decode cX5_add 1 = .ok (.getfield 9, 3) := by decide +kernel
theorem dX5_add_4 : decode cX5_add 4 = .ok (.aload_n 0, 1) := by decide +kernel
theorem dX5_add_5 : decode cX5_add 5 = .ok (.getfield 15, 3) := by decide +kernel
theorem dX5_add_8 : decode cX5_add 8 = .ok (.iload_n 1, 1) := by decide +kernel
theorem dX5_add_9 : decode cX5_add 9 = .ok (.invokestatic 19, 3) := by decide +kernel
theorem dX5_add_12 : decode cX5_add 12 = .ok (.aload_n 0, 1) := by decide +kernel
theorem dX5_add_13 : decode cX5_add 13 = .ok (.dup, 1) := by decide +kernel
theorem dX5_add_14 : decode cX5_add 14 = .ok (.getfield 15, 3) := by decide +kernel
theorem dX5_add_17 : decode cX5_add 17 = .ok (.iconst 1, 1) := by decide +kernel
theorem dX5_add_18 : decode cX5_add 18 = .ok (.iadd, 1) := by decide +kernel
theorem dX5_add_19 : decode cX5_add 19 = .ok (.putfield 15, 3) := by decide +kernel
theorem dX5_add_22 : decode cX5_add 22 = .ok (.aload_n 0, 1) := by decide +kernel
theorem dX5_add_23 : decode cX5_add 23 = .ok (.getfield 15, 3) := by decide +kernel
theorem dX5_add_26 : decode cX5_add 26 = .ok (.ireturn, 1) := by decide +kernel
theorem dX5_empty_0 : decode cX5_empty 0 = .ok (.aload_n 0, 1) := by decide +kernel
theorem dX5_empty_1 : decode cX5_empty 1 = .ok (.getfield 15, 3) := by decide +kernel
theorem dX5_empty_4 : decode cX5_empty 4 = .ok (.istore_n 1, 1) := by decide +kernel
theorem dX5_empty_5 : decode cX5_empty 5 = .ok (.aload_n 0, 1) := by decide +kernel
theorem dX5_empty_6 : decode cX5_empty 6 = .ok (.iconst 0, 1) := by decide +kernel
theorem dX5_empty_7 : decode cX5_empty 7 = .ok (.putfield 15, 3) := by decide +kernel
theorem dX5_empty_10 : decode cX5_empty 10 = .ok (.iload_n 1, 1) := by decide +kernel
theorem dX5_empty_11 : decode cX5_empty 11 = .ok (.ireturn, 1) := by decide +kernel
theorem dX6_init_0 : decode cX6_init 0 = .ok (.aload_n 0, 1) := by decide +kernel
theorem dX6_init_1 : decode cX6_init 1 = .ok (.invokespecial 3, 3) := by decide +kernel
theorem dX6_init_4 : decode cX6_init 4 = .ok (.aload_n 0, 1) := by decide +kernel
theorem dX6_init_5 : decode cX6_init 5 = .ok (.bipush 48, 2) := by decide +kernel
theorem dX6_init_7 : decode cX6_init 7 = .ok (.newarray .int, 2) := by decide +kernel
theorem dX6_init_9 : decode cX6_init 9 = .ok (.putfield 9, 3) := by decide +kernel
theorem dX6_init_12 : decode cX6_init 12 = .ok (.aload_n 0, 1) := by decide +kernel
theorem dX6_init_13 : decode cX6_init 13 = .ok (.bipush 16, 2) := by decide +kernel
theorem dX6_init_15 : decode cX6_init 15 = .ok (.newarray .int, 2) := by decide +kernel
theorem dX6_init_17 : decode cX6_init 17 = .ok (.putfield 15, 3) := by decide +kernel
theorem dX6_init_20 : decode cX6_init 20 = .ok (.aload_n 0, 1) := by decide +kernel
theorem dX6_init_21 : decode cX6_init 21 = .ok (.bipush 16, 2) := by decide +kernel
theorem dX6_init_23 : decode cX6_init 23 = .ok (.newarray .int, 2) := by decide +kernel
theorem dX6_init_25 : decode cX6_init 25 = .ok (.putfield 18, 3) := by decide +kernel
theorem dX6_init_28 : decode cX6_init 28 = .ok (.aload_n 0, 1) := by decide +kernel
theorem dX6_init_29 : decode cX6_init 29 = .ok (.bipush 16, 2) := by decide +kernel
theorem dX6_init_31 : decode cX6_init 31 = .ok (.newarray .int, 2) := by decide +kernel
theorem dX6_init_33 : decode cX6_init 33 = .ok (.putfield 21, 3) := by decide +kernel
theorem dX6_init_36 : decode cX6_init 36 = .ok (.aload_n 0, 1) := by decide +kernel
theorem dX6_init_37 : decode cX6_init 37 = .ok (.bipush 16, 2) := by decide +kernel
theorem dX6_init_39 : decode cX6_init 39 = .ok (.newarray .int, 2) := by decide +kernel
theorem dX6_init_41 : decode cX6_init 41 = .ok (.putfield 24, 3) := by decide +kernel
theorem dX6_init_44 : decode cX6_init 44 = .ok (.aload_n 0, 1) := by decide +kernel
theorem dX6_init_45 : decode cX6_init 45 = .ok (.bipush 16, 2) := by decide +kernel
theorem dX6_init_47 : decode cX6_init 47 = .ok (.newarray .int, 2) := by decide +kernel
theorem dX6_init_49 : decode cX6_init 49 = .ok (.putfield 27, 3) := by decide +kernel
theorem dX6_init_52 : decode cX6_init 52 = .ok (.aload_n 0, 1) := by decide +kernel
theorem dX6_init_53 : decode cX6_init 53 = .ok (.bipush 96, 2) := by decide +kernel
theorem dX6_init_55 : decode cX6_init 55 = .ok (.newarray .int, 2) := by decide +kernel
theorem dX6_init_57 : decode cX6_init 57 = .ok (.putfield 30, 3) := by decide +kernel
theorem dX6_init_60 : decode cX6_init 60 = .ok (.aload_n 0, 1) := by decide +kernel
theorem dX6_init_61 : decode cX6_init 61 = .ok (.bipush 96, 2) := by decide +kernel
theorem dX6_init_63 : decode cX6_init 63 = .ok (.newarray .int, 2) := by decide +kernel
theorem dX6_init_65 : decode cX6_init 65 = .ok (.putfield 33, 3) := by decide +kernel
theorem dX6_init_68 : decode cX6_init 68 = .ok (.return_, 1) := by decide +kernel
set_option maxRecDepth 20000 in
theorem ggX6_copyFrom_X7_copyRow : GoodIn wsX6_copyFrom wsX7_copyRow := goodIn_r _ [12, 13, 14, 15, 16, 17, 18, 19, 20] (by decide +kernel) (by decide +kernel)
set_option maxRecDepth 20000 in
theorem gX6_copyFrom_X7_copyRow_n40 : GoodIn wsX6_copyFrom (wsX7_copyRow) := ggX6_copyFrom_X7_copyRow
theorem dX6_copyFrom_0 : decode cX6_copyFrom 0 = .ok (.aload_n 0, 1) := by decide +kernel
theorem dX6_copyFrom_1 : decode cX6_copyFrom 1 = .ok (.aload_n 1, 1) := by decide +kernel
theorem dX6_copyFrom_2 : decode cX6_copyFrom 2 = .ok (.getfield 36, 3) := by decide +kernel
theorem dX6_copyFrom_5 : decode cX6_copyFrom 5 = .ok (.putfield 36, 3) := by decide +kernel
theorem dX6_copyFrom_8 : decode cX6_copyFrom 8 = .ok (.aload_n 1, 1) := by decide +kernel
theorem dX6_copyFrom_9 : decode cX6_copyFrom 9 = .ok (.getfield 9, 3) := by decide +kernel
theorem dX6_copyFrom_12 : decode cX6_copyFrom 12 = .ok (.aload_n 0, 1) := by decide +kernel
theorem dX6_copyFrom_13 : decode cX6_copyFrom 13 = .ok (.getfield 9, 3) := by decide +kernel
theorem dX6_copyFrom_16 : decode cX6_copyFrom 16 = .ok (.invokestatic 40, 3) := by decide +kernel
theorem dX6_copyFrom_19 : decode cX6_copyFrom 19 = .ok (.aload_n 1, 1) := by decide +kernel
theorem dX6_copyFrom_20 : decode cX6_copyFrom 20 = .ok (.getfield 15, 3) := by decide +kernel
theorem dX6_copyFrom_23 : decode cX6_copyFrom 23 = .ok (.aload_n 0, 1) := by decide +kernel
theorem dX6_copyFrom_24 : decode cX6_copyFrom 24 = .ok (.getfield 15, 3) := by decide +kernel
theorem dX6_copyFrom_27 : decode cX6_copyFrom 27 = .ok (.invokestatic 40, 3) := by decide +kernel
theorem dX6_copyFrom_30 : decode cX6_copyFrom 30 = .ok (.aload_n 1, 1) := by decide +kernel
theorem dX6_copyFrom_31 : decode cX6_copyFrom 31 = .ok (.getfield 18, 3) := by decide +kernel
theorem dX6_copyFrom_34 : decode cX6_copyFrom 34 = .ok (.aload_n 0, 1) := by decide +kernel
theorem dX6_copyFrom_35 : decode cX6_copyFrom 35 = .ok (.getfield 18, 3) := by decide +kernel
theorem dX6_copyFrom_38 : decode cX6_copyFrom 38 = .ok (.invokestatic 40, 3) := by decide +kernel
theorem dX6_copyFrom_41 : decode cX6_copyFrom 41 = .ok (.aload_n 1, 1) := by decide +kernel
theorem dX6_copyFrom_42 : decode cX6_copyFrom 42 = .ok (.getfield 21, 3) := by decide +kernel
theorem dX6_copyFrom_45 : decode cX6_copyFrom 45 = .ok (.aload_n 0, 1) := by decide +kernel
theorem dX6_copyFrom_46 : decode cX6_copyFrom 46 = .ok (.getfield 21, 3) := by decide +kernel
theorem dX6_copyFrom_49 : decode cX6_copyFrom 49 = .ok (.invokestatic 40, 3) := by decide +kernel
theorem dX6_copyFrom_52 : decode cX6_copyFrom 52 = .ok (.aload_n 1, 1) := by decide +kernel
theorem dX6_copyFrom_53 : decode cX6_copyFrom 53 = .ok (.getfield 24, 3) := by decide +kernel
theorem dX6_copyFrom_56 : decode cX6_copyFrom 56 = .ok (.aload_n 0, 1) := by decide +kernel
theorem dX6_copyFrom_57 : decode cX6_copyFrom 57 = .ok (.getfield 24, 3) := by decide +kernel
theorem dX6_copyFrom_60 : decode cX6_copyFrom 60 = .ok (.invokestatic 40, 3) := by decide +kernel
theorem dX6_copyFrom_63 : decode cX6_copyFrom 63 = .ok (.aload_n 1, 1) := by decide +kernel
theorem dX6_copyFrom_64 : decode cX6_copyFrom 64 = .ok (.getfield 27, 3) := by decide +kernel
theorem dX6_copyFrom_67 : decode cX6_copyFrom 67 = .ok (.aload_n 0, 1) := by decide +kernel
theorem dX6_copyFrom_68 : decode cX6_copyFrom 68 = .ok (.getfield 27, 3) := by decide +kernel
theorem dX6_copyFrom_71 : decode cX6_copyFrom 71 = .ok (.invokestatic 40, 3) := by decide +kernel
theorem dX6_copyFrom_74 : decode cX6_copyFrom 74 = .ok (.aload_n 1, 1) := by decide +kernel
theorem dX6_copyFrom_75 : decode cX6_copyFrom 75 = .ok (.getfield 30, 3) := by decide +kernel
theorem dX6_copyFrom_78 : decode cX6_copyFrom 78 = .ok (.aload_n 0, 1) := by decide +kernel
theorem dX6_copyFrom_79 : decode cX6_copyFrom 79 = .ok (.getfield 30, 3) := by decide +kernel
theorem dX6_copyFrom_82 : decode cX6_copyFrom 82 = .ok (.invokestatic 40, 3) := by decide +kernel
theorem dX6_copyFrom_85 : decode cX6_copyFrom 85 = .ok (.aload_n 1, 1) := by decide +kernel
theorem dX6_copyFrom_86 : decode cX6_copyFrom 86 = .ok (.getfield 33, 3) := by decide +kernel
theorem dX6_copyFrom_89 : decode cX6_copyFrom 89 = .ok (.aload_n 0, 1) := by decide +kernel
theorem dX6_copyFrom_90 : decode cX6_copyFrom 90 = .ok (.getfield 33, 3) := by decide +kernel
theorem dX6_copyFrom_93 : decode cX6_copyFrom 93 = .ok (.invokestatic 40, 3) := by decide +kernel
theorem dX6_copyFrom_96 : decode cX6_copyFrom 96 = .ok (.return_, 1) := by decide +kernel
theorem dX6_has_0 : decode cX6_has 0 = .ok (.iload_n 1, 1) := by decide +kernel
theorem dX6_has_1 : decode cX6_has 1 = .ok (.ifCond .lt 15, 3) := by decide +kernel
theorem dX6_has_4 : decode cX6_has 4 = .ok (.iload_n 1, 1) := by decide +kernel
theorem dX6_has_5 : decode cX6_has 5 = .ok (.aload_n 0, 1) := by decide +kernel
theorem dX6_has_6 : decode cX6_has 6 = .ok (.getfield 36, 3) := by decide +kernel
theorem dX6_has_9 : decode cX6_has 9 = .ok (.if_icmp .ge 7, 3) := by decide +kernel
theorem dX6_has_12 : decode cX6_has 12 = .ok (.iconst 1, 1) := by decide +kernel
theorem dX6_has_13 : decode cX6_has 13 = .ok (.goto 4, 3) := by decide +kernel
theorem dX6_has_16 : decode cX6_has 16 = .ok (.iconst 0, 1) := by decide +kernel
theorem dX6_has_17 : decode cX6_has 17 = .ok (.ireturn, 1) := by decide +kernel
set_option maxRecDepth 20000 in
theorem ggX6_add_X7_put : GoodIn wsX6_add wsX7_put := goodIn_r _ [10] (by decide +kernel) (by decide +kernel)
set_option maxRecDepth 20000 in
theorem gX6_add_X7_put_n44 : GoodIn wsX6_add (wsX7_put) := ggX6_add_X7_put
theorem dX6_add_0 : decode cX6_add 0 = .ok (.aload_n 0, 1) := by decide +kernel
theorem dX6_add_1 : decode cX6_add 1 = .ok (.getfield 36, 3) := by decide +kernel
theorem dX6_add_4 : decode cX6_add 4 = .ok (.istore 7, 2) := by decide +kernel
theorem dX6_add_6 : decode cX6_add 6 = .ok (.aload_n 0, 1) := by decide +kernel
theorem dX6_add_7 : decode cX6_add 7 = .ok (.getfield 9, 3) := by decide +kernel
theorem dX6_add_10 : decode cX6_add 10 = .ok (.iload 7, 2) := by decide +kernel
theorem dX6_add_12 : decode cX6_add 12 = .ok (.iconst 3, 1) := by decide +kernel
theorem dX6_add_13 : decode cX6_add 13 = .ok (.imul, 1) := by decide +kernel
theorem dX6_add_14 : decode cX6_add 14 = .ok (.iload_n 1, 1) := by decide +kernel
theorem dX6_add_15 : decode cX6_add 15 = .ok (.invokestatic 44, 3) := by decide +kernel
theorem dX6_add_18 : decode cX6_add 18 = .ok (.aload_n 0, 1) := by decide +kernel
theorem dX6_add_19 : decode cX6_add 19 = .ok (.getfield 9, 3) := by decide +kernel
theorem dX6_add_22 : decode cX6_add 22 = .ok (.iload 7, 2) := by decide +kernel
theorem dX6_add_24 : decode cX6_add 24 = .ok (.iconst 3, 1) := by decide +kernel
theorem dX6_add_25 : decode cX6_add 25 = .ok (.imul, 1) := by decide +kernel
theorem dX6_add_26 : decode cX6_add 26 = .ok (.iconst 1, 1) := by decide +kernel
theorem dX6_add_27 : decode cX6_add 27 = .ok (.iadd, 1) := by decide +kernel
theorem dX6_add_28 : decode cX6_add 28 = .ok (.iload_n 2, 1) := by decide +kernel
theorem dX6_add_29 : decode cX6_add 29 = .ok (.invokestatic 44, 3) := by decide +kernel
theorem dX6_add_32 : decode cX6_add 32 = .ok (.aload_n 0, 1) := by decide +kernel
theorem dX6_add_33 : decode cX6_add 33 = .ok (.getfield 9, 3) := by decide +kernel
theorem dX6_add_36 : decode cX6_add 36 = .ok (.iload 7, 2) := by decide +kernel
theorem dX6_add_38 : decode cX6_add 38 = .ok (.iconst 3, 1) := by decide +kernel
theorem dX6_add_39 : decode cX6_add 39 = .ok (.imul, 1) := by decide +kernel
theorem dX6_add_40 : decode cX6_add 40 = .ok (.iconst 2, 1) := by decide +kernel
theorem dX6_add_41 : decode cX6_add 41 = .ok (.iadd, 1) := by decide +kernel
theorem dX6_add_42 : decode cX6_add 42 = .ok (.iload_n 3, 1) := by decide +kernel
theorem dX6_add_43 : decode cX6_add 43 = .ok (.invokestatic 44, 3) := by decide +kernel
theorem dX6_add_46 : decode cX6_add 46 = .ok (.aload_n 0, 1) := by decide +kernel
theorem dX6_add_47 : decode cX6_add 47 = .ok (.getfield 15, 3) := by decide +kernel
theorem dX6_add_50 : decode cX6_add 50 = .ok (.iload 7, 2) := by decide +kernel
theorem dX6_add_52 : decode cX6_add 52 = .ok (.iload 4, 2) := by decide +kernel
theorem dX6_add_54 : decode cX6_add 54 = .ok (.invokestatic 44, 3) := by decide +kernel
theorem dX6_add_57 : decode cX6_add 57 = .ok (.aload_n 0, 1) := by decide +kernel
theorem dX6_add_58 : decode cX6_add 58 = .ok (.getfield 18, 3) := by decide +kernel
theorem dX6_add_61 : decode cX6_add 61 = .ok (.iload 7, 2) := by decide +kernel
theorem dX6_add_63 : decode cX6_add 63 = .ok (.iload 5, 2) := by decide +kernel
theorem dX6_add_65 : decode cX6_add 65 = .ok (.invokestatic 44, 3) := by decide +kernel
theorem dX6_add_68 : decode cX6_add 68 = .ok (.aload_n 0, 1) := by decide +kernel
theorem dX6_add_69 : decode cX6_add 69 = .ok (.getfield 21, 3) := by decide +kernel
theorem dX6_add_72 : decode cX6_add 72 = .ok (.iload 7, 2) := by decide +kernel
theorem dX6_add_74 : decode cX6_add 74 = .ok (.iload 6, 2) := by decide +kernel
theorem dX6_add_76 : decode cX6_add 76 = .ok (.invokestatic 44, 3) := by decide +kernel
theorem dX6_add_79 : decode cX6_add 79 = .ok (.aload_n 0, 1) := by decide +kernel
theorem dX6_add_80 : decode cX6_add 80 = .ok (.getfield 24, 3) := by decide +kernel
theorem dX6_add_83 : decode cX6_add 83 = .ok (.iload 7, 2) := by decide +kernel
theorem dX6_add_85 : decode cX6_add 85 = .ok (.iconst 0, 1) := by decide +kernel
theorem dX6_add_86 : decode cX6_add 86 = .ok (.invokestatic 44, 3) := by decide +kernel
theorem dX6_add_89 : decode cX6_add 89 = .ok (.aload_n 0, 1) := by decide +kernel
theorem dX6_add_90 : decode cX6_add 90 = .ok (.getfield 27, 3) := by decide +kernel
theorem dX6_add_93 : decode cX6_add 93 = .ok (.iload 7, 2) := by decide +kernel
theorem dX6_add_95 : decode cX6_add 95 = .ok (.iconst 0, 1) := by decide +kernel
theorem dX6_add_96 : decode cX6_add 96 = .ok (.invokestatic 44, 3) := by decide +kernel
theorem dX6_add_99 : decode cX6_add 99 = .ok (.aload_n 0, 1) := by decide +kernel
theorem dX6_add_100 : decode cX6_add 100 = .ok (.dup, 1) := by decide +kernel
theorem dX6_add_101 : decode cX6_add 101 = .ok (.getfield 36, 3) := by decide +kernel
theorem dX6_add_104 : decode cX6_add 104 = .ok (.iconst 1, 1) := by decide +kernel
theorem dX6_add_105 : decode cX6_add 105 = .ok (.iadd, 1) := by decide +kernel
theorem dX6_add_106 : decode cX6_add 106 = .ok (.putfield 36, 3) := by decide +kernel
theorem dX6_add_109 : decode cX6_add 109 = .ok (.iload 7, 2) := by decide +kernel
theorem dX6_add_111 : decode cX6_add 111 = .ok (.ireturn, 1) := by decide +kernel
set_option maxRecDepth 20000 in
theorem ggX6_originalOf_X7_at : GoodIn wsX6_originalOf wsX7_at := goodIn_r _ [4] (by decide +kernel) (by decide +kernel)
set_option maxRecDepth 20000 in
theorem gX6_originalOf_X7_at_n48 : GoodIn wsX6_originalOf (wsX7_at) := ggX6_originalOf_X7_at
theorem dX6_originalOf_0 : decode cX6_originalOf 0 = .ok (.aload_n 0, 1) := by decide +kernel
theorem dX6_originalOf_1 : decode cX6_originalOf 1 = .ok (.getfield 9, 3) := by decide +kernel
theorem dX6_originalOf_4 : decode cX6_originalOf 4 = .ok (.iload_n 1, 1) := by decide +kernel
theorem dX6_originalOf_5 : decode cX6_originalOf 5 = .ok (.iconst 3, 1) := by decide +kernel
theorem dX6_originalOf_6 : decode cX6_originalOf 6 = .ok (.imul, 1) := by decide +kernel
theorem dX6_originalOf_7 : decode cX6_originalOf 7 = .ok (.iload_n 2, 1) := by decide +kernel
theorem dX6_originalOf_8 : decode cX6_originalOf 8 = .ok (.iadd, 1) := by decide +kernel
theorem dX6_originalOf_9 : decode cX6_originalOf 9 = .ok (.invokestatic 48, 3) := by decide +kernel
theorem dX6_originalOf_12 : decode cX6_originalOf 12 = .ok (.ireturn, 1) := by decide +kernel
theorem dX6_placeOf_0 : decode cX6_placeOf 0 = .ok (.iload_n 1, 1) := by decide +kernel
theorem dX6_placeOf_1 : decode cX6_placeOf 1 = .ok (.bipush 6, 2) := by decide +kernel
theorem dX6_placeOf_3 : decode cX6_placeOf 3 = .ok (.imul, 1) := by decide +kernel
theorem dX6_placeOf_4 : decode cX6_placeOf 4 = .ok (.iload_n 2, 1) := by decide +kernel
theorem dX6_placeOf_5 : decode cX6_placeOf 5 = .ok (.iadd, 1) := by decide +kernel
theorem dX6_placeOf_6 : decode cX6_placeOf 6 = .ok (.ireturn, 1) := by decide +kernel
set_option maxRecDepth 20000 in
theorem ggX6_present_X6_originalOf : GoodIn wsX6_present wsX6_originalOf := goodIn_r _ [8, 9, 10, 11, 12, 17, 18, 19, 20, 21, 22, 23, 24, 25] (by decide +kernel) (by decide +kernel)
set_option maxRecDepth 20000 in
theorem gX6_present_X6_originalOf : GoodIn wsX6_present (wsV RX6 52 RX6 yX6_originalOf wsX6_originalOf) := goodIn_app (goodIn_of _ (by decide +kernel)) ggX6_present_X6_originalOf
set_option maxRecDepth 20000 in
theorem ggX6_present_X7_at : GoodIn wsX6_present wsX7_at := goodIn_r _ [12] (by decide +kernel) (by decide +kernel)
set_option maxRecDepth 20000 in
theorem gX6_present_X7_at_n48 : GoodIn wsX6_present (wsX7_at) := ggX6_present_X7_at
set_option maxRecDepth 20000 in
theorem ggX6_present_X6_placeOf : GoodIn wsX6_present wsX6_placeOf := goodIn_r _ [16] (by decide +kernel) (by decide +kernel)
set_option maxRecDepth 20000 in
theorem gX6_present_X6_placeOf : GoodIn wsX6_present (wsV RX6 56 RX6 yX6_placeOf wsX6_placeOf) := goodIn_app (goodIn_of _ (by decide +kernel)) ggX6_present_X6_placeOf
theorem dX6_present_0 : decode cX6_present 0 = .ok (.aload_n 0, 1) := by decide +kernel
theorem dX6_present_1 : decode cX6_present 1 = .ok (.iload_n 1, 1) := by decide +kernel
theorem dX6_present_2 : decode cX6_present 2 = .ok (.iload_n 2, 1) := by decide +kernel
theorem dX6_present_3 : decode cX6_present 3 = .ok (.invokevirtual 52, 3) := by decide +kernel
theorem dX6_present_6 : decode cX6_present 6 = .ok (.istore_n 3, 1) := by decide +kernel
theorem dX6_present_7 : decode cX6_present 7 = .ok (.aload_n 0, 1) := by decide +kernel
theorem dX6_present_8 : decode cX6_present 8 = .ok (.getfield 27, 3) := by decide +kernel
theorem dX6_present_11 : decode cX6_present 11 = .ok (.iload_n 1, 1) := by decide +kernel
theorem dX6_present_12 : decode cX6_present 12 = .ok (.invokestatic 48, 3) := by decide +kernel
theorem dX6_present_15 : decode cX6_present 15 = .ok (.istore 4, 2) := by decide +kernel
theorem dX6_present_17 : decode cX6_present 17 = .ok (.iconst 0, 1) := by decide +kernel
theorem dX6_present_18 : decode cX6_present 18 = .ok (.istore 5, 2) := by decide +kernel
theorem dX6_present_20 : decode cX6_present 20 = .ok (.iload 5, 2) := by decide +kernel
theorem dX6_present_22 : decode cX6_present 22 = .ok (.iload 4, 2) := by decide +kernel
theorem dX6_present_24 : decode cX6_present 24 = .ok (.if_icmp .ge 43, 3) := by decide +kernel
theorem dX6_present_27 : decode cX6_present 27 = .ok (.aload_n 0, 1) := by decide +kernel
theorem dX6_present_28 : decode cX6_present 28 = .ok (.iload_n 1, 1) := by decide +kernel
theorem dX6_present_29 : decode cX6_present 29 = .ok (.iload 5, 2) := by decide +kernel
theorem dX6_present_31 : decode cX6_present 31 = .ok (.invokevirtual 56, 3) := by decide +kernel
theorem dX6_present_34 : decode cX6_present 34 = .ok (.istore 6, 2) := by decide +kernel
theorem dX6_present_36 : decode cX6_present 36 = .ok (.aload_n 0, 1) := by decide +kernel
theorem dX6_present_37 : decode cX6_present 37 = .ok (.getfield 30, 3) := by decide +kernel
theorem dX6_present_40 : decode cX6_present 40 = .ok (.iload 6, 2) := by decide +kernel
theorem dX6_present_42 : decode cX6_present 42 = .ok (.invokestatic 48, 3) := by decide +kernel
theorem dX6_present_45 : decode cX6_present 45 = .ok (.iload_n 2, 1) := by decide +kernel
theorem dX6_present_46 : decode cX6_present 46 = .ok (.if_icmp .ne 15, 3) := by decide +kernel
theorem dX6_present_49 : decode cX6_present 49 = .ok (.iload_n 3, 1) := by decide +kernel
theorem dX6_present_50 : decode cX6_present 50 = .ok (.aload_n 0, 1) := by decide +kernel
theorem dX6_present_51 : decode cX6_present 51 = .ok (.getfield 33, 3) := by decide +kernel
theorem dX6_present_54 : decode cX6_present 54 = .ok (.iload 6, 2) := by decide +kernel
theorem dX6_present_56 : decode cX6_present 56 = .ok (.invokestatic 48, 3) := by decide +kernel
theorem dX6_present_59 : decode cX6_present 59 = .ok (.iadd, 1) := by decide +kernel
theorem dX6_present_60 : decode cX6_present 60 = .ok (.istore_n 3, 1) := by decide +kernel
theorem dX6_present_61 : decode cX6_present 61 = .ok (.iinc 5 1, 3) := by decide +kernel
theorem dX6_present_64 : decode cX6_present 64 = .ok (.goto (-44), 3) := by decide +kernel
theorem dX6_present_67 : decode cX6_present 67 = .ok (.iload_n 3, 1) := by decide +kernel
theorem dX6_present_68 : decode cX6_present 68 = .ok (.ireturn, 1) := by decide +kernel
set_option maxRecDepth 20000 in
theorem ggX6_allows_X6_originalOf : GoodIn wsX6_allows wsX6_originalOf := goodIn_r _ [6, 7, 8, 9, 10, 22, 23, 24, 25, 26, 27, 28, 29, 30] (by decide +kernel) (by decide +kernel)
set_option maxRecDepth 20000 in
theorem gX6_allows_X6_originalOf : GoodIn wsX6_allows (wsV RX6 52 RX6 yX6_originalOf wsX6_originalOf) := goodIn_app (goodIn_of _ (by decide +kernel)) ggX6_allows_X6_originalOf
set_option maxRecDepth 20000 in
theorem ggX6_allows_X6_present : GoodIn wsX6_allows wsX6_present := goodIn_r _ [14, 15, 16, 17, 2, 3, 4, 5, 6, 7, 8, 9, 10, 18, 19, 20, 21, 22, 23, 24, 25, 26, 27, 28, 29, 30] (by decide +kernel) (by decide +kernel)
set_option maxRecDepth 20000 in
theorem gX6_allows_X6_present : GoodIn wsX6_allows (wsV RX6 59 RX6 yX6_present wsX6_present) := goodIn_app (goodIn_of _ (by decide +kernel)) ggX6_allows_X6_present
set_option maxRecDepth 20000 in
theorem ggX6_allows_X7_at : GoodIn wsX6_allows wsX7_at := goodIn_r _ [10] (by decide +kernel) (by decide +kernel)
set_option maxRecDepth 20000 in
theorem gX6_allows_X7_at_n48 : GoodIn wsX6_allows (wsX7_at) := ggX6_allows_X7_at
theorem dX6_allows_0 : decode cX6_allows 0 = .ok (.aload_n 0, 1) := by decide +kernel
theorem dX6_allows_1 : decode cX6_allows 1 = .ok (.iload_n 1, 1) := by decide +kernel
theorem dX6_allows_2 : decode cX6_allows 2 = .ok (.iload_n 2, 1) := by decide +kernel
theorem dX6_allows_3 : decode cX6_allows 3 = .ok (.invokevirtual 52, 3) := by decide +kernel
theorem dX6_allows_6 : decode cX6_allows 6 = .ok (.istore 4, 2) := by decide +kernel
theorem dX6_allows_8 : decode cX6_allows 8 = .ok (.aload_n 0, 1) := by decide +kernel
theorem dX6_allows_9 : decode cX6_allows 9 = .ok (.iload_n 1, 1) := by decide +kernel
theorem dX6_allows_10 : decode cX6_allows 10 = .ok (.iload_n 2, 1) := by decide +kernel
theorem dX6_allows_11 : decode cX6_allows 11 = .ok (.invokevirtual 59, 3) := by decide +kernel
theorem dX6_allows_14 : decode cX6_allows 14 = .ok (.iload_n 3, 1) := by decide +kernel
theorem dX6_allows_15 : decode cX6_allows 15 = .ok (.iadd, 1) := by decide +kernel
theorem dX6_allows_16 : decode cX6_allows 16 = .ok (.istore 5, 2) := by decide +kernel
theorem dX6_allows_18 : decode cX6_allows 18 = .ok (.iload 5, 2) := by decide +kernel
theorem dX6_allows_20 : decode cX6_allows 20 = .ok (.bipush 40, 2) := by decide +kernel
theorem dX6_allows_22 : decode cX6_allows 22 = .ok (.if_icmp .lt 33, 3) := by decide +kernel
theorem dX6_allows_25 : decode cX6_allows 25 = .ok (.iload 5, 2) := by decide +kernel
theorem dX6_allows_27 : decode cX6_allows 27 = .ok (.iload 4, 2) := by decide +kernel
theorem dX6_allows_29 : decode cX6_allows 29 = .ok (.bipush 20, 2) := by decide +kernel
theorem dX6_allows_31 : decode cX6_allows 31 = .ok (.isub, 1) := by decide +kernel
theorem dX6_allows_32 : decode cX6_allows 32 = .ok (.if_icmp .lt 23, 3) := by decide +kernel
theorem dX6_allows_35 : decode cX6_allows 35 = .ok (.iload 5, 2) := by decide +kernel
theorem dX6_allows_37 : decode cX6_allows 37 = .ok (.iload 4, 2) := by decide +kernel
theorem dX6_allows_39 : decode cX6_allows 39 = .ok (.aload_n 0, 1) := by decide +kernel
theorem dX6_allows_40 : decode cX6_allows 40 = .ok (.getfield 15, 3) := by decide +kernel
theorem dX6_allows_43 : decode cX6_allows 43 = .ok (.iload_n 1, 1) := by decide +kernel
theorem dX6_allows_44 : decode cX6_allows 44 = .ok (.invokestatic 48, 3) := by decide +kernel
theorem dX6_allows_47 : decode cX6_allows 47 = .ok (.iadd, 1) := by decide +kernel
theorem dX6_allows_48 : decode cX6_allows 48 = .ok (.if_icmp .gt 7, 3) := by decide +kernel
theorem dX6_allows_51 : decode cX6_allows 51 = .ok (.iconst 1, 1) := by decide +kernel
theorem dX6_allows_52 : decode cX6_allows 52 = .ok (.goto 4, 3) := by decide +kernel
theorem dX6_allows_55 : decode cX6_allows 55 = .ok (.iconst 0, 1) := by decide +kernel
theorem dX6_allows_56 : decode cX6_allows 56 = .ok (.ireturn, 1) := by decide +kernel
set_option maxRecDepth 20000 in
theorem ggX6_roomForAlterations_X7_at : GoodIn wsX6_roomForAlterations wsX7_at := goodIn_r _ [4] (by decide +kernel) (by decide +kernel)
set_option maxRecDepth 20000 in
theorem gX6_roomForAlterations_X7_at_n48 : GoodIn wsX6_roomForAlterations (wsX7_at) := ggX6_roomForAlterations_X7_at
theorem dX6_roomForAlterations_0 : decode cX6_roomForAlterations 0 = .ok (.bipush 6, 2) := by decide +kernel
theorem dX6_roomForAlterations_2 : decode cX6_roomForAlterations 2 = .ok (.aload_n 0, 1) := by decide +kernel
theorem dX6_roomForAlterations_3 : decode cX6_roomForAlterations 3 = .ok (.getfield 27, 3) := by decide +kernel
theorem dX6_roomForAlterations_6 : decode cX6_roomForAlterations 6 = .ok (.iload_n 1, 1) := by decide +kernel
theorem dX6_roomForAlterations_7 : decode cX6_roomForAlterations 7 = .ok (.invokestatic 48, 3) := by decide +kernel
theorem dX6_roomForAlterations_10 : decode cX6_roomForAlterations 10 = .ok (.isub, 1) := by decide +kernel
theorem dX6_roomForAlterations_11 : decode cX6_roomForAlterations 11 = .ok (.ireturn, 1) := by decide +kernel
set_option maxRecDepth 20000 in
theorem ggX6_addAlteration_X7_at : GoodIn wsX6_addAlteration wsX7_at := goodIn_r _ [6] (by decide +kernel) (by decide +kernel)
set_option maxRecDepth 20000 in
theorem gX6_addAlteration_X7_at_n48 : GoodIn wsX6_addAlteration (wsX7_at) := ggX6_addAlteration_X7_at
set_option maxRecDepth 20000 in
theorem ggX6_addAlteration_X6_placeOf : GoodIn wsX6_addAlteration wsX6_placeOf := goodIn_r _ [11] (by decide +kernel) (by decide +kernel)
set_option maxRecDepth 20000 in
theorem gX6_addAlteration_X6_placeOf : GoodIn wsX6_addAlteration (wsV RX6 56 RX6 yX6_placeOf wsX6_placeOf) := goodIn_app (goodIn_of _ (by decide +kernel)) ggX6_addAlteration_X6_placeOf
set_option maxRecDepth 20000 in
theorem ggX6_addAlteration_X7_put : GoodIn wsX6_addAlteration wsX7_put := goodIn_r _ [13] (by decide +kernel) (by decide +kernel)
set_option maxRecDepth 20000 in
theorem gX6_addAlteration_X7_put_n44 : GoodIn wsX6_addAlteration (wsX7_put) := ggX6_addAlteration_X7_put
theorem dX6_addAlteration_0 : decode cX6_addAlteration 0 = .ok (.aload_n 0, 1) := by decide +kernel
theorem dX6_addAlteration_1 : decode cX6_addAlteration 1 = .ok (.getfield 27, 3) := by decide +kernel
theorem dX6_addAlteration_4 : decode cX6_addAlteration 4 = .ok (.iload_n 1, 1) := by decide +kernel
theorem dX6_addAlteration_5 : decode cX6_addAlteration 5 = .ok (.invokestatic 48, 3) := by decide +kernel
theorem dX6_addAlteration_8 : decode cX6_addAlteration 8 = .ok (.istore 4, 2) := by decide +kernel
theorem dX6_addAlteration_10 : decode cX6_addAlteration 10 = .ok (.aload_n 0, 1) := by decide +kernel
theorem dX6_addAlteration_11 : decode cX6_addAlteration 11 = .ok (.getfield 30, 3) := by decide +kernel
theorem dX6_addAlteration_14 : decode cX6_addAlteration 14 = .ok (.aload_n 0, 1) := by decide +kernel
theorem dX6_addAlteration_15 : decode cX6_addAlteration 15 = .ok (.iload_n 1, 1) := by decide +kernel
theorem dX6_addAlteration_16 : decode cX6_addAlteration 16 = .ok (.iload 4, 2) := by decide +kernel
theorem dX6_addAlteration_18 : decode cX6_addAlteration 18 = .ok (.invokevirtual 56, 3) := by decide +kernel
theorem dX6_addAlteration_21 : decode cX6_addAlteration 21 = .ok (.iload_n 2, 1) := by decide +kernel
theorem dX6_addAlteration_22 : decode cX6_addAlteration 22 = .ok (.invokestatic 44, 3) := by decide +kernel
theorem dX6_addAlteration_25 : decode cX6_addAlteration 25 = .ok (.aload_n 0, 1) := by decide +kernel
theorem dX6_addAlteration_26 : decode cX6_addAlteration 26 = .ok (.getfield 33, 3) := by decide +kernel
theorem dX6_addAlteration_29 : decode cX6_addAlteration 29 = .ok (.aload_n 0, 1) := by decide +kernel
theorem dX6_addAlteration_30 : decode cX6_addAlteration 30 = .ok (.iload_n 1, 1) := by decide +kernel
theorem dX6_addAlteration_31 : decode cX6_addAlteration 31 = .ok (.iload 4, 2) := by decide +kernel
theorem dX6_addAlteration_33 : decode cX6_addAlteration 33 = .ok (.invokevirtual 56, 3) := by decide +kernel
theorem dX6_addAlteration_36 : decode cX6_addAlteration 36 = .ok (.iload_n 3, 1) := by decide +kernel
theorem dX6_addAlteration_37 : decode cX6_addAlteration 37 = .ok (.invokestatic 44, 3) := by decide +kernel
theorem dX6_addAlteration_40 : decode cX6_addAlteration 40 = .ok (.aload_n 0, 1) := by decide +kernel
theorem dX6_addAlteration_41 : decode cX6_addAlteration 41 = .ok (.getfield 27, 3) := by decide +kernel
theorem dX6_addAlteration_44 : decode cX6_addAlteration 44 = .ok (.iload_n 1, 1) := by decide +kernel
theorem dX6_addAlteration_45 : decode cX6_addAlteration 45 = .ok (.iload 4, 2) := by decide +kernel
theorem dX6_addAlteration_47 : decode cX6_addAlteration 47 = .ok (.iconst 1, 1) := by decide +kernel
theorem dX6_addAlteration_48 : decode cX6_addAlteration 48 = .ok (.iadd, 1) := by decide +kernel
theorem dX6_addAlteration_49 : decode cX6_addAlteration 49 = .ok (.invokestatic 44, 3) := by decide +kernel
theorem dX6_addAlteration_52 : decode cX6_addAlteration 52 = .ok (.return_, 1) := by decide +kernel
set_option maxRecDepth 20000 in
theorem ggX6_removeAlteration_X7_at : GoodIn wsX6_removeAlteration wsX7_at := goodIn_r _ [5] (by decide +kernel) (by decide +kernel)
set_option maxRecDepth 20000 in
theorem gX6_removeAlteration_X7_at_n48 : GoodIn wsX6_removeAlteration (wsX7_at) := ggX6_removeAlteration_X7_at
set_option maxRecDepth 20000 in
theorem ggX6_removeAlteration_X7_put : GoodIn wsX6_removeAlteration wsX7_put := goodIn_r _ [7] (by decide +kernel) (by decide +kernel)
set_option maxRecDepth 20000 in
theorem gX6_removeAlteration_X7_put_n44 : GoodIn wsX6_removeAlteration (wsX7_put) := ggX6_removeAlteration_X7_put
set_option maxRecDepth 20000 in
theorem ggX6_removeAlteration_X6_placeOf : GoodIn wsX6_removeAlteration wsX6_placeOf := goodIn_r _ [12] (by decide +kernel) (by decide +kernel)
set_option maxRecDepth 20000 in
theorem gX6_removeAlteration_X6_placeOf : GoodIn wsX6_removeAlteration (wsV RX6 56 RX6 yX6_placeOf wsX6_placeOf) := goodIn_app (goodIn_of _ (by decide +kernel)) ggX6_removeAlteration_X6_placeOf
theorem dX6_removeAlteration_0 : decode cX6_removeAlteration 0 = .ok (.aload_n 0, 1) := by decide +kernel
theorem dX6_removeAlteration_1 : decode cX6_removeAlteration 1 = .ok (.getfield 27, 3) := by decide +kernel
theorem dX6_removeAlteration_4 : decode cX6_removeAlteration 4 = .ok (.iload_n 1, 1) := by decide +kernel
theorem dX6_removeAlteration_5 : decode cX6_removeAlteration 5 = .ok (.invokestatic 48, 3) := by decide +kernel
theorem dX6_removeAlteration_8 : decode cX6_removeAlteration 8 = .ok (.iconst 1, 1) := by decide +kernel
theorem dX6_removeAlteration_9 : decode cX6_removeAlteration 9 = .ok (.isub, 1) := by decide +kernel
theorem dX6_removeAlteration_10 : decode cX6_removeAlteration 10 = .ok (.istore_n 2, 1) := by decide +kernel
theorem dX6_removeAlteration_11 : decode cX6_removeAlteration 11 = .ok (.aload_n 0, 1) := by decide +kernel
theorem dX6_removeAlteration_12 : decode cX6_removeAlteration 12 = .ok (.getfield 27, 3) := by decide +kernel
theorem dX6_removeAlteration_15 : decode cX6_removeAlteration 15 = .ok (.iload_n 1, 1) := by decide +kernel
theorem dX6_removeAlteration_16 : decode cX6_removeAlteration 16 = .ok (.iload_n 2, 1) := by decide +kernel
theorem dX6_removeAlteration_17 : decode cX6_removeAlteration 17 = .ok (.invokestatic 44, 3) := by decide +kernel
theorem dX6_removeAlteration_20 : decode cX6_removeAlteration 20 = .ok (.aload_n 0, 1) := by decide +kernel
theorem dX6_removeAlteration_21 : decode cX6_removeAlteration 21 = .ok (.getfield 33, 3) := by decide +kernel
theorem dX6_removeAlteration_24 : decode cX6_removeAlteration 24 = .ok (.aload_n 0, 1) := by decide +kernel
theorem dX6_removeAlteration_25 : decode cX6_removeAlteration 25 = .ok (.iload_n 1, 1) := by decide +kernel
theorem dX6_removeAlteration_26 : decode cX6_removeAlteration 26 = .ok (.iload_n 2, 1) := by decide +kernel
theorem dX6_removeAlteration_27 : decode cX6_removeAlteration 27 = .ok (.invokevirtual 56, 3) := by decide +kernel
theorem dX6_removeAlteration_30 : decode cX6_removeAlteration 30 = .ok (.invokestatic 48, 3) := by decide +kernel
theorem dX6_removeAlteration_33 : decode cX6_removeAlteration 33 = .ok (.ireturn, 1) := by decide +kernel
set_option maxRecDepth 20000 in
theorem ggX6_canBeWashed_X7_at : GoodIn wsX6_canBeWashed wsX7_at := goodIn_r _ [4] (by decide +kernel) (by decide +kernel)
set_option maxRecDepth 20000 in
theorem gX6_canBeWashed_X7_at_n48 : GoodIn wsX6_canBeWashed (wsX7_at) := ggX6_canBeWashed_X7_at
set_option maxRecDepth 20000 in
theorem ggX6_canBeWashed_X7_isIn : GoodIn wsX6_canBeWashed wsX7_isIn := goodIn_r _ [6] (by decide +kernel) (by decide +kernel)
set_option maxRecDepth 20000 in
theorem gX6_canBeWashed_X7_isIn_n65 : GoodIn wsX6_canBeWashed (wsX7_isIn) := ggX6_canBeWashed_X7_isIn
theorem dX6_canBeWashed_0 : decode cX6_canBeWashed 0 = .ok (.getstatic 62, 3) := by decide +kernel
theorem dX6_canBeWashed_3 : decode cX6_canBeWashed 3 = .ok (.aload_n 0, 1) := by decide +kernel
theorem dX6_canBeWashed_4 : decode cX6_canBeWashed 4 = .ok (.getfield 18, 3) := by decide +kernel
theorem dX6_canBeWashed_7 : decode cX6_canBeWashed 7 = .ok (.iload_n 1, 1) := by decide +kernel
theorem dX6_canBeWashed_8 : decode cX6_canBeWashed 8 = .ok (.invokestatic 48, 3) := by decide +kernel
theorem dX6_canBeWashed_11 : decode cX6_canBeWashed 11 = .ok (.invokestatic 48, 3) := by decide +kernel
theorem dX6_canBeWashed_14 : decode cX6_canBeWashed 14 = .ok (.iload_n 2, 1) := by decide +kernel
theorem dX6_canBeWashed_15 : decode cX6_canBeWashed 15 = .ok (.invokestatic 65, 3) := by decide +kernel
theorem dX6_canBeWashed_18 : decode cX6_canBeWashed 18 = .ok (.ireturn, 1) := by decide +kernel
set_option maxRecDepth 20000 in
theorem ggX6_soil_X7_at : GoodIn wsX6_soil wsX7_at := goodIn_r _ [8] (by decide +kernel) (by decide +kernel)
set_option maxRecDepth 20000 in
theorem gX6_soil_X7_at_n48 : GoodIn wsX6_soil (wsX7_at) := ggX6_soil_X7_at
set_option maxRecDepth 20000 in
theorem ggX6_soil_X7_put : GoodIn wsX6_soil wsX7_put := goodIn_r _ [10] (by decide +kernel) (by decide +kernel)
set_option maxRecDepth 20000 in
theorem gX6_soil_X7_put_n44 : GoodIn wsX6_soil (wsX7_put) := ggX6_soil_X7_put
theorem dX6_soil_0 : decode cX6_soil 0 = .ok (.aload_n 0, 1) := by decide +kernel
theorem dX6_soil_1 : decode cX6_soil 1 = .ok (.getfield 24, 3) := by decide +kernel
theorem dX6_soil_4 : decode cX6_soil 4 = .ok (.iload_n 1, 1) := by decide +kernel
theorem dX6_soil_5 : decode cX6_soil 5 = .ok (.aload_n 0, 1) := by decide +kernel
theorem dX6_soil_6 : decode cX6_soil 6 = .ok (.getfield 24, 3) := by decide +kernel
theorem dX6_soil_9 : decode cX6_soil 9 = .ok (.iload_n 1, 1) := by decide +kernel
theorem dX6_soil_10 : decode cX6_soil 10 = .ok (.invokestatic 48, 3) := by decide +kernel
theorem dX6_soil_13 : decode cX6_soil 13 = .ok (.iload_n 2, 1) := by decide +kernel
theorem dX6_soil_14 : decode cX6_soil 14 = .ok (.iadd, 1) := by decide +kernel
theorem dX6_soil_15 : decode cX6_soil 15 = .ok (.bipush 9, 2) := by decide +kernel
theorem dX6_soil_17 : decode cX6_soil 17 = .ok (.invokestatic 69, 3) := by decide +kernel
theorem dX6_soil_20 : decode cX6_soil 20 = .ok (.invokestatic 44, 3) := by decide +kernel
theorem dX6_soil_23 : decode cX6_soil 23 = .ok (.return_, 1) := by decide +kernel
set_option maxRecDepth 20000 in
theorem ggX6_clean_X7_isIn : GoodIn wsX6_clean wsX7_isIn := goodIn_r _ [9] (by decide +kernel) (by decide +kernel)
set_option maxRecDepth 20000 in
theorem gX6_clean_X7_isIn_n65 : GoodIn wsX6_clean (wsX7_isIn) := ggX6_clean_X7_isIn
set_option maxRecDepth 20000 in
theorem ggX6_clean_X7_at : GoodIn wsX6_clean wsX7_at := goodIn_r _ [11] (by decide +kernel) (by decide +kernel)
set_option maxRecDepth 20000 in
theorem gX6_clean_X7_at_n48 : GoodIn wsX6_clean (wsX7_at) := ggX6_clean_X7_at
set_option maxRecDepth 20000 in
theorem ggX6_clean_X7_put : GoodIn wsX6_clean wsX7_put := goodIn_r _ [13] (by decide +kernel) (by decide +kernel)
set_option maxRecDepth 20000 in
theorem gX6_clean_X7_put_n44 : GoodIn wsX6_clean (wsX7_put) := ggX6_clean_X7_put
theorem dX6_clean_0 : decode cX6_clean 0 = .ok (.iconst 0, 1) := by decide +kernel
theorem dX6_clean_1 : decode cX6_clean 1 = .ok (.istore_n 3, 1) := by decide +kernel
theorem dX6_clean_2 : decode cX6_clean 2 = .ok (.iconst 0, 1) := by decide +kernel
theorem dX6_clean_3 : decode cX6_clean 3 = .ok (.istore 4, 2) := by decide +kernel
theorem dX6_clean_5 : decode cX6_clean 5 = .ok (.iload 4, 2) := by decide +kernel
theorem dX6_clean_7 : decode cX6_clean 7 = .ok (.aload_n 0, 1) := by decide +kernel
theorem dX6_clean_8 : decode cX6_clean 8 = .ok (.getfield 36, 3) := by decide +kernel
theorem dX6_clean_11 : decode cX6_clean 11 = .ok (.if_icmp .ge 59, 3) := by decide +kernel
theorem dX6_clean_14 : decode cX6_clean 14 = .ok (.iload_n 1, 1) := by decide +kernel
theorem dX6_clean_15 : decode cX6_clean 15 = .ok (.iload 4, 2) := by decide +kernel
theorem dX6_clean_17 : decode cX6_clean 17 = .ok (.invokestatic 65, 3) := by decide +kernel
theorem dX6_clean_20 : decode cX6_clean 20 = .ok (.ifCond .eq 44, 3) := by decide +kernel
theorem dX6_clean_23 : decode cX6_clean 23 = .ok (.aload_n 0, 1) := by decide +kernel
theorem dX6_clean_24 : decode cX6_clean 24 = .ok (.getfield 24, 3) := by decide +kernel
theorem dX6_clean_27 : decode cX6_clean 27 = .ok (.iload 4, 2) := by decide +kernel
theorem dX6_clean_29 : decode cX6_clean 29 = .ok (.invokestatic 48, 3) := by decide +kernel
theorem dX6_clean_32 : decode cX6_clean 32 = .ok (.iload_n 2, 1) := by decide +kernel
theorem dX6_clean_33 : decode cX6_clean 33 = .ok (.invokestatic 69, 3) := by decide +kernel
theorem dX6_clean_36 : decode cX6_clean 36 = .ok (.istore 5, 2) := by decide +kernel
theorem dX6_clean_38 : decode cX6_clean 38 = .ok (.aload_n 0, 1) := by decide +kernel
theorem dX6_clean_39 : decode cX6_clean 39 = .ok (.getfield 24, 3) := by decide +kernel
theorem dX6_clean_42 : decode cX6_clean 42 = .ok (.iload 4, 2) := by decide +kernel
theorem dX6_clean_44 : decode cX6_clean 44 = .ok (.aload_n 0, 1) := by decide +kernel
theorem dX6_clean_45 : decode cX6_clean 45 = .ok (.getfield 24, 3) := by decide +kernel
theorem dX6_clean_48 : decode cX6_clean 48 = .ok (.iload 4, 2) := by decide +kernel
theorem dX6_clean_50 : decode cX6_clean 50 = .ok (.invokestatic 48, 3) := by decide +kernel
theorem dX6_clean_53 : decode cX6_clean 53 = .ok (.iload 5, 2) := by decide +kernel
theorem dX6_clean_55 : decode cX6_clean 55 = .ok (.isub, 1) := by decide +kernel
theorem dX6_clean_56 : decode cX6_clean 56 = .ok (.invokestatic 44, 3) := by decide +kernel
theorem dX6_clean_59 : decode cX6_clean 59 = .ok (.iload_n 3, 1) := by decide +kernel
theorem dX6_clean_60 : decode cX6_clean 60 = .ok (.iload 5, 2) := by decide +kernel
theorem dX6_clean_62 : decode cX6_clean 62 = .ok (.iadd, 1) := by decide +kernel
theorem dX6_clean_63 : decode cX6_clean 63 = .ok (.istore_n 3, 1) := by decide +kernel
theorem dX6_clean_64 : decode cX6_clean 64 = .ok (.iinc 4 1, 3) := by decide +kernel
theorem dX6_clean_67 : decode cX6_clean 67 = .ok (.goto (-62), 3) := by decide +kernel
theorem dX6_clean_70 : decode cX6_clean 70 = .ok (.iload_n 3, 1) := by decide +kernel
theorem dX6_clean_71 : decode cX6_clean 71 = .ok (.ireturn, 1) := by decide +kernel
set_option maxRecDepth 20000 in
theorem ggX7_init_X4_init : GoodIn wsX7_init wsX4_init := goodIn_r _ [21, 22, 2, 3, 23, 24, 25, 26, 27, 28, 29, 30, 31, 32, 33, 34, 35, 36, 37, 38, 39, 40, 41, 42, 43, 44, 45, 46, 47, 48, 49, 50, 51, 52, 53, 54, 55, 56, 57, 58, 59, 60, 103, 104, 105, 106, 107, 108, 109, 110, 111, 77, 78, 79, 80, 81, 82, 83, 84, 85, 112, 113, 114, 115, 116, 117, 118, 119, 120] (by decide +kernel) (by decide +kernel)
set_option maxRecDepth 20000 in
theorem gX7_init_X4_init_n9 : GoodIn wsX7_init (wsX4_init) := ggX7_init_X4_init
set_option maxRecDepth 20000 in
theorem ggX7_init_X2_init : GoodIn wsX7_init wsX2_init := goodIn_r _ [63, 64, 2, 3, 65, 66, 5, 6, 20, 21, 22, 23, 24, 25, 26, 27, 28, 29, 30, 31, 32, 33, 34, 35, 36, 37, 38, 39, 40, 41, 42, 43, 44, 45, 46, 47, 48, 49, 50, 51, 52, 53, 54, 55, 56, 57, 58, 59, 60, 90, 91, 92, 77, 78, 79, 80, 81, 82, 83, 84, 85, 103, 104, 105, 106, 107, 108, 109, 110, 111, 112, 113, 114, 115, 116, 117, 118, 119, 120] (by decide +kernel) (by decide +kernel)
set_option maxRecDepth 20000 in
theorem gX7_init_X2_init : GoodIn wsX7_init (wsX2_init) := ggX7_init_X2_init
set_option maxRecDepth 20000 in
theorem ggX7_init_X5_init : GoodIn wsX7_init wsX5_init := goodIn_r _ [68, 69, 2, 3, 35, 70, 93, 94] (by decide +kernel) (by decide +kernel)
set_option maxRecDepth 20000 in
theorem gX7_init_X5_init_n25 : GoodIn wsX7_init (wsX5_init) := ggX7_init_X5_init
set_option maxRecDepth 20000 in
theorem ggX7_init_X3_init : GoodIn wsX7_init wsX3_init := goodIn_r _ [73, 74, 2, 3, 75, 35, 76, 95, 96, 97, 98, 99, 100, 101, 102] (by decide +kernel) (by decide +kernel)
set_option maxRecDepth 20000 in
theorem gX7_init_X3_init : GoodIn wsX7_init (wsX3_init) := ggX7_init_X3_init
theorem dX7_init_0 : decode cX7_init 0 = .ok (.aload_n 0, 1) := by decide +kernel
theorem dX7_init_1 : decode cX7_init 1 = .ok (.invokespecial 1, 3) := by decide +kernel
theorem dX7_init_4 : decode cX7_init 4 = .ok (.aload_n 0, 1) := by decide +kernel
theorem dX7_init_5 : decode cX7_init 5 = .ok (.new 7, 3) := by decide +kernel
theorem dX7_init_8 : decode cX7_init 8 = .ok (.dup, 1) := by decide +kernel
theorem dX7_init_9 : decode cX7_init 9 = .ok (.invokespecial 9, 3) := by decide +kernel
theorem dX7_init_12 : decode cX7_init 12 = .ok (.putfield 10, 3) := by decide +kernel
theorem dX7_init_15 : decode cX7_init 15 = .ok (.aload_n 0, 1) := by decide +kernel
theorem dX7_init_16 : decode cX7_init 16 = .ok (.new 16, 3) := by decide +kernel
theorem dX7_init_19 : decode cX7_init 19 = .ok (.dup, 1) := by decide +kernel
theorem dX7_init_20 : decode cX7_init 20 = .ok (.invokespecial 18, 3) := by decide +kernel
theorem dX7_init_23 : decode cX7_init 23 = .ok (.putfield 19, 3) := by decide +kernel
theorem dX7_init_26 : decode cX7_init 26 = .ok (.aload_n 0, 1) := by decide +kernel
theorem dX7_init_27 : decode cX7_init 27 = .ok (.new 23, 3) := by decide +kernel
theorem dX7_init_30 : decode cX7_init 30 = .ok (.dup, 1) := by decide +kernel
theorem dX7_init_31 : decode cX7_init 31 = .ok (.invokespecial 25, 3) := by decide +kernel
theorem dX7_init_34 : decode cX7_init 34 = .ok (.putfield 26, 3) := by decide +kernel
theorem dX7_init_37 : decode cX7_init 37 = .ok (.aload_n 0, 1) := by decide +kernel
theorem dX7_init_38 : decode cX7_init 38 = .ok (.new 30, 3) := by decide +kernel
theorem dX7_init_41 : decode cX7_init 41 = .ok (.dup, 1) := by decide +kernel
theorem dX7_init_42 : decode cX7_init 42 = .ok (.aload_n 0, 1) := by decide +kernel
theorem dX7_init_43 : decode cX7_init 43 = .ok (.getfield 26, 3) := by decide +kernel
theorem dX7_init_46 : decode cX7_init 46 = .ok (.invokespecial 32, 3) := by decide +kernel
theorem dX7_init_49 : decode cX7_init 49 = .ok (.putfield 35, 3) := by decide +kernel
theorem dX7_init_52 : decode cX7_init 52 = .ok (.return_, 1) := by decide +kernel
set_option maxRecDepth 20000 in
theorem ggX7_addCostume_X7_areMeasures : GoodIn wsX7_addCostume wsX7_areMeasures := goodIn_r _ [8, 9, 10, 7, 11] (by decide +kernel) (by decide +kernel)
set_option maxRecDepth 20000 in
theorem gX7_addCostume_X7_areMeasures : GoodIn wsX7_addCostume (va_wsS RX7 39 yX7_areMeasures wsX7_areMeasures) := goodIn_app (goodIn_of _ (by decide +kernel)) ggX7_addCostume_X7_areMeasures
set_option maxRecDepth 20000 in
theorem ggX7_addCostume_X7_isWithin : GoodIn wsX7_addCostume wsX7_isWithin := goodIn_r _ [11] (by decide +kernel) (by decide +kernel)
set_option maxRecDepth 20000 in
theorem gX7_addCostume_X7_isWithin : GoodIn wsX7_addCostume (va_wsS RX7 43 yX7_isWithin wsX7_isWithin) := goodIn_app (goodIn_of _ (by decide +kernel)) ggX7_addCostume_X7_isWithin
set_option maxRecDepth 20000 in
theorem ggX7_addCostume_X2_remember : GoodIn wsX7_addCostume wsX2_remember := goodIn_r _ [16, 17, 18, 19, 20, 21, 22, 23, 24, 25, 15, 26, 27, 28, 29, 30, 31, 32, 33, 34, 35, 36, 37, 38, 39, 40, 41, 42, 43, 44, 45, 46, 47, 48, 49, 50, 51, 52, 53, 54, 55, 56, 7, 57, 58, 59, 60, 61, 62, 63, 64, 65, 66, 67, 68, 69, 70, 71, 72, 73, 74, 75, 76, 77, 78, 79, 80, 81, 110, 111, 112, 92, 93, 94, 95, 96, 97, 98, 99, 100, 101, 102, 103, 104, 105, 106, 107, 108, 109, 113, 114, 115, 116, 117, 118, 119, 120, 121] (by decide +kernel) (by decide +kernel)
set_option maxRecDepth 20000 in
theorem gX7_addCostume_X2_remember : GoodIn wsX7_addCostume (wsV RX7 56 RX2 yX2_remember wsX2_remember) := goodIn_app (goodIn_of _ (by decide +kernel)) ggX7_addCostume_X2_remember
set_option maxRecDepth 20000 in
theorem ggX7_addCostume_X6_add : GoodIn wsX7_addCostume wsX6_add := goodIn_r _ [85, 47, 48, 49, 50, 51, 52, 53, 86, 7, 87, 101, 102, 103, 104, 105, 106, 107, 108, 109] (by decide +kernel) (by decide +kernel)
set_option maxRecDepth 20000 in
theorem gX7_addCostume_X6_add : GoodIn wsX7_addCostume (wsV RX7 60 RX6 yX6_add wsX6_add) := goodIn_app (goodIn_of _ (by decide +kernel)) ggX7_addCostume_X6_add
theorem dX7_addCostume_0 : decode cX7_addCostume 0 = .ok (.iload_n 1, 1) := by decide +kernel
theorem dX7_addCostume_1 : decode cX7_addCostume 1 = .ok (.iload_n 2, 1) := by decide +kernel
theorem dX7_addCostume_2 : decode cX7_addCostume 2 = .ok (.iload_n 3, 1) := by decide +kernel
theorem dX7_addCostume_3 : decode cX7_addCostume 3 = .ok (.invokestatic 39, 3) := by decide +kernel
theorem dX7_addCostume_6 : decode cX7_addCostume 6 = .ok (.ifCond .eq 24, 3) := by decide +kernel
theorem dX7_addCostume_9 : decode cX7_addCostume 9 = .ok (.iload 4, 2) := by decide +kernel
theorem dX7_addCostume_11 : decode cX7_addCostume 11 = .ok (.iconst 0, 1) := by decide +kernel
theorem dX7_addCostume_12 : decode cX7_addCostume 12 = .ok (.bipush 8, 2) := by decide +kernel
theorem dX7_addCostume_14 : decode cX7_addCostume 14 = .ok (.invokestatic 43, 3) := by decide +kernel
theorem dX7_addCostume_17 : decode cX7_addCostume 17 = .ok (.ifCond .eq 13, 3) := by decide +kernel
theorem dX7_addCostume_20 : decode cX7_addCostume 20 = .ok (.iload 5, 2) := by decide +kernel
theorem dX7_addCostume_22 : decode cX7_addCostume 22 = .ok (.iconst 0, 1) := by decide +kernel
theorem dX7_addCostume_23 : decode cX7_addCostume 23 = .ok (.iconst 3, 1) := by decide +kernel
theorem dX7_addCostume_24 : decode cX7_addCostume 24 = .ok (.invokestatic 43, 3) := by decide +kernel
theorem dX7_addCostume_27 : decode cX7_addCostume 27 = .ok (.ifCond .ne 7, 3) := by decide +kernel
theorem dX7_addCostume_30 : decode cX7_addCostume 30 = .ok (.sipush (-2001), 3) := by decide +kernel
theorem dX7_addCostume_33 : decode cX7_addCostume 33 = .ok (.ireturn, 1) := by decide +kernel
theorem dX7_addCostume_34 : decode cX7_addCostume 34 = .ok (.aload_n 0, 1) := by decide +kernel
theorem dX7_addCostume_35 : decode cX7_addCostume 35 = .ok (.getfield 10, 3) := by decide +kernel
theorem dX7_addCostume_38 : decode cX7_addCostume 38 = .ok (.getfield 46, 3) := by decide +kernel
theorem dX7_addCostume_41 : decode cX7_addCostume 41 = .ok (.getfield 50, 3) := by decide +kernel
theorem dX7_addCostume_44 : decode cX7_addCostume 44 = .ok (.bipush 16, 2) := by decide +kernel
theorem dX7_addCostume_46 : decode cX7_addCostume 46 = .ok (.if_icmp .lt 7, 3) := by decide +kernel
theorem dX7_addCostume_49 : decode cX7_addCostume 49 = .ok (.sipush (-2003), 3) := by decide +kernel
theorem dX7_addCostume_52 : decode cX7_addCostume 52 = .ok (.ireturn, 1) := by decide +kernel
theorem dX7_addCostume_53 : decode cX7_addCostume 53 = .ok (.aload_n 0, 1) := by decide +kernel
theorem dX7_addCostume_54 : decode cX7_addCostume 54 = .ok (.getfield 19, 3) := by decide +kernel
theorem dX7_addCostume_57 : decode cX7_addCostume 57 = .ok (.aload_n 0, 1) := by decide +kernel
theorem dX7_addCostume_58 : decode cX7_addCostume 58 = .ok (.getfield 10, 3) := by decide +kernel
