def wsX7_falsely_r2 : List Cond := [Cond.code yX7_noRow cX7_noRow 2 (some .int), Cond.fieldLink RX7 7 "OnlyUnseenModel" "shelf" "[I", Cond.methodLink RX7 304 yX7_isSaying, Cond.instanceMethod yX7_isSaying, Cond.selects RX7 yX7_isSaying yX7_isSaying, Cond.code yX7_isSaying cX7_isSaying 3 (some .boolean), Cond.constantLong RX7 296 (10), Cond.fieldLink RX7 77 "OnlyUnseenModel" "people" "I", Cond.fieldLink RX7 37 "OnlyUnseenModel" "sights" "I", Cond.methodLink RX7 124 yX7_barredBy, Cond.instanceMethod yX7_barredBy, Cond.selects RX7 yX7_barredBy yX7_barredBy, Cond.code yX7_barredBy cX7_barredBy 2 (some .int), Cond.fieldLink RX7 59 "OnlyUnseenModel" "asked" "[I", Cond.fieldLink RX7 47 "OnlyUnseenModel" "seen" "[I", Cond.fieldLink RX7 50 "OnlyUnseenModel" "half" "[I", Cond.methodLink RX7 84 yX7_has, Cond.static yX7_has, Cond.code yX7_has cX7_has 2 (some .boolean)]
def wsX7_falsely : List Cond := .code yX7_falsely cX7_falsely 7 (some .int) :: ((wsX7_falsely_r1 ++ wsX7_falsely_r2) ++ wsX70)
def wsX7_silent : List Cond := .code yX7_silent cX7_silent 10 (some .int) :: ([.fieldLink RX7 77 "OnlyUnseenModel" "people" "I", .fieldLink RX7 21 "OnlyUnseenModel" "rows" "[[J", .fieldLink RX7 56 "OnlyUnseenModel" "hears" "[I", .methodLink RX7 84 yX7_has, .static yX7_has, .initialized RX7, .code yX7_has cX7_has 2 (some .boolean)] ++ wsX70)
def wsX7_barred_r1 : List Cond := [Cond.methodLink RX7 138 yX7_isSight, Cond.instanceMethod yX7_isSight, Cond.selects RX7 yX7_isSight yX7_isSight, Cond.initialized RX7, Cond.code yX7_isSight cX7_isSight 2 (some .boolean), Cond.fieldLink RX7 37 "OnlyUnseenModel" "sights" "I", Cond.methodLink RX7 80 yX7_in, Cond.static yX7_in, Cond.code yX7_in cX7_in 6 (some .boolean), Cond.methodLink RX7 286 yX7_barredOf, Cond.instanceMethod yX7_barredOf, Cond.selects RX7 yX7_barredOf yX7_barredOf, Cond.code yX7_barredOf cX7_barredOf 4 (some .int), Cond.fieldLink RX7 77 "OnlyUnseenModel" "people" "I", Cond.methodLink RX7 124 yX7_barredBy, Cond.instanceMethod yX7_barredBy, Cond.selects RX7 yX7_barredBy yX7_barredBy, Cond.code yX7_barredBy cX7_barredBy 2 (some .int), Cond.fieldLink RX7 59 "OnlyUnseenModel" "asked" "[I", Cond.fieldLink RX7 47 "OnlyUnseenModel" "seen" "[I", Cond.fieldLink RX7 50 "OnlyUnseenModel" "half" "[I", Cond.methodLink RX7 84 yX7_has, Cond.static yX7_has, Cond.code yX7_has cX7_has 2 (some .boolean)]
def wsX7_barred_r2 : List Cond := [Cond.methodLink RX7 94 yX7_refuse, Cond.instanceMethod yX7_refuse, Cond.selects RX7 yX7_refuse yX7_refuse, Cond.code yX7_refuse cX7_refuse 2 (some .int), Cond.fieldLink RX7 34 "OnlyUnseenModel" "refused" "[I"]
def wsX7_barred : List Cond := .code yX7_barred cX7_barred 2 (some .int) :: ((wsX7_barred_r1 ++ wsX7_barred_r2) ++ wsX70)
def wsX7_surely_r1 : List Cond := [Cond.methodLink RX7 138 yX7_isSight, Cond.instanceMethod yX7_isSight, Cond.selects RX7 yX7_isSight yX7_isSight, Cond.initialized RX7, Cond.code yX7_isSight cX7_isSight 2 (some .boolean), Cond.fieldLink RX7 37 "OnlyUnseenModel" "sights" "I", Cond.methodLink RX7 80 yX7_in, Cond.static yX7_in, Cond.code yX7_in cX7_in 6 (some .boolean), Cond.methodLink RX7 94 yX7_refuse, Cond.instanceMethod yX7_refuse, Cond.selects RX7 yX7_refuse yX7_refuse, Cond.code yX7_refuse cX7_refuse 2 (some .int), Cond.fieldLink RX7 34 "OnlyUnseenModel" "refused" "[I", Cond.methodLink RX7 315 yX7_noSayings, Cond.instanceMethod yX7_noSayings, Cond.selects RX7 yX7_noSayings yX7_noSayings, Cond.code yX7_noSayings cX7_noSayings 5 (some .int), Cond.fieldLink RX7 21 "OnlyUnseenModel" "rows" "[[J", Cond.methodLink RX7 308 yX7_noEvening, Cond.instanceMethod yX7_noEvening, Cond.selects RX7 yX7_noEvening yX7_noEvening, Cond.code yX7_noEvening cX7_noEvening 4 (some .int), Cond.constantLong RX7 88 (7)]
def wsX7_surely_r2 : List Cond := [Cond.constantLong RX7 92 (40), Cond.fieldLink RX7 16 "OnlyUnseenModel" "rowSize" "[I", Cond.methodLink RX7 98 yX7_noRow, Cond.instanceMethod yX7_noRow, Cond.selects RX7 yX7_noRow yX7_noRow, Cond.code yX7_noRow cX7_noRow 2 (some .int), Cond.fieldLink RX7 7 "OnlyUnseenModel" "shelf" "[I", Cond.methodLink RX7 304 yX7_isSaying, Cond.instanceMethod yX7_isSaying, Cond.selects RX7 yX7_isSaying yX7_isSaying, Cond.code yX7_isSaying cX7_isSaying 3 (some .boolean), Cond.constantLong RX7 296 (10), Cond.fieldLink RX7 77 "OnlyUnseenModel" "people" "I", Cond.methodLink RX7 318 yX7_silent, Cond.instanceMethod yX7_silent, Cond.selects RX7 yX7_silent yX7_silent, Cond.code yX7_silent cX7_silent 10 (some .int), Cond.fieldLink RX7 56 "OnlyUnseenModel" "hears" "[I", Cond.methodLink RX7 84 yX7_has, Cond.static yX7_has, Cond.code yX7_has cX7_has 2 (some .boolean), Cond.methodLink RX7 286 yX7_barredOf, Cond.instanceMethod yX7_barredOf, Cond.selects RX7 yX7_barredOf yX7_barredOf]
def wsX7_surely_r3 : List Cond := [Cond.code yX7_barredOf cX7_barredOf 4 (some .int), Cond.methodLink RX7 124 yX7_barredBy, Cond.instanceMethod yX7_barredBy, Cond.selects RX7 yX7_barredBy yX7_barredBy, Cond.code yX7_barredBy cX7_barredBy 2 (some .int), Cond.fieldLink RX7 59 "OnlyUnseenModel" "asked" "[I", Cond.fieldLink RX7 47 "OnlyUnseenModel" "seen" "[I", Cond.fieldLink RX7 50 "OnlyUnseenModel" "half" "[I"]
def wsX7_surely : List Cond := .code yX7_surely cX7_surely 5 (some .int) :: ((wsX7_surely_r1 ++ (wsX7_surely_r2 ++ wsX7_surely_r3)) ++ wsX70)
def wsX7_free_r1 : List Cond := [Cond.fieldLink RX7 21 "OnlyUnseenModel" "rows" "[[J", Cond.methodLink RX7 138 yX7_isSight, Cond.instanceMethod yX7_isSight, Cond.selects RX7 yX7_isSight yX7_isSight, Cond.initialized RX7, Cond.code yX7_isSight cX7_isSight 2 (some .boolean), Cond.fieldLink RX7 37 "OnlyUnseenModel" "sights" "I", Cond.methodLink RX7 80 yX7_in, Cond.static yX7_in, Cond.code yX7_in cX7_in 6 (some .boolean), Cond.methodLink RX7 94 yX7_refuse, Cond.instanceMethod yX7_refuse, Cond.selects RX7 yX7_refuse yX7_refuse, Cond.code yX7_refuse cX7_refuse 2 (some .int), Cond.fieldLink RX7 34 "OnlyUnseenModel" "refused" "[I", Cond.methodLink RX7 315 yX7_noSayings, Cond.instanceMethod yX7_noSayings, Cond.selects RX7 yX7_noSayings yX7_noSayings, Cond.code yX7_noSayings cX7_noSayings 5 (some .int), Cond.methodLink RX7 308 yX7_noEvening, Cond.instanceMethod yX7_noEvening, Cond.selects RX7 yX7_noEvening yX7_noEvening, Cond.code yX7_noEvening cX7_noEvening 4 (some .int), Cond.constantLong RX7 88 (7)]
def wsX7_free_r2 : List Cond := [Cond.constantLong RX7 92 (40), Cond.fieldLink RX7 16 "OnlyUnseenModel" "rowSize" "[I", Cond.methodLink RX7 98 yX7_noRow, Cond.instanceMethod yX7_noRow, Cond.selects RX7 yX7_noRow yX7_noRow, Cond.code yX7_noRow cX7_noRow 2 (some .int), Cond.fieldLink RX7 7 "OnlyUnseenModel" "shelf" "[I", Cond.methodLink RX7 304 yX7_isSaying, Cond.instanceMethod yX7_isSaying, Cond.selects RX7 yX7_isSaying yX7_isSaying, Cond.code yX7_isSaying cX7_isSaying 3 (some .boolean), Cond.constantLong RX7 296 (10), Cond.fieldLink RX7 77 "OnlyUnseenModel" "people" "I", Cond.methodLink RX7 236 yX7_fresh, Cond.instanceMethod yX7_fresh, Cond.selects RX7 yX7_fresh yX7_fresh, Cond.code yX7_fresh cX7_fresh 1 (some (.object "OnlyUnseenModel")), Cond.fieldLink RX7 329 "OnlyUnseenModel" "tried" "LOnlyUnseenModel;", Cond.classLink RX7 8 RX7, Cond.instantiable RX7 33, Cond.methodLink RX7 333 yX7_init, Cond.instanceMethod yX7_init, Cond.code yX7_init cX7_init 1 none, Cond.methodLink RX7 1 objectInit]
def wsX7_free_r3 : List Cond := [Cond.instanceMethod objectInit, Cond.code objectInit ⟨#[0xb1]⟩ 1 none, Cond.arrayClass .int, Cond.fieldLink RX7 13 "OnlyUnseenModel" "rowSort" "[I", Cond.classLink RX7 19 "[[J", Cond.arrayClass .long, Cond.fieldLink RX7 24 "OnlyUnseenModel" "moved" "[J", Cond.fieldLink RX7 28 "OnlyUnseenModel" "shown" "[I", Cond.fieldLink RX7 31 "OnlyUnseenModel" "tape" "[I", Cond.fieldLink RX7 41 "OnlyUnseenModel" "kind" "[I", Cond.fieldLink RX7 44 "OnlyUnseenModel" "by" "[I", Cond.fieldLink RX7 47 "OnlyUnseenModel" "seen" "[I", Cond.fieldLink RX7 50 "OnlyUnseenModel" "half" "[I", Cond.fieldLink RX7 53 "OnlyUnseenModel" "heard" "[I", Cond.fieldLink RX7 56 "OnlyUnseenModel" "hears" "[I", Cond.fieldLink RX7 59 "OnlyUnseenModel" "asked" "[I", Cond.fieldLink RX7 62 "OnlyUnseenModel" "seed" "I", Cond.fieldLink RX7 65 "OnlyUnseenModel" "told" "[I", Cond.fieldLink RX7 68 "OnlyUnseenModel" "said" "[I", Cond.fieldLink RX7 71 "OnlyUnseenModel" "row" "[I", Cond.fieldLink RX7 74 "OnlyUnseenModel" "bestRow" "[I", Cond.methodLink RX7 243 yX7_takeFrom, Cond.instanceMethod yX7_takeFrom, Cond.selects RX7 yX7_takeFrom yX7_takeFrom]
def wsX7_free_r4 : List Cond := [Cond.code yX7_takeFrom cX7_takeFrom 2 none, Cond.fieldLink RX7 326 "OnlyUnseenModel" "evenings" "I", Cond.methodLink RX7 334 yX7_over, Cond.static yX7_over, Cond.code yX7_over cX7_over 3 none, Cond.methodLink RX7 253 yX7_isSaid, Cond.instanceMethod yX7_isSaid, Cond.selects RX7 yX7_isSaid yX7_isSaid, Cond.code yX7_isSaid cX7_isSaid 5 (some .int), Cond.methodLink RX7 84 yX7_has, Cond.static yX7_has, Cond.code yX7_has cX7_has 2 (some .boolean), Cond.methodLink RX7 117 yX7_bits, Cond.static yX7_bits, Cond.code yX7_bits cX7_bits 3 (some .int), Cond.methodLink RX7 318 yX7_silent, Cond.instanceMethod yX7_silent, Cond.selects RX7 yX7_silent yX7_silent, Cond.code yX7_silent cX7_silent 10 (some .int), Cond.methodLink RX7 286 yX7_barredOf, Cond.instanceMethod yX7_barredOf, Cond.selects RX7 yX7_barredOf yX7_barredOf, Cond.code yX7_barredOf cX7_barredOf 4 (some .int), Cond.methodLink RX7 124 yX7_barredBy]
def wsX7_free_r5 : List Cond := [Cond.instanceMethod yX7_barredBy, Cond.selects RX7 yX7_barredBy yX7_barredBy, Cond.code yX7_barredBy cX7_barredBy 2 (some .int), Cond.methodLink RX7 250 yX7_mouthsOf, Cond.instanceMethod yX7_mouthsOf, Cond.selects RX7 yX7_mouthsOf yX7_mouthsOf, Cond.code yX7_mouthsOf cX7_mouthsOf 4 (some .int), Cond.methodLink RX7 114 yX7_mayOf, Cond.instanceMethod yX7_mayOf, Cond.selects RX7 yX7_mayOf yX7_mayOf, Cond.code yX7_mayOf cX7_mayOf 6 (some .int), Cond.methodLink RX7 120 yX7_allSights, Cond.instanceMethod yX7_allSights, Cond.selects RX7 yX7_allSights yX7_allSights, Cond.code yX7_allSights cX7_allSights 1 (some .int)]
def wsX7_free : List Cond := .code yX7_free cX7_free 8 (some .int) :: ((wsX7_free_r1 ++ (wsX7_free_r2 ++ (wsX7_free_r3 ++ (wsX7_free_r4 ++ wsX7_free_r5)))) ++ wsX70)
def wsX7_evening_r1 : List Cond := [Cond.fieldLink RX7 21 "OnlyUnseenModel" "rows" "[[J", Cond.methodLink RX7 308 yX7_noEvening, Cond.instanceMethod yX7_noEvening, Cond.selects RX7 yX7_noEvening yX7_noEvening, Cond.initialized RX7, Cond.code yX7_noEvening cX7_noEvening 4 (some .int), Cond.constantLong RX7 88 (7), Cond.constantLong RX7 92 (40), Cond.fieldLink RX7 16 "OnlyUnseenModel" "rowSize" "[I", Cond.methodLink RX7 80 yX7_in, Cond.static yX7_in, Cond.code yX7_in cX7_in 6 (some .boolean), Cond.methodLink RX7 94 yX7_refuse, Cond.instanceMethod yX7_refuse, Cond.selects RX7 yX7_refuse yX7_refuse, Cond.code yX7_refuse cX7_refuse 2 (some .int), Cond.fieldLink RX7 34 "OnlyUnseenModel" "refused" "[I", Cond.methodLink RX7 98 yX7_noRow, Cond.instanceMethod yX7_noRow, Cond.selects RX7 yX7_noRow yX7_noRow, Cond.code yX7_noRow cX7_noRow 2 (some .int), Cond.fieldLink RX7 7 "OnlyUnseenModel" "shelf" "[I", Cond.methodLink RX7 236 yX7_fresh, Cond.instanceMethod yX7_fresh]
def wsX7_evening_r2 : List Cond := [Cond.selects RX7 yX7_fresh yX7_fresh, Cond.code yX7_fresh cX7_fresh 1 (some (.object "OnlyUnseenModel")), Cond.fieldLink RX7 329 "OnlyUnseenModel" "tried" "LOnlyUnseenModel;", Cond.classLink RX7 8 RX7, Cond.instantiable RX7 33, Cond.methodLink RX7 333 yX7_init, Cond.instanceMethod yX7_init, Cond.code yX7_init cX7_init 1 none, Cond.methodLink RX7 1 objectInit, Cond.instanceMethod objectInit, Cond.code objectInit ⟨#[0xb1]⟩ 1 none, Cond.arrayClass .int, Cond.fieldLink RX7 13 "OnlyUnseenModel" "rowSort" "[I", Cond.classLink RX7 19 "[[J", Cond.arrayClass .long, Cond.fieldLink RX7 24 "OnlyUnseenModel" "moved" "[J", Cond.fieldLink RX7 28 "OnlyUnseenModel" "shown" "[I", Cond.fieldLink RX7 31 "OnlyUnseenModel" "tape" "[I", Cond.fieldLink RX7 37 "OnlyUnseenModel" "sights" "I", Cond.fieldLink RX7 41 "OnlyUnseenModel" "kind" "[I", Cond.fieldLink RX7 44 "OnlyUnseenModel" "by" "[I", Cond.fieldLink RX7 47 "OnlyUnseenModel" "seen" "[I", Cond.fieldLink RX7 50 "OnlyUnseenModel" "half" "[I", Cond.fieldLink RX7 53 "OnlyUnseenModel" "heard" "[I"]
def wsX7_evening_r3 : List Cond := [Cond.fieldLink RX7 56 "OnlyUnseenModel" "hears" "[I", Cond.fieldLink RX7 59 "OnlyUnseenModel" "asked" "[I", Cond.fieldLink RX7 62 "OnlyUnseenModel" "seed" "I", Cond.fieldLink RX7 65 "OnlyUnseenModel" "told" "[I", Cond.fieldLink RX7 68 "OnlyUnseenModel" "said" "[I", Cond.fieldLink RX7 71 "OnlyUnseenModel" "row" "[I", Cond.fieldLink RX7 74 "OnlyUnseenModel" "bestRow" "[I", Cond.methodLink RX7 243 yX7_takeFrom, Cond.instanceMethod yX7_takeFrom, Cond.selects RX7 yX7_takeFrom yX7_takeFrom, Cond.code yX7_takeFrom cX7_takeFrom 2 none, Cond.fieldLink RX7 77 "OnlyUnseenModel" "people" "I", Cond.fieldLink RX7 326 "OnlyUnseenModel" "evenings" "I", Cond.methodLink RX7 334 yX7_over, Cond.static yX7_over, Cond.code yX7_over cX7_over 3 none, Cond.methodLink RX7 311 yX7_goesBy, Cond.instanceMethod yX7_goesBy, Cond.selects RX7 yX7_goesBy yX7_goesBy, Cond.code yX7_goesBy cX7_goesBy 4 (some .int), Cond.constantLong RX7 296 (10), Cond.methodLink RX7 304 yX7_isSaying, Cond.instanceMethod yX7_isSaying, Cond.selects RX7 yX7_isSaying yX7_isSaying]
def wsX7_evening_r4 : List Cond := [Cond.code yX7_isSaying cX7_isSaying 3 (some .boolean), Cond.methodLink RX7 114 yX7_mayOf, Cond.instanceMethod yX7_mayOf, Cond.selects RX7 yX7_mayOf yX7_mayOf, Cond.code yX7_mayOf cX7_mayOf 6 (some .int), Cond.methodLink RX7 124 yX7_barredBy, Cond.instanceMethod yX7_barredBy, Cond.selects RX7 yX7_barredBy yX7_barredBy, Cond.code yX7_barredBy cX7_barredBy 2 (some .int), Cond.methodLink RX7 120 yX7_allSights, Cond.instanceMethod yX7_allSights, Cond.selects RX7 yX7_allSights yX7_allSights, Cond.code yX7_allSights cX7_allSights 1 (some .int), Cond.methodLink RX7 84 yX7_has, Cond.static yX7_has, Cond.code yX7_has cX7_has 2 (some .boolean), Cond.methodLink RX7 253 yX7_isSaid, Cond.instanceMethod yX7_isSaid, Cond.selects RX7 yX7_isSaid yX7_isSaid, Cond.code yX7_isSaid cX7_isSaid 5 (some .int), Cond.methodLink RX7 117 yX7_bits, Cond.static yX7_bits, Cond.code yX7_bits cX7_bits 3 (some .int), Cond.methodLink RX7 257 yX7_knownNow]
def wsX7_evening_r5 : List Cond := [Cond.instanceMethod yX7_knownNow, Cond.selects RX7 yX7_knownNow yX7_knownNow, Cond.code yX7_knownNow cX7_knownNow 3 (some .int), Cond.methodLink RX7 247 yX7_knows, Cond.instanceMethod yX7_knows, Cond.selects RX7 yX7_knows yX7_knows, Cond.code yX7_knows cX7_knows 2 (some .int)]
def wsX7_evening : List Cond := .code yX7_evening cX7_evening 4 (some .int) :: ((wsX7_evening_r1 ++ (wsX7_evening_r2 ++ (wsX7_evening_r3 ++ (wsX7_evening_r4 ++ wsX7_evening_r5)))) ++ wsX70)
def wsX7_below : List Cond := .code yX7_below cX7_below 2 (some .int) :: ([.fieldLink RX7 62 "OnlyUnseenModel" "seed" "I", .constant RX7 322 (1103515245)] ++ wsX70)
def wsX7_talk_r1 : List Cond := [Cond.constantLong RX7 92 (40), Cond.fieldLink RX7 77 "OnlyUnseenModel" "people" "I", Cond.fieldLink RX7 37 "OnlyUnseenModel" "sights" "I", Cond.methodLink RX7 80 yX7_in, Cond.static yX7_in, Cond.initialized RX7, Cond.code yX7_in cX7_in 6 (some .boolean), Cond.methodLink RX7 94 yX7_refuse, Cond.instanceMethod yX7_refuse, Cond.selects RX7 yX7_refuse yX7_refuse, Cond.code yX7_refuse cX7_refuse 2 (some .int), Cond.fieldLink RX7 34 "OnlyUnseenModel" "refused" "[I", Cond.methodLink RX7 323 yX7_below, Cond.instanceMethod yX7_below, Cond.selects RX7 yX7_below yX7_below, Cond.code yX7_below cX7_below 2 (some .int), Cond.fieldLink RX7 62 "OnlyUnseenModel" "seed" "I", Cond.constant RX7 322 (1103515245), Cond.methodLink RX7 114 yX7_mayOf, Cond.instanceMethod yX7_mayOf, Cond.selects RX7 yX7_mayOf yX7_mayOf, Cond.code yX7_mayOf cX7_mayOf 6 (some .int), Cond.fieldLink RX7 41 "OnlyUnseenModel" "kind" "[I", Cond.fieldLink RX7 53 "OnlyUnseenModel" "heard" "[I"]
def wsX7_talk_r2 : List Cond := [Cond.fieldLink RX7 56 "OnlyUnseenModel" "hears" "[I", Cond.fieldLink RX7 47 "OnlyUnseenModel" "seen" "[I", Cond.fieldLink RX7 59 "OnlyUnseenModel" "asked" "[I", Cond.methodLink RX7 124 yX7_barredBy, Cond.instanceMethod yX7_barredBy, Cond.selects RX7 yX7_barredBy yX7_barredBy, Cond.code yX7_barredBy cX7_barredBy 2 (some .int), Cond.fieldLink RX7 50 "OnlyUnseenModel" "half" "[I", Cond.methodLink RX7 120 yX7_allSights, Cond.instanceMethod yX7_allSights, Cond.selects RX7 yX7_allSights yX7_allSights, Cond.code yX7_allSights cX7_allSights 1 (some .int), Cond.methodLink RX7 84 yX7_has, Cond.static yX7_has, Cond.code yX7_has cX7_has 2 (some .boolean), Cond.methodLink RX7 253 yX7_isSaid, Cond.instanceMethod yX7_isSaid, Cond.selects RX7 yX7_isSaid yX7_isSaid, Cond.code yX7_isSaid cX7_isSaid 5 (some .int), Cond.methodLink RX7 117 yX7_bits, Cond.static yX7_bits, Cond.code yX7_bits cX7_bits 3 (some .int)]
def wsX7_talk : List Cond := .code yX7_talk cX7_talk 6 (some .int) :: ((wsX7_talk_r1 ++ wsX7_talk_r2) ++ wsX70)
def wsX7_round_r1 : List Cond := [Cond.methodLink RX7 262 yX7_goesRound, Cond.instanceMethod yX7_goesRound, Cond.selects RX7 yX7_goesRound yX7_goesRound, Cond.initialized RX7, Cond.code yX7_goesRound cX7_goesRound 6 (some .boolean), Cond.fieldLink RX7 77 "OnlyUnseenModel" "people" "I", Cond.fieldLink RX7 68 "OnlyUnseenModel" "said" "[I", Cond.fieldLink RX7 59 "OnlyUnseenModel" "asked" "[I", Cond.fieldLink RX7 37 "OnlyUnseenModel" "sights" "I", Cond.fieldLink RX7 56 "OnlyUnseenModel" "hears" "[I", Cond.fieldLink RX7 47 "OnlyUnseenModel" "seen" "[I", Cond.fieldLink RX7 53 "OnlyUnseenModel" "heard" "[I", Cond.methodLink RX7 114 yX7_mayOf, Cond.instanceMethod yX7_mayOf, Cond.selects RX7 yX7_mayOf yX7_mayOf, Cond.code yX7_mayOf cX7_mayOf 6 (some .int), Cond.fieldLink RX7 41 "OnlyUnseenModel" "kind" "[I", Cond.methodLink RX7 124 yX7_barredBy, Cond.instanceMethod yX7_barredBy, Cond.selects RX7 yX7_barredBy yX7_barredBy, Cond.code yX7_barredBy cX7_barredBy 2 (some .int), Cond.fieldLink RX7 50 "OnlyUnseenModel" "half" "[I", Cond.methodLink RX7 120 yX7_allSights, Cond.instanceMethod yX7_allSights]
def wsX7_round_r2 : List Cond := [Cond.selects RX7 yX7_allSights yX7_allSights, Cond.code yX7_allSights cX7_allSights 1 (some .int), Cond.methodLink RX7 84 yX7_has, Cond.static yX7_has, Cond.code yX7_has cX7_has 2 (some .boolean), Cond.methodLink RX7 253 yX7_isSaid, Cond.instanceMethod yX7_isSaid, Cond.selects RX7 yX7_isSaid yX7_isSaid, Cond.code yX7_isSaid cX7_isSaid 5 (some .int), Cond.methodLink RX7 117 yX7_bits, Cond.static yX7_bits, Cond.code yX7_bits cX7_bits 3 (some .int), Cond.methodLink RX7 257 yX7_knownNow, Cond.instanceMethod yX7_knownNow, Cond.selects RX7 yX7_knownNow yX7_knownNow, Cond.code yX7_knownNow cX7_knownNow 3 (some .int), Cond.methodLink RX7 247 yX7_knows, Cond.instanceMethod yX7_knows, Cond.selects RX7 yX7_knows yX7_knows, Cond.code yX7_knows cX7_knows 2 (some .int)]
def wsX7_round : List Cond := .code yX7_round cX7_round 1 (some .int) :: ((wsX7_round_r1 ++ wsX7_round_r2) ++ wsX70)
def wsX7_night : List Cond := .code yX7_night cX7_night 3 (some .int) :: ([.fieldLink RX7 77 "OnlyUnseenModel" "people" "I", .fieldLink RX7 41 "OnlyUnseenModel" "kind" "[I", .fieldLink RX7 47 "OnlyUnseenModel" "seen" "[I", .fieldLink RX7 53 "OnlyUnseenModel" "heard" "[I", .fieldLink RX7 326 "OnlyUnseenModel" "evenings" "I", .methodLink RX7 127 yX7_firstOf, .static yX7_firstOf, .initialized RX7, .code yX7_firstOf cX7_firstOf 2 (some .int), .methodLink RX7 84 yX7_has, .static yX7_has, .code yX7_has cX7_has 2 (some .boolean)] ++ wsX70)
def wsX7_seed : List Cond := .code yX7_seed cX7_seed 3 (some .int) :: ([.fieldLink RX7 62 "OnlyUnseenModel" "seed" "I"] ++ wsX70)
def wsX7_image_r1 : List Cond := [Cond.fieldLink RX7 338 "OnlyUnseenModel" "kept" "LOnlyUnseenModel;", Cond.classLink RX7 8 RX7, Cond.instantiable RX7 33, Cond.initialized RX7, Cond.methodLink RX7 333 yX7_init, Cond.instanceMethod yX7_init, Cond.code yX7_init cX7_init 1 none, Cond.methodLink RX7 1 objectInit, Cond.instanceMethod objectInit, Cond.code objectInit ⟨#[0xb1]⟩ 1 none, Cond.arrayClass .int, Cond.fieldLink RX7 7 "OnlyUnseenModel" "shelf" "[I", Cond.fieldLink RX7 13 "OnlyUnseenModel" "rowSort" "[I", Cond.fieldLink RX7 16 "OnlyUnseenModel" "rowSize" "[I", Cond.classLink RX7 19 "[[J", Cond.arrayClass .long, Cond.fieldLink RX7 21 "OnlyUnseenModel" "rows" "[[J", Cond.fieldLink RX7 24 "OnlyUnseenModel" "moved" "[J", Cond.fieldLink RX7 28 "OnlyUnseenModel" "shown" "[I", Cond.fieldLink RX7 31 "OnlyUnseenModel" "tape" "[I", Cond.fieldLink RX7 34 "OnlyUnseenModel" "refused" "[I", Cond.fieldLink RX7 37 "OnlyUnseenModel" "sights" "I", Cond.fieldLink RX7 41 "OnlyUnseenModel" "kind" "[I", Cond.fieldLink RX7 44 "OnlyUnseenModel" "by" "[I"]
def wsX7_image_r2 : List Cond := [Cond.fieldLink RX7 47 "OnlyUnseenModel" "seen" "[I", Cond.fieldLink RX7 50 "OnlyUnseenModel" "half" "[I", Cond.fieldLink RX7 53 "OnlyUnseenModel" "heard" "[I", Cond.fieldLink RX7 56 "OnlyUnseenModel" "hears" "[I", Cond.fieldLink RX7 59 "OnlyUnseenModel" "asked" "[I", Cond.fieldLink RX7 62 "OnlyUnseenModel" "seed" "I", Cond.fieldLink RX7 65 "OnlyUnseenModel" "told" "[I", Cond.fieldLink RX7 68 "OnlyUnseenModel" "said" "[I", Cond.fieldLink RX7 71 "OnlyUnseenModel" "row" "[I", Cond.fieldLink RX7 74 "OnlyUnseenModel" "bestRow" "[I", Cond.methodLink RX7 243 yX7_takeFrom, Cond.instanceMethod yX7_takeFrom, Cond.selects RX7 yX7_takeFrom yX7_takeFrom, Cond.code yX7_takeFrom cX7_takeFrom 2 none, Cond.fieldLink RX7 77 "OnlyUnseenModel" "people" "I", Cond.fieldLink RX7 326 "OnlyUnseenModel" "evenings" "I", Cond.methodLink RX7 334 yX7_over, Cond.static yX7_over, Cond.code yX7_over cX7_over 3 none]
def wsX7_image : List Cond := .code yX7_image cX7_image 1 (some .int) :: ((wsX7_image_r1 ++ wsX7_image_r2) ++ wsX70)
def wsX7_back_r1 : List Cond := [Cond.fieldLink RX7 338 "OnlyUnseenModel" "kept" "LOnlyUnseenModel;", Cond.fieldLink RX7 7 "OnlyUnseenModel" "shelf" "[I", Cond.fieldLink RX7 28 "OnlyUnseenModel" "shown" "[I", Cond.fieldLink RX7 77 "OnlyUnseenModel" "people" "I", Cond.methodLink RX7 94 yX7_refuse, Cond.instanceMethod yX7_refuse, Cond.selects RX7 yX7_refuse yX7_refuse, Cond.initialized RX7, Cond.code yX7_refuse cX7_refuse 2 (some .int), Cond.fieldLink RX7 34 "OnlyUnseenModel" "refused" "[I", Cond.methodLink RX7 243 yX7_takeFrom, Cond.instanceMethod yX7_takeFrom, Cond.selects RX7 yX7_takeFrom yX7_takeFrom, Cond.code yX7_takeFrom cX7_takeFrom 2 none, Cond.fieldLink RX7 37 "OnlyUnseenModel" "sights" "I", Cond.fieldLink RX7 41 "OnlyUnseenModel" "kind" "[I", Cond.fieldLink RX7 44 "OnlyUnseenModel" "by" "[I", Cond.fieldLink RX7 47 "OnlyUnseenModel" "seen" "[I", Cond.fieldLink RX7 50 "OnlyUnseenModel" "half" "[I", Cond.fieldLink RX7 53 "OnlyUnseenModel" "heard" "[I", Cond.fieldLink RX7 56 "OnlyUnseenModel" "hears" "[I", Cond.fieldLink RX7 59 "OnlyUnseenModel" "asked" "[I", Cond.fieldLink RX7 326 "OnlyUnseenModel" "evenings" "I", Cond.fieldLink RX7 62 "OnlyUnseenModel" "seed" "I"]
def wsX7_back_r2 : List Cond := [Cond.methodLink RX7 334 yX7_over, Cond.static yX7_over, Cond.code yX7_over cX7_over 3 none]
def wsX7_back : List Cond := .code yX7_back cX7_back 2 (some .int) :: ((wsX7_back_r1 ++ wsX7_back_r2) ++ wsX70)
def wsX7_status_r1 : List Cond := [Cond.fieldLink RX7 37 "OnlyUnseenModel" "sights" "I", Cond.fieldLink RX7 77 "OnlyUnseenModel" "people" "I", Cond.fieldLink RX7 59 "OnlyUnseenModel" "asked" "[I", Cond.fieldLink RX7 326 "OnlyUnseenModel" "evenings" "I", Cond.fieldLink RX7 152 "OnlyUnseenModel" "tapeSize" "I", Cond.fieldLink RX7 62 "OnlyUnseenModel" "seed" "I", Cond.fieldLink RX7 7 "OnlyUnseenModel" "shelf" "[I", Cond.constantLong RX7 341 (12), Cond.constantLong RX7 343 (16), Cond.fieldLink RX7 34 "OnlyUnseenModel" "refused" "[I", Cond.methodLink RX7 257 yX7_knownNow, Cond.instanceMethod yX7_knownNow, Cond.selects RX7 yX7_knownNow yX7_knownNow, Cond.initialized RX7, Cond.code yX7_knownNow cX7_knownNow 3 (some .int), Cond.methodLink RX7 247 yX7_knows, Cond.instanceMethod yX7_knows, Cond.selects RX7 yX7_knows yX7_knows, Cond.code yX7_knows cX7_knows 2 (some .int), Cond.fieldLink RX7 47 "OnlyUnseenModel" "seen" "[I", Cond.fieldLink RX7 50 "OnlyUnseenModel" "half" "[I", Cond.fieldLink RX7 53 "OnlyUnseenModel" "heard" "[I", Cond.methodLink RX7 117 yX7_bits, Cond.static yX7_bits]
def wsX7_status_r2 : List Cond := [Cond.code yX7_bits cX7_bits 3 (some .int), Cond.methodLink RX7 293 yX7_pairsNow, Cond.instanceMethod yX7_pairsNow, Cond.selects RX7 yX7_pairsNow yX7_pairsNow, Cond.code yX7_pairsNow cX7_pairsNow 4 (some .int), Cond.fieldLink RX7 56 "OnlyUnseenModel" "hears" "[I", Cond.methodLink RX7 84 yX7_has, Cond.static yX7_has, Cond.code yX7_has cX7_has 2 (some .boolean), Cond.methodLink RX7 80 yX7_in, Cond.static yX7_in, Cond.code yX7_in cX7_in 6 (some .boolean)]
def wsX7_status : List Cond := .code yX7_status cX7_status 4 (some .int) :: ((wsX7_status_r1 ++ wsX7_status_r2) ++ wsX70)
def wsL_law_r1 : List Cond := [Cond.classLink RL 7 RX6, Cond.instantiable RX6 10, Cond.initialized RX6, Cond.classLink RL 10 RX7, Cond.instantiable RX7 33, Cond.initialized RX7, Cond.constantLong RL 18 (4294967295), Cond.methodLink RL 9 yX6_init, Cond.instanceMethod yX6_init, Cond.code yX6_init cX6_init 1 none, Cond.methodLink RX6 1 objectInit, Cond.instanceMethod objectInit, Cond.code objectInit ⟨#[0xb1]⟩ 1 none, Cond.classLink RX6 7 RX5, Cond.instantiable RX5 14, Cond.initialized RX5, Cond.fieldLink RX6 10 "OnlyUnseen" "now" "LOnlyUnseen$Town;", Cond.fieldLink RX6 16 "OnlyUnseen" "kept" "LOnlyUnseen$Town;", Cond.fieldLink RX6 19 "OnlyUnseen" "then" "LOnlyUnseen$Town;", Cond.classLink RX6 22 RX3, Cond.instantiable RX3 3, Cond.initialized RX3, Cond.fieldLink RX6 25 "OnlyUnseen" "shelves" "LOnlyUnseen$Shelves;", Cond.classLink RX6 29 RX4]
def wsL_law_r2 : List Cond := [Cond.instantiable RX4 6, Cond.initialized RX4, Cond.fieldLink RX6 32 "OnlyUnseen" "tape" "LOnlyUnseen$Tape;", Cond.classLink RX6 36 RX2, Cond.instantiable RX2 2, Cond.initialized RX2, Cond.fieldLink RX6 41 "OnlyUnseen" "rounds" "LOnlyUnseen$Rounds;", Cond.classLink RX6 45 RX1, Cond.instantiable RX1 7, Cond.initialized RX1, Cond.fieldLink RX6 48 "OnlyUnseen" "orders" "LOnlyUnseen$Orders;", Cond.classLink RX6 52 RX0, Cond.instantiable RX0 3, Cond.initialized RX0, Cond.fieldLink RX6 57 "OnlyUnseen" "evenings" "LOnlyUnseen$Evenings;", Cond.arrayClass .int, Cond.fieldLink RX6 61 "OnlyUnseen" "refusals" "[I", Cond.fieldLink RX6 65 "OnlyUnseen" "isKept" "Z", Cond.instanceMethod yX5_init, Cond.code yX5_init cX5_init 1 none, Cond.methodLink RX5 3 objectInit, Cond.fieldLink RX5 9 "OnlyUnseen$Town" "sights" "I", Cond.fieldLink RX5 15 "OnlyUnseen$Town" "people" "I", Cond.fieldLink RX5 18 "OnlyUnseen$Town" "dusk" "I"]
def wsL_law_r3 : List Cond := [Cond.fieldLink RX5 21 "OnlyUnseen$Town" "signs" "I", Cond.fieldLink RX5 24 "OnlyUnseen$Town" "lies" "I", Cond.fieldLink RX5 27 "OnlyUnseen$Town" "evenings" "I", Cond.fieldLink RX5 30 "OnlyUnseen$Town" "seed" "I", Cond.fieldLink RX5 33 "OnlyUnseen$Town" "seen" "[I", Cond.fieldLink RX5 37 "OnlyUnseen$Town" "half" "[I", Cond.fieldLink RX5 40 "OnlyUnseen$Town" "heard" "[I", Cond.fieldLink RX5 43 "OnlyUnseen$Town" "hears" "[I", Cond.fieldLink RX5 46 "OnlyUnseen$Town" "kinds" "[I", Cond.fieldLink RX5 49 "OnlyUnseen$Town" "marks" "[I", Cond.fieldLink RX5 52 "OnlyUnseen$Town" "speeches" "[I", Cond.instanceMethod yX3_init, Cond.code yX3_init cX3_init 1 none, Cond.methodLink RX3 3 objectInit, Cond.fieldLink RX3 9 "OnlyUnseen$Shelves" "things" "[I", Cond.fieldLink RX3 15 "OnlyUnseen$Shelves" "sizes" "[I", Cond.classLink RX3 18 "[[J", Cond.arrayClass .long, Cond.fieldLink RX3 20 "OnlyUnseen$Shelves" "rows" "[[J", Cond.instanceMethod yX4_init, Cond.code yX4_init cX4_init 1 none, Cond.methodLink RX4 3 objectInit, Cond.fieldLink RX4 9 "OnlyUnseen$Tape" "size" "I", Cond.fieldLink RX4 15 "OnlyUnseen$Tape" "fault" "I"]
def wsL_law_r4 : List Cond := [Cond.fieldLink RX4 18 "OnlyUnseen$Tape" "letters" "[I", Cond.fieldLink RX4 22 "OnlyUnseen$Tape" "sort" "I", Cond.fieldLink RX4 25 "OnlyUnseen$Tape" "start" "I", Cond.fieldLink RX4 28 "OnlyUnseen$Tape" "end" "I", Cond.methodLink RX6 38 yX2_init, Cond.instanceMethod yX2_init, Cond.code yX2_init cX2_init 3 none, Cond.methodLink RX2 3 objectInit, Cond.fieldLink RX2 9 "OnlyUnseen$Rounds" "now" "LOnlyUnseen$Town;", Cond.fieldLink RX2 15 "OnlyUnseen$Rounds" "then" "LOnlyUnseen$Town;", Cond.methodLink RX6 47 yX1_init, Cond.instanceMethod yX1_init, Cond.code yX1_init cX1_init 3 none, Cond.methodLink RX1 3 objectInit, Cond.classLink RX1 9 "[[I", Cond.fieldLink RX1 11 "OnlyUnseen$Orders" "heardAt" "[[I", Cond.fieldLink RX1 16 "OnlyUnseen$Orders" "path" "[I", Cond.fieldLink RX1 20 "OnlyUnseen$Orders" "best" "[I", Cond.fieldLink RX1 23 "OnlyUnseen$Orders" "most" "I", Cond.fieldLink RX1 27 "OnlyUnseen$Orders" "limit" "I", Cond.fieldLink RX1 30 "OnlyUnseen$Orders" "now" "LOnlyUnseen$Town;", Cond.fieldLink RX1 34 "OnlyUnseen$Orders" "then" "LOnlyUnseen$Town;", Cond.methodLink RX6 54 yX0_init, Cond.instanceMethod yX0_init]
def wsL_law_r5 : List Cond := [Cond.code yX0_init cX0_init 4 none, Cond.methodLink RX0 3 objectInit, Cond.fieldLink RX0 9 "OnlyUnseen$Evenings" "now" "LOnlyUnseen$Town;", Cond.fieldLink RX0 15 "OnlyUnseen$Evenings" "then" "LOnlyUnseen$Town;", Cond.fieldLink RX0 18 "OnlyUnseen$Evenings" "shelves" "LOnlyUnseen$Shelves;", Cond.methodLink RL 12 yX7_init, Cond.instanceMethod yX7_init, Cond.code yX7_init cX7_init 1 none, Cond.methodLink RX7 1 objectInit, Cond.fieldLink RX7 7 "OnlyUnseenModel" "shelf" "[I", Cond.fieldLink RX7 13 "OnlyUnseenModel" "rowSort" "[I", Cond.fieldLink RX7 16 "OnlyUnseenModel" "rowSize" "[I", Cond.classLink RX7 19 "[[J", Cond.fieldLink RX7 21 "OnlyUnseenModel" "rows" "[[J", Cond.fieldLink RX7 24 "OnlyUnseenModel" "moved" "[J", Cond.fieldLink RX7 28 "OnlyUnseenModel" "shown" "[I", Cond.fieldLink RX7 31 "OnlyUnseenModel" "tape" "[I", Cond.fieldLink RX7 34 "OnlyUnseenModel" "refused" "[I", Cond.fieldLink RX7 37 "OnlyUnseenModel" "sights" "I", Cond.fieldLink RX7 41 "OnlyUnseenModel" "kind" "[I", Cond.fieldLink RX7 44 "OnlyUnseenModel" "by" "[I", Cond.fieldLink RX7 47 "OnlyUnseenModel" "seen" "[I", Cond.fieldLink RX7 50 "OnlyUnseenModel" "half" "[I", Cond.fieldLink RX7 53 "OnlyUnseenModel" "heard" "[I"]
def wsL_law_r6 : List Cond := [Cond.fieldLink RX7 56 "OnlyUnseenModel" "hears" "[I", Cond.fieldLink RX7 59 "OnlyUnseenModel" "asked" "[I", Cond.fieldLink RX7 62 "OnlyUnseenModel" "seed" "I", Cond.fieldLink RX7 65 "OnlyUnseenModel" "told" "[I", Cond.fieldLink RX7 68 "OnlyUnseenModel" "said" "[I", Cond.fieldLink RX7 71 "OnlyUnseenModel" "row" "[I", Cond.fieldLink RX7 74 "OnlyUnseenModel" "bestRow" "[I", Cond.methodLink RL 13 yX6_row, Cond.instanceMethod yX6_row, Cond.selects RX6 yX6_row yX6_row, Cond.code yX6_row cX6_row 4 (some .int), Cond.methodLink RX6 69 yX6_isShelf, Cond.static yX6_isShelf, Cond.code yX6_isShelf cX6_isShelf 1 (some .boolean), Cond.methodLink RX6 73 yX6_isWithin, Cond.static yX6_isWithin, Cond.code yX6_isWithin cX6_isWithin 3 (some .boolean), Cond.methodLink RX6 77 yX6_refuse, Cond.instanceMethod yX6_refuse, Cond.selects RX6 yX6_refuse yX6_refuse, Cond.code yX6_refuse cX6_refuse 3 (some .int), Cond.methodLink RX6 81 yX3_putRow, Cond.instanceMethod yX3_putRow, Cond.selects RX3 yX3_putRow yX3_putRow]
def wsL_law_r7 : List Cond := [Cond.code yX3_putRow cX3_putRow 5 none, Cond.methodLink RL 17 yX7_row, Cond.instanceMethod yX7_row, Cond.selects RX7 yX7_row yX7_row, Cond.code yX7_row cX7_row 5 (some .int), Cond.constantLong RX7 88 (7), Cond.constantLong RX7 90 (4), Cond.constantLong RX7 92 (40), Cond.methodLink RX7 80 yX7_in, Cond.static yX7_in, Cond.code yX7_in cX7_in 6 (some .boolean), Cond.methodLink RX7 94 yX7_refuse, Cond.instanceMethod yX7_refuse, Cond.selects RX7 yX7_refuse yX7_refuse, Cond.code yX7_refuse cX7_refuse 2 (some .int), Cond.methodLink RL 20 yX6_set, Cond.instanceMethod yX6_set, Cond.selects RX6 yX6_set yX6_set, Cond.code yX6_set cX6_set 6 (some .int), Cond.methodLink RX6 85 yX3_troubleWithRow, Cond.instanceMethod yX3_troubleWithRow, Cond.selects RX3 yX3_troubleWithRow yX3_troubleWithRow, Cond.code yX3_troubleWithRow cX3_troubleWithRow 3 (some .int), Cond.methodLink RX6 89 yX3_sizeOf]
def wsL_law_r8 : List Cond := [Cond.instanceMethod yX3_sizeOf, Cond.selects RX3 yX3_sizeOf yX3_sizeOf, Cond.code yX3_sizeOf cX3_sizeOf 2 (some .int), Cond.methodLink RX6 92 yX3_putElement, Cond.instanceMethod yX3_putElement, Cond.selects RX3 yX3_putElement yX3_putElement, Cond.code yX3_putElement cX3_putElement 5 none, Cond.methodLink RX3 23 yX3_lowestBits, Cond.static yX3_lowestBits, Cond.code yX3_lowestBits cX3_lowestBits 3 (some .long), Cond.methodLink RL 24 yX7_set, Cond.instanceMethod yX7_set, Cond.selects RX7 yX7_set yX7_set, Cond.code yX7_set cX7_set 6 (some .int), Cond.methodLink RX7 98 yX7_noRow, Cond.instanceMethod yX7_noRow, Cond.selects RX7 yX7_noRow yX7_noRow, Cond.code yX7_noRow cX7_noRow 2 (some .int), Cond.methodLink RX7 101 yX7_fit, Cond.static yX7_fit, Cond.code yX7_fit cX7_fit 3 (some .long), Cond.methodLink RL 25 yX6_copy, Cond.instanceMethod yX6_copy, Cond.selects RX6 yX6_copy yX6_copy]
def wsL_law_r9 : List Cond := [Cond.code yX6_copy cX6_copy 7 (some .int), Cond.methodLink RX6 96 yX3_troubleWithRows, Cond.instanceMethod yX3_troubleWithRows, Cond.selects RX3 yX3_troubleWithRows yX3_troubleWithRows, Cond.code yX3_troubleWithRows cX3_troubleWithRows 3 (some .int), Cond.methodLink RX6 99 yX6_isPart, Cond.static yX6_isPart, Cond.code yX6_isPart cX6_isPart 3 (some .boolean), Cond.methodLink RX6 102 yX3_copyElements, Cond.instanceMethod yX3_copyElements, Cond.selects RX3 yX3_copyElements yX3_copyElements, Cond.code yX3_copyElements cX3_copyElements 6 none, Cond.methodLink RX3 27 arraycopyName, Cond.native arraycopyName, Cond.static arraycopyName, Cond.initialized "java/lang/System", Cond.methodLink RL 29 yX7_copy, Cond.instanceMethod yX7_copy, Cond.selects RX7 yX7_copy yX7_copy, Cond.code yX7_copy cX7_copy 7 (some .int), Cond.methodLink RL 30 yX6_element, Cond.instanceMethod yX6_element, Cond.selects RX6 yX6_element yX6_element, Cond.code yX6_element cX6_element 3 (some .long)]
def wsL_law_r10 : List Cond := [Cond.methodLink RX6 106 yX3_elementOf, Cond.instanceMethod yX3_elementOf, Cond.selects RX3 yX3_elementOf yX3_elementOf, Cond.code yX3_elementOf cX3_elementOf 3 (some .long), Cond.methodLink RL 34 yX7_element, Cond.instanceMethod yX7_element, Cond.selects RX7 yX7_element yX7_element, Cond.code yX7_element cX7_element 3 (some .long), Cond.methodLink RL 35 yX6_holds, Cond.instanceMethod yX6_holds, Cond.selects RX6 yX6_holds yX6_holds, Cond.code yX6_holds cX6_holds 2 (some .int), Cond.methodLink RX6 110 yX3_heldBy, Cond.instanceMethod yX3_heldBy, Cond.selects RX3 yX3_heldBy yX3_heldBy, Cond.code yX3_heldBy cX3_heldBy 2 (some .int), Cond.methodLink RL 39 yX7_holds, Cond.instanceMethod yX7_holds, Cond.selects RX7 yX7_holds yX7_holds, Cond.code yX7_holds cX7_holds 2 (some .int), Cond.methodLink RL 40 yX6_show, Cond.instanceMethod yX6_show, Cond.selects RX6 yX6_show yX6_show, Cond.code yX6_show cX6_show 3 (some .int)]
def wsL_law_r11 : List Cond := [Cond.methodLink RX6 113 yX5_isOne, Cond.instanceMethod yX5_isOne, Cond.selects RX5 yX5_isOne yX5_isOne, Cond.code yX5_isOne cX5_isOne 2 (some .boolean), Cond.methodLink RX6 116 yX3_putOne, Cond.instanceMethod yX3_putOne, Cond.selects RX3 yX3_putOne yX3_putOne, Cond.code yX3_putOne cX3_putOne 3 none, Cond.methodLink RL 44 yX7_show, Cond.instanceMethod yX7_show, Cond.selects RX7 yX7_show yX7_show, Cond.code yX7_show cX7_show 3 (some .int), Cond.methodLink RX7 105 yX7_isOne, Cond.instanceMethod yX7_isOne, Cond.selects RX7 yX7_isOne yX7_isOne, Cond.code yX7_isOne cX7_isOne 2 (some .boolean), Cond.fieldLink RX7 77 "OnlyUnseenModel" "people" "I", Cond.methodLink RL 45 yX6_says, Cond.instanceMethod yX6_says, Cond.selects RX6 yX6_says yX6_says, Cond.code yX6_says cX6_says 5 (some .int), Cond.methodLink RX6 120 yX6_isKind, Cond.static yX6_isKind, Cond.code yX6_isKind cX6_isKind 1 (some .boolean)]
def wsL_law_r12 : List Cond := [Cond.methodLink RX6 123 yX5_isOfKind, Cond.instanceMethod yX5_isOfKind, Cond.selects RX5 yX5_isOfKind yX5_isOfKind, Cond.code yX5_isOfKind cX5_isOfKind 3 (some .boolean), Cond.methodLink RX6 127 yX5_sayingAs, Cond.instanceMethod yX5_sayingAs, Cond.selects RX5 yX5_sayingAs yX5_sayingAs, Cond.code yX5_sayingAs cX5_sayingAs 3 (some .int), Cond.methodLink RX5 76 yJ6_bitCount_0f7a4, Cond.static yJ6_bitCount_0f7a4, Cond.initialized RJ6, Cond.code yJ6_bitCount_0f7a4 cJ6_bitCount_0f7a4 1 (some .int), Cond.constant RJ6 265 (1431655765), Cond.constant RJ6 266 (858993459), Cond.constant RJ6 267 (252645135), Cond.methodLink RX5 73 yX5_barredTo, Cond.instanceMethod yX5_barredTo, Cond.selects RX5 yX5_barredTo yX5_barredTo, Cond.code yX5_barredTo cX5_barredTo 2 (some .int), Cond.static yX6_firstOf, Cond.code yX6_firstOf cX6_firstOf 2 (some .int), Cond.methodLink RX6 156 yX6_has, Cond.static yX6_has, Cond.code yX6_has cX6_has 2 (some .boolean)]
def wsL_law_r13 : List Cond := [Cond.methodLink RX5 84 yX5_sayableBy, Cond.instanceMethod yX5_sayableBy, Cond.selects RX5 yX5_sayableBy yX5_sayableBy, Cond.code yX5_sayableBy cX5_sayableBy 4 (some .int), Cond.methodLink RX5 87 yX5_allSights, Cond.instanceMethod yX5_allSights, Cond.selects RX5 yX5_allSights yX5_allSights, Cond.code yX5_allSights cX5_allSights 1 (some .int), Cond.methodLink RX5 91 yX5_vouchedFor, Cond.instanceMethod yX5_vouchedFor, Cond.selects RX5 yX5_vouchedFor yX5_vouchedFor, Cond.code yX5_vouchedFor cX5_vouchedFor 4 (some .int), Cond.static yX6_firstBits, Cond.code yX6_firstBits cX6_firstBits 6 (some .int), Cond.methodLink RL 48 yX7_says, Cond.instanceMethod yX7_says, Cond.selects RX7 yX7_says yX7_says, Cond.code yX7_says cX7_says 4 (some .int), Cond.constantLong RX7 109 (5), Cond.methodLink RX7 111 yX7_isUnder, Cond.static yX7_isUnder, Cond.code yX7_isUnder cX7_isUnder 2 (some .boolean), Cond.methodLink RX7 114 yX7_mayOf, Cond.instanceMethod yX7_mayOf]
def wsL_law_r14 : List Cond := [Cond.selects RX7 yX7_mayOf yX7_mayOf, Cond.code yX7_mayOf cX7_mayOf 6 (some .int), Cond.methodLink RX7 124 yX7_barredBy, Cond.instanceMethod yX7_barredBy, Cond.selects RX7 yX7_barredBy yX7_barredBy, Cond.code yX7_barredBy cX7_barredBy 2 (some .int), Cond.methodLink RX7 120 yX7_allSights, Cond.instanceMethod yX7_allSights, Cond.selects RX7 yX7_allSights yX7_allSights, Cond.code yX7_allSights cX7_allSights 1 (some .int), Cond.methodLink RX7 84 yX7_has, Cond.static yX7_has, Cond.code yX7_has cX7_has 2 (some .boolean), Cond.methodLink RX7 117 yX7_bits, Cond.static yX7_bits, Cond.code yX7_bits cX7_bits 3 (some .int), Cond.methodLink RX7 127 yX7_firstOf, Cond.static yX7_firstOf, Cond.code yX7_firstOf cX7_firstOf 2 (some .int), Cond.methodLink RL 49 yX6_sights, Cond.instanceMethod yX6_sights, Cond.selects RX6 yX6_sights yX6_sights, Cond.code yX6_sights cX6_sights 3 (some .int), Cond.fieldLink RX6 130 "OnlyUnseen$Town" "sights" "I"]
def wsL_law_r15 : List Cond := [Cond.methodLink RL 52 yX7_sights, Cond.instanceMethod yX7_sights, Cond.selects RX7 yX7_sights yX7_sights, Cond.code yX7_sights cX7_sights 3 (some .int), Cond.constantLong RX7 130 (8), Cond.methodLink RL 53 yX6_person, Cond.instanceMethod yX6_person, Cond.selects RX6 yX6_person yX6_person, Cond.code yX6_person cX6_person 3 (some .int), Cond.methodLink RX6 134 yX5_isFull, Cond.instanceMethod yX5_isFull, Cond.selects RX5 yX5_isFull yX5_isFull, Cond.code yX5_isFull cX5_isFull 1 (some .boolean), Cond.methodLink RX6 138 yX5_join, Cond.instanceMethod yX5_join, Cond.selects RX5 yX5_join yX5_join, Cond.code yX5_join cX5_join 4 (some .int), Cond.methodLink RL 56 yX7_person, Cond.instanceMethod yX7_person, Cond.selects RX7 yX7_person yX7_person, Cond.code yX7_person cX7_person 3 (some .int), Cond.constantLong RX7 132 (9), Cond.methodLink RX7 134 yX7_addOne, Cond.instanceMethod yX7_addOne]
def wsL_law_r16 : List Cond := [Cond.selects RX7 yX7_addOne yX7_addOne, Cond.code yX7_addOne cX7_addOne 3 none, Cond.methodLink RL 57 yX6_see, Cond.instanceMethod yX6_see, Cond.selects RX6 yX6_see yX6_see, Cond.code yX6_see cX6_see 5 (some .int), Cond.methodLink RX6 141 yX5_isSight, Cond.instanceMethod yX5_isSight, Cond.selects RX5 yX5_isSight yX5_isSight, Cond.code yX5_isSight cX5_isSight 2 (some .boolean), Cond.methodLink RX6 144 yX5_kindOf, Cond.instanceMethod yX5_kindOf, Cond.selects RX5 yX5_kindOf yX5_kindOf, Cond.code yX5_kindOf cX5_kindOf 2 (some .int), Cond.methodLink RX6 147 yX5_howSeen, Cond.instanceMethod yX5_howSeen, Cond.selects RX5 yX5_howSeen yX5_howSeen, Cond.code yX5_howSeen cX5_howSeen 3 (some .int), Cond.methodLink RX6 150 yX5_putSeen, Cond.instanceMethod yX5_putSeen, Cond.selects RX5 yX5_putSeen yX5_putSeen, Cond.code yX5_putSeen cX5_putSeen 4 none, Cond.static yX6_with, Cond.code yX6_with cX6_with 3 (some .int)]
def wsL_law_r17 : List Cond := [Cond.methodLink RL 60 yX7_see, Cond.instanceMethod yX7_see, Cond.selects RX7 yX7_see yX7_see, Cond.code yX7_see cX7_see 5 (some .int), Cond.constantLong RX7 141 (2), Cond.methodLink RX7 138 yX7_isSight, Cond.instanceMethod yX7_isSight, Cond.selects RX7 yX7_isSight yX7_isSight, Cond.code yX7_isSight cX7_isSight 2 (some .boolean), Cond.methodLink RX7 143 yX7_sees, Cond.instanceMethod yX7_sees, Cond.selects RX7 yX7_sees yX7_sees, Cond.code yX7_sees cX7_sees 4 none, Cond.methodLink RL 61 yX6_hear, Cond.instanceMethod yX6_hear, Cond.selects RX6 yX6_hear yX6_hear, Cond.code yX6_hear cX6_hear 5 (some .int), Cond.fieldLink RX6 153 "OnlyUnseen$Town" "heard" "[I", Cond.methodLink RX6 159 yX5_putHeard, Cond.instanceMethod yX5_putHeard, Cond.selects RX5 yX5_putHeard yX5_putHeard, Cond.code yX5_putHeard cX5_putHeard 4 none, Cond.methodLink RL 65 yX7_hear, Cond.instanceMethod yX7_hear]
def wsL_law_r18 : List Cond := [Cond.selects RX7 yX7_hear yX7_hear, Cond.code yX7_hear cX7_hear 5 (some .int), Cond.methodLink RL 66 yX6_near, Cond.instanceMethod yX6_near, Cond.selects RX6 yX6_near yX6_near, Cond.code yX6_near cX6_near 5 (some .int), Cond.fieldLink RX6 163 "OnlyUnseen$Town" "hears" "[I", Cond.methodLink RX6 166 yX5_putHears, Cond.instanceMethod yX5_putHears, Cond.selects RX5 yX5_putHears yX5_putHears, Cond.code yX5_putHears cX5_putHears 4 none, Cond.methodLink RL 69 yX7_near, Cond.instanceMethod yX7_near, Cond.selects RX7 yX7_near yX7_near, Cond.code yX7_near cX7_near 5 (some .int), Cond.methodLink RL 70 yX6_ask, Cond.instanceMethod yX6_ask, Cond.selects RX6 yX6_ask yX6_ask, Cond.code yX6_ask cX6_ask 4 (some .int), Cond.methodLink RX6 169 yX5_mostOf, Cond.static yX5_mostOf, Cond.code yX5_mostOf cX5_mostOf 1 (some .int), Cond.methodLink RX6 172 yX5_settingOf, Cond.instanceMethod yX5_settingOf]
def wsL_law_r19 : List Cond := [Cond.selects RX5 yX5_settingOf yX5_settingOf, Cond.code yX5_settingOf cX5_settingOf 2 (some .int), Cond.methodLink RX6 175 yX5_putSetting, Cond.instanceMethod yX5_putSetting, Cond.selects RX5 yX5_putSetting yX5_putSetting, Cond.code yX5_putSetting cX5_putSetting 3 none, Cond.methodLink RL 73 yX7_ask, Cond.instanceMethod yX7_ask, Cond.selects RX7 yX7_ask yX7_ask, Cond.code yX7_ask cX7_ask 4 (some .int), Cond.methodLink RX7 147 yX7_mostOf, Cond.static yX7_mostOf, Cond.code yX7_mostOf cX7_mostOf 1 (some .int), Cond.methodLink RL 74 yX6_feed, Cond.instanceMethod yX6_feed, Cond.selects RX6 yX6_feed yX6_feed, Cond.code yX6_feed cX6_feed 2 (some .int), Cond.fieldLink RX6 178 "OnlyUnseen$Tape" "size" "I", Cond.methodLink RX6 181 yX4_put, Cond.instanceMethod yX4_put, Cond.selects RX4 yX4_put yX4_put, Cond.code yX4_put cX4_put 2 none, Cond.methodLink RL 77 yX7_feed, Cond.instanceMethod yX7_feed]
def wsL_law_r20 : List Cond := [Cond.selects RX7 yX7_feed yX7_feed, Cond.code yX7_feed cX7_feed 2 (some .int), Cond.constantLong RX7 150 (255), Cond.fieldLink RX7 152 "OnlyUnseenModel" "tapeSize" "I", Cond.methodLink RL 78 yX6_wipe, Cond.instanceMethod yX6_wipe, Cond.selects RX6 yX6_wipe yX6_wipe, Cond.code yX6_wipe cX6_wipe 2 (some .int), Cond.methodLink RL 82 yX7_wipe, Cond.instanceMethod yX7_wipe, Cond.selects RX7 yX7_wipe yX7_wipe, Cond.code yX7_wipe cX7_wipe 2 (some .int), Cond.methodLink RL 83 yX6_town, Cond.instanceMethod yX6_town, Cond.selects RX6 yX6_town yX6_town, Cond.code yX6_town cX6_town 2 (some .int), Cond.fieldLink RX6 193 "OnlyUnseen$Tape" "fault" "I", Cond.methodLink RX6 185 yX5_become, Cond.instanceMethod yX5_become, Cond.selects RX5 yX5_become yX5_become, Cond.code yX5_become cX5_become 2 none, Cond.methodLink RX5 55 arraycopyName, Cond.methodLink RX6 189 yX4_readInto, Cond.instanceMethod yX4_readInto]
def wsL_law_r21 : List Cond := [Cond.selects RX4 yX4_readInto yX4_readInto, Cond.code yX4_readInto cX4_readInto 3 (some .int), Cond.methodLink RX4 31 yX4_advance, Cond.instanceMethod yX4_advance, Cond.selects RX4 yX4_advance yX4_advance, Cond.code yX4_advance cX4_advance 1 none, Cond.methodLink RX4 38 yX4_letterAt, Cond.instanceMethod yX4_letterAt, Cond.selects RX4 yX4_letterAt yX4_letterAt, Cond.code yX4_letterAt cX4_letterAt 2 (some .int), Cond.methodLink RX4 42 yX4_sortOf, Cond.static yX4_sortOf, Cond.code yX4_sortOf cX4_sortOf 1 (some .int), Cond.methodLink RX4 34 yX4_readStatement, Cond.instanceMethod yX4_readStatement, Cond.selects RX4 yX4_readStatement yX4_readStatement, Cond.code yX4_readStatement cX4_readStatement 2 (some .boolean), Cond.methodLink RX4 65 yX4_isWord, Cond.instanceMethod yX4_isWord, Cond.selects RX4 yX4_isWord yX4_isWord, Cond.code yX4_isWord cX4_isWord 3 (some .boolean), Cond.methodLink RX4 45 yJ0_length_8abf5, Cond.instanceMethod yJ0_length_8abf5, Cond.selects RJ0 yJ0_length_8abf5 yJ0_length_8abf5]
def wsL_law_r22 : List Cond := [Cond.initialized RJ0, Cond.code yJ0_length_8abf5 cJ0_length_8abf5 1 (some .int), Cond.fieldLink RJ0 9 "java/lang/String" "value" "[B", Cond.methodLink RJ0 335 yJ0_coder_7d493, Cond.instanceMethod yJ0_coder_7d493, Cond.selects RJ0 yJ0_coder_7d493 yJ0_coder_7d493, Cond.code yJ0_coder_7d493 cJ0_coder_7d493 1 (some .byte), Cond.fieldLink RJ0 38 "java/lang/String" "COMPACT_STRINGS" "Z", Cond.fieldLink RJ0 15 "java/lang/String" "coder" "B", Cond.methodLink RX4 51 yJ0_charAt_5068e, Cond.instanceMethod yJ0_charAt_5068e, Cond.selects RJ0 yJ0_charAt_5068e yJ0_charAt_5068e, Cond.code yJ0_charAt_5068e cJ0_charAt_5068e 2 (some .char), Cond.methodLink RJ0 492 yJ0_isLatin1_aae02, Cond.instanceMethod yJ0_isLatin1_aae02, Cond.selects RJ0 yJ0_isLatin1_aae02 yJ0_isLatin1_aae02, Cond.code yJ0_isLatin1_aae02 cJ0_isLatin1_aae02 1 (some .boolean), Cond.methodLink RJ0 495 yJ1_charAt_3b067, Cond.static yJ1_charAt_3b067, Cond.initialized RJ1, Cond.code yJ1_charAt_3b067 cJ1_charAt_3b067 2 (some .char), Cond.methodLink RJ1 9 yJ0_checkIndex_df160, Cond.static yJ0_checkIndex_df160, Cond.code yJ0_checkIndex_df160 cJ0_checkIndex_df160 2 none]
def wsL_law_r23 : List Cond := [Cond.fieldLink RJ0 1053 "jdk/internal/util/Preconditions" "SIOOBE_FORMATTER" "Ljava/util/function/BiFunction;", Cond.methodLink RJ0 1059 yJ3_checkIndex_8e157, Cond.static yJ3_checkIndex_8e157, Cond.initialized RJ3, Cond.code yJ3_checkIndex_8e157 cJ3_checkIndex_8e157 3 (some .int), Cond.methodLink RJ0 498 yJ2_charAt_3b067, Cond.static yJ2_charAt_3b067, Cond.initialized RJ2, Cond.code yJ2_charAt_3b067 cJ2_charAt_3b067 2 (some .char), Cond.methodLink RJ2 67 yJ2_checkIndex_2214a, Cond.static yJ2_checkIndex_2214a, Cond.code yJ2_checkIndex_2214a cJ2_checkIndex_2214a 2 none, Cond.methodLink RJ2 48 yJ2_length_9d52b, Cond.static yJ2_length_9d52b, Cond.code yJ2_length_9d52b cJ2_length_9d52b 1 (some .int), Cond.methodLink RJ2 414 yJ0_checkIndex_df160, Cond.methodLink RJ2 71 yJ2_getChar_3b067, Cond.static yJ2_getChar_3b067, Cond.code yJ2_getChar_3b067 cJ2_getChar_3b067 2 (some .char), Cond.fieldLink RJ2 44 "java/lang/StringUTF16" "$assertionsDisabled" "Z", Cond.fieldLink RJ2 59 "java/lang/StringUTF16" "HI_BYTE_SHIFT" "I", Cond.fieldLink RJ2 63 "java/lang/StringUTF16" "LO_BYTE_SHIFT" "I", Cond.methodLink RX4 69 yX4_readSights, Cond.instanceMethod yX4_readSights]
def wsL_law_r24 : List Cond := [Cond.selects RX4 yX4_readSights yX4_readSights, Cond.code yX4_readSights cX4_readSights 3 (some .boolean), Cond.fieldLink RX4 113 "OnlyUnseen$Town" "sights" "I", Cond.methodLink RX4 115 yX4_takeNumber, Cond.instanceMethod yX4_takeNumber, Cond.selects RX4 yX4_takeNumber yX4_takeNumber, Cond.code yX4_takeNumber cX4_takeNumber 6 (some .int), Cond.methodLink RX4 74 yX5_isFull, Cond.methodLink RX4 80 yX4_isFault, Cond.instanceMethod yX4_isFault, Cond.selects RX4 yX4_isFault yX4_isFault, Cond.code yX4_isFault cX4_isFault 1 (some .boolean), Cond.methodLink RX4 83 yX4_readPerson, Cond.instanceMethod yX4_readPerson, Cond.selects RX4 yX4_readPerson yX4_readPerson, Cond.code yX4_readPerson cX4_readPerson 5 (some .boolean), Cond.methodLink RX4 119 yX5_join, Cond.methodLink RX4 123 yX4_readSightSeen, Cond.instanceMethod yX4_readSightSeen, Cond.selects RX4 yX4_readSightSeen yX4_readSightSeen, Cond.code yX4_readSightSeen cX4_readSightSeen 5 (some .boolean), Cond.methodLink RX4 136 yX5_putSeen, Cond.methodLink RX4 127 yX4_readSightHeard, Cond.instanceMethod yX4_readSightHeard]
def wsL_law_r25 : List Cond := [Cond.selects RX4 yX4_readSightHeard yX4_readSightHeard, Cond.code yX4_readSightHeard cX4_readSightHeard 4 (some .boolean), Cond.methodLink RX4 140 yX5_putHeard, Cond.methodLink RX4 88 yX4_readSeen, Cond.instanceMethod yX4_readSeen, Cond.selects RX4 yX4_readSeen yX4_readSeen, Cond.code yX4_readSeen cX4_readSeen 4 (some .boolean), Cond.fieldLink RX4 130 "OnlyUnseen$Town" "people" "I", Cond.methodLink RX4 133 yX5_allBlind, Cond.instanceMethod yX5_allBlind, Cond.selects RX5 yX5_allBlind yX5_allBlind, Cond.code yX5_allBlind cX5_allBlind 3 (some .int), Cond.methodLink RX4 96 yX4_readHeard, Cond.instanceMethod yX4_readHeard, Cond.selects RX4 yX4_readHeard yX4_readHeard, Cond.code yX4_readHeard cX4_readHeard 3 (some .boolean), Cond.methodLink RX4 101 yX4_readHears, Cond.instanceMethod yX4_readHears, Cond.selects RX4 yX4_readHears yX4_readHears, Cond.code yX4_readHears cX4_readHears 4 (some .boolean), Cond.methodLink RX4 144 yX5_putHears, Cond.methodLink RX4 106 yX4_readSetting, Cond.instanceMethod yX4_readSetting, Cond.selects RX4 yX4_readSetting yX4_readSetting]
def wsL_law_r26 : List Cond := [Cond.code yX4_readSetting cX4_readSetting 4 (some .boolean), Cond.methodLink RX4 147 yX5_mostOf, Cond.methodLink RX4 150 yX5_putSetting, Cond.methodLink RL 86 yX7_town, Cond.instanceMethod yX7_town, Cond.selects RX7 yX7_town yX7_town, Cond.code yX7_town cX7_town 3 (some .int), Cond.fieldLink RX7 174 "OnlyUnseenModel" "fault" "I", Cond.fieldLink RX7 230 "OnlyUnseenModel" "statements" "I", Cond.methodLink RX7 236 yX7_fresh, Cond.instanceMethod yX7_fresh, Cond.selects RX7 yX7_fresh yX7_fresh, Cond.code yX7_fresh cX7_fresh 1 (some (.object "OnlyUnseenModel")), Cond.fieldLink RX7 329 "OnlyUnseenModel" "tried" "LOnlyUnseenModel;", Cond.classLink RX7 8 RX7, Cond.methodLink RX7 333 yX7_init, Cond.methodLink RX7 243 yX7_takeFrom, Cond.instanceMethod yX7_takeFrom, Cond.selects RX7 yX7_takeFrom yX7_takeFrom, Cond.code yX7_takeFrom cX7_takeFrom 2 none, Cond.fieldLink RX7 326 "OnlyUnseenModel" "evenings" "I", Cond.methodLink RX7 334 yX7_over, Cond.static yX7_over, Cond.code yX7_over cX7_over 3 none]
def wsL_law_r27 : List Cond := [Cond.methodLink RX7 240 yX7_readAll, Cond.instanceMethod yX7_readAll, Cond.selects RX7 yX7_readAll yX7_readAll, Cond.code yX7_readAll cX7_readAll 1 (some .boolean), Cond.fieldLink RX7 155 "OnlyUnseenModel" "at" "I", Cond.fieldLink RX7 164 "OnlyUnseenModel" "token" "I", Cond.methodLink RX7 190 yX7_look, Cond.instanceMethod yX7_look, Cond.selects RX7 yX7_look yX7_look, Cond.code yX7_look cX7_look 1 none, Cond.fieldLink RX7 158 "OnlyUnseenModel" "from" "I", Cond.fieldLink RX7 161 "OnlyUnseenModel" "figures" "I", Cond.constant RX7 173 (100000), Cond.methodLink RX7 167 yX7_isLetter, Cond.static yX7_isLetter, Cond.code yX7_isLetter cX7_isLetter 1 (some .boolean), Cond.methodLink RX7 170 yX7_isDigit, Cond.static yX7_isDigit, Cond.code yX7_isDigit cX7_isDigit 1 (some .boolean), Cond.methodLink RX7 233 yX7_statement, Cond.instanceMethod yX7_statement, Cond.selects RX7 yX7_statement yX7_statement, Cond.code yX7_statement cX7_statement 2 (some .boolean), Cond.methodLink RX7 202 yX7_isWord]
def wsL_law_r28 : List Cond := [Cond.instanceMethod yX7_isWord, Cond.selects RX7 yX7_isWord yX7_isWord, Cond.code yX7_isWord cX7_isWord 3 (some .boolean), Cond.methodLink RX7 177 yJ0_length_8abf5, Cond.methodLink RX7 182 yJ0_charAt_5068e, Cond.methodLink RX7 197 yX7_tells, Cond.instanceMethod yX7_tells, Cond.selects RX7 yX7_tells yX7_tells, Cond.code yX7_tells cX7_tells 3 (some .boolean), Cond.methodLink RX7 193 yX7_number, Cond.instanceMethod yX7_number, Cond.selects RX7 yX7_number yX7_number, Cond.code yX7_number cX7_number 4 (some .boolean), Cond.methodLink RX7 186 yX7_wrong, Cond.instanceMethod yX7_wrong, Cond.selects RX7 yX7_wrong yX7_wrong, Cond.code yX7_wrong cX7_wrong 1 (some .boolean), Cond.methodLink RX7 210 yX7_personTold, Cond.instanceMethod yX7_personTold, Cond.selects RX7 yX7_personTold yX7_personTold, Cond.code yX7_personTold cX7_personTold 2 (some .boolean), Cond.methodLink RX7 213 yX7_seenTold, Cond.instanceMethod yX7_seenTold, Cond.selects RX7 yX7_seenTold yX7_seenTold]
def wsL_law_r29 : List Cond := [Cond.code yX7_seenTold cX7_seenTold 2 (some .boolean), Cond.methodLink RX7 218 yX7_nearTold, Cond.instanceMethod yX7_nearTold, Cond.selects RX7 yX7_nearTold yX7_nearTold, Cond.code yX7_nearTold cX7_nearTold 1 (some .boolean), Cond.methodLink RX7 223 yX7_askedTold, Cond.instanceMethod yX7_askedTold, Cond.selects RX7 yX7_askedTold yX7_askedTold, Cond.code yX7_askedTold cX7_askedTold 3 (some .boolean), Cond.methodLink RL 87 yX6_personOf, Cond.instanceMethod yX6_personOf, Cond.selects RX6 yX6_personOf yX6_personOf, Cond.code yX6_personOf cX6_personOf 3 (some .int), Cond.methodLink RX6 196 yX5_factOf, Cond.instanceMethod yX5_factOf, Cond.selects RX5 yX5_factOf yX5_factOf, Cond.code yX5_factOf cX5_factOf 3 (some .int), Cond.methodLink RX5 69 yX5_knownTo, Cond.instanceMethod yX5_knownTo, Cond.selects RX5 yX5_knownTo yX5_knownTo, Cond.code yX5_knownTo cX5_knownTo 2 (some .int), Cond.methodLink RL 90 yX7_personOf, Cond.instanceMethod yX7_personOf, Cond.selects RX7 yX7_personOf yX7_personOf]
def wsL_law_r30 : List Cond := [Cond.code yX7_personOf cX7_personOf 3 (some .int), Cond.methodLink RX7 247 yX7_knows, Cond.instanceMethod yX7_knows, Cond.selects RX7 yX7_knows yX7_knows, Cond.code yX7_knows cX7_knows 2 (some .int), Cond.methodLink RL 91 yX6_may, Cond.instanceMethod yX6_may, Cond.selects RX6 yX6_may yX6_may, Cond.code yX6_may cX6_may 3 (some .int), Cond.methodLink RX6 199 yX5_sayableBy, Cond.methodLink RL 94 yX7_may, Cond.instanceMethod yX7_may, Cond.selects RX7 yX7_may yX7_may, Cond.code yX7_may cX7_may 3 (some .int), Cond.methodLink RL 95 yX6_mouths, Cond.instanceMethod yX6_mouths, Cond.selects RX6 yX6_mouths yX6_mouths, Cond.code yX6_mouths cX6_mouths 2 (some .int), Cond.methodLink RX6 202 yX5_whoMaySay, Cond.instanceMethod yX5_whoMaySay, Cond.selects RX5 yX5_whoMaySay yX5_whoMaySay, Cond.code yX5_whoMaySay cX5_whoMaySay 4 (some .int), Cond.methodLink RL 98 yX7_mouths, Cond.instanceMethod yX7_mouths]
def wsL_law_r31 : List Cond := [Cond.selects RX7 yX7_mouths yX7_mouths, Cond.code yX7_mouths cX7_mouths 2 (some .int), Cond.methodLink RX7 250 yX7_mouthsOf, Cond.instanceMethod yX7_mouthsOf, Cond.selects RX7 yX7_mouthsOf yX7_mouthsOf, Cond.code yX7_mouthsOf cX7_mouthsOf 4 (some .int), Cond.methodLink RL 99 yX6_say, Cond.instanceMethod yX6_say, Cond.selects RX6 yX6_say yX6_say, Cond.code yX6_say cX6_say 3 (some .int), Cond.methodLink RX6 205 yX5_tell, Cond.instanceMethod yX5_tell, Cond.selects RX5 yX5_tell yX5_tell, Cond.code yX5_tell cX5_tell 5 (some .int), Cond.methodLink RL 102 yX7_say, Cond.instanceMethod yX7_say, Cond.selects RX7 yX7_say yX7_say, Cond.code yX7_say cX7_say 3 (some .int), Cond.methodLink RX7 253 yX7_isSaid, Cond.instanceMethod yX7_isSaid, Cond.selects RX7 yX7_isSaid yX7_isSaid, Cond.code yX7_isSaid cX7_isSaid 5 (some .int), Cond.methodLink RL 103 yX6_sign, Cond.instanceMethod yX6_sign]
def wsL_law_r32 : List Cond := [Cond.selects RX6 yX6_sign yX6_sign, Cond.code yX6_sign cX6_sign 5 (some .int), Cond.fieldLink RX6 208 "OnlyUnseen$Town" "seen" "[I", Cond.methodLink RL 106 yX7_sign, Cond.instanceMethod yX7_sign, Cond.selects RX7 yX7_sign yX7_sign, Cond.code yX7_sign cX7_sign 5 (some .int), Cond.methodLink RL 107 yX6_known, Cond.instanceMethod yX6_known, Cond.selects RX6 yX6_known yX6_known, Cond.code yX6_known cX6_known 1 (some .int), Cond.methodLink RX6 211 yX5_knownInAll, Cond.instanceMethod yX5_knownInAll, Cond.selects RX5 yX5_knownInAll yX5_knownInAll, Cond.code yX5_knownInAll cX5_knownInAll 3 (some .int), Cond.methodLink RL 110 yX7_known, Cond.instanceMethod yX7_known, Cond.selects RX7 yX7_known yX7_known, Cond.code yX7_known cX7_known 1 (some .int), Cond.methodLink RX7 257 yX7_knownNow, Cond.instanceMethod yX7_knownNow, Cond.selects RX7 yX7_knownNow yX7_knownNow, Cond.code yX7_knownNow cX7_knownNow 3 (some .int), Cond.methodLink RL 111 yX6_spread]
def wsL_law_r33 : List Cond := [Cond.instanceMethod yX6_spread, Cond.selects RX6 yX6_spread yX6_spread, Cond.code yX6_spread cX6_spread 3 (some .int), Cond.methodLink RX6 215 yX6_isRounds, Cond.static yX6_isRounds, Cond.code yX6_isRounds cX6_isRounds 1 (some .boolean), Cond.methodLink RX6 218 yX2_after, Cond.instanceMethod yX2_after, Cond.selects RX2 yX2_after yX2_after, Cond.code yX2_after cX2_after 2 (some (.object "OnlyUnseen$Town")), Cond.methodLink RX2 18 yX5_become, Cond.methodLink RX2 24 yX5_passRounds, Cond.instanceMethod yX5_passRounds, Cond.selects RX5 yX5_passRounds yX5_passRounds, Cond.code yX5_passRounds cX5_passRounds 4 none, Cond.methodLink RX5 113 yX5_passRound, Cond.instanceMethod yX5_passRound, Cond.selects RX5 yX5_passRound yX5_passRound, Cond.code yX5_passRound cX5_passRound 3 (some .boolean), Cond.methodLink RX5 107 yX5_tell, Cond.methodLink RX5 110 yX5_passSigns, Cond.instanceMethod yX5_passSigns, Cond.selects RX5 yX5_passSigns yX5_passSigns, Cond.code yX5_passSigns cX5_passSigns 5 (some .int)]
def wsL_law_r34 : List Cond := [Cond.methodLink RL 114 yX7_spread, Cond.instanceMethod yX7_spread, Cond.selects RX7 yX7_spread yX7_spread, Cond.code yX7_spread cX7_spread 3 (some .int), Cond.methodLink RX7 265 yX7_isRounds, Cond.static yX7_isRounds, Cond.code yX7_isRounds cX7_isRounds 1 (some .boolean), Cond.constantLong RX7 260 (20), Cond.methodLink RX7 268 yX7_after, Cond.instanceMethod yX7_after, Cond.selects RX7 yX7_after yX7_after, Cond.code yX7_after cX7_after 4 (some (.object "OnlyUnseenModel")), Cond.methodLink RX7 262 yX7_goesRound, Cond.instanceMethod yX7_goesRound, Cond.selects RX7 yX7_goesRound yX7_goesRound, Cond.code yX7_goesRound cX7_goesRound 6 (some .boolean), Cond.methodLink RL 115 yX6_knownBy, Cond.instanceMethod yX6_knownBy, Cond.selects RX6 yX6_knownBy yX6_knownBy, Cond.code yX6_knownBy cX6_knownBy 2 (some .int), Cond.methodLink RL 118 yX7_knownBy, Cond.instanceMethod yX7_knownBy, Cond.selects RX7 yX7_knownBy yX7_knownBy, Cond.code yX7_knownBy cX7_knownBy 2 (some .int)]
def wsL_law_r35 : List Cond := [Cond.methodLink RL 119 yX6_rounds, Cond.instanceMethod yX6_rounds, Cond.selects RX6 yX6_rounds yX6_rounds, Cond.code yX6_rounds cX6_rounds 1 (some .int), Cond.methodLink RX6 222 yX2_untilStill, Cond.instanceMethod yX2_untilStill, Cond.selects RX2 yX2_untilStill yX2_untilStill, Cond.code yX2_untilStill cX2_untilStill 2 (some .int), Cond.methodLink RX2 28 yX5_passRound, Cond.methodLink RL 122 yX7_rounds, Cond.instanceMethod yX7_rounds, Cond.selects RX7 yX7_rounds yX7_rounds, Cond.code yX7_rounds cX7_rounds 3 (some .int), Cond.methodLink RL 123 yX6_never, Cond.instanceMethod yX6_never, Cond.selects RX6 yX6_never yX6_never, Cond.code yX6_never cX6_never 2 (some .int), Cond.methodLink RX6 225 yX5_allPeople, Cond.instanceMethod yX5_allPeople, Cond.selects RX5 yX5_allPeople yX5_allPeople, Cond.code yX5_allPeople cX5_allPeople 1 (some .int), Cond.methodLink RX6 228 yX5_whoKnows, Cond.instanceMethod yX5_whoKnows, Cond.selects RX5 yX5_whoKnows yX5_whoKnows]
def wsL_law_r36 : List Cond := [Cond.code yX5_whoKnows cX5_whoKnows 4 (some .int), Cond.methodLink RL 126 yX7_never, Cond.instanceMethod yX7_never, Cond.selects RX7 yX7_never yX7_never, Cond.code yX7_never cX7_never 5 (some .int), Cond.methodLink RL 127 yX6_when, Cond.instanceMethod yX6_when, Cond.selects RX6 yX6_when yX6_when, Cond.code yX6_when cX6_when 3 (some .int), Cond.methodLink RX6 231 yX2_untilKnown, Cond.instanceMethod yX2_untilKnown, Cond.selects RX2 yX2_untilKnown yX2_untilKnown, Cond.code yX2_untilKnown cX2_untilKnown 5 (some .int), Cond.methodLink RX2 32 yX5_knownTo, Cond.methodLink RL 130 yX7_when, Cond.instanceMethod yX7_when, Cond.selects RX7 yX7_when yX7_when, Cond.code yX7_when cX7_when 5 (some .int), Cond.methodLink RL 131 yX6_stop, Cond.instanceMethod yX6_stop, Cond.selects RX6 yX6_stop yX6_stop, Cond.code yX6_stop cX6_stop 3 (some .int), Cond.methodLink RX6 234 yX2_fewestToShow, Cond.instanceMethod yX2_fewestToShow]
def wsL_law_r37 : List Cond := [Cond.selects RX2 yX2_fewestToShow yX2_fewestToShow, Cond.code yX2_fewestToShow cX2_fewestToShow 7 (some .int), Cond.fieldLink RX2 47 "OnlyUnseen$Town" "people" "I", Cond.methodLink RX2 40 yX5_allPeople, Cond.methodLink RX2 44 yX5_allBlind, Cond.methodLink RX2 51 yJ6_bitCount_0f7a4, Cond.methodLink RX2 56 yX2_isHushed, Cond.instanceMethod yX2_isHushed, Cond.selects RX2 yX2_isHushed yX2_isHushed, Cond.code yX2_isHushed cX2_isHushed 6 (some .boolean), Cond.methodLink RX2 60 yX5_showTo, Cond.instanceMethod yX5_showTo, Cond.selects RX5 yX5_showTo yX5_showTo, Cond.code yX5_showTo cX5_showTo 4 none, Cond.methodLink RX5 125 yX5_putSeen, Cond.methodLink RX2 64 yX5_whoMaySay, Cond.methodLink RL 134 yX7_stop, Cond.instanceMethod yX7_stop, Cond.selects RX7 yX7_stop yX7_stop, Cond.code yX7_stop cX7_stop 5 (some .int), Cond.methodLink RX7 272 yX7_isStopped, Cond.instanceMethod yX7_isStopped, Cond.selects RX7 yX7_isStopped yX7_isStopped, Cond.code yX7_isStopped cX7_isStopped 6 (some .boolean)]
def wsL_law_r38 : List Cond := [Cond.methodLink RL 135 yX6_first, Cond.instanceMethod yX6_first, Cond.selects RX6 yX6_first yX6_first, Cond.code yX6_first cX6_first 3 (some .int), Cond.fieldLink RX6 237 "OnlyUnseen$Town" "people" "I", Cond.methodLink RX6 240 yX2_bestToTell, Cond.instanceMethod yX2_bestToTell, Cond.selects RX2 yX2_bestToTell yX2_bestToTell, Cond.code yX2_bestToTell cX2_bestToTell 7 (some .int), Cond.methodLink RX2 67 yX5_putHeard, Cond.methodLink RX2 71 yX5_whoKnows, Cond.methodLink RL 138 yX7_first, Cond.instanceMethod yX7_first, Cond.selects RX7 yX7_first yX7_first, Cond.code yX7_first cX7_first 9 (some .int), Cond.methodLink RL 139 yX6_order, Cond.instanceMethod yX6_order, Cond.selects RX6 yX6_order yX6_order, Cond.code yX6_order cX6_order 2 (some .int), Cond.methodLink RX6 243 yX1_search, Cond.instanceMethod yX1_search, Cond.selects RX1 yX1_search yX1_search, Cond.code yX1_search cX1_search 1 none, Cond.methodLink RX1 37 yX1_knownWhenAllIsSaid]
def wsL_law_r39 : List Cond := [Cond.instanceMethod yX1_knownWhenAllIsSaid, Cond.selects RX1 yX1_knownWhenAllIsSaid yX1_knownWhenAllIsSaid, Cond.code yX1_knownWhenAllIsSaid cX1_knownWhenAllIsSaid 1 (some .int), Cond.fieldLink RX1 54 "OnlyUnseen$Town" "signs" "I", Cond.methodLink RX1 41 yX5_become, Cond.methodLink RX1 57 yX5_passRounds, Cond.methodLink RX1 61 yX5_knownInAll, Cond.methodLink RX1 47 yX5_allPeople, Cond.methodLink RX1 50 yX1_speakOn, Cond.static yX1_speakOn, Cond.code yX1_speakOn cX1_speakOn 5 none, Cond.fieldLink RX1 67 "OnlyUnseen$Town" "heard" "[I", Cond.methodLink RX1 70 arraycopyName, Cond.fieldLink RX1 76 "OnlyUnseen$Town" "people" "I", Cond.methodLink RX1 64 yX1_weigh, Cond.instanceMethod yX1_weigh, Cond.selects RX1 yX1_weigh yX1_weigh, Cond.code yX1_weigh cX1_weigh 2 none, Cond.methodLink RX1 83 yX5_sayableBy, Cond.methodLink RX1 87 yX5_tell, Cond.methodLink RX6 246 yX1_mostKnown, Cond.instanceMethod yX1_mostKnown, Cond.selects RX1 yX1_mostKnown yX1_mostKnown, Cond.code yX1_mostKnown cX1_mostKnown 1 (some .int)]
def wsL_law_r40 : List Cond := [Cond.methodLink RX6 249 yX1_speakerAt, Cond.instanceMethod yX1_speakerAt, Cond.selects RX1 yX1_speakerAt yX1_speakerAt, Cond.code yX1_speakerAt cX1_speakerAt 2 (some .int), Cond.methodLink RL 142 yX7_order, Cond.instanceMethod yX7_order, Cond.selects RX7 yX7_order yX7_order, Cond.code yX7_order cX7_order 2 (some .int), Cond.constantLong RX7 281 (-1), Cond.fieldLink RX7 275 "OnlyUnseenModel" "bestKnown" "I", Cond.methodLink RX7 278 yX7_seekOrder, Cond.instanceMethod yX7_seekOrder, Cond.selects RX7 yX7_seekOrder yX7_seekOrder, Cond.code yX7_seekOrder cX7_seekOrder 6 none, Cond.methodLink RL 143 yX6_worth, Cond.instanceMethod yX6_worth, Cond.selects RX6 yX6_worth yX6_worth, Cond.code yX6_worth cX6_worth 3 (some .int), Cond.methodLink RX6 252 yX2_lostWithout, Cond.instanceMethod yX2_lostWithout, Cond.selects RX2 yX2_lostWithout yX2_lostWithout, Cond.code yX2_lostWithout cX2_lostWithout 4 (some .int), Cond.methodLink RX2 74 yX2_knownToOthersThen, Cond.instanceMethod yX2_knownToOthersThen]
def wsL_law_r41 : List Cond := [Cond.selects RX2 yX2_knownToOthersThen yX2_knownToOthersThen, Cond.code yX2_knownToOthersThen cX2_knownToOthersThen 3 (some .int), Cond.methodLink RX2 81 yX5_knownInAll, Cond.methodLink RX2 78 yX5_cutOff, Cond.instanceMethod yX5_cutOff, Cond.selects RX5 yX5_cutOff yX5_cutOff, Cond.code yX5_cutOff cX5_cutOff 3 none, Cond.methodLink RL 146 yX7_worth, Cond.instanceMethod yX7_worth, Cond.selects RX7 yX7_worth yX7_worth, Cond.code yX7_worth cX7_worth 6 (some .int), Cond.methodLink RX7 283 yX7_knownTo, Cond.instanceMethod yX7_knownTo, Cond.selects RX7 yX7_knownTo yX7_knownTo, Cond.code yX7_knownTo cX7_knownTo 4 (some .int), Cond.methodLink RL 147 yX6_chain, Cond.instanceMethod yX6_chain, Cond.selects RX6 yX6_chain yX6_chain, Cond.code yX6_chain cX6_chain 4 (some .int), Cond.methodLink RX6 255 yX5_sayingsBetween, Cond.instanceMethod yX5_sayingsBetween, Cond.selects RX5 yX5_sayingsBetween yX5_sayingsBetween, Cond.code yX5_sayingsBetween cX5_sayingsBetween 9 (some .int), Cond.methodLink RX5 101 yX5_whoIsBarred]
def wsL_law_r42 : List Cond := [Cond.instanceMethod yX5_whoIsBarred, Cond.selects RX5 yX5_whoIsBarred yX5_whoIsBarred, Cond.code yX5_whoIsBarred cX5_whoIsBarred 4 (some .int), Cond.methodLink RX5 104 yX5_hearersOf, Cond.instanceMethod yX5_hearersOf, Cond.selects RX5 yX5_hearersOf yX5_hearersOf, Cond.code yX5_hearersOf cX5_hearersOf 4 (some .int), Cond.methodLink RL 150 yX7_chain, Cond.instanceMethod yX7_chain, Cond.selects RX7 yX7_chain yX7_chain, Cond.code yX7_chain cX7_chain 9 (some .int), Cond.methodLink RX7 286 yX7_barredOf, Cond.instanceMethod yX7_barredOf, Cond.selects RX7 yX7_barredOf yX7_barredOf, Cond.code yX7_barredOf cX7_barredOf 4 (some .int), Cond.methodLink RL 151 yX6_pairs, Cond.instanceMethod yX6_pairs, Cond.selects RX6 yX6_pairs yX6_pairs, Cond.code yX6_pairs cX6_pairs 1 (some .int), Cond.methodLink RX6 259 yX5_pairsHearing, Cond.instanceMethod yX5_pairsHearing, Cond.selects RX5 yX5_pairsHearing yX5_pairsHearing, Cond.code yX5_pairsHearing cX5_pairsHearing 4 (some .int), Cond.methodLink RL 154 yX7_pairs]
def wsL_law_r43 : List Cond := [Cond.instanceMethod yX7_pairs, Cond.selects RX7 yX7_pairs yX7_pairs, Cond.code yX7_pairs cX7_pairs 1 (some .int), Cond.methodLink RX7 293 yX7_pairsNow, Cond.instanceMethod yX7_pairsNow, Cond.selects RX7 yX7_pairsNow yX7_pairsNow, Cond.code yX7_pairsNow cX7_pairsNow 4 (some .int), Cond.methodLink RL 155 yX6_mouthsBy, Cond.instanceMethod yX6_mouthsBy, Cond.selects RX6 yX6_mouthsBy yX6_mouthsBy, Cond.code yX6_mouthsBy cX6_mouthsBy 3 (some .int), Cond.methodLink RL 158 yX7_mouthsBy, Cond.instanceMethod yX7_mouthsBy, Cond.selects RX7 yX7_mouthsBy yX7_mouthsBy, Cond.code yX7_mouthsBy cX7_mouthsBy 3 (some .int), Cond.methodLink RL 159 yX6_alone, Cond.instanceMethod yX6_alone, Cond.selects RX6 yX6_alone yX6_alone, Cond.code yX6_alone cX6_alone 1 (some .int), Cond.methodLink RX6 262 yX5_whoIsUnheard, Cond.instanceMethod yX5_whoIsUnheard, Cond.selects RX5 yX5_whoIsUnheard yX5_whoIsUnheard, Cond.code yX5_whoIsUnheard cX5_whoIsUnheard 3 (some .int), Cond.methodLink RX5 98 yX5_allPeople]
def wsL_law_r44 : List Cond := [Cond.methodLink RL 162 yX7_alone, Cond.instanceMethod yX7_alone, Cond.selects RX7 yX7_alone yX7_alone, Cond.code yX7_alone cX7_alone 3 (some .int), Cond.methodLink RL 163 yX6_barred, Cond.instanceMethod yX6_barred, Cond.selects RX6 yX6_barred yX6_barred, Cond.code yX6_barred cX6_barred 2 (some .int), Cond.methodLink RX6 265 yX5_whoIsBarred, Cond.methodLink RL 166 yX7_barred, Cond.instanceMethod yX7_barred, Cond.selects RX7 yX7_barred yX7_barred, Cond.code yX7_barred cX7_barred 2 (some .int), Cond.methodLink RL 167 yX6_blind, Cond.instanceMethod yX6_blind, Cond.selects RX6 yX6_blind yX6_blind, Cond.code yX6_blind cX6_blind 3 (some .int), Cond.constant RX6 268 (-1000000), Cond.methodLink RX6 269 yX2_gainByBlind, Cond.instanceMethod yX2_gainByBlind, Cond.selects RX2 yX2_gainByBlind yX2_gainByBlind, Cond.code yX2_gainByBlind cX2_gainByBlind 4 (some .int), Cond.methodLink RX2 84 yX2_after, Cond.methodLink RX2 88 yX5_makeBlind]
def wsL_law_r45 : List Cond := [Cond.instanceMethod yX5_makeBlind, Cond.selects RX5 yX5_makeBlind yX5_makeBlind, Cond.code yX5_makeBlind cX5_makeBlind 2 none, Cond.methodLink RL 170 yX7_blind, Cond.instanceMethod yX7_blind, Cond.selects RX7 yX7_blind yX7_blind, Cond.code yX7_blind cX7_blind 6 (some .int), Cond.constant RX7 289 (-1000000), Cond.methodLink RL 171 yX6_dusk, Cond.instanceMethod yX6_dusk, Cond.selects RX6 yX6_dusk yX6_dusk, Cond.code yX6_dusk cX6_dusk 2 (some .int), Cond.methodLink RX6 272 yX2_gainByLight, Cond.instanceMethod yX2_gainByLight, Cond.selects RX2 yX2_gainByLight yX2_gainByLight, Cond.code yX2_gainByLight cX2_gainByLight 2 (some .int), Cond.methodLink RX2 91 yX2_knownAtDusk, Cond.instanceMethod yX2_knownAtDusk, Cond.selects RX2 yX2_knownAtDusk yX2_knownAtDusk, Cond.code yX2_knownAtDusk cX2_knownAtDusk 3 (some .int), Cond.fieldLink RX2 94 "OnlyUnseen$Town" "dusk" "I", Cond.methodLink RL 174 yX7_dusk, Cond.instanceMethod yX7_dusk, Cond.selects RX7 yX7_dusk yX7_dusk]
def wsL_law_r46 : List Cond := [Cond.code yX7_dusk cX7_dusk 2 (some .int), Cond.methodLink RX7 290 yX7_knownBehind, Cond.instanceMethod yX7_knownBehind, Cond.selects RX7 yX7_knownBehind yX7_knownBehind, Cond.code yX7_knownBehind cX7_knownBehind 5 (some .int), Cond.methodLink RL 175 yX6_loudest, Cond.instanceMethod yX6_loudest, Cond.selects RX6 yX6_loudest yX6_loudest, Cond.code yX6_loudest cX6_loudest 1 (some .int), Cond.methodLink RX6 275 yX5_whoMaySayMost, Cond.instanceMethod yX5_whoMaySayMost, Cond.selects RX5 yX5_whoMaySayMost yX5_whoMaySayMost, Cond.code yX5_whoMaySayMost cX5_whoMaySayMost 5 (some .int), Cond.methodLink RL 178 yX7_loudest, Cond.instanceMethod yX7_loudest, Cond.selects RX7 yX7_loudest yX7_loudest, Cond.code yX7_loudest cX7_loudest 3 (some .int), Cond.methodLink RL 179 yX6_whom, Cond.instanceMethod yX6_whom, Cond.selects RX6 yX6_whom yX6_whom, Cond.code yX6_whom cX6_whom 4 (some .int), Cond.methodLink RX6 278 yX3_fewestApart, Cond.instanceMethod yX3_fewestApart, Cond.selects RX3 yX3_fewestApart yX3_fewestApart]
def wsL_law_r47 : List Cond := [Cond.code yX3_fewestApart cX3_fewestApart 6 (some .int), Cond.methodLink RX3 41 yJ6_bitCount_0f7a4, Cond.methodLink RX3 47 yX3_isApart, Cond.instanceMethod yX3_isApart, Cond.selects RX3 yX3_isApart yX3_isApart, Cond.code yX3_isApart cX3_isApart 9 (some .boolean), Cond.methodLink RX3 37 yX3_elementOf, Cond.methodLink RL 182 yX7_whom, Cond.instanceMethod yX7_whom, Cond.selects RX7 yX7_whom yX7_whom, Cond.code yX7_whom cX7_whom 6 (some .int), Cond.methodLink RX7 298 yX7_noSets, Cond.instanceMethod yX7_noSets, Cond.selects RX7 yX7_noSets yX7_noSets, Cond.code yX7_noSets cX7_noSets 4 (some .int), Cond.constantLong RX7 296 (10), Cond.methodLink RX7 301 yX7_doesPart, Cond.instanceMethod yX7_doesPart, Cond.selects RX7 yX7_doesPart yX7_doesPart, Cond.code yX7_doesPart cX7_doesPart 8 (some .boolean), Cond.methodLink RL 183 yX6_parts, Cond.instanceMethod yX6_parts, Cond.selects RX6 yX6_parts yX6_parts, Cond.code yX6_parts cX6_parts 6 (some .int)]
def wsL_law_r48 : List Cond := [Cond.methodLink RX6 281 yX3_isApart, Cond.methodLink RL 186 yX7_parts, Cond.instanceMethod yX7_parts, Cond.selects RX7 yX7_parts yX7_parts, Cond.code yX7_parts cX7_parts 5 (some .int), Cond.methodLink RL 187 yX6_judge, Cond.instanceMethod yX6_judge, Cond.selects RX6 yX6_judge yX6_judge, Cond.code yX6_judge cX6_judge 4 (some .int), Cond.methodLink RX6 285 yX6_troubleWithEvening, Cond.instanceMethod yX6_troubleWithEvening, Cond.selects RX6 yX6_troubleWithEvening yX6_troubleWithEvening, Cond.code yX6_troubleWithEvening cX6_troubleWithEvening 3 (some .int), Cond.methodLink RX6 288 yX0_firstWrong, Cond.instanceMethod yX0_firstWrong, Cond.selects RX0 yX0_firstWrong yX0_firstWrong, Cond.code yX0_firstWrong cX0_firstWrong 6 (some .int), Cond.methodLink RX0 43 yX5_become, Cond.methodLink RX0 33 yX3_elementOf, Cond.methodLink RX0 39 yX0_isSaying, Cond.instanceMethod yX0_isSaying, Cond.selects RX0 yX0_isSaying yX0_isSaying, Cond.code yX0_isSaying cX0_isSaying 3 (some .boolean), Cond.constantLong RX0 22 (10)]
def wsL_law_r49 : List Cond := [Cond.fieldLink RX0 24 "OnlyUnseen$Town" "people" "I", Cond.fieldLink RX0 30 "OnlyUnseen$Town" "sights" "I", Cond.methodLink RX0 47 yX0_speakerOf, Cond.instanceMethod yX0_speakerOf, Cond.selects RX0 yX0_speakerOf yX0_speakerOf, Cond.code yX0_speakerOf cX0_speakerOf 3 (some .int), Cond.methodLink RX0 51 yX0_sightOf, Cond.instanceMethod yX0_sightOf, Cond.selects RX0 yX0_sightOf yX0_sightOf, Cond.code yX0_sightOf cX0_sightOf 3 (some .int), Cond.methodLink RX0 54 yX5_sayableBy, Cond.methodLink RX0 62 yX5_tell, Cond.methodLink RL 190 yX7_judge, Cond.instanceMethod yX7_judge, Cond.selects RX7 yX7_judge yX7_judge, Cond.code yX7_judge cX7_judge 4 (some .int), Cond.methodLink RX7 308 yX7_noEvening, Cond.instanceMethod yX7_noEvening, Cond.selects RX7 yX7_noEvening yX7_noEvening, Cond.code yX7_noEvening cX7_noEvening 4 (some .int), Cond.methodLink RX7 311 yX7_goesBy, Cond.instanceMethod yX7_goesBy, Cond.selects RX7 yX7_goesBy yX7_goesBy, Cond.code yX7_goesBy cX7_goesBy 4 (some .int)]
def wsL_law_r50 : List Cond := [Cond.methodLink RX7 304 yX7_isSaying, Cond.instanceMethod yX7_isSaying, Cond.selects RX7 yX7_isSaying yX7_isSaying, Cond.code yX7_isSaying cX7_isSaying 3 (some .boolean), Cond.methodLink RL 191 yX6_heard, Cond.instanceMethod yX6_heard, Cond.selects RX6 yX6_heard yX6_heard, Cond.code yX6_heard cX6_heard 5 (some .int), Cond.methodLink RL 194 yX7_heard, Cond.instanceMethod yX7_heard, Cond.selects RX7 yX7_heard yX7_heard, Cond.code yX7_heard cX7_heard 6 (some .int), Cond.methodLink RL 195 yX6_falsely, Cond.instanceMethod yX6_falsely, Cond.selects RX6 yX6_falsely yX6_falsely, Cond.code yX6_falsely cX6_falsely 4 (some .int), Cond.methodLink RX6 291 yX6_troubleWithSayings, Cond.instanceMethod yX6_troubleWithSayings, Cond.selects RX6 yX6_troubleWithSayings yX6_troubleWithSayings, Cond.code yX6_troubleWithSayings cX6_troubleWithSayings 4 (some .int), Cond.methodLink RX6 332 yX0_areSayings, Cond.instanceMethod yX0_areSayings, Cond.selects RX0 yX0_areSayings yX0_areSayings, Cond.code yX0_areSayings cX0_areSayings 4 (some .boolean)]
def wsL_law_r51 : List Cond := [Cond.methodLink RX6 294 yX0_falseSayings, Cond.instanceMethod yX0_falseSayings, Cond.selects RX0 yX0_falseSayings yX0_falseSayings, Cond.code yX0_falseSayings cX0_falseSayings 5 (some .int), Cond.methodLink RX0 65 yX5_barredTo, Cond.methodLink RL 198 yX7_falsely, Cond.instanceMethod yX7_falsely, Cond.selects RX7 yX7_falsely yX7_falsely, Cond.code yX7_falsely cX7_falsely 7 (some .int), Cond.methodLink RX7 315 yX7_noSayings, Cond.instanceMethod yX7_noSayings, Cond.selects RX7 yX7_noSayings yX7_noSayings, Cond.code yX7_noSayings cX7_noSayings 5 (some .int), Cond.methodLink RL 199 yX6_surely, Cond.instanceMethod yX6_surely, Cond.selects RX6 yX6_surely yX6_surely, Cond.code yX6_surely cX6_surely 5 (some .int), Cond.methodLink RX6 297 yX0_silentOf, Cond.instanceMethod yX0_silentOf, Cond.selects RX0 yX0_silentOf yX0_silentOf, Cond.code yX0_silentOf cX0_silentOf 6 (some .int), Cond.methodLink RX0 68 yX0_isSilent, Cond.instanceMethod yX0_isSilent, Cond.selects RX0 yX0_isSilent yX0_isSilent]
def wsL_law_r52 : List Cond := [Cond.code yX0_isSilent cX0_isSilent 8 (some .boolean), Cond.fieldLink RX0 76 "OnlyUnseen$Town" "hears" "[I", Cond.methodLink RL 202 yX7_surely, Cond.instanceMethod yX7_surely, Cond.selects RX7 yX7_surely yX7_surely, Cond.code yX7_surely cX7_surely 5 (some .int), Cond.methodLink RX7 318 yX7_silent, Cond.instanceMethod yX7_silent, Cond.selects RX7 yX7_silent yX7_silent, Cond.code yX7_silent cX7_silent 10 (some .int), Cond.methodLink RL 203 yX6_free, Cond.instanceMethod yX6_free, Cond.selects RX6 yX6_free yX6_free, Cond.code yX6_free cX6_free 5 (some .int), Cond.methodLink RX6 300 yX0_mouthsBehind, Cond.instanceMethod yX0_mouthsBehind, Cond.selects RX0 yX0_mouthsBehind yX0_mouthsBehind, Cond.code yX0_mouthsBehind cX0_mouthsBehind 5 (some .int), Cond.methodLink RX0 80 yX5_whoMaySay, Cond.methodLink RL 206 yX7_free, Cond.instanceMethod yX7_free, Cond.selects RX7 yX7_free yX7_free, Cond.code yX7_free cX7_free 8 (some .int), Cond.methodLink RL 207 yX6_evening]
def wsL_law_r53 : List Cond := [Cond.instanceMethod yX6_evening, Cond.selects RX6 yX6_evening yX6_evening, Cond.code yX6_evening cX6_evening 4 (some .int), Cond.methodLink RL 210 yX7_evening, Cond.instanceMethod yX7_evening, Cond.selects RX7 yX7_evening yX7_evening, Cond.code yX7_evening cX7_evening 4 (some .int), Cond.methodLink RL 211 yX6_talk, Cond.instanceMethod yX6_talk, Cond.selects RX6 yX6_talk yX6_talk, Cond.code yX6_talk cX6_talk 2 (some .int), Cond.methodLink RX6 303 yX5_sayByDraws, Cond.instanceMethod yX5_sayByDraws, Cond.selects RX5 yX5_sayByDraws yX5_sayByDraws, Cond.code yX5_sayByDraws cX5_sayByDraws 6 (some .int), Cond.methodLink RX5 117 yX5_drawBelow, Cond.instanceMethod yX5_drawBelow, Cond.selects RX5 yX5_drawBelow yX5_drawBelow, Cond.code yX5_drawBelow cX5_drawBelow 2 (some .int), Cond.constant RX5 124 (1103515245), Cond.methodLink RX5 120 yX5_isOne, Cond.methodLink RL 214 yX7_talk, Cond.instanceMethod yX7_talk, Cond.selects RX7 yX7_talk yX7_talk]
def wsL_law_r54 : List Cond := [Cond.code yX7_talk cX7_talk 6 (some .int), Cond.methodLink RX7 323 yX7_below, Cond.instanceMethod yX7_below, Cond.selects RX7 yX7_below yX7_below, Cond.code yX7_below cX7_below 2 (some .int), Cond.constant RX7 322 (1103515245), Cond.methodLink RL 215 yX6_round, Cond.instanceMethod yX6_round, Cond.selects RX6 yX6_round yX6_round, Cond.code yX6_round cX6_round 1 (some .int), Cond.methodLink RX6 306 yX5_passRound, Cond.methodLink RL 218 yX7_round, Cond.instanceMethod yX7_round, Cond.selects RX7 yX7_round yX7_round, Cond.code yX7_round cX7_round 1 (some .int), Cond.methodLink RL 219 yX6_night, Cond.instanceMethod yX6_night, Cond.selects RX6 yX6_night yX6_night, Cond.code yX6_night cX6_night 1 (some .int), Cond.fieldLink RX6 312 "OnlyUnseen$Town" "evenings" "I", Cond.methodLink RX6 309 yX5_passNight, Cond.instanceMethod yX5_passNight, Cond.selects RX5 yX5_passNight yX5_passNight, Cond.code yX5_passNight cX5_passNight 3 none]
def wsL_law_r55 : List Cond := [Cond.methodLink RL 222 yX7_night, Cond.instanceMethod yX7_night, Cond.selects RX7 yX7_night yX7_night, Cond.code yX7_night cX7_night 3 (some .int), Cond.methodLink RL 223 yX6_seed, Cond.instanceMethod yX6_seed, Cond.selects RX6 yX6_seed yX6_seed, Cond.code yX6_seed cX6_seed 3 (some .int), Cond.fieldLink RX6 314 "OnlyUnseen$Town" "seed" "I", Cond.methodLink RL 226 yX7_seed, Cond.instanceMethod yX7_seed, Cond.selects RX7 yX7_seed yX7_seed, Cond.code yX7_seed cX7_seed 3 (some .int), Cond.methodLink RL 227 yX6_image, Cond.instanceMethod yX6_image, Cond.selects RX6 yX6_image yX6_image, Cond.code yX6_image cX6_image 1 (some .int), Cond.methodLink RL 230 yX7_image, Cond.instanceMethod yX7_image, Cond.selects RX7 yX7_image yX7_image, Cond.code yX7_image cX7_image 1 (some .int), Cond.fieldLink RX7 338 "OnlyUnseenModel" "kept" "LOnlyUnseenModel;", Cond.methodLink RL 231 yX6_back, Cond.instanceMethod yX6_back]
def wsL_law_r56 : List Cond := [Cond.selects RX6 yX6_back yX6_back, Cond.code yX6_back cX6_back 1 (some .int), Cond.methodLink RX6 317 yX3_keepPeopleBelow, Cond.instanceMethod yX3_keepPeopleBelow, Cond.selects RX3 yX3_keepPeopleBelow yX3_keepPeopleBelow, Cond.code yX3_keepPeopleBelow cX3_keepPeopleBelow 3 none, Cond.methodLink RL 234 yX7_back, Cond.instanceMethod yX7_back, Cond.selects RX7 yX7_back yX7_back, Cond.code yX7_back cX7_back 2 (some .int), Cond.methodLink RL 235 yX6_status, Cond.instanceMethod yX6_status, Cond.selects RX6 yX6_status yX6_status, Cond.code yX6_status cX6_status 2 (some .int), Cond.fieldLink RX6 320 "OnlyUnseen$Town" "dusk" "I", Cond.fieldLink RX6 323 "OnlyUnseen$Town" "signs" "I", Cond.fieldLink RX6 326 "OnlyUnseen$Town" "lies" "I", Cond.methodLink RX6 329 yX3_filled, Cond.instanceMethod yX3_filled, Cond.selects RX3 yX3_filled yX3_filled, Cond.code yX3_filled cX3_filled 3 (some .int), Cond.methodLink RL 238 yX7_status, Cond.instanceMethod yX7_status, Cond.selects RX7 yX7_status yX7_status]
def wsL_law_r57 : List Cond := [Cond.code yX7_status cX7_status 4 (some .int), Cond.constantLong RX7 341 (12), Cond.constantLong RX7 343 (16)]
def wsL_law : List Cond := (wsL_law_r1 ++ (wsL_law_r2 ++ (wsL_law_r3 ++ (wsL_law_r4 ++ (wsL_law_r5 ++ (wsL_law_r6 ++ (wsL_law_r7 ++ (wsL_law_r8 ++ (wsL_law_r9 ++ (wsL_law_r10 ++ (wsL_law_r11 ++ (wsL_law_r12 ++ (wsL_law_r13 ++ (wsL_law_r14 ++ (wsL_law_r15 ++ (wsL_law_r16 ++ (wsL_law_r17 ++ (wsL_law_r18 ++ (wsL_law_r19 ++ (wsL_law_r20 ++ (wsL_law_r21 ++ (wsL_law_r22 ++ (wsL_law_r23 ++ (wsL_law_r24 ++ (wsL_law_r25 ++ (wsL_law_r26 ++ (wsL_law_r27 ++ (wsL_law_r28 ++ (wsL_law_r29 ++ (wsL_law_r30 ++ (wsL_law_r31 ++ (wsL_law_r32 ++ (wsL_law_r33 ++ (wsL_law_r34 ++ (wsL_law_r35 ++ (wsL_law_r36 ++ (wsL_law_r37 ++ (wsL_law_r38 ++ (wsL_law_r39 ++ (wsL_law_r40 ++ (wsL_law_r41 ++ (wsL_law_r42 ++ (wsL_law_r43 ++ (wsL_law_r44 ++ (wsL_law_r45 ++ (wsL_law_r46 ++ (wsL_law_r47 ++ (wsL_law_r48 ++ (wsL_law_r49 ++ (wsL_law_r50 ++ (wsL_law_r51 ++ (wsL_law_r52 ++ (wsL_law_r53 ++ (wsL_law_r54 ++ (wsL_law_r55 ++ (wsL_law_r56 ++ wsL_law_r57)))))))))))))))))))))))))))))))))))))))))))))))))))))))) ++ wsX60 ++ wsX70 ++ wsX50 ++ wsX30 ++ wsX40 ++ wsX20 ++ wsX10 ++ wsX00 ++ ([] : List Cond)
set_option maxRecDepth 20000 in
theorem wsL_law_in : ∀ w ∈ wsL_law, w ∈ lw_tbl := fun w h => (goodIn_p wsL_law [91, 94, 99, 169, 188, 215, 228, 258, 1073, 304, 307, 310, 314, 318, 1179, 1183, 1189, 322, 326, 331, 335, 338, 1193, 1197, 1200, 342, 346, 349, 353, 1204, 360, 364, 1208, 368, 372, 1212, 376, 380, 384, 1216, 1220, 388, 391, 395, 399, 402, 409, 412, 415, 419, 423, 427, 430, 1224, 1228, 1232, 1236, 1240, 1243, 1246, 1249, 434, 1253, 438, 442, 446, 1258, 1263, 450, 454, 458, 462, 467, 470, 1267, 1271, 1276, 474, 478, 1280, 482, 486, 1284, 490, 493, 497, 501, 1288, 1291, 505, 509, 1295, 513, 1300, 517, 521, 526, 530, 534, 537, 541, 546, 550, 554, 560, 564, 567, 570, 575, 578, 581, 584, 588, 598, 602, 610, 614, 620, 626, 631, 635, 640, 645, 651, 1304, 1308, 1314, 1317, 1321, 1325, 1328, 1331, 1336, 1341, 1347, 1351, 1355, 1360, 1366, 1372, 1377, 660, 664, 668, 1383, 1387, 672, 1391, 677, 681, 1395, 1399, 685, 689, 1403, 1407, 693, 1411, 697, 701, 1415, 1419, 705, 708, 712, 717, 721, 726, 1423, 1426, 1431, 1435, 730, 1439, 734, 738, 1443, 743, 747, 751, 1447, 755, 759, 1451, 765, 769, 776, 780, 1455, 1459, 786, 790, 1463, 796, 800, 804, 811, 815, 824, 828, 1467, 1472, 832, 836, 840, 845, 1476, 1480, 849, 853, 857, 861, 1484, 1488, 865, 869, 1505, 1509, 873, 1517, 877, 881, 1513, 886, 1570, 891, 896, 901, 1492, 905, 909, 913, 1497, 1501, 917, 921, 1521, 925, 929, 934, 1525, 1529, 1534, 939, 1538, 944, 948, 952, 958, 963, 967, 1542, 1546, 1550, 1554, 974, 1558, 978, 982, 986, 990, 1562, 1566, 995, 999, 1003, 1574, 1578, 1008, 1012, 1582, 1017, 1586, 1021, 1025, 1029, 1590, 1594, 1035, 1599, 1040, 1044, 1603, 1048, 1607, 1052, 1611, 1056, 1060, 1615, 1064, 1068, 1619] (by decide +kernel) (by decide +kernel) w h).1
theorem inlX0 : ∀ w ∈ wsX00, w ∈ wsL_law := fun _ h => List.mem_append_left _ (List.mem_append_right _ h)
theorem inX0 : ∀ w ∈ wsX00, w ∈ lw_tbl := fun w h => wsL_law_in w (inlX0 w h)
theorem inlX1 : ∀ w ∈ wsX10, w ∈ wsL_law := fun _ h => List.mem_append_left _ (List.mem_append_left _ (List.mem_append_right _ h))
theorem inX1 : ∀ w ∈ wsX10, w ∈ lw_tbl := fun w h => wsL_law_in w (inlX1 w h)
theorem inlX2 : ∀ w ∈ wsX20, w ∈ wsL_law := fun _ h => List.mem_append_left _ (List.mem_append_left _ (List.mem_append_left _ (List.mem_append_right _ h)))
theorem inX2 : ∀ w ∈ wsX20, w ∈ lw_tbl := fun w h => wsL_law_in w (inlX2 w h)
theorem inlX3 : ∀ w ∈ wsX30, w ∈ wsL_law := fun _ h => List.mem_append_left _ (List.mem_append_left _ (List.mem_append_left _ (List.mem_append_left _ (List.mem_append_left _ (List.mem_append_right _ h)))))
theorem inX3 : ∀ w ∈ wsX30, w ∈ lw_tbl := fun w h => wsL_law_in w (inlX3 w h)
theorem inlX4 : ∀ w ∈ wsX40, w ∈ wsL_law := fun _ h => List.mem_append_left _ (List.mem_append_left _ (List.mem_append_left _ (List.mem_append_left _ (List.mem_append_right _ h))))
theorem inX4 : ∀ w ∈ wsX40, w ∈ lw_tbl := fun w h => wsL_law_in w (inlX4 w h)
theorem inlX5 : ∀ w ∈ wsX50, w ∈ wsL_law := fun _ h => List.mem_append_left _ (List.mem_append_left _ (List.mem_append_left _ (List.mem_append_left _ (List.mem_append_left _ (List.mem_append_left _ (List.mem_append_right _ h))))))
theorem inX5 : ∀ w ∈ wsX50, w ∈ lw_tbl := fun w h => wsL_law_in w (inlX5 w h)
theorem inlX6 : ∀ w ∈ wsX60, w ∈ wsL_law := fun _ h => List.mem_append_left _ (List.mem_append_left _ (List.mem_append_left _ (List.mem_append_left _ (List.mem_append_left _ (List.mem_append_left _ (List.mem_append_left _ (List.mem_append_left _ (List.mem_append_right _ h))))))))
theorem inX6 : ∀ w ∈ wsX60, w ∈ lw_tbl := fun w h => wsL_law_in w (inlX6 w h)
theorem inlX7 : ∀ w ∈ wsX70, w ∈ wsL_law := fun _ h => List.mem_append_left _ (List.mem_append_left _ (List.mem_append_left _ (List.mem_append_left _ (List.mem_append_left _ (List.mem_append_left _ (List.mem_append_left _ (List.mem_append_right _ h)))))))
theorem inX7 : ∀ w ∈ wsX70, w ∈ lw_tbl := fun w h => wsL_law_in w (inlX7 w h)
theorem inJ6 : ∀ w ∈ wsJ60, w ∈ lw_tbl := by decide +kernel
theorem inJ0 : ∀ w ∈ wsJ00, w ∈ lw_tbl := by decide +kernel
theorem inJ1 : ∀ w ∈ wsJ10, w ∈ lw_tbl := by decide +kernel
theorem inJ2 : ∀ w ∈ wsJ20, w ∈ lw_tbl := by decide +kernel
theorem inJ10 : ∀ w ∈ wsJ100, w ∈ lw_tbl := by decide +kernel
theorem inJ3 : ∀ w ∈ wsJ30, w ∈ lw_tbl := by decide +kernel
theorem dX0_init_0 : decode cX0_init 0 = .ok (.aload_n 0, 1) := by decide +kernel
theorem dX0_init_1 : decode cX0_init 1 = .ok (.invokespecial 3, 3) := by decide +kernel
theorem dX0_init_4 : decode cX0_init 4 = .ok (.aload_n 0, 1) := by decide +kernel
theorem dX0_init_5 : decode cX0_init 5 = .ok (.aload_n 1, 1) := by decide +kernel
theorem dX0_init_6 : decode cX0_init 6 = .ok (.putfield 9, 3) := by decide +kernel
theorem dX0_init_9 : decode cX0_init 9 = .ok (.aload_n 0, 1) := by decide +kernel
theorem dX0_init_10 : decode cX0_init 10 = .ok (.aload_n 2, 1) := by decide +kernel
theorem dX0_init_11 : decode cX0_init 11 = .ok (.putfield 15, 3) := by decide +kernel
theorem dX0_init_14 : decode cX0_init 14 = .ok (.aload_n 0, 1) := by decide +kernel
theorem dX0_init_15 : decode cX0_init 15 = .ok (.aload_n 3, 1) := by decide +kernel
theorem dX0_init_16 : decode cX0_init 16 = .ok (.putfield 18, 3) := by decide +kernel
theorem dX0_init_19 : decode cX0_init 19 = .ok (.return_, 1) := by decide +kernel
theorem dX0_isSaying_0 : decode cX0_isSaying 0 = .ok (.lload_n 1, 1) := by decide +kernel
theorem dX0_isSaying_1 : decode cX0_isSaying 1 = .ok (.lconst 0, 1) := by decide +kernel
theorem dX0_isSaying_2 : decode cX0_isSaying 2 = .ok (.lcmp, 1) := by decide +kernel
theorem dX0_isSaying_3 : decode cX0_isSaying 3 = .ok (.ifCond .lt 41, 3) := by decide +kernel
theorem dX0_isSaying_6 : decode cX0_isSaying 6 = .ok (.lload_n 1, 1) := by decide +kernel
theorem dX0_isSaying_7 : decode cX0_isSaying 7 = .ok (.ldc2_w 22, 3) := by decide +kernel
theorem dX0_isSaying_10 : decode cX0_isSaying 10 = .ok (.ldiv, 1) := by decide +kernel
theorem dX0_isSaying_11 : decode cX0_isSaying 11 = .ok (.aload_n 0, 1) := by decide +kernel
theorem dX0_isSaying_12 : decode cX0_isSaying 12 = .ok (.getfield 9, 3) := by decide +kernel
theorem dX0_isSaying_15 : decode cX0_isSaying 15 = .ok (.getfield 24, 3) := by decide +kernel
theorem dX0_isSaying_18 : decode cX0_isSaying 18 = .ok (.i2l, 1) := by decide +kernel
theorem dX0_isSaying_19 : decode cX0_isSaying 19 = .ok (.lcmp, 1) := by decide +kernel
theorem dX0_isSaying_20 : decode cX0_isSaying 20 = .ok (.ifCond .ge 24, 3) := by decide +kernel
theorem dX0_isSaying_23 : decode cX0_isSaying 23 = .ok (.lload_n 1, 1) := by decide +kernel
theorem dX0_isSaying_24 : decode cX0_isSaying 24 = .ok (.ldc2_w 22, 3) := by decide +kernel
theorem dX0_isSaying_27 : decode cX0_isSaying 27 = .ok (.lrem, 1) := by decide +kernel
theorem dX0_isSaying_28 : decode cX0_isSaying 28 = .ok (.aload_n 0, 1) := by decide +kernel
theorem dX0_isSaying_29 : decode cX0_isSaying 29 = .ok (.getfield 9, 3) := by decide +kernel
theorem dX0_isSaying_32 : decode cX0_isSaying 32 = .ok (.getfield 30, 3) := by decide +kernel
theorem dX0_isSaying_35 : decode cX0_isSaying 35 = .ok (.i2l, 1) := by decide +kernel
theorem dX0_isSaying_36 : decode cX0_isSaying 36 = .ok (.lcmp, 1) := by decide +kernel
theorem dX0_isSaying_37 : decode cX0_isSaying 37 = .ok (.ifCond .ge 7, 3) := by decide +kernel
theorem dX0_isSaying_40 : decode cX0_isSaying 40 = .ok (.iconst 1, 1) := by decide +kernel
theorem dX0_isSaying_41 : decode cX0_isSaying 41 = .ok (.goto 4, 3) := by decide +kernel
theorem dX0_isSaying_44 : decode cX0_isSaying 44 = .ok (.iconst 0, 1) := by decide +kernel
theorem dX0_isSaying_45 : decode cX0_isSaying 45 = .ok (.ireturn, 1) := by decide +kernel
set_option maxRecDepth 20000 in
theorem ggX0_areSayings_X3_elementOf : GoodIn wsX0_areSayings wsX3_elementOf := goodIn_r _ [6, 7, 8, 9, 10, 11, 12, 13, 14, 27, 28, 29] (by decide +kernel) (by decide +kernel)
set_option maxRecDepth 20000 in
theorem gX0_areSayings_X3_elementOf : GoodIn wsX0_areSayings (wsV RX0 33 RX3 yX3_elementOf wsX3_elementOf) := goodIn_app (goodIn_of _ (by decide +kernel)) ggX0_areSayings_X3_elementOf
set_option maxRecDepth 20000 in
theorem ggX0_areSayings_X0_isSaying : GoodIn wsX0_areSayings wsX0_isSaying := goodIn_r _ [19, 20, 21, 22, 23, 24, 25, 26, 30, 31, 32, 33, 34, 35, 36, 37, 38, 39, 40, 41, 42, 43] (by decide +kernel) (by decide +kernel)
set_option maxRecDepth 20000 in
theorem gX0_areSayings_X0_isSaying : GoodIn wsX0_areSayings (wsV RX0 39 RX0 yX0_isSaying wsX0_isSaying) := goodIn_app (goodIn_of _ (by decide +kernel)) ggX0_areSayings_X0_isSaying
theorem dX0_areSayings_0 : decode cX0_areSayings 0 = .ok (.iconst 0, 1) := by decide +kernel
theorem dX0_areSayings_1 : decode cX0_areSayings 1 = .ok (.istore_n 3, 1) := by decide +kernel
theorem dX0_areSayings_2 : decode cX0_areSayings 2 = .ok (.iload_n 3, 1) := by decide +kernel
theorem dX0_areSayings_3 : decode cX0_areSayings 3 = .ok (.iload_n 2, 1) := by decide +kernel
theorem dX0_areSayings_4 : decode cX0_areSayings 4 = .ok (.if_icmp .ge 27, 3) := by decide +kernel
theorem dX0_areSayings_7 : decode cX0_areSayings 7 = .ok (.aload_n 0, 1) := by decide +kernel
theorem dX0_areSayings_8 : decode cX0_areSayings 8 = .ok (.aload_n 0, 1) := by decide +kernel
theorem dX0_areSayings_9 : decode cX0_areSayings 9 = .ok (.getfield 18, 3) := by decide +kernel
theorem dX0_areSayings_12 : decode cX0_areSayings 12 = .ok (.iload_n 1, 1) := by decide +kernel
theorem dX0_areSayings_13 : decode cX0_areSayings 13 = .ok (.iload_n 3, 1) := by decide +kernel
theorem dX0_areSayings_14 : decode cX0_areSayings 14 = .ok (.invokevirtual 33, 3) := by decide +kernel
theorem dX0_areSayings_17 : decode cX0_areSayings 17 = .ok (.invokevirtual 39, 3) := by decide +kernel
theorem dX0_areSayings_20 : decode cX0_areSayings 20 = .ok (.ifCond .ne 5, 3) := by decide +kernel
theorem dX0_areSayings_23 : decode cX0_areSayings 23 = .ok (.iconst 0, 1) := by decide +kernel
theorem dX0_areSayings_24 : decode cX0_areSayings 24 = .ok (.ireturn, 1) := by decide +kernel
theorem dX0_areSayings_25 : decode cX0_areSayings 25 = .ok (.iinc 3 1, 3) := by decide +kernel
theorem dX0_areSayings_28 : decode cX0_areSayings 28 = .ok (.goto (-26), 3) := by decide +kernel
theorem dX0_areSayings_31 : decode cX0_areSayings 31 = .ok (.iconst 1, 1) := by decide +kernel
theorem dX0_areSayings_32 : decode cX0_areSayings 32 = .ok (.ireturn, 1) := by decide +kernel
set_option maxRecDepth 20000 in
theorem ggX0_speakerOf_X3_elementOf : GoodIn wsX0_speakerOf wsX3_elementOf := goodIn_r _ [7, 8, 9, 10, 11, 12, 13, 14, 15, 19, 20, 21] (by decide +kernel) (by decide +kernel)
set_option maxRecDepth 20000 in
theorem gX0_speakerOf_X3_elementOf : GoodIn wsX0_speakerOf (wsV RX0 33 RX3 yX3_elementOf wsX3_elementOf) := goodIn_app (goodIn_of _ (by decide +kernel)) ggX0_speakerOf_X3_elementOf
theorem dX0_speakerOf_0 : decode cX0_speakerOf 0 = .ok (.aload_n 0, 1) := by decide +kernel
theorem dX0_speakerOf_1 : decode cX0_speakerOf 1 = .ok (.getfield 18, 3) := by decide +kernel
theorem dX0_speakerOf_4 : decode cX0_speakerOf 4 = .ok (.iload_n 1, 1) := by decide +kernel
theorem dX0_speakerOf_5 : decode cX0_speakerOf 5 = .ok (.iload_n 2, 1) := by decide +kernel
theorem dX0_speakerOf_6 : decode cX0_speakerOf 6 = .ok (.invokevirtual 33, 3) := by decide +kernel
theorem dX0_speakerOf_9 : decode cX0_speakerOf 9 = .ok (.ldc2_w 22, 3) := by decide +kernel
theorem dX0_speakerOf_12 : decode cX0_speakerOf 12 = .ok (.ldiv, 1) := by decide +kernel
theorem dX0_speakerOf_13 : decode cX0_speakerOf 13 = .ok (.l2i, 1) := by decide +kernel
theorem dX0_speakerOf_14 : decode cX0_speakerOf 14 = .ok (.ireturn, 1) := by decide +kernel
set_option maxRecDepth 20000 in
theorem ggX0_sightOf_X3_elementOf : GoodIn wsX0_sightOf wsX3_elementOf := goodIn_r _ [7, 8, 9, 10, 11, 12, 13, 14, 15, 19, 20, 21] (by decide +kernel) (by decide +kernel)
set_option maxRecDepth 20000 in
theorem gX0_sightOf_X3_elementOf : GoodIn wsX0_sightOf (wsV RX0 33 RX3 yX3_elementOf wsX3_elementOf) := goodIn_app (goodIn_of _ (by decide +kernel)) ggX0_sightOf_X3_elementOf
theorem dX0_sightOf_0 : decode cX0_sightOf 0 = .ok (.aload_n 0, 1) := by decide +kernel
theorem dX0_sightOf_1 : decode cX0_sightOf 1 = .ok (.getfield 18, 3) := by decide +kernel
theorem dX0_sightOf_4 : decode cX0_sightOf 4 = .ok (.iload_n 1, 1) := by decide +kernel
theorem dX0_sightOf_5 : decode cX0_sightOf 5 = .ok (.iload_n 2, 1) := by decide +kernel
theorem dX0_sightOf_6 : decode cX0_sightOf 6 = .ok (.invokevirtual 33, 3) := by decide +kernel
theorem dX0_sightOf_9 : decode cX0_sightOf 9 = .ok (.ldc2_w 22, 3) := by decide +kernel
theorem dX0_sightOf_12 : decode cX0_sightOf 12 = .ok (.lrem, 1) := by decide +kernel
theorem dX0_sightOf_13 : decode cX0_sightOf 13 = .ok (.l2i, 1) := by decide +kernel
theorem dX0_sightOf_14 : decode cX0_sightOf 14 = .ok (.ireturn, 1) := by decide +kernel
set_option maxRecDepth 20000 in
theorem ggX0_firstWrong_X5_become : GoodIn wsX0_firstWrong wsX5_become := goodIn_r _ [8, 9, 10, 11, 12, 13, 14, 15, 16, 17, 18, 19, 20, 21, 22, 23, 24, 25, 89, 90, 91, 92, 93, 94, 95, 96, 97, 98, 99, 100, 101, 102] (by decide +kernel) (by decide +kernel)
set_option maxRecDepth 20000 in
theorem gX0_firstWrong_X5_become : GoodIn wsX0_firstWrong (wsV RX0 43 RX5 yX5_become wsX5_become) := goodIn_app (goodIn_of _ (by decide +kernel)) ggX0_firstWrong_X5_become
set_option maxRecDepth 20000 in
theorem ggX0_firstWrong_X3_elementOf : GoodIn wsX0_firstWrong wsX3_elementOf := goodIn_r _ [30, 31, 32, 33, 34, 35, 36, 37, 38, 103, 104, 105] (by decide +kernel) (by decide +kernel)
set_option maxRecDepth 20000 in
theorem gX0_firstWrong_X3_elementOf : GoodIn wsX0_firstWrong (wsV RX0 33 RX3 yX3_elementOf wsX3_elementOf) := goodIn_app (goodIn_of _ (by decide +kernel)) ggX0_firstWrong_X3_elementOf
set_option maxRecDepth 20000 in
theorem ggX0_firstWrong_X0_isSaying : GoodIn wsX0_firstWrong wsX0_isSaying := goodIn_r _ [43, 44, 2, 45, 46, 86, 87, 88, 89, 90, 91, 92, 93, 94, 95, 96, 97, 98, 99, 100, 101, 102] (by decide +kernel) (by decide +kernel)
set_option maxRecDepth 20000 in
theorem gX0_firstWrong_X0_isSaying : GoodIn wsX0_firstWrong (wsV RX0 39 RX0 yX0_isSaying wsX0_isSaying) := goodIn_app (goodIn_of _ (by decide +kernel)) ggX0_firstWrong_X0_isSaying
set_option maxRecDepth 20000 in
theorem ggX0_firstWrong_X0_speakerOf : GoodIn wsX0_firstWrong wsX0_speakerOf := goodIn_r _ [50, 3, 44, 26, 27, 28, 29, 30, 31, 32, 33, 34, 35, 36, 37, 38, 86, 87, 88, 103, 104, 105] (by decide +kernel) (by decide +kernel)
set_option maxRecDepth 20000 in
theorem gX0_firstWrong_X0_speakerOf : GoodIn wsX0_firstWrong (wsV RX0 47 RX0 yX0_speakerOf wsX0_speakerOf) := goodIn_app (goodIn_of _ (by decide +kernel)) ggX0_firstWrong_X0_speakerOf
set_option maxRecDepth 20000 in
theorem ggX0_firstWrong_X0_sightOf : GoodIn wsX0_firstWrong wsX0_sightOf := goodIn_r _ [54, 3, 44, 26, 27, 28, 29, 30, 31, 32, 33, 34, 35, 36, 37, 38, 86, 87, 88, 103, 104, 105] (by decide +kernel) (by decide +kernel)
set_option maxRecDepth 20000 in
theorem gX0_firstWrong_X0_sightOf : GoodIn wsX0_firstWrong (wsV RX0 51 RX0 yX0_sightOf wsX0_sightOf) := goodIn_app (goodIn_of _ (by decide +kernel)) ggX0_firstWrong_X0_sightOf
set_option maxRecDepth 20000 in
theorem ggX0_firstWrong_X5_sayableBy : GoodIn wsX0_firstWrong wsX5_sayableBy := goodIn_r _ [58, 24, 22, 13, 59, 60, 61, 7, 62, 11, 16, 21, 63, 64, 65, 66, 9, 67, 68, 69, 70, 10, 23, 71, 34, 72, 89, 90, 91, 92, 93, 94, 95, 96, 97, 98, 99, 100, 101, 102] (by decide +kernel) (by decide +kernel)
set_option maxRecDepth 20000 in
theorem gX0_firstWrong_X5_sayableBy : GoodIn wsX0_firstWrong (wsV RX0 54 RX5 yX5_sayableBy wsX5_sayableBy) := goodIn_app (goodIn_of _ (by decide +kernel)) ggX0_firstWrong_X5_sayableBy
set_option maxRecDepth 20000 in
theorem ggX0_firstWrong_X6_has : GoodIn wsX0_firstWrong wsX6_has := goodIn_r _ [74] (by decide +kernel) (by decide +kernel)
set_option maxRecDepth 20000 in
theorem gX0_firstWrong_X6_has_n58 : GoodIn wsX0_firstWrong (wsX6_has) := ggX0_firstWrong_X6_has
set_option maxRecDepth 20000 in
theorem ggX0_firstWrong_X5_tell : GoodIn wsX0_firstWrong wsX5_tell := goodIn_r _ [78, 10, 23, 22, 73, 34, 74, 79, 80, 81, 82, 83, 84, 85, 89, 90, 91, 92, 93, 94, 95, 96, 97, 98, 99, 100, 101, 102] (by decide +kernel) (by decide +kernel)
set_option maxRecDepth 20000 in
theorem gX0_firstWrong_X5_tell : GoodIn wsX0_firstWrong (wsV RX0 62 RX5 yX5_tell wsX5_tell) := goodIn_app (goodIn_of _ (by decide +kernel)) ggX0_firstWrong_X5_tell
theorem dX0_firstWrong_0 : decode cX0_firstWrong 0 = .ok (.aload_n 0, 1) := by decide +kernel
theorem dX0_firstWrong_1 : decode cX0_firstWrong 1 = .ok (.getfield 15, 3) := by decide +kernel
theorem dX0_firstWrong_4 : decode cX0_firstWrong 4 = .ok (.aload_n 0, 1) := by decide +kernel
theorem dX0_firstWrong_5 : decode cX0_firstWrong 5 = .ok (.getfield 9, 3) := by decide +kernel
theorem dX0_firstWrong_8 : decode cX0_firstWrong 8 = .ok (.invokevirtual 43, 3) := by decide +kernel
theorem dX0_firstWrong_11 : decode cX0_firstWrong 11 = .ok (.iconst 0, 1) := by decide +kernel
theorem dX0_firstWrong_12 : decode cX0_firstWrong 12 = .ok (.istore_n 3, 1) := by decide +kernel
theorem dX0_firstWrong_13 : decode cX0_firstWrong 13 = .ok (.iload_n 3, 1) := by decide +kernel
theorem dX0_firstWrong_14 : decode cX0_firstWrong 14 = .ok (.iload_n 2, 1) := by decide +kernel
theorem dX0_firstWrong_15 : decode cX0_firstWrong 15 = .ok (.if_icmp .ge 76, 3) := by decide +kernel
theorem dX0_firstWrong_18 : decode cX0_firstWrong 18 = .ok (.aload_n 0, 1) := by decide +kernel
theorem dX0_firstWrong_19 : decode cX0_firstWrong 19 = .ok (.aload_n 0, 1) := by decide +kernel
theorem dX0_firstWrong_20 : decode cX0_firstWrong 20 = .ok (.getfield 18, 3) := by decide +kernel
theorem dX0_firstWrong_23 : decode cX0_firstWrong 23 = .ok (.iload_n 1, 1) := by decide +kernel
theorem dX0_firstWrong_24 : decode cX0_firstWrong 24 = .ok (.iload_n 3, 1) := by decide +kernel
theorem dX0_firstWrong_25 : decode cX0_firstWrong 25 = .ok (.invokevirtual 33, 3) := by decide +kernel
theorem dX0_firstWrong_28 : decode cX0_firstWrong 28 = .ok (.invokevirtual 39, 3) := by decide +kernel
theorem dX0_firstWrong_31 : decode cX0_firstWrong 31 = .ok (.ifCond .ne 5, 3) := by decide +kernel
theorem dX0_firstWrong_34 : decode cX0_firstWrong 34 = .ok (.iload_n 3, 1) := by decide +kernel
theorem dX0_firstWrong_35 : decode cX0_firstWrong 35 = .ok (.ireturn, 1) := by decide +kernel
theorem dX0_firstWrong_36 : decode cX0_firstWrong 36 = .ok (.aload_n 0, 1) := by decide +kernel
theorem dX0_firstWrong_37 : decode cX0_firstWrong 37 = .ok (.iload_n 1, 1) := by decide +kernel
theorem dX0_firstWrong_38 : decode cX0_firstWrong 38 = .ok (.iload_n 3, 1) := by decide +kernel
theorem dX0_firstWrong_39 : decode cX0_firstWrong 39 = .ok (.invokevirtual 47, 3) := by decide +kernel
theorem dX0_firstWrong_42 : decode cX0_firstWrong 42 = .ok (.istore 4, 2) := by decide +kernel
theorem dX0_firstWrong_44 : decode cX0_firstWrong 44 = .ok (.aload_n 0, 1) := by decide +kernel
theorem dX0_firstWrong_45 : decode cX0_firstWrong 45 = .ok (.iload_n 1, 1) := by decide +kernel
theorem dX0_firstWrong_46 : decode cX0_firstWrong 46 = .ok (.iload_n 3, 1) := by decide +kernel
theorem dX0_firstWrong_47 : decode cX0_firstWrong 47 = .ok (.invokevirtual 51, 3) := by decide +kernel
theorem dX0_firstWrong_50 : decode cX0_firstWrong 50 = .ok (.istore 5, 2) := by decide +kernel
theorem dX0_firstWrong_52 : decode cX0_firstWrong 52 = .ok (.aload_n 0, 1) := by decide +kernel
theorem dX0_firstWrong_53 : decode cX0_firstWrong 53 = .ok (.getfield 15, 3) := by decide +kernel
theorem dX0_firstWrong_56 : decode cX0_firstWrong 56 = .ok (.iload 4, 2) := by decide +kernel
theorem dX0_firstWrong_58 : decode cX0_firstWrong 58 = .ok (.invokevirtual 54, 3) := by decide +kernel
theorem dX0_firstWrong_61 : decode cX0_firstWrong 61 = .ok (.iload 5, 2) := by decide +kernel
theorem dX0_firstWrong_63 : decode cX0_firstWrong 63 = .ok (.invokestatic 58, 3) := by decide +kernel
theorem dX0_firstWrong_66 : decode cX0_firstWrong 66 = .ok (.ifCond .ne 5, 3) := by decide +kernel
theorem dX0_firstWrong_69 : decode cX0_firstWrong 69 = .ok (.iload_n 3, 1) := by decide +kernel
theorem dX0_firstWrong_70 : decode cX0_firstWrong 70 = .ok (.ireturn, 1) := by decide +kernel
theorem dX0_firstWrong_71 : decode cX0_firstWrong 71 = .ok (.aload_n 0, 1) := by decide +kernel
theorem dX0_firstWrong_72 : decode cX0_firstWrong 72 = .ok (.getfield 15, 3) := by decide +kernel
theorem dX0_firstWrong_75 : decode cX0_firstWrong 75 = .ok (.iload 4, 2) := by decide +kernel
theorem dX0_firstWrong_77 : decode cX0_firstWrong 77 = .ok (.iconst 1, 1) := by decide +kernel
theorem dX0_firstWrong_78 : decode cX0_firstWrong 78 = .ok (.iload 5, 2) := by decide +kernel
theorem dX0_firstWrong_80 : decode cX0_firstWrong 80 = .ok (.ishl, 1) := by decide +kernel
theorem dX0_firstWrong_81 : decode cX0_firstWrong 81 = .ok (.invokevirtual 62, 3) := by decide +kernel
theorem dX0_firstWrong_84 : decode cX0_firstWrong 84 = .ok (.pop, 1) := by decide +kernel
theorem dX0_firstWrong_85 : decode cX0_firstWrong 85 = .ok (.iinc 3 1, 3) := by decide +kernel
theorem dX0_firstWrong_88 : decode cX0_firstWrong 88 = .ok (.goto (-75), 3) := by decide +kernel
theorem dX0_firstWrong_91 : decode cX0_firstWrong 91 = .ok (.iconst (-1), 1) := by decide +kernel
theorem dX0_firstWrong_92 : decode cX0_firstWrong 92 = .ok (.ireturn, 1) := by decide +kernel
set_option maxRecDepth 20000 in
theorem ggX0_falseSayings_X0_speakerOf : GoodIn wsX0_falseSayings wsX0_speakerOf := goodIn_r _ [6, 7, 8, 9, 10, 11, 12, 13, 14, 15, 16, 17, 18, 19, 20, 21, 36, 37, 38, 39, 40, 41] (by decide +kernel) (by decide +kernel)
set_option maxRecDepth 20000 in
theorem gX0_falseSayings_X0_speakerOf : GoodIn wsX0_falseSayings (wsV RX0 47 RX0 yX0_speakerOf wsX0_speakerOf) := goodIn_app (goodIn_of _ (by decide +kernel)) ggX0_falseSayings_X0_speakerOf
set_option maxRecDepth 20000 in
theorem ggX0_falseSayings_X5_barredTo : GoodIn wsX0_falseSayings wsX5_barredTo := goodIn_r _ [26, 27, 28, 29, 42, 43, 44, 45, 46, 47, 48, 49, 50, 51, 52, 53, 54, 55] (by decide +kernel) (by decide +kernel)
set_option maxRecDepth 20000 in
theorem gX0_falseSayings_X5_barredTo : GoodIn wsX0_falseSayings (wsV RX0 65 RX5 yX5_barredTo wsX5_barredTo) := goodIn_app (goodIn_of _ (by decide +kernel)) ggX0_falseSayings_X5_barredTo
set_option maxRecDepth 20000 in
theorem ggX0_falseSayings_X0_sightOf : GoodIn wsX0_falseSayings wsX0_sightOf := goodIn_r _ [33, 7, 8, 9, 10, 11, 12, 13, 14, 15, 16, 17, 18, 19, 20, 21, 36, 37, 38, 39, 40, 41] (by decide +kernel) (by decide +kernel)
set_option maxRecDepth 20000 in
theorem gX0_falseSayings_X0_sightOf : GoodIn wsX0_falseSayings (wsV RX0 51 RX0 yX0_sightOf wsX0_sightOf) := goodIn_app (goodIn_of _ (by decide +kernel)) ggX0_falseSayings_X0_sightOf
set_option maxRecDepth 20000 in
theorem ggX0_falseSayings_X6_has : GoodIn wsX0_falseSayings wsX6_has := goodIn_r _ [35] (by decide +kernel) (by decide +kernel)
set_option maxRecDepth 20000 in
theorem gX0_falseSayings_X6_has_n58 : GoodIn wsX0_falseSayings (wsX6_has) := ggX0_falseSayings_X6_has
theorem dX0_falseSayings_0 : decode cX0_falseSayings 0 = .ok (.iconst 0, 1) := by decide +kernel
theorem dX0_falseSayings_1 : decode cX0_falseSayings 1 = .ok (.istore_n 3, 1) := by decide +kernel
theorem dX0_falseSayings_2 : decode cX0_falseSayings 2 = .ok (.iconst 0, 1) := by decide +kernel
theorem dX0_falseSayings_3 : decode cX0_falseSayings 3 = .ok (.istore 4, 2) := by decide +kernel
theorem dX0_falseSayings_5 : decode cX0_falseSayings 5 = .ok (.iload 4, 2) := by decide +kernel
theorem dX0_falseSayings_7 : decode cX0_falseSayings 7 = .ok (.iload_n 2, 1) := by decide +kernel
theorem dX0_falseSayings_8 : decode cX0_falseSayings 8 = .ok (.if_icmp .ge 39, 3) := by decide +kernel
theorem dX0_falseSayings_11 : decode cX0_falseSayings 11 = .ok (.aload_n 0, 1) := by decide +kernel
theorem dX0_falseSayings_12 : decode cX0_falseSayings 12 = .ok (.getfield 9, 3) := by decide +kernel
theorem dX0_falseSayings_15 : decode cX0_falseSayings 15 = .ok (.aload_n 0, 1) := by decide +kernel
theorem dX0_falseSayings_16 : decode cX0_falseSayings 16 = .ok (.iload_n 1, 1) := by decide +kernel
theorem dX0_falseSayings_17 : decode cX0_falseSayings 17 = .ok (.iload 4, 2) := by decide +kernel
theorem dX0_falseSayings_19 : decode cX0_falseSayings 19 = .ok (.invokevirtual 47, 3) := by decide +kernel
theorem dX0_falseSayings_22 : decode cX0_falseSayings 22 = .ok (.invokevirtual 65, 3) := by decide +kernel
theorem dX0_falseSayings_25 : decode cX0_falseSayings 25 = .ok (.aload_n 0, 1) := by decide +kernel
theorem dX0_falseSayings_26 : decode cX0_falseSayings 26 = .ok (.iload_n 1, 1) := by decide +kernel
theorem dX0_falseSayings_27 : decode cX0_falseSayings 27 = .ok (.iload 4, 2) := by decide +kernel
theorem dX0_falseSayings_29 : decode cX0_falseSayings 29 = .ok (.invokevirtual 51, 3) := by decide +kernel
theorem dX0_falseSayings_32 : decode cX0_falseSayings 32 = .ok (.invokestatic 58, 3) := by decide +kernel
theorem dX0_falseSayings_35 : decode cX0_falseSayings 35 = .ok (.ifCond .eq 6, 3) := by decide +kernel
theorem dX0_falseSayings_38 : decode cX0_falseSayings 38 = .ok (.iinc 3 1, 3) := by decide +kernel
theorem dX0_falseSayings_41 : decode cX0_falseSayings 41 = .ok (.iinc 4 1, 3) := by decide +kernel
theorem dX0_falseSayings_44 : decode cX0_falseSayings 44 = .ok (.goto (-39), 3) := by decide +kernel
theorem dX0_falseSayings_47 : decode cX0_falseSayings 47 = .ok (.iload_n 3, 1) := by decide +kernel
theorem dX0_falseSayings_48 : decode cX0_falseSayings 48 = .ok (.ireturn, 1) := by decide +kernel
set_option maxRecDepth 20000 in
theorem ggX0_silentOf_X0_isSilent : GoodIn wsX0_silentOf wsX0_isSilent := goodIn_r _ [7, 1, 8, 9, 10, 11, 6, 12, 13, 14, 15, 16, 17, 18, 19, 20, 21, 22, 23, 24, 25, 26, 27, 28, 29, 30, 31, 32, 33, 36, 37, 38, 39, 40, 41, 42, 43, 44, 45, 46, 47, 48, 49, 50, 51, 52, 53, 54, 55] (by decide +kernel) (by decide +kernel)
set_option maxRecDepth 20000 in
theorem gX0_silentOf_X0_isSilent : GoodIn wsX0_silentOf (wsV RX0 68 RX0 yX0_isSilent wsX0_isSilent) := goodIn_app (goodIn_of _ (by decide +kernel)) ggX0_silentOf_X0_isSilent
set_option maxRecDepth 20000 in
theorem ggX0_silentOf_X6_with : GoodIn wsX0_silentOf wsX6_with := goodIn_r _ [35] (by decide +kernel) (by decide +kernel)
set_option maxRecDepth 20000 in
theorem gX0_silentOf_X6_with_n72 : GoodIn wsX0_silentOf (wsX6_with) := ggX0_silentOf_X6_with
theorem dX0_silentOf_0 : decode cX0_silentOf 0 = .ok (.iconst 0, 1) := by decide +kernel
theorem dX0_silentOf_1 : decode cX0_silentOf 1 = .ok (.istore 4, 2) := by decide +kernel
theorem dX0_silentOf_3 : decode cX0_silentOf 3 = .ok (.iconst 0, 1) := by decide +kernel
theorem dX0_silentOf_4 : decode cX0_silentOf 4 = .ok (.istore 5, 2) := by decide +kernel
theorem dX0_silentOf_6 : decode cX0_silentOf 6 = .ok (.iload 5, 2) := by decide +kernel
theorem dX0_silentOf_8 : decode cX0_silentOf 8 = .ok (.aload_n 0, 1) := by decide +kernel
theorem dX0_silentOf_9 : decode cX0_silentOf 9 = .ok (.getfield 9, 3) := by decide +kernel
theorem dX0_silentOf_12 : decode cX0_silentOf 12 = .ok (.getfield 24, 3) := by decide +kernel
theorem dX0_silentOf_15 : decode cX0_silentOf 15 = .ok (.if_icmp .ge 27, 3) := by decide +kernel
theorem dX0_silentOf_18 : decode cX0_silentOf 18 = .ok (.iload 4, 2) := by decide +kernel
theorem dX0_silentOf_20 : decode cX0_silentOf 20 = .ok (.iload 5, 2) := by decide +kernel
theorem dX0_silentOf_22 : decode cX0_silentOf 22 = .ok (.aload_n 0, 1) := by decide +kernel
theorem dX0_silentOf_23 : decode cX0_silentOf 23 = .ok (.iload 5, 2) := by decide +kernel
theorem dX0_silentOf_25 : decode cX0_silentOf 25 = .ok (.iload_n 1, 1) := by decide +kernel
theorem dX0_silentOf_26 : decode cX0_silentOf 26 = .ok (.iload_n 2, 1) := by decide +kernel
theorem dX0_silentOf_27 : decode cX0_silentOf 27 = .ok (.iload_n 3, 1) := by decide +kernel
theorem dX0_silentOf_28 : decode cX0_silentOf 28 = .ok (.invokevirtual 68, 3) := by decide +kernel
theorem dX0_silentOf_31 : decode cX0_silentOf 31 = .ok (.invokestatic 72, 3) := by decide +kernel
theorem dX0_silentOf_34 : decode cX0_silentOf 34 = .ok (.istore 4, 2) := by decide +kernel
theorem dX0_silentOf_36 : decode cX0_silentOf 36 = .ok (.iinc 5 1, 3) := by decide +kernel
theorem dX0_silentOf_39 : decode cX0_silentOf 39 = .ok (.goto (-33), 3) := by decide +kernel
theorem dX0_silentOf_42 : decode cX0_silentOf 42 = .ok (.iload 4, 2) := by decide +kernel
theorem dX0_silentOf_44 : decode cX0_silentOf 44 = .ok (.ireturn, 1) := by decide +kernel
set_option maxRecDepth 20000 in
theorem ggX0_isSilent_X0_sightOf : GoodIn wsX0_isSilent wsX0_sightOf := goodIn_r _ [7, 8, 9, 10, 11, 12, 13, 14, 15, 16, 17, 18, 19, 20, 21, 22, 29, 30, 31, 46, 47, 48] (by decide +kernel) (by decide +kernel)
set_option maxRecDepth 20000 in
theorem gX0_isSilent_X0_sightOf : GoodIn wsX0_isSilent (wsV RX0 51 RX0 yX0_sightOf wsX0_sightOf) := goodIn_app (goodIn_of _ (by decide +kernel)) ggX0_isSilent_X0_sightOf
set_option maxRecDepth 20000 in
theorem ggX0_isSilent_X0_speakerOf : GoodIn wsX0_isSilent wsX0_speakerOf := goodIn_r _ [26, 8, 9, 10, 11, 12, 13, 14, 15, 16, 17, 18, 19, 20, 21, 22, 29, 30, 31, 46, 47, 48] (by decide +kernel) (by decide +kernel)
set_option maxRecDepth 20000 in
theorem gX0_isSilent_X0_speakerOf : GoodIn wsX0_isSilent (wsV RX0 47 RX0 yX0_speakerOf wsX0_speakerOf) := goodIn_app (goodIn_of _ (by decide +kernel)) ggX0_isSilent_X0_speakerOf
set_option maxRecDepth 20000 in
theorem ggX0_isSilent_X6_has : GoodIn wsX0_isSilent wsX6_has := goodIn_r _ [28] (by decide +kernel) (by decide +kernel)
set_option maxRecDepth 20000 in
theorem gX0_isSilent_X6_has_n58 : GoodIn wsX0_isSilent (wsX6_has) := ggX0_isSilent_X6_has
theorem dX0_isSilent_0 : decode cX0_isSilent 0 = .ok (.iconst 0, 1) := by decide +kernel
theorem dX0_isSilent_1 : decode cX0_isSilent 1 = .ok (.istore 5, 2) := by decide +kernel
theorem dX0_isSilent_3 : decode cX0_isSilent 3 = .ok (.iconst 0, 1) := by decide +kernel
theorem dX0_isSilent_4 : decode cX0_isSilent 4 = .ok (.istore 6, 2) := by decide +kernel
theorem dX0_isSilent_6 : decode cX0_isSilent 6 = .ok (.iload 6, 2) := by decide +kernel
theorem dX0_isSilent_8 : decode cX0_isSilent 8 = .ok (.iload_n 3, 1) := by decide +kernel
theorem dX0_isSilent_9 : decode cX0_isSilent 9 = .ok (.if_icmp .ge 72, 3) := by decide +kernel
theorem dX0_isSilent_12 : decode cX0_isSilent 12 = .ok (.aload_n 0, 1) := by decide +kernel
theorem dX0_isSilent_13 : decode cX0_isSilent 13 = .ok (.iload_n 2, 1) := by decide +kernel
theorem dX0_isSilent_14 : decode cX0_isSilent 14 = .ok (.iload 6, 2) := by decide +kernel
theorem dX0_isSilent_16 : decode cX0_isSilent 16 = .ok (.invokevirtual 51, 3) := by decide +kernel
theorem dX0_isSilent_19 : decode cX0_isSilent 19 = .ok (.iload 4, 2) := by decide +kernel
theorem dX0_isSilent_21 : decode cX0_isSilent 21 = .ok (.if_icmp .ne 54, 3) := by decide +kernel
theorem dX0_isSilent_24 : decode cX0_isSilent 24 = .ok (.aload_n 0, 1) := by decide +kernel
theorem dX0_isSilent_25 : decode cX0_isSilent 25 = .ok (.iload_n 2, 1) := by decide +kernel
theorem dX0_isSilent_26 : decode cX0_isSilent 26 = .ok (.iload 6, 2) := by decide +kernel
theorem dX0_isSilent_28 : decode cX0_isSilent 28 = .ok (.invokevirtual 47, 3) := by decide +kernel
theorem dX0_isSilent_31 : decode cX0_isSilent 31 = .ok (.istore 7, 2) := by decide +kernel
theorem dX0_isSilent_33 : decode cX0_isSilent 33 = .ok (.iload 5, 2) := by decide +kernel
theorem dX0_isSilent_35 : decode cX0_isSilent 35 = .ok (.ifCond .eq 11, 3) := by decide +kernel
theorem dX0_isSilent_38 : decode cX0_isSilent 38 = .ok (.iload 7, 2) := by decide +kernel
theorem dX0_isSilent_40 : decode cX0_isSilent 40 = .ok (.iload_n 1, 1) := by decide +kernel
theorem dX0_isSilent_41 : decode cX0_isSilent 41 = .ok (.if_icmp .ne 5, 3) := by decide +kernel
theorem dX0_isSilent_44 : decode cX0_isSilent 44 = .ok (.iconst 0, 1) := by decide +kernel
theorem dX0_isSilent_45 : decode cX0_isSilent 45 = .ok (.ireturn, 1) := by decide +kernel
theorem dX0_isSilent_46 : decode cX0_isSilent 46 = .ok (.iload 5, 2) := by decide +kernel
theorem dX0_isSilent_48 : decode cX0_isSilent 48 = .ok (.ifCond .ne 20, 3) := by decide +kernel
theorem dX0_isSilent_51 : decode cX0_isSilent 51 = .ok (.aload_n 0, 1) := by decide +kernel
theorem dX0_isSilent_52 : decode cX0_isSilent 52 = .ok (.getfield 9, 3) := by decide +kernel
theorem dX0_isSilent_55 : decode cX0_isSilent 55 = .ok (.getfield 76, 3) := by decide +kernel
theorem dX0_isSilent_58 : decode cX0_isSilent 58 = .ok (.iload_n 1, 1) := by decide +kernel
theorem dX0_isSilent_59 : decode cX0_isSilent 59 = .ok (.iaload, 1) := by decide +kernel
theorem dX0_isSilent_60 : decode cX0_isSilent 60 = .ok (.iload 7, 2) := by decide +kernel
theorem dX0_isSilent_62 : decode cX0_isSilent 62 = .ok (.invokestatic 58, 3) := by decide +kernel
theorem dX0_isSilent_65 : decode cX0_isSilent 65 = .ok (.ifCond .eq 7, 3) := by decide +kernel
theorem dX0_isSilent_68 : decode cX0_isSilent 68 = .ok (.iconst 1, 1) := by decide +kernel
theorem dX0_isSilent_69 : decode cX0_isSilent 69 = .ok (.goto 4, 3) := by decide +kernel
theorem dX0_isSilent_72 : decode cX0_isSilent 72 = .ok (.iconst 0, 1) := by decide +kernel
theorem dX0_isSilent_73 : decode cX0_isSilent 73 = .ok (.istore 5, 2) := by decide +kernel
theorem dX0_isSilent_75 : decode cX0_isSilent 75 = .ok (.iinc 6 1, 3) := by decide +kernel
theorem dX0_isSilent_78 : decode cX0_isSilent 78 = .ok (.goto (-72), 3) := by decide +kernel
theorem dX0_isSilent_81 : decode cX0_isSilent 81 = .ok (.iload 5, 2) := by decide +kernel
theorem dX0_isSilent_83 : decode cX0_isSilent 83 = .ok (.ireturn, 1) := by decide +kernel
set_option maxRecDepth 20000 in
theorem ggX0_mouthsBehind_X5_become : GoodIn wsX0_mouthsBehind wsX5_become := goodIn_r _ [7, 8, 9, 10, 11, 12, 13, 14, 15, 16, 17, 18, 19, 20, 21, 22, 23, 24, 89, 90, 91, 92, 93, 94, 95, 96, 97, 98, 99, 100, 101, 102] (by decide +kernel) (by decide +kernel)
set_option maxRecDepth 20000 in
theorem gX0_mouthsBehind_X5_become : GoodIn wsX0_mouthsBehind (wsV RX0 43 RX5 yX5_become wsX5_become) := goodIn_app (goodIn_of _ (by decide +kernel)) ggX0_mouthsBehind_X5_become
set_option maxRecDepth 20000 in
theorem ggX0_mouthsBehind_X0_speakerOf : GoodIn wsX0_mouthsBehind wsX0_speakerOf := goodIn_r _ [29, 30, 31, 32, 33, 34, 35, 36, 37, 38, 39, 40, 41, 42, 43, 44, 86, 87, 88, 103, 104, 105] (by decide +kernel) (by decide +kernel)
set_option maxRecDepth 20000 in
theorem gX0_mouthsBehind_X0_speakerOf : GoodIn wsX0_mouthsBehind (wsV RX0 47 RX0 yX0_speakerOf wsX0_speakerOf) := goodIn_app (goodIn_of _ (by decide +kernel)) ggX0_mouthsBehind_X0_speakerOf
set_option maxRecDepth 20000 in
theorem ggX0_mouthsBehind_X0_sightOf : GoodIn wsX0_mouthsBehind wsX0_sightOf := goodIn_r _ [48, 30, 31, 32, 33, 34, 35, 36, 37, 38, 39, 40, 41, 42, 43, 44, 86, 87, 88, 103, 104, 105] (by decide +kernel) (by decide +kernel)
set_option maxRecDepth 20000 in
theorem gX0_mouthsBehind_X0_sightOf : GoodIn wsX0_mouthsBehind (wsV RX0 51 RX0 yX0_sightOf wsX0_sightOf) := goodIn_app (goodIn_of _ (by decide +kernel)) ggX0_mouthsBehind_X0_sightOf
set_option maxRecDepth 20000 in
theorem ggX0_mouthsBehind_X5_tell : GoodIn wsX0_mouthsBehind wsX5_tell := goodIn_r _ [52, 9, 22, 21, 53, 40, 54, 55, 56, 57, 58, 59, 60, 61, 89, 90, 91, 92, 93, 94, 95, 96, 97, 98, 99, 100, 101, 102] (by decide +kernel) (by decide +kernel)
set_option maxRecDepth 20000 in
theorem gX0_mouthsBehind_X5_tell : GoodIn wsX0_mouthsBehind (wsV RX0 62 RX5 yX5_tell wsX5_tell) := goodIn_app (goodIn_of _ (by decide +kernel)) ggX0_mouthsBehind_X5_tell
set_option maxRecDepth 20000 in
theorem ggX0_mouthsBehind_X5_whoMaySay : GoodIn wsX0_mouthsBehind wsX5_whoMaySay := goodIn_r _ [65, 9, 66, 67, 68, 6, 69, 23, 21, 12, 70, 71, 72, 73, 10, 15, 20, 74, 75, 76, 77, 8, 78, 79, 80, 81, 22, 82, 40, 83, 53, 54, 84, 85, 89, 90, 91, 92, 93, 94, 95, 96, 97, 98, 99, 100, 101, 102] (by decide +kernel) (by decide +kernel)
set_option maxRecDepth 20000 in
theorem gX0_mouthsBehind_X5_whoMaySay : GoodIn wsX0_mouthsBehind (wsV RX0 80 RX5 yX5_whoMaySay wsX5_whoMaySay) := goodIn_app (goodIn_of _ (by decide +kernel)) ggX0_mouthsBehind_X5_whoMaySay
theorem dX0_mouthsBehind_0 : decode cX0_mouthsBehind 0 = .ok (.aload_n 0, 1) := by decide +kernel
theorem dX0_mouthsBehind_1 : decode cX0_mouthsBehind 1 = .ok (.getfield 15, 3) := by decide +kernel
theorem dX0_mouthsBehind_4 : decode cX0_mouthsBehind 4 = .ok (.aload_n 0, 1) := by decide +kernel
theorem dX0_mouthsBehind_5 : decode cX0_mouthsBehind 5 = .ok (.getfield 9, 3) := by decide +kernel
theorem dX0_mouthsBehind_8 : decode cX0_mouthsBehind 8 = .ok (.invokevirtual 43, 3) := by decide +kernel
theorem dX0_mouthsBehind_11 : decode cX0_mouthsBehind 11 = .ok (.iconst 0, 1) := by decide +kernel
theorem dX0_mouthsBehind_12 : decode cX0_mouthsBehind 12 = .ok (.istore 4, 2) := by decide +kernel
theorem dX0_mouthsBehind_14 : decode cX0_mouthsBehind 14 = .ok (.iload 4, 2) := by decide +kernel
theorem dX0_mouthsBehind_16 : decode cX0_mouthsBehind 16 = .ok (.iload_n 2, 1) := by decide +kernel
theorem dX0_mouthsBehind_17 : decode cX0_mouthsBehind 17 = .ok (.if_icmp .ge 33, 3) := by decide +kernel
theorem dX0_mouthsBehind_20 : decode cX0_mouthsBehind 20 = .ok (.aload_n 0, 1) := by decide +kernel
theorem dX0_mouthsBehind_21 : decode cX0_mouthsBehind 21 = .ok (.getfield 15, 3) := by decide +kernel
theorem dX0_mouthsBehind_24 : decode cX0_mouthsBehind 24 = .ok (.aload_n 0, 1) := by decide +kernel
theorem dX0_mouthsBehind_25 : decode cX0_mouthsBehind 25 = .ok (.iload_n 1, 1) := by decide +kernel
theorem dX0_mouthsBehind_26 : decode cX0_mouthsBehind 26 = .ok (.iload 4, 2) := by decide +kernel
theorem dX0_mouthsBehind_28 : decode cX0_mouthsBehind 28 = .ok (.invokevirtual 47, 3) := by decide +kernel
theorem dX0_mouthsBehind_31 : decode cX0_mouthsBehind 31 = .ok (.iconst 1, 1) := by decide +kernel
theorem dX0_mouthsBehind_32 : decode cX0_mouthsBehind 32 = .ok (.aload_n 0, 1) := by decide +kernel
theorem dX0_mouthsBehind_33 : decode cX0_mouthsBehind 33 = .ok (.iload_n 1, 1) := by decide +kernel
theorem dX0_mouthsBehind_34 : decode cX0_mouthsBehind 34 = .ok (.iload 4, 2) := by decide +kernel
theorem dX0_mouthsBehind_36 : decode cX0_mouthsBehind 36 = .ok (.invokevirtual 51, 3) := by decide +kernel
theorem dX0_mouthsBehind_39 : decode cX0_mouthsBehind 39 = .ok (.ishl, 1) := by decide +kernel
theorem dX0_mouthsBehind_40 : decode cX0_mouthsBehind 40 = .ok (.invokevirtual 62, 3) := by decide +kernel
theorem dX0_mouthsBehind_43 : decode cX0_mouthsBehind 43 = .ok (.pop, 1) := by decide +kernel
theorem dX0_mouthsBehind_44 : decode cX0_mouthsBehind 44 = .ok (.iinc 4 1, 3) := by decide +kernel
theorem dX0_mouthsBehind_47 : decode cX0_mouthsBehind 47 = .ok (.goto (-33), 3) := by decide +kernel
theorem dX0_mouthsBehind_50 : decode cX0_mouthsBehind 50 = .ok (.aload_n 0, 1) := by decide +kernel
theorem dX0_mouthsBehind_51 : decode cX0_mouthsBehind 51 = .ok (.getfield 15, 3) := by decide +kernel
theorem dX0_mouthsBehind_54 : decode cX0_mouthsBehind 54 = .ok (.iload_n 3, 1) := by decide +kernel
theorem dX0_mouthsBehind_55 : decode cX0_mouthsBehind 55 = .ok (.invokevirtual 80, 3) := by decide +kernel
theorem dX0_mouthsBehind_58 : decode cX0_mouthsBehind 58 = .ok (.ireturn, 1) := by decide +kernel
theorem dX1_init_0 : decode cX1_init 0 = .ok (.aload_n 0, 1) := by decide +kernel
theorem dX1_init_1 : decode cX1_init 1 = .ok (.invokespecial 3, 3) := by decide +kernel
theorem dX1_init_4 : decode cX1_init 4 = .ok (.aload_n 0, 1) := by decide +kernel
theorem dX1_init_5 : decode cX1_init 5 = .ok (.bipush 7, 2) := by decide +kernel
theorem dX1_init_7 : decode cX1_init 7 = .ok (.bipush 7, 2) := by decide +kernel
theorem dX1_init_9 : decode cX1_init 9 = .ok (.multianewarray 9 2, 4) := by decide +kernel
theorem dX1_init_13 : decode cX1_init 13 = .ok (.putfield 11, 3) := by decide +kernel
theorem dX1_init_16 : decode cX1_init 16 = .ok (.aload_n 0, 1) := by decide +kernel
theorem dX1_init_17 : decode cX1_init 17 = .ok (.bipush 7, 2) := by decide +kernel
theorem dX1_init_19 : decode cX1_init 19 = .ok (.newarray .int, 2) := by decide +kernel
theorem dX1_init_21 : decode cX1_init 21 = .ok (.putfield 16, 3) := by decide +kernel
theorem dX1_init_24 : decode cX1_init 24 = .ok (.aload_n 0, 1) := by decide +kernel
theorem dX1_init_25 : decode cX1_init 25 = .ok (.bipush 7, 2) := by decide +kernel
theorem dX1_init_27 : decode cX1_init 27 = .ok (.newarray .int, 2) := by decide +kernel
theorem dX1_init_29 : decode cX1_init 29 = .ok (.putfield 20, 3) := by decide +kernel
theorem dX1_init_32 : decode cX1_init 32 = .ok (.aload_n 0, 1) := by decide +kernel
theorem dX1_init_33 : decode cX1_init 33 = .ok (.iconst (-1), 1) := by decide +kernel
theorem dX1_init_34 : decode cX1_init 34 = .ok (.putfield 23, 3) := by decide +kernel
theorem dX1_init_37 : decode cX1_init 37 = .ok (.aload_n 0, 1) := by decide +kernel
theorem dX1_init_38 : decode cX1_init 38 = .ok (.iconst 0, 1) := by decide +kernel
theorem dX1_init_39 : decode cX1_init 39 = .ok (.putfield 27, 3) := by decide +kernel
theorem dX1_init_42 : decode cX1_init 42 = .ok (.aload_n 0, 1) := by decide +kernel
theorem dX1_init_43 : decode cX1_init 43 = .ok (.aload_n 1, 1) := by decide +kernel
theorem dX1_init_44 : decode cX1_init 44 = .ok (.putfield 30, 3) := by decide +kernel
theorem dX1_init_47 : decode cX1_init 47 = .ok (.aload_n 0, 1) := by decide +kernel
theorem dX1_init_48 : decode cX1_init 48 = .ok (.aload_n 2, 1) := by decide +kernel
theorem dX1_init_49 : decode cX1_init 49 = .ok (.putfield 34, 3) := by decide +kernel
theorem dX1_init_52 : decode cX1_init 52 = .ok (.return_, 1) := by decide +kernel
set_option maxRecDepth 20000 in
theorem ggX1_search_X1_knownWhenAllIsSaid : GoodIn wsX1_search wsX1_knownWhenAllIsSaid := goodIn_r _ [9, 3, 4, 10, 11, 12, 13, 14, 15, 16, 17, 18, 19, 20, 21, 22, 23, 24, 25, 26, 27, 28, 29, 30, 31, 32, 33, 34, 35, 36, 37, 38, 39, 40, 41, 42, 43, 44, 45, 46, 47, 48, 49, 50, 51, 52, 53, 54, 55, 56, 57, 58, 59, 60, 61, 62, 63, 64, 65, 66, 67, 68, 69, 70, 71, 72, 73, 74, 75, 76, 77, 78, 79, 80, 81, 82, 83, 84, 85, 107, 108, 109, 110, 111, 112, 113, 114, 115, 116, 117, 118, 119, 120, 121, 122, 123, 124, 125, 126, 127] (by decide +kernel) (by decide +kernel)
set_option maxRecDepth 20000 in
theorem gX1_search_X1_knownWhenAllIsSaid : GoodIn wsX1_search (wsV RX1 37 RX1 yX1_knownWhenAllIsSaid wsX1_knownWhenAllIsSaid) := goodIn_app (goodIn_of _ (by decide +kernel)) ggX1_search_X1_knownWhenAllIsSaid
set_option maxRecDepth 20000 in
theorem ggX1_search_X5_become : GoodIn wsX1_search wsX5_become := goodIn_r _ [15, 16, 17, 18, 19, 20, 21, 22, 23, 24, 25, 26, 27, 28, 29, 30, 31, 32, 114, 115, 116, 117, 118, 119, 120, 121, 122, 123, 124, 125, 126, 127] (by decide +kernel) (by decide +kernel)
set_option maxRecDepth 20000 in
theorem gX1_search_X5_become : GoodIn wsX1_search (wsV RX1 41 RX5 yX5_become wsX5_become) := goodIn_app (goodIn_of _ (by decide +kernel)) ggX1_search_X5_become
set_option maxRecDepth 20000 in
theorem ggX1_search_X5_allPeople : GoodIn wsX1_search wsX5_allPeople := goodIn_r _ [89, 17, 114, 115, 116, 117, 118, 119, 120, 121, 122, 123, 124, 125, 126, 127] (by decide +kernel) (by decide +kernel)
set_option maxRecDepth 20000 in
theorem gX1_search_X5_allPeople : GoodIn wsX1_search (wsV RX1 47 RX5 yX5_allPeople wsX5_allPeople) := goodIn_app (goodIn_of _ (by decide +kernel)) ggX1_search_X5_allPeople
set_option maxRecDepth 20000 in
theorem ggX1_search_X1_speakOn : GoodIn wsX1_search wsX1_speakOn := goodIn_r _ [92, 93, 3, 94, 95, 25, 26, 27, 96, 2, 1, 97, 98, 99, 100, 8, 101, 102, 78, 79, 80, 14, 81, 17, 82, 83, 84, 85, 23, 28, 29, 67, 68, 69, 70, 71, 72, 73, 65, 59, 66, 103, 43, 44, 45, 31, 20, 46, 47, 48, 49, 18, 50, 51, 52, 53, 16, 54, 55, 56, 57, 30, 58, 60, 104, 62, 63, 64, 105, 106, 90, 91, 107, 108, 109, 110, 111, 112, 113, 114, 115, 116, 117, 118, 119, 120, 121, 122, 123, 124, 125, 126, 127] (by decide +kernel) (by decide +kernel)
set_option maxRecDepth 20000 in
theorem gX1_search_X1_speakOn : GoodIn wsX1_search (va_wsS RX1 50 yX1_speakOn wsX1_speakOn) := goodIn_app (goodIn_of _ (by decide +kernel)) ggX1_search_X1_speakOn
theorem dX1_search_0 : decode cX1_search 0 = .ok (.aload_n 0, 1) := by decide +kernel
theorem dX1_search_1 : decode cX1_search 1 = .ok (.aload_n 0, 1) := by decide +kernel
theorem dX1_search_2 : decode cX1_search 2 = .ok (.invokevirtual 37, 3) := by decide +kernel
theorem dX1_search_5 : decode cX1_search 5 = .ok (.putfield 27, 3) := by decide +kernel
theorem dX1_search_8 : decode cX1_search 8 = .ok (.aload_n 0, 1) := by decide +kernel
theorem dX1_search_9 : decode cX1_search 9 = .ok (.iconst (-1), 1) := by decide +kernel
theorem dX1_search_10 : decode cX1_search 10 = .ok (.putfield 23, 3) := by decide +kernel
theorem dX1_search_13 : decode cX1_search 13 = .ok (.aload_n 0, 1) := by decide +kernel
theorem dX1_search_14 : decode cX1_search 14 = .ok (.getfield 34, 3) := by decide +kernel
theorem dX1_search_17 : decode cX1_search 17 = .ok (.aload_n 0, 1) := by decide +kernel
theorem dX1_search_18 : decode cX1_search 18 = .ok (.getfield 30, 3) := by decide +kernel
theorem dX1_search_21 : decode cX1_search 21 = .ok (.invokevirtual 41, 3) := by decide +kernel
theorem dX1_search_24 : decode cX1_search 24 = .ok (.aload_n 0, 1) := by decide +kernel
theorem dX1_search_25 : decode cX1_search 25 = .ok (.iconst 0, 1) := by decide +kernel
theorem dX1_search_26 : decode cX1_search 26 = .ok (.aload_n 0, 1) := by decide +kernel
theorem dX1_search_27 : decode cX1_search 27 = .ok (.getfield 30, 3) := by decide +kernel
theorem dX1_search_30 : decode cX1_search 30 = .ok (.invokevirtual 47, 3) := by decide +kernel
theorem dX1_search_33 : decode cX1_search 33 = .ok (.invokestatic 50, 3) := by decide +kernel
theorem dX1_search_36 : decode cX1_search 36 = .ok (.return_, 1) := by decide +kernel
theorem dX1_mostKnown_0 : decode cX1_mostKnown 0 = .ok (.aload_n 0, 1) := by decide +kernel
theorem dX1_mostKnown_1 : decode cX1_mostKnown 1 = .ok (.getfield 23, 3) := by decide +kernel
theorem dX1_mostKnown_4 : decode cX1_mostKnown 4 = .ok (.ireturn, 1) := by decide +kernel
theorem dX1_speakerAt_0 : decode cX1_speakerAt 0 = .ok (.aload_n 0, 1) := by decide +kernel
theorem dX1_speakerAt_1 : decode cX1_speakerAt 1 = .ok (.getfield 20, 3) := by decide +kernel
theorem dX1_speakerAt_4 : decode cX1_speakerAt 4 = .ok (.iload_n 1, 1) := by decide +kernel
theorem dX1_speakerAt_5 : decode cX1_speakerAt 5 = .ok (.iaload, 1) := by decide +kernel
theorem dX1_speakerAt_6 : decode cX1_speakerAt 6 = .ok (.ireturn, 1) := by decide +kernel
set_option maxRecDepth 20000 in
theorem ggX1_knownWhenAllIsSaid_X5_become : GoodIn wsX1_knownWhenAllIsSaid wsX5_become := goodIn_r _ [8, 9, 10, 11, 12, 13, 14, 15, 16, 17, 18, 19, 20, 21, 22, 23, 24, 25, 86, 87, 88, 89, 90, 91, 92, 93, 94, 95, 96, 97, 98, 99] (by decide +kernel) (by decide +kernel)
set_option maxRecDepth 20000 in
theorem gX1_knownWhenAllIsSaid_X5_become : GoodIn wsX1_knownWhenAllIsSaid (wsV RX1 41 RX5 yX5_become wsX5_become) := goodIn_app (goodIn_of _ (by decide +kernel)) ggX1_knownWhenAllIsSaid_X5_become
set_option maxRecDepth 20000 in
theorem ggX1_knownWhenAllIsSaid_X5_passRounds : GoodIn wsX1_knownWhenAllIsSaid wsX5_passRounds := goodIn_r _ [29, 30, 31, 32, 7, 33, 10, 34, 35, 36, 37, 38, 24, 22, 13, 39, 40, 41, 42, 11, 16, 21, 43, 44, 45, 46, 9, 47, 48, 49, 50, 23, 51, 52, 53, 54, 55, 56, 57, 58, 59, 60, 61, 62, 63, 64, 65, 66, 67, 68, 69, 70, 12, 86, 87, 88, 89, 90, 91, 92, 93, 94, 95, 96, 97, 98, 99] (by decide +kernel) (by decide +kernel)
set_option maxRecDepth 20000 in
theorem gX1_knownWhenAllIsSaid_X5_passRounds : GoodIn wsX1_knownWhenAllIsSaid (wsV RX1 57 RX5 yX5_passRounds wsX5_passRounds) := goodIn_app (goodIn_of _ (by decide +kernel)) ggX1_knownWhenAllIsSaid_X5_passRounds
set_option maxRecDepth 20000 in
theorem ggX1_knownWhenAllIsSaid_X5_knownInAll : GoodIn wsX1_knownWhenAllIsSaid wsX5_knownInAll := goodIn_r _ [74, 10, 75, 76, 77, 7, 78, 16, 21, 22, 60, 61, 62, 63, 64, 65, 66, 86, 87, 88, 89, 90, 91, 92, 93, 94, 95, 96, 97, 98, 99] (by decide +kernel) (by decide +kernel)
set_option maxRecDepth 20000 in
theorem gX1_knownWhenAllIsSaid_X5_knownInAll : GoodIn wsX1_knownWhenAllIsSaid (wsV RX1 61 RX5 yX5_knownInAll wsX5_knownInAll) := goodIn_app (goodIn_of _ (by decide +kernel)) ggX1_knownWhenAllIsSaid_X5_knownInAll
theorem dX1_knownWhenAllIsSaid_0 : decode cX1_knownWhenAllIsSaid 0 = .ok (.aload_n 0, 1) := by decide +kernel
theorem dX1_knownWhenAllIsSaid_1 : decode cX1_knownWhenAllIsSaid 1 = .ok (.getfield 34, 3) := by decide +kernel
theorem dX1_knownWhenAllIsSaid_4 : decode cX1_knownWhenAllIsSaid 4 = .ok (.aload_n 0, 1) := by decide +kernel
theorem dX1_knownWhenAllIsSaid_5 : decode cX1_knownWhenAllIsSaid 5 = .ok (.getfield 30, 3) := by decide +kernel
theorem dX1_knownWhenAllIsSaid_8 : decode cX1_knownWhenAllIsSaid 8 = .ok (.invokevirtual 41, 3) := by decide +kernel
theorem dX1_knownWhenAllIsSaid_11 : decode cX1_knownWhenAllIsSaid 11 = .ok (.aload_n 0, 1) := by decide +kernel
theorem dX1_knownWhenAllIsSaid_12 : decode cX1_knownWhenAllIsSaid 12 = .ok (.getfield 34, 3) := by decide +kernel
theorem dX1_knownWhenAllIsSaid_15 : decode cX1_knownWhenAllIsSaid 15 = .ok (.iconst 0, 1) := by decide +kernel
theorem dX1_knownWhenAllIsSaid_16 : decode cX1_knownWhenAllIsSaid 16 = .ok (.putfield 54, 3) := by decide +kernel
theorem dX1_knownWhenAllIsSaid_19 : decode cX1_knownWhenAllIsSaid 19 = .ok (.aload_n 0, 1) := by decide +kernel
theorem dX1_knownWhenAllIsSaid_20 : decode cX1_knownWhenAllIsSaid 20 = .ok (.getfield 34, 3) := by decide +kernel
theorem dX1_knownWhenAllIsSaid_23 : decode cX1_knownWhenAllIsSaid 23 = .ok (.bipush 57, 2) := by decide +kernel
theorem dX1_knownWhenAllIsSaid_25 : decode cX1_knownWhenAllIsSaid 25 = .ok (.invokevirtual 57, 3) := by decide +kernel
theorem dX1_knownWhenAllIsSaid_28 : decode cX1_knownWhenAllIsSaid 28 = .ok (.aload_n 0, 1) := by decide +kernel
theorem dX1_knownWhenAllIsSaid_29 : decode cX1_knownWhenAllIsSaid 29 = .ok (.getfield 34, 3) := by decide +kernel
theorem dX1_knownWhenAllIsSaid_32 : decode cX1_knownWhenAllIsSaid 32 = .ok (.invokevirtual 61, 3) := by decide +kernel
theorem dX1_knownWhenAllIsSaid_35 : decode cX1_knownWhenAllIsSaid 35 = .ok (.ireturn, 1) := by decide +kernel
set_option maxRecDepth 20000 in
theorem ggX1_speakOn_X1_weigh : GoodIn wsX1_speakOn wsX1_weigh := goodIn_r _ [16, 2, 9, 11, 17, 4, 5, 6, 7, 18, 19, 20, 21, 22, 23, 24, 25, 26, 27, 28, 29, 30, 31, 32, 33, 34, 35, 36, 37, 72, 73, 74, 75, 76, 77, 78, 79, 80, 81, 82, 83, 84, 85, 86, 87, 88, 89, 90, 91, 92] (by decide +kernel) (by decide +kernel)
set_option maxRecDepth 20000 in
theorem gX1_speakOn_X1_weigh : GoodIn wsX1_speakOn (wsV RX1 64 RX1 yX1_weigh wsX1_weigh) := goodIn_app (goodIn_of _ (by decide +kernel)) ggX1_speakOn_X1_weigh
set_option maxRecDepth 20000 in
theorem ggX1_speakOn_X6_has : GoodIn wsX1_speakOn wsX6_has := goodIn_r _ [40] (by decide +kernel) (by decide +kernel)
set_option maxRecDepth 20000 in
theorem gX1_speakOn_X6_has_n79 : GoodIn wsX1_speakOn (wsX6_has) := ggX1_speakOn_X6_has
set_option maxRecDepth 20000 in
theorem ggX1_speakOn_X5_sayableBy : GoodIn wsX1_speakOn wsX5_sayableBy := goodIn_r _ [44, 45, 30, 46, 47, 48, 49, 21, 50, 51, 28, 29, 52, 53, 54, 55, 56, 57, 58, 59, 60, 23, 61, 62, 39, 63, 79, 80, 81, 82, 83, 84, 85, 86, 87, 88, 89, 90, 91, 92] (by decide +kernel) (by decide +kernel)
set_option maxRecDepth 20000 in
theorem gX1_speakOn_X5_sayableBy : GoodIn wsX1_speakOn (wsV RX1 83 RX5 yX5_sayableBy wsX5_sayableBy) := goodIn_app (goodIn_of _ (by decide +kernel)) ggX1_speakOn_X5_sayableBy
set_option maxRecDepth 20000 in
theorem ggX1_speakOn_X5_tell : GoodIn wsX1_speakOn wsX5_tell := goodIn_r _ [67, 23, 61, 30, 38, 39, 40, 31, 32, 33, 34, 35, 36, 37, 79, 80, 81, 82, 83, 84, 85, 86, 87, 88, 89, 90, 91, 92] (by decide +kernel) (by decide +kernel)
set_option maxRecDepth 20000 in
theorem gX1_speakOn_X5_tell : GoodIn wsX1_speakOn (wsV RX1 87 RX5 yX5_tell wsX5_tell) := goodIn_app (goodIn_of _ (by decide +kernel)) ggX1_speakOn_X5_tell
set_option maxRecDepth 20000 in
theorem ggX1_speakOn_X6_with : GoodIn wsX1_speakOn wsX6_with := goodIn_r _ [69] (by decide +kernel) (by decide +kernel)
set_option maxRecDepth 20000 in
theorem gX1_speakOn_X6_with_n91 : GoodIn wsX1_speakOn (wsX6_with) := ggX1_speakOn_X6_with
set_option maxRecDepth 20000 in
theorem ggX1_speakOn_X1_speakOn : GoodIn wsX1_speakOn wsX1_speakOn := goodIn_r _ [0, 1, 2, 3, 4, 5, 6, 7, 8, 9, 10, 11, 12, 13, 14, 15, 16, 17, 18, 19, 20, 21, 22, 23, 24, 25, 26, 27, 28, 29, 30, 31, 32, 33, 34, 35, 36, 37, 38, 39, 40, 41, 42, 43, 44, 45, 46, 47, 48, 49, 50, 51, 52, 53, 54, 55, 56, 57, 58, 59, 60, 61, 62, 63, 64, 65, 66, 67, 68, 69, 70, 71, 72, 73, 74, 75, 76, 77, 78, 79, 80, 81, 82, 83, 84, 85, 86, 87, 88, 89, 90, 91, 92] (by decide +kernel) (by decide +kernel)
set_option maxRecDepth 20000 in
theorem gX1_speakOn_X1_speakOn : GoodIn wsX1_speakOn (va_wsS RX1 50 yX1_speakOn wsX1_speakOn) := goodIn_app (goodIn_of _ (by decide +kernel)) ggX1_speakOn_X1_speakOn
theorem dX1_speakOn_0 : decode cX1_speakOn 0 = .ok (.iload_n 2, 1) := by decide +kernel
theorem dX1_speakOn_1 : decode cX1_speakOn 1 = .ok (.ifCond .eq 9, 3) := by decide +kernel
theorem dX1_speakOn_4 : decode cX1_speakOn 4 = .ok (.iload_n 1, 1) := by decide +kernel
theorem dX1_speakOn_5 : decode cX1_speakOn 5 = .ok (.bipush 7, 2) := by decide +kernel
theorem dX1_speakOn_7 : decode cX1_speakOn 7 = .ok (.if_icmp .lt 8, 3) := by decide +kernel
theorem dX1_speakOn_10 : decode cX1_speakOn 10 = .ok (.aload_n 0, 1) := by decide +kernel
theorem dX1_speakOn_11 : decode cX1_speakOn 11 = .ok (.invokevirtual 64, 3) := by decide +kernel
theorem dX1_speakOn_14 : decode cX1_speakOn 14 = .ok (.return_, 1) := by decide +kernel
theorem dX1_speakOn_15 : decode cX1_speakOn 15 = .ok (.aload_n 0, 1) := by decide +kernel
theorem dX1_speakOn_16 : decode cX1_speakOn 16 = .ok (.getfield 11, 3) := by decide +kernel
theorem dX1_speakOn_19 : decode cX1_speakOn 19 = .ok (.iload_n 1, 1) := by decide +kernel
theorem dX1_speakOn_20 : decode cX1_speakOn 20 = .ok (.aaload, 1) := by decide +kernel
theorem dX1_speakOn_21 : decode cX1_speakOn 21 = .ok (.astore_n 3, 1) := by decide +kernel
theorem dX1_speakOn_22 : decode cX1_speakOn 22 = .ok (.aload_n 0, 1) := by decide +kernel
theorem dX1_speakOn_23 : decode cX1_speakOn 23 = .ok (.getfield 34, 3) := by decide +kernel
theorem dX1_speakOn_26 : decode cX1_speakOn 26 = .ok (.getfield 67, 3) := by decide +kernel
theorem dX1_speakOn_29 : decode cX1_speakOn 29 = .ok (.iconst 0, 1) := by decide +kernel
theorem dX1_speakOn_30 : decode cX1_speakOn 30 = .ok (.aload_n 3, 1) := by decide +kernel
theorem dX1_speakOn_31 : decode cX1_speakOn 31 = .ok (.iconst 0, 1) := by decide +kernel
theorem dX1_speakOn_32 : decode cX1_speakOn 32 = .ok (.bipush 7, 2) := by decide +kernel
theorem dX1_speakOn_34 : decode cX1_speakOn 34 = .ok (.invokestatic 70, 3) := by decide +kernel
theorem dX1_speakOn_37 : decode cX1_speakOn 37 = .ok (.iconst 0, 1) := by decide +kernel
theorem dX1_speakOn_38 : decode cX1_speakOn 38 = .ok (.istore 4, 2) := by decide +kernel
theorem dX1_speakOn_40 : decode cX1_speakOn 40 = .ok (.iload 4, 2) := by decide +kernel
theorem dX1_speakOn_42 : decode cX1_speakOn 42 = .ok (.aload_n 0, 1) := by decide +kernel
theorem dX1_speakOn_43 : decode cX1_speakOn 43 = .ok (.getfield 34, 3) := by decide +kernel
theorem dX1_speakOn_46 : decode cX1_speakOn 46 = .ok (.getfield 76, 3) := by decide +kernel
theorem dX1_speakOn_49 : decode cX1_speakOn 49 = .ok (.if_icmp .ge 85, 3) := by decide +kernel
theorem dX1_speakOn_52 : decode cX1_speakOn 52 = .ok (.aload_n 0, 1) := by decide +kernel
theorem dX1_speakOn_53 : decode cX1_speakOn 53 = .ok (.getfield 23, 3) := by decide +kernel
theorem dX1_speakOn_56 : decode cX1_speakOn 56 = .ok (.aload_n 0, 1) := by decide +kernel
theorem dX1_speakOn_57 : decode cX1_speakOn 57 = .ok (.getfield 27, 3) := by decide +kernel
theorem dX1_speakOn_60 : decode cX1_speakOn 60 = .ok (.if_icmp .ge 74, 3) := by decide +kernel
theorem dX1_speakOn_63 : decode cX1_speakOn 63 = .ok (.iload_n 2, 1) := by decide +kernel
theorem dX1_speakOn_64 : decode cX1_speakOn 64 = .ok (.iload 4, 2) := by decide +kernel
theorem dX1_speakOn_66 : decode cX1_speakOn 66 = .ok (.invokestatic 79, 3) := by decide +kernel
theorem dX1_speakOn_69 : decode cX1_speakOn 69 = .ok (.ifCond .eq 59, 3) := by decide +kernel
theorem dX1_speakOn_72 : decode cX1_speakOn 72 = .ok (.aload_n 0, 1) := by decide +kernel
theorem dX1_speakOn_73 : decode cX1_speakOn 73 = .ok (.getfield 16, 3) := by decide +kernel
theorem dX1_speakOn_76 : decode cX1_speakOn 76 = .ok (.iload_n 1, 1) := by decide +kernel
theorem dX1_speakOn_77 : decode cX1_speakOn 77 = .ok (.iload 4, 2) := by decide +kernel
theorem dX1_speakOn_79 : decode cX1_speakOn 79 = .ok (.iastore, 1) := by decide +kernel
theorem dX1_speakOn_80 : decode cX1_speakOn 80 = .ok (.aload_n 0, 1) := by decide +kernel
theorem dX1_speakOn_81 : decode cX1_speakOn 81 = .ok (.getfield 34, 3) := by decide +kernel
theorem dX1_speakOn_84 : decode cX1_speakOn 84 = .ok (.iload 4, 2) := by decide +kernel
theorem dX1_speakOn_86 : decode cX1_speakOn 86 = .ok (.aload_n 0, 1) := by decide +kernel
theorem dX1_speakOn_87 : decode cX1_speakOn 87 = .ok (.getfield 34, 3) := by decide +kernel
theorem dX1_speakOn_90 : decode cX1_speakOn 90 = .ok (.iload 4, 2) := by decide +kernel
theorem dX1_speakOn_92 : decode cX1_speakOn 92 = .ok (.invokevirtual 83, 3) := by decide +kernel
theorem dX1_speakOn_95 : decode cX1_speakOn 95 = .ok (.invokevirtual 87, 3) := by decide +kernel
theorem dX1_speakOn_98 : decode cX1_speakOn 98 = .ok (.pop, 1) := by decide +kernel
theorem dX1_speakOn_99 : decode cX1_speakOn 99 = .ok (.aload_n 0, 1) := by decide +kernel
theorem dX1_speakOn_100 : decode cX1_speakOn 100 = .ok (.iload_n 1, 1) := by decide +kernel
theorem dX1_speakOn_101 : decode cX1_speakOn 101 = .ok (.iconst 1, 1) := by decide +kernel
theorem dX1_speakOn_102 : decode cX1_speakOn 102 = .ok (.iadd, 1) := by decide +kernel
theorem dX1_speakOn_103 : decode cX1_speakOn 103 = .ok (.iload_n 2, 1) := by decide +kernel
theorem dX1_speakOn_104 : decode cX1_speakOn 104 = .ok (.iload 4, 2) := by decide +kernel
theorem dX1_speakOn_106 : decode cX1_speakOn 106 = .ok (.iconst 0, 1) := by decide +kernel
theorem dX1_speakOn_107 : decode cX1_speakOn 107 = .ok (.invokestatic 91, 3) := by decide +kernel
theorem dX1_speakOn_110 : decode cX1_speakOn 110 = .ok (.invokestatic 50, 3) := by decide +kernel
theorem dX1_speakOn_113 : decode cX1_speakOn 113 = .ok (.aload_n 3, 1) := by decide +kernel
theorem dX1_speakOn_114 : decode cX1_speakOn 114 = .ok (.iconst 0, 1) := by decide +kernel
theorem dX1_speakOn_115 : decode cX1_speakOn 115 = .ok (.aload_n 0, 1) := by decide +kernel
theorem dX1_speakOn_116 : decode cX1_speakOn 116 = .ok (.getfield 34, 3) := by decide +kernel
theorem dX1_speakOn_119 : decode cX1_speakOn 119 = .ok (.getfield 67, 3) := by decide +kernel
theorem dX1_speakOn_122 : decode cX1_speakOn 122 = .ok (.iconst 0, 1) := by decide +kernel
theorem dX1_speakOn_123 : decode cX1_speakOn 123 = .ok (.bipush 7, 2) := by decide +kernel
theorem dX1_speakOn_125 : decode cX1_speakOn 125 = .ok (.invokestatic 70, 3) := by decide +kernel
theorem dX1_speakOn_128 : decode cX1_speakOn 128 = .ok (.iinc 4 1, 3) := by decide +kernel
theorem dX1_speakOn_131 : decode cX1_speakOn 131 = .ok (.goto (-91), 3) := by decide +kernel
theorem dX1_speakOn_134 : decode cX1_speakOn 134 = .ok (.return_, 1) := by decide +kernel
set_option maxRecDepth 20000 in
theorem ggX1_weigh_X5_knownInAll : GoodIn wsX1_weigh wsX5_knownInAll := goodIn_r _ [13, 14, 15, 16, 17, 12, 18, 19, 20, 21, 22, 23, 24, 25, 26, 27, 28, 36, 37, 38, 39, 40, 41, 42, 43, 44, 45, 46, 47, 48, 49] (by decide +kernel) (by decide +kernel)
set_option maxRecDepth 20000 in
theorem gX1_weigh_X5_knownInAll : GoodIn wsX1_weigh (wsV RX1 61 RX5 yX5_knownInAll wsX5_knownInAll) := goodIn_app (goodIn_of _ (by decide +kernel)) ggX1_weigh_X5_knownInAll
theorem dX1_weigh_0 : decode cX1_weigh 0 = .ok (.aload_n 0, 1) := by decide +kernel
theorem dX1_weigh_1 : decode cX1_weigh 1 = .ok (.getfield 34, 3) := by decide +kernel
theorem dX1_weigh_4 : decode cX1_weigh 4 = .ok (.invokevirtual 61, 3) := by decide +kernel
theorem dX1_weigh_7 : decode cX1_weigh 7 = .ok (.istore_n 1, 1) := by decide +kernel
theorem dX1_weigh_8 : decode cX1_weigh 8 = .ok (.iload_n 1, 1) := by decide +kernel
theorem dX1_weigh_9 : decode cX1_weigh 9 = .ok (.aload_n 0, 1) := by decide +kernel
theorem dX1_weigh_10 : decode cX1_weigh 10 = .ok (.getfield 23, 3) := by decide +kernel
theorem dX1_weigh_13 : decode cX1_weigh 13 = .ok (.if_icmp .le 23, 3) := by decide +kernel
theorem dX1_weigh_16 : decode cX1_weigh 16 = .ok (.aload_n 0, 1) := by decide +kernel
theorem dX1_weigh_17 : decode cX1_weigh 17 = .ok (.iload_n 1, 1) := by decide +kernel
theorem dX1_weigh_18 : decode cX1_weigh 18 = .ok (.putfield 23, 3) := by decide +kernel
theorem dX1_weigh_21 : decode cX1_weigh 21 = .ok (.aload_n 0, 1) := by decide +kernel
theorem dX1_weigh_22 : decode cX1_weigh 22 = .ok (.getfield 16, 3) := by decide +kernel
theorem dX1_weigh_25 : decode cX1_weigh 25 = .ok (.iconst 0, 1) := by decide +kernel
theorem dX1_weigh_26 : decode cX1_weigh 26 = .ok (.aload_n 0, 1) := by decide +kernel
theorem dX1_weigh_27 : decode cX1_weigh 27 = .ok (.getfield 20, 3) := by decide +kernel
theorem dX1_weigh_30 : decode cX1_weigh 30 = .ok (.iconst 0, 1) := by decide +kernel
theorem dX1_weigh_31 : decode cX1_weigh 31 = .ok (.bipush 7, 2) := by decide +kernel
theorem dX1_weigh_33 : decode cX1_weigh 33 = .ok (.invokestatic 70, 3) := by decide +kernel
theorem dX1_weigh_36 : decode cX1_weigh 36 = .ok (.return_, 1) := by decide +kernel
theorem dX2_init_0 : decode cX2_init 0 = .ok (.aload_n 0, 1) := by decide +kernel
theorem dX2_init_1 : decode cX2_init 1 = .ok (.invokespecial 3, 3) := by decide +kernel
theorem dX2_init_4 : decode cX2_init 4 = .ok (.aload_n 0, 1) := by decide +kernel
theorem dX2_init_5 : decode cX2_init 5 = .ok (.aload_n 1, 1) := by decide +kernel
theorem dX2_init_6 : decode cX2_init 6 = .ok (.putfield 9, 3) := by decide +kernel
theorem dX2_init_9 : decode cX2_init 9 = .ok (.aload_n 0, 1) := by decide +kernel
theorem dX2_init_10 : decode cX2_init 10 = .ok (.aload_n 2, 1) := by decide +kernel
theorem dX2_init_11 : decode cX2_init 11 = .ok (.putfield 15, 3) := by decide +kernel
theorem dX2_init_14 : decode cX2_init 14 = .ok (.return_, 1) := by decide +kernel
set_option maxRecDepth 20000 in
theorem ggX2_after_X5_become : GoodIn wsX2_after wsX5_become := goodIn_r _ [7, 8, 9, 10, 11, 12, 13, 14, 15, 16, 17, 18, 19, 20, 21, 22, 23, 24, 72, 73, 74, 75, 76, 77, 78, 79, 80, 81, 82, 83, 84, 85] (by decide +kernel) (by decide +kernel)
set_option maxRecDepth 20000 in
theorem gX2_after_X5_become : GoodIn wsX2_after (wsV RX2 18 RX5 yX5_become wsX5_become) := goodIn_app (goodIn_of _ (by decide +kernel)) ggX2_after_X5_become
set_option maxRecDepth 20000 in
theorem ggX2_after_X5_passRounds : GoodIn wsX2_after wsX5_passRounds := goodIn_r _ [28, 29, 30, 31, 6, 32, 9, 33, 34, 35, 36, 37, 23, 21, 12, 38, 39, 40, 41, 10, 15, 20, 42, 43, 44, 45, 8, 46, 47, 48, 49, 22, 50, 51, 52, 53, 54, 55, 56, 57, 58, 59, 60, 61, 62, 63, 64, 65, 66, 67, 68, 69, 11, 72, 73, 74, 75, 76, 77, 78, 79, 80, 81, 82, 83, 84, 85] (by decide +kernel) (by decide +kernel)
set_option maxRecDepth 20000 in
theorem gX2_after_X5_passRounds : GoodIn wsX2_after (wsV RX2 24 RX5 yX5_passRounds wsX5_passRounds) := goodIn_app (goodIn_of _ (by decide +kernel)) ggX2_after_X5_passRounds
theorem dX2_after_0 : decode cX2_after 0 = .ok (.aload_n 0, 1) := by decide +kernel
theorem dX2_after_1 : decode cX2_after 1 = .ok (.getfield 15, 3) := by decide +kernel
theorem dX2_after_4 : decode cX2_after 4 = .ok (.aload_n 0, 1) := by decide +kernel
theorem dX2_after_5 : decode cX2_after 5 = .ok (.getfield 9, 3) := by decide +kernel
theorem dX2_after_8 : decode cX2_after 8 = .ok (.invokevirtual 18, 3) := by decide +kernel
theorem dX2_after_11 : decode cX2_after 11 = .ok (.aload_n 0, 1) := by decide +kernel
theorem dX2_after_12 : decode cX2_after 12 = .ok (.getfield 15, 3) := by decide +kernel
theorem dX2_after_15 : decode cX2_after 15 = .ok (.iload_n 1, 1) := by decide +kernel
theorem dX2_after_16 : decode cX2_after 16 = .ok (.invokevirtual 24, 3) := by decide +kernel
theorem dX2_after_19 : decode cX2_after 19 = .ok (.aload_n 0, 1) := by decide +kernel
theorem dX2_after_20 : decode cX2_after 20 = .ok (.getfield 15, 3) := by decide +kernel
theorem dX2_after_23 : decode cX2_after 23 = .ok (.areturn, 1) := by decide +kernel
set_option maxRecDepth 20000 in
theorem ggX2_untilStill_X5_become : GoodIn wsX2_untilStill wsX5_become := goodIn_r _ [7, 8, 9, 10, 11, 12, 13, 14, 15, 16, 17, 18, 19, 20, 21, 22, 23, 24, 68, 69, 70, 71, 72, 73, 74, 75, 76, 77, 78, 79, 80, 81] (by decide +kernel) (by decide +kernel)
set_option maxRecDepth 20000 in
theorem gX2_untilStill_X5_become : GoodIn wsX2_untilStill (wsV RX2 18 RX5 yX5_become wsX5_become) := goodIn_app (goodIn_of _ (by decide +kernel)) ggX2_untilStill_X5_become
set_option maxRecDepth 20000 in
theorem ggX2_untilStill_X5_passRound : GoodIn wsX2_untilStill wsX5_passRound := goodIn_r _ [28, 9, 29, 30, 31, 32, 6, 33, 23, 21, 12, 34, 35, 36, 37, 10, 15, 20, 38, 39, 40, 41, 8, 42, 43, 44, 45, 22, 46, 47, 48, 49, 50, 51, 52, 53, 54, 55, 56, 57, 58, 59, 60, 61, 62, 63, 64, 65, 11, 68, 69, 70, 71, 72, 73, 74, 75, 76, 77, 78, 79, 80, 81] (by decide +kernel) (by decide +kernel)
set_option maxRecDepth 20000 in
theorem gX2_untilStill_X5_passRound : GoodIn wsX2_untilStill (wsV RX2 28 RX5 yX5_passRound wsX5_passRound) := goodIn_app (goodIn_of _ (by decide +kernel)) ggX2_untilStill_X5_passRound
theorem dX2_untilStill_0 : decode cX2_untilStill 0 = .ok (.aload_n 0, 1) := by decide +kernel
theorem dX2_untilStill_1 : decode cX2_untilStill 1 = .ok (.getfield 15, 3) := by decide +kernel
theorem dX2_untilStill_4 : decode cX2_untilStill 4 = .ok (.aload_n 0, 1) := by decide +kernel
theorem dX2_untilStill_5 : decode cX2_untilStill 5 = .ok (.getfield 9, 3) := by decide +kernel
theorem dX2_untilStill_8 : decode cX2_untilStill 8 = .ok (.invokevirtual 18, 3) := by decide +kernel
theorem dX2_untilStill_11 : decode cX2_untilStill 11 = .ok (.iconst 0, 1) := by decide +kernel
theorem dX2_untilStill_12 : decode cX2_untilStill 12 = .ok (.istore_n 1, 1) := by decide +kernel
theorem dX2_untilStill_13 : decode cX2_untilStill 13 = .ok (.iload_n 1, 1) := by decide +kernel
theorem dX2_untilStill_14 : decode cX2_untilStill 14 = .ok (.bipush 20, 2) := by decide +kernel
theorem dX2_untilStill_16 : decode cX2_untilStill 16 = .ok (.if_icmp .ge 21, 3) := by decide +kernel
theorem dX2_untilStill_19 : decode cX2_untilStill 19 = .ok (.aload_n 0, 1) := by decide +kernel
theorem dX2_untilStill_20 : decode cX2_untilStill 20 = .ok (.getfield 15, 3) := by decide +kernel
theorem dX2_untilStill_23 : decode cX2_untilStill 23 = .ok (.invokevirtual 28, 3) := by decide +kernel
theorem dX2_untilStill_26 : decode cX2_untilStill 26 = .ok (.ifCond .ne 5, 3) := by decide +kernel
theorem dX2_untilStill_29 : decode cX2_untilStill 29 = .ok (.iload_n 1, 1) := by decide +kernel
theorem dX2_untilStill_30 : decode cX2_untilStill 30 = .ok (.ireturn, 1) := by decide +kernel
theorem dX2_untilStill_31 : decode cX2_untilStill 31 = .ok (.iinc 1 1, 3) := by decide +kernel
theorem dX2_untilStill_34 : decode cX2_untilStill 34 = .ok (.goto (-21), 3) := by decide +kernel
theorem dX2_untilStill_37 : decode cX2_untilStill 37 = .ok (.bipush 20, 2) := by decide +kernel
theorem dX2_untilStill_39 : decode cX2_untilStill 39 = .ok (.ireturn, 1) := by decide +kernel
set_option maxRecDepth 20000 in
theorem ggX2_untilKnown_X5_become : GoodIn wsX2_untilKnown wsX5_become := goodIn_r _ [7, 8, 9, 10, 11, 12, 13, 14, 15, 16, 17, 18, 19, 20, 21, 22, 23, 24, 72, 73, 74, 75, 76, 77, 78, 79, 80, 81, 82, 83, 84, 85] (by decide +kernel) (by decide +kernel)
set_option maxRecDepth 20000 in
theorem gX2_untilKnown_X5_become : GoodIn wsX2_untilKnown (wsV RX2 18 RX5 yX5_become wsX5_become) := goodIn_app (goodIn_of _ (by decide +kernel)) ggX2_untilKnown_X5_become
set_option maxRecDepth 20000 in
theorem ggX2_untilKnown_X5_knownTo : GoodIn wsX2_untilKnown wsX5_knownTo := goodIn_r _ [28, 15, 20, 21, 72, 73, 74, 75, 76, 77, 78, 79, 80, 81, 82, 83, 84, 85] (by decide +kernel) (by decide +kernel)
set_option maxRecDepth 20000 in
theorem gX2_untilKnown_X5_knownTo : GoodIn wsX2_untilKnown (wsV RX2 32 RX5 yX5_knownTo wsX5_knownTo) := goodIn_app (goodIn_of _ (by decide +kernel)) ggX2_untilKnown_X5_knownTo
set_option maxRecDepth 20000 in
theorem ggX2_untilKnown_X6_has : GoodIn wsX2_untilKnown wsX6_has := goodIn_r _ [31] (by decide +kernel) (by decide +kernel)
set_option maxRecDepth 20000 in
theorem gX2_untilKnown_X6_has_n36 : GoodIn wsX2_untilKnown (wsX6_has) := ggX2_untilKnown_X6_has
set_option maxRecDepth 20000 in
theorem ggX2_untilKnown_X5_passRound : GoodIn wsX2_untilKnown wsX5_passRound := goodIn_r _ [35, 9, 36, 37, 38, 39, 6, 40, 23, 21, 12, 41, 42, 43, 44, 10, 15, 20, 45, 46, 47, 48, 8, 49, 50, 51, 52, 22, 53, 30, 54, 55, 56, 57, 58, 29, 31, 59, 60, 61, 62, 63, 64, 65, 66, 67, 68, 69, 11, 72, 73, 74, 75, 76, 77, 78, 79, 80, 81, 82, 83, 84, 85] (by decide +kernel) (by decide +kernel)
set_option maxRecDepth 20000 in
theorem gX2_untilKnown_X5_passRound : GoodIn wsX2_untilKnown (wsV RX2 28 RX5 yX5_passRound wsX5_passRound) := goodIn_app (goodIn_of _ (by decide +kernel)) ggX2_untilKnown_X5_passRound
theorem dX2_untilKnown_0 : decode cX2_untilKnown 0 = .ok (.aload_n 0, 1) := by decide +kernel
theorem dX2_untilKnown_1 : decode cX2_untilKnown 1 = .ok (.getfield 15, 3) := by decide +kernel
theorem dX2_untilKnown_4 : decode cX2_untilKnown 4 = .ok (.aload_n 0, 1) := by decide +kernel
theorem dX2_untilKnown_5 : decode cX2_untilKnown 5 = .ok (.getfield 9, 3) := by decide +kernel
theorem dX2_untilKnown_8 : decode cX2_untilKnown 8 = .ok (.invokevirtual 18, 3) := by decide +kernel
theorem dX2_untilKnown_11 : decode cX2_untilKnown 11 = .ok (.iconst 1, 1) := by decide +kernel
theorem dX2_untilKnown_12 : decode cX2_untilKnown 12 = .ok (.istore_n 3, 1) := by decide +kernel
theorem dX2_untilKnown_13 : decode cX2_untilKnown 13 = .ok (.iconst 0, 1) := by decide +kernel
theorem dX2_untilKnown_14 : decode cX2_untilKnown 14 = .ok (.istore 4, 2) := by decide +kernel
theorem dX2_untilKnown_16 : decode cX2_untilKnown 16 = .ok (.iload 4, 2) := by decide +kernel
theorem dX2_untilKnown_18 : decode cX2_untilKnown 18 = .ok (.bipush 20, 2) := by decide +kernel
theorem dX2_untilKnown_20 : decode cX2_untilKnown 20 = .ok (.if_icmp .gt 39, 3) := by decide +kernel
theorem dX2_untilKnown_23 : decode cX2_untilKnown 23 = .ok (.iload_n 3, 1) := by decide +kernel
theorem dX2_untilKnown_24 : decode cX2_untilKnown 24 = .ok (.ifCond .eq 35, 3) := by decide +kernel
theorem dX2_untilKnown_27 : decode cX2_untilKnown 27 = .ok (.aload_n 0, 1) := by decide +kernel
theorem dX2_untilKnown_28 : decode cX2_untilKnown 28 = .ok (.getfield 15, 3) := by decide +kernel
theorem dX2_untilKnown_31 : decode cX2_untilKnown 31 = .ok (.iload_n 1, 1) := by decide +kernel
theorem dX2_untilKnown_32 : decode cX2_untilKnown 32 = .ok (.invokevirtual 32, 3) := by decide +kernel
theorem dX2_untilKnown_35 : decode cX2_untilKnown 35 = .ok (.iload_n 2, 1) := by decide +kernel
theorem dX2_untilKnown_36 : decode cX2_untilKnown 36 = .ok (.invokestatic 36, 3) := by decide +kernel
theorem dX2_untilKnown_39 : decode cX2_untilKnown 39 = .ok (.ifCond .eq 6, 3) := by decide +kernel
theorem dX2_untilKnown_42 : decode cX2_untilKnown 42 = .ok (.iload 4, 2) := by decide +kernel
theorem dX2_untilKnown_44 : decode cX2_untilKnown 44 = .ok (.ireturn, 1) := by decide +kernel
theorem dX2_untilKnown_45 : decode cX2_untilKnown 45 = .ok (.aload_n 0, 1) := by decide +kernel
theorem dX2_untilKnown_46 : decode cX2_untilKnown 46 = .ok (.getfield 15, 3) := by decide +kernel
theorem dX2_untilKnown_49 : decode cX2_untilKnown 49 = .ok (.invokevirtual 28, 3) := by decide +kernel
theorem dX2_untilKnown_52 : decode cX2_untilKnown 52 = .ok (.istore_n 3, 1) := by decide +kernel
theorem dX2_untilKnown_53 : decode cX2_untilKnown 53 = .ok (.iinc 4 1, 3) := by decide +kernel
theorem dX2_untilKnown_56 : decode cX2_untilKnown 56 = .ok (.goto (-40), 3) := by decide +kernel
theorem dX2_untilKnown_59 : decode cX2_untilKnown 59 = .ok (.iconst (-1), 1) := by decide +kernel
theorem dX2_untilKnown_60 : decode cX2_untilKnown 60 = .ok (.ireturn, 1) := by decide +kernel
set_option maxRecDepth 20000 in
theorem ggX2_fewestToShow_X5_allPeople : GoodIn wsX2_fewestToShow wsX5_allPeople := goodIn_r _ [7, 8, 97, 98, 99, 100, 101, 102, 103, 104, 105, 106, 107, 108, 109, 110] (by decide +kernel) (by decide +kernel)
set_option maxRecDepth 20000 in
theorem gX2_fewestToShow_X5_allPeople : GoodIn wsX2_fewestToShow (wsV RX2 40 RX5 yX5_allPeople wsX5_allPeople) := goodIn_app (goodIn_of _ (by decide +kernel)) ggX2_fewestToShow_X5_allPeople
set_option maxRecDepth 20000 in
theorem ggX2_fewestToShow_X5_allBlind : GoodIn wsX2_fewestToShow wsX5_allBlind := goodIn_r _ [12, 8, 13, 14, 15, 16, 97, 98, 99, 100, 101, 102, 103, 104, 105, 106, 107, 108, 109, 110] (by decide +kernel) (by decide +kernel)
set_option maxRecDepth 20000 in
theorem gX2_fewestToShow_X5_allBlind : GoodIn wsX2_fewestToShow (wsV RX2 44 RX5 yX5_allBlind wsX5_allBlind) := goodIn_app (goodIn_of _ (by decide +kernel)) ggX2_fewestToShow_X5_allBlind
set_option maxRecDepth 20000 in
theorem ggX2_fewestToShow_J6_bitCount_0f7a4 : GoodIn wsX2_fewestToShow wsJ6_bitCount_0f7a4 := goodIn_r _ [20, 21, 22, 23] (by decide +kernel) (by decide +kernel)
set_option maxRecDepth 20000 in
theorem gX2_fewestToShow_J6_bitCount_0f7a4 : GoodIn wsX2_fewestToShow (va_wsS RX2 51 yJ6_bitCount_0f7a4 wsJ6_bitCount_0f7a4) := goodIn_app (goodIn_of _ (by decide +kernel)) ggX2_fewestToShow_J6_bitCount_0f7a4
set_option maxRecDepth 20000 in
theorem ggX2_fewestToShow_X2_isHushed : GoodIn wsX2_fewestToShow wsX2_isHushed := goodIn_r _ [28, 29, 1, 30, 31, 32, 6, 33, 34, 8, 35, 36, 37, 38, 39, 40, 41, 42, 43, 44, 45, 46, 47, 13, 48, 49, 50, 51, 52, 53, 15, 54, 55, 56, 57, 58, 14, 16, 59, 60, 61, 62, 63, 64, 65, 66, 67, 68, 69, 70, 71, 72, 73, 74, 75, 76, 77, 78, 79, 80, 81, 82, 83, 84, 85, 86, 87, 88, 89, 90, 18, 19, 20, 21, 22, 23, 91, 92, 93, 94, 95, 96, 97, 98, 99, 100, 101, 102, 103, 104, 105, 106, 107, 108, 109, 110] (by decide +kernel) (by decide +kernel)
set_option maxRecDepth 20000 in
theorem gX2_fewestToShow_X2_isHushed : GoodIn wsX2_fewestToShow (wsV RX2 56 RX2 yX2_isHushed wsX2_isHushed) := goodIn_app (goodIn_of _ (by decide +kernel)) ggX2_fewestToShow_X2_isHushed
theorem dX2_fewestToShow_0 : decode cX2_fewestToShow 0 = .ok (.aload_n 0, 1) := by decide +kernel
theorem dX2_fewestToShow_1 : decode cX2_fewestToShow 1 = .ok (.getfield 9, 3) := by decide +kernel
theorem dX2_fewestToShow_4 : decode cX2_fewestToShow 4 = .ok (.invokevirtual 40, 3) := by decide +kernel
theorem dX2_fewestToShow_7 : decode cX2_fewestToShow 7 = .ok (.aload_n 0, 1) := by decide +kernel
theorem dX2_fewestToShow_8 : decode cX2_fewestToShow 8 = .ok (.getfield 9, 3) := by decide +kernel
theorem dX2_fewestToShow_11 : decode cX2_fewestToShow 11 = .ok (.invokevirtual 44, 3) := by decide +kernel
theorem dX2_fewestToShow_14 : decode cX2_fewestToShow 14 = .ok (.iconst (-1), 1) := by decide +kernel
theorem dX2_fewestToShow_15 : decode cX2_fewestToShow 15 = .ok (.ixor, 1) := by decide +kernel
theorem dX2_fewestToShow_16 : decode cX2_fewestToShow 16 = .ok (.iand, 1) := by decide +kernel
theorem dX2_fewestToShow_17 : decode cX2_fewestToShow 17 = .ok (.istore_n 3, 1) := by decide +kernel
theorem dX2_fewestToShow_18 : decode cX2_fewestToShow 18 = .ok (.iconst 0, 1) := by decide +kernel
theorem dX2_fewestToShow_19 : decode cX2_fewestToShow 19 = .ok (.istore 4, 2) := by decide +kernel
theorem dX2_fewestToShow_21 : decode cX2_fewestToShow 21 = .ok (.iload 4, 2) := by decide +kernel
theorem dX2_fewestToShow_23 : decode cX2_fewestToShow 23 = .ok (.aload_n 0, 1) := by decide +kernel
theorem dX2_fewestToShow_24 : decode cX2_fewestToShow 24 = .ok (.getfield 9, 3) := by decide +kernel
theorem dX2_fewestToShow_27 : decode cX2_fewestToShow 27 = .ok (.getfield 47, 3) := by decide +kernel
theorem dX2_fewestToShow_30 : decode cX2_fewestToShow 30 = .ok (.if_icmp .gt 69, 3) := by decide +kernel
theorem dX2_fewestToShow_33 : decode cX2_fewestToShow 33 = .ok (.iconst 0, 1) := by decide +kernel
theorem dX2_fewestToShow_34 : decode cX2_fewestToShow 34 = .ok (.istore 5, 2) := by decide +kernel
theorem dX2_fewestToShow_36 : decode cX2_fewestToShow 36 = .ok (.iload 5, 2) := by decide +kernel
theorem dX2_fewestToShow_38 : decode cX2_fewestToShow 38 = .ok (.iload_n 3, 1) := by decide +kernel
theorem dX2_fewestToShow_39 : decode cX2_fewestToShow 39 = .ok (.if_icmp .gt 54, 3) := by decide +kernel
theorem dX2_fewestToShow_42 : decode cX2_fewestToShow 42 = .ok (.iload 5, 2) := by decide +kernel
theorem dX2_fewestToShow_44 : decode cX2_fewestToShow 44 = .ok (.iload_n 3, 1) := by decide +kernel
theorem dX2_fewestToShow_45 : decode cX2_fewestToShow 45 = .ok (.iconst (-1), 1) := by decide +kernel
theorem dX2_fewestToShow_46 : decode cX2_fewestToShow 46 = .ok (.ixor, 1) := by decide +kernel
theorem dX2_fewestToShow_47 : decode cX2_fewestToShow 47 = .ok (.iand, 1) := by decide +kernel
theorem dX2_fewestToShow_48 : decode cX2_fewestToShow 48 = .ok (.ifCond .ne 17, 3) := by decide +kernel
theorem dX2_fewestToShow_51 : decode cX2_fewestToShow 51 = .ok (.iload 5, 2) := by decide +kernel
theorem dX2_fewestToShow_53 : decode cX2_fewestToShow 53 = .ok (.invokestatic 51, 3) := by decide +kernel
theorem dX2_fewestToShow_56 : decode cX2_fewestToShow 56 = .ok (.iload 4, 2) := by decide +kernel
theorem dX2_fewestToShow_58 : decode cX2_fewestToShow 58 = .ok (.if_icmp .ne 7, 3) := by decide +kernel
theorem dX2_fewestToShow_61 : decode cX2_fewestToShow 61 = .ok (.iconst 1, 1) := by decide +kernel
theorem dX2_fewestToShow_62 : decode cX2_fewestToShow 62 = .ok (.goto 4, 3) := by decide +kernel
theorem dX2_fewestToShow_65 : decode cX2_fewestToShow 65 = .ok (.iconst 0, 1) := by decide +kernel
theorem dX2_fewestToShow_66 : decode cX2_fewestToShow 66 = .ok (.istore 6, 2) := by decide +kernel
theorem dX2_fewestToShow_68 : decode cX2_fewestToShow 68 = .ok (.iload 6, 2) := by decide +kernel
theorem dX2_fewestToShow_70 : decode cX2_fewestToShow 70 = .ok (.ifCond .eq 17, 3) := by decide +kernel
theorem dX2_fewestToShow_73 : decode cX2_fewestToShow 73 = .ok (.aload_n 0, 1) := by decide +kernel
theorem dX2_fewestToShow_74 : decode cX2_fewestToShow 74 = .ok (.iload 5, 2) := by decide +kernel
theorem dX2_fewestToShow_76 : decode cX2_fewestToShow 76 = .ok (.iload_n 1, 1) := by decide +kernel
theorem dX2_fewestToShow_77 : decode cX2_fewestToShow 77 = .ok (.iload_n 2, 1) := by decide +kernel
theorem dX2_fewestToShow_78 : decode cX2_fewestToShow 78 = .ok (.invokevirtual 56, 3) := by decide +kernel
theorem dX2_fewestToShow_81 : decode cX2_fewestToShow 81 = .ok (.ifCond .eq 6, 3) := by decide +kernel
theorem dX2_fewestToShow_84 : decode cX2_fewestToShow 84 = .ok (.iload 5, 2) := by decide +kernel
theorem dX2_fewestToShow_86 : decode cX2_fewestToShow 86 = .ok (.ireturn, 1) := by decide +kernel
theorem dX2_fewestToShow_87 : decode cX2_fewestToShow 87 = .ok (.iinc 5 1, 3) := by decide +kernel
theorem dX2_fewestToShow_90 : decode cX2_fewestToShow 90 = .ok (.goto (-54), 3) := by decide +kernel
theorem dX2_fewestToShow_93 : decode cX2_fewestToShow 93 = .ok (.iinc 4 1, 3) := by decide +kernel
theorem dX2_fewestToShow_96 : decode cX2_fewestToShow 96 = .ok (.goto (-75), 3) := by decide +kernel
theorem dX2_fewestToShow_99 : decode cX2_fewestToShow 99 = .ok (.iconst (-1), 1) := by decide +kernel
theorem dX2_fewestToShow_100 : decode cX2_fewestToShow 100 = .ok (.ireturn, 1) := by decide +kernel
set_option maxRecDepth 20000 in
theorem ggX2_isHushed_X5_become : GoodIn wsX2_isHushed wsX5_become := goodIn_r _ [7, 8, 9, 10, 11, 12, 13, 14, 15, 16, 17, 18, 19, 20, 21, 22, 23, 24, 82, 83, 84, 85, 86, 87, 88, 89, 90, 91, 92, 93, 94, 95] (by decide +kernel) (by decide +kernel)
set_option maxRecDepth 20000 in
theorem gX2_isHushed_X5_become : GoodIn wsX2_isHushed (wsV RX2 18 RX5 yX5_become wsX5_become) := goodIn_app (goodIn_of _ (by decide +kernel)) ggX2_isHushed_X5_become
set_option maxRecDepth 20000 in
theorem ggX2_isHushed_X5_showTo : GoodIn wsX2_isHushed wsX5_showTo := goodIn_r _ [28, 9, 29, 30, 31, 32, 33, 34, 6, 35, 15, 20, 36, 37, 82, 83, 84, 85, 86, 87, 88, 89, 90, 91, 92, 93, 94, 95] (by decide +kernel) (by decide +kernel)
set_option maxRecDepth 20000 in
theorem gX2_isHushed_X5_showTo : GoodIn wsX2_isHushed (wsV RX2 60 RX5 yX5_showTo wsX5_showTo) := goodIn_app (goodIn_of _ (by decide +kernel)) ggX2_isHushed_X5_showTo
set_option maxRecDepth 20000 in
theorem ggX2_isHushed_X5_whoMaySay : GoodIn wsX2_isHushed wsX5_whoMaySay := goodIn_r _ [41, 9, 42, 43, 44, 6, 45, 23, 21, 12, 46, 47, 48, 49, 10, 15, 20, 50, 51, 52, 53, 8, 54, 55, 56, 57, 22, 58, 30, 59, 29, 31, 36, 37, 82, 83, 84, 85, 86, 87, 88, 89, 90, 91, 92, 93, 94, 95] (by decide +kernel) (by decide +kernel)
set_option maxRecDepth 20000 in
theorem gX2_isHushed_X5_whoMaySay : GoodIn wsX2_isHushed (wsV RX2 64 RX5 yX5_whoMaySay wsX5_whoMaySay) := goodIn_app (goodIn_of _ (by decide +kernel)) ggX2_isHushed_X5_whoMaySay
set_option maxRecDepth 20000 in
theorem ggX2_isHushed_X5_passRound : GoodIn wsX2_isHushed wsX5_passRound := goodIn_r _ [63, 9, 64, 42, 43, 44, 6, 45, 23, 21, 12, 46, 47, 48, 49, 10, 15, 20, 50, 51, 52, 53, 8, 54, 55, 56, 57, 22, 58, 30, 59, 65, 66, 67, 68, 29, 31, 69, 70, 71, 72, 73, 74, 75, 76, 77, 78, 79, 11, 82, 83, 84, 85, 86, 87, 88, 89, 90, 91, 92, 93, 94, 95] (by decide +kernel) (by decide +kernel)
set_option maxRecDepth 20000 in
theorem gX2_isHushed_X5_passRound : GoodIn wsX2_isHushed (wsV RX2 28 RX5 yX5_passRound wsX5_passRound) := goodIn_app (goodIn_of _ (by decide +kernel)) ggX2_isHushed_X5_passRound
theorem dX2_isHushed_0 : decode cX2_isHushed 0 = .ok (.aload_n 0, 1) := by decide +kernel
theorem dX2_isHushed_1 : decode cX2_isHushed 1 = .ok (.getfield 15, 3) := by decide +kernel
theorem dX2_isHushed_4 : decode cX2_isHushed 4 = .ok (.aload_n 0, 1) := by decide +kernel
theorem dX2_isHushed_5 : decode cX2_isHushed 5 = .ok (.getfield 9, 3) := by decide +kernel
theorem dX2_isHushed_8 : decode cX2_isHushed 8 = .ok (.invokevirtual 18, 3) := by decide +kernel
theorem dX2_isHushed_11 : decode cX2_isHushed 11 = .ok (.aload_n 0, 1) := by decide +kernel
theorem dX2_isHushed_12 : decode cX2_isHushed 12 = .ok (.getfield 15, 3) := by decide +kernel
theorem dX2_isHushed_15 : decode cX2_isHushed 15 = .ok (.iload_n 1, 1) := by decide +kernel
theorem dX2_isHushed_16 : decode cX2_isHushed 16 = .ok (.iload_n 2, 1) := by decide +kernel
theorem dX2_isHushed_17 : decode cX2_isHushed 17 = .ok (.invokevirtual 60, 3) := by decide +kernel
theorem dX2_isHushed_20 : decode cX2_isHushed 20 = .ok (.iconst 1, 1) := by decide +kernel
theorem dX2_isHushed_21 : decode cX2_isHushed 21 = .ok (.istore 4, 2) := by decide +kernel
theorem dX2_isHushed_23 : decode cX2_isHushed 23 = .ok (.iconst 0, 1) := by decide +kernel
theorem dX2_isHushed_24 : decode cX2_isHushed 24 = .ok (.istore 5, 2) := by decide +kernel
theorem dX2_isHushed_26 : decode cX2_isHushed 26 = .ok (.iload 5, 2) := by decide +kernel
theorem dX2_isHushed_28 : decode cX2_isHushed 28 = .ok (.iload_n 3, 1) := by decide +kernel
theorem dX2_isHushed_29 : decode cX2_isHushed 29 = .ok (.if_icmp .gt 36, 3) := by decide +kernel
theorem dX2_isHushed_32 : decode cX2_isHushed 32 = .ok (.iload 4, 2) := by decide +kernel
theorem dX2_isHushed_34 : decode cX2_isHushed 34 = .ok (.ifCond .eq 31, 3) := by decide +kernel
theorem dX2_isHushed_37 : decode cX2_isHushed 37 = .ok (.aload_n 0, 1) := by decide +kernel
theorem dX2_isHushed_38 : decode cX2_isHushed 38 = .ok (.getfield 15, 3) := by decide +kernel
theorem dX2_isHushed_41 : decode cX2_isHushed 41 = .ok (.iload_n 2, 1) := by decide +kernel
theorem dX2_isHushed_42 : decode cX2_isHushed 42 = .ok (.invokevirtual 64, 3) := by decide +kernel
theorem dX2_isHushed_45 : decode cX2_isHushed 45 = .ok (.ifCond .eq 5, 3) := by decide +kernel
theorem dX2_isHushed_48 : decode cX2_isHushed 48 = .ok (.iconst 0, 1) := by decide +kernel
theorem dX2_isHushed_49 : decode cX2_isHushed 49 = .ok (.ireturn, 1) := by decide +kernel
theorem dX2_isHushed_50 : decode cX2_isHushed 50 = .ok (.aload_n 0, 1) := by decide +kernel
theorem dX2_isHushed_51 : decode cX2_isHushed 51 = .ok (.getfield 15, 3) := by decide +kernel
theorem dX2_isHushed_54 : decode cX2_isHushed 54 = .ok (.invokevirtual 28, 3) := by decide +kernel
theorem dX2_isHushed_57 : decode cX2_isHushed 57 = .ok (.istore 4, 2) := by decide +kernel
theorem dX2_isHushed_59 : decode cX2_isHushed 59 = .ok (.iinc 5 1, 3) := by decide +kernel
theorem dX2_isHushed_62 : decode cX2_isHushed 62 = .ok (.goto (-36), 3) := by decide +kernel
theorem dX2_isHushed_65 : decode cX2_isHushed 65 = .ok (.iconst 1, 1) := by decide +kernel
theorem dX2_isHushed_66 : decode cX2_isHushed 66 = .ok (.ireturn, 1) := by decide +kernel
set_option maxRecDepth 20000 in
theorem ggX2_bestToTell_X5_become : GoodIn wsX2_bestToTell wsX5_become := goodIn_r _ [8, 9, 10, 11, 12, 13, 14, 15, 16, 17, 18, 19, 20, 21, 22, 23, 24, 25, 88, 89, 90, 91, 92, 93, 94, 95, 96, 97, 98, 99, 100, 101] (by decide +kernel) (by decide +kernel)
set_option maxRecDepth 20000 in
theorem gX2_bestToTell_X5_become : GoodIn wsX2_bestToTell (wsV RX2 18 RX5 yX5_become wsX5_become) := goodIn_app (goodIn_of _ (by decide +kernel)) ggX2_bestToTell_X5_become
set_option maxRecDepth 20000 in
theorem ggX2_bestToTell_X5_putHeard : GoodIn wsX2_bestToTell wsX5_putHeard := goodIn_r _ [29, 22, 30, 31, 32, 88, 89, 90, 91, 92, 93, 94, 95, 96, 97, 98, 99, 100, 101] (by decide +kernel) (by decide +kernel)
set_option maxRecDepth 20000 in
theorem gX2_bestToTell_X5_putHeard : GoodIn wsX2_bestToTell (wsV RX2 67 RX5 yX5_putHeard wsX5_putHeard) := goodIn_app (goodIn_of _ (by decide +kernel)) ggX2_bestToTell_X5_putHeard
set_option maxRecDepth 20000 in
theorem ggX2_bestToTell_X5_passRounds : GoodIn wsX2_bestToTell wsX5_passRounds := goodIn_r _ [36, 37, 38, 39, 7, 40, 10, 41, 42, 43, 44, 45, 24, 22, 13, 46, 47, 48, 49, 11, 16, 21, 50, 51, 52, 53, 9, 54, 55, 56, 57, 23, 58, 31, 59, 60, 61, 62, 63, 64, 65, 66, 67, 68, 69, 70, 71, 72, 73, 74, 75, 76, 12, 88, 89, 90, 91, 92, 93, 94, 95, 96, 97, 98, 99, 100, 101] (by decide +kernel) (by decide +kernel)
set_option maxRecDepth 20000 in
theorem gX2_bestToTell_X5_passRounds : GoodIn wsX2_bestToTell (wsV RX2 24 RX5 yX5_passRounds wsX5_passRounds) := goodIn_app (goodIn_of _ (by decide +kernel)) ggX2_bestToTell_X5_passRounds
set_option maxRecDepth 20000 in
theorem ggX2_bestToTell_X5_whoKnows : GoodIn wsX2_bestToTell wsX5_whoKnows := goodIn_r _ [80, 10, 81, 82, 83, 7, 84, 16, 21, 22, 64, 31, 65, 30, 32, 88, 89, 90, 91, 92, 93, 94, 95, 96, 97, 98, 99, 100, 101] (by decide +kernel) (by decide +kernel)
set_option maxRecDepth 20000 in
theorem gX2_bestToTell_X5_whoKnows : GoodIn wsX2_bestToTell (wsV RX2 71 RX5 yX5_whoKnows wsX5_whoKnows) := goodIn_app (goodIn_of _ (by decide +kernel)) ggX2_bestToTell_X5_whoKnows
set_option maxRecDepth 20000 in
theorem ggX2_bestToTell_J6_bitCount_0f7a4 : GoodIn wsX2_bestToTell wsJ6_bitCount_0f7a4 := goodIn_r _ [69, 70, 71, 72] (by decide +kernel) (by decide +kernel)
set_option maxRecDepth 20000 in
theorem gX2_bestToTell_J6_bitCount_0f7a4 : GoodIn wsX2_bestToTell (va_wsS RX2 51 yJ6_bitCount_0f7a4 wsJ6_bitCount_0f7a4) := goodIn_app (goodIn_of _ (by decide +kernel)) ggX2_bestToTell_J6_bitCount_0f7a4
theorem dX2_bestToTell_0 : decode cX2_bestToTell 0 = .ok (.iconst (-1), 1) := by decide +kernel
theorem dX2_bestToTell_1 : decode cX2_bestToTell 1 = .ok (.istore_n 3, 1) := by decide +kernel
theorem dX2_bestToTell_2 : decode cX2_bestToTell 2 = .ok (.iconst (-1), 1) := by decide +kernel
theorem dX2_bestToTell_3 : decode cX2_bestToTell 3 = .ok (.istore 4, 2) := by decide +kernel
theorem dX2_bestToTell_5 : decode cX2_bestToTell 5 = .ok (.iconst 0, 1) := by decide +kernel
theorem dX2_bestToTell_6 : decode cX2_bestToTell 6 = .ok (.istore 5, 2) := by decide +kernel
theorem dX2_bestToTell_8 : decode cX2_bestToTell 8 = .ok (.iload 5, 2) := by decide +kernel
theorem dX2_bestToTell_10 : decode cX2_bestToTell 10 = .ok (.aload_n 0, 1) := by decide +kernel
theorem dX2_bestToTell_11 : decode cX2_bestToTell 11 = .ok (.getfield 9, 3) := by decide +kernel
theorem dX2_bestToTell_14 : decode cX2_bestToTell 14 = .ok (.getfield 47, 3) := by decide +kernel
theorem dX2_bestToTell_17 : decode cX2_bestToTell 17 = .ok (.if_icmp .ge 66, 3) := by decide +kernel
theorem dX2_bestToTell_20 : decode cX2_bestToTell 20 = .ok (.aload_n 0, 1) := by decide +kernel
theorem dX2_bestToTell_21 : decode cX2_bestToTell 21 = .ok (.getfield 15, 3) := by decide +kernel
theorem dX2_bestToTell_24 : decode cX2_bestToTell 24 = .ok (.aload_n 0, 1) := by decide +kernel
theorem dX2_bestToTell_25 : decode cX2_bestToTell 25 = .ok (.getfield 9, 3) := by decide +kernel
theorem dX2_bestToTell_28 : decode cX2_bestToTell 28 = .ok (.invokevirtual 18, 3) := by decide +kernel
theorem dX2_bestToTell_31 : decode cX2_bestToTell 31 = .ok (.aload_n 0, 1) := by decide +kernel
theorem dX2_bestToTell_32 : decode cX2_bestToTell 32 = .ok (.getfield 15, 3) := by decide +kernel
theorem dX2_bestToTell_35 : decode cX2_bestToTell 35 = .ok (.iload 5, 2) := by decide +kernel
theorem dX2_bestToTell_37 : decode cX2_bestToTell 37 = .ok (.iload_n 1, 1) := by decide +kernel
theorem dX2_bestToTell_38 : decode cX2_bestToTell 38 = .ok (.iconst 1, 1) := by decide +kernel
theorem dX2_bestToTell_39 : decode cX2_bestToTell 39 = .ok (.invokevirtual 67, 3) := by decide +kernel
theorem dX2_bestToTell_42 : decode cX2_bestToTell 42 = .ok (.aload_n 0, 1) := by decide +kernel
theorem dX2_bestToTell_43 : decode cX2_bestToTell 43 = .ok (.getfield 15, 3) := by decide +kernel
theorem dX2_bestToTell_46 : decode cX2_bestToTell 46 = .ok (.iload_n 2, 1) := by decide +kernel
theorem dX2_bestToTell_47 : decode cX2_bestToTell 47 = .ok (.invokevirtual 24, 3) := by decide +kernel
theorem dX2_bestToTell_50 : decode cX2_bestToTell 50 = .ok (.aload_n 0, 1) := by decide +kernel
theorem dX2_bestToTell_51 : decode cX2_bestToTell 51 = .ok (.getfield 15, 3) := by decide +kernel
theorem dX2_bestToTell_54 : decode cX2_bestToTell 54 = .ok (.iload_n 1, 1) := by decide +kernel
theorem dX2_bestToTell_55 : decode cX2_bestToTell 55 = .ok (.invokevirtual 71, 3) := by decide +kernel
theorem dX2_bestToTell_58 : decode cX2_bestToTell 58 = .ok (.invokestatic 51, 3) := by decide +kernel
theorem dX2_bestToTell_61 : decode cX2_bestToTell 61 = .ok (.istore 6, 2) := by decide +kernel
theorem dX2_bestToTell_63 : decode cX2_bestToTell 63 = .ok (.iload 6, 2) := by decide +kernel
theorem dX2_bestToTell_65 : decode cX2_bestToTell 65 = .ok (.iload 4, 2) := by decide +kernel
theorem dX2_bestToTell_67 : decode cX2_bestToTell 67 = .ok (.if_icmp .le 10, 3) := by decide +kernel
theorem dX2_bestToTell_70 : decode cX2_bestToTell 70 = .ok (.iload 6, 2) := by decide +kernel
theorem dX2_bestToTell_72 : decode cX2_bestToTell 72 = .ok (.istore 4, 2) := by decide +kernel
theorem dX2_bestToTell_74 : decode cX2_bestToTell 74 = .ok (.iload 5, 2) := by decide +kernel
theorem dX2_bestToTell_76 : decode cX2_bestToTell 76 = .ok (.istore_n 3, 1) := by decide +kernel
theorem dX2_bestToTell_77 : decode cX2_bestToTell 77 = .ok (.iinc 5 1, 3) := by decide +kernel
theorem dX2_bestToTell_80 : decode cX2_bestToTell 80 = .ok (.goto (-72), 3) := by decide +kernel
theorem dX2_bestToTell_83 : decode cX2_bestToTell 83 = .ok (.iload_n 3, 1) := by decide +kernel
theorem dX2_bestToTell_84 : decode cX2_bestToTell 84 = .ok (.ireturn, 1) := by decide +kernel
set_option maxRecDepth 20000 in
theorem ggX2_lostWithout_X5_become : GoodIn wsX2_lostWithout wsX5_become := goodIn_r _ [7, 8, 9, 10, 11, 12, 13, 14, 15, 16, 17, 18, 19, 20, 21, 22, 23, 24, 93, 94, 95, 96, 97, 98, 99, 100, 101, 102, 103, 104, 105, 106] (by decide +kernel) (by decide +kernel)
set_option maxRecDepth 20000 in
theorem gX2_lostWithout_X5_become : GoodIn wsX2_lostWithout (wsV RX2 18 RX5 yX5_become wsX5_become) := goodIn_app (goodIn_of _ (by decide +kernel)) ggX2_lostWithout_X5_become
set_option maxRecDepth 20000 in
theorem ggX2_lostWithout_X2_knownToOthersThen : GoodIn wsX2_lostWithout wsX2_knownToOthersThen := goodIn_r _ [29, 1, 30, 31, 32, 6, 33, 34, 35, 36, 37, 9, 38, 39, 40, 41, 42, 23, 21, 12, 43, 44, 45, 46, 10, 15, 20, 47, 48, 49, 50, 8, 51, 52, 53, 54, 22, 55, 56, 57, 58, 59, 60, 61, 62, 63, 64, 65, 66, 67, 68, 69, 70, 71, 72, 73, 74, 11, 75, 76, 77, 78, 79, 80, 81, 82, 83, 84, 91, 92, 93, 94, 95, 96, 97, 98, 99, 100, 101, 102, 103, 104, 105, 106] (by decide +kernel) (by decide +kernel)
set_option maxRecDepth 20000 in
theorem gX2_lostWithout_X2_knownToOthersThen : GoodIn wsX2_lostWithout (wsV RX2 74 RX2 yX2_knownToOthersThen wsX2_knownToOthersThen) := goodIn_app (goodIn_of _ (by decide +kernel)) ggX2_lostWithout_X2_knownToOthersThen
set_option maxRecDepth 20000 in
theorem ggX2_lostWithout_X5_cutOff : GoodIn wsX2_lostWithout wsX5_cutOff := goodIn_r _ [88, 22, 9, 89, 56, 90, 93, 94, 95, 96, 97, 98, 99, 100, 101, 102, 103, 104, 105, 106] (by decide +kernel) (by decide +kernel)
set_option maxRecDepth 20000 in
theorem gX2_lostWithout_X5_cutOff : GoodIn wsX2_lostWithout (wsV RX2 78 RX5 yX5_cutOff wsX5_cutOff) := goodIn_app (goodIn_of _ (by decide +kernel)) ggX2_lostWithout_X5_cutOff
theorem dX2_lostWithout_0 : decode cX2_lostWithout 0 = .ok (.aload_n 0, 1) := by decide +kernel
theorem dX2_lostWithout_1 : decode cX2_lostWithout 1 = .ok (.getfield 15, 3) := by decide +kernel
theorem dX2_lostWithout_4 : decode cX2_lostWithout 4 = .ok (.aload_n 0, 1) := by decide +kernel
theorem dX2_lostWithout_5 : decode cX2_lostWithout 5 = .ok (.getfield 9, 3) := by decide +kernel
theorem dX2_lostWithout_8 : decode cX2_lostWithout 8 = .ok (.invokevirtual 18, 3) := by decide +kernel
theorem dX2_lostWithout_11 : decode cX2_lostWithout 11 = .ok (.aload_n 0, 1) := by decide +kernel
theorem dX2_lostWithout_12 : decode cX2_lostWithout 12 = .ok (.iload_n 1, 1) := by decide +kernel
theorem dX2_lostWithout_13 : decode cX2_lostWithout 13 = .ok (.iload_n 2, 1) := by decide +kernel
theorem dX2_lostWithout_14 : decode cX2_lostWithout 14 = .ok (.invokevirtual 74, 3) := by decide +kernel
theorem dX2_lostWithout_17 : decode cX2_lostWithout 17 = .ok (.istore_n 3, 1) := by decide +kernel
theorem dX2_lostWithout_18 : decode cX2_lostWithout 18 = .ok (.aload_n 0, 1) := by decide +kernel
theorem dX2_lostWithout_19 : decode cX2_lostWithout 19 = .ok (.getfield 15, 3) := by decide +kernel
theorem dX2_lostWithout_22 : decode cX2_lostWithout 22 = .ok (.aload_n 0, 1) := by decide +kernel
theorem dX2_lostWithout_23 : decode cX2_lostWithout 23 = .ok (.getfield 9, 3) := by decide +kernel
theorem dX2_lostWithout_26 : decode cX2_lostWithout 26 = .ok (.invokevirtual 18, 3) := by decide +kernel
theorem dX2_lostWithout_29 : decode cX2_lostWithout 29 = .ok (.aload_n 0, 1) := by decide +kernel
theorem dX2_lostWithout_30 : decode cX2_lostWithout 30 = .ok (.getfield 15, 3) := by decide +kernel
theorem dX2_lostWithout_33 : decode cX2_lostWithout 33 = .ok (.iload_n 1, 1) := by decide +kernel
theorem dX2_lostWithout_34 : decode cX2_lostWithout 34 = .ok (.invokevirtual 78, 3) := by decide +kernel
theorem dX2_lostWithout_37 : decode cX2_lostWithout 37 = .ok (.iload_n 3, 1) := by decide +kernel
theorem dX2_lostWithout_38 : decode cX2_lostWithout 38 = .ok (.aload_n 0, 1) := by decide +kernel
theorem dX2_lostWithout_39 : decode cX2_lostWithout 39 = .ok (.iload_n 1, 1) := by decide +kernel
theorem dX2_lostWithout_40 : decode cX2_lostWithout 40 = .ok (.iload_n 2, 1) := by decide +kernel
theorem dX2_lostWithout_41 : decode cX2_lostWithout 41 = .ok (.invokevirtual 74, 3) := by decide +kernel
theorem dX2_lostWithout_44 : decode cX2_lostWithout 44 = .ok (.isub, 1) := by decide +kernel
theorem dX2_lostWithout_45 : decode cX2_lostWithout 45 = .ok (.ireturn, 1) := by decide +kernel
set_option maxRecDepth 20000 in
theorem ggX2_knownToOthersThen_X5_passRounds : GoodIn wsX2_knownToOthersThen wsX5_passRounds := goodIn_r _ [6, 7, 8, 9, 5, 10, 11, 12, 13, 14, 15, 16, 17, 18, 19, 20, 21, 22, 23, 24, 25, 26, 27, 28, 29, 30, 31, 32, 33, 34, 35, 36, 37, 38, 39, 40, 41, 42, 43, 44, 45, 46, 47, 48, 49, 50, 51, 52, 53, 54, 55, 56, 57, 70, 71, 72, 73, 74, 75, 76, 77, 78, 79, 80, 81, 82, 83] (by decide +kernel) (by decide +kernel)
set_option maxRecDepth 20000 in
theorem gX2_knownToOthersThen_X5_passRounds : GoodIn wsX2_knownToOthersThen (wsV RX2 24 RX5 yX5_passRounds wsX5_passRounds) := goodIn_app (goodIn_of _ (by decide +kernel)) ggX2_knownToOthersThen_X5_passRounds
set_option maxRecDepth 20000 in
theorem ggX2_knownToOthersThen_X5_knownInAll : GoodIn wsX2_knownToOthersThen wsX5_knownInAll := goodIn_r _ [61, 11, 62, 63, 64, 5, 65, 25, 26, 18, 46, 47, 48, 49, 50, 51, 52, 70, 71, 72, 73, 74, 75, 76, 77, 78, 79, 80, 81, 82, 83] (by decide +kernel) (by decide +kernel)
set_option maxRecDepth 20000 in
theorem gX2_knownToOthersThen_X5_knownInAll : GoodIn wsX2_knownToOthersThen (wsV RX2 81 RX5 yX5_knownInAll wsX5_knownInAll) := goodIn_app (goodIn_of _ (by decide +kernel)) ggX2_knownToOthersThen_X5_knownInAll
set_option maxRecDepth 20000 in
theorem ggX2_knownToOthersThen_X5_knownTo : GoodIn wsX2_knownToOthersThen wsX5_knownTo := goodIn_r _ [65, 25, 26, 18, 70, 71, 72, 73, 74, 75, 76, 77, 78, 79, 80, 81, 82, 83] (by decide +kernel) (by decide +kernel)
set_option maxRecDepth 20000 in
theorem gX2_knownToOthersThen_X5_knownTo : GoodIn wsX2_knownToOthersThen (wsV RX2 32 RX5 yX5_knownTo wsX5_knownTo) := goodIn_app (goodIn_of _ (by decide +kernel)) ggX2_knownToOthersThen_X5_knownTo
set_option maxRecDepth 20000 in
theorem ggX2_knownToOthersThen_J6_bitCount_0f7a4 : GoodIn wsX2_knownToOthersThen wsJ6_bitCount_0f7a4 := goodIn_r _ [49, 50, 51, 52] (by decide +kernel) (by decide +kernel)
set_option maxRecDepth 20000 in
theorem gX2_knownToOthersThen_J6_bitCount_0f7a4 : GoodIn wsX2_knownToOthersThen (va_wsS RX2 51 yJ6_bitCount_0f7a4 wsJ6_bitCount_0f7a4) := goodIn_app (goodIn_of _ (by decide +kernel)) ggX2_knownToOthersThen_J6_bitCount_0f7a4
theorem dX2_knownToOthersThen_0 : decode cX2_knownToOthersThen 0 = .ok (.aload_n 0, 1) := by decide +kernel
theorem dX2_knownToOthersThen_1 : decode cX2_knownToOthersThen 1 = .ok (.getfield 15, 3) := by decide +kernel
theorem dX2_knownToOthersThen_4 : decode cX2_knownToOthersThen 4 = .ok (.iload_n 2, 1) := by decide +kernel
theorem dX2_knownToOthersThen_5 : decode cX2_knownToOthersThen 5 = .ok (.invokevirtual 24, 3) := by decide +kernel
theorem dX2_knownToOthersThen_8 : decode cX2_knownToOthersThen 8 = .ok (.aload_n 0, 1) := by decide +kernel
theorem dX2_knownToOthersThen_9 : decode cX2_knownToOthersThen 9 = .ok (.getfield 15, 3) := by decide +kernel
theorem dX2_knownToOthersThen_12 : decode cX2_knownToOthersThen 12 = .ok (.invokevirtual 81, 3) := by decide +kernel
theorem dX2_knownToOthersThen_15 : decode cX2_knownToOthersThen 15 = .ok (.aload_n 0, 1) := by decide +kernel
theorem dX2_knownToOthersThen_16 : decode cX2_knownToOthersThen 16 = .ok (.getfield 15, 3) := by decide +kernel
theorem dX2_knownToOthersThen_19 : decode cX2_knownToOthersThen 19 = .ok (.iload_n 1, 1) := by decide +kernel
theorem dX2_knownToOthersThen_20 : decode cX2_knownToOthersThen 20 = .ok (.invokevirtual 32, 3) := by decide +kernel
theorem dX2_knownToOthersThen_23 : decode cX2_knownToOthersThen 23 = .ok (.invokestatic 51, 3) := by decide +kernel
theorem dX2_knownToOthersThen_26 : decode cX2_knownToOthersThen 26 = .ok (.isub, 1) := by decide +kernel
theorem dX2_knownToOthersThen_27 : decode cX2_knownToOthersThen 27 = .ok (.ireturn, 1) := by decide +kernel
set_option maxRecDepth 20000 in
theorem ggX2_gainByBlind_X2_after : GoodIn wsX2_gainByBlind wsX2_after := goodIn_r _ [7, 1, 2, 8, 9, 10, 11, 12, 13, 14, 15, 16, 17, 18, 19, 20, 21, 22, 23, 24, 25, 26, 27, 28, 29, 30, 31, 32, 33, 34, 35, 36, 37, 38, 39, 40, 41, 42, 43, 44, 45, 46, 47, 48, 49, 50, 51, 52, 53, 54, 55, 56, 57, 58, 59, 60, 61, 62, 63, 64, 65, 66, 67, 68, 69, 70, 71, 72, 73, 74, 87, 88, 89, 90, 91, 92, 93, 94, 95, 96, 97, 98, 99, 100, 101, 102] (by decide +kernel) (by decide +kernel)
set_option maxRecDepth 20000 in
theorem gX2_gainByBlind_X2_after : GoodIn wsX2_gainByBlind (wsV RX2 84 RX2 yX2_after wsX2_after) := goodIn_app (goodIn_of _ (by decide +kernel)) ggX2_gainByBlind_X2_after
set_option maxRecDepth 20000 in
theorem ggX2_gainByBlind_X5_knownInAll : GoodIn wsX2_gainByBlind wsX5_knownInAll := goodIn_r _ [78, 14, 79, 80, 81, 11, 82, 20, 25, 26, 64, 65, 66, 67, 68, 69, 70, 89, 90, 91, 92, 93, 94, 95, 96, 97, 98, 99, 100, 101, 102] (by decide +kernel) (by decide +kernel)
set_option maxRecDepth 20000 in
theorem gX2_gainByBlind_X5_knownInAll : GoodIn wsX2_gainByBlind (wsV RX2 81 RX5 yX5_knownInAll wsX5_knownInAll) := goodIn_app (goodIn_of _ (by decide +kernel)) ggX2_gainByBlind_X5_knownInAll
set_option maxRecDepth 20000 in
theorem ggX2_gainByBlind_X5_become : GoodIn wsX2_gainByBlind wsX5_become := goodIn_r _ [12, 13, 14, 15, 16, 17, 18, 19, 20, 21, 22, 23, 24, 25, 26, 27, 28, 29, 89, 90, 91, 92, 93, 94, 95, 96, 97, 98, 99, 100, 101, 102] (by decide +kernel) (by decide +kernel)
set_option maxRecDepth 20000 in
theorem gX2_gainByBlind_X5_become : GoodIn wsX2_gainByBlind (wsV RX2 18 RX5 yX5_become wsX5_become) := goodIn_app (goodIn_of _ (by decide +kernel)) ggX2_gainByBlind_X5_become
set_option maxRecDepth 20000 in
theorem ggX2_gainByBlind_X5_makeBlind : GoodIn wsX2_gainByBlind wsX5_makeBlind := goodIn_r _ [86, 26, 20, 25, 28, 89, 90, 91, 92, 93, 94, 95, 96, 97, 98, 99, 100, 101, 102] (by decide +kernel) (by decide +kernel)
set_option maxRecDepth 20000 in
theorem gX2_gainByBlind_X5_makeBlind : GoodIn wsX2_gainByBlind (wsV RX2 88 RX5 yX5_makeBlind wsX5_makeBlind) := goodIn_app (goodIn_of _ (by decide +kernel)) ggX2_gainByBlind_X5_makeBlind
set_option maxRecDepth 20000 in
theorem ggX2_gainByBlind_X5_passRounds : GoodIn wsX2_gainByBlind wsX5_passRounds := goodIn_r _ [33, 34, 35, 36, 11, 37, 14, 38, 39, 40, 41, 42, 28, 26, 17, 43, 44, 45, 46, 15, 20, 25, 47, 48, 49, 50, 13, 51, 52, 53, 54, 27, 55, 56, 57, 58, 59, 60, 61, 62, 63, 64, 65, 66, 67, 68, 69, 70, 71, 72, 73, 74, 16, 89, 90, 91, 92, 93, 94, 95, 96, 97, 98, 99, 100, 101, 102] (by decide +kernel) (by decide +kernel)
set_option maxRecDepth 20000 in
theorem gX2_gainByBlind_X5_passRounds : GoodIn wsX2_gainByBlind (wsV RX2 24 RX5 yX5_passRounds wsX5_passRounds) := goodIn_app (goodIn_of _ (by decide +kernel)) ggX2_gainByBlind_X5_passRounds
theorem dX2_gainByBlind_0 : decode cX2_gainByBlind 0 = .ok (.aload_n 0, 1) := by decide +kernel
theorem dX2_gainByBlind_1 : decode cX2_gainByBlind 1 = .ok (.iload_n 2, 1) := by decide +kernel
theorem dX2_gainByBlind_2 : decode cX2_gainByBlind 2 = .ok (.invokevirtual 84, 3) := by decide +kernel
theorem dX2_gainByBlind_5 : decode cX2_gainByBlind 5 = .ok (.invokevirtual 81, 3) := by decide +kernel
theorem dX2_gainByBlind_8 : decode cX2_gainByBlind 8 = .ok (.istore_n 3, 1) := by decide +kernel
theorem dX2_gainByBlind_9 : decode cX2_gainByBlind 9 = .ok (.aload_n 0, 1) := by decide +kernel
theorem dX2_gainByBlind_10 : decode cX2_gainByBlind 10 = .ok (.getfield 15, 3) := by decide +kernel
theorem dX2_gainByBlind_13 : decode cX2_gainByBlind 13 = .ok (.aload_n 0, 1) := by decide +kernel
theorem dX2_gainByBlind_14 : decode cX2_gainByBlind 14 = .ok (.getfield 9, 3) := by decide +kernel
theorem dX2_gainByBlind_17 : decode cX2_gainByBlind 17 = .ok (.invokevirtual 18, 3) := by decide +kernel
theorem dX2_gainByBlind_20 : decode cX2_gainByBlind 20 = .ok (.aload_n 0, 1) := by decide +kernel
theorem dX2_gainByBlind_21 : decode cX2_gainByBlind 21 = .ok (.getfield 15, 3) := by decide +kernel
theorem dX2_gainByBlind_24 : decode cX2_gainByBlind 24 = .ok (.iload_n 1, 1) := by decide +kernel
theorem dX2_gainByBlind_25 : decode cX2_gainByBlind 25 = .ok (.invokevirtual 88, 3) := by decide +kernel
theorem dX2_gainByBlind_28 : decode cX2_gainByBlind 28 = .ok (.aload_n 0, 1) := by decide +kernel
theorem dX2_gainByBlind_29 : decode cX2_gainByBlind 29 = .ok (.getfield 15, 3) := by decide +kernel
theorem dX2_gainByBlind_32 : decode cX2_gainByBlind 32 = .ok (.iload_n 2, 1) := by decide +kernel
theorem dX2_gainByBlind_33 : decode cX2_gainByBlind 33 = .ok (.invokevirtual 24, 3) := by decide +kernel
theorem dX2_gainByBlind_36 : decode cX2_gainByBlind 36 = .ok (.aload_n 0, 1) := by decide +kernel
theorem dX2_gainByBlind_37 : decode cX2_gainByBlind 37 = .ok (.getfield 15, 3) := by decide +kernel
theorem dX2_gainByBlind_40 : decode cX2_gainByBlind 40 = .ok (.invokevirtual 81, 3) := by decide +kernel
theorem dX2_gainByBlind_43 : decode cX2_gainByBlind 43 = .ok (.iload_n 3, 1) := by decide +kernel
theorem dX2_gainByBlind_44 : decode cX2_gainByBlind 44 = .ok (.isub, 1) := by decide +kernel
theorem dX2_gainByBlind_45 : decode cX2_gainByBlind 45 = .ok (.ireturn, 1) := by decide +kernel
set_option maxRecDepth 20000 in
theorem ggX2_gainByLight_X2_knownAtDusk : GoodIn wsX2_gainByLight wsX2_knownAtDusk := goodIn_r _ [5, 6, 7, 8, 9, 10, 11, 12, 13, 14, 15, 16, 17, 18, 19, 20, 21, 22, 23, 24, 25, 26, 27, 28, 29, 30, 31, 32, 33, 34, 35, 36, 37, 38, 39, 40, 41, 42, 43, 44, 45, 46, 47, 48, 49, 50, 51, 52, 53, 54, 55, 56, 57, 58, 59, 60, 61, 62, 63, 64, 65, 66, 67, 68, 69, 70, 71, 72, 73, 74, 75, 76, 77, 78, 79, 80, 81, 82, 83, 84, 85, 86, 87, 88, 89, 90, 91, 92, 93, 94, 95, 96, 97, 98, 99] (by decide +kernel) (by decide +kernel)
set_option maxRecDepth 20000 in
theorem gX2_gainByLight_X2_knownAtDusk : GoodIn wsX2_gainByLight (wsV RX2 91 RX2 yX2_knownAtDusk wsX2_knownAtDusk) := goodIn_app (goodIn_of _ (by decide +kernel)) ggX2_gainByLight_X2_knownAtDusk
theorem dX2_gainByLight_0 : decode cX2_gainByLight 0 = .ok (.aload_n 0, 1) := by decide +kernel
theorem dX2_gainByLight_1 : decode cX2_gainByLight 1 = .ok (.iconst 0, 1) := by decide +kernel
theorem dX2_gainByLight_2 : decode cX2_gainByLight 2 = .ok (.iload_n 1, 1) := by decide +kernel
theorem dX2_gainByLight_3 : decode cX2_gainByLight 3 = .ok (.invokevirtual 91, 3) := by decide +kernel
theorem dX2_gainByLight_6 : decode cX2_gainByLight 6 = .ok (.aload_n 0, 1) := by decide +kernel
theorem dX2_gainByLight_7 : decode cX2_gainByLight 7 = .ok (.iconst 1, 1) := by decide +kernel
theorem dX2_gainByLight_8 : decode cX2_gainByLight 8 = .ok (.iload_n 1, 1) := by decide +kernel
theorem dX2_gainByLight_9 : decode cX2_gainByLight 9 = .ok (.invokevirtual 91, 3) := by decide +kernel
theorem dX2_gainByLight_12 : decode cX2_gainByLight 12 = .ok (.isub, 1) := by decide +kernel
theorem dX2_gainByLight_13 : decode cX2_gainByLight 13 = .ok (.ireturn, 1) := by decide +kernel
set_option maxRecDepth 20000 in
theorem ggX2_knownAtDusk_X5_become : GoodIn wsX2_knownAtDusk wsX5_become := goodIn_r _ [8, 9, 10, 11, 12, 13, 14, 15, 16, 17, 18, 19, 20, 21, 22, 23, 24, 25, 81, 82, 83, 84, 85, 86, 87, 88, 89, 90, 91, 92, 93, 94] (by decide +kernel) (by decide +kernel)
set_option maxRecDepth 20000 in
theorem gX2_knownAtDusk_X5_become : GoodIn wsX2_knownAtDusk (wsV RX2 18 RX5 yX5_become wsX5_become) := goodIn_app (goodIn_of _ (by decide +kernel)) ggX2_knownAtDusk_X5_become
set_option maxRecDepth 20000 in
theorem ggX2_knownAtDusk_X5_passRounds : GoodIn wsX2_knownAtDusk wsX5_passRounds := goodIn_r _ [29, 30, 31, 32, 7, 33, 10, 34, 35, 36, 37, 38, 24, 22, 13, 39, 40, 41, 42, 11, 16, 21, 43, 44, 45, 46, 9, 47, 48, 49, 50, 23, 51, 52, 53, 54, 55, 56, 57, 58, 59, 60, 61, 62, 63, 64, 65, 66, 67, 68, 69, 70, 12, 81, 82, 83, 84, 85, 86, 87, 88, 89, 90, 91, 92, 93, 94] (by decide +kernel) (by decide +kernel)
set_option maxRecDepth 20000 in
theorem gX2_knownAtDusk_X5_passRounds : GoodIn wsX2_knownAtDusk (wsV RX2 24 RX5 yX5_passRounds wsX5_passRounds) := goodIn_app (goodIn_of _ (by decide +kernel)) ggX2_knownAtDusk_X5_passRounds
set_option maxRecDepth 20000 in
theorem ggX2_knownAtDusk_X5_knownInAll : GoodIn wsX2_knownAtDusk wsX5_knownInAll := goodIn_r _ [74, 10, 75, 76, 77, 7, 78, 16, 21, 22, 60, 61, 62, 63, 64, 65, 66, 81, 82, 83, 84, 85, 86, 87, 88, 89, 90, 91, 92, 93, 94] (by decide +kernel) (by decide +kernel)
set_option maxRecDepth 20000 in
theorem gX2_knownAtDusk_X5_knownInAll : GoodIn wsX2_knownAtDusk (wsV RX2 81 RX5 yX5_knownInAll wsX5_knownInAll) := goodIn_app (goodIn_of _ (by decide +kernel)) ggX2_knownAtDusk_X5_knownInAll
theorem dX2_knownAtDusk_0 : decode cX2_knownAtDusk 0 = .ok (.aload_n 0, 1) := by decide +kernel
theorem dX2_knownAtDusk_1 : decode cX2_knownAtDusk 1 = .ok (.getfield 15, 3) := by decide +kernel
theorem dX2_knownAtDusk_4 : decode cX2_knownAtDusk 4 = .ok (.aload_n 0, 1) := by decide +kernel
theorem dX2_knownAtDusk_5 : decode cX2_knownAtDusk 5 = .ok (.getfield 9, 3) := by decide +kernel
theorem dX2_knownAtDusk_8 : decode cX2_knownAtDusk 8 = .ok (.invokevirtual 18, 3) := by decide +kernel
theorem dX2_knownAtDusk_11 : decode cX2_knownAtDusk 11 = .ok (.aload_n 0, 1) := by decide +kernel
theorem dX2_knownAtDusk_12 : decode cX2_knownAtDusk 12 = .ok (.getfield 15, 3) := by decide +kernel
theorem dX2_knownAtDusk_15 : decode cX2_knownAtDusk 15 = .ok (.iload_n 1, 1) := by decide +kernel
theorem dX2_knownAtDusk_16 : decode cX2_knownAtDusk 16 = .ok (.putfield 94, 3) := by decide +kernel
theorem dX2_knownAtDusk_19 : decode cX2_knownAtDusk 19 = .ok (.aload_n 0, 1) := by decide +kernel
theorem dX2_knownAtDusk_20 : decode cX2_knownAtDusk 20 = .ok (.getfield 15, 3) := by decide +kernel
theorem dX2_knownAtDusk_23 : decode cX2_knownAtDusk 23 = .ok (.iload_n 2, 1) := by decide +kernel
theorem dX2_knownAtDusk_24 : decode cX2_knownAtDusk 24 = .ok (.invokevirtual 24, 3) := by decide +kernel
theorem dX2_knownAtDusk_27 : decode cX2_knownAtDusk 27 = .ok (.aload_n 0, 1) := by decide +kernel
theorem dX2_knownAtDusk_28 : decode cX2_knownAtDusk 28 = .ok (.getfield 15, 3) := by decide +kernel
theorem dX2_knownAtDusk_31 : decode cX2_knownAtDusk 31 = .ok (.invokevirtual 81, 3) := by decide +kernel
theorem dX2_knownAtDusk_34 : decode cX2_knownAtDusk 34 = .ok (.ireturn, 1) := by decide +kernel
theorem dX3_init_0 : decode cX3_init 0 = .ok (.aload_n 0, 1) := by decide +kernel
theorem dX3_init_1 : decode cX3_init 1 = .ok (.invokespecial 3, 3) := by decide +kernel
theorem dX3_init_4 : decode cX3_init 4 = .ok (.aload_n 0, 1) := by decide +kernel
theorem dX3_init_5 : decode cX3_init 5 = .ok (.bipush 8, 2) := by decide +kernel
theorem dX3_init_7 : decode cX3_init 7 = .ok (.newarray .int, 2) := by decide +kernel
theorem dX3_init_9 : decode cX3_init 9 = .ok (.dup, 1) := by decide +kernel
theorem dX3_init_10 : decode cX3_init 10 = .ok (.iconst 0, 1) := by decide +kernel
theorem dX3_init_11 : decode cX3_init 11 = .ok (.iconst (-1), 1) := by decide +kernel
theorem dX3_init_12 : decode cX3_init 12 = .ok (.iastore, 1) := by decide +kernel
theorem dX3_init_13 : decode cX3_init 13 = .ok (.dup, 1) := by decide +kernel
theorem dX3_init_14 : decode cX3_init 14 = .ok (.iconst 1, 1) := by decide +kernel
theorem dX3_init_15 : decode cX3_init 15 = .ok (.iconst (-1), 1) := by decide +kernel
theorem dX3_init_16 : decode cX3_init 16 = .ok (.iastore, 1) := by decide +kernel
theorem dX3_init_17 : decode cX3_init 17 = .ok (.dup, 1) := by decide +kernel
theorem dX3_init_18 : decode cX3_init 18 = .ok (.iconst 2, 1) := by decide +kernel
theorem dX3_init_19 : decode cX3_init 19 = .ok (.iconst (-1), 1) := by decide +kernel
theorem dX3_init_20 : decode cX3_init 20 = .ok (.iastore, 1) := by decide +kernel
theorem dX3_init_21 : decode cX3_init 21 = .ok (.dup, 1) := by decide +kernel
theorem dX3_init_22 : decode cX3_init 22 = .ok (.iconst 3, 1) := by decide +kernel
theorem dX3_init_23 : decode cX3_init 23 = .ok (.iconst (-1), 1) := by decide +kernel
theorem dX3_init_24 : decode cX3_init 24 = .ok (.iastore, 1) := by decide +kernel
theorem dX3_init_25 : decode cX3_init 25 = .ok (.dup, 1) := by decide +kernel
theorem dX3_init_26 : decode cX3_init 26 = .ok (.iconst 4, 1) := by decide +kernel
theorem dX3_init_27 : decode cX3_init 27 = .ok (.iconst (-1), 1) := by decide +kernel
theorem dX3_init_28 : decode cX3_init 28 = .ok (.iastore, 1) := by decide +kernel
theorem dX3_init_29 : decode cX3_init 29 = .ok (.dup, 1) := by decide +kernel
theorem dX3_init_30 : decode cX3_init 30 = .ok (.iconst 5, 1) := by decide +kernel
theorem dX3_init_31 : decode cX3_init 31 = .ok (.iconst (-1), 1) := by decide +kernel
theorem dX3_init_32 : decode cX3_init 32 = .ok (.iastore, 1) := by decide +kernel
theorem dX3_init_33 : decode cX3_init 33 = .ok (.dup, 1) := by decide +kernel
theorem dX3_init_34 : decode cX3_init 34 = .ok (.bipush 6, 2) := by decide +kernel
theorem dX3_init_36 : decode cX3_init 36 = .ok (.iconst (-1), 1) := by decide +kernel
theorem dX3_init_37 : decode cX3_init 37 = .ok (.iastore, 1) := by decide +kernel
theorem dX3_init_38 : decode cX3_init 38 = .ok (.dup, 1) := by decide +kernel
theorem dX3_init_39 : decode cX3_init 39 = .ok (.bipush 7, 2) := by decide +kernel
theorem dX3_init_41 : decode cX3_init 41 = .ok (.iconst (-1), 1) := by decide +kernel
theorem dX3_init_42 : decode cX3_init 42 = .ok (.iastore, 1) := by decide +kernel
theorem dX3_init_43 : decode cX3_init 43 = .ok (.putfield 9, 3) := by decide +kernel
theorem dX3_init_46 : decode cX3_init 46 = .ok (.aload_n 0, 1) := by decide +kernel
theorem dX3_init_47 : decode cX3_init 47 = .ok (.bipush 8, 2) := by decide +kernel
theorem dX3_init_49 : decode cX3_init 49 = .ok (.newarray .int, 2) := by decide +kernel
theorem dX3_init_51 : decode cX3_init 51 = .ok (.putfield 15, 3) := by decide +kernel
theorem dX3_init_54 : decode cX3_init 54 = .ok (.aload_n 0, 1) := by decide +kernel
theorem dX3_init_55 : decode cX3_init 55 = .ok (.bipush 8, 2) := by decide +kernel
theorem dX3_init_57 : decode cX3_init 57 = .ok (.bipush 40, 2) := by decide +kernel
theorem dX3_init_59 : decode cX3_init 59 = .ok (.multianewarray 18 2, 4) := by decide +kernel
theorem dX3_init_63 : decode cX3_init 63 = .ok (.putfield 20, 3) := by decide +kernel
theorem dX3_init_66 : decode cX3_init 66 = .ok (.return_, 1) := by decide +kernel
theorem dX3_putRow_0 : decode cX3_putRow 0 = .ok (.aload_n 0, 1) := by decide +kernel
theorem dX3_putRow_1 : decode cX3_putRow 1 = .ok (.getfield 9, 3) := by decide +kernel
theorem dX3_putRow_4 : decode cX3_putRow 4 = .ok (.iload_n 1, 1) := by decide +kernel
theorem dX3_putRow_5 : decode cX3_putRow 5 = .ok (.iload_n 2, 1) := by decide +kernel
theorem dX3_putRow_6 : decode cX3_putRow 6 = .ok (.iastore, 1) := by decide +kernel
theorem dX3_putRow_7 : decode cX3_putRow 7 = .ok (.aload_n 0, 1) := by decide +kernel
theorem dX3_putRow_8 : decode cX3_putRow 8 = .ok (.getfield 15, 3) := by decide +kernel
theorem dX3_putRow_11 : decode cX3_putRow 11 = .ok (.iload_n 1, 1) := by decide +kernel
theorem dX3_putRow_12 : decode cX3_putRow 12 = .ok (.iload_n 3, 1) := by decide +kernel
theorem dX3_putRow_13 : decode cX3_putRow 13 = .ok (.iastore, 1) := by decide +kernel
theorem dX3_putRow_14 : decode cX3_putRow 14 = .ok (.iconst 0, 1) := by decide +kernel
theorem dX3_putRow_15 : decode cX3_putRow 15 = .ok (.istore 4, 2) := by decide +kernel
theorem dX3_putRow_17 : decode cX3_putRow 17 = .ok (.iload 4, 2) := by decide +kernel
theorem dX3_putRow_19 : decode cX3_putRow 19 = .ok (.bipush 40, 2) := by decide +kernel
theorem dX3_putRow_21 : decode cX3_putRow 21 = .ok (.if_icmp .ge 19, 3) := by decide +kernel
theorem dX3_putRow_24 : decode cX3_putRow 24 = .ok (.aload_n 0, 1) := by decide +kernel
theorem dX3_putRow_25 : decode cX3_putRow 25 = .ok (.getfield 20, 3) := by decide +kernel
theorem dX3_putRow_28 : decode cX3_putRow 28 = .ok (.iload_n 1, 1) := by decide +kernel
theorem dX3_putRow_29 : decode cX3_putRow 29 = .ok (.aaload, 1) := by decide +kernel
theorem dX3_putRow_30 : decode cX3_putRow 30 = .ok (.iload 4, 2) := by decide +kernel
theorem dX3_putRow_32 : decode cX3_putRow 32 = .ok (.lconst 0, 1) := by decide +kernel
theorem dX3_putRow_33 : decode cX3_putRow 33 = .ok (.lastore, 1) := by decide +kernel
theorem dX3_putRow_34 : decode cX3_putRow 34 = .ok (.iinc 4 1, 3) := by decide +kernel
theorem dX3_putRow_37 : decode cX3_putRow 37 = .ok (.goto (-20), 3) := by decide +kernel
theorem dX3_putRow_40 : decode cX3_putRow 40 = .ok (.return_, 1) := by decide +kernel
theorem dX3_putOne_0 : decode cX3_putOne 0 = .ok (.aload_n 0, 1) := by decide +kernel
theorem dX3_putOne_1 : decode cX3_putOne 1 = .ok (.getfield 9, 3) := by decide +kernel
theorem dX3_putOne_4 : decode cX3_putOne 4 = .ok (.iload_n 1, 1) := by decide +kernel
theorem dX3_putOne_5 : decode cX3_putOne 5 = .ok (.iload_n 2, 1) := by decide +kernel
theorem dX3_putOne_6 : decode cX3_putOne 6 = .ok (.iconst (-1), 1) := by decide +kernel
theorem dX3_putOne_7 : decode cX3_putOne 7 = .ok (.if_icmp .ne 7, 3) := by decide +kernel
theorem dX3_putOne_10 : decode cX3_putOne 10 = .ok (.iconst (-1), 1) := by decide +kernel
theorem dX3_putOne_11 : decode cX3_putOne 11 = .ok (.goto 7, 3) := by decide +kernel
theorem dX3_putOne_14 : decode cX3_putOne 14 = .ok (.bipush 10, 2) := by decide +kernel
theorem dX3_putOne_16 : decode cX3_putOne 16 = .ok (.iload_n 2, 1) := by decide +kernel
theorem dX3_putOne_17 : decode cX3_putOne 17 = .ok (.iadd, 1) := by decide +kernel
theorem dX3_putOne_18 : decode cX3_putOne 18 = .ok (.iastore, 1) := by decide +kernel
theorem dX3_putOne_19 : decode cX3_putOne 19 = .ok (.aload_n 0, 1) := by decide +kernel
theorem dX3_putOne_20 : decode cX3_putOne 20 = .ok (.getfield 15, 3) := by decide +kernel
theorem dX3_putOne_23 : decode cX3_putOne 23 = .ok (.iload_n 1, 1) := by decide +kernel
theorem dX3_putOne_24 : decode cX3_putOne 24 = .ok (.iconst 0, 1) := by decide +kernel
theorem dX3_putOne_25 : decode cX3_putOne 25 = .ok (.iastore, 1) := by decide +kernel
theorem dX3_putOne_26 : decode cX3_putOne 26 = .ok (.return_, 1) := by decide +kernel
set_option maxRecDepth 20000 in
theorem ggX3_putElement_X3_lowestBits : GoodIn wsX3_putElement wsX3_lowestBits := goodIn_r _ [6] (by decide +kernel) (by decide +kernel)
set_option maxRecDepth 20000 in
theorem gX3_putElement_X3_lowestBits : GoodIn wsX3_putElement (va_wsS RX3 23 yX3_lowestBits wsX3_lowestBits) := goodIn_app (goodIn_of _ (by decide +kernel)) ggX3_putElement_X3_lowestBits
theorem dX3_putElement_0 : decode cX3_putElement 0 = .ok (.aload_n 0, 1) := by decide +kernel
theorem dX3_putElement_1 : decode cX3_putElement 1 = .ok (.getfield 20, 3) := by decide +kernel
theorem dX3_putElement_4 : decode cX3_putElement 4 = .ok (.iload_n 1, 1) := by decide +kernel
theorem dX3_putElement_5 : decode cX3_putElement 5 = .ok (.aaload, 1) := by decide +kernel
theorem dX3_putElement_6 : decode cX3_putElement 6 = .ok (.iload_n 2, 1) := by decide +kernel
theorem dX3_putElement_7 : decode cX3_putElement 7 = .ok (.aload_n 0, 1) := by decide +kernel
theorem dX3_putElement_8 : decode cX3_putElement 8 = .ok (.getfield 9, 3) := by decide +kernel
theorem dX3_putElement_11 : decode cX3_putElement 11 = .ok (.iload_n 1, 1) := by decide +kernel
theorem dX3_putElement_12 : decode cX3_putElement 12 = .ok (.iaload, 1) := by decide +kernel
theorem dX3_putElement_13 : decode cX3_putElement 13 = .ok (.lload_n 3, 1) := by decide +kernel
theorem dX3_putElement_14 : decode cX3_putElement 14 = .ok (.invokestatic 23, 3) := by decide +kernel
theorem dX3_putElement_17 : decode cX3_putElement 17 = .ok (.lastore, 1) := by decide +kernel
theorem dX3_putElement_18 : decode cX3_putElement 18 = .ok (.return_, 1) := by decide +kernel
theorem dX3_lowestBits_0 : decode cX3_lowestBits 0 = .ok (.iload_n 0, 1) := by decide +kernel
theorem dX3_lowestBits_1 : decode cX3_lowestBits 1 = .ok (.tableswitch 61 0 4 #[35, 40, 45, 61, 49], 35) := by decide +kernel
theorem dX3_lowestBits_36 : decode cX3_lowestBits 36 = .ok (.lload_n 1, 1) := by decide +kernel
theorem dX3_lowestBits_37 : decode cX3_lowestBits 37 = .ok (.l2i, 1) := by decide +kernel
theorem dX3_lowestBits_38 : decode cX3_lowestBits 38 = .ok (.i2b, 1) := by decide +kernel
theorem dX3_lowestBits_39 : decode cX3_lowestBits 39 = .ok (.i2l, 1) := by decide +kernel
theorem dX3_lowestBits_40 : decode cX3_lowestBits 40 = .ok (.lreturn, 1) := by decide +kernel
theorem dX3_lowestBits_41 : decode cX3_lowestBits 41 = .ok (.lload_n 1, 1) := by decide +kernel
theorem dX3_lowestBits_42 : decode cX3_lowestBits 42 = .ok (.l2i, 1) := by decide +kernel
theorem dX3_lowestBits_43 : decode cX3_lowestBits 43 = .ok (.i2s, 1) := by decide +kernel
theorem dX3_lowestBits_44 : decode cX3_lowestBits 44 = .ok (.i2l, 1) := by decide +kernel
theorem dX3_lowestBits_45 : decode cX3_lowestBits 45 = .ok (.lreturn, 1) := by decide +kernel
theorem dX3_lowestBits_46 : decode cX3_lowestBits 46 = .ok (.lload_n 1, 1) := by decide +kernel
theorem dX3_lowestBits_47 : decode cX3_lowestBits 47 = .ok (.l2i, 1) := by decide +kernel
theorem dX3_lowestBits_48 : decode cX3_lowestBits 48 = .ok (.i2l, 1) := by decide +kernel
theorem dX3_lowestBits_49 : decode cX3_lowestBits 49 = .ok (.lreturn, 1) := by decide +kernel
theorem dX3_lowestBits_50 : decode cX3_lowestBits 50 = .ok (.lload_n 1, 1) := by decide +kernel
theorem dX3_lowestBits_51 : decode cX3_lowestBits 51 = .ok (.lconst 0, 1) := by decide +kernel
theorem dX3_lowestBits_52 : decode cX3_lowestBits 52 = .ok (.lcmp, 1) := by decide +kernel
theorem dX3_lowestBits_53 : decode cX3_lowestBits 53 = .ok (.ifCond .eq 7, 3) := by decide +kernel
theorem dX3_lowestBits_56 : decode cX3_lowestBits 56 = .ok (.lconst 1, 1) := by decide +kernel
theorem dX3_lowestBits_57 : decode cX3_lowestBits 57 = .ok (.goto 4, 3) := by decide +kernel
theorem dX3_lowestBits_60 : decode cX3_lowestBits 60 = .ok (.lconst 0, 1) := by decide +kernel
theorem dX3_lowestBits_61 : decode cX3_lowestBits 61 = .ok (.lreturn, 1) := by decide +kernel
theorem dX3_lowestBits_62 : decode cX3_lowestBits 62 = .ok (.lload_n 1, 1) := by decide +kernel
theorem dX3_lowestBits_63 : decode cX3_lowestBits 63 = .ok (.lreturn, 1) := by decide +kernel
theorem dX3_copyElements_0 : decode cX3_copyElements 0 = .ok (.aload_n 0, 1) := by decide +kernel
theorem dX3_copyElements_1 : decode cX3_copyElements 1 = .ok (.getfield 20, 3) := by decide +kernel
theorem dX3_copyElements_4 : decode cX3_copyElements 4 = .ok (.iload_n 1, 1) := by decide +kernel
theorem dX3_copyElements_5 : decode cX3_copyElements 5 = .ok (.aaload, 1) := by decide +kernel
theorem dX3_copyElements_6 : decode cX3_copyElements 6 = .ok (.iload_n 3, 1) := by decide +kernel
theorem dX3_copyElements_7 : decode cX3_copyElements 7 = .ok (.aload_n 0, 1) := by decide +kernel
theorem dX3_copyElements_8 : decode cX3_copyElements 8 = .ok (.getfield 20, 3) := by decide +kernel
theorem dX3_copyElements_11 : decode cX3_copyElements 11 = .ok (.iload_n 2, 1) := by decide +kernel
theorem dX3_copyElements_12 : decode cX3_copyElements 12 = .ok (.aaload, 1) := by decide +kernel
theorem dX3_copyElements_13 : decode cX3_copyElements 13 = .ok (.iload 4, 2) := by decide +kernel
theorem dX3_copyElements_15 : decode cX3_copyElements 15 = .ok (.iload 5, 2) := by decide +kernel
theorem dX3_copyElements_17 : decode cX3_copyElements 17 = .ok (.invokestatic 27, 3) := by decide +kernel
theorem dX3_copyElements_20 : decode cX3_copyElements 20 = .ok (.return_, 1) := by decide +kernel
set_option maxRecDepth 20000 in
theorem ggX3_heldBy_X6_isShelf : GoodIn wsX3_heldBy wsX6_isShelf := goodIn_r _ [4, 5, 6, 3, 7] (by decide +kernel) (by decide +kernel)
set_option maxRecDepth 20000 in
theorem gX3_heldBy_X6_isShelf_n33 : GoodIn wsX3_heldBy (wsX6_isShelf) := ggX3_heldBy_X6_isShelf
theorem dX3_heldBy_0 : decode cX3_heldBy 0 = .ok (.iload_n 1, 1) := by decide +kernel
theorem dX3_heldBy_1 : decode cX3_heldBy 1 = .ok (.invokestatic 33, 3) := by decide +kernel
theorem dX3_heldBy_4 : decode cX3_heldBy 4 = .ok (.ifCond .eq 12, 3) := by decide +kernel
theorem dX3_heldBy_7 : decode cX3_heldBy 7 = .ok (.aload_n 0, 1) := by decide +kernel
theorem dX3_heldBy_8 : decode cX3_heldBy 8 = .ok (.getfield 9, 3) := by decide +kernel
theorem dX3_heldBy_11 : decode cX3_heldBy 11 = .ok (.iload_n 1, 1) := by decide +kernel
theorem dX3_heldBy_12 : decode cX3_heldBy 12 = .ok (.iaload, 1) := by decide +kernel
theorem dX3_heldBy_13 : decode cX3_heldBy 13 = .ok (.goto 4, 3) := by decide +kernel
theorem dX3_heldBy_16 : decode cX3_heldBy 16 = .ok (.iconst (-1), 1) := by decide +kernel
theorem dX3_heldBy_17 : decode cX3_heldBy 17 = .ok (.ireturn, 1) := by decide +kernel
set_option maxRecDepth 20000 in
theorem ggX3_sizeOf_X6_isShelf : GoodIn wsX3_sizeOf wsX6_isShelf := goodIn_r _ [4, 5, 6, 3, 7] (by decide +kernel) (by decide +kernel)
set_option maxRecDepth 20000 in
theorem gX3_sizeOf_X6_isShelf_n33 : GoodIn wsX3_sizeOf (wsX6_isShelf) := ggX3_sizeOf_X6_isShelf
theorem dX3_sizeOf_0 : decode cX3_sizeOf 0 = .ok (.iload_n 1, 1) := by decide +kernel
theorem dX3_sizeOf_1 : decode cX3_sizeOf 1 = .ok (.invokestatic 33, 3) := by decide +kernel
theorem dX3_sizeOf_4 : decode cX3_sizeOf 4 = .ok (.ifCond .eq 12, 3) := by decide +kernel
theorem dX3_sizeOf_7 : decode cX3_sizeOf 7 = .ok (.aload_n 0, 1) := by decide +kernel
theorem dX3_sizeOf_8 : decode cX3_sizeOf 8 = .ok (.getfield 15, 3) := by decide +kernel
theorem dX3_sizeOf_11 : decode cX3_sizeOf 11 = .ok (.iload_n 1, 1) := by decide +kernel
theorem dX3_sizeOf_12 : decode cX3_sizeOf 12 = .ok (.iaload, 1) := by decide +kernel
theorem dX3_sizeOf_13 : decode cX3_sizeOf 13 = .ok (.goto 4, 3) := by decide +kernel
theorem dX3_sizeOf_16 : decode cX3_sizeOf 16 = .ok (.iconst 0, 1) := by decide +kernel
theorem dX3_sizeOf_17 : decode cX3_sizeOf 17 = .ok (.ireturn, 1) := by decide +kernel
set_option maxRecDepth 20000 in
theorem ggX3_elementOf_X6_isShelf : GoodIn wsX3_elementOf wsX6_isShelf := goodIn_r _ [5, 6, 7, 4, 8] (by decide +kernel) (by decide +kernel)
set_option maxRecDepth 20000 in
theorem gX3_elementOf_X6_isShelf_n33 : GoodIn wsX3_elementOf (wsX6_isShelf) := ggX3_elementOf_X6_isShelf
theorem dX3_elementOf_0 : decode cX3_elementOf 0 = .ok (.iload_n 1, 1) := by decide +kernel
theorem dX3_elementOf_1 : decode cX3_elementOf 1 = .ok (.invokestatic 33, 3) := by decide +kernel
theorem dX3_elementOf_4 : decode cX3_elementOf 4 = .ok (.ifCond .eq 28, 3) := by decide +kernel
theorem dX3_elementOf_7 : decode cX3_elementOf 7 = .ok (.iload_n 2, 1) := by decide +kernel
theorem dX3_elementOf_8 : decode cX3_elementOf 8 = .ok (.ifCond .lt 24, 3) := by decide +kernel
theorem dX3_elementOf_11 : decode cX3_elementOf 11 = .ok (.iload_n 2, 1) := by decide +kernel
theorem dX3_elementOf_12 : decode cX3_elementOf 12 = .ok (.aload_n 0, 1) := by decide +kernel
theorem dX3_elementOf_13 : decode cX3_elementOf 13 = .ok (.getfield 15, 3) := by decide +kernel
theorem dX3_elementOf_16 : decode cX3_elementOf 16 = .ok (.iload_n 1, 1) := by decide +kernel
theorem dX3_elementOf_17 : decode cX3_elementOf 17 = .ok (.iaload, 1) := by decide +kernel
theorem dX3_elementOf_18 : decode cX3_elementOf 18 = .ok (.if_icmp .ge 14, 3) := by decide +kernel
theorem dX3_elementOf_21 : decode cX3_elementOf 21 = .ok (.aload_n 0, 1) := by decide +kernel
theorem dX3_elementOf_22 : decode cX3_elementOf 22 = .ok (.getfield 20, 3) := by decide +kernel
theorem dX3_elementOf_25 : decode cX3_elementOf 25 = .ok (.iload_n 1, 1) := by decide +kernel
theorem dX3_elementOf_26 : decode cX3_elementOf 26 = .ok (.aaload, 1) := by decide +kernel
theorem dX3_elementOf_27 : decode cX3_elementOf 27 = .ok (.iload_n 2, 1) := by decide +kernel
theorem dX3_elementOf_28 : decode cX3_elementOf 28 = .ok (.laload, 1) := by decide +kernel
theorem dX3_elementOf_29 : decode cX3_elementOf 29 = .ok (.goto 4, 3) := by decide +kernel
theorem dX3_elementOf_32 : decode cX3_elementOf 32 = .ok (.lconst 0, 1) := by decide +kernel
theorem dX3_elementOf_33 : decode cX3_elementOf 33 = .ok (.lreturn, 1) := by decide +kernel
theorem dX3_filled_0 : decode cX3_filled 0 = .ok (.iconst 0, 1) := by decide +kernel
theorem dX3_filled_1 : decode cX3_filled 1 = .ok (.istore_n 1, 1) := by decide +kernel
theorem dX3_filled_2 : decode cX3_filled 2 = .ok (.iconst 0, 1) := by decide +kernel
theorem dX3_filled_3 : decode cX3_filled 3 = .ok (.istore_n 2, 1) := by decide +kernel
theorem dX3_filled_4 : decode cX3_filled 4 = .ok (.iload_n 2, 1) := by decide +kernel
theorem dX3_filled_5 : decode cX3_filled 5 = .ok (.bipush 8, 2) := by decide +kernel
theorem dX3_filled_7 : decode cX3_filled 7 = .ok (.if_icmp .ge 22, 3) := by decide +kernel
theorem dX3_filled_10 : decode cX3_filled 10 = .ok (.aload_n 0, 1) := by decide +kernel
theorem dX3_filled_11 : decode cX3_filled 11 = .ok (.getfield 9, 3) := by decide +kernel
theorem dX3_filled_14 : decode cX3_filled 14 = .ok (.iload_n 2, 1) := by decide +kernel
theorem dX3_filled_15 : decode cX3_filled 15 = .ok (.iaload, 1) := by decide +kernel
theorem dX3_filled_16 : decode cX3_filled 16 = .ok (.iconst (-1), 1) := by decide +kernel
theorem dX3_filled_17 : decode cX3_filled 17 = .ok (.if_icmp .eq 6, 3) := by decide +kernel
theorem dX3_filled_20 : decode cX3_filled 20 = .ok (.iinc 1 1, 3) := by decide +kernel
theorem dX3_filled_23 : decode cX3_filled 23 = .ok (.iinc 2 1, 3) := by decide +kernel
theorem dX3_filled_26 : decode cX3_filled 26 = .ok (.goto (-22), 3) := by decide +kernel
theorem dX3_filled_29 : decode cX3_filled 29 = .ok (.iload_n 1, 1) := by decide +kernel
theorem dX3_filled_30 : decode cX3_filled 30 = .ok (.ireturn, 1) := by decide +kernel
theorem dX3_keepPeopleBelow_0 : decode cX3_keepPeopleBelow 0 = .ok (.iconst 0, 1) := by decide +kernel
theorem dX3_keepPeopleBelow_1 : decode cX3_keepPeopleBelow 1 = .ok (.istore_n 2, 1) := by decide +kernel
theorem dX3_keepPeopleBelow_2 : decode cX3_keepPeopleBelow 2 = .ok (.iload_n 2, 1) := by decide +kernel
theorem dX3_keepPeopleBelow_3 : decode cX3_keepPeopleBelow 3 = .ok (.bipush 8, 2) := by decide +kernel
theorem dX3_keepPeopleBelow_5 : decode cX3_keepPeopleBelow 5 = .ok (.if_icmp .ge 29, 3) := by decide +kernel
theorem dX3_keepPeopleBelow_8 : decode cX3_keepPeopleBelow 8 = .ok (.aload_n 0, 1) := by decide +kernel
theorem dX3_keepPeopleBelow_9 : decode cX3_keepPeopleBelow 9 = .ok (.getfield 9, 3) := by decide +kernel
theorem dX3_keepPeopleBelow_12 : decode cX3_keepPeopleBelow 12 = .ok (.iload_n 2, 1) := by decide +kernel
theorem dX3_keepPeopleBelow_13 : decode cX3_keepPeopleBelow 13 = .ok (.iaload, 1) := by decide +kernel
theorem dX3_keepPeopleBelow_14 : decode cX3_keepPeopleBelow 14 = .ok (.bipush 10, 2) := by decide +kernel
theorem dX3_keepPeopleBelow_16 : decode cX3_keepPeopleBelow 16 = .ok (.iload_n 1, 1) := by decide +kernel
theorem dX3_keepPeopleBelow_17 : decode cX3_keepPeopleBelow 17 = .ok (.iadd, 1) := by decide +kernel
theorem dX3_keepPeopleBelow_18 : decode cX3_keepPeopleBelow 18 = .ok (.if_icmp .lt 10, 3) := by decide +kernel
theorem dX3_keepPeopleBelow_21 : decode cX3_keepPeopleBelow 21 = .ok (.aload_n 0, 1) := by decide +kernel
theorem dX3_keepPeopleBelow_22 : decode cX3_keepPeopleBelow 22 = .ok (.getfield 9, 3) := by decide +kernel
theorem dX3_keepPeopleBelow_25 : decode cX3_keepPeopleBelow 25 = .ok (.iload_n 2, 1) := by decide +kernel
theorem dX3_keepPeopleBelow_26 : decode cX3_keepPeopleBelow 26 = .ok (.iconst (-1), 1) := by decide +kernel
theorem dX3_keepPeopleBelow_27 : decode cX3_keepPeopleBelow 27 = .ok (.iastore, 1) := by decide +kernel
theorem dX3_keepPeopleBelow_28 : decode cX3_keepPeopleBelow 28 = .ok (.iinc 2 1, 3) := by decide +kernel
theorem dX3_keepPeopleBelow_31 : decode cX3_keepPeopleBelow 31 = .ok (.goto (-29), 3) := by decide +kernel
theorem dX3_keepPeopleBelow_34 : decode cX3_keepPeopleBelow 34 = .ok (.return_, 1) := by decide +kernel
set_option maxRecDepth 20000 in
theorem ggX3_troubleWithRow_X6_isShelf : GoodIn wsX3_troubleWithRow wsX6_isShelf := goodIn_r _ [5, 6, 7, 4, 8] (by decide +kernel) (by decide +kernel)
set_option maxRecDepth 20000 in
theorem gX3_troubleWithRow_X6_isShelf_n33 : GoodIn wsX3_troubleWithRow (wsX6_isShelf) := ggX3_troubleWithRow_X6_isShelf
theorem dX3_troubleWithRow_0 : decode cX3_troubleWithRow 0 = .ok (.iload_n 1, 1) := by decide +kernel
theorem dX3_troubleWithRow_1 : decode cX3_troubleWithRow 1 = .ok (.invokestatic 33, 3) := by decide +kernel
theorem dX3_troubleWithRow_4 : decode cX3_troubleWithRow 4 = .ok (.ifCond .ne 6, 3) := by decide +kernel
theorem dX3_troubleWithRow_7 : decode cX3_troubleWithRow 7 = .ok (.bipush (-2), 2) := by decide +kernel
theorem dX3_troubleWithRow_9 : decode cX3_troubleWithRow 9 = .ok (.ireturn, 1) := by decide +kernel
theorem dX3_troubleWithRow_10 : decode cX3_troubleWithRow 10 = .ok (.aload_n 0, 1) := by decide +kernel
theorem dX3_troubleWithRow_11 : decode cX3_troubleWithRow 11 = .ok (.getfield 9, 3) := by decide +kernel
theorem dX3_troubleWithRow_14 : decode cX3_troubleWithRow 14 = .ok (.iload_n 1, 1) := by decide +kernel
theorem dX3_troubleWithRow_15 : decode cX3_troubleWithRow 15 = .ok (.iaload, 1) := by decide +kernel
theorem dX3_troubleWithRow_16 : decode cX3_troubleWithRow 16 = .ok (.bipush 10, 2) := by decide +kernel
theorem dX3_troubleWithRow_18 : decode cX3_troubleWithRow 18 = .ok (.if_icmp .lt 6, 3) := by decide +kernel
theorem dX3_troubleWithRow_21 : decode cX3_troubleWithRow 21 = .ok (.bipush (-3), 2) := by decide +kernel
theorem dX3_troubleWithRow_23 : decode cX3_troubleWithRow 23 = .ok (.ireturn, 1) := by decide +kernel
theorem dX3_troubleWithRow_24 : decode cX3_troubleWithRow 24 = .ok (.aload_n 0, 1) := by decide +kernel
theorem dX3_troubleWithRow_25 : decode cX3_troubleWithRow 25 = .ok (.getfield 9, 3) := by decide +kernel
theorem dX3_troubleWithRow_28 : decode cX3_troubleWithRow 28 = .ok (.iload_n 1, 1) := by decide +kernel
theorem dX3_troubleWithRow_29 : decode cX3_troubleWithRow 29 = .ok (.iaload, 1) := by decide +kernel
theorem dX3_troubleWithRow_30 : decode cX3_troubleWithRow 30 = .ok (.iconst (-1), 1) := by decide +kernel
theorem dX3_troubleWithRow_31 : decode cX3_troubleWithRow 31 = .ok (.if_icmp .ne 6, 3) := by decide +kernel
theorem dX3_troubleWithRow_34 : decode cX3_troubleWithRow 34 = .ok (.bipush (-4), 2) := by decide +kernel
theorem dX3_troubleWithRow_36 : decode cX3_troubleWithRow 36 = .ok (.ireturn, 1) := by decide +kernel
theorem dX3_troubleWithRow_37 : decode cX3_troubleWithRow 37 = .ok (.aload_n 0, 1) := by decide +kernel
theorem dX3_troubleWithRow_38 : decode cX3_troubleWithRow 38 = .ok (.getfield 15, 3) := by decide +kernel
theorem dX3_troubleWithRow_41 : decode cX3_troubleWithRow 41 = .ok (.iload_n 1, 1) := by decide +kernel
theorem dX3_troubleWithRow_42 : decode cX3_troubleWithRow 42 = .ok (.iaload, 1) := by decide +kernel
theorem dX3_troubleWithRow_43 : decode cX3_troubleWithRow 43 = .ok (.iload_n 2, 1) := by decide +kernel
theorem dX3_troubleWithRow_44 : decode cX3_troubleWithRow 44 = .ok (.if_icmp .ge 8, 3) := by decide +kernel
theorem dX3_troubleWithRow_47 : decode cX3_troubleWithRow 47 = .ok (.bipush (-2), 2) := by decide +kernel
theorem dX3_troubleWithRow_49 : decode cX3_troubleWithRow 49 = .ok (.goto 4, 3) := by decide +kernel
theorem dX3_troubleWithRow_52 : decode cX3_troubleWithRow 52 = .ok (.iconst 0, 1) := by decide +kernel
theorem dX3_troubleWithRow_53 : decode cX3_troubleWithRow 53 = .ok (.ireturn, 1) := by decide +kernel
set_option maxRecDepth 20000 in
theorem ggX3_troubleWithRows_X6_isShelf : GoodIn wsX3_troubleWithRows wsX6_isShelf := goodIn_r _ [4, 5, 6, 3, 7] (by decide +kernel) (by decide +kernel)
set_option maxRecDepth 20000 in
theorem gX3_troubleWithRows_X6_isShelf_n33 : GoodIn wsX3_troubleWithRows (wsX6_isShelf) := ggX3_troubleWithRows_X6_isShelf
theorem dX3_troubleWithRows_0 : decode cX3_troubleWithRows 0 = .ok (.iload_n 1, 1) := by decide +kernel
theorem dX3_troubleWithRows_1 : decode cX3_troubleWithRows 1 = .ok (.invokestatic 33, 3) := by decide +kernel
theorem dX3_troubleWithRows_4 : decode cX3_troubleWithRows 4 = .ok (.ifCond .eq 10, 3) := by decide +kernel
theorem dX3_troubleWithRows_7 : decode cX3_troubleWithRows 7 = .ok (.iload_n 2, 1) := by decide +kernel
theorem dX3_troubleWithRows_8 : decode cX3_troubleWithRows 8 = .ok (.invokestatic 33, 3) := by decide +kernel
theorem dX3_troubleWithRows_11 : decode cX3_troubleWithRows 11 = .ok (.ifCond .ne 6, 3) := by decide +kernel
theorem dX3_troubleWithRows_14 : decode cX3_troubleWithRows 14 = .ok (.bipush (-2), 2) := by decide +kernel
theorem dX3_troubleWithRows_16 : decode cX3_troubleWithRows 16 = .ok (.ireturn, 1) := by decide +kernel
theorem dX3_troubleWithRows_17 : decode cX3_troubleWithRows 17 = .ok (.aload_n 0, 1) := by decide +kernel
theorem dX3_troubleWithRows_18 : decode cX3_troubleWithRows 18 = .ok (.getfield 9, 3) := by decide +kernel
theorem dX3_troubleWithRows_21 : decode cX3_troubleWithRows 21 = .ok (.iload_n 1, 1) := by decide +kernel
theorem dX3_troubleWithRows_22 : decode cX3_troubleWithRows 22 = .ok (.iaload, 1) := by decide +kernel
theorem dX3_troubleWithRows_23 : decode cX3_troubleWithRows 23 = .ok (.bipush 10, 2) := by decide +kernel
theorem dX3_troubleWithRows_25 : decode cX3_troubleWithRows 25 = .ok (.if_icmp .ge 14, 3) := by decide +kernel
theorem dX3_troubleWithRows_28 : decode cX3_troubleWithRows 28 = .ok (.aload_n 0, 1) := by decide +kernel
theorem dX3_troubleWithRows_29 : decode cX3_troubleWithRows 29 = .ok (.getfield 9, 3) := by decide +kernel
theorem dX3_troubleWithRows_32 : decode cX3_troubleWithRows 32 = .ok (.iload_n 2, 1) := by decide +kernel
theorem dX3_troubleWithRows_33 : decode cX3_troubleWithRows 33 = .ok (.iaload, 1) := by decide +kernel
theorem dX3_troubleWithRows_34 : decode cX3_troubleWithRows 34 = .ok (.bipush 10, 2) := by decide +kernel
theorem dX3_troubleWithRows_36 : decode cX3_troubleWithRows 36 = .ok (.if_icmp .lt 6, 3) := by decide +kernel
theorem dX3_troubleWithRows_39 : decode cX3_troubleWithRows 39 = .ok (.bipush (-3), 2) := by decide +kernel
theorem dX3_troubleWithRows_41 : decode cX3_troubleWithRows 41 = .ok (.ireturn, 1) := by decide +kernel
theorem dX3_troubleWithRows_42 : decode cX3_troubleWithRows 42 = .ok (.aload_n 0, 1) := by decide +kernel
theorem dX3_troubleWithRows_43 : decode cX3_troubleWithRows 43 = .ok (.getfield 9, 3) := by decide +kernel
theorem dX3_troubleWithRows_46 : decode cX3_troubleWithRows 46 = .ok (.iload_n 1, 1) := by decide +kernel
theorem dX3_troubleWithRows_47 : decode cX3_troubleWithRows 47 = .ok (.iaload, 1) := by decide +kernel
theorem dX3_troubleWithRows_48 : decode cX3_troubleWithRows 48 = .ok (.iconst (-1), 1) := by decide +kernel
theorem dX3_troubleWithRows_49 : decode cX3_troubleWithRows 49 = .ok (.if_icmp .eq 13, 3) := by decide +kernel
theorem dX3_troubleWithRows_52 : decode cX3_troubleWithRows 52 = .ok (.aload_n 0, 1) := by decide +kernel
theorem dX3_troubleWithRows_53 : decode cX3_troubleWithRows 53 = .ok (.getfield 9, 3) := by decide +kernel
theorem dX3_troubleWithRows_56 : decode cX3_troubleWithRows 56 = .ok (.iload_n 2, 1) := by decide +kernel
theorem dX3_troubleWithRows_57 : decode cX3_troubleWithRows 57 = .ok (.iaload, 1) := by decide +kernel
theorem dX3_troubleWithRows_58 : decode cX3_troubleWithRows 58 = .ok (.iconst (-1), 1) := by decide +kernel
theorem dX3_troubleWithRows_59 : decode cX3_troubleWithRows 59 = .ok (.if_icmp .ne 6, 3) := by decide +kernel
theorem dX3_troubleWithRows_62 : decode cX3_troubleWithRows 62 = .ok (.bipush (-4), 2) := by decide +kernel
theorem dX3_troubleWithRows_64 : decode cX3_troubleWithRows 64 = .ok (.ireturn, 1) := by decide +kernel
theorem dX3_troubleWithRows_65 : decode cX3_troubleWithRows 65 = .ok (.aload_n 0, 1) := by decide +kernel
theorem dX3_troubleWithRows_66 : decode cX3_troubleWithRows 66 = .ok (.getfield 9, 3) := by decide +kernel
theorem dX3_troubleWithRows_69 : decode cX3_troubleWithRows 69 = .ok (.iload_n 1, 1) := by decide +kernel
theorem dX3_troubleWithRows_70 : decode cX3_troubleWithRows 70 = .ok (.iaload, 1) := by decide +kernel
theorem dX3_troubleWithRows_71 : decode cX3_troubleWithRows 71 = .ok (.aload_n 0, 1) := by decide +kernel
theorem dX3_troubleWithRows_72 : decode cX3_troubleWithRows 72 = .ok (.getfield 9, 3) := by decide +kernel
theorem dX3_troubleWithRows_75 : decode cX3_troubleWithRows 75 = .ok (.iload_n 2, 1) := by decide +kernel
theorem dX3_troubleWithRows_76 : decode cX3_troubleWithRows 76 = .ok (.iaload, 1) := by decide +kernel
theorem dX3_troubleWithRows_77 : decode cX3_troubleWithRows 77 = .ok (.if_icmp .eq 8, 3) := by decide +kernel
theorem dX3_troubleWithRows_80 : decode cX3_troubleWithRows 80 = .ok (.bipush (-3), 2) := by decide +kernel
theorem dX3_troubleWithRows_82 : decode cX3_troubleWithRows 82 = .ok (.goto 4, 3) := by decide +kernel
theorem dX3_troubleWithRows_85 : decode cX3_troubleWithRows 85 = .ok (.iconst 0, 1) := by decide +kernel
theorem dX3_troubleWithRows_86 : decode cX3_troubleWithRows 86 = .ok (.ireturn, 1) := by decide +kernel
set_option maxRecDepth 20000 in
theorem ggX3_isApart_X3_elementOf : GoodIn wsX3_isApart wsX3_elementOf := goodIn_r _ [5, 6, 7, 8, 9, 10, 11, 12, 13, 14, 15, 16] (by decide +kernel) (by decide +kernel)
set_option maxRecDepth 20000 in
theorem gX3_isApart_X3_elementOf : GoodIn wsX3_isApart (wsV RX3 37 RX3 yX3_elementOf wsX3_elementOf) := goodIn_app (goodIn_of _ (by decide +kernel)) ggX3_isApart_X3_elementOf
theorem dX3_isApart_0 : decode cX3_isApart 0 = .ok (.iconst 0, 1) := by decide +kernel
theorem dX3_isApart_1 : decode cX3_isApart 1 = .ok (.istore 5, 2) := by decide +kernel
theorem dX3_isApart_3 : decode cX3_isApart 3 = .ok (.iload 5, 2) := by decide +kernel
theorem dX3_isApart_5 : decode cX3_isApart 5 = .ok (.iload_n 2, 1) := by decide +kernel
theorem dX3_isApart_6 : decode cX3_isApart 6 = .ok (.if_icmp .ge 65, 3) := by decide +kernel
theorem dX3_isApart_9 : decode cX3_isApart 9 = .ok (.iconst 0, 1) := by decide +kernel
theorem dX3_isApart_10 : decode cX3_isApart 10 = .ok (.istore 6, 2) := by decide +kernel
theorem dX3_isApart_12 : decode cX3_isApart 12 = .ok (.iload 6, 2) := by decide +kernel
theorem dX3_isApart_14 : decode cX3_isApart 14 = .ok (.iload 5, 2) := by decide +kernel
theorem dX3_isApart_16 : decode cX3_isApart 16 = .ok (.if_icmp .ge 49, 3) := by decide +kernel
theorem dX3_isApart_19 : decode cX3_isApart 19 = .ok (.aload_n 0, 1) := by decide +kernel
theorem dX3_isApart_20 : decode cX3_isApart 20 = .ok (.iload_n 1, 1) := by decide +kernel
theorem dX3_isApart_21 : decode cX3_isApart 21 = .ok (.iload 5, 2) := by decide +kernel
theorem dX3_isApart_23 : decode cX3_isApart 23 = .ok (.invokevirtual 37, 3) := by decide +kernel
theorem dX3_isApart_26 : decode cX3_isApart 26 = .ok (.aload_n 0, 1) := by decide +kernel
theorem dX3_isApart_27 : decode cX3_isApart 27 = .ok (.iload_n 1, 1) := by decide +kernel
theorem dX3_isApart_28 : decode cX3_isApart 28 = .ok (.iload 6, 2) := by decide +kernel
theorem dX3_isApart_30 : decode cX3_isApart 30 = .ok (.invokevirtual 37, 3) := by decide +kernel
theorem dX3_isApart_33 : decode cX3_isApart 33 = .ok (.lxor, 1) := by decide +kernel
theorem dX3_isApart_34 : decode cX3_isApart 34 = .ok (.lstore 7, 2) := by decide +kernel
theorem dX3_isApart_36 : decode cX3_isApart 36 = .ok (.lload 7, 2) := by decide +kernel
theorem dX3_isApart_38 : decode cX3_isApart 38 = .ok (.iload 4, 2) := by decide +kernel
theorem dX3_isApart_40 : decode cX3_isApart 40 = .ok (.i2l, 1) := by decide +kernel
theorem dX3_isApart_41 : decode cX3_isApart 41 = .ok (.land, 1) := by decide +kernel
theorem dX3_isApart_42 : decode cX3_isApart 42 = .ok (.lconst 0, 1) := by decide +kernel
theorem dX3_isApart_43 : decode cX3_isApart 43 = .ok (.lcmp, 1) := by decide +kernel
theorem dX3_isApart_44 : decode cX3_isApart 44 = .ok (.ifCond .eq 15, 3) := by decide +kernel
theorem dX3_isApart_47 : decode cX3_isApart 47 = .ok (.lload 7, 2) := by decide +kernel
theorem dX3_isApart_49 : decode cX3_isApart 49 = .ok (.iload_n 3, 1) := by decide +kernel
theorem dX3_isApart_50 : decode cX3_isApart 50 = .ok (.i2l, 1) := by decide +kernel
theorem dX3_isApart_51 : decode cX3_isApart 51 = .ok (.land, 1) := by decide +kernel
theorem dX3_isApart_52 : decode cX3_isApart 52 = .ok (.lconst 0, 1) := by decide +kernel
theorem dX3_isApart_53 : decode cX3_isApart 53 = .ok (.lcmp, 1) := by decide +kernel
theorem dX3_isApart_54 : decode cX3_isApart 54 = .ok (.ifCond .ne 5, 3) := by decide +kernel
theorem dX3_isApart_57 : decode cX3_isApart 57 = .ok (.iconst 0, 1) := by decide +kernel
theorem dX3_isApart_58 : decode cX3_isApart 58 = .ok (.ireturn, 1) := by decide +kernel
theorem dX3_isApart_59 : decode cX3_isApart 59 = .ok (.iinc 6 1, 3) := by decide +kernel
theorem dX3_isApart_62 : decode cX3_isApart 62 = .ok (.goto (-50), 3) := by decide +kernel
theorem dX3_isApart_65 : decode cX3_isApart 65 = .ok (.iinc 5 1, 3) := by decide +kernel
theorem dX3_isApart_68 : decode cX3_isApart 68 = .ok (.goto (-65), 3) := by decide +kernel
theorem dX3_isApart_71 : decode cX3_isApart 71 = .ok (.iconst 1, 1) := by decide +kernel
theorem dX3_isApart_72 : decode cX3_isApart 72 = .ok (.ireturn, 1) := by decide +kernel
set_option maxRecDepth 20000 in
theorem ggX3_fewestApart_J6_bitCount_0f7a4 : GoodIn wsX3_fewestApart wsJ6_bitCount_0f7a4 := goodIn_r _ [4, 5, 6, 7] (by decide +kernel) (by decide +kernel)
set_option maxRecDepth 20000 in
theorem gX3_fewestApart_J6_bitCount_0f7a4 : GoodIn wsX3_fewestApart (va_wsS RX3 41 yJ6_bitCount_0f7a4 wsJ6_bitCount_0f7a4) := goodIn_app (goodIn_of _ (by decide +kernel)) ggX3_fewestApart_J6_bitCount_0f7a4
set_option maxRecDepth 20000 in
theorem ggX3_fewestApart_X3_isApart : GoodIn wsX3_fewestApart wsX3_isApart := goodIn_r _ [12, 13, 14, 15, 11, 16, 17, 18, 19, 20, 21, 22, 23, 24, 25, 26, 27] (by decide +kernel) (by decide +kernel)
set_option maxRecDepth 20000 in
theorem gX3_fewestApart_X3_isApart : GoodIn wsX3_fewestApart (wsV RX3 47 RX3 yX3_isApart wsX3_isApart) := goodIn_app (goodIn_of _ (by decide +kernel)) ggX3_fewestApart_X3_isApart
theorem dX3_fewestApart_0 : decode cX3_fewestApart 0 = .ok (.iconst 0, 1) := by decide +kernel
theorem dX3_fewestApart_1 : decode cX3_fewestApart 1 = .ok (.istore 4, 2) := by decide +kernel
theorem dX3_fewestApart_3 : decode cX3_fewestApart 3 = .ok (.iload 4, 2) := by decide +kernel
theorem dX3_fewestApart_5 : decode cX3_fewestApart 5 = .ok (.bipush 7, 2) := by decide +kernel
theorem dX3_fewestApart_7 : decode cX3_fewestApart 7 = .ok (.if_icmp .ge 49, 3) := by decide +kernel
theorem dX3_fewestApart_10 : decode cX3_fewestApart 10 = .ok (.iconst 0, 1) := by decide +kernel
theorem dX3_fewestApart_11 : decode cX3_fewestApart 11 = .ok (.istore 5, 2) := by decide +kernel
theorem dX3_fewestApart_13 : decode cX3_fewestApart 13 = .ok (.iload 5, 2) := by decide +kernel
theorem dX3_fewestApart_15 : decode cX3_fewestApart 15 = .ok (.iload_n 3, 1) := by decide +kernel
theorem dX3_fewestApart_16 : decode cX3_fewestApart 16 = .ok (.if_icmp .gt 34, 3) := by decide +kernel
theorem dX3_fewestApart_19 : decode cX3_fewestApart 19 = .ok (.iload 5, 2) := by decide +kernel
theorem dX3_fewestApart_21 : decode cX3_fewestApart 21 = .ok (.invokestatic 41, 3) := by decide +kernel
theorem dX3_fewestApart_24 : decode cX3_fewestApart 24 = .ok (.iload 4, 2) := by decide +kernel
theorem dX3_fewestApart_26 : decode cX3_fewestApart 26 = .ok (.if_icmp .ne 18, 3) := by decide +kernel
theorem dX3_fewestApart_29 : decode cX3_fewestApart 29 = .ok (.aload_n 0, 1) := by decide +kernel
theorem dX3_fewestApart_30 : decode cX3_fewestApart 30 = .ok (.iload_n 1, 1) := by decide +kernel
theorem dX3_fewestApart_31 : decode cX3_fewestApart 31 = .ok (.iload_n 2, 1) := by decide +kernel
theorem dX3_fewestApart_32 : decode cX3_fewestApart 32 = .ok (.iload 5, 2) := by decide +kernel
theorem dX3_fewestApart_34 : decode cX3_fewestApart 34 = .ok (.iload_n 3, 1) := by decide +kernel
theorem dX3_fewestApart_35 : decode cX3_fewestApart 35 = .ok (.invokevirtual 47, 3) := by decide +kernel
theorem dX3_fewestApart_38 : decode cX3_fewestApart 38 = .ok (.ifCond .eq 6, 3) := by decide +kernel
theorem dX3_fewestApart_41 : decode cX3_fewestApart 41 = .ok (.iload 5, 2) := by decide +kernel
theorem dX3_fewestApart_43 : decode cX3_fewestApart 43 = .ok (.ireturn, 1) := by decide +kernel
theorem dX3_fewestApart_44 : decode cX3_fewestApart 44 = .ok (.iinc 5 1, 3) := by decide +kernel
theorem dX3_fewestApart_47 : decode cX3_fewestApart 47 = .ok (.goto (-34), 3) := by decide +kernel
theorem dX3_fewestApart_50 : decode cX3_fewestApart 50 = .ok (.iinc 4 1, 3) := by decide +kernel
theorem dX3_fewestApart_53 : decode cX3_fewestApart 53 = .ok (.goto (-50), 3) := by decide +kernel
theorem dX3_fewestApart_56 : decode cX3_fewestApart 56 = .ok (.iload_n 3, 1) := by decide +kernel
theorem dX3_fewestApart_57 : decode cX3_fewestApart 57 = .ok (.ireturn, 1) := by decide +kernel
theorem dX4_init_0 : decode cX4_init 0 = .ok (.aload_n 0, 1) := by decide +kernel
theorem dX4_init_1 : decode cX4_init 1 = .ok (.invokespecial 3, 3) := by decide +kernel
theorem dX4_init_4 : decode cX4_init 4 = .ok (.aload_n 0, 1) := by decide +kernel
theorem dX4_init_5 : decode cX4_init 5 = .ok (.iconst 0, 1) := by decide +kernel
theorem dX4_init_6 : decode cX4_init 6 = .ok (.putfield 9, 3) := by decide +kernel
theorem dX4_init_9 : decode cX4_init 9 = .ok (.aload_n 0, 1) := by decide +kernel
theorem dX4_init_10 : decode cX4_init 10 = .ok (.iconst 0, 1) := by decide +kernel
theorem dX4_init_11 : decode cX4_init 11 = .ok (.putfield 15, 3) := by decide +kernel
theorem dX4_init_14 : decode cX4_init 14 = .ok (.aload_n 0, 1) := by decide +kernel
theorem dX4_init_15 : decode cX4_init 15 = .ok (.sipush 250, 3) := by decide +kernel
theorem dX4_init_18 : decode cX4_init 18 = .ok (.newarray .int, 2) := by decide +kernel
theorem dX4_init_20 : decode cX4_init 20 = .ok (.putfield 18, 3) := by decide +kernel
theorem dX4_init_23 : decode cX4_init 23 = .ok (.aload_n 0, 1) := by decide +kernel
theorem dX4_init_24 : decode cX4_init 24 = .ok (.iconst 0, 1) := by decide +kernel
theorem dX4_init_25 : decode cX4_init 25 = .ok (.putfield 22, 3) := by decide +kernel
theorem dX4_init_28 : decode cX4_init 28 = .ok (.aload_n 0, 1) := by decide +kernel
theorem dX4_init_29 : decode cX4_init 29 = .ok (.iconst 0, 1) := by decide +kernel
theorem dX4_init_30 : decode cX4_init 30 = .ok (.putfield 25, 3) := by decide +kernel
theorem dX4_init_33 : decode cX4_init 33 = .ok (.aload_n 0, 1) := by decide +kernel
theorem dX4_init_34 : decode cX4_init 34 = .ok (.iconst 0, 1) := by decide +kernel
theorem dX4_init_35 : decode cX4_init 35 = .ok (.putfield 28, 3) := by decide +kernel
theorem dX4_init_38 : decode cX4_init 38 = .ok (.return_, 1) := by decide +kernel
theorem dX4_put_0 : decode cX4_put 0 = .ok (.aload_n 0, 1) := by decide +kernel
theorem dX4_put_1 : decode cX4_put 1 = .ok (.getfield 9, 3) := by decide +kernel
theorem dX4_put_4 : decode cX4_put 4 = .ok (.sipush 250, 3) := by decide +kernel
theorem dX4_put_7 : decode cX4_put 7 = .ok (.if_icmp .ge 23, 3) := by decide +kernel
theorem dX4_put_10 : decode cX4_put 10 = .ok (.aload_n 0, 1) := by decide +kernel
theorem dX4_put_11 : decode cX4_put 11 = .ok (.getfield 18, 3) := by decide +kernel
theorem dX4_put_14 : decode cX4_put 14 = .ok (.aload_n 0, 1) := by decide +kernel
theorem dX4_put_15 : decode cX4_put 15 = .ok (.getfield 9, 3) := by decide +kernel
theorem dX4_put_18 : decode cX4_put 18 = .ok (.iload_n 1, 1) := by decide +kernel
theorem dX4_put_19 : decode cX4_put 19 = .ok (.iastore, 1) := by decide +kernel
theorem dX4_put_20 : decode cX4_put 20 = .ok (.aload_n 0, 1) := by decide +kernel
theorem dX4_put_21 : decode cX4_put 21 = .ok (.dup, 1) := by decide +kernel
theorem dX4_put_22 : decode cX4_put 22 = .ok (.getfield 9, 3) := by decide +kernel
theorem dX4_put_25 : decode cX4_put 25 = .ok (.iconst 1, 1) := by decide +kernel
theorem dX4_put_26 : decode cX4_put 26 = .ok (.iadd, 1) := by decide +kernel
theorem dX4_put_27 : decode cX4_put 27 = .ok (.putfield 9, 3) := by decide +kernel
theorem dX4_put_30 : decode cX4_put 30 = .ok (.return_, 1) := by decide +kernel
set_option maxRecDepth 20000 in
theorem ggX4_readInto_X4_advance : GoodIn wsX4_readInto wsX4_advance := goodIn_r _ [9, 1, 3, 10, 2, 11, 12, 13, 8, 14, 15, 16, 17, 18, 167, 168, 169, 170, 171, 172] (by decide +kernel) (by decide +kernel)
set_option maxRecDepth 20000 in
theorem gX4_readInto_X4_advance : GoodIn wsX4_readInto (wsV RX4 31 RX4 yX4_advance wsX4_advance) := goodIn_app (goodIn_of _ (by decide +kernel)) ggX4_readInto_X4_advance
set_option maxRecDepth 20000 in
theorem ggX4_readInto_X4_readStatement : GoodIn wsX4_readInto wsX4_readStatement := goodIn_r _ [22, 23, 24, 25, 8, 26, 2, 1, 3, 27, 28, 29, 30, 31, 32, 33, 34, 35, 36, 37, 38, 11, 12, 13, 14, 10, 15, 39, 40, 41, 42, 43, 44, 45, 46, 47, 48, 49, 50, 51, 52, 53, 54, 55, 56, 57, 58, 59, 60, 61, 62, 63, 64, 65, 66, 67, 68, 69, 70, 71, 72, 73, 74, 75, 76, 77, 78, 79, 80, 5, 6, 7, 9, 16, 17, 18, 81, 82, 83, 84, 4, 85, 86, 87, 88, 89, 90, 91, 92, 93, 94, 95, 96, 97, 98, 99, 100, 101, 102, 103, 104, 105, 106, 107, 108, 109, 110, 111, 112, 113, 114, 115, 116, 117, 118, 119, 120, 121, 122, 123, 124, 125, 126, 127, 128, 129, 130, 131, 132, 133, 134, 135, 136, 137, 138, 139, 140, 141, 142, 143, 144, 145, 146, 147, 148, 149, 150, 151, 152, 153, 154, 155, 156, 157, 158, 159, 160, 161, 162, 163, 164, 165, 166, 167, 168, 169, 170, 171, 172, 173, 174, 175, 176, 177, 178, 179, 180, 181, 182, 183, 184, 185, 186] (by decide +kernel) (by decide +kernel)
set_option maxRecDepth 20000 in
theorem gX4_readInto_X4_readStatement : GoodIn wsX4_readInto (wsV RX4 34 RX4 yX4_readStatement wsX4_readStatement) := goodIn_app (goodIn_of _ (by decide +kernel)) ggX4_readInto_X4_readStatement
theorem dX4_readInto_0 : decode cX4_readInto 0 = .ok (.aload_n 0, 1) := by decide +kernel
theorem dX4_readInto_1 : decode cX4_readInto 1 = .ok (.iconst 0, 1) := by decide +kernel
theorem dX4_readInto_2 : decode cX4_readInto 2 = .ok (.putfield 28, 3) := by decide +kernel
theorem dX4_readInto_5 : decode cX4_readInto 5 = .ok (.aload_n 0, 1) := by decide +kernel
theorem dX4_readInto_6 : decode cX4_readInto 6 = .ok (.invokevirtual 31, 3) := by decide +kernel
theorem dX4_readInto_9 : decode cX4_readInto 9 = .ok (.iconst 1, 1) := by decide +kernel
theorem dX4_readInto_10 : decode cX4_readInto 10 = .ok (.istore_n 2, 1) := by decide +kernel
theorem dX4_readInto_11 : decode cX4_readInto 11 = .ok (.iload_n 2, 1) := by decide +kernel
theorem dX4_readInto_12 : decode cX4_readInto 12 = .ok (.sipush 250, 3) := by decide +kernel
theorem dX4_readInto_15 : decode cX4_readInto 15 = .ok (.if_icmp .gt 50, 3) := by decide +kernel
theorem dX4_readInto_18 : decode cX4_readInto 18 = .ok (.aload_n 0, 1) := by decide +kernel
theorem dX4_readInto_19 : decode cX4_readInto 19 = .ok (.aload_n 1, 1) := by decide +kernel
theorem dX4_readInto_20 : decode cX4_readInto 20 = .ok (.invokevirtual 34, 3) := by decide +kernel
theorem dX4_readInto_23 : decode cX4_readInto 23 = .ok (.ifCond .ne 5, 3) := by decide +kernel
theorem dX4_readInto_26 : decode cX4_readInto 26 = .ok (.iconst (-1), 1) := by decide +kernel
theorem dX4_readInto_27 : decode cX4_readInto 27 = .ok (.ireturn, 1) := by decide +kernel
theorem dX4_readInto_28 : decode cX4_readInto 28 = .ok (.aload_n 0, 1) := by decide +kernel
theorem dX4_readInto_29 : decode cX4_readInto 29 = .ok (.getfield 22, 3) := by decide +kernel
theorem dX4_readInto_32 : decode cX4_readInto 32 = .ok (.ifCond .ne 5, 3) := by decide +kernel
theorem dX4_readInto_35 : decode cX4_readInto 35 = .ok (.iload_n 2, 1) := by decide +kernel
theorem dX4_readInto_36 : decode cX4_readInto 36 = .ok (.ireturn, 1) := by decide +kernel
theorem dX4_readInto_37 : decode cX4_readInto 37 = .ok (.aload_n 0, 1) := by decide +kernel
theorem dX4_readInto_38 : decode cX4_readInto 38 = .ok (.getfield 22, 3) := by decide +kernel
theorem dX4_readInto_41 : decode cX4_readInto 41 = .ok (.iconst 3, 1) := by decide +kernel
theorem dX4_readInto_42 : decode cX4_readInto 42 = .ok (.if_icmp .eq 13, 3) := by decide +kernel
theorem dX4_readInto_45 : decode cX4_readInto 45 = .ok (.aload_n 0, 1) := by decide +kernel
theorem dX4_readInto_46 : decode cX4_readInto 46 = .ok (.aload_n 0, 1) := by decide +kernel
theorem dX4_readInto_47 : decode cX4_readInto 47 = .ok (.getfield 25, 3) := by decide +kernel
theorem dX4_readInto_50 : decode cX4_readInto 50 = .ok (.putfield 15, 3) := by decide +kernel
theorem dX4_readInto_53 : decode cX4_readInto 53 = .ok (.iconst (-1), 1) := by decide +kernel
theorem dX4_readInto_54 : decode cX4_readInto 54 = .ok (.ireturn, 1) := by decide +kernel
theorem dX4_readInto_55 : decode cX4_readInto 55 = .ok (.aload_n 0, 1) := by decide +kernel
theorem dX4_readInto_56 : decode cX4_readInto 56 = .ok (.invokevirtual 31, 3) := by decide +kernel
theorem dX4_readInto_59 : decode cX4_readInto 59 = .ok (.iinc 2 1, 3) := by decide +kernel
theorem dX4_readInto_62 : decode cX4_readInto 62 = .ok (.goto (-51), 3) := by decide +kernel
theorem dX4_readInto_65 : decode cX4_readInto 65 = .ok (.aload_n 0, 1) := by decide +kernel
theorem dX4_readInto_66 : decode cX4_readInto 66 = .ok (.aload_n 0, 1) := by decide +kernel
theorem dX4_readInto_67 : decode cX4_readInto 67 = .ok (.getfield 25, 3) := by decide +kernel
theorem dX4_readInto_70 : decode cX4_readInto 70 = .ok (.putfield 15, 3) := by decide +kernel
theorem dX4_readInto_73 : decode cX4_readInto 73 = .ok (.iconst (-1), 1) := by decide +kernel
theorem dX4_readInto_74 : decode cX4_readInto 74 = .ok (.ireturn, 1) := by decide +kernel
theorem dX4_letterAt_0 : decode cX4_letterAt 0 = .ok (.iload_n 1, 1) := by decide +kernel
theorem dX4_letterAt_1 : decode cX4_letterAt 1 = .ok (.ifCond .lt 27, 3) := by decide +kernel
theorem dX4_letterAt_4 : decode cX4_letterAt 4 = .ok (.iload_n 1, 1) := by decide +kernel
theorem dX4_letterAt_5 : decode cX4_letterAt 5 = .ok (.aload_n 0, 1) := by decide +kernel
theorem dX4_letterAt_6 : decode cX4_letterAt 6 = .ok (.getfield 9, 3) := by decide +kernel
theorem dX4_letterAt_9 : decode cX4_letterAt 9 = .ok (.if_icmp .ge 19, 3) := by decide +kernel
theorem dX4_letterAt_12 : decode cX4_letterAt 12 = .ok (.iload_n 1, 1) := by decide +kernel
theorem dX4_letterAt_13 : decode cX4_letterAt 13 = .ok (.sipush 250, 3) := by decide +kernel
theorem dX4_letterAt_16 : decode cX4_letterAt 16 = .ok (.if_icmp .ge 12, 3) := by decide +kernel
theorem dX4_letterAt_19 : decode cX4_letterAt 19 = .ok (.aload_n 0, 1) := by decide +kernel
theorem dX4_letterAt_20 : decode cX4_letterAt 20 = .ok (.getfield 18, 3) := by decide +kernel
theorem dX4_letterAt_23 : decode cX4_letterAt 23 = .ok (.iload_n 1, 1) := by decide +kernel
theorem dX4_letterAt_24 : decode cX4_letterAt 24 = .ok (.iaload, 1) := by decide +kernel
theorem dX4_letterAt_25 : decode cX4_letterAt 25 = .ok (.goto 4, 3) := by decide +kernel
theorem dX4_letterAt_28 : decode cX4_letterAt 28 = .ok (.iconst (-1), 1) := by decide +kernel
theorem dX4_letterAt_29 : decode cX4_letterAt 29 = .ok (.ireturn, 1) := by decide +kernel
theorem dX4_sortOf_0 : decode cX4_sortOf 0 = .ok (.iload_n 0, 1) := by decide +kernel
theorem dX4_sortOf_1 : decode cX4_sortOf 1 = .ok (.bipush 97, 2) := by decide +kernel
theorem dX4_sortOf_3 : decode cX4_sortOf 3 = .ok (.if_icmp .lt 11, 3) := by decide +kernel
theorem dX4_sortOf_6 : decode cX4_sortOf 6 = .ok (.iload_n 0, 1) := by decide +kernel
theorem dX4_sortOf_7 : decode cX4_sortOf 7 = .ok (.bipush 122, 2) := by decide +kernel
theorem dX4_sortOf_9 : decode cX4_sortOf 9 = .ok (.if_icmp .gt 5, 3) := by decide +kernel
theorem dX4_sortOf_12 : decode cX4_sortOf 12 = .ok (.iconst 1, 1) := by decide +kernel
theorem dX4_sortOf_13 : decode cX4_sortOf 13 = .ok (.ireturn, 1) := by decide +kernel
theorem dX4_sortOf_14 : decode cX4_sortOf 14 = .ok (.iload_n 0, 1) := by decide +kernel
theorem dX4_sortOf_15 : decode cX4_sortOf 15 = .ok (.bipush 48, 2) := by decide +kernel
theorem dX4_sortOf_17 : decode cX4_sortOf 17 = .ok (.if_icmp .lt 11, 3) := by decide +kernel
theorem dX4_sortOf_20 : decode cX4_sortOf 20 = .ok (.iload_n 0, 1) := by decide +kernel
theorem dX4_sortOf_21 : decode cX4_sortOf 21 = .ok (.bipush 57, 2) := by decide +kernel
theorem dX4_sortOf_23 : decode cX4_sortOf 23 = .ok (.if_icmp .gt 5, 3) := by decide +kernel
theorem dX4_sortOf_26 : decode cX4_sortOf 26 = .ok (.iconst 2, 1) := by decide +kernel
theorem dX4_sortOf_27 : decode cX4_sortOf 27 = .ok (.ireturn, 1) := by decide +kernel
theorem dX4_sortOf_28 : decode cX4_sortOf 28 = .ok (.iload_n 0, 1) := by decide +kernel
theorem dX4_sortOf_29 : decode cX4_sortOf 29 = .ok (.bipush 59, 2) := by decide +kernel
theorem dX4_sortOf_31 : decode cX4_sortOf 31 = .ok (.if_icmp .ne 7, 3) := by decide +kernel
theorem dX4_sortOf_34 : decode cX4_sortOf 34 = .ok (.iconst 3, 1) := by decide +kernel
theorem dX4_sortOf_35 : decode cX4_sortOf 35 = .ok (.goto 4, 3) := by decide +kernel
theorem dX4_sortOf_38 : decode cX4_sortOf 38 = .ok (.iconst 4, 1) := by decide +kernel
theorem dX4_sortOf_39 : decode cX4_sortOf 39 = .ok (.ireturn, 1) := by decide +kernel
set_option maxRecDepth 20000 in
theorem ggX4_advance_X4_letterAt : GoodIn wsX4_advance wsX4_letterAt := goodIn_r _ [9, 3, 10, 14, 15, 16, 17, 18, 19] (by decide +kernel) (by decide +kernel)
set_option maxRecDepth 20000 in
theorem gX4_advance_X4_letterAt : GoodIn wsX4_advance (wsV RX4 38 RX4 yX4_letterAt wsX4_letterAt) := goodIn_app (goodIn_of _ (by decide +kernel)) ggX4_advance_X4_letterAt
set_option maxRecDepth 20000 in
theorem ggX4_advance_X4_sortOf : GoodIn wsX4_advance wsX4_sortOf := goodIn_r _ [13] (by decide +kernel) (by decide +kernel)
set_option maxRecDepth 20000 in
theorem gX4_advance_X4_sortOf : GoodIn wsX4_advance (va_wsS RX4 42 yX4_sortOf wsX4_sortOf) := goodIn_app (goodIn_of _ (by decide +kernel)) ggX4_advance_X4_sortOf
theorem dX4_advance_0 : decode cX4_advance 0 = .ok (.aload_n 0, 1) := by decide +kernel
theorem dX4_advance_1 : decode cX4_advance 1 = .ok (.aload_n 0, 1) := by decide +kernel
theorem dX4_advance_2 : decode cX4_advance 2 = .ok (.getfield 28, 3) := by decide +kernel
theorem dX4_advance_5 : decode cX4_advance 5 = .ok (.putfield 25, 3) := by decide +kernel
theorem dX4_advance_8 : decode cX4_advance 8 = .ok (.aload_n 0, 1) := by decide +kernel
theorem dX4_advance_9 : decode cX4_advance 9 = .ok (.getfield 25, 3) := by decide +kernel
theorem dX4_advance_12 : decode cX4_advance 12 = .ok (.aload_n 0, 1) := by decide +kernel
theorem dX4_advance_13 : decode cX4_advance 13 = .ok (.getfield 9, 3) := by decide +kernel
theorem dX4_advance_16 : decode cX4_advance 16 = .ok (.if_icmp .ge 29, 3) := by decide +kernel
theorem dX4_advance_19 : decode cX4_advance 19 = .ok (.aload_n 0, 1) := by decide +kernel
theorem dX4_advance_20 : decode cX4_advance 20 = .ok (.aload_n 0, 1) := by decide +kernel
theorem dX4_advance_21 : decode cX4_advance 21 = .ok (.getfield 25, 3) := by decide +kernel
theorem dX4_advance_24 : decode cX4_advance 24 = .ok (.invokevirtual 38, 3) := by decide +kernel
theorem dX4_advance_27 : decode cX4_advance 27 = .ok (.bipush 32, 2) := by decide +kernel
theorem dX4_advance_29 : decode cX4_advance 29 = .ok (.if_icmp .ne 16, 3) := by decide +kernel
theorem dX4_advance_32 : decode cX4_advance 32 = .ok (.aload_n 0, 1) := by decide +kernel
theorem dX4_advance_33 : decode cX4_advance 33 = .ok (.dup, 1) := by decide +kernel
theorem dX4_advance_34 : decode cX4_advance 34 = .ok (.getfield 25, 3) := by decide +kernel
theorem dX4_advance_37 : decode cX4_advance 37 = .ok (.iconst 1, 1) := by decide +kernel
theorem dX4_advance_38 : decode cX4_advance 38 = .ok (.iadd, 1) := by decide +kernel
theorem dX4_advance_39 : decode cX4_advance 39 = .ok (.putfield 25, 3) := by decide +kernel
theorem dX4_advance_42 : decode cX4_advance 42 = .ok (.goto (-34), 3) := by decide +kernel
theorem dX4_advance_45 : decode cX4_advance 45 = .ok (.aload_n 0, 1) := by decide +kernel
theorem dX4_advance_46 : decode cX4_advance 46 = .ok (.aload_n 0, 1) := by decide +kernel
theorem dX4_advance_47 : decode cX4_advance 47 = .ok (.getfield 25, 3) := by decide +kernel
theorem dX4_advance_50 : decode cX4_advance 50 = .ok (.putfield 28, 3) := by decide +kernel
theorem dX4_advance_53 : decode cX4_advance 53 = .ok (.aload_n 0, 1) := by decide +kernel
theorem dX4_advance_54 : decode cX4_advance 54 = .ok (.getfield 25, 3) := by decide +kernel
theorem dX4_advance_57 : decode cX4_advance 57 = .ok (.aload_n 0, 1) := by decide +kernel
theorem dX4_advance_58 : decode cX4_advance 58 = .ok (.getfield 9, 3) := by decide +kernel
theorem dX4_advance_61 : decode cX4_advance 61 = .ok (.if_icmp .lt 9, 3) := by decide +kernel
theorem dX4_advance_64 : decode cX4_advance 64 = .ok (.aload_n 0, 1) := by decide +kernel
theorem dX4_advance_65 : decode cX4_advance 65 = .ok (.iconst 0, 1) := by decide +kernel
theorem dX4_advance_66 : decode cX4_advance 66 = .ok (.putfield 22, 3) := by decide +kernel
theorem dX4_advance_69 : decode cX4_advance 69 = .ok (.return_, 1) := by decide +kernel
theorem dX4_advance_70 : decode cX4_advance 70 = .ok (.aload_n 0, 1) := by decide +kernel
theorem dX4_advance_71 : decode cX4_advance 71 = .ok (.aload_n 0, 1) := by decide +kernel
theorem dX4_advance_72 : decode cX4_advance 72 = .ok (.aload_n 0, 1) := by decide +kernel
theorem dX4_advance_73 : decode cX4_advance 73 = .ok (.getfield 25, 3) := by decide +kernel
theorem dX4_advance_76 : decode cX4_advance 76 = .ok (.invokevirtual 38, 3) := by decide +kernel
theorem dX4_advance_79 : decode cX4_advance 79 = .ok (.invokestatic 42, 3) := by decide +kernel
theorem dX4_advance_82 : decode cX4_advance 82 = .ok (.putfield 22, 3) := by decide +kernel
theorem dX4_advance_85 : decode cX4_advance 85 = .ok (.aload_n 0, 1) := by decide +kernel
theorem dX4_advance_86 : decode cX4_advance 86 = .ok (.dup, 1) := by decide +kernel
theorem dX4_advance_87 : decode cX4_advance 87 = .ok (.getfield 28, 3) := by decide +kernel
theorem dX4_advance_90 : decode cX4_advance 90 = .ok (.iconst 1, 1) := by decide +kernel
theorem dX4_advance_91 : decode cX4_advance 91 = .ok (.iadd, 1) := by decide +kernel
theorem dX4_advance_92 : decode cX4_advance 92 = .ok (.putfield 28, 3) := by decide +kernel
theorem dX4_advance_95 : decode cX4_advance 95 = .ok (.aload_n 0, 1) := by decide +kernel
theorem dX4_advance_96 : decode cX4_advance 96 = .ok (.getfield 22, 3) := by decide +kernel
theorem dX4_advance_99 : decode cX4_advance 99 = .ok (.iconst 1, 1) := by decide +kernel
theorem dX4_advance_100 : decode cX4_advance 100 = .ok (.if_icmp .eq 11, 3) := by decide +kernel
theorem dX4_advance_103 : decode cX4_advance 103 = .ok (.aload_n 0, 1) := by decide +kernel
theorem dX4_advance_104 : decode cX4_advance 104 = .ok (.getfield 22, 3) := by decide +kernel
theorem dX4_advance_107 : decode cX4_advance 107 = .ok (.iconst 2, 1) := by decide +kernel
theorem dX4_advance_108 : decode cX4_advance 108 = .ok (.if_icmp .ne 45, 3) := by decide +kernel
theorem dX4_advance_111 : decode cX4_advance 111 = .ok (.aload_n 0, 1) := by decide +kernel
theorem dX4_advance_112 : decode cX4_advance 112 = .ok (.getfield 28, 3) := by decide +kernel
theorem dX4_advance_115 : decode cX4_advance 115 = .ok (.aload_n 0, 1) := by decide +kernel
theorem dX4_advance_116 : decode cX4_advance 116 = .ok (.getfield 9, 3) := by decide +kernel
theorem dX4_advance_119 : decode cX4_advance 119 = .ok (.if_icmp .ge 34, 3) := by decide +kernel
theorem dX4_advance_122 : decode cX4_advance 122 = .ok (.aload_n 0, 1) := by decide +kernel
theorem dX4_advance_123 : decode cX4_advance 123 = .ok (.aload_n 0, 1) := by decide +kernel
theorem dX4_advance_124 : decode cX4_advance 124 = .ok (.getfield 28, 3) := by decide +kernel
theorem dX4_advance_127 : decode cX4_advance 127 = .ok (.invokevirtual 38, 3) := by decide +kernel
theorem dX4_advance_130 : decode cX4_advance 130 = .ok (.invokestatic 42, 3) := by decide +kernel
theorem dX4_advance_133 : decode cX4_advance 133 = .ok (.aload_n 0, 1) := by decide +kernel
theorem dX4_advance_134 : decode cX4_advance 134 = .ok (.getfield 22, 3) := by decide +kernel
theorem dX4_advance_137 : decode cX4_advance 137 = .ok (.if_icmp .ne 16, 3) := by decide +kernel
theorem dX4_advance_140 : decode cX4_advance 140 = .ok (.aload_n 0, 1) := by decide +kernel
theorem dX4_advance_141 : decode cX4_advance 141 = .ok (.dup, 1) := by decide +kernel
theorem dX4_advance_142 : decode cX4_advance 142 = .ok (.getfield 28, 3) := by decide +kernel
theorem dX4_advance_145 : decode cX4_advance 145 = .ok (.iconst 1, 1) := by decide +kernel
theorem dX4_advance_146 : decode cX4_advance 146 = .ok (.iadd, 1) := by decide +kernel
theorem dX4_advance_147 : decode cX4_advance 147 = .ok (.putfield 28, 3) := by decide +kernel
theorem dX4_advance_150 : decode cX4_advance 150 = .ok (.goto (-39), 3) := by decide +kernel
theorem dX4_advance_153 : decode cX4_advance 153 = .ok (.return_, 1) := by decide +kernel
set_option maxRecDepth 20000 in
theorem ggX4_isWord_J0_length_8abf5 : GoodIn wsX4_isWord wsJ0_length_8abf5 := goodIn_r _ [8, 9, 10, 11, 12, 7, 13, 14, 15] (by decide +kernel) (by decide +kernel)
set_option maxRecDepth 20000 in
theorem gX4_isWord_J0_length_8abf5 : GoodIn wsX4_isWord (wsV RX4 45 RJ0 yJ0_length_8abf5 wsJ0_length_8abf5) := goodIn_app (goodIn_of _ (by decide +kernel)) ggX4_isWord_J0_length_8abf5
set_option maxRecDepth 20000 in
theorem ggX4_isWord_X4_letterAt : GoodIn wsX4_isWord wsX4_letterAt := goodIn_r _ [20, 21, 22, 60, 61, 62, 63, 64, 65] (by decide +kernel) (by decide +kernel)
set_option maxRecDepth 20000 in
theorem gX4_isWord_X4_letterAt : GoodIn wsX4_isWord (wsV RX4 38 RX4 yX4_letterAt wsX4_letterAt) := goodIn_app (goodIn_of _ (by decide +kernel)) ggX4_isWord_X4_letterAt
set_option maxRecDepth 20000 in
theorem ggX4_isWord_J0_charAt_5068e : GoodIn wsX4_isWord wsJ0_charAt_5068e := goodIn_r _ [26, 9, 27, 28, 29, 7, 30, 14, 15, 31, 32, 33, 34, 35, 36, 37, 38, 39, 40, 41, 42, 43, 44, 45, 46, 47, 48, 49, 50, 51, 52, 53, 54, 55, 56, 57, 58, 59] (by decide +kernel) (by decide +kernel)
set_option maxRecDepth 20000 in
theorem gX4_isWord_J0_charAt_5068e : GoodIn wsX4_isWord (wsV RX4 51 RJ0 yJ0_charAt_5068e wsJ0_charAt_5068e) := goodIn_app (goodIn_of _ (by decide +kernel)) ggX4_isWord_J0_charAt_5068e
theorem dX4_isWord_0 : decode cX4_isWord 0 = .ok (.aload_n 0, 1) := by decide +kernel
theorem dX4_isWord_1 : decode cX4_isWord 1 = .ok (.getfield 22, 3) := by decide +kernel
theorem dX4_isWord_4 : decode cX4_isWord 4 = .ok (.iconst 1, 1) := by decide +kernel
theorem dX4_isWord_5 : decode cX4_isWord 5 = .ok (.if_icmp .ne 19, 3) := by decide +kernel
theorem dX4_isWord_8 : decode cX4_isWord 8 = .ok (.aload_n 0, 1) := by decide +kernel
theorem dX4_isWord_9 : decode cX4_isWord 9 = .ok (.getfield 28, 3) := by decide +kernel
theorem dX4_isWord_12 : decode cX4_isWord 12 = .ok (.aload_n 0, 1) := by decide +kernel
theorem dX4_isWord_13 : decode cX4_isWord 13 = .ok (.getfield 25, 3) := by decide +kernel
theorem dX4_isWord_16 : decode cX4_isWord 16 = .ok (.isub, 1) := by decide +kernel
theorem dX4_isWord_17 : decode cX4_isWord 17 = .ok (.aload_n 1, 1) := by decide +kernel
theorem dX4_isWord_18 : decode cX4_isWord 18 = .ok (.invokevirtual 45, 3) := by decide +kernel
theorem dX4_isWord_21 : decode cX4_isWord 21 = .ok (.if_icmp .eq 5, 3) := by decide +kernel
theorem dX4_isWord_24 : decode cX4_isWord 24 = .ok (.iconst 0, 1) := by decide +kernel
theorem dX4_isWord_25 : decode cX4_isWord 25 = .ok (.ireturn, 1) := by decide +kernel
theorem dX4_isWord_26 : decode cX4_isWord 26 = .ok (.iconst 0, 1) := by decide +kernel
theorem dX4_isWord_27 : decode cX4_isWord 27 = .ok (.istore_n 2, 1) := by decide +kernel
theorem dX4_isWord_28 : decode cX4_isWord 28 = .ok (.iload_n 2, 1) := by decide +kernel
theorem dX4_isWord_29 : decode cX4_isWord 29 = .ok (.aload_n 1, 1) := by decide +kernel
theorem dX4_isWord_30 : decode cX4_isWord 30 = .ok (.invokevirtual 45, 3) := by decide +kernel
theorem dX4_isWord_33 : decode cX4_isWord 33 = .ok (.if_icmp .ge 29, 3) := by decide +kernel
theorem dX4_isWord_36 : decode cX4_isWord 36 = .ok (.aload_n 0, 1) := by decide +kernel
theorem dX4_isWord_37 : decode cX4_isWord 37 = .ok (.aload_n 0, 1) := by decide +kernel
theorem dX4_isWord_38 : decode cX4_isWord 38 = .ok (.getfield 25, 3) := by decide +kernel
theorem dX4_isWord_41 : decode cX4_isWord 41 = .ok (.iload_n 2, 1) := by decide +kernel
theorem dX4_isWord_42 : decode cX4_isWord 42 = .ok (.iadd, 1) := by decide +kernel
theorem dX4_isWord_43 : decode cX4_isWord 43 = .ok (.invokevirtual 38, 3) := by decide +kernel
theorem dX4_isWord_46 : decode cX4_isWord 46 = .ok (.aload_n 1, 1) := by decide +kernel
theorem dX4_isWord_47 : decode cX4_isWord 47 = .ok (.iload_n 2, 1) := by decide +kernel
theorem dX4_isWord_48 : decode cX4_isWord 48 = .ok (.invokevirtual 51, 3) := by decide +kernel
theorem dX4_isWord_51 : decode cX4_isWord 51 = .ok (.if_icmp .eq 5, 3) := by decide +kernel
theorem dX4_isWord_54 : decode cX4_isWord 54 = .ok (.iconst 0, 1) := by decide +kernel
theorem dX4_isWord_55 : decode cX4_isWord 55 = .ok (.ireturn, 1) := by decide +kernel
theorem dX4_isWord_56 : decode cX4_isWord 56 = .ok (.iinc 2 1, 3) := by decide +kernel
theorem dX4_isWord_59 : decode cX4_isWord 59 = .ok (.goto (-31), 3) := by decide +kernel
theorem dX4_isWord_62 : decode cX4_isWord 62 = .ok (.iconst 1, 1) := by decide +kernel
theorem dX4_isWord_63 : decode cX4_isWord 63 = .ok (.ireturn, 1) := by decide +kernel
theorem dX4_isFault_0 : decode cX4_isFault 0 = .ok (.aload_n 0, 1) := by decide +kernel
theorem dX4_isFault_1 : decode cX4_isFault 1 = .ok (.aload_n 0, 1) := by decide +kernel
theorem dX4_isFault_2 : decode cX4_isFault 2 = .ok (.getfield 25, 3) := by decide +kernel
theorem dX4_isFault_5 : decode cX4_isFault 5 = .ok (.putfield 15, 3) := by decide +kernel
theorem dX4_isFault_8 : decode cX4_isFault 8 = .ok (.iconst 0, 1) := by decide +kernel
theorem dX4_isFault_9 : decode cX4_isFault 9 = .ok (.ireturn, 1) := by decide +kernel
set_option maxRecDepth 20000 in
theorem ggX4_takeNumber_X4_letterAt : GoodIn wsX4_takeNumber wsX4_letterAt := goodIn_r _ [9, 10, 11, 24, 25, 26, 27, 28, 29] (by decide +kernel) (by decide +kernel)
set_option maxRecDepth 20000 in
theorem gX4_takeNumber_X4_letterAt : GoodIn wsX4_takeNumber (wsV RX4 38 RX4 yX4_letterAt wsX4_letterAt) := goodIn_app (goodIn_of _ (by decide +kernel)) ggX4_takeNumber_X4_letterAt
set_option maxRecDepth 20000 in
theorem ggX4_takeNumber_X6_isWithin : GoodIn wsX4_takeNumber wsX6_isWithin := goodIn_r _ [14] (by decide +kernel) (by decide +kernel)
set_option maxRecDepth 20000 in
theorem gX4_takeNumber_X6_isWithin_n55 : GoodIn wsX4_takeNumber (wsX6_isWithin) := ggX4_takeNumber_X6_isWithin
set_option maxRecDepth 20000 in
theorem ggX4_takeNumber_X6_has : GoodIn wsX4_takeNumber wsX6_has := goodIn_r _ [16] (by decide +kernel) (by decide +kernel)
set_option maxRecDepth 20000 in
theorem gX4_takeNumber_X6_has_n59 : GoodIn wsX4_takeNumber (wsX6_has) := ggX4_takeNumber_X6_has
set_option maxRecDepth 20000 in
theorem ggX4_takeNumber_X4_advance : GoodIn wsX4_takeNumber wsX4_advance := goodIn_r _ [20, 2, 1, 10, 3, 5, 6, 7, 8, 9, 11, 21, 22, 23, 24, 25, 26, 27, 28, 29] (by decide +kernel) (by decide +kernel)
set_option maxRecDepth 20000 in
theorem gX4_takeNumber_X4_advance : GoodIn wsX4_takeNumber (wsV RX4 31 RX4 yX4_advance wsX4_advance) := goodIn_app (goodIn_of _ (by decide +kernel)) ggX4_takeNumber_X4_advance
theorem dX4_takeNumber_0 : decode cX4_takeNumber 0 = .ok (.iconst 0, 1) := by decide +kernel
theorem dX4_takeNumber_1 : decode cX4_takeNumber 1 = .ok (.istore 4, 2) := by decide +kernel
theorem dX4_takeNumber_3 : decode cX4_takeNumber 3 = .ok (.aload_n 0, 1) := by decide +kernel
theorem dX4_takeNumber_4 : decode cX4_takeNumber 4 = .ok (.getfield 25, 3) := by decide +kernel
theorem dX4_takeNumber_7 : decode cX4_takeNumber 7 = .ok (.istore 5, 2) := by decide +kernel
theorem dX4_takeNumber_9 : decode cX4_takeNumber 9 = .ok (.iload 5, 2) := by decide +kernel
theorem dX4_takeNumber_11 : decode cX4_takeNumber 11 = .ok (.aload_n 0, 1) := by decide +kernel
theorem dX4_takeNumber_12 : decode cX4_takeNumber 12 = .ok (.getfield 28, 3) := by decide +kernel
theorem dX4_takeNumber_15 : decode cX4_takeNumber 15 = .ok (.if_icmp .ge 37, 3) := by decide +kernel
theorem dX4_takeNumber_18 : decode cX4_takeNumber 18 = .ok (.iload 5, 2) := by decide +kernel
theorem dX4_takeNumber_20 : decode cX4_takeNumber 20 = .ok (.aload_n 0, 1) := by decide +kernel
theorem dX4_takeNumber_21 : decode cX4_takeNumber 21 = .ok (.getfield 25, 3) := by decide +kernel
theorem dX4_takeNumber_24 : decode cX4_takeNumber 24 = .ok (.iconst 2, 1) := by decide +kernel
theorem dX4_takeNumber_25 : decode cX4_takeNumber 25 = .ok (.iadd, 1) := by decide +kernel
theorem dX4_takeNumber_26 : decode cX4_takeNumber 26 = .ok (.if_icmp .ge 26, 3) := by decide +kernel
theorem dX4_takeNumber_29 : decode cX4_takeNumber 29 = .ok (.iload 4, 2) := by decide +kernel
theorem dX4_takeNumber_31 : decode cX4_takeNumber 31 = .ok (.bipush 10, 2) := by decide +kernel
theorem dX4_takeNumber_33 : decode cX4_takeNumber 33 = .ok (.imul, 1) := by decide +kernel
theorem dX4_takeNumber_34 : decode cX4_takeNumber 34 = .ok (.aload_n 0, 1) := by decide +kernel
theorem dX4_takeNumber_35 : decode cX4_takeNumber 35 = .ok (.iload 5, 2) := by decide +kernel
theorem dX4_takeNumber_37 : decode cX4_takeNumber 37 = .ok (.invokevirtual 38, 3) := by decide +kernel
theorem dX4_takeNumber_40 : decode cX4_takeNumber 40 = .ok (.iadd, 1) := by decide +kernel
theorem dX4_takeNumber_41 : decode cX4_takeNumber 41 = .ok (.bipush 48, 2) := by decide +kernel
theorem dX4_takeNumber_43 : decode cX4_takeNumber 43 = .ok (.isub, 1) := by decide +kernel
theorem dX4_takeNumber_44 : decode cX4_takeNumber 44 = .ok (.istore 4, 2) := by decide +kernel
theorem dX4_takeNumber_46 : decode cX4_takeNumber 46 = .ok (.iinc 5 1, 3) := by decide +kernel
theorem dX4_takeNumber_49 : decode cX4_takeNumber 49 = .ok (.goto (-40), 3) := by decide +kernel
theorem dX4_takeNumber_52 : decode cX4_takeNumber 52 = .ok (.aload_n 0, 1) := by decide +kernel
theorem dX4_takeNumber_53 : decode cX4_takeNumber 53 = .ok (.getfield 22, 3) := by decide +kernel
theorem dX4_takeNumber_56 : decode cX4_takeNumber 56 = .ok (.iconst 2, 1) := by decide +kernel
theorem dX4_takeNumber_57 : decode cX4_takeNumber 57 = .ok (.if_icmp .ne 30, 3) := by decide +kernel
theorem dX4_takeNumber_60 : decode cX4_takeNumber 60 = .ok (.aload_n 0, 1) := by decide +kernel
theorem dX4_takeNumber_61 : decode cX4_takeNumber 61 = .ok (.getfield 28, 3) := by decide +kernel
theorem dX4_takeNumber_64 : decode cX4_takeNumber 64 = .ok (.aload_n 0, 1) := by decide +kernel
theorem dX4_takeNumber_65 : decode cX4_takeNumber 65 = .ok (.getfield 25, 3) := by decide +kernel
theorem dX4_takeNumber_68 : decode cX4_takeNumber 68 = .ok (.isub, 1) := by decide +kernel
theorem dX4_takeNumber_69 : decode cX4_takeNumber 69 = .ok (.iconst 2, 1) := by decide +kernel
theorem dX4_takeNumber_70 : decode cX4_takeNumber 70 = .ok (.if_icmp .gt 17, 3) := by decide +kernel
theorem dX4_takeNumber_73 : decode cX4_takeNumber 73 = .ok (.iload 4, 2) := by decide +kernel
theorem dX4_takeNumber_75 : decode cX4_takeNumber 75 = .ok (.iload_n 1, 1) := by decide +kernel
theorem dX4_takeNumber_76 : decode cX4_takeNumber 76 = .ok (.iload_n 2, 1) := by decide +kernel
theorem dX4_takeNumber_77 : decode cX4_takeNumber 77 = .ok (.invokestatic 55, 3) := by decide +kernel
theorem dX4_takeNumber_80 : decode cX4_takeNumber 80 = .ok (.ifCond .eq 7, 3) := by decide +kernel
theorem dX4_takeNumber_83 : decode cX4_takeNumber 83 = .ok (.iconst 1, 1) := by decide +kernel
theorem dX4_takeNumber_84 : decode cX4_takeNumber 84 = .ok (.goto 4, 3) := by decide +kernel
theorem dX4_takeNumber_87 : decode cX4_takeNumber 87 = .ok (.iconst 0, 1) := by decide +kernel
theorem dX4_takeNumber_88 : decode cX4_takeNumber 88 = .ok (.istore 5, 2) := by decide +kernel
theorem dX4_takeNumber_90 : decode cX4_takeNumber 90 = .ok (.iload 5, 2) := by decide +kernel
theorem dX4_takeNumber_92 : decode cX4_takeNumber 92 = .ok (.ifCond .eq 12, 3) := by decide +kernel
theorem dX4_takeNumber_95 : decode cX4_takeNumber 95 = .ok (.iload_n 3, 1) := by decide +kernel
theorem dX4_takeNumber_96 : decode cX4_takeNumber 96 = .ok (.iload 4, 2) := by decide +kernel
theorem dX4_takeNumber_98 : decode cX4_takeNumber 98 = .ok (.invokestatic 59, 3) := by decide +kernel
theorem dX4_takeNumber_101 : decode cX4_takeNumber 101 = .ok (.ifCond .eq 13, 3) := by decide +kernel
theorem dX4_takeNumber_104 : decode cX4_takeNumber 104 = .ok (.aload_n 0, 1) := by decide +kernel
theorem dX4_takeNumber_105 : decode cX4_takeNumber 105 = .ok (.aload_n 0, 1) := by decide +kernel
theorem dX4_takeNumber_106 : decode cX4_takeNumber 106 = .ok (.getfield 25, 3) := by decide +kernel
theorem dX4_takeNumber_109 : decode cX4_takeNumber 109 = .ok (.putfield 15, 3) := by decide +kernel
theorem dX4_takeNumber_112 : decode cX4_takeNumber 112 = .ok (.iconst (-1), 1) := by decide +kernel
theorem dX4_takeNumber_113 : decode cX4_takeNumber 113 = .ok (.ireturn, 1) := by decide +kernel
theorem dX4_takeNumber_114 : decode cX4_takeNumber 114 = .ok (.aload_n 0, 1) := by decide +kernel
theorem dX4_takeNumber_115 : decode cX4_takeNumber 115 = .ok (.invokevirtual 31, 3) := by decide +kernel
theorem dX4_takeNumber_118 : decode cX4_takeNumber 118 = .ok (.iload 4, 2) := by decide +kernel
theorem dX4_takeNumber_120 : decode cX4_takeNumber 120 = .ok (.ireturn, 1) := by decide +kernel
set_option maxRecDepth 20000 in
theorem ggX4_readStatement_X4_isWord : GoodIn wsX4_readStatement wsX4_isWord := goodIn_r _ [5, 6, 7, 8, 9, 10, 11, 12, 13, 14, 15, 16, 17, 18, 19, 20, 21, 22, 23, 4, 24, 25, 26, 27, 28, 29, 30, 31, 32, 33, 34, 35, 36, 37, 38, 39, 40, 41, 42, 43, 44, 45, 46, 47, 48, 49, 50, 51, 52, 53, 54, 55, 56, 57, 58, 59, 60, 61, 62, 63, 163, 164, 165, 166, 167, 168] (by decide +kernel) (by decide +kernel)
set_option maxRecDepth 20000 in
theorem gX4_readStatement_X4_isWord : GoodIn wsX4_readStatement (wsV RX4 65 RX4 yX4_isWord wsX4_isWord) := goodIn_app (goodIn_of _ (by decide +kernel)) ggX4_readStatement_X4_isWord
set_option maxRecDepth 20000 in
theorem ggX4_readStatement_X4_readSights : GoodIn wsX4_readStatement wsX4_readSights := goodIn_r _ [67, 68, 69, 70, 71, 4, 72, 7, 8, 25, 6, 21, 22, 23, 24, 26, 73, 74, 75, 76, 77, 78, 79, 80, 81, 82, 83, 84, 85, 169, 170, 171, 172, 173, 174, 175, 176, 177, 178, 179, 180, 181, 182, 163, 164, 165, 166, 167, 168] (by decide +kernel) (by decide +kernel)
set_option maxRecDepth 20000 in
theorem gX4_readStatement_X4_readSights : GoodIn wsX4_readStatement (wsV RX4 69 RX4 yX4_readSights wsX4_readSights) := goodIn_app (goodIn_of _ (by decide +kernel)) ggX4_readStatement_X4_readSights
set_option maxRecDepth 20000 in
theorem ggX4_readStatement_X5_isFull : GoodIn wsX4_readStatement wsX5_isFull := goodIn_r _ [90, 91, 169, 170, 171, 172, 173, 174, 175, 176, 177, 178, 179, 180, 181, 182] (by decide +kernel) (by decide +kernel)
set_option maxRecDepth 20000 in
theorem gX4_readStatement_X5_isFull : GoodIn wsX4_readStatement (wsV RX4 74 RX5 yX5_isFull wsX5_isFull) := goodIn_app (goodIn_of _ (by decide +kernel)) ggX4_readStatement_X5_isFull
set_option maxRecDepth 20000 in
theorem ggX4_readStatement_X4_isFault : GoodIn wsX4_readStatement wsX4_isFault := goodIn_r _ [95, 8, 80, 163, 164, 165, 166, 167, 168] (by decide +kernel) (by decide +kernel)
set_option maxRecDepth 20000 in
theorem gX4_readStatement_X4_isFault : GoodIn wsX4_readStatement (wsV RX4 80 RX4 yX4_isFault wsX4_isFault) := goodIn_app (goodIn_of _ (by decide +kernel)) ggX4_readStatement_X4_isFault
set_option maxRecDepth 20000 in
theorem ggX4_readStatement_X4_readPerson : GoodIn wsX4_readStatement wsX4_readPerson := goodIn_r _ [99, 69, 70, 71, 4, 72, 7, 8, 25, 6, 21, 22, 23, 24, 26, 73, 74, 75, 76, 77, 78, 79, 80, 81, 82, 83, 84, 85, 100, 101, 102, 89, 103, 91, 104, 105, 106, 107, 108, 109, 1, 2, 3, 5, 9, 10, 11, 12, 13, 14, 15, 16, 17, 18, 19, 20, 27, 28, 29, 30, 31, 32, 33, 34, 35, 36, 37, 38, 39, 40, 41, 42, 43, 44, 45, 46, 47, 48, 49, 50, 51, 52, 53, 54, 55, 56, 57, 58, 59, 60, 61, 62, 63, 92, 93, 94, 95, 110, 111, 112, 113, 68, 114, 115, 116, 117, 118, 119, 120, 121, 122, 123, 124, 125, 126, 127, 163, 164, 165, 166, 167, 168, 169, 170, 171, 172, 173, 174, 175, 176, 177, 178, 179, 180, 181, 182] (by decide +kernel) (by decide +kernel)
set_option maxRecDepth 20000 in
theorem gX4_readStatement_X4_readPerson : GoodIn wsX4_readStatement (wsV RX4 83 RX4 yX4_readPerson wsX4_readPerson) := goodIn_app (goodIn_of _ (by decide +kernel)) ggX4_readStatement_X4_readPerson
set_option maxRecDepth 20000 in
theorem ggX4_readStatement_X4_readSeen : GoodIn wsX4_readStatement wsX4_readSeen := goodIn_r _ [131, 132, 69, 70, 71, 4, 72, 7, 8, 25, 6, 21, 22, 23, 24, 26, 73, 74, 75, 133, 134, 135, 89, 136, 91, 104, 118, 82, 119, 76, 77, 78, 79, 80, 81, 83, 84, 85, 110, 111, 112, 113, 68, 114, 115, 116, 117, 106, 107, 169, 170, 171, 172, 173, 174, 175, 176, 177, 178, 179, 180, 181, 182, 163, 164, 165, 166, 167, 168] (by decide +kernel) (by decide +kernel)
set_option maxRecDepth 20000 in
theorem gX4_readStatement_X4_readSeen : GoodIn wsX4_readStatement (wsV RX4 88 RX4 yX4_readSeen wsX4_readSeen) := goodIn_app (goodIn_of _ (by decide +kernel)) ggX4_readStatement_X4_readSeen
set_option maxRecDepth 20000 in
theorem ggX4_readStatement_X4_readHeard : GoodIn wsX4_readStatement wsX4_readHeard := goodIn_r _ [140, 132, 69, 70, 71, 4, 72, 7, 8, 25, 6, 21, 22, 23, 24, 26, 73, 74, 75, 76, 77, 78, 79, 80, 81, 82, 83, 84, 85, 120, 121, 122, 123, 68, 124, 125, 126, 89, 127, 108, 118, 119, 169, 170, 171, 172, 173, 174, 175, 176, 177, 178, 179, 180, 181, 182, 163, 164, 165, 166, 167, 168] (by decide +kernel) (by decide +kernel)
set_option maxRecDepth 20000 in
theorem gX4_readStatement_X4_readHeard : GoodIn wsX4_readStatement (wsV RX4 96 RX4 yX4_readHeard wsX4_readHeard) := goodIn_app (goodIn_of _ (by decide +kernel)) ggX4_readStatement_X4_readHeard
set_option maxRecDepth 20000 in
theorem ggX4_readStatement_X4_readHears : GoodIn wsX4_readStatement wsX4_readHears := goodIn_r _ [144, 132, 69, 70, 71, 4, 72, 7, 8, 25, 6, 21, 22, 23, 24, 26, 73, 74, 75, 76, 77, 78, 79, 80, 81, 82, 83, 84, 85, 145, 146, 147, 89, 148, 109, 118, 119, 169, 170, 171, 172, 173, 174, 175, 176, 177, 178, 179, 180, 181, 182, 163, 164, 165, 166, 167, 168] (by decide +kernel) (by decide +kernel)
set_option maxRecDepth 20000 in
theorem gX4_readStatement_X4_readHears : GoodIn wsX4_readStatement (wsV RX4 101 RX4 yX4_readHears wsX4_readHears) := goodIn_app (goodIn_of _ (by decide +kernel)) ggX4_readStatement_X4_readHears
set_option maxRecDepth 20000 in
theorem ggX4_readStatement_X4_readSetting : GoodIn wsX4_readStatement wsX4_readSetting := goodIn_r _ [152, 69, 70, 71, 4, 72, 7, 8, 25, 6, 21, 22, 23, 24, 26, 73, 74, 75, 153, 154, 89, 155, 76, 77, 78, 79, 80, 81, 82, 83, 84, 85, 156, 157, 158, 159, 160, 161, 162, 163, 164, 165, 166, 167, 168, 169, 170, 171, 172, 173, 174, 175, 176, 177, 178, 179, 180, 181, 182] (by decide +kernel) (by decide +kernel)
set_option maxRecDepth 20000 in
theorem gX4_readStatement_X4_readSetting : GoodIn wsX4_readStatement (wsV RX4 106 RX4 yX4_readSetting wsX4_readSetting) := goodIn_app (goodIn_of _ (by decide +kernel)) ggX4_readStatement_X4_readSetting
theorem dX4_readStatement_0 : decode cX4_readStatement 0 = .ok (.aload_n 0, 1) := by decide +kernel
theorem dX4_readStatement_1 : decode cX4_readStatement 1 = .ok (.ldc 63, 2) := by decide +kernel
theorem dX4_readStatement_3 : decode cX4_readStatement 3 = .ok (.invokevirtual 65, 3) := by decide +kernel
theorem dX4_readStatement_6 : decode cX4_readStatement 6 = .ok (.ifCond .eq 9, 3) := by decide +kernel
theorem dX4_readStatement_9 : decode cX4_readStatement 9 = .ok (.aload_n 0, 1) := by decide +kernel
theorem dX4_readStatement_10 : decode cX4_readStatement 10 = .ok (.aload_n 1, 1) := by decide +kernel
theorem dX4_readStatement_11 : decode cX4_readStatement 11 = .ok (.invokevirtual 69, 3) := by decide +kernel
theorem dX4_readStatement_14 : decode cX4_readStatement 14 = .ok (.ireturn, 1) := by decide +kernel
theorem dX4_readStatement_15 : decode cX4_readStatement 15 = .ok (.aload_n 0, 1) := by decide +kernel
theorem dX4_readStatement_16 : decode cX4_readStatement 16 = .ok (.ldc 72, 2) := by decide +kernel
theorem dX4_readStatement_18 : decode cX4_readStatement 18 = .ok (.invokevirtual 65, 3) := by decide +kernel
theorem dX4_readStatement_21 : decode cX4_readStatement 21 = .ok (.ifCond .eq 23, 3) := by decide +kernel
theorem dX4_readStatement_24 : decode cX4_readStatement 24 = .ok (.aload_n 1, 1) := by decide +kernel
theorem dX4_readStatement_25 : decode cX4_readStatement 25 = .ok (.invokevirtual 74, 3) := by decide +kernel
theorem dX4_readStatement_28 : decode cX4_readStatement 28 = .ok (.ifCond .eq 10, 3) := by decide +kernel
theorem dX4_readStatement_31 : decode cX4_readStatement 31 = .ok (.aload_n 0, 1) := by decide +kernel
theorem dX4_readStatement_32 : decode cX4_readStatement 32 = .ok (.invokevirtual 80, 3) := by decide +kernel
theorem dX4_readStatement_35 : decode cX4_readStatement 35 = .ok (.goto 8, 3) := by decide +kernel
theorem dX4_readStatement_38 : decode cX4_readStatement 38 = .ok (.aload_n 0, 1) := by decide +kernel
theorem dX4_readStatement_39 : decode cX4_readStatement 39 = .ok (.aload_n 1, 1) := by decide +kernel
theorem dX4_readStatement_40 : decode cX4_readStatement 40 = .ok (.invokevirtual 83, 3) := by decide +kernel
theorem dX4_readStatement_43 : decode cX4_readStatement 43 = .ok (.ireturn, 1) := by decide +kernel
theorem dX4_readStatement_44 : decode cX4_readStatement 44 = .ok (.aload_n 0, 1) := by decide +kernel
theorem dX4_readStatement_45 : decode cX4_readStatement 45 = .ok (.ldc 86, 2) := by decide +kernel
theorem dX4_readStatement_47 : decode cX4_readStatement 47 = .ok (.invokevirtual 65, 3) := by decide +kernel
theorem dX4_readStatement_50 : decode cX4_readStatement 50 = .ok (.ifCond .eq 10, 3) := by decide +kernel
theorem dX4_readStatement_53 : decode cX4_readStatement 53 = .ok (.aload_n 0, 1) := by decide +kernel
theorem dX4_readStatement_54 : decode cX4_readStatement 54 = .ok (.aload_n 1, 1) := by decide +kernel
theorem dX4_readStatement_55 : decode cX4_readStatement 55 = .ok (.iconst 2, 1) := by decide +kernel
theorem dX4_readStatement_56 : decode cX4_readStatement 56 = .ok (.invokevirtual 88, 3) := by decide +kernel
theorem dX4_readStatement_59 : decode cX4_readStatement 59 = .ok (.ireturn, 1) := by decide +kernel
theorem dX4_readStatement_60 : decode cX4_readStatement 60 = .ok (.aload_n 0, 1) := by decide +kernel
theorem dX4_readStatement_61 : decode cX4_readStatement 61 = .ok (.ldc 92, 2) := by decide +kernel
theorem dX4_readStatement_63 : decode cX4_readStatement 63 = .ok (.invokevirtual 65, 3) := by decide +kernel
theorem dX4_readStatement_66 : decode cX4_readStatement 66 = .ok (.ifCond .eq 10, 3) := by decide +kernel
theorem dX4_readStatement_69 : decode cX4_readStatement 69 = .ok (.aload_n 0, 1) := by decide +kernel
theorem dX4_readStatement_70 : decode cX4_readStatement 70 = .ok (.aload_n 1, 1) := by decide +kernel
theorem dX4_readStatement_71 : decode cX4_readStatement 71 = .ok (.iconst 1, 1) := by decide +kernel
theorem dX4_readStatement_72 : decode cX4_readStatement 72 = .ok (.invokevirtual 88, 3) := by decide +kernel
theorem dX4_readStatement_75 : decode cX4_readStatement 75 = .ok (.ireturn, 1) := by decide +kernel
theorem dX4_readStatement_76 : decode cX4_readStatement 76 = .ok (.aload_n 0, 1) := by decide +kernel
theorem dX4_readStatement_77 : decode cX4_readStatement 77 = .ok (.ldc 94, 2) := by decide +kernel
theorem dX4_readStatement_79 : decode cX4_readStatement 79 = .ok (.invokevirtual 65, 3) := by decide +kernel
theorem dX4_readStatement_82 : decode cX4_readStatement 82 = .ok (.ifCond .eq 9, 3) := by decide +kernel
theorem dX4_readStatement_85 : decode cX4_readStatement 85 = .ok (.aload_n 0, 1) := by decide +kernel
theorem dX4_readStatement_86 : decode cX4_readStatement 86 = .ok (.aload_n 1, 1) := by decide +kernel
theorem dX4_readStatement_87 : decode cX4_readStatement 87 = .ok (.invokevirtual 96, 3) := by decide +kernel
theorem dX4_readStatement_90 : decode cX4_readStatement 90 = .ok (.ireturn, 1) := by decide +kernel
theorem dX4_readStatement_91 : decode cX4_readStatement 91 = .ok (.aload_n 0, 1) := by decide +kernel
theorem dX4_readStatement_92 : decode cX4_readStatement 92 = .ok (.ldc 99, 2) := by decide +kernel
theorem dX4_readStatement_94 : decode cX4_readStatement 94 = .ok (.invokevirtual 65, 3) := by decide +kernel
theorem dX4_readStatement_97 : decode cX4_readStatement 97 = .ok (.ifCond .eq 9, 3) := by decide +kernel
theorem dX4_readStatement_100 : decode cX4_readStatement 100 = .ok (.aload_n 0, 1) := by decide +kernel
theorem dX4_readStatement_101 : decode cX4_readStatement 101 = .ok (.aload_n 1, 1) := by decide +kernel
theorem dX4_readStatement_102 : decode cX4_readStatement 102 = .ok (.invokevirtual 101, 3) := by decide +kernel
theorem dX4_readStatement_105 : decode cX4_readStatement 105 = .ok (.ireturn, 1) := by decide +kernel
theorem dX4_readStatement_106 : decode cX4_readStatement 106 = .ok (.aload_n 0, 1) := by decide +kernel
theorem dX4_readStatement_107 : decode cX4_readStatement 107 = .ok (.ldc 104, 2) := by decide +kernel
theorem dX4_readStatement_109 : decode cX4_readStatement 109 = .ok (.invokevirtual 65, 3) := by decide +kernel
theorem dX4_readStatement_112 : decode cX4_readStatement 112 = .ok (.ifCond .eq 10, 3) := by decide +kernel
theorem dX4_readStatement_115 : decode cX4_readStatement 115 = .ok (.aload_n 0, 1) := by decide +kernel
theorem dX4_readStatement_116 : decode cX4_readStatement 116 = .ok (.aload_n 1, 1) := by decide +kernel
theorem dX4_readStatement_117 : decode cX4_readStatement 117 = .ok (.iconst 0, 1) := by decide +kernel
theorem dX4_readStatement_118 : decode cX4_readStatement 118 = .ok (.invokevirtual 106, 3) := by decide +kernel
theorem dX4_readStatement_121 : decode cX4_readStatement 121 = .ok (.ireturn, 1) := by decide +kernel
theorem dX4_readStatement_122 : decode cX4_readStatement 122 = .ok (.aload_n 0, 1) := by decide +kernel
theorem dX4_readStatement_123 : decode cX4_readStatement 123 = .ok (.ldc 109, 2) := by decide +kernel
theorem dX4_readStatement_125 : decode cX4_readStatement 125 = .ok (.invokevirtual 65, 3) := by decide +kernel
theorem dX4_readStatement_128 : decode cX4_readStatement 128 = .ok (.ifCond .eq 10, 3) := by decide +kernel
theorem dX4_readStatement_131 : decode cX4_readStatement 131 = .ok (.aload_n 0, 1) := by decide +kernel
theorem dX4_readStatement_132 : decode cX4_readStatement 132 = .ok (.aload_n 1, 1) := by decide +kernel
theorem dX4_readStatement_133 : decode cX4_readStatement 133 = .ok (.iconst 1, 1) := by decide +kernel
theorem dX4_readStatement_134 : decode cX4_readStatement 134 = .ok (.invokevirtual 106, 3) := by decide +kernel
theorem dX4_readStatement_137 : decode cX4_readStatement 137 = .ok (.ireturn, 1) := by decide +kernel
theorem dX4_readStatement_138 : decode cX4_readStatement 138 = .ok (.aload_n 0, 1) := by decide +kernel
theorem dX4_readStatement_139 : decode cX4_readStatement 139 = .ok (.ldc 111, 2) := by decide +kernel
theorem dX4_readStatement_141 : decode cX4_readStatement 141 = .ok (.invokevirtual 65, 3) := by decide +kernel
theorem dX4_readStatement_144 : decode cX4_readStatement 144 = .ok (.ifCond .eq 12, 3) := by decide +kernel
theorem dX4_readStatement_147 : decode cX4_readStatement 147 = .ok (.aload_n 0, 1) := by decide +kernel
theorem dX4_readStatement_148 : decode cX4_readStatement 148 = .ok (.aload_n 1, 1) := by decide +kernel
theorem dX4_readStatement_149 : decode cX4_readStatement 149 = .ok (.iconst 2, 1) := by decide +kernel
theorem dX4_readStatement_150 : decode cX4_readStatement 150 = .ok (.invokevirtual 106, 3) := by decide +kernel
theorem dX4_readStatement_153 : decode cX4_readStatement 153 = .ok (.goto 7, 3) := by decide +kernel
theorem dX4_readStatement_156 : decode cX4_readStatement 156 = .ok (.aload_n 0, 1) := by decide +kernel
theorem dX4_readStatement_157 : decode cX4_readStatement 157 = .ok (.invokevirtual 80, 3) := by decide +kernel
theorem dX4_readStatement_160 : decode cX4_readStatement 160 = .ok (.ireturn, 1) := by decide +kernel
set_option maxRecDepth 20000 in
theorem ggX4_readSights_X4_advance : GoodIn wsX4_readSights wsX4_advance := goodIn_r _ [6, 7, 8, 9, 10, 11, 12, 13, 5, 14, 15, 16, 17, 18, 43, 44, 45, 46, 47, 48] (by decide +kernel) (by decide +kernel)
set_option maxRecDepth 20000 in
theorem gX4_readSights_X4_advance : GoodIn wsX4_readSights (wsV RX4 31 RX4 yX4_advance wsX4_advance) := goodIn_app (goodIn_of _ (by decide +kernel)) ggX4_readSights_X4_advance
set_option maxRecDepth 20000 in
theorem ggX4_readSights_X4_takeNumber : GoodIn wsX4_readSights wsX4_takeNumber := goodIn_r _ [22, 8, 7, 10, 23, 11, 12, 13, 5, 14, 9, 15, 24, 25, 26, 27, 28, 2, 3, 4, 6, 16, 17, 18, 43, 44, 45, 46, 47, 48] (by decide +kernel) (by decide +kernel)
set_option maxRecDepth 20000 in
theorem gX4_readSights_X4_takeNumber : GoodIn wsX4_readSights (wsV RX4 115 RX4 yX4_takeNumber wsX4_takeNumber) := goodIn_app (goodIn_of _ (by decide +kernel)) ggX4_readSights_X4_takeNumber
theorem dX4_readSights_0 : decode cX4_readSights 0 = .ok (.aload_n 0, 1) := by decide +kernel
theorem dX4_readSights_1 : decode cX4_readSights 1 = .ok (.invokevirtual 31, 3) := by decide +kernel
theorem dX4_readSights_4 : decode cX4_readSights 4 = .ok (.aload_n 0, 1) := by decide +kernel
theorem dX4_readSights_5 : decode cX4_readSights 5 = .ok (.aload_n 1, 1) := by decide +kernel
theorem dX4_readSights_6 : decode cX4_readSights 6 = .ok (.getfield 113, 3) := by decide +kernel
theorem dX4_readSights_9 : decode cX4_readSights 9 = .ok (.bipush 8, 2) := by decide +kernel
theorem dX4_readSights_11 : decode cX4_readSights 11 = .ok (.iconst 0, 1) := by decide +kernel
theorem dX4_readSights_12 : decode cX4_readSights 12 = .ok (.invokevirtual 115, 3) := by decide +kernel
theorem dX4_readSights_15 : decode cX4_readSights 15 = .ok (.istore_n 2, 1) := by decide +kernel
theorem dX4_readSights_16 : decode cX4_readSights 16 = .ok (.iload_n 2, 1) := by decide +kernel
theorem dX4_readSights_17 : decode cX4_readSights 17 = .ok (.iconst (-1), 1) := by decide +kernel
theorem dX4_readSights_18 : decode cX4_readSights 18 = .ok (.if_icmp .ne 5, 3) := by decide +kernel
theorem dX4_readSights_21 : decode cX4_readSights 21 = .ok (.iconst 0, 1) := by decide +kernel
theorem dX4_readSights_22 : decode cX4_readSights 22 = .ok (.ireturn, 1) := by decide +kernel
theorem dX4_readSights_23 : decode cX4_readSights 23 = .ok (.aload_n 1, 1) := by decide +kernel
theorem dX4_readSights_24 : decode cX4_readSights 24 = .ok (.iload_n 2, 1) := by decide +kernel
theorem dX4_readSights_25 : decode cX4_readSights 25 = .ok (.putfield 113, 3) := by decide +kernel
theorem dX4_readSights_28 : decode cX4_readSights 28 = .ok (.iconst 1, 1) := by decide +kernel
theorem dX4_readSights_29 : decode cX4_readSights 29 = .ok (.ireturn, 1) := by decide +kernel
set_option maxRecDepth 20000 in
theorem ggX4_readPerson_X4_advance : GoodIn wsX4_readPerson wsX4_advance := goodIn_r _ [5, 6, 7, 8, 9, 10, 11, 12, 4, 13, 14, 15, 16, 17, 116, 117, 118, 119, 120, 121] (by decide +kernel) (by decide +kernel)
set_option maxRecDepth 20000 in
theorem gX4_readPerson_X4_advance : GoodIn wsX4_readPerson (wsV RX4 31 RX4 yX4_advance wsX4_advance) := goodIn_app (goodIn_of _ (by decide +kernel)) ggX4_readPerson_X4_advance
set_option maxRecDepth 20000 in
theorem ggX4_readPerson_X4_takeNumber : GoodIn wsX4_readPerson wsX4_takeNumber := goodIn_r _ [21, 7, 6, 9, 22, 10, 11, 12, 4, 13, 8, 14, 23, 24, 25, 26, 27, 1, 2, 3, 5, 15, 16, 17, 116, 117, 118, 119, 120, 121] (by decide +kernel) (by decide +kernel)
set_option maxRecDepth 20000 in
theorem gX4_readPerson_X4_takeNumber : GoodIn wsX4_readPerson (wsV RX4 115 RX4 yX4_takeNumber wsX4_takeNumber) := goodIn_app (goodIn_of _ (by decide +kernel)) ggX4_readPerson_X4_takeNumber
set_option maxRecDepth 20000 in
theorem ggX4_readPerson_X5_join : GoodIn wsX4_readPerson wsX5_join := goodIn_r _ [32, 33, 34, 35, 36, 37, 38, 39, 122, 123, 124, 125, 126, 127, 128, 129, 130, 131, 132, 133, 134, 135] (by decide +kernel) (by decide +kernel)
set_option maxRecDepth 20000 in
theorem gX4_readPerson_X5_join : GoodIn wsX4_readPerson (wsV RX4 119 RX5 yX5_join wsX5_join) := goodIn_app (goodIn_of _ (by decide +kernel)) ggX4_readPerson_X5_join
set_option maxRecDepth 20000 in
theorem ggX4_readPerson_X4_isWord : GoodIn wsX4_readPerson wsX4_isWord := goodIn_r _ [43, 9, 6, 7, 44, 45, 46, 47, 48, 49, 50, 51, 52, 53, 54, 55, 10, 11, 12, 4, 13, 8, 14, 56, 57, 58, 59, 60, 61, 62, 63, 64, 65, 66, 67, 68, 69, 70, 71, 72, 73, 74, 75, 76, 77, 78, 79, 80, 81, 82, 83, 84, 85, 86, 87, 88, 89, 90, 91, 92, 116, 117, 118, 119, 120, 121] (by decide +kernel) (by decide +kernel)
set_option maxRecDepth 20000 in
theorem gX4_readPerson_X4_isWord : GoodIn wsX4_readPerson (wsV RX4 65 RX4 yX4_isWord wsX4_isWord) := goodIn_app (goodIn_of _ (by decide +kernel)) ggX4_readPerson_X4_isWord
set_option maxRecDepth 20000 in
theorem ggX4_readPerson_X4_isFault : GoodIn wsX4_readPerson wsX4_isFault := goodIn_r _ [96, 7, 22, 116, 117, 118, 119, 120, 121] (by decide +kernel) (by decide +kernel)
set_option maxRecDepth 20000 in
theorem gX4_readPerson_X4_isFault : GoodIn wsX4_readPerson (wsV RX4 80 RX4 yX4_isFault wsX4_isFault) := goodIn_app (goodIn_of _ (by decide +kernel)) ggX4_readPerson_X4_isFault
set_option maxRecDepth 20000 in
theorem ggX4_readPerson_X4_readSightSeen : GoodIn wsX4_readPerson wsX4_readSightSeen := goodIn_r _ [100, 101, 18, 19, 20, 4, 21, 7, 6, 9, 22, 10, 11, 12, 13, 8, 14, 23, 24, 25, 26, 27, 1, 2, 3, 5, 15, 16, 17, 102, 103, 104, 31, 105, 36, 37, 106, 107, 122, 123, 124, 125, 126, 127, 128, 129, 130, 131, 132, 133, 134, 135, 116, 117, 118, 119, 120, 121] (by decide +kernel) (by decide +kernel)
set_option maxRecDepth 20000 in
theorem gX4_readPerson_X4_readSightSeen : GoodIn wsX4_readPerson (wsV RX4 123 RX4 yX4_readSightSeen wsX4_readSightSeen) := goodIn_app (goodIn_of _ (by decide +kernel)) ggX4_readPerson_X4_readSightSeen
set_option maxRecDepth 20000 in
theorem ggX4_readPerson_X4_readSightHeard : GoodIn wsX4_readPerson wsX4_readSightHeard := goodIn_r _ [111, 101, 18, 19, 20, 4, 21, 7, 6, 9, 22, 10, 11, 12, 13, 8, 14, 23, 24, 25, 26, 27, 1, 2, 3, 5, 15, 16, 17, 112, 113, 114, 31, 115, 38, 106, 107, 122, 123, 124, 125, 126, 127, 128, 129, 130, 131, 132, 133, 134, 135, 116, 117, 118, 119, 120, 121] (by decide +kernel) (by decide +kernel)
set_option maxRecDepth 20000 in
theorem gX4_readPerson_X4_readSightHeard : GoodIn wsX4_readPerson (wsV RX4 127 RX4 yX4_readSightHeard wsX4_readSightHeard) := goodIn_app (goodIn_of _ (by decide +kernel)) ggX4_readPerson_X4_readSightHeard
theorem dX4_readPerson_0 : decode cX4_readPerson 0 = .ok (.aload_n 0, 1) := by decide +kernel
theorem dX4_readPerson_1 : decode cX4_readPerson 1 = .ok (.invokevirtual 31, 3) := by decide +kernel
theorem dX4_readPerson_4 : decode cX4_readPerson 4 = .ok (.aload_n 0, 1) := by decide +kernel
theorem dX4_readPerson_5 : decode cX4_readPerson 5 = .ok (.iconst 0, 1) := by decide +kernel
theorem dX4_readPerson_6 : decode cX4_readPerson 6 = .ok (.iconst 5, 1) := by decide +kernel
theorem dX4_readPerson_7 : decode cX4_readPerson 7 = .ok (.iconst 0, 1) := by decide +kernel
theorem dX4_readPerson_8 : decode cX4_readPerson 8 = .ok (.invokevirtual 115, 3) := by decide +kernel
theorem dX4_readPerson_11 : decode cX4_readPerson 11 = .ok (.istore_n 2, 1) := by decide +kernel
theorem dX4_readPerson_12 : decode cX4_readPerson 12 = .ok (.iload_n 2, 1) := by decide +kernel
theorem dX4_readPerson_13 : decode cX4_readPerson 13 = .ok (.iconst (-1), 1) := by decide +kernel
theorem dX4_readPerson_14 : decode cX4_readPerson 14 = .ok (.if_icmp .ne 7, 3) := by decide +kernel
theorem dX4_readPerson_17 : decode cX4_readPerson 17 = .ok (.iconst (-1), 1) := by decide +kernel
theorem dX4_readPerson_18 : decode cX4_readPerson 18 = .ok (.goto 11, 3) := by decide +kernel
theorem dX4_readPerson_21 : decode cX4_readPerson 21 = .ok (.aload_n 0, 1) := by decide +kernel
theorem dX4_readPerson_22 : decode cX4_readPerson 22 = .ok (.iconst 0, 1) := by decide +kernel
theorem dX4_readPerson_23 : decode cX4_readPerson 23 = .ok (.bipush 9, 2) := by decide +kernel
theorem dX4_readPerson_25 : decode cX4_readPerson 25 = .ok (.iconst 0, 1) := by decide +kernel
theorem dX4_readPerson_26 : decode cX4_readPerson 26 = .ok (.invokevirtual 115, 3) := by decide +kernel
theorem dX4_readPerson_29 : decode cX4_readPerson 29 = .ok (.istore_n 3, 1) := by decide +kernel
theorem dX4_readPerson_30 : decode cX4_readPerson 30 = .ok (.iload_n 3, 1) := by decide +kernel
theorem dX4_readPerson_31 : decode cX4_readPerson 31 = .ok (.iconst (-1), 1) := by decide +kernel
theorem dX4_readPerson_32 : decode cX4_readPerson 32 = .ok (.if_icmp .ne 5, 3) := by decide +kernel
theorem dX4_readPerson_35 : decode cX4_readPerson 35 = .ok (.iconst 0, 1) := by decide +kernel
theorem dX4_readPerson_36 : decode cX4_readPerson 36 = .ok (.ireturn, 1) := by decide +kernel
theorem dX4_readPerson_37 : decode cX4_readPerson 37 = .ok (.aload_n 1, 1) := by decide +kernel
theorem dX4_readPerson_38 : decode cX4_readPerson 38 = .ok (.iload_n 2, 1) := by decide +kernel
theorem dX4_readPerson_39 : decode cX4_readPerson 39 = .ok (.iload_n 3, 1) := by decide +kernel
theorem dX4_readPerson_40 : decode cX4_readPerson 40 = .ok (.invokevirtual 119, 3) := by decide +kernel
theorem dX4_readPerson_43 : decode cX4_readPerson 43 = .ok (.istore 4, 2) := by decide +kernel
theorem dX4_readPerson_45 : decode cX4_readPerson 45 = .ok (.aload_n 0, 1) := by decide +kernel
theorem dX4_readPerson_46 : decode cX4_readPerson 46 = .ok (.ldc 86, 2) := by decide +kernel
theorem dX4_readPerson_48 : decode cX4_readPerson 48 = .ok (.invokevirtual 65, 3) := by decide +kernel
theorem dX4_readPerson_51 : decode cX4_readPerson 51 = .ok (.ifCond .eq 30, 3) := by decide +kernel
theorem dX4_readPerson_54 : decode cX4_readPerson 54 = .ok (.iload_n 2, 1) := by decide +kernel
theorem dX4_readPerson_55 : decode cX4_readPerson 55 = .ok (.iconst 4, 1) := by decide +kernel
theorem dX4_readPerson_56 : decode cX4_readPerson 56 = .ok (.if_icmp .ne 8, 3) := by decide +kernel
theorem dX4_readPerson_59 : decode cX4_readPerson 59 = .ok (.aload_n 0, 1) := by decide +kernel
theorem dX4_readPerson_60 : decode cX4_readPerson 60 = .ok (.invokevirtual 80, 3) := by decide +kernel
theorem dX4_readPerson_63 : decode cX4_readPerson 63 = .ok (.ireturn, 1) := by decide +kernel
theorem dX4_readPerson_64 : decode cX4_readPerson 64 = .ok (.aload_n 0, 1) := by decide +kernel
theorem dX4_readPerson_65 : decode cX4_readPerson 65 = .ok (.invokevirtual 31, 3) := by decide +kernel
theorem dX4_readPerson_68 : decode cX4_readPerson 68 = .ok (.aload_n 0, 1) := by decide +kernel
theorem dX4_readPerson_69 : decode cX4_readPerson 69 = .ok (.aload_n 1, 1) := by decide +kernel
theorem dX4_readPerson_70 : decode cX4_readPerson 70 = .ok (.iload 4, 2) := by decide +kernel
theorem dX4_readPerson_72 : decode cX4_readPerson 72 = .ok (.iconst 2, 1) := by decide +kernel
theorem dX4_readPerson_73 : decode cX4_readPerson 73 = .ok (.invokevirtual 123, 3) := by decide +kernel
theorem dX4_readPerson_76 : decode cX4_readPerson 76 = .ok (.ifCond .ne 5, 3) := by decide +kernel
theorem dX4_readPerson_79 : decode cX4_readPerson 79 = .ok (.iconst 0, 1) := by decide +kernel
theorem dX4_readPerson_80 : decode cX4_readPerson 80 = .ok (.ireturn, 1) := by decide +kernel
theorem dX4_readPerson_81 : decode cX4_readPerson 81 = .ok (.aload_n 0, 1) := by decide +kernel
theorem dX4_readPerson_82 : decode cX4_readPerson 82 = .ok (.ldc 94, 2) := by decide +kernel
theorem dX4_readPerson_84 : decode cX4_readPerson 84 = .ok (.invokevirtual 65, 3) := by decide +kernel
theorem dX4_readPerson_87 : decode cX4_readPerson 87 = .ok (.ifCond .eq 15, 3) := by decide +kernel
theorem dX4_readPerson_90 : decode cX4_readPerson 90 = .ok (.aload_n 0, 1) := by decide +kernel
theorem dX4_readPerson_91 : decode cX4_readPerson 91 = .ok (.invokevirtual 31, 3) := by decide +kernel
theorem dX4_readPerson_94 : decode cX4_readPerson 94 = .ok (.aload_n 0, 1) := by decide +kernel
theorem dX4_readPerson_95 : decode cX4_readPerson 95 = .ok (.aload_n 1, 1) := by decide +kernel
theorem dX4_readPerson_96 : decode cX4_readPerson 96 = .ok (.iload 4, 2) := by decide +kernel
theorem dX4_readPerson_98 : decode cX4_readPerson 98 = .ok (.invokevirtual 127, 3) := by decide +kernel
theorem dX4_readPerson_101 : decode cX4_readPerson 101 = .ok (.ireturn, 1) := by decide +kernel
theorem dX4_readPerson_102 : decode cX4_readPerson 102 = .ok (.iconst 1, 1) := by decide +kernel
theorem dX4_readPerson_103 : decode cX4_readPerson 103 = .ok (.ireturn, 1) := by decide +kernel
set_option maxRecDepth 20000 in
theorem ggX4_readSeen_X4_advance : GoodIn wsX4_readSeen wsX4_advance := goodIn_r _ [6, 7, 8, 9, 10, 11, 12, 13, 5, 14, 15, 16, 17, 18, 63, 64, 65, 66, 67, 68] (by decide +kernel) (by decide +kernel)
set_option maxRecDepth 20000 in
theorem gX4_readSeen_X4_advance : GoodIn wsX4_readSeen (wsV RX4 31 RX4 yX4_advance wsX4_advance) := goodIn_app (goodIn_of _ (by decide +kernel)) ggX4_readSeen_X4_advance
set_option maxRecDepth 20000 in
theorem ggX4_readSeen_X5_allBlind : GoodIn wsX4_readSeen wsX5_allBlind := goodIn_r _ [23, 24, 25, 26, 27, 28, 49, 50, 51, 52, 53, 54, 55, 56, 57, 58, 59, 60, 61, 62] (by decide +kernel) (by decide +kernel)
set_option maxRecDepth 20000 in
theorem gX4_readSeen_X5_allBlind : GoodIn wsX4_readSeen (wsV RX4 133 RX5 yX5_allBlind wsX5_allBlind) := goodIn_app (goodIn_of _ (by decide +kernel)) ggX4_readSeen_X5_allBlind
set_option maxRecDepth 20000 in
theorem ggX4_readSeen_X4_takeNumber : GoodIn wsX4_readSeen wsX4_takeNumber := goodIn_r _ [32, 8, 7, 10, 33, 11, 12, 13, 5, 14, 9, 15, 34, 27, 35, 36, 37, 2, 3, 4, 6, 16, 17, 18, 63, 64, 65, 66, 67, 68] (by decide +kernel) (by decide +kernel)
set_option maxRecDepth 20000 in
theorem gX4_readSeen_X4_takeNumber : GoodIn wsX4_readSeen (wsV RX4 115 RX4 yX4_takeNumber wsX4_takeNumber) := goodIn_app (goodIn_of _ (by decide +kernel)) ggX4_readSeen_X4_takeNumber
set_option maxRecDepth 20000 in
theorem ggX4_readSeen_X4_readSightSeen : GoodIn wsX4_readSeen wsX4_readSightSeen := goodIn_r _ [41, 42, 29, 30, 31, 5, 32, 8, 7, 10, 33, 11, 12, 13, 14, 9, 15, 34, 27, 35, 36, 37, 2, 3, 4, 6, 16, 17, 18, 43, 44, 45, 22, 46, 47, 48, 26, 28, 49, 50, 51, 52, 53, 54, 55, 56, 57, 58, 59, 60, 61, 62, 63, 64, 65, 66, 67, 68] (by decide +kernel) (by decide +kernel)
set_option maxRecDepth 20000 in
theorem gX4_readSeen_X4_readSightSeen : GoodIn wsX4_readSeen (wsV RX4 123 RX4 yX4_readSightSeen wsX4_readSightSeen) := goodIn_app (goodIn_of _ (by decide +kernel)) ggX4_readSeen_X4_readSightSeen
theorem dX4_readSeen_0 : decode cX4_readSeen 0 = .ok (.aload_n 0, 1) := by decide +kernel
theorem dX4_readSeen_1 : decode cX4_readSeen 1 = .ok (.invokevirtual 31, 3) := by decide +kernel
theorem dX4_readSeen_4 : decode cX4_readSeen 4 = .ok (.aload_n 0, 1) := by decide +kernel
theorem dX4_readSeen_5 : decode cX4_readSeen 5 = .ok (.iconst 0, 1) := by decide +kernel
theorem dX4_readSeen_6 : decode cX4_readSeen 6 = .ok (.aload_n 1, 1) := by decide +kernel
theorem dX4_readSeen_7 : decode cX4_readSeen 7 = .ok (.getfield 130, 3) := by decide +kernel
theorem dX4_readSeen_10 : decode cX4_readSeen 10 = .ok (.iconst 1, 1) := by decide +kernel
theorem dX4_readSeen_11 : decode cX4_readSeen 11 = .ok (.isub, 1) := by decide +kernel
theorem dX4_readSeen_12 : decode cX4_readSeen 12 = .ok (.aload_n 1, 1) := by decide +kernel
theorem dX4_readSeen_13 : decode cX4_readSeen 13 = .ok (.invokevirtual 133, 3) := by decide +kernel
theorem dX4_readSeen_16 : decode cX4_readSeen 16 = .ok (.invokevirtual 115, 3) := by decide +kernel
theorem dX4_readSeen_19 : decode cX4_readSeen 19 = .ok (.istore_n 3, 1) := by decide +kernel
theorem dX4_readSeen_20 : decode cX4_readSeen 20 = .ok (.iload_n 3, 1) := by decide +kernel
theorem dX4_readSeen_21 : decode cX4_readSeen 21 = .ok (.iconst (-1), 1) := by decide +kernel
theorem dX4_readSeen_22 : decode cX4_readSeen 22 = .ok (.if_icmp .eq 17, 3) := by decide +kernel
theorem dX4_readSeen_25 : decode cX4_readSeen 25 = .ok (.aload_n 0, 1) := by decide +kernel
theorem dX4_readSeen_26 : decode cX4_readSeen 26 = .ok (.aload_n 1, 1) := by decide +kernel
theorem dX4_readSeen_27 : decode cX4_readSeen 27 = .ok (.iload_n 3, 1) := by decide +kernel
theorem dX4_readSeen_28 : decode cX4_readSeen 28 = .ok (.iload_n 2, 1) := by decide +kernel
theorem dX4_readSeen_29 : decode cX4_readSeen 29 = .ok (.invokevirtual 123, 3) := by decide +kernel
theorem dX4_readSeen_32 : decode cX4_readSeen 32 = .ok (.ifCond .eq 7, 3) := by decide +kernel
theorem dX4_readSeen_35 : decode cX4_readSeen 35 = .ok (.iconst 1, 1) := by decide +kernel
theorem dX4_readSeen_36 : decode cX4_readSeen 36 = .ok (.goto 4, 3) := by decide +kernel
theorem dX4_readSeen_39 : decode cX4_readSeen 39 = .ok (.iconst 0, 1) := by decide +kernel
theorem dX4_readSeen_40 : decode cX4_readSeen 40 = .ok (.ireturn, 1) := by decide +kernel
set_option maxRecDepth 20000 in
theorem ggX4_readHeard_X4_advance : GoodIn wsX4_readHeard wsX4_advance := goodIn_r _ [6, 7, 8, 9, 10, 11, 12, 13, 5, 14, 15, 16, 17, 18, 56, 57, 58, 59, 60, 61] (by decide +kernel) (by decide +kernel)
set_option maxRecDepth 20000 in
theorem gX4_readHeard_X4_advance : GoodIn wsX4_readHeard (wsV RX4 31 RX4 yX4_advance wsX4_advance) := goodIn_app (goodIn_of _ (by decide +kernel)) ggX4_readHeard_X4_advance
set_option maxRecDepth 20000 in
theorem ggX4_readHeard_X4_takeNumber : GoodIn wsX4_readHeard wsX4_takeNumber := goodIn_r _ [22, 8, 7, 10, 23, 11, 12, 13, 5, 14, 9, 15, 24, 25, 26, 27, 28, 2, 3, 4, 6, 16, 17, 18, 56, 57, 58, 59, 60, 61] (by decide +kernel) (by decide +kernel)
set_option maxRecDepth 20000 in
theorem gX4_readHeard_X4_takeNumber : GoodIn wsX4_readHeard (wsV RX4 115 RX4 yX4_takeNumber wsX4_takeNumber) := goodIn_app (goodIn_of _ (by decide +kernel)) ggX4_readHeard_X4_takeNumber
set_option maxRecDepth 20000 in
theorem ggX4_readHeard_X4_readSightHeard : GoodIn wsX4_readHeard wsX4_readSightHeard := goodIn_r _ [32, 33, 19, 20, 21, 5, 22, 8, 7, 10, 23, 11, 12, 13, 14, 9, 15, 24, 25, 26, 27, 28, 2, 3, 4, 6, 16, 17, 18, 34, 35, 36, 37, 38, 39, 40, 41, 42, 43, 44, 45, 46, 47, 48, 49, 50, 51, 52, 53, 54, 55, 56, 57, 58, 59, 60, 61] (by decide +kernel) (by decide +kernel)
set_option maxRecDepth 20000 in
theorem gX4_readHeard_X4_readSightHeard : GoodIn wsX4_readHeard (wsV RX4 127 RX4 yX4_readSightHeard wsX4_readSightHeard) := goodIn_app (goodIn_of _ (by decide +kernel)) ggX4_readHeard_X4_readSightHeard
theorem dX4_readHeard_0 : decode cX4_readHeard 0 = .ok (.aload_n 0, 1) := by decide +kernel
theorem dX4_readHeard_1 : decode cX4_readHeard 1 = .ok (.invokevirtual 31, 3) := by decide +kernel
theorem dX4_readHeard_4 : decode cX4_readHeard 4 = .ok (.aload_n 0, 1) := by decide +kernel
theorem dX4_readHeard_5 : decode cX4_readHeard 5 = .ok (.iconst 0, 1) := by decide +kernel
theorem dX4_readHeard_6 : decode cX4_readHeard 6 = .ok (.aload_n 1, 1) := by decide +kernel
theorem dX4_readHeard_7 : decode cX4_readHeard 7 = .ok (.getfield 130, 3) := by decide +kernel
theorem dX4_readHeard_10 : decode cX4_readHeard 10 = .ok (.iconst 1, 1) := by decide +kernel
theorem dX4_readHeard_11 : decode cX4_readHeard 11 = .ok (.isub, 1) := by decide +kernel
theorem dX4_readHeard_12 : decode cX4_readHeard 12 = .ok (.iconst 0, 1) := by decide +kernel
theorem dX4_readHeard_13 : decode cX4_readHeard 13 = .ok (.invokevirtual 115, 3) := by decide +kernel
theorem dX4_readHeard_16 : decode cX4_readHeard 16 = .ok (.istore_n 2, 1) := by decide +kernel
theorem dX4_readHeard_17 : decode cX4_readHeard 17 = .ok (.iload_n 2, 1) := by decide +kernel
theorem dX4_readHeard_18 : decode cX4_readHeard 18 = .ok (.iconst (-1), 1) := by decide +kernel
theorem dX4_readHeard_19 : decode cX4_readHeard 19 = .ok (.if_icmp .eq 16, 3) := by decide +kernel
theorem dX4_readHeard_22 : decode cX4_readHeard 22 = .ok (.aload_n 0, 1) := by decide +kernel
theorem dX4_readHeard_23 : decode cX4_readHeard 23 = .ok (.aload_n 1, 1) := by decide +kernel
theorem dX4_readHeard_24 : decode cX4_readHeard 24 = .ok (.iload_n 2, 1) := by decide +kernel
theorem dX4_readHeard_25 : decode cX4_readHeard 25 = .ok (.invokevirtual 127, 3) := by decide +kernel
theorem dX4_readHeard_28 : decode cX4_readHeard 28 = .ok (.ifCond .eq 7, 3) := by decide +kernel
theorem dX4_readHeard_31 : decode cX4_readHeard 31 = .ok (.iconst 1, 1) := by decide +kernel
theorem dX4_readHeard_32 : decode cX4_readHeard 32 = .ok (.goto 4, 3) := by decide +kernel
theorem dX4_readHeard_35 : decode cX4_readHeard 35 = .ok (.iconst 0, 1) := by decide +kernel
theorem dX4_readHeard_36 : decode cX4_readHeard 36 = .ok (.ireturn, 1) := by decide +kernel
set_option maxRecDepth 20000 in
theorem ggX4_readSightSeen_X4_takeNumber : GoodIn wsX4_readSightSeen wsX4_takeNumber := goodIn_r _ [6, 7, 8, 9, 10, 11, 12, 13, 5, 14, 15, 16, 17, 18, 19, 20, 21, 22, 23, 24, 25, 26, 27, 28, 52, 53, 54, 55, 56, 57] (by decide +kernel) (by decide +kernel)
set_option maxRecDepth 20000 in
theorem gX4_readSightSeen_X4_takeNumber : GoodIn wsX4_readSightSeen (wsV RX4 115 RX4 yX4_takeNumber wsX4_takeNumber) := goodIn_app (goodIn_of _ (by decide +kernel)) ggX4_readSightSeen_X4_takeNumber
set_option maxRecDepth 20000 in
theorem ggX4_readSightSeen_X5_putSeen : GoodIn wsX4_readSightSeen wsX5_putSeen := goodIn_r _ [33, 34, 35, 36, 18, 37, 38, 39, 40, 41, 42, 43, 44, 45, 46, 47, 48, 49, 50, 51] (by decide +kernel) (by decide +kernel)
set_option maxRecDepth 20000 in
theorem gX4_readSightSeen_X5_putSeen : GoodIn wsX4_readSightSeen (wsV RX4 136 RX5 yX5_putSeen wsX5_putSeen) := goodIn_app (goodIn_of _ (by decide +kernel)) ggX4_readSightSeen_X5_putSeen
theorem dX4_readSightSeen_0 : decode cX4_readSightSeen 0 = .ok (.aload_n 0, 1) := by decide +kernel
theorem dX4_readSightSeen_1 : decode cX4_readSightSeen 1 = .ok (.iconst 0, 1) := by decide +kernel
theorem dX4_readSightSeen_2 : decode cX4_readSightSeen 2 = .ok (.aload_n 1, 1) := by decide +kernel
theorem dX4_readSightSeen_3 : decode cX4_readSightSeen 3 = .ok (.getfield 113, 3) := by decide +kernel
theorem dX4_readSightSeen_6 : decode cX4_readSightSeen 6 = .ok (.iconst 1, 1) := by decide +kernel
theorem dX4_readSightSeen_7 : decode cX4_readSightSeen 7 = .ok (.isub, 1) := by decide +kernel
theorem dX4_readSightSeen_8 : decode cX4_readSightSeen 8 = .ok (.iconst 0, 1) := by decide +kernel
theorem dX4_readSightSeen_9 : decode cX4_readSightSeen 9 = .ok (.invokevirtual 115, 3) := by decide +kernel
theorem dX4_readSightSeen_12 : decode cX4_readSightSeen 12 = .ok (.istore 4, 2) := by decide +kernel
theorem dX4_readSightSeen_14 : decode cX4_readSightSeen 14 = .ok (.iload 4, 2) := by decide +kernel
theorem dX4_readSightSeen_16 : decode cX4_readSightSeen 16 = .ok (.iconst (-1), 1) := by decide +kernel
theorem dX4_readSightSeen_17 : decode cX4_readSightSeen 17 = .ok (.if_icmp .ne 5, 3) := by decide +kernel
theorem dX4_readSightSeen_20 : decode cX4_readSightSeen 20 = .ok (.iconst 0, 1) := by decide +kernel
theorem dX4_readSightSeen_21 : decode cX4_readSightSeen 21 = .ok (.ireturn, 1) := by decide +kernel
theorem dX4_readSightSeen_22 : decode cX4_readSightSeen 22 = .ok (.aload_n 1, 1) := by decide +kernel
theorem dX4_readSightSeen_23 : decode cX4_readSightSeen 23 = .ok (.iload_n 2, 1) := by decide +kernel
theorem dX4_readSightSeen_24 : decode cX4_readSightSeen 24 = .ok (.iload 4, 2) := by decide +kernel
theorem dX4_readSightSeen_26 : decode cX4_readSightSeen 26 = .ok (.iload_n 3, 1) := by decide +kernel
theorem dX4_readSightSeen_27 : decode cX4_readSightSeen 27 = .ok (.invokevirtual 136, 3) := by decide +kernel
theorem dX4_readSightSeen_30 : decode cX4_readSightSeen 30 = .ok (.iconst 1, 1) := by decide +kernel
theorem dX4_readSightSeen_31 : decode cX4_readSightSeen 31 = .ok (.ireturn, 1) := by decide +kernel
set_option maxRecDepth 20000 in
theorem ggX4_readSightHeard_X4_takeNumber : GoodIn wsX4_readSightHeard wsX4_takeNumber := goodIn_r _ [6, 7, 8, 9, 10, 11, 12, 13, 5, 14, 15, 16, 17, 18, 19, 20, 21, 22, 23, 24, 25, 26, 27, 28, 51, 52, 53, 54, 55, 56] (by decide +kernel) (by decide +kernel)
set_option maxRecDepth 20000 in
theorem gX4_readSightHeard_X4_takeNumber : GoodIn wsX4_readSightHeard (wsV RX4 115 RX4 yX4_takeNumber wsX4_takeNumber) := goodIn_app (goodIn_of _ (by decide +kernel)) ggX4_readSightHeard_X4_takeNumber
set_option maxRecDepth 20000 in
theorem ggX4_readSightHeard_X5_putHeard : GoodIn wsX4_readSightHeard wsX5_putHeard := goodIn_r _ [33, 34, 35, 18, 36, 37, 38, 39, 40, 41, 42, 43, 44, 45, 46, 47, 48, 49, 50] (by decide +kernel) (by decide +kernel)
set_option maxRecDepth 20000 in
theorem gX4_readSightHeard_X5_putHeard : GoodIn wsX4_readSightHeard (wsV RX4 140 RX5 yX5_putHeard wsX5_putHeard) := goodIn_app (goodIn_of _ (by decide +kernel)) ggX4_readSightHeard_X5_putHeard
theorem dX4_readSightHeard_0 : decode cX4_readSightHeard 0 = .ok (.aload_n 0, 1) := by decide +kernel
theorem dX4_readSightHeard_1 : decode cX4_readSightHeard 1 = .ok (.iconst 0, 1) := by decide +kernel
theorem dX4_readSightHeard_2 : decode cX4_readSightHeard 2 = .ok (.aload_n 1, 1) := by decide +kernel
theorem dX4_readSightHeard_3 : decode cX4_readSightHeard 3 = .ok (.getfield 113, 3) := by decide +kernel
theorem dX4_readSightHeard_6 : decode cX4_readSightHeard 6 = .ok (.iconst 1, 1) := by decide +kernel
theorem dX4_readSightHeard_7 : decode cX4_readSightHeard 7 = .ok (.isub, 1) := by decide +kernel
theorem dX4_readSightHeard_8 : decode cX4_readSightHeard 8 = .ok (.iconst 0, 1) := by decide +kernel
theorem dX4_readSightHeard_9 : decode cX4_readSightHeard 9 = .ok (.invokevirtual 115, 3) := by decide +kernel
theorem dX4_readSightHeard_12 : decode cX4_readSightHeard 12 = .ok (.istore_n 3, 1) := by decide +kernel
theorem dX4_readSightHeard_13 : decode cX4_readSightHeard 13 = .ok (.iload_n 3, 1) := by decide +kernel
theorem dX4_readSightHeard_14 : decode cX4_readSightHeard 14 = .ok (.iconst (-1), 1) := by decide +kernel
theorem dX4_readSightHeard_15 : decode cX4_readSightHeard 15 = .ok (.if_icmp .ne 5, 3) := by decide +kernel
theorem dX4_readSightHeard_18 : decode cX4_readSightHeard 18 = .ok (.iconst 0, 1) := by decide +kernel
theorem dX4_readSightHeard_19 : decode cX4_readSightHeard 19 = .ok (.ireturn, 1) := by decide +kernel
theorem dX4_readSightHeard_20 : decode cX4_readSightHeard 20 = .ok (.aload_n 1, 1) := by decide +kernel
theorem dX4_readSightHeard_21 : decode cX4_readSightHeard 21 = .ok (.iload_n 2, 1) := by decide +kernel
theorem dX4_readSightHeard_22 : decode cX4_readSightHeard 22 = .ok (.iload_n 3, 1) := by decide +kernel
theorem dX4_readSightHeard_23 : decode cX4_readSightHeard 23 = .ok (.iconst 1, 1) := by decide +kernel
theorem dX4_readSightHeard_24 : decode cX4_readSightHeard 24 = .ok (.invokevirtual 140, 3) := by decide +kernel
theorem dX4_readSightHeard_27 : decode cX4_readSightHeard 27 = .ok (.iconst 1, 1) := by decide +kernel
theorem dX4_readSightHeard_28 : decode cX4_readSightHeard 28 = .ok (.ireturn, 1) := by decide +kernel
set_option maxRecDepth 20000 in
theorem ggX4_readHears_X4_advance : GoodIn wsX4_readHears wsX4_advance := goodIn_r _ [6, 7, 8, 9, 10, 11, 12, 13, 5, 14, 15, 16, 17, 18, 51, 52, 53, 54, 55, 56] (by decide +kernel) (by decide +kernel)
set_option maxRecDepth 20000 in
theorem gX4_readHears_X4_advance : GoodIn wsX4_readHears (wsV RX4 31 RX4 yX4_advance wsX4_advance) := goodIn_app (goodIn_of _ (by decide +kernel)) ggX4_readHears_X4_advance
set_option maxRecDepth 20000 in
theorem ggX4_readHears_X4_takeNumber : GoodIn wsX4_readHears wsX4_takeNumber := goodIn_r _ [22, 8, 7, 10, 23, 11, 12, 13, 5, 14, 9, 15, 24, 25, 26, 27, 28, 2, 3, 4, 6, 16, 17, 18, 51, 52, 53, 54, 55, 56] (by decide +kernel) (by decide +kernel)
set_option maxRecDepth 20000 in
theorem gX4_readHears_X4_takeNumber : GoodIn wsX4_readHears (wsV RX4 115 RX4 yX4_takeNumber wsX4_takeNumber) := goodIn_app (goodIn_of _ (by decide +kernel)) ggX4_readHears_X4_takeNumber
set_option maxRecDepth 20000 in
theorem ggX4_readHears_X5_putHears : GoodIn wsX4_readHears wsX5_putHears := goodIn_r _ [33, 34, 35, 25, 36, 37, 38, 39, 40, 41, 42, 43, 44, 45, 46, 47, 48, 49, 50] (by decide +kernel) (by decide +kernel)
set_option maxRecDepth 20000 in
theorem gX4_readHears_X5_putHears : GoodIn wsX4_readHears (wsV RX4 144 RX5 yX5_putHears wsX5_putHears) := goodIn_app (goodIn_of _ (by decide +kernel)) ggX4_readHears_X5_putHears
theorem dX4_readHears_0 : decode cX4_readHears 0 = .ok (.aload_n 0, 1) := by decide +kernel
theorem dX4_readHears_1 : decode cX4_readHears 1 = .ok (.invokevirtual 31, 3) := by decide +kernel
theorem dX4_readHears_4 : decode cX4_readHears 4 = .ok (.aload_n 0, 1) := by decide +kernel
theorem dX4_readHears_5 : decode cX4_readHears 5 = .ok (.iconst 0, 1) := by decide +kernel
theorem dX4_readHears_6 : decode cX4_readHears 6 = .ok (.aload_n 1, 1) := by decide +kernel
theorem dX4_readHears_7 : decode cX4_readHears 7 = .ok (.getfield 130, 3) := by decide +kernel
theorem dX4_readHears_10 : decode cX4_readHears 10 = .ok (.iconst 1, 1) := by decide +kernel
theorem dX4_readHears_11 : decode cX4_readHears 11 = .ok (.isub, 1) := by decide +kernel
theorem dX4_readHears_12 : decode cX4_readHears 12 = .ok (.iconst 0, 1) := by decide +kernel
theorem dX4_readHears_13 : decode cX4_readHears 13 = .ok (.invokevirtual 115, 3) := by decide +kernel
theorem dX4_readHears_16 : decode cX4_readHears 16 = .ok (.istore_n 2, 1) := by decide +kernel
theorem dX4_readHears_17 : decode cX4_readHears 17 = .ok (.iload_n 2, 1) := by decide +kernel
theorem dX4_readHears_18 : decode cX4_readHears 18 = .ok (.iconst (-1), 1) := by decide +kernel
theorem dX4_readHears_19 : decode cX4_readHears 19 = .ok (.if_icmp .ne 5, 3) := by decide +kernel
theorem dX4_readHears_22 : decode cX4_readHears 22 = .ok (.iconst 0, 1) := by decide +kernel
theorem dX4_readHears_23 : decode cX4_readHears 23 = .ok (.ireturn, 1) := by decide +kernel
theorem dX4_readHears_24 : decode cX4_readHears 24 = .ok (.aload_n 0, 1) := by decide +kernel
theorem dX4_readHears_25 : decode cX4_readHears 25 = .ok (.iconst 0, 1) := by decide +kernel
theorem dX4_readHears_26 : decode cX4_readHears 26 = .ok (.aload_n 1, 1) := by decide +kernel
theorem dX4_readHears_27 : decode cX4_readHears 27 = .ok (.getfield 130, 3) := by decide +kernel
theorem dX4_readHears_30 : decode cX4_readHears 30 = .ok (.iconst 1, 1) := by decide +kernel
theorem dX4_readHears_31 : decode cX4_readHears 31 = .ok (.isub, 1) := by decide +kernel
theorem dX4_readHears_32 : decode cX4_readHears 32 = .ok (.iconst 1, 1) := by decide +kernel
theorem dX4_readHears_33 : decode cX4_readHears 33 = .ok (.iload_n 2, 1) := by decide +kernel
theorem dX4_readHears_34 : decode cX4_readHears 34 = .ok (.ishl, 1) := by decide +kernel
theorem dX4_readHears_35 : decode cX4_readHears 35 = .ok (.invokevirtual 115, 3) := by decide +kernel
theorem dX4_readHears_38 : decode cX4_readHears 38 = .ok (.istore_n 3, 1) := by decide +kernel
theorem dX4_readHears_39 : decode cX4_readHears 39 = .ok (.iload_n 3, 1) := by decide +kernel
theorem dX4_readHears_40 : decode cX4_readHears 40 = .ok (.iconst (-1), 1) := by decide +kernel
theorem dX4_readHears_41 : decode cX4_readHears 41 = .ok (.if_icmp .ne 5, 3) := by decide +kernel
theorem dX4_readHears_44 : decode cX4_readHears 44 = .ok (.iconst 0, 1) := by decide +kernel
theorem dX4_readHears_45 : decode cX4_readHears 45 = .ok (.ireturn, 1) := by decide +kernel
theorem dX4_readHears_46 : decode cX4_readHears 46 = .ok (.aload_n 1, 1) := by decide +kernel
theorem dX4_readHears_47 : decode cX4_readHears 47 = .ok (.iload_n 2, 1) := by decide +kernel
theorem dX4_readHears_48 : decode cX4_readHears 48 = .ok (.iload_n 3, 1) := by decide +kernel
theorem dX4_readHears_49 : decode cX4_readHears 49 = .ok (.iconst 1, 1) := by decide +kernel
theorem dX4_readHears_50 : decode cX4_readHears 50 = .ok (.invokevirtual 144, 3) := by decide +kernel
theorem dX4_readHears_53 : decode cX4_readHears 53 = .ok (.iconst 1, 1) := by decide +kernel
theorem dX4_readHears_54 : decode cX4_readHears 54 = .ok (.ireturn, 1) := by decide +kernel
set_option maxRecDepth 20000 in
theorem ggX4_readSetting_X4_advance : GoodIn wsX4_readSetting wsX4_advance := goodIn_r _ [5, 6, 7, 8, 9, 10, 11, 12, 4, 13, 14, 15, 16, 17, 39, 40, 41, 42, 43, 44] (by decide +kernel) (by decide +kernel)
set_option maxRecDepth 20000 in
theorem gX4_readSetting_X4_advance : GoodIn wsX4_readSetting (wsV RX4 31 RX4 yX4_advance wsX4_advance) := goodIn_app (goodIn_of _ (by decide +kernel)) ggX4_readSetting_X4_advance
set_option maxRecDepth 20000 in
theorem ggX4_readSetting_X5_mostOf : GoodIn wsX4_readSetting wsX5_mostOf := goodIn_r _ [21] (by decide +kernel) (by decide +kernel)
set_option maxRecDepth 20000 in
theorem gX4_readSetting_X5_mostOf : GoodIn wsX4_readSetting (va_wsS RX4 147 yX5_mostOf wsX5_mostOf) := goodIn_app (goodIn_of _ (by decide +kernel)) ggX4_readSetting_X5_mostOf
set_option maxRecDepth 20000 in
theorem ggX4_readSetting_X4_takeNumber : GoodIn wsX4_readSetting wsX4_takeNumber := goodIn_r _ [25, 7, 6, 9, 26, 10, 11, 12, 4, 13, 8, 14, 27, 28, 29, 30, 31, 1, 2, 3, 5, 15, 16, 17, 39, 40, 41, 42, 43, 44] (by decide +kernel) (by decide +kernel)
set_option maxRecDepth 20000 in
theorem gX4_readSetting_X4_takeNumber : GoodIn wsX4_readSetting (wsV RX4 115 RX4 yX4_takeNumber wsX4_takeNumber) := goodIn_app (goodIn_of _ (by decide +kernel)) ggX4_readSetting_X4_takeNumber
set_option maxRecDepth 20000 in
theorem ggX4_readSetting_X5_putSetting : GoodIn wsX4_readSetting wsX5_putSetting := goodIn_r _ [35, 36, 37, 38, 45, 46, 47, 48, 49, 50, 51, 52, 53, 54, 55, 56, 57, 58] (by decide +kernel) (by decide +kernel)
set_option maxRecDepth 20000 in
theorem gX4_readSetting_X5_putSetting : GoodIn wsX4_readSetting (wsV RX4 150 RX5 yX5_putSetting wsX5_putSetting) := goodIn_app (goodIn_of _ (by decide +kernel)) ggX4_readSetting_X5_putSetting
theorem dX4_readSetting_0 : decode cX4_readSetting 0 = .ok (.aload_n 0, 1) := by decide +kernel
theorem dX4_readSetting_1 : decode cX4_readSetting 1 = .ok (.invokevirtual 31, 3) := by decide +kernel
theorem dX4_readSetting_4 : decode cX4_readSetting 4 = .ok (.aload_n 0, 1) := by decide +kernel
theorem dX4_readSetting_5 : decode cX4_readSetting 5 = .ok (.iconst 0, 1) := by decide +kernel
theorem dX4_readSetting_6 : decode cX4_readSetting 6 = .ok (.iload_n 2, 1) := by decide +kernel
theorem dX4_readSetting_7 : decode cX4_readSetting 7 = .ok (.invokestatic 147, 3) := by decide +kernel
theorem dX4_readSetting_10 : decode cX4_readSetting 10 = .ok (.iconst 0, 1) := by decide +kernel
theorem dX4_readSetting_11 : decode cX4_readSetting 11 = .ok (.invokevirtual 115, 3) := by decide +kernel
theorem dX4_readSetting_14 : decode cX4_readSetting 14 = .ok (.istore_n 3, 1) := by decide +kernel
theorem dX4_readSetting_15 : decode cX4_readSetting 15 = .ok (.iload_n 3, 1) := by decide +kernel
theorem dX4_readSetting_16 : decode cX4_readSetting 16 = .ok (.iconst (-1), 1) := by decide +kernel
theorem dX4_readSetting_17 : decode cX4_readSetting 17 = .ok (.if_icmp .ne 5, 3) := by decide +kernel
theorem dX4_readSetting_20 : decode cX4_readSetting 20 = .ok (.iconst 0, 1) := by decide +kernel
theorem dX4_readSetting_21 : decode cX4_readSetting 21 = .ok (.ireturn, 1) := by decide +kernel
theorem dX4_readSetting_22 : decode cX4_readSetting 22 = .ok (.aload_n 1, 1) := by decide +kernel
theorem dX4_readSetting_23 : decode cX4_readSetting 23 = .ok (.iload_n 2, 1) := by decide +kernel
theorem dX4_readSetting_24 : decode cX4_readSetting 24 = .ok (.iload_n 3, 1) := by decide +kernel
theorem dX4_readSetting_25 : decode cX4_readSetting 25 = .ok (.invokevirtual 150, 3) := by decide +kernel
theorem dX4_readSetting_28 : decode cX4_readSetting 28 = .ok (.iconst 1, 1) := by decide +kernel
theorem dX4_readSetting_29 : decode cX4_readSetting 29 = .ok (.ireturn, 1) := by decide +kernel
theorem dX5_init_0 : decode cX5_init 0 = .ok (.aload_n 0, 1) := by decide +kernel
theorem dX5_init_1 : decode cX5_init 1 = .ok (.invokespecial 3, 3) := by decide +kernel
theorem dX5_init_4 : decode cX5_init 4 = .ok (.aload_n 0, 1) := by decide +kernel
theorem dX5_init_5 : decode cX5_init 5 = .ok (.iconst 4, 1) := by decide +kernel
theorem dX5_init_6 : decode cX5_init 6 = .ok (.putfield 9, 3) := by decide +kernel
theorem dX5_init_9 : decode cX5_init 9 = .ok (.aload_n 0, 1) := by decide +kernel
theorem dX5_init_10 : decode cX5_init 10 = .ok (.iconst 0, 1) := by decide +kernel
theorem dX5_init_11 : decode cX5_init 11 = .ok (.putfield 15, 3) := by decide +kernel
theorem dX5_init_14 : decode cX5_init 14 = .ok (.aload_n 0, 1) := by decide +kernel
theorem dX5_init_15 : decode cX5_init 15 = .ok (.iconst 0, 1) := by decide +kernel
theorem dX5_init_16 : decode cX5_init 16 = .ok (.putfield 18, 3) := by decide +kernel
theorem dX5_init_19 : decode cX5_init 19 = .ok (.aload_n 0, 1) := by decide +kernel
theorem dX5_init_20 : decode cX5_init 20 = .ok (.iconst 0, 1) := by decide +kernel
theorem dX5_init_21 : decode cX5_init 21 = .ok (.putfield 21, 3) := by decide +kernel
theorem dX5_init_24 : decode cX5_init 24 = .ok (.aload_n 0, 1) := by decide +kernel
theorem dX5_init_25 : decode cX5_init 25 = .ok (.iconst 0, 1) := by decide +kernel
theorem dX5_init_26 : decode cX5_init 26 = .ok (.putfield 24, 3) := by decide +kernel
theorem dX5_init_29 : decode cX5_init 29 = .ok (.aload_n 0, 1) := by decide +kernel
theorem dX5_init_30 : decode cX5_init 30 = .ok (.iconst 0, 1) := by decide +kernel
theorem dX5_init_31 : decode cX5_init 31 = .ok (.putfield 27, 3) := by decide +kernel
theorem dX5_init_34 : decode cX5_init 34 = .ok (.aload_n 0, 1) := by decide +kernel
theorem dX5_init_35 : decode cX5_init 35 = .ok (.iconst 1, 1) := by decide +kernel
theorem dX5_init_36 : decode cX5_init 36 = .ok (.putfield 30, 3) := by decide +kernel
theorem dX5_init_39 : decode cX5_init 39 = .ok (.aload_n 0, 1) := by decide +kernel
theorem dX5_init_40 : decode cX5_init 40 = .ok (.bipush 7, 2) := by decide +kernel
theorem dX5_init_42 : decode cX5_init 42 = .ok (.newarray .int, 2) := by decide +kernel
theorem dX5_init_44 : decode cX5_init 44 = .ok (.putfield 33, 3) := by decide +kernel
theorem dX5_init_47 : decode cX5_init 47 = .ok (.aload_n 0, 1) := by decide +kernel
theorem dX5_init_48 : decode cX5_init 48 = .ok (.bipush 7, 2) := by decide +kernel
theorem dX5_init_50 : decode cX5_init 50 = .ok (.newarray .int, 2) := by decide +kernel
theorem dX5_init_52 : decode cX5_init 52 = .ok (.putfield 37, 3) := by decide +kernel
theorem dX5_init_55 : decode cX5_init 55 = .ok (.aload_n 0, 1) := by decide +kernel
theorem dX5_init_56 : decode cX5_init 56 = .ok (.bipush 7, 2) := by decide +kernel
theorem dX5_init_58 : decode cX5_init 58 = .ok (.newarray .int, 2) := by decide +kernel
theorem dX5_init_60 : decode cX5_init 60 = .ok (.putfield 40, 3) := by decide +kernel
theorem dX5_init_63 : decode cX5_init 63 = .ok (.aload_n 0, 1) := by decide +kernel
theorem dX5_init_64 : decode cX5_init 64 = .ok (.bipush 7, 2) := by decide +kernel
theorem dX5_init_66 : decode cX5_init 66 = .ok (.newarray .int, 2) := by decide +kernel
theorem dX5_init_68 : decode cX5_init 68 = .ok (.putfield 43, 3) := by decide +kernel
theorem dX5_init_71 : decode cX5_init 71 = .ok (.aload_n 0, 1) := by decide +kernel
theorem dX5_init_72 : decode cX5_init 72 = .ok (.bipush 7, 2) := by decide +kernel
theorem dX5_init_74 : decode cX5_init 74 = .ok (.newarray .int, 2) := by decide +kernel
theorem dX5_init_76 : decode cX5_init 76 = .ok (.putfield 46, 3) := by decide +kernel
theorem dX5_init_79 : decode cX5_init 79 = .ok (.aload_n 0, 1) := by decide +kernel
theorem dX5_init_80 : decode cX5_init 80 = .ok (.bipush 7, 2) := by decide +kernel
theorem dX5_init_82 : decode cX5_init 82 = .ok (.newarray .int, 2) := by decide +kernel
theorem dX5_init_84 : decode cX5_init 84 = .ok (.putfield 49, 3) := by decide +kernel
theorem dX5_init_87 : decode cX5_init 87 = .ok (.aload_n 0, 1) := by decide +kernel
theorem dX5_init_88 : decode cX5_init 88 = .ok (.bipush 7, 2) := by decide +kernel
theorem dX5_init_90 : decode cX5_init 90 = .ok (.newarray .int, 2) := by decide +kernel
theorem dX5_init_92 : decode cX5_init 92 = .ok (.putfield 52, 3) := by decide +kernel
theorem dX5_init_95 : decode cX5_init 95 = .ok (.return_, 1) := by decide +kernel
theorem dX5_become_0 : decode cX5_become 0 = .ok (.aload_n 0, 1) := by decide +kernel
theorem dX5_become_1 : decode cX5_become 1 = .ok (.aload_n 1, 1) := by decide +kernel
theorem dX5_become_2 : decode cX5_become 2 = .ok (.getfield 9, 3) := by decide +kernel
theorem dX5_become_5 : decode cX5_become 5 = .ok (.putfield 9, 3) := by decide +kernel
theorem dX5_become_8 : decode cX5_become 8 = .ok (.aload_n 0, 1) := by decide +kernel
theorem dX5_become_9 : decode cX5_become 9 = .ok (.aload_n 1, 1) := by decide +kernel
theorem dX5_become_10 : decode cX5_become 10 = .ok (.getfield 15, 3) := by decide +kernel
theorem dX5_become_13 : decode cX5_become 13 = .ok (.putfield 15, 3) := by decide +kernel
theorem dX5_become_16 : decode cX5_become 16 = .ok (.aload_n 0, 1) := by decide +kernel
theorem dX5_become_17 : decode cX5_become 17 = .ok (.aload_n 1, 1) := by decide +kernel
theorem dX5_become_18 : decode cX5_become 18 = .ok (.getfield 18, 3) := by decide +kernel
theorem dX5_become_21 : decode cX5_become 21 = .ok (.putfield 18, 3) := by decide +kernel
theorem dX5_become_24 : decode cX5_become 24 = .ok (.aload_n 0, 1) := by decide +kernel
theorem dX5_become_25 : decode cX5_become 25 = .ok (.aload_n 1, 1) := by decide +kernel
theorem dX5_become_26 : decode cX5_become 26 = .ok (.getfield 21, 3) := by decide +kernel
theorem dX5_become_29 : decode cX5_become 29 = .ok (.putfield 21, 3) := by decide +kernel
theorem dX5_become_32 : decode cX5_become 32 = .ok (.aload_n 0, 1) := by decide +kernel
theorem dX5_become_33 : decode cX5_become 33 = .ok (.aload_n 1, 1) := by decide +kernel
theorem dX5_become_34 : decode cX5_become 34 = .ok (.getfield 24, 3) := by decide +kernel
theorem dX5_become_37 : decode cX5_become 37 = .ok (.putfield 24, 3) := by decide +kernel
theorem dX5_become_40 : decode cX5_become 40 = .ok (.aload_n 0, 1) := by decide +kernel
theorem dX5_become_41 : decode cX5_become 41 = .ok (.aload_n 1, 1) := by decide +kernel
theorem dX5_become_42 : decode cX5_become 42 = .ok (.getfield 27, 3) := by decide +kernel
theorem dX5_become_45 : decode cX5_become 45 = .ok (.putfield 27, 3) := by decide +kernel
theorem dX5_become_48 : decode cX5_become 48 = .ok (.aload_n 0, 1) := by decide +kernel
theorem dX5_become_49 : decode cX5_become 49 = .ok (.aload_n 1, 1) := by decide +kernel
theorem dX5_become_50 : decode cX5_become 50 = .ok (.getfield 30, 3) := by decide +kernel
theorem dX5_become_53 : decode cX5_become 53 = .ok (.putfield 30, 3) := by decide +kernel
theorem dX5_become_56 : decode cX5_become 56 = .ok (.aload_n 1, 1) := by decide +kernel
theorem dX5_become_57 : decode cX5_become 57 = .ok (.getfield 33, 3) := by decide +kernel
theorem dX5_become_60 : decode cX5_become 60 = .ok (.iconst 0, 1) := by decide +kernel
theorem dX5_become_61 : decode cX5_become 61 = .ok (.aload_n 0, 1) := by decide +kernel
theorem dX5_become_62 : decode cX5_become 62 = .ok (.getfield 33, 3) := by decide +kernel
theorem dX5_become_65 : decode cX5_become 65 = .ok (.iconst 0, 1) := by decide +kernel
theorem dX5_become_66 : decode cX5_become 66 = .ok (.bipush 7, 2) := by decide +kernel
theorem dX5_become_68 : decode cX5_become 68 = .ok (.invokestatic 55, 3) := by decide +kernel
theorem dX5_become_71 : decode cX5_become 71 = .ok (.aload_n 1, 1) := by decide +kernel
theorem dX5_become_72 : decode cX5_become 72 = .ok (.getfield 37, 3) := by decide +kernel
theorem dX5_become_75 : decode cX5_become 75 = .ok (.iconst 0, 1) := by decide +kernel
theorem dX5_become_76 : decode cX5_become 76 = .ok (.aload_n 0, 1) := by decide +kernel
theorem dX5_become_77 : decode cX5_become 77 = .ok (.getfield 37, 3) := by decide +kernel
theorem dX5_become_80 : decode cX5_become 80 = .ok (.iconst 0, 1) := by decide +kernel
theorem dX5_become_81 : decode cX5_become 81 = .ok (.bipush 7, 2) := by decide +kernel
theorem dX5_become_83 : decode cX5_become 83 = .ok (.invokestatic 55, 3) := by decide +kernel
theorem dX5_become_86 : decode cX5_become 86 = .ok (.aload_n 1, 1) := by decide +kernel
theorem dX5_become_87 : decode cX5_become 87 = .ok (.getfield 40, 3) := by decide +kernel
theorem dX5_become_90 : decode cX5_become 90 = .ok (.iconst 0, 1) := by decide +kernel
theorem dX5_become_91 : decode cX5_become 91 = .ok (.aload_n 0, 1) := by decide +kernel
theorem dX5_become_92 : decode cX5_become 92 = .ok (.getfield 40, 3) := by decide +kernel
theorem dX5_become_95 : decode cX5_become 95 = .ok (.iconst 0, 1) := by decide +kernel
theorem dX5_become_96 : decode cX5_become 96 = .ok (.bipush 7, 2) := by decide +kernel
theorem dX5_become_98 : decode cX5_become 98 = .ok (.invokestatic 55, 3) := by decide +kernel
theorem dX5_become_101 : decode cX5_become 101 = .ok (.aload_n 1, 1) := by decide +kernel
theorem dX5_become_102 : decode cX5_become 102 = .ok (.getfield 43, 3) := by decide +kernel
theorem dX5_become_105 : decode cX5_become 105 = .ok (.iconst 0, 1) := by decide +kernel
theorem dX5_become_106 : decode cX5_become 106 = .ok (.aload_n 0, 1) := by decide +kernel
theorem dX5_become_107 : decode cX5_become 107 = .ok (.getfield 43, 3) := by decide +kernel
theorem dX5_become_110 : decode cX5_become 110 = .ok (.iconst 0, 1) := by decide +kernel
theorem dX5_become_111 : decode cX5_become 111 = .ok (.bipush 7, 2) := by decide +kernel
theorem dX5_become_113 : decode cX5_become 113 = .ok (.invokestatic 55, 3) := by decide +kernel
theorem dX5_become_116 : decode cX5_become 116 = .ok (.aload_n 1, 1) := by decide +kernel
theorem dX5_become_117 : decode cX5_become 117 = .ok (.getfield 46, 3) := by decide +kernel
theorem dX5_become_120 : decode cX5_become 120 = .ok (.iconst 0, 1) := by decide +kernel
theorem dX5_become_121 : decode cX5_become 121 = .ok (.aload_n 0, 1) := by decide +kernel
theorem dX5_become_122 : decode cX5_become 122 = .ok (.getfield 46, 3) := by decide +kernel
theorem dX5_become_125 : decode cX5_become 125 = .ok (.iconst 0, 1) := by decide +kernel
theorem dX5_become_126 : decode cX5_become 126 = .ok (.bipush 7, 2) := by decide +kernel
theorem dX5_become_128 : decode cX5_become 128 = .ok (.invokestatic 55, 3) := by decide +kernel
theorem dX5_become_131 : decode cX5_become 131 = .ok (.aload_n 1, 1) := by decide +kernel
theorem dX5_become_132 : decode cX5_become 132 = .ok (.getfield 49, 3) := by decide +kernel
theorem dX5_become_135 : decode cX5_become 135 = .ok (.iconst 0, 1) := by decide +kernel
theorem dX5_become_136 : decode cX5_become 136 = .ok (.aload_n 0, 1) := by decide +kernel
theorem dX5_become_137 : decode cX5_become 137 = .ok (.getfield 49, 3) := by decide +kernel
theorem dX5_become_140 : decode cX5_become 140 = .ok (.iconst 0, 1) := by decide +kernel
theorem dX5_become_141 : decode cX5_become 141 = .ok (.bipush 7, 2) := by decide +kernel
theorem dX5_become_143 : decode cX5_become 143 = .ok (.invokestatic 55, 3) := by decide +kernel
theorem dX5_become_146 : decode cX5_become 146 = .ok (.return_, 1) := by decide +kernel
theorem dX5_isOne_0 : decode cX5_isOne 0 = .ok (.iload_n 1, 1) := by decide +kernel
theorem dX5_isOne_1 : decode cX5_isOne 1 = .ok (.ifCond .lt 15, 3) := by decide +kernel
theorem dX5_isOne_4 : decode cX5_isOne 4 = .ok (.iload_n 1, 1) := by decide +kernel
theorem dX5_isOne_5 : decode cX5_isOne 5 = .ok (.aload_n 0, 1) := by decide +kernel
theorem dX5_isOne_6 : decode cX5_isOne 6 = .ok (.getfield 15, 3) := by decide +kernel
theorem dX5_isOne_9 : decode cX5_isOne 9 = .ok (.if_icmp .ge 7, 3) := by decide +kernel
theorem dX5_isOne_12 : decode cX5_isOne 12 = .ok (.iconst 1, 1) := by decide +kernel
theorem dX5_isOne_13 : decode cX5_isOne 13 = .ok (.goto 4, 3) := by decide +kernel
theorem dX5_isOne_16 : decode cX5_isOne 16 = .ok (.iconst 0, 1) := by decide +kernel
theorem dX5_isOne_17 : decode cX5_isOne 17 = .ok (.ireturn, 1) := by decide +kernel
theorem dX5_isSight_0 : decode cX5_isSight 0 = .ok (.iload_n 1, 1) := by decide +kernel
theorem dX5_isSight_1 : decode cX5_isSight 1 = .ok (.ifCond .lt 15, 3) := by decide +kernel
theorem dX5_isSight_4 : decode cX5_isSight 4 = .ok (.iload_n 1, 1) := by decide +kernel
theorem dX5_isSight_5 : decode cX5_isSight 5 = .ok (.aload_n 0, 1) := by decide +kernel
theorem dX5_isSight_6 : decode cX5_isSight 6 = .ok (.getfield 9, 3) := by decide +kernel
theorem dX5_isSight_9 : decode cX5_isSight 9 = .ok (.if_icmp .ge 7, 3) := by decide +kernel
theorem dX5_isSight_12 : decode cX5_isSight 12 = .ok (.iconst 1, 1) := by decide +kernel
theorem dX5_isSight_13 : decode cX5_isSight 13 = .ok (.goto 4, 3) := by decide +kernel
theorem dX5_isSight_16 : decode cX5_isSight 16 = .ok (.iconst 0, 1) := by decide +kernel
theorem dX5_isSight_17 : decode cX5_isSight 17 = .ok (.ireturn, 1) := by decide +kernel
theorem dX5_isFull_0 : decode cX5_isFull 0 = .ok (.aload_n 0, 1) := by decide +kernel
theorem dX5_isFull_1 : decode cX5_isFull 1 = .ok (.getfield 15, 3) := by decide +kernel
theorem dX5_isFull_4 : decode cX5_isFull 4 = .ok (.bipush 7, 2) := by decide +kernel
theorem dX5_isFull_6 : decode cX5_isFull 6 = .ok (.if_icmp .lt 7, 3) := by decide +kernel
theorem dX5_isFull_9 : decode cX5_isFull 9 = .ok (.iconst 1, 1) := by decide +kernel
theorem dX5_isFull_10 : decode cX5_isFull 10 = .ok (.goto 4, 3) := by decide +kernel
theorem dX5_isFull_13 : decode cX5_isFull 13 = .ok (.iconst 0, 1) := by decide +kernel
theorem dX5_isFull_14 : decode cX5_isFull 14 = .ok (.ireturn, 1) := by decide +kernel
theorem dX5_allPeople_0 : decode cX5_allPeople 0 = .ok (.iconst 1, 1) := by decide +kernel
theorem dX5_allPeople_1 : decode cX5_allPeople 1 = .ok (.aload_n 0, 1) := by decide +kernel
theorem dX5_allPeople_2 : decode cX5_allPeople 2 = .ok (.getfield 15, 3) := by decide +kernel
theorem dX5_allPeople_5 : decode cX5_allPeople 5 = .ok (.ishl, 1) := by decide +kernel
theorem dX5_allPeople_6 : decode cX5_allPeople 6 = .ok (.iconst 1, 1) := by decide +kernel
theorem dX5_allPeople_7 : decode cX5_allPeople 7 = .ok (.isub, 1) := by decide +kernel
theorem dX5_allPeople_8 : decode cX5_allPeople 8 = .ok (.ireturn, 1) := by decide +kernel
theorem dX5_allSights_0 : decode cX5_allSights 0 = .ok (.iconst 1, 1) := by decide +kernel
theorem dX5_allSights_1 : decode cX5_allSights 1 = .ok (.aload_n 0, 1) := by decide +kernel
theorem dX5_allSights_2 : decode cX5_allSights 2 = .ok (.getfield 9, 3) := by decide +kernel
theorem dX5_allSights_5 : decode cX5_allSights 5 = .ok (.ishl, 1) := by decide +kernel
theorem dX5_allSights_6 : decode cX5_allSights 6 = .ok (.iconst 1, 1) := by decide +kernel
theorem dX5_allSights_7 : decode cX5_allSights 7 = .ok (.isub, 1) := by decide +kernel
theorem dX5_allSights_8 : decode cX5_allSights 8 = .ok (.ireturn, 1) := by decide +kernel
theorem dX5_kindOf_0 : decode cX5_kindOf 0 = .ok (.aload_n 0, 1) := by decide +kernel
theorem dX5_kindOf_1 : decode cX5_kindOf 1 = .ok (.getfield 46, 3) := by decide +kernel
theorem dX5_kindOf_4 : decode cX5_kindOf 4 = .ok (.iload_n 1, 1) := by decide +kernel
theorem dX5_kindOf_5 : decode cX5_kindOf 5 = .ok (.iaload, 1) := by decide +kernel
theorem dX5_kindOf_6 : decode cX5_kindOf 6 = .ok (.ireturn, 1) := by decide +kernel
set_option maxRecDepth 20000 in
theorem ggX5_allBlind_X6_with : GoodIn wsX5_allBlind wsX6_with := goodIn_r _ [5] (by decide +kernel) (by decide +kernel)
set_option maxRecDepth 20000 in
theorem gX5_allBlind_X6_with_n61 : GoodIn wsX5_allBlind (wsX6_with) := ggX5_allBlind_X6_with
theorem dX5_allBlind_0 : decode cX5_allBlind 0 = .ok (.iconst 0, 1) := by decide +kernel
theorem dX5_allBlind_1 : decode cX5_allBlind 1 = .ok (.istore_n 1, 1) := by decide +kernel
theorem dX5_allBlind_2 : decode cX5_allBlind 2 = .ok (.iconst 0, 1) := by decide +kernel
theorem dX5_allBlind_3 : decode cX5_allBlind 3 = .ok (.istore_n 2, 1) := by decide +kernel
theorem dX5_allBlind_4 : decode cX5_allBlind 4 = .ok (.iload_n 2, 1) := by decide +kernel
theorem dX5_allBlind_5 : decode cX5_allBlind 5 = .ok (.aload_n 0, 1) := by decide +kernel
theorem dX5_allBlind_6 : decode cX5_allBlind 6 = .ok (.getfield 15, 3) := by decide +kernel
theorem dX5_allBlind_9 : decode cX5_allBlind 9 = .ok (.if_icmp .ge 30, 3) := by decide +kernel
theorem dX5_allBlind_12 : decode cX5_allBlind 12 = .ok (.iload_n 1, 1) := by decide +kernel
theorem dX5_allBlind_13 : decode cX5_allBlind 13 = .ok (.iload_n 2, 1) := by decide +kernel
theorem dX5_allBlind_14 : decode cX5_allBlind 14 = .ok (.aload_n 0, 1) := by decide +kernel
theorem dX5_allBlind_15 : decode cX5_allBlind 15 = .ok (.getfield 46, 3) := by decide +kernel
theorem dX5_allBlind_18 : decode cX5_allBlind 18 = .ok (.iload_n 2, 1) := by decide +kernel
theorem dX5_allBlind_19 : decode cX5_allBlind 19 = .ok (.iaload, 1) := by decide +kernel
theorem dX5_allBlind_20 : decode cX5_allBlind 20 = .ok (.iconst 4, 1) := by decide +kernel
theorem dX5_allBlind_21 : decode cX5_allBlind 21 = .ok (.if_icmp .ne 7, 3) := by decide +kernel
theorem dX5_allBlind_24 : decode cX5_allBlind 24 = .ok (.iconst 1, 1) := by decide +kernel
theorem dX5_allBlind_25 : decode cX5_allBlind 25 = .ok (.goto 4, 3) := by decide +kernel
theorem dX5_allBlind_28 : decode cX5_allBlind 28 = .ok (.iconst 0, 1) := by decide +kernel
theorem dX5_allBlind_29 : decode cX5_allBlind 29 = .ok (.invokestatic 61, 3) := by decide +kernel
theorem dX5_allBlind_32 : decode cX5_allBlind 32 = .ok (.istore_n 1, 1) := by decide +kernel
theorem dX5_allBlind_33 : decode cX5_allBlind 33 = .ok (.iinc 2 1, 3) := by decide +kernel
theorem dX5_allBlind_36 : decode cX5_allBlind 36 = .ok (.goto (-32), 3) := by decide +kernel
theorem dX5_allBlind_39 : decode cX5_allBlind 39 = .ok (.iload_n 1, 1) := by decide +kernel
theorem dX5_allBlind_40 : decode cX5_allBlind 40 = .ok (.ireturn, 1) := by decide +kernel
theorem dX5_isOfKind_0 : decode cX5_isOfKind 0 = .ok (.iload_n 2, 1) := by decide +kernel
theorem dX5_isOfKind_1 : decode cX5_isOfKind 1 = .ok (.aload_n 0, 1) := by decide +kernel
theorem dX5_isOfKind_2 : decode cX5_isOfKind 2 = .ok (.getfield 46, 3) := by decide +kernel
theorem dX5_isOfKind_5 : decode cX5_isOfKind 5 = .ok (.iload_n 1, 1) := by decide +kernel
theorem dX5_isOfKind_6 : decode cX5_isOfKind 6 = .ok (.iaload, 1) := by decide +kernel
theorem dX5_isOfKind_7 : decode cX5_isOfKind 7 = .ok (.if_icmp .eq 22, 3) := by decide +kernel
theorem dX5_isOfKind_10 : decode cX5_isOfKind 10 = .ok (.iload_n 2, 1) := by decide +kernel
theorem dX5_isOfKind_11 : decode cX5_isOfKind 11 = .ok (.ifCond .eq 18, 3) := by decide +kernel
theorem dX5_isOfKind_14 : decode cX5_isOfKind 14 = .ok (.iload_n 2, 1) := by decide +kernel
theorem dX5_isOfKind_15 : decode cX5_isOfKind 15 = .ok (.iconst 2, 1) := by decide +kernel
theorem dX5_isOfKind_16 : decode cX5_isOfKind 16 = .ok (.if_icmp .ne 17, 3) := by decide +kernel
theorem dX5_isOfKind_19 : decode cX5_isOfKind 19 = .ok (.aload_n 0, 1) := by decide +kernel
theorem dX5_isOfKind_20 : decode cX5_isOfKind 20 = .ok (.getfield 46, 3) := by decide +kernel
theorem dX5_isOfKind_23 : decode cX5_isOfKind 23 = .ok (.iload_n 1, 1) := by decide +kernel
theorem dX5_isOfKind_24 : decode cX5_isOfKind 24 = .ok (.iaload, 1) := by decide +kernel
theorem dX5_isOfKind_25 : decode cX5_isOfKind 25 = .ok (.iconst 3, 1) := by decide +kernel
theorem dX5_isOfKind_26 : decode cX5_isOfKind 26 = .ok (.if_icmp .ne 7, 3) := by decide +kernel
theorem dX5_isOfKind_29 : decode cX5_isOfKind 29 = .ok (.iconst 1, 1) := by decide +kernel
theorem dX5_isOfKind_30 : decode cX5_isOfKind 30 = .ok (.goto 4, 3) := by decide +kernel
theorem dX5_isOfKind_33 : decode cX5_isOfKind 33 = .ok (.iconst 0, 1) := by decide +kernel
theorem dX5_isOfKind_34 : decode cX5_isOfKind 34 = .ok (.ireturn, 1) := by decide +kernel
theorem dX5_join_0 : decode cX5_join 0 = .ok (.aload_n 0, 1) := by decide +kernel
theorem dX5_join_1 : decode cX5_join 1 = .ok (.getfield 15, 3) := by decide +kernel
theorem dX5_join_4 : decode cX5_join 4 = .ok (.istore_n 3, 1) := by decide +kernel
theorem dX5_join_5 : decode cX5_join 5 = .ok (.aload_n 0, 1) := by decide +kernel
theorem dX5_join_6 : decode cX5_join 6 = .ok (.getfield 46, 3) := by decide +kernel
theorem dX5_join_9 : decode cX5_join 9 = .ok (.iload_n 3, 1) := by decide +kernel
theorem dX5_join_10 : decode cX5_join 10 = .ok (.iload_n 1, 1) := by decide +kernel
theorem dX5_join_11 : decode cX5_join 11 = .ok (.iastore, 1) := by decide +kernel
theorem dX5_join_12 : decode cX5_join 12 = .ok (.aload_n 0, 1) := by decide +kernel
theorem dX5_join_13 : decode cX5_join 13 = .ok (.getfield 49, 3) := by decide +kernel
theorem dX5_join_16 : decode cX5_join 16 = .ok (.iload_n 3, 1) := by decide +kernel
theorem dX5_join_17 : decode cX5_join 17 = .ok (.iload_n 2, 1) := by decide +kernel
theorem dX5_join_18 : decode cX5_join 18 = .ok (.iastore, 1) := by decide +kernel
theorem dX5_join_19 : decode cX5_join 19 = .ok (.aload_n 0, 1) := by decide +kernel
theorem dX5_join_20 : decode cX5_join 20 = .ok (.getfield 33, 3) := by decide +kernel
theorem dX5_join_23 : decode cX5_join 23 = .ok (.iload_n 3, 1) := by decide +kernel
theorem dX5_join_24 : decode cX5_join 24 = .ok (.iconst 0, 1) := by decide +kernel
theorem dX5_join_25 : decode cX5_join 25 = .ok (.iastore, 1) := by decide +kernel
theorem dX5_join_26 : decode cX5_join 26 = .ok (.aload_n 0, 1) := by decide +kernel
theorem dX5_join_27 : decode cX5_join 27 = .ok (.getfield 37, 3) := by decide +kernel
theorem dX5_join_30 : decode cX5_join 30 = .ok (.iload_n 3, 1) := by decide +kernel
theorem dX5_join_31 : decode cX5_join 31 = .ok (.iconst 0, 1) := by decide +kernel
theorem dX5_join_32 : decode cX5_join 32 = .ok (.iastore, 1) := by decide +kernel
theorem dX5_join_33 : decode cX5_join 33 = .ok (.aload_n 0, 1) := by decide +kernel
theorem dX5_join_34 : decode cX5_join 34 = .ok (.getfield 40, 3) := by decide +kernel
theorem dX5_join_37 : decode cX5_join 37 = .ok (.iload_n 3, 1) := by decide +kernel
theorem dX5_join_38 : decode cX5_join 38 = .ok (.iconst 0, 1) := by decide +kernel
theorem dX5_join_39 : decode cX5_join 39 = .ok (.iastore, 1) := by decide +kernel
theorem dX5_join_40 : decode cX5_join 40 = .ok (.aload_n 0, 1) := by decide +kernel
theorem dX5_join_41 : decode cX5_join 41 = .ok (.getfield 43, 3) := by decide +kernel
theorem dX5_join_44 : decode cX5_join 44 = .ok (.iload_n 3, 1) := by decide +kernel
theorem dX5_join_45 : decode cX5_join 45 = .ok (.iconst 0, 1) := by decide +kernel
theorem dX5_join_46 : decode cX5_join 46 = .ok (.iastore, 1) := by decide +kernel
theorem dX5_join_47 : decode cX5_join 47 = .ok (.aload_n 0, 1) := by decide +kernel
theorem dX5_join_48 : decode cX5_join 48 = .ok (.dup, 1) := by decide +kernel
theorem dX5_join_49 : decode cX5_join 49 = .ok (.getfield 15, 3) := by decide +kernel
theorem dX5_join_52 : decode cX5_join 52 = .ok (.iconst 1, 1) := by decide +kernel
theorem dX5_join_53 : decode cX5_join 53 = .ok (.iadd, 1) := by decide +kernel
theorem dX5_join_54 : decode cX5_join 54 = .ok (.putfield 15, 3) := by decide +kernel
theorem dX5_join_57 : decode cX5_join 57 = .ok (.iload_n 3, 1) := by decide +kernel
theorem dX5_join_58 : decode cX5_join 58 = .ok (.ireturn, 1) := by decide +kernel
set_option maxRecDepth 20000 in
theorem ggX5_howSeen_X6_has : GoodIn wsX5_howSeen wsX6_has := goodIn_r _ [5] (by decide +kernel) (by decide +kernel)
set_option maxRecDepth 20000 in
theorem gX5_howSeen_X6_has_n65 : GoodIn wsX5_howSeen (wsX6_has) := ggX5_howSeen_X6_has
theorem dX5_howSeen_0 : decode cX5_howSeen 0 = .ok (.aload_n 0, 1) := by decide +kernel
theorem dX5_howSeen_1 : decode cX5_howSeen 1 = .ok (.getfield 33, 3) := by decide +kernel
theorem dX5_howSeen_4 : decode cX5_howSeen 4 = .ok (.iload_n 1, 1) := by decide +kernel
theorem dX5_howSeen_5 : decode cX5_howSeen 5 = .ok (.iaload, 1) := by decide +kernel
theorem dX5_howSeen_6 : decode cX5_howSeen 6 = .ok (.iload_n 2, 1) := by decide +kernel
theorem dX5_howSeen_7 : decode cX5_howSeen 7 = .ok (.invokestatic 65, 3) := by decide +kernel
theorem dX5_howSeen_10 : decode cX5_howSeen 10 = .ok (.ifCond .eq 5, 3) := by decide +kernel
theorem dX5_howSeen_13 : decode cX5_howSeen 13 = .ok (.iconst 2, 1) := by decide +kernel
theorem dX5_howSeen_14 : decode cX5_howSeen 14 = .ok (.ireturn, 1) := by decide +kernel
theorem dX5_howSeen_15 : decode cX5_howSeen 15 = .ok (.aload_n 0, 1) := by decide +kernel
theorem dX5_howSeen_16 : decode cX5_howSeen 16 = .ok (.getfield 37, 3) := by decide +kernel
theorem dX5_howSeen_19 : decode cX5_howSeen 19 = .ok (.iload_n 1, 1) := by decide +kernel
theorem dX5_howSeen_20 : decode cX5_howSeen 20 = .ok (.iaload, 1) := by decide +kernel
theorem dX5_howSeen_21 : decode cX5_howSeen 21 = .ok (.iload_n 2, 1) := by decide +kernel
theorem dX5_howSeen_22 : decode cX5_howSeen 22 = .ok (.invokestatic 65, 3) := by decide +kernel
theorem dX5_howSeen_25 : decode cX5_howSeen 25 = .ok (.ifCond .eq 7, 3) := by decide +kernel
theorem dX5_howSeen_28 : decode cX5_howSeen 28 = .ok (.iconst 1, 1) := by decide +kernel
theorem dX5_howSeen_29 : decode cX5_howSeen 29 = .ok (.goto 4, 3) := by decide +kernel
theorem dX5_howSeen_32 : decode cX5_howSeen 32 = .ok (.iconst 0, 1) := by decide +kernel
theorem dX5_howSeen_33 : decode cX5_howSeen 33 = .ok (.ireturn, 1) := by decide +kernel
set_option maxRecDepth 20000 in
theorem ggX5_putSeen_X6_with : GoodIn wsX5_putSeen wsX6_with := goodIn_r _ [5] (by decide +kernel) (by decide +kernel)
set_option maxRecDepth 20000 in
theorem gX5_putSeen_X6_with_n61 : GoodIn wsX5_putSeen (wsX6_with) := ggX5_putSeen_X6_with
theorem dX5_putSeen_0 : decode cX5_putSeen 0 = .ok (.aload_n 0, 1) := by decide +kernel
theorem dX5_putSeen_1 : decode cX5_putSeen 1 = .ok (.getfield 33, 3) := by decide +kernel
theorem dX5_putSeen_4 : decode cX5_putSeen 4 = .ok (.iload_n 1, 1) := by decide +kernel
theorem dX5_putSeen_5 : decode cX5_putSeen 5 = .ok (.aload_n 0, 1) := by decide +kernel
theorem dX5_putSeen_6 : decode cX5_putSeen 6 = .ok (.getfield 33, 3) := by decide +kernel
theorem dX5_putSeen_9 : decode cX5_putSeen 9 = .ok (.iload_n 1, 1) := by decide +kernel
theorem dX5_putSeen_10 : decode cX5_putSeen 10 = .ok (.iaload, 1) := by decide +kernel
theorem dX5_putSeen_11 : decode cX5_putSeen 11 = .ok (.iload_n 2, 1) := by decide +kernel
theorem dX5_putSeen_12 : decode cX5_putSeen 12 = .ok (.iload_n 3, 1) := by decide +kernel
theorem dX5_putSeen_13 : decode cX5_putSeen 13 = .ok (.iconst 2, 1) := by decide +kernel
theorem dX5_putSeen_14 : decode cX5_putSeen 14 = .ok (.if_icmp .ne 7, 3) := by decide +kernel
theorem dX5_putSeen_17 : decode cX5_putSeen 17 = .ok (.iconst 1, 1) := by decide +kernel
theorem dX5_putSeen_18 : decode cX5_putSeen 18 = .ok (.goto 4, 3) := by decide +kernel
theorem dX5_putSeen_21 : decode cX5_putSeen 21 = .ok (.iconst 0, 1) := by decide +kernel
theorem dX5_putSeen_22 : decode cX5_putSeen 22 = .ok (.invokestatic 61, 3) := by decide +kernel
theorem dX5_putSeen_25 : decode cX5_putSeen 25 = .ok (.iastore, 1) := by decide +kernel
theorem dX5_putSeen_26 : decode cX5_putSeen 26 = .ok (.aload_n 0, 1) := by decide +kernel
theorem dX5_putSeen_27 : decode cX5_putSeen 27 = .ok (.getfield 37, 3) := by decide +kernel
theorem dX5_putSeen_30 : decode cX5_putSeen 30 = .ok (.iload_n 1, 1) := by decide +kernel
theorem dX5_putSeen_31 : decode cX5_putSeen 31 = .ok (.aload_n 0, 1) := by decide +kernel
theorem dX5_putSeen_32 : decode cX5_putSeen 32 = .ok (.getfield 37, 3) := by decide +kernel
theorem dX5_putSeen_35 : decode cX5_putSeen 35 = .ok (.iload_n 1, 1) := by decide +kernel
theorem dX5_putSeen_36 : decode cX5_putSeen 36 = .ok (.iaload, 1) := by decide +kernel
theorem dX5_putSeen_37 : decode cX5_putSeen 37 = .ok (.iload_n 2, 1) := by decide +kernel
theorem dX5_putSeen_38 : decode cX5_putSeen 38 = .ok (.iload_n 3, 1) := by decide +kernel
theorem dX5_putSeen_39 : decode cX5_putSeen 39 = .ok (.iconst 1, 1) := by decide +kernel
theorem dX5_putSeen_40 : decode cX5_putSeen 40 = .ok (.if_icmp .ne 7, 3) := by decide +kernel
theorem dX5_putSeen_43 : decode cX5_putSeen 43 = .ok (.iconst 1, 1) := by decide +kernel
theorem dX5_putSeen_44 : decode cX5_putSeen 44 = .ok (.goto 4, 3) := by decide +kernel
theorem dX5_putSeen_47 : decode cX5_putSeen 47 = .ok (.iconst 0, 1) := by decide +kernel
theorem dX5_putSeen_48 : decode cX5_putSeen 48 = .ok (.invokestatic 61, 3) := by decide +kernel
theorem dX5_putSeen_51 : decode cX5_putSeen 51 = .ok (.iastore, 1) := by decide +kernel
theorem dX5_putSeen_52 : decode cX5_putSeen 52 = .ok (.return_, 1) := by decide +kernel
set_option maxRecDepth 20000 in
theorem ggX5_putHeard_X6_with : GoodIn wsX5_putHeard wsX6_with := goodIn_r _ [4] (by decide +kernel) (by decide +kernel)
set_option maxRecDepth 20000 in
theorem gX5_putHeard_X6_with_n61 : GoodIn wsX5_putHeard (wsX6_with) := ggX5_putHeard_X6_with
theorem dX5_putHeard_0 : decode cX5_putHeard 0 = .ok (.aload_n 0, 1) := by decide +kernel
theorem dX5_putHeard_1 : decode cX5_putHeard 1 = .ok (.getfield 40, 3) := by decide +kernel
theorem dX5_putHeard_4 : decode cX5_putHeard 4 = .ok (.iload_n 1, 1) := by decide +kernel
theorem dX5_putHeard_5 : decode cX5_putHeard 5 = .ok (.aload_n 0, 1) := by decide +kernel
theorem dX5_putHeard_6 : decode cX5_putHeard 6 = .ok (.getfield 40, 3) := by decide +kernel
theorem dX5_putHeard_9 : decode cX5_putHeard 9 = .ok (.iload_n 1, 1) := by decide +kernel
theorem dX5_putHeard_10 : decode cX5_putHeard 10 = .ok (.iaload, 1) := by decide +kernel
theorem dX5_putHeard_11 : decode cX5_putHeard 11 = .ok (.iload_n 2, 1) := by decide +kernel
theorem dX5_putHeard_12 : decode cX5_putHeard 12 = .ok (.iload_n 3, 1) := by decide +kernel
theorem dX5_putHeard_13 : decode cX5_putHeard 13 = .ok (.invokestatic 61, 3) := by decide +kernel
theorem dX5_putHeard_16 : decode cX5_putHeard 16 = .ok (.iastore, 1) := by decide +kernel
theorem dX5_putHeard_17 : decode cX5_putHeard 17 = .ok (.return_, 1) := by decide +kernel
set_option maxRecDepth 20000 in
theorem ggX5_putHears_X6_with : GoodIn wsX5_putHears wsX6_with := goodIn_r _ [4] (by decide +kernel) (by decide +kernel)
set_option maxRecDepth 20000 in
theorem gX5_putHears_X6_with_n61 : GoodIn wsX5_putHears (wsX6_with) := ggX5_putHears_X6_with
theorem dX5_putHears_0 : decode cX5_putHears 0 = .ok (.aload_n 0, 1) := by decide +kernel
theorem dX5_putHears_1 : decode cX5_putHears 1 = .ok (.getfield 43, 3) := by decide +kernel
theorem dX5_putHears_4 : decode cX5_putHears 4 = .ok (.iload_n 1, 1) := by decide +kernel
theorem dX5_putHears_5 : decode cX5_putHears 5 = .ok (.aload_n 0, 1) := by decide +kernel
theorem dX5_putHears_6 : decode cX5_putHears 6 = .ok (.getfield 43, 3) := by decide +kernel
theorem dX5_putHears_9 : decode cX5_putHears 9 = .ok (.iload_n 1, 1) := by decide +kernel
theorem dX5_putHears_10 : decode cX5_putHears 10 = .ok (.iaload, 1) := by decide +kernel
theorem dX5_putHears_11 : decode cX5_putHears 11 = .ok (.iload_n 2, 1) := by decide +kernel
theorem dX5_putHears_12 : decode cX5_putHears 12 = .ok (.iload_n 3, 1) := by decide +kernel
theorem dX5_putHears_13 : decode cX5_putHears 13 = .ok (.invokestatic 61, 3) := by decide +kernel
theorem dX5_putHears_16 : decode cX5_putHears 16 = .ok (.iastore, 1) := by decide +kernel
theorem dX5_putHears_17 : decode cX5_putHears 17 = .ok (.return_, 1) := by decide +kernel
theorem dX5_mostOf_0 : decode cX5_mostOf 0 = .ok (.iload_n 0, 1) := by decide +kernel
theorem dX5_mostOf_1 : decode cX5_mostOf 1 = .ok (.ifCond .ne 7, 3) := by decide +kernel
theorem dX5_mostOf_4 : decode cX5_mostOf 4 = .ok (.iconst 1, 1) := by decide +kernel
theorem dX5_mostOf_5 : decode cX5_mostOf 5 = .ok (.goto 5, 3) := by decide +kernel
theorem dX5_mostOf_8 : decode cX5_mostOf 8 = .ok (.bipush 9, 2) := by decide +kernel
theorem dX5_mostOf_10 : decode cX5_mostOf 10 = .ok (.ireturn, 1) := by decide +kernel
theorem dX5_settingOf_0 : decode cX5_settingOf 0 = .ok (.iload_n 1, 1) := by decide +kernel
theorem dX5_settingOf_1 : decode cX5_settingOf 1 = .ok (.lookupswitch 37 #[(0, 27), (1, 32)], 27) := by decide +kernel
theorem dX5_settingOf_28 : decode cX5_settingOf 28 = .ok (.aload_n 0, 1) := by decide +kernel
theorem dX5_settingOf_29 : decode cX5_settingOf 29 = .ok (.getfield 18, 3) := by decide +kernel
theorem dX5_settingOf_32 : decode cX5_settingOf 32 = .ok (.ireturn, 1) := by decide +kernel
theorem dX5_settingOf_33 : decode cX5_settingOf 33 = .ok (.aload_n 0, 1) := by decide +kernel
theorem dX5_settingOf_34 : decode cX5_settingOf 34 = .ok (.getfield 21, 3) := by decide +kernel
theorem dX5_settingOf_37 : decode cX5_settingOf 37 = .ok (.ireturn, 1) := by decide +kernel
theorem dX5_settingOf_38 : decode cX5_settingOf 38 = .ok (.aload_n 0, 1) := by decide +kernel
theorem dX5_settingOf_39 : decode cX5_settingOf 39 = .ok (.getfield 24, 3) := by decide +kernel
theorem dX5_settingOf_42 : decode cX5_settingOf 42 = .ok (.ireturn, 1) := by decide +kernel
theorem dX5_putSetting_0 : decode cX5_putSetting 0 = .ok (.iload_n 1, 1) := by decide +kernel
theorem dX5_putSetting_1 : decode cX5_putSetting 1 = .ok (.lookupswitch 43 #[(0, 27), (1, 35)], 27) := by decide +kernel
theorem dX5_putSetting_28 : decode cX5_putSetting 28 = .ok (.aload_n 0, 1) := by decide +kernel
theorem dX5_putSetting_29 : decode cX5_putSetting 29 = .ok (.iload_n 2, 1) := by decide +kernel
theorem dX5_putSetting_30 : decode cX5_putSetting 30 = .ok (.putfield 18, 3) := by decide +kernel
theorem dX5_putSetting_33 : decode cX5_putSetting 33 = .ok (.goto 16, 3) := by decide +kernel
theorem dX5_putSetting_36 : decode cX5_putSetting 36 = .ok (.aload_n 0, 1) := by decide +kernel
theorem dX5_putSetting_37 : decode cX5_putSetting 37 = .ok (.iload_n 2, 1) := by decide +kernel
theorem dX5_putSetting_38 : decode cX5_putSetting 38 = .ok (.putfield 21, 3) := by decide +kernel
theorem dX5_putSetting_41 : decode cX5_putSetting 41 = .ok (.goto 8, 3) := by decide +kernel
theorem dX5_putSetting_44 : decode cX5_putSetting 44 = .ok (.aload_n 0, 1) := by decide +kernel
theorem dX5_putSetting_45 : decode cX5_putSetting 45 = .ok (.iload_n 2, 1) := by decide +kernel
theorem dX5_putSetting_46 : decode cX5_putSetting 46 = .ok (.putfield 24, 3) := by decide +kernel
theorem dX5_putSetting_49 : decode cX5_putSetting 49 = .ok (.return_, 1) := by decide +kernel
set_option maxRecDepth 20000 in
theorem ggX5_factOf_X5_knownTo : GoodIn wsX5_factOf wsX5_knownTo := goodIn_r _ [11, 3, 4, 5, 17, 18, 19, 20, 21, 22, 23, 24, 25, 26, 27, 28, 29, 30] (by decide +kernel) (by decide +kernel)
set_option maxRecDepth 20000 in
theorem gX5_factOf_X5_knownTo : GoodIn wsX5_factOf (wsV RX5 69 RX5 yX5_knownTo wsX5_knownTo) := goodIn_app (goodIn_of _ (by decide +kernel)) ggX5_factOf_X5_knownTo
set_option maxRecDepth 20000 in
theorem ggX5_factOf_X5_barredTo : GoodIn wsX5_factOf wsX5_barredTo := goodIn_r _ [15, 16, 3, 4, 17, 18, 19, 20, 21, 22, 23, 24, 25, 26, 27, 28, 29, 30] (by decide +kernel) (by decide +kernel)
set_option maxRecDepth 20000 in
theorem gX5_factOf_X5_barredTo : GoodIn wsX5_factOf (wsV RX5 73 RX5 yX5_barredTo wsX5_barredTo) := goodIn_app (goodIn_of _ (by decide +kernel)) ggX5_factOf_X5_barredTo
theorem dX5_factOf_0 : decode cX5_factOf 0 = .ok (.iload_n 2, 1) := by decide +kernel
theorem dX5_factOf_1 : decode cX5_factOf 1 = .ok (.tableswitch 91 0 6 #[43, 50, 57, 64, 71, 78, 85], 43) := by decide +kernel
theorem dX5_factOf_44 : decode cX5_factOf 44 = .ok (.aload_n 0, 1) := by decide +kernel
theorem dX5_factOf_45 : decode cX5_factOf 45 = .ok (.getfield 46, 3) := by decide +kernel
theorem dX5_factOf_48 : decode cX5_factOf 48 = .ok (.iload_n 1, 1) := by decide +kernel
theorem dX5_factOf_49 : decode cX5_factOf 49 = .ok (.iaload, 1) := by decide +kernel
theorem dX5_factOf_50 : decode cX5_factOf 50 = .ok (.ireturn, 1) := by decide +kernel
theorem dX5_factOf_51 : decode cX5_factOf 51 = .ok (.aload_n 0, 1) := by decide +kernel
theorem dX5_factOf_52 : decode cX5_factOf 52 = .ok (.getfield 49, 3) := by decide +kernel
theorem dX5_factOf_55 : decode cX5_factOf 55 = .ok (.iload_n 1, 1) := by decide +kernel
theorem dX5_factOf_56 : decode cX5_factOf 56 = .ok (.iaload, 1) := by decide +kernel
theorem dX5_factOf_57 : decode cX5_factOf 57 = .ok (.ireturn, 1) := by decide +kernel
theorem dX5_factOf_58 : decode cX5_factOf 58 = .ok (.aload_n 0, 1) := by decide +kernel
theorem dX5_factOf_59 : decode cX5_factOf 59 = .ok (.getfield 33, 3) := by decide +kernel
theorem dX5_factOf_62 : decode cX5_factOf 62 = .ok (.iload_n 1, 1) := by decide +kernel
theorem dX5_factOf_63 : decode cX5_factOf 63 = .ok (.iaload, 1) := by decide +kernel
theorem dX5_factOf_64 : decode cX5_factOf 64 = .ok (.ireturn, 1) := by decide +kernel
theorem dX5_factOf_65 : decode cX5_factOf 65 = .ok (.aload_n 0, 1) := by decide +kernel
theorem dX5_factOf_66 : decode cX5_factOf 66 = .ok (.getfield 37, 3) := by decide +kernel
theorem dX5_factOf_69 : decode cX5_factOf 69 = .ok (.iload_n 1, 1) := by decide +kernel
theorem dX5_factOf_70 : decode cX5_factOf 70 = .ok (.iaload, 1) := by decide +kernel
theorem dX5_factOf_71 : decode cX5_factOf 71 = .ok (.ireturn, 1) := by decide +kernel
theorem dX5_factOf_72 : decode cX5_factOf 72 = .ok (.aload_n 0, 1) := by decide +kernel
theorem dX5_factOf_73 : decode cX5_factOf 73 = .ok (.getfield 40, 3) := by decide +kernel
theorem dX5_factOf_76 : decode cX5_factOf 76 = .ok (.iload_n 1, 1) := by decide +kernel
theorem dX5_factOf_77 : decode cX5_factOf 77 = .ok (.iaload, 1) := by decide +kernel
theorem dX5_factOf_78 : decode cX5_factOf 78 = .ok (.ireturn, 1) := by decide +kernel
theorem dX5_factOf_79 : decode cX5_factOf 79 = .ok (.aload_n 0, 1) := by decide +kernel
theorem dX5_factOf_80 : decode cX5_factOf 80 = .ok (.getfield 43, 3) := by decide +kernel
theorem dX5_factOf_83 : decode cX5_factOf 83 = .ok (.iload_n 1, 1) := by decide +kernel
theorem dX5_factOf_84 : decode cX5_factOf 84 = .ok (.iaload, 1) := by decide +kernel
theorem dX5_factOf_85 : decode cX5_factOf 85 = .ok (.ireturn, 1) := by decide +kernel
theorem dX5_factOf_86 : decode cX5_factOf 86 = .ok (.aload_n 0, 1) := by decide +kernel
theorem dX5_factOf_87 : decode cX5_factOf 87 = .ok (.iload_n 1, 1) := by decide +kernel
theorem dX5_factOf_88 : decode cX5_factOf 88 = .ok (.invokevirtual 69, 3) := by decide +kernel
theorem dX5_factOf_91 : decode cX5_factOf 91 = .ok (.ireturn, 1) := by decide +kernel
theorem dX5_factOf_92 : decode cX5_factOf 92 = .ok (.aload_n 0, 1) := by decide +kernel
theorem dX5_factOf_93 : decode cX5_factOf 93 = .ok (.iload_n 1, 1) := by decide +kernel
theorem dX5_factOf_94 : decode cX5_factOf 94 = .ok (.invokevirtual 73, 3) := by decide +kernel
theorem dX5_factOf_97 : decode cX5_factOf 97 = .ok (.ireturn, 1) := by decide +kernel
set_option maxRecDepth 20000 in
theorem ggX5_sayingAs_J6_bitCount_0f7a4 : GoodIn wsX5_sayingAs wsJ6_bitCount_0f7a4 := goodIn_r _ [8, 9, 10, 11] (by decide +kernel) (by decide +kernel)
set_option maxRecDepth 20000 in
theorem gX5_sayingAs_J6_bitCount_0f7a4 : GoodIn wsX5_sayingAs (va_wsS RX5 76 yJ6_bitCount_0f7a4 wsJ6_bitCount_0f7a4) := goodIn_app (goodIn_of _ (by decide +kernel)) ggX5_sayingAs_J6_bitCount_0f7a4
set_option maxRecDepth 20000 in
theorem ggX5_sayingAs_X5_barredTo : GoodIn wsX5_sayingAs wsX5_barredTo := goodIn_r _ [16, 17, 4, 18, 42, 43, 44, 45, 46, 47, 48, 49, 50, 51, 52, 53, 54, 55] (by decide +kernel) (by decide +kernel)
set_option maxRecDepth 20000 in
theorem gX5_sayingAs_X5_barredTo : GoodIn wsX5_sayingAs (wsV RX5 73 RX5 yX5_barredTo wsX5_barredTo) := goodIn_app (goodIn_of _ (by decide +kernel)) ggX5_sayingAs_X5_barredTo
set_option maxRecDepth 20000 in
theorem ggX5_sayingAs_X6_firstOf : GoodIn wsX5_sayingAs wsX6_firstOf := goodIn_r _ [21, 22, 23, 20, 24] (by decide +kernel) (by decide +kernel)
set_option maxRecDepth 20000 in
theorem gX5_sayingAs_X6_firstOf_n81 : GoodIn wsX5_sayingAs (wsX6_firstOf) := ggX5_sayingAs_X6_firstOf
set_option maxRecDepth 20000 in
theorem ggX5_sayingAs_X5_sayableBy : GoodIn wsX5_sayingAs wsX5_sayableBy := goodIn_r _ [28, 29, 3, 30, 12, 13, 14, 15, 16, 17, 4, 18, 31, 32, 33, 34, 2, 35, 36, 37, 38, 39, 1, 40, 20, 41, 42, 43, 44, 45, 46, 47, 48, 49, 50, 51, 52, 53, 54, 55] (by decide +kernel) (by decide +kernel)
set_option maxRecDepth 20000 in
theorem gX5_sayingAs_X5_sayableBy : GoodIn wsX5_sayingAs (wsV RX5 84 RX5 yX5_sayableBy wsX5_sayableBy) := goodIn_app (goodIn_of _ (by decide +kernel)) ggX5_sayingAs_X5_sayableBy
theorem dX5_sayingAs_0 : decode cX5_sayingAs 0 = .ok (.iload_n 2, 1) := by decide +kernel
theorem dX5_sayingAs_1 : decode cX5_sayingAs 1 = .ok (.tableswitch 88 1 5 #[35, 45, 59, 68, 78], 35) := by decide +kernel
theorem dX5_sayingAs_36 : decode cX5_sayingAs 36 = .ok (.aload_n 0, 1) := by decide +kernel
theorem dX5_sayingAs_37 : decode cX5_sayingAs 37 = .ok (.getfield 43, 3) := by decide +kernel
theorem dX5_sayingAs_40 : decode cX5_sayingAs 40 = .ok (.iload_n 1, 1) := by decide +kernel
theorem dX5_sayingAs_41 : decode cX5_sayingAs 41 = .ok (.iaload, 1) := by decide +kernel
theorem dX5_sayingAs_42 : decode cX5_sayingAs 42 = .ok (.invokestatic 76, 3) := by decide +kernel
theorem dX5_sayingAs_45 : decode cX5_sayingAs 45 = .ok (.ireturn, 1) := by decide +kernel
theorem dX5_sayingAs_46 : decode cX5_sayingAs 46 = .ok (.aload_n 0, 1) := by decide +kernel
theorem dX5_sayingAs_47 : decode cX5_sayingAs 47 = .ok (.getfield 9, 3) := by decide +kernel
theorem dX5_sayingAs_50 : decode cX5_sayingAs 50 = .ok (.aload_n 0, 1) := by decide +kernel
theorem dX5_sayingAs_51 : decode cX5_sayingAs 51 = .ok (.iload_n 1, 1) := by decide +kernel
theorem dX5_sayingAs_52 : decode cX5_sayingAs 52 = .ok (.invokevirtual 73, 3) := by decide +kernel
theorem dX5_sayingAs_55 : decode cX5_sayingAs 55 = .ok (.invokestatic 76, 3) := by decide +kernel
theorem dX5_sayingAs_58 : decode cX5_sayingAs 58 = .ok (.isub, 1) := by decide +kernel
theorem dX5_sayingAs_59 : decode cX5_sayingAs 59 = .ok (.ireturn, 1) := by decide +kernel
theorem dX5_sayingAs_60 : decode cX5_sayingAs 60 = .ok (.aload_n 0, 1) := by decide +kernel
theorem dX5_sayingAs_61 : decode cX5_sayingAs 61 = .ok (.iload_n 1, 1) := by decide +kernel
theorem dX5_sayingAs_62 : decode cX5_sayingAs 62 = .ok (.invokevirtual 73, 3) := by decide +kernel
theorem dX5_sayingAs_65 : decode cX5_sayingAs 65 = .ok (.invokestatic 81, 3) := by decide +kernel
theorem dX5_sayingAs_68 : decode cX5_sayingAs 68 = .ok (.ireturn, 1) := by decide +kernel
theorem dX5_sayingAs_69 : decode cX5_sayingAs 69 = .ok (.aload_n 0, 1) := by decide +kernel
theorem dX5_sayingAs_70 : decode cX5_sayingAs 70 = .ok (.getfield 40, 3) := by decide +kernel
theorem dX5_sayingAs_73 : decode cX5_sayingAs 73 = .ok (.iload_n 1, 1) := by decide +kernel
theorem dX5_sayingAs_74 : decode cX5_sayingAs 74 = .ok (.iaload, 1) := by decide +kernel
theorem dX5_sayingAs_75 : decode cX5_sayingAs 75 = .ok (.invokestatic 76, 3) := by decide +kernel
theorem dX5_sayingAs_78 : decode cX5_sayingAs 78 = .ok (.ireturn, 1) := by decide +kernel
theorem dX5_sayingAs_79 : decode cX5_sayingAs 79 = .ok (.aload_n 0, 1) := by decide +kernel
theorem dX5_sayingAs_80 : decode cX5_sayingAs 80 = .ok (.getfield 33, 3) := by decide +kernel
theorem dX5_sayingAs_83 : decode cX5_sayingAs 83 = .ok (.iload_n 1, 1) := by decide +kernel
theorem dX5_sayingAs_84 : decode cX5_sayingAs 84 = .ok (.iaload, 1) := by decide +kernel
theorem dX5_sayingAs_85 : decode cX5_sayingAs 85 = .ok (.invokestatic 81, 3) := by decide +kernel
theorem dX5_sayingAs_88 : decode cX5_sayingAs 88 = .ok (.ireturn, 1) := by decide +kernel
theorem dX5_sayingAs_89 : decode cX5_sayingAs 89 = .ok (.aload_n 0, 1) := by decide +kernel
theorem dX5_sayingAs_90 : decode cX5_sayingAs 90 = .ok (.iload_n 1, 1) := by decide +kernel
theorem dX5_sayingAs_91 : decode cX5_sayingAs 91 = .ok (.invokevirtual 84, 3) := by decide +kernel
theorem dX5_sayingAs_94 : decode cX5_sayingAs 94 = .ok (.ireturn, 1) := by decide +kernel
theorem dX5_barredTo_0 : decode cX5_barredTo 0 = .ok (.aload_n 0, 1) := by decide +kernel
theorem dX5_barredTo_1 : decode cX5_barredTo 1 = .ok (.getfield 18, 3) := by decide +kernel
theorem dX5_barredTo_4 : decode cX5_barredTo 4 = .ok (.iconst 1, 1) := by decide +kernel
theorem dX5_barredTo_5 : decode cX5_barredTo 5 = .ok (.if_icmp .ne 19, 3) := by decide +kernel
theorem dX5_barredTo_8 : decode cX5_barredTo 8 = .ok (.aload_n 0, 1) := by decide +kernel
theorem dX5_barredTo_9 : decode cX5_barredTo 9 = .ok (.getfield 33, 3) := by decide +kernel
theorem dX5_barredTo_12 : decode cX5_barredTo 12 = .ok (.iload_n 1, 1) := by decide +kernel
theorem dX5_barredTo_13 : decode cX5_barredTo 13 = .ok (.iaload, 1) := by decide +kernel
theorem dX5_barredTo_14 : decode cX5_barredTo 14 = .ok (.aload_n 0, 1) := by decide +kernel
theorem dX5_barredTo_15 : decode cX5_barredTo 15 = .ok (.getfield 37, 3) := by decide +kernel
theorem dX5_barredTo_18 : decode cX5_barredTo 18 = .ok (.iload_n 1, 1) := by decide +kernel
theorem dX5_barredTo_19 : decode cX5_barredTo 19 = .ok (.iaload, 1) := by decide +kernel
theorem dX5_barredTo_20 : decode cX5_barredTo 20 = .ok (.ior, 1) := by decide +kernel
theorem dX5_barredTo_21 : decode cX5_barredTo 21 = .ok (.goto 9, 3) := by decide +kernel
theorem dX5_barredTo_24 : decode cX5_barredTo 24 = .ok (.aload_n 0, 1) := by decide +kernel
theorem dX5_barredTo_25 : decode cX5_barredTo 25 = .ok (.getfield 33, 3) := by decide +kernel
theorem dX5_barredTo_28 : decode cX5_barredTo 28 = .ok (.iload_n 1, 1) := by decide +kernel
theorem dX5_barredTo_29 : decode cX5_barredTo 29 = .ok (.iaload, 1) := by decide +kernel
theorem dX5_barredTo_30 : decode cX5_barredTo 30 = .ok (.ireturn, 1) := by decide +kernel
theorem dX5_knownTo_0 : decode cX5_knownTo 0 = .ok (.aload_n 0, 1) := by decide +kernel
theorem dX5_knownTo_1 : decode cX5_knownTo 1 = .ok (.getfield 33, 3) := by decide +kernel
theorem dX5_knownTo_4 : decode cX5_knownTo 4 = .ok (.iload_n 1, 1) := by decide +kernel
theorem dX5_knownTo_5 : decode cX5_knownTo 5 = .ok (.iaload, 1) := by decide +kernel
theorem dX5_knownTo_6 : decode cX5_knownTo 6 = .ok (.aload_n 0, 1) := by decide +kernel
theorem dX5_knownTo_7 : decode cX5_knownTo 7 = .ok (.getfield 37, 3) := by decide +kernel
theorem dX5_knownTo_10 : decode cX5_knownTo 10 = .ok (.iload_n 1, 1) := by decide +kernel
theorem dX5_knownTo_11 : decode cX5_knownTo 11 = .ok (.iaload, 1) := by decide +kernel
theorem dX5_knownTo_12 : decode cX5_knownTo 12 = .ok (.ior, 1) := by decide +kernel
theorem dX5_knownTo_13 : decode cX5_knownTo 13 = .ok (.aload_n 0, 1) := by decide +kernel
theorem dX5_knownTo_14 : decode cX5_knownTo 14 = .ok (.getfield 40, 3) := by decide +kernel
theorem dX5_knownTo_17 : decode cX5_knownTo 17 = .ok (.iload_n 1, 1) := by decide +kernel
theorem dX5_knownTo_18 : decode cX5_knownTo 18 = .ok (.iaload, 1) := by decide +kernel
theorem dX5_knownTo_19 : decode cX5_knownTo 19 = .ok (.ior, 1) := by decide +kernel
theorem dX5_knownTo_20 : decode cX5_knownTo 20 = .ok (.ireturn, 1) := by decide +kernel
set_option maxRecDepth 20000 in
theorem ggX5_sayableBy_X5_barredTo : GoodIn wsX5_sayableBy wsX5_barredTo := goodIn_r _ [8, 9, 10, 11, 26, 27, 28, 29, 30, 31, 32, 33, 34, 35, 36, 37, 38, 39] (by decide +kernel) (by decide +kernel)
set_option maxRecDepth 20000 in
theorem gX5_sayableBy_X5_barredTo : GoodIn wsX5_sayableBy (wsV RX5 73 RX5 yX5_barredTo wsX5_barredTo) := goodIn_app (goodIn_of _ (by decide +kernel)) ggX5_sayableBy_X5_barredTo
set_option maxRecDepth 20000 in
theorem ggX5_sayableBy_X5_allSights : GoodIn wsX5_sayableBy wsX5_allSights := goodIn_r _ [15, 16, 26, 27, 28, 29, 30, 31, 32, 33, 34, 35, 36, 37, 38, 39] (by decide +kernel) (by decide +kernel)
set_option maxRecDepth 20000 in
theorem gX5_sayableBy_X5_allSights : GoodIn wsX5_sayableBy (wsV RX5 87 RX5 yX5_allSights wsX5_allSights) := goodIn_app (goodIn_of _ (by decide +kernel)) ggX5_sayableBy_X5_allSights
set_option maxRecDepth 20000 in
theorem ggX5_sayableBy_X5_vouchedFor : GoodIn wsX5_sayableBy wsX5_vouchedFor := goodIn_r _ [20, 21, 22, 2, 10, 26, 27, 28, 29, 30, 31, 32, 33, 34, 35, 36, 37, 38, 39] (by decide +kernel) (by decide +kernel)
set_option maxRecDepth 20000 in
theorem gX5_sayableBy_X5_vouchedFor : GoodIn wsX5_sayableBy (wsV RX5 91 RX5 yX5_vouchedFor wsX5_vouchedFor) := goodIn_app (goodIn_of _ (by decide +kernel)) ggX5_sayableBy_X5_vouchedFor
set_option maxRecDepth 20000 in
theorem ggX5_sayableBy_X6_firstBits : GoodIn wsX5_sayableBy wsX6_firstBits := goodIn_r _ [25] (by decide +kernel) (by decide +kernel)
set_option maxRecDepth 20000 in
theorem gX5_sayableBy_X6_firstBits_n94 : GoodIn wsX5_sayableBy (wsX6_firstBits) := ggX5_sayableBy_X6_firstBits
theorem dX5_sayableBy_0 : decode cX5_sayableBy 0 = .ok (.aload_n 0, 1) := by decide +kernel
theorem dX5_sayableBy_1 : decode cX5_sayableBy 1 = .ok (.iload_n 1, 1) := by decide +kernel
theorem dX5_sayableBy_2 : decode cX5_sayableBy 2 = .ok (.invokevirtual 73, 3) := by decide +kernel
theorem dX5_sayableBy_5 : decode cX5_sayableBy 5 = .ok (.istore_n 2, 1) := by decide +kernel
theorem dX5_sayableBy_6 : decode cX5_sayableBy 6 = .ok (.aload_n 0, 1) := by decide +kernel
theorem dX5_sayableBy_7 : decode cX5_sayableBy 7 = .ok (.invokevirtual 87, 3) := by decide +kernel
theorem dX5_sayableBy_10 : decode cX5_sayableBy 10 = .ok (.iload_n 2, 1) := by decide +kernel
theorem dX5_sayableBy_11 : decode cX5_sayableBy 11 = .ok (.iconst (-1), 1) := by decide +kernel
theorem dX5_sayableBy_12 : decode cX5_sayableBy 12 = .ok (.ixor, 1) := by decide +kernel
theorem dX5_sayableBy_13 : decode cX5_sayableBy 13 = .ok (.iand, 1) := by decide +kernel
theorem dX5_sayableBy_14 : decode cX5_sayableBy 14 = .ok (.istore_n 3, 1) := by decide +kernel
theorem dX5_sayableBy_15 : decode cX5_sayableBy 15 = .ok (.aload_n 0, 1) := by decide +kernel
theorem dX5_sayableBy_16 : decode cX5_sayableBy 16 = .ok (.getfield 46, 3) := by decide +kernel
theorem dX5_sayableBy_19 : decode cX5_sayableBy 19 = .ok (.iload_n 1, 1) := by decide +kernel
theorem dX5_sayableBy_20 : decode cX5_sayableBy 20 = .ok (.iaload, 1) := by decide +kernel
theorem dX5_sayableBy_21 : decode cX5_sayableBy 21 = .ok (.tableswitch 55 1 3 #[27, 42, 44], 27) := by decide +kernel
theorem dX5_sayableBy_48 : decode cX5_sayableBy 48 = .ok (.aload_n 0, 1) := by decide +kernel
theorem dX5_sayableBy_49 : decode cX5_sayableBy 49 = .ok (.getfield 40, 3) := by decide +kernel
theorem dX5_sayableBy_52 : decode cX5_sayableBy 52 = .ok (.iload_n 1, 1) := by decide +kernel
theorem dX5_sayableBy_53 : decode cX5_sayableBy 53 = .ok (.iaload, 1) := by decide +kernel
theorem dX5_sayableBy_54 : decode cX5_sayableBy 54 = .ok (.iload_n 3, 1) := by decide +kernel
theorem dX5_sayableBy_55 : decode cX5_sayableBy 55 = .ok (.iand, 1) := by decide +kernel
theorem dX5_sayableBy_56 : decode cX5_sayableBy 56 = .ok (.aload_n 0, 1) := by decide +kernel
theorem dX5_sayableBy_57 : decode cX5_sayableBy 57 = .ok (.iload_n 1, 1) := by decide +kernel
theorem dX5_sayableBy_58 : decode cX5_sayableBy 58 = .ok (.invokevirtual 91, 3) := by decide +kernel
theorem dX5_sayableBy_61 : decode cX5_sayableBy 61 = .ok (.iand, 1) := by decide +kernel
theorem dX5_sayableBy_62 : decode cX5_sayableBy 62 = .ok (.ireturn, 1) := by decide +kernel
theorem dX5_sayableBy_63 : decode cX5_sayableBy 63 = .ok (.iload_n 3, 1) := by decide +kernel
theorem dX5_sayableBy_64 : decode cX5_sayableBy 64 = .ok (.ireturn, 1) := by decide +kernel
theorem dX5_sayableBy_65 : decode cX5_sayableBy 65 = .ok (.iload_n 3, 1) := by decide +kernel
theorem dX5_sayableBy_66 : decode cX5_sayableBy 66 = .ok (.iload_n 2, 1) := by decide +kernel
theorem dX5_sayableBy_67 : decode cX5_sayableBy 67 = .ok (.aload_n 0, 1) := by decide +kernel
theorem dX5_sayableBy_68 : decode cX5_sayableBy 68 = .ok (.getfield 24, 3) := by decide +kernel
theorem dX5_sayableBy_71 : decode cX5_sayableBy 71 = .ok (.invokestatic 94, 3) := by decide +kernel
theorem dX5_sayableBy_74 : decode cX5_sayableBy 74 = .ok (.ior, 1) := by decide +kernel
theorem dX5_sayableBy_75 : decode cX5_sayableBy 75 = .ok (.ireturn, 1) := by decide +kernel
theorem dX5_sayableBy_76 : decode cX5_sayableBy 76 = .ok (.aload_n 0, 1) := by decide +kernel
theorem dX5_sayableBy_77 : decode cX5_sayableBy 77 = .ok (.getfield 40, 3) := by decide +kernel
theorem dX5_sayableBy_80 : decode cX5_sayableBy 80 = .ok (.iload_n 1, 1) := by decide +kernel
theorem dX5_sayableBy_81 : decode cX5_sayableBy 81 = .ok (.iaload, 1) := by decide +kernel
theorem dX5_sayableBy_82 : decode cX5_sayableBy 82 = .ok (.iload_n 3, 1) := by decide +kernel
theorem dX5_sayableBy_83 : decode cX5_sayableBy 83 = .ok (.iand, 1) := by decide +kernel
theorem dX5_sayableBy_84 : decode cX5_sayableBy 84 = .ok (.ireturn, 1) := by decide +kernel
theorem dX5_vouchedFor_0 : decode cX5_vouchedFor 0 = .ok (.iconst 0, 1) := by decide +kernel
theorem dX5_vouchedFor_1 : decode cX5_vouchedFor 1 = .ok (.istore_n 2, 1) := by decide +kernel
theorem dX5_vouchedFor_2 : decode cX5_vouchedFor 2 = .ok (.iconst 0, 1) := by decide +kernel
theorem dX5_vouchedFor_3 : decode cX5_vouchedFor 3 = .ok (.istore_n 3, 1) := by decide +kernel
theorem dX5_vouchedFor_4 : decode cX5_vouchedFor 4 = .ok (.iload_n 3, 1) := by decide +kernel
theorem dX5_vouchedFor_5 : decode cX5_vouchedFor 5 = .ok (.aload_n 0, 1) := by decide +kernel
theorem dX5_vouchedFor_6 : decode cX5_vouchedFor 6 = .ok (.getfield 15, 3) := by decide +kernel
theorem dX5_vouchedFor_9 : decode cX5_vouchedFor 9 = .ok (.if_icmp .ge 38, 3) := by decide +kernel
theorem dX5_vouchedFor_12 : decode cX5_vouchedFor 12 = .ok (.aload_n 0, 1) := by decide +kernel
theorem dX5_vouchedFor_13 : decode cX5_vouchedFor 13 = .ok (.getfield 43, 3) := by decide +kernel
theorem dX5_vouchedFor_16 : decode cX5_vouchedFor 16 = .ok (.iload_n 1, 1) := by decide +kernel
theorem dX5_vouchedFor_17 : decode cX5_vouchedFor 17 = .ok (.iaload, 1) := by decide +kernel
theorem dX5_vouchedFor_18 : decode cX5_vouchedFor 18 = .ok (.iconst 1, 1) := by decide +kernel
theorem dX5_vouchedFor_19 : decode cX5_vouchedFor 19 = .ok (.iload_n 3, 1) := by decide +kernel
theorem dX5_vouchedFor_20 : decode cX5_vouchedFor 20 = .ok (.ishl, 1) := by decide +kernel
theorem dX5_vouchedFor_21 : decode cX5_vouchedFor 21 = .ok (.iand, 1) := by decide +kernel
theorem dX5_vouchedFor_22 : decode cX5_vouchedFor 22 = .ok (.ifCond .eq 19, 3) := by decide +kernel
theorem dX5_vouchedFor_25 : decode cX5_vouchedFor 25 = .ok (.iload_n 2, 1) := by decide +kernel
theorem dX5_vouchedFor_26 : decode cX5_vouchedFor 26 = .ok (.aload_n 0, 1) := by decide +kernel
theorem dX5_vouchedFor_27 : decode cX5_vouchedFor 27 = .ok (.getfield 40, 3) := by decide +kernel
theorem dX5_vouchedFor_30 : decode cX5_vouchedFor 30 = .ok (.iload_n 3, 1) := by decide +kernel
theorem dX5_vouchedFor_31 : decode cX5_vouchedFor 31 = .ok (.iaload, 1) := by decide +kernel
theorem dX5_vouchedFor_32 : decode cX5_vouchedFor 32 = .ok (.aload_n 0, 1) := by decide +kernel
theorem dX5_vouchedFor_33 : decode cX5_vouchedFor 33 = .ok (.getfield 33, 3) := by decide +kernel
theorem dX5_vouchedFor_36 : decode cX5_vouchedFor 36 = .ok (.iload_n 3, 1) := by decide +kernel
theorem dX5_vouchedFor_37 : decode cX5_vouchedFor 37 = .ok (.iaload, 1) := by decide +kernel
theorem dX5_vouchedFor_38 : decode cX5_vouchedFor 38 = .ok (.ior, 1) := by decide +kernel
theorem dX5_vouchedFor_39 : decode cX5_vouchedFor 39 = .ok (.ior, 1) := by decide +kernel
theorem dX5_vouchedFor_40 : decode cX5_vouchedFor 40 = .ok (.istore_n 2, 1) := by decide +kernel
theorem dX5_vouchedFor_41 : decode cX5_vouchedFor 41 = .ok (.iinc 3 1, 3) := by decide +kernel
theorem dX5_vouchedFor_44 : decode cX5_vouchedFor 44 = .ok (.goto (-40), 3) := by decide +kernel
theorem dX5_vouchedFor_47 : decode cX5_vouchedFor 47 = .ok (.iload_n 2, 1) := by decide +kernel
theorem dX5_vouchedFor_48 : decode cX5_vouchedFor 48 = .ok (.ireturn, 1) := by decide +kernel
set_option maxRecDepth 20000 in
theorem ggX5_knownInAll_X5_knownTo : GoodIn wsX5_knownInAll wsX5_knownTo := goodIn_r _ [6, 7, 8, 9, 17, 18, 19, 20, 21, 22, 23, 24, 25, 26, 27, 28, 29, 30] (by decide +kernel) (by decide +kernel)
set_option maxRecDepth 20000 in
theorem gX5_knownInAll_X5_knownTo : GoodIn wsX5_knownInAll (wsV RX5 69 RX5 yX5_knownTo wsX5_knownTo) := goodIn_app (goodIn_of _ (by decide +kernel)) ggX5_knownInAll_X5_knownTo
set_option maxRecDepth 20000 in
theorem ggX5_knownInAll_J6_bitCount_0f7a4 : GoodIn wsX5_knownInAll wsJ6_bitCount_0f7a4 := goodIn_r _ [13, 14, 15, 16] (by decide +kernel) (by decide +kernel)
set_option maxRecDepth 20000 in
theorem gX5_knownInAll_J6_bitCount_0f7a4 : GoodIn wsX5_knownInAll (va_wsS RX5 76 yJ6_bitCount_0f7a4 wsJ6_bitCount_0f7a4) := goodIn_app (goodIn_of _ (by decide +kernel)) ggX5_knownInAll_J6_bitCount_0f7a4
theorem dX5_knownInAll_0 : decode cX5_knownInAll 0 = .ok (.iconst 0, 1) := by decide +kernel
theorem dX5_knownInAll_1 : decode cX5_knownInAll 1 = .ok (.istore_n 1, 1) := by decide +kernel
theorem dX5_knownInAll_2 : decode cX5_knownInAll 2 = .ok (.iconst 0, 1) := by decide +kernel
theorem dX5_knownInAll_3 : decode cX5_knownInAll 3 = .ok (.istore_n 2, 1) := by decide +kernel
theorem dX5_knownInAll_4 : decode cX5_knownInAll 4 = .ok (.iload_n 2, 1) := by decide +kernel
theorem dX5_knownInAll_5 : decode cX5_knownInAll 5 = .ok (.aload_n 0, 1) := by decide +kernel
theorem dX5_knownInAll_6 : decode cX5_knownInAll 6 = .ok (.getfield 15, 3) := by decide +kernel
theorem dX5_knownInAll_9 : decode cX5_knownInAll 9 = .ok (.if_icmp .ge 20, 3) := by decide +kernel
theorem dX5_knownInAll_12 : decode cX5_knownInAll 12 = .ok (.iload_n 1, 1) := by decide +kernel
theorem dX5_knownInAll_13 : decode cX5_knownInAll 13 = .ok (.aload_n 0, 1) := by decide +kernel
theorem dX5_knownInAll_14 : decode cX5_knownInAll 14 = .ok (.iload_n 2, 1) := by decide +kernel
theorem dX5_knownInAll_15 : decode cX5_knownInAll 15 = .ok (.invokevirtual 69, 3) := by decide +kernel
theorem dX5_knownInAll_18 : decode cX5_knownInAll 18 = .ok (.invokestatic 76, 3) := by decide +kernel
theorem dX5_knownInAll_21 : decode cX5_knownInAll 21 = .ok (.iadd, 1) := by decide +kernel
theorem dX5_knownInAll_22 : decode cX5_knownInAll 22 = .ok (.istore_n 1, 1) := by decide +kernel
theorem dX5_knownInAll_23 : decode cX5_knownInAll 23 = .ok (.iinc 2 1, 3) := by decide +kernel
theorem dX5_knownInAll_26 : decode cX5_knownInAll 26 = .ok (.goto (-22), 3) := by decide +kernel
theorem dX5_knownInAll_29 : decode cX5_knownInAll 29 = .ok (.iload_n 1, 1) := by decide +kernel
theorem dX5_knownInAll_30 : decode cX5_knownInAll 30 = .ok (.ireturn, 1) := by decide +kernel
set_option maxRecDepth 20000 in
theorem ggX5_whoMaySay_X5_sayableBy : GoodIn wsX5_whoMaySay wsX5_sayableBy := goodIn_r _ [6, 7, 8, 9, 10, 11, 12, 5, 13, 14, 15, 16, 17, 18, 19, 20, 21, 22, 23, 24, 25, 1, 26, 27, 28, 29, 34, 35, 36, 37, 38, 39, 40, 41, 42, 43, 44, 45, 46, 47] (by decide +kernel) (by decide +kernel)
set_option maxRecDepth 20000 in
theorem gX5_whoMaySay_X5_sayableBy : GoodIn wsX5_whoMaySay (wsV RX5 84 RX5 yX5_sayableBy wsX5_sayableBy) := goodIn_app (goodIn_of _ (by decide +kernel)) ggX5_whoMaySay_X5_sayableBy
set_option maxRecDepth 20000 in
theorem ggX5_whoMaySay_X6_has : GoodIn wsX5_whoMaySay wsX6_has := goodIn_r _ [31] (by decide +kernel) (by decide +kernel)
set_option maxRecDepth 20000 in
theorem gX5_whoMaySay_X6_has_n65 : GoodIn wsX5_whoMaySay (wsX6_has) := ggX5_whoMaySay_X6_has
set_option maxRecDepth 20000 in
theorem ggX5_whoMaySay_X6_with : GoodIn wsX5_whoMaySay wsX6_with := goodIn_r _ [33] (by decide +kernel) (by decide +kernel)
set_option maxRecDepth 20000 in
theorem gX5_whoMaySay_X6_with_n61 : GoodIn wsX5_whoMaySay (wsX6_with) := ggX5_whoMaySay_X6_with
theorem dX5_whoMaySay_0 : decode cX5_whoMaySay 0 = .ok (.iconst 0, 1) := by decide +kernel
theorem dX5_whoMaySay_1 : decode cX5_whoMaySay 1 = .ok (.istore_n 2, 1) := by decide +kernel
theorem dX5_whoMaySay_2 : decode cX5_whoMaySay 2 = .ok (.iconst 0, 1) := by decide +kernel
theorem dX5_whoMaySay_3 : decode cX5_whoMaySay 3 = .ok (.istore_n 3, 1) := by decide +kernel
theorem dX5_whoMaySay_4 : decode cX5_whoMaySay 4 = .ok (.iload_n 3, 1) := by decide +kernel
theorem dX5_whoMaySay_5 : decode cX5_whoMaySay 5 = .ok (.aload_n 0, 1) := by decide +kernel
theorem dX5_whoMaySay_6 : decode cX5_whoMaySay 6 = .ok (.getfield 15, 3) := by decide +kernel
theorem dX5_whoMaySay_9 : decode cX5_whoMaySay 9 = .ok (.if_icmp .ge 24, 3) := by decide +kernel
theorem dX5_whoMaySay_12 : decode cX5_whoMaySay 12 = .ok (.iload_n 2, 1) := by decide +kernel
theorem dX5_whoMaySay_13 : decode cX5_whoMaySay 13 = .ok (.iload_n 3, 1) := by decide +kernel
theorem dX5_whoMaySay_14 : decode cX5_whoMaySay 14 = .ok (.aload_n 0, 1) := by decide +kernel
theorem dX5_whoMaySay_15 : decode cX5_whoMaySay 15 = .ok (.iload_n 3, 1) := by decide +kernel
theorem dX5_whoMaySay_16 : decode cX5_whoMaySay 16 = .ok (.invokevirtual 84, 3) := by decide +kernel
theorem dX5_whoMaySay_19 : decode cX5_whoMaySay 19 = .ok (.iload_n 1, 1) := by decide +kernel
theorem dX5_whoMaySay_20 : decode cX5_whoMaySay 20 = .ok (.invokestatic 65, 3) := by decide +kernel
theorem dX5_whoMaySay_23 : decode cX5_whoMaySay 23 = .ok (.invokestatic 61, 3) := by decide +kernel
theorem dX5_whoMaySay_26 : decode cX5_whoMaySay 26 = .ok (.istore_n 2, 1) := by decide +kernel
theorem dX5_whoMaySay_27 : decode cX5_whoMaySay 27 = .ok (.iinc 3 1, 3) := by decide +kernel
theorem dX5_whoMaySay_30 : decode cX5_whoMaySay 30 = .ok (.goto (-26), 3) := by decide +kernel
theorem dX5_whoMaySay_33 : decode cX5_whoMaySay 33 = .ok (.iload_n 2, 1) := by decide +kernel
theorem dX5_whoMaySay_34 : decode cX5_whoMaySay 34 = .ok (.ireturn, 1) := by decide +kernel
set_option maxRecDepth 20000 in
theorem ggX5_whoIsBarred_X5_barredTo : GoodIn wsX5_whoIsBarred wsX5_barredTo := goodIn_r _ [6, 7, 8, 9, 15, 16, 17, 18, 19, 20, 21, 22, 23, 24, 25, 26, 27, 28] (by decide +kernel) (by decide +kernel)
set_option maxRecDepth 20000 in
theorem gX5_whoIsBarred_X5_barredTo : GoodIn wsX5_whoIsBarred (wsV RX5 73 RX5 yX5_barredTo wsX5_barredTo) := goodIn_app (goodIn_of _ (by decide +kernel)) ggX5_whoIsBarred_X5_barredTo
set_option maxRecDepth 20000 in
theorem ggX5_whoIsBarred_X6_has : GoodIn wsX5_whoIsBarred wsX6_has := goodIn_r _ [12] (by decide +kernel) (by decide +kernel)
set_option maxRecDepth 20000 in
theorem gX5_whoIsBarred_X6_has_n65 : GoodIn wsX5_whoIsBarred (wsX6_has) := ggX5_whoIsBarred_X6_has
set_option maxRecDepth 20000 in
theorem ggX5_whoIsBarred_X6_with : GoodIn wsX5_whoIsBarred wsX6_with := goodIn_r _ [14] (by decide +kernel) (by decide +kernel)
set_option maxRecDepth 20000 in
theorem gX5_whoIsBarred_X6_with_n61 : GoodIn wsX5_whoIsBarred (wsX6_with) := ggX5_whoIsBarred_X6_with
theorem dX5_whoIsBarred_0 : decode cX5_whoIsBarred 0 = .ok (.iconst 0, 1) := by decide +kernel
theorem dX5_whoIsBarred_1 : decode cX5_whoIsBarred 1 = .ok (.istore_n 2, 1) := by decide +kernel
theorem dX5_whoIsBarred_2 : decode cX5_whoIsBarred 2 = .ok (.iconst 0, 1) := by decide +kernel
theorem dX5_whoIsBarred_3 : decode cX5_whoIsBarred 3 = .ok (.istore_n 3, 1) := by decide +kernel
theorem dX5_whoIsBarred_4 : decode cX5_whoIsBarred 4 = .ok (.iload_n 3, 1) := by decide +kernel
theorem dX5_whoIsBarred_5 : decode cX5_whoIsBarred 5 = .ok (.aload_n 0, 1) := by decide +kernel
theorem dX5_whoIsBarred_6 : decode cX5_whoIsBarred 6 = .ok (.getfield 15, 3) := by decide +kernel
theorem dX5_whoIsBarred_9 : decode cX5_whoIsBarred 9 = .ok (.if_icmp .ge 24, 3) := by decide +kernel
theorem dX5_whoIsBarred_12 : decode cX5_whoIsBarred 12 = .ok (.iload_n 2, 1) := by decide +kernel
theorem dX5_whoIsBarred_13 : decode cX5_whoIsBarred 13 = .ok (.iload_n 3, 1) := by decide +kernel
theorem dX5_whoIsBarred_14 : decode cX5_whoIsBarred 14 = .ok (.aload_n 0, 1) := by decide +kernel
theorem dX5_whoIsBarred_15 : decode cX5_whoIsBarred 15 = .ok (.iload_n 3, 1) := by decide +kernel
theorem dX5_whoIsBarred_16 : decode cX5_whoIsBarred 16 = .ok (.invokevirtual 73, 3) := by decide +kernel
theorem dX5_whoIsBarred_19 : decode cX5_whoIsBarred 19 = .ok (.iload_n 1, 1) := by decide +kernel
theorem dX5_whoIsBarred_20 : decode cX5_whoIsBarred 20 = .ok (.invokestatic 65, 3) := by decide +kernel
theorem dX5_whoIsBarred_23 : decode cX5_whoIsBarred 23 = .ok (.invokestatic 61, 3) := by decide +kernel
theorem dX5_whoIsBarred_26 : decode cX5_whoIsBarred 26 = .ok (.istore_n 2, 1) := by decide +kernel
theorem dX5_whoIsBarred_27 : decode cX5_whoIsBarred 27 = .ok (.iinc 3 1, 3) := by decide +kernel
theorem dX5_whoIsBarred_30 : decode cX5_whoIsBarred 30 = .ok (.goto (-26), 3) := by decide +kernel
theorem dX5_whoIsBarred_33 : decode cX5_whoIsBarred 33 = .ok (.iload_n 2, 1) := by decide +kernel
theorem dX5_whoIsBarred_34 : decode cX5_whoIsBarred 34 = .ok (.ireturn, 1) := by decide +kernel
set_option maxRecDepth 20000 in
theorem ggX5_whoKnows_X5_knownTo : GoodIn wsX5_whoKnows wsX5_knownTo := goodIn_r _ [6, 7, 8, 9, 15, 16, 17, 18, 19, 20, 21, 22, 23, 24, 25, 26, 27, 28] (by decide +kernel) (by decide +kernel)
set_option maxRecDepth 20000 in
theorem gX5_whoKnows_X5_knownTo : GoodIn wsX5_whoKnows (wsV RX5 69 RX5 yX5_knownTo wsX5_knownTo) := goodIn_app (goodIn_of _ (by decide +kernel)) ggX5_whoKnows_X5_knownTo
set_option maxRecDepth 20000 in
theorem ggX5_whoKnows_X6_has : GoodIn wsX5_whoKnows wsX6_has := goodIn_r _ [12] (by decide +kernel) (by decide +kernel)
set_option maxRecDepth 20000 in
theorem gX5_whoKnows_X6_has_n65 : GoodIn wsX5_whoKnows (wsX6_has) := ggX5_whoKnows_X6_has
set_option maxRecDepth 20000 in
theorem ggX5_whoKnows_X6_with : GoodIn wsX5_whoKnows wsX6_with := goodIn_r _ [14] (by decide +kernel) (by decide +kernel)
set_option maxRecDepth 20000 in
theorem gX5_whoKnows_X6_with_n61 : GoodIn wsX5_whoKnows (wsX6_with) := ggX5_whoKnows_X6_with
theorem dX5_whoKnows_0 : decode cX5_whoKnows 0 = .ok (.iconst 0, 1) := by decide +kernel
theorem dX5_whoKnows_1 : decode cX5_whoKnows 1 = .ok (.istore_n 2, 1) := by decide +kernel
theorem dX5_whoKnows_2 : decode cX5_whoKnows 2 = .ok (.iconst 0, 1) := by decide +kernel
theorem dX5_whoKnows_3 : decode cX5_whoKnows 3 = .ok (.istore_n 3, 1) := by decide +kernel
theorem dX5_whoKnows_4 : decode cX5_whoKnows 4 = .ok (.iload_n 3, 1) := by decide +kernel
theorem dX5_whoKnows_5 : decode cX5_whoKnows 5 = .ok (.aload_n 0, 1) := by decide +kernel
theorem dX5_whoKnows_6 : decode cX5_whoKnows 6 = .ok (.getfield 15, 3) := by decide +kernel
theorem dX5_whoKnows_9 : decode cX5_whoKnows 9 = .ok (.if_icmp .ge 24, 3) := by decide +kernel
theorem dX5_whoKnows_12 : decode cX5_whoKnows 12 = .ok (.iload_n 2, 1) := by decide +kernel
theorem dX5_whoKnows_13 : decode cX5_whoKnows 13 = .ok (.iload_n 3, 1) := by decide +kernel
theorem dX5_whoKnows_14 : decode cX5_whoKnows 14 = .ok (.aload_n 0, 1) := by decide +kernel
theorem dX5_whoKnows_15 : decode cX5_whoKnows 15 = .ok (.iload_n 3, 1) := by decide +kernel
theorem dX5_whoKnows_16 : decode cX5_whoKnows 16 = .ok (.invokevirtual 69, 3) := by decide +kernel
theorem dX5_whoKnows_19 : decode cX5_whoKnows 19 = .ok (.iload_n 1, 1) := by decide +kernel
theorem dX5_whoKnows_20 : decode cX5_whoKnows 20 = .ok (.invokestatic 65, 3) := by decide +kernel
theorem dX5_whoKnows_23 : decode cX5_whoKnows 23 = .ok (.invokestatic 61, 3) := by decide +kernel
theorem dX5_whoKnows_26 : decode cX5_whoKnows 26 = .ok (.istore_n 2, 1) := by decide +kernel
theorem dX5_whoKnows_27 : decode cX5_whoKnows 27 = .ok (.iinc 3 1, 3) := by decide +kernel
theorem dX5_whoKnows_30 : decode cX5_whoKnows 30 = .ok (.goto (-26), 3) := by decide +kernel
theorem dX5_whoKnows_33 : decode cX5_whoKnows 33 = .ok (.iload_n 2, 1) := by decide +kernel
theorem dX5_whoKnows_34 : decode cX5_whoKnows 34 = .ok (.ireturn, 1) := by decide +kernel
set_option maxRecDepth 20000 in
theorem ggX5_whoIsUnheard_X5_allPeople : GoodIn wsX5_whoIsUnheard wsX5_allPeople := goodIn_r _ [7, 1, 8, 9, 10, 11, 12, 13, 14, 15, 16, 17, 18, 19, 20, 21] (by decide +kernel) (by decide +kernel)
set_option maxRecDepth 20000 in
theorem gX5_whoIsUnheard_X5_allPeople : GoodIn wsX5_whoIsUnheard (wsV RX5 98 RX5 yX5_allPeople wsX5_allPeople) := goodIn_app (goodIn_of _ (by decide +kernel)) ggX5_whoIsUnheard_X5_allPeople
theorem dX5_whoIsUnheard_0 : decode cX5_whoIsUnheard 0 = .ok (.iconst 0, 1) := by decide +kernel
theorem dX5_whoIsUnheard_1 : decode cX5_whoIsUnheard 1 = .ok (.istore_n 1, 1) := by decide +kernel
theorem dX5_whoIsUnheard_2 : decode cX5_whoIsUnheard 2 = .ok (.iconst 0, 1) := by decide +kernel
theorem dX5_whoIsUnheard_3 : decode cX5_whoIsUnheard 3 = .ok (.istore_n 2, 1) := by decide +kernel
theorem dX5_whoIsUnheard_4 : decode cX5_whoIsUnheard 4 = .ok (.iload_n 2, 1) := by decide +kernel
theorem dX5_whoIsUnheard_5 : decode cX5_whoIsUnheard 5 = .ok (.aload_n 0, 1) := by decide +kernel
theorem dX5_whoIsUnheard_6 : decode cX5_whoIsUnheard 6 = .ok (.getfield 15, 3) := by decide +kernel
theorem dX5_whoIsUnheard_9 : decode cX5_whoIsUnheard 9 = .ok (.if_icmp .ge 18, 3) := by decide +kernel
theorem dX5_whoIsUnheard_12 : decode cX5_whoIsUnheard 12 = .ok (.iload_n 1, 1) := by decide +kernel
theorem dX5_whoIsUnheard_13 : decode cX5_whoIsUnheard 13 = .ok (.aload_n 0, 1) := by decide +kernel
theorem dX5_whoIsUnheard_14 : decode cX5_whoIsUnheard 14 = .ok (.getfield 43, 3) := by decide +kernel
theorem dX5_whoIsUnheard_17 : decode cX5_whoIsUnheard 17 = .ok (.iload_n 2, 1) := by decide +kernel
theorem dX5_whoIsUnheard_18 : decode cX5_whoIsUnheard 18 = .ok (.iaload, 1) := by decide +kernel
theorem dX5_whoIsUnheard_19 : decode cX5_whoIsUnheard 19 = .ok (.ior, 1) := by decide +kernel
theorem dX5_whoIsUnheard_20 : decode cX5_whoIsUnheard 20 = .ok (.istore_n 1, 1) := by decide +kernel
theorem dX5_whoIsUnheard_21 : decode cX5_whoIsUnheard 21 = .ok (.iinc 2 1, 3) := by decide +kernel
theorem dX5_whoIsUnheard_24 : decode cX5_whoIsUnheard 24 = .ok (.goto (-20), 3) := by decide +kernel
theorem dX5_whoIsUnheard_27 : decode cX5_whoIsUnheard 27 = .ok (.aload_n 0, 1) := by decide +kernel
theorem dX5_whoIsUnheard_28 : decode cX5_whoIsUnheard 28 = .ok (.invokevirtual 98, 3) := by decide +kernel
theorem dX5_whoIsUnheard_31 : decode cX5_whoIsUnheard 31 = .ok (.iload_n 1, 1) := by decide +kernel
theorem dX5_whoIsUnheard_32 : decode cX5_whoIsUnheard 32 = .ok (.iconst (-1), 1) := by decide +kernel
theorem dX5_whoIsUnheard_33 : decode cX5_whoIsUnheard 33 = .ok (.ixor, 1) := by decide +kernel
theorem dX5_whoIsUnheard_34 : decode cX5_whoIsUnheard 34 = .ok (.iand, 1) := by decide +kernel
theorem dX5_whoIsUnheard_35 : decode cX5_whoIsUnheard 35 = .ok (.ireturn, 1) := by decide +kernel
set_option maxRecDepth 20000 in
theorem ggX5_whoMaySayMost_X5_sayableBy : GoodIn wsX5_whoMaySayMost wsX5_sayableBy := goodIn_r _ [6, 7, 8, 9, 10, 11, 12, 5, 13, 14, 15, 16, 17, 18, 19, 20, 21, 22, 23, 24, 25, 1, 26, 27, 28, 29, 37, 38, 39, 40, 41, 42, 43, 44, 45, 46, 47, 48, 49, 50] (by decide +kernel) (by decide +kernel)
set_option maxRecDepth 20000 in
theorem gX5_whoMaySayMost_X5_sayableBy : GoodIn wsX5_whoMaySayMost (wsV RX5 84 RX5 yX5_sayableBy wsX5_sayableBy) := goodIn_app (goodIn_of _ (by decide +kernel)) ggX5_whoMaySayMost_X5_sayableBy
set_option maxRecDepth 20000 in
theorem ggX5_whoMaySayMost_J6_bitCount_0f7a4 : GoodIn wsX5_whoMaySayMost wsJ6_bitCount_0f7a4 := goodIn_r _ [33, 34, 35, 36] (by decide +kernel) (by decide +kernel)
set_option maxRecDepth 20000 in
theorem gX5_whoMaySayMost_J6_bitCount_0f7a4 : GoodIn wsX5_whoMaySayMost (va_wsS RX5 76 yJ6_bitCount_0f7a4 wsJ6_bitCount_0f7a4) := goodIn_app (goodIn_of _ (by decide +kernel)) ggX5_whoMaySayMost_J6_bitCount_0f7a4
theorem dX5_whoMaySayMost_0 : decode cX5_whoMaySayMost 0 = .ok (.iconst (-1), 1) := by decide +kernel
theorem dX5_whoMaySayMost_1 : decode cX5_whoMaySayMost 1 = .ok (.istore_n 1, 1) := by decide +kernel
theorem dX5_whoMaySayMost_2 : decode cX5_whoMaySayMost 2 = .ok (.iconst (-1), 1) := by decide +kernel
theorem dX5_whoMaySayMost_3 : decode cX5_whoMaySayMost 3 = .ok (.istore_n 2, 1) := by decide +kernel
theorem dX5_whoMaySayMost_4 : decode cX5_whoMaySayMost 4 = .ok (.iconst 0, 1) := by decide +kernel
theorem dX5_whoMaySayMost_5 : decode cX5_whoMaySayMost 5 = .ok (.istore_n 3, 1) := by decide +kernel
theorem dX5_whoMaySayMost_6 : decode cX5_whoMaySayMost 6 = .ok (.iload_n 3, 1) := by decide +kernel
theorem dX5_whoMaySayMost_7 : decode cX5_whoMaySayMost 7 = .ok (.aload_n 0, 1) := by decide +kernel
theorem dX5_whoMaySayMost_8 : decode cX5_whoMaySayMost 8 = .ok (.getfield 15, 3) := by decide +kernel
theorem dX5_whoMaySayMost_11 : decode cX5_whoMaySayMost 11 = .ok (.if_icmp .ge 30, 3) := by decide +kernel
theorem dX5_whoMaySayMost_14 : decode cX5_whoMaySayMost 14 = .ok (.aload_n 0, 1) := by decide +kernel
theorem dX5_whoMaySayMost_15 : decode cX5_whoMaySayMost 15 = .ok (.iload_n 3, 1) := by decide +kernel
theorem dX5_whoMaySayMost_16 : decode cX5_whoMaySayMost 16 = .ok (.invokevirtual 84, 3) := by decide +kernel
theorem dX5_whoMaySayMost_19 : decode cX5_whoMaySayMost 19 = .ok (.invokestatic 76, 3) := by decide +kernel
theorem dX5_whoMaySayMost_22 : decode cX5_whoMaySayMost 22 = .ok (.istore 4, 2) := by decide +kernel
theorem dX5_whoMaySayMost_24 : decode cX5_whoMaySayMost 24 = .ok (.iload 4, 2) := by decide +kernel
theorem dX5_whoMaySayMost_26 : decode cX5_whoMaySayMost 26 = .ok (.iload_n 2, 1) := by decide +kernel
theorem dX5_whoMaySayMost_27 : decode cX5_whoMaySayMost 27 = .ok (.if_icmp .le 8, 3) := by decide +kernel
theorem dX5_whoMaySayMost_30 : decode cX5_whoMaySayMost 30 = .ok (.iload 4, 2) := by decide +kernel
theorem dX5_whoMaySayMost_32 : decode cX5_whoMaySayMost 32 = .ok (.istore_n 2, 1) := by decide +kernel
theorem dX5_whoMaySayMost_33 : decode cX5_whoMaySayMost 33 = .ok (.iload_n 3, 1) := by decide +kernel
theorem dX5_whoMaySayMost_34 : decode cX5_whoMaySayMost 34 = .ok (.istore_n 1, 1) := by decide +kernel
theorem dX5_whoMaySayMost_35 : decode cX5_whoMaySayMost 35 = .ok (.iinc 3 1, 3) := by decide +kernel
theorem dX5_whoMaySayMost_38 : decode cX5_whoMaySayMost 38 = .ok (.goto (-32), 3) := by decide +kernel
theorem dX5_whoMaySayMost_41 : decode cX5_whoMaySayMost 41 = .ok (.iload_n 1, 1) := by decide +kernel
theorem dX5_whoMaySayMost_42 : decode cX5_whoMaySayMost 42 = .ok (.ireturn, 1) := by decide +kernel
set_option maxRecDepth 20000 in
theorem ggX5_pairsHearing_X6_has : GoodIn wsX5_pairsHearing wsX6_has := goodIn_r _ [5] (by decide +kernel) (by decide +kernel)
set_option maxRecDepth 20000 in
theorem gX5_pairsHearing_X6_has_n65 : GoodIn wsX5_pairsHearing (wsX6_has) := ggX5_pairsHearing_X6_has
theorem dX5_pairsHearing_0 : decode cX5_pairsHearing 0 = .ok (.iconst 0, 1) := by decide +kernel
theorem dX5_pairsHearing_1 : decode cX5_pairsHearing 1 = .ok (.istore_n 1, 1) := by decide +kernel
theorem dX5_pairsHearing_2 : decode cX5_pairsHearing 2 = .ok (.iconst 0, 1) := by decide +kernel
theorem dX5_pairsHearing_3 : decode cX5_pairsHearing 3 = .ok (.istore_n 2, 1) := by decide +kernel
theorem dX5_pairsHearing_4 : decode cX5_pairsHearing 4 = .ok (.iload_n 2, 1) := by decide +kernel
theorem dX5_pairsHearing_5 : decode cX5_pairsHearing 5 = .ok (.aload_n 0, 1) := by decide +kernel
theorem dX5_pairsHearing_6 : decode cX5_pairsHearing 6 = .ok (.getfield 15, 3) := by decide +kernel
theorem dX5_pairsHearing_9 : decode cX5_pairsHearing 9 = .ok (.if_icmp .ge 51, 3) := by decide +kernel
theorem dX5_pairsHearing_12 : decode cX5_pairsHearing 12 = .ok (.iconst 0, 1) := by decide +kernel
theorem dX5_pairsHearing_13 : decode cX5_pairsHearing 13 = .ok (.istore_n 3, 1) := by decide +kernel
theorem dX5_pairsHearing_14 : decode cX5_pairsHearing 14 = .ok (.iload_n 3, 1) := by decide +kernel
theorem dX5_pairsHearing_15 : decode cX5_pairsHearing 15 = .ok (.iload_n 2, 1) := by decide +kernel
theorem dX5_pairsHearing_16 : decode cX5_pairsHearing 16 = .ok (.if_icmp .ge 38, 3) := by decide +kernel
theorem dX5_pairsHearing_19 : decode cX5_pairsHearing 19 = .ok (.aload_n 0, 1) := by decide +kernel
theorem dX5_pairsHearing_20 : decode cX5_pairsHearing 20 = .ok (.getfield 43, 3) := by decide +kernel
theorem dX5_pairsHearing_23 : decode cX5_pairsHearing 23 = .ok (.iload_n 2, 1) := by decide +kernel
theorem dX5_pairsHearing_24 : decode cX5_pairsHearing 24 = .ok (.iaload, 1) := by decide +kernel
theorem dX5_pairsHearing_25 : decode cX5_pairsHearing 25 = .ok (.iload_n 3, 1) := by decide +kernel
theorem dX5_pairsHearing_26 : decode cX5_pairsHearing 26 = .ok (.invokestatic 65, 3) := by decide +kernel
theorem dX5_pairsHearing_29 : decode cX5_pairsHearing 29 = .ok (.ifCond .eq 19, 3) := by decide +kernel
theorem dX5_pairsHearing_32 : decode cX5_pairsHearing 32 = .ok (.aload_n 0, 1) := by decide +kernel
theorem dX5_pairsHearing_33 : decode cX5_pairsHearing 33 = .ok (.getfield 43, 3) := by decide +kernel
theorem dX5_pairsHearing_36 : decode cX5_pairsHearing 36 = .ok (.iload_n 3, 1) := by decide +kernel
theorem dX5_pairsHearing_37 : decode cX5_pairsHearing 37 = .ok (.iaload, 1) := by decide +kernel
theorem dX5_pairsHearing_38 : decode cX5_pairsHearing 38 = .ok (.iload_n 2, 1) := by decide +kernel
theorem dX5_pairsHearing_39 : decode cX5_pairsHearing 39 = .ok (.invokestatic 65, 3) := by decide +kernel
theorem dX5_pairsHearing_42 : decode cX5_pairsHearing 42 = .ok (.ifCond .eq 6, 3) := by decide +kernel
theorem dX5_pairsHearing_45 : decode cX5_pairsHearing 45 = .ok (.iinc 1 1, 3) := by decide +kernel
theorem dX5_pairsHearing_48 : decode cX5_pairsHearing 48 = .ok (.iinc 3 1, 3) := by decide +kernel
theorem dX5_pairsHearing_51 : decode cX5_pairsHearing 51 = .ok (.goto (-37), 3) := by decide +kernel
theorem dX5_pairsHearing_54 : decode cX5_pairsHearing 54 = .ok (.iinc 2 1, 3) := by decide +kernel
theorem dX5_pairsHearing_57 : decode cX5_pairsHearing 57 = .ok (.goto (-53), 3) := by decide +kernel
theorem dX5_pairsHearing_60 : decode cX5_pairsHearing 60 = .ok (.iload_n 1, 1) := by decide +kernel
theorem dX5_pairsHearing_61 : decode cX5_pairsHearing 61 = .ok (.ireturn, 1) := by decide +kernel
set_option maxRecDepth 20000 in
theorem ggX5_hearersOf_X6_with : GoodIn wsX5_hearersOf wsX6_with := goodIn_r _ [5] (by decide +kernel) (by decide +kernel)
set_option maxRecDepth 20000 in
theorem gX5_hearersOf_X6_with_n61 : GoodIn wsX5_hearersOf (wsX6_with) := ggX5_hearersOf_X6_with
theorem dX5_hearersOf_0 : decode cX5_hearersOf 0 = .ok (.iconst 0, 1) := by decide +kernel
theorem dX5_hearersOf_1 : decode cX5_hearersOf 1 = .ok (.istore_n 2, 1) := by decide +kernel
theorem dX5_hearersOf_2 : decode cX5_hearersOf 2 = .ok (.iconst 0, 1) := by decide +kernel
theorem dX5_hearersOf_3 : decode cX5_hearersOf 3 = .ok (.istore_n 3, 1) := by decide +kernel
theorem dX5_hearersOf_4 : decode cX5_hearersOf 4 = .ok (.iload_n 3, 1) := by decide +kernel
theorem dX5_hearersOf_5 : decode cX5_hearersOf 5 = .ok (.aload_n 0, 1) := by decide +kernel
theorem dX5_hearersOf_6 : decode cX5_hearersOf 6 = .ok (.getfield 15, 3) := by decide +kernel
theorem dX5_hearersOf_9 : decode cX5_hearersOf 9 = .ok (.if_icmp .ge 31, 3) := by decide +kernel
theorem dX5_hearersOf_12 : decode cX5_hearersOf 12 = .ok (.iload_n 2, 1) := by decide +kernel
theorem dX5_hearersOf_13 : decode cX5_hearersOf 13 = .ok (.iload_n 3, 1) := by decide +kernel
theorem dX5_hearersOf_14 : decode cX5_hearersOf 14 = .ok (.aload_n 0, 1) := by decide +kernel
theorem dX5_hearersOf_15 : decode cX5_hearersOf 15 = .ok (.getfield 43, 3) := by decide +kernel
theorem dX5_hearersOf_18 : decode cX5_hearersOf 18 = .ok (.iload_n 3, 1) := by decide +kernel
theorem dX5_hearersOf_19 : decode cX5_hearersOf 19 = .ok (.iaload, 1) := by decide +kernel
theorem dX5_hearersOf_20 : decode cX5_hearersOf 20 = .ok (.iload_n 1, 1) := by decide +kernel
theorem dX5_hearersOf_21 : decode cX5_hearersOf 21 = .ok (.iand, 1) := by decide +kernel
theorem dX5_hearersOf_22 : decode cX5_hearersOf 22 = .ok (.ifCond .eq 7, 3) := by decide +kernel
theorem dX5_hearersOf_25 : decode cX5_hearersOf 25 = .ok (.iconst 1, 1) := by decide +kernel
theorem dX5_hearersOf_26 : decode cX5_hearersOf 26 = .ok (.goto 4, 3) := by decide +kernel
theorem dX5_hearersOf_29 : decode cX5_hearersOf 29 = .ok (.iconst 0, 1) := by decide +kernel
theorem dX5_hearersOf_30 : decode cX5_hearersOf 30 = .ok (.invokestatic 61, 3) := by decide +kernel
theorem dX5_hearersOf_33 : decode cX5_hearersOf 33 = .ok (.istore_n 2, 1) := by decide +kernel
theorem dX5_hearersOf_34 : decode cX5_hearersOf 34 = .ok (.iinc 3 1, 3) := by decide +kernel
theorem dX5_hearersOf_37 : decode cX5_hearersOf 37 = .ok (.goto (-33), 3) := by decide +kernel
theorem dX5_hearersOf_40 : decode cX5_hearersOf 40 = .ok (.iload_n 2, 1) := by decide +kernel
theorem dX5_hearersOf_41 : decode cX5_hearersOf 41 = .ok (.ireturn, 1) := by decide +kernel
set_option maxRecDepth 20000 in
theorem ggX5_sayingsBetween_X5_whoIsBarred : GoodIn wsX5_sayingsBetween wsX5_whoIsBarred := goodIn_r _ [6, 1, 7, 8, 9, 5, 10, 11, 12, 13, 14, 15, 16, 17, 18, 24, 25, 26, 27, 28, 29, 30, 31, 32, 33, 34, 35, 36, 37] (by decide +kernel) (by decide +kernel)
set_option maxRecDepth 20000 in
theorem gX5_sayingsBetween_X5_whoIsBarred : GoodIn wsX5_sayingsBetween (wsV RX5 101 RX5 yX5_whoIsBarred wsX5_whoIsBarred) := goodIn_app (goodIn_of _ (by decide +kernel)) ggX5_sayingsBetween_X5_whoIsBarred
set_option maxRecDepth 20000 in
theorem ggX5_sayingsBetween_X6_has : GoodIn wsX5_sayingsBetween wsX6_has := goodIn_r _ [16] (by decide +kernel) (by decide +kernel)
set_option maxRecDepth 20000 in
theorem gX5_sayingsBetween_X6_has_n65 : GoodIn wsX5_sayingsBetween (wsX6_has) := ggX5_sayingsBetween_X6_has
set_option maxRecDepth 20000 in
theorem ggX5_sayingsBetween_X5_hearersOf : GoodIn wsX5_sayingsBetween wsX5_hearersOf := goodIn_r _ [22, 1, 23, 17, 15, 18, 24, 25, 26, 27, 28, 29, 30, 31, 32, 33, 34, 35, 36, 37] (by decide +kernel) (by decide +kernel)
set_option maxRecDepth 20000 in
theorem gX5_sayingsBetween_X5_hearersOf : GoodIn wsX5_sayingsBetween (wsV RX5 104 RX5 yX5_hearersOf wsX5_hearersOf) := goodIn_app (goodIn_of _ (by decide +kernel)) ggX5_sayingsBetween_X5_hearersOf
theorem dX5_sayingsBetween_0 : decode cX5_sayingsBetween 0 = .ok (.aload_n 0, 1) := by decide +kernel
theorem dX5_sayingsBetween_1 : decode cX5_sayingsBetween 1 = .ok (.iload_n 3, 1) := by decide +kernel
theorem dX5_sayingsBetween_2 : decode cX5_sayingsBetween 2 = .ok (.invokevirtual 101, 3) := by decide +kernel
theorem dX5_sayingsBetween_5 : decode cX5_sayingsBetween 5 = .ok (.istore 4, 2) := by decide +kernel
theorem dX5_sayingsBetween_7 : decode cX5_sayingsBetween 7 = .ok (.iconst 1, 1) := by decide +kernel
theorem dX5_sayingsBetween_8 : decode cX5_sayingsBetween 8 = .ok (.iload_n 1, 1) := by decide +kernel
theorem dX5_sayingsBetween_9 : decode cX5_sayingsBetween 9 = .ok (.ishl, 1) := by decide +kernel
theorem dX5_sayingsBetween_10 : decode cX5_sayingsBetween 10 = .ok (.istore 5, 2) := by decide +kernel
theorem dX5_sayingsBetween_12 : decode cX5_sayingsBetween 12 = .ok (.iload 5, 2) := by decide +kernel
theorem dX5_sayingsBetween_14 : decode cX5_sayingsBetween 14 = .ok (.istore 6, 2) := by decide +kernel
theorem dX5_sayingsBetween_16 : decode cX5_sayingsBetween 16 = .ok (.iconst 0, 1) := by decide +kernel
theorem dX5_sayingsBetween_17 : decode cX5_sayingsBetween 17 = .ok (.istore 7, 2) := by decide +kernel
theorem dX5_sayingsBetween_19 : decode cX5_sayingsBetween 19 = .ok (.iload 7, 2) := by decide +kernel
theorem dX5_sayingsBetween_21 : decode cX5_sayingsBetween 21 = .ok (.aload_n 0, 1) := by decide +kernel
theorem dX5_sayingsBetween_22 : decode cX5_sayingsBetween 22 = .ok (.getfield 15, 3) := by decide +kernel
theorem dX5_sayingsBetween_25 : decode cX5_sayingsBetween 25 = .ok (.if_icmp .ge 50, 3) := by decide +kernel
theorem dX5_sayingsBetween_28 : decode cX5_sayingsBetween 28 = .ok (.iload 5, 2) := by decide +kernel
theorem dX5_sayingsBetween_30 : decode cX5_sayingsBetween 30 = .ok (.iload_n 2, 1) := by decide +kernel
theorem dX5_sayingsBetween_31 : decode cX5_sayingsBetween 31 = .ok (.invokestatic 65, 3) := by decide +kernel
theorem dX5_sayingsBetween_34 : decode cX5_sayingsBetween 34 = .ok (.ifCond .eq 6, 3) := by decide +kernel
theorem dX5_sayingsBetween_37 : decode cX5_sayingsBetween 37 = .ok (.iload 7, 2) := by decide +kernel
theorem dX5_sayingsBetween_39 : decode cX5_sayingsBetween 39 = .ok (.ireturn, 1) := by decide +kernel
theorem dX5_sayingsBetween_40 : decode cX5_sayingsBetween 40 = .ok (.aload_n 0, 1) := by decide +kernel
theorem dX5_sayingsBetween_41 : decode cX5_sayingsBetween 41 = .ok (.iload 6, 2) := by decide +kernel
theorem dX5_sayingsBetween_43 : decode cX5_sayingsBetween 43 = .ok (.invokevirtual 104, 3) := by decide +kernel
theorem dX5_sayingsBetween_46 : decode cX5_sayingsBetween 46 = .ok (.iload 5, 2) := by decide +kernel
theorem dX5_sayingsBetween_48 : decode cX5_sayingsBetween 48 = .ok (.iconst (-1), 1) := by decide +kernel
theorem dX5_sayingsBetween_49 : decode cX5_sayingsBetween 49 = .ok (.ixor, 1) := by decide +kernel
theorem dX5_sayingsBetween_50 : decode cX5_sayingsBetween 50 = .ok (.iand, 1) := by decide +kernel
theorem dX5_sayingsBetween_51 : decode cX5_sayingsBetween 51 = .ok (.istore 8, 2) := by decide +kernel
theorem dX5_sayingsBetween_53 : decode cX5_sayingsBetween 53 = .ok (.iload 5, 2) := by decide +kernel
theorem dX5_sayingsBetween_55 : decode cX5_sayingsBetween 55 = .ok (.iload 8, 2) := by decide +kernel
theorem dX5_sayingsBetween_57 : decode cX5_sayingsBetween 57 = .ok (.ior, 1) := by decide +kernel
theorem dX5_sayingsBetween_58 : decode cX5_sayingsBetween 58 = .ok (.istore 5, 2) := by decide +kernel
theorem dX5_sayingsBetween_60 : decode cX5_sayingsBetween 60 = .ok (.iload 8, 2) := by decide +kernel
theorem dX5_sayingsBetween_62 : decode cX5_sayingsBetween 62 = .ok (.iload 4, 2) := by decide +kernel
theorem dX5_sayingsBetween_64 : decode cX5_sayingsBetween 64 = .ok (.iconst (-1), 1) := by decide +kernel
theorem dX5_sayingsBetween_65 : decode cX5_sayingsBetween 65 = .ok (.ixor, 1) := by decide +kernel
theorem dX5_sayingsBetween_66 : decode cX5_sayingsBetween 66 = .ok (.iand, 1) := by decide +kernel
theorem dX5_sayingsBetween_67 : decode cX5_sayingsBetween 67 = .ok (.istore 6, 2) := by decide +kernel
theorem dX5_sayingsBetween_69 : decode cX5_sayingsBetween 69 = .ok (.iinc 7 1, 3) := by decide +kernel
theorem dX5_sayingsBetween_72 : decode cX5_sayingsBetween 72 = .ok (.goto (-53), 3) := by decide +kernel
theorem dX5_sayingsBetween_75 : decode cX5_sayingsBetween 75 = .ok (.iconst (-1), 1) := by decide +kernel
theorem dX5_sayingsBetween_76 : decode cX5_sayingsBetween 76 = .ok (.ireturn, 1) := by decide +kernel
set_option maxRecDepth 20000 in
theorem ggX5_tell_X6_has : GoodIn wsX5_tell wsX6_has := goodIn_r _ [6] (by decide +kernel) (by decide +kernel)
set_option maxRecDepth 20000 in
theorem gX5_tell_X6_has_n65 : GoodIn wsX5_tell (wsX6_has) := ggX5_tell_X6_has
set_option maxRecDepth 20000 in
theorem ggX5_tell_J6_bitCount_0f7a4 : GoodIn wsX5_tell wsJ6_bitCount_0f7a4 := goodIn_r _ [10, 11, 12, 13] (by decide +kernel) (by decide +kernel)
set_option maxRecDepth 20000 in
theorem gX5_tell_J6_bitCount_0f7a4 : GoodIn wsX5_tell (va_wsS RX5 76 yJ6_bitCount_0f7a4 wsJ6_bitCount_0f7a4) := goodIn_app (goodIn_of _ (by decide +kernel)) ggX5_tell_J6_bitCount_0f7a4
theorem dX5_tell_0 : decode cX5_tell 0 = .ok (.iconst 0, 1) := by decide +kernel
theorem dX5_tell_1 : decode cX5_tell 1 = .ok (.istore_n 3, 1) := by decide +kernel
theorem dX5_tell_2 : decode cX5_tell 2 = .ok (.iconst 0, 1) := by decide +kernel
theorem dX5_tell_3 : decode cX5_tell 3 = .ok (.istore 4, 2) := by decide +kernel
theorem dX5_tell_5 : decode cX5_tell 5 = .ok (.iload 4, 2) := by decide +kernel
theorem dX5_tell_7 : decode cX5_tell 7 = .ok (.aload_n 0, 1) := by decide +kernel
theorem dX5_tell_8 : decode cX5_tell 8 = .ok (.getfield 15, 3) := by decide +kernel
theorem dX5_tell_11 : decode cX5_tell 11 = .ok (.if_icmp .ge 51, 3) := by decide +kernel
theorem dX5_tell_14 : decode cX5_tell 14 = .ok (.aload_n 0, 1) := by decide +kernel
theorem dX5_tell_15 : decode cX5_tell 15 = .ok (.getfield 43, 3) := by decide +kernel
theorem dX5_tell_18 : decode cX5_tell 18 = .ok (.iload 4, 2) := by decide +kernel
theorem dX5_tell_20 : decode cX5_tell 20 = .ok (.iaload, 1) := by decide +kernel
theorem dX5_tell_21 : decode cX5_tell 21 = .ok (.iload_n 1, 1) := by decide +kernel
theorem dX5_tell_22 : decode cX5_tell 22 = .ok (.invokestatic 65, 3) := by decide +kernel
theorem dX5_tell_25 : decode cX5_tell 25 = .ok (.ifCond .eq 31, 3) := by decide +kernel
theorem dX5_tell_28 : decode cX5_tell 28 = .ok (.iload_n 3, 1) := by decide +kernel
theorem dX5_tell_29 : decode cX5_tell 29 = .ok (.iload_n 2, 1) := by decide +kernel
theorem dX5_tell_30 : decode cX5_tell 30 = .ok (.aload_n 0, 1) := by decide +kernel
theorem dX5_tell_31 : decode cX5_tell 31 = .ok (.getfield 40, 3) := by decide +kernel
theorem dX5_tell_34 : decode cX5_tell 34 = .ok (.iload 4, 2) := by decide +kernel
theorem dX5_tell_36 : decode cX5_tell 36 = .ok (.iaload, 1) := by decide +kernel
theorem dX5_tell_37 : decode cX5_tell 37 = .ok (.iconst (-1), 1) := by decide +kernel
theorem dX5_tell_38 : decode cX5_tell 38 = .ok (.ixor, 1) := by decide +kernel
theorem dX5_tell_39 : decode cX5_tell 39 = .ok (.iand, 1) := by decide +kernel
theorem dX5_tell_40 : decode cX5_tell 40 = .ok (.invokestatic 76, 3) := by decide +kernel
theorem dX5_tell_43 : decode cX5_tell 43 = .ok (.iadd, 1) := by decide +kernel
theorem dX5_tell_44 : decode cX5_tell 44 = .ok (.istore_n 3, 1) := by decide +kernel
theorem dX5_tell_45 : decode cX5_tell 45 = .ok (.aload_n 0, 1) := by decide +kernel
theorem dX5_tell_46 : decode cX5_tell 46 = .ok (.getfield 40, 3) := by decide +kernel
theorem dX5_tell_49 : decode cX5_tell 49 = .ok (.iload 4, 2) := by decide +kernel
theorem dX5_tell_51 : decode cX5_tell 51 = .ok (.dup2, 1) := by decide +kernel
theorem dX5_tell_52 : decode cX5_tell 52 = .ok (.iaload, 1) := by decide +kernel
theorem dX5_tell_53 : decode cX5_tell 53 = .ok (.iload_n 2, 1) := by decide +kernel
theorem dX5_tell_54 : decode cX5_tell 54 = .ok (.ior, 1) := by decide +kernel
theorem dX5_tell_55 : decode cX5_tell 55 = .ok (.iastore, 1) := by decide +kernel
theorem dX5_tell_56 : decode cX5_tell 56 = .ok (.iinc 4 1, 3) := by decide +kernel
theorem dX5_tell_59 : decode cX5_tell 59 = .ok (.goto (-54), 3) := by decide +kernel
theorem dX5_tell_62 : decode cX5_tell 62 = .ok (.iload_n 3, 1) := by decide +kernel
theorem dX5_tell_63 : decode cX5_tell 63 = .ok (.ireturn, 1) := by decide +kernel
set_option maxRecDepth 20000 in
theorem ggX5_passRound_X5_sayableBy : GoodIn wsX5_passRound wsX5_sayableBy := goodIn_r _ [7, 8, 9, 10, 11, 12, 13, 6, 14, 15, 16, 17, 18, 19, 20, 21, 22, 23, 24, 25, 26, 1, 27, 28, 29, 30, 49, 50, 51, 52, 53, 54, 55, 56, 57, 58, 59, 60, 61, 62] (by decide +kernel) (by decide +kernel)
set_option maxRecDepth 20000 in
theorem gX5_passRound_X5_sayableBy : GoodIn wsX5_passRound (wsV RX5 84 RX5 yX5_sayableBy wsX5_sayableBy) := goodIn_app (goodIn_of _ (by decide +kernel)) ggX5_passRound_X5_sayableBy
set_option maxRecDepth 20000 in
theorem ggX5_passRound_X5_tell : GoodIn wsX5_passRound wsX5_tell := goodIn_r _ [34, 1, 27, 9, 35, 29, 36, 37, 38, 39, 40, 41, 42, 43, 49, 50, 51, 52, 53, 54, 55, 56, 57, 58, 59, 60, 61, 62] (by decide +kernel) (by decide +kernel)
set_option maxRecDepth 20000 in
theorem gX5_passRound_X5_tell : GoodIn wsX5_passRound (wsV RX5 107 RX5 yX5_tell wsX5_tell) := goodIn_app (goodIn_of _ (by decide +kernel)) ggX5_passRound_X5_tell
set_option maxRecDepth 20000 in
theorem ggX5_passRound_X5_passSigns : GoodIn wsX5_passRound wsX5_passSigns := goodIn_r _ [47, 1, 48, 27, 16, 9, 35, 29, 36, 28, 30, 37, 38, 39, 40, 41, 42, 43, 49, 50, 51, 52, 53, 54, 55, 56, 57, 58, 59, 60, 61, 62] (by decide +kernel) (by decide +kernel)
set_option maxRecDepth 20000 in
theorem gX5_passRound_X5_passSigns : GoodIn wsX5_passRound (wsV RX5 110 RX5 yX5_passSigns wsX5_passSigns) := goodIn_app (goodIn_of _ (by decide +kernel)) ggX5_passRound_X5_passSigns
theorem dX5_passRound_0 : decode cX5_passRound 0 = .ok (.iconst 0, 1) := by decide +kernel
theorem dX5_passRound_1 : decode cX5_passRound 1 = .ok (.istore_n 1, 1) := by decide +kernel
theorem dX5_passRound_2 : decode cX5_passRound 2 = .ok (.iload_n 1, 1) := by decide +kernel
theorem dX5_passRound_3 : decode cX5_passRound 3 = .ok (.aload_n 0, 1) := by decide +kernel
theorem dX5_passRound_4 : decode cX5_passRound 4 = .ok (.getfield 15, 3) := by decide +kernel
theorem dX5_passRound_7 : decode cX5_passRound 7 = .ok (.if_icmp .ge 20, 3) := by decide +kernel
theorem dX5_passRound_10 : decode cX5_passRound 10 = .ok (.aload_n 0, 1) := by decide +kernel
theorem dX5_passRound_11 : decode cX5_passRound 11 = .ok (.getfield 52, 3) := by decide +kernel
theorem dX5_passRound_14 : decode cX5_passRound 14 = .ok (.iload_n 1, 1) := by decide +kernel
theorem dX5_passRound_15 : decode cX5_passRound 15 = .ok (.aload_n 0, 1) := by decide +kernel
theorem dX5_passRound_16 : decode cX5_passRound 16 = .ok (.iload_n 1, 1) := by decide +kernel
theorem dX5_passRound_17 : decode cX5_passRound 17 = .ok (.invokevirtual 84, 3) := by decide +kernel
theorem dX5_passRound_20 : decode cX5_passRound 20 = .ok (.iastore, 1) := by decide +kernel
theorem dX5_passRound_21 : decode cX5_passRound 21 = .ok (.iinc 1 1, 3) := by decide +kernel
theorem dX5_passRound_24 : decode cX5_passRound 24 = .ok (.goto (-22), 3) := by decide +kernel
theorem dX5_passRound_27 : decode cX5_passRound 27 = .ok (.iconst 0, 1) := by decide +kernel
theorem dX5_passRound_28 : decode cX5_passRound 28 = .ok (.istore_n 1, 1) := by decide +kernel
theorem dX5_passRound_29 : decode cX5_passRound 29 = .ok (.iconst 0, 1) := by decide +kernel
theorem dX5_passRound_30 : decode cX5_passRound 30 = .ok (.istore_n 2, 1) := by decide +kernel
theorem dX5_passRound_31 : decode cX5_passRound 31 = .ok (.iload_n 2, 1) := by decide +kernel
theorem dX5_passRound_32 : decode cX5_passRound 32 = .ok (.aload_n 0, 1) := by decide +kernel
theorem dX5_passRound_33 : decode cX5_passRound 33 = .ok (.getfield 15, 3) := by decide +kernel
theorem dX5_passRound_36 : decode cX5_passRound 36 = .ok (.if_icmp .ge 23, 3) := by decide +kernel
theorem dX5_passRound_39 : decode cX5_passRound 39 = .ok (.iload_n 1, 1) := by decide +kernel
theorem dX5_passRound_40 : decode cX5_passRound 40 = .ok (.aload_n 0, 1) := by decide +kernel
theorem dX5_passRound_41 : decode cX5_passRound 41 = .ok (.iload_n 2, 1) := by decide +kernel
theorem dX5_passRound_42 : decode cX5_passRound 42 = .ok (.aload_n 0, 1) := by decide +kernel
theorem dX5_passRound_43 : decode cX5_passRound 43 = .ok (.getfield 52, 3) := by decide +kernel
theorem dX5_passRound_46 : decode cX5_passRound 46 = .ok (.iload_n 2, 1) := by decide +kernel
theorem dX5_passRound_47 : decode cX5_passRound 47 = .ok (.iaload, 1) := by decide +kernel
theorem dX5_passRound_48 : decode cX5_passRound 48 = .ok (.invokevirtual 107, 3) := by decide +kernel
theorem dX5_passRound_51 : decode cX5_passRound 51 = .ok (.iadd, 1) := by decide +kernel
theorem dX5_passRound_52 : decode cX5_passRound 52 = .ok (.istore_n 1, 1) := by decide +kernel
theorem dX5_passRound_53 : decode cX5_passRound 53 = .ok (.iinc 2 1, 3) := by decide +kernel
theorem dX5_passRound_56 : decode cX5_passRound 56 = .ok (.goto (-25), 3) := by decide +kernel
theorem dX5_passRound_59 : decode cX5_passRound 59 = .ok (.iload_n 1, 1) := by decide +kernel
theorem dX5_passRound_60 : decode cX5_passRound 60 = .ok (.aload_n 0, 1) := by decide +kernel
theorem dX5_passRound_61 : decode cX5_passRound 61 = .ok (.invokevirtual 110, 3) := by decide +kernel
theorem dX5_passRound_64 : decode cX5_passRound 64 = .ok (.iadd, 1) := by decide +kernel
theorem dX5_passRound_65 : decode cX5_passRound 65 = .ok (.ifCond .le 7, 3) := by decide +kernel
theorem dX5_passRound_68 : decode cX5_passRound 68 = .ok (.iconst 1, 1) := by decide +kernel
theorem dX5_passRound_69 : decode cX5_passRound 69 = .ok (.goto 4, 3) := by decide +kernel
theorem dX5_passRound_72 : decode cX5_passRound 72 = .ok (.iconst 0, 1) := by decide +kernel
theorem dX5_passRound_73 : decode cX5_passRound 73 = .ok (.ireturn, 1) := by decide +kernel
set_option maxRecDepth 20000 in
theorem ggX5_passSigns_X6_has : GoodIn wsX5_passSigns wsX6_has := goodIn_r _ [8] (by decide +kernel) (by decide +kernel)
set_option maxRecDepth 20000 in
theorem gX5_passSigns_X6_has_n65 : GoodIn wsX5_passSigns (wsX6_has) := ggX5_passSigns_X6_has
set_option maxRecDepth 20000 in
theorem ggX5_passSigns_X6_firstBits : GoodIn wsX5_passSigns wsX6_firstBits := goodIn_r _ [10] (by decide +kernel) (by decide +kernel)
set_option maxRecDepth 20000 in
theorem gX5_passSigns_X6_firstBits_n94 : GoodIn wsX5_passSigns (wsX6_firstBits) := ggX5_passSigns_X6_firstBits
set_option maxRecDepth 20000 in
theorem ggX5_passSigns_J6_bitCount_0f7a4 : GoodIn wsX5_passSigns wsJ6_bitCount_0f7a4 := goodIn_r _ [14, 15, 16, 17] (by decide +kernel) (by decide +kernel)
set_option maxRecDepth 20000 in
theorem gX5_passSigns_J6_bitCount_0f7a4 : GoodIn wsX5_passSigns (va_wsS RX5 76 yJ6_bitCount_0f7a4 wsJ6_bitCount_0f7a4) := goodIn_app (goodIn_of _ (by decide +kernel)) ggX5_passSigns_J6_bitCount_0f7a4
theorem dX5_passSigns_0 : decode cX5_passSigns 0 = .ok (.iconst 0, 1) := by decide +kernel
theorem dX5_passSigns_1 : decode cX5_passSigns 1 = .ok (.istore_n 1, 1) := by decide +kernel
theorem dX5_passSigns_2 : decode cX5_passSigns 2 = .ok (.iconst 0, 1) := by decide +kernel
theorem dX5_passSigns_3 : decode cX5_passSigns 3 = .ok (.istore_n 2, 1) := by decide +kernel
theorem dX5_passSigns_4 : decode cX5_passSigns 4 = .ok (.iload_n 2, 1) := by decide +kernel
theorem dX5_passSigns_5 : decode cX5_passSigns 5 = .ok (.aload_n 0, 1) := by decide +kernel
theorem dX5_passSigns_6 : decode cX5_passSigns 6 = .ok (.getfield 15, 3) := by decide +kernel
theorem dX5_passSigns_9 : decode cX5_passSigns 9 = .ok (.if_icmp .ge 91, 3) := by decide +kernel
theorem dX5_passSigns_12 : decode cX5_passSigns 12 = .ok (.iconst 0, 1) := by decide +kernel
theorem dX5_passSigns_13 : decode cX5_passSigns 13 = .ok (.istore_n 3, 1) := by decide +kernel
theorem dX5_passSigns_14 : decode cX5_passSigns 14 = .ok (.iload_n 3, 1) := by decide +kernel
theorem dX5_passSigns_15 : decode cX5_passSigns 15 = .ok (.aload_n 0, 1) := by decide +kernel
theorem dX5_passSigns_16 : decode cX5_passSigns 16 = .ok (.getfield 15, 3) := by decide +kernel
theorem dX5_passSigns_19 : decode cX5_passSigns 19 = .ok (.if_icmp .ge 75, 3) := by decide +kernel
theorem dX5_passSigns_22 : decode cX5_passSigns 22 = .ok (.iload_n 1, 1) := by decide +kernel
theorem dX5_passSigns_23 : decode cX5_passSigns 23 = .ok (.aload_n 0, 1) := by decide +kernel
theorem dX5_passSigns_24 : decode cX5_passSigns 24 = .ok (.getfield 21, 3) := by decide +kernel
theorem dX5_passSigns_27 : decode cX5_passSigns 27 = .ok (.if_icmp .ge 67, 3) := by decide +kernel
theorem dX5_passSigns_30 : decode cX5_passSigns 30 = .ok (.aload_n 0, 1) := by decide +kernel
theorem dX5_passSigns_31 : decode cX5_passSigns 31 = .ok (.getfield 43, 3) := by decide +kernel
theorem dX5_passSigns_34 : decode cX5_passSigns 34 = .ok (.iload_n 3, 1) := by decide +kernel
theorem dX5_passSigns_35 : decode cX5_passSigns 35 = .ok (.iaload, 1) := by decide +kernel
theorem dX5_passSigns_36 : decode cX5_passSigns 36 = .ok (.iload_n 2, 1) := by decide +kernel
theorem dX5_passSigns_37 : decode cX5_passSigns 37 = .ok (.invokestatic 65, 3) := by decide +kernel
theorem dX5_passSigns_40 : decode cX5_passSigns 40 = .ok (.ifCond .eq 48, 3) := by decide +kernel
theorem dX5_passSigns_43 : decode cX5_passSigns 43 = .ok (.aload_n 0, 1) := by decide +kernel
theorem dX5_passSigns_44 : decode cX5_passSigns 44 = .ok (.getfield 33, 3) := by decide +kernel
theorem dX5_passSigns_47 : decode cX5_passSigns 47 = .ok (.iload_n 2, 1) := by decide +kernel
theorem dX5_passSigns_48 : decode cX5_passSigns 48 = .ok (.iaload, 1) := by decide +kernel
theorem dX5_passSigns_49 : decode cX5_passSigns 49 = .ok (.aload_n 0, 1) := by decide +kernel
theorem dX5_passSigns_50 : decode cX5_passSigns 50 = .ok (.getfield 40, 3) := by decide +kernel
theorem dX5_passSigns_53 : decode cX5_passSigns 53 = .ok (.iload_n 3, 1) := by decide +kernel
theorem dX5_passSigns_54 : decode cX5_passSigns 54 = .ok (.iaload, 1) := by decide +kernel
theorem dX5_passSigns_55 : decode cX5_passSigns 55 = .ok (.iconst (-1), 1) := by decide +kernel
theorem dX5_passSigns_56 : decode cX5_passSigns 56 = .ok (.ixor, 1) := by decide +kernel
theorem dX5_passSigns_57 : decode cX5_passSigns 57 = .ok (.iand, 1) := by decide +kernel
theorem dX5_passSigns_58 : decode cX5_passSigns 58 = .ok (.aload_n 0, 1) := by decide +kernel
theorem dX5_passSigns_59 : decode cX5_passSigns 59 = .ok (.getfield 21, 3) := by decide +kernel
theorem dX5_passSigns_62 : decode cX5_passSigns 62 = .ok (.iload_n 1, 1) := by decide +kernel
theorem dX5_passSigns_63 : decode cX5_passSigns 63 = .ok (.isub, 1) := by decide +kernel
theorem dX5_passSigns_64 : decode cX5_passSigns 64 = .ok (.invokestatic 94, 3) := by decide +kernel
theorem dX5_passSigns_67 : decode cX5_passSigns 67 = .ok (.istore 4, 2) := by decide +kernel
theorem dX5_passSigns_69 : decode cX5_passSigns 69 = .ok (.aload_n 0, 1) := by decide +kernel
theorem dX5_passSigns_70 : decode cX5_passSigns 70 = .ok (.getfield 40, 3) := by decide +kernel
theorem dX5_passSigns_73 : decode cX5_passSigns 73 = .ok (.iload_n 3, 1) := by decide +kernel
theorem dX5_passSigns_74 : decode cX5_passSigns 74 = .ok (.dup2, 1) := by decide +kernel
theorem dX5_passSigns_75 : decode cX5_passSigns 75 = .ok (.iaload, 1) := by decide +kernel
theorem dX5_passSigns_76 : decode cX5_passSigns 76 = .ok (.iload 4, 2) := by decide +kernel
theorem dX5_passSigns_78 : decode cX5_passSigns 78 = .ok (.ior, 1) := by decide +kernel
theorem dX5_passSigns_79 : decode cX5_passSigns 79 = .ok (.iastore, 1) := by decide +kernel
theorem dX5_passSigns_80 : decode cX5_passSigns 80 = .ok (.iload_n 1, 1) := by decide +kernel
theorem dX5_passSigns_81 : decode cX5_passSigns 81 = .ok (.iload 4, 2) := by decide +kernel
theorem dX5_passSigns_83 : decode cX5_passSigns 83 = .ok (.invokestatic 76, 3) := by decide +kernel
theorem dX5_passSigns_86 : decode cX5_passSigns 86 = .ok (.iadd, 1) := by decide +kernel
theorem dX5_passSigns_87 : decode cX5_passSigns 87 = .ok (.istore_n 1, 1) := by decide +kernel
theorem dX5_passSigns_88 : decode cX5_passSigns 88 = .ok (.iinc 3 1, 3) := by decide +kernel
theorem dX5_passSigns_91 : decode cX5_passSigns 91 = .ok (.goto (-77), 3) := by decide +kernel
theorem dX5_passSigns_94 : decode cX5_passSigns 94 = .ok (.iinc 2 1, 3) := by decide +kernel
theorem dX5_passSigns_97 : decode cX5_passSigns 97 = .ok (.goto (-93), 3) := by decide +kernel
theorem dX5_passSigns_100 : decode cX5_passSigns 100 = .ok (.iload_n 1, 1) := by decide +kernel
theorem dX5_passSigns_101 : decode cX5_passSigns 101 = .ok (.ireturn, 1) := by decide +kernel
set_option maxRecDepth 20000 in
theorem ggX5_passRounds_X5_passRound : GoodIn wsX5_passRounds wsX5_passRound := goodIn_r _ [5, 6, 7, 8, 9, 10, 4, 11, 12, 13, 14, 15, 16, 17, 18, 19, 20, 21, 22, 23, 24, 25, 26, 27, 28, 29, 30, 31, 32, 33, 34, 35, 36, 37, 38, 39, 40, 41, 42, 43, 44, 45, 46, 47, 48, 49, 50, 51, 52, 53, 54, 55, 56, 57, 58, 59, 60, 61, 62, 63, 64, 65, 66] (by decide +kernel) (by decide +kernel)
set_option maxRecDepth 20000 in
theorem gX5_passRounds_X5_passRound : GoodIn wsX5_passRounds (wsV RX5 113 RX5 yX5_passRound wsX5_passRound) := goodIn_app (goodIn_of _ (by decide +kernel)) ggX5_passRounds_X5_passRound
theorem dX5_passRounds_0 : decode cX5_passRounds 0 = .ok (.iconst 1, 1) := by decide +kernel
theorem dX5_passRounds_1 : decode cX5_passRounds 1 = .ok (.istore_n 2, 1) := by decide +kernel
theorem dX5_passRounds_2 : decode cX5_passRounds 2 = .ok (.iconst 0, 1) := by decide +kernel
theorem dX5_passRounds_3 : decode cX5_passRounds 3 = .ok (.istore_n 3, 1) := by decide +kernel
theorem dX5_passRounds_4 : decode cX5_passRounds 4 = .ok (.iload_n 3, 1) := by decide +kernel
theorem dX5_passRounds_5 : decode cX5_passRounds 5 = .ok (.iload_n 1, 1) := by decide +kernel
theorem dX5_passRounds_6 : decode cX5_passRounds 6 = .ok (.if_icmp .ge 18, 3) := by decide +kernel
theorem dX5_passRounds_9 : decode cX5_passRounds 9 = .ok (.iload_n 2, 1) := by decide +kernel
theorem dX5_passRounds_10 : decode cX5_passRounds 10 = .ok (.ifCond .eq 14, 3) := by decide +kernel
theorem dX5_passRounds_13 : decode cX5_passRounds 13 = .ok (.aload_n 0, 1) := by decide +kernel
theorem dX5_passRounds_14 : decode cX5_passRounds 14 = .ok (.invokevirtual 113, 3) := by decide +kernel
theorem dX5_passRounds_17 : decode cX5_passRounds 17 = .ok (.istore_n 2, 1) := by decide +kernel
theorem dX5_passRounds_18 : decode cX5_passRounds 18 = .ok (.iinc 3 1, 3) := by decide +kernel
theorem dX5_passRounds_21 : decode cX5_passRounds 21 = .ok (.goto (-17), 3) := by decide +kernel
theorem dX5_passRounds_24 : decode cX5_passRounds 24 = .ok (.return_, 1) := by decide +kernel
set_option maxRecDepth 20000 in
theorem ggX5_passNight_X6_firstBits : GoodIn wsX5_passNight wsX6_firstBits := goodIn_r _ [8] (by decide +kernel) (by decide +kernel)
set_option maxRecDepth 20000 in
theorem gX5_passNight_X6_firstBits_n94 : GoodIn wsX5_passNight (wsX6_firstBits) := ggX5_passNight_X6_firstBits
theorem dX5_passNight_0 : decode cX5_passNight 0 = .ok (.aload_n 0, 1) := by decide +kernel
theorem dX5_passNight_1 : decode cX5_passNight 1 = .ok (.dup, 1) := by decide +kernel
theorem dX5_passNight_2 : decode cX5_passNight 2 = .ok (.getfield 27, 3) := by decide +kernel
theorem dX5_passNight_5 : decode cX5_passNight 5 = .ok (.iconst 1, 1) := by decide +kernel
theorem dX5_passNight_6 : decode cX5_passNight 6 = .ok (.iadd, 1) := by decide +kernel
theorem dX5_passNight_7 : decode cX5_passNight 7 = .ok (.putfield 27, 3) := by decide +kernel
theorem dX5_passNight_10 : decode cX5_passNight 10 = .ok (.iconst 0, 1) := by decide +kernel
theorem dX5_passNight_11 : decode cX5_passNight 11 = .ok (.istore_n 1, 1) := by decide +kernel
theorem dX5_passNight_12 : decode cX5_passNight 12 = .ok (.iload_n 1, 1) := by decide +kernel
theorem dX5_passNight_13 : decode cX5_passNight 13 = .ok (.aload_n 0, 1) := by decide +kernel
theorem dX5_passNight_14 : decode cX5_passNight 14 = .ok (.getfield 15, 3) := by decide +kernel
theorem dX5_passNight_17 : decode cX5_passNight 17 = .ok (.if_icmp .ge 56, 3) := by decide +kernel
theorem dX5_passNight_20 : decode cX5_passNight 20 = .ok (.aload_n 0, 1) := by decide +kernel
theorem dX5_passNight_21 : decode cX5_passNight 21 = .ok (.getfield 46, 3) := by decide +kernel
theorem dX5_passNight_24 : decode cX5_passNight 24 = .ok (.iload_n 1, 1) := by decide +kernel
theorem dX5_passNight_25 : decode cX5_passNight 25 = .ok (.iaload, 1) := by decide +kernel
theorem dX5_passNight_26 : decode cX5_passNight 26 = .ok (.iconst 5, 1) := by decide +kernel
theorem dX5_passNight_27 : decode cX5_passNight 27 = .ok (.if_icmp .ne 16, 3) := by decide +kernel
theorem dX5_passNight_30 : decode cX5_passNight 30 = .ok (.aload_n 0, 1) := by decide +kernel
theorem dX5_passNight_31 : decode cX5_passNight 31 = .ok (.getfield 33, 3) := by decide +kernel
theorem dX5_passNight_34 : decode cX5_passNight 34 = .ok (.iload_n 1, 1) := by decide +kernel
theorem dX5_passNight_35 : decode cX5_passNight 35 = .ok (.iaload, 1) := by decide +kernel
theorem dX5_passNight_36 : decode cX5_passNight 36 = .ok (.iconst 1, 1) := by decide +kernel
theorem dX5_passNight_37 : decode cX5_passNight 37 = .ok (.invokestatic 94, 3) := by decide +kernel
theorem dX5_passNight_40 : decode cX5_passNight 40 = .ok (.goto 4, 3) := by decide +kernel
theorem dX5_passNight_43 : decode cX5_passNight 43 = .ok (.iconst 0, 1) := by decide +kernel
theorem dX5_passNight_44 : decode cX5_passNight 44 = .ok (.istore_n 2, 1) := by decide +kernel
theorem dX5_passNight_45 : decode cX5_passNight 45 = .ok (.aload_n 0, 1) := by decide +kernel
theorem dX5_passNight_46 : decode cX5_passNight 46 = .ok (.getfield 33, 3) := by decide +kernel
theorem dX5_passNight_49 : decode cX5_passNight 49 = .ok (.iload_n 1, 1) := by decide +kernel
theorem dX5_passNight_50 : decode cX5_passNight 50 = .ok (.dup2, 1) := by decide +kernel
theorem dX5_passNight_51 : decode cX5_passNight 51 = .ok (.iaload, 1) := by decide +kernel
theorem dX5_passNight_52 : decode cX5_passNight 52 = .ok (.iload_n 2, 1) := by decide +kernel
theorem dX5_passNight_53 : decode cX5_passNight 53 = .ok (.iconst (-1), 1) := by decide +kernel
theorem dX5_passNight_54 : decode cX5_passNight 54 = .ok (.ixor, 1) := by decide +kernel
theorem dX5_passNight_55 : decode cX5_passNight 55 = .ok (.iand, 1) := by decide +kernel
theorem dX5_passNight_56 : decode cX5_passNight 56 = .ok (.iastore, 1) := by decide +kernel
theorem dX5_passNight_57 : decode cX5_passNight 57 = .ok (.aload_n 0, 1) := by decide +kernel
theorem dX5_passNight_58 : decode cX5_passNight 58 = .ok (.getfield 40, 3) := by decide +kernel
theorem dX5_passNight_61 : decode cX5_passNight 61 = .ok (.iload_n 1, 1) := by decide +kernel
theorem dX5_passNight_62 : decode cX5_passNight 62 = .ok (.dup2, 1) := by decide +kernel
theorem dX5_passNight_63 : decode cX5_passNight 63 = .ok (.iaload, 1) := by decide +kernel
theorem dX5_passNight_64 : decode cX5_passNight 64 = .ok (.iload_n 2, 1) := by decide +kernel
theorem dX5_passNight_65 : decode cX5_passNight 65 = .ok (.ior, 1) := by decide +kernel
theorem dX5_passNight_66 : decode cX5_passNight 66 = .ok (.iastore, 1) := by decide +kernel
theorem dX5_passNight_67 : decode cX5_passNight 67 = .ok (.iinc 1 1, 3) := by decide +kernel
theorem dX5_passNight_70 : decode cX5_passNight 70 = .ok (.goto (-58), 3) := by decide +kernel
theorem dX5_passNight_73 : decode cX5_passNight 73 = .ok (.return_, 1) := by decide +kernel
set_option maxRecDepth 20000 in
theorem ggX5_sayByDraws_X5_drawBelow : GoodIn wsX5_sayByDraws wsX5_drawBelow := goodIn_r _ [7, 8, 9, 53, 54, 55, 56, 57, 58, 59, 60, 61, 62, 63, 64, 65, 66] (by decide +kernel) (by decide +kernel)
set_option maxRecDepth 20000 in
theorem gX5_sayByDraws_X5_drawBelow : GoodIn wsX5_sayByDraws (wsV RX5 117 RX5 yX5_drawBelow wsX5_drawBelow) := goodIn_app (goodIn_of _ (by decide +kernel)) ggX5_sayByDraws_X5_drawBelow
set_option maxRecDepth 20000 in
theorem ggX5_sayByDraws_X5_isOne : GoodIn wsX5_sayByDraws wsX5_isOne := goodIn_r _ [13, 1, 53, 54, 55, 56, 57, 58, 59, 60, 61, 62, 63, 64, 65, 66] (by decide +kernel) (by decide +kernel)
set_option maxRecDepth 20000 in
theorem gX5_sayByDraws_X5_isOne : GoodIn wsX5_sayByDraws (wsV RX5 120 RX5 yX5_isOne wsX5_isOne) := goodIn_app (goodIn_of _ (by decide +kernel)) ggX5_sayByDraws_X5_isOne
set_option maxRecDepth 20000 in
theorem ggX5_sayByDraws_X5_sayableBy : GoodIn wsX5_sayByDraws wsX5_sayableBy := goodIn_r _ [17, 18, 19, 20, 21, 22, 23, 6, 24, 25, 26, 27, 28, 29, 30, 31, 2, 32, 33, 34, 35, 1, 36, 37, 38, 39, 53, 54, 55, 56, 57, 58, 59, 60, 61, 62, 63, 64, 65, 66] (by decide +kernel) (by decide +kernel)
set_option maxRecDepth 20000 in
theorem gX5_sayByDraws_X5_sayableBy : GoodIn wsX5_sayByDraws (wsV RX5 84 RX5 yX5_sayableBy wsX5_sayableBy) := goodIn_app (goodIn_of _ (by decide +kernel)) ggX5_sayByDraws_X5_sayableBy
set_option maxRecDepth 20000 in
theorem ggX5_sayByDraws_X6_has : GoodIn wsX5_sayByDraws wsX6_has := goodIn_r _ [41] (by decide +kernel) (by decide +kernel)
set_option maxRecDepth 20000 in
theorem gX5_sayByDraws_X6_has_n65 : GoodIn wsX5_sayByDraws (wsX6_has) := ggX5_sayByDraws_X6_has
set_option maxRecDepth 20000 in
theorem ggX5_sayByDraws_X5_tell : GoodIn wsX5_sayByDraws wsX5_tell := goodIn_r _ [45, 1, 36, 19, 40, 38, 41, 46, 47, 48, 49, 50, 51, 52, 53, 54, 55, 56, 57, 58, 59, 60, 61, 62, 63, 64, 65, 66] (by decide +kernel) (by decide +kernel)
set_option maxRecDepth 20000 in
theorem gX5_sayByDraws_X5_tell : GoodIn wsX5_sayByDraws (wsV RX5 107 RX5 yX5_tell wsX5_tell) := goodIn_app (goodIn_of _ (by decide +kernel)) ggX5_sayByDraws_X5_tell
theorem dX5_sayByDraws_0 : decode cX5_sayByDraws 0 = .ok (.iconst 0, 1) := by decide +kernel
theorem dX5_sayByDraws_1 : decode cX5_sayByDraws 1 = .ok (.istore_n 2, 1) := by decide +kernel
theorem dX5_sayByDraws_2 : decode cX5_sayByDraws 2 = .ok (.iconst 0, 1) := by decide +kernel
theorem dX5_sayByDraws_3 : decode cX5_sayByDraws 3 = .ok (.istore_n 3, 1) := by decide +kernel
theorem dX5_sayByDraws_4 : decode cX5_sayByDraws 4 = .ok (.iload_n 3, 1) := by decide +kernel
theorem dX5_sayByDraws_5 : decode cX5_sayByDraws 5 = .ok (.iload_n 1, 1) := by decide +kernel
theorem dX5_sayByDraws_6 : decode cX5_sayByDraws 6 = .ok (.if_icmp .ge 66, 3) := by decide +kernel
theorem dX5_sayByDraws_9 : decode cX5_sayByDraws 9 = .ok (.aload_n 0, 1) := by decide +kernel
theorem dX5_sayByDraws_10 : decode cX5_sayByDraws 10 = .ok (.aload_n 0, 1) := by decide +kernel
theorem dX5_sayByDraws_11 : decode cX5_sayByDraws 11 = .ok (.getfield 15, 3) := by decide +kernel
theorem dX5_sayByDraws_14 : decode cX5_sayByDraws 14 = .ok (.invokevirtual 117, 3) := by decide +kernel
theorem dX5_sayByDraws_17 : decode cX5_sayByDraws 17 = .ok (.istore 4, 2) := by decide +kernel
theorem dX5_sayByDraws_19 : decode cX5_sayByDraws 19 = .ok (.aload_n 0, 1) := by decide +kernel
theorem dX5_sayByDraws_20 : decode cX5_sayByDraws 20 = .ok (.aload_n 0, 1) := by decide +kernel
theorem dX5_sayByDraws_21 : decode cX5_sayByDraws 21 = .ok (.getfield 9, 3) := by decide +kernel
theorem dX5_sayByDraws_24 : decode cX5_sayByDraws 24 = .ok (.invokevirtual 117, 3) := by decide +kernel
theorem dX5_sayByDraws_27 : decode cX5_sayByDraws 27 = .ok (.istore 5, 2) := by decide +kernel
theorem dX5_sayByDraws_29 : decode cX5_sayByDraws 29 = .ok (.aload_n 0, 1) := by decide +kernel
theorem dX5_sayByDraws_30 : decode cX5_sayByDraws 30 = .ok (.iload 4, 2) := by decide +kernel
theorem dX5_sayByDraws_32 : decode cX5_sayByDraws 32 = .ok (.invokevirtual 120, 3) := by decide +kernel
theorem dX5_sayByDraws_35 : decode cX5_sayByDraws 35 = .ok (.ifCond .eq 31, 3) := by decide +kernel
theorem dX5_sayByDraws_38 : decode cX5_sayByDraws 38 = .ok (.aload_n 0, 1) := by decide +kernel
theorem dX5_sayByDraws_39 : decode cX5_sayByDraws 39 = .ok (.iload 4, 2) := by decide +kernel
theorem dX5_sayByDraws_41 : decode cX5_sayByDraws 41 = .ok (.invokevirtual 84, 3) := by decide +kernel
theorem dX5_sayByDraws_44 : decode cX5_sayByDraws 44 = .ok (.iload 5, 2) := by decide +kernel
theorem dX5_sayByDraws_46 : decode cX5_sayByDraws 46 = .ok (.invokestatic 65, 3) := by decide +kernel
theorem dX5_sayByDraws_49 : decode cX5_sayByDraws 49 = .ok (.ifCond .eq 17, 3) := by decide +kernel
theorem dX5_sayByDraws_52 : decode cX5_sayByDraws 52 = .ok (.aload_n 0, 1) := by decide +kernel
theorem dX5_sayByDraws_53 : decode cX5_sayByDraws 53 = .ok (.iload 4, 2) := by decide +kernel
theorem dX5_sayByDraws_55 : decode cX5_sayByDraws 55 = .ok (.iconst 1, 1) := by decide +kernel
theorem dX5_sayByDraws_56 : decode cX5_sayByDraws 56 = .ok (.iload 5, 2) := by decide +kernel
theorem dX5_sayByDraws_58 : decode cX5_sayByDraws 58 = .ok (.ishl, 1) := by decide +kernel
theorem dX5_sayByDraws_59 : decode cX5_sayByDraws 59 = .ok (.invokevirtual 107, 3) := by decide +kernel
theorem dX5_sayByDraws_62 : decode cX5_sayByDraws 62 = .ok (.pop, 1) := by decide +kernel
theorem dX5_sayByDraws_63 : decode cX5_sayByDraws 63 = .ok (.iinc 2 1, 3) := by decide +kernel
theorem dX5_sayByDraws_66 : decode cX5_sayByDraws 66 = .ok (.iinc 3 1, 3) := by decide +kernel
theorem dX5_sayByDraws_69 : decode cX5_sayByDraws 69 = .ok (.goto (-65), 3) := by decide +kernel
theorem dX5_sayByDraws_72 : decode cX5_sayByDraws 72 = .ok (.iload_n 2, 1) := by decide +kernel
theorem dX5_sayByDraws_73 : decode cX5_sayByDraws 73 = .ok (.ireturn, 1) := by decide +kernel
theorem dX5_drawBelow_0 : decode cX5_drawBelow 0 = .ok (.aload_n 0, 1) := by decide +kernel
theorem dX5_drawBelow_1 : decode cX5_drawBelow 1 = .ok (.aload_n 0, 1) := by decide +kernel
theorem dX5_drawBelow_2 : decode cX5_drawBelow 2 = .ok (.getfield 30, 3) := by decide +kernel
theorem dX5_drawBelow_5 : decode cX5_drawBelow 5 = .ok (.ldc 124, 2) := by decide +kernel
theorem dX5_drawBelow_7 : decode cX5_drawBelow 7 = .ok (.imul, 1) := by decide +kernel
theorem dX5_drawBelow_8 : decode cX5_drawBelow 8 = .ok (.sipush 12345, 3) := by decide +kernel
theorem dX5_drawBelow_11 : decode cX5_drawBelow 11 = .ok (.iadd, 1) := by decide +kernel
theorem dX5_drawBelow_12 : decode cX5_drawBelow 12 = .ok (.putfield 30, 3) := by decide +kernel
theorem dX5_drawBelow_15 : decode cX5_drawBelow 15 = .ok (.iload_n 1, 1) := by decide +kernel
theorem dX5_drawBelow_16 : decode cX5_drawBelow 16 = .ok (.ifCond .le 15, 3) := by decide +kernel
theorem dX5_drawBelow_19 : decode cX5_drawBelow 19 = .ok (.aload_n 0, 1) := by decide +kernel
theorem dX5_drawBelow_20 : decode cX5_drawBelow 20 = .ok (.getfield 30, 3) := by decide +kernel
theorem dX5_drawBelow_23 : decode cX5_drawBelow 23 = .ok (.bipush 16, 2) := by decide +kernel
theorem dX5_drawBelow_25 : decode cX5_drawBelow 25 = .ok (.iushr, 1) := by decide +kernel
theorem dX5_drawBelow_26 : decode cX5_drawBelow 26 = .ok (.iload_n 1, 1) := by decide +kernel
theorem dX5_drawBelow_27 : decode cX5_drawBelow 27 = .ok (.irem, 1) := by decide +kernel
theorem dX5_drawBelow_28 : decode cX5_drawBelow 28 = .ok (.goto 4, 3) := by decide +kernel
theorem dX5_drawBelow_31 : decode cX5_drawBelow 31 = .ok (.iconst 0, 1) := by decide +kernel
theorem dX5_drawBelow_32 : decode cX5_drawBelow 32 = .ok (.ireturn, 1) := by decide +kernel
theorem dX5_makeBlind_0 : decode cX5_makeBlind 0 = .ok (.aload_n 0, 1) := by decide +kernel
theorem dX5_makeBlind_1 : decode cX5_makeBlind 1 = .ok (.getfield 40, 3) := by decide +kernel
theorem dX5_makeBlind_4 : decode cX5_makeBlind 4 = .ok (.iload_n 1, 1) := by decide +kernel
theorem dX5_makeBlind_5 : decode cX5_makeBlind 5 = .ok (.dup2, 1) := by decide +kernel
theorem dX5_makeBlind_6 : decode cX5_makeBlind 6 = .ok (.iaload, 1) := by decide +kernel
theorem dX5_makeBlind_7 : decode cX5_makeBlind 7 = .ok (.aload_n 0, 1) := by decide +kernel
theorem dX5_makeBlind_8 : decode cX5_makeBlind 8 = .ok (.getfield 33, 3) := by decide +kernel
theorem dX5_makeBlind_11 : decode cX5_makeBlind 11 = .ok (.iload_n 1, 1) := by decide +kernel
theorem dX5_makeBlind_12 : decode cX5_makeBlind 12 = .ok (.iaload, 1) := by decide +kernel
theorem dX5_makeBlind_13 : decode cX5_makeBlind 13 = .ok (.aload_n 0, 1) := by decide +kernel
theorem dX5_makeBlind_14 : decode cX5_makeBlind 14 = .ok (.getfield 37, 3) := by decide +kernel
theorem dX5_makeBlind_17 : decode cX5_makeBlind 17 = .ok (.iload_n 1, 1) := by decide +kernel
theorem dX5_makeBlind_18 : decode cX5_makeBlind 18 = .ok (.iaload, 1) := by decide +kernel
theorem dX5_makeBlind_19 : decode cX5_makeBlind 19 = .ok (.ior, 1) := by decide +kernel
theorem dX5_makeBlind_20 : decode cX5_makeBlind 20 = .ok (.ior, 1) := by decide +kernel
theorem dX5_makeBlind_21 : decode cX5_makeBlind 21 = .ok (.iastore, 1) := by decide +kernel
theorem dX5_makeBlind_22 : decode cX5_makeBlind 22 = .ok (.aload_n 0, 1) := by decide +kernel
theorem dX5_makeBlind_23 : decode cX5_makeBlind 23 = .ok (.getfield 33, 3) := by decide +kernel
theorem dX5_makeBlind_26 : decode cX5_makeBlind 26 = .ok (.iload_n 1, 1) := by decide +kernel
theorem dX5_makeBlind_27 : decode cX5_makeBlind 27 = .ok (.iconst 0, 1) := by decide +kernel
theorem dX5_makeBlind_28 : decode cX5_makeBlind 28 = .ok (.iastore, 1) := by decide +kernel
theorem dX5_makeBlind_29 : decode cX5_makeBlind 29 = .ok (.aload_n 0, 1) := by decide +kernel
theorem dX5_makeBlind_30 : decode cX5_makeBlind 30 = .ok (.getfield 37, 3) := by decide +kernel
theorem dX5_makeBlind_33 : decode cX5_makeBlind 33 = .ok (.iload_n 1, 1) := by decide +kernel
theorem dX5_makeBlind_34 : decode cX5_makeBlind 34 = .ok (.iconst 0, 1) := by decide +kernel
theorem dX5_makeBlind_35 : decode cX5_makeBlind 35 = .ok (.iastore, 1) := by decide +kernel
theorem dX5_makeBlind_36 : decode cX5_makeBlind 36 = .ok (.aload_n 0, 1) := by decide +kernel
theorem dX5_makeBlind_37 : decode cX5_makeBlind 37 = .ok (.getfield 46, 3) := by decide +kernel
theorem dX5_makeBlind_40 : decode cX5_makeBlind 40 = .ok (.iload_n 1, 1) := by decide +kernel
theorem dX5_makeBlind_41 : decode cX5_makeBlind 41 = .ok (.iconst 4, 1) := by decide +kernel
theorem dX5_makeBlind_42 : decode cX5_makeBlind 42 = .ok (.iastore, 1) := by decide +kernel
theorem dX5_makeBlind_43 : decode cX5_makeBlind 43 = .ok (.return_, 1) := by decide +kernel
set_option maxRecDepth 20000 in
theorem ggX5_cutOff_X6_with : GoodIn wsX5_cutOff wsX6_with := goodIn_r _ [5] (by decide +kernel) (by decide +kernel)
set_option maxRecDepth 20000 in
theorem gX5_cutOff_X6_with_n61 : GoodIn wsX5_cutOff (wsX6_with) := ggX5_cutOff_X6_with
theorem dX5_cutOff_0 : decode cX5_cutOff 0 = .ok (.aload_n 0, 1) := by decide +kernel
theorem dX5_cutOff_1 : decode cX5_cutOff 1 = .ok (.getfield 43, 3) := by decide +kernel
theorem dX5_cutOff_4 : decode cX5_cutOff 4 = .ok (.iload_n 1, 1) := by decide +kernel
theorem dX5_cutOff_5 : decode cX5_cutOff 5 = .ok (.iconst 0, 1) := by decide +kernel
theorem dX5_cutOff_6 : decode cX5_cutOff 6 = .ok (.iastore, 1) := by decide +kernel
theorem dX5_cutOff_7 : decode cX5_cutOff 7 = .ok (.iconst 0, 1) := by decide +kernel
theorem dX5_cutOff_8 : decode cX5_cutOff 8 = .ok (.istore_n 2, 1) := by decide +kernel
theorem dX5_cutOff_9 : decode cX5_cutOff 9 = .ok (.iload_n 2, 1) := by decide +kernel
theorem dX5_cutOff_10 : decode cX5_cutOff 10 = .ok (.aload_n 0, 1) := by decide +kernel
theorem dX5_cutOff_11 : decode cX5_cutOff 11 = .ok (.getfield 15, 3) := by decide +kernel
theorem dX5_cutOff_14 : decode cX5_cutOff 14 = .ok (.if_icmp .ge 26, 3) := by decide +kernel
theorem dX5_cutOff_17 : decode cX5_cutOff 17 = .ok (.aload_n 0, 1) := by decide +kernel
theorem dX5_cutOff_18 : decode cX5_cutOff 18 = .ok (.getfield 43, 3) := by decide +kernel
theorem dX5_cutOff_21 : decode cX5_cutOff 21 = .ok (.iload_n 2, 1) := by decide +kernel
theorem dX5_cutOff_22 : decode cX5_cutOff 22 = .ok (.aload_n 0, 1) := by decide +kernel
theorem dX5_cutOff_23 : decode cX5_cutOff 23 = .ok (.getfield 43, 3) := by decide +kernel
theorem dX5_cutOff_26 : decode cX5_cutOff 26 = .ok (.iload_n 2, 1) := by decide +kernel
theorem dX5_cutOff_27 : decode cX5_cutOff 27 = .ok (.iaload, 1) := by decide +kernel
theorem dX5_cutOff_28 : decode cX5_cutOff 28 = .ok (.iload_n 1, 1) := by decide +kernel
theorem dX5_cutOff_29 : decode cX5_cutOff 29 = .ok (.iconst 0, 1) := by decide +kernel
theorem dX5_cutOff_30 : decode cX5_cutOff 30 = .ok (.invokestatic 61, 3) := by decide +kernel
theorem dX5_cutOff_33 : decode cX5_cutOff 33 = .ok (.iastore, 1) := by decide +kernel
theorem dX5_cutOff_34 : decode cX5_cutOff 34 = .ok (.iinc 2 1, 3) := by decide +kernel
theorem dX5_cutOff_37 : decode cX5_cutOff 37 = .ok (.goto (-28), 3) := by decide +kernel
theorem dX5_cutOff_40 : decode cX5_cutOff 40 = .ok (.return_, 1) := by decide +kernel
set_option maxRecDepth 20000 in
theorem ggX5_showTo_X6_has : GoodIn wsX5_showTo wsX6_has := goodIn_r _ [4] (by decide +kernel) (by decide +kernel)
set_option maxRecDepth 20000 in
theorem gX5_showTo_X6_has_n65 : GoodIn wsX5_showTo (wsX6_has) := ggX5_showTo_X6_has
set_option maxRecDepth 20000 in
theorem ggX5_showTo_X5_putSeen : GoodIn wsX5_showTo wsX5_putSeen := goodIn_r _ [9, 10, 11, 12, 3, 13, 14, 15, 16, 17, 18, 19, 20, 21, 22, 23, 24, 25, 26, 27] (by decide +kernel) (by decide +kernel)
set_option maxRecDepth 20000 in
theorem gX5_showTo_X5_putSeen : GoodIn wsX5_showTo (wsV RX5 125 RX5 yX5_putSeen wsX5_putSeen) := goodIn_app (goodIn_of _ (by decide +kernel)) ggX5_showTo_X5_putSeen
theorem dX5_showTo_0 : decode cX5_showTo 0 = .ok (.iconst 0, 1) := by decide +kernel
theorem dX5_showTo_1 : decode cX5_showTo 1 = .ok (.istore_n 3, 1) := by decide +kernel
theorem dX5_showTo_2 : decode cX5_showTo 2 = .ok (.iload_n 3, 1) := by decide +kernel
theorem dX5_showTo_3 : decode cX5_showTo 3 = .ok (.aload_n 0, 1) := by decide +kernel
theorem dX5_showTo_4 : decode cX5_showTo 4 = .ok (.getfield 15, 3) := by decide +kernel
theorem dX5_showTo_7 : decode cX5_showTo 7 = .ok (.if_icmp .ge 24, 3) := by decide +kernel
theorem dX5_showTo_10 : decode cX5_showTo 10 = .ok (.iload_n 1, 1) := by decide +kernel
theorem dX5_showTo_11 : decode cX5_showTo 11 = .ok (.iload_n 3, 1) := by decide +kernel
theorem dX5_showTo_12 : decode cX5_showTo 12 = .ok (.invokestatic 65, 3) := by decide +kernel
theorem dX5_showTo_15 : decode cX5_showTo 15 = .ok (.ifCond .eq 10, 3) := by decide +kernel
theorem dX5_showTo_18 : decode cX5_showTo 18 = .ok (.aload_n 0, 1) := by decide +kernel
theorem dX5_showTo_19 : decode cX5_showTo 19 = .ok (.iload_n 3, 1) := by decide +kernel
theorem dX5_showTo_20 : decode cX5_showTo 20 = .ok (.iload_n 2, 1) := by decide +kernel
theorem dX5_showTo_21 : decode cX5_showTo 21 = .ok (.iconst 2, 1) := by decide +kernel
theorem dX5_showTo_22 : decode cX5_showTo 22 = .ok (.invokevirtual 125, 3) := by decide +kernel
theorem dX5_showTo_25 : decode cX5_showTo 25 = .ok (.iinc 3 1, 3) := by decide +kernel
theorem dX5_showTo_28 : decode cX5_showTo 28 = .ok (.goto (-26), 3) := by decide +kernel
theorem dX5_showTo_31 : decode cX5_showTo 31 = .ok (.return_, 1) := by decide +kernel
set_option maxRecDepth 20000 in
theorem ggX6_init_X5_init : GoodIn wsX6_init wsX5_init := goodIn_r _ [34, 35, 2, 3, 36, 37, 38, 39, 40, 41, 42, 30, 43, 44, 45, 46, 47, 48, 49, 92, 93, 94, 95, 96, 97, 98, 99, 100, 101, 102, 103, 104, 105] (by decide +kernel) (by decide +kernel)
set_option maxRecDepth 20000 in
theorem gX6_init_X5_init_n9 : GoodIn wsX6_init (wsX5_init) := ggX6_init_X5_init
set_option maxRecDepth 20000 in
theorem ggX6_init_X3_init : GoodIn wsX6_init wsX3_init := goodIn_r _ [51, 52, 2, 3, 30, 53, 54, 55, 56, 57, 116, 117, 118] (by decide +kernel) (by decide +kernel)
set_option maxRecDepth 20000 in
theorem gX6_init_X3_init_n24 : GoodIn wsX6_init (wsX3_init) := ggX6_init_X3_init
set_option maxRecDepth 20000 in
theorem ggX6_init_X4_init : GoodIn wsX6_init wsX4_init := goodIn_r _ [59, 60, 2, 3, 61, 62, 30, 63, 64, 65, 66, 119, 120, 121, 122, 123, 124] (by decide +kernel) (by decide +kernel)
set_option maxRecDepth 20000 in
theorem gX6_init_X4_init_n31 : GoodIn wsX6_init (wsX4_init) := ggX6_init_X4_init
set_option maxRecDepth 20000 in
theorem ggX6_init_X2_init : GoodIn wsX6_init wsX2_init := goodIn_r _ [69, 70, 2, 3, 71, 72, 125, 126] (by decide +kernel) (by decide +kernel)
set_option maxRecDepth 20000 in
theorem gX6_init_X2_init : GoodIn wsX6_init (wsX2_init) := ggX6_init_X2_init
set_option maxRecDepth 20000 in
theorem ggX6_init_X1_init : GoodIn wsX6_init wsX1_init := goodIn_r _ [75, 76, 2, 3, 77, 30, 78, 79, 80, 81, 82, 83, 84, 127, 128, 129, 130, 131, 132, 133] (by decide +kernel) (by decide +kernel)
set_option maxRecDepth 20000 in
theorem gX6_init_X1_init : GoodIn wsX6_init (wsX1_init) := ggX6_init_X1_init
set_option maxRecDepth 20000 in
theorem ggX6_init_X0_init : GoodIn wsX6_init wsX0_init := goodIn_r _ [87, 88, 2, 3, 89, 90, 91, 134, 135, 136] (by decide +kernel) (by decide +kernel)
set_option maxRecDepth 20000 in
theorem gX6_init_X0_init : GoodIn wsX6_init (wsX0_init) := ggX6_init_X0_init
theorem dX6_init_0 : decode cX6_init 0 = .ok (.aload_n 0, 1) := by decide +kernel
theorem dX6_init_1 : decode cX6_init 1 = .ok (.invokespecial 1, 3) := by decide +kernel
theorem dX6_init_4 : decode cX6_init 4 = .ok (.aload_n 0, 1) := by decide +kernel
theorem dX6_init_5 : decode cX6_init 5 = .ok (.new 7, 3) := by decide +kernel
theorem dX6_init_8 : decode cX6_init 8 = .ok (.dup, 1) := by decide +kernel
theorem dX6_init_9 : decode cX6_init 9 = .ok (.invokespecial 9, 3) := by decide +kernel
theorem dX6_init_12 : decode cX6_init 12 = .ok (.putfield 10, 3) := by decide +kernel
theorem dX6_init_15 : decode cX6_init 15 = .ok (.aload_n 0, 1) := by decide +kernel
theorem dX6_init_16 : decode cX6_init 16 = .ok (.new 7, 3) := by decide +kernel
theorem dX6_init_19 : decode cX6_init 19 = .ok (.dup, 1) := by decide +kernel
theorem dX6_init_20 : decode cX6_init 20 = .ok (.invokespecial 9, 3) := by decide +kernel
theorem dX6_init_23 : decode cX6_init 23 = .ok (.putfield 16, 3) := by decide +kernel
theorem dX6_init_26 : decode cX6_init 26 = .ok (.aload_n 0, 1) := by decide +kernel
theorem dX6_init_27 : decode cX6_init 27 = .ok (.new 7, 3) := by decide +kernel
theorem dX6_init_30 : decode cX6_init 30 = .ok (.dup, 1) := by decide +kernel
theorem dX6_init_31 : decode cX6_init 31 = .ok (.invokespecial 9, 3) := by decide +kernel
theorem dX6_init_34 : decode cX6_init 34 = .ok (.putfield 19, 3) := by decide +kernel
theorem dX6_init_37 : decode cX6_init 37 = .ok (.aload_n 0, 1) := by decide +kernel
theorem dX6_init_38 : decode cX6_init 38 = .ok (.new 22, 3) := by decide +kernel
theorem dX6_init_41 : decode cX6_init 41 = .ok (.dup, 1) := by decide +kernel
theorem dX6_init_42 : decode cX6_init 42 = .ok (.invokespecial 24, 3) := by decide +kernel
theorem dX6_init_45 : decode cX6_init 45 = .ok (.putfield 25, 3) := by decide +kernel
theorem dX6_init_48 : decode cX6_init 48 = .ok (.aload_n 0, 1) := by decide +kernel
theorem dX6_init_49 : decode cX6_init 49 = .ok (.new 29, 3) := by decide +kernel
theorem dX6_init_52 : decode cX6_init 52 = .ok (.dup, 1) := by decide +kernel
theorem dX6_init_53 : decode cX6_init 53 = .ok (.invokespecial 31, 3) := by decide +kernel
theorem dX6_init_56 : decode cX6_init 56 = .ok (.putfield 32, 3) := by decide +kernel
theorem dX6_init_59 : decode cX6_init 59 = .ok (.aload_n 0, 1) := by decide +kernel
theorem dX6_init_60 : decode cX6_init 60 = .ok (.new 36, 3) := by decide +kernel
theorem dX6_init_63 : decode cX6_init 63 = .ok (.dup, 1) := by decide +kernel
theorem dX6_init_64 : decode cX6_init 64 = .ok (.aload_n 0, 1) := by decide +kernel
theorem dX6_init_65 : decode cX6_init 65 = .ok (.getfield 10, 3) := by decide +kernel
theorem dX6_init_68 : decode cX6_init 68 = .ok (.aload_n 0, 1) := by decide +kernel
theorem dX6_init_69 : decode cX6_init 69 = .ok (.getfield 19, 3) := by decide +kernel
theorem dX6_init_72 : decode cX6_init 72 = .ok (.invokespecial 38, 3) := by decide +kernel
theorem dX6_init_75 : decode cX6_init 75 = .ok (.putfield 41, 3) := by decide +kernel
theorem dX6_init_78 : decode cX6_init 78 = .ok (.aload_n 0, 1) := by decide +kernel
theorem dX6_init_79 : decode cX6_init 79 = .ok (.new 45, 3) := by decide +kernel
theorem dX6_init_82 : decode cX6_init 82 = .ok (.dup, 1) := by decide +kernel
theorem dX6_init_83 : decode cX6_init 83 = .ok (.aload_n 0, 1) := by decide +kernel
theorem dX6_init_84 : decode cX6_init 84 = .ok (.getfield 10, 3) := by decide +kernel
theorem dX6_init_87 : decode cX6_init 87 = .ok (.aload_n 0, 1) := by decide +kernel
theorem dX6_init_88 : decode cX6_init 88 = .ok (.getfield 19, 3) := by decide +kernel
theorem dX6_init_91 : decode cX6_init 91 = .ok (.invokespecial 47, 3) := by decide +kernel
theorem dX6_init_94 : decode cX6_init 94 = .ok (.putfield 48, 3) := by decide +kernel
theorem dX6_init_97 : decode cX6_init 97 = .ok (.aload_n 0, 1) := by decide +kernel
theorem dX6_init_98 : decode cX6_init 98 = .ok (.new 52, 3) := by decide +kernel
theorem dX6_init_101 : decode cX6_init 101 = .ok (.dup, 1) := by decide +kernel
theorem dX6_init_102 : decode cX6_init 102 = .ok (.aload_n 0, 1) := by decide +kernel
theorem dX6_init_103 : decode cX6_init 103 = .ok (.getfield 10, 3) := by decide +kernel
theorem dX6_init_106 : decode cX6_init 106 = .ok (.aload_n 0, 1) := by decide +kernel
theorem dX6_init_107 : decode cX6_init 107 = .ok (.getfield 19, 3) := by decide +kernel
theorem dX6_init_110 : decode cX6_init 110 = .ok (.aload_n 0, 1) := by decide +kernel
theorem dX6_init_111 : decode cX6_init 111 = .ok (.getfield 25, 3) := by decide +kernel
theorem dX6_init_114 : decode cX6_init 114 = .ok (.invokespecial 54, 3) := by decide +kernel
theorem dX6_init_117 : decode cX6_init 117 = .ok (.putfield 57, 3) := by decide +kernel
theorem dX6_init_120 : decode cX6_init 120 = .ok (.aload_n 0, 1) := by decide +kernel
theorem dX6_init_121 : decode cX6_init 121 = .ok (.iconst 5, 1) := by decide +kernel
theorem dX6_init_122 : decode cX6_init 122 = .ok (.newarray .int, 2) := by decide +kernel
theorem dX6_init_124 : decode cX6_init 124 = .ok (.putfield 61, 3) := by decide +kernel
theorem dX6_init_127 : decode cX6_init 127 = .ok (.aload_n 0, 1) := by decide +kernel
theorem dX6_init_128 : decode cX6_init 128 = .ok (.iconst 0, 1) := by decide +kernel
theorem dX6_init_129 : decode cX6_init 129 = .ok (.putfield 65, 3) := by decide +kernel
theorem dX6_init_132 : decode cX6_init 132 = .ok (.return_, 1) := by decide +kernel
set_option maxRecDepth 20000 in
theorem ggX6_row_X6_isShelf : GoodIn wsX6_row wsX6_isShelf := goodIn_r _ [5, 6, 7, 4, 8] (by decide +kernel) (by decide +kernel)
set_option maxRecDepth 20000 in
theorem gX6_row_X6_isShelf : GoodIn wsX6_row (va_wsS RX6 69 yX6_isShelf wsX6_isShelf) := goodIn_app (goodIn_of _ (by decide +kernel)) ggX6_row_X6_isShelf
set_option maxRecDepth 20000 in
theorem ggX6_row_X6_isWithin : GoodIn wsX6_row wsX6_isWithin := goodIn_r _ [8] (by decide +kernel) (by decide +kernel)
set_option maxRecDepth 20000 in
theorem gX6_row_X6_isWithin : GoodIn wsX6_row (va_wsS RX6 73 yX6_isWithin wsX6_isWithin) := goodIn_app (goodIn_of _ (by decide +kernel)) ggX6_row_X6_isWithin
set_option maxRecDepth 20000 in
theorem ggX6_row_X6_refuse : GoodIn wsX6_row wsX6_refuse := goodIn_r _ [12, 13, 22, 23, 24, 25, 26, 27, 28, 29, 30, 31] (by decide +kernel) (by decide +kernel)
set_option maxRecDepth 20000 in
theorem gX6_row_X6_refuse : GoodIn wsX6_row (wsV RX6 77 RX6 yX6_refuse wsX6_refuse) := goodIn_app (goodIn_of _ (by decide +kernel)) ggX6_row_X6_refuse
set_option maxRecDepth 20000 in
theorem ggX6_row_X3_putRow : GoodIn wsX6_row wsX3_putRow := goodIn_r _ [18, 19, 20, 21, 32, 33, 34] (by decide +kernel) (by decide +kernel)
set_option maxRecDepth 20000 in
theorem gX6_row_X3_putRow : GoodIn wsX6_row (wsV RX6 81 RX3 yX3_putRow wsX3_putRow) := goodIn_app (goodIn_of _ (by decide +kernel)) ggX6_row_X3_putRow
theorem dX6_row_0 : decode cX6_row 0 = .ok (.iload_n 1, 1) := by decide +kernel
theorem dX6_row_1 : decode cX6_row 1 = .ok (.invokestatic 69, 3) := by decide +kernel
theorem dX6_row_4 : decode cX6_row 4 = .ok (.ifCond .eq 22, 3) := by decide +kernel
theorem dX6_row_7 : decode cX6_row 7 = .ok (.iload_n 2, 1) := by decide +kernel
theorem dX6_row_8 : decode cX6_row 8 = .ok (.iconst 0, 1) := by decide +kernel
theorem dX6_row_9 : decode cX6_row 9 = .ok (.iconst 4, 1) := by decide +kernel
theorem dX6_row_10 : decode cX6_row 10 = .ok (.invokestatic 73, 3) := by decide +kernel
theorem dX6_row_13 : decode cX6_row 13 = .ok (.ifCond .eq 13, 3) := by decide +kernel
theorem dX6_row_16 : decode cX6_row 16 = .ok (.iload_n 3, 1) := by decide +kernel
theorem dX6_row_17 : decode cX6_row 17 = .ok (.iconst 0, 1) := by decide +kernel
theorem dX6_row_18 : decode cX6_row 18 = .ok (.bipush 40, 2) := by decide +kernel
theorem dX6_row_20 : decode cX6_row 20 = .ok (.invokestatic 73, 3) := by decide +kernel
theorem dX6_row_23 : decode cX6_row 23 = .ok (.ifCond .ne 10, 3) := by decide +kernel
theorem dX6_row_26 : decode cX6_row 26 = .ok (.aload_n 0, 1) := by decide +kernel
theorem dX6_row_27 : decode cX6_row 27 = .ok (.bipush (-2), 2) := by decide +kernel
theorem dX6_row_29 : decode cX6_row 29 = .ok (.invokevirtual 77, 3) := by decide +kernel
theorem dX6_row_32 : decode cX6_row 32 = .ok (.ireturn, 1) := by decide +kernel
theorem dX6_row_33 : decode cX6_row 33 = .ok (.aload_n 0, 1) := by decide +kernel
theorem dX6_row_34 : decode cX6_row 34 = .ok (.getfield 25, 3) := by decide +kernel
theorem dX6_row_37 : decode cX6_row 37 = .ok (.iload_n 1, 1) := by decide +kernel
theorem dX6_row_38 : decode cX6_row 38 = .ok (.iload_n 2, 1) := by decide +kernel
theorem dX6_row_39 : decode cX6_row 39 = .ok (.iload_n 3, 1) := by decide +kernel
theorem dX6_row_40 : decode cX6_row 40 = .ok (.invokevirtual 81, 3) := by decide +kernel
theorem dX6_row_43 : decode cX6_row 43 = .ok (.iconst 1, 1) := by decide +kernel
theorem dX6_row_44 : decode cX6_row 44 = .ok (.ireturn, 1) := by decide +kernel
set_option maxRecDepth 20000 in
theorem ggX6_set_X3_troubleWithRow : GoodIn wsX6_set wsX3_troubleWithRow := goodIn_r _ [6, 7, 8, 9, 10, 11, 12, 13, 14, 42, 43, 44] (by decide +kernel) (by decide +kernel)
set_option maxRecDepth 20000 in
theorem gX6_set_X3_troubleWithRow : GoodIn wsX6_set (wsV RX6 85 RX3 yX3_troubleWithRow wsX3_troubleWithRow) := goodIn_app (goodIn_of _ (by decide +kernel)) ggX6_set_X3_troubleWithRow
set_option maxRecDepth 20000 in
theorem ggX6_set_X6_refuse : GoodIn wsX6_set wsX6_refuse := goodIn_r _ [18, 19, 32, 33, 34, 35, 36, 37, 38, 39, 40, 41] (by decide +kernel) (by decide +kernel)
set_option maxRecDepth 20000 in
theorem gX6_set_X6_refuse : GoodIn wsX6_set (wsV RX6 77 RX6 yX6_refuse wsX6_refuse) := goodIn_app (goodIn_of _ (by decide +kernel)) ggX6_set_X6_refuse
set_option maxRecDepth 20000 in
theorem ggX6_set_X3_sizeOf : GoodIn wsX6_set wsX3_sizeOf := goodIn_r _ [23, 8, 9, 10, 11, 12, 13, 14, 42, 43, 44] (by decide +kernel) (by decide +kernel)
set_option maxRecDepth 20000 in
theorem gX6_set_X3_sizeOf : GoodIn wsX6_set (wsV RX6 89 RX3 yX3_sizeOf wsX3_sizeOf) := goodIn_app (goodIn_of _ (by decide +kernel)) ggX6_set_X3_sizeOf
set_option maxRecDepth 20000 in
theorem ggX6_set_X6_isWithin : GoodIn wsX6_set wsX6_isWithin := goodIn_r _ [14] (by decide +kernel) (by decide +kernel)
set_option maxRecDepth 20000 in
theorem gX6_set_X6_isWithin : GoodIn wsX6_set (va_wsS RX6 73 yX6_isWithin wsX6_isWithin) := goodIn_app (goodIn_of _ (by decide +kernel)) ggX6_set_X6_isWithin
set_option maxRecDepth 20000 in
theorem ggX6_set_X3_putElement : GoodIn wsX6_set wsX3_putElement := goodIn_r _ [27, 28, 7, 29, 30, 5, 31, 42, 43, 44] (by decide +kernel) (by decide +kernel)
set_option maxRecDepth 20000 in
theorem gX6_set_X3_putElement : GoodIn wsX6_set (wsV RX6 92 RX3 yX3_putElement wsX3_putElement) := goodIn_app (goodIn_of _ (by decide +kernel)) ggX6_set_X3_putElement
theorem dX6_set_0 : decode cX6_set 0 = .ok (.aload_n 0, 1) := by decide +kernel
theorem dX6_set_1 : decode cX6_set 1 = .ok (.getfield 25, 3) := by decide +kernel
theorem dX6_set_4 : decode cX6_set 4 = .ok (.iload_n 1, 1) := by decide +kernel
theorem dX6_set_5 : decode cX6_set 5 = .ok (.iconst 0, 1) := by decide +kernel
theorem dX6_set_6 : decode cX6_set 6 = .ok (.invokevirtual 85, 3) := by decide +kernel
theorem dX6_set_9 : decode cX6_set 9 = .ok (.istore 5, 2) := by decide +kernel
theorem dX6_set_11 : decode cX6_set 11 = .ok (.iload 5, 2) := by decide +kernel
theorem dX6_set_13 : decode cX6_set 13 = .ok (.ifCond .eq 10, 3) := by decide +kernel
theorem dX6_set_16 : decode cX6_set 16 = .ok (.aload_n 0, 1) := by decide +kernel
theorem dX6_set_17 : decode cX6_set 17 = .ok (.iload 5, 2) := by decide +kernel
theorem dX6_set_19 : decode cX6_set 19 = .ok (.invokevirtual 77, 3) := by decide +kernel
theorem dX6_set_22 : decode cX6_set 22 = .ok (.ireturn, 1) := by decide +kernel
theorem dX6_set_23 : decode cX6_set 23 = .ok (.iload_n 2, 1) := by decide +kernel
theorem dX6_set_24 : decode cX6_set 24 = .ok (.iconst 0, 1) := by decide +kernel
theorem dX6_set_25 : decode cX6_set 25 = .ok (.aload_n 0, 1) := by decide +kernel
theorem dX6_set_26 : decode cX6_set 26 = .ok (.getfield 25, 3) := by decide +kernel
theorem dX6_set_29 : decode cX6_set 29 = .ok (.iload_n 1, 1) := by decide +kernel
theorem dX6_set_30 : decode cX6_set 30 = .ok (.invokevirtual 89, 3) := by decide +kernel
theorem dX6_set_33 : decode cX6_set 33 = .ok (.iconst 1, 1) := by decide +kernel
theorem dX6_set_34 : decode cX6_set 34 = .ok (.isub, 1) := by decide +kernel
theorem dX6_set_35 : decode cX6_set 35 = .ok (.invokestatic 73, 3) := by decide +kernel
theorem dX6_set_38 : decode cX6_set 38 = .ok (.ifCond .ne 10, 3) := by decide +kernel
theorem dX6_set_41 : decode cX6_set 41 = .ok (.aload_n 0, 1) := by decide +kernel
theorem dX6_set_42 : decode cX6_set 42 = .ok (.bipush (-2), 2) := by decide +kernel
theorem dX6_set_44 : decode cX6_set 44 = .ok (.invokevirtual 77, 3) := by decide +kernel
theorem dX6_set_47 : decode cX6_set 47 = .ok (.ireturn, 1) := by decide +kernel
theorem dX6_set_48 : decode cX6_set 48 = .ok (.aload_n 0, 1) := by decide +kernel
theorem dX6_set_49 : decode cX6_set 49 = .ok (.getfield 25, 3) := by decide +kernel
theorem dX6_set_52 : decode cX6_set 52 = .ok (.iload_n 1, 1) := by decide +kernel
theorem dX6_set_53 : decode cX6_set 53 = .ok (.iload_n 2, 1) := by decide +kernel
theorem dX6_set_54 : decode cX6_set 54 = .ok (.lload_n 3, 1) := by decide +kernel
theorem dX6_set_55 : decode cX6_set 55 = .ok (.invokevirtual 92, 3) := by decide +kernel
theorem dX6_set_58 : decode cX6_set 58 = .ok (.iconst 1, 1) := by decide +kernel
theorem dX6_set_59 : decode cX6_set 59 = .ok (.ireturn, 1) := by decide +kernel
set_option maxRecDepth 20000 in
theorem ggX6_copy_X3_troubleWithRows : GoodIn wsX6_copy wsX3_troubleWithRows := goodIn_r _ [6, 7, 8, 9, 10, 11, 12, 13, 46, 47, 48] (by decide +kernel) (by decide +kernel)
set_option maxRecDepth 20000 in
theorem gX6_copy_X3_troubleWithRows : GoodIn wsX6_copy (wsV RX6 96 RX3 yX3_troubleWithRows wsX3_troubleWithRows) := goodIn_app (goodIn_of _ (by decide +kernel)) ggX6_copy_X3_troubleWithRows
set_option maxRecDepth 20000 in
theorem ggX6_copy_X6_refuse : GoodIn wsX6_copy wsX6_refuse := goodIn_r _ [17, 18, 36, 37, 38, 39, 40, 41, 42, 43, 44, 45] (by decide +kernel) (by decide +kernel)
set_option maxRecDepth 20000 in
theorem gX6_copy_X6_refuse : GoodIn wsX6_copy (wsV RX6 77 RX6 yX6_refuse wsX6_refuse) := goodIn_app (goodIn_of _ (by decide +kernel)) ggX6_copy_X6_refuse
set_option maxRecDepth 20000 in
theorem ggX6_copy_X3_sizeOf : GoodIn wsX6_copy wsX3_sizeOf := goodIn_r _ [22, 23, 8, 9, 10, 11, 12, 13, 46, 47, 48] (by decide +kernel) (by decide +kernel)
set_option maxRecDepth 20000 in
theorem gX6_copy_X3_sizeOf : GoodIn wsX6_copy (wsV RX6 89 RX3 yX3_sizeOf wsX3_sizeOf) := goodIn_app (goodIn_of _ (by decide +kernel)) ggX6_copy_X3_sizeOf
set_option maxRecDepth 20000 in
theorem ggX6_copy_X6_isPart : GoodIn wsX6_copy wsX6_isPart := goodIn_r _ [26] (by decide +kernel) (by decide +kernel)
set_option maxRecDepth 20000 in
theorem gX6_copy_X6_isPart : GoodIn wsX6_copy (va_wsS RX6 99 yX6_isPart wsX6_isPart) := goodIn_app (goodIn_of _ (by decide +kernel)) ggX6_copy_X6_isPart
set_option maxRecDepth 20000 in
theorem ggX6_copy_X3_copyElements : GoodIn wsX6_copy wsX3_copyElements := goodIn_r _ [30, 31, 32, 33, 34, 35, 46, 47, 48] (by decide +kernel) (by decide +kernel)
set_option maxRecDepth 20000 in
theorem gX6_copy_X3_copyElements : GoodIn wsX6_copy (wsV RX6 102 RX3 yX3_copyElements wsX3_copyElements) := goodIn_app (goodIn_of _ (by decide +kernel)) ggX6_copy_X3_copyElements
theorem dX6_copy_0 : decode cX6_copy 0 = .ok (.aload_n 0, 1) := by decide +kernel
theorem dX6_copy_1 : decode cX6_copy 1 = .ok (.getfield 25, 3) := by decide +kernel
theorem dX6_copy_4 : decode cX6_copy 4 = .ok (.iload_n 1, 1) := by decide +kernel
theorem dX6_copy_5 : decode cX6_copy 5 = .ok (.iload_n 2, 1) := by decide +kernel
theorem dX6_copy_6 : decode cX6_copy 6 = .ok (.invokevirtual 96, 3) := by decide +kernel
theorem dX6_copy_9 : decode cX6_copy 9 = .ok (.istore 6, 2) := by decide +kernel
theorem dX6_copy_11 : decode cX6_copy 11 = .ok (.iload 6, 2) := by decide +kernel
theorem dX6_copy_13 : decode cX6_copy 13 = .ok (.ifCond .eq 10, 3) := by decide +kernel
theorem dX6_copy_16 : decode cX6_copy 16 = .ok (.aload_n 0, 1) := by decide +kernel
theorem dX6_copy_17 : decode cX6_copy 17 = .ok (.iload 6, 2) := by decide +kernel
theorem dX6_copy_19 : decode cX6_copy 19 = .ok (.invokevirtual 77, 3) := by decide +kernel
theorem dX6_copy_22 : decode cX6_copy 22 = .ok (.ireturn, 1) := by decide +kernel
theorem dX6_copy_23 : decode cX6_copy 23 = .ok (.iload_n 3, 1) := by decide +kernel
theorem dX6_copy_24 : decode cX6_copy 24 = .ok (.iload 5, 2) := by decide +kernel
theorem dX6_copy_26 : decode cX6_copy 26 = .ok (.aload_n 0, 1) := by decide +kernel
theorem dX6_copy_27 : decode cX6_copy 27 = .ok (.getfield 25, 3) := by decide +kernel
theorem dX6_copy_30 : decode cX6_copy 30 = .ok (.iload_n 1, 1) := by decide +kernel
theorem dX6_copy_31 : decode cX6_copy 31 = .ok (.invokevirtual 89, 3) := by decide +kernel
theorem dX6_copy_34 : decode cX6_copy 34 = .ok (.invokestatic 99, 3) := by decide +kernel
theorem dX6_copy_37 : decode cX6_copy 37 = .ok (.ifCond .eq 21, 3) := by decide +kernel
theorem dX6_copy_40 : decode cX6_copy 40 = .ok (.iload 4, 2) := by decide +kernel
theorem dX6_copy_42 : decode cX6_copy 42 = .ok (.iload 5, 2) := by decide +kernel
theorem dX6_copy_44 : decode cX6_copy 44 = .ok (.aload_n 0, 1) := by decide +kernel
theorem dX6_copy_45 : decode cX6_copy 45 = .ok (.getfield 25, 3) := by decide +kernel
theorem dX6_copy_48 : decode cX6_copy 48 = .ok (.iload_n 2, 1) := by decide +kernel
theorem dX6_copy_49 : decode cX6_copy 49 = .ok (.invokevirtual 89, 3) := by decide +kernel
theorem dX6_copy_52 : decode cX6_copy 52 = .ok (.invokestatic 99, 3) := by decide +kernel
theorem dX6_copy_55 : decode cX6_copy 55 = .ok (.ifCond .ne 10, 3) := by decide +kernel
theorem dX6_copy_58 : decode cX6_copy 58 = .ok (.aload_n 0, 1) := by decide +kernel
theorem dX6_copy_59 : decode cX6_copy 59 = .ok (.bipush (-2), 2) := by decide +kernel
theorem dX6_copy_61 : decode cX6_copy 61 = .ok (.invokevirtual 77, 3) := by decide +kernel
theorem dX6_copy_64 : decode cX6_copy 64 = .ok (.ireturn, 1) := by decide +kernel
theorem dX6_copy_65 : decode cX6_copy 65 = .ok (.aload_n 0, 1) := by decide +kernel
theorem dX6_copy_66 : decode cX6_copy 66 = .ok (.getfield 25, 3) := by decide +kernel
theorem dX6_copy_69 : decode cX6_copy 69 = .ok (.iload_n 1, 1) := by decide +kernel
theorem dX6_copy_70 : decode cX6_copy 70 = .ok (.iload_n 2, 1) := by decide +kernel
theorem dX6_copy_71 : decode cX6_copy 71 = .ok (.iload_n 3, 1) := by decide +kernel
theorem dX6_copy_72 : decode cX6_copy 72 = .ok (.iload 4, 2) := by decide +kernel
theorem dX6_copy_74 : decode cX6_copy 74 = .ok (.iload 5, 2) := by decide +kernel
theorem dX6_copy_76 : decode cX6_copy 76 = .ok (.invokevirtual 102, 3) := by decide +kernel
theorem dX6_copy_79 : decode cX6_copy 79 = .ok (.iload 5, 2) := by decide +kernel
theorem dX6_copy_81 : decode cX6_copy 81 = .ok (.ireturn, 1) := by decide +kernel
set_option maxRecDepth 20000 in
theorem ggX6_element_X3_elementOf : GoodIn wsX6_element wsX3_elementOf := goodIn_r _ [6, 7, 8, 9, 10, 11, 12, 13, 14, 25, 26, 27] (by decide +kernel) (by decide +kernel)
set_option maxRecDepth 20000 in
theorem gX6_element_X3_elementOf : GoodIn wsX6_element (wsV RX6 106 RX3 yX3_elementOf wsX3_elementOf) := goodIn_app (goodIn_of _ (by decide +kernel)) ggX6_element_X3_elementOf
theorem dX6_element_0 : decode cX6_element 0 = .ok (.aload_n 0, 1) := by decide +kernel
theorem dX6_element_1 : decode cX6_element 1 = .ok (.getfield 25, 3) := by decide +kernel
theorem dX6_element_4 : decode cX6_element 4 = .ok (.iload_n 1, 1) := by decide +kernel
theorem dX6_element_5 : decode cX6_element 5 = .ok (.iload_n 2, 1) := by decide +kernel
theorem dX6_element_6 : decode cX6_element 6 = .ok (.invokevirtual 106, 3) := by decide +kernel
theorem dX6_element_9 : decode cX6_element 9 = .ok (.lreturn, 1) := by decide +kernel
set_option maxRecDepth 20000 in
theorem ggX6_holds_X3_heldBy : GoodIn wsX6_holds wsX3_heldBy := goodIn_r _ [6, 7, 8, 9, 10, 11, 12, 13, 24, 25, 26] (by decide +kernel) (by decide +kernel)
set_option maxRecDepth 20000 in
theorem gX6_holds_X3_heldBy : GoodIn wsX6_holds (wsV RX6 110 RX3 yX3_heldBy wsX3_heldBy) := goodIn_app (goodIn_of _ (by decide +kernel)) ggX6_holds_X3_heldBy
theorem dX6_holds_0 : decode cX6_holds 0 = .ok (.aload_n 0, 1) := by decide +kernel
theorem dX6_holds_1 : decode cX6_holds 1 = .ok (.getfield 25, 3) := by decide +kernel
theorem dX6_holds_4 : decode cX6_holds 4 = .ok (.iload_n 1, 1) := by decide +kernel
theorem dX6_holds_5 : decode cX6_holds 5 = .ok (.invokevirtual 110, 3) := by decide +kernel
theorem dX6_holds_8 : decode cX6_holds 8 = .ok (.ireturn, 1) := by decide +kernel
set_option maxRecDepth 20000 in
theorem ggX6_show_X6_isShelf : GoodIn wsX6_show wsX6_isShelf := goodIn_r _ [6, 7, 8, 5, 9] (by decide +kernel) (by decide +kernel)
set_option maxRecDepth 20000 in
theorem gX6_show_X6_isShelf : GoodIn wsX6_show (va_wsS RX6 69 yX6_isShelf wsX6_isShelf) := goodIn_app (goodIn_of _ (by decide +kernel)) ggX6_show_X6_isShelf
set_option maxRecDepth 20000 in
theorem ggX6_show_X5_isOne : GoodIn wsX6_show wsX5_isOne := goodIn_r _ [14, 15, 38, 39, 40, 41, 42, 43, 44, 45, 46, 47, 48, 49, 50, 51] (by decide +kernel) (by decide +kernel)
set_option maxRecDepth 20000 in
theorem gX6_show_X5_isOne : GoodIn wsX6_show (wsV RX6 113 RX5 yX5_isOne wsX5_isOne) := goodIn_app (goodIn_of _ (by decide +kernel)) ggX6_show_X5_isOne
set_option maxRecDepth 20000 in
theorem ggX6_show_X6_refuse : GoodIn wsX6_show wsX6_refuse := goodIn_r _ [19, 20, 28, 29, 30, 31, 32, 33, 34, 35, 36, 37] (by decide +kernel) (by decide +kernel)
set_option maxRecDepth 20000 in
theorem gX6_show_X6_refuse : GoodIn wsX6_show (wsV RX6 77 RX6 yX6_refuse wsX6_refuse) := goodIn_app (goodIn_of _ (by decide +kernel)) ggX6_show_X6_refuse
set_option maxRecDepth 20000 in
theorem ggX6_show_X3_putOne : GoodIn wsX6_show wsX3_putOne := goodIn_r _ [25, 26, 27, 52, 53, 54] (by decide +kernel) (by decide +kernel)
set_option maxRecDepth 20000 in
theorem gX6_show_X3_putOne : GoodIn wsX6_show (wsV RX6 116 RX3 yX3_putOne wsX3_putOne) := goodIn_app (goodIn_of _ (by decide +kernel)) ggX6_show_X3_putOne
theorem dX6_show_0 : decode cX6_show 0 = .ok (.iload_n 1, 1) := by decide +kernel
theorem dX6_show_1 : decode cX6_show 1 = .ok (.invokestatic 69, 3) := by decide +kernel
theorem dX6_show_4 : decode cX6_show 4 = .ok (.ifCond .eq 19, 3) := by decide +kernel
theorem dX6_show_7 : decode cX6_show 7 = .ok (.iload_n 2, 1) := by decide +kernel
theorem dX6_show_8 : decode cX6_show 8 = .ok (.iconst (-1), 1) := by decide +kernel
theorem dX6_show_9 : decode cX6_show 9 = .ok (.if_icmp .eq 21, 3) := by decide +kernel
theorem dX6_show_12 : decode cX6_show 12 = .ok (.aload_n 0, 1) := by decide +kernel
theorem dX6_show_13 : decode cX6_show 13 = .ok (.getfield 10, 3) := by decide +kernel
theorem dX6_show_16 : decode cX6_show 16 = .ok (.iload_n 2, 1) := by decide +kernel
theorem dX6_show_17 : decode cX6_show 17 = .ok (.invokevirtual 113, 3) := by decide +kernel
theorem dX6_show_20 : decode cX6_show 20 = .ok (.ifCond .ne 10, 3) := by decide +kernel
theorem dX6_show_23 : decode cX6_show 23 = .ok (.aload_n 0, 1) := by decide +kernel
theorem dX6_show_24 : decode cX6_show 24 = .ok (.bipush (-2), 2) := by decide +kernel
theorem dX6_show_26 : decode cX6_show 26 = .ok (.invokevirtual 77, 3) := by decide +kernel
theorem dX6_show_29 : decode cX6_show 29 = .ok (.ireturn, 1) := by decide +kernel
theorem dX6_show_30 : decode cX6_show 30 = .ok (.aload_n 0, 1) := by decide +kernel
theorem dX6_show_31 : decode cX6_show 31 = .ok (.getfield 25, 3) := by decide +kernel
theorem dX6_show_34 : decode cX6_show 34 = .ok (.iload_n 1, 1) := by decide +kernel
theorem dX6_show_35 : decode cX6_show 35 = .ok (.iload_n 2, 1) := by decide +kernel
theorem dX6_show_36 : decode cX6_show 36 = .ok (.invokevirtual 116, 3) := by decide +kernel
theorem dX6_show_39 : decode cX6_show 39 = .ok (.iconst 1, 1) := by decide +kernel
theorem dX6_show_40 : decode cX6_show 40 = .ok (.ireturn, 1) := by decide +kernel
set_option maxRecDepth 20000 in
theorem ggX6_says_X6_isShelf : GoodIn wsX6_says wsX6_isShelf := goodIn_r _ [6, 7, 8, 5, 9] (by decide +kernel) (by decide +kernel)
set_option maxRecDepth 20000 in
theorem gX6_says_X6_isShelf : GoodIn wsX6_says (va_wsS RX6 69 yX6_isShelf wsX6_isShelf) := goodIn_app (goodIn_of _ (by decide +kernel)) ggX6_says_X6_isShelf
set_option maxRecDepth 20000 in
theorem ggX6_says_X6_isKind : GoodIn wsX6_says wsX6_isKind := goodIn_r _ [12, 7, 8, 5, 9] (by decide +kernel) (by decide +kernel)
set_option maxRecDepth 20000 in
theorem gX6_says_X6_isKind : GoodIn wsX6_says (va_wsS RX6 120 yX6_isKind wsX6_isKind) := goodIn_app (goodIn_of _ (by decide +kernel)) ggX6_says_X6_isKind
set_option maxRecDepth 20000 in
theorem ggX6_says_X6_refuse : GoodIn wsX6_says wsX6_refuse := goodIn_r _ [16, 17, 76, 77, 78, 79, 80, 81, 82, 83, 84, 85] (by decide +kernel) (by decide +kernel)
set_option maxRecDepth 20000 in
theorem gX6_says_X6_refuse : GoodIn wsX6_says (wsV RX6 77 RX6 yX6_refuse wsX6_refuse) := goodIn_app (goodIn_of _ (by decide +kernel)) ggX6_says_X6_refuse
set_option maxRecDepth 20000 in
theorem ggX6_says_X3_heldBy : GoodIn wsX6_says wsX3_heldBy := goodIn_r _ [22, 23, 4, 5, 6, 7, 8, 9, 86, 87, 88] (by decide +kernel) (by decide +kernel)
set_option maxRecDepth 20000 in
theorem gX6_says_X3_heldBy : GoodIn wsX6_says (wsV RX6 110 RX3 yX3_heldBy wsX3_heldBy) := goodIn_app (goodIn_of _ (by decide +kernel)) ggX6_says_X3_heldBy
set_option maxRecDepth 20000 in
theorem ggX6_says_X5_isOne : GoodIn wsX6_says wsX5_isOne := goodIn_r _ [28, 29, 89, 90, 91, 92, 93, 94, 95, 96, 97, 98, 99, 100, 101, 102] (by decide +kernel) (by decide +kernel)
set_option maxRecDepth 20000 in
theorem gX6_says_X5_isOne : GoodIn wsX6_says (wsV RX6 113 RX5 yX5_isOne wsX5_isOne) := goodIn_app (goodIn_of _ (by decide +kernel)) ggX6_says_X5_isOne
set_option maxRecDepth 20000 in
theorem ggX6_says_X5_isOfKind : GoodIn wsX6_says wsX5_isOfKind := goodIn_r _ [33, 34, 89, 90, 91, 92, 93, 94, 95, 96, 97, 98, 99, 100, 101, 102] (by decide +kernel) (by decide +kernel)
set_option maxRecDepth 20000 in
theorem gX6_says_X5_isOfKind : GoodIn wsX6_says (wsV RX6 123 RX5 yX5_isOfKind wsX5_isOfKind) := goodIn_app (goodIn_of _ (by decide +kernel)) ggX6_says_X5_isOfKind
set_option maxRecDepth 20000 in
theorem ggX6_says_X5_sayingAs : GoodIn wsX6_says wsX5_sayingAs := goodIn_r _ [38, 39, 40, 41, 42, 43, 44, 45, 46, 47, 48, 49, 50, 51, 52, 27, 53, 54, 55, 56, 5, 57, 58, 59, 60, 61, 62, 63, 64, 34, 65, 66, 67, 68, 69, 70, 71, 72, 73, 29, 74, 75, 89, 90, 91, 92, 93, 94, 95, 96, 97, 98, 99, 100, 101, 102] (by decide +kernel) (by decide +kernel)
set_option maxRecDepth 20000 in
theorem gX6_says_X5_sayingAs : GoodIn wsX6_says (wsV RX6 127 RX5 yX5_sayingAs wsX5_sayingAs) := goodIn_app (goodIn_of _ (by decide +kernel)) ggX6_says_X5_sayingAs
theorem dX6_says_0 : decode cX6_says 0 = .ok (.iload_n 1, 1) := by decide +kernel
theorem dX6_says_1 : decode cX6_says 1 = .ok (.invokestatic 69, 3) := by decide +kernel
theorem dX6_says_4 : decode cX6_says 4 = .ok (.ifCond .eq 10, 3) := by decide +kernel
theorem dX6_says_7 : decode cX6_says 7 = .ok (.iload_n 2, 1) := by decide +kernel
theorem dX6_says_8 : decode cX6_says 8 = .ok (.invokestatic 120, 3) := by decide +kernel
theorem dX6_says_11 : decode cX6_says 11 = .ok (.ifCond .ne 10, 3) := by decide +kernel
theorem dX6_says_14 : decode cX6_says 14 = .ok (.aload_n 0, 1) := by decide +kernel
theorem dX6_says_15 : decode cX6_says 15 = .ok (.bipush (-2), 2) := by decide +kernel
theorem dX6_says_17 : decode cX6_says 17 = .ok (.invokevirtual 77, 3) := by decide +kernel
theorem dX6_says_20 : decode cX6_says 20 = .ok (.ireturn, 1) := by decide +kernel
theorem dX6_says_21 : decode cX6_says 21 = .ok (.aload_n 0, 1) := by decide +kernel
theorem dX6_says_22 : decode cX6_says 22 = .ok (.getfield 25, 3) := by decide +kernel
theorem dX6_says_25 : decode cX6_says 25 = .ok (.iload_n 1, 1) := by decide +kernel
theorem dX6_says_26 : decode cX6_says 26 = .ok (.invokevirtual 110, 3) := by decide +kernel
theorem dX6_says_29 : decode cX6_says 29 = .ok (.istore_n 3, 1) := by decide +kernel
theorem dX6_says_30 : decode cX6_says 30 = .ok (.iload_n 3, 1) := by decide +kernel
theorem dX6_says_31 : decode cX6_says 31 = .ok (.iconst (-1), 1) := by decide +kernel
theorem dX6_says_32 : decode cX6_says 32 = .ok (.if_icmp .ne 10, 3) := by decide +kernel
theorem dX6_says_35 : decode cX6_says 35 = .ok (.aload_n 0, 1) := by decide +kernel
theorem dX6_says_36 : decode cX6_says 36 = .ok (.bipush (-4), 2) := by decide +kernel
theorem dX6_says_38 : decode cX6_says 38 = .ok (.invokevirtual 77, 3) := by decide +kernel
theorem dX6_says_41 : decode cX6_says 41 = .ok (.ireturn, 1) := by decide +kernel
theorem dX6_says_42 : decode cX6_says 42 = .ok (.iload_n 3, 1) := by decide +kernel
theorem dX6_says_43 : decode cX6_says 43 = .ok (.bipush 10, 2) := by decide +kernel
theorem dX6_says_45 : decode cX6_says 45 = .ok (.isub, 1) := by decide +kernel
theorem dX6_says_46 : decode cX6_says 46 = .ok (.istore 4, 2) := by decide +kernel
theorem dX6_says_48 : decode cX6_says 48 = .ok (.aload_n 0, 1) := by decide +kernel
theorem dX6_says_49 : decode cX6_says 49 = .ok (.getfield 10, 3) := by decide +kernel
theorem dX6_says_52 : decode cX6_says 52 = .ok (.iload 4, 2) := by decide +kernel
theorem dX6_says_54 : decode cX6_says 54 = .ok (.invokevirtual 113, 3) := by decide +kernel
theorem dX6_says_57 : decode cX6_says 57 = .ok (.ifCond .eq 16, 3) := by decide +kernel
theorem dX6_says_60 : decode cX6_says 60 = .ok (.aload_n 0, 1) := by decide +kernel
theorem dX6_says_61 : decode cX6_says 61 = .ok (.getfield 10, 3) := by decide +kernel
theorem dX6_says_64 : decode cX6_says 64 = .ok (.iload 4, 2) := by decide +kernel
theorem dX6_says_66 : decode cX6_says 66 = .ok (.iload_n 2, 1) := by decide +kernel
theorem dX6_says_67 : decode cX6_says 67 = .ok (.invokevirtual 123, 3) := by decide +kernel
theorem dX6_says_70 : decode cX6_says 70 = .ok (.ifCond .ne 10, 3) := by decide +kernel
theorem dX6_says_73 : decode cX6_says 73 = .ok (.aload_n 0, 1) := by decide +kernel
theorem dX6_says_74 : decode cX6_says 74 = .ok (.bipush (-3), 2) := by decide +kernel
theorem dX6_says_76 : decode cX6_says 76 = .ok (.invokevirtual 77, 3) := by decide +kernel
theorem dX6_says_79 : decode cX6_says 79 = .ok (.ireturn, 1) := by decide +kernel
theorem dX6_says_80 : decode cX6_says 80 = .ok (.aload_n 0, 1) := by decide +kernel
theorem dX6_says_81 : decode cX6_says 81 = .ok (.getfield 10, 3) := by decide +kernel
theorem dX6_says_84 : decode cX6_says 84 = .ok (.iload 4, 2) := by decide +kernel
theorem dX6_says_86 : decode cX6_says 86 = .ok (.iload_n 2, 1) := by decide +kernel
theorem dX6_says_87 : decode cX6_says 87 = .ok (.invokevirtual 127, 3) := by decide +kernel
theorem dX6_says_90 : decode cX6_says 90 = .ok (.ireturn, 1) := by decide +kernel
set_option maxRecDepth 20000 in
theorem ggX6_sights_X6_isWithin : GoodIn wsX6_sights wsX6_isWithin := goodIn_r _ [6] (by decide +kernel) (by decide +kernel)
set_option maxRecDepth 20000 in
theorem gX6_sights_X6_isWithin : GoodIn wsX6_sights (va_wsS RX6 73 yX6_isWithin wsX6_isWithin) := goodIn_app (goodIn_of _ (by decide +kernel)) ggX6_sights_X6_isWithin
set_option maxRecDepth 20000 in
theorem ggX6_sights_X6_refuse : GoodIn wsX6_sights wsX6_refuse := goodIn_r _ [10, 11, 12, 13, 14, 15, 16, 17, 18, 19, 20, 21] (by decide +kernel) (by decide +kernel)
set_option maxRecDepth 20000 in
theorem gX6_sights_X6_refuse : GoodIn wsX6_sights (wsV RX6 77 RX6 yX6_refuse wsX6_refuse) := goodIn_app (goodIn_of _ (by decide +kernel)) ggX6_sights_X6_refuse
theorem dX6_sights_0 : decode cX6_sights 0 = .ok (.iload_n 1, 1) := by decide +kernel
theorem dX6_sights_1 : decode cX6_sights 1 = .ok (.aload_n 0, 1) := by decide +kernel
theorem dX6_sights_2 : decode cX6_sights 2 = .ok (.getfield 10, 3) := by decide +kernel
theorem dX6_sights_5 : decode cX6_sights 5 = .ok (.getfield 130, 3) := by decide +kernel
theorem dX6_sights_8 : decode cX6_sights 8 = .ok (.bipush 8, 2) := by decide +kernel
theorem dX6_sights_10 : decode cX6_sights 10 = .ok (.invokestatic 73, 3) := by decide +kernel
theorem dX6_sights_13 : decode cX6_sights 13 = .ok (.ifCond .ne 10, 3) := by decide +kernel
theorem dX6_sights_16 : decode cX6_sights 16 = .ok (.aload_n 0, 1) := by decide +kernel
theorem dX6_sights_17 : decode cX6_sights 17 = .ok (.bipush (-2), 2) := by decide +kernel
theorem dX6_sights_19 : decode cX6_sights 19 = .ok (.invokevirtual 77, 3) := by decide +kernel
theorem dX6_sights_22 : decode cX6_sights 22 = .ok (.ireturn, 1) := by decide +kernel
theorem dX6_sights_23 : decode cX6_sights 23 = .ok (.aload_n 0, 1) := by decide +kernel
theorem dX6_sights_24 : decode cX6_sights 24 = .ok (.getfield 10, 3) := by decide +kernel
theorem dX6_sights_27 : decode cX6_sights 27 = .ok (.getfield 130, 3) := by decide +kernel
theorem dX6_sights_30 : decode cX6_sights 30 = .ok (.istore_n 2, 1) := by decide +kernel
theorem dX6_sights_31 : decode cX6_sights 31 = .ok (.aload_n 0, 1) := by decide +kernel
theorem dX6_sights_32 : decode cX6_sights 32 = .ok (.getfield 10, 3) := by decide +kernel
theorem dX6_sights_35 : decode cX6_sights 35 = .ok (.iload_n 1, 1) := by decide +kernel
theorem dX6_sights_36 : decode cX6_sights 36 = .ok (.putfield 130, 3) := by decide +kernel
theorem dX6_sights_39 : decode cX6_sights 39 = .ok (.iload_n 2, 1) := by decide +kernel
theorem dX6_sights_40 : decode cX6_sights 40 = .ok (.ireturn, 1) := by decide +kernel
set_option maxRecDepth 20000 in
theorem ggX6_person_X6_isKind : GoodIn wsX6_person wsX6_isKind := goodIn_r _ [5, 6, 7, 4, 8] (by decide +kernel) (by decide +kernel)
set_option maxRecDepth 20000 in
theorem gX6_person_X6_isKind : GoodIn wsX6_person (va_wsS RX6 120 yX6_isKind wsX6_isKind) := goodIn_app (goodIn_of _ (by decide +kernel)) ggX6_person_X6_isKind
set_option maxRecDepth 20000 in
theorem ggX6_person_X6_isWithin : GoodIn wsX6_person wsX6_isWithin := goodIn_r _ [8] (by decide +kernel) (by decide +kernel)
set_option maxRecDepth 20000 in
theorem gX6_person_X6_isWithin : GoodIn wsX6_person (va_wsS RX6 73 yX6_isWithin wsX6_isWithin) := goodIn_app (goodIn_of _ (by decide +kernel)) ggX6_person_X6_isWithin
set_option maxRecDepth 20000 in
theorem ggX6_person_X6_refuse : GoodIn wsX6_person wsX6_refuse := goodIn_r _ [12, 13, 30, 31, 32, 33, 34, 35, 36, 37, 38, 39] (by decide +kernel) (by decide +kernel)
set_option maxRecDepth 20000 in
theorem gX6_person_X6_refuse : GoodIn wsX6_person (wsV RX6 77 RX6 yX6_refuse wsX6_refuse) := goodIn_app (goodIn_of _ (by decide +kernel)) ggX6_person_X6_refuse
set_option maxRecDepth 20000 in
theorem ggX6_person_X5_isFull : GoodIn wsX6_person wsX5_isFull := goodIn_r _ [18, 19, 40, 41, 42, 43, 44, 45, 46, 47, 48, 49, 50, 51, 52, 53] (by decide +kernel) (by decide +kernel)
set_option maxRecDepth 20000 in
theorem gX6_person_X5_isFull : GoodIn wsX6_person (wsV RX6 134 RX5 yX5_isFull wsX5_isFull) := goodIn_app (goodIn_of _ (by decide +kernel)) ggX6_person_X5_isFull
set_option maxRecDepth 20000 in
theorem ggX6_person_X5_join : GoodIn wsX6_person wsX5_join := goodIn_r _ [23, 19, 24, 25, 26, 27, 28, 29, 40, 41, 42, 43, 44, 45, 46, 47, 48, 49, 50, 51, 52, 53] (by decide +kernel) (by decide +kernel)
set_option maxRecDepth 20000 in
theorem gX6_person_X5_join : GoodIn wsX6_person (wsV RX6 138 RX5 yX5_join wsX5_join) := goodIn_app (goodIn_of _ (by decide +kernel)) ggX6_person_X5_join
theorem dX6_person_0 : decode cX6_person 0 = .ok (.iload_n 1, 1) := by decide +kernel
theorem dX6_person_1 : decode cX6_person 1 = .ok (.invokestatic 120, 3) := by decide +kernel
theorem dX6_person_4 : decode cX6_person 4 = .ok (.ifCond .eq 13, 3) := by decide +kernel
theorem dX6_person_7 : decode cX6_person 7 = .ok (.iload_n 2, 1) := by decide +kernel
theorem dX6_person_8 : decode cX6_person 8 = .ok (.iconst 0, 1) := by decide +kernel
theorem dX6_person_9 : decode cX6_person 9 = .ok (.bipush 9, 2) := by decide +kernel
theorem dX6_person_11 : decode cX6_person 11 = .ok (.invokestatic 73, 3) := by decide +kernel
theorem dX6_person_14 : decode cX6_person 14 = .ok (.ifCond .ne 10, 3) := by decide +kernel
theorem dX6_person_17 : decode cX6_person 17 = .ok (.aload_n 0, 1) := by decide +kernel
theorem dX6_person_18 : decode cX6_person 18 = .ok (.bipush (-2), 2) := by decide +kernel
theorem dX6_person_20 : decode cX6_person 20 = .ok (.invokevirtual 77, 3) := by decide +kernel
theorem dX6_person_23 : decode cX6_person 23 = .ok (.ireturn, 1) := by decide +kernel
theorem dX6_person_24 : decode cX6_person 24 = .ok (.aload_n 0, 1) := by decide +kernel
theorem dX6_person_25 : decode cX6_person 25 = .ok (.getfield 10, 3) := by decide +kernel
theorem dX6_person_28 : decode cX6_person 28 = .ok (.invokevirtual 134, 3) := by decide +kernel
theorem dX6_person_31 : decode cX6_person 31 = .ok (.ifCond .eq 10, 3) := by decide +kernel
theorem dX6_person_34 : decode cX6_person 34 = .ok (.aload_n 0, 1) := by decide +kernel
theorem dX6_person_35 : decode cX6_person 35 = .ok (.bipush (-6), 2) := by decide +kernel
theorem dX6_person_37 : decode cX6_person 37 = .ok (.invokevirtual 77, 3) := by decide +kernel
theorem dX6_person_40 : decode cX6_person 40 = .ok (.ireturn, 1) := by decide +kernel
theorem dX6_person_41 : decode cX6_person 41 = .ok (.aload_n 0, 1) := by decide +kernel
theorem dX6_person_42 : decode cX6_person 42 = .ok (.getfield 10, 3) := by decide +kernel
theorem dX6_person_45 : decode cX6_person 45 = .ok (.iload_n 1, 1) := by decide +kernel
theorem dX6_person_46 : decode cX6_person 46 = .ok (.iload_n 2, 1) := by decide +kernel
theorem dX6_person_47 : decode cX6_person 47 = .ok (.invokevirtual 138, 3) := by decide +kernel
theorem dX6_person_50 : decode cX6_person 50 = .ok (.ireturn, 1) := by decide +kernel
set_option maxRecDepth 20000 in
theorem ggX6_see_X5_isOne : GoodIn wsX6_see wsX5_isOne := goodIn_r _ [6, 7, 51, 52, 53, 54, 55, 56, 57, 58, 59, 60, 61, 62, 63, 64] (by decide +kernel) (by decide +kernel)
set_option maxRecDepth 20000 in
theorem gX6_see_X5_isOne : GoodIn wsX6_see (wsV RX6 113 RX5 yX5_isOne wsX5_isOne) := goodIn_app (goodIn_of _ (by decide +kernel)) ggX6_see_X5_isOne
set_option maxRecDepth 20000 in
theorem ggX6_see_X5_isSight : GoodIn wsX6_see wsX5_isSight := goodIn_r _ [11, 12, 51, 52, 53, 54, 55, 56, 57, 58, 59, 60, 61, 62, 63, 64] (by decide +kernel) (by decide +kernel)
set_option maxRecDepth 20000 in
theorem gX6_see_X5_isSight : GoodIn wsX6_see (wsV RX6 141 RX5 yX5_isSight wsX5_isSight) := goodIn_app (goodIn_of _ (by decide +kernel)) ggX6_see_X5_isSight
set_option maxRecDepth 20000 in
theorem ggX6_see_X6_isWithin : GoodIn wsX6_see wsX6_isWithin := goodIn_r _ [16] (by decide +kernel) (by decide +kernel)
set_option maxRecDepth 20000 in
theorem gX6_see_X6_isWithin : GoodIn wsX6_see (va_wsS RX6 73 yX6_isWithin wsX6_isWithin) := goodIn_app (goodIn_of _ (by decide +kernel)) ggX6_see_X6_isWithin
set_option maxRecDepth 20000 in
theorem ggX6_see_X6_refuse : GoodIn wsX6_see wsX6_refuse := goodIn_r _ [20, 21, 41, 42, 43, 44, 45, 46, 47, 48, 49, 50] (by decide +kernel) (by decide +kernel)
set_option maxRecDepth 20000 in
theorem gX6_see_X6_refuse : GoodIn wsX6_see (wsV RX6 77 RX6 yX6_refuse wsX6_refuse) := goodIn_app (goodIn_of _ (by decide +kernel)) ggX6_see_X6_refuse
set_option maxRecDepth 20000 in
theorem ggX6_see_X5_kindOf : GoodIn wsX6_see wsX5_kindOf := goodIn_r _ [25, 26, 51, 52, 53, 54, 55, 56, 57, 58, 59, 60, 61, 62, 63, 64] (by decide +kernel) (by decide +kernel)
set_option maxRecDepth 20000 in
theorem gX6_see_X5_kindOf : GoodIn wsX6_see (wsV RX6 144 RX5 yX5_kindOf wsX5_kindOf) := goodIn_app (goodIn_of _ (by decide +kernel)) ggX6_see_X5_kindOf
set_option maxRecDepth 20000 in
theorem ggX6_see_X5_howSeen : GoodIn wsX6_see wsX5_howSeen := goodIn_r _ [30, 31, 32, 33, 15, 34, 51, 52, 53, 54, 55, 56, 57, 58, 59, 60, 61, 62, 63, 64] (by decide +kernel) (by decide +kernel)
set_option maxRecDepth 20000 in
theorem gX6_see_X5_howSeen : GoodIn wsX6_see (wsV RX6 147 RX5 yX5_howSeen wsX5_howSeen) := goodIn_app (goodIn_of _ (by decide +kernel)) ggX6_see_X5_howSeen
set_option maxRecDepth 20000 in
theorem ggX6_see_X5_putSeen : GoodIn wsX6_see wsX5_putSeen := goodIn_r _ [38, 31, 32, 39, 15, 40, 51, 52, 53, 54, 55, 56, 57, 58, 59, 60, 61, 62, 63, 64] (by decide +kernel) (by decide +kernel)
set_option maxRecDepth 20000 in
theorem gX6_see_X5_putSeen : GoodIn wsX6_see (wsV RX6 150 RX5 yX5_putSeen wsX5_putSeen) := goodIn_app (goodIn_of _ (by decide +kernel)) ggX6_see_X5_putSeen
theorem dX6_see_0 : decode cX6_see 0 = .ok (.aload_n 0, 1) := by decide +kernel
theorem dX6_see_1 : decode cX6_see 1 = .ok (.getfield 10, 3) := by decide +kernel
theorem dX6_see_4 : decode cX6_see 4 = .ok (.iload_n 1, 1) := by decide +kernel
theorem dX6_see_5 : decode cX6_see 5 = .ok (.invokevirtual 113, 3) := by decide +kernel
theorem dX6_see_8 : decode cX6_see 8 = .ok (.ifCond .eq 23, 3) := by decide +kernel
theorem dX6_see_11 : decode cX6_see 11 = .ok (.aload_n 0, 1) := by decide +kernel
theorem dX6_see_12 : decode cX6_see 12 = .ok (.getfield 10, 3) := by decide +kernel
theorem dX6_see_15 : decode cX6_see 15 = .ok (.iload_n 2, 1) := by decide +kernel
theorem dX6_see_16 : decode cX6_see 16 = .ok (.invokevirtual 141, 3) := by decide +kernel
theorem dX6_see_19 : decode cX6_see 19 = .ok (.ifCond .eq 12, 3) := by decide +kernel
theorem dX6_see_22 : decode cX6_see 22 = .ok (.iload_n 3, 1) := by decide +kernel
theorem dX6_see_23 : decode cX6_see 23 = .ok (.iconst 0, 1) := by decide +kernel
theorem dX6_see_24 : decode cX6_see 24 = .ok (.iconst 2, 1) := by decide +kernel
theorem dX6_see_25 : decode cX6_see 25 = .ok (.invokestatic 73, 3) := by decide +kernel
theorem dX6_see_28 : decode cX6_see 28 = .ok (.ifCond .ne 10, 3) := by decide +kernel
theorem dX6_see_31 : decode cX6_see 31 = .ok (.aload_n 0, 1) := by decide +kernel
theorem dX6_see_32 : decode cX6_see 32 = .ok (.bipush (-2), 2) := by decide +kernel
theorem dX6_see_34 : decode cX6_see 34 = .ok (.invokevirtual 77, 3) := by decide +kernel
theorem dX6_see_37 : decode cX6_see 37 = .ok (.ireturn, 1) := by decide +kernel
theorem dX6_see_38 : decode cX6_see 38 = .ok (.iload_n 3, 1) := by decide +kernel
theorem dX6_see_39 : decode cX6_see 39 = .ok (.ifCond .eq 22, 3) := by decide +kernel
theorem dX6_see_42 : decode cX6_see 42 = .ok (.aload_n 0, 1) := by decide +kernel
theorem dX6_see_43 : decode cX6_see 43 = .ok (.getfield 10, 3) := by decide +kernel
theorem dX6_see_46 : decode cX6_see 46 = .ok (.iload_n 1, 1) := by decide +kernel
theorem dX6_see_47 : decode cX6_see 47 = .ok (.invokevirtual 144, 3) := by decide +kernel
theorem dX6_see_50 : decode cX6_see 50 = .ok (.iconst 4, 1) := by decide +kernel
theorem dX6_see_51 : decode cX6_see 51 = .ok (.if_icmp .ne 10, 3) := by decide +kernel
theorem dX6_see_54 : decode cX6_see 54 = .ok (.aload_n 0, 1) := by decide +kernel
theorem dX6_see_55 : decode cX6_see 55 = .ok (.bipush (-5), 2) := by decide +kernel
theorem dX6_see_57 : decode cX6_see 57 = .ok (.invokevirtual 77, 3) := by decide +kernel
theorem dX6_see_60 : decode cX6_see 60 = .ok (.ireturn, 1) := by decide +kernel
theorem dX6_see_61 : decode cX6_see 61 = .ok (.aload_n 0, 1) := by decide +kernel
theorem dX6_see_62 : decode cX6_see 62 = .ok (.getfield 10, 3) := by decide +kernel
theorem dX6_see_65 : decode cX6_see 65 = .ok (.iload_n 1, 1) := by decide +kernel
theorem dX6_see_66 : decode cX6_see 66 = .ok (.iload_n 2, 1) := by decide +kernel
theorem dX6_see_67 : decode cX6_see 67 = .ok (.invokevirtual 147, 3) := by decide +kernel
theorem dX6_see_70 : decode cX6_see 70 = .ok (.istore 4, 2) := by decide +kernel
theorem dX6_see_72 : decode cX6_see 72 = .ok (.aload_n 0, 1) := by decide +kernel
theorem dX6_see_73 : decode cX6_see 73 = .ok (.getfield 10, 3) := by decide +kernel
theorem dX6_see_76 : decode cX6_see 76 = .ok (.iload_n 1, 1) := by decide +kernel
theorem dX6_see_77 : decode cX6_see 77 = .ok (.iload_n 2, 1) := by decide +kernel
theorem dX6_see_78 : decode cX6_see 78 = .ok (.iload_n 3, 1) := by decide +kernel
theorem dX6_see_79 : decode cX6_see 79 = .ok (.invokevirtual 150, 3) := by decide +kernel
theorem dX6_see_82 : decode cX6_see 82 = .ok (.iload 4, 2) := by decide +kernel
theorem dX6_see_84 : decode cX6_see 84 = .ok (.ireturn, 1) := by decide +kernel
set_option maxRecDepth 20000 in
theorem ggX6_hear_X5_isOne : GoodIn wsX6_hear wsX5_isOne := goodIn_r _ [7, 8, 40, 41, 42, 43, 44, 45, 46, 47, 48, 49, 50, 51, 52, 53] (by decide +kernel) (by decide +kernel)
set_option maxRecDepth 20000 in
theorem gX6_hear_X5_isOne : GoodIn wsX6_hear (wsV RX6 113 RX5 yX5_isOne wsX5_isOne) := goodIn_app (goodIn_of _ (by decide +kernel)) ggX6_hear_X5_isOne
set_option maxRecDepth 20000 in
theorem ggX6_hear_X5_isSight : GoodIn wsX6_hear wsX5_isSight := goodIn_r _ [12, 13, 40, 41, 42, 43, 44, 45, 46, 47, 48, 49, 50, 51, 52, 53] (by decide +kernel) (by decide +kernel)
set_option maxRecDepth 20000 in
theorem gX6_hear_X5_isSight : GoodIn wsX6_hear (wsV RX6 141 RX5 yX5_isSight wsX5_isSight) := goodIn_app (goodIn_of _ (by decide +kernel)) ggX6_hear_X5_isSight
set_option maxRecDepth 20000 in
theorem ggX6_hear_X6_refuse : GoodIn wsX6_hear wsX6_refuse := goodIn_r _ [18, 19, 30, 31, 32, 33, 34, 35, 36, 37, 38, 39] (by decide +kernel) (by decide +kernel)
set_option maxRecDepth 20000 in
theorem gX6_hear_X6_refuse : GoodIn wsX6_hear (wsV RX6 77 RX6 yX6_refuse wsX6_refuse) := goodIn_app (goodIn_of _ (by decide +kernel)) ggX6_hear_X6_refuse
set_option maxRecDepth 20000 in
theorem ggX6_hear_X6_has : GoodIn wsX6_hear wsX6_has := goodIn_r _ [22] (by decide +kernel) (by decide +kernel)
set_option maxRecDepth 20000 in
theorem gX6_hear_X6_has : GoodIn wsX6_hear (va_wsS RX6 156 yX6_has wsX6_has) := goodIn_app (goodIn_of _ (by decide +kernel)) ggX6_hear_X6_has
set_option maxRecDepth 20000 in
theorem ggX6_hear_X5_putHeard : GoodIn wsX6_hear wsX5_putHeard := goodIn_r _ [26, 27, 28, 17, 29, 40, 41, 42, 43, 44, 45, 46, 47, 48, 49, 50, 51, 52, 53] (by decide +kernel) (by decide +kernel)
set_option maxRecDepth 20000 in
theorem gX6_hear_X5_putHeard : GoodIn wsX6_hear (wsV RX6 159 RX5 yX5_putHeard wsX5_putHeard) := goodIn_app (goodIn_of _ (by decide +kernel)) ggX6_hear_X5_putHeard
theorem dX6_hear_0 : decode cX6_hear 0 = .ok (.aload_n 0, 1) := by decide +kernel
theorem dX6_hear_1 : decode cX6_hear 1 = .ok (.getfield 10, 3) := by decide +kernel
theorem dX6_hear_4 : decode cX6_hear 4 = .ok (.iload_n 1, 1) := by decide +kernel
theorem dX6_hear_5 : decode cX6_hear 5 = .ok (.invokevirtual 113, 3) := by decide +kernel
theorem dX6_hear_8 : decode cX6_hear 8 = .ok (.ifCond .eq 14, 3) := by decide +kernel
theorem dX6_hear_11 : decode cX6_hear 11 = .ok (.aload_n 0, 1) := by decide +kernel
theorem dX6_hear_12 : decode cX6_hear 12 = .ok (.getfield 10, 3) := by decide +kernel
theorem dX6_hear_15 : decode cX6_hear 15 = .ok (.iload_n 2, 1) := by decide +kernel
theorem dX6_hear_16 : decode cX6_hear 16 = .ok (.invokevirtual 141, 3) := by decide +kernel
theorem dX6_hear_19 : decode cX6_hear 19 = .ok (.ifCond .ne 10, 3) := by decide +kernel
theorem dX6_hear_22 : decode cX6_hear 22 = .ok (.aload_n 0, 1) := by decide +kernel
theorem dX6_hear_23 : decode cX6_hear 23 = .ok (.bipush (-2), 2) := by decide +kernel
theorem dX6_hear_25 : decode cX6_hear 25 = .ok (.invokevirtual 77, 3) := by decide +kernel
theorem dX6_hear_28 : decode cX6_hear 28 = .ok (.ireturn, 1) := by decide +kernel
theorem dX6_hear_29 : decode cX6_hear 29 = .ok (.aload_n 0, 1) := by decide +kernel
theorem dX6_hear_30 : decode cX6_hear 30 = .ok (.getfield 10, 3) := by decide +kernel
theorem dX6_hear_33 : decode cX6_hear 33 = .ok (.getfield 153, 3) := by decide +kernel
theorem dX6_hear_36 : decode cX6_hear 36 = .ok (.iload_n 1, 1) := by decide +kernel
theorem dX6_hear_37 : decode cX6_hear 37 = .ok (.iaload, 1) := by decide +kernel
theorem dX6_hear_38 : decode cX6_hear 38 = .ok (.iload_n 2, 1) := by decide +kernel
theorem dX6_hear_39 : decode cX6_hear 39 = .ok (.invokestatic 156, 3) := by decide +kernel
theorem dX6_hear_42 : decode cX6_hear 42 = .ok (.istore 4, 2) := by decide +kernel
theorem dX6_hear_44 : decode cX6_hear 44 = .ok (.aload_n 0, 1) := by decide +kernel
theorem dX6_hear_45 : decode cX6_hear 45 = .ok (.getfield 10, 3) := by decide +kernel
theorem dX6_hear_48 : decode cX6_hear 48 = .ok (.iload_n 1, 1) := by decide +kernel
theorem dX6_hear_49 : decode cX6_hear 49 = .ok (.iload_n 2, 1) := by decide +kernel
theorem dX6_hear_50 : decode cX6_hear 50 = .ok (.iload_n 3, 1) := by decide +kernel
theorem dX6_hear_51 : decode cX6_hear 51 = .ok (.invokevirtual 159, 3) := by decide +kernel
theorem dX6_hear_54 : decode cX6_hear 54 = .ok (.iload 4, 2) := by decide +kernel
theorem dX6_hear_56 : decode cX6_hear 56 = .ok (.iload_n 3, 1) := by decide +kernel
theorem dX6_hear_57 : decode cX6_hear 57 = .ok (.if_icmp .ne 7, 3) := by decide +kernel
theorem dX6_hear_60 : decode cX6_hear 60 = .ok (.iconst 0, 1) := by decide +kernel
theorem dX6_hear_61 : decode cX6_hear 61 = .ok (.goto 4, 3) := by decide +kernel
theorem dX6_hear_64 : decode cX6_hear 64 = .ok (.iconst 1, 1) := by decide +kernel
theorem dX6_hear_65 : decode cX6_hear 65 = .ok (.ireturn, 1) := by decide +kernel
set_option maxRecDepth 20000 in
theorem ggX6_near_X5_isOne : GoodIn wsX6_near wsX5_isOne := goodIn_r _ [7, 8, 35, 36, 37, 38, 39, 40, 41, 42, 43, 44, 45, 46, 47, 48] (by decide +kernel) (by decide +kernel)
set_option maxRecDepth 20000 in
theorem gX6_near_X5_isOne : GoodIn wsX6_near (wsV RX6 113 RX5 yX5_isOne wsX5_isOne) := goodIn_app (goodIn_of _ (by decide +kernel)) ggX6_near_X5_isOne
set_option maxRecDepth 20000 in
theorem ggX6_near_X6_refuse : GoodIn wsX6_near wsX6_refuse := goodIn_r _ [13, 14, 25, 26, 27, 28, 29, 30, 31, 32, 33, 34] (by decide +kernel) (by decide +kernel)
set_option maxRecDepth 20000 in
theorem gX6_near_X6_refuse : GoodIn wsX6_near (wsV RX6 77 RX6 yX6_refuse wsX6_refuse) := goodIn_app (goodIn_of _ (by decide +kernel)) ggX6_near_X6_refuse
set_option maxRecDepth 20000 in
theorem ggX6_near_X6_has : GoodIn wsX6_near wsX6_has := goodIn_r _ [17] (by decide +kernel) (by decide +kernel)
set_option maxRecDepth 20000 in
theorem gX6_near_X6_has : GoodIn wsX6_near (va_wsS RX6 156 yX6_has wsX6_has) := goodIn_app (goodIn_of _ (by decide +kernel)) ggX6_near_X6_has
set_option maxRecDepth 20000 in
theorem ggX6_near_X5_putHears : GoodIn wsX6_near wsX5_putHears := goodIn_r _ [21, 22, 23, 12, 24, 35, 36, 37, 38, 39, 40, 41, 42, 43, 44, 45, 46, 47, 48] (by decide +kernel) (by decide +kernel)
set_option maxRecDepth 20000 in
theorem gX6_near_X5_putHears : GoodIn wsX6_near (wsV RX6 166 RX5 yX5_putHears wsX5_putHears) := goodIn_app (goodIn_of _ (by decide +kernel)) ggX6_near_X5_putHears
theorem dX6_near_0 : decode cX6_near 0 = .ok (.aload_n 0, 1) := by decide +kernel
theorem dX6_near_1 : decode cX6_near 1 = .ok (.getfield 10, 3) := by decide +kernel
theorem dX6_near_4 : decode cX6_near 4 = .ok (.iload_n 1, 1) := by decide +kernel
theorem dX6_near_5 : decode cX6_near 5 = .ok (.invokevirtual 113, 3) := by decide +kernel
theorem dX6_near_8 : decode cX6_near 8 = .ok (.ifCond .eq 19, 3) := by decide +kernel
theorem dX6_near_11 : decode cX6_near 11 = .ok (.aload_n 0, 1) := by decide +kernel
theorem dX6_near_12 : decode cX6_near 12 = .ok (.getfield 10, 3) := by decide +kernel
theorem dX6_near_15 : decode cX6_near 15 = .ok (.iload_n 2, 1) := by decide +kernel
theorem dX6_near_16 : decode cX6_near 16 = .ok (.invokevirtual 113, 3) := by decide +kernel
theorem dX6_near_19 : decode cX6_near 19 = .ok (.ifCond .eq 8, 3) := by decide +kernel
theorem dX6_near_22 : decode cX6_near 22 = .ok (.iload_n 1, 1) := by decide +kernel
theorem dX6_near_23 : decode cX6_near 23 = .ok (.iload_n 2, 1) := by decide +kernel
theorem dX6_near_24 : decode cX6_near 24 = .ok (.if_icmp .ne 10, 3) := by decide +kernel
theorem dX6_near_27 : decode cX6_near 27 = .ok (.aload_n 0, 1) := by decide +kernel
theorem dX6_near_28 : decode cX6_near 28 = .ok (.bipush (-2), 2) := by decide +kernel
theorem dX6_near_30 : decode cX6_near 30 = .ok (.invokevirtual 77, 3) := by decide +kernel
theorem dX6_near_33 : decode cX6_near 33 = .ok (.ireturn, 1) := by decide +kernel
theorem dX6_near_34 : decode cX6_near 34 = .ok (.aload_n 0, 1) := by decide +kernel
theorem dX6_near_35 : decode cX6_near 35 = .ok (.getfield 10, 3) := by decide +kernel
theorem dX6_near_38 : decode cX6_near 38 = .ok (.getfield 163, 3) := by decide +kernel
theorem dX6_near_41 : decode cX6_near 41 = .ok (.iload_n 1, 1) := by decide +kernel
theorem dX6_near_42 : decode cX6_near 42 = .ok (.iaload, 1) := by decide +kernel
theorem dX6_near_43 : decode cX6_near 43 = .ok (.iload_n 2, 1) := by decide +kernel
theorem dX6_near_44 : decode cX6_near 44 = .ok (.invokestatic 156, 3) := by decide +kernel
theorem dX6_near_47 : decode cX6_near 47 = .ok (.istore 4, 2) := by decide +kernel
theorem dX6_near_49 : decode cX6_near 49 = .ok (.aload_n 0, 1) := by decide +kernel
theorem dX6_near_50 : decode cX6_near 50 = .ok (.getfield 10, 3) := by decide +kernel
theorem dX6_near_53 : decode cX6_near 53 = .ok (.iload_n 1, 1) := by decide +kernel
theorem dX6_near_54 : decode cX6_near 54 = .ok (.iload_n 2, 1) := by decide +kernel
theorem dX6_near_55 : decode cX6_near 55 = .ok (.iload_n 3, 1) := by decide +kernel
theorem dX6_near_56 : decode cX6_near 56 = .ok (.invokevirtual 166, 3) := by decide +kernel
theorem dX6_near_59 : decode cX6_near 59 = .ok (.iload 4, 2) := by decide +kernel
theorem dX6_near_61 : decode cX6_near 61 = .ok (.iload_n 3, 1) := by decide +kernel
theorem dX6_near_62 : decode cX6_near 62 = .ok (.if_icmp .ne 7, 3) := by decide +kernel
theorem dX6_near_65 : decode cX6_near 65 = .ok (.iconst 0, 1) := by decide +kernel
theorem dX6_near_66 : decode cX6_near 66 = .ok (.goto 4, 3) := by decide +kernel
theorem dX6_near_69 : decode cX6_near 69 = .ok (.iconst 1, 1) := by decide +kernel
theorem dX6_near_70 : decode cX6_near 70 = .ok (.ireturn, 1) := by decide +kernel
set_option maxRecDepth 20000 in
theorem ggX6_ask_X6_isWithin : GoodIn wsX6_ask wsX6_isWithin := goodIn_r _ [5] (by decide +kernel) (by decide +kernel)
set_option maxRecDepth 20000 in
theorem gX6_ask_X6_isWithin : GoodIn wsX6_ask (va_wsS RX6 73 yX6_isWithin wsX6_isWithin) := goodIn_app (goodIn_of _ (by decide +kernel)) ggX6_ask_X6_isWithin
set_option maxRecDepth 20000 in
theorem ggX6_ask_X5_mostOf : GoodIn wsX6_ask wsX5_mostOf := goodIn_r _ [9] (by decide +kernel) (by decide +kernel)
set_option maxRecDepth 20000 in
theorem gX6_ask_X5_mostOf : GoodIn wsX6_ask (va_wsS RX6 169 yX5_mostOf wsX5_mostOf) := goodIn_app (goodIn_of _ (by decide +kernel)) ggX6_ask_X5_mostOf
set_option maxRecDepth 20000 in
theorem ggX6_ask_X6_refuse : GoodIn wsX6_ask wsX6_refuse := goodIn_r _ [13, 14, 26, 27, 28, 29, 30, 31, 32, 33, 34, 35] (by decide +kernel) (by decide +kernel)
set_option maxRecDepth 20000 in
theorem gX6_ask_X6_refuse : GoodIn wsX6_ask (wsV RX6 77 RX6 yX6_refuse wsX6_refuse) := goodIn_app (goodIn_of _ (by decide +kernel)) ggX6_ask_X6_refuse
set_option maxRecDepth 20000 in
theorem ggX6_ask_X5_settingOf : GoodIn wsX6_ask wsX5_settingOf := goodIn_r _ [18, 19, 20, 21, 36, 37, 38, 39, 40, 41, 42, 43, 44, 45, 46, 47, 48, 49] (by decide +kernel) (by decide +kernel)
set_option maxRecDepth 20000 in
theorem gX6_ask_X5_settingOf : GoodIn wsX6_ask (wsV RX6 172 RX5 yX5_settingOf wsX5_settingOf) := goodIn_app (goodIn_of _ (by decide +kernel)) ggX6_ask_X5_settingOf
set_option maxRecDepth 20000 in
theorem ggX6_ask_X5_putSetting : GoodIn wsX6_ask wsX5_putSetting := goodIn_r _ [25, 19, 20, 21, 36, 37, 38, 39, 40, 41, 42, 43, 44, 45, 46, 47, 48, 49] (by decide +kernel) (by decide +kernel)
set_option maxRecDepth 20000 in
theorem gX6_ask_X5_putSetting : GoodIn wsX6_ask (wsV RX6 175 RX5 yX5_putSetting wsX5_putSetting) := goodIn_app (goodIn_of _ (by decide +kernel)) ggX6_ask_X5_putSetting
theorem dX6_ask_0 : decode cX6_ask 0 = .ok (.iload_n 1, 1) := by decide +kernel
theorem dX6_ask_1 : decode cX6_ask 1 = .ok (.iconst 0, 1) := by decide +kernel
theorem dX6_ask_2 : decode cX6_ask 2 = .ok (.iconst 2, 1) := by decide +kernel
theorem dX6_ask_3 : decode cX6_ask 3 = .ok (.invokestatic 73, 3) := by decide +kernel
theorem dX6_ask_6 : decode cX6_ask 6 = .ok (.ifCond .eq 15, 3) := by decide +kernel
theorem dX6_ask_9 : decode cX6_ask 9 = .ok (.iload_n 2, 1) := by decide +kernel
theorem dX6_ask_10 : decode cX6_ask 10 = .ok (.iconst 0, 1) := by decide +kernel
theorem dX6_ask_11 : decode cX6_ask 11 = .ok (.iload_n 1, 1) := by decide +kernel
theorem dX6_ask_12 : decode cX6_ask 12 = .ok (.invokestatic 169, 3) := by decide +kernel
theorem dX6_ask_15 : decode cX6_ask 15 = .ok (.invokestatic 73, 3) := by decide +kernel
theorem dX6_ask_18 : decode cX6_ask 18 = .ok (.ifCond .ne 10, 3) := by decide +kernel
theorem dX6_ask_21 : decode cX6_ask 21 = .ok (.aload_n 0, 1) := by decide +kernel
theorem dX6_ask_22 : decode cX6_ask 22 = .ok (.bipush (-2), 2) := by decide +kernel
theorem dX6_ask_24 : decode cX6_ask 24 = .ok (.invokevirtual 77, 3) := by decide +kernel
theorem dX6_ask_27 : decode cX6_ask 27 = .ok (.ireturn, 1) := by decide +kernel
theorem dX6_ask_28 : decode cX6_ask 28 = .ok (.aload_n 0, 1) := by decide +kernel
theorem dX6_ask_29 : decode cX6_ask 29 = .ok (.getfield 10, 3) := by decide +kernel
theorem dX6_ask_32 : decode cX6_ask 32 = .ok (.iload_n 1, 1) := by decide +kernel
theorem dX6_ask_33 : decode cX6_ask 33 = .ok (.invokevirtual 172, 3) := by decide +kernel
theorem dX6_ask_36 : decode cX6_ask 36 = .ok (.istore_n 3, 1) := by decide +kernel
theorem dX6_ask_37 : decode cX6_ask 37 = .ok (.aload_n 0, 1) := by decide +kernel
theorem dX6_ask_38 : decode cX6_ask 38 = .ok (.getfield 10, 3) := by decide +kernel
theorem dX6_ask_41 : decode cX6_ask 41 = .ok (.iload_n 1, 1) := by decide +kernel
theorem dX6_ask_42 : decode cX6_ask 42 = .ok (.iload_n 2, 1) := by decide +kernel
theorem dX6_ask_43 : decode cX6_ask 43 = .ok (.invokevirtual 175, 3) := by decide +kernel
theorem dX6_ask_46 : decode cX6_ask 46 = .ok (.iload_n 3, 1) := by decide +kernel
theorem dX6_ask_47 : decode cX6_ask 47 = .ok (.ireturn, 1) := by decide +kernel
set_option maxRecDepth 20000 in
theorem ggX6_feed_X6_isWithin : GoodIn wsX6_feed wsX6_isWithin := goodIn_r _ [6] (by decide +kernel) (by decide +kernel)
set_option maxRecDepth 20000 in
theorem gX6_feed_X6_isWithin : GoodIn wsX6_feed (va_wsS RX6 73 yX6_isWithin wsX6_isWithin) := goodIn_app (goodIn_of _ (by decide +kernel)) ggX6_feed_X6_isWithin
set_option maxRecDepth 20000 in
theorem ggX6_feed_X6_refuse : GoodIn wsX6_feed wsX6_refuse := goodIn_r _ [10, 11, 19, 20, 21, 22, 23, 24, 25, 26, 27, 28] (by decide +kernel) (by decide +kernel)
set_option maxRecDepth 20000 in
theorem gX6_feed_X6_refuse : GoodIn wsX6_feed (wsV RX6 77 RX6 yX6_refuse wsX6_refuse) := goodIn_app (goodIn_of _ (by decide +kernel)) ggX6_feed_X6_refuse
set_option maxRecDepth 20000 in
theorem ggX6_feed_X4_put : GoodIn wsX6_feed wsX4_put := goodIn_r _ [16, 17, 18, 29, 30, 31, 32, 33, 34] (by decide +kernel) (by decide +kernel)
set_option maxRecDepth 20000 in
theorem gX6_feed_X4_put : GoodIn wsX6_feed (wsV RX6 181 RX4 yX4_put wsX4_put) := goodIn_app (goodIn_of _ (by decide +kernel)) ggX6_feed_X4_put
theorem dX6_feed_0 : decode cX6_feed 0 = .ok (.iload_n 1, 1) := by decide +kernel
theorem dX6_feed_1 : decode cX6_feed 1 = .ok (.iconst 0, 1) := by decide +kernel
theorem dX6_feed_2 : decode cX6_feed 2 = .ok (.sipush 255, 3) := by decide +kernel
theorem dX6_feed_5 : decode cX6_feed 5 = .ok (.invokestatic 73, 3) := by decide +kernel
theorem dX6_feed_8 : decode cX6_feed 8 = .ok (.ifCond .ne 10, 3) := by decide +kernel
theorem dX6_feed_11 : decode cX6_feed 11 = .ok (.aload_n 0, 1) := by decide +kernel
theorem dX6_feed_12 : decode cX6_feed 12 = .ok (.bipush (-2), 2) := by decide +kernel
theorem dX6_feed_14 : decode cX6_feed 14 = .ok (.invokevirtual 77, 3) := by decide +kernel
theorem dX6_feed_17 : decode cX6_feed 17 = .ok (.ireturn, 1) := by decide +kernel
theorem dX6_feed_18 : decode cX6_feed 18 = .ok (.aload_n 0, 1) := by decide +kernel
theorem dX6_feed_19 : decode cX6_feed 19 = .ok (.getfield 32, 3) := by decide +kernel
theorem dX6_feed_22 : decode cX6_feed 22 = .ok (.getfield 178, 3) := by decide +kernel
theorem dX6_feed_25 : decode cX6_feed 25 = .ok (.sipush 250, 3) := by decide +kernel
theorem dX6_feed_28 : decode cX6_feed 28 = .ok (.if_icmp .lt 10, 3) := by decide +kernel
theorem dX6_feed_31 : decode cX6_feed 31 = .ok (.aload_n 0, 1) := by decide +kernel
theorem dX6_feed_32 : decode cX6_feed 32 = .ok (.bipush (-6), 2) := by decide +kernel
theorem dX6_feed_34 : decode cX6_feed 34 = .ok (.invokevirtual 77, 3) := by decide +kernel
theorem dX6_feed_37 : decode cX6_feed 37 = .ok (.ireturn, 1) := by decide +kernel
theorem dX6_feed_38 : decode cX6_feed 38 = .ok (.aload_n 0, 1) := by decide +kernel
theorem dX6_feed_39 : decode cX6_feed 39 = .ok (.getfield 32, 3) := by decide +kernel
theorem dX6_feed_42 : decode cX6_feed 42 = .ok (.iload_n 1, 1) := by decide +kernel
theorem dX6_feed_43 : decode cX6_feed 43 = .ok (.invokevirtual 181, 3) := by decide +kernel
theorem dX6_feed_46 : decode cX6_feed 46 = .ok (.aload_n 0, 1) := by decide +kernel
theorem dX6_feed_47 : decode cX6_feed 47 = .ok (.getfield 32, 3) := by decide +kernel
theorem dX6_feed_50 : decode cX6_feed 50 = .ok (.getfield 178, 3) := by decide +kernel
theorem dX6_feed_53 : decode cX6_feed 53 = .ok (.ireturn, 1) := by decide +kernel
theorem dX6_wipe_0 : decode cX6_wipe 0 = .ok (.aload_n 0, 1) := by decide +kernel
theorem dX6_wipe_1 : decode cX6_wipe 1 = .ok (.getfield 32, 3) := by decide +kernel
theorem dX6_wipe_4 : decode cX6_wipe 4 = .ok (.getfield 178, 3) := by decide +kernel
theorem dX6_wipe_7 : decode cX6_wipe 7 = .ok (.istore_n 1, 1) := by decide +kernel
theorem dX6_wipe_8 : decode cX6_wipe 8 = .ok (.aload_n 0, 1) := by decide +kernel
theorem dX6_wipe_9 : decode cX6_wipe 9 = .ok (.getfield 32, 3) := by decide +kernel
theorem dX6_wipe_12 : decode cX6_wipe 12 = .ok (.iconst 0, 1) := by decide +kernel
theorem dX6_wipe_13 : decode cX6_wipe 13 = .ok (.putfield 178, 3) := by decide +kernel
theorem dX6_wipe_16 : decode cX6_wipe 16 = .ok (.iload_n 1, 1) := by decide +kernel
theorem dX6_wipe_17 : decode cX6_wipe 17 = .ok (.ireturn, 1) := by decide +kernel
set_option maxRecDepth 20000 in
theorem ggX6_town_X5_become : GoodIn wsX6_town wsX5_become := goodIn_r _ [10, 11, 12, 13, 14, 15, 16, 17, 18, 19, 20, 21, 22, 23, 24, 25, 26, 27, 208, 209, 210, 211, 212, 213, 214, 215, 216, 217, 218, 219, 220, 221] (by decide +kernel) (by decide +kernel)
set_option maxRecDepth 20000 in
theorem gX6_town_X5_become : GoodIn wsX6_town (wsV RX6 185 RX5 yX5_become wsX5_become) := goodIn_app (goodIn_of _ (by decide +kernel)) ggX6_town_X5_become
set_option maxRecDepth 20000 in
theorem ggX6_town_X4_readInto : GoodIn wsX6_town wsX4_readInto := goodIn_r _ [32, 33, 34, 35, 36, 37, 38, 39, 31, 40, 41, 42, 43, 44, 45, 46, 47, 48, 49, 50, 51, 52, 53, 54, 55, 56, 57, 58, 59, 60, 61, 62, 63, 64, 65, 66, 67, 68, 69, 70, 71, 72, 73, 74, 75, 76, 77, 78, 79, 80, 81, 82, 83, 84, 85, 86, 87, 88, 89, 90, 91, 92, 93, 94, 95, 96, 97, 98, 99, 100, 101, 102, 103, 104, 105, 106, 107, 108, 109, 110, 111, 112, 113, 114, 115, 116, 117, 118, 119, 120, 121, 122, 123, 9, 124, 12, 125, 126, 127, 128, 129, 130, 131, 132, 133, 134, 135, 136, 26, 27, 18, 23, 24, 25, 137, 138, 139, 140, 141, 142, 143, 144, 145, 146, 147, 148, 149, 150, 151, 152, 153, 154, 155, 156, 157, 158, 159, 160, 161, 162, 163, 164, 165, 166, 167, 168, 169, 170, 171, 172, 173, 174, 175, 176, 177, 178, 179, 180, 181, 182, 183, 184, 185, 186, 13, 14, 15, 202, 203, 204, 205, 206, 207, 208, 209, 210, 211, 212, 213, 214, 215, 216, 217, 218, 219, 220, 221] (by decide +kernel) (by decide +kernel)
set_option maxRecDepth 20000 in
theorem gX6_town_X4_readInto : GoodIn wsX6_town (wsV RX6 189 RX4 yX4_readInto wsX4_readInto) := goodIn_app (goodIn_of _ (by decide +kernel)) ggX6_town_X4_readInto
set_option maxRecDepth 20000 in
theorem ggX6_town_X6_refuse : GoodIn wsX6_town wsX6_refuse := goodIn_r _ [190, 191, 192, 193, 194, 195, 196, 197, 198, 199, 200, 201] (by decide +kernel) (by decide +kernel)
set_option maxRecDepth 20000 in
theorem gX6_town_X6_refuse : GoodIn wsX6_town (wsV RX6 77 RX6 yX6_refuse wsX6_refuse) := goodIn_app (goodIn_of _ (by decide +kernel)) ggX6_town_X6_refuse
theorem dX6_town_0 : decode cX6_town 0 = .ok (.aload_n 0, 1) := by decide +kernel
theorem dX6_town_1 : decode cX6_town 1 = .ok (.getfield 19, 3) := by decide +kernel
theorem dX6_town_4 : decode cX6_town 4 = .ok (.aload_n 0, 1) := by decide +kernel
theorem dX6_town_5 : decode cX6_town 5 = .ok (.getfield 10, 3) := by decide +kernel
theorem dX6_town_8 : decode cX6_town 8 = .ok (.invokevirtual 185, 3) := by decide +kernel
theorem dX6_town_11 : decode cX6_town 11 = .ok (.aload_n 0, 1) := by decide +kernel
theorem dX6_town_12 : decode cX6_town 12 = .ok (.getfield 32, 3) := by decide +kernel
theorem dX6_town_15 : decode cX6_town 15 = .ok (.aload_n 0, 1) := by decide +kernel
theorem dX6_town_16 : decode cX6_town 16 = .ok (.getfield 19, 3) := by decide +kernel
theorem dX6_town_19 : decode cX6_town 19 = .ok (.invokevirtual 189, 3) := by decide +kernel
theorem dX6_town_22 : decode cX6_town 22 = .ok (.istore_n 1, 1) := by decide +kernel
theorem dX6_town_23 : decode cX6_town 23 = .ok (.aload_n 0, 1) := by decide +kernel
theorem dX6_town_24 : decode cX6_town 24 = .ok (.getfield 32, 3) := by decide +kernel
theorem dX6_town_27 : decode cX6_town 27 = .ok (.iconst 0, 1) := by decide +kernel
theorem dX6_town_28 : decode cX6_town 28 = .ok (.putfield 178, 3) := by decide +kernel
theorem dX6_town_31 : decode cX6_town 31 = .ok (.iload_n 1, 1) := by decide +kernel
theorem dX6_town_32 : decode cX6_town 32 = .ok (.iconst (-1), 1) := by decide +kernel
theorem dX6_town_33 : decode cX6_town 33 = .ok (.if_icmp .ne 21, 3) := by decide +kernel
theorem dX6_town_36 : decode cX6_town 36 = .ok (.aload_n 0, 1) := by decide +kernel
theorem dX6_town_37 : decode cX6_town 37 = .ok (.bipush (-2), 2) := by decide +kernel
theorem dX6_town_39 : decode cX6_town 39 = .ok (.invokevirtual 77, 3) := by decide +kernel
theorem dX6_town_42 : decode cX6_town 42 = .ok (.pop, 1) := by decide +kernel
theorem dX6_town_43 : decode cX6_town 43 = .ok (.bipush (-20), 2) := by decide +kernel
theorem dX6_town_45 : decode cX6_town 45 = .ok (.aload_n 0, 1) := by decide +kernel
theorem dX6_town_46 : decode cX6_town 46 = .ok (.getfield 32, 3) := by decide +kernel
theorem dX6_town_49 : decode cX6_town 49 = .ok (.getfield 193, 3) := by decide +kernel
theorem dX6_town_52 : decode cX6_town 52 = .ok (.isub, 1) := by decide +kernel
theorem dX6_town_53 : decode cX6_town 53 = .ok (.ireturn, 1) := by decide +kernel
theorem dX6_town_54 : decode cX6_town 54 = .ok (.aload_n 0, 1) := by decide +kernel
theorem dX6_town_55 : decode cX6_town 55 = .ok (.getfield 10, 3) := by decide +kernel
theorem dX6_town_58 : decode cX6_town 58 = .ok (.aload_n 0, 1) := by decide +kernel
theorem dX6_town_59 : decode cX6_town 59 = .ok (.getfield 19, 3) := by decide +kernel
theorem dX6_town_62 : decode cX6_town 62 = .ok (.invokevirtual 185, 3) := by decide +kernel
theorem dX6_town_65 : decode cX6_town 65 = .ok (.iload_n 1, 1) := by decide +kernel
theorem dX6_town_66 : decode cX6_town 66 = .ok (.ireturn, 1) := by decide +kernel
set_option maxRecDepth 20000 in
theorem ggX6_personOf_X5_isOne : GoodIn wsX6_personOf wsX5_isOne := goodIn_r _ [6, 7, 46, 47, 48, 49, 50, 51, 52, 53, 54, 55, 56, 57, 58, 59] (by decide +kernel) (by decide +kernel)
set_option maxRecDepth 20000 in
theorem gX6_personOf_X5_isOne : GoodIn wsX6_personOf (wsV RX6 113 RX5 yX5_isOne wsX5_isOne) := goodIn_app (goodIn_of _ (by decide +kernel)) ggX6_personOf_X5_isOne
set_option maxRecDepth 20000 in
theorem ggX6_personOf_X6_isWithin : GoodIn wsX6_personOf wsX6_isWithin := goodIn_r _ [11] (by decide +kernel) (by decide +kernel)
set_option maxRecDepth 20000 in
theorem gX6_personOf_X6_isWithin : GoodIn wsX6_personOf (va_wsS RX6 73 yX6_isWithin wsX6_isWithin) := goodIn_app (goodIn_of _ (by decide +kernel)) ggX6_personOf_X6_isWithin
set_option maxRecDepth 20000 in
theorem ggX6_personOf_X6_refuse : GoodIn wsX6_personOf wsX6_refuse := goodIn_r _ [15, 16, 36, 37, 38, 39, 40, 41, 42, 43, 44, 45] (by decide +kernel) (by decide +kernel)
set_option maxRecDepth 20000 in
theorem gX6_personOf_X6_refuse : GoodIn wsX6_personOf (wsV RX6 77 RX6 yX6_refuse wsX6_refuse) := goodIn_app (goodIn_of _ (by decide +kernel)) ggX6_personOf_X6_refuse
set_option maxRecDepth 20000 in
theorem ggX6_personOf_X5_factOf : GoodIn wsX6_personOf wsX5_factOf := goodIn_r _ [20, 21, 22, 23, 24, 25, 26, 27, 28, 29, 5, 30, 31, 32, 33, 34, 35, 46, 47, 48, 49, 50, 51, 52, 53, 54, 55, 56, 57, 58, 59] (by decide +kernel) (by decide +kernel)
set_option maxRecDepth 20000 in
theorem gX6_personOf_X5_factOf : GoodIn wsX6_personOf (wsV RX6 196 RX5 yX5_factOf wsX5_factOf) := goodIn_app (goodIn_of _ (by decide +kernel)) ggX6_personOf_X5_factOf
theorem dX6_personOf_0 : decode cX6_personOf 0 = .ok (.aload_n 0, 1) := by decide +kernel
theorem dX6_personOf_1 : decode cX6_personOf 1 = .ok (.getfield 10, 3) := by decide +kernel
theorem dX6_personOf_4 : decode cX6_personOf 4 = .ok (.iload_n 1, 1) := by decide +kernel
theorem dX6_personOf_5 : decode cX6_personOf 5 = .ok (.invokevirtual 113, 3) := by decide +kernel
theorem dX6_personOf_8 : decode cX6_personOf 8 = .ok (.ifCond .eq 13, 3) := by decide +kernel
theorem dX6_personOf_11 : decode cX6_personOf 11 = .ok (.iload_n 2, 1) := by decide +kernel
theorem dX6_personOf_12 : decode cX6_personOf 12 = .ok (.iconst 0, 1) := by decide +kernel
theorem dX6_personOf_13 : decode cX6_personOf 13 = .ok (.bipush 7, 2) := by decide +kernel
theorem dX6_personOf_15 : decode cX6_personOf 15 = .ok (.invokestatic 73, 3) := by decide +kernel
theorem dX6_personOf_18 : decode cX6_personOf 18 = .ok (.ifCond .ne 10, 3) := by decide +kernel
theorem dX6_personOf_21 : decode cX6_personOf 21 = .ok (.aload_n 0, 1) := by decide +kernel
theorem dX6_personOf_22 : decode cX6_personOf 22 = .ok (.bipush (-2), 2) := by decide +kernel
theorem dX6_personOf_24 : decode cX6_personOf 24 = .ok (.invokevirtual 77, 3) := by decide +kernel
theorem dX6_personOf_27 : decode cX6_personOf 27 = .ok (.ireturn, 1) := by decide +kernel
theorem dX6_personOf_28 : decode cX6_personOf 28 = .ok (.aload_n 0, 1) := by decide +kernel
theorem dX6_personOf_29 : decode cX6_personOf 29 = .ok (.getfield 10, 3) := by decide +kernel
theorem dX6_personOf_32 : decode cX6_personOf 32 = .ok (.iload_n 1, 1) := by decide +kernel
theorem dX6_personOf_33 : decode cX6_personOf 33 = .ok (.iload_n 2, 1) := by decide +kernel
theorem dX6_personOf_34 : decode cX6_personOf 34 = .ok (.invokevirtual 196, 3) := by decide +kernel
theorem dX6_personOf_37 : decode cX6_personOf 37 = .ok (.ireturn, 1) := by decide +kernel
set_option maxRecDepth 20000 in
theorem ggX6_may_X5_isOne : GoodIn wsX6_may wsX5_isOne := goodIn_r _ [6, 7, 57, 58, 59, 60, 61, 62, 63, 64, 65, 66, 67, 68, 69, 70] (by decide +kernel) (by decide +kernel)
set_option maxRecDepth 20000 in
theorem gX6_may_X5_isOne : GoodIn wsX6_may (wsV RX6 113 RX5 yX5_isOne wsX5_isOne) := goodIn_app (goodIn_of _ (by decide +kernel)) ggX6_may_X5_isOne
set_option maxRecDepth 20000 in
theorem ggX6_may_X5_isSight : GoodIn wsX6_may wsX5_isSight := goodIn_r _ [11, 12, 57, 58, 59, 60, 61, 62, 63, 64, 65, 66, 67, 68, 69, 70] (by decide +kernel) (by decide +kernel)
set_option maxRecDepth 20000 in
theorem gX6_may_X5_isSight : GoodIn wsX6_may (wsV RX6 141 RX5 yX5_isSight wsX5_isSight) := goodIn_app (goodIn_of _ (by decide +kernel)) ggX6_may_X5_isSight
set_option maxRecDepth 20000 in
theorem ggX6_may_X6_refuse : GoodIn wsX6_may wsX6_refuse := goodIn_r _ [17, 18, 47, 48, 49, 50, 51, 52, 53, 54, 55, 56] (by decide +kernel) (by decide +kernel)
set_option maxRecDepth 20000 in
theorem gX6_may_X6_refuse : GoodIn wsX6_may (wsV RX6 77 RX6 yX6_refuse wsX6_refuse) := goodIn_app (goodIn_of _ (by decide +kernel)) ggX6_may_X6_refuse
set_option maxRecDepth 20000 in
theorem ggX6_may_X5_sayableBy : GoodIn wsX6_may wsX5_sayableBy := goodIn_r _ [22, 23, 24, 25, 26, 27, 28, 5, 29, 30, 31, 32, 33, 34, 35, 36, 12, 37, 38, 39, 40, 7, 41, 42, 16, 43, 57, 58, 59, 60, 61, 62, 63, 64, 65, 66, 67, 68, 69, 70] (by decide +kernel) (by decide +kernel)
set_option maxRecDepth 20000 in
theorem gX6_may_X5_sayableBy : GoodIn wsX6_may (wsV RX6 199 RX5 yX5_sayableBy wsX5_sayableBy) := goodIn_app (goodIn_of _ (by decide +kernel)) ggX6_may_X5_sayableBy
set_option maxRecDepth 20000 in
theorem ggX6_may_X6_has : GoodIn wsX6_may wsX6_has := goodIn_r _ [46] (by decide +kernel) (by decide +kernel)
set_option maxRecDepth 20000 in
theorem gX6_may_X6_has : GoodIn wsX6_may (va_wsS RX6 156 yX6_has wsX6_has) := goodIn_app (goodIn_of _ (by decide +kernel)) ggX6_may_X6_has
theorem dX6_may_0 : decode cX6_may 0 = .ok (.aload_n 0, 1) := by decide +kernel
theorem dX6_may_1 : decode cX6_may 1 = .ok (.getfield 10, 3) := by decide +kernel
theorem dX6_may_4 : decode cX6_may 4 = .ok (.iload_n 1, 1) := by decide +kernel
theorem dX6_may_5 : decode cX6_may 5 = .ok (.invokevirtual 113, 3) := by decide +kernel
theorem dX6_may_8 : decode cX6_may 8 = .ok (.ifCond .eq 14, 3) := by decide +kernel
theorem dX6_may_11 : decode cX6_may 11 = .ok (.aload_n 0, 1) := by decide +kernel
theorem dX6_may_12 : decode cX6_may 12 = .ok (.getfield 10, 3) := by decide +kernel
theorem dX6_may_15 : decode cX6_may 15 = .ok (.iload_n 2, 1) := by decide +kernel
theorem dX6_may_16 : decode cX6_may 16 = .ok (.invokevirtual 141, 3) := by decide +kernel
theorem dX6_may_19 : decode cX6_may 19 = .ok (.ifCond .ne 10, 3) := by decide +kernel
theorem dX6_may_22 : decode cX6_may 22 = .ok (.aload_n 0, 1) := by decide +kernel
theorem dX6_may_23 : decode cX6_may 23 = .ok (.bipush (-2), 2) := by decide +kernel
theorem dX6_may_25 : decode cX6_may 25 = .ok (.invokevirtual 77, 3) := by decide +kernel
theorem dX6_may_28 : decode cX6_may 28 = .ok (.ireturn, 1) := by decide +kernel
theorem dX6_may_29 : decode cX6_may 29 = .ok (.aload_n 0, 1) := by decide +kernel
theorem dX6_may_30 : decode cX6_may 30 = .ok (.getfield 10, 3) := by decide +kernel
theorem dX6_may_33 : decode cX6_may 33 = .ok (.iload_n 1, 1) := by decide +kernel
theorem dX6_may_34 : decode cX6_may 34 = .ok (.invokevirtual 199, 3) := by decide +kernel
theorem dX6_may_37 : decode cX6_may 37 = .ok (.iload_n 2, 1) := by decide +kernel
theorem dX6_may_38 : decode cX6_may 38 = .ok (.invokestatic 156, 3) := by decide +kernel
theorem dX6_may_41 : decode cX6_may 41 = .ok (.ifCond .eq 7, 3) := by decide +kernel
theorem dX6_may_44 : decode cX6_may 44 = .ok (.iconst 1, 1) := by decide +kernel
theorem dX6_may_45 : decode cX6_may 45 = .ok (.goto 4, 3) := by decide +kernel
theorem dX6_may_48 : decode cX6_may 48 = .ok (.iconst 0, 1) := by decide +kernel
theorem dX6_may_49 : decode cX6_may 49 = .ok (.ireturn, 1) := by decide +kernel
set_option maxRecDepth 20000 in
theorem ggX6_mouths_X5_isSight : GoodIn wsX6_mouths wsX5_isSight := goodIn_r _ [6, 7, 58, 59, 60, 61, 62, 63, 64, 65, 66, 67, 68, 69, 70, 71] (by decide +kernel) (by decide +kernel)
set_option maxRecDepth 20000 in
theorem gX6_mouths_X5_isSight : GoodIn wsX6_mouths (wsV RX6 141 RX5 yX5_isSight wsX5_isSight) := goodIn_app (goodIn_of _ (by decide +kernel)) ggX6_mouths_X5_isSight
set_option maxRecDepth 20000 in
theorem ggX6_mouths_X5_whoMaySay : GoodIn wsX6_mouths wsX5_whoMaySay := goodIn_r _ [11, 12, 13, 14, 15, 5, 16, 17, 18, 19, 20, 21, 22, 23, 24, 25, 26, 27, 28, 29, 30, 7, 31, 32, 33, 34, 35, 36, 37, 38, 39, 40, 41, 42, 58, 59, 60, 61, 62, 63, 64, 65, 66, 67, 68, 69, 70, 71] (by decide +kernel) (by decide +kernel)
set_option maxRecDepth 20000 in
theorem gX6_mouths_X5_whoMaySay : GoodIn wsX6_mouths (wsV RX6 202 RX5 yX5_whoMaySay wsX5_whoMaySay) := goodIn_app (goodIn_of _ (by decide +kernel)) ggX6_mouths_X5_whoMaySay
set_option maxRecDepth 20000 in
theorem ggX6_mouths_X6_refuse : GoodIn wsX6_mouths wsX6_refuse := goodIn_r _ [46, 47, 48, 49, 50, 51, 52, 53, 54, 55, 56, 57] (by decide +kernel) (by decide +kernel)
set_option maxRecDepth 20000 in
theorem gX6_mouths_X6_refuse : GoodIn wsX6_mouths (wsV RX6 77 RX6 yX6_refuse wsX6_refuse) := goodIn_app (goodIn_of _ (by decide +kernel)) ggX6_mouths_X6_refuse
theorem dX6_mouths_0 : decode cX6_mouths 0 = .ok (.aload_n 0, 1) := by decide +kernel
theorem dX6_mouths_1 : decode cX6_mouths 1 = .ok (.getfield 10, 3) := by decide +kernel
theorem dX6_mouths_4 : decode cX6_mouths 4 = .ok (.iload_n 1, 1) := by decide +kernel
theorem dX6_mouths_5 : decode cX6_mouths 5 = .ok (.invokevirtual 141, 3) := by decide +kernel
theorem dX6_mouths_8 : decode cX6_mouths 8 = .ok (.ifCond .eq 14, 3) := by decide +kernel
theorem dX6_mouths_11 : decode cX6_mouths 11 = .ok (.aload_n 0, 1) := by decide +kernel
theorem dX6_mouths_12 : decode cX6_mouths 12 = .ok (.getfield 10, 3) := by decide +kernel
theorem dX6_mouths_15 : decode cX6_mouths 15 = .ok (.iload_n 1, 1) := by decide +kernel
theorem dX6_mouths_16 : decode cX6_mouths 16 = .ok (.invokevirtual 202, 3) := by decide +kernel
theorem dX6_mouths_19 : decode cX6_mouths 19 = .ok (.goto 9, 3) := by decide +kernel
theorem dX6_mouths_22 : decode cX6_mouths 22 = .ok (.aload_n 0, 1) := by decide +kernel
theorem dX6_mouths_23 : decode cX6_mouths 23 = .ok (.bipush (-2), 2) := by decide +kernel
theorem dX6_mouths_25 : decode cX6_mouths 25 = .ok (.invokevirtual 77, 3) := by decide +kernel
theorem dX6_mouths_28 : decode cX6_mouths 28 = .ok (.ireturn, 1) := by decide +kernel
set_option maxRecDepth 20000 in
theorem ggX6_say_X5_isOne : GoodIn wsX6_say wsX5_isOne := goodIn_r _ [6, 7, 68, 69, 70, 71, 72, 73, 74, 75, 76, 77, 78, 79, 80, 81] (by decide +kernel) (by decide +kernel)
set_option maxRecDepth 20000 in
theorem gX6_say_X5_isOne : GoodIn wsX6_say (wsV RX6 113 RX5 yX5_isOne wsX5_isOne) := goodIn_app (goodIn_of _ (by decide +kernel)) ggX6_say_X5_isOne
set_option maxRecDepth 20000 in
theorem ggX6_say_X5_isSight : GoodIn wsX6_say wsX5_isSight := goodIn_r _ [11, 12, 68, 69, 70, 71, 72, 73, 74, 75, 76, 77, 78, 79, 80, 81] (by decide +kernel) (by decide +kernel)
set_option maxRecDepth 20000 in
theorem gX6_say_X5_isSight : GoodIn wsX6_say (wsV RX6 141 RX5 yX5_isSight wsX5_isSight) := goodIn_app (goodIn_of _ (by decide +kernel)) ggX6_say_X5_isSight
set_option maxRecDepth 20000 in
theorem ggX6_say_X6_refuse : GoodIn wsX6_say wsX6_refuse := goodIn_r _ [17, 18, 58, 59, 60, 61, 62, 63, 64, 65, 66, 67] (by decide +kernel) (by decide +kernel)
set_option maxRecDepth 20000 in
theorem gX6_say_X6_refuse : GoodIn wsX6_say (wsV RX6 77 RX6 yX6_refuse wsX6_refuse) := goodIn_app (goodIn_of _ (by decide +kernel)) ggX6_say_X6_refuse
set_option maxRecDepth 20000 in
theorem ggX6_say_X5_sayableBy : GoodIn wsX6_say wsX5_sayableBy := goodIn_r _ [22, 23, 24, 25, 26, 27, 28, 5, 29, 30, 31, 32, 33, 34, 35, 36, 12, 37, 38, 39, 40, 7, 41, 42, 16, 43, 68, 69, 70, 71, 72, 73, 74, 75, 76, 77, 78, 79, 80, 81] (by decide +kernel) (by decide +kernel)
set_option maxRecDepth 20000 in
theorem gX6_say_X5_sayableBy : GoodIn wsX6_say (wsV RX6 199 RX5 yX5_sayableBy wsX5_sayableBy) := goodIn_app (goodIn_of _ (by decide +kernel)) ggX6_say_X5_sayableBy
set_option maxRecDepth 20000 in
theorem ggX6_say_X6_has : GoodIn wsX6_say wsX6_has := goodIn_r _ [46] (by decide +kernel) (by decide +kernel)
set_option maxRecDepth 20000 in
theorem gX6_say_X6_has : GoodIn wsX6_say (va_wsS RX6 156 yX6_has wsX6_has) := goodIn_app (goodIn_of _ (by decide +kernel)) ggX6_say_X6_has
set_option maxRecDepth 20000 in
theorem ggX6_say_X5_tell : GoodIn wsX6_say wsX5_tell := goodIn_r _ [50, 7, 41, 24, 45, 16, 46, 51, 52, 53, 54, 55, 56, 57, 68, 69, 70, 71, 72, 73, 74, 75, 76, 77, 78, 79, 80, 81] (by decide +kernel) (by decide +kernel)
set_option maxRecDepth 20000 in
theorem gX6_say_X5_tell : GoodIn wsX6_say (wsV RX6 205 RX5 yX5_tell wsX5_tell) := goodIn_app (goodIn_of _ (by decide +kernel)) ggX6_say_X5_tell
