def wsX7_goesRound : List Cond := .code yX7_goesRound cX7_goesRound 6 (some .boolean) :: ((wsX7_goesRound_r1 ++ wsX7_goesRound_r2) ++ wsX70)
def wsX7_isRounds : List Cond := .code yX7_isRounds cX7_isRounds 1 (some .boolean) :: ([.constantLong RX7 260 (20), .methodLink RX7 80 yX7_in, .static yX7_in, .initialized RX7, .code yX7_in cX7_in 6 (some .boolean)])
def wsX7_after_r1 : List Cond := [Cond.methodLink RX7 236 yX7_fresh, Cond.instanceMethod yX7_fresh, Cond.selects RX7 yX7_fresh yX7_fresh, Cond.initialized RX7, Cond.code yX7_fresh cX7_fresh 1 (some (.object "OnlyUnseenModel")), Cond.fieldLink RX7 329 "OnlyUnseenModel" "tried" "LOnlyUnseenModel;", Cond.classLink RX7 8 RX7, Cond.instantiable RX7 33, Cond.methodLink RX7 333 yX7_init, Cond.instanceMethod yX7_init, Cond.code yX7_init cX7_init 1 none, Cond.methodLink RX7 1 objectInit, Cond.instanceMethod objectInit, Cond.code objectInit ⟨#[0xb1]⟩ 1 none, Cond.arrayClass .int, Cond.fieldLink RX7 7 "OnlyUnseenModel" "shelf" "[I", Cond.fieldLink RX7 13 "OnlyUnseenModel" "rowSort" "[I", Cond.fieldLink RX7 16 "OnlyUnseenModel" "rowSize" "[I", Cond.classLink RX7 19 "[[J", Cond.arrayClass .long, Cond.fieldLink RX7 21 "OnlyUnseenModel" "rows" "[[J", Cond.fieldLink RX7 24 "OnlyUnseenModel" "moved" "[J", Cond.fieldLink RX7 28 "OnlyUnseenModel" "shown" "[I", Cond.fieldLink RX7 31 "OnlyUnseenModel" "tape" "[I"]
def wsX7_after_r2 : List Cond := [Cond.fieldLink RX7 34 "OnlyUnseenModel" "refused" "[I", Cond.fieldLink RX7 37 "OnlyUnseenModel" "sights" "I", Cond.fieldLink RX7 41 "OnlyUnseenModel" "kind" "[I", Cond.fieldLink RX7 44 "OnlyUnseenModel" "by" "[I", Cond.fieldLink RX7 47 "OnlyUnseenModel" "seen" "[I", Cond.fieldLink RX7 50 "OnlyUnseenModel" "half" "[I", Cond.fieldLink RX7 53 "OnlyUnseenModel" "heard" "[I", Cond.fieldLink RX7 56 "OnlyUnseenModel" "hears" "[I", Cond.fieldLink RX7 59 "OnlyUnseenModel" "asked" "[I", Cond.fieldLink RX7 62 "OnlyUnseenModel" "seed" "I", Cond.fieldLink RX7 65 "OnlyUnseenModel" "told" "[I", Cond.fieldLink RX7 68 "OnlyUnseenModel" "said" "[I", Cond.fieldLink RX7 71 "OnlyUnseenModel" "row" "[I", Cond.fieldLink RX7 74 "OnlyUnseenModel" "bestRow" "[I", Cond.methodLink RX7 243 yX7_takeFrom, Cond.instanceMethod yX7_takeFrom, Cond.selects RX7 yX7_takeFrom yX7_takeFrom, Cond.code yX7_takeFrom cX7_takeFrom 2 none, Cond.fieldLink RX7 77 "OnlyUnseenModel" "people" "I", Cond.fieldLink RX7 326 "OnlyUnseenModel" "evenings" "I", Cond.methodLink RX7 334 yX7_over, Cond.static yX7_over, Cond.code yX7_over cX7_over 3 none, Cond.methodLink RX7 262 yX7_goesRound]
def wsX7_after_r3 : List Cond := [Cond.instanceMethod yX7_goesRound, Cond.selects RX7 yX7_goesRound yX7_goesRound, Cond.code yX7_goesRound cX7_goesRound 6 (some .boolean), Cond.methodLink RX7 114 yX7_mayOf, Cond.instanceMethod yX7_mayOf, Cond.selects RX7 yX7_mayOf yX7_mayOf, Cond.code yX7_mayOf cX7_mayOf 6 (some .int), Cond.methodLink RX7 124 yX7_barredBy, Cond.instanceMethod yX7_barredBy, Cond.selects RX7 yX7_barredBy yX7_barredBy, Cond.code yX7_barredBy cX7_barredBy 2 (some .int), Cond.methodLink RX7 120 yX7_allSights, Cond.instanceMethod yX7_allSights, Cond.selects RX7 yX7_allSights yX7_allSights, Cond.code yX7_allSights cX7_allSights 1 (some .int), Cond.methodLink RX7 84 yX7_has, Cond.static yX7_has, Cond.code yX7_has cX7_has 2 (some .boolean), Cond.methodLink RX7 253 yX7_isSaid, Cond.instanceMethod yX7_isSaid, Cond.selects RX7 yX7_isSaid yX7_isSaid, Cond.code yX7_isSaid cX7_isSaid 5 (some .int), Cond.methodLink RX7 117 yX7_bits, Cond.static yX7_bits]
def wsX7_after_r4 : List Cond := [Cond.code yX7_bits cX7_bits 3 (some .int)]
def wsX7_after : List Cond := .code yX7_after cX7_after 4 (some (.object "OnlyUnseenModel")) :: ((wsX7_after_r1 ++ (wsX7_after_r2 ++ (wsX7_after_r3 ++ wsX7_after_r4))) ++ wsX70)
def wsX7_spread_r1 : List Cond := [Cond.fieldLink RX7 53 "OnlyUnseenModel" "heard" "[I", Cond.methodLink RX7 265 yX7_isRounds, Cond.static yX7_isRounds, Cond.initialized RX7, Cond.code yX7_isRounds cX7_isRounds 1 (some .boolean), Cond.constantLong RX7 260 (20), Cond.methodLink RX7 80 yX7_in, Cond.static yX7_in, Cond.code yX7_in cX7_in 6 (some .boolean), Cond.methodLink RX7 105 yX7_isOne, Cond.instanceMethod yX7_isOne, Cond.selects RX7 yX7_isOne yX7_isOne, Cond.code yX7_isOne cX7_isOne 2 (some .boolean), Cond.fieldLink RX7 77 "OnlyUnseenModel" "people" "I", Cond.methodLink RX7 268 yX7_after, Cond.instanceMethod yX7_after, Cond.selects RX7 yX7_after yX7_after, Cond.code yX7_after cX7_after 4 (some (.object "OnlyUnseenModel")), Cond.methodLink RX7 236 yX7_fresh, Cond.instanceMethod yX7_fresh, Cond.selects RX7 yX7_fresh yX7_fresh, Cond.code yX7_fresh cX7_fresh 1 (some (.object "OnlyUnseenModel")), Cond.fieldLink RX7 329 "OnlyUnseenModel" "tried" "LOnlyUnseenModel;", Cond.classLink RX7 8 RX7]
def wsX7_spread_r2 : List Cond := [Cond.instantiable RX7 33, Cond.methodLink RX7 333 yX7_init, Cond.instanceMethod yX7_init, Cond.code yX7_init cX7_init 1 none, Cond.methodLink RX7 1 objectInit, Cond.instanceMethod objectInit, Cond.code objectInit ⟨#[0xb1]⟩ 1 none, Cond.arrayClass .int, Cond.fieldLink RX7 7 "OnlyUnseenModel" "shelf" "[I", Cond.fieldLink RX7 13 "OnlyUnseenModel" "rowSort" "[I", Cond.fieldLink RX7 16 "OnlyUnseenModel" "rowSize" "[I", Cond.classLink RX7 19 "[[J", Cond.arrayClass .long, Cond.fieldLink RX7 21 "OnlyUnseenModel" "rows" "[[J", Cond.fieldLink RX7 24 "OnlyUnseenModel" "moved" "[J", Cond.fieldLink RX7 28 "OnlyUnseenModel" "shown" "[I", Cond.fieldLink RX7 31 "OnlyUnseenModel" "tape" "[I", Cond.fieldLink RX7 34 "OnlyUnseenModel" "refused" "[I", Cond.fieldLink RX7 37 "OnlyUnseenModel" "sights" "I", Cond.fieldLink RX7 41 "OnlyUnseenModel" "kind" "[I", Cond.fieldLink RX7 44 "OnlyUnseenModel" "by" "[I", Cond.fieldLink RX7 47 "OnlyUnseenModel" "seen" "[I", Cond.fieldLink RX7 50 "OnlyUnseenModel" "half" "[I", Cond.fieldLink RX7 56 "OnlyUnseenModel" "hears" "[I"]
def wsX7_spread_r3 : List Cond := [Cond.fieldLink RX7 59 "OnlyUnseenModel" "asked" "[I", Cond.fieldLink RX7 62 "OnlyUnseenModel" "seed" "I", Cond.fieldLink RX7 65 "OnlyUnseenModel" "told" "[I", Cond.fieldLink RX7 68 "OnlyUnseenModel" "said" "[I", Cond.fieldLink RX7 71 "OnlyUnseenModel" "row" "[I", Cond.fieldLink RX7 74 "OnlyUnseenModel" "bestRow" "[I", Cond.methodLink RX7 243 yX7_takeFrom, Cond.instanceMethod yX7_takeFrom, Cond.selects RX7 yX7_takeFrom yX7_takeFrom, Cond.code yX7_takeFrom cX7_takeFrom 2 none, Cond.fieldLink RX7 326 "OnlyUnseenModel" "evenings" "I", Cond.methodLink RX7 334 yX7_over, Cond.static yX7_over, Cond.code yX7_over cX7_over 3 none, Cond.methodLink RX7 262 yX7_goesRound, Cond.instanceMethod yX7_goesRound, Cond.selects RX7 yX7_goesRound yX7_goesRound, Cond.code yX7_goesRound cX7_goesRound 6 (some .boolean), Cond.methodLink RX7 114 yX7_mayOf, Cond.instanceMethod yX7_mayOf, Cond.selects RX7 yX7_mayOf yX7_mayOf, Cond.code yX7_mayOf cX7_mayOf 6 (some .int), Cond.methodLink RX7 124 yX7_barredBy, Cond.instanceMethod yX7_barredBy]
def wsX7_spread_r4 : List Cond := [Cond.selects RX7 yX7_barredBy yX7_barredBy, Cond.code yX7_barredBy cX7_barredBy 2 (some .int), Cond.methodLink RX7 120 yX7_allSights, Cond.instanceMethod yX7_allSights, Cond.selects RX7 yX7_allSights yX7_allSights, Cond.code yX7_allSights cX7_allSights 1 (some .int), Cond.methodLink RX7 84 yX7_has, Cond.static yX7_has, Cond.code yX7_has cX7_has 2 (some .boolean), Cond.methodLink RX7 253 yX7_isSaid, Cond.instanceMethod yX7_isSaid, Cond.selects RX7 yX7_isSaid yX7_isSaid, Cond.code yX7_isSaid cX7_isSaid 5 (some .int), Cond.methodLink RX7 117 yX7_bits, Cond.static yX7_bits, Cond.code yX7_bits cX7_bits 3 (some .int), Cond.methodLink RX7 94 yX7_refuse, Cond.instanceMethod yX7_refuse, Cond.selects RX7 yX7_refuse yX7_refuse, Cond.code yX7_refuse cX7_refuse 2 (some .int)]
def wsX7_spread : List Cond := .code yX7_spread cX7_spread 3 (some .int) :: ((wsX7_spread_r1 ++ (wsX7_spread_r2 ++ (wsX7_spread_r3 ++ wsX7_spread_r4))) ++ wsX70)
def wsX7_knownBy_r1 : List Cond := [Cond.methodLink RX7 265 yX7_isRounds, Cond.static yX7_isRounds, Cond.initialized RX7, Cond.code yX7_isRounds cX7_isRounds 1 (some .boolean), Cond.constantLong RX7 260 (20), Cond.methodLink RX7 80 yX7_in, Cond.static yX7_in, Cond.code yX7_in cX7_in 6 (some .boolean), Cond.methodLink RX7 268 yX7_after, Cond.instanceMethod yX7_after, Cond.selects RX7 yX7_after yX7_after, Cond.code yX7_after cX7_after 4 (some (.object "OnlyUnseenModel")), Cond.methodLink RX7 236 yX7_fresh, Cond.instanceMethod yX7_fresh, Cond.selects RX7 yX7_fresh yX7_fresh, Cond.code yX7_fresh cX7_fresh 1 (some (.object "OnlyUnseenModel")), Cond.fieldLink RX7 329 "OnlyUnseenModel" "tried" "LOnlyUnseenModel;", Cond.classLink RX7 8 RX7, Cond.instantiable RX7 33, Cond.methodLink RX7 333 yX7_init, Cond.instanceMethod yX7_init, Cond.code yX7_init cX7_init 1 none, Cond.methodLink RX7 1 objectInit, Cond.instanceMethod objectInit]
def wsX7_knownBy_r2 : List Cond := [Cond.code objectInit ⟨#[0xb1]⟩ 1 none, Cond.arrayClass .int, Cond.fieldLink RX7 7 "OnlyUnseenModel" "shelf" "[I", Cond.fieldLink RX7 13 "OnlyUnseenModel" "rowSort" "[I", Cond.fieldLink RX7 16 "OnlyUnseenModel" "rowSize" "[I", Cond.classLink RX7 19 "[[J", Cond.arrayClass .long, Cond.fieldLink RX7 21 "OnlyUnseenModel" "rows" "[[J", Cond.fieldLink RX7 24 "OnlyUnseenModel" "moved" "[J", Cond.fieldLink RX7 28 "OnlyUnseenModel" "shown" "[I", Cond.fieldLink RX7 31 "OnlyUnseenModel" "tape" "[I", Cond.fieldLink RX7 34 "OnlyUnseenModel" "refused" "[I", Cond.fieldLink RX7 37 "OnlyUnseenModel" "sights" "I", Cond.fieldLink RX7 41 "OnlyUnseenModel" "kind" "[I", Cond.fieldLink RX7 44 "OnlyUnseenModel" "by" "[I", Cond.fieldLink RX7 47 "OnlyUnseenModel" "seen" "[I", Cond.fieldLink RX7 50 "OnlyUnseenModel" "half" "[I", Cond.fieldLink RX7 53 "OnlyUnseenModel" "heard" "[I", Cond.fieldLink RX7 56 "OnlyUnseenModel" "hears" "[I", Cond.fieldLink RX7 59 "OnlyUnseenModel" "asked" "[I", Cond.fieldLink RX7 62 "OnlyUnseenModel" "seed" "I", Cond.fieldLink RX7 65 "OnlyUnseenModel" "told" "[I", Cond.fieldLink RX7 68 "OnlyUnseenModel" "said" "[I", Cond.fieldLink RX7 71 "OnlyUnseenModel" "row" "[I"]
def wsX7_knownBy_r3 : List Cond := [Cond.fieldLink RX7 74 "OnlyUnseenModel" "bestRow" "[I", Cond.methodLink RX7 243 yX7_takeFrom, Cond.instanceMethod yX7_takeFrom, Cond.selects RX7 yX7_takeFrom yX7_takeFrom, Cond.code yX7_takeFrom cX7_takeFrom 2 none, Cond.fieldLink RX7 77 "OnlyUnseenModel" "people" "I", Cond.fieldLink RX7 326 "OnlyUnseenModel" "evenings" "I", Cond.methodLink RX7 334 yX7_over, Cond.static yX7_over, Cond.code yX7_over cX7_over 3 none, Cond.methodLink RX7 262 yX7_goesRound, Cond.instanceMethod yX7_goesRound, Cond.selects RX7 yX7_goesRound yX7_goesRound, Cond.code yX7_goesRound cX7_goesRound 6 (some .boolean), Cond.methodLink RX7 114 yX7_mayOf, Cond.instanceMethod yX7_mayOf, Cond.selects RX7 yX7_mayOf yX7_mayOf, Cond.code yX7_mayOf cX7_mayOf 6 (some .int), Cond.methodLink RX7 124 yX7_barredBy, Cond.instanceMethod yX7_barredBy, Cond.selects RX7 yX7_barredBy yX7_barredBy, Cond.code yX7_barredBy cX7_barredBy 2 (some .int), Cond.methodLink RX7 120 yX7_allSights, Cond.instanceMethod yX7_allSights]
def wsX7_knownBy_r4 : List Cond := [Cond.selects RX7 yX7_allSights yX7_allSights, Cond.code yX7_allSights cX7_allSights 1 (some .int), Cond.methodLink RX7 84 yX7_has, Cond.static yX7_has, Cond.code yX7_has cX7_has 2 (some .boolean), Cond.methodLink RX7 253 yX7_isSaid, Cond.instanceMethod yX7_isSaid, Cond.selects RX7 yX7_isSaid yX7_isSaid, Cond.code yX7_isSaid cX7_isSaid 5 (some .int), Cond.methodLink RX7 117 yX7_bits, Cond.static yX7_bits, Cond.code yX7_bits cX7_bits 3 (some .int), Cond.methodLink RX7 257 yX7_knownNow, Cond.instanceMethod yX7_knownNow, Cond.selects RX7 yX7_knownNow yX7_knownNow, Cond.code yX7_knownNow cX7_knownNow 3 (some .int), Cond.methodLink RX7 247 yX7_knows, Cond.instanceMethod yX7_knows, Cond.selects RX7 yX7_knows yX7_knows, Cond.code yX7_knows cX7_knows 2 (some .int), Cond.methodLink RX7 94 yX7_refuse, Cond.instanceMethod yX7_refuse, Cond.selects RX7 yX7_refuse yX7_refuse, Cond.code yX7_refuse cX7_refuse 2 (some .int)]
def wsX7_knownBy : List Cond := .code yX7_knownBy cX7_knownBy 2 (some .int) :: ((wsX7_knownBy_r1 ++ (wsX7_knownBy_r2 ++ (wsX7_knownBy_r3 ++ wsX7_knownBy_r4))) ++ wsX70)
def wsX7_rounds_r1 : List Cond := [Cond.methodLink RX7 236 yX7_fresh, Cond.instanceMethod yX7_fresh, Cond.selects RX7 yX7_fresh yX7_fresh, Cond.initialized RX7, Cond.code yX7_fresh cX7_fresh 1 (some (.object "OnlyUnseenModel")), Cond.fieldLink RX7 329 "OnlyUnseenModel" "tried" "LOnlyUnseenModel;", Cond.classLink RX7 8 RX7, Cond.instantiable RX7 33, Cond.methodLink RX7 333 yX7_init, Cond.instanceMethod yX7_init, Cond.code yX7_init cX7_init 1 none, Cond.methodLink RX7 1 objectInit, Cond.instanceMethod objectInit, Cond.code objectInit ⟨#[0xb1]⟩ 1 none, Cond.arrayClass .int, Cond.fieldLink RX7 7 "OnlyUnseenModel" "shelf" "[I", Cond.fieldLink RX7 13 "OnlyUnseenModel" "rowSort" "[I", Cond.fieldLink RX7 16 "OnlyUnseenModel" "rowSize" "[I", Cond.classLink RX7 19 "[[J", Cond.arrayClass .long, Cond.fieldLink RX7 21 "OnlyUnseenModel" "rows" "[[J", Cond.fieldLink RX7 24 "OnlyUnseenModel" "moved" "[J", Cond.fieldLink RX7 28 "OnlyUnseenModel" "shown" "[I", Cond.fieldLink RX7 31 "OnlyUnseenModel" "tape" "[I"]
def wsX7_rounds_r2 : List Cond := [Cond.fieldLink RX7 34 "OnlyUnseenModel" "refused" "[I", Cond.fieldLink RX7 37 "OnlyUnseenModel" "sights" "I", Cond.fieldLink RX7 41 "OnlyUnseenModel" "kind" "[I", Cond.fieldLink RX7 44 "OnlyUnseenModel" "by" "[I", Cond.fieldLink RX7 47 "OnlyUnseenModel" "seen" "[I", Cond.fieldLink RX7 50 "OnlyUnseenModel" "half" "[I", Cond.fieldLink RX7 53 "OnlyUnseenModel" "heard" "[I", Cond.fieldLink RX7 56 "OnlyUnseenModel" "hears" "[I", Cond.fieldLink RX7 59 "OnlyUnseenModel" "asked" "[I", Cond.fieldLink RX7 62 "OnlyUnseenModel" "seed" "I", Cond.fieldLink RX7 65 "OnlyUnseenModel" "told" "[I", Cond.fieldLink RX7 68 "OnlyUnseenModel" "said" "[I", Cond.fieldLink RX7 71 "OnlyUnseenModel" "row" "[I", Cond.fieldLink RX7 74 "OnlyUnseenModel" "bestRow" "[I", Cond.methodLink RX7 243 yX7_takeFrom, Cond.instanceMethod yX7_takeFrom, Cond.selects RX7 yX7_takeFrom yX7_takeFrom, Cond.code yX7_takeFrom cX7_takeFrom 2 none, Cond.fieldLink RX7 77 "OnlyUnseenModel" "people" "I", Cond.fieldLink RX7 326 "OnlyUnseenModel" "evenings" "I", Cond.methodLink RX7 334 yX7_over, Cond.static yX7_over, Cond.code yX7_over cX7_over 3 none, Cond.methodLink RX7 262 yX7_goesRound]
def wsX7_rounds_r3 : List Cond := [Cond.instanceMethod yX7_goesRound, Cond.selects RX7 yX7_goesRound yX7_goesRound, Cond.code yX7_goesRound cX7_goesRound 6 (some .boolean), Cond.methodLink RX7 114 yX7_mayOf, Cond.instanceMethod yX7_mayOf, Cond.selects RX7 yX7_mayOf yX7_mayOf, Cond.code yX7_mayOf cX7_mayOf 6 (some .int), Cond.methodLink RX7 124 yX7_barredBy, Cond.instanceMethod yX7_barredBy, Cond.selects RX7 yX7_barredBy yX7_barredBy, Cond.code yX7_barredBy cX7_barredBy 2 (some .int), Cond.methodLink RX7 120 yX7_allSights, Cond.instanceMethod yX7_allSights, Cond.selects RX7 yX7_allSights yX7_allSights, Cond.code yX7_allSights cX7_allSights 1 (some .int), Cond.methodLink RX7 84 yX7_has, Cond.static yX7_has, Cond.code yX7_has cX7_has 2 (some .boolean), Cond.methodLink RX7 253 yX7_isSaid, Cond.instanceMethod yX7_isSaid, Cond.selects RX7 yX7_isSaid yX7_isSaid, Cond.code yX7_isSaid cX7_isSaid 5 (some .int), Cond.methodLink RX7 117 yX7_bits, Cond.static yX7_bits]
def wsX7_rounds_r4 : List Cond := [Cond.code yX7_bits cX7_bits 3 (some .int)]
def wsX7_rounds : List Cond := .code yX7_rounds cX7_rounds 3 (some .int) :: ((wsX7_rounds_r1 ++ (wsX7_rounds_r2 ++ (wsX7_rounds_r3 ++ wsX7_rounds_r4))) ++ wsX70)
def wsX7_never_r1 : List Cond := [Cond.fieldLink RX7 77 "OnlyUnseenModel" "people" "I", Cond.methodLink RX7 138 yX7_isSight, Cond.instanceMethod yX7_isSight, Cond.selects RX7 yX7_isSight yX7_isSight, Cond.initialized RX7, Cond.code yX7_isSight cX7_isSight 2 (some .boolean), Cond.fieldLink RX7 37 "OnlyUnseenModel" "sights" "I", Cond.methodLink RX7 80 yX7_in, Cond.static yX7_in, Cond.code yX7_in cX7_in 6 (some .boolean), Cond.methodLink RX7 94 yX7_refuse, Cond.instanceMethod yX7_refuse, Cond.selects RX7 yX7_refuse yX7_refuse, Cond.code yX7_refuse cX7_refuse 2 (some .int), Cond.fieldLink RX7 34 "OnlyUnseenModel" "refused" "[I", Cond.methodLink RX7 268 yX7_after, Cond.instanceMethod yX7_after, Cond.selects RX7 yX7_after yX7_after, Cond.code yX7_after cX7_after 4 (some (.object "OnlyUnseenModel")), Cond.methodLink RX7 236 yX7_fresh, Cond.instanceMethod yX7_fresh, Cond.selects RX7 yX7_fresh yX7_fresh, Cond.code yX7_fresh cX7_fresh 1 (some (.object "OnlyUnseenModel")), Cond.fieldLink RX7 329 "OnlyUnseenModel" "tried" "LOnlyUnseenModel;"]
def wsX7_never_r2 : List Cond := [Cond.classLink RX7 8 RX7, Cond.instantiable RX7 33, Cond.methodLink RX7 333 yX7_init, Cond.instanceMethod yX7_init, Cond.code yX7_init cX7_init 1 none, Cond.methodLink RX7 1 objectInit, Cond.instanceMethod objectInit, Cond.code objectInit ⟨#[0xb1]⟩ 1 none, Cond.arrayClass .int, Cond.fieldLink RX7 7 "OnlyUnseenModel" "shelf" "[I", Cond.fieldLink RX7 13 "OnlyUnseenModel" "rowSort" "[I", Cond.fieldLink RX7 16 "OnlyUnseenModel" "rowSize" "[I", Cond.classLink RX7 19 "[[J", Cond.arrayClass .long, Cond.fieldLink RX7 21 "OnlyUnseenModel" "rows" "[[J", Cond.fieldLink RX7 24 "OnlyUnseenModel" "moved" "[J", Cond.fieldLink RX7 28 "OnlyUnseenModel" "shown" "[I", Cond.fieldLink RX7 31 "OnlyUnseenModel" "tape" "[I", Cond.fieldLink RX7 41 "OnlyUnseenModel" "kind" "[I", Cond.fieldLink RX7 44 "OnlyUnseenModel" "by" "[I", Cond.fieldLink RX7 47 "OnlyUnseenModel" "seen" "[I", Cond.fieldLink RX7 50 "OnlyUnseenModel" "half" "[I", Cond.fieldLink RX7 53 "OnlyUnseenModel" "heard" "[I", Cond.fieldLink RX7 56 "OnlyUnseenModel" "hears" "[I"]
def wsX7_never_r3 : List Cond := [Cond.fieldLink RX7 59 "OnlyUnseenModel" "asked" "[I", Cond.fieldLink RX7 62 "OnlyUnseenModel" "seed" "I", Cond.fieldLink RX7 65 "OnlyUnseenModel" "told" "[I", Cond.fieldLink RX7 68 "OnlyUnseenModel" "said" "[I", Cond.fieldLink RX7 71 "OnlyUnseenModel" "row" "[I", Cond.fieldLink RX7 74 "OnlyUnseenModel" "bestRow" "[I", Cond.methodLink RX7 243 yX7_takeFrom, Cond.instanceMethod yX7_takeFrom, Cond.selects RX7 yX7_takeFrom yX7_takeFrom, Cond.code yX7_takeFrom cX7_takeFrom 2 none, Cond.fieldLink RX7 326 "OnlyUnseenModel" "evenings" "I", Cond.methodLink RX7 334 yX7_over, Cond.static yX7_over, Cond.code yX7_over cX7_over 3 none, Cond.methodLink RX7 262 yX7_goesRound, Cond.instanceMethod yX7_goesRound, Cond.selects RX7 yX7_goesRound yX7_goesRound, Cond.code yX7_goesRound cX7_goesRound 6 (some .boolean), Cond.methodLink RX7 114 yX7_mayOf, Cond.instanceMethod yX7_mayOf, Cond.selects RX7 yX7_mayOf yX7_mayOf, Cond.code yX7_mayOf cX7_mayOf 6 (some .int), Cond.methodLink RX7 124 yX7_barredBy, Cond.instanceMethod yX7_barredBy]
def wsX7_never_r4 : List Cond := [Cond.selects RX7 yX7_barredBy yX7_barredBy, Cond.code yX7_barredBy cX7_barredBy 2 (some .int), Cond.methodLink RX7 120 yX7_allSights, Cond.instanceMethod yX7_allSights, Cond.selects RX7 yX7_allSights yX7_allSights, Cond.code yX7_allSights cX7_allSights 1 (some .int), Cond.methodLink RX7 84 yX7_has, Cond.static yX7_has, Cond.code yX7_has cX7_has 2 (some .boolean), Cond.methodLink RX7 253 yX7_isSaid, Cond.instanceMethod yX7_isSaid, Cond.selects RX7 yX7_isSaid yX7_isSaid, Cond.code yX7_isSaid cX7_isSaid 5 (some .int), Cond.methodLink RX7 117 yX7_bits, Cond.static yX7_bits, Cond.code yX7_bits cX7_bits 3 (some .int), Cond.methodLink RX7 247 yX7_knows, Cond.instanceMethod yX7_knows, Cond.selects RX7 yX7_knows yX7_knows, Cond.code yX7_knows cX7_knows 2 (some .int)]
def wsX7_never : List Cond := .code yX7_never cX7_never 5 (some .int) :: ((wsX7_never_r1 ++ (wsX7_never_r2 ++ (wsX7_never_r3 ++ wsX7_never_r4))) ++ wsX70)
def wsX7_when_r1 : List Cond := [Cond.methodLink RX7 105 yX7_isOne, Cond.instanceMethod yX7_isOne, Cond.selects RX7 yX7_isOne yX7_isOne, Cond.initialized RX7, Cond.code yX7_isOne cX7_isOne 2 (some .boolean), Cond.fieldLink RX7 77 "OnlyUnseenModel" "people" "I", Cond.methodLink RX7 80 yX7_in, Cond.static yX7_in, Cond.code yX7_in cX7_in 6 (some .boolean), Cond.methodLink RX7 138 yX7_isSight, Cond.instanceMethod yX7_isSight, Cond.selects RX7 yX7_isSight yX7_isSight, Cond.code yX7_isSight cX7_isSight 2 (some .boolean), Cond.fieldLink RX7 37 "OnlyUnseenModel" "sights" "I", Cond.methodLink RX7 94 yX7_refuse, Cond.instanceMethod yX7_refuse, Cond.selects RX7 yX7_refuse yX7_refuse, Cond.code yX7_refuse cX7_refuse 2 (some .int), Cond.fieldLink RX7 34 "OnlyUnseenModel" "refused" "[I", Cond.methodLink RX7 236 yX7_fresh, Cond.instanceMethod yX7_fresh, Cond.selects RX7 yX7_fresh yX7_fresh, Cond.code yX7_fresh cX7_fresh 1 (some (.object "OnlyUnseenModel")), Cond.fieldLink RX7 329 "OnlyUnseenModel" "tried" "LOnlyUnseenModel;"]
def wsX7_when_r2 : List Cond := [Cond.classLink RX7 8 RX7, Cond.instantiable RX7 33, Cond.methodLink RX7 333 yX7_init, Cond.instanceMethod yX7_init, Cond.code yX7_init cX7_init 1 none, Cond.methodLink RX7 1 objectInit, Cond.instanceMethod objectInit, Cond.code objectInit ⟨#[0xb1]⟩ 1 none, Cond.arrayClass .int, Cond.fieldLink RX7 7 "OnlyUnseenModel" "shelf" "[I", Cond.fieldLink RX7 13 "OnlyUnseenModel" "rowSort" "[I", Cond.fieldLink RX7 16 "OnlyUnseenModel" "rowSize" "[I", Cond.classLink RX7 19 "[[J", Cond.arrayClass .long, Cond.fieldLink RX7 21 "OnlyUnseenModel" "rows" "[[J", Cond.fieldLink RX7 24 "OnlyUnseenModel" "moved" "[J", Cond.fieldLink RX7 28 "OnlyUnseenModel" "shown" "[I", Cond.fieldLink RX7 31 "OnlyUnseenModel" "tape" "[I", Cond.fieldLink RX7 41 "OnlyUnseenModel" "kind" "[I", Cond.fieldLink RX7 44 "OnlyUnseenModel" "by" "[I", Cond.fieldLink RX7 47 "OnlyUnseenModel" "seen" "[I", Cond.fieldLink RX7 50 "OnlyUnseenModel" "half" "[I", Cond.fieldLink RX7 53 "OnlyUnseenModel" "heard" "[I", Cond.fieldLink RX7 56 "OnlyUnseenModel" "hears" "[I"]
def wsX7_when_r3 : List Cond := [Cond.fieldLink RX7 59 "OnlyUnseenModel" "asked" "[I", Cond.fieldLink RX7 62 "OnlyUnseenModel" "seed" "I", Cond.fieldLink RX7 65 "OnlyUnseenModel" "told" "[I", Cond.fieldLink RX7 68 "OnlyUnseenModel" "said" "[I", Cond.fieldLink RX7 71 "OnlyUnseenModel" "row" "[I", Cond.fieldLink RX7 74 "OnlyUnseenModel" "bestRow" "[I", Cond.methodLink RX7 243 yX7_takeFrom, Cond.instanceMethod yX7_takeFrom, Cond.selects RX7 yX7_takeFrom yX7_takeFrom, Cond.code yX7_takeFrom cX7_takeFrom 2 none, Cond.fieldLink RX7 326 "OnlyUnseenModel" "evenings" "I", Cond.methodLink RX7 334 yX7_over, Cond.static yX7_over, Cond.code yX7_over cX7_over 3 none, Cond.methodLink RX7 247 yX7_knows, Cond.instanceMethod yX7_knows, Cond.selects RX7 yX7_knows yX7_knows, Cond.code yX7_knows cX7_knows 2 (some .int), Cond.methodLink RX7 84 yX7_has, Cond.static yX7_has, Cond.code yX7_has cX7_has 2 (some .boolean), Cond.methodLink RX7 262 yX7_goesRound, Cond.instanceMethod yX7_goesRound, Cond.selects RX7 yX7_goesRound yX7_goesRound]
def wsX7_when_r4 : List Cond := [Cond.code yX7_goesRound cX7_goesRound 6 (some .boolean), Cond.methodLink RX7 114 yX7_mayOf, Cond.instanceMethod yX7_mayOf, Cond.selects RX7 yX7_mayOf yX7_mayOf, Cond.code yX7_mayOf cX7_mayOf 6 (some .int), Cond.methodLink RX7 124 yX7_barredBy, Cond.instanceMethod yX7_barredBy, Cond.selects RX7 yX7_barredBy yX7_barredBy, Cond.code yX7_barredBy cX7_barredBy 2 (some .int), Cond.methodLink RX7 120 yX7_allSights, Cond.instanceMethod yX7_allSights, Cond.selects RX7 yX7_allSights yX7_allSights, Cond.code yX7_allSights cX7_allSights 1 (some .int), Cond.methodLink RX7 253 yX7_isSaid, Cond.instanceMethod yX7_isSaid, Cond.selects RX7 yX7_isSaid yX7_isSaid, Cond.code yX7_isSaid cX7_isSaid 5 (some .int), Cond.methodLink RX7 117 yX7_bits, Cond.static yX7_bits, Cond.code yX7_bits cX7_bits 3 (some .int)]
def wsX7_when : List Cond := .code yX7_when cX7_when 5 (some .int) :: ((wsX7_when_r1 ++ (wsX7_when_r2 ++ (wsX7_when_r3 ++ wsX7_when_r4))) ++ wsX70)
def wsX7_isStopped_r1 : List Cond := [Cond.fieldLink RX7 77 "OnlyUnseenModel" "people" "I", Cond.fieldLink RX7 41 "OnlyUnseenModel" "kind" "[I", Cond.methodLink RX7 236 yX7_fresh, Cond.instanceMethod yX7_fresh, Cond.selects RX7 yX7_fresh yX7_fresh, Cond.initialized RX7, Cond.code yX7_fresh cX7_fresh 1 (some (.object "OnlyUnseenModel")), Cond.fieldLink RX7 329 "OnlyUnseenModel" "tried" "LOnlyUnseenModel;", Cond.classLink RX7 8 RX7, Cond.instantiable RX7 33, Cond.methodLink RX7 333 yX7_init, Cond.instanceMethod yX7_init, Cond.code yX7_init cX7_init 1 none, Cond.methodLink RX7 1 objectInit, Cond.instanceMethod objectInit, Cond.code objectInit ⟨#[0xb1]⟩ 1 none, Cond.arrayClass .int, Cond.fieldLink RX7 7 "OnlyUnseenModel" "shelf" "[I", Cond.fieldLink RX7 13 "OnlyUnseenModel" "rowSort" "[I", Cond.fieldLink RX7 16 "OnlyUnseenModel" "rowSize" "[I", Cond.classLink RX7 19 "[[J", Cond.arrayClass .long, Cond.fieldLink RX7 21 "OnlyUnseenModel" "rows" "[[J", Cond.fieldLink RX7 24 "OnlyUnseenModel" "moved" "[J"]
def wsX7_isStopped_r2 : List Cond := [Cond.fieldLink RX7 28 "OnlyUnseenModel" "shown" "[I", Cond.fieldLink RX7 31 "OnlyUnseenModel" "tape" "[I", Cond.fieldLink RX7 34 "OnlyUnseenModel" "refused" "[I", Cond.fieldLink RX7 37 "OnlyUnseenModel" "sights" "I", Cond.fieldLink RX7 44 "OnlyUnseenModel" "by" "[I", Cond.fieldLink RX7 47 "OnlyUnseenModel" "seen" "[I", Cond.fieldLink RX7 50 "OnlyUnseenModel" "half" "[I", Cond.fieldLink RX7 53 "OnlyUnseenModel" "heard" "[I", Cond.fieldLink RX7 56 "OnlyUnseenModel" "hears" "[I", Cond.fieldLink RX7 59 "OnlyUnseenModel" "asked" "[I", Cond.fieldLink RX7 62 "OnlyUnseenModel" "seed" "I", Cond.fieldLink RX7 65 "OnlyUnseenModel" "told" "[I", Cond.fieldLink RX7 68 "OnlyUnseenModel" "said" "[I", Cond.fieldLink RX7 71 "OnlyUnseenModel" "row" "[I", Cond.fieldLink RX7 74 "OnlyUnseenModel" "bestRow" "[I", Cond.methodLink RX7 243 yX7_takeFrom, Cond.instanceMethod yX7_takeFrom, Cond.selects RX7 yX7_takeFrom yX7_takeFrom, Cond.code yX7_takeFrom cX7_takeFrom 2 none, Cond.fieldLink RX7 326 "OnlyUnseenModel" "evenings" "I", Cond.methodLink RX7 334 yX7_over, Cond.static yX7_over, Cond.code yX7_over cX7_over 3 none, Cond.methodLink RX7 84 yX7_has]
def wsX7_isStopped_r3 : List Cond := [Cond.static yX7_has, Cond.code yX7_has cX7_has 2 (some .boolean), Cond.methodLink RX7 143 yX7_sees, Cond.instanceMethod yX7_sees, Cond.selects RX7 yX7_sees yX7_sees, Cond.code yX7_sees cX7_sees 4 none, Cond.methodLink RX7 250 yX7_mouthsOf, Cond.instanceMethod yX7_mouthsOf, Cond.selects RX7 yX7_mouthsOf yX7_mouthsOf, Cond.code yX7_mouthsOf cX7_mouthsOf 4 (some .int), Cond.methodLink RX7 114 yX7_mayOf, Cond.instanceMethod yX7_mayOf, Cond.selects RX7 yX7_mayOf yX7_mayOf, Cond.code yX7_mayOf cX7_mayOf 6 (some .int), Cond.methodLink RX7 124 yX7_barredBy, Cond.instanceMethod yX7_barredBy, Cond.selects RX7 yX7_barredBy yX7_barredBy, Cond.code yX7_barredBy cX7_barredBy 2 (some .int), Cond.methodLink RX7 120 yX7_allSights, Cond.instanceMethod yX7_allSights, Cond.selects RX7 yX7_allSights yX7_allSights, Cond.code yX7_allSights cX7_allSights 1 (some .int), Cond.methodLink RX7 262 yX7_goesRound, Cond.instanceMethod yX7_goesRound]
def wsX7_isStopped_r4 : List Cond := [Cond.selects RX7 yX7_goesRound yX7_goesRound, Cond.code yX7_goesRound cX7_goesRound 6 (some .boolean), Cond.methodLink RX7 253 yX7_isSaid, Cond.instanceMethod yX7_isSaid, Cond.selects RX7 yX7_isSaid yX7_isSaid, Cond.code yX7_isSaid cX7_isSaid 5 (some .int), Cond.methodLink RX7 117 yX7_bits, Cond.static yX7_bits, Cond.code yX7_bits cX7_bits 3 (some .int)]
def wsX7_isStopped : List Cond := .code yX7_isStopped cX7_isStopped 6 (some .boolean) :: ((wsX7_isStopped_r1 ++ (wsX7_isStopped_r2 ++ (wsX7_isStopped_r3 ++ wsX7_isStopped_r4))) ++ wsX70)
def wsX7_stop_r1 : List Cond := [Cond.fieldLink RX7 77 "OnlyUnseenModel" "people" "I", Cond.methodLink RX7 138 yX7_isSight, Cond.instanceMethod yX7_isSight, Cond.selects RX7 yX7_isSight yX7_isSight, Cond.initialized RX7, Cond.code yX7_isSight cX7_isSight 2 (some .boolean), Cond.fieldLink RX7 37 "OnlyUnseenModel" "sights" "I", Cond.methodLink RX7 80 yX7_in, Cond.static yX7_in, Cond.code yX7_in cX7_in 6 (some .boolean), Cond.methodLink RX7 265 yX7_isRounds, Cond.static yX7_isRounds, Cond.code yX7_isRounds cX7_isRounds 1 (some .boolean), Cond.constantLong RX7 260 (20), Cond.methodLink RX7 94 yX7_refuse, Cond.instanceMethod yX7_refuse, Cond.selects RX7 yX7_refuse yX7_refuse, Cond.code yX7_refuse cX7_refuse 2 (some .int), Cond.fieldLink RX7 34 "OnlyUnseenModel" "refused" "[I", Cond.methodLink RX7 117 yX7_bits, Cond.static yX7_bits, Cond.code yX7_bits cX7_bits 3 (some .int), Cond.methodLink RX7 272 yX7_isStopped, Cond.instanceMethod yX7_isStopped]
def wsX7_stop_r2 : List Cond := [Cond.selects RX7 yX7_isStopped yX7_isStopped, Cond.code yX7_isStopped cX7_isStopped 6 (some .boolean), Cond.fieldLink RX7 41 "OnlyUnseenModel" "kind" "[I", Cond.methodLink RX7 236 yX7_fresh, Cond.instanceMethod yX7_fresh, Cond.selects RX7 yX7_fresh yX7_fresh, Cond.code yX7_fresh cX7_fresh 1 (some (.object "OnlyUnseenModel")), Cond.fieldLink RX7 329 "OnlyUnseenModel" "tried" "LOnlyUnseenModel;", Cond.classLink RX7 8 RX7, Cond.instantiable RX7 33, Cond.methodLink RX7 333 yX7_init, Cond.instanceMethod yX7_init, Cond.code yX7_init cX7_init 1 none, Cond.methodLink RX7 1 objectInit, Cond.instanceMethod objectInit, Cond.code objectInit ⟨#[0xb1]⟩ 1 none, Cond.arrayClass .int, Cond.fieldLink RX7 7 "OnlyUnseenModel" "shelf" "[I", Cond.fieldLink RX7 13 "OnlyUnseenModel" "rowSort" "[I", Cond.fieldLink RX7 16 "OnlyUnseenModel" "rowSize" "[I", Cond.classLink RX7 19 "[[J", Cond.arrayClass .long, Cond.fieldLink RX7 21 "OnlyUnseenModel" "rows" "[[J", Cond.fieldLink RX7 24 "OnlyUnseenModel" "moved" "[J"]
def wsX7_stop_r3 : List Cond := [Cond.fieldLink RX7 28 "OnlyUnseenModel" "shown" "[I", Cond.fieldLink RX7 31 "OnlyUnseenModel" "tape" "[I", Cond.fieldLink RX7 44 "OnlyUnseenModel" "by" "[I", Cond.fieldLink RX7 47 "OnlyUnseenModel" "seen" "[I", Cond.fieldLink RX7 50 "OnlyUnseenModel" "half" "[I", Cond.fieldLink RX7 53 "OnlyUnseenModel" "heard" "[I", Cond.fieldLink RX7 56 "OnlyUnseenModel" "hears" "[I", Cond.fieldLink RX7 59 "OnlyUnseenModel" "asked" "[I", Cond.fieldLink RX7 62 "OnlyUnseenModel" "seed" "I", Cond.fieldLink RX7 65 "OnlyUnseenModel" "told" "[I", Cond.fieldLink RX7 68 "OnlyUnseenModel" "said" "[I", Cond.fieldLink RX7 71 "OnlyUnseenModel" "row" "[I", Cond.fieldLink RX7 74 "OnlyUnseenModel" "bestRow" "[I", Cond.methodLink RX7 243 yX7_takeFrom, Cond.instanceMethod yX7_takeFrom, Cond.selects RX7 yX7_takeFrom yX7_takeFrom, Cond.code yX7_takeFrom cX7_takeFrom 2 none, Cond.fieldLink RX7 326 "OnlyUnseenModel" "evenings" "I", Cond.methodLink RX7 334 yX7_over, Cond.static yX7_over, Cond.code yX7_over cX7_over 3 none, Cond.methodLink RX7 84 yX7_has, Cond.static yX7_has, Cond.code yX7_has cX7_has 2 (some .boolean)]
def wsX7_stop_r4 : List Cond := [Cond.methodLink RX7 143 yX7_sees, Cond.instanceMethod yX7_sees, Cond.selects RX7 yX7_sees yX7_sees, Cond.code yX7_sees cX7_sees 4 none, Cond.methodLink RX7 250 yX7_mouthsOf, Cond.instanceMethod yX7_mouthsOf, Cond.selects RX7 yX7_mouthsOf yX7_mouthsOf, Cond.code yX7_mouthsOf cX7_mouthsOf 4 (some .int), Cond.methodLink RX7 114 yX7_mayOf, Cond.instanceMethod yX7_mayOf, Cond.selects RX7 yX7_mayOf yX7_mayOf, Cond.code yX7_mayOf cX7_mayOf 6 (some .int), Cond.methodLink RX7 124 yX7_barredBy, Cond.instanceMethod yX7_barredBy, Cond.selects RX7 yX7_barredBy yX7_barredBy, Cond.code yX7_barredBy cX7_barredBy 2 (some .int), Cond.methodLink RX7 120 yX7_allSights, Cond.instanceMethod yX7_allSights, Cond.selects RX7 yX7_allSights yX7_allSights, Cond.code yX7_allSights cX7_allSights 1 (some .int), Cond.methodLink RX7 262 yX7_goesRound, Cond.instanceMethod yX7_goesRound, Cond.selects RX7 yX7_goesRound yX7_goesRound, Cond.code yX7_goesRound cX7_goesRound 6 (some .boolean)]
def wsX7_stop_r5 : List Cond := [Cond.methodLink RX7 253 yX7_isSaid, Cond.instanceMethod yX7_isSaid, Cond.selects RX7 yX7_isSaid yX7_isSaid, Cond.code yX7_isSaid cX7_isSaid 5 (some .int)]
def wsX7_stop : List Cond := .code yX7_stop cX7_stop 5 (some .int) :: ((wsX7_stop_r1 ++ (wsX7_stop_r2 ++ (wsX7_stop_r3 ++ (wsX7_stop_r4 ++ wsX7_stop_r5)))) ++ wsX70)
def wsX7_first_r1 : List Cond := [Cond.fieldLink RX7 77 "OnlyUnseenModel" "people" "I", Cond.fieldLink RX7 53 "OnlyUnseenModel" "heard" "[I", Cond.methodLink RX7 138 yX7_isSight, Cond.instanceMethod yX7_isSight, Cond.selects RX7 yX7_isSight yX7_isSight, Cond.initialized RX7, Cond.code yX7_isSight cX7_isSight 2 (some .boolean), Cond.fieldLink RX7 37 "OnlyUnseenModel" "sights" "I", Cond.methodLink RX7 80 yX7_in, Cond.static yX7_in, Cond.code yX7_in cX7_in 6 (some .boolean), Cond.methodLink RX7 265 yX7_isRounds, Cond.static yX7_isRounds, Cond.code yX7_isRounds cX7_isRounds 1 (some .boolean), Cond.constantLong RX7 260 (20), Cond.methodLink RX7 94 yX7_refuse, Cond.instanceMethod yX7_refuse, Cond.selects RX7 yX7_refuse yX7_refuse, Cond.code yX7_refuse cX7_refuse 2 (some .int), Cond.fieldLink RX7 34 "OnlyUnseenModel" "refused" "[I", Cond.methodLink RX7 236 yX7_fresh, Cond.instanceMethod yX7_fresh, Cond.selects RX7 yX7_fresh yX7_fresh, Cond.code yX7_fresh cX7_fresh 1 (some (.object "OnlyUnseenModel"))]
def wsX7_first_r2 : List Cond := [Cond.fieldLink RX7 329 "OnlyUnseenModel" "tried" "LOnlyUnseenModel;", Cond.classLink RX7 8 RX7, Cond.instantiable RX7 33, Cond.methodLink RX7 333 yX7_init, Cond.instanceMethod yX7_init, Cond.code yX7_init cX7_init 1 none, Cond.methodLink RX7 1 objectInit, Cond.instanceMethod objectInit, Cond.code objectInit ⟨#[0xb1]⟩ 1 none, Cond.arrayClass .int, Cond.fieldLink RX7 7 "OnlyUnseenModel" "shelf" "[I", Cond.fieldLink RX7 13 "OnlyUnseenModel" "rowSort" "[I", Cond.fieldLink RX7 16 "OnlyUnseenModel" "rowSize" "[I", Cond.classLink RX7 19 "[[J", Cond.arrayClass .long, Cond.fieldLink RX7 21 "OnlyUnseenModel" "rows" "[[J", Cond.fieldLink RX7 24 "OnlyUnseenModel" "moved" "[J", Cond.fieldLink RX7 28 "OnlyUnseenModel" "shown" "[I", Cond.fieldLink RX7 31 "OnlyUnseenModel" "tape" "[I", Cond.fieldLink RX7 41 "OnlyUnseenModel" "kind" "[I", Cond.fieldLink RX7 44 "OnlyUnseenModel" "by" "[I", Cond.fieldLink RX7 47 "OnlyUnseenModel" "seen" "[I", Cond.fieldLink RX7 50 "OnlyUnseenModel" "half" "[I", Cond.fieldLink RX7 56 "OnlyUnseenModel" "hears" "[I"]
def wsX7_first_r3 : List Cond := [Cond.fieldLink RX7 59 "OnlyUnseenModel" "asked" "[I", Cond.fieldLink RX7 62 "OnlyUnseenModel" "seed" "I", Cond.fieldLink RX7 65 "OnlyUnseenModel" "told" "[I", Cond.fieldLink RX7 68 "OnlyUnseenModel" "said" "[I", Cond.fieldLink RX7 71 "OnlyUnseenModel" "row" "[I", Cond.fieldLink RX7 74 "OnlyUnseenModel" "bestRow" "[I", Cond.methodLink RX7 243 yX7_takeFrom, Cond.instanceMethod yX7_takeFrom, Cond.selects RX7 yX7_takeFrom yX7_takeFrom, Cond.code yX7_takeFrom cX7_takeFrom 2 none, Cond.fieldLink RX7 326 "OnlyUnseenModel" "evenings" "I", Cond.methodLink RX7 334 yX7_over, Cond.static yX7_over, Cond.code yX7_over cX7_over 3 none, Cond.methodLink RX7 262 yX7_goesRound, Cond.instanceMethod yX7_goesRound, Cond.selects RX7 yX7_goesRound yX7_goesRound, Cond.code yX7_goesRound cX7_goesRound 6 (some .boolean), Cond.methodLink RX7 114 yX7_mayOf, Cond.instanceMethod yX7_mayOf, Cond.selects RX7 yX7_mayOf yX7_mayOf, Cond.code yX7_mayOf cX7_mayOf 6 (some .int), Cond.methodLink RX7 124 yX7_barredBy, Cond.instanceMethod yX7_barredBy]
def wsX7_first_r4 : List Cond := [Cond.selects RX7 yX7_barredBy yX7_barredBy, Cond.code yX7_barredBy cX7_barredBy 2 (some .int), Cond.methodLink RX7 120 yX7_allSights, Cond.instanceMethod yX7_allSights, Cond.selects RX7 yX7_allSights yX7_allSights, Cond.code yX7_allSights cX7_allSights 1 (some .int), Cond.methodLink RX7 84 yX7_has, Cond.static yX7_has, Cond.code yX7_has cX7_has 2 (some .boolean), Cond.methodLink RX7 253 yX7_isSaid, Cond.instanceMethod yX7_isSaid, Cond.selects RX7 yX7_isSaid yX7_isSaid, Cond.code yX7_isSaid cX7_isSaid 5 (some .int), Cond.methodLink RX7 117 yX7_bits, Cond.static yX7_bits, Cond.code yX7_bits cX7_bits 3 (some .int), Cond.methodLink RX7 247 yX7_knows, Cond.instanceMethod yX7_knows, Cond.selects RX7 yX7_knows yX7_knows, Cond.code yX7_knows cX7_knows 2 (some .int)]
def wsX7_first : List Cond := .code yX7_first cX7_first 9 (some .int) :: ((wsX7_first_r1 ++ (wsX7_first_r2 ++ (wsX7_first_r3 ++ wsX7_first_r4))) ++ wsX70)
def wsX7_seekOrder_r1 : List Cond := [Cond.fieldLink RX7 77 "OnlyUnseenModel" "people" "I", Cond.fieldLink RX7 71 "OnlyUnseenModel" "row" "[I", Cond.fieldLink RX7 275 "OnlyUnseenModel" "bestKnown" "I", Cond.fieldLink RX7 74 "OnlyUnseenModel" "bestRow" "[I", Cond.methodLink RX7 236 yX7_fresh, Cond.instanceMethod yX7_fresh, Cond.selects RX7 yX7_fresh yX7_fresh, Cond.initialized RX7, Cond.code yX7_fresh cX7_fresh 1 (some (.object "OnlyUnseenModel")), Cond.fieldLink RX7 329 "OnlyUnseenModel" "tried" "LOnlyUnseenModel;", Cond.classLink RX7 8 RX7, Cond.instantiable RX7 33, Cond.methodLink RX7 333 yX7_init, Cond.instanceMethod yX7_init, Cond.code yX7_init cX7_init 1 none, Cond.methodLink RX7 1 objectInit, Cond.instanceMethod objectInit, Cond.code objectInit ⟨#[0xb1]⟩ 1 none, Cond.arrayClass .int, Cond.fieldLink RX7 7 "OnlyUnseenModel" "shelf" "[I", Cond.fieldLink RX7 13 "OnlyUnseenModel" "rowSort" "[I", Cond.fieldLink RX7 16 "OnlyUnseenModel" "rowSize" "[I", Cond.classLink RX7 19 "[[J", Cond.arrayClass .long]
def wsX7_seekOrder_r2 : List Cond := [Cond.fieldLink RX7 21 "OnlyUnseenModel" "rows" "[[J", Cond.fieldLink RX7 24 "OnlyUnseenModel" "moved" "[J", Cond.fieldLink RX7 28 "OnlyUnseenModel" "shown" "[I", Cond.fieldLink RX7 31 "OnlyUnseenModel" "tape" "[I", Cond.fieldLink RX7 34 "OnlyUnseenModel" "refused" "[I", Cond.fieldLink RX7 37 "OnlyUnseenModel" "sights" "I", Cond.fieldLink RX7 41 "OnlyUnseenModel" "kind" "[I", Cond.fieldLink RX7 44 "OnlyUnseenModel" "by" "[I", Cond.fieldLink RX7 47 "OnlyUnseenModel" "seen" "[I", Cond.fieldLink RX7 50 "OnlyUnseenModel" "half" "[I", Cond.fieldLink RX7 53 "OnlyUnseenModel" "heard" "[I", Cond.fieldLink RX7 56 "OnlyUnseenModel" "hears" "[I", Cond.fieldLink RX7 59 "OnlyUnseenModel" "asked" "[I", Cond.fieldLink RX7 62 "OnlyUnseenModel" "seed" "I", Cond.fieldLink RX7 65 "OnlyUnseenModel" "told" "[I", Cond.fieldLink RX7 68 "OnlyUnseenModel" "said" "[I", Cond.methodLink RX7 243 yX7_takeFrom, Cond.instanceMethod yX7_takeFrom, Cond.selects RX7 yX7_takeFrom yX7_takeFrom, Cond.code yX7_takeFrom cX7_takeFrom 2 none, Cond.fieldLink RX7 326 "OnlyUnseenModel" "evenings" "I", Cond.methodLink RX7 334 yX7_over, Cond.static yX7_over, Cond.code yX7_over cX7_over 3 none]
def wsX7_seekOrder_r3 : List Cond := [Cond.methodLink RX7 114 yX7_mayOf, Cond.instanceMethod yX7_mayOf, Cond.selects RX7 yX7_mayOf yX7_mayOf, Cond.code yX7_mayOf cX7_mayOf 6 (some .int), Cond.methodLink RX7 124 yX7_barredBy, Cond.instanceMethod yX7_barredBy, Cond.selects RX7 yX7_barredBy yX7_barredBy, Cond.code yX7_barredBy cX7_barredBy 2 (some .int), Cond.methodLink RX7 120 yX7_allSights, Cond.instanceMethod yX7_allSights, Cond.selects RX7 yX7_allSights yX7_allSights, Cond.code yX7_allSights cX7_allSights 1 (some .int), Cond.methodLink RX7 84 yX7_has, Cond.static yX7_has, Cond.code yX7_has cX7_has 2 (some .boolean), Cond.methodLink RX7 253 yX7_isSaid, Cond.instanceMethod yX7_isSaid, Cond.selects RX7 yX7_isSaid yX7_isSaid, Cond.code yX7_isSaid cX7_isSaid 5 (some .int), Cond.methodLink RX7 117 yX7_bits, Cond.static yX7_bits, Cond.code yX7_bits cX7_bits 3 (some .int), Cond.methodLink RX7 257 yX7_knownNow, Cond.instanceMethod yX7_knownNow]
def wsX7_seekOrder_r4 : List Cond := [Cond.selects RX7 yX7_knownNow yX7_knownNow, Cond.code yX7_knownNow cX7_knownNow 3 (some .int), Cond.methodLink RX7 247 yX7_knows, Cond.instanceMethod yX7_knows, Cond.selects RX7 yX7_knows yX7_knows, Cond.code yX7_knows cX7_knows 2 (some .int), Cond.methodLink RX7 278 yX7_seekOrder, Cond.instanceMethod yX7_seekOrder, Cond.selects RX7 yX7_seekOrder yX7_seekOrder]
def wsX7_seekOrder : List Cond := .code yX7_seekOrder cX7_seekOrder 6 none :: ((wsX7_seekOrder_r1 ++ (wsX7_seekOrder_r2 ++ (wsX7_seekOrder_r3 ++ wsX7_seekOrder_r4))) ++ wsX70)
def wsX7_order_r1 : List Cond := [Cond.constantLong RX7 281 (-1), Cond.fieldLink RX7 77 "OnlyUnseenModel" "people" "I", Cond.fieldLink RX7 275 "OnlyUnseenModel" "bestKnown" "I", Cond.fieldLink RX7 74 "OnlyUnseenModel" "bestRow" "[I", Cond.methodLink RX7 80 yX7_in, Cond.static yX7_in, Cond.initialized RX7, Cond.code yX7_in cX7_in 6 (some .boolean), Cond.methodLink RX7 94 yX7_refuse, Cond.instanceMethod yX7_refuse, Cond.selects RX7 yX7_refuse yX7_refuse, Cond.code yX7_refuse cX7_refuse 2 (some .int), Cond.fieldLink RX7 34 "OnlyUnseenModel" "refused" "[I", Cond.methodLink RX7 278 yX7_seekOrder, Cond.instanceMethod yX7_seekOrder, Cond.selects RX7 yX7_seekOrder yX7_seekOrder, Cond.code yX7_seekOrder cX7_seekOrder 6 none, Cond.fieldLink RX7 71 "OnlyUnseenModel" "row" "[I", Cond.methodLink RX7 236 yX7_fresh, Cond.instanceMethod yX7_fresh, Cond.selects RX7 yX7_fresh yX7_fresh, Cond.code yX7_fresh cX7_fresh 1 (some (.object "OnlyUnseenModel")), Cond.fieldLink RX7 329 "OnlyUnseenModel" "tried" "LOnlyUnseenModel;", Cond.classLink RX7 8 RX7]
def wsX7_order_r2 : List Cond := [Cond.instantiable RX7 33, Cond.methodLink RX7 333 yX7_init, Cond.instanceMethod yX7_init, Cond.code yX7_init cX7_init 1 none, Cond.methodLink RX7 1 objectInit, Cond.instanceMethod objectInit, Cond.code objectInit ⟨#[0xb1]⟩ 1 none, Cond.arrayClass .int, Cond.fieldLink RX7 7 "OnlyUnseenModel" "shelf" "[I", Cond.fieldLink RX7 13 "OnlyUnseenModel" "rowSort" "[I", Cond.fieldLink RX7 16 "OnlyUnseenModel" "rowSize" "[I", Cond.classLink RX7 19 "[[J", Cond.arrayClass .long, Cond.fieldLink RX7 21 "OnlyUnseenModel" "rows" "[[J", Cond.fieldLink RX7 24 "OnlyUnseenModel" "moved" "[J", Cond.fieldLink RX7 28 "OnlyUnseenModel" "shown" "[I", Cond.fieldLink RX7 31 "OnlyUnseenModel" "tape" "[I", Cond.fieldLink RX7 37 "OnlyUnseenModel" "sights" "I", Cond.fieldLink RX7 41 "OnlyUnseenModel" "kind" "[I", Cond.fieldLink RX7 44 "OnlyUnseenModel" "by" "[I", Cond.fieldLink RX7 47 "OnlyUnseenModel" "seen" "[I", Cond.fieldLink RX7 50 "OnlyUnseenModel" "half" "[I", Cond.fieldLink RX7 53 "OnlyUnseenModel" "heard" "[I", Cond.fieldLink RX7 56 "OnlyUnseenModel" "hears" "[I"]
def wsX7_order_r3 : List Cond := [Cond.fieldLink RX7 59 "OnlyUnseenModel" "asked" "[I", Cond.fieldLink RX7 62 "OnlyUnseenModel" "seed" "I", Cond.fieldLink RX7 65 "OnlyUnseenModel" "told" "[I", Cond.fieldLink RX7 68 "OnlyUnseenModel" "said" "[I", Cond.methodLink RX7 243 yX7_takeFrom, Cond.instanceMethod yX7_takeFrom, Cond.selects RX7 yX7_takeFrom yX7_takeFrom, Cond.code yX7_takeFrom cX7_takeFrom 2 none, Cond.fieldLink RX7 326 "OnlyUnseenModel" "evenings" "I", Cond.methodLink RX7 334 yX7_over, Cond.static yX7_over, Cond.code yX7_over cX7_over 3 none, Cond.methodLink RX7 114 yX7_mayOf, Cond.instanceMethod yX7_mayOf, Cond.selects RX7 yX7_mayOf yX7_mayOf, Cond.code yX7_mayOf cX7_mayOf 6 (some .int), Cond.methodLink RX7 124 yX7_barredBy, Cond.instanceMethod yX7_barredBy, Cond.selects RX7 yX7_barredBy yX7_barredBy, Cond.code yX7_barredBy cX7_barredBy 2 (some .int), Cond.methodLink RX7 120 yX7_allSights, Cond.instanceMethod yX7_allSights, Cond.selects RX7 yX7_allSights yX7_allSights, Cond.code yX7_allSights cX7_allSights 1 (some .int)]
def wsX7_order_r4 : List Cond := [Cond.methodLink RX7 84 yX7_has, Cond.static yX7_has, Cond.code yX7_has cX7_has 2 (some .boolean), Cond.methodLink RX7 253 yX7_isSaid, Cond.instanceMethod yX7_isSaid, Cond.selects RX7 yX7_isSaid yX7_isSaid, Cond.code yX7_isSaid cX7_isSaid 5 (some .int), Cond.methodLink RX7 117 yX7_bits, Cond.static yX7_bits, Cond.code yX7_bits cX7_bits 3 (some .int), Cond.methodLink RX7 257 yX7_knownNow, Cond.instanceMethod yX7_knownNow, Cond.selects RX7 yX7_knownNow yX7_knownNow, Cond.code yX7_knownNow cX7_knownNow 3 (some .int), Cond.methodLink RX7 247 yX7_knows, Cond.instanceMethod yX7_knows, Cond.selects RX7 yX7_knows yX7_knows, Cond.code yX7_knows cX7_knows 2 (some .int)]
def wsX7_order : List Cond := .code yX7_order cX7_order 2 (some .int) :: ((wsX7_order_r1 ++ (wsX7_order_r2 ++ (wsX7_order_r3 ++ wsX7_order_r4))) ++ wsX70)
def wsX7_knownTo : List Cond := .code yX7_knownTo cX7_knownTo 4 (some .int) :: ([.fieldLink RX7 77 "OnlyUnseenModel" "people" "I", .methodLink RX7 247 yX7_knows, .instanceMethod yX7_knows, .selects RX7 yX7_knows yX7_knows, .initialized RX7, .code yX7_knows cX7_knows 2 (some .int), .fieldLink RX7 47 "OnlyUnseenModel" "seen" "[I", .fieldLink RX7 50 "OnlyUnseenModel" "half" "[I", .fieldLink RX7 53 "OnlyUnseenModel" "heard" "[I", .methodLink RX7 117 yX7_bits, .static yX7_bits, .code yX7_bits cX7_bits 3 (some .int)] ++ wsX70)
def wsX7_worth_r1 : List Cond := [Cond.fieldLink RX7 56 "OnlyUnseenModel" "hears" "[I", Cond.fieldLink RX7 77 "OnlyUnseenModel" "people" "I", Cond.methodLink RX7 105 yX7_isOne, Cond.instanceMethod yX7_isOne, Cond.selects RX7 yX7_isOne yX7_isOne, Cond.initialized RX7, Cond.code yX7_isOne cX7_isOne 2 (some .boolean), Cond.methodLink RX7 80 yX7_in, Cond.static yX7_in, Cond.code yX7_in cX7_in 6 (some .boolean), Cond.methodLink RX7 265 yX7_isRounds, Cond.static yX7_isRounds, Cond.code yX7_isRounds cX7_isRounds 1 (some .boolean), Cond.constantLong RX7 260 (20), Cond.methodLink RX7 94 yX7_refuse, Cond.instanceMethod yX7_refuse, Cond.selects RX7 yX7_refuse yX7_refuse, Cond.code yX7_refuse cX7_refuse 2 (some .int), Cond.fieldLink RX7 34 "OnlyUnseenModel" "refused" "[I", Cond.methodLink RX7 268 yX7_after, Cond.instanceMethod yX7_after, Cond.selects RX7 yX7_after yX7_after, Cond.code yX7_after cX7_after 4 (some (.object "OnlyUnseenModel")), Cond.methodLink RX7 236 yX7_fresh]
def wsX7_worth_r2 : List Cond := [Cond.instanceMethod yX7_fresh, Cond.selects RX7 yX7_fresh yX7_fresh, Cond.code yX7_fresh cX7_fresh 1 (some (.object "OnlyUnseenModel")), Cond.fieldLink RX7 329 "OnlyUnseenModel" "tried" "LOnlyUnseenModel;", Cond.classLink RX7 8 RX7, Cond.instantiable RX7 33, Cond.methodLink RX7 333 yX7_init, Cond.instanceMethod yX7_init, Cond.code yX7_init cX7_init 1 none, Cond.methodLink RX7 1 objectInit, Cond.instanceMethod objectInit, Cond.code objectInit ⟨#[0xb1]⟩ 1 none, Cond.arrayClass .int, Cond.fieldLink RX7 7 "OnlyUnseenModel" "shelf" "[I", Cond.fieldLink RX7 13 "OnlyUnseenModel" "rowSort" "[I", Cond.fieldLink RX7 16 "OnlyUnseenModel" "rowSize" "[I", Cond.classLink RX7 19 "[[J", Cond.arrayClass .long, Cond.fieldLink RX7 21 "OnlyUnseenModel" "rows" "[[J", Cond.fieldLink RX7 24 "OnlyUnseenModel" "moved" "[J", Cond.fieldLink RX7 28 "OnlyUnseenModel" "shown" "[I", Cond.fieldLink RX7 31 "OnlyUnseenModel" "tape" "[I", Cond.fieldLink RX7 37 "OnlyUnseenModel" "sights" "I", Cond.fieldLink RX7 41 "OnlyUnseenModel" "kind" "[I"]
def wsX7_worth_r3 : List Cond := [Cond.fieldLink RX7 44 "OnlyUnseenModel" "by" "[I", Cond.fieldLink RX7 47 "OnlyUnseenModel" "seen" "[I", Cond.fieldLink RX7 50 "OnlyUnseenModel" "half" "[I", Cond.fieldLink RX7 53 "OnlyUnseenModel" "heard" "[I", Cond.fieldLink RX7 59 "OnlyUnseenModel" "asked" "[I", Cond.fieldLink RX7 62 "OnlyUnseenModel" "seed" "I", Cond.fieldLink RX7 65 "OnlyUnseenModel" "told" "[I", Cond.fieldLink RX7 68 "OnlyUnseenModel" "said" "[I", Cond.fieldLink RX7 71 "OnlyUnseenModel" "row" "[I", Cond.fieldLink RX7 74 "OnlyUnseenModel" "bestRow" "[I", Cond.methodLink RX7 243 yX7_takeFrom, Cond.instanceMethod yX7_takeFrom, Cond.selects RX7 yX7_takeFrom yX7_takeFrom, Cond.code yX7_takeFrom cX7_takeFrom 2 none, Cond.fieldLink RX7 326 "OnlyUnseenModel" "evenings" "I", Cond.methodLink RX7 334 yX7_over, Cond.static yX7_over, Cond.code yX7_over cX7_over 3 none, Cond.methodLink RX7 262 yX7_goesRound, Cond.instanceMethod yX7_goesRound, Cond.selects RX7 yX7_goesRound yX7_goesRound, Cond.code yX7_goesRound cX7_goesRound 6 (some .boolean), Cond.methodLink RX7 114 yX7_mayOf, Cond.instanceMethod yX7_mayOf]
def wsX7_worth_r4 : List Cond := [Cond.selects RX7 yX7_mayOf yX7_mayOf, Cond.code yX7_mayOf cX7_mayOf 6 (some .int), Cond.methodLink RX7 124 yX7_barredBy, Cond.instanceMethod yX7_barredBy, Cond.selects RX7 yX7_barredBy yX7_barredBy, Cond.code yX7_barredBy cX7_barredBy 2 (some .int), Cond.methodLink RX7 120 yX7_allSights, Cond.instanceMethod yX7_allSights, Cond.selects RX7 yX7_allSights yX7_allSights, Cond.code yX7_allSights cX7_allSights 1 (some .int), Cond.methodLink RX7 84 yX7_has, Cond.static yX7_has, Cond.code yX7_has cX7_has 2 (some .boolean), Cond.methodLink RX7 253 yX7_isSaid, Cond.instanceMethod yX7_isSaid, Cond.selects RX7 yX7_isSaid yX7_isSaid, Cond.code yX7_isSaid cX7_isSaid 5 (some .int), Cond.methodLink RX7 117 yX7_bits, Cond.static yX7_bits, Cond.code yX7_bits cX7_bits 3 (some .int), Cond.methodLink RX7 283 yX7_knownTo, Cond.instanceMethod yX7_knownTo, Cond.selects RX7 yX7_knownTo yX7_knownTo, Cond.code yX7_knownTo cX7_knownTo 4 (some .int)]
def wsX7_worth_r5 : List Cond := [Cond.methodLink RX7 247 yX7_knows, Cond.instanceMethod yX7_knows, Cond.selects RX7 yX7_knows yX7_knows, Cond.code yX7_knows cX7_knows 2 (some .int)]
def wsX7_worth : List Cond := .code yX7_worth cX7_worth 6 (some .int) :: ((wsX7_worth_r1 ++ (wsX7_worth_r2 ++ (wsX7_worth_r3 ++ (wsX7_worth_r4 ++ wsX7_worth_r5)))) ++ wsX70)
def wsX7_barredOf : List Cond := .code yX7_barredOf cX7_barredOf 4 (some .int) :: ([.fieldLink RX7 77 "OnlyUnseenModel" "people" "I", .methodLink RX7 124 yX7_barredBy, .instanceMethod yX7_barredBy, .selects RX7 yX7_barredBy yX7_barredBy, .initialized RX7, .code yX7_barredBy cX7_barredBy 2 (some .int), .fieldLink RX7 59 "OnlyUnseenModel" "asked" "[I", .fieldLink RX7 47 "OnlyUnseenModel" "seen" "[I", .fieldLink RX7 50 "OnlyUnseenModel" "half" "[I", .methodLink RX7 84 yX7_has, .static yX7_has, .code yX7_has cX7_has 2 (some .boolean)] ++ wsX70)
def wsX7_chain_r1 : List Cond := [Cond.fieldLink RX7 77 "OnlyUnseenModel" "people" "I", Cond.fieldLink RX7 56 "OnlyUnseenModel" "hears" "[I", Cond.methodLink RX7 105 yX7_isOne, Cond.instanceMethod yX7_isOne, Cond.selects RX7 yX7_isOne yX7_isOne, Cond.initialized RX7, Cond.code yX7_isOne cX7_isOne 2 (some .boolean), Cond.methodLink RX7 80 yX7_in, Cond.static yX7_in, Cond.code yX7_in cX7_in 6 (some .boolean), Cond.methodLink RX7 138 yX7_isSight, Cond.instanceMethod yX7_isSight, Cond.selects RX7 yX7_isSight yX7_isSight, Cond.code yX7_isSight cX7_isSight 2 (some .boolean), Cond.fieldLink RX7 37 "OnlyUnseenModel" "sights" "I", Cond.methodLink RX7 94 yX7_refuse, Cond.instanceMethod yX7_refuse, Cond.selects RX7 yX7_refuse yX7_refuse, Cond.code yX7_refuse cX7_refuse 2 (some .int), Cond.fieldLink RX7 34 "OnlyUnseenModel" "refused" "[I", Cond.methodLink RX7 84 yX7_has, Cond.static yX7_has, Cond.code yX7_has cX7_has 2 (some .boolean), Cond.methodLink RX7 286 yX7_barredOf]
def wsX7_chain_r2 : List Cond := [Cond.instanceMethod yX7_barredOf, Cond.selects RX7 yX7_barredOf yX7_barredOf, Cond.code yX7_barredOf cX7_barredOf 4 (some .int), Cond.methodLink RX7 124 yX7_barredBy, Cond.instanceMethod yX7_barredBy, Cond.selects RX7 yX7_barredBy yX7_barredBy, Cond.code yX7_barredBy cX7_barredBy 2 (some .int), Cond.fieldLink RX7 59 "OnlyUnseenModel" "asked" "[I", Cond.fieldLink RX7 47 "OnlyUnseenModel" "seen" "[I", Cond.fieldLink RX7 50 "OnlyUnseenModel" "half" "[I"]
def wsX7_chain : List Cond := .code yX7_chain cX7_chain 9 (some .int) :: ((wsX7_chain_r1 ++ wsX7_chain_r2) ++ wsX70)
def wsX7_blind_r1 : List Cond := [Cond.constant RX7 289 (-1000000), Cond.fieldLink RX7 41 "OnlyUnseenModel" "kind" "[I", Cond.fieldLink RX7 53 "OnlyUnseenModel" "heard" "[I", Cond.fieldLink RX7 47 "OnlyUnseenModel" "seen" "[I", Cond.fieldLink RX7 50 "OnlyUnseenModel" "half" "[I", Cond.methodLink RX7 105 yX7_isOne, Cond.instanceMethod yX7_isOne, Cond.selects RX7 yX7_isOne yX7_isOne, Cond.initialized RX7, Cond.code yX7_isOne cX7_isOne 2 (some .boolean), Cond.fieldLink RX7 77 "OnlyUnseenModel" "people" "I", Cond.methodLink RX7 80 yX7_in, Cond.static yX7_in, Cond.code yX7_in cX7_in 6 (some .boolean), Cond.methodLink RX7 265 yX7_isRounds, Cond.static yX7_isRounds, Cond.code yX7_isRounds cX7_isRounds 1 (some .boolean), Cond.constantLong RX7 260 (20), Cond.methodLink RX7 94 yX7_refuse, Cond.instanceMethod yX7_refuse, Cond.selects RX7 yX7_refuse yX7_refuse, Cond.code yX7_refuse cX7_refuse 2 (some .int), Cond.fieldLink RX7 34 "OnlyUnseenModel" "refused" "[I", Cond.methodLink RX7 268 yX7_after]
def wsX7_blind_r2 : List Cond := [Cond.instanceMethod yX7_after, Cond.selects RX7 yX7_after yX7_after, Cond.code yX7_after cX7_after 4 (some (.object "OnlyUnseenModel")), Cond.methodLink RX7 236 yX7_fresh, Cond.instanceMethod yX7_fresh, Cond.selects RX7 yX7_fresh yX7_fresh, Cond.code yX7_fresh cX7_fresh 1 (some (.object "OnlyUnseenModel")), Cond.fieldLink RX7 329 "OnlyUnseenModel" "tried" "LOnlyUnseenModel;", Cond.classLink RX7 8 RX7, Cond.instantiable RX7 33, Cond.methodLink RX7 333 yX7_init, Cond.instanceMethod yX7_init, Cond.code yX7_init cX7_init 1 none, Cond.methodLink RX7 1 objectInit, Cond.instanceMethod objectInit, Cond.code objectInit ⟨#[0xb1]⟩ 1 none, Cond.arrayClass .int, Cond.fieldLink RX7 7 "OnlyUnseenModel" "shelf" "[I", Cond.fieldLink RX7 13 "OnlyUnseenModel" "rowSort" "[I", Cond.fieldLink RX7 16 "OnlyUnseenModel" "rowSize" "[I", Cond.classLink RX7 19 "[[J", Cond.arrayClass .long, Cond.fieldLink RX7 21 "OnlyUnseenModel" "rows" "[[J", Cond.fieldLink RX7 24 "OnlyUnseenModel" "moved" "[J"]
def wsX7_blind_r3 : List Cond := [Cond.fieldLink RX7 28 "OnlyUnseenModel" "shown" "[I", Cond.fieldLink RX7 31 "OnlyUnseenModel" "tape" "[I", Cond.fieldLink RX7 37 "OnlyUnseenModel" "sights" "I", Cond.fieldLink RX7 44 "OnlyUnseenModel" "by" "[I", Cond.fieldLink RX7 56 "OnlyUnseenModel" "hears" "[I", Cond.fieldLink RX7 59 "OnlyUnseenModel" "asked" "[I", Cond.fieldLink RX7 62 "OnlyUnseenModel" "seed" "I", Cond.fieldLink RX7 65 "OnlyUnseenModel" "told" "[I", Cond.fieldLink RX7 68 "OnlyUnseenModel" "said" "[I", Cond.fieldLink RX7 71 "OnlyUnseenModel" "row" "[I", Cond.fieldLink RX7 74 "OnlyUnseenModel" "bestRow" "[I", Cond.methodLink RX7 243 yX7_takeFrom, Cond.instanceMethod yX7_takeFrom, Cond.selects RX7 yX7_takeFrom yX7_takeFrom, Cond.code yX7_takeFrom cX7_takeFrom 2 none, Cond.fieldLink RX7 326 "OnlyUnseenModel" "evenings" "I", Cond.methodLink RX7 334 yX7_over, Cond.static yX7_over, Cond.code yX7_over cX7_over 3 none, Cond.methodLink RX7 262 yX7_goesRound, Cond.instanceMethod yX7_goesRound, Cond.selects RX7 yX7_goesRound yX7_goesRound, Cond.code yX7_goesRound cX7_goesRound 6 (some .boolean), Cond.methodLink RX7 114 yX7_mayOf]
def wsX7_blind_r4 : List Cond := [Cond.instanceMethod yX7_mayOf, Cond.selects RX7 yX7_mayOf yX7_mayOf, Cond.code yX7_mayOf cX7_mayOf 6 (some .int), Cond.methodLink RX7 124 yX7_barredBy, Cond.instanceMethod yX7_barredBy, Cond.selects RX7 yX7_barredBy yX7_barredBy, Cond.code yX7_barredBy cX7_barredBy 2 (some .int), Cond.methodLink RX7 120 yX7_allSights, Cond.instanceMethod yX7_allSights, Cond.selects RX7 yX7_allSights yX7_allSights, Cond.code yX7_allSights cX7_allSights 1 (some .int), Cond.methodLink RX7 84 yX7_has, Cond.static yX7_has, Cond.code yX7_has cX7_has 2 (some .boolean), Cond.methodLink RX7 253 yX7_isSaid, Cond.instanceMethod yX7_isSaid, Cond.selects RX7 yX7_isSaid yX7_isSaid, Cond.code yX7_isSaid cX7_isSaid 5 (some .int), Cond.methodLink RX7 117 yX7_bits, Cond.static yX7_bits, Cond.code yX7_bits cX7_bits 3 (some .int), Cond.methodLink RX7 257 yX7_knownNow, Cond.instanceMethod yX7_knownNow, Cond.selects RX7 yX7_knownNow yX7_knownNow]
def wsX7_blind_r5 : List Cond := [Cond.code yX7_knownNow cX7_knownNow 3 (some .int), Cond.methodLink RX7 247 yX7_knows, Cond.instanceMethod yX7_knows, Cond.selects RX7 yX7_knows yX7_knows, Cond.code yX7_knows cX7_knows 2 (some .int)]
def wsX7_blind : List Cond := .code yX7_blind cX7_blind 6 (some .int) :: ((wsX7_blind_r1 ++ (wsX7_blind_r2 ++ (wsX7_blind_r3 ++ (wsX7_blind_r4 ++ wsX7_blind_r5)))) ++ wsX70)
def wsX7_knownBehind_r1 : List Cond := [Cond.fieldLink RX7 59 "OnlyUnseenModel" "asked" "[I", Cond.methodLink RX7 236 yX7_fresh, Cond.instanceMethod yX7_fresh, Cond.selects RX7 yX7_fresh yX7_fresh, Cond.initialized RX7, Cond.code yX7_fresh cX7_fresh 1 (some (.object "OnlyUnseenModel")), Cond.fieldLink RX7 329 "OnlyUnseenModel" "tried" "LOnlyUnseenModel;", Cond.classLink RX7 8 RX7, Cond.instantiable RX7 33, Cond.methodLink RX7 333 yX7_init, Cond.instanceMethod yX7_init, Cond.code yX7_init cX7_init 1 none, Cond.methodLink RX7 1 objectInit, Cond.instanceMethod objectInit, Cond.code objectInit ⟨#[0xb1]⟩ 1 none, Cond.arrayClass .int, Cond.fieldLink RX7 7 "OnlyUnseenModel" "shelf" "[I", Cond.fieldLink RX7 13 "OnlyUnseenModel" "rowSort" "[I", Cond.fieldLink RX7 16 "OnlyUnseenModel" "rowSize" "[I", Cond.classLink RX7 19 "[[J", Cond.arrayClass .long, Cond.fieldLink RX7 21 "OnlyUnseenModel" "rows" "[[J", Cond.fieldLink RX7 24 "OnlyUnseenModel" "moved" "[J", Cond.fieldLink RX7 28 "OnlyUnseenModel" "shown" "[I"]
def wsX7_knownBehind_r2 : List Cond := [Cond.fieldLink RX7 31 "OnlyUnseenModel" "tape" "[I", Cond.fieldLink RX7 34 "OnlyUnseenModel" "refused" "[I", Cond.fieldLink RX7 37 "OnlyUnseenModel" "sights" "I", Cond.fieldLink RX7 41 "OnlyUnseenModel" "kind" "[I", Cond.fieldLink RX7 44 "OnlyUnseenModel" "by" "[I", Cond.fieldLink RX7 47 "OnlyUnseenModel" "seen" "[I", Cond.fieldLink RX7 50 "OnlyUnseenModel" "half" "[I", Cond.fieldLink RX7 53 "OnlyUnseenModel" "heard" "[I", Cond.fieldLink RX7 56 "OnlyUnseenModel" "hears" "[I", Cond.fieldLink RX7 62 "OnlyUnseenModel" "seed" "I", Cond.fieldLink RX7 65 "OnlyUnseenModel" "told" "[I", Cond.fieldLink RX7 68 "OnlyUnseenModel" "said" "[I", Cond.fieldLink RX7 71 "OnlyUnseenModel" "row" "[I", Cond.fieldLink RX7 74 "OnlyUnseenModel" "bestRow" "[I", Cond.methodLink RX7 243 yX7_takeFrom, Cond.instanceMethod yX7_takeFrom, Cond.selects RX7 yX7_takeFrom yX7_takeFrom, Cond.code yX7_takeFrom cX7_takeFrom 2 none, Cond.fieldLink RX7 77 "OnlyUnseenModel" "people" "I", Cond.fieldLink RX7 326 "OnlyUnseenModel" "evenings" "I", Cond.methodLink RX7 334 yX7_over, Cond.static yX7_over, Cond.code yX7_over cX7_over 3 none, Cond.methodLink RX7 262 yX7_goesRound]
def wsX7_knownBehind_r3 : List Cond := [Cond.instanceMethod yX7_goesRound, Cond.selects RX7 yX7_goesRound yX7_goesRound, Cond.code yX7_goesRound cX7_goesRound 6 (some .boolean), Cond.methodLink RX7 114 yX7_mayOf, Cond.instanceMethod yX7_mayOf, Cond.selects RX7 yX7_mayOf yX7_mayOf, Cond.code yX7_mayOf cX7_mayOf 6 (some .int), Cond.methodLink RX7 124 yX7_barredBy, Cond.instanceMethod yX7_barredBy, Cond.selects RX7 yX7_barredBy yX7_barredBy, Cond.code yX7_barredBy cX7_barredBy 2 (some .int), Cond.methodLink RX7 120 yX7_allSights, Cond.instanceMethod yX7_allSights, Cond.selects RX7 yX7_allSights yX7_allSights, Cond.code yX7_allSights cX7_allSights 1 (some .int), Cond.methodLink RX7 84 yX7_has, Cond.static yX7_has, Cond.code yX7_has cX7_has 2 (some .boolean), Cond.methodLink RX7 253 yX7_isSaid, Cond.instanceMethod yX7_isSaid, Cond.selects RX7 yX7_isSaid yX7_isSaid, Cond.code yX7_isSaid cX7_isSaid 5 (some .int), Cond.methodLink RX7 117 yX7_bits, Cond.static yX7_bits]
def wsX7_knownBehind_r4 : List Cond := [Cond.code yX7_bits cX7_bits 3 (some .int), Cond.methodLink RX7 257 yX7_knownNow, Cond.instanceMethod yX7_knownNow, Cond.selects RX7 yX7_knownNow yX7_knownNow, Cond.code yX7_knownNow cX7_knownNow 3 (some .int), Cond.methodLink RX7 247 yX7_knows, Cond.instanceMethod yX7_knows, Cond.selects RX7 yX7_knows yX7_knows, Cond.code yX7_knows cX7_knows 2 (some .int)]
def wsX7_knownBehind : List Cond := .code yX7_knownBehind cX7_knownBehind 5 (some .int) :: ((wsX7_knownBehind_r1 ++ (wsX7_knownBehind_r2 ++ (wsX7_knownBehind_r3 ++ wsX7_knownBehind_r4))) ++ wsX70)
def wsX7_dusk_r1 : List Cond := [Cond.constant RX7 289 (-1000000), Cond.methodLink RX7 265 yX7_isRounds, Cond.static yX7_isRounds, Cond.initialized RX7, Cond.code yX7_isRounds cX7_isRounds 1 (some .boolean), Cond.constantLong RX7 260 (20), Cond.methodLink RX7 80 yX7_in, Cond.static yX7_in, Cond.code yX7_in cX7_in 6 (some .boolean), Cond.methodLink RX7 290 yX7_knownBehind, Cond.instanceMethod yX7_knownBehind, Cond.selects RX7 yX7_knownBehind yX7_knownBehind, Cond.code yX7_knownBehind cX7_knownBehind 5 (some .int), Cond.fieldLink RX7 59 "OnlyUnseenModel" "asked" "[I", Cond.methodLink RX7 236 yX7_fresh, Cond.instanceMethod yX7_fresh, Cond.selects RX7 yX7_fresh yX7_fresh, Cond.code yX7_fresh cX7_fresh 1 (some (.object "OnlyUnseenModel")), Cond.fieldLink RX7 329 "OnlyUnseenModel" "tried" "LOnlyUnseenModel;", Cond.classLink RX7 8 RX7, Cond.instantiable RX7 33, Cond.methodLink RX7 333 yX7_init, Cond.instanceMethod yX7_init, Cond.code yX7_init cX7_init 1 none]
def wsX7_dusk_r2 : List Cond := [Cond.methodLink RX7 1 objectInit, Cond.instanceMethod objectInit, Cond.code objectInit ⟨#[0xb1]⟩ 1 none, Cond.arrayClass .int, Cond.fieldLink RX7 7 "OnlyUnseenModel" "shelf" "[I", Cond.fieldLink RX7 13 "OnlyUnseenModel" "rowSort" "[I", Cond.fieldLink RX7 16 "OnlyUnseenModel" "rowSize" "[I", Cond.classLink RX7 19 "[[J", Cond.arrayClass .long, Cond.fieldLink RX7 21 "OnlyUnseenModel" "rows" "[[J", Cond.fieldLink RX7 24 "OnlyUnseenModel" "moved" "[J", Cond.fieldLink RX7 28 "OnlyUnseenModel" "shown" "[I", Cond.fieldLink RX7 31 "OnlyUnseenModel" "tape" "[I", Cond.fieldLink RX7 34 "OnlyUnseenModel" "refused" "[I", Cond.fieldLink RX7 37 "OnlyUnseenModel" "sights" "I", Cond.fieldLink RX7 41 "OnlyUnseenModel" "kind" "[I", Cond.fieldLink RX7 44 "OnlyUnseenModel" "by" "[I", Cond.fieldLink RX7 47 "OnlyUnseenModel" "seen" "[I", Cond.fieldLink RX7 50 "OnlyUnseenModel" "half" "[I", Cond.fieldLink RX7 53 "OnlyUnseenModel" "heard" "[I", Cond.fieldLink RX7 56 "OnlyUnseenModel" "hears" "[I", Cond.fieldLink RX7 62 "OnlyUnseenModel" "seed" "I", Cond.fieldLink RX7 65 "OnlyUnseenModel" "told" "[I", Cond.fieldLink RX7 68 "OnlyUnseenModel" "said" "[I"]
def wsX7_dusk_r3 : List Cond := [Cond.fieldLink RX7 71 "OnlyUnseenModel" "row" "[I", Cond.fieldLink RX7 74 "OnlyUnseenModel" "bestRow" "[I", Cond.methodLink RX7 243 yX7_takeFrom, Cond.instanceMethod yX7_takeFrom, Cond.selects RX7 yX7_takeFrom yX7_takeFrom, Cond.code yX7_takeFrom cX7_takeFrom 2 none, Cond.fieldLink RX7 77 "OnlyUnseenModel" "people" "I", Cond.fieldLink RX7 326 "OnlyUnseenModel" "evenings" "I", Cond.methodLink RX7 334 yX7_over, Cond.static yX7_over, Cond.code yX7_over cX7_over 3 none, Cond.methodLink RX7 262 yX7_goesRound, Cond.instanceMethod yX7_goesRound, Cond.selects RX7 yX7_goesRound yX7_goesRound, Cond.code yX7_goesRound cX7_goesRound 6 (some .boolean), Cond.methodLink RX7 114 yX7_mayOf, Cond.instanceMethod yX7_mayOf, Cond.selects RX7 yX7_mayOf yX7_mayOf, Cond.code yX7_mayOf cX7_mayOf 6 (some .int), Cond.methodLink RX7 124 yX7_barredBy, Cond.instanceMethod yX7_barredBy, Cond.selects RX7 yX7_barredBy yX7_barredBy, Cond.code yX7_barredBy cX7_barredBy 2 (some .int), Cond.methodLink RX7 120 yX7_allSights]
def wsX7_dusk_r4 : List Cond := [Cond.instanceMethod yX7_allSights, Cond.selects RX7 yX7_allSights yX7_allSights, Cond.code yX7_allSights cX7_allSights 1 (some .int), Cond.methodLink RX7 84 yX7_has, Cond.static yX7_has, Cond.code yX7_has cX7_has 2 (some .boolean), Cond.methodLink RX7 253 yX7_isSaid, Cond.instanceMethod yX7_isSaid, Cond.selects RX7 yX7_isSaid yX7_isSaid, Cond.code yX7_isSaid cX7_isSaid 5 (some .int), Cond.methodLink RX7 117 yX7_bits, Cond.static yX7_bits, Cond.code yX7_bits cX7_bits 3 (some .int), Cond.methodLink RX7 257 yX7_knownNow, Cond.instanceMethod yX7_knownNow, Cond.selects RX7 yX7_knownNow yX7_knownNow, Cond.code yX7_knownNow cX7_knownNow 3 (some .int), Cond.methodLink RX7 247 yX7_knows, Cond.instanceMethod yX7_knows, Cond.selects RX7 yX7_knows yX7_knows, Cond.code yX7_knows cX7_knows 2 (some .int), Cond.methodLink RX7 94 yX7_refuse, Cond.instanceMethod yX7_refuse, Cond.selects RX7 yX7_refuse yX7_refuse]
def wsX7_dusk_r5 : List Cond := [Cond.code yX7_refuse cX7_refuse 2 (some .int)]
def wsX7_dusk : List Cond := .code yX7_dusk cX7_dusk 2 (some .int) :: ((wsX7_dusk_r1 ++ (wsX7_dusk_r2 ++ (wsX7_dusk_r3 ++ (wsX7_dusk_r4 ++ wsX7_dusk_r5)))) ++ wsX70)
def wsX7_pairsNow : List Cond := .code yX7_pairsNow cX7_pairsNow 4 (some .int) :: ([.fieldLink RX7 77 "OnlyUnseenModel" "people" "I", .fieldLink RX7 56 "OnlyUnseenModel" "hears" "[I", .methodLink RX7 84 yX7_has, .static yX7_has, .initialized RX7, .code yX7_has cX7_has 2 (some .boolean)] ++ wsX70)
def wsX7_pairs : List Cond := .code yX7_pairs cX7_pairs 1 (some .int) :: ([.methodLink RX7 293 yX7_pairsNow, .instanceMethod yX7_pairsNow, .selects RX7 yX7_pairsNow yX7_pairsNow, .initialized RX7, .code yX7_pairsNow cX7_pairsNow 4 (some .int), .fieldLink RX7 77 "OnlyUnseenModel" "people" "I", .fieldLink RX7 56 "OnlyUnseenModel" "hears" "[I", .methodLink RX7 84 yX7_has, .static yX7_has, .code yX7_has cX7_has 2 (some .boolean)] ++ wsX70)
def wsX7_alone : List Cond := .code yX7_alone cX7_alone 3 (some .int) :: ([.fieldLink RX7 77 "OnlyUnseenModel" "people" "I", .fieldLink RX7 56 "OnlyUnseenModel" "hears" "[I"] ++ wsX70)
def wsX7_mouthsBy_r1 : List Cond := [Cond.methodLink RX7 138 yX7_isSight, Cond.instanceMethod yX7_isSight, Cond.selects RX7 yX7_isSight yX7_isSight, Cond.initialized RX7, Cond.code yX7_isSight cX7_isSight 2 (some .boolean), Cond.fieldLink RX7 37 "OnlyUnseenModel" "sights" "I", Cond.methodLink RX7 80 yX7_in, Cond.static yX7_in, Cond.code yX7_in cX7_in 6 (some .boolean), Cond.methodLink RX7 265 yX7_isRounds, Cond.static yX7_isRounds, Cond.code yX7_isRounds cX7_isRounds 1 (some .boolean), Cond.constantLong RX7 260 (20), Cond.methodLink RX7 268 yX7_after, Cond.instanceMethod yX7_after, Cond.selects RX7 yX7_after yX7_after, Cond.code yX7_after cX7_after 4 (some (.object "OnlyUnseenModel")), Cond.methodLink RX7 236 yX7_fresh, Cond.instanceMethod yX7_fresh, Cond.selects RX7 yX7_fresh yX7_fresh, Cond.code yX7_fresh cX7_fresh 1 (some (.object "OnlyUnseenModel")), Cond.fieldLink RX7 329 "OnlyUnseenModel" "tried" "LOnlyUnseenModel;", Cond.classLink RX7 8 RX7, Cond.instantiable RX7 33]
def wsX7_mouthsBy_r2 : List Cond := [Cond.methodLink RX7 333 yX7_init, Cond.instanceMethod yX7_init, Cond.code yX7_init cX7_init 1 none, Cond.methodLink RX7 1 objectInit, Cond.instanceMethod objectInit, Cond.code objectInit ⟨#[0xb1]⟩ 1 none, Cond.arrayClass .int, Cond.fieldLink RX7 7 "OnlyUnseenModel" "shelf" "[I", Cond.fieldLink RX7 13 "OnlyUnseenModel" "rowSort" "[I", Cond.fieldLink RX7 16 "OnlyUnseenModel" "rowSize" "[I", Cond.classLink RX7 19 "[[J", Cond.arrayClass .long, Cond.fieldLink RX7 21 "OnlyUnseenModel" "rows" "[[J", Cond.fieldLink RX7 24 "OnlyUnseenModel" "moved" "[J", Cond.fieldLink RX7 28 "OnlyUnseenModel" "shown" "[I", Cond.fieldLink RX7 31 "OnlyUnseenModel" "tape" "[I", Cond.fieldLink RX7 34 "OnlyUnseenModel" "refused" "[I", Cond.fieldLink RX7 41 "OnlyUnseenModel" "kind" "[I", Cond.fieldLink RX7 44 "OnlyUnseenModel" "by" "[I", Cond.fieldLink RX7 47 "OnlyUnseenModel" "seen" "[I", Cond.fieldLink RX7 50 "OnlyUnseenModel" "half" "[I", Cond.fieldLink RX7 53 "OnlyUnseenModel" "heard" "[I", Cond.fieldLink RX7 56 "OnlyUnseenModel" "hears" "[I", Cond.fieldLink RX7 59 "OnlyUnseenModel" "asked" "[I"]
def wsX7_mouthsBy_r3 : List Cond := [Cond.fieldLink RX7 62 "OnlyUnseenModel" "seed" "I", Cond.fieldLink RX7 65 "OnlyUnseenModel" "told" "[I", Cond.fieldLink RX7 68 "OnlyUnseenModel" "said" "[I", Cond.fieldLink RX7 71 "OnlyUnseenModel" "row" "[I", Cond.fieldLink RX7 74 "OnlyUnseenModel" "bestRow" "[I", Cond.methodLink RX7 243 yX7_takeFrom, Cond.instanceMethod yX7_takeFrom, Cond.selects RX7 yX7_takeFrom yX7_takeFrom, Cond.code yX7_takeFrom cX7_takeFrom 2 none, Cond.fieldLink RX7 77 "OnlyUnseenModel" "people" "I", Cond.fieldLink RX7 326 "OnlyUnseenModel" "evenings" "I", Cond.methodLink RX7 334 yX7_over, Cond.static yX7_over, Cond.code yX7_over cX7_over 3 none, Cond.methodLink RX7 262 yX7_goesRound, Cond.instanceMethod yX7_goesRound, Cond.selects RX7 yX7_goesRound yX7_goesRound, Cond.code yX7_goesRound cX7_goesRound 6 (some .boolean), Cond.methodLink RX7 114 yX7_mayOf, Cond.instanceMethod yX7_mayOf, Cond.selects RX7 yX7_mayOf yX7_mayOf, Cond.code yX7_mayOf cX7_mayOf 6 (some .int), Cond.methodLink RX7 124 yX7_barredBy, Cond.instanceMethod yX7_barredBy]
def wsX7_mouthsBy_r4 : List Cond := [Cond.selects RX7 yX7_barredBy yX7_barredBy, Cond.code yX7_barredBy cX7_barredBy 2 (some .int), Cond.methodLink RX7 120 yX7_allSights, Cond.instanceMethod yX7_allSights, Cond.selects RX7 yX7_allSights yX7_allSights, Cond.code yX7_allSights cX7_allSights 1 (some .int), Cond.methodLink RX7 84 yX7_has, Cond.static yX7_has, Cond.code yX7_has cX7_has 2 (some .boolean), Cond.methodLink RX7 253 yX7_isSaid, Cond.instanceMethod yX7_isSaid, Cond.selects RX7 yX7_isSaid yX7_isSaid, Cond.code yX7_isSaid cX7_isSaid 5 (some .int), Cond.methodLink RX7 117 yX7_bits, Cond.static yX7_bits, Cond.code yX7_bits cX7_bits 3 (some .int), Cond.methodLink RX7 250 yX7_mouthsOf, Cond.instanceMethod yX7_mouthsOf, Cond.selects RX7 yX7_mouthsOf yX7_mouthsOf, Cond.code yX7_mouthsOf cX7_mouthsOf 4 (some .int), Cond.methodLink RX7 94 yX7_refuse, Cond.instanceMethod yX7_refuse, Cond.selects RX7 yX7_refuse yX7_refuse, Cond.code yX7_refuse cX7_refuse 2 (some .int)]
def wsX7_mouthsBy : List Cond := .code yX7_mouthsBy cX7_mouthsBy 3 (some .int) :: ((wsX7_mouthsBy_r1 ++ (wsX7_mouthsBy_r2 ++ (wsX7_mouthsBy_r3 ++ wsX7_mouthsBy_r4))) ++ wsX70)
def wsX7_loudest_r1 : List Cond := [Cond.fieldLink RX7 77 "OnlyUnseenModel" "people" "I", Cond.methodLink RX7 94 yX7_refuse, Cond.instanceMethod yX7_refuse, Cond.selects RX7 yX7_refuse yX7_refuse, Cond.initialized RX7, Cond.code yX7_refuse cX7_refuse 2 (some .int), Cond.fieldLink RX7 34 "OnlyUnseenModel" "refused" "[I", Cond.methodLink RX7 114 yX7_mayOf, Cond.instanceMethod yX7_mayOf, Cond.selects RX7 yX7_mayOf yX7_mayOf, Cond.code yX7_mayOf cX7_mayOf 6 (some .int), Cond.fieldLink RX7 41 "OnlyUnseenModel" "kind" "[I", Cond.fieldLink RX7 53 "OnlyUnseenModel" "heard" "[I", Cond.fieldLink RX7 56 "OnlyUnseenModel" "hears" "[I", Cond.fieldLink RX7 47 "OnlyUnseenModel" "seen" "[I", Cond.fieldLink RX7 59 "OnlyUnseenModel" "asked" "[I", Cond.fieldLink RX7 37 "OnlyUnseenModel" "sights" "I", Cond.methodLink RX7 124 yX7_barredBy, Cond.instanceMethod yX7_barredBy, Cond.selects RX7 yX7_barredBy yX7_barredBy, Cond.code yX7_barredBy cX7_barredBy 2 (some .int), Cond.fieldLink RX7 50 "OnlyUnseenModel" "half" "[I", Cond.methodLink RX7 120 yX7_allSights, Cond.instanceMethod yX7_allSights]
def wsX7_loudest_r2 : List Cond := [Cond.selects RX7 yX7_allSights yX7_allSights, Cond.code yX7_allSights cX7_allSights 1 (some .int), Cond.methodLink RX7 84 yX7_has, Cond.static yX7_has, Cond.code yX7_has cX7_has 2 (some .boolean), Cond.methodLink RX7 117 yX7_bits, Cond.static yX7_bits, Cond.code yX7_bits cX7_bits 3 (some .int)]
def wsX7_loudest : List Cond := .code yX7_loudest cX7_loudest 3 (some .int) :: ((wsX7_loudest_r1 ++ wsX7_loudest_r2) ++ wsX70)
def wsX7_noSets : List Cond := .code yX7_noSets cX7_noSets 4 (some .int) :: ([.constantLong RX7 88 (7), .constantLong RX7 296 (10), .fieldLink RX7 16 "OnlyUnseenModel" "rowSize" "[I", .methodLink RX7 80 yX7_in, .static yX7_in, .initialized RX7, .code yX7_in cX7_in 6 (some .boolean), .methodLink RX7 94 yX7_refuse, .instanceMethod yX7_refuse, .selects RX7 yX7_refuse yX7_refuse, .code yX7_refuse cX7_refuse 2 (some .int), .fieldLink RX7 34 "OnlyUnseenModel" "refused" "[I", .methodLink RX7 98 yX7_noRow, .instanceMethod yX7_noRow, .selects RX7 yX7_noRow yX7_noRow, .code yX7_noRow cX7_noRow 2 (some .int), .fieldLink RX7 7 "OnlyUnseenModel" "shelf" "[I"] ++ wsX70)
def wsX7_doesPart : List Cond := .code yX7_doesPart cX7_doesPart 8 (some .boolean) :: ([.fieldLink RX7 77 "OnlyUnseenModel" "people" "I", .fieldLink RX7 21 "OnlyUnseenModel" "rows" "[[J"] ++ wsX70)
def wsX7_whom_r1 : List Cond := [Cond.fieldLink RX7 77 "OnlyUnseenModel" "people" "I", Cond.methodLink RX7 298 yX7_noSets, Cond.instanceMethod yX7_noSets, Cond.selects RX7 yX7_noSets yX7_noSets, Cond.initialized RX7, Cond.code yX7_noSets cX7_noSets 4 (some .int), Cond.constantLong RX7 88 (7), Cond.constantLong RX7 296 (10), Cond.fieldLink RX7 16 "OnlyUnseenModel" "rowSize" "[I", Cond.methodLink RX7 80 yX7_in, Cond.static yX7_in, Cond.code yX7_in cX7_in 6 (some .boolean), Cond.methodLink RX7 94 yX7_refuse, Cond.instanceMethod yX7_refuse, Cond.selects RX7 yX7_refuse yX7_refuse, Cond.code yX7_refuse cX7_refuse 2 (some .int), Cond.fieldLink RX7 34 "OnlyUnseenModel" "refused" "[I", Cond.methodLink RX7 98 yX7_noRow, Cond.instanceMethod yX7_noRow, Cond.selects RX7 yX7_noRow yX7_noRow, Cond.code yX7_noRow cX7_noRow 2 (some .int), Cond.fieldLink RX7 7 "OnlyUnseenModel" "shelf" "[I", Cond.methodLink RX7 117 yX7_bits, Cond.static yX7_bits]
def wsX7_whom_r2 : List Cond := [Cond.code yX7_bits cX7_bits 3 (some .int), Cond.methodLink RX7 301 yX7_doesPart, Cond.instanceMethod yX7_doesPart, Cond.selects RX7 yX7_doesPart yX7_doesPart, Cond.code yX7_doesPart cX7_doesPart 8 (some .boolean), Cond.fieldLink RX7 21 "OnlyUnseenModel" "rows" "[[J"]
def wsX7_whom : List Cond := .code yX7_whom cX7_whom 6 (some .int) :: ((wsX7_whom_r1 ++ wsX7_whom_r2) ++ wsX70)
def wsX7_parts_r1 : List Cond := [Cond.constantLong RX7 88 (7), Cond.constantLong RX7 296 (10), Cond.fieldLink RX7 77 "OnlyUnseenModel" "people" "I", Cond.methodLink RX7 80 yX7_in, Cond.static yX7_in, Cond.initialized RX7, Cond.code yX7_in cX7_in 6 (some .boolean), Cond.methodLink RX7 94 yX7_refuse, Cond.instanceMethod yX7_refuse, Cond.selects RX7 yX7_refuse yX7_refuse, Cond.code yX7_refuse cX7_refuse 2 (some .int), Cond.fieldLink RX7 34 "OnlyUnseenModel" "refused" "[I", Cond.methodLink RX7 298 yX7_noSets, Cond.instanceMethod yX7_noSets, Cond.selects RX7 yX7_noSets yX7_noSets, Cond.code yX7_noSets cX7_noSets 4 (some .int), Cond.fieldLink RX7 16 "OnlyUnseenModel" "rowSize" "[I", Cond.methodLink RX7 98 yX7_noRow, Cond.instanceMethod yX7_noRow, Cond.selects RX7 yX7_noRow yX7_noRow, Cond.code yX7_noRow cX7_noRow 2 (some .int), Cond.fieldLink RX7 7 "OnlyUnseenModel" "shelf" "[I", Cond.methodLink RX7 301 yX7_doesPart, Cond.instanceMethod yX7_doesPart]
def wsX7_parts_r2 : List Cond := [Cond.selects RX7 yX7_doesPart yX7_doesPart, Cond.code yX7_doesPart cX7_doesPart 8 (some .boolean), Cond.fieldLink RX7 21 "OnlyUnseenModel" "rows" "[[J"]
def wsX7_parts : List Cond := .code yX7_parts cX7_parts 5 (some .int) :: ((wsX7_parts_r1 ++ wsX7_parts_r2) ++ wsX70)
def wsX7_noEvening : List Cond := .code yX7_noEvening cX7_noEvening 4 (some .int) :: ([.constantLong RX7 88 (7), .constantLong RX7 92 (40), .fieldLink RX7 16 "OnlyUnseenModel" "rowSize" "[I", .methodLink RX7 80 yX7_in, .static yX7_in, .initialized RX7, .code yX7_in cX7_in 6 (some .boolean), .methodLink RX7 94 yX7_refuse, .instanceMethod yX7_refuse, .selects RX7 yX7_refuse yX7_refuse, .code yX7_refuse cX7_refuse 2 (some .int), .fieldLink RX7 34 "OnlyUnseenModel" "refused" "[I", .methodLink RX7 98 yX7_noRow, .instanceMethod yX7_noRow, .selects RX7 yX7_noRow yX7_noRow, .code yX7_noRow cX7_noRow 2 (some .int), .fieldLink RX7 7 "OnlyUnseenModel" "shelf" "[I"] ++ wsX70)
def wsX7_isSaying : List Cond := .code yX7_isSaying cX7_isSaying 3 (some .boolean) :: ([.constantLong RX7 296 (10), .fieldLink RX7 77 "OnlyUnseenModel" "people" "I", .fieldLink RX7 37 "OnlyUnseenModel" "sights" "I"] ++ wsX70)
def wsX7_goesBy_r1 : List Cond := [Cond.constantLong RX7 296 (10), Cond.methodLink RX7 304 yX7_isSaying, Cond.instanceMethod yX7_isSaying, Cond.selects RX7 yX7_isSaying yX7_isSaying, Cond.initialized RX7, Cond.code yX7_isSaying cX7_isSaying 3 (some .boolean), Cond.fieldLink RX7 77 "OnlyUnseenModel" "people" "I", Cond.fieldLink RX7 37 "OnlyUnseenModel" "sights" "I", Cond.methodLink RX7 114 yX7_mayOf, Cond.instanceMethod yX7_mayOf, Cond.selects RX7 yX7_mayOf yX7_mayOf, Cond.code yX7_mayOf cX7_mayOf 6 (some .int), Cond.fieldLink RX7 41 "OnlyUnseenModel" "kind" "[I", Cond.fieldLink RX7 53 "OnlyUnseenModel" "heard" "[I", Cond.fieldLink RX7 56 "OnlyUnseenModel" "hears" "[I", Cond.fieldLink RX7 47 "OnlyUnseenModel" "seen" "[I", Cond.fieldLink RX7 59 "OnlyUnseenModel" "asked" "[I", Cond.methodLink RX7 124 yX7_barredBy, Cond.instanceMethod yX7_barredBy, Cond.selects RX7 yX7_barredBy yX7_barredBy, Cond.code yX7_barredBy cX7_barredBy 2 (some .int), Cond.fieldLink RX7 50 "OnlyUnseenModel" "half" "[I", Cond.methodLink RX7 120 yX7_allSights, Cond.instanceMethod yX7_allSights]
def wsX7_goesBy_r2 : List Cond := [Cond.selects RX7 yX7_allSights yX7_allSights, Cond.code yX7_allSights cX7_allSights 1 (some .int), Cond.methodLink RX7 84 yX7_has, Cond.static yX7_has, Cond.code yX7_has cX7_has 2 (some .boolean), Cond.methodLink RX7 253 yX7_isSaid, Cond.instanceMethod yX7_isSaid, Cond.selects RX7 yX7_isSaid yX7_isSaid, Cond.code yX7_isSaid cX7_isSaid 5 (some .int), Cond.methodLink RX7 117 yX7_bits, Cond.static yX7_bits, Cond.code yX7_bits cX7_bits 3 (some .int)]
def wsX7_goesBy : List Cond := .code yX7_goesBy cX7_goesBy 4 (some .int) :: ((wsX7_goesBy_r1 ++ wsX7_goesBy_r2) ++ wsX70)
def wsX7_judge_r1 : List Cond := [Cond.fieldLink RX7 21 "OnlyUnseenModel" "rows" "[[J", Cond.methodLink RX7 308 yX7_noEvening, Cond.instanceMethod yX7_noEvening, Cond.selects RX7 yX7_noEvening yX7_noEvening, Cond.initialized RX7, Cond.code yX7_noEvening cX7_noEvening 4 (some .int), Cond.constantLong RX7 88 (7), Cond.constantLong RX7 92 (40), Cond.fieldLink RX7 16 "OnlyUnseenModel" "rowSize" "[I", Cond.methodLink RX7 80 yX7_in, Cond.static yX7_in, Cond.code yX7_in cX7_in 6 (some .boolean), Cond.methodLink RX7 94 yX7_refuse, Cond.instanceMethod yX7_refuse, Cond.selects RX7 yX7_refuse yX7_refuse, Cond.code yX7_refuse cX7_refuse 2 (some .int), Cond.fieldLink RX7 34 "OnlyUnseenModel" "refused" "[I", Cond.methodLink RX7 98 yX7_noRow, Cond.instanceMethod yX7_noRow, Cond.selects RX7 yX7_noRow yX7_noRow, Cond.code yX7_noRow cX7_noRow 2 (some .int), Cond.fieldLink RX7 7 "OnlyUnseenModel" "shelf" "[I", Cond.methodLink RX7 236 yX7_fresh, Cond.instanceMethod yX7_fresh]
def wsX7_judge_r2 : List Cond := [Cond.selects RX7 yX7_fresh yX7_fresh, Cond.code yX7_fresh cX7_fresh 1 (some (.object "OnlyUnseenModel")), Cond.fieldLink RX7 329 "OnlyUnseenModel" "tried" "LOnlyUnseenModel;", Cond.classLink RX7 8 RX7, Cond.instantiable RX7 33, Cond.methodLink RX7 333 yX7_init, Cond.instanceMethod yX7_init, Cond.code yX7_init cX7_init 1 none, Cond.methodLink RX7 1 objectInit, Cond.instanceMethod objectInit, Cond.code objectInit ⟨#[0xb1]⟩ 1 none, Cond.arrayClass .int, Cond.fieldLink RX7 13 "OnlyUnseenModel" "rowSort" "[I", Cond.classLink RX7 19 "[[J", Cond.arrayClass .long, Cond.fieldLink RX7 24 "OnlyUnseenModel" "moved" "[J", Cond.fieldLink RX7 28 "OnlyUnseenModel" "shown" "[I", Cond.fieldLink RX7 31 "OnlyUnseenModel" "tape" "[I", Cond.fieldLink RX7 37 "OnlyUnseenModel" "sights" "I", Cond.fieldLink RX7 41 "OnlyUnseenModel" "kind" "[I", Cond.fieldLink RX7 44 "OnlyUnseenModel" "by" "[I", Cond.fieldLink RX7 47 "OnlyUnseenModel" "seen" "[I", Cond.fieldLink RX7 50 "OnlyUnseenModel" "half" "[I", Cond.fieldLink RX7 53 "OnlyUnseenModel" "heard" "[I"]
def wsX7_judge_r3 : List Cond := [Cond.fieldLink RX7 56 "OnlyUnseenModel" "hears" "[I", Cond.fieldLink RX7 59 "OnlyUnseenModel" "asked" "[I", Cond.fieldLink RX7 62 "OnlyUnseenModel" "seed" "I", Cond.fieldLink RX7 65 "OnlyUnseenModel" "told" "[I", Cond.fieldLink RX7 68 "OnlyUnseenModel" "said" "[I", Cond.fieldLink RX7 71 "OnlyUnseenModel" "row" "[I", Cond.fieldLink RX7 74 "OnlyUnseenModel" "bestRow" "[I", Cond.methodLink RX7 243 yX7_takeFrom, Cond.instanceMethod yX7_takeFrom, Cond.selects RX7 yX7_takeFrom yX7_takeFrom, Cond.code yX7_takeFrom cX7_takeFrom 2 none, Cond.fieldLink RX7 77 "OnlyUnseenModel" "people" "I", Cond.fieldLink RX7 326 "OnlyUnseenModel" "evenings" "I", Cond.methodLink RX7 334 yX7_over, Cond.static yX7_over, Cond.code yX7_over cX7_over 3 none, Cond.methodLink RX7 311 yX7_goesBy, Cond.instanceMethod yX7_goesBy, Cond.selects RX7 yX7_goesBy yX7_goesBy, Cond.code yX7_goesBy cX7_goesBy 4 (some .int), Cond.constantLong RX7 296 (10), Cond.methodLink RX7 304 yX7_isSaying, Cond.instanceMethod yX7_isSaying, Cond.selects RX7 yX7_isSaying yX7_isSaying]
def wsX7_judge_r4 : List Cond := [Cond.code yX7_isSaying cX7_isSaying 3 (some .boolean), Cond.methodLink RX7 114 yX7_mayOf, Cond.instanceMethod yX7_mayOf, Cond.selects RX7 yX7_mayOf yX7_mayOf, Cond.code yX7_mayOf cX7_mayOf 6 (some .int), Cond.methodLink RX7 124 yX7_barredBy, Cond.instanceMethod yX7_barredBy, Cond.selects RX7 yX7_barredBy yX7_barredBy, Cond.code yX7_barredBy cX7_barredBy 2 (some .int), Cond.methodLink RX7 120 yX7_allSights, Cond.instanceMethod yX7_allSights, Cond.selects RX7 yX7_allSights yX7_allSights, Cond.code yX7_allSights cX7_allSights 1 (some .int), Cond.methodLink RX7 84 yX7_has, Cond.static yX7_has, Cond.code yX7_has cX7_has 2 (some .boolean), Cond.methodLink RX7 253 yX7_isSaid, Cond.instanceMethod yX7_isSaid, Cond.selects RX7 yX7_isSaid yX7_isSaid, Cond.code yX7_isSaid cX7_isSaid 5 (some .int), Cond.methodLink RX7 117 yX7_bits, Cond.static yX7_bits, Cond.code yX7_bits cX7_bits 3 (some .int)]
def wsX7_judge : List Cond := .code yX7_judge cX7_judge 4 (some .int) :: ((wsX7_judge_r1 ++ (wsX7_judge_r2 ++ (wsX7_judge_r3 ++ wsX7_judge_r4))) ++ wsX70)
def wsX7_heard_r1 : List Cond := [Cond.fieldLink RX7 21 "OnlyUnseenModel" "rows" "[[J", Cond.fieldLink RX7 53 "OnlyUnseenModel" "heard" "[I", Cond.methodLink RX7 105 yX7_isOne, Cond.instanceMethod yX7_isOne, Cond.selects RX7 yX7_isOne yX7_isOne, Cond.initialized RX7, Cond.code yX7_isOne cX7_isOne 2 (some .boolean), Cond.fieldLink RX7 77 "OnlyUnseenModel" "people" "I", Cond.methodLink RX7 80 yX7_in, Cond.static yX7_in, Cond.code yX7_in cX7_in 6 (some .boolean), Cond.methodLink RX7 94 yX7_refuse, Cond.instanceMethod yX7_refuse, Cond.selects RX7 yX7_refuse yX7_refuse, Cond.code yX7_refuse cX7_refuse 2 (some .int), Cond.fieldLink RX7 34 "OnlyUnseenModel" "refused" "[I", Cond.methodLink RX7 308 yX7_noEvening, Cond.instanceMethod yX7_noEvening, Cond.selects RX7 yX7_noEvening yX7_noEvening, Cond.code yX7_noEvening cX7_noEvening 4 (some .int), Cond.constantLong RX7 88 (7), Cond.constantLong RX7 92 (40), Cond.fieldLink RX7 16 "OnlyUnseenModel" "rowSize" "[I", Cond.methodLink RX7 98 yX7_noRow]
def wsX7_heard_r2 : List Cond := [Cond.instanceMethod yX7_noRow, Cond.selects RX7 yX7_noRow yX7_noRow, Cond.code yX7_noRow cX7_noRow 2 (some .int), Cond.fieldLink RX7 7 "OnlyUnseenModel" "shelf" "[I", Cond.methodLink RX7 236 yX7_fresh, Cond.instanceMethod yX7_fresh, Cond.selects RX7 yX7_fresh yX7_fresh, Cond.code yX7_fresh cX7_fresh 1 (some (.object "OnlyUnseenModel")), Cond.fieldLink RX7 329 "OnlyUnseenModel" "tried" "LOnlyUnseenModel;", Cond.classLink RX7 8 RX7, Cond.instantiable RX7 33, Cond.methodLink RX7 333 yX7_init, Cond.instanceMethod yX7_init, Cond.code yX7_init cX7_init 1 none, Cond.methodLink RX7 1 objectInit, Cond.instanceMethod objectInit, Cond.code objectInit ⟨#[0xb1]⟩ 1 none, Cond.arrayClass .int, Cond.fieldLink RX7 13 "OnlyUnseenModel" "rowSort" "[I", Cond.classLink RX7 19 "[[J", Cond.arrayClass .long, Cond.fieldLink RX7 24 "OnlyUnseenModel" "moved" "[J", Cond.fieldLink RX7 28 "OnlyUnseenModel" "shown" "[I", Cond.fieldLink RX7 31 "OnlyUnseenModel" "tape" "[I"]
def wsX7_heard_r3 : List Cond := [Cond.fieldLink RX7 37 "OnlyUnseenModel" "sights" "I", Cond.fieldLink RX7 41 "OnlyUnseenModel" "kind" "[I", Cond.fieldLink RX7 44 "OnlyUnseenModel" "by" "[I", Cond.fieldLink RX7 47 "OnlyUnseenModel" "seen" "[I", Cond.fieldLink RX7 50 "OnlyUnseenModel" "half" "[I", Cond.fieldLink RX7 56 "OnlyUnseenModel" "hears" "[I", Cond.fieldLink RX7 59 "OnlyUnseenModel" "asked" "[I", Cond.fieldLink RX7 62 "OnlyUnseenModel" "seed" "I", Cond.fieldLink RX7 65 "OnlyUnseenModel" "told" "[I", Cond.fieldLink RX7 68 "OnlyUnseenModel" "said" "[I", Cond.fieldLink RX7 71 "OnlyUnseenModel" "row" "[I", Cond.fieldLink RX7 74 "OnlyUnseenModel" "bestRow" "[I", Cond.methodLink RX7 243 yX7_takeFrom, Cond.instanceMethod yX7_takeFrom, Cond.selects RX7 yX7_takeFrom yX7_takeFrom, Cond.code yX7_takeFrom cX7_takeFrom 2 none, Cond.fieldLink RX7 326 "OnlyUnseenModel" "evenings" "I", Cond.methodLink RX7 334 yX7_over, Cond.static yX7_over, Cond.code yX7_over cX7_over 3 none, Cond.methodLink RX7 311 yX7_goesBy, Cond.instanceMethod yX7_goesBy, Cond.selects RX7 yX7_goesBy yX7_goesBy, Cond.code yX7_goesBy cX7_goesBy 4 (some .int)]
def wsX7_heard_r4 : List Cond := [Cond.constantLong RX7 296 (10), Cond.methodLink RX7 304 yX7_isSaying, Cond.instanceMethod yX7_isSaying, Cond.selects RX7 yX7_isSaying yX7_isSaying, Cond.code yX7_isSaying cX7_isSaying 3 (some .boolean), Cond.methodLink RX7 114 yX7_mayOf, Cond.instanceMethod yX7_mayOf, Cond.selects RX7 yX7_mayOf yX7_mayOf, Cond.code yX7_mayOf cX7_mayOf 6 (some .int), Cond.methodLink RX7 124 yX7_barredBy, Cond.instanceMethod yX7_barredBy, Cond.selects RX7 yX7_barredBy yX7_barredBy, Cond.code yX7_barredBy cX7_barredBy 2 (some .int), Cond.methodLink RX7 120 yX7_allSights, Cond.instanceMethod yX7_allSights, Cond.selects RX7 yX7_allSights yX7_allSights, Cond.code yX7_allSights cX7_allSights 1 (some .int), Cond.methodLink RX7 84 yX7_has, Cond.static yX7_has, Cond.code yX7_has cX7_has 2 (some .boolean), Cond.methodLink RX7 253 yX7_isSaid, Cond.instanceMethod yX7_isSaid, Cond.selects RX7 yX7_isSaid yX7_isSaid, Cond.code yX7_isSaid cX7_isSaid 5 (some .int)]
def wsX7_heard_r5 : List Cond := [Cond.methodLink RX7 117 yX7_bits, Cond.static yX7_bits, Cond.code yX7_bits cX7_bits 3 (some .int)]
def wsX7_heard : List Cond := .code yX7_heard cX7_heard 6 (some .int) :: ((wsX7_heard_r1 ++ (wsX7_heard_r2 ++ (wsX7_heard_r3 ++ (wsX7_heard_r4 ++ wsX7_heard_r5)))) ++ wsX70)
def wsX7_noSayings_r1 : List Cond := [Cond.fieldLink RX7 21 "OnlyUnseenModel" "rows" "[[J", Cond.methodLink RX7 308 yX7_noEvening, Cond.instanceMethod yX7_noEvening, Cond.selects RX7 yX7_noEvening yX7_noEvening, Cond.initialized RX7, Cond.code yX7_noEvening cX7_noEvening 4 (some .int), Cond.constantLong RX7 88 (7), Cond.constantLong RX7 92 (40), Cond.fieldLink RX7 16 "OnlyUnseenModel" "rowSize" "[I", Cond.methodLink RX7 80 yX7_in, Cond.static yX7_in, Cond.code yX7_in cX7_in 6 (some .boolean), Cond.methodLink RX7 94 yX7_refuse, Cond.instanceMethod yX7_refuse, Cond.selects RX7 yX7_refuse yX7_refuse, Cond.code yX7_refuse cX7_refuse 2 (some .int), Cond.fieldLink RX7 34 "OnlyUnseenModel" "refused" "[I", Cond.methodLink RX7 98 yX7_noRow, Cond.instanceMethod yX7_noRow, Cond.selects RX7 yX7_noRow yX7_noRow, Cond.code yX7_noRow cX7_noRow 2 (some .int), Cond.fieldLink RX7 7 "OnlyUnseenModel" "shelf" "[I", Cond.methodLink RX7 304 yX7_isSaying, Cond.instanceMethod yX7_isSaying]
def wsX7_noSayings_r2 : List Cond := [Cond.selects RX7 yX7_isSaying yX7_isSaying, Cond.code yX7_isSaying cX7_isSaying 3 (some .boolean), Cond.constantLong RX7 296 (10), Cond.fieldLink RX7 77 "OnlyUnseenModel" "people" "I", Cond.fieldLink RX7 37 "OnlyUnseenModel" "sights" "I"]
def wsX7_noSayings : List Cond := .code yX7_noSayings cX7_noSayings 5 (some .int) :: ((wsX7_noSayings_r1 ++ wsX7_noSayings_r2) ++ wsX70)
def wsX7_falsely_r1 : List Cond := [Cond.fieldLink RX7 21 "OnlyUnseenModel" "rows" "[[J", Cond.methodLink RX7 315 yX7_noSayings, Cond.instanceMethod yX7_noSayings, Cond.selects RX7 yX7_noSayings yX7_noSayings, Cond.initialized RX7, Cond.code yX7_noSayings cX7_noSayings 5 (some .int), Cond.methodLink RX7 308 yX7_noEvening, Cond.instanceMethod yX7_noEvening, Cond.selects RX7 yX7_noEvening yX7_noEvening, Cond.code yX7_noEvening cX7_noEvening 4 (some .int), Cond.constantLong RX7 88 (7), Cond.constantLong RX7 92 (40), Cond.fieldLink RX7 16 "OnlyUnseenModel" "rowSize" "[I", Cond.methodLink RX7 80 yX7_in, Cond.static yX7_in, Cond.code yX7_in cX7_in 6 (some .boolean), Cond.methodLink RX7 94 yX7_refuse, Cond.instanceMethod yX7_refuse, Cond.selects RX7 yX7_refuse yX7_refuse, Cond.code yX7_refuse cX7_refuse 2 (some .int), Cond.fieldLink RX7 34 "OnlyUnseenModel" "refused" "[I", Cond.methodLink RX7 98 yX7_noRow, Cond.instanceMethod yX7_noRow, Cond.selects RX7 yX7_noRow yX7_noRow]
def wsX7_falsely_r2 : List Cond := [Cond.code yX7_noRow cX7_noRow 2 (some .int), Cond.fieldLink RX7 7 "OnlyUnseenModel" "shelf" "[I", Cond.methodLink RX7 304 yX7_isSaying, Cond.instanceMethod yX7_isSaying, Cond.selects RX7 yX7_isSaying yX7_isSaying, Cond.code yX7_isSaying cX7_isSaying 3 (some .boolean), Cond.constantLong RX7 296 (10), Cond.fieldLink RX7 77 "OnlyUnseenModel" "people" "I", Cond.fieldLink RX7 37 "OnlyUnseenModel" "sights" "I", Cond.methodLink RX7 124 yX7_barredBy, Cond.instanceMethod yX7_barredBy, Cond.selects RX7 yX7_barredBy yX7_barredBy, Cond.code yX7_barredBy cX7_barredBy 2 (some .int), Cond.fieldLink RX7 59 "OnlyUnseenModel" "asked" "[I", Cond.fieldLink RX7 47 "OnlyUnseenModel" "seen" "[I", Cond.fieldLink RX7 50 "OnlyUnseenModel" "half" "[I", Cond.methodLink RX7 84 yX7_has, Cond.static yX7_has, Cond.code yX7_has cX7_has 2 (some .boolean)]
def wsX7_falsely : List Cond := .code yX7_falsely cX7_falsely 7 (some .int) :: ((wsX7_falsely_r1 ++ wsX7_falsely_r2) ++ wsX70)
def wsX7_silent : List Cond := .code yX7_silent cX7_silent 10 (some .int) :: ([.fieldLink RX7 77 "OnlyUnseenModel" "people" "I", .fieldLink RX7 21 "OnlyUnseenModel" "rows" "[[J", .fieldLink RX7 56 "OnlyUnseenModel" "hears" "[I", .methodLink RX7 84 yX7_has, .static yX7_has, .initialized RX7, .code yX7_has cX7_has 2 (some .boolean)] ++ wsX70)
def wsX7_barred_r1 : List Cond := [Cond.methodLink RX7 138 yX7_isSight, Cond.instanceMethod yX7_isSight, Cond.selects RX7 yX7_isSight yX7_isSight, Cond.initialized RX7, Cond.code yX7_isSight cX7_isSight 2 (some .boolean), Cond.fieldLink RX7 37 "OnlyUnseenModel" "sights" "I", Cond.methodLink RX7 80 yX7_in, Cond.static yX7_in, Cond.code yX7_in cX7_in 6 (some .boolean), Cond.methodLink RX7 286 yX7_barredOf, Cond.instanceMethod yX7_barredOf, Cond.selects RX7 yX7_barredOf yX7_barredOf, Cond.code yX7_barredOf cX7_barredOf 4 (some .int), Cond.fieldLink RX7 77 "OnlyUnseenModel" "people" "I", Cond.methodLink RX7 124 yX7_barredBy, Cond.instanceMethod yX7_barredBy, Cond.selects RX7 yX7_barredBy yX7_barredBy, Cond.code yX7_barredBy cX7_barredBy 2 (some .int), Cond.fieldLink RX7 59 "OnlyUnseenModel" "asked" "[I", Cond.fieldLink RX7 47 "OnlyUnseenModel" "seen" "[I", Cond.fieldLink RX7 50 "OnlyUnseenModel" "half" "[I", Cond.methodLink RX7 84 yX7_has, Cond.static yX7_has, Cond.code yX7_has cX7_has 2 (some .boolean)]
def wsX7_barred_r2 : List Cond := [Cond.methodLink RX7 94 yX7_refuse, Cond.instanceMethod yX7_refuse, Cond.selects RX7 yX7_refuse yX7_refuse, Cond.code yX7_refuse cX7_refuse 2 (some .int), Cond.fieldLink RX7 34 "OnlyUnseenModel" "refused" "[I"]
def wsX7_barred : List Cond := .code yX7_barred cX7_barred 2 (some .int) :: ((wsX7_barred_r1 ++ wsX7_barred_r2) ++ wsX70)
def wsX7_surely_r1 : List Cond := [Cond.methodLink RX7 138 yX7_isSight, Cond.instanceMethod yX7_isSight, Cond.selects RX7 yX7_isSight yX7_isSight, Cond.initialized RX7, Cond.code yX7_isSight cX7_isSight 2 (some .boolean), Cond.fieldLink RX7 37 "OnlyUnseenModel" "sights" "I", Cond.methodLink RX7 80 yX7_in, Cond.static yX7_in, Cond.code yX7_in cX7_in 6 (some .boolean), Cond.methodLink RX7 94 yX7_refuse, Cond.instanceMethod yX7_refuse, Cond.selects RX7 yX7_refuse yX7_refuse, Cond.code yX7_refuse cX7_refuse 2 (some .int), Cond.fieldLink RX7 34 "OnlyUnseenModel" "refused" "[I", Cond.methodLink RX7 315 yX7_noSayings, Cond.instanceMethod yX7_noSayings, Cond.selects RX7 yX7_noSayings yX7_noSayings, Cond.code yX7_noSayings cX7_noSayings 5 (some .int), Cond.fieldLink RX7 21 "OnlyUnseenModel" "rows" "[[J", Cond.methodLink RX7 308 yX7_noEvening, Cond.instanceMethod yX7_noEvening, Cond.selects RX7 yX7_noEvening yX7_noEvening, Cond.code yX7_noEvening cX7_noEvening 4 (some .int), Cond.constantLong RX7 88 (7)]
def wsX7_surely_r2 : List Cond := [Cond.constantLong RX7 92 (40), Cond.fieldLink RX7 16 "OnlyUnseenModel" "rowSize" "[I", Cond.methodLink RX7 98 yX7_noRow, Cond.instanceMethod yX7_noRow, Cond.selects RX7 yX7_noRow yX7_noRow, Cond.code yX7_noRow cX7_noRow 2 (some .int), Cond.fieldLink RX7 7 "OnlyUnseenModel" "shelf" "[I", Cond.methodLink RX7 304 yX7_isSaying, Cond.instanceMethod yX7_isSaying, Cond.selects RX7 yX7_isSaying yX7_isSaying, Cond.code yX7_isSaying cX7_isSaying 3 (some .boolean), Cond.constantLong RX7 296 (10), Cond.fieldLink RX7 77 "OnlyUnseenModel" "people" "I", Cond.methodLink RX7 318 yX7_silent, Cond.instanceMethod yX7_silent, Cond.selects RX7 yX7_silent yX7_silent, Cond.code yX7_silent cX7_silent 10 (some .int), Cond.fieldLink RX7 56 "OnlyUnseenModel" "hears" "[I", Cond.methodLink RX7 84 yX7_has, Cond.static yX7_has, Cond.code yX7_has cX7_has 2 (some .boolean), Cond.methodLink RX7 286 yX7_barredOf, Cond.instanceMethod yX7_barredOf, Cond.selects RX7 yX7_barredOf yX7_barredOf]
def wsX7_surely_r3 : List Cond := [Cond.code yX7_barredOf cX7_barredOf 4 (some .int), Cond.methodLink RX7 124 yX7_barredBy, Cond.instanceMethod yX7_barredBy, Cond.selects RX7 yX7_barredBy yX7_barredBy, Cond.code yX7_barredBy cX7_barredBy 2 (some .int), Cond.fieldLink RX7 59 "OnlyUnseenModel" "asked" "[I", Cond.fieldLink RX7 47 "OnlyUnseenModel" "seen" "[I", Cond.fieldLink RX7 50 "OnlyUnseenModel" "half" "[I"]
def wsX7_surely : List Cond := .code yX7_surely cX7_surely 5 (some .int) :: ((wsX7_surely_r1 ++ (wsX7_surely_r2 ++ wsX7_surely_r3)) ++ wsX70)
def wsX7_free_r1 : List Cond := [Cond.fieldLink RX7 21 "OnlyUnseenModel" "rows" "[[J", Cond.methodLink RX7 138 yX7_isSight, Cond.instanceMethod yX7_isSight, Cond.selects RX7 yX7_isSight yX7_isSight, Cond.initialized RX7, Cond.code yX7_isSight cX7_isSight 2 (some .boolean), Cond.fieldLink RX7 37 "OnlyUnseenModel" "sights" "I", Cond.methodLink RX7 80 yX7_in, Cond.static yX7_in, Cond.code yX7_in cX7_in 6 (some .boolean), Cond.methodLink RX7 94 yX7_refuse, Cond.instanceMethod yX7_refuse, Cond.selects RX7 yX7_refuse yX7_refuse, Cond.code yX7_refuse cX7_refuse 2 (some .int), Cond.fieldLink RX7 34 "OnlyUnseenModel" "refused" "[I", Cond.methodLink RX7 315 yX7_noSayings, Cond.instanceMethod yX7_noSayings, Cond.selects RX7 yX7_noSayings yX7_noSayings, Cond.code yX7_noSayings cX7_noSayings 5 (some .int), Cond.methodLink RX7 308 yX7_noEvening, Cond.instanceMethod yX7_noEvening, Cond.selects RX7 yX7_noEvening yX7_noEvening, Cond.code yX7_noEvening cX7_noEvening 4 (some .int), Cond.constantLong RX7 88 (7)]
def wsX7_free_r2 : List Cond := [Cond.constantLong RX7 92 (40), Cond.fieldLink RX7 16 "OnlyUnseenModel" "rowSize" "[I", Cond.methodLink RX7 98 yX7_noRow, Cond.instanceMethod yX7_noRow, Cond.selects RX7 yX7_noRow yX7_noRow, Cond.code yX7_noRow cX7_noRow 2 (some .int), Cond.fieldLink RX7 7 "OnlyUnseenModel" "shelf" "[I", Cond.methodLink RX7 304 yX7_isSaying, Cond.instanceMethod yX7_isSaying, Cond.selects RX7 yX7_isSaying yX7_isSaying, Cond.code yX7_isSaying cX7_isSaying 3 (some .boolean), Cond.constantLong RX7 296 (10), Cond.fieldLink RX7 77 "OnlyUnseenModel" "people" "I", Cond.methodLink RX7 236 yX7_fresh, Cond.instanceMethod yX7_fresh, Cond.selects RX7 yX7_fresh yX7_fresh, Cond.code yX7_fresh cX7_fresh 1 (some (.object "OnlyUnseenModel")), Cond.fieldLink RX7 329 "OnlyUnseenModel" "tried" "LOnlyUnseenModel;", Cond.classLink RX7 8 RX7, Cond.instantiable RX7 33, Cond.methodLink RX7 333 yX7_init, Cond.instanceMethod yX7_init, Cond.code yX7_init cX7_init 1 none, Cond.methodLink RX7 1 objectInit]
def wsX7_free_r3 : List Cond := [Cond.instanceMethod objectInit, Cond.code objectInit ⟨#[0xb1]⟩ 1 none, Cond.arrayClass .int, Cond.fieldLink RX7 13 "OnlyUnseenModel" "rowSort" "[I", Cond.classLink RX7 19 "[[J", Cond.arrayClass .long, Cond.fieldLink RX7 24 "OnlyUnseenModel" "moved" "[J", Cond.fieldLink RX7 28 "OnlyUnseenModel" "shown" "[I", Cond.fieldLink RX7 31 "OnlyUnseenModel" "tape" "[I", Cond.fieldLink RX7 41 "OnlyUnseenModel" "kind" "[I", Cond.fieldLink RX7 44 "OnlyUnseenModel" "by" "[I", Cond.fieldLink RX7 47 "OnlyUnseenModel" "seen" "[I", Cond.fieldLink RX7 50 "OnlyUnseenModel" "half" "[I", Cond.fieldLink RX7 53 "OnlyUnseenModel" "heard" "[I", Cond.fieldLink RX7 56 "OnlyUnseenModel" "hears" "[I", Cond.fieldLink RX7 59 "OnlyUnseenModel" "asked" "[I", Cond.fieldLink RX7 62 "OnlyUnseenModel" "seed" "I", Cond.fieldLink RX7 65 "OnlyUnseenModel" "told" "[I", Cond.fieldLink RX7 68 "OnlyUnseenModel" "said" "[I", Cond.fieldLink RX7 71 "OnlyUnseenModel" "row" "[I", Cond.fieldLink RX7 74 "OnlyUnseenModel" "bestRow" "[I", Cond.methodLink RX7 243 yX7_takeFrom, Cond.instanceMethod yX7_takeFrom, Cond.selects RX7 yX7_takeFrom yX7_takeFrom]
def wsX7_free_r4 : List Cond := [Cond.code yX7_takeFrom cX7_takeFrom 2 none, Cond.fieldLink RX7 326 "OnlyUnseenModel" "evenings" "I", Cond.methodLink RX7 334 yX7_over, Cond.static yX7_over, Cond.code yX7_over cX7_over 3 none, Cond.methodLink RX7 253 yX7_isSaid, Cond.instanceMethod yX7_isSaid, Cond.selects RX7 yX7_isSaid yX7_isSaid, Cond.code yX7_isSaid cX7_isSaid 5 (some .int), Cond.methodLink RX7 84 yX7_has, Cond.static yX7_has, Cond.code yX7_has cX7_has 2 (some .boolean), Cond.methodLink RX7 117 yX7_bits, Cond.static yX7_bits, Cond.code yX7_bits cX7_bits 3 (some .int), Cond.methodLink RX7 318 yX7_silent, Cond.instanceMethod yX7_silent, Cond.selects RX7 yX7_silent yX7_silent, Cond.code yX7_silent cX7_silent 10 (some .int), Cond.methodLink RX7 286 yX7_barredOf, Cond.instanceMethod yX7_barredOf, Cond.selects RX7 yX7_barredOf yX7_barredOf, Cond.code yX7_barredOf cX7_barredOf 4 (some .int), Cond.methodLink RX7 124 yX7_barredBy]
def wsX7_free_r5 : List Cond := [Cond.instanceMethod yX7_barredBy, Cond.selects RX7 yX7_barredBy yX7_barredBy, Cond.code yX7_barredBy cX7_barredBy 2 (some .int), Cond.methodLink RX7 250 yX7_mouthsOf, Cond.instanceMethod yX7_mouthsOf, Cond.selects RX7 yX7_mouthsOf yX7_mouthsOf, Cond.code yX7_mouthsOf cX7_mouthsOf 4 (some .int), Cond.methodLink RX7 114 yX7_mayOf, Cond.instanceMethod yX7_mayOf, Cond.selects RX7 yX7_mayOf yX7_mayOf, Cond.code yX7_mayOf cX7_mayOf 6 (some .int), Cond.methodLink RX7 120 yX7_allSights, Cond.instanceMethod yX7_allSights, Cond.selects RX7 yX7_allSights yX7_allSights, Cond.code yX7_allSights cX7_allSights 1 (some .int)]
def wsX7_free : List Cond := .code yX7_free cX7_free 8 (some .int) :: ((wsX7_free_r1 ++ (wsX7_free_r2 ++ (wsX7_free_r3 ++ (wsX7_free_r4 ++ wsX7_free_r5)))) ++ wsX70)
def wsX7_evening_r1 : List Cond := [Cond.fieldLink RX7 21 "OnlyUnseenModel" "rows" "[[J", Cond.methodLink RX7 308 yX7_noEvening, Cond.instanceMethod yX7_noEvening, Cond.selects RX7 yX7_noEvening yX7_noEvening, Cond.initialized RX7, Cond.code yX7_noEvening cX7_noEvening 4 (some .int), Cond.constantLong RX7 88 (7), Cond.constantLong RX7 92 (40), Cond.fieldLink RX7 16 "OnlyUnseenModel" "rowSize" "[I", Cond.methodLink RX7 80 yX7_in, Cond.static yX7_in, Cond.code yX7_in cX7_in 6 (some .boolean), Cond.methodLink RX7 94 yX7_refuse, Cond.instanceMethod yX7_refuse, Cond.selects RX7 yX7_refuse yX7_refuse, Cond.code yX7_refuse cX7_refuse 2 (some .int), Cond.fieldLink RX7 34 "OnlyUnseenModel" "refused" "[I", Cond.methodLink RX7 98 yX7_noRow, Cond.instanceMethod yX7_noRow, Cond.selects RX7 yX7_noRow yX7_noRow, Cond.code yX7_noRow cX7_noRow 2 (some .int), Cond.fieldLink RX7 7 "OnlyUnseenModel" "shelf" "[I", Cond.methodLink RX7 236 yX7_fresh, Cond.instanceMethod yX7_fresh]
def wsX7_evening_r2 : List Cond := [Cond.selects RX7 yX7_fresh yX7_fresh, Cond.code yX7_fresh cX7_fresh 1 (some (.object "OnlyUnseenModel")), Cond.fieldLink RX7 329 "OnlyUnseenModel" "tried" "LOnlyUnseenModel;", Cond.classLink RX7 8 RX7, Cond.instantiable RX7 33, Cond.methodLink RX7 333 yX7_init, Cond.instanceMethod yX7_init, Cond.code yX7_init cX7_init 1 none, Cond.methodLink RX7 1 objectInit, Cond.instanceMethod objectInit, Cond.code objectInit ⟨#[0xb1]⟩ 1 none, Cond.arrayClass .int, Cond.fieldLink RX7 13 "OnlyUnseenModel" "rowSort" "[I", Cond.classLink RX7 19 "[[J", Cond.arrayClass .long, Cond.fieldLink RX7 24 "OnlyUnseenModel" "moved" "[J", Cond.fieldLink RX7 28 "OnlyUnseenModel" "shown" "[I", Cond.fieldLink RX7 31 "OnlyUnseenModel" "tape" "[I", Cond.fieldLink RX7 37 "OnlyUnseenModel" "sights" "I", Cond.fieldLink RX7 41 "OnlyUnseenModel" "kind" "[I", Cond.fieldLink RX7 44 "OnlyUnseenModel" "by" "[I", Cond.fieldLink RX7 47 "OnlyUnseenModel" "seen" "[I", Cond.fieldLink RX7 50 "OnlyUnseenModel" "half" "[I", Cond.fieldLink RX7 53 "OnlyUnseenModel" "heard" "[I"]
def wsX7_evening_r3 : List Cond := [Cond.fieldLink RX7 56 "OnlyUnseenModel" "hears" "[I", Cond.fieldLink RX7 59 "OnlyUnseenModel" "asked" "[I", Cond.fieldLink RX7 62 "OnlyUnseenModel" "seed" "I", Cond.fieldLink RX7 65 "OnlyUnseenModel" "told" "[I", Cond.fieldLink RX7 68 "OnlyUnseenModel" "said" "[I", Cond.fieldLink RX7 71 "OnlyUnseenModel" "row" "[I", Cond.fieldLink RX7 74 "OnlyUnseenModel" "bestRow" "[I", Cond.methodLink RX7 243 yX7_takeFrom, Cond.instanceMethod yX7_takeFrom, Cond.selects RX7 yX7_takeFrom yX7_takeFrom, Cond.code yX7_takeFrom cX7_takeFrom 2 none, Cond.fieldLink RX7 77 "OnlyUnseenModel" "people" "I", Cond.fieldLink RX7 326 "OnlyUnseenModel" "evenings" "I", Cond.methodLink RX7 334 yX7_over, Cond.static yX7_over, Cond.code yX7_over cX7_over 3 none, Cond.methodLink RX7 311 yX7_goesBy, Cond.instanceMethod yX7_goesBy, Cond.selects RX7 yX7_goesBy yX7_goesBy, Cond.code yX7_goesBy cX7_goesBy 4 (some .int), Cond.constantLong RX7 296 (10), Cond.methodLink RX7 304 yX7_isSaying, Cond.instanceMethod yX7_isSaying, Cond.selects RX7 yX7_isSaying yX7_isSaying]
def wsX7_evening_r4 : List Cond := [Cond.code yX7_isSaying cX7_isSaying 3 (some .boolean), Cond.methodLink RX7 114 yX7_mayOf, Cond.instanceMethod yX7_mayOf, Cond.selects RX7 yX7_mayOf yX7_mayOf, Cond.code yX7_mayOf cX7_mayOf 6 (some .int), Cond.methodLink RX7 124 yX7_barredBy, Cond.instanceMethod yX7_barredBy, Cond.selects RX7 yX7_barredBy yX7_barredBy, Cond.code yX7_barredBy cX7_barredBy 2 (some .int), Cond.methodLink RX7 120 yX7_allSights, Cond.instanceMethod yX7_allSights, Cond.selects RX7 yX7_allSights yX7_allSights, Cond.code yX7_allSights cX7_allSights 1 (some .int), Cond.methodLink RX7 84 yX7_has, Cond.static yX7_has, Cond.code yX7_has cX7_has 2 (some .boolean), Cond.methodLink RX7 253 yX7_isSaid, Cond.instanceMethod yX7_isSaid, Cond.selects RX7 yX7_isSaid yX7_isSaid, Cond.code yX7_isSaid cX7_isSaid 5 (some .int), Cond.methodLink RX7 117 yX7_bits, Cond.static yX7_bits, Cond.code yX7_bits cX7_bits 3 (some .int), Cond.methodLink RX7 257 yX7_knownNow]
def wsX7_evening_r5 : List Cond := [Cond.instanceMethod yX7_knownNow, Cond.selects RX7 yX7_knownNow yX7_knownNow, Cond.code yX7_knownNow cX7_knownNow 3 (some .int), Cond.methodLink RX7 247 yX7_knows, Cond.instanceMethod yX7_knows, Cond.selects RX7 yX7_knows yX7_knows, Cond.code yX7_knows cX7_knows 2 (some .int)]
def wsX7_evening : List Cond := .code yX7_evening cX7_evening 4 (some .int) :: ((wsX7_evening_r1 ++ (wsX7_evening_r2 ++ (wsX7_evening_r3 ++ (wsX7_evening_r4 ++ wsX7_evening_r5)))) ++ wsX70)
def wsX7_below : List Cond := .code yX7_below cX7_below 2 (some .int) :: ([.fieldLink RX7 62 "OnlyUnseenModel" "seed" "I", .constant RX7 322 (1103515245)] ++ wsX70)
def wsX7_talk_r1 : List Cond := [Cond.constantLong RX7 92 (40), Cond.fieldLink RX7 77 "OnlyUnseenModel" "people" "I", Cond.fieldLink RX7 37 "OnlyUnseenModel" "sights" "I", Cond.methodLink RX7 80 yX7_in, Cond.static yX7_in, Cond.initialized RX7, Cond.code yX7_in cX7_in 6 (some .boolean), Cond.methodLink RX7 94 yX7_refuse, Cond.instanceMethod yX7_refuse, Cond.selects RX7 yX7_refuse yX7_refuse, Cond.code yX7_refuse cX7_refuse 2 (some .int), Cond.fieldLink RX7 34 "OnlyUnseenModel" "refused" "[I", Cond.methodLink RX7 323 yX7_below, Cond.instanceMethod yX7_below, Cond.selects RX7 yX7_below yX7_below, Cond.code yX7_below cX7_below 2 (some .int), Cond.fieldLink RX7 62 "OnlyUnseenModel" "seed" "I", Cond.constant RX7 322 (1103515245), Cond.methodLink RX7 114 yX7_mayOf, Cond.instanceMethod yX7_mayOf, Cond.selects RX7 yX7_mayOf yX7_mayOf, Cond.code yX7_mayOf cX7_mayOf 6 (some .int), Cond.fieldLink RX7 41 "OnlyUnseenModel" "kind" "[I", Cond.fieldLink RX7 53 "OnlyUnseenModel" "heard" "[I"]
def wsX7_talk_r2 : List Cond := [Cond.fieldLink RX7 56 "OnlyUnseenModel" "hears" "[I", Cond.fieldLink RX7 47 "OnlyUnseenModel" "seen" "[I", Cond.fieldLink RX7 59 "OnlyUnseenModel" "asked" "[I", Cond.methodLink RX7 124 yX7_barredBy, Cond.instanceMethod yX7_barredBy, Cond.selects RX7 yX7_barredBy yX7_barredBy, Cond.code yX7_barredBy cX7_barredBy 2 (some .int), Cond.fieldLink RX7 50 "OnlyUnseenModel" "half" "[I", Cond.methodLink RX7 120 yX7_allSights, Cond.instanceMethod yX7_allSights, Cond.selects RX7 yX7_allSights yX7_allSights, Cond.code yX7_allSights cX7_allSights 1 (some .int), Cond.methodLink RX7 84 yX7_has, Cond.static yX7_has, Cond.code yX7_has cX7_has 2 (some .boolean), Cond.methodLink RX7 253 yX7_isSaid, Cond.instanceMethod yX7_isSaid, Cond.selects RX7 yX7_isSaid yX7_isSaid, Cond.code yX7_isSaid cX7_isSaid 5 (some .int), Cond.methodLink RX7 117 yX7_bits, Cond.static yX7_bits, Cond.code yX7_bits cX7_bits 3 (some .int)]
def wsX7_talk : List Cond := .code yX7_talk cX7_talk 6 (some .int) :: ((wsX7_talk_r1 ++ wsX7_talk_r2) ++ wsX70)
def wsX7_round_r1 : List Cond := [Cond.methodLink RX7 262 yX7_goesRound, Cond.instanceMethod yX7_goesRound, Cond.selects RX7 yX7_goesRound yX7_goesRound, Cond.initialized RX7, Cond.code yX7_goesRound cX7_goesRound 6 (some .boolean), Cond.fieldLink RX7 77 "OnlyUnseenModel" "people" "I", Cond.fieldLink RX7 68 "OnlyUnseenModel" "said" "[I", Cond.fieldLink RX7 59 "OnlyUnseenModel" "asked" "[I", Cond.fieldLink RX7 37 "OnlyUnseenModel" "sights" "I", Cond.fieldLink RX7 56 "OnlyUnseenModel" "hears" "[I", Cond.fieldLink RX7 47 "OnlyUnseenModel" "seen" "[I", Cond.fieldLink RX7 53 "OnlyUnseenModel" "heard" "[I", Cond.methodLink RX7 114 yX7_mayOf, Cond.instanceMethod yX7_mayOf, Cond.selects RX7 yX7_mayOf yX7_mayOf, Cond.code yX7_mayOf cX7_mayOf 6 (some .int), Cond.fieldLink RX7 41 "OnlyUnseenModel" "kind" "[I", Cond.methodLink RX7 124 yX7_barredBy, Cond.instanceMethod yX7_barredBy, Cond.selects RX7 yX7_barredBy yX7_barredBy, Cond.code yX7_barredBy cX7_barredBy 2 (some .int), Cond.fieldLink RX7 50 "OnlyUnseenModel" "half" "[I", Cond.methodLink RX7 120 yX7_allSights, Cond.instanceMethod yX7_allSights]
def wsX7_round_r2 : List Cond := [Cond.selects RX7 yX7_allSights yX7_allSights, Cond.code yX7_allSights cX7_allSights 1 (some .int), Cond.methodLink RX7 84 yX7_has, Cond.static yX7_has, Cond.code yX7_has cX7_has 2 (some .boolean), Cond.methodLink RX7 253 yX7_isSaid, Cond.instanceMethod yX7_isSaid, Cond.selects RX7 yX7_isSaid yX7_isSaid, Cond.code yX7_isSaid cX7_isSaid 5 (some .int), Cond.methodLink RX7 117 yX7_bits, Cond.static yX7_bits, Cond.code yX7_bits cX7_bits 3 (some .int), Cond.methodLink RX7 257 yX7_knownNow, Cond.instanceMethod yX7_knownNow, Cond.selects RX7 yX7_knownNow yX7_knownNow, Cond.code yX7_knownNow cX7_knownNow 3 (some .int), Cond.methodLink RX7 247 yX7_knows, Cond.instanceMethod yX7_knows, Cond.selects RX7 yX7_knows yX7_knows, Cond.code yX7_knows cX7_knows 2 (some .int)]
def wsX7_round : List Cond := .code yX7_round cX7_round 1 (some .int) :: ((wsX7_round_r1 ++ wsX7_round_r2) ++ wsX70)
def wsX7_night : List Cond := .code yX7_night cX7_night 3 (some .int) :: ([.fieldLink RX7 77 "OnlyUnseenModel" "people" "I", .fieldLink RX7 41 "OnlyUnseenModel" "kind" "[I", .fieldLink RX7 47 "OnlyUnseenModel" "seen" "[I", .fieldLink RX7 53 "OnlyUnseenModel" "heard" "[I", .fieldLink RX7 326 "OnlyUnseenModel" "evenings" "I", .methodLink RX7 127 yX7_firstOf, .static yX7_firstOf, .initialized RX7, .code yX7_firstOf cX7_firstOf 2 (some .int), .methodLink RX7 84 yX7_has, .static yX7_has, .code yX7_has cX7_has 2 (some .boolean)] ++ wsX70)
def wsX7_seed : List Cond := .code yX7_seed cX7_seed 3 (some .int) :: ([.fieldLink RX7 62 "OnlyUnseenModel" "seed" "I"] ++ wsX70)
def wsX7_image_r1 : List Cond := [Cond.fieldLink RX7 338 "OnlyUnseenModel" "kept" "LOnlyUnseenModel;", Cond.classLink RX7 8 RX7, Cond.instantiable RX7 33, Cond.initialized RX7, Cond.methodLink RX7 333 yX7_init, Cond.instanceMethod yX7_init, Cond.code yX7_init cX7_init 1 none, Cond.methodLink RX7 1 objectInit, Cond.instanceMethod objectInit, Cond.code objectInit ⟨#[0xb1]⟩ 1 none, Cond.arrayClass .int, Cond.fieldLink RX7 7 "OnlyUnseenModel" "shelf" "[I", Cond.fieldLink RX7 13 "OnlyUnseenModel" "rowSort" "[I", Cond.fieldLink RX7 16 "OnlyUnseenModel" "rowSize" "[I", Cond.classLink RX7 19 "[[J", Cond.arrayClass .long, Cond.fieldLink RX7 21 "OnlyUnseenModel" "rows" "[[J", Cond.fieldLink RX7 24 "OnlyUnseenModel" "moved" "[J", Cond.fieldLink RX7 28 "OnlyUnseenModel" "shown" "[I", Cond.fieldLink RX7 31 "OnlyUnseenModel" "tape" "[I", Cond.fieldLink RX7 34 "OnlyUnseenModel" "refused" "[I", Cond.fieldLink RX7 37 "OnlyUnseenModel" "sights" "I", Cond.fieldLink RX7 41 "OnlyUnseenModel" "kind" "[I", Cond.fieldLink RX7 44 "OnlyUnseenModel" "by" "[I"]
def wsX7_image_r2 : List Cond := [Cond.fieldLink RX7 47 "OnlyUnseenModel" "seen" "[I", Cond.fieldLink RX7 50 "OnlyUnseenModel" "half" "[I", Cond.fieldLink RX7 53 "OnlyUnseenModel" "heard" "[I", Cond.fieldLink RX7 56 "OnlyUnseenModel" "hears" "[I", Cond.fieldLink RX7 59 "OnlyUnseenModel" "asked" "[I", Cond.fieldLink RX7 62 "OnlyUnseenModel" "seed" "I", Cond.fieldLink RX7 65 "OnlyUnseenModel" "told" "[I", Cond.fieldLink RX7 68 "OnlyUnseenModel" "said" "[I", Cond.fieldLink RX7 71 "OnlyUnseenModel" "row" "[I", Cond.fieldLink RX7 74 "OnlyUnseenModel" "bestRow" "[I", Cond.methodLink RX7 243 yX7_takeFrom, Cond.instanceMethod yX7_takeFrom, Cond.selects RX7 yX7_takeFrom yX7_takeFrom, Cond.code yX7_takeFrom cX7_takeFrom 2 none, Cond.fieldLink RX7 77 "OnlyUnseenModel" "people" "I", Cond.fieldLink RX7 326 "OnlyUnseenModel" "evenings" "I", Cond.methodLink RX7 334 yX7_over, Cond.static yX7_over, Cond.code yX7_over cX7_over 3 none]
def wsX7_image : List Cond := .code yX7_image cX7_image 1 (some .int) :: ((wsX7_image_r1 ++ wsX7_image_r2) ++ wsX70)
def wsX7_back_r1 : List Cond := [Cond.fieldLink RX7 338 "OnlyUnseenModel" "kept" "LOnlyUnseenModel;", Cond.fieldLink RX7 7 "OnlyUnseenModel" "shelf" "[I", Cond.fieldLink RX7 28 "OnlyUnseenModel" "shown" "[I", Cond.fieldLink RX7 77 "OnlyUnseenModel" "people" "I", Cond.methodLink RX7 94 yX7_refuse, Cond.instanceMethod yX7_refuse, Cond.selects RX7 yX7_refuse yX7_refuse, Cond.initialized RX7, Cond.code yX7_refuse cX7_refuse 2 (some .int), Cond.fieldLink RX7 34 "OnlyUnseenModel" "refused" "[I", Cond.methodLink RX7 243 yX7_takeFrom, Cond.instanceMethod yX7_takeFrom, Cond.selects RX7 yX7_takeFrom yX7_takeFrom, Cond.code yX7_takeFrom cX7_takeFrom 2 none, Cond.fieldLink RX7 37 "OnlyUnseenModel" "sights" "I", Cond.fieldLink RX7 41 "OnlyUnseenModel" "kind" "[I", Cond.fieldLink RX7 44 "OnlyUnseenModel" "by" "[I", Cond.fieldLink RX7 47 "OnlyUnseenModel" "seen" "[I", Cond.fieldLink RX7 50 "OnlyUnseenModel" "half" "[I", Cond.fieldLink RX7 53 "OnlyUnseenModel" "heard" "[I", Cond.fieldLink RX7 56 "OnlyUnseenModel" "hears" "[I", Cond.fieldLink RX7 59 "OnlyUnseenModel" "asked" "[I", Cond.fieldLink RX7 326 "OnlyUnseenModel" "evenings" "I", Cond.fieldLink RX7 62 "OnlyUnseenModel" "seed" "I"]
def wsX7_back_r2 : List Cond := [Cond.methodLink RX7 334 yX7_over, Cond.static yX7_over, Cond.code yX7_over cX7_over 3 none]
def wsX7_back : List Cond := .code yX7_back cX7_back 2 (some .int) :: ((wsX7_back_r1 ++ wsX7_back_r2) ++ wsX70)
def wsX7_status_r1 : List Cond := [Cond.fieldLink RX7 37 "OnlyUnseenModel" "sights" "I", Cond.fieldLink RX7 77 "OnlyUnseenModel" "people" "I", Cond.fieldLink RX7 59 "OnlyUnseenModel" "asked" "[I", Cond.fieldLink RX7 326 "OnlyUnseenModel" "evenings" "I", Cond.fieldLink RX7 152 "OnlyUnseenModel" "tapeSize" "I", Cond.fieldLink RX7 62 "OnlyUnseenModel" "seed" "I", Cond.fieldLink RX7 7 "OnlyUnseenModel" "shelf" "[I", Cond.constantLong RX7 341 (12), Cond.constantLong RX7 343 (16), Cond.fieldLink RX7 34 "OnlyUnseenModel" "refused" "[I", Cond.methodLink RX7 257 yX7_knownNow, Cond.instanceMethod yX7_knownNow, Cond.selects RX7 yX7_knownNow yX7_knownNow, Cond.initialized RX7, Cond.code yX7_knownNow cX7_knownNow 3 (some .int), Cond.methodLink RX7 247 yX7_knows, Cond.instanceMethod yX7_knows, Cond.selects RX7 yX7_knows yX7_knows, Cond.code yX7_knows cX7_knows 2 (some .int), Cond.fieldLink RX7 47 "OnlyUnseenModel" "seen" "[I", Cond.fieldLink RX7 50 "OnlyUnseenModel" "half" "[I", Cond.fieldLink RX7 53 "OnlyUnseenModel" "heard" "[I", Cond.methodLink RX7 117 yX7_bits, Cond.static yX7_bits]
def wsX7_status_r2 : List Cond := [Cond.code yX7_bits cX7_bits 3 (some .int), Cond.methodLink RX7 293 yX7_pairsNow, Cond.instanceMethod yX7_pairsNow, Cond.selects RX7 yX7_pairsNow yX7_pairsNow, Cond.code yX7_pairsNow cX7_pairsNow 4 (some .int), Cond.fieldLink RX7 56 "OnlyUnseenModel" "hears" "[I", Cond.methodLink RX7 84 yX7_has, Cond.static yX7_has, Cond.code yX7_has cX7_has 2 (some .boolean), Cond.methodLink RX7 80 yX7_in, Cond.static yX7_in, Cond.code yX7_in cX7_in 6 (some .boolean)]
def wsX7_status : List Cond := .code yX7_status cX7_status 4 (some .int) :: ((wsX7_status_r1 ++ wsX7_status_r2) ++ wsX70)
theorem inJ6 : ∀ w ∈ wsJ60, w ∈ lw_tbl := by decide +kernel
theorem inJ0 : ∀ w ∈ wsJ00, w ∈ lw_tbl := by decide +kernel
theorem inJ1 : ∀ w ∈ wsJ10, w ∈ lw_tbl := by decide +kernel
theorem inJ2 : ∀ w ∈ wsJ20, w ∈ lw_tbl := by decide +kernel
theorem inJ10 : ∀ w ∈ wsJ100, w ∈ lw_tbl := by decide +kernel
theorem inJ3 : ∀ w ∈ wsJ30, w ∈ lw_tbl := by decide +kernel
theorem dX0_init_0 : decode cX0_init 0 = .ok (.aload_n 0, 1) := by decide +kernel
theorem dX0_init_1 : decode cX0_init 1 = .ok (.invokespecial 3, 3) := by decide +kernel
theorem dX0_init_4 : decode cX0_init 4 = .ok (.aload_n 0, 1) := by decide +kernel
theorem dX0_init_5 : decode cX0_init 5 = .ok (.aload_n 1, 1) := by decide +kernel
theorem dX0_init_6 : decode cX0_init 6 = .ok (.putfield 9, 3) := by decide +kernel
theorem dX0_init_9 : decode cX0_init 9 = .ok (.aload_n 0, 1) := by decide +kernel
theorem dX0_init_10 : decode cX0_init 10 = .ok (.aload_n 2, 1) := by decide +kernel
theorem dX0_init_11 : decode cX0_init 11 = .ok (.putfield 15, 3) := by decide +kernel
theorem dX0_init_14 : decode cX0_init 14 = .ok (.aload_n 0, 1) := by decide +kernel
theorem dX0_init_15 : decode cX0_init 15 = .ok (.aload_n 3, 1) := by decide +kernel
theorem dX0_init_16 : decode cX0_init 16 = .ok (.putfield 18, 3) := by decide +kernel
theorem dX0_init_19 : decode cX0_init 19 = .ok (.return_, 1) := by decide +kernel
theorem dX0_isSaying_0 : decode cX0_isSaying 0 = .ok (.lload_n 1, 1) := by decide +kernel
theorem dX0_isSaying_1 : decode cX0_isSaying 1 = .ok (.lconst 0, 1) := by decide +kernel
theorem dX0_isSaying_2 : decode cX0_isSaying 2 = .ok (.lcmp, 1) := by decide +kernel
theorem dX0_isSaying_3 : decode cX0_isSaying 3 = .ok (.ifCond .lt 41, 3) := by decide +kernel
theorem dX0_isSaying_6 : decode cX0_isSaying 6 = .ok (.lload_n 1, 1) := by decide +kernel
theorem dX0_isSaying_7 : decode cX0_isSaying 7 = .ok (.ldc2_w 22, 3) := by decide +kernel
theorem dX0_isSaying_10 : decode cX0_isSaying 10 = .ok (.ldiv, 1) := by decide +kernel
theorem dX0_isSaying_11 : decode cX0_isSaying 11 = .ok (.aload_n 0, 1) := by decide +kernel
theorem dX0_isSaying_12 : decode cX0_isSaying 12 = .ok (.getfield 9, 3) := by decide +kernel
theorem dX0_isSaying_15 : decode cX0_isSaying 15 = .ok (.getfield 24, 3) := by decide +kernel
theorem dX0_isSaying_18 : decode cX0_isSaying 18 = .ok (.i2l, 1) := by decide +kernel
theorem dX0_isSaying_19 : decode cX0_isSaying 19 = .ok (.lcmp, 1) := by decide +kernel
theorem dX0_isSaying_20 : decode cX0_isSaying 20 = .ok (.ifCond .ge 24, 3) := by decide +kernel
theorem dX0_isSaying_23 : decode cX0_isSaying 23 = .ok (.lload_n 1, 1) := by decide +kernel
theorem dX0_isSaying_24 : decode cX0_isSaying 24 = .ok (.ldc2_w 22, 3) := by decide +kernel
theorem dX0_isSaying_27 : decode cX0_isSaying 27 = .ok (.lrem, 1) := by decide +kernel
theorem dX0_isSaying_28 : decode cX0_isSaying 28 = .ok (.aload_n 0, 1) := by decide +kernel
theorem dX0_isSaying_29 : decode cX0_isSaying 29 = .ok (.getfield 9, 3) := by decide +kernel
theorem dX0_isSaying_32 : decode cX0_isSaying 32 = .ok (.getfield 30, 3) := by decide +kernel
theorem dX0_isSaying_35 : decode cX0_isSaying 35 = .ok (.i2l, 1) := by decide +kernel
theorem dX0_isSaying_36 : decode cX0_isSaying 36 = .ok (.lcmp, 1) := by decide +kernel
theorem dX0_isSaying_37 : decode cX0_isSaying 37 = .ok (.ifCond .ge 7, 3) := by decide +kernel
theorem dX0_isSaying_40 : decode cX0_isSaying 40 = .ok (.iconst 1, 1) := by decide +kernel
theorem dX0_isSaying_41 : decode cX0_isSaying 41 = .ok (.goto 4, 3) := by decide +kernel
theorem dX0_isSaying_44 : decode cX0_isSaying 44 = .ok (.iconst 0, 1) := by decide +kernel
theorem dX0_isSaying_45 : decode cX0_isSaying 45 = .ok (.ireturn, 1) := by decide +kernel
set_option maxRecDepth 20000 in
theorem ggX0_areSayings_X3_elementOf : GoodIn wsX0_areSayings wsX3_elementOf := goodIn_r _ [6, 7, 8, 9, 10, 11, 12, 13, 14, 27, 28, 29] (by decide +kernel) (by decide +kernel)
set_option maxRecDepth 20000 in
theorem gX0_areSayings_X3_elementOf : GoodIn wsX0_areSayings (wsV RX0 33 RX3 yX3_elementOf wsX3_elementOf) := goodIn_app (goodIn_of _ (by decide +kernel)) ggX0_areSayings_X3_elementOf
set_option maxRecDepth 20000 in
theorem ggX0_areSayings_X0_isSaying : GoodIn wsX0_areSayings wsX0_isSaying := goodIn_r _ [19, 20, 21, 22, 23, 24, 25, 26, 30, 31, 32, 33, 34, 35, 36, 37, 38, 39, 40, 41, 42, 43] (by decide +kernel) (by decide +kernel)
set_option maxRecDepth 20000 in
theorem gX0_areSayings_X0_isSaying : GoodIn wsX0_areSayings (wsV RX0 39 RX0 yX0_isSaying wsX0_isSaying) := goodIn_app (goodIn_of _ (by decide +kernel)) ggX0_areSayings_X0_isSaying
theorem dX0_areSayings_0 : decode cX0_areSayings 0 = .ok (.iconst 0, 1) := by decide +kernel
theorem dX0_areSayings_1 : decode cX0_areSayings 1 = .ok (.istore_n 3, 1) := by decide +kernel
theorem dX0_areSayings_2 : decode cX0_areSayings 2 = .ok (.iload_n 3, 1) := by decide +kernel
theorem dX0_areSayings_3 : decode cX0_areSayings 3 = .ok (.iload_n 2, 1) := by decide +kernel
theorem dX0_areSayings_4 : decode cX0_areSayings 4 = .ok (.if_icmp .ge 27, 3) := by decide +kernel
theorem dX0_areSayings_7 : decode cX0_areSayings 7 = .ok (.aload_n 0, 1) := by decide +kernel
theorem dX0_areSayings_8 : decode cX0_areSayings 8 = .ok (.aload_n 0, 1) := by decide +kernel
theorem dX0_areSayings_9 : decode cX0_areSayings 9 = .ok (.getfield 18, 3) := by decide +kernel
theorem dX0_areSayings_12 : decode cX0_areSayings 12 = .ok (.iload_n 1, 1) := by decide +kernel
theorem dX0_areSayings_13 : decode cX0_areSayings 13 = .ok (.iload_n 3, 1) := by decide +kernel
theorem dX0_areSayings_14 : decode cX0_areSayings 14 = .ok (.invokevirtual 33, 3) := by decide +kernel
theorem dX0_areSayings_17 : decode cX0_areSayings 17 = .ok (.invokevirtual 39, 3) := by decide +kernel
theorem dX0_areSayings_20 : decode cX0_areSayings 20 = .ok (.ifCond .ne 5, 3) := by decide +kernel
theorem dX0_areSayings_23 : decode cX0_areSayings 23 = .ok (.iconst 0, 1) := by decide +kernel
theorem dX0_areSayings_24 : decode cX0_areSayings 24 = .ok (.ireturn, 1) := by decide +kernel
theorem dX0_areSayings_25 : decode cX0_areSayings 25 = .ok (.iinc 3 1, 3) := by decide +kernel
theorem dX0_areSayings_28 : decode cX0_areSayings 28 = .ok (.goto (-26), 3) := by decide +kernel
theorem dX0_areSayings_31 : decode cX0_areSayings 31 = .ok (.iconst 1, 1) := by decide +kernel
theorem dX0_areSayings_32 : decode cX0_areSayings 32 = .ok (.ireturn, 1) := by decide +kernel
set_option maxRecDepth 20000 in
theorem ggX0_speakerOf_X3_elementOf : GoodIn wsX0_speakerOf wsX3_elementOf := goodIn_r _ [7, 8, 9, 10, 11, 12, 13, 14, 15, 19, 20, 21] (by decide +kernel) (by decide +kernel)
set_option maxRecDepth 20000 in
theorem gX0_speakerOf_X3_elementOf : GoodIn wsX0_speakerOf (wsV RX0 33 RX3 yX3_elementOf wsX3_elementOf) := goodIn_app (goodIn_of _ (by decide +kernel)) ggX0_speakerOf_X3_elementOf
theorem dX0_speakerOf_0 : decode cX0_speakerOf 0 = .ok (.aload_n 0, 1) := by decide +kernel
theorem dX0_speakerOf_1 : decode cX0_speakerOf 1 = .ok (.getfield 18, 3) := by decide +kernel
theorem dX0_speakerOf_4 : decode cX0_speakerOf 4 = .ok (.iload_n 1, 1) := by decide +kernel
theorem dX0_speakerOf_5 : decode cX0_speakerOf 5 = .ok (.iload_n 2, 1) := by decide +kernel
theorem dX0_speakerOf_6 : decode cX0_speakerOf 6 = .ok (.invokevirtual 33, 3) := by decide +kernel
theorem dX0_speakerOf_9 : decode cX0_speakerOf 9 = .ok (.ldc2_w 22, 3) := by decide +kernel
theorem dX0_speakerOf_12 : decode cX0_speakerOf 12 = .ok (.ldiv, 1) := by decide +kernel
theorem dX0_speakerOf_13 : decode cX0_speakerOf 13 = .ok (.l2i, 1) := by decide +kernel
theorem dX0_speakerOf_14 : decode cX0_speakerOf 14 = .ok (.ireturn, 1) := by decide +kernel
set_option maxRecDepth 20000 in
theorem ggX0_sightOf_X3_elementOf : GoodIn wsX0_sightOf wsX3_elementOf := goodIn_r _ [7, 8, 9, 10, 11, 12, 13, 14, 15, 19, 20, 21] (by decide +kernel) (by decide +kernel)
set_option maxRecDepth 20000 in
theorem gX0_sightOf_X3_elementOf : GoodIn wsX0_sightOf (wsV RX0 33 RX3 yX3_elementOf wsX3_elementOf) := goodIn_app (goodIn_of _ (by decide +kernel)) ggX0_sightOf_X3_elementOf
theorem dX0_sightOf_0 : decode cX0_sightOf 0 = .ok (.aload_n 0, 1) := by decide +kernel
theorem dX0_sightOf_1 : decode cX0_sightOf 1 = .ok (.getfield 18, 3) := by decide +kernel
theorem dX0_sightOf_4 : decode cX0_sightOf 4 = .ok (.iload_n 1, 1) := by decide +kernel
theorem dX0_sightOf_5 : decode cX0_sightOf 5 = .ok (.iload_n 2, 1) := by decide +kernel
theorem dX0_sightOf_6 : decode cX0_sightOf 6 = .ok (.invokevirtual 33, 3) := by decide +kernel
theorem dX0_sightOf_9 : decode cX0_sightOf 9 = .ok (.ldc2_w 22, 3) := by decide +kernel
theorem dX0_sightOf_12 : decode cX0_sightOf 12 = .ok (.lrem, 1) := by decide +kernel
theorem dX0_sightOf_13 : decode cX0_sightOf 13 = .ok (.l2i, 1) := by decide +kernel
theorem dX0_sightOf_14 : decode cX0_sightOf 14 = .ok (.ireturn, 1) := by decide +kernel
set_option maxRecDepth 20000 in
theorem ggX0_firstWrong_X5_become : GoodIn wsX0_firstWrong wsX5_become := goodIn_r _ [8, 9, 10, 11, 12, 13, 14, 15, 16, 17, 18, 19, 20, 21, 22, 23, 24, 25, 89, 90, 91, 92, 93, 94, 95, 96, 97, 98, 99, 100, 101, 102] (by decide +kernel) (by decide +kernel)
set_option maxRecDepth 20000 in
theorem gX0_firstWrong_X5_become : GoodIn wsX0_firstWrong (wsV RX0 43 RX5 yX5_become wsX5_become) := goodIn_app (goodIn_of _ (by decide +kernel)) ggX0_firstWrong_X5_become
set_option maxRecDepth 20000 in
theorem ggX0_firstWrong_X3_elementOf : GoodIn wsX0_firstWrong wsX3_elementOf := goodIn_r _ [30, 31, 32, 33, 34, 35, 36, 37, 38, 103, 104, 105] (by decide +kernel) (by decide +kernel)
set_option maxRecDepth 20000 in
theorem gX0_firstWrong_X3_elementOf : GoodIn wsX0_firstWrong (wsV RX0 33 RX3 yX3_elementOf wsX3_elementOf) := goodIn_app (goodIn_of _ (by decide +kernel)) ggX0_firstWrong_X3_elementOf
set_option maxRecDepth 20000 in
theorem ggX0_firstWrong_X0_isSaying : GoodIn wsX0_firstWrong wsX0_isSaying := goodIn_r _ [43, 44, 2, 45, 46, 86, 87, 88, 89, 90, 91, 92, 93, 94, 95, 96, 97, 98, 99, 100, 101, 102] (by decide +kernel) (by decide +kernel)
set_option maxRecDepth 20000 in
theorem gX0_firstWrong_X0_isSaying : GoodIn wsX0_firstWrong (wsV RX0 39 RX0 yX0_isSaying wsX0_isSaying) := goodIn_app (goodIn_of _ (by decide +kernel)) ggX0_firstWrong_X0_isSaying
set_option maxRecDepth 20000 in
theorem ggX0_firstWrong_X0_speakerOf : GoodIn wsX0_firstWrong wsX0_speakerOf := goodIn_r _ [50, 3, 44, 26, 27, 28, 29, 30, 31, 32, 33, 34, 35, 36, 37, 38, 86, 87, 88, 103, 104, 105] (by decide +kernel) (by decide +kernel)
set_option maxRecDepth 20000 in
theorem gX0_firstWrong_X0_speakerOf : GoodIn wsX0_firstWrong (wsV RX0 47 RX0 yX0_speakerOf wsX0_speakerOf) := goodIn_app (goodIn_of _ (by decide +kernel)) ggX0_firstWrong_X0_speakerOf
set_option maxRecDepth 20000 in
theorem ggX0_firstWrong_X0_sightOf : GoodIn wsX0_firstWrong wsX0_sightOf := goodIn_r _ [54, 3, 44, 26, 27, 28, 29, 30, 31, 32, 33, 34, 35, 36, 37, 38, 86, 87, 88, 103, 104, 105] (by decide +kernel) (by decide +kernel)
set_option maxRecDepth 20000 in
theorem gX0_firstWrong_X0_sightOf : GoodIn wsX0_firstWrong (wsV RX0 51 RX0 yX0_sightOf wsX0_sightOf) := goodIn_app (goodIn_of _ (by decide +kernel)) ggX0_firstWrong_X0_sightOf
set_option maxRecDepth 20000 in
theorem ggX0_firstWrong_X5_sayableBy : GoodIn wsX0_firstWrong wsX5_sayableBy := goodIn_r _ [58, 24, 22, 13, 59, 60, 61, 7, 62, 11, 16, 21, 63, 64, 65, 66, 9, 67, 68, 69, 70, 10, 23, 71, 34, 72, 89, 90, 91, 92, 93, 94, 95, 96, 97, 98, 99, 100, 101, 102] (by decide +kernel) (by decide +kernel)
set_option maxRecDepth 20000 in
theorem gX0_firstWrong_X5_sayableBy : GoodIn wsX0_firstWrong (wsV RX0 54 RX5 yX5_sayableBy wsX5_sayableBy) := goodIn_app (goodIn_of _ (by decide +kernel)) ggX0_firstWrong_X5_sayableBy
set_option maxRecDepth 20000 in
theorem ggX0_firstWrong_X6_has : GoodIn wsX0_firstWrong wsX6_has := goodIn_r _ [74] (by decide +kernel) (by decide +kernel)
set_option maxRecDepth 20000 in
theorem gX0_firstWrong_X6_has_n58 : GoodIn wsX0_firstWrong (wsX6_has) := ggX0_firstWrong_X6_has
set_option maxRecDepth 20000 in
theorem ggX0_firstWrong_X5_tell : GoodIn wsX0_firstWrong wsX5_tell := goodIn_r _ [78, 10, 23, 22, 73, 34, 74, 79, 80, 81, 82, 83, 84, 85, 89, 90, 91, 92, 93, 94, 95, 96, 97, 98, 99, 100, 101, 102] (by decide +kernel) (by decide +kernel)
set_option maxRecDepth 20000 in
theorem gX0_firstWrong_X5_tell : GoodIn wsX0_firstWrong (wsV RX0 62 RX5 yX5_tell wsX5_tell) := goodIn_app (goodIn_of _ (by decide +kernel)) ggX0_firstWrong_X5_tell
theorem dX0_firstWrong_0 : decode cX0_firstWrong 0 = .ok (.aload_n 0, 1) := by decide +kernel
theorem dX0_firstWrong_1 : decode cX0_firstWrong 1 = .ok (.getfield 15, 3) := by decide +kernel
theorem dX0_firstWrong_4 : decode cX0_firstWrong 4 = .ok (.aload_n 0, 1) := by decide +kernel
theorem dX0_firstWrong_5 : decode cX0_firstWrong 5 = .ok (.getfield 9, 3) := by decide +kernel
theorem dX0_firstWrong_8 : decode cX0_firstWrong 8 = .ok (.invokevirtual 43, 3) := by decide +kernel
theorem dX0_firstWrong_11 : decode cX0_firstWrong 11 = .ok (.iconst 0, 1) := by decide +kernel
theorem dX0_firstWrong_12 : decode cX0_firstWrong 12 = .ok (.istore_n 3, 1) := by decide +kernel
theorem dX0_firstWrong_13 : decode cX0_firstWrong 13 = .ok (.iload_n 3, 1) := by decide +kernel
theorem dX0_firstWrong_14 : decode cX0_firstWrong 14 = .ok (.iload_n 2, 1) := by decide +kernel
theorem dX0_firstWrong_15 : decode cX0_firstWrong 15 = .ok (.if_icmp .ge 76, 3) := by decide +kernel
theorem dX0_firstWrong_18 : decode cX0_firstWrong 18 = .ok (.aload_n 0, 1) := by decide +kernel
theorem dX0_firstWrong_19 : decode cX0_firstWrong 19 = .ok (.aload_n 0, 1) := by decide +kernel
theorem dX0_firstWrong_20 : decode cX0_firstWrong 20 = .ok (.getfield 18, 3) := by decide +kernel
theorem dX0_firstWrong_23 : decode cX0_firstWrong 23 = .ok (.iload_n 1, 1) := by decide +kernel
theorem dX0_firstWrong_24 : decode cX0_firstWrong 24 = .ok (.iload_n 3, 1) := by decide +kernel
theorem dX0_firstWrong_25 : decode cX0_firstWrong 25 = .ok (.invokevirtual 33, 3) := by decide +kernel
theorem dX0_firstWrong_28 : decode cX0_firstWrong 28 = .ok (.invokevirtual 39, 3) := by decide +kernel
theorem dX0_firstWrong_31 : decode cX0_firstWrong 31 = .ok (.ifCond .ne 5, 3) := by decide +kernel
theorem dX0_firstWrong_34 : decode cX0_firstWrong 34 = .ok (.iload_n 3, 1) := by decide +kernel
theorem dX0_firstWrong_35 : decode cX0_firstWrong 35 = .ok (.ireturn, 1) := by decide +kernel
theorem dX0_firstWrong_36 : decode cX0_firstWrong 36 = .ok (.aload_n 0, 1) := by decide +kernel
theorem dX0_firstWrong_37 : decode cX0_firstWrong 37 = .ok (.iload_n 1, 1) := by decide +kernel
theorem dX0_firstWrong_38 : decode cX0_firstWrong 38 = .ok (.iload_n 3, 1) := by decide +kernel
theorem dX0_firstWrong_39 : decode cX0_firstWrong 39 = .ok (.invokevirtual 47, 3) := by decide +kernel
theorem dX0_firstWrong_42 : decode cX0_firstWrong 42 = .ok (.istore 4, 2) := by decide +kernel
theorem dX0_firstWrong_44 : decode cX0_firstWrong 44 = .ok (.aload_n 0, 1) := by decide +kernel
theorem dX0_firstWrong_45 : decode cX0_firstWrong 45 = .ok (.iload_n 1, 1) := by decide +kernel
theorem dX0_firstWrong_46 : decode cX0_firstWrong 46 = .ok (.iload_n 3, 1) := by decide +kernel
theorem dX0_firstWrong_47 : decode cX0_firstWrong 47 = .ok (.invokevirtual 51, 3) := by decide +kernel
theorem dX0_firstWrong_50 : decode cX0_firstWrong 50 = .ok (.istore 5, 2) := by decide +kernel
theorem dX0_firstWrong_52 : decode cX0_firstWrong 52 = .ok (.aload_n 0, 1) := by decide +kernel
theorem dX0_firstWrong_53 : decode cX0_firstWrong 53 = .ok (.getfield 15, 3) := by decide +kernel
theorem dX0_firstWrong_56 : decode cX0_firstWrong 56 = .ok (.iload 4, 2) := by decide +kernel
theorem dX0_firstWrong_58 : decode cX0_firstWrong 58 = .ok (.invokevirtual 54, 3) := by decide +kernel
theorem dX0_firstWrong_61 : decode cX0_firstWrong 61 = .ok (.iload 5, 2) := by decide +kernel
theorem dX0_firstWrong_63 : decode cX0_firstWrong 63 = .ok (.invokestatic 58, 3) := by decide +kernel
theorem dX0_firstWrong_66 : decode cX0_firstWrong 66 = .ok (.ifCond .ne 5, 3) := by decide +kernel
theorem dX0_firstWrong_69 : decode cX0_firstWrong 69 = .ok (.iload_n 3, 1) := by decide +kernel
theorem dX0_firstWrong_70 : decode cX0_firstWrong 70 = .ok (.ireturn, 1) := by decide +kernel
theorem dX0_firstWrong_71 : decode cX0_firstWrong 71 = .ok (.aload_n 0, 1) := by decide +kernel
theorem dX0_firstWrong_72 : decode cX0_firstWrong 72 = .ok (.getfield 15, 3) := by decide +kernel
theorem dX0_firstWrong_75 : decode cX0_firstWrong 75 = .ok (.iload 4, 2) := by decide +kernel
theorem dX0_firstWrong_77 : decode cX0_firstWrong 77 = .ok (.iconst 1, 1) := by decide +kernel
theorem dX0_firstWrong_78 : decode cX0_firstWrong 78 = .ok (.iload 5, 2) := by decide +kernel
theorem dX0_firstWrong_80 : decode cX0_firstWrong 80 = .ok (.ishl, 1) := by decide +kernel
theorem dX0_firstWrong_81 : decode cX0_firstWrong 81 = .ok (.invokevirtual 62, 3) := by decide +kernel
theorem dX0_firstWrong_84 : decode cX0_firstWrong 84 = .ok (.pop, 1) := by decide +kernel
theorem dX0_firstWrong_85 : decode cX0_firstWrong 85 = .ok (.iinc 3 1, 3) := by decide +kernel
theorem dX0_firstWrong_88 : decode cX0_firstWrong 88 = .ok (.goto (-75), 3) := by decide +kernel
theorem dX0_firstWrong_91 : decode cX0_firstWrong 91 = .ok (.iconst (-1), 1) := by decide +kernel
theorem dX0_firstWrong_92 : decode cX0_firstWrong 92 = .ok (.ireturn, 1) := by decide +kernel
set_option maxRecDepth 20000 in
theorem ggX0_falseSayings_X0_speakerOf : GoodIn wsX0_falseSayings wsX0_speakerOf := goodIn_r _ [6, 7, 8, 9, 10, 11, 12, 13, 14, 15, 16, 17, 18, 19, 20, 21, 36, 37, 38, 39, 40, 41] (by decide +kernel) (by decide +kernel)
set_option maxRecDepth 20000 in
theorem gX0_falseSayings_X0_speakerOf : GoodIn wsX0_falseSayings (wsV RX0 47 RX0 yX0_speakerOf wsX0_speakerOf) := goodIn_app (goodIn_of _ (by decide +kernel)) ggX0_falseSayings_X0_speakerOf
set_option maxRecDepth 20000 in
theorem ggX0_falseSayings_X5_barredTo : GoodIn wsX0_falseSayings wsX5_barredTo := goodIn_r _ [26, 27, 28, 29, 42, 43, 44, 45, 46, 47, 48, 49, 50, 51, 52, 53, 54, 55] (by decide +kernel) (by decide +kernel)
set_option maxRecDepth 20000 in
theorem gX0_falseSayings_X5_barredTo : GoodIn wsX0_falseSayings (wsV RX0 65 RX5 yX5_barredTo wsX5_barredTo) := goodIn_app (goodIn_of _ (by decide +kernel)) ggX0_falseSayings_X5_barredTo
set_option maxRecDepth 20000 in
theorem ggX0_falseSayings_X0_sightOf : GoodIn wsX0_falseSayings wsX0_sightOf := goodIn_r _ [33, 7, 8, 9, 10, 11, 12, 13, 14, 15, 16, 17, 18, 19, 20, 21, 36, 37, 38, 39, 40, 41] (by decide +kernel) (by decide +kernel)
set_option maxRecDepth 20000 in
theorem gX0_falseSayings_X0_sightOf : GoodIn wsX0_falseSayings (wsV RX0 51 RX0 yX0_sightOf wsX0_sightOf) := goodIn_app (goodIn_of _ (by decide +kernel)) ggX0_falseSayings_X0_sightOf
set_option maxRecDepth 20000 in
theorem ggX0_falseSayings_X6_has : GoodIn wsX0_falseSayings wsX6_has := goodIn_r _ [35] (by decide +kernel) (by decide +kernel)
set_option maxRecDepth 20000 in
theorem gX0_falseSayings_X6_has_n58 : GoodIn wsX0_falseSayings (wsX6_has) := ggX0_falseSayings_X6_has
theorem dX0_falseSayings_0 : decode cX0_falseSayings 0 = .ok (.iconst 0, 1) := by decide +kernel
theorem dX0_falseSayings_1 : decode cX0_falseSayings 1 = .ok (.istore_n 3, 1) := by decide +kernel
theorem dX0_falseSayings_2 : decode cX0_falseSayings 2 = .ok (.iconst 0, 1) := by decide +kernel
theorem dX0_falseSayings_3 : decode cX0_falseSayings 3 = .ok (.istore 4, 2) := by decide +kernel
theorem dX0_falseSayings_5 : decode cX0_falseSayings 5 = .ok (.iload 4, 2) := by decide +kernel
theorem dX0_falseSayings_7 : decode cX0_falseSayings 7 = .ok (.iload_n 2, 1) := by decide +kernel
theorem dX0_falseSayings_8 : decode cX0_falseSayings 8 = .ok (.if_icmp .ge 39, 3) := by decide +kernel
theorem dX0_falseSayings_11 : decode cX0_falseSayings 11 = .ok (.aload_n 0, 1) := by decide +kernel
theorem dX0_falseSayings_12 : decode cX0_falseSayings 12 = .ok (.getfield 9, 3) := by decide +kernel
theorem dX0_falseSayings_15 : decode cX0_falseSayings 15 = .ok (.aload_n 0, 1) := by decide +kernel
theorem dX0_falseSayings_16 : decode cX0_falseSayings 16 = .ok (.iload_n 1, 1) := by decide +kernel
theorem dX0_falseSayings_17 : decode cX0_falseSayings 17 = .ok (.iload 4, 2) := by decide +kernel
theorem dX0_falseSayings_19 : decode cX0_falseSayings 19 = .ok (.invokevirtual 47, 3) := by decide +kernel
theorem dX0_falseSayings_22 : decode cX0_falseSayings 22 = .ok (.invokevirtual 65, 3) := by decide +kernel
theorem dX0_falseSayings_25 : decode cX0_falseSayings 25 = .ok (.aload_n 0, 1) := by decide +kernel
theorem dX0_falseSayings_26 : decode cX0_falseSayings 26 = .ok (.iload_n 1, 1) := by decide +kernel
theorem dX0_falseSayings_27 : decode cX0_falseSayings 27 = .ok (.iload 4, 2) := by decide +kernel
theorem dX0_falseSayings_29 : decode cX0_falseSayings 29 = .ok (.invokevirtual 51, 3) := by decide +kernel
theorem dX0_falseSayings_32 : decode cX0_falseSayings 32 = .ok (.invokestatic 58, 3) := by decide +kernel
theorem dX0_falseSayings_35 : decode cX0_falseSayings 35 = .ok (.ifCond .eq 6, 3) := by decide +kernel
theorem dX0_falseSayings_38 : decode cX0_falseSayings 38 = .ok (.iinc 3 1, 3) := by decide +kernel
theorem dX0_falseSayings_41 : decode cX0_falseSayings 41 = .ok (.iinc 4 1, 3) := by decide +kernel
theorem dX0_falseSayings_44 : decode cX0_falseSayings 44 = .ok (.goto (-39), 3) := by decide +kernel
theorem dX0_falseSayings_47 : decode cX0_falseSayings 47 = .ok (.iload_n 3, 1) := by decide +kernel
theorem dX0_falseSayings_48 : decode cX0_falseSayings 48 = .ok (.ireturn, 1) := by decide +kernel
set_option maxRecDepth 20000 in
theorem ggX0_silentOf_X0_isSilent : GoodIn wsX0_silentOf wsX0_isSilent := goodIn_r _ [7, 1, 8, 9, 10, 11, 6, 12, 13, 14, 15, 16, 17, 18, 19, 20, 21, 22, 23, 24, 25, 26, 27, 28, 29, 30, 31, 32, 33, 36, 37, 38, 39, 40, 41, 42, 43, 44, 45, 46, 47, 48, 49, 50, 51, 52, 53, 54, 55] (by decide +kernel) (by decide +kernel)
set_option maxRecDepth 20000 in
theorem gX0_silentOf_X0_isSilent : GoodIn wsX0_silentOf (wsV RX0 68 RX0 yX0_isSilent wsX0_isSilent) := goodIn_app (goodIn_of _ (by decide +kernel)) ggX0_silentOf_X0_isSilent
set_option maxRecDepth 20000 in
theorem ggX0_silentOf_X6_with : GoodIn wsX0_silentOf wsX6_with := goodIn_r _ [35] (by decide +kernel) (by decide +kernel)
set_option maxRecDepth 20000 in
theorem gX0_silentOf_X6_with_n72 : GoodIn wsX0_silentOf (wsX6_with) := ggX0_silentOf_X6_with
theorem dX0_silentOf_0 : decode cX0_silentOf 0 = .ok (.iconst 0, 1) := by decide +kernel
theorem dX0_silentOf_1 : decode cX0_silentOf 1 = .ok (.istore 4, 2) := by decide +kernel
theorem dX0_silentOf_3 : decode cX0_silentOf 3 = .ok (.iconst 0, 1) := by decide +kernel
theorem dX0_silentOf_4 : decode cX0_silentOf 4 = .ok (.istore 5, 2) := by decide +kernel
theorem dX0_silentOf_6 : decode cX0_silentOf 6 = .ok (.iload 5, 2) := by decide +kernel
theorem dX0_silentOf_8 : decode cX0_silentOf 8 = .ok (.aload_n 0, 1) := by decide +kernel
theorem dX0_silentOf_9 : decode cX0_silentOf 9 = .ok (.getfield 9, 3) := by decide +kernel
theorem dX0_silentOf_12 : decode cX0_silentOf 12 = .ok (.getfield 24, 3) := by decide +kernel
theorem dX0_silentOf_15 : decode cX0_silentOf 15 = .ok (.if_icmp .ge 27, 3) := by decide +kernel
theorem dX0_silentOf_18 : decode cX0_silentOf 18 = .ok (.iload 4, 2) := by decide +kernel
theorem dX0_silentOf_20 : decode cX0_silentOf 20 = .ok (.iload 5, 2) := by decide +kernel
theorem dX0_silentOf_22 : decode cX0_silentOf 22 = .ok (.aload_n 0, 1) := by decide +kernel
theorem dX0_silentOf_23 : decode cX0_silentOf 23 = .ok (.iload 5, 2) := by decide +kernel
theorem dX0_silentOf_25 : decode cX0_silentOf 25 = .ok (.iload_n 1, 1) := by decide +kernel
theorem dX0_silentOf_26 : decode cX0_silentOf 26 = .ok (.iload_n 2, 1) := by decide +kernel
theorem dX0_silentOf_27 : decode cX0_silentOf 27 = .ok (.iload_n 3, 1) := by decide +kernel
theorem dX0_silentOf_28 : decode cX0_silentOf 28 = .ok (.invokevirtual 68, 3) := by decide +kernel
theorem dX0_silentOf_31 : decode cX0_silentOf 31 = .ok (.invokestatic 72, 3) := by decide +kernel
theorem dX0_silentOf_34 : decode cX0_silentOf 34 = .ok (.istore 4, 2) := by decide +kernel
theorem dX0_silentOf_36 : decode cX0_silentOf 36 = .ok (.iinc 5 1, 3) := by decide +kernel
theorem dX0_silentOf_39 : decode cX0_silentOf 39 = .ok (.goto (-33), 3) := by decide +kernel
theorem dX0_silentOf_42 : decode cX0_silentOf 42 = .ok (.iload 4, 2) := by decide +kernel
theorem dX0_silentOf_44 : decode cX0_silentOf 44 = .ok (.ireturn, 1) := by decide +kernel
set_option maxRecDepth 20000 in
theorem ggX0_isSilent_X0_sightOf : GoodIn wsX0_isSilent wsX0_sightOf := goodIn_r _ [7, 8, 9, 10, 11, 12, 13, 14, 15, 16, 17, 18, 19, 20, 21, 22, 29, 30, 31, 46, 47, 48] (by decide +kernel) (by decide +kernel)
set_option maxRecDepth 20000 in
theorem gX0_isSilent_X0_sightOf : GoodIn wsX0_isSilent (wsV RX0 51 RX0 yX0_sightOf wsX0_sightOf) := goodIn_app (goodIn_of _ (by decide +kernel)) ggX0_isSilent_X0_sightOf
set_option maxRecDepth 20000 in
theorem ggX0_isSilent_X0_speakerOf : GoodIn wsX0_isSilent wsX0_speakerOf := goodIn_r _ [26, 8, 9, 10, 11, 12, 13, 14, 15, 16, 17, 18, 19, 20, 21, 22, 29, 30, 31, 46, 47, 48] (by decide +kernel) (by decide +kernel)
set_option maxRecDepth 20000 in
theorem gX0_isSilent_X0_speakerOf : GoodIn wsX0_isSilent (wsV RX0 47 RX0 yX0_speakerOf wsX0_speakerOf) := goodIn_app (goodIn_of _ (by decide +kernel)) ggX0_isSilent_X0_speakerOf
set_option maxRecDepth 20000 in
theorem ggX0_isSilent_X6_has : GoodIn wsX0_isSilent wsX6_has := goodIn_r _ [28] (by decide +kernel) (by decide +kernel)
set_option maxRecDepth 20000 in
theorem gX0_isSilent_X6_has_n58 : GoodIn wsX0_isSilent (wsX6_has) := ggX0_isSilent_X6_has
theorem dX0_isSilent_0 : decode cX0_isSilent 0 = .ok (.iconst 0, 1) := by decide +kernel
theorem dX0_isSilent_1 : decode cX0_isSilent 1 = .ok (.istore 5, 2) := by decide +kernel
theorem dX0_isSilent_3 : decode cX0_isSilent 3 = .ok (.iconst 0, 1) := by decide +kernel
theorem dX0_isSilent_4 : decode cX0_isSilent 4 = .ok (.istore 6, 2) := by decide +kernel
theorem dX0_isSilent_6 : decode cX0_isSilent 6 = .ok (.iload 6, 2) := by decide +kernel
theorem dX0_isSilent_8 : decode cX0_isSilent 8 = .ok (.iload_n 3, 1) := by decide +kernel
theorem dX0_isSilent_9 : decode cX0_isSilent 9 = .ok (.if_icmp .ge 72, 3) := by decide +kernel
theorem dX0_isSilent_12 : decode cX0_isSilent 12 = .ok (.aload_n 0, 1) := by decide +kernel
theorem dX0_isSilent_13 : decode cX0_isSilent 13 = .ok (.iload_n 2, 1) := by decide +kernel
theorem dX0_isSilent_14 : decode cX0_isSilent 14 = .ok (.iload 6, 2) := by decide +kernel
theorem dX0_isSilent_16 : decode cX0_isSilent 16 = .ok (.invokevirtual 51, 3) := by decide +kernel
theorem dX0_isSilent_19 : decode cX0_isSilent 19 = .ok (.iload 4, 2) := by decide +kernel
theorem dX0_isSilent_21 : decode cX0_isSilent 21 = .ok (.if_icmp .ne 54, 3) := by decide +kernel
theorem dX0_isSilent_24 : decode cX0_isSilent 24 = .ok (.aload_n 0, 1) := by decide +kernel
theorem dX0_isSilent_25 : decode cX0_isSilent 25 = .ok (.iload_n 2, 1) := by decide +kernel
theorem dX0_isSilent_26 : decode cX0_isSilent 26 = .ok (.iload 6, 2) := by decide +kernel
theorem dX0_isSilent_28 : decode cX0_isSilent 28 = .ok (.invokevirtual 47, 3) := by decide +kernel
theorem dX0_isSilent_31 : decode cX0_isSilent 31 = .ok (.istore 7, 2) := by decide +kernel
theorem dX0_isSilent_33 : decode cX0_isSilent 33 = .ok (.iload 5, 2) := by decide +kernel
theorem dX0_isSilent_35 : decode cX0_isSilent 35 = .ok (.ifCond .eq 11, 3) := by decide +kernel
theorem dX0_isSilent_38 : decode cX0_isSilent 38 = .ok (.iload 7, 2) := by decide +kernel
theorem dX0_isSilent_40 : decode cX0_isSilent 40 = .ok (.iload_n 1, 1) := by decide +kernel
theorem dX0_isSilent_41 : decode cX0_isSilent 41 = .ok (.if_icmp .ne 5, 3) := by decide +kernel
theorem dX0_isSilent_44 : decode cX0_isSilent 44 = .ok (.iconst 0, 1) := by decide +kernel
theorem dX0_isSilent_45 : decode cX0_isSilent 45 = .ok (.ireturn, 1) := by decide +kernel
theorem dX0_isSilent_46 : decode cX0_isSilent 46 = .ok (.iload 5, 2) := by decide +kernel
theorem dX0_isSilent_48 : decode cX0_isSilent 48 = .ok (.ifCond .ne 20, 3) := by decide +kernel
theorem dX0_isSilent_51 : decode cX0_isSilent 51 = .ok (.aload_n 0, 1) := by decide +kernel
theorem dX0_isSilent_52 : decode cX0_isSilent 52 = .ok (.getfield 9, 3) := by decide +kernel
theorem dX0_isSilent_55 : decode cX0_isSilent 55 = .ok (.getfield 76, 3) := by decide +kernel
theorem dX0_isSilent_58 : decode cX0_isSilent 58 = .ok (.iload_n 1, 1) := by decide +kernel
theorem dX0_isSilent_59 : decode cX0_isSilent 59 = .ok (.iaload, 1) := by decide +kernel
theorem dX0_isSilent_60 : decode cX0_isSilent 60 = .ok (.iload 7, 2) := by decide +kernel
theorem dX0_isSilent_62 : decode cX0_isSilent 62 = .ok (.invokestatic 58, 3) := by decide +kernel
theorem dX0_isSilent_65 : decode cX0_isSilent 65 = .ok (.ifCond .eq 7, 3) := by decide +kernel
theorem dX0_isSilent_68 : decode cX0_isSilent 68 = .ok (.iconst 1, 1) := by decide +kernel
theorem dX0_isSilent_69 : decode cX0_isSilent 69 = .ok (.goto 4, 3) := by decide +kernel
theorem dX0_isSilent_72 : decode cX0_isSilent 72 = .ok (.iconst 0, 1) := by decide +kernel
theorem dX0_isSilent_73 : decode cX0_isSilent 73 = .ok (.istore 5, 2) := by decide +kernel
theorem dX0_isSilent_75 : decode cX0_isSilent 75 = .ok (.iinc 6 1, 3) := by decide +kernel
theorem dX0_isSilent_78 : decode cX0_isSilent 78 = .ok (.goto (-72), 3) := by decide +kernel
theorem dX0_isSilent_81 : decode cX0_isSilent 81 = .ok (.iload 5, 2) := by decide +kernel
theorem dX0_isSilent_83 : decode cX0_isSilent 83 = .ok (.ireturn, 1) := by decide +kernel
set_option maxRecDepth 20000 in
theorem ggX0_mouthsBehind_X5_become : GoodIn wsX0_mouthsBehind wsX5_become := goodIn_r _ [7, 8, 9, 10, 11, 12, 13, 14, 15, 16, 17, 18, 19, 20, 21, 22, 23, 24, 89, 90, 91, 92, 93, 94, 95, 96, 97, 98, 99, 100, 101, 102] (by decide +kernel) (by decide +kernel)
set_option maxRecDepth 20000 in
theorem gX0_mouthsBehind_X5_become : GoodIn wsX0_mouthsBehind (wsV RX0 43 RX5 yX5_become wsX5_become) := goodIn_app (goodIn_of _ (by decide +kernel)) ggX0_mouthsBehind_X5_become
set_option maxRecDepth 20000 in
theorem ggX0_mouthsBehind_X0_speakerOf : GoodIn wsX0_mouthsBehind wsX0_speakerOf := goodIn_r _ [29, 30, 31, 32, 33, 34, 35, 36, 37, 38, 39, 40, 41, 42, 43, 44, 86, 87, 88, 103, 104, 105] (by decide +kernel) (by decide +kernel)
set_option maxRecDepth 20000 in
theorem gX0_mouthsBehind_X0_speakerOf : GoodIn wsX0_mouthsBehind (wsV RX0 47 RX0 yX0_speakerOf wsX0_speakerOf) := goodIn_app (goodIn_of _ (by decide +kernel)) ggX0_mouthsBehind_X0_speakerOf
set_option maxRecDepth 20000 in
theorem ggX0_mouthsBehind_X0_sightOf : GoodIn wsX0_mouthsBehind wsX0_sightOf := goodIn_r _ [48, 30, 31, 32, 33, 34, 35, 36, 37, 38, 39, 40, 41, 42, 43, 44, 86, 87, 88, 103, 104, 105] (by decide +kernel) (by decide +kernel)
set_option maxRecDepth 20000 in
theorem gX0_mouthsBehind_X0_sightOf : GoodIn wsX0_mouthsBehind (wsV RX0 51 RX0 yX0_sightOf wsX0_sightOf) := goodIn_app (goodIn_of _ (by decide +kernel)) ggX0_mouthsBehind_X0_sightOf
set_option maxRecDepth 20000 in
theorem ggX0_mouthsBehind_X5_tell : GoodIn wsX0_mouthsBehind wsX5_tell := goodIn_r _ [52, 9, 22, 21, 53, 40, 54, 55, 56, 57, 58, 59, 60, 61, 89, 90, 91, 92, 93, 94, 95, 96, 97, 98, 99, 100, 101, 102] (by decide +kernel) (by decide +kernel)
set_option maxRecDepth 20000 in
theorem gX0_mouthsBehind_X5_tell : GoodIn wsX0_mouthsBehind (wsV RX0 62 RX5 yX5_tell wsX5_tell) := goodIn_app (goodIn_of _ (by decide +kernel)) ggX0_mouthsBehind_X5_tell
set_option maxRecDepth 20000 in
theorem ggX0_mouthsBehind_X5_whoMaySay : GoodIn wsX0_mouthsBehind wsX5_whoMaySay := goodIn_r _ [65, 9, 66, 67, 68, 6, 69, 23, 21, 12, 70, 71, 72, 73, 10, 15, 20, 74, 75, 76, 77, 8, 78, 79, 80, 81, 22, 82, 40, 83, 53, 54, 84, 85, 89, 90, 91, 92, 93, 94, 95, 96, 97, 98, 99, 100, 101, 102] (by decide +kernel) (by decide +kernel)
set_option maxRecDepth 20000 in
theorem gX0_mouthsBehind_X5_whoMaySay : GoodIn wsX0_mouthsBehind (wsV RX0 80 RX5 yX5_whoMaySay wsX5_whoMaySay) := goodIn_app (goodIn_of _ (by decide +kernel)) ggX0_mouthsBehind_X5_whoMaySay
theorem dX0_mouthsBehind_0 : decode cX0_mouthsBehind 0 = .ok (.aload_n 0, 1) := by decide +kernel
theorem dX0_mouthsBehind_1 : decode cX0_mouthsBehind 1 = .ok (.getfield 15, 3) := by decide +kernel
theorem dX0_mouthsBehind_4 : decode cX0_mouthsBehind 4 = .ok (.aload_n 0, 1) := by decide +kernel
theorem dX0_mouthsBehind_5 : decode cX0_mouthsBehind 5 = .ok (.getfield 9, 3) := by decide +kernel
theorem dX0_mouthsBehind_8 : decode cX0_mouthsBehind 8 = .ok (.invokevirtual 43, 3) := by decide +kernel
theorem dX0_mouthsBehind_11 : decode cX0_mouthsBehind 11 = .ok (.iconst 0, 1) := by decide +kernel
theorem dX0_mouthsBehind_12 : decode cX0_mouthsBehind 12 = .ok (.istore 4, 2) := by decide +kernel
theorem dX0_mouthsBehind_14 : decode cX0_mouthsBehind 14 = .ok (.iload 4, 2) := by decide +kernel
theorem dX0_mouthsBehind_16 : decode cX0_mouthsBehind 16 = .ok (.iload_n 2, 1) := by decide +kernel
theorem dX0_mouthsBehind_17 : decode cX0_mouthsBehind 17 = .ok (.if_icmp .ge 33, 3) := by decide +kernel
theorem dX0_mouthsBehind_20 : decode cX0_mouthsBehind 20 = .ok (.aload_n 0, 1) := by decide +kernel
theorem dX0_mouthsBehind_21 : decode cX0_mouthsBehind 21 = .ok (.getfield 15, 3) := by decide +kernel
theorem dX0_mouthsBehind_24 : decode cX0_mouthsBehind 24 = .ok (.aload_n 0, 1) := by decide +kernel
theorem dX0_mouthsBehind_25 : decode cX0_mouthsBehind 25 = .ok (.iload_n 1, 1) := by decide +kernel
theorem dX0_mouthsBehind_26 : decode cX0_mouthsBehind 26 = .ok (.iload 4, 2) := by decide +kernel
theorem dX0_mouthsBehind_28 : decode cX0_mouthsBehind 28 = .ok (.invokevirtual 47, 3) := by decide +kernel
theorem dX0_mouthsBehind_31 : decode cX0_mouthsBehind 31 = .ok (.iconst 1, 1) := by decide +kernel
theorem dX0_mouthsBehind_32 : decode cX0_mouthsBehind 32 = .ok (.aload_n 0, 1) := by decide +kernel
theorem dX0_mouthsBehind_33 : decode cX0_mouthsBehind 33 = .ok (.iload_n 1, 1) := by decide +kernel
theorem dX0_mouthsBehind_34 : decode cX0_mouthsBehind 34 = .ok (.iload 4, 2) := by decide +kernel
theorem dX0_mouthsBehind_36 : decode cX0_mouthsBehind 36 = .ok (.invokevirtual 51, 3) := by decide +kernel
theorem dX0_mouthsBehind_39 : decode cX0_mouthsBehind 39 = .ok (.ishl, 1) := by decide +kernel
theorem dX0_mouthsBehind_40 : decode cX0_mouthsBehind 40 = .ok (.invokevirtual 62, 3) := by decide +kernel
theorem dX0_mouthsBehind_43 : decode cX0_mouthsBehind 43 = .ok (.pop, 1) := by decide +kernel
theorem dX0_mouthsBehind_44 : decode cX0_mouthsBehind 44 = .ok (.iinc 4 1, 3) := by decide +kernel
theorem dX0_mouthsBehind_47 : decode cX0_mouthsBehind 47 = .ok (.goto (-33), 3) := by decide +kernel
theorem dX0_mouthsBehind_50 : decode cX0_mouthsBehind 50 = .ok (.aload_n 0, 1) := by decide +kernel
theorem dX0_mouthsBehind_51 : decode cX0_mouthsBehind 51 = .ok (.getfield 15, 3) := by decide +kernel
theorem dX0_mouthsBehind_54 : decode cX0_mouthsBehind 54 = .ok (.iload_n 3, 1) := by decide +kernel
theorem dX0_mouthsBehind_55 : decode cX0_mouthsBehind 55 = .ok (.invokevirtual 80, 3) := by decide +kernel
theorem dX0_mouthsBehind_58 : decode cX0_mouthsBehind 58 = .ok (.ireturn, 1) := by decide +kernel
theorem dX1_init_0 : decode cX1_init 0 = .ok (.aload_n 0, 1) := by decide +kernel
theorem dX1_init_1 : decode cX1_init 1 = .ok (.invokespecial 3, 3) := by decide +kernel
theorem dX1_init_4 : decode cX1_init 4 = .ok (.aload_n 0, 1) := by decide +kernel
theorem dX1_init_5 : decode cX1_init 5 = .ok (.bipush 7, 2) := by decide +kernel
theorem dX1_init_7 : decode cX1_init 7 = .ok (.bipush 7, 2) := by decide +kernel
theorem dX1_init_9 : decode cX1_init 9 = .ok (.multianewarray 9 2, 4) := by decide +kernel
theorem dX1_init_13 : decode cX1_init 13 = .ok (.putfield 11, 3) := by decide +kernel
theorem dX1_init_16 : decode cX1_init 16 = .ok (.aload_n 0, 1) := by decide +kernel
theorem dX1_init_17 : decode cX1_init 17 = .ok (.bipush 7, 2) := by decide +kernel
theorem dX1_init_19 : decode cX1_init 19 = .ok (.newarray .int, 2) := by decide +kernel
theorem dX1_init_21 : decode cX1_init 21 = .ok (.putfield 16, 3) := by decide +kernel
theorem dX1_init_24 : decode cX1_init 24 = .ok (.aload_n 0, 1) := by decide +kernel
theorem dX1_init_25 : decode cX1_init 25 = .ok (.bipush 7, 2) := by decide +kernel
theorem dX1_init_27 : decode cX1_init 27 = .ok (.newarray .int, 2) := by decide +kernel
theorem dX1_init_29 : decode cX1_init 29 = .ok (.putfield 20, 3) := by decide +kernel
theorem dX1_init_32 : decode cX1_init 32 = .ok (.aload_n 0, 1) := by decide +kernel
theorem dX1_init_33 : decode cX1_init 33 = .ok (.iconst (-1), 1) := by decide +kernel
theorem dX1_init_34 : decode cX1_init 34 = .ok (.putfield 23, 3) := by decide +kernel
theorem dX1_init_37 : decode cX1_init 37 = .ok (.aload_n 0, 1) := by decide +kernel
theorem dX1_init_38 : decode cX1_init 38 = .ok (.iconst 0, 1) := by decide +kernel
theorem dX1_init_39 : decode cX1_init 39 = .ok (.putfield 27, 3) := by decide +kernel
theorem dX1_init_42 : decode cX1_init 42 = .ok (.aload_n 0, 1) := by decide +kernel
theorem dX1_init_43 : decode cX1_init 43 = .ok (.aload_n 1, 1) := by decide +kernel
theorem dX1_init_44 : decode cX1_init 44 = .ok (.putfield 30, 3) := by decide +kernel
theorem dX1_init_47 : decode cX1_init 47 = .ok (.aload_n 0, 1) := by decide +kernel
theorem dX1_init_48 : decode cX1_init 48 = .ok (.aload_n 2, 1) := by decide +kernel
theorem dX1_init_49 : decode cX1_init 49 = .ok (.putfield 34, 3) := by decide +kernel
theorem dX1_init_52 : decode cX1_init 52 = .ok (.return_, 1) := by decide +kernel
set_option maxRecDepth 20000 in
theorem ggX1_search_X1_knownWhenAllIsSaid : GoodIn wsX1_search wsX1_knownWhenAllIsSaid := goodIn_r _ [9, 3, 4, 10, 11, 12, 13, 14, 15, 16, 17, 18, 19, 20, 21, 22, 23, 24, 25, 26, 27, 28, 29, 30, 31, 32, 33, 34, 35, 36, 37, 38, 39, 40, 41, 42, 43, 44, 45, 46, 47, 48, 49, 50, 51, 52, 53, 54, 55, 56, 57, 58, 59, 60, 61, 62, 63, 64, 65, 66, 67, 68, 69, 70, 71, 72, 73, 74, 75, 76, 77, 78, 79, 80, 81, 82, 83, 84, 85, 107, 108, 109, 110, 111, 112, 113, 114, 115, 116, 117, 118, 119, 120, 121, 122, 123, 124, 125, 126, 127] (by decide +kernel) (by decide +kernel)
set_option maxRecDepth 20000 in
theorem gX1_search_X1_knownWhenAllIsSaid : GoodIn wsX1_search (wsV RX1 37 RX1 yX1_knownWhenAllIsSaid wsX1_knownWhenAllIsSaid) := goodIn_app (goodIn_of _ (by decide +kernel)) ggX1_search_X1_knownWhenAllIsSaid
set_option maxRecDepth 20000 in
theorem ggX1_search_X5_become : GoodIn wsX1_search wsX5_become := goodIn_r _ [15, 16, 17, 18, 19, 20, 21, 22, 23, 24, 25, 26, 27, 28, 29, 30, 31, 32, 114, 115, 116, 117, 118, 119, 120, 121, 122, 123, 124, 125, 126, 127] (by decide +kernel) (by decide +kernel)
set_option maxRecDepth 20000 in
theorem gX1_search_X5_become : GoodIn wsX1_search (wsV RX1 41 RX5 yX5_become wsX5_become) := goodIn_app (goodIn_of _ (by decide +kernel)) ggX1_search_X5_become
set_option maxRecDepth 20000 in
theorem ggX1_search_X5_allPeople : GoodIn wsX1_search wsX5_allPeople := goodIn_r _ [89, 17, 114, 115, 116, 117, 118, 119, 120, 121, 122, 123, 124, 125, 126, 127] (by decide +kernel) (by decide +kernel)
set_option maxRecDepth 20000 in
theorem gX1_search_X5_allPeople : GoodIn wsX1_search (wsV RX1 47 RX5 yX5_allPeople wsX5_allPeople) := goodIn_app (goodIn_of _ (by decide +kernel)) ggX1_search_X5_allPeople
set_option maxRecDepth 20000 in
theorem ggX1_search_X1_speakOn : GoodIn wsX1_search wsX1_speakOn := goodIn_r _ [92, 93, 3, 94, 95, 25, 26, 27, 96, 2, 1, 97, 98, 99, 100, 8, 101, 102, 78, 79, 80, 14, 81, 17, 82, 83, 84, 85, 23, 28, 29, 67, 68, 69, 70, 71, 72, 73, 65, 59, 66, 103, 43, 44, 45, 31, 20, 46, 47, 48, 49, 18, 50, 51, 52, 53, 16, 54, 55, 56, 57, 30, 58, 60, 104, 62, 63, 64, 105, 106, 90, 91, 107, 108, 109, 110, 111, 112, 113, 114, 115, 116, 117, 118, 119, 120, 121, 122, 123, 124, 125, 126, 127] (by decide +kernel) (by decide +kernel)
set_option maxRecDepth 20000 in
theorem gX1_search_X1_speakOn : GoodIn wsX1_search (va_wsS RX1 50 yX1_speakOn wsX1_speakOn) := goodIn_app (goodIn_of _ (by decide +kernel)) ggX1_search_X1_speakOn
theorem dX1_search_0 : decode cX1_search 0 = .ok (.aload_n 0, 1) := by decide +kernel
theorem dX1_search_1 : decode cX1_search 1 = .ok (.aload_n 0, 1) := by decide +kernel
theorem dX1_search_2 : decode cX1_search 2 = .ok (.invokevirtual 37, 3) := by decide +kernel
theorem dX1_search_5 : decode cX1_search 5 = .ok (.putfield 27, 3) := by decide +kernel
theorem dX1_search_8 : decode cX1_search 8 = .ok (.aload_n 0, 1) := by decide +kernel
theorem dX1_search_9 : decode cX1_search 9 = .ok (.iconst (-1), 1) := by decide +kernel
theorem dX1_search_10 : decode cX1_search 10 = .ok (.putfield 23, 3) := by decide +kernel
theorem dX1_search_13 : decode cX1_search 13 = .ok (.aload_n 0, 1) := by decide +kernel
theorem dX1_search_14 : decode cX1_search 14 = .ok (.getfield 34, 3) := by decide +kernel
theorem dX1_search_17 : decode cX1_search 17 = .ok (.aload_n 0, 1) := by decide +kernel
theorem dX1_search_18 : decode cX1_search 18 = .ok (.getfield 30, 3) := by decide +kernel
theorem dX1_search_21 : decode cX1_search 21 = .ok (.invokevirtual 41, 3) := by decide +kernel
theorem dX1_search_24 : decode cX1_search 24 = .ok (.aload_n 0, 1) := by decide +kernel
theorem dX1_search_25 : decode cX1_search 25 = .ok (.iconst 0, 1) := by decide +kernel
theorem dX1_search_26 : decode cX1_search 26 = .ok (.aload_n 0, 1) := by decide +kernel
theorem dX1_search_27 : decode cX1_search 27 = .ok (.getfield 30, 3) := by decide +kernel
theorem dX1_search_30 : decode cX1_search 30 = .ok (.invokevirtual 47, 3) := by decide +kernel
theorem dX1_search_33 : decode cX1_search 33 = .ok (.invokestatic 50, 3) := by decide +kernel
theorem dX1_search_36 : decode cX1_search 36 = .ok (.return_, 1) := by decide +kernel
theorem dX1_mostKnown_0 : decode cX1_mostKnown 0 = .ok (.aload_n 0, 1) := by decide +kernel
theorem dX1_mostKnown_1 : decode cX1_mostKnown 1 = .ok (.getfield 23, 3) := by decide +kernel
theorem dX1_mostKnown_4 : decode cX1_mostKnown 4 = .ok (.ireturn, 1) := by decide +kernel
theorem dX1_speakerAt_0 : decode cX1_speakerAt 0 = .ok (.aload_n 0, 1) := by decide +kernel
theorem dX1_speakerAt_1 : decode cX1_speakerAt 1 = .ok (.getfield 20, 3) := by decide +kernel
theorem dX1_speakerAt_4 : decode cX1_speakerAt 4 = .ok (.iload_n 1, 1) := by decide +kernel
theorem dX1_speakerAt_5 : decode cX1_speakerAt 5 = .ok (.iaload, 1) := by decide +kernel
theorem dX1_speakerAt_6 : decode cX1_speakerAt 6 = .ok (.ireturn, 1) := by decide +kernel
set_option maxRecDepth 20000 in
theorem ggX1_knownWhenAllIsSaid_X5_become : GoodIn wsX1_knownWhenAllIsSaid wsX5_become := goodIn_r _ [8, 9, 10, 11, 12, 13, 14, 15, 16, 17, 18, 19, 20, 21, 22, 23, 24, 25, 86, 87, 88, 89, 90, 91, 92, 93, 94, 95, 96, 97, 98, 99] (by decide +kernel) (by decide +kernel)
set_option maxRecDepth 20000 in
theorem gX1_knownWhenAllIsSaid_X5_become : GoodIn wsX1_knownWhenAllIsSaid (wsV RX1 41 RX5 yX5_become wsX5_become) := goodIn_app (goodIn_of _ (by decide +kernel)) ggX1_knownWhenAllIsSaid_X5_become
set_option maxRecDepth 20000 in
theorem ggX1_knownWhenAllIsSaid_X5_passRounds : GoodIn wsX1_knownWhenAllIsSaid wsX5_passRounds := goodIn_r _ [29, 30, 31, 32, 7, 33, 10, 34, 35, 36, 37, 38, 24, 22, 13, 39, 40, 41, 42, 11, 16, 21, 43, 44, 45, 46, 9, 47, 48, 49, 50, 23, 51, 52, 53, 54, 55, 56, 57, 58, 59, 60, 61, 62, 63, 64, 65, 66, 67, 68, 69, 70, 12, 86, 87, 88, 89, 90, 91, 92, 93, 94, 95, 96, 97, 98, 99] (by decide +kernel) (by decide +kernel)
set_option maxRecDepth 20000 in
theorem gX1_knownWhenAllIsSaid_X5_passRounds : GoodIn wsX1_knownWhenAllIsSaid (wsV RX1 57 RX5 yX5_passRounds wsX5_passRounds) := goodIn_app (goodIn_of _ (by decide +kernel)) ggX1_knownWhenAllIsSaid_X5_passRounds
set_option maxRecDepth 20000 in
theorem ggX1_knownWhenAllIsSaid_X5_knownInAll : GoodIn wsX1_knownWhenAllIsSaid wsX5_knownInAll := goodIn_r _ [74, 10, 75, 76, 77, 7, 78, 16, 21, 22, 60, 61, 62, 63, 64, 65, 66, 86, 87, 88, 89, 90, 91, 92, 93, 94, 95, 96, 97, 98, 99] (by decide +kernel) (by decide +kernel)
set_option maxRecDepth 20000 in
theorem gX1_knownWhenAllIsSaid_X5_knownInAll : GoodIn wsX1_knownWhenAllIsSaid (wsV RX1 61 RX5 yX5_knownInAll wsX5_knownInAll) := goodIn_app (goodIn_of _ (by decide +kernel)) ggX1_knownWhenAllIsSaid_X5_knownInAll
theorem dX1_knownWhenAllIsSaid_0 : decode cX1_knownWhenAllIsSaid 0 = .ok (.aload_n 0, 1) := by decide +kernel
theorem dX1_knownWhenAllIsSaid_1 : decode cX1_knownWhenAllIsSaid 1 = .ok (.getfield 34, 3) := by decide +kernel
theorem dX1_knownWhenAllIsSaid_4 : decode cX1_knownWhenAllIsSaid 4 = .ok (.aload_n 0, 1) := by decide +kernel
theorem dX1_knownWhenAllIsSaid_5 : decode cX1_knownWhenAllIsSaid 5 = .ok (.getfield 30, 3) := by decide +kernel
theorem dX1_knownWhenAllIsSaid_8 : decode cX1_knownWhenAllIsSaid 8 = .ok (.invokevirtual 41, 3) := by decide +kernel
theorem dX1_knownWhenAllIsSaid_11 : decode cX1_knownWhenAllIsSaid 11 = .ok (.aload_n 0, 1) := by decide +kernel
theorem dX1_knownWhenAllIsSaid_12 : decode cX1_knownWhenAllIsSaid 12 = .ok (.getfield 34, 3) := by decide +kernel
theorem dX1_knownWhenAllIsSaid_15 : decode cX1_knownWhenAllIsSaid 15 = .ok (.iconst 0, 1) := by decide +kernel
theorem dX1_knownWhenAllIsSaid_16 : decode cX1_knownWhenAllIsSaid 16 = .ok (.putfield 54, 3) := by decide +kernel
theorem dX1_knownWhenAllIsSaid_19 : decode cX1_knownWhenAllIsSaid 19 = .ok (.aload_n 0, 1) := by decide +kernel
theorem dX1_knownWhenAllIsSaid_20 : decode cX1_knownWhenAllIsSaid 20 = .ok (.getfield 34, 3) := by decide +kernel
theorem dX1_knownWhenAllIsSaid_23 : decode cX1_knownWhenAllIsSaid 23 = .ok (.bipush 57, 2) := by decide +kernel
theorem dX1_knownWhenAllIsSaid_25 : decode cX1_knownWhenAllIsSaid 25 = .ok (.invokevirtual 57, 3) := by decide +kernel
theorem dX1_knownWhenAllIsSaid_28 : decode cX1_knownWhenAllIsSaid 28 = .ok (.aload_n 0, 1) := by decide +kernel
theorem dX1_knownWhenAllIsSaid_29 : decode cX1_knownWhenAllIsSaid 29 = .ok (.getfield 34, 3) := by decide +kernel
theorem dX1_knownWhenAllIsSaid_32 : decode cX1_knownWhenAllIsSaid 32 = .ok (.invokevirtual 61, 3) := by decide +kernel
theorem dX1_knownWhenAllIsSaid_35 : decode cX1_knownWhenAllIsSaid 35 = .ok (.ireturn, 1) := by decide +kernel
set_option maxRecDepth 20000 in
theorem ggX1_speakOn_X1_weigh : GoodIn wsX1_speakOn wsX1_weigh := goodIn_r _ [16, 2, 9, 11, 17, 4, 5, 6, 7, 18, 19, 20, 21, 22, 23, 24, 25, 26, 27, 28, 29, 30, 31, 32, 33, 34, 35, 36, 37, 72, 73, 74, 75, 76, 77, 78, 79, 80, 81, 82, 83, 84, 85, 86, 87, 88, 89, 90, 91, 92] (by decide +kernel) (by decide +kernel)
set_option maxRecDepth 20000 in
theorem gX1_speakOn_X1_weigh : GoodIn wsX1_speakOn (wsV RX1 64 RX1 yX1_weigh wsX1_weigh) := goodIn_app (goodIn_of _ (by decide +kernel)) ggX1_speakOn_X1_weigh
set_option maxRecDepth 20000 in
theorem ggX1_speakOn_X6_has : GoodIn wsX1_speakOn wsX6_has := goodIn_r _ [40] (by decide +kernel) (by decide +kernel)
set_option maxRecDepth 20000 in
theorem gX1_speakOn_X6_has_n79 : GoodIn wsX1_speakOn (wsX6_has) := ggX1_speakOn_X6_has
set_option maxRecDepth 20000 in
theorem ggX1_speakOn_X5_sayableBy : GoodIn wsX1_speakOn wsX5_sayableBy := goodIn_r _ [44, 45, 30, 46, 47, 48, 49, 21, 50, 51, 28, 29, 52, 53, 54, 55, 56, 57, 58, 59, 60, 23, 61, 62, 39, 63, 79, 80, 81, 82, 83, 84, 85, 86, 87, 88, 89, 90, 91, 92] (by decide +kernel) (by decide +kernel)
set_option maxRecDepth 20000 in
theorem gX1_speakOn_X5_sayableBy : GoodIn wsX1_speakOn (wsV RX1 83 RX5 yX5_sayableBy wsX5_sayableBy) := goodIn_app (goodIn_of _ (by decide +kernel)) ggX1_speakOn_X5_sayableBy
set_option maxRecDepth 20000 in
theorem ggX1_speakOn_X5_tell : GoodIn wsX1_speakOn wsX5_tell := goodIn_r _ [67, 23, 61, 30, 38, 39, 40, 31, 32, 33, 34, 35, 36, 37, 79, 80, 81, 82, 83, 84, 85, 86, 87, 88, 89, 90, 91, 92] (by decide +kernel) (by decide +kernel)
set_option maxRecDepth 20000 in
theorem gX1_speakOn_X5_tell : GoodIn wsX1_speakOn (wsV RX1 87 RX5 yX5_tell wsX5_tell) := goodIn_app (goodIn_of _ (by decide +kernel)) ggX1_speakOn_X5_tell
set_option maxRecDepth 20000 in
theorem ggX1_speakOn_X6_with : GoodIn wsX1_speakOn wsX6_with := goodIn_r _ [69] (by decide +kernel) (by decide +kernel)
set_option maxRecDepth 20000 in
theorem gX1_speakOn_X6_with_n91 : GoodIn wsX1_speakOn (wsX6_with) := ggX1_speakOn_X6_with
set_option maxRecDepth 20000 in
theorem ggX1_speakOn_X1_speakOn : GoodIn wsX1_speakOn wsX1_speakOn := goodIn_r _ [0, 1, 2, 3, 4, 5, 6, 7, 8, 9, 10, 11, 12, 13, 14, 15, 16, 17, 18, 19, 20, 21, 22, 23, 24, 25, 26, 27, 28, 29, 30, 31, 32, 33, 34, 35, 36, 37, 38, 39, 40, 41, 42, 43, 44, 45, 46, 47, 48, 49, 50, 51, 52, 53, 54, 55, 56, 57, 58, 59, 60, 61, 62, 63, 64, 65, 66, 67, 68, 69, 70, 71, 72, 73, 74, 75, 76, 77, 78, 79, 80, 81, 82, 83, 84, 85, 86, 87, 88, 89, 90, 91, 92] (by decide +kernel) (by decide +kernel)
set_option maxRecDepth 20000 in
theorem gX1_speakOn_X1_speakOn : GoodIn wsX1_speakOn (va_wsS RX1 50 yX1_speakOn wsX1_speakOn) := goodIn_app (goodIn_of _ (by decide +kernel)) ggX1_speakOn_X1_speakOn
theorem dX1_speakOn_0 : decode cX1_speakOn 0 = .ok (.iload_n 2, 1) := by decide +kernel
theorem dX1_speakOn_1 : decode cX1_speakOn 1 = .ok (.ifCond .eq 9, 3) := by decide +kernel
theorem dX1_speakOn_4 : decode cX1_speakOn 4 = .ok (.iload_n 1, 1) := by decide +kernel
theorem dX1_speakOn_5 : decode cX1_speakOn 5 = .ok (.bipush 7, 2) := by decide +kernel
theorem dX1_speakOn_7 : decode cX1_speakOn 7 = .ok (.if_icmp .lt 8, 3) := by decide +kernel
theorem dX1_speakOn_10 : decode cX1_speakOn 10 = .ok (.aload_n 0, 1) := by decide +kernel
theorem dX1_speakOn_11 : decode cX1_speakOn 11 = .ok (.invokevirtual 64, 3) := by decide +kernel
theorem dX1_speakOn_14 : decode cX1_speakOn 14 = .ok (.return_, 1) := by decide +kernel
theorem dX1_speakOn_15 : decode cX1_speakOn 15 = .ok (.aload_n 0, 1) := by decide +kernel
theorem dX1_speakOn_16 : decode cX1_speakOn 16 = .ok (.getfield 11, 3) := by decide +kernel
theorem dX1_speakOn_19 : decode cX1_speakOn 19 = .ok (.iload_n 1, 1) := by decide +kernel
theorem dX1_speakOn_20 : decode cX1_speakOn 20 = .ok (.aaload, 1) := by decide +kernel
theorem dX1_speakOn_21 : decode cX1_speakOn 21 = .ok (.astore_n 3, 1) := by decide +kernel
theorem dX1_speakOn_22 : decode cX1_speakOn 22 = .ok (.aload_n 0, 1) := by decide +kernel
theorem dX1_speakOn_23 : decode cX1_speakOn 23 = .ok (.getfield 34, 3) := by decide +kernel
theorem dX1_speakOn_26 : decode cX1_speakOn 26 = .ok (.getfield 67, 3) := by decide +kernel
theorem dX1_speakOn_29 : decode cX1_speakOn 29 = .ok (.iconst 0, 1) := by decide +kernel
theorem dX1_speakOn_30 : decode cX1_speakOn 30 = .ok (.aload_n 3, 1) := by decide +kernel
theorem dX1_speakOn_31 : decode cX1_speakOn 31 = .ok (.iconst 0, 1) := by decide +kernel
theorem dX1_speakOn_32 : decode cX1_speakOn 32 = .ok (.bipush 7, 2) := by decide +kernel
theorem dX1_speakOn_34 : decode cX1_speakOn 34 = .ok (.invokestatic 70, 3) := by decide +kernel
theorem dX1_speakOn_37 : decode cX1_speakOn 37 = .ok (.iconst 0, 1) := by decide +kernel
theorem dX1_speakOn_38 : decode cX1_speakOn 38 = .ok (.istore 4, 2) := by decide +kernel
theorem dX1_speakOn_40 : decode cX1_speakOn 40 = .ok (.iload 4, 2) := by decide +kernel
theorem dX1_speakOn_42 : decode cX1_speakOn 42 = .ok (.aload_n 0, 1) := by decide +kernel
theorem dX1_speakOn_43 : decode cX1_speakOn 43 = .ok (.getfield 34, 3) := by decide +kernel
theorem dX1_speakOn_46 : decode cX1_speakOn 46 = .ok (.getfield 76, 3) := by decide +kernel
theorem dX1_speakOn_49 : decode cX1_speakOn 49 = .ok (.if_icmp .ge 85, 3) := by decide +kernel
theorem dX1_speakOn_52 : decode cX1_speakOn 52 = .ok (.aload_n 0, 1) := by decide +kernel
theorem dX1_speakOn_53 : decode cX1_speakOn 53 = .ok (.getfield 23, 3) := by decide +kernel
theorem dX1_speakOn_56 : decode cX1_speakOn 56 = .ok (.aload_n 0, 1) := by decide +kernel
theorem dX1_speakOn_57 : decode cX1_speakOn 57 = .ok (.getfield 27, 3) := by decide +kernel
theorem dX1_speakOn_60 : decode cX1_speakOn 60 = .ok (.if_icmp .ge 74, 3) := by decide +kernel
theorem dX1_speakOn_63 : decode cX1_speakOn 63 = .ok (.iload_n 2, 1) := by decide +kernel
theorem dX1_speakOn_64 : decode cX1_speakOn 64 = .ok (.iload 4, 2) := by decide +kernel
theorem dX1_speakOn_66 : decode cX1_speakOn 66 = .ok (.invokestatic 79, 3) := by decide +kernel
theorem dX1_speakOn_69 : decode cX1_speakOn 69 = .ok (.ifCond .eq 59, 3) := by decide +kernel
theorem dX1_speakOn_72 : decode cX1_speakOn 72 = .ok (.aload_n 0, 1) := by decide +kernel
theorem dX1_speakOn_73 : decode cX1_speakOn 73 = .ok (.getfield 16, 3) := by decide +kernel
theorem dX1_speakOn_76 : decode cX1_speakOn 76 = .ok (.iload_n 1, 1) := by decide +kernel
theorem dX1_speakOn_77 : decode cX1_speakOn 77 = .ok (.iload 4, 2) := by decide +kernel
theorem dX1_speakOn_79 : decode cX1_speakOn 79 = .ok (.iastore, 1) := by decide +kernel
theorem dX1_speakOn_80 : decode cX1_speakOn 80 = .ok (.aload_n 0, 1) := by decide +kernel
theorem dX1_speakOn_81 : decode cX1_speakOn 81 = .ok (.getfield 34, 3) := by decide +kernel
theorem dX1_speakOn_84 : decode cX1_speakOn 84 = .ok (.iload 4, 2) := by decide +kernel
theorem dX1_speakOn_86 : decode cX1_speakOn 86 = .ok (.aload_n 0, 1) := by decide +kernel
theorem dX1_speakOn_87 : decode cX1_speakOn 87 = .ok (.getfield 34, 3) := by decide +kernel
theorem dX1_speakOn_90 : decode cX1_speakOn 90 = .ok (.iload 4, 2) := by decide +kernel
theorem dX1_speakOn_92 : decode cX1_speakOn 92 = .ok (.invokevirtual 83, 3) := by decide +kernel
theorem dX1_speakOn_95 : decode cX1_speakOn 95 = .ok (.invokevirtual 87, 3) := by decide +kernel
theorem dX1_speakOn_98 : decode cX1_speakOn 98 = .ok (.pop, 1) := by decide +kernel
theorem dX1_speakOn_99 : decode cX1_speakOn 99 = .ok (.aload_n 0, 1) := by decide +kernel
theorem dX1_speakOn_100 : decode cX1_speakOn 100 = .ok (.iload_n 1, 1) := by decide +kernel
theorem dX1_speakOn_101 : decode cX1_speakOn 101 = .ok (.iconst 1, 1) := by decide +kernel
theorem dX1_speakOn_102 : decode cX1_speakOn 102 = .ok (.iadd, 1) := by decide +kernel
theorem dX1_speakOn_103 : decode cX1_speakOn 103 = .ok (.iload_n 2, 1) := by decide +kernel
theorem dX1_speakOn_104 : decode cX1_speakOn 104 = .ok (.iload 4, 2) := by decide +kernel
theorem dX1_speakOn_106 : decode cX1_speakOn 106 = .ok (.iconst 0, 1) := by decide +kernel
theorem dX1_speakOn_107 : decode cX1_speakOn 107 = .ok (.invokestatic 91, 3) := by decide +kernel
theorem dX1_speakOn_110 : decode cX1_speakOn 110 = .ok (.invokestatic 50, 3) := by decide +kernel
theorem dX1_speakOn_113 : decode cX1_speakOn 113 = .ok (.aload_n 3, 1) := by decide +kernel
theorem dX1_speakOn_114 : decode cX1_speakOn 114 = .ok (.iconst 0, 1) := by decide +kernel
theorem dX1_speakOn_115 : decode cX1_speakOn 115 = .ok (.aload_n 0, 1) := by decide +kernel
theorem dX1_speakOn_116 : decode cX1_speakOn 116 = .ok (.getfield 34, 3) := by decide +kernel
theorem dX1_speakOn_119 : decode cX1_speakOn 119 = .ok (.getfield 67, 3) := by decide +kernel
theorem dX1_speakOn_122 : decode cX1_speakOn 122 = .ok (.iconst 0, 1) := by decide +kernel
theorem dX1_speakOn_123 : decode cX1_speakOn 123 = .ok (.bipush 7, 2) := by decide +kernel
theorem dX1_speakOn_125 : decode cX1_speakOn 125 = .ok (.invokestatic 70, 3) := by decide +kernel
theorem dX1_speakOn_128 : decode cX1_speakOn 128 = .ok (.iinc 4 1, 3) := by decide +kernel
theorem dX1_speakOn_131 : decode cX1_speakOn 131 = .ok (.goto (-91), 3) := by decide +kernel
theorem dX1_speakOn_134 : decode cX1_speakOn 134 = .ok (.return_, 1) := by decide +kernel
set_option maxRecDepth 20000 in
theorem ggX1_weigh_X5_knownInAll : GoodIn wsX1_weigh wsX5_knownInAll := goodIn_r _ [13, 14, 15, 16, 17, 12, 18, 19, 20, 21, 22, 23, 24, 25, 26, 27, 28, 36, 37, 38, 39, 40, 41, 42, 43, 44, 45, 46, 47, 48, 49] (by decide +kernel) (by decide +kernel)
set_option maxRecDepth 20000 in
theorem gX1_weigh_X5_knownInAll : GoodIn wsX1_weigh (wsV RX1 61 RX5 yX5_knownInAll wsX5_knownInAll) := goodIn_app (goodIn_of _ (by decide +kernel)) ggX1_weigh_X5_knownInAll
theorem dX1_weigh_0 : decode cX1_weigh 0 = .ok (.aload_n 0, 1) := by decide +kernel
theorem dX1_weigh_1 : decode cX1_weigh 1 = .ok (.getfield 34, 3) := by decide +kernel
theorem dX1_weigh_4 : decode cX1_weigh 4 = .ok (.invokevirtual 61, 3) := by decide +kernel
theorem dX1_weigh_7 : decode cX1_weigh 7 = .ok (.istore_n 1, 1) := by decide +kernel
theorem dX1_weigh_8 : decode cX1_weigh 8 = .ok (.iload_n 1, 1) := by decide +kernel
theorem dX1_weigh_9 : decode cX1_weigh 9 = .ok (.aload_n 0, 1) := by decide +kernel
theorem dX1_weigh_10 : decode cX1_weigh 10 = .ok (.getfield 23, 3) := by decide +kernel
theorem dX1_weigh_13 : decode cX1_weigh 13 = .ok (.if_icmp .le 23, 3) := by decide +kernel
theorem dX1_weigh_16 : decode cX1_weigh 16 = .ok (.aload_n 0, 1) := by decide +kernel
theorem dX1_weigh_17 : decode cX1_weigh 17 = .ok (.iload_n 1, 1) := by decide +kernel
theorem dX1_weigh_18 : decode cX1_weigh 18 = .ok (.putfield 23, 3) := by decide +kernel
theorem dX1_weigh_21 : decode cX1_weigh 21 = .ok (.aload_n 0, 1) := by decide +kernel
theorem dX1_weigh_22 : decode cX1_weigh 22 = .ok (.getfield 16, 3) := by decide +kernel
theorem dX1_weigh_25 : decode cX1_weigh 25 = .ok (.iconst 0, 1) := by decide +kernel
theorem dX1_weigh_26 : decode cX1_weigh 26 = .ok (.aload_n 0, 1) := by decide +kernel
theorem dX1_weigh_27 : decode cX1_weigh 27 = .ok (.getfield 20, 3) := by decide +kernel
theorem dX1_weigh_30 : decode cX1_weigh 30 = .ok (.iconst 0, 1) := by decide +kernel
theorem dX1_weigh_31 : decode cX1_weigh 31 = .ok (.bipush 7, 2) := by decide +kernel
theorem dX1_weigh_33 : decode cX1_weigh 33 = .ok (.invokestatic 70, 3) := by decide +kernel
theorem dX1_weigh_36 : decode cX1_weigh 36 = .ok (.return_, 1) := by decide +kernel
theorem dX2_init_0 : decode cX2_init 0 = .ok (.aload_n 0, 1) := by decide +kernel
theorem dX2_init_1 : decode cX2_init 1 = .ok (.invokespecial 3, 3) := by decide +kernel
theorem dX2_init_4 : decode cX2_init 4 = .ok (.aload_n 0, 1) := by decide +kernel
theorem dX2_init_5 : decode cX2_init 5 = .ok (.aload_n 1, 1) := by decide +kernel
theorem dX2_init_6 : decode cX2_init 6 = .ok (.putfield 9, 3) := by decide +kernel
theorem dX2_init_9 : decode cX2_init 9 = .ok (.aload_n 0, 1) := by decide +kernel
theorem dX2_init_10 : decode cX2_init 10 = .ok (.aload_n 2, 1) := by decide +kernel
theorem dX2_init_11 : decode cX2_init 11 = .ok (.putfield 15, 3) := by decide +kernel
theorem dX2_init_14 : decode cX2_init 14 = .ok (.return_, 1) := by decide +kernel
set_option maxRecDepth 20000 in
theorem ggX2_after_X5_become : GoodIn wsX2_after wsX5_become := goodIn_r _ [7, 8, 9, 10, 11, 12, 13, 14, 15, 16, 17, 18, 19, 20, 21, 22, 23, 24, 72, 73, 74, 75, 76, 77, 78, 79, 80, 81, 82, 83, 84, 85] (by decide +kernel) (by decide +kernel)
set_option maxRecDepth 20000 in
theorem gX2_after_X5_become : GoodIn wsX2_after (wsV RX2 18 RX5 yX5_become wsX5_become) := goodIn_app (goodIn_of _ (by decide +kernel)) ggX2_after_X5_become
set_option maxRecDepth 20000 in
theorem ggX2_after_X5_passRounds : GoodIn wsX2_after wsX5_passRounds := goodIn_r _ [28, 29, 30, 31, 6, 32, 9, 33, 34, 35, 36, 37, 23, 21, 12, 38, 39, 40, 41, 10, 15, 20, 42, 43, 44, 45, 8, 46, 47, 48, 49, 22, 50, 51, 52, 53, 54, 55, 56, 57, 58, 59, 60, 61, 62, 63, 64, 65, 66, 67, 68, 69, 11, 72, 73, 74, 75, 76, 77, 78, 79, 80, 81, 82, 83, 84, 85] (by decide +kernel) (by decide +kernel)
set_option maxRecDepth 20000 in
theorem gX2_after_X5_passRounds : GoodIn wsX2_after (wsV RX2 24 RX5 yX5_passRounds wsX5_passRounds) := goodIn_app (goodIn_of _ (by decide +kernel)) ggX2_after_X5_passRounds
theorem dX2_after_0 : decode cX2_after 0 = .ok (.aload_n 0, 1) := by decide +kernel
theorem dX2_after_1 : decode cX2_after 1 = .ok (.getfield 15, 3) := by decide +kernel
theorem dX2_after_4 : decode cX2_after 4 = .ok (.aload_n 0, 1) := by decide +kernel
theorem dX2_after_5 : decode cX2_after 5 = .ok (.getfield 9, 3) := by decide +kernel
theorem dX2_after_8 : decode cX2_after 8 = .ok (.invokevirtual 18, 3) := by decide +kernel
theorem dX2_after_11 : decode cX2_after 11 = .ok (.aload_n 0, 1) := by decide +kernel
theorem dX2_after_12 : decode cX2_after 12 = .ok (.getfield 15, 3) := by decide +kernel
theorem dX2_after_15 : decode cX2_after 15 = .ok (.iload_n 1, 1) := by decide +kernel
theorem dX2_after_16 : decode cX2_after 16 = .ok (.invokevirtual 24, 3) := by decide +kernel
theorem dX2_after_19 : decode cX2_after 19 = .ok (.aload_n 0, 1) := by decide +kernel
theorem dX2_after_20 : decode cX2_after 20 = .ok (.getfield 15, 3) := by decide +kernel
theorem dX2_after_23 : decode cX2_after 23 = .ok (.areturn, 1) := by decide +kernel
set_option maxRecDepth 20000 in
theorem ggX2_untilStill_X5_become : GoodIn wsX2_untilStill wsX5_become := goodIn_r _ [7, 8, 9, 10, 11, 12, 13, 14, 15, 16, 17, 18, 19, 20, 21, 22, 23, 24, 68, 69, 70, 71, 72, 73, 74, 75, 76, 77, 78, 79, 80, 81] (by decide +kernel) (by decide +kernel)
set_option maxRecDepth 20000 in
theorem gX2_untilStill_X5_become : GoodIn wsX2_untilStill (wsV RX2 18 RX5 yX5_become wsX5_become) := goodIn_app (goodIn_of _ (by decide +kernel)) ggX2_untilStill_X5_become
set_option maxRecDepth 20000 in
theorem ggX2_untilStill_X5_passRound : GoodIn wsX2_untilStill wsX5_passRound := goodIn_r _ [28, 9, 29, 30, 31, 32, 6, 33, 23, 21, 12, 34, 35, 36, 37, 10, 15, 20, 38, 39, 40, 41, 8, 42, 43, 44, 45, 22, 46, 47, 48, 49, 50, 51, 52, 53, 54, 55, 56, 57, 58, 59, 60, 61, 62, 63, 64, 65, 11, 68, 69, 70, 71, 72, 73, 74, 75, 76, 77, 78, 79, 80, 81] (by decide +kernel) (by decide +kernel)
set_option maxRecDepth 20000 in
theorem gX2_untilStill_X5_passRound : GoodIn wsX2_untilStill (wsV RX2 28 RX5 yX5_passRound wsX5_passRound) := goodIn_app (goodIn_of _ (by decide +kernel)) ggX2_untilStill_X5_passRound
theorem dX2_untilStill_0 : decode cX2_untilStill 0 = .ok (.aload_n 0, 1) := by decide +kernel
theorem dX2_untilStill_1 : decode cX2_untilStill 1 = .ok (.getfield 15, 3) := by decide +kernel
theorem dX2_untilStill_4 : decode cX2_untilStill 4 = .ok (.aload_n 0, 1) := by decide +kernel
theorem dX2_untilStill_5 : decode cX2_untilStill 5 = .ok (.getfield 9, 3) := by decide +kernel
theorem dX2_untilStill_8 : decode cX2_untilStill 8 = .ok (.invokevirtual 18, 3) := by decide +kernel
theorem dX2_untilStill_11 : decode cX2_untilStill 11 = .ok (.iconst 0, 1) := by decide +kernel
theorem dX2_untilStill_12 : decode cX2_untilStill 12 = .ok (.istore_n 1, 1) := by decide +kernel
theorem dX2_untilStill_13 : decode cX2_untilStill 13 = .ok (.iload_n 1, 1) := by decide +kernel
theorem dX2_untilStill_14 : decode cX2_untilStill 14 = .ok (.bipush 20, 2) := by decide +kernel
theorem dX2_untilStill_16 : decode cX2_untilStill 16 = .ok (.if_icmp .ge 21, 3) := by decide +kernel
theorem dX2_untilStill_19 : decode cX2_untilStill 19 = .ok (.aload_n 0, 1) := by decide +kernel
theorem dX2_untilStill_20 : decode cX2_untilStill 20 = .ok (.getfield 15, 3) := by decide +kernel
theorem dX2_untilStill_23 : decode cX2_untilStill 23 = .ok (.invokevirtual 28, 3) := by decide +kernel
theorem dX2_untilStill_26 : decode cX2_untilStill 26 = .ok (.ifCond .ne 5, 3) := by decide +kernel
theorem dX2_untilStill_29 : decode cX2_untilStill 29 = .ok (.iload_n 1, 1) := by decide +kernel
theorem dX2_untilStill_30 : decode cX2_untilStill 30 = .ok (.ireturn, 1) := by decide +kernel
theorem dX2_untilStill_31 : decode cX2_untilStill 31 = .ok (.iinc 1 1, 3) := by decide +kernel
theorem dX2_untilStill_34 : decode cX2_untilStill 34 = .ok (.goto (-21), 3) := by decide +kernel
theorem dX2_untilStill_37 : decode cX2_untilStill 37 = .ok (.bipush 20, 2) := by decide +kernel
theorem dX2_untilStill_39 : decode cX2_untilStill 39 = .ok (.ireturn, 1) := by decide +kernel
set_option maxRecDepth 20000 in
theorem ggX2_untilKnown_X5_become : GoodIn wsX2_untilKnown wsX5_become := goodIn_r _ [7, 8, 9, 10, 11, 12, 13, 14, 15, 16, 17, 18, 19, 20, 21, 22, 23, 24, 72, 73, 74, 75, 76, 77, 78, 79, 80, 81, 82, 83, 84, 85] (by decide +kernel) (by decide +kernel)
set_option maxRecDepth 20000 in
theorem gX2_untilKnown_X5_become : GoodIn wsX2_untilKnown (wsV RX2 18 RX5 yX5_become wsX5_become) := goodIn_app (goodIn_of _ (by decide +kernel)) ggX2_untilKnown_X5_become
set_option maxRecDepth 20000 in
theorem ggX2_untilKnown_X5_knownTo : GoodIn wsX2_untilKnown wsX5_knownTo := goodIn_r _ [28, 15, 20, 21, 72, 73, 74, 75, 76, 77, 78, 79, 80, 81, 82, 83, 84, 85] (by decide +kernel) (by decide +kernel)
set_option maxRecDepth 20000 in
theorem gX2_untilKnown_X5_knownTo : GoodIn wsX2_untilKnown (wsV RX2 32 RX5 yX5_knownTo wsX5_knownTo) := goodIn_app (goodIn_of _ (by decide +kernel)) ggX2_untilKnown_X5_knownTo
set_option maxRecDepth 20000 in
theorem ggX2_untilKnown_X6_has : GoodIn wsX2_untilKnown wsX6_has := goodIn_r _ [31] (by decide +kernel) (by decide +kernel)
set_option maxRecDepth 20000 in
theorem gX2_untilKnown_X6_has_n36 : GoodIn wsX2_untilKnown (wsX6_has) := ggX2_untilKnown_X6_has
set_option maxRecDepth 20000 in
theorem ggX2_untilKnown_X5_passRound : GoodIn wsX2_untilKnown wsX5_passRound := goodIn_r _ [35, 9, 36, 37, 38, 39, 6, 40, 23, 21, 12, 41, 42, 43, 44, 10, 15, 20, 45, 46, 47, 48, 8, 49, 50, 51, 52, 22, 53, 30, 54, 55, 56, 57, 58, 29, 31, 59, 60, 61, 62, 63, 64, 65, 66, 67, 68, 69, 11, 72, 73, 74, 75, 76, 77, 78, 79, 80, 81, 82, 83, 84, 85] (by decide +kernel) (by decide +kernel)
set_option maxRecDepth 20000 in
theorem gX2_untilKnown_X5_passRound : GoodIn wsX2_untilKnown (wsV RX2 28 RX5 yX5_passRound wsX5_passRound) := goodIn_app (goodIn_of _ (by decide +kernel)) ggX2_untilKnown_X5_passRound
theorem dX2_untilKnown_0 : decode cX2_untilKnown 0 = .ok (.aload_n 0, 1) := by decide +kernel
theorem dX2_untilKnown_1 : decode cX2_untilKnown 1 = .ok (.getfield 15, 3) := by decide +kernel
theorem dX2_untilKnown_4 : decode cX2_untilKnown 4 = .ok (.aload_n 0, 1) := by decide +kernel
theorem dX2_untilKnown_5 : decode cX2_untilKnown 5 = .ok (.getfield 9, 3) := by decide +kernel
theorem dX2_untilKnown_8 : decode cX2_untilKnown 8 = .ok (.invokevirtual 18, 3) := by decide +kernel
theorem dX2_untilKnown_11 : decode cX2_untilKnown 11 = .ok (.iconst 1, 1) := by decide +kernel
theorem dX2_untilKnown_12 : decode cX2_untilKnown 12 = .ok (.istore_n 3, 1) := by decide +kernel
theorem dX2_untilKnown_13 : decode cX2_untilKnown 13 = .ok (.iconst 0, 1) := by decide +kernel
theorem dX2_untilKnown_14 : decode cX2_untilKnown 14 = .ok (.istore 4, 2) := by decide +kernel
theorem dX2_untilKnown_16 : decode cX2_untilKnown 16 = .ok (.iload 4, 2) := by decide +kernel
theorem dX2_untilKnown_18 : decode cX2_untilKnown 18 = .ok (.bipush 20, 2) := by decide +kernel
theorem dX2_untilKnown_20 : decode cX2_untilKnown 20 = .ok (.if_icmp .gt 39, 3) := by decide +kernel
theorem dX2_untilKnown_23 : decode cX2_untilKnown 23 = .ok (.iload_n 3, 1) := by decide +kernel
theorem dX2_untilKnown_24 : decode cX2_untilKnown 24 = .ok (.ifCond .eq 35, 3) := by decide +kernel
theorem dX2_untilKnown_27 : decode cX2_untilKnown 27 = .ok (.aload_n 0, 1) := by decide +kernel
theorem dX2_untilKnown_28 : decode cX2_untilKnown 28 = .ok (.getfield 15, 3) := by decide +kernel
theorem dX2_untilKnown_31 : decode cX2_untilKnown 31 = .ok (.iload_n 1, 1) := by decide +kernel
theorem dX2_untilKnown_32 : decode cX2_untilKnown 32 = .ok (.invokevirtual 32, 3) := by decide +kernel
theorem dX2_untilKnown_35 : decode cX2_untilKnown 35 = .ok (.iload_n 2, 1) := by decide +kernel
theorem dX2_untilKnown_36 : decode cX2_untilKnown 36 = .ok (.invokestatic 36, 3) := by decide +kernel
theorem dX2_untilKnown_39 : decode cX2_untilKnown 39 = .ok (.ifCond .eq 6, 3) := by decide +kernel
theorem dX2_untilKnown_42 : decode cX2_untilKnown 42 = .ok (.iload 4, 2) := by decide +kernel
theorem dX2_untilKnown_44 : decode cX2_untilKnown 44 = .ok (.ireturn, 1) := by decide +kernel
theorem dX2_untilKnown_45 : decode cX2_untilKnown 45 = .ok (.aload_n 0, 1) := by decide +kernel
theorem dX2_untilKnown_46 : decode cX2_untilKnown 46 = .ok (.getfield 15, 3) := by decide +kernel
theorem dX2_untilKnown_49 : decode cX2_untilKnown 49 = .ok (.invokevirtual 28, 3) := by decide +kernel
theorem dX2_untilKnown_52 : decode cX2_untilKnown 52 = .ok (.istore_n 3, 1) := by decide +kernel
theorem dX2_untilKnown_53 : decode cX2_untilKnown 53 = .ok (.iinc 4 1, 3) := by decide +kernel
theorem dX2_untilKnown_56 : decode cX2_untilKnown 56 = .ok (.goto (-40), 3) := by decide +kernel
theorem dX2_untilKnown_59 : decode cX2_untilKnown 59 = .ok (.iconst (-1), 1) := by decide +kernel
theorem dX2_untilKnown_60 : decode cX2_untilKnown 60 = .ok (.ireturn, 1) := by decide +kernel
set_option maxRecDepth 20000 in
theorem ggX2_fewestToShow_X5_allPeople : GoodIn wsX2_fewestToShow wsX5_allPeople := goodIn_r _ [7, 8, 97, 98, 99, 100, 101, 102, 103, 104, 105, 106, 107, 108, 109, 110] (by decide +kernel) (by decide +kernel)
set_option maxRecDepth 20000 in
theorem gX2_fewestToShow_X5_allPeople : GoodIn wsX2_fewestToShow (wsV RX2 40 RX5 yX5_allPeople wsX5_allPeople) := goodIn_app (goodIn_of _ (by decide +kernel)) ggX2_fewestToShow_X5_allPeople
set_option maxRecDepth 20000 in
theorem ggX2_fewestToShow_X5_allBlind : GoodIn wsX2_fewestToShow wsX5_allBlind := goodIn_r _ [12, 8, 13, 14, 15, 16, 97, 98, 99, 100, 101, 102, 103, 104, 105, 106, 107, 108, 109, 110] (by decide +kernel) (by decide +kernel)
set_option maxRecDepth 20000 in
theorem gX2_fewestToShow_X5_allBlind : GoodIn wsX2_fewestToShow (wsV RX2 44 RX5 yX5_allBlind wsX5_allBlind) := goodIn_app (goodIn_of _ (by decide +kernel)) ggX2_fewestToShow_X5_allBlind
set_option maxRecDepth 20000 in
theorem ggX2_fewestToShow_J6_bitCount_0f7a4 : GoodIn wsX2_fewestToShow wsJ6_bitCount_0f7a4 := goodIn_r _ [20, 21, 22, 23] (by decide +kernel) (by decide +kernel)
set_option maxRecDepth 20000 in
theorem gX2_fewestToShow_J6_bitCount_0f7a4 : GoodIn wsX2_fewestToShow (va_wsS RX2 51 yJ6_bitCount_0f7a4 wsJ6_bitCount_0f7a4) := goodIn_app (goodIn_of _ (by decide +kernel)) ggX2_fewestToShow_J6_bitCount_0f7a4
set_option maxRecDepth 20000 in
theorem ggX2_fewestToShow_X2_isHushed : GoodIn wsX2_fewestToShow wsX2_isHushed := goodIn_r _ [28, 29, 1, 30, 31, 32, 6, 33, 34, 8, 35, 36, 37, 38, 39, 40, 41, 42, 43, 44, 45, 46, 47, 13, 48, 49, 50, 51, 52, 53, 15, 54, 55, 56, 57, 58, 14, 16, 59, 60, 61, 62, 63, 64, 65, 66, 67, 68, 69, 70, 71, 72, 73, 74, 75, 76, 77, 78, 79, 80, 81, 82, 83, 84, 85, 86, 87, 88, 89, 90, 18, 19, 20, 21, 22, 23, 91, 92, 93, 94, 95, 96, 97, 98, 99, 100, 101, 102, 103, 104, 105, 106, 107, 108, 109, 110] (by decide +kernel) (by decide +kernel)
set_option maxRecDepth 20000 in
theorem gX2_fewestToShow_X2_isHushed : GoodIn wsX2_fewestToShow (wsV RX2 56 RX2 yX2_isHushed wsX2_isHushed) := goodIn_app (goodIn_of _ (by decide +kernel)) ggX2_fewestToShow_X2_isHushed
theorem dX2_fewestToShow_0 : decode cX2_fewestToShow 0 = .ok (.aload_n 0, 1) := by decide +kernel
theorem dX2_fewestToShow_1 : decode cX2_fewestToShow 1 = .ok (.getfield 9, 3) := by decide +kernel
theorem dX2_fewestToShow_4 : decode cX2_fewestToShow 4 = .ok (.invokevirtual 40, 3) := by decide +kernel
theorem dX2_fewestToShow_7 : decode cX2_fewestToShow 7 = .ok (.aload_n 0, 1) := by decide +kernel
theorem dX2_fewestToShow_8 : decode cX2_fewestToShow 8 = .ok (.getfield 9, 3) := by decide +kernel
theorem dX2_fewestToShow_11 : decode cX2_fewestToShow 11 = .ok (.invokevirtual 44, 3) := by decide +kernel
theorem dX2_fewestToShow_14 : decode cX2_fewestToShow 14 = .ok (.iconst (-1), 1) := by decide +kernel
theorem dX2_fewestToShow_15 : decode cX2_fewestToShow 15 = .ok (.ixor, 1) := by decide +kernel
theorem dX2_fewestToShow_16 : decode cX2_fewestToShow 16 = .ok (.iand, 1) := by decide +kernel
theorem dX2_fewestToShow_17 : decode cX2_fewestToShow 17 = .ok (.istore_n 3, 1) := by decide +kernel
theorem dX2_fewestToShow_18 : decode cX2_fewestToShow 18 = .ok (.iconst 0, 1) := by decide +kernel
theorem dX2_fewestToShow_19 : decode cX2_fewestToShow 19 = .ok (.istore 4, 2) := by decide +kernel
theorem dX2_fewestToShow_21 : decode cX2_fewestToShow 21 = .ok (.iload 4, 2) := by decide +kernel
theorem dX2_fewestToShow_23 : decode cX2_fewestToShow 23 = .ok (.aload_n 0, 1) := by decide +kernel
theorem dX2_fewestToShow_24 : decode cX2_fewestToShow 24 = .ok (.getfield 9, 3) := by decide +kernel
theorem dX2_fewestToShow_27 : decode cX2_fewestToShow 27 = .ok (.getfield 47, 3) := by decide +kernel
theorem dX2_fewestToShow_30 : decode cX2_fewestToShow 30 = .ok (.if_icmp .gt 69, 3) := by decide +kernel
theorem dX2_fewestToShow_33 : decode cX2_fewestToShow 33 = .ok (.iconst 0, 1) := by decide +kernel
theorem dX2_fewestToShow_34 : decode cX2_fewestToShow 34 = .ok (.istore 5, 2) := by decide +kernel
theorem dX2_fewestToShow_36 : decode cX2_fewestToShow 36 = .ok (.iload 5, 2) := by decide +kernel
theorem dX2_fewestToShow_38 : decode cX2_fewestToShow 38 = .ok (.iload_n 3, 1) := by decide +kernel
theorem dX2_fewestToShow_39 : decode cX2_fewestToShow 39 = .ok (.if_icmp .gt 54, 3) := by decide +kernel
theorem dX2_fewestToShow_42 : decode cX2_fewestToShow 42 = .ok (.iload 5, 2) := by decide +kernel
theorem dX2_fewestToShow_44 : decode cX2_fewestToShow 44 = .ok (.iload_n 3, 1) := by decide +kernel
theorem dX2_fewestToShow_45 : decode cX2_fewestToShow 45 = .ok (.iconst (-1), 1) := by decide +kernel
theorem dX2_fewestToShow_46 : decode cX2_fewestToShow 46 = .ok (.ixor, 1) := by decide +kernel
theorem dX2_fewestToShow_47 : decode cX2_fewestToShow 47 = .ok (.iand, 1) := by decide +kernel
theorem dX2_fewestToShow_48 : decode cX2_fewestToShow 48 = .ok (.ifCond .ne 17, 3) := by decide +kernel
theorem dX2_fewestToShow_51 : decode cX2_fewestToShow 51 = .ok (.iload 5, 2) := by decide +kernel
theorem dX2_fewestToShow_53 : decode cX2_fewestToShow 53 = .ok (.invokestatic 51, 3) := by decide +kernel
theorem dX2_fewestToShow_56 : decode cX2_fewestToShow 56 = .ok (.iload 4, 2) := by decide +kernel
theorem dX2_fewestToShow_58 : decode cX2_fewestToShow 58 = .ok (.if_icmp .ne 7, 3) := by decide +kernel
theorem dX2_fewestToShow_61 : decode cX2_fewestToShow 61 = .ok (.iconst 1, 1) := by decide +kernel
theorem dX2_fewestToShow_62 : decode cX2_fewestToShow 62 = .ok (.goto 4, 3) := by decide +kernel
theorem dX2_fewestToShow_65 : decode cX2_fewestToShow 65 = .ok (.iconst 0, 1) := by decide +kernel
theorem dX2_fewestToShow_66 : decode cX2_fewestToShow 66 = .ok (.istore 6, 2) := by decide +kernel
theorem dX2_fewestToShow_68 : decode cX2_fewestToShow 68 = .ok (.iload 6, 2) := by decide +kernel
theorem dX2_fewestToShow_70 : decode cX2_fewestToShow 70 = .ok (.ifCond .eq 17, 3) := by decide +kernel
theorem dX2_fewestToShow_73 : decode cX2_fewestToShow 73 = .ok (.aload_n 0, 1) := by decide +kernel
theorem dX2_fewestToShow_74 : decode cX2_fewestToShow 74 = .ok (.iload 5, 2) := by decide +kernel
theorem dX2_fewestToShow_76 : decode cX2_fewestToShow 76 = .ok (.iload_n 1, 1) := by decide +kernel
theorem dX2_fewestToShow_77 : decode cX2_fewestToShow 77 = .ok (.iload_n 2, 1) := by decide +kernel
theorem dX2_fewestToShow_78 : decode cX2_fewestToShow 78 = .ok (.invokevirtual 56, 3) := by decide +kernel
theorem dX2_fewestToShow_81 : decode cX2_fewestToShow 81 = .ok (.ifCond .eq 6, 3) := by decide +kernel
theorem dX2_fewestToShow_84 : decode cX2_fewestToShow 84 = .ok (.iload 5, 2) := by decide +kernel
theorem dX2_fewestToShow_86 : decode cX2_fewestToShow 86 = .ok (.ireturn, 1) := by decide +kernel
theorem dX2_fewestToShow_87 : decode cX2_fewestToShow 87 = .ok (.iinc 5 1, 3) := by decide +kernel
theorem dX2_fewestToShow_90 : decode cX2_fewestToShow 90 = .ok (.goto (-54), 3) := by decide +kernel
theorem dX2_fewestToShow_93 : decode cX2_fewestToShow 93 = .ok (.iinc 4 1, 3) := by decide +kernel
theorem dX2_fewestToShow_96 : decode cX2_fewestToShow 96 = .ok (.goto (-75), 3) := by decide +kernel
theorem dX2_fewestToShow_99 : decode cX2_fewestToShow 99 = .ok (.iconst (-1), 1) := by decide +kernel
theorem dX2_fewestToShow_100 : decode cX2_fewestToShow 100 = .ok (.ireturn, 1) := by decide +kernel
set_option maxRecDepth 20000 in
theorem ggX2_isHushed_X5_become : GoodIn wsX2_isHushed wsX5_become := goodIn_r _ [7, 8, 9, 10, 11, 12, 13, 14, 15, 16, 17, 18, 19, 20, 21, 22, 23, 24, 82, 83, 84, 85, 86, 87, 88, 89, 90, 91, 92, 93, 94, 95] (by decide +kernel) (by decide +kernel)
set_option maxRecDepth 20000 in
theorem gX2_isHushed_X5_become : GoodIn wsX2_isHushed (wsV RX2 18 RX5 yX5_become wsX5_become) := goodIn_app (goodIn_of _ (by decide +kernel)) ggX2_isHushed_X5_become
set_option maxRecDepth 20000 in
theorem ggX2_isHushed_X5_showTo : GoodIn wsX2_isHushed wsX5_showTo := goodIn_r _ [28, 9, 29, 30, 31, 32, 33, 34, 6, 35, 15, 20, 36, 37, 82, 83, 84, 85, 86, 87, 88, 89, 90, 91, 92, 93, 94, 95] (by decide +kernel) (by decide +kernel)
set_option maxRecDepth 20000 in
theorem gX2_isHushed_X5_showTo : GoodIn wsX2_isHushed (wsV RX2 60 RX5 yX5_showTo wsX5_showTo) := goodIn_app (goodIn_of _ (by decide +kernel)) ggX2_isHushed_X5_showTo
set_option maxRecDepth 20000 in
theorem ggX2_isHushed_X5_whoMaySay : GoodIn wsX2_isHushed wsX5_whoMaySay := goodIn_r _ [41, 9, 42, 43, 44, 6, 45, 23, 21, 12, 46, 47, 48, 49, 10, 15, 20, 50, 51, 52, 53, 8, 54, 55, 56, 57, 22, 58, 30, 59, 29, 31, 36, 37, 82, 83, 84, 85, 86, 87, 88, 89, 90, 91, 92, 93, 94, 95] (by decide +kernel) (by decide +kernel)
set_option maxRecDepth 20000 in
theorem gX2_isHushed_X5_whoMaySay : GoodIn wsX2_isHushed (wsV RX2 64 RX5 yX5_whoMaySay wsX5_whoMaySay) := goodIn_app (goodIn_of _ (by decide +kernel)) ggX2_isHushed_X5_whoMaySay
set_option maxRecDepth 20000 in
theorem ggX2_isHushed_X5_passRound : GoodIn wsX2_isHushed wsX5_passRound := goodIn_r _ [63, 9, 64, 42, 43, 44, 6, 45, 23, 21, 12, 46, 47, 48, 49, 10, 15, 20, 50, 51, 52, 53, 8, 54, 55, 56, 57, 22, 58, 30, 59, 65, 66, 67, 68, 29, 31, 69, 70, 71, 72, 73, 74, 75, 76, 77, 78, 79, 11, 82, 83, 84, 85, 86, 87, 88, 89, 90, 91, 92, 93, 94, 95] (by decide +kernel) (by decide +kernel)
set_option maxRecDepth 20000 in
theorem gX2_isHushed_X5_passRound : GoodIn wsX2_isHushed (wsV RX2 28 RX5 yX5_passRound wsX5_passRound) := goodIn_app (goodIn_of _ (by decide +kernel)) ggX2_isHushed_X5_passRound
theorem dX2_isHushed_0 : decode cX2_isHushed 0 = .ok (.aload_n 0, 1) := by decide +kernel
theorem dX2_isHushed_1 : decode cX2_isHushed 1 = .ok (.getfield 15, 3) := by decide +kernel
theorem dX2_isHushed_4 : decode cX2_isHushed 4 = .ok (.aload_n 0, 1) := by decide +kernel
theorem dX2_isHushed_5 : decode cX2_isHushed 5 = .ok (.getfield 9, 3) := by decide +kernel
theorem dX2_isHushed_8 : decode cX2_isHushed 8 = .ok (.invokevirtual 18, 3) := by decide +kernel
theorem dX2_isHushed_11 : decode cX2_isHushed 11 = .ok (.aload_n 0, 1) := by decide +kernel
theorem dX2_isHushed_12 : decode cX2_isHushed 12 = .ok (.getfield 15, 3) := by decide +kernel
theorem dX2_isHushed_15 : decode cX2_isHushed 15 = .ok (.iload_n 1, 1) := by decide +kernel
theorem dX2_isHushed_16 : decode cX2_isHushed 16 = .ok (.iload_n 2, 1) := by decide +kernel
theorem dX2_isHushed_17 : decode cX2_isHushed 17 = .ok (.invokevirtual 60, 3) := by decide +kernel
theorem dX2_isHushed_20 : decode cX2_isHushed 20 = .ok (.iconst 1, 1) := by decide +kernel
theorem dX2_isHushed_21 : decode cX2_isHushed 21 = .ok (.istore 4, 2) := by decide +kernel
theorem dX2_isHushed_23 : decode cX2_isHushed 23 = .ok (.iconst 0, 1) := by decide +kernel
theorem dX2_isHushed_24 : decode cX2_isHushed 24 = .ok (.istore 5, 2) := by decide +kernel
theorem dX2_isHushed_26 : decode cX2_isHushed 26 = .ok (.iload 5, 2) := by decide +kernel
theorem dX2_isHushed_28 : decode cX2_isHushed 28 = .ok (.iload_n 3, 1) := by decide +kernel
theorem dX2_isHushed_29 : decode cX2_isHushed 29 = .ok (.if_icmp .gt 36, 3) := by decide +kernel
theorem dX2_isHushed_32 : decode cX2_isHushed 32 = .ok (.iload 4, 2) := by decide +kernel
theorem dX2_isHushed_34 : decode cX2_isHushed 34 = .ok (.ifCond .eq 31, 3) := by decide +kernel
theorem dX2_isHushed_37 : decode cX2_isHushed 37 = .ok (.aload_n 0, 1) := by decide +kernel
theorem dX2_isHushed_38 : decode cX2_isHushed 38 = .ok (.getfield 15, 3) := by decide +kernel
theorem dX2_isHushed_41 : decode cX2_isHushed 41 = .ok (.iload_n 2, 1) := by decide +kernel
theorem dX2_isHushed_42 : decode cX2_isHushed 42 = .ok (.invokevirtual 64, 3) := by decide +kernel
theorem dX2_isHushed_45 : decode cX2_isHushed 45 = .ok (.ifCond .eq 5, 3) := by decide +kernel
theorem dX2_isHushed_48 : decode cX2_isHushed 48 = .ok (.iconst 0, 1) := by decide +kernel
theorem dX2_isHushed_49 : decode cX2_isHushed 49 = .ok (.ireturn, 1) := by decide +kernel
theorem dX2_isHushed_50 : decode cX2_isHushed 50 = .ok (.aload_n 0, 1) := by decide +kernel
theorem dX2_isHushed_51 : decode cX2_isHushed 51 = .ok (.getfield 15, 3) := by decide +kernel
theorem dX2_isHushed_54 : decode cX2_isHushed 54 = .ok (.invokevirtual 28, 3) := by decide +kernel
theorem dX2_isHushed_57 : decode cX2_isHushed 57 = .ok (.istore 4, 2) := by decide +kernel
theorem dX2_isHushed_59 : decode cX2_isHushed 59 = .ok (.iinc 5 1, 3) := by decide +kernel
theorem dX2_isHushed_62 : decode cX2_isHushed 62 = .ok (.goto (-36), 3) := by decide +kernel
theorem dX2_isHushed_65 : decode cX2_isHushed 65 = .ok (.iconst 1, 1) := by decide +kernel
theorem dX2_isHushed_66 : decode cX2_isHushed 66 = .ok (.ireturn, 1) := by decide +kernel
set_option maxRecDepth 20000 in
theorem ggX2_bestToTell_X5_become : GoodIn wsX2_bestToTell wsX5_become := goodIn_r _ [8, 9, 10, 11, 12, 13, 14, 15, 16, 17, 18, 19, 20, 21, 22, 23, 24, 25, 88, 89, 90, 91, 92, 93, 94, 95, 96, 97, 98, 99, 100, 101] (by decide +kernel) (by decide +kernel)
set_option maxRecDepth 20000 in
theorem gX2_bestToTell_X5_become : GoodIn wsX2_bestToTell (wsV RX2 18 RX5 yX5_become wsX5_become) := goodIn_app (goodIn_of _ (by decide +kernel)) ggX2_bestToTell_X5_become
set_option maxRecDepth 20000 in
theorem ggX2_bestToTell_X5_putHeard : GoodIn wsX2_bestToTell wsX5_putHeard := goodIn_r _ [29, 22, 30, 31, 32, 88, 89, 90, 91, 92, 93, 94, 95, 96, 97, 98, 99, 100, 101] (by decide +kernel) (by decide +kernel)
set_option maxRecDepth 20000 in
theorem gX2_bestToTell_X5_putHeard : GoodIn wsX2_bestToTell (wsV RX2 67 RX5 yX5_putHeard wsX5_putHeard) := goodIn_app (goodIn_of _ (by decide +kernel)) ggX2_bestToTell_X5_putHeard
set_option maxRecDepth 20000 in
theorem ggX2_bestToTell_X5_passRounds : GoodIn wsX2_bestToTell wsX5_passRounds := goodIn_r _ [36, 37, 38, 39, 7, 40, 10, 41, 42, 43, 44, 45, 24, 22, 13, 46, 47, 48, 49, 11, 16, 21, 50, 51, 52, 53, 9, 54, 55, 56, 57, 23, 58, 31, 59, 60, 61, 62, 63, 64, 65, 66, 67, 68, 69, 70, 71, 72, 73, 74, 75, 76, 12, 88, 89, 90, 91, 92, 93, 94, 95, 96, 97, 98, 99, 100, 101] (by decide +kernel) (by decide +kernel)
set_option maxRecDepth 20000 in
theorem gX2_bestToTell_X5_passRounds : GoodIn wsX2_bestToTell (wsV RX2 24 RX5 yX5_passRounds wsX5_passRounds) := goodIn_app (goodIn_of _ (by decide +kernel)) ggX2_bestToTell_X5_passRounds
set_option maxRecDepth 20000 in
theorem ggX2_bestToTell_X5_whoKnows : GoodIn wsX2_bestToTell wsX5_whoKnows := goodIn_r _ [80, 10, 81, 82, 83, 7, 84, 16, 21, 22, 64, 31, 65, 30, 32, 88, 89, 90, 91, 92, 93, 94, 95, 96, 97, 98, 99, 100, 101] (by decide +kernel) (by decide +kernel)
set_option maxRecDepth 20000 in
theorem gX2_bestToTell_X5_whoKnows : GoodIn wsX2_bestToTell (wsV RX2 71 RX5 yX5_whoKnows wsX5_whoKnows) := goodIn_app (goodIn_of _ (by decide +kernel)) ggX2_bestToTell_X5_whoKnows
set_option maxRecDepth 20000 in
theorem ggX2_bestToTell_J6_bitCount_0f7a4 : GoodIn wsX2_bestToTell wsJ6_bitCount_0f7a4 := goodIn_r _ [69, 70, 71, 72] (by decide +kernel) (by decide +kernel)
set_option maxRecDepth 20000 in
theorem gX2_bestToTell_J6_bitCount_0f7a4 : GoodIn wsX2_bestToTell (va_wsS RX2 51 yJ6_bitCount_0f7a4 wsJ6_bitCount_0f7a4) := goodIn_app (goodIn_of _ (by decide +kernel)) ggX2_bestToTell_J6_bitCount_0f7a4
theorem dX2_bestToTell_0 : decode cX2_bestToTell 0 = .ok (.iconst (-1), 1) := by decide +kernel
theorem dX2_bestToTell_1 : decode cX2_bestToTell 1 = .ok (.istore_n 3, 1) := by decide +kernel
theorem dX2_bestToTell_2 : decode cX2_bestToTell 2 = .ok (.iconst (-1), 1) := by decide +kernel
theorem dX2_bestToTell_3 : decode cX2_bestToTell 3 = .ok (.istore 4, 2) := by decide +kernel
theorem dX2_bestToTell_5 : decode cX2_bestToTell 5 = .ok (.iconst 0, 1) := by decide +kernel
theorem dX2_bestToTell_6 : decode cX2_bestToTell 6 = .ok (.istore 5, 2) := by decide +kernel
theorem dX2_bestToTell_8 : decode cX2_bestToTell 8 = .ok (.iload 5, 2) := by decide +kernel
theorem dX2_bestToTell_10 : decode cX2_bestToTell 10 = .ok (.aload_n 0, 1) := by decide +kernel
theorem dX2_bestToTell_11 : decode cX2_bestToTell 11 = .ok (.getfield 9, 3) := by decide +kernel
theorem dX2_bestToTell_14 : decode cX2_bestToTell 14 = .ok (.getfield 47, 3) := by decide +kernel
theorem dX2_bestToTell_17 : decode cX2_bestToTell 17 = .ok (.if_icmp .ge 66, 3) := by decide +kernel
theorem dX2_bestToTell_20 : decode cX2_bestToTell 20 = .ok (.aload_n 0, 1) := by decide +kernel
theorem dX2_bestToTell_21 : decode cX2_bestToTell 21 = .ok (.getfield 15, 3) := by decide +kernel
theorem dX2_bestToTell_24 : decode cX2_bestToTell 24 = .ok (.aload_n 0, 1) := by decide +kernel
theorem dX2_bestToTell_25 : decode cX2_bestToTell 25 = .ok (.getfield 9, 3) := by decide +kernel
theorem dX2_bestToTell_28 : decode cX2_bestToTell 28 = .ok (.invokevirtual 18, 3) := by decide +kernel
theorem dX2_bestToTell_31 : decode cX2_bestToTell 31 = .ok (.aload_n 0, 1) := by decide +kernel
theorem dX2_bestToTell_32 : decode cX2_bestToTell 32 = .ok (.getfield 15, 3) := by decide +kernel
theorem dX2_bestToTell_35 : decode cX2_bestToTell 35 = .ok (.iload 5, 2) := by decide +kernel
theorem dX2_bestToTell_37 : decode cX2_bestToTell 37 = .ok (.iload_n 1, 1) := by decide +kernel
theorem dX2_bestToTell_38 : decode cX2_bestToTell 38 = .ok (.iconst 1, 1) := by decide +kernel
theorem dX2_bestToTell_39 : decode cX2_bestToTell 39 = .ok (.invokevirtual 67, 3) := by decide +kernel
theorem dX2_bestToTell_42 : decode cX2_bestToTell 42 = .ok (.aload_n 0, 1) := by decide +kernel
theorem dX2_bestToTell_43 : decode cX2_bestToTell 43 = .ok (.getfield 15, 3) := by decide +kernel
theorem dX2_bestToTell_46 : decode cX2_bestToTell 46 = .ok (.iload_n 2, 1) := by decide +kernel
theorem dX2_bestToTell_47 : decode cX2_bestToTell 47 = .ok (.invokevirtual 24, 3) := by decide +kernel
theorem dX2_bestToTell_50 : decode cX2_bestToTell 50 = .ok (.aload_n 0, 1) := by decide +kernel
theorem dX2_bestToTell_51 : decode cX2_bestToTell 51 = .ok (.getfield 15, 3) := by decide +kernel
theorem dX2_bestToTell_54 : decode cX2_bestToTell 54 = .ok (.iload_n 1, 1) := by decide +kernel
theorem dX2_bestToTell_55 : decode cX2_bestToTell 55 = .ok (.invokevirtual 71, 3) := by decide +kernel
theorem dX2_bestToTell_58 : decode cX2_bestToTell 58 = .ok (.invokestatic 51, 3) := by decide +kernel
theorem dX2_bestToTell_61 : decode cX2_bestToTell 61 = .ok (.istore 6, 2) := by decide +kernel
theorem dX2_bestToTell_63 : decode cX2_bestToTell 63 = .ok (.iload 6, 2) := by decide +kernel
theorem dX2_bestToTell_65 : decode cX2_bestToTell 65 = .ok (.iload 4, 2) := by decide +kernel
theorem dX2_bestToTell_67 : decode cX2_bestToTell 67 = .ok (.if_icmp .le 10, 3) := by decide +kernel
theorem dX2_bestToTell_70 : decode cX2_bestToTell 70 = .ok (.iload 6, 2) := by decide +kernel
theorem dX2_bestToTell_72 : decode cX2_bestToTell 72 = .ok (.istore 4, 2) := by decide +kernel
theorem dX2_bestToTell_74 : decode cX2_bestToTell 74 = .ok (.iload 5, 2) := by decide +kernel
theorem dX2_bestToTell_76 : decode cX2_bestToTell 76 = .ok (.istore_n 3, 1) := by decide +kernel
theorem dX2_bestToTell_77 : decode cX2_bestToTell 77 = .ok (.iinc 5 1, 3) := by decide +kernel
theorem dX2_bestToTell_80 : decode cX2_bestToTell 80 = .ok (.goto (-72), 3) := by decide +kernel
theorem dX2_bestToTell_83 : decode cX2_bestToTell 83 = .ok (.iload_n 3, 1) := by decide +kernel
theorem dX2_bestToTell_84 : decode cX2_bestToTell 84 = .ok (.ireturn, 1) := by decide +kernel
set_option maxRecDepth 20000 in
theorem ggX2_lostWithout_X5_become : GoodIn wsX2_lostWithout wsX5_become := goodIn_r _ [7, 8, 9, 10, 11, 12, 13, 14, 15, 16, 17, 18, 19, 20, 21, 22, 23, 24, 93, 94, 95, 96, 97, 98, 99, 100, 101, 102, 103, 104, 105, 106] (by decide +kernel) (by decide +kernel)
set_option maxRecDepth 20000 in
theorem gX2_lostWithout_X5_become : GoodIn wsX2_lostWithout (wsV RX2 18 RX5 yX5_become wsX5_become) := goodIn_app (goodIn_of _ (by decide +kernel)) ggX2_lostWithout_X5_become
set_option maxRecDepth 20000 in
theorem ggX2_lostWithout_X2_knownToOthersThen : GoodIn wsX2_lostWithout wsX2_knownToOthersThen := goodIn_r _ [29, 1, 30, 31, 32, 6, 33, 34, 35, 36, 37, 9, 38, 39, 40, 41, 42, 23, 21, 12, 43, 44, 45, 46, 10, 15, 20, 47, 48, 49, 50, 8, 51, 52, 53, 54, 22, 55, 56, 57, 58, 59, 60, 61, 62, 63, 64, 65, 66, 67, 68, 69, 70, 71, 72, 73, 74, 11, 75, 76, 77, 78, 79, 80, 81, 82, 83, 84, 91, 92, 93, 94, 95, 96, 97, 98, 99, 100, 101, 102, 103, 104, 105, 106] (by decide +kernel) (by decide +kernel)
set_option maxRecDepth 20000 in
theorem gX2_lostWithout_X2_knownToOthersThen : GoodIn wsX2_lostWithout (wsV RX2 74 RX2 yX2_knownToOthersThen wsX2_knownToOthersThen) := goodIn_app (goodIn_of _ (by decide +kernel)) ggX2_lostWithout_X2_knownToOthersThen
set_option maxRecDepth 20000 in
theorem ggX2_lostWithout_X5_cutOff : GoodIn wsX2_lostWithout wsX5_cutOff := goodIn_r _ [88, 22, 9, 89, 56, 90, 93, 94, 95, 96, 97, 98, 99, 100, 101, 102, 103, 104, 105, 106] (by decide +kernel) (by decide +kernel)
set_option maxRecDepth 20000 in
theorem gX2_lostWithout_X5_cutOff : GoodIn wsX2_lostWithout (wsV RX2 78 RX5 yX5_cutOff wsX5_cutOff) := goodIn_app (goodIn_of _ (by decide +kernel)) ggX2_lostWithout_X5_cutOff
theorem dX2_lostWithout_0 : decode cX2_lostWithout 0 = .ok (.aload_n 0, 1) := by decide +kernel
theorem dX2_lostWithout_1 : decode cX2_lostWithout 1 = .ok (.getfield 15, 3) := by decide +kernel
theorem dX2_lostWithout_4 : decode cX2_lostWithout 4 = .ok (.aload_n 0, 1) := by decide +kernel
theorem dX2_lostWithout_5 : decode cX2_lostWithout 5 = .ok (.getfield 9, 3) := by decide +kernel
theorem dX2_lostWithout_8 : decode cX2_lostWithout 8 = .ok (.invokevirtual 18, 3) := by decide +kernel
theorem dX2_lostWithout_11 : decode cX2_lostWithout 11 = .ok (.aload_n 0, 1) := by decide +kernel
theorem dX2_lostWithout_12 : decode cX2_lostWithout 12 = .ok (.iload_n 1, 1) := by decide +kernel
theorem dX2_lostWithout_13 : decode cX2_lostWithout 13 = .ok (.iload_n 2, 1) := by decide +kernel
theorem dX2_lostWithout_14 : decode cX2_lostWithout 14 = .ok (.invokevirtual 74, 3) := by decide +kernel
theorem dX2_lostWithout_17 : decode cX2_lostWithout 17 = .ok (.istore_n 3, 1) := by decide +kernel
theorem dX2_lostWithout_18 : decode cX2_lostWithout 18 = .ok (.aload_n 0, 1) := by decide +kernel
theorem dX2_lostWithout_19 : decode cX2_lostWithout 19 = .ok (.getfield 15, 3) := by decide +kernel
theorem dX2_lostWithout_22 : decode cX2_lostWithout 22 = .ok (.aload_n 0, 1) := by decide +kernel
theorem dX2_lostWithout_23 : decode cX2_lostWithout 23 = .ok (.getfield 9, 3) := by decide +kernel
theorem dX2_lostWithout_26 : decode cX2_lostWithout 26 = .ok (.invokevirtual 18, 3) := by decide +kernel
theorem dX2_lostWithout_29 : decode cX2_lostWithout 29 = .ok (.aload_n 0, 1) := by decide +kernel
theorem dX2_lostWithout_30 : decode cX2_lostWithout 30 = .ok (.getfield 15, 3) := by decide +kernel
theorem dX2_lostWithout_33 : decode cX2_lostWithout 33 = .ok (.iload_n 1, 1) := by decide +kernel
theorem dX2_lostWithout_34 : decode cX2_lostWithout 34 = .ok (.invokevirtual 78, 3) := by decide +kernel
theorem dX2_lostWithout_37 : decode cX2_lostWithout 37 = .ok (.iload_n 3, 1) := by decide +kernel
theorem dX2_lostWithout_38 : decode cX2_lostWithout 38 = .ok (.aload_n 0, 1) := by decide +kernel
theorem dX2_lostWithout_39 : decode cX2_lostWithout 39 = .ok (.iload_n 1, 1) := by decide +kernel
theorem dX2_lostWithout_40 : decode cX2_lostWithout 40 = .ok (.iload_n 2, 1) := by decide +kernel
theorem dX2_lostWithout_41 : decode cX2_lostWithout 41 = .ok (.invokevirtual 74, 3) := by decide +kernel
theorem dX2_lostWithout_44 : decode cX2_lostWithout 44 = .ok (.isub, 1) := by decide +kernel
theorem dX2_lostWithout_45 : decode cX2_lostWithout 45 = .ok (.ireturn, 1) := by decide +kernel
set_option maxRecDepth 20000 in
theorem ggX2_knownToOthersThen_X5_passRounds : GoodIn wsX2_knownToOthersThen wsX5_passRounds := goodIn_r _ [6, 7, 8, 9, 5, 10, 11, 12, 13, 14, 15, 16, 17, 18, 19, 20, 21, 22, 23, 24, 25, 26, 27, 28, 29, 30, 31, 32, 33, 34, 35, 36, 37, 38, 39, 40, 41, 42, 43, 44, 45, 46, 47, 48, 49, 50, 51, 52, 53, 54, 55, 56, 57, 70, 71, 72, 73, 74, 75, 76, 77, 78, 79, 80, 81, 82, 83] (by decide +kernel) (by decide +kernel)
set_option maxRecDepth 20000 in
theorem gX2_knownToOthersThen_X5_passRounds : GoodIn wsX2_knownToOthersThen (wsV RX2 24 RX5 yX5_passRounds wsX5_passRounds) := goodIn_app (goodIn_of _ (by decide +kernel)) ggX2_knownToOthersThen_X5_passRounds
set_option maxRecDepth 20000 in
theorem ggX2_knownToOthersThen_X5_knownInAll : GoodIn wsX2_knownToOthersThen wsX5_knownInAll := goodIn_r _ [61, 11, 62, 63, 64, 5, 65, 25, 26, 18, 46, 47, 48, 49, 50, 51, 52, 70, 71, 72, 73, 74, 75, 76, 77, 78, 79, 80, 81, 82, 83] (by decide +kernel) (by decide +kernel)
set_option maxRecDepth 20000 in
theorem gX2_knownToOthersThen_X5_knownInAll : GoodIn wsX2_knownToOthersThen (wsV RX2 81 RX5 yX5_knownInAll wsX5_knownInAll) := goodIn_app (goodIn_of _ (by decide +kernel)) ggX2_knownToOthersThen_X5_knownInAll
set_option maxRecDepth 20000 in
theorem ggX2_knownToOthersThen_X5_knownTo : GoodIn wsX2_knownToOthersThen wsX5_knownTo := goodIn_r _ [65, 25, 26, 18, 70, 71, 72, 73, 74, 75, 76, 77, 78, 79, 80, 81, 82, 83] (by decide +kernel) (by decide +kernel)
set_option maxRecDepth 20000 in
theorem gX2_knownToOthersThen_X5_knownTo : GoodIn wsX2_knownToOthersThen (wsV RX2 32 RX5 yX5_knownTo wsX5_knownTo) := goodIn_app (goodIn_of _ (by decide +kernel)) ggX2_knownToOthersThen_X5_knownTo
set_option maxRecDepth 20000 in
theorem ggX2_knownToOthersThen_J6_bitCount_0f7a4 : GoodIn wsX2_knownToOthersThen wsJ6_bitCount_0f7a4 := goodIn_r _ [49, 50, 51, 52] (by decide +kernel) (by decide +kernel)
set_option maxRecDepth 20000 in
theorem gX2_knownToOthersThen_J6_bitCount_0f7a4 : GoodIn wsX2_knownToOthersThen (va_wsS RX2 51 yJ6_bitCount_0f7a4 wsJ6_bitCount_0f7a4) := goodIn_app (goodIn_of _ (by decide +kernel)) ggX2_knownToOthersThen_J6_bitCount_0f7a4
theorem dX2_knownToOthersThen_0 : decode cX2_knownToOthersThen 0 = .ok (.aload_n 0, 1) := by decide +kernel
theorem dX2_knownToOthersThen_1 : decode cX2_knownToOthersThen 1 = .ok (.getfield 15, 3) := by decide +kernel
theorem dX2_knownToOthersThen_4 : decode cX2_knownToOthersThen 4 = .ok (.iload_n 2, 1) := by decide +kernel
theorem dX2_knownToOthersThen_5 : decode cX2_knownToOthersThen 5 = .ok (.invokevirtual 24, 3) := by decide +kernel
theorem dX2_knownToOthersThen_8 : decode cX2_knownToOthersThen 8 = .ok (.aload_n 0, 1) := by decide +kernel
theorem dX2_knownToOthersThen_9 : decode cX2_knownToOthersThen 9 = .ok (.getfield 15, 3) := by decide +kernel
theorem dX2_knownToOthersThen_12 : decode cX2_knownToOthersThen 12 = .ok (.invokevirtual 81, 3) := by decide +kernel
theorem dX2_knownToOthersThen_15 : decode cX2_knownToOthersThen 15 = .ok (.aload_n 0, 1) := by decide +kernel
theorem dX2_knownToOthersThen_16 : decode cX2_knownToOthersThen 16 = .ok (.getfield 15, 3) := by decide +kernel
theorem dX2_knownToOthersThen_19 : decode cX2_knownToOthersThen 19 = .ok (.iload_n 1, 1) := by decide +kernel
theorem dX2_knownToOthersThen_20 : decode cX2_knownToOthersThen 20 = .ok (.invokevirtual 32, 3) := by decide +kernel
theorem dX2_knownToOthersThen_23 : decode cX2_knownToOthersThen 23 = .ok (.invokestatic 51, 3) := by decide +kernel
theorem dX2_knownToOthersThen_26 : decode cX2_knownToOthersThen 26 = .ok (.isub, 1) := by decide +kernel
theorem dX2_knownToOthersThen_27 : decode cX2_knownToOthersThen 27 = .ok (.ireturn, 1) := by decide +kernel
set_option maxRecDepth 20000 in
theorem ggX2_gainByBlind_X2_after : GoodIn wsX2_gainByBlind wsX2_after := goodIn_r _ [7, 1, 2, 8, 9, 10, 11, 12, 13, 14, 15, 16, 17, 18, 19, 20, 21, 22, 23, 24, 25, 26, 27, 28, 29, 30, 31, 32, 33, 34, 35, 36, 37, 38, 39, 40, 41, 42, 43, 44, 45, 46, 47, 48, 49, 50, 51, 52, 53, 54, 55, 56, 57, 58, 59, 60, 61, 62, 63, 64, 65, 66, 67, 68, 69, 70, 71, 72, 73, 74, 87, 88, 89, 90, 91, 92, 93, 94, 95, 96, 97, 98, 99, 100, 101, 102] (by decide +kernel) (by decide +kernel)
set_option maxRecDepth 20000 in
theorem gX2_gainByBlind_X2_after : GoodIn wsX2_gainByBlind (wsV RX2 84 RX2 yX2_after wsX2_after) := goodIn_app (goodIn_of _ (by decide +kernel)) ggX2_gainByBlind_X2_after
set_option maxRecDepth 20000 in
theorem ggX2_gainByBlind_X5_knownInAll : GoodIn wsX2_gainByBlind wsX5_knownInAll := goodIn_r _ [78, 14, 79, 80, 81, 11, 82, 20, 25, 26, 64, 65, 66, 67, 68, 69, 70, 89, 90, 91, 92, 93, 94, 95, 96, 97, 98, 99, 100, 101, 102] (by decide +kernel) (by decide +kernel)
set_option maxRecDepth 20000 in
theorem gX2_gainByBlind_X5_knownInAll : GoodIn wsX2_gainByBlind (wsV RX2 81 RX5 yX5_knownInAll wsX5_knownInAll) := goodIn_app (goodIn_of _ (by decide +kernel)) ggX2_gainByBlind_X5_knownInAll
set_option maxRecDepth 20000 in
theorem ggX2_gainByBlind_X5_become : GoodIn wsX2_gainByBlind wsX5_become := goodIn_r _ [12, 13, 14, 15, 16, 17, 18, 19, 20, 21, 22, 23, 24, 25, 26, 27, 28, 29, 89, 90, 91, 92, 93, 94, 95, 96, 97, 98, 99, 100, 101, 102] (by decide +kernel) (by decide +kernel)
set_option maxRecDepth 20000 in
theorem gX2_gainByBlind_X5_become : GoodIn wsX2_gainByBlind (wsV RX2 18 RX5 yX5_become wsX5_become) := goodIn_app (goodIn_of _ (by decide +kernel)) ggX2_gainByBlind_X5_become
set_option maxRecDepth 20000 in
theorem ggX2_gainByBlind_X5_makeBlind : GoodIn wsX2_gainByBlind wsX5_makeBlind := goodIn_r _ [86, 26, 20, 25, 28, 89, 90, 91, 92, 93, 94, 95, 96, 97, 98, 99, 100, 101, 102] (by decide +kernel) (by decide +kernel)
set_option maxRecDepth 20000 in
theorem gX2_gainByBlind_X5_makeBlind : GoodIn wsX2_gainByBlind (wsV RX2 88 RX5 yX5_makeBlind wsX5_makeBlind) := goodIn_app (goodIn_of _ (by decide +kernel)) ggX2_gainByBlind_X5_makeBlind
set_option maxRecDepth 20000 in
theorem ggX2_gainByBlind_X5_passRounds : GoodIn wsX2_gainByBlind wsX5_passRounds := goodIn_r _ [33, 34, 35, 36, 11, 37, 14, 38, 39, 40, 41, 42, 28, 26, 17, 43, 44, 45, 46, 15, 20, 25, 47, 48, 49, 50, 13, 51, 52, 53, 54, 27, 55, 56, 57, 58, 59, 60, 61, 62, 63, 64, 65, 66, 67, 68, 69, 70, 71, 72, 73, 74, 16, 89, 90, 91, 92, 93, 94, 95, 96, 97, 98, 99, 100, 101, 102] (by decide +kernel) (by decide +kernel)
set_option maxRecDepth 20000 in
theorem gX2_gainByBlind_X5_passRounds : GoodIn wsX2_gainByBlind (wsV RX2 24 RX5 yX5_passRounds wsX5_passRounds) := goodIn_app (goodIn_of _ (by decide +kernel)) ggX2_gainByBlind_X5_passRounds
theorem dX2_gainByBlind_0 : decode cX2_gainByBlind 0 = .ok (.aload_n 0, 1) := by decide +kernel
theorem dX2_gainByBlind_1 : decode cX2_gainByBlind 1 = .ok (.iload_n 2, 1) := by decide +kernel
theorem dX2_gainByBlind_2 : decode cX2_gainByBlind 2 = .ok (.invokevirtual 84, 3) := by decide +kernel
theorem dX2_gainByBlind_5 : decode cX2_gainByBlind 5 = .ok (.invokevirtual 81, 3) := by decide +kernel
theorem dX2_gainByBlind_8 : decode cX2_gainByBlind 8 = .ok (.istore_n 3, 1) := by decide +kernel
theorem dX2_gainByBlind_9 : decode cX2_gainByBlind 9 = .ok (.aload_n 0, 1) := by decide +kernel
theorem dX2_gainByBlind_10 : decode cX2_gainByBlind 10 = .ok (.getfield 15, 3) := by decide +kernel
theorem dX2_gainByBlind_13 : decode cX2_gainByBlind 13 = .ok (.aload_n 0, 1) := by decide +kernel
theorem dX2_gainByBlind_14 : decode cX2_gainByBlind 14 = .ok (.getfield 9, 3) := by decide +kernel
theorem dX2_gainByBlind_17 : decode cX2_gainByBlind 17 = .ok (.invokevirtual 18, 3) := by decide +kernel
theorem dX2_gainByBlind_20 : decode cX2_gainByBlind 20 = .ok (.aload_n 0, 1) := by decide +kernel
theorem dX2_gainByBlind_21 : decode cX2_gainByBlind 21 = .ok (.getfield 15, 3) := by decide +kernel
theorem dX2_gainByBlind_24 : decode cX2_gainByBlind 24 = .ok (.iload_n 1, 1) := by decide +kernel
theorem dX2_gainByBlind_25 : decode cX2_gainByBlind 25 = .ok (.invokevirtual 88, 3) := by decide +kernel
theorem dX2_gainByBlind_28 : decode cX2_gainByBlind 28 = .ok (.aload_n 0, 1) := by decide +kernel
theorem dX2_gainByBlind_29 : decode cX2_gainByBlind 29 = .ok (.getfield 15, 3) := by decide +kernel
theorem dX2_gainByBlind_32 : decode cX2_gainByBlind 32 = .ok (.iload_n 2, 1) := by decide +kernel
theorem dX2_gainByBlind_33 : decode cX2_gainByBlind 33 = .ok (.invokevirtual 24, 3) := by decide +kernel
theorem dX2_gainByBlind_36 : decode cX2_gainByBlind 36 = .ok (.aload_n 0, 1) := by decide +kernel
theorem dX2_gainByBlind_37 : decode cX2_gainByBlind 37 = .ok (.getfield 15, 3) := by decide +kernel
theorem dX2_gainByBlind_40 : decode cX2_gainByBlind 40 = .ok (.invokevirtual 81, 3) := by decide +kernel
theorem dX2_gainByBlind_43 : decode cX2_gainByBlind 43 = .ok (.iload_n 3, 1) := by decide +kernel
theorem dX2_gainByBlind_44 : decode cX2_gainByBlind 44 = .ok (.isub, 1) := by decide +kernel
theorem dX2_gainByBlind_45 : decode cX2_gainByBlind 45 = .ok (.ireturn, 1) := by decide +kernel
set_option maxRecDepth 20000 in
theorem ggX2_gainByLight_X2_knownAtDusk : GoodIn wsX2_gainByLight wsX2_knownAtDusk := goodIn_r _ [5, 6, 7, 8, 9, 10, 11, 12, 13, 14, 15, 16, 17, 18, 19, 20, 21, 22, 23, 24, 25, 26, 27, 28, 29, 30, 31, 32, 33, 34, 35, 36, 37, 38, 39, 40, 41, 42, 43, 44, 45, 46, 47, 48, 49, 50, 51, 52, 53, 54, 55, 56, 57, 58, 59, 60, 61, 62, 63, 64, 65, 66, 67, 68, 69, 70, 71, 72, 73, 74, 75, 76, 77, 78, 79, 80, 81, 82, 83, 84, 85, 86, 87, 88, 89, 90, 91, 92, 93, 94, 95, 96, 97, 98, 99] (by decide +kernel) (by decide +kernel)
set_option maxRecDepth 20000 in
theorem gX2_gainByLight_X2_knownAtDusk : GoodIn wsX2_gainByLight (wsV RX2 91 RX2 yX2_knownAtDusk wsX2_knownAtDusk) := goodIn_app (goodIn_of _ (by decide +kernel)) ggX2_gainByLight_X2_knownAtDusk
theorem dX2_gainByLight_0 : decode cX2_gainByLight 0 = .ok (.aload_n 0, 1) := by decide +kernel
theorem dX2_gainByLight_1 : decode cX2_gainByLight 1 = .ok (.iconst 0, 1) := by decide +kernel
theorem dX2_gainByLight_2 : decode cX2_gainByLight 2 = .ok (.iload_n 1, 1) := by decide +kernel
theorem dX2_gainByLight_3 : decode cX2_gainByLight 3 = .ok (.invokevirtual 91, 3) := by decide +kernel
theorem dX2_gainByLight_6 : decode cX2_gainByLight 6 = .ok (.aload_n 0, 1) := by decide +kernel
theorem dX2_gainByLight_7 : decode cX2_gainByLight 7 = .ok (.iconst 1, 1) := by decide +kernel
theorem dX2_gainByLight_8 : decode cX2_gainByLight 8 = .ok (.iload_n 1, 1) := by decide +kernel
theorem dX2_gainByLight_9 : decode cX2_gainByLight 9 = .ok (.invokevirtual 91, 3) := by decide +kernel
theorem dX2_gainByLight_12 : decode cX2_gainByLight 12 = .ok (.isub, 1) := by decide +kernel
theorem dX2_gainByLight_13 : decode cX2_gainByLight 13 = .ok (.ireturn, 1) := by decide +kernel
set_option maxRecDepth 20000 in
theorem ggX2_knownAtDusk_X5_become : GoodIn wsX2_knownAtDusk wsX5_become := goodIn_r _ [8, 9, 10, 11, 12, 13, 14, 15, 16, 17, 18, 19, 20, 21, 22, 23, 24, 25, 81, 82, 83, 84, 85, 86, 87, 88, 89, 90, 91, 92, 93, 94] (by decide +kernel) (by decide +kernel)
set_option maxRecDepth 20000 in
theorem gX2_knownAtDusk_X5_become : GoodIn wsX2_knownAtDusk (wsV RX2 18 RX5 yX5_become wsX5_become) := goodIn_app (goodIn_of _ (by decide +kernel)) ggX2_knownAtDusk_X5_become
set_option maxRecDepth 20000 in
theorem ggX2_knownAtDusk_X5_passRounds : GoodIn wsX2_knownAtDusk wsX5_passRounds := goodIn_r _ [29, 30, 31, 32, 7, 33, 10, 34, 35, 36, 37, 38, 24, 22, 13, 39, 40, 41, 42, 11, 16, 21, 43, 44, 45, 46, 9, 47, 48, 49, 50, 23, 51, 52, 53, 54, 55, 56, 57, 58, 59, 60, 61, 62, 63, 64, 65, 66, 67, 68, 69, 70, 12, 81, 82, 83, 84, 85, 86, 87, 88, 89, 90, 91, 92, 93, 94] (by decide +kernel) (by decide +kernel)
set_option maxRecDepth 20000 in
theorem gX2_knownAtDusk_X5_passRounds : GoodIn wsX2_knownAtDusk (wsV RX2 24 RX5 yX5_passRounds wsX5_passRounds) := goodIn_app (goodIn_of _ (by decide +kernel)) ggX2_knownAtDusk_X5_passRounds
set_option maxRecDepth 20000 in
theorem ggX2_knownAtDusk_X5_knownInAll : GoodIn wsX2_knownAtDusk wsX5_knownInAll := goodIn_r _ [74, 10, 75, 76, 77, 7, 78, 16, 21, 22, 60, 61, 62, 63, 64, 65, 66, 81, 82, 83, 84, 85, 86, 87, 88, 89, 90, 91, 92, 93, 94] (by decide +kernel) (by decide +kernel)
set_option maxRecDepth 20000 in
theorem gX2_knownAtDusk_X5_knownInAll : GoodIn wsX2_knownAtDusk (wsV RX2 81 RX5 yX5_knownInAll wsX5_knownInAll) := goodIn_app (goodIn_of _ (by decide +kernel)) ggX2_knownAtDusk_X5_knownInAll
theorem dX2_knownAtDusk_0 : decode cX2_knownAtDusk 0 = .ok (.aload_n 0, 1) := by decide +kernel
theorem dX2_knownAtDusk_1 : decode cX2_knownAtDusk 1 = .ok (.getfield 15, 3) := by decide +kernel
theorem dX2_knownAtDusk_4 : decode cX2_knownAtDusk 4 = .ok (.aload_n 0, 1) := by decide +kernel
theorem dX2_knownAtDusk_5 : decode cX2_knownAtDusk 5 = .ok (.getfield 9, 3) := by decide +kernel
theorem dX2_knownAtDusk_8 : decode cX2_knownAtDusk 8 = .ok (.invokevirtual 18, 3) := by decide +kernel
theorem dX2_knownAtDusk_11 : decode cX2_knownAtDusk 11 = .ok (.aload_n 0, 1) := by decide +kernel
theorem dX2_knownAtDusk_12 : decode cX2_knownAtDusk 12 = .ok (.getfield 15, 3) := by decide +kernel
theorem dX2_knownAtDusk_15 : decode cX2_knownAtDusk 15 = .ok (.iload_n 1, 1) := by decide +kernel
theorem dX2_knownAtDusk_16 : decode cX2_knownAtDusk 16 = .ok (.putfield 94, 3) := by decide +kernel
theorem dX2_knownAtDusk_19 : decode cX2_knownAtDusk 19 = .ok (.aload_n 0, 1) := by decide +kernel
theorem dX2_knownAtDusk_20 : decode cX2_knownAtDusk 20 = .ok (.getfield 15, 3) := by decide +kernel
theorem dX2_knownAtDusk_23 : decode cX2_knownAtDusk 23 = .ok (.iload_n 2, 1) := by decide +kernel
theorem dX2_knownAtDusk_24 : decode cX2_knownAtDusk 24 = .ok (.invokevirtual 24, 3) := by decide +kernel
theorem dX2_knownAtDusk_27 : decode cX2_knownAtDusk 27 = .ok (.aload_n 0, 1) := by decide +kernel
theorem dX2_knownAtDusk_28 : decode cX2_knownAtDusk 28 = .ok (.getfield 15, 3) := by decide +kernel
theorem dX2_knownAtDusk_31 : decode cX2_knownAtDusk 31 = .ok (.invokevirtual 81, 3) := by decide +kernel
theorem dX2_knownAtDusk_34 : decode cX2_knownAtDusk 34 = .ok (.ireturn, 1) := by decide +kernel
theorem dX3_init_0 : decode cX3_init 0 = .ok (.aload_n 0, 1) := by decide +kernel
theorem dX3_init_1 : decode cX3_init 1 = .ok (.invokespecial 3, 3) := by decide +kernel
theorem dX3_init_4 : decode cX3_init 4 = .ok (.aload_n 0, 1) := by decide +kernel
theorem dX3_init_5 : decode cX3_init 5 = .ok (.bipush 8, 2) := by decide +kernel
theorem dX3_init_7 : decode cX3_init 7 = .ok (.newarray .int, 2) := by decide +kernel
theorem dX3_init_9 : decode cX3_init 9 = .ok (.dup, 1) := by decide +kernel
theorem dX3_init_10 : decode cX3_init 10 = .ok (.iconst 0, 1) := by decide +kernel
theorem dX3_init_11 : decode cX3_init 11 = .ok (.iconst (-1), 1) := by decide +kernel
theorem dX3_init_12 : decode cX3_init 12 = .ok (.iastore, 1) := by decide +kernel
theorem dX3_init_13 : decode cX3_init 13 = .ok (.dup, 1) := by decide +kernel
theorem dX3_init_14 : decode cX3_init 14 = .ok (.iconst 1, 1) := by decide +kernel
theorem dX3_init_15 : decode cX3_init 15 = .ok (.iconst (-1), 1) := by decide +kernel
theorem dX3_init_16 : decode cX3_init 16 = .ok (.iastore, 1) := by decide +kernel
theorem dX3_init_17 : decode cX3_init 17 = .ok (.dup, 1) := by decide +kernel
theorem dX3_init_18 : decode cX3_init 18 = .ok (.iconst 2, 1) := by decide +kernel
theorem dX3_init_19 : decode cX3_init 19 = .ok (.iconst (-1), 1) := by decide +kernel
theorem dX3_init_20 : decode cX3_init 20 = .ok (.iastore, 1) := by decide +kernel
theorem dX3_init_21 : decode cX3_init 21 = .ok (.dup, 1) := by decide +kernel
theorem dX3_init_22 : decode cX3_init 22 = .ok (.iconst 3, 1) := by decide +kernel
theorem dX3_init_23 : decode cX3_init 23 = .ok (.iconst (-1), 1) := by decide +kernel
theorem dX3_init_24 : decode cX3_init 24 = .ok (.iastore, 1) := by decide +kernel
theorem dX3_init_25 : decode cX3_init 25 = .ok (.dup, 1) := by decide +kernel
theorem dX3_init_26 : decode cX3_init 26 = .ok (.iconst 4, 1) := by decide +kernel
theorem dX3_init_27 : decode cX3_init 27 = .ok (.iconst (-1), 1) := by decide +kernel
theorem dX3_init_28 : decode cX3_init 28 = .ok (.iastore, 1) := by decide +kernel
theorem dX3_init_29 : decode cX3_init 29 = .ok (.dup, 1) := by decide +kernel
theorem dX3_init_30 : decode cX3_init 30 = .ok (.iconst 5, 1) := by decide +kernel
theorem dX3_init_31 : decode cX3_init 31 = .ok (.iconst (-1), 1) := by decide +kernel
theorem dX3_init_32 : decode cX3_init 32 = .ok (.iastore, 1) := by decide +kernel
theorem dX3_init_33 : decode cX3_init 33 = .ok (.dup, 1) := by decide +kernel
theorem dX3_init_34 : decode cX3_init 34 = .ok (.bipush 6, 2) := by decide +kernel
theorem dX3_init_36 : decode cX3_init 36 = .ok (.iconst (-1), 1) := by decide +kernel
theorem dX3_init_37 : decode cX3_init 37 = .ok (.iastore, 1) := by decide +kernel
theorem dX3_init_38 : decode cX3_init 38 = .ok (.dup, 1) := by decide +kernel
theorem dX3_init_39 : decode cX3_init 39 = .ok (.bipush 7, 2) := by decide +kernel
theorem dX3_init_41 : decode cX3_init 41 = .ok (.iconst (-1), 1) := by decide +kernel
theorem dX3_init_42 : decode cX3_init 42 = .ok (.iastore, 1) := by decide +kernel
theorem dX3_init_43 : decode cX3_init 43 = .ok (.putfield 9, 3) := by decide +kernel
theorem dX3_init_46 : decode cX3_init 46 = .ok (.aload_n 0, 1) := by decide +kernel
theorem dX3_init_47 : decode cX3_init 47 = .ok (.bipush 8, 2) := by decide +kernel
theorem dX3_init_49 : decode cX3_init 49 = .ok (.newarray .int, 2) := by decide +kernel
theorem dX3_init_51 : decode cX3_init 51 = .ok (.putfield 15, 3) := by decide +kernel
theorem dX3_init_54 : decode cX3_init 54 = .ok (.aload_n 0, 1) := by decide +kernel
theorem dX3_init_55 : decode cX3_init 55 = .ok (.bipush 8, 2) := by decide +kernel
theorem dX3_init_57 : decode cX3_init 57 = .ok (.bipush 40, 2) := by decide +kernel
theorem dX3_init_59 : decode cX3_init 59 = .ok (.multianewarray 18 2, 4) := by decide +kernel
theorem dX3_init_63 : decode cX3_init 63 = .ok (.putfield 20, 3) := by decide +kernel
theorem dX3_init_66 : decode cX3_init 66 = .ok (.return_, 1) := by decide +kernel
theorem dX3_putRow_0 : decode cX3_putRow 0 = .ok (.aload_n 0, 1) := by decide +kernel
theorem dX3_putRow_1 : decode cX3_putRow 1 = .ok (.getfield 9, 3) := by decide +kernel
theorem dX3_putRow_4 : decode cX3_putRow 4 = .ok (.iload_n 1, 1) := by decide +kernel
theorem dX3_putRow_5 : decode cX3_putRow 5 = .ok (.iload_n 2, 1) := by decide +kernel
theorem dX3_putRow_6 : decode cX3_putRow 6 = .ok (.iastore, 1) := by decide +kernel
theorem dX3_putRow_7 : decode cX3_putRow 7 = .ok (.aload_n 0, 1) := by decide +kernel
theorem dX3_putRow_8 : decode cX3_putRow 8 = .ok (.getfield 15, 3) := by decide +kernel
theorem dX3_putRow_11 : decode cX3_putRow 11 = .ok (.iload_n 1, 1) := by decide +kernel
theorem dX3_putRow_12 : decode cX3_putRow 12 = .ok (.iload_n 3, 1) := by decide +kernel
theorem dX3_putRow_13 : decode cX3_putRow 13 = .ok (.iastore, 1) := by decide +kernel
theorem dX3_putRow_14 : decode cX3_putRow 14 = .ok (.iconst 0, 1) := by decide +kernel
theorem dX3_putRow_15 : decode cX3_putRow 15 = .ok (.istore 4, 2) := by decide +kernel
theorem dX3_putRow_17 : decode cX3_putRow 17 = .ok (.iload 4, 2) := by decide +kernel
theorem dX3_putRow_19 : decode cX3_putRow 19 = .ok (.bipush 40, 2) := by decide +kernel
theorem dX3_putRow_21 : decode cX3_putRow 21 = .ok (.if_icmp .ge 19, 3) := by decide +kernel
theorem dX3_putRow_24 : decode cX3_putRow 24 = .ok (.aload_n 0, 1) := by decide +kernel
theorem dX3_putRow_25 : decode cX3_putRow 25 = .ok (.getfield 20, 3) := by decide +kernel
theorem dX3_putRow_28 : decode cX3_putRow 28 = .ok (.iload_n 1, 1) := by decide +kernel
theorem dX3_putRow_29 : decode cX3_putRow 29 = .ok (.aaload, 1) := by decide +kernel
theorem dX3_putRow_30 : decode cX3_putRow 30 = .ok (.iload 4, 2) := by decide +kernel
theorem dX3_putRow_32 : decode cX3_putRow 32 = .ok (.lconst 0, 1) := by decide +kernel
theorem dX3_putRow_33 : decode cX3_putRow 33 = .ok (.lastore, 1) := by decide +kernel
theorem dX3_putRow_34 : decode cX3_putRow 34 = .ok (.iinc 4 1, 3) := by decide +kernel
theorem dX3_putRow_37 : decode cX3_putRow 37 = .ok (.goto (-20), 3) := by decide +kernel
theorem dX3_putRow_40 : decode cX3_putRow 40 = .ok (.return_, 1) := by decide +kernel
theorem dX3_putOne_0 : decode cX3_putOne 0 = .ok (.aload_n 0, 1) := by decide +kernel
theorem dX3_putOne_1 : decode cX3_putOne 1 = .ok (.getfield 9, 3) := by decide +kernel
theorem dX3_putOne_4 : decode cX3_putOne 4 = .ok (.iload_n 1, 1) := by decide +kernel
theorem dX3_putOne_5 : decode cX3_putOne 5 = .ok (.iload_n 2, 1) := by decide +kernel
theorem dX3_putOne_6 : decode cX3_putOne 6 = .ok (.iconst (-1), 1) := by decide +kernel
theorem dX3_putOne_7 : decode cX3_putOne 7 = .ok (.if_icmp .ne 7, 3) := by decide +kernel
theorem dX3_putOne_10 : decode cX3_putOne 10 = .ok (.iconst (-1), 1) := by decide +kernel
theorem dX3_putOne_11 : decode cX3_putOne 11 = .ok (.goto 7, 3) := by decide +kernel
theorem dX3_putOne_14 : decode cX3_putOne 14 = .ok (.bipush 10, 2) := by decide +kernel
theorem dX3_putOne_16 : decode cX3_putOne 16 = .ok (.iload_n 2, 1) := by decide +kernel
theorem dX3_putOne_17 : decode cX3_putOne 17 = .ok (.iadd, 1) := by decide +kernel
theorem dX3_putOne_18 : decode cX3_putOne 18 = .ok (.iastore, 1) := by decide +kernel
theorem dX3_putOne_19 : decode cX3_putOne 19 = .ok (.aload_n 0, 1) := by decide +kernel
theorem dX3_putOne_20 : decode cX3_putOne 20 = .ok (.getfield 15, 3) := by decide +kernel
theorem dX3_putOne_23 : decode cX3_putOne 23 = .ok (.iload_n 1, 1) := by decide +kernel
theorem dX3_putOne_24 : decode cX3_putOne 24 = .ok (.iconst 0, 1) := by decide +kernel
theorem dX3_putOne_25 : decode cX3_putOne 25 = .ok (.iastore, 1) := by decide +kernel
theorem dX3_putOne_26 : decode cX3_putOne 26 = .ok (.return_, 1) := by decide +kernel
set_option maxRecDepth 20000 in
theorem ggX3_putElement_X3_lowestBits : GoodIn wsX3_putElement wsX3_lowestBits := goodIn_r _ [6] (by decide +kernel) (by decide +kernel)
set_option maxRecDepth 20000 in
theorem gX3_putElement_X3_lowestBits : GoodIn wsX3_putElement (va_wsS RX3 23 yX3_lowestBits wsX3_lowestBits) := goodIn_app (goodIn_of _ (by decide +kernel)) ggX3_putElement_X3_lowestBits
theorem dX3_putElement_0 : decode cX3_putElement 0 = .ok (.aload_n 0, 1) := by decide +kernel
theorem dX3_putElement_1 : decode cX3_putElement 1 = .ok (.getfield 20, 3) := by decide +kernel
theorem dX3_putElement_4 : decode cX3_putElement 4 = .ok (.iload_n 1, 1) := by decide +kernel
theorem dX3_putElement_5 : decode cX3_putElement 5 = .ok (.aaload, 1) := by decide +kernel
theorem dX3_putElement_6 : decode cX3_putElement 6 = .ok (.iload_n 2, 1) := by decide +kernel
theorem dX3_putElement_7 : decode cX3_putElement 7 = .ok (.aload_n 0, 1) := by decide +kernel
theorem dX3_putElement_8 : decode cX3_putElement 8 = .ok (.getfield 9, 3) := by decide +kernel
theorem dX3_putElement_11 : decode cX3_putElement 11 = .ok (.iload_n 1, 1) := by decide +kernel
theorem dX3_putElement_12 : decode cX3_putElement 12 = .ok (.iaload, 1) := by decide +kernel
theorem dX3_putElement_13 : decode cX3_putElement 13 = .ok (.lload_n 3, 1) := by decide +kernel
theorem dX3_putElement_14 : decode cX3_putElement 14 = .ok (.invokestatic 23, 3) := by decide +kernel
theorem dX3_putElement_17 : decode cX3_putElement 17 = .ok (.lastore, 1) := by decide +kernel
theorem dX3_putElement_18 : decode cX3_putElement 18 = .ok (.return_, 1) := by decide +kernel
theorem dX3_lowestBits_0 : decode cX3_lowestBits 0 = .ok (.iload_n 0, 1) := by decide +kernel
theorem dX3_lowestBits_1 : decode cX3_lowestBits 1 = .ok (.tableswitch 61 0 4 #[35, 40, 45, 61, 49], 35) := by decide +kernel
theorem dX3_lowestBits_36 : decode cX3_lowestBits 36 = .ok (.lload_n 1, 1) := by decide +kernel
theorem dX3_lowestBits_37 : decode cX3_lowestBits 37 = .ok (.l2i, 1) := by decide +kernel
theorem dX3_lowestBits_38 : decode cX3_lowestBits 38 = .ok (.i2b, 1) := by decide +kernel
theorem dX3_lowestBits_39 : decode cX3_lowestBits 39 = .ok (.i2l, 1) := by decide +kernel
theorem dX3_lowestBits_40 : decode cX3_lowestBits 40 = .ok (.lreturn, 1) := by decide +kernel
theorem dX3_lowestBits_41 : decode cX3_lowestBits 41 = .ok (.lload_n 1, 1) := by decide +kernel
theorem dX3_lowestBits_42 : decode cX3_lowestBits 42 = .ok (.l2i, 1) := by decide +kernel
theorem dX3_lowestBits_43 : decode cX3_lowestBits 43 = .ok (.i2s, 1) := by decide +kernel
theorem dX3_lowestBits_44 : decode cX3_lowestBits 44 = .ok (.i2l, 1) := by decide +kernel
theorem dX3_lowestBits_45 : decode cX3_lowestBits 45 = .ok (.lreturn, 1) := by decide +kernel
theorem dX3_lowestBits_46 : decode cX3_lowestBits 46 = .ok (.lload_n 1, 1) := by decide +kernel
theorem dX3_lowestBits_47 : decode cX3_lowestBits 47 = .ok (.l2i, 1) := by decide +kernel
theorem dX3_lowestBits_48 : decode cX3_lowestBits 48 = .ok (.i2l, 1) := by decide +kernel
theorem dX3_lowestBits_49 : decode cX3_lowestBits 49 = .ok (.lreturn, 1) := by decide +kernel
theorem dX3_lowestBits_50 : decode cX3_lowestBits 50 = .ok (.lload_n 1, 1) := by decide +kernel
theorem dX3_lowestBits_51 : decode cX3_lowestBits 51 = .ok (.lconst 0, 1) := by decide +kernel
theorem dX3_lowestBits_52 : decode cX3_lowestBits 52 = .ok (.lcmp, 1) := by decide +kernel
theorem dX3_lowestBits_53 : decode cX3_lowestBits 53 = .ok (.ifCond .eq 7, 3) := by decide +kernel
theorem dX3_lowestBits_56 : decode cX3_lowestBits 56 = .ok (.lconst 1, 1) := by decide +kernel
theorem dX3_lowestBits_57 : decode cX3_lowestBits 57 = .ok (.goto 4, 3) := by decide +kernel
theorem dX3_lowestBits_60 : decode cX3_lowestBits 60 = .ok (.lconst 0, 1) := by decide +kernel
theorem dX3_lowestBits_61 : decode cX3_lowestBits 61 = .ok (.lreturn, 1) := by decide +kernel
theorem dX3_lowestBits_62 : decode cX3_lowestBits 62 = .ok (.lload_n 1, 1) := by decide +kernel
theorem dX3_lowestBits_63 : decode cX3_lowestBits 63 = .ok (.lreturn, 1) := by decide +kernel
theorem dX3_copyElements_0 : decode cX3_copyElements 0 = .ok (.aload_n 0, 1) := by decide +kernel
theorem dX3_copyElements_1 : decode cX3_copyElements 1 = .ok (.getfield 20, 3) := by decide +kernel
theorem dX3_copyElements_4 : decode cX3_copyElements 4 = .ok (.iload_n 1, 1) := by decide +kernel
theorem dX3_copyElements_5 : decode cX3_copyElements 5 = .ok (.aaload, 1) := by decide +kernel
theorem dX3_copyElements_6 : decode cX3_copyElements 6 = .ok (.iload_n 3, 1) := by decide +kernel
theorem dX3_copyElements_7 : decode cX3_copyElements 7 = .ok (.aload_n 0, 1) := by decide +kernel
theorem dX3_copyElements_8 : decode cX3_copyElements 8 = .ok (.getfield 20, 3) := by decide +kernel
theorem dX3_copyElements_11 : decode cX3_copyElements 11 = .ok (.iload_n 2, 1) := by decide +kernel
theorem dX3_copyElements_12 : decode cX3_copyElements 12 = .ok (.aaload, 1) := by decide +kernel
theorem dX3_copyElements_13 : decode cX3_copyElements 13 = .ok (.iload 4, 2) := by decide +kernel
theorem dX3_copyElements_15 : decode cX3_copyElements 15 = .ok (.iload 5, 2) := by decide +kernel
theorem dX3_copyElements_17 : decode cX3_copyElements 17 = .ok (.invokestatic 27, 3) := by decide +kernel
theorem dX3_copyElements_20 : decode cX3_copyElements 20 = .ok (.return_, 1) := by decide +kernel
set_option maxRecDepth 20000 in
theorem ggX3_heldBy_X6_isShelf : GoodIn wsX3_heldBy wsX6_isShelf := goodIn_r _ [4, 5, 6, 3, 7] (by decide +kernel) (by decide +kernel)
set_option maxRecDepth 20000 in
theorem gX3_heldBy_X6_isShelf_n33 : GoodIn wsX3_heldBy (wsX6_isShelf) := ggX3_heldBy_X6_isShelf
theorem dX3_heldBy_0 : decode cX3_heldBy 0 = .ok (.iload_n 1, 1) := by decide +kernel
theorem dX3_heldBy_1 : decode cX3_heldBy 1 = .ok (.invokestatic 33, 3) := by decide +kernel
theorem dX3_heldBy_4 : decode cX3_heldBy 4 = .ok (.ifCond .eq 12, 3) := by decide +kernel
theorem dX3_heldBy_7 : decode cX3_heldBy 7 = .ok (.aload_n 0, 1) := by decide +kernel
theorem dX3_heldBy_8 : decode cX3_heldBy 8 = .ok (.getfield 9, 3) := by decide +kernel
theorem dX3_heldBy_11 : decode cX3_heldBy 11 = .ok (.iload_n 1, 1) := by decide +kernel
theorem dX3_heldBy_12 : decode cX3_heldBy 12 = .ok (.iaload, 1) := by decide +kernel
theorem dX3_heldBy_13 : decode cX3_heldBy 13 = .ok (.goto 4, 3) := by decide +kernel
theorem dX3_heldBy_16 : decode cX3_heldBy 16 = .ok (.iconst (-1), 1) := by decide +kernel
theorem dX3_heldBy_17 : decode cX3_heldBy 17 = .ok (.ireturn, 1) := by decide +kernel
set_option maxRecDepth 20000 in
theorem ggX3_sizeOf_X6_isShelf : GoodIn wsX3_sizeOf wsX6_isShelf := goodIn_r _ [4, 5, 6, 3, 7] (by decide +kernel) (by decide +kernel)
set_option maxRecDepth 20000 in
theorem gX3_sizeOf_X6_isShelf_n33 : GoodIn wsX3_sizeOf (wsX6_isShelf) := ggX3_sizeOf_X6_isShelf
theorem dX3_sizeOf_0 : decode cX3_sizeOf 0 = .ok (.iload_n 1, 1) := by decide +kernel
theorem dX3_sizeOf_1 : decode cX3_sizeOf 1 = .ok (.invokestatic 33, 3) := by decide +kernel
theorem dX3_sizeOf_4 : decode cX3_sizeOf 4 = .ok (.ifCond .eq 12, 3) := by decide +kernel
theorem dX3_sizeOf_7 : decode cX3_sizeOf 7 = .ok (.aload_n 0, 1) := by decide +kernel
theorem dX3_sizeOf_8 : decode cX3_sizeOf 8 = .ok (.getfield 15, 3) := by decide +kernel
theorem dX3_sizeOf_11 : decode cX3_sizeOf 11 = .ok (.iload_n 1, 1) := by decide +kernel
theorem dX3_sizeOf_12 : decode cX3_sizeOf 12 = .ok (.iaload, 1) := by decide +kernel
theorem dX3_sizeOf_13 : decode cX3_sizeOf 13 = .ok (.goto 4, 3) := by decide +kernel
theorem dX3_sizeOf_16 : decode cX3_sizeOf 16 = .ok (.iconst 0, 1) := by decide +kernel
theorem dX3_sizeOf_17 : decode cX3_sizeOf 17 = .ok (.ireturn, 1) := by decide +kernel
set_option maxRecDepth 20000 in
theorem ggX3_elementOf_X6_isShelf : GoodIn wsX3_elementOf wsX6_isShelf := goodIn_r _ [5, 6, 7, 4, 8] (by decide +kernel) (by decide +kernel)
set_option maxRecDepth 20000 in
theorem gX3_elementOf_X6_isShelf_n33 : GoodIn wsX3_elementOf (wsX6_isShelf) := ggX3_elementOf_X6_isShelf
theorem dX3_elementOf_0 : decode cX3_elementOf 0 = .ok (.iload_n 1, 1) := by decide +kernel
theorem dX3_elementOf_1 : decode cX3_elementOf 1 = .ok (.invokestatic 33, 3) := by decide +kernel
theorem dX3_elementOf_4 : decode cX3_elementOf 4 = .ok (.ifCond .eq 28, 3) := by decide +kernel
theorem dX3_elementOf_7 : decode cX3_elementOf 7 = .ok (.iload_n 2, 1) := by decide +kernel
theorem dX3_elementOf_8 : decode cX3_elementOf 8 = .ok (.ifCond .lt 24, 3) := by decide +kernel
theorem dX3_elementOf_11 : decode cX3_elementOf 11 = .ok (.iload_n 2, 1) := by decide +kernel
theorem dX3_elementOf_12 : decode cX3_elementOf 12 = .ok (.aload_n 0, 1) := by decide +kernel
theorem dX3_elementOf_13 : decode cX3_elementOf 13 = .ok (.getfield 15, 3) := by decide +kernel
theorem dX3_elementOf_16 : decode cX3_elementOf 16 = .ok (.iload_n 1, 1) := by decide +kernel
theorem dX3_elementOf_17 : decode cX3_elementOf 17 = .ok (.iaload, 1) := by decide +kernel
theorem dX3_elementOf_18 : decode cX3_elementOf 18 = .ok (.if_icmp .ge 14, 3) := by decide +kernel
theorem dX3_elementOf_21 : decode cX3_elementOf 21 = .ok (.aload_n 0, 1) := by decide +kernel
theorem dX3_elementOf_22 : decode cX3_elementOf 22 = .ok (.getfield 20, 3) := by decide +kernel
theorem dX3_elementOf_25 : decode cX3_elementOf 25 = .ok (.iload_n 1, 1) := by decide +kernel
theorem dX3_elementOf_26 : decode cX3_elementOf 26 = .ok (.aaload, 1) := by decide +kernel
theorem dX3_elementOf_27 : decode cX3_elementOf 27 = .ok (.iload_n 2, 1) := by decide +kernel
theorem dX3_elementOf_28 : decode cX3_elementOf 28 = .ok (.laload, 1) := by decide +kernel
theorem dX3_elementOf_29 : decode cX3_elementOf 29 = .ok (.goto 4, 3) := by decide +kernel
theorem dX3_elementOf_32 : decode cX3_elementOf 32 = .ok (.lconst 0, 1) := by decide +kernel
theorem dX3_elementOf_33 : decode cX3_elementOf 33 = .ok (.lreturn, 1) := by decide +kernel
theorem dX3_filled_0 : decode cX3_filled 0 = .ok (.iconst 0, 1) := by decide +kernel
theorem dX3_filled_1 : decode cX3_filled 1 = .ok (.istore_n 1, 1) := by decide +kernel
theorem dX3_filled_2 : decode cX3_filled 2 = .ok (.iconst 0, 1) := by decide +kernel
theorem dX3_filled_3 : decode cX3_filled 3 = .ok (.istore_n 2, 1) := by decide +kernel
theorem dX3_filled_4 : decode cX3_filled 4 = .ok (.iload_n 2, 1) := by decide +kernel
theorem dX3_filled_5 : decode cX3_filled 5 = .ok (.bipush 8, 2) := by decide +kernel
theorem dX3_filled_7 : decode cX3_filled 7 = .ok (.if_icmp .ge 22, 3) := by decide +kernel
theorem dX3_filled_10 : decode cX3_filled 10 = .ok (.aload_n 0, 1) := by decide +kernel
theorem dX3_filled_11 : decode cX3_filled 11 = .ok (.getfield 9, 3) := by decide +kernel
theorem dX3_filled_14 : decode cX3_filled 14 = .ok (.iload_n 2, 1) := by decide +kernel
theorem dX3_filled_15 : decode cX3_filled 15 = .ok (.iaload, 1) := by decide +kernel
theorem dX3_filled_16 : decode cX3_filled 16 = .ok (.iconst (-1), 1) := by decide +kernel
theorem dX3_filled_17 : decode cX3_filled 17 = .ok (.if_icmp .eq 6, 3) := by decide +kernel
theorem dX3_filled_20 : decode cX3_filled 20 = .ok (.iinc 1 1, 3) := by decide +kernel
theorem dX3_filled_23 : decode cX3_filled 23 = .ok (.iinc 2 1, 3) := by decide +kernel
theorem dX3_filled_26 : decode cX3_filled 26 = .ok (.goto (-22), 3) := by decide +kernel
theorem dX3_filled_29 : decode cX3_filled 29 = .ok (.iload_n 1, 1) := by decide +kernel
theorem dX3_filled_30 : decode cX3_filled 30 = .ok (.ireturn, 1) := by decide +kernel
theorem dX3_keepPeopleBelow_0 : decode cX3_keepPeopleBelow 0 = .ok (.iconst 0, 1) := by decide +kernel
theorem dX3_keepPeopleBelow_1 : decode cX3_keepPeopleBelow 1 = .ok (.istore_n 2, 1) := by decide +kernel
theorem dX3_keepPeopleBelow_2 : decode cX3_keepPeopleBelow 2 = .ok (.iload_n 2, 1) := by decide +kernel
theorem dX3_keepPeopleBelow_3 : decode cX3_keepPeopleBelow 3 = .ok (.bipush 8, 2) := by decide +kernel
theorem dX3_keepPeopleBelow_5 : decode cX3_keepPeopleBelow 5 = .ok (.if_icmp .ge 29, 3) := by decide +kernel
theorem dX3_keepPeopleBelow_8 : decode cX3_keepPeopleBelow 8 = .ok (.aload_n 0, 1) := by decide +kernel
theorem dX3_keepPeopleBelow_9 : decode cX3_keepPeopleBelow 9 = .ok (.getfield 9, 3) := by decide +kernel
theorem dX3_keepPeopleBelow_12 : decode cX3_keepPeopleBelow 12 = .ok (.iload_n 2, 1) := by decide +kernel
theorem dX3_keepPeopleBelow_13 : decode cX3_keepPeopleBelow 13 = .ok (.iaload, 1) := by decide +kernel
theorem dX3_keepPeopleBelow_14 : decode cX3_keepPeopleBelow 14 = .ok (.bipush 10, 2) := by decide +kernel
theorem dX3_keepPeopleBelow_16 : decode cX3_keepPeopleBelow 16 = .ok (.iload_n 1, 1) := by decide +kernel
theorem dX3_keepPeopleBelow_17 : decode cX3_keepPeopleBelow 17 = .ok (.iadd, 1) := by decide +kernel
theorem dX3_keepPeopleBelow_18 : decode cX3_keepPeopleBelow 18 = .ok (.if_icmp .lt 10, 3) := by decide +kernel
theorem dX3_keepPeopleBelow_21 : decode cX3_keepPeopleBelow 21 = .ok (.aload_n 0, 1) := by decide +kernel
theorem dX3_keepPeopleBelow_22 : decode cX3_keepPeopleBelow 22 = .ok (.getfield 9, 3) := by decide +kernel
theorem dX3_keepPeopleBelow_25 : decode cX3_keepPeopleBelow 25 = .ok (.iload_n 2, 1) := by decide +kernel
theorem dX3_keepPeopleBelow_26 : decode cX3_keepPeopleBelow 26 = .ok (.iconst (-1), 1) := by decide +kernel
theorem dX3_keepPeopleBelow_27 : decode cX3_keepPeopleBelow 27 = .ok (.iastore, 1) := by decide +kernel
theorem dX3_keepPeopleBelow_28 : decode cX3_keepPeopleBelow 28 = .ok (.iinc 2 1, 3) := by decide +kernel
theorem dX3_keepPeopleBelow_31 : decode cX3_keepPeopleBelow 31 = .ok (.goto (-29), 3) := by decide +kernel
theorem dX3_keepPeopleBelow_34 : decode cX3_keepPeopleBelow 34 = .ok (.return_, 1) := by decide +kernel
set_option maxRecDepth 20000 in
theorem ggX3_troubleWithRow_X6_isShelf : GoodIn wsX3_troubleWithRow wsX6_isShelf := goodIn_r _ [5, 6, 7, 4, 8] (by decide +kernel) (by decide +kernel)
set_option maxRecDepth 20000 in
theorem gX3_troubleWithRow_X6_isShelf_n33 : GoodIn wsX3_troubleWithRow (wsX6_isShelf) := ggX3_troubleWithRow_X6_isShelf
theorem dX3_troubleWithRow_0 : decode cX3_troubleWithRow 0 = .ok (.iload_n 1, 1) := by decide +kernel
theorem dX3_troubleWithRow_1 : decode cX3_troubleWithRow 1 = .ok (.invokestatic 33, 3) := by decide +kernel
theorem dX3_troubleWithRow_4 : decode cX3_troubleWithRow 4 = .ok (.ifCond .ne 6, 3) := by decide +kernel
theorem dX3_troubleWithRow_7 : decode cX3_troubleWithRow 7 = .ok (.bipush (-2), 2) := by decide +kernel
theorem dX3_troubleWithRow_9 : decode cX3_troubleWithRow 9 = .ok (.ireturn, 1) := by decide +kernel
theorem dX3_troubleWithRow_10 : decode cX3_troubleWithRow 10 = .ok (.aload_n 0, 1) := by decide +kernel
theorem dX3_troubleWithRow_11 : decode cX3_troubleWithRow 11 = .ok (.getfield 9, 3) := by decide +kernel
theorem dX3_troubleWithRow_14 : decode cX3_troubleWithRow 14 = .ok (.iload_n 1, 1) := by decide +kernel
theorem dX3_troubleWithRow_15 : decode cX3_troubleWithRow 15 = .ok (.iaload, 1) := by decide +kernel
theorem dX3_troubleWithRow_16 : decode cX3_troubleWithRow 16 = .ok (.bipush 10, 2) := by decide +kernel
theorem dX3_troubleWithRow_18 : decode cX3_troubleWithRow 18 = .ok (.if_icmp .lt 6, 3) := by decide +kernel
theorem dX3_troubleWithRow_21 : decode cX3_troubleWithRow 21 = .ok (.bipush (-3), 2) := by decide +kernel
theorem dX3_troubleWithRow_23 : decode cX3_troubleWithRow 23 = .ok (.ireturn, 1) := by decide +kernel
theorem dX3_troubleWithRow_24 : decode cX3_troubleWithRow 24 = .ok (.aload_n 0, 1) := by decide +kernel
theorem dX3_troubleWithRow_25 : decode cX3_troubleWithRow 25 = .ok (.getfield 9, 3) := by decide +kernel
theorem dX3_troubleWithRow_28 : decode cX3_troubleWithRow 28 = .ok (.iload_n 1, 1) := by decide +kernel
theorem dX3_troubleWithRow_29 : decode cX3_troubleWithRow 29 = .ok (.iaload, 1) := by decide +kernel
theorem dX3_troubleWithRow_30 : decode cX3_troubleWithRow 30 = .ok (.iconst (-1), 1) := by decide +kernel
theorem dX3_troubleWithRow_31 : decode cX3_troubleWithRow 31 = .ok (.if_icmp .ne 6, 3) := by decide +kernel
theorem dX3_troubleWithRow_34 : decode cX3_troubleWithRow 34 = .ok (.bipush (-4), 2) := by decide +kernel
theorem dX3_troubleWithRow_36 : decode cX3_troubleWithRow 36 = .ok (.ireturn, 1) := by decide +kernel
theorem dX3_troubleWithRow_37 : decode cX3_troubleWithRow 37 = .ok (.aload_n 0, 1) := by decide +kernel
theorem dX3_troubleWithRow_38 : decode cX3_troubleWithRow 38 = .ok (.getfield 15, 3) := by decide +kernel
theorem dX3_troubleWithRow_41 : decode cX3_troubleWithRow 41 = .ok (.iload_n 1, 1) := by decide +kernel
theorem dX3_troubleWithRow_42 : decode cX3_troubleWithRow 42 = .ok (.iaload, 1) := by decide +kernel
theorem dX3_troubleWithRow_43 : decode cX3_troubleWithRow 43 = .ok (.iload_n 2, 1) := by decide +kernel
theorem dX3_troubleWithRow_44 : decode cX3_troubleWithRow 44 = .ok (.if_icmp .ge 8, 3) := by decide +kernel
theorem dX3_troubleWithRow_47 : decode cX3_troubleWithRow 47 = .ok (.bipush (-2), 2) := by decide +kernel
theorem dX3_troubleWithRow_49 : decode cX3_troubleWithRow 49 = .ok (.goto 4, 3) := by decide +kernel
theorem dX3_troubleWithRow_52 : decode cX3_troubleWithRow 52 = .ok (.iconst 0, 1) := by decide +kernel
theorem dX3_troubleWithRow_53 : decode cX3_troubleWithRow 53 = .ok (.ireturn, 1) := by decide +kernel
set_option maxRecDepth 20000 in
theorem ggX3_troubleWithRows_X6_isShelf : GoodIn wsX3_troubleWithRows wsX6_isShelf := goodIn_r _ [4, 5, 6, 3, 7] (by decide +kernel) (by decide +kernel)
set_option maxRecDepth 20000 in
theorem gX3_troubleWithRows_X6_isShelf_n33 : GoodIn wsX3_troubleWithRows (wsX6_isShelf) := ggX3_troubleWithRows_X6_isShelf
theorem dX3_troubleWithRows_0 : decode cX3_troubleWithRows 0 = .ok (.iload_n 1, 1) := by decide +kernel
theorem dX3_troubleWithRows_1 : decode cX3_troubleWithRows 1 = .ok (.invokestatic 33, 3) := by decide +kernel
theorem dX3_troubleWithRows_4 : decode cX3_troubleWithRows 4 = .ok (.ifCond .eq 10, 3) := by decide +kernel
theorem dX3_troubleWithRows_7 : decode cX3_troubleWithRows 7 = .ok (.iload_n 2, 1) := by decide +kernel
theorem dX3_troubleWithRows_8 : decode cX3_troubleWithRows 8 = .ok (.invokestatic 33, 3) := by decide +kernel
theorem dX3_troubleWithRows_11 : decode cX3_troubleWithRows 11 = .ok (.ifCond .ne 6, 3) := by decide +kernel
theorem dX3_troubleWithRows_14 : decode cX3_troubleWithRows 14 = .ok (.bipush (-2), 2) := by decide +kernel
theorem dX3_troubleWithRows_16 : decode cX3_troubleWithRows 16 = .ok (.ireturn, 1) := by decide +kernel
theorem dX3_troubleWithRows_17 : decode cX3_troubleWithRows 17 = .ok (.aload_n 0, 1) := by decide +kernel
theorem dX3_troubleWithRows_18 : decode cX3_troubleWithRows 18 = .ok (.getfield 9, 3) := by decide +kernel
theorem dX3_troubleWithRows_21 : decode cX3_troubleWithRows 21 = .ok (.iload_n 1, 1) := by decide +kernel
theorem dX3_troubleWithRows_22 : decode cX3_troubleWithRows 22 = .ok (.iaload, 1) := by decide +kernel
theorem dX3_troubleWithRows_23 : decode cX3_troubleWithRows 23 = .ok (.bipush 10, 2) := by decide +kernel
theorem dX3_troubleWithRows_25 : decode cX3_troubleWithRows 25 = .ok (.if_icmp .ge 14, 3) := by decide +kernel
theorem dX3_troubleWithRows_28 : decode cX3_troubleWithRows 28 = .ok (.aload_n 0, 1) := by decide +kernel
theorem dX3_troubleWithRows_29 : decode cX3_troubleWithRows 29 = .ok (.getfield 9, 3) := by decide +kernel
theorem dX3_troubleWithRows_32 : decode cX3_troubleWithRows 32 = .ok (.iload_n 2, 1) := by decide +kernel
theorem dX3_troubleWithRows_33 : decode cX3_troubleWithRows 33 = .ok (.iaload, 1) := by decide +kernel
theorem dX3_troubleWithRows_34 : decode cX3_troubleWithRows 34 = .ok (.bipush 10, 2) := by decide +kernel
theorem dX3_troubleWithRows_36 : decode cX3_troubleWithRows 36 = .ok (.if_icmp .lt 6, 3) := by decide +kernel
theorem dX3_troubleWithRows_39 : decode cX3_troubleWithRows 39 = .ok (.bipush (-3), 2) := by decide +kernel
theorem dX3_troubleWithRows_41 : decode cX3_troubleWithRows 41 = .ok (.ireturn, 1) := by decide +kernel
theorem dX3_troubleWithRows_42 : decode cX3_troubleWithRows 42 = .ok (.aload_n 0, 1) := by decide +kernel
theorem dX3_troubleWithRows_43 : decode cX3_troubleWithRows 43 = .ok (.getfield 9, 3) := by decide +kernel
theorem dX3_troubleWithRows_46 : decode cX3_troubleWithRows 46 = .ok (.iload_n 1, 1) := by decide +kernel
theorem dX3_troubleWithRows_47 : decode cX3_troubleWithRows 47 = .ok (.iaload, 1) := by decide +kernel
theorem dX3_troubleWithRows_48 : decode cX3_troubleWithRows 48 = .ok (.iconst (-1), 1) := by decide +kernel
theorem dX3_troubleWithRows_49 : decode cX3_troubleWithRows 49 = .ok (.if_icmp .eq 13, 3) := by decide +kernel
theorem dX3_troubleWithRows_52 : decode cX3_troubleWithRows 52 = .ok (.aload_n 0, 1) := by decide +kernel
theorem dX3_troubleWithRows_53 : decode cX3_troubleWithRows 53 = .ok (.getfield 9, 3) := by decide +kernel
theorem dX3_troubleWithRows_56 : decode cX3_troubleWithRows 56 = .ok (.iload_n 2, 1) := by decide +kernel
theorem dX3_troubleWithRows_57 : decode cX3_troubleWithRows 57 = .ok (.iaload, 1) := by decide +kernel
theorem dX3_troubleWithRows_58 : decode cX3_troubleWithRows 58 = .ok (.iconst (-1), 1) := by decide +kernel
theorem dX3_troubleWithRows_59 : decode cX3_troubleWithRows 59 = .ok (.if_icmp .ne 6, 3) := by decide +kernel
theorem dX3_troubleWithRows_62 : decode cX3_troubleWithRows 62 = .ok (.bipush (-4), 2) := by decide +kernel
theorem dX3_troubleWithRows_64 : decode cX3_troubleWithRows 64 = .ok (.ireturn, 1) := by decide +kernel
theorem dX3_troubleWithRows_65 : decode cX3_troubleWithRows 65 = .ok (.aload_n 0, 1) := by decide +kernel
theorem dX3_troubleWithRows_66 : decode cX3_troubleWithRows 66 = .ok (.getfield 9, 3) := by decide +kernel
theorem dX3_troubleWithRows_69 : decode cX3_troubleWithRows 69 = .ok (.iload_n 1, 1) := by decide +kernel
theorem dX3_troubleWithRows_70 : decode cX3_troubleWithRows 70 = .ok (.iaload, 1) := by decide +kernel
theorem dX3_troubleWithRows_71 : decode cX3_troubleWithRows 71 = .ok (.aload_n 0, 1) := by decide +kernel
theorem dX3_troubleWithRows_72 : decode cX3_troubleWithRows 72 = .ok (.getfield 9, 3) := by decide +kernel
theorem dX3_troubleWithRows_75 : decode cX3_troubleWithRows 75 = .ok (.iload_n 2, 1) := by decide +kernel
theorem dX3_troubleWithRows_76 : decode cX3_troubleWithRows 76 = .ok (.iaload, 1) := by decide +kernel
theorem dX3_troubleWithRows_77 : decode cX3_troubleWithRows 77 = .ok (.if_icmp .eq 8, 3) := by decide +kernel
theorem dX3_troubleWithRows_80 : decode cX3_troubleWithRows 80 = .ok (.bipush (-3), 2) := by decide +kernel
theorem dX3_troubleWithRows_82 : decode cX3_troubleWithRows 82 = .ok (.goto 4, 3) := by decide +kernel
theorem dX3_troubleWithRows_85 : decode cX3_troubleWithRows 85 = .ok (.iconst 0, 1) := by decide +kernel
theorem dX3_troubleWithRows_86 : decode cX3_troubleWithRows 86 = .ok (.ireturn, 1) := by decide +kernel
set_option maxRecDepth 20000 in
theorem ggX3_isApart_X3_elementOf : GoodIn wsX3_isApart wsX3_elementOf := goodIn_r _ [5, 6, 7, 8, 9, 10, 11, 12, 13, 14, 15, 16] (by decide +kernel) (by decide +kernel)
set_option maxRecDepth 20000 in
theorem gX3_isApart_X3_elementOf : GoodIn wsX3_isApart (wsV RX3 37 RX3 yX3_elementOf wsX3_elementOf) := goodIn_app (goodIn_of _ (by decide +kernel)) ggX3_isApart_X3_elementOf
theorem dX3_isApart_0 : decode cX3_isApart 0 = .ok (.iconst 0, 1) := by decide +kernel
theorem dX3_isApart_1 : decode cX3_isApart 1 = .ok (.istore 5, 2) := by decide +kernel
theorem dX3_isApart_3 : decode cX3_isApart 3 = .ok (.iload 5, 2) := by decide +kernel
theorem dX3_isApart_5 : decode cX3_isApart 5 = .ok (.iload_n 2, 1) := by decide +kernel
theorem dX3_isApart_6 : decode cX3_isApart 6 = .ok (.if_icmp .ge 65, 3) := by decide +kernel
theorem dX3_isApart_9 : decode cX3_isApart 9 = .ok (.iconst 0, 1) := by decide +kernel
theorem dX3_isApart_10 : decode cX3_isApart 10 = .ok (.istore 6, 2) := by decide +kernel
theorem dX3_isApart_12 : decode cX3_isApart 12 = .ok (.iload 6, 2) := by decide +kernel
theorem dX3_isApart_14 : decode cX3_isApart 14 = .ok (.iload 5, 2) := by decide +kernel
theorem dX3_isApart_16 : decode cX3_isApart 16 = .ok (.if_icmp .ge 49, 3) := by decide +kernel
theorem dX3_isApart_19 : decode cX3_isApart 19 = .ok (.aload_n 0, 1) := by decide +kernel
theorem dX3_isApart_20 : decode cX3_isApart 20 = .ok (.iload_n 1, 1) := by decide +kernel
theorem dX3_isApart_21 : decode cX3_isApart 21 = .ok (.iload 5, 2) := by decide +kernel
theorem dX3_isApart_23 : decode cX3_isApart 23 = .ok (.invokevirtual 37, 3) := by decide +kernel
theorem dX3_isApart_26 : decode cX3_isApart 26 = .ok (.aload_n 0, 1) := by decide +kernel
theorem dX3_isApart_27 : decode cX3_isApart 27 = .ok (.iload_n 1, 1) := by decide +kernel
theorem dX3_isApart_28 : decode cX3_isApart 28 = .ok (.iload 6, 2) := by decide +kernel
theorem dX3_isApart_30 : decode cX3_isApart 30 = .ok (.invokevirtual 37, 3) := by decide +kernel
theorem dX3_isApart_33 : decode cX3_isApart 33 = .ok (.lxor, 1) := by decide +kernel
theorem dX3_isApart_34 : decode cX3_isApart 34 = .ok (.lstore 7, 2) := by decide +kernel
theorem dX3_isApart_36 : decode cX3_isApart 36 = .ok (.lload 7, 2) := by decide +kernel
theorem dX3_isApart_38 : decode cX3_isApart 38 = .ok (.iload 4, 2) := by decide +kernel
theorem dX3_isApart_40 : decode cX3_isApart 40 = .ok (.i2l, 1) := by decide +kernel
theorem dX3_isApart_41 : decode cX3_isApart 41 = .ok (.land, 1) := by decide +kernel
theorem dX3_isApart_42 : decode cX3_isApart 42 = .ok (.lconst 0, 1) := by decide +kernel
theorem dX3_isApart_43 : decode cX3_isApart 43 = .ok (.lcmp, 1) := by decide +kernel
theorem dX3_isApart_44 : decode cX3_isApart 44 = .ok (.ifCond .eq 15, 3) := by decide +kernel
theorem dX3_isApart_47 : decode cX3_isApart 47 = .ok (.lload 7, 2) := by decide +kernel
theorem dX3_isApart_49 : decode cX3_isApart 49 = .ok (.iload_n 3, 1) := by decide +kernel
theorem dX3_isApart_50 : decode cX3_isApart 50 = .ok (.i2l, 1) := by decide +kernel
theorem dX3_isApart_51 : decode cX3_isApart 51 = .ok (.land, 1) := by decide +kernel
theorem dX3_isApart_52 : decode cX3_isApart 52 = .ok (.lconst 0, 1) := by decide +kernel
theorem dX3_isApart_53 : decode cX3_isApart 53 = .ok (.lcmp, 1) := by decide +kernel
theorem dX3_isApart_54 : decode cX3_isApart 54 = .ok (.ifCond .ne 5, 3) := by decide +kernel
theorem dX3_isApart_57 : decode cX3_isApart 57 = .ok (.iconst 0, 1) := by decide +kernel
theorem dX3_isApart_58 : decode cX3_isApart 58 = .ok (.ireturn, 1) := by decide +kernel
theorem dX3_isApart_59 : decode cX3_isApart 59 = .ok (.iinc 6 1, 3) := by decide +kernel
theorem dX3_isApart_62 : decode cX3_isApart 62 = .ok (.goto (-50), 3) := by decide +kernel
theorem dX3_isApart_65 : decode cX3_isApart 65 = .ok (.iinc 5 1, 3) := by decide +kernel
theorem dX3_isApart_68 : decode cX3_isApart 68 = .ok (.goto (-65), 3) := by decide +kernel
theorem dX3_isApart_71 : decode cX3_isApart 71 = .ok (.iconst 1, 1) := by decide +kernel
theorem dX3_isApart_72 : decode cX3_isApart 72 = .ok (.ireturn, 1) := by decide +kernel
set_option maxRecDepth 20000 in
theorem ggX3_fewestApart_J6_bitCount_0f7a4 : GoodIn wsX3_fewestApart wsJ6_bitCount_0f7a4 := goodIn_r _ [4, 5, 6, 7] (by decide +kernel) (by decide +kernel)
set_option maxRecDepth 20000 in
theorem gX3_fewestApart_J6_bitCount_0f7a4 : GoodIn wsX3_fewestApart (va_wsS RX3 41 yJ6_bitCount_0f7a4 wsJ6_bitCount_0f7a4) := goodIn_app (goodIn_of _ (by decide +kernel)) ggX3_fewestApart_J6_bitCount_0f7a4
set_option maxRecDepth 20000 in
theorem ggX3_fewestApart_X3_isApart : GoodIn wsX3_fewestApart wsX3_isApart := goodIn_r _ [12, 13, 14, 15, 11, 16, 17, 18, 19, 20, 21, 22, 23, 24, 25, 26, 27] (by decide +kernel) (by decide +kernel)
set_option maxRecDepth 20000 in
theorem gX3_fewestApart_X3_isApart : GoodIn wsX3_fewestApart (wsV RX3 47 RX3 yX3_isApart wsX3_isApart) := goodIn_app (goodIn_of _ (by decide +kernel)) ggX3_fewestApart_X3_isApart
theorem dX3_fewestApart_0 : decode cX3_fewestApart 0 = .ok (.iconst 0, 1) := by decide +kernel
theorem dX3_fewestApart_1 : decode cX3_fewestApart 1 = .ok (.istore 4, 2) := by decide +kernel
theorem dX3_fewestApart_3 : decode cX3_fewestApart 3 = .ok (.iload 4, 2) := by decide +kernel
theorem dX3_fewestApart_5 : decode cX3_fewestApart 5 = .ok (.bipush 7, 2) := by decide +kernel
theorem dX3_fewestApart_7 : decode cX3_fewestApart 7 = .ok (.if_icmp .ge 49, 3) := by decide +kernel
theorem dX3_fewestApart_10 : decode cX3_fewestApart 10 = .ok (.iconst 0, 1) := by decide +kernel
theorem dX3_fewestApart_11 : decode cX3_fewestApart 11 = .ok (.istore 5, 2) := by decide +kernel
theorem dX3_fewestApart_13 : decode cX3_fewestApart 13 = .ok (.iload 5, 2) := by decide +kernel
theorem dX3_fewestApart_15 : decode cX3_fewestApart 15 = .ok (.iload_n 3, 1) := by decide +kernel
theorem dX3_fewestApart_16 : decode cX3_fewestApart 16 = .ok (.if_icmp .gt 34, 3) := by decide +kernel
theorem dX3_fewestApart_19 : decode cX3_fewestApart 19 = .ok (.iload 5, 2) := by decide +kernel
theorem dX3_fewestApart_21 : decode cX3_fewestApart 21 = .ok (.invokestatic 41, 3) := by decide +kernel
theorem dX3_fewestApart_24 : decode cX3_fewestApart 24 = .ok (.iload 4, 2) := by decide +kernel
theorem dX3_fewestApart_26 : decode cX3_fewestApart 26 = .ok (.if_icmp .ne 18, 3) := by decide +kernel
theorem dX3_fewestApart_29 : decode cX3_fewestApart 29 = .ok (.aload_n 0, 1) := by decide +kernel
theorem dX3_fewestApart_30 : decode cX3_fewestApart 30 = .ok (.iload_n 1, 1) := by decide +kernel
theorem dX3_fewestApart_31 : decode cX3_fewestApart 31 = .ok (.iload_n 2, 1) := by decide +kernel
theorem dX3_fewestApart_32 : decode cX3_fewestApart 32 = .ok (.iload 5, 2) := by decide +kernel
theorem dX3_fewestApart_34 : decode cX3_fewestApart 34 = .ok (.iload_n 3, 1) := by decide +kernel
theorem dX3_fewestApart_35 : decode cX3_fewestApart 35 = .ok (.invokevirtual 47, 3) := by decide +kernel
theorem dX3_fewestApart_38 : decode cX3_fewestApart 38 = .ok (.ifCond .eq 6, 3) := by decide +kernel
theorem dX3_fewestApart_41 : decode cX3_fewestApart 41 = .ok (.iload 5, 2) := by decide +kernel
theorem dX3_fewestApart_43 : decode cX3_fewestApart 43 = .ok (.ireturn, 1) := by decide +kernel
theorem dX3_fewestApart_44 : decode cX3_fewestApart 44 = .ok (.iinc 5 1, 3) := by decide +kernel
theorem dX3_fewestApart_47 : decode cX3_fewestApart 47 = .ok (.goto (-34), 3) := by decide +kernel
theorem dX3_fewestApart_50 : decode cX3_fewestApart 50 = .ok (.iinc 4 1, 3) := by decide +kernel
theorem dX3_fewestApart_53 : decode cX3_fewestApart 53 = .ok (.goto (-50), 3) := by decide +kernel
theorem dX3_fewestApart_56 : decode cX3_fewestApart 56 = .ok (.iload_n 3, 1) := by decide +kernel
theorem dX3_fewestApart_57 : decode cX3_fewestApart 57 = .ok (.ireturn, 1) := by decide +kernel
theorem dX4_init_0 : decode cX4_init 0 = .ok (.aload_n 0, 1) := by decide +kernel
theorem dX4_init_1 : decode cX4_init 1 = .ok (.invokespecial 3, 3) := by decide +kernel
theorem dX4_init_4 : decode cX4_init 4 = .ok (.aload_n 0, 1) := by decide +kernel
theorem dX4_init_5 : decode cX4_init 5 = .ok (.iconst 0, 1) := by decide +kernel
theorem dX4_init_6 : decode cX4_init 6 = .ok (.putfield 9, 3) := by decide +kernel
theorem dX4_init_9 : decode cX4_init 9 = .ok (.aload_n 0, 1) := by decide +kernel
theorem dX4_init_10 : decode cX4_init 10 = .ok (.iconst 0, 1) := by decide +kernel
theorem dX4_init_11 : decode cX4_init 11 = .ok (.putfield 15, 3) := by decide +kernel
theorem dX4_init_14 : decode cX4_init 14 = .ok (.aload_n 0, 1) := by decide +kernel
theorem dX4_init_15 : decode cX4_init 15 = .ok (.sipush 250, 3) := by decide +kernel
theorem dX4_init_18 : decode cX4_init 18 = .ok (.newarray .int, 2) := by decide +kernel
theorem dX4_init_20 : decode cX4_init 20 = .ok (.putfield 18, 3) := by decide +kernel
theorem dX4_init_23 : decode cX4_init 23 = .ok (.aload_n 0, 1) := by decide +kernel
theorem dX4_init_24 : decode cX4_init 24 = .ok (.iconst 0, 1) := by decide +kernel
theorem dX4_init_25 : decode cX4_init 25 = .ok (.putfield 22, 3) := by decide +kernel
theorem dX4_init_28 : decode cX4_init 28 = .ok (.aload_n 0, 1) := by decide +kernel
theorem dX4_init_29 : decode cX4_init 29 = .ok (.iconst 0, 1) := by decide +kernel
theorem dX4_init_30 : decode cX4_init 30 = .ok (.putfield 25, 3) := by decide +kernel
theorem dX4_init_33 : decode cX4_init 33 = .ok (.aload_n 0, 1) := by decide +kernel
theorem dX4_init_34 : decode cX4_init 34 = .ok (.iconst 0, 1) := by decide +kernel
theorem dX4_init_35 : decode cX4_init 35 = .ok (.putfield 28, 3) := by decide +kernel
theorem dX4_init_38 : decode cX4_init 38 = .ok (.return_, 1) := by decide +kernel
theorem dX4_put_0 : decode cX4_put 0 = .ok (.aload_n 0, 1) := by decide +kernel
theorem dX4_put_1 : decode cX4_put 1 = .ok (.getfield 9, 3) := by decide +kernel
theorem dX4_put_4 : decode cX4_put 4 = .ok (.sipush 250, 3) := by decide +kernel
theorem dX4_put_7 : decode cX4_put 7 = .ok (.if_icmp .ge 23, 3) := by decide +kernel
theorem dX4_put_10 : decode cX4_put 10 = .ok (.aload_n 0, 1) := by decide +kernel
theorem dX4_put_11 : decode cX4_put 11 = .ok (.getfield 18, 3) := by decide +kernel
theorem dX4_put_14 : decode cX4_put 14 = .ok (.aload_n 0, 1) := by decide +kernel
theorem dX4_put_15 : decode cX4_put 15 = .ok (.getfield 9, 3) := by decide +kernel
theorem dX4_put_18 : decode cX4_put 18 = .ok (.iload_n 1, 1) := by decide +kernel
theorem dX4_put_19 : decode cX4_put 19 = .ok (.iastore, 1) := by decide +kernel
theorem dX4_put_20 : decode cX4_put 20 = .ok (.aload_n 0, 1) := by decide +kernel
theorem dX4_put_21 : decode cX4_put 21 = .ok (.dup, 1) := by decide +kernel
theorem dX4_put_22 : decode cX4_put 22 = .ok (.getfield 9, 3) := by decide +kernel
theorem dX4_put_25 : decode cX4_put 25 = .ok (.iconst 1, 1) := by decide +kernel
theorem dX4_put_26 : decode cX4_put 26 = .ok (.iadd, 1) := by decide +kernel
theorem dX4_put_27 : decode cX4_put 27 = .ok (.putfield 9, 3) := by decide +kernel
theorem dX4_put_30 : decode cX4_put 30 = .ok (.return_, 1) := by decide +kernel
set_option maxRecDepth 20000 in
theorem ggX4_readInto_X4_advance : GoodIn wsX4_readInto wsX4_advance := goodIn_r _ [9, 1, 3, 10, 2, 11, 12, 13, 8, 14, 15, 16, 17, 18, 167, 168, 169, 170, 171, 172] (by decide +kernel) (by decide +kernel)
set_option maxRecDepth 20000 in
theorem gX4_readInto_X4_advance : GoodIn wsX4_readInto (wsV RX4 31 RX4 yX4_advance wsX4_advance) := goodIn_app (goodIn_of _ (by decide +kernel)) ggX4_readInto_X4_advance
set_option maxRecDepth 20000 in
theorem ggX4_readInto_X4_readStatement : GoodIn wsX4_readInto wsX4_readStatement := goodIn_r _ [22, 23, 24, 25, 8, 26, 2, 1, 3, 27, 28, 29, 30, 31, 32, 33, 34, 35, 36, 37, 38, 11, 12, 13, 14, 10, 15, 39, 40, 41, 42, 43, 44, 45, 46, 47, 48, 49, 50, 51, 52, 53, 54, 55, 56, 57, 58, 59, 60, 61, 62, 63, 64, 65, 66, 67, 68, 69, 70, 71, 72, 73, 74, 75, 76, 77, 78, 79, 80, 5, 6, 7, 9, 16, 17, 18, 81, 82, 83, 84, 4, 85, 86, 87, 88, 89, 90, 91, 92, 93, 94, 95, 96, 97, 98, 99, 100, 101, 102, 103, 104, 105, 106, 107, 108, 109, 110, 111, 112, 113, 114, 115, 116, 117, 118, 119, 120, 121, 122, 123, 124, 125, 126, 127, 128, 129, 130, 131, 132, 133, 134, 135, 136, 137, 138, 139, 140, 141, 142, 143, 144, 145, 146, 147, 148, 149, 150, 151, 152, 153, 154, 155, 156, 157, 158, 159, 160, 161, 162, 163, 164, 165, 166, 167, 168, 169, 170, 171, 172, 173, 174, 175, 176, 177, 178, 179, 180, 181, 182, 183, 184, 185, 186] (by decide +kernel) (by decide +kernel)
set_option maxRecDepth 20000 in
theorem gX4_readInto_X4_readStatement : GoodIn wsX4_readInto (wsV RX4 34 RX4 yX4_readStatement wsX4_readStatement) := goodIn_app (goodIn_of _ (by decide +kernel)) ggX4_readInto_X4_readStatement
theorem dX4_readInto_0 : decode cX4_readInto 0 = .ok (.aload_n 0, 1) := by decide +kernel
theorem dX4_readInto_1 : decode cX4_readInto 1 = .ok (.iconst 0, 1) := by decide +kernel
theorem dX4_readInto_2 : decode cX4_readInto 2 = .ok (.putfield 28, 3) := by decide +kernel
theorem dX4_readInto_5 : decode cX4_readInto 5 = .ok (.aload_n 0, 1) := by decide +kernel
theorem dX4_readInto_6 : decode cX4_readInto 6 = .ok (.invokevirtual 31, 3) := by decide +kernel
theorem dX4_readInto_9 : decode cX4_readInto 9 = .ok (.iconst 1, 1) := by decide +kernel
theorem dX4_readInto_10 : decode cX4_readInto 10 = .ok (.istore_n 2, 1) := by decide +kernel
theorem dX4_readInto_11 : decode cX4_readInto 11 = .ok (.iload_n 2, 1) := by decide +kernel
theorem dX4_readInto_12 : decode cX4_readInto 12 = .ok (.sipush 250, 3) := by decide +kernel
theorem dX4_readInto_15 : decode cX4_readInto 15 = .ok (.if_icmp .gt 50, 3) := by decide +kernel
theorem dX4_readInto_18 : decode cX4_readInto 18 = .ok (.aload_n 0, 1) := by decide +kernel
theorem dX4_readInto_19 : decode cX4_readInto 19 = .ok (.aload_n 1, 1) := by decide +kernel
theorem dX4_readInto_20 : decode cX4_readInto 20 = .ok (.invokevirtual 34, 3) := by decide +kernel
theorem dX4_readInto_23 : decode cX4_readInto 23 = .ok (.ifCond .ne 5, 3) := by decide +kernel
theorem dX4_readInto_26 : decode cX4_readInto 26 = .ok (.iconst (-1), 1) := by decide +kernel
theorem dX4_readInto_27 : decode cX4_readInto 27 = .ok (.ireturn, 1) := by decide +kernel
theorem dX4_readInto_28 : decode cX4_readInto 28 = .ok (.aload_n 0, 1) := by decide +kernel
theorem dX4_readInto_29 : decode cX4_readInto 29 = .ok (.getfield 22, 3) := by decide +kernel
theorem dX4_readInto_32 : decode cX4_readInto 32 = .ok (.ifCond .ne 5, 3) := by decide +kernel
theorem dX4_readInto_35 : decode cX4_readInto 35 = .ok (.iload_n 2, 1) := by decide +kernel
theorem dX4_readInto_36 : decode cX4_readInto 36 = .ok (.ireturn, 1) := by decide +kernel
theorem dX4_readInto_37 : decode cX4_readInto 37 = .ok (.aload_n 0, 1) := by decide +kernel
theorem dX4_readInto_38 : decode cX4_readInto 38 = .ok (.getfield 22, 3) := by decide +kernel
theorem dX4_readInto_41 : decode cX4_readInto 41 = .ok (.iconst 3, 1) := by decide +kernel
theorem dX4_readInto_42 : decode cX4_readInto 42 = .ok (.if_icmp .eq 13, 3) := by decide +kernel
theorem dX4_readInto_45 : decode cX4_readInto 45 = .ok (.aload_n 0, 1) := by decide +kernel
theorem dX4_readInto_46 : decode cX4_readInto 46 = .ok (.aload_n 0, 1) := by decide +kernel
theorem dX4_readInto_47 : decode cX4_readInto 47 = .ok (.getfield 25, 3) := by decide +kernel
theorem dX4_readInto_50 : decode cX4_readInto 50 = .ok (.putfield 15, 3) := by decide +kernel
theorem dX4_readInto_53 : decode cX4_readInto 53 = .ok (.iconst (-1), 1) := by decide +kernel
theorem dX4_readInto_54 : decode cX4_readInto 54 = .ok (.ireturn, 1) := by decide +kernel
theorem dX4_readInto_55 : decode cX4_readInto 55 = .ok (.aload_n 0, 1) := by decide +kernel
theorem dX4_readInto_56 : decode cX4_readInto 56 = .ok (.invokevirtual 31, 3) := by decide +kernel
theorem dX4_readInto_59 : decode cX4_readInto 59 = .ok (.iinc 2 1, 3) := by decide +kernel
theorem dX4_readInto_62 : decode cX4_readInto 62 = .ok (.goto (-51), 3) := by decide +kernel
theorem dX4_readInto_65 : decode cX4_readInto 65 = .ok (.aload_n 0, 1) := by decide +kernel
theorem dX4_readInto_66 : decode cX4_readInto 66 = .ok (.aload_n 0, 1) := by decide +kernel
theorem dX4_readInto_67 : decode cX4_readInto 67 = .ok (.getfield 25, 3) := by decide +kernel
theorem dX4_readInto_70 : decode cX4_readInto 70 = .ok (.putfield 15, 3) := by decide +kernel
theorem dX4_readInto_73 : decode cX4_readInto 73 = .ok (.iconst (-1), 1) := by decide +kernel
theorem dX4_readInto_74 : decode cX4_readInto 74 = .ok (.ireturn, 1) := by decide +kernel
theorem dX4_letterAt_0 : decode cX4_letterAt 0 = .ok (.iload_n 1, 1) := by decide +kernel
theorem dX4_letterAt_1 : decode cX4_letterAt 1 = .ok (.ifCond .lt 27, 3) := by decide +kernel
theorem dX4_letterAt_4 : decode cX4_letterAt 4 = .ok (.iload_n 1, 1) := by decide +kernel
theorem dX4_letterAt_5 : decode cX4_letterAt 5 = .ok (.aload_n 0, 1) := by decide +kernel
theorem dX4_letterAt_6 : decode cX4_letterAt 6 = .ok (.getfield 9, 3) := by decide +kernel
theorem dX4_letterAt_9 : decode cX4_letterAt 9 = .ok (.if_icmp .ge 19, 3) := by decide +kernel
theorem dX4_letterAt_12 : decode cX4_letterAt 12 = .ok (.iload_n 1, 1) := by decide +kernel
theorem dX4_letterAt_13 : decode cX4_letterAt 13 = .ok (.sipush 250, 3) := by decide +kernel
theorem dX4_letterAt_16 : decode cX4_letterAt 16 = .ok (.if_icmp .ge 12, 3) := by decide +kernel
theorem dX4_letterAt_19 : decode cX4_letterAt 19 = .ok (.aload_n 0, 1) := by decide +kernel
theorem dX4_letterAt_20 : decode cX4_letterAt 20 = .ok (.getfield 18, 3) := by decide +kernel
theorem dX4_letterAt_23 : decode cX4_letterAt 23 = .ok (.iload_n 1, 1) := by decide +kernel
theorem dX4_letterAt_24 : decode cX4_letterAt 24 = .ok (.iaload, 1) := by decide +kernel
theorem dX4_letterAt_25 : decode cX4_letterAt 25 = .ok (.goto 4, 3) := by decide +kernel
theorem dX4_letterAt_28 : decode cX4_letterAt 28 = .ok (.iconst (-1), 1) := by decide +kernel
theorem dX4_letterAt_29 : decode cX4_letterAt 29 = .ok (.ireturn, 1) := by decide +kernel
theorem dX4_sortOf_0 : decode cX4_sortOf 0 = .ok (.iload_n 0, 1) := by decide +kernel
theorem dX4_sortOf_1 : decode cX4_sortOf 1 = .ok (.bipush 97, 2) := by decide +kernel
theorem dX4_sortOf_3 : decode cX4_sortOf 3 = .ok (.if_icmp .lt 11, 3) := by decide +kernel
theorem dX4_sortOf_6 : decode cX4_sortOf 6 = .ok (.iload_n 0, 1) := by decide +kernel
theorem dX4_sortOf_7 : decode cX4_sortOf 7 = .ok (.bipush 122, 2) := by decide +kernel
theorem dX4_sortOf_9 : decode cX4_sortOf 9 = .ok (.if_icmp .gt 5, 3) := by decide +kernel
theorem dX4_sortOf_12 : decode cX4_sortOf 12 = .ok (.iconst 1, 1) := by decide +kernel
theorem dX4_sortOf_13 : decode cX4_sortOf 13 = .ok (.ireturn, 1) := by decide +kernel
theorem dX4_sortOf_14 : decode cX4_sortOf 14 = .ok (.iload_n 0, 1) := by decide +kernel
theorem dX4_sortOf_15 : decode cX4_sortOf 15 = .ok (.bipush 48, 2) := by decide +kernel
theorem dX4_sortOf_17 : decode cX4_sortOf 17 = .ok (.if_icmp .lt 11, 3) := by decide +kernel
theorem dX4_sortOf_20 : decode cX4_sortOf 20 = .ok (.iload_n 0, 1) := by decide +kernel
theorem dX4_sortOf_21 : decode cX4_sortOf 21 = .ok (.bipush 57, 2) := by decide +kernel
theorem dX4_sortOf_23 : decode cX4_sortOf 23 = .ok (.if_icmp .gt 5, 3) := by decide +kernel
theorem dX4_sortOf_26 : decode cX4_sortOf 26 = .ok (.iconst 2, 1) := by decide +kernel
theorem dX4_sortOf_27 : decode cX4_sortOf 27 = .ok (.ireturn, 1) := by decide +kernel
theorem dX4_sortOf_28 : decode cX4_sortOf 28 = .ok (.iload_n 0, 1) := by decide +kernel
theorem dX4_sortOf_29 : decode cX4_sortOf 29 = .ok (.bipush 59, 2) := by decide +kernel
theorem dX4_sortOf_31 : decode cX4_sortOf 31 = .ok (.if_icmp .ne 7, 3) := by decide +kernel
theorem dX4_sortOf_34 : decode cX4_sortOf 34 = .ok (.iconst 3, 1) := by decide +kernel
theorem dX4_sortOf_35 : decode cX4_sortOf 35 = .ok (.goto 4, 3) := by decide +kernel
theorem dX4_sortOf_38 : decode cX4_sortOf 38 = .ok (.iconst 4, 1) := by decide +kernel
theorem dX4_sortOf_39 : decode cX4_sortOf 39 = .ok (.ireturn, 1) := by decide +kernel
set_option maxRecDepth 20000 in
theorem ggX4_advance_X4_letterAt : GoodIn wsX4_advance wsX4_letterAt := goodIn_r _ [9, 3, 10, 14, 15, 16, 17, 18, 19] (by decide +kernel) (by decide +kernel)
set_option maxRecDepth 20000 in
theorem gX4_advance_X4_letterAt : GoodIn wsX4_advance (wsV RX4 38 RX4 yX4_letterAt wsX4_letterAt) := goodIn_app (goodIn_of _ (by decide +kernel)) ggX4_advance_X4_letterAt
set_option maxRecDepth 20000 in
theorem ggX4_advance_X4_sortOf : GoodIn wsX4_advance wsX4_sortOf := goodIn_r _ [13] (by decide +kernel) (by decide +kernel)
set_option maxRecDepth 20000 in
theorem gX4_advance_X4_sortOf : GoodIn wsX4_advance (va_wsS RX4 42 yX4_sortOf wsX4_sortOf) := goodIn_app (goodIn_of _ (by decide +kernel)) ggX4_advance_X4_sortOf
theorem dX4_advance_0 : decode cX4_advance 0 = .ok (.aload_n 0, 1) := by decide +kernel
theorem dX4_advance_1 : decode cX4_advance 1 = .ok (.aload_n 0, 1) := by decide +kernel
theorem dX4_advance_2 : decode cX4_advance 2 = .ok (.getfield 28, 3) := by decide +kernel
theorem dX4_advance_5 : decode cX4_advance 5 = .ok (.putfield 25, 3) := by decide +kernel
theorem dX4_advance_8 : decode cX4_advance 8 = .ok (.aload_n 0, 1) := by decide +kernel
theorem dX4_advance_9 : decode cX4_advance 9 = .ok (.getfield 25, 3) := by decide +kernel
theorem dX4_advance_12 : decode cX4_advance 12 = .ok (.aload_n 0, 1) := by decide +kernel
theorem dX4_advance_13 : decode cX4_advance 13 = .ok (.getfield 9, 3) := by decide +kernel
theorem dX4_advance_16 : decode cX4_advance 16 = .ok (.if_icmp .ge 29, 3) := by decide +kernel
theorem dX4_advance_19 : decode cX4_advance 19 = .ok (.aload_n 0, 1) := by decide +kernel
theorem dX4_advance_20 : decode cX4_advance 20 = .ok (.aload_n 0, 1) := by decide +kernel
theorem dX4_advance_21 : decode cX4_advance 21 = .ok (.getfield 25, 3) := by decide +kernel
theorem dX4_advance_24 : decode cX4_advance 24 = .ok (.invokevirtual 38, 3) := by decide +kernel
theorem dX4_advance_27 : decode cX4_advance 27 = .ok (.bipush 32, 2) := by decide +kernel
theorem dX4_advance_29 : decode cX4_advance 29 = .ok (.if_icmp .ne 16, 3) := by decide +kernel
theorem dX4_advance_32 : decode cX4_advance 32 = .ok (.aload_n 0, 1) := by decide +kernel
theorem dX4_advance_33 : decode cX4_advance 33 = .ok (.dup, 1) := by decide +kernel
theorem dX4_advance_34 : decode cX4_advance 34 = .ok (.getfield 25, 3) := by decide +kernel
theorem dX4_advance_37 : decode cX4_advance 37 = .ok (.iconst 1, 1) := by decide +kernel
theorem dX4_advance_38 : decode cX4_advance 38 = .ok (.iadd, 1) := by decide +kernel
theorem dX4_advance_39 : decode cX4_advance 39 = .ok (.putfield 25, 3) := by decide +kernel
theorem dX4_advance_42 : decode cX4_advance 42 = .ok (.goto (-34), 3) := by decide +kernel
theorem dX4_advance_45 : decode cX4_advance 45 = .ok (.aload_n 0, 1) := by decide +kernel
theorem dX4_advance_46 : decode cX4_advance 46 = .ok (.aload_n 0, 1) := by decide +kernel
theorem dX4_advance_47 : decode cX4_advance 47 = .ok (.getfield 25, 3) := by decide +kernel
theorem dX4_advance_50 : decode cX4_advance 50 = .ok (.putfield 28, 3) := by decide +kernel
theorem dX4_advance_53 : decode cX4_advance 53 = .ok (.aload_n 0, 1) := by decide +kernel
theorem dX4_advance_54 : decode cX4_advance 54 = .ok (.getfield 25, 3) := by decide +kernel
theorem dX4_advance_57 : decode cX4_advance 57 = .ok (.aload_n 0, 1) := by decide +kernel
theorem dX4_advance_58 : decode cX4_advance 58 = .ok (.getfield 9, 3) := by decide +kernel
theorem dX4_advance_61 : decode cX4_advance 61 = .ok (.if_icmp .lt 9, 3) := by decide +kernel
theorem dX4_advance_64 : decode cX4_advance 64 = .ok (.aload_n 0, 1) := by decide +kernel
theorem dX4_advance_65 : decode cX4_advance 65 = .ok (.iconst 0, 1) := by decide +kernel
theorem dX4_advance_66 : decode cX4_advance 66 = .ok (.putfield 22, 3) := by decide +kernel
theorem dX4_advance_69 : decode cX4_advance 69 = .ok (.return_, 1) := by decide +kernel
theorem dX4_advance_70 : decode cX4_advance 70 = .ok (.aload_n 0, 1) := by decide +kernel
theorem dX4_advance_71 : decode cX4_advance 71 = .ok (.aload_n 0, 1) := by decide +kernel
theorem dX4_advance_72 : decode cX4_advance 72 = .ok (.aload_n 0, 1) := by decide +kernel
theorem dX4_advance_73 : decode cX4_advance 73 = .ok (.getfield 25, 3) := by decide +kernel
theorem dX4_advance_76 : decode cX4_advance 76 = .ok (.invokevirtual 38, 3) := by decide +kernel
theorem dX4_advance_79 : decode cX4_advance 79 = .ok (.invokestatic 42, 3) := by decide +kernel
theorem dX4_advance_82 : decode cX4_advance 82 = .ok (.putfield 22, 3) := by decide +kernel
theorem dX4_advance_85 : decode cX4_advance 85 = .ok (.aload_n 0, 1) := by decide +kernel
theorem dX4_advance_86 : decode cX4_advance 86 = .ok (.dup, 1) := by decide +kernel
theorem dX4_advance_87 : decode cX4_advance 87 = .ok (.getfield 28, 3) := by decide +kernel
theorem dX4_advance_90 : decode cX4_advance 90 = .ok (.iconst 1, 1) := by decide +kernel
theorem dX4_advance_91 : decode cX4_advance 91 = .ok (.iadd, 1) := by decide +kernel
theorem dX4_advance_92 : decode cX4_advance 92 = .ok (.putfield 28, 3) := by decide +kernel
theorem dX4_advance_95 : decode cX4_advance 95 = .ok (.aload_n 0, 1) := by decide +kernel
theorem dX4_advance_96 : decode cX4_advance 96 = .ok (.getfield 22, 3) := by decide +kernel
theorem dX4_advance_99 : decode cX4_advance 99 = .ok (.iconst 1, 1) := by decide +kernel
theorem dX4_advance_100 : decode cX4_advance 100 = .ok (.if_icmp .eq 11, 3) := by decide +kernel
theorem dX4_advance_103 : decode cX4_advance 103 = .ok (.aload_n 0, 1) := by decide +kernel
theorem dX4_advance_104 : decode cX4_advance 104 = .ok (.getfield 22, 3) := by decide +kernel
theorem dX4_advance_107 : decode cX4_advance 107 = .ok (.iconst 2, 1) := by decide +kernel
theorem dX4_advance_108 : decode cX4_advance 108 = .ok (.if_icmp .ne 45, 3) := by decide +kernel
theorem dX4_advance_111 : decode cX4_advance 111 = .ok (.aload_n 0, 1) := by decide +kernel
theorem dX4_advance_112 : decode cX4_advance 112 = .ok (.getfield 28, 3) := by decide +kernel
theorem dX4_advance_115 : decode cX4_advance 115 = .ok (.aload_n 0, 1) := by decide +kernel
theorem dX4_advance_116 : decode cX4_advance 116 = .ok (.getfield 9, 3) := by decide +kernel
theorem dX4_advance_119 : decode cX4_advance 119 = .ok (.if_icmp .ge 34, 3) := by decide +kernel
theorem dX4_advance_122 : decode cX4_advance 122 = .ok (.aload_n 0, 1) := by decide +kernel
theorem dX4_advance_123 : decode cX4_advance 123 = .ok (.aload_n 0, 1) := by decide +kernel
theorem dX4_advance_124 : decode cX4_advance 124 = .ok (.getfield 28, 3) := by decide +kernel
theorem dX4_advance_127 : decode cX4_advance 127 = .ok (.invokevirtual 38, 3) := by decide +kernel
theorem dX4_advance_130 : decode cX4_advance 130 = .ok (.invokestatic 42, 3) := by decide +kernel
theorem dX4_advance_133 : decode cX4_advance 133 = .ok (.aload_n 0, 1) := by decide +kernel
theorem dX4_advance_134 : decode cX4_advance 134 = .ok (.getfield 22, 3) := by decide +kernel
theorem dX4_advance_137 : decode cX4_advance 137 = .ok (.if_icmp .ne 16, 3) := by decide +kernel
theorem dX4_advance_140 : decode cX4_advance 140 = .ok (.aload_n 0, 1) := by decide +kernel
theorem dX4_advance_141 : decode cX4_advance 141 = .ok (.dup, 1) := by decide +kernel
theorem dX4_advance_142 : decode cX4_advance 142 = .ok (.getfield 28, 3) := by decide +kernel
theorem dX4_advance_145 : decode cX4_advance 145 = .ok (.iconst 1, 1) := by decide +kernel
theorem dX4_advance_146 : decode cX4_advance 146 = .ok (.iadd, 1) := by decide +kernel
theorem dX4_advance_147 : decode cX4_advance 147 = .ok (.putfield 28, 3) := by decide +kernel
theorem dX4_advance_150 : decode cX4_advance 150 = .ok (.goto (-39), 3) := by decide +kernel
theorem dX4_advance_153 : decode cX4_advance 153 = .ok (.return_, 1) := by decide +kernel
set_option maxRecDepth 20000 in
theorem ggX4_isWord_J0_length_8abf5 : GoodIn wsX4_isWord wsJ0_length_8abf5 := goodIn_r _ [8, 9, 10, 11, 12, 7, 13, 14, 15] (by decide +kernel) (by decide +kernel)
set_option maxRecDepth 20000 in
theorem gX4_isWord_J0_length_8abf5 : GoodIn wsX4_isWord (wsV RX4 45 RJ0 yJ0_length_8abf5 wsJ0_length_8abf5) := goodIn_app (goodIn_of _ (by decide +kernel)) ggX4_isWord_J0_length_8abf5
set_option maxRecDepth 20000 in
theorem ggX4_isWord_X4_letterAt : GoodIn wsX4_isWord wsX4_letterAt := goodIn_r _ [20, 21, 22, 60, 61, 62, 63, 64, 65] (by decide +kernel) (by decide +kernel)
set_option maxRecDepth 20000 in
theorem gX4_isWord_X4_letterAt : GoodIn wsX4_isWord (wsV RX4 38 RX4 yX4_letterAt wsX4_letterAt) := goodIn_app (goodIn_of _ (by decide +kernel)) ggX4_isWord_X4_letterAt
set_option maxRecDepth 20000 in
theorem ggX4_isWord_J0_charAt_5068e : GoodIn wsX4_isWord wsJ0_charAt_5068e := goodIn_r _ [26, 9, 27, 28, 29, 7, 30, 14, 15, 31, 32, 33, 34, 35, 36, 37, 38, 39, 40, 41, 42, 43, 44, 45, 46, 47, 48, 49, 50, 51, 52, 53, 54, 55, 56, 57, 58, 59] (by decide +kernel) (by decide +kernel)
set_option maxRecDepth 20000 in
theorem gX4_isWord_J0_charAt_5068e : GoodIn wsX4_isWord (wsV RX4 51 RJ0 yJ0_charAt_5068e wsJ0_charAt_5068e) := goodIn_app (goodIn_of _ (by decide +kernel)) ggX4_isWord_J0_charAt_5068e
theorem dX4_isWord_0 : decode cX4_isWord 0 = .ok (.aload_n 0, 1) := by decide +kernel
theorem dX4_isWord_1 : decode cX4_isWord 1 = .ok (.getfield 22, 3) := by decide +kernel
theorem dX4_isWord_4 : decode cX4_isWord 4 = .ok (.iconst 1, 1) := by decide +kernel
theorem dX4_isWord_5 : decode cX4_isWord 5 = .ok (.if_icmp .ne 19, 3) := by decide +kernel
theorem dX4_isWord_8 : decode cX4_isWord 8 = .ok (.aload_n 0, 1) := by decide +kernel
theorem dX4_isWord_9 : decode cX4_isWord 9 = .ok (.getfield 28, 3) := by decide +kernel
theorem dX4_isWord_12 : decode cX4_isWord 12 = .ok (.aload_n 0, 1) := by decide +kernel
theorem dX4_isWord_13 : decode cX4_isWord 13 = .ok (.getfield 25, 3) := by decide +kernel
theorem dX4_isWord_16 : decode cX4_isWord 16 = .ok (.isub, 1) := by decide +kernel
theorem dX4_isWord_17 : decode cX4_isWord 17 = .ok (.aload_n 1, 1) := by decide +kernel
theorem dX4_isWord_18 : decode cX4_isWord 18 = .ok (.invokevirtual 45, 3) := by decide +kernel
theorem dX4_isWord_21 : decode cX4_isWord 21 = .ok (.if_icmp .eq 5, 3) := by decide +kernel
theorem dX4_isWord_24 : decode cX4_isWord 24 = .ok (.iconst 0, 1) := by decide +kernel
theorem dX4_isWord_25 : decode cX4_isWord 25 = .ok (.ireturn, 1) := by decide +kernel
theorem dX4_isWord_26 : decode cX4_isWord 26 = .ok (.iconst 0, 1) := by decide +kernel
theorem dX4_isWord_27 : decode cX4_isWord 27 = .ok (.istore_n 2, 1) := by decide +kernel
theorem dX4_isWord_28 : decode cX4_isWord 28 = .ok (.iload_n 2, 1) := by decide +kernel
theorem dX4_isWord_29 : decode cX4_isWord 29 = .ok (.aload_n 1, 1) := by decide +kernel
theorem dX4_isWord_30 : decode cX4_isWord 30 = .ok (.invokevirtual 45, 3) := by decide +kernel
theorem dX4_isWord_33 : decode cX4_isWord 33 = .ok (.if_icmp .ge 29, 3) := by decide +kernel
theorem dX4_isWord_36 : decode cX4_isWord 36 = .ok (.aload_n 0, 1) := by decide +kernel
theorem dX4_isWord_37 : decode cX4_isWord 37 = .ok (.aload_n 0, 1) := by decide +kernel
theorem dX4_isWord_38 : decode cX4_isWord 38 = .ok (.getfield 25, 3) := by decide +kernel
theorem dX4_isWord_41 : decode cX4_isWord 41 = .ok (.iload_n 2, 1) := by decide +kernel
theorem dX4_isWord_42 : decode cX4_isWord 42 = .ok (.iadd, 1) := by decide +kernel
theorem dX4_isWord_43 : decode cX4_isWord 43 = .ok (.invokevirtual 38, 3) := by decide +kernel
theorem dX4_isWord_46 : decode cX4_isWord 46 = .ok (.aload_n 1, 1) := by decide +kernel
theorem dX4_isWord_47 : decode cX4_isWord 47 = .ok (.iload_n 2, 1) := by decide +kernel
theorem dX4_isWord_48 : decode cX4_isWord 48 = .ok (.invokevirtual 51, 3) := by decide +kernel
theorem dX4_isWord_51 : decode cX4_isWord 51 = .ok (.if_icmp .eq 5, 3) := by decide +kernel
theorem dX4_isWord_54 : decode cX4_isWord 54 = .ok (.iconst 0, 1) := by decide +kernel
theorem dX4_isWord_55 : decode cX4_isWord 55 = .ok (.ireturn, 1) := by decide +kernel
theorem dX4_isWord_56 : decode cX4_isWord 56 = .ok (.iinc 2 1, 3) := by decide +kernel
theorem dX4_isWord_59 : decode cX4_isWord 59 = .ok (.goto (-31), 3) := by decide +kernel
theorem dX4_isWord_62 : decode cX4_isWord 62 = .ok (.iconst 1, 1) := by decide +kernel
theorem dX4_isWord_63 : decode cX4_isWord 63 = .ok (.ireturn, 1) := by decide +kernel
theorem dX4_isFault_0 : decode cX4_isFault 0 = .ok (.aload_n 0, 1) := by decide +kernel
theorem dX4_isFault_1 : decode cX4_isFault 1 = .ok (.aload_n 0, 1) := by decide +kernel
theorem dX4_isFault_2 : decode cX4_isFault 2 = .ok (.getfield 25, 3) := by decide +kernel
theorem dX4_isFault_5 : decode cX4_isFault 5 = .ok (.putfield 15, 3) := by decide +kernel
theorem dX4_isFault_8 : decode cX4_isFault 8 = .ok (.iconst 0, 1) := by decide +kernel
theorem dX4_isFault_9 : decode cX4_isFault 9 = .ok (.ireturn, 1) := by decide +kernel
set_option maxRecDepth 20000 in
theorem ggX4_takeNumber_X4_letterAt : GoodIn wsX4_takeNumber wsX4_letterAt := goodIn_r _ [9, 10, 11, 24, 25, 26, 27, 28, 29] (by decide +kernel) (by decide +kernel)
set_option maxRecDepth 20000 in
theorem gX4_takeNumber_X4_letterAt : GoodIn wsX4_takeNumber (wsV RX4 38 RX4 yX4_letterAt wsX4_letterAt) := goodIn_app (goodIn_of _ (by decide +kernel)) ggX4_takeNumber_X4_letterAt
set_option maxRecDepth 20000 in
theorem ggX4_takeNumber_X6_isWithin : GoodIn wsX4_takeNumber wsX6_isWithin := goodIn_r _ [14] (by decide +kernel) (by decide +kernel)
set_option maxRecDepth 20000 in
theorem gX4_takeNumber_X6_isWithin_n55 : GoodIn wsX4_takeNumber (wsX6_isWithin) := ggX4_takeNumber_X6_isWithin
set_option maxRecDepth 20000 in
theorem ggX4_takeNumber_X6_has : GoodIn wsX4_takeNumber wsX6_has := goodIn_r _ [16] (by decide +kernel) (by decide +kernel)
set_option maxRecDepth 20000 in
theorem gX4_takeNumber_X6_has_n59 : GoodIn wsX4_takeNumber (wsX6_has) := ggX4_takeNumber_X6_has
set_option maxRecDepth 20000 in
theorem ggX4_takeNumber_X4_advance : GoodIn wsX4_takeNumber wsX4_advance := goodIn_r _ [20, 2, 1, 10, 3, 5, 6, 7, 8, 9, 11, 21, 22, 23, 24, 25, 26, 27, 28, 29] (by decide +kernel) (by decide +kernel)
set_option maxRecDepth 20000 in
theorem gX4_takeNumber_X4_advance : GoodIn wsX4_takeNumber (wsV RX4 31 RX4 yX4_advance wsX4_advance) := goodIn_app (goodIn_of _ (by decide +kernel)) ggX4_takeNumber_X4_advance
theorem dX4_takeNumber_0 : decode cX4_takeNumber 0 = .ok (.iconst 0, 1) := by decide +kernel
theorem dX4_takeNumber_1 : decode cX4_takeNumber 1 = .ok (.istore 4, 2) := by decide +kernel
theorem dX4_takeNumber_3 : decode cX4_takeNumber 3 = .ok (.aload_n 0, 1) := by decide +kernel
theorem dX4_takeNumber_4 : decode cX4_takeNumber 4 = .ok (.getfield 25, 3) := by decide +kernel
theorem dX4_takeNumber_7 : decode cX4_takeNumber 7 = .ok (.istore 5, 2) := by decide +kernel
theorem dX4_takeNumber_9 : decode cX4_takeNumber 9 = .ok (.iload 5, 2) := by decide +kernel
theorem dX4_takeNumber_11 : decode cX4_takeNumber 11 = .ok (.aload_n 0, 1) := by decide +kernel
theorem dX4_takeNumber_12 : decode cX4_takeNumber 12 = .ok (.getfield 28, 3) := by decide +kernel
theorem dX4_takeNumber_15 : decode cX4_takeNumber 15 = .ok (.if_icmp .ge 37, 3) := by decide +kernel
theorem dX4_takeNumber_18 : decode cX4_takeNumber 18 = .ok (.iload 5, 2) := by decide +kernel
theorem dX4_takeNumber_20 : decode cX4_takeNumber 20 = .ok (.aload_n 0, 1) := by decide +kernel
theorem dX4_takeNumber_21 : decode cX4_takeNumber 21 = .ok (.getfield 25, 3) := by decide +kernel
theorem dX4_takeNumber_24 : decode cX4_takeNumber 24 = .ok (.iconst 2, 1) := by decide +kernel
theorem dX4_takeNumber_25 : decode cX4_takeNumber 25 = .ok (.iadd, 1) := by decide +kernel
theorem dX4_takeNumber_26 : decode cX4_takeNumber 26 = .ok (.if_icmp .ge 26, 3) := by decide +kernel
theorem dX4_takeNumber_29 : decode cX4_takeNumber 29 = .ok (.iload 4, 2) := by decide +kernel
theorem dX4_takeNumber_31 : decode cX4_takeNumber 31 = .ok (.bipush 10, 2) := by decide +kernel
theorem dX4_takeNumber_33 : decode cX4_takeNumber 33 = .ok (.imul, 1) := by decide +kernel
theorem dX4_takeNumber_34 : decode cX4_takeNumber 34 = .ok (.aload_n 0, 1) := by decide +kernel
theorem dX4_takeNumber_35 : decode cX4_takeNumber 35 = .ok (.iload 5, 2) := by decide +kernel
theorem dX4_takeNumber_37 : decode cX4_takeNumber 37 = .ok (.invokevirtual 38, 3) := by decide +kernel
theorem dX4_takeNumber_40 : decode cX4_takeNumber 40 = .ok (.iadd, 1) := by decide +kernel
theorem dX4_takeNumber_41 : decode cX4_takeNumber 41 = .ok (.bipush 48, 2) := by decide +kernel
theorem dX4_takeNumber_43 : decode cX4_takeNumber 43 = .ok (.isub, 1) := by decide +kernel
theorem dX4_takeNumber_44 : decode cX4_takeNumber 44 = .ok (.istore 4, 2) := by decide +kernel
theorem dX4_takeNumber_46 : decode cX4_takeNumber 46 = .ok (.iinc 5 1, 3) := by decide +kernel
theorem dX4_takeNumber_49 : decode cX4_takeNumber 49 = .ok (.goto (-40), 3) := by decide +kernel
theorem dX4_takeNumber_52 : decode cX4_takeNumber 52 = .ok (.aload_n 0, 1) := by decide +kernel
theorem dX4_takeNumber_53 : decode cX4_takeNumber 53 = .ok (.getfield 22, 3) := by decide +kernel
theorem dX4_takeNumber_56 : decode cX4_takeNumber 56 = .ok (.iconst 2, 1) := by decide +kernel
theorem dX4_takeNumber_57 : decode cX4_takeNumber 57 = .ok (.if_icmp .ne 30, 3) := by decide +kernel
theorem dX4_takeNumber_60 : decode cX4_takeNumber 60 = .ok (.aload_n 0, 1) := by decide +kernel
theorem dX4_takeNumber_61 : decode cX4_takeNumber 61 = .ok (.getfield 28, 3) := by decide +kernel
theorem dX4_takeNumber_64 : decode cX4_takeNumber 64 = .ok (.aload_n 0, 1) := by decide +kernel
theorem dX4_takeNumber_65 : decode cX4_takeNumber 65 = .ok (.getfield 25, 3) := by decide +kernel
theorem dX4_takeNumber_68 : decode cX4_takeNumber 68 = .ok (.isub, 1) := by decide +kernel
theorem dX4_takeNumber_69 : decode cX4_takeNumber 69 = .ok (.iconst 2, 1) := by decide +kernel
theorem dX4_takeNumber_70 : decode cX4_takeNumber 70 = .ok (.if_icmp .gt 17, 3) := by decide +kernel
theorem dX4_takeNumber_73 : decode cX4_takeNumber 73 = .ok (.iload 4, 2) := by decide +kernel
theorem dX4_takeNumber_75 : decode cX4_takeNumber 75 = .ok (.iload_n 1, 1) := by decide +kernel
theorem dX4_takeNumber_76 : decode cX4_takeNumber 76 = .ok (.iload_n 2, 1) := by decide +kernel
theorem dX4_takeNumber_77 : decode cX4_takeNumber 77 = .ok (.invokestatic 55, 3) := by decide +kernel
theorem dX4_takeNumber_80 : decode cX4_takeNumber 80 = .ok (.ifCond .eq 7, 3) := by decide +kernel
theorem dX4_takeNumber_83 : decode cX4_takeNumber 83 = .ok (.iconst 1, 1) := by decide +kernel
theorem dX4_takeNumber_84 : decode cX4_takeNumber 84 = .ok (.goto 4, 3) := by decide +kernel
theorem dX4_takeNumber_87 : decode cX4_takeNumber 87 = .ok (.iconst 0, 1) := by decide +kernel
theorem dX4_takeNumber_88 : decode cX4_takeNumber 88 = .ok (.istore 5, 2) := by decide +kernel
theorem dX4_takeNumber_90 : decode cX4_takeNumber 90 = .ok (.iload 5, 2) := by decide +kernel
theorem dX4_takeNumber_92 : decode cX4_takeNumber 92 = .ok (.ifCond .eq 12, 3) := by decide +kernel
theorem dX4_takeNumber_95 : decode cX4_takeNumber 95 = .ok (.iload_n 3, 1) := by decide +kernel
theorem dX4_takeNumber_96 : decode cX4_takeNumber 96 = .ok (.iload 4, 2) := by decide +kernel
theorem dX4_takeNumber_98 : decode cX4_takeNumber 98 = .ok (.invokestatic 59, 3) := by decide +kernel
theorem dX4_takeNumber_101 : decode cX4_takeNumber 101 = .ok (.ifCond .eq 13, 3) := by decide +kernel
theorem dX4_takeNumber_104 : decode cX4_takeNumber 104 = .ok (.aload_n 0, 1) := by decide +kernel
theorem dX4_takeNumber_105 : decode cX4_takeNumber 105 = .ok (.aload_n 0, 1) := by decide +kernel
theorem dX4_takeNumber_106 : decode cX4_takeNumber 106 = .ok (.getfield 25, 3) := by decide +kernel
theorem dX4_takeNumber_109 : decode cX4_takeNumber 109 = .ok (.putfield 15, 3) := by decide +kernel
theorem dX4_takeNumber_112 : decode cX4_takeNumber 112 = .ok (.iconst (-1), 1) := by decide +kernel
theorem dX4_takeNumber_113 : decode cX4_takeNumber 113 = .ok (.ireturn, 1) := by decide +kernel
theorem dX4_takeNumber_114 : decode cX4_takeNumber 114 = .ok (.aload_n 0, 1) := by decide +kernel
theorem dX4_takeNumber_115 : decode cX4_takeNumber 115 = .ok (.invokevirtual 31, 3) := by decide +kernel
theorem dX4_takeNumber_118 : decode cX4_takeNumber 118 = .ok (.iload 4, 2) := by decide +kernel
theorem dX4_takeNumber_120 : decode cX4_takeNumber 120 = .ok (.ireturn, 1) := by decide +kernel
set_option maxRecDepth 20000 in
theorem ggX4_readStatement_X4_isWord : GoodIn wsX4_readStatement wsX4_isWord := goodIn_r _ [5, 6, 7, 8, 9, 10, 11, 12, 13, 14, 15, 16, 17, 18, 19, 20, 21, 22, 23, 4, 24, 25, 26, 27, 28, 29, 30, 31, 32, 33, 34, 35, 36, 37, 38, 39, 40, 41, 42, 43, 44, 45, 46, 47, 48, 49, 50, 51, 52, 53, 54, 55, 56, 57, 58, 59, 60, 61, 62, 63, 163, 164, 165, 166, 167, 168] (by decide +kernel) (by decide +kernel)
set_option maxRecDepth 20000 in
theorem gX4_readStatement_X4_isWord : GoodIn wsX4_readStatement (wsV RX4 65 RX4 yX4_isWord wsX4_isWord) := goodIn_app (goodIn_of _ (by decide +kernel)) ggX4_readStatement_X4_isWord
set_option maxRecDepth 20000 in
theorem ggX4_readStatement_X4_readSights : GoodIn wsX4_readStatement wsX4_readSights := goodIn_r _ [67, 68, 69, 70, 71, 4, 72, 7, 8, 25, 6, 21, 22, 23, 24, 26, 73, 74, 75, 76, 77, 78, 79, 80, 81, 82, 83, 84, 85, 169, 170, 171, 172, 173, 174, 175, 176, 177, 178, 179, 180, 181, 182, 163, 164, 165, 166, 167, 168] (by decide +kernel) (by decide +kernel)
set_option maxRecDepth 20000 in
theorem gX4_readStatement_X4_readSights : GoodIn wsX4_readStatement (wsV RX4 69 RX4 yX4_readSights wsX4_readSights) := goodIn_app (goodIn_of _ (by decide +kernel)) ggX4_readStatement_X4_readSights
set_option maxRecDepth 20000 in
theorem ggX4_readStatement_X5_isFull : GoodIn wsX4_readStatement wsX5_isFull := goodIn_r _ [90, 91, 169, 170, 171, 172, 173, 174, 175, 176, 177, 178, 179, 180, 181, 182] (by decide +kernel) (by decide +kernel)
set_option maxRecDepth 20000 in
theorem gX4_readStatement_X5_isFull : GoodIn wsX4_readStatement (wsV RX4 74 RX5 yX5_isFull wsX5_isFull) := goodIn_app (goodIn_of _ (by decide +kernel)) ggX4_readStatement_X5_isFull
set_option maxRecDepth 20000 in
theorem ggX4_readStatement_X4_isFault : GoodIn wsX4_readStatement wsX4_isFault := goodIn_r _ [95, 8, 80, 163, 164, 165, 166, 167, 168] (by decide +kernel) (by decide +kernel)
set_option maxRecDepth 20000 in
theorem gX4_readStatement_X4_isFault : GoodIn wsX4_readStatement (wsV RX4 80 RX4 yX4_isFault wsX4_isFault) := goodIn_app (goodIn_of _ (by decide +kernel)) ggX4_readStatement_X4_isFault
set_option maxRecDepth 20000 in
theorem ggX4_readStatement_X4_readPerson : GoodIn wsX4_readStatement wsX4_readPerson := goodIn_r _ [99, 69, 70, 71, 4, 72, 7, 8, 25, 6, 21, 22, 23, 24, 26, 73, 74, 75, 76, 77, 78, 79, 80, 81, 82, 83, 84, 85, 100, 101, 102, 89, 103, 91, 104, 105, 106, 107, 108, 109, 1, 2, 3, 5, 9, 10, 11, 12, 13, 14, 15, 16, 17, 18, 19, 20, 27, 28, 29, 30, 31, 32, 33, 34, 35, 36, 37, 38, 39, 40, 41, 42, 43, 44, 45, 46, 47, 48, 49, 50, 51, 52, 53, 54, 55, 56, 57, 58, 59, 60, 61, 62, 63, 92, 93, 94, 95, 110, 111, 112, 113, 68, 114, 115, 116, 117, 118, 119, 120, 121, 122, 123, 124, 125, 126, 127, 163, 164, 165, 166, 167, 168, 169, 170, 171, 172, 173, 174, 175, 176, 177, 178, 179, 180, 181, 182] (by decide +kernel) (by decide +kernel)
set_option maxRecDepth 20000 in
theorem gX4_readStatement_X4_readPerson : GoodIn wsX4_readStatement (wsV RX4 83 RX4 yX4_readPerson wsX4_readPerson) := goodIn_app (goodIn_of _ (by decide +kernel)) ggX4_readStatement_X4_readPerson
set_option maxRecDepth 20000 in
theorem ggX4_readStatement_X4_readSeen : GoodIn wsX4_readStatement wsX4_readSeen := goodIn_r _ [131, 132, 69, 70, 71, 4, 72, 7, 8, 25, 6, 21, 22, 23, 24, 26, 73, 74, 75, 133, 134, 135, 89, 136, 91, 104, 118, 82, 119, 76, 77, 78, 79, 80, 81, 83, 84, 85, 110, 111, 112, 113, 68, 114, 115, 116, 117, 106, 107, 169, 170, 171, 172, 173, 174, 175, 176, 177, 178, 179, 180, 181, 182, 163, 164, 165, 166, 167, 168] (by decide +kernel) (by decide +kernel)
set_option maxRecDepth 20000 in
theorem gX4_readStatement_X4_readSeen : GoodIn wsX4_readStatement (wsV RX4 88 RX4 yX4_readSeen wsX4_readSeen) := goodIn_app (goodIn_of _ (by decide +kernel)) ggX4_readStatement_X4_readSeen
set_option maxRecDepth 20000 in
theorem ggX4_readStatement_X4_readHeard : GoodIn wsX4_readStatement wsX4_readHeard := goodIn_r _ [140, 132, 69, 70, 71, 4, 72, 7, 8, 25, 6, 21, 22, 23, 24, 26, 73, 74, 75, 76, 77, 78, 79, 80, 81, 82, 83, 84, 85, 120, 121, 122, 123, 68, 124, 125, 126, 89, 127, 108, 118, 119, 169, 170, 171, 172, 173, 174, 175, 176, 177, 178, 179, 180, 181, 182, 163, 164, 165, 166, 167, 168] (by decide +kernel) (by decide +kernel)
set_option maxRecDepth 20000 in
theorem gX4_readStatement_X4_readHeard : GoodIn wsX4_readStatement (wsV RX4 96 RX4 yX4_readHeard wsX4_readHeard) := goodIn_app (goodIn_of _ (by decide +kernel)) ggX4_readStatement_X4_readHeard
set_option maxRecDepth 20000 in
theorem ggX4_readStatement_X4_readHears : GoodIn wsX4_readStatement wsX4_readHears := goodIn_r _ [144, 132, 69, 70, 71, 4, 72, 7, 8, 25, 6, 21, 22, 23, 24, 26, 73, 74, 75, 76, 77, 78, 79, 80, 81, 82, 83, 84, 85, 145, 146, 147, 89, 148, 109, 118, 119, 169, 170, 171, 172, 173, 174, 175, 176, 177, 178, 179, 180, 181, 182, 163, 164, 165, 166, 167, 168] (by decide +kernel) (by decide +kernel)
set_option maxRecDepth 20000 in
theorem gX4_readStatement_X4_readHears : GoodIn wsX4_readStatement (wsV RX4 101 RX4 yX4_readHears wsX4_readHears) := goodIn_app (goodIn_of _ (by decide +kernel)) ggX4_readStatement_X4_readHears
set_option maxRecDepth 20000 in
theorem ggX4_readStatement_X4_readSetting : GoodIn wsX4_readStatement wsX4_readSetting := goodIn_r _ [152, 69, 70, 71, 4, 72, 7, 8, 25, 6, 21, 22, 23, 24, 26, 73, 74, 75, 153, 154, 89, 155, 76, 77, 78, 79, 80, 81, 82, 83, 84, 85, 156, 157, 158, 159, 160, 161, 162, 163, 164, 165, 166, 167, 168, 169, 170, 171, 172, 173, 174, 175, 176, 177, 178, 179, 180, 181, 182] (by decide +kernel) (by decide +kernel)
set_option maxRecDepth 20000 in
theorem gX4_readStatement_X4_readSetting : GoodIn wsX4_readStatement (wsV RX4 106 RX4 yX4_readSetting wsX4_readSetting) := goodIn_app (goodIn_of _ (by decide +kernel)) ggX4_readStatement_X4_readSetting
theorem dX4_readStatement_0 : decode cX4_readStatement 0 = .ok (.aload_n 0, 1) := by decide +kernel
theorem dX4_readStatement_1 : decode cX4_readStatement 1 = .ok (.ldc 63, 2) := by decide +kernel
theorem dX4_readStatement_3 : decode cX4_readStatement 3 = .ok (.invokevirtual 65, 3) := by decide +kernel
theorem dX4_readStatement_6 : decode cX4_readStatement 6 = .ok (.ifCond .eq 9, 3) := by decide +kernel
theorem dX4_readStatement_9 : decode cX4_readStatement 9 = .ok (.aload_n 0, 1) := by decide +kernel
theorem dX4_readStatement_10 : decode cX4_readStatement 10 = .ok (.aload_n 1, 1) := by decide +kernel
theorem dX4_readStatement_11 : decode cX4_readStatement 11 = .ok (.invokevirtual 69, 3) := by decide +kernel
theorem dX4_readStatement_14 : decode cX4_readStatement 14 = .ok (.ireturn, 1) := by decide +kernel
theorem dX4_readStatement_15 : decode cX4_readStatement 15 = .ok (.aload_n 0, 1) := by decide +kernel
theorem dX4_readStatement_16 : decode cX4_readStatement 16 = .ok (.ldc 72, 2) := by decide +kernel
theorem dX4_readStatement_18 : decode cX4_readStatement 18 = .ok (.invokevirtual 65, 3) := by decide +kernel
theorem dX4_readStatement_21 : decode cX4_readStatement 21 = .ok (.ifCond .eq 23, 3) := by decide +kernel
theorem dX4_readStatement_24 : decode cX4_readStatement 24 = .ok (.aload_n 1, 1) := by decide +kernel
theorem dX4_readStatement_25 : decode cX4_readStatement 25 = .ok (.invokevirtual 74, 3) := by decide +kernel
theorem dX4_readStatement_28 : decode cX4_readStatement 28 = .ok (.ifCond .eq 10, 3) := by decide +kernel
theorem dX4_readStatement_31 : decode cX4_readStatement 31 = .ok (.aload_n 0, 1) := by decide +kernel
theorem dX4_readStatement_32 : decode cX4_readStatement 32 = .ok (.invokevirtual 80, 3) := by decide +kernel
theorem dX4_readStatement_35 : decode cX4_readStatement 35 = .ok (.goto 8, 3) := by decide +kernel
theorem dX4_readStatement_38 : decode cX4_readStatement 38 = .ok (.aload_n 0, 1) := by decide +kernel
theorem dX4_readStatement_39 : decode cX4_readStatement 39 = .ok (.aload_n 1, 1) := by decide +kernel
theorem dX4_readStatement_40 : decode cX4_readStatement 40 = .ok (.invokevirtual 83, 3) := by decide +kernel
theorem dX4_readStatement_43 : decode cX4_readStatement 43 = .ok (.ireturn, 1) := by decide +kernel
theorem dX4_readStatement_44 : decode cX4_readStatement 44 = .ok (.aload_n 0, 1) := by decide +kernel
theorem dX4_readStatement_45 : decode cX4_readStatement 45 = .ok (.ldc 86, 2) := by decide +kernel
theorem dX4_readStatement_47 : decode cX4_readStatement 47 = .ok (.invokevirtual 65, 3) := by decide +kernel
theorem dX4_readStatement_50 : decode cX4_readStatement 50 = .ok (.ifCond .eq 10, 3) := by decide +kernel
theorem dX4_readStatement_53 : decode cX4_readStatement 53 = .ok (.aload_n 0, 1) := by decide +kernel
theorem dX4_readStatement_54 : decode cX4_readStatement 54 = .ok (.aload_n 1, 1) := by decide +kernel
theorem dX4_readStatement_55 : decode cX4_readStatement 55 = .ok (.iconst 2, 1) := by decide +kernel
theorem dX4_readStatement_56 : decode cX4_readStatement 56 = .ok (.invokevirtual 88, 3) := by decide +kernel
theorem dX4_readStatement_59 : decode cX4_readStatement 59 = .ok (.ireturn, 1) := by decide +kernel
theorem dX4_readStatement_60 : decode cX4_readStatement 60 = .ok (.aload_n 0, 1) := by decide +kernel
theorem dX4_readStatement_61 : decode cX4_readStatement 61 = .ok (.ldc 92, 2) := by decide +kernel
theorem dX4_readStatement_63 : decode cX4_readStatement 63 = .ok (.invokevirtual 65, 3) := by decide +kernel
theorem dX4_readStatement_66 : decode cX4_readStatement 66 = .ok (.ifCond .eq 10, 3) := by decide +kernel
theorem dX4_readStatement_69 : decode cX4_readStatement 69 = .ok (.aload_n 0, 1) := by decide +kernel
theorem dX4_readStatement_70 : decode cX4_readStatement 70 = .ok (.aload_n 1, 1) := by decide +kernel
theorem dX4_readStatement_71 : decode cX4_readStatement 71 = .ok (.iconst 1, 1) := by decide +kernel
theorem dX4_readStatement_72 : decode cX4_readStatement 72 = .ok (.invokevirtual 88, 3) := by decide +kernel
theorem dX4_readStatement_75 : decode cX4_readStatement 75 = .ok (.ireturn, 1) := by decide +kernel
theorem dX4_readStatement_76 : decode cX4_readStatement 76 = .ok (.aload_n 0, 1) := by decide +kernel
theorem dX4_readStatement_77 : decode cX4_readStatement 77 = .ok (.ldc 94, 2) := by decide +kernel
theorem dX4_readStatement_79 : decode cX4_readStatement 79 = .ok (.invokevirtual 65, 3) := by decide +kernel
theorem dX4_readStatement_82 : decode cX4_readStatement 82 = .ok (.ifCond .eq 9, 3) := by decide +kernel
theorem dX4_readStatement_85 : decode cX4_readStatement 85 = .ok (.aload_n 0, 1) := by decide +kernel
theorem dX4_readStatement_86 : decode cX4_readStatement 86 = .ok (.aload_n 1, 1) := by decide +kernel
theorem dX4_readStatement_87 : decode cX4_readStatement 87 = .ok (.invokevirtual 96, 3) := by decide +kernel
theorem dX4_readStatement_90 : decode cX4_readStatement 90 = .ok (.ireturn, 1) := by decide +kernel
theorem dX4_readStatement_91 : decode cX4_readStatement 91 = .ok (.aload_n 0, 1) := by decide +kernel
theorem dX4_readStatement_92 : decode cX4_readStatement 92 = .ok (.ldc 99, 2) := by decide +kernel
theorem dX4_readStatement_94 : decode cX4_readStatement 94 = .ok (.invokevirtual 65, 3) := by decide +kernel
theorem dX4_readStatement_97 : decode cX4_readStatement 97 = .ok (.ifCond .eq 9, 3) := by decide +kernel
theorem dX4_readStatement_100 : decode cX4_readStatement 100 = .ok (.aload_n 0, 1) := by decide +kernel
theorem dX4_readStatement_101 : decode cX4_readStatement 101 = .ok (.aload_n 1, 1) := by decide +kernel
theorem dX4_readStatement_102 : decode cX4_readStatement 102 = .ok (.invokevirtual 101, 3) := by decide +kernel
theorem dX4_readStatement_105 : decode cX4_readStatement 105 = .ok (.ireturn, 1) := by decide +kernel
theorem dX4_readStatement_106 : decode cX4_readStatement 106 = .ok (.aload_n 0, 1) := by decide +kernel
theorem dX4_readStatement_107 : decode cX4_readStatement 107 = .ok (.ldc 104, 2) := by decide +kernel
theorem dX4_readStatement_109 : decode cX4_readStatement 109 = .ok (.invokevirtual 65, 3) := by decide +kernel
theorem dX4_readStatement_112 : decode cX4_readStatement 112 = .ok (.ifCond .eq 10, 3) := by decide +kernel
theorem dX4_readStatement_115 : decode cX4_readStatement 115 = .ok (.aload_n 0, 1) := by decide +kernel
theorem dX4_readStatement_116 : decode cX4_readStatement 116 = .ok (.aload_n 1, 1) := by decide +kernel
theorem dX4_readStatement_117 : decode cX4_readStatement 117 = .ok (.iconst 0, 1) := by decide +kernel
theorem dX4_readStatement_118 : decode cX4_readStatement 118 = .ok (.invokevirtual 106, 3) := by decide +kernel
theorem dX4_readStatement_121 : decode cX4_readStatement 121 = .ok (.ireturn, 1) := by decide +kernel
theorem dX4_readStatement_122 : decode cX4_readStatement 122 = .ok (.aload_n 0, 1) := by decide +kernel
theorem dX4_readStatement_123 : decode cX4_readStatement 123 = .ok (.ldc 109, 2) := by decide +kernel
theorem dX4_readStatement_125 : decode cX4_readStatement 125 = .ok (.invokevirtual 65, 3) := by decide +kernel
theorem dX4_readStatement_128 : decode cX4_readStatement 128 = .ok (.ifCond .eq 10, 3) := by decide +kernel
theorem dX4_readStatement_131 : decode cX4_readStatement 131 = .ok (.aload_n 0, 1) := by decide +kernel
theorem dX4_readStatement_132 : decode cX4_readStatement 132 = .ok (.aload_n 1, 1) := by decide +kernel
theorem dX4_readStatement_133 : decode cX4_readStatement 133 = .ok (.iconst 1, 1) := by decide +kernel
theorem dX4_readStatement_134 : decode cX4_readStatement 134 = .ok (.invokevirtual 106, 3) := by decide +kernel
theorem dX4_readStatement_137 : decode cX4_readStatement 137 = .ok (.ireturn, 1) := by decide +kernel
theorem dX4_readStatement_138 : decode cX4_readStatement 138 = .ok (.aload_n 0, 1) := by decide +kernel
theorem dX4_readStatement_139 : decode cX4_readStatement 139 = .ok (.ldc 111, 2) := by decide +kernel
theorem dX4_readStatement_141 : decode cX4_readStatement 141 = .ok (.invokevirtual 65, 3) := by decide +kernel
theorem dX4_readStatement_144 : decode cX4_readStatement 144 = .ok (.ifCond .eq 12, 3) := by decide +kernel
theorem dX4_readStatement_147 : decode cX4_readStatement 147 = .ok (.aload_n 0, 1) := by decide +kernel
theorem dX4_readStatement_148 : decode cX4_readStatement 148 = .ok (.aload_n 1, 1) := by decide +kernel
theorem dX4_readStatement_149 : decode cX4_readStatement 149 = .ok (.iconst 2, 1) := by decide +kernel
theorem dX4_readStatement_150 : decode cX4_readStatement 150 = .ok (.invokevirtual 106, 3) := by decide +kernel
theorem dX4_readStatement_153 : decode cX4_readStatement 153 = .ok (.goto 7, 3) := by decide +kernel
theorem dX4_readStatement_156 : decode cX4_readStatement 156 = .ok (.aload_n 0, 1) := by decide +kernel
theorem dX4_readStatement_157 : decode cX4_readStatement 157 = .ok (.invokevirtual 80, 3) := by decide +kernel
theorem dX4_readStatement_160 : decode cX4_readStatement 160 = .ok (.ireturn, 1) := by decide +kernel
set_option maxRecDepth 20000 in
theorem ggX4_readSights_X4_advance : GoodIn wsX4_readSights wsX4_advance := goodIn_r _ [6, 7, 8, 9, 10, 11, 12, 13, 5, 14, 15, 16, 17, 18, 43, 44, 45, 46, 47, 48] (by decide +kernel) (by decide +kernel)
set_option maxRecDepth 20000 in
theorem gX4_readSights_X4_advance : GoodIn wsX4_readSights (wsV RX4 31 RX4 yX4_advance wsX4_advance) := goodIn_app (goodIn_of _ (by decide +kernel)) ggX4_readSights_X4_advance
set_option maxRecDepth 20000 in
theorem ggX4_readSights_X4_takeNumber : GoodIn wsX4_readSights wsX4_takeNumber := goodIn_r _ [22, 8, 7, 10, 23, 11, 12, 13, 5, 14, 9, 15, 24, 25, 26, 27, 28, 2, 3, 4, 6, 16, 17, 18, 43, 44, 45, 46, 47, 48] (by decide +kernel) (by decide +kernel)
set_option maxRecDepth 20000 in
theorem gX4_readSights_X4_takeNumber : GoodIn wsX4_readSights (wsV RX4 115 RX4 yX4_takeNumber wsX4_takeNumber) := goodIn_app (goodIn_of _ (by decide +kernel)) ggX4_readSights_X4_takeNumber
theorem dX4_readSights_0 : decode cX4_readSights 0 = .ok (.aload_n 0, 1) := by decide +kernel
theorem dX4_readSights_1 : decode cX4_readSights 1 = .ok (.invokevirtual 31, 3) := by decide +kernel
theorem dX4_readSights_4 : decode cX4_readSights 4 = .ok (.aload_n 0, 1) := by decide +kernel
theorem dX4_readSights_5 : decode cX4_readSights 5 = .ok (.aload_n 1, 1) := by decide +kernel
theorem dX4_readSights_6 : decode cX4_readSights 6 = .ok (.getfield 113, 3) := by decide +kernel
theorem dX4_readSights_9 : decode cX4_readSights 9 = .ok (.bipush 8, 2) := by decide +kernel
theorem dX4_readSights_11 : decode cX4_readSights 11 = .ok (.iconst 0, 1) := by decide +kernel
theorem dX4_readSights_12 : decode cX4_readSights 12 = .ok (.invokevirtual 115, 3) := by decide +kernel
theorem dX4_readSights_15 : decode cX4_readSights 15 = .ok (.istore_n 2, 1) := by decide +kernel
theorem dX4_readSights_16 : decode cX4_readSights 16 = .ok (.iload_n 2, 1) := by decide +kernel
theorem dX4_readSights_17 : decode cX4_readSights 17 = .ok (.iconst (-1), 1) := by decide +kernel
theorem dX4_readSights_18 : decode cX4_readSights 18 = .ok (.if_icmp .ne 5, 3) := by decide +kernel
theorem dX4_readSights_21 : decode cX4_readSights 21 = .ok (.iconst 0, 1) := by decide +kernel
theorem dX4_readSights_22 : decode cX4_readSights 22 = .ok (.ireturn, 1) := by decide +kernel
theorem dX4_readSights_23 : decode cX4_readSights 23 = .ok (.aload_n 1, 1) := by decide +kernel
theorem dX4_readSights_24 : decode cX4_readSights 24 = .ok (.iload_n 2, 1) := by decide +kernel
theorem dX4_readSights_25 : decode cX4_readSights 25 = .ok (.putfield 113, 3) := by decide +kernel
theorem dX4_readSights_28 : decode cX4_readSights 28 = .ok (.iconst 1, 1) := by decide +kernel
theorem dX4_readSights_29 : decode cX4_readSights 29 = .ok (.ireturn, 1) := by decide +kernel
set_option maxRecDepth 20000 in
theorem ggX4_readPerson_X4_advance : GoodIn wsX4_readPerson wsX4_advance := goodIn_r _ [5, 6, 7, 8, 9, 10, 11, 12, 4, 13, 14, 15, 16, 17, 116, 117, 118, 119, 120, 121] (by decide +kernel) (by decide +kernel)
set_option maxRecDepth 20000 in
theorem gX4_readPerson_X4_advance : GoodIn wsX4_readPerson (wsV RX4 31 RX4 yX4_advance wsX4_advance) := goodIn_app (goodIn_of _ (by decide +kernel)) ggX4_readPerson_X4_advance
set_option maxRecDepth 20000 in
theorem ggX4_readPerson_X4_takeNumber : GoodIn wsX4_readPerson wsX4_takeNumber := goodIn_r _ [21, 7, 6, 9, 22, 10, 11, 12, 4, 13, 8, 14, 23, 24, 25, 26, 27, 1, 2, 3, 5, 15, 16, 17, 116, 117, 118, 119, 120, 121] (by decide +kernel) (by decide +kernel)
set_option maxRecDepth 20000 in
theorem gX4_readPerson_X4_takeNumber : GoodIn wsX4_readPerson (wsV RX4 115 RX4 yX4_takeNumber wsX4_takeNumber) := goodIn_app (goodIn_of _ (by decide +kernel)) ggX4_readPerson_X4_takeNumber
set_option maxRecDepth 20000 in
theorem ggX4_readPerson_X5_join : GoodIn wsX4_readPerson wsX5_join := goodIn_r _ [32, 33, 34, 35, 36, 37, 38, 39, 122, 123, 124, 125, 126, 127, 128, 129, 130, 131, 132, 133, 134, 135] (by decide +kernel) (by decide +kernel)
set_option maxRecDepth 20000 in
theorem gX4_readPerson_X5_join : GoodIn wsX4_readPerson (wsV RX4 119 RX5 yX5_join wsX5_join) := goodIn_app (goodIn_of _ (by decide +kernel)) ggX4_readPerson_X5_join
set_option maxRecDepth 20000 in
theorem ggX4_readPerson_X4_isWord : GoodIn wsX4_readPerson wsX4_isWord := goodIn_r _ [43, 9, 6, 7, 44, 45, 46, 47, 48, 49, 50, 51, 52, 53, 54, 55, 10, 11, 12, 4, 13, 8, 14, 56, 57, 58, 59, 60, 61, 62, 63, 64, 65, 66, 67, 68, 69, 70, 71, 72, 73, 74, 75, 76, 77, 78, 79, 80, 81, 82, 83, 84, 85, 86, 87, 88, 89, 90, 91, 92, 116, 117, 118, 119, 120, 121] (by decide +kernel) (by decide +kernel)
set_option maxRecDepth 20000 in
theorem gX4_readPerson_X4_isWord : GoodIn wsX4_readPerson (wsV RX4 65 RX4 yX4_isWord wsX4_isWord) := goodIn_app (goodIn_of _ (by decide +kernel)) ggX4_readPerson_X4_isWord
set_option maxRecDepth 20000 in
theorem ggX4_readPerson_X4_isFault : GoodIn wsX4_readPerson wsX4_isFault := goodIn_r _ [96, 7, 22, 116, 117, 118, 119, 120, 121] (by decide +kernel) (by decide +kernel)
set_option maxRecDepth 20000 in
theorem gX4_readPerson_X4_isFault : GoodIn wsX4_readPerson (wsV RX4 80 RX4 yX4_isFault wsX4_isFault) := goodIn_app (goodIn_of _ (by decide +kernel)) ggX4_readPerson_X4_isFault
set_option maxRecDepth 20000 in
theorem ggX4_readPerson_X4_readSightSeen : GoodIn wsX4_readPerson wsX4_readSightSeen := goodIn_r _ [100, 101, 18, 19, 20, 4, 21, 7, 6, 9, 22, 10, 11, 12, 13, 8, 14, 23, 24, 25, 26, 27, 1, 2, 3, 5, 15, 16, 17, 102, 103, 104, 31, 105, 36, 37, 106, 107, 122, 123, 124, 125, 126, 127, 128, 129, 130, 131, 132, 133, 134, 135, 116, 117, 118, 119, 120, 121] (by decide +kernel) (by decide +kernel)
set_option maxRecDepth 20000 in
theorem gX4_readPerson_X4_readSightSeen : GoodIn wsX4_readPerson (wsV RX4 123 RX4 yX4_readSightSeen wsX4_readSightSeen) := goodIn_app (goodIn_of _ (by decide +kernel)) ggX4_readPerson_X4_readSightSeen
set_option maxRecDepth 20000 in
theorem ggX4_readPerson_X4_readSightHeard : GoodIn wsX4_readPerson wsX4_readSightHeard := goodIn_r _ [111, 101, 18, 19, 20, 4, 21, 7, 6, 9, 22, 10, 11, 12, 13, 8, 14, 23, 24, 25, 26, 27, 1, 2, 3, 5, 15, 16, 17, 112, 113, 114, 31, 115, 38, 106, 107, 122, 123, 124, 125, 126, 127, 128, 129, 130, 131, 132, 133, 134, 135, 116, 117, 118, 119, 120, 121] (by decide +kernel) (by decide +kernel)
set_option maxRecDepth 20000 in
theorem gX4_readPerson_X4_readSightHeard : GoodIn wsX4_readPerson (wsV RX4 127 RX4 yX4_readSightHeard wsX4_readSightHeard) := goodIn_app (goodIn_of _ (by decide +kernel)) ggX4_readPerson_X4_readSightHeard
theorem dX4_readPerson_0 : decode cX4_readPerson 0 = .ok (.aload_n 0, 1) := by decide +kernel
theorem dX4_readPerson_1 : decode cX4_readPerson 1 = .ok (.invokevirtual 31, 3) := by decide +kernel
theorem dX4_readPerson_4 : decode cX4_readPerson 4 = .ok (.aload_n 0, 1) := by decide +kernel
theorem dX4_readPerson_5 : decode cX4_readPerson 5 = .ok (.iconst 0, 1) := by decide +kernel
theorem dX4_readPerson_6 : decode cX4_readPerson 6 = .ok (.iconst 5, 1) := by decide +kernel
theorem dX4_readPerson_7 : decode cX4_readPerson 7 = .ok (.iconst 0, 1) := by decide +kernel
theorem dX4_readPerson_8 : decode cX4_readPerson 8 = .ok (.invokevirtual 115, 3) := by decide +kernel
theorem dX4_readPerson_11 : decode cX4_readPerson 11 = .ok (.istore_n 2, 1) := by decide +kernel
theorem dX4_readPerson_12 : decode cX4_readPerson 12 = .ok (.iload_n 2, 1) := by decide +kernel
theorem dX4_readPerson_13 : decode cX4_readPerson 13 = .ok (.iconst (-1), 1) := by decide +kernel
theorem dX4_readPerson_14 : decode cX4_readPerson 14 = .ok (.if_icmp .ne 7, 3) := by decide +kernel
theorem dX4_readPerson_17 : decode cX4_readPerson 17 = .ok (.iconst (-1), 1) := by decide +kernel
theorem dX4_readPerson_18 : decode cX4_readPerson 18 = .ok (.goto 11, 3) := by decide +kernel
theorem dX4_readPerson_21 : decode cX4_readPerson 21 = .ok (.aload_n 0, 1) := by decide +kernel
theorem dX4_readPerson_22 : decode cX4_readPerson 22 = .ok (.iconst 0, 1) := by decide +kernel
theorem dX4_readPerson_23 : decode cX4_readPerson 23 = .ok (.bipush 9, 2) := by decide +kernel
theorem dX4_readPerson_25 : decode cX4_readPerson 25 = .ok (.iconst 0, 1) := by decide +kernel
theorem dX4_readPerson_26 : decode cX4_readPerson 26 = .ok (.invokevirtual 115, 3) := by decide +kernel
theorem dX4_readPerson_29 : decode cX4_readPerson 29 = .ok (.istore_n 3, 1) := by decide +kernel
theorem dX4_readPerson_30 : decode cX4_readPerson 30 = .ok (.iload_n 3, 1) := by decide +kernel
theorem dX4_readPerson_31 : decode cX4_readPerson 31 = .ok (.iconst (-1), 1) := by decide +kernel
theorem dX4_readPerson_32 : decode cX4_readPerson 32 = .ok (.if_icmp .ne 5, 3) := by decide +kernel
theorem dX4_readPerson_35 : decode cX4_readPerson 35 = .ok (.iconst 0, 1) := by decide +kernel
theorem dX4_readPerson_36 : decode cX4_readPerson 36 = .ok (.ireturn, 1) := by decide +kernel
theorem dX4_readPerson_37 : decode cX4_readPerson 37 = .ok (.aload_n 1, 1) := by decide +kernel
theorem dX4_readPerson_38 : decode cX4_readPerson 38 = .ok (.iload_n 2, 1) := by decide +kernel
theorem dX4_readPerson_39 : decode cX4_readPerson 39 = .ok (.iload_n 3, 1) := by decide +kernel
theorem dX4_readPerson_40 : decode cX4_readPerson 40 = .ok (.invokevirtual 119, 3) := by decide +kernel
theorem dX4_readPerson_43 : decode cX4_readPerson 43 = .ok (.istore 4, 2) := by decide +kernel
theorem dX4_readPerson_45 : decode cX4_readPerson 45 = .ok (.aload_n 0, 1) := by decide +kernel
theorem dX4_readPerson_46 : decode cX4_readPerson 46 = .ok (.ldc 86, 2) := by decide +kernel
theorem dX4_readPerson_48 : decode cX4_readPerson 48 = .ok (.invokevirtual 65, 3) := by decide +kernel
theorem dX4_readPerson_51 : decode cX4_readPerson 51 = .ok (.ifCond .eq 30, 3) := by decide +kernel
theorem dX4_readPerson_54 : decode cX4_readPerson 54 = .ok (.iload_n 2, 1) := by decide +kernel
theorem dX4_readPerson_55 : decode cX4_readPerson 55 = .ok (.iconst 4, 1) := by decide +kernel
theorem dX4_readPerson_56 : decode cX4_readPerson 56 = .ok (.if_icmp .ne 8, 3) := by decide +kernel
theorem dX4_readPerson_59 : decode cX4_readPerson 59 = .ok (.aload_n 0, 1) := by decide +kernel
theorem dX4_readPerson_60 : decode cX4_readPerson 60 = .ok (.invokevirtual 80, 3) := by decide +kernel
theorem dX4_readPerson_63 : decode cX4_readPerson 63 = .ok (.ireturn, 1) := by decide +kernel
theorem dX4_readPerson_64 : decode cX4_readPerson 64 = .ok (.aload_n 0, 1) := by decide +kernel
theorem dX4_readPerson_65 : decode cX4_readPerson 65 = .ok (.invokevirtual 31, 3) := by decide +kernel
theorem dX4_readPerson_68 : decode cX4_readPerson 68 = .ok (.aload_n 0, 1) := by decide +kernel
theorem dX4_readPerson_69 : decode cX4_readPerson 69 = .ok (.aload_n 1, 1) := by decide +kernel
theorem dX4_readPerson_70 : decode cX4_readPerson 70 = .ok (.iload 4, 2) := by decide +kernel
theorem dX4_readPerson_72 : decode cX4_readPerson 72 = .ok (.iconst 2, 1) := by decide +kernel
theorem dX4_readPerson_73 : decode cX4_readPerson 73 = .ok (.invokevirtual 123, 3) := by decide +kernel
theorem dX4_readPerson_76 : decode cX4_readPerson 76 = .ok (.ifCond .ne 5, 3) := by decide +kernel
theorem dX4_readPerson_79 : decode cX4_readPerson 79 = .ok (.iconst 0, 1) := by decide +kernel
theorem dX4_readPerson_80 : decode cX4_readPerson 80 = .ok (.ireturn, 1) := by decide +kernel
theorem dX4_readPerson_81 : decode cX4_readPerson 81 = .ok (.aload_n 0, 1) := by decide +kernel
theorem dX4_readPerson_82 : decode cX4_readPerson 82 = .ok (.ldc 94, 2) := by decide +kernel
theorem dX4_readPerson_84 : decode cX4_readPerson 84 = .ok (.invokevirtual 65, 3) := by decide +kernel
theorem dX4_readPerson_87 : decode cX4_readPerson 87 = .ok (.ifCond .eq 15, 3) := by decide +kernel
theorem dX4_readPerson_90 : decode cX4_readPerson 90 = .ok (.aload_n 0, 1) := by decide +kernel
theorem dX4_readPerson_91 : decode cX4_readPerson 91 = .ok (.invokevirtual 31, 3) := by decide +kernel
theorem dX4_readPerson_94 : decode cX4_readPerson 94 = .ok (.aload_n 0, 1) := by decide +kernel
theorem dX4_readPerson_95 : decode cX4_readPerson 95 = .ok (.aload_n 1, 1) := by decide +kernel
theorem dX4_readPerson_96 : decode cX4_readPerson 96 = .ok (.iload 4, 2) := by decide +kernel
theorem dX4_readPerson_98 : decode cX4_readPerson 98 = .ok (.invokevirtual 127, 3) := by decide +kernel
theorem dX4_readPerson_101 : decode cX4_readPerson 101 = .ok (.ireturn, 1) := by decide +kernel
theorem dX4_readPerson_102 : decode cX4_readPerson 102 = .ok (.iconst 1, 1) := by decide +kernel
theorem dX4_readPerson_103 : decode cX4_readPerson 103 = .ok (.ireturn, 1) := by decide +kernel
set_option maxRecDepth 20000 in
theorem ggX4_readSeen_X4_advance : GoodIn wsX4_readSeen wsX4_advance := goodIn_r _ [6, 7, 8, 9, 10, 11, 12, 13, 5, 14, 15, 16, 17, 18, 63, 64, 65, 66, 67, 68] (by decide +kernel) (by decide +kernel)
set_option maxRecDepth 20000 in
theorem gX4_readSeen_X4_advance : GoodIn wsX4_readSeen (wsV RX4 31 RX4 yX4_advance wsX4_advance) := goodIn_app (goodIn_of _ (by decide +kernel)) ggX4_readSeen_X4_advance
set_option maxRecDepth 20000 in
theorem ggX4_readSeen_X5_allBlind : GoodIn wsX4_readSeen wsX5_allBlind := goodIn_r _ [23, 24, 25, 26, 27, 28, 49, 50, 51, 52, 53, 54, 55, 56, 57, 58, 59, 60, 61, 62] (by decide +kernel) (by decide +kernel)
set_option maxRecDepth 20000 in
theorem gX4_readSeen_X5_allBlind : GoodIn wsX4_readSeen (wsV RX4 133 RX5 yX5_allBlind wsX5_allBlind) := goodIn_app (goodIn_of _ (by decide +kernel)) ggX4_readSeen_X5_allBlind
set_option maxRecDepth 20000 in
theorem ggX4_readSeen_X4_takeNumber : GoodIn wsX4_readSeen wsX4_takeNumber := goodIn_r _ [32, 8, 7, 10, 33, 11, 12, 13, 5, 14, 9, 15, 34, 27, 35, 36, 37, 2, 3, 4, 6, 16, 17, 18, 63, 64, 65, 66, 67, 68] (by decide +kernel) (by decide +kernel)
set_option maxRecDepth 20000 in
theorem gX4_readSeen_X4_takeNumber : GoodIn wsX4_readSeen (wsV RX4 115 RX4 yX4_takeNumber wsX4_takeNumber) := goodIn_app (goodIn_of _ (by decide +kernel)) ggX4_readSeen_X4_takeNumber
set_option maxRecDepth 20000 in
theorem ggX4_readSeen_X4_readSightSeen : GoodIn wsX4_readSeen wsX4_readSightSeen := goodIn_r _ [41, 42, 29, 30, 31, 5, 32, 8, 7, 10, 33, 11, 12, 13, 14, 9, 15, 34, 27, 35, 36, 37, 2, 3, 4, 6, 16, 17, 18, 43, 44, 45, 22, 46, 47, 48, 26, 28, 49, 50, 51, 52, 53, 54, 55, 56, 57, 58, 59, 60, 61, 62, 63, 64, 65, 66, 67, 68] (by decide +kernel) (by decide +kernel)
set_option maxRecDepth 20000 in
theorem gX4_readSeen_X4_readSightSeen : GoodIn wsX4_readSeen (wsV RX4 123 RX4 yX4_readSightSeen wsX4_readSightSeen) := goodIn_app (goodIn_of _ (by decide +kernel)) ggX4_readSeen_X4_readSightSeen
theorem dX4_readSeen_0 : decode cX4_readSeen 0 = .ok (.aload_n 0, 1) := by decide +kernel
theorem dX4_readSeen_1 : decode cX4_readSeen 1 = .ok (.invokevirtual 31, 3) := by decide +kernel
theorem dX4_readSeen_4 : decode cX4_readSeen 4 = .ok (.aload_n 0, 1) := by decide +kernel
theorem dX4_readSeen_5 : decode cX4_readSeen 5 = .ok (.iconst 0, 1) := by decide +kernel
theorem dX4_readSeen_6 : decode cX4_readSeen 6 = .ok (.aload_n 1, 1) := by decide +kernel
theorem dX4_readSeen_7 : decode cX4_readSeen 7 = .ok (.getfield 130, 3) := by decide +kernel
theorem dX4_readSeen_10 : decode cX4_readSeen 10 = .ok (.iconst 1, 1) := by decide +kernel
theorem dX4_readSeen_11 : decode cX4_readSeen 11 = .ok (.isub, 1) := by decide +kernel
theorem dX4_readSeen_12 : decode cX4_readSeen 12 = .ok (.aload_n 1, 1) := by decide +kernel
theorem dX4_readSeen_13 : decode cX4_readSeen 13 = .ok (.invokevirtual 133, 3) := by decide +kernel
theorem dX4_readSeen_16 : decode cX4_readSeen 16 = .ok (.invokevirtual 115, 3) := by decide +kernel
theorem dX4_readSeen_19 : decode cX4_readSeen 19 = .ok (.istore_n 3, 1) := by decide +kernel
theorem dX4_readSeen_20 : decode cX4_readSeen 20 = .ok (.iload_n 3, 1) := by decide +kernel
theorem dX4_readSeen_21 : decode cX4_readSeen 21 = .ok (.iconst (-1), 1) := by decide +kernel
theorem dX4_readSeen_22 : decode cX4_readSeen 22 = .ok (.if_icmp .eq 17, 3) := by decide +kernel
theorem dX4_readSeen_25 : decode cX4_readSeen 25 = .ok (.aload_n 0, 1) := by decide +kernel
theorem dX4_readSeen_26 : decode cX4_readSeen 26 = .ok (.aload_n 1, 1) := by decide +kernel
theorem dX4_readSeen_27 : decode cX4_readSeen 27 = .ok (.iload_n 3, 1) := by decide +kernel
theorem dX4_readSeen_28 : decode cX4_readSeen 28 = .ok (.iload_n 2, 1) := by decide +kernel
theorem dX4_readSeen_29 : decode cX4_readSeen 29 = .ok (.invokevirtual 123, 3) := by decide +kernel
theorem dX4_readSeen_32 : decode cX4_readSeen 32 = .ok (.ifCond .eq 7, 3) := by decide +kernel
theorem dX4_readSeen_35 : decode cX4_readSeen 35 = .ok (.iconst 1, 1) := by decide +kernel
theorem dX4_readSeen_36 : decode cX4_readSeen 36 = .ok (.goto 4, 3) := by decide +kernel
theorem dX4_readSeen_39 : decode cX4_readSeen 39 = .ok (.iconst 0, 1) := by decide +kernel
theorem dX4_readSeen_40 : decode cX4_readSeen 40 = .ok (.ireturn, 1) := by decide +kernel
set_option maxRecDepth 20000 in
theorem ggX4_readHeard_X4_advance : GoodIn wsX4_readHeard wsX4_advance := goodIn_r _ [6, 7, 8, 9, 10, 11, 12, 13, 5, 14, 15, 16, 17, 18, 56, 57, 58, 59, 60, 61] (by decide +kernel) (by decide +kernel)
set_option maxRecDepth 20000 in
theorem gX4_readHeard_X4_advance : GoodIn wsX4_readHeard (wsV RX4 31 RX4 yX4_advance wsX4_advance) := goodIn_app (goodIn_of _ (by decide +kernel)) ggX4_readHeard_X4_advance
set_option maxRecDepth 20000 in
theorem ggX4_readHeard_X4_takeNumber : GoodIn wsX4_readHeard wsX4_takeNumber := goodIn_r _ [22, 8, 7, 10, 23, 11, 12, 13, 5, 14, 9, 15, 24, 25, 26, 27, 28, 2, 3, 4, 6, 16, 17, 18, 56, 57, 58, 59, 60, 61] (by decide +kernel) (by decide +kernel)
set_option maxRecDepth 20000 in
theorem gX4_readHeard_X4_takeNumber : GoodIn wsX4_readHeard (wsV RX4 115 RX4 yX4_takeNumber wsX4_takeNumber) := goodIn_app (goodIn_of _ (by decide +kernel)) ggX4_readHeard_X4_takeNumber
set_option maxRecDepth 20000 in
theorem ggX4_readHeard_X4_readSightHeard : GoodIn wsX4_readHeard wsX4_readSightHeard := goodIn_r _ [32, 33, 19, 20, 21, 5, 22, 8, 7, 10, 23, 11, 12, 13, 14, 9, 15, 24, 25, 26, 27, 28, 2, 3, 4, 6, 16, 17, 18, 34, 35, 36, 37, 38, 39, 40, 41, 42, 43, 44, 45, 46, 47, 48, 49, 50, 51, 52, 53, 54, 55, 56, 57, 58, 59, 60, 61] (by decide +kernel) (by decide +kernel)
set_option maxRecDepth 20000 in
theorem gX4_readHeard_X4_readSightHeard : GoodIn wsX4_readHeard (wsV RX4 127 RX4 yX4_readSightHeard wsX4_readSightHeard) := goodIn_app (goodIn_of _ (by decide +kernel)) ggX4_readHeard_X4_readSightHeard
theorem dX4_readHeard_0 : decode cX4_readHeard 0 = .ok (.aload_n 0, 1) := by decide +kernel
theorem dX4_readHeard_1 : decode cX4_readHeard 1 = .ok (.invokevirtual 31, 3) := by decide +kernel
theorem dX4_readHeard_4 : decode cX4_readHeard 4 = .ok (.aload_n 0, 1) := by decide +kernel
theorem dX4_readHeard_5 : decode cX4_readHeard 5 = .ok (.iconst 0, 1) := by decide +kernel
theorem dX4_readHeard_6 : decode cX4_readHeard 6 = .ok (.aload_n 1, 1) := by decide +kernel
theorem dX4_readHeard_7 : decode cX4_readHeard 7 = .ok (.getfield 130, 3) := by decide +kernel
theorem dX4_readHeard_10 : decode cX4_readHeard 10 = .ok (.iconst 1, 1) := by decide +kernel
theorem dX4_readHeard_11 : decode cX4_readHeard 11 = .ok (.isub, 1) := by decide +kernel
theorem dX4_readHeard_12 : decode cX4_readHeard 12 = .ok (.iconst 0, 1) := by decide +kernel
theorem dX4_readHeard_13 : decode cX4_readHeard 13 = .ok (.invokevirtual 115, 3) := by decide +kernel
theorem dX4_readHeard_16 : decode cX4_readHeard 16 = .ok (.istore_n 2, 1) := by decide +kernel
theorem dX4_readHeard_17 : decode cX4_readHeard 17 = .ok (.iload_n 2, 1) := by decide +kernel
theorem dX4_readHeard_18 : decode cX4_readHeard 18 = .ok (.iconst (-1), 1) := by decide +kernel
theorem dX4_readHeard_19 : decode cX4_readHeard 19 = .ok (.if_icmp .eq 16, 3) := by decide +kernel
theorem dX4_readHeard_22 : decode cX4_readHeard 22 = .ok (.aload_n 0, 1) := by decide +kernel
theorem dX4_readHeard_23 : decode cX4_readHeard 23 = .ok (.aload_n 1, 1) := by decide +kernel
theorem dX4_readHeard_24 : decode cX4_readHeard 24 = .ok (.iload_n 2, 1) := by decide +kernel
theorem dX4_readHeard_25 : decode cX4_readHeard 25 = .ok (.invokevirtual 127, 3) := by decide +kernel
theorem dX4_readHeard_28 : decode cX4_readHeard 28 = .ok (.ifCond .eq 7, 3) := by decide +kernel
theorem dX4_readHeard_31 : decode cX4_readHeard 31 = .ok (.iconst 1, 1) := by decide +kernel
theorem dX4_readHeard_32 : decode cX4_readHeard 32 = .ok (.goto 4, 3) := by decide +kernel
theorem dX4_readHeard_35 : decode cX4_readHeard 35 = .ok (.iconst 0, 1) := by decide +kernel
theorem dX4_readHeard_36 : decode cX4_readHeard 36 = .ok (.ireturn, 1) := by decide +kernel
set_option maxRecDepth 20000 in
theorem ggX4_readSightSeen_X4_takeNumber : GoodIn wsX4_readSightSeen wsX4_takeNumber := goodIn_r _ [6, 7, 8, 9, 10, 11, 12, 13, 5, 14, 15, 16, 17, 18, 19, 20, 21, 22, 23, 24, 25, 26, 27, 28, 52, 53, 54, 55, 56, 57] (by decide +kernel) (by decide +kernel)
set_option maxRecDepth 20000 in
theorem gX4_readSightSeen_X4_takeNumber : GoodIn wsX4_readSightSeen (wsV RX4 115 RX4 yX4_takeNumber wsX4_takeNumber) := goodIn_app (goodIn_of _ (by decide +kernel)) ggX4_readSightSeen_X4_takeNumber
set_option maxRecDepth 20000 in
theorem ggX4_readSightSeen_X5_putSeen : GoodIn wsX4_readSightSeen wsX5_putSeen := goodIn_r _ [33, 34, 35, 36, 18, 37, 38, 39, 40, 41, 42, 43, 44, 45, 46, 47, 48, 49, 50, 51] (by decide +kernel) (by decide +kernel)
set_option maxRecDepth 20000 in
theorem gX4_readSightSeen_X5_putSeen : GoodIn wsX4_readSightSeen (wsV RX4 136 RX5 yX5_putSeen wsX5_putSeen) := goodIn_app (goodIn_of _ (by decide +kernel)) ggX4_readSightSeen_X5_putSeen
theorem dX4_readSightSeen_0 : decode cX4_readSightSeen 0 = .ok (.aload_n 0, 1) := by decide +kernel
theorem dX4_readSightSeen_1 : decode cX4_readSightSeen 1 = .ok (.iconst 0, 1) := by decide +kernel
theorem dX4_readSightSeen_2 : decode cX4_readSightSeen 2 = .ok (.aload_n 1, 1) := by decide +kernel
theorem dX4_readSightSeen_3 : decode cX4_readSightSeen 3 = .ok (.getfield 113, 3) := by decide +kernel
theorem dX4_readSightSeen_6 : decode cX4_readSightSeen 6 = .ok (.iconst 1, 1) := by decide +kernel
theorem dX4_readSightSeen_7 : decode cX4_readSightSeen 7 = .ok (.isub, 1) := by decide +kernel
theorem dX4_readSightSeen_8 : decode cX4_readSightSeen 8 = .ok (.iconst 0, 1) := by decide +kernel
theorem dX4_readSightSeen_9 : decode cX4_readSightSeen 9 = .ok (.invokevirtual 115, 3) := by decide +kernel
theorem dX4_readSightSeen_12 : decode cX4_readSightSeen 12 = .ok (.istore 4, 2) := by decide +kernel
theorem dX4_readSightSeen_14 : decode cX4_readSightSeen 14 = .ok (.iload 4, 2) := by decide +kernel
theorem dX4_readSightSeen_16 : decode cX4_readSightSeen 16 = .ok (.iconst (-1), 1) := by decide +kernel
theorem dX4_readSightSeen_17 : decode cX4_readSightSeen 17 = .ok (.if_icmp .ne 5, 3) := by decide +kernel
theorem dX4_readSightSeen_20 : decode cX4_readSightSeen 20 = .ok (.iconst 0, 1) := by decide +kernel
theorem dX4_readSightSeen_21 : decode cX4_readSightSeen 21 = .ok (.ireturn, 1) := by decide +kernel
theorem dX4_readSightSeen_22 : decode cX4_readSightSeen 22 = .ok (.aload_n 1, 1) := by decide +kernel
theorem dX4_readSightSeen_23 : decode cX4_readSightSeen 23 = .ok (.iload_n 2, 1) := by decide +kernel
theorem dX4_readSightSeen_24 : decode cX4_readSightSeen 24 = .ok (.iload 4, 2) := by decide +kernel
theorem dX4_readSightSeen_26 : decode cX4_readSightSeen 26 = .ok (.iload_n 3, 1) := by decide +kernel
theorem dX4_readSightSeen_27 : decode cX4_readSightSeen 27 = .ok (.invokevirtual 136, 3) := by decide +kernel
theorem dX4_readSightSeen_30 : decode cX4_readSightSeen 30 = .ok (.iconst 1, 1) := by decide +kernel
theorem dX4_readSightSeen_31 : decode cX4_readSightSeen 31 = .ok (.ireturn, 1) := by decide +kernel
set_option maxRecDepth 20000 in
theorem ggX4_readSightHeard_X4_takeNumber : GoodIn wsX4_readSightHeard wsX4_takeNumber := goodIn_r _ [6, 7, 8, 9, 10, 11, 12, 13, 5, 14, 15, 16, 17, 18, 19, 20, 21, 22, 23, 24, 25, 26, 27, 28, 51, 52, 53, 54, 55, 56] (by decide +kernel) (by decide +kernel)
set_option maxRecDepth 20000 in
theorem gX4_readSightHeard_X4_takeNumber : GoodIn wsX4_readSightHeard (wsV RX4 115 RX4 yX4_takeNumber wsX4_takeNumber) := goodIn_app (goodIn_of _ (by decide +kernel)) ggX4_readSightHeard_X4_takeNumber
set_option maxRecDepth 20000 in
theorem ggX4_readSightHeard_X5_putHeard : GoodIn wsX4_readSightHeard wsX5_putHeard := goodIn_r _ [33, 34, 35, 18, 36, 37, 38, 39, 40, 41, 42, 43, 44, 45, 46, 47, 48, 49, 50] (by decide +kernel) (by decide +kernel)
set_option maxRecDepth 20000 in
theorem gX4_readSightHeard_X5_putHeard : GoodIn wsX4_readSightHeard (wsV RX4 140 RX5 yX5_putHeard wsX5_putHeard) := goodIn_app (goodIn_of _ (by decide +kernel)) ggX4_readSightHeard_X5_putHeard
theorem dX4_readSightHeard_0 : decode cX4_readSightHeard 0 = .ok (.aload_n 0, 1) := by decide +kernel
theorem dX4_readSightHeard_1 : decode cX4_readSightHeard 1 = .ok (.iconst 0, 1) := by decide +kernel
theorem dX4_readSightHeard_2 : decode cX4_readSightHeard 2 = .ok (.aload_n 1, 1) := by decide +kernel
theorem dX4_readSightHeard_3 : decode cX4_readSightHeard 3 = .ok (.getfield 113, 3) := by decide +kernel
theorem dX4_readSightHeard_6 : decode cX4_readSightHeard 6 = .ok (.iconst 1, 1) := by decide +kernel
theorem dX4_readSightHeard_7 : decode cX4_readSightHeard 7 = .ok (.isub, 1) := by decide +kernel
theorem dX4_readSightHeard_8 : decode cX4_readSightHeard 8 = .ok (.iconst 0, 1) := by decide +kernel
theorem dX4_readSightHeard_9 : decode cX4_readSightHeard 9 = .ok (.invokevirtual 115, 3) := by decide +kernel
theorem dX4_readSightHeard_12 : decode cX4_readSightHeard 12 = .ok (.istore_n 3, 1) := by decide +kernel
theorem dX4_readSightHeard_13 : decode cX4_readSightHeard 13 = .ok (.iload_n 3, 1) := by decide +kernel
theorem dX4_readSightHeard_14 : decode cX4_readSightHeard 14 = .ok (.iconst (-1), 1) := by decide +kernel
theorem dX4_readSightHeard_15 : decode cX4_readSightHeard 15 = .ok (.if_icmp .ne 5, 3) := by decide +kernel
theorem dX4_readSightHeard_18 : decode cX4_readSightHeard 18 = .ok (.iconst 0, 1) := by decide +kernel
theorem dX4_readSightHeard_19 : decode cX4_readSightHeard 19 = .ok (.ireturn, 1) := by decide +kernel
theorem dX4_readSightHeard_20 : decode cX4_readSightHeard 20 = .ok (.aload_n 1, 1) := by decide +kernel
theorem dX4_readSightHeard_21 : decode cX4_readSightHeard 21 = .ok (.iload_n 2, 1) := by decide +kernel
theorem dX4_readSightHeard_22 : decode cX4_readSightHeard 22 = .ok (.iload_n 3, 1) := by decide +kernel
theorem dX4_readSightHeard_23 : decode cX4_readSightHeard 23 = .ok (.iconst 1, 1) := by decide +kernel
theorem dX4_readSightHeard_24 : decode cX4_readSightHeard 24 = .ok (.invokevirtual 140, 3) := by decide +kernel
theorem dX4_readSightHeard_27 : decode cX4_readSightHeard 27 = .ok (.iconst 1, 1) := by decide +kernel
theorem dX4_readSightHeard_28 : decode cX4_readSightHeard 28 = .ok (.ireturn, 1) := by decide +kernel
set_option maxRecDepth 20000 in
theorem ggX4_readHears_X4_advance : GoodIn wsX4_readHears wsX4_advance := goodIn_r _ [6, 7, 8, 9, 10, 11, 12, 13, 5, 14, 15, 16, 17, 18, 51, 52, 53, 54, 55, 56] (by decide +kernel) (by decide +kernel)
set_option maxRecDepth 20000 in
theorem gX4_readHears_X4_advance : GoodIn wsX4_readHears (wsV RX4 31 RX4 yX4_advance wsX4_advance) := goodIn_app (goodIn_of _ (by decide +kernel)) ggX4_readHears_X4_advance
set_option maxRecDepth 20000 in
theorem ggX4_readHears_X4_takeNumber : GoodIn wsX4_readHears wsX4_takeNumber := goodIn_r _ [22, 8, 7, 10, 23, 11, 12, 13, 5, 14, 9, 15, 24, 25, 26, 27, 28, 2, 3, 4, 6, 16, 17, 18, 51, 52, 53, 54, 55, 56] (by decide +kernel) (by decide +kernel)
set_option maxRecDepth 20000 in
theorem gX4_readHears_X4_takeNumber : GoodIn wsX4_readHears (wsV RX4 115 RX4 yX4_takeNumber wsX4_takeNumber) := goodIn_app (goodIn_of _ (by decide +kernel)) ggX4_readHears_X4_takeNumber
set_option maxRecDepth 20000 in
theorem ggX4_readHears_X5_putHears : GoodIn wsX4_readHears wsX5_putHears := goodIn_r _ [33, 34, 35, 25, 36, 37, 38, 39, 40, 41, 42, 43, 44, 45, 46, 47, 48, 49, 50] (by decide +kernel) (by decide +kernel)
set_option maxRecDepth 20000 in
theorem gX4_readHears_X5_putHears : GoodIn wsX4_readHears (wsV RX4 144 RX5 yX5_putHears wsX5_putHears) := goodIn_app (goodIn_of _ (by decide +kernel)) ggX4_readHears_X5_putHears
theorem dX4_readHears_0 : decode cX4_readHears 0 = .ok (.aload_n 0, 1) := by decide +kernel
theorem dX4_readHears_1 : decode cX4_readHears 1 = .ok (.invokevirtual 31, 3) := by decide +kernel
theorem dX4_readHears_4 : decode cX4_readHears 4 = .ok (.aload_n 0, 1) := by decide +kernel
theorem dX4_readHears_5 : decode cX4_readHears 5 = .ok (.iconst 0, 1) := by decide +kernel
theorem dX4_readHears_6 : decode cX4_readHears 6 = .ok (.aload_n 1, 1) := by decide +kernel
theorem dX4_readHears_7 : decode cX4_readHears 7 = .ok (.getfield 130, 3) := by decide +kernel
theorem dX4_readHears_10 : decode cX4_readHears 10 = .ok (.iconst 1, 1) := by decide +kernel
theorem dX4_readHears_11 : decode cX4_readHears 11 = .ok (.isub, 1) := by decide +kernel
theorem dX4_readHears_12 : decode cX4_readHears 12 = .ok (.iconst 0, 1) := by decide +kernel
theorem dX4_readHears_13 : decode cX4_readHears 13 = .ok (.invokevirtual 115, 3) := by decide +kernel
theorem dX4_readHears_16 : decode cX4_readHears 16 = .ok (.istore_n 2, 1) := by decide +kernel
theorem dX4_readHears_17 : decode cX4_readHears 17 = .ok (.iload_n 2, 1) := by decide +kernel
theorem dX4_readHears_18 : decode cX4_readHears 18 = .ok (.iconst (-1), 1) := by decide +kernel
theorem dX4_readHears_19 : decode cX4_readHears 19 = .ok (.if_icmp .ne 5, 3) := by decide +kernel
theorem dX4_readHears_22 : decode cX4_readHears 22 = .ok (.iconst 0, 1) := by decide +kernel
theorem dX4_readHears_23 : decode cX4_readHears 23 = .ok (.ireturn, 1) := by decide +kernel
theorem dX4_readHears_24 : decode cX4_readHears 24 = .ok (.aload_n 0, 1) := by decide +kernel
theorem dX4_readHears_25 : decode cX4_readHears 25 = .ok (.iconst 0, 1) := by decide +kernel
theorem dX4_readHears_26 : decode cX4_readHears 26 = .ok (.aload_n 1, 1) := by decide +kernel
theorem dX4_readHears_27 : decode cX4_readHears 27 = .ok (.getfield 130, 3) := by decide +kernel
theorem dX4_readHears_30 : decode cX4_readHears 30 = .ok (.iconst 1, 1) := by decide +kernel
theorem dX4_readHears_31 : decode cX4_readHears 31 = .ok (.isub, 1) := by decide +kernel
theorem dX4_readHears_32 : decode cX4_readHears 32 = .ok (.iconst 1, 1) := by decide +kernel
theorem dX4_readHears_33 : decode cX4_readHears 33 = .ok (.iload_n 2, 1) := by decide +kernel
theorem dX4_readHears_34 : decode cX4_readHears 34 = .ok (.ishl, 1) := by decide +kernel
theorem dX4_readHears_35 : decode cX4_readHears 35 = .ok (.invokevirtual 115, 3) := by decide +kernel
theorem dX4_readHears_38 : decode cX4_readHears 38 = .ok (.istore_n 3, 1) := by decide +kernel
theorem dX4_readHears_39 : decode cX4_readHears 39 = .ok (.iload_n 3, 1) := by decide +kernel
theorem dX4_readHears_40 : decode cX4_readHears 40 = .ok (.iconst (-1), 1) := by decide +kernel
theorem dX4_readHears_41 : decode cX4_readHears 41 = .ok (.if_icmp .ne 5, 3) := by decide +kernel
theorem dX4_readHears_44 : decode cX4_readHears 44 = .ok (.iconst 0, 1) := by decide +kernel
theorem dX4_readHears_45 : decode cX4_readHears 45 = .ok (.ireturn, 1) := by decide +kernel
theorem dX4_readHears_46 : decode cX4_readHears 46 = .ok (.aload_n 1, 1) := by decide +kernel
theorem dX4_readHears_47 : decode cX4_readHears 47 = .ok (.iload_n 2, 1) := by decide +kernel
theorem dX4_readHears_48 : decode cX4_readHears 48 = .ok (.iload_n 3, 1) := by decide +kernel
theorem dX4_readHears_49 : decode cX4_readHears 49 = .ok (.iconst 1, 1) := by decide +kernel
theorem dX4_readHears_50 : decode cX4_readHears 50 = .ok (.invokevirtual 144, 3) := by decide +kernel
theorem dX4_readHears_53 : decode cX4_readHears 53 = .ok (.iconst 1, 1) := by decide +kernel
theorem dX4_readHears_54 : decode cX4_readHears 54 = .ok (.ireturn, 1) := by decide +kernel
set_option maxRecDepth 20000 in
theorem ggX4_readSetting_X4_advance : GoodIn wsX4_readSetting wsX4_advance := goodIn_r _ [5, 6, 7, 8, 9, 10, 11, 12, 4, 13, 14, 15, 16, 17, 39, 40, 41, 42, 43, 44] (by decide +kernel) (by decide +kernel)
set_option maxRecDepth 20000 in
theorem gX4_readSetting_X4_advance : GoodIn wsX4_readSetting (wsV RX4 31 RX4 yX4_advance wsX4_advance) := goodIn_app (goodIn_of _ (by decide +kernel)) ggX4_readSetting_X4_advance
set_option maxRecDepth 20000 in
theorem ggX4_readSetting_X5_mostOf : GoodIn wsX4_readSetting wsX5_mostOf := goodIn_r _ [21] (by decide +kernel) (by decide +kernel)
set_option maxRecDepth 20000 in
theorem gX4_readSetting_X5_mostOf : GoodIn wsX4_readSetting (va_wsS RX4 147 yX5_mostOf wsX5_mostOf) := goodIn_app (goodIn_of _ (by decide +kernel)) ggX4_readSetting_X5_mostOf
set_option maxRecDepth 20000 in
theorem ggX4_readSetting_X4_takeNumber : GoodIn wsX4_readSetting wsX4_takeNumber := goodIn_r _ [25, 7, 6, 9, 26, 10, 11, 12, 4, 13, 8, 14, 27, 28, 29, 30, 31, 1, 2, 3, 5, 15, 16, 17, 39, 40, 41, 42, 43, 44] (by decide +kernel) (by decide +kernel)
set_option maxRecDepth 20000 in
theorem gX4_readSetting_X4_takeNumber : GoodIn wsX4_readSetting (wsV RX4 115 RX4 yX4_takeNumber wsX4_takeNumber) := goodIn_app (goodIn_of _ (by decide +kernel)) ggX4_readSetting_X4_takeNumber
set_option maxRecDepth 20000 in
theorem ggX4_readSetting_X5_putSetting : GoodIn wsX4_readSetting wsX5_putSetting := goodIn_r _ [35, 36, 37, 38, 45, 46, 47, 48, 49, 50, 51, 52, 53, 54, 55, 56, 57, 58] (by decide +kernel) (by decide +kernel)
set_option maxRecDepth 20000 in
theorem gX4_readSetting_X5_putSetting : GoodIn wsX4_readSetting (wsV RX4 150 RX5 yX5_putSetting wsX5_putSetting) := goodIn_app (goodIn_of _ (by decide +kernel)) ggX4_readSetting_X5_putSetting
theorem dX4_readSetting_0 : decode cX4_readSetting 0 = .ok (.aload_n 0, 1) := by decide +kernel
theorem dX4_readSetting_1 : decode cX4_readSetting 1 = .ok (.invokevirtual 31, 3) := by decide +kernel
theorem dX4_readSetting_4 : decode cX4_readSetting 4 = .ok (.aload_n 0, 1) := by decide +kernel
theorem dX4_readSetting_5 : decode cX4_readSetting 5 = .ok (.iconst 0, 1) := by decide +kernel
theorem dX4_readSetting_6 : decode cX4_readSetting 6 = .ok (.iload_n 2, 1) := by decide +kernel
theorem dX4_readSetting_7 : decode cX4_readSetting 7 = .ok (.invokestatic 147, 3) := by decide +kernel
theorem dX4_readSetting_10 : decode cX4_readSetting 10 = .ok (.iconst 0, 1) := by decide +kernel
theorem dX4_readSetting_11 : decode cX4_readSetting 11 = .ok (.invokevirtual 115, 3) := by decide +kernel
theorem dX4_readSetting_14 : decode cX4_readSetting 14 = .ok (.istore_n 3, 1) := by decide +kernel
theorem dX4_readSetting_15 : decode cX4_readSetting 15 = .ok (.iload_n 3, 1) := by decide +kernel
theorem dX4_readSetting_16 : decode cX4_readSetting 16 = .ok (.iconst (-1), 1) := by decide +kernel
theorem dX4_readSetting_17 : decode cX4_readSetting 17 = .ok (.if_icmp .ne 5, 3) := by decide +kernel
theorem dX4_readSetting_20 : decode cX4_readSetting 20 = .ok (.iconst 0, 1) := by decide +kernel
theorem dX4_readSetting_21 : decode cX4_readSetting 21 = .ok (.ireturn, 1) := by decide +kernel
theorem dX4_readSetting_22 : decode cX4_readSetting 22 = .ok (.aload_n 1, 1) := by decide +kernel
theorem dX4_readSetting_23 : decode cX4_readSetting 23 = .ok (.iload_n 2, 1) := by decide +kernel
theorem dX4_readSetting_24 : decode cX4_readSetting 24 = .ok (.iload_n 3, 1) := by decide +kernel
theorem dX4_readSetting_25 : decode cX4_readSetting 25 = .ok (.invokevirtual 150, 3) := by decide +kernel
theorem dX4_readSetting_28 : decode cX4_readSetting 28 = .ok (.iconst 1, 1) := by decide +kernel
theorem dX4_readSetting_29 : decode cX4_readSetting 29 = .ok (.ireturn, 1) := by decide +kernel
theorem dX5_init_0 : decode cX5_init 0 = .ok (.aload_n 0, 1) := by decide +kernel
theorem dX5_init_1 : decode cX5_init 1 = .ok (.invokespecial 3, 3) := by decide +kernel
theorem dX5_init_4 : decode cX5_init 4 = .ok (.aload_n 0, 1) := by decide +kernel
theorem dX5_init_5 : decode cX5_init 5 = .ok (.iconst 4, 1) := by decide +kernel
theorem dX5_init_6 : decode cX5_init 6 = .ok (.putfield 9, 3) := by decide +kernel
theorem dX5_init_9 : decode cX5_init 9 = .ok (.aload_n 0, 1) := by decide +kernel
theorem dX5_init_10 : decode cX5_init 10 = .ok (.iconst 0, 1) := by decide +kernel
theorem dX5_init_11 : decode cX5_init 11 = .ok (.putfield 15, 3) := by decide +kernel
theorem dX5_init_14 : decode cX5_init 14 = .ok (.aload_n 0, 1) := by decide +kernel
theorem dX5_init_15 : decode cX5_init 15 = .ok (.iconst 0, 1) := by decide +kernel
theorem dX5_init_16 : decode cX5_init 16 = .ok (.putfield 18, 3) := by decide +kernel
theorem dX5_init_19 : decode cX5_init 19 = .ok (.aload_n 0, 1) := by decide +kernel
theorem dX5_init_20 : decode cX5_init 20 = .ok (.iconst 0, 1) := by decide +kernel
theorem dX5_init_21 : decode cX5_init 21 = .ok (.putfield 21, 3) := by decide +kernel
theorem dX5_init_24 : decode cX5_init 24 = .ok (.aload_n 0, 1) := by decide +kernel
theorem dX5_init_25 : decode cX5_init 25 = .ok (.iconst 0, 1) := by decide +kernel
theorem dX5_init_26 : decode cX5_init 26 = .ok (.putfield 24, 3) := by decide +kernel
theorem dX5_init_29 : decode cX5_init 29 = .ok (.aload_n 0, 1) := by decide +kernel
theorem dX5_init_30 : decode cX5_init 30 = .ok (.iconst 0, 1) := by decide +kernel
theorem dX5_init_31 : decode cX5_init 31 = .ok (.putfield 27, 3) := by decide +kernel
theorem dX5_init_34 : decode cX5_init 34 = .ok (.aload_n 0, 1) := by decide +kernel
theorem dX5_init_35 : decode cX5_init 35 = .ok (.iconst 1, 1) := by decide +kernel
theorem dX5_init_36 : decode cX5_init 36 = .ok (.putfield 30, 3) := by decide +kernel
theorem dX5_init_39 : decode cX5_init 39 = .ok (.aload_n 0, 1) := by decide +kernel
theorem dX5_init_40 : decode cX5_init 40 = .ok (.bipush 7, 2) := by decide +kernel
theorem dX5_init_42 : decode cX5_init 42 = .ok (.newarray .int, 2) := by decide +kernel
theorem dX5_init_44 : decode cX5_init 44 = .ok (.putfield 33, 3) := by decide +kernel
theorem dX5_init_47 : decode cX5_init 47 = .ok (.aload_n 0, 1) := by decide +kernel
theorem dX5_init_48 : decode cX5_init 48 = .ok (.bipush 7, 2) := by decide +kernel
theorem dX5_init_50 : decode cX5_init 50 = .ok (.newarray .int, 2) := by decide +kernel
theorem dX5_init_52 : decode cX5_init 52 = .ok (.putfield 37, 3) := by decide +kernel
theorem dX5_init_55 : decode cX5_init 55 = .ok (.aload_n 0, 1) := by decide +kernel
theorem dX5_init_56 : decode cX5_init 56 = .ok (.bipush 7, 2) := by decide +kernel
theorem dX5_init_58 : decode cX5_init 58 = .ok (.newarray .int, 2) := by decide +kernel
theorem dX5_init_60 : decode cX5_init 60 = .ok (.putfield 40, 3) := by decide +kernel
theorem dX5_init_63 : decode cX5_init 63 = .ok (.aload_n 0, 1) := by decide +kernel
theorem dX5_init_64 : decode cX5_init 64 = .ok (.bipush 7, 2) := by decide +kernel
theorem dX5_init_66 : decode cX5_init 66 = .ok (.newarray .int, 2) := by decide +kernel
theorem dX5_init_68 : decode cX5_init 68 = .ok (.putfield 43, 3) := by decide +kernel
theorem dX5_init_71 : decode cX5_init 71 = .ok (.aload_n 0, 1) := by decide +kernel
theorem dX5_init_72 : decode cX5_init 72 = .ok (.bipush 7, 2) := by decide +kernel
theorem dX5_init_74 : decode cX5_init 74 = .ok (.newarray .int, 2) := by decide +kernel
theorem dX5_init_76 : decode cX5_init 76 = .ok (.putfield 46, 3) := by decide +kernel
theorem dX5_init_79 : decode cX5_init 79 = .ok (.aload_n 0, 1) := by decide +kernel
theorem dX5_init_80 : decode cX5_init 80 = .ok (.bipush 7, 2) := by decide +kernel
theorem dX5_init_82 : decode cX5_init 82 = .ok (.newarray .int, 2) := by decide +kernel
theorem dX5_init_84 : decode cX5_init 84 = .ok (.putfield 49, 3) := by decide +kernel
theorem dX5_init_87 : decode cX5_init 87 = .ok (.aload_n 0, 1) := by decide +kernel
theorem dX5_init_88 : decode cX5_init 88 = .ok (.bipush 7, 2) := by decide +kernel
theorem dX5_init_90 : decode cX5_init 90 = .ok (.newarray .int, 2) := by decide +kernel
theorem dX5_init_92 : decode cX5_init 92 = .ok (.putfield 52, 3) := by decide +kernel
theorem dX5_init_95 : decode cX5_init 95 = .ok (.return_, 1) := by decide +kernel
theorem dX5_become_0 : decode cX5_become 0 = .ok (.aload_n 0, 1) := by decide +kernel
theorem dX5_become_1 : decode cX5_become 1 = .ok (.aload_n 1, 1) := by decide +kernel
theorem dX5_become_2 : decode cX5_become 2 = .ok (.getfield 9, 3) := by decide +kernel
theorem dX5_become_5 : decode cX5_become 5 = .ok (.putfield 9, 3) := by decide +kernel
theorem dX5_become_8 : decode cX5_become 8 = .ok (.aload_n 0, 1) := by decide +kernel
theorem dX5_become_9 : decode cX5_become 9 = .ok (.aload_n 1, 1) := by decide +kernel
theorem dX5_become_10 : decode cX5_become 10 = .ok (.getfield 15, 3) := by decide +kernel
theorem dX5_become_13 : decode cX5_become 13 = .ok (.putfield 15, 3) := by decide +kernel
theorem dX5_become_16 : decode cX5_become 16 = .ok (.aload_n 0, 1) := by decide +kernel
theorem dX5_become_17 : decode cX5_become 17 = .ok (.aload_n 1, 1) := by decide +kernel
theorem dX5_become_18 : decode cX5_become 18 = .ok (.getfield 18, 3) := by decide +kernel
theorem dX5_become_21 : decode cX5_become 21 = .ok (.putfield 18, 3) := by decide +kernel
theorem dX5_become_24 : decode cX5_become 24 = .ok (.aload_n 0, 1) := by decide +kernel
theorem dX5_become_25 : decode cX5_become 25 = .ok (.aload_n 1, 1) := by decide +kernel
theorem dX5_become_26 : decode cX5_become 26 = .ok (.getfield 21, 3) := by decide +kernel
theorem dX5_become_29 : decode cX5_become 29 = .ok (.putfield 21, 3) := by decide +kernel
theorem dX5_become_32 : decode cX5_become 32 = .ok (.aload_n 0, 1) := by decide +kernel
theorem dX5_become_33 : decode cX5_become 33 = .ok (.aload_n 1, 1) := by decide +kernel
theorem dX5_become_34 : decode cX5_become 34 = .ok (.getfield 24, 3) := by decide +kernel
theorem dX5_become_37 : decode cX5_become 37 = .ok (.putfield 24, 3) := by decide +kernel
theorem dX5_become_40 : decode cX5_become 40 = .ok (.aload_n 0, 1) := by decide +kernel
theorem dX5_become_41 : decode cX5_become 41 = .ok (.aload_n 1, 1) := by decide +kernel
theorem dX5_become_42 : decode cX5_become 42 = .ok (.getfield 27, 3) := by decide +kernel
theorem dX5_become_45 : decode cX5_become 45 = .ok (.putfield 27, 3) := by decide +kernel
theorem dX5_become_48 : decode cX5_become 48 = .ok (.aload_n 0, 1) := by decide +kernel
theorem dX5_become_49 : decode cX5_become 49 = .ok (.aload_n 1, 1) := by decide +kernel
theorem dX5_become_50 : decode cX5_become 50 = .ok (.getfield 30, 3) := by decide +kernel
theorem dX5_become_53 : decode cX5_become 53 = .ok (.putfield 30, 3) := by decide +kernel
theorem dX5_become_56 : decode cX5_become 56 = .ok (.aload_n 1, 1) := by decide +kernel
theorem dX5_become_57 : decode cX5_become 57 = .ok (.getfield 33, 3) := by decide +kernel
theorem dX5_become_60 : decode cX5_become 60 = .ok (.iconst 0, 1) := by decide +kernel
theorem dX5_become_61 : decode cX5_become 61 = .ok (.aload_n 0, 1) := by decide +kernel
theorem dX5_become_62 : decode cX5_become 62 = .ok (.getfield 33, 3) := by decide +kernel
theorem dX5_become_65 : decode cX5_become 65 = .ok (.iconst 0, 1) := by decide +kernel
theorem dX5_become_66 : decode cX5_become 66 = .ok (.bipush 7, 2) := by decide +kernel
theorem dX5_become_68 : decode cX5_become 68 = .ok (.invokestatic 55, 3) := by decide +kernel
theorem dX5_become_71 : decode cX5_become 71 = .ok (.aload_n 1, 1) := by decide +kernel
theorem dX5_become_72 : decode cX5_become 72 = .ok (.getfield 37, 3) := by decide +kernel
theorem dX5_become_75 : decode cX5_become 75 = .ok (.iconst 0, 1) := by decide +kernel
theorem dX5_become_76 : decode cX5_become 76 = .ok (.aload_n 0, 1) := by decide +kernel
theorem dX5_become_77 : decode cX5_become 77 = .ok (.getfield 37, 3) := by decide +kernel
theorem dX5_become_80 : decode cX5_become 80 = .ok (.iconst 0, 1) := by decide +kernel
theorem dX5_become_81 : decode cX5_become 81 = .ok (.bipush 7, 2) := by decide +kernel
theorem dX5_become_83 : decode cX5_become 83 = .ok (.invokestatic 55, 3) := by decide +kernel
theorem dX5_become_86 : decode cX5_become 86 = .ok (.aload_n 1, 1) := by decide +kernel
theorem dX5_become_87 : decode cX5_become 87 = .ok (.getfield 40, 3) := by decide +kernel
theorem dX5_become_90 : decode cX5_become 90 = .ok (.iconst 0, 1) := by decide +kernel
theorem dX5_become_91 : decode cX5_become 91 = .ok (.aload_n 0, 1) := by decide +kernel
theorem dX5_become_92 : decode cX5_become 92 = .ok (.getfield 40, 3) := by decide +kernel
theorem dX5_become_95 : decode cX5_become 95 = .ok (.iconst 0, 1) := by decide +kernel
theorem dX5_become_96 : decode cX5_become 96 = .ok (.bipush 7, 2) := by decide +kernel
theorem dX5_become_98 : decode cX5_become 98 = .ok (.invokestatic 55, 3) := by decide +kernel
theorem dX5_become_101 : decode cX5_become 101 = .ok (.aload_n 1, 1) := by decide +kernel
theorem dX5_become_102 : decode cX5_become 102 = .ok (.getfield 43, 3) := by decide +kernel
theorem dX5_become_105 : decode cX5_become 105 = .ok (.iconst 0, 1) := by decide +kernel
theorem dX5_become_106 : decode cX5_become 106 = .ok (.aload_n 0, 1) := by decide +kernel
theorem dX5_become_107 : decode cX5_become 107 = .ok (.getfield 43, 3) := by decide +kernel
theorem dX5_become_110 : decode cX5_become 110 = .ok (.iconst 0, 1) := by decide +kernel
theorem dX5_become_111 : decode cX5_become 111 = .ok (.bipush 7, 2) := by decide +kernel
theorem dX5_become_113 : decode cX5_become 113 = .ok (.invokestatic 55, 3) := by decide +kernel
theorem dX5_become_116 : decode cX5_become 116 = .ok (.aload_n 1, 1) := by decide +kernel
theorem dX5_become_117 : decode cX5_become 117 = .ok (.getfield 46, 3) := by decide +kernel
theorem dX5_become_120 : decode cX5_become 120 = .ok (.iconst 0, 1) := by decide +kernel
theorem dX5_become_121 : decode cX5_become 121 = .ok (.aload_n 0, 1) := by decide +kernel
theorem dX5_become_122 : decode cX5_become 122 = .ok (.getfield 46, 3) := by decide +kernel
theorem dX5_become_125 : decode cX5_become 125 = .ok (.iconst 0, 1) := by decide +kernel
theorem dX5_become_126 : decode cX5_become 126 = .ok (.bipush 7, 2) := by decide +kernel
theorem dX5_become_128 : decode cX5_become 128 = .ok (.invokestatic 55, 3) := by decide +kernel
theorem dX5_become_131 : decode cX5_become 131 = .ok (.aload_n 1, 1) := by decide +kernel
theorem dX5_become_132 : decode cX5_become 132 = .ok (.getfield 49, 3) := by decide +kernel
theorem dX5_become_135 : decode cX5_become 135 = .ok (.iconst 0, 1) := by decide +kernel
theorem dX5_become_136 : decode cX5_become 136 = .ok (.aload_n 0, 1) := by decide +kernel
theorem dX5_become_137 : decode cX5_become 137 = .ok (.getfield 49, 3) := by decide +kernel
theorem dX5_become_140 : decode cX5_become 140 = .ok (.iconst 0, 1) := by decide +kernel
theorem dX5_become_141 : decode cX5_become 141 = .ok (.bipush 7, 2) := by decide +kernel
theorem dX5_become_143 : decode cX5_become 143 = .ok (.invokestatic 55, 3) := by decide +kernel
theorem dX5_become_146 : decode cX5_become 146 = .ok (.return_, 1) := by decide +kernel
theorem dX5_isOne_0 : decode cX5_isOne 0 = .ok (.iload_n 1, 1) := by decide +kernel
theorem dX5_isOne_1 : decode cX5_isOne 1 = .ok (.ifCond .lt 15, 3) := by decide +kernel
theorem dX5_isOne_4 : decode cX5_isOne 4 = .ok (.iload_n 1, 1) := by decide +kernel
theorem dX5_isOne_5 : decode cX5_isOne 5 = .ok (.aload_n 0, 1) := by decide +kernel
theorem dX5_isOne_6 : decode cX5_isOne 6 = .ok (.getfield 15, 3) := by decide +kernel
theorem dX5_isOne_9 : decode cX5_isOne 9 = .ok (.if_icmp .ge 7, 3) := by decide +kernel
theorem dX5_isOne_12 : decode cX5_isOne 12 = .ok (.iconst 1, 1) := by decide +kernel
theorem dX5_isOne_13 : decode cX5_isOne 13 = .ok (.goto 4, 3) := by decide +kernel
theorem dX5_isOne_16 : decode cX5_isOne 16 = .ok (.iconst 0, 1) := by decide +kernel
theorem dX5_isOne_17 : decode cX5_isOne 17 = .ok (.ireturn, 1) := by decide +kernel
theorem dX5_isSight_0 : decode cX5_isSight 0 = .ok (.iload_n 1, 1) := by decide +kernel
theorem dX5_isSight_1 : decode cX5_isSight 1 = .ok (.ifCond .lt 15, 3) := by decide +kernel
theorem dX5_isSight_4 : decode cX5_isSight 4 = .ok (.iload_n 1, 1) := by decide +kernel
theorem dX5_isSight_5 : decode cX5_isSight 5 = .ok (.aload_n 0, 1) := by decide +kernel
theorem dX5_isSight_6 : decode cX5_isSight 6 = .ok (.getfield 9, 3) := by decide +kernel
theorem dX5_isSight_9 : decode cX5_isSight 9 = .ok (.if_icmp .ge 7, 3) := by decide +kernel
theorem dX5_isSight_12 : decode cX5_isSight 12 = .ok (.iconst 1, 1) := by decide +kernel
theorem dX5_isSight_13 : decode cX5_isSight 13 = .ok (.goto 4, 3) := by decide +kernel
theorem dX5_isSight_16 : decode cX5_isSight 16 = .ok (.iconst 0, 1) := by decide +kernel
theorem dX5_isSight_17 : decode cX5_isSight 17 = .ok (.ireturn, 1) := by decide +kernel
theorem dX5_isFull_0 : decode cX5_isFull 0 = .ok (.aload_n 0, 1) := by decide +kernel
theorem dX5_isFull_1 : decode cX5_isFull 1 = .ok (.getfield 15, 3) := by decide +kernel
theorem dX5_isFull_4 : decode cX5_isFull 4 = .ok (.bipush 7, 2) := by decide +kernel
theorem dX5_isFull_6 : decode cX5_isFull 6 = .ok (.if_icmp .lt 7, 3) := by decide +kernel
theorem dX5_isFull_9 : decode cX5_isFull 9 = .ok (.iconst 1, 1) := by decide +kernel
theorem dX5_isFull_10 : decode cX5_isFull 10 = .ok (.goto 4, 3) := by decide +kernel
theorem dX5_isFull_13 : decode cX5_isFull 13 = .ok (.iconst 0, 1) := by decide +kernel
theorem dX5_isFull_14 : decode cX5_isFull 14 = .ok (.ireturn, 1) := by decide +kernel
theorem dX5_allPeople_0 : decode cX5_allPeople 0 = .ok (.iconst 1, 1) := by decide +kernel
theorem dX5_allPeople_1 : decode cX5_allPeople 1 = .ok (.aload_n 0, 1) := by decide +kernel
theorem dX5_allPeople_2 : decode cX5_allPeople 2 = .ok (.getfield 15, 3) := by decide +kernel
theorem dX5_allPeople_5 : decode cX5_allPeople 5 = .ok (.ishl, 1) := by decide +kernel
theorem dX5_allPeople_6 : decode cX5_allPeople 6 = .ok (.iconst 1, 1) := by decide +kernel
theorem dX5_allPeople_7 : decode cX5_allPeople 7 = .ok (.isub, 1) := by decide +kernel
theorem dX5_allPeople_8 : decode cX5_allPeople 8 = .ok (.ireturn, 1) := by decide +kernel
theorem dX5_allSights_0 : decode cX5_allSights 0 = .ok (.iconst 1, 1) := by decide +kernel
theorem dX5_allSights_1 : decode cX5_allSights 1 = .ok (.aload_n 0, 1) := by decide +kernel
theorem dX5_allSights_2 : decode cX5_allSights 2 = .ok (.getfield 9, 3) := by decide +kernel
theorem dX5_allSights_5 : decode cX5_allSights 5 = .ok (.ishl, 1) := by decide +kernel
theorem dX5_allSights_6 : decode cX5_allSights 6 = .ok (.iconst 1, 1) := by decide +kernel
theorem dX5_allSights_7 : decode cX5_allSights 7 = .ok (.isub, 1) := by decide +kernel
theorem dX5_allSights_8 : decode cX5_allSights 8 = .ok (.ireturn, 1) := by decide +kernel
theorem dX5_kindOf_0 : decode cX5_kindOf 0 = .ok (.aload_n 0, 1) := by decide +kernel
theorem dX5_kindOf_1 : decode cX5_kindOf 1 = .ok (.getfield 46, 3) := by decide +kernel
theorem dX5_kindOf_4 : decode cX5_kindOf 4 = .ok (.iload_n 1, 1) := by decide +kernel
theorem dX5_kindOf_5 : decode cX5_kindOf 5 = .ok (.iaload, 1) := by decide +kernel
theorem dX5_kindOf_6 : decode cX5_kindOf 6 = .ok (.ireturn, 1) := by decide +kernel
set_option maxRecDepth 20000 in
theorem ggX5_allBlind_X6_with : GoodIn wsX5_allBlind wsX6_with := goodIn_r _ [5] (by decide +kernel) (by decide +kernel)
set_option maxRecDepth 20000 in
theorem gX5_allBlind_X6_with_n61 : GoodIn wsX5_allBlind (wsX6_with) := ggX5_allBlind_X6_with
theorem dX5_allBlind_0 : decode cX5_allBlind 0 = .ok (.iconst 0, 1) := by decide +kernel
theorem dX5_allBlind_1 : decode cX5_allBlind 1 = .ok (.istore_n 1, 1) := by decide +kernel
theorem dX5_allBlind_2 : decode cX5_allBlind 2 = .ok (.iconst 0, 1) := by decide +kernel
theorem dX5_allBlind_3 : decode cX5_allBlind 3 = .ok (.istore_n 2, 1) := by decide +kernel
theorem dX5_allBlind_4 : decode cX5_allBlind 4 = .ok (.iload_n 2, 1) := by decide +kernel
theorem dX5_allBlind_5 : decode cX5_allBlind 5 = .ok (.aload_n 0, 1) := by decide +kernel
theorem dX5_allBlind_6 : decode cX5_allBlind 6 = .ok (.getfield 15, 3) := by decide +kernel
theorem dX5_allBlind_9 : decode cX5_allBlind 9 = .ok (.if_icmp .ge 30, 3) := by decide +kernel
theorem dX5_allBlind_12 : decode cX5_allBlind 12 = .ok (.iload_n 1, 1) := by decide +kernel
theorem dX5_allBlind_13 : decode cX5_allBlind 13 = .ok (.iload_n 2, 1) := by decide +kernel
theorem dX5_allBlind_14 : decode cX5_allBlind 14 = .ok (.aload_n 0, 1) := by decide +kernel
theorem dX5_allBlind_15 : decode cX5_allBlind 15 = .ok (.getfield 46, 3) := by decide +kernel
theorem dX5_allBlind_18 : decode cX5_allBlind 18 = .ok (.iload_n 2, 1) := by decide +kernel
theorem dX5_allBlind_19 : decode cX5_allBlind 19 = .ok (.iaload, 1) := by decide +kernel
theorem dX5_allBlind_20 : decode cX5_allBlind 20 = .ok (.iconst 4, 1) := by decide +kernel
theorem dX5_allBlind_21 : decode cX5_allBlind 21 = .ok (.if_icmp .ne 7, 3) := by decide +kernel
theorem dX5_allBlind_24 : decode cX5_allBlind 24 = .ok (.iconst 1, 1) := by decide +kernel
theorem dX5_allBlind_25 : decode cX5_allBlind 25 = .ok (.goto 4, 3) := by decide +kernel
theorem dX5_allBlind_28 : decode cX5_allBlind 28 = .ok (.iconst 0, 1) := by decide +kernel
theorem dX5_allBlind_29 : decode cX5_allBlind 29 = .ok (.invokestatic 61, 3) := by decide +kernel
theorem dX5_allBlind_32 : decode cX5_allBlind 32 = .ok (.istore_n 1, 1) := by decide +kernel
theorem dX5_allBlind_33 : decode cX5_allBlind 33 = .ok (.iinc 2 1, 3) := by decide +kernel
theorem dX5_allBlind_36 : decode cX5_allBlind 36 = .ok (.goto (-32), 3) := by decide +kernel
theorem dX5_allBlind_39 : decode cX5_allBlind 39 = .ok (.iload_n 1, 1) := by decide +kernel
theorem dX5_allBlind_40 : decode cX5_allBlind 40 = .ok (.ireturn, 1) := by decide +kernel
theorem dX5_isOfKind_0 : decode cX5_isOfKind 0 = .ok (.iload_n 2, 1) := by decide +kernel
theorem dX5_isOfKind_1 : decode cX5_isOfKind 1 = .ok (.aload_n 0, 1) := by decide +kernel
theorem dX5_isOfKind_2 : decode cX5_isOfKind 2 = .ok (.getfield 46, 3) := by decide +kernel
theorem dX5_isOfKind_5 : decode cX5_isOfKind 5 = .ok (.iload_n 1, 1) := by decide +kernel
theorem dX5_isOfKind_6 : decode cX5_isOfKind 6 = .ok (.iaload, 1) := by decide +kernel
theorem dX5_isOfKind_7 : decode cX5_isOfKind 7 = .ok (.if_icmp .eq 22, 3) := by decide +kernel
theorem dX5_isOfKind_10 : decode cX5_isOfKind 10 = .ok (.iload_n 2, 1) := by decide +kernel
theorem dX5_isOfKind_11 : decode cX5_isOfKind 11 = .ok (.ifCond .eq 18, 3) := by decide +kernel
theorem dX5_isOfKind_14 : decode cX5_isOfKind 14 = .ok (.iload_n 2, 1) := by decide +kernel
theorem dX5_isOfKind_15 : decode cX5_isOfKind 15 = .ok (.iconst 2, 1) := by decide +kernel
theorem dX5_isOfKind_16 : decode cX5_isOfKind 16 = .ok (.if_icmp .ne 17, 3) := by decide +kernel
theorem dX5_isOfKind_19 : decode cX5_isOfKind 19 = .ok (.aload_n 0, 1) := by decide +kernel
theorem dX5_isOfKind_20 : decode cX5_isOfKind 20 = .ok (.getfield 46, 3) := by decide +kernel
theorem dX5_isOfKind_23 : decode cX5_isOfKind 23 = .ok (.iload_n 1, 1) := by decide +kernel
theorem dX5_isOfKind_24 : decode cX5_isOfKind 24 = .ok (.iaload, 1) := by decide +kernel
theorem dX5_isOfKind_25 : decode cX5_isOfKind 25 = .ok (.iconst 3, 1) := by decide +kernel
theorem dX5_isOfKind_26 : decode cX5_isOfKind 26 = .ok (.if_icmp .ne 7, 3) := by decide +kernel
theorem dX5_isOfKind_29 : decode cX5_isOfKind 29 = .ok (.iconst 1, 1) := by decide +kernel
theorem dX5_isOfKind_30 : decode cX5_isOfKind 30 = .ok (.goto 4, 3) := by decide +kernel
theorem dX5_isOfKind_33 : decode cX5_isOfKind 33 = .ok (.iconst 0, 1) := by decide +kernel
theorem dX5_isOfKind_34 : decode cX5_isOfKind 34 = .ok (.ireturn, 1) := by decide +kernel
theorem dX5_join_0 : decode cX5_join 0 = .ok (.aload_n 0, 1) := by decide +kernel
theorem dX5_join_1 : decode cX5_join 1 = .ok (.getfield 15, 3) := by decide +kernel
theorem dX5_join_4 : decode cX5_join 4 = .ok (.istore_n 3, 1) := by decide +kernel
theorem dX5_join_5 : decode cX5_join 5 = .ok (.aload_n 0, 1) := by decide +kernel
theorem dX5_join_6 : decode cX5_join 6 = .ok (.getfield 46, 3) := by decide +kernel
theorem dX5_join_9 : decode cX5_join 9 = .ok (.iload_n 3, 1) := by decide +kernel
theorem dX5_join_10 : decode cX5_join 10 = .ok (.iload_n 1, 1) := by decide +kernel
theorem dX5_join_11 : decode cX5_join 11 = .ok (.iastore, 1) := by decide +kernel
theorem dX5_join_12 : decode cX5_join 12 = .ok (.aload_n 0, 1) := by decide +kernel
theorem dX5_join_13 : decode cX5_join 13 = .ok (.getfield 49, 3) := by decide +kernel
theorem dX5_join_16 : decode cX5_join 16 = .ok (.iload_n 3, 1) := by decide +kernel
theorem dX5_join_17 : decode cX5_join 17 = .ok (.iload_n 2, 1) := by decide +kernel
theorem dX5_join_18 : decode cX5_join 18 = .ok (.iastore, 1) := by decide +kernel
theorem dX5_join_19 : decode cX5_join 19 = .ok (.aload_n 0, 1) := by decide +kernel
theorem dX5_join_20 : decode cX5_join 20 = .ok (.getfield 33, 3) := by decide +kernel
theorem dX5_join_23 : decode cX5_join 23 = .ok (.iload_n 3, 1) := by decide +kernel
theorem dX5_join_24 : decode cX5_join 24 = .ok (.iconst 0, 1) := by decide +kernel
theorem dX5_join_25 : decode cX5_join 25 = .ok (.iastore, 1) := by decide +kernel
theorem dX5_join_26 : decode cX5_join 26 = .ok (.aload_n 0, 1) := by decide +kernel
theorem dX5_join_27 : decode cX5_join 27 = .ok (.getfield 37, 3) := by decide +kernel
theorem dX5_join_30 : decode cX5_join 30 = .ok (.iload_n 3, 1) := by decide +kernel
theorem dX5_join_31 : decode cX5_join 31 = .ok (.iconst 0, 1) := by decide +kernel
theorem dX5_join_32 : decode cX5_join 32 = .ok (.iastore, 1) := by decide +kernel
theorem dX5_join_33 : decode cX5_join 33 = .ok (.aload_n 0, 1) := by decide +kernel
theorem dX5_join_34 : decode cX5_join 34 = .ok (.getfield 40, 3) := by decide +kernel
theorem dX5_join_37 : decode cX5_join 37 = .ok (.iload_n 3, 1) := by decide +kernel
theorem dX5_join_38 : decode cX5_join 38 = .ok (.iconst 0, 1) := by decide +kernel
theorem dX5_join_39 : decode cX5_join 39 = .ok (.iastore, 1) := by decide +kernel
theorem dX5_join_40 : decode cX5_join 40 = .ok (.aload_n 0, 1) := by decide +kernel
theorem dX5_join_41 : decode cX5_join 41 = .ok (.getfield 43, 3) := by decide +kernel
theorem dX5_join_44 : decode cX5_join 44 = .ok (.iload_n 3, 1) := by decide +kernel
theorem dX5_join_45 : decode cX5_join 45 = .ok (.iconst 0, 1) := by decide +kernel
theorem dX5_join_46 : decode cX5_join 46 = .ok (.iastore, 1) := by decide +kernel
theorem dX5_join_47 : decode cX5_join 47 = .ok (.aload_n 0, 1) := by decide +kernel
theorem dX5_join_48 : decode cX5_join 48 = .ok (.dup, 1) := by decide +kernel
theorem dX5_join_49 : decode cX5_join 49 = .ok (.getfield 15, 3) := by decide +kernel
theorem dX5_join_52 : decode cX5_join 52 = .ok (.iconst 1, 1) := by decide +kernel
theorem dX5_join_53 : decode cX5_join 53 = .ok (.iadd, 1) := by decide +kernel
theorem dX5_join_54 : decode cX5_join 54 = .ok (.putfield 15, 3) := by decide +kernel
theorem dX5_join_57 : decode cX5_join 57 = .ok (.iload_n 3, 1) := by decide +kernel
theorem dX5_join_58 : decode cX5_join 58 = .ok (.ireturn, 1) := by decide +kernel
set_option maxRecDepth 20000 in
theorem ggX5_howSeen_X6_has : GoodIn wsX5_howSeen wsX6_has := goodIn_r _ [5] (by decide +kernel) (by decide +kernel)
set_option maxRecDepth 20000 in
theorem gX5_howSeen_X6_has_n65 : GoodIn wsX5_howSeen (wsX6_has) := ggX5_howSeen_X6_has
theorem dX5_howSeen_0 : decode cX5_howSeen 0 = .ok (.aload_n 0, 1) := by decide +kernel
theorem dX5_howSeen_1 : decode cX5_howSeen 1 = .ok (.getfield 33, 3) := by decide +kernel
theorem dX5_howSeen_4 : decode cX5_howSeen 4 = .ok (.iload_n 1, 1) := by decide +kernel
theorem dX5_howSeen_5 : decode cX5_howSeen 5 = .ok (.iaload, 1) := by decide +kernel
theorem dX5_howSeen_6 : decode cX5_howSeen 6 = .ok (.iload_n 2, 1) := by decide +kernel
theorem dX5_howSeen_7 : decode cX5_howSeen 7 = .ok (.invokestatic 65, 3) := by decide +kernel
theorem dX5_howSeen_10 : decode cX5_howSeen 10 = .ok (.ifCond .eq 5, 3) := by decide +kernel
theorem dX5_howSeen_13 : decode cX5_howSeen 13 = .ok (.iconst 2, 1) := by decide +kernel
theorem dX5_howSeen_14 : decode cX5_howSeen 14 = .ok (.ireturn, 1) := by decide +kernel
theorem dX5_howSeen_15 : decode cX5_howSeen 15 = .ok (.aload_n 0, 1) := by decide +kernel
theorem dX5_howSeen_16 : decode cX5_howSeen 16 = .ok (.getfield 37, 3) := by decide +kernel
theorem dX5_howSeen_19 : decode cX5_howSeen 19 = .ok (.iload_n 1, 1) := by decide +kernel
theorem dX5_howSeen_20 : decode cX5_howSeen 20 = .ok (.iaload, 1) := by decide +kernel
theorem dX5_howSeen_21 : decode cX5_howSeen 21 = .ok (.iload_n 2, 1) := by decide +kernel
theorem dX5_howSeen_22 : decode cX5_howSeen 22 = .ok (.invokestatic 65, 3) := by decide +kernel
theorem dX5_howSeen_25 : decode cX5_howSeen 25 = .ok (.ifCond .eq 7, 3) := by decide +kernel
theorem dX5_howSeen_28 : decode cX5_howSeen 28 = .ok (.iconst 1, 1) := by decide +kernel
theorem dX5_howSeen_29 : decode cX5_howSeen 29 = .ok (.goto 4, 3) := by decide +kernel
theorem dX5_howSeen_32 : decode cX5_howSeen 32 = .ok (.iconst 0, 1) := by decide +kernel
theorem dX5_howSeen_33 : decode cX5_howSeen 33 = .ok (.ireturn, 1) := by decide +kernel
set_option maxRecDepth 20000 in
theorem ggX5_putSeen_X6_with : GoodIn wsX5_putSeen wsX6_with := goodIn_r _ [5] (by decide +kernel) (by decide +kernel)
set_option maxRecDepth 20000 in
theorem gX5_putSeen_X6_with_n61 : GoodIn wsX5_putSeen (wsX6_with) := ggX5_putSeen_X6_with
theorem dX5_putSeen_0 : decode cX5_putSeen 0 = .ok (.aload_n 0, 1) := by decide +kernel
theorem dX5_putSeen_1 : decode cX5_putSeen 1 = .ok (.getfield 33, 3) := by decide +kernel
theorem dX5_putSeen_4 : decode cX5_putSeen 4 = .ok (.iload_n 1, 1) := by decide +kernel
theorem dX5_putSeen_5 : decode cX5_putSeen 5 = .ok (.aload_n 0, 1) := by decide +kernel
theorem dX5_putSeen_6 : decode cX5_putSeen 6 = .ok (.getfield 33, 3) := by decide +kernel
theorem dX5_putSeen_9 : decode cX5_putSeen 9 = .ok (.iload_n 1, 1) := by decide +kernel
theorem dX5_putSeen_10 : decode cX5_putSeen 10 = .ok (.iaload, 1) := by decide +kernel
theorem dX5_putSeen_11 : decode cX5_putSeen 11 = .ok (.iload_n 2, 1) := by decide +kernel
theorem dX5_putSeen_12 : decode cX5_putSeen 12 = .ok (.iload_n 3, 1) := by decide +kernel
theorem dX5_putSeen_13 : decode cX5_putSeen 13 = .ok (.iconst 2, 1) := by decide +kernel
theorem dX5_putSeen_14 : decode cX5_putSeen 14 = .ok (.if_icmp .ne 7, 3) := by decide +kernel
theorem dX5_putSeen_17 : decode cX5_putSeen 17 = .ok (.iconst 1, 1) := by decide +kernel
theorem dX5_putSeen_18 : decode cX5_putSeen 18 = .ok (.goto 4, 3) := by decide +kernel
theorem dX5_putSeen_21 : decode cX5_putSeen 21 = .ok (.iconst 0, 1) := by decide +kernel
theorem dX5_putSeen_22 : decode cX5_putSeen 22 = .ok (.invokestatic 61, 3) := by decide +kernel
theorem dX5_putSeen_25 : decode cX5_putSeen 25 = .ok (.iastore, 1) := by decide +kernel
theorem dX5_putSeen_26 : decode cX5_putSeen 26 = .ok (.aload_n 0, 1) := by decide +kernel
theorem dX5_putSeen_27 : decode cX5_putSeen 27 = .ok (.getfield 37, 3) := by decide +kernel
theorem dX5_putSeen_30 : decode cX5_putSeen 30 = .ok (.iload_n 1, 1) := by decide +kernel
theorem dX5_putSeen_31 : decode cX5_putSeen 31 = .ok (.aload_n 0, 1) := by decide +kernel
theorem dX5_putSeen_32 : decode cX5_putSeen 32 = .ok (.getfield 37, 3) := by decide +kernel
theorem dX5_putSeen_35 : decode cX5_putSeen 35 = .ok (.iload_n 1, 1) := by decide +kernel
theorem dX5_putSeen_36 : decode cX5_putSeen 36 = .ok (.iaload, 1) := by decide +kernel
theorem dX5_putSeen_37 : decode cX5_putSeen 37 = .ok (.iload_n 2, 1) := by decide +kernel
theorem dX5_putSeen_38 : decode cX5_putSeen 38 = .ok (.iload_n 3, 1) := by decide +kernel
theorem dX5_putSeen_39 : decode cX5_putSeen 39 = .ok (.iconst 1, 1) := by decide +kernel
theorem dX5_putSeen_40 : decode cX5_putSeen 40 = .ok (.if_icmp .ne 7, 3) := by decide +kernel
theorem dX5_putSeen_43 : decode cX5_putSeen 43 = .ok (.iconst 1, 1) := by decide +kernel
theorem dX5_putSeen_44 : decode cX5_putSeen 44 = .ok (.goto 4, 3) := by decide +kernel
theorem dX5_putSeen_47 : decode cX5_putSeen 47 = .ok (.iconst 0, 1) := by decide +kernel
theorem dX5_putSeen_48 : decode cX5_putSeen 48 = .ok (.invokestatic 61, 3) := by decide +kernel
theorem dX5_putSeen_51 : decode cX5_putSeen 51 = .ok (.iastore, 1) := by decide +kernel
theorem dX5_putSeen_52 : decode cX5_putSeen 52 = .ok (.return_, 1) := by decide +kernel
set_option maxRecDepth 20000 in
theorem ggX5_putHeard_X6_with : GoodIn wsX5_putHeard wsX6_with := goodIn_r _ [4] (by decide +kernel) (by decide +kernel)
set_option maxRecDepth 20000 in
theorem gX5_putHeard_X6_with_n61 : GoodIn wsX5_putHeard (wsX6_with) := ggX5_putHeard_X6_with
theorem dX5_putHeard_0 : decode cX5_putHeard 0 = .ok (.aload_n 0, 1) := by decide +kernel
theorem dX5_putHeard_1 : decode cX5_putHeard 1 = .ok (.getfield 40, 3) := by decide +kernel
theorem dX5_putHeard_4 : decode cX5_putHeard 4 = .ok (.iload_n 1, 1) := by decide +kernel
theorem dX5_putHeard_5 : decode cX5_putHeard 5 = .ok (.aload_n 0, 1) := by decide +kernel
theorem dX5_putHeard_6 : decode cX5_putHeard 6 = .ok (.getfield 40, 3) := by decide +kernel
theorem dX5_putHeard_9 : decode cX5_putHeard 9 = .ok (.iload_n 1, 1) := by decide +kernel
theorem dX5_putHeard_10 : decode cX5_putHeard 10 = .ok (.iaload, 1) := by decide +kernel
theorem dX5_putHeard_11 : decode cX5_putHeard 11 = .ok (.iload_n 2, 1) := by decide +kernel
theorem dX5_putHeard_12 : decode cX5_putHeard 12 = .ok (.iload_n 3, 1) := by decide +kernel
theorem dX5_putHeard_13 : decode cX5_putHeard 13 = .ok (.invokestatic 61, 3) := by decide +kernel
theorem dX5_putHeard_16 : decode cX5_putHeard 16 = .ok (.iastore, 1) := by decide +kernel
theorem dX5_putHeard_17 : decode cX5_putHeard 17 = .ok (.return_, 1) := by decide +kernel
set_option maxRecDepth 20000 in
theorem ggX5_putHears_X6_with : GoodIn wsX5_putHears wsX6_with := goodIn_r _ [4] (by decide +kernel) (by decide +kernel)
set_option maxRecDepth 20000 in
theorem gX5_putHears_X6_with_n61 : GoodIn wsX5_putHears (wsX6_with) := ggX5_putHears_X6_with
theorem dX5_putHears_0 : decode cX5_putHears 0 = .ok (.aload_n 0, 1) := by decide +kernel
theorem dX5_putHears_1 : decode cX5_putHears 1 = .ok (.getfield 43, 3) := by decide +kernel
theorem dX5_putHears_4 : decode cX5_putHears 4 = .ok (.iload_n 1, 1) := by decide +kernel
theorem dX5_putHears_5 : decode cX5_putHears 5 = .ok (.aload_n 0, 1) := by decide +kernel
theorem dX5_putHears_6 : decode cX5_putHears 6 = .ok (.getfield 43, 3) := by decide +kernel
theorem dX5_putHears_9 : decode cX5_putHears 9 = .ok (.iload_n 1, 1) := by decide +kernel
theorem dX5_putHears_10 : decode cX5_putHears 10 = .ok (.iaload, 1) := by decide +kernel
theorem dX5_putHears_11 : decode cX5_putHears 11 = .ok (.iload_n 2, 1) := by decide +kernel
theorem dX5_putHears_12 : decode cX5_putHears 12 = .ok (.iload_n 3, 1) := by decide +kernel
theorem dX5_putHears_13 : decode cX5_putHears 13 = .ok (.invokestatic 61, 3) := by decide +kernel
theorem dX5_putHears_16 : decode cX5_putHears 16 = .ok (.iastore, 1) := by decide +kernel
theorem dX5_putHears_17 : decode cX5_putHears 17 = .ok (.return_, 1) := by decide +kernel
theorem dX5_mostOf_0 : decode cX5_mostOf 0 = .ok (.iload_n 0, 1) := by decide +kernel
theorem dX5_mostOf_1 : decode cX5_mostOf 1 = .ok (.ifCond .ne 7, 3) := by decide +kernel
theorem dX5_mostOf_4 : decode cX5_mostOf 4 = .ok (.iconst 1, 1) := by decide +kernel
theorem dX5_mostOf_5 : decode cX5_mostOf 5 = .ok (.goto 5, 3) := by decide +kernel
theorem dX5_mostOf_8 : decode cX5_mostOf 8 = .ok (.bipush 9, 2) := by decide +kernel
theorem dX5_mostOf_10 : decode cX5_mostOf 10 = .ok (.ireturn, 1) := by decide +kernel
theorem dX5_settingOf_0 : decode cX5_settingOf 0 = .ok (.iload_n 1, 1) := by decide +kernel
theorem dX5_settingOf_1 : decode cX5_settingOf 1 = .ok (.lookupswitch 37 #[(0, 27), (1, 32)], 27) := by decide +kernel
theorem dX5_settingOf_28 : decode cX5_settingOf 28 = .ok (.aload_n 0, 1) := by decide +kernel
theorem dX5_settingOf_29 : decode cX5_settingOf 29 = .ok (.getfield 18, 3) := by decide +kernel
theorem dX5_settingOf_32 : decode cX5_settingOf 32 = .ok (.ireturn, 1) := by decide +kernel
theorem dX5_settingOf_33 : decode cX5_settingOf 33 = .ok (.aload_n 0, 1) := by decide +kernel
theorem dX5_settingOf_34 : decode cX5_settingOf 34 = .ok (.getfield 21, 3) := by decide +kernel
theorem dX5_settingOf_37 : decode cX5_settingOf 37 = .ok (.ireturn, 1) := by decide +kernel
theorem dX5_settingOf_38 : decode cX5_settingOf 38 = .ok (.aload_n 0, 1) := by decide +kernel
theorem dX5_settingOf_39 : decode cX5_settingOf 39 = .ok (.getfield 24, 3) := by decide +kernel
theorem dX5_settingOf_42 : decode cX5_settingOf 42 = .ok (.ireturn, 1) := by decide +kernel
theorem dX5_putSetting_0 : decode cX5_putSetting 0 = .ok (.iload_n 1, 1) := by decide +kernel
theorem dX5_putSetting_1 : decode cX5_putSetting 1 = .ok (.lookupswitch 43 #[(0, 27), (1, 35)], 27) := by decide +kernel
theorem dX5_putSetting_28 : decode cX5_putSetting 28 = .ok (.aload_n 0, 1) := by decide +kernel
theorem dX5_putSetting_29 : decode cX5_putSetting 29 = .ok (.iload_n 2, 1) := by decide +kernel
theorem dX5_putSetting_30 : decode cX5_putSetting 30 = .ok (.putfield 18, 3) := by decide +kernel
theorem dX5_putSetting_33 : decode cX5_putSetting 33 = .ok (.goto 16, 3) := by decide +kernel
theorem dX5_putSetting_36 : decode cX5_putSetting 36 = .ok (.aload_n 0, 1) := by decide +kernel
theorem dX5_putSetting_37 : decode cX5_putSetting 37 = .ok (.iload_n 2, 1) := by decide +kernel
theorem dX5_putSetting_38 : decode cX5_putSetting 38 = .ok (.putfield 21, 3) := by decide +kernel
theorem dX5_putSetting_41 : decode cX5_putSetting 41 = .ok (.goto 8, 3) := by decide +kernel
theorem dX5_putSetting_44 : decode cX5_putSetting 44 = .ok (.aload_n 0, 1) := by decide +kernel
theorem dX5_putSetting_45 : decode cX5_putSetting 45 = .ok (.iload_n 2, 1) := by decide +kernel
theorem dX5_putSetting_46 : decode cX5_putSetting 46 = .ok (.putfield 24, 3) := by decide +kernel
theorem dX5_putSetting_49 : decode cX5_putSetting 49 = .ok (.return_, 1) := by decide +kernel
set_option maxRecDepth 20000 in
theorem ggX5_factOf_X5_knownTo : GoodIn wsX5_factOf wsX5_knownTo := goodIn_r _ [11, 3, 4, 5, 17, 18, 19, 20, 21, 22, 23, 24, 25, 26, 27, 28, 29, 30] (by decide +kernel) (by decide +kernel)
set_option maxRecDepth 20000 in
theorem gX5_factOf_X5_knownTo : GoodIn wsX5_factOf (wsV RX5 69 RX5 yX5_knownTo wsX5_knownTo) := goodIn_app (goodIn_of _ (by decide +kernel)) ggX5_factOf_X5_knownTo
set_option maxRecDepth 20000 in
theorem ggX5_factOf_X5_barredTo : GoodIn wsX5_factOf wsX5_barredTo := goodIn_r _ [15, 16, 3, 4, 17, 18, 19, 20, 21, 22, 23, 24, 25, 26, 27, 28, 29, 30] (by decide +kernel) (by decide +kernel)
set_option maxRecDepth 20000 in
theorem gX5_factOf_X5_barredTo : GoodIn wsX5_factOf (wsV RX5 73 RX5 yX5_barredTo wsX5_barredTo) := goodIn_app (goodIn_of _ (by decide +kernel)) ggX5_factOf_X5_barredTo
theorem dX5_factOf_0 : decode cX5_factOf 0 = .ok (.iload_n 2, 1) := by decide +kernel
theorem dX5_factOf_1 : decode cX5_factOf 1 = .ok (.tableswitch 91 0 6 #[43, 50, 57, 64, 71, 78, 85], 43) := by decide +kernel
theorem dX5_factOf_44 : decode cX5_factOf 44 = .ok (.aload_n 0, 1) := by decide +kernel
theorem dX5_factOf_45 : decode cX5_factOf 45 = .ok (.getfield 46, 3) := by decide +kernel
theorem dX5_factOf_48 : decode cX5_factOf 48 = .ok (.iload_n 1, 1) := by decide +kernel
theorem dX5_factOf_49 : decode cX5_factOf 49 = .ok (.iaload, 1) := by decide +kernel
theorem dX5_factOf_50 : decode cX5_factOf 50 = .ok (.ireturn, 1) := by decide +kernel
theorem dX5_factOf_51 : decode cX5_factOf 51 = .ok (.aload_n 0, 1) := by decide +kernel
theorem dX5_factOf_52 : decode cX5_factOf 52 = .ok (.getfield 49, 3) := by decide +kernel
theorem dX5_factOf_55 : decode cX5_factOf 55 = .ok (.iload_n 1, 1) := by decide +kernel
theorem dX5_factOf_56 : decode cX5_factOf 56 = .ok (.iaload, 1) := by decide +kernel
theorem dX5_factOf_57 : decode cX5_factOf 57 = .ok (.ireturn, 1) := by decide +kernel
theorem dX5_factOf_58 : decode cX5_factOf 58 = .ok (.aload_n 0, 1) := by decide +kernel
theorem dX5_factOf_59 : decode cX5_factOf 59 = .ok (.getfield 33, 3) := by decide +kernel
theorem dX5_factOf_62 : decode cX5_factOf 62 = .ok (.iload_n 1, 1) := by decide +kernel
theorem dX5_factOf_63 : decode cX5_factOf 63 = .ok (.iaload, 1) := by decide +kernel
theorem dX5_factOf_64 : decode cX5_factOf 64 = .ok (.ireturn, 1) := by decide +kernel
theorem dX5_factOf_65 : decode cX5_factOf 65 = .ok (.aload_n 0, 1) := by decide +kernel
theorem dX5_factOf_66 : decode cX5_factOf 66 = .ok (.getfield 37, 3) := by decide +kernel
theorem dX5_factOf_69 : decode cX5_factOf 69 = .ok (.iload_n 1, 1) := by decide +kernel
theorem dX5_factOf_70 : decode cX5_factOf 70 = .ok (.iaload, 1) := by decide +kernel
theorem dX5_factOf_71 : decode cX5_factOf 71 = .ok (.ireturn, 1) := by decide +kernel
theorem dX5_factOf_72 : decode cX5_factOf 72 = .ok (.aload_n 0, 1) := by decide +kernel
theorem dX5_factOf_73 : decode cX5_factOf 73 = .ok (.getfield 40, 3) := by decide +kernel
theorem dX5_factOf_76 : decode cX5_factOf 76 = .ok (.iload_n 1, 1) := by decide +kernel
theorem dX5_factOf_77 : decode cX5_factOf 77 = .ok (.iaload, 1) := by decide +kernel
theorem dX5_factOf_78 : decode cX5_factOf 78 = .ok (.ireturn, 1) := by decide +kernel
theorem dX5_factOf_79 : decode cX5_factOf 79 = .ok (.aload_n 0, 1) := by decide +kernel
theorem dX5_factOf_80 : decode cX5_factOf 80 = .ok (.getfield 43, 3) := by decide +kernel
theorem dX5_factOf_83 : decode cX5_factOf 83 = .ok (.iload_n 1, 1) := by decide +kernel
theorem dX5_factOf_84 : decode cX5_factOf 84 = .ok (.iaload, 1) := by decide +kernel
theorem dX5_factOf_85 : decode cX5_factOf 85 = .ok (.ireturn, 1) := by decide +kernel
theorem dX5_factOf_86 : decode cX5_factOf 86 = .ok (.aload_n 0, 1) := by decide +kernel
theorem dX5_factOf_87 : decode cX5_factOf 87 = .ok (.iload_n 1, 1) := by decide +kernel
theorem dX5_factOf_88 : decode cX5_factOf 88 = .ok (.invokevirtual 69, 3) := by decide +kernel
theorem dX5_factOf_91 : decode cX5_factOf 91 = .ok (.ireturn, 1) := by decide +kernel
theorem dX5_factOf_92 : decode cX5_factOf 92 = .ok (.aload_n 0, 1) := by decide +kernel
theorem dX5_factOf_93 : decode cX5_factOf 93 = .ok (.iload_n 1, 1) := by decide +kernel
theorem dX5_factOf_94 : decode cX5_factOf 94 = .ok (.invokevirtual 73, 3) := by decide +kernel
theorem dX5_factOf_97 : decode cX5_factOf 97 = .ok (.ireturn, 1) := by decide +kernel
set_option maxRecDepth 20000 in
theorem ggX5_sayingAs_J6_bitCount_0f7a4 : GoodIn wsX5_sayingAs wsJ6_bitCount_0f7a4 := goodIn_r _ [8, 9, 10, 11] (by decide +kernel) (by decide +kernel)
set_option maxRecDepth 20000 in
theorem gX5_sayingAs_J6_bitCount_0f7a4 : GoodIn wsX5_sayingAs (va_wsS RX5 76 yJ6_bitCount_0f7a4 wsJ6_bitCount_0f7a4) := goodIn_app (goodIn_of _ (by decide +kernel)) ggX5_sayingAs_J6_bitCount_0f7a4
set_option maxRecDepth 20000 in
theorem ggX5_sayingAs_X5_barredTo : GoodIn wsX5_sayingAs wsX5_barredTo := goodIn_r _ [16, 17, 4, 18, 42, 43, 44, 45, 46, 47, 48, 49, 50, 51, 52, 53, 54, 55] (by decide +kernel) (by decide +kernel)
set_option maxRecDepth 20000 in
theorem gX5_sayingAs_X5_barredTo : GoodIn wsX5_sayingAs (wsV RX5 73 RX5 yX5_barredTo wsX5_barredTo) := goodIn_app (goodIn_of _ (by decide +kernel)) ggX5_sayingAs_X5_barredTo
set_option maxRecDepth 20000 in
theorem ggX5_sayingAs_X6_firstOf : GoodIn wsX5_sayingAs wsX6_firstOf := goodIn_r _ [21, 22, 23, 20, 24] (by decide +kernel) (by decide +kernel)
set_option maxRecDepth 20000 in
theorem gX5_sayingAs_X6_firstOf_n81 : GoodIn wsX5_sayingAs (wsX6_firstOf) := ggX5_sayingAs_X6_firstOf
set_option maxRecDepth 20000 in
theorem ggX5_sayingAs_X5_sayableBy : GoodIn wsX5_sayingAs wsX5_sayableBy := goodIn_r _ [28, 29, 3, 30, 12, 13, 14, 15, 16, 17, 4, 18, 31, 32, 33, 34, 2, 35, 36, 37, 38, 39, 1, 40, 20, 41, 42, 43, 44, 45, 46, 47, 48, 49, 50, 51, 52, 53, 54, 55] (by decide +kernel) (by decide +kernel)
set_option maxRecDepth 20000 in
theorem gX5_sayingAs_X5_sayableBy : GoodIn wsX5_sayingAs (wsV RX5 84 RX5 yX5_sayableBy wsX5_sayableBy) := goodIn_app (goodIn_of _ (by decide +kernel)) ggX5_sayingAs_X5_sayableBy
theorem dX5_sayingAs_0 : decode cX5_sayingAs 0 = .ok (.iload_n 2, 1) := by decide +kernel
theorem dX5_sayingAs_1 : decode cX5_sayingAs 1 = .ok (.tableswitch 88 1 5 #[35, 45, 59, 68, 78], 35) := by decide +kernel
theorem dX5_sayingAs_36 : decode cX5_sayingAs 36 = .ok (.aload_n 0, 1) := by decide +kernel
theorem dX5_sayingAs_37 : decode cX5_sayingAs 37 = .ok (.getfield 43, 3) := by decide +kernel
theorem dX5_sayingAs_40 : decode cX5_sayingAs 40 = .ok (.iload_n 1, 1) := by decide +kernel
theorem dX5_sayingAs_41 : decode cX5_sayingAs 41 = .ok (.iaload, 1) := by decide +kernel
theorem dX5_sayingAs_42 : decode cX5_sayingAs 42 = .ok (.invokestatic 76, 3) := by decide +kernel
theorem dX5_sayingAs_45 : decode cX5_sayingAs 45 = .ok (.ireturn, 1) := by decide +kernel
theorem dX5_sayingAs_46 : decode cX5_sayingAs 46 = .ok (.aload_n 0, 1) := by decide +kernel
theorem dX5_sayingAs_47 : decode cX5_sayingAs 47 = .ok (.getfield 9, 3) := by decide +kernel
theorem dX5_sayingAs_50 : decode cX5_sayingAs 50 = .ok (.aload_n 0, 1) := by decide +kernel
theorem dX5_sayingAs_51 : decode cX5_sayingAs 51 = .ok (.iload_n 1, 1) := by decide +kernel
theorem dX5_sayingAs_52 : decode cX5_sayingAs 52 = .ok (.invokevirtual 73, 3) := by decide +kernel
theorem dX5_sayingAs_55 : decode cX5_sayingAs 55 = .ok (.invokestatic 76, 3) := by decide +kernel
theorem dX5_sayingAs_58 : decode cX5_sayingAs 58 = .ok (.isub, 1) := by decide +kernel
theorem dX5_sayingAs_59 : decode cX5_sayingAs 59 = .ok (.ireturn, 1) := by decide +kernel
theorem dX5_sayingAs_60 : decode cX5_sayingAs 60 = .ok (.aload_n 0, 1) := by decide +kernel
theorem dX5_sayingAs_61 : decode cX5_sayingAs 61 = .ok (.iload_n 1, 1) := by decide +kernel
theorem dX5_sayingAs_62 : decode cX5_sayingAs 62 = .ok (.invokevirtual 73, 3) := by decide +kernel
theorem dX5_sayingAs_65 : decode cX5_sayingAs 65 = .ok (.invokestatic 81, 3) := by decide +kernel
theorem dX5_sayingAs_68 : decode cX5_sayingAs 68 = .ok (.ireturn, 1) := by decide +kernel
theorem dX5_sayingAs_69 : decode cX5_sayingAs 69 = .ok (.aload_n 0, 1) := by decide +kernel
theorem dX5_sayingAs_70 : decode cX5_sayingAs 70 = .ok (.getfield 40, 3) := by decide +kernel
theorem dX5_sayingAs_73 : decode cX5_sayingAs 73 = .ok (.iload_n 1, 1) := by decide +kernel
theorem dX5_sayingAs_74 : decode cX5_sayingAs 74 = .ok (.iaload, 1) := by decide +kernel
theorem dX5_sayingAs_75 : decode cX5_sayingAs 75 = .ok (.invokestatic 76, 3) := by decide +kernel
theorem dX5_sayingAs_78 : decode cX5_sayingAs 78 = .ok (.ireturn, 1) := by decide +kernel
theorem dX5_sayingAs_79 : decode cX5_sayingAs 79 = .ok (.aload_n 0, 1) := by decide +kernel
theorem dX5_sayingAs_80 : decode cX5_sayingAs 80 = .ok (.getfield 33, 3) := by decide +kernel
theorem dX5_sayingAs_83 : decode cX5_sayingAs 83 = .ok (.iload_n 1, 1) := by decide +kernel
theorem dX5_sayingAs_84 : decode cX5_sayingAs 84 = .ok (.iaload, 1) := by decide +kernel
theorem dX5_sayingAs_85 : decode cX5_sayingAs 85 = .ok (.invokestatic 81, 3) := by decide +kernel
theorem dX5_sayingAs_88 : decode cX5_sayingAs 88 = .ok (.ireturn, 1) := by decide +kernel
theorem dX5_sayingAs_89 : decode cX5_sayingAs 89 = .ok (.aload_n 0, 1) := by decide +kernel
theorem dX5_sayingAs_90 : decode cX5_sayingAs 90 = .ok (.iload_n 1, 1) := by decide +kernel
theorem dX5_sayingAs_91 : decode cX5_sayingAs 91 = .ok (.invokevirtual 84, 3) := by decide +kernel
theorem dX5_sayingAs_94 : decode cX5_sayingAs 94 = .ok (.ireturn, 1) := by decide +kernel
theorem dX5_barredTo_0 : decode cX5_barredTo 0 = .ok (.aload_n 0, 1) := by decide +kernel
theorem dX5_barredTo_1 : decode cX5_barredTo 1 = .ok (.getfield 18, 3) := by decide +kernel
theorem dX5_barredTo_4 : decode cX5_barredTo 4 = .ok (.iconst 1, 1) := by decide +kernel
theorem dX5_barredTo_5 : decode cX5_barredTo 5 = .ok (.if_icmp .ne 19, 3) := by decide +kernel
theorem dX5_barredTo_8 : decode cX5_barredTo 8 = .ok (.aload_n 0, 1) := by decide +kernel
theorem dX5_barredTo_9 : decode cX5_barredTo 9 = .ok (.getfield 33, 3) := by decide +kernel
theorem dX5_barredTo_12 : decode cX5_barredTo 12 = .ok (.iload_n 1, 1) := by decide +kernel
theorem dX5_barredTo_13 : decode cX5_barredTo 13 = .ok (.iaload, 1) := by decide +kernel
theorem dX5_barredTo_14 : decode cX5_barredTo 14 = .ok (.aload_n 0, 1) := by decide +kernel
theorem dX5_barredTo_15 : decode cX5_barredTo 15 = .ok (.getfield 37, 3) := by decide +kernel
theorem dX5_barredTo_18 : decode cX5_barredTo 18 = .ok (.iload_n 1, 1) := by decide +kernel
theorem dX5_barredTo_19 : decode cX5_barredTo 19 = .ok (.iaload, 1) := by decide +kernel
theorem dX5_barredTo_20 : decode cX5_barredTo 20 = .ok (.ior, 1) := by decide +kernel
theorem dX5_barredTo_21 : decode cX5_barredTo 21 = .ok (.goto 9, 3) := by decide +kernel
theorem dX5_barredTo_24 : decode cX5_barredTo 24 = .ok (.aload_n 0, 1) := by decide +kernel
theorem dX5_barredTo_25 : decode cX5_barredTo 25 = .ok (.getfield 33, 3) := by decide +kernel
theorem dX5_barredTo_28 : decode cX5_barredTo 28 = .ok (.iload_n 1, 1) := by decide +kernel
theorem dX5_barredTo_29 : decode cX5_barredTo 29 = .ok (.iaload, 1) := by decide +kernel
theorem dX5_barredTo_30 : decode cX5_barredTo 30 = .ok (.ireturn, 1) := by decide +kernel
theorem dX5_knownTo_0 : decode cX5_knownTo 0 = .ok (.aload_n 0, 1) := by decide +kernel
theorem dX5_knownTo_1 : decode cX5_knownTo 1 = .ok (.getfield 33, 3) := by decide +kernel
theorem dX5_knownTo_4 : decode cX5_knownTo 4 = .ok (.iload_n 1, 1) := by decide +kernel
theorem dX5_knownTo_5 : decode cX5_knownTo 5 = .ok (.iaload, 1) := by decide +kernel
theorem dX5_knownTo_6 : decode cX5_knownTo 6 = .ok (.aload_n 0, 1) := by decide +kernel
theorem dX5_knownTo_7 : decode cX5_knownTo 7 = .ok (.getfield 37, 3) := by decide +kernel
theorem dX5_knownTo_10 : decode cX5_knownTo 10 = .ok (.iload_n 1, 1) := by decide +kernel
theorem dX5_knownTo_11 : decode cX5_knownTo 11 = .ok (.iaload, 1) := by decide +kernel
theorem dX5_knownTo_12 : decode cX5_knownTo 12 = .ok (.ior, 1) := by decide +kernel
theorem dX5_knownTo_13 : decode cX5_knownTo 13 = .ok (.aload_n 0, 1) := by decide +kernel
theorem dX5_knownTo_14 : decode cX5_knownTo 14 = .ok (.getfield 40, 3) := by decide +kernel
theorem dX5_knownTo_17 : decode cX5_knownTo 17 = .ok (.iload_n 1, 1) := by decide +kernel
theorem dX5_knownTo_18 : decode cX5_knownTo 18 = .ok (.iaload, 1) := by decide +kernel
theorem dX5_knownTo_19 : decode cX5_knownTo 19 = .ok (.ior, 1) := by decide +kernel
theorem dX5_knownTo_20 : decode cX5_knownTo 20 = .ok (.ireturn, 1) := by decide +kernel
set_option maxRecDepth 20000 in
theorem ggX5_sayableBy_X5_barredTo : GoodIn wsX5_sayableBy wsX5_barredTo := goodIn_r _ [8, 9, 10, 11, 26, 27, 28, 29, 30, 31, 32, 33, 34, 35, 36, 37, 38, 39] (by decide +kernel) (by decide +kernel)
set_option maxRecDepth 20000 in
theorem gX5_sayableBy_X5_barredTo : GoodIn wsX5_sayableBy (wsV RX5 73 RX5 yX5_barredTo wsX5_barredTo) := goodIn_app (goodIn_of _ (by decide +kernel)) ggX5_sayableBy_X5_barredTo
set_option maxRecDepth 20000 in
theorem ggX5_sayableBy_X5_allSights : GoodIn wsX5_sayableBy wsX5_allSights := goodIn_r _ [15, 16, 26, 27, 28, 29, 30, 31, 32, 33, 34, 35, 36, 37, 38, 39] (by decide +kernel) (by decide +kernel)
set_option maxRecDepth 20000 in
theorem gX5_sayableBy_X5_allSights : GoodIn wsX5_sayableBy (wsV RX5 87 RX5 yX5_allSights wsX5_allSights) := goodIn_app (goodIn_of _ (by decide +kernel)) ggX5_sayableBy_X5_allSights
set_option maxRecDepth 20000 in
theorem ggX5_sayableBy_X5_vouchedFor : GoodIn wsX5_sayableBy wsX5_vouchedFor := goodIn_r _ [20, 21, 22, 2, 10, 26, 27, 28, 29, 30, 31, 32, 33, 34, 35, 36, 37, 38, 39] (by decide +kernel) (by decide +kernel)
set_option maxRecDepth 20000 in
theorem gX5_sayableBy_X5_vouchedFor : GoodIn wsX5_sayableBy (wsV RX5 91 RX5 yX5_vouchedFor wsX5_vouchedFor) := goodIn_app (goodIn_of _ (by decide +kernel)) ggX5_sayableBy_X5_vouchedFor
set_option maxRecDepth 20000 in
theorem ggX5_sayableBy_X6_firstBits : GoodIn wsX5_sayableBy wsX6_firstBits := goodIn_r _ [25] (by decide +kernel) (by decide +kernel)
set_option maxRecDepth 20000 in
theorem gX5_sayableBy_X6_firstBits_n94 : GoodIn wsX5_sayableBy (wsX6_firstBits) := ggX5_sayableBy_X6_firstBits
theorem dX5_sayableBy_0 : decode cX5_sayableBy 0 = .ok (.aload_n 0, 1) := by decide +kernel
theorem dX5_sayableBy_1 : decode cX5_sayableBy 1 = .ok (.iload_n 1, 1) := by decide +kernel
theorem dX5_sayableBy_2 : decode cX5_sayableBy 2 = .ok (.invokevirtual 73, 3) := by decide +kernel
theorem dX5_sayableBy_5 : decode cX5_sayableBy 5 = .ok (.istore_n 2, 1) := by decide +kernel
theorem dX5_sayableBy_6 : decode cX5_sayableBy 6 = .ok (.aload_n 0, 1) := by decide +kernel
theorem dX5_sayableBy_7 : decode cX5_sayableBy 7 = .ok (.invokevirtual 87, 3) := by decide +kernel
theorem dX5_sayableBy_10 : decode cX5_sayableBy 10 = .ok (.iload_n 2, 1) := by decide +kernel
theorem dX5_sayableBy_11 : decode cX5_sayableBy 11 = .ok (.iconst (-1), 1) := by decide +kernel
theorem dX5_sayableBy_12 : decode cX5_sayableBy 12 = .ok (.ixor, 1) := by decide +kernel
theorem dX5_sayableBy_13 : decode cX5_sayableBy 13 = .ok (.iand, 1) := by decide +kernel
theorem dX5_sayableBy_14 : decode cX5_sayableBy 14 = .ok (.istore_n 3, 1) := by decide +kernel
theorem dX5_sayableBy_15 : decode cX5_sayableBy 15 = .ok (.aload_n 0, 1) := by decide +kernel
theorem dX5_sayableBy_16 : decode cX5_sayableBy 16 = .ok (.getfield 46, 3) := by decide +kernel
theorem dX5_sayableBy_19 : decode cX5_sayableBy 19 = .ok (.iload_n 1, 1) := by decide +kernel
theorem dX5_sayableBy_20 : decode cX5_sayableBy 20 = .ok (.iaload, 1) := by decide +kernel
theorem dX5_sayableBy_21 : decode cX5_sayableBy 21 = .ok (.tableswitch 55 1 3 #[27, 42, 44], 27) := by decide +kernel
theorem dX5_sayableBy_48 : decode cX5_sayableBy 48 = .ok (.aload_n 0, 1) := by decide +kernel
theorem dX5_sayableBy_49 : decode cX5_sayableBy 49 = .ok (.getfield 40, 3) := by decide +kernel
theorem dX5_sayableBy_52 : decode cX5_sayableBy 52 = .ok (.iload_n 1, 1) := by decide +kernel
theorem dX5_sayableBy_53 : decode cX5_sayableBy 53 = .ok (.iaload, 1) := by decide +kernel
theorem dX5_sayableBy_54 : decode cX5_sayableBy 54 = .ok (.iload_n 3, 1) := by decide +kernel
theorem dX5_sayableBy_55 : decode cX5_sayableBy 55 = .ok (.iand, 1) := by decide +kernel
theorem dX5_sayableBy_56 : decode cX5_sayableBy 56 = .ok (.aload_n 0, 1) := by decide +kernel
theorem dX5_sayableBy_57 : decode cX5_sayableBy 57 = .ok (.iload_n 1, 1) := by decide +kernel
theorem dX5_sayableBy_58 : decode cX5_sayableBy 58 = .ok (.invokevirtual 91, 3) := by decide +kernel
theorem dX5_sayableBy_61 : decode cX5_sayableBy 61 = .ok (.iand, 1) := by decide +kernel
theorem dX5_sayableBy_62 : decode cX5_sayableBy 62 = .ok (.ireturn, 1) := by decide +kernel
theorem dX5_sayableBy_63 : decode cX5_sayableBy 63 = .ok (.iload_n 3, 1) := by decide +kernel
theorem dX5_sayableBy_64 : decode cX5_sayableBy 64 = .ok (.ireturn, 1) := by decide +kernel
theorem dX5_sayableBy_65 : decode cX5_sayableBy 65 = .ok (.iload_n 3, 1) := by decide +kernel
theorem dX5_sayableBy_66 : decode cX5_sayableBy 66 = .ok (.iload_n 2, 1) := by decide +kernel
theorem dX5_sayableBy_67 : decode cX5_sayableBy 67 = .ok (.aload_n 0, 1) := by decide +kernel
theorem dX5_sayableBy_68 : decode cX5_sayableBy 68 = .ok (.getfield 24, 3) := by decide +kernel
theorem dX5_sayableBy_71 : decode cX5_sayableBy 71 = .ok (.invokestatic 94, 3) := by decide +kernel
theorem dX5_sayableBy_74 : decode cX5_sayableBy 74 = .ok (.ior, 1) := by decide +kernel
theorem dX5_sayableBy_75 : decode cX5_sayableBy 75 = .ok (.ireturn, 1) := by decide +kernel
theorem dX5_sayableBy_76 : decode cX5_sayableBy 76 = .ok (.aload_n 0, 1) := by decide +kernel
theorem dX5_sayableBy_77 : decode cX5_sayableBy 77 = .ok (.getfield 40, 3) := by decide +kernel
theorem dX5_sayableBy_80 : decode cX5_sayableBy 80 = .ok (.iload_n 1, 1) := by decide +kernel
theorem dX5_sayableBy_81 : decode cX5_sayableBy 81 = .ok (.iaload, 1) := by decide +kernel
theorem dX5_sayableBy_82 : decode cX5_sayableBy 82 = .ok (.iload_n 3, 1) := by decide +kernel
theorem dX5_sayableBy_83 : decode cX5_sayableBy 83 = .ok (.iand, 1) := by decide +kernel
theorem dX5_sayableBy_84 : decode cX5_sayableBy 84 = .ok (.ireturn, 1) := by decide +kernel
theorem dX5_vouchedFor_0 : decode cX5_vouchedFor 0 = .ok (.iconst 0, 1) := by decide +kernel
theorem dX5_vouchedFor_1 : decode cX5_vouchedFor 1 = .ok (.istore_n 2, 1) := by decide +kernel
theorem dX5_vouchedFor_2 : decode cX5_vouchedFor 2 = .ok (.iconst 0, 1) := by decide +kernel
theorem dX5_vouchedFor_3 : decode cX5_vouchedFor 3 = .ok (.istore_n 3, 1) := by decide +kernel
theorem dX5_vouchedFor_4 : decode cX5_vouchedFor 4 = .ok (.iload_n 3, 1) := by decide +kernel
theorem dX5_vouchedFor_5 : decode cX5_vouchedFor 5 = .ok (.aload_n 0, 1) := by decide +kernel
theorem dX5_vouchedFor_6 : decode cX5_vouchedFor 6 = .ok (.getfield 15, 3) := by decide +kernel
theorem dX5_vouchedFor_9 : decode cX5_vouchedFor 9 = .ok (.if_icmp .ge 38, 3) := by decide +kernel
theorem dX5_vouchedFor_12 : decode cX5_vouchedFor 12 = .ok (.aload_n 0, 1) := by decide +kernel
theorem dX5_vouchedFor_13 : decode cX5_vouchedFor 13 = .ok (.getfield 43, 3) := by decide +kernel
theorem dX5_vouchedFor_16 : decode cX5_vouchedFor 16 = .ok (.iload_n 1, 1) := by decide +kernel
theorem dX5_vouchedFor_17 : decode cX5_vouchedFor 17 = .ok (.iaload, 1) := by decide +kernel
theorem dX5_vouchedFor_18 : decode cX5_vouchedFor 18 = .ok (.iconst 1, 1) := by decide +kernel
theorem dX5_vouchedFor_19 : decode cX5_vouchedFor 19 = .ok (.iload_n 3, 1) := by decide +kernel
theorem dX5_vouchedFor_20 : decode cX5_vouchedFor 20 = .ok (.ishl, 1) := by decide +kernel
theorem dX5_vouchedFor_21 : decode cX5_vouchedFor 21 = .ok (.iand, 1) := by decide +kernel
theorem dX5_vouchedFor_22 : decode cX5_vouchedFor 22 = .ok (.ifCond .eq 19, 3) := by decide +kernel
theorem dX5_vouchedFor_25 : decode cX5_vouchedFor 25 = .ok (.iload_n 2, 1) := by decide +kernel
theorem dX5_vouchedFor_26 : decode cX5_vouchedFor 26 = .ok (.aload_n 0, 1) := by decide +kernel
theorem dX5_vouchedFor_27 : decode cX5_vouchedFor 27 = .ok (.getfield 40, 3) := by decide +kernel
theorem dX5_vouchedFor_30 : decode cX5_vouchedFor 30 = .ok (.iload_n 3, 1) := by decide +kernel
theorem dX5_vouchedFor_31 : decode cX5_vouchedFor 31 = .ok (.iaload, 1) := by decide +kernel
theorem dX5_vouchedFor_32 : decode cX5_vouchedFor 32 = .ok (.aload_n 0, 1) := by decide +kernel
theorem dX5_vouchedFor_33 : decode cX5_vouchedFor 33 = .ok (.getfield 33, 3) := by decide +kernel
theorem dX5_vouchedFor_36 : decode cX5_vouchedFor 36 = .ok (.iload_n 3, 1) := by decide +kernel
theorem dX5_vouchedFor_37 : decode cX5_vouchedFor 37 = .ok (.iaload, 1) := by decide +kernel
theorem dX5_vouchedFor_38 : decode cX5_vouchedFor 38 = .ok (.ior, 1) := by decide +kernel
theorem dX5_vouchedFor_39 : decode cX5_vouchedFor 39 = .ok (.ior, 1) := by decide +kernel
theorem dX5_vouchedFor_40 : decode cX5_vouchedFor 40 = .ok (.istore_n 2, 1) := by decide +kernel
theorem dX5_vouchedFor_41 : decode cX5_vouchedFor 41 = .ok (.iinc 3 1, 3) := by decide +kernel
theorem dX5_vouchedFor_44 : decode cX5_vouchedFor 44 = .ok (.goto (-40), 3) := by decide +kernel
theorem dX5_vouchedFor_47 : decode cX5_vouchedFor 47 = .ok (.iload_n 2, 1) := by decide +kernel
theorem dX5_vouchedFor_48 : decode cX5_vouchedFor 48 = .ok (.ireturn, 1) := by decide +kernel
set_option maxRecDepth 20000 in
theorem ggX5_knownInAll_X5_knownTo : GoodIn wsX5_knownInAll wsX5_knownTo := goodIn_r _ [6, 7, 8, 9, 17, 18, 19, 20, 21, 22, 23, 24, 25, 26, 27, 28, 29, 30] (by decide +kernel) (by decide +kernel)
set_option maxRecDepth 20000 in
theorem gX5_knownInAll_X5_knownTo : GoodIn wsX5_knownInAll (wsV RX5 69 RX5 yX5_knownTo wsX5_knownTo) := goodIn_app (goodIn_of _ (by decide +kernel)) ggX5_knownInAll_X5_knownTo
set_option maxRecDepth 20000 in
theorem ggX5_knownInAll_J6_bitCount_0f7a4 : GoodIn wsX5_knownInAll wsJ6_bitCount_0f7a4 := goodIn_r _ [13, 14, 15, 16] (by decide +kernel) (by decide +kernel)
set_option maxRecDepth 20000 in
theorem gX5_knownInAll_J6_bitCount_0f7a4 : GoodIn wsX5_knownInAll (va_wsS RX5 76 yJ6_bitCount_0f7a4 wsJ6_bitCount_0f7a4) := goodIn_app (goodIn_of _ (by decide +kernel)) ggX5_knownInAll_J6_bitCount_0f7a4
theorem dX5_knownInAll_0 : decode cX5_knownInAll 0 = .ok (.iconst 0, 1) := by decide +kernel
theorem dX5_knownInAll_1 : decode cX5_knownInAll 1 = .ok (.istore_n 1, 1) := by decide +kernel
theorem dX5_knownInAll_2 : decode cX5_knownInAll 2 = .ok (.iconst 0, 1) := by decide +kernel
theorem dX5_knownInAll_3 : decode cX5_knownInAll 3 = .ok (.istore_n 2, 1) := by decide +kernel
theorem dX5_knownInAll_4 : decode cX5_knownInAll 4 = .ok (.iload_n 2, 1) := by decide +kernel
theorem dX5_knownInAll_5 : decode cX5_knownInAll 5 = .ok (.aload_n 0, 1) := by decide +kernel
theorem dX5_knownInAll_6 : decode cX5_knownInAll 6 = .ok (.getfield 15, 3) := by decide +kernel
theorem dX5_knownInAll_9 : decode cX5_knownInAll 9 = .ok (.if_icmp .ge 20, 3) := by decide +kernel
theorem dX5_knownInAll_12 : decode cX5_knownInAll 12 = .ok (.iload_n 1, 1) := by decide +kernel
theorem dX5_knownInAll_13 : decode cX5_knownInAll 13 = .ok (.aload_n 0, 1) := by decide +kernel
theorem dX5_knownInAll_14 : decode cX5_knownInAll 14 = .ok (.iload_n 2, 1) := by decide +kernel
theorem dX5_knownInAll_15 : decode cX5_knownInAll 15 = .ok (.invokevirtual 69, 3) := by decide +kernel
theorem dX5_knownInAll_18 : decode cX5_knownInAll 18 = .ok (.invokestatic 76, 3) := by decide +kernel
theorem dX5_knownInAll_21 : decode cX5_knownInAll 21 = .ok (.iadd, 1) := by decide +kernel
theorem dX5_knownInAll_22 : decode cX5_knownInAll 22 = .ok (.istore_n 1, 1) := by decide +kernel
theorem dX5_knownInAll_23 : decode cX5_knownInAll 23 = .ok (.iinc 2 1, 3) := by decide +kernel
theorem dX5_knownInAll_26 : decode cX5_knownInAll 26 = .ok (.goto (-22), 3) := by decide +kernel
theorem dX5_knownInAll_29 : decode cX5_knownInAll 29 = .ok (.iload_n 1, 1) := by decide +kernel
theorem dX5_knownInAll_30 : decode cX5_knownInAll 30 = .ok (.ireturn, 1) := by decide +kernel
set_option maxRecDepth 20000 in
theorem ggX5_whoMaySay_X5_sayableBy : GoodIn wsX5_whoMaySay wsX5_sayableBy := goodIn_r _ [6, 7, 8, 9, 10, 11, 12, 5, 13, 14, 15, 16, 17, 18, 19, 20, 21, 22, 23, 24, 25, 1, 26, 27, 28, 29, 34, 35, 36, 37, 38, 39, 40, 41, 42, 43, 44, 45, 46, 47] (by decide +kernel) (by decide +kernel)
set_option maxRecDepth 20000 in
theorem gX5_whoMaySay_X5_sayableBy : GoodIn wsX5_whoMaySay (wsV RX5 84 RX5 yX5_sayableBy wsX5_sayableBy) := goodIn_app (goodIn_of _ (by decide +kernel)) ggX5_whoMaySay_X5_sayableBy
set_option maxRecDepth 20000 in
theorem ggX5_whoMaySay_X6_has : GoodIn wsX5_whoMaySay wsX6_has := goodIn_r _ [31] (by decide +kernel) (by decide +kernel)
set_option maxRecDepth 20000 in
theorem gX5_whoMaySay_X6_has_n65 : GoodIn wsX5_whoMaySay (wsX6_has) := ggX5_whoMaySay_X6_has
set_option maxRecDepth 20000 in
theorem ggX5_whoMaySay_X6_with : GoodIn wsX5_whoMaySay wsX6_with := goodIn_r _ [33] (by decide +kernel) (by decide +kernel)
set_option maxRecDepth 20000 in
theorem gX5_whoMaySay_X6_with_n61 : GoodIn wsX5_whoMaySay (wsX6_with) := ggX5_whoMaySay_X6_with
theorem dX5_whoMaySay_0 : decode cX5_whoMaySay 0 = .ok (.iconst 0, 1) := by decide +kernel
theorem dX5_whoMaySay_1 : decode cX5_whoMaySay 1 = .ok (.istore_n 2, 1) := by decide +kernel
theorem dX5_whoMaySay_2 : decode cX5_whoMaySay 2 = .ok (.iconst 0, 1) := by decide +kernel
theorem dX5_whoMaySay_3 : decode cX5_whoMaySay 3 = .ok (.istore_n 3, 1) := by decide +kernel
theorem dX5_whoMaySay_4 : decode cX5_whoMaySay 4 = .ok (.iload_n 3, 1) := by decide +kernel
theorem dX5_whoMaySay_5 : decode cX5_whoMaySay 5 = .ok (.aload_n 0, 1) := by decide +kernel
theorem dX5_whoMaySay_6 : decode cX5_whoMaySay 6 = .ok (.getfield 15, 3) := by decide +kernel
theorem dX5_whoMaySay_9 : decode cX5_whoMaySay 9 = .ok (.if_icmp .ge 24, 3) := by decide +kernel
theorem dX5_whoMaySay_12 : decode cX5_whoMaySay 12 = .ok (.iload_n 2, 1) := by decide +kernel
theorem dX5_whoMaySay_13 : decode cX5_whoMaySay 13 = .ok (.iload_n 3, 1) := by decide +kernel
theorem dX5_whoMaySay_14 : decode cX5_whoMaySay 14 = .ok (.aload_n 0, 1) := by decide +kernel
theorem dX5_whoMaySay_15 : decode cX5_whoMaySay 15 = .ok (.iload_n 3, 1) := by decide +kernel
theorem dX5_whoMaySay_16 : decode cX5_whoMaySay 16 = .ok (.invokevirtual 84, 3) := by decide +kernel
theorem dX5_whoMaySay_19 : decode cX5_whoMaySay 19 = .ok (.iload_n 1, 1) := by decide +kernel
theorem dX5_whoMaySay_20 : decode cX5_whoMaySay 20 = .ok (.invokestatic 65, 3) := by decide +kernel
theorem dX5_whoMaySay_23 : decode cX5_whoMaySay 23 = .ok (.invokestatic 61, 3) := by decide +kernel
theorem dX5_whoMaySay_26 : decode cX5_whoMaySay 26 = .ok (.istore_n 2, 1) := by decide +kernel
theorem dX5_whoMaySay_27 : decode cX5_whoMaySay 27 = .ok (.iinc 3 1, 3) := by decide +kernel
theorem dX5_whoMaySay_30 : decode cX5_whoMaySay 30 = .ok (.goto (-26), 3) := by decide +kernel
theorem dX5_whoMaySay_33 : decode cX5_whoMaySay 33 = .ok (.iload_n 2, 1) := by decide +kernel
theorem dX5_whoMaySay_34 : decode cX5_whoMaySay 34 = .ok (.ireturn, 1) := by decide +kernel
set_option maxRecDepth 20000 in
theorem ggX5_whoIsBarred_X5_barredTo : GoodIn wsX5_whoIsBarred wsX5_barredTo := goodIn_r _ [6, 7, 8, 9, 15, 16, 17, 18, 19, 20, 21, 22, 23, 24, 25, 26, 27, 28] (by decide +kernel) (by decide +kernel)
set_option maxRecDepth 20000 in
theorem gX5_whoIsBarred_X5_barredTo : GoodIn wsX5_whoIsBarred (wsV RX5 73 RX5 yX5_barredTo wsX5_barredTo) := goodIn_app (goodIn_of _ (by decide +kernel)) ggX5_whoIsBarred_X5_barredTo
set_option maxRecDepth 20000 in
theorem ggX5_whoIsBarred_X6_has : GoodIn wsX5_whoIsBarred wsX6_has := goodIn_r _ [12] (by decide +kernel) (by decide +kernel)
set_option maxRecDepth 20000 in
theorem gX5_whoIsBarred_X6_has_n65 : GoodIn wsX5_whoIsBarred (wsX6_has) := ggX5_whoIsBarred_X6_has
set_option maxRecDepth 20000 in
theorem ggX5_whoIsBarred_X6_with : GoodIn wsX5_whoIsBarred wsX6_with := goodIn_r _ [14] (by decide +kernel) (by decide +kernel)
set_option maxRecDepth 20000 in
theorem gX5_whoIsBarred_X6_with_n61 : GoodIn wsX5_whoIsBarred (wsX6_with) := ggX5_whoIsBarred_X6_with
theorem dX5_whoIsBarred_0 : decode cX5_whoIsBarred 0 = .ok (.iconst 0, 1) := by decide +kernel
theorem dX5_whoIsBarred_1 : decode cX5_whoIsBarred 1 = .ok (.istore_n 2, 1) := by decide +kernel
theorem dX5_whoIsBarred_2 : decode cX5_whoIsBarred 2 = .ok (.iconst 0, 1) := by decide +kernel
theorem dX5_whoIsBarred_3 : decode cX5_whoIsBarred 3 = .ok (.istore_n 3, 1) := by decide +kernel
theorem dX5_whoIsBarred_4 : decode cX5_whoIsBarred 4 = .ok (.iload_n 3, 1) := by decide +kernel
theorem dX5_whoIsBarred_5 : decode cX5_whoIsBarred 5 = .ok (.aload_n 0, 1) := by decide +kernel
theorem dX5_whoIsBarred_6 : decode cX5_whoIsBarred 6 = .ok (.getfield 15, 3) := by decide +kernel
theorem dX5_whoIsBarred_9 : decode cX5_whoIsBarred 9 = .ok (.if_icmp .ge 24, 3) := by decide +kernel
theorem dX5_whoIsBarred_12 : decode cX5_whoIsBarred 12 = .ok (.iload_n 2, 1) := by decide +kernel
theorem dX5_whoIsBarred_13 : decode cX5_whoIsBarred 13 = .ok (.iload_n 3, 1) := by decide +kernel
theorem dX5_whoIsBarred_14 : decode cX5_whoIsBarred 14 = .ok (.aload_n 0, 1) := by decide +kernel
theorem dX5_whoIsBarred_15 : decode cX5_whoIsBarred 15 = .ok (.iload_n 3, 1) := by decide +kernel
theorem dX5_whoIsBarred_16 : decode cX5_whoIsBarred 16 = .ok (.invokevirtual 73, 3) := by decide +kernel
theorem dX5_whoIsBarred_19 : decode cX5_whoIsBarred 19 = .ok (.iload_n 1, 1) := by decide +kernel
theorem dX5_whoIsBarred_20 : decode cX5_whoIsBarred 20 = .ok (.invokestatic 65, 3) := by decide +kernel
theorem dX5_whoIsBarred_23 : decode cX5_whoIsBarred 23 = .ok (.invokestatic 61, 3) := by decide +kernel
theorem dX5_whoIsBarred_26 : decode cX5_whoIsBarred 26 = .ok (.istore_n 2, 1) := by decide +kernel
theorem dX5_whoIsBarred_27 : decode cX5_whoIsBarred 27 = .ok (.iinc 3 1, 3) := by decide +kernel
theorem dX5_whoIsBarred_30 : decode cX5_whoIsBarred 30 = .ok (.goto (-26), 3) := by decide +kernel
theorem dX5_whoIsBarred_33 : decode cX5_whoIsBarred 33 = .ok (.iload_n 2, 1) := by decide +kernel
theorem dX5_whoIsBarred_34 : decode cX5_whoIsBarred 34 = .ok (.ireturn, 1) := by decide +kernel
set_option maxRecDepth 20000 in
theorem ggX5_whoKnows_X5_knownTo : GoodIn wsX5_whoKnows wsX5_knownTo := goodIn_r _ [6, 7, 8, 9, 15, 16, 17, 18, 19, 20, 21, 22, 23, 24, 25, 26, 27, 28] (by decide +kernel) (by decide +kernel)
set_option maxRecDepth 20000 in
theorem gX5_whoKnows_X5_knownTo : GoodIn wsX5_whoKnows (wsV RX5 69 RX5 yX5_knownTo wsX5_knownTo) := goodIn_app (goodIn_of _ (by decide +kernel)) ggX5_whoKnows_X5_knownTo
set_option maxRecDepth 20000 in
theorem ggX5_whoKnows_X6_has : GoodIn wsX5_whoKnows wsX6_has := goodIn_r _ [12] (by decide +kernel) (by decide +kernel)
set_option maxRecDepth 20000 in
theorem gX5_whoKnows_X6_has_n65 : GoodIn wsX5_whoKnows (wsX6_has) := ggX5_whoKnows_X6_has
set_option maxRecDepth 20000 in
theorem ggX5_whoKnows_X6_with : GoodIn wsX5_whoKnows wsX6_with := goodIn_r _ [14] (by decide +kernel) (by decide +kernel)
set_option maxRecDepth 20000 in
theorem gX5_whoKnows_X6_with_n61 : GoodIn wsX5_whoKnows (wsX6_with) := ggX5_whoKnows_X6_with
theorem dX5_whoKnows_0 : decode cX5_whoKnows 0 = .ok (.iconst 0, 1) := by decide +kernel
theorem dX5_whoKnows_1 : decode cX5_whoKnows 1 = .ok (.istore_n 2, 1) := by decide +kernel
theorem dX5_whoKnows_2 : decode cX5_whoKnows 2 = .ok (.iconst 0, 1) := by decide +kernel
theorem dX5_whoKnows_3 : decode cX5_whoKnows 3 = .ok (.istore_n 3, 1) := by decide +kernel
theorem dX5_whoKnows_4 : decode cX5_whoKnows 4 = .ok (.iload_n 3, 1) := by decide +kernel
theorem dX5_whoKnows_5 : decode cX5_whoKnows 5 = .ok (.aload_n 0, 1) := by decide +kernel
theorem dX5_whoKnows_6 : decode cX5_whoKnows 6 = .ok (.getfield 15, 3) := by decide +kernel
theorem dX5_whoKnows_9 : decode cX5_whoKnows 9 = .ok (.if_icmp .ge 24, 3) := by decide +kernel
theorem dX5_whoKnows_12 : decode cX5_whoKnows 12 = .ok (.iload_n 2, 1) := by decide +kernel
theorem dX5_whoKnows_13 : decode cX5_whoKnows 13 = .ok (.iload_n 3, 1) := by decide +kernel
theorem dX5_whoKnows_14 : decode cX5_whoKnows 14 = .ok (.aload_n 0, 1) := by decide +kernel
theorem dX5_whoKnows_15 : decode cX5_whoKnows 15 = .ok (.iload_n 3, 1) := by decide +kernel
theorem dX5_whoKnows_16 : decode cX5_whoKnows 16 = .ok (.invokevirtual 69, 3) := by decide +kernel
theorem dX5_whoKnows_19 : decode cX5_whoKnows 19 = .ok (.iload_n 1, 1) := by decide +kernel
theorem dX5_whoKnows_20 : decode cX5_whoKnows 20 = .ok (.invokestatic 65, 3) := by decide +kernel
theorem dX5_whoKnows_23 : decode cX5_whoKnows 23 = .ok (.invokestatic 61, 3) := by decide +kernel
theorem dX5_whoKnows_26 : decode cX5_whoKnows 26 = .ok (.istore_n 2, 1) := by decide +kernel
theorem dX5_whoKnows_27 : decode cX5_whoKnows 27 = .ok (.iinc 3 1, 3) := by decide +kernel
theorem dX5_whoKnows_30 : decode cX5_whoKnows 30 = .ok (.goto (-26), 3) := by decide +kernel
theorem dX5_whoKnows_33 : decode cX5_whoKnows 33 = .ok (.iload_n 2, 1) := by decide +kernel
theorem dX5_whoKnows_34 : decode cX5_whoKnows 34 = .ok (.ireturn, 1) := by decide +kernel
set_option maxRecDepth 20000 in
theorem ggX5_whoIsUnheard_X5_allPeople : GoodIn wsX5_whoIsUnheard wsX5_allPeople := goodIn_r _ [7, 1, 8, 9, 10, 11, 12, 13, 14, 15, 16, 17, 18, 19, 20, 21] (by decide +kernel) (by decide +kernel)
set_option maxRecDepth 20000 in
theorem gX5_whoIsUnheard_X5_allPeople : GoodIn wsX5_whoIsUnheard (wsV RX5 98 RX5 yX5_allPeople wsX5_allPeople) := goodIn_app (goodIn_of _ (by decide +kernel)) ggX5_whoIsUnheard_X5_allPeople
theorem dX5_whoIsUnheard_0 : decode cX5_whoIsUnheard 0 = .ok (.iconst 0, 1) := by decide +kernel
theorem dX5_whoIsUnheard_1 : decode cX5_whoIsUnheard 1 = .ok (.istore_n 1, 1) := by decide +kernel
theorem dX5_whoIsUnheard_2 : decode cX5_whoIsUnheard 2 = .ok (.iconst 0, 1) := by decide +kernel
theorem dX5_whoIsUnheard_3 : decode cX5_whoIsUnheard 3 = .ok (.istore_n 2, 1) := by decide +kernel
theorem dX5_whoIsUnheard_4 : decode cX5_whoIsUnheard 4 = .ok (.iload_n 2, 1) := by decide +kernel
theorem dX5_whoIsUnheard_5 : decode cX5_whoIsUnheard 5 = .ok (.aload_n 0, 1) := by decide +kernel
theorem dX5_whoIsUnheard_6 : decode cX5_whoIsUnheard 6 = .ok (.getfield 15, 3) := by decide +kernel
theorem dX5_whoIsUnheard_9 : decode cX5_whoIsUnheard 9 = .ok (.if_icmp .ge 18, 3) := by decide +kernel
theorem dX5_whoIsUnheard_12 : decode cX5_whoIsUnheard 12 = .ok (.iload_n 1, 1) := by decide +kernel
theorem dX5_whoIsUnheard_13 : decode cX5_whoIsUnheard 13 = .ok (.aload_n 0, 1) := by decide +kernel
theorem dX5_whoIsUnheard_14 : decode cX5_whoIsUnheard 14 = .ok (.getfield 43, 3) := by decide +kernel
theorem dX5_whoIsUnheard_17 : decode cX5_whoIsUnheard 17 = .ok (.iload_n 2, 1) := by decide +kernel
theorem dX5_whoIsUnheard_18 : decode cX5_whoIsUnheard 18 = .ok (.iaload, 1) := by decide +kernel
theorem dX5_whoIsUnheard_19 : decode cX5_whoIsUnheard 19 = .ok (.ior, 1) := by decide +kernel
theorem dX5_whoIsUnheard_20 : decode cX5_whoIsUnheard 20 = .ok (.istore_n 1, 1) := by decide +kernel
theorem dX5_whoIsUnheard_21 : decode cX5_whoIsUnheard 21 = .ok (.iinc 2 1, 3) := by decide +kernel
theorem dX5_whoIsUnheard_24 : decode cX5_whoIsUnheard 24 = .ok (.goto (-20), 3) := by decide +kernel
theorem dX5_whoIsUnheard_27 : decode cX5_whoIsUnheard 27 = .ok (.aload_n 0, 1) := by decide +kernel
theorem dX5_whoIsUnheard_28 : decode cX5_whoIsUnheard 28 = .ok (.invokevirtual 98, 3) := by decide +kernel
theorem dX5_whoIsUnheard_31 : decode cX5_whoIsUnheard 31 = .ok (.iload_n 1, 1) := by decide +kernel
theorem dX5_whoIsUnheard_32 : decode cX5_whoIsUnheard 32 = .ok (.iconst (-1), 1) := by decide +kernel
theorem dX5_whoIsUnheard_33 : decode cX5_whoIsUnheard 33 = .ok (.ixor, 1) := by decide +kernel
theorem dX5_whoIsUnheard_34 : decode cX5_whoIsUnheard 34 = .ok (.iand, 1) := by decide +kernel
theorem dX5_whoIsUnheard_35 : decode cX5_whoIsUnheard 35 = .ok (.ireturn, 1) := by decide +kernel
set_option maxRecDepth 20000 in
theorem ggX5_whoMaySayMost_X5_sayableBy : GoodIn wsX5_whoMaySayMost wsX5_sayableBy := goodIn_r _ [6, 7, 8, 9, 10, 11, 12, 5, 13, 14, 15, 16, 17, 18, 19, 20, 21, 22, 23, 24, 25, 1, 26, 27, 28, 29, 37, 38, 39, 40, 41, 42, 43, 44, 45, 46, 47, 48, 49, 50] (by decide +kernel) (by decide +kernel)
set_option maxRecDepth 20000 in
theorem gX5_whoMaySayMost_X5_sayableBy : GoodIn wsX5_whoMaySayMost (wsV RX5 84 RX5 yX5_sayableBy wsX5_sayableBy) := goodIn_app (goodIn_of _ (by decide +kernel)) ggX5_whoMaySayMost_X5_sayableBy
set_option maxRecDepth 20000 in
theorem ggX5_whoMaySayMost_J6_bitCount_0f7a4 : GoodIn wsX5_whoMaySayMost wsJ6_bitCount_0f7a4 := goodIn_r _ [33, 34, 35, 36] (by decide +kernel) (by decide +kernel)
set_option maxRecDepth 20000 in
theorem gX5_whoMaySayMost_J6_bitCount_0f7a4 : GoodIn wsX5_whoMaySayMost (va_wsS RX5 76 yJ6_bitCount_0f7a4 wsJ6_bitCount_0f7a4) := goodIn_app (goodIn_of _ (by decide +kernel)) ggX5_whoMaySayMost_J6_bitCount_0f7a4
theorem dX5_whoMaySayMost_0 : decode cX5_whoMaySayMost 0 = .ok (.iconst (-1), 1) := by decide +kernel
theorem dX5_whoMaySayMost_1 : decode cX5_whoMaySayMost 1 = .ok (.istore_n 1, 1) := by decide +kernel
theorem dX5_whoMaySayMost_2 : decode cX5_whoMaySayMost 2 = .ok (.iconst (-1), 1) := by decide +kernel
theorem dX5_whoMaySayMost_3 : decode cX5_whoMaySayMost 3 = .ok (.istore_n 2, 1) := by decide +kernel
theorem dX5_whoMaySayMost_4 : decode cX5_whoMaySayMost 4 = .ok (.iconst 0, 1) := by decide +kernel
theorem dX5_whoMaySayMost_5 : decode cX5_whoMaySayMost 5 = .ok (.istore_n 3, 1) := by decide +kernel
theorem dX5_whoMaySayMost_6 : decode cX5_whoMaySayMost 6 = .ok (.iload_n 3, 1) := by decide +kernel
theorem dX5_whoMaySayMost_7 : decode cX5_whoMaySayMost 7 = .ok (.aload_n 0, 1) := by decide +kernel
theorem dX5_whoMaySayMost_8 : decode cX5_whoMaySayMost 8 = .ok (.getfield 15, 3) := by decide +kernel
theorem dX5_whoMaySayMost_11 : decode cX5_whoMaySayMost 11 = .ok (.if_icmp .ge 30, 3) := by decide +kernel
theorem dX5_whoMaySayMost_14 : decode cX5_whoMaySayMost 14 = .ok (.aload_n 0, 1) := by decide +kernel
theorem dX5_whoMaySayMost_15 : decode cX5_whoMaySayMost 15 = .ok (.iload_n 3, 1) := by decide +kernel
theorem dX5_whoMaySayMost_16 : decode cX5_whoMaySayMost 16 = .ok (.invokevirtual 84, 3) := by decide +kernel
theorem dX5_whoMaySayMost_19 : decode cX5_whoMaySayMost 19 = .ok (.invokestatic 76, 3) := by decide +kernel
theorem dX5_whoMaySayMost_22 : decode cX5_whoMaySayMost 22 = .ok (.istore 4, 2) := by decide +kernel
theorem dX5_whoMaySayMost_24 : decode cX5_whoMaySayMost 24 = .ok (.iload 4, 2) := by decide +kernel
theorem dX5_whoMaySayMost_26 : decode cX5_whoMaySayMost 26 = .ok (.iload_n 2, 1) := by decide +kernel
theorem dX5_whoMaySayMost_27 : decode cX5_whoMaySayMost 27 = .ok (.if_icmp .le 8, 3) := by decide +kernel
theorem dX5_whoMaySayMost_30 : decode cX5_whoMaySayMost 30 = .ok (.iload 4, 2) := by decide +kernel
theorem dX5_whoMaySayMost_32 : decode cX5_whoMaySayMost 32 = .ok (.istore_n 2, 1) := by decide +kernel
theorem dX5_whoMaySayMost_33 : decode cX5_whoMaySayMost 33 = .ok (.iload_n 3, 1) := by decide +kernel
theorem dX5_whoMaySayMost_34 : decode cX5_whoMaySayMost 34 = .ok (.istore_n 1, 1) := by decide +kernel
theorem dX5_whoMaySayMost_35 : decode cX5_whoMaySayMost 35 = .ok (.iinc 3 1, 3) := by decide +kernel
theorem dX5_whoMaySayMost_38 : decode cX5_whoMaySayMost 38 = .ok (.goto (-32), 3) := by decide +kernel
theorem dX5_whoMaySayMost_41 : decode cX5_whoMaySayMost 41 = .ok (.iload_n 1, 1) := by decide +kernel
theorem dX5_whoMaySayMost_42 : decode cX5_whoMaySayMost 42 = .ok (.ireturn, 1) := by decide +kernel
set_option maxRecDepth 20000 in
theorem ggX5_pairsHearing_X6_has : GoodIn wsX5_pairsHearing wsX6_has := goodIn_r _ [5] (by decide +kernel) (by decide +kernel)
set_option maxRecDepth 20000 in
theorem gX5_pairsHearing_X6_has_n65 : GoodIn wsX5_pairsHearing (wsX6_has) := ggX5_pairsHearing_X6_has
theorem dX5_pairsHearing_0 : decode cX5_pairsHearing 0 = .ok (.iconst 0, 1) := by decide +kernel
theorem dX5_pairsHearing_1 : decode cX5_pairsHearing 1 = .ok (.istore_n 1, 1) := by decide +kernel
theorem dX5_pairsHearing_2 : decode cX5_pairsHearing 2 = .ok (.iconst 0, 1) := by decide +kernel
theorem dX5_pairsHearing_3 : decode cX5_pairsHearing 3 = .ok (.istore_n 2, 1) := by decide +kernel
theorem dX5_pairsHearing_4 : decode cX5_pairsHearing 4 = .ok (.iload_n 2, 1) := by decide +kernel
theorem dX5_pairsHearing_5 : decode cX5_pairsHearing 5 = .ok (.aload_n 0, 1) := by decide +kernel
theorem dX5_pairsHearing_6 : decode cX5_pairsHearing 6 = .ok (.getfield 15, 3) := by decide +kernel
theorem dX5_pairsHearing_9 : decode cX5_pairsHearing 9 = .ok (.if_icmp .ge 51, 3) := by decide +kernel
theorem dX5_pairsHearing_12 : decode cX5_pairsHearing 12 = .ok (.iconst 0, 1) := by decide +kernel
theorem dX5_pairsHearing_13 : decode cX5_pairsHearing 13 = .ok (.istore_n 3, 1) := by decide +kernel
theorem dX5_pairsHearing_14 : decode cX5_pairsHearing 14 = .ok (.iload_n 3, 1) := by decide +kernel
theorem dX5_pairsHearing_15 : decode cX5_pairsHearing 15 = .ok (.iload_n 2, 1) := by decide +kernel
theorem dX5_pairsHearing_16 : decode cX5_pairsHearing 16 = .ok (.if_icmp .ge 38, 3) := by decide +kernel
theorem dX5_pairsHearing_19 : decode cX5_pairsHearing 19 = .ok (.aload_n 0, 1) := by decide +kernel
theorem dX5_pairsHearing_20 : decode cX5_pairsHearing 20 = .ok (.getfield 43, 3) := by decide +kernel
theorem dX5_pairsHearing_23 : decode cX5_pairsHearing 23 = .ok (.iload_n 2, 1) := by decide +kernel
theorem dX5_pairsHearing_24 : decode cX5_pairsHearing 24 = .ok (.iaload, 1) := by decide +kernel
theorem dX5_pairsHearing_25 : decode cX5_pairsHearing 25 = .ok (.iload_n 3, 1) := by decide +kernel
theorem dX5_pairsHearing_26 : decode cX5_pairsHearing 26 = .ok (.invokestatic 65, 3) := by decide +kernel
theorem dX5_pairsHearing_29 : decode cX5_pairsHearing 29 = .ok (.ifCond .eq 19, 3) := by decide +kernel
theorem dX5_pairsHearing_32 : decode cX5_pairsHearing 32 = .ok (.aload_n 0, 1) := by decide +kernel
theorem dX5_pairsHearing_33 : decode cX5_pairsHearing 33 = .ok (.getfield 43, 3) := by decide +kernel
theorem dX5_pairsHearing_36 : decode cX5_pairsHearing 36 = .ok (.iload_n 3, 1) := by decide +kernel
theorem dX5_pairsHearing_37 : decode cX5_pairsHearing 37 = .ok (.iaload, 1) := by decide +kernel
theorem dX5_pairsHearing_38 : decode cX5_pairsHearing 38 = .ok (.iload_n 2, 1) := by decide +kernel
theorem dX5_pairsHearing_39 : decode cX5_pairsHearing 39 = .ok (.invokestatic 65, 3) := by decide +kernel
theorem dX5_pairsHearing_42 : decode cX5_pairsHearing 42 = .ok (.ifCond .eq 6, 3) := by decide +kernel
theorem dX5_pairsHearing_45 : decode cX5_pairsHearing 45 = .ok (.iinc 1 1, 3) := by decide +kernel
theorem dX5_pairsHearing_48 : decode cX5_pairsHearing 48 = .ok (.iinc 3 1, 3) := by decide +kernel
theorem dX5_pairsHearing_51 : decode cX5_pairsHearing 51 = .ok (.goto (-37), 3) := by decide +kernel
theorem dX5_pairsHearing_54 : decode cX5_pairsHearing 54 = .ok (.iinc 2 1, 3) := by decide +kernel
theorem dX5_pairsHearing_57 : decode cX5_pairsHearing 57 = .ok (.goto (-53), 3) := by decide +kernel
theorem dX5_pairsHearing_60 : decode cX5_pairsHearing 60 = .ok (.iload_n 1, 1) := by decide +kernel
theorem dX5_pairsHearing_61 : decode cX5_pairsHearing 61 = .ok (.ireturn, 1) := by decide +kernel
set_option maxRecDepth 20000 in
theorem ggX5_hearersOf_X6_with : GoodIn wsX5_hearersOf wsX6_with := goodIn_r _ [5] (by decide +kernel) (by decide +kernel)
