def wsX6_replayOf_r5 : List Cond := [Cond.methodLink RX6 258 yX6_tall, Cond.instanceMethod yX6_tall, Cond.selects RX6 yX6_tall yX6_tall, Cond.code yX6_tall cX6_tall 5 (some .int)]
def wsX6_replayOf : List Cond := .code yX6_replayOf cX6_replayOf 5 (some .int) :: ((wsX6_replayOf_r1 ++ (wsX6_replayOf_r2 ++ (wsX6_replayOf_r3 ++ (wsX6_replayOf_r4 ++ wsX6_replayOf_r5)))) ++ wsX60)
def wsX6_replay_r1 : List Cond := [Cond.constantLong RX6 101 (5), Cond.methodLink RX6 94 yX6_in, Cond.static yX6_in, Cond.initialized RX6, Cond.code yX6_in cX6_in 6 (some .boolean), Cond.methodLink RX6 122 yX6_isRatio, Cond.static yX6_isRatio, Cond.code yX6_isRatio cX6_isRatio 2 (some .boolean), Cond.methodLink RX6 236 yX6_lacks, Cond.instanceMethod yX6_lacks, Cond.selects RX6 yX6_lacks yX6_lacks, Cond.code yX6_lacks cX6_lacks 1 (some .boolean), Cond.fieldLink RX6 144 "CreditShelfModel" "ratioB" "I", Cond.methodLink RX6 276 yX6_replayOf, Cond.instanceMethod yX6_replayOf, Cond.selects RX6 yX6_replayOf yX6_replayOf, Cond.code yX6_replayOf cX6_replayOf 5 (some .int), Cond.fieldLink RX6 141 "CreditShelfModel" "thenA" "I", Cond.fieldLink RX6 147 "CreditShelfModel" "thenB" "I", Cond.fieldLink RX6 211 "CreditShelfModel" "logMany" "I", Cond.fieldLink RX6 46 "CreditShelfModel" "log" "[I", Cond.fieldLink RX6 37 "CreditShelfModel" "cost" "[I", Cond.methodLink RX6 214 yX6_empty, Cond.instanceMethod yX6_empty]
def wsX6_replay_r2 : List Cond := [Cond.selects RX6 yX6_empty yX6_empty, Cond.code yX6_empty cX6_empty 3 none, Cond.fieldLink RX6 22 "CreditShelfModel" "there" "[I", Cond.fieldLink RX6 25 "CreditShelfModel" "root" "[I", Cond.fieldLink RX6 28 "CreditShelfModel" "many" "[I", Cond.fieldLink RX6 31 "CreditShelfModel" "most" "[I", Cond.fieldLink RX6 34 "CreditShelfModel" "built" "[I", Cond.methodLink RX6 233 yX6_leave, Cond.instanceMethod yX6_leave, Cond.selects RX6 yX6_leave yX6_leave, Cond.code yX6_leave cX6_leave 3 none, Cond.fieldLink RX6 193 "CreditShelfModel" "fee" "I", Cond.fieldLink RX6 171 "CreditShelfModel" "builtNow" "I", Cond.methodLink RX6 154 yX6_depth, Cond.instanceMethod yX6_depth, Cond.selects RX6 yX6_depth yX6_depth, Cond.code yX6_depth cX6_depth 5 (some .int), Cond.fieldLink RX6 19 "CreditShelfModel" "above" "[I", Cond.methodLink RX6 181 yX6_pay, Cond.instanceMethod yX6_pay, Cond.selects RX6 yX6_pay yX6_pay, Cond.code yX6_pay cX6_pay 3 none, Cond.fieldLink RX6 184 "CreditShelfModel" "credit" "I", Cond.fieldLink RX6 187 "CreditShelfModel" "lowest" "I"]
def wsX6_replay_r3 : List Cond := [Cond.methodLink RX6 208 yX6_remove, Cond.instanceMethod yX6_remove, Cond.selects RX6 yX6_remove yX6_remove, Cond.code yX6_remove cX6_remove 4 none, Cond.fieldLink RX6 13 "CreditShelfModel" "left" "[I", Cond.fieldLink RX6 16 "CreditShelfModel" "right" "[I", Cond.methodLink RX6 205 yX6_unhang, Cond.instanceMethod yX6_unhang, Cond.selects RX6 yX6_unhang yX6_unhang, Cond.code yX6_unhang cX6_unhang 4 none, Cond.methodLink RX6 178 yX6_replace, Cond.instanceMethod yX6_replace, Cond.selects RX6 yX6_replace yX6_replace, Cond.code yX6_replace cX6_replace 5 none, Cond.methodLink RX6 164 yX6_hang, Cond.instanceMethod yX6_hang, Cond.selects RX6 yX6_hang yX6_hang, Cond.code yX6_hang cX6_hang 4 none, Cond.methodLink RX6 158 yX6_b, Cond.instanceMethod yX6_b, Cond.selects RX6 yX6_b yX6_b, Cond.code yX6_b cX6_b 2 (some .int), Cond.methodLink RX6 161 yX6_a, Cond.instanceMethod yX6_a]
def wsX6_replay_r4 : List Cond := [Cond.selects RX6 yX6_a yX6_a, Cond.code yX6_a cX6_a 2 (some .int), Cond.fieldLink RX6 138 "CreditShelfModel" "ratioA" "I", Cond.methodLink RX6 202 yX6_build, Cond.instanceMethod yX6_build, Cond.selects RX6 yX6_build yX6_build, Cond.code yX6_build cX6_build 11 none, Cond.fieldLink RX6 49 "CreditShelfModel" "row" "[I", Cond.fieldLink RX6 52 "CreditShelfModel" "spanLow" "[I", Cond.fieldLink RX6 55 "CreditShelfModel" "spanHigh" "[I", Cond.fieldLink RX6 58 "CreditShelfModel" "spanOn" "[I", Cond.methodLink RX6 168 yX6_size, Cond.instanceMethod yX6_size, Cond.selects RX6 yX6_size yX6_size, Cond.code yX6_size cX6_size 5 (some .int), Cond.methodLink RX6 150 yX6_isBelow, Cond.instanceMethod yX6_isBelow, Cond.selects RX6 yX6_isBelow yX6_isBelow, Cond.code yX6_isBelow cX6_isBelow 5 (some .boolean), Cond.methodLink RX6 174 yX6_layRow, Cond.instanceMethod yX6_layRow, Cond.selects RX6 yX6_layRow yX6_layRow, Cond.code yX6_layRow cX6_layRow 5 none, Cond.methodLink RX6 227 yX6_enter]
def wsX6_replay_r5 : List Cond := [Cond.instanceMethod yX6_enter, Cond.selects RX6 yX6_enter yX6_enter, Cond.code yX6_enter cX6_enter 5 none, Cond.methodLink RX6 190 yX6_insert, Cond.instanceMethod yX6_insert, Cond.selects RX6 yX6_insert yX6_insert, Cond.code yX6_insert cX6_insert 5 none, Cond.methodLink RX6 196 yX6_limit, Cond.instanceMethod yX6_limit, Cond.selects RX6 yX6_limit yX6_limit, Cond.code yX6_limit cX6_limit 8 (some .int), Cond.methodLink RX6 199 yX6_isLopsided, Cond.instanceMethod yX6_isLopsided, Cond.selects RX6 yX6_isLopsided yX6_isLopsided, Cond.code yX6_isLopsided cX6_isLopsided 4 (some .boolean), Cond.methodLink RX6 258 yX6_tall, Cond.instanceMethod yX6_tall, Cond.selects RX6 yX6_tall yX6_tall, Cond.code yX6_tall cX6_tall 5 (some .int)]
def wsX6_replay : List Cond := .code yX6_replay cX6_replay 4 (some .int) :: ((wsX6_replay_r1 ++ (wsX6_replay_r2 ++ (wsX6_replay_r3 ++ (wsX6_replay_r4 ++ wsX6_replay_r5)))) ++ wsX60)
def wsX6_aheadOf_r1 : List Cond := [Cond.fieldLink RX6 28 "CreditShelfModel" "many" "[I", Cond.fieldLink RX6 22 "CreditShelfModel" "there" "[I", Cond.fieldLink RX6 171 "CreditShelfModel" "builtNow" "I", Cond.methodLink RX6 267 yX6_begin, Cond.instanceMethod yX6_begin, Cond.selects RX6 yX6_begin yX6_begin, Cond.initialized RX6, Cond.code yX6_begin cX6_begin 2 none, Cond.fieldLink RX6 13 "CreditShelfModel" "left" "[I", Cond.fieldLink RX6 16 "CreditShelfModel" "right" "[I", Cond.fieldLink RX6 19 "CreditShelfModel" "above" "[I", Cond.fieldLink RX6 25 "CreditShelfModel" "root" "[I", Cond.fieldLink RX6 31 "CreditShelfModel" "most" "[I", Cond.fieldLink RX6 34 "CreditShelfModel" "built" "[I", Cond.fieldLink RX6 37 "CreditShelfModel" "cost" "[I", Cond.fieldLink RX6 138 "CreditShelfModel" "ratioA" "I", Cond.fieldLink RX6 141 "CreditShelfModel" "thenA" "I", Cond.fieldLink RX6 144 "CreditShelfModel" "ratioB" "I", Cond.fieldLink RX6 147 "CreditShelfModel" "thenB" "I", Cond.methodLink RX6 233 yX6_leave, Cond.instanceMethod yX6_leave, Cond.selects RX6 yX6_leave yX6_leave, Cond.code yX6_leave cX6_leave 3 none, Cond.fieldLink RX6 193 "CreditShelfModel" "fee" "I"]
def wsX6_aheadOf_r2 : List Cond := [Cond.methodLink RX6 154 yX6_depth, Cond.instanceMethod yX6_depth, Cond.selects RX6 yX6_depth yX6_depth, Cond.code yX6_depth cX6_depth 5 (some .int), Cond.methodLink RX6 181 yX6_pay, Cond.instanceMethod yX6_pay, Cond.selects RX6 yX6_pay yX6_pay, Cond.code yX6_pay cX6_pay 3 none, Cond.fieldLink RX6 184 "CreditShelfModel" "credit" "I", Cond.fieldLink RX6 187 "CreditShelfModel" "lowest" "I", Cond.methodLink RX6 208 yX6_remove, Cond.instanceMethod yX6_remove, Cond.selects RX6 yX6_remove yX6_remove, Cond.code yX6_remove cX6_remove 4 none, Cond.methodLink RX6 205 yX6_unhang, Cond.instanceMethod yX6_unhang, Cond.selects RX6 yX6_unhang yX6_unhang, Cond.code yX6_unhang cX6_unhang 4 none, Cond.methodLink RX6 178 yX6_replace, Cond.instanceMethod yX6_replace, Cond.selects RX6 yX6_replace yX6_replace, Cond.code yX6_replace cX6_replace 5 none, Cond.methodLink RX6 164 yX6_hang, Cond.instanceMethod yX6_hang]
def wsX6_aheadOf_r3 : List Cond := [Cond.selects RX6 yX6_hang yX6_hang, Cond.code yX6_hang cX6_hang 4 none, Cond.methodLink RX6 158 yX6_b, Cond.instanceMethod yX6_b, Cond.selects RX6 yX6_b yX6_b, Cond.code yX6_b cX6_b 2 (some .int), Cond.methodLink RX6 161 yX6_a, Cond.instanceMethod yX6_a, Cond.selects RX6 yX6_a yX6_a, Cond.code yX6_a cX6_a 2 (some .int), Cond.methodLink RX6 202 yX6_build, Cond.instanceMethod yX6_build, Cond.selects RX6 yX6_build yX6_build, Cond.code yX6_build cX6_build 11 none, Cond.fieldLink RX6 49 "CreditShelfModel" "row" "[I", Cond.fieldLink RX6 52 "CreditShelfModel" "spanLow" "[I", Cond.fieldLink RX6 55 "CreditShelfModel" "spanHigh" "[I", Cond.fieldLink RX6 58 "CreditShelfModel" "spanOn" "[I", Cond.methodLink RX6 168 yX6_size, Cond.instanceMethod yX6_size, Cond.selects RX6 yX6_size yX6_size, Cond.code yX6_size cX6_size 5 (some .int), Cond.methodLink RX6 150 yX6_isBelow, Cond.instanceMethod yX6_isBelow]
def wsX6_aheadOf_r4 : List Cond := [Cond.selects RX6 yX6_isBelow yX6_isBelow, Cond.code yX6_isBelow cX6_isBelow 5 (some .boolean), Cond.methodLink RX6 174 yX6_layRow, Cond.instanceMethod yX6_layRow, Cond.selects RX6 yX6_layRow yX6_layRow, Cond.code yX6_layRow cX6_layRow 5 none]
def wsX6_aheadOf : List Cond := .code yX6_aheadOf cX6_aheadOf 3 (some .int) :: ((wsX6_aheadOf_r1 ++ (wsX6_aheadOf_r2 ++ (wsX6_aheadOf_r3 ++ wsX6_aheadOf_r4))) ++ wsX60)
def wsX6_ahead_r1 : List Cond := [Cond.methodLink RX6 236 yX6_lacks, Cond.instanceMethod yX6_lacks, Cond.selects RX6 yX6_lacks yX6_lacks, Cond.initialized RX6, Cond.code yX6_lacks cX6_lacks 1 (some .boolean), Cond.fieldLink RX6 144 "CreditShelfModel" "ratioB" "I", Cond.methodLink RX6 280 yX6_aheadOf, Cond.instanceMethod yX6_aheadOf, Cond.selects RX6 yX6_aheadOf yX6_aheadOf, Cond.code yX6_aheadOf cX6_aheadOf 3 (some .int), Cond.fieldLink RX6 28 "CreditShelfModel" "many" "[I", Cond.fieldLink RX6 22 "CreditShelfModel" "there" "[I", Cond.fieldLink RX6 171 "CreditShelfModel" "builtNow" "I", Cond.methodLink RX6 267 yX6_begin, Cond.instanceMethod yX6_begin, Cond.selects RX6 yX6_begin yX6_begin, Cond.code yX6_begin cX6_begin 2 none, Cond.fieldLink RX6 13 "CreditShelfModel" "left" "[I", Cond.fieldLink RX6 16 "CreditShelfModel" "right" "[I", Cond.fieldLink RX6 19 "CreditShelfModel" "above" "[I", Cond.fieldLink RX6 25 "CreditShelfModel" "root" "[I", Cond.fieldLink RX6 31 "CreditShelfModel" "most" "[I", Cond.fieldLink RX6 34 "CreditShelfModel" "built" "[I", Cond.fieldLink RX6 37 "CreditShelfModel" "cost" "[I"]
def wsX6_ahead_r2 : List Cond := [Cond.fieldLink RX6 138 "CreditShelfModel" "ratioA" "I", Cond.fieldLink RX6 141 "CreditShelfModel" "thenA" "I", Cond.fieldLink RX6 147 "CreditShelfModel" "thenB" "I", Cond.methodLink RX6 233 yX6_leave, Cond.instanceMethod yX6_leave, Cond.selects RX6 yX6_leave yX6_leave, Cond.code yX6_leave cX6_leave 3 none, Cond.fieldLink RX6 193 "CreditShelfModel" "fee" "I", Cond.methodLink RX6 154 yX6_depth, Cond.instanceMethod yX6_depth, Cond.selects RX6 yX6_depth yX6_depth, Cond.code yX6_depth cX6_depth 5 (some .int), Cond.methodLink RX6 181 yX6_pay, Cond.instanceMethod yX6_pay, Cond.selects RX6 yX6_pay yX6_pay, Cond.code yX6_pay cX6_pay 3 none, Cond.fieldLink RX6 184 "CreditShelfModel" "credit" "I", Cond.fieldLink RX6 187 "CreditShelfModel" "lowest" "I", Cond.methodLink RX6 208 yX6_remove, Cond.instanceMethod yX6_remove, Cond.selects RX6 yX6_remove yX6_remove, Cond.code yX6_remove cX6_remove 4 none, Cond.methodLink RX6 205 yX6_unhang, Cond.instanceMethod yX6_unhang]
def wsX6_ahead_r3 : List Cond := [Cond.selects RX6 yX6_unhang yX6_unhang, Cond.code yX6_unhang cX6_unhang 4 none, Cond.methodLink RX6 178 yX6_replace, Cond.instanceMethod yX6_replace, Cond.selects RX6 yX6_replace yX6_replace, Cond.code yX6_replace cX6_replace 5 none, Cond.methodLink RX6 164 yX6_hang, Cond.instanceMethod yX6_hang, Cond.selects RX6 yX6_hang yX6_hang, Cond.code yX6_hang cX6_hang 4 none, Cond.methodLink RX6 158 yX6_b, Cond.instanceMethod yX6_b, Cond.selects RX6 yX6_b yX6_b, Cond.code yX6_b cX6_b 2 (some .int), Cond.methodLink RX6 161 yX6_a, Cond.instanceMethod yX6_a, Cond.selects RX6 yX6_a yX6_a, Cond.code yX6_a cX6_a 2 (some .int), Cond.methodLink RX6 202 yX6_build, Cond.instanceMethod yX6_build, Cond.selects RX6 yX6_build yX6_build, Cond.code yX6_build cX6_build 11 none, Cond.fieldLink RX6 49 "CreditShelfModel" "row" "[I", Cond.fieldLink RX6 52 "CreditShelfModel" "spanLow" "[I"]
def wsX6_ahead_r4 : List Cond := [Cond.fieldLink RX6 55 "CreditShelfModel" "spanHigh" "[I", Cond.fieldLink RX6 58 "CreditShelfModel" "spanOn" "[I", Cond.methodLink RX6 168 yX6_size, Cond.instanceMethod yX6_size, Cond.selects RX6 yX6_size yX6_size, Cond.code yX6_size cX6_size 5 (some .int), Cond.methodLink RX6 150 yX6_isBelow, Cond.instanceMethod yX6_isBelow, Cond.selects RX6 yX6_isBelow yX6_isBelow, Cond.code yX6_isBelow cX6_isBelow 5 (some .boolean), Cond.methodLink RX6 174 yX6_layRow, Cond.instanceMethod yX6_layRow, Cond.selects RX6 yX6_layRow yX6_layRow, Cond.code yX6_layRow cX6_layRow 5 none]
def wsX6_ahead : List Cond := .code yX6_ahead cX6_ahead 1 (some .int) :: ((wsX6_ahead_r1 ++ (wsX6_ahead_r2 ++ (wsX6_ahead_r3 ++ wsX6_ahead_r4))) ++ wsX60)
def wsX6_see : List Cond := .code yX6_see cX6_see 4 (some .int) :: ([.constantLong RX6 240 (99), .constantLong RX6 283 (3), .fieldLink RX6 218 "CreditShelfModel" "seenMany" "I", .fieldLink RX6 61 "CreditShelfModel" "sights" "[I", .methodLink RX6 94 yX6_in, .static yX6_in, .initialized RX6, .code yX6_in cX6_in 6 (some .boolean), .methodLink RX6 236 yX6_lacks, .instanceMethod yX6_lacks, .selects RX6 yX6_lacks yX6_lacks, .code yX6_lacks cX6_lacks 1 (some .boolean), .fieldLink RX6 144 "CreditShelfModel" "ratioB" "I"] ++ wsX60)
def wsX6_forget : List Cond := .code yX6_forget cX6_forget 2 (some .int) :: ([.fieldLink RX6 218 "CreditShelfModel" "seenMany" "I"] ++ wsX60)
def wsX6_sortsBy : List Cond := .code yX6_sortsBy cX6_sortsBy 1 (some .int) :: ([])
def wsX6_sortsOf : List Cond := .code yX6_sortsOf cX6_sortsOf 5 (some .int) :: ([.fieldLink RX6 218 "CreditShelfModel" "seenMany" "I", .fieldLink RX6 61 "CreditShelfModel" "sights" "[I", .methodLink RX6 285 yX6_sortsBy, .static yX6_sortsBy, .initialized RX6, .code yX6_sortsBy cX6_sortsBy 1 (some .int)] ++ wsX60)
def wsX6_ones : List Cond := .code yX6_ones cX6_ones 3 (some .int) :: ([])
def wsX6_askOf : List Cond := .code yX6_askOf cX6_askOf 9 (some .int) :: ([.methodLink RX6 288 yX6_sortsOf, .instanceMethod yX6_sortsOf, .selects RX6 yX6_sortsOf yX6_sortsOf, .initialized RX6, .code yX6_sortsOf cX6_sortsOf 5 (some .int), .fieldLink RX6 218 "CreditShelfModel" "seenMany" "I", .fieldLink RX6 61 "CreditShelfModel" "sights" "[I", .methodLink RX6 285 yX6_sortsBy, .static yX6_sortsBy, .code yX6_sortsBy cX6_sortsBy 1 (some .int), .methodLink RX6 291 yX6_ones, .static yX6_ones, .code yX6_ones cX6_ones 3 (some .int)] ++ wsX60)
def wsX6_sorts : List Cond := .code yX6_sorts cX6_sorts 3 (some .int) :: ([.constantLong RX6 240 (99), .methodLink RX6 94 yX6_in, .static yX6_in, .initialized RX6, .code yX6_in cX6_in 6 (some .boolean), .methodLink RX6 288 yX6_sortsOf, .instanceMethod yX6_sortsOf, .selects RX6 yX6_sortsOf yX6_sortsOf, .code yX6_sortsOf cX6_sortsOf 5 (some .int), .fieldLink RX6 218 "CreditShelfModel" "seenMany" "I", .fieldLink RX6 61 "CreditShelfModel" "sights" "[I", .methodLink RX6 285 yX6_sortsBy, .static yX6_sortsBy, .code yX6_sortsBy cX6_sortsBy 1 (some .int), .methodLink RX6 294 yX6_askOf, .instanceMethod yX6_askOf, .selects RX6 yX6_askOf yX6_askOf, .code yX6_askOf cX6_askOf 9 (some .int), .methodLink RX6 291 yX6_ones, .static yX6_ones, .code yX6_ones cX6_ones 3 (some .int)] ++ wsX60)
def wsX6_draw : List Cond := .code yX6_draw cX6_draw 2 (some .int) :: ([.constantLong RX6 297 (1103515245), .fieldLink RX6 299 "CreditShelfModel" "seedNow" "I", .constantLong RX6 302 (12345), .constantLong RX6 304 (2147483647), .constant RX6 306 (65536)] ++ wsX60)
def wsX6_drawn_r1 : List Cond := [Cond.constantLong RX6 307 (60), Cond.constantLong RX6 309 (2), Cond.fieldLink RX6 299 "CreditShelfModel" "seedNow" "I", Cond.fieldLink RX6 22 "CreditShelfModel" "there" "[I", Cond.fieldLink RX6 28 "CreditShelfModel" "many" "[I", Cond.fieldLink RX6 37 "CreditShelfModel" "cost" "[I", Cond.methodLink RX6 94 yX6_in, Cond.static yX6_in, Cond.initialized RX6, Cond.code yX6_in cX6_in 6 (some .boolean), Cond.methodLink RX6 236 yX6_lacks, Cond.instanceMethod yX6_lacks, Cond.selects RX6 yX6_lacks yX6_lacks, Cond.code yX6_lacks cX6_lacks 1 (some .boolean), Cond.fieldLink RX6 144 "CreditShelfModel" "ratioB" "I", Cond.methodLink RX6 267 yX6_begin, Cond.instanceMethod yX6_begin, Cond.selects RX6 yX6_begin yX6_begin, Cond.code yX6_begin cX6_begin 2 none, Cond.fieldLink RX6 13 "CreditShelfModel" "left" "[I", Cond.fieldLink RX6 16 "CreditShelfModel" "right" "[I", Cond.fieldLink RX6 19 "CreditShelfModel" "above" "[I", Cond.fieldLink RX6 25 "CreditShelfModel" "root" "[I", Cond.fieldLink RX6 31 "CreditShelfModel" "most" "[I"]
def wsX6_drawn_r2 : List Cond := [Cond.fieldLink RX6 34 "CreditShelfModel" "built" "[I", Cond.fieldLink RX6 138 "CreditShelfModel" "ratioA" "I", Cond.fieldLink RX6 141 "CreditShelfModel" "thenA" "I", Cond.fieldLink RX6 147 "CreditShelfModel" "thenB" "I", Cond.methodLink RX6 311 yX6_draw, Cond.instanceMethod yX6_draw, Cond.selects RX6 yX6_draw yX6_draw, Cond.code yX6_draw cX6_draw 2 (some .int), Cond.constantLong RX6 297 (1103515245), Cond.constantLong RX6 302 (12345), Cond.constantLong RX6 304 (2147483647), Cond.constant RX6 306 (65536), Cond.methodLink RX6 233 yX6_leave, Cond.instanceMethod yX6_leave, Cond.selects RX6 yX6_leave yX6_leave, Cond.code yX6_leave cX6_leave 3 none, Cond.fieldLink RX6 193 "CreditShelfModel" "fee" "I", Cond.fieldLink RX6 171 "CreditShelfModel" "builtNow" "I", Cond.methodLink RX6 154 yX6_depth, Cond.instanceMethod yX6_depth, Cond.selects RX6 yX6_depth yX6_depth, Cond.code yX6_depth cX6_depth 5 (some .int), Cond.methodLink RX6 181 yX6_pay, Cond.instanceMethod yX6_pay]
def wsX6_drawn_r3 : List Cond := [Cond.selects RX6 yX6_pay yX6_pay, Cond.code yX6_pay cX6_pay 3 none, Cond.fieldLink RX6 184 "CreditShelfModel" "credit" "I", Cond.fieldLink RX6 187 "CreditShelfModel" "lowest" "I", Cond.methodLink RX6 208 yX6_remove, Cond.instanceMethod yX6_remove, Cond.selects RX6 yX6_remove yX6_remove, Cond.code yX6_remove cX6_remove 4 none, Cond.methodLink RX6 205 yX6_unhang, Cond.instanceMethod yX6_unhang, Cond.selects RX6 yX6_unhang yX6_unhang, Cond.code yX6_unhang cX6_unhang 4 none, Cond.methodLink RX6 178 yX6_replace, Cond.instanceMethod yX6_replace, Cond.selects RX6 yX6_replace yX6_replace, Cond.code yX6_replace cX6_replace 5 none, Cond.methodLink RX6 164 yX6_hang, Cond.instanceMethod yX6_hang, Cond.selects RX6 yX6_hang yX6_hang, Cond.code yX6_hang cX6_hang 4 none, Cond.methodLink RX6 158 yX6_b, Cond.instanceMethod yX6_b, Cond.selects RX6 yX6_b yX6_b, Cond.code yX6_b cX6_b 2 (some .int)]
def wsX6_drawn_r4 : List Cond := [Cond.methodLink RX6 161 yX6_a, Cond.instanceMethod yX6_a, Cond.selects RX6 yX6_a yX6_a, Cond.code yX6_a cX6_a 2 (some .int), Cond.methodLink RX6 202 yX6_build, Cond.instanceMethod yX6_build, Cond.selects RX6 yX6_build yX6_build, Cond.code yX6_build cX6_build 11 none, Cond.fieldLink RX6 49 "CreditShelfModel" "row" "[I", Cond.fieldLink RX6 52 "CreditShelfModel" "spanLow" "[I", Cond.fieldLink RX6 55 "CreditShelfModel" "spanHigh" "[I", Cond.fieldLink RX6 58 "CreditShelfModel" "spanOn" "[I", Cond.methodLink RX6 168 yX6_size, Cond.instanceMethod yX6_size, Cond.selects RX6 yX6_size yX6_size, Cond.code yX6_size cX6_size 5 (some .int), Cond.methodLink RX6 150 yX6_isBelow, Cond.instanceMethod yX6_isBelow, Cond.selects RX6 yX6_isBelow yX6_isBelow, Cond.code yX6_isBelow cX6_isBelow 5 (some .boolean), Cond.methodLink RX6 174 yX6_layRow, Cond.instanceMethod yX6_layRow, Cond.selects RX6 yX6_layRow yX6_layRow, Cond.code yX6_layRow cX6_layRow 5 none]
def wsX6_drawn_r5 : List Cond := [Cond.methodLink RX6 227 yX6_enter, Cond.instanceMethod yX6_enter, Cond.selects RX6 yX6_enter yX6_enter, Cond.code yX6_enter cX6_enter 5 none, Cond.methodLink RX6 190 yX6_insert, Cond.instanceMethod yX6_insert, Cond.selects RX6 yX6_insert yX6_insert, Cond.code yX6_insert cX6_insert 5 none, Cond.methodLink RX6 196 yX6_limit, Cond.instanceMethod yX6_limit, Cond.selects RX6 yX6_limit yX6_limit, Cond.code yX6_limit cX6_limit 8 (some .int), Cond.methodLink RX6 199 yX6_isLopsided, Cond.instanceMethod yX6_isLopsided, Cond.selects RX6 yX6_isLopsided yX6_isLopsided, Cond.code yX6_isLopsided cX6_isLopsided 4 (some .boolean), Cond.methodLink RX6 258 yX6_tall, Cond.instanceMethod yX6_tall, Cond.selects RX6 yX6_tall yX6_tall, Cond.code yX6_tall cX6_tall 5 (some .int)]
def wsX6_drawn : List Cond := .code yX6_drawn cX6_drawn 6 (some .int) :: ((wsX6_drawn_r1 ++ (wsX6_drawn_r2 ++ (wsX6_drawn_r3 ++ (wsX6_drawn_r4 ++ wsX6_drawn_r5)))) ++ wsX60)
def wsX6_image_r1 : List Cond := [Cond.fieldLink RX6 13 "CreditShelfModel" "left" "[I", Cond.fieldLink RX6 64 "CreditShelfModel" "keptLeft" "[I", Cond.fieldLink RX6 16 "CreditShelfModel" "right" "[I", Cond.fieldLink RX6 67 "CreditShelfModel" "keptRight" "[I", Cond.fieldLink RX6 19 "CreditShelfModel" "above" "[I", Cond.fieldLink RX6 70 "CreditShelfModel" "keptAbove" "[I", Cond.fieldLink RX6 22 "CreditShelfModel" "there" "[I", Cond.fieldLink RX6 73 "CreditShelfModel" "keptThere" "[I", Cond.fieldLink RX6 40 "CreditShelfModel" "kinds" "[I", Cond.fieldLink RX6 76 "CreditShelfModel" "keptKinds" "[I", Cond.fieldLink RX6 43 "CreditShelfModel" "values" "[I", Cond.fieldLink RX6 79 "CreditShelfModel" "keptValues" "[I", Cond.fieldLink RX6 46 "CreditShelfModel" "log" "[I", Cond.fieldLink RX6 82 "CreditShelfModel" "keptLog" "[I", Cond.fieldLink RX6 61 "CreditShelfModel" "sights" "[I", Cond.fieldLink RX6 85 "CreditShelfModel" "keptSights" "[I", Cond.fieldLink RX6 25 "CreditShelfModel" "root" "[I", Cond.fieldLink RX6 318 "CreditShelfModel" "keptRoot" "I", Cond.fieldLink RX6 28 "CreditShelfModel" "many" "[I", Cond.fieldLink RX6 321 "CreditShelfModel" "keptMany" "I", Cond.fieldLink RX6 31 "CreditShelfModel" "most" "[I", Cond.fieldLink RX6 324 "CreditShelfModel" "keptMost" "I", Cond.fieldLink RX6 34 "CreditShelfModel" "built" "[I", Cond.fieldLink RX6 327 "CreditShelfModel" "keptBuilt" "I"]
def wsX6_image_r2 : List Cond := [Cond.fieldLink RX6 37 "CreditShelfModel" "cost" "[I", Cond.fieldLink RX6 330 "CreditShelfModel" "keptCost" "I", Cond.fieldLink RX6 184 "CreditShelfModel" "credit" "I", Cond.fieldLink RX6 333 "CreditShelfModel" "keptCredit" "I", Cond.fieldLink RX6 187 "CreditShelfModel" "lowest" "I", Cond.fieldLink RX6 336 "CreditShelfModel" "keptLowest" "I", Cond.fieldLink RX6 211 "CreditShelfModel" "logMany" "I", Cond.fieldLink RX6 339 "CreditShelfModel" "keptLogMany" "I", Cond.fieldLink RX6 218 "CreditShelfModel" "seenMany" "I", Cond.fieldLink RX6 342 "CreditShelfModel" "keptSeen" "I", Cond.fieldLink RX6 224 "CreditShelfModel" "shelvesRead" "I", Cond.fieldLink RX6 88 "CreditShelfModel" "keptShelf" "I", Cond.methodLink RX6 236 yX6_lacks, Cond.instanceMethod yX6_lacks, Cond.selects RX6 yX6_lacks yX6_lacks, Cond.initialized RX6, Cond.code yX6_lacks cX6_lacks 1 (some .boolean), Cond.fieldLink RX6 144 "CreditShelfModel" "ratioB" "I", Cond.methodLink RX6 314 yX6_copy, Cond.static yX6_copy, Cond.code yX6_copy cX6_copy 3 none]
def wsX6_image : List Cond := .code yX6_image cX6_image 1 (some .int) :: ((wsX6_image_r1 ++ wsX6_image_r2) ++ wsX60)
def wsX6_restore_r1 : List Cond := [Cond.fieldLink RX6 88 "CreditShelfModel" "keptShelf" "I", Cond.fieldLink RX6 224 "CreditShelfModel" "shelvesRead" "I", Cond.fieldLink RX6 64 "CreditShelfModel" "keptLeft" "[I", Cond.fieldLink RX6 13 "CreditShelfModel" "left" "[I", Cond.fieldLink RX6 67 "CreditShelfModel" "keptRight" "[I", Cond.fieldLink RX6 16 "CreditShelfModel" "right" "[I", Cond.fieldLink RX6 70 "CreditShelfModel" "keptAbove" "[I", Cond.fieldLink RX6 19 "CreditShelfModel" "above" "[I", Cond.fieldLink RX6 73 "CreditShelfModel" "keptThere" "[I", Cond.fieldLink RX6 22 "CreditShelfModel" "there" "[I", Cond.fieldLink RX6 76 "CreditShelfModel" "keptKinds" "[I", Cond.fieldLink RX6 40 "CreditShelfModel" "kinds" "[I", Cond.fieldLink RX6 79 "CreditShelfModel" "keptValues" "[I", Cond.fieldLink RX6 43 "CreditShelfModel" "values" "[I", Cond.fieldLink RX6 82 "CreditShelfModel" "keptLog" "[I", Cond.fieldLink RX6 46 "CreditShelfModel" "log" "[I", Cond.fieldLink RX6 85 "CreditShelfModel" "keptSights" "[I", Cond.fieldLink RX6 61 "CreditShelfModel" "sights" "[I", Cond.fieldLink RX6 25 "CreditShelfModel" "root" "[I", Cond.fieldLink RX6 318 "CreditShelfModel" "keptRoot" "I", Cond.fieldLink RX6 28 "CreditShelfModel" "many" "[I", Cond.fieldLink RX6 321 "CreditShelfModel" "keptMany" "I", Cond.fieldLink RX6 31 "CreditShelfModel" "most" "[I", Cond.fieldLink RX6 324 "CreditShelfModel" "keptMost" "I"]
def wsX6_restore_r2 : List Cond := [Cond.fieldLink RX6 34 "CreditShelfModel" "built" "[I", Cond.fieldLink RX6 327 "CreditShelfModel" "keptBuilt" "I", Cond.fieldLink RX6 37 "CreditShelfModel" "cost" "[I", Cond.fieldLink RX6 330 "CreditShelfModel" "keptCost" "I", Cond.fieldLink RX6 333 "CreditShelfModel" "keptCredit" "I", Cond.fieldLink RX6 184 "CreditShelfModel" "credit" "I", Cond.fieldLink RX6 336 "CreditShelfModel" "keptLowest" "I", Cond.fieldLink RX6 187 "CreditShelfModel" "lowest" "I", Cond.fieldLink RX6 339 "CreditShelfModel" "keptLogMany" "I", Cond.fieldLink RX6 211 "CreditShelfModel" "logMany" "I", Cond.fieldLink RX6 342 "CreditShelfModel" "keptSeen" "I", Cond.fieldLink RX6 218 "CreditShelfModel" "seenMany" "I", Cond.methodLink RX6 314 yX6_copy, Cond.static yX6_copy, Cond.initialized RX6, Cond.code yX6_copy cX6_copy 3 none]
def wsX6_restore : List Cond := .code yX6_restore cX6_restore 1 (some .int) :: ((wsX6_restore_r1 ++ wsX6_restore_r2) ++ wsX60)
def wsX6_countOf : List Cond := .code yX6_countOf cX6_countOf 2 (some .int) :: ([.fieldLink RX6 28 "CreditShelfModel" "many" "[I", .fieldLink RX6 138 "CreditShelfModel" "ratioA" "I", .fieldLink RX6 144 "CreditShelfModel" "ratioB" "I", .fieldLink RX6 193 "CreditShelfModel" "fee" "I", .fieldLink RX6 211 "CreditShelfModel" "logMany" "I", .fieldLink RX6 218 "CreditShelfModel" "seenMany" "I", .fieldLink RX6 98 "CreditShelfModel" "pageMany" "I", .fieldLink RX6 224 "CreditShelfModel" "shelvesRead" "I"] ++ wsX60)
def wsX6_count : List Cond := .code yX6_count cX6_count 2 (some .int) :: ([.methodLink RX6 345 yX6_countOf, .instanceMethod yX6_countOf, .selects RX6 yX6_countOf yX6_countOf, .initialized RX6, .code yX6_countOf cX6_countOf 2 (some .int), .fieldLink RX6 28 "CreditShelfModel" "many" "[I", .fieldLink RX6 138 "CreditShelfModel" "ratioA" "I", .fieldLink RX6 144 "CreditShelfModel" "ratioB" "I", .fieldLink RX6 193 "CreditShelfModel" "fee" "I", .fieldLink RX6 211 "CreditShelfModel" "logMany" "I", .fieldLink RX6 218 "CreditShelfModel" "seenMany" "I", .fieldLink RX6 98 "CreditShelfModel" "pageMany" "I", .fieldLink RX6 224 "CreditShelfModel" "shelvesRead" "I"] ++ wsX60)
def wsX6_say : List Cond := .code yX6_say cX6_say 3 none :: ([.constantLong RX6 348 (31), .fieldLink RX6 350 "CreditShelfModel" "hash" "J"] ++ wsX60)
def wsX6_sayShelf_r1 : List Cond := [Cond.fieldLink RX6 28 "CreditShelfModel" "many" "[I", Cond.constantLong RX6 358 (-1), Cond.methodLink RX6 264 yX6_ledgerOf, Cond.instanceMethod yX6_ledgerOf, Cond.selects RX6 yX6_ledgerOf yX6_ledgerOf, Cond.initialized RX6, Cond.code yX6_ledgerOf cX6_ledgerOf 2 (some .int), Cond.fieldLink RX6 31 "CreditShelfModel" "most" "[I", Cond.constant RX6 261 (100000), Cond.fieldLink RX6 184 "CreditShelfModel" "credit" "I", Cond.fieldLink RX6 187 "CreditShelfModel" "lowest" "I", Cond.fieldLink RX6 34 "CreditShelfModel" "built" "[I", Cond.fieldLink RX6 37 "CreditShelfModel" "cost" "[I", Cond.methodLink RX6 258 yX6_tall, Cond.instanceMethod yX6_tall, Cond.selects RX6 yX6_tall yX6_tall, Cond.code yX6_tall cX6_tall 5 (some .int), Cond.fieldLink RX6 22 "CreditShelfModel" "there" "[I", Cond.methodLink RX6 154 yX6_depth, Cond.instanceMethod yX6_depth, Cond.selects RX6 yX6_depth yX6_depth, Cond.code yX6_depth cX6_depth 5 (some .int), Cond.fieldLink RX6 19 "CreditShelfModel" "above" "[I", Cond.methodLink RX6 196 yX6_limit]
def wsX6_sayShelf_r2 : List Cond := [Cond.instanceMethod yX6_limit, Cond.selects RX6 yX6_limit yX6_limit, Cond.code yX6_limit cX6_limit 8 (some .int), Cond.methodLink RX6 158 yX6_b, Cond.instanceMethod yX6_b, Cond.selects RX6 yX6_b yX6_b, Cond.code yX6_b cX6_b 2 (some .int), Cond.fieldLink RX6 144 "CreditShelfModel" "ratioB" "I", Cond.fieldLink RX6 147 "CreditShelfModel" "thenB" "I", Cond.methodLink RX6 161 yX6_a, Cond.instanceMethod yX6_a, Cond.selects RX6 yX6_a yX6_a, Cond.code yX6_a cX6_a 2 (some .int), Cond.fieldLink RX6 138 "CreditShelfModel" "ratioA" "I", Cond.fieldLink RX6 141 "CreditShelfModel" "thenA" "I", Cond.methodLink RX6 354 yX6_say, Cond.instanceMethod yX6_say, Cond.selects RX6 yX6_say yX6_say, Cond.code yX6_say cX6_say 3 none, Cond.constantLong RX6 348 (31), Cond.fieldLink RX6 350 "CreditShelfModel" "hash" "J", Cond.methodLink RX6 270 yX6_wouldOf, Cond.instanceMethod yX6_wouldOf, Cond.selects RX6 yX6_wouldOf yX6_wouldOf]
def wsX6_sayShelf_r3 : List Cond := [Cond.code yX6_wouldOf cX6_wouldOf 2 (some .int), Cond.fieldLink RX6 171 "CreditShelfModel" "builtNow" "I", Cond.methodLink RX6 267 yX6_begin, Cond.instanceMethod yX6_begin, Cond.selects RX6 yX6_begin yX6_begin, Cond.code yX6_begin cX6_begin 2 none, Cond.fieldLink RX6 13 "CreditShelfModel" "left" "[I", Cond.fieldLink RX6 16 "CreditShelfModel" "right" "[I", Cond.fieldLink RX6 25 "CreditShelfModel" "root" "[I", Cond.methodLink RX6 227 yX6_enter, Cond.instanceMethod yX6_enter, Cond.selects RX6 yX6_enter yX6_enter, Cond.code yX6_enter cX6_enter 5 none, Cond.fieldLink RX6 193 "CreditShelfModel" "fee" "I", Cond.methodLink RX6 190 yX6_insert, Cond.instanceMethod yX6_insert, Cond.selects RX6 yX6_insert yX6_insert, Cond.code yX6_insert cX6_insert 5 none, Cond.methodLink RX6 164 yX6_hang, Cond.instanceMethod yX6_hang, Cond.selects RX6 yX6_hang yX6_hang, Cond.code yX6_hang cX6_hang 4 none, Cond.methodLink RX6 181 yX6_pay, Cond.instanceMethod yX6_pay]
def wsX6_sayShelf_r4 : List Cond := [Cond.selects RX6 yX6_pay yX6_pay, Cond.code yX6_pay cX6_pay 3 none, Cond.methodLink RX6 199 yX6_isLopsided, Cond.instanceMethod yX6_isLopsided, Cond.selects RX6 yX6_isLopsided yX6_isLopsided, Cond.code yX6_isLopsided cX6_isLopsided 4 (some .boolean), Cond.methodLink RX6 168 yX6_size, Cond.instanceMethod yX6_size, Cond.selects RX6 yX6_size yX6_size, Cond.code yX6_size cX6_size 5 (some .int), Cond.methodLink RX6 150 yX6_isBelow, Cond.instanceMethod yX6_isBelow, Cond.selects RX6 yX6_isBelow yX6_isBelow, Cond.code yX6_isBelow cX6_isBelow 5 (some .boolean), Cond.methodLink RX6 202 yX6_build, Cond.instanceMethod yX6_build, Cond.selects RX6 yX6_build yX6_build, Cond.code yX6_build cX6_build 11 none, Cond.fieldLink RX6 49 "CreditShelfModel" "row" "[I", Cond.fieldLink RX6 52 "CreditShelfModel" "spanLow" "[I", Cond.fieldLink RX6 55 "CreditShelfModel" "spanHigh" "[I", Cond.fieldLink RX6 58 "CreditShelfModel" "spanOn" "[I", Cond.methodLink RX6 174 yX6_layRow, Cond.instanceMethod yX6_layRow]
def wsX6_sayShelf_r5 : List Cond := [Cond.selects RX6 yX6_layRow yX6_layRow, Cond.code yX6_layRow cX6_layRow 5 none, Cond.methodLink RX6 178 yX6_replace, Cond.instanceMethod yX6_replace, Cond.selects RX6 yX6_replace yX6_replace, Cond.code yX6_replace cX6_replace 5 none, Cond.methodLink RX6 280 yX6_aheadOf, Cond.instanceMethod yX6_aheadOf, Cond.selects RX6 yX6_aheadOf yX6_aheadOf, Cond.code yX6_aheadOf cX6_aheadOf 3 (some .int), Cond.methodLink RX6 233 yX6_leave, Cond.instanceMethod yX6_leave, Cond.selects RX6 yX6_leave yX6_leave, Cond.code yX6_leave cX6_leave 3 none, Cond.methodLink RX6 208 yX6_remove, Cond.instanceMethod yX6_remove, Cond.selects RX6 yX6_remove yX6_remove, Cond.code yX6_remove cX6_remove 4 none, Cond.methodLink RX6 205 yX6_unhang, Cond.instanceMethod yX6_unhang, Cond.selects RX6 yX6_unhang yX6_unhang, Cond.code yX6_unhang cX6_unhang 4 none, Cond.methodLink RX6 276 yX6_replayOf, Cond.instanceMethod yX6_replayOf]
def wsX6_sayShelf_r6 : List Cond := [Cond.selects RX6 yX6_replayOf yX6_replayOf, Cond.code yX6_replayOf cX6_replayOf 5 (some .int), Cond.fieldLink RX6 211 "CreditShelfModel" "logMany" "I", Cond.fieldLink RX6 46 "CreditShelfModel" "log" "[I", Cond.methodLink RX6 214 yX6_empty, Cond.instanceMethod yX6_empty, Cond.selects RX6 yX6_empty yX6_empty, Cond.code yX6_empty cX6_empty 3 none]
def wsX6_sayShelf : List Cond := .code yX6_sayShelf cX6_sayShelf 2 none :: ((wsX6_sayShelf_r1 ++ (wsX6_sayShelf_r2 ++ (wsX6_sayShelf_r3 ++ (wsX6_sayShelf_r4 ++ (wsX6_sayShelf_r5 ++ wsX6_sayShelf_r6))))) ++ wsX60)
def wsX6_digest_r1 : List Cond := [Cond.constantLong RX6 360 (1373), Cond.fieldLink RX6 350 "CreditShelfModel" "hash" "J", Cond.fieldLink RX6 22 "CreditShelfModel" "there" "[I", Cond.fieldLink RX6 98 "CreditShelfModel" "pageMany" "I", Cond.fieldLink RX6 7 "CreditShelfModel" "page" "[I", Cond.methodLink RX6 354 yX6_say, Cond.instanceMethod yX6_say, Cond.selects RX6 yX6_say yX6_say, Cond.initialized RX6, Cond.code yX6_say cX6_say 3 none, Cond.constantLong RX6 348 (31), Cond.methodLink RX6 248 yX6_tellEntry, Cond.instanceMethod yX6_tellEntry, Cond.selects RX6 yX6_tellEntry yX6_tellEntry, Cond.code yX6_tellEntry cX6_tellEntry 3 (some .int), Cond.fieldLink RX6 40 "CreditShelfModel" "kinds" "[I", Cond.fieldLink RX6 43 "CreditShelfModel" "values" "[I", Cond.fieldLink RX6 13 "CreditShelfModel" "left" "[I", Cond.fieldLink RX6 16 "CreditShelfModel" "right" "[I", Cond.fieldLink RX6 19 "CreditShelfModel" "above" "[I", Cond.methodLink RX6 154 yX6_depth, Cond.instanceMethod yX6_depth, Cond.selects RX6 yX6_depth yX6_depth, Cond.code yX6_depth cX6_depth 5 (some .int)]
def wsX6_digest_r2 : List Cond := [Cond.methodLink RX6 168 yX6_size, Cond.instanceMethod yX6_size, Cond.selects RX6 yX6_size yX6_size, Cond.code yX6_size cX6_size 5 (some .int), Cond.methodLink RX6 150 yX6_isBelow, Cond.instanceMethod yX6_isBelow, Cond.selects RX6 yX6_isBelow yX6_isBelow, Cond.code yX6_isBelow cX6_isBelow 5 (some .boolean), Cond.methodLink RX6 242 yX6_lessMany, Cond.instanceMethod yX6_lessMany, Cond.selects RX6 yX6_lessMany yX6_lessMany, Cond.code yX6_lessMany cX6_lessMany 4 (some .int), Cond.methodLink RX6 236 yX6_lacks, Cond.instanceMethod yX6_lacks, Cond.selects RX6 yX6_lacks yX6_lacks, Cond.code yX6_lacks cX6_lacks 1 (some .boolean), Cond.fieldLink RX6 144 "CreditShelfModel" "ratioB" "I", Cond.methodLink RX6 362 yX6_sayShelf, Cond.instanceMethod yX6_sayShelf, Cond.selects RX6 yX6_sayShelf yX6_sayShelf, Cond.code yX6_sayShelf cX6_sayShelf 2 none, Cond.fieldLink RX6 28 "CreditShelfModel" "many" "[I", Cond.constantLong RX6 358 (-1), Cond.methodLink RX6 264 yX6_ledgerOf]
def wsX6_digest_r3 : List Cond := [Cond.instanceMethod yX6_ledgerOf, Cond.selects RX6 yX6_ledgerOf yX6_ledgerOf, Cond.code yX6_ledgerOf cX6_ledgerOf 2 (some .int), Cond.fieldLink RX6 31 "CreditShelfModel" "most" "[I", Cond.constant RX6 261 (100000), Cond.fieldLink RX6 184 "CreditShelfModel" "credit" "I", Cond.fieldLink RX6 187 "CreditShelfModel" "lowest" "I", Cond.fieldLink RX6 34 "CreditShelfModel" "built" "[I", Cond.fieldLink RX6 37 "CreditShelfModel" "cost" "[I", Cond.methodLink RX6 258 yX6_tall, Cond.instanceMethod yX6_tall, Cond.selects RX6 yX6_tall yX6_tall, Cond.code yX6_tall cX6_tall 5 (some .int), Cond.methodLink RX6 196 yX6_limit, Cond.instanceMethod yX6_limit, Cond.selects RX6 yX6_limit yX6_limit, Cond.code yX6_limit cX6_limit 8 (some .int), Cond.methodLink RX6 158 yX6_b, Cond.instanceMethod yX6_b, Cond.selects RX6 yX6_b yX6_b, Cond.code yX6_b cX6_b 2 (some .int), Cond.fieldLink RX6 147 "CreditShelfModel" "thenB" "I", Cond.methodLink RX6 161 yX6_a, Cond.instanceMethod yX6_a]
def wsX6_digest_r4 : List Cond := [Cond.selects RX6 yX6_a yX6_a, Cond.code yX6_a cX6_a 2 (some .int), Cond.fieldLink RX6 138 "CreditShelfModel" "ratioA" "I", Cond.fieldLink RX6 141 "CreditShelfModel" "thenA" "I", Cond.methodLink RX6 270 yX6_wouldOf, Cond.instanceMethod yX6_wouldOf, Cond.selects RX6 yX6_wouldOf yX6_wouldOf, Cond.code yX6_wouldOf cX6_wouldOf 2 (some .int), Cond.fieldLink RX6 171 "CreditShelfModel" "builtNow" "I", Cond.methodLink RX6 267 yX6_begin, Cond.instanceMethod yX6_begin, Cond.selects RX6 yX6_begin yX6_begin, Cond.code yX6_begin cX6_begin 2 none, Cond.fieldLink RX6 25 "CreditShelfModel" "root" "[I", Cond.methodLink RX6 227 yX6_enter, Cond.instanceMethod yX6_enter, Cond.selects RX6 yX6_enter yX6_enter, Cond.code yX6_enter cX6_enter 5 none, Cond.fieldLink RX6 193 "CreditShelfModel" "fee" "I", Cond.methodLink RX6 190 yX6_insert, Cond.instanceMethod yX6_insert, Cond.selects RX6 yX6_insert yX6_insert, Cond.code yX6_insert cX6_insert 5 none, Cond.methodLink RX6 164 yX6_hang]
def wsX6_digest_r5 : List Cond := [Cond.instanceMethod yX6_hang, Cond.selects RX6 yX6_hang yX6_hang, Cond.code yX6_hang cX6_hang 4 none, Cond.methodLink RX6 181 yX6_pay, Cond.instanceMethod yX6_pay, Cond.selects RX6 yX6_pay yX6_pay, Cond.code yX6_pay cX6_pay 3 none, Cond.methodLink RX6 199 yX6_isLopsided, Cond.instanceMethod yX6_isLopsided, Cond.selects RX6 yX6_isLopsided yX6_isLopsided, Cond.code yX6_isLopsided cX6_isLopsided 4 (some .boolean), Cond.methodLink RX6 202 yX6_build, Cond.instanceMethod yX6_build, Cond.selects RX6 yX6_build yX6_build, Cond.code yX6_build cX6_build 11 none, Cond.fieldLink RX6 49 "CreditShelfModel" "row" "[I", Cond.fieldLink RX6 52 "CreditShelfModel" "spanLow" "[I", Cond.fieldLink RX6 55 "CreditShelfModel" "spanHigh" "[I", Cond.fieldLink RX6 58 "CreditShelfModel" "spanOn" "[I", Cond.methodLink RX6 174 yX6_layRow, Cond.instanceMethod yX6_layRow, Cond.selects RX6 yX6_layRow yX6_layRow, Cond.code yX6_layRow cX6_layRow 5 none, Cond.methodLink RX6 178 yX6_replace]
def wsX6_digest_r6 : List Cond := [Cond.instanceMethod yX6_replace, Cond.selects RX6 yX6_replace yX6_replace, Cond.code yX6_replace cX6_replace 5 none, Cond.methodLink RX6 280 yX6_aheadOf, Cond.instanceMethod yX6_aheadOf, Cond.selects RX6 yX6_aheadOf yX6_aheadOf, Cond.code yX6_aheadOf cX6_aheadOf 3 (some .int), Cond.methodLink RX6 233 yX6_leave, Cond.instanceMethod yX6_leave, Cond.selects RX6 yX6_leave yX6_leave, Cond.code yX6_leave cX6_leave 3 none, Cond.methodLink RX6 208 yX6_remove, Cond.instanceMethod yX6_remove, Cond.selects RX6 yX6_remove yX6_remove, Cond.code yX6_remove cX6_remove 4 none, Cond.methodLink RX6 205 yX6_unhang, Cond.instanceMethod yX6_unhang, Cond.selects RX6 yX6_unhang yX6_unhang, Cond.code yX6_unhang cX6_unhang 4 none, Cond.methodLink RX6 276 yX6_replayOf, Cond.instanceMethod yX6_replayOf, Cond.selects RX6 yX6_replayOf yX6_replayOf, Cond.code yX6_replayOf cX6_replayOf 5 (some .int), Cond.fieldLink RX6 211 "CreditShelfModel" "logMany" "I"]
def wsX6_digest_r7 : List Cond := [Cond.fieldLink RX6 46 "CreditShelfModel" "log" "[I", Cond.methodLink RX6 214 yX6_empty, Cond.instanceMethod yX6_empty, Cond.selects RX6 yX6_empty yX6_empty, Cond.code yX6_empty cX6_empty 3 none, Cond.methodLink RX6 288 yX6_sortsOf, Cond.instanceMethod yX6_sortsOf, Cond.selects RX6 yX6_sortsOf yX6_sortsOf, Cond.code yX6_sortsOf cX6_sortsOf 5 (some .int), Cond.fieldLink RX6 218 "CreditShelfModel" "seenMany" "I", Cond.fieldLink RX6 61 "CreditShelfModel" "sights" "[I", Cond.methodLink RX6 285 yX6_sortsBy, Cond.static yX6_sortsBy, Cond.code yX6_sortsBy cX6_sortsBy 1 (some .int), Cond.methodLink RX6 294 yX6_askOf, Cond.instanceMethod yX6_askOf, Cond.selects RX6 yX6_askOf yX6_askOf, Cond.code yX6_askOf cX6_askOf 9 (some .int), Cond.methodLink RX6 291 yX6_ones, Cond.static yX6_ones, Cond.code yX6_ones cX6_ones 3 (some .int), Cond.methodLink RX6 345 yX6_countOf, Cond.instanceMethod yX6_countOf, Cond.selects RX6 yX6_countOf yX6_countOf]
def wsX6_digest_r8 : List Cond := [Cond.code yX6_countOf cX6_countOf 2 (some .int), Cond.fieldLink RX6 224 "CreditShelfModel" "shelvesRead" "I"]
def wsX6_digest : List Cond := .code yX6_digest cX6_digest 3 (some .long) :: ((wsX6_digest_r1 ++ (wsX6_digest_r2 ++ (wsX6_digest_r3 ++ (wsX6_digest_r4 ++ (wsX6_digest_r5 ++ (wsX6_digest_r6 ++ (wsX6_digest_r7 ++ wsX6_digest_r8))))))) ++ wsX60)
def wsJ9_max_7cf53 : List Cond := .code yJ9_max_7cf53 cJ9_max_7cf53 2 (some .int) :: ([])
def wsJ9_min_7cf53 : List Cond := .code yJ9_min_7cf53 cJ9_min_7cf53 2 (some .int) :: ([])
theorem dX0_init_0 : decode cX0_init 0 = .ok (.aload_n 0, 1) := by decide +kernel
theorem dX0_init_1 : decode cX0_init 1 = .ok (.invokespecial 1, 3) := by decide +kernel
theorem dX0_init_4 : decode cX0_init 4 = .ok (.aload_n 0, 1) := by decide +kernel
theorem dX0_init_5 : decode cX0_init 5 = .ok (.bipush 60, 2) := by decide +kernel
theorem dX0_init_7 : decode cX0_init 7 = .ok (.newarray .int, 2) := by decide +kernel
theorem dX0_init_9 : decode cX0_init 9 = .ok (.putfield 9, 3) := by decide +kernel
theorem dX0_init_12 : decode cX0_init 12 = .ok (.return_, 1) := by decide +kernel
theorem dX0_add_0 : decode cX0_add 0 = .ok (.aload_n 0, 1) := by decide +kernel
theorem dX0_add_1 : decode cX0_add 1 = .ok (.getfield 13, 3) := by decide +kernel
theorem dX0_add_4 : decode cX0_add 4 = .ok (.aload_n 0, 1) := by decide +kernel
theorem dX0_add_5 : decode cX0_add 5 = .ok (.getfield 9, 3) := by decide +kernel
theorem dX0_add_8 : decode cX0_add 8 = .ok (.arraylength, 1) := by decide +kernel
theorem dX0_add_9 : decode cX0_add 9 = .ok (.if_icmp .ge 23, 3) := by decide +kernel
theorem dX0_add_12 : decode cX0_add 12 = .ok (.aload_n 0, 1) := by decide +kernel
theorem dX0_add_13 : decode cX0_add 13 = .ok (.getfield 9, 3) := by decide +kernel
theorem dX0_add_16 : decode cX0_add 16 = .ok (.aload_n 0, 1) := by decide +kernel
theorem dX0_add_17 : decode cX0_add 17 = .ok (.getfield 13, 3) := by decide +kernel
theorem dX0_add_20 : decode cX0_add 20 = .ok (.iload_n 1, 1) := by decide +kernel
theorem dX0_add_21 : decode cX0_add 21 = .ok (.iastore, 1) := by decide +kernel
theorem dX0_add_22 : decode cX0_add 22 = .ok (.aload_n 0, 1) := by decide +kernel
theorem dX0_add_23 : decode cX0_add 23 = .ok (.dup, 1) := by decide +kernel
theorem dX0_add_24 : decode cX0_add 24 = .ok (.getfield 13, 3) := by decide +kernel
theorem dX0_add_27 : decode cX0_add 27 = .ok (.iconst 1, 1) := by decide +kernel
theorem dX0_add_28 : decode cX0_add 28 = .ok (.iadd, 1) := by decide +kernel
theorem dX0_add_29 : decode cX0_add 29 = .ok (.putfield 13, 3) := by decide +kernel
theorem dX0_add_32 : decode cX0_add 32 = .ok (.return_, 1) := by decide +kernel
theorem dX0_copy_0 : decode cX0_copy 0 = .ok (.aload_n 1, 1) := by decide +kernel
theorem dX0_copy_1 : decode cX0_copy 1 = .ok (.getfield 9, 3) := by decide +kernel
theorem dX0_copy_4 : decode cX0_copy 4 = .ok (.iconst 0, 1) := by decide +kernel
theorem dX0_copy_5 : decode cX0_copy 5 = .ok (.aload_n 0, 1) := by decide +kernel
theorem dX0_copy_6 : decode cX0_copy 6 = .ok (.getfield 9, 3) := by decide +kernel
theorem dX0_copy_9 : decode cX0_copy 9 = .ok (.iconst 0, 1) := by decide +kernel
theorem dX0_copy_10 : decode cX0_copy 10 = .ok (.bipush 60, 2) := by decide +kernel
theorem dX0_copy_12 : decode cX0_copy 12 = .ok (.invokestatic 17, 3) := by decide +kernel
theorem dX0_copy_15 : decode cX0_copy 15 = .ok (.aload_n 0, 1) := by decide +kernel
theorem dX0_copy_16 : decode cX0_copy 16 = .ok (.aload_n 1, 1) := by decide +kernel
theorem dX0_copy_17 : decode cX0_copy 17 = .ok (.getfield 13, 3) := by decide +kernel
theorem dX0_copy_20 : decode cX0_copy 20 = .ok (.putfield 13, 3) := by decide +kernel
theorem dX0_copy_23 : decode cX0_copy 23 = .ok (.return_, 1) := by decide +kernel
theorem dX1_init_0 : decode cX1_init 0 = .ok (.aload_n 0, 1) := by decide +kernel
theorem dX1_init_1 : decode cX1_init 1 = .ok (.invokespecial 1, 3) := by decide +kernel
theorem dX1_init_4 : decode cX1_init 4 = .ok (.aload_n 0, 1) := by decide +kernel
theorem dX1_init_5 : decode cX1_init 5 = .ok (.bipush 54, 2) := by decide +kernel
theorem dX1_init_7 : decode cX1_init 7 = .ok (.newarray .int, 2) := by decide +kernel
theorem dX1_init_9 : decode cX1_init 9 = .ok (.putfield 9, 3) := by decide +kernel
theorem dX1_init_12 : decode cX1_init 12 = .ok (.return_, 1) := by decide +kernel
theorem dX1_append_0 : decode cX1_append 0 = .ok (.aload_n 0, 1) := by decide +kernel
theorem dX1_append_1 : decode cX1_append 1 = .ok (.getfield 13, 3) := by decide +kernel
theorem dX1_append_4 : decode cX1_append 4 = .ok (.aload_n 0, 1) := by decide +kernel
theorem dX1_append_5 : decode cX1_append 5 = .ok (.getfield 9, 3) := by decide +kernel
theorem dX1_append_8 : decode cX1_append 8 = .ok (.arraylength, 1) := by decide +kernel
theorem dX1_append_9 : decode cX1_append 9 = .ok (.if_icmp .lt 5, 3) := by decide +kernel
theorem dX1_append_12 : decode cX1_append 12 = .ok (.iconst 0, 1) := by decide +kernel
theorem dX1_append_13 : decode cX1_append 13 = .ok (.ireturn, 1) := by decide +kernel
theorem dX1_append_14 : decode cX1_append 14 = .ok (.aload_n 0, 1) := by decide +kernel
theorem dX1_append_15 : decode cX1_append 15 = .ok (.getfield 9, 3) := by decide +kernel
theorem dX1_append_18 : decode cX1_append 18 = .ok (.aload_n 0, 1) := by decide +kernel
theorem dX1_append_19 : decode cX1_append 19 = .ok (.getfield 13, 3) := by decide +kernel
theorem dX1_append_22 : decode cX1_append 22 = .ok (.iload_n 1, 1) := by decide +kernel
theorem dX1_append_23 : decode cX1_append 23 = .ok (.iastore, 1) := by decide +kernel
theorem dX1_append_24 : decode cX1_append 24 = .ok (.aload_n 0, 1) := by decide +kernel
theorem dX1_append_25 : decode cX1_append 25 = .ok (.dup, 1) := by decide +kernel
theorem dX1_append_26 : decode cX1_append 26 = .ok (.getfield 13, 3) := by decide +kernel
theorem dX1_append_29 : decode cX1_append 29 = .ok (.iconst 1, 1) := by decide +kernel
theorem dX1_append_30 : decode cX1_append 30 = .ok (.iadd, 1) := by decide +kernel
theorem dX1_append_31 : decode cX1_append 31 = .ok (.putfield 13, 3) := by decide +kernel
theorem dX1_append_34 : decode cX1_append 34 = .ok (.iconst 1, 1) := by decide +kernel
theorem dX1_append_35 : decode cX1_append 35 = .ok (.ireturn, 1) := by decide +kernel
set_option maxRecDepth 20000 in
theorem ggX1_firstWrong_X1_fits : GoodIn wsX1_firstWrong wsX1_fits := goodIn_r _ [6, 7, 8, 9, 5, 10, 11, 12, 13, 14, 1, 15, 16, 17, 18, 19, 20, 21, 22, 23, 24, 25, 26, 27, 28, 29, 30, 31, 32, 33, 34, 35, 36, 37, 38, 39, 40, 41, 42, 43, 44, 45, 46, 47, 48, 49, 50, 51, 52, 53, 54, 55, 56, 57, 58, 59, 60, 61, 62, 63, 64, 65, 66, 67, 68, 69, 70, 71, 72, 73, 74, 75, 76, 77, 78, 79, 80, 81, 82, 83, 84, 85, 86, 87, 88, 89, 90, 91, 92, 93, 94, 95, 96, 97, 98, 99, 100, 101, 102, 103, 104, 105, 106, 107, 108, 109, 110, 111, 112, 113, 114, 115, 116, 117, 118, 119, 120, 121, 122, 123, 124, 125] (by decide +kernel) (by decide +kernel)
set_option maxRecDepth 20000 in
theorem gX1_firstWrong_X1_fits : GoodIn wsX1_firstWrong (wsV RX1 17 RX1 yX1_fits wsX1_fits) := goodIn_app (goodIn_of _ (by decide +kernel)) ggX1_firstWrong_X1_fits
theorem dX1_firstWrong_0 : decode cX1_firstWrong 0 = .ok (.iconst 0, 1) := by decide +kernel
theorem dX1_firstWrong_1 : decode cX1_firstWrong 1 = .ok (.istore_n 1, 1) := by decide +kernel
theorem dX1_firstWrong_2 : decode cX1_firstWrong 2 = .ok (.iload_n 1, 1) := by decide +kernel
theorem dX1_firstWrong_3 : decode cX1_firstWrong 3 = .ok (.aload_n 0, 1) := by decide +kernel
theorem dX1_firstWrong_4 : decode cX1_firstWrong 4 = .ok (.getfield 13, 3) := by decide +kernel
theorem dX1_firstWrong_7 : decode cX1_firstWrong 7 = .ok (.if_icmp .ge 19, 3) := by decide +kernel
theorem dX1_firstWrong_10 : decode cX1_firstWrong 10 = .ok (.aload_n 0, 1) := by decide +kernel
theorem dX1_firstWrong_11 : decode cX1_firstWrong 11 = .ok (.iload_n 1, 1) := by decide +kernel
theorem dX1_firstWrong_12 : decode cX1_firstWrong 12 = .ok (.invokevirtual 17, 3) := by decide +kernel
theorem dX1_firstWrong_15 : decode cX1_firstWrong 15 = .ok (.ifCond .ne 5, 3) := by decide +kernel
theorem dX1_firstWrong_18 : decode cX1_firstWrong 18 = .ok (.iload_n 1, 1) := by decide +kernel
theorem dX1_firstWrong_19 : decode cX1_firstWrong 19 = .ok (.ireturn, 1) := by decide +kernel
theorem dX1_firstWrong_20 : decode cX1_firstWrong 20 = .ok (.iinc 1 1, 3) := by decide +kernel
theorem dX1_firstWrong_23 : decode cX1_firstWrong 23 = .ok (.goto (-21), 3) := by decide +kernel
theorem dX1_firstWrong_26 : decode cX1_firstWrong 26 = .ok (.aload_n 0, 1) := by decide +kernel
theorem dX1_firstWrong_27 : decode cX1_firstWrong 27 = .ok (.getfield 13, 3) := by decide +kernel
theorem dX1_firstWrong_30 : decode cX1_firstWrong 30 = .ok (.ireturn, 1) := by decide +kernel
set_option maxRecDepth 20000 in
theorem ggX1_isShelf_X1_firstWrong : GoodIn wsX1_isShelf wsX1_firstWrong := goodIn_r _ [6, 1, 7, 8, 9, 5, 10, 11, 12, 13, 14, 15, 16, 17, 18, 19, 20, 21, 22, 23, 24, 25, 26, 27, 28, 29, 30, 31, 32, 33, 34, 35, 36, 37, 38, 39, 40, 41, 42, 43, 44, 45, 46, 47, 48, 49, 50, 51, 52, 53, 54, 55, 56, 57, 58, 59, 60, 61, 62, 63, 64, 65, 66, 67, 68, 69, 70, 71, 72, 73, 74, 75, 76, 77, 78, 79, 80, 81, 82, 83, 84, 85, 86, 87, 88, 89, 90, 91, 92, 93, 94, 95, 96, 97, 98, 99, 100, 101, 102, 103, 104, 105, 106, 107, 108, 109, 110, 111, 112, 113, 114, 115, 116, 117, 118, 119, 120, 121, 122, 123, 124, 125, 126, 127, 128, 129] (by decide +kernel) (by decide +kernel)
set_option maxRecDepth 20000 in
theorem gX1_isShelf_X1_firstWrong : GoodIn wsX1_isShelf (wsV RX1 21 RX1 yX1_firstWrong wsX1_firstWrong) := goodIn_app (goodIn_of _ (by decide +kernel)) ggX1_isShelf_X1_firstWrong
theorem dX1_isShelf_0 : decode cX1_isShelf 0 = .ok (.aload_n 0, 1) := by decide +kernel
theorem dX1_isShelf_1 : decode cX1_isShelf 1 = .ok (.getfield 13, 3) := by decide +kernel
theorem dX1_isShelf_4 : decode cX1_isShelf 4 = .ok (.iconst 5, 1) := by decide +kernel
theorem dX1_isShelf_5 : decode cX1_isShelf 5 = .ok (.if_icmp .eq 24, 3) := by decide +kernel
theorem dX1_isShelf_8 : decode cX1_isShelf 8 = .ok (.aload_n 0, 1) := by decide +kernel
theorem dX1_isShelf_9 : decode cX1_isShelf 9 = .ok (.getfield 13, 3) := by decide +kernel
theorem dX1_isShelf_12 : decode cX1_isShelf 12 = .ok (.iconst 5, 1) := by decide +kernel
theorem dX1_isShelf_13 : decode cX1_isShelf 13 = .ok (.if_icmp .le 20, 3) := by decide +kernel
theorem dX1_isShelf_16 : decode cX1_isShelf 16 = .ok (.aload_n 0, 1) := by decide +kernel
theorem dX1_isShelf_17 : decode cX1_isShelf 17 = .ok (.getfield 13, 3) := by decide +kernel
theorem dX1_isShelf_20 : decode cX1_isShelf 20 = .ok (.iconst 5, 1) := by decide +kernel
theorem dX1_isShelf_21 : decode cX1_isShelf 21 = .ok (.isub, 1) := by decide +kernel
theorem dX1_isShelf_22 : decode cX1_isShelf 22 = .ok (.bipush 6, 2) := by decide +kernel
theorem dX1_isShelf_24 : decode cX1_isShelf 24 = .ok (.irem, 1) := by decide +kernel
theorem dX1_isShelf_25 : decode cX1_isShelf 25 = .ok (.iconst 5, 1) := by decide +kernel
theorem dX1_isShelf_26 : decode cX1_isShelf 26 = .ok (.if_icmp .ne 7, 3) := by decide +kernel
theorem dX1_isShelf_29 : decode cX1_isShelf 29 = .ok (.iconst 1, 1) := by decide +kernel
theorem dX1_isShelf_30 : decode cX1_isShelf 30 = .ok (.goto 4, 3) := by decide +kernel
theorem dX1_isShelf_33 : decode cX1_isShelf 33 = .ok (.iconst 0, 1) := by decide +kernel
theorem dX1_isShelf_34 : decode cX1_isShelf 34 = .ok (.istore_n 1, 1) := by decide +kernel
theorem dX1_isShelf_35 : decode cX1_isShelf 35 = .ok (.iload_n 1, 1) := by decide +kernel
theorem dX1_isShelf_36 : decode cX1_isShelf 36 = .ok (.ifCond .eq 18, 3) := by decide +kernel
theorem dX1_isShelf_39 : decode cX1_isShelf 39 = .ok (.aload_n 0, 1) := by decide +kernel
theorem dX1_isShelf_40 : decode cX1_isShelf 40 = .ok (.invokevirtual 21, 3) := by decide +kernel
theorem dX1_isShelf_43 : decode cX1_isShelf 43 = .ok (.aload_n 0, 1) := by decide +kernel
theorem dX1_isShelf_44 : decode cX1_isShelf 44 = .ok (.getfield 13, 3) := by decide +kernel
theorem dX1_isShelf_47 : decode cX1_isShelf 47 = .ok (.if_icmp .ne 7, 3) := by decide +kernel
theorem dX1_isShelf_50 : decode cX1_isShelf 50 = .ok (.iconst 1, 1) := by decide +kernel
theorem dX1_isShelf_51 : decode cX1_isShelf 51 = .ok (.goto 4, 3) := by decide +kernel
theorem dX1_isShelf_54 : decode cX1_isShelf 54 = .ok (.iconst 0, 1) := by decide +kernel
theorem dX1_isShelf_55 : decode cX1_isShelf 55 = .ok (.ireturn, 1) := by decide +kernel
theorem dX1_entries_0 : decode cX1_entries 0 = .ok (.aload_n 0, 1) := by decide +kernel
theorem dX1_entries_1 : decode cX1_entries 1 = .ok (.getfield 13, 3) := by decide +kernel
theorem dX1_entries_4 : decode cX1_entries 4 = .ok (.iconst 5, 1) := by decide +kernel
theorem dX1_entries_5 : decode cX1_entries 5 = .ok (.isub, 1) := by decide +kernel
theorem dX1_entries_6 : decode cX1_entries 6 = .ok (.iconst 1, 1) := by decide +kernel
theorem dX1_entries_7 : decode cX1_entries 7 = .ok (.iadd, 1) := by decide +kernel
theorem dX1_entries_8 : decode cX1_entries 8 = .ok (.bipush 6, 2) := by decide +kernel
theorem dX1_entries_10 : decode cX1_entries 10 = .ok (.idiv, 1) := by decide +kernel
theorem dX1_entries_11 : decode cX1_entries 11 = .ok (.ireturn, 1) := by decide +kernel
set_option maxRecDepth 20000 in
theorem ggX1_kindOf_X1_code : GoodIn wsX1_kindOf wsX1_code := goodIn_r _ [5, 6, 7, 97, 98] (by decide +kernel) (by decide +kernel)
set_option maxRecDepth 20000 in
theorem gX1_kindOf_X1_code : GoodIn wsX1_kindOf (wsV RX1 27 RX1 yX1_code wsX1_code) := goodIn_app (goodIn_of _ (by decide +kernel)) ggX1_kindOf_X1_code
set_option maxRecDepth 20000 in
theorem ggX1_kindOf_J0_indexOf_0f7a4 : GoodIn wsX1_kindOf wsJ0_indexOf_0f7a4 := goodIn_r _ [12, 13, 14, 15, 11, 16, 17, 18, 19, 20, 21, 22, 23, 24, 25, 26, 27, 28, 29, 30, 31, 32, 33, 34, 35, 36, 37, 38, 39, 40, 41, 42, 43, 44, 45, 46, 47, 48, 49, 50, 51, 52, 53, 54, 55, 56, 57, 58, 59, 60, 61, 62, 63, 64, 65, 66, 67, 68, 69, 70, 71, 72, 73, 74, 75, 76, 77, 78, 79, 80, 81, 82, 83, 84, 85, 86, 87, 88, 89, 90, 91, 92, 93, 94, 95, 96] (by decide +kernel) (by decide +kernel)
set_option maxRecDepth 20000 in
theorem gX1_kindOf_J0_indexOf_0f7a4 : GoodIn wsX1_kindOf (wsV RX1 31 RJ0 yJ0_indexOf_0f7a4 wsJ0_indexOf_0f7a4) := goodIn_app (goodIn_of _ (by decide +kernel)) ggX1_kindOf_J0_indexOf_0f7a4
theorem dX1_kindOf_0 : decode cX1_kindOf 0 = .ok (.ldc 25, 2) := by decide +kernel
theorem dX1_kindOf_2 : decode cX1_kindOf 2 = .ok (.aload_n 0, 1) := by decide +kernel
theorem dX1_kindOf_3 : decode cX1_kindOf 3 = .ok (.iconst 5, 1) := by decide +kernel
theorem dX1_kindOf_4 : decode cX1_kindOf 4 = .ok (.iload_n 1, 1) := by decide +kernel
theorem dX1_kindOf_5 : decode cX1_kindOf 5 = .ok (.bipush 6, 2) := by decide +kernel
theorem dX1_kindOf_7 : decode cX1_kindOf 7 = .ok (.imul, 1) := by decide +kernel
theorem dX1_kindOf_8 : decode cX1_kindOf 8 = .ok (.iadd, 1) := by decide +kernel
theorem dX1_kindOf_9 : decode cX1_kindOf 9 = .ok (.invokevirtual 27, 3) := by decide +kernel
theorem dX1_kindOf_12 : decode cX1_kindOf 12 = .ok (.i2c, 1) := by decide +kernel
theorem dX1_kindOf_13 : decode cX1_kindOf 13 = .ok (.invokevirtual 31, 3) := by decide +kernel
theorem dX1_kindOf_16 : decode cX1_kindOf 16 = .ok (.ireturn, 1) := by decide +kernel
set_option maxRecDepth 20000 in
theorem ggX1_keyOf_X1_digit : GoodIn wsX1_keyOf wsX1_digit := goodIn_r _ [5, 6, 7, 8, 4, 9, 10, 11, 12, 13] (by decide +kernel) (by decide +kernel)
set_option maxRecDepth 20000 in
theorem gX1_keyOf_X1_digit : GoodIn wsX1_keyOf (wsV RX1 36 RX1 yX1_digit wsX1_digit) := goodIn_app (goodIn_of _ (by decide +kernel)) ggX1_keyOf_X1_digit
theorem dX1_keyOf_0 : decode cX1_keyOf 0 = .ok (.iconst 5, 1) := by decide +kernel
theorem dX1_keyOf_1 : decode cX1_keyOf 1 = .ok (.iload_n 1, 1) := by decide +kernel
theorem dX1_keyOf_2 : decode cX1_keyOf 2 = .ok (.bipush 6, 2) := by decide +kernel
theorem dX1_keyOf_4 : decode cX1_keyOf 4 = .ok (.imul, 1) := by decide +kernel
theorem dX1_keyOf_5 : decode cX1_keyOf 5 = .ok (.iadd, 1) := by decide +kernel
theorem dX1_keyOf_6 : decode cX1_keyOf 6 = .ok (.istore_n 2, 1) := by decide +kernel
theorem dX1_keyOf_7 : decode cX1_keyOf 7 = .ok (.bipush 10, 2) := by decide +kernel
theorem dX1_keyOf_9 : decode cX1_keyOf 9 = .ok (.aload_n 0, 1) := by decide +kernel
theorem dX1_keyOf_10 : decode cX1_keyOf 10 = .ok (.iload_n 2, 1) := by decide +kernel
theorem dX1_keyOf_11 : decode cX1_keyOf 11 = .ok (.iconst 1, 1) := by decide +kernel
theorem dX1_keyOf_12 : decode cX1_keyOf 12 = .ok (.iadd, 1) := by decide +kernel
theorem dX1_keyOf_13 : decode cX1_keyOf 13 = .ok (.invokevirtual 36, 3) := by decide +kernel
theorem dX1_keyOf_16 : decode cX1_keyOf 16 = .ok (.imul, 1) := by decide +kernel
theorem dX1_keyOf_17 : decode cX1_keyOf 17 = .ok (.aload_n 0, 1) := by decide +kernel
theorem dX1_keyOf_18 : decode cX1_keyOf 18 = .ok (.iload_n 2, 1) := by decide +kernel
theorem dX1_keyOf_19 : decode cX1_keyOf 19 = .ok (.iconst 2, 1) := by decide +kernel
theorem dX1_keyOf_20 : decode cX1_keyOf 20 = .ok (.iadd, 1) := by decide +kernel
theorem dX1_keyOf_21 : decode cX1_keyOf 21 = .ok (.invokevirtual 36, 3) := by decide +kernel
theorem dX1_keyOf_24 : decode cX1_keyOf 24 = .ok (.iadd, 1) := by decide +kernel
theorem dX1_keyOf_25 : decode cX1_keyOf 25 = .ok (.ireturn, 1) := by decide +kernel
set_option maxRecDepth 20000 in
theorem ggX1_valueOf_X1_digit : GoodIn wsX1_valueOf wsX1_digit := goodIn_r _ [5, 6, 7, 8, 4, 9, 10, 11, 12, 13] (by decide +kernel) (by decide +kernel)
set_option maxRecDepth 20000 in
theorem gX1_valueOf_X1_digit : GoodIn wsX1_valueOf (wsV RX1 36 RX1 yX1_digit wsX1_digit) := goodIn_app (goodIn_of _ (by decide +kernel)) ggX1_valueOf_X1_digit
theorem dX1_valueOf_0 : decode cX1_valueOf 0 = .ok (.aload_n 0, 1) := by decide +kernel
theorem dX1_valueOf_1 : decode cX1_valueOf 1 = .ok (.iconst 5, 1) := by decide +kernel
theorem dX1_valueOf_2 : decode cX1_valueOf 2 = .ok (.iload_n 1, 1) := by decide +kernel
theorem dX1_valueOf_3 : decode cX1_valueOf 3 = .ok (.bipush 6, 2) := by decide +kernel
theorem dX1_valueOf_5 : decode cX1_valueOf 5 = .ok (.imul, 1) := by decide +kernel
theorem dX1_valueOf_6 : decode cX1_valueOf 6 = .ok (.iadd, 1) := by decide +kernel
theorem dX1_valueOf_7 : decode cX1_valueOf 7 = .ok (.iconst 4, 1) := by decide +kernel
theorem dX1_valueOf_8 : decode cX1_valueOf 8 = .ok (.iadd, 1) := by decide +kernel
theorem dX1_valueOf_9 : decode cX1_valueOf 9 = .ok (.invokevirtual 36, 3) := by decide +kernel
theorem dX1_valueOf_12 : decode cX1_valueOf 12 = .ok (.ireturn, 1) := by decide +kernel
set_option maxRecDepth 20000 in
theorem ggX1_digit_X1_code : GoodIn wsX1_digit wsX1_code := goodIn_r _ [5, 6, 7, 8, 9] (by decide +kernel) (by decide +kernel)
set_option maxRecDepth 20000 in
theorem gX1_digit_X1_code : GoodIn wsX1_digit (wsV RX1 27 RX1 yX1_code wsX1_code) := goodIn_app (goodIn_of _ (by decide +kernel)) ggX1_digit_X1_code
theorem dX1_digit_0 : decode cX1_digit 0 = .ok (.aload_n 0, 1) := by decide +kernel
theorem dX1_digit_1 : decode cX1_digit 1 = .ok (.iload_n 1, 1) := by decide +kernel
theorem dX1_digit_2 : decode cX1_digit 2 = .ok (.invokevirtual 27, 3) := by decide +kernel
theorem dX1_digit_5 : decode cX1_digit 5 = .ok (.bipush 48, 2) := by decide +kernel
theorem dX1_digit_7 : decode cX1_digit 7 = .ok (.isub, 1) := by decide +kernel
theorem dX1_digit_8 : decode cX1_digit 8 = .ok (.ireturn, 1) := by decide +kernel
theorem dX1_code_0 : decode cX1_code 0 = .ok (.iload_n 1, 1) := by decide +kernel
theorem dX1_code_1 : decode cX1_code 1 = .ok (.ifCond .lt 20, 3) := by decide +kernel
theorem dX1_code_4 : decode cX1_code 4 = .ok (.iload_n 1, 1) := by decide +kernel
theorem dX1_code_5 : decode cX1_code 5 = .ok (.aload_n 0, 1) := by decide +kernel
theorem dX1_code_6 : decode cX1_code 6 = .ok (.getfield 13, 3) := by decide +kernel
theorem dX1_code_9 : decode cX1_code 9 = .ok (.if_icmp .ge 12, 3) := by decide +kernel
theorem dX1_code_12 : decode cX1_code 12 = .ok (.aload_n 0, 1) := by decide +kernel
theorem dX1_code_13 : decode cX1_code 13 = .ok (.getfield 9, 3) := by decide +kernel
theorem dX1_code_16 : decode cX1_code 16 = .ok (.iload_n 1, 1) := by decide +kernel
theorem dX1_code_17 : decode cX1_code 17 = .ok (.iaload, 1) := by decide +kernel
theorem dX1_code_18 : decode cX1_code 18 = .ok (.goto 4, 3) := by decide +kernel
theorem dX1_code_21 : decode cX1_code 21 = .ok (.iconst 0, 1) := by decide +kernel
theorem dX1_code_22 : decode cX1_code 22 = .ok (.ireturn, 1) := by decide +kernel
set_option maxRecDepth 20000 in
theorem ggX1_fits_X1_digit : GoodIn wsX1_fits wsX1_digit := goodIn_r _ [5, 6, 7, 8, 4, 9, 10, 11, 120, 121] (by decide +kernel) (by decide +kernel)
set_option maxRecDepth 20000 in
theorem gX1_fits_X1_digit : GoodIn wsX1_fits (wsV RX1 36 RX1 yX1_digit wsX1_digit) := goodIn_app (goodIn_of _ (by decide +kernel)) ggX1_fits_X1_digit
set_option maxRecDepth 20000 in
theorem ggX1_fits_X5_isRatio : GoodIn wsX1_fits wsX5_isRatio := goodIn_r _ [14] (by decide +kernel) (by decide +kernel)
set_option maxRecDepth 20000 in
theorem gX1_fits_X5_isRatio_n39 : GoodIn wsX1_fits (wsX5_isRatio) := ggX1_fits_X5_isRatio
set_option maxRecDepth 20000 in
theorem ggX1_fits_X1_code : GoodIn wsX1_fits wsX1_code := goodIn_r _ [9, 10, 11, 120, 121] (by decide +kernel) (by decide +kernel)
set_option maxRecDepth 20000 in
theorem gX1_fits_X1_code : GoodIn wsX1_fits (wsV RX1 27 RX1 yX1_code wsX1_code) := goodIn_app (goodIn_of _ (by decide +kernel)) ggX1_fits_X1_code
set_option maxRecDepth 20000 in
theorem ggX1_fits_X1_isDigit : GoodIn wsX1_fits wsX1_isDigit := goodIn_r _ [18, 6, 7, 8, 4, 9, 10, 11, 120, 121] (by decide +kernel) (by decide +kernel)
set_option maxRecDepth 20000 in
theorem gX1_fits_X1_isDigit : GoodIn wsX1_fits (wsV RX1 45 RX1 yX1_isDigit wsX1_isDigit) := goodIn_app (goodIn_of _ (by decide +kernel)) ggX1_fits_X1_isDigit
set_option maxRecDepth 20000 in
theorem ggX1_fits_X1_fitsEntry : GoodIn wsX1_fits wsX1_fitsEntry := goodIn_r _ [22, 23, 24, 25, 4, 26, 6, 7, 8, 9, 10, 11, 27, 28, 29, 30, 31, 32, 33, 34, 35, 36, 37, 38, 39, 40, 41, 42, 43, 44, 45, 46, 47, 48, 49, 50, 51, 52, 53, 54, 55, 56, 57, 58, 59, 60, 61, 62, 63, 64, 65, 66, 67, 68, 69, 70, 71, 72, 73, 74, 75, 76, 77, 78, 79, 80, 81, 82, 83, 84, 85, 86, 87, 88, 89, 90, 91, 92, 93, 94, 95, 96, 97, 98, 99, 100, 101, 102, 103, 104, 105, 106, 107, 108, 109, 110, 111, 112, 113, 114, 115, 15, 16, 17, 18, 116, 117, 118, 119, 120, 121] (by decide +kernel) (by decide +kernel)
set_option maxRecDepth 20000 in
theorem gX1_fits_X1_fitsEntry : GoodIn wsX1_fits (wsV RX1 48 RX1 yX1_fitsEntry wsX1_fitsEntry) := goodIn_app (goodIn_of _ (by decide +kernel)) ggX1_fits_X1_fitsEntry
theorem dX1_fits_0 : decode cX1_fits 0 = .ok (.iload_n 1, 1) := by decide +kernel
theorem dX1_fits_1 : decode cX1_fits 1 = .ok (.tableswitch 127 0 4 #[35, 59, 73, 89, 111], 35) := by decide +kernel
theorem dX1_fits_36 : decode cX1_fits 36 = .ok (.aload_n 0, 1) := by decide +kernel
theorem dX1_fits_37 : decode cX1_fits 37 = .ok (.iconst 0, 1) := by decide +kernel
theorem dX1_fits_38 : decode cX1_fits 38 = .ok (.invokevirtual 36, 3) := by decide +kernel
theorem dX1_fits_41 : decode cX1_fits 41 = .ok (.iconst 2, 1) := by decide +kernel
theorem dX1_fits_42 : decode cX1_fits 42 = .ok (.if_icmp .lt 16, 3) := by decide +kernel
theorem dX1_fits_45 : decode cX1_fits 45 = .ok (.aload_n 0, 1) := by decide +kernel
theorem dX1_fits_46 : decode cX1_fits 46 = .ok (.iconst 0, 1) := by decide +kernel
theorem dX1_fits_47 : decode cX1_fits 47 = .ok (.invokevirtual 36, 3) := by decide +kernel
theorem dX1_fits_50 : decode cX1_fits 50 = .ok (.iconst 4, 1) := by decide +kernel
theorem dX1_fits_51 : decode cX1_fits 51 = .ok (.if_icmp .gt 7, 3) := by decide +kernel
theorem dX1_fits_54 : decode cX1_fits 54 = .ok (.iconst 1, 1) := by decide +kernel
theorem dX1_fits_55 : decode cX1_fits 55 = .ok (.goto 4, 3) := by decide +kernel
theorem dX1_fits_58 : decode cX1_fits 58 = .ok (.iconst 0, 1) := by decide +kernel
theorem dX1_fits_59 : decode cX1_fits 59 = .ok (.ireturn, 1) := by decide +kernel
theorem dX1_fits_60 : decode cX1_fits 60 = .ok (.aload_n 0, 1) := by decide +kernel
theorem dX1_fits_61 : decode cX1_fits 61 = .ok (.iconst 0, 1) := by decide +kernel
theorem dX1_fits_62 : decode cX1_fits 62 = .ok (.invokevirtual 36, 3) := by decide +kernel
theorem dX1_fits_65 : decode cX1_fits 65 = .ok (.aload_n 0, 1) := by decide +kernel
theorem dX1_fits_66 : decode cX1_fits 66 = .ok (.iconst 1, 1) := by decide +kernel
theorem dX1_fits_67 : decode cX1_fits 67 = .ok (.invokevirtual 36, 3) := by decide +kernel
theorem dX1_fits_70 : decode cX1_fits 70 = .ok (.invokestatic 39, 3) := by decide +kernel
theorem dX1_fits_73 : decode cX1_fits 73 = .ok (.ireturn, 1) := by decide +kernel
theorem dX1_fits_74 : decode cX1_fits 74 = .ok (.aload_n 0, 1) := by decide +kernel
theorem dX1_fits_75 : decode cX1_fits 75 = .ok (.iconst 2, 1) := by decide +kernel
theorem dX1_fits_76 : decode cX1_fits 76 = .ok (.invokevirtual 27, 3) := by decide +kernel
theorem dX1_fits_79 : decode cX1_fits 79 = .ok (.bipush 59, 2) := by decide +kernel
theorem dX1_fits_81 : decode cX1_fits 81 = .ok (.if_icmp .ne 7, 3) := by decide +kernel
theorem dX1_fits_84 : decode cX1_fits 84 = .ok (.iconst 1, 1) := by decide +kernel
theorem dX1_fits_85 : decode cX1_fits 85 = .ok (.goto 4, 3) := by decide +kernel
theorem dX1_fits_88 : decode cX1_fits 88 = .ok (.iconst 0, 1) := by decide +kernel
theorem dX1_fits_89 : decode cX1_fits 89 = .ok (.ireturn, 1) := by decide +kernel
theorem dX1_fits_90 : decode cX1_fits 90 = .ok (.aload_n 0, 1) := by decide +kernel
theorem dX1_fits_91 : decode cX1_fits 91 = .ok (.iconst 3, 1) := by decide +kernel
theorem dX1_fits_92 : decode cX1_fits 92 = .ok (.invokevirtual 45, 3) := by decide +kernel
theorem dX1_fits_95 : decode cX1_fits 95 = .ok (.ifCond .eq 15, 3) := by decide +kernel
theorem dX1_fits_98 : decode cX1_fits 98 = .ok (.aload_n 0, 1) := by decide +kernel
theorem dX1_fits_99 : decode cX1_fits 99 = .ok (.iconst 3, 1) := by decide +kernel
theorem dX1_fits_100 : decode cX1_fits 100 = .ok (.invokevirtual 36, 3) := by decide +kernel
theorem dX1_fits_103 : decode cX1_fits 103 = .ok (.ifCond .le 7, 3) := by decide +kernel
theorem dX1_fits_106 : decode cX1_fits 106 = .ok (.iconst 1, 1) := by decide +kernel
theorem dX1_fits_107 : decode cX1_fits 107 = .ok (.goto 4, 3) := by decide +kernel
theorem dX1_fits_110 : decode cX1_fits 110 = .ok (.iconst 0, 1) := by decide +kernel
theorem dX1_fits_111 : decode cX1_fits 111 = .ok (.ireturn, 1) := by decide +kernel
theorem dX1_fits_112 : decode cX1_fits 112 = .ok (.aload_n 0, 1) := by decide +kernel
theorem dX1_fits_113 : decode cX1_fits 113 = .ok (.iconst 4, 1) := by decide +kernel
theorem dX1_fits_114 : decode cX1_fits 114 = .ok (.invokevirtual 27, 3) := by decide +kernel
theorem dX1_fits_117 : decode cX1_fits 117 = .ok (.bipush 59, 2) := by decide +kernel
theorem dX1_fits_119 : decode cX1_fits 119 = .ok (.if_icmp .ne 7, 3) := by decide +kernel
theorem dX1_fits_122 : decode cX1_fits 122 = .ok (.iconst 1, 1) := by decide +kernel
theorem dX1_fits_123 : decode cX1_fits 123 = .ok (.goto 4, 3) := by decide +kernel
theorem dX1_fits_126 : decode cX1_fits 126 = .ok (.iconst 0, 1) := by decide +kernel
theorem dX1_fits_127 : decode cX1_fits 127 = .ok (.ireturn, 1) := by decide +kernel
theorem dX1_fits_128 : decode cX1_fits 128 = .ok (.aload_n 0, 1) := by decide +kernel
theorem dX1_fits_129 : decode cX1_fits 129 = .ok (.iload_n 1, 1) := by decide +kernel
theorem dX1_fits_130 : decode cX1_fits 130 = .ok (.iconst 5, 1) := by decide +kernel
theorem dX1_fits_131 : decode cX1_fits 131 = .ok (.isub, 1) := by decide +kernel
theorem dX1_fits_132 : decode cX1_fits 132 = .ok (.bipush 6, 2) := by decide +kernel
theorem dX1_fits_134 : decode cX1_fits 134 = .ok (.idiv, 1) := by decide +kernel
theorem dX1_fits_135 : decode cX1_fits 135 = .ok (.iload_n 1, 1) := by decide +kernel
theorem dX1_fits_136 : decode cX1_fits 136 = .ok (.iconst 5, 1) := by decide +kernel
theorem dX1_fits_137 : decode cX1_fits 137 = .ok (.isub, 1) := by decide +kernel
theorem dX1_fits_138 : decode cX1_fits 138 = .ok (.bipush 6, 2) := by decide +kernel
theorem dX1_fits_140 : decode cX1_fits 140 = .ok (.irem, 1) := by decide +kernel
theorem dX1_fits_141 : decode cX1_fits 141 = .ok (.iload_n 1, 1) := by decide +kernel
theorem dX1_fits_142 : decode cX1_fits 142 = .ok (.invokevirtual 48, 3) := by decide +kernel
theorem dX1_fits_145 : decode cX1_fits 145 = .ok (.ireturn, 1) := by decide +kernel
set_option maxRecDepth 20000 in
theorem ggX1_fitsEntry_X1_kindOf : GoodIn wsX1_fitsEntry wsX1_kindOf := goodIn_r _ [5, 6, 7, 8, 4, 9, 10, 11, 12, 13, 14, 15, 16, 17, 18, 19, 20, 21, 22, 23, 24, 25, 26, 27, 28, 29, 30, 31, 32, 33, 34, 35, 36, 37, 38, 39, 40, 41, 42, 43, 44, 45, 46, 47, 48, 49, 50, 51, 52, 53, 54, 55, 56, 57, 58, 59, 60, 61, 62, 63, 64, 65, 66, 67, 68, 69, 70, 71, 72, 73, 74, 75, 76, 77, 78, 79, 80, 81, 82, 83, 84, 85, 86, 87, 88, 89, 90, 91, 92, 93, 94, 95, 96, 97, 98, 99, 100, 109, 110] (by decide +kernel) (by decide +kernel)
set_option maxRecDepth 20000 in
theorem gX1_fitsEntry_X1_kindOf : GoodIn wsX1_fitsEntry (wsV RX1 52 RX1 yX1_kindOf wsX1_kindOf) := goodIn_app (goodIn_of _ (by decide +kernel)) ggX1_fitsEntry_X1_kindOf
set_option maxRecDepth 20000 in
theorem ggX1_fitsEntry_X1_isDigit : GoodIn wsX1_fitsEntry wsX1_isDigit := goodIn_r _ [104, 6, 7, 8, 4, 9, 10, 11, 109, 110] (by decide +kernel) (by decide +kernel)
set_option maxRecDepth 20000 in
theorem gX1_fitsEntry_X1_isDigit : GoodIn wsX1_fitsEntry (wsV RX1 45 RX1 yX1_isDigit wsX1_isDigit) := goodIn_app (goodIn_of _ (by decide +kernel)) ggX1_fitsEntry_X1_isDigit
set_option maxRecDepth 20000 in
theorem ggX1_fitsEntry_X1_isNewKey : GoodIn wsX1_fitsEntry wsX1_isNewKey := goodIn_r _ [108, 6, 7, 8, 4, 9, 10, 11, 109, 110] (by decide +kernel) (by decide +kernel)
set_option maxRecDepth 20000 in
theorem gX1_fitsEntry_X1_isNewKey : GoodIn wsX1_fitsEntry (wsV RX1 55 RX1 yX1_isNewKey wsX1_isNewKey) := goodIn_app (goodIn_of _ (by decide +kernel)) ggX1_fitsEntry_X1_isNewKey
set_option maxRecDepth 20000 in
theorem ggX1_fitsEntry_X1_code : GoodIn wsX1_fitsEntry wsX1_code := goodIn_r _ [9, 10, 11, 109, 110] (by decide +kernel) (by decide +kernel)
set_option maxRecDepth 20000 in
theorem gX1_fitsEntry_X1_code : GoodIn wsX1_fitsEntry (wsV RX1 27 RX1 yX1_code wsX1_code) := goodIn_app (goodIn_of _ (by decide +kernel)) ggX1_fitsEntry_X1_code
theorem dX1_fitsEntry_0 : decode cX1_fitsEntry 0 = .ok (.iload_n 2, 1) := by decide +kernel
theorem dX1_fitsEntry_1 : decode cX1_fitsEntry 1 = .ok (.tableswitch 113 0 5 #[39, 113, 53, 75, 113, 91], 39) := by decide +kernel
theorem dX1_fitsEntry_40 : decode cX1_fitsEntry 40 = .ok (.aload_n 0, 1) := by decide +kernel
theorem dX1_fitsEntry_41 : decode cX1_fitsEntry 41 = .ok (.iload_n 1, 1) := by decide +kernel
theorem dX1_fitsEntry_42 : decode cX1_fitsEntry 42 = .ok (.invokevirtual 52, 3) := by decide +kernel
theorem dX1_fitsEntry_45 : decode cX1_fitsEntry 45 = .ok (.ifCond .lt 7, 3) := by decide +kernel
theorem dX1_fitsEntry_48 : decode cX1_fitsEntry 48 = .ok (.iconst 1, 1) := by decide +kernel
theorem dX1_fitsEntry_49 : decode cX1_fitsEntry 49 = .ok (.goto 4, 3) := by decide +kernel
theorem dX1_fitsEntry_52 : decode cX1_fitsEntry 52 = .ok (.iconst 0, 1) := by decide +kernel
theorem dX1_fitsEntry_53 : decode cX1_fitsEntry 53 = .ok (.ireturn, 1) := by decide +kernel
theorem dX1_fitsEntry_54 : decode cX1_fitsEntry 54 = .ok (.aload_n 0, 1) := by decide +kernel
theorem dX1_fitsEntry_55 : decode cX1_fitsEntry 55 = .ok (.iload_n 3, 1) := by decide +kernel
theorem dX1_fitsEntry_56 : decode cX1_fitsEntry 56 = .ok (.invokevirtual 45, 3) := by decide +kernel
theorem dX1_fitsEntry_59 : decode cX1_fitsEntry 59 = .ok (.ifCond .eq 15, 3) := by decide +kernel
theorem dX1_fitsEntry_62 : decode cX1_fitsEntry 62 = .ok (.aload_n 0, 1) := by decide +kernel
theorem dX1_fitsEntry_63 : decode cX1_fitsEntry 63 = .ok (.iload_n 1, 1) := by decide +kernel
theorem dX1_fitsEntry_64 : decode cX1_fitsEntry 64 = .ok (.invokevirtual 55, 3) := by decide +kernel
theorem dX1_fitsEntry_67 : decode cX1_fitsEntry 67 = .ok (.ifCond .eq 7, 3) := by decide +kernel
theorem dX1_fitsEntry_70 : decode cX1_fitsEntry 70 = .ok (.iconst 1, 1) := by decide +kernel
theorem dX1_fitsEntry_71 : decode cX1_fitsEntry 71 = .ok (.goto 4, 3) := by decide +kernel
theorem dX1_fitsEntry_74 : decode cX1_fitsEntry 74 = .ok (.iconst 0, 1) := by decide +kernel
theorem dX1_fitsEntry_75 : decode cX1_fitsEntry 75 = .ok (.ireturn, 1) := by decide +kernel
theorem dX1_fitsEntry_76 : decode cX1_fitsEntry 76 = .ok (.aload_n 0, 1) := by decide +kernel
theorem dX1_fitsEntry_77 : decode cX1_fitsEntry 77 = .ok (.iload_n 3, 1) := by decide +kernel
theorem dX1_fitsEntry_78 : decode cX1_fitsEntry 78 = .ok (.invokevirtual 27, 3) := by decide +kernel
theorem dX1_fitsEntry_81 : decode cX1_fitsEntry 81 = .ok (.bipush 61, 2) := by decide +kernel
theorem dX1_fitsEntry_83 : decode cX1_fitsEntry 83 = .ok (.if_icmp .ne 7, 3) := by decide +kernel
theorem dX1_fitsEntry_86 : decode cX1_fitsEntry 86 = .ok (.iconst 1, 1) := by decide +kernel
theorem dX1_fitsEntry_87 : decode cX1_fitsEntry 87 = .ok (.goto 4, 3) := by decide +kernel
theorem dX1_fitsEntry_90 : decode cX1_fitsEntry 90 = .ok (.iconst 0, 1) := by decide +kernel
theorem dX1_fitsEntry_91 : decode cX1_fitsEntry 91 = .ok (.ireturn, 1) := by decide +kernel
theorem dX1_fitsEntry_92 : decode cX1_fitsEntry 92 = .ok (.aload_n 0, 1) := by decide +kernel
theorem dX1_fitsEntry_93 : decode cX1_fitsEntry 93 = .ok (.iload_n 3, 1) := by decide +kernel
theorem dX1_fitsEntry_94 : decode cX1_fitsEntry 94 = .ok (.invokevirtual 27, 3) := by decide +kernel
theorem dX1_fitsEntry_97 : decode cX1_fitsEntry 97 = .ok (.bipush 44, 2) := by decide +kernel
theorem dX1_fitsEntry_99 : decode cX1_fitsEntry 99 = .ok (.if_icmp .ne 13, 3) := by decide +kernel
theorem dX1_fitsEntry_102 : decode cX1_fitsEntry 102 = .ok (.iload_n 1, 1) := by decide +kernel
theorem dX1_fitsEntry_103 : decode cX1_fitsEntry 103 = .ok (.bipush 7, 2) := by decide +kernel
theorem dX1_fitsEntry_105 : decode cX1_fitsEntry 105 = .ok (.if_icmp .ge 7, 3) := by decide +kernel
theorem dX1_fitsEntry_108 : decode cX1_fitsEntry 108 = .ok (.iconst 1, 1) := by decide +kernel
theorem dX1_fitsEntry_109 : decode cX1_fitsEntry 109 = .ok (.goto 4, 3) := by decide +kernel
theorem dX1_fitsEntry_112 : decode cX1_fitsEntry 112 = .ok (.iconst 0, 1) := by decide +kernel
theorem dX1_fitsEntry_113 : decode cX1_fitsEntry 113 = .ok (.ireturn, 1) := by decide +kernel
theorem dX1_fitsEntry_114 : decode cX1_fitsEntry 114 = .ok (.aload_n 0, 1) := by decide +kernel
theorem dX1_fitsEntry_115 : decode cX1_fitsEntry 115 = .ok (.iload_n 3, 1) := by decide +kernel
theorem dX1_fitsEntry_116 : decode cX1_fitsEntry 116 = .ok (.invokevirtual 45, 3) := by decide +kernel
theorem dX1_fitsEntry_119 : decode cX1_fitsEntry 119 = .ok (.ireturn, 1) := by decide +kernel
set_option maxRecDepth 20000 in
theorem ggX1_isDigit_X1_code : GoodIn wsX1_isDigit wsX1_code := goodIn_r _ [5, 6, 7, 8, 9] (by decide +kernel) (by decide +kernel)
set_option maxRecDepth 20000 in
theorem gX1_isDigit_X1_code : GoodIn wsX1_isDigit (wsV RX1 27 RX1 yX1_code wsX1_code) := goodIn_app (goodIn_of _ (by decide +kernel)) ggX1_isDigit_X1_code
theorem dX1_isDigit_0 : decode cX1_isDigit 0 = .ok (.aload_n 0, 1) := by decide +kernel
theorem dX1_isDigit_1 : decode cX1_isDigit 1 = .ok (.iload_n 1, 1) := by decide +kernel
theorem dX1_isDigit_2 : decode cX1_isDigit 2 = .ok (.invokevirtual 27, 3) := by decide +kernel
theorem dX1_isDigit_5 : decode cX1_isDigit 5 = .ok (.bipush 48, 2) := by decide +kernel
theorem dX1_isDigit_7 : decode cX1_isDigit 7 = .ok (.if_icmp .lt 17, 3) := by decide +kernel
theorem dX1_isDigit_10 : decode cX1_isDigit 10 = .ok (.aload_n 0, 1) := by decide +kernel
theorem dX1_isDigit_11 : decode cX1_isDigit 11 = .ok (.iload_n 1, 1) := by decide +kernel
theorem dX1_isDigit_12 : decode cX1_isDigit 12 = .ok (.invokevirtual 27, 3) := by decide +kernel
theorem dX1_isDigit_15 : decode cX1_isDigit 15 = .ok (.bipush 57, 2) := by decide +kernel
theorem dX1_isDigit_17 : decode cX1_isDigit 17 = .ok (.if_icmp .gt 7, 3) := by decide +kernel
theorem dX1_isDigit_20 : decode cX1_isDigit 20 = .ok (.iconst 1, 1) := by decide +kernel
theorem dX1_isDigit_21 : decode cX1_isDigit 21 = .ok (.goto 4, 3) := by decide +kernel
theorem dX1_isDigit_24 : decode cX1_isDigit 24 = .ok (.iconst 0, 1) := by decide +kernel
theorem dX1_isDigit_25 : decode cX1_isDigit 25 = .ok (.ireturn, 1) := by decide +kernel
set_option maxRecDepth 20000 in
theorem ggX1_isNewKey_X1_code : GoodIn wsX1_isNewKey wsX1_code := goodIn_r _ [5, 6, 7, 8, 9] (by decide +kernel) (by decide +kernel)
set_option maxRecDepth 20000 in
theorem gX1_isNewKey_X1_code : GoodIn wsX1_isNewKey (wsV RX1 27 RX1 yX1_code wsX1_code) := goodIn_app (goodIn_of _ (by decide +kernel)) ggX1_isNewKey_X1_code
theorem dX1_isNewKey_0 : decode cX1_isNewKey 0 = .ok (.iconst 5, 1) := by decide +kernel
theorem dX1_isNewKey_1 : decode cX1_isNewKey 1 = .ok (.iload_n 1, 1) := by decide +kernel
theorem dX1_isNewKey_2 : decode cX1_isNewKey 2 = .ok (.bipush 6, 2) := by decide +kernel
theorem dX1_isNewKey_4 : decode cX1_isNewKey 4 = .ok (.imul, 1) := by decide +kernel
theorem dX1_isNewKey_5 : decode cX1_isNewKey 5 = .ok (.iadd, 1) := by decide +kernel
theorem dX1_isNewKey_6 : decode cX1_isNewKey 6 = .ok (.istore_n 2, 1) := by decide +kernel
theorem dX1_isNewKey_7 : decode cX1_isNewKey 7 = .ok (.iconst 0, 1) := by decide +kernel
theorem dX1_isNewKey_8 : decode cX1_isNewKey 8 = .ok (.istore_n 3, 1) := by decide +kernel
theorem dX1_isNewKey_9 : decode cX1_isNewKey 9 = .ok (.iload_n 3, 1) := by decide +kernel
theorem dX1_isNewKey_10 : decode cX1_isNewKey 10 = .ok (.iload_n 1, 1) := by decide +kernel
theorem dX1_isNewKey_11 : decode cX1_isNewKey 11 = .ok (.if_icmp .ge 55, 3) := by decide +kernel
theorem dX1_isNewKey_14 : decode cX1_isNewKey 14 = .ok (.iconst 5, 1) := by decide +kernel
theorem dX1_isNewKey_15 : decode cX1_isNewKey 15 = .ok (.iload_n 3, 1) := by decide +kernel
theorem dX1_isNewKey_16 : decode cX1_isNewKey 16 = .ok (.bipush 6, 2) := by decide +kernel
theorem dX1_isNewKey_18 : decode cX1_isNewKey 18 = .ok (.imul, 1) := by decide +kernel
theorem dX1_isNewKey_19 : decode cX1_isNewKey 19 = .ok (.iadd, 1) := by decide +kernel
theorem dX1_isNewKey_20 : decode cX1_isNewKey 20 = .ok (.istore 4, 2) := by decide +kernel
theorem dX1_isNewKey_22 : decode cX1_isNewKey 22 = .ok (.aload_n 0, 1) := by decide +kernel
theorem dX1_isNewKey_23 : decode cX1_isNewKey 23 = .ok (.iload 4, 2) := by decide +kernel
theorem dX1_isNewKey_25 : decode cX1_isNewKey 25 = .ok (.iconst 1, 1) := by decide +kernel
theorem dX1_isNewKey_26 : decode cX1_isNewKey 26 = .ok (.iadd, 1) := by decide +kernel
theorem dX1_isNewKey_27 : decode cX1_isNewKey 27 = .ok (.invokevirtual 27, 3) := by decide +kernel
theorem dX1_isNewKey_30 : decode cX1_isNewKey 30 = .ok (.aload_n 0, 1) := by decide +kernel
theorem dX1_isNewKey_31 : decode cX1_isNewKey 31 = .ok (.iload_n 2, 1) := by decide +kernel
theorem dX1_isNewKey_32 : decode cX1_isNewKey 32 = .ok (.iconst 1, 1) := by decide +kernel
theorem dX1_isNewKey_33 : decode cX1_isNewKey 33 = .ok (.iadd, 1) := by decide +kernel
theorem dX1_isNewKey_34 : decode cX1_isNewKey 34 = .ok (.invokevirtual 27, 3) := by decide +kernel
theorem dX1_isNewKey_37 : decode cX1_isNewKey 37 = .ok (.if_icmp .ne 23, 3) := by decide +kernel
theorem dX1_isNewKey_40 : decode cX1_isNewKey 40 = .ok (.aload_n 0, 1) := by decide +kernel
theorem dX1_isNewKey_41 : decode cX1_isNewKey 41 = .ok (.iload 4, 2) := by decide +kernel
theorem dX1_isNewKey_43 : decode cX1_isNewKey 43 = .ok (.iconst 2, 1) := by decide +kernel
theorem dX1_isNewKey_44 : decode cX1_isNewKey 44 = .ok (.iadd, 1) := by decide +kernel
theorem dX1_isNewKey_45 : decode cX1_isNewKey 45 = .ok (.invokevirtual 27, 3) := by decide +kernel
theorem dX1_isNewKey_48 : decode cX1_isNewKey 48 = .ok (.aload_n 0, 1) := by decide +kernel
theorem dX1_isNewKey_49 : decode cX1_isNewKey 49 = .ok (.iload_n 2, 1) := by decide +kernel
theorem dX1_isNewKey_50 : decode cX1_isNewKey 50 = .ok (.iconst 2, 1) := by decide +kernel
theorem dX1_isNewKey_51 : decode cX1_isNewKey 51 = .ok (.iadd, 1) := by decide +kernel
theorem dX1_isNewKey_52 : decode cX1_isNewKey 52 = .ok (.invokevirtual 27, 3) := by decide +kernel
theorem dX1_isNewKey_55 : decode cX1_isNewKey 55 = .ok (.if_icmp .ne 5, 3) := by decide +kernel
theorem dX1_isNewKey_58 : decode cX1_isNewKey 58 = .ok (.iconst 0, 1) := by decide +kernel
theorem dX1_isNewKey_59 : decode cX1_isNewKey 59 = .ok (.ireturn, 1) := by decide +kernel
theorem dX1_isNewKey_60 : decode cX1_isNewKey 60 = .ok (.iinc 3 1, 3) := by decide +kernel
theorem dX1_isNewKey_63 : decode cX1_isNewKey 63 = .ok (.goto (-54), 3) := by decide +kernel
theorem dX1_isNewKey_66 : decode cX1_isNewKey 66 = .ok (.iconst 1, 1) := by decide +kernel
theorem dX1_isNewKey_67 : decode cX1_isNewKey 67 = .ok (.ireturn, 1) := by decide +kernel
theorem dX2_init_0 : decode cX2_init 0 = .ok (.aload_n 0, 1) := by decide +kernel
theorem dX2_init_1 : decode cX2_init 1 = .ok (.invokespecial 3, 3) := by decide +kernel
theorem dX2_init_4 : decode cX2_init 4 = .ok (.aload_n 0, 1) := by decide +kernel
theorem dX2_init_5 : decode cX2_init 5 = .ok (.bipush 6, 2) := by decide +kernel
theorem dX2_init_7 : decode cX2_init 7 = .ok (.newarray .int, 2) := by decide +kernel
theorem dX2_init_9 : decode cX2_init 9 = .ok (.putfield 11, 3) := by decide +kernel
theorem dX2_init_12 : decode cX2_init 12 = .ok (.aload_n 0, 1) := by decide +kernel
theorem dX2_init_13 : decode cX2_init 13 = .ok (.bipush 6, 2) := by decide +kernel
theorem dX2_init_15 : decode cX2_init 15 = .ok (.newarray .int, 2) := by decide +kernel
theorem dX2_init_17 : decode cX2_init 17 = .ok (.putfield 15, 3) := by decide +kernel
theorem dX2_init_20 : decode cX2_init 20 = .ok (.return_, 1) := by decide +kernel
theorem dX2_add_0 : decode cX2_add 0 = .ok (.aload_n 0, 1) := by decide +kernel
theorem dX2_add_1 : decode cX2_add 1 = .ok (.getfield 18, 3) := by decide +kernel
theorem dX2_add_4 : decode cX2_add 4 = .ok (.aload_n 0, 1) := by decide +kernel
theorem dX2_add_5 : decode cX2_add 5 = .ok (.getfield 11, 3) := by decide +kernel
theorem dX2_add_8 : decode cX2_add 8 = .ok (.arraylength, 1) := by decide +kernel
theorem dX2_add_9 : decode cX2_add 9 = .ok (.if_icmp .lt 5, 3) := by decide +kernel
theorem dX2_add_12 : decode cX2_add 12 = .ok (.iconst 0, 1) := by decide +kernel
theorem dX2_add_13 : decode cX2_add 13 = .ok (.ireturn, 1) := by decide +kernel
theorem dX2_add_14 : decode cX2_add 14 = .ok (.aload_n 0, 1) := by decide +kernel
theorem dX2_add_15 : decode cX2_add 15 = .ok (.getfield 11, 3) := by decide +kernel
theorem dX2_add_18 : decode cX2_add 18 = .ok (.aload_n 0, 1) := by decide +kernel
theorem dX2_add_19 : decode cX2_add 19 = .ok (.getfield 18, 3) := by decide +kernel
theorem dX2_add_22 : decode cX2_add 22 = .ok (.iload_n 1, 1) := by decide +kernel
theorem dX2_add_23 : decode cX2_add 23 = .ok (.iastore, 1) := by decide +kernel
theorem dX2_add_24 : decode cX2_add 24 = .ok (.aload_n 0, 1) := by decide +kernel
theorem dX2_add_25 : decode cX2_add 25 = .ok (.getfield 15, 3) := by decide +kernel
theorem dX2_add_28 : decode cX2_add 28 = .ok (.aload_n 0, 1) := by decide +kernel
theorem dX2_add_29 : decode cX2_add 29 = .ok (.getfield 18, 3) := by decide +kernel
theorem dX2_add_32 : decode cX2_add 32 = .ok (.iload_n 2, 1) := by decide +kernel
theorem dX2_add_33 : decode cX2_add 33 = .ok (.iastore, 1) := by decide +kernel
theorem dX2_add_34 : decode cX2_add 34 = .ok (.aload_n 0, 1) := by decide +kernel
theorem dX2_add_35 : decode cX2_add 35 = .ok (.dup, 1) := by decide +kernel
theorem dX2_add_36 : decode cX2_add 36 = .ok (.getfield 18, 3) := by decide +kernel
theorem dX2_add_39 : decode cX2_add 39 = .ok (.iconst 1, 1) := by decide +kernel
theorem dX2_add_40 : decode cX2_add 40 = .ok (.iadd, 1) := by decide +kernel
theorem dX2_add_41 : decode cX2_add 41 = .ok (.putfield 18, 3) := by decide +kernel
theorem dX2_add_44 : decode cX2_add 44 = .ok (.iconst 1, 1) := by decide +kernel
theorem dX2_add_45 : decode cX2_add 45 = .ok (.ireturn, 1) := by decide +kernel
theorem dX2_sortsOf_0 : decode cX2_sortsOf 0 = .ok (.bipush 31, 2) := by decide +kernel
theorem dX2_sortsOf_2 : decode cX2_sortsOf 2 = .ok (.istore_n 2, 1) := by decide +kernel
theorem dX2_sortsOf_3 : decode cX2_sortsOf 3 = .ok (.iconst 0, 1) := by decide +kernel
theorem dX2_sortsOf_4 : decode cX2_sortsOf 4 = .ok (.istore_n 3, 1) := by decide +kernel
theorem dX2_sortsOf_5 : decode cX2_sortsOf 5 = .ok (.iload_n 3, 1) := by decide +kernel
theorem dX2_sortsOf_6 : decode cX2_sortsOf 6 = .ok (.aload_n 0, 1) := by decide +kernel
theorem dX2_sortsOf_7 : decode cX2_sortsOf 7 = .ok (.getfield 18, 3) := by decide +kernel
theorem dX2_sortsOf_10 : decode cX2_sortsOf 10 = .ok (.if_icmp .ge 28, 3) := by decide +kernel
theorem dX2_sortsOf_13 : decode cX2_sortsOf 13 = .ok (.aload_n 0, 1) := by decide +kernel
theorem dX2_sortsOf_14 : decode cX2_sortsOf 14 = .ok (.getfield 11, 3) := by decide +kernel
theorem dX2_sortsOf_17 : decode cX2_sortsOf 17 = .ok (.iload_n 3, 1) := by decide +kernel
theorem dX2_sortsOf_18 : decode cX2_sortsOf 18 = .ok (.iaload, 1) := by decide +kernel
theorem dX2_sortsOf_19 : decode cX2_sortsOf 19 = .ok (.iload_n 1, 1) := by decide +kernel
theorem dX2_sortsOf_20 : decode cX2_sortsOf 20 = .ok (.if_icmp .ne 12, 3) := by decide +kernel
theorem dX2_sortsOf_23 : decode cX2_sortsOf 23 = .ok (.iload_n 2, 1) := by decide +kernel
theorem dX2_sortsOf_24 : decode cX2_sortsOf 24 = .ok (.aload_n 0, 1) := by decide +kernel
theorem dX2_sortsOf_25 : decode cX2_sortsOf 25 = .ok (.getfield 15, 3) := by decide +kernel
theorem dX2_sortsOf_28 : decode cX2_sortsOf 28 = .ok (.iload_n 3, 1) := by decide +kernel
theorem dX2_sortsOf_29 : decode cX2_sortsOf 29 = .ok (.iaload, 1) := by decide +kernel
theorem dX2_sortsOf_30 : decode cX2_sortsOf 30 = .ok (.iand, 1) := by decide +kernel
theorem dX2_sortsOf_31 : decode cX2_sortsOf 31 = .ok (.istore_n 2, 1) := by decide +kernel
theorem dX2_sortsOf_32 : decode cX2_sortsOf 32 = .ok (.iinc 3 1, 3) := by decide +kernel
theorem dX2_sortsOf_35 : decode cX2_sortsOf 35 = .ok (.goto (-30), 3) := by decide +kernel
theorem dX2_sortsOf_38 : decode cX2_sortsOf 38 = .ok (.iload_n 2, 1) := by decide +kernel
theorem dX2_sortsOf_39 : decode cX2_sortsOf 39 = .ok (.ireturn, 1) := by decide +kernel
theorem dX2_copy_0 : decode cX2_copy 0 = .ok (.aload_n 1, 1) := by decide +kernel
theorem dX2_copy_1 : decode cX2_copy 1 = .ok (.getfield 11, 3) := by decide +kernel
theorem dX2_copy_4 : decode cX2_copy 4 = .ok (.iconst 0, 1) := by decide +kernel
theorem dX2_copy_5 : decode cX2_copy 5 = .ok (.aload_n 0, 1) := by decide +kernel
theorem dX2_copy_6 : decode cX2_copy 6 = .ok (.getfield 11, 3) := by decide +kernel
theorem dX2_copy_9 : decode cX2_copy 9 = .ok (.iconst 0, 1) := by decide +kernel
theorem dX2_copy_10 : decode cX2_copy 10 = .ok (.bipush 6, 2) := by decide +kernel
theorem dX2_copy_12 : decode cX2_copy 12 = .ok (.invokestatic 22, 3) := by decide +kernel
theorem dX2_copy_15 : decode cX2_copy 15 = .ok (.aload_n 1, 1) := by decide +kernel
theorem dX2_copy_16 : decode cX2_copy 16 = .ok (.getfield 15, 3) := by decide +kernel
theorem dX2_copy_19 : decode cX2_copy 19 = .ok (.iconst 0, 1) := by decide +kernel
theorem dX2_copy_20 : decode cX2_copy 20 = .ok (.aload_n 0, 1) := by decide +kernel
theorem dX2_copy_21 : decode cX2_copy 21 = .ok (.getfield 15, 3) := by decide +kernel
theorem dX2_copy_24 : decode cX2_copy 24 = .ok (.iconst 0, 1) := by decide +kernel
theorem dX2_copy_25 : decode cX2_copy 25 = .ok (.bipush 6, 2) := by decide +kernel
theorem dX2_copy_27 : decode cX2_copy 27 = .ok (.invokestatic 22, 3) := by decide +kernel
theorem dX2_copy_30 : decode cX2_copy 30 = .ok (.aload_n 0, 1) := by decide +kernel
theorem dX2_copy_31 : decode cX2_copy 31 = .ok (.aload_n 1, 1) := by decide +kernel
theorem dX2_copy_32 : decode cX2_copy 32 = .ok (.getfield 18, 3) := by decide +kernel
theorem dX2_copy_35 : decode cX2_copy 35 = .ok (.putfield 18, 3) := by decide +kernel
theorem dX2_copy_38 : decode cX2_copy 38 = .ok (.return_, 1) := by decide +kernel
set_option maxRecDepth 20000 in
theorem ggX3_init_X4_init : GoodIn wsX3_init wsX4_init := goodIn_r _ [20, 21, 2, 3, 8, 22, 23, 24, 25, 26, 27, 37, 38, 39, 40, 41, 42, 43, 44, 45, 46, 47, 48] (by decide +kernel) (by decide +kernel)
set_option maxRecDepth 20000 in
theorem gX3_init_X4_init_n11 : GoodIn wsX3_init (wsX4_init) := ggX3_init_X4_init
set_option maxRecDepth 20000 in
theorem ggX3_init_X0_init : GoodIn wsX3_init wsX0_init := goodIn_r _ [29, 30, 2, 3, 8, 31, 57, 58] (by decide +kernel) (by decide +kernel)
set_option maxRecDepth 20000 in
theorem gX3_init_X0_init_n27 : GoodIn wsX3_init (wsX0_init) := ggX3_init_X0_init
set_option maxRecDepth 20000 in
theorem ggX3_init_X2_init : GoodIn wsX3_init wsX2_init := goodIn_r _ [33, 34, 2, 3, 8, 35, 36, 59, 60, 61] (by decide +kernel) (by decide +kernel)
set_option maxRecDepth 20000 in
theorem gX3_init_X2_init_n34 : GoodIn wsX3_init (wsX2_init) := ggX3_init_X2_init
theorem dX3_init_0 : decode cX3_init 0 = .ok (.aload_n 0, 1) := by decide +kernel
theorem dX3_init_1 : decode cX3_init 1 = .ok (.invokespecial 3, 3) := by decide +kernel
theorem dX3_init_4 : decode cX3_init 4 = .ok (.aload_n 0, 1) := by decide +kernel
theorem dX3_init_5 : decode cX3_init 5 = .ok (.new 9, 3) := by decide +kernel
theorem dX3_init_8 : decode cX3_init 8 = .ok (.dup, 1) := by decide +kernel
theorem dX3_init_9 : decode cX3_init 9 = .ok (.invokespecial 11, 3) := by decide +kernel
theorem dX3_init_12 : decode cX3_init 12 = .ok (.putfield 12, 3) := by decide +kernel
theorem dX3_init_15 : decode cX3_init 15 = .ok (.aload_n 0, 1) := by decide +kernel
theorem dX3_init_16 : decode cX3_init 16 = .ok (.bipush 100, 2) := by decide +kernel
theorem dX3_init_18 : decode cX3_init 18 = .ok (.newarray .int, 2) := by decide +kernel
theorem dX3_init_20 : decode cX3_init 20 = .ok (.putfield 18, 3) := by decide +kernel
theorem dX3_init_23 : decode cX3_init 23 = .ok (.aload_n 0, 1) := by decide +kernel
theorem dX3_init_24 : decode cX3_init 24 = .ok (.bipush 100, 2) := by decide +kernel
theorem dX3_init_26 : decode cX3_init 26 = .ok (.newarray .int, 2) := by decide +kernel
theorem dX3_init_28 : decode cX3_init 28 = .ok (.putfield 22, 3) := by decide +kernel
theorem dX3_init_31 : decode cX3_init 31 = .ok (.aload_n 0, 1) := by decide +kernel
theorem dX3_init_32 : decode cX3_init 32 = .ok (.new 25, 3) := by decide +kernel
theorem dX3_init_35 : decode cX3_init 35 = .ok (.dup, 1) := by decide +kernel
theorem dX3_init_36 : decode cX3_init 36 = .ok (.invokespecial 27, 3) := by decide +kernel
theorem dX3_init_39 : decode cX3_init 39 = .ok (.putfield 28, 3) := by decide +kernel
theorem dX3_init_42 : decode cX3_init 42 = .ok (.aload_n 0, 1) := by decide +kernel
theorem dX3_init_43 : decode cX3_init 43 = .ok (.new 32, 3) := by decide +kernel
theorem dX3_init_46 : decode cX3_init 46 = .ok (.dup, 1) := by decide +kernel
theorem dX3_init_47 : decode cX3_init 47 = .ok (.invokespecial 34, 3) := by decide +kernel
theorem dX3_init_50 : decode cX3_init 50 = .ok (.putfield 35, 3) := by decide +kernel
theorem dX3_init_53 : decode cX3_init 53 = .ok (.return_, 1) := by decide +kernel
set_option maxRecDepth 20000 in
theorem ggX3_begin_X4_begin : GoodIn wsX3_begin wsX4_begin := goodIn_r _ [13, 14, 15, 16, 17, 18, 19, 20, 21, 22, 23, 24, 25, 39, 40, 41, 42, 43, 44, 45, 46, 47, 48, 49, 50] (by decide +kernel) (by decide +kernel)
set_option maxRecDepth 20000 in
theorem gX3_begin_X4_begin : GoodIn wsX3_begin (wsV RX3 39 RX4 yX4_begin wsX4_begin) := goodIn_app (goodIn_of _ (by decide +kernel)) ggX3_begin_X4_begin
theorem dX3_begin_0 : decode cX3_begin 0 = .ok (.aload_n 0, 1) := by decide +kernel
theorem dX3_begin_1 : decode cX3_begin 1 = .ok (.getfield 12, 3) := by decide +kernel
theorem dX3_begin_4 : decode cX3_begin 4 = .ok (.iload_n 1, 1) := by decide +kernel
theorem dX3_begin_5 : decode cX3_begin 5 = .ok (.iload_n 2, 1) := by decide +kernel
theorem dX3_begin_6 : decode cX3_begin 6 = .ok (.invokevirtual 39, 3) := by decide +kernel
theorem dX3_begin_9 : decode cX3_begin 9 = .ok (.aload_n 0, 1) := by decide +kernel
theorem dX3_begin_10 : decode cX3_begin 10 = .ok (.getfield 28, 3) := by decide +kernel
theorem dX3_begin_13 : decode cX3_begin 13 = .ok (.iconst 0, 1) := by decide +kernel
theorem dX3_begin_14 : decode cX3_begin 14 = .ok (.putfield 43, 3) := by decide +kernel
theorem dX3_begin_17 : decode cX3_begin 17 = .ok (.aload_n 0, 1) := by decide +kernel
theorem dX3_begin_18 : decode cX3_begin 18 = .ok (.getfield 35, 3) := by decide +kernel
theorem dX3_begin_21 : decode cX3_begin 21 = .ok (.iconst 0, 1) := by decide +kernel
theorem dX3_begin_22 : decode cX3_begin 22 = .ok (.putfield 47, 3) := by decide +kernel
theorem dX3_begin_25 : decode cX3_begin 25 = .ok (.aload_n 0, 1) := by decide +kernel
theorem dX3_begin_26 : decode cX3_begin 26 = .ok (.iload_n 3, 1) := by decide +kernel
theorem dX3_begin_27 : decode cX3_begin 27 = .ok (.putfield 48, 3) := by decide +kernel
theorem dX3_begin_30 : decode cX3_begin 30 = .ok (.aload_n 0, 1) := by decide +kernel
theorem dX3_begin_31 : decode cX3_begin 31 = .ok (.iconst 0, 1) := by decide +kernel
theorem dX3_begin_32 : decode cX3_begin 32 = .ok (.putfield 51, 3) := by decide +kernel
theorem dX3_begin_35 : decode cX3_begin 35 = .ok (.aload_n 0, 1) := by decide +kernel
theorem dX3_begin_36 : decode cX3_begin 36 = .ok (.iconst 0, 1) := by decide +kernel
theorem dX3_begin_37 : decode cX3_begin 37 = .ok (.putfield 54, 3) := by decide +kernel
theorem dX3_begin_40 : decode cX3_begin 40 = .ok (.return_, 1) := by decide +kernel
set_option maxRecDepth 20000 in
theorem ggX3_copy_X4_copy : GoodIn wsX3_copy wsX4_copy := goodIn_r _ [17, 18, 19, 4, 5, 6, 20, 21, 22, 23, 24, 25, 26, 27, 28, 54, 55, 56, 57, 58, 59, 60, 61, 62, 63, 64, 65] (by decide +kernel) (by decide +kernel)
set_option maxRecDepth 20000 in
theorem gX3_copy_X4_copy : GoodIn wsX3_copy (wsV RX3 57 RX4 yX4_copy wsX4_copy) := goodIn_app (goodIn_of _ (by decide +kernel)) ggX3_copy_X4_copy
set_option maxRecDepth 20000 in
theorem ggX3_copy_X0_copy : GoodIn wsX3_copy wsX0_copy := goodIn_r _ [33, 34, 35, 4, 5, 6, 36, 66, 67] (by decide +kernel) (by decide +kernel)
set_option maxRecDepth 20000 in
theorem gX3_copy_X0_copy : GoodIn wsX3_copy (wsV RX3 67 RX0 yX0_copy wsX0_copy) := goodIn_app (goodIn_of _ (by decide +kernel)) ggX3_copy_X0_copy
set_option maxRecDepth 20000 in
theorem ggX3_copy_X2_copy : GoodIn wsX3_copy wsX2_copy := goodIn_r _ [41, 42, 43, 4, 5, 6, 44, 45, 68, 69, 70] (by decide +kernel) (by decide +kernel)
set_option maxRecDepth 20000 in
theorem gX3_copy_X2_copy : GoodIn wsX3_copy (wsV RX3 70 RX2 yX2_copy wsX2_copy) := goodIn_app (goodIn_of _ (by decide +kernel)) ggX3_copy_X2_copy
theorem dX3_copy_0 : decode cX3_copy 0 = .ok (.aload_n 0, 1) := by decide +kernel
theorem dX3_copy_1 : decode cX3_copy 1 = .ok (.getfield 12, 3) := by decide +kernel
theorem dX3_copy_4 : decode cX3_copy 4 = .ok (.aload_n 1, 1) := by decide +kernel
theorem dX3_copy_5 : decode cX3_copy 5 = .ok (.getfield 12, 3) := by decide +kernel
theorem dX3_copy_8 : decode cX3_copy 8 = .ok (.invokevirtual 57, 3) := by decide +kernel
theorem dX3_copy_11 : decode cX3_copy 11 = .ok (.aload_n 1, 1) := by decide +kernel
theorem dX3_copy_12 : decode cX3_copy 12 = .ok (.getfield 18, 3) := by decide +kernel
theorem dX3_copy_15 : decode cX3_copy 15 = .ok (.iconst 0, 1) := by decide +kernel
theorem dX3_copy_16 : decode cX3_copy 16 = .ok (.aload_n 0, 1) := by decide +kernel
theorem dX3_copy_17 : decode cX3_copy 17 = .ok (.getfield 18, 3) := by decide +kernel
theorem dX3_copy_20 : decode cX3_copy 20 = .ok (.iconst 0, 1) := by decide +kernel
theorem dX3_copy_21 : decode cX3_copy 21 = .ok (.bipush 100, 2) := by decide +kernel
theorem dX3_copy_23 : decode cX3_copy 23 = .ok (.invokestatic 61, 3) := by decide +kernel
theorem dX3_copy_26 : decode cX3_copy 26 = .ok (.aload_n 1, 1) := by decide +kernel
theorem dX3_copy_27 : decode cX3_copy 27 = .ok (.getfield 22, 3) := by decide +kernel
theorem dX3_copy_30 : decode cX3_copy 30 = .ok (.iconst 0, 1) := by decide +kernel
theorem dX3_copy_31 : decode cX3_copy 31 = .ok (.aload_n 0, 1) := by decide +kernel
theorem dX3_copy_32 : decode cX3_copy 32 = .ok (.getfield 22, 3) := by decide +kernel
theorem dX3_copy_35 : decode cX3_copy 35 = .ok (.iconst 0, 1) := by decide +kernel
theorem dX3_copy_36 : decode cX3_copy 36 = .ok (.bipush 100, 2) := by decide +kernel
theorem dX3_copy_38 : decode cX3_copy 38 = .ok (.invokestatic 61, 3) := by decide +kernel
theorem dX3_copy_41 : decode cX3_copy 41 = .ok (.aload_n 0, 1) := by decide +kernel
theorem dX3_copy_42 : decode cX3_copy 42 = .ok (.getfield 28, 3) := by decide +kernel
theorem dX3_copy_45 : decode cX3_copy 45 = .ok (.aload_n 1, 1) := by decide +kernel
theorem dX3_copy_46 : decode cX3_copy 46 = .ok (.getfield 28, 3) := by decide +kernel
theorem dX3_copy_49 : decode cX3_copy 49 = .ok (.invokevirtual 67, 3) := by decide +kernel
theorem dX3_copy_52 : decode cX3_copy 52 = .ok (.aload_n 0, 1) := by decide +kernel
theorem dX3_copy_53 : decode cX3_copy 53 = .ok (.getfield 35, 3) := by decide +kernel
theorem dX3_copy_56 : decode cX3_copy 56 = .ok (.aload_n 1, 1) := by decide +kernel
theorem dX3_copy_57 : decode cX3_copy 57 = .ok (.getfield 35, 3) := by decide +kernel
theorem dX3_copy_60 : decode cX3_copy 60 = .ok (.invokevirtual 70, 3) := by decide +kernel
theorem dX3_copy_63 : decode cX3_copy 63 = .ok (.aload_n 0, 1) := by decide +kernel
theorem dX3_copy_64 : decode cX3_copy 64 = .ok (.aload_n 1, 1) := by decide +kernel
theorem dX3_copy_65 : decode cX3_copy 65 = .ok (.getfield 48, 3) := by decide +kernel
theorem dX3_copy_68 : decode cX3_copy 68 = .ok (.putfield 48, 3) := by decide +kernel
theorem dX3_copy_71 : decode cX3_copy 71 = .ok (.aload_n 0, 1) := by decide +kernel
theorem dX3_copy_72 : decode cX3_copy 72 = .ok (.aload_n 1, 1) := by decide +kernel
theorem dX3_copy_73 : decode cX3_copy 73 = .ok (.getfield 51, 3) := by decide +kernel
theorem dX3_copy_76 : decode cX3_copy 76 = .ok (.putfield 51, 3) := by decide +kernel
theorem dX3_copy_79 : decode cX3_copy 79 = .ok (.aload_n 0, 1) := by decide +kernel
theorem dX3_copy_80 : decode cX3_copy 80 = .ok (.aload_n 1, 1) := by decide +kernel
theorem dX3_copy_81 : decode cX3_copy 81 = .ok (.getfield 54, 3) := by decide +kernel
theorem dX3_copy_84 : decode cX3_copy 84 = .ok (.putfield 54, 3) := by decide +kernel
theorem dX3_copy_87 : decode cX3_copy 87 = .ok (.return_, 1) := by decide +kernel
set_option maxRecDepth 20000 in
theorem ggX3_place_X4_has : GoodIn wsX3_place wsX4_has := goodIn_r _ [11, 12, 94, 95, 96, 97, 98, 99, 100, 101, 102, 103, 104, 105] (by decide +kernel) (by decide +kernel)
set_option maxRecDepth 20000 in
theorem gX3_place_X4_has : GoodIn wsX3_place (wsV RX3 73 RX4 yX4_has wsX4_has) := goodIn_app (goodIn_of _ (by decide +kernel)) ggX3_place_X4_has
set_option maxRecDepth 20000 in
theorem ggX3_place_X0_add : GoodIn wsX3_place wsX0_add := goodIn_r _ [17, 18, 19, 106, 107] (by decide +kernel) (by decide +kernel)
set_option maxRecDepth 20000 in
theorem gX3_place_X0_add : GoodIn wsX3_place (wsV RX3 77 RX0 yX0_add wsX0_add) := goodIn_app (goodIn_of _ (by decide +kernel)) ggX3_place_X0_add
set_option maxRecDepth 20000 in
theorem ggX3_place_X4_walk : GoodIn wsX3_place wsX4_walk := goodIn_r _ [23, 24, 25, 26, 27, 28, 8, 9, 10, 11, 12, 94, 95, 96, 97, 98, 99, 100, 101, 102, 103, 104, 105] (by decide +kernel) (by decide +kernel)
set_option maxRecDepth 20000 in
theorem gX3_place_X4_walk : GoodIn wsX3_place (wsV RX3 81 RX4 yX4_walk wsX4_walk) := goodIn_app (goodIn_of _ (by decide +kernel)) ggX3_place_X4_walk
set_option maxRecDepth 20000 in
theorem ggX3_place_X4_add : GoodIn wsX3_place wsX4_add := goodIn_r _ [32, 26, 27, 12, 33, 34, 35, 36, 37, 38, 39, 21, 22, 10, 23, 24, 25, 28, 8, 9, 11, 40, 41, 42, 43, 44, 45, 46, 47, 48, 49, 50, 51, 52, 53, 54, 55, 56, 57, 58, 59, 60, 61, 62, 63, 64, 65, 66, 67, 68, 69, 70, 71, 72, 73, 74, 75, 76, 77, 78, 94, 95, 96, 97, 98, 99, 100, 101, 102, 103, 104, 105] (by decide +kernel) (by decide +kernel)
set_option maxRecDepth 20000 in
theorem gX3_place_X4_add : GoodIn wsX3_place (wsV RX3 85 RX4 yX4_add wsX4_add) := goodIn_app (goodIn_of _ (by decide +kernel)) ggX3_place_X4_add
set_option maxRecDepth 20000 in
theorem ggX3_place_X3_settle : GoodIn wsX3_place wsX3_settle := goodIn_r _ [83, 5, 84, 85, 45, 37, 46, 86, 87, 88, 89, 90, 91, 92, 93] (by decide +kernel) (by decide +kernel)
set_option maxRecDepth 20000 in
theorem gX3_place_X3_settle : GoodIn wsX3_place (wsV RX3 87 RX3 yX3_settle wsX3_settle) := goodIn_app (goodIn_of _ (by decide +kernel)) ggX3_place_X3_settle
theorem dX3_place_0 : decode cX3_place 0 = .ok (.aload_n 0, 1) := by decide +kernel
theorem dX3_place_1 : decode cX3_place 1 = .ok (.getfield 18, 3) := by decide +kernel
theorem dX3_place_4 : decode cX3_place 4 = .ok (.iload_n 2, 1) := by decide +kernel
theorem dX3_place_5 : decode cX3_place 5 = .ok (.iload_n 1, 1) := by decide +kernel
theorem dX3_place_6 : decode cX3_place 6 = .ok (.iastore, 1) := by decide +kernel
theorem dX3_place_7 : decode cX3_place 7 = .ok (.aload_n 0, 1) := by decide +kernel
theorem dX3_place_8 : decode cX3_place 8 = .ok (.getfield 22, 3) := by decide +kernel
theorem dX3_place_11 : decode cX3_place 11 = .ok (.iload_n 2, 1) := by decide +kernel
theorem dX3_place_12 : decode cX3_place 12 = .ok (.iload_n 3, 1) := by decide +kernel
theorem dX3_place_13 : decode cX3_place 13 = .ok (.iastore, 1) := by decide +kernel
theorem dX3_place_14 : decode cX3_place 14 = .ok (.aload_n 0, 1) := by decide +kernel
theorem dX3_place_15 : decode cX3_place 15 = .ok (.getfield 12, 3) := by decide +kernel
theorem dX3_place_18 : decode cX3_place 18 = .ok (.iload_n 2, 1) := by decide +kernel
theorem dX3_place_19 : decode cX3_place 19 = .ok (.invokevirtual 73, 3) := by decide +kernel
theorem dX3_place_22 : decode cX3_place 22 = .ok (.ifCond .eq 5, 3) := by decide +kernel
theorem dX3_place_25 : decode cX3_place 25 = .ok (.iconst 0, 1) := by decide +kernel
theorem dX3_place_26 : decode cX3_place 26 = .ok (.ireturn, 1) := by decide +kernel
theorem dX3_place_27 : decode cX3_place 27 = .ok (.aload_n 0, 1) := by decide +kernel
theorem dX3_place_28 : decode cX3_place 28 = .ok (.getfield 28, 3) := by decide +kernel
theorem dX3_place_31 : decode cX3_place 31 = .ok (.iload_n 2, 1) := by decide +kernel
theorem dX3_place_32 : decode cX3_place 32 = .ok (.invokevirtual 77, 3) := by decide +kernel
theorem dX3_place_35 : decode cX3_place 35 = .ok (.aload_n 0, 1) := by decide +kernel
theorem dX3_place_36 : decode cX3_place 36 = .ok (.dup, 1) := by decide +kernel
theorem dX3_place_37 : decode cX3_place 37 = .ok (.getfield 51, 3) := by decide +kernel
theorem dX3_place_40 : decode cX3_place 40 = .ok (.aload_n 0, 1) := by decide +kernel
theorem dX3_place_41 : decode cX3_place 41 = .ok (.getfield 48, 3) := by decide +kernel
theorem dX3_place_44 : decode cX3_place 44 = .ok (.aload_n 0, 1) := by decide +kernel
theorem dX3_place_45 : decode cX3_place 45 = .ok (.getfield 12, 3) := by decide +kernel
theorem dX3_place_48 : decode cX3_place 48 = .ok (.iload_n 2, 1) := by decide +kernel
theorem dX3_place_49 : decode cX3_place 49 = .ok (.invokevirtual 81, 3) := by decide +kernel
theorem dX3_place_52 : decode cX3_place 52 = .ok (.iconst 1, 1) := by decide +kernel
theorem dX3_place_53 : decode cX3_place 53 = .ok (.iadd, 1) := by decide +kernel
theorem dX3_place_54 : decode cX3_place 54 = .ok (.imul, 1) := by decide +kernel
theorem dX3_place_55 : decode cX3_place 55 = .ok (.iadd, 1) := by decide +kernel
theorem dX3_place_56 : decode cX3_place 56 = .ok (.putfield 51, 3) := by decide +kernel
theorem dX3_place_59 : decode cX3_place 59 = .ok (.aload_n 0, 1) := by decide +kernel
theorem dX3_place_60 : decode cX3_place 60 = .ok (.getfield 12, 3) := by decide +kernel
theorem dX3_place_63 : decode cX3_place 63 = .ok (.iload_n 2, 1) := by decide +kernel
theorem dX3_place_64 : decode cX3_place 64 = .ok (.invokevirtual 85, 3) := by decide +kernel
theorem dX3_place_67 : decode cX3_place 67 = .ok (.istore 4, 2) := by decide +kernel
theorem dX3_place_69 : decode cX3_place 69 = .ok (.aload_n 0, 1) := by decide +kernel
theorem dX3_place_70 : decode cX3_place 70 = .ok (.iload 4, 2) := by decide +kernel
theorem dX3_place_72 : decode cX3_place 72 = .ok (.invokevirtual 87, 3) := by decide +kernel
theorem dX3_place_75 : decode cX3_place 75 = .ok (.iload 4, 2) := by decide +kernel
theorem dX3_place_77 : decode cX3_place 77 = .ok (.ireturn, 1) := by decide +kernel
set_option maxRecDepth 20000 in
theorem ggX3_remove_X0_add : GoodIn wsX3_remove wsX0_add := goodIn_r _ [9, 10, 11, 95, 96] (by decide +kernel) (by decide +kernel)
set_option maxRecDepth 20000 in
theorem gX3_remove_X0_add : GoodIn wsX3_remove (wsV RX3 77 RX0 yX0_add wsX0_add) := goodIn_app (goodIn_of _ (by decide +kernel)) ggX3_remove_X0_add
set_option maxRecDepth 20000 in
theorem ggX3_remove_X4_walk : GoodIn wsX3_remove wsX4_walk := goodIn_r _ [16, 17, 18, 19, 20, 21, 22, 23, 15, 24, 25, 97, 98, 99, 100, 101, 102, 103, 104, 105, 106, 107, 108] (by decide +kernel) (by decide +kernel)
set_option maxRecDepth 20000 in
theorem gX3_remove_X4_walk : GoodIn wsX3_remove (wsV RX3 81 RX4 yX4_walk wsX4_walk) := goodIn_app (goodIn_of _ (by decide +kernel)) ggX3_remove_X4_walk
set_option maxRecDepth 20000 in
theorem ggX3_remove_X4_drop : GoodIn wsX3_remove wsX4_drop := goodIn_r _ [29, 25, 30, 31, 32, 13, 14, 15, 16, 17, 18, 19, 20, 21, 22, 23, 24, 33, 34, 35, 36, 37, 38, 39, 40, 41, 42, 43, 44, 45, 46, 47, 48, 49, 50, 51, 52, 53, 54, 55, 56, 57, 58, 59, 60, 61, 62, 63, 64, 65, 66, 67, 68, 69, 70, 71, 72, 73, 74, 75, 76, 97, 98, 99, 100, 101, 102, 103, 104, 105, 106, 107, 108] (by decide +kernel) (by decide +kernel)
set_option maxRecDepth 20000 in
theorem gX3_remove_X4_drop : GoodIn wsX3_remove (wsV RX3 90 RX4 yX4_drop wsX4_drop) := goodIn_app (goodIn_of _ (by decide +kernel)) ggX3_remove_X4_drop
set_option maxRecDepth 20000 in
theorem ggX3_remove_X3_settle : GoodIn wsX3_remove wsX3_settle := goodIn_r _ [81, 2, 82, 83, 84, 85, 86, 87, 88, 89, 90, 91, 92, 93, 94] (by decide +kernel) (by decide +kernel)
set_option maxRecDepth 20000 in
theorem gX3_remove_X3_settle : GoodIn wsX3_remove (wsV RX3 87 RX3 yX3_settle wsX3_settle) := goodIn_app (goodIn_of _ (by decide +kernel)) ggX3_remove_X3_settle
theorem dX3_remove_0 : decode cX3_remove 0 = .ok (.aload_n 0, 1) := by decide +kernel
theorem dX3_remove_1 : decode cX3_remove 1 = .ok (.getfield 28, 3) := by decide +kernel
theorem dX3_remove_4 : decode cX3_remove 4 = .ok (.iload_n 1, 1) := by decide +kernel
theorem dX3_remove_5 : decode cX3_remove 5 = .ok (.invokevirtual 77, 3) := by decide +kernel
theorem dX3_remove_8 : decode cX3_remove 8 = .ok (.aload_n 0, 1) := by decide +kernel
theorem dX3_remove_9 : decode cX3_remove 9 = .ok (.dup, 1) := by decide +kernel
theorem dX3_remove_10 : decode cX3_remove 10 = .ok (.getfield 51, 3) := by decide +kernel
theorem dX3_remove_13 : decode cX3_remove 13 = .ok (.aload_n 0, 1) := by decide +kernel
theorem dX3_remove_14 : decode cX3_remove 14 = .ok (.getfield 48, 3) := by decide +kernel
theorem dX3_remove_17 : decode cX3_remove 17 = .ok (.aload_n 0, 1) := by decide +kernel
theorem dX3_remove_18 : decode cX3_remove 18 = .ok (.getfield 12, 3) := by decide +kernel
theorem dX3_remove_21 : decode cX3_remove 21 = .ok (.iload_n 1, 1) := by decide +kernel
theorem dX3_remove_22 : decode cX3_remove 22 = .ok (.invokevirtual 81, 3) := by decide +kernel
theorem dX3_remove_25 : decode cX3_remove 25 = .ok (.imul, 1) := by decide +kernel
theorem dX3_remove_26 : decode cX3_remove 26 = .ok (.iadd, 1) := by decide +kernel
theorem dX3_remove_27 : decode cX3_remove 27 = .ok (.putfield 51, 3) := by decide +kernel
theorem dX3_remove_30 : decode cX3_remove 30 = .ok (.aload_n 0, 1) := by decide +kernel
theorem dX3_remove_31 : decode cX3_remove 31 = .ok (.aload_n 0, 1) := by decide +kernel
theorem dX3_remove_32 : decode cX3_remove 32 = .ok (.getfield 12, 3) := by decide +kernel
theorem dX3_remove_35 : decode cX3_remove 35 = .ok (.iload_n 1, 1) := by decide +kernel
theorem dX3_remove_36 : decode cX3_remove 36 = .ok (.invokevirtual 90, 3) := by decide +kernel
theorem dX3_remove_39 : decode cX3_remove 39 = .ok (.invokevirtual 87, 3) := by decide +kernel
theorem dX3_remove_42 : decode cX3_remove 42 = .ok (.return_, 1) := by decide +kernel
theorem dX3_settle_0 : decode cX3_settle 0 = .ok (.aload_n 0, 1) := by decide +kernel
theorem dX3_settle_1 : decode cX3_settle 1 = .ok (.dup, 1) := by decide +kernel
theorem dX3_settle_2 : decode cX3_settle 2 = .ok (.getfield 51, 3) := by decide +kernel
theorem dX3_settle_5 : decode cX3_settle 5 = .ok (.iload_n 1, 1) := by decide +kernel
theorem dX3_settle_6 : decode cX3_settle 6 = .ok (.isub, 1) := by decide +kernel
theorem dX3_settle_7 : decode cX3_settle 7 = .ok (.putfield 51, 3) := by decide +kernel
theorem dX3_settle_10 : decode cX3_settle 10 = .ok (.aload_n 0, 1) := by decide +kernel
theorem dX3_settle_11 : decode cX3_settle 11 = .ok (.aload_n 0, 1) := by decide +kernel
theorem dX3_settle_12 : decode cX3_settle 12 = .ok (.getfield 54, 3) := by decide +kernel
theorem dX3_settle_15 : decode cX3_settle 15 = .ok (.aload_n 0, 1) := by decide +kernel
theorem dX3_settle_16 : decode cX3_settle 16 = .ok (.getfield 51, 3) := by decide +kernel
theorem dX3_settle_19 : decode cX3_settle 19 = .ok (.invokestatic 93, 3) := by decide +kernel
theorem dX3_settle_22 : decode cX3_settle 22 = .ok (.putfield 54, 3) := by decide +kernel
theorem dX3_settle_25 : decode cX3_settle 25 = .ok (.return_, 1) := by decide +kernel
theorem dX4_init_0 : decode cX4_init 0 = .ok (.aload_n 0, 1) := by decide +kernel
theorem dX4_init_1 : decode cX4_init 1 = .ok (.invokespecial 3, 3) := by decide +kernel
theorem dX4_init_4 : decode cX4_init 4 = .ok (.aload_n 0, 1) := by decide +kernel
theorem dX4_init_5 : decode cX4_init 5 = .ok (.bipush 100, 2) := by decide +kernel
theorem dX4_init_7 : decode cX4_init 7 = .ok (.newarray .int, 2) := by decide +kernel
theorem dX4_init_9 : decode cX4_init 9 = .ok (.putfield 9, 3) := by decide +kernel
theorem dX4_init_12 : decode cX4_init 12 = .ok (.aload_n 0, 1) := by decide +kernel
theorem dX4_init_13 : decode cX4_init 13 = .ok (.bipush 100, 2) := by decide +kernel
theorem dX4_init_15 : decode cX4_init 15 = .ok (.newarray .int, 2) := by decide +kernel
theorem dX4_init_17 : decode cX4_init 17 = .ok (.putfield 15, 3) := by decide +kernel
theorem dX4_init_20 : decode cX4_init 20 = .ok (.aload_n 0, 1) := by decide +kernel
theorem dX4_init_21 : decode cX4_init 21 = .ok (.bipush 100, 2) := by decide +kernel
theorem dX4_init_23 : decode cX4_init 23 = .ok (.newarray .int, 2) := by decide +kernel
theorem dX4_init_25 : decode cX4_init 25 = .ok (.putfield 18, 3) := by decide +kernel
theorem dX4_init_28 : decode cX4_init 28 = .ok (.aload_n 0, 1) := by decide +kernel
theorem dX4_init_29 : decode cX4_init 29 = .ok (.bipush 40, 2) := by decide +kernel
theorem dX4_init_31 : decode cX4_init 31 = .ok (.newarray .int, 2) := by decide +kernel
theorem dX4_init_33 : decode cX4_init 33 = .ok (.putfield 21, 3) := by decide +kernel
theorem dX4_init_36 : decode cX4_init 36 = .ok (.aload_n 0, 1) := by decide +kernel
theorem dX4_init_37 : decode cX4_init 37 = .ok (.bipush 40, 2) := by decide +kernel
theorem dX4_init_39 : decode cX4_init 39 = .ok (.newarray .int, 2) := by decide +kernel
theorem dX4_init_41 : decode cX4_init 41 = .ok (.putfield 24, 3) := by decide +kernel
theorem dX4_init_44 : decode cX4_init 44 = .ok (.aload_n 0, 1) := by decide +kernel
theorem dX4_init_45 : decode cX4_init 45 = .ok (.iconst (-1), 1) := by decide +kernel
theorem dX4_init_46 : decode cX4_init 46 = .ok (.putfield 27, 3) := by decide +kernel
theorem dX4_init_49 : decode cX4_init 49 = .ok (.return_, 1) := by decide +kernel
set_option maxRecDepth 20000 in
theorem ggX4_begin_J7_fill_53178 : GoodIn wsX4_begin wsJ7_fill_53178 := goodIn_r _ [12] (by decide +kernel) (by decide +kernel)
set_option maxRecDepth 20000 in
theorem gX4_begin_J7_fill_53178 : GoodIn wsX4_begin (va_wsS RX4 31 yJ7_fill_53178 wsJ7_fill_53178) := goodIn_app (goodIn_of _ (by decide +kernel)) ggX4_begin_J7_fill_53178
theorem dX4_begin_0 : decode cX4_begin 0 = .ok (.aload_n 0, 1) := by decide +kernel
theorem dX4_begin_1 : decode cX4_begin 1 = .ok (.getfield 18, 3) := by decide +kernel
theorem dX4_begin_4 : decode cX4_begin 4 = .ok (.iconst 0, 1) := by decide +kernel
theorem dX4_begin_5 : decode cX4_begin 5 = .ok (.invokestatic 31, 3) := by decide +kernel
theorem dX4_begin_8 : decode cX4_begin 8 = .ok (.aload_n 0, 1) := by decide +kernel
theorem dX4_begin_9 : decode cX4_begin 9 = .ok (.iconst (-1), 1) := by decide +kernel
theorem dX4_begin_10 : decode cX4_begin 10 = .ok (.putfield 27, 3) := by decide +kernel
theorem dX4_begin_13 : decode cX4_begin 13 = .ok (.aload_n 0, 1) := by decide +kernel
theorem dX4_begin_14 : decode cX4_begin 14 = .ok (.iload_n 1, 1) := by decide +kernel
theorem dX4_begin_15 : decode cX4_begin 15 = .ok (.putfield 37, 3) := by decide +kernel
theorem dX4_begin_18 : decode cX4_begin 18 = .ok (.aload_n 0, 1) := by decide +kernel
theorem dX4_begin_19 : decode cX4_begin 19 = .ok (.iload_n 2, 1) := by decide +kernel
theorem dX4_begin_20 : decode cX4_begin 20 = .ok (.putfield 40, 3) := by decide +kernel
theorem dX4_begin_23 : decode cX4_begin 23 = .ok (.aload_n 0, 1) := by decide +kernel
theorem dX4_begin_24 : decode cX4_begin 24 = .ok (.iconst 0, 1) := by decide +kernel
theorem dX4_begin_25 : decode cX4_begin 25 = .ok (.putfield 43, 3) := by decide +kernel
theorem dX4_begin_28 : decode cX4_begin 28 = .ok (.aload_n 0, 1) := by decide +kernel
theorem dX4_begin_29 : decode cX4_begin 29 = .ok (.iconst 0, 1) := by decide +kernel
theorem dX4_begin_30 : decode cX4_begin 30 = .ok (.putfield 46, 3) := by decide +kernel
theorem dX4_begin_33 : decode cX4_begin 33 = .ok (.aload_n 0, 1) := by decide +kernel
theorem dX4_begin_34 : decode cX4_begin 34 = .ok (.iconst 0, 1) := by decide +kernel
theorem dX4_begin_35 : decode cX4_begin 35 = .ok (.putfield 49, 3) := by decide +kernel
theorem dX4_begin_38 : decode cX4_begin 38 = .ok (.aload_n 0, 1) := by decide +kernel
theorem dX4_begin_39 : decode cX4_begin 39 = .ok (.iconst 0, 1) := by decide +kernel
theorem dX4_begin_40 : decode cX4_begin 40 = .ok (.putfield 52, 3) := by decide +kernel
theorem dX4_begin_43 : decode cX4_begin 43 = .ok (.return_, 1) := by decide +kernel
theorem dX4_copy_0 : decode cX4_copy 0 = .ok (.aload_n 1, 1) := by decide +kernel
theorem dX4_copy_1 : decode cX4_copy 1 = .ok (.getfield 9, 3) := by decide +kernel
theorem dX4_copy_4 : decode cX4_copy 4 = .ok (.iconst 0, 1) := by decide +kernel
theorem dX4_copy_5 : decode cX4_copy 5 = .ok (.aload_n 0, 1) := by decide +kernel
theorem dX4_copy_6 : decode cX4_copy 6 = .ok (.getfield 9, 3) := by decide +kernel
theorem dX4_copy_9 : decode cX4_copy 9 = .ok (.iconst 0, 1) := by decide +kernel
theorem dX4_copy_10 : decode cX4_copy 10 = .ok (.bipush 100, 2) := by decide +kernel
theorem dX4_copy_12 : decode cX4_copy 12 = .ok (.invokestatic 55, 3) := by decide +kernel
theorem dX4_copy_15 : decode cX4_copy 15 = .ok (.aload_n 1, 1) := by decide +kernel
theorem dX4_copy_16 : decode cX4_copy 16 = .ok (.getfield 15, 3) := by decide +kernel
theorem dX4_copy_19 : decode cX4_copy 19 = .ok (.iconst 0, 1) := by decide +kernel
theorem dX4_copy_20 : decode cX4_copy 20 = .ok (.aload_n 0, 1) := by decide +kernel
theorem dX4_copy_21 : decode cX4_copy 21 = .ok (.getfield 15, 3) := by decide +kernel
theorem dX4_copy_24 : decode cX4_copy 24 = .ok (.iconst 0, 1) := by decide +kernel
theorem dX4_copy_25 : decode cX4_copy 25 = .ok (.bipush 100, 2) := by decide +kernel
theorem dX4_copy_27 : decode cX4_copy 27 = .ok (.invokestatic 55, 3) := by decide +kernel
theorem dX4_copy_30 : decode cX4_copy 30 = .ok (.aload_n 1, 1) := by decide +kernel
theorem dX4_copy_31 : decode cX4_copy 31 = .ok (.getfield 18, 3) := by decide +kernel
theorem dX4_copy_34 : decode cX4_copy 34 = .ok (.iconst 0, 1) := by decide +kernel
theorem dX4_copy_35 : decode cX4_copy 35 = .ok (.aload_n 0, 1) := by decide +kernel
theorem dX4_copy_36 : decode cX4_copy 36 = .ok (.getfield 18, 3) := by decide +kernel
theorem dX4_copy_39 : decode cX4_copy 39 = .ok (.iconst 0, 1) := by decide +kernel
theorem dX4_copy_40 : decode cX4_copy 40 = .ok (.bipush 100, 2) := by decide +kernel
theorem dX4_copy_42 : decode cX4_copy 42 = .ok (.invokestatic 55, 3) := by decide +kernel
theorem dX4_copy_45 : decode cX4_copy 45 = .ok (.aload_n 0, 1) := by decide +kernel
theorem dX4_copy_46 : decode cX4_copy 46 = .ok (.aload_n 1, 1) := by decide +kernel
theorem dX4_copy_47 : decode cX4_copy 47 = .ok (.getfield 27, 3) := by decide +kernel
theorem dX4_copy_50 : decode cX4_copy 50 = .ok (.putfield 27, 3) := by decide +kernel
theorem dX4_copy_53 : decode cX4_copy 53 = .ok (.aload_n 0, 1) := by decide +kernel
theorem dX4_copy_54 : decode cX4_copy 54 = .ok (.aload_n 1, 1) := by decide +kernel
theorem dX4_copy_55 : decode cX4_copy 55 = .ok (.getfield 37, 3) := by decide +kernel
theorem dX4_copy_58 : decode cX4_copy 58 = .ok (.putfield 37, 3) := by decide +kernel
theorem dX4_copy_61 : decode cX4_copy 61 = .ok (.aload_n 0, 1) := by decide +kernel
theorem dX4_copy_62 : decode cX4_copy 62 = .ok (.aload_n 1, 1) := by decide +kernel
theorem dX4_copy_63 : decode cX4_copy 63 = .ok (.getfield 40, 3) := by decide +kernel
theorem dX4_copy_66 : decode cX4_copy 66 = .ok (.putfield 40, 3) := by decide +kernel
theorem dX4_copy_69 : decode cX4_copy 69 = .ok (.aload_n 0, 1) := by decide +kernel
theorem dX4_copy_70 : decode cX4_copy 70 = .ok (.aload_n 1, 1) := by decide +kernel
theorem dX4_copy_71 : decode cX4_copy 71 = .ok (.getfield 43, 3) := by decide +kernel
theorem dX4_copy_74 : decode cX4_copy 74 = .ok (.putfield 43, 3) := by decide +kernel
theorem dX4_copy_77 : decode cX4_copy 77 = .ok (.aload_n 0, 1) := by decide +kernel
theorem dX4_copy_78 : decode cX4_copy 78 = .ok (.aload_n 1, 1) := by decide +kernel
theorem dX4_copy_79 : decode cX4_copy 79 = .ok (.getfield 46, 3) := by decide +kernel
theorem dX4_copy_82 : decode cX4_copy 82 = .ok (.putfield 46, 3) := by decide +kernel
theorem dX4_copy_85 : decode cX4_copy 85 = .ok (.aload_n 0, 1) := by decide +kernel
theorem dX4_copy_86 : decode cX4_copy 86 = .ok (.aload_n 1, 1) := by decide +kernel
theorem dX4_copy_87 : decode cX4_copy 87 = .ok (.getfield 49, 3) := by decide +kernel
theorem dX4_copy_90 : decode cX4_copy 90 = .ok (.putfield 49, 3) := by decide +kernel
theorem dX4_copy_93 : decode cX4_copy 93 = .ok (.aload_n 0, 1) := by decide +kernel
theorem dX4_copy_94 : decode cX4_copy 94 = .ok (.aload_n 1, 1) := by decide +kernel
theorem dX4_copy_95 : decode cX4_copy 95 = .ok (.getfield 52, 3) := by decide +kernel
theorem dX4_copy_98 : decode cX4_copy 98 = .ok (.putfield 52, 3) := by decide +kernel
theorem dX4_copy_101 : decode cX4_copy 101 = .ok (.return_, 1) := by decide +kernel
theorem dX4_has_0 : decode cX4_has 0 = .ok (.iload_n 1, 1) := by decide +kernel
theorem dX4_has_1 : decode cX4_has 1 = .ok (.ifCond .lt 22, 3) := by decide +kernel
theorem dX4_has_4 : decode cX4_has 4 = .ok (.iload_n 1, 1) := by decide +kernel
theorem dX4_has_5 : decode cX4_has 5 = .ok (.bipush 100, 2) := by decide +kernel
theorem dX4_has_7 : decode cX4_has 7 = .ok (.if_icmp .ge 16, 3) := by decide +kernel
theorem dX4_has_10 : decode cX4_has 10 = .ok (.aload_n 0, 1) := by decide +kernel
theorem dX4_has_11 : decode cX4_has 11 = .ok (.getfield 18, 3) := by decide +kernel
theorem dX4_has_14 : decode cX4_has 14 = .ok (.iload_n 1, 1) := by decide +kernel
theorem dX4_has_15 : decode cX4_has 15 = .ok (.iaload, 1) := by decide +kernel
theorem dX4_has_16 : decode cX4_has 16 = .ok (.ifCond .le 7, 3) := by decide +kernel
theorem dX4_has_19 : decode cX4_has 19 = .ok (.iconst 1, 1) := by decide +kernel
theorem dX4_has_20 : decode cX4_has 20 = .ok (.goto 4, 3) := by decide +kernel
theorem dX4_has_23 : decode cX4_has 23 = .ok (.iconst 0, 1) := by decide +kernel
theorem dX4_has_24 : decode cX4_has 24 = .ok (.ireturn, 1) := by decide +kernel
theorem dX4_isFull_0 : decode cX4_isFull 0 = .ok (.aload_n 0, 1) := by decide +kernel
theorem dX4_isFull_1 : decode cX4_isFull 1 = .ok (.getfield 43, 3) := by decide +kernel
theorem dX4_isFull_4 : decode cX4_isFull 4 = .ok (.bipush 40, 2) := by decide +kernel
theorem dX4_isFull_6 : decode cX4_isFull 6 = .ok (.if_icmp .lt 7, 3) := by decide +kernel
theorem dX4_isFull_9 : decode cX4_isFull 9 = .ok (.iconst 1, 1) := by decide +kernel
theorem dX4_isFull_10 : decode cX4_isFull 10 = .ok (.goto 4, 3) := by decide +kernel
theorem dX4_isFull_13 : decode cX4_isFull 13 = .ok (.iconst 0, 1) := by decide +kernel
theorem dX4_isFull_14 : decode cX4_isFull 14 = .ok (.ireturn, 1) := by decide +kernel
theorem dX4_isFew_0 : decode cX4_isFew 0 = .ok (.iload_n 1, 1) := by decide +kernel
theorem dX4_isFew_1 : decode cX4_isFew 1 = .ok (.ifCond .le 25, 3) := by decide +kernel
theorem dX4_isFew_4 : decode cX4_isFew 4 = .ok (.aload_n 0, 1) := by decide +kernel
theorem dX4_isFew_5 : decode cX4_isFew 5 = .ok (.getfield 40, 3) := by decide +kernel
theorem dX4_isFew_8 : decode cX4_isFew 8 = .ok (.iload_n 1, 1) := by decide +kernel
theorem dX4_isFew_9 : decode cX4_isFew 9 = .ok (.imul, 1) := by decide +kernel
theorem dX4_isFew_10 : decode cX4_isFew 10 = .ok (.aload_n 0, 1) := by decide +kernel
theorem dX4_isFew_11 : decode cX4_isFew 11 = .ok (.getfield 37, 3) := by decide +kernel
theorem dX4_isFew_14 : decode cX4_isFew 14 = .ok (.aload_n 0, 1) := by decide +kernel
theorem dX4_isFew_15 : decode cX4_isFew 15 = .ok (.getfield 46, 3) := by decide +kernel
theorem dX4_isFew_18 : decode cX4_isFew 18 = .ok (.imul, 1) := by decide +kernel
theorem dX4_isFew_19 : decode cX4_isFew 19 = .ok (.if_icmp .ge 7, 3) := by decide +kernel
theorem dX4_isFew_22 : decode cX4_isFew 22 = .ok (.iconst 1, 1) := by decide +kernel
theorem dX4_isFew_23 : decode cX4_isFew 23 = .ok (.goto 4, 3) := by decide +kernel
theorem dX4_isFew_26 : decode cX4_isFew 26 = .ok (.iconst 0, 1) := by decide +kernel
theorem dX4_isFew_27 : decode cX4_isFew 27 = .ok (.ireturn, 1) := by decide +kernel
theorem dX4_limit_0 : decode cX4_limit 0 = .ok (.iconst 0, 1) := by decide +kernel
theorem dX4_limit_1 : decode cX4_limit 1 = .ok (.istore_n 2, 1) := by decide +kernel
theorem dX4_limit_2 : decode cX4_limit 2 = .ok (.aload_n 0, 1) := by decide +kernel
theorem dX4_limit_3 : decode cX4_limit 3 = .ok (.getfield 40, 3) := by decide +kernel
theorem dX4_limit_6 : decode cX4_limit 6 = .ok (.i2l, 1) := by decide +kernel
theorem dX4_limit_7 : decode cX4_limit 7 = .ok (.lstore_n 3, 1) := by decide +kernel
theorem dX4_limit_8 : decode cX4_limit 8 = .ok (.iload_n 1, 1) := by decide +kernel
theorem dX4_limit_9 : decode cX4_limit 9 = .ok (.i2l, 1) := by decide +kernel
theorem dX4_limit_10 : decode cX4_limit 10 = .ok (.aload_n 0, 1) := by decide +kernel
theorem dX4_limit_11 : decode cX4_limit 11 = .ok (.getfield 37, 3) := by decide +kernel
theorem dX4_limit_14 : decode cX4_limit 14 = .ok (.i2l, 1) := by decide +kernel
theorem dX4_limit_15 : decode cX4_limit 15 = .ok (.lmul, 1) := by decide +kernel
theorem dX4_limit_16 : decode cX4_limit 16 = .ok (.lstore 5, 2) := by decide +kernel
theorem dX4_limit_18 : decode cX4_limit 18 = .ok (.iload_n 2, 1) := by decide +kernel
theorem dX4_limit_19 : decode cX4_limit 19 = .ok (.bipush 20, 2) := by decide +kernel
theorem dX4_limit_21 : decode cX4_limit 21 = .ok (.if_icmp .ge 34, 3) := by decide +kernel
theorem dX4_limit_24 : decode cX4_limit 24 = .ok (.lload_n 3, 1) := by decide +kernel
theorem dX4_limit_25 : decode cX4_limit 25 = .ok (.lload 5, 2) := by decide +kernel
theorem dX4_limit_27 : decode cX4_limit 27 = .ok (.lcmp, 1) := by decide +kernel
theorem dX4_limit_28 : decode cX4_limit 28 = .ok (.ifCond .gt 27, 3) := by decide +kernel
theorem dX4_limit_31 : decode cX4_limit 31 = .ok (.iinc 2 1, 3) := by decide +kernel
theorem dX4_limit_34 : decode cX4_limit 34 = .ok (.lload_n 3, 1) := by decide +kernel
theorem dX4_limit_35 : decode cX4_limit 35 = .ok (.aload_n 0, 1) := by decide +kernel
theorem dX4_limit_36 : decode cX4_limit 36 = .ok (.getfield 40, 3) := by decide +kernel
theorem dX4_limit_39 : decode cX4_limit 39 = .ok (.i2l, 1) := by decide +kernel
theorem dX4_limit_40 : decode cX4_limit 40 = .ok (.lmul, 1) := by decide +kernel
theorem dX4_limit_41 : decode cX4_limit 41 = .ok (.lstore_n 3, 1) := by decide +kernel
theorem dX4_limit_42 : decode cX4_limit 42 = .ok (.lload 5, 2) := by decide +kernel
theorem dX4_limit_44 : decode cX4_limit 44 = .ok (.aload_n 0, 1) := by decide +kernel
theorem dX4_limit_45 : decode cX4_limit 45 = .ok (.getfield 37, 3) := by decide +kernel
theorem dX4_limit_48 : decode cX4_limit 48 = .ok (.i2l, 1) := by decide +kernel
theorem dX4_limit_49 : decode cX4_limit 49 = .ok (.lmul, 1) := by decide +kernel
theorem dX4_limit_50 : decode cX4_limit 50 = .ok (.lstore 5, 2) := by decide +kernel
theorem dX4_limit_52 : decode cX4_limit 52 = .ok (.goto (-34), 3) := by decide +kernel
theorem dX4_limit_55 : decode cX4_limit 55 = .ok (.iload_n 2, 1) := by decide +kernel
theorem dX4_limit_56 : decode cX4_limit 56 = .ok (.ireturn, 1) := by decide +kernel
set_option maxRecDepth 20000 in
theorem ggX4_walk_X4_has : GoodIn wsX4_walk wsX4_has := goodIn_r _ [9, 10, 11, 12, 13, 14, 15, 16, 17, 18, 19, 20, 21, 22] (by decide +kernel) (by decide +kernel)
set_option maxRecDepth 20000 in
theorem gX4_walk_X4_has : GoodIn wsX4_walk (wsV RX4 61 RX4 yX4_has wsX4_has) := goodIn_app (goodIn_of _ (by decide +kernel)) ggX4_walk_X4_has
theorem dX4_walk_0 : decode cX4_walk 0 = .ok (.iconst 0, 1) := by decide +kernel
theorem dX4_walk_1 : decode cX4_walk 1 = .ok (.istore_n 2, 1) := by decide +kernel
theorem dX4_walk_2 : decode cX4_walk 2 = .ok (.aload_n 0, 1) := by decide +kernel
theorem dX4_walk_3 : decode cX4_walk 3 = .ok (.getfield 27, 3) := by decide +kernel
theorem dX4_walk_6 : decode cX4_walk 6 = .ok (.istore_n 3, 1) := by decide +kernel
theorem dX4_walk_7 : decode cX4_walk 7 = .ok (.aload_n 0, 1) := by decide +kernel
theorem dX4_walk_8 : decode cX4_walk 8 = .ok (.iload_n 3, 1) := by decide +kernel
theorem dX4_walk_9 : decode cX4_walk 9 = .ok (.invokevirtual 61, 3) := by decide +kernel
theorem dX4_walk_12 : decode cX4_walk 12 = .ok (.ifCond .eq 55, 3) := by decide +kernel
theorem dX4_walk_15 : decode cX4_walk 15 = .ok (.iload_n 2, 1) := by decide +kernel
theorem dX4_walk_16 : decode cX4_walk 16 = .ok (.aload_n 0, 1) := by decide +kernel
theorem dX4_walk_17 : decode cX4_walk 17 = .ok (.getfield 21, 3) := by decide +kernel
theorem dX4_walk_20 : decode cX4_walk 20 = .ok (.arraylength, 1) := by decide +kernel
theorem dX4_walk_21 : decode cX4_walk 21 = .ok (.if_icmp .ge 46, 3) := by decide +kernel
theorem dX4_walk_24 : decode cX4_walk 24 = .ok (.aload_n 0, 1) := by decide +kernel
theorem dX4_walk_25 : decode cX4_walk 25 = .ok (.getfield 21, 3) := by decide +kernel
theorem dX4_walk_28 : decode cX4_walk 28 = .ok (.iload_n 2, 1) := by decide +kernel
theorem dX4_walk_29 : decode cX4_walk 29 = .ok (.iload_n 3, 1) := by decide +kernel
theorem dX4_walk_30 : decode cX4_walk 30 = .ok (.iastore, 1) := by decide +kernel
theorem dX4_walk_31 : decode cX4_walk 31 = .ok (.iinc 2 1, 3) := by decide +kernel
theorem dX4_walk_34 : decode cX4_walk 34 = .ok (.iload_n 1, 1) := by decide +kernel
theorem dX4_walk_35 : decode cX4_walk 35 = .ok (.iload_n 3, 1) := by decide +kernel
theorem dX4_walk_36 : decode cX4_walk 36 = .ok (.if_icmp .ne 7, 3) := by decide +kernel
theorem dX4_walk_39 : decode cX4_walk 39 = .ok (.iconst (-1), 1) := by decide +kernel
theorem dX4_walk_40 : decode cX4_walk 40 = .ok (.goto 23, 3) := by decide +kernel
theorem dX4_walk_43 : decode cX4_walk 43 = .ok (.iload_n 1, 1) := by decide +kernel
theorem dX4_walk_44 : decode cX4_walk 44 = .ok (.iload_n 3, 1) := by decide +kernel
theorem dX4_walk_45 : decode cX4_walk 45 = .ok (.if_icmp .ge 12, 3) := by decide +kernel
theorem dX4_walk_48 : decode cX4_walk 48 = .ok (.aload_n 0, 1) := by decide +kernel
theorem dX4_walk_49 : decode cX4_walk 49 = .ok (.getfield 9, 3) := by decide +kernel
theorem dX4_walk_52 : decode cX4_walk 52 = .ok (.iload_n 3, 1) := by decide +kernel
theorem dX4_walk_53 : decode cX4_walk 53 = .ok (.iaload, 1) := by decide +kernel
theorem dX4_walk_54 : decode cX4_walk 54 = .ok (.goto 9, 3) := by decide +kernel
theorem dX4_walk_57 : decode cX4_walk 57 = .ok (.aload_n 0, 1) := by decide +kernel
theorem dX4_walk_58 : decode cX4_walk 58 = .ok (.getfield 15, 3) := by decide +kernel
theorem dX4_walk_61 : decode cX4_walk 61 = .ok (.iload_n 3, 1) := by decide +kernel
theorem dX4_walk_62 : decode cX4_walk 62 = .ok (.iaload, 1) := by decide +kernel
theorem dX4_walk_63 : decode cX4_walk 63 = .ok (.istore_n 3, 1) := by decide +kernel
theorem dX4_walk_64 : decode cX4_walk 64 = .ok (.goto (-57), 3) := by decide +kernel
theorem dX4_walk_67 : decode cX4_walk 67 = .ok (.iload_n 2, 1) := by decide +kernel
theorem dX4_walk_68 : decode cX4_walk 68 = .ok (.ireturn, 1) := by decide +kernel
set_option maxRecDepth 20000 in
theorem ggX4_above_X4_walk : GoodIn wsX4_above wsX4_walk := goodIn_r _ [5, 6, 7, 8, 9, 10, 11, 12, 4, 13, 14, 19, 20, 21, 22, 23, 24, 25, 26, 27, 28, 29, 30] (by decide +kernel) (by decide +kernel)
set_option maxRecDepth 20000 in
theorem gX4_above_X4_walk : GoodIn wsX4_above (wsV RX4 65 RX4 yX4_walk wsX4_walk) := goodIn_app (goodIn_of _ (by decide +kernel)) ggX4_above_X4_walk
set_option maxRecDepth 20000 in
theorem ggX4_above_X4_onWay : GoodIn wsX4_above wsX4_onWay := goodIn_r _ [18, 7, 19, 20, 21, 22, 23, 24, 25, 26, 27, 28, 29, 30] (by decide +kernel) (by decide +kernel)
set_option maxRecDepth 20000 in
theorem gX4_above_X4_onWay : GoodIn wsX4_above (wsV RX4 69 RX4 yX4_onWay wsX4_onWay) := goodIn_app (goodIn_of _ (by decide +kernel)) ggX4_above_X4_onWay
theorem dX4_above_0 : decode cX4_above 0 = .ok (.aload_n 0, 1) := by decide +kernel
theorem dX4_above_1 : decode cX4_above 1 = .ok (.aload_n 0, 1) := by decide +kernel
theorem dX4_above_2 : decode cX4_above 2 = .ok (.iload_n 1, 1) := by decide +kernel
theorem dX4_above_3 : decode cX4_above 3 = .ok (.invokevirtual 65, 3) := by decide +kernel
theorem dX4_above_6 : decode cX4_above 6 = .ok (.iconst 2, 1) := by decide +kernel
theorem dX4_above_7 : decode cX4_above 7 = .ok (.isub, 1) := by decide +kernel
theorem dX4_above_8 : decode cX4_above 8 = .ok (.invokevirtual 69, 3) := by decide +kernel
theorem dX4_above_11 : decode cX4_above 11 = .ok (.ireturn, 1) := by decide +kernel
set_option maxRecDepth 20000 in
theorem ggX4_lesser_X4_has : GoodIn wsX4_lesser wsX4_has := goodIn_r _ [5, 6, 7, 8, 9, 10, 11, 12, 13, 14, 15, 16, 17, 18] (by decide +kernel) (by decide +kernel)
set_option maxRecDepth 20000 in
theorem gX4_lesser_X4_has : GoodIn wsX4_lesser (wsV RX4 61 RX4 yX4_has wsX4_has) := goodIn_app (goodIn_of _ (by decide +kernel)) ggX4_lesser_X4_has
theorem dX4_lesser_0 : decode cX4_lesser 0 = .ok (.iconst 0, 1) := by decide +kernel
theorem dX4_lesser_1 : decode cX4_lesser 1 = .ok (.istore_n 2, 1) := by decide +kernel
theorem dX4_lesser_2 : decode cX4_lesser 2 = .ok (.iconst 0, 1) := by decide +kernel
theorem dX4_lesser_3 : decode cX4_lesser 3 = .ok (.istore_n 3, 1) := by decide +kernel
theorem dX4_lesser_4 : decode cX4_lesser 4 = .ok (.iload_n 3, 1) := by decide +kernel
theorem dX4_lesser_5 : decode cX4_lesser 5 = .ok (.iload_n 1, 1) := by decide +kernel
theorem dX4_lesser_6 : decode cX4_lesser 6 = .ok (.if_icmp .ge 26, 3) := by decide +kernel
theorem dX4_lesser_9 : decode cX4_lesser 9 = .ok (.iload_n 3, 1) := by decide +kernel
theorem dX4_lesser_10 : decode cX4_lesser 10 = .ok (.bipush 100, 2) := by decide +kernel
theorem dX4_lesser_12 : decode cX4_lesser 12 = .ok (.if_icmp .ge 20, 3) := by decide +kernel
theorem dX4_lesser_15 : decode cX4_lesser 15 = .ok (.aload_n 0, 1) := by decide +kernel
theorem dX4_lesser_16 : decode cX4_lesser 16 = .ok (.iload_n 3, 1) := by decide +kernel
theorem dX4_lesser_17 : decode cX4_lesser 17 = .ok (.invokevirtual 61, 3) := by decide +kernel
theorem dX4_lesser_20 : decode cX4_lesser 20 = .ok (.ifCond .eq 6, 3) := by decide +kernel
theorem dX4_lesser_23 : decode cX4_lesser 23 = .ok (.iinc 2 1, 3) := by decide +kernel
theorem dX4_lesser_26 : decode cX4_lesser 26 = .ok (.iinc 3 1, 3) := by decide +kernel
theorem dX4_lesser_29 : decode cX4_lesser 29 = .ok (.goto (-25), 3) := by decide +kernel
theorem dX4_lesser_32 : decode cX4_lesser 32 = .ok (.iload_n 2, 1) := by decide +kernel
theorem dX4_lesser_33 : decode cX4_lesser 33 = .ok (.ireturn, 1) := by decide +kernel
set_option maxRecDepth 20000 in
theorem ggX4_tall_X4_has : GoodIn wsX4_tall wsX4_has := goodIn_r _ [9, 10, 19, 20, 21, 22, 23, 24, 25, 26, 27, 28, 29, 30] (by decide +kernel) (by decide +kernel)
set_option maxRecDepth 20000 in
theorem gX4_tall_X4_has : GoodIn wsX4_tall (wsV RX4 61 RX4 yX4_has wsX4_has) := goodIn_app (goodIn_of _ (by decide +kernel)) ggX4_tall_X4_has
set_option maxRecDepth 20000 in
theorem ggX4_tall_X4_walk : GoodIn wsX4_tall wsX4_walk := goodIn_r _ [14, 15, 16, 17, 18, 5, 6, 7, 8, 9, 10, 19, 20, 21, 22, 23, 24, 25, 26, 27, 28, 29, 30] (by decide +kernel) (by decide +kernel)
set_option maxRecDepth 20000 in
theorem gX4_tall_X4_walk : GoodIn wsX4_tall (wsV RX4 65 RX4 yX4_walk wsX4_walk) := goodIn_app (goodIn_of _ (by decide +kernel)) ggX4_tall_X4_walk
theorem dX4_tall_0 : decode cX4_tall 0 = .ok (.iconst (-1), 1) := by decide +kernel
theorem dX4_tall_1 : decode cX4_tall 1 = .ok (.istore_n 1, 1) := by decide +kernel
theorem dX4_tall_2 : decode cX4_tall 2 = .ok (.iconst 0, 1) := by decide +kernel
theorem dX4_tall_3 : decode cX4_tall 3 = .ok (.istore_n 2, 1) := by decide +kernel
theorem dX4_tall_4 : decode cX4_tall 4 = .ok (.iload_n 2, 1) := by decide +kernel
theorem dX4_tall_5 : decode cX4_tall 5 = .ok (.bipush 100, 2) := by decide +kernel
theorem dX4_tall_7 : decode cX4_tall 7 = .ok (.if_icmp .ge 29, 3) := by decide +kernel
theorem dX4_tall_10 : decode cX4_tall 10 = .ok (.aload_n 0, 1) := by decide +kernel
theorem dX4_tall_11 : decode cX4_tall 11 = .ok (.iload_n 2, 1) := by decide +kernel
theorem dX4_tall_12 : decode cX4_tall 12 = .ok (.invokevirtual 61, 3) := by decide +kernel
theorem dX4_tall_15 : decode cX4_tall 15 = .ok (.ifCond .eq 15, 3) := by decide +kernel
