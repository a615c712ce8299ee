set_option maxRecDepth 20000 in
theorem ggL_law_X2_init : GoodIn wsL_law wsX2_init := goodIn_r _ [9, 10, 11, 12, 13, 14, 15, 16, 17, 18, 19, 20, 21, 3, 22, 23, 24, 25, 26, 27, 28, 29, 30, 31, 32, 33, 34, 35, 36, 37, 38, 39, 40, 2, 41, 42, 43, 44, 45, 46, 47, 48, 49, 50, 51, 52, 53, 54, 55, 56, 57, 58, 59, 346, 347, 348, 349, 350, 351, 352, 353, 354, 337, 338, 339, 340, 341, 342, 343, 344, 345, 355, 356] (by decide +kernel) (by decide +kernel)
set_option maxRecDepth 20000 in
theorem gL_law_X2_init : GoodIn wsL_law (wsX2_init) := ggL_law_X2_init
set_option maxRecDepth 20000 in
theorem ggL_law_L_begins : GoodIn wsL_law wsL_begins := goodIn_r _ [63] (by decide +kernel) (by decide +kernel)
set_option maxRecDepth 20000 in
theorem gL_law_L_begins : GoodIn wsL_law (va_wsS RL 125 yL_begins wsL_begins) := goodIn_app (goodIn_of _ (by decide +kernel)) ggL_law_L_begins
set_option maxRecDepth 20000 in
theorem ggL_law_L_finds : GoodIn wsL_law wsL_finds := goodIn_r _ [66, 3, 67, 68, 62, 69, 70, 71, 72] (by decide +kernel) (by decide +kernel)
set_option maxRecDepth 20000 in
theorem gL_law_L_finds : GoodIn wsL_law (va_wsS RL 129 yL_finds wsL_finds) := goodIn_app (goodIn_of _ (by decide +kernel)) ggL_law_L_finds
set_option maxRecDepth 20000 in
theorem ggL_law_L_isDraw_k0 : GoodIn wsL_law [Cond.code yL_isDraw cL_isDraw 19 (some .boolean)] := goodIn_r _ [75] (by decide +kernel) (by decide +kernel)
def ggL_law_L_isDraw_l1 : List Cond := [Cond.arrayClass .long, Cond.arrayClass .int, Cond.methodLink RL 41 yL_lays, Cond.static yL_lays, Cond.initialized RL, Cond.code yL_lays cL_lays 4 none, Cond.methodLink RL 29 yL_orders, Cond.static yL_orders, Cond.code yL_orders cL_orders 8 (some .long), Cond.methodLink RL 21 yL_count, Cond.static yL_count, Cond.code yL_count cL_count 12 (some .int)]
set_option maxRecDepth 20000 in
theorem ggL_law_L_isDraw_k1 : GoodIn wsL_law ggL_law_L_isDraw_l1 := goodIn_r _ [4, 3, 76, 77, 62, 78, 79, 80, 81, 82, 83, 84] (by decide +kernel) (by decide +kernel)
def ggL_law_L_isDraw_l2 : List Cond := [Cond.methodLink RL 17 yL_bits, Cond.static yL_bits, Cond.code yL_bits cL_bits 5 (some .int), Cond.methodLink RL 78 yX2_drawn, Cond.instanceMethod yX2_drawn, Cond.selects RX2 yX2_drawn yX2_drawn, Cond.initialized RX2, Cond.code yX2_drawn cX2_drawn 1 (some .int), Cond.fieldLink RX2 92 "CupDraw" "drawnCount" "I", Cond.methodLink RL 81 yX2_pot, Cond.instanceMethod yX2_pot, Cond.selects RX2 yX2_pot yX2_pot]
set_option maxRecDepth 20000 in
theorem ggL_law_L_isDraw_k2 : GoodIn wsL_law ggL_law_L_isDraw_l2 := goodIn_r _ [85, 86, 87, 88, 89, 90, 2, 91, 42, 92, 93, 94] (by decide +kernel) (by decide +kernel)
theorem ggL_law_L_isDraw_n3 : GoodIn wsL_law wsL_isDraw_r1 := (goodIn_app ggL_law_L_isDraw_k1 ggL_law_L_isDraw_k2)
def ggL_law_L_isDraw_l4 : List Cond := [Cond.code yX2_pot cX2_pot 2 (some .int), Cond.fieldLink RX2 10 "CupDraw" "bowl" "LCupDraw$Bowl;", Cond.methodLink RX2 130 yX2_countLeft, Cond.instanceMethod yX2_countLeft, Cond.selects RX2 yX2_countLeft yX2_countLeft, Cond.code yX2_countLeft cX2_countLeft 5 (some .int), Cond.fieldLink RX2 26 "CupDraw" "seats" "[I", Cond.methodLink RL 84 yX2_left, Cond.instanceMethod yX2_left, Cond.selects RX2 yX2_left yX2_left, Cond.code yX2_left cX2_left 2 (some .int), Cond.methodLink RX2 133 yX2_pot]
set_option maxRecDepth 20000 in
theorem ggL_law_L_isDraw_k4 : GoodIn wsL_law ggL_law_L_isDraw_l4 := goodIn_r _ [95, 16, 96, 97, 98, 99, 22, 100, 101, 102, 103, 104] (by decide +kernel) (by decide +kernel)
def ggL_law_L_isDraw_l5 : List Cond := [Cond.methodLink RL 33 yL_left, Cond.static yL_left, Cond.code yL_left cL_left 5 (some .int), Cond.methodLink RL 86 yX2_results, Cond.instanceMethod yX2_results, Cond.selects RX2 yX2_results yX2_results, Cond.code yX2_results cX2_results 1 (some .int), Cond.methodLink RX2 95 yX2_openResults, Cond.instanceMethod yX2_openResults, Cond.selects RX2 yX2_openResults yX2_openResults, Cond.code yX2_openResults cX2_openResults 1 (some (.object "CupDraw$ResultList")), Cond.fieldLink RX2 186 "CupDraw" "isOpenListFresh" "Z"]
set_option maxRecDepth 20000 in
theorem ggL_law_L_isDraw_k5 : GoodIn wsL_law ggL_law_L_isDraw_l5 := goodIn_r _ [105, 106, 107, 108, 109, 110, 111, 112, 113, 114, 115, 58] (by decide +kernel) (by decide +kernel)
theorem ggL_law_L_isDraw_n6 : GoodIn wsL_law wsL_isDraw_r2 := (goodIn_app ggL_law_L_isDraw_k4 ggL_law_L_isDraw_k5)
def ggL_law_L_isDraw_l7 : List Cond := [Cond.fieldLink RX2 19 "CupDraw" "openList" "LCupDraw$ResultList;", Cond.methodLink RX2 189 yX1_clear, Cond.instanceMethod yX1_clear, Cond.selects RX1 yX1_clear yX1_clear, Cond.initialized RX1, Cond.code yX1_clear cX1_clear 1 none, Cond.fieldLink RX1 15 "CupDraw$ResultList" "size" "I", Cond.methodLink RX2 192 yX0_addLawful, Cond.instanceMethod yX0_addLawful, Cond.selects RX0 yX0_addLawful yX0_addLawful, Cond.initialized RX0, Cond.code yX0_addLawful cX0_addLawful 2 none]
set_option maxRecDepth 20000 in
theorem ggL_law_L_isDraw_k7 : GoodIn wsL_law ggL_law_L_isDraw_l7 := goodIn_r _ [20, 116, 117, 118, 19, 119, 120, 121, 122, 123, 15, 124] (by decide +kernel) (by decide +kernel)
def ggL_law_L_isDraw_l8 : List Cond := [Cond.methodLink RX0 44 yX0_placeFrom, Cond.instanceMethod yX0_placeFrom, Cond.selects RX0 yX0_placeFrom yX0_placeFrom, Cond.code yX0_placeFrom cX0_placeFrom 5 none, Cond.fieldLink RX0 37 "CupDraw$Bowl" "teams" "I", Cond.fieldLink RX0 30 "CupDraw$Bowl" "groups" "I", Cond.methodLink RX0 48 yX1_add, Cond.instanceMethod yX1_add, Cond.selects RX1 yX1_add yX1_add, Cond.code yX1_add cX1_add 2 none, Cond.fieldLink RX1 9 "CupDraw$ResultList" "items" "[I", Cond.methodLink RX0 53 yX0_placeIn]
set_option maxRecDepth 20000 in
theorem ggL_law_L_isDraw_k8 : GoodIn wsL_law ggL_law_L_isDraw_l8 := goodIn_r _ [125, 126, 127, 128, 49, 47, 129, 130, 131, 132, 37, 133] (by decide +kernel) (by decide +kernel)
theorem ggL_law_L_isDraw_n9 : GoodIn wsL_law wsL_isDraw_r3 := (goodIn_app ggL_law_L_isDraw_k7 ggL_law_L_isDraw_k8)
def ggL_law_L_isDraw_l10 : List Cond := [Cond.instanceMethod yX0_placeIn, Cond.selects RX0 yX0_placeIn yX0_placeIn, Cond.code yX0_placeIn cX0_placeIn 5 none, Cond.fieldLink RX0 27 "CupDraw$Bowl" "members" "[I", Cond.methodLink RX0 57 yX0_admits, Cond.instanceMethod yX0_admits, Cond.selects RX0 yX0_admits yX0_admits, Cond.code yX0_admits cX0_admits 3 (some .boolean), Cond.fieldLink RX0 24 "CupDraw$Bowl" "potMates" "[I", Cond.fieldLink RX0 18 "CupDraw$Bowl" "apart" "[I", Cond.fieldLink RX0 21 "CupDraw$Bowl" "otherDays" "[I", Cond.fieldLink RX0 9 "CupDraw$Bowl" "regions" "[I"]
set_option maxRecDepth 20000 in
theorem ggL_law_L_isDraw_k10 : GoodIn wsL_law ggL_law_L_isDraw_l10 := goodIn_r _ [134, 135, 136, 33, 137, 138, 139, 140, 32, 30, 31, 28] (by decide +kernel) (by decide +kernel)
def ggL_law_L_isDraw_l11 : List Cond := [Cond.fieldLink RX0 15 "CupDraw$Bowl" "bounds" "[I", Cond.methodLink RX0 65 yX0_playersOnDay, Cond.instanceMethod yX0_playersOnDay, Cond.selects RX0 yX0_playersOnDay yX0_playersOnDay, Cond.code yX0_playersOnDay cX0_playersOnDay 4 (some .int), Cond.methodLink RX0 69 yX0_countOfRegion, Cond.instanceMethod yX0_countOfRegion, Cond.selects RX0 yX0_countOfRegion yX0_countOfRegion, Cond.code yX0_countOfRegion cX0_countOfRegion 5 (some .int), Cond.methodLink RX0 61 yX1_with, Cond.static yX1_with, Cond.code yX1_with cX1_with 3 (some .int)]
set_option maxRecDepth 20000 in
theorem ggL_law_L_isDraw_k11 : GoodIn wsL_law ggL_law_L_isDraw_l11 := goodIn_r _ [29, 141, 142, 143, 144, 145, 146, 147, 148, 149, 150, 151] (by decide +kernel) (by decide +kernel)
theorem ggL_law_L_isDraw_n12 : GoodIn wsL_law wsL_isDraw_r4 := (goodIn_app ggL_law_L_isDraw_k10 ggL_law_L_isDraw_k11)
def ggL_law_L_isDraw_l13 : List Cond := [Cond.methodLink RL 89 yX2_orders, Cond.instanceMethod yX2_orders, Cond.selects RX2 yX2_orders yX2_orders, Cond.code yX2_orders cX2_orders 3 (some .int), Cond.methodLink RX2 160 yX2_factorial, Cond.static yX2_factorial, Cond.code yX2_factorial cX2_factorial 3 (some .int), Cond.methodLink RL 91 yL_all, Cond.static yL_all, Cond.code yL_all cL_all 4 (some .int), Cond.methodLink RL 37 yL_product, Cond.static yL_product]
set_option maxRecDepth 20000 in
theorem ggL_law_L_isDraw_k13 : GoodIn wsL_law ggL_law_L_isDraw_l13 := goodIn_r _ [152, 153, 154, 155, 156, 157, 158, 159, 160, 161, 162, 163] (by decide +kernel) (by decide +kernel)
def ggL_law_L_isDraw_l14 : List Cond := [Cond.code yL_product cL_product 1 (some .int), Cond.methodLink RL 25 yL_withTeam, Cond.static yL_withTeam, Cond.code yL_withTeam cL_withTeam 9 (some .int), Cond.methodLink RL 95 yX2_fits, Cond.instanceMethod yX2_fits, Cond.selects RX2 yX2_fits yX2_fits, Cond.code yX2_fits cX2_fits 3 (some .boolean), Cond.methodLink RX2 150 yX2_requireTeamAndGroup, Cond.instanceMethod yX2_requireTeamAndGroup, Cond.selects RX2 yX2_requireTeamAndGroup yX2_requireTeamAndGroup, Cond.code yX2_requireTeamAndGroup cX2_requireTeamAndGroup 3 none]
set_option maxRecDepth 20000 in
theorem ggL_law_L_isDraw_k14 : GoodIn wsL_law ggL_law_L_isDraw_l14 := goodIn_r _ [164, 165, 166, 167, 168, 169, 170, 171, 172, 173, 174, 175] (by decide +kernel) (by decide +kernel)
theorem ggL_law_L_isDraw_n15 : GoodIn wsL_law wsL_isDraw_r5 := (goodIn_app ggL_law_L_isDraw_k13 ggL_law_L_isDraw_k14)
def ggL_law_L_isDraw_l16 : List Cond := [Cond.classLink RX2 58 "java/lang/IndexOutOfBoundsException", Cond.initialized "java/lang/IndexOutOfBoundsException", Cond.methodLink RX2 51 yX0_hasTeam, Cond.instanceMethod yX0_hasTeam, Cond.selects RX0 yX0_hasTeam yX0_hasTeam, Cond.code yX0_hasTeam cX0_hasTeam 2 (some .boolean), Cond.methodLink RX2 139 yX0_hasGroup, Cond.instanceMethod yX0_hasGroup, Cond.selects RX0 yX0_hasGroup yX0_hasGroup, Cond.code yX0_hasGroup cX0_hasGroup 2 (some .boolean), Cond.methodLink RX2 153 yX1_countInGroup, Cond.instanceMethod yX1_countInGroup]
set_option maxRecDepth 20000 in
theorem ggL_law_L_isDraw_k16 : GoodIn wsL_law ggL_law_L_isDraw_l16 := goodIn_r _ [176, 177, 178, 179, 180, 181, 182, 183, 184, 185, 186, 187] (by decide +kernel) (by decide +kernel)
def ggL_law_L_isDraw_l17 : List Cond := [Cond.selects RX1 yX1_countInGroup yX1_countInGroup, Cond.code yX1_countInGroup cX1_countInGroup 5 (some .int), Cond.methodLink RX1 19 yX1_groupIn, Cond.static yX1_groupIn, Cond.code yX1_groupIn cX1_groupIn 2 (some .int), Cond.methodLink RL 99 yX2_evenly, Cond.instanceMethod yX2_evenly, Cond.selects RX2 yX2_evenly yX2_evenly, Cond.code yX2_evenly cX2_evenly 3 (some .int), Cond.methodLink RL 102 yX2_teamAt, Cond.instanceMethod yX2_teamAt, Cond.selects RX2 yX2_teamAt yX2_teamAt]
set_option maxRecDepth 20000 in
theorem ggL_law_L_isDraw_k17 : GoodIn wsL_law ggL_law_L_isDraw_l17 := goodIn_r _ [188, 189, 190, 191, 192, 193, 194, 195, 196, 197, 198, 199] (by decide +kernel) (by decide +kernel)
theorem ggL_law_L_isDraw_n18 : GoodIn wsL_law wsL_isDraw_r6 := (goodIn_app ggL_law_L_isDraw_k16 ggL_law_L_isDraw_k17)
def ggL_law_L_isDraw_l19 : List Cond := [Cond.code yX2_teamAt cX2_teamAt 5 (some .int), Cond.methodLink RX2 142 yX0_hasPot, Cond.instanceMethod yX0_hasPot, Cond.selects RX0 yX0_hasPot yX0_hasPot, Cond.code yX0_hasPot cX0_hasPot 2 (some .boolean), Cond.fieldLink RX0 34 "CupDraw$Bowl" "pots" "I", Cond.methodLink RL 105 yX2_forced, Cond.instanceMethod yX2_forced, Cond.selects RX2 yX2_forced yX2_forced, Cond.code yX2_forced cX2_forced 5 (some .int), Cond.methodLink RX2 136 yX2_requireTeam, Cond.instanceMethod yX2_requireTeam]
set_option maxRecDepth 20000 in
theorem ggL_law_L_isDraw_k19 : GoodIn wsL_law ggL_law_L_isDraw_l19 := goodIn_r _ [200, 201, 202, 203, 204, 48, 205, 206, 207, 208, 209, 210] (by decide +kernel) (by decide +kernel)
def ggL_law_L_isDraw_l20 : List Cond := [Cond.selects RX2 yX2_requireTeam yX2_requireTeam, Cond.code yX2_requireTeam cX2_requireTeam 2 none, Cond.methodLink RX2 157 yX1_lowestGroup, Cond.instanceMethod yX1_lowestGroup, Cond.selects RX1 yX1_lowestGroup yX1_lowestGroup, Cond.code yX1_lowestGroup cX1_lowestGroup 5 (some .int), Cond.methodLink RL 108 yX2_groupOf, Cond.instanceMethod yX2_groupOf, Cond.selects RX2 yX2_groupOf yX2_groupOf, Cond.code yX2_groupOf cX2_groupOf 2 (some .int), Cond.methodLink RL 111 yX2_ballAt, Cond.instanceMethod yX2_ballAt]
set_option maxRecDepth 20000 in
theorem ggL_law_L_isDraw_k20 : GoodIn wsL_law ggL_law_L_isDraw_l20 := goodIn_r _ [211, 212, 213, 214, 215, 216, 217, 218, 219, 220, 221, 222] (by decide +kernel) (by decide +kernel)
theorem ggL_law_L_isDraw_n21 : GoodIn wsL_law wsL_isDraw_r7 := (goodIn_app ggL_law_L_isDraw_k19 ggL_law_L_isDraw_k20)
def ggL_law_L_isDraw_l22 : List Cond := [Cond.selects RX2 yX2_ballAt yX2_ballAt, Cond.code yX2_ballAt cX2_ballAt 3 (some .int), Cond.methodLink RX2 107 yX2_findBall, Cond.instanceMethod yX2_findBall, Cond.selects RX2 yX2_findBall yX2_findBall, Cond.code yX2_findBall cX2_findBall 6 (some .int), Cond.methodLink RL 114 yL_follows, Cond.static yL_follows, Cond.code yL_follows cL_follows 14 none, Cond.methodLink RL 7 yL_at, Cond.static yL_at, Cond.code yL_at cL_at 9 (some .int)]
set_option maxRecDepth 20000 in
theorem ggL_law_L_isDraw_k22 : GoodIn wsL_law ggL_law_L_isDraw_l22 := goodIn_r _ [223, 224, 225, 226, 227, 228, 229, 230, 231, 67, 68, 69] (by decide +kernel) (by decide +kernel)
def ggL_law_L_isDraw_l23 : List Cond := [Cond.methodLink RL 45 yL_lowest, Cond.static yL_lowest, Cond.code yL_lowest cL_lowest 6 (some .int), Cond.methodLink RL 118 yX2_chances, Cond.instanceMethod yX2_chances, Cond.selects RX2 yX2_chances yX2_chances, Cond.code yX2_chances cX2_chances 3 (some .int), Cond.methodLink RX2 163 yX2_endResults, Cond.instanceMethod yX2_endResults, Cond.selects RX2 yX2_endResults yX2_endResults, Cond.code yX2_endResults cX2_endResults 1 (some (.object "CupDraw$ResultList")), Cond.fieldLink RX2 113 "CupDraw" "isEndListFresh" "Z"]
set_option maxRecDepth 20000 in
theorem ggL_law_L_isDraw_k23 : GoodIn wsL_law ggL_law_L_isDraw_l23 := goodIn_r _ [232, 233, 234, 235, 236, 237, 238, 239, 240, 241, 242, 59] (by decide +kernel) (by decide +kernel)
theorem ggL_law_L_isDraw_n24 : GoodIn wsL_law wsL_isDraw_r8 := (goodIn_app ggL_law_L_isDraw_k22 ggL_law_L_isDraw_k23)
def ggL_law_L_isDraw_l25 : List Cond := [Cond.fieldLink RX2 23 "CupDraw" "endList" "LCupDraw$ResultList;", Cond.methodLink RX2 196 yX2_followOrders, Cond.instanceMethod yX2_followOrders, Cond.selects RX2 yX2_followOrders yX2_followOrders, Cond.code yX2_followOrders cX2_followOrders 4 none, Cond.methodLink RX2 199 yX1_first, Cond.instanceMethod yX1_first, Cond.selects RX1 yX1_first yX1_first, Cond.code yX1_first cX1_first 1 (some .int), Cond.methodLink RX2 202 yX1_add, Cond.methodLink RX2 205 yX2_left, Cond.methodLink RX2 208 yX2_followBall]
set_option maxRecDepth 20000 in
theorem ggL_law_L_isDraw_k25 : GoodIn wsL_law ggL_law_L_isDraw_l25 := goodIn_r _ [21, 243, 244, 245, 246, 247, 248, 249, 250, 251, 252, 253] (by decide +kernel) (by decide +kernel)
def ggL_law_L_isDraw_l26 : List Cond := [Cond.instanceMethod yX2_followBall, Cond.selects RX2 yX2_followBall yX2_followBall, Cond.code yX2_followBall cX2_followBall 3 none, Cond.methodLink RX2 117 yX2_seat, Cond.instanceMethod yX2_seat, Cond.selects RX2 yX2_seat yX2_seat, Cond.code yX2_seat cX2_seat 3 none, Cond.fieldLink RX2 33 "CupDraw" "openBefore" "[I", Cond.fieldLink RX2 30 "CupDraw" "drawnTeams" "[I", Cond.methodLink RX2 180 yX1_narrow, Cond.instanceMethod yX1_narrow, Cond.selects RX1 yX1_narrow yX1_narrow]
set_option maxRecDepth 20000 in
theorem ggL_law_L_isDraw_k26 : GoodIn wsL_law ggL_law_L_isDraw_l26 := goodIn_r _ [254, 255, 256, 257, 258, 259, 260, 24, 23, 261, 262, 263] (by decide +kernel) (by decide +kernel)
theorem ggL_law_L_isDraw_n27 : GoodIn wsL_law wsL_isDraw_r9 := (goodIn_app ggL_law_L_isDraw_k25 ggL_law_L_isDraw_k26)
def ggL_law_L_isDraw_l28 : List Cond := [Cond.code yX1_narrow cX1_narrow 6 none, Cond.methodLink RX2 123 yX2_unseat, Cond.instanceMethod yX2_unseat, Cond.selects RX2 yX2_unseat yX2_unseat, Cond.code yX2_unseat cX2_unseat 2 (some .int), Cond.methodLink RX2 183 yX1_widen, Cond.instanceMethod yX1_widen, Cond.selects RX1 yX1_widen yX1_widen, Cond.code yX1_widen cX1_widen 2 none, Cond.methodLink RL 121 yX2_pairings, Cond.instanceMethod yX2_pairings, Cond.selects RX2 yX2_pairings yX2_pairings]
set_option maxRecDepth 20000 in
theorem ggL_law_L_isDraw_k28 : GoodIn wsL_law ggL_law_L_isDraw_l28 := goodIn_r _ [264, 265, 266, 267, 268, 269, 270, 271, 272, 273, 274, 275] (by decide +kernel) (by decide +kernel)
def ggL_law_L_isDraw_l29 : List Cond := [Cond.code yX2_pairings cX2_pairings 3 (some .int), Cond.methodLink RX2 166 yX1_countTogether, Cond.instanceMethod yX1_countTogether, Cond.selects RX1 yX1_countTogether yX1_countTogether, Cond.code yX1_countTogether cX1_countTogether 5 (some .int)]
set_option maxRecDepth 20000 in
theorem ggL_law_L_isDraw_k29 : GoodIn wsL_law ggL_law_L_isDraw_l29 := goodIn_r _ [276, 277, 278, 279, 280] (by decide +kernel) (by decide +kernel)
theorem ggL_law_L_isDraw_n30 : GoodIn wsL_law wsL_isDraw_r10 := (goodIn_app ggL_law_L_isDraw_k28 ggL_law_L_isDraw_k29)
set_option maxRecDepth 20000 in
theorem ggL_law_L_isDraw_k31 : GoodIn wsL_law wsX20 := goodIn_r _ [337, 338, 339, 340, 341, 342, 343, 344, 345] (by decide +kernel) (by decide +kernel)
set_option maxRecDepth 20000 in
theorem ggL_law_L_isDraw_k32 : GoodIn wsL_law wsX00 := goodIn_r _ [346, 347, 348, 349, 350, 351, 352, 353, 354] (by decide +kernel) (by decide +kernel)
set_option maxRecDepth 20000 in
theorem ggL_law_L_isDraw_k33 : GoodIn wsL_law wsX10 := goodIn_r _ [355, 356] (by decide +kernel) (by decide +kernel)
theorem ggL_law_L_isDraw : GoodIn wsL_law wsL_isDraw := goodIn_ca (goodIn_app ggL_law_L_isDraw_k0 (goodIn_app (goodIn_app (goodIn_app (goodIn_app ggL_law_L_isDraw_n3 (goodIn_app ggL_law_L_isDraw_n6 (goodIn_app ggL_law_L_isDraw_n9 (goodIn_app ggL_law_L_isDraw_n12 (goodIn_app ggL_law_L_isDraw_n15 (goodIn_app ggL_law_L_isDraw_n18 (goodIn_app ggL_law_L_isDraw_n21 (goodIn_app ggL_law_L_isDraw_n24 (goodIn_app ggL_law_L_isDraw_n27 ggL_law_L_isDraw_n30))))))))) ggL_law_L_isDraw_k31) ggL_law_L_isDraw_k32) ggL_law_L_isDraw_k33)) (goodIn_sub (fun _ h => List.mem_append_left _ (List.mem_append_left _ (List.mem_append_right _ h))) (by decide +kernel))
set_option maxRecDepth 20000 in
theorem gL_law_L_isDraw : GoodIn wsL_law (va_wsS RL 133 yL_isDraw wsL_isDraw) := goodIn_app (goodIn_of _ (by decide +kernel)) ggL_law_L_isDraw
