theorem mem_r {big : List Cond} (ws : List Cond) (ps : List Nat) (hp : ws = ps.filterMap (fun i => big[i]?)) : ∀ w ∈ ws, w ∈ big := by
  intro w hw
  rw [hp] at hw
  obtain ⟨i, -, hi⟩ := List.mem_filterMap.mp hw
  first | exact List.mem_of_getElem? hi | exact List.getElem?_mem hi
set_option maxRecDepth 20000 in
theorem gc_X7_init : GoodIn lw_tbl [Cond.code yX7_init cX7_init 1 none] := goodIn_r _ [70] (by decide +kernel) (by decide +kernel)
set_option maxRecDepth 20000 in
theorem gw_wsX7_init_r1 : GoodIn lw_tbl wsX7_init_r1 := goodIn_r _ [71, 72, 73, 74, 75, 56, 136, 137, 138, 107, 108, 58, 139, 94, 140, 77, 78, 79, 95, 80, 81, 57, 96, 98] (by decide +kernel) (by decide +kernel)
set_option maxRecDepth 20000 in
theorem gw_wsX7_init_r2 : GoodIn lw_tbl wsX7_init_r2 := goodIn_r _ [83, 84, 85, 86, 110, 111, 112] (by decide +kernel) (by decide +kernel)
set_option maxRecDepth 20000 in
theorem gw_wsX40 : GoodIn lw_tbl wsX40 := goodIn_r _ [100, 102, 104] (by decide +kernel) (by decide +kernel)
set_option maxRecDepth 20000 in
theorem gw_wsX70 : GoodIn lw_tbl wsX70 := goodIn_r _ [143, 145, 147, 149, 151, 153, 155] (by decide +kernel) (by decide +kernel)
set_option maxRecDepth 20000 in
theorem gw_wsX10 : GoodIn lw_tbl wsX10 := goodIn_r _ [125, 127, 129, 131, 133] (by decide +kernel) (by decide +kernel)
set_option maxRecDepth 20000 in
theorem gw_wsX30 : GoodIn lw_tbl wsX30 := goodIn_r _ [89, 91] (by decide +kernel) (by decide +kernel)
theorem gw_X7_init : GoodIn lw_tbl wsX7_init := goodIn_app gc_X7_init (goodIn_app (goodIn_app (goodIn_app (goodIn_app (goodIn_app gw_wsX7_init_r1 gw_wsX7_init_r2) gw_wsX40) gw_wsX70) gw_wsX10) gw_wsX30)
set_option maxRecDepth 20000 in
theorem gc_X7_ring : GoodIn lw_tbl [Cond.code yX7_ring cX7_ring 3 (some .int)] := goodIn_r _ [161] (by decide +kernel) (by decide +kernel)
set_option maxRecDepth 20000 in
theorem gw_X7_ring_l1 : GoodIn lw_tbl ([.fieldLink RX7 10 "RingMeets" "now" "LRingMeets$Scene;", .methodLink RX7 37 yX4_empty, .instanceMethod yX4_empty, .selects RX4 yX4_empty yX4_empty, .initialized RX4, .code yX4_empty cX4_empty 3 none, .fieldLink RX4 22 "RingMeets$Scene" "cells" "I", .fieldLink RX4 9 "RingMeets$Scene" "walkers" "[I"] : List Cond) := goodIn_r _ [136, 162, 163, 164, 56, 165, 98, 95] (by decide +kernel) (by decide +kernel)
theorem gw_X7_ring : GoodIn lw_tbl wsX7_ring := goodIn_app gc_X7_ring (goodIn_app (goodIn_app gw_X7_ring_l1 gw_wsX70) gw_wsX40)
set_option maxRecDepth 20000 in
theorem gv_X7_ring : GoodIn lw_tbl (wsV RL 13 RX7 yX7_ring wsX7_ring) := goodIn_app (goodIn_r _ [158, 159, 160, 55] (by decide +kernel) (by decide +kernel)) gw_X7_ring
set_option maxRecDepth 20000 in
theorem gc_X7_stand : GoodIn lw_tbl [Cond.code yX7_stand cX7_stand 4 (some .int)] := goodIn_r _ [169] (by decide +kernel) (by decide +kernel)
set_option maxRecDepth 20000 in
theorem gw_X7_stand_l1 : GoodIn lw_tbl ([.fieldLink RX7 10 "RingMeets" "now" "LRingMeets$Scene;", .methodLink RX7 41 yX4_hasCell, .instanceMethod yX4_hasCell, .selects RX4 yX4_hasCell yX4_hasCell, .initialized RX4, .code yX4_hasCell cX4_hasCell 2 (some .boolean), .fieldLink RX4 22 "RingMeets$Scene" "cells" "I", .methodLink RX7 45 yX4_walkersOn, .instanceMethod yX4_walkersOn, .selects RX4 yX4_walkersOn yX4_walkersOn, .code yX4_walkersOn cX4_walkersOn 2 (some .int), .fieldLink RX4 9 "RingMeets$Scene" "walkers" "[I", .methodLink RX4 26 yX4_hasCell, .methodLink RX7 49 yX4_walkersInAll, .instanceMethod yX4_walkersInAll, .selects RX4 yX4_walkersInAll yX4_walkersInAll, .code yX4_walkersInAll cX4_walkersInAll 3 (some .int), .methodLink RX4 30 yX4_walkersOn, .methodLink RX7 53 yX4_put, .instanceMethod yX4_put, .selects RX4 yX4_put yX4_put, .code yX4_put cX4_put 3 none] : List Cond) := goodIn_r _ [136, 170, 171, 172, 56, 173, 98, 174, 175, 176, 177, 95, 178, 179, 180, 181, 182, 183, 184, 185, 186, 187] (by decide +kernel) (by decide +kernel)
theorem gw_X7_stand : GoodIn lw_tbl wsX7_stand := goodIn_app gc_X7_stand (goodIn_app (goodIn_app gw_X7_stand_l1 gw_wsX70) gw_wsX40)
set_option maxRecDepth 20000 in
theorem gv_X7_stand : GoodIn lw_tbl (wsV RL 18 RX7 yX7_stand wsX7_stand) := goodIn_app (goodIn_r _ [166, 167, 168, 55] (by decide +kernel) (by decide +kernel)) gw_X7_stand
set_option maxRecDepth 20000 in
theorem gc_X7_gap : GoodIn lw_tbl [Cond.code yX7_gap cX7_gap 7 (some .int)] := goodIn_r _ [191] (by decide +kernel) (by decide +kernel)
set_option maxRecDepth 20000 in
theorem gw_wsX7_gap_r1 : GoodIn lw_tbl wsX7_gap_r1 := goodIn_r _ [136, 192, 193, 194, 56, 195, 196, 198, 0, 199, 98, 183, 175, 176, 177, 95, 178, 171, 172, 173, 200, 201, 60, 202] (by decide +kernel) (by decide +kernel)
set_option maxRecDepth 20000 in
theorem gw_wsX7_gap_r2 : GoodIn lw_tbl wsX7_gap_r2 := goodIn_r _ [203, 204, 61, 205, 206, 207, 208, 209, 210, 62, 211, 219, 220, 63, 221, 212, 213, 214, 215, 216, 217, 218, 222, 223] (by decide +kernel) (by decide +kernel)
set_option maxRecDepth 20000 in
theorem gw_wsX7_gap_r3 : GoodIn lw_tbl wsX7_gap_r3 := goodIn_r _ [224, 225] (by decide +kernel) (by decide +kernel)
theorem gw_X7_gap : GoodIn lw_tbl wsX7_gap := goodIn_app gc_X7_gap (goodIn_app (goodIn_app (goodIn_app gw_wsX7_gap_r1 (goodIn_app gw_wsX7_gap_r2 gw_wsX7_gap_r3)) gw_wsX70) gw_wsX40)
set_option maxRecDepth 20000 in
theorem gv_X7_gap : GoodIn lw_tbl (wsV RL 23 RX7 yX7_gap wsX7_gap) := goodIn_app (goodIn_r _ [188, 189, 190, 55] (by decide +kernel) (by decide +kernel)) gw_X7_gap
set_option maxRecDepth 20000 in
theorem gc_X7_shape : GoodIn lw_tbl [Cond.code yX7_shape cX7_shape 4 (some .int)] := goodIn_r _ [229] (by decide +kernel) (by decide +kernel)
set_option maxRecDepth 20000 in
theorem gw_wsX7_shape_r1 : GoodIn lw_tbl wsX7_shape_r1 := goodIn_r _ [136, 192, 193, 194, 56, 195, 196, 198, 0, 199, 98, 183, 175, 176, 177, 95, 178, 171, 172, 173, 230, 231, 62, 232] (by decide +kernel) (by decide +kernel)
set_option maxRecDepth 20000 in
theorem gw_wsX7_shape_r2 : GoodIn lw_tbl wsX7_shape_r2 := goodIn_r _ [218, 201, 60, 202, 212, 213, 214, 215, 216, 217, 233, 234, 235, 236, 237, 238, 239, 240, 241, 242, 243, 244, 245, 210] (by decide +kernel) (by decide +kernel)
set_option maxRecDepth 20000 in
theorem gw_wsX7_shape_r3 : GoodIn lw_tbl wsX7_shape_r3 := goodIn_r _ [211, 219, 220, 63, 221, 246, 247, 248, 249, 250, 251] (by decide +kernel) (by decide +kernel)
theorem gw_X7_shape : GoodIn lw_tbl wsX7_shape := goodIn_app gc_X7_shape (goodIn_app (goodIn_app (goodIn_app gw_wsX7_shape_r1 (goodIn_app gw_wsX7_shape_r2 gw_wsX7_shape_r3)) gw_wsX70) gw_wsX40)
set_option maxRecDepth 20000 in
theorem gv_X7_shape : GoodIn lw_tbl (wsV RL 28 RX7 yX7_shape wsX7_shape) := goodIn_app (goodIn_r _ [226, 227, 228, 55] (by decide +kernel) (by decide +kernel)) gw_X7_shape
set_option maxRecDepth 20000 in
theorem gc_X7_rule : GoodIn lw_tbl [Cond.code yX7_rule cX7_rule 6 (some .int)] := goodIn_r _ [255] (by decide +kernel) (by decide +kernel)
set_option maxRecDepth 20000 in
theorem gw_X7_rule_l1 : GoodIn lw_tbl ([.fieldLink RX7 10 "RingMeets" "now" "LRingMeets$Scene;", .methodLink RX7 104 yX3_append, .instanceMethod yX3_append, .selects RX3 yX3_append yX3_append, .initialized RX3, .code yX3_append cX3_append 7 (some .int), .fieldLink RX3 15 "RingMeets$Rules" "size" "I", .methodLink RX3 23 yX3_setPart, .instanceMethod yX3_setPart, .selects RX3 yX3_setPart yX3_setPart, .code yX3_setPart cX3_setPart 4 none, .fieldLink RX3 9 "RingMeets$Rules" "told" "[I", .methodLink RX3 19 yX3_has, .instanceMethod yX3_has, .selects RX3 yX3_has yX3_has, .code yX3_has cX3_has 2 (some .boolean)] : List Cond) := goodIn_r _ [136, 256, 257, 258, 57, 259, 87, 260, 261, 262, 263, 86, 264, 265, 266, 267] (by decide +kernel) (by decide +kernel)
theorem gw_X7_rule : GoodIn lw_tbl wsX7_rule := goodIn_app gc_X7_rule (goodIn_app (goodIn_app (goodIn_app gw_X7_rule_l1 gw_wsX70) gw_wsX40) gw_wsX30)
set_option maxRecDepth 20000 in
theorem gv_X7_rule : GoodIn lw_tbl (wsV RL 32 RX7 yX7_rule wsX7_rule) := goodIn_app (goodIn_r _ [252, 253, 254, 55] (by decide +kernel) (by decide +kernel)) gw_X7_rule
set_option maxRecDepth 20000 in
theorem gc_X7_whom : GoodIn lw_tbl [Cond.code yX7_whom cX7_whom 4 (some .int)] := goodIn_r _ [271] (by decide +kernel) (by decide +kernel)
set_option maxRecDepth 20000 in
theorem gw_X7_whom_l1 : GoodIn lw_tbl ([.fieldLink RX7 10 "RingMeets" "now" "LRingMeets$Scene;", .methodLink RX7 110 yX3_has, .instanceMethod yX3_has, .selects RX3 yX3_has yX3_has, .initialized RX3, .code yX3_has cX3_has 2 (some .boolean), .fieldLink RX3 15 "RingMeets$Rules" "size" "I", .methodLink RX7 112 yX3_part, .instanceMethod yX3_part, .selects RX3 yX3_part yX3_part, .code yX3_part cX3_part 3 (some .int), .fieldLink RX3 9 "RingMeets$Rules" "told" "[I", .methodLink RX3 19 yX3_has, .methodLink RX7 115 yX3_setPart, .instanceMethod yX3_setPart, .selects RX3 yX3_setPart yX3_setPart, .code yX3_setPart cX3_setPart 4 none] : List Cond) := goodIn_r _ [136, 272, 265, 266, 57, 267, 87, 273, 274, 275, 276, 86, 264, 277, 261, 262, 263] (by decide +kernel) (by decide +kernel)
theorem gw_X7_whom : GoodIn lw_tbl wsX7_whom := goodIn_app gc_X7_whom (goodIn_app (goodIn_app (goodIn_app gw_X7_whom_l1 gw_wsX70) gw_wsX40) gw_wsX30)
set_option maxRecDepth 20000 in
theorem gv_X7_whom : GoodIn lw_tbl (wsV RL 37 RX7 yX7_whom wsX7_whom) := goodIn_app (goodIn_r _ [268, 269, 270, 55] (by decide +kernel) (by decide +kernel)) gw_X7_whom
set_option maxRecDepth 20000 in
theorem gc_X7_drop : GoodIn lw_tbl [Cond.code yX7_drop cX7_drop 2 (some .int)] := goodIn_r _ [281] (by decide +kernel) (by decide +kernel)
set_option maxRecDepth 20000 in
theorem gw_X7_drop_l1 : GoodIn lw_tbl ([.fieldLink RX7 10 "RingMeets" "now" "LRingMeets$Scene;", .methodLink RX7 110 yX3_has, .instanceMethod yX3_has, .selects RX3 yX3_has yX3_has, .initialized RX3, .code yX3_has cX3_has 2 (some .boolean), .fieldLink RX3 15 "RingMeets$Rules" "size" "I", .methodLink RX7 119 yX3_remove, .instanceMethod yX3_remove, .selects RX3 yX3_remove yX3_remove, .code yX3_remove cX3_remove 3 none, .fieldLink RX3 9 "RingMeets$Rules" "told" "[I", .methodLink RX3 19 yX3_has] : List Cond) := goodIn_r _ [136, 272, 265, 266, 57, 267, 87, 282, 283, 284, 285, 86, 264] (by decide +kernel) (by decide +kernel)
theorem gw_X7_drop : GoodIn lw_tbl wsX7_drop := goodIn_app gc_X7_drop (goodIn_app (goodIn_app (goodIn_app gw_X7_drop_l1 gw_wsX70) gw_wsX40) gw_wsX30)
set_option maxRecDepth 20000 in
theorem gv_X7_drop : GoodIn lw_tbl (wsV RL 41 RX7 yX7_drop wsX7_drop) := goodIn_app (goodIn_r _ [278, 279, 280, 55] (by decide +kernel) (by decide +kernel)) gw_X7_drop
set_option maxRecDepth 20000 in
theorem gc_X7_of : GoodIn lw_tbl [Cond.code yX7_of cX7_of 3 (some .int)] := goodIn_r _ [289] (by decide +kernel) (by decide +kernel)
set_option maxRecDepth 20000 in
theorem gw_X7_of_l1 : GoodIn lw_tbl ([.fieldLink RX7 10 "RingMeets" "now" "LRingMeets$Scene;", .methodLink RX7 110 yX3_has, .instanceMethod yX3_has, .selects RX3 yX3_has yX3_has, .initialized RX3, .code yX3_has cX3_has 2 (some .boolean), .fieldLink RX3 15 "RingMeets$Rules" "size" "I", .methodLink RX7 112 yX3_part, .instanceMethod yX3_part, .selects RX3 yX3_part yX3_part, .code yX3_part cX3_part 3 (some .int), .fieldLink RX3 9 "RingMeets$Rules" "told" "[I", .methodLink RX3 19 yX3_has] : List Cond) := goodIn_r _ [136, 272, 265, 266, 57, 267, 87, 273, 274, 275, 276, 86, 264] (by decide +kernel) (by decide +kernel)
theorem gw_X7_of : GoodIn lw_tbl wsX7_of := goodIn_app gc_X7_of (goodIn_app (goodIn_app (goodIn_app gw_X7_of_l1 gw_wsX70) gw_wsX40) gw_wsX30)
set_option maxRecDepth 20000 in
theorem gv_X7_of : GoodIn lw_tbl (wsV RL 45 RX7 yX7_of wsX7_of) := goodIn_app (goodIn_r _ [286, 287, 288, 55] (by decide +kernel) (by decide +kernel)) gw_X7_of
set_option maxRecDepth 20000 in
theorem gc_X7_does : GoodIn lw_tbl [Cond.code yX7_does cX7_does 4 (some .int)] := goodIn_r _ [293] (by decide +kernel) (by decide +kernel)
set_option maxRecDepth 20000 in
theorem gw_wsX7_does_r1 : GoodIn lw_tbl wsX7_does_r1 := goodIn_r _ [136, 139, 192, 193, 194, 56, 195, 196, 198, 0, 199, 98, 183, 175, 176, 177, 95, 178, 171, 172, 173, 200, 201, 60] (by decide +kernel) (by decide +kernel)
set_option maxRecDepth 20000 in
theorem gw_wsX7_does_r2 : GoodIn lw_tbl wsX7_does_r2 := goodIn_r _ [202, 294, 295, 296, 297, 298, 299, 300, 58, 301, 123, 113, 305, 220, 63, 221, 115, 118, 121, 302, 213, 62, 214, 215] (by decide +kernel) (by decide +kernel)
set_option maxRecDepth 20000 in
theorem gw_wsX7_does_r3 : GoodIn lw_tbl wsX7_does_r3 := goodIn_r _ [216, 217, 218, 303, 304, 204, 61, 205, 206, 207, 208, 306, 307, 308, 57, 309, 87, 310, 312, 1, 313, 86, 314, 224] (by decide +kernel) (by decide +kernel)
set_option maxRecDepth 20000 in
theorem gw_wsX7_does_r4 : GoodIn lw_tbl wsX7_does_r4 := goodIn_r _ [225, 315, 316, 317, 318, 265, 266, 267, 319, 274, 275, 276, 264, 320, 322, 2, 323, 324, 325, 326, 327, 328] (by decide +kernel) (by decide +kernel)
theorem gw_X7_does : GoodIn lw_tbl wsX7_does := goodIn_app gc_X7_does (goodIn_app (goodIn_app (goodIn_app (goodIn_app (goodIn_app gw_wsX7_does_r1 (goodIn_app gw_wsX7_does_r2 (goodIn_app gw_wsX7_does_r3 gw_wsX7_does_r4))) gw_wsX70) gw_wsX40) gw_wsX10) gw_wsX30)
set_option maxRecDepth 20000 in
theorem gv_X7_does : GoodIn lw_tbl (wsV RL 49 RX7 yX7_does wsX7_does) := goodIn_app (goodIn_r _ [290, 291, 292, 55] (by decide +kernel) (by decide +kernel)) gw_X7_does
set_option maxRecDepth 20000 in
theorem gc_X7_step : GoodIn lw_tbl [Cond.code yX7_step cX7_step 6 (some .int)] := goodIn_r _ [332] (by decide +kernel) (by decide +kernel)
set_option maxRecDepth 20000 in
theorem gw_wsX7_step_r1 : GoodIn lw_tbl wsX7_step_r1 := goodIn_r _ [136, 140, 139, 192, 193, 194, 56, 195, 196, 198, 0, 199, 98, 183, 175, 176, 177, 95, 178, 171, 172, 173, 294, 295] (by decide +kernel) (by decide +kernel)
set_option maxRecDepth 20000 in
theorem gw_wsX7_step_r2 : GoodIn lw_tbl wsX7_step_r2 := goodIn_r _ [296, 297, 200, 201, 60, 202, 298, 299, 300, 58, 301, 123, 113, 305, 220, 63, 221, 115, 118, 121, 302, 213, 62, 214] (by decide +kernel) (by decide +kernel)
set_option maxRecDepth 20000 in
theorem gw_wsX7_step_r3 : GoodIn lw_tbl wsX7_step_r3 := goodIn_r _ [215, 216, 217, 218, 303, 304, 204, 61, 205, 206, 207, 208, 306, 307, 308, 57, 309, 87, 310, 312, 1, 313, 86, 314] (by decide +kernel) (by decide +kernel)
set_option maxRecDepth 20000 in
theorem gw_wsX7_step_r4 : GoodIn lw_tbl wsX7_step_r4 := goodIn_r _ [224, 225, 315, 316, 317, 318, 265, 266, 267, 319, 274, 275, 276, 264, 320, 322, 2, 323, 324, 325, 326, 327, 328, 174] (by decide +kernel) (by decide +kernel)
set_option maxRecDepth 20000 in
theorem gw_wsX7_step_r5 : GoodIn lw_tbl wsX7_step_r5 := goodIn_r _ [184, 185, 186, 187, 203] (by decide +kernel) (by decide +kernel)
theorem gw_X7_step : GoodIn lw_tbl wsX7_step := goodIn_app gc_X7_step (goodIn_app (goodIn_app (goodIn_app (goodIn_app (goodIn_app gw_wsX7_step_r1 (goodIn_app gw_wsX7_step_r2 (goodIn_app gw_wsX7_step_r3 (goodIn_app gw_wsX7_step_r4 gw_wsX7_step_r5)))) gw_wsX70) gw_wsX40) gw_wsX10) gw_wsX30)
set_option maxRecDepth 20000 in
theorem gv_X7_step : GoodIn lw_tbl (wsV RL 53 RX7 yX7_step wsX7_step) := goodIn_app (goodIn_r _ [329, 330, 331, 55] (by decide +kernel) (by decide +kernel)) gw_X7_step
set_option maxRecDepth 20000 in
theorem gc_X7_meets : GoodIn lw_tbl [Cond.code yX7_meets cX7_meets 5 (some .int)] := goodIn_r _ [336] (by decide +kernel) (by decide +kernel)
set_option maxRecDepth 20000 in
theorem gw_wsX7_meets_r1 : GoodIn lw_tbl wsX7_meets_r1 := goodIn_r _ [337, 339, 3, 55, 340, 136, 341, 342, 343, 192, 193, 194, 56, 195, 196, 198, 0, 199, 98, 183, 175, 176, 177, 95] (by decide +kernel) (by decide +kernel)
set_option maxRecDepth 20000 in
theorem gw_wsX7_meets_r2 : GoodIn lw_tbl wsX7_meets_r2 := goodIn_r _ [178, 171, 172, 173, 344, 346, 4, 347, 348, 350, 5, 351, 142, 352, 353, 64, 354, 355, 356, 357, 72, 73, 358, 359] (by decide +kernel) (by decide +kernel)
set_option maxRecDepth 20000 in
theorem gw_wsX7_meets_r3 : GoodIn lw_tbl wsX7_meets_r3 := goodIn_r _ [65, 380, 94, 381, 382, 383, 384, 385, 386, 387, 388, 389, 390, 391, 361, 362, 363, 364, 108, 58, 366, 110, 111, 112] (by decide +kernel) (by decide +kernel)
set_option maxRecDepth 20000 in
theorem gw_wsX7_meets_r4 : GoodIn lw_tbl wsX7_meets_r4 := goodIn_r _ [444, 445, 446, 447, 392, 393, 402, 394, 396, 398, 400, 294, 295, 296, 297, 448, 449, 60, 450, 451, 452, 453, 454, 455] (by decide +kernel) (by decide +kernel)
set_option maxRecDepth 20000 in
theorem gw_wsX7_meets_r5 : GoodIn lw_tbl wsX7_meets_r5 := goodIn_r _ [457, 6, 458, 459, 460, 461, 462, 464, 7, 465, 466, 467, 468, 469, 470, 472, 8, 473, 474, 204, 61, 205, 206, 207] (by decide +kernel) (by decide +kernel)
set_option maxRecDepth 20000 in
theorem gw_wsX7_meets_r6 : GoodIn lw_tbl wsX7_meets_r6 := goodIn_r _ [208, 475, 477, 9, 478, 479, 480, 481, 482, 483, 484, 485, 367, 368, 369, 486, 201, 202, 487, 299, 300, 301, 123, 113] (by decide +kernel) (by decide +kernel)
set_option maxRecDepth 20000 in
theorem gw_wsX7_meets_r7 : GoodIn lw_tbl wsX7_meets_r7 := goodIn_r _ [305, 220, 63, 221, 115, 118, 121, 302, 213, 62, 214, 215, 216, 217, 218, 303, 304, 306, 307, 308, 57, 309, 87, 310] (by decide +kernel) (by decide +kernel)
set_option maxRecDepth 20000 in
theorem gw_wsX7_meets_r8 : GoodIn lw_tbl wsX7_meets_r8 := goodIn_r _ [312, 1, 313, 86, 314, 224, 225, 315, 316, 317, 318, 265, 266, 267, 319, 274, 275, 276, 264, 320, 322, 2, 323, 324] (by decide +kernel) (by decide +kernel)
set_option maxRecDepth 20000 in
theorem gw_wsX7_meets_r9 : GoodIn lw_tbl wsX7_meets_r9 := goodIn_r _ [325, 326, 327, 328, 488, 490, 10, 491, 492, 493, 495, 11, 496, 497, 498, 499, 500, 501, 503, 12, 504, 505, 506, 507] (by decide +kernel) (by decide +kernel)
set_option maxRecDepth 20000 in
theorem gw_wsX7_meets_r10 : GoodIn lw_tbl wsX7_meets_r10 := goodIn_r _ [508, 509, 510, 511, 512, 513, 514, 515, 250, 251, 516, 517, 518, 519, 520, 521, 523, 13, 524, 525, 527, 14, 528, 397] (by decide +kernel) (by decide +kernel)
set_option maxRecDepth 20000 in
theorem gw_wsX7_meets_r11 : GoodIn lw_tbl wsX7_meets_r11 := goodIn_r _ [529, 531, 15, 532, 533, 535, 16, 536, 537, 539, 17, 540, 541, 543, 18, 544, 545, 546, 547, 548, 549, 550, 551, 552] (by decide +kernel) (by decide +kernel)
set_option maxRecDepth 20000 in
theorem gw_wsX7_meets_r12 : GoodIn lw_tbl wsX7_meets_r12 := goodIn_r _ [553, 554, 555, 556, 557, 558] (by decide +kernel) (by decide +kernel)
set_option maxRecDepth 20000 in
theorem gw_wsX60 : GoodIn lw_tbl wsX60 := goodIn_r _ [403, 405, 407, 409, 411, 413, 415, 417, 419, 421, 423, 425, 427, 429, 431, 433, 435, 437, 439, 441] (by decide +kernel) (by decide +kernel)
set_option maxRecDepth 20000 in
theorem gw_wsX20 : GoodIn lw_tbl wsX20 := goodIn_r _ [371, 373, 375, 377] (by decide +kernel) (by decide +kernel)
theorem gw_X7_meets : GoodIn lw_tbl wsX7_meets := goodIn_app gc_X7_meets (goodIn_app (goodIn_app (goodIn_app (goodIn_app (goodIn_app (goodIn_app (goodIn_app gw_wsX7_meets_r1 (goodIn_app gw_wsX7_meets_r2 (goodIn_app gw_wsX7_meets_r3 (goodIn_app gw_wsX7_meets_r4 (goodIn_app gw_wsX7_meets_r5 (goodIn_app gw_wsX7_meets_r6 (goodIn_app gw_wsX7_meets_r7 (goodIn_app gw_wsX7_meets_r8 (goodIn_app gw_wsX7_meets_r9 (goodIn_app gw_wsX7_meets_r10 (goodIn_app gw_wsX7_meets_r11 gw_wsX7_meets_r12))))))))))) gw_wsX60) gw_wsX70) gw_wsX40) gw_wsX20) gw_wsX10) gw_wsX30)
set_option maxRecDepth 20000 in
theorem gv_X7_meets : GoodIn lw_tbl (wsV RL 57 RX7 yX7_meets wsX7_meets) := goodIn_app (goodIn_r _ [333, 334, 335, 55] (by decide +kernel) (by decide +kernel)) gw_X7_meets
set_option maxRecDepth 20000 in
theorem gc_X7_first : GoodIn lw_tbl [Cond.code yX7_first cX7_first 4 (some .int)] := goodIn_r _ [562] (by decide +kernel) (by decide +kernel)
set_option maxRecDepth 20000 in
theorem gw_wsX7_first_r1 : GoodIn lw_tbl wsX7_first_r1 := goodIn_r _ [337, 339, 3, 55, 340, 136, 341, 342, 343, 192, 193, 194, 56, 195, 196, 198, 0, 199, 98, 183, 175, 176, 177, 95] (by decide +kernel) (by decide +kernel)
set_option maxRecDepth 20000 in
theorem gw_wsX7_first_r2 : GoodIn lw_tbl wsX7_first_r2 := goodIn_r _ [178, 171, 172, 173, 344, 346, 4, 347, 348, 350, 5, 351, 142, 352, 353, 64, 354, 355, 356, 357, 72, 73, 358, 359] (by decide +kernel) (by decide +kernel)
set_option maxRecDepth 20000 in
theorem gw_wsX7_first_r3 : GoodIn lw_tbl wsX7_first_r3 := goodIn_r _ [65, 380, 94, 381, 382, 383, 384, 385, 386, 387, 388, 389, 390, 391, 361, 362, 363, 364, 108, 58, 366, 110, 111, 112] (by decide +kernel) (by decide +kernel)
set_option maxRecDepth 20000 in
theorem gw_wsX7_first_r4 : GoodIn lw_tbl wsX7_first_r4 := goodIn_r _ [444, 445, 446, 447, 392, 393, 402, 394, 396, 398, 400, 294, 295, 296, 297, 448, 449, 60, 450, 451, 452, 453, 454, 455] (by decide +kernel) (by decide +kernel)
set_option maxRecDepth 20000 in
theorem gw_wsX7_first_r5 : GoodIn lw_tbl wsX7_first_r5 := goodIn_r _ [457, 6, 458, 459, 460, 461, 462, 464, 7, 465, 466, 467, 468, 469, 470, 472, 8, 473, 474, 204, 61, 205, 206, 207] (by decide +kernel) (by decide +kernel)
set_option maxRecDepth 20000 in
theorem gw_wsX7_first_r6 : GoodIn lw_tbl wsX7_first_r6 := goodIn_r _ [208, 475, 477, 9, 478, 479, 480, 481, 482, 483, 484, 485, 367, 368, 369, 486, 201, 202, 487, 299, 300, 301, 123, 113] (by decide +kernel) (by decide +kernel)
set_option maxRecDepth 20000 in
theorem gw_wsX7_first_r7 : GoodIn lw_tbl wsX7_first_r7 := goodIn_r _ [305, 220, 63, 221, 115, 118, 121, 302, 213, 62, 214, 215, 216, 217, 218, 303, 304, 306, 307, 308, 57, 309, 87, 310] (by decide +kernel) (by decide +kernel)
set_option maxRecDepth 20000 in
theorem gw_wsX7_first_r8 : GoodIn lw_tbl wsX7_first_r8 := goodIn_r _ [312, 1, 313, 86, 314, 224, 225, 315, 316, 317, 318, 265, 266, 267, 319, 274, 275, 276, 264, 320, 322, 2, 323, 324] (by decide +kernel) (by decide +kernel)
set_option maxRecDepth 20000 in
theorem gw_wsX7_first_r9 : GoodIn lw_tbl wsX7_first_r9 := goodIn_r _ [325, 326, 327, 328, 488, 490, 10, 491, 492, 493, 495, 11, 496, 497, 498, 499, 500, 501, 503, 12, 504, 505, 506, 507] (by decide +kernel) (by decide +kernel)
set_option maxRecDepth 20000 in
theorem gw_wsX7_first_r10 : GoodIn lw_tbl wsX7_first_r10 := goodIn_r _ [508, 509, 510, 511, 512, 513, 514, 515, 250, 251, 516, 517, 518, 519, 520, 521, 523, 13, 524, 525, 527, 14, 528, 397] (by decide +kernel) (by decide +kernel)
set_option maxRecDepth 20000 in
theorem gw_wsX7_first_r11 : GoodIn lw_tbl wsX7_first_r11 := goodIn_r _ [529, 531, 15, 532, 533, 535, 16, 536, 537, 539, 17, 540, 541, 543, 18, 544, 563, 564, 565, 566, 558, 546, 547, 548] (by decide +kernel) (by decide +kernel)
theorem gw_X7_first : GoodIn lw_tbl wsX7_first := goodIn_app gc_X7_first (goodIn_app (goodIn_app (goodIn_app (goodIn_app (goodIn_app (goodIn_app (goodIn_app gw_wsX7_first_r1 (goodIn_app gw_wsX7_first_r2 (goodIn_app gw_wsX7_first_r3 (goodIn_app gw_wsX7_first_r4 (goodIn_app gw_wsX7_first_r5 (goodIn_app gw_wsX7_first_r6 (goodIn_app gw_wsX7_first_r7 (goodIn_app gw_wsX7_first_r8 (goodIn_app gw_wsX7_first_r9 (goodIn_app gw_wsX7_first_r10 gw_wsX7_first_r11)))))))))) gw_wsX70) gw_wsX40) gw_wsX60) gw_wsX20) gw_wsX10) gw_wsX30)
set_option maxRecDepth 20000 in
theorem gv_X7_first : GoodIn lw_tbl (wsV RL 61 RX7 yX7_first wsX7_first) := goodIn_app (goodIn_r _ [559, 560, 561, 55] (by decide +kernel) (by decide +kernel)) gw_X7_first
set_option maxRecDepth 20000 in
theorem gc_X7_blind : GoodIn lw_tbl [Cond.code yX7_blind cX7_blind 4 (some .int)] := goodIn_r _ [570] (by decide +kernel) (by decide +kernel)
set_option maxRecDepth 20000 in
theorem gw_wsX7_blind_r1 : GoodIn lw_tbl wsX7_blind_r1 := goodIn_r _ [337, 339, 3, 55, 340, 136, 341, 342, 343, 192, 193, 194, 56, 195, 196, 198, 0, 199, 98, 183, 175, 176, 177, 95] (by decide +kernel) (by decide +kernel)
set_option maxRecDepth 20000 in
theorem gw_wsX7_blind_r2 : GoodIn lw_tbl wsX7_blind_r2 := goodIn_r _ [178, 171, 172, 173, 344, 346, 4, 347, 348, 350, 5, 351, 142, 352, 353, 64, 354, 355, 356, 357, 72, 73, 358, 359] (by decide +kernel) (by decide +kernel)
set_option maxRecDepth 20000 in
theorem gw_wsX7_blind_r3 : GoodIn lw_tbl wsX7_blind_r3 := goodIn_r _ [65, 380, 94, 381, 382, 383, 384, 385, 386, 387, 388, 389, 390, 391, 361, 362, 363, 364, 108, 58, 366, 110, 111, 112] (by decide +kernel) (by decide +kernel)
set_option maxRecDepth 20000 in
theorem gw_wsX7_blind_r4 : GoodIn lw_tbl wsX7_blind_r4 := goodIn_r _ [444, 445, 446, 447, 392, 393, 402, 394, 396, 398, 400, 294, 295, 296, 297, 448, 449, 60, 450, 451, 452, 453, 454, 455] (by decide +kernel) (by decide +kernel)
set_option maxRecDepth 20000 in
theorem gw_wsX7_blind_r5 : GoodIn lw_tbl wsX7_blind_r5 := goodIn_r _ [457, 6, 458, 459, 460, 461, 462, 464, 7, 465, 466, 467, 468, 469, 470, 472, 8, 473, 474, 204, 61, 205, 206, 207] (by decide +kernel) (by decide +kernel)
set_option maxRecDepth 20000 in
theorem gw_wsX7_blind_r6 : GoodIn lw_tbl wsX7_blind_r6 := goodIn_r _ [208, 475, 477, 9, 478, 479, 480, 481, 482, 483, 484, 485, 367, 368, 369, 486, 201, 202, 487, 299, 300, 301, 123, 113] (by decide +kernel) (by decide +kernel)
set_option maxRecDepth 20000 in
theorem gw_wsX7_blind_r7 : GoodIn lw_tbl wsX7_blind_r7 := goodIn_r _ [305, 220, 63, 221, 115, 118, 121, 302, 213, 62, 214, 215, 216, 217, 218, 303, 304, 306, 307, 308, 57, 309, 87, 310] (by decide +kernel) (by decide +kernel)
set_option maxRecDepth 20000 in
theorem gw_wsX7_blind_r8 : GoodIn lw_tbl wsX7_blind_r8 := goodIn_r _ [312, 1, 313, 86, 314, 224, 225, 315, 316, 317, 318, 265, 266, 267, 319, 274, 275, 276, 264, 320, 322, 2, 323, 324] (by decide +kernel) (by decide +kernel)
set_option maxRecDepth 20000 in
theorem gw_wsX7_blind_r9 : GoodIn lw_tbl wsX7_blind_r9 := goodIn_r _ [325, 326, 327, 328, 488, 490, 10, 491, 492, 493, 495, 11, 496, 497, 498, 499, 500, 501, 503, 12, 504, 505, 506, 507] (by decide +kernel) (by decide +kernel)
set_option maxRecDepth 20000 in
theorem gw_wsX7_blind_r10 : GoodIn lw_tbl wsX7_blind_r10 := goodIn_r _ [508, 509, 510, 511, 512, 513, 514, 515, 250, 251, 516, 517, 518, 519, 520, 521, 523, 13, 524, 525, 527, 14, 528, 397] (by decide +kernel) (by decide +kernel)
set_option maxRecDepth 20000 in
theorem gw_wsX7_blind_r11 : GoodIn lw_tbl wsX7_blind_r11 := goodIn_r _ [529, 531, 15, 532, 533, 535, 16, 536, 537, 539, 17, 540, 541, 543, 18, 544, 553, 554, 555, 556, 557, 550, 551, 552] (by decide +kernel) (by decide +kernel)
set_option maxRecDepth 20000 in
theorem gw_wsX7_blind_r12 : GoodIn lw_tbl wsX7_blind_r12 := goodIn_r _ [558, 546, 547, 548] (by decide +kernel) (by decide +kernel)
theorem gw_X7_blind : GoodIn lw_tbl wsX7_blind := goodIn_app gc_X7_blind (goodIn_app (goodIn_app (goodIn_app (goodIn_app (goodIn_app (goodIn_app (goodIn_app gw_wsX7_blind_r1 (goodIn_app gw_wsX7_blind_r2 (goodIn_app gw_wsX7_blind_r3 (goodIn_app gw_wsX7_blind_r4 (goodIn_app gw_wsX7_blind_r5 (goodIn_app gw_wsX7_blind_r6 (goodIn_app gw_wsX7_blind_r7 (goodIn_app gw_wsX7_blind_r8 (goodIn_app gw_wsX7_blind_r9 (goodIn_app gw_wsX7_blind_r10 (goodIn_app gw_wsX7_blind_r11 gw_wsX7_blind_r12))))))))))) gw_wsX70) gw_wsX40) gw_wsX60) gw_wsX20) gw_wsX10) gw_wsX30)
set_option maxRecDepth 20000 in
theorem gv_X7_blind : GoodIn lw_tbl (wsV RL 65 RX7 yX7_blind wsX7_blind) := goodIn_app (goodIn_r _ [567, 568, 569, 55] (by decide +kernel) (by decide +kernel)) gw_X7_blind
set_option maxRecDepth 20000 in
theorem gc_X7_used : GoodIn lw_tbl [Cond.code yX7_used cX7_used 4 (some .int)] := goodIn_r _ [574] (by decide +kernel) (by decide +kernel)
set_option maxRecDepth 20000 in
theorem gw_wsX7_used_r1 : GoodIn lw_tbl wsX7_used_r1 := goodIn_r _ [337, 339, 3, 55, 340, 136, 341, 342, 343, 192, 193, 194, 56, 195, 196, 198, 0, 199, 98, 183, 175, 176, 177, 95] (by decide +kernel) (by decide +kernel)
set_option maxRecDepth 20000 in
theorem gw_wsX7_used_r2 : GoodIn lw_tbl wsX7_used_r2 := goodIn_r _ [178, 171, 172, 173, 344, 346, 4, 347, 348, 350, 5, 351, 142, 352, 353, 64, 354, 355, 356, 357, 72, 73, 358, 359] (by decide +kernel) (by decide +kernel)
set_option maxRecDepth 20000 in
theorem gw_wsX7_used_r3 : GoodIn lw_tbl wsX7_used_r3 := goodIn_r _ [65, 380, 94, 381, 382, 383, 384, 385, 386, 387, 388, 389, 390, 391, 361, 362, 363, 364, 108, 58, 366, 110, 111, 112] (by decide +kernel) (by decide +kernel)
set_option maxRecDepth 20000 in
theorem gw_wsX7_used_r4 : GoodIn lw_tbl wsX7_used_r4 := goodIn_r _ [444, 445, 446, 447, 392, 393, 402, 394, 396, 398, 400, 294, 295, 296, 297, 448, 449, 60, 450, 451, 452, 453, 454, 455] (by decide +kernel) (by decide +kernel)
set_option maxRecDepth 20000 in
theorem gw_wsX7_used_r5 : GoodIn lw_tbl wsX7_used_r5 := goodIn_r _ [457, 6, 458, 459, 460, 461, 462, 464, 7, 465, 466, 467, 468, 469, 470, 472, 8, 473, 474, 204, 61, 205, 206, 207] (by decide +kernel) (by decide +kernel)
set_option maxRecDepth 20000 in
theorem gw_wsX7_used_r6 : GoodIn lw_tbl wsX7_used_r6 := goodIn_r _ [208, 475, 477, 9, 478, 479, 480, 481, 482, 483, 484, 485, 367, 368, 369, 486, 201, 202, 487, 299, 300, 301, 123, 113] (by decide +kernel) (by decide +kernel)
set_option maxRecDepth 20000 in
theorem gw_wsX7_used_r7 : GoodIn lw_tbl wsX7_used_r7 := goodIn_r _ [305, 220, 63, 221, 115, 118, 121, 302, 213, 62, 214, 215, 216, 217, 218, 303, 304, 306, 307, 308, 57, 309, 87, 310] (by decide +kernel) (by decide +kernel)
set_option maxRecDepth 20000 in
theorem gw_wsX7_used_r8 : GoodIn lw_tbl wsX7_used_r8 := goodIn_r _ [312, 1, 313, 86, 314, 224, 225, 315, 316, 317, 318, 265, 266, 267, 319, 274, 275, 276, 264, 320, 322, 2, 323, 324] (by decide +kernel) (by decide +kernel)
set_option maxRecDepth 20000 in
theorem gw_wsX7_used_r9 : GoodIn lw_tbl wsX7_used_r9 := goodIn_r _ [325, 326, 327, 328, 488, 490, 10, 491, 492, 493, 495, 11, 496, 497, 498, 499, 500, 501, 503, 12, 504, 505, 506, 507] (by decide +kernel) (by decide +kernel)
set_option maxRecDepth 20000 in
theorem gw_wsX7_used_r10 : GoodIn lw_tbl wsX7_used_r10 := goodIn_r _ [508, 509, 510, 511, 512, 513, 514, 515, 250, 251, 516, 517, 518, 519, 520, 521, 523, 13, 524, 525, 527, 14, 528, 397] (by decide +kernel) (by decide +kernel)
set_option maxRecDepth 20000 in
theorem gw_wsX7_used_r11 : GoodIn lw_tbl wsX7_used_r11 := goodIn_r _ [529, 531, 15, 532, 533, 535, 16, 536, 537, 539, 17, 540, 541, 543, 18, 544] (by decide +kernel) (by decide +kernel)
theorem gw_X7_used : GoodIn lw_tbl wsX7_used := goodIn_app gc_X7_used (goodIn_app (goodIn_app (goodIn_app (goodIn_app (goodIn_app (goodIn_app (goodIn_app gw_wsX7_used_r1 (goodIn_app gw_wsX7_used_r2 (goodIn_app gw_wsX7_used_r3 (goodIn_app gw_wsX7_used_r4 (goodIn_app gw_wsX7_used_r5 (goodIn_app gw_wsX7_used_r6 (goodIn_app gw_wsX7_used_r7 (goodIn_app gw_wsX7_used_r8 (goodIn_app gw_wsX7_used_r9 (goodIn_app gw_wsX7_used_r10 gw_wsX7_used_r11)))))))))) gw_wsX60) gw_wsX70) gw_wsX40) gw_wsX20) gw_wsX10) gw_wsX30)
set_option maxRecDepth 20000 in
theorem gv_X7_used : GoodIn lw_tbl (wsV RL 69 RX7 yX7_used wsX7_used) := goodIn_app (goodIn_r _ [571, 572, 573, 55] (by decide +kernel) (by decide +kernel)) gw_X7_used
set_option maxRecDepth 20000 in
theorem gc_X7_all : GoodIn lw_tbl [Cond.code yX7_all cX7_all 8 (some .int)] := goodIn_r _ [578] (by decide +kernel) (by decide +kernel)
set_option maxRecDepth 20000 in
theorem gw_wsX7_all_r1 : GoodIn lw_tbl wsX7_all_r1 := goodIn_r _ [136, 341, 342, 55, 343, 348, 350, 5, 351, 142, 352, 353, 64, 354, 355, 356, 357, 72, 73, 358, 359, 65, 380, 94] (by decide +kernel) (by decide +kernel)
set_option maxRecDepth 20000 in
theorem gw_wsX7_all_r2 : GoodIn lw_tbl wsX7_all_r2 := goodIn_r _ [381, 382, 383, 384, 385, 386, 387, 388, 389, 390, 391, 361, 362, 363, 364, 108, 58, 366, 110, 111, 112, 444, 445, 446] (by decide +kernel) (by decide +kernel)
set_option maxRecDepth 20000 in
theorem gw_wsX7_all_r3 : GoodIn lw_tbl wsX7_all_r3 := goodIn_r _ [447, 392, 393, 402, 394, 396, 398, 400, 203, 204, 61, 205, 206, 207, 208, 448, 449, 60, 450, 451, 452, 453, 454, 455] (by decide +kernel) (by decide +kernel)
set_option maxRecDepth 20000 in
theorem gw_wsX7_all_r4 : GoodIn lw_tbl wsX7_all_r4 := goodIn_r _ [457, 6, 458, 459, 460, 461, 462, 464, 7, 465, 466, 467, 468, 469, 470, 472, 8, 473, 474, 475, 477, 9, 478, 479] (by decide +kernel) (by decide +kernel)
set_option maxRecDepth 20000 in
theorem gw_wsX7_all_r5 : GoodIn lw_tbl wsX7_all_r5 := goodIn_r _ [480, 481, 482, 483, 484, 485, 367, 368, 369, 486, 201, 202, 487, 299, 300, 301, 123, 113, 305, 220, 63, 221, 115, 118] (by decide +kernel) (by decide +kernel)
set_option maxRecDepth 20000 in
theorem gw_wsX7_all_r6 : GoodIn lw_tbl wsX7_all_r6 := goodIn_r _ [121, 302, 213, 62, 214, 215, 216, 217, 218, 303, 304, 306, 307, 308, 57, 309, 87, 310, 312, 1, 313, 86, 314, 224] (by decide +kernel) (by decide +kernel)
set_option maxRecDepth 20000 in
theorem gw_wsX7_all_r7 : GoodIn lw_tbl wsX7_all_r7 := goodIn_r _ [225, 315, 316, 317, 318, 265, 266, 267, 319, 274, 275, 276, 264, 320, 322, 2, 323, 324, 325, 326, 327, 328, 488, 490] (by decide +kernel) (by decide +kernel)
set_option maxRecDepth 20000 in
theorem gw_wsX7_all_r8 : GoodIn lw_tbl wsX7_all_r8 := goodIn_r _ [10, 491, 492, 493, 495, 11, 496, 497, 498, 499, 500, 501, 503, 12, 504, 505, 506, 507, 508, 509, 510, 511, 512, 513] (by decide +kernel) (by decide +kernel)
set_option maxRecDepth 20000 in
theorem gw_wsX7_all_r9 : GoodIn lw_tbl wsX7_all_r9 := goodIn_r _ [514, 515, 250, 251, 516, 517, 518, 519, 520, 521, 523, 13, 524, 525, 527, 14, 528, 397, 529, 531, 15, 532, 533, 535] (by decide +kernel) (by decide +kernel)
set_option maxRecDepth 20000 in
theorem gw_wsX7_all_r10 : GoodIn lw_tbl wsX7_all_r10 := goodIn_r _ [16, 536, 537, 539, 17, 540, 541, 543, 18, 544, 553, 554, 555, 556, 557, 550, 551, 552, 558, 546, 547, 548] (by decide +kernel) (by decide +kernel)
theorem gw_X7_all : GoodIn lw_tbl wsX7_all := goodIn_app gc_X7_all (goodIn_app (goodIn_app (goodIn_app (goodIn_app (goodIn_app (goodIn_app (goodIn_app gw_wsX7_all_r1 (goodIn_app gw_wsX7_all_r2 (goodIn_app gw_wsX7_all_r3 (goodIn_app gw_wsX7_all_r4 (goodIn_app gw_wsX7_all_r5 (goodIn_app gw_wsX7_all_r6 (goodIn_app gw_wsX7_all_r7 (goodIn_app gw_wsX7_all_r8 (goodIn_app gw_wsX7_all_r9 gw_wsX7_all_r10))))))))) gw_wsX70) gw_wsX40) gw_wsX60) gw_wsX20) gw_wsX10) gw_wsX30)
set_option maxRecDepth 20000 in
theorem gv_X7_all : GoodIn lw_tbl (wsV RL 73 RX7 yX7_all wsX7_all) := goodIn_app (goodIn_r _ [575, 576, 577, 55] (by decide +kernel) (by decide +kernel)) gw_X7_all
set_option maxRecDepth 20000 in
theorem gc_X7_image : GoodIn lw_tbl [Cond.code yX7_image cX7_image 2 (some .int)] := goodIn_r _ [582] (by decide +kernel) (by decide +kernel)
set_option maxRecDepth 20000 in
theorem gw_X7_image_l1 : GoodIn lw_tbl ([.fieldLink RX7 10 "RingMeets" "now" "LRingMeets$Scene;", .fieldLink RX7 199 "RingMeets" "kept" "I", .methodLink RX7 191 yX7_imageOf, .instanceMethod yX7_imageOf, .selects RX7 yX7_imageOf yX7_imageOf, .initialized RX7, .code yX7_imageOf cX7_imageOf 2 (some (.object "RingMeets$Scene")), .fieldLink RX7 16 "RingMeets" "firstImage" "LRingMeets$Scene;", .fieldLink RX7 19 "RingMeets" "secondImage" "LRingMeets$Scene;", .methodLink RX7 195 yX4_copyFrom, .instanceMethod yX4_copyFrom, .selects RX4 yX4_copyFrom yX4_copyFrom, .initialized RX4, .code yX4_copyFrom cX4_copyFrom 3 none, .fieldLink RX4 22 "RingMeets$Scene" "cells" "I", .fieldLink RX4 9 "RingMeets$Scene" "walkers" "[I", .fieldLink RX4 18 "RingMeets$Scene" "rules" "LRingMeets$Rules;", .methodLink RX4 37 yX3_copyFrom, .instanceMethod yX3_copyFrom, .selects RX3 yX3_copyFrom yX3_copyFrom, .initialized RX3, .code yX3_copyFrom cX3_copyFrom 3 none, .fieldLink RX3 15 "RingMeets$Rules" "size" "I", .fieldLink RX3 9 "RingMeets$Rules" "told" "[I"] : List Cond) := goodIn_r _ [136, 141, 583, 585, 19, 55, 586, 137, 138, 587, 588, 589, 56, 590, 98, 95, 96, 591, 592, 593, 57, 594, 87, 86] (by decide +kernel) (by decide +kernel)
theorem gw_X7_image : GoodIn lw_tbl wsX7_image := goodIn_app gc_X7_image (goodIn_app (goodIn_app (goodIn_app gw_X7_image_l1 gw_wsX70) gw_wsX40) gw_wsX30)
set_option maxRecDepth 20000 in
theorem gv_X7_image : GoodIn lw_tbl (wsV RL 77 RX7 yX7_image wsX7_image) := goodIn_app (goodIn_r _ [579, 580, 581, 55] (by decide +kernel) (by decide +kernel)) gw_X7_image
set_option maxRecDepth 20000 in
theorem gc_X7_restore : GoodIn lw_tbl [Cond.code yX7_restore cX7_restore 2 (some .int)] := goodIn_r _ [598] (by decide +kernel) (by decide +kernel)
set_option maxRecDepth 20000 in
theorem gw_wsX7_restore_r1 : GoodIn lw_tbl wsX7_restore_r1 := goodIn_r _ [141, 136, 200, 201, 60, 202, 583, 585, 19, 55, 586, 137, 138, 587, 588, 589, 56, 590, 98, 95, 96, 591, 592, 593] (by decide +kernel) (by decide +kernel)
set_option maxRecDepth 20000 in
theorem gw_wsX7_restore_r2 : GoodIn lw_tbl wsX7_restore_r2 := goodIn_r _ [57, 594, 87, 86] (by decide +kernel) (by decide +kernel)
theorem gw_X7_restore : GoodIn lw_tbl wsX7_restore := goodIn_app gc_X7_restore (goodIn_app (goodIn_app (goodIn_app (goodIn_app gw_wsX7_restore_r1 gw_wsX7_restore_r2) gw_wsX70) gw_wsX40) gw_wsX30)
set_option maxRecDepth 20000 in
theorem gv_X7_restore : GoodIn lw_tbl (wsV RL 81 RX7 yX7_restore wsX7_restore) := goodIn_app (goodIn_r _ [595, 596, 597, 55] (by decide +kernel) (by decide +kernel)) gw_X7_restore
set_option maxRecDepth 20000 in
theorem gc_X7_count : GoodIn lw_tbl [Cond.code yX7_count cX7_count 2 (some .int)] := goodIn_r _ [602] (by decide +kernel) (by decide +kernel)
set_option maxRecDepth 20000 in
theorem gw_wsX7_count_r1 : GoodIn lw_tbl wsX7_count_r1 := goodIn_r _ [136, 141, 174, 175, 176, 56, 177, 95, 178, 171, 172, 173, 98, 179, 180, 181, 182, 183, 192, 193, 194, 195, 196, 198] (by decide +kernel) (by decide +kernel)
set_option maxRecDepth 20000 in
theorem gw_wsX7_count_r2 : GoodIn lw_tbl wsX7_count_r2 := goodIn_r _ [0, 199, 294, 295, 296, 297] (by decide +kernel) (by decide +kernel)
theorem gw_X7_count : GoodIn lw_tbl wsX7_count := goodIn_app gc_X7_count (goodIn_app (goodIn_app (goodIn_app (goodIn_app gw_wsX7_count_r1 gw_wsX7_count_r2) gw_wsX70) gw_wsX40) gw_wsX30)
set_option maxRecDepth 20000 in
theorem gv_X7_count : GoodIn lw_tbl (wsV RL 85 RX7 yX7_count wsX7_count) := goodIn_app (goodIn_r _ [599, 600, 601, 55] (by decide +kernel) (by decide +kernel)) gw_X7_count
set_option maxRecDepth 20000 in
theorem gc_X8_init : GoodIn lw_tbl [Cond.code yX8_init cX8_init 2 none] := goodIn_r _ [607] (by decide +kernel) (by decide +kernel)
set_option maxRecDepth 20000 in
theorem gw_X8_init_l1 : GoodIn lw_tbl ([.methodLink RX8 1 objectInit, .instanceMethod objectInit, .code objectInit ⟨#[0xb1]⟩ 1 none, .arrayClass .int, .fieldLink RX8 7 "RingMeetsModel" "state" "[I", .fieldLink RX8 13 "RingMeetsModel" "images" "[I", .arrayClass .boolean, .fieldLink RX8 16 "RingMeetsModel" "isKept" "[Z", .fieldLink RX8 20 "RingMeetsModel" "power" "[I", .fieldLink RX8 23 "RingMeetsModel" "next" "[I", .constant RX8 26 (59049), .fieldLink RX8 27 "RingMeetsModel" "list" "[I", .fieldLink RX8 30 "RingMeetsModel" "isListed" "[Z", .fieldLink RX8 33 "RingMeetsModel" "moves" "[I", .fieldLink RX8 36 "RingMeetsModel" "soon" "[I", .fieldLink RX8 39 "RingMeetsModel" "late" "[I", .fieldLink RX8 42 "RingMeetsModel" "come" "[I"] : List Cond) := goodIn_r _ [608, 72, 73, 94, 610, 611, 653, 612, 613, 614, 609, 615, 617, 618, 619, 620, 623] (by decide +kernel) (by decide +kernel)
set_option maxRecDepth 20000 in
theorem gw_wsX80 : GoodIn lw_tbl wsX80 := goodIn_r _ [624, 626, 628, 630, 632, 634, 636, 638, 640, 642, 644, 646, 648, 650] (by decide +kernel) (by decide +kernel)
theorem gw_X8_init : GoodIn lw_tbl wsX8_init := goodIn_app gc_X8_init (goodIn_app gw_X8_init_l1 gw_wsX80)
set_option maxRecDepth 20000 in
theorem gc_X8_ring : GoodIn lw_tbl [Cond.code yX8_ring cX8_ring 4 (some .int)] := goodIn_r _ [657] (by decide +kernel) (by decide +kernel)
set_option maxRecDepth 20000 in
theorem gw_X8_ring_l1 : GoodIn lw_tbl ([.fieldLink RX8 7 "RingMeetsModel" "state" "[I", .methodLink RX8 49 yX8_in, .static yX8_in, .initialized RX8, .code yX8_in cX8_in 3 (some .boolean), .methodLink RX8 45 yX8_cells, .instanceMethod yX8_cells, .selects RX8 yX8_cells yX8_cells, .code yX8_cells cX8_cells 1 (some .int)] : List Cond) := goodIn_r _ [610, 658, 659, 59, 660, 661, 663, 20, 664] (by decide +kernel) (by decide +kernel)
theorem gw_X8_ring : GoodIn lw_tbl wsX8_ring := goodIn_app gc_X8_ring (goodIn_app gw_X8_ring_l1 gw_wsX80)
set_option maxRecDepth 20000 in
theorem gv_X8_ring : GoodIn lw_tbl (wsV RL 17 RX8 yX8_ring wsX8_ring) := goodIn_app (goodIn_r _ [654, 655, 656, 59] (by decide +kernel) (by decide +kernel)) gw_X8_ring
set_option maxRecDepth 20000 in
theorem gc_X8_stand : GoodIn lw_tbl [Cond.code yX8_stand cX8_stand 4 (some .int)] := goodIn_r _ [668] (by decide +kernel) (by decide +kernel)
set_option maxRecDepth 20000 in
theorem gw_X8_stand_l1 : GoodIn lw_tbl ([.fieldLink RX8 7 "RingMeetsModel" "state" "[I", .methodLink RX8 53 yX8_isCell, .instanceMethod yX8_isCell, .selects RX8 yX8_isCell yX8_isCell, .initialized RX8, .code yX8_isCell cX8_isCell 2 (some .boolean), .methodLink RX8 45 yX8_cells, .instanceMethod yX8_cells, .selects RX8 yX8_cells yX8_cells, .code yX8_cells cX8_cells 1 (some .int), .methodLink RX8 49 yX8_in, .static yX8_in, .code yX8_in cX8_in 3 (some .boolean), .methodLink RX8 57 yX8_walkers, .instanceMethod yX8_walkers, .selects RX8 yX8_walkers yX8_walkers, .code yX8_walkers cX8_walkers 3 (some .int)] : List Cond) := goodIn_r _ [610, 669, 671, 21, 59, 672, 661, 663, 20, 664, 658, 659, 660, 673, 675, 22, 676] (by decide +kernel) (by decide +kernel)
theorem gw_X8_stand : GoodIn lw_tbl wsX8_stand := goodIn_app gc_X8_stand (goodIn_app gw_X8_stand_l1 gw_wsX80)
set_option maxRecDepth 20000 in
theorem gv_X8_stand : GoodIn lw_tbl (wsV RL 22 RX8 yX8_stand wsX8_stand) := goodIn_app (goodIn_r _ [665, 666, 667, 59] (by decide +kernel) (by decide +kernel)) gw_X8_stand
set_option maxRecDepth 20000 in
theorem gc_X8_gap : GoodIn lw_tbl [Cond.code yX8_gap cX8_gap 7 (some .int)] := goodIn_r _ [680] (by decide +kernel) (by decide +kernel)
set_option maxRecDepth 20000 in
theorem gw_wsX8_gap_r1 : GoodIn lw_tbl wsX8_gap_r1 := goodIn_r _ [681, 683, 23, 59, 684, 610, 669, 671, 21, 672, 661, 663, 20, 664, 658, 659, 660, 685, 687, 24, 688, 613, 689, 691] (by decide +kernel) (by decide +kernel)
set_option maxRecDepth 20000 in
theorem gw_wsX8_gap_r2 : GoodIn lw_tbl wsX8_gap_r2 := goodIn_r _ [25, 692, 693, 694, 695, 696, 698, 26, 699, 700, 702, 27, 703, 704, 706, 28, 707, 708, 710, 29, 711, 712, 714, 30] (by decide +kernel) (by decide +kernel)
set_option maxRecDepth 20000 in
theorem gw_wsX8_gap_r3 : GoodIn lw_tbl wsX8_gap_r3 := goodIn_r _ [715] (by decide +kernel) (by decide +kernel)
theorem gw_X8_gap : GoodIn lw_tbl wsX8_gap := goodIn_app gc_X8_gap (goodIn_app (goodIn_app gw_wsX8_gap_r1 (goodIn_app gw_wsX8_gap_r2 gw_wsX8_gap_r3)) gw_wsX80)
set_option maxRecDepth 20000 in
theorem gv_X8_gap : GoodIn lw_tbl (wsV RL 27 RX8 yX8_gap wsX8_gap) := goodIn_app (goodIn_r _ [677, 678, 679, 59] (by decide +kernel) (by decide +kernel)) gw_X8_gap
set_option maxRecDepth 20000 in
theorem gc_X8_shape : GoodIn lw_tbl [Cond.code yX8_shape cX8_shape 3 (some .int)] := goodIn_r _ [719] (by decide +kernel) (by decide +kernel)
set_option maxRecDepth 20000 in
theorem gw_wsX8_shape_r1 : GoodIn lw_tbl wsX8_shape_r1 := goodIn_r _ [685, 687, 24, 59, 688, 610, 613, 661, 663, 20, 664, 689, 691, 25, 692, 720, 722, 31, 723, 724, 725, 726, 700, 702] (by decide +kernel) (by decide +kernel)
set_option maxRecDepth 20000 in
theorem gw_wsX8_shape_r2 : GoodIn lw_tbl wsX8_shape_r2 := goodIn_r _ [27, 703, 693, 694, 695, 704, 706, 28, 707, 708, 710, 29, 711, 712, 714, 30, 715, 727, 729, 32, 730, 731, 733, 33] (by decide +kernel) (by decide +kernel)
set_option maxRecDepth 20000 in
theorem gw_wsX8_shape_r3 : GoodIn lw_tbl wsX8_shape_r3 := goodIn_r _ [734, 735, 737, 34, 738, 696, 698, 26, 699, 739, 741, 35, 742] (by decide +kernel) (by decide +kernel)
theorem gw_X8_shape : GoodIn lw_tbl wsX8_shape := goodIn_app gc_X8_shape (goodIn_app (goodIn_app gw_wsX8_shape_r1 (goodIn_app gw_wsX8_shape_r2 gw_wsX8_shape_r3)) gw_wsX80)
set_option maxRecDepth 20000 in
theorem gv_X8_shape : GoodIn lw_tbl (wsV RL 31 RX8 yX8_shape wsX8_shape) := goodIn_app (goodIn_r _ [716, 717, 718, 59] (by decide +kernel) (by decide +kernel)) gw_X8_shape
set_option maxRecDepth 20000 in
theorem gc_X8_rule : GoodIn lw_tbl [Cond.code yX8_rule cX8_rule 7 (some .int)] := goodIn_r _ [746] (by decide +kernel) (by decide +kernel)
set_option maxRecDepth 20000 in
theorem gw_X8_rule_l1 : GoodIn lw_tbl ([.fieldLink RX8 7 "RingMeetsModel" "state" "[I", .methodLink RX8 49 yX8_in, .static yX8_in, .initialized RX8, .code yX8_in cX8_in 3 (some .boolean)] : List Cond) := goodIn_r _ [610, 658, 659, 59, 660] (by decide +kernel) (by decide +kernel)
theorem gw_X8_rule : GoodIn lw_tbl wsX8_rule := goodIn_app gc_X8_rule (goodIn_app gw_X8_rule_l1 gw_wsX80)
set_option maxRecDepth 20000 in
theorem gv_X8_rule : GoodIn lw_tbl (wsV RL 36 RX8 yX8_rule wsX8_rule) := goodIn_app (goodIn_r _ [743, 744, 745, 59] (by decide +kernel) (by decide +kernel)) gw_X8_rule
set_option maxRecDepth 20000 in
theorem gc_X8_whom : GoodIn lw_tbl [Cond.code yX8_whom cX8_whom 4 (some .int)] := goodIn_r _ [750] (by decide +kernel) (by decide +kernel)
set_option maxRecDepth 20000 in
theorem gw_X8_whom_l1 : GoodIn lw_tbl ([.fieldLink RX8 7 "RingMeetsModel" "state" "[I", .methodLink RX8 111 yX8_isRule, .instanceMethod yX8_isRule, .selects RX8 yX8_isRule yX8_isRule, .initialized RX8, .code yX8_isRule cX8_isRule 2 (some .boolean), .methodLink RX8 49 yX8_in, .static yX8_in, .code yX8_in cX8_in 3 (some .boolean)] : List Cond) := goodIn_r _ [610, 751, 753, 36, 59, 754, 658, 659, 660] (by decide +kernel) (by decide +kernel)
theorem gw_X8_whom : GoodIn lw_tbl wsX8_whom := goodIn_app gc_X8_whom (goodIn_app gw_X8_whom_l1 gw_wsX80)
set_option maxRecDepth 20000 in
theorem gv_X8_whom : GoodIn lw_tbl (wsV RL 40 RX8 yX8_whom wsX8_whom) := goodIn_app (goodIn_r _ [747, 748, 749, 59] (by decide +kernel) (by decide +kernel)) gw_X8_whom
set_option maxRecDepth 20000 in
theorem gc_X8_drop : GoodIn lw_tbl [Cond.code yX8_drop cX8_drop 3 (some .int)] := goodIn_r _ [758] (by decide +kernel) (by decide +kernel)
set_option maxRecDepth 20000 in
theorem gw_X8_drop_l1 : GoodIn lw_tbl ([.fieldLink RX8 7 "RingMeetsModel" "state" "[I", .methodLink RX8 111 yX8_isRule, .instanceMethod yX8_isRule, .selects RX8 yX8_isRule yX8_isRule, .initialized RX8, .code yX8_isRule cX8_isRule 2 (some .boolean), .methodLink RX8 49 yX8_in, .static yX8_in, .code yX8_in cX8_in 3 (some .boolean)] : List Cond) := goodIn_r _ [610, 751, 753, 36, 59, 754, 658, 659, 660] (by decide +kernel) (by decide +kernel)
theorem gw_X8_drop : GoodIn lw_tbl wsX8_drop := goodIn_app gc_X8_drop (goodIn_app gw_X8_drop_l1 gw_wsX80)
set_option maxRecDepth 20000 in
theorem gv_X8_drop : GoodIn lw_tbl (wsV RL 44 RX8 yX8_drop wsX8_drop) := goodIn_app (goodIn_r _ [755, 756, 757, 59] (by decide +kernel) (by decide +kernel)) gw_X8_drop
set_option maxRecDepth 20000 in
theorem gc_X8_of : GoodIn lw_tbl [Cond.code yX8_of cX8_of 3 (some .int)] := goodIn_r _ [762] (by decide +kernel) (by decide +kernel)
set_option maxRecDepth 20000 in
theorem gw_X8_of_l1 : GoodIn lw_tbl ([.fieldLink RX8 7 "RingMeetsModel" "state" "[I", .methodLink RX8 111 yX8_isRule, .instanceMethod yX8_isRule, .selects RX8 yX8_isRule yX8_isRule, .initialized RX8, .code yX8_isRule cX8_isRule 2 (some .boolean), .methodLink RX8 49 yX8_in, .static yX8_in, .code yX8_in cX8_in 3 (some .boolean)] : List Cond) := goodIn_r _ [610, 751, 753, 36, 59, 754, 658, 659, 660] (by decide +kernel) (by decide +kernel)
theorem gw_X8_of : GoodIn lw_tbl wsX8_of := goodIn_app gc_X8_of (goodIn_app gw_X8_of_l1 gw_wsX80)
set_option maxRecDepth 20000 in
theorem gv_X8_of : GoodIn lw_tbl (wsV RL 48 RX8 yX8_of wsX8_of) := goodIn_app (goodIn_r _ [759, 760, 761, 59] (by decide +kernel) (by decide +kernel)) gw_X8_of
set_option maxRecDepth 20000 in
theorem gc_X8_does : GoodIn lw_tbl [Cond.code yX8_does cX8_does 5 (some .int)] := goodIn_r _ [766] (by decide +kernel) (by decide +kernel)
set_option maxRecDepth 20000 in
theorem gw_wsX8_does_r1 : GoodIn lw_tbl wsX8_does_r1 := goodIn_r _ [610, 681, 683, 23, 59, 684, 669, 671, 21, 672, 661, 663, 20, 664, 658, 659, 660, 685, 687, 24, 688, 613, 689, 691] (by decide +kernel) (by decide +kernel)
set_option maxRecDepth 20000 in
theorem gw_wsX8_does_r2 : GoodIn lw_tbl wsX8_does_r2 := goodIn_r _ [25, 692, 767, 769, 37, 770, 771, 773, 38, 774, 693, 694, 695, 696, 698, 26, 699, 700, 702, 27, 703, 704, 706, 28] (by decide +kernel) (by decide +kernel)
set_option maxRecDepth 20000 in
theorem gw_wsX8_does_r3 : GoodIn lw_tbl wsX8_does_r3 := goodIn_r _ [707, 708, 710, 29, 711, 712, 714, 30, 715, 775, 777, 39, 778, 779, 781, 40, 782] (by decide +kernel) (by decide +kernel)
theorem gw_X8_does : GoodIn lw_tbl wsX8_does := goodIn_app gc_X8_does (goodIn_app (goodIn_app gw_wsX8_does_r1 (goodIn_app gw_wsX8_does_r2 gw_wsX8_does_r3)) gw_wsX80)
set_option maxRecDepth 20000 in
theorem gv_X8_does : GoodIn lw_tbl (wsV RL 52 RX8 yX8_does wsX8_does) := goodIn_app (goodIn_r _ [763, 764, 765, 59] (by decide +kernel) (by decide +kernel)) gw_X8_does
set_option maxRecDepth 20000 in
theorem gc_X8_step : GoodIn lw_tbl [Cond.code yX8_step cX8_step 5 (some .int)] := goodIn_r _ [786] (by decide +kernel) (by decide +kernel)
set_option maxRecDepth 20000 in
theorem gw_wsX8_step_r1 : GoodIn lw_tbl wsX8_step_r1 := goodIn_r _ [614, 610, 685, 687, 24, 59, 688, 613, 661, 663, 20, 664, 689, 691, 25, 692, 724, 725, 726, 767, 769, 37, 770, 771] (by decide +kernel) (by decide +kernel)
set_option maxRecDepth 20000 in
theorem gw_wsX8_step_r2 : GoodIn lw_tbl wsX8_step_r2 := goodIn_r _ [773, 38, 774, 693, 694, 695, 696, 698, 26, 699, 700, 702, 27, 703, 704, 706, 28, 707, 708, 710, 29, 711, 712, 714] (by decide +kernel) (by decide +kernel)
set_option maxRecDepth 20000 in
theorem gw_wsX8_step_r3 : GoodIn lw_tbl wsX8_step_r3 := goodIn_r _ [30, 715, 775, 777, 39, 778, 779, 781, 40, 782] (by decide +kernel) (by decide +kernel)
theorem gw_X8_step : GoodIn lw_tbl wsX8_step := goodIn_app gc_X8_step (goodIn_app (goodIn_app gw_wsX8_step_r1 (goodIn_app gw_wsX8_step_r2 gw_wsX8_step_r3)) gw_wsX80)
set_option maxRecDepth 20000 in
theorem gv_X8_step : GoodIn lw_tbl (wsV RL 56 RX8 yX8_step wsX8_step) := goodIn_app (goodIn_r _ [783, 784, 785, 59] (by decide +kernel) (by decide +kernel)) gw_X8_step
set_option maxRecDepth 20000 in
theorem gc_X8_meets : GoodIn lw_tbl [Cond.code yX8_meets cX8_meets 4 (some .int)] := goodIn_r _ [790] (by decide +kernel) (by decide +kernel)
set_option maxRecDepth 20000 in
theorem gw_wsX8_meets_r1 : GoodIn lw_tbl wsX8_meets_r1 := goodIn_r _ [619, 620, 616, 791, 792, 59, 793, 658, 659, 660, 685, 687, 24, 688, 610, 613, 661, 663, 20, 664, 794, 796, 41, 797] (by decide +kernel) (by decide +kernel)
set_option maxRecDepth 20000 in
theorem gw_wsX8_meets_r2 : GoodIn lw_tbl wsX8_meets_r2 := goodIn_r _ [798, 800, 42, 801, 609, 617, 621, 622, 802, 804, 43, 805, 615, 618, 689, 691, 25, 692, 724, 725, 726, 767, 769, 37] (by decide +kernel) (by decide +kernel)
set_option maxRecDepth 20000 in
theorem gw_wsX8_meets_r3 : GoodIn lw_tbl wsX8_meets_r3 := goodIn_r _ [770, 771, 773, 38, 774, 693, 694, 695, 696, 698, 26, 699, 700, 702, 27, 703, 704, 706, 28, 707, 708, 710, 29, 711] (by decide +kernel) (by decide +kernel)
set_option maxRecDepth 20000 in
theorem gw_wsX8_meets_r4 : GoodIn lw_tbl wsX8_meets_r4 := goodIn_r _ [712, 714, 30, 715, 775, 777, 39, 778, 779, 781, 40, 782, 806, 808, 44, 809, 810, 812, 45, 813, 814, 815, 816, 817] (by decide +kernel) (by decide +kernel)
set_option maxRecDepth 20000 in
theorem gw_wsX8_meets_r5 : GoodIn lw_tbl wsX8_meets_r5 := goodIn_r _ [819, 46, 820, 623, 821, 823, 47, 824, 825, 827, 48, 828, 829, 831, 49, 832, 833, 835, 50, 836, 837, 839, 51, 840] (by decide +kernel) (by decide +kernel)
theorem gw_X8_meets : GoodIn lw_tbl wsX8_meets := goodIn_app gc_X8_meets (goodIn_app (goodIn_app gw_wsX8_meets_r1 (goodIn_app gw_wsX8_meets_r2 (goodIn_app gw_wsX8_meets_r3 (goodIn_app gw_wsX8_meets_r4 gw_wsX8_meets_r5)))) gw_wsX80)
set_option maxRecDepth 20000 in
theorem gv_X8_meets : GoodIn lw_tbl (wsV RL 60 RX8 yX8_meets wsX8_meets) := goodIn_app (goodIn_r _ [787, 788, 789, 59] (by decide +kernel) (by decide +kernel)) gw_X8_meets
set_option maxRecDepth 20000 in
theorem gc_X8_first : GoodIn lw_tbl [Cond.code yX8_first cX8_first 5 (some .int)] := goodIn_r _ [844] (by decide +kernel) (by decide +kernel)
set_option maxRecDepth 20000 in
theorem gw_wsX8_first_r1 : GoodIn lw_tbl wsX8_first_r1 := goodIn_r _ [619, 791, 792, 59, 793, 658, 659, 660, 685, 687, 24, 688, 610, 613, 661, 663, 20, 664, 794, 796, 41, 797, 798, 800] (by decide +kernel) (by decide +kernel)
set_option maxRecDepth 20000 in
theorem gw_wsX8_first_r2 : GoodIn lw_tbl wsX8_first_r2 := goodIn_r _ [42, 801, 609, 617, 616, 621, 622, 802, 804, 43, 805, 615, 618, 689, 691, 25, 692, 724, 725, 726, 767, 769, 37, 770] (by decide +kernel) (by decide +kernel)
set_option maxRecDepth 20000 in
theorem gw_wsX8_first_r3 : GoodIn lw_tbl wsX8_first_r3 := goodIn_r _ [771, 773, 38, 774, 693, 694, 695, 696, 698, 26, 699, 700, 702, 27, 703, 704, 706, 28, 707, 708, 710, 29, 711, 712] (by decide +kernel) (by decide +kernel)
set_option maxRecDepth 20000 in
theorem gw_wsX8_first_r4 : GoodIn lw_tbl wsX8_first_r4 := goodIn_r _ [714, 30, 715, 775, 777, 39, 778, 779, 781, 40, 782, 806, 808, 44, 809, 620, 810, 812, 45, 813, 814, 815, 816, 817] (by decide +kernel) (by decide +kernel)
set_option maxRecDepth 20000 in
theorem gw_wsX8_first_r5 : GoodIn lw_tbl wsX8_first_r5 := goodIn_r _ [819, 46, 820, 623, 821, 823, 47, 824, 825, 827, 48, 828, 829, 831, 49, 832] (by decide +kernel) (by decide +kernel)
theorem gw_X8_first : GoodIn lw_tbl wsX8_first := goodIn_app gc_X8_first (goodIn_app (goodIn_app gw_wsX8_first_r1 (goodIn_app gw_wsX8_first_r2 (goodIn_app gw_wsX8_first_r3 (goodIn_app gw_wsX8_first_r4 gw_wsX8_first_r5)))) gw_wsX80)
set_option maxRecDepth 20000 in
theorem gv_X8_first : GoodIn lw_tbl (wsV RL 64 RX8 yX8_first wsX8_first) := goodIn_app (goodIn_r _ [841, 842, 843, 59] (by decide +kernel) (by decide +kernel)) gw_X8_first
set_option maxRecDepth 20000 in
theorem gc_X8_blind : GoodIn lw_tbl [Cond.code yX8_blind cX8_blind 3 (some .int)] := goodIn_r _ [848] (by decide +kernel) (by decide +kernel)
set_option maxRecDepth 20000 in
theorem gw_wsX8_blind_r1 : GoodIn lw_tbl wsX8_blind_r1 := goodIn_r _ [791, 792, 59, 793, 658, 659, 660, 685, 687, 24, 688, 610, 613, 661, 663, 20, 664, 794, 796, 41, 797, 798, 800, 42] (by decide +kernel) (by decide +kernel)
set_option maxRecDepth 20000 in
theorem gw_wsX8_blind_r2 : GoodIn lw_tbl wsX8_blind_r2 := goodIn_r _ [801, 609, 617, 616, 621, 622, 802, 804, 43, 805, 615, 618, 689, 691, 25, 692, 724, 725, 726, 767, 769, 37, 770, 771] (by decide +kernel) (by decide +kernel)
set_option maxRecDepth 20000 in
theorem gw_wsX8_blind_r3 : GoodIn lw_tbl wsX8_blind_r3 := goodIn_r _ [773, 38, 774, 693, 694, 695, 696, 698, 26, 699, 700, 702, 27, 703, 704, 706, 28, 707, 708, 710, 29, 711, 712, 714] (by decide +kernel) (by decide +kernel)
set_option maxRecDepth 20000 in
theorem gw_wsX8_blind_r4 : GoodIn lw_tbl wsX8_blind_r4 := goodIn_r _ [30, 715, 775, 777, 39, 778, 779, 781, 40, 782, 806, 808, 44, 809, 619, 620, 810, 812, 45, 813, 814, 815, 816, 817] (by decide +kernel) (by decide +kernel)
set_option maxRecDepth 20000 in
theorem gw_wsX8_blind_r5 : GoodIn lw_tbl wsX8_blind_r5 := goodIn_r _ [819, 46, 820, 623, 821, 823, 47, 824, 825, 827, 48, 828, 829, 831, 49, 832, 833, 835, 50, 836] (by decide +kernel) (by decide +kernel)
theorem gw_X8_blind : GoodIn lw_tbl wsX8_blind := goodIn_app gc_X8_blind (goodIn_app (goodIn_app gw_wsX8_blind_r1 (goodIn_app gw_wsX8_blind_r2 (goodIn_app gw_wsX8_blind_r3 (goodIn_app gw_wsX8_blind_r4 gw_wsX8_blind_r5)))) gw_wsX80)
set_option maxRecDepth 20000 in
theorem gv_X8_blind : GoodIn lw_tbl (wsV RL 68 RX8 yX8_blind wsX8_blind) := goodIn_app (goodIn_r _ [845, 846, 847, 59] (by decide +kernel) (by decide +kernel)) gw_X8_blind
set_option maxRecDepth 20000 in
theorem gc_X8_used : GoodIn lw_tbl [Cond.code yX8_used cX8_used 2 (some .int)] := goodIn_r _ [852] (by decide +kernel) (by decide +kernel)
set_option maxRecDepth 20000 in
theorem gw_wsX8_used_r1 : GoodIn lw_tbl wsX8_used_r1 := goodIn_r _ [621, 791, 792, 59, 793, 658, 659, 660, 685, 687, 24, 688, 610, 613, 661, 663, 20, 664, 794, 796, 41, 797, 798, 800] (by decide +kernel) (by decide +kernel)
set_option maxRecDepth 20000 in
theorem gw_wsX8_used_r2 : GoodIn lw_tbl wsX8_used_r2 := goodIn_r _ [42, 801, 609, 617, 616, 622, 802, 804, 43, 805, 615, 618, 689, 691, 25, 692, 724, 725, 726, 767, 769, 37, 770, 771] (by decide +kernel) (by decide +kernel)
set_option maxRecDepth 20000 in
theorem gw_wsX8_used_r3 : GoodIn lw_tbl wsX8_used_r3 := goodIn_r _ [773, 38, 774, 693, 694, 695, 696, 698, 26, 699, 700, 702, 27, 703, 704, 706, 28, 707, 708, 710, 29, 711, 712, 714] (by decide +kernel) (by decide +kernel)
set_option maxRecDepth 20000 in
theorem gw_wsX8_used_r4 : GoodIn lw_tbl wsX8_used_r4 := goodIn_r _ [30, 715, 775, 777, 39, 778, 779, 781, 40, 782, 806, 808, 44, 809, 619, 620, 810, 812, 45, 813, 814, 815, 816, 817] (by decide +kernel) (by decide +kernel)
set_option maxRecDepth 20000 in
theorem gw_wsX8_used_r5 : GoodIn lw_tbl wsX8_used_r5 := goodIn_r _ [819, 46, 820, 623, 821, 823, 47, 824, 825, 827, 48, 828, 829, 831, 49, 832] (by decide +kernel) (by decide +kernel)
theorem gw_X8_used : GoodIn lw_tbl wsX8_used := goodIn_app gc_X8_used (goodIn_app (goodIn_app gw_wsX8_used_r1 (goodIn_app gw_wsX8_used_r2 (goodIn_app gw_wsX8_used_r3 (goodIn_app gw_wsX8_used_r4 gw_wsX8_used_r5)))) gw_wsX80)
set_option maxRecDepth 20000 in
theorem gv_X8_used : GoodIn lw_tbl (wsV RL 72 RX8 yX8_used wsX8_used) := goodIn_app (goodIn_r _ [849, 850, 851, 59] (by decide +kernel) (by decide +kernel)) gw_X8_used
set_option maxRecDepth 20000 in
theorem gc_X8_all : GoodIn lw_tbl [Cond.code yX8_all cX8_all 6 (some .int)] := goodIn_r _ [856] (by decide +kernel) (by decide +kernel)
set_option maxRecDepth 20000 in
theorem gw_wsX8_all_r1 : GoodIn lw_tbl wsX8_all_r1 := goodIn_r _ [658, 659, 59, 660, 661, 663, 20, 664, 610, 791, 792, 793, 798, 800, 42, 801, 609, 617, 616, 621, 622, 693, 694, 695] (by decide +kernel) (by decide +kernel)
set_option maxRecDepth 20000 in
theorem gw_wsX8_all_r2 : GoodIn lw_tbl wsX8_all_r2 := goodIn_r _ [857, 859, 52, 860, 613, 724, 725, 726, 802, 804, 43, 805, 615, 618, 689, 691, 25, 692, 767, 769, 37, 770, 771, 773] (by decide +kernel) (by decide +kernel)
set_option maxRecDepth 20000 in
theorem gw_wsX8_all_r3 : GoodIn lw_tbl wsX8_all_r3 := goodIn_r _ [38, 774, 696, 698, 26, 699, 700, 702, 27, 703, 704, 706, 28, 707, 708, 710, 29, 711, 712, 714, 30, 715, 775, 777] (by decide +kernel) (by decide +kernel)
set_option maxRecDepth 20000 in
theorem gw_wsX8_all_r4 : GoodIn lw_tbl wsX8_all_r4 := goodIn_r _ [39, 778, 779, 781, 40, 782, 806, 808, 44, 809, 619, 620, 810, 812, 45, 813, 814, 815, 816, 817, 819, 46, 820, 623] (by decide +kernel) (by decide +kernel)
set_option maxRecDepth 20000 in
theorem gw_wsX8_all_r5 : GoodIn lw_tbl wsX8_all_r5 := goodIn_r _ [821, 823, 47, 824, 825, 827, 48, 828, 829, 831, 49, 832, 833, 835, 50, 836] (by decide +kernel) (by decide +kernel)
theorem gw_X8_all : GoodIn lw_tbl wsX8_all := goodIn_app gc_X8_all (goodIn_app (goodIn_app gw_wsX8_all_r1 (goodIn_app gw_wsX8_all_r2 (goodIn_app gw_wsX8_all_r3 (goodIn_app gw_wsX8_all_r4 gw_wsX8_all_r5)))) gw_wsX80)
set_option maxRecDepth 20000 in
theorem gv_X8_all : GoodIn lw_tbl (wsV RL 76 RX8 yX8_all wsX8_all) := goodIn_app (goodIn_r _ [853, 854, 855, 59] (by decide +kernel) (by decide +kernel)) gw_X8_all
set_option maxRecDepth 20000 in
theorem gc_X8_image : GoodIn lw_tbl [Cond.code yX8_image cX8_image 3 (some .int)] := goodIn_r _ [864] (by decide +kernel) (by decide +kernel)
set_option maxRecDepth 20000 in
theorem gw_X8_image_l1 : GoodIn lw_tbl ([.fieldLink RX8 13 "RingMeetsModel" "images" "[I", .fieldLink RX8 7 "RingMeetsModel" "state" "[I", .fieldLink RX8 16 "RingMeetsModel" "isKept" "[Z", .methodLink RX8 49 yX8_in, .static yX8_in, .initialized RX8, .code yX8_in cX8_in 3 (some .boolean)] : List Cond) := goodIn_r _ [611, 610, 612, 658, 659, 59, 660] (by decide +kernel) (by decide +kernel)
theorem gw_X8_image : GoodIn lw_tbl wsX8_image := goodIn_app gc_X8_image (goodIn_app gw_X8_image_l1 gw_wsX80)
set_option maxRecDepth 20000 in
theorem gv_X8_image : GoodIn lw_tbl (wsV RL 80 RX8 yX8_image wsX8_image) := goodIn_app (goodIn_r _ [861, 862, 863, 59] (by decide +kernel) (by decide +kernel)) gw_X8_image
set_option maxRecDepth 20000 in
theorem gc_X8_restore : GoodIn lw_tbl [Cond.code yX8_restore cX8_restore 3 (some .int)] := goodIn_r _ [868] (by decide +kernel) (by decide +kernel)
set_option maxRecDepth 20000 in
theorem gw_X8_restore_l1 : GoodIn lw_tbl ([.fieldLink RX8 16 "RingMeetsModel" "isKept" "[Z", .fieldLink RX8 7 "RingMeetsModel" "state" "[I", .fieldLink RX8 13 "RingMeetsModel" "images" "[I", .methodLink RX8 49 yX8_in, .static yX8_in, .initialized RX8, .code yX8_in cX8_in 3 (some .boolean)] : List Cond) := goodIn_r _ [612, 610, 611, 658, 659, 59, 660] (by decide +kernel) (by decide +kernel)
theorem gw_X8_restore : GoodIn lw_tbl wsX8_restore := goodIn_app gc_X8_restore (goodIn_app gw_X8_restore_l1 gw_wsX80)
set_option maxRecDepth 20000 in
theorem gv_X8_restore : GoodIn lw_tbl (wsV RL 84 RX8 yX8_restore wsX8_restore) := goodIn_app (goodIn_r _ [865, 866, 867, 59] (by decide +kernel) (by decide +kernel)) gw_X8_restore
set_option maxRecDepth 20000 in
theorem gc_X8_count : GoodIn lw_tbl [Cond.code yX8_count cX8_count 2 (some .int)] := goodIn_r _ [872] (by decide +kernel) (by decide +kernel)
set_option maxRecDepth 20000 in
theorem gw_wsX8_count_r1 : GoodIn lw_tbl wsX8_count_r1 := goodIn_r _ [610, 612, 658, 659, 59, 660, 661, 663, 20, 664, 673, 675, 22, 676, 685, 687, 24, 688, 613, 689, 691, 25, 692, 873] (by decide +kernel) (by decide +kernel)
set_option maxRecDepth 20000 in
theorem gw_wsX8_count_r2 : GoodIn lw_tbl wsX8_count_r2 := goodIn_r _ [875, 53, 876] (by decide +kernel) (by decide +kernel)
theorem gw_X8_count : GoodIn lw_tbl wsX8_count := goodIn_app gc_X8_count (goodIn_app (goodIn_app gw_wsX8_count_r1 gw_wsX8_count_r2) gw_wsX80)
set_option maxRecDepth 20000 in
theorem gv_X8_count : GoodIn lw_tbl (wsV RL 88 RX8 yX8_count wsX8_count) := goodIn_app (goodIn_r _ [869, 870, 871, 59] (by decide +kernel) (by decide +kernel)) gw_X8_count
set_option maxRecDepth 20000 in
theorem ns_in : ∀ w ∈ nsL, w ∈ lw_tbl := mem_r _ [76, 82, 88, 97, 99, 109, 114, 116, 117, 119, 120, 122, 124, 360, 365, 370, 395, 399, 401] (by decide +kernel)
set_option maxRecDepth 20000 in
theorem lq_0 : (Cond.instantiable RX1 5) ∈ lw_tbl := List.mem_of_getElem? (i := 108) (by decide +kernel)
set_option maxRecDepth 20000 in
theorem lq_1 : (Cond.instantiable RX2 4) ∈ lw_tbl := List.mem_of_getElem? (i := 359) (by decide +kernel)
set_option maxRecDepth 20000 in
theorem lq_2 : (Cond.instantiable RX3 2) ∈ lw_tbl := List.mem_of_getElem? (i := 81) (by decide +kernel)
set_option maxRecDepth 20000 in
theorem lq_3 : (Cond.instantiable RX4 3) ∈ lw_tbl := List.mem_of_getElem? (i := 75) (by decide +kernel)
set_option maxRecDepth 20000 in
theorem lq_4 : (Cond.instantiable RX6 20) ∈ lw_tbl := List.mem_of_getElem? (i := 353) (by decide +kernel)
set_option maxRecDepth 20000 in
theorem lq_5 : (Cond.instantiable RX7 7) ∈ lw_tbl := List.mem_of_getElem? (i := 67) (by decide +kernel)
set_option maxRecDepth 20000 in
theorem lq_6 : (Cond.instantiable RX8 14) ∈ lw_tbl := List.mem_of_getElem? (i := 604) (by decide +kernel)
set_option maxRecDepth 20000 in
theorem lq_7 : (Cond.arrayClass .int) ∈ lw_tbl := List.mem_of_getElem? (i := 94) (by decide +kernel)
set_option maxRecDepth 20000 in
theorem lq_8 : (Cond.arrayClass .boolean) ∈ lw_tbl := List.mem_of_getElem? (i := 653) (by decide +kernel)
set_option maxRecDepth 20000 in
theorem lq_9 : (Cond.classLink RL 7 RX7) ∈ lw_tbl := List.mem_of_getElem? (i := 66) (by decide +kernel)
set_option maxRecDepth 20000 in
theorem lq_10 : (Cond.initialized RX7) ∈ lw_tbl := List.mem_of_getElem? (i := 55) (by decide +kernel)
set_option maxRecDepth 20000 in
theorem lq_11 : (Cond.methodLink RL 9 yX7_init) ∈ lw_tbl := List.mem_of_getElem? (i := 68) (by decide +kernel)
set_option maxRecDepth 20000 in
theorem lq_12 : (Cond.instanceMethod yX7_init) ∈ lw_tbl := List.mem_of_getElem? (i := 69) (by decide +kernel)
set_option maxRecDepth 20000 in
theorem lq_13 : (Cond.classLink RL 10 RX8) ∈ lw_tbl := List.mem_of_getElem? (i := 603) (by decide +kernel)
set_option maxRecDepth 20000 in
theorem lq_14 : (Cond.initialized RX8) ∈ lw_tbl := List.mem_of_getElem? (i := 59) (by decide +kernel)
set_option maxRecDepth 20000 in
theorem lq_15 : (Cond.methodLink RL 12 yX8_init) ∈ lw_tbl := List.mem_of_getElem? (i := 605) (by decide +kernel)
set_option maxRecDepth 20000 in
theorem lq_16 : (Cond.instanceMethod yX8_init) ∈ lw_tbl := List.mem_of_getElem? (i := 606) (by decide +kernel)
