/-- name, code, locals, what it returns, own class; places of code, of instanceMethod or static, of selects (9999: none), of initialized; static?; parameters; the instructions -/
abbrev zzT : Type := (MethodName × ByteArray × Nat × Option FieldType × Nat) × (Nat × Nat × Nat × Nat × Bool × Nat) × List (Nat × Instr × Nat)
def zm0 : zzT := ((yX0_init, cX0_init, 1, none, 0), (77, 76, 9999, 50, false, 0), zkX0_init)
def zm1 : zzT := ((yX0_become, cX0_become, 7, none, 0), (258, 256, 257, 50, false, 6), zkX0_become)
def zm2 : zzT := ((yX0_take, cX0_take, 2, none, 0), (537, 535, 536, 50, false, 1), zkX0_take)
def zm3 : zzT := ((yX0_isOfKind, cX0_isOfKind, 2, some (FieldType.boolean), 0), (651, 649, 650, 50, false, 1), zkX0_isOfKind)
def zm4 : zzT := ((yX0_step, cX0_step, 1, none, 0), (515, 513, 514, 50, false, 0), zkX0_step)
def zm5 : zzT := ((yX0_stepToRim, cX0_stepToRim, 5, none, 0), (522, 521, 9, 50, false, 2), zkX0_stepToRim)
def zm6 : zzT := ((yX0_covers, cX0_covers, 5, some (FieldType.boolean), 0), (380, 378, 379, 50, false, 4), zkX0_covers)
def zm7 : zzT := ((yX0_touches, cX0_touches, 3, some (FieldType.boolean), 0), (418, 416, 417, 50, false, 2), zkX0_touches)
def zm8 : zzT := ((yX0_cellsTouched, cX0_cellsTouched, 3, some (FieldType.int), 0), (368, 366, 367, 50, false, 0), zkX0_cellsTouched)
def zm9 : zzT := ((yX0_meets, cX0_meets, 2, some (FieldType.boolean), 0), (376, 374, 375, 50, false, 1), zkX0_meets)
def zm10 : zzT := ((yX0_farFrom, cX0_farFrom, 5, some (FieldType.int), 0), (462, 460, 461, 50, false, 2), zkX0_farFrom)
def zm11 : zzT := ((yX0_gap, cX0_gap, 3, some (FieldType.int), 0), (465, 464, 9999, 50, true, 3), zkX0_gap)
def zm12 : zzT := ((yX0_passes, cX0_passes, 2, some (FieldType.boolean), 0), (485, 483, 484, 50, false, 1), zkX0_passes)
def zm13 : zzT := ((yX0_wholeIndex, cX0_wholeIndex, 6, some (FieldType.int), 0), (349, 347, 348, 50, false, 1), zkX0_wholeIndex)
def zm14 : zzT := ((yX0_digit, cX0_digit, 3, some (FieldType.int), 0), (361, 359, 360, 50, false, 1), zkX0_digit)
def zm15 : zzT := ((yX1_init, cX1_init, 1, none, 1), (174, 173, 9999, 52, false, 0), zkX1_init)
def zm16 : zzT := ((yX1_append, cX1_append, 2, some (FieldType.boolean), 1), (291, 289, 290, 52, false, 1), zkX1_append)
def zm17 : zzT := ((yX1_parse, cX1_parse, 2, some (FieldType.int), 1), (299, 297, 298, 52, false, 0), zkX1_parse)
def zm18 : zzT := ((yX1_parseClause, cX1_parseClause, 3, none, 1), (303, 302, 0, 52, false, 1), zkX1_parseClause)
def zm19 : zzT := ((yX1_signHere, cX1_signHere, 1, some (FieldType.int), 1), (311, 310, 2, 52, false, 0), zkX1_signHere)
def zm20 : zzT := ((yX1_fail, cX1_fail, 2, none, 1), (318, 317, 3, 52, false, 1), zkX1_fail)
def zm21 : zzT := ((yX1_parseSign, cX1_parseSign, 2, none, 1), (327, 326, 5, 52, false, 1), zkX1_parseSign)
def zm22 : zzT := ((yX1_parseKind, cX1_parseKind, 2, some (FieldType.int), 1), (307, 306, 1, 52, false, 0), zkX1_parseKind)
def zm23 : zzT := ((yX1_kindOf, cX1_kindOf, 1, some (FieldType.int), 1), (314, 313, 9999, 52, true, 1), zkX1_kindOf)
def zm24 : zzT := ((yX1_parseNumber, cX1_parseNumber, 6, some (FieldType.int), 1), (322, 321, 4, 52, false, 3), zkX1_parseNumber)
def zm25 : zzT := ((yX1_parseSpeed, cX1_parseSpeed, 3, some (FieldType.int), 1), (331, 330, 6, 52, false, 0), zkX1_parseSpeed)
def zm26 : zzT := ((yX2_init, cX2_init, 2, none, 2), (124, 123, 9999, 51, false, 1), zkX2_init)
def zm27 : zzT := ((yX2_empty, cX2_empty, 1, some (FieldType.int), 2), (559, 557, 558, 51, false, 0), zkX2_empty)
def zm28 : zzT := ((yX2_append, cX2_append, 4, some (FieldType.int), 2), (563, 561, 562, 51, false, 3), zkX2_append)
def zm29 : zzT := ((yX2_value, cX2_value, 4, some (FieldType.int), 2), (575, 573, 574, 51, false, 2), zkX2_value)
def zm30 : zzT := ((yX2_take, cX2_take, 3, none, 2), (638, 636, 637, 51, false, 1), zkX2_take)
def zm31 : zzT := ((yX3_init, cX3_init, 1, none, 3), (206, 205, 9999, 53, false, 0), zkX3_init)
def zm32 : zzT := ((yX3_hold, cX3_hold, 3, none, 3), (663, 661, 662, 53, false, 2), zkX3_hold)
def zm33 : zzT := ((yX3_lowestBits, cX3_lowestBits, 3, some (FieldType.long), 3), (674, 672, 673, 53, false, 1), zkX3_lowestBits)
def zm34 : zzT := ((yX4_init, cX4_init, 2, none, 4), (70, 69, 9999, 49, false, 0), zkX4_init)
def zm35 : zzT := ((yX4_takeBoxes, cX4_takeBoxes, 3, none, 4), (533, 531, 532, 49, false, 1), zkX4_takeBoxes)
def zm36 : zzT := ((yX4_takeAll, cX4_takeAll, 2, none, 4), (633, 631, 632, 49, false, 1), zkX4_takeAll)
def zm37 : zzT := ((yX4_find, cX4_find, 2, some ((FieldType.object "LooseGrid$Box")), 4), (266, 264, 265, 49, false, 1), zkX4_find)
def zm38 : zzT := ((yX4_nextBox, cX4_nextBox, 1, some ((FieldType.object "LooseGrid$Box")), 4), (254, 252, 253, 49, false, 0), zkX4_nextBox)
def zm39 : zzT := ((yX4_present, cX4_present, 3, some (FieldType.int), 4), (279, 277, 278, 49, false, 0), zkX4_present)
def zm40 : zzT := ((yX4_area, cX4_area, 3, some (FieldType.int), 4), (596, 594, 595, 49, false, 0), zkX4_area)
def zm41 : zzT := ((yX4_step, cX4_step, 2, none, 4), (511, 509, 510, 49, false, 0), zkX4_step)
def zm42 : zzT := ((yX4_wholeIn, cX4_wholeIn, 5, some (FieldType.int), 4), (357, 355, 356, 49, false, 2), zkX4_wholeIn)
def zm43 : zzT := ((yX4_isSplit, cX4_isSplit, 3, some (FieldType.boolean), 4), (353, 351, 352, 49, false, 2), zkX4_isSplit)
def zm44 : zzT := ((yX4_pathOf, cX4_pathOf, 5, some (FieldType.int), 4), (345, 343, 344, 49, false, 1), zkX4_pathOf)
def zm45 : zzT := ((yX4_isSquare, cX4_isSquare, 4, some (FieldType.boolean), 4), (388, 386, 387, 49, false, 1), zkX4_isSquare)
def zm46 : zzT := ((yX4_isIn, cX4_isIn, 5, some (FieldType.boolean), 4), (400, 399, 9999, 49, true, 4), zkX4_isIn)
def zm47 : zzT := ((yX4_inSquare, cX4_inSquare, 6, some (FieldType.int), 4), (397, 395, 396, 49, false, 2), zkX4_inSquare)
def zm48 : zzT := ((yX4_leastIn, cX4_leastIn, 5, some (FieldType.int), 4), (406, 404, 405, 49, false, 2), zkX4_leastIn)
def zm49 : zzT := ((yX4_splitAt, cX4_splitAt, 5, some (FieldType.int), 4), (434, 432, 433, 49, false, 1), zkX4_splitAt)
def zm50 : zzT := ((yX4_squares, cX4_squares, 3, some (FieldType.int), 4), (430, 428, 429, 49, false, 0), zkX4_squares)
def zm51 : zzT := ((yX4_greatestDepth, cX4_greatestDepth, 2, some (FieldType.int), 4), (441, 439, 440, 49, false, 0), zkX4_greatestDepth)
def zm52 : zzT := ((yX4_touching, cX4_touching, 5, some (FieldType.int), 4), (414, 412, 413, 49, false, 2), zkX4_touching)
def zm53 : zzT := ((yX4_touchingNumber, cX4_touchingNumber, 6, some (FieldType.int), 4), (422, 420, 421, 49, false, 3), zkX4_touchingNumber)
def zm54 : zzT := ((yX4_cellsTouched, cX4_cellsTouched, 4, some (FieldType.int), 4), (450, 448, 449, 49, false, 0), zkX4_cellsTouched)
def zm55 : zzT := ((yX4_nearestNumber, cX4_nearestNumber, 7, some (FieldType.int), 4), (476, 474, 475, 49, false, 4), zkX4_nearestNumber)
def zm56 : zzT := ((yX4_nextNearest, cX4_nextNearest, 11, some (FieldType.int), 4), (480, 479, 8, 49, false, 4), zkX4_nextNearest)
def zm57 : zzT := ((yX4_within, cX4_within, 8, some (FieldType.long), 4), (494, 492, 493, 49, false, 4), zkX4_within)
def zm58 : zzT := ((yX4_meetings, cX4_meetings, 4, some (FieldType.int), 4), (372, 370, 371, 49, false, 1), zkX4_meetings)
def zm59 : zzT := ((yX4_pairs, cX4_pairs, 3, some (FieldType.int), 4), (445, 443, 444, 49, false, 0), zkX4_pairs)
def zm60 : zzT := ((yX4_pairNumber, cX4_pairNumber, 5, some (FieldType.int), 4), (503, 501, 502, 49, false, 1), zkX4_pairNumber)
def zm61 : zzT := ((yX5_init, cX5_init, 2, none, 5), (62, 61, 9999, 48, false, 0), zkX5_init)
def zm62 : zzT := ((yX5_box, cX5_box, 8, some (FieldType.int), 5), (244, 242, 243, 48, false, 6), zkX5_box)
def zm63 : zzT := ((yX5_speed, cX5_speed, 6, some (FieldType.int), 5), (262, 260, 261, 48, false, 3), zkX5_speed)
def zm64 : zzT := ((yX5_move, cX5_move, 7, some (FieldType.int), 5), (271, 269, 270, 48, false, 3), zkX5_move)
def zm65 : zzT := ((yX5_drop, cX5_drop, 3, some (FieldType.int), 5), (275, 273, 274, 48, false, 1), zkX5_drop)
def zm66 : zzT := ((yX5_room, cX5_room, 3, some (FieldType.int), 5), (283, 281, 282, 48, false, 1), zkX5_room)
def zm67 : zzT := ((yX5_feed, cX5_feed, 2, some (FieldType.int), 5), (287, 285, 286, 48, false, 1), zkX5_feed)
def zm68 : zzT := ((yX5_boxes, cX5_boxes, 4, some (FieldType.int), 5), (295, 293, 294, 48, false, 0), zkX5_boxes)
def zm69 : zzT := ((yX5_letIn, cX5_letIn, 3, none, 5), (335, 334, 7, 48, false, 1), zkX5_letIn)
def zm70 : zzT := ((yX5_of, cX5_of, 4, some (FieldType.int), 5), (341, 339, 340, 48, false, 2), zkX5_of)
def zm71 : zzT := ((yX5_square, cX5_square, 5, some (FieldType.int), 5), (384, 382, 383, 48, false, 2), zkX5_square)
def zm72 : zzT := ((yX5_cell, cX5_cell, 4, some (FieldType.int), 5), (410, 408, 409, 48, false, 3), zkX5_cell)
def zm73 : zzT := ((yX5_told, cX5_told, 2, some (FieldType.int), 5), (426, 424, 425, 48, false, 1), zkX5_told)
def zm74 : zzT := ((yX5_far, cX5_far, 5, some (FieldType.int), 5), (455, 453, 454, 48, false, 3), zkX5_far)
def zm75 : zzT := ((yX5_nearest, cX5_nearest, 5, some (FieldType.int), 5), (472, 470, 471, 48, false, 4), zkX5_nearest)
def zm76 : zzT := ((yX5_window, cX5_window, 5, some (FieldType.long), 5), (489, 487, 488, 48, false, 4), zkX5_window)
def zm77 : zzT := ((yX5_pair, cX5_pair, 2, some (FieldType.int), 5), (499, 497, 498, 48, false, 1), zkX5_pair)
def zm78 : zzT := ((yX5_pass, cX5_pass, 3, some (FieldType.int), 5), (507, 505, 506, 48, false, 1), zkX5_pass)
def zm79 : zzT := ((yX5_on, cX5_on, 7, some (FieldType.int), 5), (529, 527, 528, 48, false, 2), zkX5_on)
def zm80 : zzT := ((yX5_onTrial, cX5_onTrial, 3, some (FieldType.int), 5), (542, 541, 10, 48, false, 2), zkX5_onTrial)
def zm81 : zzT := ((yX5_first, cX5_first, 5, some (FieldType.int), 5), (546, 544, 545, 48, false, 2), zkX5_first)
def zm82 : zzT := ((yX5_firstMeeting, cX5_firstMeeting, 3, some (FieldType.int), 5), (549, 548, 9999, 48, true, 2), zkX5_firstMeeting)
def zm83 : zzT := ((yX5_see, cX5_see, 4, some (FieldType.int), 5), (555, 553, 554, 48, false, 3), zkX5_see)
def zm84 : zzT := ((yX5_speeds, cX5_speeds, 7, some (FieldType.int), 5), (567, 565, 566, 48, false, 2), zkX5_speeds)
def zm85 : zzT := ((yX5_wouldBeSeen, cX5_wouldBeSeen, 8, some (FieldType.boolean), 5), (571, 570, 11, 48, false, 2), zkX5_wouldBeSeen)
def zm86 : zzT := ((yX5_odds, cX5_odds, 7, some (FieldType.long), 5), (581, 579, 580, 48, false, 2), zkX5_odds)
def zm87 : zzT := ((yX5_mean, cX5_mean, 3, some (FieldType.long), 5), (592, 590, 591, 48, false, 1), zkX5_mean)
def zm88 : zzT := ((yX5_plan, cX5_plan, 3, some (FieldType.int), 5), (600, 598, 599, 48, false, 2), zkX5_plan)
def zm89 : zzT := ((yX5_ends, cX5_ends, 3, some (FieldType.int), 5), (604, 602, 603, 48, false, 1), zkX5_ends)
def zm90 : zzT := ((yX5_carryOut, cX5_carryOut, 4, none, 5), (608, 607, 12, 48, false, 2), zkX5_carryOut)
def zm91 : zzT := ((yX5_book, cX5_book, 3, some (FieldType.int), 5), (612, 610, 611, 48, false, 2), zkX5_book)
def zm92 : zzT := ((yX5_looked, cX5_looked, 3, some (FieldType.int), 5), (617, 615, 616, 48, false, 0), zkX5_looked)
def zm93 : zzT := ((yX5_judge, cX5_judge, 7, some (FieldType.int), 5), (621, 619, 620, 48, false, 2), zkX5_judge)
def zm94 : zzT := ((yX5_image, cX5_image, 1, some (FieldType.int), 5), (629, 627, 628, 48, false, 0), zkX5_image)
def zm95 : zzT := ((yX5_undo, cX5_undo, 1, some (FieldType.int), 5), (643, 641, 642, 48, false, 0), zkX5_undo)
def zm96 : zzT := ((yX5_taken, cX5_taken, 4, some (FieldType.int), 5), (647, 645, 646, 48, false, 2), zkX5_taken)
def zm97 : zzT := ((yX5_count, cX5_count, 2, some (FieldType.int), 5), (655, 653, 654, 48, false, 1), zkX5_count)
def zm98 : zzT := ((yX5_tape, cX5_tape, 5, some (FieldType.int), 5), (659, 657, 658, 48, false, 3), zkX5_tape)
def zm99 : zzT := ((yX5_item, cX5_item, 6, some (FieldType.int), 5), (670, 668, 669, 48, false, 3), zkX5_item)
def zm100 : zzT := ((yX5_read, cX5_read, 4, some (FieldType.long), 5), (678, 676, 677, 48, false, 2), zkX5_read)
def zm101 : zzT := ((yX5_shift, cX5_shift, 8, some (FieldType.int), 5), (682, 680, 681, 48, false, 5), zkX5_shift)
def zm102 : zzT := ((yX5_findTape, cX5_findTape, 2, some ((FieldType.object "LooseGrid$Tape")), 5), (625, 624, 13, 48, false, 1), zkX5_findTape)
def zm103 : zzT := ((yX5_isWithin, cX5_isWithin, 3, some (FieldType.boolean), 5), (247, 246, 9999, 48, true, 3), zkX5_isWithin)
def zm104 : zzT := ((yX5_isPlace, cX5_isPlace, 2, some (FieldType.boolean), 5), (458, 457, 9999, 48, true, 2), zkX5_isPlace)
def zm105 : zzT := ((yX5_isOnPlane, cX5_isOnPlane, 4, some (FieldType.boolean), 5), (250, 249, 9999, 48, true, 4), zkX5_isOnPlane)
def zm106 : zzT := ((yX5_depthOf, cX5_depthOf, 3, some (FieldType.int), 5), (364, 363, 9999, 48, true, 1), zkX5_depthOf)
def zm107 : zzT := ((yX5_indexOf, cX5_indexOf, 6, some (FieldType.int), 5), (392, 391, 9999, 48, true, 1), zkX5_indexOf)
def zm108 : zzT := ((yX5_partOfFraction, cX5_partOfFraction, 4, some (FieldType.long), 5), (584, 583, 9999, 48, true, 3), zkX5_partOfFraction)
def zm109 : zzT := ((yX5_greatestDivisor, cX5_greatestDivisor, 6, some (FieldType.int), 5), (587, 586, 9999, 48, true, 2), zkX5_greatestDivisor)
def zm110 : zzT := ((yX6_init, cX6_init, 2, none, 6), (690, 689, 9999, 54, false, 0), zkX6_init)
def zm111 : zzT := ((yX6_in, cX6_in, 3, some (FieldType.boolean), 6), (759, 758, 9999, 54, true, 3), zkX6_in)
def zm112 : zzT := ((yX6_copy, cX6_copy, 3, none, 6), (957, 956, 9999, 54, true, 2), zkX6_copy)
def zm113 : zzT := ((yX6_at, cX6_at, 3, some (FieldType.int), 6), (778, 777, 17, 54, false, 2), zkX6_at)
def zm114 : zzT := ((yX6_sets, cX6_sets, 4, none, 6), (766, 765, 15, 54, false, 3), zkX6_sets)
def zm115 : zzT := ((yX6_isBox, cX6_isBox, 2, some (FieldType.boolean), 6), (774, 773, 16, 54, false, 1), zkX6_isBox)
def zm116 : zzT := ((yX6_isPoint, cX6_isPoint, 2, some (FieldType.boolean), 6), (910, 909, 9999, 54, true, 2), zkX6_isPoint)
def zm117 : zzT := ((yX6_fits, cX6_fits, 4, some (FieldType.boolean), 6), (762, 761, 9999, 54, true, 4), zkX6_fits)
def zm118 : zzT := ((yX6_there, cX6_there, 3, some (FieldType.int), 6), (790, 789, 18, 54, false, 0), zkX6_there)
def zm119 : zzT := ((yX6_comes, cX6_comes, 8, some (FieldType.int), 6), (756, 755, 14, 54, false, 6), zkX6_comes)
def zm120 : zzT := ((yX6_box, cX6_box, 7, some (FieldType.int), 6), (752, 750, 751, 54, false, 6), zkX6_box)
def zm121 : zzT := ((yX6_speed, cX6_speed, 5, some (FieldType.int), 6), (770, 768, 769, 54, false, 3), zkX6_speed)
def zm122 : zzT := ((yX6_move, cX6_move, 6, some (FieldType.int), 6), (782, 780, 781, 54, false, 3), zkX6_move)
def zm123 : zzT := ((yX6_drop, cX6_drop, 2, some (FieldType.int), 6), (786, 784, 785, 54, false, 1), zkX6_drop)
def zm124 : zzT := ((yX6_room, cX6_room, 3, some (FieldType.int), 6), (794, 792, 793, 54, false, 1), zkX6_room)
def zm125 : zzT := ((yX6_feed, cX6_feed, 2, some (FieldType.int), 6), (798, 796, 797, 54, false, 1), zkX6_feed)
def zm126 : zzT := ((yX6_sees, cX6_sees, 3, some (FieldType.boolean), 6), (814, 813, 21, 54, false, 2), zkX6_sees)
def zm127 : zzT := ((yX6_must, cX6_must, 3, some (FieldType.int), 6), (818, 817, 22, 54, false, 2), zkX6_must)
def zm128 : zzT := ((yX6_number, cX6_number, 6, some (FieldType.int), 6), (822, 821, 23, 54, false, 3), zkX6_number)
def zm129 : zzT := ((yX6_kindHere, cX6_kindHere, 2, some (FieldType.int), 6), (810, 809, 20, 54, false, 0), zkX6_kindHere)
def zm130 : zzT := ((yX6_speedHere, cX6_speedHere, 3, some (FieldType.int), 6), (826, 825, 24, 54, false, 0), zkX6_speedHere)
def zm131 : zzT := ((yX6_clause, cX6_clause, 3, none, 6), (806, 805, 19, 54, false, 1), zkX6_clause)
def zm132 : zzT := ((yX6_boxes, cX6_boxes, 5, some (FieldType.int), 6), (802, 800, 801, 54, false, 0), zkX6_boxes)
def zm133 : zzT := ((yX6_isWhole, cX6_isWhole, 5, some (FieldType.boolean), 6), (847, 846, 28, 54, false, 4), zkX6_isWhole)
def zm134 : zzT := ((yX6_wholeIn, cX6_wholeIn, 6, some (FieldType.int), 6), (843, 842, 27, 54, false, 3), zkX6_wholeIn)
def zm135 : zzT := ((yX6_isSplit, cX6_isSplit, 4, some (FieldType.boolean), 6), (839, 838, 26, 54, false, 3), zkX6_isSplit)
def zm136 : zzT := ((yX6_looksAt, cX6_looksAt, 5, some (FieldType.boolean), 6), (835, 834, 25, 54, false, 1), zkX6_looksAt)
def zm137 : zzT := ((yX6_pathOf, cX6_pathOf, 10, some (FieldType.int), 6), (851, 850, 29, 54, false, 1), zkX6_pathOf)
def zm138 : zzT := ((yX6_depthOf, cX6_depthOf, 3, some (FieldType.int), 6), (899, 898, 9999, 54, true, 1), zkX6_depthOf)
def zm139 : zzT := ((yX6_squares, cX6_squares, 8, some (FieldType.int), 6), (875, 874, 33, 54, false, 4), zkX6_squares)
def zm140 : zzT := ((yX6_squaresOfAll, cX6_squaresOfAll, 1, some (FieldType.int), 6), (871, 870, 32, 54, false, 0), zkX6_squaresOfAll)
def zm141 : zzT := ((yX6_square, cX6_square, 6, some (FieldType.int), 6), (830, 828, 829, 54, false, 2), zkX6_square)
def zm142 : zzT := ((yX6_covers, cX6_covers, 6, some (FieldType.boolean), 6), (863, 862, 31, 54, false, 5), zkX6_covers)
def zm143 : zzT := ((yX6_touches, cX6_touches, 4, some (FieldType.boolean), 6), (859, 858, 30, 54, false, 3), zkX6_touches)
def zm144 : zzT := ((yX6_cellsOf, cX6_cellsOf, 4, some (FieldType.int), 6), (903, 902, 38, 54, false, 1), zkX6_cellsOf)
def zm145 : zzT := ((yX6_cell, cX6_cell, 6, some (FieldType.int), 6), (855, 853, 854, 54, false, 3), zkX6_cell)
def zm146 : zzT := ((yX6_isPair, cX6_isPair, 3, some (FieldType.boolean), 6), (887, 886, 36, 54, false, 2), zkX6_isPair)
def zm147 : zzT := ((yX6_meet, cX6_meet, 4, some (FieldType.int), 6), (883, 882, 35, 54, false, 1), zkX6_meet)
def zm148 : zzT := ((yX6_pairs, cX6_pairs, 3, some (FieldType.int), 6), (879, 878, 34, 54, false, 0), zkX6_pairs)
def zm149 : zzT := ((yX6_cellsTouched, cX6_cellsTouched, 3, some (FieldType.int), 6), (891, 890, 37, 54, false, 0), zkX6_cellsTouched)
def zm150 : zzT := ((yX6_told, cX6_told, 2, some (FieldType.int), 6), (867, 865, 866, 54, false, 1), zkX6_told)
def zm151 : zzT := ((yX6_of, cX6_of, 3, some (FieldType.int), 6), (896, 894, 895, 54, false, 2), zkX6_of)
def zm152 : zzT := ((yX6_away, cX6_away, 3, some (FieldType.int), 6), (917, 916, 9999, 54, true, 3), zkX6_away)
def zm153 : zzT := ((yX6_farOf, cX6_farOf, 6, some (FieldType.int), 6), (914, 913, 39, 54, false, 3), zkX6_farOf)
def zm154 : zzT := ((yX6_far, cX6_far, 4, some (FieldType.int), 6), (907, 905, 906, 54, false, 3), zkX6_far)
def zm155 : zzT := ((yX6_passes, cX6_passes, 3, some (FieldType.boolean), 6), (929, 928, 41, 54, false, 2), zkX6_passes)
def zm156 : zzT := ((yX6_nearestOf, cX6_nearestOf, 9, some (FieldType.int), 6), (925, 924, 40, 54, false, 4), zkX6_nearestOf)
def zm157 : zzT := ((yX6_nearest, cX6_nearest, 5, some (FieldType.int), 6), (921, 919, 920, 54, false, 4), zkX6_nearest)
def zm158 : zzT := ((yX6_window, cX6_window, 8, some (FieldType.long), 6), (933, 931, 932, 54, false, 4), zkX6_window)
def zm159 : zzT := ((yX6_pair, cX6_pair, 5, some (FieldType.int), 6), (938, 936, 937, 54, false, 1), zkX6_pair)
def zm160 : zzT := ((yX6_axis, cX6_axis, 9, none, 6), (950, 949, 43, 54, false, 4), zkX6_axis)
def zm161 : zzT := ((yX6_steps, cX6_steps, 4, none, 6), (946, 945, 42, 54, false, 1), zkX6_steps)
def zm162 : zzT := ((yX6_pass, cX6_pass, 2, some (FieldType.int), 6), (942, 940, 941, 54, false, 1), zkX6_pass)
def zm163 : zzT := ((yX6_onTold, cX6_onTold, 3, some (FieldType.int), 6), (961, 960, 44, 54, false, 1), zkX6_onTold)
def zm164 : zzT := ((yX6_on, cX6_on, 4, some (FieldType.int), 6), (954, 952, 953, 54, false, 2), zkX6_on)
def zm165 : zzT := ((yX6_first, cX6_first, 5, some (FieldType.int), 6), (965, 963, 964, 54, false, 2), zkX6_first)
def zm166 : zzT := ((yX6_see, cX6_see, 5, some (FieldType.int), 6), (969, 967, 968, 54, false, 3), zkX6_see)
def zm167 : zzT := ((yX6_isSeen, cX6_isSeen, 5, some (FieldType.boolean), 6), (977, 976, 45, 54, false, 0), zkX6_isSeen)
def zm168 : zzT := ((yX6_speeds, cX6_speeds, 7, some (FieldType.int), 6), (973, 971, 972, 54, false, 2), zkX6_speeds)
def zm169 : zzT := ((yX6_common, cX6_common, 5, some (FieldType.int), 6), (987, 986, 9999, 54, true, 2), zkX6_common)
def zm170 : zzT := ((yX6_part, cX6_part, 4, some (FieldType.long), 6), (984, 983, 9999, 54, true, 3), zkX6_part)
def zm171 : zzT := ((yX6_odds, cX6_odds, 5, some (FieldType.long), 6), (981, 979, 980, 54, false, 2), zkX6_odds)
def zm172 : zzT := ((yX6_mean, cX6_mean, 4, some (FieldType.long), 6), (991, 989, 990, 54, false, 1), zkX6_mean)
def zm173 : zzT := ((yX6_plan, cX6_plan, 3, some (FieldType.int), 6), (995, 993, 994, 54, false, 2), zkX6_plan)
def zm174 : zzT := ((yX6_does, cX6_does, 3, none, 6), (1003, 1002, 46, 54, false, 2), zkX6_does)
def zm175 : zzT := ((yX6_ends, cX6_ends, 3, some (FieldType.int), 6), (999, 997, 998, 54, false, 1), zkX6_ends)
def zm176 : zzT := ((yX6_book, cX6_book, 3, some (FieldType.int), 6), (1007, 1005, 1006, 54, false, 2), zkX6_book)
def zm177 : zzT := ((yX6_looked, cX6_looked, 3, some (FieldType.int), 6), (1011, 1009, 1010, 54, false, 0), zkX6_looked)
def zm178 : zzT := ((yX6_isTape, cX6_isTape, 1, some (FieldType.boolean), 6), (1018, 1017, 9999, 54, true, 1), zkX6_isTape)
def zm179 : zzT := ((yX6_judge, cX6_judge, 4, some (FieldType.int), 6), (1015, 1013, 1014, 54, false, 2), zkX6_judge)
def zm180 : zzT := ((yX6_image, cX6_image, 1, some (FieldType.int), 6), (1022, 1020, 1021, 54, false, 0), zkX6_image)
def zm181 : zzT := ((yX6_undo, cX6_undo, 1, some (FieldType.int), 6), (1026, 1024, 1025, 54, false, 0), zkX6_undo)
def zm182 : zzT := ((yX6_taken, cX6_taken, 4, some (FieldType.int), 6), (1030, 1028, 1029, 54, false, 2), zkX6_taken)
def zm183 : zzT := ((yX6_count, cX6_count, 2, some (FieldType.int), 6), (1034, 1032, 1033, 54, false, 1), zkX6_count)
def zm184 : zzT := ((yX6_tape, cX6_tape, 5, some (FieldType.int), 6), (1038, 1036, 1037, 54, false, 3), zkX6_tape)
def zm185 : zzT := ((yX6_fit, cX6_fit, 3, some (FieldType.long), 6), (1045, 1044, 9999, 54, true, 2), zkX6_fit)
def zm186 : zzT := ((yX6_item, cX6_item, 5, some (FieldType.int), 6), (1042, 1040, 1041, 54, false, 3), zkX6_item)
def zm187 : zzT := ((yX6_read, cX6_read, 3, some (FieldType.long), 6), (1049, 1047, 1048, 54, false, 2), zkX6_read)
def zm188 : zzT := ((yX6_shift, cX6_shift, 7, some (FieldType.int), 6), (1053, 1051, 1052, 54, false, 5), zkX6_shift)
def zm189 : zzT := ((yJ9_floorMod_7cf53, cJ9_floorMod_7cf53, 3, some (FieldType.int), 8), (518, 517, 9999, 56, true, 2), zkJ9_floorMod_7cf53)
def zm190 : zzT := ((yJ9_max_7cf53, cJ9_max_7cf53, 2, some (FieldType.int), 8), (468, 467, 9999, 56, true, 2), zkJ9_max_7cf53)
def zm191 : zzT := ((yJ9_min_7cf53, cJ9_min_7cf53, 2, some (FieldType.int), 8), (525, 524, 9999, 56, true, 2), zkJ9_min_7cf53)
def zm192 : zzT := ((yJ7_fill_d0a16, cJ7_fill_d0a16, 5, none, 9), (666, 665, 9999, 55, true, 2), zkJ7_fill_d0a16)
def zm193 : zzT := ((yJ7_fill_53178, cJ7_fill_53178, 4, none, 9), (437, 436, 9999, 55, true, 2), zkJ7_fill_53178)
def zm194 : zzT := ((yL_law, cL_law, 4, some .boolean, 7), (0, 0, 0, 0, true, 1), zkL_law)
def zzM0 : List zzT := [zm0, zm1, zm2, zm3, zm4, zm5, zm6, zm7, zm8, zm9, zm10, zm11, zm12, zm13, zm14, zm15, zm16, zm17, zm18, zm19, zm20, zm21, zm22, zm23, zm24, zm25, zm26, zm27, zm28, zm29, zm30, zm31, zm32, zm33, zm34, zm35, zm36, zm37, zm38, zm39]
def zzM1 : List zzT := [zm40, zm41, zm42, zm43, zm44, zm45, zm46, zm47, zm48, zm49, zm50, zm51, zm52, zm53, zm54, zm55, zm56, zm57, zm58, zm59, zm60, zm61, zm62, zm63, zm64, zm65, zm66, zm67, zm68, zm69, zm70, zm71, zm72, zm73, zm74, zm75, zm76, zm77, zm78, zm79]
def zzM2 : List zzT := [zm80, zm81, zm82, zm83, zm84, zm85, zm86, zm87, zm88, zm89, zm90, zm91, zm92, zm93, zm94, zm95, zm96, zm97, zm98, zm99, zm100, zm101, zm102, zm103, zm104, zm105, zm106, zm107, zm108, zm109, zm110, zm111, zm112, zm113, zm114, zm115, zm116, zm117, zm118, zm119]
def zzM3 : List zzT := [zm120, zm121, zm122, zm123, zm124, zm125, zm126, zm127, zm128, zm129, zm130, zm131, zm132, zm133, zm134, zm135, zm136, zm137, zm138, zm139, zm140, zm141, zm142, zm143, zm144, zm145, zm146, zm147, zm148, zm149, zm150, zm151, zm152, zm153, zm154, zm155, zm156, zm157, zm158, zm159]
def zzM4 : List zzT := [zm160, zm161, zm162, zm163, zm164, zm165, zm166, zm167, zm168, zm169, zm170, zm171, zm172, zm173, zm174, zm175, zm176, zm177, zm178, zm179, zm180, zm181, zm182, zm183, zm184, zm185, zm186, zm187, zm188, zm189, zm190, zm191, zm192, zm193, zm194]
def zzM : List zzT := zzM0 ++ (zzM1 ++ (zzM2 ++ (zzM3 ++ (zzM4))))
/-- what the tables say of a method -/
def zzG (q : zzT) : Prop := (∀ e ∈ q.2.2, decode q.1.2.1 e.1 = .ok e.2) ∧ (q.1.1 = yL_law ∨ (lw_tbl[q.2.1.1]? = some (Cond.code q.1.1 q.1.2.1 q.1.2.2.1 q.1.2.2.2.1) ∧ lw_tbl[q.2.1.2.2.2.1]? = some (Cond.initialized q.1.1.cls) ∧ q.1.1.cls = zzR q.1.2.2.2.2 ∧ lw_tbl[q.2.1.2.1]? = some (if q.2.1.2.2.2.2.1 = true then Cond.static q.1.1 else Cond.instanceMethod q.1.1) ∧ (parseMethodDescriptor q.1.1.desc).map (fun d => d.parameters.length) = some q.2.1.2.2.2.2.2 ∧ (q.2.1.2.2.1 = 9999 ∨ lw_tbl[q.2.1.2.2.1]? = some (Cond.selects q.1.1.cls q.1.1 q.1.1)) ∧ plainFor q.1.1 = true ∧ q.1.1.cls ≠ "java/lang/invoke/MethodHandle" ∧ q.1.1.cls ≠ "java/lang/invoke/VarHandle"))
set_option maxRecDepth 100000 in
theorem zg0 : zzG zm0 := ⟨zkX0_init_ok, Or.inr ⟨by decide +kernel, by decide +kernel, by decide +kernel, by decide +kernel, by decide +kernel, by decide +kernel, by decide +kernel, by decide +kernel, by decide +kernel⟩⟩
set_option maxRecDepth 100000 in
theorem zg1 : zzG zm1 := ⟨zkX0_become_ok, Or.inr ⟨by decide +kernel, by decide +kernel, by decide +kernel, by decide +kernel, by decide +kernel, by decide +kernel, by decide +kernel, by decide +kernel, by decide +kernel⟩⟩
set_option maxRecDepth 100000 in
theorem zg2 : zzG zm2 := ⟨zkX0_take_ok, Or.inr ⟨by decide +kernel, by decide +kernel, by decide +kernel, by decide +kernel, by decide +kernel, by decide +kernel, by decide +kernel, by decide +kernel, by decide +kernel⟩⟩
set_option maxRecDepth 100000 in
theorem zg3 : zzG zm3 := ⟨zkX0_isOfKind_ok, Or.inr ⟨by decide +kernel, by decide +kernel, by decide +kernel, by decide +kernel, by decide +kernel, by decide +kernel, by decide +kernel, by decide +kernel, by decide +kernel⟩⟩
set_option maxRecDepth 100000 in
theorem zg4 : zzG zm4 := ⟨zkX0_step_ok, Or.inr ⟨by decide +kernel, by decide +kernel, by decide +kernel, by decide +kernel, by decide +kernel, by decide +kernel, by decide +kernel, by decide +kernel, by decide +kernel⟩⟩
set_option maxRecDepth 100000 in
theorem zg5 : zzG zm5 := ⟨zkX0_stepToRim_ok, Or.inr ⟨by decide +kernel, by decide +kernel, by decide +kernel, by decide +kernel, by decide +kernel, by decide +kernel, by decide +kernel, by decide +kernel, by decide +kernel⟩⟩
set_option maxRecDepth 100000 in
theorem zg6 : zzG zm6 := ⟨zkX0_covers_ok, Or.inr ⟨by decide +kernel, by decide +kernel, by decide +kernel, by decide +kernel, by decide +kernel, by decide +kernel, by decide +kernel, by decide +kernel, by decide +kernel⟩⟩
set_option maxRecDepth 100000 in
theorem zg7 : zzG zm7 := ⟨zkX0_touches_ok, Or.inr ⟨by decide +kernel, by decide +kernel, by decide +kernel, by decide +kernel, by decide +kernel, by decide +kernel, by decide +kernel, by decide +kernel, by decide +kernel⟩⟩
set_option maxRecDepth 100000 in
theorem zg8 : zzG zm8 := ⟨zkX0_cellsTouched_ok, Or.inr ⟨by decide +kernel, by decide +kernel, by decide +kernel, by decide +kernel, by decide +kernel, by decide +kernel, by decide +kernel, by decide +kernel, by decide +kernel⟩⟩
set_option maxRecDepth 100000 in
theorem zg9 : zzG zm9 := ⟨zkX0_meets_ok, Or.inr ⟨by decide +kernel, by decide +kernel, by decide +kernel, by decide +kernel, by decide +kernel, by decide +kernel, by decide +kernel, by decide +kernel, by decide +kernel⟩⟩
set_option maxRecDepth 100000 in
theorem zg10 : zzG zm10 := ⟨zkX0_farFrom_ok, Or.inr ⟨by decide +kernel, by decide +kernel, by decide +kernel, by decide +kernel, by decide +kernel, by decide +kernel, by decide +kernel, by decide +kernel, by decide +kernel⟩⟩
set_option maxRecDepth 100000 in
theorem zg11 : zzG zm11 := ⟨zkX0_gap_ok, Or.inr ⟨by decide +kernel, by decide +kernel, by decide +kernel, by decide +kernel, by decide +kernel, by decide +kernel, by decide +kernel, by decide +kernel, by decide +kernel⟩⟩
set_option maxRecDepth 100000 in
theorem zg12 : zzG zm12 := ⟨zkX0_passes_ok, Or.inr ⟨by decide +kernel, by decide +kernel, by decide +kernel, by decide +kernel, by decide +kernel, by decide +kernel, by decide +kernel, by decide +kernel, by decide +kernel⟩⟩
set_option maxRecDepth 100000 in
theorem zg13 : zzG zm13 := ⟨zkX0_wholeIndex_ok, Or.inr ⟨by decide +kernel, by decide +kernel, by decide +kernel, by decide +kernel, by decide +kernel, by decide +kernel, by decide +kernel, by decide +kernel, by decide +kernel⟩⟩
set_option maxRecDepth 100000 in
theorem zg14 : zzG zm14 := ⟨zkX0_digit_ok, Or.inr ⟨by decide +kernel, by decide +kernel, by decide +kernel, by decide +kernel, by decide +kernel, by decide +kernel, by decide +kernel, by decide +kernel, by decide +kernel⟩⟩
set_option maxRecDepth 100000 in
theorem zg15 : zzG zm15 := ⟨zkX1_init_ok, Or.inr ⟨by decide +kernel, by decide +kernel, by decide +kernel, by decide +kernel, by decide +kernel, by decide +kernel, by decide +kernel, by decide +kernel, by decide +kernel⟩⟩
set_option maxRecDepth 100000 in
theorem zg16 : zzG zm16 := ⟨zkX1_append_ok, Or.inr ⟨by decide +kernel, by decide +kernel, by decide +kernel, by decide +kernel, by decide +kernel, by decide +kernel, by decide +kernel, by decide +kernel, by decide +kernel⟩⟩
set_option maxRecDepth 100000 in
theorem zg17 : zzG zm17 := ⟨zkX1_parse_ok, Or.inr ⟨by decide +kernel, by decide +kernel, by decide +kernel, by decide +kernel, by decide +kernel, by decide +kernel, by decide +kernel, by decide +kernel, by decide +kernel⟩⟩
set_option maxRecDepth 100000 in
theorem zg18 : zzG zm18 := ⟨zkX1_parseClause_ok, Or.inr ⟨by decide +kernel, by decide +kernel, by decide +kernel, by decide +kernel, by decide +kernel, by decide +kernel, by decide +kernel, by decide +kernel, by decide +kernel⟩⟩
set_option maxRecDepth 100000 in
theorem zg19 : zzG zm19 := ⟨zkX1_signHere_ok, Or.inr ⟨by decide +kernel, by decide +kernel, by decide +kernel, by decide +kernel, by decide +kernel, by decide +kernel, by decide +kernel, by decide +kernel, by decide +kernel⟩⟩
set_option maxRecDepth 100000 in
theorem zg20 : zzG zm20 := ⟨zkX1_fail_ok, Or.inr ⟨by decide +kernel, by decide +kernel, by decide +kernel, by decide +kernel, by decide +kernel, by decide +kernel, by decide +kernel, by decide +kernel, by decide +kernel⟩⟩
set_option maxRecDepth 100000 in
theorem zg21 : zzG zm21 := ⟨zkX1_parseSign_ok, Or.inr ⟨by decide +kernel, by decide +kernel, by decide +kernel, by decide +kernel, by decide +kernel, by decide +kernel, by decide +kernel, by decide +kernel, by decide +kernel⟩⟩
set_option maxRecDepth 100000 in
theorem zg22 : zzG zm22 := ⟨zkX1_parseKind_ok, Or.inr ⟨by decide +kernel, by decide +kernel, by decide +kernel, by decide +kernel, by decide +kernel, by decide +kernel, by decide +kernel, by decide +kernel, by decide +kernel⟩⟩
set_option maxRecDepth 100000 in
theorem zg23 : zzG zm23 := ⟨zkX1_kindOf_ok, Or.inr ⟨by decide +kernel, by decide +kernel, by decide +kernel, by decide +kernel, by decide +kernel, by decide +kernel, by decide +kernel, by decide +kernel, by decide +kernel⟩⟩
set_option maxRecDepth 100000 in
theorem zg24 : zzG zm24 := ⟨zkX1_parseNumber_ok, Or.inr ⟨by decide +kernel, by decide +kernel, by decide +kernel, by decide +kernel, by decide +kernel, by decide +kernel, by decide +kernel, by decide +kernel, by decide +kernel⟩⟩
set_option maxRecDepth 100000 in
theorem zg25 : zzG zm25 := ⟨zkX1_parseSpeed_ok, Or.inr ⟨by decide +kernel, by decide +kernel, by decide +kernel, by decide +kernel, by decide +kernel, by decide +kernel, by decide +kernel, by decide +kernel, by decide +kernel⟩⟩
set_option maxRecDepth 100000 in
theorem zg26 : zzG zm26 := ⟨zkX2_init_ok, Or.inr ⟨by decide +kernel, by decide +kernel, by decide +kernel, by decide +kernel, by decide +kernel, by decide +kernel, by decide +kernel, by decide +kernel, by decide +kernel⟩⟩
set_option maxRecDepth 100000 in
theorem zg27 : zzG zm27 := ⟨zkX2_empty_ok, Or.inr ⟨by decide +kernel, by decide +kernel, by decide +kernel, by decide +kernel, by decide +kernel, by decide +kernel, by decide +kernel, by decide +kernel, by decide +kernel⟩⟩
set_option maxRecDepth 100000 in
theorem zg28 : zzG zm28 := ⟨zkX2_append_ok, Or.inr ⟨by decide +kernel, by decide +kernel, by decide +kernel, by decide +kernel, by decide +kernel, by decide +kernel, by decide +kernel, by decide +kernel, by decide +kernel⟩⟩
set_option maxRecDepth 100000 in
theorem zg29 : zzG zm29 := ⟨zkX2_value_ok, Or.inr ⟨by decide +kernel, by decide +kernel, by decide +kernel, by decide +kernel, by decide +kernel, by decide +kernel, by decide +kernel, by decide +kernel, by decide +kernel⟩⟩
set_option maxRecDepth 100000 in
theorem zg30 : zzG zm30 := ⟨zkX2_take_ok, Or.inr ⟨by decide +kernel, by decide +kernel, by decide +kernel, by decide +kernel, by decide +kernel, by decide +kernel, by decide +kernel, by decide +kernel, by decide +kernel⟩⟩
set_option maxRecDepth 100000 in
theorem zg31 : zzG zm31 := ⟨zkX3_init_ok, Or.inr ⟨by decide +kernel, by decide +kernel, by decide +kernel, by decide +kernel, by decide +kernel, by decide +kernel, by decide +kernel, by decide +kernel, by decide +kernel⟩⟩
set_option maxRecDepth 100000 in
theorem zg32 : zzG zm32 := ⟨zkX3_hold_ok, Or.inr ⟨by decide +kernel, by decide +kernel, by decide +kernel, by decide +kernel, by decide +kernel, by decide +kernel, by decide +kernel, by decide +kernel, by decide +kernel⟩⟩
set_option maxRecDepth 100000 in
theorem zg33 : zzG zm33 := ⟨zkX3_lowestBits_ok, Or.inr ⟨by decide +kernel, by decide +kernel, by decide +kernel, by decide +kernel, by decide +kernel, by decide +kernel, by decide +kernel, by decide +kernel, by decide +kernel⟩⟩
set_option maxRecDepth 100000 in
theorem zg34 : zzG zm34 := ⟨zkX4_init_ok, Or.inr ⟨by decide +kernel, by decide +kernel, by decide +kernel, by decide +kernel, by decide +kernel, by decide +kernel, by decide +kernel, by decide +kernel, by decide +kernel⟩⟩
set_option maxRecDepth 100000 in
theorem zg35 : zzG zm35 := ⟨zkX4_takeBoxes_ok, Or.inr ⟨by decide +kernel, by decide +kernel, by decide +kernel, by decide +kernel, by decide +kernel, by decide +kernel, by decide +kernel, by decide +kernel, by decide +kernel⟩⟩
set_option maxRecDepth 100000 in
theorem zg36 : zzG zm36 := ⟨zkX4_takeAll_ok, Or.inr ⟨by decide +kernel, by decide +kernel, by decide +kernel, by decide +kernel, by decide +kernel, by decide +kernel, by decide +kernel, by decide +kernel, by decide +kernel⟩⟩
set_option maxRecDepth 100000 in
theorem zg37 : zzG zm37 := ⟨zkX4_find_ok, Or.inr ⟨by decide +kernel, by decide +kernel, by decide +kernel, by decide +kernel, by decide +kernel, by decide +kernel, by decide +kernel, by decide +kernel, by decide +kernel⟩⟩
set_option maxRecDepth 100000 in
theorem zg38 : zzG zm38 := ⟨zkX4_nextBox_ok, Or.inr ⟨by decide +kernel, by decide +kernel, by decide +kernel, by decide +kernel, by decide +kernel, by decide +kernel, by decide +kernel, by decide +kernel, by decide +kernel⟩⟩
set_option maxRecDepth 100000 in
theorem zg39 : zzG zm39 := ⟨zkX4_present_ok, Or.inr ⟨by decide +kernel, by decide +kernel, by decide +kernel, by decide +kernel, by decide +kernel, by decide +kernel, by decide +kernel, by decide +kernel, by decide +kernel⟩⟩
set_option maxRecDepth 100000 in
theorem zg40 : zzG zm40 := ⟨zkX4_area_ok, Or.inr ⟨by decide +kernel, by decide +kernel, by decide +kernel, by decide +kernel, by decide +kernel, by decide +kernel, by decide +kernel, by decide +kernel, by decide +kernel⟩⟩
set_option maxRecDepth 100000 in
theorem zg41 : zzG zm41 := ⟨zkX4_step_ok, Or.inr ⟨by decide +kernel, by decide +kernel, by decide +kernel, by decide +kernel, by decide +kernel, by decide +kernel, by decide +kernel, by decide +kernel, by decide +kernel⟩⟩
set_option maxRecDepth 100000 in
theorem zg42 : zzG zm42 := ⟨zkX4_wholeIn_ok, Or.inr ⟨by decide +kernel, by decide +kernel, by decide +kernel, by decide +kernel, by decide +kernel, by decide +kernel, by decide +kernel, by decide +kernel, by decide +kernel⟩⟩
set_option maxRecDepth 100000 in
theorem zg43 : zzG zm43 := ⟨zkX4_isSplit_ok, Or.inr ⟨by decide +kernel, by decide +kernel, by decide +kernel, by decide +kernel, by decide +kernel, by decide +kernel, by decide +kernel, by decide +kernel, by decide +kernel⟩⟩
set_option maxRecDepth 100000 in
theorem zg44 : zzG zm44 := ⟨zkX4_pathOf_ok, Or.inr ⟨by decide +kernel, by decide +kernel, by decide +kernel, by decide +kernel, by decide +kernel, by decide +kernel, by decide +kernel, by decide +kernel, by decide +kernel⟩⟩
set_option maxRecDepth 100000 in
theorem zg45 : zzG zm45 := ⟨zkX4_isSquare_ok, Or.inr ⟨by decide +kernel, by decide +kernel, by decide +kernel, by decide +kernel, by decide +kernel, by decide +kernel, by decide +kernel, by decide +kernel, by decide +kernel⟩⟩
set_option maxRecDepth 100000 in
theorem zg46 : zzG zm46 := ⟨zkX4_isIn_ok, Or.inr ⟨by decide +kernel, by decide +kernel, by decide +kernel, by decide +kernel, by decide +kernel, by decide +kernel, by decide +kernel, by decide +kernel, by decide +kernel⟩⟩
set_option maxRecDepth 100000 in
theorem zg47 : zzG zm47 := ⟨zkX4_inSquare_ok, Or.inr ⟨by decide +kernel, by decide +kernel, by decide +kernel, by decide +kernel, by decide +kernel, by decide +kernel, by decide +kernel, by decide +kernel, by decide +kernel⟩⟩
set_option maxRecDepth 100000 in
theorem zg48 : zzG zm48 := ⟨zkX4_leastIn_ok, Or.inr ⟨by decide +kernel, by decide +kernel, by decide +kernel, by decide +kernel, by decide +kernel, by decide +kernel, by decide +kernel, by decide +kernel, by decide +kernel⟩⟩
set_option maxRecDepth 100000 in
theorem zg49 : zzG zm49 := ⟨zkX4_splitAt_ok, Or.inr ⟨by decide +kernel, by decide +kernel, by decide +kernel, by decide +kernel, by decide +kernel, by decide +kernel, by decide +kernel, by decide +kernel, by decide +kernel⟩⟩
set_option maxRecDepth 100000 in
theorem zg50 : zzG zm50 := ⟨zkX4_squares_ok, Or.inr ⟨by decide +kernel, by decide +kernel, by decide +kernel, by decide +kernel, by decide +kernel, by decide +kernel, by decide +kernel, by decide +kernel, by decide +kernel⟩⟩
set_option maxRecDepth 100000 in
theorem zg51 : zzG zm51 := ⟨zkX4_greatestDepth_ok, Or.inr ⟨by decide +kernel, by decide +kernel, by decide +kernel, by decide +kernel, by decide +kernel, by decide +kernel, by decide +kernel, by decide +kernel, by decide +kernel⟩⟩
set_option maxRecDepth 100000 in
theorem zg52 : zzG zm52 := ⟨zkX4_touching_ok, Or.inr ⟨by decide +kernel, by decide +kernel, by decide +kernel, by decide +kernel, by decide +kernel, by decide +kernel, by decide +kernel, by decide +kernel, by decide +kernel⟩⟩
set_option maxRecDepth 100000 in
theorem zg53 : zzG zm53 := ⟨zkX4_touchingNumber_ok, Or.inr ⟨by decide +kernel, by decide +kernel, by decide +kernel, by decide +kernel, by decide +kernel, by decide +kernel, by decide +kernel, by decide +kernel, by decide +kernel⟩⟩
set_option maxRecDepth 100000 in
theorem zg54 : zzG zm54 := ⟨zkX4_cellsTouched_ok, Or.inr ⟨by decide +kernel, by decide +kernel, by decide +kernel, by decide +kernel, by decide +kernel, by decide +kernel, by decide +kernel, by decide +kernel, by decide +kernel⟩⟩
set_option maxRecDepth 100000 in
theorem zg55 : zzG zm55 := ⟨zkX4_nearestNumber_ok, Or.inr ⟨by decide +kernel, by decide +kernel, by decide +kernel, by decide +kernel, by decide +kernel, by decide +kernel, by decide +kernel, by decide +kernel, by decide +kernel⟩⟩
set_option maxRecDepth 100000 in
theorem zg56 : zzG zm56 := ⟨zkX4_nextNearest_ok, Or.inr ⟨by decide +kernel, by decide +kernel, by decide +kernel, by decide +kernel, by decide +kernel, by decide +kernel, by decide +kernel, by decide +kernel, by decide +kernel⟩⟩
set_option maxRecDepth 100000 in
theorem zg57 : zzG zm57 := ⟨zkX4_within_ok, Or.inr ⟨by decide +kernel, by decide +kernel, by decide +kernel, by decide +kernel, by decide +kernel, by decide +kernel, by decide +kernel, by decide +kernel, by decide +kernel⟩⟩
set_option maxRecDepth 100000 in
theorem zg58 : zzG zm58 := ⟨zkX4_meetings_ok, Or.inr ⟨by decide +kernel, by decide +kernel, by decide +kernel, by decide +kernel, by decide +kernel, by decide +kernel, by decide +kernel, by decide +kernel, by decide +kernel⟩⟩
set_option maxRecDepth 100000 in
theorem zg59 : zzG zm59 := ⟨zkX4_pairs_ok, Or.inr ⟨by decide +kernel, by decide +kernel, by decide +kernel, by decide +kernel, by decide +kernel, by decide +kernel, by decide +kernel, by decide +kernel, by decide +kernel⟩⟩
set_option maxRecDepth 100000 in
theorem zg60 : zzG zm60 := ⟨zkX4_pairNumber_ok, Or.inr ⟨by decide +kernel, by decide +kernel, by decide +kernel, by decide +kernel, by decide +kernel, by decide +kernel, by decide +kernel, by decide +kernel, by decide +kernel⟩⟩
set_option maxRecDepth 100000 in
theorem zg61 : zzG zm61 := ⟨zkX5_init_ok, Or.inr ⟨by decide +kernel, by decide +kernel, by decide +kernel, by decide +kernel, by decide +kernel, by decide +kernel, by decide +kernel, by decide +kernel, by decide +kernel⟩⟩
set_option maxRecDepth 100000 in
theorem zg62 : zzG zm62 := ⟨zkX5_box_ok, Or.inr ⟨by decide +kernel, by decide +kernel, by decide +kernel, by decide +kernel, by decide +kernel, by decide +kernel, by decide +kernel, by decide +kernel, by decide +kernel⟩⟩
set_option maxRecDepth 100000 in
theorem zg63 : zzG zm63 := ⟨zkX5_speed_ok, Or.inr ⟨by decide +kernel, by decide +kernel, by decide +kernel, by decide +kernel, by decide +kernel, by decide +kernel, by decide +kernel, by decide +kernel, by decide +kernel⟩⟩
set_option maxRecDepth 100000 in
theorem zg64 : zzG zm64 := ⟨zkX5_move_ok, Or.inr ⟨by decide +kernel, by decide +kernel, by decide +kernel, by decide +kernel, by decide +kernel, by decide +kernel, by decide +kernel, by decide +kernel, by decide +kernel⟩⟩
set_option maxRecDepth 100000 in
theorem zg65 : zzG zm65 := ⟨zkX5_drop_ok, Or.inr ⟨by decide +kernel, by decide +kernel, by decide +kernel, by decide +kernel, by decide +kernel, by decide +kernel, by decide +kernel, by decide +kernel, by decide +kernel⟩⟩
set_option maxRecDepth 100000 in
theorem zg66 : zzG zm66 := ⟨zkX5_room_ok, Or.inr ⟨by decide +kernel, by decide +kernel, by decide +kernel, by decide +kernel, by decide +kernel, by decide +kernel, by decide +kernel, by decide +kernel, by decide +kernel⟩⟩
set_option maxRecDepth 100000 in
theorem zg67 : zzG zm67 := ⟨zkX5_feed_ok, Or.inr ⟨by decide +kernel, by decide +kernel, by decide +kernel, by decide +kernel, by decide +kernel, by decide +kernel, by decide +kernel, by decide +kernel, by decide +kernel⟩⟩
set_option maxRecDepth 100000 in
theorem zg68 : zzG zm68 := ⟨zkX5_boxes_ok, Or.inr ⟨by decide +kernel, by decide +kernel, by decide +kernel, by decide +kernel, by decide +kernel, by decide +kernel, by decide +kernel, by decide +kernel, by decide +kernel⟩⟩
set_option maxRecDepth 100000 in
theorem zg69 : zzG zm69 := ⟨zkX5_letIn_ok, Or.inr ⟨by decide +kernel, by decide +kernel, by decide +kernel, by decide +kernel, by decide +kernel, by decide +kernel, by decide +kernel, by decide +kernel, by decide +kernel⟩⟩
set_option maxRecDepth 100000 in
theorem zg70 : zzG zm70 := ⟨zkX5_of_ok, Or.inr ⟨by decide +kernel, by decide +kernel, by decide +kernel, by decide +kernel, by decide +kernel, by decide +kernel, by decide +kernel, by decide +kernel, by decide +kernel⟩⟩
set_option maxRecDepth 100000 in
theorem zg71 : zzG zm71 := ⟨zkX5_square_ok, Or.inr ⟨by decide +kernel, by decide +kernel, by decide +kernel, by decide +kernel, by decide +kernel, by decide +kernel, by decide +kernel, by decide +kernel, by decide +kernel⟩⟩
set_option maxRecDepth 100000 in
theorem zg72 : zzG zm72 := ⟨zkX5_cell_ok, Or.inr ⟨by decide +kernel, by decide +kernel, by decide +kernel, by decide +kernel, by decide +kernel, by decide +kernel, by decide +kernel, by decide +kernel, by decide +kernel⟩⟩
set_option maxRecDepth 100000 in
theorem zg73 : zzG zm73 := ⟨zkX5_told_ok, Or.inr ⟨by decide +kernel, by decide +kernel, by decide +kernel, by decide +kernel, by decide +kernel, by decide +kernel, by decide +kernel, by decide +kernel, by decide +kernel⟩⟩
set_option maxRecDepth 100000 in
theorem zg74 : zzG zm74 := ⟨zkX5_far_ok, Or.inr ⟨by decide +kernel, by decide +kernel, by decide +kernel, by decide +kernel, by decide +kernel, by decide +kernel, by decide +kernel, by decide +kernel, by decide +kernel⟩⟩
set_option maxRecDepth 100000 in
theorem zg75 : zzG zm75 := ⟨zkX5_nearest_ok, Or.inr ⟨by decide +kernel, by decide +kernel, by decide +kernel, by decide +kernel, by decide +kernel, by decide +kernel, by decide +kernel, by decide +kernel, by decide +kernel⟩⟩
set_option maxRecDepth 100000 in
theorem zg76 : zzG zm76 := ⟨zkX5_window_ok, Or.inr ⟨by decide +kernel, by decide +kernel, by decide +kernel, by decide +kernel, by decide +kernel, by decide +kernel, by decide +kernel, by decide +kernel, by decide +kernel⟩⟩
set_option maxRecDepth 100000 in
theorem zg77 : zzG zm77 := ⟨zkX5_pair_ok, Or.inr ⟨by decide +kernel, by decide +kernel, by decide +kernel, by decide +kernel, by decide +kernel, by decide +kernel, by decide +kernel, by decide +kernel, by decide +kernel⟩⟩
set_option maxRecDepth 100000 in
theorem zg78 : zzG zm78 := ⟨zkX5_pass_ok, Or.inr ⟨by decide +kernel, by decide +kernel, by decide +kernel, by decide +kernel, by decide +kernel, by decide +kernel, by decide +kernel, by decide +kernel, by decide +kernel⟩⟩
set_option maxRecDepth 100000 in
theorem zg79 : zzG zm79 := ⟨zkX5_on_ok, Or.inr ⟨by decide +kernel, by decide +kernel, by decide +kernel, by decide +kernel, by decide +kernel, by decide +kernel, by decide +kernel, by decide +kernel, by decide +kernel⟩⟩
set_option maxRecDepth 100000 in
theorem zg80 : zzG zm80 := ⟨zkX5_onTrial_ok, Or.inr ⟨by decide +kernel, by decide +kernel, by decide +kernel, by decide +kernel, by decide +kernel, by decide +kernel, by decide +kernel, by decide +kernel, by decide +kernel⟩⟩
set_option maxRecDepth 100000 in
theorem zg81 : zzG zm81 := ⟨zkX5_first_ok, Or.inr ⟨by decide +kernel, by decide +kernel, by decide +kernel, by decide +kernel, by decide +kernel, by decide +kernel, by decide +kernel, by decide +kernel, by decide +kernel⟩⟩
set_option maxRecDepth 100000 in
theorem zg82 : zzG zm82 := ⟨zkX5_firstMeeting_ok, Or.inr ⟨by decide +kernel, by decide +kernel, by decide +kernel, by decide +kernel, by decide +kernel, by decide +kernel, by decide +kernel, by decide +kernel, by decide +kernel⟩⟩
set_option maxRecDepth 100000 in
theorem zg83 : zzG zm83 := ⟨zkX5_see_ok, Or.inr ⟨by decide +kernel, by decide +kernel, by decide +kernel, by decide +kernel, by decide +kernel, by decide +kernel, by decide +kernel, by decide +kernel, by decide +kernel⟩⟩
set_option maxRecDepth 100000 in
theorem zg84 : zzG zm84 := ⟨zkX5_speeds_ok, Or.inr ⟨by decide +kernel, by decide +kernel, by decide +kernel, by decide +kernel, by decide +kernel, by decide +kernel, by decide +kernel, by decide +kernel, by decide +kernel⟩⟩
set_option maxRecDepth 100000 in
theorem zg85 : zzG zm85 := ⟨zkX5_wouldBeSeen_ok, Or.inr ⟨by decide +kernel, by decide +kernel, by decide +kernel, by decide +kernel, by decide +kernel, by decide +kernel, by decide +kernel, by decide +kernel, by decide +kernel⟩⟩
set_option maxRecDepth 100000 in
theorem zg86 : zzG zm86 := ⟨zkX5_odds_ok, Or.inr ⟨by decide +kernel, by decide +kernel, by decide +kernel, by decide +kernel, by decide +kernel, by decide +kernel, by decide +kernel, by decide +kernel, by decide +kernel⟩⟩
set_option maxRecDepth 100000 in
theorem zg87 : zzG zm87 := ⟨zkX5_mean_ok, Or.inr ⟨by decide +kernel, by decide +kernel, by decide +kernel, by decide +kernel, by decide +kernel, by decide +kernel, by decide +kernel, by decide +kernel, by decide +kernel⟩⟩
set_option maxRecDepth 100000 in
theorem zg88 : zzG zm88 := ⟨zkX5_plan_ok, Or.inr ⟨by decide +kernel, by decide +kernel, by decide +kernel, by decide +kernel, by decide +kernel, by decide +kernel, by decide +kernel, by decide +kernel, by decide +kernel⟩⟩
set_option maxRecDepth 100000 in
theorem zg89 : zzG zm89 := ⟨zkX5_ends_ok, Or.inr ⟨by decide +kernel, by decide +kernel, by decide +kernel, by decide +kernel, by decide +kernel, by decide +kernel, by decide +kernel, by decide +kernel, by decide +kernel⟩⟩
set_option maxRecDepth 100000 in
theorem zg90 : zzG zm90 := ⟨zkX5_carryOut_ok, Or.inr ⟨by decide +kernel, by decide +kernel, by decide +kernel, by decide +kernel, by decide +kernel, by decide +kernel, by decide +kernel, by decide +kernel, by decide +kernel⟩⟩
set_option maxRecDepth 100000 in
theorem zg91 : zzG zm91 := ⟨zkX5_book_ok, Or.inr ⟨by decide +kernel, by decide +kernel, by decide +kernel, by decide +kernel, by decide +kernel, by decide +kernel, by decide +kernel, by decide +kernel, by decide +kernel⟩⟩
set_option maxRecDepth 100000 in
theorem zg92 : zzG zm92 := ⟨zkX5_looked_ok, Or.inr ⟨by decide +kernel, by decide +kernel, by decide +kernel, by decide +kernel, by decide +kernel, by decide +kernel, by decide +kernel, by decide +kernel, by decide +kernel⟩⟩
set_option maxRecDepth 100000 in
theorem zg93 : zzG zm93 := ⟨zkX5_judge_ok, Or.inr ⟨by decide +kernel, by decide +kernel, by decide +kernel, by decide +kernel, by decide +kernel, by decide +kernel, by decide +kernel, by decide +kernel, by decide +kernel⟩⟩
set_option maxRecDepth 100000 in
theorem zg94 : zzG zm94 := ⟨zkX5_image_ok, Or.inr ⟨by decide +kernel, by decide +kernel, by decide +kernel, by decide +kernel, by decide +kernel, by decide +kernel, by decide +kernel, by decide +kernel, by decide +kernel⟩⟩
set_option maxRecDepth 100000 in
theorem zg95 : zzG zm95 := ⟨zkX5_undo_ok, Or.inr ⟨by decide +kernel, by decide +kernel, by decide +kernel, by decide +kernel, by decide +kernel, by decide +kernel, by decide +kernel, by decide +kernel, by decide +kernel⟩⟩
set_option maxRecDepth 100000 in
theorem zg96 : zzG zm96 := ⟨zkX5_taken_ok, Or.inr ⟨by decide +kernel, by decide +kernel, by decide +kernel, by decide +kernel, by decide +kernel, by decide +kernel, by decide +kernel, by decide +kernel, by decide +kernel⟩⟩
set_option maxRecDepth 100000 in
theorem zg97 : zzG zm97 := ⟨zkX5_count_ok, Or.inr ⟨by decide +kernel, by decide +kernel, by decide +kernel, by decide +kernel, by decide +kernel, by decide +kernel, by decide +kernel, by decide +kernel, by decide +kernel⟩⟩
set_option maxRecDepth 100000 in
theorem zg98 : zzG zm98 := ⟨zkX5_tape_ok, Or.inr ⟨by decide +kernel, by decide +kernel, by decide +kernel, by decide +kernel, by decide +kernel, by decide +kernel, by decide +kernel, by decide +kernel, by decide +kernel⟩⟩
set_option maxRecDepth 100000 in
theorem zg99 : zzG zm99 := ⟨zkX5_item_ok, Or.inr ⟨by decide +kernel, by decide +kernel, by decide +kernel, by decide +kernel, by decide +kernel, by decide +kernel, by decide +kernel, by decide +kernel, by decide +kernel⟩⟩
set_option maxRecDepth 100000 in
theorem zg100 : zzG zm100 := ⟨zkX5_read_ok, Or.inr ⟨by decide +kernel, by decide +kernel, by decide +kernel, by decide +kernel, by decide +kernel, by decide +kernel, by decide +kernel, by decide +kernel, by decide +kernel⟩⟩
set_option maxRecDepth 100000 in
theorem zg101 : zzG zm101 := ⟨zkX5_shift_ok, Or.inr ⟨by decide +kernel, by decide +kernel, by decide +kernel, by decide +kernel, by decide +kernel, by decide +kernel, by decide +kernel, by decide +kernel, by decide +kernel⟩⟩
set_option maxRecDepth 100000 in
theorem zg102 : zzG zm102 := ⟨zkX5_findTape_ok, Or.inr ⟨by decide +kernel, by decide +kernel, by decide +kernel, by decide +kernel, by decide +kernel, by decide +kernel, by decide +kernel, by decide +kernel, by decide +kernel⟩⟩
set_option maxRecDepth 100000 in
theorem zg103 : zzG zm103 := ⟨zkX5_isWithin_ok, Or.inr ⟨by decide +kernel, by decide +kernel, by decide +kernel, by decide +kernel, by decide +kernel, by decide +kernel, by decide +kernel, by decide +kernel, by decide +kernel⟩⟩
set_option maxRecDepth 100000 in
theorem zg104 : zzG zm104 := ⟨zkX5_isPlace_ok, Or.inr ⟨by decide +kernel, by decide +kernel, by decide +kernel, by decide +kernel, by decide +kernel, by decide +kernel, by decide +kernel, by decide +kernel, by decide +kernel⟩⟩
set_option maxRecDepth 100000 in
theorem zg105 : zzG zm105 := ⟨zkX5_isOnPlane_ok, Or.inr ⟨by decide +kernel, by decide +kernel, by decide +kernel, by decide +kernel, by decide +kernel, by decide +kernel, by decide +kernel, by decide +kernel, by decide +kernel⟩⟩
set_option maxRecDepth 100000 in
theorem zg106 : zzG zm106 := ⟨zkX5_depthOf_ok, Or.inr ⟨by decide +kernel, by decide +kernel, by decide +kernel, by decide +kernel, by decide +kernel, by decide +kernel, by decide +kernel, by decide +kernel, by decide +kernel⟩⟩
set_option maxRecDepth 100000 in
theorem zg107 : zzG zm107 := ⟨zkX5_indexOf_ok, Or.inr ⟨by decide +kernel, by decide +kernel, by decide +kernel, by decide +kernel, by decide +kernel, by decide +kernel, by decide +kernel, by decide +kernel, by decide +kernel⟩⟩
set_option maxRecDepth 100000 in
theorem zg108 : zzG zm108 := ⟨zkX5_partOfFraction_ok, Or.inr ⟨by decide +kernel, by decide +kernel, by decide +kernel, by decide +kernel, by decide +kernel, by decide +kernel, by decide +kernel, by decide +kernel, by decide +kernel⟩⟩
set_option maxRecDepth 100000 in
theorem zg109 : zzG zm109 := ⟨zkX5_greatestDivisor_ok, Or.inr ⟨by decide +kernel, by decide +kernel, by decide +kernel, by decide +kernel, by decide +kernel, by decide +kernel, by decide +kernel, by decide +kernel, by decide +kernel⟩⟩
set_option maxRecDepth 100000 in
theorem zg110 : zzG zm110 := ⟨zkX6_init_ok, Or.inr ⟨by decide +kernel, by decide +kernel, by decide +kernel, by decide +kernel, by decide +kernel, by decide +kernel, by decide +kernel, by decide +kernel, by decide +kernel⟩⟩
set_option maxRecDepth 100000 in
theorem zg111 : zzG zm111 := ⟨zkX6_in_ok, Or.inr ⟨by decide +kernel, by decide +kernel, by decide +kernel, by decide +kernel, by decide +kernel, by decide +kernel, by decide +kernel, by decide +kernel, by decide +kernel⟩⟩
set_option maxRecDepth 100000 in
theorem zg112 : zzG zm112 := ⟨zkX6_copy_ok, Or.inr ⟨by decide +kernel, by decide +kernel, by decide +kernel, by decide +kernel, by decide +kernel, by decide +kernel, by decide +kernel, by decide +kernel, by decide +kernel⟩⟩
set_option maxRecDepth 100000 in
theorem zg113 : zzG zm113 := ⟨zkX6_at_ok, Or.inr ⟨by decide +kernel, by decide +kernel, by decide +kernel, by decide +kernel, by decide +kernel, by decide +kernel, by decide +kernel, by decide +kernel, by decide +kernel⟩⟩
set_option maxRecDepth 100000 in
theorem zg114 : zzG zm114 := ⟨zkX6_sets_ok, Or.inr ⟨by decide +kernel, by decide +kernel, by decide +kernel, by decide +kernel, by decide +kernel, by decide +kernel, by decide +kernel, by decide +kernel, by decide +kernel⟩⟩
set_option maxRecDepth 100000 in
theorem zg115 : zzG zm115 := ⟨zkX6_isBox_ok, Or.inr ⟨by decide +kernel, by decide +kernel, by decide +kernel, by decide +kernel, by decide +kernel, by decide +kernel, by decide +kernel, by decide +kernel, by decide +kernel⟩⟩
set_option maxRecDepth 100000 in
theorem zg116 : zzG zm116 := ⟨zkX6_isPoint_ok, Or.inr ⟨by decide +kernel, by decide +kernel, by decide +kernel, by decide +kernel, by decide +kernel, by decide +kernel, by decide +kernel, by decide +kernel, by decide +kernel⟩⟩
set_option maxRecDepth 100000 in
theorem zg117 : zzG zm117 := ⟨zkX6_fits_ok, Or.inr ⟨by decide +kernel, by decide +kernel, by decide +kernel, by decide +kernel, by decide +kernel, by decide +kernel, by decide +kernel, by decide +kernel, by decide +kernel⟩⟩
set_option maxRecDepth 100000 in
theorem zg118 : zzG zm118 := ⟨zkX6_there_ok, Or.inr ⟨by decide +kernel, by decide +kernel, by decide +kernel, by decide +kernel, by decide +kernel, by decide +kernel, by decide +kernel, by decide +kernel, by decide +kernel⟩⟩
set_option maxRecDepth 100000 in
theorem zg119 : zzG zm119 := ⟨zkX6_comes_ok, Or.inr ⟨by decide +kernel, by decide +kernel, by decide +kernel, by decide +kernel, by decide +kernel, by decide +kernel, by decide +kernel, by decide +kernel, by decide +kernel⟩⟩
set_option maxRecDepth 100000 in
theorem zg120 : zzG zm120 := ⟨zkX6_box_ok, Or.inr ⟨by decide +kernel, by decide +kernel, by decide +kernel, by decide +kernel, by decide +kernel, by decide +kernel, by decide +kernel, by decide +kernel, by decide +kernel⟩⟩
set_option maxRecDepth 100000 in
theorem zg121 : zzG zm121 := ⟨zkX6_speed_ok, Or.inr ⟨by decide +kernel, by decide +kernel, by decide +kernel, by decide +kernel, by decide +kernel, by decide +kernel, by decide +kernel, by decide +kernel, by decide +kernel⟩⟩
set_option maxRecDepth 100000 in
theorem zg122 : zzG zm122 := ⟨zkX6_move_ok, Or.inr ⟨by decide +kernel, by decide +kernel, by decide +kernel, by decide +kernel, by decide +kernel, by decide +kernel, by decide +kernel, by decide +kernel, by decide +kernel⟩⟩
set_option maxRecDepth 100000 in
theorem zg123 : zzG zm123 := ⟨zkX6_drop_ok, Or.inr ⟨by decide +kernel, by decide +kernel, by decide +kernel, by decide +kernel, by decide +kernel, by decide +kernel, by decide +kernel, by decide +kernel, by decide +kernel⟩⟩
set_option maxRecDepth 100000 in
theorem zg124 : zzG zm124 := ⟨zkX6_room_ok, Or.inr ⟨by decide +kernel, by decide +kernel, by decide +kernel, by decide +kernel, by decide +kernel, by decide +kernel, by decide +kernel, by decide +kernel, by decide +kernel⟩⟩
set_option maxRecDepth 100000 in
theorem zg125 : zzG zm125 := ⟨zkX6_feed_ok, Or.inr ⟨by decide +kernel, by decide +kernel, by decide +kernel, by decide +kernel, by decide +kernel, by decide +kernel, by decide +kernel, by decide +kernel, by decide +kernel⟩⟩
set_option maxRecDepth 100000 in
theorem zg126 : zzG zm126 := ⟨zkX6_sees_ok, Or.inr ⟨by decide +kernel, by decide +kernel, by decide +kernel, by decide +kernel, by decide +kernel, by decide +kernel, by decide +kernel, by decide +kernel, by decide +kernel⟩⟩
set_option maxRecDepth 100000 in
theorem zg127 : zzG zm127 := ⟨zkX6_must_ok, Or.inr ⟨by decide +kernel, by decide +kernel, by decide +kernel, by decide +kernel, by decide +kernel, by decide +kernel, by decide +kernel, by decide +kernel, by decide +kernel⟩⟩
set_option maxRecDepth 100000 in
theorem zg128 : zzG zm128 := ⟨zkX6_number_ok, Or.inr ⟨by decide +kernel, by decide +kernel, by decide +kernel, by decide +kernel, by decide +kernel, by decide +kernel, by decide +kernel, by decide +kernel, by decide +kernel⟩⟩
set_option maxRecDepth 100000 in
theorem zg129 : zzG zm129 := ⟨zkX6_kindHere_ok, Or.inr ⟨by decide +kernel, by decide +kernel, by decide +kernel, by decide +kernel, by decide +kernel, by decide +kernel, by decide +kernel, by decide +kernel, by decide +kernel⟩⟩
set_option maxRecDepth 100000 in
theorem zg130 : zzG zm130 := ⟨zkX6_speedHere_ok, Or.inr ⟨by decide +kernel, by decide +kernel, by decide +kernel, by decide +kernel, by decide +kernel, by decide +kernel, by decide +kernel, by decide +kernel, by decide +kernel⟩⟩
set_option maxRecDepth 100000 in
theorem zg131 : zzG zm131 := ⟨zkX6_clause_ok, Or.inr ⟨by decide +kernel, by decide +kernel, by decide +kernel, by decide +kernel, by decide +kernel, by decide +kernel, by decide +kernel, by decide +kernel, by decide +kernel⟩⟩
set_option maxRecDepth 100000 in
theorem zg132 : zzG zm132 := ⟨zkX6_boxes_ok, Or.inr ⟨by decide +kernel, by decide +kernel, by decide +kernel, by decide +kernel, by decide +kernel, by decide +kernel, by decide +kernel, by decide +kernel, by decide +kernel⟩⟩
set_option maxRecDepth 100000 in
theorem zg133 : zzG zm133 := ⟨zkX6_isWhole_ok, Or.inr ⟨by decide +kernel, by decide +kernel, by decide +kernel, by decide +kernel, by decide +kernel, by decide +kernel, by decide +kernel, by decide +kernel, by decide +kernel⟩⟩
set_option maxRecDepth 100000 in
theorem zg134 : zzG zm134 := ⟨zkX6_wholeIn_ok, Or.inr ⟨by decide +kernel, by decide +kernel, by decide +kernel, by decide +kernel, by decide +kernel, by decide +kernel, by decide +kernel, by decide +kernel, by decide +kernel⟩⟩
set_option maxRecDepth 100000 in
theorem zg135 : zzG zm135 := ⟨zkX6_isSplit_ok, Or.inr ⟨by decide +kernel, by decide +kernel, by decide +kernel, by decide +kernel, by decide +kernel, by decide +kernel, by decide +kernel, by decide +kernel, by decide +kernel⟩⟩
set_option maxRecDepth 100000 in
theorem zg136 : zzG zm136 := ⟨zkX6_looksAt_ok, Or.inr ⟨by decide +kernel, by decide +kernel, by decide +kernel, by decide +kernel, by decide +kernel, by decide +kernel, by decide +kernel, by decide +kernel, by decide +kernel⟩⟩
set_option maxRecDepth 100000 in
theorem zg137 : zzG zm137 := ⟨zkX6_pathOf_ok, Or.inr ⟨by decide +kernel, by decide +kernel, by decide +kernel, by decide +kernel, by decide +kernel, by decide +kernel, by decide +kernel, by decide +kernel, by decide +kernel⟩⟩
set_option maxRecDepth 100000 in
theorem zg138 : zzG zm138 := ⟨zkX6_depthOf_ok, Or.inr ⟨by decide +kernel, by decide +kernel, by decide +kernel, by decide +kernel, by decide +kernel, by decide +kernel, by decide +kernel, by decide +kernel, by decide +kernel⟩⟩
set_option maxRecDepth 100000 in
theorem zg139 : zzG zm139 := ⟨zkX6_squares_ok, Or.inr ⟨by decide +kernel, by decide +kernel, by decide +kernel, by decide +kernel, by decide +kernel, by decide +kernel, by decide +kernel, by decide +kernel, by decide +kernel⟩⟩
set_option maxRecDepth 100000 in
theorem zg140 : zzG zm140 := ⟨zkX6_squaresOfAll_ok, Or.inr ⟨by decide +kernel, by decide +kernel, by decide +kernel, by decide +kernel, by decide +kernel, by decide +kernel, by decide +kernel, by decide +kernel, by decide +kernel⟩⟩
set_option maxRecDepth 100000 in
theorem zg141 : zzG zm141 := ⟨zkX6_square_ok, Or.inr ⟨by decide +kernel, by decide +kernel, by decide +kernel, by decide +kernel, by decide +kernel, by decide +kernel, by decide +kernel, by decide +kernel, by decide +kernel⟩⟩
set_option maxRecDepth 100000 in
theorem zg142 : zzG zm142 := ⟨zkX6_covers_ok, Or.inr ⟨by decide +kernel, by decide +kernel, by decide +kernel, by decide +kernel, by decide +kernel, by decide +kernel, by decide +kernel, by decide +kernel, by decide +kernel⟩⟩
set_option maxRecDepth 100000 in
theorem zg143 : zzG zm143 := ⟨zkX6_touches_ok, Or.inr ⟨by decide +kernel, by decide +kernel, by decide +kernel, by decide +kernel, by decide +kernel, by decide +kernel, by decide +kernel, by decide +kernel, by decide +kernel⟩⟩
set_option maxRecDepth 100000 in
theorem zg144 : zzG zm144 := ⟨zkX6_cellsOf_ok, Or.inr ⟨by decide +kernel, by decide +kernel, by decide +kernel, by decide +kernel, by decide +kernel, by decide +kernel, by decide +kernel, by decide +kernel, by decide +kernel⟩⟩
set_option maxRecDepth 100000 in
theorem zg145 : zzG zm145 := ⟨zkX6_cell_ok, Or.inr ⟨by decide +kernel, by decide +kernel, by decide +kernel, by decide +kernel, by decide +kernel, by decide +kernel, by decide +kernel, by decide +kernel, by decide +kernel⟩⟩
set_option maxRecDepth 100000 in
theorem zg146 : zzG zm146 := ⟨zkX6_isPair_ok, Or.inr ⟨by decide +kernel, by decide +kernel, by decide +kernel, by decide +kernel, by decide +kernel, by decide +kernel, by decide +kernel, by decide +kernel, by decide +kernel⟩⟩
set_option maxRecDepth 100000 in
theorem zg147 : zzG zm147 := ⟨zkX6_meet_ok, Or.inr ⟨by decide +kernel, by decide +kernel, by decide +kernel, by decide +kernel, by decide +kernel, by decide +kernel, by decide +kernel, by decide +kernel, by decide +kernel⟩⟩
set_option maxRecDepth 100000 in
theorem zg148 : zzG zm148 := ⟨zkX6_pairs_ok, Or.inr ⟨by decide +kernel, by decide +kernel, by decide +kernel, by decide +kernel, by decide +kernel, by decide +kernel, by decide +kernel, by decide +kernel, by decide +kernel⟩⟩
set_option maxRecDepth 100000 in
theorem zg149 : zzG zm149 := ⟨zkX6_cellsTouched_ok, Or.inr ⟨by decide +kernel, by decide +kernel, by decide +kernel, by decide +kernel, by decide +kernel, by decide +kernel, by decide +kernel, by decide +kernel, by decide +kernel⟩⟩
set_option maxRecDepth 100000 in
theorem zg150 : zzG zm150 := ⟨zkX6_told_ok, Or.inr ⟨by decide +kernel, by decide +kernel, by decide +kernel, by decide +kernel, by decide +kernel, by decide +kernel, by decide +kernel, by decide +kernel, by decide +kernel⟩⟩
set_option maxRecDepth 100000 in
theorem zg151 : zzG zm151 := ⟨zkX6_of_ok, Or.inr ⟨by decide +kernel, by decide +kernel, by decide +kernel, by decide +kernel, by decide +kernel, by decide +kernel, by decide +kernel, by decide +kernel, by decide +kernel⟩⟩
set_option maxRecDepth 100000 in
theorem zg152 : zzG zm152 := ⟨zkX6_away_ok, Or.inr ⟨by decide +kernel, by decide +kernel, by decide +kernel, by decide +kernel, by decide +kernel, by decide +kernel, by decide +kernel, by decide +kernel, by decide +kernel⟩⟩
set_option maxRecDepth 100000 in
theorem zg153 : zzG zm153 := ⟨zkX6_farOf_ok, Or.inr ⟨by decide +kernel, by decide +kernel, by decide +kernel, by decide +kernel, by decide +kernel, by decide +kernel, by decide +kernel, by decide +kernel, by decide +kernel⟩⟩
set_option maxRecDepth 100000 in
theorem zg154 : zzG zm154 := ⟨zkX6_far_ok, Or.inr ⟨by decide +kernel, by decide +kernel, by decide +kernel, by decide +kernel, by decide +kernel, by decide +kernel, by decide +kernel, by decide +kernel, by decide +kernel⟩⟩
set_option maxRecDepth 100000 in
theorem zg155 : zzG zm155 := ⟨zkX6_passes_ok, Or.inr ⟨by decide +kernel, by decide +kernel, by decide +kernel, by decide +kernel, by decide +kernel, by decide +kernel, by decide +kernel, by decide +kernel, by decide +kernel⟩⟩
set_option maxRecDepth 100000 in
theorem zg156 : zzG zm156 := ⟨zkX6_nearestOf_ok, Or.inr ⟨by decide +kernel, by decide +kernel, by decide +kernel, by decide +kernel, by decide +kernel, by decide +kernel, by decide +kernel, by decide +kernel, by decide +kernel⟩⟩
set_option maxRecDepth 100000 in
theorem zg157 : zzG zm157 := ⟨zkX6_nearest_ok, Or.inr ⟨by decide +kernel, by decide +kernel, by decide +kernel, by decide +kernel, by decide +kernel, by decide +kernel, by decide +kernel, by decide +kernel, by decide +kernel⟩⟩
set_option maxRecDepth 100000 in
theorem zg158 : zzG zm158 := ⟨zkX6_window_ok, Or.inr ⟨by decide +kernel, by decide +kernel, by decide +kernel, by decide +kernel, by decide +kernel, by decide +kernel, by decide +kernel, by decide +kernel, by decide +kernel⟩⟩
set_option maxRecDepth 100000 in
theorem zg159 : zzG zm159 := ⟨zkX6_pair_ok, Or.inr ⟨by decide +kernel, by decide +kernel, by decide +kernel, by decide +kernel, by decide +kernel, by decide +kernel, by decide +kernel, by decide +kernel, by decide +kernel⟩⟩
set_option maxRecDepth 100000 in
theorem zg160 : zzG zm160 := ⟨zkX6_axis_ok, Or.inr ⟨by decide +kernel, by decide +kernel, by decide +kernel, by decide +kernel, by decide +kernel, by decide +kernel, by decide +kernel, by decide +kernel, by decide +kernel⟩⟩
set_option maxRecDepth 100000 in
theorem zg161 : zzG zm161 := ⟨zkX6_steps_ok, Or.inr ⟨by decide +kernel, by decide +kernel, by decide +kernel, by decide +kernel, by decide +kernel, by decide +kernel, by decide +kernel, by decide +kernel, by decide +kernel⟩⟩
set_option maxRecDepth 100000 in
theorem zg162 : zzG zm162 := ⟨zkX6_pass_ok, Or.inr ⟨by decide +kernel, by decide +kernel, by decide +kernel, by decide +kernel, by decide +kernel, by decide +kernel, by decide +kernel, by decide +kernel, by decide +kernel⟩⟩
set_option maxRecDepth 100000 in
theorem zg163 : zzG zm163 := ⟨zkX6_onTold_ok, Or.inr ⟨by decide +kernel, by decide +kernel, by decide +kernel, by decide +kernel, by decide +kernel, by decide +kernel, by decide +kernel, by decide +kernel, by decide +kernel⟩⟩
set_option maxRecDepth 100000 in
theorem zg164 : zzG zm164 := ⟨zkX6_on_ok, Or.inr ⟨by decide +kernel, by decide +kernel, by decide +kernel, by decide +kernel, by decide +kernel, by decide +kernel, by decide +kernel, by decide +kernel, by decide +kernel⟩⟩
set_option maxRecDepth 100000 in
theorem zg165 : zzG zm165 := ⟨zkX6_first_ok, Or.inr ⟨by decide +kernel, by decide +kernel, by decide +kernel, by decide +kernel, by decide +kernel, by decide +kernel, by decide +kernel, by decide +kernel, by decide +kernel⟩⟩
set_option maxRecDepth 100000 in
theorem zg166 : zzG zm166 := ⟨zkX6_see_ok, Or.inr ⟨by decide +kernel, by decide +kernel, by decide +kernel, by decide +kernel, by decide +kernel, by decide +kernel, by decide +kernel, by decide +kernel, by decide +kernel⟩⟩
set_option maxRecDepth 100000 in
theorem zg167 : zzG zm167 := ⟨zkX6_isSeen_ok, Or.inr ⟨by decide +kernel, by decide +kernel, by decide +kernel, by decide +kernel, by decide +kernel, by decide +kernel, by decide +kernel, by decide +kernel, by decide +kernel⟩⟩
set_option maxRecDepth 100000 in
theorem zg168 : zzG zm168 := ⟨zkX6_speeds_ok, Or.inr ⟨by decide +kernel, by decide +kernel, by decide +kernel, by decide +kernel, by decide +kernel, by decide +kernel, by decide +kernel, by decide +kernel, by decide +kernel⟩⟩
set_option maxRecDepth 100000 in
theorem zg169 : zzG zm169 := ⟨zkX6_common_ok, Or.inr ⟨by decide +kernel, by decide +kernel, by decide +kernel, by decide +kernel, by decide +kernel, by decide +kernel, by decide +kernel, by decide +kernel, by decide +kernel⟩⟩
set_option maxRecDepth 100000 in
theorem zg170 : zzG zm170 := ⟨zkX6_part_ok, Or.inr ⟨by decide +kernel, by decide +kernel, by decide +kernel, by decide +kernel, by decide +kernel, by decide +kernel, by decide +kernel, by decide +kernel, by decide +kernel⟩⟩
set_option maxRecDepth 100000 in
theorem zg171 : zzG zm171 := ⟨zkX6_odds_ok, Or.inr ⟨by decide +kernel, by decide +kernel, by decide +kernel, by decide +kernel, by decide +kernel, by decide +kernel, by decide +kernel, by decide +kernel, by decide +kernel⟩⟩
set_option maxRecDepth 100000 in
theorem zg172 : zzG zm172 := ⟨zkX6_mean_ok, Or.inr ⟨by decide +kernel, by decide +kernel, by decide +kernel, by decide +kernel, by decide +kernel, by decide +kernel, by decide +kernel, by decide +kernel, by decide +kernel⟩⟩
set_option maxRecDepth 100000 in
theorem zg173 : zzG zm173 := ⟨zkX6_plan_ok, Or.inr ⟨by decide +kernel, by decide +kernel, by decide +kernel, by decide +kernel, by decide +kernel, by decide +kernel, by decide +kernel, by decide +kernel, by decide +kernel⟩⟩
set_option maxRecDepth 100000 in
theorem zg174 : zzG zm174 := ⟨zkX6_does_ok, Or.inr ⟨by decide +kernel, by decide +kernel, by decide +kernel, by decide +kernel, by decide +kernel, by decide +kernel, by decide +kernel, by decide +kernel, by decide +kernel⟩⟩
set_option maxRecDepth 100000 in
theorem zg175 : zzG zm175 := ⟨zkX6_ends_ok, Or.inr ⟨by decide +kernel, by decide +kernel, by decide +kernel, by decide +kernel, by decide +kernel, by decide +kernel, by decide +kernel, by decide +kernel, by decide +kernel⟩⟩
set_option maxRecDepth 100000 in
theorem zg176 : zzG zm176 := ⟨zkX6_book_ok, Or.inr ⟨by decide +kernel, by decide +kernel, by decide +kernel, by decide +kernel, by decide +kernel, by decide +kernel, by decide +kernel, by decide +kernel, by decide +kernel⟩⟩
set_option maxRecDepth 100000 in
theorem zg177 : zzG zm177 := ⟨zkX6_looked_ok, Or.inr ⟨by decide +kernel, by decide +kernel, by decide +kernel, by decide +kernel, by decide +kernel, by decide +kernel, by decide +kernel, by decide +kernel, by decide +kernel⟩⟩
set_option maxRecDepth 100000 in
theorem zg178 : zzG zm178 := ⟨zkX6_isTape_ok, Or.inr ⟨by decide +kernel, by decide +kernel, by decide +kernel, by decide +kernel, by decide +kernel, by decide +kernel, by decide +kernel, by decide +kernel, by decide +kernel⟩⟩
set_option maxRecDepth 100000 in
theorem zg179 : zzG zm179 := ⟨zkX6_judge_ok, Or.inr ⟨by decide +kernel, by decide +kernel, by decide +kernel, by decide +kernel, by decide +kernel, by decide +kernel, by decide +kernel, by decide +kernel, by decide +kernel⟩⟩
set_option maxRecDepth 100000 in
theorem zg180 : zzG zm180 := ⟨zkX6_image_ok, Or.inr ⟨by decide +kernel, by decide +kernel, by decide +kernel, by decide +kernel, by decide +kernel, by decide +kernel, by decide +kernel, by decide +kernel, by decide +kernel⟩⟩
set_option maxRecDepth 100000 in
theorem zg181 : zzG zm181 := ⟨zkX6_undo_ok, Or.inr ⟨by decide +kernel, by decide +kernel, by decide +kernel, by decide +kernel, by decide +kernel, by decide +kernel, by decide +kernel, by decide +kernel, by decide +kernel⟩⟩
set_option maxRecDepth 100000 in
theorem zg182 : zzG zm182 := ⟨zkX6_taken_ok, Or.inr ⟨by decide +kernel, by decide +kernel, by decide +kernel, by decide +kernel, by decide +kernel, by decide +kernel, by decide +kernel, by decide +kernel, by decide +kernel⟩⟩
set_option maxRecDepth 100000 in
theorem zg183 : zzG zm183 := ⟨zkX6_count_ok, Or.inr ⟨by decide +kernel, by decide +kernel, by decide +kernel, by decide +kernel, by decide +kernel, by decide +kernel, by decide +kernel, by decide +kernel, by decide +kernel⟩⟩
set_option maxRecDepth 100000 in
theorem zg184 : zzG zm184 := ⟨zkX6_tape_ok, Or.inr ⟨by decide +kernel, by decide +kernel, by decide +kernel, by decide +kernel, by decide +kernel, by decide +kernel, by decide +kernel, by decide +kernel, by decide +kernel⟩⟩
set_option maxRecDepth 100000 in
theorem zg185 : zzG zm185 := ⟨zkX6_fit_ok, Or.inr ⟨by decide +kernel, by decide +kernel, by decide +kernel, by decide +kernel, by decide +kernel, by decide +kernel, by decide +kernel, by decide +kernel, by decide +kernel⟩⟩
set_option maxRecDepth 100000 in
theorem zg186 : zzG zm186 := ⟨zkX6_item_ok, Or.inr ⟨by decide +kernel, by decide +kernel, by decide +kernel, by decide +kernel, by decide +kernel, by decide +kernel, by decide +kernel, by decide +kernel, by decide +kernel⟩⟩
set_option maxRecDepth 100000 in
theorem zg187 : zzG zm187 := ⟨zkX6_read_ok, Or.inr ⟨by decide +kernel, by decide +kernel, by decide +kernel, by decide +kernel, by decide +kernel, by decide +kernel, by decide +kernel, by decide +kernel, by decide +kernel⟩⟩
set_option maxRecDepth 100000 in
theorem zg188 : zzG zm188 := ⟨zkX6_shift_ok, Or.inr ⟨by decide +kernel, by decide +kernel, by decide +kernel, by decide +kernel, by decide +kernel, by decide +kernel, by decide +kernel, by decide +kernel, by decide +kernel⟩⟩
set_option maxRecDepth 100000 in
theorem zg189 : zzG zm189 := ⟨zkJ9_floorMod_7cf53_ok, Or.inr ⟨by decide +kernel, by decide +kernel, by decide +kernel, by decide +kernel, by decide +kernel, by decide +kernel, by decide +kernel, by decide +kernel, by decide +kernel⟩⟩
set_option maxRecDepth 100000 in
theorem zg190 : zzG zm190 := ⟨zkJ9_max_7cf53_ok, Or.inr ⟨by decide +kernel, by decide +kernel, by decide +kernel, by decide +kernel, by decide +kernel, by decide +kernel, by decide +kernel, by decide +kernel, by decide +kernel⟩⟩
set_option maxRecDepth 100000 in
theorem zg191 : zzG zm191 := ⟨zkJ9_min_7cf53_ok, Or.inr ⟨by decide +kernel, by decide +kernel, by decide +kernel, by decide +kernel, by decide +kernel, by decide +kernel, by decide +kernel, by decide +kernel, by decide +kernel⟩⟩
set_option maxRecDepth 100000 in
theorem zg192 : zzG zm192 := ⟨zkJ7_fill_d0a16_ok, Or.inr ⟨by decide +kernel, by decide +kernel, by decide +kernel, by decide +kernel, by decide +kernel, by decide +kernel, by decide +kernel, by decide +kernel, by decide +kernel⟩⟩
set_option maxRecDepth 100000 in
theorem zg193 : zzG zm193 := ⟨zkJ7_fill_53178_ok, Or.inr ⟨by decide +kernel, by decide +kernel, by decide +kernel, by decide +kernel, by decide +kernel, by decide +kernel, by decide +kernel, by decide +kernel, by decide +kernel⟩⟩
theorem zg194 : zzG zm194 := ⟨zkL_law_ok, Or.inl rfl⟩
theorem zzM0_ok : ∀ q ∈ zzM0, zzG q := List.forall_mem_cons.mpr ⟨zg0, List.forall_mem_cons.mpr ⟨zg1, List.forall_mem_cons.mpr ⟨zg2, List.forall_mem_cons.mpr ⟨zg3, List.forall_mem_cons.mpr ⟨zg4, List.forall_mem_cons.mpr ⟨zg5, List.forall_mem_cons.mpr ⟨zg6, List.forall_mem_cons.mpr ⟨zg7, List.forall_mem_cons.mpr ⟨zg8, List.forall_mem_cons.mpr ⟨zg9, List.forall_mem_cons.mpr ⟨zg10, List.forall_mem_cons.mpr ⟨zg11, List.forall_mem_cons.mpr ⟨zg12, List.forall_mem_cons.mpr ⟨zg13, List.forall_mem_cons.mpr ⟨zg14, List.forall_mem_cons.mpr ⟨zg15, List.forall_mem_cons.mpr ⟨zg16, List.forall_mem_cons.mpr ⟨zg17, List.forall_mem_cons.mpr ⟨zg18, List.forall_mem_cons.mpr ⟨zg19, List.forall_mem_cons.mpr ⟨zg20, List.forall_mem_cons.mpr ⟨zg21, List.forall_mem_cons.mpr ⟨zg22, List.forall_mem_cons.mpr ⟨zg23, List.forall_mem_cons.mpr ⟨zg24, List.forall_mem_cons.mpr ⟨zg25, List.forall_mem_cons.mpr ⟨zg26, List.forall_mem_cons.mpr ⟨zg27, List.forall_mem_cons.mpr ⟨zg28, List.forall_mem_cons.mpr ⟨zg29, List.forall_mem_cons.mpr ⟨zg30, List.forall_mem_cons.mpr ⟨zg31, List.forall_mem_cons.mpr ⟨zg32, List.forall_mem_cons.mpr ⟨zg33, List.forall_mem_cons.mpr ⟨zg34, List.forall_mem_cons.mpr ⟨zg35, List.forall_mem_cons.mpr ⟨zg36, List.forall_mem_cons.mpr ⟨zg37, List.forall_mem_cons.mpr ⟨zg38, List.forall_mem_cons.mpr ⟨zg39, fun _ h => absurd h List.not_mem_nil⟩⟩⟩⟩⟩⟩⟩⟩⟩⟩⟩⟩⟩⟩⟩⟩⟩⟩⟩⟩⟩⟩⟩⟩⟩⟩⟩⟩⟩⟩⟩⟩⟩⟩⟩⟩⟩⟩⟩⟩
theorem zzM1_ok : ∀ q ∈ zzM1, zzG q := List.forall_mem_cons.mpr ⟨zg40, List.forall_mem_cons.mpr ⟨zg41, List.forall_mem_cons.mpr ⟨zg42, List.forall_mem_cons.mpr ⟨zg43, List.forall_mem_cons.mpr ⟨zg44, List.forall_mem_cons.mpr ⟨zg45, List.forall_mem_cons.mpr ⟨zg46, List.forall_mem_cons.mpr ⟨zg47, List.forall_mem_cons.mpr ⟨zg48, List.forall_mem_cons.mpr ⟨zg49, List.forall_mem_cons.mpr ⟨zg50, List.forall_mem_cons.mpr ⟨zg51, List.forall_mem_cons.mpr ⟨zg52, List.forall_mem_cons.mpr ⟨zg53, List.forall_mem_cons.mpr ⟨zg54, List.forall_mem_cons.mpr ⟨zg55, List.forall_mem_cons.mpr ⟨zg56, List.forall_mem_cons.mpr ⟨zg57, List.forall_mem_cons.mpr ⟨zg58, List.forall_mem_cons.mpr ⟨zg59, List.forall_mem_cons.mpr ⟨zg60, List.forall_mem_cons.mpr ⟨zg61, List.forall_mem_cons.mpr ⟨zg62, List.forall_mem_cons.mpr ⟨zg63, List.forall_mem_cons.mpr ⟨zg64, List.forall_mem_cons.mpr ⟨zg65, List.forall_mem_cons.mpr ⟨zg66, List.forall_mem_cons.mpr ⟨zg67, List.forall_mem_cons.mpr ⟨zg68, List.forall_mem_cons.mpr ⟨zg69, List.forall_mem_cons.mpr ⟨zg70, List.forall_mem_cons.mpr ⟨zg71, List.forall_mem_cons.mpr ⟨zg72, List.forall_mem_cons.mpr ⟨zg73, List.forall_mem_cons.mpr ⟨zg74, List.forall_mem_cons.mpr ⟨zg75, List.forall_mem_cons.mpr ⟨zg76, List.forall_mem_cons.mpr ⟨zg77, List.forall_mem_cons.mpr ⟨zg78, List.forall_mem_cons.mpr ⟨zg79, fun _ h => absurd h List.not_mem_nil⟩⟩⟩⟩⟩⟩⟩⟩⟩⟩⟩⟩⟩⟩⟩⟩⟩⟩⟩⟩⟩⟩⟩⟩⟩⟩⟩⟩⟩⟩⟩⟩⟩⟩⟩⟩⟩⟩⟩⟩
theorem zzM2_ok : ∀ q ∈ zzM2, zzG q := List.forall_mem_cons.mpr ⟨zg80, List.forall_mem_cons.mpr ⟨zg81, List.forall_mem_cons.mpr ⟨zg82, List.forall_mem_cons.mpr ⟨zg83, List.forall_mem_cons.mpr ⟨zg84, List.forall_mem_cons.mpr ⟨zg85, List.forall_mem_cons.mpr ⟨zg86, List.forall_mem_cons.mpr ⟨zg87, List.forall_mem_cons.mpr ⟨zg88, List.forall_mem_cons.mpr ⟨zg89, List.forall_mem_cons.mpr ⟨zg90, List.forall_mem_cons.mpr ⟨zg91, List.forall_mem_cons.mpr ⟨zg92, List.forall_mem_cons.mpr ⟨zg93, List.forall_mem_cons.mpr ⟨zg94, List.forall_mem_cons.mpr ⟨zg95, List.forall_mem_cons.mpr ⟨zg96, List.forall_mem_cons.mpr ⟨zg97, List.forall_mem_cons.mpr ⟨zg98, List.forall_mem_cons.mpr ⟨zg99, List.forall_mem_cons.mpr ⟨zg100, List.forall_mem_cons.mpr ⟨zg101, List.forall_mem_cons.mpr ⟨zg102, List.forall_mem_cons.mpr ⟨zg103, List.forall_mem_cons.mpr ⟨zg104, List.forall_mem_cons.mpr ⟨zg105, List.forall_mem_cons.mpr ⟨zg106, List.forall_mem_cons.mpr ⟨zg107, List.forall_mem_cons.mpr ⟨zg108, List.forall_mem_cons.mpr ⟨zg109, List.forall_mem_cons.mpr ⟨zg110, List.forall_mem_cons.mpr ⟨zg111, List.forall_mem_cons.mpr ⟨zg112, List.forall_mem_cons.mpr ⟨zg113, List.forall_mem_cons.mpr ⟨zg114, List.forall_mem_cons.mpr ⟨zg115, List.forall_mem_cons.mpr ⟨zg116, List.forall_mem_cons.mpr ⟨zg117, List.forall_mem_cons.mpr ⟨zg118, List.forall_mem_cons.mpr ⟨zg119, fun _ h => absurd h List.not_mem_nil⟩⟩⟩⟩⟩⟩⟩⟩⟩⟩⟩⟩⟩⟩⟩⟩⟩⟩⟩⟩⟩⟩⟩⟩⟩⟩⟩⟩⟩⟩⟩⟩⟩⟩⟩⟩⟩⟩⟩⟩
theorem zzM3_ok : ∀ q ∈ zzM3, zzG q := List.forall_mem_cons.mpr ⟨zg120, List.forall_mem_cons.mpr ⟨zg121, List.forall_mem_cons.mpr ⟨zg122, List.forall_mem_cons.mpr ⟨zg123, List.forall_mem_cons.mpr ⟨zg124, List.forall_mem_cons.mpr ⟨zg125, List.forall_mem_cons.mpr ⟨zg126, List.forall_mem_cons.mpr ⟨zg127, List.forall_mem_cons.mpr ⟨zg128, List.forall_mem_cons.mpr ⟨zg129, List.forall_mem_cons.mpr ⟨zg130, List.forall_mem_cons.mpr ⟨zg131, List.forall_mem_cons.mpr ⟨zg132, List.forall_mem_cons.mpr ⟨zg133, List.forall_mem_cons.mpr ⟨zg134, List.forall_mem_cons.mpr ⟨zg135, List.forall_mem_cons.mpr ⟨zg136, List.forall_mem_cons.mpr ⟨zg137, List.forall_mem_cons.mpr ⟨zg138, List.forall_mem_cons.mpr ⟨zg139, List.forall_mem_cons.mpr ⟨zg140, List.forall_mem_cons.mpr ⟨zg141, List.forall_mem_cons.mpr ⟨zg142, List.forall_mem_cons.mpr ⟨zg143, List.forall_mem_cons.mpr ⟨zg144, List.forall_mem_cons.mpr ⟨zg145, List.forall_mem_cons.mpr ⟨zg146, List.forall_mem_cons.mpr ⟨zg147, List.forall_mem_cons.mpr ⟨zg148, List.forall_mem_cons.mpr ⟨zg149, List.forall_mem_cons.mpr ⟨zg150, List.forall_mem_cons.mpr ⟨zg151, List.forall_mem_cons.mpr ⟨zg152, List.forall_mem_cons.mpr ⟨zg153, List.forall_mem_cons.mpr ⟨zg154, List.forall_mem_cons.mpr ⟨zg155, List.forall_mem_cons.mpr ⟨zg156, List.forall_mem_cons.mpr ⟨zg157, List.forall_mem_cons.mpr ⟨zg158, List.forall_mem_cons.mpr ⟨zg159, fun _ h => absurd h List.not_mem_nil⟩⟩⟩⟩⟩⟩⟩⟩⟩⟩⟩⟩⟩⟩⟩⟩⟩⟩⟩⟩⟩⟩⟩⟩⟩⟩⟩⟩⟩⟩⟩⟩⟩⟩⟩⟩⟩⟩⟩⟩
theorem zzM4_ok : ∀ q ∈ zzM4, zzG q := List.forall_mem_cons.mpr ⟨zg160, List.forall_mem_cons.mpr ⟨zg161, List.forall_mem_cons.mpr ⟨zg162, List.forall_mem_cons.mpr ⟨zg163, List.forall_mem_cons.mpr ⟨zg164, List.forall_mem_cons.mpr ⟨zg165, List.forall_mem_cons.mpr ⟨zg166, List.forall_mem_cons.mpr ⟨zg167, List.forall_mem_cons.mpr ⟨zg168, List.forall_mem_cons.mpr ⟨zg169, List.forall_mem_cons.mpr ⟨zg170, List.forall_mem_cons.mpr ⟨zg171, List.forall_mem_cons.mpr ⟨zg172, List.forall_mem_cons.mpr ⟨zg173, List.forall_mem_cons.mpr ⟨zg174, List.forall_mem_cons.mpr ⟨zg175, List.forall_mem_cons.mpr ⟨zg176, List.forall_mem_cons.mpr ⟨zg177, List.forall_mem_cons.mpr ⟨zg178, List.forall_mem_cons.mpr ⟨zg179, List.forall_mem_cons.mpr ⟨zg180, List.forall_mem_cons.mpr ⟨zg181, List.forall_mem_cons.mpr ⟨zg182, List.forall_mem_cons.mpr ⟨zg183, List.forall_mem_cons.mpr ⟨zg184, List.forall_mem_cons.mpr ⟨zg185, List.forall_mem_cons.mpr ⟨zg186, List.forall_mem_cons.mpr ⟨zg187, List.forall_mem_cons.mpr ⟨zg188, List.forall_mem_cons.mpr ⟨zg189, List.forall_mem_cons.mpr ⟨zg190, List.forall_mem_cons.mpr ⟨zg191, List.forall_mem_cons.mpr ⟨zg192, List.forall_mem_cons.mpr ⟨zg193, List.forall_mem_cons.mpr ⟨zg194, fun _ h => absurd h List.not_mem_nil⟩⟩⟩⟩⟩⟩⟩⟩⟩⟩⟩⟩⟩⟩⟩⟩⟩⟩⟩⟩⟩⟩⟩⟩⟩⟩⟩⟩⟩⟩⟩⟩⟩⟩⟩
theorem zzM_ok : ∀ q ∈ zzM, zzG q := List.forall_mem_append.mpr ⟨zzM0_ok, List.forall_mem_append.mpr ⟨zzM1_ok, List.forall_mem_append.mpr ⟨zzM2_ok, List.forall_mem_append.mpr ⟨zzM3_ok, zzM4_ok⟩⟩⟩⟩
/-- field links: (own class, entry), (class, field, place) -/
def zzF : List ((Nat × Nat) × Nat × Nat × Nat) := [((0, 9), 0, 0, 79), ((5, 68), 0, 0, 80), ((0, 15), 0, 1, 81), ((5, 128), 0, 1, 82), ((4, 135), 0, 1, 83), ((0, 18), 0, 2, 84), ((5, 83), 0, 2, 85), ((0, 21), 0, 3, 86), ((5, 86), 0, 3, 87), ((0, 24), 0, 4, 88), ((5, 77), 0, 4, 89), ((4, 66), 0, 4, 90), ((0, 27), 0, 5, 91), ((5, 80), 0, 5, 92), ((4, 69), 0, 5, 93), ((0, 30), 0, 6, 94), ((5, 71), 0, 6, 95), ((0, 33), 0, 7, 96), ((5, 74), 0, 7, 97), ((0, 36), 0, 8, 98), ((4, 62), 0, 8, 99), ((5, 89), 0, 8, 100), ((2, 15), 2, 0, 126), ((2, 9), 2, 1, 127), ((2, 19), 2, 2, 128), ((5, 237), 2, 2, 129), ((4, 11), 4, 0, 138), ((5, 243), 4, 0, 139), ((4, 18), 4, 1, 140), ((4, 27), 4, 2, 141), ((5, 223), 4, 2, 142), ((4, 31), 4, 3, 143), ((5, 257), 4, 3, 144), ((4, 34), 4, 4, 145), ((5, 264), 4, 4, 146), ((4, 37), 4, 5, 147), ((5, 60), 4, 5, 148), ((4, 41), 4, 6, 149), ((5, 171), 4, 6, 150), ((4, 44), 4, 7, 151), ((5, 96), 4, 7, 152), ((1, 9), 1, 0, 178), ((1, 17), 1, 1, 179), ((5, 112), 1, 1, 180), ((1, 20), 1, 2, 181), ((5, 103), 1, 2, 182), ((1, 24), 1, 3, 183), ((5, 109), 1, 3, 184), ((1, 27), 1, 4, 185), ((1, 30), 1, 5, 186), ((3, 9), 3, 0, 208), ((5, 276), 3, 0, 209), ((3, 15), 3, 1, 210), ((5, 272), 3, 1, 211), ((3, 19), 3, 2, 212), ((5, 275), 3, 2, 213), ((5, 12), 5, 0, 222), ((5, 18), 5, 1, 223), ((5, 21), 5, 2, 224), ((5, 24), 5, 3, 225), ((5, 31), 5, 4, 226), ((5, 37), 5, 5, 227), ((6, 11), 6, 0, 694), ((6, 15), 6, 1, 695), ((6, 18), 6, 2, 696), ((6, 217), 6, 3, 697), ((6, 21), 6, 4, 698), ((6, 73), 6, 5, 699), ((6, 24), 6, 6, 700), ((6, 27), 6, 7, 701), ((6, 32), 6, 8, 702), ((6, 35), 6, 9, 703), ((6, 80), 6, 10, 704), ((6, 77), 6, 11, 705), ((6, 39), 6, 12, 706), ((6, 110), 6, 13, 707), ((6, 113), 6, 14, 708), ((6, 116), 6, 15, 709), ((6, 122), 6, 16, 710), ((6, 42), 6, 17, 711)]
/-- class links of new and anewarray: (own class, entry), (class, place of the link, place of instantiable, place of initialized) -/
def zzC : List ((Nat × Nat) × Nat × Nat × Nat × Nat) := [((7, 7), 5, 58, 59, 48), ((5, 9), 4, 66, 67, 49), ((4, 9), 0, 72, 74, 50), ((4, 22), 2, 120, 121, 51), ((5, 28), 1, 170, 171, 52), ((5, 35), 3, 201, 203, 53), ((7, 10), 6, 686, 687, 54)]
/-- class links of arrays of arrays: (own, entry), (kind of the inner: 7 ints, 8 longs; place) -/
def zzC2 : List ((Nat × Nat) × Nat × Nat) := [((1, 15), 7, 176), ((6, 30), 8, 692)]
/-- method links: (own class, entry), (kind: 0 virtual, 1 static, 2 constructor, 3 static of a nest mate, 4 constructor of a nest mate, 5 of Object, 6 arraycopy; method; place) -/
def zzL : List ((Nat × Nat) × Nat × Nat × Nat) := [((7, 9), 2, 61, 60), ((5, 3), 5, 0, 63), ((5, 11), 2, 34, 68), ((4, 3), 5, 0, 71), ((4, 17), 4, 0, 75), ((0, 3), 5, 0, 78), ((4, 24), 2, 26, 122), ((2, 3), 5, 0, 125), ((5, 30), 2, 15, 172), ((1, 3), 5, 0, 175), ((5, 41), 2, 31, 204), ((3, 3), 5, 0, 207), ((7, 13), 0, 62, 241), ((5, 42), 1, 103, 245), ((5, 46), 1, 105, 248), ((5, 50), 0, 38, 251), ((5, 54), 0, 1, 255), ((7, 18), 0, 63, 259), ((5, 64), 0, 37, 263), ((4, 58), 3, 103, 267), ((7, 23), 0, 64, 268), ((7, 27), 0, 65, 272), ((5, 92), 0, 39, 276), ((7, 32), 0, 66, 280), ((7, 36), 0, 67, 284), ((5, 99), 0, 16, 288), ((7, 40), 0, 68, 292), ((5, 106), 0, 17, 296), ((1, 33), 0, 18, 300), ((1, 45), 0, 22, 304), ((1, 37), 0, 19, 308), ((1, 59), 1, 23, 312), ((1, 41), 0, 20, 315), ((1, 48), 0, 24, 319), ((1, 63), 3, 103, 323), ((1, 52), 0, 21, 324), ((1, 56), 0, 25, 328), ((5, 116), 0, 69, 332), ((5, 120), 0, 62, 336), ((5, 124), 0, 63, 337), ((7, 45), 0, 70, 338), ((5, 131), 0, 44, 342), ((4, 75), 0, 13, 346), ((4, 83), 0, 43, 350), ((4, 79), 0, 42, 354), ((4, 87), 0, 14, 358), ((5, 135), 1, 106, 362), ((5, 139), 0, 8, 365), ((5, 142), 0, 58, 369), ((4, 131), 0, 9, 373), ((0, 60), 0, 6, 377), ((7, 50), 0, 71, 381), ((5, 145), 0, 45, 385), ((4, 90), 3, 106, 389), ((4, 93), 3, 107, 390), ((5, 148), 1, 107, 393), ((5, 151), 0, 47, 394), ((4, 96), 1, 46, 398), ((5, 155), 0, 42, 401), ((5, 158), 0, 43, 402), ((5, 162), 0, 48, 403), ((7, 54), 0, 72, 407), ((5, 165), 0, 52, 411), ((4, 109), 0, 7, 415), ((5, 168), 0, 53, 419), ((7, 58), 0, 73, 423), ((5, 174), 0, 50, 427), ((4, 106), 0, 49, 431), ((4, 100), 1, 193, 435), ((5, 177), 0, 51, 438), ((5, 180), 0, 59, 442), ((4, 138), 0, 58, 446), ((5, 183), 0, 54, 447), ((4, 112), 0, 53, 451), ((7, 62), 0, 74, 452), ((5, 184), 1, 104, 456), ((5, 187), 0, 10, 459), ((0, 64), 1, 11, 463), ((0, 57), 1, 190, 466), ((7, 66), 0, 75, 469), ((5, 190), 0, 55, 473), ((4, 116), 0, 56, 477), ((4, 120), 0, 10, 481), ((4, 123), 0, 12, 482), ((7, 71), 0, 76, 486), ((5, 196), 0, 57, 491), ((4, 127), 0, 6, 495), ((7, 76), 0, 77, 496), ((5, 200), 0, 60, 500), ((7, 80), 0, 78, 504), ((5, 203), 0, 41, 508), ((4, 72), 0, 4, 512), ((0, 44), 1, 189, 516), ((0, 50), 0, 5, 519), ((0, 54), 1, 191, 523), ((7, 84), 0, 79, 526), ((5, 206), 0, 35, 530), ((4, 47), 0, 2, 534), ((0, 40), 0, 1, 538), ((5, 210), 0, 80, 539), ((7, 88), 0, 81, 543), ((5, 214), 1, 82, 547), ((5, 218), 0, 9, 550), ((5, 222), 0, 4, 551), ((7, 92), 0, 83, 552), ((5, 227), 0, 27, 556), ((5, 232), 0, 28, 560), ((7, 96), 0, 84, 564), ((5, 234), 0, 85, 568), ((5, 240), 0, 29, 572), ((2, 22), 3, 103, 576), ((5, 246), 0, 2, 577), ((7, 100), 0, 86, 578), ((5, 250), 1, 108, 582), ((5, 299), 1, 109, 585), ((5, 302), 1, 190, 588), ((7, 105), 0, 87, 589), ((5, 254), 0, 40, 593), ((7, 110), 0, 88, 597), ((7, 114), 0, 89, 601), ((5, 260), 0, 90, 605), ((7, 118), 0, 91, 609), ((7, 122), 0, 92, 614), ((7, 126), 0, 93, 618), ((5, 268), 0, 102, 622), ((7, 130), 0, 94, 626), ((5, 280), 0, 36, 630), ((4, 51), 0, 35, 634), ((4, 55), 0, 30, 635), ((2, 26), 1, 191, 639), ((7, 134), 0, 95, 640), ((7, 138), 0, 96, 644), ((5, 283), 0, 3, 648), ((7, 142), 0, 97, 652), ((7, 146), 0, 98, 656), ((5, 286), 0, 32, 660), ((3, 22), 1, 192, 664), ((7, 152), 0, 99, 667), ((5, 289), 0, 33, 671), ((7, 157), 0, 100, 675), ((7, 161), 0, 101, 679), ((5, 293), 6, 0, 683), ((7, 12), 2, 110, 688), ((6, 5), 5, 0, 691), ((7, 17), 0, 120, 749), ((6, 65), 0, 119, 753), ((6, 45), 1, 111, 757), ((6, 57), 1, 117, 760), ((6, 61), 0, 114, 763), ((7, 22), 0, 121, 767), ((6, 53), 0, 115, 771), ((6, 49), 0, 113, 775), ((7, 26), 0, 122, 779), ((7, 31), 0, 123, 783), ((6, 69), 0, 118, 787), ((7, 35), 0, 124, 791), ((7, 39), 0, 125, 795), ((7, 44), 0, 132, 799), ((6, 100), 0, 131, 803), ((6, 90), 0, 129, 807), ((6, 83), 0, 126, 811), ((6, 87), 0, 127, 815), ((6, 93), 0, 128, 819), ((6, 97), 0, 130, 823), ((7, 53), 0, 141, 827), ((6, 130), 0, 136, 832), ((6, 119), 0, 135, 836), ((6, 107), 0, 134, 840), ((6, 104), 0, 133, 844), ((6, 133), 0, 137, 848), ((7, 57), 0, 145, 852), ((6, 141), 0, 143, 856), ((6, 137), 0, 142, 860), ((7, 61), 0, 150, 864), ((6, 153), 0, 140, 868), ((6, 125), 0, 139, 872), ((6, 156), 0, 148, 876), ((6, 147), 0, 147, 880), ((6, 144), 0, 146, 884), ((6, 159), 0, 149, 888), ((6, 150), 0, 145, 892), ((7, 49), 0, 151, 893), ((6, 162), 1, 138, 897), ((6, 165), 0, 144, 900), ((7, 65), 0, 154, 904), ((6, 171), 1, 116, 908), ((6, 174), 0, 153, 911), ((6, 168), 1, 152, 915), ((7, 70), 0, 157, 918), ((6, 180), 0, 156, 922), ((6, 177), 0, 155, 926), ((7, 75), 0, 158, 930), ((7, 79), 0, 159, 935), ((7, 83), 0, 162, 939), ((6, 189), 0, 161, 943), ((6, 185), 0, 160, 947), ((7, 87), 0, 164, 951), ((6, 192), 1, 112, 955), ((6, 196), 0, 163, 958), ((7, 91), 0, 165, 962), ((7, 95), 0, 166, 966), ((7, 99), 0, 168, 970), ((6, 199), 0, 167, 974), ((7, 104), 0, 171, 978), ((6, 206), 1, 170, 982), ((6, 203), 1, 169, 985), ((7, 109), 0, 172, 988), ((7, 113), 0, 173, 992), ((7, 117), 0, 175, 996), ((6, 210), 0, 174, 1000), ((7, 121), 0, 176, 1004), ((7, 125), 0, 177, 1008), ((7, 129), 0, 179, 1012), ((6, 214), 1, 178, 1016), ((7, 133), 0, 180, 1019), ((7, 137), 0, 181, 1023), ((7, 141), 0, 182, 1027), ((7, 145), 0, 183, 1031), ((7, 149), 0, 184, 1035), ((7, 156), 0, 186, 1039), ((6, 221), 1, 185, 1043), ((7, 160), 0, 187, 1046), ((7, 165), 0, 188, 1050)]
def zzI : List ((Nat × Nat) × Int × Nat) := [((5, 267), 99999, 613), ((6, 129), 99999, 831)]
def zzJ : List ((Nat × Nat) × Int × Nat) := [((5, 194), -9223372036854775808, 490), ((6, 183), -9223372036854775808, 934), ((7, 150), 4294967295, 1054)]
/-- a word at its place -/
def zzW (i : Nat) (w : Cond) : Prop := lw_tbl[i]? = some w
theorem zz_oi : lw_tbl[64]? = some (Cond.instanceMethod objectInit) := by decide +kernel
theorem zz_oc : lw_tbl[65]? = some (Cond.code objectInit ⟨#[0xb1]⟩ 1 none) := by decide +kernel
theorem zz_an : lw_tbl[685]? = some (Cond.native arraycopyName) := by decide +kernel
theorem zz_as : lw_tbl[684]? = some (Cond.static arraycopyName) := by decide +kernel
theorem zz_ai : lw_tbl[57]? = some (Cond.initialized "java/lang/System") := by decide +kernel
theorem zz_aci : lw_tbl[137]? = some (Cond.arrayClass Jvm.ClassFile.FieldType.int) := by decide +kernel
theorem zz_acj : lw_tbl[221]? = some (Cond.arrayClass Jvm.ClassFile.FieldType.long) := by decide +kernel
theorem zz_acb : lw_tbl[200]? = some (Cond.arrayClass Jvm.ClassFile.FieldType.byte) := by decide +kernel
theorem zz_aoB : lw_tbl[73]? = some (Cond.arrayOver (Jvm.ClassFile.FieldType.object "LooseGrid$Box")) := by decide +kernel
theorem zz_aoT : lw_tbl[202]? = some (Cond.arrayOver (Jvm.ClassFile.FieldType.object "LooseGrid$Tape")) := by decide +kernel
theorem zz_aoI : lw_tbl[177]? = some (Cond.arrayOver (Jvm.ClassFile.FieldType.array Jvm.ClassFile.FieldType.int)) := by decide +kernel
theorem zz_aoJ : lw_tbl[693]? = some (Cond.arrayOver (Jvm.ClassFile.FieldType.array Jvm.ClassFile.FieldType.long)) := by decide +kernel
set_option maxRecDepth 100000 in
theorem zzF_ok : ∀ e ∈ zzF, ∃ q, vwCl[e.2.1]? = some q ∧ e.2.2.1 < q.2.2 ∧ (q.2.1 e.2.2.1).1 = q.1 ∧ lw_tbl[e.2.2.2]? = some (Cond.fieldLink (zzR e.1.1) e.1.2 q.1 (q.2.1 e.2.2.1).2.1 (q.2.1 e.2.2.1).2.2.1) := by
  have h : ∀ e ∈ zzF, (vwCl[e.2.1]?).any (fun q => decide (e.2.2.1 < q.2.2 ∧ (q.2.1 e.2.2.1).1 = q.1 ∧ lw_tbl[e.2.2.2]? = some (Cond.fieldLink (zzR e.1.1) e.1.2 q.1 (q.2.1 e.2.2.1).2.1 (q.2.1 e.2.2.1).2.2.1))) = true := by decide +kernel
  intro e he
  obtain ⟨q, hq, h2⟩ := (Option.any_eq_true _ _).mp (h e he)
  exact ⟨q, hq, of_decide_eq_true h2⟩
set_option maxRecDepth 100000 in
theorem zzC_ok : ∀ e ∈ zzC, ∃ q, vwCl[e.2.1]? = some q ∧ lw_tbl[e.2.2.1]? = some (Cond.classLink (zzR e.1.1) e.1.2 q.1) ∧ lw_tbl[e.2.2.2.1]? = some (Cond.instantiable q.1 q.2.2) ∧ lw_tbl[e.2.2.2.2]? = some (Cond.initialized q.1) := by
  have h : ∀ e ∈ zzC, (vwCl[e.2.1]?).any (fun q => decide (lw_tbl[e.2.2.1]? = some (Cond.classLink (zzR e.1.1) e.1.2 q.1) ∧ lw_tbl[e.2.2.2.1]? = some (Cond.instantiable q.1 q.2.2) ∧ lw_tbl[e.2.2.2.2]? = some (Cond.initialized q.1))) = true := by decide +kernel
  intro e he
  obtain ⟨q, hq, h2⟩ := (Option.any_eq_true _ _).mp (h e he)
  exact ⟨q, hq, of_decide_eq_true h2⟩
def zzD (k : Nat) : String := if k = 7 then "[[I" else "[[J"
set_option maxRecDepth 100000 in
theorem zzC2_ok : ∀ e ∈ zzC2, (e.2.1 = 7 ∨ e.2.1 = 8) ∧ lw_tbl[e.2.2]? = some (Cond.classLink (zzR e.1.1) e.1.2 (zzD e.2.1)) := by decide +kernel
set_option maxRecDepth 100000 in
theorem zzL_ok : ∀ e ∈ zzL, if e.2.1 = 5 then lw_tbl[e.2.2.2]? = some (Cond.methodLink (zzR e.1.1) e.1.2 objectInit) else if e.2.1 = 6 then lw_tbl[e.2.2.2]? = some (Cond.methodLink (zzR e.1.1) e.1.2 arraycopyName) else (zzM[e.2.2.1]?).any (fun q => decide (¬ q.1.1 = yL_law) && (if e.2.1 = 0 then decide (lw_tbl[e.2.2.2]? = some (Cond.methodLink (zzR e.1.1) e.1.2 q.1.1) ∧ q.2.1.2.2.2.2.1 = false ∧ ¬ q.2.1.2.2.1 = 9999) else if e.2.1 = 1 then decide (lw_tbl[e.2.2.2]? = some (Cond.methodLink (zzR e.1.1) e.1.2 q.1.1) ∧ q.2.1.2.2.2.2.1 = true) else if e.2.1 = 2 then decide (lw_tbl[e.2.2.2]? = some (Cond.methodLink (zzR e.1.1) e.1.2 q.1.1) ∧ q.2.1.2.2.2.2.1 = false ∧ q.1.1.name = "<init>" ∧ q.1.2.2.2.1 = none) else if e.2.1 = 3 then decide (lw_tbl[e.2.2.2]? = some (Cond.methodLinkNest (zzR e.1.1) e.1.2 q.1.1 "LooseGrid") ∧ q.2.1.2.2.2.2.1 = true) else decide (lw_tbl[e.2.2.2]? = some (Cond.methodLinkNest (zzR e.1.1) e.1.2 q.1.1 "LooseGrid") ∧ q.2.1.2.2.2.2.1 = false ∧ q.1.1.name = "<init>" ∧ q.1.2.2.2.1 = none))) = true := by decide +kernel
set_option maxRecDepth 100000 in
theorem zzI_ok : ∀ e ∈ zzI, lw_tbl[e.2.2]? = some (Cond.constant (zzR e.1.1) e.1.2 (Int32.ofInt e.2.1)) := by decide +kernel
set_option maxRecDepth 100000 in
theorem zzJ_ok : ∀ e ∈ zzJ, lw_tbl[e.2.2]? = some (Cond.constantLong (zzR e.1.1) e.1.2 (Int64.ofInt e.2.1)) := by decide +kernel
set_option maxRecDepth 100000 in
theorem zz_lay0 : ∀ w ∈ u_ws RX0 TX0 9, w ∈ lw_tbl := by
  have h : (u_ws RX0 TX0 9) = [101, 103, 105, 107, 109, 111, 113, 115, 117].filterMap (fun i => lw_tbl[i]?) := by decide +kernel
  intro w hw
  rw [h] at hw
  obtain ⟨i, -, hi⟩ := List.mem_filterMap.mp hw
  exact List.mem_of_getElem? hi
set_option maxRecDepth 100000 in
theorem zz_lay1 : ∀ w ∈ u_ws RX1 TX1 6, w ∈ lw_tbl := by
  have h : (u_ws RX1 TX1 6) = [187, 189, 191, 193, 195, 197].filterMap (fun i => lw_tbl[i]?) := by decide +kernel
  intro w hw
  rw [h] at hw
  obtain ⟨i, -, hi⟩ := List.mem_filterMap.mp hw
  exact List.mem_of_getElem? hi
set_option maxRecDepth 100000 in
theorem zz_lay2 : ∀ w ∈ u_ws RX2 TX2 3, w ∈ lw_tbl := by
  have h : (u_ws RX2 TX2 3) = [130, 132, 134].filterMap (fun i => lw_tbl[i]?) := by decide +kernel
  intro w hw
  rw [h] at hw
  obtain ⟨i, -, hi⟩ := List.mem_filterMap.mp hw
  exact List.mem_of_getElem? hi
set_option maxRecDepth 100000 in
theorem zz_lay3 : ∀ w ∈ u_ws RX3 TX3 3, w ∈ lw_tbl := by
  have h : (u_ws RX3 TX3 3) = [214, 216, 218].filterMap (fun i => lw_tbl[i]?) := by decide +kernel
  intro w hw
  rw [h] at hw
  obtain ⟨i, -, hi⟩ := List.mem_filterMap.mp hw
  exact List.mem_of_getElem? hi
set_option maxRecDepth 100000 in
theorem zz_lay4 : ∀ w ∈ u_ws RX4 TX4 8, w ∈ lw_tbl := by
  have h : (u_ws RX4 TX4 8) = [153, 155, 157, 159, 161, 163, 165, 167].filterMap (fun i => lw_tbl[i]?) := by decide +kernel
  intro w hw
  rw [h] at hw
  obtain ⟨i, -, hi⟩ := List.mem_filterMap.mp hw
  exact List.mem_of_getElem? hi
set_option maxRecDepth 100000 in
theorem zz_lay5 : ∀ w ∈ u_ws RX5 TX5 6, w ∈ lw_tbl := by
  have h : (u_ws RX5 TX5 6) = [228, 230, 232, 234, 236, 238].filterMap (fun i => lw_tbl[i]?) := by decide +kernel
  intro w hw
  rw [h] at hw
  obtain ⟨i, -, hi⟩ := List.mem_filterMap.mp hw
  exact List.mem_of_getElem? hi
set_option maxRecDepth 100000 in
theorem zz_lay6 : ∀ w ∈ u_ws RX6 TX6 18, w ∈ lw_tbl := by
  have h : (u_ws RX6 TX6 18) = [712, 714, 716, 718, 720, 722, 724, 726, 728, 730, 732, 734, 736, 738, 740, 742, 744, 746].filterMap (fun i => lw_tbl[i]?) := by decide +kernel
  intro w hw
  rw [h] at hw
  obtain ⟨i, -, hi⟩ := List.mem_filterMap.mp hw
  exact List.mem_of_getElem? hi
