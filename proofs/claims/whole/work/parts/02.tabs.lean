/-! tables, written by wip/whole/gen1.py: methods, links, code -/
abbrev qE : Type := Nat × Nat × Nat × Nat × Int × List (Int × Nat) × Nat
abbrev qMI : Type := MethodName × ByteArray × Nat × Option FieldType × Nat × Nat × Nat
def qT : List Cond := lw_tbl.filter goodWord
theorem qT_mem {w : Cond} (h : w ∈ tables_1) (g : goodWord w = true) : w ∈ qT := List.mem_filter.mpr ⟨List.mem_append_right _ h, g⟩
theorem qT_memS {q : MethodName × Nat} (h : q ∈ lw_privs) : Cond.selects q.1.cls q.1 q.1 ∈ qT := List.mem_filter.mpr ⟨List.mem_append_left _ (List.mem_map.mpr ⟨q, h, rfl⟩), rfl⟩
theorem qT_good : GoodIn qT qT := fun w h => ⟨h, good_of_word (List.mem_filter.mp h).2⟩
def qcl : List vw_C := [(RX0, TX0, 6), (RX1, TX1, 5), (RX2, TX2, 13), (RX3, TX3, 18), (RX4, TX4, 6), (RX5, TX5, 6), (RX6, TX6, 5), (RX7, TX7, 16), (RX8, TX8, 9), (RX9, TX9, 45)]
def qty (c k : Nat) : FieldType := match c with
  | 0 => tyX0 k
  | 1 => tyX1 k
  | 2 => tyX2 k
  | 3 => tyX3 k
  | 4 => tyX4 k
  | 5 => tyX5 k
  | 6 => tyX6 k
  | 7 => tyX7 k
  | 8 => tyX8 k
  | _ => tyX9 k
def qon (c : Nat) : String := match c with
  | 0 => RX0
  | 1 => RX1
  | 2 => RX2
  | 3 => RX3
  | 4 => RX4
  | 5 => RX5
  | 6 => RX6
  | 7 => RX7
  | 8 => RX8
  | 9 => RX9
  | 10 => RJ6
  | 11 => RJ9
  | 12 => RJ7
  | _ => RL
def qms_0 : List qMI := [(yX0_init, cX0_init, 1, (Option.none : Option Jvm.ClassFile.FieldType), 0, 0, 2),
  (yX0_clear, cX0_clear, 1, (Option.none : Option Jvm.ClassFile.FieldType), 0, 0, 1),
  (yX0_put, cX0_put, 3, (Option.some Jvm.ClassFile.FieldType.int), 2, 0, 1),
  (yX0_aim, cX0_aim, 2, (Option.none : Option Jvm.ClassFile.FieldType), 1, 0, 1),
  (yX0_give, cX0_give, 8, (Option.none : Option Jvm.ClassFile.FieldType), 7, 0, 1),
  (yX0_worth, cX0_worth, 14, (Option.some Jvm.ClassFile.FieldType.int), 4, 0, 1),
  (yX0_takeAll, cX0_takeAll, 2, (Option.none : Option Jvm.ClassFile.FieldType), 1, 0, 1),
  (yX1_init, cX1_init, 2, (Option.none : Option Jvm.ClassFile.FieldType), 1, 1, 2),
  (yX1_readRules, cX1_readRules, 3, (Option.some Jvm.ClassFile.FieldType.int), 1, 1, 1),
  (yX1_sign, cX1_sign, 1, (Option.some Jvm.ClassFile.FieldType.int), 0, 1, 1),
  (yX1_fail, cX1_fail, 2, (Option.none : Option Jvm.ClassFile.FieldType), 1, 1, 1),
  (yX1_expect, cX1_expect, 2, (Option.none : Option Jvm.ClassFile.FieldType), 1, 1, 1),
  (yX1_isNext, cX1_isNext, 5, (Option.some Jvm.ClassFile.FieldType.boolean), 3, 1, 1),
  (yX1_readRule, cX1_readRule, 3, (Option.none : Option Jvm.ClassFile.FieldType), 0, 1, 1),
  (yX1_readParts, cX1_readParts, 4, (Option.none : Option Jvm.ClassFile.FieldType), 1, 1, 1),
  (yX1_readTests, cX1_readTests, 4, (Option.none : Option Jvm.ClassFile.FieldType), 1, 1, 1)]
def qmp_0 : List (Nat × Nat × Nat × Nat) := [(27, 26, 0, 2), (847, 845, 846, 2), (863, 861, 862, 2), (913, 911, 912, 2), (427, 425, 426, 2), (431, 429, 430, 2), (917, 915, 916, 2), (344, 343, 0, 8), (842, 840, 841, 8), (855, 854, 100028, 8), (859, 858, 100029, 8), (879, 878, 100033, 8), (893, 892, 100035, 8), (851, 850, 100027, 8), (897, 896, 100036, 8), (901, 900, 100037, 8)]
def qms_1 : List qMI := [(yX1_readTest, cX1_readTest, 3, (Option.none : Option Jvm.ClassFile.FieldType), 1, 1, 1),
  (yX1_readOpened, cX1_readOpened, 3, (Option.none : Option Jvm.ClassFile.FieldType), 1, 1, 1),
  (yX1_readSum, cX1_readSum, 4, (Option.none : Option Jvm.ClassFile.FieldType), 1, 1, 1),
  (yX1_readProduct, cX1_readProduct, 4, (Option.none : Option Jvm.ClassFile.FieldType), 1, 1, 1),
  (yX1_readFactor, cX1_readFactor, 4, (Option.none : Option Jvm.ClassFile.FieldType), 1, 1, 1),
  (yX1_readNumber, cX1_readNumber, 3, (Option.none : Option Jvm.ClassFile.FieldType), 0, 1, 1),
  (yX1_isDigit, cX1_isDigit, 1, (Option.some Jvm.ClassFile.FieldType.boolean), 1, 1, 0),
  (yX1_letterPlace, cX1_letterPlace, 1, (Option.some Jvm.ClassFile.FieldType.int), 1, 1, 0),
  (yX2_init, cX2_init, 1, (Option.none : Option Jvm.ClassFile.FieldType), 0, 2, 2),
  (yX2_begin, cX2_begin, 4, (Option.none : Option Jvm.ClassFile.FieldType), 3, 2, 1),
  (yX2_bearEntries, cX2_bearEntries, 4, (Option.none : Option Jvm.ClassFile.FieldType), 1, 2, 1),
  (yX2_fact, cX2_fact, 2, (Option.some Jvm.ClassFile.FieldType.int), 1, 2, 1),
  (yX2_takeAll, cX2_takeAll, 2, (Option.none : Option Jvm.ClassFile.FieldType), 1, 2, 1),
  (yX3_init, cX3_init, 2, (Option.none : Option Jvm.ClassFile.FieldType), 1, 3, 2),
  (yX3_begin, cX3_begin, 2, (Option.none : Option Jvm.ClassFile.FieldType), 1, 3, 1),
  (yX3_rise, cX3_rise, 1, (Option.none : Option Jvm.ClassFile.FieldType), 0, 3, 1)]
def qmp_1 : List (Nat × Nat × Nat × Nat) := [(905, 904, 100038, 8), (909, 908, 100039, 8), (867, 866, 100030, 8), (871, 870, 100031, 8), (875, 874, 100032, 8), (886, 885, 100034, 8), (882, 881, 0, 8), (889, 888, 0, 8), (64, 63, 0, 4), (589, 587, 588, 4), (607, 605, 606, 4), (1033, 1031, 1032, 4), (815, 813, 814, 4), (156, 155, 0, 6), (402, 400, 401, 6), (411, 409, 410, 6)]
def qms_2 : List qMI := [(yX3_leads, cX3_leads, 1, (Option.some Jvm.ClassFile.FieldType.boolean), 0, 3, 1),
  (yX3_base, cX3_base, 1, (Option.some Jvm.ClassFile.FieldType.int), 0, 3, 1),
  (yX3_last, cX3_last, 1, (Option.some Jvm.ClassFile.FieldType.int), 0, 3, 1),
  (yX3_entry, cX3_entry, 3, (Option.some Jvm.ClassFile.FieldType.int), 1, 3, 1),
  (yX3_termAt, cX3_termAt, 3, (Option.some Jvm.ClassFile.FieldType.int), 1, 3, 1),
  (yX3_isFull, cX3_isFull, 1, (Option.some Jvm.ClassFile.FieldType.boolean), 0, 3, 1),
  (yX3_configIndex, cX3_configIndex, 4, (Option.some Jvm.ClassFile.FieldType.int), 1, 3, 1),
  (yX3_oldsAt, cX3_oldsAt, 2, (Option.some Jvm.ClassFile.FieldType.int), 1, 3, 1),
  (yX3_newsAt, cX3_newsAt, 2, (Option.some Jvm.ClassFile.FieldType.int), 1, 3, 1),
  (yX3_members, cX3_members, 2, (Option.some Jvm.ClassFile.FieldType.int), 0, 3, 1),
  (yX3_isMember, cX3_isMember, 1, (Option.some Jvm.ClassFile.FieldType.boolean), 0, 3, 1),
  (yX3_isMajority, cX3_isMajority, 3, (Option.some Jvm.ClassFile.FieldType.boolean), 1, 3, 1),
  (yX3_isAheadOf, cX3_isAheadOf, 4, (Option.some Jvm.ClassFile.FieldType.boolean), 2, 3, 1),
  (yX3_lay, cX3_lay, 2, (Option.some Jvm.ClassFile.FieldType.boolean), 1, 3, 1),
  (yX3_shorten, cX3_shorten, 3, (Option.none : Option Jvm.ClassFile.FieldType), 0, 3, 1),
  (yX3_dropUpTo, cX3_dropUpTo, 4, (Option.none : Option Jvm.ClassFile.FieldType), 1, 3, 1)]
def qmp_2 : List (Nat × Nat × Nat × Nat) := [(537, 535, 536, 6), (500, 498, 499, 6), (545, 543, 544, 6), (512, 510, 511, 6), (516, 514, 515, 6), (541, 539, 540, 6), (508, 506, 507, 6), (566, 564, 565, 6), (570, 568, 569, 6), (562, 560, 561, 6), (784, 782, 783, 6), (689, 687, 688, 6), (717, 715, 716, 6), (556, 554, 555, 6), (504, 502, 503, 6), (520, 519, 100002, 6)]
def qms_3 : List qMI := [(yX3_dropFrom, cX3_dropFrom, 2, (Option.none : Option Jvm.ClassFile.FieldType), 1, 3, 1),
  (yX3_install, cX3_install, 3, (Option.none : Option Jvm.ClassFile.FieldType), 1, 3, 1),
  (yX3_hintAgainst, cX3_hintAgainst, 6, (Option.some Jvm.ClassFile.FieldType.int), 2, 3, 1),
  (yX3_becomeCandidate, cX3_becomeCandidate, 1, (Option.none : Option Jvm.ClassFile.FieldType), 0, 3, 1),
  (yX3_becomeLeader, cX3_becomeLeader, 1, (Option.none : Option Jvm.ClassFile.FieldType), 0, 3, 1),
  (yX3_winsBy, cX3_winsBy, 2, (Option.some Jvm.ClassFile.FieldType.boolean), 1, 3, 1),
  (yX3_matchedByMajority, cX3_matchedByMajority, 5, (Option.some Jvm.ClassFile.FieldType.int), 0, 3, 1),
  (yX3_thoseWithMatch, cX3_thoseWithMatch, 4, (Option.some Jvm.ClassFile.FieldType.int), 1, 3, 1),
  (yX3_thoseWithHeard, cX3_thoseWithHeard, 4, (Option.some Jvm.ClassFile.FieldType.int), 1, 3, 1),
  (yX3_hasSameKeys, cX3_hasSameKeys, 3, (Option.some Jvm.ClassFile.FieldType.boolean), 1, 3, 1),
  (yX3_isMatchedWith, cX3_isMatchedWith, 6, (Option.some Jvm.ClassFile.FieldType.boolean), 1, 3, 1),
  (yX3_fact, cX3_fact, 2, (Option.some Jvm.ClassFile.FieldType.int), 1, 3, 1),
  (yX3_takeAll, cX3_takeAll, 2, (Option.none : Option Jvm.ClassFile.FieldType), 1, 3, 1),
  (yX4_init, cX4_init, 2, (Option.none : Option Jvm.ClassFile.FieldType), 1, 4, 2),
  (yX4_signOf, cX4_signOf, 1, (Option.some Jvm.ClassFile.FieldType.int), 1, 4, 0),
  (yX4_digitOf, cX4_digitOf, 2, (Option.some Jvm.ClassFile.FieldType.int), 2, 4, 0)]
def qmp_3 : List (Nat × Nat × Nat × Nat) := [(757, 755, 756, 6), (766, 764, 765, 6), (744, 742, 743, 6), (790, 788, 789, 6), (734, 732, 733, 6), (725, 723, 724, 6), (618, 616, 617, 6), (622, 621, 100008, 6), (685, 683, 684, 6), (1068, 1066, 1067, 6), (1057, 1055, 1056, 6), (1001, 999, 1000, 6), (811, 809, 810, 6), (369, 368, 0, 9), (963, 962, 0, 9), (956, 955, 0, 9)]
def qms_4 : List qMI := [(yX4_readPlan, cX4_readPlan, 3, (Option.some Jvm.ClassFile.FieldType.int), 1, 4, 1),
  (yX4_sign, cX4_sign, 1, (Option.some Jvm.ClassFile.FieldType.int), 0, 4, 1),
  (yX4_fail, cX4_fail, 3, (Option.none : Option Jvm.ClassFile.FieldType), 2, 4, 1),
  (yX4_readAct, cX4_readAct, 5, (Option.none : Option Jvm.ClassFile.FieldType), 1, 4, 1),
  (yX4_readGroup, cX4_readGroup, 3, (Option.none : Option Jvm.ClassFile.FieldType), 1, 4, 1),
  (yX4_readSingle, cX4_readSingle, 8, (Option.none : Option Jvm.ClassFile.FieldType), 1, 4, 1),
  (yX4_repeat, cX4_repeat, 7, (Option.none : Option Jvm.ClassFile.FieldType), 3, 4, 1),
  (yX4_digitCount, cX4_digitCount, 1, (Option.some Jvm.ClassFile.FieldType.int), 1, 4, 0),
  (yX4_mostDigit, cX4_mostDigit, 2, (Option.some Jvm.ClassFile.FieldType.int), 2, 4, 0),
  (yX5_init, cX5_init, 1, (Option.none : Option Jvm.ClassFile.FieldType), 0, 5, 2),
  (yX5_takeAll, cX5_takeAll, 2, (Option.none : Option Jvm.ClassFile.FieldType), 1, 5, 1),
  (yX6_init, cX6_init, 1, (Option.none : Option Jvm.ClassFile.FieldType), 0, 6, 2),
  (yX6_begin, cX6_begin, 2, (Option.none : Option Jvm.ClassFile.FieldType), 1, 6, 1),
  (yX6_takeAll, cX6_takeAll, 2, (Option.none : Option Jvm.ClassFile.FieldType), 1, 6, 1),
  (yX7_init, cX7_init, 3, (Option.none : Option Jvm.ClassFile.FieldType), 1, 7, 2),
  (yX7_begin, cX7_begin, 3, (Option.none : Option Jvm.ClassFile.FieldType), 1, 7, 1)]
def qmp_4 : List (Nat × Nat × Nat × Nat) := [(926, 924, 925, 9), (935, 934, 100041, 9), (943, 942, 100043, 9), (931, 930, 100040, 9), (939, 938, 100042, 9), (947, 946, 100044, 9), (960, 959, 100045, 9), (950, 949, 0, 9), (953, 952, 0, 9), (248, 247, 0, 7), (821, 819, 820, 7), (70, 69, 0, 5), (406, 404, 405, 5), (593, 591, 592, 5), (55, 54, 0, 3), (395, 393, 394, 3)]
def qms_5 : List qMI := [(yX7_passTick, cX7_passTick, 5, (Option.some Jvm.ClassFile.FieldType.boolean), 0, 7, 1),
  (yX7_takeOut, cX7_takeOut, 4, (Option.none : Option Jvm.ClassFile.FieldType), 1, 7, 1),
  (yX7_beat, cX7_beat, 2, (Option.none : Option Jvm.ClassFile.FieldType), 1, 7, 1),
  (yX7_draw, cX7_draw, 1, (Option.some Jvm.ClassFile.FieldType.int), 0, 7, 1),
  (yX7_setTimer, cX7_setTimer, 3, (Option.none : Option Jvm.ClassFile.FieldType), 1, 7, 1),
  (yX7_spare, cX7_spare, 5, (Option.some (Jvm.ClassFile.FieldType.object "TermLog$Message")), 3, 7, 1),
  (yX7_post, cX7_post, 6, (Option.none : Option Jvm.ClassFile.FieldType), 1, 7, 1),
  (yX7_lose, cX7_lose, 1, (Option.none : Option Jvm.ClassFile.FieldType), 0, 7, 1),
  (yX7_sendOn, cX7_sendOn, 5, (Option.none : Option Jvm.ClassFile.FieldType), 2, 7, 1),
  (yX7_callForVotes, cX7_callForVotes, 5, (Option.none : Option Jvm.ClassFile.FieldType), 1, 7, 1),
  (yX7_answer, cX7_answer, 7, (Option.none : Option Jvm.ClassFile.FieldType), 5, 7, 1),
  (yX7_handOver, cX7_handOver, 3, (Option.none : Option Jvm.ClassFile.FieldType), 1, 7, 1),
  (yX7_grantOrNot, cX7_grantOrNot, 5, (Option.none : Option Jvm.ClassFile.FieldType), 2, 7, 1),
  (yX7_takeEntries, cX7_takeEntries, 6, (Option.none : Option Jvm.ClassFile.FieldType), 2, 7, 1),
  (yX7_place, cX7_place, 4, (Option.some Jvm.ClassFile.FieldType.boolean), 3, 7, 1),
  (yX7_takeSnapshot, cX7_takeSnapshot, 3, (Option.none : Option Jvm.ClassFile.FieldType), 2, 7, 1)]
def qmp_5 : List (Nat × Nat × Nat × Nat) := [(700, 698, 699, 3), (704, 703, 100014, 3), (776, 775, 100023, 3), (422, 421, 100000, 3), (418, 416, 417, 3), (582, 581, 100004, 3), (598, 597, 100005, 3), (602, 601, 100006, 3), (574, 573, 100003, 3), (794, 793, 100025, 3), (721, 720, 100017, 3), (708, 707, 100015, 3), (713, 712, 100016, 3), (740, 739, 100019, 3), (749, 748, 100020, 3), (762, 761, 100021, 3)]
def qms_6 : List qMI := [(yX7_hearAnswer, cX7_hearAnswer, 5, (Option.none : Option Jvm.ClassFile.FieldType), 2, 7, 1),
  (yX7_follow, cX7_follow, 3, (Option.none : Option Jvm.ClassFile.FieldType), 2, 7, 1),
  (yX7_stand, cX7_stand, 2, (Option.none : Option Jvm.ClassFile.FieldType), 1, 7, 1),
  (yX7_crown, cX7_crown, 3, (Option.none : Option Jvm.ClassFile.FieldType), 1, 7, 1),
  (yX7_goDown, cX7_goDown, 2, (Option.none : Option Jvm.ClassFile.FieldType), 1, 7, 1),
  (yX7_layAndSpread, cX7_layAndSpread, 6, (Option.some Jvm.ClassFile.FieldType.int), 4, 7, 1),
  (yX7_hold, cX7_hold, 5, (Option.none : Option Jvm.ClassFile.FieldType), 1, 7, 1),
  (yX7_leave, cX7_leave, 2, (Option.none : Option Jvm.ClassFile.FieldType), 1, 7, 1),
  (yX7_raiseCommit, cX7_raiseCommit, 4, (Option.none : Option Jvm.ClassFile.FieldType), 2, 7, 1),
  (yX7_seeHeld, cX7_seeHeld, 4, (Option.none : Option Jvm.ClassFile.FieldType), 3, 7, 1),
  (yX7_openRead, cX7_openRead, 4, (Option.some Jvm.ClassFile.FieldType.int), 2, 7, 1),
  (yX7_answerReads, cX7_answerReads, 4, (Option.none : Option Jvm.ClassFile.FieldType), 1, 7, 1),
  (yX7_loseReads, cX7_loseReads, 4, (Option.none : Option Jvm.ClassFile.FieldType), 1, 7, 1),
  (yX7_setLink, cX7_setLink, 4, (Option.none : Option Jvm.ClassFile.FieldType), 3, 7, 1),
  (yX7_cutCount, cX7_cutCount, 3, (Option.some Jvm.ClassFile.FieldType.int), 0, 7, 1),
  (yX7_upBits, cX7_upBits, 3, (Option.some Jvm.ClassFile.FieldType.int), 0, 7, 1)]
def qmp_6 : List (Nat × Nat × Nat × Nat) := [(771, 770, 100022, 3), (660, 659, 100012, 3), (780, 779, 100024, 3), (730, 729, 100018, 3), (474, 472, 473, 3), (549, 547, 548, 3), (614, 613, 100007, 3), (656, 655, 100011, 3), (635, 634, 100009, 3), (640, 639, 100010, 3), (677, 675, 676, 3), (681, 680, 100013, 3), (478, 477, 100001, 3), (492, 490, 491, 3), (1110, 1108, 1109, 3), (1106, 1104, 1105, 3)]
def qms_7 : List qMI := [(yX7_firstLeader, cX7_firstLeader, 4, (Option.some Jvm.ClassFile.FieldType.int), 0, 7, 1),
  (yX7_furthestUp, cX7_furthestUp, 4, (Option.some (Jvm.ClassFile.FieldType.object "TermLog$Node")), 0, 7, 1),
  (yX7_allUpHaveHeld, cX7_allUpHaveHeld, 2, (Option.some Jvm.ClassFile.FieldType.boolean), 0, 7, 1),
  (yX7_unmatchedTwos, cX7_unmatchedTwos, 4, (Option.some Jvm.ClassFile.FieldType.int), 0, 7, 1),
  (yX7_unlikeTwos, cX7_unlikeTwos, 4, (Option.some Jvm.ClassFile.FieldType.int), 0, 7, 1),
  (yX7_isUnlike, cX7_isUnlike, 2, (Option.some Jvm.ClassFile.FieldType.boolean), 2, 7, 0),
  (yX7_grantingTo, cX7_grantingTo, 5, (Option.some Jvm.ClassFile.FieldType.int), 1, 7, 1),
  (yX7_wouldGrant, cX7_wouldGrant, 5, (Option.some Jvm.ClassFile.FieldType.boolean), 2, 7, 1),
  (yX7_takeAll, cX7_takeAll, 3, (Option.none : Option Jvm.ClassFile.FieldType), 1, 7, 1),
  (yX8_init, cX8_init, 1, (Option.none : Option Jvm.ClassFile.FieldType), 0, 8, 2),
  (yX8_found, cX8_found, 2, (Option.some Jvm.ClassFile.FieldType.boolean), 1, 8, 1),
  (yX8_crash, cX8_crash, 2, (Option.some Jvm.ClassFile.FieldType.boolean), 1, 8, 1),
  (yX8_comeUp, cX8_comeUp, 2, (Option.some Jvm.ClassFile.FieldType.boolean), 1, 8, 1),
  (yX8_cut, cX8_cut, 4, (Option.some Jvm.ClassFile.FieldType.boolean), 3, 8, 1),
  (yX8_compact, cX8_compact, 3, (Option.some Jvm.ClassFile.FieldType.boolean), 1, 8, 1),
  (yX8_write, cX8_write, 5, (Option.some Jvm.ClassFile.FieldType.int), 3, 8, 1)]
def qmp_7 : List (Nat × Nat × Nat × Nat) := [(993, 991, 992, 3), (982, 980, 981, 3), (1098, 1096, 1097, 3), (1053, 1051, 1052, 3), (1061, 1059, 1060, 3), (1064, 1063, 0, 3), (1077, 1075, 1076, 3), (1081, 1080, 100047, 3), (807, 805, 806, 3), (19, 18, 0, 1), (463, 461, 462, 1), (467, 465, 466, 1), (482, 480, 481, 1), (488, 486, 487, 1), (496, 494, 495, 1), (530, 528, 529, 1)]
def qms_8 : List qMI := [(yX8_change, cX8_change, 6, (Option.some Jvm.ClassFile.FieldType.int), 2, 8, 1),
  (yX8_ask, cX8_ask, 4, (Option.some Jvm.ClassFile.FieldType.int), 2, 8, 1),
  (yX8_ticks, cX8_ticks, 5, (Option.some Jvm.ClassFile.FieldType.int), 1, 8, 1),
  (yX8_seed, cX8_seed, 2, (Option.some Jvm.ClassFile.FieldType.boolean), 1, 8, 1),
  (yX8_keep, cX8_keep, 1, (Option.some Jvm.ClassFile.FieldType.int), 0, 8, 1),
  (yX8_undo, cX8_undo, 1, (Option.some Jvm.ClassFile.FieldType.boolean), 0, 8, 1),
  (yX8_feed, cX8_feed, 6, (Option.some Jvm.ClassFile.FieldType.int), 5, 8, 1),
  (yX8_law, cX8_law, 3, (Option.some Jvm.ClassFile.FieldType.int), 1, 8, 1),
  (yX8_plan, cX8_plan, 7, (Option.some Jvm.ClassFile.FieldType.int), 1, 8, 1),
  (yX8_check, cX8_check, 5, (Option.some Jvm.ClassFile.FieldType.int), 1, 8, 1),
  (yX8_tried, cX8_tried, 5, (Option.some Jvm.ClassFile.FieldType.int), 2, 8, 1),
  (yX8_nodeIs, cX8_nodeIs, 5, (Option.some Jvm.ClassFile.FieldType.int), 2, 8, 1),
  (yX8_entryAt, cX8_entryAt, 5, (Option.some Jvm.ClassFile.FieldType.int), 3, 8, 1),
  (yX8_keyOf, cX8_keyOf, 4, (Option.some Jvm.ClassFile.FieldType.int), 2, 8, 1),
  (yX8_about, cX8_about, 5, (Option.some Jvm.ClassFile.FieldType.int), 3, 8, 1),
  (yX8_message, cX8_message, 3, (Option.some Jvm.ClassFile.FieldType.int), 2, 8, 1)]
def qmp_8 : List (Nat × Nat × Nat × Nat) := [(664, 662, 663, 1), (672, 670, 671, 1), (693, 691, 692, 1), (798, 796, 797, 1), (803, 801, 802, 1), (826, 824, 825, 1), (830, 828, 829, 1), (838, 836, 837, 1), (922, 920, 921, 1), (978, 976, 977, 1), (986, 984, 985, 1), (997, 995, 996, 1), (1006, 1004, 1005, 1), (1021, 1019, 1020, 1), (1025, 1023, 1024, 1), (1029, 1027, 1028, 1)]
def qms_9 : List qMI := [(yX8_leaderNow, cX8_leaderNow, 1, (Option.some Jvm.ClassFile.FieldType.int), 0, 8, 1),
  (yX8_heldAt, cX8_heldAt, 3, (Option.some Jvm.ClassFile.FieldType.int), 2, 8, 1),
  (yX8_readIs, cX8_readIs, 4, (Option.some Jvm.ClassFile.FieldType.int), 2, 8, 1),
  (yX8_broken, cX8_broken, 2, (Option.some Jvm.ClassFile.FieldType.int), 1, 8, 1),
  (yX8_couldWin, cX8_couldWin, 5, (Option.some Jvm.ClassFile.FieldType.int), 2, 8, 1),
  (yX8_majority, cX8_majority, 3, (Option.some Jvm.ClassFile.FieldType.int), 2, 8, 1),
  (yX8_till, cX8_till, 4, (Option.some Jvm.ClassFile.FieldType.int), 2, 8, 1),
  (yX8_count, cX8_count, 2, (Option.some Jvm.ClassFile.FieldType.int), 1, 8, 1),
  (yX8_isNode, cX8_isNode, 1, (Option.some Jvm.ClassFile.FieldType.boolean), 1, 8, 0),
  (yX8_isKey, cX8_isKey, 1, (Option.some Jvm.ClassFile.FieldType.boolean), 1, 8, 0),
  (yX8_isTickCount, cX8_isTickCount, 1, (Option.some Jvm.ClassFile.FieldType.boolean), 1, 8, 0),
  (yX8_isEntryPart, cX8_isEntryPart, 1, (Option.some Jvm.ClassFile.FieldType.boolean), 1, 8, 0),
  (yX8_isTriedWhat, cX8_isTriedWhat, 1, (Option.some Jvm.ClassFile.FieldType.boolean), 1, 8, 0),
  (yX8_hasCome, cX8_hasCome, 3, (Option.some Jvm.ClassFile.FieldType.boolean), 2, 8, 1),
  (yX8_layOnTape, cX8_layOnTape, 3, (Option.none : Option Jvm.ClassFile.FieldType), 1, 8, 1),
  (yX8_perform, cX8_perform, 4, (Option.some Jvm.ClassFile.FieldType.boolean), 1, 8, 1)]
def qmp_9 : List (Nat × Nat × Nat × Nat) := [(1037, 1035, 1036, 1), (1041, 1039, 1040, 1), (1045, 1043, 1044, 1), (1049, 1047, 1048, 1), (1072, 1070, 1071, 1), (1086, 1084, 1085, 1), (1090, 1088, 1089, 1), (1102, 1100, 1101, 1), (470, 469, 0, 1), (533, 532, 0, 1), (696, 695, 0, 1), (1009, 1008, 0, 1), (989, 988, 0, 1), (1094, 1093, 100048, 1), (834, 833, 100026, 1), (967, 966, 100046, 1)]
def qms_10 : List qMI := [(yX8_entryOf, cX8_entryOf, 4, (Option.some Jvm.ClassFile.FieldType.int), 4, 8, 0),
  (yX8_termOf, cX8_termOf, 1, (Option.some Jvm.ClassFile.FieldType.int), 1, 8, 0),
  (yX8_kindOf, cX8_kindOf, 1, (Option.some Jvm.ClassFile.FieldType.int), 1, 8, 0),
  (yX8_firstOf, cX8_firstOf, 1, (Option.some Jvm.ClassFile.FieldType.int), 1, 8, 0),
  (yX8_secondOf, cX8_secondOf, 1, (Option.some Jvm.ClassFile.FieldType.int), 1, 8, 0),
  (yX8_partOf, cX8_partOf, 2, (Option.some Jvm.ClassFile.FieldType.int), 2, 8, 0),
  (yX8_has, cX8_has, 2, (Option.some Jvm.ClassFile.FieldType.boolean), 2, 8, 0),
  (yX8_isMajorityOf, cX8_isMajorityOf, 3, (Option.some Jvm.ClassFile.FieldType.boolean), 3, 8, 0),
  (yX9_init, cX9_init, 1, (Option.none : Option Jvm.ClassFile.FieldType), 0, 9, 2),
  (yX9_in, cX9_in, 3, (Option.some Jvm.ClassFile.FieldType.boolean), 3, 9, 0),
  (yX9_min, cX9_min, 2, (Option.some Jvm.ClassFile.FieldType.int), 2, 9, 0),
  (yX9_max, cX9_max, 2, (Option.some Jvm.ClassFile.FieldType.int), 2, 9, 0),
  (yX9_has, cX9_has, 2, (Option.some Jvm.ClassFile.FieldType.boolean), 2, 9, 0),
  (yX9_bits, cX9_bits, 3, (Option.some Jvm.ClassFile.FieldType.int), 1, 9, 0),
  (yX9_copies, cX9_copies, 3, (Option.none : Option Jvm.ClassFile.FieldType), 2, 9, 0),
  (yX9_isNode, cX9_isNode, 1, (Option.some Jvm.ClassFile.FieldType.boolean), 1, 9, 0)]
def qmp_10 : List (Nat × Nat × Nat × Nat) := [(552, 551, 0, 1), (753, 752, 0, 1), (643, 642, 0, 1), (523, 522, 0, 1), (526, 525, 0, 1), (1013, 1012, 0, 1), (577, 576, 0, 1), (625, 624, 0, 1), (1116, 1115, 0, 12), (1302, 1301, 0, 12), (1430, 1429, 0, 12), (1520, 1519, 0, 12), (1422, 1421, 0, 12), (1497, 1496, 0, 12), (1716, 1715, 0, 12), (1415, 1414, 0, 12)]
def qms_11 : List qMI := [(yX9_the, cX9_the, 3, (Option.some Jvm.ClassFile.FieldType.int), 2, 9, 1),
  (yX9_sets, cX9_sets, 4, (Option.none : Option Jvm.ClassFile.FieldType), 3, 9, 1),
  (yX9_isUp, cX9_isUp, 2, (Option.some Jvm.ClassFile.FieldType.boolean), 1, 9, 1),
  (yX9_isLeader, cX9_isLeader, 2, (Option.some Jvm.ClassFile.FieldType.boolean), 1, 9, 1),
  (yX9_lastOf, cX9_lastOf, 2, (Option.some Jvm.ClassFile.FieldType.int), 1, 9, 1),
  (yX9_logPlace, cX9_logPlace, 3, (Option.some Jvm.ClassFile.FieldType.int), 2, 9, 1),
  (yX9_hasEntry, cX9_hasEntry, 3, (Option.some Jvm.ClassFile.FieldType.boolean), 2, 9, 1),
  (yX9_termAt, cX9_termAt, 3, (Option.some Jvm.ClassFile.FieldType.int), 2, 9, 1),
  (yX9_configAt, cX9_configAt, 4, (Option.some Jvm.ClassFile.FieldType.int), 2, 9, 1),
  (yX9_oldOf, cX9_oldOf, 3, (Option.some Jvm.ClassFile.FieldType.int), 1, 9, 1),
  (yX9_newOf, cX9_newOf, 3, (Option.some Jvm.ClassFile.FieldType.int), 1, 9, 1),
  (yX9_membersOf, cX9_membersOf, 2, (Option.some Jvm.ClassFile.FieldType.int), 1, 9, 1),
  (yX9_isHeldConfig, cX9_isHeldConfig, 2, (Option.some Jvm.ClassFile.FieldType.boolean), 1, 9, 1),
  (yX9_isMost, cX9_isMost, 5, (Option.some Jvm.ClassFile.FieldType.boolean), 2, 9, 1),
  (yX9_goesUpTo, cX9_goesUpTo, 6, (Option.none : Option Jvm.ClassFile.FieldType), 2, 9, 1),
  (yX9_compacts, cX9_compacts, 6, (Option.none : Option Jvm.ClassFile.FieldType), 1, 9, 1)]
def qmp_11 : List (Nat × Nat × Nat × Nat) := [(1138, 1137, 100053, 12), (1125, 1124, 100050, 12), (1412, 1411, 100081, 12), (1652, 1651, 100131, 12), (1450, 1449, 100088, 12), (1458, 1457, 100090, 12), (1564, 1563, 100115, 12), (1454, 1453, 100089, 12), (1490, 1489, 100098, 12), (1486, 1485, 100097, 12), (1494, 1493, 100099, 12), (1532, 1531, 100107, 12), (1572, 1571, 100117, 12), (1482, 1481, 100096, 12), (1517, 1516, 100104, 12), (1513, 1512, 100103, 12)]
def qms_12 : List qMI := [(yX9_lays, cX9_lays, 7, (Option.some Jvm.ClassFile.FieldType.boolean), 5, 9, 1),
  (yX9_types, cX9_types, 3, (Option.none : Option Jvm.ClassFile.FieldType), 1, 9, 1),
  (yX9_feed, cX9_feed, 6, (Option.some Jvm.ClassFile.FieldType.int), 5, 9, 1),
  (yX9_octet, cX9_octet, 2, (Option.some Jvm.ClassFile.FieldType.int), 1, 9, 1),
  (yX9_here, cX9_here, 1, (Option.some Jvm.ClassFile.FieldType.int), 0, 9, 1),
  (yX9_isDigit, cX9_isDigit, 1, (Option.some Jvm.ClassFile.FieldType.boolean), 0, 9, 1),
  (yX9_wrongAt, cX9_wrongAt, 3, (Option.some Jvm.ClassFile.FieldType.boolean), 2, 9, 1),
  (yX9_takes, cX9_takes, 2, (Option.some Jvm.ClassFile.FieldType.boolean), 1, 9, 1),
  (yX9_readsNumber, cX9_readsNumber, 2, (Option.some Jvm.ClassFile.FieldType.boolean), 0, 9, 1),
  (yX9_notes, cX9_notes, 3, (Option.none : Option Jvm.ClassFile.FieldType), 2, 9, 1),
  (yX9_opens, cX9_opens, 2, (Option.some Jvm.ClassFile.FieldType.boolean), 1, 9, 1),
  (yX9_waitTop, cX9_waitTop, 1, (Option.some Jvm.ClassFile.FieldType.int), 0, 9, 1),
  (yX9_factOf, cX9_factOf, 1, (Option.some Jvm.ClassFile.FieldType.int), 1, 9, 0),
  (yX9_sumSign, cX9_sumSign, 1, (Option.some Jvm.ClassFile.FieldType.int), 1, 9, 0),
  (yX9_closesSums, cX9_closesSums, 2, (Option.none : Option Jvm.ClassFile.FieldType), 1, 9, 1),
  (yX9_readsFactor, cX9_readsFactor, 2, (Option.some Jvm.ClassFile.FieldType.boolean), 0, 9, 1)]
def qmp_12 : List (Nat × Nat × Nat × Nat) := [(1509, 1508, 100102, 12), (1295, 1294, 100056, 12), (1291, 1289, 1290, 12), (1812, 1811, 100147, 12), (1314, 1313, 100059, 12), (1334, 1333, 100064, 12), (1318, 1317, 100060, 12), (1384, 1383, 100075, 12), (1338, 1337, 100065, 12), (1342, 1341, 100066, 12), (1330, 1329, 100063, 12), (1356, 1355, 100068, 12), (1345, 1344, 0, 12), (1348, 1347, 0, 12), (1352, 1351, 100067, 12), (1326, 1325, 100062, 12)]
def qms_13 : List qMI := [(yX9_hasOpenSum, cX9_hasOpenSum, 3, (Option.some Jvm.ClassFile.FieldType.boolean), 1, 9, 1),
  (yX9_readsSum, cX9_readsSum, 3, (Option.some Jvm.ClassFile.FieldType.boolean), 0, 9, 1),
  (yX9_endsPiece, cX9_endsPiece, 1, (Option.none : Option Jvm.ClassFile.FieldType), 0, 9, 1),
  (yX9_lands, cX9_lands, 3, (Option.none : Option Jvm.ClassFile.FieldType), 1, 9, 1),
  (yX9_jumps, cX9_jumps, 2, (Option.none : Option Jvm.ClassFile.FieldType), 1, 9, 1),
  (yX9_readsCompared, cX9_readsCompared, 2, (Option.some Jvm.ClassFile.FieldType.boolean), 0, 9, 1),
  (yX9_readsCondition, cX9_readsCondition, 1, (Option.some Jvm.ClassFile.FieldType.boolean), 0, 9, 1),
  (yX9_readsRule, cX9_readsRule, 2, (Option.some Jvm.ClassFile.FieldType.boolean), 0, 9, 1),
  (yX9_beginsText, cX9_beginsText, 2, (Option.none : Option Jvm.ClassFile.FieldType), 1, 9, 1),
  (yX9_law, cX9_law, 4, (Option.some Jvm.ClassFile.FieldType.int), 1, 9, 1),
  (yX9_reckon, cX9_reckon, 3, (Option.some Jvm.ClassFile.FieldType.int), 3, 9, 0),
  (yX9_reckonsTo, cX9_reckonsTo, 8, (Option.some Jvm.ClassFile.FieldType.int), 2, 9, 1),
  (yX9_byLaw, cX9_byLaw, 7, (Option.some Jvm.ClassFile.FieldType.int), 4, 9, 1),
  (yX9_holdsAny, cX9_holdsAny, 3, (Option.some Jvm.ClassFile.FieldType.boolean), 1, 9, 1),
  (yX9_feels, cX9_feels, 4, (Option.some Jvm.ClassFile.FieldType.int), 3, 9, 1),
  (yX9_setsTimer, cX9_setsTimer, 3, (Option.none : Option Jvm.ClassFile.FieldType), 1, 9, 1)]
def qmp_13 : List (Nat × Nat × Nat × Nat) := [(1360, 1359, 100069, 12), (1322, 1321, 100061, 12), (1372, 1371, 100072, 12), (1376, 1375, 100073, 12), (1380, 1379, 100074, 12), (1368, 1367, 100071, 12), (1364, 1363, 100070, 12), (1310, 1309, 100058, 12), (1306, 1305, 100057, 12), (1299, 1297, 1298, 12), (1150, 1149, 0, 12), (1146, 1145, 100055, 12), (1142, 1141, 100054, 12), (1474, 1473, 100094, 12), (1133, 1132, 100052, 12), (1129, 1128, 100051, 12)]
def qms_14 : List qMI := [(yX9_beginsMail, cX9_beginsMail, 5, (Option.none : Option Jvm.ClassFile.FieldType), 3, 9, 1),
  (yX9_loses, cX9_loses, 1, (Option.none : Option Jvm.ClassFile.FieldType), 0, 9, 1),
  (yX9_posts, cX9_posts, 5, (Option.none : Option Jvm.ClassFile.FieldType), 0, 9, 1),
  (yX9_answersBy, cX9_answersBy, 5, (Option.none : Option Jvm.ClassFile.FieldType), 4, 9, 1),
  (yX9_sendsOn, cX9_sendsOn, 5, (Option.none : Option Jvm.ClassFile.FieldType), 2, 9, 1),
  (yX9_tellsSnapshot, cX9_tellsSnapshot, 3, (Option.none : Option Jvm.ClassFile.FieldType), 1, 9, 1),
  (yX9_tellsEntries, cX9_tellsEntries, 5, (Option.none : Option Jvm.ClassFile.FieldType), 2, 9, 1),
  (yX9_sendsToAll, cX9_sendsToAll, 3, (Option.none : Option Jvm.ClassFile.FieldType), 1, 9, 1),
  (yX9_losesReads, cX9_losesReads, 3, (Option.none : Option Jvm.ClassFile.FieldType), 1, 9, 1),
  (yX9_follows, cX9_follows, 3, (Option.none : Option Jvm.ClassFile.FieldType), 2, 9, 1),
  (yX9_stands, cX9_stands, 3, (Option.none : Option Jvm.ClassFile.FieldType), 1, 9, 1),
  (yX9_leads, cX9_leads, 4, (Option.none : Option Jvm.ClassFile.FieldType), 1, 9, 1),
  (yX9_laidByLeader, cX9_laidByLeader, 2, (Option.none : Option Jvm.ClassFile.FieldType), 1, 9, 1),
  (yX9_breaks, cX9_breaks, 1, (Option.none : Option Jvm.ClassFile.FieldType), 0, 9, 1),
  (yX9_seesHeld, cX9_seesHeld, 7, (Option.none : Option Jvm.ClassFile.FieldType), 2, 9, 1),
  (yX9_growsCommit, cX9_growsCommit, 4, (Option.none : Option Jvm.ClassFile.FieldType), 2, 9, 1)]
def qmp_14 : List (Nat × Nat × Nat × Nat) := [(1466, 1465, 100092, 12), (1426, 1425, 100083, 12), (1470, 1469, 100093, 12), (1462, 1461, 100091, 12), (1536, 1535, 100108, 12), (1540, 1539, 100109, 12), (1544, 1543, 100110, 12), (1528, 1527, 100106, 12), (1438, 1437, 100085, 12), (1434, 1433, 100084, 12), (1620, 1619, 100129, 12), (1501, 1500, 100100, 12), (1524, 1523, 100105, 12), (1505, 1504, 100101, 12), (1568, 1567, 100116, 12), (1560, 1559, 100114, 12)]
def qms_15 : List qMI := [(yX9_whoMatch, cX9_whoMatch, 5, (Option.some Jvm.ClassFile.FieldType.int), 2, 9, 1),
  (yX9_mostHeld, cX9_mostHeld, 3, (Option.some Jvm.ClassFile.FieldType.int), 1, 9, 1),
  (yX9_holds, cX9_holds, 4, (Option.none : Option Jvm.ClassFile.FieldType), 1, 9, 1),
  (yX9_whoHeard, cX9_whoHeard, 5, (Option.some Jvm.ClassFile.FieldType.int), 2, 9, 1),
  (yX9_answersReads, cX9_answersReads, 4, (Option.none : Option Jvm.ClassFile.FieldType), 1, 9, 1),
  (yX9_areLinked, cX9_areLinked, 3, (Option.some Jvm.ClassFile.FieldType.boolean), 2, 9, 1),
  (yX9_takesDue, cX9_takesDue, 5, (Option.some Jvm.ClassFile.FieldType.boolean), 0, 9, 1),
  (yX9_isHanded, cX9_isHanded, 2, (Option.none : Option Jvm.ClassFile.FieldType), 0, 9, 1),
  (yX9_isNoLess, cX9_isNoLess, 5, (Option.some Jvm.ClassFile.FieldType.boolean), 3, 9, 1),
  (yX9_isAskedToVote, cX9_isAskedToVote, 5, (Option.none : Option Jvm.ClassFile.FieldType), 1, 9, 1),
  (yX9_hasVote, cX9_hasVote, 2, (Option.none : Option Jvm.ClassFile.FieldType), 1, 9, 1),
  (yX9_firstOfTerm, cX9_firstOfTerm, 4, (Option.some Jvm.ClassFile.FieldType.int), 2, 9, 1),
  (yX9_hasEntries, cX9_hasEntries, 5, (Option.none : Option Jvm.ClassFile.FieldType), 1, 9, 1),
  (yX9_laysAs, cX9_laysAs, 4, (Option.some Jvm.ClassFile.FieldType.boolean), 3, 9, 1),
  (yX9_isOfLeader, cX9_isOfLeader, 3, (Option.some Jvm.ClassFile.FieldType.boolean), 1, 9, 1),
  (yX9_matches, cX9_matches, 4, (Option.none : Option Jvm.ClassFile.FieldType), 2, 9, 1)]
def qmp_15 : List (Nat × Nat × Nat × Nat) := [(1556, 1555, 100113, 12), (1552, 1551, 100112, 12), (1548, 1547, 100111, 12), (1604, 1603, 100125, 12), (1600, 1599, 100124, 12), (1419, 1418, 100082, 12), (1404, 1403, 100079, 12), (1408, 1407, 100080, 12), (1446, 1445, 100087, 12), (1442, 1441, 100086, 12), (1478, 1477, 100095, 12), (1580, 1579, 100119, 12), (1576, 1575, 100118, 12), (1584, 1583, 100120, 12), (1592, 1591, 100122, 12), (1596, 1595, 100123, 12)]
def qms_16 : List qMI := [(yX9_hearsOfEntries, cX9_hearsOfEntries, 3, (Option.none : Option Jvm.ClassFile.FieldType), 1, 9, 1),
  (yX9_hasSnapshot, cX9_hasSnapshot, 4, (Option.none : Option Jvm.ClassFile.FieldType), 1, 9, 1),
  (yX9_hearsOfSnapshot, cX9_hearsOfSnapshot, 2, (Option.none : Option Jvm.ClassFile.FieldType), 1, 9, 1),
  (yX9_tickGoes, cX9_tickGoes, 2, (Option.none : Option Jvm.ClassFile.FieldType), 0, 9, 1),
  (yX9_nodeGoes, cX9_nodeGoes, 2, (Option.none : Option Jvm.ClassFile.FieldType), 1, 9, 1),
  (yX9_asksAll, cX9_asksAll, 2, (Option.none : Option Jvm.ClassFile.FieldType), 1, 9, 1),
  (yX9_oneTick, cX9_oneTick, 1, (Option.some Jvm.ClassFile.FieldType.boolean), 0, 9, 1),
  (yX9_ticksGo, cX9_ticksGo, 3, (Option.none : Option Jvm.ClassFile.FieldType), 1, 9, 1),
  (yX9_ticks, cX9_ticks, 2, (Option.some Jvm.ClassFile.FieldType.int), 1, 9, 1),
  (yX9_founds, cX9_founds, 4, (Option.none : Option Jvm.ClassFile.FieldType), 1, 9, 1),
  (yX9_found, cX9_found, 2, (Option.some Jvm.ClassFile.FieldType.boolean), 1, 9, 1),
  (yX9_crash, cX9_crash, 2, (Option.some Jvm.ClassFile.FieldType.boolean), 1, 9, 1),
  (yX9_comeUp, cX9_comeUp, 3, (Option.some Jvm.ClassFile.FieldType.boolean), 1, 9, 1),
  (yX9_cut, cX9_cut, 4, (Option.some Jvm.ClassFile.FieldType.boolean), 3, 9, 1),
  (yX9_compact, cX9_compact, 2, (Option.some Jvm.ClassFile.FieldType.boolean), 1, 9, 1),
  (yX9_isFull, cX9_isFull, 2, (Option.some Jvm.ClassFile.FieldType.boolean), 1, 9, 1)]
def qmp_16 : List (Nat × Nat × Nat × Nat) := [(1588, 1587, 100121, 12), (1608, 1607, 100126, 12), (1612, 1611, 100127, 12), (1400, 1399, 100078, 12), (1616, 1615, 100128, 12), (1624, 1623, 100130, 12), (1396, 1395, 100077, 12), (1392, 1391, 100076, 12), (1388, 1386, 1387, 12), (1121, 1120, 100049, 12), (1628, 1626, 1627, 12), (1632, 1630, 1631, 12), (1636, 1634, 1635, 12), (1640, 1638, 1639, 12), (1644, 1642, 1643, 12), (1656, 1655, 100132, 12)]
def qms_17 : List qMI := [(yX9_write, cX9_write, 5, (Option.some Jvm.ClassFile.FieldType.int), 3, 9, 1),
  (yX9_change, cX9_change, 4, (Option.some Jvm.ClassFile.FieldType.int), 2, 9, 1),
  (yX9_ask, cX9_ask, 4, (Option.some Jvm.ClassFile.FieldType.int), 2, 9, 1),
  (yX9_readsTimes, cX9_readsTimes, 1, (Option.none : Option Jvm.ClassFile.FieldType), 0, 9, 1),
  (yX9_repeats, cX9_repeats, 6, (Option.some Jvm.ClassFile.FieldType.boolean), 3, 9, 1),
  (yX9_readsDigit, cX9_readsDigit, 2, (Option.some Jvm.ClassFile.FieldType.boolean), 1, 9, 1),
  (yX9_readsNumbers, cX9_readsNumbers, 2, (Option.some Jvm.ClassFile.FieldType.boolean), 1, 9, 1),
  (yX9_isAct, cX9_isAct, 1, (Option.some Jvm.ClassFile.FieldType.boolean), 1, 9, 0),
  (yX9_readsAct, cX9_readsAct, 4, (Option.some Jvm.ClassFile.FieldType.boolean), 0, 9, 1),
  (yX9_isDone, cX9_isDone, 2, (Option.some Jvm.ClassFile.FieldType.boolean), 1, 9, 1),
  (yX9_plan, cX9_plan, 5, (Option.some Jvm.ClassFile.FieldType.int), 1, 9, 1),
  (yX9_leading, cX9_leading, 3, (Option.some Jvm.ClassFile.FieldType.int), 0, 9, 1),
  (yX9_leaderNow, cX9_leaderNow, 1, (Option.some Jvm.ClassFile.FieldType.int), 0, 9, 1),
  (yX9_tried, cX9_tried, 4, (Option.some Jvm.ClassFile.FieldType.int), 2, 9, 1),
  (yX9_orNone, cX9_orNone, 1, (Option.some Jvm.ClassFile.FieldType.int), 1, 9, 0),
  (yX9_nodeIs, cX9_nodeIs, 4, (Option.some Jvm.ClassFile.FieldType.int), 2, 9, 1)]
def qmp_17 : List (Nat × Nat × Nat × Nat) := [(1648, 1646, 1647, 12), (1660, 1658, 1659, 12), (1664, 1662, 1663, 12), (1676, 1675, 100134, 12), (1691, 1690, 100137, 12), (1687, 1686, 100136, 12), (1683, 1682, 100135, 12), (1679, 1678, 0, 12), (1672, 1671, 100133, 12), (1695, 1694, 100138, 12), (1668, 1666, 1667, 12), (1709, 1708, 100139, 12), (1705, 1703, 1704, 12), (1713, 1711, 1712, 12), (1723, 1722, 0, 12), (1720, 1718, 1719, 12)]
def qms_18 : List qMI := [(yX9_entryAt, cX9_entryAt, 4, (Option.some Jvm.ClassFile.FieldType.int), 3, 9, 1),
  (yX9_keyOf, cX9_keyOf, 3, (Option.some Jvm.ClassFile.FieldType.int), 2, 9, 1),
  (yX9_about, cX9_about, 4, (Option.some Jvm.ClassFile.FieldType.int), 3, 9, 1),
  (yX9_message, cX9_message, 3, (Option.some Jvm.ClassFile.FieldType.int), 2, 9, 1),
  (yX9_heldAt, cX9_heldAt, 3, (Option.some Jvm.ClassFile.FieldType.int), 2, 9, 1),
  (yX9_readIs, cX9_readIs, 4, (Option.some Jvm.ClassFile.FieldType.int), 2, 9, 1),
  (yX9_areSame, cX9_areSame, 5, (Option.some Jvm.ClassFile.FieldType.boolean), 3, 9, 1),
  (yX9_areMatched, cX9_areMatched, 5, (Option.some Jvm.ClassFile.FieldType.boolean), 2, 9, 1),
  (yX9_areAlike, cX9_areAlike, 4, (Option.some Jvm.ClassFile.FieldType.boolean), 2, 9, 1),
  (yX9_broken, cX9_broken, 5, (Option.some Jvm.ClassFile.FieldType.int), 1, 9, 1),
  (yX9_wouldGrant, cX9_wouldGrant, 5, (Option.some Jvm.ClassFile.FieldType.boolean), 2, 9, 1),
  (yX9_couldWin, cX9_couldWin, 5, (Option.some Jvm.ClassFile.FieldType.int), 2, 9, 1),
  (yX9_majority, cX9_majority, 3, (Option.some Jvm.ClassFile.FieldType.int), 2, 9, 1),
  (yX9_allHave, cX9_allHave, 2, (Option.some Jvm.ClassFile.FieldType.boolean), 0, 9, 1),
  (yX9_isSo, cX9_isSo, 3, (Option.some Jvm.ClassFile.FieldType.boolean), 2, 9, 1),
  (yX9_till, cX9_till, 5, (Option.some Jvm.ClassFile.FieldType.int), 2, 9, 1)]
def qmp_18 : List (Nat × Nat × Nat × Nat) := [(1727, 1725, 1726, 12), (1731, 1729, 1730, 12), (1735, 1733, 1734, 12), (1739, 1737, 1738, 12), (1743, 1741, 1742, 12), (1747, 1745, 1746, 12), (1759, 1758, 100141, 12), (1755, 1754, 100140, 12), (1763, 1762, 100142, 12), (1751, 1749, 1750, 12), (1771, 1770, 100143, 12), (1767, 1765, 1766, 12), (1775, 1773, 1774, 12), (1787, 1786, 100145, 12), (1783, 1782, 100144, 12), (1779, 1777, 1778, 12)]
def qms_19 : List qMI := [(yX9_seed, cX9_seed, 2, (Option.some Jvm.ClassFile.FieldType.boolean), 1, 9, 1),
  (yX9_keep, cX9_keep, 1, (Option.some Jvm.ClassFile.FieldType.int), 0, 9, 1),
  (yX9_undo, cX9_undo, 1, (Option.some Jvm.ClassFile.FieldType.boolean), 0, 9, 1),
  (yX9_greatest, cX9_greatest, 3, (Option.some Jvm.ClassFile.FieldType.int), 0, 9, 1),
  (yX9_check, cX9_check, 4, (Option.some Jvm.ClassFile.FieldType.int), 1, 9, 1),
  (yX9_upSet, cX9_upSet, 3, (Option.some Jvm.ClassFile.FieldType.int), 0, 9, 1),
  (yX9_cutMany, cX9_cutMany, 3, (Option.some Jvm.ClassFile.FieldType.int), 0, 9, 1),
  (yX9_count, cX9_count, 2, (Option.some Jvm.ClassFile.FieldType.int), 1, 9, 1),
  (yJ6_bitCount_0f7a4, cJ6_bitCount_0f7a4, 1, (Option.some Jvm.ClassFile.FieldType.int), 1, 10, 0),
  (yJ7_fill_53178, cJ7_fill_53178, 4, (Option.none : Option Jvm.ClassFile.FieldType), 2, 12, 0)]
def qmp_19 : List (Nat × Nat × Nat × Nat) := [(1791, 1789, 1790, 12), (1796, 1794, 1795, 12), (1800, 1798, 1799, 12), (1808, 1807, 100146, 12), (1804, 1802, 1803, 12), (1820, 1819, 100148, 12), (1824, 1823, 100149, 12), (1816, 1814, 1815, 12), (628, 627, 0, 14), (398, 397, 0, 10)]
def qmchk (m : qMI) (p : Nat × Nat × Nat × Nat) : Bool :=
  (match m.2.2.2.2.2.2 with
   | 0 => decide (tables_1[p.2.1]? = some (.static m.1))
   | 1 => decide (tables_1[p.2.1]? = some (.instanceMethod m.1)) && (if p.2.2.1 < 100000 then decide (tables_1[p.2.2.1]? = some (.selects m.1.cls m.1 m.1)) else decide ((lw_privs[p.2.2.1 - 100000]?).map Prod.fst = some m.1))
   | _ => decide (tables_1[p.2.1]? = some (.instanceMethod m.1)) && decide (m.1.name = "<init>") && decide (m.2.2.2.1 = none)) &&
  decide (tables_1[p.2.2.2]? = some (.initialized m.1.cls)) && plainName m.1.cls && decide (m.1.cls ≠ "java/lang/invoke/MethodHandle") && decide (m.1.cls ≠ "java/lang/invoke/VarHandle") &&
  decide ((parseMethodDescriptor m.1.desc).map (fun d => d.parameters.length) = some m.2.2.2.2.1) && decide (m.1.cls = qon m.2.2.2.2.2.1) && decide (m.2.2.2.2.2.2 < 3) && decide (m.2.2.1 ≤ 40)
def qMok (m : qMI) : Prop := Cond.code m.1 m.2.1 m.2.2.1 m.2.2.2.1 ∈ qT ∧ (m.2.2.2.2.2.2 = 0 → Cond.static m.1 ∈ qT) ∧ (m.2.2.2.2.2.2 ≠ 0 → Cond.instanceMethod m.1 ∈ qT) ∧ (m.2.2.2.2.2.2 = 1 → Cond.selects m.1.cls m.1 m.1 ∈ qT) ∧ (m.2.2.2.2.2.2 = 2 → m.1.name = "<init>" ∧ m.2.2.2.1 = none) ∧ Cond.initialized m.1.cls ∈ qT ∧ plainName m.1.cls = true ∧ m.1.cls ≠ "java/lang/invoke/MethodHandle" ∧ m.1.cls ≠ "java/lang/invoke/VarHandle" ∧ (parseMethodDescriptor m.1.desc).map (fun d => d.parameters.length) = some m.2.2.2.2.1 ∧ m.1.cls = qon m.2.2.2.2.2.1 ∧ m.2.2.2.2.2.2 < 3 ∧ m.2.2.1 ≤ 40
theorem qmchk_ok {m : qMI} {p : Nat × Nat × Nat × Nat} (h1 : Cond.code m.1 m.2.1 m.2.2.1 m.2.2.2.1 ∈ tables_1) (h : qmchk m p = true) : qMok m := by
  simp only [qmchk, Bool.and_eq_true, decide_eq_true_eq] at h
  obtain ⟨⟨⟨⟨⟨⟨⟨⟨h2, h3⟩, h4⟩, h5⟩, h6⟩, h7⟩, h8⟩, h9⟩, h10⟩ := h
  refine ⟨qT_mem h1 rfl, fun e => ?_, fun e => ?_, fun e => ?_, fun e => ?_, qT_mem (List.mem_of_getElem? h3) rfl, h4, h5, h6, h7, h8, h9, h10⟩
  · rw [e] at h2
    simp only [decide_eq_true_eq] at h2
    exact qT_mem (List.mem_of_getElem? h2) rfl
  · have e3 : m.2.2.2.2.2.2 = 1 ∨ m.2.2.2.2.2.2 = 2 := by omega
    rcases e3 with e3 | e3 <;> rw [e3] at h2 <;> simp only [Bool.and_eq_true, decide_eq_true_eq] at h2
    · exact qT_mem (List.mem_of_getElem? h2.1) rfl
    · exact qT_mem (List.mem_of_getElem? h2.1.1) rfl
  · rw [e] at h2
    simp only [Bool.and_eq_true, decide_eq_true_eq] at h2
    have h2 := h2.2
    split at h2
    · simp only [decide_eq_true_eq] at h2
      exact qT_mem (List.mem_of_getElem? h2) rfl
    · simp only [decide_eq_true_eq] at h2
      obtain ⟨q, hq, he⟩ := Option.map_eq_some_iff.mp h2
      have := qT_memS (List.mem_of_getElem? hq)
      rw [he] at this
      exact this
  · rw [e] at h2
    simp only [Bool.and_eq_true, decide_eq_true_eq] at h2
    exact ⟨h2.1.2, h2.2⟩
theorem qmchk_all {a : List qMI} {b : List (Nat × Nat × Nat × Nat)} (hl : a.length = b.length) (hc : ∀ m ∈ a, Cond.code m.1 m.2.1 m.2.2.1 m.2.2.2.1 ∈ tables_1) (h : (a.zip b).all (fun q => qmchk q.1 q.2) = true) : ∀ m ∈ a, qMok m := by
  intro m hm
  obtain ⟨i, hi, he⟩ := List.getElem_of_mem hm
  have hib : i < b.length := by omega
  have hz : (a[i], b[i]) ∈ a.zip b := by
    have : i < (a.zip b).length := by simp; omega
    have h2 : (a.zip b)[i] = (a[i], b[i]) := by simp
    rw [← h2]; exact List.getElem_mem _
  have h3 := List.all_eq_true.mp h _ hz
  rw [he] at h3
  exact qmchk_ok (hc m hm) h3
theorem qsub {k : Nat} {w : Cond} (h : w ∈ (match k with | 1 => tables_1_1 | 2 => tables_1_2 | 3 => tables_1_3 | 4 => tables_1_4 | 5 => tables_1_5 | 6 => tables_1_6 | 7 => tables_1_7 | _ => tables_1_8)) : w ∈ tables_1 := by
  simp only [tables_1, List.mem_append]
  split at h <;> simp only [h, true_or, or_true]
set_option maxRecDepth 20000 in
theorem qw_0 : Cond.code yX0_init cX0_init 1 (Option.none : Option Jvm.ClassFile.FieldType) ∈ tables_1 := qsub (k := 1) (List.mem_of_getElem? (i := 27) rfl)
set_option maxRecDepth 20000 in
theorem qw_1 : Cond.code yX0_clear cX0_clear 1 (Option.none : Option Jvm.ClassFile.FieldType) ∈ tables_1 := qsub (k := 4) (List.mem_of_getElem? (i := 127) rfl)
set_option maxRecDepth 20000 in
theorem qw_2 : Cond.code yX0_put cX0_put 3 (Option.some Jvm.ClassFile.FieldType.int) ∈ tables_1 := qsub (k := 4) (List.mem_of_getElem? (i := 143) rfl)
set_option maxRecDepth 20000 in
theorem qw_3 : Cond.code yX0_aim cX0_aim 2 (Option.none : Option Jvm.ClassFile.FieldType) ∈ tables_1 := qsub (k := 4) (List.mem_of_getElem? (i := 193) rfl)
set_option maxRecDepth 20000 in
theorem qw_4 : Cond.code yX0_give cX0_give 8 (Option.none : Option Jvm.ClassFile.FieldType) ∈ tables_1 := qsub (k := 2) (List.mem_of_getElem? (i := 187) rfl)
set_option maxRecDepth 20000 in
theorem qw_5 : Cond.code yX0_worth cX0_worth 14 (Option.some Jvm.ClassFile.FieldType.int) ∈ tables_1 := qsub (k := 2) (List.mem_of_getElem? (i := 191) rfl)
set_option maxRecDepth 20000 in
theorem qw_6 : Cond.code yX0_takeAll cX0_takeAll 2 (Option.none : Option Jvm.ClassFile.FieldType) ∈ tables_1 := qsub (k := 4) (List.mem_of_getElem? (i := 197) rfl)
set_option maxRecDepth 20000 in
theorem qw_7 : Cond.code yX1_init cX1_init 2 (Option.none : Option Jvm.ClassFile.FieldType) ∈ tables_1 := qsub (k := 2) (List.mem_of_getElem? (i := 104) rfl)
set_option maxRecDepth 20000 in
theorem qw_8 : Cond.code yX1_readRules cX1_readRules 3 (Option.some Jvm.ClassFile.FieldType.int) ∈ tables_1 := qsub (k := 4) (List.mem_of_getElem? (i := 122) rfl)
set_option maxRecDepth 20000 in
theorem qw_9 : Cond.code yX1_sign cX1_sign 1 (Option.some Jvm.ClassFile.FieldType.int) ∈ tables_1 := qsub (k := 4) (List.mem_of_getElem? (i := 135) rfl)
set_option maxRecDepth 20000 in
theorem qw_10 : Cond.code yX1_fail cX1_fail 2 (Option.none : Option Jvm.ClassFile.FieldType) ∈ tables_1 := qsub (k := 4) (List.mem_of_getElem? (i := 139) rfl)
set_option maxRecDepth 20000 in
theorem qw_11 : Cond.code yX1_expect cX1_expect 2 (Option.none : Option Jvm.ClassFile.FieldType) ∈ tables_1 := qsub (k := 4) (List.mem_of_getElem? (i := 159) rfl)
set_option maxRecDepth 20000 in
theorem qw_12 : Cond.code yX1_isNext cX1_isNext 5 (Option.some Jvm.ClassFile.FieldType.boolean) ∈ tables_1 := qsub (k := 4) (List.mem_of_getElem? (i := 173) rfl)
set_option maxRecDepth 20000 in
theorem qw_13 : Cond.code yX1_readRule cX1_readRule 3 (Option.none : Option Jvm.ClassFile.FieldType) ∈ tables_1 := qsub (k := 4) (List.mem_of_getElem? (i := 131) rfl)
set_option maxRecDepth 20000 in
theorem qw_14 : Cond.code yX1_readParts cX1_readParts 4 (Option.none : Option Jvm.ClassFile.FieldType) ∈ tables_1 := qsub (k := 4) (List.mem_of_getElem? (i := 177) rfl)
set_option maxRecDepth 20000 in
theorem qw_15 : Cond.code yX1_readTests cX1_readTests 4 (Option.none : Option Jvm.ClassFile.FieldType) ∈ tables_1 := qsub (k := 4) (List.mem_of_getElem? (i := 181) rfl)
set_option maxRecDepth 20000 in
theorem qw_16 : Cond.code yX1_readTest cX1_readTest 3 (Option.none : Option Jvm.ClassFile.FieldType) ∈ tables_1 := qsub (k := 4) (List.mem_of_getElem? (i := 185) rfl)
set_option maxRecDepth 20000 in
theorem qw_17 : Cond.code yX1_readOpened cX1_readOpened 3 (Option.none : Option Jvm.ClassFile.FieldType) ∈ tables_1 := qsub (k := 4) (List.mem_of_getElem? (i := 189) rfl)
set_option maxRecDepth 20000 in
theorem qw_18 : Cond.code yX1_readSum cX1_readSum 4 (Option.none : Option Jvm.ClassFile.FieldType) ∈ tables_1 := qsub (k := 4) (List.mem_of_getElem? (i := 147) rfl)
set_option maxRecDepth 20000 in
theorem qw_19 : Cond.code yX1_readProduct cX1_readProduct 4 (Option.none : Option Jvm.ClassFile.FieldType) ∈ tables_1 := qsub (k := 4) (List.mem_of_getElem? (i := 151) rfl)
set_option maxRecDepth 20000 in
theorem qw_20 : Cond.code yX1_readFactor cX1_readFactor 4 (Option.none : Option Jvm.ClassFile.FieldType) ∈ tables_1 := qsub (k := 4) (List.mem_of_getElem? (i := 155) rfl)
set_option maxRecDepth 20000 in
theorem qw_21 : Cond.code yX1_readNumber cX1_readNumber 3 (Option.none : Option Jvm.ClassFile.FieldType) ∈ tables_1 := qsub (k := 4) (List.mem_of_getElem? (i := 166) rfl)
set_option maxRecDepth 20000 in
theorem qw_22 : Cond.code yX1_isDigit cX1_isDigit 1 (Option.some Jvm.ClassFile.FieldType.boolean) ∈ tables_1 := qsub (k := 4) (List.mem_of_getElem? (i := 162) rfl)
set_option maxRecDepth 20000 in
theorem qw_23 : Cond.code yX1_letterPlace cX1_letterPlace 1 (Option.some Jvm.ClassFile.FieldType.int) ∈ tables_1 := qsub (k := 4) (List.mem_of_getElem? (i := 169) rfl)
set_option maxRecDepth 20000 in
theorem qw_24 : Cond.code yX2_init cX2_init 1 (Option.none : Option Jvm.ClassFile.FieldType) ∈ tables_1 := qsub (k := 1) (List.mem_of_getElem? (i := 64) rfl)
set_option maxRecDepth 20000 in
theorem qw_25 : Cond.code yX2_begin cX2_begin 4 (Option.none : Option Jvm.ClassFile.FieldType) ∈ tables_1 := qsub (k := 3) (List.mem_of_getElem? (i := 109) rfl)
set_option maxRecDepth 20000 in
theorem qw_26 : Cond.code yX2_bearEntries cX2_bearEntries 4 (Option.none : Option Jvm.ClassFile.FieldType) ∈ tables_1 := qsub (k := 3) (List.mem_of_getElem? (i := 127) rfl)
set_option maxRecDepth 20000 in
theorem qw_27 : Cond.code yX2_fact cX2_fact 2 (Option.some Jvm.ClassFile.FieldType.int) ∈ tables_1 := qsub (k := 5) (List.mem_of_getElem? (i := 73) rfl)
set_option maxRecDepth 20000 in
theorem qw_28 : Cond.code yX2_takeAll cX2_takeAll 2 (Option.none : Option Jvm.ClassFile.FieldType) ∈ tables_1 := qsub (k := 4) (List.mem_of_getElem? (i := 95) rfl)
set_option maxRecDepth 20000 in
theorem qw_29 : Cond.code yX3_init cX3_init 2 (Option.none : Option Jvm.ClassFile.FieldType) ∈ tables_1 := qsub (k := 1) (List.mem_of_getElem? (i := 156) rfl)
set_option maxRecDepth 20000 in
theorem qw_30 : Cond.code yX3_begin cX3_begin 2 (Option.none : Option Jvm.ClassFile.FieldType) ∈ tables_1 := qsub (k := 2) (List.mem_of_getElem? (i := 162) rfl)
set_option maxRecDepth 20000 in
theorem qw_31 : Cond.code yX3_rise cX3_rise 1 (Option.none : Option Jvm.ClassFile.FieldType) ∈ tables_1 := qsub (k := 2) (List.mem_of_getElem? (i := 171) rfl)
set_option maxRecDepth 20000 in
theorem qw_32 : Cond.code yX3_leads cX3_leads 1 (Option.some Jvm.ClassFile.FieldType.boolean) ∈ tables_1 := qsub (k := 3) (List.mem_of_getElem? (i := 57) rfl)
set_option maxRecDepth 20000 in
theorem qw_33 : Cond.code yX3_base cX3_base 1 (Option.some Jvm.ClassFile.FieldType.int) ∈ tables_1 := qsub (k := 3) (List.mem_of_getElem? (i := 20) rfl)
set_option maxRecDepth 20000 in
theorem qw_34 : Cond.code yX3_last cX3_last 1 (Option.some Jvm.ClassFile.FieldType.int) ∈ tables_1 := qsub (k := 3) (List.mem_of_getElem? (i := 65) rfl)
set_option maxRecDepth 20000 in
theorem qw_35 : Cond.code yX3_entry cX3_entry 3 (Option.some Jvm.ClassFile.FieldType.int) ∈ tables_1 := qsub (k := 3) (List.mem_of_getElem? (i := 32) rfl)
set_option maxRecDepth 20000 in
theorem qw_36 : Cond.code yX3_termAt cX3_termAt 3 (Option.some Jvm.ClassFile.FieldType.int) ∈ tables_1 := qsub (k := 3) (List.mem_of_getElem? (i := 36) rfl)
set_option maxRecDepth 20000 in
theorem qw_37 : Cond.code yX3_isFull cX3_isFull 1 (Option.some Jvm.ClassFile.FieldType.boolean) ∈ tables_1 := qsub (k := 3) (List.mem_of_getElem? (i := 61) rfl)
set_option maxRecDepth 20000 in
theorem qw_38 : Cond.code yX3_configIndex cX3_configIndex 4 (Option.some Jvm.ClassFile.FieldType.int) ∈ tables_1 := qsub (k := 3) (List.mem_of_getElem? (i := 28) rfl)
set_option maxRecDepth 20000 in
theorem qw_39 : Cond.code yX3_oldsAt cX3_oldsAt 2 (Option.some Jvm.ClassFile.FieldType.int) ∈ tables_1 := qsub (k := 3) (List.mem_of_getElem? (i := 86) rfl)
set_option maxRecDepth 20000 in
theorem qw_40 : Cond.code yX3_newsAt cX3_newsAt 2 (Option.some Jvm.ClassFile.FieldType.int) ∈ tables_1 := qsub (k := 3) (List.mem_of_getElem? (i := 90) rfl)
set_option maxRecDepth 20000 in
theorem qw_41 : Cond.code yX3_members cX3_members 2 (Option.some Jvm.ClassFile.FieldType.int) ∈ tables_1 := qsub (k := 3) (List.mem_of_getElem? (i := 82) rfl)
set_option maxRecDepth 20000 in
theorem qw_42 : Cond.code yX3_isMember cX3_isMember 1 (Option.some Jvm.ClassFile.FieldType.boolean) ∈ tables_1 := qsub (k := 4) (List.mem_of_getElem? (i := 64) rfl)
set_option maxRecDepth 20000 in
theorem qw_43 : Cond.code yX3_isMajority cX3_isMajority 3 (Option.some Jvm.ClassFile.FieldType.boolean) ∈ tables_1 := qsub (k := 3) (List.mem_of_getElem? (i := 209) rfl)
set_option maxRecDepth 20000 in
theorem qw_44 : Cond.code yX3_isAheadOf cX3_isAheadOf 4 (Option.some Jvm.ClassFile.FieldType.boolean) ∈ tables_1 := qsub (k := 3) (List.mem_of_getElem? (i := 237) rfl)
set_option maxRecDepth 20000 in
theorem qw_45 : Cond.code yX3_lay cX3_lay 2 (Option.some Jvm.ClassFile.FieldType.boolean) ∈ tables_1 := qsub (k := 3) (List.mem_of_getElem? (i := 76) rfl)
set_option maxRecDepth 20000 in
theorem qw_46 : Cond.code yX3_shorten cX3_shorten 3 (Option.none : Option Jvm.ClassFile.FieldType) ∈ tables_1 := qsub (k := 3) (List.mem_of_getElem? (i := 24) rfl)
set_option maxRecDepth 20000 in
theorem qw_47 : Cond.code yX3_dropUpTo cX3_dropUpTo 4 (Option.none : Option Jvm.ClassFile.FieldType) ∈ tables_1 := qsub (k := 3) (List.mem_of_getElem? (i := 40) rfl)
set_option maxRecDepth 20000 in
theorem qw_48 : Cond.code yX3_dropFrom cX3_dropFrom 2 (Option.none : Option Jvm.ClassFile.FieldType) ∈ tables_1 := qsub (k := 4) (List.mem_of_getElem? (i := 37) rfl)
set_option maxRecDepth 20000 in
theorem qw_49 : Cond.code yX3_install cX3_install 3 (Option.none : Option Jvm.ClassFile.FieldType) ∈ tables_1 := qsub (k := 4) (List.mem_of_getElem? (i := 46) rfl)
set_option maxRecDepth 20000 in
theorem qw_50 : Cond.code yX3_hintAgainst cX3_hintAgainst 6 (Option.some Jvm.ClassFile.FieldType.int) ∈ tables_1 := qsub (k := 4) (List.mem_of_getElem? (i := 24) rfl)
set_option maxRecDepth 20000 in
theorem qw_51 : Cond.code yX3_becomeCandidate cX3_becomeCandidate 1 (Option.none : Option Jvm.ClassFile.FieldType) ∈ tables_1 := qsub (k := 4) (List.mem_of_getElem? (i := 70) rfl)
set_option maxRecDepth 20000 in
theorem qw_52 : Cond.code yX3_becomeLeader cX3_becomeLeader 1 (Option.none : Option Jvm.ClassFile.FieldType) ∈ tables_1 := qsub (k := 4) (List.mem_of_getElem? (i := 14) rfl)
set_option maxRecDepth 20000 in
theorem qw_53 : Cond.code yX3_winsBy cX3_winsBy 2 (Option.some Jvm.ClassFile.FieldType.boolean) ∈ tables_1 := qsub (k := 4) (List.mem_of_getElem? (i := 5) rfl)
set_option maxRecDepth 20000 in
theorem qw_54 : Cond.code yX3_matchedByMajority cX3_matchedByMajority 5 (Option.some Jvm.ClassFile.FieldType.int) ∈ tables_1 := qsub (k := 3) (List.mem_of_getElem? (i := 138) rfl)
set_option maxRecDepth 20000 in
theorem qw_55 : Cond.code yX3_thoseWithMatch cX3_thoseWithMatch 4 (Option.some Jvm.ClassFile.FieldType.int) ∈ tables_1 := qsub (k := 3) (List.mem_of_getElem? (i := 142) rfl)
set_option maxRecDepth 20000 in
theorem qw_56 : Cond.code yX3_thoseWithHeard cX3_thoseWithHeard 4 (Option.some Jvm.ClassFile.FieldType.int) ∈ tables_1 := qsub (k := 3) (List.mem_of_getElem? (i := 205) rfl)
set_option maxRecDepth 20000 in
theorem qw_57 : Cond.code yX3_hasSameKeys cX3_hasSameKeys 3 (Option.some Jvm.ClassFile.FieldType.boolean) ∈ tables_1 := qsub (k := 5) (List.mem_of_getElem? (i := 108) rfl)
set_option maxRecDepth 20000 in
theorem qw_58 : Cond.code yX3_isMatchedWith cX3_isMatchedWith 6 (Option.some Jvm.ClassFile.FieldType.boolean) ∈ tables_1 := qsub (k := 5) (List.mem_of_getElem? (i := 97) rfl)
set_option maxRecDepth 20000 in
theorem qw_59 : Cond.code yX3_fact cX3_fact 2 (Option.some Jvm.ClassFile.FieldType.int) ∈ tables_1 := qsub (k := 5) (List.mem_of_getElem? (i := 41) rfl)
set_option maxRecDepth 20000 in
theorem qw_60 : Cond.code yX3_takeAll cX3_takeAll 2 (Option.none : Option Jvm.ClassFile.FieldType) ∈ tables_1 := qsub (k := 4) (List.mem_of_getElem? (i := 91) rfl)
set_option maxRecDepth 20000 in
theorem qw_61 : Cond.code yX4_init cX4_init 2 (Option.none : Option Jvm.ClassFile.FieldType) ∈ tables_1 := qsub (k := 2) (List.mem_of_getElem? (i := 129) rfl)
set_option maxRecDepth 20000 in
theorem qw_62 : Cond.code yX4_signOf cX4_signOf 1 (Option.some Jvm.ClassFile.FieldType.int) ∈ tables_1 := qsub (k := 5) (List.mem_of_getElem? (i := 3) rfl)
set_option maxRecDepth 20000 in
theorem qw_63 : Cond.code yX4_digitOf cX4_digitOf 2 (Option.some Jvm.ClassFile.FieldType.int) ∈ tables_1 := qsub (k := 4) (List.mem_of_getElem? (i := 236) rfl)
set_option maxRecDepth 20000 in
theorem qw_64 : Cond.code yX4_readPlan cX4_readPlan 3 (Option.some Jvm.ClassFile.FieldType.int) ∈ tables_1 := qsub (k := 4) (List.mem_of_getElem? (i := 206) rfl)
set_option maxRecDepth 20000 in
theorem qw_65 : Cond.code yX4_sign cX4_sign 1 (Option.some Jvm.ClassFile.FieldType.int) ∈ tables_1 := qsub (k := 4) (List.mem_of_getElem? (i := 215) rfl)
set_option maxRecDepth 20000 in
theorem qw_66 : Cond.code yX4_fail cX4_fail 3 (Option.none : Option Jvm.ClassFile.FieldType) ∈ tables_1 := qsub (k := 4) (List.mem_of_getElem? (i := 223) rfl)
set_option maxRecDepth 20000 in
theorem qw_67 : Cond.code yX4_readAct cX4_readAct 5 (Option.none : Option Jvm.ClassFile.FieldType) ∈ tables_1 := qsub (k := 4) (List.mem_of_getElem? (i := 211) rfl)
set_option maxRecDepth 20000 in
theorem qw_68 : Cond.code yX4_readGroup cX4_readGroup 3 (Option.none : Option Jvm.ClassFile.FieldType) ∈ tables_1 := qsub (k := 4) (List.mem_of_getElem? (i := 219) rfl)
set_option maxRecDepth 20000 in
theorem qw_69 : Cond.code yX4_readSingle cX4_readSingle 8 (Option.none : Option Jvm.ClassFile.FieldType) ∈ tables_1 := qsub (k := 4) (List.mem_of_getElem? (i := 227) rfl)
set_option maxRecDepth 20000 in
theorem qw_70 : Cond.code yX4_repeat cX4_repeat 7 (Option.none : Option Jvm.ClassFile.FieldType) ∈ tables_1 := qsub (k := 5) (List.mem_of_getElem? (i := 0) rfl)
set_option maxRecDepth 20000 in
theorem qw_71 : Cond.code yX4_digitCount cX4_digitCount 1 (Option.some Jvm.ClassFile.FieldType.int) ∈ tables_1 := qsub (k := 4) (List.mem_of_getElem? (i := 230) rfl)
set_option maxRecDepth 20000 in
theorem qw_72 : Cond.code yX4_mostDigit cX4_mostDigit 2 (Option.some Jvm.ClassFile.FieldType.int) ∈ tables_1 := qsub (k := 4) (List.mem_of_getElem? (i := 233) rfl)
set_option maxRecDepth 20000 in
theorem qw_73 : Cond.code yX5_init cX5_init 1 (Option.none : Option Jvm.ClassFile.FieldType) ∈ tables_1 := qsub (k := 2) (List.mem_of_getElem? (i := 8) rfl)
set_option maxRecDepth 20000 in
theorem qw_74 : Cond.code yX5_takeAll cX5_takeAll 2 (Option.none : Option Jvm.ClassFile.FieldType) ∈ tables_1 := qsub (k := 4) (List.mem_of_getElem? (i := 101) rfl)
set_option maxRecDepth 20000 in
theorem qw_75 : Cond.code yX6_init cX6_init 1 (Option.none : Option Jvm.ClassFile.FieldType) ∈ tables_1 := qsub (k := 1) (List.mem_of_getElem? (i := 70) rfl)
set_option maxRecDepth 20000 in
theorem qw_76 : Cond.code yX6_begin cX6_begin 2 (Option.none : Option Jvm.ClassFile.FieldType) ∈ tables_1 := qsub (k := 2) (List.mem_of_getElem? (i := 166) rfl)
set_option maxRecDepth 20000 in
theorem qw_77 : Cond.code yX6_takeAll cX6_takeAll 2 (Option.none : Option Jvm.ClassFile.FieldType) ∈ tables_1 := qsub (k := 3) (List.mem_of_getElem? (i := 113) rfl)
set_option maxRecDepth 20000 in
theorem qw_78 : Cond.code yX7_init cX7_init 3 (Option.none : Option Jvm.ClassFile.FieldType) ∈ tables_1 := qsub (k := 1) (List.mem_of_getElem? (i := 55) rfl)
set_option maxRecDepth 20000 in
theorem qw_79 : Cond.code yX7_begin cX7_begin 3 (Option.none : Option Jvm.ClassFile.FieldType) ∈ tables_1 := qsub (k := 2) (List.mem_of_getElem? (i := 155) rfl)
set_option maxRecDepth 20000 in
theorem qw_80 : Cond.code yX7_passTick cX7_passTick 5 (Option.some Jvm.ClassFile.FieldType.boolean) ∈ tables_1 := qsub (k := 3) (List.mem_of_getElem? (i := 220) rfl)
set_option maxRecDepth 20000 in
theorem qw_81 : Cond.code yX7_takeOut cX7_takeOut 4 (Option.none : Option Jvm.ClassFile.FieldType) ∈ tables_1 := qsub (k := 3) (List.mem_of_getElem? (i := 224) rfl)
set_option maxRecDepth 20000 in
theorem qw_82 : Cond.code yX7_beat cX7_beat 2 (Option.none : Option Jvm.ClassFile.FieldType) ∈ tables_1 := qsub (k := 4) (List.mem_of_getElem? (i := 56) rfl)
set_option maxRecDepth 20000 in
theorem qw_83 : Cond.code yX7_draw cX7_draw 1 (Option.some Jvm.ClassFile.FieldType.int) ∈ tables_1 := qsub (k := 2) (List.mem_of_getElem? (i := 182) rfl)
set_option maxRecDepth 20000 in
theorem qw_84 : Cond.code yX7_setTimer cX7_setTimer 3 (Option.none : Option Jvm.ClassFile.FieldType) ∈ tables_1 := qsub (k := 2) (List.mem_of_getElem? (i := 178) rfl)
set_option maxRecDepth 20000 in
theorem qw_85 : Cond.code yX7_spare cX7_spare 5 (Option.some (Jvm.ClassFile.FieldType.object "TermLog$Message")) ∈ tables_1 := qsub (k := 3) (List.mem_of_getElem? (i := 102) rfl)
set_option maxRecDepth 20000 in
theorem qw_86 : Cond.code yX7_post cX7_post 6 (Option.none : Option Jvm.ClassFile.FieldType) ∈ tables_1 := qsub (k := 3) (List.mem_of_getElem? (i := 118) rfl)
set_option maxRecDepth 20000 in
theorem qw_87 : Cond.code yX7_lose cX7_lose 1 (Option.none : Option Jvm.ClassFile.FieldType) ∈ tables_1 := qsub (k := 3) (List.mem_of_getElem? (i := 122) rfl)
set_option maxRecDepth 20000 in
theorem qw_88 : Cond.code yX7_sendOn cX7_sendOn 5 (Option.none : Option Jvm.ClassFile.FieldType) ∈ tables_1 := qsub (k := 3) (List.mem_of_getElem? (i := 94) rfl)
set_option maxRecDepth 20000 in
theorem qw_89 : Cond.code yX7_callForVotes cX7_callForVotes 5 (Option.none : Option Jvm.ClassFile.FieldType) ∈ tables_1 := qsub (k := 4) (List.mem_of_getElem? (i := 74) rfl)
set_option maxRecDepth 20000 in
theorem qw_90 : Cond.code yX7_answer cX7_answer 7 (Option.none : Option Jvm.ClassFile.FieldType) ∈ tables_1 := qsub (k := 4) (List.mem_of_getElem? (i := 1) rfl)
set_option maxRecDepth 20000 in
theorem qw_91 : Cond.code yX7_handOver cX7_handOver 3 (Option.none : Option Jvm.ClassFile.FieldType) ∈ tables_1 := qsub (k := 3) (List.mem_of_getElem? (i := 228) rfl)
set_option maxRecDepth 20000 in
theorem qw_92 : Cond.code yX7_grantOrNot cX7_grantOrNot 5 (Option.none : Option Jvm.ClassFile.FieldType) ∈ tables_1 := qsub (k := 3) (List.mem_of_getElem? (i := 233) rfl)
set_option maxRecDepth 20000 in
theorem qw_93 : Cond.code yX7_takeEntries cX7_takeEntries 6 (Option.none : Option Jvm.ClassFile.FieldType) ∈ tables_1 := qsub (k := 4) (List.mem_of_getElem? (i := 20) rfl)
set_option maxRecDepth 20000 in
theorem qw_94 : Cond.code yX7_place cX7_place 4 (Option.some Jvm.ClassFile.FieldType.boolean) ∈ tables_1 := qsub (k := 4) (List.mem_of_getElem? (i := 29) rfl)
set_option maxRecDepth 20000 in
theorem qw_95 : Cond.code yX7_takeSnapshot cX7_takeSnapshot 3 (Option.none : Option Jvm.ClassFile.FieldType) ∈ tables_1 := qsub (k := 4) (List.mem_of_getElem? (i := 42) rfl)
set_option maxRecDepth 20000 in
theorem qw_96 : Cond.code yX7_hearAnswer cX7_hearAnswer 5 (Option.none : Option Jvm.ClassFile.FieldType) ∈ tables_1 := qsub (k := 4) (List.mem_of_getElem? (i := 51) rfl)
set_option maxRecDepth 20000 in
theorem qw_97 : Cond.code yX7_follow cX7_follow 3 (Option.none : Option Jvm.ClassFile.FieldType) ∈ tables_1 := qsub (k := 3) (List.mem_of_getElem? (i := 180) rfl)
set_option maxRecDepth 20000 in
theorem qw_98 : Cond.code yX7_stand cX7_stand 2 (Option.none : Option Jvm.ClassFile.FieldType) ∈ tables_1 := qsub (k := 4) (List.mem_of_getElem? (i := 60) rfl)
set_option maxRecDepth 20000 in
theorem qw_99 : Cond.code yX7_crown cX7_crown 3 (Option.none : Option Jvm.ClassFile.FieldType) ∈ tables_1 := qsub (k := 4) (List.mem_of_getElem? (i := 10) rfl)
set_option maxRecDepth 20000 in
theorem qw_100 : Cond.code yX7_goDown cX7_goDown 2 (Option.none : Option Jvm.ClassFile.FieldType) ∈ tables_1 := qsub (k := 2) (List.mem_of_getElem? (i := 234) rfl)
set_option maxRecDepth 20000 in
theorem qw_101 : Cond.code yX7_layAndSpread cX7_layAndSpread 6 (Option.some Jvm.ClassFile.FieldType.int) ∈ tables_1 := qsub (k := 3) (List.mem_of_getElem? (i := 69) rfl)
set_option maxRecDepth 20000 in
theorem qw_102 : Cond.code yX7_hold cX7_hold 5 (Option.none : Option Jvm.ClassFile.FieldType) ∈ tables_1 := qsub (k := 3) (List.mem_of_getElem? (i := 134) rfl)
set_option maxRecDepth 20000 in
theorem qw_103 : Cond.code yX7_leave cX7_leave 2 (Option.none : Option Jvm.ClassFile.FieldType) ∈ tables_1 := qsub (k := 3) (List.mem_of_getElem? (i := 176) rfl)
set_option maxRecDepth 20000 in
theorem qw_104 : Cond.code yX7_raiseCommit cX7_raiseCommit 4 (Option.none : Option Jvm.ClassFile.FieldType) ∈ tables_1 := qsub (k := 3) (List.mem_of_getElem? (i := 155) rfl)
set_option maxRecDepth 20000 in
theorem qw_105 : Cond.code yX7_seeHeld cX7_seeHeld 4 (Option.none : Option Jvm.ClassFile.FieldType) ∈ tables_1 := qsub (k := 3) (List.mem_of_getElem? (i := 160) rfl)
set_option maxRecDepth 20000 in
theorem qw_106 : Cond.code yX7_openRead cX7_openRead 4 (Option.some Jvm.ClassFile.FieldType.int) ∈ tables_1 := qsub (k := 3) (List.mem_of_getElem? (i := 197) rfl)
set_option maxRecDepth 20000 in
theorem qw_107 : Cond.code yX7_answerReads cX7_answerReads 4 (Option.none : Option Jvm.ClassFile.FieldType) ∈ tables_1 := qsub (k := 3) (List.mem_of_getElem? (i := 201) rfl)
set_option maxRecDepth 20000 in
theorem qw_108 : Cond.code yX7_loseReads cX7_loseReads 4 (Option.none : Option Jvm.ClassFile.FieldType) ∈ tables_1 := qsub (k := 2) (List.mem_of_getElem? (i := 238) rfl)
set_option maxRecDepth 20000 in
theorem qw_109 : Cond.code yX7_setLink cX7_setLink 4 (Option.none : Option Jvm.ClassFile.FieldType) ∈ tables_1 := qsub (k := 3) (List.mem_of_getElem? (i := 12) rfl)
set_option maxRecDepth 20000 in
theorem qw_110 : Cond.code yX7_cutCount cX7_cutCount 3 (Option.some Jvm.ClassFile.FieldType.int) ∈ tables_1 := qsub (k := 5) (List.mem_of_getElem? (i := 150) rfl)
set_option maxRecDepth 20000 in
theorem qw_111 : Cond.code yX7_upBits cX7_upBits 3 (Option.some Jvm.ClassFile.FieldType.int) ∈ tables_1 := qsub (k := 5) (List.mem_of_getElem? (i := 146) rfl)
set_option maxRecDepth 20000 in
theorem qw_112 : Cond.code yX7_firstLeader cX7_firstLeader 4 (Option.some Jvm.ClassFile.FieldType.int) ∈ tables_1 := qsub (k := 5) (List.mem_of_getElem? (i := 33) rfl)
set_option maxRecDepth 20000 in
theorem qw_113 : Cond.code yX7_furthestUp cX7_furthestUp 4 (Option.some (Jvm.ClassFile.FieldType.object "TermLog$Node")) ∈ tables_1 := qsub (k := 5) (List.mem_of_getElem? (i := 22) rfl)
set_option maxRecDepth 20000 in
theorem qw_114 : Cond.code yX7_allUpHaveHeld cX7_allUpHaveHeld 2 (Option.some Jvm.ClassFile.FieldType.boolean) ∈ tables_1 := qsub (k := 5) (List.mem_of_getElem? (i := 138) rfl)
set_option maxRecDepth 20000 in
theorem qw_115 : Cond.code yX7_unmatchedTwos cX7_unmatchedTwos 4 (Option.some Jvm.ClassFile.FieldType.int) ∈ tables_1 := qsub (k := 5) (List.mem_of_getElem? (i := 93) rfl)
set_option maxRecDepth 20000 in
theorem qw_116 : Cond.code yX7_unlikeTwos cX7_unlikeTwos 4 (Option.some Jvm.ClassFile.FieldType.int) ∈ tables_1 := qsub (k := 5) (List.mem_of_getElem? (i := 101) rfl)
set_option maxRecDepth 20000 in
theorem qw_117 : Cond.code yX7_isUnlike cX7_isUnlike 2 (Option.some Jvm.ClassFile.FieldType.boolean) ∈ tables_1 := qsub (k := 5) (List.mem_of_getElem? (i := 104) rfl)
set_option maxRecDepth 20000 in
theorem qw_118 : Cond.code yX7_grantingTo cX7_grantingTo 5 (Option.some Jvm.ClassFile.FieldType.int) ∈ tables_1 := qsub (k := 5) (List.mem_of_getElem? (i := 117) rfl)
set_option maxRecDepth 20000 in
theorem qw_119 : Cond.code yX7_wouldGrant cX7_wouldGrant 5 (Option.some Jvm.ClassFile.FieldType.boolean) ∈ tables_1 := qsub (k := 5) (List.mem_of_getElem? (i := 121) rfl)
set_option maxRecDepth 20000 in
theorem qw_120 : Cond.code yX7_takeAll cX7_takeAll 3 (Option.none : Option Jvm.ClassFile.FieldType) ∈ tables_1 := qsub (k := 4) (List.mem_of_getElem? (i := 87) rfl)
set_option maxRecDepth 20000 in
theorem qw_121 : Cond.code yX8_init cX8_init 1 (Option.none : Option Jvm.ClassFile.FieldType) ∈ tables_1 := qsub (k := 1) (List.mem_of_getElem? (i := 19) rfl)
set_option maxRecDepth 20000 in
theorem qw_122 : Cond.code yX8_found cX8_found 2 (Option.some Jvm.ClassFile.FieldType.boolean) ∈ tables_1 := qsub (k := 2) (List.mem_of_getElem? (i := 223) rfl)
set_option maxRecDepth 20000 in
theorem qw_123 : Cond.code yX8_crash cX8_crash 2 (Option.some Jvm.ClassFile.FieldType.boolean) ∈ tables_1 := qsub (k := 2) (List.mem_of_getElem? (i := 227) rfl)
set_option maxRecDepth 20000 in
theorem qw_124 : Cond.code yX8_comeUp cX8_comeUp 2 (Option.some Jvm.ClassFile.FieldType.boolean) ∈ tables_1 := qsub (k := 3) (List.mem_of_getElem? (i := 2) rfl)
set_option maxRecDepth 20000 in
theorem qw_125 : Cond.code yX8_cut cX8_cut 4 (Option.some Jvm.ClassFile.FieldType.boolean) ∈ tables_1 := qsub (k := 3) (List.mem_of_getElem? (i := 8) rfl)
set_option maxRecDepth 20000 in
theorem qw_126 : Cond.code yX8_compact cX8_compact 3 (Option.some Jvm.ClassFile.FieldType.boolean) ∈ tables_1 := qsub (k := 3) (List.mem_of_getElem? (i := 16) rfl)
set_option maxRecDepth 20000 in
theorem qw_127 : Cond.code yX8_write cX8_write 5 (Option.some Jvm.ClassFile.FieldType.int) ∈ tables_1 := qsub (k := 3) (List.mem_of_getElem? (i := 50) rfl)
set_option maxRecDepth 20000 in
theorem qw_128 : Cond.code yX8_change cX8_change 6 (Option.some Jvm.ClassFile.FieldType.int) ∈ tables_1 := qsub (k := 3) (List.mem_of_getElem? (i := 184) rfl)
set_option maxRecDepth 20000 in
theorem qw_129 : Cond.code yX8_ask cX8_ask 4 (Option.some Jvm.ClassFile.FieldType.int) ∈ tables_1 := qsub (k := 3) (List.mem_of_getElem? (i := 192) rfl)
set_option maxRecDepth 20000 in
theorem qw_130 : Cond.code yX8_ticks cX8_ticks 5 (Option.some Jvm.ClassFile.FieldType.int) ∈ tables_1 := qsub (k := 3) (List.mem_of_getElem? (i := 213) rfl)
set_option maxRecDepth 20000 in
theorem qw_131 : Cond.code yX8_seed cX8_seed 2 (Option.some Jvm.ClassFile.FieldType.boolean) ∈ tables_1 := qsub (k := 4) (List.mem_of_getElem? (i := 78) rfl)
set_option maxRecDepth 20000 in
theorem qw_132 : Cond.code yX8_keep cX8_keep 1 (Option.some Jvm.ClassFile.FieldType.int) ∈ tables_1 := qsub (k := 4) (List.mem_of_getElem? (i := 83) rfl)
set_option maxRecDepth 20000 in
theorem qw_133 : Cond.code yX8_undo cX8_undo 1 (Option.some Jvm.ClassFile.FieldType.boolean) ∈ tables_1 := qsub (k := 4) (List.mem_of_getElem? (i := 106) rfl)
set_option maxRecDepth 20000 in
theorem qw_134 : Cond.code yX8_feed cX8_feed 6 (Option.some Jvm.ClassFile.FieldType.int) ∈ tables_1 := qsub (k := 4) (List.mem_of_getElem? (i := 110) rfl)
set_option maxRecDepth 20000 in
theorem qw_135 : Cond.code yX8_law cX8_law 3 (Option.some Jvm.ClassFile.FieldType.int) ∈ tables_1 := qsub (k := 4) (List.mem_of_getElem? (i := 118) rfl)
set_option maxRecDepth 20000 in
theorem qw_136 : Cond.code yX8_plan cX8_plan 7 (Option.some Jvm.ClassFile.FieldType.int) ∈ tables_1 := qsub (k := 4) (List.mem_of_getElem? (i := 202) rfl)
set_option maxRecDepth 20000 in
theorem qw_137 : Cond.code yX8_check cX8_check 5 (Option.some Jvm.ClassFile.FieldType.int) ∈ tables_1 := qsub (k := 5) (List.mem_of_getElem? (i := 18) rfl)
set_option maxRecDepth 20000 in
theorem qw_138 : Cond.code yX8_tried cX8_tried 5 (Option.some Jvm.ClassFile.FieldType.int) ∈ tables_1 := qsub (k := 5) (List.mem_of_getElem? (i := 26) rfl)
set_option maxRecDepth 20000 in
theorem qw_139 : Cond.code yX8_nodeIs cX8_nodeIs 5 (Option.some Jvm.ClassFile.FieldType.int) ∈ tables_1 := qsub (k := 5) (List.mem_of_getElem? (i := 37) rfl)
set_option maxRecDepth 20000 in
theorem qw_140 : Cond.code yX8_entryAt cX8_entryAt 5 (Option.some Jvm.ClassFile.FieldType.int) ∈ tables_1 := qsub (k := 5) (List.mem_of_getElem? (i := 46) rfl)
set_option maxRecDepth 20000 in
theorem qw_141 : Cond.code yX8_keyOf cX8_keyOf 4 (Option.some Jvm.ClassFile.FieldType.int) ∈ tables_1 := qsub (k := 5) (List.mem_of_getElem? (i := 61) rfl)
set_option maxRecDepth 20000 in
theorem qw_142 : Cond.code yX8_about cX8_about 5 (Option.some Jvm.ClassFile.FieldType.int) ∈ tables_1 := qsub (k := 5) (List.mem_of_getElem? (i := 65) rfl)
set_option maxRecDepth 20000 in
theorem qw_143 : Cond.code yX8_message cX8_message 3 (Option.some Jvm.ClassFile.FieldType.int) ∈ tables_1 := qsub (k := 5) (List.mem_of_getElem? (i := 69) rfl)
set_option maxRecDepth 20000 in
theorem qw_144 : Cond.code yX8_leaderNow cX8_leaderNow 1 (Option.some Jvm.ClassFile.FieldType.int) ∈ tables_1 := qsub (k := 5) (List.mem_of_getElem? (i := 77) rfl)
set_option maxRecDepth 20000 in
theorem qw_145 : Cond.code yX8_heldAt cX8_heldAt 3 (Option.some Jvm.ClassFile.FieldType.int) ∈ tables_1 := qsub (k := 5) (List.mem_of_getElem? (i := 81) rfl)
set_option maxRecDepth 20000 in
theorem qw_146 : Cond.code yX8_readIs cX8_readIs 4 (Option.some Jvm.ClassFile.FieldType.int) ∈ tables_1 := qsub (k := 5) (List.mem_of_getElem? (i := 85) rfl)
set_option maxRecDepth 20000 in
theorem qw_147 : Cond.code yX8_broken cX8_broken 2 (Option.some Jvm.ClassFile.FieldType.int) ∈ tables_1 := qsub (k := 5) (List.mem_of_getElem? (i := 89) rfl)
set_option maxRecDepth 20000 in
theorem qw_148 : Cond.code yX8_couldWin cX8_couldWin 5 (Option.some Jvm.ClassFile.FieldType.int) ∈ tables_1 := qsub (k := 5) (List.mem_of_getElem? (i := 112) rfl)
set_option maxRecDepth 20000 in
theorem qw_149 : Cond.code yX8_majority cX8_majority 3 (Option.some Jvm.ClassFile.FieldType.int) ∈ tables_1 := qsub (k := 5) (List.mem_of_getElem? (i := 126) rfl)
set_option maxRecDepth 20000 in
theorem qw_150 : Cond.code yX8_till cX8_till 4 (Option.some Jvm.ClassFile.FieldType.int) ∈ tables_1 := qsub (k := 5) (List.mem_of_getElem? (i := 130) rfl)
set_option maxRecDepth 20000 in
theorem qw_151 : Cond.code yX8_count cX8_count 2 (Option.some Jvm.ClassFile.FieldType.int) ∈ tables_1 := qsub (k := 5) (List.mem_of_getElem? (i := 142) rfl)
set_option maxRecDepth 20000 in
theorem qw_152 : Cond.code yX8_isNode cX8_isNode 1 (Option.some Jvm.ClassFile.FieldType.boolean) ∈ tables_1 := qsub (k := 2) (List.mem_of_getElem? (i := 230) rfl)
set_option maxRecDepth 20000 in
theorem qw_153 : Cond.code yX8_isKey cX8_isKey 1 (Option.some Jvm.ClassFile.FieldType.boolean) ∈ tables_1 := qsub (k := 3) (List.mem_of_getElem? (i := 53) rfl)
set_option maxRecDepth 20000 in
theorem qw_154 : Cond.code yX8_isTickCount cX8_isTickCount 1 (Option.some Jvm.ClassFile.FieldType.boolean) ∈ tables_1 := qsub (k := 3) (List.mem_of_getElem? (i := 216) rfl)
set_option maxRecDepth 20000 in
theorem qw_155 : Cond.code yX8_isEntryPart cX8_isEntryPart 1 (Option.some Jvm.ClassFile.FieldType.boolean) ∈ tables_1 := qsub (k := 5) (List.mem_of_getElem? (i := 49) rfl)
set_option maxRecDepth 20000 in
theorem qw_156 : Cond.code yX8_isTriedWhat cX8_isTriedWhat 1 (Option.some Jvm.ClassFile.FieldType.boolean) ∈ tables_1 := qsub (k := 5) (List.mem_of_getElem? (i := 29) rfl)
set_option maxRecDepth 20000 in
theorem qw_157 : Cond.code yX8_hasCome cX8_hasCome 3 (Option.some Jvm.ClassFile.FieldType.boolean) ∈ tables_1 := qsub (k := 5) (List.mem_of_getElem? (i := 134) rfl)
set_option maxRecDepth 20000 in
theorem qw_158 : Cond.code yX8_layOnTape cX8_layOnTape 3 (Option.none : Option Jvm.ClassFile.FieldType) ∈ tables_1 := qsub (k := 4) (List.mem_of_getElem? (i := 114) rfl)
set_option maxRecDepth 20000 in
theorem qw_159 : Cond.code yX8_perform cX8_perform 4 (Option.some Jvm.ClassFile.FieldType.boolean) ∈ tables_1 := qsub (k := 5) (List.mem_of_getElem? (i := 7) rfl)
set_option maxRecDepth 20000 in
theorem qw_160 : Cond.code yX8_entryOf cX8_entryOf 4 (Option.some Jvm.ClassFile.FieldType.int) ∈ tables_1 := qsub (k := 3) (List.mem_of_getElem? (i := 72) rfl)
set_option maxRecDepth 20000 in
theorem qw_161 : Cond.code yX8_termOf cX8_termOf 1 (Option.some Jvm.ClassFile.FieldType.int) ∈ tables_1 := qsub (k := 4) (List.mem_of_getElem? (i := 33) rfl)
set_option maxRecDepth 20000 in
theorem qw_162 : Cond.code yX8_kindOf cX8_kindOf 1 (Option.some Jvm.ClassFile.FieldType.int) ∈ tables_1 := qsub (k := 3) (List.mem_of_getElem? (i := 163) rfl)
set_option maxRecDepth 20000 in
theorem qw_163 : Cond.code yX8_firstOf cX8_firstOf 1 (Option.some Jvm.ClassFile.FieldType.int) ∈ tables_1 := qsub (k := 3) (List.mem_of_getElem? (i := 43) rfl)
set_option maxRecDepth 20000 in
theorem qw_164 : Cond.code yX8_secondOf cX8_secondOf 1 (Option.some Jvm.ClassFile.FieldType.int) ∈ tables_1 := qsub (k := 3) (List.mem_of_getElem? (i := 46) rfl)
set_option maxRecDepth 20000 in
theorem qw_165 : Cond.code yX8_partOf cX8_partOf 2 (Option.some Jvm.ClassFile.FieldType.int) ∈ tables_1 := qsub (k := 5) (List.mem_of_getElem? (i := 53) rfl)
set_option maxRecDepth 20000 in
theorem qw_166 : Cond.code yX8_has cX8_has 2 (Option.some Jvm.ClassFile.FieldType.boolean) ∈ tables_1 := qsub (k := 3) (List.mem_of_getElem? (i := 97) rfl)
set_option maxRecDepth 20000 in
theorem qw_167 : Cond.code yX8_isMajorityOf cX8_isMajorityOf 3 (Option.some Jvm.ClassFile.FieldType.boolean) ∈ tables_1 := qsub (k := 3) (List.mem_of_getElem? (i := 145) rfl)
set_option maxRecDepth 20000 in
theorem qw_168 : Cond.code yX9_init cX9_init 1 (Option.none : Option Jvm.ClassFile.FieldType) ∈ tables_1 := qsub (k := 5) (List.mem_of_getElem? (i := 156) rfl)
set_option maxRecDepth 20000 in
theorem qw_169 : Cond.code yX9_in cX9_in 3 (Option.some Jvm.ClassFile.FieldType.boolean) ∈ tables_1 := qsub (k := 6) (List.mem_of_getElem? (i := 102) rfl)
set_option maxRecDepth 20000 in
theorem qw_170 : Cond.code yX9_min cX9_min 2 (Option.some Jvm.ClassFile.FieldType.int) ∈ tables_1 := qsub (k := 6) (List.mem_of_getElem? (i := 230) rfl)
set_option maxRecDepth 20000 in
theorem qw_171 : Cond.code yX9_max cX9_max 2 (Option.some Jvm.ClassFile.FieldType.int) ∈ tables_1 := qsub (k := 7) (List.mem_of_getElem? (i := 80) rfl)
set_option maxRecDepth 20000 in
theorem qw_172 : Cond.code yX9_has cX9_has 2 (Option.some Jvm.ClassFile.FieldType.boolean) ∈ tables_1 := qsub (k := 6) (List.mem_of_getElem? (i := 222) rfl)
set_option maxRecDepth 20000 in
theorem qw_173 : Cond.code yX9_bits cX9_bits 3 (Option.some Jvm.ClassFile.FieldType.int) ∈ tables_1 := qsub (k := 7) (List.mem_of_getElem? (i := 57) rfl)
set_option maxRecDepth 20000 in
theorem qw_174 : Cond.code yX9_copies cX9_copies 3 (Option.none : Option Jvm.ClassFile.FieldType) ∈ tables_1 := qsub (k := 8) (List.mem_of_getElem? (i := 36) rfl)
set_option maxRecDepth 20000 in
theorem qw_175 : Cond.code yX9_isNode cX9_isNode 1 (Option.some Jvm.ClassFile.FieldType.boolean) ∈ tables_1 := qsub (k := 6) (List.mem_of_getElem? (i := 215) rfl)
set_option maxRecDepth 20000 in
theorem qw_176 : Cond.code yX9_the cX9_the 3 (Option.some Jvm.ClassFile.FieldType.int) ∈ tables_1 := qsub (k := 5) (List.mem_of_getElem? (i := 178) rfl)
set_option maxRecDepth 20000 in
theorem qw_177 : Cond.code yX9_sets cX9_sets 4 (Option.none : Option Jvm.ClassFile.FieldType) ∈ tables_1 := qsub (k := 5) (List.mem_of_getElem? (i := 165) rfl)
set_option maxRecDepth 20000 in
theorem qw_178 : Cond.code yX9_isUp cX9_isUp 2 (Option.some Jvm.ClassFile.FieldType.boolean) ∈ tables_1 := qsub (k := 6) (List.mem_of_getElem? (i := 212) rfl)
set_option maxRecDepth 20000 in
theorem qw_179 : Cond.code yX9_isLeader cX9_isLeader 2 (Option.some Jvm.ClassFile.FieldType.boolean) ∈ tables_1 := qsub (k := 7) (List.mem_of_getElem? (i := 212) rfl)
set_option maxRecDepth 20000 in
theorem qw_180 : Cond.code yX9_lastOf cX9_lastOf 2 (Option.some Jvm.ClassFile.FieldType.int) ∈ tables_1 := qsub (k := 7) (List.mem_of_getElem? (i := 10) rfl)
set_option maxRecDepth 20000 in
theorem qw_181 : Cond.code yX9_logPlace cX9_logPlace 3 (Option.some Jvm.ClassFile.FieldType.int) ∈ tables_1 := qsub (k := 7) (List.mem_of_getElem? (i := 18) rfl)
set_option maxRecDepth 20000 in
theorem qw_182 : Cond.code yX9_hasEntry cX9_hasEntry 3 (Option.some Jvm.ClassFile.FieldType.boolean) ∈ tables_1 := qsub (k := 7) (List.mem_of_getElem? (i := 124) rfl)
set_option maxRecDepth 20000 in
theorem qw_183 : Cond.code yX9_termAt cX9_termAt 3 (Option.some Jvm.ClassFile.FieldType.int) ∈ tables_1 := qsub (k := 7) (List.mem_of_getElem? (i := 14) rfl)
set_option maxRecDepth 20000 in
theorem qw_184 : Cond.code yX9_configAt cX9_configAt 4 (Option.some Jvm.ClassFile.FieldType.int) ∈ tables_1 := qsub (k := 7) (List.mem_of_getElem? (i := 50) rfl)
set_option maxRecDepth 20000 in
theorem qw_185 : Cond.code yX9_oldOf cX9_oldOf 3 (Option.some Jvm.ClassFile.FieldType.int) ∈ tables_1 := qsub (k := 7) (List.mem_of_getElem? (i := 46) rfl)
set_option maxRecDepth 20000 in
theorem qw_186 : Cond.code yX9_newOf cX9_newOf 3 (Option.some Jvm.ClassFile.FieldType.int) ∈ tables_1 := qsub (k := 7) (List.mem_of_getElem? (i := 54) rfl)
set_option maxRecDepth 20000 in
theorem qw_187 : Cond.code yX9_membersOf cX9_membersOf 2 (Option.some Jvm.ClassFile.FieldType.int) ∈ tables_1 := qsub (k := 7) (List.mem_of_getElem? (i := 92) rfl)
set_option maxRecDepth 20000 in
theorem qw_188 : Cond.code yX9_isHeldConfig cX9_isHeldConfig 2 (Option.some Jvm.ClassFile.FieldType.boolean) ∈ tables_1 := qsub (k := 7) (List.mem_of_getElem? (i := 132) rfl)
set_option maxRecDepth 20000 in
theorem qw_189 : Cond.code yX9_isMost cX9_isMost 5 (Option.some Jvm.ClassFile.FieldType.boolean) ∈ tables_1 := qsub (k := 7) (List.mem_of_getElem? (i := 42) rfl)
set_option maxRecDepth 20000 in
theorem qw_190 : Cond.code yX9_goesUpTo cX9_goesUpTo 6 (Option.none : Option Jvm.ClassFile.FieldType) ∈ tables_1 := qsub (k := 7) (List.mem_of_getElem? (i := 77) rfl)
set_option maxRecDepth 20000 in
theorem qw_191 : Cond.code yX9_compacts cX9_compacts 6 (Option.none : Option Jvm.ClassFile.FieldType) ∈ tables_1 := qsub (k := 7) (List.mem_of_getElem? (i := 73) rfl)
set_option maxRecDepth 20000 in
theorem qw_192 : Cond.code yX9_lays cX9_lays 7 (Option.some Jvm.ClassFile.FieldType.boolean) ∈ tables_1 := qsub (k := 7) (List.mem_of_getElem? (i := 69) rfl)
set_option maxRecDepth 20000 in
theorem qw_193 : Cond.code yX9_types cX9_types 3 (Option.none : Option Jvm.ClassFile.FieldType) ∈ tables_1 := qsub (k := 6) (List.mem_of_getElem? (i := 95) rfl)
set_option maxRecDepth 20000 in
theorem qw_194 : Cond.code yX9_feed cX9_feed 6 (Option.some Jvm.ClassFile.FieldType.int) ∈ tables_1 := qsub (k := 6) (List.mem_of_getElem? (i := 91) rfl)
set_option maxRecDepth 20000 in
theorem qw_195 : Cond.code yX9_octet cX9_octet 2 (Option.some Jvm.ClassFile.FieldType.int) ∈ tables_1 := qsub (k := 8) (List.mem_of_getElem? (i := 132) rfl)
set_option maxRecDepth 20000 in
theorem qw_196 : Cond.code yX9_here cX9_here 1 (Option.some Jvm.ClassFile.FieldType.int) ∈ tables_1 := qsub (k := 6) (List.mem_of_getElem? (i := 114) rfl)
set_option maxRecDepth 20000 in
theorem qw_197 : Cond.code yX9_isDigit cX9_isDigit 1 (Option.some Jvm.ClassFile.FieldType.boolean) ∈ tables_1 := qsub (k := 6) (List.mem_of_getElem? (i := 134) rfl)
set_option maxRecDepth 20000 in
theorem qw_198 : Cond.code yX9_wrongAt cX9_wrongAt 3 (Option.some Jvm.ClassFile.FieldType.boolean) ∈ tables_1 := qsub (k := 6) (List.mem_of_getElem? (i := 118) rfl)
set_option maxRecDepth 20000 in
theorem qw_199 : Cond.code yX9_takes cX9_takes 2 (Option.some Jvm.ClassFile.FieldType.boolean) ∈ tables_1 := qsub (k := 6) (List.mem_of_getElem? (i := 184) rfl)
set_option maxRecDepth 20000 in
theorem qw_200 : Cond.code yX9_readsNumber cX9_readsNumber 2 (Option.some Jvm.ClassFile.FieldType.boolean) ∈ tables_1 := qsub (k := 6) (List.mem_of_getElem? (i := 138) rfl)
set_option maxRecDepth 20000 in
theorem qw_201 : Cond.code yX9_notes cX9_notes 3 (Option.none : Option Jvm.ClassFile.FieldType) ∈ tables_1 := qsub (k := 6) (List.mem_of_getElem? (i := 142) rfl)
set_option maxRecDepth 20000 in
theorem qw_202 : Cond.code yX9_opens cX9_opens 2 (Option.some Jvm.ClassFile.FieldType.boolean) ∈ tables_1 := qsub (k := 6) (List.mem_of_getElem? (i := 130) rfl)
set_option maxRecDepth 20000 in
theorem qw_203 : Cond.code yX9_waitTop cX9_waitTop 1 (Option.some Jvm.ClassFile.FieldType.int) ∈ tables_1 := qsub (k := 6) (List.mem_of_getElem? (i := 156) rfl)
set_option maxRecDepth 20000 in
theorem qw_204 : Cond.code yX9_factOf cX9_factOf 1 (Option.some Jvm.ClassFile.FieldType.int) ∈ tables_1 := qsub (k := 6) (List.mem_of_getElem? (i := 145) rfl)
set_option maxRecDepth 20000 in
theorem qw_205 : Cond.code yX9_sumSign cX9_sumSign 1 (Option.some Jvm.ClassFile.FieldType.int) ∈ tables_1 := qsub (k := 6) (List.mem_of_getElem? (i := 148) rfl)
set_option maxRecDepth 20000 in
theorem qw_206 : Cond.code yX9_closesSums cX9_closesSums 2 (Option.none : Option Jvm.ClassFile.FieldType) ∈ tables_1 := qsub (k := 6) (List.mem_of_getElem? (i := 152) rfl)
set_option maxRecDepth 20000 in
theorem qw_207 : Cond.code yX9_readsFactor cX9_readsFactor 2 (Option.some Jvm.ClassFile.FieldType.boolean) ∈ tables_1 := qsub (k := 6) (List.mem_of_getElem? (i := 126) rfl)
set_option maxRecDepth 20000 in
theorem qw_208 : Cond.code yX9_hasOpenSum cX9_hasOpenSum 3 (Option.some Jvm.ClassFile.FieldType.boolean) ∈ tables_1 := qsub (k := 6) (List.mem_of_getElem? (i := 160) rfl)
set_option maxRecDepth 20000 in
theorem qw_209 : Cond.code yX9_readsSum cX9_readsSum 3 (Option.some Jvm.ClassFile.FieldType.boolean) ∈ tables_1 := qsub (k := 6) (List.mem_of_getElem? (i := 122) rfl)
set_option maxRecDepth 20000 in
theorem qw_210 : Cond.code yX9_endsPiece cX9_endsPiece 1 (Option.none : Option Jvm.ClassFile.FieldType) ∈ tables_1 := qsub (k := 6) (List.mem_of_getElem? (i := 172) rfl)
set_option maxRecDepth 20000 in
theorem qw_211 : Cond.code yX9_lands cX9_lands 3 (Option.none : Option Jvm.ClassFile.FieldType) ∈ tables_1 := qsub (k := 6) (List.mem_of_getElem? (i := 176) rfl)
set_option maxRecDepth 20000 in
theorem qw_212 : Cond.code yX9_jumps cX9_jumps 2 (Option.none : Option Jvm.ClassFile.FieldType) ∈ tables_1 := qsub (k := 6) (List.mem_of_getElem? (i := 180) rfl)
set_option maxRecDepth 20000 in
theorem qw_213 : Cond.code yX9_readsCompared cX9_readsCompared 2 (Option.some Jvm.ClassFile.FieldType.boolean) ∈ tables_1 := qsub (k := 6) (List.mem_of_getElem? (i := 168) rfl)
set_option maxRecDepth 20000 in
theorem qw_214 : Cond.code yX9_readsCondition cX9_readsCondition 1 (Option.some Jvm.ClassFile.FieldType.boolean) ∈ tables_1 := qsub (k := 6) (List.mem_of_getElem? (i := 164) rfl)
set_option maxRecDepth 20000 in
theorem qw_215 : Cond.code yX9_readsRule cX9_readsRule 2 (Option.some Jvm.ClassFile.FieldType.boolean) ∈ tables_1 := qsub (k := 6) (List.mem_of_getElem? (i := 110) rfl)
set_option maxRecDepth 20000 in
theorem qw_216 : Cond.code yX9_beginsText cX9_beginsText 2 (Option.none : Option Jvm.ClassFile.FieldType) ∈ tables_1 := qsub (k := 6) (List.mem_of_getElem? (i := 106) rfl)
set_option maxRecDepth 20000 in
theorem qw_217 : Cond.code yX9_law cX9_law 4 (Option.some Jvm.ClassFile.FieldType.int) ∈ tables_1 := qsub (k := 6) (List.mem_of_getElem? (i := 99) rfl)
set_option maxRecDepth 20000 in
theorem qw_218 : Cond.code yX9_reckon cX9_reckon 3 (Option.some Jvm.ClassFile.FieldType.int) ∈ tables_1 := qsub (k := 5) (List.mem_of_getElem? (i := 190) rfl)
set_option maxRecDepth 20000 in
theorem qw_219 : Cond.code yX9_reckonsTo cX9_reckonsTo 8 (Option.some Jvm.ClassFile.FieldType.int) ∈ tables_1 := qsub (k := 5) (List.mem_of_getElem? (i := 186) rfl)
set_option maxRecDepth 20000 in
theorem qw_220 : Cond.code yX9_byLaw cX9_byLaw 7 (Option.some Jvm.ClassFile.FieldType.int) ∈ tables_1 := qsub (k := 5) (List.mem_of_getElem? (i := 182) rfl)
set_option maxRecDepth 20000 in
theorem qw_221 : Cond.code yX9_holdsAny cX9_holdsAny 3 (Option.some Jvm.ClassFile.FieldType.boolean) ∈ tables_1 := qsub (k := 7) (List.mem_of_getElem? (i := 34) rfl)
set_option maxRecDepth 20000 in
theorem qw_222 : Cond.code yX9_feels cX9_feels 4 (Option.some Jvm.ClassFile.FieldType.int) ∈ tables_1 := qsub (k := 5) (List.mem_of_getElem? (i := 173) rfl)
set_option maxRecDepth 20000 in
theorem qw_223 : Cond.code yX9_setsTimer cX9_setsTimer 3 (Option.none : Option Jvm.ClassFile.FieldType) ∈ tables_1 := qsub (k := 5) (List.mem_of_getElem? (i := 169) rfl)
set_option maxRecDepth 20000 in
theorem qw_224 : Cond.code yX9_beginsMail cX9_beginsMail 5 (Option.none : Option Jvm.ClassFile.FieldType) ∈ tables_1 := qsub (k := 7) (List.mem_of_getElem? (i := 26) rfl)
set_option maxRecDepth 20000 in
theorem qw_225 : Cond.code yX9_loses cX9_loses 1 (Option.none : Option Jvm.ClassFile.FieldType) ∈ tables_1 := qsub (k := 6) (List.mem_of_getElem? (i := 226) rfl)
set_option maxRecDepth 20000 in
theorem qw_226 : Cond.code yX9_posts cX9_posts 5 (Option.none : Option Jvm.ClassFile.FieldType) ∈ tables_1 := qsub (k := 7) (List.mem_of_getElem? (i := 30) rfl)
set_option maxRecDepth 20000 in
theorem qw_227 : Cond.code yX9_answersBy cX9_answersBy 5 (Option.none : Option Jvm.ClassFile.FieldType) ∈ tables_1 := qsub (k := 7) (List.mem_of_getElem? (i := 22) rfl)
set_option maxRecDepth 20000 in
theorem qw_228 : Cond.code yX9_sendsOn cX9_sendsOn 5 (Option.none : Option Jvm.ClassFile.FieldType) ∈ tables_1 := qsub (k := 7) (List.mem_of_getElem? (i := 96) rfl)
set_option maxRecDepth 20000 in
theorem qw_229 : Cond.code yX9_tellsSnapshot cX9_tellsSnapshot 3 (Option.none : Option Jvm.ClassFile.FieldType) ∈ tables_1 := qsub (k := 7) (List.mem_of_getElem? (i := 100) rfl)
set_option maxRecDepth 20000 in
theorem qw_230 : Cond.code yX9_tellsEntries cX9_tellsEntries 5 (Option.none : Option Jvm.ClassFile.FieldType) ∈ tables_1 := qsub (k := 7) (List.mem_of_getElem? (i := 104) rfl)
set_option maxRecDepth 20000 in
theorem qw_231 : Cond.code yX9_sendsToAll cX9_sendsToAll 3 (Option.none : Option Jvm.ClassFile.FieldType) ∈ tables_1 := qsub (k := 7) (List.mem_of_getElem? (i := 88) rfl)
set_option maxRecDepth 20000 in
theorem qw_232 : Cond.code yX9_losesReads cX9_losesReads 3 (Option.none : Option Jvm.ClassFile.FieldType) ∈ tables_1 := qsub (k := 6) (List.mem_of_getElem? (i := 238) rfl)
set_option maxRecDepth 20000 in
theorem qw_233 : Cond.code yX9_follows cX9_follows 3 (Option.none : Option Jvm.ClassFile.FieldType) ∈ tables_1 := qsub (k := 6) (List.mem_of_getElem? (i := 234) rfl)
set_option maxRecDepth 20000 in
theorem qw_234 : Cond.code yX9_stands cX9_stands 3 (Option.none : Option Jvm.ClassFile.FieldType) ∈ tables_1 := qsub (k := 7) (List.mem_of_getElem? (i := 180) rfl)
set_option maxRecDepth 20000 in
theorem qw_235 : Cond.code yX9_leads cX9_leads 4 (Option.none : Option Jvm.ClassFile.FieldType) ∈ tables_1 := qsub (k := 7) (List.mem_of_getElem? (i := 61) rfl)
set_option maxRecDepth 20000 in
theorem qw_236 : Cond.code yX9_laidByLeader cX9_laidByLeader 2 (Option.none : Option Jvm.ClassFile.FieldType) ∈ tables_1 := qsub (k := 7) (List.mem_of_getElem? (i := 84) rfl)
set_option maxRecDepth 20000 in
theorem qw_237 : Cond.code yX9_breaks cX9_breaks 1 (Option.none : Option Jvm.ClassFile.FieldType) ∈ tables_1 := qsub (k := 7) (List.mem_of_getElem? (i := 65) rfl)
set_option maxRecDepth 20000 in
theorem qw_238 : Cond.code yX9_seesHeld cX9_seesHeld 7 (Option.none : Option Jvm.ClassFile.FieldType) ∈ tables_1 := qsub (k := 7) (List.mem_of_getElem? (i := 128) rfl)
set_option maxRecDepth 20000 in
theorem qw_239 : Cond.code yX9_growsCommit cX9_growsCommit 4 (Option.none : Option Jvm.ClassFile.FieldType) ∈ tables_1 := qsub (k := 7) (List.mem_of_getElem? (i := 120) rfl)
set_option maxRecDepth 20000 in
theorem qw_240 : Cond.code yX9_whoMatch cX9_whoMatch 5 (Option.some Jvm.ClassFile.FieldType.int) ∈ tables_1 := qsub (k := 7) (List.mem_of_getElem? (i := 116) rfl)
set_option maxRecDepth 20000 in
theorem qw_241 : Cond.code yX9_mostHeld cX9_mostHeld 3 (Option.some Jvm.ClassFile.FieldType.int) ∈ tables_1 := qsub (k := 7) (List.mem_of_getElem? (i := 112) rfl)
set_option maxRecDepth 20000 in
theorem qw_242 : Cond.code yX9_holds cX9_holds 4 (Option.none : Option Jvm.ClassFile.FieldType) ∈ tables_1 := qsub (k := 7) (List.mem_of_getElem? (i := 108) rfl)
set_option maxRecDepth 20000 in
theorem qw_243 : Cond.code yX9_whoHeard cX9_whoHeard 5 (Option.some Jvm.ClassFile.FieldType.int) ∈ tables_1 := qsub (k := 7) (List.mem_of_getElem? (i := 164) rfl)
set_option maxRecDepth 20000 in
theorem qw_244 : Cond.code yX9_answersReads cX9_answersReads 4 (Option.none : Option Jvm.ClassFile.FieldType) ∈ tables_1 := qsub (k := 7) (List.mem_of_getElem? (i := 160) rfl)
set_option maxRecDepth 20000 in
theorem qw_245 : Cond.code yX9_areLinked cX9_areLinked 3 (Option.some Jvm.ClassFile.FieldType.boolean) ∈ tables_1 := qsub (k := 6) (List.mem_of_getElem? (i := 219) rfl)
set_option maxRecDepth 20000 in
theorem qw_246 : Cond.code yX9_takesDue cX9_takesDue 5 (Option.some Jvm.ClassFile.FieldType.boolean) ∈ tables_1 := qsub (k := 6) (List.mem_of_getElem? (i := 204) rfl)
set_option maxRecDepth 20000 in
theorem qw_247 : Cond.code yX9_isHanded cX9_isHanded 2 (Option.none : Option Jvm.ClassFile.FieldType) ∈ tables_1 := qsub (k := 6) (List.mem_of_getElem? (i := 208) rfl)
set_option maxRecDepth 20000 in
theorem qw_248 : Cond.code yX9_isNoLess cX9_isNoLess 5 (Option.some Jvm.ClassFile.FieldType.boolean) ∈ tables_1 := qsub (k := 7) (List.mem_of_getElem? (i := 6) rfl)
set_option maxRecDepth 20000 in
theorem qw_249 : Cond.code yX9_isAskedToVote cX9_isAskedToVote 5 (Option.none : Option Jvm.ClassFile.FieldType) ∈ tables_1 := qsub (k := 7) (List.mem_of_getElem? (i := 2) rfl)
set_option maxRecDepth 20000 in
theorem qw_250 : Cond.code yX9_hasVote cX9_hasVote 2 (Option.none : Option Jvm.ClassFile.FieldType) ∈ tables_1 := qsub (k := 7) (List.mem_of_getElem? (i := 38) rfl)
set_option maxRecDepth 20000 in
theorem qw_251 : Cond.code yX9_firstOfTerm cX9_firstOfTerm 4 (Option.some Jvm.ClassFile.FieldType.int) ∈ tables_1 := qsub (k := 7) (List.mem_of_getElem? (i := 140) rfl)
set_option maxRecDepth 20000 in
theorem qw_252 : Cond.code yX9_hasEntries cX9_hasEntries 5 (Option.none : Option Jvm.ClassFile.FieldType) ∈ tables_1 := qsub (k := 7) (List.mem_of_getElem? (i := 136) rfl)
set_option maxRecDepth 20000 in
theorem qw_253 : Cond.code yX9_laysAs cX9_laysAs 4 (Option.some Jvm.ClassFile.FieldType.boolean) ∈ tables_1 := qsub (k := 7) (List.mem_of_getElem? (i := 144) rfl)
set_option maxRecDepth 20000 in
theorem qw_254 : Cond.code yX9_isOfLeader cX9_isOfLeader 3 (Option.some Jvm.ClassFile.FieldType.boolean) ∈ tables_1 := qsub (k := 7) (List.mem_of_getElem? (i := 152) rfl)
set_option maxRecDepth 20000 in
theorem qw_255 : Cond.code yX9_matches cX9_matches 4 (Option.none : Option Jvm.ClassFile.FieldType) ∈ tables_1 := qsub (k := 7) (List.mem_of_getElem? (i := 156) rfl)
set_option maxRecDepth 20000 in
theorem qw_256 : Cond.code yX9_hearsOfEntries cX9_hearsOfEntries 3 (Option.none : Option Jvm.ClassFile.FieldType) ∈ tables_1 := qsub (k := 7) (List.mem_of_getElem? (i := 148) rfl)
set_option maxRecDepth 20000 in
theorem qw_257 : Cond.code yX9_hasSnapshot cX9_hasSnapshot 4 (Option.none : Option Jvm.ClassFile.FieldType) ∈ tables_1 := qsub (k := 7) (List.mem_of_getElem? (i := 168) rfl)
set_option maxRecDepth 20000 in
theorem qw_258 : Cond.code yX9_hearsOfSnapshot cX9_hearsOfSnapshot 2 (Option.none : Option Jvm.ClassFile.FieldType) ∈ tables_1 := qsub (k := 7) (List.mem_of_getElem? (i := 172) rfl)
set_option maxRecDepth 20000 in
theorem qw_259 : Cond.code yX9_tickGoes cX9_tickGoes 2 (Option.none : Option Jvm.ClassFile.FieldType) ∈ tables_1 := qsub (k := 6) (List.mem_of_getElem? (i := 200) rfl)
set_option maxRecDepth 20000 in
theorem qw_260 : Cond.code yX9_nodeGoes cX9_nodeGoes 2 (Option.none : Option Jvm.ClassFile.FieldType) ∈ tables_1 := qsub (k := 7) (List.mem_of_getElem? (i := 176) rfl)
set_option maxRecDepth 20000 in
theorem qw_261 : Cond.code yX9_asksAll cX9_asksAll 2 (Option.none : Option Jvm.ClassFile.FieldType) ∈ tables_1 := qsub (k := 7) (List.mem_of_getElem? (i := 184) rfl)
set_option maxRecDepth 20000 in
theorem qw_262 : Cond.code yX9_oneTick cX9_oneTick 1 (Option.some Jvm.ClassFile.FieldType.boolean) ∈ tables_1 := qsub (k := 6) (List.mem_of_getElem? (i := 196) rfl)
set_option maxRecDepth 20000 in
theorem qw_263 : Cond.code yX9_ticksGo cX9_ticksGo 3 (Option.none : Option Jvm.ClassFile.FieldType) ∈ tables_1 := qsub (k := 6) (List.mem_of_getElem? (i := 192) rfl)
set_option maxRecDepth 20000 in
theorem qw_264 : Cond.code yX9_ticks cX9_ticks 2 (Option.some Jvm.ClassFile.FieldType.int) ∈ tables_1 := qsub (k := 6) (List.mem_of_getElem? (i := 188) rfl)
set_option maxRecDepth 20000 in
theorem qw_265 : Cond.code yX9_founds cX9_founds 4 (Option.none : Option Jvm.ClassFile.FieldType) ∈ tables_1 := qsub (k := 5) (List.mem_of_getElem? (i := 161) rfl)
set_option maxRecDepth 20000 in
theorem qw_266 : Cond.code yX9_found cX9_found 2 (Option.some Jvm.ClassFile.FieldType.boolean) ∈ tables_1 := qsub (k := 7) (List.mem_of_getElem? (i := 188) rfl)
set_option maxRecDepth 20000 in
theorem qw_267 : Cond.code yX9_crash cX9_crash 2 (Option.some Jvm.ClassFile.FieldType.boolean) ∈ tables_1 := qsub (k := 7) (List.mem_of_getElem? (i := 192) rfl)
set_option maxRecDepth 20000 in
theorem qw_268 : Cond.code yX9_comeUp cX9_comeUp 3 (Option.some Jvm.ClassFile.FieldType.boolean) ∈ tables_1 := qsub (k := 7) (List.mem_of_getElem? (i := 196) rfl)
set_option maxRecDepth 20000 in
theorem qw_269 : Cond.code yX9_cut cX9_cut 4 (Option.some Jvm.ClassFile.FieldType.boolean) ∈ tables_1 := qsub (k := 7) (List.mem_of_getElem? (i := 200) rfl)
set_option maxRecDepth 20000 in
theorem qw_270 : Cond.code yX9_compact cX9_compact 2 (Option.some Jvm.ClassFile.FieldType.boolean) ∈ tables_1 := qsub (k := 7) (List.mem_of_getElem? (i := 204) rfl)
set_option maxRecDepth 20000 in
theorem qw_271 : Cond.code yX9_isFull cX9_isFull 2 (Option.some Jvm.ClassFile.FieldType.boolean) ∈ tables_1 := qsub (k := 7) (List.mem_of_getElem? (i := 216) rfl)
set_option maxRecDepth 20000 in
theorem qw_272 : Cond.code yX9_write cX9_write 5 (Option.some Jvm.ClassFile.FieldType.int) ∈ tables_1 := qsub (k := 7) (List.mem_of_getElem? (i := 208) rfl)
set_option maxRecDepth 20000 in
theorem qw_273 : Cond.code yX9_change cX9_change 4 (Option.some Jvm.ClassFile.FieldType.int) ∈ tables_1 := qsub (k := 7) (List.mem_of_getElem? (i := 220) rfl)
set_option maxRecDepth 20000 in
theorem qw_274 : Cond.code yX9_ask cX9_ask 4 (Option.some Jvm.ClassFile.FieldType.int) ∈ tables_1 := qsub (k := 7) (List.mem_of_getElem? (i := 224) rfl)
set_option maxRecDepth 20000 in
theorem qw_275 : Cond.code yX9_readsTimes cX9_readsTimes 1 (Option.none : Option Jvm.ClassFile.FieldType) ∈ tables_1 := qsub (k := 7) (List.mem_of_getElem? (i := 236) rfl)
set_option maxRecDepth 20000 in
theorem qw_276 : Cond.code yX9_repeats cX9_repeats 6 (Option.some Jvm.ClassFile.FieldType.boolean) ∈ tables_1 := qsub (k := 8) (List.mem_of_getElem? (i := 11) rfl)
set_option maxRecDepth 20000 in
theorem qw_277 : Cond.code yX9_readsDigit cX9_readsDigit 2 (Option.some Jvm.ClassFile.FieldType.boolean) ∈ tables_1 := qsub (k := 8) (List.mem_of_getElem? (i := 7) rfl)
set_option maxRecDepth 20000 in
theorem qw_278 : Cond.code yX9_readsNumbers cX9_readsNumbers 2 (Option.some Jvm.ClassFile.FieldType.boolean) ∈ tables_1 := qsub (k := 8) (List.mem_of_getElem? (i := 3) rfl)
set_option maxRecDepth 20000 in
theorem qw_279 : Cond.code yX9_isAct cX9_isAct 1 (Option.some Jvm.ClassFile.FieldType.boolean) ∈ tables_1 := qsub (k := 7) (List.mem_of_getElem? (i := 239) rfl)
set_option maxRecDepth 20000 in
theorem qw_280 : Cond.code yX9_readsAct cX9_readsAct 4 (Option.some Jvm.ClassFile.FieldType.boolean) ∈ tables_1 := qsub (k := 7) (List.mem_of_getElem? (i := 232) rfl)
set_option maxRecDepth 20000 in
theorem qw_281 : Cond.code yX9_isDone cX9_isDone 2 (Option.some Jvm.ClassFile.FieldType.boolean) ∈ tables_1 := qsub (k := 8) (List.mem_of_getElem? (i := 15) rfl)
set_option maxRecDepth 20000 in
theorem qw_282 : Cond.code yX9_plan cX9_plan 5 (Option.some Jvm.ClassFile.FieldType.int) ∈ tables_1 := qsub (k := 7) (List.mem_of_getElem? (i := 228) rfl)
set_option maxRecDepth 20000 in
theorem qw_283 : Cond.code yX9_leading cX9_leading 3 (Option.some Jvm.ClassFile.FieldType.int) ∈ tables_1 := qsub (k := 8) (List.mem_of_getElem? (i := 29) rfl)
set_option maxRecDepth 20000 in
theorem qw_284 : Cond.code yX9_leaderNow cX9_leaderNow 1 (Option.some Jvm.ClassFile.FieldType.int) ∈ tables_1 := qsub (k := 8) (List.mem_of_getElem? (i := 25) rfl)
set_option maxRecDepth 20000 in
theorem qw_285 : Cond.code yX9_tried cX9_tried 4 (Option.some Jvm.ClassFile.FieldType.int) ∈ tables_1 := qsub (k := 8) (List.mem_of_getElem? (i := 33) rfl)
set_option maxRecDepth 20000 in
theorem qw_286 : Cond.code yX9_orNone cX9_orNone 1 (Option.some Jvm.ClassFile.FieldType.int) ∈ tables_1 := qsub (k := 8) (List.mem_of_getElem? (i := 43) rfl)
set_option maxRecDepth 20000 in
theorem qw_287 : Cond.code yX9_nodeIs cX9_nodeIs 4 (Option.some Jvm.ClassFile.FieldType.int) ∈ tables_1 := qsub (k := 8) (List.mem_of_getElem? (i := 40) rfl)
set_option maxRecDepth 20000 in
theorem qw_288 : Cond.code yX9_entryAt cX9_entryAt 4 (Option.some Jvm.ClassFile.FieldType.int) ∈ tables_1 := qsub (k := 8) (List.mem_of_getElem? (i := 47) rfl)
set_option maxRecDepth 20000 in
theorem qw_289 : Cond.code yX9_keyOf cX9_keyOf 3 (Option.some Jvm.ClassFile.FieldType.int) ∈ tables_1 := qsub (k := 8) (List.mem_of_getElem? (i := 51) rfl)
set_option maxRecDepth 20000 in
theorem qw_290 : Cond.code yX9_about cX9_about 4 (Option.some Jvm.ClassFile.FieldType.int) ∈ tables_1 := qsub (k := 8) (List.mem_of_getElem? (i := 55) rfl)
set_option maxRecDepth 20000 in
theorem qw_291 : Cond.code yX9_message cX9_message 3 (Option.some Jvm.ClassFile.FieldType.int) ∈ tables_1 := qsub (k := 8) (List.mem_of_getElem? (i := 59) rfl)
set_option maxRecDepth 20000 in
theorem qw_292 : Cond.code yX9_heldAt cX9_heldAt 3 (Option.some Jvm.ClassFile.FieldType.int) ∈ tables_1 := qsub (k := 8) (List.mem_of_getElem? (i := 63) rfl)
set_option maxRecDepth 20000 in
theorem qw_293 : Cond.code yX9_readIs cX9_readIs 4 (Option.some Jvm.ClassFile.FieldType.int) ∈ tables_1 := qsub (k := 8) (List.mem_of_getElem? (i := 67) rfl)
set_option maxRecDepth 20000 in
theorem qw_294 : Cond.code yX9_areSame cX9_areSame 5 (Option.some Jvm.ClassFile.FieldType.boolean) ∈ tables_1 := qsub (k := 8) (List.mem_of_getElem? (i := 79) rfl)
set_option maxRecDepth 20000 in
theorem qw_295 : Cond.code yX9_areMatched cX9_areMatched 5 (Option.some Jvm.ClassFile.FieldType.boolean) ∈ tables_1 := qsub (k := 8) (List.mem_of_getElem? (i := 75) rfl)
set_option maxRecDepth 20000 in
theorem qw_296 : Cond.code yX9_areAlike cX9_areAlike 4 (Option.some Jvm.ClassFile.FieldType.boolean) ∈ tables_1 := qsub (k := 8) (List.mem_of_getElem? (i := 83) rfl)
set_option maxRecDepth 20000 in
theorem qw_297 : Cond.code yX9_broken cX9_broken 5 (Option.some Jvm.ClassFile.FieldType.int) ∈ tables_1 := qsub (k := 8) (List.mem_of_getElem? (i := 71) rfl)
set_option maxRecDepth 20000 in
theorem qw_298 : Cond.code yX9_wouldGrant cX9_wouldGrant 5 (Option.some Jvm.ClassFile.FieldType.boolean) ∈ tables_1 := qsub (k := 8) (List.mem_of_getElem? (i := 91) rfl)
set_option maxRecDepth 20000 in
theorem qw_299 : Cond.code yX9_couldWin cX9_couldWin 5 (Option.some Jvm.ClassFile.FieldType.int) ∈ tables_1 := qsub (k := 8) (List.mem_of_getElem? (i := 87) rfl)
set_option maxRecDepth 20000 in
theorem qw_300 : Cond.code yX9_majority cX9_majority 3 (Option.some Jvm.ClassFile.FieldType.int) ∈ tables_1 := qsub (k := 8) (List.mem_of_getElem? (i := 95) rfl)
set_option maxRecDepth 20000 in
theorem qw_301 : Cond.code yX9_allHave cX9_allHave 2 (Option.some Jvm.ClassFile.FieldType.boolean) ∈ tables_1 := qsub (k := 8) (List.mem_of_getElem? (i := 107) rfl)
set_option maxRecDepth 20000 in
theorem qw_302 : Cond.code yX9_isSo cX9_isSo 3 (Option.some Jvm.ClassFile.FieldType.boolean) ∈ tables_1 := qsub (k := 8) (List.mem_of_getElem? (i := 103) rfl)
set_option maxRecDepth 20000 in
theorem qw_303 : Cond.code yX9_till cX9_till 5 (Option.some Jvm.ClassFile.FieldType.int) ∈ tables_1 := qsub (k := 8) (List.mem_of_getElem? (i := 99) rfl)
set_option maxRecDepth 20000 in
theorem qw_304 : Cond.code yX9_seed cX9_seed 2 (Option.some Jvm.ClassFile.FieldType.boolean) ∈ tables_1 := qsub (k := 8) (List.mem_of_getElem? (i := 111) rfl)
set_option maxRecDepth 20000 in
theorem qw_305 : Cond.code yX9_keep cX9_keep 1 (Option.some Jvm.ClassFile.FieldType.int) ∈ tables_1 := qsub (k := 8) (List.mem_of_getElem? (i := 116) rfl)
set_option maxRecDepth 20000 in
theorem qw_306 : Cond.code yX9_undo cX9_undo 1 (Option.some Jvm.ClassFile.FieldType.boolean) ∈ tables_1 := qsub (k := 8) (List.mem_of_getElem? (i := 120) rfl)
set_option maxRecDepth 20000 in
theorem qw_307 : Cond.code yX9_greatest cX9_greatest 3 (Option.some Jvm.ClassFile.FieldType.int) ∈ tables_1 := qsub (k := 8) (List.mem_of_getElem? (i := 128) rfl)
set_option maxRecDepth 20000 in
theorem qw_308 : Cond.code yX9_check cX9_check 4 (Option.some Jvm.ClassFile.FieldType.int) ∈ tables_1 := qsub (k := 8) (List.mem_of_getElem? (i := 124) rfl)
set_option maxRecDepth 20000 in
theorem qw_309 : Cond.code yX9_upSet cX9_upSet 3 (Option.some Jvm.ClassFile.FieldType.int) ∈ tables_1 := qsub (k := 8) (List.mem_of_getElem? (i := 140) rfl)
set_option maxRecDepth 20000 in
theorem qw_310 : Cond.code yX9_cutMany cX9_cutMany 3 (Option.some Jvm.ClassFile.FieldType.int) ∈ tables_1 := qsub (k := 8) (List.mem_of_getElem? (i := 144) rfl)
set_option maxRecDepth 20000 in
theorem qw_311 : Cond.code yX9_count cX9_count 2 (Option.some Jvm.ClassFile.FieldType.int) ∈ tables_1 := qsub (k := 8) (List.mem_of_getElem? (i := 136) rfl)
set_option maxRecDepth 20000 in
theorem qw_312 : Cond.code yJ6_bitCount_0f7a4 cJ6_bitCount_0f7a4 1 (Option.some Jvm.ClassFile.FieldType.int) ∈ tables_1 := qsub (k := 3) (List.mem_of_getElem? (i := 148) rfl)
set_option maxRecDepth 20000 in
theorem qw_313 : Cond.code yJ7_fill_53178 cJ7_fill_53178 4 (Option.none : Option Jvm.ClassFile.FieldType) ∈ tables_1 := qsub (k := 2) (List.mem_of_getElem? (i := 158) rfl)
theorem qms_0_c : ∀ m ∈ qms_0, Cond.code m.1 m.2.1 m.2.2.1 m.2.2.2.1 ∈ tables_1 := List.forall_mem_cons.mpr ⟨qw_0, List.forall_mem_cons.mpr ⟨qw_1, List.forall_mem_cons.mpr ⟨qw_2, List.forall_mem_cons.mpr ⟨qw_3, List.forall_mem_cons.mpr ⟨qw_4, List.forall_mem_cons.mpr ⟨qw_5, List.forall_mem_cons.mpr ⟨qw_6, List.forall_mem_cons.mpr ⟨qw_7, List.forall_mem_cons.mpr ⟨qw_8, List.forall_mem_cons.mpr ⟨qw_9, List.forall_mem_cons.mpr ⟨qw_10, List.forall_mem_cons.mpr ⟨qw_11, List.forall_mem_cons.mpr ⟨qw_12, List.forall_mem_cons.mpr ⟨qw_13, List.forall_mem_cons.mpr ⟨qw_14, List.forall_mem_cons.mpr ⟨qw_15, fun _ h => absurd h List.not_mem_nil⟩⟩⟩⟩⟩⟩⟩⟩⟩⟩⟩⟩⟩⟩⟩⟩
theorem qms_1_c : ∀ m ∈ qms_1, Cond.code m.1 m.2.1 m.2.2.1 m.2.2.2.1 ∈ tables_1 := List.forall_mem_cons.mpr ⟨qw_16, List.forall_mem_cons.mpr ⟨qw_17, List.forall_mem_cons.mpr ⟨qw_18, List.forall_mem_cons.mpr ⟨qw_19, List.forall_mem_cons.mpr ⟨qw_20, List.forall_mem_cons.mpr ⟨qw_21, List.forall_mem_cons.mpr ⟨qw_22, List.forall_mem_cons.mpr ⟨qw_23, List.forall_mem_cons.mpr ⟨qw_24, List.forall_mem_cons.mpr ⟨qw_25, List.forall_mem_cons.mpr ⟨qw_26, List.forall_mem_cons.mpr ⟨qw_27, List.forall_mem_cons.mpr ⟨qw_28, List.forall_mem_cons.mpr ⟨qw_29, List.forall_mem_cons.mpr ⟨qw_30, List.forall_mem_cons.mpr ⟨qw_31, fun _ h => absurd h List.not_mem_nil⟩⟩⟩⟩⟩⟩⟩⟩⟩⟩⟩⟩⟩⟩⟩⟩
theorem qms_2_c : ∀ m ∈ qms_2, Cond.code m.1 m.2.1 m.2.2.1 m.2.2.2.1 ∈ tables_1 := List.forall_mem_cons.mpr ⟨qw_32, List.forall_mem_cons.mpr ⟨qw_33, List.forall_mem_cons.mpr ⟨qw_34, List.forall_mem_cons.mpr ⟨qw_35, List.forall_mem_cons.mpr ⟨qw_36, List.forall_mem_cons.mpr ⟨qw_37, List.forall_mem_cons.mpr ⟨qw_38, List.forall_mem_cons.mpr ⟨qw_39, List.forall_mem_cons.mpr ⟨qw_40, List.forall_mem_cons.mpr ⟨qw_41, List.forall_mem_cons.mpr ⟨qw_42, List.forall_mem_cons.mpr ⟨qw_43, List.forall_mem_cons.mpr ⟨qw_44, List.forall_mem_cons.mpr ⟨qw_45, List.forall_mem_cons.mpr ⟨qw_46, List.forall_mem_cons.mpr ⟨qw_47, fun _ h => absurd h List.not_mem_nil⟩⟩⟩⟩⟩⟩⟩⟩⟩⟩⟩⟩⟩⟩⟩⟩
theorem qms_3_c : ∀ m ∈ qms_3, Cond.code m.1 m.2.1 m.2.2.1 m.2.2.2.1 ∈ tables_1 := List.forall_mem_cons.mpr ⟨qw_48, List.forall_mem_cons.mpr ⟨qw_49, List.forall_mem_cons.mpr ⟨qw_50, List.forall_mem_cons.mpr ⟨qw_51, List.forall_mem_cons.mpr ⟨qw_52, List.forall_mem_cons.mpr ⟨qw_53, List.forall_mem_cons.mpr ⟨qw_54, List.forall_mem_cons.mpr ⟨qw_55, List.forall_mem_cons.mpr ⟨qw_56, List.forall_mem_cons.mpr ⟨qw_57, List.forall_mem_cons.mpr ⟨qw_58, List.forall_mem_cons.mpr ⟨qw_59, List.forall_mem_cons.mpr ⟨qw_60, List.forall_mem_cons.mpr ⟨qw_61, List.forall_mem_cons.mpr ⟨qw_62, List.forall_mem_cons.mpr ⟨qw_63, fun _ h => absurd h List.not_mem_nil⟩⟩⟩⟩⟩⟩⟩⟩⟩⟩⟩⟩⟩⟩⟩⟩
theorem qms_4_c : ∀ m ∈ qms_4, Cond.code m.1 m.2.1 m.2.2.1 m.2.2.2.1 ∈ tables_1 := List.forall_mem_cons.mpr ⟨qw_64, List.forall_mem_cons.mpr ⟨qw_65, List.forall_mem_cons.mpr ⟨qw_66, List.forall_mem_cons.mpr ⟨qw_67, List.forall_mem_cons.mpr ⟨qw_68, List.forall_mem_cons.mpr ⟨qw_69, List.forall_mem_cons.mpr ⟨qw_70, List.forall_mem_cons.mpr ⟨qw_71, List.forall_mem_cons.mpr ⟨qw_72, List.forall_mem_cons.mpr ⟨qw_73, List.forall_mem_cons.mpr ⟨qw_74, List.forall_mem_cons.mpr ⟨qw_75, List.forall_mem_cons.mpr ⟨qw_76, List.forall_mem_cons.mpr ⟨qw_77, List.forall_mem_cons.mpr ⟨qw_78, List.forall_mem_cons.mpr ⟨qw_79, fun _ h => absurd h List.not_mem_nil⟩⟩⟩⟩⟩⟩⟩⟩⟩⟩⟩⟩⟩⟩⟩⟩
theorem qms_5_c : ∀ m ∈ qms_5, Cond.code m.1 m.2.1 m.2.2.1 m.2.2.2.1 ∈ tables_1 := List.forall_mem_cons.mpr ⟨qw_80, List.forall_mem_cons.mpr ⟨qw_81, List.forall_mem_cons.mpr ⟨qw_82, List.forall_mem_cons.mpr ⟨qw_83, List.forall_mem_cons.mpr ⟨qw_84, List.forall_mem_cons.mpr ⟨qw_85, List.forall_mem_cons.mpr ⟨qw_86, List.forall_mem_cons.mpr ⟨qw_87, List.forall_mem_cons.mpr ⟨qw_88, List.forall_mem_cons.mpr ⟨qw_89, List.forall_mem_cons.mpr ⟨qw_90, List.forall_mem_cons.mpr ⟨qw_91, List.forall_mem_cons.mpr ⟨qw_92, List.forall_mem_cons.mpr ⟨qw_93, List.forall_mem_cons.mpr ⟨qw_94, List.forall_mem_cons.mpr ⟨qw_95, fun _ h => absurd h List.not_mem_nil⟩⟩⟩⟩⟩⟩⟩⟩⟩⟩⟩⟩⟩⟩⟩⟩
theorem qms_6_c : ∀ m ∈ qms_6, Cond.code m.1 m.2.1 m.2.2.1 m.2.2.2.1 ∈ tables_1 := List.forall_mem_cons.mpr ⟨qw_96, List.forall_mem_cons.mpr ⟨qw_97, List.forall_mem_cons.mpr ⟨qw_98, List.forall_mem_cons.mpr ⟨qw_99, List.forall_mem_cons.mpr ⟨qw_100, List.forall_mem_cons.mpr ⟨qw_101, List.forall_mem_cons.mpr ⟨qw_102, List.forall_mem_cons.mpr ⟨qw_103, List.forall_mem_cons.mpr ⟨qw_104, List.forall_mem_cons.mpr ⟨qw_105, List.forall_mem_cons.mpr ⟨qw_106, List.forall_mem_cons.mpr ⟨qw_107, List.forall_mem_cons.mpr ⟨qw_108, List.forall_mem_cons.mpr ⟨qw_109, List.forall_mem_cons.mpr ⟨qw_110, List.forall_mem_cons.mpr ⟨qw_111, fun _ h => absurd h List.not_mem_nil⟩⟩⟩⟩⟩⟩⟩⟩⟩⟩⟩⟩⟩⟩⟩⟩
theorem qms_7_c : ∀ m ∈ qms_7, Cond.code m.1 m.2.1 m.2.2.1 m.2.2.2.1 ∈ tables_1 := List.forall_mem_cons.mpr ⟨qw_112, List.forall_mem_cons.mpr ⟨qw_113, List.forall_mem_cons.mpr ⟨qw_114, List.forall_mem_cons.mpr ⟨qw_115, List.forall_mem_cons.mpr ⟨qw_116, List.forall_mem_cons.mpr ⟨qw_117, List.forall_mem_cons.mpr ⟨qw_118, List.forall_mem_cons.mpr ⟨qw_119, List.forall_mem_cons.mpr ⟨qw_120, List.forall_mem_cons.mpr ⟨qw_121, List.forall_mem_cons.mpr ⟨qw_122, List.forall_mem_cons.mpr ⟨qw_123, List.forall_mem_cons.mpr ⟨qw_124, List.forall_mem_cons.mpr ⟨qw_125, List.forall_mem_cons.mpr ⟨qw_126, List.forall_mem_cons.mpr ⟨qw_127, fun _ h => absurd h List.not_mem_nil⟩⟩⟩⟩⟩⟩⟩⟩⟩⟩⟩⟩⟩⟩⟩⟩
theorem qms_8_c : ∀ m ∈ qms_8, Cond.code m.1 m.2.1 m.2.2.1 m.2.2.2.1 ∈ tables_1 := List.forall_mem_cons.mpr ⟨qw_128, List.forall_mem_cons.mpr ⟨qw_129, List.forall_mem_cons.mpr ⟨qw_130, List.forall_mem_cons.mpr ⟨qw_131, List.forall_mem_cons.mpr ⟨qw_132, List.forall_mem_cons.mpr ⟨qw_133, List.forall_mem_cons.mpr ⟨qw_134, List.forall_mem_cons.mpr ⟨qw_135, List.forall_mem_cons.mpr ⟨qw_136, List.forall_mem_cons.mpr ⟨qw_137, List.forall_mem_cons.mpr ⟨qw_138, List.forall_mem_cons.mpr ⟨qw_139, List.forall_mem_cons.mpr ⟨qw_140, List.forall_mem_cons.mpr ⟨qw_141, List.forall_mem_cons.mpr ⟨qw_142, List.forall_mem_cons.mpr ⟨qw_143, fun _ h => absurd h List.not_mem_nil⟩⟩⟩⟩⟩⟩⟩⟩⟩⟩⟩⟩⟩⟩⟩⟩
theorem qms_9_c : ∀ m ∈ qms_9, Cond.code m.1 m.2.1 m.2.2.1 m.2.2.2.1 ∈ tables_1 := List.forall_mem_cons.mpr ⟨qw_144, List.forall_mem_cons.mpr ⟨qw_145, List.forall_mem_cons.mpr ⟨qw_146, List.forall_mem_cons.mpr ⟨qw_147, List.forall_mem_cons.mpr ⟨qw_148, List.forall_mem_cons.mpr ⟨qw_149, List.forall_mem_cons.mpr ⟨qw_150, List.forall_mem_cons.mpr ⟨qw_151, List.forall_mem_cons.mpr ⟨qw_152, List.forall_mem_cons.mpr ⟨qw_153, List.forall_mem_cons.mpr ⟨qw_154, List.forall_mem_cons.mpr ⟨qw_155, List.forall_mem_cons.mpr ⟨qw_156, List.forall_mem_cons.mpr ⟨qw_157, List.forall_mem_cons.mpr ⟨qw_158, List.forall_mem_cons.mpr ⟨qw_159, fun _ h => absurd h List.not_mem_nil⟩⟩⟩⟩⟩⟩⟩⟩⟩⟩⟩⟩⟩⟩⟩⟩
theorem qms_10_c : ∀ m ∈ qms_10, Cond.code m.1 m.2.1 m.2.2.1 m.2.2.2.1 ∈ tables_1 := List.forall_mem_cons.mpr ⟨qw_160, List.forall_mem_cons.mpr ⟨qw_161, List.forall_mem_cons.mpr ⟨qw_162, List.forall_mem_cons.mpr ⟨qw_163, List.forall_mem_cons.mpr ⟨qw_164, List.forall_mem_cons.mpr ⟨qw_165, List.forall_mem_cons.mpr ⟨qw_166, List.forall_mem_cons.mpr ⟨qw_167, List.forall_mem_cons.mpr ⟨qw_168, List.forall_mem_cons.mpr ⟨qw_169, List.forall_mem_cons.mpr ⟨qw_170, List.forall_mem_cons.mpr ⟨qw_171, List.forall_mem_cons.mpr ⟨qw_172, List.forall_mem_cons.mpr ⟨qw_173, List.forall_mem_cons.mpr ⟨qw_174, List.forall_mem_cons.mpr ⟨qw_175, fun _ h => absurd h List.not_mem_nil⟩⟩⟩⟩⟩⟩⟩⟩⟩⟩⟩⟩⟩⟩⟩⟩
theorem qms_11_c : ∀ m ∈ qms_11, Cond.code m.1 m.2.1 m.2.2.1 m.2.2.2.1 ∈ tables_1 := List.forall_mem_cons.mpr ⟨qw_176, List.forall_mem_cons.mpr ⟨qw_177, List.forall_mem_cons.mpr ⟨qw_178, List.forall_mem_cons.mpr ⟨qw_179, List.forall_mem_cons.mpr ⟨qw_180, List.forall_mem_cons.mpr ⟨qw_181, List.forall_mem_cons.mpr ⟨qw_182, List.forall_mem_cons.mpr ⟨qw_183, List.forall_mem_cons.mpr ⟨qw_184, List.forall_mem_cons.mpr ⟨qw_185, List.forall_mem_cons.mpr ⟨qw_186, List.forall_mem_cons.mpr ⟨qw_187, List.forall_mem_cons.mpr ⟨qw_188, List.forall_mem_cons.mpr ⟨qw_189, List.forall_mem_cons.mpr ⟨qw_190, List.forall_mem_cons.mpr ⟨qw_191, fun _ h => absurd h List.not_mem_nil⟩⟩⟩⟩⟩⟩⟩⟩⟩⟩⟩⟩⟩⟩⟩⟩
theorem qms_12_c : ∀ m ∈ qms_12, Cond.code m.1 m.2.1 m.2.2.1 m.2.2.2.1 ∈ tables_1 := List.forall_mem_cons.mpr ⟨qw_192, List.forall_mem_cons.mpr ⟨qw_193, List.forall_mem_cons.mpr ⟨qw_194, List.forall_mem_cons.mpr ⟨qw_195, List.forall_mem_cons.mpr ⟨qw_196, List.forall_mem_cons.mpr ⟨qw_197, List.forall_mem_cons.mpr ⟨qw_198, List.forall_mem_cons.mpr ⟨qw_199, List.forall_mem_cons.mpr ⟨qw_200, List.forall_mem_cons.mpr ⟨qw_201, List.forall_mem_cons.mpr ⟨qw_202, List.forall_mem_cons.mpr ⟨qw_203, List.forall_mem_cons.mpr ⟨qw_204, List.forall_mem_cons.mpr ⟨qw_205, List.forall_mem_cons.mpr ⟨qw_206, List.forall_mem_cons.mpr ⟨qw_207, fun _ h => absurd h List.not_mem_nil⟩⟩⟩⟩⟩⟩⟩⟩⟩⟩⟩⟩⟩⟩⟩⟩
theorem qms_13_c : ∀ m ∈ qms_13, Cond.code m.1 m.2.1 m.2.2.1 m.2.2.2.1 ∈ tables_1 := List.forall_mem_cons.mpr ⟨qw_208, List.forall_mem_cons.mpr ⟨qw_209, List.forall_mem_cons.mpr ⟨qw_210, List.forall_mem_cons.mpr ⟨qw_211, List.forall_mem_cons.mpr ⟨qw_212, List.forall_mem_cons.mpr ⟨qw_213, List.forall_mem_cons.mpr ⟨qw_214, List.forall_mem_cons.mpr ⟨qw_215, List.forall_mem_cons.mpr ⟨qw_216, List.forall_mem_cons.mpr ⟨qw_217, List.forall_mem_cons.mpr ⟨qw_218, List.forall_mem_cons.mpr ⟨qw_219, List.forall_mem_cons.mpr ⟨qw_220, List.forall_mem_cons.mpr ⟨qw_221, List.forall_mem_cons.mpr ⟨qw_222, List.forall_mem_cons.mpr ⟨qw_223, fun _ h => absurd h List.not_mem_nil⟩⟩⟩⟩⟩⟩⟩⟩⟩⟩⟩⟩⟩⟩⟩⟩
theorem qms_14_c : ∀ m ∈ qms_14, Cond.code m.1 m.2.1 m.2.2.1 m.2.2.2.1 ∈ tables_1 := List.forall_mem_cons.mpr ⟨qw_224, List.forall_mem_cons.mpr ⟨qw_225, List.forall_mem_cons.mpr ⟨qw_226, List.forall_mem_cons.mpr ⟨qw_227, List.forall_mem_cons.mpr ⟨qw_228, List.forall_mem_cons.mpr ⟨qw_229, List.forall_mem_cons.mpr ⟨qw_230, List.forall_mem_cons.mpr ⟨qw_231, List.forall_mem_cons.mpr ⟨qw_232, List.forall_mem_cons.mpr ⟨qw_233, List.forall_mem_cons.mpr ⟨qw_234, List.forall_mem_cons.mpr ⟨qw_235, List.forall_mem_cons.mpr ⟨qw_236, List.forall_mem_cons.mpr ⟨qw_237, List.forall_mem_cons.mpr ⟨qw_238, List.forall_mem_cons.mpr ⟨qw_239, fun _ h => absurd h List.not_mem_nil⟩⟩⟩⟩⟩⟩⟩⟩⟩⟩⟩⟩⟩⟩⟩⟩
theorem qms_15_c : ∀ m ∈ qms_15, Cond.code m.1 m.2.1 m.2.2.1 m.2.2.2.1 ∈ tables_1 := List.forall_mem_cons.mpr ⟨qw_240, List.forall_mem_cons.mpr ⟨qw_241, List.forall_mem_cons.mpr ⟨qw_242, List.forall_mem_cons.mpr ⟨qw_243, List.forall_mem_cons.mpr ⟨qw_244, List.forall_mem_cons.mpr ⟨qw_245, List.forall_mem_cons.mpr ⟨qw_246, List.forall_mem_cons.mpr ⟨qw_247, List.forall_mem_cons.mpr ⟨qw_248, List.forall_mem_cons.mpr ⟨qw_249, List.forall_mem_cons.mpr ⟨qw_250, List.forall_mem_cons.mpr ⟨qw_251, List.forall_mem_cons.mpr ⟨qw_252, List.forall_mem_cons.mpr ⟨qw_253, List.forall_mem_cons.mpr ⟨qw_254, List.forall_mem_cons.mpr ⟨qw_255, fun _ h => absurd h List.not_mem_nil⟩⟩⟩⟩⟩⟩⟩⟩⟩⟩⟩⟩⟩⟩⟩⟩
theorem qms_16_c : ∀ m ∈ qms_16, Cond.code m.1 m.2.1 m.2.2.1 m.2.2.2.1 ∈ tables_1 := List.forall_mem_cons.mpr ⟨qw_256, List.forall_mem_cons.mpr ⟨qw_257, List.forall_mem_cons.mpr ⟨qw_258, List.forall_mem_cons.mpr ⟨qw_259, List.forall_mem_cons.mpr ⟨qw_260, List.forall_mem_cons.mpr ⟨qw_261, List.forall_mem_cons.mpr ⟨qw_262, List.forall_mem_cons.mpr ⟨qw_263, List.forall_mem_cons.mpr ⟨qw_264, List.forall_mem_cons.mpr ⟨qw_265, List.forall_mem_cons.mpr ⟨qw_266, List.forall_mem_cons.mpr ⟨qw_267, List.forall_mem_cons.mpr ⟨qw_268, List.forall_mem_cons.mpr ⟨qw_269, List.forall_mem_cons.mpr ⟨qw_270, List.forall_mem_cons.mpr ⟨qw_271, fun _ h => absurd h List.not_mem_nil⟩⟩⟩⟩⟩⟩⟩⟩⟩⟩⟩⟩⟩⟩⟩⟩
theorem qms_17_c : ∀ m ∈ qms_17, Cond.code m.1 m.2.1 m.2.2.1 m.2.2.2.1 ∈ tables_1 := List.forall_mem_cons.mpr ⟨qw_272, List.forall_mem_cons.mpr ⟨qw_273, List.forall_mem_cons.mpr ⟨qw_274, List.forall_mem_cons.mpr ⟨qw_275, List.forall_mem_cons.mpr ⟨qw_276, List.forall_mem_cons.mpr ⟨qw_277, List.forall_mem_cons.mpr ⟨qw_278, List.forall_mem_cons.mpr ⟨qw_279, List.forall_mem_cons.mpr ⟨qw_280, List.forall_mem_cons.mpr ⟨qw_281, List.forall_mem_cons.mpr ⟨qw_282, List.forall_mem_cons.mpr ⟨qw_283, List.forall_mem_cons.mpr ⟨qw_284, List.forall_mem_cons.mpr ⟨qw_285, List.forall_mem_cons.mpr ⟨qw_286, List.forall_mem_cons.mpr ⟨qw_287, fun _ h => absurd h List.not_mem_nil⟩⟩⟩⟩⟩⟩⟩⟩⟩⟩⟩⟩⟩⟩⟩⟩
theorem qms_18_c : ∀ m ∈ qms_18, Cond.code m.1 m.2.1 m.2.2.1 m.2.2.2.1 ∈ tables_1 := List.forall_mem_cons.mpr ⟨qw_288, List.forall_mem_cons.mpr ⟨qw_289, List.forall_mem_cons.mpr ⟨qw_290, List.forall_mem_cons.mpr ⟨qw_291, List.forall_mem_cons.mpr ⟨qw_292, List.forall_mem_cons.mpr ⟨qw_293, List.forall_mem_cons.mpr ⟨qw_294, List.forall_mem_cons.mpr ⟨qw_295, List.forall_mem_cons.mpr ⟨qw_296, List.forall_mem_cons.mpr ⟨qw_297, List.forall_mem_cons.mpr ⟨qw_298, List.forall_mem_cons.mpr ⟨qw_299, List.forall_mem_cons.mpr ⟨qw_300, List.forall_mem_cons.mpr ⟨qw_301, List.forall_mem_cons.mpr ⟨qw_302, List.forall_mem_cons.mpr ⟨qw_303, fun _ h => absurd h List.not_mem_nil⟩⟩⟩⟩⟩⟩⟩⟩⟩⟩⟩⟩⟩⟩⟩⟩
theorem qms_19_c : ∀ m ∈ qms_19, Cond.code m.1 m.2.1 m.2.2.1 m.2.2.2.1 ∈ tables_1 := List.forall_mem_cons.mpr ⟨qw_304, List.forall_mem_cons.mpr ⟨qw_305, List.forall_mem_cons.mpr ⟨qw_306, List.forall_mem_cons.mpr ⟨qw_307, List.forall_mem_cons.mpr ⟨qw_308, List.forall_mem_cons.mpr ⟨qw_309, List.forall_mem_cons.mpr ⟨qw_310, List.forall_mem_cons.mpr ⟨qw_311, List.forall_mem_cons.mpr ⟨qw_312, List.forall_mem_cons.mpr ⟨qw_313, fun _ h => absurd h List.not_mem_nil⟩⟩⟩⟩⟩⟩⟩⟩⟩⟩
theorem qms_0_ok : ∀ m ∈ qms_0, qMok m := qmchk_all (b := qmp_0) (by decide +kernel) qms_0_c (by decide +kernel)
theorem qms_1_ok : ∀ m ∈ qms_1, qMok m := qmchk_all (b := qmp_1) (by decide +kernel) qms_1_c (by decide +kernel)
theorem qms_2_ok : ∀ m ∈ qms_2, qMok m := qmchk_all (b := qmp_2) (by decide +kernel) qms_2_c (by decide +kernel)
theorem qms_3_ok : ∀ m ∈ qms_3, qMok m := qmchk_all (b := qmp_3) (by decide +kernel) qms_3_c (by decide +kernel)
theorem qms_4_ok : ∀ m ∈ qms_4, qMok m := qmchk_all (b := qmp_4) (by decide +kernel) qms_4_c (by decide +kernel)
theorem qms_5_ok : ∀ m ∈ qms_5, qMok m := qmchk_all (b := qmp_5) (by decide +kernel) qms_5_c (by decide +kernel)
theorem qms_6_ok : ∀ m ∈ qms_6, qMok m := qmchk_all (b := qmp_6) (by decide +kernel) qms_6_c (by decide +kernel)
theorem qms_7_ok : ∀ m ∈ qms_7, qMok m := qmchk_all (b := qmp_7) (by decide +kernel) qms_7_c (by decide +kernel)
theorem qms_8_ok : ∀ m ∈ qms_8, qMok m := qmchk_all (b := qmp_8) (by decide +kernel) qms_8_c (by decide +kernel)
theorem qms_9_ok : ∀ m ∈ qms_9, qMok m := qmchk_all (b := qmp_9) (by decide +kernel) qms_9_c (by decide +kernel)
theorem qms_10_ok : ∀ m ∈ qms_10, qMok m := qmchk_all (b := qmp_10) (by decide +kernel) qms_10_c (by decide +kernel)
theorem qms_11_ok : ∀ m ∈ qms_11, qMok m := qmchk_all (b := qmp_11) (by decide +kernel) qms_11_c (by decide +kernel)
theorem qms_12_ok : ∀ m ∈ qms_12, qMok m := qmchk_all (b := qmp_12) (by decide +kernel) qms_12_c (by decide +kernel)
theorem qms_13_ok : ∀ m ∈ qms_13, qMok m := qmchk_all (b := qmp_13) (by decide +kernel) qms_13_c (by decide +kernel)
theorem qms_14_ok : ∀ m ∈ qms_14, qMok m := qmchk_all (b := qmp_14) (by decide +kernel) qms_14_c (by decide +kernel)
theorem qms_15_ok : ∀ m ∈ qms_15, qMok m := qmchk_all (b := qmp_15) (by decide +kernel) qms_15_c (by decide +kernel)
theorem qms_16_ok : ∀ m ∈ qms_16, qMok m := qmchk_all (b := qmp_16) (by decide +kernel) qms_16_c (by decide +kernel)
theorem qms_17_ok : ∀ m ∈ qms_17, qMok m := qmchk_all (b := qmp_17) (by decide +kernel) qms_17_c (by decide +kernel)
theorem qms_18_ok : ∀ m ∈ qms_18, qMok m := qmchk_all (b := qmp_18) (by decide +kernel) qms_18_c (by decide +kernel)
theorem qms_19_ok : ∀ m ∈ qms_19, qMok m := qmchk_all (b := qmp_19) (by decide +kernel) qms_19_c (by decide +kernel)
def qms : List qMI := qms_0 ++ (qms_1 ++ (qms_2 ++ (qms_3 ++ (qms_4 ++ (qms_5 ++ (qms_6 ++ (qms_7 ++ (qms_8 ++ (qms_9 ++ (qms_10 ++ (qms_11 ++ (qms_12 ++ (qms_13 ++ (qms_14 ++ (qms_15 ++ (qms_16 ++ (qms_17 ++ (qms_18 ++ (qms_19)))))))))))))))))))
theorem qms_ok : ∀ m ∈ qms, qMok m := by
  intro m h
  simp only [qms, List.mem_append] at h
  rcases h with h | h | h | h | h | h | h | h | h | h | h | h | h | h | h | h | h | h | h | h
  · exact qms_0_ok m h
  · exact qms_1_ok m h
  · exact qms_2_ok m h
  · exact qms_3_ok m h
  · exact qms_4_ok m h
  · exact qms_5_ok m h
  · exact qms_6_ok m h
  · exact qms_7_ok m h
  · exact qms_8_ok m h
  · exact qms_9_ok m h
  · exact qms_10_ok m h
  · exact qms_11_ok m h
  · exact qms_12_ok m h
  · exact qms_13_ok m h
  · exact qms_14_ok m h
  · exact qms_15_ok m h
  · exact qms_16_ok m h
  · exact qms_17_ok m h
  · exact qms_18_ok m h
  · exact qms_19_ok m h
def qFL : List (Nat × Nat × Nat × Nat × Nat) := [(0, 22, 0, 0, 29), (1, 53, 0, 0, 30), (8, 171, 0, 0, 31), (0, 26, 0, 1, 32), (0, 9, 0, 2, 33), (0, 13, 0, 3, 34), (0, 16, 0, 4, 35), (0, 19, 0, 5, 36), (6, 15, 6, 0, 72), (3, 61, 6, 0, 73), (7, 295, 6, 0, 74), (6, 19, 6, 1, 75), (3, 86, 6, 1, 76), (6, 22, 6, 2, 77), (3, 91, 6, 2, 78), (6, 25, 6, 3, 79), (3, 101, 6, 3, 80), (6, 9, 6, 4, 81), (3, 67, 6, 4, 82), (8, 228, 6, 4, 83), (2, 28, 2, 0, 95), (7, 160, 2, 0, 96), (3, 161, 2, 0, 97), (2, 31, 2, 1, 98), (7, 163, 2, 1, 99), (2, 34, 2, 2, 100), (7, 166, 2, 2, 101), (2, 40, 2, 3, 102), (7, 169, 2, 3, 103), (3, 155, 2, 3, 104), (7, 87, 2, 4, 105), (2, 72, 2, 4, 106), (2, 47, 2, 5, 107), (7, 209, 2, 5, 108), (2, 54, 2, 6, 109), (7, 216, 2, 6, 110), (2, 75, 2, 7, 111), (7, 219, 2, 7, 112), (3, 158, 2, 7, 113), (2, 60, 2, 8, 114), (7, 279, 2, 8, 115), (2, 64, 2, 9, 116), (7, 199, 2, 9, 117), (2, 9, 2, 10, 118), (7, 272, 2, 10, 119), (2, 41, 2, 11, 120), (7, 269, 2, 11, 121), (2, 18, 2, 12, 122), (7, 188, 2, 12, 123), (3, 34, 3, 0, 160), (2, 22, 3, 0, 161), (7, 135, 3, 0, 162), (3, 54, 3, 1, 163), (8, 67, 3, 1, 164), (7, 104, 3, 1, 165), (3, 38, 3, 2, 166), (2, 37, 3, 2, 167), (7, 138, 3, 2, 168), (8, 130, 3, 2, 169), (3, 41, 3, 3, 170), (7, 226, 3, 3, 171), (3, 9, 3, 4, 172), (3, 44, 3, 5, 173), (3, 18, 3, 6, 174), (7, 192, 3, 6, 175), (8, 224, 3, 6, 176), (3, 58, 3, 7, 177), (7, 253, 3, 7, 178), (8, 208, 3, 7, 179), (3, 64, 3, 8, 180), (2, 57, 3, 8, 181), (8, 87, 3, 8, 182), (7, 288, 3, 8, 183), (3, 22, 3, 9, 184), (8, 193, 3, 9, 185), (7, 371, 3, 9, 186), (7, 108, 3, 10, 187), (3, 174, 3, 10, 188), (3, 74, 3, 11, 189), (7, 314, 3, 11, 190), (3, 77, 3, 12, 191), (7, 326, 3, 12, 192), (3, 25, 3, 13, 193), (2, 44, 3, 13, 194), (7, 178, 3, 13, 195), (8, 231, 3, 13, 196), (3, 28, 3, 14, 197), (7, 305, 3, 14, 198), (8, 234, 3, 14, 199), (3, 31, 3, 15, 200), (7, 299, 3, 15, 201), (8, 237, 3, 15, 202), (2, 61, 3, 16, 203), (3, 80, 3, 16, 204), (7, 117, 3, 16, 205), (3, 83, 3, 17, 206), (7, 114, 3, 17, 207), (5, 7, 5, 0, 250), (8, 254, 5, 0, 251), (7, 377, 5, 0, 252), (5, 13, 5, 1, 253), (8, 262, 5, 1, 254), (7, 380, 5, 1, 255), (5, 16, 5, 2, 256), (8, 265, 5, 2, 257), (7, 383, 5, 2, 258), (5, 19, 5, 3, 259), (7, 386, 5, 3, 260), (5, 22, 5, 4, 261), (7, 387, 5, 4, 262), (5, 25, 5, 5, 263), (8, 259, 5, 5, 264), (7, 390, 5, 5, 265), (7, 44, 7, 0, 279), (7, 11, 7, 1, 280), (8, 63, 7, 1, 281), (7, 19, 7, 2, 282), (8, 240, 7, 2, 283), (7, 52, 7, 3, 284), (8, 202, 7, 3, 285), (7, 24, 7, 4, 286), (7, 30, 7, 5, 287), (8, 250, 7, 5, 288), (7, 56, 7, 6, 289), (8, 124, 7, 6, 290), (7, 34, 7, 7, 291), (8, 247, 7, 7, 292), (7, 65, 7, 8, 293), (8, 291, 7, 8, 294), (7, 68, 7, 9, 295), (8, 140, 7, 9, 296), (7, 38, 7, 10, 297), (7, 41, 7, 11, 298), (7, 71, 7, 12, 299), (8, 154, 7, 12, 300), (8, 51, 7, 13, 301), (7, 128, 7, 13, 302), (7, 74, 7, 14, 303), (8, 205, 7, 14, 304), (7, 77, 7, 15, 305), (8, 294, 7, 15, 306), (1, 10, 1, 0, 348), (8, 166, 1, 0, 349), (1, 16, 1, 1, 350), (1, 26, 1, 2, 351), (1, 30, 1, 3, 352), (1, 33, 1, 4, 353), (4, 9, 4, 0, 371), (8, 180, 4, 0, 372), (4, 29, 4, 1, 373), (8, 177, 4, 1, 374), (4, 13, 4, 2, 375), (4, 22, 4, 3, 376), (4, 26, 4, 4, 377), (4, 32, 4, 5, 378), (8, 10, 8, 0, 432), (8, 21, 8, 1, 433), (8, 25, 8, 2, 434), (8, 28, 8, 3, 435), (8, 151, 8, 4, 436), (8, 31, 8, 5, 437), (8, 157, 8, 6, 438), (8, 40, 8, 7, 439), (8, 47, 8, 8, 440), (9, 7, 9, 0, 1151), (9, 13, 9, 1, 1152), (9, 16, 9, 2, 1153), (9, 19, 9, 3, 1154), (9, 22, 9, 4, 1155), (9, 25, 9, 5, 1156), (9, 147, 9, 6, 1157), (9, 154, 9, 7, 1158), (9, 157, 9, 8, 1159), (9, 164, 9, 9, 1160), (9, 171, 9, 10, 1161), (9, 182, 9, 11, 1162), (9, 178, 9, 12, 1163), (9, 185, 9, 13, 1164), (9, 231, 9, 14, 1165), (9, 246, 9, 15, 1166), (9, 29, 9, 16, 1167), (9, 32, 9, 17, 1168), (9, 35, 9, 18, 1169), (9, 38, 9, 19, 1170), (9, 41, 9, 20, 1171), (9, 44, 9, 21, 1172), (9, 47, 9, 22, 1173), (9, 50, 9, 23, 1174), (9, 53, 9, 24, 1175), (9, 56, 9, 25, 1176), (9, 59, 9, 26, 1177), (9, 62, 9, 27, 1178), (9, 65, 9, 28, 1179), (9, 320, 9, 29, 1180), (9, 68, 9, 30, 1181), (9, 71, 9, 31, 1182), (9, 74, 9, 32, 1183), (9, 77, 9, 33, 1184), (9, 80, 9, 34, 1185), (9, 83, 9, 35, 1186), (9, 86, 9, 36, 1187), (9, 426, 9, 37, 1188), (9, 444, 9, 38, 1189), (9, 420, 9, 39, 1190), (9, 423, 9, 40, 1191), (9, 429, 9, 41, 1192), (9, 432, 9, 42, 1193), (9, 435, 9, 43, 1194), (9, 510, 9, 44, 1195)]
def qFchk (q : Nat × Nat × Nat × Nat × Nat) : Bool := match qcl[q.2.2.1]? with
  | some r => decide (q.2.2.2.1 < r.2.2) && decide (tables_1[q.2.2.2.2]? = some (.fieldLink (qon q.1) q.2.1 (r.2.1 q.2.2.2.1).1 (r.2.1 q.2.2.2.1).2.1 (r.2.1 q.2.2.2.1).2.2.1)) && decide ((r.2.1 q.2.2.2.1).1 = r.1)
  | none => false
theorem qFL_ok : qFL.all qFchk = true := by decide +kernel
theorem qFL_spec {o i ci k w p : Nat} (h : qFL[w]? = some (o, i, ci, k, p)) : ∃ r, qcl[ci]? = some r ∧ k < r.2.2 ∧ Cond.fieldLink (qon o) i (r.2.1 k).1 (r.2.1 k).2.1 (r.2.1 k).2.2.1 ∈ qT ∧ (r.2.1 k).1 = r.1 := by
  have h1 := List.all_eq_true.mp qFL_ok _ (List.mem_of_getElem? h)
  unfold qFchk at h1
  dsimp only at h1
  split at h1
  · rename_i r hr
    simp only [Bool.and_eq_true, decide_eq_true_eq] at h1
    exact ⟨r, hr, h1.1.1, qT_mem (List.mem_of_getElem? h1.1.2) rfl, h1.2⟩
  · cases h1
def qCL : List (Nat × Nat × Nat × Nat) := [(13, 9, 121, 17), (8, 18, 78, 53), (7, 48, 29, 154), (8, 37, 7, 342), (8, 46, 61, 367), (8, 55, 79, 392), (7, 59, 313, 396), (7, 80, 30, 399), (3, 47, 76, 403), (6, 28, 313, 407), (3, 51, 31, 408), (7, 83, 84, 415), (7, 132, 83, 419), (7, 141, 4, 424), (7, 147, 5, 428), (13, 13, 122, 460), (13, 18, 123, 464), (8, 59, 152, 468), (8, 73, 100, 471), (7, 317, 108, 475), (13, 22, 124, 479), (8, 77, 31, 483), (8, 80, 84, 484), (13, 26, 125, 485), (8, 83, 109, 489), (13, 31, 126, 493), (8, 90, 33, 497), (8, 94, 46, 501), (3, 107, 38, 505), (3, 94, 35, 509), (3, 127, 36, 513), (3, 133, 47, 517), (13, 35, 127, 527), (8, 97, 153, 531), (8, 100, 32, 534), (8, 104, 37, 538), (3, 87, 34, 542), (8, 107, 101, 546), (7, 292, 45, 553), (3, 130, 46, 557), (7, 206, 34, 558), (7, 120, 41, 559), (3, 110, 39, 563), (3, 113, 40, 567), (7, 124, 88, 571), (7, 181, 33, 578), (7, 184, 85, 579), (7, 157, 25, 586), (7, 193, 77, 590), (7, 200, 86, 595), (7, 170, 87, 599), (7, 203, 26, 604), (2, 50, 36, 608), (2, 65, 34, 609), (2, 69, 35, 610), (7, 308, 102, 611), (7, 341, 54, 615), (3, 168, 55, 619), (8, 338, 312, 626), (7, 282, 104, 632), (7, 356, 35, 636), (7, 359, 105, 637), (7, 344, 38, 650), (7, 347, 40, 651), (7, 350, 39, 652), (7, 353, 103, 653), (7, 229, 97, 657), (13, 40, 128, 661), (8, 111, 34, 665), (8, 114, 38, 666), (8, 118, 39, 667), (8, 121, 40, 668), (13, 45, 129, 669), (8, 127, 36, 673), (8, 133, 106, 674), (7, 311, 107, 678), (7, 393, 56, 682), (7, 329, 43, 686), (13, 63, 130, 690), (8, 137, 154, 694), (8, 143, 80, 697), (7, 90, 81, 701), (7, 93, 91, 705), (7, 232, 92, 710), (7, 259, 44, 714), (7, 262, 90, 718), (7, 236, 53, 722), (3, 164, 43, 726), (7, 240, 99, 727), (7, 335, 52, 731), (3, 149, 313, 735), (7, 243, 101, 736), (7, 247, 93, 737), (7, 266, 50, 741), (7, 275, 94, 746), (7, 212, 36, 750), (7, 289, 48, 754), (7, 250, 95, 759), (7, 296, 49, 763), (3, 145, 77, 767), (7, 256, 96, 768), (7, 97, 32, 772), (7, 101, 82, 773), (7, 111, 98, 777), (7, 320, 42, 781), (3, 116, 41, 785), (7, 323, 51, 787), (7, 332, 89, 791), (13, 120, 131, 795), (13, 124, 132, 800), (8, 147, 120, 804), (7, 415, 60, 808), (7, 417, 28, 812), (2, 85, 77, 817), (7, 419, 74, 818), (13, 128, 133, 823), (13, 49, 134, 827), (8, 160, 158, 831), (13, 54, 135, 835), (8, 163, 8, 839), (1, 36, 1, 844), (1, 39, 13, 848), (1, 46, 9, 852), (1, 50, 10, 856), (1, 56, 2, 860), (1, 59, 18, 864), (1, 81, 19, 868), (1, 84, 20, 872), (1, 42, 11, 876), (1, 87, 22, 880), (1, 91, 21, 883), (1, 94, 23, 887), (1, 71, 12, 890), (1, 62, 14, 894), (1, 68, 15, 898), (1, 75, 16, 902), (1, 78, 17, 906), (1, 65, 3, 910), (8, 169, 6, 914), (13, 59, 136, 919), (8, 174, 64, 923), (4, 35, 67, 928), (4, 39, 65, 932), (4, 43, 68, 936), (4, 53, 66, 940), (4, 46, 69, 944), (4, 57, 71, 948), (4, 61, 72, 951), (4, 64, 63, 954), (4, 49, 70, 957), (8, 183, 62, 961), (8, 186, 159, 964), (8, 303, 63, 968), (8, 306, 123, 969), (8, 309, 124, 970), (8, 312, 126, 971), (8, 315, 127, 972), (8, 319, 129, 973), (8, 322, 125, 974), (13, 133, 137, 975), (8, 189, 113, 979), (13, 67, 138, 983), (8, 196, 156, 987), (8, 199, 112, 990), (13, 71, 139, 994), (8, 211, 59, 998), (3, 171, 33, 1002), (13, 75, 140, 1003), (8, 214, 155, 1007), (8, 217, 35, 1010), (8, 220, 165, 1011), (8, 326, 161, 1014), (8, 329, 162, 1015), (8, 332, 163, 1016), (8, 335, 164, 1017), (13, 79, 141, 1018), (13, 83, 142, 1022), (13, 87, 143, 1026), (8, 244, 27, 1030), (13, 91, 144, 1034), (13, 96, 145, 1038), (13, 100, 146, 1042), (13, 104, 147, 1046), (8, 268, 115, 1050), (7, 401, 58, 1054), (8, 271, 116, 1058), (7, 405, 117, 1062), (7, 409, 57, 1065), (13, 108, 148, 1069), (8, 274, 42, 1073), (8, 277, 118, 1074), (7, 412, 119, 1078), (8, 281, 43, 1082), (13, 112, 149, 1083), (13, 116, 150, 1087), (8, 284, 157, 1091), (8, 300, 114, 1095), (13, 137, 151, 1099), (8, 288, 111, 1103), (8, 297, 110, 1107), (7, 396, 312, 1111), (13, 12, 168, 1114), (9, 89, 265, 1118), (9, 133, 177, 1122), (9, 295, 223, 1126), (9, 257, 222, 1130), (9, 101, 176, 1135), (9, 260, 220, 1139), (9, 253, 219, 1143), (9, 249, 218, 1148), (13, 53, 194, 1288), (9, 151, 193, 1292), (13, 58, 217, 1296), (9, 93, 169, 1300), (9, 237, 216, 1303), (9, 240, 215, 1307), (9, 160, 196, 1311), (9, 167, 198, 1315), (9, 216, 209, 1319), (9, 203, 207, 1323), (9, 194, 202, 1327), (9, 174, 197, 1331), (9, 197, 200, 1335), (9, 191, 201, 1339), (9, 200, 204, 1343), (9, 206, 205, 1346), (9, 209, 206, 1349), (9, 188, 203, 1353), (9, 213, 208, 1357), (9, 234, 214, 1361), (9, 222, 213, 1365), (9, 219, 210, 1369), (9, 225, 211, 1373), (9, 228, 212, 1377), (9, 243, 199, 1381), (13, 66, 264, 1385), (9, 411, 263, 1389), (9, 408, 262, 1393), (9, 405, 259, 1397), (9, 390, 246, 1401), (9, 393, 247, 1405), (9, 105, 178, 1409), (9, 97, 175, 1413), (9, 347, 245, 1416), (9, 286, 172, 1420), (9, 268, 225, 1423), (9, 115, 170, 1428), (9, 341, 233, 1431), (9, 292, 232, 1435), (9, 350, 249, 1439), (9, 368, 248, 1443), (9, 108, 180, 1447), (9, 137, 183, 1451), (9, 112, 181, 1455), (9, 371, 227, 1459), (9, 271, 224, 1463), (9, 274, 226, 1467), (9, 265, 221, 1471), (9, 353, 250, 1475), (9, 298, 189, 1479), (9, 121, 185, 1483), (9, 118, 184, 1487), (9, 124, 186, 1491), (9, 127, 173, 1495), (9, 301, 235, 1498), (9, 304, 237, 1502), (9, 307, 192, 1506), (9, 144, 191, 1510), (9, 140, 190, 1514), (9, 130, 171, 1518), (9, 311, 236, 1521), (9, 314, 231, 1525), (9, 283, 187, 1529), (9, 289, 228, 1533), (9, 277, 229, 1537), (9, 280, 230, 1541), (9, 317, 242, 1545), (9, 332, 241, 1549), (9, 329, 240, 1553), (9, 335, 239, 1557), (9, 323, 182, 1561), (9, 326, 238, 1565), (9, 338, 188, 1569), (9, 356, 252, 1573), (9, 375, 251, 1577), (9, 378, 253, 1581), (9, 359, 256, 1585), (9, 381, 254, 1589), (9, 384, 255, 1593), (9, 387, 244, 1597), (9, 344, 243, 1601), (9, 362, 257, 1605), (9, 365, 258, 1609), (9, 396, 260, 1613), (9, 399, 234, 1617), (9, 402, 261, 1621), (13, 17, 266, 1625), (13, 21, 267, 1629), (13, 25, 268, 1633), (13, 30, 269, 1637), (13, 34, 270, 1641), (13, 39, 272, 1645), (9, 414, 179, 1649), (9, 417, 271, 1653), (13, 44, 273, 1657), (13, 48, 274, 1661), (13, 62, 282, 1665), (9, 475, 280, 1669), (9, 441, 275, 1673), (9, 447, 279, 1677), (9, 450, 278, 1680), (9, 438, 277, 1684), (9, 453, 276, 1688), (9, 478, 281, 1692), (9, 456, 267, 1696), (9, 459, 268, 1697), (9, 462, 270, 1698), (9, 465, 272, 1699), (9, 468, 274, 1700), (9, 471, 269, 1701), (13, 95, 284, 1702), (9, 481, 283, 1706), (13, 70, 285, 1710), (9, 484, 174, 1714), (13, 74, 287, 1717), (9, 488, 286, 1721), (13, 78, 288, 1724), (13, 82, 289, 1728), (13, 86, 290, 1732), (13, 90, 291, 1736), (13, 99, 292, 1740), (13, 103, 293, 1744), (13, 107, 297, 1748), (9, 494, 295, 1752), (9, 491, 294, 1756), (9, 497, 296, 1760), (13, 111, 299, 1764), (9, 500, 298, 1768), (13, 115, 300, 1772), (13, 119, 303, 1776), (9, 506, 302, 1780), (9, 503, 301, 1784), (13, 123, 304, 1788), (13, 127, 305, 1793), (13, 132, 306, 1797), (13, 136, 308, 1801), (9, 514, 307, 1805), (9, 517, 195, 1809), (13, 140, 311, 1813), (9, 520, 309, 1817), (9, 523, 310, 1821)]
def qCchk (q : Nat × Nat × Nat × Nat) : Bool := match qms[q.2.2.1]? with
  | some m => decide (tables_1[q.2.2.2]? = some (.methodLink (qon q.1) q.2.1 m.1))
  | none => false
theorem qCL_ok : qCL.all qCchk = true := by decide +kernel
theorem qCL_spec {o i t w p : Nat} (h : qCL[w]? = some (o, i, t, p)) : ∃ m, qms[t]? = some m ∧ Cond.methodLink (qon o) i m.1 ∈ qT := by
  have h1 := List.all_eq_true.mp qCL_ok _ (List.mem_of_getElem? h)
  unfold qCchk at h1
  dsimp only at h1
  split at h1
  · rename_i m hm
    simp only [decide_eq_true_eq] at h1
    exact ⟨m, hm, qT_mem (List.mem_of_getElem? h1) rfl⟩
  · cases h1
def qNL : List (Nat × Nat × Nat × Nat) := [(8, 9, 0, 25), (7, 23, 24, 62), (2, 17, 75, 68), (3, 17, 75, 159), (7, 51, 73, 246), (1, 9, 0, 347), (3, 98, 163, 521), (3, 104, 164, 524), (7, 338, 160, 550), (7, 174, 166, 575), (3, 123, 167, 623), (7, 362, 162, 641), (7, 365, 163, 644), (7, 368, 153, 645), (7, 374, 164, 646), (7, 222, 152, 709), (7, 285, 161, 751), (3, 119, 166, 786)]
def qNchk (q : Nat × Nat × Nat × Nat) : Bool := match qms[q.2.2.1]? with
  | some m => decide (tables_1[q.2.2.2]? = some (.methodLinkNest (qon q.1) q.2.1 m.1 "TermLog"))
  | none => false
theorem qNL_ok : qNL.all qNchk = true := by decide +kernel
theorem qNL_spec {o i t w p : Nat} (h : qNL[w]? = some (o, i, t, p)) : ∃ m, qms[t]? = some m ∧ Cond.methodLinkNest (qon o) i m.1 "TermLog" ∈ tables_1 := by
  have h1 := List.all_eq_true.mp qNL_ok _ (List.mem_of_getElem? h)
  unfold qNchk at h1
  dsimp only at h1
  split at h1
  · rename_i m hm
    simp only [decide_eq_true_eq] at h1
    exact ⟨m, hm, List.mem_of_getElem? h1⟩
  · cases h1
def qKL : List (Nat × Nat × Nat × Nat) := [(13, 7, 8, 15), (8, 7, 0, 23), (8, 16, 7, 51), (7, 9, 3, 57), (7, 17, 2, 59), (2, 15, 6, 66), (7, 28, 5, 151), (3, 15, 6, 158), (8, 35, 1, 340), (1, 7, 0, 346), (8, 44, 4, 365), (13, 10, 9, 1112)]
def qip : List (Nat × Nat) := [(24, 2), (341, 8), (61, 4), (153, 6), (366, 9), (245, 7), (67, 5), (52, 3), (16, 1), (1113, 12)]
def qKchk (q : Nat × Nat × Nat × Nat) : Bool := match qcl[q.2.2.1]? with
  | some r => decide (tables_1[q.2.2.2]? = some (.classLink (qon q.1) q.2.1 r.1))
  | none => false
theorem qKL_ok : qKL.all qKchk = true := by decide +kernel
theorem qKL_spec {o i t w p : Nat} (h : qKL[w]? = some (o, i, t, p)) : ∃ r, qcl[t]? = some r ∧ Cond.classLink (qon o) i r.1 ∈ qT := by
  have h1 := List.all_eq_true.mp qKL_ok _ (List.mem_of_getElem? h)
  unfold qKchk at h1
  dsimp only at h1
  split at h1
  · rename_i m hm
    simp only [decide_eq_true_eq] at h1
    exact ⟨m, hm, qT_mem (List.mem_of_getElem? h1) rfl⟩
  · cases h1
def qIchk (q : vw_C × (Nat × Nat)) : Bool := decide (tables_1[q.2.1]? = some (.instantiable q.1.1 q.1.2.2)) && decide (tables_1[q.2.2]? = some (.initialized q.1.1))
theorem qip_ok : (qcl.zip qip).all qIchk = true := by decide +kernel
theorem qcl_inst {c : Nat} {r : vw_C} (h : qcl[c]? = some r) : Cond.instantiable r.1 r.2.2 ∈ qT ∧ Cond.initialized r.1 ∈ qT := by
  obtain ⟨hc, he⟩ := List.getElem?_eq_some_iff.mp h
  have hl : qcl.length = 10 := rfl
  have hl2 : qip.length = 10 := rfl
  have hz : (qcl[c], qip[c]'(by omega)) ∈ qcl.zip qip := by
    have h1 : c < (qcl.zip qip).length := by simp [hl, hl2]; omega
    exact List.mem_iff_getElem.mpr ⟨c, h1, List.getElem_zip⟩
  have h3 := List.all_eq_true.mp qip_ok _ hz
  rw [he] at h3
  simp only [qIchk, Bool.and_eq_true, decide_eq_true_eq] at h3
  exact ⟨qT_mem (List.mem_of_getElem? h3.1) rfl, qT_mem (List.mem_of_getElem? h3.2) rfl⟩
def qup : List (List Nat) := [[37, 39, 41, 43, 45, 47], [354, 356, 358, 360, 362], [124, 126, 128, 130, 132, 134, 136, 138, 140, 142, 144, 146, 148], [208, 210, 212, 214, 216, 218, 220, 222, 224, 226, 228, 230, 232, 234, 236, 238, 240, 242], [379, 381, 383, 385, 387, 389], [266, 268, 270, 272, 274, 276], [84, 86, 88, 90, 92], [307, 309, 311, 313, 315, 317, 319, 321, 323, 325, 327, 329, 331, 333, 335, 337], [441, 443, 445, 447, 449, 451, 453, 455, 457], [1196, 1198, 1200, 1202, 1204, 1206, 1208, 1210, 1212, 1214, 1216, 1218, 1220, 1222, 1224, 1226, 1228, 1230, 1232, 1234, 1236, 1238, 1240, 1242, 1244, 1246, 1248, 1250, 1252, 1254, 1256, 1258, 1260, 1262, 1264, 1266, 1268, 1270, 1272, 1274, 1276, 1278, 1280, 1282, 1284]]
theorem qup_ok : (qcl.zip qup).all (fun q => decide ((u_ws q.1.1 q.1.2.1 q.1.2.2).map some = q.2.map (fun i => tables_1[i]?)) && (u_ws q.1.1 q.1.2.1 q.1.2.2).all goodWord) = true := by decide +kernel
theorem qcl_ws : ∀ r ∈ qcl, ∀ w ∈ u_ws r.1 r.2.1 r.2.2, w ∈ tables_1 ∧ goodWord w = true := by
  intro r hr w hw
  obtain ⟨c, hc, he⟩ := List.mem_iff_getElem.mp hr
  have hl : qcl.length = 10 := rfl
  have hl2 : qup.length = 10 := rfl
  have hz : (qcl[c], qup[c]'(by omega)) ∈ qcl.zip qup := List.mem_iff_getElem.mpr ⟨c, by simp [hl, hl2]; omega, List.getElem_zip⟩
  have h3 := List.all_eq_true.mp qup_ok _ hz
  rw [he] at h3
  simp only [Bool.and_eq_true, decide_eq_true_eq] at h3
  refine ⟨?_, List.all_eq_true.mp h3.2 w hw⟩
  have h4 : some w ∈ (qup[c]'(by omega)).map (fun i => tables_1[i]?) := by rw [← h3.1]; exact List.mem_map.mpr ⟨w, hw, rfl⟩
  obtain ⟨i, -, hi⟩ := List.mem_map.mp h4
  exact List.mem_of_getElem? hi
theorem qcl_in {c : Nat} {r : vw_C} (h : qcl[c]? = some r) : ∀ w ∈ u_ws r.1 r.2.1 r.2.2, w ∈ qT := by
  intro w hw
  have h1 := qcl_ws r (List.mem_of_getElem? h) w hw
  exact qT_mem h1.1 h1.2
def qKo : List (Nat × Nat × Int × Nat) := [(7, 131, 65535, 423), (7, 173, 99999, 603), (10, 265, 1431655765, 629), (10, 266, 858993459, 630), (10, 267, 252645135, 631), (8, 146, 65535, 799), (9, 256, 65536, 1134), (9, 181, 1048576, 1147), (9, 264, 99999, 1427), (9, 509, 65535, 1792)]
def qKochk (q : Nat × Nat × Int × Nat) : Bool := decide (tables_1[q.2.2.2]? = some (.constant (qon q.1) q.2.1 (Int32.ofInt q.2.2.1)))
theorem qKo_ok : qKo.all qKochk = true := by decide +kernel
theorem qKo_spec {o i w p : Nat} {v : Int} (h : qKo[w]? = some (o, i, v, p)) : Cond.constant (qon o) i (Int32.ofInt v) ∈ qT := by
  have h1 := List.all_eq_true.mp qKo_ok _ (List.mem_of_getElem? h)
  simp only [qKochk, decide_eq_true_eq] at h1
  exact qT_mem (List.mem_of_getElem? h1) rfl
