abbrev mi_Law_init : qMI := (yX0_init, cX0_init, 1, (Option.none : Option Jvm.ClassFile.FieldType), 0, 0, 2)
set_option maxRecDepth 20000 in
theorem qm_Law_init : qms[0]? = some mi_Law_init := rfl
theorem ok_Law_init : cdok mi_Law_init cd_Law_init := cdok_of (by decide +kernel)
abbrev mi_Law_clear : qMI := (yX0_clear, cX0_clear, 1, (Option.none : Option Jvm.ClassFile.FieldType), 0, 0, 1)
set_option maxRecDepth 20000 in
theorem qm_Law_clear : qms[1]? = some mi_Law_clear := rfl
theorem ok_Law_clear : cdok mi_Law_clear cd_Law_clear := cdok_of (by decide +kernel)
abbrev mi_Law_put : qMI := (yX0_put, cX0_put, 3, (Option.some Jvm.ClassFile.FieldType.int), 2, 0, 1)
set_option maxRecDepth 20000 in
theorem qm_Law_put : qms[2]? = some mi_Law_put := rfl
theorem ok_Law_put : cdok mi_Law_put cd_Law_put := cdok_of (by decide +kernel)
abbrev mi_Law_aim : qMI := (yX0_aim, cX0_aim, 2, (Option.none : Option Jvm.ClassFile.FieldType), 1, 0, 1)
set_option maxRecDepth 20000 in
theorem qm_Law_aim : qms[3]? = some mi_Law_aim := rfl
theorem ok_Law_aim : cdok mi_Law_aim cd_Law_aim := cdok_of (by decide +kernel)
abbrev mi_Law_give : qMI := (yX0_give, cX0_give, 8, (Option.none : Option Jvm.ClassFile.FieldType), 7, 0, 1)
set_option maxRecDepth 20000 in
theorem qm_Law_give : qms[4]? = some mi_Law_give := rfl
theorem ok_Law_give : cdok mi_Law_give cd_Law_give := cdok_of (by decide +kernel)
abbrev mi_Law_worth : qMI := (yX0_worth, cX0_worth, 14, (Option.some Jvm.ClassFile.FieldType.int), 4, 0, 1)
set_option maxRecDepth 20000 in
theorem qm_Law_worth : qms[5]? = some mi_Law_worth := rfl
theorem ok_Law_worth : cdok mi_Law_worth cd_Law_worth := cdok_of (by decide +kernel)
abbrev mi_Law_takeAll : qMI := (yX0_takeAll, cX0_takeAll, 2, (Option.none : Option Jvm.ClassFile.FieldType), 1, 0, 1)
set_option maxRecDepth 20000 in
theorem qm_Law_takeAll : qms[6]? = some mi_Law_takeAll := rfl
theorem ok_Law_takeAll : cdok mi_Law_takeAll cd_Law_takeAll := cdok_of (by decide +kernel)
abbrev mi_LR_init : qMI := (yX1_init, cX1_init, 2, (Option.none : Option Jvm.ClassFile.FieldType), 1, 1, 2)
set_option maxRecDepth 20000 in
theorem qm_LR_init : qms[7]? = some mi_LR_init := rfl
theorem ok_LR_init : cdok mi_LR_init cd_LR_init := cdok_of (by decide +kernel)
abbrev mi_LR_readRules : qMI := (yX1_readRules, cX1_readRules, 3, (Option.some Jvm.ClassFile.FieldType.int), 1, 1, 1)
set_option maxRecDepth 20000 in
theorem qm_LR_readRules : qms[8]? = some mi_LR_readRules := rfl
theorem ok_LR_readRules : cdok mi_LR_readRules cd_LR_readRules := cdok_of (by decide +kernel)
abbrev mi_LR_sign : qMI := (yX1_sign, cX1_sign, 1, (Option.some Jvm.ClassFile.FieldType.int), 0, 1, 1)
set_option maxRecDepth 20000 in
theorem qm_LR_sign : qms[9]? = some mi_LR_sign := rfl
theorem ok_LR_sign : cdok mi_LR_sign cd_LR_sign := cdok_of (by decide +kernel)
abbrev mi_LR_fail : qMI := (yX1_fail, cX1_fail, 2, (Option.none : Option Jvm.ClassFile.FieldType), 1, 1, 1)
set_option maxRecDepth 20000 in
theorem qm_LR_fail : qms[10]? = some mi_LR_fail := rfl
theorem ok_LR_fail : cdok mi_LR_fail cd_LR_fail := cdok_of (by decide +kernel)
abbrev mi_LR_expect : qMI := (yX1_expect, cX1_expect, 2, (Option.none : Option Jvm.ClassFile.FieldType), 1, 1, 1)
set_option maxRecDepth 20000 in
theorem qm_LR_expect : qms[11]? = some mi_LR_expect := rfl
theorem ok_LR_expect : cdok mi_LR_expect cd_LR_expect := cdok_of (by decide +kernel)
abbrev mi_LR_isNext : qMI := (yX1_isNext, cX1_isNext, 5, (Option.some Jvm.ClassFile.FieldType.boolean), 3, 1, 1)
set_option maxRecDepth 20000 in
theorem qm_LR_isNext : qms[12]? = some mi_LR_isNext := rfl
theorem ok_LR_isNext : cdok mi_LR_isNext cd_LR_isNext := cdok_of (by decide +kernel)
abbrev mi_LR_readRule : qMI := (yX1_readRule, cX1_readRule, 3, (Option.none : Option Jvm.ClassFile.FieldType), 0, 1, 1)
set_option maxRecDepth 20000 in
theorem qm_LR_readRule : qms[13]? = some mi_LR_readRule := rfl
theorem ok_LR_readRule : cdok mi_LR_readRule cd_LR_readRule := cdok_of (by decide +kernel)
abbrev mi_LR_readParts : qMI := (yX1_readParts, cX1_readParts, 4, (Option.none : Option Jvm.ClassFile.FieldType), 1, 1, 1)
set_option maxRecDepth 20000 in
theorem qm_LR_readParts : qms[14]? = some mi_LR_readParts := rfl
theorem ok_LR_readParts : cdok mi_LR_readParts cd_LR_readParts := cdok_of (by decide +kernel)
abbrev mi_LR_readTests : qMI := (yX1_readTests, cX1_readTests, 4, (Option.none : Option Jvm.ClassFile.FieldType), 1, 1, 1)
set_option maxRecDepth 20000 in
theorem qm_LR_readTests : qms[15]? = some mi_LR_readTests := rfl
theorem ok_LR_readTests : cdok mi_LR_readTests cd_LR_readTests := cdok_of (by decide +kernel)
abbrev mi_LR_readTest : qMI := (yX1_readTest, cX1_readTest, 3, (Option.none : Option Jvm.ClassFile.FieldType), 1, 1, 1)
set_option maxRecDepth 20000 in
theorem qm_LR_readTest : qms[16]? = some mi_LR_readTest := rfl
theorem ok_LR_readTest : cdok mi_LR_readTest cd_LR_readTest := cdok_of (by decide +kernel)
abbrev mi_LR_readOpened : qMI := (yX1_readOpened, cX1_readOpened, 3, (Option.none : Option Jvm.ClassFile.FieldType), 1, 1, 1)
set_option maxRecDepth 20000 in
theorem qm_LR_readOpened : qms[17]? = some mi_LR_readOpened := rfl
theorem ok_LR_readOpened : cdok mi_LR_readOpened cd_LR_readOpened := cdok_of (by decide +kernel)
abbrev mi_LR_readSum : qMI := (yX1_readSum, cX1_readSum, 4, (Option.none : Option Jvm.ClassFile.FieldType), 1, 1, 1)
set_option maxRecDepth 20000 in
theorem qm_LR_readSum : qms[18]? = some mi_LR_readSum := rfl
theorem ok_LR_readSum : cdok mi_LR_readSum cd_LR_readSum := cdok_of (by decide +kernel)
abbrev mi_LR_readProduct : qMI := (yX1_readProduct, cX1_readProduct, 4, (Option.none : Option Jvm.ClassFile.FieldType), 1, 1, 1)
set_option maxRecDepth 20000 in
theorem qm_LR_readProduct : qms[19]? = some mi_LR_readProduct := rfl
theorem ok_LR_readProduct : cdok mi_LR_readProduct cd_LR_readProduct := cdok_of (by decide +kernel)
abbrev mi_LR_readFactor : qMI := (yX1_readFactor, cX1_readFactor, 4, (Option.none : Option Jvm.ClassFile.FieldType), 1, 1, 1)
set_option maxRecDepth 20000 in
theorem qm_LR_readFactor : qms[20]? = some mi_LR_readFactor := rfl
theorem ok_LR_readFactor : cdok mi_LR_readFactor cd_LR_readFactor := cdok_of (by decide +kernel)
abbrev mi_LR_readNumber : qMI := (yX1_readNumber, cX1_readNumber, 3, (Option.none : Option Jvm.ClassFile.FieldType), 0, 1, 1)
set_option maxRecDepth 20000 in
theorem qm_LR_readNumber : qms[21]? = some mi_LR_readNumber := rfl
theorem ok_LR_readNumber : cdok mi_LR_readNumber cd_LR_readNumber := cdok_of (by decide +kernel)
abbrev mi_LR_isDigit : qMI := (yX1_isDigit, cX1_isDigit, 1, (Option.some Jvm.ClassFile.FieldType.boolean), 1, 1, 0)
set_option maxRecDepth 20000 in
theorem qm_LR_isDigit : qms[22]? = some mi_LR_isDigit := rfl
theorem ok_LR_isDigit : cdok mi_LR_isDigit cd_LR_isDigit := cdok_of (by decide +kernel)
abbrev mi_LR_letterPlace : qMI := (yX1_letterPlace, cX1_letterPlace, 1, (Option.some Jvm.ClassFile.FieldType.int), 1, 1, 0)
set_option maxRecDepth 20000 in
theorem qm_LR_letterPlace : qms[23]? = some mi_LR_letterPlace := rfl
theorem ok_LR_letterPlace : cdok mi_LR_letterPlace cd_LR_letterPlace := cdok_of (by decide +kernel)
abbrev mi_Msg_init : qMI := (yX2_init, cX2_init, 1, (Option.none : Option Jvm.ClassFile.FieldType), 0, 2, 2)
set_option maxRecDepth 20000 in
theorem qm_Msg_init : qms[24]? = some mi_Msg_init := rfl
theorem ok_Msg_init : cdok mi_Msg_init cd_Msg_init := cdok_of (by decide +kernel)
abbrev mi_Msg_begin : qMI := (yX2_begin, cX2_begin, 4, (Option.none : Option Jvm.ClassFile.FieldType), 3, 2, 1)
set_option maxRecDepth 20000 in
theorem qm_Msg_begin : qms[25]? = some mi_Msg_begin := rfl
theorem ok_Msg_begin : cdok mi_Msg_begin cd_Msg_begin := cdok_of (by decide +kernel)
abbrev mi_Msg_bearEntries : qMI := (yX2_bearEntries, cX2_bearEntries, 4, (Option.none : Option Jvm.ClassFile.FieldType), 1, 2, 1)
set_option maxRecDepth 20000 in
theorem qm_Msg_bearEntries : qms[26]? = some mi_Msg_bearEntries := rfl
theorem ok_Msg_bearEntries : cdok mi_Msg_bearEntries cd_Msg_bearEntries := cdok_of (by decide +kernel)
abbrev mi_Msg_fact : qMI := (yX2_fact, cX2_fact, 2, (Option.some Jvm.ClassFile.FieldType.int), 1, 2, 1)
set_option maxRecDepth 20000 in
theorem qm_Msg_fact : qms[27]? = some mi_Msg_fact := rfl
theorem ok_Msg_fact : cdok mi_Msg_fact cd_Msg_fact := cdok_of (by decide +kernel)
abbrev mi_Msg_takeAll : qMI := (yX2_takeAll, cX2_takeAll, 2, (Option.none : Option Jvm.ClassFile.FieldType), 1, 2, 1)
set_option maxRecDepth 20000 in
theorem qm_Msg_takeAll : qms[28]? = some mi_Msg_takeAll := rfl
theorem ok_Msg_takeAll : cdok mi_Msg_takeAll cd_Msg_takeAll := cdok_of (by decide +kernel)
abbrev mi_Node_init : qMI := (yX3_init, cX3_init, 2, (Option.none : Option Jvm.ClassFile.FieldType), 1, 3, 2)
set_option maxRecDepth 20000 in
theorem qm_Node_init : qms[29]? = some mi_Node_init := rfl
theorem ok_Node_init : cdok mi_Node_init cd_Node_init := cdok_of (by decide +kernel)
abbrev mi_Node_begin : qMI := (yX3_begin, cX3_begin, 2, (Option.none : Option Jvm.ClassFile.FieldType), 1, 3, 1)
set_option maxRecDepth 20000 in
theorem qm_Node_begin : qms[30]? = some mi_Node_begin := rfl
theorem ok_Node_begin : cdok mi_Node_begin cd_Node_begin := cdok_of (by decide +kernel)
abbrev mi_Node_rise : qMI := (yX3_rise, cX3_rise, 1, (Option.none : Option Jvm.ClassFile.FieldType), 0, 3, 1)
set_option maxRecDepth 20000 in
theorem qm_Node_rise : qms[31]? = some mi_Node_rise := rfl
theorem ok_Node_rise : cdok mi_Node_rise cd_Node_rise := cdok_of (by decide +kernel)
abbrev mi_Node_leads : qMI := (yX3_leads, cX3_leads, 1, (Option.some Jvm.ClassFile.FieldType.boolean), 0, 3, 1)
set_option maxRecDepth 20000 in
theorem qm_Node_leads : qms[32]? = some mi_Node_leads := rfl
theorem ok_Node_leads : cdok mi_Node_leads cd_Node_leads := cdok_of (by decide +kernel)
abbrev mi_Node_base : qMI := (yX3_base, cX3_base, 1, (Option.some Jvm.ClassFile.FieldType.int), 0, 3, 1)
set_option maxRecDepth 20000 in
theorem qm_Node_base : qms[33]? = some mi_Node_base := rfl
theorem ok_Node_base : cdok mi_Node_base cd_Node_base := cdok_of (by decide +kernel)
abbrev mi_Node_last : qMI := (yX3_last, cX3_last, 1, (Option.some Jvm.ClassFile.FieldType.int), 0, 3, 1)
set_option maxRecDepth 20000 in
theorem qm_Node_last : qms[34]? = some mi_Node_last := rfl
theorem ok_Node_last : cdok mi_Node_last cd_Node_last := cdok_of (by decide +kernel)
abbrev mi_Node_entry : qMI := (yX3_entry, cX3_entry, 3, (Option.some Jvm.ClassFile.FieldType.int), 1, 3, 1)
set_option maxRecDepth 20000 in
theorem qm_Node_entry : qms[35]? = some mi_Node_entry := rfl
theorem ok_Node_entry : cdok mi_Node_entry cd_Node_entry := cdok_of (by decide +kernel)
abbrev mi_Node_termAt : qMI := (yX3_termAt, cX3_termAt, 3, (Option.some Jvm.ClassFile.FieldType.int), 1, 3, 1)
set_option maxRecDepth 20000 in
theorem qm_Node_termAt : qms[36]? = some mi_Node_termAt := rfl
theorem ok_Node_termAt : cdok mi_Node_termAt cd_Node_termAt := cdok_of (by decide +kernel)
abbrev mi_Node_isFull : qMI := (yX3_isFull, cX3_isFull, 1, (Option.some Jvm.ClassFile.FieldType.boolean), 0, 3, 1)
set_option maxRecDepth 20000 in
theorem qm_Node_isFull : qms[37]? = some mi_Node_isFull := rfl
theorem ok_Node_isFull : cdok mi_Node_isFull cd_Node_isFull := cdok_of (by decide +kernel)
abbrev mi_Node_configIndex : qMI := (yX3_configIndex, cX3_configIndex, 4, (Option.some Jvm.ClassFile.FieldType.int), 1, 3, 1)
set_option maxRecDepth 20000 in
theorem qm_Node_configIndex : qms[38]? = some mi_Node_configIndex := rfl
theorem ok_Node_configIndex : cdok mi_Node_configIndex cd_Node_configIndex := cdok_of (by decide +kernel)
abbrev mi_Node_oldsAt : qMI := (yX3_oldsAt, cX3_oldsAt, 2, (Option.some Jvm.ClassFile.FieldType.int), 1, 3, 1)
set_option maxRecDepth 20000 in
theorem qm_Node_oldsAt : qms[39]? = some mi_Node_oldsAt := rfl
theorem ok_Node_oldsAt : cdok mi_Node_oldsAt cd_Node_oldsAt := cdok_of (by decide +kernel)
abbrev mi_Node_newsAt : qMI := (yX3_newsAt, cX3_newsAt, 2, (Option.some Jvm.ClassFile.FieldType.int), 1, 3, 1)
set_option maxRecDepth 20000 in
theorem qm_Node_newsAt : qms[40]? = some mi_Node_newsAt := rfl
theorem ok_Node_newsAt : cdok mi_Node_newsAt cd_Node_newsAt := cdok_of (by decide +kernel)
abbrev mi_Node_members : qMI := (yX3_members, cX3_members, 2, (Option.some Jvm.ClassFile.FieldType.int), 0, 3, 1)
set_option maxRecDepth 20000 in
theorem qm_Node_members : qms[41]? = some mi_Node_members := rfl
theorem ok_Node_members : cdok mi_Node_members cd_Node_members := cdok_of (by decide +kernel)
abbrev mi_Node_isMember : qMI := (yX3_isMember, cX3_isMember, 1, (Option.some Jvm.ClassFile.FieldType.boolean), 0, 3, 1)
set_option maxRecDepth 20000 in
theorem qm_Node_isMember : qms[42]? = some mi_Node_isMember := rfl
theorem ok_Node_isMember : cdok mi_Node_isMember cd_Node_isMember := cdok_of (by decide +kernel)
abbrev mi_Node_isMajority : qMI := (yX3_isMajority, cX3_isMajority, 3, (Option.some Jvm.ClassFile.FieldType.boolean), 1, 3, 1)
set_option maxRecDepth 20000 in
theorem qm_Node_isMajority : qms[43]? = some mi_Node_isMajority := rfl
theorem ok_Node_isMajority : cdok mi_Node_isMajority cd_Node_isMajority := cdok_of (by decide +kernel)
abbrev mi_Node_isAheadOf : qMI := (yX3_isAheadOf, cX3_isAheadOf, 4, (Option.some Jvm.ClassFile.FieldType.boolean), 2, 3, 1)
set_option maxRecDepth 20000 in
theorem qm_Node_isAheadOf : qms[44]? = some mi_Node_isAheadOf := rfl
theorem ok_Node_isAheadOf : cdok mi_Node_isAheadOf cd_Node_isAheadOf := cdok_of (by decide +kernel)
abbrev mi_Node_lay : qMI := (yX3_lay, cX3_lay, 2, (Option.some Jvm.ClassFile.FieldType.boolean), 1, 3, 1)
set_option maxRecDepth 20000 in
theorem qm_Node_lay : qms[45]? = some mi_Node_lay := rfl
theorem ok_Node_lay : cdok mi_Node_lay cd_Node_lay := cdok_of (by decide +kernel)
abbrev mi_Node_shorten : qMI := (yX3_shorten, cX3_shorten, 3, (Option.none : Option Jvm.ClassFile.FieldType), 0, 3, 1)
set_option maxRecDepth 20000 in
theorem qm_Node_shorten : qms[46]? = some mi_Node_shorten := rfl
theorem ok_Node_shorten : cdok mi_Node_shorten cd_Node_shorten := cdok_of (by decide +kernel)
abbrev mi_Node_dropUpTo : qMI := (yX3_dropUpTo, cX3_dropUpTo, 4, (Option.none : Option Jvm.ClassFile.FieldType), 1, 3, 1)
set_option maxRecDepth 20000 in
theorem qm_Node_dropUpTo : qms[47]? = some mi_Node_dropUpTo := rfl
theorem ok_Node_dropUpTo : cdok mi_Node_dropUpTo cd_Node_dropUpTo := cdok_of (by decide +kernel)
abbrev mi_Node_dropFrom : qMI := (yX3_dropFrom, cX3_dropFrom, 2, (Option.none : Option Jvm.ClassFile.FieldType), 1, 3, 1)
set_option maxRecDepth 20000 in
theorem qm_Node_dropFrom : qms[48]? = some mi_Node_dropFrom := rfl
theorem ok_Node_dropFrom : cdok mi_Node_dropFrom cd_Node_dropFrom := cdok_of (by decide +kernel)
abbrev mi_Node_install : qMI := (yX3_install, cX3_install, 3, (Option.none : Option Jvm.ClassFile.FieldType), 1, 3, 1)
set_option maxRecDepth 20000 in
theorem qm_Node_install : qms[49]? = some mi_Node_install := rfl
theorem ok_Node_install : cdok mi_Node_install cd_Node_install := cdok_of (by decide +kernel)
abbrev mi_Node_hintAgainst : qMI := (yX3_hintAgainst, cX3_hintAgainst, 6, (Option.some Jvm.ClassFile.FieldType.int), 2, 3, 1)
set_option maxRecDepth 20000 in
theorem qm_Node_hintAgainst : qms[50]? = some mi_Node_hintAgainst := rfl
theorem ok_Node_hintAgainst : cdok mi_Node_hintAgainst cd_Node_hintAgainst := cdok_of (by decide +kernel)
abbrev mi_Node_becomeCandidate : qMI := (yX3_becomeCandidate, cX3_becomeCandidate, 1, (Option.none : Option Jvm.ClassFile.FieldType), 0, 3, 1)
set_option maxRecDepth 20000 in
theorem qm_Node_becomeCandidate : qms[51]? = some mi_Node_becomeCandidate := rfl
theorem ok_Node_becomeCandidate : cdok mi_Node_becomeCandidate cd_Node_becomeCandidate := cdok_of (by decide +kernel)
abbrev mi_Node_becomeLeader : qMI := (yX3_becomeLeader, cX3_becomeLeader, 1, (Option.none : Option Jvm.ClassFile.FieldType), 0, 3, 1)
set_option maxRecDepth 20000 in
theorem qm_Node_becomeLeader : qms[52]? = some mi_Node_becomeLeader := rfl
theorem ok_Node_becomeLeader : cdok mi_Node_becomeLeader cd_Node_becomeLeader := cdok_of (by decide +kernel)
abbrev mi_Node_winsBy : qMI := (yX3_winsBy, cX3_winsBy, 2, (Option.some Jvm.ClassFile.FieldType.boolean), 1, 3, 1)
set_option maxRecDepth 20000 in
theorem qm_Node_winsBy : qms[53]? = some mi_Node_winsBy := rfl
theorem ok_Node_winsBy : cdok mi_Node_winsBy cd_Node_winsBy := cdok_of (by decide +kernel)
abbrev mi_Node_matchedByMajority : qMI := (yX3_matchedByMajority, cX3_matchedByMajority, 5, (Option.some Jvm.ClassFile.FieldType.int), 0, 3, 1)
set_option maxRecDepth 20000 in
theorem qm_Node_matchedByMajority : qms[54]? = some mi_Node_matchedByMajority := rfl
theorem ok_Node_matchedByMajority : cdok mi_Node_matchedByMajority cd_Node_matchedByMajority := cdok_of (by decide +kernel)
abbrev mi_Node_thoseWithMatch : qMI := (yX3_thoseWithMatch, cX3_thoseWithMatch, 4, (Option.some Jvm.ClassFile.FieldType.int), 1, 3, 1)
set_option maxRecDepth 20000 in
theorem qm_Node_thoseWithMatch : qms[55]? = some mi_Node_thoseWithMatch := rfl
theorem ok_Node_thoseWithMatch : cdok mi_Node_thoseWithMatch cd_Node_thoseWithMatch := cdok_of (by decide +kernel)
abbrev mi_Node_thoseWithHeard : qMI := (yX3_thoseWithHeard, cX3_thoseWithHeard, 4, (Option.some Jvm.ClassFile.FieldType.int), 1, 3, 1)
set_option maxRecDepth 20000 in
theorem qm_Node_thoseWithHeard : qms[56]? = some mi_Node_thoseWithHeard := rfl
theorem ok_Node_thoseWithHeard : cdok mi_Node_thoseWithHeard cd_Node_thoseWithHeard := cdok_of (by decide +kernel)
abbrev mi_Node_hasSameKeys : qMI := (yX3_hasSameKeys, cX3_hasSameKeys, 3, (Option.some Jvm.ClassFile.FieldType.boolean), 1, 3, 1)
set_option maxRecDepth 20000 in
theorem qm_Node_hasSameKeys : qms[57]? = some mi_Node_hasSameKeys := rfl
theorem ok_Node_hasSameKeys : cdok mi_Node_hasSameKeys cd_Node_hasSameKeys := cdok_of (by decide +kernel)
abbrev mi_Node_isMatchedWith : qMI := (yX3_isMatchedWith, cX3_isMatchedWith, 6, (Option.some Jvm.ClassFile.FieldType.boolean), 1, 3, 1)
set_option maxRecDepth 20000 in
theorem qm_Node_isMatchedWith : qms[58]? = some mi_Node_isMatchedWith := rfl
theorem ok_Node_isMatchedWith : cdok mi_Node_isMatchedWith cd_Node_isMatchedWith := cdok_of (by decide +kernel)
abbrev mi_Node_fact : qMI := (yX3_fact, cX3_fact, 2, (Option.some Jvm.ClassFile.FieldType.int), 1, 3, 1)
set_option maxRecDepth 20000 in
theorem qm_Node_fact : qms[59]? = some mi_Node_fact := rfl
theorem ok_Node_fact : cdok mi_Node_fact cd_Node_fact := cdok_of (by decide +kernel)
abbrev mi_Node_takeAll : qMI := (yX3_takeAll, cX3_takeAll, 2, (Option.none : Option Jvm.ClassFile.FieldType), 1, 3, 1)
set_option maxRecDepth 20000 in
theorem qm_Node_takeAll : qms[60]? = some mi_Node_takeAll := rfl
theorem ok_Node_takeAll : cdok mi_Node_takeAll cd_Node_takeAll := cdok_of (by decide +kernel)
abbrev mi_PR_init : qMI := (yX4_init, cX4_init, 2, (Option.none : Option Jvm.ClassFile.FieldType), 1, 4, 2)
set_option maxRecDepth 20000 in
theorem qm_PR_init : qms[61]? = some mi_PR_init := rfl
theorem ok_PR_init : cdok mi_PR_init cd_PR_init := cdok_of (by decide +kernel)
abbrev mi_PR_signOf : qMI := (yX4_signOf, cX4_signOf, 1, (Option.some Jvm.ClassFile.FieldType.int), 1, 4, 0)
set_option maxRecDepth 20000 in
theorem qm_PR_signOf : qms[62]? = some mi_PR_signOf := rfl
theorem ok_PR_signOf : cdok mi_PR_signOf cd_PR_signOf := cdok_of (by decide +kernel)
abbrev mi_PR_digitOf : qMI := (yX4_digitOf, cX4_digitOf, 2, (Option.some Jvm.ClassFile.FieldType.int), 2, 4, 0)
set_option maxRecDepth 20000 in
theorem qm_PR_digitOf : qms[63]? = some mi_PR_digitOf := rfl
theorem ok_PR_digitOf : cdok mi_PR_digitOf cd_PR_digitOf := cdok_of (by decide +kernel)
abbrev mi_PR_readPlan : qMI := (yX4_readPlan, cX4_readPlan, 3, (Option.some Jvm.ClassFile.FieldType.int), 1, 4, 1)
set_option maxRecDepth 20000 in
theorem qm_PR_readPlan : qms[64]? = some mi_PR_readPlan := rfl
theorem ok_PR_readPlan : cdok mi_PR_readPlan cd_PR_readPlan := cdok_of (by decide +kernel)
abbrev mi_PR_sign : qMI := (yX4_sign, cX4_sign, 1, (Option.some Jvm.ClassFile.FieldType.int), 0, 4, 1)
set_option maxRecDepth 20000 in
theorem qm_PR_sign : qms[65]? = some mi_PR_sign := rfl
theorem ok_PR_sign : cdok mi_PR_sign cd_PR_sign := cdok_of (by decide +kernel)
abbrev mi_PR_fail : qMI := (yX4_fail, cX4_fail, 3, (Option.none : Option Jvm.ClassFile.FieldType), 2, 4, 1)
set_option maxRecDepth 20000 in
theorem qm_PR_fail : qms[66]? = some mi_PR_fail := rfl
theorem ok_PR_fail : cdok mi_PR_fail cd_PR_fail := cdok_of (by decide +kernel)
abbrev mi_PR_readAct : qMI := (yX4_readAct, cX4_readAct, 5, (Option.none : Option Jvm.ClassFile.FieldType), 1, 4, 1)
set_option maxRecDepth 20000 in
theorem qm_PR_readAct : qms[67]? = some mi_PR_readAct := rfl
theorem ok_PR_readAct : cdok mi_PR_readAct cd_PR_readAct := cdok_of (by decide +kernel)
abbrev mi_PR_readGroup : qMI := (yX4_readGroup, cX4_readGroup, 3, (Option.none : Option Jvm.ClassFile.FieldType), 1, 4, 1)
set_option maxRecDepth 20000 in
theorem qm_PR_readGroup : qms[68]? = some mi_PR_readGroup := rfl
theorem ok_PR_readGroup : cdok mi_PR_readGroup cd_PR_readGroup := cdok_of (by decide +kernel)
abbrev mi_PR_readSingle : qMI := (yX4_readSingle, cX4_readSingle, 8, (Option.none : Option Jvm.ClassFile.FieldType), 1, 4, 1)
set_option maxRecDepth 20000 in
theorem qm_PR_readSingle : qms[69]? = some mi_PR_readSingle := rfl
theorem ok_PR_readSingle : cdok mi_PR_readSingle cd_PR_readSingle := cdok_of (by decide +kernel)
abbrev mi_PR_repeat : qMI := (yX4_repeat, cX4_repeat, 7, (Option.none : Option Jvm.ClassFile.FieldType), 3, 4, 1)
set_option maxRecDepth 20000 in
theorem qm_PR_repeat : qms[70]? = some mi_PR_repeat := rfl
theorem ok_PR_repeat : cdok mi_PR_repeat cd_PR_repeat := cdok_of (by decide +kernel)
abbrev mi_PR_digitCount : qMI := (yX4_digitCount, cX4_digitCount, 1, (Option.some Jvm.ClassFile.FieldType.int), 1, 4, 0)
set_option maxRecDepth 20000 in
theorem qm_PR_digitCount : qms[71]? = some mi_PR_digitCount := rfl
theorem ok_PR_digitCount : cdok mi_PR_digitCount cd_PR_digitCount := cdok_of (by decide +kernel)
abbrev mi_PR_mostDigit : qMI := (yX4_mostDigit, cX4_mostDigit, 2, (Option.some Jvm.ClassFile.FieldType.int), 2, 4, 0)
set_option maxRecDepth 20000 in
theorem qm_PR_mostDigit : qms[72]? = some mi_PR_mostDigit := rfl
theorem ok_PR_mostDigit : cdok mi_PR_mostDigit cd_PR_mostDigit := cdok_of (by decide +kernel)
abbrev mi_Read_init : qMI := (yX5_init, cX5_init, 1, (Option.none : Option Jvm.ClassFile.FieldType), 0, 5, 2)
set_option maxRecDepth 20000 in
theorem qm_Read_init : qms[73]? = some mi_Read_init := rfl
theorem ok_Read_init : cdok mi_Read_init cd_Read_init := cdok_of (by decide +kernel)
abbrev mi_Read_takeAll : qMI := (yX5_takeAll, cX5_takeAll, 2, (Option.none : Option Jvm.ClassFile.FieldType), 1, 5, 1)
set_option maxRecDepth 20000 in
theorem qm_Read_takeAll : qms[74]? = some mi_Read_takeAll := rfl
theorem ok_Read_takeAll : cdok mi_Read_takeAll cd_Read_takeAll := cdok_of (by decide +kernel)
abbrev mi_Snap_init : qMI := (yX6_init, cX6_init, 1, (Option.none : Option Jvm.ClassFile.FieldType), 0, 6, 2)
set_option maxRecDepth 20000 in
theorem qm_Snap_init : qms[75]? = some mi_Snap_init := rfl
theorem ok_Snap_init : cdok mi_Snap_init cd_Snap_init := cdok_of (by decide +kernel)
abbrev mi_Snap_begin : qMI := (yX6_begin, cX6_begin, 2, (Option.none : Option Jvm.ClassFile.FieldType), 1, 6, 1)
set_option maxRecDepth 20000 in
theorem qm_Snap_begin : qms[76]? = some mi_Snap_begin := rfl
theorem ok_Snap_begin : cdok mi_Snap_begin cd_Snap_begin := cdok_of (by decide +kernel)
abbrev mi_Snap_takeAll : qMI := (yX6_takeAll, cX6_takeAll, 2, (Option.none : Option Jvm.ClassFile.FieldType), 1, 6, 1)
set_option maxRecDepth 20000 in
theorem qm_Snap_takeAll : qms[77]? = some mi_Snap_takeAll := rfl
theorem ok_Snap_takeAll : cdok mi_Snap_takeAll cd_Snap_takeAll := cdok_of (by decide +kernel)
abbrev mi_World_init : qMI := (yX7_init, cX7_init, 3, (Option.none : Option Jvm.ClassFile.FieldType), 1, 7, 2)
set_option maxRecDepth 20000 in
theorem qm_World_init : qms[78]? = some mi_World_init := rfl
theorem ok_World_init : cdok mi_World_init cd_World_init := cdok_of (by decide +kernel)
abbrev mi_World_begin : qMI := (yX7_begin, cX7_begin, 3, (Option.none : Option Jvm.ClassFile.FieldType), 1, 7, 1)
set_option maxRecDepth 20000 in
theorem qm_World_begin : qms[79]? = some mi_World_begin := rfl
theorem ok_World_begin : cdok mi_World_begin cd_World_begin := cdok_of (by decide +kernel)
abbrev mi_World_passTick : qMI := (yX7_passTick, cX7_passTick, 5, (Option.some Jvm.ClassFile.FieldType.boolean), 0, 7, 1)
set_option maxRecDepth 20000 in
theorem qm_World_passTick : qms[80]? = some mi_World_passTick := rfl
theorem ok_World_passTick : cdok mi_World_passTick cd_World_passTick := cdok_of (by decide +kernel)
abbrev mi_World_takeOut : qMI := (yX7_takeOut, cX7_takeOut, 4, (Option.none : Option Jvm.ClassFile.FieldType), 1, 7, 1)
set_option maxRecDepth 20000 in
theorem qm_World_takeOut : qms[81]? = some mi_World_takeOut := rfl
theorem ok_World_takeOut : cdok mi_World_takeOut cd_World_takeOut := cdok_of (by decide +kernel)
abbrev mi_World_beat : qMI := (yX7_beat, cX7_beat, 2, (Option.none : Option Jvm.ClassFile.FieldType), 1, 7, 1)
set_option maxRecDepth 20000 in
theorem qm_World_beat : qms[82]? = some mi_World_beat := rfl
theorem ok_World_beat : cdok mi_World_beat cd_World_beat := cdok_of (by decide +kernel)
abbrev mi_World_draw : qMI := (yX7_draw, cX7_draw, 1, (Option.some Jvm.ClassFile.FieldType.int), 0, 7, 1)
set_option maxRecDepth 20000 in
theorem qm_World_draw : qms[83]? = some mi_World_draw := rfl
theorem ok_World_draw : cdok mi_World_draw cd_World_draw := cdok_of (by decide +kernel)
abbrev mi_World_setTimer : qMI := (yX7_setTimer, cX7_setTimer, 3, (Option.none : Option Jvm.ClassFile.FieldType), 1, 7, 1)
set_option maxRecDepth 20000 in
theorem qm_World_setTimer : qms[84]? = some mi_World_setTimer := rfl
theorem ok_World_setTimer : cdok mi_World_setTimer cd_World_setTimer := cdok_of (by decide +kernel)
abbrev mi_World_spare : qMI := (yX7_spare, cX7_spare, 5, (Option.some (Jvm.ClassFile.FieldType.object "TermLog$Message")), 3, 7, 1)
set_option maxRecDepth 20000 in
theorem qm_World_spare : qms[85]? = some mi_World_spare := rfl
theorem ok_World_spare : cdok mi_World_spare cd_World_spare := cdok_of (by decide +kernel)
abbrev mi_World_post : qMI := (yX7_post, cX7_post, 6, (Option.none : Option Jvm.ClassFile.FieldType), 1, 7, 1)
set_option maxRecDepth 20000 in
theorem qm_World_post : qms[86]? = some mi_World_post := rfl
theorem ok_World_post : cdok mi_World_post cd_World_post := cdok_of (by decide +kernel)
abbrev mi_World_lose : qMI := (yX7_lose, cX7_lose, 1, (Option.none : Option Jvm.ClassFile.FieldType), 0, 7, 1)
set_option maxRecDepth 20000 in
theorem qm_World_lose : qms[87]? = some mi_World_lose := rfl
theorem ok_World_lose : cdok mi_World_lose cd_World_lose := cdok_of (by decide +kernel)
abbrev mi_World_sendOn : qMI := (yX7_sendOn, cX7_sendOn, 5, (Option.none : Option Jvm.ClassFile.FieldType), 2, 7, 1)
set_option maxRecDepth 20000 in
theorem qm_World_sendOn : qms[88]? = some mi_World_sendOn := rfl
theorem ok_World_sendOn : cdok mi_World_sendOn cd_World_sendOn := cdok_of (by decide +kernel)
abbrev mi_World_callForVotes : qMI := (yX7_callForVotes, cX7_callForVotes, 5, (Option.none : Option Jvm.ClassFile.FieldType), 1, 7, 1)
set_option maxRecDepth 20000 in
theorem qm_World_callForVotes : qms[89]? = some mi_World_callForVotes := rfl
theorem ok_World_callForVotes : cdok mi_World_callForVotes cd_World_callForVotes := cdok_of (by decide +kernel)
abbrev mi_World_answer : qMI := (yX7_answer, cX7_answer, 7, (Option.none : Option Jvm.ClassFile.FieldType), 5, 7, 1)
set_option maxRecDepth 20000 in
theorem qm_World_answer : qms[90]? = some mi_World_answer := rfl
theorem ok_World_answer : cdok mi_World_answer cd_World_answer := cdok_of (by decide +kernel)
abbrev mi_World_handOver : qMI := (yX7_handOver, cX7_handOver, 3, (Option.none : Option Jvm.ClassFile.FieldType), 1, 7, 1)
set_option maxRecDepth 20000 in
theorem qm_World_handOver : qms[91]? = some mi_World_handOver := rfl
theorem ok_World_handOver : cdok mi_World_handOver cd_World_handOver := cdok_of (by decide +kernel)
abbrev mi_World_grantOrNot : qMI := (yX7_grantOrNot, cX7_grantOrNot, 5, (Option.none : Option Jvm.ClassFile.FieldType), 2, 7, 1)
set_option maxRecDepth 20000 in
theorem qm_World_grantOrNot : qms[92]? = some mi_World_grantOrNot := rfl
theorem ok_World_grantOrNot : cdok mi_World_grantOrNot cd_World_grantOrNot := cdok_of (by decide +kernel)
abbrev mi_World_takeEntries : qMI := (yX7_takeEntries, cX7_takeEntries, 6, (Option.none : Option Jvm.ClassFile.FieldType), 2, 7, 1)
set_option maxRecDepth 20000 in
theorem qm_World_takeEntries : qms[93]? = some mi_World_takeEntries := rfl
theorem ok_World_takeEntries : cdok mi_World_takeEntries cd_World_takeEntries := cdok_of (by decide +kernel)
abbrev mi_World_place : qMI := (yX7_place, cX7_place, 4, (Option.some Jvm.ClassFile.FieldType.boolean), 3, 7, 1)
set_option maxRecDepth 20000 in
theorem qm_World_place : qms[94]? = some mi_World_place := rfl
theorem ok_World_place : cdok mi_World_place cd_World_place := cdok_of (by decide +kernel)
abbrev mi_World_takeSnapshot : qMI := (yX7_takeSnapshot, cX7_takeSnapshot, 3, (Option.none : Option Jvm.ClassFile.FieldType), 2, 7, 1)
set_option maxRecDepth 20000 in
theorem qm_World_takeSnapshot : qms[95]? = some mi_World_takeSnapshot := rfl
theorem ok_World_takeSnapshot : cdok mi_World_takeSnapshot cd_World_takeSnapshot := cdok_of (by decide +kernel)
abbrev mi_World_hearAnswer : qMI := (yX7_hearAnswer, cX7_hearAnswer, 5, (Option.none : Option Jvm.ClassFile.FieldType), 2, 7, 1)
set_option maxRecDepth 20000 in
theorem qm_World_hearAnswer : qms[96]? = some mi_World_hearAnswer := rfl
theorem ok_World_hearAnswer : cdok mi_World_hearAnswer cd_World_hearAnswer := cdok_of (by decide +kernel)
abbrev mi_World_follow : qMI := (yX7_follow, cX7_follow, 3, (Option.none : Option Jvm.ClassFile.FieldType), 2, 7, 1)
set_option maxRecDepth 20000 in
theorem qm_World_follow : qms[97]? = some mi_World_follow := rfl
theorem ok_World_follow : cdok mi_World_follow cd_World_follow := cdok_of (by decide +kernel)
abbrev mi_World_stand : qMI := (yX7_stand, cX7_stand, 2, (Option.none : Option Jvm.ClassFile.FieldType), 1, 7, 1)
set_option maxRecDepth 20000 in
theorem qm_World_stand : qms[98]? = some mi_World_stand := rfl
theorem ok_World_stand : cdok mi_World_stand cd_World_stand := cdok_of (by decide +kernel)
abbrev mi_World_crown : qMI := (yX7_crown, cX7_crown, 3, (Option.none : Option Jvm.ClassFile.FieldType), 1, 7, 1)
set_option maxRecDepth 20000 in
theorem qm_World_crown : qms[99]? = some mi_World_crown := rfl
theorem ok_World_crown : cdok mi_World_crown cd_World_crown := cdok_of (by decide +kernel)
abbrev mi_World_goDown : qMI := (yX7_goDown, cX7_goDown, 2, (Option.none : Option Jvm.ClassFile.FieldType), 1, 7, 1)
set_option maxRecDepth 20000 in
theorem qm_World_goDown : qms[100]? = some mi_World_goDown := rfl
theorem ok_World_goDown : cdok mi_World_goDown cd_World_goDown := cdok_of (by decide +kernel)
abbrev mi_World_layAndSpread : qMI := (yX7_layAndSpread, cX7_layAndSpread, 6, (Option.some Jvm.ClassFile.FieldType.int), 4, 7, 1)
set_option maxRecDepth 20000 in
theorem qm_World_layAndSpread : qms[101]? = some mi_World_layAndSpread := rfl
theorem ok_World_layAndSpread : cdok mi_World_layAndSpread cd_World_layAndSpread := cdok_of (by decide +kernel)
abbrev mi_World_hold : qMI := (yX7_hold, cX7_hold, 5, (Option.none : Option Jvm.ClassFile.FieldType), 1, 7, 1)
set_option maxRecDepth 20000 in
theorem qm_World_hold : qms[102]? = some mi_World_hold := rfl
theorem ok_World_hold : cdok mi_World_hold cd_World_hold := cdok_of (by decide +kernel)
abbrev mi_World_leave : qMI := (yX7_leave, cX7_leave, 2, (Option.none : Option Jvm.ClassFile.FieldType), 1, 7, 1)
set_option maxRecDepth 20000 in
theorem qm_World_leave : qms[103]? = some mi_World_leave := rfl
theorem ok_World_leave : cdok mi_World_leave cd_World_leave := cdok_of (by decide +kernel)
abbrev mi_World_raiseCommit : qMI := (yX7_raiseCommit, cX7_raiseCommit, 4, (Option.none : Option Jvm.ClassFile.FieldType), 2, 7, 1)
set_option maxRecDepth 20000 in
theorem qm_World_raiseCommit : qms[104]? = some mi_World_raiseCommit := rfl
theorem ok_World_raiseCommit : cdok mi_World_raiseCommit cd_World_raiseCommit := cdok_of (by decide +kernel)
abbrev mi_World_seeHeld : qMI := (yX7_seeHeld, cX7_seeHeld, 4, (Option.none : Option Jvm.ClassFile.FieldType), 3, 7, 1)
set_option maxRecDepth 20000 in
theorem qm_World_seeHeld : qms[105]? = some mi_World_seeHeld := rfl
theorem ok_World_seeHeld : cdok mi_World_seeHeld cd_World_seeHeld := cdok_of (by decide +kernel)
abbrev mi_World_openRead : qMI := (yX7_openRead, cX7_openRead, 4, (Option.some Jvm.ClassFile.FieldType.int), 2, 7, 1)
set_option maxRecDepth 20000 in
theorem qm_World_openRead : qms[106]? = some mi_World_openRead := rfl
theorem ok_World_openRead : cdok mi_World_openRead cd_World_openRead := cdok_of (by decide +kernel)
abbrev mi_World_answerReads : qMI := (yX7_answerReads, cX7_answerReads, 4, (Option.none : Option Jvm.ClassFile.FieldType), 1, 7, 1)
set_option maxRecDepth 20000 in
theorem qm_World_answerReads : qms[107]? = some mi_World_answerReads := rfl
theorem ok_World_answerReads : cdok mi_World_answerReads cd_World_answerReads := cdok_of (by decide +kernel)
abbrev mi_World_loseReads : qMI := (yX7_loseReads, cX7_loseReads, 4, (Option.none : Option Jvm.ClassFile.FieldType), 1, 7, 1)
set_option maxRecDepth 20000 in
theorem qm_World_loseReads : qms[108]? = some mi_World_loseReads := rfl
theorem ok_World_loseReads : cdok mi_World_loseReads cd_World_loseReads := cdok_of (by decide +kernel)
abbrev mi_World_setLink : qMI := (yX7_setLink, cX7_setLink, 4, (Option.none : Option Jvm.ClassFile.FieldType), 3, 7, 1)
set_option maxRecDepth 20000 in
theorem qm_World_setLink : qms[109]? = some mi_World_setLink := rfl
theorem ok_World_setLink : cdok mi_World_setLink cd_World_setLink := cdok_of (by decide +kernel)
abbrev mi_World_cutCount : qMI := (yX7_cutCount, cX7_cutCount, 3, (Option.some Jvm.ClassFile.FieldType.int), 0, 7, 1)
set_option maxRecDepth 20000 in
theorem qm_World_cutCount : qms[110]? = some mi_World_cutCount := rfl
theorem ok_World_cutCount : cdok mi_World_cutCount cd_World_cutCount := cdok_of (by decide +kernel)
abbrev mi_World_upBits : qMI := (yX7_upBits, cX7_upBits, 3, (Option.some Jvm.ClassFile.FieldType.int), 0, 7, 1)
set_option maxRecDepth 20000 in
theorem qm_World_upBits : qms[111]? = some mi_World_upBits := rfl
theorem ok_World_upBits : cdok mi_World_upBits cd_World_upBits := cdok_of (by decide +kernel)
abbrev mi_World_firstLeader : qMI := (yX7_firstLeader, cX7_firstLeader, 4, (Option.some Jvm.ClassFile.FieldType.int), 0, 7, 1)
set_option maxRecDepth 20000 in
theorem qm_World_firstLeader : qms[112]? = some mi_World_firstLeader := rfl
theorem ok_World_firstLeader : cdok mi_World_firstLeader cd_World_firstLeader := cdok_of (by decide +kernel)
abbrev mi_World_furthestUp : qMI := (yX7_furthestUp, cX7_furthestUp, 4, (Option.some (Jvm.ClassFile.FieldType.object "TermLog$Node")), 0, 7, 1)
set_option maxRecDepth 20000 in
theorem qm_World_furthestUp : qms[113]? = some mi_World_furthestUp := rfl
theorem ok_World_furthestUp : cdok mi_World_furthestUp cd_World_furthestUp := cdok_of (by decide +kernel)
abbrev mi_World_allUpHaveHeld : qMI := (yX7_allUpHaveHeld, cX7_allUpHaveHeld, 2, (Option.some Jvm.ClassFile.FieldType.boolean), 0, 7, 1)
set_option maxRecDepth 20000 in
theorem qm_World_allUpHaveHeld : qms[114]? = some mi_World_allUpHaveHeld := rfl
theorem ok_World_allUpHaveHeld : cdok mi_World_allUpHaveHeld cd_World_allUpHaveHeld := cdok_of (by decide +kernel)
abbrev mi_World_unmatchedTwos : qMI := (yX7_unmatchedTwos, cX7_unmatchedTwos, 4, (Option.some Jvm.ClassFile.FieldType.int), 0, 7, 1)
set_option maxRecDepth 20000 in
theorem qm_World_unmatchedTwos : qms[115]? = some mi_World_unmatchedTwos := rfl
theorem ok_World_unmatchedTwos : cdok mi_World_unmatchedTwos cd_World_unmatchedTwos := cdok_of (by decide +kernel)
abbrev mi_World_unlikeTwos : qMI := (yX7_unlikeTwos, cX7_unlikeTwos, 4, (Option.some Jvm.ClassFile.FieldType.int), 0, 7, 1)
set_option maxRecDepth 20000 in
theorem qm_World_unlikeTwos : qms[116]? = some mi_World_unlikeTwos := rfl
theorem ok_World_unlikeTwos : cdok mi_World_unlikeTwos cd_World_unlikeTwos := cdok_of (by decide +kernel)
abbrev mi_World_isUnlike : qMI := (yX7_isUnlike, cX7_isUnlike, 2, (Option.some Jvm.ClassFile.FieldType.boolean), 2, 7, 0)
set_option maxRecDepth 20000 in
theorem qm_World_isUnlike : qms[117]? = some mi_World_isUnlike := rfl
theorem ok_World_isUnlike : cdok mi_World_isUnlike cd_World_isUnlike := cdok_of (by decide +kernel)
abbrev mi_World_grantingTo : qMI := (yX7_grantingTo, cX7_grantingTo, 5, (Option.some Jvm.ClassFile.FieldType.int), 1, 7, 1)
set_option maxRecDepth 20000 in
theorem qm_World_grantingTo : qms[118]? = some mi_World_grantingTo := rfl
theorem ok_World_grantingTo : cdok mi_World_grantingTo cd_World_grantingTo := cdok_of (by decide +kernel)
abbrev mi_World_wouldGrant : qMI := (yX7_wouldGrant, cX7_wouldGrant, 5, (Option.some Jvm.ClassFile.FieldType.boolean), 2, 7, 1)
set_option maxRecDepth 20000 in
theorem qm_World_wouldGrant : qms[119]? = some mi_World_wouldGrant := rfl
theorem ok_World_wouldGrant : cdok mi_World_wouldGrant cd_World_wouldGrant := cdok_of (by decide +kernel)
abbrev mi_World_takeAll : qMI := (yX7_takeAll, cX7_takeAll, 3, (Option.none : Option Jvm.ClassFile.FieldType), 1, 7, 1)
set_option maxRecDepth 20000 in
theorem qm_World_takeAll : qms[120]? = some mi_World_takeAll := rfl
theorem ok_World_takeAll : cdok mi_World_takeAll cd_World_takeAll := cdok_of (by decide +kernel)
abbrev mi_T_init : qMI := (yX8_init, cX8_init, 1, (Option.none : Option Jvm.ClassFile.FieldType), 0, 8, 2)
set_option maxRecDepth 20000 in
theorem qm_T_init : qms[121]? = some mi_T_init := rfl
theorem ok_T_init : cdok mi_T_init cd_T_init := cdok_of (by decide +kernel)
abbrev mi_T_found : qMI := (yX8_found, cX8_found, 2, (Option.some Jvm.ClassFile.FieldType.boolean), 1, 8, 1)
set_option maxRecDepth 20000 in
theorem qm_T_found : qms[122]? = some mi_T_found := rfl
theorem ok_T_found : cdok mi_T_found cd_T_found := cdok_of (by decide +kernel)
abbrev mi_T_crash : qMI := (yX8_crash, cX8_crash, 2, (Option.some Jvm.ClassFile.FieldType.boolean), 1, 8, 1)
set_option maxRecDepth 20000 in
theorem qm_T_crash : qms[123]? = some mi_T_crash := rfl
theorem ok_T_crash : cdok mi_T_crash cd_T_crash := cdok_of (by decide +kernel)
abbrev mi_T_comeUp : qMI := (yX8_comeUp, cX8_comeUp, 2, (Option.some Jvm.ClassFile.FieldType.boolean), 1, 8, 1)
set_option maxRecDepth 20000 in
theorem qm_T_comeUp : qms[124]? = some mi_T_comeUp := rfl
theorem ok_T_comeUp : cdok mi_T_comeUp cd_T_comeUp := cdok_of (by decide +kernel)
abbrev mi_T_cut : qMI := (yX8_cut, cX8_cut, 4, (Option.some Jvm.ClassFile.FieldType.boolean), 3, 8, 1)
set_option maxRecDepth 20000 in
theorem qm_T_cut : qms[125]? = some mi_T_cut := rfl
theorem ok_T_cut : cdok mi_T_cut cd_T_cut := cdok_of (by decide +kernel)
abbrev mi_T_compact : qMI := (yX8_compact, cX8_compact, 3, (Option.some Jvm.ClassFile.FieldType.boolean), 1, 8, 1)
set_option maxRecDepth 20000 in
theorem qm_T_compact : qms[126]? = some mi_T_compact := rfl
theorem ok_T_compact : cdok mi_T_compact cd_T_compact := cdok_of (by decide +kernel)
abbrev mi_T_write : qMI := (yX8_write, cX8_write, 5, (Option.some Jvm.ClassFile.FieldType.int), 3, 8, 1)
set_option maxRecDepth 20000 in
theorem qm_T_write : qms[127]? = some mi_T_write := rfl
theorem ok_T_write : cdok mi_T_write cd_T_write := cdok_of (by decide +kernel)
abbrev mi_T_change : qMI := (yX8_change, cX8_change, 6, (Option.some Jvm.ClassFile.FieldType.int), 2, 8, 1)
set_option maxRecDepth 20000 in
theorem qm_T_change : qms[128]? = some mi_T_change := rfl
theorem ok_T_change : cdok mi_T_change cd_T_change := cdok_of (by decide +kernel)
abbrev mi_T_ask : qMI := (yX8_ask, cX8_ask, 4, (Option.some Jvm.ClassFile.FieldType.int), 2, 8, 1)
set_option maxRecDepth 20000 in
theorem qm_T_ask : qms[129]? = some mi_T_ask := rfl
theorem ok_T_ask : cdok mi_T_ask cd_T_ask := cdok_of (by decide +kernel)
abbrev mi_T_ticks : qMI := (yX8_ticks, cX8_ticks, 5, (Option.some Jvm.ClassFile.FieldType.int), 1, 8, 1)
set_option maxRecDepth 20000 in
theorem qm_T_ticks : qms[130]? = some mi_T_ticks := rfl
theorem ok_T_ticks : cdok mi_T_ticks cd_T_ticks := cdok_of (by decide +kernel)
abbrev mi_T_seed : qMI := (yX8_seed, cX8_seed, 2, (Option.some Jvm.ClassFile.FieldType.boolean), 1, 8, 1)
set_option maxRecDepth 20000 in
theorem qm_T_seed : qms[131]? = some mi_T_seed := rfl
theorem ok_T_seed : cdok mi_T_seed cd_T_seed := cdok_of (by decide +kernel)
abbrev mi_T_keep : qMI := (yX8_keep, cX8_keep, 1, (Option.some Jvm.ClassFile.FieldType.int), 0, 8, 1)
set_option maxRecDepth 20000 in
theorem qm_T_keep : qms[132]? = some mi_T_keep := rfl
theorem ok_T_keep : cdok mi_T_keep cd_T_keep := cdok_of (by decide +kernel)
abbrev mi_T_undo : qMI := (yX8_undo, cX8_undo, 1, (Option.some Jvm.ClassFile.FieldType.boolean), 0, 8, 1)
set_option maxRecDepth 20000 in
theorem qm_T_undo : qms[133]? = some mi_T_undo := rfl
theorem ok_T_undo : cdok mi_T_undo cd_T_undo := cdok_of (by decide +kernel)
abbrev mi_T_feed : qMI := (yX8_feed, cX8_feed, 6, (Option.some Jvm.ClassFile.FieldType.int), 5, 8, 1)
set_option maxRecDepth 20000 in
theorem qm_T_feed : qms[134]? = some mi_T_feed := rfl
theorem ok_T_feed : cdok mi_T_feed cd_T_feed := cdok_of (by decide +kernel)
abbrev mi_T_law : qMI := (yX8_law, cX8_law, 3, (Option.some Jvm.ClassFile.FieldType.int), 1, 8, 1)
set_option maxRecDepth 20000 in
theorem qm_T_law : qms[135]? = some mi_T_law := rfl
theorem ok_T_law : cdok mi_T_law cd_T_law := cdok_of (by decide +kernel)
abbrev mi_T_plan : qMI := (yX8_plan, cX8_plan, 7, (Option.some Jvm.ClassFile.FieldType.int), 1, 8, 1)
set_option maxRecDepth 20000 in
theorem qm_T_plan : qms[136]? = some mi_T_plan := rfl
theorem ok_T_plan : cdok mi_T_plan cd_T_plan := cdok_of (by decide +kernel)
abbrev mi_T_check : qMI := (yX8_check, cX8_check, 5, (Option.some Jvm.ClassFile.FieldType.int), 1, 8, 1)
set_option maxRecDepth 20000 in
theorem qm_T_check : qms[137]? = some mi_T_check := rfl
theorem ok_T_check : cdok mi_T_check cd_T_check := cdok_of (by decide +kernel)
abbrev mi_T_tried : qMI := (yX8_tried, cX8_tried, 5, (Option.some Jvm.ClassFile.FieldType.int), 2, 8, 1)
set_option maxRecDepth 20000 in
theorem qm_T_tried : qms[138]? = some mi_T_tried := rfl
theorem ok_T_tried : cdok mi_T_tried cd_T_tried := cdok_of (by decide +kernel)
abbrev mi_T_nodeIs : qMI := (yX8_nodeIs, cX8_nodeIs, 5, (Option.some Jvm.ClassFile.FieldType.int), 2, 8, 1)
set_option maxRecDepth 20000 in
theorem qm_T_nodeIs : qms[139]? = some mi_T_nodeIs := rfl
theorem ok_T_nodeIs : cdok mi_T_nodeIs cd_T_nodeIs := cdok_of (by decide +kernel)
abbrev mi_T_entryAt : qMI := (yX8_entryAt, cX8_entryAt, 5, (Option.some Jvm.ClassFile.FieldType.int), 3, 8, 1)
set_option maxRecDepth 20000 in
theorem qm_T_entryAt : qms[140]? = some mi_T_entryAt := rfl
theorem ok_T_entryAt : cdok mi_T_entryAt cd_T_entryAt := cdok_of (by decide +kernel)
abbrev mi_T_keyOf : qMI := (yX8_keyOf, cX8_keyOf, 4, (Option.some Jvm.ClassFile.FieldType.int), 2, 8, 1)
set_option maxRecDepth 20000 in
theorem qm_T_keyOf : qms[141]? = some mi_T_keyOf := rfl
theorem ok_T_keyOf : cdok mi_T_keyOf cd_T_keyOf := cdok_of (by decide +kernel)
abbrev mi_T_about : qMI := (yX8_about, cX8_about, 5, (Option.some Jvm.ClassFile.FieldType.int), 3, 8, 1)
set_option maxRecDepth 20000 in
theorem qm_T_about : qms[142]? = some mi_T_about := rfl
theorem ok_T_about : cdok mi_T_about cd_T_about := cdok_of (by decide +kernel)
abbrev mi_T_message : qMI := (yX8_message, cX8_message, 3, (Option.some Jvm.ClassFile.FieldType.int), 2, 8, 1)
set_option maxRecDepth 20000 in
theorem qm_T_message : qms[143]? = some mi_T_message := rfl
theorem ok_T_message : cdok mi_T_message cd_T_message := cdok_of (by decide +kernel)
abbrev mi_T_leaderNow : qMI := (yX8_leaderNow, cX8_leaderNow, 1, (Option.some Jvm.ClassFile.FieldType.int), 0, 8, 1)
set_option maxRecDepth 20000 in
theorem qm_T_leaderNow : qms[144]? = some mi_T_leaderNow := rfl
theorem ok_T_leaderNow : cdok mi_T_leaderNow cd_T_leaderNow := cdok_of (by decide +kernel)
abbrev mi_T_heldAt : qMI := (yX8_heldAt, cX8_heldAt, 3, (Option.some Jvm.ClassFile.FieldType.int), 2, 8, 1)
set_option maxRecDepth 20000 in
theorem qm_T_heldAt : qms[145]? = some mi_T_heldAt := rfl
theorem ok_T_heldAt : cdok mi_T_heldAt cd_T_heldAt := cdok_of (by decide +kernel)
abbrev mi_T_readIs : qMI := (yX8_readIs, cX8_readIs, 4, (Option.some Jvm.ClassFile.FieldType.int), 2, 8, 1)
set_option maxRecDepth 20000 in
theorem qm_T_readIs : qms[146]? = some mi_T_readIs := rfl
theorem ok_T_readIs : cdok mi_T_readIs cd_T_readIs := cdok_of (by decide +kernel)
abbrev mi_T_broken : qMI := (yX8_broken, cX8_broken, 2, (Option.some Jvm.ClassFile.FieldType.int), 1, 8, 1)
set_option maxRecDepth 20000 in
theorem qm_T_broken : qms[147]? = some mi_T_broken := rfl
theorem ok_T_broken : cdok mi_T_broken cd_T_broken := cdok_of (by decide +kernel)
abbrev mi_T_couldWin : qMI := (yX8_couldWin, cX8_couldWin, 5, (Option.some Jvm.ClassFile.FieldType.int), 2, 8, 1)
set_option maxRecDepth 20000 in
theorem qm_T_couldWin : qms[148]? = some mi_T_couldWin := rfl
theorem ok_T_couldWin : cdok mi_T_couldWin cd_T_couldWin := cdok_of (by decide +kernel)
abbrev mi_T_majority : qMI := (yX8_majority, cX8_majority, 3, (Option.some Jvm.ClassFile.FieldType.int), 2, 8, 1)
set_option maxRecDepth 20000 in
theorem qm_T_majority : qms[149]? = some mi_T_majority := rfl
theorem ok_T_majority : cdok mi_T_majority cd_T_majority := cdok_of (by decide +kernel)
abbrev mi_T_till : qMI := (yX8_till, cX8_till, 4, (Option.some Jvm.ClassFile.FieldType.int), 2, 8, 1)
set_option maxRecDepth 20000 in
theorem qm_T_till : qms[150]? = some mi_T_till := rfl
theorem ok_T_till : cdok mi_T_till cd_T_till := cdok_of (by decide +kernel)
abbrev mi_T_count : qMI := (yX8_count, cX8_count, 2, (Option.some Jvm.ClassFile.FieldType.int), 1, 8, 1)
set_option maxRecDepth 20000 in
theorem qm_T_count : qms[151]? = some mi_T_count := rfl
theorem ok_T_count : cdok mi_T_count cd_T_count := cdok_of (by decide +kernel)
abbrev mi_T_isNode : qMI := (yX8_isNode, cX8_isNode, 1, (Option.some Jvm.ClassFile.FieldType.boolean), 1, 8, 0)
set_option maxRecDepth 20000 in
theorem qm_T_isNode : qms[152]? = some mi_T_isNode := rfl
theorem ok_T_isNode : cdok mi_T_isNode cd_T_isNode := cdok_of (by decide +kernel)
abbrev mi_T_isKey : qMI := (yX8_isKey, cX8_isKey, 1, (Option.some Jvm.ClassFile.FieldType.boolean), 1, 8, 0)
set_option maxRecDepth 20000 in
theorem qm_T_isKey : qms[153]? = some mi_T_isKey := rfl
theorem ok_T_isKey : cdok mi_T_isKey cd_T_isKey := cdok_of (by decide +kernel)
abbrev mi_T_isTickCount : qMI := (yX8_isTickCount, cX8_isTickCount, 1, (Option.some Jvm.ClassFile.FieldType.boolean), 1, 8, 0)
set_option maxRecDepth 20000 in
theorem qm_T_isTickCount : qms[154]? = some mi_T_isTickCount := rfl
theorem ok_T_isTickCount : cdok mi_T_isTickCount cd_T_isTickCount := cdok_of (by decide +kernel)
abbrev mi_T_isEntryPart : qMI := (yX8_isEntryPart, cX8_isEntryPart, 1, (Option.some Jvm.ClassFile.FieldType.boolean), 1, 8, 0)
set_option maxRecDepth 20000 in
theorem qm_T_isEntryPart : qms[155]? = some mi_T_isEntryPart := rfl
theorem ok_T_isEntryPart : cdok mi_T_isEntryPart cd_T_isEntryPart := cdok_of (by decide +kernel)
abbrev mi_T_isTriedWhat : qMI := (yX8_isTriedWhat, cX8_isTriedWhat, 1, (Option.some Jvm.ClassFile.FieldType.boolean), 1, 8, 0)
set_option maxRecDepth 20000 in
theorem qm_T_isTriedWhat : qms[156]? = some mi_T_isTriedWhat := rfl
theorem ok_T_isTriedWhat : cdok mi_T_isTriedWhat cd_T_isTriedWhat := cdok_of (by decide +kernel)
abbrev mi_T_hasCome : qMI := (yX8_hasCome, cX8_hasCome, 3, (Option.some Jvm.ClassFile.FieldType.boolean), 2, 8, 1)
set_option maxRecDepth 20000 in
theorem qm_T_hasCome : qms[157]? = some mi_T_hasCome := rfl
theorem ok_T_hasCome : cdok mi_T_hasCome cd_T_hasCome := cdok_of (by decide +kernel)
abbrev mi_T_layOnTape : qMI := (yX8_layOnTape, cX8_layOnTape, 3, (Option.none : Option Jvm.ClassFile.FieldType), 1, 8, 1)
set_option maxRecDepth 20000 in
theorem qm_T_layOnTape : qms[158]? = some mi_T_layOnTape := rfl
theorem ok_T_layOnTape : cdok mi_T_layOnTape cd_T_layOnTape := cdok_of (by decide +kernel)
abbrev mi_T_perform : qMI := (yX8_perform, cX8_perform, 4, (Option.some Jvm.ClassFile.FieldType.boolean), 1, 8, 1)
set_option maxRecDepth 20000 in
theorem qm_T_perform : qms[159]? = some mi_T_perform := rfl
theorem ok_T_perform : cdok mi_T_perform cd_T_perform := cdok_of (by decide +kernel)
abbrev mi_T_entryOf : qMI := (yX8_entryOf, cX8_entryOf, 4, (Option.some Jvm.ClassFile.FieldType.int), 4, 8, 0)
set_option maxRecDepth 20000 in
theorem qm_T_entryOf : qms[160]? = some mi_T_entryOf := rfl
theorem ok_T_entryOf : cdok mi_T_entryOf cd_T_entryOf := cdok_of (by decide +kernel)
abbrev mi_T_termOf : qMI := (yX8_termOf, cX8_termOf, 1, (Option.some Jvm.ClassFile.FieldType.int), 1, 8, 0)
set_option maxRecDepth 20000 in
theorem qm_T_termOf : qms[161]? = some mi_T_termOf := rfl
theorem ok_T_termOf : cdok mi_T_termOf cd_T_termOf := cdok_of (by decide +kernel)
abbrev mi_T_kindOf : qMI := (yX8_kindOf, cX8_kindOf, 1, (Option.some Jvm.ClassFile.FieldType.int), 1, 8, 0)
set_option maxRecDepth 20000 in
theorem qm_T_kindOf : qms[162]? = some mi_T_kindOf := rfl
theorem ok_T_kindOf : cdok mi_T_kindOf cd_T_kindOf := cdok_of (by decide +kernel)
abbrev mi_T_firstOf : qMI := (yX8_firstOf, cX8_firstOf, 1, (Option.some Jvm.ClassFile.FieldType.int), 1, 8, 0)
set_option maxRecDepth 20000 in
theorem qm_T_firstOf : qms[163]? = some mi_T_firstOf := rfl
theorem ok_T_firstOf : cdok mi_T_firstOf cd_T_firstOf := cdok_of (by decide +kernel)
abbrev mi_T_secondOf : qMI := (yX8_secondOf, cX8_secondOf, 1, (Option.some Jvm.ClassFile.FieldType.int), 1, 8, 0)
set_option maxRecDepth 20000 in
theorem qm_T_secondOf : qms[164]? = some mi_T_secondOf := rfl
theorem ok_T_secondOf : cdok mi_T_secondOf cd_T_secondOf := cdok_of (by decide +kernel)
abbrev mi_T_partOf : qMI := (yX8_partOf, cX8_partOf, 2, (Option.some Jvm.ClassFile.FieldType.int), 2, 8, 0)
set_option maxRecDepth 20000 in
theorem qm_T_partOf : qms[165]? = some mi_T_partOf := rfl
theorem ok_T_partOf : cdok mi_T_partOf cd_T_partOf := cdok_of (by decide +kernel)
abbrev mi_T_has : qMI := (yX8_has, cX8_has, 2, (Option.some Jvm.ClassFile.FieldType.boolean), 2, 8, 0)
set_option maxRecDepth 20000 in
theorem qm_T_has : qms[166]? = some mi_T_has := rfl
theorem ok_T_has : cdok mi_T_has cd_T_has := cdok_of (by decide +kernel)
abbrev mi_T_isMajorityOf : qMI := (yX8_isMajorityOf, cX8_isMajorityOf, 3, (Option.some Jvm.ClassFile.FieldType.boolean), 3, 8, 0)
set_option maxRecDepth 20000 in
theorem qm_T_isMajorityOf : qms[167]? = some mi_T_isMajorityOf := rfl
theorem ok_T_isMajorityOf : cdok mi_T_isMajorityOf cd_T_isMajorityOf := cdok_of (by decide +kernel)
abbrev mi_M_init : qMI := (yX9_init, cX9_init, 1, (Option.none : Option Jvm.ClassFile.FieldType), 0, 9, 2)
set_option maxRecDepth 20000 in
theorem qm_M_init : qms[168]? = some mi_M_init := rfl
theorem ok_M_init : cdok mi_M_init cd_M_init := cdok_of (by decide +kernel)
abbrev mi_M_in : qMI := (yX9_in, cX9_in, 3, (Option.some Jvm.ClassFile.FieldType.boolean), 3, 9, 0)
set_option maxRecDepth 20000 in
theorem qm_M_in : qms[169]? = some mi_M_in := rfl
theorem ok_M_in : cdok mi_M_in cd_M_in := cdok_of (by decide +kernel)
abbrev mi_M_min : qMI := (yX9_min, cX9_min, 2, (Option.some Jvm.ClassFile.FieldType.int), 2, 9, 0)
set_option maxRecDepth 20000 in
theorem qm_M_min : qms[170]? = some mi_M_min := rfl
theorem ok_M_min : cdok mi_M_min cd_M_min := cdok_of (by decide +kernel)
abbrev mi_M_max : qMI := (yX9_max, cX9_max, 2, (Option.some Jvm.ClassFile.FieldType.int), 2, 9, 0)
set_option maxRecDepth 20000 in
theorem qm_M_max : qms[171]? = some mi_M_max := rfl
theorem ok_M_max : cdok mi_M_max cd_M_max := cdok_of (by decide +kernel)
abbrev mi_M_has : qMI := (yX9_has, cX9_has, 2, (Option.some Jvm.ClassFile.FieldType.boolean), 2, 9, 0)
set_option maxRecDepth 20000 in
theorem qm_M_has : qms[172]? = some mi_M_has := rfl
theorem ok_M_has : cdok mi_M_has cd_M_has := cdok_of (by decide +kernel)
abbrev mi_M_bits : qMI := (yX9_bits, cX9_bits, 3, (Option.some Jvm.ClassFile.FieldType.int), 1, 9, 0)
set_option maxRecDepth 20000 in
theorem qm_M_bits : qms[173]? = some mi_M_bits := rfl
theorem ok_M_bits : cdok mi_M_bits cd_M_bits := cdok_of (by decide +kernel)
abbrev mi_M_copies : qMI := (yX9_copies, cX9_copies, 3, (Option.none : Option Jvm.ClassFile.FieldType), 2, 9, 0)
set_option maxRecDepth 20000 in
theorem qm_M_copies : qms[174]? = some mi_M_copies := rfl
theorem ok_M_copies : cdok mi_M_copies cd_M_copies := cdok_of (by decide +kernel)
abbrev mi_M_isNode : qMI := (yX9_isNode, cX9_isNode, 1, (Option.some Jvm.ClassFile.FieldType.boolean), 1, 9, 0)
set_option maxRecDepth 20000 in
theorem qm_M_isNode : qms[175]? = some mi_M_isNode := rfl
theorem ok_M_isNode : cdok mi_M_isNode cd_M_isNode := cdok_of (by decide +kernel)
abbrev mi_M_the : qMI := (yX9_the, cX9_the, 3, (Option.some Jvm.ClassFile.FieldType.int), 2, 9, 1)
set_option maxRecDepth 20000 in
theorem qm_M_the : qms[176]? = some mi_M_the := rfl
theorem ok_M_the : cdok mi_M_the cd_M_the := cdok_of (by decide +kernel)
abbrev mi_M_sets : qMI := (yX9_sets, cX9_sets, 4, (Option.none : Option Jvm.ClassFile.FieldType), 3, 9, 1)
set_option maxRecDepth 20000 in
theorem qm_M_sets : qms[177]? = some mi_M_sets := rfl
theorem ok_M_sets : cdok mi_M_sets cd_M_sets := cdok_of (by decide +kernel)
abbrev mi_M_isUp : qMI := (yX9_isUp, cX9_isUp, 2, (Option.some Jvm.ClassFile.FieldType.boolean), 1, 9, 1)
set_option maxRecDepth 20000 in
theorem qm_M_isUp : qms[178]? = some mi_M_isUp := rfl
theorem ok_M_isUp : cdok mi_M_isUp cd_M_isUp := cdok_of (by decide +kernel)
abbrev mi_M_isLeader : qMI := (yX9_isLeader, cX9_isLeader, 2, (Option.some Jvm.ClassFile.FieldType.boolean), 1, 9, 1)
set_option maxRecDepth 20000 in
theorem qm_M_isLeader : qms[179]? = some mi_M_isLeader := rfl
theorem ok_M_isLeader : cdok mi_M_isLeader cd_M_isLeader := cdok_of (by decide +kernel)
abbrev mi_M_lastOf : qMI := (yX9_lastOf, cX9_lastOf, 2, (Option.some Jvm.ClassFile.FieldType.int), 1, 9, 1)
set_option maxRecDepth 20000 in
theorem qm_M_lastOf : qms[180]? = some mi_M_lastOf := rfl
theorem ok_M_lastOf : cdok mi_M_lastOf cd_M_lastOf := cdok_of (by decide +kernel)
abbrev mi_M_logPlace : qMI := (yX9_logPlace, cX9_logPlace, 3, (Option.some Jvm.ClassFile.FieldType.int), 2, 9, 1)
set_option maxRecDepth 20000 in
theorem qm_M_logPlace : qms[181]? = some mi_M_logPlace := rfl
theorem ok_M_logPlace : cdok mi_M_logPlace cd_M_logPlace := cdok_of (by decide +kernel)
abbrev mi_M_hasEntry : qMI := (yX9_hasEntry, cX9_hasEntry, 3, (Option.some Jvm.ClassFile.FieldType.boolean), 2, 9, 1)
set_option maxRecDepth 20000 in
theorem qm_M_hasEntry : qms[182]? = some mi_M_hasEntry := rfl
theorem ok_M_hasEntry : cdok mi_M_hasEntry cd_M_hasEntry := cdok_of (by decide +kernel)
abbrev mi_M_termAt : qMI := (yX9_termAt, cX9_termAt, 3, (Option.some Jvm.ClassFile.FieldType.int), 2, 9, 1)
set_option maxRecDepth 20000 in
theorem qm_M_termAt : qms[183]? = some mi_M_termAt := rfl
theorem ok_M_termAt : cdok mi_M_termAt cd_M_termAt := cdok_of (by decide +kernel)
abbrev mi_M_configAt : qMI := (yX9_configAt, cX9_configAt, 4, (Option.some Jvm.ClassFile.FieldType.int), 2, 9, 1)
set_option maxRecDepth 20000 in
theorem qm_M_configAt : qms[184]? = some mi_M_configAt := rfl
theorem ok_M_configAt : cdok mi_M_configAt cd_M_configAt := cdok_of (by decide +kernel)
abbrev mi_M_oldOf : qMI := (yX9_oldOf, cX9_oldOf, 3, (Option.some Jvm.ClassFile.FieldType.int), 1, 9, 1)
set_option maxRecDepth 20000 in
theorem qm_M_oldOf : qms[185]? = some mi_M_oldOf := rfl
theorem ok_M_oldOf : cdok mi_M_oldOf cd_M_oldOf := cdok_of (by decide +kernel)
abbrev mi_M_newOf : qMI := (yX9_newOf, cX9_newOf, 3, (Option.some Jvm.ClassFile.FieldType.int), 1, 9, 1)
set_option maxRecDepth 20000 in
theorem qm_M_newOf : qms[186]? = some mi_M_newOf := rfl
theorem ok_M_newOf : cdok mi_M_newOf cd_M_newOf := cdok_of (by decide +kernel)
abbrev mi_M_membersOf : qMI := (yX9_membersOf, cX9_membersOf, 2, (Option.some Jvm.ClassFile.FieldType.int), 1, 9, 1)
set_option maxRecDepth 20000 in
theorem qm_M_membersOf : qms[187]? = some mi_M_membersOf := rfl
theorem ok_M_membersOf : cdok mi_M_membersOf cd_M_membersOf := cdok_of (by decide +kernel)
abbrev mi_M_isHeldConfig : qMI := (yX9_isHeldConfig, cX9_isHeldConfig, 2, (Option.some Jvm.ClassFile.FieldType.boolean), 1, 9, 1)
set_option maxRecDepth 20000 in
theorem qm_M_isHeldConfig : qms[188]? = some mi_M_isHeldConfig := rfl
theorem ok_M_isHeldConfig : cdok mi_M_isHeldConfig cd_M_isHeldConfig := cdok_of (by decide +kernel)
abbrev mi_M_isMost : qMI := (yX9_isMost, cX9_isMost, 5, (Option.some Jvm.ClassFile.FieldType.boolean), 2, 9, 1)
set_option maxRecDepth 20000 in
theorem qm_M_isMost : qms[189]? = some mi_M_isMost := rfl
theorem ok_M_isMost : cdok mi_M_isMost cd_M_isMost := cdok_of (by decide +kernel)
abbrev mi_M_goesUpTo : qMI := (yX9_goesUpTo, cX9_goesUpTo, 6, (Option.none : Option Jvm.ClassFile.FieldType), 2, 9, 1)
set_option maxRecDepth 20000 in
theorem qm_M_goesUpTo : qms[190]? = some mi_M_goesUpTo := rfl
theorem ok_M_goesUpTo : cdok mi_M_goesUpTo cd_M_goesUpTo := cdok_of (by decide +kernel)
abbrev mi_M_compacts : qMI := (yX9_compacts, cX9_compacts, 6, (Option.none : Option Jvm.ClassFile.FieldType), 1, 9, 1)
set_option maxRecDepth 20000 in
theorem qm_M_compacts : qms[191]? = some mi_M_compacts := rfl
theorem ok_M_compacts : cdok mi_M_compacts cd_M_compacts := cdok_of (by decide +kernel)
abbrev mi_M_lays : qMI := (yX9_lays, cX9_lays, 7, (Option.some Jvm.ClassFile.FieldType.boolean), 5, 9, 1)
set_option maxRecDepth 20000 in
theorem qm_M_lays : qms[192]? = some mi_M_lays := rfl
theorem ok_M_lays : cdok mi_M_lays cd_M_lays := cdok_of (by decide +kernel)
abbrev mi_M_types : qMI := (yX9_types, cX9_types, 3, (Option.none : Option Jvm.ClassFile.FieldType), 1, 9, 1)
set_option maxRecDepth 20000 in
theorem qm_M_types : qms[193]? = some mi_M_types := rfl
theorem ok_M_types : cdok mi_M_types cd_M_types := cdok_of (by decide +kernel)
abbrev mi_M_feed : qMI := (yX9_feed, cX9_feed, 6, (Option.some Jvm.ClassFile.FieldType.int), 5, 9, 1)
set_option maxRecDepth 20000 in
theorem qm_M_feed : qms[194]? = some mi_M_feed := rfl
theorem ok_M_feed : cdok mi_M_feed cd_M_feed := cdok_of (by decide +kernel)
abbrev mi_M_octet : qMI := (yX9_octet, cX9_octet, 2, (Option.some Jvm.ClassFile.FieldType.int), 1, 9, 1)
set_option maxRecDepth 20000 in
theorem qm_M_octet : qms[195]? = some mi_M_octet := rfl
theorem ok_M_octet : cdok mi_M_octet cd_M_octet := cdok_of (by decide +kernel)
abbrev mi_M_here : qMI := (yX9_here, cX9_here, 1, (Option.some Jvm.ClassFile.FieldType.int), 0, 9, 1)
set_option maxRecDepth 20000 in
theorem qm_M_here : qms[196]? = some mi_M_here := rfl
theorem ok_M_here : cdok mi_M_here cd_M_here := cdok_of (by decide +kernel)
abbrev mi_M_isDigit : qMI := (yX9_isDigit, cX9_isDigit, 1, (Option.some Jvm.ClassFile.FieldType.boolean), 0, 9, 1)
set_option maxRecDepth 20000 in
theorem qm_M_isDigit : qms[197]? = some mi_M_isDigit := rfl
theorem ok_M_isDigit : cdok mi_M_isDigit cd_M_isDigit := cdok_of (by decide +kernel)
abbrev mi_M_wrongAt : qMI := (yX9_wrongAt, cX9_wrongAt, 3, (Option.some Jvm.ClassFile.FieldType.boolean), 2, 9, 1)
set_option maxRecDepth 20000 in
theorem qm_M_wrongAt : qms[198]? = some mi_M_wrongAt := rfl
theorem ok_M_wrongAt : cdok mi_M_wrongAt cd_M_wrongAt := cdok_of (by decide +kernel)
abbrev mi_M_takes : qMI := (yX9_takes, cX9_takes, 2, (Option.some Jvm.ClassFile.FieldType.boolean), 1, 9, 1)
set_option maxRecDepth 20000 in
theorem qm_M_takes : qms[199]? = some mi_M_takes := rfl
theorem ok_M_takes : cdok mi_M_takes cd_M_takes := cdok_of (by decide +kernel)
abbrev mi_M_readsNumber : qMI := (yX9_readsNumber, cX9_readsNumber, 2, (Option.some Jvm.ClassFile.FieldType.boolean), 0, 9, 1)
set_option maxRecDepth 20000 in
theorem qm_M_readsNumber : qms[200]? = some mi_M_readsNumber := rfl
theorem ok_M_readsNumber : cdok mi_M_readsNumber cd_M_readsNumber := cdok_of (by decide +kernel)
abbrev mi_M_notes : qMI := (yX9_notes, cX9_notes, 3, (Option.none : Option Jvm.ClassFile.FieldType), 2, 9, 1)
set_option maxRecDepth 20000 in
theorem qm_M_notes : qms[201]? = some mi_M_notes := rfl
theorem ok_M_notes : cdok mi_M_notes cd_M_notes := cdok_of (by decide +kernel)
abbrev mi_M_opens : qMI := (yX9_opens, cX9_opens, 2, (Option.some Jvm.ClassFile.FieldType.boolean), 1, 9, 1)
set_option maxRecDepth 20000 in
theorem qm_M_opens : qms[202]? = some mi_M_opens := rfl
theorem ok_M_opens : cdok mi_M_opens cd_M_opens := cdok_of (by decide +kernel)
abbrev mi_M_waitTop : qMI := (yX9_waitTop, cX9_waitTop, 1, (Option.some Jvm.ClassFile.FieldType.int), 0, 9, 1)
set_option maxRecDepth 20000 in
theorem qm_M_waitTop : qms[203]? = some mi_M_waitTop := rfl
theorem ok_M_waitTop : cdok mi_M_waitTop cd_M_waitTop := cdok_of (by decide +kernel)
abbrev mi_M_factOf : qMI := (yX9_factOf, cX9_factOf, 1, (Option.some Jvm.ClassFile.FieldType.int), 1, 9, 0)
set_option maxRecDepth 20000 in
theorem qm_M_factOf : qms[204]? = some mi_M_factOf := rfl
theorem ok_M_factOf : cdok mi_M_factOf cd_M_factOf := cdok_of (by decide +kernel)
abbrev mi_M_sumSign : qMI := (yX9_sumSign, cX9_sumSign, 1, (Option.some Jvm.ClassFile.FieldType.int), 1, 9, 0)
set_option maxRecDepth 20000 in
theorem qm_M_sumSign : qms[205]? = some mi_M_sumSign := rfl
theorem ok_M_sumSign : cdok mi_M_sumSign cd_M_sumSign := cdok_of (by decide +kernel)
abbrev mi_M_closesSums : qMI := (yX9_closesSums, cX9_closesSums, 2, (Option.none : Option Jvm.ClassFile.FieldType), 1, 9, 1)
set_option maxRecDepth 20000 in
theorem qm_M_closesSums : qms[206]? = some mi_M_closesSums := rfl
theorem ok_M_closesSums : cdok mi_M_closesSums cd_M_closesSums := cdok_of (by decide +kernel)
abbrev mi_M_readsFactor : qMI := (yX9_readsFactor, cX9_readsFactor, 2, (Option.some Jvm.ClassFile.FieldType.boolean), 0, 9, 1)
set_option maxRecDepth 20000 in
theorem qm_M_readsFactor : qms[207]? = some mi_M_readsFactor := rfl
theorem ok_M_readsFactor : cdok mi_M_readsFactor cd_M_readsFactor := cdok_of (by decide +kernel)
abbrev mi_M_hasOpenSum : qMI := (yX9_hasOpenSum, cX9_hasOpenSum, 3, (Option.some Jvm.ClassFile.FieldType.boolean), 1, 9, 1)
set_option maxRecDepth 20000 in
theorem qm_M_hasOpenSum : qms[208]? = some mi_M_hasOpenSum := rfl
theorem ok_M_hasOpenSum : cdok mi_M_hasOpenSum cd_M_hasOpenSum := cdok_of (by decide +kernel)
abbrev mi_M_readsSum : qMI := (yX9_readsSum, cX9_readsSum, 3, (Option.some Jvm.ClassFile.FieldType.boolean), 0, 9, 1)
set_option maxRecDepth 20000 in
theorem qm_M_readsSum : qms[209]? = some mi_M_readsSum := rfl
theorem ok_M_readsSum : cdok mi_M_readsSum cd_M_readsSum := cdok_of (by decide +kernel)
abbrev mi_M_endsPiece : qMI := (yX9_endsPiece, cX9_endsPiece, 1, (Option.none : Option Jvm.ClassFile.FieldType), 0, 9, 1)
set_option maxRecDepth 20000 in
theorem qm_M_endsPiece : qms[210]? = some mi_M_endsPiece := rfl
theorem ok_M_endsPiece : cdok mi_M_endsPiece cd_M_endsPiece := cdok_of (by decide +kernel)
abbrev mi_M_lands : qMI := (yX9_lands, cX9_lands, 3, (Option.none : Option Jvm.ClassFile.FieldType), 1, 9, 1)
set_option maxRecDepth 20000 in
theorem qm_M_lands : qms[211]? = some mi_M_lands := rfl
theorem ok_M_lands : cdok mi_M_lands cd_M_lands := cdok_of (by decide +kernel)
abbrev mi_M_jumps : qMI := (yX9_jumps, cX9_jumps, 2, (Option.none : Option Jvm.ClassFile.FieldType), 1, 9, 1)
set_option maxRecDepth 20000 in
theorem qm_M_jumps : qms[212]? = some mi_M_jumps := rfl
theorem ok_M_jumps : cdok mi_M_jumps cd_M_jumps := cdok_of (by decide +kernel)
abbrev mi_M_readsCompared : qMI := (yX9_readsCompared, cX9_readsCompared, 2, (Option.some Jvm.ClassFile.FieldType.boolean), 0, 9, 1)
set_option maxRecDepth 20000 in
theorem qm_M_readsCompared : qms[213]? = some mi_M_readsCompared := rfl
theorem ok_M_readsCompared : cdok mi_M_readsCompared cd_M_readsCompared := cdok_of (by decide +kernel)
abbrev mi_M_readsCondition : qMI := (yX9_readsCondition, cX9_readsCondition, 1, (Option.some Jvm.ClassFile.FieldType.boolean), 0, 9, 1)
set_option maxRecDepth 20000 in
theorem qm_M_readsCondition : qms[214]? = some mi_M_readsCondition := rfl
theorem ok_M_readsCondition : cdok mi_M_readsCondition cd_M_readsCondition := cdok_of (by decide +kernel)
abbrev mi_M_readsRule : qMI := (yX9_readsRule, cX9_readsRule, 2, (Option.some Jvm.ClassFile.FieldType.boolean), 0, 9, 1)
set_option maxRecDepth 20000 in
theorem qm_M_readsRule : qms[215]? = some mi_M_readsRule := rfl
theorem ok_M_readsRule : cdok mi_M_readsRule cd_M_readsRule := cdok_of (by decide +kernel)
abbrev mi_M_beginsText : qMI := (yX9_beginsText, cX9_beginsText, 2, (Option.none : Option Jvm.ClassFile.FieldType), 1, 9, 1)
set_option maxRecDepth 20000 in
theorem qm_M_beginsText : qms[216]? = some mi_M_beginsText := rfl
theorem ok_M_beginsText : cdok mi_M_beginsText cd_M_beginsText := cdok_of (by decide +kernel)
abbrev mi_M_law : qMI := (yX9_law, cX9_law, 4, (Option.some Jvm.ClassFile.FieldType.int), 1, 9, 1)
set_option maxRecDepth 20000 in
theorem qm_M_law : qms[217]? = some mi_M_law := rfl
theorem ok_M_law : cdok mi_M_law cd_M_law := cdok_of (by decide +kernel)
abbrev mi_M_reckon : qMI := (yX9_reckon, cX9_reckon, 3, (Option.some Jvm.ClassFile.FieldType.int), 3, 9, 0)
set_option maxRecDepth 20000 in
theorem qm_M_reckon : qms[218]? = some mi_M_reckon := rfl
theorem ok_M_reckon : cdok mi_M_reckon cd_M_reckon := cdok_of (by decide +kernel)
abbrev mi_M_reckonsTo : qMI := (yX9_reckonsTo, cX9_reckonsTo, 8, (Option.some Jvm.ClassFile.FieldType.int), 2, 9, 1)
set_option maxRecDepth 20000 in
theorem qm_M_reckonsTo : qms[219]? = some mi_M_reckonsTo := rfl
theorem ok_M_reckonsTo : cdok mi_M_reckonsTo cd_M_reckonsTo := cdok_of (by decide +kernel)
abbrev mi_M_byLaw : qMI := (yX9_byLaw, cX9_byLaw, 7, (Option.some Jvm.ClassFile.FieldType.int), 4, 9, 1)
set_option maxRecDepth 20000 in
theorem qm_M_byLaw : qms[220]? = some mi_M_byLaw := rfl
theorem ok_M_byLaw : cdok mi_M_byLaw cd_M_byLaw := cdok_of (by decide +kernel)
abbrev mi_M_holdsAny : qMI := (yX9_holdsAny, cX9_holdsAny, 3, (Option.some Jvm.ClassFile.FieldType.boolean), 1, 9, 1)
set_option maxRecDepth 20000 in
theorem qm_M_holdsAny : qms[221]? = some mi_M_holdsAny := rfl
theorem ok_M_holdsAny : cdok mi_M_holdsAny cd_M_holdsAny := cdok_of (by decide +kernel)
abbrev mi_M_feels : qMI := (yX9_feels, cX9_feels, 4, (Option.some Jvm.ClassFile.FieldType.int), 3, 9, 1)
set_option maxRecDepth 20000 in
theorem qm_M_feels : qms[222]? = some mi_M_feels := rfl
theorem ok_M_feels : cdok mi_M_feels cd_M_feels := cdok_of (by decide +kernel)
abbrev mi_M_setsTimer : qMI := (yX9_setsTimer, cX9_setsTimer, 3, (Option.none : Option Jvm.ClassFile.FieldType), 1, 9, 1)
set_option maxRecDepth 20000 in
theorem qm_M_setsTimer : qms[223]? = some mi_M_setsTimer := rfl
theorem ok_M_setsTimer : cdok mi_M_setsTimer cd_M_setsTimer := cdok_of (by decide +kernel)
abbrev mi_M_beginsMail : qMI := (yX9_beginsMail, cX9_beginsMail, 5, (Option.none : Option Jvm.ClassFile.FieldType), 3, 9, 1)
set_option maxRecDepth 20000 in
theorem qm_M_beginsMail : qms[224]? = some mi_M_beginsMail := rfl
theorem ok_M_beginsMail : cdok mi_M_beginsMail cd_M_beginsMail := cdok_of (by decide +kernel)
abbrev mi_M_loses : qMI := (yX9_loses, cX9_loses, 1, (Option.none : Option Jvm.ClassFile.FieldType), 0, 9, 1)
set_option maxRecDepth 20000 in
theorem qm_M_loses : qms[225]? = some mi_M_loses := rfl
theorem ok_M_loses : cdok mi_M_loses cd_M_loses := cdok_of (by decide +kernel)
abbrev mi_M_posts : qMI := (yX9_posts, cX9_posts, 5, (Option.none : Option Jvm.ClassFile.FieldType), 0, 9, 1)
set_option maxRecDepth 20000 in
theorem qm_M_posts : qms[226]? = some mi_M_posts := rfl
theorem ok_M_posts : cdok mi_M_posts cd_M_posts := cdok_of (by decide +kernel)
abbrev mi_M_answersBy : qMI := (yX9_answersBy, cX9_answersBy, 5, (Option.none : Option Jvm.ClassFile.FieldType), 4, 9, 1)
set_option maxRecDepth 20000 in
theorem qm_M_answersBy : qms[227]? = some mi_M_answersBy := rfl
theorem ok_M_answersBy : cdok mi_M_answersBy cd_M_answersBy := cdok_of (by decide +kernel)
abbrev mi_M_sendsOn : qMI := (yX9_sendsOn, cX9_sendsOn, 5, (Option.none : Option Jvm.ClassFile.FieldType), 2, 9, 1)
set_option maxRecDepth 20000 in
theorem qm_M_sendsOn : qms[228]? = some mi_M_sendsOn := rfl
theorem ok_M_sendsOn : cdok mi_M_sendsOn cd_M_sendsOn := cdok_of (by decide +kernel)
abbrev mi_M_tellsSnapshot : qMI := (yX9_tellsSnapshot, cX9_tellsSnapshot, 3, (Option.none : Option Jvm.ClassFile.FieldType), 1, 9, 1)
set_option maxRecDepth 20000 in
theorem qm_M_tellsSnapshot : qms[229]? = some mi_M_tellsSnapshot := rfl
theorem ok_M_tellsSnapshot : cdok mi_M_tellsSnapshot cd_M_tellsSnapshot := cdok_of (by decide +kernel)
abbrev mi_M_tellsEntries : qMI := (yX9_tellsEntries, cX9_tellsEntries, 5, (Option.none : Option Jvm.ClassFile.FieldType), 2, 9, 1)
set_option maxRecDepth 20000 in
theorem qm_M_tellsEntries : qms[230]? = some mi_M_tellsEntries := rfl
theorem ok_M_tellsEntries : cdok mi_M_tellsEntries cd_M_tellsEntries := cdok_of (by decide +kernel)
abbrev mi_M_sendsToAll : qMI := (yX9_sendsToAll, cX9_sendsToAll, 3, (Option.none : Option Jvm.ClassFile.FieldType), 1, 9, 1)
set_option maxRecDepth 20000 in
theorem qm_M_sendsToAll : qms[231]? = some mi_M_sendsToAll := rfl
theorem ok_M_sendsToAll : cdok mi_M_sendsToAll cd_M_sendsToAll := cdok_of (by decide +kernel)
abbrev mi_M_losesReads : qMI := (yX9_losesReads, cX9_losesReads, 3, (Option.none : Option Jvm.ClassFile.FieldType), 1, 9, 1)
set_option maxRecDepth 20000 in
theorem qm_M_losesReads : qms[232]? = some mi_M_losesReads := rfl
theorem ok_M_losesReads : cdok mi_M_losesReads cd_M_losesReads := cdok_of (by decide +kernel)
abbrev mi_M_follows : qMI := (yX9_follows, cX9_follows, 3, (Option.none : Option Jvm.ClassFile.FieldType), 2, 9, 1)
set_option maxRecDepth 20000 in
theorem qm_M_follows : qms[233]? = some mi_M_follows := rfl
theorem ok_M_follows : cdok mi_M_follows cd_M_follows := cdok_of (by decide +kernel)
abbrev mi_M_stands : qMI := (yX9_stands, cX9_stands, 3, (Option.none : Option Jvm.ClassFile.FieldType), 1, 9, 1)
set_option maxRecDepth 20000 in
theorem qm_M_stands : qms[234]? = some mi_M_stands := rfl
theorem ok_M_stands : cdok mi_M_stands cd_M_stands := cdok_of (by decide +kernel)
abbrev mi_M_leads : qMI := (yX9_leads, cX9_leads, 4, (Option.none : Option Jvm.ClassFile.FieldType), 1, 9, 1)
set_option maxRecDepth 20000 in
theorem qm_M_leads : qms[235]? = some mi_M_leads := rfl
theorem ok_M_leads : cdok mi_M_leads cd_M_leads := cdok_of (by decide +kernel)
abbrev mi_M_laidByLeader : qMI := (yX9_laidByLeader, cX9_laidByLeader, 2, (Option.none : Option Jvm.ClassFile.FieldType), 1, 9, 1)
set_option maxRecDepth 20000 in
theorem qm_M_laidByLeader : qms[236]? = some mi_M_laidByLeader := rfl
theorem ok_M_laidByLeader : cdok mi_M_laidByLeader cd_M_laidByLeader := cdok_of (by decide +kernel)
abbrev mi_M_breaks : qMI := (yX9_breaks, cX9_breaks, 1, (Option.none : Option Jvm.ClassFile.FieldType), 0, 9, 1)
set_option maxRecDepth 20000 in
theorem qm_M_breaks : qms[237]? = some mi_M_breaks := rfl
theorem ok_M_breaks : cdok mi_M_breaks cd_M_breaks := cdok_of (by decide +kernel)
abbrev mi_M_seesHeld : qMI := (yX9_seesHeld, cX9_seesHeld, 7, (Option.none : Option Jvm.ClassFile.FieldType), 2, 9, 1)
set_option maxRecDepth 20000 in
theorem qm_M_seesHeld : qms[238]? = some mi_M_seesHeld := rfl
theorem ok_M_seesHeld : cdok mi_M_seesHeld cd_M_seesHeld := cdok_of (by decide +kernel)
abbrev mi_M_growsCommit : qMI := (yX9_growsCommit, cX9_growsCommit, 4, (Option.none : Option Jvm.ClassFile.FieldType), 2, 9, 1)
set_option maxRecDepth 20000 in
theorem qm_M_growsCommit : qms[239]? = some mi_M_growsCommit := rfl
theorem ok_M_growsCommit : cdok mi_M_growsCommit cd_M_growsCommit := cdok_of (by decide +kernel)
abbrev mi_M_whoMatch : qMI := (yX9_whoMatch, cX9_whoMatch, 5, (Option.some Jvm.ClassFile.FieldType.int), 2, 9, 1)
set_option maxRecDepth 20000 in
theorem qm_M_whoMatch : qms[240]? = some mi_M_whoMatch := rfl
theorem ok_M_whoMatch : cdok mi_M_whoMatch cd_M_whoMatch := cdok_of (by decide +kernel)
abbrev mi_M_mostHeld : qMI := (yX9_mostHeld, cX9_mostHeld, 3, (Option.some Jvm.ClassFile.FieldType.int), 1, 9, 1)
set_option maxRecDepth 20000 in
theorem qm_M_mostHeld : qms[241]? = some mi_M_mostHeld := rfl
theorem ok_M_mostHeld : cdok mi_M_mostHeld cd_M_mostHeld := cdok_of (by decide +kernel)
abbrev mi_M_holds : qMI := (yX9_holds, cX9_holds, 4, (Option.none : Option Jvm.ClassFile.FieldType), 1, 9, 1)
set_option maxRecDepth 20000 in
theorem qm_M_holds : qms[242]? = some mi_M_holds := rfl
theorem ok_M_holds : cdok mi_M_holds cd_M_holds := cdok_of (by decide +kernel)
abbrev mi_M_whoHeard : qMI := (yX9_whoHeard, cX9_whoHeard, 5, (Option.some Jvm.ClassFile.FieldType.int), 2, 9, 1)
set_option maxRecDepth 20000 in
theorem qm_M_whoHeard : qms[243]? = some mi_M_whoHeard := rfl
theorem ok_M_whoHeard : cdok mi_M_whoHeard cd_M_whoHeard := cdok_of (by decide +kernel)
abbrev mi_M_answersReads : qMI := (yX9_answersReads, cX9_answersReads, 4, (Option.none : Option Jvm.ClassFile.FieldType), 1, 9, 1)
set_option maxRecDepth 20000 in
theorem qm_M_answersReads : qms[244]? = some mi_M_answersReads := rfl
theorem ok_M_answersReads : cdok mi_M_answersReads cd_M_answersReads := cdok_of (by decide +kernel)
abbrev mi_M_areLinked : qMI := (yX9_areLinked, cX9_areLinked, 3, (Option.some Jvm.ClassFile.FieldType.boolean), 2, 9, 1)
set_option maxRecDepth 20000 in
theorem qm_M_areLinked : qms[245]? = some mi_M_areLinked := rfl
theorem ok_M_areLinked : cdok mi_M_areLinked cd_M_areLinked := cdok_of (by decide +kernel)
abbrev mi_M_takesDue : qMI := (yX9_takesDue, cX9_takesDue, 5, (Option.some Jvm.ClassFile.FieldType.boolean), 0, 9, 1)
set_option maxRecDepth 20000 in
theorem qm_M_takesDue : qms[246]? = some mi_M_takesDue := rfl
theorem ok_M_takesDue : cdok mi_M_takesDue cd_M_takesDue := cdok_of (by decide +kernel)
abbrev mi_M_isHanded : qMI := (yX9_isHanded, cX9_isHanded, 2, (Option.none : Option Jvm.ClassFile.FieldType), 0, 9, 1)
set_option maxRecDepth 20000 in
theorem qm_M_isHanded : qms[247]? = some mi_M_isHanded := rfl
theorem ok_M_isHanded : cdok mi_M_isHanded cd_M_isHanded := cdok_of (by decide +kernel)
abbrev mi_M_isNoLess : qMI := (yX9_isNoLess, cX9_isNoLess, 5, (Option.some Jvm.ClassFile.FieldType.boolean), 3, 9, 1)
set_option maxRecDepth 20000 in
theorem qm_M_isNoLess : qms[248]? = some mi_M_isNoLess := rfl
theorem ok_M_isNoLess : cdok mi_M_isNoLess cd_M_isNoLess := cdok_of (by decide +kernel)
abbrev mi_M_isAskedToVote : qMI := (yX9_isAskedToVote, cX9_isAskedToVote, 5, (Option.none : Option Jvm.ClassFile.FieldType), 1, 9, 1)
set_option maxRecDepth 20000 in
theorem qm_M_isAskedToVote : qms[249]? = some mi_M_isAskedToVote := rfl
theorem ok_M_isAskedToVote : cdok mi_M_isAskedToVote cd_M_isAskedToVote := cdok_of (by decide +kernel)
abbrev mi_M_hasVote : qMI := (yX9_hasVote, cX9_hasVote, 2, (Option.none : Option Jvm.ClassFile.FieldType), 1, 9, 1)
set_option maxRecDepth 20000 in
theorem qm_M_hasVote : qms[250]? = some mi_M_hasVote := rfl
theorem ok_M_hasVote : cdok mi_M_hasVote cd_M_hasVote := cdok_of (by decide +kernel)
abbrev mi_M_firstOfTerm : qMI := (yX9_firstOfTerm, cX9_firstOfTerm, 4, (Option.some Jvm.ClassFile.FieldType.int), 2, 9, 1)
set_option maxRecDepth 20000 in
theorem qm_M_firstOfTerm : qms[251]? = some mi_M_firstOfTerm := rfl
theorem ok_M_firstOfTerm : cdok mi_M_firstOfTerm cd_M_firstOfTerm := cdok_of (by decide +kernel)
abbrev mi_M_hasEntries : qMI := (yX9_hasEntries, cX9_hasEntries, 5, (Option.none : Option Jvm.ClassFile.FieldType), 1, 9, 1)
set_option maxRecDepth 20000 in
theorem qm_M_hasEntries : qms[252]? = some mi_M_hasEntries := rfl
theorem ok_M_hasEntries : cdok mi_M_hasEntries cd_M_hasEntries := cdok_of (by decide +kernel)
abbrev mi_M_laysAs : qMI := (yX9_laysAs, cX9_laysAs, 4, (Option.some Jvm.ClassFile.FieldType.boolean), 3, 9, 1)
set_option maxRecDepth 20000 in
theorem qm_M_laysAs : qms[253]? = some mi_M_laysAs := rfl
theorem ok_M_laysAs : cdok mi_M_laysAs cd_M_laysAs := cdok_of (by decide +kernel)
abbrev mi_M_isOfLeader : qMI := (yX9_isOfLeader, cX9_isOfLeader, 3, (Option.some Jvm.ClassFile.FieldType.boolean), 1, 9, 1)
set_option maxRecDepth 20000 in
theorem qm_M_isOfLeader : qms[254]? = some mi_M_isOfLeader := rfl
theorem ok_M_isOfLeader : cdok mi_M_isOfLeader cd_M_isOfLeader := cdok_of (by decide +kernel)
abbrev mi_M_matches : qMI := (yX9_matches, cX9_matches, 4, (Option.none : Option Jvm.ClassFile.FieldType), 2, 9, 1)
set_option maxRecDepth 20000 in
theorem qm_M_matches : qms[255]? = some mi_M_matches := rfl
theorem ok_M_matches : cdok mi_M_matches cd_M_matches := cdok_of (by decide +kernel)
abbrev mi_M_hearsOfEntries : qMI := (yX9_hearsOfEntries, cX9_hearsOfEntries, 3, (Option.none : Option Jvm.ClassFile.FieldType), 1, 9, 1)
set_option maxRecDepth 20000 in
theorem qm_M_hearsOfEntries : qms[256]? = some mi_M_hearsOfEntries := rfl
theorem ok_M_hearsOfEntries : cdok mi_M_hearsOfEntries cd_M_hearsOfEntries := cdok_of (by decide +kernel)
abbrev mi_M_hasSnapshot : qMI := (yX9_hasSnapshot, cX9_hasSnapshot, 4, (Option.none : Option Jvm.ClassFile.FieldType), 1, 9, 1)
set_option maxRecDepth 20000 in
theorem qm_M_hasSnapshot : qms[257]? = some mi_M_hasSnapshot := rfl
theorem ok_M_hasSnapshot : cdok mi_M_hasSnapshot cd_M_hasSnapshot := cdok_of (by decide +kernel)
abbrev mi_M_hearsOfSnapshot : qMI := (yX9_hearsOfSnapshot, cX9_hearsOfSnapshot, 2, (Option.none : Option Jvm.ClassFile.FieldType), 1, 9, 1)
set_option maxRecDepth 20000 in
theorem qm_M_hearsOfSnapshot : qms[258]? = some mi_M_hearsOfSnapshot := rfl
theorem ok_M_hearsOfSnapshot : cdok mi_M_hearsOfSnapshot cd_M_hearsOfSnapshot := cdok_of (by decide +kernel)
abbrev mi_M_tickGoes : qMI := (yX9_tickGoes, cX9_tickGoes, 2, (Option.none : Option Jvm.ClassFile.FieldType), 0, 9, 1)
set_option maxRecDepth 20000 in
theorem qm_M_tickGoes : qms[259]? = some mi_M_tickGoes := rfl
theorem ok_M_tickGoes : cdok mi_M_tickGoes cd_M_tickGoes := cdok_of (by decide +kernel)
abbrev mi_M_nodeGoes : qMI := (yX9_nodeGoes, cX9_nodeGoes, 2, (Option.none : Option Jvm.ClassFile.FieldType), 1, 9, 1)
set_option maxRecDepth 20000 in
theorem qm_M_nodeGoes : qms[260]? = some mi_M_nodeGoes := rfl
theorem ok_M_nodeGoes : cdok mi_M_nodeGoes cd_M_nodeGoes := cdok_of (by decide +kernel)
abbrev mi_M_asksAll : qMI := (yX9_asksAll, cX9_asksAll, 2, (Option.none : Option Jvm.ClassFile.FieldType), 1, 9, 1)
set_option maxRecDepth 20000 in
theorem qm_M_asksAll : qms[261]? = some mi_M_asksAll := rfl
theorem ok_M_asksAll : cdok mi_M_asksAll cd_M_asksAll := cdok_of (by decide +kernel)
abbrev mi_M_oneTick : qMI := (yX9_oneTick, cX9_oneTick, 1, (Option.some Jvm.ClassFile.FieldType.boolean), 0, 9, 1)
set_option maxRecDepth 20000 in
theorem qm_M_oneTick : qms[262]? = some mi_M_oneTick := rfl
theorem ok_M_oneTick : cdok mi_M_oneTick cd_M_oneTick := cdok_of (by decide +kernel)
abbrev mi_M_ticksGo : qMI := (yX9_ticksGo, cX9_ticksGo, 3, (Option.none : Option Jvm.ClassFile.FieldType), 1, 9, 1)
set_option maxRecDepth 20000 in
theorem qm_M_ticksGo : qms[263]? = some mi_M_ticksGo := rfl
theorem ok_M_ticksGo : cdok mi_M_ticksGo cd_M_ticksGo := cdok_of (by decide +kernel)
abbrev mi_M_ticks : qMI := (yX9_ticks, cX9_ticks, 2, (Option.some Jvm.ClassFile.FieldType.int), 1, 9, 1)
set_option maxRecDepth 20000 in
theorem qm_M_ticks : qms[264]? = some mi_M_ticks := rfl
theorem ok_M_ticks : cdok mi_M_ticks cd_M_ticks := cdok_of (by decide +kernel)
abbrev mi_M_founds : qMI := (yX9_founds, cX9_founds, 4, (Option.none : Option Jvm.ClassFile.FieldType), 1, 9, 1)
set_option maxRecDepth 20000 in
theorem qm_M_founds : qms[265]? = some mi_M_founds := rfl
theorem ok_M_founds : cdok mi_M_founds cd_M_founds := cdok_of (by decide +kernel)
abbrev mi_M_found : qMI := (yX9_found, cX9_found, 2, (Option.some Jvm.ClassFile.FieldType.boolean), 1, 9, 1)
set_option maxRecDepth 20000 in
theorem qm_M_found : qms[266]? = some mi_M_found := rfl
theorem ok_M_found : cdok mi_M_found cd_M_found := cdok_of (by decide +kernel)
abbrev mi_M_crash : qMI := (yX9_crash, cX9_crash, 2, (Option.some Jvm.ClassFile.FieldType.boolean), 1, 9, 1)
set_option maxRecDepth 20000 in
theorem qm_M_crash : qms[267]? = some mi_M_crash := rfl
theorem ok_M_crash : cdok mi_M_crash cd_M_crash := cdok_of (by decide +kernel)
abbrev mi_M_comeUp : qMI := (yX9_comeUp, cX9_comeUp, 3, (Option.some Jvm.ClassFile.FieldType.boolean), 1, 9, 1)
set_option maxRecDepth 20000 in
theorem qm_M_comeUp : qms[268]? = some mi_M_comeUp := rfl
theorem ok_M_comeUp : cdok mi_M_comeUp cd_M_comeUp := cdok_of (by decide +kernel)
abbrev mi_M_cut : qMI := (yX9_cut, cX9_cut, 4, (Option.some Jvm.ClassFile.FieldType.boolean), 3, 9, 1)
set_option maxRecDepth 20000 in
theorem qm_M_cut : qms[269]? = some mi_M_cut := rfl
theorem ok_M_cut : cdok mi_M_cut cd_M_cut := cdok_of (by decide +kernel)
abbrev mi_M_compact : qMI := (yX9_compact, cX9_compact, 2, (Option.some Jvm.ClassFile.FieldType.boolean), 1, 9, 1)
set_option maxRecDepth 20000 in
theorem qm_M_compact : qms[270]? = some mi_M_compact := rfl
theorem ok_M_compact : cdok mi_M_compact cd_M_compact := cdok_of (by decide +kernel)
abbrev mi_M_isFull : qMI := (yX9_isFull, cX9_isFull, 2, (Option.some Jvm.ClassFile.FieldType.boolean), 1, 9, 1)
set_option maxRecDepth 20000 in
theorem qm_M_isFull : qms[271]? = some mi_M_isFull := rfl
theorem ok_M_isFull : cdok mi_M_isFull cd_M_isFull := cdok_of (by decide +kernel)
abbrev mi_M_write : qMI := (yX9_write, cX9_write, 5, (Option.some Jvm.ClassFile.FieldType.int), 3, 9, 1)
set_option maxRecDepth 20000 in
theorem qm_M_write : qms[272]? = some mi_M_write := rfl
theorem ok_M_write : cdok mi_M_write cd_M_write := cdok_of (by decide +kernel)
abbrev mi_M_change : qMI := (yX9_change, cX9_change, 4, (Option.some Jvm.ClassFile.FieldType.int), 2, 9, 1)
set_option maxRecDepth 20000 in
theorem qm_M_change : qms[273]? = some mi_M_change := rfl
theorem ok_M_change : cdok mi_M_change cd_M_change := cdok_of (by decide +kernel)
abbrev mi_M_ask : qMI := (yX9_ask, cX9_ask, 4, (Option.some Jvm.ClassFile.FieldType.int), 2, 9, 1)
set_option maxRecDepth 20000 in
theorem qm_M_ask : qms[274]? = some mi_M_ask := rfl
theorem ok_M_ask : cdok mi_M_ask cd_M_ask := cdok_of (by decide +kernel)
abbrev mi_M_readsTimes : qMI := (yX9_readsTimes, cX9_readsTimes, 1, (Option.none : Option Jvm.ClassFile.FieldType), 0, 9, 1)
set_option maxRecDepth 20000 in
theorem qm_M_readsTimes : qms[275]? = some mi_M_readsTimes := rfl
theorem ok_M_readsTimes : cdok mi_M_readsTimes cd_M_readsTimes := cdok_of (by decide +kernel)
abbrev mi_M_repeats : qMI := (yX9_repeats, cX9_repeats, 6, (Option.some Jvm.ClassFile.FieldType.boolean), 3, 9, 1)
set_option maxRecDepth 20000 in
theorem qm_M_repeats : qms[276]? = some mi_M_repeats := rfl
theorem ok_M_repeats : cdok mi_M_repeats cd_M_repeats := cdok_of (by decide +kernel)
abbrev mi_M_readsDigit : qMI := (yX9_readsDigit, cX9_readsDigit, 2, (Option.some Jvm.ClassFile.FieldType.boolean), 1, 9, 1)
set_option maxRecDepth 20000 in
theorem qm_M_readsDigit : qms[277]? = some mi_M_readsDigit := rfl
theorem ok_M_readsDigit : cdok mi_M_readsDigit cd_M_readsDigit := cdok_of (by decide +kernel)
abbrev mi_M_readsNumbers : qMI := (yX9_readsNumbers, cX9_readsNumbers, 2, (Option.some Jvm.ClassFile.FieldType.boolean), 1, 9, 1)
set_option maxRecDepth 20000 in
theorem qm_M_readsNumbers : qms[278]? = some mi_M_readsNumbers := rfl
theorem ok_M_readsNumbers : cdok mi_M_readsNumbers cd_M_readsNumbers := cdok_of (by decide +kernel)
abbrev mi_M_isAct : qMI := (yX9_isAct, cX9_isAct, 1, (Option.some Jvm.ClassFile.FieldType.boolean), 1, 9, 0)
set_option maxRecDepth 20000 in
theorem qm_M_isAct : qms[279]? = some mi_M_isAct := rfl
theorem ok_M_isAct : cdok mi_M_isAct cd_M_isAct := cdok_of (by decide +kernel)
abbrev mi_M_readsAct : qMI := (yX9_readsAct, cX9_readsAct, 4, (Option.some Jvm.ClassFile.FieldType.boolean), 0, 9, 1)
set_option maxRecDepth 20000 in
theorem qm_M_readsAct : qms[280]? = some mi_M_readsAct := rfl
theorem ok_M_readsAct : cdok mi_M_readsAct cd_M_readsAct := cdok_of (by decide +kernel)
abbrev mi_M_isDone : qMI := (yX9_isDone, cX9_isDone, 2, (Option.some Jvm.ClassFile.FieldType.boolean), 1, 9, 1)
set_option maxRecDepth 20000 in
theorem qm_M_isDone : qms[281]? = some mi_M_isDone := rfl
theorem ok_M_isDone : cdok mi_M_isDone cd_M_isDone := cdok_of (by decide +kernel)
abbrev mi_M_plan : qMI := (yX9_plan, cX9_plan, 5, (Option.some Jvm.ClassFile.FieldType.int), 1, 9, 1)
set_option maxRecDepth 20000 in
theorem qm_M_plan : qms[282]? = some mi_M_plan := rfl
theorem ok_M_plan : cdok mi_M_plan cd_M_plan := cdok_of (by decide +kernel)
abbrev mi_M_leading : qMI := (yX9_leading, cX9_leading, 3, (Option.some Jvm.ClassFile.FieldType.int), 0, 9, 1)
set_option maxRecDepth 20000 in
theorem qm_M_leading : qms[283]? = some mi_M_leading := rfl
theorem ok_M_leading : cdok mi_M_leading cd_M_leading := cdok_of (by decide +kernel)
abbrev mi_M_leaderNow : qMI := (yX9_leaderNow, cX9_leaderNow, 1, (Option.some Jvm.ClassFile.FieldType.int), 0, 9, 1)
set_option maxRecDepth 20000 in
theorem qm_M_leaderNow : qms[284]? = some mi_M_leaderNow := rfl
theorem ok_M_leaderNow : cdok mi_M_leaderNow cd_M_leaderNow := cdok_of (by decide +kernel)
abbrev mi_M_tried : qMI := (yX9_tried, cX9_tried, 4, (Option.some Jvm.ClassFile.FieldType.int), 2, 9, 1)
set_option maxRecDepth 20000 in
theorem qm_M_tried : qms[285]? = some mi_M_tried := rfl
theorem ok_M_tried : cdok mi_M_tried cd_M_tried := cdok_of (by decide +kernel)
abbrev mi_M_orNone : qMI := (yX9_orNone, cX9_orNone, 1, (Option.some Jvm.ClassFile.FieldType.int), 1, 9, 0)
set_option maxRecDepth 20000 in
theorem qm_M_orNone : qms[286]? = some mi_M_orNone := rfl
theorem ok_M_orNone : cdok mi_M_orNone cd_M_orNone := cdok_of (by decide +kernel)
abbrev mi_M_nodeIs : qMI := (yX9_nodeIs, cX9_nodeIs, 4, (Option.some Jvm.ClassFile.FieldType.int), 2, 9, 1)
set_option maxRecDepth 20000 in
theorem qm_M_nodeIs : qms[287]? = some mi_M_nodeIs := rfl
theorem ok_M_nodeIs : cdok mi_M_nodeIs cd_M_nodeIs := cdok_of (by decide +kernel)
abbrev mi_M_entryAt : qMI := (yX9_entryAt, cX9_entryAt, 4, (Option.some Jvm.ClassFile.FieldType.int), 3, 9, 1)
set_option maxRecDepth 20000 in
theorem qm_M_entryAt : qms[288]? = some mi_M_entryAt := rfl
theorem ok_M_entryAt : cdok mi_M_entryAt cd_M_entryAt := cdok_of (by decide +kernel)
abbrev mi_M_keyOf : qMI := (yX9_keyOf, cX9_keyOf, 3, (Option.some Jvm.ClassFile.FieldType.int), 2, 9, 1)
set_option maxRecDepth 20000 in
theorem qm_M_keyOf : qms[289]? = some mi_M_keyOf := rfl
theorem ok_M_keyOf : cdok mi_M_keyOf cd_M_keyOf := cdok_of (by decide +kernel)
abbrev mi_M_about : qMI := (yX9_about, cX9_about, 4, (Option.some Jvm.ClassFile.FieldType.int), 3, 9, 1)
set_option maxRecDepth 20000 in
theorem qm_M_about : qms[290]? = some mi_M_about := rfl
theorem ok_M_about : cdok mi_M_about cd_M_about := cdok_of (by decide +kernel)
abbrev mi_M_message : qMI := (yX9_message, cX9_message, 3, (Option.some Jvm.ClassFile.FieldType.int), 2, 9, 1)
set_option maxRecDepth 20000 in
theorem qm_M_message : qms[291]? = some mi_M_message := rfl
theorem ok_M_message : cdok mi_M_message cd_M_message := cdok_of (by decide +kernel)
abbrev mi_M_heldAt : qMI := (yX9_heldAt, cX9_heldAt, 3, (Option.some Jvm.ClassFile.FieldType.int), 2, 9, 1)
set_option maxRecDepth 20000 in
theorem qm_M_heldAt : qms[292]? = some mi_M_heldAt := rfl
theorem ok_M_heldAt : cdok mi_M_heldAt cd_M_heldAt := cdok_of (by decide +kernel)
abbrev mi_M_readIs : qMI := (yX9_readIs, cX9_readIs, 4, (Option.some Jvm.ClassFile.FieldType.int), 2, 9, 1)
set_option maxRecDepth 20000 in
theorem qm_M_readIs : qms[293]? = some mi_M_readIs := rfl
theorem ok_M_readIs : cdok mi_M_readIs cd_M_readIs := cdok_of (by decide +kernel)
abbrev mi_M_areSame : qMI := (yX9_areSame, cX9_areSame, 5, (Option.some Jvm.ClassFile.FieldType.boolean), 3, 9, 1)
set_option maxRecDepth 20000 in
theorem qm_M_areSame : qms[294]? = some mi_M_areSame := rfl
theorem ok_M_areSame : cdok mi_M_areSame cd_M_areSame := cdok_of (by decide +kernel)
abbrev mi_M_areMatched : qMI := (yX9_areMatched, cX9_areMatched, 5, (Option.some Jvm.ClassFile.FieldType.boolean), 2, 9, 1)
set_option maxRecDepth 20000 in
theorem qm_M_areMatched : qms[295]? = some mi_M_areMatched := rfl
theorem ok_M_areMatched : cdok mi_M_areMatched cd_M_areMatched := cdok_of (by decide +kernel)
abbrev mi_M_areAlike : qMI := (yX9_areAlike, cX9_areAlike, 4, (Option.some Jvm.ClassFile.FieldType.boolean), 2, 9, 1)
set_option maxRecDepth 20000 in
theorem qm_M_areAlike : qms[296]? = some mi_M_areAlike := rfl
theorem ok_M_areAlike : cdok mi_M_areAlike cd_M_areAlike := cdok_of (by decide +kernel)
abbrev mi_M_broken : qMI := (yX9_broken, cX9_broken, 5, (Option.some Jvm.ClassFile.FieldType.int), 1, 9, 1)
set_option maxRecDepth 20000 in
theorem qm_M_broken : qms[297]? = some mi_M_broken := rfl
theorem ok_M_broken : cdok mi_M_broken cd_M_broken := cdok_of (by decide +kernel)
abbrev mi_M_wouldGrant : qMI := (yX9_wouldGrant, cX9_wouldGrant, 5, (Option.some Jvm.ClassFile.FieldType.boolean), 2, 9, 1)
set_option maxRecDepth 20000 in
theorem qm_M_wouldGrant : qms[298]? = some mi_M_wouldGrant := rfl
theorem ok_M_wouldGrant : cdok mi_M_wouldGrant cd_M_wouldGrant := cdok_of (by decide +kernel)
abbrev mi_M_couldWin : qMI := (yX9_couldWin, cX9_couldWin, 5, (Option.some Jvm.ClassFile.FieldType.int), 2, 9, 1)
set_option maxRecDepth 20000 in
theorem qm_M_couldWin : qms[299]? = some mi_M_couldWin := rfl
theorem ok_M_couldWin : cdok mi_M_couldWin cd_M_couldWin := cdok_of (by decide +kernel)
abbrev mi_M_majority : qMI := (yX9_majority, cX9_majority, 3, (Option.some Jvm.ClassFile.FieldType.int), 2, 9, 1)
set_option maxRecDepth 20000 in
theorem qm_M_majority : qms[300]? = some mi_M_majority := rfl
theorem ok_M_majority : cdok mi_M_majority cd_M_majority := cdok_of (by decide +kernel)
abbrev mi_M_allHave : qMI := (yX9_allHave, cX9_allHave, 2, (Option.some Jvm.ClassFile.FieldType.boolean), 0, 9, 1)
set_option maxRecDepth 20000 in
theorem qm_M_allHave : qms[301]? = some mi_M_allHave := rfl
theorem ok_M_allHave : cdok mi_M_allHave cd_M_allHave := cdok_of (by decide +kernel)
abbrev mi_M_isSo : qMI := (yX9_isSo, cX9_isSo, 3, (Option.some Jvm.ClassFile.FieldType.boolean), 2, 9, 1)
set_option maxRecDepth 20000 in
theorem qm_M_isSo : qms[302]? = some mi_M_isSo := rfl
theorem ok_M_isSo : cdok mi_M_isSo cd_M_isSo := cdok_of (by decide +kernel)
abbrev mi_M_till : qMI := (yX9_till, cX9_till, 5, (Option.some Jvm.ClassFile.FieldType.int), 2, 9, 1)
set_option maxRecDepth 20000 in
theorem qm_M_till : qms[303]? = some mi_M_till := rfl
theorem ok_M_till : cdok mi_M_till cd_M_till := cdok_of (by decide +kernel)
abbrev mi_M_seed : qMI := (yX9_seed, cX9_seed, 2, (Option.some Jvm.ClassFile.FieldType.boolean), 1, 9, 1)
set_option maxRecDepth 20000 in
theorem qm_M_seed : qms[304]? = some mi_M_seed := rfl
theorem ok_M_seed : cdok mi_M_seed cd_M_seed := cdok_of (by decide +kernel)
abbrev mi_M_keep : qMI := (yX9_keep, cX9_keep, 1, (Option.some Jvm.ClassFile.FieldType.int), 0, 9, 1)
set_option maxRecDepth 20000 in
theorem qm_M_keep : qms[305]? = some mi_M_keep := rfl
theorem ok_M_keep : cdok mi_M_keep cd_M_keep := cdok_of (by decide +kernel)
abbrev mi_M_undo : qMI := (yX9_undo, cX9_undo, 1, (Option.some Jvm.ClassFile.FieldType.boolean), 0, 9, 1)
set_option maxRecDepth 20000 in
theorem qm_M_undo : qms[306]? = some mi_M_undo := rfl
theorem ok_M_undo : cdok mi_M_undo cd_M_undo := cdok_of (by decide +kernel)
abbrev mi_M_greatest : qMI := (yX9_greatest, cX9_greatest, 3, (Option.some Jvm.ClassFile.FieldType.int), 0, 9, 1)
set_option maxRecDepth 20000 in
theorem qm_M_greatest : qms[307]? = some mi_M_greatest := rfl
theorem ok_M_greatest : cdok mi_M_greatest cd_M_greatest := cdok_of (by decide +kernel)
abbrev mi_M_check : qMI := (yX9_check, cX9_check, 4, (Option.some Jvm.ClassFile.FieldType.int), 1, 9, 1)
set_option maxRecDepth 20000 in
theorem qm_M_check : qms[308]? = some mi_M_check := rfl
theorem ok_M_check : cdok mi_M_check cd_M_check := cdok_of (by decide +kernel)
abbrev mi_M_upSet : qMI := (yX9_upSet, cX9_upSet, 3, (Option.some Jvm.ClassFile.FieldType.int), 0, 9, 1)
set_option maxRecDepth 20000 in
theorem qm_M_upSet : qms[309]? = some mi_M_upSet := rfl
theorem ok_M_upSet : cdok mi_M_upSet cd_M_upSet := cdok_of (by decide +kernel)
abbrev mi_M_cutMany : qMI := (yX9_cutMany, cX9_cutMany, 3, (Option.some Jvm.ClassFile.FieldType.int), 0, 9, 1)
set_option maxRecDepth 20000 in
theorem qm_M_cutMany : qms[310]? = some mi_M_cutMany := rfl
theorem ok_M_cutMany : cdok mi_M_cutMany cd_M_cutMany := cdok_of (by decide +kernel)
abbrev mi_M_count : qMI := (yX9_count, cX9_count, 2, (Option.some Jvm.ClassFile.FieldType.int), 1, 9, 1)
set_option maxRecDepth 20000 in
theorem qm_M_count : qms[311]? = some mi_M_count := rfl
theorem ok_M_count : cdok mi_M_count cd_M_count := cdok_of (by decide +kernel)
abbrev mi_J_bitCount : qMI := (yJ6_bitCount_0f7a4, cJ6_bitCount_0f7a4, 1, (Option.some Jvm.ClassFile.FieldType.int), 1, 10, 0)
set_option maxRecDepth 20000 in
theorem qm_J_bitCount : qms[312]? = some mi_J_bitCount := rfl
theorem ok_J_bitCount : cdok mi_J_bitCount cd_J_bitCount := cdok_of (by decide +kernel)
abbrev mi_J_fill : qMI := (yJ7_fill_53178, cJ7_fill_53178, 4, (Option.none : Option Jvm.ClassFile.FieldType), 2, 12, 0)
set_option maxRecDepth 20000 in
theorem qm_J_fill : qms[313]? = some mi_J_fill := rfl
theorem ok_J_fill : cdok mi_J_fill cd_J_fill := cdok_of (by decide +kernel)
