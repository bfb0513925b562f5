abbrev y_Cap_init : MethodName := ⟨"SameTuesday$Caprice", "<init>", "(IIII)V"⟩
abbrev b_Cap_init : ByteArray := prog_2_method_1_code
abbrev r_Cap_init : Room := { frames := 3, cells := 0, slots := 0, locals := 68 }
abbrev y_Cap_kind : MethodName := ⟨"SameTuesday$Caprice", "kind", "()I"⟩
abbrev b_Cap_kind : ByteArray := prog_2_method_2_code
abbrev r_Cap_kind : Room := { frames := 0, cells := 0, slots := 0, locals := 0 }
abbrev y_Cap_after : MethodName := ⟨"SameTuesday$Caprice", "after", "(J)J"⟩
abbrev b_Cap_after : ByteArray := prog_2_method_3_code
abbrev r_Cap_after : Room := { frames := 0, cells := 0, slots := 0, locals := 0 }
abbrev y_Cap_telling : MethodName := ⟨"SameTuesday$Caprice", "telling", "(LSameTuesday$Trace;)I"⟩
abbrev b_Cap_telling : ByteArray := prog_2_method_4_code
abbrev r_Cap_telling : Room := { frames := 3, cells := 0, slots := 0, locals := 63 }
abbrev y_Cap_rhymed : MethodName := ⟨"SameTuesday$Caprice", "rhymed", "(LSameTuesday$Trace;)I"⟩
abbrev b_Cap_rhymed : ByteArray := prog_2_method_5_code
abbrev r_Cap_rhymed : Room := { frames := 1, cells := 0, slots := 0, locals := 21 }
abbrev y_Deed_init : MethodName := ⟨"SameTuesday$Deed", "<init>", "(IIII)V"⟩
abbrev b_Deed_init : ByteArray := prog_3_method_1_code
abbrev r_Deed_init : Room := { frames := 1, cells := 0, slots := 0, locals := 20 }
abbrev y_Deed_after : MethodName := ⟨"SameTuesday$Deed", "after", "(J)J"⟩
abbrev b_Deed_after : ByteArray := prog_3_method_2_code
abbrev r_Deed_after : Room := { frames := 1, cells := 0, slots := 0, locals := 20 }
abbrev y_Hap_init : MethodName := ⟨"SameTuesday$Happening", "<init>", "(IIII)V"⟩
abbrev b_Hap_init : ByteArray := prog_4_method_1_code
abbrev r_Hap_init : Room := { frames := 1, cells := 0, slots := 0, locals := 20 }
abbrev y_Hap_kind : MethodName := ⟨"SameTuesday$Happening", "kind", "()I"⟩
abbrev b_Hap_kind : ByteArray := prog_4_method_2_code
abbrev r_Hap_kind : Room := { frames := 0, cells := 0, slots := 0, locals := 0 }
abbrev y_Hap_after : MethodName := ⟨"SameTuesday$Happening", "after", "(J)J"⟩
abbrev b_Hap_after : ByteArray := prog_4_method_3_code
abbrev r_Hap_after : Room := { frames := 0, cells := 0, slots := 0, locals := 0 }
abbrev y_Hap_telling : MethodName := ⟨"SameTuesday$Happening", "telling", "(LSameTuesday$Trace;)I"⟩
abbrev b_Hap_telling : ByteArray := prog_4_method_4_code
abbrev r_Hap_telling : Room := { frames := 2, cells := 0, slots := 0, locals := 42 }
abbrev y_Hap_plainTelling : MethodName := ⟨"SameTuesday$Happening", "plainTelling", "(LSameTuesday$Trace;)I"⟩
abbrev b_Hap_plainTelling : ByteArray := prog_4_method_5_code
abbrev r_Hap_plainTelling : Room := { frames := 1, cells := 0, slots := 0, locals := 21 }
abbrev y_Hap_rhymed : MethodName := ⟨"SameTuesday$Happening", "rhymed", "(LSameTuesday$Trace;)I"⟩
abbrev b_Hap_rhymed : ByteArray := prog_4_method_6_code
abbrev r_Hap_rhymed : Room := { frames := 1, cells := 0, slots := 0, locals := 21 }
abbrev y_Law_init : MethodName := ⟨"SameTuesday$Law", "<init>", "()V"⟩
abbrev b_Law_init : ByteArray := prog_5_method_1_code
abbrev r_Law_init : Room := { frames := 1, cells := 1, slots := 8, locals := 20 }
abbrev y_Law_dayCount : MethodName := ⟨"SameTuesday$Law", "dayCount", "()I"⟩
abbrev b_Law_dayCount : ByteArray := prog_5_method_2_code
abbrev r_Law_dayCount : Room := { frames := 0, cells := 0, slots := 0, locals := 0 }
abbrev y_Law_isFull : MethodName := ⟨"SameTuesday$Law", "isFull", "()Z"⟩
abbrev b_Law_isFull : ByteArray := prog_5_method_3_code
abbrev r_Law_isFull : Room := { frames := 0, cells := 0, slots := 0, locals := 0 }
abbrev y_Law_addDay : MethodName := ⟨"SameTuesday$Law", "addDay", "(I)V"⟩
abbrev b_Law_addDay : ByteArray := prog_5_method_4_code
abbrev r_Law_addDay : Room := { frames := 0, cells := 0, slots := 0, locals := 0 }
abbrev y_Law_dropLast : MethodName := ⟨"SameTuesday$Law", "dropLast", "(I)V"⟩
abbrev b_Law_dropLast : ByteArray := prog_5_method_5_code
abbrev r_Law_dropLast : Room := { frames := 1, cells := 0, slots := 0, locals := 21 }
abbrev y_Law_possible : MethodName := ⟨"SameTuesday$Law", "possible", "()J"⟩
abbrev b_Law_possible : ByteArray := prog_5_method_6_code
abbrev r_Law_possible : Room := { frames := 2, cells := 0, slots := 0, locals := 43 }
abbrev y_Law_possibleAt : MethodName := ⟨"SameTuesday$Law", "possibleAt", "(I)I"⟩
abbrev b_Law_possibleAt : ByteArray := prog_5_method_7_code
abbrev r_Law_possibleAt : Room := { frames := 3, cells := 0, slots := 0, locals := 66 }
abbrev y_Law_ofFewestFacts : MethodName := ⟨"SameTuesday$Law", "ofFewestFacts", "()I"⟩
abbrev b_Law_ofFewestFacts : ByteArray := prog_5_method_8_code
abbrev r_Law_ofFewestFacts : Room := { frames := 3, cells := 0, slots := 0, locals := 66 }
abbrev y_Law_partingBest : MethodName := ⟨"SameTuesday$Law", "partingBest", "(J)I"⟩
abbrev b_Law_partingBest : ByteArray := prog_5_method_9_code
abbrev r_Law_partingBest : Room := { frames := 3, cells := 0, slots := 0, locals := 66 }
abbrev y_Life_init : MethodName := ⟨"SameTuesday$Life", "<init>", "(LSameTuesday$Town;)V"⟩
abbrev b_Life_init : ByteArray := prog_6_method_1_code
abbrev r_Life_init : Room := { frames := 1, cells := 3, slots := 100, locals := 20 }
abbrev y_Life_readPairs : MethodName := ⟨"SameTuesday$Life", "readPairs", "(LSameTuesday$Sheet;II)I"⟩
abbrev b_Life_readPairs : ByteArray := prog_6_method_2_code
abbrev r_Life_readPairs : Room := { frames := 1, cells := 0, slots := 0, locals := 21 }
abbrev y_Life_firstWrong : MethodName := ⟨"SameTuesday$Life", "firstWrong", "()I"⟩
abbrev b_Life_firstWrong : ByteArray := prog_6_method_3_code
abbrev r_Life_firstWrong : Room := { frames := 0, cells := 0, slots := 0, locals := 0 }
abbrev y_Life_factsAt : MethodName := ⟨"SameTuesday$Life", "factsAt", "(II)I"⟩
abbrev b_Life_factsAt : ByteArray := prog_6_method_4_code
abbrev r_Life_factsAt : Room := { frames := 3, cells := 0, slots := 0, locals := 69 }
abbrev y_Life_endDeeds : MethodName := ⟨"SameTuesday$Life", "endDeeds", "(I)V"⟩
abbrev b_Life_endDeeds : ByteArray := prog_6_method_5_code
abbrev r_Life_endDeeds : Room := { frames := 2, cells := 0, slots := 0, locals := 48 }
abbrev y_Life_beginPairs : MethodName := ⟨"SameTuesday$Life", "beginPairs", "(I)V"⟩
abbrev b_Life_beginPairs : ByteArray := prog_6_method_6_code
abbrev r_Life_beginPairs : Room := { frames := 2, cells := 0, slots := 0, locals := 46 }
abbrev y_Life_begin : MethodName := ⟨"SameTuesday$Life", "begin", "(LSameTuesday$Deed;I)Z"⟩
abbrev b_Life_begin : ByteArray := prog_6_method_7_code
abbrev r_Life_begin : Room := { frames := 1, cells := 0, slots := 0, locals := 24 }
abbrev y_Life_noteWrong : MethodName := ⟨"SameTuesday$Life", "noteWrong", "(I)V"⟩
abbrev b_Life_noteWrong : ByteArray := prog_6_method_8_code
abbrev r_Life_noteWrong : Room := { frames := 0, cells := 0, slots := 0, locals := 0 }
abbrev y_Life_minuteOfPair : MethodName := ⟨"SameTuesday$Life", "minuteOfPair", "(I)I"⟩
abbrev b_Life_minuteOfPair : ByteArray := prog_6_method_9_code
abbrev r_Life_minuteOfPair : Room := { frames := 0, cells := 0, slots := 0, locals := 0 }
abbrev y_Life_deedOfPair : MethodName := ⟨"SameTuesday$Life", "deedOfPair", "(I)LSameTuesday$Deed;"⟩
abbrev b_Life_deedOfPair : ByteArray := prog_6_method_10_code
abbrev r_Life_deedOfPair : Room := { frames := 1, cells := 0, slots := 0, locals := 21 }
abbrev y_Life_hangsOn : MethodName := ⟨"SameTuesday$Life", "hangsOn", "()I"⟩
abbrev b_Life_hangsOn : ByteArray := prog_6_method_11_code
abbrev r_Life_hangsOn : Room := { frames := 4, cells := 0, slots := 0, locals := 93 }
abbrev y_Life_countWaysTo : MethodName := ⟨"SameTuesday$Life", "countWaysTo", "(I)I"⟩
abbrev b_Life_countWaysTo : ByteArray := prog_6_method_12_code
abbrev r_Life_countWaysTo : Room := { frames := 4, cells := 0, slots := 0, locals := 93 }
abbrev y_Life_otherAt : MethodName := ⟨"SameTuesday$Life", "otherAt", "(II)I"⟩
abbrev b_Life_otherAt : ByteArray := prog_6_method_13_code
abbrev r_Life_otherAt : Room := { frames := 5, cells := 0, slots := 0, locals := 117 }
abbrev y_Life_endsWith : MethodName := ⟨"SameTuesday$Life", "endsWith", "(LSameTuesday$Deed;II)Z"⟩
abbrev b_Life_endsWith : ByteArray := prog_6_method_14_code
abbrev r_Life_endsWith : Room := { frames := 4, cells := 0, slots := 0, locals := 93 }
abbrev y_Mis_init : MethodName := ⟨"SameTuesday$Mishap", "<init>", "(IIII)V"⟩
abbrev b_Mis_init : ByteArray := prog_7_method_1_code
abbrev r_Mis_init : Room := { frames := 2, cells := 0, slots := 0, locals := 44 }
abbrev y_Mis_kind : MethodName := ⟨"SameTuesday$Mishap", "kind", "()I"⟩
abbrev b_Mis_kind : ByteArray := prog_7_method_2_code
abbrev r_Mis_kind : Room := { frames := 0, cells := 0, slots := 0, locals := 0 }
abbrev y_Mis_after : MethodName := ⟨"SameTuesday$Mishap", "after", "(J)J"⟩
abbrev b_Mis_after : ByteArray := prog_7_method_3_code
abbrev r_Mis_after : Room := { frames := 0, cells := 0, slots := 0, locals := 0 }
abbrev y_Mis_telling : MethodName := ⟨"SameTuesday$Mishap", "telling", "(LSameTuesday$Trace;)I"⟩
abbrev b_Mis_telling : ByteArray := prog_7_method_4_code
abbrev r_Mis_telling : Room := { frames := 2, cells := 0, slots := 0, locals := 42 }
abbrev y_Rch_init : MethodName := ⟨"SameTuesday$Reach", "<init>", "(LSameTuesday$Town;)V"⟩
abbrev b_Rch_init : ByteArray := prog_8_method_1_code
abbrev r_Rch_init : Room := { frames := 1, cells := 2, slots := 110, locals := 20 }
abbrev y_Rch_spoil : MethodName := ⟨"SameTuesday$Reach", "spoil", "()V"⟩
abbrev b_Rch_spoil : ByteArray := prog_8_method_2_code
abbrev r_Rch_spoil : Room := { frames := 0, cells := 0, slots := 0, locals := 0 }
abbrev y_Rch_worldAt : MethodName := ⟨"SameTuesday$Reach", "worldAt", "(I)J"⟩
abbrev b_Rch_worldAt : ByteArray := prog_8_method_3_code
abbrev r_Rch_worldAt : Room := { frames := 4, cells := 0, slots := 0, locals := 97 }
abbrev y_Rch_soonestOf : MethodName := ⟨"SameTuesday$Reach", "soonestOf", "(I)I"⟩
abbrev b_Rch_soonestOf : ByteArray := prog_8_method_4_code
abbrev r_Rch_soonestOf : Room := { frames := 5, cells := 0, slots := 0, locals := 119 }
abbrev y_Rch_barOf : MethodName := ⟨"SameTuesday$Reach", "barOf", "(I)I"⟩
abbrev b_Rch_barOf : ByteArray := prog_8_method_5_code
abbrev r_Rch_barOf : Room := { frames := 5, cells := 0, slots := 0, locals := 119 }
abbrev y_Rch_reckon : MethodName := ⟨"SameTuesday$Reach", "reckon", "()V"⟩
abbrev b_Rch_reckon : ByteArray := prog_8_method_6_code
abbrev r_Rch_reckon : Room := { frames := 3, cells := 0, slots := 0, locals := 76 }
abbrev y_Rch_passHappenings : MethodName := ⟨"SameTuesday$Reach", "passHappenings", "(I)V"⟩
abbrev b_Rch_passHappenings : ByteArray := prog_8_method_7_code
abbrev r_Rch_passHappenings : Room := { frames := 2, cells := 0, slots := 0, locals := 54 }
abbrev y_Rch_endDeeds : MethodName := ⟨"SameTuesday$Reach", "endDeeds", "()V"⟩
abbrev b_Rch_endDeeds : ByteArray := prog_8_method_8_code
abbrev r_Rch_endDeeds : Room := { frames := 2, cells := 0, slots := 0, locals := 48 }
abbrev y_Rch_beginDeeds : MethodName := ⟨"SameTuesday$Reach", "beginDeeds", "(I)V"⟩
abbrev b_Rch_beginDeeds : ByteArray := prog_8_method_9_code
abbrev r_Rch_beginDeeds : Room := { frames := 1, cells := 0, slots := 0, locals := 24 }
abbrev y_Rch_everyWorld : MethodName := ⟨"SameTuesday$Reach", "everyWorld", "()J"⟩
abbrev b_Rch_everyWorld : ByteArray := prog_8_method_10_code
abbrev r_Rch_everyWorld : Room := { frames := 0, cells := 0, slots := 0, locals := 0 }
abbrev y_Sht_init : MethodName := ⟨"SameTuesday$Sheet", "<init>", "()V"⟩
abbrev b_Sht_init : ByteArray := prog_9_method_1_code
abbrev r_Sht_init : Room := { frames := 1, cells := 1, slots := 60, locals := 20 }
abbrev y_Sht_hasNothing : MethodName := ⟨"SameTuesday$Sheet", "hasNothing", "()Z"⟩
abbrev b_Sht_hasNothing : ByteArray := prog_9_method_2_code
abbrev r_Sht_hasNothing : Room := { frames := 0, cells := 0, slots := 0, locals := 0 }
abbrev y_Sht_isOf : MethodName := ⟨"SameTuesday$Sheet", "isOf", "(I)Z"⟩
abbrev b_Sht_isOf : ByteArray := prog_9_method_3_code
abbrev r_Sht_isOf : Room := { frames := 0, cells := 0, slots := 0, locals := 0 }
abbrev y_Sht_isLike : MethodName := ⟨"SameTuesday$Sheet", "isLike", "(LSameTuesday$Sheet;)Z"⟩
abbrev b_Sht_isLike : ByteArray := prog_9_method_4_code
abbrev r_Sht_isLike : Room := { frames := 0, cells := 0, slots := 0, locals := 0 }
abbrev y_Sht_renew : MethodName := ⟨"SameTuesday$Sheet", "renew", "(II)V"⟩
abbrev b_Sht_renew : ByteArray := prog_9_method_5_code
abbrev r_Sht_renew : Room := { frames := 1, cells := 0, slots := 0, locals := 21 }
abbrev y_Sht_empty : MethodName := ⟨"SameTuesday$Sheet", "empty", "()V"⟩
abbrev b_Sht_empty : ByteArray := prog_9_method_6_code
abbrev r_Sht_empty : Room := { frames := 0, cells := 0, slots := 0, locals := 0 }
abbrev y_Sht_holds : MethodName := ⟨"SameTuesday$Sheet", "holds", "(II)Z"⟩
abbrev b_Sht_holds : ByteArray := prog_9_method_7_code
abbrev r_Sht_holds : Room := { frames := 0, cells := 0, slots := 0, locals := 0 }
abbrev y_Sht_cellAt : MethodName := ⟨"SameTuesday$Sheet", "cellAt", "(I)I"⟩
abbrev b_Sht_cellAt : ByteArray := prog_9_method_8_code
abbrev r_Sht_cellAt : Room := { frames := 0, cells := 0, slots := 0, locals := 0 }
abbrev y_Sht_setCell : MethodName := ⟨"SameTuesday$Sheet", "setCell", "(II)V"⟩
abbrev b_Sht_setCell : ByteArray := prog_9_method_9_code
abbrev r_Sht_setCell : Room := { frames := 0, cells := 0, slots := 0, locals := 0 }
abbrev y_Sht_takeFrom : MethodName := ⟨"SameTuesday$Sheet", "takeFrom", "(LSameTuesday$Sheet;III)V"⟩
abbrev b_Sht_takeFrom : ByteArray := prog_9_method_10_code
abbrev r_Sht_takeFrom : Room := { frames := 1, cells := 0, slots := 0, locals := 26 }
abbrev y_Txt_init : MethodName := ⟨"SameTuesday$Text", "<init>", "(LSameTuesday$Sheet;II)V"⟩
abbrev b_Txt_init : ByteArray := prog_10_method_1_code
abbrev r_Txt_init : Room := { frames := 1, cells := 0, slots := 0, locals := 20 }
abbrev y_Txt_firstFault : MethodName := ⟨"SameTuesday$Text", "firstFault", "()I"⟩
abbrev b_Txt_firstFault : ByteArray := prog_10_method_2_code
abbrev r_Txt_firstFault : Room := { frames := 3, cells := 0, slots := 0, locals := 69 }
abbrev y_Txt_passPart : MethodName := ⟨"SameTuesday$Text", "passPart", "()Z"⟩
abbrev b_Txt_passPart : ByteArray := prog_10_method_3_code
abbrev r_Txt_passPart : Room := { frames := 2, cells := 0, slots := 0, locals := 43 }
abbrev y_Txt_fitsHappening : MethodName := ⟨"SameTuesday$Text", "fitsHappening", "(II)Z"⟩
abbrev b_Txt_fitsHappening : ByteArray := prog_10_method_4_code
abbrev r_Txt_fitsHappening : Room := { frames := 1, cells := 0, slots := 0, locals := 22 }
abbrev y_Txt_fitsDeed : MethodName := ⟨"SameTuesday$Text", "fitsDeed", "(II)Z"⟩
abbrev b_Txt_fitsDeed : ByteArray := prog_10_method_5_code
abbrev r_Txt_fitsDeed : Room := { frames := 1, cells := 0, slots := 0, locals := 22 }
abbrev y_Txt_isDigit : MethodName := ⟨"SameTuesday$Text", "isDigit", "(III)Z"⟩
abbrev b_Txt_isDigit : ByteArray := prog_10_method_6_code
abbrev r_Txt_isDigit : Room := { frames := 0, cells := 0, slots := 0, locals := 0 }
abbrev y_Txt_kindOf : MethodName := ⟨"SameTuesday$Text", "kindOf", "(I)I"⟩
abbrev b_Txt_kindOf : ByteArray := prog_10_method_7_code
abbrev r_Txt_kindOf : Room := { frames := 0, cells := 0, slots := 0, locals := 0 }
abbrev y_Txt_codeAt : MethodName := ⟨"SameTuesday$Text", "codeAt", "(I)I"⟩
abbrev b_Txt_codeAt : ByteArray := prog_10_method_8_code
abbrev r_Txt_codeAt : Room := { frames := 1, cells := 0, slots := 0, locals := 21 }
abbrev y_Txt_digitAt : MethodName := ⟨"SameTuesday$Text", "digitAt", "(I)I"⟩
abbrev b_Txt_digitAt : ByteArray := prog_10_method_9_code
abbrev r_Txt_digitAt : Room := { frames := 2, cells := 0, slots := 0, locals := 42 }
abbrev y_Txt_happeningCount : MethodName := ⟨"SameTuesday$Text", "happeningCount", "()I"⟩
abbrev b_Txt_happeningCount : ByteArray := prog_10_method_10_code
abbrev r_Txt_happeningCount : Room := { frames := 0, cells := 0, slots := 0, locals := 0 }
abbrev y_Txt_deedCount : MethodName := ⟨"SameTuesday$Text", "deedCount", "()I"⟩
abbrev b_Txt_deedCount : ByteArray := prog_10_method_11_code
abbrev r_Txt_deedCount : Room := { frames := 0, cells := 0, slots := 0, locals := 0 }
abbrev y_Txt_newHappening : MethodName := ⟨"SameTuesday$Text", "newHappening", "(I)LSameTuesday$Happening;"⟩
abbrev b_Txt_newHappening : ByteArray := prog_10_method_12_code
abbrev r_Txt_newHappening : Room := { frames := 4, cells := 1, slots := 6, locals := 92 }
abbrev y_Txt_newDeed : MethodName := ⟨"SameTuesday$Text", "newDeed", "(I)LSameTuesday$Deed;"⟩
abbrev b_Txt_newDeed : ByteArray := prog_10_method_13_code
abbrev r_Txt_newDeed : Room := { frames := 3, cells := 1, slots := 5, locals := 63 }
abbrev y_Twn_init : MethodName := ⟨"SameTuesday$Town", "<init>", "()V"⟩
abbrev b_Twn_init : ByteArray := prog_11_method_1_code
abbrev r_Twn_init : Room := { frames := 1, cells := 2, slots := 11, locals := 20 }
abbrev y_Twn_retell : MethodName := ⟨"SameTuesday$Town", "retell", "(LSameTuesday$Text;)V"⟩
abbrev b_Twn_retell : ByteArray := prog_11_method_2_code
abbrev r_Twn_retell : Room := { frames := 5, cells := 11, slots := 61, locals := 117 }
abbrev y_Twn_noteEvents : MethodName := ⟨"SameTuesday$Town", "noteEvents", "()V"⟩
abbrev b_Twn_noteEvents : ByteArray := prog_11_method_3_code
abbrev r_Twn_noteEvents : Room := { frames := 1, cells := 0, slots := 0, locals := 21 }
abbrev y_Twn_isTold : MethodName := ⟨"SameTuesday$Town", "isTold", "()Z"⟩
abbrev b_Twn_isTold : ByteArray := prog_11_method_4_code
abbrev r_Twn_isTold : Room := { frames := 0, cells := 0, slots := 0, locals := 0 }
abbrev y_Twn_happeningCount : MethodName := ⟨"SameTuesday$Town", "happeningCount", "()I"⟩
abbrev b_Twn_happeningCount : ByteArray := prog_11_method_5_code
abbrev r_Twn_happeningCount : Room := { frames := 0, cells := 0, slots := 0, locals := 0 }
abbrev y_Twn_deedCount : MethodName := ⟨"SameTuesday$Town", "deedCount", "()I"⟩
abbrev b_Twn_deedCount : ByteArray := prog_11_method_6_code
abbrev r_Twn_deedCount : Room := { frames := 0, cells := 0, slots := 0, locals := 0 }
abbrev y_Twn_minuteCount : MethodName := ⟨"SameTuesday$Town", "minuteCount", "()I"⟩
abbrev b_Twn_minuteCount : ByteArray := prog_11_method_7_code
abbrev r_Twn_minuteCount : Room := { frames := 0, cells := 0, slots := 0, locals := 0 }
abbrev y_Twn_minuteInDay : MethodName := ⟨"SameTuesday$Town", "minuteInDay", "(I)I"⟩
abbrev b_Twn_minuteInDay : ByteArray := prog_11_method_8_code
abbrev r_Twn_minuteInDay : Room := { frames := 1, cells := 0, slots := 0, locals := 21 }
abbrev y_Twn_setMinutes : MethodName := ⟨"SameTuesday$Town", "setMinutes", "(I)V"⟩
abbrev b_Twn_setMinutes : ByteArray := prog_11_method_9_code
abbrev r_Twn_setMinutes : Room := { frames := 0, cells := 0, slots := 0, locals := 0 }
abbrev y_Twn_moveTo : MethodName := ⟨"SameTuesday$Town", "moveTo", "(LSameTuesday$Happening;I)V"⟩
abbrev b_Twn_moveTo : ByteArray := prog_11_method_10_code
abbrev r_Twn_moveTo : Room := { frames := 2, cells := 0, slots := 0, locals := 43 }
abbrev y_Twn_happeningOf : MethodName := ⟨"SameTuesday$Town", "happeningOf", "(I)LSameTuesday$Happening;"⟩
abbrev b_Twn_happeningOf : ByteArray := prog_11_method_11_code
abbrev r_Twn_happeningOf : Room := { frames := 0, cells := 0, slots := 0, locals := 0 }
abbrev y_Twn_deedOf : MethodName := ⟨"SameTuesday$Town", "deedOf", "(I)LSameTuesday$Deed;"⟩
abbrev b_Twn_deedOf : ByteArray := prog_11_method_12_code
abbrev r_Twn_deedOf : Room := { frames := 0, cells := 0, slots := 0, locals := 0 }
abbrev y_Twn_happenIn : MethodName := ⟨"SameTuesday$Town", "happenIn", "(IJI)J"⟩
abbrev b_Twn_happenIn : ByteArray := prog_11_method_13_code
abbrev r_Twn_happenIn : Room := { frames := 1, cells := 0, slots := 0, locals := 26 }
abbrev y_Twn_openTo : MethodName := ⟨"SameTuesday$Town", "openTo", "(LSameTuesday$Deed;IJ)J"⟩
abbrev b_Twn_openTo : ByteArray := prog_11_method_14_code
abbrev r_Twn_openTo : Room := { frames := 0, cells := 0, slots := 0, locals := 0 }
abbrev y_Trc_init : MethodName := ⟨"SameTuesday$Trace", "<init>", "()V"⟩
abbrev b_Trc_init : ByteArray := prog_12_method_1_code
abbrev r_Trc_init : Room := { frames := 1, cells := 0, slots := 0, locals := 20 }
abbrev y_Trc_leave : MethodName := ⟨"SameTuesday$Trace", "leave", "(I)V"⟩
abbrev b_Trc_leave : ByteArray := prog_12_method_2_code
abbrev r_Trc_leave : Room := { frames := 0, cells := 0, slots := 0, locals := 0 }
abbrev y_Trc_value : MethodName := ⟨"SameTuesday$Trace", "value", "()I"⟩
abbrev b_Trc_value : ByteArray := prog_12_method_3_code
abbrev r_Trc_value : Room := { frames := 0, cells := 0, slots := 0, locals := 0 }
abbrev y_Tue_init : MethodName := ⟨"SameTuesday", "<init>", "()V"⟩
abbrev b_Tue_init : ByteArray := prog_1_method_1_code
abbrev r_Tue_init : Room := { frames := 2, cells := 23, slots := 7000, locals := 41 }
abbrev y_Tue_tuesday : MethodName := ⟨"SameTuesday", "tuesday", "(IIII)I"⟩
abbrev b_Tue_tuesday : ByteArray := prog_1_method_2_code
abbrev r_Tue_tuesday : Room := { frames := 6, cells := 12, slots := 67, locals := 139 }
abbrev y_Tue_ofHappening : MethodName := ⟨"SameTuesday", "ofHappening", "(II)I"⟩
abbrev b_Tue_ofHappening : ByteArray := prog_1_method_3_code
abbrev r_Tue_ofHappening : Room := { frames := 1, cells := 0, slots := 0, locals := 21 }
abbrev y_Tue_ofDeed : MethodName := ⟨"SameTuesday", "ofDeed", "(II)I"⟩
abbrev b_Tue_ofDeed : ByteArray := prog_1_method_4_code
abbrev r_Tue_ofDeed : Room := { frames := 1, cells := 0, slots := 0, locals := 21 }
abbrev y_Tue_minutes : MethodName := ⟨"SameTuesday", "minutes", "(I)I"⟩
abbrev b_Tue_minutes : ByteArray := prog_1_method_5_code
abbrev r_Tue_minutes : Room := { frames := 1, cells := 0, slots := 0, locals := 21 }
abbrev y_Tue_shift : MethodName := ⟨"SameTuesday", "shift", "(II)I"⟩
abbrev b_Tue_shift : ByteArray := prog_1_method_6_code
abbrev r_Tue_shift : Room := { frames := 3, cells := 0, slots := 0, locals := 65 }
abbrev y_Tue_live : MethodName := ⟨"SameTuesday", "live", "(IIIII)I"⟩
abbrev b_Tue_live : ByteArray := prog_1_method_7_code
abbrev r_Tue_live : Room := { frames := 4, cells := 0, slots := 0, locals := 93 }
abbrev y_Tue_at : MethodName := ⟨"SameTuesday", "at", "(IIIII)I"⟩
abbrev b_Tue_at : ByteArray := prog_1_method_8_code
abbrev r_Tue_at : Room := { frames := 4, cells := 0, slots := 0, locals := 93 }
abbrev y_Tue_hangs : MethodName := ⟨"SameTuesday", "hangs", "(IIII)I"⟩
abbrev b_Tue_hangs : ByteArray := prog_1_method_9_code
abbrev r_Tue_hangs : Room := { frames := 5, cells := 0, slots := 0, locals := 116 }
abbrev y_Tue_can : MethodName := ⟨"SameTuesday", "can", "(II)I"⟩
abbrev b_Tue_can : ByteArray := prog_1_method_10_code
abbrev r_Tue_can : Room := { frames := 5, cells := 0, slots := 0, locals := 119 }
abbrev y_Tue_soonest : MethodName := ⟨"SameTuesday", "soonest", "(I)I"⟩
abbrev b_Tue_soonest : ByteArray := prog_1_method_11_code
abbrev r_Tue_soonest : Room := { frames := 6, cells := 0, slots := 0, locals := 143 }
abbrev y_Tue_bar : MethodName := ⟨"SameTuesday", "bar", "(I)I"⟩
abbrev b_Tue_bar : ByteArray := prog_1_method_12_code
abbrev r_Tue_bar : Room := { frames := 6, cells := 0, slots := 0, locals := 145 }
abbrev y_Tue_day : MethodName := ⟨"SameTuesday", "day", "(I)I"⟩
abbrev b_Tue_day : ByteArray := prog_1_method_13_code
abbrev r_Tue_day : Room := { frames := 1, cells := 0, slots := 0, locals := 21 }
abbrev y_Tue_forget : MethodName := ⟨"SameTuesday", "forget", "(I)I"⟩
abbrev b_Tue_forget : ByteArray := prog_1_method_14_code
abbrev r_Tue_forget : Room := { frames := 2, cells := 0, slots := 0, locals := 42 }
abbrev y_Tue_laws : MethodName := ⟨"SameTuesday", "laws", "(I)I"⟩
abbrev b_Tue_laws : ByteArray := prog_1_method_15_code
abbrev r_Tue_laws : Room := { frames := 4, cells := 0, slots := 0, locals := 91 }
abbrev y_Tue_fewest : MethodName := ⟨"SameTuesday", "fewest", "()I"⟩
abbrev b_Tue_fewest : ByteArray := prog_1_method_16_code
abbrev r_Tue_fewest : Room := { frames := 4, cells := 0, slots := 0, locals := 91 }
abbrev y_Tue_next : MethodName := ⟨"SameTuesday", "next", "(I)I"⟩
abbrev b_Tue_next : ByteArray := prog_1_method_17_code
abbrev r_Tue_next : Room := { frames := 5, cells := 0, slots := 0, locals := 119 }
abbrev y_Tue_others : MethodName := ⟨"SameTuesday", "others", "(IIIIII)I"⟩
abbrev b_Tue_others : ByteArray := prog_1_method_18_code
abbrev r_Tue_others : Room := { frames := 6, cells := 0, slots := 0, locals := 143 }
abbrev y_Tue_odds : MethodName := ⟨"SameTuesday", "odds", "(IIIIII)J"⟩
abbrev b_Tue_odds : ByteArray := prog_1_method_19_code
abbrev r_Tue_odds : Room := { frames := 5, cells := 0, slots := 0, locals := 116 }
abbrev y_Tue_sheet : MethodName := ⟨"SameTuesday", "sheet", "(III)I"⟩
abbrev b_Tue_sheet : ByteArray := prog_1_method_20_code
abbrev r_Tue_sheet : Room := { frames := 2, cells := 0, slots := 0, locals := 44 }
abbrev y_Tue_lose : MethodName := ⟨"SameTuesday", "lose", "(I)I"⟩
abbrev b_Tue_lose : ByteArray := prog_1_method_21_code
abbrev r_Tue_lose : Room := { frames := 1, cells := 0, slots := 0, locals := 21 }
abbrev y_Tue_put : MethodName := ⟨"SameTuesday", "put", "(III)I"⟩
abbrev b_Tue_put : ByteArray := prog_1_method_22_code
abbrev r_Tue_put : Room := { frames := 1, cells := 0, slots := 0, locals := 22 }
abbrev y_Tue_cell : MethodName := ⟨"SameTuesday", "cell", "(III)J"⟩
abbrev b_Tue_cell : ByteArray := prog_1_method_23_code
abbrev r_Tue_cell : Room := { frames := 2, cells := 0, slots := 0, locals := 46 }
abbrev y_Tue_copy : MethodName := ⟨"SameTuesday", "copy", "(IIIII)I"⟩
abbrev b_Tue_copy : ByteArray := prog_1_method_24_code
abbrev r_Tue_copy : Room := { frames := 2, cells := 0, slots := 0, locals := 50 }
abbrev y_Tue_tell : MethodName := ⟨"SameTuesday", "tell", "(I)I"⟩
abbrev b_Tue_tell : ByteArray := prog_1_method_25_code
abbrev r_Tue_tell : Room := { frames := 4, cells := 0, slots := 0, locals := 85 }
abbrev y_Tue_rhyme : MethodName := ⟨"SameTuesday", "rhyme", "(I)I"⟩
abbrev b_Tue_rhyme : ByteArray := prog_1_method_26_code
abbrev r_Tue_rhyme : Room := { frames := 2, cells := 0, slots := 0, locals := 42 }
abbrev y_Tue_as : MethodName := ⟨"SameTuesday", "as", "(II)I"⟩
abbrev b_Tue_as : ByteArray := prog_1_method_27_code
abbrev r_Tue_as : Room := { frames := 1, cells := 0, slots := 0, locals := 21 }
abbrev y_Tue_trace : MethodName := ⟨"SameTuesday", "trace", "()I"⟩
abbrev b_Tue_trace : ByteArray := prog_1_method_28_code
abbrev r_Tue_trace : Room := { frames := 1, cells := 0, slots := 0, locals := 20 }
abbrev y_Tue_fault : MethodName := ⟨"SameTuesday", "fault", "()I"⟩
abbrev b_Tue_fault : ByteArray := prog_1_method_29_code
abbrev r_Tue_fault : Room := { frames := 0, cells := 0, slots := 0, locals := 0 }
abbrev y_Tue_many : MethodName := ⟨"SameTuesday", "many", "(I)I"⟩
abbrev b_Tue_many : ByteArray := prog_1_method_30_code
abbrev r_Tue_many : Room := { frames := 1, cells := 0, slots := 0, locals := 20 }
abbrev y_Tue_faulty : MethodName := ⟨"SameTuesday", "faulty", "(I)I"⟩
abbrev b_Tue_faulty : ByteArray := prog_1_method_31_code
abbrev r_Tue_faulty : Room := { frames := 0, cells := 0, slots := 0, locals := 0 }
abbrev y_Tue_sheetOf : MethodName := ⟨"SameTuesday", "sheetOf", "(I)LSameTuesday$Sheet;"⟩
abbrev b_Tue_sheetOf : ByteArray := prog_1_method_32_code
abbrev r_Tue_sheetOf : Room := { frames := 0, cells := 0, slots := 0, locals := 0 }
abbrev y_Tue_refusalOfCells : MethodName := ⟨"SameTuesday", "refusalOfCells", "(LSameTuesday$Sheet;III)I"⟩
abbrev b_Tue_refusalOfCells : ByteArray := prog_1_method_33_code
abbrev r_Tue_refusalOfCells : Room := { frames := 1, cells := 0, slots := 0, locals := 22 }
abbrev y_Tue_takeRow : MethodName := ⟨"SameTuesday", "takeRow", "(IIIIZ)I"⟩
abbrev b_Tue_takeRow : ByteArray := prog_1_method_34_code
abbrev r_Tue_takeRow : Room := { frames := 2, cells := 0, slots := 0, locals := 47 }
abbrev y_Tue_isLane : MethodName := ⟨"SameTuesday", "isLane", "(I)Z"⟩
abbrev b_Tue_isLane : ByteArray := prog_1_method_35_code
abbrev r_Tue_isLane : Room := { frames := 0, cells := 0, slots := 0, locals := 0 }
abbrev y_Tue_isSet : MethodName := ⟨"SameTuesday", "isSet", "(I)Z"⟩
abbrev b_Tue_isSet : ByteArray := prog_1_method_36_code
abbrev r_Tue_isSet : Room := { frames := 0, cells := 0, slots := 0, locals := 0 }
abbrev y_Tue_isMinute : MethodName := ⟨"SameTuesday", "isMinute", "(I)Z"⟩
abbrev b_Tue_isMinute : ByteArray := prog_1_method_37_code
abbrev r_Tue_isMinute : Room := { frames := 0, cells := 0, slots := 0, locals := 0 }
abbrev y_Tue_greatestCommon : MethodName := ⟨"SameTuesday", "greatestCommon", "(II)I"⟩
abbrev b_Tue_greatestCommon : ByteArray := prog_1_method_38_code
abbrev r_Tue_greatestCommon : Room := { frames := 0, cells := 0, slots := 0, locals := 0 }
abbrev y_Tue_hasState : MethodName := ⟨"SameTuesday", "hasState", "(JI)Z"⟩
abbrev b_Tue_hasState : ByteArray := prog_1_method_39_code
abbrev r_Tue_hasState : Room := { frames := 0, cells := 0, slots := 0, locals := 0 }
abbrev y_Tue_worldWith : MethodName := ⟨"SameTuesday", "worldWith", "(I)J"⟩
abbrev b_Tue_worldWith : ByteArray := prog_1_method_40_code
abbrev r_Tue_worldWith : Room := { frames := 0, cells := 0, slots := 0, locals := 0 }
abbrev y_Tue_worldWithAll : MethodName := ⟨"SameTuesday", "worldWithAll", "(I)J"⟩
abbrev b_Tue_worldWithAll : ByteArray := prog_1_method_41_code
abbrev r_Tue_worldWithAll : Room := { frames := 1, cells := 0, slots := 0, locals := 20 }
abbrev y_Tue_worldWithin : MethodName := ⟨"SameTuesday", "worldWithin", "(I)J"⟩
abbrev b_Tue_worldWithin : ByteArray := prog_1_method_42_code
abbrev r_Tue_worldWithin : Room := { frames := 1, cells := 0, slots := 0, locals := 20 }
abbrev y_Tue_lesserPart : MethodName := ⟨"SameTuesday", "lesserPart", "(JI)I"⟩
abbrev b_Tue_lesserPart : ByteArray := prog_1_method_43_code
abbrev r_Tue_lesserPart : Room := { frames := 2, cells := 0, slots := 0, locals := 43 }
abbrev y_Mod_init : MethodName := ⟨"SameTuesdayModel", "<init>", "()V"⟩
abbrev b_Mod_init : ByteArray := prog_14_method_1_code
abbrev r_Mod_init : Room := { frames := 1, cells := 40, slots := 8000, locals := 20 }
abbrev y_Mod_fails : MethodName := ⟨"SameTuesdayModel", "fails", "(I)I"⟩
abbrev b_Mod_fails : ByteArray := prog_14_method_3_code
abbrev r_Mod_fails : Room := { frames := 0, cells := 0, slots := 0, locals := 0 }
abbrev y_Mod_lost : MethodName := ⟨"SameTuesdayModel", "lost", "(I)J"⟩
abbrev b_Mod_lost : ByteArray := prog_14_method_4_code
abbrev r_Mod_lost : Room := { frames := 0, cells := 0, slots := 0, locals := 0 }
abbrev y_Mod_within : MethodName := ⟨"SameTuesdayModel", "within", "(III)Z"⟩
abbrev b_Mod_within : ByteArray := prog_14_method_5_code
abbrev r_Mod_within : Room := { frames := 0, cells := 0, slots := 0, locals := 0 }
abbrev y_Mod_isSheet : MethodName := ⟨"SameTuesdayModel", "isSheet", "(I)Z"⟩
abbrev b_Mod_isSheet : ByteArray := prog_14_method_6_code
abbrev r_Mod_isSheet : Room := { frames := 1, cells := 0, slots := 0, locals := 22 }
abbrev y_Mod_isSort : MethodName := ⟨"SameTuesdayModel", "isSort", "(I)Z"⟩
abbrev b_Mod_isSort : ByteArray := prog_14_method_7_code
abbrev r_Mod_isSort : Room := { frames := 1, cells := 0, slots := 0, locals := 22 }
abbrev y_Mod_against : MethodName := ⟨"SameTuesdayModel", "against", "(IIII)I"⟩
abbrev b_Mod_against : ByteArray := prog_14_method_8_code
abbrev r_Mod_against : Room := { frames := 0, cells := 0, slots := 0, locals := 0 }
abbrev y_Mod_isHappening : MethodName := ⟨"SameTuesdayModel", "isHappening", "(I)Z"⟩
abbrev b_Mod_isHappening : ByteArray := prog_14_method_9_code
abbrev r_Mod_isHappening : Room := { frames := 0, cells := 0, slots := 0, locals := 0 }
abbrev y_Mod_isDeed : MethodName := ⟨"SameTuesdayModel", "isDeed", "(I)Z"⟩
abbrev b_Mod_isDeed : ByteArray := prog_14_method_10_code
abbrev r_Mod_isDeed : Room := { frames := 0, cells := 0, slots := 0, locals := 0 }
abbrev y_Mod_digit : MethodName := ⟨"SameTuesdayModel", "digit", "(III)I"⟩
abbrev b_Mod_digit : ByteArray := prog_14_method_11_code
abbrev r_Mod_digit : Room := { frames := 1, cells := 0, slots := 0, locals := 22 }
abbrev y_Mod_tuesday : MethodName := ⟨"SameTuesdayModel", "tuesday", "(IIII)I"⟩
abbrev b_Mod_tuesday : ByteArray := prog_14_method_12_code
abbrev r_Mod_tuesday : Room := { frames := 4, cells := 0, slots := 0, locals := 91 }
abbrev y_Mod_isSign : MethodName := ⟨"SameTuesdayModel", "isSign", "(II)Z"⟩
abbrev b_Mod_isSign : ByteArray := prog_14_method_13_code
abbrev r_Mod_isSign : Room := { frames := 0, cells := 0, slots := 0, locals := 0 }
abbrev y_Mod_readDay : MethodName := ⟨"SameTuesdayModel", "readDay", "(I)Z"⟩
abbrev b_Mod_readDay : ByteArray := prog_14_method_14_code
abbrev r_Mod_readDay : Room := { frames := 3, cells := 0, slots := 0, locals := 70 }
abbrev y_Mod_readHappening : MethodName := ⟨"SameTuesdayModel", "readHappening", "(I)Z"⟩
abbrev b_Mod_readHappening : ByteArray := prog_14_method_15_code
abbrev r_Mod_readHappening : Room := { frames := 2, cells := 0, slots := 0, locals := 45 }
abbrev y_Mod_readOneDeed : MethodName := ⟨"SameTuesdayModel", "readOneDeed", "(I)Z"⟩
abbrev b_Mod_readOneDeed : ByteArray := prog_14_method_16_code
abbrev r_Mod_readOneDeed : Room := { frames := 2, cells := 0, slots := 0, locals := 45 }
abbrev y_Mod_ofHappening : MethodName := ⟨"SameTuesdayModel", "ofHappening", "(II)I"⟩
abbrev b_Mod_ofHappening : ByteArray := prog_14_method_17_code
abbrev r_Mod_ofHappening : Room := { frames := 1, cells := 0, slots := 0, locals := 21 }
abbrev y_Mod_ofDeed : MethodName := ⟨"SameTuesdayModel", "ofDeed", "(II)I"⟩
abbrev b_Mod_ofDeed : ByteArray := prog_14_method_18_code
abbrev r_Mod_ofDeed : Room := { frames := 1, cells := 0, slots := 0, locals := 21 }
abbrev y_Mod_minutes : MethodName := ⟨"SameTuesdayModel", "minutes", "(I)I"⟩
abbrev b_Mod_minutes : ByteArray := prog_14_method_19_code
abbrev r_Mod_minutes : Room := { frames := 1, cells := 0, slots := 0, locals := 22 }
abbrev y_Mod_shift : MethodName := ⟨"SameTuesdayModel", "shift", "(II)I"⟩
abbrev b_Mod_shift : ByteArray := prog_14_method_20_code
abbrev r_Mod_shift : Room := { frames := 1, cells := 0, slots := 0, locals := 22 }
abbrev y_Mod_isMet : MethodName := ⟨"SameTuesdayModel", "isMet", "(II)Z"⟩
abbrev b_Mod_isMet : ByteArray := prog_14_method_21_code
abbrev r_Mod_isMet : Room := { frames := 0, cells := 0, slots := 0, locals := 0 }
abbrev y_Mod_happen : MethodName := ⟨"SameTuesdayModel", "happen", "(III)I"⟩
abbrev b_Mod_happen : ByteArray := prog_14_method_22_code
abbrev r_Mod_happen : Room := { frames := 1, cells := 0, slots := 0, locals := 21 }
abbrev y_Mod_done : MethodName := ⟨"SameTuesdayModel", "done", "(II)I"⟩
abbrev b_Mod_done : ByteArray := prog_14_method_23_code
abbrev r_Mod_done : Room := { frames := 0, cells := 0, slots := 0, locals := 0 }
abbrev y_Mod_mayBegin : MethodName := ⟨"SameTuesdayModel", "mayBegin", "(III)Z"⟩
abbrev b_Mod_mayBegin : ByteArray := prog_14_method_24_code
abbrev r_Mod_mayBegin : Room := { frames := 1, cells := 0, slots := 0, locals := 21 }
abbrev y_Mod_pairIn : MethodName := ⟨"SameTuesdayModel", "pairIn", "(I)I"⟩
abbrev b_Mod_pairIn : ByteArray := prog_14_method_25_code
abbrev r_Mod_pairIn : Room := { frames := 0, cells := 0, slots := 0, locals := 0 }
abbrev y_Mod_goTo : MethodName := ⟨"SameTuesdayModel", "goTo", "(II)I"⟩
abbrev b_Mod_goTo : ByteArray := prog_14_method_26_code
abbrev r_Mod_goTo : Room := { frames := 2, cells := 0, slots := 0, locals := 47 }
abbrev y_Mod_ends : MethodName := ⟨"SameTuesdayModel", "ends", "(I)I"⟩
abbrev b_Mod_ends : ByteArray := prog_14_method_27_code
abbrev r_Mod_ends : Room := { frames := 3, cells := 0, slots := 0, locals := 74 }
abbrev y_Mod_layRow : MethodName := ⟨"SameTuesdayModel", "layRow", "(IIII)I"⟩
abbrev b_Mod_layRow : ByteArray := prog_14_method_28_code
abbrev r_Mod_layRow : Room := { frames := 1, cells := 0, slots := 0, locals := 24 }
abbrev y_Mod_arePairs : MethodName := ⟨"SameTuesdayModel", "arePairs", "(II)Z"⟩
abbrev b_Mod_arePairs : ByteArray := prog_14_method_29_code
abbrev r_Mod_arePairs : Room := { frames := 2, cells := 0, slots := 0, locals := 42 }
abbrev y_Mod_live : MethodName := ⟨"SameTuesdayModel", "live", "(IIIII)I"⟩
abbrev b_Mod_live : ByteArray := prog_14_method_30_code
abbrev r_Mod_live : Room := { frames := 4, cells := 0, slots := 0, locals := 95 }
abbrev y_Mod_at : MethodName := ⟨"SameTuesdayModel", "at", "(IIIII)I"⟩
abbrev b_Mod_at : ByteArray := prog_14_method_31_code
abbrev r_Mod_at : Room := { frames := 3, cells := 0, slots := 0, locals := 74 }
abbrev y_Mod_hangs : MethodName := ⟨"SameTuesdayModel", "hangs", "(IIII)I"⟩
abbrev b_Mod_hangs : ByteArray := prog_14_method_32_code
abbrev r_Mod_hangs : Room := { frames := 4, cells := 0, slots := 0, locals := 95 }
abbrev y_Mod_place : MethodName := ⟨"SameTuesdayModel", "place", "(III)I"⟩
abbrev b_Mod_place : ByteArray := prog_14_method_33_code
abbrev r_Mod_place : Room := { frames := 0, cells := 0, slots := 0, locals := 0 }
abbrev y_Mod_happenIdle : MethodName := ⟨"SameTuesdayModel", "happenIdle", "(I)V"⟩
abbrev b_Mod_happenIdle : ByteArray := prog_14_method_34_code
abbrev r_Mod_happenIdle : Room := { frames := 2, cells := 0, slots := 0, locals := 47 }
abbrev y_Mod_happenBusy : MethodName := ⟨"SameTuesdayModel", "happenBusy", "(II)V"⟩
abbrev b_Mod_happenBusy : ByteArray := prog_14_method_35_code
abbrev r_Mod_happenBusy : Room := { frames := 2, cells := 0, slots := 0, locals := 47 }
abbrev y_Mod_endDeeds : MethodName := ⟨"SameTuesdayModel", "endDeeds", "(I)V"⟩
abbrev b_Mod_endDeeds : ByteArray := prog_14_method_36_code
abbrev r_Mod_endDeeds : Room := { frames := 1, cells := 0, slots := 0, locals := 23 }
abbrev y_Mod_beginDeeds : MethodName := ⟨"SameTuesdayModel", "beginDeeds", "(I)V"⟩
abbrev b_Mod_beginDeeds : ByteArray := prog_14_method_37_code
abbrev r_Mod_beginDeeds : Room := { frames := 2, cells := 0, slots := 0, locals := 44 }
abbrev y_Mod_beginStates : MethodName := ⟨"SameTuesdayModel", "beginStates", "()V"⟩
abbrev b_Mod_beginStates : ByteArray := prog_14_method_38_code
abbrev r_Mod_beginStates : Room := { frames := 0, cells := 0, slots := 0, locals := 0 }
abbrev y_Mod_goMinute : MethodName := ⟨"SameTuesdayModel", "goMinute", "(I)V"⟩
abbrev b_Mod_goMinute : ByteArray := prog_14_method_39_code
abbrev r_Mod_goMinute : Room := { frames := 3, cells := 0, slots := 0, locals := 70 }
abbrev y_Mod_layCanBe : MethodName := ⟨"SameTuesdayModel", "layCanBe", "()V"⟩
abbrev b_Mod_layCanBe : ByteArray := prog_14_method_40_code
abbrev r_Mod_layCanBe : Room := { frames := 0, cells := 0, slots := 0, locals := 0 }
abbrev y_Mod_goStates : MethodName := ⟨"SameTuesdayModel", "goStates", "(I)V"⟩
abbrev b_Mod_goStates : ByteArray := prog_14_method_41_code
abbrev r_Mod_goStates : Room := { frames := 4, cells := 0, slots := 0, locals := 92 }
abbrev y_Mod_isSet : MethodName := ⟨"SameTuesdayModel", "isSet", "(I)Z"⟩
abbrev b_Mod_isSet : ByteArray := prog_14_method_42_code
abbrev r_Mod_isSet : Room := { frames := 1, cells := 0, slots := 0, locals := 22 }
abbrev y_Mod_can : MethodName := ⟨"SameTuesdayModel", "can", "(II)I"⟩
abbrev b_Mod_can : ByteArray := prog_14_method_43_code
abbrev r_Mod_can : Room := { frames := 5, cells := 0, slots := 0, locals := 114 }
abbrev y_Mod_isWithinOne : MethodName := ⟨"SameTuesdayModel", "isWithinOne", "(I)Z"⟩
abbrev b_Mod_isWithinOne : ByteArray := prog_14_method_44_code
abbrev r_Mod_isWithinOne : Room := { frames := 0, cells := 0, slots := 0, locals := 0 }
abbrev y_Mod_soonest : MethodName := ⟨"SameTuesdayModel", "soonest", "(I)I"⟩
abbrev b_Mod_soonest : ByteArray := prog_14_method_45_code
abbrev r_Mod_soonest : Room := { frames := 4, cells := 0, slots := 0, locals := 92 }
abbrev y_Mod_bar : MethodName := ⟨"SameTuesdayModel", "bar", "(I)I"⟩
abbrev b_Mod_bar : ByteArray := prog_14_method_46_code
abbrev r_Mod_bar : Room := { frames := 5, cells := 0, slots := 0, locals := 114 }
abbrev y_Mod_day : MethodName := ⟨"SameTuesdayModel", "day", "(I)I"⟩
abbrev b_Mod_day : ByteArray := prog_14_method_47_code
abbrev r_Mod_day : Room := { frames := 2, cells := 0, slots := 0, locals := 42 }
abbrev y_Mod_forget : MethodName := ⟨"SameTuesdayModel", "forget", "(I)I"⟩
abbrev b_Mod_forget : ByteArray := prog_14_method_48_code
abbrev r_Mod_forget : Room := { frames := 1, cells := 0, slots := 0, locals := 22 }
abbrev y_Mod_isLaw : MethodName := ⟨"SameTuesdayModel", "isLaw", "(I)Z"⟩
abbrev b_Mod_isLaw : ByteArray := prog_14_method_49_code
abbrev r_Mod_isLaw : Room := { frames := 0, cells := 0, slots := 0, locals := 0 }
abbrev y_Mod_laws : MethodName := ⟨"SameTuesdayModel", "laws", "(I)I"⟩
abbrev b_Mod_laws : ByteArray := prog_14_method_50_code
abbrev r_Mod_laws : Room := { frames := 1, cells := 0, slots := 0, locals := 22 }
abbrev y_Mod_size : MethodName := ⟨"SameTuesdayModel", "size", "(I)I"⟩
abbrev b_Mod_size : ByteArray := prog_14_method_51_code
abbrev r_Mod_size : Room := { frames := 0, cells := 0, slots := 0, locals := 0 }
abbrev y_Mod_fewest : MethodName := ⟨"SameTuesdayModel", "fewest", "()I"⟩
abbrev b_Mod_fewest : ByteArray := prog_14_method_52_code
abbrev r_Mod_fewest : Room := { frames := 1, cells := 0, slots := 0, locals := 22 }
abbrev y_Mod_parted : MethodName := ⟨"SameTuesdayModel", "parted", "(I)I"⟩
abbrev b_Mod_parted : ByteArray := prog_14_method_53_code
abbrev r_Mod_parted : Room := { frames := 1, cells := 0, slots := 0, locals := 22 }
abbrev y_Mod_next : MethodName := ⟨"SameTuesdayModel", "next", "(I)I"⟩
abbrev b_Mod_next : ByteArray := prog_14_method_54_code
abbrev r_Mod_next : Room := { frames := 5, cells := 0, slots := 0, locals := 114 }
abbrev y_Mod_others : MethodName := ⟨"SameTuesdayModel", "others", "(IIIIII)I"⟩
abbrev b_Mod_others : ByteArray := prog_14_method_55_code
abbrev r_Mod_others : Room := { frames := 4, cells := 0, slots := 0, locals := 95 }
abbrev y_Mod_inLeastTerms : MethodName := ⟨"SameTuesdayModel", "inLeastTerms", "(JJI)J"⟩
abbrev b_Mod_inLeastTerms : ByteArray := prog_14_method_56_code
abbrev r_Mod_inLeastTerms : Room := { frames := 0, cells := 0, slots := 0, locals := 0 }
abbrev y_Mod_odds : MethodName := ⟨"SameTuesdayModel", "odds", "(IIIIII)J"⟩
abbrev b_Mod_odds : ByteArray := prog_14_method_57_code
abbrev r_Mod_odds : Room := { frames := 4, cells := 0, slots := 0, locals := 95 }
abbrev y_Mod_sheet : MethodName := ⟨"SameTuesdayModel", "sheet", "(III)I"⟩
abbrev b_Mod_sheet : ByteArray := prog_14_method_58_code
abbrev r_Mod_sheet : Room := { frames := 2, cells := 0, slots := 0, locals := 42 }
abbrev y_Mod_lose : MethodName := ⟨"SameTuesdayModel", "lose", "(I)I"⟩
abbrev b_Mod_lose : ByteArray := prog_14_method_59_code
abbrev r_Mod_lose : Room := { frames := 2, cells := 0, slots := 0, locals := 42 }
abbrev y_Mod_put : MethodName := ⟨"SameTuesdayModel", "put", "(III)I"⟩
abbrev b_Mod_put : ByteArray := prog_14_method_60_code
abbrev r_Mod_put : Room := { frames := 2, cells := 0, slots := 0, locals := 42 }
abbrev y_Mod_cell : MethodName := ⟨"SameTuesdayModel", "cell", "(III)J"⟩
abbrev b_Mod_cell : ByteArray := prog_14_method_61_code
abbrev r_Mod_cell : Room := { frames := 2, cells := 0, slots := 0, locals := 42 }
abbrev y_Mod_copy : MethodName := ⟨"SameTuesdayModel", "copy", "(IIIII)I"⟩
abbrev b_Mod_copy : ByteArray := prog_14_method_62_code
abbrev r_Mod_copy : Room := { frames := 2, cells := 0, slots := 0, locals := 42 }
abbrev y_Mod_begins : MethodName := ⟨"SameTuesdayModel", "begins", "(I)V"⟩
abbrev b_Mod_begins : ByteArray := prog_14_method_63_code
abbrev r_Mod_begins : Room := { frames := 0, cells := 0, slots := 0, locals := 0 }
abbrev y_Mod_tell : MethodName := ⟨"SameTuesdayModel", "tell", "(I)I"⟩
abbrev b_Mod_tell : ByteArray := prog_14_method_64_code
abbrev r_Mod_tell : Room := { frames := 1, cells := 0, slots := 0, locals := 21 }
abbrev y_Mod_rhyme : MethodName := ⟨"SameTuesdayModel", "rhyme", "(I)I"⟩
abbrev b_Mod_rhyme : ByteArray := prog_14_method_65_code
abbrev r_Mod_rhyme : Room := { frames := 1, cells := 0, slots := 0, locals := 21 }
abbrev y_Mod_as : MethodName := ⟨"SameTuesdayModel", "as", "(II)I"⟩
abbrev b_Mod_as : ByteArray := prog_14_method_66_code
abbrev r_Mod_as : Room := { frames := 1, cells := 0, slots := 0, locals := 22 }
abbrev y_Mod_trace : MethodName := ⟨"SameTuesdayModel", "trace", "()I"⟩
abbrev b_Mod_trace : ByteArray := prog_14_method_67_code
abbrev r_Mod_trace : Room := { frames := 0, cells := 0, slots := 0, locals := 0 }
abbrev y_Mod_fault : MethodName := ⟨"SameTuesdayModel", "fault", "()I"⟩
abbrev b_Mod_fault : ByteArray := prog_14_method_68_code
abbrev r_Mod_fault : Room := { frames := 0, cells := 0, slots := 0, locals := 0 }
abbrev y_Mod_many : MethodName := ⟨"SameTuesdayModel", "many", "(I)I"⟩
abbrev b_Mod_many : ByteArray := prog_14_method_69_code
abbrev r_Mod_many : Room := { frames := 0, cells := 0, slots := 0, locals := 0 }
abbrev y_JInt_numberOfTrailingZeros : MethodName := ⟨"java/lang/Integer", "numberOfTrailingZeros", "(I)I"⟩
abbrev b_JInt_numberOfTrailingZeros : ByteArray := prog_15_method_48_code
abbrev r_JInt_numberOfTrailingZeros : Room := { frames := 0, cells := 0, slots := 0, locals := 0 }
abbrev y_JInt_bitCount : MethodName := ⟨"java/lang/Integer", "bitCount", "(I)I"⟩
abbrev b_JInt_bitCount : ByteArray := prog_15_method_49_code
abbrev r_JInt_bitCount : Room := { frames := 0, cells := 0, slots := 0, locals := 0 }
abbrev y_JLong_numberOfTrailingZeros : MethodName := ⟨"java/lang/Long", "numberOfTrailingZeros", "(J)I"⟩
abbrev b_JLong_numberOfTrailingZeros : ByteArray := prog_16_method_49_code
abbrev r_JLong_numberOfTrailingZeros : Room := { frames := 1, cells := 0, slots := 0, locals := 21 }
abbrev y_JLong_bitCount : MethodName := ⟨"java/lang/Long", "bitCount", "(J)I"⟩
abbrev b_JLong_bitCount : ByteArray := prog_16_method_50_code
abbrev r_JLong_bitCount : Room := { frames := 0, cells := 0, slots := 0, locals := 0 }
abbrev y_LawX_law : MethodName := ⟨"SameTuesdayLaw", "law", "([I)Z"⟩
abbrev b_LawX_law : ByteArray := code
set_option maxRecDepth 20000 in
theorem f_Cap_7_0 : zb_FL "SameTuesday$Caprice" 7 0 3 := ⟨"SameTuesday$Caprice", zF_Cap, 6, "SameTuesday$Caprice", rfl, by decide, zi_Cap, zb_mem 361 rfl rfl, Or.inr (zb_mem 362 rfl rfl)⟩
set_option maxRecDepth 20000 in
theorem f_Cap_13_0 : zb_FL "SameTuesday$Caprice" 13 0 4 := ⟨"SameTuesday$Caprice", zF_Cap, 6, "SameTuesday$Caprice", rfl, by decide, zi_Cap, zb_mem 366 rfl rfl, Or.inr (zb_mem 367 rfl rfl)⟩
set_option maxRecDepth 20000 in
theorem f_Cap_18_0 : zb_FL "SameTuesday$Caprice" 18 0 2 := ⟨"SameTuesday$Caprice", zF_Cap, 6, "SameTuesday$Caprice", rfl, by decide, zi_Cap, zb_mem 357 rfl rfl, Or.inr (zb_mem 358 rfl rfl)⟩
set_option maxRecDepth 20000 in
theorem l_Cap_1 : zl_I "SameTuesday$Caprice" 1 y_Mis_init b_Mis_init 5 4 := ⟨⟨zb_mem 391 rfl rfl, zb_mem 61 rfl rfl, zb_mem 340 rfl rfl, by decide, by decide +kernel⟩, rfl, zb_mem 339 rfl rfl⟩
set_option maxRecDepth 20000 in
theorem l_Cap_22 : zl_V "SameTuesday$Caprice" 22 y_Trc_leave b_Trc_leave 2 none 1 := ⟨⟨zb_mem 843 rfl rfl, zb_mem 56 rfl rfl, zb_mem 846 rfl rfl, by decide, by decide +kernel⟩, zb_mem 844 rfl rfl, zb_mem 845 rfl rfl⟩
theorem d_Cap_init_0 : zd_l .aload_n .aload b_Cap_init 0 0 1 := Or.inl ⟨0, rfl, by decide +kernel, rfl⟩
theorem d_Cap_init_1 : zd_l .iload_n .iload b_Cap_init 1 1 2 := Or.inl ⟨1, rfl, by decide +kernel, rfl⟩
theorem d_Cap_init_2 : zd_l .iload_n .iload b_Cap_init 2 2 3 := Or.inl ⟨2, rfl, by decide +kernel, rfl⟩
theorem d_Cap_init_3 : zd_l .iload_n .iload b_Cap_init 3 3 4 := Or.inl ⟨3, rfl, by decide +kernel, rfl⟩
theorem d_Cap_init_4 : zd_l .iload_n .iload b_Cap_init 4 4 6 := Or.inr ⟨by decide +kernel, rfl⟩
theorem d_Cap_init_6 : zd b_Cap_init 6 (.invokespecial 1) 3 9 := ⟨by decide +kernel, rfl⟩
theorem d_Cap_init_9 : zd b_Cap_init 9 .return_ 1 10 := ⟨by decide +kernel, rfl⟩
theorem d_Cap_kind_0 : zd_k b_Cap_kind "SameTuesday$Caprice" 0 2 1 := Or.inl ⟨2, by decide +kernel, by decide, rfl⟩
theorem d_Cap_kind_1 : zd b_Cap_kind 1 .ireturn 1 2 := ⟨by decide +kernel, rfl⟩
theorem d_Cap_after_0 : zd_l .lload_n .lload b_Cap_after 0 1 1 := Or.inl ⟨1, rfl, by decide +kernel, rfl⟩
theorem d_Cap_after_1 : zd_l .aload_n .aload b_Cap_after 1 0 2 := Or.inl ⟨0, rfl, by decide +kernel, rfl⟩
theorem d_Cap_after_2 : zd b_Cap_after 2 (.getfield 7) 3 5 := ⟨by decide +kernel, rfl⟩
theorem d_Cap_after_5 : zd b_Cap_after 5 .land 1 6 := ⟨by decide +kernel, rfl⟩
theorem d_Cap_after_6 : zd_l .aload_n .aload b_Cap_after 6 0 7 := Or.inl ⟨0, rfl, by decide +kernel, rfl⟩
theorem d_Cap_after_7 : zd b_Cap_after 7 (.getfield 13) 3 10 := ⟨by decide +kernel, rfl⟩
set_option maxRecDepth 20000 in
theorem d_Cap_after_10 : zd_kl b_Cap_after "SameTuesday$Caprice" 10 (-1) 13 := Or.inr ⟨16, by decide +kernel, zb_mem 561 rfl rfl, rfl⟩
theorem d_Cap_after_13 : zd b_Cap_after 13 .lxor 1 14 := ⟨by decide +kernel, rfl⟩
theorem d_Cap_after_14 : zd b_Cap_after 14 .land 1 15 := ⟨by decide +kernel, rfl⟩
theorem d_Cap_after_15 : zd_l .lstore_n .lstore b_Cap_after 15 3 16 := Or.inl ⟨3, rfl, by decide +kernel, rfl⟩
theorem d_Cap_after_16 : zd_l .lload_n .lload b_Cap_after 16 1 17 := Or.inl ⟨1, rfl, by decide +kernel, rfl⟩
theorem d_Cap_after_17 : zd_l .aload_n .aload b_Cap_after 17 0 18 := Or.inl ⟨0, rfl, by decide +kernel, rfl⟩
theorem d_Cap_after_18 : zd b_Cap_after 18 (.getfield 7) 3 21 := ⟨by decide +kernel, rfl⟩
theorem d_Cap_after_21 : zd b_Cap_after 21 .land 1 22 := ⟨by decide +kernel, rfl⟩
theorem d_Cap_after_22 : zd_l .aload_n .aload b_Cap_after 22 0 23 := Or.inl ⟨0, rfl, by decide +kernel, rfl⟩
theorem d_Cap_after_23 : zd b_Cap_after 23 (.getfield 13) 3 26 := ⟨by decide +kernel, rfl⟩
theorem d_Cap_after_26 : zd b_Cap_after 26 .land 1 27 := ⟨by decide +kernel, rfl⟩
theorem d_Cap_after_27 : zd_l .lstore_n .lstore b_Cap_after 27 5 29 := Or.inr ⟨by decide +kernel, rfl⟩
theorem d_Cap_after_29 : zd_l .lload_n .lload b_Cap_after 29 1 30 := Or.inl ⟨1, rfl, by decide +kernel, rfl⟩
theorem d_Cap_after_30 : zd_l .aload_n .aload b_Cap_after 30 0 31 := Or.inl ⟨0, rfl, by decide +kernel, rfl⟩
theorem d_Cap_after_31 : zd b_Cap_after 31 (.getfield 7) 3 34 := ⟨by decide +kernel, rfl⟩
set_option maxRecDepth 20000 in
theorem d_Cap_after_34 : zd_kl b_Cap_after "SameTuesday$Caprice" 34 (-1) 37 := Or.inr ⟨16, by decide +kernel, zb_mem 561 rfl rfl, rfl⟩
theorem d_Cap_after_37 : zd b_Cap_after 37 .lxor 1 38 := ⟨by decide +kernel, rfl⟩
theorem d_Cap_after_38 : zd b_Cap_after 38 .land 1 39 := ⟨by decide +kernel, rfl⟩
theorem d_Cap_after_39 : zd_l .lload_n .lload b_Cap_after 39 3 40 := Or.inl ⟨3, rfl, by decide +kernel, rfl⟩
theorem d_Cap_after_40 : zd_k b_Cap_after "SameTuesday$Caprice" 40 1 41 := Or.inl ⟨1, by decide +kernel, by decide, rfl⟩
theorem d_Cap_after_41 : zd_l .aload_n .aload b_Cap_after 41 0 42 := Or.inl ⟨0, rfl, by decide +kernel, rfl⟩
theorem d_Cap_after_42 : zd b_Cap_after 42 (.getfield 18) 3 45 := ⟨by decide +kernel, rfl⟩
theorem d_Cap_after_45 : zd b_Cap_after 45 .ishl 1 46 := ⟨by decide +kernel, rfl⟩
theorem d_Cap_after_46 : zd b_Cap_after 46 .lshl 1 47 := ⟨by decide +kernel, rfl⟩
theorem d_Cap_after_47 : zd b_Cap_after 47 .lor 1 48 := ⟨by decide +kernel, rfl⟩
theorem d_Cap_after_48 : zd_l .lload_n .lload b_Cap_after 48 5 50 := Or.inr ⟨by decide +kernel, rfl⟩
theorem d_Cap_after_50 : zd_k b_Cap_after "SameTuesday$Caprice" 50 1 51 := Or.inl ⟨1, by decide +kernel, by decide, rfl⟩
theorem d_Cap_after_51 : zd_l .aload_n .aload b_Cap_after 51 0 52 := Or.inl ⟨0, rfl, by decide +kernel, rfl⟩
theorem d_Cap_after_52 : zd b_Cap_after 52 (.getfield 18) 3 55 := ⟨by decide +kernel, rfl⟩
theorem d_Cap_after_55 : zd b_Cap_after 55 .ishl 1 56 := ⟨by decide +kernel, rfl⟩
theorem d_Cap_after_56 : zd b_Cap_after 56 .lushr 1 57 := ⟨by decide +kernel, rfl⟩
theorem d_Cap_after_57 : zd b_Cap_after 57 .lor 1 58 := ⟨by decide +kernel, rfl⟩
theorem d_Cap_after_58 : zd b_Cap_after 58 .lreturn 1 59 := ⟨by decide +kernel, rfl⟩
theorem d_Cap_telling_0 : zd_l .aload_n .aload b_Cap_telling 0 1 1 := Or.inl ⟨1, rfl, by decide +kernel, rfl⟩
theorem d_Cap_telling_1 : zd_k b_Cap_telling "SameTuesday$Caprice" 1 3 2 := Or.inl ⟨3, by decide +kernel, by decide, rfl⟩
theorem d_Cap_telling_2 : zd b_Cap_telling 2 (.invokevirtual 22) 3 5 := ⟨by decide +kernel, rfl⟩
theorem d_Cap_telling_5 : zd_l .aload_n .aload b_Cap_telling 5 0 6 := Or.inl ⟨0, rfl, by decide +kernel, rfl⟩
theorem d_Cap_telling_6 : zd_l .aload_n .aload b_Cap_telling 6 1 7 := Or.inl ⟨1, rfl, by decide +kernel, rfl⟩
theorem d_Cap_telling_7 : zd b_Cap_telling 7 (.invokespecial 28) 3 10 := ⟨by decide +kernel, rfl⟩
theorem d_Cap_telling_10 : zd_l .istore_n .istore b_Cap_telling 10 2 11 := Or.inl ⟨2, rfl, by decide +kernel, rfl⟩
theorem d_Cap_telling_11 : zd_l .iload_n .iload b_Cap_telling 11 2 12 := Or.inl ⟨2, rfl, by decide +kernel, rfl⟩
theorem d_Cap_telling_12 : zd_l .aload_n .aload b_Cap_telling 12 0 13 := Or.inl ⟨0, rfl, by decide +kernel, rfl⟩
theorem d_Cap_telling_13 : zd_l .aload_n .aload b_Cap_telling 13 1 14 := Or.inl ⟨1, rfl, by decide +kernel, rfl⟩
theorem d_Cap_telling_14 : zd b_Cap_telling 14 (.invokevirtual 32) 3 17 := ⟨by decide +kernel, rfl⟩
theorem d_Cap_telling_17 : zd b_Cap_telling 17 .iadd 1 18 := ⟨by decide +kernel, rfl⟩
theorem d_Cap_telling_18 : zd b_Cap_telling 18 .ireturn 1 19 := ⟨by decide +kernel, rfl⟩
theorem d_Cap_rhymed_0 : zd_l .aload_n .aload b_Cap_rhymed 0 1 1 := Or.inl ⟨1, rfl, by decide +kernel, rfl⟩
theorem d_Cap_rhymed_1 : zd_k b_Cap_rhymed "SameTuesday$Caprice" 1 5 2 := Or.inl ⟨5, by decide +kernel, by decide, rfl⟩
theorem d_Cap_rhymed_2 : zd b_Cap_rhymed 2 (.invokevirtual 22) 3 5 := ⟨by decide +kernel, rfl⟩
theorem d_Cap_rhymed_5 : zd_k b_Cap_rhymed "SameTuesday$Caprice" 5 40 7 := Or.inr (Or.inl ⟨40, by decide +kernel, by decide, rfl⟩)
theorem d_Cap_rhymed_7 : zd b_Cap_rhymed 7 .ireturn 1 8 := ⟨by decide +kernel, rfl⟩
set_option maxRecDepth 20000 in
theorem p_Deed_9_1 : zb_PF "SameTuesday$Deed" 9 1 0 .int := ⟨"SameTuesday$Deed", zF_Deed, 5, "SameTuesday$Deed", zt_Deed, rfl, by decide, zi_Deed, zb_mem 424 rfl rfl, Or.inl rfl, zk_Deed, zn_Deed, rfl, rfl, rfl⟩
set_option maxRecDepth 20000 in
theorem f_Deed_15_1 : zb_FL "SameTuesday$Deed" 15 1 1 := ⟨"SameTuesday$Deed", zF_Deed, 5, "SameTuesday$Deed", rfl, by decide, zi_Deed, zb_mem 426 rfl rfl, Or.inl rfl⟩
set_option maxRecDepth 20000 in
theorem p_Deed_15_1 : zb_PF "SameTuesday$Deed" 15 1 1 .int := ⟨"SameTuesday$Deed", zF_Deed, 5, "SameTuesday$Deed", zt_Deed, rfl, by decide, zi_Deed, zb_mem 426 rfl rfl, Or.inl rfl, zk_Deed, zn_Deed, rfl, rfl, rfl⟩
set_option maxRecDepth 20000 in
theorem f_Deed_18_1 : zb_FL "SameTuesday$Deed" 18 1 2 := ⟨"SameTuesday$Deed", zF_Deed, 5, "SameTuesday$Deed", rfl, by decide, zi_Deed, zb_mem 428 rfl rfl, Or.inl rfl⟩
set_option maxRecDepth 20000 in
theorem p_Deed_18_1 : zb_PF "SameTuesday$Deed" 18 1 2 .int := ⟨"SameTuesday$Deed", zF_Deed, 5, "SameTuesday$Deed", zt_Deed, rfl, by decide, zi_Deed, zb_mem 428 rfl rfl, Or.inl rfl, zk_Deed, zn_Deed, rfl, rfl, rfl⟩
set_option maxRecDepth 20000 in
theorem p_Deed_21_1 : zb_PF "SameTuesday$Deed" 21 1 3 .int := ⟨"SameTuesday$Deed", zF_Deed, 5, "SameTuesday$Deed", zt_Deed, rfl, by decide, zi_Deed, zb_mem 430 rfl rfl, Or.inl rfl, zk_Deed, zn_Deed, rfl, rfl, rfl⟩
set_option maxRecDepth 20000 in
theorem p_Deed_28_1 : zb_PF "SameTuesday$Deed" 28 1 4 .long := ⟨"SameTuesday$Deed", zF_Deed, 5, "SameTuesday$Deed", zt_Deed, rfl, by decide, zi_Deed, zb_mem 435 rfl rfl, Or.inl rfl, zk_Deed, zn_Deed, rfl, rfl, rfl⟩
set_option maxRecDepth 20000 in
theorem l_Deed_24 : zl_N "SameTuesday$Deed" 24 y_Tue_worldWith "SameTuesday" b_Tue_worldWith 1 (some .long) 1 := ⟨List.mem_of_getElem? (i := 1) rfl, zb_mem 50 rfl rfl, zb_mem 347 rfl rfl, by decide, by decide +kernel, zb_mem 346 rfl rfl⟩
theorem d_Deed_init_0 : zd_l .aload_n .aload b_Deed_init 0 0 1 := Or.inl ⟨0, rfl, by decide +kernel, rfl⟩
theorem d_Deed_init_1 : zd b_Deed_init 1 (.invokespecial 3) 3 4 := ⟨by decide +kernel, rfl⟩
theorem d_Deed_init_4 : zd_l .aload_n .aload b_Deed_init 4 0 5 := Or.inl ⟨0, rfl, by decide +kernel, rfl⟩
theorem d_Deed_init_5 : zd_l .iload_n .iload b_Deed_init 5 1 6 := Or.inl ⟨1, rfl, by decide +kernel, rfl⟩
theorem d_Deed_init_6 : zd b_Deed_init 6 (.putfield 9) 3 9 := ⟨by decide +kernel, rfl⟩
theorem d_Deed_init_9 : zd_l .aload_n .aload b_Deed_init 9 0 10 := Or.inl ⟨0, rfl, by decide +kernel, rfl⟩
theorem d_Deed_init_10 : zd_l .iload_n .iload b_Deed_init 10 2 11 := Or.inl ⟨2, rfl, by decide +kernel, rfl⟩
theorem d_Deed_init_11 : zd b_Deed_init 11 (.putfield 15) 3 14 := ⟨by decide +kernel, rfl⟩
theorem d_Deed_init_14 : zd_l .aload_n .aload b_Deed_init 14 0 15 := Or.inl ⟨0, rfl, by decide +kernel, rfl⟩
theorem d_Deed_init_15 : zd_l .iload_n .iload b_Deed_init 15 3 16 := Or.inl ⟨3, rfl, by decide +kernel, rfl⟩
theorem d_Deed_init_16 : zd b_Deed_init 16 (.putfield 18) 3 19 := ⟨by decide +kernel, rfl⟩
theorem d_Deed_init_19 : zd_l .aload_n .aload b_Deed_init 19 0 20 := Or.inl ⟨0, rfl, by decide +kernel, rfl⟩
theorem d_Deed_init_20 : zd_l .iload_n .iload b_Deed_init 20 4 22 := Or.inr ⟨by decide +kernel, rfl⟩
theorem d_Deed_init_22 : zd b_Deed_init 22 (.putfield 21) 3 25 := ⟨by decide +kernel, rfl⟩
theorem d_Deed_init_25 : zd_l .aload_n .aload b_Deed_init 25 0 26 := Or.inl ⟨0, rfl, by decide +kernel, rfl⟩
theorem d_Deed_init_26 : zd_l .iload_n .iload b_Deed_init 26 1 27 := Or.inl ⟨1, rfl, by decide +kernel, rfl⟩
theorem d_Deed_init_27 : zd b_Deed_init 27 (.invokestatic 24) 3 30 := ⟨by decide +kernel, rfl⟩
theorem d_Deed_init_30 : zd b_Deed_init 30 (.putfield 28) 3 33 := ⟨by decide +kernel, rfl⟩
theorem d_Deed_init_33 : zd b_Deed_init 33 .return_ 1 34 := ⟨by decide +kernel, rfl⟩
theorem d_Deed_after_0 : zd_l .lload_n .lload b_Deed_after 0 1 1 := Or.inl ⟨1, rfl, by decide +kernel, rfl⟩
theorem d_Deed_after_1 : zd_l .aload_n .aload b_Deed_after 1 0 2 := Or.inl ⟨0, rfl, by decide +kernel, rfl⟩
theorem d_Deed_after_2 : zd b_Deed_after 2 (.getfield 15) 3 5 := ⟨by decide +kernel, rfl⟩
theorem d_Deed_after_5 : zd b_Deed_after 5 (.invokestatic 24) 3 8 := ⟨by decide +kernel, rfl⟩
set_option maxRecDepth 20000 in
theorem d_Deed_after_8 : zd_kl b_Deed_after "SameTuesday$Deed" 8 (-1) 11 := Or.inr ⟨32, by decide +kernel, zb_mem 576 rfl rfl, rfl⟩
theorem d_Deed_after_11 : zd b_Deed_after 11 .lxor 1 12 := ⟨by decide +kernel, rfl⟩
theorem d_Deed_after_12 : zd b_Deed_after 12 .land 1 13 := ⟨by decide +kernel, rfl⟩
theorem d_Deed_after_13 : zd_l .lstore_n .lstore b_Deed_after 13 3 14 := Or.inl ⟨3, rfl, by decide +kernel, rfl⟩
theorem d_Deed_after_14 : zd_l .lload_n .lload b_Deed_after 14 1 15 := Or.inl ⟨1, rfl, by decide +kernel, rfl⟩
theorem d_Deed_after_15 : zd_l .lload_n .lload b_Deed_after 15 3 16 := Or.inl ⟨3, rfl, by decide +kernel, rfl⟩
set_option maxRecDepth 20000 in
theorem d_Deed_after_16 : zd_kl b_Deed_after "SameTuesday$Deed" 16 (-1) 19 := Or.inr ⟨32, by decide +kernel, zb_mem 576 rfl rfl, rfl⟩
theorem d_Deed_after_19 : zd b_Deed_after 19 .lxor 1 20 := ⟨by decide +kernel, rfl⟩
theorem d_Deed_after_20 : zd b_Deed_after 20 .land 1 21 := ⟨by decide +kernel, rfl⟩
theorem d_Deed_after_21 : zd_l .lload_n .lload b_Deed_after 21 3 22 := Or.inl ⟨3, rfl, by decide +kernel, rfl⟩
theorem d_Deed_after_22 : zd_k b_Deed_after "SameTuesday$Deed" 22 1 23 := Or.inl ⟨1, by decide +kernel, by decide, rfl⟩
theorem d_Deed_after_23 : zd_l .aload_n .aload b_Deed_after 23 0 24 := Or.inl ⟨0, rfl, by decide +kernel, rfl⟩
theorem d_Deed_after_24 : zd b_Deed_after 24 (.getfield 15) 3 27 := ⟨by decide +kernel, rfl⟩
theorem d_Deed_after_27 : zd b_Deed_after 27 .ishl 1 28 := ⟨by decide +kernel, rfl⟩
theorem d_Deed_after_28 : zd b_Deed_after 28 .lshl 1 29 := ⟨by decide +kernel, rfl⟩
theorem d_Deed_after_29 : zd b_Deed_after 29 .lor 1 30 := ⟨by decide +kernel, rfl⟩
theorem d_Deed_after_30 : zd_l .lstore_n .lstore b_Deed_after 30 5 32 := Or.inr ⟨by decide +kernel, rfl⟩
theorem d_Deed_after_32 : zd_l .aload_n .aload b_Deed_after 32 0 33 := Or.inl ⟨0, rfl, by decide +kernel, rfl⟩
theorem d_Deed_after_33 : zd b_Deed_after 33 (.getfield 18) 3 36 := ⟨by decide +kernel, rfl⟩
theorem d_Deed_after_36 : zd_k b_Deed_after "SameTuesday$Deed" 36 6 38 := Or.inr (Or.inl ⟨6, by decide +kernel, by decide, rfl⟩)
theorem d_Deed_after_38 : zd_b b_Deed_after 38 (.if_icmp .ne) 41 44 := ⟨6, by decide +kernel, by decide, rfl⟩
theorem d_Deed_after_41 : zd_l .lload_n .lload b_Deed_after 41 5 43 := Or.inr ⟨by decide +kernel, rfl⟩
theorem d_Deed_after_43 : zd b_Deed_after 43 .lreturn 1 44 := ⟨by decide +kernel, rfl⟩
theorem d_Deed_after_44 : zd_l .lload_n .lload b_Deed_after 44 5 46 := Or.inr ⟨by decide +kernel, rfl⟩
theorem d_Deed_after_46 : zd_l .aload_n .aload b_Deed_after 46 0 47 := Or.inl ⟨0, rfl, by decide +kernel, rfl⟩
theorem d_Deed_after_47 : zd b_Deed_after 47 (.getfield 18) 3 50 := ⟨by decide +kernel, rfl⟩
theorem d_Deed_after_50 : zd b_Deed_after 50 (.invokestatic 24) 3 53 := ⟨by decide +kernel, rfl⟩
theorem d_Deed_after_53 : zd b_Deed_after 53 .land 1 54 := ⟨by decide +kernel, rfl⟩
theorem d_Deed_after_54 : zd_l .lstore_n .lstore b_Deed_after 54 7 56 := Or.inr ⟨by decide +kernel, rfl⟩
theorem d_Deed_after_56 : zd_l .lload_n .lload b_Deed_after 56 5 58 := Or.inr ⟨by decide +kernel, rfl⟩
theorem d_Deed_after_58 : zd_l .lload_n .lload b_Deed_after 58 7 60 := Or.inr ⟨by decide +kernel, rfl⟩
set_option maxRecDepth 20000 in
theorem d_Deed_after_60 : zd_kl b_Deed_after "SameTuesday$Deed" 60 (-1) 63 := Or.inr ⟨32, by decide +kernel, zb_mem 576 rfl rfl, rfl⟩
theorem d_Deed_after_63 : zd b_Deed_after 63 .lxor 1 64 := ⟨by decide +kernel, rfl⟩
theorem d_Deed_after_64 : zd b_Deed_after 64 .land 1 65 := ⟨by decide +kernel, rfl⟩
theorem d_Deed_after_65 : zd_l .lload_n .lload b_Deed_after 65 7 67 := Or.inr ⟨by decide +kernel, rfl⟩
theorem d_Deed_after_67 : zd_k b_Deed_after "SameTuesday$Deed" 67 1 68 := Or.inl ⟨1, by decide +kernel, by decide, rfl⟩
theorem d_Deed_after_68 : zd_l .aload_n .aload b_Deed_after 68 0 69 := Or.inl ⟨0, rfl, by decide +kernel, rfl⟩
theorem d_Deed_after_69 : zd b_Deed_after 69 (.getfield 18) 3 72 := ⟨by decide +kernel, rfl⟩
theorem d_Deed_after_72 : zd b_Deed_after 72 .ishl 1 73 := ⟨by decide +kernel, rfl⟩
theorem d_Deed_after_73 : zd b_Deed_after 73 .lushr 1 74 := ⟨by decide +kernel, rfl⟩
theorem d_Deed_after_74 : zd b_Deed_after 74 .lor 1 75 := ⟨by decide +kernel, rfl⟩
theorem d_Deed_after_75 : zd b_Deed_after 75 .lreturn 1 76 := ⟨by decide +kernel, rfl⟩
set_option maxRecDepth 20000 in
theorem f_Hap_7_2 : zb_FL "SameTuesday$Happening" 7 2 0 := ⟨"SameTuesday$Happening", zF_Hap, 6, "SameTuesday$Happening", rfl, by decide, zi_Hap, zb_mem 351 rfl rfl, Or.inl rfl⟩
set_option maxRecDepth 20000 in
theorem p_Hap_7_2 : zb_PF "SameTuesday$Happening" 7 2 0 .int := ⟨"SameTuesday$Happening", zF_Hap, 6, "SameTuesday$Happening", zt_Hap, rfl, by decide, zi_Hap, zb_mem 351 rfl rfl, Or.inl rfl, zk_Hap, zn_Hap, rfl, rfl, rfl⟩
set_option maxRecDepth 20000 in
theorem f_Hap_7_5 : zb_FL "SameTuesday$Happening" 7 5 0 := ⟨"SameTuesday$Mishap", zF_Mis, 6, "SameTuesday$Happening", rfl, by decide, zi_Mis, zb_mem 351 rfl rfl, Or.inl rfl⟩
set_option maxRecDepth 20000 in
theorem p_Hap_7_5 : zb_PF "SameTuesday$Happening" 7 5 0 .int := ⟨"SameTuesday$Mishap", zF_Mis, 6, "SameTuesday$Happening", zt_Mis, rfl, by decide, zi_Mis, zb_mem 351 rfl rfl, Or.inl rfl, zk_Mis, zn_Mis, rfl, rfl, rfl⟩
set_option maxRecDepth 20000 in
theorem f_Hap_7_0 : zb_FL "SameTuesday$Happening" 7 0 0 := ⟨"SameTuesday$Caprice", zF_Cap, 6, "SameTuesday$Happening", rfl, by decide, zi_Cap, zb_mem 351 rfl rfl, Or.inl rfl⟩
set_option maxRecDepth 20000 in
theorem p_Hap_7_0 : zb_PF "SameTuesday$Happening" 7 0 0 .int := ⟨"SameTuesday$Caprice", zF_Cap, 6, "SameTuesday$Happening", zt_Cap, rfl, by decide, zi_Cap, zb_mem 351 rfl rfl, Or.inl rfl, zk_Cap, zn_Cap, rfl, rfl, rfl⟩
set_option maxRecDepth 20000 in
theorem f_Hap_13_2 : zb_FL "SameTuesday$Happening" 13 2 5 := ⟨"SameTuesday$Happening", zF_Hap, 6, "SameTuesday$Happening", rfl, by decide, zi_Hap, zb_mem 370 rfl rfl, Or.inl rfl⟩
set_option maxRecDepth 20000 in
theorem p_Hap_13_2 : zb_PL "SameTuesday$Happening" 13 2 5 .int := ⟨"SameTuesday$Happening", zF_Hap, 6, "SameTuesday$Happening", zt_Hap, rfl, by decide, zi_Hap, zb_mem 370 rfl rfl, Or.inl rfl, zk_Hap, zn_Hap, rfl, rfl⟩
set_option maxRecDepth 20000 in
theorem f_Hap_13_5 : zb_FL "SameTuesday$Happening" 13 5 5 := ⟨"SameTuesday$Mishap", zF_Mis, 6, "SameTuesday$Happening", rfl, by decide, zi_Mis, zb_mem 370 rfl rfl, Or.inl rfl⟩
set_option maxRecDepth 20000 in
theorem p_Hap_13_5 : zb_PL "SameTuesday$Happening" 13 5 5 .int := ⟨"SameTuesday$Mishap", zF_Mis, 6, "SameTuesday$Happening", zt_Mis, rfl, by decide, zi_Mis, zb_mem 370 rfl rfl, Or.inl rfl, zk_Mis, zn_Mis, rfl, rfl⟩
set_option maxRecDepth 20000 in
theorem f_Hap_13_0 : zb_FL "SameTuesday$Happening" 13 0 5 := ⟨"SameTuesday$Caprice", zF_Cap, 6, "SameTuesday$Happening", rfl, by decide, zi_Cap, zb_mem 370 rfl rfl, Or.inl rfl⟩
set_option maxRecDepth 20000 in
theorem p_Hap_13_0 : zb_PL "SameTuesday$Happening" 13 0 5 .int := ⟨"SameTuesday$Caprice", zF_Cap, 6, "SameTuesday$Happening", zt_Cap, rfl, by decide, zi_Cap, zb_mem 370 rfl rfl, Or.inl rfl, zk_Cap, zn_Cap, rfl, rfl⟩
set_option maxRecDepth 20000 in
theorem p_Hap_16_2 : zb_PF "SameTuesday$Happening" 16 2 1 .int := ⟨"SameTuesday$Happening", zF_Hap, 6, "SameTuesday$Happening", zt_Hap, rfl, by decide, zi_Hap, zb_mem 352 rfl rfl, Or.inl rfl, zk_Hap, zn_Hap, rfl, rfl, rfl⟩
set_option maxRecDepth 20000 in
theorem p_Hap_16_5 : zb_PF "SameTuesday$Happening" 16 5 1 .int := ⟨"SameTuesday$Mishap", zF_Mis, 6, "SameTuesday$Happening", zt_Mis, rfl, by decide, zi_Mis, zb_mem 352 rfl rfl, Or.inl rfl, zk_Mis, zn_Mis, rfl, rfl, rfl⟩
set_option maxRecDepth 20000 in
theorem p_Hap_16_0 : zb_PF "SameTuesday$Happening" 16 0 1 .int := ⟨"SameTuesday$Caprice", zF_Cap, 6, "SameTuesday$Happening", zt_Cap, rfl, by decide, zi_Cap, zb_mem 352 rfl rfl, Or.inl rfl, zk_Cap, zn_Cap, rfl, rfl, rfl⟩
set_option maxRecDepth 20000 in
theorem f_Hap_19_2 : zb_FL "SameTuesday$Happening" 19 2 2 := ⟨"SameTuesday$Happening", zF_Hap, 6, "SameTuesday$Happening", rfl, by decide, zi_Hap, zb_mem 354 rfl rfl, Or.inl rfl⟩
set_option maxRecDepth 20000 in
theorem p_Hap_19_2 : zb_PF "SameTuesday$Happening" 19 2 2 .int := ⟨"SameTuesday$Happening", zF_Hap, 6, "SameTuesday$Happening", zt_Hap, rfl, by decide, zi_Hap, zb_mem 354 rfl rfl, Or.inl rfl, zk_Hap, zn_Hap, rfl, rfl, rfl⟩
set_option maxRecDepth 20000 in
theorem f_Hap_19_5 : zb_FL "SameTuesday$Happening" 19 5 2 := ⟨"SameTuesday$Mishap", zF_Mis, 6, "SameTuesday$Happening", rfl, by decide, zi_Mis, zb_mem 354 rfl rfl, Or.inl rfl⟩
set_option maxRecDepth 20000 in
theorem p_Hap_19_5 : zb_PF "SameTuesday$Happening" 19 5 2 .int := ⟨"SameTuesday$Mishap", zF_Mis, 6, "SameTuesday$Happening", zt_Mis, rfl, by decide, zi_Mis, zb_mem 354 rfl rfl, Or.inl rfl, zk_Mis, zn_Mis, rfl, rfl, rfl⟩
set_option maxRecDepth 20000 in
theorem f_Hap_19_0 : zb_FL "SameTuesday$Happening" 19 0 2 := ⟨"SameTuesday$Caprice", zF_Cap, 6, "SameTuesday$Happening", rfl, by decide, zi_Cap, zb_mem 354 rfl rfl, Or.inl rfl⟩
set_option maxRecDepth 20000 in
theorem p_Hap_19_0 : zb_PF "SameTuesday$Happening" 19 0 2 .int := ⟨"SameTuesday$Caprice", zF_Cap, 6, "SameTuesday$Happening", zt_Cap, rfl, by decide, zi_Cap, zb_mem 354 rfl rfl, Or.inl rfl, zk_Cap, zn_Cap, rfl, rfl, rfl⟩
set_option maxRecDepth 20000 in
theorem f_Hap_28_2 : zb_FL "SameTuesday$Happening" 28 2 3 := ⟨"SameTuesday$Happening", zF_Hap, 6, "SameTuesday$Happening", rfl, by decide, zi_Hap, zb_mem 360 rfl rfl, Or.inl rfl⟩
set_option maxRecDepth 20000 in
theorem p_Hap_28_2 : zb_PF "SameTuesday$Happening" 28 2 3 .long := ⟨"SameTuesday$Happening", zF_Hap, 6, "SameTuesday$Happening", zt_Hap, rfl, by decide, zi_Hap, zb_mem 360 rfl rfl, Or.inl rfl, zk_Hap, zn_Hap, rfl, rfl, rfl⟩
set_option maxRecDepth 20000 in
theorem f_Hap_28_5 : zb_FL "SameTuesday$Happening" 28 5 3 := ⟨"SameTuesday$Mishap", zF_Mis, 6, "SameTuesday$Happening", rfl, by decide, zi_Mis, zb_mem 360 rfl rfl, Or.inl rfl⟩
set_option maxRecDepth 20000 in
theorem p_Hap_28_5 : zb_PF "SameTuesday$Happening" 28 5 3 .long := ⟨"SameTuesday$Mishap", zF_Mis, 6, "SameTuesday$Happening", zt_Mis, rfl, by decide, zi_Mis, zb_mem 360 rfl rfl, Or.inl rfl, zk_Mis, zn_Mis, rfl, rfl, rfl⟩
set_option maxRecDepth 20000 in
theorem f_Hap_28_0 : zb_FL "SameTuesday$Happening" 28 0 3 := ⟨"SameTuesday$Caprice", zF_Cap, 6, "SameTuesday$Happening", rfl, by decide, zi_Cap, zb_mem 360 rfl rfl, Or.inl rfl⟩
set_option maxRecDepth 20000 in
theorem p_Hap_28_0 : zb_PF "SameTuesday$Happening" 28 0 3 .long := ⟨"SameTuesday$Caprice", zF_Cap, 6, "SameTuesday$Happening", zt_Cap, rfl, by decide, zi_Cap, zb_mem 360 rfl rfl, Or.inl rfl, zk_Cap, zn_Cap, rfl, rfl, rfl⟩
set_option maxRecDepth 20000 in
theorem f_Hap_32_2 : zb_FL "SameTuesday$Happening" 32 2 4 := ⟨"SameTuesday$Happening", zF_Hap, 6, "SameTuesday$Happening", rfl, by decide, zi_Hap, zb_mem 365 rfl rfl, Or.inl rfl⟩
set_option maxRecDepth 20000 in
theorem p_Hap_32_2 : zb_PF "SameTuesday$Happening" 32 2 4 .long := ⟨"SameTuesday$Happening", zF_Hap, 6, "SameTuesday$Happening", zt_Hap, rfl, by decide, zi_Hap, zb_mem 365 rfl rfl, Or.inl rfl, zk_Hap, zn_Hap, rfl, rfl, rfl⟩
set_option maxRecDepth 20000 in
theorem f_Hap_32_5 : zb_FL "SameTuesday$Happening" 32 5 4 := ⟨"SameTuesday$Mishap", zF_Mis, 6, "SameTuesday$Happening", rfl, by decide, zi_Mis, zb_mem 365 rfl rfl, Or.inl rfl⟩
set_option maxRecDepth 20000 in
theorem p_Hap_32_5 : zb_PF "SameTuesday$Happening" 32 5 4 .long := ⟨"SameTuesday$Mishap", zF_Mis, 6, "SameTuesday$Happening", zt_Mis, rfl, by decide, zi_Mis, zb_mem 365 rfl rfl, Or.inl rfl, zk_Mis, zn_Mis, rfl, rfl, rfl⟩
set_option maxRecDepth 20000 in
theorem f_Hap_32_0 : zb_FL "SameTuesday$Happening" 32 0 4 := ⟨"SameTuesday$Caprice", zF_Cap, 6, "SameTuesday$Happening", rfl, by decide, zi_Cap, zb_mem 365 rfl rfl, Or.inl rfl⟩
set_option maxRecDepth 20000 in
theorem p_Hap_32_0 : zb_PF "SameTuesday$Happening" 32 0 4 .long := ⟨"SameTuesday$Caprice", zF_Cap, 6, "SameTuesday$Happening", zt_Cap, rfl, by decide, zi_Cap, zb_mem 365 rfl rfl, Or.inl rfl, zk_Cap, zn_Cap, rfl, rfl, rfl⟩
set_option maxRecDepth 20000 in
theorem l_Hap_22 : zl_N "SameTuesday$Happening" 22 y_Tue_worldWith "SameTuesday" b_Tue_worldWith 1 (some .long) 1 := ⟨List.mem_of_getElem? (i := 0) rfl, zb_mem 50 rfl rfl, zb_mem 347 rfl rfl, by decide, by decide +kernel, zb_mem 346 rfl rfl⟩
set_option maxRecDepth 20000 in
theorem l_Hap_41 : zl_V "SameTuesday$Happening" 41 y_Trc_leave b_Trc_leave 2 none 1 := ⟨⟨zb_mem 858 rfl rfl, zb_mem 56 rfl rfl, zb_mem 846 rfl rfl, by decide, by decide +kernel⟩, zb_mem 844 rfl rfl, zb_mem 845 rfl rfl⟩
theorem d_Hap_init_0 : zd_l .aload_n .aload b_Hap_init 0 0 1 := Or.inl ⟨0, rfl, by decide +kernel, rfl⟩
theorem d_Hap_init_1 : zd b_Hap_init 1 (.invokespecial 1) 3 4 := ⟨by decide +kernel, rfl⟩
theorem d_Hap_init_4 : zd_l .aload_n .aload b_Hap_init 4 0 5 := Or.inl ⟨0, rfl, by decide +kernel, rfl⟩
theorem d_Hap_init_5 : zd_l .iload_n .iload b_Hap_init 5 1 6 := Or.inl ⟨1, rfl, by decide +kernel, rfl⟩
theorem d_Hap_init_6 : zd b_Hap_init 6 (.putfield 7) 3 9 := ⟨by decide +kernel, rfl⟩
theorem d_Hap_init_9 : zd_l .aload_n .aload b_Hap_init 9 0 10 := Or.inl ⟨0, rfl, by decide +kernel, rfl⟩
theorem d_Hap_init_10 : zd_l .iload_n .iload b_Hap_init 10 2 11 := Or.inl ⟨2, rfl, by decide +kernel, rfl⟩
theorem d_Hap_init_11 : zd b_Hap_init 11 (.putfield 13) 3 14 := ⟨by decide +kernel, rfl⟩
theorem d_Hap_init_14 : zd_l .aload_n .aload b_Hap_init 14 0 15 := Or.inl ⟨0, rfl, by decide +kernel, rfl⟩
theorem d_Hap_init_15 : zd_l .iload_n .iload b_Hap_init 15 3 16 := Or.inl ⟨3, rfl, by decide +kernel, rfl⟩
theorem d_Hap_init_16 : zd b_Hap_init 16 (.putfield 16) 3 19 := ⟨by decide +kernel, rfl⟩
theorem d_Hap_init_19 : zd_l .aload_n .aload b_Hap_init 19 0 20 := Or.inl ⟨0, rfl, by decide +kernel, rfl⟩
theorem d_Hap_init_20 : zd_l .iload_n .iload b_Hap_init 20 4 22 := Or.inr ⟨by decide +kernel, rfl⟩
theorem d_Hap_init_22 : zd b_Hap_init 22 (.putfield 19) 3 25 := ⟨by decide +kernel, rfl⟩
theorem d_Hap_init_25 : zd_l .aload_n .aload b_Hap_init 25 0 26 := Or.inl ⟨0, rfl, by decide +kernel, rfl⟩
theorem d_Hap_init_26 : zd_l .iload_n .iload b_Hap_init 26 3 27 := Or.inl ⟨3, rfl, by decide +kernel, rfl⟩
theorem d_Hap_init_27 : zd b_Hap_init 27 (.invokestatic 22) 3 30 := ⟨by decide +kernel, rfl⟩
theorem d_Hap_init_30 : zd b_Hap_init 30 (.putfield 28) 3 33 := ⟨by decide +kernel, rfl⟩
theorem d_Hap_init_33 : zd_l .aload_n .aload b_Hap_init 33 0 34 := Or.inl ⟨0, rfl, by decide +kernel, rfl⟩
theorem d_Hap_init_34 : zd_l .iload_n .iload b_Hap_init 34 4 36 := Or.inr ⟨by decide +kernel, rfl⟩
theorem d_Hap_init_36 : zd b_Hap_init 36 (.invokestatic 22) 3 39 := ⟨by decide +kernel, rfl⟩
theorem d_Hap_init_39 : zd b_Hap_init 39 (.putfield 32) 3 42 := ⟨by decide +kernel, rfl⟩
theorem d_Hap_init_42 : zd b_Hap_init 42 .return_ 1 43 := ⟨by decide +kernel, rfl⟩
theorem d_Hap_kind_0 : zd_k b_Hap_kind "SameTuesday$Happening" 0 0 1 := Or.inl ⟨0, by decide +kernel, by decide, rfl⟩
theorem d_Hap_kind_1 : zd b_Hap_kind 1 .ireturn 1 2 := ⟨by decide +kernel, rfl⟩
theorem d_Hap_after_0 : zd_l .lload_n .lload b_Hap_after 0 1 1 := Or.inl ⟨1, rfl, by decide +kernel, rfl⟩
theorem d_Hap_after_1 : zd_l .aload_n .aload b_Hap_after 1 0 2 := Or.inl ⟨0, rfl, by decide +kernel, rfl⟩
theorem d_Hap_after_2 : zd b_Hap_after 2 (.getfield 28) 3 5 := ⟨by decide +kernel, rfl⟩
theorem d_Hap_after_5 : zd b_Hap_after 5 .land 1 6 := ⟨by decide +kernel, rfl⟩
theorem d_Hap_after_6 : zd_l .aload_n .aload b_Hap_after 6 0 7 := Or.inl ⟨0, rfl, by decide +kernel, rfl⟩
theorem d_Hap_after_7 : zd b_Hap_after 7 (.getfield 32) 3 10 := ⟨by decide +kernel, rfl⟩
set_option maxRecDepth 20000 in
theorem d_Hap_after_10 : zd_kl b_Hap_after "SameTuesday$Happening" 10 (-1) 13 := Or.inr ⟨35, by decide +kernel, zb_mem 567 rfl rfl, rfl⟩
theorem d_Hap_after_13 : zd b_Hap_after 13 .lxor 1 14 := ⟨by decide +kernel, rfl⟩
theorem d_Hap_after_14 : zd b_Hap_after 14 .land 1 15 := ⟨by decide +kernel, rfl⟩
theorem d_Hap_after_15 : zd_l .lstore_n .lstore b_Hap_after 15 3 16 := Or.inl ⟨3, rfl, by decide +kernel, rfl⟩
theorem d_Hap_after_16 : zd_l .lload_n .lload b_Hap_after 16 1 17 := Or.inl ⟨1, rfl, by decide +kernel, rfl⟩
theorem d_Hap_after_17 : zd_l .lload_n .lload b_Hap_after 17 3 18 := Or.inl ⟨3, rfl, by decide +kernel, rfl⟩
set_option maxRecDepth 20000 in
theorem d_Hap_after_18 : zd_kl b_Hap_after "SameTuesday$Happening" 18 (-1) 21 := Or.inr ⟨35, by decide +kernel, zb_mem 567 rfl rfl, rfl⟩
theorem d_Hap_after_21 : zd b_Hap_after 21 .lxor 1 22 := ⟨by decide +kernel, rfl⟩
theorem d_Hap_after_22 : zd b_Hap_after 22 .land 1 23 := ⟨by decide +kernel, rfl⟩
theorem d_Hap_after_23 : zd_l .lload_n .lload b_Hap_after 23 3 24 := Or.inl ⟨3, rfl, by decide +kernel, rfl⟩
theorem d_Hap_after_24 : zd_k b_Hap_after "SameTuesday$Happening" 24 1 25 := Or.inl ⟨1, by decide +kernel, by decide, rfl⟩
theorem d_Hap_after_25 : zd_l .aload_n .aload b_Hap_after 25 0 26 := Or.inl ⟨0, rfl, by decide +kernel, rfl⟩
theorem d_Hap_after_26 : zd b_Hap_after 26 (.getfield 19) 3 29 := ⟨by decide +kernel, rfl⟩
theorem d_Hap_after_29 : zd b_Hap_after 29 .ishl 1 30 := ⟨by decide +kernel, rfl⟩
theorem d_Hap_after_30 : zd b_Hap_after 30 .lshl 1 31 := ⟨by decide +kernel, rfl⟩
theorem d_Hap_after_31 : zd b_Hap_after 31 .lor 1 32 := ⟨by decide +kernel, rfl⟩
theorem d_Hap_after_32 : zd b_Hap_after 32 .lreturn 1 33 := ⟨by decide +kernel, rfl⟩
theorem d_Hap_telling_0 : zd_l .aload_n .aload b_Hap_telling 0 0 1 := Or.inl ⟨0, rfl, by decide +kernel, rfl⟩
theorem d_Hap_telling_1 : zd_l .aload_n .aload b_Hap_telling 1 1 2 := Or.inl ⟨1, rfl, by decide +kernel, rfl⟩
theorem d_Hap_telling_2 : zd b_Hap_telling 2 (.invokevirtual 37) 3 5 := ⟨by decide +kernel, rfl⟩
theorem d_Hap_telling_5 : zd b_Hap_telling 5 .ireturn 1 6 := ⟨by decide +kernel, rfl⟩
theorem d_Hap_plainTelling_0 : zd_l .aload_n .aload b_Hap_plainTelling 0 1 1 := Or.inl ⟨1, rfl, by decide +kernel, rfl⟩
theorem d_Hap_plainTelling_1 : zd_k b_Hap_plainTelling "SameTuesday$Happening" 1 1 2 := Or.inl ⟨1, by decide +kernel, by decide, rfl⟩
theorem d_Hap_plainTelling_2 : zd b_Hap_plainTelling 2 (.invokevirtual 41) 3 5 := ⟨by decide +kernel, rfl⟩
theorem d_Hap_plainTelling_5 : zd_l .aload_n .aload b_Hap_plainTelling 5 0 6 := Or.inl ⟨0, rfl, by decide +kernel, rfl⟩
theorem d_Hap_plainTelling_6 : zd b_Hap_plainTelling 6 (.getfield 13) 3 9 := ⟨by decide +kernel, rfl⟩
theorem d_Hap_plainTelling_9 : zd b_Hap_plainTelling 9 .ireturn 1 10 := ⟨by decide +kernel, rfl⟩
theorem d_Hap_rhymed_0 : zd_l .aload_n .aload b_Hap_rhymed 0 1 1 := Or.inl ⟨1, rfl, by decide +kernel, rfl⟩
theorem d_Hap_rhymed_1 : zd_k b_Hap_rhymed "SameTuesday$Happening" 1 4 2 := Or.inl ⟨4, by decide +kernel, by decide, rfl⟩
theorem d_Hap_rhymed_2 : zd b_Hap_rhymed 2 (.invokevirtual 41) 3 5 := ⟨by decide +kernel, rfl⟩
theorem d_Hap_rhymed_5 : zd_l .aload_n .aload b_Hap_rhymed 5 0 6 := Or.inl ⟨0, rfl, by decide +kernel, rfl⟩
theorem d_Hap_rhymed_6 : zd b_Hap_rhymed 6 (.getfield 7) 3 9 := ⟨by decide +kernel, rfl⟩
theorem d_Hap_rhymed_9 : zd b_Hap_rhymed 9 .ireturn 1 10 := ⟨by decide +kernel, rfl⟩
set_option maxRecDepth 20000 in
theorem f_Law_9_3 : zb_FL "SameTuesday$Law" 9 3 0 := ⟨"SameTuesday$Law", zF_Law, 2, "SameTuesday$Law", rfl, by decide, zi_Law, zb_mem 194 rfl rfl, Or.inl rfl⟩
set_option maxRecDepth 20000 in
theorem p_Law_9_3 : zb_PF "SameTuesday$Law" 9 3 0 (.array .int) := ⟨"SameTuesday$Law", zF_Law, 2, "SameTuesday$Law", zt_Law, rfl, by decide, zi_Law, zb_mem 194 rfl rfl, Or.inl rfl, zk_Law, zn_Law, rfl, rfl, rfl⟩
set_option maxRecDepth 20000 in
theorem f_Law_15_3 : zb_FL "SameTuesday$Law" 15 3 1 := ⟨"SameTuesday$Law", zF_Law, 2, "SameTuesday$Law", rfl, by decide, zi_Law, zb_mem 195 rfl rfl, Or.inl rfl⟩
set_option maxRecDepth 20000 in
theorem p_Law_15_3 : zb_PL "SameTuesday$Law" 15 3 1 .int := ⟨"SameTuesday$Law", zF_Law, 2, "SameTuesday$Law", zt_Law, rfl, by decide, zi_Law, zb_mem 195 rfl rfl, Or.inl rfl, zk_Law, zn_Law, rfl, rfl⟩
set_option maxRecDepth 20000 in
theorem l_Law_27 : zl_N "SameTuesday$Law" 27 y_Tue_worldWithin "SameTuesday" b_Tue_worldWithin 4 (some .long) 1 := ⟨List.mem_of_getElem? (i := 4) rfl, zb_mem 50 rfl rfl, zb_mem 717 rfl rfl, by decide, by decide +kernel, zb_mem 716 rfl rfl⟩
set_option maxRecDepth 20000 in
theorem l_Law_31 : zl_V "SameTuesday$Law" 31 y_Law_possible b_Law_possible 4 (some .long) 0 := ⟨⟨zb_mem 728 rfl rfl, zb_mem 55 rfl rfl, zb_mem 713 rfl rfl, by decide, by decide +kernel⟩, zb_mem 711 rfl rfl, zb_mem 712 rfl rfl⟩
set_option maxRecDepth 20000 in
theorem l_Law_35 : zl_N "SameTuesday$Law" 35 y_Tue_hasState "SameTuesday" b_Tue_hasState 3 (some .boolean) 2 := ⟨List.mem_of_getElem? (i := 5) rfl, zb_mem 50 rfl rfl, zb_mem 668 rfl rfl, by decide, by decide +kernel, zb_mem 667 rfl rfl⟩
set_option maxRecDepth 20000 in
theorem l_Law_39 : zl_S "SameTuesday$Law" 39 y_JInt_bitCount b_JInt_bitCount 1 (some .int) 1 := ⟨⟨zb_mem 738 rfl rfl, zb_mem 65 rfl rfl, zb_mem 740 rfl rfl, by decide, by decide +kernel⟩, zb_mem 739 rfl rfl⟩
set_option maxRecDepth 20000 in
theorem l_Law_45 : zl_N "SameTuesday$Law" 45 y_Tue_lesserPart "SameTuesday" b_Tue_lesserPart 4 (some .int) 2 := ⟨List.mem_of_getElem? (i := 6) rfl, zb_mem 50 rfl rfl, zb_mem 754 rfl rfl, by decide, by decide +kernel, zb_mem 753 rfl rfl⟩
theorem d_Law_init_0 : zd_l .aload_n .aload b_Law_init 0 0 1 := Or.inl ⟨0, rfl, by decide +kernel, rfl⟩
theorem d_Law_init_1 : zd b_Law_init 1 (.invokespecial 3) 3 4 := ⟨by decide +kernel, rfl⟩
theorem d_Law_init_4 : zd_l .aload_n .aload b_Law_init 4 0 5 := Or.inl ⟨0, rfl, by decide +kernel, rfl⟩
theorem d_Law_init_5 : zd_k b_Law_init "SameTuesday$Law" 5 8 7 := Or.inr (Or.inl ⟨8, by decide +kernel, by decide, rfl⟩)
theorem d_Law_init_7 : zd b_Law_init 7 (.newarray .int) 2 9 := ⟨by decide +kernel, rfl⟩
theorem d_Law_init_9 : zd b_Law_init 9 (.putfield 9) 3 12 := ⟨by decide +kernel, rfl⟩
theorem d_Law_init_12 : zd_l .aload_n .aload b_Law_init 12 0 13 := Or.inl ⟨0, rfl, by decide +kernel, rfl⟩
theorem d_Law_init_13 : zd_k b_Law_init "SameTuesday$Law" 13 0 14 := Or.inl ⟨0, by decide +kernel, by decide, rfl⟩
theorem d_Law_init_14 : zd b_Law_init 14 (.putfield 15) 3 17 := ⟨by decide +kernel, rfl⟩
theorem d_Law_init_17 : zd b_Law_init 17 .return_ 1 18 := ⟨by decide +kernel, rfl⟩
theorem d_Law_dayCount_0 : zd_l .aload_n .aload b_Law_dayCount 0 0 1 := Or.inl ⟨0, rfl, by decide +kernel, rfl⟩
theorem d_Law_dayCount_1 : zd b_Law_dayCount 1 (.getfield 15) 3 4 := ⟨by decide +kernel, rfl⟩
theorem d_Law_dayCount_4 : zd b_Law_dayCount 4 .ireturn 1 5 := ⟨by decide +kernel, rfl⟩
theorem d_Law_isFull_0 : zd_l .aload_n .aload b_Law_isFull 0 0 1 := Or.inl ⟨0, rfl, by decide +kernel, rfl⟩
theorem d_Law_isFull_1 : zd b_Law_isFull 1 (.getfield 15) 3 4 := ⟨by decide +kernel, rfl⟩
theorem d_Law_isFull_4 : zd_l .aload_n .aload b_Law_isFull 4 0 5 := Or.inl ⟨0, rfl, by decide +kernel, rfl⟩
theorem d_Law_isFull_5 : zd b_Law_isFull 5 (.getfield 9) 3 8 := ⟨by decide +kernel, rfl⟩
theorem d_Law_isFull_8 : zd b_Law_isFull 8 .arraylength 1 9 := ⟨by decide +kernel, rfl⟩
theorem d_Law_isFull_9 : zd_b b_Law_isFull 9 (.if_icmp .lt) 12 16 := ⟨7, by decide +kernel, by decide, rfl⟩
theorem d_Law_isFull_12 : zd_k b_Law_isFull "SameTuesday$Law" 12 1 13 := Or.inl ⟨1, by decide +kernel, by decide, rfl⟩
theorem d_Law_isFull_13 : zd_b b_Law_isFull 13 .goto 16 17 := ⟨4, by decide +kernel, by decide, rfl⟩
theorem d_Law_isFull_16 : zd_k b_Law_isFull "SameTuesday$Law" 16 0 17 := Or.inl ⟨0, by decide +kernel, by decide, rfl⟩
theorem d_Law_isFull_17 : zd b_Law_isFull 17 .ireturn 1 18 := ⟨by decide +kernel, rfl⟩
theorem d_Law_addDay_0 : zd_l .aload_n .aload b_Law_addDay 0 0 1 := Or.inl ⟨0, rfl, by decide +kernel, rfl⟩
theorem d_Law_addDay_1 : zd b_Law_addDay 1 (.getfield 15) 3 4 := ⟨by decide +kernel, rfl⟩
theorem d_Law_addDay_4 : zd_b b_Law_addDay 4 (.ifCond .lt) 7 39 := ⟨35, by decide +kernel, by decide, rfl⟩
theorem d_Law_addDay_7 : zd_l .aload_n .aload b_Law_addDay 7 0 8 := Or.inl ⟨0, rfl, by decide +kernel, rfl⟩
theorem d_Law_addDay_8 : zd b_Law_addDay 8 (.getfield 15) 3 11 := ⟨by decide +kernel, rfl⟩
theorem d_Law_addDay_11 : zd_l .aload_n .aload b_Law_addDay 11 0 12 := Or.inl ⟨0, rfl, by decide +kernel, rfl⟩
theorem d_Law_addDay_12 : zd b_Law_addDay 12 (.getfield 9) 3 15 := ⟨by decide +kernel, rfl⟩
theorem d_Law_addDay_15 : zd b_Law_addDay 15 .arraylength 1 16 := ⟨by decide +kernel, rfl⟩
theorem d_Law_addDay_16 : zd_b b_Law_addDay 16 (.if_icmp .ge) 19 39 := ⟨23, by decide +kernel, by decide, rfl⟩
theorem d_Law_addDay_19 : zd_l .aload_n .aload b_Law_addDay 19 0 20 := Or.inl ⟨0, rfl, by decide +kernel, rfl⟩
theorem d_Law_addDay_20 : zd b_Law_addDay 20 (.getfield 9) 3 23 := ⟨by decide +kernel, rfl⟩
theorem d_Law_addDay_23 : zd_l .aload_n .aload b_Law_addDay 23 0 24 := Or.inl ⟨0, rfl, by decide +kernel, rfl⟩
theorem d_Law_addDay_24 : zd b_Law_addDay 24 (.getfield 15) 3 27 := ⟨by decide +kernel, rfl⟩
theorem d_Law_addDay_27 : zd_l .iload_n .iload b_Law_addDay 27 1 28 := Or.inl ⟨1, rfl, by decide +kernel, rfl⟩
theorem d_Law_addDay_28 : zd b_Law_addDay 28 .iastore 1 29 := ⟨by decide +kernel, rfl⟩
theorem d_Law_addDay_29 : zd_l .aload_n .aload b_Law_addDay 29 0 30 := Or.inl ⟨0, rfl, by decide +kernel, rfl⟩
theorem d_Law_addDay_30 : zd b_Law_addDay 30 .dup 1 31 := ⟨by decide +kernel, rfl⟩
theorem d_Law_addDay_31 : zd b_Law_addDay 31 (.getfield 15) 3 34 := ⟨by decide +kernel, rfl⟩
theorem d_Law_addDay_34 : zd_k b_Law_addDay "SameTuesday$Law" 34 1 35 := Or.inl ⟨1, by decide +kernel, by decide, rfl⟩
theorem d_Law_addDay_35 : zd b_Law_addDay 35 .iadd 1 36 := ⟨by decide +kernel, rfl⟩
theorem d_Law_addDay_36 : zd b_Law_addDay 36 (.putfield 15) 3 39 := ⟨by decide +kernel, rfl⟩
theorem d_Law_addDay_39 : zd b_Law_addDay 39 .return_ 1 40 := ⟨by decide +kernel, rfl⟩
theorem d_Law_dropLast_0 : zd_l .aload_n .aload b_Law_dropLast 0 0 1 := Or.inl ⟨0, rfl, by decide +kernel, rfl⟩
theorem d_Law_dropLast_1 : zd_k b_Law_dropLast "SameTuesday$Law" 1 0 2 := Or.inl ⟨0, by decide +kernel, by decide, rfl⟩
theorem d_Law_dropLast_2 : zd_l .aload_n .aload b_Law_dropLast 2 0 3 := Or.inl ⟨0, rfl, by decide +kernel, rfl⟩
theorem d_Law_dropLast_3 : zd b_Law_dropLast 3 (.getfield 15) 3 6 := ⟨by decide +kernel, rfl⟩
theorem d_Law_dropLast_6 : zd_l .iload_n .iload b_Law_dropLast 6 1 7 := Or.inl ⟨1, rfl, by decide +kernel, rfl⟩
theorem d_Law_dropLast_7 : zd b_Law_dropLast 7 .isub 1 8 := ⟨by decide +kernel, rfl⟩
theorem d_Law_dropLast_8 : zd b_Law_dropLast 8 (.invokestatic 19) 3 11 := ⟨by decide +kernel, rfl⟩
theorem d_Law_dropLast_11 : zd b_Law_dropLast 11 (.putfield 15) 3 14 := ⟨by decide +kernel, rfl⟩
theorem d_Law_dropLast_14 : zd b_Law_dropLast 14 .return_ 1 15 := ⟨by decide +kernel, rfl⟩
set_option maxRecDepth 20000 in
theorem d_Law_possible_0 : zd_kl b_Law_possible "SameTuesday$Law" 0 (-1) 3 := Or.inr ⟨25, by decide +kernel, zb_mem 714 rfl rfl, rfl⟩
theorem d_Law_possible_3 : zd_l .lstore_n .lstore b_Law_possible 3 1 4 := Or.inl ⟨1, rfl, by decide +kernel, rfl⟩
theorem d_Law_possible_4 : zd_k b_Law_possible "SameTuesday$Law" 4 0 5 := Or.inl ⟨0, by decide +kernel, by decide, rfl⟩
theorem d_Law_possible_5 : zd_l .istore_n .istore b_Law_possible 5 3 6 := Or.inl ⟨3, rfl, by decide +kernel, rfl⟩
theorem d_Law_possible_6 : zd_l .iload_n .iload b_Law_possible 6 3 7 := Or.inl ⟨3, rfl, by decide +kernel, rfl⟩
theorem d_Law_possible_7 : zd_l .aload_n .aload b_Law_possible 7 0 8 := Or.inl ⟨0, rfl, by decide +kernel, rfl⟩
theorem d_Law_possible_8 : zd b_Law_possible 8 (.getfield 15) 3 11 := ⟨by decide +kernel, rfl⟩
theorem d_Law_possible_11 : zd_b b_Law_possible 11 (.if_icmp .ge) 14 45 := ⟨34, by decide +kernel, by decide, rfl⟩
theorem d_Law_possible_14 : zd_l .iload_n .iload b_Law_possible 14 3 15 := Or.inl ⟨3, rfl, by decide +kernel, rfl⟩
theorem d_Law_possible_15 : zd_l .aload_n .aload b_Law_possible 15 0 16 := Or.inl ⟨0, rfl, by decide +kernel, rfl⟩
theorem d_Law_possible_16 : zd b_Law_possible 16 (.getfield 9) 3 19 := ⟨by decide +kernel, rfl⟩
theorem d_Law_possible_19 : zd b_Law_possible 19 .arraylength 1 20 := ⟨by decide +kernel, rfl⟩
theorem d_Law_possible_20 : zd_b b_Law_possible 20 (.if_icmp .ge) 23 45 := ⟨25, by decide +kernel, by decide, rfl⟩
theorem d_Law_possible_23 : zd_l .lload_n .lload b_Law_possible 23 1 24 := Or.inl ⟨1, rfl, by decide +kernel, rfl⟩
theorem d_Law_possible_24 : zd_l .aload_n .aload b_Law_possible 24 0 25 := Or.inl ⟨0, rfl, by decide +kernel, rfl⟩
theorem d_Law_possible_25 : zd b_Law_possible 25 (.getfield 9) 3 28 := ⟨by decide +kernel, rfl⟩
theorem d_Law_possible_28 : zd_l .iload_n .iload b_Law_possible 28 3 29 := Or.inl ⟨3, rfl, by decide +kernel, rfl⟩
theorem d_Law_possible_29 : zd b_Law_possible 29 .iaload 1 30 := ⟨by decide +kernel, rfl⟩
theorem d_Law_possible_30 : zd b_Law_possible 30 (.invokestatic 27) 3 33 := ⟨by decide +kernel, rfl⟩
set_option maxRecDepth 20000 in
theorem d_Law_possible_33 : zd_kl b_Law_possible "SameTuesday$Law" 33 (-1) 36 := Or.inr ⟨25, by decide +kernel, zb_mem 714 rfl rfl, rfl⟩
theorem d_Law_possible_36 : zd b_Law_possible 36 .lxor 1 37 := ⟨by decide +kernel, rfl⟩
theorem d_Law_possible_37 : zd b_Law_possible 37 .land 1 38 := ⟨by decide +kernel, rfl⟩
theorem d_Law_possible_38 : zd_l .lstore_n .lstore b_Law_possible 38 1 39 := Or.inl ⟨1, rfl, by decide +kernel, rfl⟩
theorem d_Law_possible_39 : zd_i b_Law_possible 39 3 1 1 42 := ⟨by decide +kernel, by decide, rfl⟩
theorem d_Law_possible_42 : zd_b b_Law_possible 42 .goto 45 6 := ⟨(-36), by decide +kernel, by decide, rfl⟩
theorem d_Law_possible_45 : zd_l .lload_n .lload b_Law_possible 45 1 46 := Or.inl ⟨1, rfl, by decide +kernel, rfl⟩
theorem d_Law_possible_46 : zd b_Law_possible 46 .lreturn 1 47 := ⟨by decide +kernel, rfl⟩
theorem d_Law_possibleAt_0 : zd_l .aload_n .aload b_Law_possibleAt 0 0 1 := Or.inl ⟨0, rfl, by decide +kernel, rfl⟩
theorem d_Law_possibleAt_1 : zd b_Law_possibleAt 1 (.invokevirtual 31) 3 4 := ⟨by decide +kernel, rfl⟩
theorem d_Law_possibleAt_4 : zd_l .lstore_n .lstore b_Law_possibleAt 4 2 5 := Or.inl ⟨2, rfl, by decide +kernel, rfl⟩
theorem d_Law_possibleAt_5 : zd_k b_Law_possibleAt "SameTuesday$Law" 5 0 6 := Or.inl ⟨0, by decide +kernel, by decide, rfl⟩
theorem d_Law_possibleAt_6 : zd_l .istore_n .istore b_Law_possibleAt 6 4 8 := Or.inr ⟨by decide +kernel, rfl⟩
theorem d_Law_possibleAt_8 : zd_k b_Law_possibleAt "SameTuesday$Law" 8 0 9 := Or.inl ⟨0, by decide +kernel, by decide, rfl⟩
theorem d_Law_possibleAt_9 : zd_l .istore_n .istore b_Law_possibleAt 9 5 11 := Or.inr ⟨by decide +kernel, rfl⟩
theorem d_Law_possibleAt_11 : zd_l .iload_n .iload b_Law_possibleAt 11 5 13 := Or.inr ⟨by decide +kernel, rfl⟩
theorem d_Law_possibleAt_13 : zd_k b_Law_possibleAt "SameTuesday$Law" 13 64 15 := Or.inr (Or.inl ⟨64, by decide +kernel, by decide, rfl⟩)
theorem d_Law_possibleAt_15 : zd_b b_Law_possibleAt 15 (.if_icmp .ge) 18 45 := ⟨30, by decide +kernel, by decide, rfl⟩
theorem d_Law_possibleAt_18 : zd_l .lload_n .lload b_Law_possibleAt 18 2 19 := Or.inl ⟨2, rfl, by decide +kernel, rfl⟩
theorem d_Law_possibleAt_19 : zd_l .iload_n .iload b_Law_possibleAt 19 5 21 := Or.inr ⟨by decide +kernel, rfl⟩
theorem d_Law_possibleAt_21 : zd b_Law_possibleAt 21 (.invokestatic 35) 3 24 := ⟨by decide +kernel, rfl⟩
theorem d_Law_possibleAt_24 : zd_b b_Law_possibleAt 24 (.ifCond .eq) 27 39 := ⟨15, by decide +kernel, by decide, rfl⟩
theorem d_Law_possibleAt_27 : zd_l .iload_n .iload b_Law_possibleAt 27 4 29 := Or.inr ⟨by decide +kernel, rfl⟩
theorem d_Law_possibleAt_29 : zd_l .iload_n .iload b_Law_possibleAt 29 1 30 := Or.inl ⟨1, rfl, by decide +kernel, rfl⟩
theorem d_Law_possibleAt_30 : zd_b b_Law_possibleAt 30 (.if_icmp .ne) 33 36 := ⟨6, by decide +kernel, by decide, rfl⟩
theorem d_Law_possibleAt_33 : zd_l .iload_n .iload b_Law_possibleAt 33 5 35 := Or.inr ⟨by decide +kernel, rfl⟩
theorem d_Law_possibleAt_35 : zd b_Law_possibleAt 35 .ireturn 1 36 := ⟨by decide +kernel, rfl⟩
theorem d_Law_possibleAt_36 : zd_i b_Law_possibleAt 36 4 1 1 39 := ⟨by decide +kernel, by decide, rfl⟩
theorem d_Law_possibleAt_39 : zd_i b_Law_possibleAt 39 5 1 1 42 := ⟨by decide +kernel, by decide, rfl⟩
theorem d_Law_possibleAt_42 : zd_b b_Law_possibleAt 42 .goto 45 11 := ⟨(-31), by decide +kernel, by decide, rfl⟩
theorem d_Law_possibleAt_45 : zd_k b_Law_possibleAt "SameTuesday$Law" 45 (-9) 47 := Or.inr (Or.inl ⟨(-9), by decide +kernel, by decide, rfl⟩)
theorem d_Law_possibleAt_47 : zd b_Law_possibleAt 47 .ireturn 1 48 := ⟨by decide +kernel, rfl⟩
theorem d_Law_ofFewestFacts_0 : zd_l .aload_n .aload b_Law_ofFewestFacts 0 0 1 := Or.inl ⟨0, rfl, by decide +kernel, rfl⟩
theorem d_Law_ofFewestFacts_1 : zd b_Law_ofFewestFacts 1 (.invokevirtual 31) 3 4 := ⟨by decide +kernel, rfl⟩
theorem d_Law_ofFewestFacts_4 : zd_l .lstore_n .lstore b_Law_ofFewestFacts 4 1 5 := Or.inl ⟨1, rfl, by decide +kernel, rfl⟩
theorem d_Law_ofFewestFacts_5 : zd_k b_Law_ofFewestFacts "SameTuesday$Law" 5 (-9) 7 := Or.inr (Or.inl ⟨(-9), by decide +kernel, by decide, rfl⟩)
theorem d_Law_ofFewestFacts_7 : zd_l .istore_n .istore b_Law_ofFewestFacts 7 3 8 := Or.inl ⟨3, rfl, by decide +kernel, rfl⟩
theorem d_Law_ofFewestFacts_8 : zd_k b_Law_ofFewestFacts "SameTuesday$Law" 8 0 9 := Or.inl ⟨0, by decide +kernel, by decide, rfl⟩
theorem d_Law_ofFewestFacts_9 : zd_l .istore_n .istore b_Law_ofFewestFacts 9 4 11 := Or.inr ⟨by decide +kernel, rfl⟩
theorem d_Law_ofFewestFacts_11 : zd_l .iload_n .iload b_Law_ofFewestFacts 11 4 13 := Or.inr ⟨by decide +kernel, rfl⟩
theorem d_Law_ofFewestFacts_13 : zd_k b_Law_ofFewestFacts "SameTuesday$Law" 13 64 15 := Or.inr (Or.inl ⟨64, by decide +kernel, by decide, rfl⟩)
theorem d_Law_ofFewestFacts_15 : zd_b b_Law_ofFewestFacts 15 (.if_icmp .ge) 18 66 := ⟨51, by decide +kernel, by decide, rfl⟩
theorem d_Law_ofFewestFacts_18 : zd_l .iload_n .iload b_Law_ofFewestFacts 18 3 19 := Or.inl ⟨3, rfl, by decide +kernel, rfl⟩
theorem d_Law_ofFewestFacts_19 : zd_k b_Law_ofFewestFacts "SameTuesday$Law" 19 (-9) 21 := Or.inr (Or.inl ⟨(-9), by decide +kernel, by decide, rfl⟩)
theorem d_Law_ofFewestFacts_21 : zd_b b_Law_ofFewestFacts 21 (.if_icmp .eq) 24 36 := ⟨15, by decide +kernel, by decide, rfl⟩
theorem d_Law_ofFewestFacts_24 : zd_l .iload_n .iload b_Law_ofFewestFacts 24 4 26 := Or.inr ⟨by decide +kernel, rfl⟩
theorem d_Law_ofFewestFacts_26 : zd b_Law_ofFewestFacts 26 (.invokestatic 39) 3 29 := ⟨by decide +kernel, rfl⟩
theorem d_Law_ofFewestFacts_29 : zd_l .iload_n .iload b_Law_ofFewestFacts 29 3 30 := Or.inl ⟨3, rfl, by decide +kernel, rfl⟩
theorem d_Law_ofFewestFacts_30 : zd b_Law_ofFewestFacts 30 (.invokestatic 39) 3 33 := ⟨by decide +kernel, rfl⟩
theorem d_Law_ofFewestFacts_33 : zd_b b_Law_ofFewestFacts 33 (.if_icmp .ge) 36 40 := ⟨7, by decide +kernel, by decide, rfl⟩
theorem d_Law_ofFewestFacts_36 : zd_k b_Law_ofFewestFacts "SameTuesday$Law" 36 1 37 := Or.inl ⟨1, by decide +kernel, by decide, rfl⟩
theorem d_Law_ofFewestFacts_37 : zd_b b_Law_ofFewestFacts 37 .goto 40 41 := ⟨4, by decide +kernel, by decide, rfl⟩
theorem d_Law_ofFewestFacts_40 : zd_k b_Law_ofFewestFacts "SameTuesday$Law" 40 0 41 := Or.inl ⟨0, by decide +kernel, by decide, rfl⟩
theorem d_Law_ofFewestFacts_41 : zd_l .istore_n .istore b_Law_ofFewestFacts 41 5 43 := Or.inr ⟨by decide +kernel, rfl⟩
theorem d_Law_ofFewestFacts_43 : zd_l .lload_n .lload b_Law_ofFewestFacts 43 1 44 := Or.inl ⟨1, rfl, by decide +kernel, rfl⟩
theorem d_Law_ofFewestFacts_44 : zd_l .iload_n .iload b_Law_ofFewestFacts 44 4 46 := Or.inr ⟨by decide +kernel, rfl⟩
theorem d_Law_ofFewestFacts_46 : zd b_Law_ofFewestFacts 46 (.invokestatic 35) 3 49 := ⟨by decide +kernel, rfl⟩
theorem d_Law_ofFewestFacts_49 : zd_b b_Law_ofFewestFacts 49 (.ifCond .eq) 52 60 := ⟨11, by decide +kernel, by decide, rfl⟩
theorem d_Law_ofFewestFacts_52 : zd_l .iload_n .iload b_Law_ofFewestFacts 52 5 54 := Or.inr ⟨by decide +kernel, rfl⟩
theorem d_Law_ofFewestFacts_54 : zd_b b_Law_ofFewestFacts 54 (.ifCond .eq) 57 60 := ⟨6, by decide +kernel, by decide, rfl⟩
theorem d_Law_ofFewestFacts_57 : zd_l .iload_n .iload b_Law_ofFewestFacts 57 4 59 := Or.inr ⟨by decide +kernel, rfl⟩
theorem d_Law_ofFewestFacts_59 : zd_l .istore_n .istore b_Law_ofFewestFacts 59 3 60 := Or.inl ⟨3, rfl, by decide +kernel, rfl⟩
theorem d_Law_ofFewestFacts_60 : zd_i b_Law_ofFewestFacts 60 4 1 1 63 := ⟨by decide +kernel, by decide, rfl⟩
theorem d_Law_ofFewestFacts_63 : zd_b b_Law_ofFewestFacts 63 .goto 66 11 := ⟨(-52), by decide +kernel, by decide, rfl⟩
theorem d_Law_ofFewestFacts_66 : zd_l .iload_n .iload b_Law_ofFewestFacts 66 3 67 := Or.inl ⟨3, rfl, by decide +kernel, rfl⟩
theorem d_Law_ofFewestFacts_67 : zd b_Law_ofFewestFacts 67 .ireturn 1 68 := ⟨by decide +kernel, rfl⟩
theorem d_Law_partingBest_0 : zd_l .aload_n .aload b_Law_partingBest 0 0 1 := Or.inl ⟨0, rfl, by decide +kernel, rfl⟩
theorem d_Law_partingBest_1 : zd b_Law_partingBest 1 (.invokevirtual 31) 3 4 := ⟨by decide +kernel, rfl⟩
theorem d_Law_partingBest_4 : zd_l .lstore_n .lstore b_Law_partingBest 4 3 5 := Or.inl ⟨3, rfl, by decide +kernel, rfl⟩
theorem d_Law_partingBest_5 : zd_k b_Law_partingBest "SameTuesday$Law" 5 (-9) 7 := Or.inr (Or.inl ⟨(-9), by decide +kernel, by decide, rfl⟩)
theorem d_Law_partingBest_7 : zd_l .istore_n .istore b_Law_partingBest 7 5 9 := Or.inr ⟨by decide +kernel, rfl⟩
theorem d_Law_partingBest_9 : zd_k b_Law_partingBest "SameTuesday$Law" 9 (-1) 10 := Or.inl ⟨(-1), by decide +kernel, by decide, rfl⟩
theorem d_Law_partingBest_10 : zd_l .istore_n .istore b_Law_partingBest 10 6 12 := Or.inr ⟨by decide +kernel, rfl⟩
theorem d_Law_partingBest_12 : zd_k b_Law_partingBest "SameTuesday$Law" 12 0 13 := Or.inl ⟨0, by decide +kernel, by decide, rfl⟩
theorem d_Law_partingBest_13 : zd_l .istore_n .istore b_Law_partingBest 13 7 15 := Or.inr ⟨by decide +kernel, rfl⟩
theorem d_Law_partingBest_15 : zd_l .iload_n .iload b_Law_partingBest 15 7 17 := Or.inr ⟨by decide +kernel, rfl⟩
theorem d_Law_partingBest_17 : zd_k b_Law_partingBest "SameTuesday$Law" 17 64 19 := Or.inr (Or.inl ⟨64, by decide +kernel, by decide, rfl⟩)
theorem d_Law_partingBest_19 : zd_b b_Law_partingBest 19 (.if_icmp .ge) 22 60 := ⟨41, by decide +kernel, by decide, rfl⟩
theorem d_Law_partingBest_22 : zd_l .lload_n .lload b_Law_partingBest 22 1 23 := Or.inl ⟨1, rfl, by decide +kernel, rfl⟩
theorem d_Law_partingBest_23 : zd_l .iload_n .iload b_Law_partingBest 23 7 25 := Or.inr ⟨by decide +kernel, rfl⟩
theorem d_Law_partingBest_25 : zd b_Law_partingBest 25 (.invokestatic 35) 3 28 := ⟨by decide +kernel, rfl⟩
theorem d_Law_partingBest_28 : zd_b b_Law_partingBest 28 (.ifCond .eq) 31 54 := ⟨26, by decide +kernel, by decide, rfl⟩
theorem d_Law_partingBest_31 : zd_l .lload_n .lload b_Law_partingBest 31 3 32 := Or.inl ⟨3, rfl, by decide +kernel, rfl⟩
theorem d_Law_partingBest_32 : zd_l .iload_n .iload b_Law_partingBest 32 7 34 := Or.inr ⟨by decide +kernel, rfl⟩
theorem d_Law_partingBest_34 : zd b_Law_partingBest 34 (.invokestatic 45) 3 37 := ⟨by decide +kernel, rfl⟩
theorem d_Law_partingBest_37 : zd_l .iload_n .iload b_Law_partingBest 37 6 39 := Or.inr ⟨by decide +kernel, rfl⟩
theorem d_Law_partingBest_39 : zd_b b_Law_partingBest 39 (.if_icmp .le) 42 54 := ⟨15, by decide +kernel, by decide, rfl⟩
theorem d_Law_partingBest_42 : zd_l .iload_n .iload b_Law_partingBest 42 7 44 := Or.inr ⟨by decide +kernel, rfl⟩
theorem d_Law_partingBest_44 : zd_l .istore_n .istore b_Law_partingBest 44 5 46 := Or.inr ⟨by decide +kernel, rfl⟩
theorem d_Law_partingBest_46 : zd_l .lload_n .lload b_Law_partingBest 46 3 47 := Or.inl ⟨3, rfl, by decide +kernel, rfl⟩
theorem d_Law_partingBest_47 : zd_l .iload_n .iload b_Law_partingBest 47 7 49 := Or.inr ⟨by decide +kernel, rfl⟩
theorem d_Law_partingBest_49 : zd b_Law_partingBest 49 (.invokestatic 45) 3 52 := ⟨by decide +kernel, rfl⟩
theorem d_Law_partingBest_52 : zd_l .istore_n .istore b_Law_partingBest 52 6 54 := Or.inr ⟨by decide +kernel, rfl⟩
theorem d_Law_partingBest_54 : zd_i b_Law_partingBest 54 7 1 1 57 := ⟨by decide +kernel, by decide, rfl⟩
theorem d_Law_partingBest_57 : zd_b b_Law_partingBest 57 .goto 60 15 := ⟨(-42), by decide +kernel, by decide, rfl⟩
theorem d_Law_partingBest_60 : zd_l .iload_n .iload b_Law_partingBest 60 5 62 := Or.inr ⟨by decide +kernel, rfl⟩
theorem d_Law_partingBest_62 : zd b_Law_partingBest 62 .ireturn 1 63 := ⟨by decide +kernel, rfl⟩
set_option maxRecDepth 20000 in
theorem f_Life_9_4 : zb_FL "SameTuesday$Life" 9 4 0 := ⟨"SameTuesday$Life", zF_Life, 12, "SameTuesday$Life", rfl, by decide, zi_Life, zb_mem 128 rfl rfl, Or.inl rfl⟩
set_option maxRecDepth 20000 in
theorem p_Life_9_4 : zb_PF "SameTuesday$Life" 9 4 0 (.object "SameTuesday$Town") := ⟨"SameTuesday$Life", zF_Life, 12, "SameTuesday$Life", zt_Life, rfl, by decide, zi_Life, zb_mem 128 rfl rfl, Or.inl rfl, zk_Life, zn_Life, rfl, rfl, rfl⟩
set_option maxRecDepth 20000 in
theorem f_Life_15_4 : zb_FL "SameTuesday$Life" 15 4 1 := ⟨"SameTuesday$Life", zF_Life, 12, "SameTuesday$Life", rfl, by decide, zi_Life, zb_mem 129 rfl rfl, Or.inl rfl⟩
set_option maxRecDepth 20000 in
theorem p_Life_15_4 : zb_PF "SameTuesday$Life" 15 4 1 (.array .int) := ⟨"SameTuesday$Life", zF_Life, 12, "SameTuesday$Life", zt_Life, rfl, by decide, zi_Life, zb_mem 129 rfl rfl, Or.inl rfl, zk_Life, zn_Life, rfl, rfl, rfl⟩
set_option maxRecDepth 20000 in
theorem f_Life_19_4 : zb_FL "SameTuesday$Life" 19 4 2 := ⟨"SameTuesday$Life", zF_Life, 12, "SameTuesday$Life", rfl, by decide, zi_Life, zb_mem 130 rfl rfl, Or.inl rfl⟩
set_option maxRecDepth 20000 in
theorem p_Life_19_4 : zb_PF "SameTuesday$Life" 19 4 2 (.array .int) := ⟨"SameTuesday$Life", zF_Life, 12, "SameTuesday$Life", zt_Life, rfl, by decide, zi_Life, zb_mem 130 rfl rfl, Or.inl rfl, zk_Life, zn_Life, rfl, rfl, rfl⟩
set_option maxRecDepth 20000 in
theorem f_Life_22_4 : zb_FL "SameTuesday$Life" 22 4 3 := ⟨"SameTuesday$Life", zF_Life, 12, "SameTuesday$Life", rfl, by decide, zi_Life, zb_mem 131 rfl rfl, Or.inl rfl⟩
set_option maxRecDepth 20000 in
theorem p_Life_22_4 : zb_PL "SameTuesday$Life" 22 4 3 .int := ⟨"SameTuesday$Life", zF_Life, 12, "SameTuesday$Life", zt_Life, rfl, by decide, zi_Life, zb_mem 131 rfl rfl, Or.inl rfl, zk_Life, zn_Life, rfl, rfl⟩
set_option maxRecDepth 20000 in
theorem f_Life_26_4 : zb_FL "SameTuesday$Life" 26 4 4 := ⟨"SameTuesday$Life", zF_Life, 12, "SameTuesday$Life", rfl, by decide, zi_Life, zb_mem 132 rfl rfl, Or.inl rfl⟩
set_option maxRecDepth 20000 in
theorem p_Life_26_4 : zb_PF "SameTuesday$Life" 26 4 4 (.array .long) := ⟨"SameTuesday$Life", zF_Life, 12, "SameTuesday$Life", zt_Life, rfl, by decide, zi_Life, zb_mem 132 rfl rfl, Or.inl rfl, zk_Life, zn_Life, rfl, rfl, rfl⟩
set_option maxRecDepth 20000 in
theorem f_Life_30_4 : zb_FL "SameTuesday$Life" 30 4 5 := ⟨"SameTuesday$Life", zF_Life, 12, "SameTuesday$Life", rfl, by decide, zi_Life, zb_mem 133 rfl rfl, Or.inl rfl⟩
set_option maxRecDepth 20000 in
theorem p_Life_30_4 : zb_PL "SameTuesday$Life" 30 4 5 .long := ⟨"SameTuesday$Life", zF_Life, 12, "SameTuesday$Life", zt_Life, rfl, by decide, zi_Life, zb_mem 133 rfl rfl, Or.inl rfl, zk_Life, zn_Life, rfl, rfl⟩
set_option maxRecDepth 20000 in
theorem f_Life_34_4 : zb_FL "SameTuesday$Life" 34 4 6 := ⟨"SameTuesday$Life", zF_Life, 12, "SameTuesday$Life", rfl, by decide, zi_Life, zb_mem 134 rfl rfl, Or.inl rfl⟩
set_option maxRecDepth 20000 in
theorem p_Life_34_4 : zb_PL "SameTuesday$Life" 34 4 6 (.object "SameTuesday$Deed") := ⟨"SameTuesday$Life", zF_Life, 12, "SameTuesday$Life", zt_Life, rfl, by decide, zi_Life, zb_mem 134 rfl rfl, Or.inl rfl, zk_Life, zn_Life, rfl, rfl⟩
set_option maxRecDepth 20000 in
theorem f_Life_38_4 : zb_FL "SameTuesday$Life" 38 4 7 := ⟨"SameTuesday$Life", zF_Life, 12, "SameTuesday$Life", rfl, by decide, zi_Life, zb_mem 135 rfl rfl, Or.inl rfl⟩
set_option maxRecDepth 20000 in
theorem p_Life_38_4 : zb_PL "SameTuesday$Life" 38 4 7 .int := ⟨"SameTuesday$Life", zF_Life, 12, "SameTuesday$Life", zt_Life, rfl, by decide, zi_Life, zb_mem 135 rfl rfl, Or.inl rfl, zk_Life, zn_Life, rfl, rfl⟩
set_option maxRecDepth 20000 in
theorem f_Life_41_4 : zb_FL "SameTuesday$Life" 41 4 8 := ⟨"SameTuesday$Life", zF_Life, 12, "SameTuesday$Life", rfl, by decide, zi_Life, zb_mem 136 rfl rfl, Or.inl rfl⟩
set_option maxRecDepth 20000 in
theorem p_Life_41_4 : zb_PL "SameTuesday$Life" 41 4 8 .int := ⟨"SameTuesday$Life", zF_Life, 12, "SameTuesday$Life", zt_Life, rfl, by decide, zi_Life, zb_mem 136 rfl rfl, Or.inl rfl, zk_Life, zn_Life, rfl, rfl⟩
set_option maxRecDepth 20000 in
theorem f_Life_44_4 : zb_FL "SameTuesday$Life" 44 4 9 := ⟨"SameTuesday$Life", zF_Life, 12, "SameTuesday$Life", rfl, by decide, zi_Life, zb_mem 137 rfl rfl, Or.inl rfl⟩
set_option maxRecDepth 20000 in
theorem p_Life_44_4 : zb_PL "SameTuesday$Life" 44 4 9 .int := ⟨"SameTuesday$Life", zF_Life, 12, "SameTuesday$Life", zt_Life, rfl, by decide, zi_Life, zb_mem 137 rfl rfl, Or.inl rfl, zk_Life, zn_Life, rfl, rfl⟩
set_option maxRecDepth 20000 in
theorem f_Life_47_4 : zb_FL "SameTuesday$Life" 47 4 10 := ⟨"SameTuesday$Life", zF_Life, 12, "SameTuesday$Life", rfl, by decide, zi_Life, zb_mem 138 rfl rfl, Or.inl rfl⟩
set_option maxRecDepth 20000 in
theorem p_Life_47_4 : zb_PL "SameTuesday$Life" 47 4 10 (.object "SameTuesday$Deed") := ⟨"SameTuesday$Life", zF_Life, 12, "SameTuesday$Life", zt_Life, rfl, by decide, zi_Life, zb_mem 138 rfl rfl, Or.inl rfl, zk_Life, zn_Life, rfl, rfl⟩
set_option maxRecDepth 20000 in
theorem f_Life_50_4 : zb_FL "SameTuesday$Life" 50 4 11 := ⟨"SameTuesday$Life", zF_Life, 12, "SameTuesday$Life", rfl, by decide, zi_Life, zb_mem 139 rfl rfl, Or.inl rfl⟩
set_option maxRecDepth 20000 in
theorem p_Life_50_4 : zb_PL "SameTuesday$Life" 50 4 11 .int := ⟨"SameTuesday$Life", zF_Life, 12, "SameTuesday$Life", zt_Life, rfl, by decide, zi_Life, zb_mem 139 rfl rfl, Or.inl rfl, zk_Life, zn_Life, rfl, rfl⟩
set_option maxRecDepth 20000 in
theorem f_Life_118_1 : zb_FL "SameTuesday$Life" 118 1 3 := ⟨"SameTuesday$Deed", zF_Deed, 5, "SameTuesday$Deed", rfl, by decide, zi_Deed, zb_mem 432 rfl rfl, Or.inl rfl⟩
set_option maxRecDepth 20000 in
theorem l_Life_53 : zl_V "SameTuesday$Life" 53 y_Sht_cellAt b_Sht_cellAt 2 (some .int) 1 := ⟨⟨zb_mem 538 rfl rfl, zb_mem 51 rfl rfl, zb_mem 300 rfl rfl, by decide, by decide +kernel⟩, zb_mem 298 rfl rfl, zb_mem 299 rfl rfl⟩
set_option maxRecDepth 20000 in
theorem l_Life_59 : zl_N "SameTuesday$Life" 59 y_Tue_isMinute "SameTuesday" b_Tue_isMinute 1 (some .boolean) 1 := ⟨List.mem_of_getElem? (i := 2) rfl, zb_mem 50 rfl rfl, zb_mem 521 rfl rfl, by decide, by decide +kernel, zb_mem 520 rfl rfl⟩
set_option maxRecDepth 20000 in
theorem l_Life_63 : zl_V "SameTuesday$Life" 63 y_Twn_deedOf b_Twn_deedOf 2 (some (.object "SameTuesday$Deed")) 1 := ⟨⟨zb_mem 540 rfl rfl, zb_mem 52 rfl rfl, zb_mem 498 rfl rfl, by decide, by decide +kernel⟩, zb_mem 496 rfl rfl, zb_mem 497 rfl rfl⟩
set_option maxRecDepth 20000 in
theorem l_Life_69 : zl_V "SameTuesday$Life" 69 y_Twn_minuteInDay b_Twn_minuteInDay 2 (some .int) 1 := ⟨⟨zb_mem 545 rfl rfl, zb_mem 52 rfl rfl, zb_mem 548 rfl rfl, by decide, by decide +kernel⟩, zb_mem 546 rfl rfl, zb_mem 547 rfl rfl⟩
set_option maxRecDepth 20000 in
theorem l_Life_78 : zl_V "SameTuesday$Life" 78 y_Twn_happenIn b_Twn_happenIn 9 (some .long) 3 := ⟨⟨zb_mem 550 rfl rfl, zb_mem 52 rfl rfl, zb_mem 553 rfl rfl, by decide, by decide +kernel⟩, zb_mem 551 rfl rfl, zb_mem 552 rfl rfl⟩
set_option maxRecDepth 20000 in
theorem l_Life_82 : zl_V "SameTuesday$Life" 82 y_Life_endDeeds b_Life_endDeeds 2 none 1 := ⟨⟨zb_mem 568 rfl rfl, zb_mem 53 rfl rfl, zb_mem 571 rfl rfl, by decide, by decide +kernel⟩, zb_mem 570 rfl rfl, zb_mem 8 rfl rfl⟩
set_option maxRecDepth 20000 in
theorem l_Life_86 : zl_V "SameTuesday$Life" 86 y_Life_beginPairs b_Life_beginPairs 3 none 1 := ⟨⟨zb_mem 577 rfl rfl, zb_mem 53 rfl rfl, zb_mem 580 rfl rfl, by decide, by decide +kernel⟩, zb_mem 579 rfl rfl, zb_mem 9 rfl rfl⟩
set_option maxRecDepth 20000 in
theorem l_Life_89 : zl_V "SameTuesday$Life" 89 y_Life_noteWrong b_Life_noteWrong 2 none 1 := ⟨⟨zb_mem 597 rfl rfl, zb_mem 53 rfl rfl, zb_mem 600 rfl rfl, by decide, by decide +kernel⟩, zb_mem 599 rfl rfl, zb_mem 13 rfl rfl⟩
set_option maxRecDepth 20000 in
theorem l_Life_92 : zl_S "SameTuesday$Life" 92 y_JLong_numberOfTrailingZeros b_JLong_numberOfTrailingZeros 3 (some .int) 1 := ⟨⟨zb_mem 601 rfl rfl, zb_mem 64 rfl rfl, zb_mem 603 rfl rfl, by decide, by decide +kernel⟩, zb_mem 602 rfl rfl⟩
set_option maxRecDepth 20000 in
theorem l_Life_98 : zl_V "SameTuesday$Life" 98 y_Deed_after b_Deed_after 9 (some .long) 1 := ⟨⟨zb_mem 572 rfl rfl, zb_mem 63 rfl rfl, zb_mem 575 rfl rfl, by decide, by decide +kernel⟩, zb_mem 573 rfl rfl, zb_mem 574 rfl rfl⟩
set_option maxRecDepth 20000 in
theorem l_Life_104 : zl_V "SameTuesday$Life" 104 y_Life_minuteOfPair b_Life_minuteOfPair 2 (some .int) 1 := ⟨⟨zb_mem 581 rfl rfl, zb_mem 53 rfl rfl, zb_mem 584 rfl rfl, by decide, by decide +kernel⟩, zb_mem 583 rfl rfl, zb_mem 10 rfl rfl⟩
set_option maxRecDepth 20000 in
theorem l_Life_107 : zl_V "SameTuesday$Life" 107 y_Life_deedOfPair b_Life_deedOfPair 2 (some (.object "SameTuesday$Deed")) 1 := ⟨⟨zb_mem 585 rfl rfl, zb_mem 53 rfl rfl, zb_mem 588 rfl rfl, by decide, by decide +kernel⟩, zb_mem 587 rfl rfl, zb_mem 11 rfl rfl⟩
set_option maxRecDepth 20000 in
theorem l_Life_110 : zl_V "SameTuesday$Life" 110 y_Life_begin b_Life_begin 3 (some .boolean) 2 := ⟨⟨zb_mem 589 rfl rfl, zb_mem 53 rfl rfl, zb_mem 592 rfl rfl, by decide, by decide +kernel⟩, zb_mem 591 rfl rfl, zb_mem 12 rfl rfl⟩
set_option maxRecDepth 20000 in
theorem l_Life_114 : zl_V "SameTuesday$Life" 114 y_Twn_openTo b_Twn_openTo 5 (some .long) 3 := ⟨⟨zb_mem 593 rfl rfl, zb_mem 52 rfl rfl, zb_mem 596 rfl rfl, by decide, by decide +kernel⟩, zb_mem 594 rfl rfl, zb_mem 595 rfl rfl⟩
set_option maxRecDepth 20000 in
theorem l_Life_121 : zl_V "SameTuesday$Life" 121 y_Life_factsAt b_Life_factsAt 5 (some .int) 2 := ⟨⟨zb_mem 624 rfl rfl, zb_mem 53 rfl rfl, zb_mem 544 rfl rfl, by decide, by decide +kernel⟩, zb_mem 542 rfl rfl, zb_mem 543 rfl rfl⟩
set_option maxRecDepth 20000 in
theorem l_Life_124 : zl_V "SameTuesday$Life" 124 y_Twn_happeningCount b_Twn_happeningCount 1 (some .int) 0 := ⟨⟨zb_mem 625 rfl rfl, zb_mem 52 rfl rfl, zb_mem 474 rfl rfl, by decide, by decide +kernel⟩, zb_mem 472 rfl rfl, zb_mem 473 rfl rfl⟩
set_option maxRecDepth 20000 in
theorem l_Life_128 : zl_V "SameTuesday$Life" 128 y_Twn_minuteCount b_Twn_minuteCount 1 (some .int) 0 := ⟨⟨zb_mem 766 rfl rfl, zb_mem 52 rfl rfl, zb_mem 510 rfl rfl, by decide, by decide +kernel⟩, zb_mem 508 rfl rfl, zb_mem 509 rfl rfl⟩
set_option maxRecDepth 20000 in
theorem l_Life_131 : zl_V "SameTuesday$Life" 131 y_Twn_deedCount b_Twn_deedCount 1 (some .int) 0 := ⟨⟨zb_mem 767 rfl rfl, zb_mem 52 rfl rfl, zb_mem 770 rfl rfl, by decide, by decide +kernel⟩, zb_mem 768 rfl rfl, zb_mem 769 rfl rfl⟩
set_option maxRecDepth 20000 in
theorem l_Life_134 : zl_V "SameTuesday$Life" 134 y_Life_endsWith b_Life_endsWith 5 (some .boolean) 3 := ⟨⟨zb_mem 771 rfl rfl, zb_mem 53 rfl rfl, zb_mem 774 rfl rfl, by decide, by decide +kernel⟩, zb_mem 773 rfl rfl, zb_mem 19 rfl rfl⟩
theorem d_Life_init_0 : zd_l .aload_n .aload b_Life_init 0 0 1 := Or.inl ⟨0, rfl, by decide +kernel, rfl⟩
theorem d_Life_init_1 : zd b_Life_init 1 (.invokespecial 3) 3 4 := ⟨by decide +kernel, rfl⟩
theorem d_Life_init_4 : zd_l .aload_n .aload b_Life_init 4 0 5 := Or.inl ⟨0, rfl, by decide +kernel, rfl⟩
theorem d_Life_init_5 : zd_l .aload_n .aload b_Life_init 5 1 6 := Or.inl ⟨1, rfl, by decide +kernel, rfl⟩
theorem d_Life_init_6 : zd b_Life_init 6 (.putfield 9) 3 9 := ⟨by decide +kernel, rfl⟩
theorem d_Life_init_9 : zd_l .aload_n .aload b_Life_init 9 0 10 := Or.inl ⟨0, rfl, by decide +kernel, rfl⟩
theorem d_Life_init_10 : zd_k b_Life_init "SameTuesday$Life" 10 20 12 := Or.inr (Or.inl ⟨20, by decide +kernel, by decide, rfl⟩)
theorem d_Life_init_12 : zd b_Life_init 12 (.newarray .int) 2 14 := ⟨by decide +kernel, rfl⟩
theorem d_Life_init_14 : zd b_Life_init 14 (.putfield 15) 3 17 := ⟨by decide +kernel, rfl⟩
theorem d_Life_init_17 : zd_l .aload_n .aload b_Life_init 17 0 18 := Or.inl ⟨0, rfl, by decide +kernel, rfl⟩
theorem d_Life_init_18 : zd_k b_Life_init "SameTuesday$Life" 18 20 20 := Or.inr (Or.inl ⟨20, by decide +kernel, by decide, rfl⟩)
theorem d_Life_init_20 : zd b_Life_init 20 (.newarray .int) 2 22 := ⟨by decide +kernel, rfl⟩
theorem d_Life_init_22 : zd b_Life_init 22 (.putfield 19) 3 25 := ⟨by decide +kernel, rfl⟩
theorem d_Life_init_25 : zd_l .aload_n .aload b_Life_init 25 0 26 := Or.inl ⟨0, rfl, by decide +kernel, rfl⟩
theorem d_Life_init_26 : zd_k b_Life_init "SameTuesday$Life" 26 0 27 := Or.inl ⟨0, by decide +kernel, by decide, rfl⟩
theorem d_Life_init_27 : zd b_Life_init 27 (.putfield 22) 3 30 := ⟨by decide +kernel, rfl⟩
theorem d_Life_init_30 : zd_l .aload_n .aload b_Life_init 30 0 31 := Or.inl ⟨0, rfl, by decide +kernel, rfl⟩
theorem d_Life_init_31 : zd_k b_Life_init "SameTuesday$Life" 31 60 33 := Or.inr (Or.inl ⟨60, by decide +kernel, by decide, rfl⟩)
theorem d_Life_init_33 : zd b_Life_init 33 (.newarray .long) 2 35 := ⟨by decide +kernel, rfl⟩
theorem d_Life_init_35 : zd b_Life_init 35 (.putfield 26) 3 38 := ⟨by decide +kernel, rfl⟩
theorem d_Life_init_38 : zd_l .aload_n .aload b_Life_init 38 0 39 := Or.inl ⟨0, rfl, by decide +kernel, rfl⟩
theorem d_Life_init_39 : zd_kl b_Life_init "SameTuesday$Life" 39 1 40 := Or.inl ⟨1, by decide +kernel, by decide, rfl⟩
theorem d_Life_init_40 : zd b_Life_init 40 (.putfield 30) 3 43 := ⟨by decide +kernel, rfl⟩
theorem d_Life_init_43 : zd_l .aload_n .aload b_Life_init 43 0 44 := Or.inl ⟨0, rfl, by decide +kernel, rfl⟩
theorem d_Life_init_44 : zd b_Life_init 44 .aconst_null 1 45 := ⟨by decide +kernel, rfl⟩
theorem d_Life_init_45 : zd b_Life_init 45 (.putfield 34) 3 48 := ⟨by decide +kernel, rfl⟩
theorem d_Life_init_48 : zd_l .aload_n .aload b_Life_init 48 0 49 := Or.inl ⟨0, rfl, by decide +kernel, rfl⟩
theorem d_Life_init_49 : zd_k b_Life_init "SameTuesday$Life" 49 0 50 := Or.inl ⟨0, by decide +kernel, by decide, rfl⟩
theorem d_Life_init_50 : zd b_Life_init 50 (.putfield 38) 3 53 := ⟨by decide +kernel, rfl⟩
theorem d_Life_init_53 : zd_l .aload_n .aload b_Life_init 53 0 54 := Or.inl ⟨0, rfl, by decide +kernel, rfl⟩
theorem d_Life_init_54 : zd_k b_Life_init "SameTuesday$Life" 54 0 55 := Or.inl ⟨0, by decide +kernel, by decide, rfl⟩
theorem d_Life_init_55 : zd b_Life_init 55 (.putfield 41) 3 58 := ⟨by decide +kernel, rfl⟩
theorem d_Life_init_58 : zd_l .aload_n .aload b_Life_init 58 0 59 := Or.inl ⟨0, rfl, by decide +kernel, rfl⟩
theorem d_Life_init_59 : zd_k b_Life_init "SameTuesday$Life" 59 (-9) 61 := Or.inr (Or.inl ⟨(-9), by decide +kernel, by decide, rfl⟩)
theorem d_Life_init_61 : zd b_Life_init 61 (.putfield 44) 3 64 := ⟨by decide +kernel, rfl⟩
theorem d_Life_init_64 : zd_l .aload_n .aload b_Life_init 64 0 65 := Or.inl ⟨0, rfl, by decide +kernel, rfl⟩
theorem d_Life_init_65 : zd b_Life_init 65 .aconst_null 1 66 := ⟨by decide +kernel, rfl⟩
theorem d_Life_init_66 : zd b_Life_init 66 (.putfield 47) 3 69 := ⟨by decide +kernel, rfl⟩
theorem d_Life_init_69 : zd_l .aload_n .aload b_Life_init 69 0 70 := Or.inl ⟨0, rfl, by decide +kernel, rfl⟩
theorem d_Life_init_70 : zd_k b_Life_init "SameTuesday$Life" 70 0 71 := Or.inl ⟨0, by decide +kernel, by decide, rfl⟩
theorem d_Life_init_71 : zd b_Life_init 71 (.putfield 50) 3 74 := ⟨by decide +kernel, rfl⟩
theorem d_Life_init_74 : zd b_Life_init 74 .return_ 1 75 := ⟨by decide +kernel, rfl⟩
theorem d_Life_readPairs_0 : zd_l .aload_n .aload b_Life_readPairs 0 0 1 := Or.inl ⟨0, rfl, by decide +kernel, rfl⟩
theorem d_Life_readPairs_1 : zd_k b_Life_readPairs "SameTuesday$Life" 1 0 2 := Or.inl ⟨0, by decide +kernel, by decide, rfl⟩
theorem d_Life_readPairs_2 : zd b_Life_readPairs 2 (.putfield 22) 3 5 := ⟨by decide +kernel, rfl⟩
theorem d_Life_readPairs_5 : zd_k b_Life_readPairs "SameTuesday$Life" 5 0 6 := Or.inl ⟨0, by decide +kernel, by decide, rfl⟩
theorem d_Life_readPairs_6 : zd_l .istore_n .istore b_Life_readPairs 6 4 8 := Or.inr ⟨by decide +kernel, rfl⟩
theorem d_Life_readPairs_8 : zd_l .iload_n .iload b_Life_readPairs 8 4 10 := Or.inr ⟨by decide +kernel, rfl⟩
theorem d_Life_readPairs_10 : zd_l .iload_n .iload b_Life_readPairs 10 3 11 := Or.inl ⟨3, rfl, by decide +kernel, rfl⟩
theorem d_Life_readPairs_11 : zd_b b_Life_readPairs 11 (.if_icmp .ge) 14 104 := ⟨93, by decide +kernel, by decide, rfl⟩
theorem d_Life_readPairs_14 : zd_l .iload_n .iload b_Life_readPairs 14 4 16 := Or.inr ⟨by decide +kernel, rfl⟩
theorem d_Life_readPairs_16 : zd_k b_Life_readPairs "SameTuesday$Life" 16 20 18 := Or.inr (Or.inl ⟨20, by decide +kernel, by decide, rfl⟩)
theorem d_Life_readPairs_18 : zd_b b_Life_readPairs 18 (.if_icmp .ge) 21 104 := ⟨86, by decide +kernel, by decide, rfl⟩
theorem d_Life_readPairs_21 : zd_l .aload_n .aload b_Life_readPairs 21 1 22 := Or.inl ⟨1, rfl, by decide +kernel, rfl⟩
theorem d_Life_readPairs_22 : zd_l .iload_n .iload b_Life_readPairs 22 2 23 := Or.inl ⟨2, rfl, by decide +kernel, rfl⟩
theorem d_Life_readPairs_23 : zd_k b_Life_readPairs "SameTuesday$Life" 23 2 24 := Or.inl ⟨2, by decide +kernel, by decide, rfl⟩
theorem d_Life_readPairs_24 : zd_l .iload_n .iload b_Life_readPairs 24 4 26 := Or.inr ⟨by decide +kernel, rfl⟩
theorem d_Life_readPairs_26 : zd b_Life_readPairs 26 .imul 1 27 := ⟨by decide +kernel, rfl⟩
theorem d_Life_readPairs_27 : zd b_Life_readPairs 27 .iadd 1 28 := ⟨by decide +kernel, rfl⟩
theorem d_Life_readPairs_28 : zd b_Life_readPairs 28 (.invokevirtual 53) 3 31 := ⟨by decide +kernel, rfl⟩
theorem d_Life_readPairs_31 : zd_l .istore_n .istore b_Life_readPairs 31 5 33 := Or.inr ⟨by decide +kernel, rfl⟩
theorem d_Life_readPairs_33 : zd_l .aload_n .aload b_Life_readPairs 33 1 34 := Or.inl ⟨1, rfl, by decide +kernel, rfl⟩
theorem d_Life_readPairs_34 : zd_l .iload_n .iload b_Life_readPairs 34 2 35 := Or.inl ⟨2, rfl, by decide +kernel, rfl⟩
theorem d_Life_readPairs_35 : zd_k b_Life_readPairs "SameTuesday$Life" 35 2 36 := Or.inl ⟨2, by decide +kernel, by decide, rfl⟩
theorem d_Life_readPairs_36 : zd_l .iload_n .iload b_Life_readPairs 36 4 38 := Or.inr ⟨by decide +kernel, rfl⟩
theorem d_Life_readPairs_38 : zd b_Life_readPairs 38 .imul 1 39 := ⟨by decide +kernel, rfl⟩
theorem d_Life_readPairs_39 : zd b_Life_readPairs 39 .iadd 1 40 := ⟨by decide +kernel, rfl⟩
theorem d_Life_readPairs_40 : zd_k b_Life_readPairs "SameTuesday$Life" 40 1 41 := Or.inl ⟨1, by decide +kernel, by decide, rfl⟩
theorem d_Life_readPairs_41 : zd b_Life_readPairs 41 .iadd 1 42 := ⟨by decide +kernel, rfl⟩
theorem d_Life_readPairs_42 : zd b_Life_readPairs 42 (.invokevirtual 53) 3 45 := ⟨by decide +kernel, rfl⟩
theorem d_Life_readPairs_45 : zd_l .istore_n .istore b_Life_readPairs 45 6 47 := Or.inr ⟨by decide +kernel, rfl⟩
theorem d_Life_readPairs_47 : zd_l .iload_n .iload b_Life_readPairs 47 5 49 := Or.inr ⟨by decide +kernel, rfl⟩
theorem d_Life_readPairs_49 : zd b_Life_readPairs 49 (.invokestatic 59) 3 52 := ⟨by decide +kernel, rfl⟩
theorem d_Life_readPairs_52 : zd_b b_Life_readPairs 52 (.ifCond .ne) 55 58 := ⟨6, by decide +kernel, by decide, rfl⟩
theorem d_Life_readPairs_55 : zd_k b_Life_readPairs "SameTuesday$Life" 55 (-2) 57 := Or.inr (Or.inl ⟨(-2), by decide +kernel, by decide, rfl⟩)
theorem d_Life_readPairs_57 : zd b_Life_readPairs 57 .ireturn 1 58 := ⟨by decide +kernel, rfl⟩
theorem d_Life_readPairs_58 : zd_l .aload_n .aload b_Life_readPairs 58 0 59 := Or.inl ⟨0, rfl, by decide +kernel, rfl⟩
theorem d_Life_readPairs_59 : zd b_Life_readPairs 59 (.getfield 9) 3 62 := ⟨by decide +kernel, rfl⟩
theorem d_Life_readPairs_62 : zd_l .iload_n .iload b_Life_readPairs 62 6 64 := Or.inr ⟨by decide +kernel, rfl⟩
theorem d_Life_readPairs_64 : zd b_Life_readPairs 64 (.invokevirtual 63) 3 67 := ⟨by decide +kernel, rfl⟩
theorem d_Life_readPairs_67 : zd_b b_Life_readPairs 67 .ifnonnull 70 72 := ⟨5, by decide +kernel, by decide, rfl⟩
theorem d_Life_readPairs_70 : zd_k b_Life_readPairs "SameTuesday$Life" 70 (-1) 71 := Or.inl ⟨(-1), by decide +kernel, by decide, rfl⟩
theorem d_Life_readPairs_71 : zd b_Life_readPairs 71 .ireturn 1 72 := ⟨by decide +kernel, rfl⟩
theorem d_Life_readPairs_72 : zd_l .aload_n .aload b_Life_readPairs 72 0 73 := Or.inl ⟨0, rfl, by decide +kernel, rfl⟩
theorem d_Life_readPairs_73 : zd b_Life_readPairs 73 (.getfield 15) 3 76 := ⟨by decide +kernel, rfl⟩
theorem d_Life_readPairs_76 : zd_l .iload_n .iload b_Life_readPairs 76 4 78 := Or.inr ⟨by decide +kernel, rfl⟩
theorem d_Life_readPairs_78 : zd_l .iload_n .iload b_Life_readPairs 78 5 80 := Or.inr ⟨by decide +kernel, rfl⟩
theorem d_Life_readPairs_80 : zd b_Life_readPairs 80 .iastore 1 81 := ⟨by decide +kernel, rfl⟩
theorem d_Life_readPairs_81 : zd_l .aload_n .aload b_Life_readPairs 81 0 82 := Or.inl ⟨0, rfl, by decide +kernel, rfl⟩
theorem d_Life_readPairs_82 : zd b_Life_readPairs 82 (.getfield 19) 3 85 := ⟨by decide +kernel, rfl⟩
theorem d_Life_readPairs_85 : zd_l .iload_n .iload b_Life_readPairs 85 4 87 := Or.inr ⟨by decide +kernel, rfl⟩
theorem d_Life_readPairs_87 : zd_l .iload_n .iload b_Life_readPairs 87 6 89 := Or.inr ⟨by decide +kernel, rfl⟩
theorem d_Life_readPairs_89 : zd b_Life_readPairs 89 .iastore 1 90 := ⟨by decide +kernel, rfl⟩
theorem d_Life_readPairs_90 : zd_l .aload_n .aload b_Life_readPairs 90 0 91 := Or.inl ⟨0, rfl, by decide +kernel, rfl⟩
theorem d_Life_readPairs_91 : zd_l .iload_n .iload b_Life_readPairs 91 4 93 := Or.inr ⟨by decide +kernel, rfl⟩
theorem d_Life_readPairs_93 : zd_k b_Life_readPairs "SameTuesday$Life" 93 1 94 := Or.inl ⟨1, by decide +kernel, by decide, rfl⟩
theorem d_Life_readPairs_94 : zd b_Life_readPairs 94 .iadd 1 95 := ⟨by decide +kernel, rfl⟩
theorem d_Life_readPairs_95 : zd b_Life_readPairs 95 (.putfield 22) 3 98 := ⟨by decide +kernel, rfl⟩
theorem d_Life_readPairs_98 : zd_i b_Life_readPairs 98 4 1 1 101 := ⟨by decide +kernel, by decide, rfl⟩
theorem d_Life_readPairs_101 : zd_b b_Life_readPairs 101 .goto 104 8 := ⟨(-93), by decide +kernel, by decide, rfl⟩
theorem d_Life_readPairs_104 : zd_k b_Life_readPairs "SameTuesday$Life" 104 0 105 := Or.inl ⟨0, by decide +kernel, by decide, rfl⟩
theorem d_Life_readPairs_105 : zd b_Life_readPairs 105 .ireturn 1 106 := ⟨by decide +kernel, rfl⟩
theorem d_Life_firstWrong_0 : zd_l .aload_n .aload b_Life_firstWrong 0 0 1 := Or.inl ⟨0, rfl, by decide +kernel, rfl⟩
theorem d_Life_firstWrong_1 : zd b_Life_firstWrong 1 (.getfield 44) 3 4 := ⟨by decide +kernel, rfl⟩
theorem d_Life_firstWrong_4 : zd b_Life_firstWrong 4 .ireturn 1 5 := ⟨by decide +kernel, rfl⟩
theorem d_Life_factsAt_0 : zd_l .aload_n .aload b_Life_factsAt 0 0 1 := Or.inl ⟨0, rfl, by decide +kernel, rfl⟩
theorem d_Life_factsAt_1 : zd_kl b_Life_factsAt "SameTuesday$Life" 1 1 2 := Or.inl ⟨1, by decide +kernel, by decide, rfl⟩
theorem d_Life_factsAt_2 : zd b_Life_factsAt 2 (.putfield 30) 3 5 := ⟨by decide +kernel, rfl⟩
theorem d_Life_factsAt_5 : zd_l .aload_n .aload b_Life_factsAt 5 0 6 := Or.inl ⟨0, rfl, by decide +kernel, rfl⟩
theorem d_Life_factsAt_6 : zd b_Life_factsAt 6 .aconst_null 1 7 := ⟨by decide +kernel, rfl⟩
theorem d_Life_factsAt_7 : zd b_Life_factsAt 7 (.putfield 34) 3 10 := ⟨by decide +kernel, rfl⟩
theorem d_Life_factsAt_10 : zd_l .aload_n .aload b_Life_factsAt 10 0 11 := Or.inl ⟨0, rfl, by decide +kernel, rfl⟩
theorem d_Life_factsAt_11 : zd_k b_Life_factsAt "SameTuesday$Life" 11 0 12 := Or.inl ⟨0, by decide +kernel, by decide, rfl⟩
theorem d_Life_factsAt_12 : zd b_Life_factsAt 12 (.putfield 41) 3 15 := ⟨by decide +kernel, rfl⟩
theorem d_Life_factsAt_15 : zd_l .aload_n .aload b_Life_factsAt 15 0 16 := Or.inl ⟨0, rfl, by decide +kernel, rfl⟩
theorem d_Life_factsAt_16 : zd_k b_Life_factsAt "SameTuesday$Life" 16 (-9) 18 := Or.inr (Or.inl ⟨(-9), by decide +kernel, by decide, rfl⟩)
theorem d_Life_factsAt_18 : zd b_Life_factsAt 18 (.putfield 44) 3 21 := ⟨by decide +kernel, rfl⟩
theorem d_Life_factsAt_21 : zd_l .aload_n .aload b_Life_factsAt 21 0 22 := Or.inl ⟨0, rfl, by decide +kernel, rfl⟩
theorem d_Life_factsAt_22 : zd b_Life_factsAt 22 (.getfield 9) 3 25 := ⟨by decide +kernel, rfl⟩
theorem d_Life_factsAt_25 : zd_l .iload_n .iload b_Life_factsAt 25 1 26 := Or.inl ⟨1, rfl, by decide +kernel, rfl⟩
theorem d_Life_factsAt_26 : zd b_Life_factsAt 26 (.invokevirtual 69) 3 29 := ⟨by decide +kernel, rfl⟩
theorem d_Life_factsAt_29 : zd_k b_Life_factsAt "SameTuesday$Life" 29 59 31 := Or.inr (Or.inl ⟨59, by decide +kernel, by decide, rfl⟩)
theorem d_Life_factsAt_31 : zd b_Life_factsAt 31 (.invokestatic 72) 3 34 := ⟨by decide +kernel, rfl⟩
theorem d_Life_factsAt_34 : zd_l .istore_n .istore b_Life_factsAt 34 3 35 := Or.inl ⟨3, rfl, by decide +kernel, rfl⟩
theorem d_Life_factsAt_35 : zd_k b_Life_factsAt "SameTuesday$Life" 35 0 36 := Or.inl ⟨0, by decide +kernel, by decide, rfl⟩
theorem d_Life_factsAt_36 : zd_l .istore_n .istore b_Life_factsAt 36 4 38 := Or.inr ⟨by decide +kernel, rfl⟩
theorem d_Life_factsAt_38 : zd_l .iload_n .iload b_Life_factsAt 38 4 40 := Or.inr ⟨by decide +kernel, rfl⟩
theorem d_Life_factsAt_40 : zd_l .iload_n .iload b_Life_factsAt 40 3 41 := Or.inl ⟨3, rfl, by decide +kernel, rfl⟩
theorem d_Life_factsAt_41 : zd_b b_Life_factsAt 41 (.if_icmp .gt) 44 98 := ⟨57, by decide +kernel, by decide, rfl⟩
theorem d_Life_factsAt_44 : zd_l .aload_n .aload b_Life_factsAt 44 0 45 := Or.inl ⟨0, rfl, by decide +kernel, rfl⟩
theorem d_Life_factsAt_45 : zd_l .aload_n .aload b_Life_factsAt 45 0 46 := Or.inl ⟨0, rfl, by decide +kernel, rfl⟩
theorem d_Life_factsAt_46 : zd b_Life_factsAt 46 (.getfield 9) 3 49 := ⟨by decide +kernel, rfl⟩
theorem d_Life_factsAt_49 : zd_l .iload_n .iload b_Life_factsAt 49 4 51 := Or.inr ⟨by decide +kernel, rfl⟩
theorem d_Life_factsAt_51 : zd_l .aload_n .aload b_Life_factsAt 51 0 52 := Or.inl ⟨0, rfl, by decide +kernel, rfl⟩
theorem d_Life_factsAt_52 : zd b_Life_factsAt 52 (.getfield 30) 3 55 := ⟨by decide +kernel, rfl⟩
theorem d_Life_factsAt_55 : zd_l .iload_n .iload b_Life_factsAt 55 2 56 := Or.inl ⟨2, rfl, by decide +kernel, rfl⟩
theorem d_Life_factsAt_56 : zd b_Life_factsAt 56 (.invokevirtual 78) 3 59 := ⟨by decide +kernel, rfl⟩
theorem d_Life_factsAt_59 : zd b_Life_factsAt 59 (.putfield 30) 3 62 := ⟨by decide +kernel, rfl⟩
theorem d_Life_factsAt_62 : zd_l .aload_n .aload b_Life_factsAt 62 0 63 := Or.inl ⟨0, rfl, by decide +kernel, rfl⟩
theorem d_Life_factsAt_63 : zd_l .iload_n .iload b_Life_factsAt 63 4 65 := Or.inr ⟨by decide +kernel, rfl⟩
theorem d_Life_factsAt_65 : zd b_Life_factsAt 65 (.invokevirtual 82) 3 68 := ⟨by decide +kernel, rfl⟩
theorem d_Life_factsAt_68 : zd_l .aload_n .aload b_Life_factsAt 68 0 69 := Or.inl ⟨0, rfl, by decide +kernel, rfl⟩
theorem d_Life_factsAt_69 : zd_l .iload_n .iload b_Life_factsAt 69 4 71 := Or.inr ⟨by decide +kernel, rfl⟩
theorem d_Life_factsAt_71 : zd b_Life_factsAt 71 (.invokevirtual 86) 3 74 := ⟨by decide +kernel, rfl⟩
theorem d_Life_factsAt_74 : zd_l .aload_n .aload b_Life_factsAt 74 0 75 := Or.inl ⟨0, rfl, by decide +kernel, rfl⟩
theorem d_Life_factsAt_75 : zd b_Life_factsAt 75 (.getfield 47) 3 78 := ⟨by decide +kernel, rfl⟩
theorem d_Life_factsAt_78 : zd_b b_Life_factsAt 78 .ifnonnull 81 92 := ⟨14, by decide +kernel, by decide, rfl⟩
theorem d_Life_factsAt_81 : zd_l .aload_n .aload b_Life_factsAt 81 0 82 := Or.inl ⟨0, rfl, by decide +kernel, rfl⟩
theorem d_Life_factsAt_82 : zd b_Life_factsAt 82 (.getfield 26) 3 85 := ⟨by decide +kernel, rfl⟩
theorem d_Life_factsAt_85 : zd_l .iload_n .iload b_Life_factsAt 85 4 87 := Or.inr ⟨by decide +kernel, rfl⟩
theorem d_Life_factsAt_87 : zd_l .aload_n .aload b_Life_factsAt 87 0 88 := Or.inl ⟨0, rfl, by decide +kernel, rfl⟩
theorem d_Life_factsAt_88 : zd b_Life_factsAt 88 (.getfield 30) 3 91 := ⟨by decide +kernel, rfl⟩
theorem d_Life_factsAt_91 : zd b_Life_factsAt 91 .lastore 1 92 := ⟨by decide +kernel, rfl⟩
theorem d_Life_factsAt_92 : zd_i b_Life_factsAt 92 4 1 1 95 := ⟨by decide +kernel, by decide, rfl⟩
theorem d_Life_factsAt_95 : zd_b b_Life_factsAt 95 .goto 98 38 := ⟨(-57), by decide +kernel, by decide, rfl⟩
theorem d_Life_factsAt_98 : zd_l .aload_n .aload b_Life_factsAt 98 0 99 := Or.inl ⟨0, rfl, by decide +kernel, rfl⟩
theorem d_Life_factsAt_99 : zd b_Life_factsAt 99 (.getfield 41) 3 102 := ⟨by decide +kernel, rfl⟩
theorem d_Life_factsAt_102 : zd_l .aload_n .aload b_Life_factsAt 102 0 103 := Or.inl ⟨0, rfl, by decide +kernel, rfl⟩
theorem d_Life_factsAt_103 : zd b_Life_factsAt 103 (.getfield 22) 3 106 := ⟨by decide +kernel, rfl⟩
theorem d_Life_factsAt_106 : zd_b b_Life_factsAt 106 (.if_icmp .ge) 109 117 := ⟨11, by decide +kernel, by decide, rfl⟩
theorem d_Life_factsAt_109 : zd_l .aload_n .aload b_Life_factsAt 109 0 110 := Or.inl ⟨0, rfl, by decide +kernel, rfl⟩
theorem d_Life_factsAt_110 : zd_l .aload_n .aload b_Life_factsAt 110 0 111 := Or.inl ⟨0, rfl, by decide +kernel, rfl⟩
theorem d_Life_factsAt_111 : zd b_Life_factsAt 111 (.getfield 41) 3 114 := ⟨by decide +kernel, rfl⟩
theorem d_Life_factsAt_114 : zd b_Life_factsAt 114 (.invokevirtual 89) 3 117 := ⟨by decide +kernel, rfl⟩
theorem d_Life_factsAt_117 : zd_l .aload_n .aload b_Life_factsAt 117 0 118 := Or.inl ⟨0, rfl, by decide +kernel, rfl⟩
theorem d_Life_factsAt_118 : zd b_Life_factsAt 118 (.getfield 30) 3 121 := ⟨by decide +kernel, rfl⟩
theorem d_Life_factsAt_121 : zd b_Life_factsAt 121 (.invokestatic 92) 3 124 := ⟨by decide +kernel, rfl⟩
theorem d_Life_factsAt_124 : zd b_Life_factsAt 124 .ireturn 1 125 := ⟨by decide +kernel, rfl⟩
theorem d_Life_endDeeds_0 : zd_l .aload_n .aload b_Life_endDeeds 0 0 1 := Or.inl ⟨0, rfl, by decide +kernel, rfl⟩
theorem d_Life_endDeeds_1 : zd b_Life_endDeeds 1 (.getfield 34) 3 4 := ⟨by decide +kernel, rfl⟩
theorem d_Life_endDeeds_4 : zd_b b_Life_endDeeds 4 .ifnull 7 35 := ⟨31, by decide +kernel, by decide, rfl⟩
theorem d_Life_endDeeds_7 : zd_l .aload_n .aload b_Life_endDeeds 7 0 8 := Or.inl ⟨0, rfl, by decide +kernel, rfl⟩
theorem d_Life_endDeeds_8 : zd b_Life_endDeeds 8 (.getfield 38) 3 11 := ⟨by decide +kernel, rfl⟩
theorem d_Life_endDeeds_11 : zd_l .iload_n .iload b_Life_endDeeds 11 1 12 := Or.inl ⟨1, rfl, by decide +kernel, rfl⟩
theorem d_Life_endDeeds_12 : zd_b b_Life_endDeeds 12 (.if_icmp .ne) 15 35 := ⟨23, by decide +kernel, by decide, rfl⟩
theorem d_Life_endDeeds_15 : zd_l .aload_n .aload b_Life_endDeeds 15 0 16 := Or.inl ⟨0, rfl, by decide +kernel, rfl⟩
theorem d_Life_endDeeds_16 : zd_l .aload_n .aload b_Life_endDeeds 16 0 17 := Or.inl ⟨0, rfl, by decide +kernel, rfl⟩
theorem d_Life_endDeeds_17 : zd b_Life_endDeeds 17 (.getfield 34) 3 20 := ⟨by decide +kernel, rfl⟩
theorem d_Life_endDeeds_20 : zd_l .aload_n .aload b_Life_endDeeds 20 0 21 := Or.inl ⟨0, rfl, by decide +kernel, rfl⟩
theorem d_Life_endDeeds_21 : zd b_Life_endDeeds 21 (.getfield 30) 3 24 := ⟨by decide +kernel, rfl⟩
theorem d_Life_endDeeds_24 : zd b_Life_endDeeds 24 (.invokevirtual 98) 3 27 := ⟨by decide +kernel, rfl⟩
theorem d_Life_endDeeds_27 : zd b_Life_endDeeds 27 (.putfield 30) 3 30 := ⟨by decide +kernel, rfl⟩
theorem d_Life_endDeeds_30 : zd_l .aload_n .aload b_Life_endDeeds 30 0 31 := Or.inl ⟨0, rfl, by decide +kernel, rfl⟩
theorem d_Life_endDeeds_31 : zd b_Life_endDeeds 31 .aconst_null 1 32 := ⟨by decide +kernel, rfl⟩
theorem d_Life_endDeeds_32 : zd b_Life_endDeeds 32 (.putfield 34) 3 35 := ⟨by decide +kernel, rfl⟩
theorem d_Life_endDeeds_35 : zd_l .aload_n .aload b_Life_endDeeds 35 0 36 := Or.inl ⟨0, rfl, by decide +kernel, rfl⟩
theorem d_Life_endDeeds_36 : zd b_Life_endDeeds 36 (.getfield 47) 3 39 := ⟨by decide +kernel, rfl⟩
theorem d_Life_endDeeds_39 : zd_b b_Life_endDeeds 39 .ifnull 42 65 := ⟨26, by decide +kernel, by decide, rfl⟩
theorem d_Life_endDeeds_42 : zd_l .aload_n .aload b_Life_endDeeds 42 0 43 := Or.inl ⟨0, rfl, by decide +kernel, rfl⟩
theorem d_Life_endDeeds_43 : zd b_Life_endDeeds 43 (.getfield 50) 3 46 := ⟨by decide +kernel, rfl⟩
theorem d_Life_endDeeds_46 : zd_l .iload_n .iload b_Life_endDeeds 46 1 47 := Or.inl ⟨1, rfl, by decide +kernel, rfl⟩
theorem d_Life_endDeeds_47 : zd_b b_Life_endDeeds 47 (.if_icmp .ne) 50 65 := ⟨18, by decide +kernel, by decide, rfl⟩
theorem d_Life_endDeeds_50 : zd_l .aload_n .aload b_Life_endDeeds 50 0 51 := Or.inl ⟨0, rfl, by decide +kernel, rfl⟩
theorem d_Life_endDeeds_51 : zd_l .aload_n .aload b_Life_endDeeds 51 0 52 := Or.inl ⟨0, rfl, by decide +kernel, rfl⟩
theorem d_Life_endDeeds_52 : zd b_Life_endDeeds 52 (.getfield 47) 3 55 := ⟨by decide +kernel, rfl⟩
theorem d_Life_endDeeds_55 : zd_l .aload_n .aload b_Life_endDeeds 55 0 56 := Or.inl ⟨0, rfl, by decide +kernel, rfl⟩
theorem d_Life_endDeeds_56 : zd b_Life_endDeeds 56 (.getfield 30) 3 59 := ⟨by decide +kernel, rfl⟩
theorem d_Life_endDeeds_59 : zd b_Life_endDeeds 59 (.invokevirtual 98) 3 62 := ⟨by decide +kernel, rfl⟩
theorem d_Life_endDeeds_62 : zd b_Life_endDeeds 62 (.putfield 30) 3 65 := ⟨by decide +kernel, rfl⟩
theorem d_Life_endDeeds_65 : zd b_Life_endDeeds 65 .return_ 1 66 := ⟨by decide +kernel, rfl⟩
theorem d_Life_beginPairs_0 : zd_k b_Life_beginPairs "SameTuesday$Life" 0 0 1 := Or.inl ⟨0, by decide +kernel, by decide, rfl⟩
theorem d_Life_beginPairs_1 : zd_l .istore_n .istore b_Life_beginPairs 1 2 2 := Or.inl ⟨2, rfl, by decide +kernel, rfl⟩
theorem d_Life_beginPairs_2 : zd_l .aload_n .aload b_Life_beginPairs 2 0 3 := Or.inl ⟨0, rfl, by decide +kernel, rfl⟩
theorem d_Life_beginPairs_3 : zd b_Life_beginPairs 3 (.getfield 41) 3 6 := ⟨by decide +kernel, rfl⟩
theorem d_Life_beginPairs_6 : zd_l .aload_n .aload b_Life_beginPairs 6 0 7 := Or.inl ⟨0, rfl, by decide +kernel, rfl⟩
theorem d_Life_beginPairs_7 : zd b_Life_beginPairs 7 (.getfield 22) 3 10 := ⟨by decide +kernel, rfl⟩
theorem d_Life_beginPairs_10 : zd_b b_Life_beginPairs 10 (.if_icmp .ge) 13 68 := ⟨58, by decide +kernel, by decide, rfl⟩
theorem d_Life_beginPairs_13 : zd_l .aload_n .aload b_Life_beginPairs 13 0 14 := Or.inl ⟨0, rfl, by decide +kernel, rfl⟩
theorem d_Life_beginPairs_14 : zd_l .aload_n .aload b_Life_beginPairs 14 0 15 := Or.inl ⟨0, rfl, by decide +kernel, rfl⟩
theorem d_Life_beginPairs_15 : zd b_Life_beginPairs 15 (.getfield 41) 3 18 := ⟨by decide +kernel, rfl⟩
theorem d_Life_beginPairs_18 : zd b_Life_beginPairs 18 (.invokevirtual 104) 3 21 := ⟨by decide +kernel, rfl⟩
theorem d_Life_beginPairs_21 : zd_l .iload_n .iload b_Life_beginPairs 21 1 22 := Or.inl ⟨1, rfl, by decide +kernel, rfl⟩
theorem d_Life_beginPairs_22 : zd_b b_Life_beginPairs 22 (.if_icmp .gt) 25 68 := ⟨46, by decide +kernel, by decide, rfl⟩
theorem d_Life_beginPairs_25 : zd_l .iload_n .iload b_Life_beginPairs 25 2 26 := Or.inl ⟨2, rfl, by decide +kernel, rfl⟩
theorem d_Life_beginPairs_26 : zd_b b_Life_beginPairs 26 (.ifCond .ne) 29 45 := ⟨19, by decide +kernel, by decide, rfl⟩
theorem d_Life_beginPairs_29 : zd_l .aload_n .aload b_Life_beginPairs 29 0 30 := Or.inl ⟨0, rfl, by decide +kernel, rfl⟩
theorem d_Life_beginPairs_30 : zd_l .aload_n .aload b_Life_beginPairs 30 0 31 := Or.inl ⟨0, rfl, by decide +kernel, rfl⟩
theorem d_Life_beginPairs_31 : zd_l .aload_n .aload b_Life_beginPairs 31 0 32 := Or.inl ⟨0, rfl, by decide +kernel, rfl⟩
theorem d_Life_beginPairs_32 : zd b_Life_beginPairs 32 (.getfield 41) 3 35 := ⟨by decide +kernel, rfl⟩
theorem d_Life_beginPairs_35 : zd b_Life_beginPairs 35 (.invokevirtual 107) 3 38 := ⟨by decide +kernel, rfl⟩
theorem d_Life_beginPairs_38 : zd_l .iload_n .iload b_Life_beginPairs 38 1 39 := Or.inl ⟨1, rfl, by decide +kernel, rfl⟩
theorem d_Life_beginPairs_39 : zd b_Life_beginPairs 39 (.invokevirtual 110) 3 42 := ⟨by decide +kernel, rfl⟩
theorem d_Life_beginPairs_42 : zd_b b_Life_beginPairs 42 (.ifCond .ne) 45 53 := ⟨11, by decide +kernel, by decide, rfl⟩
theorem d_Life_beginPairs_45 : zd_l .aload_n .aload b_Life_beginPairs 45 0 46 := Or.inl ⟨0, rfl, by decide +kernel, rfl⟩
theorem d_Life_beginPairs_46 : zd_l .aload_n .aload b_Life_beginPairs 46 0 47 := Or.inl ⟨0, rfl, by decide +kernel, rfl⟩
theorem d_Life_beginPairs_47 : zd b_Life_beginPairs 47 (.getfield 41) 3 50 := ⟨by decide +kernel, rfl⟩
theorem d_Life_beginPairs_50 : zd b_Life_beginPairs 50 (.invokevirtual 89) 3 53 := ⟨by decide +kernel, rfl⟩
theorem d_Life_beginPairs_53 : zd_k b_Life_beginPairs "SameTuesday$Life" 53 1 54 := Or.inl ⟨1, by decide +kernel, by decide, rfl⟩
theorem d_Life_beginPairs_54 : zd_l .istore_n .istore b_Life_beginPairs 54 2 55 := Or.inl ⟨2, rfl, by decide +kernel, rfl⟩
theorem d_Life_beginPairs_55 : zd_l .aload_n .aload b_Life_beginPairs 55 0 56 := Or.inl ⟨0, rfl, by decide +kernel, rfl⟩
theorem d_Life_beginPairs_56 : zd b_Life_beginPairs 56 .dup 1 57 := ⟨by decide +kernel, rfl⟩
theorem d_Life_beginPairs_57 : zd b_Life_beginPairs 57 (.getfield 41) 3 60 := ⟨by decide +kernel, rfl⟩
theorem d_Life_beginPairs_60 : zd_k b_Life_beginPairs "SameTuesday$Life" 60 1 61 := Or.inl ⟨1, by decide +kernel, by decide, rfl⟩
theorem d_Life_beginPairs_61 : zd b_Life_beginPairs 61 .iadd 1 62 := ⟨by decide +kernel, rfl⟩
theorem d_Life_beginPairs_62 : zd b_Life_beginPairs 62 (.putfield 41) 3 65 := ⟨by decide +kernel, rfl⟩
theorem d_Life_beginPairs_65 : zd_b b_Life_beginPairs 65 .goto 68 2 := ⟨(-63), by decide +kernel, by decide, rfl⟩
theorem d_Life_beginPairs_68 : zd b_Life_beginPairs 68 .return_ 1 69 := ⟨by decide +kernel, rfl⟩
theorem d_Life_begin_0 : zd_l .aload_n .aload b_Life_begin 0 1 1 := Or.inl ⟨1, rfl, by decide +kernel, rfl⟩
theorem d_Life_begin_1 : zd_b b_Life_begin 1 .ifnull 4 29 := ⟨28, by decide +kernel, by decide, rfl⟩
theorem d_Life_begin_4 : zd_l .aload_n .aload b_Life_begin 4 0 5 := Or.inl ⟨0, rfl, by decide +kernel, rfl⟩
theorem d_Life_begin_5 : zd b_Life_begin 5 (.getfield 34) 3 8 := ⟨by decide +kernel, rfl⟩
theorem d_Life_begin_8 : zd_b b_Life_begin 8 .ifnonnull 11 29 := ⟨21, by decide +kernel, by decide, rfl⟩
theorem d_Life_begin_11 : zd_l .aload_n .aload b_Life_begin 11 0 12 := Or.inl ⟨0, rfl, by decide +kernel, rfl⟩
theorem d_Life_begin_12 : zd b_Life_begin 12 (.getfield 9) 3 15 := ⟨by decide +kernel, rfl⟩
theorem d_Life_begin_15 : zd_l .aload_n .aload b_Life_begin 15 1 16 := Or.inl ⟨1, rfl, by decide +kernel, rfl⟩
theorem d_Life_begin_16 : zd_l .iload_n .iload b_Life_begin 16 2 17 := Or.inl ⟨2, rfl, by decide +kernel, rfl⟩
theorem d_Life_begin_17 : zd_l .aload_n .aload b_Life_begin 17 0 18 := Or.inl ⟨0, rfl, by decide +kernel, rfl⟩
theorem d_Life_begin_18 : zd b_Life_begin 18 (.getfield 30) 3 21 := ⟨by decide +kernel, rfl⟩
theorem d_Life_begin_21 : zd b_Life_begin 21 (.invokevirtual 114) 3 24 := ⟨by decide +kernel, rfl⟩
theorem d_Life_begin_24 : zd_kl b_Life_begin "SameTuesday$Life" 24 0 25 := Or.inl ⟨0, by decide +kernel, by decide, rfl⟩
theorem d_Life_begin_25 : zd b_Life_begin 25 .lcmp 1 26 := ⟨by decide +kernel, rfl⟩
theorem d_Life_begin_26 : zd_b b_Life_begin 26 (.ifCond .ne) 29 31 := ⟨5, by decide +kernel, by decide, rfl⟩
theorem d_Life_begin_29 : zd_k b_Life_begin "SameTuesday$Life" 29 0 30 := Or.inl ⟨0, by decide +kernel, by decide, rfl⟩
theorem d_Life_begin_30 : zd b_Life_begin 30 .ireturn 1 31 := ⟨by decide +kernel, rfl⟩
theorem d_Life_begin_31 : zd_l .aload_n .aload b_Life_begin 31 0 32 := Or.inl ⟨0, rfl, by decide +kernel, rfl⟩
theorem d_Life_begin_32 : zd_l .aload_n .aload b_Life_begin 32 1 33 := Or.inl ⟨1, rfl, by decide +kernel, rfl⟩
theorem d_Life_begin_33 : zd b_Life_begin 33 (.putfield 34) 3 36 := ⟨by decide +kernel, rfl⟩
theorem d_Life_begin_36 : zd_l .aload_n .aload b_Life_begin 36 0 37 := Or.inl ⟨0, rfl, by decide +kernel, rfl⟩
theorem d_Life_begin_37 : zd_l .iload_n .iload b_Life_begin 37 2 38 := Or.inl ⟨2, rfl, by decide +kernel, rfl⟩
theorem d_Life_begin_38 : zd_l .aload_n .aload b_Life_begin 38 1 39 := Or.inl ⟨1, rfl, by decide +kernel, rfl⟩
theorem d_Life_begin_39 : zd b_Life_begin 39 (.getfield 118) 3 42 := ⟨by decide +kernel, rfl⟩
theorem d_Life_begin_42 : zd b_Life_begin 42 .iadd 1 43 := ⟨by decide +kernel, rfl⟩
theorem d_Life_begin_43 : zd b_Life_begin 43 (.putfield 38) 3 46 := ⟨by decide +kernel, rfl⟩
theorem d_Life_begin_46 : zd_k b_Life_begin "SameTuesday$Life" 46 1 47 := Or.inl ⟨1, by decide +kernel, by decide, rfl⟩
theorem d_Life_begin_47 : zd b_Life_begin 47 .ireturn 1 48 := ⟨by decide +kernel, rfl⟩
theorem d_Life_noteWrong_0 : zd_l .aload_n .aload b_Life_noteWrong 0 0 1 := Or.inl ⟨0, rfl, by decide +kernel, rfl⟩
theorem d_Life_noteWrong_1 : zd b_Life_noteWrong 1 (.getfield 44) 3 4 := ⟨by decide +kernel, rfl⟩
theorem d_Life_noteWrong_4 : zd_k b_Life_noteWrong "SameTuesday$Life" 4 (-9) 6 := Or.inr (Or.inl ⟨(-9), by decide +kernel, by decide, rfl⟩)
theorem d_Life_noteWrong_6 : zd_b b_Life_noteWrong 6 (.if_icmp .ne) 9 14 := ⟨8, by decide +kernel, by decide, rfl⟩
theorem d_Life_noteWrong_9 : zd_l .aload_n .aload b_Life_noteWrong 9 0 10 := Or.inl ⟨0, rfl, by decide +kernel, rfl⟩
theorem d_Life_noteWrong_10 : zd_l .iload_n .iload b_Life_noteWrong 10 1 11 := Or.inl ⟨1, rfl, by decide +kernel, rfl⟩
theorem d_Life_noteWrong_11 : zd b_Life_noteWrong 11 (.putfield 44) 3 14 := ⟨by decide +kernel, rfl⟩
theorem d_Life_noteWrong_14 : zd b_Life_noteWrong 14 .return_ 1 15 := ⟨by decide +kernel, rfl⟩
theorem d_Life_minuteOfPair_0 : zd_l .iload_n .iload b_Life_minuteOfPair 0 1 1 := Or.inl ⟨1, rfl, by decide +kernel, rfl⟩
theorem d_Life_minuteOfPair_1 : zd_b b_Life_minuteOfPair 1 (.ifCond .lt) 4 22 := ⟨21, by decide +kernel, by decide, rfl⟩
theorem d_Life_minuteOfPair_4 : zd_l .iload_n .iload b_Life_minuteOfPair 4 1 5 := Or.inl ⟨1, rfl, by decide +kernel, rfl⟩
theorem d_Life_minuteOfPair_5 : zd_l .aload_n .aload b_Life_minuteOfPair 5 0 6 := Or.inl ⟨0, rfl, by decide +kernel, rfl⟩
theorem d_Life_minuteOfPair_6 : zd b_Life_minuteOfPair 6 (.getfield 15) 3 9 := ⟨by decide +kernel, rfl⟩
theorem d_Life_minuteOfPair_9 : zd b_Life_minuteOfPair 9 .arraylength 1 10 := ⟨by decide +kernel, rfl⟩
theorem d_Life_minuteOfPair_10 : zd_b b_Life_minuteOfPair 10 (.if_icmp .ge) 13 22 := ⟨12, by decide +kernel, by decide, rfl⟩
theorem d_Life_minuteOfPair_13 : zd_l .aload_n .aload b_Life_minuteOfPair 13 0 14 := Or.inl ⟨0, rfl, by decide +kernel, rfl⟩
theorem d_Life_minuteOfPair_14 : zd b_Life_minuteOfPair 14 (.getfield 15) 3 17 := ⟨by decide +kernel, rfl⟩
theorem d_Life_minuteOfPair_17 : zd_l .iload_n .iload b_Life_minuteOfPair 17 1 18 := Or.inl ⟨1, rfl, by decide +kernel, rfl⟩
theorem d_Life_minuteOfPair_18 : zd b_Life_minuteOfPair 18 .iaload 1 19 := ⟨by decide +kernel, rfl⟩
theorem d_Life_minuteOfPair_19 : zd_b b_Life_minuteOfPair 19 .goto 22 23 := ⟨4, by decide +kernel, by decide, rfl⟩
theorem d_Life_minuteOfPair_22 : zd_k b_Life_minuteOfPair "SameTuesday$Life" 22 0 23 := Or.inl ⟨0, by decide +kernel, by decide, rfl⟩
theorem d_Life_minuteOfPair_23 : zd b_Life_minuteOfPair 23 .ireturn 1 24 := ⟨by decide +kernel, rfl⟩
theorem d_Life_deedOfPair_0 : zd_l .iload_n .iload b_Life_deedOfPair 0 1 1 := Or.inl ⟨1, rfl, by decide +kernel, rfl⟩
theorem d_Life_deedOfPair_1 : zd_b b_Life_deedOfPair 1 (.ifCond .lt) 4 29 := ⟨28, by decide +kernel, by decide, rfl⟩
theorem d_Life_deedOfPair_4 : zd_l .iload_n .iload b_Life_deedOfPair 4 1 5 := Or.inl ⟨1, rfl, by decide +kernel, rfl⟩
theorem d_Life_deedOfPair_5 : zd_l .aload_n .aload b_Life_deedOfPair 5 0 6 := Or.inl ⟨0, rfl, by decide +kernel, rfl⟩
theorem d_Life_deedOfPair_6 : zd b_Life_deedOfPair 6 (.getfield 19) 3 9 := ⟨by decide +kernel, rfl⟩
theorem d_Life_deedOfPair_9 : zd b_Life_deedOfPair 9 .arraylength 1 10 := ⟨by decide +kernel, rfl⟩
theorem d_Life_deedOfPair_10 : zd_b b_Life_deedOfPair 10 (.if_icmp .ge) 13 29 := ⟨19, by decide +kernel, by decide, rfl⟩
theorem d_Life_deedOfPair_13 : zd_l .aload_n .aload b_Life_deedOfPair 13 0 14 := Or.inl ⟨0, rfl, by decide +kernel, rfl⟩
theorem d_Life_deedOfPair_14 : zd b_Life_deedOfPair 14 (.getfield 9) 3 17 := ⟨by decide +kernel, rfl⟩
theorem d_Life_deedOfPair_17 : zd_l .aload_n .aload b_Life_deedOfPair 17 0 18 := Or.inl ⟨0, rfl, by decide +kernel, rfl⟩
theorem d_Life_deedOfPair_18 : zd b_Life_deedOfPair 18 (.getfield 19) 3 21 := ⟨by decide +kernel, rfl⟩
theorem d_Life_deedOfPair_21 : zd_l .iload_n .iload b_Life_deedOfPair 21 1 22 := Or.inl ⟨1, rfl, by decide +kernel, rfl⟩
theorem d_Life_deedOfPair_22 : zd b_Life_deedOfPair 22 .iaload 1 23 := ⟨by decide +kernel, rfl⟩
theorem d_Life_deedOfPair_23 : zd b_Life_deedOfPair 23 (.invokevirtual 63) 3 26 := ⟨by decide +kernel, rfl⟩
theorem d_Life_deedOfPair_26 : zd_b b_Life_deedOfPair 26 .goto 29 30 := ⟨4, by decide +kernel, by decide, rfl⟩
theorem d_Life_deedOfPair_29 : zd b_Life_deedOfPair 29 .aconst_null 1 30 := ⟨by decide +kernel, rfl⟩
theorem d_Life_deedOfPair_30 : zd b_Life_deedOfPair 30 .areturn 1 31 := ⟨by decide +kernel, rfl⟩
theorem d_Life_hangsOn_0 : zd_l .aload_n .aload b_Life_hangsOn 0 0 1 := Or.inl ⟨0, rfl, by decide +kernel, rfl⟩
theorem d_Life_hangsOn_1 : zd_k b_Life_hangsOn "SameTuesday$Life" 1 59 3 := Or.inr (Or.inl ⟨59, by decide +kernel, by decide, rfl⟩)
theorem d_Life_hangsOn_3 : zd_k b_Life_hangsOn "SameTuesday$Life" 3 63 5 := Or.inr (Or.inl ⟨63, by decide +kernel, by decide, rfl⟩)
theorem d_Life_hangsOn_5 : zd b_Life_hangsOn 5 (.invokevirtual 121) 3 8 := ⟨by decide +kernel, rfl⟩
theorem d_Life_hangsOn_8 : zd_l .istore_n .istore b_Life_hangsOn 8 1 9 := Or.inl ⟨1, rfl, by decide +kernel, rfl⟩
theorem d_Life_hangsOn_9 : zd_k b_Life_hangsOn "SameTuesday$Life" 9 0 10 := Or.inl ⟨0, by decide +kernel, by decide, rfl⟩
theorem d_Life_hangsOn_10 : zd_l .istore_n .istore b_Life_hangsOn 10 2 11 := Or.inl ⟨2, rfl, by decide +kernel, rfl⟩
theorem d_Life_hangsOn_11 : zd_k b_Life_hangsOn "SameTuesday$Life" 11 0 12 := Or.inl ⟨0, by decide +kernel, by decide, rfl⟩
theorem d_Life_hangsOn_12 : zd_l .istore_n .istore b_Life_hangsOn 12 3 13 := Or.inl ⟨3, rfl, by decide +kernel, rfl⟩
theorem d_Life_hangsOn_13 : zd_l .iload_n .iload b_Life_hangsOn 13 3 14 := Or.inl ⟨3, rfl, by decide +kernel, rfl⟩
theorem d_Life_hangsOn_14 : zd_l .aload_n .aload b_Life_hangsOn 14 0 15 := Or.inl ⟨0, rfl, by decide +kernel, rfl⟩
theorem d_Life_hangsOn_15 : zd b_Life_hangsOn 15 (.getfield 9) 3 18 := ⟨by decide +kernel, rfl⟩
theorem d_Life_hangsOn_18 : zd b_Life_hangsOn 18 (.invokevirtual 124) 3 21 := ⟨by decide +kernel, rfl⟩
theorem d_Life_hangsOn_21 : zd_b b_Life_hangsOn 21 (.if_icmp .ge) 24 54 := ⟨33, by decide +kernel, by decide, rfl⟩
theorem d_Life_hangsOn_24 : zd_l .aload_n .aload b_Life_hangsOn 24 0 25 := Or.inl ⟨0, rfl, by decide +kernel, rfl⟩
theorem d_Life_hangsOn_25 : zd_k b_Life_hangsOn "SameTuesday$Life" 25 59 27 := Or.inr (Or.inl ⟨59, by decide +kernel, by decide, rfl⟩)
theorem d_Life_hangsOn_27 : zd_k b_Life_hangsOn "SameTuesday$Life" 27 63 29 := Or.inr (Or.inl ⟨63, by decide +kernel, by decide, rfl⟩)
theorem d_Life_hangsOn_29 : zd_k b_Life_hangsOn "SameTuesday$Life" 29 1 30 := Or.inl ⟨1, by decide +kernel, by decide, rfl⟩
theorem d_Life_hangsOn_30 : zd_l .iload_n .iload b_Life_hangsOn 30 3 31 := Or.inl ⟨3, rfl, by decide +kernel, rfl⟩
theorem d_Life_hangsOn_31 : zd b_Life_hangsOn 31 .ishl 1 32 := ⟨by decide +kernel, rfl⟩
theorem d_Life_hangsOn_32 : zd_k b_Life_hangsOn "SameTuesday$Life" 32 (-1) 33 := Or.inl ⟨(-1), by decide +kernel, by decide, rfl⟩
theorem d_Life_hangsOn_33 : zd b_Life_hangsOn 33 .ixor 1 34 := ⟨by decide +kernel, rfl⟩
theorem d_Life_hangsOn_34 : zd b_Life_hangsOn 34 .iand 1 35 := ⟨by decide +kernel, rfl⟩
theorem d_Life_hangsOn_35 : zd b_Life_hangsOn 35 (.invokevirtual 121) 3 38 := ⟨by decide +kernel, rfl⟩
theorem d_Life_hangsOn_38 : zd_l .iload_n .iload b_Life_hangsOn 38 1 39 := Or.inl ⟨1, rfl, by decide +kernel, rfl⟩
theorem d_Life_hangsOn_39 : zd_b b_Life_hangsOn 39 (.if_icmp .eq) 42 48 := ⟨9, by decide +kernel, by decide, rfl⟩
theorem d_Life_hangsOn_42 : zd_l .iload_n .iload b_Life_hangsOn 42 2 43 := Or.inl ⟨2, rfl, by decide +kernel, rfl⟩
theorem d_Life_hangsOn_43 : zd_k b_Life_hangsOn "SameTuesday$Life" 43 1 44 := Or.inl ⟨1, by decide +kernel, by decide, rfl⟩
theorem d_Life_hangsOn_44 : zd_l .iload_n .iload b_Life_hangsOn 44 3 45 := Or.inl ⟨3, rfl, by decide +kernel, rfl⟩
theorem d_Life_hangsOn_45 : zd b_Life_hangsOn 45 .ishl 1 46 := ⟨by decide +kernel, rfl⟩
theorem d_Life_hangsOn_46 : zd b_Life_hangsOn 46 .ior 1 47 := ⟨by decide +kernel, rfl⟩
theorem d_Life_hangsOn_47 : zd_l .istore_n .istore b_Life_hangsOn 47 2 48 := Or.inl ⟨2, rfl, by decide +kernel, rfl⟩
theorem d_Life_hangsOn_48 : zd_i b_Life_hangsOn 48 3 1 1 51 := ⟨by decide +kernel, by decide, rfl⟩
theorem d_Life_hangsOn_51 : zd_b b_Life_hangsOn 51 .goto 54 13 := ⟨(-38), by decide +kernel, by decide, rfl⟩
theorem d_Life_hangsOn_54 : zd_l .iload_n .iload b_Life_hangsOn 54 2 55 := Or.inl ⟨2, rfl, by decide +kernel, rfl⟩
theorem d_Life_hangsOn_55 : zd b_Life_hangsOn 55 .ireturn 1 56 := ⟨by decide +kernel, rfl⟩
theorem d_Life_countWaysTo_0 : zd_k b_Life_countWaysTo "SameTuesday$Life" 0 0 1 := Or.inl ⟨0, by decide +kernel, by decide, rfl⟩
theorem d_Life_countWaysTo_1 : zd_l .istore_n .istore b_Life_countWaysTo 1 2 2 := Or.inl ⟨2, rfl, by decide +kernel, rfl⟩
theorem d_Life_countWaysTo_2 : zd_k b_Life_countWaysTo "SameTuesday$Life" 2 0 3 := Or.inl ⟨0, by decide +kernel, by decide, rfl⟩
theorem d_Life_countWaysTo_3 : zd_l .istore_n .istore b_Life_countWaysTo 3 3 4 := Or.inl ⟨3, rfl, by decide +kernel, rfl⟩
theorem d_Life_countWaysTo_4 : zd_l .iload_n .iload b_Life_countWaysTo 4 3 5 := Or.inl ⟨3, rfl, by decide +kernel, rfl⟩
theorem d_Life_countWaysTo_5 : zd_k b_Life_countWaysTo "SameTuesday$Life" 5 1 6 := Or.inl ⟨1, by decide +kernel, by decide, rfl⟩
theorem d_Life_countWaysTo_6 : zd_l .aload_n .aload b_Life_countWaysTo 6 0 7 := Or.inl ⟨0, rfl, by decide +kernel, rfl⟩
theorem d_Life_countWaysTo_7 : zd b_Life_countWaysTo 7 (.getfield 9) 3 10 := ⟨by decide +kernel, rfl⟩
theorem d_Life_countWaysTo_10 : zd b_Life_countWaysTo 10 (.invokevirtual 124) 3 13 := ⟨by decide +kernel, rfl⟩
theorem d_Life_countWaysTo_13 : zd b_Life_countWaysTo 13 .ishl 1 14 := ⟨by decide +kernel, rfl⟩
theorem d_Life_countWaysTo_14 : zd_b b_Life_countWaysTo 14 (.if_icmp .ge) 17 39 := ⟨25, by decide +kernel, by decide, rfl⟩
theorem d_Life_countWaysTo_17 : zd_l .aload_n .aload b_Life_countWaysTo 17 0 18 := Or.inl ⟨0, rfl, by decide +kernel, rfl⟩
theorem d_Life_countWaysTo_18 : zd_k b_Life_countWaysTo "SameTuesday$Life" 18 59 20 := Or.inr (Or.inl ⟨59, by decide +kernel, by decide, rfl⟩)
theorem d_Life_countWaysTo_20 : zd_l .iload_n .iload b_Life_countWaysTo 20 3 21 := Or.inl ⟨3, rfl, by decide +kernel, rfl⟩
theorem d_Life_countWaysTo_21 : zd b_Life_countWaysTo 21 (.invokevirtual 121) 3 24 := ⟨by decide +kernel, rfl⟩
theorem d_Life_countWaysTo_24 : zd_l .iload_n .iload b_Life_countWaysTo 24 1 25 := Or.inl ⟨1, rfl, by decide +kernel, rfl⟩
theorem d_Life_countWaysTo_25 : zd b_Life_countWaysTo 25 .iand 1 26 := ⟨by decide +kernel, rfl⟩
theorem d_Life_countWaysTo_26 : zd_l .iload_n .iload b_Life_countWaysTo 26 1 27 := Or.inl ⟨1, rfl, by decide +kernel, rfl⟩
theorem d_Life_countWaysTo_27 : zd_b b_Life_countWaysTo 27 (.if_icmp .ne) 30 33 := ⟨6, by decide +kernel, by decide, rfl⟩
theorem d_Life_countWaysTo_30 : zd_i b_Life_countWaysTo 30 2 1 1 33 := ⟨by decide +kernel, by decide, rfl⟩
theorem d_Life_countWaysTo_33 : zd_i b_Life_countWaysTo 33 3 1 1 36 := ⟨by decide +kernel, by decide, rfl⟩
theorem d_Life_countWaysTo_36 : zd_b b_Life_countWaysTo 36 .goto 39 4 := ⟨(-32), by decide +kernel, by decide, rfl⟩
theorem d_Life_countWaysTo_39 : zd_l .iload_n .iload b_Life_countWaysTo 39 2 40 := Or.inl ⟨2, rfl, by decide +kernel, rfl⟩
theorem d_Life_countWaysTo_40 : zd b_Life_countWaysTo 40 .ireturn 1 41 := ⟨by decide +kernel, rfl⟩
theorem d_Life_otherAt_0 : zd_l .aload_n .aload b_Life_otherAt 0 0 1 := Or.inl ⟨0, rfl, by decide +kernel, rfl⟩
theorem d_Life_otherAt_1 : zd_k b_Life_otherAt "SameTuesday$Life" 1 59 3 := Or.inr (Or.inl ⟨59, by decide +kernel, by decide, rfl⟩)
theorem d_Life_otherAt_3 : zd_k b_Life_otherAt "SameTuesday$Life" 3 63 5 := Or.inr (Or.inl ⟨63, by decide +kernel, by decide, rfl⟩)
theorem d_Life_otherAt_5 : zd b_Life_otherAt 5 (.invokevirtual 121) 3 8 := ⟨by decide +kernel, rfl⟩
theorem d_Life_otherAt_8 : zd b_Life_otherAt 8 .pop 1 9 := ⟨by decide +kernel, rfl⟩
theorem d_Life_otherAt_9 : zd_k b_Life_otherAt "SameTuesday$Life" 9 0 10 := Or.inl ⟨0, by decide +kernel, by decide, rfl⟩
theorem d_Life_otherAt_10 : zd_l .istore_n .istore b_Life_otherAt 10 3 11 := Or.inl ⟨3, rfl, by decide +kernel, rfl⟩
theorem d_Life_otherAt_11 : zd_k b_Life_otherAt "SameTuesday$Life" 11 0 12 := Or.inl ⟨0, by decide +kernel, by decide, rfl⟩
theorem d_Life_otherAt_12 : zd_l .istore_n .istore b_Life_otherAt 12 4 14 := Or.inr ⟨by decide +kernel, rfl⟩
theorem d_Life_otherAt_14 : zd_l .iload_n .iload b_Life_otherAt 14 4 16 := Or.inr ⟨by decide +kernel, rfl⟩
theorem d_Life_otherAt_16 : zd_l .aload_n .aload b_Life_otherAt 16 0 17 := Or.inl ⟨0, rfl, by decide +kernel, rfl⟩
theorem d_Life_otherAt_17 : zd b_Life_otherAt 17 (.getfield 9) 3 20 := ⟨by decide +kernel, rfl⟩
theorem d_Life_otherAt_20 : zd b_Life_otherAt 20 (.invokevirtual 128) 3 23 := ⟨by decide +kernel, rfl⟩
theorem d_Life_otherAt_23 : zd_b b_Life_otherAt 23 (.if_icmp .ge) 26 128 := ⟨105, by decide +kernel, by decide, rfl⟩
theorem d_Life_otherAt_26 : zd_l .iload_n .iload b_Life_otherAt 26 4 28 := Or.inr ⟨by decide +kernel, rfl⟩
theorem d_Life_otherAt_28 : zd_k b_Life_otherAt "SameTuesday$Life" 28 60 30 := Or.inr (Or.inl ⟨60, by decide +kernel, by decide, rfl⟩)
theorem d_Life_otherAt_30 : zd_b b_Life_otherAt 30 (.if_icmp .ge) 33 128 := ⟨98, by decide +kernel, by decide, rfl⟩
theorem d_Life_otherAt_33 : zd_k b_Life_otherAt "SameTuesday$Life" 33 0 34 := Or.inl ⟨0, by decide +kernel, by decide, rfl⟩
theorem d_Life_otherAt_34 : zd_l .istore_n .istore b_Life_otherAt 34 5 36 := Or.inr ⟨by decide +kernel, rfl⟩
theorem d_Life_otherAt_36 : zd_l .iload_n .iload b_Life_otherAt 36 5 38 := Or.inr ⟨by decide +kernel, rfl⟩
theorem d_Life_otherAt_38 : zd_l .aload_n .aload b_Life_otherAt 38 0 39 := Or.inl ⟨0, rfl, by decide +kernel, rfl⟩
theorem d_Life_otherAt_39 : zd b_Life_otherAt 39 (.getfield 9) 3 42 := ⟨by decide +kernel, rfl⟩
theorem d_Life_otherAt_42 : zd b_Life_otherAt 42 (.invokevirtual 131) 3 45 := ⟨by decide +kernel, rfl⟩
theorem d_Life_otherAt_45 : zd_b b_Life_otherAt 45 (.if_icmp .ge) 48 122 := ⟨77, by decide +kernel, by decide, rfl⟩
theorem d_Life_otherAt_48 : zd_l .aload_n .aload b_Life_otherAt 48 0 49 := Or.inl ⟨0, rfl, by decide +kernel, rfl⟩
theorem d_Life_otherAt_49 : zd b_Life_otherAt 49 (.getfield 9) 3 52 := ⟨by decide +kernel, rfl⟩
theorem d_Life_otherAt_52 : zd_l .iload_n .iload b_Life_otherAt 52 5 54 := Or.inr ⟨by decide +kernel, rfl⟩
theorem d_Life_otherAt_54 : zd b_Life_otherAt 54 (.invokevirtual 63) 3 57 := ⟨by decide +kernel, rfl⟩
theorem d_Life_otherAt_57 : zd_l .astore_n .astore b_Life_otherAt 57 6 59 := Or.inr ⟨by decide +kernel, rfl⟩
theorem d_Life_otherAt_59 : zd_l .aload_n .aload b_Life_otherAt 59 6 61 := Or.inr ⟨by decide +kernel, rfl⟩
theorem d_Life_otherAt_61 : zd_b b_Life_otherAt 61 .ifnull 64 116 := ⟨55, by decide +kernel, by decide, rfl⟩
theorem d_Life_otherAt_64 : zd_l .aload_n .aload b_Life_otherAt 64 0 65 := Or.inl ⟨0, rfl, by decide +kernel, rfl⟩
theorem d_Life_otherAt_65 : zd b_Life_otherAt 65 (.getfield 9) 3 68 := ⟨by decide +kernel, rfl⟩
theorem d_Life_otherAt_68 : zd_l .aload_n .aload b_Life_otherAt 68 6 70 := Or.inr ⟨by decide +kernel, rfl⟩
theorem d_Life_otherAt_70 : zd_l .iload_n .iload b_Life_otherAt 70 4 72 := Or.inr ⟨by decide +kernel, rfl⟩
theorem d_Life_otherAt_72 : zd_l .aload_n .aload b_Life_otherAt 72 0 73 := Or.inl ⟨0, rfl, by decide +kernel, rfl⟩
theorem d_Life_otherAt_73 : zd b_Life_otherAt 73 (.getfield 26) 3 76 := ⟨by decide +kernel, rfl⟩
theorem d_Life_otherAt_76 : zd_l .iload_n .iload b_Life_otherAt 76 4 78 := Or.inr ⟨by decide +kernel, rfl⟩
theorem d_Life_otherAt_78 : zd b_Life_otherAt 78 .laload 1 79 := ⟨by decide +kernel, rfl⟩
theorem d_Life_otherAt_79 : zd b_Life_otherAt 79 (.invokevirtual 114) 3 82 := ⟨by decide +kernel, rfl⟩
theorem d_Life_otherAt_82 : zd_kl b_Life_otherAt "SameTuesday$Life" 82 0 83 := Or.inl ⟨0, by decide +kernel, by decide, rfl⟩
theorem d_Life_otherAt_83 : zd b_Life_otherAt 83 .lcmp 1 84 := ⟨by decide +kernel, rfl⟩
theorem d_Life_otherAt_84 : zd_b b_Life_otherAt 84 (.ifCond .eq) 87 116 := ⟨32, by decide +kernel, by decide, rfl⟩
theorem d_Life_otherAt_87 : zd_l .aload_n .aload b_Life_otherAt 87 0 88 := Or.inl ⟨0, rfl, by decide +kernel, rfl⟩
theorem d_Life_otherAt_88 : zd_l .aload_n .aload b_Life_otherAt 88 6 90 := Or.inr ⟨by decide +kernel, rfl⟩
theorem d_Life_otherAt_90 : zd_l .iload_n .iload b_Life_otherAt 90 4 92 := Or.inr ⟨by decide +kernel, rfl⟩
theorem d_Life_otherAt_92 : zd_l .iload_n .iload b_Life_otherAt 92 1 93 := Or.inl ⟨1, rfl, by decide +kernel, rfl⟩
theorem d_Life_otherAt_93 : zd b_Life_otherAt 93 (.invokevirtual 134) 3 96 := ⟨by decide +kernel, rfl⟩
theorem d_Life_otherAt_96 : zd_b b_Life_otherAt 96 (.ifCond .eq) 99 116 := ⟨20, by decide +kernel, by decide, rfl⟩
theorem d_Life_otherAt_99 : zd_l .iload_n .iload b_Life_otherAt 99 3 100 := Or.inl ⟨3, rfl, by decide +kernel, rfl⟩
theorem d_Life_otherAt_100 : zd_l .iload_n .iload b_Life_otherAt 100 2 101 := Or.inl ⟨2, rfl, by decide +kernel, rfl⟩
theorem d_Life_otherAt_101 : zd_b b_Life_otherAt 101 (.if_icmp .ne) 104 113 := ⟨12, by decide +kernel, by decide, rfl⟩
theorem d_Life_otherAt_104 : zd_k b_Life_otherAt "SameTuesday$Life" 104 10 106 := Or.inr (Or.inl ⟨10, by decide +kernel, by decide, rfl⟩)
theorem d_Life_otherAt_106 : zd_l .iload_n .iload b_Life_otherAt 106 4 108 := Or.inr ⟨by decide +kernel, rfl⟩
theorem d_Life_otherAt_108 : zd b_Life_otherAt 108 .imul 1 109 := ⟨by decide +kernel, rfl⟩
theorem d_Life_otherAt_109 : zd_l .iload_n .iload b_Life_otherAt 109 5 111 := Or.inr ⟨by decide +kernel, rfl⟩
theorem d_Life_otherAt_111 : zd b_Life_otherAt 111 .iadd 1 112 := ⟨by decide +kernel, rfl⟩
theorem d_Life_otherAt_112 : zd b_Life_otherAt 112 .ireturn 1 113 := ⟨by decide +kernel, rfl⟩
theorem d_Life_otherAt_113 : zd_i b_Life_otherAt 113 3 1 1 116 := ⟨by decide +kernel, by decide, rfl⟩
theorem d_Life_otherAt_116 : zd_i b_Life_otherAt 116 5 1 1 119 := ⟨by decide +kernel, by decide, rfl⟩
theorem d_Life_otherAt_119 : zd_b b_Life_otherAt 119 .goto 122 36 := ⟨(-83), by decide +kernel, by decide, rfl⟩
theorem d_Life_otherAt_122 : zd_i b_Life_otherAt 122 4 1 1 125 := ⟨by decide +kernel, by decide, rfl⟩
theorem d_Life_otherAt_125 : zd_b b_Life_otherAt 125 .goto 128 14 := ⟨(-111), by decide +kernel, by decide, rfl⟩
theorem d_Life_otherAt_128 : zd_l .iload_n .iload b_Life_otherAt 128 2 129 := Or.inl ⟨2, rfl, by decide +kernel, rfl⟩
theorem d_Life_otherAt_129 : zd_k b_Life_otherAt "SameTuesday$Life" 129 (-1) 130 := Or.inl ⟨(-1), by decide +kernel, by decide, rfl⟩
theorem d_Life_otherAt_130 : zd_b b_Life_otherAt 130 (.if_icmp .ne) 133 137 := ⟨7, by decide +kernel, by decide, rfl⟩
theorem d_Life_otherAt_133 : zd_l .iload_n .iload b_Life_otherAt 133 3 134 := Or.inl ⟨3, rfl, by decide +kernel, rfl⟩
theorem d_Life_otherAt_134 : zd_b b_Life_otherAt 134 .goto 137 139 := ⟨5, by decide +kernel, by decide, rfl⟩
theorem d_Life_otherAt_137 : zd_k b_Life_otherAt "SameTuesday$Life" 137 (-9) 139 := Or.inr (Or.inl ⟨(-9), by decide +kernel, by decide, rfl⟩)
theorem d_Life_otherAt_139 : zd b_Life_otherAt 139 .ireturn 1 140 := ⟨by decide +kernel, rfl⟩
theorem d_Life_endsWith_0 : zd_l .aload_n .aload b_Life_endsWith 0 0 1 := Or.inl ⟨0, rfl, by decide +kernel, rfl⟩
theorem d_Life_endsWith_1 : zd_l .aload_n .aload b_Life_endsWith 1 1 2 := Or.inl ⟨1, rfl, by decide +kernel, rfl⟩
theorem d_Life_endsWith_2 : zd b_Life_endsWith 2 (.putfield 47) 3 5 := ⟨by decide +kernel, rfl⟩
theorem d_Life_endsWith_5 : zd_l .aload_n .aload b_Life_endsWith 5 0 6 := Or.inl ⟨0, rfl, by decide +kernel, rfl⟩
theorem d_Life_endsWith_6 : zd_l .iload_n .iload b_Life_endsWith 6 2 7 := Or.inl ⟨2, rfl, by decide +kernel, rfl⟩
theorem d_Life_endsWith_7 : zd_l .aload_n .aload b_Life_endsWith 7 1 8 := Or.inl ⟨1, rfl, by decide +kernel, rfl⟩
theorem d_Life_endsWith_8 : zd b_Life_endsWith 8 (.getfield 118) 3 11 := ⟨by decide +kernel, rfl⟩
theorem d_Life_endsWith_11 : zd b_Life_endsWith 11 .iadd 1 12 := ⟨by decide +kernel, rfl⟩
theorem d_Life_endsWith_12 : zd b_Life_endsWith 12 (.putfield 50) 3 15 := ⟨by decide +kernel, rfl⟩
theorem d_Life_endsWith_15 : zd_l .aload_n .aload b_Life_endsWith 15 0 16 := Or.inl ⟨0, rfl, by decide +kernel, rfl⟩
theorem d_Life_endsWith_16 : zd_k b_Life_endsWith "SameTuesday$Life" 16 59 18 := Or.inr (Or.inl ⟨59, by decide +kernel, by decide, rfl⟩)
theorem d_Life_endsWith_18 : zd_k b_Life_endsWith "SameTuesday$Life" 18 63 20 := Or.inr (Or.inl ⟨63, by decide +kernel, by decide, rfl⟩)
theorem d_Life_endsWith_20 : zd b_Life_endsWith 20 (.invokevirtual 121) 3 23 := ⟨by decide +kernel, rfl⟩
theorem d_Life_endsWith_23 : zd_l .istore_n .istore b_Life_endsWith 23 4 25 := Or.inr ⟨by decide +kernel, rfl⟩
theorem d_Life_endsWith_25 : zd_l .aload_n .aload b_Life_endsWith 25 0 26 := Or.inl ⟨0, rfl, by decide +kernel, rfl⟩
theorem d_Life_endsWith_26 : zd b_Life_endsWith 26 .aconst_null 1 27 := ⟨by decide +kernel, rfl⟩
theorem d_Life_endsWith_27 : zd b_Life_endsWith 27 (.putfield 47) 3 30 := ⟨by decide +kernel, rfl⟩
theorem d_Life_endsWith_30 : zd_l .iload_n .iload b_Life_endsWith 30 4 32 := Or.inr ⟨by decide +kernel, rfl⟩
theorem d_Life_endsWith_32 : zd_l .iload_n .iload b_Life_endsWith 32 3 33 := Or.inl ⟨3, rfl, by decide +kernel, rfl⟩
theorem d_Life_endsWith_33 : zd_b b_Life_endsWith 33 (.if_icmp .ne) 36 40 := ⟨7, by decide +kernel, by decide, rfl⟩
theorem d_Life_endsWith_36 : zd_k b_Life_endsWith "SameTuesday$Life" 36 1 37 := Or.inl ⟨1, by decide +kernel, by decide, rfl⟩
theorem d_Life_endsWith_37 : zd_b b_Life_endsWith 37 .goto 40 41 := ⟨4, by decide +kernel, by decide, rfl⟩
theorem d_Life_endsWith_40 : zd_k b_Life_endsWith "SameTuesday$Life" 40 0 41 := Or.inl ⟨0, by decide +kernel, by decide, rfl⟩
theorem d_Life_endsWith_41 : zd b_Life_endsWith 41 .ireturn 1 42 := ⟨by decide +kernel, rfl⟩
set_option maxRecDepth 20000 in
theorem f_Mis_7_5 : zb_FL "SameTuesday$Mishap" 7 5 3 := ⟨"SameTuesday$Mishap", zF_Mis, 6, "SameTuesday$Mishap", rfl, by decide, zi_Mis, zb_mem 363 rfl rfl, Or.inr (zb_mem 364 rfl rfl)⟩
set_option maxRecDepth 20000 in
theorem f_Mis_13_5 : zb_FL "SameTuesday$Mishap" 13 5 4 := ⟨"SameTuesday$Mishap", zF_Mis, 6, "SameTuesday$Mishap", rfl, by decide, zi_Mis, zb_mem 368 rfl rfl, Or.inr (zb_mem 369 rfl rfl)⟩
set_option maxRecDepth 20000 in
theorem f_Mis_18_5 : zb_FL "SameTuesday$Mishap" 18 5 2 := ⟨"SameTuesday$Mishap", zF_Mis, 6, "SameTuesday$Mishap", rfl, by decide, zi_Mis, zb_mem 355 rfl rfl, Or.inr (zb_mem 356 rfl rfl)⟩
set_option maxRecDepth 20000 in
theorem l_Mis_1 : zl_I "SameTuesday$Mishap" 1 y_Hap_init b_Hap_init 5 4 := ⟨⟨zb_mem 341 rfl rfl, zb_mem 60 rfl rfl, zb_mem 343 rfl rfl, by decide, by decide +kernel⟩, rfl, zb_mem 342 rfl rfl⟩
set_option maxRecDepth 20000 in
theorem l_Mis_22 : zl_V "SameTuesday$Mishap" 22 y_Trc_leave b_Trc_leave 2 none 1 := ⟨⟨zb_mem 850 rfl rfl, zb_mem 56 rfl rfl, zb_mem 846 rfl rfl, by decide, by decide +kernel⟩, zb_mem 844 rfl rfl, zb_mem 845 rfl rfl⟩
theorem d_Mis_init_0 : zd_l .aload_n .aload b_Mis_init 0 0 1 := Or.inl ⟨0, rfl, by decide +kernel, rfl⟩
theorem d_Mis_init_1 : zd_l .iload_n .iload b_Mis_init 1 1 2 := Or.inl ⟨1, rfl, by decide +kernel, rfl⟩
theorem d_Mis_init_2 : zd_l .iload_n .iload b_Mis_init 2 2 3 := Or.inl ⟨2, rfl, by decide +kernel, rfl⟩
theorem d_Mis_init_3 : zd_l .iload_n .iload b_Mis_init 3 3 4 := Or.inl ⟨3, rfl, by decide +kernel, rfl⟩
theorem d_Mis_init_4 : zd_l .iload_n .iload b_Mis_init 4 4 6 := Or.inr ⟨by decide +kernel, rfl⟩
theorem d_Mis_init_6 : zd b_Mis_init 6 (.invokespecial 1) 3 9 := ⟨by decide +kernel, rfl⟩
theorem d_Mis_init_9 : zd b_Mis_init 9 .return_ 1 10 := ⟨by decide +kernel, rfl⟩
theorem d_Mis_kind_0 : zd_k b_Mis_kind "SameTuesday$Mishap" 0 1 1 := Or.inl ⟨1, by decide +kernel, by decide, rfl⟩
theorem d_Mis_kind_1 : zd b_Mis_kind 1 .ireturn 1 2 := ⟨by decide +kernel, rfl⟩
theorem d_Mis_after_0 : zd_l .lload_n .lload b_Mis_after 0 1 1 := Or.inl ⟨1, rfl, by decide +kernel, rfl⟩
theorem d_Mis_after_1 : zd_l .aload_n .aload b_Mis_after 1 0 2 := Or.inl ⟨0, rfl, by decide +kernel, rfl⟩
theorem d_Mis_after_2 : zd b_Mis_after 2 (.getfield 7) 3 5 := ⟨by decide +kernel, rfl⟩
theorem d_Mis_after_5 : zd b_Mis_after 5 .land 1 6 := ⟨by decide +kernel, rfl⟩
theorem d_Mis_after_6 : zd_l .aload_n .aload b_Mis_after 6 0 7 := Or.inl ⟨0, rfl, by decide +kernel, rfl⟩
theorem d_Mis_after_7 : zd b_Mis_after 7 (.getfield 13) 3 10 := ⟨by decide +kernel, rfl⟩
theorem d_Mis_after_10 : zd b_Mis_after 10 .land 1 11 := ⟨by decide +kernel, rfl⟩
theorem d_Mis_after_11 : zd_l .lstore_n .lstore b_Mis_after 11 3 12 := Or.inl ⟨3, rfl, by decide +kernel, rfl⟩
theorem d_Mis_after_12 : zd_l .lload_n .lload b_Mis_after 12 1 13 := Or.inl ⟨1, rfl, by decide +kernel, rfl⟩
theorem d_Mis_after_13 : zd_l .lload_n .lload b_Mis_after 13 3 14 := Or.inl ⟨3, rfl, by decide +kernel, rfl⟩
set_option maxRecDepth 20000 in
theorem d_Mis_after_14 : zd_kl b_Mis_after "SameTuesday$Mishap" 14 (-1) 17 := Or.inr ⟨16, by decide +kernel, zb_mem 565 rfl rfl, rfl⟩
theorem d_Mis_after_17 : zd b_Mis_after 17 .lxor 1 18 := ⟨by decide +kernel, rfl⟩
theorem d_Mis_after_18 : zd b_Mis_after 18 .land 1 19 := ⟨by decide +kernel, rfl⟩
theorem d_Mis_after_19 : zd_l .lload_n .lload b_Mis_after 19 3 20 := Or.inl ⟨3, rfl, by decide +kernel, rfl⟩
theorem d_Mis_after_20 : zd_k b_Mis_after "SameTuesday$Mishap" 20 1 21 := Or.inl ⟨1, by decide +kernel, by decide, rfl⟩
theorem d_Mis_after_21 : zd_l .aload_n .aload b_Mis_after 21 0 22 := Or.inl ⟨0, rfl, by decide +kernel, rfl⟩
theorem d_Mis_after_22 : zd b_Mis_after 22 (.getfield 18) 3 25 := ⟨by decide +kernel, rfl⟩
theorem d_Mis_after_25 : zd b_Mis_after 25 .ishl 1 26 := ⟨by decide +kernel, rfl⟩
theorem d_Mis_after_26 : zd b_Mis_after 26 .lushr 1 27 := ⟨by decide +kernel, rfl⟩
theorem d_Mis_after_27 : zd b_Mis_after 27 .lor 1 28 := ⟨by decide +kernel, rfl⟩
theorem d_Mis_after_28 : zd b_Mis_after 28 .lreturn 1 29 := ⟨by decide +kernel, rfl⟩
theorem d_Mis_telling_0 : zd_l .aload_n .aload b_Mis_telling 0 1 1 := Or.inl ⟨1, rfl, by decide +kernel, rfl⟩
theorem d_Mis_telling_1 : zd_k b_Mis_telling "SameTuesday$Mishap" 1 2 2 := Or.inl ⟨2, by decide +kernel, by decide, rfl⟩
theorem d_Mis_telling_2 : zd b_Mis_telling 2 (.invokevirtual 22) 3 5 := ⟨by decide +kernel, rfl⟩
theorem d_Mis_telling_5 : zd_l .aload_n .aload b_Mis_telling 5 0 6 := Or.inl ⟨0, rfl, by decide +kernel, rfl⟩
theorem d_Mis_telling_6 : zd_l .aload_n .aload b_Mis_telling 6 1 7 := Or.inl ⟨1, rfl, by decide +kernel, rfl⟩
theorem d_Mis_telling_7 : zd b_Mis_telling 7 (.invokevirtual 28) 3 10 := ⟨by decide +kernel, rfl⟩
theorem d_Mis_telling_10 : zd_k b_Mis_telling "SameTuesday$Mishap" 10 100 12 := Or.inr (Or.inl ⟨100, by decide +kernel, by decide, rfl⟩)
theorem d_Mis_telling_12 : zd b_Mis_telling 12 .iadd 1 13 := ⟨by decide +kernel, rfl⟩
theorem d_Mis_telling_13 : zd b_Mis_telling 13 .ireturn 1 14 := ⟨by decide +kernel, rfl⟩
set_option maxRecDepth 20000 in
theorem f_Rch_9_6 : zb_FL "SameTuesday$Reach" 9 6 0 := ⟨"SameTuesday$Reach", zF_Rch, 5, "SameTuesday$Reach", rfl, by decide, zi_Rch, zb_mem 172 rfl rfl, Or.inl rfl⟩
set_option maxRecDepth 20000 in
theorem p_Rch_9_6 : zb_PF "SameTuesday$Reach" 9 6 0 (.object "SameTuesday$Town") := ⟨"SameTuesday$Reach", zF_Rch, 5, "SameTuesday$Reach", zt_Rch, rfl, by decide, zi_Rch, zb_mem 172 rfl rfl, Or.inl rfl, zk_Rch, zn_Rch, rfl, rfl, rfl⟩
set_option maxRecDepth 20000 in
theorem f_Rch_15_6 : zb_FL "SameTuesday$Reach" 15 6 1 := ⟨"SameTuesday$Reach", zF_Rch, 5, "SameTuesday$Reach", rfl, by decide, zi_Rch, zb_mem 173 rfl rfl, Or.inl rfl⟩
set_option maxRecDepth 20000 in
theorem p_Rch_15_6 : zb_PF "SameTuesday$Reach" 15 6 1 (.array .long) := ⟨"SameTuesday$Reach", zF_Rch, 5, "SameTuesday$Reach", zt_Rch, rfl, by decide, zi_Rch, zb_mem 173 rfl rfl, Or.inl rfl, zk_Rch, zn_Rch, rfl, rfl, rfl⟩
set_option maxRecDepth 20000 in
theorem f_Rch_19_6 : zb_FL "SameTuesday$Reach" 19 6 2 := ⟨"SameTuesday$Reach", zF_Rch, 5, "SameTuesday$Reach", rfl, by decide, zi_Rch, zb_mem 174 rfl rfl, Or.inl rfl⟩
set_option maxRecDepth 20000 in
theorem p_Rch_19_6 : zb_PF "SameTuesday$Reach" 19 6 2 (.array .long) := ⟨"SameTuesday$Reach", zF_Rch, 5, "SameTuesday$Reach", zt_Rch, rfl, by decide, zi_Rch, zb_mem 174 rfl rfl, Or.inl rfl, zk_Rch, zn_Rch, rfl, rfl, rfl⟩
set_option maxRecDepth 20000 in
theorem f_Rch_22_6 : zb_FL "SameTuesday$Reach" 22 6 3 := ⟨"SameTuesday$Reach", zF_Rch, 5, "SameTuesday$Reach", rfl, by decide, zi_Rch, zb_mem 175 rfl rfl, Or.inl rfl⟩
set_option maxRecDepth 20000 in
theorem p_Rch_22_6 : zb_PL "SameTuesday$Reach" 22 6 3 .long := ⟨"SameTuesday$Reach", zF_Rch, 5, "SameTuesday$Reach", zt_Rch, rfl, by decide, zi_Rch, zb_mem 175 rfl rfl, Or.inl rfl, zk_Rch, zn_Rch, rfl, rfl⟩
set_option maxRecDepth 20000 in
theorem f_Rch_26_6 : zb_FL "SameTuesday$Reach" 26 6 4 := ⟨"SameTuesday$Reach", zF_Rch, 5, "SameTuesday$Reach", rfl, by decide, zi_Rch, zb_mem 176 rfl rfl, Or.inl rfl⟩
set_option maxRecDepth 20000 in
theorem p_Rch_26_6 : zb_PL "SameTuesday$Reach" 26 6 4 .boolean := ⟨"SameTuesday$Reach", zF_Rch, 5, "SameTuesday$Reach", zt_Rch, rfl, by decide, zi_Rch, zb_mem 176 rfl rfl, Or.inl rfl, zk_Rch, zn_Rch, rfl, rfl⟩
set_option maxRecDepth 20000 in
theorem f_Rch_84_1 : zb_FL "SameTuesday$Reach" 84 1 3 := ⟨"SameTuesday$Deed", zF_Deed, 5, "SameTuesday$Deed", rfl, by decide, zi_Deed, zb_mem 433 rfl rfl, Or.inl rfl⟩
set_option maxRecDepth 20000 in
theorem l_Rch_30 : zl_V "SameTuesday$Reach" 30 y_Rch_reckon b_Rch_reckon 2 none 0 := ⟨⟨zb_mem 637 rfl rfl, zb_mem 54 rfl rfl, zb_mem 640 rfl rfl, by decide, by decide +kernel⟩, zb_mem 639 rfl rfl, zb_mem 14 rfl rfl⟩
set_option maxRecDepth 20000 in
theorem l_Rch_33 : zl_V "SameTuesday$Reach" 33 y_Twn_minuteInDay b_Twn_minuteInDay 2 (some .int) 1 := ⟨⟨zb_mem 665 rfl rfl, zb_mem 52 rfl rfl, zb_mem 548 rfl rfl, by decide, by decide +kernel⟩, zb_mem 546 rfl rfl, zb_mem 547 rfl rfl⟩
set_option maxRecDepth 20000 in
theorem l_Rch_39 : zl_N "SameTuesday$Reach" 39 y_Tue_worldWithAll "SameTuesday" b_Tue_worldWithAll 4 (some .long) 1 := ⟨List.mem_of_getElem? (i := 3) rfl, zb_mem 50 rfl rfl, zb_mem 679 rfl rfl, by decide, by decide +kernel, zb_mem 678 rfl rfl⟩
set_option maxRecDepth 20000 in
theorem l_Rch_43 : zl_V "SameTuesday$Reach" 43 y_Twn_minuteCount b_Twn_minuteCount 1 (some .int) 0 := ⟨⟨zb_mem 641 rfl rfl, zb_mem 52 rfl rfl, zb_mem 510 rfl rfl, by decide, by decide +kernel⟩, zb_mem 508 rfl rfl, zb_mem 509 rfl rfl⟩
set_option maxRecDepth 20000 in
theorem l_Rch_47 : zl_V "SameTuesday$Reach" 47 y_Rch_worldAt b_Rch_worldAt 3 (some .long) 1 := ⟨⟨zb_mem 681 rfl rfl, zb_mem 54 rfl rfl, zb_mem 636 rfl rfl, by decide, by decide +kernel⟩, zb_mem 634 rfl rfl, zb_mem 635 rfl rfl⟩
set_option maxRecDepth 20000 in
theorem l_Rch_50 : zl_V "SameTuesday$Reach" 50 y_Rch_passHappenings b_Rch_passHappenings 3 none 1 := ⟨⟨zb_mem 642 rfl rfl, zb_mem 54 rfl rfl, zb_mem 645 rfl rfl, by decide, by decide +kernel⟩, zb_mem 644 rfl rfl, zb_mem 15 rfl rfl⟩
set_option maxRecDepth 20000 in
theorem l_Rch_54 : zl_V "SameTuesday$Reach" 54 y_Rch_endDeeds b_Rch_endDeeds 4 none 0 := ⟨⟨zb_mem 647 rfl rfl, zb_mem 54 rfl rfl, zb_mem 650 rfl rfl, by decide, by decide +kernel⟩, zb_mem 649 rfl rfl, zb_mem 16 rfl rfl⟩
set_option maxRecDepth 20000 in
theorem l_Rch_57 : zl_V "SameTuesday$Reach" 57 y_Rch_beginDeeds b_Rch_beginDeeds 4 none 1 := ⟨⟨zb_mem 656 rfl rfl, zb_mem 54 rfl rfl, zb_mem 659 rfl rfl, by decide, by decide +kernel⟩, zb_mem 658 rfl rfl, zb_mem 17 rfl rfl⟩
set_option maxRecDepth 20000 in
theorem l_Rch_60 : zl_V "SameTuesday$Reach" 60 y_Rch_everyWorld b_Rch_everyWorld 4 (some .long) 0 := ⟨⟨zb_mem 661 rfl rfl, zb_mem 54 rfl rfl, zb_mem 664 rfl rfl, by decide, by decide +kernel⟩, zb_mem 663 rfl rfl, zb_mem 18 rfl rfl⟩
set_option maxRecDepth 20000 in
theorem l_Rch_64 : zl_V "SameTuesday$Reach" 64 y_Twn_happenIn b_Twn_happenIn 9 (some .long) 3 := ⟨⟨zb_mem 646 rfl rfl, zb_mem 52 rfl rfl, zb_mem 553 rfl rfl, by decide, by decide +kernel⟩, zb_mem 551 rfl rfl, zb_mem 552 rfl rfl⟩
set_option maxRecDepth 20000 in
theorem l_Rch_68 : zl_V "SameTuesday$Reach" 68 y_Twn_deedOf b_Twn_deedOf 2 (some (.object "SameTuesday$Deed")) 1 := ⟨⟨zb_mem 651 rfl rfl, zb_mem 52 rfl rfl, zb_mem 498 rfl rfl, by decide, by decide +kernel⟩, zb_mem 496 rfl rfl, zb_mem 497 rfl rfl⟩
set_option maxRecDepth 20000 in
theorem l_Rch_72 : zl_V "SameTuesday$Reach" 72 y_Deed_after b_Deed_after 9 (some .long) 1 := ⟨⟨zb_mem 652 rfl rfl, zb_mem 63 rfl rfl, zb_mem 575 rfl rfl, by decide, by decide +kernel⟩, zb_mem 573 rfl rfl, zb_mem 574 rfl rfl⟩
set_option maxRecDepth 20000 in
theorem l_Rch_88 : zl_V "SameTuesday$Reach" 88 y_Twn_openTo b_Twn_openTo 5 (some .long) 3 := ⟨⟨zb_mem 660 rfl rfl, zb_mem 52 rfl rfl, zb_mem 596 rfl rfl, by decide, by decide +kernel⟩, zb_mem 594 rfl rfl, zb_mem 595 rfl rfl⟩
theorem d_Rch_init_0 : zd_l .aload_n .aload b_Rch_init 0 0 1 := Or.inl ⟨0, rfl, by decide +kernel, rfl⟩
theorem d_Rch_init_1 : zd b_Rch_init 1 (.invokespecial 3) 3 4 := ⟨by decide +kernel, rfl⟩
theorem d_Rch_init_4 : zd_l .aload_n .aload b_Rch_init 4 0 5 := Or.inl ⟨0, rfl, by decide +kernel, rfl⟩
theorem d_Rch_init_5 : zd_l .aload_n .aload b_Rch_init 5 1 6 := Or.inl ⟨1, rfl, by decide +kernel, rfl⟩
theorem d_Rch_init_6 : zd b_Rch_init 6 (.putfield 9) 3 9 := ⟨by decide +kernel, rfl⟩
theorem d_Rch_init_9 : zd_l .aload_n .aload b_Rch_init 9 0 10 := Or.inl ⟨0, rfl, by decide +kernel, rfl⟩
theorem d_Rch_init_10 : zd_k b_Rch_init "SameTuesday$Reach" 10 60 12 := Or.inr (Or.inl ⟨60, by decide +kernel, by decide, rfl⟩)
theorem d_Rch_init_12 : zd b_Rch_init 12 (.newarray .long) 2 14 := ⟨by decide +kernel, rfl⟩
theorem d_Rch_init_14 : zd b_Rch_init 14 (.putfield 15) 3 17 := ⟨by decide +kernel, rfl⟩
theorem d_Rch_init_17 : zd_l .aload_n .aload b_Rch_init 17 0 18 := Or.inl ⟨0, rfl, by decide +kernel, rfl⟩
theorem d_Rch_init_18 : zd_k b_Rch_init "SameTuesday$Reach" 18 50 20 := Or.inr (Or.inl ⟨50, by decide +kernel, by decide, rfl⟩)
theorem d_Rch_init_20 : zd b_Rch_init 20 (.newarray .long) 2 22 := ⟨by decide +kernel, rfl⟩
theorem d_Rch_init_22 : zd b_Rch_init 22 (.putfield 19) 3 25 := ⟨by decide +kernel, rfl⟩
theorem d_Rch_init_25 : zd_l .aload_n .aload b_Rch_init 25 0 26 := Or.inl ⟨0, rfl, by decide +kernel, rfl⟩
theorem d_Rch_init_26 : zd_kl b_Rch_init "SameTuesday$Reach" 26 1 27 := Or.inl ⟨1, by decide +kernel, by decide, rfl⟩
theorem d_Rch_init_27 : zd b_Rch_init 27 (.putfield 22) 3 30 := ⟨by decide +kernel, rfl⟩
theorem d_Rch_init_30 : zd_l .aload_n .aload b_Rch_init 30 0 31 := Or.inl ⟨0, rfl, by decide +kernel, rfl⟩
theorem d_Rch_init_31 : zd_k b_Rch_init "SameTuesday$Reach" 31 1 32 := Or.inl ⟨1, by decide +kernel, by decide, rfl⟩
theorem d_Rch_init_32 : zd b_Rch_init 32 (.putfield 26) 3 35 := ⟨by decide +kernel, rfl⟩
theorem d_Rch_init_35 : zd b_Rch_init 35 .return_ 1 36 := ⟨by decide +kernel, rfl⟩
theorem d_Rch_spoil_0 : zd_l .aload_n .aload b_Rch_spoil 0 0 1 := Or.inl ⟨0, rfl, by decide +kernel, rfl⟩
theorem d_Rch_spoil_1 : zd_k b_Rch_spoil "SameTuesday$Reach" 1 1 2 := Or.inl ⟨1, by decide +kernel, by decide, rfl⟩
theorem d_Rch_spoil_2 : zd b_Rch_spoil 2 (.putfield 26) 3 5 := ⟨by decide +kernel, rfl⟩
theorem d_Rch_spoil_5 : zd b_Rch_spoil 5 .return_ 1 6 := ⟨by decide +kernel, rfl⟩
theorem d_Rch_worldAt_0 : zd_l .aload_n .aload b_Rch_worldAt 0 0 1 := Or.inl ⟨0, rfl, by decide +kernel, rfl⟩
theorem d_Rch_worldAt_1 : zd b_Rch_worldAt 1 (.getfield 26) 3 4 := ⟨by decide +kernel, rfl⟩
theorem d_Rch_worldAt_4 : zd_b b_Rch_worldAt 4 (.ifCond .eq) 7 16 := ⟨12, by decide +kernel, by decide, rfl⟩
theorem d_Rch_worldAt_7 : zd_l .aload_n .aload b_Rch_worldAt 7 0 8 := Or.inl ⟨0, rfl, by decide +kernel, rfl⟩
theorem d_Rch_worldAt_8 : zd b_Rch_worldAt 8 (.invokevirtual 30) 3 11 := ⟨by decide +kernel, rfl⟩
theorem d_Rch_worldAt_11 : zd_l .aload_n .aload b_Rch_worldAt 11 0 12 := Or.inl ⟨0, rfl, by decide +kernel, rfl⟩
theorem d_Rch_worldAt_12 : zd_k b_Rch_worldAt "SameTuesday$Reach" 12 0 13 := Or.inl ⟨0, by decide +kernel, by decide, rfl⟩
theorem d_Rch_worldAt_13 : zd b_Rch_worldAt 13 (.putfield 26) 3 16 := ⟨by decide +kernel, rfl⟩
theorem d_Rch_worldAt_16 : zd_l .aload_n .aload b_Rch_worldAt 16 0 17 := Or.inl ⟨0, rfl, by decide +kernel, rfl⟩
theorem d_Rch_worldAt_17 : zd b_Rch_worldAt 17 (.getfield 9) 3 20 := ⟨by decide +kernel, rfl⟩
theorem d_Rch_worldAt_20 : zd_l .iload_n .iload b_Rch_worldAt 20 1 21 := Or.inl ⟨1, rfl, by decide +kernel, rfl⟩
theorem d_Rch_worldAt_21 : zd b_Rch_worldAt 21 (.invokevirtual 33) 3 24 := ⟨by decide +kernel, rfl⟩
theorem d_Rch_worldAt_24 : zd_l .istore_n .istore b_Rch_worldAt 24 2 25 := Or.inl ⟨2, rfl, by decide +kernel, rfl⟩
theorem d_Rch_worldAt_25 : zd_l .iload_n .iload b_Rch_worldAt 25 2 26 := Or.inl ⟨2, rfl, by decide +kernel, rfl⟩
theorem d_Rch_worldAt_26 : zd_b b_Rch_worldAt 26 (.ifCond .lt) 29 47 := ⟨21, by decide +kernel, by decide, rfl⟩
theorem d_Rch_worldAt_29 : zd_l .iload_n .iload b_Rch_worldAt 29 2 30 := Or.inl ⟨2, rfl, by decide +kernel, rfl⟩
theorem d_Rch_worldAt_30 : zd_l .aload_n .aload b_Rch_worldAt 30 0 31 := Or.inl ⟨0, rfl, by decide +kernel, rfl⟩
theorem d_Rch_worldAt_31 : zd b_Rch_worldAt 31 (.getfield 15) 3 34 := ⟨by decide +kernel, rfl⟩
theorem d_Rch_worldAt_34 : zd b_Rch_worldAt 34 .arraylength 1 35 := ⟨by decide +kernel, rfl⟩
theorem d_Rch_worldAt_35 : zd_b b_Rch_worldAt 35 (.if_icmp .ge) 38 47 := ⟨12, by decide +kernel, by decide, rfl⟩
theorem d_Rch_worldAt_38 : zd_l .aload_n .aload b_Rch_worldAt 38 0 39 := Or.inl ⟨0, rfl, by decide +kernel, rfl⟩
theorem d_Rch_worldAt_39 : zd b_Rch_worldAt 39 (.getfield 15) 3 42 := ⟨by decide +kernel, rfl⟩
theorem d_Rch_worldAt_42 : zd_l .iload_n .iload b_Rch_worldAt 42 2 43 := Or.inl ⟨2, rfl, by decide +kernel, rfl⟩
theorem d_Rch_worldAt_43 : zd b_Rch_worldAt 43 .laload 1 44 := ⟨by decide +kernel, rfl⟩
theorem d_Rch_worldAt_44 : zd_b b_Rch_worldAt 44 .goto 47 48 := ⟨4, by decide +kernel, by decide, rfl⟩
theorem d_Rch_worldAt_47 : zd_kl b_Rch_worldAt "SameTuesday$Reach" 47 0 48 := Or.inl ⟨0, by decide +kernel, by decide, rfl⟩
theorem d_Rch_worldAt_48 : zd b_Rch_worldAt 48 .lreturn 1 49 := ⟨by decide +kernel, rfl⟩
theorem d_Rch_soonestOf_0 : zd_l .iload_n .iload b_Rch_soonestOf 0 1 1 := Or.inl ⟨1, rfl, by decide +kernel, rfl⟩
theorem d_Rch_soonestOf_1 : zd b_Rch_soonestOf 1 (.invokestatic 39) 3 4 := ⟨by decide +kernel, rfl⟩
theorem d_Rch_soonestOf_4 : zd_l .lstore_n .lstore b_Rch_soonestOf 4 2 5 := Or.inl ⟨2, rfl, by decide +kernel, rfl⟩
theorem d_Rch_soonestOf_5 : zd_k b_Rch_soonestOf "SameTuesday$Reach" 5 0 6 := Or.inl ⟨0, by decide +kernel, by decide, rfl⟩
theorem d_Rch_soonestOf_6 : zd_l .istore_n .istore b_Rch_soonestOf 6 4 8 := Or.inr ⟨by decide +kernel, rfl⟩
theorem d_Rch_soonestOf_8 : zd_l .iload_n .iload b_Rch_soonestOf 8 4 10 := Or.inr ⟨by decide +kernel, rfl⟩
theorem d_Rch_soonestOf_10 : zd_l .aload_n .aload b_Rch_soonestOf 10 0 11 := Or.inl ⟨0, rfl, by decide +kernel, rfl⟩
theorem d_Rch_soonestOf_11 : zd b_Rch_soonestOf 11 (.getfield 9) 3 14 := ⟨by decide +kernel, rfl⟩
theorem d_Rch_soonestOf_14 : zd b_Rch_soonestOf 14 (.invokevirtual 43) 3 17 := ⟨by decide +kernel, rfl⟩
theorem d_Rch_soonestOf_17 : zd_b b_Rch_soonestOf 17 (.if_icmp .ge) 20 42 := ⟨25, by decide +kernel, by decide, rfl⟩
theorem d_Rch_soonestOf_20 : zd_l .aload_n .aload b_Rch_soonestOf 20 0 21 := Or.inl ⟨0, rfl, by decide +kernel, rfl⟩
theorem d_Rch_soonestOf_21 : zd_l .iload_n .iload b_Rch_soonestOf 21 4 23 := Or.inr ⟨by decide +kernel, rfl⟩
theorem d_Rch_soonestOf_23 : zd b_Rch_soonestOf 23 (.invokevirtual 47) 3 26 := ⟨by decide +kernel, rfl⟩
theorem d_Rch_soonestOf_26 : zd_l .lload_n .lload b_Rch_soonestOf 26 2 27 := Or.inl ⟨2, rfl, by decide +kernel, rfl⟩
theorem d_Rch_soonestOf_27 : zd b_Rch_soonestOf 27 .land 1 28 := ⟨by decide +kernel, rfl⟩
theorem d_Rch_soonestOf_28 : zd_kl b_Rch_soonestOf "SameTuesday$Reach" 28 0 29 := Or.inl ⟨0, by decide +kernel, by decide, rfl⟩
theorem d_Rch_soonestOf_29 : zd b_Rch_soonestOf 29 .lcmp 1 30 := ⟨by decide +kernel, rfl⟩
theorem d_Rch_soonestOf_30 : zd_b b_Rch_soonestOf 30 (.ifCond .eq) 33 36 := ⟨6, by decide +kernel, by decide, rfl⟩
theorem d_Rch_soonestOf_33 : zd_l .iload_n .iload b_Rch_soonestOf 33 4 35 := Or.inr ⟨by decide +kernel, rfl⟩
theorem d_Rch_soonestOf_35 : zd b_Rch_soonestOf 35 .ireturn 1 36 := ⟨by decide +kernel, rfl⟩
theorem d_Rch_soonestOf_36 : zd_i b_Rch_soonestOf 36 4 1 1 39 := ⟨by decide +kernel, by decide, rfl⟩
theorem d_Rch_soonestOf_39 : zd_b b_Rch_soonestOf 39 .goto 42 8 := ⟨(-31), by decide +kernel, by decide, rfl⟩
theorem d_Rch_soonestOf_42 : zd_k b_Rch_soonestOf "SameTuesday$Reach" 42 (-9) 44 := Or.inr (Or.inl ⟨(-9), by decide +kernel, by decide, rfl⟩)
theorem d_Rch_soonestOf_44 : zd b_Rch_soonestOf 44 .ireturn 1 45 := ⟨by decide +kernel, rfl⟩
theorem d_Rch_barOf_0 : zd_l .aload_n .aload b_Rch_barOf 0 0 1 := Or.inl ⟨0, rfl, by decide +kernel, rfl⟩
theorem d_Rch_barOf_1 : zd_k b_Rch_barOf "SameTuesday$Reach" 1 59 3 := Or.inr (Or.inl ⟨59, by decide +kernel, by decide, rfl⟩)
theorem d_Rch_barOf_3 : zd b_Rch_barOf 3 (.invokevirtual 47) 3 6 := ⟨by decide +kernel, rfl⟩
theorem d_Rch_barOf_6 : zd_l .lstore_n .lstore b_Rch_barOf 6 2 7 := Or.inl ⟨2, rfl, by decide +kernel, rfl⟩
theorem d_Rch_barOf_7 : zd_k b_Rch_barOf "SameTuesday$Reach" 7 0 8 := Or.inl ⟨0, by decide +kernel, by decide, rfl⟩
theorem d_Rch_barOf_8 : zd_l .istore_n .istore b_Rch_barOf 8 4 10 := Or.inr ⟨by decide +kernel, rfl⟩
theorem d_Rch_barOf_10 : zd_l .iload_n .iload b_Rch_barOf 10 4 12 := Or.inr ⟨by decide +kernel, rfl⟩
theorem d_Rch_barOf_12 : zd_k b_Rch_barOf "SameTuesday$Reach" 12 6 14 := Or.inr (Or.inl ⟨6, by decide +kernel, by decide, rfl⟩)
theorem d_Rch_barOf_14 : zd_b b_Rch_barOf 14 (.if_icmp .ge) 17 83 := ⟨69, by decide +kernel, by decide, rfl⟩
theorem d_Rch_barOf_17 : zd_l .iload_n .iload b_Rch_barOf 17 4 19 := Or.inr ⟨by decide +kernel, rfl⟩
theorem d_Rch_barOf_19 : zd_k b_Rch_barOf "SameTuesday$Reach" 19 1 20 := Or.inl ⟨1, by decide +kernel, by decide, rfl⟩
theorem d_Rch_barOf_20 : zd b_Rch_barOf 20 .iadd 1 21 := ⟨by decide +kernel, rfl⟩
theorem d_Rch_barOf_21 : zd_l .istore_n .istore b_Rch_barOf 21 5 23 := Or.inr ⟨by decide +kernel, rfl⟩
theorem d_Rch_barOf_23 : zd_l .iload_n .iload b_Rch_barOf 23 5 25 := Or.inr ⟨by decide +kernel, rfl⟩
theorem d_Rch_barOf_25 : zd_k b_Rch_barOf "SameTuesday$Reach" 25 6 27 := Or.inr (Or.inl ⟨6, by decide +kernel, by decide, rfl⟩)
theorem d_Rch_barOf_27 : zd_b b_Rch_barOf 27 (.if_icmp .ge) 30 77 := ⟨50, by decide +kernel, by decide, rfl⟩
theorem d_Rch_barOf_30 : zd_k b_Rch_barOf "SameTuesday$Reach" 30 1 31 := Or.inl ⟨1, by decide +kernel, by decide, rfl⟩
theorem d_Rch_barOf_31 : zd_l .iload_n .iload b_Rch_barOf 31 4 33 := Or.inr ⟨by decide +kernel, rfl⟩
theorem d_Rch_barOf_33 : zd b_Rch_barOf 33 .ishl 1 34 := ⟨by decide +kernel, rfl⟩
theorem d_Rch_barOf_34 : zd_k b_Rch_barOf "SameTuesday$Reach" 34 1 35 := Or.inl ⟨1, by decide +kernel, by decide, rfl⟩
theorem d_Rch_barOf_35 : zd_l .iload_n .iload b_Rch_barOf 35 5 37 := Or.inr ⟨by decide +kernel, rfl⟩
theorem d_Rch_barOf_37 : zd b_Rch_barOf 37 .ishl 1 38 := ⟨by decide +kernel, rfl⟩
theorem d_Rch_barOf_38 : zd b_Rch_barOf 38 .ior 1 39 := ⟨by decide +kernel, rfl⟩
theorem d_Rch_barOf_39 : zd_l .istore_n .istore b_Rch_barOf 39 6 41 := Or.inr ⟨by decide +kernel, rfl⟩
theorem d_Rch_barOf_41 : zd_l .iload_n .iload b_Rch_barOf 41 1 42 := Or.inl ⟨1, rfl, by decide +kernel, rfl⟩
theorem d_Rch_barOf_42 : zd_l .iload_n .iload b_Rch_barOf 42 6 44 := Or.inr ⟨by decide +kernel, rfl⟩
theorem d_Rch_barOf_44 : zd b_Rch_barOf 44 .iand 1 45 := ⟨by decide +kernel, rfl⟩
theorem d_Rch_barOf_45 : zd_l .iload_n .iload b_Rch_barOf 45 6 47 := Or.inr ⟨by decide +kernel, rfl⟩
theorem d_Rch_barOf_47 : zd_b b_Rch_barOf 47 (.if_icmp .ne) 50 71 := ⟨24, by decide +kernel, by decide, rfl⟩
theorem d_Rch_barOf_50 : zd_l .lload_n .lload b_Rch_barOf 50 2 51 := Or.inl ⟨2, rfl, by decide +kernel, rfl⟩
theorem d_Rch_barOf_51 : zd_l .iload_n .iload b_Rch_barOf 51 6 53 := Or.inr ⟨by decide +kernel, rfl⟩
theorem d_Rch_barOf_53 : zd b_Rch_barOf 53 (.invokestatic 39) 3 56 := ⟨by decide +kernel, rfl⟩
theorem d_Rch_barOf_56 : zd b_Rch_barOf 56 .land 1 57 := ⟨by decide +kernel, rfl⟩
theorem d_Rch_barOf_57 : zd_kl b_Rch_barOf "SameTuesday$Reach" 57 0 58 := Or.inl ⟨0, by decide +kernel, by decide, rfl⟩
theorem d_Rch_barOf_58 : zd b_Rch_barOf 58 .lcmp 1 59 := ⟨by decide +kernel, rfl⟩
theorem d_Rch_barOf_59 : zd_b b_Rch_barOf 59 (.ifCond .ne) 62 71 := ⟨12, by decide +kernel, by decide, rfl⟩
theorem d_Rch_barOf_62 : zd_k b_Rch_barOf "SameTuesday$Reach" 62 10 64 := Or.inr (Or.inl ⟨10, by decide +kernel, by decide, rfl⟩)
theorem d_Rch_barOf_64 : zd_l .iload_n .iload b_Rch_barOf 64 4 66 := Or.inr ⟨by decide +kernel, rfl⟩
theorem d_Rch_barOf_66 : zd b_Rch_barOf 66 .imul 1 67 := ⟨by decide +kernel, rfl⟩
theorem d_Rch_barOf_67 : zd_l .iload_n .iload b_Rch_barOf 67 5 69 := Or.inr ⟨by decide +kernel, rfl⟩
theorem d_Rch_barOf_69 : zd b_Rch_barOf 69 .iadd 1 70 := ⟨by decide +kernel, rfl⟩
theorem d_Rch_barOf_70 : zd b_Rch_barOf 70 .ireturn 1 71 := ⟨by decide +kernel, rfl⟩
theorem d_Rch_barOf_71 : zd_i b_Rch_barOf 71 5 1 1 74 := ⟨by decide +kernel, by decide, rfl⟩
theorem d_Rch_barOf_74 : zd_b b_Rch_barOf 74 .goto 77 23 := ⟨(-51), by decide +kernel, by decide, rfl⟩
theorem d_Rch_barOf_77 : zd_i b_Rch_barOf 77 4 1 1 80 := ⟨by decide +kernel, by decide, rfl⟩
theorem d_Rch_barOf_80 : zd_b b_Rch_barOf 80 .goto 83 10 := ⟨(-70), by decide +kernel, by decide, rfl⟩
theorem d_Rch_barOf_83 : zd_k b_Rch_barOf "SameTuesday$Reach" 83 (-9) 85 := Or.inr (Or.inl ⟨(-9), by decide +kernel, by decide, rfl⟩)
theorem d_Rch_barOf_85 : zd b_Rch_barOf 85 .ireturn 1 86 := ⟨by decide +kernel, rfl⟩
theorem d_Rch_reckon_0 : zd_l .aload_n .aload b_Rch_reckon 0 0 1 := Or.inl ⟨0, rfl, by decide +kernel, rfl⟩
theorem d_Rch_reckon_1 : zd_kl b_Rch_reckon "SameTuesday$Reach" 1 1 2 := Or.inl ⟨1, by decide +kernel, by decide, rfl⟩
theorem d_Rch_reckon_2 : zd b_Rch_reckon 2 (.putfield 22) 3 5 := ⟨by decide +kernel, rfl⟩
theorem d_Rch_reckon_5 : zd_k b_Rch_reckon "SameTuesday$Reach" 5 0 6 := Or.inl ⟨0, by decide +kernel, by decide, rfl⟩
theorem d_Rch_reckon_6 : zd_l .istore_n .istore b_Rch_reckon 6 1 7 := Or.inl ⟨1, rfl, by decide +kernel, rfl⟩
theorem d_Rch_reckon_7 : zd_l .iload_n .iload b_Rch_reckon 7 1 8 := Or.inl ⟨1, rfl, by decide +kernel, rfl⟩
theorem d_Rch_reckon_8 : zd_l .aload_n .aload b_Rch_reckon 8 0 9 := Or.inl ⟨0, rfl, by decide +kernel, rfl⟩
theorem d_Rch_reckon_9 : zd b_Rch_reckon 9 (.getfield 19) 3 12 := ⟨by decide +kernel, rfl⟩
theorem d_Rch_reckon_12 : zd b_Rch_reckon 12 .arraylength 1 13 := ⟨by decide +kernel, rfl⟩
theorem d_Rch_reckon_13 : zd_b b_Rch_reckon 13 (.if_icmp .ge) 16 29 := ⟨16, by decide +kernel, by decide, rfl⟩
theorem d_Rch_reckon_16 : zd_l .aload_n .aload b_Rch_reckon 16 0 17 := Or.inl ⟨0, rfl, by decide +kernel, rfl⟩
theorem d_Rch_reckon_17 : zd b_Rch_reckon 17 (.getfield 19) 3 20 := ⟨by decide +kernel, rfl⟩
theorem d_Rch_reckon_20 : zd_l .iload_n .iload b_Rch_reckon 20 1 21 := Or.inl ⟨1, rfl, by decide +kernel, rfl⟩
theorem d_Rch_reckon_21 : zd_kl b_Rch_reckon "SameTuesday$Reach" 21 0 22 := Or.inl ⟨0, by decide +kernel, by decide, rfl⟩
theorem d_Rch_reckon_22 : zd b_Rch_reckon 22 .lastore 1 23 := ⟨by decide +kernel, rfl⟩
theorem d_Rch_reckon_23 : zd_i b_Rch_reckon 23 1 1 1 26 := ⟨by decide +kernel, by decide, rfl⟩
theorem d_Rch_reckon_26 : zd_b b_Rch_reckon 26 .goto 29 7 := ⟨(-19), by decide +kernel, by decide, rfl⟩
theorem d_Rch_reckon_29 : zd_k b_Rch_reckon "SameTuesday$Reach" 29 0 30 := Or.inl ⟨0, by decide +kernel, by decide, rfl⟩
theorem d_Rch_reckon_30 : zd_l .istore_n .istore b_Rch_reckon 30 1 31 := Or.inl ⟨1, rfl, by decide +kernel, rfl⟩
theorem d_Rch_reckon_31 : zd_l .iload_n .iload b_Rch_reckon 31 1 32 := Or.inl ⟨1, rfl, by decide +kernel, rfl⟩
theorem d_Rch_reckon_32 : zd_l .aload_n .aload b_Rch_reckon 32 0 33 := Or.inl ⟨0, rfl, by decide +kernel, rfl⟩
theorem d_Rch_reckon_33 : zd b_Rch_reckon 33 (.getfield 9) 3 36 := ⟨by decide +kernel, rfl⟩
theorem d_Rch_reckon_36 : zd b_Rch_reckon 36 (.invokevirtual 43) 3 39 := ⟨by decide +kernel, rfl⟩
theorem d_Rch_reckon_39 : zd_b b_Rch_reckon 39 (.if_icmp .ge) 42 81 := ⟨42, by decide +kernel, by decide, rfl⟩
theorem d_Rch_reckon_42 : zd_l .iload_n .iload b_Rch_reckon 42 1 43 := Or.inl ⟨1, rfl, by decide +kernel, rfl⟩
theorem d_Rch_reckon_43 : zd_l .aload_n .aload b_Rch_reckon 43 0 44 := Or.inl ⟨0, rfl, by decide +kernel, rfl⟩
theorem d_Rch_reckon_44 : zd b_Rch_reckon 44 (.getfield 15) 3 47 := ⟨by decide +kernel, rfl⟩
theorem d_Rch_reckon_47 : zd b_Rch_reckon 47 .arraylength 1 48 := ⟨by decide +kernel, rfl⟩
theorem d_Rch_reckon_48 : zd_b b_Rch_reckon 48 (.if_icmp .ge) 51 81 := ⟨33, by decide +kernel, by decide, rfl⟩
theorem d_Rch_reckon_51 : zd_l .aload_n .aload b_Rch_reckon 51 0 52 := Or.inl ⟨0, rfl, by decide +kernel, rfl⟩
theorem d_Rch_reckon_52 : zd_l .iload_n .iload b_Rch_reckon 52 1 53 := Or.inl ⟨1, rfl, by decide +kernel, rfl⟩
theorem d_Rch_reckon_53 : zd b_Rch_reckon 53 (.invokevirtual 50) 3 56 := ⟨by decide +kernel, rfl⟩
theorem d_Rch_reckon_56 : zd_l .aload_n .aload b_Rch_reckon 56 0 57 := Or.inl ⟨0, rfl, by decide +kernel, rfl⟩
theorem d_Rch_reckon_57 : zd b_Rch_reckon 57 (.invokevirtual 54) 3 60 := ⟨by decide +kernel, rfl⟩
theorem d_Rch_reckon_60 : zd_l .aload_n .aload b_Rch_reckon 60 0 61 := Or.inl ⟨0, rfl, by decide +kernel, rfl⟩
theorem d_Rch_reckon_61 : zd_l .iload_n .iload b_Rch_reckon 61 1 62 := Or.inl ⟨1, rfl, by decide +kernel, rfl⟩
theorem d_Rch_reckon_62 : zd b_Rch_reckon 62 (.invokevirtual 57) 3 65 := ⟨by decide +kernel, rfl⟩
theorem d_Rch_reckon_65 : zd_l .aload_n .aload b_Rch_reckon 65 0 66 := Or.inl ⟨0, rfl, by decide +kernel, rfl⟩
theorem d_Rch_reckon_66 : zd b_Rch_reckon 66 (.getfield 15) 3 69 := ⟨by decide +kernel, rfl⟩
theorem d_Rch_reckon_69 : zd_l .iload_n .iload b_Rch_reckon 69 1 70 := Or.inl ⟨1, rfl, by decide +kernel, rfl⟩
theorem d_Rch_reckon_70 : zd_l .aload_n .aload b_Rch_reckon 70 0 71 := Or.inl ⟨0, rfl, by decide +kernel, rfl⟩
theorem d_Rch_reckon_71 : zd b_Rch_reckon 71 (.invokevirtual 60) 3 74 := ⟨by decide +kernel, rfl⟩
theorem d_Rch_reckon_74 : zd b_Rch_reckon 74 .lastore 1 75 := ⟨by decide +kernel, rfl⟩
theorem d_Rch_reckon_75 : zd_i b_Rch_reckon 75 1 1 1 78 := ⟨by decide +kernel, by decide, rfl⟩
theorem d_Rch_reckon_78 : zd_b b_Rch_reckon 78 .goto 81 31 := ⟨(-47), by decide +kernel, by decide, rfl⟩
theorem d_Rch_reckon_81 : zd b_Rch_reckon 81 .return_ 1 82 := ⟨by decide +kernel, rfl⟩
theorem d_Rch_passHappenings_0 : zd_l .aload_n .aload b_Rch_passHappenings 0 0 1 := Or.inl ⟨0, rfl, by decide +kernel, rfl⟩
theorem d_Rch_passHappenings_1 : zd_l .aload_n .aload b_Rch_passHappenings 1 0 2 := Or.inl ⟨0, rfl, by decide +kernel, rfl⟩
theorem d_Rch_passHappenings_2 : zd b_Rch_passHappenings 2 (.getfield 9) 3 5 := ⟨by decide +kernel, rfl⟩
theorem d_Rch_passHappenings_5 : zd_l .iload_n .iload b_Rch_passHappenings 5 1 6 := Or.inl ⟨1, rfl, by decide +kernel, rfl⟩
theorem d_Rch_passHappenings_6 : zd_l .aload_n .aload b_Rch_passHappenings 6 0 7 := Or.inl ⟨0, rfl, by decide +kernel, rfl⟩
theorem d_Rch_passHappenings_7 : zd b_Rch_passHappenings 7 (.getfield 22) 3 10 := ⟨by decide +kernel, rfl⟩
theorem d_Rch_passHappenings_10 : zd_k b_Rch_passHappenings "SameTuesday$Reach" 10 63 12 := Or.inr (Or.inl ⟨63, by decide +kernel, by decide, rfl⟩)
theorem d_Rch_passHappenings_12 : zd b_Rch_passHappenings 12 (.invokevirtual 64) 3 15 := ⟨by decide +kernel, rfl⟩
theorem d_Rch_passHappenings_15 : zd b_Rch_passHappenings 15 (.putfield 22) 3 18 := ⟨by decide +kernel, rfl⟩
theorem d_Rch_passHappenings_18 : zd_k b_Rch_passHappenings "SameTuesday$Reach" 18 0 19 := Or.inl ⟨0, by decide +kernel, by decide, rfl⟩
theorem d_Rch_passHappenings_19 : zd_l .istore_n .istore b_Rch_passHappenings 19 2 20 := Or.inl ⟨2, rfl, by decide +kernel, rfl⟩
theorem d_Rch_passHappenings_20 : zd_l .iload_n .iload b_Rch_passHappenings 20 2 21 := Or.inl ⟨2, rfl, by decide +kernel, rfl⟩
theorem d_Rch_passHappenings_21 : zd_l .aload_n .aload b_Rch_passHappenings 21 0 22 := Or.inl ⟨0, rfl, by decide +kernel, rfl⟩
theorem d_Rch_passHappenings_22 : zd b_Rch_passHappenings 22 (.getfield 19) 3 25 := ⟨by decide +kernel, rfl⟩
theorem d_Rch_passHappenings_25 : zd b_Rch_passHappenings 25 .arraylength 1 26 := ⟨by decide +kernel, rfl⟩
theorem d_Rch_passHappenings_26 : zd_b b_Rch_passHappenings 26 (.if_icmp .ge) 29 57 := ⟨31, by decide +kernel, by decide, rfl⟩
theorem d_Rch_passHappenings_29 : zd_l .aload_n .aload b_Rch_passHappenings 29 0 30 := Or.inl ⟨0, rfl, by decide +kernel, rfl⟩
theorem d_Rch_passHappenings_30 : zd b_Rch_passHappenings 30 (.getfield 19) 3 33 := ⟨by decide +kernel, rfl⟩
theorem d_Rch_passHappenings_33 : zd_l .iload_n .iload b_Rch_passHappenings 33 2 34 := Or.inl ⟨2, rfl, by decide +kernel, rfl⟩
theorem d_Rch_passHappenings_34 : zd_l .aload_n .aload b_Rch_passHappenings 34 0 35 := Or.inl ⟨0, rfl, by decide +kernel, rfl⟩
theorem d_Rch_passHappenings_35 : zd b_Rch_passHappenings 35 (.getfield 9) 3 38 := ⟨by decide +kernel, rfl⟩
theorem d_Rch_passHappenings_38 : zd_l .iload_n .iload b_Rch_passHappenings 38 1 39 := Or.inl ⟨1, rfl, by decide +kernel, rfl⟩
theorem d_Rch_passHappenings_39 : zd_l .aload_n .aload b_Rch_passHappenings 39 0 40 := Or.inl ⟨0, rfl, by decide +kernel, rfl⟩
theorem d_Rch_passHappenings_40 : zd b_Rch_passHappenings 40 (.getfield 19) 3 43 := ⟨by decide +kernel, rfl⟩
theorem d_Rch_passHappenings_43 : zd_l .iload_n .iload b_Rch_passHappenings 43 2 44 := Or.inl ⟨2, rfl, by decide +kernel, rfl⟩
theorem d_Rch_passHappenings_44 : zd b_Rch_passHappenings 44 .laload 1 45 := ⟨by decide +kernel, rfl⟩
theorem d_Rch_passHappenings_45 : zd_k b_Rch_passHappenings "SameTuesday$Reach" 45 63 47 := Or.inr (Or.inl ⟨63, by decide +kernel, by decide, rfl⟩)
theorem d_Rch_passHappenings_47 : zd b_Rch_passHappenings 47 (.invokevirtual 64) 3 50 := ⟨by decide +kernel, rfl⟩
theorem d_Rch_passHappenings_50 : zd b_Rch_passHappenings 50 .lastore 1 51 := ⟨by decide +kernel, rfl⟩
theorem d_Rch_passHappenings_51 : zd_i b_Rch_passHappenings 51 2 1 1 54 := ⟨by decide +kernel, by decide, rfl⟩
theorem d_Rch_passHappenings_54 : zd_b b_Rch_passHappenings 54 .goto 57 20 := ⟨(-34), by decide +kernel, by decide, rfl⟩
theorem d_Rch_passHappenings_57 : zd b_Rch_passHappenings 57 .return_ 1 58 := ⟨by decide +kernel, rfl⟩
theorem d_Rch_endDeeds_0 : zd_k b_Rch_endDeeds "SameTuesday$Reach" 0 0 1 := Or.inl ⟨0, by decide +kernel, by decide, rfl⟩
theorem d_Rch_endDeeds_1 : zd_l .istore_n .istore b_Rch_endDeeds 1 1 2 := Or.inl ⟨1, rfl, by decide +kernel, rfl⟩
theorem d_Rch_endDeeds_2 : zd_l .iload_n .iload b_Rch_endDeeds 2 1 3 := Or.inl ⟨1, rfl, by decide +kernel, rfl⟩
theorem d_Rch_endDeeds_3 : zd_k b_Rch_endDeeds "SameTuesday$Reach" 3 5 4 := Or.inl ⟨5, by decide +kernel, by decide, rfl⟩
theorem d_Rch_endDeeds_4 : zd_b b_Rch_endDeeds 4 (.if_icmp .ge) 7 82 := ⟨78, by decide +kernel, by decide, rfl⟩
theorem d_Rch_endDeeds_7 : zd_l .aload_n .aload b_Rch_endDeeds 7 0 8 := Or.inl ⟨0, rfl, by decide +kernel, rfl⟩
theorem d_Rch_endDeeds_8 : zd b_Rch_endDeeds 8 (.getfield 9) 3 11 := ⟨by decide +kernel, rfl⟩
theorem d_Rch_endDeeds_11 : zd_l .iload_n .iload b_Rch_endDeeds 11 1 12 := Or.inl ⟨1, rfl, by decide +kernel, rfl⟩
theorem d_Rch_endDeeds_12 : zd b_Rch_endDeeds 12 (.invokevirtual 68) 3 15 := ⟨by decide +kernel, rfl⟩
theorem d_Rch_endDeeds_15 : zd_l .astore_n .astore b_Rch_endDeeds 15 2 16 := Or.inl ⟨2, rfl, by decide +kernel, rfl⟩
theorem d_Rch_endDeeds_16 : zd_k b_Rch_endDeeds "SameTuesday$Reach" 16 10 18 := Or.inr (Or.inl ⟨10, by decide +kernel, by decide, rfl⟩)
theorem d_Rch_endDeeds_18 : zd_l .iload_n .iload b_Rch_endDeeds 18 1 19 := Or.inl ⟨1, rfl, by decide +kernel, rfl⟩
theorem d_Rch_endDeeds_19 : zd b_Rch_endDeeds 19 .imul 1 20 := ⟨by decide +kernel, rfl⟩
theorem d_Rch_endDeeds_20 : zd_k b_Rch_endDeeds "SameTuesday$Reach" 20 1 21 := Or.inl ⟨1, by decide +kernel, by decide, rfl⟩
theorem d_Rch_endDeeds_21 : zd b_Rch_endDeeds 21 .iadd 1 22 := ⟨by decide +kernel, rfl⟩
theorem d_Rch_endDeeds_22 : zd_l .istore_n .istore b_Rch_endDeeds 22 3 23 := Or.inl ⟨3, rfl, by decide +kernel, rfl⟩
theorem d_Rch_endDeeds_23 : zd_l .aload_n .aload b_Rch_endDeeds 23 2 24 := Or.inl ⟨2, rfl, by decide +kernel, rfl⟩
theorem d_Rch_endDeeds_24 : zd_b b_Rch_endDeeds 24 .ifnull 27 46 := ⟨22, by decide +kernel, by decide, rfl⟩
theorem d_Rch_endDeeds_27 : zd_l .aload_n .aload b_Rch_endDeeds 27 0 28 := Or.inl ⟨0, rfl, by decide +kernel, rfl⟩
theorem d_Rch_endDeeds_28 : zd b_Rch_endDeeds 28 .dup 1 29 := ⟨by decide +kernel, rfl⟩
theorem d_Rch_endDeeds_29 : zd b_Rch_endDeeds 29 (.getfield 22) 3 32 := ⟨by decide +kernel, rfl⟩
theorem d_Rch_endDeeds_32 : zd_l .aload_n .aload b_Rch_endDeeds 32 2 33 := Or.inl ⟨2, rfl, by decide +kernel, rfl⟩
theorem d_Rch_endDeeds_33 : zd_l .aload_n .aload b_Rch_endDeeds 33 0 34 := Or.inl ⟨0, rfl, by decide +kernel, rfl⟩
theorem d_Rch_endDeeds_34 : zd b_Rch_endDeeds 34 (.getfield 19) 3 37 := ⟨by decide +kernel, rfl⟩
theorem d_Rch_endDeeds_37 : zd_l .iload_n .iload b_Rch_endDeeds 37 3 38 := Or.inl ⟨3, rfl, by decide +kernel, rfl⟩
theorem d_Rch_endDeeds_38 : zd b_Rch_endDeeds 38 .laload 1 39 := ⟨by decide +kernel, rfl⟩
theorem d_Rch_endDeeds_39 : zd b_Rch_endDeeds 39 (.invokevirtual 72) 3 42 := ⟨by decide +kernel, rfl⟩
theorem d_Rch_endDeeds_42 : zd b_Rch_endDeeds 42 .lor 1 43 := ⟨by decide +kernel, rfl⟩
theorem d_Rch_endDeeds_43 : zd b_Rch_endDeeds 43 (.putfield 22) 3 46 := ⟨by decide +kernel, rfl⟩
theorem d_Rch_endDeeds_46 : zd_l .aload_n .aload b_Rch_endDeeds 46 0 47 := Or.inl ⟨0, rfl, by decide +kernel, rfl⟩
theorem d_Rch_endDeeds_47 : zd b_Rch_endDeeds 47 (.getfield 19) 3 50 := ⟨by decide +kernel, rfl⟩
theorem d_Rch_endDeeds_50 : zd_l .iload_n .iload b_Rch_endDeeds 50 3 51 := Or.inl ⟨3, rfl, by decide +kernel, rfl⟩
theorem d_Rch_endDeeds_51 : zd_k b_Rch_endDeeds "SameTuesday$Reach" 51 1 52 := Or.inl ⟨1, by decide +kernel, by decide, rfl⟩
theorem d_Rch_endDeeds_52 : zd b_Rch_endDeeds 52 .iadd 1 53 := ⟨by decide +kernel, rfl⟩
theorem d_Rch_endDeeds_53 : zd_l .aload_n .aload b_Rch_endDeeds 53 0 54 := Or.inl ⟨0, rfl, by decide +kernel, rfl⟩
theorem d_Rch_endDeeds_54 : zd b_Rch_endDeeds 54 (.getfield 19) 3 57 := ⟨by decide +kernel, rfl⟩
theorem d_Rch_endDeeds_57 : zd_l .iload_n .iload b_Rch_endDeeds 57 3 58 := Or.inl ⟨3, rfl, by decide +kernel, rfl⟩
theorem d_Rch_endDeeds_58 : zd_k b_Rch_endDeeds "SameTuesday$Reach" 58 8 60 := Or.inr (Or.inl ⟨8, by decide +kernel, by decide, rfl⟩)
theorem d_Rch_endDeeds_60 : zd b_Rch_endDeeds 60 (.invokestatic 78) 3 63 := ⟨by decide +kernel, rfl⟩
theorem d_Rch_endDeeds_63 : zd_l .aload_n .aload b_Rch_endDeeds 63 0 64 := Or.inl ⟨0, rfl, by decide +kernel, rfl⟩
theorem d_Rch_endDeeds_64 : zd b_Rch_endDeeds 64 (.getfield 19) 3 67 := ⟨by decide +kernel, rfl⟩
theorem d_Rch_endDeeds_67 : zd_k b_Rch_endDeeds "SameTuesday$Reach" 67 10 69 := Or.inr (Or.inl ⟨10, by decide +kernel, by decide, rfl⟩)
theorem d_Rch_endDeeds_69 : zd_l .iload_n .iload b_Rch_endDeeds 69 1 70 := Or.inl ⟨1, rfl, by decide +kernel, rfl⟩
theorem d_Rch_endDeeds_70 : zd b_Rch_endDeeds 70 .imul 1 71 := ⟨by decide +kernel, rfl⟩
theorem d_Rch_endDeeds_71 : zd_k b_Rch_endDeeds "SameTuesday$Reach" 71 9 73 := Or.inr (Or.inl ⟨9, by decide +kernel, by decide, rfl⟩)
theorem d_Rch_endDeeds_73 : zd b_Rch_endDeeds 73 .iadd 1 74 := ⟨by decide +kernel, rfl⟩
theorem d_Rch_endDeeds_74 : zd_kl b_Rch_endDeeds "SameTuesday$Reach" 74 0 75 := Or.inl ⟨0, by decide +kernel, by decide, rfl⟩
theorem d_Rch_endDeeds_75 : zd b_Rch_endDeeds 75 .lastore 1 76 := ⟨by decide +kernel, rfl⟩
theorem d_Rch_endDeeds_76 : zd_i b_Rch_endDeeds 76 1 1 1 79 := ⟨by decide +kernel, by decide, rfl⟩
theorem d_Rch_endDeeds_79 : zd_b b_Rch_endDeeds 79 .goto 82 2 := ⟨(-77), by decide +kernel, by decide, rfl⟩
theorem d_Rch_endDeeds_82 : zd b_Rch_endDeeds 82 .return_ 1 83 := ⟨by decide +kernel, rfl⟩
theorem d_Rch_beginDeeds_0 : zd_k b_Rch_beginDeeds "SameTuesday$Reach" 0 0 1 := Or.inl ⟨0, by decide +kernel, by decide, rfl⟩
theorem d_Rch_beginDeeds_1 : zd_l .istore_n .istore b_Rch_beginDeeds 1 2 2 := Or.inl ⟨2, rfl, by decide +kernel, rfl⟩
theorem d_Rch_beginDeeds_2 : zd_l .iload_n .iload b_Rch_beginDeeds 2 2 3 := Or.inl ⟨2, rfl, by decide +kernel, rfl⟩
theorem d_Rch_beginDeeds_3 : zd_k b_Rch_beginDeeds "SameTuesday$Reach" 3 5 4 := Or.inl ⟨5, by decide +kernel, by decide, rfl⟩
theorem d_Rch_beginDeeds_4 : zd_b b_Rch_beginDeeds 4 (.if_icmp .ge) 7 72 := ⟨68, by decide +kernel, by decide, rfl⟩
theorem d_Rch_beginDeeds_7 : zd_l .aload_n .aload b_Rch_beginDeeds 7 0 8 := Or.inl ⟨0, rfl, by decide +kernel, rfl⟩
theorem d_Rch_beginDeeds_8 : zd b_Rch_beginDeeds 8 (.getfield 9) 3 11 := ⟨by decide +kernel, rfl⟩
theorem d_Rch_beginDeeds_11 : zd_l .iload_n .iload b_Rch_beginDeeds 11 2 12 := Or.inl ⟨2, rfl, by decide +kernel, rfl⟩
theorem d_Rch_beginDeeds_12 : zd b_Rch_beginDeeds 12 (.invokevirtual 68) 3 15 := ⟨by decide +kernel, rfl⟩
theorem d_Rch_beginDeeds_15 : zd_l .astore_n .astore b_Rch_beginDeeds 15 3 16 := Or.inl ⟨3, rfl, by decide +kernel, rfl⟩
theorem d_Rch_beginDeeds_16 : zd_l .aload_n .aload b_Rch_beginDeeds 16 3 17 := Or.inl ⟨3, rfl, by decide +kernel, rfl⟩
theorem d_Rch_beginDeeds_17 : zd_b b_Rch_beginDeeds 17 .ifnull 20 66 := ⟨49, by decide +kernel, by decide, rfl⟩
theorem d_Rch_beginDeeds_20 : zd_l .aload_n .aload b_Rch_beginDeeds 20 3 21 := Or.inl ⟨3, rfl, by decide +kernel, rfl⟩
theorem d_Rch_beginDeeds_21 : zd b_Rch_beginDeeds 21 (.getfield 84) 3 24 := ⟨by decide +kernel, rfl⟩
theorem d_Rch_beginDeeds_24 : zd_b b_Rch_beginDeeds 24 (.ifCond .le) 27 66 := ⟨42, by decide +kernel, by decide, rfl⟩
theorem d_Rch_beginDeeds_27 : zd_l .aload_n .aload b_Rch_beginDeeds 27 3 28 := Or.inl ⟨3, rfl, by decide +kernel, rfl⟩
theorem d_Rch_beginDeeds_28 : zd b_Rch_beginDeeds 28 (.getfield 84) 3 31 := ⟨by decide +kernel, rfl⟩
theorem d_Rch_beginDeeds_31 : zd_k b_Rch_beginDeeds "SameTuesday$Reach" 31 10 33 := Or.inr (Or.inl ⟨10, by decide +kernel, by decide, rfl⟩)
theorem d_Rch_beginDeeds_33 : zd_b b_Rch_beginDeeds 33 (.if_icmp .ge) 36 66 := ⟨33, by decide +kernel, by decide, rfl⟩
theorem d_Rch_beginDeeds_36 : zd_l .aload_n .aload b_Rch_beginDeeds 36 0 37 := Or.inl ⟨0, rfl, by decide +kernel, rfl⟩
theorem d_Rch_beginDeeds_37 : zd b_Rch_beginDeeds 37 (.getfield 19) 3 40 := ⟨by decide +kernel, rfl⟩
theorem d_Rch_beginDeeds_40 : zd_k b_Rch_beginDeeds "SameTuesday$Reach" 40 10 42 := Or.inr (Or.inl ⟨10, by decide +kernel, by decide, rfl⟩)
theorem d_Rch_beginDeeds_42 : zd_l .iload_n .iload b_Rch_beginDeeds 42 2 43 := Or.inl ⟨2, rfl, by decide +kernel, rfl⟩
theorem d_Rch_beginDeeds_43 : zd b_Rch_beginDeeds 43 .imul 1 44 := ⟨by decide +kernel, rfl⟩
theorem d_Rch_beginDeeds_44 : zd_l .aload_n .aload b_Rch_beginDeeds 44 3 45 := Or.inl ⟨3, rfl, by decide +kernel, rfl⟩
theorem d_Rch_beginDeeds_45 : zd b_Rch_beginDeeds 45 (.getfield 84) 3 48 := ⟨by decide +kernel, rfl⟩
theorem d_Rch_beginDeeds_48 : zd b_Rch_beginDeeds 48 .iadd 1 49 := ⟨by decide +kernel, rfl⟩
theorem d_Rch_beginDeeds_49 : zd b_Rch_beginDeeds 49 .dup2 1 50 := ⟨by decide +kernel, rfl⟩
theorem d_Rch_beginDeeds_50 : zd b_Rch_beginDeeds 50 .laload 1 51 := ⟨by decide +kernel, rfl⟩
theorem d_Rch_beginDeeds_51 : zd_l .aload_n .aload b_Rch_beginDeeds 51 0 52 := Or.inl ⟨0, rfl, by decide +kernel, rfl⟩
theorem d_Rch_beginDeeds_52 : zd b_Rch_beginDeeds 52 (.getfield 9) 3 55 := ⟨by decide +kernel, rfl⟩
theorem d_Rch_beginDeeds_55 : zd_l .aload_n .aload b_Rch_beginDeeds 55 3 56 := Or.inl ⟨3, rfl, by decide +kernel, rfl⟩
theorem d_Rch_beginDeeds_56 : zd_l .iload_n .iload b_Rch_beginDeeds 56 1 57 := Or.inl ⟨1, rfl, by decide +kernel, rfl⟩
theorem d_Rch_beginDeeds_57 : zd_l .aload_n .aload b_Rch_beginDeeds 57 0 58 := Or.inl ⟨0, rfl, by decide +kernel, rfl⟩
theorem d_Rch_beginDeeds_58 : zd b_Rch_beginDeeds 58 (.getfield 22) 3 61 := ⟨by decide +kernel, rfl⟩
theorem d_Rch_beginDeeds_61 : zd b_Rch_beginDeeds 61 (.invokevirtual 88) 3 64 := ⟨by decide +kernel, rfl⟩
theorem d_Rch_beginDeeds_64 : zd b_Rch_beginDeeds 64 .lor 1 65 := ⟨by decide +kernel, rfl⟩
theorem d_Rch_beginDeeds_65 : zd b_Rch_beginDeeds 65 .lastore 1 66 := ⟨by decide +kernel, rfl⟩
theorem d_Rch_beginDeeds_66 : zd_i b_Rch_beginDeeds 66 2 1 1 69 := ⟨by decide +kernel, by decide, rfl⟩
theorem d_Rch_beginDeeds_69 : zd_b b_Rch_beginDeeds 69 .goto 72 2 := ⟨(-67), by decide +kernel, by decide, rfl⟩
theorem d_Rch_beginDeeds_72 : zd b_Rch_beginDeeds 72 .return_ 1 73 := ⟨by decide +kernel, rfl⟩
theorem d_Rch_everyWorld_0 : zd_l .aload_n .aload b_Rch_everyWorld 0 0 1 := Or.inl ⟨0, rfl, by decide +kernel, rfl⟩
theorem d_Rch_everyWorld_1 : zd b_Rch_everyWorld 1 (.getfield 22) 3 4 := ⟨by decide +kernel, rfl⟩
theorem d_Rch_everyWorld_4 : zd_l .lstore_n .lstore b_Rch_everyWorld 4 1 5 := Or.inl ⟨1, rfl, by decide +kernel, rfl⟩
theorem d_Rch_everyWorld_5 : zd_k b_Rch_everyWorld "SameTuesday$Reach" 5 0 6 := Or.inl ⟨0, by decide +kernel, by decide, rfl⟩
theorem d_Rch_everyWorld_6 : zd_l .istore_n .istore b_Rch_everyWorld 6 3 7 := Or.inl ⟨3, rfl, by decide +kernel, rfl⟩
theorem d_Rch_everyWorld_7 : zd_l .iload_n .iload b_Rch_everyWorld 7 3 8 := Or.inl ⟨3, rfl, by decide +kernel, rfl⟩
theorem d_Rch_everyWorld_8 : zd_l .aload_n .aload b_Rch_everyWorld 8 0 9 := Or.inl ⟨0, rfl, by decide +kernel, rfl⟩
theorem d_Rch_everyWorld_9 : zd b_Rch_everyWorld 9 (.getfield 19) 3 12 := ⟨by decide +kernel, rfl⟩
theorem d_Rch_everyWorld_12 : zd b_Rch_everyWorld 12 .arraylength 1 13 := ⟨by decide +kernel, rfl⟩
theorem d_Rch_everyWorld_13 : zd_b b_Rch_everyWorld 13 (.if_icmp .ge) 16 31 := ⟨18, by decide +kernel, by decide, rfl⟩
theorem d_Rch_everyWorld_16 : zd_l .lload_n .lload b_Rch_everyWorld 16 1 17 := Or.inl ⟨1, rfl, by decide +kernel, rfl⟩
theorem d_Rch_everyWorld_17 : zd_l .aload_n .aload b_Rch_everyWorld 17 0 18 := Or.inl ⟨0, rfl, by decide +kernel, rfl⟩
theorem d_Rch_everyWorld_18 : zd b_Rch_everyWorld 18 (.getfield 19) 3 21 := ⟨by decide +kernel, rfl⟩
theorem d_Rch_everyWorld_21 : zd_l .iload_n .iload b_Rch_everyWorld 21 3 22 := Or.inl ⟨3, rfl, by decide +kernel, rfl⟩
theorem d_Rch_everyWorld_22 : zd b_Rch_everyWorld 22 .laload 1 23 := ⟨by decide +kernel, rfl⟩
theorem d_Rch_everyWorld_23 : zd b_Rch_everyWorld 23 .lor 1 24 := ⟨by decide +kernel, rfl⟩
theorem d_Rch_everyWorld_24 : zd_l .lstore_n .lstore b_Rch_everyWorld 24 1 25 := Or.inl ⟨1, rfl, by decide +kernel, rfl⟩
theorem d_Rch_everyWorld_25 : zd_i b_Rch_everyWorld 25 3 1 1 28 := ⟨by decide +kernel, by decide, rfl⟩
theorem d_Rch_everyWorld_28 : zd_b b_Rch_everyWorld 28 .goto 31 7 := ⟨(-21), by decide +kernel, by decide, rfl⟩
theorem d_Rch_everyWorld_31 : zd_l .lload_n .lload b_Rch_everyWorld 31 1 32 := Or.inl ⟨1, rfl, by decide +kernel, rfl⟩
theorem d_Rch_everyWorld_32 : zd b_Rch_everyWorld 32 .lreturn 1 33 := ⟨by decide +kernel, rfl⟩
set_option maxRecDepth 20000 in
theorem f_Sht_9_7 : zb_FL "SameTuesday$Sheet" 9 7 0 := ⟨"SameTuesday$Sheet", zF_Sht, 3, "SameTuesday$Sheet", rfl, by decide, zi_Sht, zb_mem 82 rfl rfl, Or.inl rfl⟩
set_option maxRecDepth 20000 in
theorem p_Sht_9_7 : zb_PF "SameTuesday$Sheet" 9 7 0 (.array .int) := ⟨"SameTuesday$Sheet", zF_Sht, 3, "SameTuesday$Sheet", zt_Sht, rfl, by decide, zi_Sht, zb_mem 82 rfl rfl, Or.inl rfl, zk_Sht, zn_Sht, rfl, rfl, rfl⟩
set_option maxRecDepth 20000 in
theorem f_Sht_15_7 : zb_FL "SameTuesday$Sheet" 15 7 1 := ⟨"SameTuesday$Sheet", zF_Sht, 3, "SameTuesday$Sheet", rfl, by decide, zi_Sht, zb_mem 83 rfl rfl, Or.inl rfl⟩
set_option maxRecDepth 20000 in
theorem p_Sht_15_7 : zb_PL "SameTuesday$Sheet" 15 7 1 .int := ⟨"SameTuesday$Sheet", zF_Sht, 3, "SameTuesday$Sheet", zt_Sht, rfl, by decide, zi_Sht, zb_mem 83 rfl rfl, Or.inl rfl, zk_Sht, zn_Sht, rfl, rfl⟩
set_option maxRecDepth 20000 in
theorem f_Sht_19_7 : zb_FL "SameTuesday$Sheet" 19 7 2 := ⟨"SameTuesday$Sheet", zF_Sht, 3, "SameTuesday$Sheet", rfl, by decide, zi_Sht, zb_mem 84 rfl rfl, Or.inl rfl⟩
set_option maxRecDepth 20000 in
theorem p_Sht_19_7 : zb_PL "SameTuesday$Sheet" 19 7 2 .int := ⟨"SameTuesday$Sheet", zF_Sht, 3, "SameTuesday$Sheet", zt_Sht, rfl, by decide, zi_Sht, zb_mem 84 rfl rfl, Or.inl rfl, zk_Sht, zn_Sht, rfl, rfl⟩
set_option maxRecDepth 20000 in
theorem l_Sht_31 : zl_V "SameTuesday$Sheet" 31 y_Sht_holds b_Sht_holds 3 (some .boolean) 2 := ⟨⟨zb_mem 830 rfl rfl, zb_mem 51 rfl rfl, zb_mem 263 rfl rfl, by decide, by decide +kernel⟩, zb_mem 261 rfl rfl, zb_mem 262 rfl rfl⟩
theorem d_Sht_init_0 : zd_l .aload_n .aload b_Sht_init 0 0 1 := Or.inl ⟨0, rfl, by decide +kernel, rfl⟩
theorem d_Sht_init_1 : zd b_Sht_init 1 (.invokespecial 3) 3 4 := ⟨by decide +kernel, rfl⟩
theorem d_Sht_init_4 : zd_l .aload_n .aload b_Sht_init 4 0 5 := Or.inl ⟨0, rfl, by decide +kernel, rfl⟩
theorem d_Sht_init_5 : zd_k b_Sht_init "SameTuesday$Sheet" 5 60 7 := Or.inr (Or.inl ⟨60, by decide +kernel, by decide, rfl⟩)
theorem d_Sht_init_7 : zd b_Sht_init 7 (.newarray .int) 2 9 := ⟨by decide +kernel, rfl⟩
theorem d_Sht_init_9 : zd b_Sht_init 9 (.putfield 9) 3 12 := ⟨by decide +kernel, rfl⟩
theorem d_Sht_init_12 : zd_l .aload_n .aload b_Sht_init 12 0 13 := Or.inl ⟨0, rfl, by decide +kernel, rfl⟩
theorem d_Sht_init_13 : zd_k b_Sht_init "SameTuesday$Sheet" 13 (-1) 14 := Or.inl ⟨(-1), by decide +kernel, by decide, rfl⟩
theorem d_Sht_init_14 : zd b_Sht_init 14 (.putfield 15) 3 17 := ⟨by decide +kernel, rfl⟩
theorem d_Sht_init_17 : zd_l .aload_n .aload b_Sht_init 17 0 18 := Or.inl ⟨0, rfl, by decide +kernel, rfl⟩
theorem d_Sht_init_18 : zd_k b_Sht_init "SameTuesday$Sheet" 18 0 19 := Or.inl ⟨0, by decide +kernel, by decide, rfl⟩
theorem d_Sht_init_19 : zd b_Sht_init 19 (.putfield 19) 3 22 := ⟨by decide +kernel, rfl⟩
theorem d_Sht_init_22 : zd b_Sht_init 22 .return_ 1 23 := ⟨by decide +kernel, rfl⟩
theorem d_Sht_hasNothing_0 : zd_l .aload_n .aload b_Sht_hasNothing 0 0 1 := Or.inl ⟨0, rfl, by decide +kernel, rfl⟩
theorem d_Sht_hasNothing_1 : zd b_Sht_hasNothing 1 (.getfield 15) 3 4 := ⟨by decide +kernel, rfl⟩
theorem d_Sht_hasNothing_4 : zd_k b_Sht_hasNothing "SameTuesday$Sheet" 4 (-1) 5 := Or.inl ⟨(-1), by decide +kernel, by decide, rfl⟩
theorem d_Sht_hasNothing_5 : zd_b b_Sht_hasNothing 5 (.if_icmp .ne) 8 12 := ⟨7, by decide +kernel, by decide, rfl⟩
theorem d_Sht_hasNothing_8 : zd_k b_Sht_hasNothing "SameTuesday$Sheet" 8 1 9 := Or.inl ⟨1, by decide +kernel, by decide, rfl⟩
theorem d_Sht_hasNothing_9 : zd_b b_Sht_hasNothing 9 .goto 12 13 := ⟨4, by decide +kernel, by decide, rfl⟩
theorem d_Sht_hasNothing_12 : zd_k b_Sht_hasNothing "SameTuesday$Sheet" 12 0 13 := Or.inl ⟨0, by decide +kernel, by decide, rfl⟩
theorem d_Sht_hasNothing_13 : zd b_Sht_hasNothing 13 .ireturn 1 14 := ⟨by decide +kernel, rfl⟩
theorem d_Sht_isOf_0 : zd_l .aload_n .aload b_Sht_isOf 0 0 1 := Or.inl ⟨0, rfl, by decide +kernel, rfl⟩
theorem d_Sht_isOf_1 : zd b_Sht_isOf 1 (.getfield 15) 3 4 := ⟨by decide +kernel, rfl⟩
theorem d_Sht_isOf_4 : zd_l .iload_n .iload b_Sht_isOf 4 1 5 := Or.inl ⟨1, rfl, by decide +kernel, rfl⟩
theorem d_Sht_isOf_5 : zd_b b_Sht_isOf 5 (.if_icmp .ne) 8 12 := ⟨7, by decide +kernel, by decide, rfl⟩
theorem d_Sht_isOf_8 : zd_k b_Sht_isOf "SameTuesday$Sheet" 8 1 9 := Or.inl ⟨1, by decide +kernel, by decide, rfl⟩
theorem d_Sht_isOf_9 : zd_b b_Sht_isOf 9 .goto 12 13 := ⟨4, by decide +kernel, by decide, rfl⟩
theorem d_Sht_isOf_12 : zd_k b_Sht_isOf "SameTuesday$Sheet" 12 0 13 := Or.inl ⟨0, by decide +kernel, by decide, rfl⟩
theorem d_Sht_isOf_13 : zd b_Sht_isOf 13 .ireturn 1 14 := ⟨by decide +kernel, rfl⟩
theorem d_Sht_isLike_0 : zd_l .aload_n .aload b_Sht_isLike 0 0 1 := Or.inl ⟨0, rfl, by decide +kernel, rfl⟩
theorem d_Sht_isLike_1 : zd b_Sht_isLike 1 (.getfield 15) 3 4 := ⟨by decide +kernel, rfl⟩
theorem d_Sht_isLike_4 : zd_l .aload_n .aload b_Sht_isLike 4 1 5 := Or.inl ⟨1, rfl, by decide +kernel, rfl⟩
theorem d_Sht_isLike_5 : zd b_Sht_isLike 5 (.getfield 15) 3 8 := ⟨by decide +kernel, rfl⟩
theorem d_Sht_isLike_8 : zd_b b_Sht_isLike 8 (.if_icmp .ne) 11 15 := ⟨7, by decide +kernel, by decide, rfl⟩
theorem d_Sht_isLike_11 : zd_k b_Sht_isLike "SameTuesday$Sheet" 11 1 12 := Or.inl ⟨1, by decide +kernel, by decide, rfl⟩
theorem d_Sht_isLike_12 : zd_b b_Sht_isLike 12 .goto 15 16 := ⟨4, by decide +kernel, by decide, rfl⟩
theorem d_Sht_isLike_15 : zd_k b_Sht_isLike "SameTuesday$Sheet" 15 0 16 := Or.inl ⟨0, by decide +kernel, by decide, rfl⟩
theorem d_Sht_isLike_16 : zd b_Sht_isLike 16 .ireturn 1 17 := ⟨by decide +kernel, rfl⟩
theorem d_Sht_renew_0 : zd_l .aload_n .aload b_Sht_renew 0 0 1 := Or.inl ⟨0, rfl, by decide +kernel, rfl⟩
theorem d_Sht_renew_1 : zd_l .iload_n .iload b_Sht_renew 1 1 2 := Or.inl ⟨1, rfl, by decide +kernel, rfl⟩
theorem d_Sht_renew_2 : zd b_Sht_renew 2 (.putfield 15) 3 5 := ⟨by decide +kernel, rfl⟩
theorem d_Sht_renew_5 : zd_l .aload_n .aload b_Sht_renew 5 0 6 := Or.inl ⟨0, rfl, by decide +kernel, rfl⟩
theorem d_Sht_renew_6 : zd_k b_Sht_renew "SameTuesday$Sheet" 6 0 7 := Or.inl ⟨0, by decide +kernel, by decide, rfl⟩
theorem d_Sht_renew_7 : zd_l .iload_n .iload b_Sht_renew 7 2 8 := Or.inl ⟨2, rfl, by decide +kernel, rfl⟩
theorem d_Sht_renew_8 : zd_l .aload_n .aload b_Sht_renew 8 0 9 := Or.inl ⟨0, rfl, by decide +kernel, rfl⟩
theorem d_Sht_renew_9 : zd b_Sht_renew 9 (.getfield 9) 3 12 := ⟨by decide +kernel, rfl⟩
theorem d_Sht_renew_12 : zd b_Sht_renew 12 .arraylength 1 13 := ⟨by decide +kernel, rfl⟩
theorem d_Sht_renew_13 : zd b_Sht_renew 13 (.invokestatic 22) 3 16 := ⟨by decide +kernel, rfl⟩
theorem d_Sht_renew_16 : zd b_Sht_renew 16 (.invokestatic 28) 3 19 := ⟨by decide +kernel, rfl⟩
theorem d_Sht_renew_19 : zd b_Sht_renew 19 (.putfield 19) 3 22 := ⟨by decide +kernel, rfl⟩
theorem d_Sht_renew_22 : zd_k b_Sht_renew "SameTuesday$Sheet" 22 0 23 := Or.inl ⟨0, by decide +kernel, by decide, rfl⟩
theorem d_Sht_renew_23 : zd_l .istore_n .istore b_Sht_renew 23 3 24 := Or.inl ⟨3, rfl, by decide +kernel, rfl⟩
theorem d_Sht_renew_24 : zd_l .iload_n .iload b_Sht_renew 24 3 25 := Or.inl ⟨3, rfl, by decide +kernel, rfl⟩
theorem d_Sht_renew_25 : zd_l .aload_n .aload b_Sht_renew 25 0 26 := Or.inl ⟨0, rfl, by decide +kernel, rfl⟩
theorem d_Sht_renew_26 : zd b_Sht_renew 26 (.getfield 9) 3 29 := ⟨by decide +kernel, rfl⟩
theorem d_Sht_renew_29 : zd b_Sht_renew 29 .arraylength 1 30 := ⟨by decide +kernel, rfl⟩
theorem d_Sht_renew_30 : zd_b b_Sht_renew 30 (.if_icmp .ge) 33 46 := ⟨16, by decide +kernel, by decide, rfl⟩
theorem d_Sht_renew_33 : zd_l .aload_n .aload b_Sht_renew 33 0 34 := Or.inl ⟨0, rfl, by decide +kernel, rfl⟩
theorem d_Sht_renew_34 : zd b_Sht_renew 34 (.getfield 9) 3 37 := ⟨by decide +kernel, rfl⟩
theorem d_Sht_renew_37 : zd_l .iload_n .iload b_Sht_renew 37 3 38 := Or.inl ⟨3, rfl, by decide +kernel, rfl⟩
theorem d_Sht_renew_38 : zd_k b_Sht_renew "SameTuesday$Sheet" 38 0 39 := Or.inl ⟨0, by decide +kernel, by decide, rfl⟩
theorem d_Sht_renew_39 : zd b_Sht_renew 39 .iastore 1 40 := ⟨by decide +kernel, rfl⟩
theorem d_Sht_renew_40 : zd_i b_Sht_renew 40 3 1 1 43 := ⟨by decide +kernel, by decide, rfl⟩
theorem d_Sht_renew_43 : zd_b b_Sht_renew 43 .goto 46 24 := ⟨(-19), by decide +kernel, by decide, rfl⟩
theorem d_Sht_renew_46 : zd b_Sht_renew 46 .return_ 1 47 := ⟨by decide +kernel, rfl⟩
theorem d_Sht_empty_0 : zd_l .aload_n .aload b_Sht_empty 0 0 1 := Or.inl ⟨0, rfl, by decide +kernel, rfl⟩
theorem d_Sht_empty_1 : zd_k b_Sht_empty "SameTuesday$Sheet" 1 (-1) 2 := Or.inl ⟨(-1), by decide +kernel, by decide, rfl⟩
theorem d_Sht_empty_2 : zd b_Sht_empty 2 (.putfield 15) 3 5 := ⟨by decide +kernel, rfl⟩
theorem d_Sht_empty_5 : zd_l .aload_n .aload b_Sht_empty 5 0 6 := Or.inl ⟨0, rfl, by decide +kernel, rfl⟩
theorem d_Sht_empty_6 : zd_k b_Sht_empty "SameTuesday$Sheet" 6 0 7 := Or.inl ⟨0, by decide +kernel, by decide, rfl⟩
theorem d_Sht_empty_7 : zd b_Sht_empty 7 (.putfield 19) 3 10 := ⟨by decide +kernel, rfl⟩
theorem d_Sht_empty_10 : zd b_Sht_empty 10 .return_ 1 11 := ⟨by decide +kernel, rfl⟩
theorem d_Sht_holds_0 : zd_l .iload_n .iload b_Sht_holds 0 1 1 := Or.inl ⟨1, rfl, by decide +kernel, rfl⟩
theorem d_Sht_holds_1 : zd_b b_Sht_holds 1 (.ifCond .lt) 4 30 := ⟨29, by decide +kernel, by decide, rfl⟩
theorem d_Sht_holds_4 : zd_l .iload_n .iload b_Sht_holds 4 2 5 := Or.inl ⟨2, rfl, by decide +kernel, rfl⟩
theorem d_Sht_holds_5 : zd_b b_Sht_holds 5 (.ifCond .lt) 8 30 := ⟨25, by decide +kernel, by decide, rfl⟩
theorem d_Sht_holds_8 : zd_l .iload_n .iload b_Sht_holds 8 1 9 := Or.inl ⟨1, rfl, by decide +kernel, rfl⟩
theorem d_Sht_holds_9 : zd_l .aload_n .aload b_Sht_holds 9 0 10 := Or.inl ⟨0, rfl, by decide +kernel, rfl⟩
theorem d_Sht_holds_10 : zd b_Sht_holds 10 (.getfield 19) 3 13 := ⟨by decide +kernel, rfl⟩
theorem d_Sht_holds_13 : zd_b b_Sht_holds 13 (.if_icmp .gt) 16 30 := ⟨17, by decide +kernel, by decide, rfl⟩
theorem d_Sht_holds_16 : zd_l .iload_n .iload b_Sht_holds 16 2 17 := Or.inl ⟨2, rfl, by decide +kernel, rfl⟩
theorem d_Sht_holds_17 : zd_l .aload_n .aload b_Sht_holds 17 0 18 := Or.inl ⟨0, rfl, by decide +kernel, rfl⟩
theorem d_Sht_holds_18 : zd b_Sht_holds 18 (.getfield 19) 3 21 := ⟨by decide +kernel, rfl⟩
theorem d_Sht_holds_21 : zd_l .iload_n .iload b_Sht_holds 21 1 22 := Or.inl ⟨1, rfl, by decide +kernel, rfl⟩
theorem d_Sht_holds_22 : zd b_Sht_holds 22 .isub 1 23 := ⟨by decide +kernel, rfl⟩
theorem d_Sht_holds_23 : zd_b b_Sht_holds 23 (.if_icmp .gt) 26 30 := ⟨7, by decide +kernel, by decide, rfl⟩
theorem d_Sht_holds_26 : zd_k b_Sht_holds "SameTuesday$Sheet" 26 1 27 := Or.inl ⟨1, by decide +kernel, by decide, rfl⟩
theorem d_Sht_holds_27 : zd_b b_Sht_holds 27 .goto 30 31 := ⟨4, by decide +kernel, by decide, rfl⟩
theorem d_Sht_holds_30 : zd_k b_Sht_holds "SameTuesday$Sheet" 30 0 31 := Or.inl ⟨0, by decide +kernel, by decide, rfl⟩
theorem d_Sht_holds_31 : zd b_Sht_holds 31 .ireturn 1 32 := ⟨by decide +kernel, rfl⟩
theorem d_Sht_cellAt_0 : zd_l .iload_n .iload b_Sht_cellAt 0 1 1 := Or.inl ⟨1, rfl, by decide +kernel, rfl⟩
theorem d_Sht_cellAt_1 : zd_b b_Sht_cellAt 1 (.ifCond .lt) 4 21 := ⟨20, by decide +kernel, by decide, rfl⟩
theorem d_Sht_cellAt_4 : zd_l .iload_n .iload b_Sht_cellAt 4 1 5 := Or.inl ⟨1, rfl, by decide +kernel, rfl⟩
theorem d_Sht_cellAt_5 : zd_l .aload_n .aload b_Sht_cellAt 5 0 6 := Or.inl ⟨0, rfl, by decide +kernel, rfl⟩
theorem d_Sht_cellAt_6 : zd b_Sht_cellAt 6 (.getfield 19) 3 9 := ⟨by decide +kernel, rfl⟩
theorem d_Sht_cellAt_9 : zd_b b_Sht_cellAt 9 (.if_icmp .ge) 12 21 := ⟨12, by decide +kernel, by decide, rfl⟩
theorem d_Sht_cellAt_12 : zd_l .aload_n .aload b_Sht_cellAt 12 0 13 := Or.inl ⟨0, rfl, by decide +kernel, rfl⟩
theorem d_Sht_cellAt_13 : zd b_Sht_cellAt 13 (.getfield 9) 3 16 := ⟨by decide +kernel, rfl⟩
theorem d_Sht_cellAt_16 : zd_l .iload_n .iload b_Sht_cellAt 16 1 17 := Or.inl ⟨1, rfl, by decide +kernel, rfl⟩
theorem d_Sht_cellAt_17 : zd b_Sht_cellAt 17 .iaload 1 18 := ⟨by decide +kernel, rfl⟩
theorem d_Sht_cellAt_18 : zd_b b_Sht_cellAt 18 .goto 21 22 := ⟨4, by decide +kernel, by decide, rfl⟩
theorem d_Sht_cellAt_21 : zd_k b_Sht_cellAt "SameTuesday$Sheet" 21 0 22 := Or.inl ⟨0, by decide +kernel, by decide, rfl⟩
theorem d_Sht_cellAt_22 : zd b_Sht_cellAt 22 .ireturn 1 23 := ⟨by decide +kernel, rfl⟩
theorem d_Sht_setCell_0 : zd_l .iload_n .iload b_Sht_setCell 0 1 1 := Or.inl ⟨1, rfl, by decide +kernel, rfl⟩
theorem d_Sht_setCell_1 : zd_b b_Sht_setCell 1 (.ifCond .lt) 4 44 := ⟨43, by decide +kernel, by decide, rfl⟩
theorem d_Sht_setCell_4 : zd_l .iload_n .iload b_Sht_setCell 4 1 5 := Or.inl ⟨1, rfl, by decide +kernel, rfl⟩
theorem d_Sht_setCell_5 : zd_l .aload_n .aload b_Sht_setCell 5 0 6 := Or.inl ⟨0, rfl, by decide +kernel, rfl⟩
theorem d_Sht_setCell_6 : zd b_Sht_setCell 6 (.getfield 19) 3 9 := ⟨by decide +kernel, rfl⟩
theorem d_Sht_setCell_9 : zd_b b_Sht_setCell 9 (.if_icmp .ge) 12 44 := ⟨35, by decide +kernel, by decide, rfl⟩
theorem d_Sht_setCell_12 : zd_l .aload_n .aload b_Sht_setCell 12 0 13 := Or.inl ⟨0, rfl, by decide +kernel, rfl⟩
theorem d_Sht_setCell_13 : zd b_Sht_setCell 13 (.getfield 9) 3 16 := ⟨by decide +kernel, rfl⟩
theorem d_Sht_setCell_16 : zd_l .iload_n .iload b_Sht_setCell 16 1 17 := Or.inl ⟨1, rfl, by decide +kernel, rfl⟩
theorem d_Sht_setCell_17 : zd_l .aload_n .aload b_Sht_setCell 17 0 18 := Or.inl ⟨0, rfl, by decide +kernel, rfl⟩
theorem d_Sht_setCell_18 : zd b_Sht_setCell 18 (.getfield 15) 3 21 := ⟨by decide +kernel, rfl⟩
theorem d_Sht_setCell_21 : zd_b b_Sht_setCell 21 (.ifCond .ne) 24 29 := ⟨8, by decide +kernel, by decide, rfl⟩
theorem d_Sht_setCell_24 : zd_l .iload_n .iload b_Sht_setCell 24 2 25 := Or.inl ⟨2, rfl, by decide +kernel, rfl⟩
theorem d_Sht_setCell_25 : zd b_Sht_setCell 25 .i2b 1 26 := ⟨by decide +kernel, rfl⟩
theorem d_Sht_setCell_26 : zd_b b_Sht_setCell 26 .goto 29 43 := ⟨17, by decide +kernel, by decide, rfl⟩
theorem d_Sht_setCell_29 : zd_l .aload_n .aload b_Sht_setCell 29 0 30 := Or.inl ⟨0, rfl, by decide +kernel, rfl⟩
theorem d_Sht_setCell_30 : zd b_Sht_setCell 30 (.getfield 15) 3 33 := ⟨by decide +kernel, rfl⟩
theorem d_Sht_setCell_33 : zd_k b_Sht_setCell "SameTuesday$Sheet" 33 1 34 := Or.inl ⟨1, by decide +kernel, by decide, rfl⟩
theorem d_Sht_setCell_34 : zd_b b_Sht_setCell 34 (.if_icmp .ne) 37 42 := ⟨8, by decide +kernel, by decide, rfl⟩
theorem d_Sht_setCell_37 : zd_l .iload_n .iload b_Sht_setCell 37 2 38 := Or.inl ⟨2, rfl, by decide +kernel, rfl⟩
theorem d_Sht_setCell_38 : zd b_Sht_setCell 38 .i2s 1 39 := ⟨by decide +kernel, rfl⟩
theorem d_Sht_setCell_39 : zd_b b_Sht_setCell 39 .goto 42 43 := ⟨4, by decide +kernel, by decide, rfl⟩
theorem d_Sht_setCell_42 : zd_l .iload_n .iload b_Sht_setCell 42 2 43 := Or.inl ⟨2, rfl, by decide +kernel, rfl⟩
theorem d_Sht_setCell_43 : zd b_Sht_setCell 43 .iastore 1 44 := ⟨by decide +kernel, rfl⟩
theorem d_Sht_setCell_44 : zd b_Sht_setCell 44 .return_ 1 45 := ⟨by decide +kernel, rfl⟩
theorem d_Sht_takeFrom_0 : zd_l .aload_n .aload b_Sht_takeFrom 0 1 1 := Or.inl ⟨1, rfl, by decide +kernel, rfl⟩
theorem d_Sht_takeFrom_1 : zd_l .iload_n .iload b_Sht_takeFrom 1 2 2 := Or.inl ⟨2, rfl, by decide +kernel, rfl⟩
theorem d_Sht_takeFrom_2 : zd_l .iload_n .iload b_Sht_takeFrom 2 4 4 := Or.inr ⟨by decide +kernel, rfl⟩
theorem d_Sht_takeFrom_4 : zd b_Sht_takeFrom 4 (.invokevirtual 31) 3 7 := ⟨by decide +kernel, rfl⟩
theorem d_Sht_takeFrom_7 : zd_b b_Sht_takeFrom 7 (.ifCond .eq) 10 35 := ⟨28, by decide +kernel, by decide, rfl⟩
theorem d_Sht_takeFrom_10 : zd_l .aload_n .aload b_Sht_takeFrom 10 0 11 := Or.inl ⟨0, rfl, by decide +kernel, rfl⟩
theorem d_Sht_takeFrom_11 : zd_l .iload_n .iload b_Sht_takeFrom 11 3 12 := Or.inl ⟨3, rfl, by decide +kernel, rfl⟩
theorem d_Sht_takeFrom_12 : zd_l .iload_n .iload b_Sht_takeFrom 12 4 14 := Or.inr ⟨by decide +kernel, rfl⟩
theorem d_Sht_takeFrom_14 : zd b_Sht_takeFrom 14 (.invokevirtual 31) 3 17 := ⟨by decide +kernel, rfl⟩
theorem d_Sht_takeFrom_17 : zd_b b_Sht_takeFrom 17 (.ifCond .eq) 20 35 := ⟨18, by decide +kernel, by decide, rfl⟩
theorem d_Sht_takeFrom_20 : zd_l .aload_n .aload b_Sht_takeFrom 20 1 21 := Or.inl ⟨1, rfl, by decide +kernel, rfl⟩
theorem d_Sht_takeFrom_21 : zd b_Sht_takeFrom 21 (.getfield 9) 3 24 := ⟨by decide +kernel, rfl⟩
theorem d_Sht_takeFrom_24 : zd_l .iload_n .iload b_Sht_takeFrom 24 2 25 := Or.inl ⟨2, rfl, by decide +kernel, rfl⟩
theorem d_Sht_takeFrom_25 : zd_l .aload_n .aload b_Sht_takeFrom 25 0 26 := Or.inl ⟨0, rfl, by decide +kernel, rfl⟩
theorem d_Sht_takeFrom_26 : zd b_Sht_takeFrom 26 (.getfield 9) 3 29 := ⟨by decide +kernel, rfl⟩
theorem d_Sht_takeFrom_29 : zd_l .iload_n .iload b_Sht_takeFrom 29 3 30 := Or.inl ⟨3, rfl, by decide +kernel, rfl⟩
theorem d_Sht_takeFrom_30 : zd_l .iload_n .iload b_Sht_takeFrom 30 4 32 := Or.inr ⟨by decide +kernel, rfl⟩
theorem d_Sht_takeFrom_32 : zd b_Sht_takeFrom 32 (.invokestatic 35) 3 35 := ⟨by decide +kernel, rfl⟩
theorem d_Sht_takeFrom_35 : zd b_Sht_takeFrom 35 .return_ 1 36 := ⟨by decide +kernel, rfl⟩
set_option maxRecDepth 20000 in
theorem f_Txt_9_8 : zb_FL "SameTuesday$Text" 9 8 0 := ⟨"SameTuesday$Text", zF_Txt, 6, "SameTuesday$Text", rfl, by decide, zi_Txt, zb_mem 270 rfl rfl, Or.inl rfl⟩
set_option maxRecDepth 20000 in
theorem p_Txt_9_8 : zb_PF "SameTuesday$Text" 9 8 0 (.object "SameTuesday$Sheet") := ⟨"SameTuesday$Text", zF_Txt, 6, "SameTuesday$Text", zt_Txt, rfl, by decide, zi_Txt, zb_mem 270 rfl rfl, Or.inl rfl, zk_Txt, zn_Txt, rfl, rfl, rfl⟩
set_option maxRecDepth 20000 in
theorem f_Txt_15_8 : zb_FL "SameTuesday$Text" 15 8 1 := ⟨"SameTuesday$Text", zF_Txt, 6, "SameTuesday$Text", rfl, by decide, zi_Txt, zb_mem 271 rfl rfl, Or.inl rfl⟩
set_option maxRecDepth 20000 in
theorem p_Txt_15_8 : zb_PF "SameTuesday$Text" 15 8 1 .int := ⟨"SameTuesday$Text", zF_Txt, 6, "SameTuesday$Text", zt_Txt, rfl, by decide, zi_Txt, zb_mem 271 rfl rfl, Or.inl rfl, zk_Txt, zn_Txt, rfl, rfl, rfl⟩
set_option maxRecDepth 20000 in
theorem f_Txt_19_8 : zb_FL "SameTuesday$Text" 19 8 2 := ⟨"SameTuesday$Text", zF_Txt, 6, "SameTuesday$Text", rfl, by decide, zi_Txt, zb_mem 272 rfl rfl, Or.inl rfl⟩
set_option maxRecDepth 20000 in
theorem p_Txt_19_8 : zb_PF "SameTuesday$Text" 19 8 2 .int := ⟨"SameTuesday$Text", zF_Txt, 6, "SameTuesday$Text", zt_Txt, rfl, by decide, zi_Txt, zb_mem 272 rfl rfl, Or.inl rfl, zk_Txt, zn_Txt, rfl, rfl, rfl⟩
set_option maxRecDepth 20000 in
theorem f_Txt_22_8 : zb_FL "SameTuesday$Text" 22 8 3 := ⟨"SameTuesday$Text", zF_Txt, 6, "SameTuesday$Text", rfl, by decide, zi_Txt, zb_mem 273 rfl rfl, Or.inl rfl⟩
set_option maxRecDepth 20000 in
theorem p_Txt_22_8 : zb_PL "SameTuesday$Text" 22 8 3 .int := ⟨"SameTuesday$Text", zF_Txt, 6, "SameTuesday$Text", zt_Txt, rfl, by decide, zi_Txt, zb_mem 273 rfl rfl, Or.inl rfl, zk_Txt, zn_Txt, rfl, rfl⟩
set_option maxRecDepth 20000 in
theorem f_Txt_25_8 : zb_FL "SameTuesday$Text" 25 8 4 := ⟨"SameTuesday$Text", zF_Txt, 6, "SameTuesday$Text", rfl, by decide, zi_Txt, zb_mem 274 rfl rfl, Or.inl rfl⟩
set_option maxRecDepth 20000 in
theorem p_Txt_25_8 : zb_PL "SameTuesday$Text" 25 8 4 .int := ⟨"SameTuesday$Text", zF_Txt, 6, "SameTuesday$Text", zt_Txt, rfl, by decide, zi_Txt, zb_mem 274 rfl rfl, Or.inl rfl, zk_Txt, zn_Txt, rfl, rfl⟩
set_option maxRecDepth 20000 in
theorem f_Txt_28_8 : zb_FL "SameTuesday$Text" 28 8 5 := ⟨"SameTuesday$Text", zF_Txt, 6, "SameTuesday$Text", rfl, by decide, zi_Txt, zb_mem 275 rfl rfl, Or.inl rfl⟩
set_option maxRecDepth 20000 in
theorem p_Txt_28_8 : zb_PL "SameTuesday$Text" 28 8 5 .int := ⟨"SameTuesday$Text", zF_Txt, 6, "SameTuesday$Text", zt_Txt, rfl, by decide, zi_Txt, zb_mem 275 rfl rfl, Or.inl rfl, zk_Txt, zn_Txt, rfl, rfl⟩
set_option maxRecDepth 20000 in
theorem l_Txt_31 : zl_V "SameTuesday$Text" 31 y_Txt_codeAt b_Txt_codeAt 2 (some .int) 1 := ⟨⟨zb_mem 293 rfl rfl, zb_mem 58 rfl rfl, zb_mem 296 rfl rfl, by decide, by decide +kernel⟩, zb_mem 295 rfl rfl, zb_mem 3 rfl rfl⟩
set_option maxRecDepth 20000 in
theorem l_Txt_35 : zl_V "SameTuesday$Text" 35 y_Txt_passPart b_Txt_passPart 7 (some .boolean) 0 := ⟨⟨zb_mem 301 rfl rfl, zb_mem 58 rfl rfl, zb_mem 304 rfl rfl, by decide, by decide +kernel⟩, zb_mem 303 rfl rfl, zb_mem 4 rfl rfl⟩
set_option maxRecDepth 20000 in
theorem l_Txt_39 : zl_S "SameTuesday$Text" 39 y_Txt_fitsHappening b_Txt_fitsHappening 2 (some .boolean) 2 := ⟨⟨zb_mem 305 rfl rfl, zb_mem 58 rfl rfl, zb_mem 307 rfl rfl, by decide, by decide +kernel⟩, zb_mem 306 rfl rfl⟩
set_option maxRecDepth 20000 in
theorem l_Txt_43 : zl_S "SameTuesday$Text" 43 y_Txt_fitsDeed b_Txt_fitsDeed 2 (some .boolean) 2 := ⟨⟨zb_mem 314 rfl rfl, zb_mem 58 rfl rfl, zb_mem 316 rfl rfl, by decide, by decide +kernel⟩, zb_mem 315 rfl rfl⟩
set_option maxRecDepth 20000 in
theorem l_Txt_46 : zl_S "SameTuesday$Text" 46 y_Txt_kindOf b_Txt_kindOf 1 (some .int) 1 := ⟨⟨zb_mem 308 rfl rfl, zb_mem 58 rfl rfl, zb_mem 310 rfl rfl, by decide, by decide +kernel⟩, zb_mem 309 rfl rfl⟩
set_option maxRecDepth 20000 in
theorem l_Txt_49 : zl_S "SameTuesday$Text" 49 y_Txt_isDigit b_Txt_isDigit 3 (some .boolean) 3 := ⟨⟨zb_mem 311 rfl rfl, zb_mem 58 rfl rfl, zb_mem 313 rfl rfl, by decide, by decide +kernel⟩, zb_mem 312 rfl rfl⟩
set_option maxRecDepth 20000 in
theorem l_Txt_53 : zl_V "SameTuesday$Text" 53 y_Sht_cellAt b_Sht_cellAt 2 (some .int) 1 := ⟨⟨zb_mem 297 rfl rfl, zb_mem 51 rfl rfl, zb_mem 300 rfl rfl, by decide, by decide +kernel⟩, zb_mem 298 rfl rfl, zb_mem 299 rfl rfl⟩
set_option maxRecDepth 20000 in
theorem l_Txt_58 : zl_V "SameTuesday$Text" 58 y_Txt_digitAt b_Txt_digitAt 2 (some .int) 1 := ⟨⟨zb_mem 332 rfl rfl, zb_mem 58 rfl rfl, zb_mem 335 rfl rfl, by decide, by decide +kernel⟩, zb_mem 334 rfl rfl, zb_mem 5 rfl rfl⟩
set_option maxRecDepth 20000 in
theorem l_Txt_63 : zl_I "SameTuesday$Text" 63 y_Mis_init b_Mis_init 5 4 := ⟨⟨zb_mem 338 rfl rfl, zb_mem 61 rfl rfl, zb_mem 340 rfl rfl, by decide, by decide +kernel⟩, rfl, zb_mem 339 rfl rfl⟩
set_option maxRecDepth 20000 in
theorem l_Txt_68 : zl_I "SameTuesday$Text" 68 y_Cap_init b_Cap_init 5 4 := ⟨⟨zb_mem 388 rfl rfl, zb_mem 62 rfl rfl, zb_mem 390 rfl rfl, by decide, by decide +kernel⟩, rfl, zb_mem 389 rfl rfl⟩
set_option maxRecDepth 20000 in
theorem l_Txt_71 : zl_I "SameTuesday$Text" 71 y_Hap_init b_Hap_init 5 4 := ⟨⟨zb_mem 401 rfl rfl, zb_mem 60 rfl rfl, zb_mem 343 rfl rfl, by decide, by decide +kernel⟩, rfl, zb_mem 342 rfl rfl⟩
set_option maxRecDepth 20000 in
theorem l_Txt_74 : zl_I "SameTuesday$Text" 74 y_Deed_init b_Deed_init 5 4 := ⟨⟨zb_mem 419 rfl rfl, zb_mem 63 rfl rfl, zb_mem 421 rfl rfl, by decide, by decide +kernel⟩, rfl, zb_mem 420 rfl rfl⟩
theorem d_Txt_init_0 : zd_l .aload_n .aload b_Txt_init 0 0 1 := Or.inl ⟨0, rfl, by decide +kernel, rfl⟩
theorem d_Txt_init_1 : zd b_Txt_init 1 (.invokespecial 3) 3 4 := ⟨by decide +kernel, rfl⟩
theorem d_Txt_init_4 : zd_l .aload_n .aload b_Txt_init 4 0 5 := Or.inl ⟨0, rfl, by decide +kernel, rfl⟩
theorem d_Txt_init_5 : zd_l .aload_n .aload b_Txt_init 5 1 6 := Or.inl ⟨1, rfl, by decide +kernel, rfl⟩
theorem d_Txt_init_6 : zd b_Txt_init 6 (.putfield 9) 3 9 := ⟨by decide +kernel, rfl⟩
theorem d_Txt_init_9 : zd_l .aload_n .aload b_Txt_init 9 0 10 := Or.inl ⟨0, rfl, by decide +kernel, rfl⟩
theorem d_Txt_init_10 : zd_l .iload_n .iload b_Txt_init 10 2 11 := Or.inl ⟨2, rfl, by decide +kernel, rfl⟩
theorem d_Txt_init_11 : zd b_Txt_init 11 (.putfield 15) 3 14 := ⟨by decide +kernel, rfl⟩
theorem d_Txt_init_14 : zd_l .aload_n .aload b_Txt_init 14 0 15 := Or.inl ⟨0, rfl, by decide +kernel, rfl⟩
theorem d_Txt_init_15 : zd_l .iload_n .iload b_Txt_init 15 3 16 := Or.inl ⟨3, rfl, by decide +kernel, rfl⟩
theorem d_Txt_init_16 : zd b_Txt_init 16 (.putfield 19) 3 19 := ⟨by decide +kernel, rfl⟩
theorem d_Txt_init_19 : zd_l .aload_n .aload b_Txt_init 19 0 20 := Or.inl ⟨0, rfl, by decide +kernel, rfl⟩
theorem d_Txt_init_20 : zd_k b_Txt_init "SameTuesday$Text" 20 0 21 := Or.inl ⟨0, by decide +kernel, by decide, rfl⟩
theorem d_Txt_init_21 : zd b_Txt_init 21 (.putfield 22) 3 24 := ⟨by decide +kernel, rfl⟩
theorem d_Txt_init_24 : zd_l .aload_n .aload b_Txt_init 24 0 25 := Or.inl ⟨0, rfl, by decide +kernel, rfl⟩
theorem d_Txt_init_25 : zd_k b_Txt_init "SameTuesday$Text" 25 0 26 := Or.inl ⟨0, by decide +kernel, by decide, rfl⟩
theorem d_Txt_init_26 : zd b_Txt_init 26 (.putfield 25) 3 29 := ⟨by decide +kernel, rfl⟩
theorem d_Txt_init_29 : zd_l .aload_n .aload b_Txt_init 29 0 30 := Or.inl ⟨0, rfl, by decide +kernel, rfl⟩
theorem d_Txt_init_30 : zd_k b_Txt_init "SameTuesday$Text" 30 0 31 := Or.inl ⟨0, by decide +kernel, by decide, rfl⟩
theorem d_Txt_init_31 : zd b_Txt_init 31 (.putfield 28) 3 34 := ⟨by decide +kernel, rfl⟩
theorem d_Txt_init_34 : zd b_Txt_init 34 .return_ 1 35 := ⟨by decide +kernel, rfl⟩
theorem d_Txt_firstFault_0 : zd_l .aload_n .aload b_Txt_firstFault 0 0 1 := Or.inl ⟨0, rfl, by decide +kernel, rfl⟩
theorem d_Txt_firstFault_1 : zd_k b_Txt_firstFault "SameTuesday$Text" 1 0 2 := Or.inl ⟨0, by decide +kernel, by decide, rfl⟩
theorem d_Txt_firstFault_2 : zd b_Txt_firstFault 2 (.invokevirtual 31) 3 5 := ⟨by decide +kernel, rfl⟩
theorem d_Txt_firstFault_5 : zd_k b_Txt_firstFault "SameTuesday$Text" 5 115 7 := Or.inr (Or.inl ⟨115, by decide +kernel, by decide, rfl⟩)
theorem d_Txt_firstFault_7 : zd_b b_Txt_firstFault 7 (.if_icmp .eq) 10 12 := ⟨5, by decide +kernel, by decide, rfl⟩
theorem d_Txt_firstFault_10 : zd_k b_Txt_firstFault "SameTuesday$Text" 10 0 11 := Or.inl ⟨0, by decide +kernel, by decide, rfl⟩
theorem d_Txt_firstFault_11 : zd b_Txt_firstFault 11 .ireturn 1 12 := ⟨by decide +kernel, rfl⟩
theorem d_Txt_firstFault_12 : zd_l .aload_n .aload b_Txt_firstFault 12 0 13 := Or.inl ⟨0, rfl, by decide +kernel, rfl⟩
theorem d_Txt_firstFault_13 : zd_k b_Txt_firstFault "SameTuesday$Text" 13 1 14 := Or.inl ⟨1, by decide +kernel, by decide, rfl⟩
theorem d_Txt_firstFault_14 : zd b_Txt_firstFault 14 (.putfield 22) 3 17 := ⟨by decide +kernel, rfl⟩
theorem d_Txt_firstFault_17 : zd_k b_Txt_firstFault "SameTuesday$Text" 17 1 18 := Or.inl ⟨1, by decide +kernel, by decide, rfl⟩
theorem d_Txt_firstFault_18 : zd_l .istore_n .istore b_Txt_firstFault 18 1 19 := Or.inl ⟨1, rfl, by decide +kernel, rfl⟩
theorem d_Txt_firstFault_19 : zd_k b_Txt_firstFault "SameTuesday$Text" 19 0 20 := Or.inl ⟨0, by decide +kernel, by decide, rfl⟩
theorem d_Txt_firstFault_20 : zd_l .istore_n .istore b_Txt_firstFault 20 2 21 := Or.inl ⟨2, rfl, by decide +kernel, rfl⟩
theorem d_Txt_firstFault_21 : zd_l .iload_n .iload b_Txt_firstFault 21 1 22 := Or.inl ⟨1, rfl, by decide +kernel, rfl⟩
theorem d_Txt_firstFault_22 : zd_b b_Txt_firstFault 22 (.ifCond .eq) 25 63 := ⟨41, by decide +kernel, by decide, rfl⟩
theorem d_Txt_firstFault_25 : zd_l .iload_n .iload b_Txt_firstFault 25 2 26 := Or.inl ⟨2, rfl, by decide +kernel, rfl⟩
theorem d_Txt_firstFault_26 : zd_k b_Txt_firstFault "SameTuesday$Text" 26 11 28 := Or.inr (Or.inl ⟨11, by decide +kernel, by decide, rfl⟩)
theorem d_Txt_firstFault_28 : zd_b b_Txt_firstFault 28 (.if_icmp .gt) 31 63 := ⟨35, by decide +kernel, by decide, rfl⟩
theorem d_Txt_firstFault_31 : zd_l .aload_n .aload b_Txt_firstFault 31 0 32 := Or.inl ⟨0, rfl, by decide +kernel, rfl⟩
theorem d_Txt_firstFault_32 : zd b_Txt_firstFault 32 (.getfield 22) 3 35 := ⟨by decide +kernel, rfl⟩
theorem d_Txt_firstFault_35 : zd_l .aload_n .aload b_Txt_firstFault 35 0 36 := Or.inl ⟨0, rfl, by decide +kernel, rfl⟩
theorem d_Txt_firstFault_36 : zd b_Txt_firstFault 36 (.getfield 19) 3 39 := ⟨by decide +kernel, rfl⟩
theorem d_Txt_firstFault_39 : zd_b b_Txt_firstFault 39 (.if_icmp .ne) 42 52 := ⟨13, by decide +kernel, by decide, rfl⟩
theorem d_Txt_firstFault_42 : zd_l .aload_n .aload b_Txt_firstFault 42 0 43 := Or.inl ⟨0, rfl, by decide +kernel, rfl⟩
theorem d_Txt_firstFault_43 : zd b_Txt_firstFault 43 (.getfield 25) 3 46 := ⟨by decide +kernel, rfl⟩
theorem d_Txt_firstFault_46 : zd_b b_Txt_firstFault 46 (.ifCond .le) 49 52 := ⟨6, by decide +kernel, by decide, rfl⟩
theorem d_Txt_firstFault_49 : zd_k b_Txt_firstFault "SameTuesday$Text" 49 (-9) 51 := Or.inr (Or.inl ⟨(-9), by decide +kernel, by decide, rfl⟩)
theorem d_Txt_firstFault_51 : zd b_Txt_firstFault 51 .ireturn 1 52 := ⟨by decide +kernel, rfl⟩
theorem d_Txt_firstFault_52 : zd_l .aload_n .aload b_Txt_firstFault 52 0 53 := Or.inl ⟨0, rfl, by decide +kernel, rfl⟩
theorem d_Txt_firstFault_53 : zd b_Txt_firstFault 53 (.invokevirtual 35) 3 56 := ⟨by decide +kernel, rfl⟩
theorem d_Txt_firstFault_56 : zd_l .istore_n .istore b_Txt_firstFault 56 1 57 := Or.inl ⟨1, rfl, by decide +kernel, rfl⟩
theorem d_Txt_firstFault_57 : zd_i b_Txt_firstFault 57 2 1 1 60 := ⟨by decide +kernel, by decide, rfl⟩
theorem d_Txt_firstFault_60 : zd_b b_Txt_firstFault 60 .goto 63 21 := ⟨(-39), by decide +kernel, by decide, rfl⟩
theorem d_Txt_firstFault_63 : zd_l .aload_n .aload b_Txt_firstFault 63 0 64 := Or.inl ⟨0, rfl, by decide +kernel, rfl⟩
theorem d_Txt_firstFault_64 : zd b_Txt_firstFault 64 (.getfield 22) 3 67 := ⟨by decide +kernel, rfl⟩
theorem d_Txt_firstFault_67 : zd b_Txt_firstFault 67 .ireturn 1 68 := ⟨by decide +kernel, rfl⟩
theorem d_Txt_passPart_0 : zd_l .aload_n .aload b_Txt_passPart 0 0 1 := Or.inl ⟨0, rfl, by decide +kernel, rfl⟩
theorem d_Txt_passPart_1 : zd_l .aload_n .aload b_Txt_passPart 1 0 2 := Or.inl ⟨0, rfl, by decide +kernel, rfl⟩
theorem d_Txt_passPart_2 : zd b_Txt_passPart 2 (.getfield 22) 3 5 := ⟨by decide +kernel, rfl⟩
theorem d_Txt_passPart_5 : zd b_Txt_passPart 5 (.invokevirtual 31) 3 8 := ⟨by decide +kernel, rfl⟩
theorem d_Txt_passPart_8 : zd_l .istore_n .istore b_Txt_passPart 8 1 9 := Or.inl ⟨1, rfl, by decide +kernel, rfl⟩
theorem d_Txt_passPart_9 : zd_l .iload_n .iload b_Txt_passPart 9 1 10 := Or.inl ⟨1, rfl, by decide +kernel, rfl⟩
theorem d_Txt_passPart_10 : zd_k b_Txt_passPart "SameTuesday$Text" 10 59 12 := Or.inr (Or.inl ⟨59, by decide +kernel, by decide, rfl⟩)
theorem d_Txt_passPart_12 : zd_b b_Txt_passPart 12 (.if_icmp .ne) 15 35 := ⟨23, by decide +kernel, by decide, rfl⟩
theorem d_Txt_passPart_15 : zd_l .aload_n .aload b_Txt_passPart 15 0 16 := Or.inl ⟨0, rfl, by decide +kernel, rfl⟩
theorem d_Txt_passPart_16 : zd b_Txt_passPart 16 (.getfield 28) 3 19 := ⟨by decide +kernel, rfl⟩
theorem d_Txt_passPart_19 : zd_b b_Txt_passPart 19 (.ifCond .ne) 22 35 := ⟨16, by decide +kernel, by decide, rfl⟩
theorem d_Txt_passPart_22 : zd_l .aload_n .aload b_Txt_passPart 22 0 23 := Or.inl ⟨0, rfl, by decide +kernel, rfl⟩
theorem d_Txt_passPart_23 : zd b_Txt_passPart 23 (.getfield 25) 3 26 := ⟨by decide +kernel, rfl⟩
theorem d_Txt_passPart_26 : zd_k b_Txt_passPart "SameTuesday$Text" 26 6 28 := Or.inr (Or.inl ⟨6, by decide +kernel, by decide, rfl⟩)
theorem d_Txt_passPart_28 : zd_b b_Txt_passPart 28 (.if_icmp .ge) 31 35 := ⟨7, by decide +kernel, by decide, rfl⟩
theorem d_Txt_passPart_31 : zd_k b_Txt_passPart "SameTuesday$Text" 31 1 32 := Or.inl ⟨1, by decide +kernel, by decide, rfl⟩
theorem d_Txt_passPart_32 : zd_b b_Txt_passPart 32 .goto 35 36 := ⟨4, by decide +kernel, by decide, rfl⟩
theorem d_Txt_passPart_35 : zd_k b_Txt_passPart "SameTuesday$Text" 35 0 36 := Or.inl ⟨0, by decide +kernel, by decide, rfl⟩
theorem d_Txt_passPart_36 : zd_l .istore_n .istore b_Txt_passPart 36 2 37 := Or.inl ⟨2, rfl, by decide +kernel, rfl⟩
theorem d_Txt_passPart_37 : zd_l .iload_n .iload b_Txt_passPart 37 1 38 := Or.inl ⟨1, rfl, by decide +kernel, rfl⟩
theorem d_Txt_passPart_38 : zd_k b_Txt_passPart "SameTuesday$Text" 38 44 40 := Or.inr (Or.inl ⟨44, by decide +kernel, by decide, rfl⟩)
theorem d_Txt_passPart_40 : zd_b b_Txt_passPart 40 (.if_icmp .ne) 43 62 := ⟨22, by decide +kernel, by decide, rfl⟩
theorem d_Txt_passPart_43 : zd_l .aload_n .aload b_Txt_passPart 43 0 44 := Or.inl ⟨0, rfl, by decide +kernel, rfl⟩
theorem d_Txt_passPart_44 : zd b_Txt_passPart 44 (.getfield 25) 3 47 := ⟨by decide +kernel, rfl⟩
theorem d_Txt_passPart_47 : zd_b b_Txt_passPart 47 (.ifCond .le) 50 62 := ⟨15, by decide +kernel, by decide, rfl⟩
theorem d_Txt_passPart_50 : zd_l .aload_n .aload b_Txt_passPart 50 0 51 := Or.inl ⟨0, rfl, by decide +kernel, rfl⟩
theorem d_Txt_passPart_51 : zd b_Txt_passPart 51 (.getfield 28) 3 54 := ⟨by decide +kernel, rfl⟩
theorem d_Txt_passPart_54 : zd_k b_Txt_passPart "SameTuesday$Text" 54 5 55 := Or.inl ⟨5, by decide +kernel, by decide, rfl⟩
theorem d_Txt_passPart_55 : zd_b b_Txt_passPart 55 (.if_icmp .ge) 58 62 := ⟨7, by decide +kernel, by decide, rfl⟩
theorem d_Txt_passPart_58 : zd_k b_Txt_passPart "SameTuesday$Text" 58 1 59 := Or.inl ⟨1, by decide +kernel, by decide, rfl⟩
theorem d_Txt_passPart_59 : zd_b b_Txt_passPart 59 .goto 62 63 := ⟨4, by decide +kernel, by decide, rfl⟩
theorem d_Txt_passPart_62 : zd_k b_Txt_passPart "SameTuesday$Text" 62 0 63 := Or.inl ⟨0, by decide +kernel, by decide, rfl⟩
theorem d_Txt_passPart_63 : zd_l .istore_n .istore b_Txt_passPart 63 3 64 := Or.inl ⟨3, rfl, by decide +kernel, rfl⟩
theorem d_Txt_passPart_64 : zd_l .iload_n .iload b_Txt_passPart 64 2 65 := Or.inl ⟨2, rfl, by decide +kernel, rfl⟩
theorem d_Txt_passPart_65 : zd_b b_Txt_passPart 65 (.ifCond .ne) 68 74 := ⟨9, by decide +kernel, by decide, rfl⟩
theorem d_Txt_passPart_68 : zd_l .iload_n .iload b_Txt_passPart 68 3 69 := Or.inl ⟨3, rfl, by decide +kernel, rfl⟩
theorem d_Txt_passPart_69 : zd_b b_Txt_passPart 69 (.ifCond .ne) 72 74 := ⟨5, by decide +kernel, by decide, rfl⟩
theorem d_Txt_passPart_72 : zd_k b_Txt_passPart "SameTuesday$Text" 72 0 73 := Or.inl ⟨0, by decide +kernel, by decide, rfl⟩
theorem d_Txt_passPart_73 : zd b_Txt_passPart 73 .ireturn 1 74 := ⟨by decide +kernel, rfl⟩
theorem d_Txt_passPart_74 : zd_l .iload_n .iload b_Txt_passPart 74 2 75 := Or.inl ⟨2, rfl, by decide +kernel, rfl⟩
theorem d_Txt_passPart_75 : zd_b b_Txt_passPart 75 (.ifCond .eq) 78 83 := ⟨8, by decide +kernel, by decide, rfl⟩
theorem d_Txt_passPart_78 : zd_k b_Txt_passPart "SameTuesday$Text" 78 6 80 := Or.inr (Or.inl ⟨6, by decide +kernel, by decide, rfl⟩)
theorem d_Txt_passPart_80 : zd_b b_Txt_passPart 80 .goto 83 84 := ⟨4, by decide +kernel, by decide, rfl⟩
theorem d_Txt_passPart_83 : zd_k b_Txt_passPart "SameTuesday$Text" 83 5 84 := Or.inl ⟨5, by decide +kernel, by decide, rfl⟩
theorem d_Txt_passPart_84 : zd_l .istore_n .istore b_Txt_passPart 84 4 86 := Or.inr ⟨by decide +kernel, rfl⟩
theorem d_Txt_passPart_86 : zd_k b_Txt_passPart "SameTuesday$Text" 86 1 87 := Or.inl ⟨1, by decide +kernel, by decide, rfl⟩
theorem d_Txt_passPart_87 : zd_l .istore_n .istore b_Txt_passPart 87 5 89 := Or.inr ⟨by decide +kernel, rfl⟩
theorem d_Txt_passPart_89 : zd_l .iload_n .iload b_Txt_passPart 89 5 91 := Or.inr ⟨by decide +kernel, rfl⟩
theorem d_Txt_passPart_91 : zd_l .iload_n .iload b_Txt_passPart 91 4 93 := Or.inr ⟨by decide +kernel, rfl⟩
theorem d_Txt_passPart_93 : zd_b b_Txt_passPart 93 (.if_icmp .ge) 96 151 := ⟨58, by decide +kernel, by decide, rfl⟩
theorem d_Txt_passPart_96 : zd_l .aload_n .aload b_Txt_passPart 96 0 97 := Or.inl ⟨0, rfl, by decide +kernel, rfl⟩
theorem d_Txt_passPart_97 : zd b_Txt_passPart 97 .dup 1 98 := ⟨by decide +kernel, rfl⟩
theorem d_Txt_passPart_98 : zd b_Txt_passPart 98 (.getfield 22) 3 101 := ⟨by decide +kernel, rfl⟩
theorem d_Txt_passPart_101 : zd_k b_Txt_passPart "SameTuesday$Text" 101 1 102 := Or.inl ⟨1, by decide +kernel, by decide, rfl⟩
theorem d_Txt_passPart_102 : zd b_Txt_passPart 102 .iadd 1 103 := ⟨by decide +kernel, rfl⟩
theorem d_Txt_passPart_103 : zd b_Txt_passPart 103 (.putfield 22) 3 106 := ⟨by decide +kernel, rfl⟩
theorem d_Txt_passPart_106 : zd_l .aload_n .aload b_Txt_passPart 106 0 107 := Or.inl ⟨0, rfl, by decide +kernel, rfl⟩
theorem d_Txt_passPart_107 : zd_l .aload_n .aload b_Txt_passPart 107 0 108 := Or.inl ⟨0, rfl, by decide +kernel, rfl⟩
theorem d_Txt_passPart_108 : zd b_Txt_passPart 108 (.getfield 22) 3 111 := ⟨by decide +kernel, rfl⟩
theorem d_Txt_passPart_111 : zd b_Txt_passPart 111 (.invokevirtual 31) 3 114 := ⟨by decide +kernel, rfl⟩
theorem d_Txt_passPart_114 : zd_l .istore_n .istore b_Txt_passPart 114 6 116 := Or.inr ⟨by decide +kernel, rfl⟩
theorem d_Txt_passPart_116 : zd_l .iload_n .iload b_Txt_passPart 116 2 117 := Or.inl ⟨2, rfl, by decide +kernel, rfl⟩
theorem d_Txt_passPart_117 : zd_b b_Txt_passPart 117 (.ifCond .eq) 120 133 := ⟨16, by decide +kernel, by decide, rfl⟩
theorem d_Txt_passPart_120 : zd_l .iload_n .iload b_Txt_passPart 120 5 122 := Or.inr ⟨by decide +kernel, rfl⟩
theorem d_Txt_passPart_122 : zd_l .iload_n .iload b_Txt_passPart 122 6 124 := Or.inr ⟨by decide +kernel, rfl⟩
theorem d_Txt_passPart_124 : zd b_Txt_passPart 124 (.invokestatic 39) 3 127 := ⟨by decide +kernel, rfl⟩
theorem d_Txt_passPart_127 : zd_b b_Txt_passPart 127 (.ifCond .ne) 130 145 := ⟨18, by decide +kernel, by decide, rfl⟩
theorem d_Txt_passPart_130 : zd_b b_Txt_passPart 130 .goto 133 143 := ⟨13, by decide +kernel, by decide, rfl⟩
theorem d_Txt_passPart_133 : zd_l .iload_n .iload b_Txt_passPart 133 5 135 := Or.inr ⟨by decide +kernel, rfl⟩
theorem d_Txt_passPart_135 : zd_l .iload_n .iload b_Txt_passPart 135 6 137 := Or.inr ⟨by decide +kernel, rfl⟩
theorem d_Txt_passPart_137 : zd b_Txt_passPart 137 (.invokestatic 43) 3 140 := ⟨by decide +kernel, rfl⟩
theorem d_Txt_passPart_140 : zd_b b_Txt_passPart 140 (.ifCond .ne) 143 145 := ⟨5, by decide +kernel, by decide, rfl⟩
theorem d_Txt_passPart_143 : zd_k b_Txt_passPart "SameTuesday$Text" 143 0 144 := Or.inl ⟨0, by decide +kernel, by decide, rfl⟩
theorem d_Txt_passPart_144 : zd b_Txt_passPart 144 .ireturn 1 145 := ⟨by decide +kernel, rfl⟩
theorem d_Txt_passPart_145 : zd_i b_Txt_passPart 145 5 1 1 148 := ⟨by decide +kernel, by decide, rfl⟩
theorem d_Txt_passPart_148 : zd_b b_Txt_passPart 148 .goto 151 89 := ⟨(-59), by decide +kernel, by decide, rfl⟩
theorem d_Txt_passPart_151 : zd_l .aload_n .aload b_Txt_passPart 151 0 152 := Or.inl ⟨0, rfl, by decide +kernel, rfl⟩
theorem d_Txt_passPart_152 : zd b_Txt_passPart 152 .dup 1 153 := ⟨by decide +kernel, rfl⟩
theorem d_Txt_passPart_153 : zd b_Txt_passPart 153 (.getfield 22) 3 156 := ⟨by decide +kernel, rfl⟩
theorem d_Txt_passPart_156 : zd_k b_Txt_passPart "SameTuesday$Text" 156 1 157 := Or.inl ⟨1, by decide +kernel, by decide, rfl⟩
theorem d_Txt_passPart_157 : zd b_Txt_passPart 157 .iadd 1 158 := ⟨by decide +kernel, rfl⟩
theorem d_Txt_passPart_158 : zd b_Txt_passPart 158 (.putfield 22) 3 161 := ⟨by decide +kernel, rfl⟩
theorem d_Txt_passPart_161 : zd_l .aload_n .aload b_Txt_passPart 161 0 162 := Or.inl ⟨0, rfl, by decide +kernel, rfl⟩
theorem d_Txt_passPart_162 : zd b_Txt_passPart 162 .dup 1 163 := ⟨by decide +kernel, rfl⟩
theorem d_Txt_passPart_163 : zd b_Txt_passPart 163 (.getfield 25) 3 166 := ⟨by decide +kernel, rfl⟩
theorem d_Txt_passPart_166 : zd_l .iload_n .iload b_Txt_passPart 166 2 167 := Or.inl ⟨2, rfl, by decide +kernel, rfl⟩
theorem d_Txt_passPart_167 : zd_b b_Txt_passPart 167 (.ifCond .eq) 170 174 := ⟨7, by decide +kernel, by decide, rfl⟩
theorem d_Txt_passPart_170 : zd_k b_Txt_passPart "SameTuesday$Text" 170 1 171 := Or.inl ⟨1, by decide +kernel, by decide, rfl⟩
theorem d_Txt_passPart_171 : zd_b b_Txt_passPart 171 .goto 174 175 := ⟨4, by decide +kernel, by decide, rfl⟩
theorem d_Txt_passPart_174 : zd_k b_Txt_passPart "SameTuesday$Text" 174 0 175 := Or.inl ⟨0, by decide +kernel, by decide, rfl⟩
theorem d_Txt_passPart_175 : zd b_Txt_passPart 175 .iadd 1 176 := ⟨by decide +kernel, rfl⟩
theorem d_Txt_passPart_176 : zd b_Txt_passPart 176 (.putfield 25) 3 179 := ⟨by decide +kernel, rfl⟩
theorem d_Txt_passPart_179 : zd_l .aload_n .aload b_Txt_passPart 179 0 180 := Or.inl ⟨0, rfl, by decide +kernel, rfl⟩
theorem d_Txt_passPart_180 : zd b_Txt_passPart 180 .dup 1 181 := ⟨by decide +kernel, rfl⟩
theorem d_Txt_passPart_181 : zd b_Txt_passPart 181 (.getfield 28) 3 184 := ⟨by decide +kernel, rfl⟩
theorem d_Txt_passPart_184 : zd_l .iload_n .iload b_Txt_passPart 184 3 185 := Or.inl ⟨3, rfl, by decide +kernel, rfl⟩
theorem d_Txt_passPart_185 : zd_b b_Txt_passPart 185 (.ifCond .eq) 188 192 := ⟨7, by decide +kernel, by decide, rfl⟩
theorem d_Txt_passPart_188 : zd_k b_Txt_passPart "SameTuesday$Text" 188 1 189 := Or.inl ⟨1, by decide +kernel, by decide, rfl⟩
theorem d_Txt_passPart_189 : zd_b b_Txt_passPart 189 .goto 192 193 := ⟨4, by decide +kernel, by decide, rfl⟩
theorem d_Txt_passPart_192 : zd_k b_Txt_passPart "SameTuesday$Text" 192 0 193 := Or.inl ⟨0, by decide +kernel, by decide, rfl⟩
theorem d_Txt_passPart_193 : zd b_Txt_passPart 193 .iadd 1 194 := ⟨by decide +kernel, rfl⟩
theorem d_Txt_passPart_194 : zd b_Txt_passPart 194 (.putfield 28) 3 197 := ⟨by decide +kernel, rfl⟩
theorem d_Txt_passPart_197 : zd_k b_Txt_passPart "SameTuesday$Text" 197 1 198 := Or.inl ⟨1, by decide +kernel, by decide, rfl⟩
theorem d_Txt_passPart_198 : zd b_Txt_passPart 198 .ireturn 1 199 := ⟨by decide +kernel, rfl⟩
theorem d_Txt_fitsHappening_0 : zd_l .iload_n .iload b_Txt_fitsHappening 0 0 1 := Or.inl ⟨0, rfl, by decide +kernel, rfl⟩
theorem d_Txt_fitsHappening_1 : decode b_Txt_fitsHappening 1 = .ok (.tableswitch 69 1 4 #[31, 46, 53, 61], 31) := by decide +kernel
theorem d_Txt_fitsHappening_32 : zd_l .iload_n .iload b_Txt_fitsHappening 32 1 33 := Or.inl ⟨1, rfl, by decide +kernel, rfl⟩
theorem d_Txt_fitsHappening_33 : zd b_Txt_fitsHappening 33 (.invokestatic 46) 3 36 := ⟨by decide +kernel, rfl⟩
theorem d_Txt_fitsHappening_36 : zd_k b_Txt_fitsHappening "SameTuesday$Text" 36 (-9) 38 := Or.inr (Or.inl ⟨(-9), by decide +kernel, by decide, rfl⟩)
theorem d_Txt_fitsHappening_38 : zd_b b_Txt_fitsHappening 38 (.if_icmp .eq) 41 45 := ⟨7, by decide +kernel, by decide, rfl⟩
theorem d_Txt_fitsHappening_41 : zd_k b_Txt_fitsHappening "SameTuesday$Text" 41 1 42 := Or.inl ⟨1, by decide +kernel, by decide, rfl⟩
theorem d_Txt_fitsHappening_42 : zd_b b_Txt_fitsHappening 42 .goto 45 46 := ⟨4, by decide +kernel, by decide, rfl⟩
theorem d_Txt_fitsHappening_45 : zd_k b_Txt_fitsHappening "SameTuesday$Text" 45 0 46 := Or.inl ⟨0, by decide +kernel, by decide, rfl⟩
theorem d_Txt_fitsHappening_46 : zd b_Txt_fitsHappening 46 .ireturn 1 47 := ⟨by decide +kernel, rfl⟩
theorem d_Txt_fitsHappening_47 : zd_l .iload_n .iload b_Txt_fitsHappening 47 1 48 := Or.inl ⟨1, rfl, by decide +kernel, rfl⟩
theorem d_Txt_fitsHappening_48 : zd_k b_Txt_fitsHappening "SameTuesday$Text" 48 0 49 := Or.inl ⟨0, by decide +kernel, by decide, rfl⟩
theorem d_Txt_fitsHappening_49 : zd_k b_Txt_fitsHappening "SameTuesday$Text" 49 5 50 := Or.inl ⟨5, by decide +kernel, by decide, rfl⟩
theorem d_Txt_fitsHappening_50 : zd b_Txt_fitsHappening 50 (.invokestatic 49) 3 53 := ⟨by decide +kernel, rfl⟩
theorem d_Txt_fitsHappening_53 : zd b_Txt_fitsHappening 53 .ireturn 1 54 := ⟨by decide +kernel, rfl⟩
theorem d_Txt_fitsHappening_54 : zd_l .iload_n .iload b_Txt_fitsHappening 54 1 55 := Or.inl ⟨1, rfl, by decide +kernel, rfl⟩
theorem d_Txt_fitsHappening_55 : zd_k b_Txt_fitsHappening "SameTuesday$Text" 55 0 56 := Or.inl ⟨0, by decide +kernel, by decide, rfl⟩
theorem d_Txt_fitsHappening_56 : zd_k b_Txt_fitsHappening "SameTuesday$Text" 56 9 58 := Or.inr (Or.inl ⟨9, by decide +kernel, by decide, rfl⟩)
theorem d_Txt_fitsHappening_58 : zd b_Txt_fitsHappening 58 (.invokestatic 49) 3 61 := ⟨by decide +kernel, rfl⟩
theorem d_Txt_fitsHappening_61 : zd b_Txt_fitsHappening 61 .ireturn 1 62 := ⟨by decide +kernel, rfl⟩
theorem d_Txt_fitsHappening_62 : zd_l .iload_n .iload b_Txt_fitsHappening 62 1 63 := Or.inl ⟨1, rfl, by decide +kernel, rfl⟩
theorem d_Txt_fitsHappening_63 : zd_k b_Txt_fitsHappening "SameTuesday$Text" 63 0 64 := Or.inl ⟨0, by decide +kernel, by decide, rfl⟩
theorem d_Txt_fitsHappening_64 : zd_k b_Txt_fitsHappening "SameTuesday$Text" 64 6 66 := Or.inr (Or.inl ⟨6, by decide +kernel, by decide, rfl⟩)
theorem d_Txt_fitsHappening_66 : zd b_Txt_fitsHappening 66 (.invokestatic 49) 3 69 := ⟨by decide +kernel, rfl⟩
theorem d_Txt_fitsHappening_69 : zd b_Txt_fitsHappening 69 .ireturn 1 70 := ⟨by decide +kernel, rfl⟩
theorem d_Txt_fitsHappening_70 : zd_l .iload_n .iload b_Txt_fitsHappening 70 1 71 := Or.inl ⟨1, rfl, by decide +kernel, rfl⟩
theorem d_Txt_fitsHappening_71 : zd_k b_Txt_fitsHappening "SameTuesday$Text" 71 0 72 := Or.inl ⟨0, by decide +kernel, by decide, rfl⟩
theorem d_Txt_fitsHappening_72 : zd_k b_Txt_fitsHappening "SameTuesday$Text" 72 5 73 := Or.inl ⟨5, by decide +kernel, by decide, rfl⟩
theorem d_Txt_fitsHappening_73 : zd b_Txt_fitsHappening 73 (.invokestatic 49) 3 76 := ⟨by decide +kernel, rfl⟩
theorem d_Txt_fitsHappening_76 : zd b_Txt_fitsHappening 76 .ireturn 1 77 := ⟨by decide +kernel, rfl⟩
theorem d_Txt_fitsDeed_0 : zd_l .iload_n .iload b_Txt_fitsDeed 0 0 1 := Or.inl ⟨0, rfl, by decide +kernel, rfl⟩
theorem d_Txt_fitsDeed_1 : decode b_Txt_fitsDeed 1 = .ok (.tableswitch 50 1 3 #[27, 35, 42], 27) := by decide +kernel
theorem d_Txt_fitsDeed_28 : zd_l .iload_n .iload b_Txt_fitsDeed 28 1 29 := Or.inl ⟨1, rfl, by decide +kernel, rfl⟩
theorem d_Txt_fitsDeed_29 : zd_k b_Txt_fitsDeed "SameTuesday$Text" 29 0 30 := Or.inl ⟨0, by decide +kernel, by decide, rfl⟩
theorem d_Txt_fitsDeed_30 : zd_k b_Txt_fitsDeed "SameTuesday$Text" 30 6 32 := Or.inr (Or.inl ⟨6, by decide +kernel, by decide, rfl⟩)
theorem d_Txt_fitsDeed_32 : zd b_Txt_fitsDeed 32 (.invokestatic 49) 3 35 := ⟨by decide +kernel, rfl⟩
theorem d_Txt_fitsDeed_35 : zd b_Txt_fitsDeed 35 .ireturn 1 36 := ⟨by decide +kernel, rfl⟩
theorem d_Txt_fitsDeed_36 : zd_l .iload_n .iload b_Txt_fitsDeed 36 1 37 := Or.inl ⟨1, rfl, by decide +kernel, rfl⟩
theorem d_Txt_fitsDeed_37 : zd_k b_Txt_fitsDeed "SameTuesday$Text" 37 0 38 := Or.inl ⟨0, by decide +kernel, by decide, rfl⟩
theorem d_Txt_fitsDeed_38 : zd_k b_Txt_fitsDeed "SameTuesday$Text" 38 5 39 := Or.inl ⟨5, by decide +kernel, by decide, rfl⟩
theorem d_Txt_fitsDeed_39 : zd b_Txt_fitsDeed 39 (.invokestatic 49) 3 42 := ⟨by decide +kernel, rfl⟩
theorem d_Txt_fitsDeed_42 : zd b_Txt_fitsDeed 42 .ireturn 1 43 := ⟨by decide +kernel, rfl⟩
theorem d_Txt_fitsDeed_43 : zd_l .iload_n .iload b_Txt_fitsDeed 43 1 44 := Or.inl ⟨1, rfl, by decide +kernel, rfl⟩
theorem d_Txt_fitsDeed_44 : zd_k b_Txt_fitsDeed "SameTuesday$Text" 44 0 45 := Or.inl ⟨0, by decide +kernel, by decide, rfl⟩
theorem d_Txt_fitsDeed_45 : zd_k b_Txt_fitsDeed "SameTuesday$Text" 45 6 47 := Or.inr (Or.inl ⟨6, by decide +kernel, by decide, rfl⟩)
theorem d_Txt_fitsDeed_47 : zd b_Txt_fitsDeed 47 (.invokestatic 49) 3 50 := ⟨by decide +kernel, rfl⟩
theorem d_Txt_fitsDeed_50 : zd b_Txt_fitsDeed 50 .ireturn 1 51 := ⟨by decide +kernel, rfl⟩
theorem d_Txt_fitsDeed_51 : zd_l .iload_n .iload b_Txt_fitsDeed 51 1 52 := Or.inl ⟨1, rfl, by decide +kernel, rfl⟩
theorem d_Txt_fitsDeed_52 : zd_k b_Txt_fitsDeed "SameTuesday$Text" 52 1 53 := Or.inl ⟨1, by decide +kernel, by decide, rfl⟩
theorem d_Txt_fitsDeed_53 : zd_k b_Txt_fitsDeed "SameTuesday$Text" 53 9 55 := Or.inr (Or.inl ⟨9, by decide +kernel, by decide, rfl⟩)
theorem d_Txt_fitsDeed_55 : zd b_Txt_fitsDeed 55 (.invokestatic 49) 3 58 := ⟨by decide +kernel, rfl⟩
theorem d_Txt_fitsDeed_58 : zd b_Txt_fitsDeed 58 .ireturn 1 59 := ⟨by decide +kernel, rfl⟩
theorem d_Txt_isDigit_0 : zd_l .iload_n .iload b_Txt_isDigit 0 0 1 := Or.inl ⟨0, rfl, by decide +kernel, rfl⟩
theorem d_Txt_isDigit_1 : zd_k b_Txt_isDigit "SameTuesday$Text" 1 48 3 := Or.inr (Or.inl ⟨48, by decide +kernel, by decide, rfl⟩)
theorem d_Txt_isDigit_3 : zd_l .iload_n .iload b_Txt_isDigit 3 1 4 := Or.inl ⟨1, rfl, by decide +kernel, rfl⟩
theorem d_Txt_isDigit_4 : zd b_Txt_isDigit 4 .iadd 1 5 := ⟨by decide +kernel, rfl⟩
theorem d_Txt_isDigit_5 : zd_b b_Txt_isDigit 5 (.if_icmp .lt) 8 20 := ⟨15, by decide +kernel, by decide, rfl⟩
theorem d_Txt_isDigit_8 : zd_l .iload_n .iload b_Txt_isDigit 8 0 9 := Or.inl ⟨0, rfl, by decide +kernel, rfl⟩
theorem d_Txt_isDigit_9 : zd_k b_Txt_isDigit "SameTuesday$Text" 9 48 11 := Or.inr (Or.inl ⟨48, by decide +kernel, by decide, rfl⟩)
theorem d_Txt_isDigit_11 : zd_l .iload_n .iload b_Txt_isDigit 11 2 12 := Or.inl ⟨2, rfl, by decide +kernel, rfl⟩
theorem d_Txt_isDigit_12 : zd b_Txt_isDigit 12 .iadd 1 13 := ⟨by decide +kernel, rfl⟩
theorem d_Txt_isDigit_13 : zd_b b_Txt_isDigit 13 (.if_icmp .gt) 16 20 := ⟨7, by decide +kernel, by decide, rfl⟩
theorem d_Txt_isDigit_16 : zd_k b_Txt_isDigit "SameTuesday$Text" 16 1 17 := Or.inl ⟨1, by decide +kernel, by decide, rfl⟩
theorem d_Txt_isDigit_17 : zd_b b_Txt_isDigit 17 .goto 20 21 := ⟨4, by decide +kernel, by decide, rfl⟩
theorem d_Txt_isDigit_20 : zd_k b_Txt_isDigit "SameTuesday$Text" 20 0 21 := Or.inl ⟨0, by decide +kernel, by decide, rfl⟩
theorem d_Txt_isDigit_21 : zd b_Txt_isDigit 21 .ireturn 1 22 := ⟨by decide +kernel, rfl⟩
theorem d_Txt_kindOf_0 : zd_l .iload_n .iload b_Txt_kindOf 0 0 1 := Or.inl ⟨0, rfl, by decide +kernel, rfl⟩
theorem d_Txt_kindOf_1 : decode b_Txt_kindOf 1 = .ok (.lookupswitch 41 #[(99, 39), (104, 35), (109, 37)], 35) := by decide +kernel
theorem d_Txt_kindOf_36 : zd_k b_Txt_kindOf "SameTuesday$Text" 36 0 37 := Or.inl ⟨0, by decide +kernel, by decide, rfl⟩
theorem d_Txt_kindOf_37 : zd b_Txt_kindOf 37 .ireturn 1 38 := ⟨by decide +kernel, rfl⟩
theorem d_Txt_kindOf_38 : zd_k b_Txt_kindOf "SameTuesday$Text" 38 1 39 := Or.inl ⟨1, by decide +kernel, by decide, rfl⟩
theorem d_Txt_kindOf_39 : zd b_Txt_kindOf 39 .ireturn 1 40 := ⟨by decide +kernel, rfl⟩
theorem d_Txt_kindOf_40 : zd_k b_Txt_kindOf "SameTuesday$Text" 40 2 41 := Or.inl ⟨2, by decide +kernel, by decide, rfl⟩
theorem d_Txt_kindOf_41 : zd b_Txt_kindOf 41 .ireturn 1 42 := ⟨by decide +kernel, rfl⟩
theorem d_Txt_kindOf_42 : zd_k b_Txt_kindOf "SameTuesday$Text" 42 (-9) 44 := Or.inr (Or.inl ⟨(-9), by decide +kernel, by decide, rfl⟩)
theorem d_Txt_kindOf_44 : zd b_Txt_kindOf 44 .ireturn 1 45 := ⟨by decide +kernel, rfl⟩
theorem d_Txt_codeAt_0 : zd_l .iload_n .iload b_Txt_codeAt 0 1 1 := Or.inl ⟨1, rfl, by decide +kernel, rfl⟩
theorem d_Txt_codeAt_1 : zd_b b_Txt_codeAt 1 (.ifCond .lt) 4 28 := ⟨27, by decide +kernel, by decide, rfl⟩
theorem d_Txt_codeAt_4 : zd_l .iload_n .iload b_Txt_codeAt 4 1 5 := Or.inl ⟨1, rfl, by decide +kernel, rfl⟩
theorem d_Txt_codeAt_5 : zd_l .aload_n .aload b_Txt_codeAt 5 0 6 := Or.inl ⟨0, rfl, by decide +kernel, rfl⟩
theorem d_Txt_codeAt_6 : zd b_Txt_codeAt 6 (.getfield 19) 3 9 := ⟨by decide +kernel, rfl⟩
theorem d_Txt_codeAt_9 : zd_b b_Txt_codeAt 9 (.if_icmp .ge) 12 28 := ⟨19, by decide +kernel, by decide, rfl⟩
theorem d_Txt_codeAt_12 : zd_l .aload_n .aload b_Txt_codeAt 12 0 13 := Or.inl ⟨0, rfl, by decide +kernel, rfl⟩
theorem d_Txt_codeAt_13 : zd b_Txt_codeAt 13 (.getfield 9) 3 16 := ⟨by decide +kernel, rfl⟩
theorem d_Txt_codeAt_16 : zd_l .aload_n .aload b_Txt_codeAt 16 0 17 := Or.inl ⟨0, rfl, by decide +kernel, rfl⟩
theorem d_Txt_codeAt_17 : zd b_Txt_codeAt 17 (.getfield 15) 3 20 := ⟨by decide +kernel, rfl⟩
theorem d_Txt_codeAt_20 : zd_l .iload_n .iload b_Txt_codeAt 20 1 21 := Or.inl ⟨1, rfl, by decide +kernel, rfl⟩
theorem d_Txt_codeAt_21 : zd b_Txt_codeAt 21 .iadd 1 22 := ⟨by decide +kernel, rfl⟩
theorem d_Txt_codeAt_22 : zd b_Txt_codeAt 22 (.invokevirtual 53) 3 25 := ⟨by decide +kernel, rfl⟩
theorem d_Txt_codeAt_25 : zd_b b_Txt_codeAt 25 .goto 28 29 := ⟨4, by decide +kernel, by decide, rfl⟩
theorem d_Txt_codeAt_28 : zd_k b_Txt_codeAt "SameTuesday$Text" 28 (-1) 29 := Or.inl ⟨(-1), by decide +kernel, by decide, rfl⟩
theorem d_Txt_codeAt_29 : zd b_Txt_codeAt 29 .ireturn 1 30 := ⟨by decide +kernel, rfl⟩
theorem d_Txt_digitAt_0 : zd_l .aload_n .aload b_Txt_digitAt 0 0 1 := Or.inl ⟨0, rfl, by decide +kernel, rfl⟩
theorem d_Txt_digitAt_1 : zd_l .iload_n .iload b_Txt_digitAt 1 1 2 := Or.inl ⟨1, rfl, by decide +kernel, rfl⟩
theorem d_Txt_digitAt_2 : zd b_Txt_digitAt 2 (.invokevirtual 31) 3 5 := ⟨by decide +kernel, rfl⟩
theorem d_Txt_digitAt_5 : zd_k b_Txt_digitAt "SameTuesday$Text" 5 48 7 := Or.inr (Or.inl ⟨48, by decide +kernel, by decide, rfl⟩)
theorem d_Txt_digitAt_7 : zd b_Txt_digitAt 7 .isub 1 8 := ⟨by decide +kernel, rfl⟩
theorem d_Txt_digitAt_8 : zd b_Txt_digitAt 8 .ireturn 1 9 := ⟨by decide +kernel, rfl⟩
theorem d_Txt_happeningCount_0 : zd_l .aload_n .aload b_Txt_happeningCount 0 0 1 := Or.inl ⟨0, rfl, by decide +kernel, rfl⟩
theorem d_Txt_happeningCount_1 : zd b_Txt_happeningCount 1 (.getfield 25) 3 4 := ⟨by decide +kernel, rfl⟩
theorem d_Txt_happeningCount_4 : zd b_Txt_happeningCount 4 .ireturn 1 5 := ⟨by decide +kernel, rfl⟩
theorem d_Txt_deedCount_0 : zd_l .aload_n .aload b_Txt_deedCount 0 0 1 := Or.inl ⟨0, rfl, by decide +kernel, rfl⟩
theorem d_Txt_deedCount_1 : zd b_Txt_deedCount 1 (.getfield 28) 3 4 := ⟨by decide +kernel, rfl⟩
theorem d_Txt_deedCount_4 : zd b_Txt_deedCount 4 .ireturn 1 5 := ⟨by decide +kernel, rfl⟩
theorem d_Txt_newHappening_0 : zd_k b_Txt_newHappening "SameTuesday$Text" 0 1 1 := Or.inl ⟨1, by decide +kernel, by decide, rfl⟩
theorem d_Txt_newHappening_1 : zd_k b_Txt_newHappening "SameTuesday$Text" 1 6 3 := Or.inr (Or.inl ⟨6, by decide +kernel, by decide, rfl⟩)
theorem d_Txt_newHappening_3 : zd_l .iload_n .iload b_Txt_newHappening 3 1 4 := Or.inl ⟨1, rfl, by decide +kernel, rfl⟩
theorem d_Txt_newHappening_4 : zd b_Txt_newHappening 4 .imul 1 5 := ⟨by decide +kernel, rfl⟩
theorem d_Txt_newHappening_5 : zd b_Txt_newHappening 5 .iadd 1 6 := ⟨by decide +kernel, rfl⟩
theorem d_Txt_newHappening_6 : zd_l .istore_n .istore b_Txt_newHappening 6 2 7 := Or.inl ⟨2, rfl, by decide +kernel, rfl⟩
theorem d_Txt_newHappening_7 : zd_k b_Txt_newHappening "SameTuesday$Text" 7 10 9 := Or.inr (Or.inl ⟨10, by decide +kernel, by decide, rfl⟩)
theorem d_Txt_newHappening_9 : zd_l .aload_n .aload b_Txt_newHappening 9 0 10 := Or.inl ⟨0, rfl, by decide +kernel, rfl⟩
theorem d_Txt_newHappening_10 : zd_l .iload_n .iload b_Txt_newHappening 10 2 11 := Or.inl ⟨2, rfl, by decide +kernel, rfl⟩
theorem d_Txt_newHappening_11 : zd_k b_Txt_newHappening "SameTuesday$Text" 11 2 12 := Or.inl ⟨2, by decide +kernel, by decide, rfl⟩
theorem d_Txt_newHappening_12 : zd b_Txt_newHappening 12 .iadd 1 13 := ⟨by decide +kernel, rfl⟩
theorem d_Txt_newHappening_13 : zd b_Txt_newHappening 13 (.invokevirtual 58) 3 16 := ⟨by decide +kernel, rfl⟩
theorem d_Txt_newHappening_16 : zd b_Txt_newHappening 16 .imul 1 17 := ⟨by decide +kernel, rfl⟩
theorem d_Txt_newHappening_17 : zd_l .aload_n .aload b_Txt_newHappening 17 0 18 := Or.inl ⟨0, rfl, by decide +kernel, rfl⟩
theorem d_Txt_newHappening_18 : zd_l .iload_n .iload b_Txt_newHappening 18 2 19 := Or.inl ⟨2, rfl, by decide +kernel, rfl⟩
theorem d_Txt_newHappening_19 : zd_k b_Txt_newHappening "SameTuesday$Text" 19 3 20 := Or.inl ⟨3, by decide +kernel, by decide, rfl⟩
theorem d_Txt_newHappening_20 : zd b_Txt_newHappening 20 .iadd 1 21 := ⟨by decide +kernel, rfl⟩
theorem d_Txt_newHappening_21 : zd b_Txt_newHappening 21 (.invokevirtual 58) 3 24 := ⟨by decide +kernel, rfl⟩
theorem d_Txt_newHappening_24 : zd b_Txt_newHappening 24 .iadd 1 25 := ⟨by decide +kernel, rfl⟩
theorem d_Txt_newHappening_25 : zd_l .istore_n .istore b_Txt_newHappening 25 3 26 := Or.inl ⟨3, rfl, by decide +kernel, rfl⟩
theorem d_Txt_newHappening_26 : zd_l .aload_n .aload b_Txt_newHappening 26 0 27 := Or.inl ⟨0, rfl, by decide +kernel, rfl⟩
theorem d_Txt_newHappening_27 : zd_l .iload_n .iload b_Txt_newHappening 27 2 28 := Or.inl ⟨2, rfl, by decide +kernel, rfl⟩
theorem d_Txt_newHappening_28 : zd_k b_Txt_newHappening "SameTuesday$Text" 28 4 29 := Or.inl ⟨4, by decide +kernel, by decide, rfl⟩
theorem d_Txt_newHappening_29 : zd b_Txt_newHappening 29 .iadd 1 30 := ⟨by decide +kernel, rfl⟩
theorem d_Txt_newHappening_30 : zd b_Txt_newHappening 30 (.invokevirtual 58) 3 33 := ⟨by decide +kernel, rfl⟩
theorem d_Txt_newHappening_33 : zd_l .istore_n .istore b_Txt_newHappening 33 4 35 := Or.inr ⟨by decide +kernel, rfl⟩
theorem d_Txt_newHappening_35 : zd_l .aload_n .aload b_Txt_newHappening 35 0 36 := Or.inl ⟨0, rfl, by decide +kernel, rfl⟩
theorem d_Txt_newHappening_36 : zd_l .iload_n .iload b_Txt_newHappening 36 2 37 := Or.inl ⟨2, rfl, by decide +kernel, rfl⟩
theorem d_Txt_newHappening_37 : zd_k b_Txt_newHappening "SameTuesday$Text" 37 5 38 := Or.inl ⟨5, by decide +kernel, by decide, rfl⟩
theorem d_Txt_newHappening_38 : zd b_Txt_newHappening 38 .iadd 1 39 := ⟨by decide +kernel, rfl⟩
theorem d_Txt_newHappening_39 : zd b_Txt_newHappening 39 (.invokevirtual 58) 3 42 := ⟨by decide +kernel, rfl⟩
theorem d_Txt_newHappening_42 : zd_l .istore_n .istore b_Txt_newHappening 42 5 44 := Or.inr ⟨by decide +kernel, rfl⟩
theorem d_Txt_newHappening_44 : zd_l .aload_n .aload b_Txt_newHappening 44 0 45 := Or.inl ⟨0, rfl, by decide +kernel, rfl⟩
theorem d_Txt_newHappening_45 : zd_l .iload_n .iload b_Txt_newHappening 45 2 46 := Or.inl ⟨2, rfl, by decide +kernel, rfl⟩
theorem d_Txt_newHappening_46 : zd_k b_Txt_newHappening "SameTuesday$Text" 46 1 47 := Or.inl ⟨1, by decide +kernel, by decide, rfl⟩
theorem d_Txt_newHappening_47 : zd b_Txt_newHappening 47 .iadd 1 48 := ⟨by decide +kernel, rfl⟩
theorem d_Txt_newHappening_48 : zd b_Txt_newHappening 48 (.invokevirtual 31) 3 51 := ⟨by decide +kernel, rfl⟩
theorem d_Txt_newHappening_51 : zd b_Txt_newHappening 51 (.invokestatic 46) 3 54 := ⟨by decide +kernel, rfl⟩
theorem d_Txt_newHappening_54 : decode b_Txt_newHappening 54 = .ok (.lookupswitch 54 #[(1, 26), (2, 40)], 26) := by decide +kernel
theorem d_Txt_newHappening_80 : zd b_Txt_newHappening 80 (.new 61) 3 83 := ⟨by decide +kernel, rfl⟩
theorem d_Txt_newHappening_83 : zd b_Txt_newHappening 83 .dup 1 84 := ⟨by decide +kernel, rfl⟩
theorem d_Txt_newHappening_84 : zd_l .iload_n .iload b_Txt_newHappening 84 1 85 := Or.inl ⟨1, rfl, by decide +kernel, rfl⟩
theorem d_Txt_newHappening_85 : zd_l .iload_n .iload b_Txt_newHappening 85 3 86 := Or.inl ⟨3, rfl, by decide +kernel, rfl⟩
theorem d_Txt_newHappening_86 : zd_l .iload_n .iload b_Txt_newHappening 86 4 88 := Or.inr ⟨by decide +kernel, rfl⟩
theorem d_Txt_newHappening_88 : zd_l .iload_n .iload b_Txt_newHappening 88 5 90 := Or.inr ⟨by decide +kernel, rfl⟩
theorem d_Txt_newHappening_90 : zd b_Txt_newHappening 90 (.invokespecial 63) 3 93 := ⟨by decide +kernel, rfl⟩
theorem d_Txt_newHappening_93 : zd b_Txt_newHappening 93 .areturn 1 94 := ⟨by decide +kernel, rfl⟩
theorem d_Txt_newHappening_94 : zd b_Txt_newHappening 94 (.new 66) 3 97 := ⟨by decide +kernel, rfl⟩
theorem d_Txt_newHappening_97 : zd b_Txt_newHappening 97 .dup 1 98 := ⟨by decide +kernel, rfl⟩
theorem d_Txt_newHappening_98 : zd_l .iload_n .iload b_Txt_newHappening 98 1 99 := Or.inl ⟨1, rfl, by decide +kernel, rfl⟩
theorem d_Txt_newHappening_99 : zd_l .iload_n .iload b_Txt_newHappening 99 3 100 := Or.inl ⟨3, rfl, by decide +kernel, rfl⟩
theorem d_Txt_newHappening_100 : zd_l .iload_n .iload b_Txt_newHappening 100 4 102 := Or.inr ⟨by decide +kernel, rfl⟩
theorem d_Txt_newHappening_102 : zd_l .iload_n .iload b_Txt_newHappening 102 5 104 := Or.inr ⟨by decide +kernel, rfl⟩
theorem d_Txt_newHappening_104 : zd b_Txt_newHappening 104 (.invokespecial 68) 3 107 := ⟨by decide +kernel, rfl⟩
theorem d_Txt_newHappening_107 : zd b_Txt_newHappening 107 .areturn 1 108 := ⟨by decide +kernel, rfl⟩
theorem d_Txt_newHappening_108 : zd b_Txt_newHappening 108 (.new 69) 3 111 := ⟨by decide +kernel, rfl⟩
theorem d_Txt_newHappening_111 : zd b_Txt_newHappening 111 .dup 1 112 := ⟨by decide +kernel, rfl⟩
theorem d_Txt_newHappening_112 : zd_l .iload_n .iload b_Txt_newHappening 112 1 113 := Or.inl ⟨1, rfl, by decide +kernel, rfl⟩
theorem d_Txt_newHappening_113 : zd_l .iload_n .iload b_Txt_newHappening 113 3 114 := Or.inl ⟨3, rfl, by decide +kernel, rfl⟩
theorem d_Txt_newHappening_114 : zd_l .iload_n .iload b_Txt_newHappening 114 4 116 := Or.inr ⟨by decide +kernel, rfl⟩
theorem d_Txt_newHappening_116 : zd_l .iload_n .iload b_Txt_newHappening 116 5 118 := Or.inr ⟨by decide +kernel, rfl⟩
theorem d_Txt_newHappening_118 : zd b_Txt_newHappening 118 (.invokespecial 71) 3 121 := ⟨by decide +kernel, rfl⟩
theorem d_Txt_newHappening_121 : zd b_Txt_newHappening 121 .areturn 1 122 := ⟨by decide +kernel, rfl⟩
theorem d_Txt_newDeed_0 : zd_k b_Txt_newDeed "SameTuesday$Text" 0 1 1 := Or.inl ⟨1, by decide +kernel, by decide, rfl⟩
theorem d_Txt_newDeed_1 : zd_k b_Txt_newDeed "SameTuesday$Text" 1 6 3 := Or.inr (Or.inl ⟨6, by decide +kernel, by decide, rfl⟩)
theorem d_Txt_newDeed_3 : zd_l .aload_n .aload b_Txt_newDeed 3 0 4 := Or.inl ⟨0, rfl, by decide +kernel, rfl⟩
theorem d_Txt_newDeed_4 : zd b_Txt_newDeed 4 (.getfield 25) 3 7 := ⟨by decide +kernel, rfl⟩
theorem d_Txt_newDeed_7 : zd b_Txt_newDeed 7 .imul 1 8 := ⟨by decide +kernel, rfl⟩
theorem d_Txt_newDeed_8 : zd b_Txt_newDeed 8 .iadd 1 9 := ⟨by decide +kernel, rfl⟩
theorem d_Txt_newDeed_9 : zd_k b_Txt_newDeed "SameTuesday$Text" 9 5 10 := Or.inl ⟨5, by decide +kernel, by decide, rfl⟩
theorem d_Txt_newDeed_10 : zd_l .iload_n .iload b_Txt_newDeed 10 1 11 := Or.inl ⟨1, rfl, by decide +kernel, rfl⟩
theorem d_Txt_newDeed_11 : zd b_Txt_newDeed 11 .imul 1 12 := ⟨by decide +kernel, rfl⟩
theorem d_Txt_newDeed_12 : zd b_Txt_newDeed 12 .iadd 1 13 := ⟨by decide +kernel, rfl⟩
theorem d_Txt_newDeed_13 : zd_l .istore_n .istore b_Txt_newDeed 13 2 14 := Or.inl ⟨2, rfl, by decide +kernel, rfl⟩
theorem d_Txt_newDeed_14 : zd b_Txt_newDeed 14 (.new 72) 3 17 := ⟨by decide +kernel, rfl⟩
theorem d_Txt_newDeed_17 : zd b_Txt_newDeed 17 .dup 1 18 := ⟨by decide +kernel, rfl⟩
theorem d_Txt_newDeed_18 : zd_l .aload_n .aload b_Txt_newDeed 18 0 19 := Or.inl ⟨0, rfl, by decide +kernel, rfl⟩
theorem d_Txt_newDeed_19 : zd_l .iload_n .iload b_Txt_newDeed 19 2 20 := Or.inl ⟨2, rfl, by decide +kernel, rfl⟩
theorem d_Txt_newDeed_20 : zd_k b_Txt_newDeed "SameTuesday$Text" 20 1 21 := Or.inl ⟨1, by decide +kernel, by decide, rfl⟩
theorem d_Txt_newDeed_21 : zd b_Txt_newDeed 21 .iadd 1 22 := ⟨by decide +kernel, rfl⟩
theorem d_Txt_newDeed_22 : zd b_Txt_newDeed 22 (.invokevirtual 58) 3 25 := ⟨by decide +kernel, rfl⟩
theorem d_Txt_newDeed_25 : zd_l .aload_n .aload b_Txt_newDeed 25 0 26 := Or.inl ⟨0, rfl, by decide +kernel, rfl⟩
theorem d_Txt_newDeed_26 : zd_l .iload_n .iload b_Txt_newDeed 26 2 27 := Or.inl ⟨2, rfl, by decide +kernel, rfl⟩
theorem d_Txt_newDeed_27 : zd_k b_Txt_newDeed "SameTuesday$Text" 27 2 28 := Or.inl ⟨2, by decide +kernel, by decide, rfl⟩
theorem d_Txt_newDeed_28 : zd b_Txt_newDeed 28 .iadd 1 29 := ⟨by decide +kernel, rfl⟩
theorem d_Txt_newDeed_29 : zd b_Txt_newDeed 29 (.invokevirtual 58) 3 32 := ⟨by decide +kernel, rfl⟩
theorem d_Txt_newDeed_32 : zd_l .aload_n .aload b_Txt_newDeed 32 0 33 := Or.inl ⟨0, rfl, by decide +kernel, rfl⟩
theorem d_Txt_newDeed_33 : zd_l .iload_n .iload b_Txt_newDeed 33 2 34 := Or.inl ⟨2, rfl, by decide +kernel, rfl⟩
theorem d_Txt_newDeed_34 : zd_k b_Txt_newDeed "SameTuesday$Text" 34 3 35 := Or.inl ⟨3, by decide +kernel, by decide, rfl⟩
theorem d_Txt_newDeed_35 : zd b_Txt_newDeed 35 .iadd 1 36 := ⟨by decide +kernel, rfl⟩
theorem d_Txt_newDeed_36 : zd b_Txt_newDeed 36 (.invokevirtual 58) 3 39 := ⟨by decide +kernel, rfl⟩
theorem d_Txt_newDeed_39 : zd_l .aload_n .aload b_Txt_newDeed 39 0 40 := Or.inl ⟨0, rfl, by decide +kernel, rfl⟩
theorem d_Txt_newDeed_40 : zd_l .iload_n .iload b_Txt_newDeed 40 2 41 := Or.inl ⟨2, rfl, by decide +kernel, rfl⟩
theorem d_Txt_newDeed_41 : zd_k b_Txt_newDeed "SameTuesday$Text" 41 4 42 := Or.inl ⟨4, by decide +kernel, by decide, rfl⟩
theorem d_Txt_newDeed_42 : zd b_Txt_newDeed 42 .iadd 1 43 := ⟨by decide +kernel, rfl⟩
theorem d_Txt_newDeed_43 : zd b_Txt_newDeed 43 (.invokevirtual 58) 3 46 := ⟨by decide +kernel, rfl⟩
theorem d_Txt_newDeed_46 : zd b_Txt_newDeed 46 (.invokespecial 74) 3 49 := ⟨by decide +kernel, rfl⟩
theorem d_Txt_newDeed_49 : zd b_Txt_newDeed 49 .areturn 1 50 := ⟨by decide +kernel, rfl⟩
set_option maxRecDepth 20000 in
theorem f_Twn_11_9 : zb_FL "SameTuesday$Town" 11 9 0 := ⟨"SameTuesday$Town", zF_Twn, 6, "SameTuesday$Town", rfl, by decide, zi_Twn, zb_mem 103 rfl rfl, Or.inl rfl⟩
set_option maxRecDepth 20000 in
theorem p_Twn_11_9 : zb_PF "SameTuesday$Town" 11 9 0 (.array (.object "SameTuesday$Happening")) := ⟨"SameTuesday$Town", zF_Twn, 6, "SameTuesday$Town", zt_Twn, rfl, by decide, zi_Twn, zb_mem 103 rfl rfl, Or.inl rfl, zk_Twn, zn_Twn, rfl, rfl, rfl⟩
set_option maxRecDepth 20000 in
theorem f_Twn_19_9 : zb_FL "SameTuesday$Town" 19 9 1 := ⟨"SameTuesday$Town", zF_Twn, 6, "SameTuesday$Town", rfl, by decide, zi_Twn, zb_mem 104 rfl rfl, Or.inl rfl⟩
set_option maxRecDepth 20000 in
theorem p_Twn_19_9 : zb_PF "SameTuesday$Town" 19 9 1 (.array (.object "SameTuesday$Deed")) := ⟨"SameTuesday$Town", zF_Twn, 6, "SameTuesday$Town", zt_Twn, rfl, by decide, zi_Twn, zb_mem 104 rfl rfl, Or.inl rfl, zk_Twn, zn_Twn, rfl, rfl, rfl⟩
set_option maxRecDepth 20000 in
theorem f_Twn_23_9 : zb_FL "SameTuesday$Town" 23 9 2 := ⟨"SameTuesday$Town", zF_Twn, 6, "SameTuesday$Town", rfl, by decide, zi_Twn, zb_mem 105 rfl rfl, Or.inl rfl⟩
set_option maxRecDepth 20000 in
theorem p_Twn_23_9 : zb_PL "SameTuesday$Town" 23 9 2 .int := ⟨"SameTuesday$Town", zF_Twn, 6, "SameTuesday$Town", zt_Twn, rfl, by decide, zi_Twn, zb_mem 105 rfl rfl, Or.inl rfl, zk_Twn, zn_Twn, rfl, rfl⟩
set_option maxRecDepth 20000 in
theorem f_Twn_27_9 : zb_FL "SameTuesday$Town" 27 9 3 := ⟨"SameTuesday$Town", zF_Twn, 6, "SameTuesday$Town", rfl, by decide, zi_Twn, zb_mem 106 rfl rfl, Or.inl rfl⟩
set_option maxRecDepth 20000 in
theorem p_Twn_27_9 : zb_PL "SameTuesday$Town" 27 9 3 .int := ⟨"SameTuesday$Town", zF_Twn, 6, "SameTuesday$Town", zt_Twn, rfl, by decide, zi_Twn, zb_mem 106 rfl rfl, Or.inl rfl, zk_Twn, zn_Twn, rfl, rfl⟩
set_option maxRecDepth 20000 in
theorem f_Twn_30_9 : zb_FL "SameTuesday$Town" 30 9 4 := ⟨"SameTuesday$Town", zF_Twn, 6, "SameTuesday$Town", rfl, by decide, zi_Twn, zb_mem 107 rfl rfl, Or.inl rfl⟩
set_option maxRecDepth 20000 in
theorem p_Twn_30_9 : zb_PL "SameTuesday$Town" 30 9 4 .int := ⟨"SameTuesday$Town", zF_Twn, 6, "SameTuesday$Town", zt_Twn, rfl, by decide, zi_Twn, zb_mem 107 rfl rfl, Or.inl rfl, zk_Twn, zn_Twn, rfl, rfl⟩
set_option maxRecDepth 20000 in
theorem f_Twn_33_9 : zb_FL "SameTuesday$Town" 33 9 5 := ⟨"SameTuesday$Town", zF_Twn, 6, "SameTuesday$Town", rfl, by decide, zi_Twn, zb_mem 108 rfl rfl, Or.inl rfl⟩
set_option maxRecDepth 20000 in
theorem p_Twn_33_9 : zb_PL "SameTuesday$Town" 33 9 5 .long := ⟨"SameTuesday$Town", zF_Twn, 6, "SameTuesday$Town", zt_Twn, rfl, by decide, zi_Twn, zb_mem 108 rfl rfl, Or.inl rfl, zk_Twn, zn_Twn, rfl, rfl⟩
set_option maxRecDepth 20000 in
theorem f_Twn_64_2 : zb_FL "SameTuesday$Town" 64 2 5 := ⟨"SameTuesday$Happening", zF_Hap, 6, "SameTuesday$Happening", rfl, by decide, zi_Hap, zb_mem 371 rfl rfl, Or.inl rfl⟩
set_option maxRecDepth 20000 in
theorem p_Twn_64_2 : zb_PL "SameTuesday$Town" 64 2 5 .int := ⟨"SameTuesday$Happening", zF_Hap, 6, "SameTuesday$Happening", zt_Hap, rfl, by decide, zi_Hap, zb_mem 371 rfl rfl, Or.inl rfl, zk_Hap, zn_Hap, rfl, rfl⟩
set_option maxRecDepth 20000 in
theorem f_Twn_64_5 : zb_FL "SameTuesday$Town" 64 5 5 := ⟨"SameTuesday$Mishap", zF_Mis, 6, "SameTuesday$Happening", rfl, by decide, zi_Mis, zb_mem 371 rfl rfl, Or.inl rfl⟩
set_option maxRecDepth 20000 in
theorem p_Twn_64_5 : zb_PL "SameTuesday$Town" 64 5 5 .int := ⟨"SameTuesday$Mishap", zF_Mis, 6, "SameTuesday$Happening", zt_Mis, rfl, by decide, zi_Mis, zb_mem 371 rfl rfl, Or.inl rfl, zk_Mis, zn_Mis, rfl, rfl⟩
set_option maxRecDepth 20000 in
theorem f_Twn_64_0 : zb_FL "SameTuesday$Town" 64 0 5 := ⟨"SameTuesday$Caprice", zF_Cap, 6, "SameTuesday$Happening", rfl, by decide, zi_Cap, zb_mem 371 rfl rfl, Or.inl rfl⟩
set_option maxRecDepth 20000 in
theorem p_Twn_64_0 : zb_PL "SameTuesday$Town" 64 0 5 .int := ⟨"SameTuesday$Caprice", zF_Cap, 6, "SameTuesday$Happening", zt_Cap, rfl, by decide, zi_Cap, zb_mem 371 rfl rfl, Or.inl rfl, zk_Cap, zn_Cap, rfl, rfl⟩
set_option maxRecDepth 20000 in
theorem f_Twn_71_1 : zb_FL "SameTuesday$Town" 71 1 3 := ⟨"SameTuesday$Deed", zF_Deed, 5, "SameTuesday$Deed", rfl, by decide, zi_Deed, zb_mem 434 rfl rfl, Or.inl rfl⟩
set_option maxRecDepth 20000 in
theorem f_Twn_74_1 : zb_FL "SameTuesday$Town" 74 1 4 := ⟨"SameTuesday$Deed", zF_Deed, 5, "SameTuesday$Deed", rfl, by decide, zi_Deed, zb_mem 436 rfl rfl, Or.inl rfl⟩
set_option maxRecDepth 20000 in
theorem l_Twn_37 : zl_V "SameTuesday$Town" 37 y_Txt_happeningCount b_Txt_happeningCount 1 (some .int) 0 := ⟨⟨zb_mem 321 rfl rfl, zb_mem 58 rfl rfl, zb_mem 324 rfl rfl, by decide, by decide +kernel⟩, zb_mem 322 rfl rfl, zb_mem 323 rfl rfl⟩
set_option maxRecDepth 20000 in
theorem l_Twn_48 : zl_V "SameTuesday$Town" 48 y_Txt_newHappening b_Txt_newHappening 6 (some (.object "SameTuesday$Happening")) 1 := ⟨⟨zb_mem 328 rfl rfl, zb_mem 58 rfl rfl, zb_mem 331 rfl rfl, by decide, by decide +kernel⟩, zb_mem 329 rfl rfl, zb_mem 330 rfl rfl⟩
set_option maxRecDepth 20000 in
theorem l_Twn_52 : zl_V "SameTuesday$Town" 52 y_Txt_deedCount b_Txt_deedCount 1 (some .int) 0 := ⟨⟨zb_mem 409 rfl rfl, zb_mem 58 rfl rfl, zb_mem 412 rfl rfl, by decide, by decide +kernel⟩, zb_mem 410 rfl rfl, zb_mem 411 rfl rfl⟩
set_option maxRecDepth 20000 in
theorem l_Twn_54 : zl_V "SameTuesday$Town" 54 y_Txt_newDeed b_Txt_newDeed 3 (some (.object "SameTuesday$Deed")) 1 := ⟨⟨zb_mem 413 rfl rfl, zb_mem 58 rfl rfl, zb_mem 416 rfl rfl, by decide, by decide +kernel⟩, zb_mem 414 rfl rfl, zb_mem 415 rfl rfl⟩
set_option maxRecDepth 20000 in
theorem l_Twn_58 : zl_V "SameTuesday$Town" 58 y_Twn_noteEvents b_Twn_noteEvents 3 none 0 := ⟨⟨zb_mem 448 rfl rfl, zb_mem 52 rfl rfl, zb_mem 451 rfl rfl, by decide, by decide +kernel⟩, zb_mem 450 rfl rfl, zb_mem 6 rfl rfl⟩
set_option maxRecDepth 20000 in
theorem l_Twn_61 : zl_V "SameTuesday$Town" 61 y_Twn_happeningOf b_Twn_happeningOf 2 (some (.object "SameTuesday$Happening")) 1 := ⟨⟨zb_mem 452 rfl rfl, zb_mem 52 rfl rfl, zb_mem 455 rfl rfl, by decide, by decide +kernel⟩, zb_mem 453 rfl rfl, zb_mem 454 rfl rfl⟩
theorem d_Twn_init_0 : zd_l .aload_n .aload b_Twn_init 0 0 1 := Or.inl ⟨0, rfl, by decide +kernel, rfl⟩
theorem d_Twn_init_1 : zd b_Twn_init 1 (.invokespecial 3) 3 4 := ⟨by decide +kernel, rfl⟩
theorem d_Twn_init_4 : zd_l .aload_n .aload b_Twn_init 4 0 5 := Or.inl ⟨0, rfl, by decide +kernel, rfl⟩
theorem d_Twn_init_5 : zd_k b_Twn_init "SameTuesday$Town" 5 6 7 := Or.inr (Or.inl ⟨6, by decide +kernel, by decide, rfl⟩)
theorem d_Twn_init_7 : zd b_Twn_init 7 (.anewarray 9) 3 10 := ⟨by decide +kernel, rfl⟩
theorem d_Twn_init_10 : zd b_Twn_init 10 (.putfield 11) 3 13 := ⟨by decide +kernel, rfl⟩
theorem d_Twn_init_13 : zd_l .aload_n .aload b_Twn_init 13 0 14 := Or.inl ⟨0, rfl, by decide +kernel, rfl⟩
theorem d_Twn_init_14 : zd_k b_Twn_init "SameTuesday$Town" 14 5 15 := Or.inl ⟨5, by decide +kernel, by decide, rfl⟩
theorem d_Twn_init_15 : zd b_Twn_init 15 (.anewarray 17) 3 18 := ⟨by decide +kernel, rfl⟩
theorem d_Twn_init_18 : zd b_Twn_init 18 (.putfield 19) 3 21 := ⟨by decide +kernel, rfl⟩
theorem d_Twn_init_21 : zd_l .aload_n .aload b_Twn_init 21 0 22 := Or.inl ⟨0, rfl, by decide +kernel, rfl⟩
theorem d_Twn_init_22 : zd_k b_Twn_init "SameTuesday$Town" 22 0 23 := Or.inl ⟨0, by decide +kernel, by decide, rfl⟩
theorem d_Twn_init_23 : zd b_Twn_init 23 (.putfield 23) 3 26 := ⟨by decide +kernel, rfl⟩
theorem d_Twn_init_26 : zd_l .aload_n .aload b_Twn_init 26 0 27 := Or.inl ⟨0, rfl, by decide +kernel, rfl⟩
theorem d_Twn_init_27 : zd_k b_Twn_init "SameTuesday$Town" 27 0 28 := Or.inl ⟨0, by decide +kernel, by decide, rfl⟩
theorem d_Twn_init_28 : zd b_Twn_init 28 (.putfield 27) 3 31 := ⟨by decide +kernel, rfl⟩
theorem d_Twn_init_31 : zd_l .aload_n .aload b_Twn_init 31 0 32 := Or.inl ⟨0, rfl, by decide +kernel, rfl⟩
theorem d_Twn_init_32 : zd_k b_Twn_init "SameTuesday$Town" 32 0 33 := Or.inl ⟨0, by decide +kernel, by decide, rfl⟩
theorem d_Twn_init_33 : zd b_Twn_init 33 (.putfield 30) 3 36 := ⟨by decide +kernel, rfl⟩
theorem d_Twn_init_36 : zd_l .aload_n .aload b_Twn_init 36 0 37 := Or.inl ⟨0, rfl, by decide +kernel, rfl⟩
theorem d_Twn_init_37 : zd_kl b_Twn_init "SameTuesday$Town" 37 0 38 := Or.inl ⟨0, by decide +kernel, by decide, rfl⟩
theorem d_Twn_init_38 : zd b_Twn_init 38 (.putfield 33) 3 41 := ⟨by decide +kernel, rfl⟩
theorem d_Twn_init_41 : zd b_Twn_init 41 .return_ 1 42 := ⟨by decide +kernel, rfl⟩
theorem d_Twn_retell_0 : zd_l .aload_n .aload b_Twn_retell 0 0 1 := Or.inl ⟨0, rfl, by decide +kernel, rfl⟩
theorem d_Twn_retell_1 : zd_l .aload_n .aload b_Twn_retell 1 1 2 := Or.inl ⟨1, rfl, by decide +kernel, rfl⟩
theorem d_Twn_retell_2 : zd b_Twn_retell 2 (.invokevirtual 37) 3 5 := ⟨by decide +kernel, rfl⟩
theorem d_Twn_retell_5 : zd_l .aload_n .aload b_Twn_retell 5 0 6 := Or.inl ⟨0, rfl, by decide +kernel, rfl⟩
theorem d_Twn_retell_6 : zd b_Twn_retell 6 (.getfield 11) 3 9 := ⟨by decide +kernel, rfl⟩
theorem d_Twn_retell_9 : zd b_Twn_retell 9 .arraylength 1 10 := ⟨by decide +kernel, rfl⟩
theorem d_Twn_retell_10 : zd b_Twn_retell 10 (.invokestatic 42) 3 13 := ⟨by decide +kernel, rfl⟩
theorem d_Twn_retell_13 : zd b_Twn_retell 13 (.putfield 23) 3 16 := ⟨by decide +kernel, rfl⟩
theorem d_Twn_retell_16 : zd_k b_Twn_retell "SameTuesday$Town" 16 0 17 := Or.inl ⟨0, by decide +kernel, by decide, rfl⟩
theorem d_Twn_retell_17 : zd_l .istore_n .istore b_Twn_retell 17 2 18 := Or.inl ⟨2, rfl, by decide +kernel, rfl⟩
theorem d_Twn_retell_18 : zd_l .iload_n .iload b_Twn_retell 18 2 19 := Or.inl ⟨2, rfl, by decide +kernel, rfl⟩
theorem d_Twn_retell_19 : zd_l .aload_n .aload b_Twn_retell 19 0 20 := Or.inl ⟨0, rfl, by decide +kernel, rfl⟩
theorem d_Twn_retell_20 : zd b_Twn_retell 20 (.getfield 23) 3 23 := ⟨by decide +kernel, rfl⟩
theorem d_Twn_retell_23 : zd_b b_Twn_retell 23 (.if_icmp .ge) 26 43 := ⟨20, by decide +kernel, by decide, rfl⟩
theorem d_Twn_retell_26 : zd_l .aload_n .aload b_Twn_retell 26 0 27 := Or.inl ⟨0, rfl, by decide +kernel, rfl⟩
theorem d_Twn_retell_27 : zd b_Twn_retell 27 (.getfield 11) 3 30 := ⟨by decide +kernel, rfl⟩
theorem d_Twn_retell_30 : zd_l .iload_n .iload b_Twn_retell 30 2 31 := Or.inl ⟨2, rfl, by decide +kernel, rfl⟩
theorem d_Twn_retell_31 : zd_l .aload_n .aload b_Twn_retell 31 1 32 := Or.inl ⟨1, rfl, by decide +kernel, rfl⟩
theorem d_Twn_retell_32 : zd_l .iload_n .iload b_Twn_retell 32 2 33 := Or.inl ⟨2, rfl, by decide +kernel, rfl⟩
theorem d_Twn_retell_33 : zd b_Twn_retell 33 (.invokevirtual 48) 3 36 := ⟨by decide +kernel, rfl⟩
theorem d_Twn_retell_36 : zd b_Twn_retell 36 .aastore 1 37 := ⟨by decide +kernel, rfl⟩
theorem d_Twn_retell_37 : zd_i b_Twn_retell 37 2 1 1 40 := ⟨by decide +kernel, by decide, rfl⟩
theorem d_Twn_retell_40 : zd_b b_Twn_retell 40 .goto 43 18 := ⟨(-22), by decide +kernel, by decide, rfl⟩
theorem d_Twn_retell_43 : zd_l .aload_n .aload b_Twn_retell 43 0 44 := Or.inl ⟨0, rfl, by decide +kernel, rfl⟩
theorem d_Twn_retell_44 : zd_l .aload_n .aload b_Twn_retell 44 1 45 := Or.inl ⟨1, rfl, by decide +kernel, rfl⟩
theorem d_Twn_retell_45 : zd b_Twn_retell 45 (.invokevirtual 52) 3 48 := ⟨by decide +kernel, rfl⟩
theorem d_Twn_retell_48 : zd_l .aload_n .aload b_Twn_retell 48 0 49 := Or.inl ⟨0, rfl, by decide +kernel, rfl⟩
theorem d_Twn_retell_49 : zd b_Twn_retell 49 (.getfield 19) 3 52 := ⟨by decide +kernel, rfl⟩
theorem d_Twn_retell_52 : zd b_Twn_retell 52 .arraylength 1 53 := ⟨by decide +kernel, rfl⟩
theorem d_Twn_retell_53 : zd b_Twn_retell 53 (.invokestatic 42) 3 56 := ⟨by decide +kernel, rfl⟩
theorem d_Twn_retell_56 : zd b_Twn_retell 56 (.putfield 27) 3 59 := ⟨by decide +kernel, rfl⟩
theorem d_Twn_retell_59 : zd_k b_Twn_retell "SameTuesday$Town" 59 0 60 := Or.inl ⟨0, by decide +kernel, by decide, rfl⟩
theorem d_Twn_retell_60 : zd_l .istore_n .istore b_Twn_retell 60 2 61 := Or.inl ⟨2, rfl, by decide +kernel, rfl⟩
theorem d_Twn_retell_61 : zd_l .iload_n .iload b_Twn_retell 61 2 62 := Or.inl ⟨2, rfl, by decide +kernel, rfl⟩
theorem d_Twn_retell_62 : zd_l .aload_n .aload b_Twn_retell 62 0 63 := Or.inl ⟨0, rfl, by decide +kernel, rfl⟩
theorem d_Twn_retell_63 : zd b_Twn_retell 63 (.getfield 27) 3 66 := ⟨by decide +kernel, rfl⟩
theorem d_Twn_retell_66 : zd_b b_Twn_retell 66 (.if_icmp .ge) 69 86 := ⟨20, by decide +kernel, by decide, rfl⟩
theorem d_Twn_retell_69 : zd_l .aload_n .aload b_Twn_retell 69 0 70 := Or.inl ⟨0, rfl, by decide +kernel, rfl⟩
theorem d_Twn_retell_70 : zd b_Twn_retell 70 (.getfield 19) 3 73 := ⟨by decide +kernel, rfl⟩
theorem d_Twn_retell_73 : zd_l .iload_n .iload b_Twn_retell 73 2 74 := Or.inl ⟨2, rfl, by decide +kernel, rfl⟩
theorem d_Twn_retell_74 : zd_l .aload_n .aload b_Twn_retell 74 1 75 := Or.inl ⟨1, rfl, by decide +kernel, rfl⟩
theorem d_Twn_retell_75 : zd_l .iload_n .iload b_Twn_retell 75 2 76 := Or.inl ⟨2, rfl, by decide +kernel, rfl⟩
theorem d_Twn_retell_76 : zd b_Twn_retell 76 (.invokevirtual 54) 3 79 := ⟨by decide +kernel, rfl⟩
theorem d_Twn_retell_79 : zd b_Twn_retell 79 .aastore 1 80 := ⟨by decide +kernel, rfl⟩
theorem d_Twn_retell_80 : zd_i b_Twn_retell 80 2 1 1 83 := ⟨by decide +kernel, by decide, rfl⟩
theorem d_Twn_retell_83 : zd_b b_Twn_retell 83 .goto 86 61 := ⟨(-22), by decide +kernel, by decide, rfl⟩
theorem d_Twn_retell_86 : zd_l .aload_n .aload b_Twn_retell 86 0 87 := Or.inl ⟨0, rfl, by decide +kernel, rfl⟩
theorem d_Twn_retell_87 : zd_k b_Twn_retell "SameTuesday$Town" 87 60 89 := Or.inr (Or.inl ⟨60, by decide +kernel, by decide, rfl⟩)
theorem d_Twn_retell_89 : zd b_Twn_retell 89 (.putfield 30) 3 92 := ⟨by decide +kernel, rfl⟩
theorem d_Twn_retell_92 : zd_l .aload_n .aload b_Twn_retell 92 0 93 := Or.inl ⟨0, rfl, by decide +kernel, rfl⟩
theorem d_Twn_retell_93 : zd b_Twn_retell 93 (.invokevirtual 58) 3 96 := ⟨by decide +kernel, rfl⟩
theorem d_Twn_retell_96 : zd b_Twn_retell 96 .return_ 1 97 := ⟨by decide +kernel, rfl⟩
theorem d_Twn_noteEvents_0 : zd_l .aload_n .aload b_Twn_noteEvents 0 0 1 := Or.inl ⟨0, rfl, by decide +kernel, rfl⟩
theorem d_Twn_noteEvents_1 : zd_kl b_Twn_noteEvents "SameTuesday$Town" 1 0 2 := Or.inl ⟨0, by decide +kernel, by decide, rfl⟩
theorem d_Twn_noteEvents_2 : zd b_Twn_noteEvents 2 (.putfield 33) 3 5 := ⟨by decide +kernel, rfl⟩
theorem d_Twn_noteEvents_5 : zd_k b_Twn_noteEvents "SameTuesday$Town" 5 0 6 := Or.inl ⟨0, by decide +kernel, by decide, rfl⟩
theorem d_Twn_noteEvents_6 : zd_l .istore_n .istore b_Twn_noteEvents 6 1 7 := Or.inl ⟨1, rfl, by decide +kernel, rfl⟩
theorem d_Twn_noteEvents_7 : zd_l .iload_n .iload b_Twn_noteEvents 7 1 8 := Or.inl ⟨1, rfl, by decide +kernel, rfl⟩
theorem d_Twn_noteEvents_8 : zd_l .aload_n .aload b_Twn_noteEvents 8 0 9 := Or.inl ⟨0, rfl, by decide +kernel, rfl⟩
theorem d_Twn_noteEvents_9 : zd b_Twn_noteEvents 9 (.getfield 23) 3 12 := ⟨by decide +kernel, rfl⟩
theorem d_Twn_noteEvents_12 : zd_b b_Twn_noteEvents 12 (.if_icmp .ge) 15 46 := ⟨34, by decide +kernel, by decide, rfl⟩
theorem d_Twn_noteEvents_15 : zd_l .aload_n .aload b_Twn_noteEvents 15 0 16 := Or.inl ⟨0, rfl, by decide +kernel, rfl⟩
theorem d_Twn_noteEvents_16 : zd_l .iload_n .iload b_Twn_noteEvents 16 1 17 := Or.inl ⟨1, rfl, by decide +kernel, rfl⟩
theorem d_Twn_noteEvents_17 : zd b_Twn_noteEvents 17 (.invokevirtual 61) 3 20 := ⟨by decide +kernel, rfl⟩
theorem d_Twn_noteEvents_20 : zd_l .astore_n .astore b_Twn_noteEvents 20 2 21 := Or.inl ⟨2, rfl, by decide +kernel, rfl⟩
theorem d_Twn_noteEvents_21 : zd_l .aload_n .aload b_Twn_noteEvents 21 2 22 := Or.inl ⟨2, rfl, by decide +kernel, rfl⟩
theorem d_Twn_noteEvents_22 : zd_b b_Twn_noteEvents 22 .ifnull 25 40 := ⟨18, by decide +kernel, by decide, rfl⟩
theorem d_Twn_noteEvents_25 : zd_l .aload_n .aload b_Twn_noteEvents 25 0 26 := Or.inl ⟨0, rfl, by decide +kernel, rfl⟩
theorem d_Twn_noteEvents_26 : zd b_Twn_noteEvents 26 .dup 1 27 := ⟨by decide +kernel, rfl⟩
theorem d_Twn_noteEvents_27 : zd b_Twn_noteEvents 27 (.getfield 33) 3 30 := ⟨by decide +kernel, rfl⟩
theorem d_Twn_noteEvents_30 : zd_kl b_Twn_noteEvents "SameTuesday$Town" 30 1 31 := Or.inl ⟨1, by decide +kernel, by decide, rfl⟩
theorem d_Twn_noteEvents_31 : zd_l .aload_n .aload b_Twn_noteEvents 31 2 32 := Or.inl ⟨2, rfl, by decide +kernel, rfl⟩
theorem d_Twn_noteEvents_32 : zd b_Twn_noteEvents 32 (.getfield 64) 3 35 := ⟨by decide +kernel, rfl⟩
theorem d_Twn_noteEvents_35 : zd b_Twn_noteEvents 35 .lshl 1 36 := ⟨by decide +kernel, rfl⟩
theorem d_Twn_noteEvents_36 : zd b_Twn_noteEvents 36 .lor 1 37 := ⟨by decide +kernel, rfl⟩
theorem d_Twn_noteEvents_37 : zd b_Twn_noteEvents 37 (.putfield 33) 3 40 := ⟨by decide +kernel, rfl⟩
theorem d_Twn_noteEvents_40 : zd_i b_Twn_noteEvents 40 1 1 1 43 := ⟨by decide +kernel, by decide, rfl⟩
theorem d_Twn_noteEvents_43 : zd_b b_Twn_noteEvents 43 .goto 46 7 := ⟨(-36), by decide +kernel, by decide, rfl⟩
theorem d_Twn_noteEvents_46 : zd b_Twn_noteEvents 46 .return_ 1 47 := ⟨by decide +kernel, rfl⟩
theorem d_Twn_isTold_0 : zd_l .aload_n .aload b_Twn_isTold 0 0 1 := Or.inl ⟨0, rfl, by decide +kernel, rfl⟩
theorem d_Twn_isTold_1 : zd b_Twn_isTold 1 (.getfield 23) 3 4 := ⟨by decide +kernel, rfl⟩
theorem d_Twn_isTold_4 : zd_b b_Twn_isTold 4 (.ifCond .le) 7 11 := ⟨7, by decide +kernel, by decide, rfl⟩
theorem d_Twn_isTold_7 : zd_k b_Twn_isTold "SameTuesday$Town" 7 1 8 := Or.inl ⟨1, by decide +kernel, by decide, rfl⟩
theorem d_Twn_isTold_8 : zd_b b_Twn_isTold 8 .goto 11 12 := ⟨4, by decide +kernel, by decide, rfl⟩
theorem d_Twn_isTold_11 : zd_k b_Twn_isTold "SameTuesday$Town" 11 0 12 := Or.inl ⟨0, by decide +kernel, by decide, rfl⟩
theorem d_Twn_isTold_12 : zd b_Twn_isTold 12 .ireturn 1 13 := ⟨by decide +kernel, rfl⟩
theorem d_Twn_happeningCount_0 : zd_l .aload_n .aload b_Twn_happeningCount 0 0 1 := Or.inl ⟨0, rfl, by decide +kernel, rfl⟩
theorem d_Twn_happeningCount_1 : zd b_Twn_happeningCount 1 (.getfield 23) 3 4 := ⟨by decide +kernel, rfl⟩
theorem d_Twn_happeningCount_4 : zd b_Twn_happeningCount 4 .ireturn 1 5 := ⟨by decide +kernel, rfl⟩
theorem d_Twn_deedCount_0 : zd_l .aload_n .aload b_Twn_deedCount 0 0 1 := Or.inl ⟨0, rfl, by decide +kernel, rfl⟩
theorem d_Twn_deedCount_1 : zd b_Twn_deedCount 1 (.getfield 27) 3 4 := ⟨by decide +kernel, rfl⟩
theorem d_Twn_deedCount_4 : zd b_Twn_deedCount 4 .ireturn 1 5 := ⟨by decide +kernel, rfl⟩
theorem d_Twn_minuteCount_0 : zd_l .aload_n .aload b_Twn_minuteCount 0 0 1 := Or.inl ⟨0, rfl, by decide +kernel, rfl⟩
theorem d_Twn_minuteCount_1 : zd b_Twn_minuteCount 1 (.getfield 30) 3 4 := ⟨by decide +kernel, rfl⟩
theorem d_Twn_minuteCount_4 : zd b_Twn_minuteCount 4 .ireturn 1 5 := ⟨by decide +kernel, rfl⟩
theorem d_Twn_minuteInDay_0 : zd_l .iload_n .iload b_Twn_minuteInDay 0 1 1 := Or.inl ⟨1, rfl, by decide +kernel, rfl⟩
theorem d_Twn_minuteInDay_1 : zd_l .aload_n .aload b_Twn_minuteInDay 1 0 2 := Or.inl ⟨0, rfl, by decide +kernel, rfl⟩
theorem d_Twn_minuteInDay_2 : zd b_Twn_minuteInDay 2 (.getfield 30) 3 5 := ⟨by decide +kernel, rfl⟩
theorem d_Twn_minuteInDay_5 : zd_k b_Twn_minuteInDay "SameTuesday$Town" 5 1 6 := Or.inl ⟨1, by decide +kernel, by decide, rfl⟩
theorem d_Twn_minuteInDay_6 : zd b_Twn_minuteInDay 6 .isub 1 7 := ⟨by decide +kernel, rfl⟩
theorem d_Twn_minuteInDay_7 : zd b_Twn_minuteInDay 7 (.invokestatic 42) 3 10 := ⟨by decide +kernel, rfl⟩
theorem d_Twn_minuteInDay_10 : zd b_Twn_minuteInDay 10 .ireturn 1 11 := ⟨by decide +kernel, rfl⟩
theorem d_Twn_setMinutes_0 : zd_l .aload_n .aload b_Twn_setMinutes 0 0 1 := Or.inl ⟨0, rfl, by decide +kernel, rfl⟩
theorem d_Twn_setMinutes_1 : zd_l .iload_n .iload b_Twn_setMinutes 1 1 2 := Or.inl ⟨1, rfl, by decide +kernel, rfl⟩
theorem d_Twn_setMinutes_2 : zd b_Twn_setMinutes 2 (.putfield 30) 3 5 := ⟨by decide +kernel, rfl⟩
theorem d_Twn_setMinutes_5 : zd b_Twn_setMinutes 5 .return_ 1 6 := ⟨by decide +kernel, rfl⟩
theorem d_Twn_moveTo_0 : zd_l .aload_n .aload b_Twn_moveTo 0 1 1 := Or.inl ⟨1, rfl, by decide +kernel, rfl⟩
theorem d_Twn_moveTo_1 : zd_l .iload_n .iload b_Twn_moveTo 1 2 2 := Or.inl ⟨2, rfl, by decide +kernel, rfl⟩
theorem d_Twn_moveTo_2 : zd b_Twn_moveTo 2 (.putfield 64) 3 5 := ⟨by decide +kernel, rfl⟩
theorem d_Twn_moveTo_5 : zd_l .aload_n .aload b_Twn_moveTo 5 0 6 := Or.inl ⟨0, rfl, by decide +kernel, rfl⟩
theorem d_Twn_moveTo_6 : zd b_Twn_moveTo 6 (.invokevirtual 58) 3 9 := ⟨by decide +kernel, rfl⟩
theorem d_Twn_moveTo_9 : zd b_Twn_moveTo 9 .return_ 1 10 := ⟨by decide +kernel, rfl⟩
theorem d_Twn_happeningOf_0 : zd_l .iload_n .iload b_Twn_happeningOf 0 1 1 := Or.inl ⟨1, rfl, by decide +kernel, rfl⟩
theorem d_Twn_happeningOf_1 : zd_b b_Twn_happeningOf 1 (.ifCond .lt) 4 30 := ⟨29, by decide +kernel, by decide, rfl⟩
theorem d_Twn_happeningOf_4 : zd_l .iload_n .iload b_Twn_happeningOf 4 1 5 := Or.inl ⟨1, rfl, by decide +kernel, rfl⟩
theorem d_Twn_happeningOf_5 : zd_l .aload_n .aload b_Twn_happeningOf 5 0 6 := Or.inl ⟨0, rfl, by decide +kernel, rfl⟩
theorem d_Twn_happeningOf_6 : zd b_Twn_happeningOf 6 (.getfield 23) 3 9 := ⟨by decide +kernel, rfl⟩
theorem d_Twn_happeningOf_9 : zd_b b_Twn_happeningOf 9 (.if_icmp .ge) 12 30 := ⟨21, by decide +kernel, by decide, rfl⟩
theorem d_Twn_happeningOf_12 : zd_l .iload_n .iload b_Twn_happeningOf 12 1 13 := Or.inl ⟨1, rfl, by decide +kernel, rfl⟩
theorem d_Twn_happeningOf_13 : zd_l .aload_n .aload b_Twn_happeningOf 13 0 14 := Or.inl ⟨0, rfl, by decide +kernel, rfl⟩
theorem d_Twn_happeningOf_14 : zd b_Twn_happeningOf 14 (.getfield 11) 3 17 := ⟨by decide +kernel, rfl⟩
theorem d_Twn_happeningOf_17 : zd b_Twn_happeningOf 17 .arraylength 1 18 := ⟨by decide +kernel, rfl⟩
theorem d_Twn_happeningOf_18 : zd_b b_Twn_happeningOf 18 (.if_icmp .ge) 21 30 := ⟨12, by decide +kernel, by decide, rfl⟩
theorem d_Twn_happeningOf_21 : zd_l .aload_n .aload b_Twn_happeningOf 21 0 22 := Or.inl ⟨0, rfl, by decide +kernel, rfl⟩
theorem d_Twn_happeningOf_22 : zd b_Twn_happeningOf 22 (.getfield 11) 3 25 := ⟨by decide +kernel, rfl⟩
theorem d_Twn_happeningOf_25 : zd_l .iload_n .iload b_Twn_happeningOf 25 1 26 := Or.inl ⟨1, rfl, by decide +kernel, rfl⟩
theorem d_Twn_happeningOf_26 : zd b_Twn_happeningOf 26 .aaload 1 27 := ⟨by decide +kernel, rfl⟩
theorem d_Twn_happeningOf_27 : zd_b b_Twn_happeningOf 27 .goto 30 31 := ⟨4, by decide +kernel, by decide, rfl⟩
theorem d_Twn_happeningOf_30 : zd b_Twn_happeningOf 30 .aconst_null 1 31 := ⟨by decide +kernel, rfl⟩
theorem d_Twn_happeningOf_31 : zd b_Twn_happeningOf 31 .areturn 1 32 := ⟨by decide +kernel, rfl⟩
theorem d_Twn_deedOf_0 : zd_l .iload_n .iload b_Twn_deedOf 0 1 1 := Or.inl ⟨1, rfl, by decide +kernel, rfl⟩
theorem d_Twn_deedOf_1 : zd_b b_Twn_deedOf 1 (.ifCond .lt) 4 30 := ⟨29, by decide +kernel, by decide, rfl⟩
theorem d_Twn_deedOf_4 : zd_l .iload_n .iload b_Twn_deedOf 4 1 5 := Or.inl ⟨1, rfl, by decide +kernel, rfl⟩
theorem d_Twn_deedOf_5 : zd_l .aload_n .aload b_Twn_deedOf 5 0 6 := Or.inl ⟨0, rfl, by decide +kernel, rfl⟩
theorem d_Twn_deedOf_6 : zd b_Twn_deedOf 6 (.getfield 27) 3 9 := ⟨by decide +kernel, rfl⟩
theorem d_Twn_deedOf_9 : zd_b b_Twn_deedOf 9 (.if_icmp .ge) 12 30 := ⟨21, by decide +kernel, by decide, rfl⟩
theorem d_Twn_deedOf_12 : zd_l .iload_n .iload b_Twn_deedOf 12 1 13 := Or.inl ⟨1, rfl, by decide +kernel, rfl⟩
theorem d_Twn_deedOf_13 : zd_l .aload_n .aload b_Twn_deedOf 13 0 14 := Or.inl ⟨0, rfl, by decide +kernel, rfl⟩
theorem d_Twn_deedOf_14 : zd b_Twn_deedOf 14 (.getfield 19) 3 17 := ⟨by decide +kernel, rfl⟩
theorem d_Twn_deedOf_17 : zd b_Twn_deedOf 17 .arraylength 1 18 := ⟨by decide +kernel, rfl⟩
theorem d_Twn_deedOf_18 : zd_b b_Twn_deedOf 18 (.if_icmp .ge) 21 30 := ⟨12, by decide +kernel, by decide, rfl⟩
theorem d_Twn_deedOf_21 : zd_l .aload_n .aload b_Twn_deedOf 21 0 22 := Or.inl ⟨0, rfl, by decide +kernel, rfl⟩
theorem d_Twn_deedOf_22 : zd b_Twn_deedOf 22 (.getfield 19) 3 25 := ⟨by decide +kernel, rfl⟩
theorem d_Twn_deedOf_25 : zd_l .iload_n .iload b_Twn_deedOf 25 1 26 := Or.inl ⟨1, rfl, by decide +kernel, rfl⟩
theorem d_Twn_deedOf_26 : zd b_Twn_deedOf 26 .aaload 1 27 := ⟨by decide +kernel, rfl⟩
theorem d_Twn_deedOf_27 : zd_b b_Twn_deedOf 27 .goto 30 31 := ⟨4, by decide +kernel, by decide, rfl⟩
theorem d_Twn_deedOf_30 : zd b_Twn_deedOf 30 .aconst_null 1 31 := ⟨by decide +kernel, rfl⟩
theorem d_Twn_deedOf_31 : zd b_Twn_deedOf 31 .areturn 1 32 := ⟨by decide +kernel, rfl⟩
theorem d_Twn_happenIn_0 : zd_l .aload_n .aload b_Twn_happenIn 0 0 1 := Or.inl ⟨0, rfl, by decide +kernel, rfl⟩
theorem d_Twn_happenIn_1 : zd b_Twn_happenIn 1 (.getfield 33) 3 4 := ⟨by decide +kernel, rfl⟩
theorem d_Twn_happenIn_4 : zd_l .iload_n .iload b_Twn_happenIn 4 1 5 := Or.inl ⟨1, rfl, by decide +kernel, rfl⟩
theorem d_Twn_happenIn_5 : zd b_Twn_happenIn 5 .lushr 1 6 := ⟨by decide +kernel, rfl⟩
theorem d_Twn_happenIn_6 : zd_kl b_Twn_happenIn "SameTuesday$Town" 6 1 7 := Or.inl ⟨1, by decide +kernel, by decide, rfl⟩
theorem d_Twn_happenIn_7 : zd b_Twn_happenIn 7 .land 1 8 := ⟨by decide +kernel, rfl⟩
theorem d_Twn_happenIn_8 : zd_kl b_Twn_happenIn "SameTuesday$Town" 8 0 9 := Or.inl ⟨0, by decide +kernel, by decide, rfl⟩
theorem d_Twn_happenIn_9 : zd b_Twn_happenIn 9 .lcmp 1 10 := ⟨by decide +kernel, rfl⟩
theorem d_Twn_happenIn_10 : zd_b b_Twn_happenIn 10 (.ifCond .ne) 13 15 := ⟨5, by decide +kernel, by decide, rfl⟩
theorem d_Twn_happenIn_13 : zd_l .lload_n .lload b_Twn_happenIn 13 2 14 := Or.inl ⟨2, rfl, by decide +kernel, rfl⟩
theorem d_Twn_happenIn_14 : zd b_Twn_happenIn 14 .lreturn 1 15 := ⟨by decide +kernel, rfl⟩
theorem d_Twn_happenIn_15 : zd_l .lload_n .lload b_Twn_happenIn 15 2 16 := Or.inl ⟨2, rfl, by decide +kernel, rfl⟩
theorem d_Twn_happenIn_16 : zd_l .lstore_n .lstore b_Twn_happenIn 16 5 18 := Or.inr ⟨by decide +kernel, rfl⟩
theorem d_Twn_happenIn_18 : zd_k b_Twn_happenIn "SameTuesday$Town" 18 0 19 := Or.inl ⟨0, by decide +kernel, by decide, rfl⟩
theorem d_Twn_happenIn_19 : zd_l .istore_n .istore b_Twn_happenIn 19 7 21 := Or.inr ⟨by decide +kernel, rfl⟩
theorem d_Twn_happenIn_21 : zd_l .iload_n .iload b_Twn_happenIn 21 7 23 := Or.inr ⟨by decide +kernel, rfl⟩
theorem d_Twn_happenIn_23 : zd_l .aload_n .aload b_Twn_happenIn 23 0 24 := Or.inl ⟨0, rfl, by decide +kernel, rfl⟩
theorem d_Twn_happenIn_24 : zd b_Twn_happenIn 24 (.getfield 23) 3 27 := ⟨by decide +kernel, rfl⟩
theorem d_Twn_happenIn_27 : zd_b b_Twn_happenIn 27 (.if_icmp .ge) 30 78 := ⟨51, by decide +kernel, by decide, rfl⟩
theorem d_Twn_happenIn_30 : zd_l .aload_n .aload b_Twn_happenIn 30 0 31 := Or.inl ⟨0, rfl, by decide +kernel, rfl⟩
theorem d_Twn_happenIn_31 : zd_l .iload_n .iload b_Twn_happenIn 31 7 33 := Or.inr ⟨by decide +kernel, rfl⟩
theorem d_Twn_happenIn_33 : zd b_Twn_happenIn 33 (.invokevirtual 61) 3 36 := ⟨by decide +kernel, rfl⟩
theorem d_Twn_happenIn_36 : zd_l .astore_n .astore b_Twn_happenIn 36 8 38 := Or.inr ⟨by decide +kernel, rfl⟩
theorem d_Twn_happenIn_38 : zd_l .aload_n .aload b_Twn_happenIn 38 8 40 := Or.inr ⟨by decide +kernel, rfl⟩
theorem d_Twn_happenIn_40 : zd_b b_Twn_happenIn 40 .ifnull 43 72 := ⟨32, by decide +kernel, by decide, rfl⟩
theorem d_Twn_happenIn_43 : zd_l .aload_n .aload b_Twn_happenIn 43 8 45 := Or.inr ⟨by decide +kernel, rfl⟩
theorem d_Twn_happenIn_45 : zd b_Twn_happenIn 45 (.getfield 64) 3 48 := ⟨by decide +kernel, rfl⟩
theorem d_Twn_happenIn_48 : zd_l .iload_n .iload b_Twn_happenIn 48 1 49 := Or.inl ⟨1, rfl, by decide +kernel, rfl⟩
theorem d_Twn_happenIn_49 : zd_b b_Twn_happenIn 49 (.if_icmp .ne) 52 72 := ⟨23, by decide +kernel, by decide, rfl⟩
theorem d_Twn_happenIn_52 : zd_l .iload_n .iload b_Twn_happenIn 52 4 54 := Or.inr ⟨by decide +kernel, rfl⟩
theorem d_Twn_happenIn_54 : zd_l .iload_n .iload b_Twn_happenIn 54 7 56 := Or.inr ⟨by decide +kernel, rfl⟩
theorem d_Twn_happenIn_56 : zd b_Twn_happenIn 56 .ishr 1 57 := ⟨by decide +kernel, rfl⟩
theorem d_Twn_happenIn_57 : zd_k b_Twn_happenIn "SameTuesday$Town" 57 1 58 := Or.inl ⟨1, by decide +kernel, by decide, rfl⟩
theorem d_Twn_happenIn_58 : zd b_Twn_happenIn 58 .iand 1 59 := ⟨by decide +kernel, rfl⟩
theorem d_Twn_happenIn_59 : zd_k b_Twn_happenIn "SameTuesday$Town" 59 1 60 := Or.inl ⟨1, by decide +kernel, by decide, rfl⟩
theorem d_Twn_happenIn_60 : zd_b b_Twn_happenIn 60 (.if_icmp .ne) 63 72 := ⟨12, by decide +kernel, by decide, rfl⟩
theorem d_Twn_happenIn_63 : zd_l .aload_n .aload b_Twn_happenIn 63 8 65 := Or.inr ⟨by decide +kernel, rfl⟩
theorem d_Twn_happenIn_65 : zd_l .lload_n .lload b_Twn_happenIn 65 5 67 := Or.inr ⟨by decide +kernel, rfl⟩
theorem d_Twn_happenIn_67 : zd b_Twn_happenIn 67 (.invokevirtual 67) 3 70 := ⟨by decide +kernel, rfl⟩
theorem d_Twn_happenIn_70 : zd_l .lstore_n .lstore b_Twn_happenIn 70 5 72 := Or.inr ⟨by decide +kernel, rfl⟩
theorem d_Twn_happenIn_72 : zd_i b_Twn_happenIn 72 7 1 1 75 := ⟨by decide +kernel, by decide, rfl⟩
theorem d_Twn_happenIn_75 : zd_b b_Twn_happenIn 75 .goto 78 21 := ⟨(-54), by decide +kernel, by decide, rfl⟩
theorem d_Twn_happenIn_78 : zd_l .lload_n .lload b_Twn_happenIn 78 5 80 := Or.inr ⟨by decide +kernel, rfl⟩
theorem d_Twn_happenIn_80 : zd b_Twn_happenIn 80 .lreturn 1 81 := ⟨by decide +kernel, rfl⟩
theorem d_Twn_openTo_0 : zd_l .iload_n .iload b_Twn_openTo 0 2 1 := Or.inl ⟨2, rfl, by decide +kernel, rfl⟩
theorem d_Twn_openTo_1 : zd_l .aload_n .aload b_Twn_openTo 1 1 2 := Or.inl ⟨1, rfl, by decide +kernel, rfl⟩
theorem d_Twn_openTo_2 : zd b_Twn_openTo 2 (.getfield 71) 3 5 := ⟨by decide +kernel, rfl⟩
theorem d_Twn_openTo_5 : zd b_Twn_openTo 5 .iadd 1 6 := ⟨by decide +kernel, rfl⟩
theorem d_Twn_openTo_6 : zd_l .aload_n .aload b_Twn_openTo 6 0 7 := Or.inl ⟨0, rfl, by decide +kernel, rfl⟩
theorem d_Twn_openTo_7 : zd b_Twn_openTo 7 (.getfield 30) 3 10 := ⟨by decide +kernel, rfl⟩
theorem d_Twn_openTo_10 : zd_b b_Twn_openTo 10 (.if_icmp .ge) 13 22 := ⟨12, by decide +kernel, by decide, rfl⟩
theorem d_Twn_openTo_13 : zd_l .lload_n .lload b_Twn_openTo 13 3 14 := Or.inl ⟨3, rfl, by decide +kernel, rfl⟩
theorem d_Twn_openTo_14 : zd_l .aload_n .aload b_Twn_openTo 14 1 15 := Or.inl ⟨1, rfl, by decide +kernel, rfl⟩
theorem d_Twn_openTo_15 : zd b_Twn_openTo 15 (.getfield 74) 3 18 := ⟨by decide +kernel, rfl⟩
theorem d_Twn_openTo_18 : zd b_Twn_openTo 18 .land 1 19 := ⟨by decide +kernel, rfl⟩
theorem d_Twn_openTo_19 : zd_b b_Twn_openTo 19 .goto 22 23 := ⟨4, by decide +kernel, by decide, rfl⟩
theorem d_Twn_openTo_22 : zd_kl b_Twn_openTo "SameTuesday$Town" 22 0 23 := Or.inl ⟨0, by decide +kernel, by decide, rfl⟩
theorem d_Twn_openTo_23 : zd b_Twn_openTo 23 .lreturn 1 24 := ⟨by decide +kernel, rfl⟩
set_option maxRecDepth 20000 in
theorem f_Trc_7_10 : zb_FL "SameTuesday$Trace" 7 10 0 := ⟨"SameTuesday$Trace", zF_Trc, 1, "SameTuesday$Trace", rfl, by decide, zi_Trc, zb_mem 207 rfl rfl, Or.inl rfl⟩
set_option maxRecDepth 20000 in
theorem p_Trc_7_10 : zb_PL "SameTuesday$Trace" 7 10 0 .int := ⟨"SameTuesday$Trace", zF_Trc, 1, "SameTuesday$Trace", zt_Trc, rfl, by decide, zi_Trc, zb_mem 207 rfl rfl, Or.inl rfl, zk_Trc, zn_Trc, rfl, rfl⟩
theorem d_Trc_init_0 : zd_l .aload_n .aload b_Trc_init 0 0 1 := Or.inl ⟨0, rfl, by decide +kernel, rfl⟩
theorem d_Trc_init_1 : zd b_Trc_init 1 (.invokespecial 1) 3 4 := ⟨by decide +kernel, rfl⟩
theorem d_Trc_init_4 : zd_l .aload_n .aload b_Trc_init 4 0 5 := Or.inl ⟨0, rfl, by decide +kernel, rfl⟩
theorem d_Trc_init_5 : zd_k b_Trc_init "SameTuesday$Trace" 5 0 6 := Or.inl ⟨0, by decide +kernel, by decide, rfl⟩
theorem d_Trc_init_6 : zd b_Trc_init 6 (.putfield 7) 3 9 := ⟨by decide +kernel, rfl⟩
theorem d_Trc_init_9 : zd b_Trc_init 9 .return_ 1 10 := ⟨by decide +kernel, rfl⟩
theorem d_Trc_leave_0 : zd_l .aload_n .aload b_Trc_leave 0 0 1 := Or.inl ⟨0, rfl, by decide +kernel, rfl⟩
theorem d_Trc_leave_1 : zd_k b_Trc_leave "SameTuesday$Trace" 1 31 3 := Or.inr (Or.inl ⟨31, by decide +kernel, by decide, rfl⟩)
theorem d_Trc_leave_3 : zd_l .aload_n .aload b_Trc_leave 3 0 4 := Or.inl ⟨0, rfl, by decide +kernel, rfl⟩
theorem d_Trc_leave_4 : zd b_Trc_leave 4 (.getfield 7) 3 7 := ⟨by decide +kernel, rfl⟩
theorem d_Trc_leave_7 : zd b_Trc_leave 7 .imul 1 8 := ⟨by decide +kernel, rfl⟩
theorem d_Trc_leave_8 : zd_l .iload_n .iload b_Trc_leave 8 1 9 := Or.inl ⟨1, rfl, by decide +kernel, rfl⟩
theorem d_Trc_leave_9 : zd b_Trc_leave 9 .iadd 1 10 := ⟨by decide +kernel, rfl⟩
theorem d_Trc_leave_10 : zd b_Trc_leave 10 (.putfield 7) 3 13 := ⟨by decide +kernel, rfl⟩
theorem d_Trc_leave_13 : zd b_Trc_leave 13 .return_ 1 14 := ⟨by decide +kernel, rfl⟩
theorem d_Trc_value_0 : zd_l .aload_n .aload b_Trc_value 0 0 1 := Or.inl ⟨0, rfl, by decide +kernel, rfl⟩
theorem d_Trc_value_1 : zd b_Trc_value 1 (.getfield 7) 3 4 := ⟨by decide +kernel, rfl⟩
theorem d_Trc_value_4 : zd b_Trc_value 4 .ireturn 1 5 := ⟨by decide +kernel, rfl⟩
set_option maxRecDepth 20000 in
theorem f_Tue_13_11 : zb_FL "SameTuesday" 13 11 0 := ⟨"SameTuesday", zF_Tue, 7, "SameTuesday", rfl, by decide, zi_Tue, zb_mem 211 rfl rfl, Or.inl rfl⟩
set_option maxRecDepth 20000 in
theorem p_Tue_13_11 : zb_PF "SameTuesday" 13 11 0 (.array (.object "SameTuesday$Sheet")) := ⟨"SameTuesday", zF_Tue, 7, "SameTuesday", zt_Tue, rfl, by decide, zi_Tue, zb_mem 211 rfl rfl, Or.inl rfl, zk_Tue, zn_Tue, rfl, rfl, rfl⟩
set_option maxRecDepth 20000 in
theorem f_Tue_21_11 : zb_FL "SameTuesday" 21 11 1 := ⟨"SameTuesday", zF_Tue, 7, "SameTuesday", rfl, by decide, zi_Tue, zb_mem 212 rfl rfl, Or.inl rfl⟩
set_option maxRecDepth 20000 in
theorem p_Tue_21_11 : zb_PF "SameTuesday" 21 11 1 (.object "SameTuesday$Town") := ⟨"SameTuesday", zF_Tue, 7, "SameTuesday", zt_Tue, rfl, by decide, zi_Tue, zb_mem 212 rfl rfl, Or.inl rfl, zk_Tue, zn_Tue, rfl, rfl, rfl⟩
set_option maxRecDepth 20000 in
theorem f_Tue_30_11 : zb_FL "SameTuesday" 30 11 2 := ⟨"SameTuesday", zF_Tue, 7, "SameTuesday", rfl, by decide, zi_Tue, zb_mem 213 rfl rfl, Or.inl rfl⟩
set_option maxRecDepth 20000 in
theorem p_Tue_30_11 : zb_PF "SameTuesday" 30 11 2 (.object "SameTuesday$Life") := ⟨"SameTuesday", zF_Tue, 7, "SameTuesday", zt_Tue, rfl, by decide, zi_Tue, zb_mem 213 rfl rfl, Or.inl rfl, zk_Tue, zn_Tue, rfl, rfl, rfl⟩
set_option maxRecDepth 20000 in
theorem f_Tue_37_11 : zb_FL "SameTuesday" 37 11 3 := ⟨"SameTuesday", zF_Tue, 7, "SameTuesday", rfl, by decide, zi_Tue, zb_mem 214 rfl rfl, Or.inl rfl⟩
set_option maxRecDepth 20000 in
theorem p_Tue_37_11 : zb_PF "SameTuesday" 37 11 3 (.object "SameTuesday$Reach") := ⟨"SameTuesday", zF_Tue, 7, "SameTuesday", zt_Tue, rfl, by decide, zi_Tue, zb_mem 214 rfl rfl, Or.inl rfl, zk_Tue, zn_Tue, rfl, rfl, rfl⟩
set_option maxRecDepth 20000 in
theorem f_Tue_44_11 : zb_FL "SameTuesday" 44 11 4 := ⟨"SameTuesday", zF_Tue, 7, "SameTuesday", rfl, by decide, zi_Tue, zb_mem 215 rfl rfl, Or.inl rfl⟩
set_option maxRecDepth 20000 in
theorem p_Tue_44_11 : zb_PF "SameTuesday" 44 11 4 (.object "SameTuesday$Law") := ⟨"SameTuesday", zF_Tue, 7, "SameTuesday", zt_Tue, rfl, by decide, zi_Tue, zb_mem 215 rfl rfl, Or.inl rfl, zk_Tue, zn_Tue, rfl, rfl, rfl⟩
set_option maxRecDepth 20000 in
theorem f_Tue_51_11 : zb_FL "SameTuesday" 51 11 5 := ⟨"SameTuesday", zF_Tue, 7, "SameTuesday", rfl, by decide, zi_Tue, zb_mem 216 rfl rfl, Or.inl rfl⟩
set_option maxRecDepth 20000 in
theorem p_Tue_51_11 : zb_PF "SameTuesday" 51 11 5 (.object "SameTuesday$Trace") := ⟨"SameTuesday", zF_Tue, 7, "SameTuesday", zt_Tue, rfl, by decide, zi_Tue, zb_mem 216 rfl rfl, Or.inl rfl, zk_Tue, zn_Tue, rfl, rfl, rfl⟩
set_option maxRecDepth 20000 in
theorem f_Tue_55_11 : zb_FL "SameTuesday" 55 11 6 := ⟨"SameTuesday", zF_Tue, 7, "SameTuesday", rfl, by decide, zi_Tue, zb_mem 217 rfl rfl, Or.inl rfl⟩
set_option maxRecDepth 20000 in
theorem p_Tue_55_11 : zb_PL "SameTuesday" 55 11 6 .int := ⟨"SameTuesday", zF_Tue, 7, "SameTuesday", zt_Tue, rfl, by decide, zi_Tue, zb_mem 217 rfl rfl, Or.inl rfl, zk_Tue, zn_Tue, rfl, rfl⟩
set_option maxRecDepth 20000 in
theorem f_Tue_102_2 : zb_FL "SameTuesday" 102 2 5 := ⟨"SameTuesday$Happening", zF_Hap, 6, "SameTuesday$Happening", rfl, by decide, zi_Hap, zb_mem 372 rfl rfl, Or.inl rfl⟩
set_option maxRecDepth 20000 in
theorem f_Tue_102_5 : zb_FL "SameTuesday" 102 5 5 := ⟨"SameTuesday$Mishap", zF_Mis, 6, "SameTuesday$Happening", rfl, by decide, zi_Mis, zb_mem 372 rfl rfl, Or.inl rfl⟩
set_option maxRecDepth 20000 in
theorem f_Tue_102_0 : zb_FL "SameTuesday" 102 0 5 := ⟨"SameTuesday$Caprice", zF_Cap, 6, "SameTuesday$Happening", rfl, by decide, zi_Cap, zb_mem 372 rfl rfl, Or.inl rfl⟩
set_option maxRecDepth 20000 in
theorem f_Tue_105_2 : zb_FL "SameTuesday" 105 2 1 := ⟨"SameTuesday$Happening", zF_Hap, 6, "SameTuesday$Happening", rfl, by decide, zi_Hap, zb_mem 353 rfl rfl, Or.inl rfl⟩
set_option maxRecDepth 20000 in
theorem f_Tue_105_5 : zb_FL "SameTuesday" 105 5 1 := ⟨"SameTuesday$Mishap", zF_Mis, 6, "SameTuesday$Happening", rfl, by decide, zi_Mis, zb_mem 353 rfl rfl, Or.inl rfl⟩
set_option maxRecDepth 20000 in
theorem f_Tue_105_0 : zb_FL "SameTuesday" 105 0 1 := ⟨"SameTuesday$Caprice", zF_Cap, 6, "SameTuesday$Happening", rfl, by decide, zi_Cap, zb_mem 353 rfl rfl, Or.inl rfl⟩
set_option maxRecDepth 20000 in
theorem f_Tue_108_2 : zb_FL "SameTuesday" 108 2 2 := ⟨"SameTuesday$Happening", zF_Hap, 6, "SameTuesday$Happening", rfl, by decide, zi_Hap, zb_mem 359 rfl rfl, Or.inl rfl⟩
set_option maxRecDepth 20000 in
theorem f_Tue_108_5 : zb_FL "SameTuesday" 108 5 2 := ⟨"SameTuesday$Mishap", zF_Mis, 6, "SameTuesday$Happening", rfl, by decide, zi_Mis, zb_mem 359 rfl rfl, Or.inl rfl⟩
set_option maxRecDepth 20000 in
theorem f_Tue_108_0 : zb_FL "SameTuesday" 108 0 2 := ⟨"SameTuesday$Caprice", zF_Cap, 6, "SameTuesday$Happening", rfl, by decide, zi_Cap, zb_mem 359 rfl rfl, Or.inl rfl⟩
set_option maxRecDepth 20000 in
theorem f_Tue_115_1 : zb_FL "SameTuesday" 115 1 0 := ⟨"SameTuesday$Deed", zF_Deed, 5, "SameTuesday$Deed", rfl, by decide, zi_Deed, zb_mem 425 rfl rfl, Or.inl rfl⟩
set_option maxRecDepth 20000 in
theorem f_Tue_118_1 : zb_FL "SameTuesday" 118 1 1 := ⟨"SameTuesday$Deed", zF_Deed, 5, "SameTuesday$Deed", rfl, by decide, zi_Deed, zb_mem 427 rfl rfl, Or.inl rfl⟩
set_option maxRecDepth 20000 in
theorem f_Tue_119_1 : zb_FL "SameTuesday" 119 1 2 := ⟨"SameTuesday$Deed", zF_Deed, 5, "SameTuesday$Deed", rfl, by decide, zi_Deed, zb_mem 429 rfl rfl, Or.inl rfl⟩
set_option maxRecDepth 20000 in
theorem f_Tue_122_1 : zb_FL "SameTuesday" 122 1 3 := ⟨"SameTuesday$Deed", zF_Deed, 5, "SameTuesday$Deed", rfl, by decide, zi_Deed, zb_mem 431 rfl rfl, Or.inl rfl⟩
set_option maxRecDepth 20000 in
theorem l_Tue_17 : zl_I "SameTuesday" 17 y_Sht_init b_Sht_init 1 0 := ⟨⟨zb_mem 78 rfl rfl, zb_mem 51 rfl rfl, zb_mem 80 rfl rfl, by decide, by decide +kernel⟩, rfl, zb_mem 79 rfl rfl⟩
set_option maxRecDepth 20000 in
theorem l_Tue_20 : zl_I "SameTuesday" 20 y_Twn_init b_Twn_init 1 0 := ⟨⟨zb_mem 95 rfl rfl, zb_mem 52 rfl rfl, zb_mem 97 rfl rfl, by decide, by decide +kernel⟩, rfl, zb_mem 96 rfl rfl⟩
set_option maxRecDepth 20000 in
theorem l_Tue_27 : zl_I "SameTuesday" 27 y_Life_init b_Life_init 2 1 := ⟨⟨zb_mem 124 rfl rfl, zb_mem 53 rfl rfl, zb_mem 126 rfl rfl, by decide, by decide +kernel⟩, rfl, zb_mem 125 rfl rfl⟩
set_option maxRecDepth 20000 in
theorem l_Tue_36 : zl_I "SameTuesday" 36 y_Rch_init b_Rch_init 2 1 := ⟨⟨zb_mem 168 rfl rfl, zb_mem 54 rfl rfl, zb_mem 170 rfl rfl, by decide, by decide +kernel⟩, rfl, zb_mem 169 rfl rfl⟩
set_option maxRecDepth 20000 in
theorem l_Tue_43 : zl_I "SameTuesday" 43 y_Law_init b_Law_init 1 0 := ⟨⟨zb_mem 190 rfl rfl, zb_mem 55 rfl rfl, zb_mem 192 rfl rfl, by decide, by decide +kernel⟩, rfl, zb_mem 191 rfl rfl⟩
set_option maxRecDepth 20000 in
theorem l_Tue_50 : zl_I "SameTuesday" 50 y_Trc_init b_Trc_init 1 0 := ⟨⟨zb_mem 203 rfl rfl, zb_mem 56 rfl rfl, zb_mem 205 rfl rfl, by decide, by decide +kernel⟩, rfl, zb_mem 204 rfl rfl⟩
set_option maxRecDepth 20000 in
theorem l_Tue_59 : zl_V "SameTuesday" 59 y_Tue_sheetOf b_Tue_sheetOf 2 (some (.object "SameTuesday$Sheet")) 1 := ⟨⟨zb_mem 237 rfl rfl, zb_mem 50 rfl rfl, zb_mem 240 rfl rfl, by decide, by decide +kernel⟩, zb_mem 239 rfl rfl, zb_mem 0 rfl rfl⟩
set_option maxRecDepth 20000 in
theorem l_Tue_63 : zl_V "SameTuesday" 63 y_Tue_refusalOfCells b_Tue_refusalOfCells 5 (some .int) 4 := ⟨⟨zb_mem 241 rfl rfl, zb_mem 50 rfl rfl, zb_mem 244 rfl rfl, by decide, by decide +kernel⟩, zb_mem 243 rfl rfl, zb_mem 1 rfl rfl⟩
set_option maxRecDepth 20000 in
theorem l_Tue_69 : zl_I "SameTuesday" 69 y_Txt_init b_Txt_init 4 3 := ⟨⟨zb_mem 266 rfl rfl, zb_mem 58 rfl rfl, zb_mem 268 rfl rfl, by decide, by decide +kernel⟩, rfl, zb_mem 267 rfl rfl⟩
set_option maxRecDepth 20000 in
theorem l_Tue_72 : zl_V "SameTuesday" 72 y_Txt_firstFault b_Txt_firstFault 3 (some .int) 0 := ⟨⟨zb_mem 289 rfl rfl, zb_mem 58 rfl rfl, zb_mem 292 rfl rfl, by decide, by decide +kernel⟩, zb_mem 290 rfl rfl, zb_mem 291 rfl rfl⟩
set_option maxRecDepth 20000 in
theorem l_Tue_76 : zl_V "SameTuesday" 76 y_Twn_retell b_Twn_retell 3 none 1 := ⟨⟨zb_mem 317 rfl rfl, zb_mem 52 rfl rfl, zb_mem 320 rfl rfl, by decide, by decide +kernel⟩, zb_mem 318 rfl rfl, zb_mem 319 rfl rfl⟩
set_option maxRecDepth 20000 in
theorem l_Tue_80 : zl_V "SameTuesday" 80 y_Law_dayCount b_Law_dayCount 1 (some .int) 0 := ⟨⟨zb_mem 456 rfl rfl, zb_mem 55 rfl rfl, zb_mem 459 rfl rfl, by decide, by decide +kernel⟩, zb_mem 457 rfl rfl, zb_mem 458 rfl rfl⟩
set_option maxRecDepth 20000 in
theorem l_Tue_83 : zl_V "SameTuesday" 83 y_Law_dropLast b_Law_dropLast 2 none 1 := ⟨⟨zb_mem 460 rfl rfl, zb_mem 55 rfl rfl, zb_mem 463 rfl rfl, by decide, by decide +kernel⟩, zb_mem 461 rfl rfl, zb_mem 462 rfl rfl⟩
set_option maxRecDepth 20000 in
theorem l_Tue_87 : zl_V "SameTuesday" 87 y_Rch_spoil b_Rch_spoil 1 none 0 := ⟨⟨zb_mem 467 rfl rfl, zb_mem 54 rfl rfl, zb_mem 470 rfl rfl, by decide, by decide +kernel⟩, zb_mem 468 rfl rfl, zb_mem 469 rfl rfl⟩
set_option maxRecDepth 20000 in
theorem l_Tue_90 : zl_V "SameTuesday" 90 y_Twn_happeningCount b_Twn_happeningCount 1 (some .int) 0 := ⟨⟨zb_mem 471 rfl rfl, zb_mem 52 rfl rfl, zb_mem 474 rfl rfl, by decide, by decide +kernel⟩, zb_mem 472 rfl rfl, zb_mem 473 rfl rfl⟩
set_option maxRecDepth 20000 in
theorem l_Tue_93 : zl_V "SameTuesday" 93 y_Twn_happeningOf b_Twn_happeningOf 2 (some (.object "SameTuesday$Happening")) 1 := ⟨⟨zb_mem 479 rfl rfl, zb_mem 52 rfl rfl, zb_mem 455 rfl rfl, by decide, by decide +kernel⟩, zb_mem 453 rfl rfl, zb_mem 454 rfl rfl⟩
set_option maxRecDepth 20000 in
theorem l_Tue_111 : zl_V "SameTuesday" 111 y_Twn_deedOf b_Twn_deedOf 2 (some (.object "SameTuesday$Deed")) 1 := ⟨⟨zb_mem 495 rfl rfl, zb_mem 52 rfl rfl, zb_mem 498 rfl rfl, by decide, by decide +kernel⟩, zb_mem 496 rfl rfl, zb_mem 497 rfl rfl⟩
set_option maxRecDepth 20000 in
theorem l_Tue_125 : zl_V "SameTuesday" 125 y_Twn_isTold b_Twn_isTold 1 (some .boolean) 0 := ⟨⟨zb_mem 503 rfl rfl, zb_mem 52 rfl rfl, zb_mem 506 rfl rfl, by decide, by decide +kernel⟩, zb_mem 504 rfl rfl, zb_mem 505 rfl rfl⟩
set_option maxRecDepth 20000 in
theorem l_Tue_129 : zl_V "SameTuesday" 129 y_Twn_minuteCount b_Twn_minuteCount 1 (some .int) 0 := ⟨⟨zb_mem 507 rfl rfl, zb_mem 52 rfl rfl, zb_mem 510 rfl rfl, by decide, by decide +kernel⟩, zb_mem 508 rfl rfl, zb_mem 509 rfl rfl⟩
set_option maxRecDepth 20000 in
theorem l_Tue_132 : zl_V "SameTuesday" 132 y_Twn_setMinutes b_Twn_setMinutes 2 none 1 := ⟨⟨zb_mem 511 rfl rfl, zb_mem 52 rfl rfl, zb_mem 514 rfl rfl, by decide, by decide +kernel⟩, zb_mem 512 rfl rfl, zb_mem 513 rfl rfl⟩
set_option maxRecDepth 20000 in
theorem l_Tue_135 : zl_S "SameTuesday" 135 y_Tue_isMinute b_Tue_isMinute 1 (some .boolean) 1 := ⟨⟨zb_mem 519 rfl rfl, zb_mem 50 rfl rfl, zb_mem 521 rfl rfl, by decide, by decide +kernel⟩, zb_mem 520 rfl rfl⟩
set_option maxRecDepth 20000 in
theorem l_Tue_139 : zl_V "SameTuesday" 139 y_Twn_moveTo b_Twn_moveTo 3 none 2 := ⟨⟨zb_mem 522 rfl rfl, zb_mem 52 rfl rfl, zb_mem 525 rfl rfl, by decide, by decide +kernel⟩, zb_mem 523 rfl rfl, zb_mem 524 rfl rfl⟩
set_option maxRecDepth 20000 in
theorem l_Tue_143 : zl_V "SameTuesday" 143 y_Tue_takeRow b_Tue_takeRow 8 (some .int) 5 := ⟨⟨zb_mem 530 rfl rfl, zb_mem 50 rfl rfl, zb_mem 533 rfl rfl, by decide, by decide +kernel⟩, zb_mem 532 rfl rfl, zb_mem 7 rfl rfl⟩
set_option maxRecDepth 20000 in
theorem l_Tue_147 : zl_V "SameTuesday" 147 y_Life_factsAt b_Life_factsAt 5 (some .int) 2 := ⟨⟨zb_mem 541 rfl rfl, zb_mem 53 rfl rfl, zb_mem 544 rfl rfl, by decide, by decide +kernel⟩, zb_mem 542 rfl rfl, zb_mem 543 rfl rfl⟩
set_option maxRecDepth 20000 in
theorem l_Tue_151 : zl_V "SameTuesday" 151 y_Life_firstWrong b_Life_firstWrong 1 (some .int) 0 := ⟨⟨zb_mem 608 rfl rfl, zb_mem 53 rfl rfl, zb_mem 611 rfl rfl, by decide, by decide +kernel⟩, zb_mem 609 rfl rfl, zb_mem 610 rfl rfl⟩
set_option maxRecDepth 20000 in
theorem l_Tue_154 : zl_V "SameTuesday" 154 y_Life_hangsOn b_Life_hangsOn 4 (some .int) 0 := ⟨⟨zb_mem 620 rfl rfl, zb_mem 53 rfl rfl, zb_mem 623 rfl rfl, by decide, by decide +kernel⟩, zb_mem 621 rfl rfl, zb_mem 622 rfl rfl⟩
set_option maxRecDepth 20000 in
theorem l_Tue_157 : zl_S "SameTuesday" 157 y_Tue_isSet b_Tue_isSet 1 (some .boolean) 1 := ⟨⟨zb_mem 630 rfl rfl, zb_mem 50 rfl rfl, zb_mem 632 rfl rfl, by decide, by decide +kernel⟩, zb_mem 631 rfl rfl⟩
set_option maxRecDepth 20000 in
theorem l_Tue_160 : zl_V "SameTuesday" 160 y_Rch_worldAt b_Rch_worldAt 3 (some .long) 1 := ⟨⟨zb_mem 633 rfl rfl, zb_mem 54 rfl rfl, zb_mem 636 rfl rfl, by decide, by decide +kernel⟩, zb_mem 634 rfl rfl, zb_mem 635 rfl rfl⟩
set_option maxRecDepth 20000 in
theorem l_Tue_164 : zl_S "SameTuesday" 164 y_Tue_hasState b_Tue_hasState 3 (some .boolean) 2 := ⟨⟨zb_mem 666 rfl rfl, zb_mem 50 rfl rfl, zb_mem 668 rfl rfl, by decide, by decide +kernel⟩, zb_mem 667 rfl rfl⟩
set_option maxRecDepth 20000 in
theorem l_Tue_168 : zl_V "SameTuesday" 168 y_Rch_soonestOf b_Rch_soonestOf 5 (some .int) 1 := ⟨⟨zb_mem 673 rfl rfl, zb_mem 54 rfl rfl, zb_mem 676 rfl rfl, by decide, by decide +kernel⟩, zb_mem 674 rfl rfl, zb_mem 675 rfl rfl⟩
set_option maxRecDepth 20000 in
theorem l_Tue_172 : zl_V "SameTuesday" 172 y_Rch_barOf b_Rch_barOf 7 (some .int) 1 := ⟨⟨zb_mem 686 rfl rfl, zb_mem 54 rfl rfl, zb_mem 689 rfl rfl, by decide, by decide +kernel⟩, zb_mem 687 rfl rfl, zb_mem 688 rfl rfl⟩
set_option maxRecDepth 20000 in
theorem l_Tue_175 : zl_V "SameTuesday" 175 y_Law_isFull b_Law_isFull 1 (some .boolean) 0 := ⟨⟨zb_mem 694 rfl rfl, zb_mem 55 rfl rfl, zb_mem 697 rfl rfl, by decide, by decide +kernel⟩, zb_mem 695 rfl rfl, zb_mem 696 rfl rfl⟩
set_option maxRecDepth 20000 in
theorem l_Tue_178 : zl_V "SameTuesday" 178 y_Law_addDay b_Law_addDay 2 none 1 := ⟨⟨zb_mem 698 rfl rfl, zb_mem 55 rfl rfl, zb_mem 701 rfl rfl, by decide, by decide +kernel⟩, zb_mem 699 rfl rfl, zb_mem 700 rfl rfl⟩
set_option maxRecDepth 20000 in
theorem l_Tue_181 : zl_V "SameTuesday" 181 y_Law_possible b_Law_possible 4 (some .long) 0 := ⟨⟨zb_mem 710 rfl rfl, zb_mem 55 rfl rfl, zb_mem 713 rfl rfl, by decide, by decide +kernel⟩, zb_mem 711 rfl rfl, zb_mem 712 rfl rfl⟩
set_option maxRecDepth 20000 in
theorem l_Tue_185 : zl_S "SameTuesday" 185 y_JLong_bitCount b_JLong_bitCount 2 (some .int) 1 := ⟨⟨zb_mem 718 rfl rfl, zb_mem 64 rfl rfl, zb_mem 720 rfl rfl, by decide, by decide +kernel⟩, zb_mem 719 rfl rfl⟩
set_option maxRecDepth 20000 in
theorem l_Tue_189 : zl_V "SameTuesday" 189 y_Law_possibleAt b_Law_possibleAt 6 (some .int) 1 := ⟨⟨zb_mem 724 rfl rfl, zb_mem 55 rfl rfl, zb_mem 727 rfl rfl, by decide, by decide +kernel⟩, zb_mem 725 rfl rfl, zb_mem 726 rfl rfl⟩
set_option maxRecDepth 20000 in
theorem l_Tue_192 : zl_V "SameTuesday" 192 y_Law_ofFewestFacts b_Law_ofFewestFacts 6 (some .int) 0 := ⟨⟨zb_mem 734 rfl rfl, zb_mem 55 rfl rfl, zb_mem 737 rfl rfl, by decide, by decide +kernel⟩, zb_mem 735 rfl rfl, zb_mem 736 rfl rfl⟩
set_option maxRecDepth 20000 in
theorem l_Tue_195 : zl_V "SameTuesday" 195 y_Law_partingBest b_Law_partingBest 8 (some .int) 1 := ⟨⟨zb_mem 748 rfl rfl, zb_mem 55 rfl rfl, zb_mem 751 rfl rfl, by decide, by decide +kernel⟩, zb_mem 749 rfl rfl, zb_mem 750 rfl rfl⟩
set_option maxRecDepth 20000 in
theorem l_Tue_198 : zl_S "SameTuesday" 198 y_Tue_lesserPart b_Tue_lesserPart 4 (some .int) 2 := ⟨⟨zb_mem 757 rfl rfl, zb_mem 50 rfl rfl, zb_mem 754 rfl rfl, by decide, by decide +kernel⟩, zb_mem 753 rfl rfl⟩
set_option maxRecDepth 20000 in
theorem l_Tue_202 : zl_V "SameTuesday" 202 y_Life_otherAt b_Life_otherAt 7 (some .int) 2 := ⟨⟨zb_mem 762 rfl rfl, zb_mem 53 rfl rfl, zb_mem 765 rfl rfl, by decide, by decide +kernel⟩, zb_mem 763 rfl rfl, zb_mem 764 rfl rfl⟩
set_option maxRecDepth 20000 in
theorem l_Tue_207 : zl_V "SameTuesday" 207 y_Life_countWaysTo b_Life_countWaysTo 4 (some .int) 1 := ⟨⟨zb_mem 780 rfl rfl, zb_mem 53 rfl rfl, zb_mem 783 rfl rfl, by decide, by decide +kernel⟩, zb_mem 781 rfl rfl, zb_mem 782 rfl rfl⟩
set_option maxRecDepth 20000 in
theorem l_Tue_210 : zl_S "SameTuesday" 210 y_Tue_greatestCommon b_Tue_greatestCommon 6 (some .int) 2 := ⟨⟨zb_mem 784 rfl rfl, zb_mem 50 rfl rfl, zb_mem 786 rfl rfl, by decide, by decide +kernel⟩, zb_mem 785 rfl rfl⟩
set_option maxRecDepth 20000 in
theorem l_Tue_213 : zl_S "SameTuesday" 213 y_Tue_isLane b_Tue_isLane 1 (some .boolean) 1 := ⟨⟨zb_mem 245 rfl rfl, zb_mem 50 rfl rfl, zb_mem 247 rfl rfl, by decide, by decide +kernel⟩, zb_mem 246 rfl rfl⟩
set_option maxRecDepth 20000 in
theorem l_Tue_216 : zl_V "SameTuesday" 216 y_Tue_faulty b_Tue_faulty 2 (some .int) 1 := ⟨⟨zb_mem 252 rfl rfl, zb_mem 50 rfl rfl, zb_mem 255 rfl rfl, by decide, by decide +kernel⟩, zb_mem 254 rfl rfl, zb_mem 2 rfl rfl⟩
set_option maxRecDepth 20000 in
theorem l_Tue_219 : zl_V "SameTuesday" 219 y_Sht_renew b_Sht_renew 4 none 2 := ⟨⟨zb_mem 791 rfl rfl, zb_mem 51 rfl rfl, zb_mem 794 rfl rfl, by decide, by decide +kernel⟩, zb_mem 792 rfl rfl, zb_mem 793 rfl rfl⟩
set_option maxRecDepth 20000 in
theorem l_Tue_223 : zl_V "SameTuesday" 223 y_Sht_hasNothing b_Sht_hasNothing 1 (some .boolean) 0 := ⟨⟨zb_mem 248 rfl rfl, zb_mem 51 rfl rfl, zb_mem 251 rfl rfl, by decide, by decide +kernel⟩, zb_mem 249 rfl rfl, zb_mem 250 rfl rfl⟩
set_option maxRecDepth 20000 in
theorem l_Tue_226 : zl_V "SameTuesday" 226 y_Sht_empty b_Sht_empty 1 none 0 := ⟨⟨zb_mem 801 rfl rfl, zb_mem 51 rfl rfl, zb_mem 804 rfl rfl, by decide, by decide +kernel⟩, zb_mem 802 rfl rfl, zb_mem 803 rfl rfl⟩
set_option maxRecDepth 20000 in
theorem l_Tue_229 : zl_V "SameTuesday" 229 y_Sht_holds b_Sht_holds 3 (some .boolean) 2 := ⟨⟨zb_mem 260 rfl rfl, zb_mem 51 rfl rfl, zb_mem 263 rfl rfl, by decide, by decide +kernel⟩, zb_mem 261 rfl rfl, zb_mem 262 rfl rfl⟩
set_option maxRecDepth 20000 in
theorem l_Tue_233 : zl_V "SameTuesday" 233 y_Sht_setCell b_Sht_setCell 3 none 2 := ⟨⟨zb_mem 809 rfl rfl, zb_mem 51 rfl rfl, zb_mem 812 rfl rfl, by decide, by decide +kernel⟩, zb_mem 810 rfl rfl, zb_mem 811 rfl rfl⟩
set_option maxRecDepth 20000 in
theorem l_Tue_236 : zl_V "SameTuesday" 236 y_Sht_cellAt b_Sht_cellAt 2 (some .int) 1 := ⟨⟨zb_mem 817 rfl rfl, zb_mem 51 rfl rfl, zb_mem 300 rfl rfl, by decide, by decide +kernel⟩, zb_mem 298 rfl rfl, zb_mem 299 rfl rfl⟩
set_option maxRecDepth 20000 in
theorem l_Tue_239 : zl_V "SameTuesday" 239 y_Sht_isLike b_Sht_isLike 2 (some .boolean) 1 := ⟨⟨zb_mem 822 rfl rfl, zb_mem 51 rfl rfl, zb_mem 825 rfl rfl, by decide, by decide +kernel⟩, zb_mem 823 rfl rfl, zb_mem 824 rfl rfl⟩
set_option maxRecDepth 20000 in
theorem l_Tue_243 : zl_V "SameTuesday" 243 y_Sht_takeFrom b_Sht_takeFrom 5 none 4 := ⟨⟨zb_mem 826 rfl rfl, zb_mem 51 rfl rfl, zb_mem 829 rfl rfl, by decide, by decide +kernel⟩, zb_mem 827 rfl rfl, zb_mem 828 rfl rfl⟩
set_option maxRecDepth 20000 in
theorem l_Tue_254 : zl_V "SameTuesday" 254 y_Trc_value b_Trc_value 1 (some .int) 0 := ⟨⟨zb_mem 886 rfl rfl, zb_mem 56 rfl rfl, zb_mem 889 rfl rfl, by decide, by decide +kernel⟩, zb_mem 887 rfl rfl, zb_mem 888 rfl rfl⟩
set_option maxRecDepth 20000 in
theorem l_Tue_257 : zl_V "SameTuesday" 257 y_Twn_deedCount b_Twn_deedCount 1 (some .int) 0 := ⟨⟨zb_mem 898 rfl rfl, zb_mem 52 rfl rfl, zb_mem 770 rfl rfl, by decide, by decide +kernel⟩, zb_mem 768 rfl rfl, zb_mem 769 rfl rfl⟩
set_option maxRecDepth 20000 in
theorem l_Tue_260 : zl_V "SameTuesday" 260 y_Sht_isOf b_Sht_isOf 2 (some .boolean) 1 := ⟨⟨zb_mem 256 rfl rfl, zb_mem 51 rfl rfl, zb_mem 259 rfl rfl, by decide, by decide +kernel⟩, zb_mem 257 rfl rfl, zb_mem 258 rfl rfl⟩
set_option maxRecDepth 20000 in
theorem l_Tue_263 : zl_V "SameTuesday" 263 y_Life_readPairs b_Life_readPairs 7 (some .int) 3 := ⟨⟨zb_mem 534 rfl rfl, zb_mem 53 rfl rfl, zb_mem 537 rfl rfl, by decide, by decide +kernel⟩, zb_mem 535 rfl rfl, zb_mem 536 rfl rfl⟩
set_option maxRecDepth 20000 in
theorem l_Tue_273 : zl_S "SameTuesday" 273 y_Tue_worldWith b_Tue_worldWith 1 (some .long) 1 := ⟨⟨zb_mem 680 rfl rfl, zb_mem 50 rfl rfl, zb_mem 347 rfl rfl, by decide, by decide +kernel⟩, zb_mem 346 rfl rfl⟩
set_option maxRecDepth 20000 in
theorem l_Tue_276 : zl_S "SameTuesday" 276 y_Tue_worldWithin b_Tue_worldWithin 4 (some .long) 1 := ⟨⟨zb_mem 755 rfl rfl, zb_mem 50 rfl rfl, zb_mem 717 rfl rfl, by decide, by decide +kernel⟩, zb_mem 716 rfl rfl⟩
theorem d_Tue_init_0 : zd_l .aload_n .aload b_Tue_init 0 0 1 := Or.inl ⟨0, rfl, by decide +kernel, rfl⟩
theorem d_Tue_init_1 : zd b_Tue_init 1 (.invokespecial 5) 3 4 := ⟨by decide +kernel, rfl⟩
theorem d_Tue_init_4 : zd_l .aload_n .aload b_Tue_init 4 0 5 := Or.inl ⟨0, rfl, by decide +kernel, rfl⟩
theorem d_Tue_init_5 : zd_k b_Tue_init "SameTuesday" 5 4 6 := Or.inl ⟨4, by decide +kernel, by decide, rfl⟩
theorem d_Tue_init_6 : zd b_Tue_init 6 (.anewarray 11) 3 9 := ⟨by decide +kernel, rfl⟩
theorem d_Tue_init_9 : zd b_Tue_init 9 (.putfield 13) 3 12 := ⟨by decide +kernel, rfl⟩
theorem d_Tue_init_12 : zd_k b_Tue_init "SameTuesday" 12 0 13 := Or.inl ⟨0, by decide +kernel, by decide, rfl⟩
theorem d_Tue_init_13 : zd_l .istore_n .istore b_Tue_init 13 1 14 := Or.inl ⟨1, rfl, by decide +kernel, rfl⟩
theorem d_Tue_init_14 : zd_l .iload_n .iload b_Tue_init 14 1 15 := Or.inl ⟨1, rfl, by decide +kernel, rfl⟩
theorem d_Tue_init_15 : zd_k b_Tue_init "SameTuesday" 15 4 16 := Or.inl ⟨4, by decide +kernel, by decide, rfl⟩
theorem d_Tue_init_16 : zd_b b_Tue_init 16 (.if_icmp .ge) 19 38 := ⟨22, by decide +kernel, by decide, rfl⟩
theorem d_Tue_init_19 : zd_l .aload_n .aload b_Tue_init 19 0 20 := Or.inl ⟨0, rfl, by decide +kernel, rfl⟩
theorem d_Tue_init_20 : zd b_Tue_init 20 (.getfield 13) 3 23 := ⟨by decide +kernel, rfl⟩
theorem d_Tue_init_23 : zd_l .iload_n .iload b_Tue_init 23 1 24 := Or.inl ⟨1, rfl, by decide +kernel, rfl⟩
theorem d_Tue_init_24 : zd b_Tue_init 24 (.new 11) 3 27 := ⟨by decide +kernel, rfl⟩
theorem d_Tue_init_27 : zd b_Tue_init 27 .dup 1 28 := ⟨by decide +kernel, rfl⟩
theorem d_Tue_init_28 : zd b_Tue_init 28 (.invokespecial 17) 3 31 := ⟨by decide +kernel, rfl⟩
theorem d_Tue_init_31 : zd b_Tue_init 31 .aastore 1 32 := ⟨by decide +kernel, rfl⟩
theorem d_Tue_init_32 : zd_i b_Tue_init 32 1 1 1 35 := ⟨by decide +kernel, by decide, rfl⟩
theorem d_Tue_init_35 : zd_b b_Tue_init 35 .goto 38 14 := ⟨(-21), by decide +kernel, by decide, rfl⟩
theorem d_Tue_init_38 : zd_l .aload_n .aload b_Tue_init 38 0 39 := Or.inl ⟨0, rfl, by decide +kernel, rfl⟩
theorem d_Tue_init_39 : zd b_Tue_init 39 (.new 18) 3 42 := ⟨by decide +kernel, rfl⟩
theorem d_Tue_init_42 : zd b_Tue_init 42 .dup 1 43 := ⟨by decide +kernel, rfl⟩
theorem d_Tue_init_43 : zd b_Tue_init 43 (.invokespecial 20) 3 46 := ⟨by decide +kernel, rfl⟩
theorem d_Tue_init_46 : zd b_Tue_init 46 (.putfield 21) 3 49 := ⟨by decide +kernel, rfl⟩
theorem d_Tue_init_49 : zd_l .aload_n .aload b_Tue_init 49 0 50 := Or.inl ⟨0, rfl, by decide +kernel, rfl⟩
theorem d_Tue_init_50 : zd b_Tue_init 50 (.new 25) 3 53 := ⟨by decide +kernel, rfl⟩
theorem d_Tue_init_53 : zd b_Tue_init 53 .dup 1 54 := ⟨by decide +kernel, rfl⟩
theorem d_Tue_init_54 : zd_l .aload_n .aload b_Tue_init 54 0 55 := Or.inl ⟨0, rfl, by decide +kernel, rfl⟩
theorem d_Tue_init_55 : zd b_Tue_init 55 (.getfield 21) 3 58 := ⟨by decide +kernel, rfl⟩
theorem d_Tue_init_58 : zd b_Tue_init 58 (.invokespecial 27) 3 61 := ⟨by decide +kernel, rfl⟩
theorem d_Tue_init_61 : zd b_Tue_init 61 (.putfield 30) 3 64 := ⟨by decide +kernel, rfl⟩
theorem d_Tue_init_64 : zd_l .aload_n .aload b_Tue_init 64 0 65 := Or.inl ⟨0, rfl, by decide +kernel, rfl⟩
theorem d_Tue_init_65 : zd b_Tue_init 65 (.new 34) 3 68 := ⟨by decide +kernel, rfl⟩
theorem d_Tue_init_68 : zd b_Tue_init 68 .dup 1 69 := ⟨by decide +kernel, rfl⟩
theorem d_Tue_init_69 : zd_l .aload_n .aload b_Tue_init 69 0 70 := Or.inl ⟨0, rfl, by decide +kernel, rfl⟩
theorem d_Tue_init_70 : zd b_Tue_init 70 (.getfield 21) 3 73 := ⟨by decide +kernel, rfl⟩
theorem d_Tue_init_73 : zd b_Tue_init 73 (.invokespecial 36) 3 76 := ⟨by decide +kernel, rfl⟩
theorem d_Tue_init_76 : zd b_Tue_init 76 (.putfield 37) 3 79 := ⟨by decide +kernel, rfl⟩
theorem d_Tue_init_79 : zd_l .aload_n .aload b_Tue_init 79 0 80 := Or.inl ⟨0, rfl, by decide +kernel, rfl⟩
theorem d_Tue_init_80 : zd b_Tue_init 80 (.new 41) 3 83 := ⟨by decide +kernel, rfl⟩
theorem d_Tue_init_83 : zd b_Tue_init 83 .dup 1 84 := ⟨by decide +kernel, rfl⟩
theorem d_Tue_init_84 : zd b_Tue_init 84 (.invokespecial 43) 3 87 := ⟨by decide +kernel, rfl⟩
theorem d_Tue_init_87 : zd b_Tue_init 87 (.putfield 44) 3 90 := ⟨by decide +kernel, rfl⟩
theorem d_Tue_init_90 : zd_l .aload_n .aload b_Tue_init 90 0 91 := Or.inl ⟨0, rfl, by decide +kernel, rfl⟩
theorem d_Tue_init_91 : zd b_Tue_init 91 (.new 48) 3 94 := ⟨by decide +kernel, rfl⟩
theorem d_Tue_init_94 : zd b_Tue_init 94 .dup 1 95 := ⟨by decide +kernel, rfl⟩
theorem d_Tue_init_95 : zd b_Tue_init 95 (.invokespecial 50) 3 98 := ⟨by decide +kernel, rfl⟩
theorem d_Tue_init_98 : zd b_Tue_init 98 (.putfield 51) 3 101 := ⟨by decide +kernel, rfl⟩
theorem d_Tue_init_101 : zd_l .aload_n .aload b_Tue_init 101 0 102 := Or.inl ⟨0, rfl, by decide +kernel, rfl⟩
theorem d_Tue_init_102 : zd_k b_Tue_init "SameTuesday" 102 0 103 := Or.inl ⟨0, by decide +kernel, by decide, rfl⟩
theorem d_Tue_init_103 : zd b_Tue_init 103 (.putfield 55) 3 106 := ⟨by decide +kernel, rfl⟩
theorem d_Tue_init_106 : zd b_Tue_init 106 .return_ 1 107 := ⟨by decide +kernel, rfl⟩
theorem d_Tue_tuesday_0 : zd_l .aload_n .aload b_Tue_tuesday 0 0 1 := Or.inl ⟨0, rfl, by decide +kernel, rfl⟩
theorem d_Tue_tuesday_1 : zd_k b_Tue_tuesday "SameTuesday" 1 0 2 := Or.inl ⟨0, by decide +kernel, by decide, rfl⟩
theorem d_Tue_tuesday_2 : zd b_Tue_tuesday 2 (.putfield 55) 3 5 := ⟨by decide +kernel, rfl⟩
theorem d_Tue_tuesday_5 : zd_l .aload_n .aload b_Tue_tuesday 5 0 6 := Or.inl ⟨0, rfl, by decide +kernel, rfl⟩
theorem d_Tue_tuesday_6 : zd_l .iload_n .iload b_Tue_tuesday 6 1 7 := Or.inl ⟨1, rfl, by decide +kernel, rfl⟩
theorem d_Tue_tuesday_7 : zd b_Tue_tuesday 7 (.invokevirtual 59) 3 10 := ⟨by decide +kernel, rfl⟩
theorem d_Tue_tuesday_10 : zd_l .astore_n .astore b_Tue_tuesday 10 5 12 := Or.inr ⟨by decide +kernel, rfl⟩
theorem d_Tue_tuesday_12 : zd_l .aload_n .aload b_Tue_tuesday 12 5 14 := Or.inr ⟨by decide +kernel, rfl⟩
theorem d_Tue_tuesday_14 : zd_b b_Tue_tuesday 14 .ifnonnull 17 19 := ⟨5, by decide +kernel, by decide, rfl⟩
theorem d_Tue_tuesday_17 : zd_k b_Tue_tuesday "SameTuesday" 17 (-1) 18 := Or.inl ⟨(-1), by decide +kernel, by decide, rfl⟩
theorem d_Tue_tuesday_18 : zd b_Tue_tuesday 18 .ireturn 1 19 := ⟨by decide +kernel, rfl⟩
theorem d_Tue_tuesday_19 : zd_l .aload_n .aload b_Tue_tuesday 19 0 20 := Or.inl ⟨0, rfl, by decide +kernel, rfl⟩
theorem d_Tue_tuesday_20 : zd_l .aload_n .aload b_Tue_tuesday 20 5 22 := Or.inr ⟨by decide +kernel, rfl⟩
theorem d_Tue_tuesday_22 : zd_l .iload_n .iload b_Tue_tuesday 22 2 23 := Or.inl ⟨2, rfl, by decide +kernel, rfl⟩
theorem d_Tue_tuesday_23 : zd_l .iload_n .iload b_Tue_tuesday 23 3 24 := Or.inl ⟨3, rfl, by decide +kernel, rfl⟩
theorem d_Tue_tuesday_24 : zd_l .iload_n .iload b_Tue_tuesday 24 4 26 := Or.inr ⟨by decide +kernel, rfl⟩
theorem d_Tue_tuesday_26 : zd b_Tue_tuesday 26 (.invokevirtual 63) 3 29 := ⟨by decide +kernel, rfl⟩
theorem d_Tue_tuesday_29 : zd_l .istore_n .istore b_Tue_tuesday 29 6 31 := Or.inr ⟨by decide +kernel, rfl⟩
theorem d_Tue_tuesday_31 : zd_l .iload_n .iload b_Tue_tuesday 31 6 33 := Or.inr ⟨by decide +kernel, rfl⟩
theorem d_Tue_tuesday_33 : zd_b b_Tue_tuesday 33 (.ifCond .eq) 36 39 := ⟨6, by decide +kernel, by decide, rfl⟩
theorem d_Tue_tuesday_36 : zd_l .iload_n .iload b_Tue_tuesday 36 6 38 := Or.inr ⟨by decide +kernel, rfl⟩
theorem d_Tue_tuesday_38 : zd b_Tue_tuesday 38 .ireturn 1 39 := ⟨by decide +kernel, rfl⟩
theorem d_Tue_tuesday_39 : zd b_Tue_tuesday 39 (.new 67) 3 42 := ⟨by decide +kernel, rfl⟩
theorem d_Tue_tuesday_42 : zd b_Tue_tuesday 42 .dup 1 43 := ⟨by decide +kernel, rfl⟩
theorem d_Tue_tuesday_43 : zd_l .aload_n .aload b_Tue_tuesday 43 5 45 := Or.inr ⟨by decide +kernel, rfl⟩
theorem d_Tue_tuesday_45 : zd_l .iload_n .iload b_Tue_tuesday 45 3 46 := Or.inl ⟨3, rfl, by decide +kernel, rfl⟩
theorem d_Tue_tuesday_46 : zd_l .iload_n .iload b_Tue_tuesday 46 4 48 := Or.inr ⟨by decide +kernel, rfl⟩
theorem d_Tue_tuesday_48 : zd b_Tue_tuesday 48 (.invokespecial 69) 3 51 := ⟨by decide +kernel, rfl⟩
theorem d_Tue_tuesday_51 : zd_l .astore_n .astore b_Tue_tuesday 51 7 53 := Or.inr ⟨by decide +kernel, rfl⟩
theorem d_Tue_tuesday_53 : zd_l .aload_n .aload b_Tue_tuesday 53 7 55 := Or.inr ⟨by decide +kernel, rfl⟩
theorem d_Tue_tuesday_55 : zd b_Tue_tuesday 55 (.invokevirtual 72) 3 58 := ⟨by decide +kernel, rfl⟩
theorem d_Tue_tuesday_58 : zd_l .istore_n .istore b_Tue_tuesday 58 8 60 := Or.inr ⟨by decide +kernel, rfl⟩
theorem d_Tue_tuesday_60 : zd_l .iload_n .iload b_Tue_tuesday 60 8 62 := Or.inr ⟨by decide +kernel, rfl⟩
theorem d_Tue_tuesday_62 : zd_k b_Tue_tuesday "SameTuesday" 62 (-9) 64 := Or.inr (Or.inl ⟨(-9), by decide +kernel, by decide, rfl⟩)
theorem d_Tue_tuesday_64 : zd_b b_Tue_tuesday 64 (.if_icmp .eq) 67 73 := ⟨9, by decide +kernel, by decide, rfl⟩
theorem d_Tue_tuesday_67 : zd_k b_Tue_tuesday "SameTuesday" 67 (-100) 69 := Or.inr (Or.inl ⟨(-100), by decide +kernel, by decide, rfl⟩)
theorem d_Tue_tuesday_69 : zd_l .iload_n .iload b_Tue_tuesday 69 8 71 := Or.inr ⟨by decide +kernel, rfl⟩
theorem d_Tue_tuesday_71 : zd b_Tue_tuesday 71 .isub 1 72 := ⟨by decide +kernel, rfl⟩
theorem d_Tue_tuesday_72 : zd b_Tue_tuesday 72 .ireturn 1 73 := ⟨by decide +kernel, rfl⟩
theorem d_Tue_tuesday_73 : zd_l .aload_n .aload b_Tue_tuesday 73 0 74 := Or.inl ⟨0, rfl, by decide +kernel, rfl⟩
theorem d_Tue_tuesday_74 : zd b_Tue_tuesday 74 (.getfield 21) 3 77 := ⟨by decide +kernel, rfl⟩
theorem d_Tue_tuesday_77 : zd_l .aload_n .aload b_Tue_tuesday 77 7 79 := Or.inr ⟨by decide +kernel, rfl⟩
theorem d_Tue_tuesday_79 : zd b_Tue_tuesday 79 (.invokevirtual 76) 3 82 := ⟨by decide +kernel, rfl⟩
theorem d_Tue_tuesday_82 : zd_l .aload_n .aload b_Tue_tuesday 82 0 83 := Or.inl ⟨0, rfl, by decide +kernel, rfl⟩
theorem d_Tue_tuesday_83 : zd b_Tue_tuesday 83 (.getfield 44) 3 86 := ⟨by decide +kernel, rfl⟩
theorem d_Tue_tuesday_86 : zd_l .aload_n .aload b_Tue_tuesday 86 0 87 := Or.inl ⟨0, rfl, by decide +kernel, rfl⟩
theorem d_Tue_tuesday_87 : zd b_Tue_tuesday 87 (.getfield 44) 3 90 := ⟨by decide +kernel, rfl⟩
theorem d_Tue_tuesday_90 : zd b_Tue_tuesday 90 (.invokevirtual 80) 3 93 := ⟨by decide +kernel, rfl⟩
theorem d_Tue_tuesday_93 : zd b_Tue_tuesday 93 (.invokevirtual 83) 3 96 := ⟨by decide +kernel, rfl⟩
theorem d_Tue_tuesday_96 : zd_l .aload_n .aload b_Tue_tuesday 96 0 97 := Or.inl ⟨0, rfl, by decide +kernel, rfl⟩
theorem d_Tue_tuesday_97 : zd b_Tue_tuesday 97 (.getfield 37) 3 100 := ⟨by decide +kernel, rfl⟩
theorem d_Tue_tuesday_100 : zd b_Tue_tuesday 100 (.invokevirtual 87) 3 103 := ⟨by decide +kernel, rfl⟩
theorem d_Tue_tuesday_103 : zd_l .aload_n .aload b_Tue_tuesday 103 0 104 := Or.inl ⟨0, rfl, by decide +kernel, rfl⟩
theorem d_Tue_tuesday_104 : zd b_Tue_tuesday 104 (.getfield 21) 3 107 := ⟨by decide +kernel, rfl⟩
theorem d_Tue_tuesday_107 : zd b_Tue_tuesday 107 (.invokevirtual 90) 3 110 := ⟨by decide +kernel, rfl⟩
theorem d_Tue_tuesday_110 : zd b_Tue_tuesday 110 .ireturn 1 111 := ⟨by decide +kernel, rfl⟩
theorem d_Tue_ofHappening_0 : zd_l .aload_n .aload b_Tue_ofHappening 0 0 1 := Or.inl ⟨0, rfl, by decide +kernel, rfl⟩
theorem d_Tue_ofHappening_1 : zd b_Tue_ofHappening 1 (.getfield 21) 3 4 := ⟨by decide +kernel, rfl⟩
theorem d_Tue_ofHappening_4 : zd_l .iload_n .iload b_Tue_ofHappening 4 1 5 := Or.inl ⟨1, rfl, by decide +kernel, rfl⟩
theorem d_Tue_ofHappening_5 : zd b_Tue_ofHappening 5 (.invokevirtual 93) 3 8 := ⟨by decide +kernel, rfl⟩
theorem d_Tue_ofHappening_8 : zd_l .astore_n .astore b_Tue_ofHappening 8 3 9 := Or.inl ⟨3, rfl, by decide +kernel, rfl⟩
theorem d_Tue_ofHappening_9 : zd_l .aload_n .aload b_Tue_ofHappening 9 3 10 := Or.inl ⟨3, rfl, by decide +kernel, rfl⟩
theorem d_Tue_ofHappening_10 : zd_b b_Tue_ofHappening 10 .ifnonnull 13 15 := ⟨5, by decide +kernel, by decide, rfl⟩
theorem d_Tue_ofHappening_13 : zd_k b_Tue_ofHappening "SameTuesday" 13 (-1) 14 := Or.inl ⟨(-1), by decide +kernel, by decide, rfl⟩
theorem d_Tue_ofHappening_14 : zd b_Tue_ofHappening 14 .ireturn 1 15 := ⟨by decide +kernel, rfl⟩
theorem d_Tue_ofHappening_15 : zd_l .iload_n .iload b_Tue_ofHappening 15 2 16 := Or.inl ⟨2, rfl, by decide +kernel, rfl⟩
theorem d_Tue_ofHappening_16 : decode b_Tue_ofHappening 16 = .ok (.tableswitch 52 0 3 #[32, 37, 42, 47], 32) := by decide +kernel
theorem d_Tue_ofHappening_48 : zd_l .aload_n .aload b_Tue_ofHappening 48 3 49 := Or.inl ⟨3, rfl, by decide +kernel, rfl⟩
theorem d_Tue_ofHappening_49 : zd b_Tue_ofHappening 49 (.invokevirtual 97) 3 52 := ⟨by decide +kernel, rfl⟩
theorem d_Tue_ofHappening_52 : zd b_Tue_ofHappening 52 .ireturn 1 53 := ⟨by decide +kernel, rfl⟩
theorem d_Tue_ofHappening_53 : zd_l .aload_n .aload b_Tue_ofHappening 53 3 54 := Or.inl ⟨3, rfl, by decide +kernel, rfl⟩
theorem d_Tue_ofHappening_54 : zd b_Tue_ofHappening 54 (.getfield 102) 3 57 := ⟨by decide +kernel, rfl⟩
theorem d_Tue_ofHappening_57 : zd b_Tue_ofHappening 57 .ireturn 1 58 := ⟨by decide +kernel, rfl⟩
theorem d_Tue_ofHappening_58 : zd_l .aload_n .aload b_Tue_ofHappening 58 3 59 := Or.inl ⟨3, rfl, by decide +kernel, rfl⟩
theorem d_Tue_ofHappening_59 : zd b_Tue_ofHappening 59 (.getfield 105) 3 62 := ⟨by decide +kernel, rfl⟩
theorem d_Tue_ofHappening_62 : zd b_Tue_ofHappening 62 .ireturn 1 63 := ⟨by decide +kernel, rfl⟩
theorem d_Tue_ofHappening_63 : zd_l .aload_n .aload b_Tue_ofHappening 63 3 64 := Or.inl ⟨3, rfl, by decide +kernel, rfl⟩
theorem d_Tue_ofHappening_64 : zd b_Tue_ofHappening 64 (.getfield 108) 3 67 := ⟨by decide +kernel, rfl⟩
theorem d_Tue_ofHappening_67 : zd b_Tue_ofHappening 67 .ireturn 1 68 := ⟨by decide +kernel, rfl⟩
theorem d_Tue_ofHappening_68 : zd_k b_Tue_ofHappening "SameTuesday" 68 (-2) 70 := Or.inr (Or.inl ⟨(-2), by decide +kernel, by decide, rfl⟩)
theorem d_Tue_ofHappening_70 : zd b_Tue_ofHappening 70 .ireturn 1 71 := ⟨by decide +kernel, rfl⟩
theorem d_Tue_ofDeed_0 : zd_l .aload_n .aload b_Tue_ofDeed 0 0 1 := Or.inl ⟨0, rfl, by decide +kernel, rfl⟩
theorem d_Tue_ofDeed_1 : zd b_Tue_ofDeed 1 (.getfield 21) 3 4 := ⟨by decide +kernel, rfl⟩
theorem d_Tue_ofDeed_4 : zd_l .iload_n .iload b_Tue_ofDeed 4 1 5 := Or.inl ⟨1, rfl, by decide +kernel, rfl⟩
theorem d_Tue_ofDeed_5 : zd b_Tue_ofDeed 5 (.invokevirtual 111) 3 8 := ⟨by decide +kernel, rfl⟩
theorem d_Tue_ofDeed_8 : zd_l .astore_n .astore b_Tue_ofDeed 8 3 9 := Or.inl ⟨3, rfl, by decide +kernel, rfl⟩
theorem d_Tue_ofDeed_9 : zd_l .aload_n .aload b_Tue_ofDeed 9 3 10 := Or.inl ⟨3, rfl, by decide +kernel, rfl⟩
theorem d_Tue_ofDeed_10 : zd_b b_Tue_ofDeed 10 .ifnonnull 13 15 := ⟨5, by decide +kernel, by decide, rfl⟩
theorem d_Tue_ofDeed_13 : zd_k b_Tue_ofDeed "SameTuesday" 13 (-1) 14 := Or.inl ⟨(-1), by decide +kernel, by decide, rfl⟩
theorem d_Tue_ofDeed_14 : zd b_Tue_ofDeed 14 .ireturn 1 15 := ⟨by decide +kernel, rfl⟩
theorem d_Tue_ofDeed_15 : zd_l .iload_n .iload b_Tue_ofDeed 15 2 16 := Or.inl ⟨2, rfl, by decide +kernel, rfl⟩
theorem d_Tue_ofDeed_16 : decode b_Tue_ofDeed 16 = .ok (.tableswitch 52 0 3 #[32, 37, 42, 47], 32) := by decide +kernel
theorem d_Tue_ofDeed_48 : zd_l .aload_n .aload b_Tue_ofDeed 48 3 49 := Or.inl ⟨3, rfl, by decide +kernel, rfl⟩
theorem d_Tue_ofDeed_49 : zd b_Tue_ofDeed 49 (.getfield 115) 3 52 := ⟨by decide +kernel, rfl⟩
theorem d_Tue_ofDeed_52 : zd b_Tue_ofDeed 52 .ireturn 1 53 := ⟨by decide +kernel, rfl⟩
theorem d_Tue_ofDeed_53 : zd_l .aload_n .aload b_Tue_ofDeed 53 3 54 := Or.inl ⟨3, rfl, by decide +kernel, rfl⟩
theorem d_Tue_ofDeed_54 : zd b_Tue_ofDeed 54 (.getfield 118) 3 57 := ⟨by decide +kernel, rfl⟩
theorem d_Tue_ofDeed_57 : zd b_Tue_ofDeed 57 .ireturn 1 58 := ⟨by decide +kernel, rfl⟩
theorem d_Tue_ofDeed_58 : zd_l .aload_n .aload b_Tue_ofDeed 58 3 59 := Or.inl ⟨3, rfl, by decide +kernel, rfl⟩
theorem d_Tue_ofDeed_59 : zd b_Tue_ofDeed 59 (.getfield 119) 3 62 := ⟨by decide +kernel, rfl⟩
theorem d_Tue_ofDeed_62 : zd b_Tue_ofDeed 62 .ireturn 1 63 := ⟨by decide +kernel, rfl⟩
theorem d_Tue_ofDeed_63 : zd_l .aload_n .aload b_Tue_ofDeed 63 3 64 := Or.inl ⟨3, rfl, by decide +kernel, rfl⟩
theorem d_Tue_ofDeed_64 : zd b_Tue_ofDeed 64 (.getfield 122) 3 67 := ⟨by decide +kernel, rfl⟩
theorem d_Tue_ofDeed_67 : zd b_Tue_ofDeed 67 .ireturn 1 68 := ⟨by decide +kernel, rfl⟩
theorem d_Tue_ofDeed_68 : zd_k b_Tue_ofDeed "SameTuesday" 68 (-2) 70 := Or.inr (Or.inl ⟨(-2), by decide +kernel, by decide, rfl⟩)
theorem d_Tue_ofDeed_70 : zd b_Tue_ofDeed 70 .ireturn 1 71 := ⟨by decide +kernel, rfl⟩
theorem d_Tue_minutes_0 : zd_l .iload_n .iload b_Tue_minutes 0 1 1 := Or.inl ⟨1, rfl, by decide +kernel, rfl⟩
theorem d_Tue_minutes_1 : zd_k b_Tue_minutes "SameTuesday" 1 1 2 := Or.inl ⟨1, by decide +kernel, by decide, rfl⟩
theorem d_Tue_minutes_2 : zd_b b_Tue_minutes 2 (.if_icmp .lt) 5 11 := ⟨9, by decide +kernel, by decide, rfl⟩
theorem d_Tue_minutes_5 : zd_l .iload_n .iload b_Tue_minutes 5 1 6 := Or.inl ⟨1, rfl, by decide +kernel, rfl⟩
theorem d_Tue_minutes_6 : zd_k b_Tue_minutes "SameTuesday" 6 60 8 := Or.inr (Or.inl ⟨60, by decide +kernel, by decide, rfl⟩)
theorem d_Tue_minutes_8 : zd_b b_Tue_minutes 8 (.if_icmp .le) 11 14 := ⟨6, by decide +kernel, by decide, rfl⟩
theorem d_Tue_minutes_11 : zd_k b_Tue_minutes "SameTuesday" 11 (-2) 13 := Or.inr (Or.inl ⟨(-2), by decide +kernel, by decide, rfl⟩)
theorem d_Tue_minutes_13 : zd b_Tue_minutes 13 .ireturn 1 14 := ⟨by decide +kernel, rfl⟩
theorem d_Tue_minutes_14 : zd_l .aload_n .aload b_Tue_minutes 14 0 15 := Or.inl ⟨0, rfl, by decide +kernel, rfl⟩
theorem d_Tue_minutes_15 : zd b_Tue_minutes 15 (.getfield 21) 3 18 := ⟨by decide +kernel, rfl⟩
theorem d_Tue_minutes_18 : zd b_Tue_minutes 18 (.invokevirtual 125) 3 21 := ⟨by decide +kernel, rfl⟩
theorem d_Tue_minutes_21 : zd_b b_Tue_minutes 21 (.ifCond .ne) 24 27 := ⟨6, by decide +kernel, by decide, rfl⟩
theorem d_Tue_minutes_24 : zd_k b_Tue_minutes "SameTuesday" 24 (-3) 26 := Or.inr (Or.inl ⟨(-3), by decide +kernel, by decide, rfl⟩)
theorem d_Tue_minutes_26 : zd b_Tue_minutes 26 .ireturn 1 27 := ⟨by decide +kernel, rfl⟩
theorem d_Tue_minutes_27 : zd_l .aload_n .aload b_Tue_minutes 27 0 28 := Or.inl ⟨0, rfl, by decide +kernel, rfl⟩
theorem d_Tue_minutes_28 : zd b_Tue_minutes 28 (.getfield 21) 3 31 := ⟨by decide +kernel, rfl⟩
theorem d_Tue_minutes_31 : zd b_Tue_minutes 31 (.invokevirtual 129) 3 34 := ⟨by decide +kernel, rfl⟩
theorem d_Tue_minutes_34 : zd_l .istore_n .istore b_Tue_minutes 34 2 35 := Or.inl ⟨2, rfl, by decide +kernel, rfl⟩
theorem d_Tue_minutes_35 : zd_l .aload_n .aload b_Tue_minutes 35 0 36 := Or.inl ⟨0, rfl, by decide +kernel, rfl⟩
theorem d_Tue_minutes_36 : zd b_Tue_minutes 36 (.getfield 21) 3 39 := ⟨by decide +kernel, rfl⟩
theorem d_Tue_minutes_39 : zd_l .iload_n .iload b_Tue_minutes 39 1 40 := Or.inl ⟨1, rfl, by decide +kernel, rfl⟩
theorem d_Tue_minutes_40 : zd b_Tue_minutes 40 (.invokevirtual 132) 3 43 := ⟨by decide +kernel, rfl⟩
theorem d_Tue_minutes_43 : zd_l .aload_n .aload b_Tue_minutes 43 0 44 := Or.inl ⟨0, rfl, by decide +kernel, rfl⟩
theorem d_Tue_minutes_44 : zd b_Tue_minutes 44 (.getfield 37) 3 47 := ⟨by decide +kernel, rfl⟩
theorem d_Tue_minutes_47 : zd b_Tue_minutes 47 (.invokevirtual 87) 3 50 := ⟨by decide +kernel, rfl⟩
theorem d_Tue_minutes_50 : zd_l .iload_n .iload b_Tue_minutes 50 2 51 := Or.inl ⟨2, rfl, by decide +kernel, rfl⟩
theorem d_Tue_minutes_51 : zd b_Tue_minutes 51 .ireturn 1 52 := ⟨by decide +kernel, rfl⟩
theorem d_Tue_shift_0 : zd_l .aload_n .aload b_Tue_shift 0 0 1 := Or.inl ⟨0, rfl, by decide +kernel, rfl⟩
theorem d_Tue_shift_1 : zd b_Tue_shift 1 (.getfield 21) 3 4 := ⟨by decide +kernel, rfl⟩
theorem d_Tue_shift_4 : zd_l .iload_n .iload b_Tue_shift 4 1 5 := Or.inl ⟨1, rfl, by decide +kernel, rfl⟩
theorem d_Tue_shift_5 : zd b_Tue_shift 5 (.invokevirtual 93) 3 8 := ⟨by decide +kernel, rfl⟩
theorem d_Tue_shift_8 : zd_l .astore_n .astore b_Tue_shift 8 3 9 := Or.inl ⟨3, rfl, by decide +kernel, rfl⟩
theorem d_Tue_shift_9 : zd_l .aload_n .aload b_Tue_shift 9 3 10 := Or.inl ⟨3, rfl, by decide +kernel, rfl⟩
theorem d_Tue_shift_10 : zd_b b_Tue_shift 10 .ifnonnull 13 15 := ⟨5, by decide +kernel, by decide, rfl⟩
theorem d_Tue_shift_13 : zd_k b_Tue_shift "SameTuesday" 13 (-1) 14 := Or.inl ⟨(-1), by decide +kernel, by decide, rfl⟩
theorem d_Tue_shift_14 : zd b_Tue_shift 14 .ireturn 1 15 := ⟨by decide +kernel, rfl⟩
theorem d_Tue_shift_15 : zd_l .iload_n .iload b_Tue_shift 15 2 16 := Or.inl ⟨2, rfl, by decide +kernel, rfl⟩
theorem d_Tue_shift_16 : zd b_Tue_shift 16 (.invokestatic 135) 3 19 := ⟨by decide +kernel, rfl⟩
theorem d_Tue_shift_19 : zd_b b_Tue_shift 19 (.ifCond .ne) 22 25 := ⟨6, by decide +kernel, by decide, rfl⟩
theorem d_Tue_shift_22 : zd_k b_Tue_shift "SameTuesday" 22 (-2) 24 := Or.inr (Or.inl ⟨(-2), by decide +kernel, by decide, rfl⟩)
theorem d_Tue_shift_24 : zd b_Tue_shift 24 .ireturn 1 25 := ⟨by decide +kernel, rfl⟩
theorem d_Tue_shift_25 : zd_l .aload_n .aload b_Tue_shift 25 3 26 := Or.inl ⟨3, rfl, by decide +kernel, rfl⟩
theorem d_Tue_shift_26 : zd b_Tue_shift 26 (.getfield 102) 3 29 := ⟨by decide +kernel, rfl⟩
theorem d_Tue_shift_29 : zd_l .istore_n .istore b_Tue_shift 29 4 31 := Or.inr ⟨by decide +kernel, rfl⟩
theorem d_Tue_shift_31 : zd_l .aload_n .aload b_Tue_shift 31 0 32 := Or.inl ⟨0, rfl, by decide +kernel, rfl⟩
theorem d_Tue_shift_32 : zd b_Tue_shift 32 (.getfield 21) 3 35 := ⟨by decide +kernel, rfl⟩
theorem d_Tue_shift_35 : zd_l .aload_n .aload b_Tue_shift 35 3 36 := Or.inl ⟨3, rfl, by decide +kernel, rfl⟩
theorem d_Tue_shift_36 : zd_l .iload_n .iload b_Tue_shift 36 2 37 := Or.inl ⟨2, rfl, by decide +kernel, rfl⟩
theorem d_Tue_shift_37 : zd b_Tue_shift 37 (.invokevirtual 139) 3 40 := ⟨by decide +kernel, rfl⟩
theorem d_Tue_shift_40 : zd_l .aload_n .aload b_Tue_shift 40 0 41 := Or.inl ⟨0, rfl, by decide +kernel, rfl⟩
theorem d_Tue_shift_41 : zd b_Tue_shift 41 (.getfield 37) 3 44 := ⟨by decide +kernel, rfl⟩
theorem d_Tue_shift_44 : zd b_Tue_shift 44 (.invokevirtual 87) 3 47 := ⟨by decide +kernel, rfl⟩
theorem d_Tue_shift_47 : zd_l .iload_n .iload b_Tue_shift 47 4 49 := Or.inr ⟨by decide +kernel, rfl⟩
theorem d_Tue_shift_49 : zd b_Tue_shift 49 .ireturn 1 50 := ⟨by decide +kernel, rfl⟩
theorem d_Tue_live_0 : zd_l .aload_n .aload b_Tue_live 0 0 1 := Or.inl ⟨0, rfl, by decide +kernel, rfl⟩
theorem d_Tue_live_1 : zd_l .iload_n .iload b_Tue_live 1 1 2 := Or.inl ⟨1, rfl, by decide +kernel, rfl⟩
theorem d_Tue_live_2 : zd_l .iload_n .iload b_Tue_live 2 2 3 := Or.inl ⟨2, rfl, by decide +kernel, rfl⟩
theorem d_Tue_live_3 : zd_l .iload_n .iload b_Tue_live 3 3 4 := Or.inl ⟨3, rfl, by decide +kernel, rfl⟩
theorem d_Tue_live_4 : zd_l .iload_n .iload b_Tue_live 4 4 6 := Or.inr ⟨by decide +kernel, rfl⟩
theorem d_Tue_live_6 : zd_l .iload_n .iload b_Tue_live 6 5 8 := Or.inr ⟨by decide +kernel, rfl⟩
theorem d_Tue_live_8 : zd_b b_Tue_live 8 (.ifCond .eq) 11 17 := ⟨9, by decide +kernel, by decide, rfl⟩
theorem d_Tue_live_11 : zd_l .iload_n .iload b_Tue_live 11 5 13 := Or.inr ⟨by decide +kernel, rfl⟩
theorem d_Tue_live_13 : zd_k b_Tue_live "SameTuesday" 13 1 14 := Or.inl ⟨1, by decide +kernel, by decide, rfl⟩
theorem d_Tue_live_14 : zd_b b_Tue_live 14 (.if_icmp .ne) 17 21 := ⟨7, by decide +kernel, by decide, rfl⟩
theorem d_Tue_live_17 : zd_k b_Tue_live "SameTuesday" 17 1 18 := Or.inl ⟨1, by decide +kernel, by decide, rfl⟩
theorem d_Tue_live_18 : zd_b b_Tue_live 18 .goto 21 22 := ⟨4, by decide +kernel, by decide, rfl⟩
theorem d_Tue_live_21 : zd_k b_Tue_live "SameTuesday" 21 0 22 := Or.inl ⟨0, by decide +kernel, by decide, rfl⟩
theorem d_Tue_live_22 : zd b_Tue_live 22 (.invokevirtual 143) 3 25 := ⟨by decide +kernel, rfl⟩
theorem d_Tue_live_25 : zd_l .istore_n .istore b_Tue_live 25 6 27 := Or.inr ⟨by decide +kernel, rfl⟩
theorem d_Tue_live_27 : zd_l .iload_n .iload b_Tue_live 27 6 29 := Or.inr ⟨by decide +kernel, rfl⟩
theorem d_Tue_live_29 : zd_b b_Tue_live 29 (.ifCond .eq) 32 35 := ⟨6, by decide +kernel, by decide, rfl⟩
theorem d_Tue_live_32 : zd_l .iload_n .iload b_Tue_live 32 6 34 := Or.inr ⟨by decide +kernel, rfl⟩
theorem d_Tue_live_34 : zd b_Tue_live 34 .ireturn 1 35 := ⟨by decide +kernel, rfl⟩
theorem d_Tue_live_35 : zd_l .aload_n .aload b_Tue_live 35 0 36 := Or.inl ⟨0, rfl, by decide +kernel, rfl⟩
theorem d_Tue_live_36 : zd b_Tue_live 36 (.getfield 30) 3 39 := ⟨by decide +kernel, rfl⟩
theorem d_Tue_live_39 : zd_k b_Tue_live "SameTuesday" 39 59 41 := Or.inr (Or.inl ⟨59, by decide +kernel, by decide, rfl⟩)
theorem d_Tue_live_41 : zd_k b_Tue_live "SameTuesday" 41 63 43 := Or.inr (Or.inl ⟨63, by decide +kernel, by decide, rfl⟩)
theorem d_Tue_live_43 : zd b_Tue_live 43 (.invokevirtual 147) 3 46 := ⟨by decide +kernel, rfl⟩
theorem d_Tue_live_46 : zd_l .istore_n .istore b_Tue_live 46 7 48 := Or.inr ⟨by decide +kernel, rfl⟩
theorem d_Tue_live_48 : zd_l .iload_n .iload b_Tue_live 48 5 50 := Or.inr ⟨by decide +kernel, rfl⟩
theorem d_Tue_live_50 : zd_b b_Tue_live 50 (.ifCond .ne) 53 63 := ⟨13, by decide +kernel, by decide, rfl⟩
theorem d_Tue_live_53 : zd_l .aload_n .aload b_Tue_live 53 0 54 := Or.inl ⟨0, rfl, by decide +kernel, rfl⟩
theorem d_Tue_live_54 : zd b_Tue_live 54 (.getfield 30) 3 57 := ⟨by decide +kernel, rfl⟩
theorem d_Tue_live_57 : zd b_Tue_live 57 (.invokevirtual 151) 3 60 := ⟨by decide +kernel, rfl⟩
theorem d_Tue_live_60 : zd_b b_Tue_live 60 .goto 63 65 := ⟨5, by decide +kernel, by decide, rfl⟩
theorem d_Tue_live_63 : zd_l .iload_n .iload b_Tue_live 63 7 65 := Or.inr ⟨by decide +kernel, rfl⟩
theorem d_Tue_live_65 : zd b_Tue_live 65 .ireturn 1 66 := ⟨by decide +kernel, rfl⟩
theorem d_Tue_at_0 : zd_l .aload_n .aload b_Tue_at 0 0 1 := Or.inl ⟨0, rfl, by decide +kernel, rfl⟩
theorem d_Tue_at_1 : zd_l .iload_n .iload b_Tue_at 1 2 2 := Or.inl ⟨2, rfl, by decide +kernel, rfl⟩
theorem d_Tue_at_2 : zd_l .iload_n .iload b_Tue_at 2 3 3 := Or.inl ⟨3, rfl, by decide +kernel, rfl⟩
theorem d_Tue_at_3 : zd_l .iload_n .iload b_Tue_at 3 4 5 := Or.inr ⟨by decide +kernel, rfl⟩
theorem d_Tue_at_5 : zd_l .iload_n .iload b_Tue_at 5 5 7 := Or.inr ⟨by decide +kernel, rfl⟩
theorem d_Tue_at_7 : zd_l .iload_n .iload b_Tue_at 7 1 8 := Or.inl ⟨1, rfl, by decide +kernel, rfl⟩
theorem d_Tue_at_8 : zd b_Tue_at 8 (.invokestatic 135) 3 11 := ⟨by decide +kernel, rfl⟩
theorem d_Tue_at_11 : zd b_Tue_at 11 (.invokevirtual 143) 3 14 := ⟨by decide +kernel, rfl⟩
theorem d_Tue_at_14 : zd_l .istore_n .istore b_Tue_at 14 6 16 := Or.inr ⟨by decide +kernel, rfl⟩
theorem d_Tue_at_16 : zd_l .iload_n .iload b_Tue_at 16 6 18 := Or.inr ⟨by decide +kernel, rfl⟩
theorem d_Tue_at_18 : zd_b b_Tue_at 18 (.ifCond .eq) 21 26 := ⟨8, by decide +kernel, by decide, rfl⟩
theorem d_Tue_at_21 : zd_l .iload_n .iload b_Tue_at 21 6 23 := Or.inr ⟨by decide +kernel, rfl⟩
theorem d_Tue_at_23 : zd_b b_Tue_at 23 .goto 26 36 := ⟨13, by decide +kernel, by decide, rfl⟩
theorem d_Tue_at_26 : zd_l .aload_n .aload b_Tue_at 26 0 27 := Or.inl ⟨0, rfl, by decide +kernel, rfl⟩
theorem d_Tue_at_27 : zd b_Tue_at 27 (.getfield 30) 3 30 := ⟨by decide +kernel, rfl⟩
theorem d_Tue_at_30 : zd_l .iload_n .iload b_Tue_at 30 1 31 := Or.inl ⟨1, rfl, by decide +kernel, rfl⟩
theorem d_Tue_at_31 : zd_k b_Tue_at "SameTuesday" 31 63 33 := Or.inr (Or.inl ⟨63, by decide +kernel, by decide, rfl⟩)
theorem d_Tue_at_33 : zd b_Tue_at 33 (.invokevirtual 147) 3 36 := ⟨by decide +kernel, rfl⟩
theorem d_Tue_at_36 : zd b_Tue_at 36 .ireturn 1 37 := ⟨by decide +kernel, rfl⟩
theorem d_Tue_hangs_0 : zd_l .aload_n .aload b_Tue_hangs 0 0 1 := Or.inl ⟨0, rfl, by decide +kernel, rfl⟩
theorem d_Tue_hangs_1 : zd_l .iload_n .iload b_Tue_hangs 1 1 2 := Or.inl ⟨1, rfl, by decide +kernel, rfl⟩
theorem d_Tue_hangs_2 : zd_l .iload_n .iload b_Tue_hangs 2 2 3 := Or.inl ⟨2, rfl, by decide +kernel, rfl⟩
theorem d_Tue_hangs_3 : zd_l .iload_n .iload b_Tue_hangs 3 3 4 := Or.inl ⟨3, rfl, by decide +kernel, rfl⟩
theorem d_Tue_hangs_4 : zd_l .iload_n .iload b_Tue_hangs 4 4 6 := Or.inr ⟨by decide +kernel, rfl⟩
theorem d_Tue_hangs_6 : zd_k b_Tue_hangs "SameTuesday" 6 1 7 := Or.inl ⟨1, by decide +kernel, by decide, rfl⟩
theorem d_Tue_hangs_7 : zd b_Tue_hangs 7 (.invokevirtual 143) 3 10 := ⟨by decide +kernel, rfl⟩
theorem d_Tue_hangs_10 : zd_l .istore_n .istore b_Tue_hangs 10 5 12 := Or.inr ⟨by decide +kernel, rfl⟩
theorem d_Tue_hangs_12 : zd_l .iload_n .iload b_Tue_hangs 12 5 14 := Or.inr ⟨by decide +kernel, rfl⟩
theorem d_Tue_hangs_14 : zd_b b_Tue_hangs 14 (.ifCond .eq) 17 22 := ⟨8, by decide +kernel, by decide, rfl⟩
theorem d_Tue_hangs_17 : zd_l .iload_n .iload b_Tue_hangs 17 5 19 := Or.inr ⟨by decide +kernel, rfl⟩
theorem d_Tue_hangs_19 : zd_b b_Tue_hangs 19 .goto 22 29 := ⟨10, by decide +kernel, by decide, rfl⟩
theorem d_Tue_hangs_22 : zd_l .aload_n .aload b_Tue_hangs 22 0 23 := Or.inl ⟨0, rfl, by decide +kernel, rfl⟩
theorem d_Tue_hangs_23 : zd b_Tue_hangs 23 (.getfield 30) 3 26 := ⟨by decide +kernel, rfl⟩
theorem d_Tue_hangs_26 : zd b_Tue_hangs 26 (.invokevirtual 154) 3 29 := ⟨by decide +kernel, rfl⟩
theorem d_Tue_hangs_29 : zd b_Tue_hangs 29 .ireturn 1 30 := ⟨by decide +kernel, rfl⟩
theorem d_Tue_can_0 : zd_l .iload_n .iload b_Tue_can 0 1 1 := Or.inl ⟨1, rfl, by decide +kernel, rfl⟩
theorem d_Tue_can_1 : zd b_Tue_can 1 (.invokestatic 135) 3 4 := ⟨by decide +kernel, rfl⟩
theorem d_Tue_can_4 : zd_b b_Tue_can 4 (.ifCond .eq) 7 14 := ⟨10, by decide +kernel, by decide, rfl⟩
theorem d_Tue_can_7 : zd_l .iload_n .iload b_Tue_can 7 2 8 := Or.inl ⟨2, rfl, by decide +kernel, rfl⟩
theorem d_Tue_can_8 : zd b_Tue_can 8 (.invokestatic 157) 3 11 := ⟨by decide +kernel, rfl⟩
theorem d_Tue_can_11 : zd_b b_Tue_can 11 (.ifCond .ne) 14 17 := ⟨6, by decide +kernel, by decide, rfl⟩
theorem d_Tue_can_14 : zd_k b_Tue_can "SameTuesday" 14 (-2) 16 := Or.inr (Or.inl ⟨(-2), by decide +kernel, by decide, rfl⟩)
theorem d_Tue_can_16 : zd b_Tue_can 16 .ireturn 1 17 := ⟨by decide +kernel, rfl⟩
theorem d_Tue_can_17 : zd_l .aload_n .aload b_Tue_can 17 0 18 := Or.inl ⟨0, rfl, by decide +kernel, rfl⟩
theorem d_Tue_can_18 : zd b_Tue_can 18 (.getfield 21) 3 21 := ⟨by decide +kernel, rfl⟩
theorem d_Tue_can_21 : zd b_Tue_can 21 (.invokevirtual 125) 3 24 := ⟨by decide +kernel, rfl⟩
theorem d_Tue_can_24 : zd_b b_Tue_can 24 (.ifCond .ne) 27 30 := ⟨6, by decide +kernel, by decide, rfl⟩
theorem d_Tue_can_27 : zd_k b_Tue_can "SameTuesday" 27 (-3) 29 := Or.inr (Or.inl ⟨(-3), by decide +kernel, by decide, rfl⟩)
theorem d_Tue_can_29 : zd b_Tue_can 29 .ireturn 1 30 := ⟨by decide +kernel, rfl⟩
theorem d_Tue_can_30 : zd_l .aload_n .aload b_Tue_can 30 0 31 := Or.inl ⟨0, rfl, by decide +kernel, rfl⟩
theorem d_Tue_can_31 : zd b_Tue_can 31 (.getfield 37) 3 34 := ⟨by decide +kernel, rfl⟩
theorem d_Tue_can_34 : zd_l .iload_n .iload b_Tue_can 34 1 35 := Or.inl ⟨1, rfl, by decide +kernel, rfl⟩
theorem d_Tue_can_35 : zd b_Tue_can 35 (.invokevirtual 160) 3 38 := ⟨by decide +kernel, rfl⟩
theorem d_Tue_can_38 : zd_l .iload_n .iload b_Tue_can 38 2 39 := Or.inl ⟨2, rfl, by decide +kernel, rfl⟩
theorem d_Tue_can_39 : zd b_Tue_can 39 (.invokestatic 164) 3 42 := ⟨by decide +kernel, rfl⟩
theorem d_Tue_can_42 : zd_b b_Tue_can 42 (.ifCond .eq) 45 49 := ⟨7, by decide +kernel, by decide, rfl⟩
theorem d_Tue_can_45 : zd_k b_Tue_can "SameTuesday" 45 1 46 := Or.inl ⟨1, by decide +kernel, by decide, rfl⟩
theorem d_Tue_can_46 : zd_b b_Tue_can 46 .goto 49 50 := ⟨4, by decide +kernel, by decide, rfl⟩
theorem d_Tue_can_49 : zd_k b_Tue_can "SameTuesday" 49 0 50 := Or.inl ⟨0, by decide +kernel, by decide, rfl⟩
theorem d_Tue_can_50 : zd b_Tue_can 50 .ireturn 1 51 := ⟨by decide +kernel, rfl⟩
theorem d_Tue_soonest_0 : zd_l .iload_n .iload b_Tue_soonest 0 1 1 := Or.inl ⟨1, rfl, by decide +kernel, rfl⟩
theorem d_Tue_soonest_1 : zd b_Tue_soonest 1 (.invokestatic 157) 3 4 := ⟨by decide +kernel, rfl⟩
theorem d_Tue_soonest_4 : zd_b b_Tue_soonest 4 (.ifCond .ne) 7 10 := ⟨6, by decide +kernel, by decide, rfl⟩
theorem d_Tue_soonest_7 : zd_k b_Tue_soonest "SameTuesday" 7 (-2) 9 := Or.inr (Or.inl ⟨(-2), by decide +kernel, by decide, rfl⟩)
theorem d_Tue_soonest_9 : zd b_Tue_soonest 9 .ireturn 1 10 := ⟨by decide +kernel, rfl⟩
theorem d_Tue_soonest_10 : zd_l .aload_n .aload b_Tue_soonest 10 0 11 := Or.inl ⟨0, rfl, by decide +kernel, rfl⟩
theorem d_Tue_soonest_11 : zd b_Tue_soonest 11 (.getfield 21) 3 14 := ⟨by decide +kernel, rfl⟩
theorem d_Tue_soonest_14 : zd b_Tue_soonest 14 (.invokevirtual 125) 3 17 := ⟨by decide +kernel, rfl⟩
theorem d_Tue_soonest_17 : zd_b b_Tue_soonest 17 (.ifCond .eq) 20 31 := ⟨14, by decide +kernel, by decide, rfl⟩
theorem d_Tue_soonest_20 : zd_l .aload_n .aload b_Tue_soonest 20 0 21 := Or.inl ⟨0, rfl, by decide +kernel, rfl⟩
theorem d_Tue_soonest_21 : zd b_Tue_soonest 21 (.getfield 37) 3 24 := ⟨by decide +kernel, rfl⟩
theorem d_Tue_soonest_24 : zd_l .iload_n .iload b_Tue_soonest 24 1 25 := Or.inl ⟨1, rfl, by decide +kernel, rfl⟩
theorem d_Tue_soonest_25 : zd b_Tue_soonest 25 (.invokevirtual 168) 3 28 := ⟨by decide +kernel, rfl⟩
theorem d_Tue_soonest_28 : zd_b b_Tue_soonest 28 .goto 31 33 := ⟨5, by decide +kernel, by decide, rfl⟩
theorem d_Tue_soonest_31 : zd_k b_Tue_soonest "SameTuesday" 31 (-3) 33 := Or.inr (Or.inl ⟨(-3), by decide +kernel, by decide, rfl⟩)
theorem d_Tue_soonest_33 : zd b_Tue_soonest 33 .ireturn 1 34 := ⟨by decide +kernel, rfl⟩
theorem d_Tue_bar_0 : zd_l .iload_n .iload b_Tue_bar 0 1 1 := Or.inl ⟨1, rfl, by decide +kernel, rfl⟩
theorem d_Tue_bar_1 : zd b_Tue_bar 1 (.invokestatic 157) 3 4 := ⟨by decide +kernel, rfl⟩
theorem d_Tue_bar_4 : zd_b b_Tue_bar 4 (.ifCond .ne) 7 10 := ⟨6, by decide +kernel, by decide, rfl⟩
theorem d_Tue_bar_7 : zd_k b_Tue_bar "SameTuesday" 7 (-2) 9 := Or.inr (Or.inl ⟨(-2), by decide +kernel, by decide, rfl⟩)
theorem d_Tue_bar_9 : zd b_Tue_bar 9 .ireturn 1 10 := ⟨by decide +kernel, rfl⟩
theorem d_Tue_bar_10 : zd_l .aload_n .aload b_Tue_bar 10 0 11 := Or.inl ⟨0, rfl, by decide +kernel, rfl⟩
theorem d_Tue_bar_11 : zd b_Tue_bar 11 (.getfield 21) 3 14 := ⟨by decide +kernel, rfl⟩
theorem d_Tue_bar_14 : zd b_Tue_bar 14 (.invokevirtual 125) 3 17 := ⟨by decide +kernel, rfl⟩
theorem d_Tue_bar_17 : zd_b b_Tue_bar 17 (.ifCond .eq) 20 31 := ⟨14, by decide +kernel, by decide, rfl⟩
theorem d_Tue_bar_20 : zd_l .aload_n .aload b_Tue_bar 20 0 21 := Or.inl ⟨0, rfl, by decide +kernel, rfl⟩
theorem d_Tue_bar_21 : zd b_Tue_bar 21 (.getfield 37) 3 24 := ⟨by decide +kernel, rfl⟩
theorem d_Tue_bar_24 : zd_l .iload_n .iload b_Tue_bar 24 1 25 := Or.inl ⟨1, rfl, by decide +kernel, rfl⟩
theorem d_Tue_bar_25 : zd b_Tue_bar 25 (.invokevirtual 172) 3 28 := ⟨by decide +kernel, rfl⟩
theorem d_Tue_bar_28 : zd_b b_Tue_bar 28 .goto 31 33 := ⟨5, by decide +kernel, by decide, rfl⟩
theorem d_Tue_bar_31 : zd_k b_Tue_bar "SameTuesday" 31 (-3) 33 := Or.inr (Or.inl ⟨(-3), by decide +kernel, by decide, rfl⟩)
theorem d_Tue_bar_33 : zd b_Tue_bar 33 .ireturn 1 34 := ⟨by decide +kernel, rfl⟩
theorem d_Tue_day_0 : zd_l .iload_n .iload b_Tue_day 0 1 1 := Or.inl ⟨1, rfl, by decide +kernel, rfl⟩
theorem d_Tue_day_1 : zd b_Tue_day 1 (.invokestatic 157) 3 4 := ⟨by decide +kernel, rfl⟩
theorem d_Tue_day_4 : zd_b b_Tue_day 4 (.ifCond .ne) 7 10 := ⟨6, by decide +kernel, by decide, rfl⟩
theorem d_Tue_day_7 : zd_k b_Tue_day "SameTuesday" 7 (-2) 9 := Or.inr (Or.inl ⟨(-2), by decide +kernel, by decide, rfl⟩)
theorem d_Tue_day_9 : zd b_Tue_day 9 .ireturn 1 10 := ⟨by decide +kernel, rfl⟩
theorem d_Tue_day_10 : zd_l .aload_n .aload b_Tue_day 10 0 11 := Or.inl ⟨0, rfl, by decide +kernel, rfl⟩
theorem d_Tue_day_11 : zd b_Tue_day 11 (.getfield 21) 3 14 := ⟨by decide +kernel, rfl⟩
theorem d_Tue_day_14 : zd b_Tue_day 14 (.invokevirtual 125) 3 17 := ⟨by decide +kernel, rfl⟩
theorem d_Tue_day_17 : zd_b b_Tue_day 17 (.ifCond .ne) 20 23 := ⟨6, by decide +kernel, by decide, rfl⟩
theorem d_Tue_day_20 : zd_k b_Tue_day "SameTuesday" 20 (-3) 22 := Or.inr (Or.inl ⟨(-3), by decide +kernel, by decide, rfl⟩)
theorem d_Tue_day_22 : zd b_Tue_day 22 .ireturn 1 23 := ⟨by decide +kernel, rfl⟩
theorem d_Tue_day_23 : zd_l .aload_n .aload b_Tue_day 23 0 24 := Or.inl ⟨0, rfl, by decide +kernel, rfl⟩
theorem d_Tue_day_24 : zd b_Tue_day 24 (.getfield 44) 3 27 := ⟨by decide +kernel, rfl⟩
theorem d_Tue_day_27 : zd b_Tue_day 27 (.invokevirtual 175) 3 30 := ⟨by decide +kernel, rfl⟩
theorem d_Tue_day_30 : zd_b b_Tue_day 30 (.ifCond .eq) 33 36 := ⟨6, by decide +kernel, by decide, rfl⟩
theorem d_Tue_day_33 : zd_k b_Tue_day "SameTuesday" 33 (-4) 35 := Or.inr (Or.inl ⟨(-4), by decide +kernel, by decide, rfl⟩)
theorem d_Tue_day_35 : zd b_Tue_day 35 .ireturn 1 36 := ⟨by decide +kernel, rfl⟩
theorem d_Tue_day_36 : zd_l .aload_n .aload b_Tue_day 36 0 37 := Or.inl ⟨0, rfl, by decide +kernel, rfl⟩
theorem d_Tue_day_37 : zd b_Tue_day 37 (.getfield 44) 3 40 := ⟨by decide +kernel, rfl⟩
theorem d_Tue_day_40 : zd_l .iload_n .iload b_Tue_day 40 1 41 := Or.inl ⟨1, rfl, by decide +kernel, rfl⟩
theorem d_Tue_day_41 : zd b_Tue_day 41 (.invokevirtual 178) 3 44 := ⟨by decide +kernel, rfl⟩
theorem d_Tue_day_44 : zd_l .aload_n .aload b_Tue_day 44 0 45 := Or.inl ⟨0, rfl, by decide +kernel, rfl⟩
theorem d_Tue_day_45 : zd b_Tue_day 45 (.getfield 44) 3 48 := ⟨by decide +kernel, rfl⟩
theorem d_Tue_day_48 : zd b_Tue_day 48 (.invokevirtual 80) 3 51 := ⟨by decide +kernel, rfl⟩
theorem d_Tue_day_51 : zd_k b_Tue_day "SameTuesday" 51 1 52 := Or.inl ⟨1, by decide +kernel, by decide, rfl⟩
theorem d_Tue_day_52 : zd b_Tue_day 52 .isub 1 53 := ⟨by decide +kernel, rfl⟩
theorem d_Tue_day_53 : zd b_Tue_day 53 .ireturn 1 54 := ⟨by decide +kernel, rfl⟩
theorem d_Tue_forget_0 : zd_l .iload_n .iload b_Tue_forget 0 1 1 := Or.inl ⟨1, rfl, by decide +kernel, rfl⟩
theorem d_Tue_forget_1 : zd_b b_Tue_forget 1 (.ifCond .lt) 4 15 := ⟨14, by decide +kernel, by decide, rfl⟩
theorem d_Tue_forget_4 : zd_l .iload_n .iload b_Tue_forget 4 1 5 := Or.inl ⟨1, rfl, by decide +kernel, rfl⟩
theorem d_Tue_forget_5 : zd_l .aload_n .aload b_Tue_forget 5 0 6 := Or.inl ⟨0, rfl, by decide +kernel, rfl⟩
theorem d_Tue_forget_6 : zd b_Tue_forget 6 (.getfield 44) 3 9 := ⟨by decide +kernel, rfl⟩
theorem d_Tue_forget_9 : zd b_Tue_forget 9 (.invokevirtual 80) 3 12 := ⟨by decide +kernel, rfl⟩
theorem d_Tue_forget_12 : zd_b b_Tue_forget 12 (.if_icmp .le) 15 18 := ⟨6, by decide +kernel, by decide, rfl⟩
theorem d_Tue_forget_15 : zd_k b_Tue_forget "SameTuesday" 15 (-2) 17 := Or.inr (Or.inl ⟨(-2), by decide +kernel, by decide, rfl⟩)
theorem d_Tue_forget_17 : zd b_Tue_forget 17 .ireturn 1 18 := ⟨by decide +kernel, rfl⟩
theorem d_Tue_forget_18 : zd_l .aload_n .aload b_Tue_forget 18 0 19 := Or.inl ⟨0, rfl, by decide +kernel, rfl⟩
theorem d_Tue_forget_19 : zd b_Tue_forget 19 (.getfield 44) 3 22 := ⟨by decide +kernel, rfl⟩
theorem d_Tue_forget_22 : zd_l .iload_n .iload b_Tue_forget 22 1 23 := Or.inl ⟨1, rfl, by decide +kernel, rfl⟩
theorem d_Tue_forget_23 : zd b_Tue_forget 23 (.invokevirtual 83) 3 26 := ⟨by decide +kernel, rfl⟩
theorem d_Tue_forget_26 : zd_l .aload_n .aload b_Tue_forget 26 0 27 := Or.inl ⟨0, rfl, by decide +kernel, rfl⟩
theorem d_Tue_forget_27 : zd b_Tue_forget 27 (.getfield 44) 3 30 := ⟨by decide +kernel, rfl⟩
theorem d_Tue_forget_30 : zd b_Tue_forget 30 (.invokevirtual 80) 3 33 := ⟨by decide +kernel, rfl⟩
theorem d_Tue_forget_33 : zd b_Tue_forget 33 .ireturn 1 34 := ⟨by decide +kernel, rfl⟩
theorem d_Tue_laws_0 : zd_l .iload_n .iload b_Tue_laws 0 1 1 := Or.inl ⟨1, rfl, by decide +kernel, rfl⟩
theorem d_Tue_laws_1 : zd_k b_Tue_laws "SameTuesday" 1 (-1) 2 := Or.inl ⟨(-1), by decide +kernel, by decide, rfl⟩
theorem d_Tue_laws_2 : zd_b b_Tue_laws 2 (.if_icmp .ge) 5 7 := ⟨5, by decide +kernel, by decide, rfl⟩
theorem d_Tue_laws_5 : zd_k b_Tue_laws "SameTuesday" 5 (-1) 6 := Or.inl ⟨(-1), by decide +kernel, by decide, rfl⟩
theorem d_Tue_laws_6 : zd b_Tue_laws 6 .ireturn 1 7 := ⟨by decide +kernel, rfl⟩
theorem d_Tue_laws_7 : zd_l .aload_n .aload b_Tue_laws 7 0 8 := Or.inl ⟨0, rfl, by decide +kernel, rfl⟩
theorem d_Tue_laws_8 : zd b_Tue_laws 8 (.getfield 21) 3 11 := ⟨by decide +kernel, rfl⟩
theorem d_Tue_laws_11 : zd b_Tue_laws 11 (.invokevirtual 125) 3 14 := ⟨by decide +kernel, rfl⟩
theorem d_Tue_laws_14 : zd_b b_Tue_laws 14 (.ifCond .ne) 17 20 := ⟨6, by decide +kernel, by decide, rfl⟩
theorem d_Tue_laws_17 : zd_k b_Tue_laws "SameTuesday" 17 (-3) 19 := Or.inr (Or.inl ⟨(-3), by decide +kernel, by decide, rfl⟩)
theorem d_Tue_laws_19 : zd b_Tue_laws 19 .ireturn 1 20 := ⟨by decide +kernel, rfl⟩
theorem d_Tue_laws_20 : zd_l .iload_n .iload b_Tue_laws 20 1 21 := Or.inl ⟨1, rfl, by decide +kernel, rfl⟩
theorem d_Tue_laws_21 : zd_k b_Tue_laws "SameTuesday" 21 (-1) 22 := Or.inl ⟨(-1), by decide +kernel, by decide, rfl⟩
theorem d_Tue_laws_22 : zd_b b_Tue_laws 22 (.if_icmp .ne) 25 38 := ⟨16, by decide +kernel, by decide, rfl⟩
theorem d_Tue_laws_25 : zd_l .aload_n .aload b_Tue_laws 25 0 26 := Or.inl ⟨0, rfl, by decide +kernel, rfl⟩
theorem d_Tue_laws_26 : zd b_Tue_laws 26 (.getfield 44) 3 29 := ⟨by decide +kernel, rfl⟩
theorem d_Tue_laws_29 : zd b_Tue_laws 29 (.invokevirtual 181) 3 32 := ⟨by decide +kernel, rfl⟩
theorem d_Tue_laws_32 : zd b_Tue_laws 32 (.invokestatic 185) 3 35 := ⟨by decide +kernel, rfl⟩
theorem d_Tue_laws_35 : zd_b b_Tue_laws 35 .goto 38 46 := ⟨11, by decide +kernel, by decide, rfl⟩
theorem d_Tue_laws_38 : zd_l .aload_n .aload b_Tue_laws 38 0 39 := Or.inl ⟨0, rfl, by decide +kernel, rfl⟩
theorem d_Tue_laws_39 : zd b_Tue_laws 39 (.getfield 44) 3 42 := ⟨by decide +kernel, rfl⟩
theorem d_Tue_laws_42 : zd_l .iload_n .iload b_Tue_laws 42 1 43 := Or.inl ⟨1, rfl, by decide +kernel, rfl⟩
theorem d_Tue_laws_43 : zd b_Tue_laws 43 (.invokevirtual 189) 3 46 := ⟨by decide +kernel, rfl⟩
theorem d_Tue_laws_46 : zd b_Tue_laws 46 .ireturn 1 47 := ⟨by decide +kernel, rfl⟩
theorem d_Tue_fewest_0 : zd_l .aload_n .aload b_Tue_fewest 0 0 1 := Or.inl ⟨0, rfl, by decide +kernel, rfl⟩
theorem d_Tue_fewest_1 : zd b_Tue_fewest 1 (.getfield 21) 3 4 := ⟨by decide +kernel, rfl⟩
theorem d_Tue_fewest_4 : zd b_Tue_fewest 4 (.invokevirtual 125) 3 7 := ⟨by decide +kernel, rfl⟩
theorem d_Tue_fewest_7 : zd_b b_Tue_fewest 7 (.ifCond .eq) 10 20 := ⟨13, by decide +kernel, by decide, rfl⟩
theorem d_Tue_fewest_10 : zd_l .aload_n .aload b_Tue_fewest 10 0 11 := Or.inl ⟨0, rfl, by decide +kernel, rfl⟩
theorem d_Tue_fewest_11 : zd b_Tue_fewest 11 (.getfield 44) 3 14 := ⟨by decide +kernel, rfl⟩
theorem d_Tue_fewest_14 : zd b_Tue_fewest 14 (.invokevirtual 192) 3 17 := ⟨by decide +kernel, rfl⟩
theorem d_Tue_fewest_17 : zd_b b_Tue_fewest 17 .goto 20 22 := ⟨5, by decide +kernel, by decide, rfl⟩
theorem d_Tue_fewest_20 : zd_k b_Tue_fewest "SameTuesday" 20 (-3) 22 := Or.inr (Or.inl ⟨(-3), by decide +kernel, by decide, rfl⟩)
theorem d_Tue_fewest_22 : zd b_Tue_fewest 22 .ireturn 1 23 := ⟨by decide +kernel, rfl⟩
theorem d_Tue_next_0 : zd_l .iload_n .iload b_Tue_next 0 1 1 := Or.inl ⟨1, rfl, by decide +kernel, rfl⟩
theorem d_Tue_next_1 : zd_b b_Tue_next 1 (.ifCond .eq) 4 12 := ⟨11, by decide +kernel, by decide, rfl⟩
theorem d_Tue_next_4 : zd_l .iload_n .iload b_Tue_next 4 1 5 := Or.inl ⟨1, rfl, by decide +kernel, rfl⟩
theorem d_Tue_next_5 : zd_k b_Tue_next "SameTuesday" 5 1 6 := Or.inl ⟨1, by decide +kernel, by decide, rfl⟩
theorem d_Tue_next_6 : zd_b b_Tue_next 6 (.if_icmp .eq) 9 12 := ⟨6, by decide +kernel, by decide, rfl⟩
theorem d_Tue_next_9 : zd_k b_Tue_next "SameTuesday" 9 (-2) 11 := Or.inr (Or.inl ⟨(-2), by decide +kernel, by decide, rfl⟩)
theorem d_Tue_next_11 : zd b_Tue_next 11 .ireturn 1 12 := ⟨by decide +kernel, rfl⟩
theorem d_Tue_next_12 : zd_l .aload_n .aload b_Tue_next 12 0 13 := Or.inl ⟨0, rfl, by decide +kernel, rfl⟩
theorem d_Tue_next_13 : zd b_Tue_next 13 (.getfield 21) 3 16 := ⟨by decide +kernel, rfl⟩
theorem d_Tue_next_16 : zd b_Tue_next 16 (.invokevirtual 125) 3 19 := ⟨by decide +kernel, rfl⟩
theorem d_Tue_next_19 : zd_b b_Tue_next 19 (.ifCond .ne) 22 25 := ⟨6, by decide +kernel, by decide, rfl⟩
theorem d_Tue_next_22 : zd_k b_Tue_next "SameTuesday" 22 (-3) 24 := Or.inr (Or.inl ⟨(-3), by decide +kernel, by decide, rfl⟩)
theorem d_Tue_next_24 : zd b_Tue_next 24 .ireturn 1 25 := ⟨by decide +kernel, rfl⟩
theorem d_Tue_next_25 : zd_l .aload_n .aload b_Tue_next 25 0 26 := Or.inl ⟨0, rfl, by decide +kernel, rfl⟩
theorem d_Tue_next_26 : zd b_Tue_next 26 (.getfield 44) 3 29 := ⟨by decide +kernel, rfl⟩
theorem d_Tue_next_29 : zd_l .aload_n .aload b_Tue_next 29 0 30 := Or.inl ⟨0, rfl, by decide +kernel, rfl⟩
theorem d_Tue_next_30 : zd b_Tue_next 30 (.getfield 37) 3 33 := ⟨by decide +kernel, rfl⟩
theorem d_Tue_next_33 : zd_k b_Tue_next "SameTuesday" 33 59 35 := Or.inr (Or.inl ⟨59, by decide +kernel, by decide, rfl⟩)
theorem d_Tue_next_35 : zd b_Tue_next 35 (.invokevirtual 160) 3 38 := ⟨by decide +kernel, rfl⟩
theorem d_Tue_next_38 : zd b_Tue_next 38 (.invokevirtual 195) 3 41 := ⟨by decide +kernel, rfl⟩
theorem d_Tue_next_41 : zd_l .istore_n .istore b_Tue_next 41 2 42 := Or.inl ⟨2, rfl, by decide +kernel, rfl⟩
theorem d_Tue_next_42 : zd_l .iload_n .iload b_Tue_next 42 1 43 := Or.inl ⟨1, rfl, by decide +kernel, rfl⟩
theorem d_Tue_next_43 : zd_b b_Tue_next 43 (.ifCond .ne) 46 50 := ⟨7, by decide +kernel, by decide, rfl⟩
theorem d_Tue_next_46 : zd_l .iload_n .iload b_Tue_next 46 2 47 := Or.inl ⟨2, rfl, by decide +kernel, rfl⟩
theorem d_Tue_next_47 : zd_b b_Tue_next 47 .goto 50 61 := ⟨14, by decide +kernel, by decide, rfl⟩
theorem d_Tue_next_50 : zd_l .aload_n .aload b_Tue_next 50 0 51 := Or.inl ⟨0, rfl, by decide +kernel, rfl⟩
theorem d_Tue_next_51 : zd b_Tue_next 51 (.getfield 44) 3 54 := ⟨by decide +kernel, rfl⟩
theorem d_Tue_next_54 : zd b_Tue_next 54 (.invokevirtual 181) 3 57 := ⟨by decide +kernel, rfl⟩
theorem d_Tue_next_57 : zd_l .iload_n .iload b_Tue_next 57 2 58 := Or.inl ⟨2, rfl, by decide +kernel, rfl⟩
theorem d_Tue_next_58 : zd b_Tue_next 58 (.invokestatic 198) 3 61 := ⟨by decide +kernel, rfl⟩
theorem d_Tue_next_61 : zd b_Tue_next 61 .ireturn 1 62 := ⟨by decide +kernel, rfl⟩
theorem d_Tue_others_0 : zd_l .aload_n .aload b_Tue_others 0 0 1 := Or.inl ⟨0, rfl, by decide +kernel, rfl⟩
theorem d_Tue_others_1 : zd_k b_Tue_others "SameTuesday" 1 0 2 := Or.inl ⟨0, by decide +kernel, by decide, rfl⟩
theorem d_Tue_others_2 : zd b_Tue_others 2 (.putfield 55) 3 5 := ⟨by decide +kernel, rfl⟩
theorem d_Tue_others_5 : zd_l .iload_n .iload b_Tue_others 5 2 6 := Or.inl ⟨2, rfl, by decide +kernel, rfl⟩
theorem d_Tue_others_6 : zd_k b_Tue_others "SameTuesday" 6 (-1) 7 := Or.inl ⟨(-1), by decide +kernel, by decide, rfl⟩
theorem d_Tue_others_7 : zd_b b_Tue_others 7 (.if_icmp .ge) 10 12 := ⟨5, by decide +kernel, by decide, rfl⟩
theorem d_Tue_others_10 : zd_k b_Tue_others "SameTuesday" 10 (-1) 11 := Or.inl ⟨(-1), by decide +kernel, by decide, rfl⟩
theorem d_Tue_others_11 : zd b_Tue_others 11 .ireturn 1 12 := ⟨by decide +kernel, rfl⟩
theorem d_Tue_others_12 : zd_l .aload_n .aload b_Tue_others 12 0 13 := Or.inl ⟨0, rfl, by decide +kernel, rfl⟩
theorem d_Tue_others_13 : zd_l .iload_n .iload b_Tue_others 13 3 14 := Or.inl ⟨3, rfl, by decide +kernel, rfl⟩
theorem d_Tue_others_14 : zd_l .iload_n .iload b_Tue_others 14 4 16 := Or.inr ⟨by decide +kernel, rfl⟩
theorem d_Tue_others_16 : zd_l .iload_n .iload b_Tue_others 16 5 18 := Or.inr ⟨by decide +kernel, rfl⟩
theorem d_Tue_others_18 : zd_l .iload_n .iload b_Tue_others 18 6 20 := Or.inr ⟨by decide +kernel, rfl⟩
theorem d_Tue_others_20 : zd_l .iload_n .iload b_Tue_others 20 1 21 := Or.inl ⟨1, rfl, by decide +kernel, rfl⟩
theorem d_Tue_others_21 : zd b_Tue_others 21 (.invokestatic 157) 3 24 := ⟨by decide +kernel, rfl⟩
theorem d_Tue_others_24 : zd b_Tue_others 24 (.invokevirtual 143) 3 27 := ⟨by decide +kernel, rfl⟩
theorem d_Tue_others_27 : zd_l .istore_n .istore b_Tue_others 27 7 29 := Or.inr ⟨by decide +kernel, rfl⟩
theorem d_Tue_others_29 : zd_l .iload_n .iload b_Tue_others 29 7 31 := Or.inr ⟨by decide +kernel, rfl⟩
theorem d_Tue_others_31 : zd_b b_Tue_others 31 (.ifCond .eq) 34 39 := ⟨8, by decide +kernel, by decide, rfl⟩
theorem d_Tue_others_34 : zd_l .iload_n .iload b_Tue_others 34 7 36 := Or.inr ⟨by decide +kernel, rfl⟩
theorem d_Tue_others_36 : zd_b b_Tue_others 36 .goto 39 48 := ⟨12, by decide +kernel, by decide, rfl⟩
theorem d_Tue_others_39 : zd_l .aload_n .aload b_Tue_others 39 0 40 := Or.inl ⟨0, rfl, by decide +kernel, rfl⟩
theorem d_Tue_others_40 : zd b_Tue_others 40 (.getfield 30) 3 43 := ⟨by decide +kernel, rfl⟩
theorem d_Tue_others_43 : zd_l .iload_n .iload b_Tue_others 43 1 44 := Or.inl ⟨1, rfl, by decide +kernel, rfl⟩
theorem d_Tue_others_44 : zd_l .iload_n .iload b_Tue_others 44 2 45 := Or.inl ⟨2, rfl, by decide +kernel, rfl⟩
theorem d_Tue_others_45 : zd b_Tue_others 45 (.invokevirtual 202) 3 48 := ⟨by decide +kernel, rfl⟩
theorem d_Tue_others_48 : zd b_Tue_others 48 .ireturn 1 49 := ⟨by decide +kernel, rfl⟩
theorem d_Tue_odds_0 : zd_l .aload_n .aload b_Tue_odds 0 0 1 := Or.inl ⟨0, rfl, by decide +kernel, rfl⟩
theorem d_Tue_odds_1 : zd_l .iload_n .iload b_Tue_odds 1 2 2 := Or.inl ⟨2, rfl, by decide +kernel, rfl⟩
theorem d_Tue_odds_2 : zd_l .iload_n .iload b_Tue_odds 2 3 3 := Or.inl ⟨3, rfl, by decide +kernel, rfl⟩
theorem d_Tue_odds_3 : zd_l .iload_n .iload b_Tue_odds 3 4 5 := Or.inr ⟨by decide +kernel, rfl⟩
theorem d_Tue_odds_5 : zd_l .iload_n .iload b_Tue_odds 5 5 7 := Or.inr ⟨by decide +kernel, rfl⟩
theorem d_Tue_odds_7 : zd_l .iload_n .iload b_Tue_odds 7 1 8 := Or.inl ⟨1, rfl, by decide +kernel, rfl⟩
theorem d_Tue_odds_8 : zd b_Tue_odds 8 (.invokestatic 157) 3 11 := ⟨by decide +kernel, rfl⟩
theorem d_Tue_odds_11 : zd_b b_Tue_odds 11 (.ifCond .eq) 14 29 := ⟨18, by decide +kernel, by decide, rfl⟩
theorem d_Tue_odds_14 : zd_l .iload_n .iload b_Tue_odds 14 6 16 := Or.inr ⟨by decide +kernel, rfl⟩
theorem d_Tue_odds_16 : zd_b b_Tue_odds 16 (.ifCond .eq) 19 25 := ⟨9, by decide +kernel, by decide, rfl⟩
theorem d_Tue_odds_19 : zd_l .iload_n .iload b_Tue_odds 19 6 21 := Or.inr ⟨by decide +kernel, rfl⟩
theorem d_Tue_odds_21 : zd_k b_Tue_odds "SameTuesday" 21 1 22 := Or.inl ⟨1, by decide +kernel, by decide, rfl⟩
theorem d_Tue_odds_22 : zd_b b_Tue_odds 22 (.if_icmp .ne) 25 29 := ⟨7, by decide +kernel, by decide, rfl⟩
theorem d_Tue_odds_25 : zd_k b_Tue_odds "SameTuesday" 25 1 26 := Or.inl ⟨1, by decide +kernel, by decide, rfl⟩
theorem d_Tue_odds_26 : zd_b b_Tue_odds 26 .goto 29 30 := ⟨4, by decide +kernel, by decide, rfl⟩
theorem d_Tue_odds_29 : zd_k b_Tue_odds "SameTuesday" 29 0 30 := Or.inl ⟨0, by decide +kernel, by decide, rfl⟩
theorem d_Tue_odds_30 : zd b_Tue_odds 30 (.invokevirtual 143) 3 33 := ⟨by decide +kernel, rfl⟩
theorem d_Tue_odds_33 : zd_l .istore_n .istore b_Tue_odds 33 7 35 := Or.inr ⟨by decide +kernel, rfl⟩
theorem d_Tue_odds_35 : zd_l .iload_n .iload b_Tue_odds 35 7 37 := Or.inr ⟨by decide +kernel, rfl⟩
theorem d_Tue_odds_37 : zd_b b_Tue_odds 37 (.ifCond .eq) 40 44 := ⟨7, by decide +kernel, by decide, rfl⟩
set_option maxRecDepth 20000 in
theorem d_Tue_odds_40 : zd_kl b_Tue_odds "SameTuesday" 40 (-9223372036854775808) 43 := Or.inr ⟨205, by decide +kernel, zb_mem 779 rfl rfl, rfl⟩
theorem d_Tue_odds_43 : zd b_Tue_odds 43 .lreturn 1 44 := ⟨by decide +kernel, rfl⟩
theorem d_Tue_odds_44 : zd_k b_Tue_odds "SameTuesday" 44 1 45 := Or.inl ⟨1, by decide +kernel, by decide, rfl⟩
theorem d_Tue_odds_45 : zd_l .aload_n .aload b_Tue_odds 45 0 46 := Or.inl ⟨0, rfl, by decide +kernel, rfl⟩
theorem d_Tue_odds_46 : zd b_Tue_odds 46 (.getfield 21) 3 49 := ⟨by decide +kernel, rfl⟩
theorem d_Tue_odds_49 : zd b_Tue_odds 49 (.invokevirtual 90) 3 52 := ⟨by decide +kernel, rfl⟩
theorem d_Tue_odds_52 : zd b_Tue_odds 52 .ishl 1 53 := ⟨by decide +kernel, rfl⟩
theorem d_Tue_odds_53 : zd_l .istore_n .istore b_Tue_odds 53 8 55 := Or.inr ⟨by decide +kernel, rfl⟩
theorem d_Tue_odds_55 : zd_l .aload_n .aload b_Tue_odds 55 0 56 := Or.inl ⟨0, rfl, by decide +kernel, rfl⟩
theorem d_Tue_odds_56 : zd b_Tue_odds 56 (.getfield 30) 3 59 := ⟨by decide +kernel, rfl⟩
theorem d_Tue_odds_59 : zd_l .iload_n .iload b_Tue_odds 59 1 60 := Or.inl ⟨1, rfl, by decide +kernel, rfl⟩
theorem d_Tue_odds_60 : zd b_Tue_odds 60 (.invokevirtual 207) 3 63 := ⟨by decide +kernel, rfl⟩
theorem d_Tue_odds_63 : zd_l .istore_n .istore b_Tue_odds 63 9 65 := Or.inr ⟨by decide +kernel, rfl⟩
theorem d_Tue_odds_65 : zd_l .iload_n .iload b_Tue_odds 65 9 67 := Or.inr ⟨by decide +kernel, rfl⟩
theorem d_Tue_odds_67 : zd_l .iload_n .iload b_Tue_odds 67 8 69 := Or.inr ⟨by decide +kernel, rfl⟩
theorem d_Tue_odds_69 : zd b_Tue_odds 69 (.invokestatic 210) 3 72 := ⟨by decide +kernel, rfl⟩
theorem d_Tue_odds_72 : zd_l .istore_n .istore b_Tue_odds 72 10 74 := Or.inr ⟨by decide +kernel, rfl⟩
theorem d_Tue_odds_74 : zd_l .iload_n .iload b_Tue_odds 74 10 76 := Or.inr ⟨by decide +kernel, rfl⟩
theorem d_Tue_odds_76 : zd_k b_Tue_odds "SameTuesday" 76 1 77 := Or.inl ⟨1, by decide +kernel, by decide, rfl⟩
theorem d_Tue_odds_77 : zd_b b_Tue_odds 77 (.if_icmp .ge) 80 84 := ⟨7, by decide +kernel, by decide, rfl⟩
set_option maxRecDepth 20000 in
theorem d_Tue_odds_80 : zd_kl b_Tue_odds "SameTuesday" 80 (-9223372036854775808) 83 := Or.inr ⟨205, by decide +kernel, zb_mem 779 rfl rfl, rfl⟩
theorem d_Tue_odds_83 : zd b_Tue_odds 83 .lreturn 1 84 := ⟨by decide +kernel, rfl⟩
theorem d_Tue_odds_84 : zd_l .iload_n .iload b_Tue_odds 84 6 86 := Or.inr ⟨by decide +kernel, rfl⟩
theorem d_Tue_odds_86 : zd_b b_Tue_odds 86 (.ifCond .ne) 89 98 := ⟨12, by decide +kernel, by decide, rfl⟩
theorem d_Tue_odds_89 : zd_l .iload_n .iload b_Tue_odds 89 9 91 := Or.inr ⟨by decide +kernel, rfl⟩
theorem d_Tue_odds_91 : zd_l .iload_n .iload b_Tue_odds 91 10 93 := Or.inr ⟨by decide +kernel, rfl⟩
theorem d_Tue_odds_93 : zd b_Tue_odds 93 .idiv 1 94 := ⟨by decide +kernel, rfl⟩
theorem d_Tue_odds_94 : zd b_Tue_odds 94 .i2l 1 95 := ⟨by decide +kernel, rfl⟩
theorem d_Tue_odds_95 : zd_b b_Tue_odds 95 .goto 98 104 := ⟨9, by decide +kernel, by decide, rfl⟩
theorem d_Tue_odds_98 : zd_l .iload_n .iload b_Tue_odds 98 8 100 := Or.inr ⟨by decide +kernel, rfl⟩
theorem d_Tue_odds_100 : zd_l .iload_n .iload b_Tue_odds 100 10 102 := Or.inr ⟨by decide +kernel, rfl⟩
theorem d_Tue_odds_102 : zd b_Tue_odds 102 .idiv 1 103 := ⟨by decide +kernel, rfl⟩
theorem d_Tue_odds_103 : zd b_Tue_odds 103 .i2l 1 104 := ⟨by decide +kernel, rfl⟩
theorem d_Tue_odds_104 : zd b_Tue_odds 104 .lreturn 1 105 := ⟨by decide +kernel, rfl⟩
theorem d_Tue_sheet_0 : zd_l .aload_n .aload b_Tue_sheet 0 0 1 := Or.inl ⟨0, rfl, by decide +kernel, rfl⟩
theorem d_Tue_sheet_1 : zd_k b_Tue_sheet "SameTuesday" 1 0 2 := Or.inl ⟨0, by decide +kernel, by decide, rfl⟩
theorem d_Tue_sheet_2 : zd b_Tue_sheet 2 (.putfield 55) 3 5 := ⟨by decide +kernel, rfl⟩
theorem d_Tue_sheet_5 : zd_l .aload_n .aload b_Tue_sheet 5 0 6 := Or.inl ⟨0, rfl, by decide +kernel, rfl⟩
theorem d_Tue_sheet_6 : zd_l .iload_n .iload b_Tue_sheet 6 1 7 := Or.inl ⟨1, rfl, by decide +kernel, rfl⟩
theorem d_Tue_sheet_7 : zd b_Tue_sheet 7 (.invokevirtual 59) 3 10 := ⟨by decide +kernel, rfl⟩
theorem d_Tue_sheet_10 : zd_l .astore_n .astore b_Tue_sheet 10 4 12 := Or.inr ⟨by decide +kernel, rfl⟩
theorem d_Tue_sheet_12 : zd_l .aload_n .aload b_Tue_sheet 12 4 14 := Or.inr ⟨by decide +kernel, rfl⟩
theorem d_Tue_sheet_14 : zd_b b_Tue_sheet 14 .ifnonnull 17 19 := ⟨5, by decide +kernel, by decide, rfl⟩
theorem d_Tue_sheet_17 : zd_k b_Tue_sheet "SameTuesday" 17 (-1) 18 := Or.inl ⟨(-1), by decide +kernel, by decide, rfl⟩
theorem d_Tue_sheet_18 : zd b_Tue_sheet 18 .ireturn 1 19 := ⟨by decide +kernel, rfl⟩
theorem d_Tue_sheet_19 : zd_l .iload_n .iload b_Tue_sheet 19 2 20 := Or.inl ⟨2, rfl, by decide +kernel, rfl⟩
theorem d_Tue_sheet_20 : zd b_Tue_sheet 20 (.invokestatic 213) 3 23 := ⟨by decide +kernel, rfl⟩
theorem d_Tue_sheet_23 : zd_b b_Tue_sheet 23 (.ifCond .eq) 26 32 := ⟨9, by decide +kernel, by decide, rfl⟩
theorem d_Tue_sheet_26 : zd_l .iload_n .iload b_Tue_sheet 26 3 27 := Or.inl ⟨3, rfl, by decide +kernel, rfl⟩
theorem d_Tue_sheet_27 : zd_k b_Tue_sheet "SameTuesday" 27 60 29 := Or.inr (Or.inl ⟨60, by decide +kernel, by decide, rfl⟩)
theorem d_Tue_sheet_29 : zd_b b_Tue_sheet 29 (.if_icmp .le) 32 35 := ⟨6, by decide +kernel, by decide, rfl⟩
theorem d_Tue_sheet_32 : zd_k b_Tue_sheet "SameTuesday" 32 (-2) 34 := Or.inr (Or.inl ⟨(-2), by decide +kernel, by decide, rfl⟩)
theorem d_Tue_sheet_34 : zd b_Tue_sheet 34 .ireturn 1 35 := ⟨by decide +kernel, rfl⟩
theorem d_Tue_sheet_35 : zd_l .iload_n .iload b_Tue_sheet 35 3 36 := Or.inl ⟨3, rfl, by decide +kernel, rfl⟩
theorem d_Tue_sheet_36 : zd_b b_Tue_sheet 36 (.ifCond .ge) 39 45 := ⟨9, by decide +kernel, by decide, rfl⟩
theorem d_Tue_sheet_39 : zd_l .aload_n .aload b_Tue_sheet 39 0 40 := Or.inl ⟨0, rfl, by decide +kernel, rfl⟩
theorem d_Tue_sheet_40 : zd_k b_Tue_sheet "SameTuesday" 40 4 41 := Or.inl ⟨4, by decide +kernel, by decide, rfl⟩
theorem d_Tue_sheet_41 : zd b_Tue_sheet 41 (.invokevirtual 216) 3 44 := ⟨by decide +kernel, rfl⟩
theorem d_Tue_sheet_44 : zd b_Tue_sheet 44 .ireturn 1 45 := ⟨by decide +kernel, rfl⟩
theorem d_Tue_sheet_45 : zd_l .aload_n .aload b_Tue_sheet 45 4 47 := Or.inr ⟨by decide +kernel, rfl⟩
theorem d_Tue_sheet_47 : zd_l .iload_n .iload b_Tue_sheet 47 2 48 := Or.inl ⟨2, rfl, by decide +kernel, rfl⟩
theorem d_Tue_sheet_48 : zd_l .iload_n .iload b_Tue_sheet 48 3 49 := Or.inl ⟨3, rfl, by decide +kernel, rfl⟩
theorem d_Tue_sheet_49 : zd b_Tue_sheet 49 (.invokevirtual 219) 3 52 := ⟨by decide +kernel, rfl⟩
theorem d_Tue_sheet_52 : zd_k b_Tue_sheet "SameTuesday" 52 1 53 := Or.inl ⟨1, by decide +kernel, by decide, rfl⟩
theorem d_Tue_sheet_53 : zd b_Tue_sheet 53 .ireturn 1 54 := ⟨by decide +kernel, rfl⟩
theorem d_Tue_lose_0 : zd_l .aload_n .aload b_Tue_lose 0 0 1 := Or.inl ⟨0, rfl, by decide +kernel, rfl⟩
theorem d_Tue_lose_1 : zd_l .iload_n .iload b_Tue_lose 1 1 2 := Or.inl ⟨1, rfl, by decide +kernel, rfl⟩
theorem d_Tue_lose_2 : zd b_Tue_lose 2 (.invokevirtual 59) 3 5 := ⟨by decide +kernel, rfl⟩
theorem d_Tue_lose_5 : zd_l .astore_n .astore b_Tue_lose 5 2 6 := Or.inl ⟨2, rfl, by decide +kernel, rfl⟩
theorem d_Tue_lose_6 : zd_l .aload_n .aload b_Tue_lose 6 2 7 := Or.inl ⟨2, rfl, by decide +kernel, rfl⟩
theorem d_Tue_lose_7 : zd_b b_Tue_lose 7 .ifnonnull 10 12 := ⟨5, by decide +kernel, by decide, rfl⟩
theorem d_Tue_lose_10 : zd_k b_Tue_lose "SameTuesday" 10 (-1) 11 := Or.inl ⟨(-1), by decide +kernel, by decide, rfl⟩
theorem d_Tue_lose_11 : zd b_Tue_lose 11 .ireturn 1 12 := ⟨by decide +kernel, rfl⟩
theorem d_Tue_lose_12 : zd_l .aload_n .aload b_Tue_lose 12 2 13 := Or.inl ⟨2, rfl, by decide +kernel, rfl⟩
theorem d_Tue_lose_13 : zd b_Tue_lose 13 (.invokevirtual 223) 3 16 := ⟨by decide +kernel, rfl⟩
theorem d_Tue_lose_16 : zd_b b_Tue_lose 16 (.ifCond .ne) 19 23 := ⟨7, by decide +kernel, by decide, rfl⟩
theorem d_Tue_lose_19 : zd_k b_Tue_lose "SameTuesday" 19 1 20 := Or.inl ⟨1, by decide +kernel, by decide, rfl⟩
theorem d_Tue_lose_20 : zd_b b_Tue_lose 20 .goto 23 24 := ⟨4, by decide +kernel, by decide, rfl⟩
theorem d_Tue_lose_23 : zd_k b_Tue_lose "SameTuesday" 23 0 24 := Or.inl ⟨0, by decide +kernel, by decide, rfl⟩
theorem d_Tue_lose_24 : zd_l .istore_n .istore b_Tue_lose 24 3 25 := Or.inl ⟨3, rfl, by decide +kernel, rfl⟩
theorem d_Tue_lose_25 : zd_l .aload_n .aload b_Tue_lose 25 2 26 := Or.inl ⟨2, rfl, by decide +kernel, rfl⟩
theorem d_Tue_lose_26 : zd b_Tue_lose 26 (.invokevirtual 226) 3 29 := ⟨by decide +kernel, rfl⟩
theorem d_Tue_lose_29 : zd_l .iload_n .iload b_Tue_lose 29 3 30 := Or.inl ⟨3, rfl, by decide +kernel, rfl⟩
theorem d_Tue_lose_30 : zd_b b_Tue_lose 30 (.ifCond .eq) 33 37 := ⟨7, by decide +kernel, by decide, rfl⟩
theorem d_Tue_lose_33 : zd_k b_Tue_lose "SameTuesday" 33 1 34 := Or.inl ⟨1, by decide +kernel, by decide, rfl⟩
theorem d_Tue_lose_34 : zd_b b_Tue_lose 34 .goto 37 38 := ⟨4, by decide +kernel, by decide, rfl⟩
theorem d_Tue_lose_37 : zd_k b_Tue_lose "SameTuesday" 37 0 38 := Or.inl ⟨0, by decide +kernel, by decide, rfl⟩
theorem d_Tue_lose_38 : zd b_Tue_lose 38 .ireturn 1 39 := ⟨by decide +kernel, rfl⟩
theorem d_Tue_put_0 : zd_l .aload_n .aload b_Tue_put 0 0 1 := Or.inl ⟨0, rfl, by decide +kernel, rfl⟩
theorem d_Tue_put_1 : zd_k b_Tue_put "SameTuesday" 1 0 2 := Or.inl ⟨0, by decide +kernel, by decide, rfl⟩
theorem d_Tue_put_2 : zd b_Tue_put 2 (.putfield 55) 3 5 := ⟨by decide +kernel, rfl⟩
theorem d_Tue_put_5 : zd_l .aload_n .aload b_Tue_put 5 0 6 := Or.inl ⟨0, rfl, by decide +kernel, rfl⟩
theorem d_Tue_put_6 : zd_l .iload_n .iload b_Tue_put 6 1 7 := Or.inl ⟨1, rfl, by decide +kernel, rfl⟩
theorem d_Tue_put_7 : zd b_Tue_put 7 (.invokevirtual 59) 3 10 := ⟨by decide +kernel, rfl⟩
theorem d_Tue_put_10 : zd_l .astore_n .astore b_Tue_put 10 4 12 := Or.inr ⟨by decide +kernel, rfl⟩
theorem d_Tue_put_12 : zd_l .aload_n .aload b_Tue_put 12 4 14 := Or.inr ⟨by decide +kernel, rfl⟩
theorem d_Tue_put_14 : zd_b b_Tue_put 14 .ifnonnull 17 19 := ⟨5, by decide +kernel, by decide, rfl⟩
theorem d_Tue_put_17 : zd_k b_Tue_put "SameTuesday" 17 (-1) 18 := Or.inl ⟨(-1), by decide +kernel, by decide, rfl⟩
theorem d_Tue_put_18 : zd b_Tue_put 18 .ireturn 1 19 := ⟨by decide +kernel, rfl⟩
theorem d_Tue_put_19 : zd_l .aload_n .aload b_Tue_put 19 4 21 := Or.inr ⟨by decide +kernel, rfl⟩
theorem d_Tue_put_21 : zd b_Tue_put 21 (.invokevirtual 223) 3 24 := ⟨by decide +kernel, rfl⟩
theorem d_Tue_put_24 : zd_b b_Tue_put 24 (.ifCond .eq) 27 33 := ⟨9, by decide +kernel, by decide, rfl⟩
theorem d_Tue_put_27 : zd_l .aload_n .aload b_Tue_put 27 0 28 := Or.inl ⟨0, rfl, by decide +kernel, rfl⟩
theorem d_Tue_put_28 : zd_k b_Tue_put "SameTuesday" 28 1 29 := Or.inl ⟨1, by decide +kernel, by decide, rfl⟩
theorem d_Tue_put_29 : zd b_Tue_put 29 (.invokevirtual 216) 3 32 := ⟨by decide +kernel, rfl⟩
theorem d_Tue_put_32 : zd b_Tue_put 32 .ireturn 1 33 := ⟨by decide +kernel, rfl⟩
theorem d_Tue_put_33 : zd_l .aload_n .aload b_Tue_put 33 4 35 := Or.inr ⟨by decide +kernel, rfl⟩
theorem d_Tue_put_35 : zd_l .iload_n .iload b_Tue_put 35 2 36 := Or.inl ⟨2, rfl, by decide +kernel, rfl⟩
theorem d_Tue_put_36 : zd_k b_Tue_put "SameTuesday" 36 1 37 := Or.inl ⟨1, by decide +kernel, by decide, rfl⟩
theorem d_Tue_put_37 : zd b_Tue_put 37 (.invokevirtual 229) 3 40 := ⟨by decide +kernel, rfl⟩
theorem d_Tue_put_40 : zd_b b_Tue_put 40 (.ifCond .ne) 43 49 := ⟨9, by decide +kernel, by decide, rfl⟩
theorem d_Tue_put_43 : zd_l .aload_n .aload b_Tue_put 43 0 44 := Or.inl ⟨0, rfl, by decide +kernel, rfl⟩
theorem d_Tue_put_44 : zd_k b_Tue_put "SameTuesday" 44 3 45 := Or.inl ⟨3, by decide +kernel, by decide, rfl⟩
theorem d_Tue_put_45 : zd b_Tue_put 45 (.invokevirtual 216) 3 48 := ⟨by decide +kernel, rfl⟩
theorem d_Tue_put_48 : zd b_Tue_put 48 .ireturn 1 49 := ⟨by decide +kernel, rfl⟩
theorem d_Tue_put_49 : zd_l .aload_n .aload b_Tue_put 49 4 51 := Or.inr ⟨by decide +kernel, rfl⟩
theorem d_Tue_put_51 : zd_l .iload_n .iload b_Tue_put 51 2 52 := Or.inl ⟨2, rfl, by decide +kernel, rfl⟩
theorem d_Tue_put_52 : zd_l .iload_n .iload b_Tue_put 52 3 53 := Or.inl ⟨3, rfl, by decide +kernel, rfl⟩
theorem d_Tue_put_53 : zd b_Tue_put 53 (.invokevirtual 233) 3 56 := ⟨by decide +kernel, rfl⟩
theorem d_Tue_put_56 : zd_k b_Tue_put "SameTuesday" 56 1 57 := Or.inl ⟨1, by decide +kernel, by decide, rfl⟩
theorem d_Tue_put_57 : zd b_Tue_put 57 .ireturn 1 58 := ⟨by decide +kernel, rfl⟩
theorem d_Tue_cell_0 : zd_l .aload_n .aload b_Tue_cell 0 0 1 := Or.inl ⟨0, rfl, by decide +kernel, rfl⟩
theorem d_Tue_cell_1 : zd_k b_Tue_cell "SameTuesday" 1 0 2 := Or.inl ⟨0, by decide +kernel, by decide, rfl⟩
theorem d_Tue_cell_2 : zd b_Tue_cell 2 (.putfield 55) 3 5 := ⟨by decide +kernel, rfl⟩
theorem d_Tue_cell_5 : zd_l .aload_n .aload b_Tue_cell 5 0 6 := Or.inl ⟨0, rfl, by decide +kernel, rfl⟩
theorem d_Tue_cell_6 : zd_l .iload_n .iload b_Tue_cell 6 1 7 := Or.inl ⟨1, rfl, by decide +kernel, rfl⟩
theorem d_Tue_cell_7 : zd b_Tue_cell 7 (.invokevirtual 59) 3 10 := ⟨by decide +kernel, rfl⟩
theorem d_Tue_cell_10 : zd_l .astore_n .astore b_Tue_cell 10 4 12 := Or.inr ⟨by decide +kernel, rfl⟩
theorem d_Tue_cell_12 : zd_l .aload_n .aload b_Tue_cell 12 4 14 := Or.inr ⟨by decide +kernel, rfl⟩
theorem d_Tue_cell_14 : zd_b b_Tue_cell 14 .ifnull 17 29 := ⟨15, by decide +kernel, by decide, rfl⟩
theorem d_Tue_cell_17 : zd_l .aload_n .aload b_Tue_cell 17 0 18 := Or.inl ⟨0, rfl, by decide +kernel, rfl⟩
theorem d_Tue_cell_18 : zd_l .aload_n .aload b_Tue_cell 18 4 20 := Or.inr ⟨by decide +kernel, rfl⟩
theorem d_Tue_cell_20 : zd_l .iload_n .iload b_Tue_cell 20 3 21 := Or.inl ⟨3, rfl, by decide +kernel, rfl⟩
theorem d_Tue_cell_21 : zd_l .iload_n .iload b_Tue_cell 21 2 22 := Or.inl ⟨2, rfl, by decide +kernel, rfl⟩
theorem d_Tue_cell_22 : zd_k b_Tue_cell "SameTuesday" 22 1 23 := Or.inl ⟨1, by decide +kernel, by decide, rfl⟩
theorem d_Tue_cell_23 : zd b_Tue_cell 23 (.invokevirtual 63) 3 26 := ⟨by decide +kernel, rfl⟩
theorem d_Tue_cell_26 : zd_b b_Tue_cell 26 (.ifCond .eq) 29 33 := ⟨7, by decide +kernel, by decide, rfl⟩
set_option maxRecDepth 20000 in
theorem d_Tue_cell_29 : zd_kl b_Tue_cell "SameTuesday" 29 (-9223372036854775808) 32 := Or.inr ⟨205, by decide +kernel, zb_mem 779 rfl rfl, rfl⟩
theorem d_Tue_cell_32 : zd b_Tue_cell 32 .lreturn 1 33 := ⟨by decide +kernel, rfl⟩
theorem d_Tue_cell_33 : zd_l .aload_n .aload b_Tue_cell 33 4 35 := Or.inr ⟨by decide +kernel, rfl⟩
theorem d_Tue_cell_35 : zd_l .iload_n .iload b_Tue_cell 35 2 36 := Or.inl ⟨2, rfl, by decide +kernel, rfl⟩
theorem d_Tue_cell_36 : zd b_Tue_cell 36 (.invokevirtual 236) 3 39 := ⟨by decide +kernel, rfl⟩
theorem d_Tue_cell_39 : zd b_Tue_cell 39 .i2l 1 40 := ⟨by decide +kernel, rfl⟩
theorem d_Tue_cell_40 : zd b_Tue_cell 40 .lreturn 1 41 := ⟨by decide +kernel, rfl⟩
theorem d_Tue_copy_0 : zd_l .aload_n .aload b_Tue_copy 0 0 1 := Or.inl ⟨0, rfl, by decide +kernel, rfl⟩
theorem d_Tue_copy_1 : zd_k b_Tue_copy "SameTuesday" 1 0 2 := Or.inl ⟨0, by decide +kernel, by decide, rfl⟩
theorem d_Tue_copy_2 : zd b_Tue_copy 2 (.putfield 55) 3 5 := ⟨by decide +kernel, rfl⟩
theorem d_Tue_copy_5 : zd_l .aload_n .aload b_Tue_copy 5 0 6 := Or.inl ⟨0, rfl, by decide +kernel, rfl⟩
theorem d_Tue_copy_6 : zd_l .iload_n .iload b_Tue_copy 6 1 7 := Or.inl ⟨1, rfl, by decide +kernel, rfl⟩
theorem d_Tue_copy_7 : zd b_Tue_copy 7 (.invokevirtual 59) 3 10 := ⟨by decide +kernel, rfl⟩
theorem d_Tue_copy_10 : zd_l .astore_n .astore b_Tue_copy 10 6 12 := Or.inr ⟨by decide +kernel, rfl⟩
theorem d_Tue_copy_12 : zd_l .aload_n .aload b_Tue_copy 12 0 13 := Or.inl ⟨0, rfl, by decide +kernel, rfl⟩
theorem d_Tue_copy_13 : zd_l .iload_n .iload b_Tue_copy 13 3 14 := Or.inl ⟨3, rfl, by decide +kernel, rfl⟩
theorem d_Tue_copy_14 : zd b_Tue_copy 14 (.invokevirtual 59) 3 17 := ⟨by decide +kernel, rfl⟩
theorem d_Tue_copy_17 : zd_l .astore_n .astore b_Tue_copy 17 7 19 := Or.inr ⟨by decide +kernel, rfl⟩
theorem d_Tue_copy_19 : zd_l .aload_n .aload b_Tue_copy 19 6 21 := Or.inr ⟨by decide +kernel, rfl⟩
theorem d_Tue_copy_21 : zd_b b_Tue_copy 21 .ifnull 24 29 := ⟨8, by decide +kernel, by decide, rfl⟩
theorem d_Tue_copy_24 : zd_l .aload_n .aload b_Tue_copy 24 7 26 := Or.inr ⟨by decide +kernel, rfl⟩
theorem d_Tue_copy_26 : zd_b b_Tue_copy 26 .ifnonnull 29 31 := ⟨5, by decide +kernel, by decide, rfl⟩
theorem d_Tue_copy_29 : zd_k b_Tue_copy "SameTuesday" 29 (-1) 30 := Or.inl ⟨(-1), by decide +kernel, by decide, rfl⟩
theorem d_Tue_copy_30 : zd b_Tue_copy 30 .ireturn 1 31 := ⟨by decide +kernel, rfl⟩
theorem d_Tue_copy_31 : zd_l .aload_n .aload b_Tue_copy 31 6 33 := Or.inr ⟨by decide +kernel, rfl⟩
theorem d_Tue_copy_33 : zd b_Tue_copy 33 (.invokevirtual 223) 3 36 := ⟨by decide +kernel, rfl⟩
theorem d_Tue_copy_36 : zd_b b_Tue_copy 36 (.ifCond .ne) 39 47 := ⟨11, by decide +kernel, by decide, rfl⟩
theorem d_Tue_copy_39 : zd_l .aload_n .aload b_Tue_copy 39 7 41 := Or.inr ⟨by decide +kernel, rfl⟩
theorem d_Tue_copy_41 : zd b_Tue_copy 41 (.invokevirtual 223) 3 44 := ⟨by decide +kernel, rfl⟩
theorem d_Tue_copy_44 : zd_b b_Tue_copy 44 (.ifCond .eq) 47 53 := ⟨9, by decide +kernel, by decide, rfl⟩
theorem d_Tue_copy_47 : zd_l .aload_n .aload b_Tue_copy 47 0 48 := Or.inl ⟨0, rfl, by decide +kernel, rfl⟩
theorem d_Tue_copy_48 : zd_k b_Tue_copy "SameTuesday" 48 1 49 := Or.inl ⟨1, by decide +kernel, by decide, rfl⟩
theorem d_Tue_copy_49 : zd b_Tue_copy 49 (.invokevirtual 216) 3 52 := ⟨by decide +kernel, rfl⟩
theorem d_Tue_copy_52 : zd b_Tue_copy 52 .ireturn 1 53 := ⟨by decide +kernel, rfl⟩
theorem d_Tue_copy_53 : zd_l .aload_n .aload b_Tue_copy 53 6 55 := Or.inr ⟨by decide +kernel, rfl⟩
theorem d_Tue_copy_55 : zd_l .aload_n .aload b_Tue_copy 55 7 57 := Or.inr ⟨by decide +kernel, rfl⟩
theorem d_Tue_copy_57 : zd b_Tue_copy 57 (.invokevirtual 239) 3 60 := ⟨by decide +kernel, rfl⟩
theorem d_Tue_copy_60 : zd_b b_Tue_copy 60 (.ifCond .ne) 63 69 := ⟨9, by decide +kernel, by decide, rfl⟩
theorem d_Tue_copy_63 : zd_l .aload_n .aload b_Tue_copy 63 0 64 := Or.inl ⟨0, rfl, by decide +kernel, rfl⟩
theorem d_Tue_copy_64 : zd_k b_Tue_copy "SameTuesday" 64 2 65 := Or.inl ⟨2, by decide +kernel, by decide, rfl⟩
theorem d_Tue_copy_65 : zd b_Tue_copy 65 (.invokevirtual 216) 3 68 := ⟨by decide +kernel, rfl⟩
theorem d_Tue_copy_68 : zd b_Tue_copy 68 .ireturn 1 69 := ⟨by decide +kernel, rfl⟩
theorem d_Tue_copy_69 : zd_l .aload_n .aload b_Tue_copy 69 6 71 := Or.inr ⟨by decide +kernel, rfl⟩
theorem d_Tue_copy_71 : zd_l .iload_n .iload b_Tue_copy 71 2 72 := Or.inl ⟨2, rfl, by decide +kernel, rfl⟩
theorem d_Tue_copy_72 : zd_l .iload_n .iload b_Tue_copy 72 5 74 := Or.inr ⟨by decide +kernel, rfl⟩
theorem d_Tue_copy_74 : zd b_Tue_copy 74 (.invokevirtual 229) 3 77 := ⟨by decide +kernel, rfl⟩
theorem d_Tue_copy_77 : zd_b b_Tue_copy 77 (.ifCond .eq) 80 92 := ⟨15, by decide +kernel, by decide, rfl⟩
theorem d_Tue_copy_80 : zd_l .aload_n .aload b_Tue_copy 80 7 82 := Or.inr ⟨by decide +kernel, rfl⟩
theorem d_Tue_copy_82 : zd_l .iload_n .iload b_Tue_copy 82 4 84 := Or.inr ⟨by decide +kernel, rfl⟩
theorem d_Tue_copy_84 : zd_l .iload_n .iload b_Tue_copy 84 5 86 := Or.inr ⟨by decide +kernel, rfl⟩
theorem d_Tue_copy_86 : zd b_Tue_copy 86 (.invokevirtual 229) 3 89 := ⟨by decide +kernel, rfl⟩
theorem d_Tue_copy_89 : zd_b b_Tue_copy 89 (.ifCond .ne) 92 98 := ⟨9, by decide +kernel, by decide, rfl⟩
theorem d_Tue_copy_92 : zd_l .aload_n .aload b_Tue_copy 92 0 93 := Or.inl ⟨0, rfl, by decide +kernel, rfl⟩
theorem d_Tue_copy_93 : zd_k b_Tue_copy "SameTuesday" 93 3 94 := Or.inl ⟨3, by decide +kernel, by decide, rfl⟩
theorem d_Tue_copy_94 : zd b_Tue_copy 94 (.invokevirtual 216) 3 97 := ⟨by decide +kernel, rfl⟩
theorem d_Tue_copy_97 : zd b_Tue_copy 97 .ireturn 1 98 := ⟨by decide +kernel, rfl⟩
theorem d_Tue_copy_98 : zd_l .aload_n .aload b_Tue_copy 98 7 100 := Or.inr ⟨by decide +kernel, rfl⟩
theorem d_Tue_copy_100 : zd_l .aload_n .aload b_Tue_copy 100 6 102 := Or.inr ⟨by decide +kernel, rfl⟩
theorem d_Tue_copy_102 : zd_l .iload_n .iload b_Tue_copy 102 2 103 := Or.inl ⟨2, rfl, by decide +kernel, rfl⟩
theorem d_Tue_copy_103 : zd_l .iload_n .iload b_Tue_copy 103 4 105 := Or.inr ⟨by decide +kernel, rfl⟩
theorem d_Tue_copy_105 : zd_l .iload_n .iload b_Tue_copy 105 5 107 := Or.inr ⟨by decide +kernel, rfl⟩
theorem d_Tue_copy_107 : zd b_Tue_copy 107 (.invokevirtual 243) 3 110 := ⟨by decide +kernel, rfl⟩
theorem d_Tue_copy_110 : zd_l .iload_n .iload b_Tue_copy 110 5 112 := Or.inr ⟨by decide +kernel, rfl⟩
theorem d_Tue_copy_112 : zd b_Tue_copy 112 .ireturn 1 113 := ⟨by decide +kernel, rfl⟩
theorem d_Tue_tell_0 : zd_l .aload_n .aload b_Tue_tell 0 0 1 := Or.inl ⟨0, rfl, by decide +kernel, rfl⟩
theorem d_Tue_tell_1 : zd b_Tue_tell 1 (.getfield 21) 3 4 := ⟨by decide +kernel, rfl⟩
theorem d_Tue_tell_4 : zd_l .iload_n .iload b_Tue_tell 4 1 5 := Or.inl ⟨1, rfl, by decide +kernel, rfl⟩
theorem d_Tue_tell_5 : zd b_Tue_tell 5 (.invokevirtual 93) 3 8 := ⟨by decide +kernel, rfl⟩
theorem d_Tue_tell_8 : zd_l .astore_n .astore b_Tue_tell 8 2 9 := Or.inl ⟨2, rfl, by decide +kernel, rfl⟩
theorem d_Tue_tell_9 : zd_l .aload_n .aload b_Tue_tell 9 2 10 := Or.inl ⟨2, rfl, by decide +kernel, rfl⟩
theorem d_Tue_tell_10 : zd_b b_Tue_tell 10 .ifnonnull 13 17 := ⟨7, by decide +kernel, by decide, rfl⟩
theorem d_Tue_tell_13 : zd_k b_Tue_tell "SameTuesday" 13 (-1) 14 := Or.inl ⟨(-1), by decide +kernel, by decide, rfl⟩
theorem d_Tue_tell_14 : zd_b b_Tue_tell 14 .goto 17 25 := ⟨11, by decide +kernel, by decide, rfl⟩
theorem d_Tue_tell_17 : zd_l .aload_n .aload b_Tue_tell 17 2 18 := Or.inl ⟨2, rfl, by decide +kernel, rfl⟩
theorem d_Tue_tell_18 : zd_l .aload_n .aload b_Tue_tell 18 0 19 := Or.inl ⟨0, rfl, by decide +kernel, rfl⟩
theorem d_Tue_tell_19 : zd b_Tue_tell 19 (.getfield 51) 3 22 := ⟨by decide +kernel, rfl⟩
theorem d_Tue_tell_22 : zd b_Tue_tell 22 (.invokevirtual 247) 3 25 := ⟨by decide +kernel, rfl⟩
theorem d_Tue_tell_25 : zd b_Tue_tell 25 .ireturn 1 26 := ⟨by decide +kernel, rfl⟩
theorem d_Tue_rhyme_0 : zd_l .aload_n .aload b_Tue_rhyme 0 0 1 := Or.inl ⟨0, rfl, by decide +kernel, rfl⟩
theorem d_Tue_rhyme_1 : zd b_Tue_rhyme 1 (.getfield 21) 3 4 := ⟨by decide +kernel, rfl⟩
theorem d_Tue_rhyme_4 : zd_l .iload_n .iload b_Tue_rhyme 4 1 5 := Or.inl ⟨1, rfl, by decide +kernel, rfl⟩
theorem d_Tue_rhyme_5 : zd b_Tue_rhyme 5 (.invokevirtual 93) 3 8 := ⟨by decide +kernel, rfl⟩
theorem d_Tue_rhyme_8 : zd_l .astore_n .astore b_Tue_rhyme 8 2 9 := Or.inl ⟨2, rfl, by decide +kernel, rfl⟩
theorem d_Tue_rhyme_9 : zd_l .aload_n .aload b_Tue_rhyme 9 2 10 := Or.inl ⟨2, rfl, by decide +kernel, rfl⟩
theorem d_Tue_rhyme_10 : zd_b b_Tue_rhyme 10 .ifnonnull 13 17 := ⟨7, by decide +kernel, by decide, rfl⟩
theorem d_Tue_rhyme_13 : zd_k b_Tue_rhyme "SameTuesday" 13 (-1) 14 := Or.inl ⟨(-1), by decide +kernel, by decide, rfl⟩
theorem d_Tue_rhyme_14 : zd_b b_Tue_rhyme 14 .goto 17 25 := ⟨11, by decide +kernel, by decide, rfl⟩
theorem d_Tue_rhyme_17 : zd_l .aload_n .aload b_Tue_rhyme 17 2 18 := Or.inl ⟨2, rfl, by decide +kernel, rfl⟩
theorem d_Tue_rhyme_18 : zd_l .aload_n .aload b_Tue_rhyme 18 0 19 := Or.inl ⟨0, rfl, by decide +kernel, rfl⟩
theorem d_Tue_rhyme_19 : zd b_Tue_rhyme 19 (.getfield 51) 3 22 := ⟨by decide +kernel, rfl⟩
theorem d_Tue_rhyme_22 : zd b_Tue_rhyme 22 (.invokevirtual 251) 3 25 := ⟨by decide +kernel, rfl⟩
theorem d_Tue_rhyme_25 : zd b_Tue_rhyme 25 .ireturn 1 26 := ⟨by decide +kernel, rfl⟩
theorem d_Tue_as_0 : zd_l .aload_n .aload b_Tue_as 0 0 1 := Or.inl ⟨0, rfl, by decide +kernel, rfl⟩
theorem d_Tue_as_1 : zd_k b_Tue_as "SameTuesday" 1 0 2 := Or.inl ⟨0, by decide +kernel, by decide, rfl⟩
theorem d_Tue_as_2 : zd b_Tue_as 2 (.putfield 55) 3 5 := ⟨by decide +kernel, rfl⟩
theorem d_Tue_as_5 : zd_l .aload_n .aload b_Tue_as 5 0 6 := Or.inl ⟨0, rfl, by decide +kernel, rfl⟩
theorem d_Tue_as_6 : zd b_Tue_as 6 (.getfield 21) 3 9 := ⟨by decide +kernel, rfl⟩
theorem d_Tue_as_9 : zd_l .iload_n .iload b_Tue_as 9 1 10 := Or.inl ⟨1, rfl, by decide +kernel, rfl⟩
theorem d_Tue_as_10 : zd b_Tue_as 10 (.invokevirtual 93) 3 13 := ⟨by decide +kernel, rfl⟩
theorem d_Tue_as_13 : zd_l .astore_n .astore b_Tue_as 13 3 14 := Or.inl ⟨3, rfl, by decide +kernel, rfl⟩
theorem d_Tue_as_14 : zd_l .aload_n .aload b_Tue_as 14 3 15 := Or.inl ⟨3, rfl, by decide +kernel, rfl⟩
theorem d_Tue_as_15 : zd_b b_Tue_as 15 .ifnonnull 18 20 := ⟨5, by decide +kernel, by decide, rfl⟩
theorem d_Tue_as_18 : zd_k b_Tue_as "SameTuesday" 18 (-1) 19 := Or.inl ⟨(-1), by decide +kernel, by decide, rfl⟩
theorem d_Tue_as_19 : zd b_Tue_as 19 .ireturn 1 20 := ⟨by decide +kernel, rfl⟩
theorem d_Tue_as_20 : zd_l .iload_n .iload b_Tue_as 20 2 21 := Or.inl ⟨2, rfl, by decide +kernel, rfl⟩
theorem d_Tue_as_21 : zd_b b_Tue_as 21 (.ifCond .lt) 24 29 := ⟨8, by decide +kernel, by decide, rfl⟩
theorem d_Tue_as_24 : zd_l .iload_n .iload b_Tue_as 24 2 25 := Or.inl ⟨2, rfl, by decide +kernel, rfl⟩
theorem d_Tue_as_25 : zd_k b_Tue_as "SameTuesday" 25 2 26 := Or.inl ⟨2, by decide +kernel, by decide, rfl⟩
theorem d_Tue_as_26 : zd_b b_Tue_as 26 (.if_icmp .le) 29 32 := ⟨6, by decide +kernel, by decide, rfl⟩
theorem d_Tue_as_29 : zd_k b_Tue_as "SameTuesday" 29 (-2) 31 := Or.inr (Or.inl ⟨(-2), by decide +kernel, by decide, rfl⟩)
theorem d_Tue_as_31 : zd b_Tue_as 31 .ireturn 1 32 := ⟨by decide +kernel, rfl⟩
theorem d_Tue_as_32 : zd_l .iload_n .iload b_Tue_as 32 2 33 := Or.inl ⟨2, rfl, by decide +kernel, rfl⟩
theorem d_Tue_as_33 : zd_l .aload_n .aload b_Tue_as 33 3 34 := Or.inl ⟨3, rfl, by decide +kernel, rfl⟩
theorem d_Tue_as_34 : zd b_Tue_as 34 (.invokevirtual 97) 3 37 := ⟨by decide +kernel, rfl⟩
theorem d_Tue_as_37 : zd_b b_Tue_as 37 (.if_icmp .gt) 40 44 := ⟨7, by decide +kernel, by decide, rfl⟩
theorem d_Tue_as_40 : zd_k b_Tue_as "SameTuesday" 40 1 41 := Or.inl ⟨1, by decide +kernel, by decide, rfl⟩
theorem d_Tue_as_41 : zd_b b_Tue_as 41 .goto 44 49 := ⟨8, by decide +kernel, by decide, rfl⟩
theorem d_Tue_as_44 : zd_l .aload_n .aload b_Tue_as 44 0 45 := Or.inl ⟨0, rfl, by decide +kernel, rfl⟩
theorem d_Tue_as_45 : zd_k b_Tue_as "SameTuesday" 45 2 46 := Or.inl ⟨2, by decide +kernel, by decide, rfl⟩
theorem d_Tue_as_46 : zd b_Tue_as 46 (.invokevirtual 216) 3 49 := ⟨by decide +kernel, rfl⟩
theorem d_Tue_as_49 : zd b_Tue_as 49 .ireturn 1 50 := ⟨by decide +kernel, rfl⟩
theorem d_Tue_trace_0 : zd_l .aload_n .aload b_Tue_trace 0 0 1 := Or.inl ⟨0, rfl, by decide +kernel, rfl⟩
theorem d_Tue_trace_1 : zd b_Tue_trace 1 (.getfield 51) 3 4 := ⟨by decide +kernel, rfl⟩
theorem d_Tue_trace_4 : zd b_Tue_trace 4 (.invokevirtual 254) 3 7 := ⟨by decide +kernel, rfl⟩
theorem d_Tue_trace_7 : zd b_Tue_trace 7 .ireturn 1 8 := ⟨by decide +kernel, rfl⟩
theorem d_Tue_fault_0 : zd_l .aload_n .aload b_Tue_fault 0 0 1 := Or.inl ⟨0, rfl, by decide +kernel, rfl⟩
theorem d_Tue_fault_1 : zd b_Tue_fault 1 (.getfield 55) 3 4 := ⟨by decide +kernel, rfl⟩
theorem d_Tue_fault_4 : zd b_Tue_fault 4 .ireturn 1 5 := ⟨by decide +kernel, rfl⟩
theorem d_Tue_many_0 : zd_l .iload_n .iload b_Tue_many 0 1 1 := Or.inl ⟨1, rfl, by decide +kernel, rfl⟩
theorem d_Tue_many_1 : decode b_Tue_many 1 = .ok (.tableswitch 63 0 3 #[31, 39, 47, 55], 31) := by decide +kernel
theorem d_Tue_many_32 : zd_l .aload_n .aload b_Tue_many 32 0 33 := Or.inl ⟨0, rfl, by decide +kernel, rfl⟩
theorem d_Tue_many_33 : zd b_Tue_many 33 (.getfield 21) 3 36 := ⟨by decide +kernel, rfl⟩
theorem d_Tue_many_36 : zd b_Tue_many 36 (.invokevirtual 90) 3 39 := ⟨by decide +kernel, rfl⟩
theorem d_Tue_many_39 : zd b_Tue_many 39 .ireturn 1 40 := ⟨by decide +kernel, rfl⟩
theorem d_Tue_many_40 : zd_l .aload_n .aload b_Tue_many 40 0 41 := Or.inl ⟨0, rfl, by decide +kernel, rfl⟩
theorem d_Tue_many_41 : zd b_Tue_many 41 (.getfield 21) 3 44 := ⟨by decide +kernel, rfl⟩
theorem d_Tue_many_44 : zd b_Tue_many 44 (.invokevirtual 257) 3 47 := ⟨by decide +kernel, rfl⟩
theorem d_Tue_many_47 : zd b_Tue_many 47 .ireturn 1 48 := ⟨by decide +kernel, rfl⟩
theorem d_Tue_many_48 : zd_l .aload_n .aload b_Tue_many 48 0 49 := Or.inl ⟨0, rfl, by decide +kernel, rfl⟩
theorem d_Tue_many_49 : zd b_Tue_many 49 (.getfield 21) 3 52 := ⟨by decide +kernel, rfl⟩
theorem d_Tue_many_52 : zd b_Tue_many 52 (.invokevirtual 129) 3 55 := ⟨by decide +kernel, rfl⟩
theorem d_Tue_many_55 : zd b_Tue_many 55 .ireturn 1 56 := ⟨by decide +kernel, rfl⟩
theorem d_Tue_many_56 : zd_l .aload_n .aload b_Tue_many 56 0 57 := Or.inl ⟨0, rfl, by decide +kernel, rfl⟩
theorem d_Tue_many_57 : zd b_Tue_many 57 (.getfield 44) 3 60 := ⟨by decide +kernel, rfl⟩
theorem d_Tue_many_60 : zd b_Tue_many 60 (.invokevirtual 80) 3 63 := ⟨by decide +kernel, rfl⟩
theorem d_Tue_many_63 : zd b_Tue_many 63 .ireturn 1 64 := ⟨by decide +kernel, rfl⟩
theorem d_Tue_many_64 : zd_k b_Tue_many "SameTuesday" 64 (-2) 66 := Or.inr (Or.inl ⟨(-2), by decide +kernel, by decide, rfl⟩)
theorem d_Tue_many_66 : zd b_Tue_many 66 .ireturn 1 67 := ⟨by decide +kernel, rfl⟩
theorem d_Tue_faulty_0 : zd_l .aload_n .aload b_Tue_faulty 0 0 1 := Or.inl ⟨0, rfl, by decide +kernel, rfl⟩
theorem d_Tue_faulty_1 : zd_l .iload_n .iload b_Tue_faulty 1 1 2 := Or.inl ⟨1, rfl, by decide +kernel, rfl⟩
theorem d_Tue_faulty_2 : zd b_Tue_faulty 2 (.putfield 55) 3 5 := ⟨by decide +kernel, rfl⟩
theorem d_Tue_faulty_5 : zd_k b_Tue_faulty "SameTuesday" 5 (-10) 7 := Or.inr (Or.inl ⟨(-10), by decide +kernel, by decide, rfl⟩)
theorem d_Tue_faulty_7 : zd_l .iload_n .iload b_Tue_faulty 7 1 8 := Or.inl ⟨1, rfl, by decide +kernel, rfl⟩
theorem d_Tue_faulty_8 : zd b_Tue_faulty 8 .isub 1 9 := ⟨by decide +kernel, rfl⟩
theorem d_Tue_faulty_9 : zd b_Tue_faulty 9 .ireturn 1 10 := ⟨by decide +kernel, rfl⟩
theorem d_Tue_sheetOf_0 : zd_l .iload_n .iload b_Tue_sheetOf 0 1 1 := Or.inl ⟨1, rfl, by decide +kernel, rfl⟩
theorem d_Tue_sheetOf_1 : zd_b b_Tue_sheetOf 1 (.ifCond .lt) 4 22 := ⟨21, by decide +kernel, by decide, rfl⟩
theorem d_Tue_sheetOf_4 : zd_l .iload_n .iload b_Tue_sheetOf 4 1 5 := Or.inl ⟨1, rfl, by decide +kernel, rfl⟩
theorem d_Tue_sheetOf_5 : zd_l .aload_n .aload b_Tue_sheetOf 5 0 6 := Or.inl ⟨0, rfl, by decide +kernel, rfl⟩
theorem d_Tue_sheetOf_6 : zd b_Tue_sheetOf 6 (.getfield 13) 3 9 := ⟨by decide +kernel, rfl⟩
theorem d_Tue_sheetOf_9 : zd b_Tue_sheetOf 9 .arraylength 1 10 := ⟨by decide +kernel, rfl⟩
theorem d_Tue_sheetOf_10 : zd_b b_Tue_sheetOf 10 (.if_icmp .ge) 13 22 := ⟨12, by decide +kernel, by decide, rfl⟩
theorem d_Tue_sheetOf_13 : zd_l .aload_n .aload b_Tue_sheetOf 13 0 14 := Or.inl ⟨0, rfl, by decide +kernel, rfl⟩
theorem d_Tue_sheetOf_14 : zd b_Tue_sheetOf 14 (.getfield 13) 3 17 := ⟨by decide +kernel, rfl⟩
theorem d_Tue_sheetOf_17 : zd_l .iload_n .iload b_Tue_sheetOf 17 1 18 := Or.inl ⟨1, rfl, by decide +kernel, rfl⟩
theorem d_Tue_sheetOf_18 : zd b_Tue_sheetOf 18 .aaload 1 19 := ⟨by decide +kernel, rfl⟩
theorem d_Tue_sheetOf_19 : zd_b b_Tue_sheetOf 19 .goto 22 23 := ⟨4, by decide +kernel, by decide, rfl⟩
theorem d_Tue_sheetOf_22 : zd b_Tue_sheetOf 22 .aconst_null 1 23 := ⟨by decide +kernel, rfl⟩
theorem d_Tue_sheetOf_23 : zd b_Tue_sheetOf 23 .areturn 1 24 := ⟨by decide +kernel, rfl⟩
theorem d_Tue_refusalOfCells_0 : zd_l .iload_n .iload b_Tue_refusalOfCells 0 2 1 := Or.inl ⟨2, rfl, by decide +kernel, rfl⟩
theorem d_Tue_refusalOfCells_1 : zd b_Tue_refusalOfCells 1 (.invokestatic 213) 3 4 := ⟨by decide +kernel, rfl⟩
theorem d_Tue_refusalOfCells_4 : zd_b b_Tue_refusalOfCells 4 (.ifCond .ne) 7 10 := ⟨6, by decide +kernel, by decide, rfl⟩
theorem d_Tue_refusalOfCells_7 : zd_k b_Tue_refusalOfCells "SameTuesday" 7 (-2) 9 := Or.inr (Or.inl ⟨(-2), by decide +kernel, by decide, rfl⟩)
theorem d_Tue_refusalOfCells_9 : zd b_Tue_refusalOfCells 9 .ireturn 1 10 := ⟨by decide +kernel, rfl⟩
theorem d_Tue_refusalOfCells_10 : zd_l .aload_n .aload b_Tue_refusalOfCells 10 1 11 := Or.inl ⟨1, rfl, by decide +kernel, rfl⟩
theorem d_Tue_refusalOfCells_11 : zd b_Tue_refusalOfCells 11 (.invokevirtual 223) 3 14 := ⟨by decide +kernel, rfl⟩
theorem d_Tue_refusalOfCells_14 : zd_b b_Tue_refusalOfCells 14 (.ifCond .eq) 17 23 := ⟨9, by decide +kernel, by decide, rfl⟩
theorem d_Tue_refusalOfCells_17 : zd_l .aload_n .aload b_Tue_refusalOfCells 17 0 18 := Or.inl ⟨0, rfl, by decide +kernel, rfl⟩
theorem d_Tue_refusalOfCells_18 : zd_k b_Tue_refusalOfCells "SameTuesday" 18 1 19 := Or.inl ⟨1, by decide +kernel, by decide, rfl⟩
theorem d_Tue_refusalOfCells_19 : zd b_Tue_refusalOfCells 19 (.invokevirtual 216) 3 22 := ⟨by decide +kernel, rfl⟩
theorem d_Tue_refusalOfCells_22 : zd b_Tue_refusalOfCells 22 .ireturn 1 23 := ⟨by decide +kernel, rfl⟩
theorem d_Tue_refusalOfCells_23 : zd_l .aload_n .aload b_Tue_refusalOfCells 23 1 24 := Or.inl ⟨1, rfl, by decide +kernel, rfl⟩
theorem d_Tue_refusalOfCells_24 : zd_l .iload_n .iload b_Tue_refusalOfCells 24 2 25 := Or.inl ⟨2, rfl, by decide +kernel, rfl⟩
theorem d_Tue_refusalOfCells_25 : zd b_Tue_refusalOfCells 25 (.invokevirtual 260) 3 28 := ⟨by decide +kernel, rfl⟩
theorem d_Tue_refusalOfCells_28 : zd_b b_Tue_refusalOfCells 28 (.ifCond .ne) 31 37 := ⟨9, by decide +kernel, by decide, rfl⟩
theorem d_Tue_refusalOfCells_31 : zd_l .aload_n .aload b_Tue_refusalOfCells 31 0 32 := Or.inl ⟨0, rfl, by decide +kernel, rfl⟩
theorem d_Tue_refusalOfCells_32 : zd_k b_Tue_refusalOfCells "SameTuesday" 32 2 33 := Or.inl ⟨2, by decide +kernel, by decide, rfl⟩
theorem d_Tue_refusalOfCells_33 : zd b_Tue_refusalOfCells 33 (.invokevirtual 216) 3 36 := ⟨by decide +kernel, rfl⟩
theorem d_Tue_refusalOfCells_36 : zd b_Tue_refusalOfCells 36 .ireturn 1 37 := ⟨by decide +kernel, rfl⟩
theorem d_Tue_refusalOfCells_37 : zd_l .iload_n .iload b_Tue_refusalOfCells 37 4 39 := Or.inr ⟨by decide +kernel, rfl⟩
theorem d_Tue_refusalOfCells_39 : zd_b b_Tue_refusalOfCells 39 (.ifCond .ge) 42 48 := ⟨9, by decide +kernel, by decide, rfl⟩
theorem d_Tue_refusalOfCells_42 : zd_l .aload_n .aload b_Tue_refusalOfCells 42 0 43 := Or.inl ⟨0, rfl, by decide +kernel, rfl⟩
theorem d_Tue_refusalOfCells_43 : zd_k b_Tue_refusalOfCells "SameTuesday" 43 4 44 := Or.inl ⟨4, by decide +kernel, by decide, rfl⟩
theorem d_Tue_refusalOfCells_44 : zd b_Tue_refusalOfCells 44 (.invokevirtual 216) 3 47 := ⟨by decide +kernel, rfl⟩
theorem d_Tue_refusalOfCells_47 : zd b_Tue_refusalOfCells 47 .ireturn 1 48 := ⟨by decide +kernel, rfl⟩
theorem d_Tue_refusalOfCells_48 : zd_l .aload_n .aload b_Tue_refusalOfCells 48 1 49 := Or.inl ⟨1, rfl, by decide +kernel, rfl⟩
theorem d_Tue_refusalOfCells_49 : zd_l .iload_n .iload b_Tue_refusalOfCells 49 3 50 := Or.inl ⟨3, rfl, by decide +kernel, rfl⟩
theorem d_Tue_refusalOfCells_50 : zd_l .iload_n .iload b_Tue_refusalOfCells 50 4 52 := Or.inr ⟨by decide +kernel, rfl⟩
theorem d_Tue_refusalOfCells_52 : zd b_Tue_refusalOfCells 52 (.invokevirtual 229) 3 55 := ⟨by decide +kernel, rfl⟩
theorem d_Tue_refusalOfCells_55 : zd_b b_Tue_refusalOfCells 55 (.ifCond .eq) 58 62 := ⟨7, by decide +kernel, by decide, rfl⟩
theorem d_Tue_refusalOfCells_58 : zd_k b_Tue_refusalOfCells "SameTuesday" 58 0 59 := Or.inl ⟨0, by decide +kernel, by decide, rfl⟩
theorem d_Tue_refusalOfCells_59 : zd_b b_Tue_refusalOfCells 59 .goto 62 67 := ⟨8, by decide +kernel, by decide, rfl⟩
theorem d_Tue_refusalOfCells_62 : zd_l .aload_n .aload b_Tue_refusalOfCells 62 0 63 := Or.inl ⟨0, rfl, by decide +kernel, rfl⟩
theorem d_Tue_refusalOfCells_63 : zd_k b_Tue_refusalOfCells "SameTuesday" 63 3 64 := Or.inl ⟨3, by decide +kernel, by decide, rfl⟩
theorem d_Tue_refusalOfCells_64 : zd b_Tue_refusalOfCells 64 (.invokevirtual 216) 3 67 := ⟨by decide +kernel, rfl⟩
theorem d_Tue_refusalOfCells_67 : zd b_Tue_refusalOfCells 67 .ireturn 1 68 := ⟨by decide +kernel, rfl⟩
theorem d_Tue_takeRow_0 : zd_l .aload_n .aload b_Tue_takeRow 0 0 1 := Or.inl ⟨0, rfl, by decide +kernel, rfl⟩
theorem d_Tue_takeRow_1 : zd_k b_Tue_takeRow "SameTuesday" 1 0 2 := Or.inl ⟨0, by decide +kernel, by decide, rfl⟩
theorem d_Tue_takeRow_2 : zd b_Tue_takeRow 2 (.putfield 55) 3 5 := ⟨by decide +kernel, rfl⟩
theorem d_Tue_takeRow_5 : zd_l .aload_n .aload b_Tue_takeRow 5 0 6 := Or.inl ⟨0, rfl, by decide +kernel, rfl⟩
theorem d_Tue_takeRow_6 : zd_l .iload_n .iload b_Tue_takeRow 6 1 7 := Or.inl ⟨1, rfl, by decide +kernel, rfl⟩
theorem d_Tue_takeRow_7 : zd b_Tue_takeRow 7 (.invokevirtual 59) 3 10 := ⟨by decide +kernel, rfl⟩
theorem d_Tue_takeRow_10 : zd_l .astore_n .astore b_Tue_takeRow 10 6 12 := Or.inr ⟨by decide +kernel, rfl⟩
theorem d_Tue_takeRow_12 : zd_l .aload_n .aload b_Tue_takeRow 12 6 14 := Or.inr ⟨by decide +kernel, rfl⟩
theorem d_Tue_takeRow_14 : zd_b b_Tue_takeRow 14 .ifnonnull 17 19 := ⟨5, by decide +kernel, by decide, rfl⟩
theorem d_Tue_takeRow_17 : zd_k b_Tue_takeRow "SameTuesday" 17 (-1) 18 := Or.inl ⟨(-1), by decide +kernel, by decide, rfl⟩
theorem d_Tue_takeRow_18 : zd b_Tue_takeRow 18 .ireturn 1 19 := ⟨by decide +kernel, rfl⟩
theorem d_Tue_takeRow_19 : zd_l .iload_n .iload b_Tue_takeRow 19 4 21 := Or.inr ⟨by decide +kernel, rfl⟩
theorem d_Tue_takeRow_21 : zd_b b_Tue_takeRow 21 (.ifCond .lt) 24 36 := ⟨15, by decide +kernel, by decide, rfl⟩
theorem d_Tue_takeRow_24 : zd_l .iload_n .iload b_Tue_takeRow 24 4 26 := Or.inr ⟨by decide +kernel, rfl⟩
theorem d_Tue_takeRow_26 : zd_k b_Tue_takeRow "SameTuesday" 26 20 28 := Or.inr (Or.inl ⟨20, by decide +kernel, by decide, rfl⟩)
theorem d_Tue_takeRow_28 : zd_b b_Tue_takeRow 28 (.if_icmp .gt) 31 36 := ⟨8, by decide +kernel, by decide, rfl⟩
theorem d_Tue_takeRow_31 : zd_l .iload_n .iload b_Tue_takeRow 31 5 33 := Or.inr ⟨by decide +kernel, rfl⟩
theorem d_Tue_takeRow_33 : zd_b b_Tue_takeRow 33 (.ifCond .ne) 36 39 := ⟨6, by decide +kernel, by decide, rfl⟩
theorem d_Tue_takeRow_36 : zd_k b_Tue_takeRow "SameTuesday" 36 (-2) 38 := Or.inr (Or.inl ⟨(-2), by decide +kernel, by decide, rfl⟩)
theorem d_Tue_takeRow_38 : zd b_Tue_takeRow 38 .ireturn 1 39 := ⟨by decide +kernel, rfl⟩
theorem d_Tue_takeRow_39 : zd_l .aload_n .aload b_Tue_takeRow 39 0 40 := Or.inl ⟨0, rfl, by decide +kernel, rfl⟩
theorem d_Tue_takeRow_40 : zd_l .aload_n .aload b_Tue_takeRow 40 6 42 := Or.inr ⟨by decide +kernel, rfl⟩
theorem d_Tue_takeRow_42 : zd_l .iload_n .iload b_Tue_takeRow 42 2 43 := Or.inl ⟨2, rfl, by decide +kernel, rfl⟩
theorem d_Tue_takeRow_43 : zd_l .iload_n .iload b_Tue_takeRow 43 3 44 := Or.inl ⟨3, rfl, by decide +kernel, rfl⟩
theorem d_Tue_takeRow_44 : zd_k b_Tue_takeRow "SameTuesday" 44 2 45 := Or.inl ⟨2, by decide +kernel, by decide, rfl⟩
theorem d_Tue_takeRow_45 : zd_l .iload_n .iload b_Tue_takeRow 45 4 47 := Or.inr ⟨by decide +kernel, rfl⟩
theorem d_Tue_takeRow_47 : zd b_Tue_takeRow 47 .imul 1 48 := ⟨by decide +kernel, rfl⟩
theorem d_Tue_takeRow_48 : zd b_Tue_takeRow 48 (.invokevirtual 63) 3 51 := ⟨by decide +kernel, rfl⟩
theorem d_Tue_takeRow_51 : zd_l .istore_n .istore b_Tue_takeRow 51 7 53 := Or.inr ⟨by decide +kernel, rfl⟩
theorem d_Tue_takeRow_53 : zd_l .iload_n .iload b_Tue_takeRow 53 7 55 := Or.inr ⟨by decide +kernel, rfl⟩
theorem d_Tue_takeRow_55 : zd_b b_Tue_takeRow 55 (.ifCond .eq) 58 61 := ⟨6, by decide +kernel, by decide, rfl⟩
theorem d_Tue_takeRow_58 : zd_l .iload_n .iload b_Tue_takeRow 58 7 60 := Or.inr ⟨by decide +kernel, rfl⟩
theorem d_Tue_takeRow_60 : zd b_Tue_takeRow 60 .ireturn 1 61 := ⟨by decide +kernel, rfl⟩
theorem d_Tue_takeRow_61 : zd_l .aload_n .aload b_Tue_takeRow 61 0 62 := Or.inl ⟨0, rfl, by decide +kernel, rfl⟩
theorem d_Tue_takeRow_62 : zd b_Tue_takeRow 62 (.getfield 21) 3 65 := ⟨by decide +kernel, rfl⟩
theorem d_Tue_takeRow_65 : zd b_Tue_takeRow 65 (.invokevirtual 125) 3 68 := ⟨by decide +kernel, rfl⟩
theorem d_Tue_takeRow_68 : zd_b b_Tue_takeRow 68 (.ifCond .eq) 71 86 := ⟨18, by decide +kernel, by decide, rfl⟩
theorem d_Tue_takeRow_71 : zd_l .aload_n .aload b_Tue_takeRow 71 0 72 := Or.inl ⟨0, rfl, by decide +kernel, rfl⟩
theorem d_Tue_takeRow_72 : zd b_Tue_takeRow 72 (.getfield 30) 3 75 := ⟨by decide +kernel, rfl⟩
theorem d_Tue_takeRow_75 : zd_l .aload_n .aload b_Tue_takeRow 75 6 77 := Or.inr ⟨by decide +kernel, rfl⟩
theorem d_Tue_takeRow_77 : zd_l .iload_n .iload b_Tue_takeRow 77 3 78 := Or.inl ⟨3, rfl, by decide +kernel, rfl⟩
theorem d_Tue_takeRow_78 : zd_l .iload_n .iload b_Tue_takeRow 78 4 80 := Or.inr ⟨by decide +kernel, rfl⟩
theorem d_Tue_takeRow_80 : zd b_Tue_takeRow 80 (.invokevirtual 263) 3 83 := ⟨by decide +kernel, rfl⟩
theorem d_Tue_takeRow_83 : zd_b b_Tue_takeRow 83 .goto 86 88 := ⟨5, by decide +kernel, by decide, rfl⟩
theorem d_Tue_takeRow_86 : zd_k b_Tue_takeRow "SameTuesday" 86 (-3) 88 := Or.inr (Or.inl ⟨(-3), by decide +kernel, by decide, rfl⟩)
theorem d_Tue_takeRow_88 : zd b_Tue_takeRow 88 .ireturn 1 89 := ⟨by decide +kernel, rfl⟩
theorem d_Tue_isLane_0 : zd_l .iload_n .iload b_Tue_isLane 0 0 1 := Or.inl ⟨0, rfl, by decide +kernel, rfl⟩
theorem d_Tue_isLane_1 : zd_b b_Tue_isLane 1 (.ifCond .lt) 4 13 := ⟨12, by decide +kernel, by decide, rfl⟩
theorem d_Tue_isLane_4 : zd_l .iload_n .iload b_Tue_isLane 4 0 5 := Or.inl ⟨0, rfl, by decide +kernel, rfl⟩
theorem d_Tue_isLane_5 : zd_k b_Tue_isLane "SameTuesday" 5 3 6 := Or.inl ⟨3, by decide +kernel, by decide, rfl⟩
theorem d_Tue_isLane_6 : zd_b b_Tue_isLane 6 (.if_icmp .ge) 9 13 := ⟨7, by decide +kernel, by decide, rfl⟩
theorem d_Tue_isLane_9 : zd_k b_Tue_isLane "SameTuesday" 9 1 10 := Or.inl ⟨1, by decide +kernel, by decide, rfl⟩
theorem d_Tue_isLane_10 : zd_b b_Tue_isLane 10 .goto 13 14 := ⟨4, by decide +kernel, by decide, rfl⟩
theorem d_Tue_isLane_13 : zd_k b_Tue_isLane "SameTuesday" 13 0 14 := Or.inl ⟨0, by decide +kernel, by decide, rfl⟩
theorem d_Tue_isLane_14 : zd b_Tue_isLane 14 .ireturn 1 15 := ⟨by decide +kernel, rfl⟩
theorem d_Tue_isSet_0 : zd_l .iload_n .iload b_Tue_isSet 0 0 1 := Or.inl ⟨0, rfl, by decide +kernel, rfl⟩
theorem d_Tue_isSet_1 : zd_b b_Tue_isSet 1 (.ifCond .lt) 4 14 := ⟨13, by decide +kernel, by decide, rfl⟩
theorem d_Tue_isSet_4 : zd_l .iload_n .iload b_Tue_isSet 4 0 5 := Or.inl ⟨0, rfl, by decide +kernel, rfl⟩
theorem d_Tue_isSet_5 : zd_k b_Tue_isSet "SameTuesday" 5 64 7 := Or.inr (Or.inl ⟨64, by decide +kernel, by decide, rfl⟩)
theorem d_Tue_isSet_7 : zd_b b_Tue_isSet 7 (.if_icmp .ge) 10 14 := ⟨7, by decide +kernel, by decide, rfl⟩
theorem d_Tue_isSet_10 : zd_k b_Tue_isSet "SameTuesday" 10 1 11 := Or.inl ⟨1, by decide +kernel, by decide, rfl⟩
theorem d_Tue_isSet_11 : zd_b b_Tue_isSet 11 .goto 14 15 := ⟨4, by decide +kernel, by decide, rfl⟩
theorem d_Tue_isSet_14 : zd_k b_Tue_isSet "SameTuesday" 14 0 15 := Or.inl ⟨0, by decide +kernel, by decide, rfl⟩
theorem d_Tue_isSet_15 : zd b_Tue_isSet 15 .ireturn 1 16 := ⟨by decide +kernel, rfl⟩
theorem d_Tue_isMinute_0 : zd_l .iload_n .iload b_Tue_isMinute 0 0 1 := Or.inl ⟨0, rfl, by decide +kernel, rfl⟩
theorem d_Tue_isMinute_1 : zd_b b_Tue_isMinute 1 (.ifCond .lt) 4 14 := ⟨13, by decide +kernel, by decide, rfl⟩
theorem d_Tue_isMinute_4 : zd_l .iload_n .iload b_Tue_isMinute 4 0 5 := Or.inl ⟨0, rfl, by decide +kernel, rfl⟩
theorem d_Tue_isMinute_5 : zd_k b_Tue_isMinute "SameTuesday" 5 60 7 := Or.inr (Or.inl ⟨60, by decide +kernel, by decide, rfl⟩)
theorem d_Tue_isMinute_7 : zd_b b_Tue_isMinute 7 (.if_icmp .ge) 10 14 := ⟨7, by decide +kernel, by decide, rfl⟩
theorem d_Tue_isMinute_10 : zd_k b_Tue_isMinute "SameTuesday" 10 1 11 := Or.inl ⟨1, by decide +kernel, by decide, rfl⟩
theorem d_Tue_isMinute_11 : zd_b b_Tue_isMinute 11 .goto 14 15 := ⟨4, by decide +kernel, by decide, rfl⟩
theorem d_Tue_isMinute_14 : zd_k b_Tue_isMinute "SameTuesday" 14 0 15 := Or.inl ⟨0, by decide +kernel, by decide, rfl⟩
theorem d_Tue_isMinute_15 : zd b_Tue_isMinute 15 .ireturn 1 16 := ⟨by decide +kernel, rfl⟩
theorem d_Tue_greatestCommon_0 : zd_l .iload_n .iload b_Tue_greatestCommon 0 0 1 := Or.inl ⟨0, rfl, by decide +kernel, rfl⟩
theorem d_Tue_greatestCommon_1 : zd_l .istore_n .istore b_Tue_greatestCommon 1 2 2 := Or.inl ⟨2, rfl, by decide +kernel, rfl⟩
theorem d_Tue_greatestCommon_2 : zd_l .iload_n .iload b_Tue_greatestCommon 2 1 3 := Or.inl ⟨1, rfl, by decide +kernel, rfl⟩
theorem d_Tue_greatestCommon_3 : zd_l .istore_n .istore b_Tue_greatestCommon 3 3 4 := Or.inl ⟨3, rfl, by decide +kernel, rfl⟩
theorem d_Tue_greatestCommon_4 : zd_k b_Tue_greatestCommon "SameTuesday" 4 0 5 := Or.inl ⟨0, by decide +kernel, by decide, rfl⟩
theorem d_Tue_greatestCommon_5 : zd_l .istore_n .istore b_Tue_greatestCommon 5 4 7 := Or.inr ⟨by decide +kernel, rfl⟩
theorem d_Tue_greatestCommon_7 : zd_l .iload_n .iload b_Tue_greatestCommon 7 4 9 := Or.inr ⟨by decide +kernel, rfl⟩
theorem d_Tue_greatestCommon_9 : zd_k b_Tue_greatestCommon "SameTuesday" 9 64 11 := Or.inr (Or.inl ⟨64, by decide +kernel, by decide, rfl⟩)
theorem d_Tue_greatestCommon_11 : zd_b b_Tue_greatestCommon 11 (.if_icmp .ge) 14 34 := ⟨23, by decide +kernel, by decide, rfl⟩
theorem d_Tue_greatestCommon_14 : zd_l .iload_n .iload b_Tue_greatestCommon 14 3 15 := Or.inl ⟨3, rfl, by decide +kernel, rfl⟩
theorem d_Tue_greatestCommon_15 : zd_b b_Tue_greatestCommon 15 (.ifCond .le) 18 34 := ⟨19, by decide +kernel, by decide, rfl⟩
theorem d_Tue_greatestCommon_18 : zd_l .iload_n .iload b_Tue_greatestCommon 18 2 19 := Or.inl ⟨2, rfl, by decide +kernel, rfl⟩
theorem d_Tue_greatestCommon_19 : zd_l .iload_n .iload b_Tue_greatestCommon 19 3 20 := Or.inl ⟨3, rfl, by decide +kernel, rfl⟩
theorem d_Tue_greatestCommon_20 : zd b_Tue_greatestCommon 20 .irem 1 21 := ⟨by decide +kernel, rfl⟩
theorem d_Tue_greatestCommon_21 : zd_l .istore_n .istore b_Tue_greatestCommon 21 5 23 := Or.inr ⟨by decide +kernel, rfl⟩
theorem d_Tue_greatestCommon_23 : zd_l .iload_n .iload b_Tue_greatestCommon 23 3 24 := Or.inl ⟨3, rfl, by decide +kernel, rfl⟩
theorem d_Tue_greatestCommon_24 : zd_l .istore_n .istore b_Tue_greatestCommon 24 2 25 := Or.inl ⟨2, rfl, by decide +kernel, rfl⟩
theorem d_Tue_greatestCommon_25 : zd_l .iload_n .iload b_Tue_greatestCommon 25 5 27 := Or.inr ⟨by decide +kernel, rfl⟩
theorem d_Tue_greatestCommon_27 : zd_l .istore_n .istore b_Tue_greatestCommon 27 3 28 := Or.inl ⟨3, rfl, by decide +kernel, rfl⟩
theorem d_Tue_greatestCommon_28 : zd_i b_Tue_greatestCommon 28 4 1 1 31 := ⟨by decide +kernel, by decide, rfl⟩
theorem d_Tue_greatestCommon_31 : zd_b b_Tue_greatestCommon 31 .goto 34 7 := ⟨(-24), by decide +kernel, by decide, rfl⟩
theorem d_Tue_greatestCommon_34 : zd_l .iload_n .iload b_Tue_greatestCommon 34 2 35 := Or.inl ⟨2, rfl, by decide +kernel, rfl⟩
theorem d_Tue_greatestCommon_35 : zd b_Tue_greatestCommon 35 .ireturn 1 36 := ⟨by decide +kernel, rfl⟩
theorem d_Tue_hasState_0 : zd_l .lload_n .lload b_Tue_hasState 0 0 1 := Or.inl ⟨0, rfl, by decide +kernel, rfl⟩
theorem d_Tue_hasState_1 : zd_l .iload_n .iload b_Tue_hasState 1 2 2 := Or.inl ⟨2, rfl, by decide +kernel, rfl⟩
theorem d_Tue_hasState_2 : zd b_Tue_hasState 2 .lushr 1 3 := ⟨by decide +kernel, rfl⟩
theorem d_Tue_hasState_3 : zd_kl b_Tue_hasState "SameTuesday" 3 1 4 := Or.inl ⟨1, by decide +kernel, by decide, rfl⟩
theorem d_Tue_hasState_4 : zd b_Tue_hasState 4 .land 1 5 := ⟨by decide +kernel, rfl⟩
theorem d_Tue_hasState_5 : zd_kl b_Tue_hasState "SameTuesday" 5 1 6 := Or.inl ⟨1, by decide +kernel, by decide, rfl⟩
theorem d_Tue_hasState_6 : zd b_Tue_hasState 6 .lcmp 1 7 := ⟨by decide +kernel, rfl⟩
theorem d_Tue_hasState_7 : zd_b b_Tue_hasState 7 (.ifCond .ne) 10 14 := ⟨7, by decide +kernel, by decide, rfl⟩
theorem d_Tue_hasState_10 : zd_k b_Tue_hasState "SameTuesday" 10 1 11 := Or.inl ⟨1, by decide +kernel, by decide, rfl⟩
theorem d_Tue_hasState_11 : zd_b b_Tue_hasState 11 .goto 14 15 := ⟨4, by decide +kernel, by decide, rfl⟩
theorem d_Tue_hasState_14 : zd_k b_Tue_hasState "SameTuesday" 14 0 15 := Or.inl ⟨0, by decide +kernel, by decide, rfl⟩
theorem d_Tue_hasState_15 : zd b_Tue_hasState 15 .ireturn 1 16 := ⟨by decide +kernel, rfl⟩
theorem d_Tue_worldWith_0 : zd_l .iload_n .iload b_Tue_worldWith 0 0 1 := Or.inl ⟨0, rfl, by decide +kernel, rfl⟩
theorem d_Tue_worldWith_1 : zd_b b_Tue_worldWith 1 (.ifCond .lt) 4 20 := ⟨19, by decide +kernel, by decide, rfl⟩
theorem d_Tue_worldWith_4 : zd_l .iload_n .iload b_Tue_worldWith 4 0 5 := Or.inl ⟨0, rfl, by decide +kernel, rfl⟩
theorem d_Tue_worldWith_5 : zd b_Tue_worldWith 5 (.getstatic 267) 3 8 := ⟨by decide +kernel, rfl⟩
theorem d_Tue_worldWith_8 : zd b_Tue_worldWith 8 .arraylength 1 9 := ⟨by decide +kernel, rfl⟩
theorem d_Tue_worldWith_9 : zd_b b_Tue_worldWith 9 (.if_icmp .ge) 12 20 := ⟨11, by decide +kernel, by decide, rfl⟩
theorem d_Tue_worldWith_12 : zd b_Tue_worldWith 12 (.getstatic 267) 3 15 := ⟨by decide +kernel, rfl⟩
theorem d_Tue_worldWith_15 : zd_l .iload_n .iload b_Tue_worldWith 15 0 16 := Or.inl ⟨0, rfl, by decide +kernel, rfl⟩
theorem d_Tue_worldWith_16 : zd b_Tue_worldWith 16 .laload 1 17 := ⟨by decide +kernel, rfl⟩
theorem d_Tue_worldWith_17 : zd_b b_Tue_worldWith 17 .goto 20 23 := ⟨6, by decide +kernel, by decide, rfl⟩
set_option maxRecDepth 20000 in
theorem d_Tue_worldWith_20 : zd_kl b_Tue_worldWith "SameTuesday" 20 (-1) 23 := Or.inr ⟨271, by decide +kernel, zb_mem 350 rfl rfl, rfl⟩
theorem d_Tue_worldWith_23 : zd b_Tue_worldWith 23 .lreturn 1 24 := ⟨by decide +kernel, rfl⟩
set_option maxRecDepth 20000 in
theorem d_Tue_worldWithAll_0 : zd_kl b_Tue_worldWithAll "SameTuesday" 0 (-1) 3 := Or.inr ⟨271, by decide +kernel, zb_mem 350 rfl rfl, rfl⟩
theorem d_Tue_worldWithAll_3 : zd_l .lstore_n .lstore b_Tue_worldWithAll 3 1 4 := Or.inl ⟨1, rfl, by decide +kernel, rfl⟩
theorem d_Tue_worldWithAll_4 : zd_k b_Tue_worldWithAll "SameTuesday" 4 0 5 := Or.inl ⟨0, by decide +kernel, by decide, rfl⟩
theorem d_Tue_worldWithAll_5 : zd_l .istore_n .istore b_Tue_worldWithAll 5 3 6 := Or.inl ⟨3, rfl, by decide +kernel, rfl⟩
theorem d_Tue_worldWithAll_6 : zd_l .iload_n .iload b_Tue_worldWithAll 6 3 7 := Or.inl ⟨3, rfl, by decide +kernel, rfl⟩
theorem d_Tue_worldWithAll_7 : zd_k b_Tue_worldWithAll "SameTuesday" 7 6 9 := Or.inr (Or.inl ⟨6, by decide +kernel, by decide, rfl⟩)
theorem d_Tue_worldWithAll_9 : zd_b b_Tue_worldWithAll 9 (.if_icmp .ge) 12 34 := ⟨25, by decide +kernel, by decide, rfl⟩
theorem d_Tue_worldWithAll_12 : zd_l .iload_n .iload b_Tue_worldWithAll 12 0 13 := Or.inl ⟨0, rfl, by decide +kernel, rfl⟩
theorem d_Tue_worldWithAll_13 : zd_l .iload_n .iload b_Tue_worldWithAll 13 3 14 := Or.inl ⟨3, rfl, by decide +kernel, rfl⟩
theorem d_Tue_worldWithAll_14 : zd b_Tue_worldWithAll 14 .ishr 1 15 := ⟨by decide +kernel, rfl⟩
theorem d_Tue_worldWithAll_15 : zd_k b_Tue_worldWithAll "SameTuesday" 15 1 16 := Or.inl ⟨1, by decide +kernel, by decide, rfl⟩
theorem d_Tue_worldWithAll_16 : zd b_Tue_worldWithAll 16 .iand 1 17 := ⟨by decide +kernel, rfl⟩
theorem d_Tue_worldWithAll_17 : zd_k b_Tue_worldWithAll "SameTuesday" 17 1 18 := Or.inl ⟨1, by decide +kernel, by decide, rfl⟩
theorem d_Tue_worldWithAll_18 : zd_b b_Tue_worldWithAll 18 (.if_icmp .ne) 21 28 := ⟨10, by decide +kernel, by decide, rfl⟩
theorem d_Tue_worldWithAll_21 : zd_l .lload_n .lload b_Tue_worldWithAll 21 1 22 := Or.inl ⟨1, rfl, by decide +kernel, rfl⟩
theorem d_Tue_worldWithAll_22 : zd_l .iload_n .iload b_Tue_worldWithAll 22 3 23 := Or.inl ⟨3, rfl, by decide +kernel, rfl⟩
theorem d_Tue_worldWithAll_23 : zd b_Tue_worldWithAll 23 (.invokestatic 273) 3 26 := ⟨by decide +kernel, rfl⟩
theorem d_Tue_worldWithAll_26 : zd b_Tue_worldWithAll 26 .land 1 27 := ⟨by decide +kernel, rfl⟩
theorem d_Tue_worldWithAll_27 : zd_l .lstore_n .lstore b_Tue_worldWithAll 27 1 28 := Or.inl ⟨1, rfl, by decide +kernel, rfl⟩
theorem d_Tue_worldWithAll_28 : zd_i b_Tue_worldWithAll 28 3 1 1 31 := ⟨by decide +kernel, by decide, rfl⟩
theorem d_Tue_worldWithAll_31 : zd_b b_Tue_worldWithAll 31 .goto 34 6 := ⟨(-25), by decide +kernel, by decide, rfl⟩
theorem d_Tue_worldWithAll_34 : zd_l .lload_n .lload b_Tue_worldWithAll 34 1 35 := Or.inl ⟨1, rfl, by decide +kernel, rfl⟩
theorem d_Tue_worldWithAll_35 : zd b_Tue_worldWithAll 35 .lreturn 1 36 := ⟨by decide +kernel, rfl⟩
set_option maxRecDepth 20000 in
theorem d_Tue_worldWithin_0 : zd_kl b_Tue_worldWithin "SameTuesday" 0 (-1) 3 := Or.inr ⟨271, by decide +kernel, zb_mem 350 rfl rfl, rfl⟩
theorem d_Tue_worldWithin_3 : zd_l .lstore_n .lstore b_Tue_worldWithin 3 1 4 := Or.inl ⟨1, rfl, by decide +kernel, rfl⟩
theorem d_Tue_worldWithin_4 : zd_k b_Tue_worldWithin "SameTuesday" 4 0 5 := Or.inl ⟨0, by decide +kernel, by decide, rfl⟩
theorem d_Tue_worldWithin_5 : zd_l .istore_n .istore b_Tue_worldWithin 5 3 6 := Or.inl ⟨3, rfl, by decide +kernel, rfl⟩
theorem d_Tue_worldWithin_6 : zd_l .iload_n .iload b_Tue_worldWithin 6 3 7 := Or.inl ⟨3, rfl, by decide +kernel, rfl⟩
theorem d_Tue_worldWithin_7 : zd_k b_Tue_worldWithin "SameTuesday" 7 6 9 := Or.inr (Or.inl ⟨6, by decide +kernel, by decide, rfl⟩)
theorem d_Tue_worldWithin_9 : zd_b b_Tue_worldWithin 9 (.if_icmp .ge) 12 37 := ⟨28, by decide +kernel, by decide, rfl⟩
theorem d_Tue_worldWithin_12 : zd_l .iload_n .iload b_Tue_worldWithin 12 0 13 := Or.inl ⟨0, rfl, by decide +kernel, rfl⟩
theorem d_Tue_worldWithin_13 : zd_l .iload_n .iload b_Tue_worldWithin 13 3 14 := Or.inl ⟨3, rfl, by decide +kernel, rfl⟩
theorem d_Tue_worldWithin_14 : zd b_Tue_worldWithin 14 .ishr 1 15 := ⟨by decide +kernel, rfl⟩
theorem d_Tue_worldWithin_15 : zd_k b_Tue_worldWithin "SameTuesday" 15 1 16 := Or.inl ⟨1, by decide +kernel, by decide, rfl⟩
theorem d_Tue_worldWithin_16 : zd b_Tue_worldWithin 16 .iand 1 17 := ⟨by decide +kernel, rfl⟩
theorem d_Tue_worldWithin_17 : zd_b b_Tue_worldWithin 17 (.ifCond .ne) 20 31 := ⟨14, by decide +kernel, by decide, rfl⟩
theorem d_Tue_worldWithin_20 : zd_l .lload_n .lload b_Tue_worldWithin 20 1 21 := Or.inl ⟨1, rfl, by decide +kernel, rfl⟩
theorem d_Tue_worldWithin_21 : zd_l .iload_n .iload b_Tue_worldWithin 21 3 22 := Or.inl ⟨3, rfl, by decide +kernel, rfl⟩
theorem d_Tue_worldWithin_22 : zd b_Tue_worldWithin 22 (.invokestatic 273) 3 25 := ⟨by decide +kernel, rfl⟩
set_option maxRecDepth 20000 in
theorem d_Tue_worldWithin_25 : zd_kl b_Tue_worldWithin "SameTuesday" 25 (-1) 28 := Or.inr ⟨271, by decide +kernel, zb_mem 350 rfl rfl, rfl⟩
theorem d_Tue_worldWithin_28 : zd b_Tue_worldWithin 28 .lxor 1 29 := ⟨by decide +kernel, rfl⟩
theorem d_Tue_worldWithin_29 : zd b_Tue_worldWithin 29 .land 1 30 := ⟨by decide +kernel, rfl⟩
theorem d_Tue_worldWithin_30 : zd_l .lstore_n .lstore b_Tue_worldWithin 30 1 31 := Or.inl ⟨1, rfl, by decide +kernel, rfl⟩
theorem d_Tue_worldWithin_31 : zd_i b_Tue_worldWithin 31 3 1 1 34 := ⟨by decide +kernel, by decide, rfl⟩
theorem d_Tue_worldWithin_34 : zd_b b_Tue_worldWithin 34 .goto 37 6 := ⟨(-28), by decide +kernel, by decide, rfl⟩
theorem d_Tue_worldWithin_37 : zd_l .lload_n .lload b_Tue_worldWithin 37 1 38 := Or.inl ⟨1, rfl, by decide +kernel, rfl⟩
theorem d_Tue_worldWithin_38 : zd b_Tue_worldWithin 38 .lreturn 1 39 := ⟨by decide +kernel, rfl⟩
theorem d_Tue_lesserPart_0 : zd_l .lload_n .lload b_Tue_lesserPart 0 0 1 := Or.inl ⟨0, rfl, by decide +kernel, rfl⟩
theorem d_Tue_lesserPart_1 : zd_l .iload_n .iload b_Tue_lesserPart 1 2 2 := Or.inl ⟨2, rfl, by decide +kernel, rfl⟩
theorem d_Tue_lesserPart_2 : zd b_Tue_lesserPart 2 (.invokestatic 276) 3 5 := ⟨by decide +kernel, rfl⟩
theorem d_Tue_lesserPart_5 : zd b_Tue_lesserPart 5 .land 1 6 := ⟨by decide +kernel, rfl⟩
theorem d_Tue_lesserPart_6 : zd b_Tue_lesserPart 6 (.invokestatic 185) 3 9 := ⟨by decide +kernel, rfl⟩
theorem d_Tue_lesserPart_9 : zd_l .istore_n .istore b_Tue_lesserPart 9 3 10 := Or.inl ⟨3, rfl, by decide +kernel, rfl⟩
theorem d_Tue_lesserPart_10 : zd_l .iload_n .iload b_Tue_lesserPart 10 3 11 := Or.inl ⟨3, rfl, by decide +kernel, rfl⟩
theorem d_Tue_lesserPart_11 : zd_l .lload_n .lload b_Tue_lesserPart 11 0 12 := Or.inl ⟨0, rfl, by decide +kernel, rfl⟩
theorem d_Tue_lesserPart_12 : zd b_Tue_lesserPart 12 (.invokestatic 185) 3 15 := ⟨by decide +kernel, rfl⟩
theorem d_Tue_lesserPart_15 : zd_l .iload_n .iload b_Tue_lesserPart 15 3 16 := Or.inl ⟨3, rfl, by decide +kernel, rfl⟩
theorem d_Tue_lesserPart_16 : zd b_Tue_lesserPart 16 .isub 1 17 := ⟨by decide +kernel, rfl⟩
theorem d_Tue_lesserPart_17 : zd b_Tue_lesserPart 17 (.invokestatic 279) 3 20 := ⟨by decide +kernel, rfl⟩
theorem d_Tue_lesserPart_20 : zd b_Tue_lesserPart 20 .ireturn 1 21 := ⟨by decide +kernel, rfl⟩
theorem d_JInt_numberOfTrailingZeros_0 : zd_l .iload_n .iload b_JInt_numberOfTrailingZeros 0 0 1 := Or.inl ⟨0, rfl, by decide +kernel, rfl⟩
theorem d_JInt_numberOfTrailingZeros_1 : zd_k b_JInt_numberOfTrailingZeros "java/lang/Integer" 1 (-1) 2 := Or.inl ⟨(-1), by decide +kernel, by decide, rfl⟩
theorem d_JInt_numberOfTrailingZeros_2 : zd b_JInt_numberOfTrailingZeros 2 .ixor 1 3 := ⟨by decide +kernel, rfl⟩
theorem d_JInt_numberOfTrailingZeros_3 : zd_l .iload_n .iload b_JInt_numberOfTrailingZeros 3 0 4 := Or.inl ⟨0, rfl, by decide +kernel, rfl⟩
theorem d_JInt_numberOfTrailingZeros_4 : zd_k b_JInt_numberOfTrailingZeros "java/lang/Integer" 4 1 5 := Or.inl ⟨1, by decide +kernel, by decide, rfl⟩
theorem d_JInt_numberOfTrailingZeros_5 : zd b_JInt_numberOfTrailingZeros 5 .isub 1 6 := ⟨by decide +kernel, rfl⟩
theorem d_JInt_numberOfTrailingZeros_6 : zd b_JInt_numberOfTrailingZeros 6 .iand 1 7 := ⟨by decide +kernel, rfl⟩
theorem d_JInt_numberOfTrailingZeros_7 : zd_l .istore_n .istore b_JInt_numberOfTrailingZeros 7 0 8 := Or.inl ⟨0, rfl, by decide +kernel, rfl⟩
theorem d_JInt_numberOfTrailingZeros_8 : zd_l .iload_n .iload b_JInt_numberOfTrailingZeros 8 0 9 := Or.inl ⟨0, rfl, by decide +kernel, rfl⟩
theorem d_JInt_numberOfTrailingZeros_9 : zd_b b_JInt_numberOfTrailingZeros 9 (.ifCond .gt) 12 17 := ⟨8, by decide +kernel, by decide, rfl⟩
theorem d_JInt_numberOfTrailingZeros_12 : zd_l .iload_n .iload b_JInt_numberOfTrailingZeros 12 0 13 := Or.inl ⟨0, rfl, by decide +kernel, rfl⟩
theorem d_JInt_numberOfTrailingZeros_13 : zd_k b_JInt_numberOfTrailingZeros "java/lang/Integer" 13 32 15 := Or.inr (Or.inl ⟨32, by decide +kernel, by decide, rfl⟩)
theorem d_JInt_numberOfTrailingZeros_15 : zd b_JInt_numberOfTrailingZeros 15 .iand 1 16 := ⟨by decide +kernel, rfl⟩
theorem d_JInt_numberOfTrailingZeros_16 : zd b_JInt_numberOfTrailingZeros 16 .ireturn 1 17 := ⟨by decide +kernel, rfl⟩
theorem d_JInt_numberOfTrailingZeros_17 : zd_k b_JInt_numberOfTrailingZeros "java/lang/Integer" 17 1 18 := Or.inl ⟨1, by decide +kernel, by decide, rfl⟩
theorem d_JInt_numberOfTrailingZeros_18 : zd_l .istore_n .istore b_JInt_numberOfTrailingZeros 18 1 19 := Or.inl ⟨1, rfl, by decide +kernel, rfl⟩
theorem d_JInt_numberOfTrailingZeros_19 : zd_l .iload_n .iload b_JInt_numberOfTrailingZeros 19 0 20 := Or.inl ⟨0, rfl, by decide +kernel, rfl⟩
set_option maxRecDepth 20000 in
theorem d_JInt_numberOfTrailingZeros_20 : zd_k b_JInt_numberOfTrailingZeros "java/lang/Integer" 20 65536 23 := Or.inr (Or.inr (Or.inr ⟨264, by decide +kernel, zb_mem 607 rfl rfl, rfl⟩))
theorem d_JInt_numberOfTrailingZeros_23 : zd_b b_JInt_numberOfTrailingZeros 23 (.if_icmp .le) 26 34 := ⟨11, by decide +kernel, by decide, rfl⟩
theorem d_JInt_numberOfTrailingZeros_26 : zd_i b_JInt_numberOfTrailingZeros 26 1 16 16 29 := ⟨by decide +kernel, by decide, rfl⟩
theorem d_JInt_numberOfTrailingZeros_29 : zd_l .iload_n .iload b_JInt_numberOfTrailingZeros 29 0 30 := Or.inl ⟨0, rfl, by decide +kernel, rfl⟩
theorem d_JInt_numberOfTrailingZeros_30 : zd_k b_JInt_numberOfTrailingZeros "java/lang/Integer" 30 16 32 := Or.inr (Or.inl ⟨16, by decide +kernel, by decide, rfl⟩)
theorem d_JInt_numberOfTrailingZeros_32 : zd b_JInt_numberOfTrailingZeros 32 .iushr 1 33 := ⟨by decide +kernel, rfl⟩
theorem d_JInt_numberOfTrailingZeros_33 : zd_l .istore_n .istore b_JInt_numberOfTrailingZeros 33 0 34 := Or.inl ⟨0, rfl, by decide +kernel, rfl⟩
theorem d_JInt_numberOfTrailingZeros_34 : zd_l .iload_n .iload b_JInt_numberOfTrailingZeros 34 0 35 := Or.inl ⟨0, rfl, by decide +kernel, rfl⟩
theorem d_JInt_numberOfTrailingZeros_35 : zd_k b_JInt_numberOfTrailingZeros "java/lang/Integer" 35 256 38 := Or.inr (Or.inr (Or.inl ⟨256, by decide +kernel, by decide, rfl⟩))
theorem d_JInt_numberOfTrailingZeros_38 : zd_b b_JInt_numberOfTrailingZeros 38 (.if_icmp .le) 41 49 := ⟨11, by decide +kernel, by decide, rfl⟩
theorem d_JInt_numberOfTrailingZeros_41 : zd_i b_JInt_numberOfTrailingZeros 41 1 8 8 44 := ⟨by decide +kernel, by decide, rfl⟩
theorem d_JInt_numberOfTrailingZeros_44 : zd_l .iload_n .iload b_JInt_numberOfTrailingZeros 44 0 45 := Or.inl ⟨0, rfl, by decide +kernel, rfl⟩
theorem d_JInt_numberOfTrailingZeros_45 : zd_k b_JInt_numberOfTrailingZeros "java/lang/Integer" 45 8 47 := Or.inr (Or.inl ⟨8, by decide +kernel, by decide, rfl⟩)
theorem d_JInt_numberOfTrailingZeros_47 : zd b_JInt_numberOfTrailingZeros 47 .iushr 1 48 := ⟨by decide +kernel, rfl⟩
theorem d_JInt_numberOfTrailingZeros_48 : zd_l .istore_n .istore b_JInt_numberOfTrailingZeros 48 0 49 := Or.inl ⟨0, rfl, by decide +kernel, rfl⟩
theorem d_JInt_numberOfTrailingZeros_49 : zd_l .iload_n .iload b_JInt_numberOfTrailingZeros 49 0 50 := Or.inl ⟨0, rfl, by decide +kernel, rfl⟩
theorem d_JInt_numberOfTrailingZeros_50 : zd_k b_JInt_numberOfTrailingZeros "java/lang/Integer" 50 16 52 := Or.inr (Or.inl ⟨16, by decide +kernel, by decide, rfl⟩)
theorem d_JInt_numberOfTrailingZeros_52 : zd_b b_JInt_numberOfTrailingZeros 52 (.if_icmp .le) 55 62 := ⟨10, by decide +kernel, by decide, rfl⟩
theorem d_JInt_numberOfTrailingZeros_55 : zd_i b_JInt_numberOfTrailingZeros 55 1 4 4 58 := ⟨by decide +kernel, by decide, rfl⟩
theorem d_JInt_numberOfTrailingZeros_58 : zd_l .iload_n .iload b_JInt_numberOfTrailingZeros 58 0 59 := Or.inl ⟨0, rfl, by decide +kernel, rfl⟩
theorem d_JInt_numberOfTrailingZeros_59 : zd_k b_JInt_numberOfTrailingZeros "java/lang/Integer" 59 4 60 := Or.inl ⟨4, by decide +kernel, by decide, rfl⟩
theorem d_JInt_numberOfTrailingZeros_60 : zd b_JInt_numberOfTrailingZeros 60 .iushr 1 61 := ⟨by decide +kernel, rfl⟩
theorem d_JInt_numberOfTrailingZeros_61 : zd_l .istore_n .istore b_JInt_numberOfTrailingZeros 61 0 62 := Or.inl ⟨0, rfl, by decide +kernel, rfl⟩
theorem d_JInt_numberOfTrailingZeros_62 : zd_l .iload_n .iload b_JInt_numberOfTrailingZeros 62 0 63 := Or.inl ⟨0, rfl, by decide +kernel, rfl⟩
theorem d_JInt_numberOfTrailingZeros_63 : zd_k b_JInt_numberOfTrailingZeros "java/lang/Integer" 63 4 64 := Or.inl ⟨4, by decide +kernel, by decide, rfl⟩
theorem d_JInt_numberOfTrailingZeros_64 : zd_b b_JInt_numberOfTrailingZeros 64 (.if_icmp .le) 67 74 := ⟨10, by decide +kernel, by decide, rfl⟩
theorem d_JInt_numberOfTrailingZeros_67 : zd_i b_JInt_numberOfTrailingZeros 67 1 2 2 70 := ⟨by decide +kernel, by decide, rfl⟩
theorem d_JInt_numberOfTrailingZeros_70 : zd_l .iload_n .iload b_JInt_numberOfTrailingZeros 70 0 71 := Or.inl ⟨0, rfl, by decide +kernel, rfl⟩
theorem d_JInt_numberOfTrailingZeros_71 : zd_k b_JInt_numberOfTrailingZeros "java/lang/Integer" 71 2 72 := Or.inl ⟨2, by decide +kernel, by decide, rfl⟩
theorem d_JInt_numberOfTrailingZeros_72 : zd b_JInt_numberOfTrailingZeros 72 .iushr 1 73 := ⟨by decide +kernel, rfl⟩
theorem d_JInt_numberOfTrailingZeros_73 : zd_l .istore_n .istore b_JInt_numberOfTrailingZeros 73 0 74 := Or.inl ⟨0, rfl, by decide +kernel, rfl⟩
theorem d_JInt_numberOfTrailingZeros_74 : zd_l .iload_n .iload b_JInt_numberOfTrailingZeros 74 1 75 := Or.inl ⟨1, rfl, by decide +kernel, rfl⟩
theorem d_JInt_numberOfTrailingZeros_75 : zd_l .iload_n .iload b_JInt_numberOfTrailingZeros 75 0 76 := Or.inl ⟨0, rfl, by decide +kernel, rfl⟩
theorem d_JInt_numberOfTrailingZeros_76 : zd_k b_JInt_numberOfTrailingZeros "java/lang/Integer" 76 1 77 := Or.inl ⟨1, by decide +kernel, by decide, rfl⟩
theorem d_JInt_numberOfTrailingZeros_77 : zd b_JInt_numberOfTrailingZeros 77 .iushr 1 78 := ⟨by decide +kernel, rfl⟩
theorem d_JInt_numberOfTrailingZeros_78 : zd b_JInt_numberOfTrailingZeros 78 .iadd 1 79 := ⟨by decide +kernel, rfl⟩
theorem d_JInt_numberOfTrailingZeros_79 : zd b_JInt_numberOfTrailingZeros 79 .ireturn 1 80 := ⟨by decide +kernel, rfl⟩
theorem d_JInt_bitCount_0 : zd_l .iload_n .iload b_JInt_bitCount 0 0 1 := Or.inl ⟨0, rfl, by decide +kernel, rfl⟩
theorem d_JInt_bitCount_1 : zd_l .iload_n .iload b_JInt_bitCount 1 0 2 := Or.inl ⟨0, rfl, by decide +kernel, rfl⟩
theorem d_JInt_bitCount_2 : zd_k b_JInt_bitCount "java/lang/Integer" 2 1 3 := Or.inl ⟨1, by decide +kernel, by decide, rfl⟩
theorem d_JInt_bitCount_3 : zd b_JInt_bitCount 3 .iushr 1 4 := ⟨by decide +kernel, rfl⟩
set_option maxRecDepth 20000 in
theorem d_JInt_bitCount_4 : zd_k b_JInt_bitCount "java/lang/Integer" 4 1431655765 7 := Or.inr (Or.inr (Or.inr ⟨265, by decide +kernel, zb_mem 741 rfl rfl, rfl⟩))
theorem d_JInt_bitCount_7 : zd b_JInt_bitCount 7 .iand 1 8 := ⟨by decide +kernel, rfl⟩
theorem d_JInt_bitCount_8 : zd b_JInt_bitCount 8 .isub 1 9 := ⟨by decide +kernel, rfl⟩
theorem d_JInt_bitCount_9 : zd_l .istore_n .istore b_JInt_bitCount 9 0 10 := Or.inl ⟨0, rfl, by decide +kernel, rfl⟩
theorem d_JInt_bitCount_10 : zd_l .iload_n .iload b_JInt_bitCount 10 0 11 := Or.inl ⟨0, rfl, by decide +kernel, rfl⟩
set_option maxRecDepth 20000 in
theorem d_JInt_bitCount_11 : zd_k b_JInt_bitCount "java/lang/Integer" 11 858993459 14 := Or.inr (Or.inr (Or.inr ⟨266, by decide +kernel, zb_mem 742 rfl rfl, rfl⟩))
theorem d_JInt_bitCount_14 : zd b_JInt_bitCount 14 .iand 1 15 := ⟨by decide +kernel, rfl⟩
theorem d_JInt_bitCount_15 : zd_l .iload_n .iload b_JInt_bitCount 15 0 16 := Or.inl ⟨0, rfl, by decide +kernel, rfl⟩
theorem d_JInt_bitCount_16 : zd_k b_JInt_bitCount "java/lang/Integer" 16 2 17 := Or.inl ⟨2, by decide +kernel, by decide, rfl⟩
theorem d_JInt_bitCount_17 : zd b_JInt_bitCount 17 .iushr 1 18 := ⟨by decide +kernel, rfl⟩
set_option maxRecDepth 20000 in
theorem d_JInt_bitCount_18 : zd_k b_JInt_bitCount "java/lang/Integer" 18 858993459 21 := Or.inr (Or.inr (Or.inr ⟨266, by decide +kernel, zb_mem 742 rfl rfl, rfl⟩))
theorem d_JInt_bitCount_21 : zd b_JInt_bitCount 21 .iand 1 22 := ⟨by decide +kernel, rfl⟩
theorem d_JInt_bitCount_22 : zd b_JInt_bitCount 22 .iadd 1 23 := ⟨by decide +kernel, rfl⟩
theorem d_JInt_bitCount_23 : zd_l .istore_n .istore b_JInt_bitCount 23 0 24 := Or.inl ⟨0, rfl, by decide +kernel, rfl⟩
theorem d_JInt_bitCount_24 : zd_l .iload_n .iload b_JInt_bitCount 24 0 25 := Or.inl ⟨0, rfl, by decide +kernel, rfl⟩
theorem d_JInt_bitCount_25 : zd_l .iload_n .iload b_JInt_bitCount 25 0 26 := Or.inl ⟨0, rfl, by decide +kernel, rfl⟩
theorem d_JInt_bitCount_26 : zd_k b_JInt_bitCount "java/lang/Integer" 26 4 27 := Or.inl ⟨4, by decide +kernel, by decide, rfl⟩
theorem d_JInt_bitCount_27 : zd b_JInt_bitCount 27 .iushr 1 28 := ⟨by decide +kernel, rfl⟩
theorem d_JInt_bitCount_28 : zd b_JInt_bitCount 28 .iadd 1 29 := ⟨by decide +kernel, rfl⟩
set_option maxRecDepth 20000 in
theorem d_JInt_bitCount_29 : zd_k b_JInt_bitCount "java/lang/Integer" 29 252645135 32 := Or.inr (Or.inr (Or.inr ⟨267, by decide +kernel, zb_mem 743 rfl rfl, rfl⟩))
theorem d_JInt_bitCount_32 : zd b_JInt_bitCount 32 .iand 1 33 := ⟨by decide +kernel, rfl⟩
theorem d_JInt_bitCount_33 : zd_l .istore_n .istore b_JInt_bitCount 33 0 34 := Or.inl ⟨0, rfl, by decide +kernel, rfl⟩
theorem d_JInt_bitCount_34 : zd_l .iload_n .iload b_JInt_bitCount 34 0 35 := Or.inl ⟨0, rfl, by decide +kernel, rfl⟩
theorem d_JInt_bitCount_35 : zd_l .iload_n .iload b_JInt_bitCount 35 0 36 := Or.inl ⟨0, rfl, by decide +kernel, rfl⟩
theorem d_JInt_bitCount_36 : zd_k b_JInt_bitCount "java/lang/Integer" 36 8 38 := Or.inr (Or.inl ⟨8, by decide +kernel, by decide, rfl⟩)
theorem d_JInt_bitCount_38 : zd b_JInt_bitCount 38 .iushr 1 39 := ⟨by decide +kernel, rfl⟩
theorem d_JInt_bitCount_39 : zd b_JInt_bitCount 39 .iadd 1 40 := ⟨by decide +kernel, rfl⟩
theorem d_JInt_bitCount_40 : zd_l .istore_n .istore b_JInt_bitCount 40 0 41 := Or.inl ⟨0, rfl, by decide +kernel, rfl⟩
theorem d_JInt_bitCount_41 : zd_l .iload_n .iload b_JInt_bitCount 41 0 42 := Or.inl ⟨0, rfl, by decide +kernel, rfl⟩
theorem d_JInt_bitCount_42 : zd_l .iload_n .iload b_JInt_bitCount 42 0 43 := Or.inl ⟨0, rfl, by decide +kernel, rfl⟩
theorem d_JInt_bitCount_43 : zd_k b_JInt_bitCount "java/lang/Integer" 43 16 45 := Or.inr (Or.inl ⟨16, by decide +kernel, by decide, rfl⟩)
theorem d_JInt_bitCount_45 : zd b_JInt_bitCount 45 .iushr 1 46 := ⟨by decide +kernel, rfl⟩
theorem d_JInt_bitCount_46 : zd b_JInt_bitCount 46 .iadd 1 47 := ⟨by decide +kernel, rfl⟩
theorem d_JInt_bitCount_47 : zd_l .istore_n .istore b_JInt_bitCount 47 0 48 := Or.inl ⟨0, rfl, by decide +kernel, rfl⟩
theorem d_JInt_bitCount_48 : zd_l .iload_n .iload b_JInt_bitCount 48 0 49 := Or.inl ⟨0, rfl, by decide +kernel, rfl⟩
theorem d_JInt_bitCount_49 : zd_k b_JInt_bitCount "java/lang/Integer" 49 63 51 := Or.inr (Or.inl ⟨63, by decide +kernel, by decide, rfl⟩)
theorem d_JInt_bitCount_51 : zd b_JInt_bitCount 51 .iand 1 52 := ⟨by decide +kernel, rfl⟩
theorem d_JInt_bitCount_52 : zd b_JInt_bitCount 52 .ireturn 1 53 := ⟨by decide +kernel, rfl⟩
set_option maxRecDepth 20000 in
theorem l_JLong_311 : zl_S "java/lang/Long" 311 y_JInt_numberOfTrailingZeros b_JInt_numberOfTrailingZeros 2 (some .int) 1 := ⟨⟨zb_mem 604 rfl rfl, zb_mem 65 rfl rfl, zb_mem 606 rfl rfl, by decide, by decide +kernel⟩, zb_mem 605 rfl rfl⟩
theorem d_JLong_numberOfTrailingZeros_0 : zd_l .lload_n .lload b_JLong_numberOfTrailingZeros 0 0 1 := Or.inl ⟨0, rfl, by decide +kernel, rfl⟩
theorem d_JLong_numberOfTrailingZeros_1 : zd b_JLong_numberOfTrailingZeros 1 .l2i 1 2 := ⟨by decide +kernel, rfl⟩
theorem d_JLong_numberOfTrailingZeros_2 : zd_l .istore_n .istore b_JLong_numberOfTrailingZeros 2 2 3 := Or.inl ⟨2, rfl, by decide +kernel, rfl⟩
theorem d_JLong_numberOfTrailingZeros_3 : zd_l .iload_n .iload b_JLong_numberOfTrailingZeros 3 2 4 := Or.inl ⟨2, rfl, by decide +kernel, rfl⟩
theorem d_JLong_numberOfTrailingZeros_4 : zd_b b_JLong_numberOfTrailingZeros 4 (.ifCond .ne) 7 21 := ⟨17, by decide +kernel, by decide, rfl⟩
theorem d_JLong_numberOfTrailingZeros_7 : zd_k b_JLong_numberOfTrailingZeros "java/lang/Long" 7 32 9 := Or.inr (Or.inl ⟨32, by decide +kernel, by decide, rfl⟩)
theorem d_JLong_numberOfTrailingZeros_9 : zd_l .lload_n .lload b_JLong_numberOfTrailingZeros 9 0 10 := Or.inl ⟨0, rfl, by decide +kernel, rfl⟩
theorem d_JLong_numberOfTrailingZeros_10 : zd_k b_JLong_numberOfTrailingZeros "java/lang/Long" 10 32 12 := Or.inr (Or.inl ⟨32, by decide +kernel, by decide, rfl⟩)
theorem d_JLong_numberOfTrailingZeros_12 : zd b_JLong_numberOfTrailingZeros 12 .lushr 1 13 := ⟨by decide +kernel, rfl⟩
theorem d_JLong_numberOfTrailingZeros_13 : zd b_JLong_numberOfTrailingZeros 13 .l2i 1 14 := ⟨by decide +kernel, rfl⟩
theorem d_JLong_numberOfTrailingZeros_14 : zd b_JLong_numberOfTrailingZeros 14 (.invokestatic 311) 3 17 := ⟨by decide +kernel, rfl⟩
theorem d_JLong_numberOfTrailingZeros_17 : zd b_JLong_numberOfTrailingZeros 17 .iadd 1 18 := ⟨by decide +kernel, rfl⟩
theorem d_JLong_numberOfTrailingZeros_18 : zd_b b_JLong_numberOfTrailingZeros 18 .goto 21 25 := ⟨7, by decide +kernel, by decide, rfl⟩
theorem d_JLong_numberOfTrailingZeros_21 : zd_l .iload_n .iload b_JLong_numberOfTrailingZeros 21 2 22 := Or.inl ⟨2, rfl, by decide +kernel, rfl⟩
theorem d_JLong_numberOfTrailingZeros_22 : zd b_JLong_numberOfTrailingZeros 22 (.invokestatic 311) 3 25 := ⟨by decide +kernel, rfl⟩
theorem d_JLong_numberOfTrailingZeros_25 : zd b_JLong_numberOfTrailingZeros 25 .ireturn 1 26 := ⟨by decide +kernel, rfl⟩
theorem d_JLong_bitCount_0 : zd_l .lload_n .lload b_JLong_bitCount 0 0 1 := Or.inl ⟨0, rfl, by decide +kernel, rfl⟩
theorem d_JLong_bitCount_1 : zd_l .lload_n .lload b_JLong_bitCount 1 0 2 := Or.inl ⟨0, rfl, by decide +kernel, rfl⟩
theorem d_JLong_bitCount_2 : zd_k b_JLong_bitCount "java/lang/Long" 2 1 3 := Or.inl ⟨1, by decide +kernel, by decide, rfl⟩
theorem d_JLong_bitCount_3 : zd b_JLong_bitCount 3 .lushr 1 4 := ⟨by decide +kernel, rfl⟩
set_option maxRecDepth 20000 in
theorem d_JLong_bitCount_4 : zd_kl b_JLong_bitCount "java/lang/Long" 4 6148914691236517205 7 := Or.inr ⟨314, by decide +kernel, zb_mem 721 rfl rfl, rfl⟩
theorem d_JLong_bitCount_7 : zd b_JLong_bitCount 7 .land 1 8 := ⟨by decide +kernel, rfl⟩
theorem d_JLong_bitCount_8 : zd b_JLong_bitCount 8 .lsub 1 9 := ⟨by decide +kernel, rfl⟩
theorem d_JLong_bitCount_9 : zd_l .lstore_n .lstore b_JLong_bitCount 9 0 10 := Or.inl ⟨0, rfl, by decide +kernel, rfl⟩
theorem d_JLong_bitCount_10 : zd_l .lload_n .lload b_JLong_bitCount 10 0 11 := Or.inl ⟨0, rfl, by decide +kernel, rfl⟩
set_option maxRecDepth 20000 in
theorem d_JLong_bitCount_11 : zd_kl b_JLong_bitCount "java/lang/Long" 11 3689348814741910323 14 := Or.inr ⟨316, by decide +kernel, zb_mem 722 rfl rfl, rfl⟩
theorem d_JLong_bitCount_14 : zd b_JLong_bitCount 14 .land 1 15 := ⟨by decide +kernel, rfl⟩
theorem d_JLong_bitCount_15 : zd_l .lload_n .lload b_JLong_bitCount 15 0 16 := Or.inl ⟨0, rfl, by decide +kernel, rfl⟩
theorem d_JLong_bitCount_16 : zd_k b_JLong_bitCount "java/lang/Long" 16 2 17 := Or.inl ⟨2, by decide +kernel, by decide, rfl⟩
theorem d_JLong_bitCount_17 : zd b_JLong_bitCount 17 .lushr 1 18 := ⟨by decide +kernel, rfl⟩
set_option maxRecDepth 20000 in
theorem d_JLong_bitCount_18 : zd_kl b_JLong_bitCount "java/lang/Long" 18 3689348814741910323 21 := Or.inr ⟨316, by decide +kernel, zb_mem 722 rfl rfl, rfl⟩
theorem d_JLong_bitCount_21 : zd b_JLong_bitCount 21 .land 1 22 := ⟨by decide +kernel, rfl⟩
theorem d_JLong_bitCount_22 : zd b_JLong_bitCount 22 .ladd 1 23 := ⟨by decide +kernel, rfl⟩
theorem d_JLong_bitCount_23 : zd_l .lstore_n .lstore b_JLong_bitCount 23 0 24 := Or.inl ⟨0, rfl, by decide +kernel, rfl⟩
theorem d_JLong_bitCount_24 : zd_l .lload_n .lload b_JLong_bitCount 24 0 25 := Or.inl ⟨0, rfl, by decide +kernel, rfl⟩
theorem d_JLong_bitCount_25 : zd_l .lload_n .lload b_JLong_bitCount 25 0 26 := Or.inl ⟨0, rfl, by decide +kernel, rfl⟩
theorem d_JLong_bitCount_26 : zd_k b_JLong_bitCount "java/lang/Long" 26 4 27 := Or.inl ⟨4, by decide +kernel, by decide, rfl⟩
theorem d_JLong_bitCount_27 : zd b_JLong_bitCount 27 .lushr 1 28 := ⟨by decide +kernel, rfl⟩
theorem d_JLong_bitCount_28 : zd b_JLong_bitCount 28 .ladd 1 29 := ⟨by decide +kernel, rfl⟩
set_option maxRecDepth 20000 in
theorem d_JLong_bitCount_29 : zd_kl b_JLong_bitCount "java/lang/Long" 29 1085102592571150095 32 := Or.inr ⟨318, by decide +kernel, zb_mem 723 rfl rfl, rfl⟩
theorem d_JLong_bitCount_32 : zd b_JLong_bitCount 32 .land 1 33 := ⟨by decide +kernel, rfl⟩
theorem d_JLong_bitCount_33 : zd_l .lstore_n .lstore b_JLong_bitCount 33 0 34 := Or.inl ⟨0, rfl, by decide +kernel, rfl⟩
theorem d_JLong_bitCount_34 : zd_l .lload_n .lload b_JLong_bitCount 34 0 35 := Or.inl ⟨0, rfl, by decide +kernel, rfl⟩
theorem d_JLong_bitCount_35 : zd_l .lload_n .lload b_JLong_bitCount 35 0 36 := Or.inl ⟨0, rfl, by decide +kernel, rfl⟩
theorem d_JLong_bitCount_36 : zd_k b_JLong_bitCount "java/lang/Long" 36 8 38 := Or.inr (Or.inl ⟨8, by decide +kernel, by decide, rfl⟩)
theorem d_JLong_bitCount_38 : zd b_JLong_bitCount 38 .lushr 1 39 := ⟨by decide +kernel, rfl⟩
theorem d_JLong_bitCount_39 : zd b_JLong_bitCount 39 .ladd 1 40 := ⟨by decide +kernel, rfl⟩
theorem d_JLong_bitCount_40 : zd_l .lstore_n .lstore b_JLong_bitCount 40 0 41 := Or.inl ⟨0, rfl, by decide +kernel, rfl⟩
theorem d_JLong_bitCount_41 : zd_l .lload_n .lload b_JLong_bitCount 41 0 42 := Or.inl ⟨0, rfl, by decide +kernel, rfl⟩
theorem d_JLong_bitCount_42 : zd_l .lload_n .lload b_JLong_bitCount 42 0 43 := Or.inl ⟨0, rfl, by decide +kernel, rfl⟩
theorem d_JLong_bitCount_43 : zd_k b_JLong_bitCount "java/lang/Long" 43 16 45 := Or.inr (Or.inl ⟨16, by decide +kernel, by decide, rfl⟩)
theorem d_JLong_bitCount_45 : zd b_JLong_bitCount 45 .lushr 1 46 := ⟨by decide +kernel, rfl⟩
theorem d_JLong_bitCount_46 : zd b_JLong_bitCount 46 .ladd 1 47 := ⟨by decide +kernel, rfl⟩
theorem d_JLong_bitCount_47 : zd_l .lstore_n .lstore b_JLong_bitCount 47 0 48 := Or.inl ⟨0, rfl, by decide +kernel, rfl⟩
theorem d_JLong_bitCount_48 : zd_l .lload_n .lload b_JLong_bitCount 48 0 49 := Or.inl ⟨0, rfl, by decide +kernel, rfl⟩
theorem d_JLong_bitCount_49 : zd_l .lload_n .lload b_JLong_bitCount 49 0 50 := Or.inl ⟨0, rfl, by decide +kernel, rfl⟩
theorem d_JLong_bitCount_50 : zd_k b_JLong_bitCount "java/lang/Long" 50 32 52 := Or.inr (Or.inl ⟨32, by decide +kernel, by decide, rfl⟩)
theorem d_JLong_bitCount_52 : zd b_JLong_bitCount 52 .lushr 1 53 := ⟨by decide +kernel, rfl⟩
theorem d_JLong_bitCount_53 : zd b_JLong_bitCount 53 .ladd 1 54 := ⟨by decide +kernel, rfl⟩
theorem d_JLong_bitCount_54 : zd_l .lstore_n .lstore b_JLong_bitCount 54 0 55 := Or.inl ⟨0, rfl, by decide +kernel, rfl⟩
theorem d_JLong_bitCount_55 : zd_l .lload_n .lload b_JLong_bitCount 55 0 56 := Or.inl ⟨0, rfl, by decide +kernel, rfl⟩
theorem d_JLong_bitCount_56 : zd b_JLong_bitCount 56 .l2i 1 57 := ⟨by decide +kernel, rfl⟩
theorem d_JLong_bitCount_57 : zd_k b_JLong_bitCount "java/lang/Long" 57 127 59 := Or.inr (Or.inl ⟨127, by decide +kernel, by decide, rfl⟩)
theorem d_JLong_bitCount_59 : zd b_JLong_bitCount 59 .iand 1 60 := ⟨by decide +kernel, rfl⟩
theorem d_JLong_bitCount_60 : zd b_JLong_bitCount 60 .ireturn 1 61 := ⟨by decide +kernel, rfl⟩
