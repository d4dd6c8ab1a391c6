/-- the good words of the tables, in one list for every method -/
def TBg : List Cond := lw_tbl.filter goodWord
theorem tb_in {w : Cond} (k : Nat) (h : lw_tbl[k]? = some w) (hg : goodWord w = true) : w ∈ TBg := List.mem_filter.mpr ⟨List.mem_of_getElem? h, hg⟩
theorem tb_good : ∀ w ∈ TBg, goodWord w = true := fun _ h => (List.mem_filter.mp h).2
theorem tb_sub : ∀ w ∈ TBg, w ∈ lw_tbl := fun _ h => (List.mem_filter.mp h).1
set_option maxRecDepth 100000 in
theorem tw_0 : Cond.selects "WhiteRoads" ⟨"WhiteRoads", "append", "(I)V"⟩ ⟨"WhiteRoads", "append", "(I)V"⟩ ∈ TBg := tb_in 0 rfl rfl
set_option maxRecDepth 100000 in
theorem tw_1 : Cond.selects "WhiteRoads$Lexer" ⟨"WhiteRoads$Lexer", "scanWord", "()V"⟩ ⟨"WhiteRoads$Lexer", "scanWord", "()V"⟩ ∈ TBg := tb_in 1 rfl rfl
set_option maxRecDepth 100000 in
theorem tw_2 : Cond.selects "WhiteRoads$Lexer" ⟨"WhiteRoads$Lexer", "keywordWith", "(J)I"⟩ ⟨"WhiteRoads$Lexer", "keywordWith", "(J)I"⟩ ∈ TBg := tb_in 2 rfl rfl
set_option maxRecDepth 100000 in
theorem tw_3 : Cond.selects "WhiteRoads$Lexer" ⟨"WhiteRoads$Lexer", "scanNumber", "()V"⟩ ⟨"WhiteRoads$Lexer", "scanNumber", "()V"⟩ ∈ TBg := tb_in 3 rfl rfl
set_option maxRecDepth 100000 in
theorem tw_4 : Cond.selects "WhiteRoads$Parser" ⟨"WhiteRoads$Parser", "parseYard", "()V"⟩ ⟨"WhiteRoads$Parser", "parseYard", "()V"⟩ ∈ TBg := tb_in 4 rfl rfl
set_option maxRecDepth 100000 in
theorem tw_5 : Cond.selects "WhiteRoads$Parser" ⟨"WhiteRoads$Parser", "refuseToken", "()V"⟩ ⟨"WhiteRoads$Parser", "refuseToken", "()V"⟩ ∈ TBg := tb_in 5 rfl rfl
set_option maxRecDepth 100000 in
theorem tw_6 : Cond.selects "WhiteRoads$Parser" ⟨"WhiteRoads$Parser", "refuse", "(II)V"⟩ ⟨"WhiteRoads$Parser", "refuse", "(II)V"⟩ ∈ TBg := tb_in 6 rfl rfl
set_option maxRecDepth 100000 in
theorem tw_7 : Cond.selects "WhiteRoads$Parser" ⟨"WhiteRoads$Parser", "takeName", "()J"⟩ ⟨"WhiteRoads$Parser", "takeName", "()J"⟩ ∈ TBg := tb_in 7 rfl rfl
set_option maxRecDepth 100000 in
theorem tw_8 : Cond.selects "WhiteRoads$Parser" ⟨"WhiteRoads$Parser", "takeSort", "()I"⟩ ⟨"WhiteRoads$Parser", "takeSort", "()I"⟩ ∈ TBg := tb_in 8 rfl rfl
set_option maxRecDepth 100000 in
theorem tw_9 : Cond.selects "WhiteRoads$Parser" ⟨"WhiteRoads$Parser", "takeKeyword", "(I)V"⟩ ⟨"WhiteRoads$Parser", "takeKeyword", "(I)V"⟩ ∈ TBg := tb_in 9 rfl rfl
set_option maxRecDepth 100000 in
theorem tw_10 : Cond.selects "WhiteRoads$Parser" ⟨"WhiteRoads$Parser", "takeNumber", "(II)I"⟩ ⟨"WhiteRoads$Parser", "takeNumber", "(II)I"⟩ ∈ TBg := tb_in 10 rfl rfl
set_option maxRecDepth 100000 in
theorem tw_11 : Cond.selects "WhiteRoads$Parser" ⟨"WhiteRoads$Parser", "parseLayers", "(LWhiteRoads$Told;)V"⟩ ⟨"WhiteRoads$Parser", "parseLayers", "(LWhiteRoads$Told;)V"⟩ ∈ TBg := tb_in 11 rfl rfl
set_option maxRecDepth 100000 in
theorem tw_12 : Cond.selects "WhiteRoads$Parser" ⟨"WhiteRoads$Parser", "takeValue", "(II)I"⟩ ⟨"WhiteRoads$Parser", "takeValue", "(II)I"⟩ ∈ TBg := tb_in 12 rfl rfl
set_option maxRecDepth 100000 in
theorem tw_13 : Cond.selects "WhiteRoads$Parser" ⟨"WhiteRoads$Parser", "isValueNext", "()Z"⟩ ⟨"WhiteRoads$Parser", "isValueNext", "()Z"⟩ ∈ TBg := tb_in 13 rfl rfl
set_option maxRecDepth 100000 in
theorem tw_14 : Cond.selects "WhiteRoads$Parser" ⟨"WhiteRoads$Parser", "parseWay", "()V"⟩ ⟨"WhiteRoads$Parser", "parseWay", "()V"⟩ ∈ TBg := tb_in 14 rfl rfl
set_option maxRecDepth 100000 in
theorem tw_15 : Cond.selects "WhiteRoads$Parser" ⟨"WhiteRoads$Parser", "takeYard", "()I"⟩ ⟨"WhiteRoads$Parser", "takeYard", "()I"⟩ ∈ TBg := tb_in 15 rfl rfl
set_option maxRecDepth 100000 in
theorem tw_16 : Cond.selects "WhiteRoads$Parser" ⟨"WhiteRoads$Parser", "parseHour", "()V"⟩ ⟨"WhiteRoads$Parser", "parseHour", "()V"⟩ ∈ TBg := tb_in 16 rfl rfl
set_option maxRecDepth 100000 in
theorem tw_17 : Cond.selects "WhiteRoads$Parser" ⟨"WhiteRoads$Parser", "parseSlip", "()V"⟩ ⟨"WhiteRoads$Parser", "parseSlip", "()V"⟩ ∈ TBg := tb_in 17 rfl rfl
set_option maxRecDepth 100000 in
theorem tw_18 : Cond.selects "WhiteRoads$Parser" ⟨"WhiteRoads$Parser", "parseOnce", "(I)V"⟩ ⟨"WhiteRoads$Parser", "parseOnce", "(I)V"⟩ ∈ TBg := tb_in 18 rfl rfl
set_option maxRecDepth 100000 in
theorem tw_19 : Cond.selects "WhiteRoads$Parser" ⟨"WhiteRoads$Parser", "takeSemicolon", "()V"⟩ ⟨"WhiteRoads$Parser", "takeSemicolon", "()V"⟩ ∈ TBg := tb_in 19 rfl rfl
set_option maxRecDepth 100000 in
theorem tw_20 : Cond.selects "WhiteRoads$Ground" ⟨"WhiteRoads$Ground", "warmBy", "(LWhiteRoads$Told;I)V"⟩ ⟨"WhiteRoads$Ground", "warmBy", "(LWhiteRoads$Told;I)V"⟩ ∈ TBg := tb_in 20 rfl rfl
set_option maxRecDepth 100000 in
theorem tw_21 : Cond.selects "WhiteRoads$Ground" ⟨"WhiteRoads$Ground", "meltOrFreeze", "()V"⟩ ⟨"WhiteRoads$Ground", "meltOrFreeze", "()V"⟩ ∈ TBg := tb_in 21 rfl rfl
set_option maxRecDepth 100000 in
theorem tw_22 : Cond.selects "WhiteRoads$Ground" ⟨"WhiteRoads$Ground", "runOff", "(I)V"⟩ ⟨"WhiteRoads$Ground", "runOff", "(I)V"⟩ ∈ TBg := tb_in 22 rfl rfl
set_option maxRecDepth 100000 in
theorem tw_23 : Cond.selects "WhiteRoads" ⟨"WhiteRoads", "isYard", "(I)Z"⟩ ⟨"WhiteRoads", "isYard", "(I)Z"⟩ ∈ TBg := tb_in 23 rfl rfl
set_option maxRecDepth 100000 in
theorem tw_24 : Cond.selects "WhiteRoads" ⟨"WhiteRoads", "isLayer", "(II)Z"⟩ ⟨"WhiteRoads", "isLayer", "(II)Z"⟩ ∈ TBg := tb_in 24 rfl rfl
set_option maxRecDepth 100000 in
theorem tw_25 : Cond.selects "WhiteRoads" ⟨"WhiteRoads", "isSet", "(I)Z"⟩ ⟨"WhiteRoads", "isSet", "(I)Z"⟩ ∈ TBg := tb_in 25 rfl rfl
set_option maxRecDepth 100000 in
theorem tw_26 : Cond.selects "WhiteRoads$Planner" ⟨"WhiteRoads$Planner", "sumHarm", "(LWhiteRoads$Day;LWhiteRoads$Outlook;III)I"⟩ ⟨"WhiteRoads$Planner", "sumHarm", "(LWhiteRoads$Day;LWhiteRoads$Outlook;III)I"⟩ ∈ TBg := tb_in 26 rfl rfl
set_option maxRecDepth 100000 in
theorem tw_27 : Cond.selects "WhiteRoads$Gritter" ⟨"WhiteRoads$Gritter", "measure", "(LWhiteRoads$Land;)V"⟩ ⟨"WhiteRoads$Gritter", "measure", "(LWhiteRoads$Land;)V"⟩ ∈ TBg := tb_in 27 rfl rfl
set_option maxRecDepth 100000 in
theorem tw_28 : Cond.selects "WhiteRoads$Gritter" ⟨"WhiteRoads$Gritter", "lineUp", "(LWhiteRoads$Land;I)Z"⟩ ⟨"WhiteRoads$Gritter", "lineUp", "(LWhiteRoads$Land;I)Z"⟩ ∈ TBg := tb_in 28 rfl rfl
set_option maxRecDepth 100000 in
theorem tw_29 : Cond.selects "WhiteRoads$Gritter" ⟨"WhiteRoads$Gritter", "tryOrder", "(LWhiteRoads$Day;LWhiteRoads$Outlook;II)V"⟩ ⟨"WhiteRoads$Gritter", "tryOrder", "(LWhiteRoads$Day;LWhiteRoads$Outlook;II)V"⟩ ∈ TBg := tb_in 29 rfl rfl
set_option maxRecDepth 100000 in
theorem tw_30 : Cond.selects "WhiteRoads$Gritter" ⟨"WhiteRoads$Gritter", "minutesTo", "(II)I"⟩ ⟨"WhiteRoads$Gritter", "minutesTo", "(II)I"⟩ ∈ TBg := tb_in 30 rfl rfl
set_option maxRecDepth 100000 in
theorem tw_31 : Cond.selects "WhiteRoads$Gritter" ⟨"WhiteRoads$Gritter", "countWhite", "(LWhiteRoads$Day;LWhiteRoads$Outlook;II)I"⟩ ⟨"WhiteRoads$Gritter", "countWhite", "(LWhiteRoads$Day;LWhiteRoads$Outlook;II)I"⟩ ∈ TBg := tb_in 31 rfl rfl
set_option maxRecDepth 100000 in
theorem tw_32 : Cond.selects "WhiteRoads$Gritter" ⟨"WhiteRoads$Gritter", "nextOrder", "(I)Z"⟩ ⟨"WhiteRoads$Gritter", "nextOrder", "(I)Z"⟩ ∈ TBg := tb_in 32 rfl rfl
set_option maxRecDepth 100000 in
theorem tw_33 : Cond.selects "WhiteRoads$Gritter" ⟨"WhiteRoads$Gritter", "swap", "(II)V"⟩ ⟨"WhiteRoads$Gritter", "swap", "(II)V"⟩ ∈ TBg := tb_in 33 rfl rfl
set_option maxRecDepth 100000 in
theorem tw_34 : Cond.selects "WhiteRoads$Car" ⟨"WhiteRoads$Car", "arrive", "(III)V"⟩ ⟨"WhiteRoads$Car", "arrive", "(III)V"⟩ ∈ TBg := tb_in 34 rfl rfl
set_option maxRecDepth 100000 in
theorem tw_35 : Cond.selects "WhiteRoads$Glasses" ⟨"WhiteRoads$Glasses", "mostAlike", "(III)I"⟩ ⟨"WhiteRoads$Glasses", "mostAlike", "(III)I"⟩ ∈ TBg := tb_in 35 rfl rfl
set_option maxRecDepth 100000 in
theorem tw_36 : Cond.selects "WhiteRoadsModel" ⟨"WhiteRoadsModel", "four", "(I)V"⟩ ⟨"WhiteRoadsModel", "four", "(I)V"⟩ ∈ TBg := tb_in 36 rfl rfl
set_option maxRecDepth 100000 in
theorem tw_37 : Cond.selects "WhiteRoadsModel" ⟨"WhiteRoadsModel", "readAll", "()V"⟩ ⟨"WhiteRoadsModel", "readAll", "()V"⟩ ∈ TBg := tb_in 37 rfl rfl
set_option maxRecDepth 100000 in
theorem tw_38 : Cond.selects "WhiteRoadsModel" ⟨"WhiteRoadsModel", "token", "()V"⟩ ⟨"WhiteRoadsModel", "token", "()V"⟩ ∈ TBg := tb_in 38 rfl rfl
set_option maxRecDepth 100000 in
theorem tw_39 : Cond.selects "WhiteRoadsModel" ⟨"WhiteRoadsModel", "here", "(I)I"⟩ ⟨"WhiteRoadsModel", "here", "(I)I"⟩ ∈ TBg := tb_in 39 rfl rfl
set_option maxRecDepth 100000 in
theorem tw_40 : Cond.selects "WhiteRoadsModel" ⟨"WhiteRoadsModel", "readLine", "()V"⟩ ⟨"WhiteRoadsModel", "readLine", "()V"⟩ ∈ TBg := tb_in 40 rfl rfl
set_option maxRecDepth 100000 in
theorem tw_41 : Cond.selects "WhiteRoadsModel" ⟨"WhiteRoadsModel", "isWord", "(J)Z"⟩ ⟨"WhiteRoadsModel", "isWord", "(J)Z"⟩ ∈ TBg := tb_in 41 rfl rfl
set_option maxRecDepth 100000 in
theorem tw_42 : Cond.selects "WhiteRoadsModel" ⟨"WhiteRoadsModel", "readYard", "()V"⟩ ⟨"WhiteRoadsModel", "readYard", "()V"⟩ ∈ TBg := tb_in 42 rfl rfl
set_option maxRecDepth 100000 in
theorem tw_43 : Cond.selects "WhiteRoadsModel" ⟨"WhiteRoadsModel", "isName", "()Z"⟩ ⟨"WhiteRoadsModel", "isName", "()Z"⟩ ∈ TBg := tb_in 43 rfl rfl
set_option maxRecDepth 100000 in
theorem tw_44 : Cond.selects "WhiteRoadsModel" ⟨"WhiteRoadsModel", "wrong", "(I)V"⟩ ⟨"WhiteRoadsModel", "wrong", "(I)V"⟩ ∈ TBg := tb_in 44 rfl rfl
set_option maxRecDepth 100000 in
theorem tw_45 : Cond.selects "WhiteRoadsModel" ⟨"WhiteRoadsModel", "wrongAt", "(II)V"⟩ ⟨"WhiteRoadsModel", "wrongAt", "(II)V"⟩ ∈ TBg := tb_in 45 rfl rfl
set_option maxRecDepth 100000 in
theorem tw_46 : Cond.selects "WhiteRoadsModel" ⟨"WhiteRoadsModel", "find", "()I"⟩ ⟨"WhiteRoadsModel", "find", "()I"⟩ ∈ TBg := tb_in 46 rfl rfl
set_option maxRecDepth 100000 in
theorem tw_47 : Cond.selects "WhiteRoadsModel" ⟨"WhiteRoadsModel", "told", "(JII)I"⟩ ⟨"WhiteRoadsModel", "told", "(JII)I"⟩ ∈ TBg := tb_in 47 rfl rfl
set_option maxRecDepth 100000 in
theorem tw_48 : Cond.selects "WhiteRoadsModel" ⟨"WhiteRoadsModel", "want", "(J)V"⟩ ⟨"WhiteRoadsModel", "want", "(J)V"⟩ ∈ TBg := tb_in 48 rfl rfl
set_option maxRecDepth 100000 in
theorem tw_49 : Cond.selects "WhiteRoadsModel" ⟨"WhiteRoadsModel", "toldNumber", "(II)I"⟩ ⟨"WhiteRoadsModel", "toldNumber", "(II)I"⟩ ∈ TBg := tb_in 49 rfl rfl
set_option maxRecDepth 100000 in
theorem tw_50 : Cond.selects "WhiteRoadsModel" ⟨"WhiteRoadsModel", "signed", "(I)I"⟩ ⟨"WhiteRoadsModel", "signed", "(I)I"⟩ ∈ TBg := tb_in 50 rfl rfl
set_option maxRecDepth 100000 in
theorem tw_51 : Cond.selects "WhiteRoadsModel" ⟨"WhiteRoadsModel", "readWay", "()V"⟩ ⟨"WhiteRoadsModel", "readWay", "()V"⟩ ∈ TBg := tb_in 51 rfl rfl
set_option maxRecDepth 100000 in
theorem tw_52 : Cond.selects "WhiteRoadsModel" ⟨"WhiteRoadsModel", "old", "()I"⟩ ⟨"WhiteRoadsModel", "old", "()I"⟩ ∈ TBg := tb_in 52 rfl rfl
set_option maxRecDepth 100000 in
theorem tw_53 : Cond.selects "WhiteRoadsModel" ⟨"WhiteRoadsModel", "readHour", "()V"⟩ ⟨"WhiteRoadsModel", "readHour", "()V"⟩ ∈ TBg := tb_in 53 rfl rfl
set_option maxRecDepth 100000 in
theorem tw_54 : Cond.selects "WhiteRoadsModel" ⟨"WhiteRoadsModel", "readSlip", "()V"⟩ ⟨"WhiteRoadsModel", "readSlip", "()V"⟩ ∈ TBg := tb_in 54 rfl rfl
set_option maxRecDepth 100000 in
theorem tw_55 : Cond.selects "WhiteRoadsModel" ⟨"WhiteRoadsModel", "readNumber", "()I"⟩ ⟨"WhiteRoadsModel", "readNumber", "()I"⟩ ∈ TBg := tb_in 55 rfl rfl
set_option maxRecDepth 100000 in
theorem tw_56 : Cond.selects "WhiteRoadsModel" ⟨"WhiteRoadsModel", "readOld", "()I"⟩ ⟨"WhiteRoadsModel", "readOld", "()I"⟩ ∈ TBg := tb_in 56 rfl rfl
set_option maxRecDepth 100000 in
theorem tw_57 : Cond.selects "WhiteRoadsModel" ⟨"WhiteRoadsModel", "bring", "(I)V"⟩ ⟨"WhiteRoadsModel", "bring", "(I)V"⟩ ∈ TBg := tb_in 57 rfl rfl
set_option maxRecDepth 100000 in
theorem tw_58 : Cond.selects "WhiteRoadsModel" ⟨"WhiteRoadsModel", "goOn", "(III)V"⟩ ⟨"WhiteRoadsModel", "goOn", "(III)V"⟩ ∈ TBg := tb_in 58 rfl rfl
set_option maxRecDepth 100000 in
theorem tw_59 : Cond.selects "WhiteRoadsModel" ⟨"WhiteRoadsModel", "turn", "()V"⟩ ⟨"WhiteRoadsModel", "turn", "()V"⟩ ∈ TBg := tb_in 59 rfl rfl
set_option maxRecDepth 100000 in
theorem tw_60 : Cond.selects "WhiteRoadsModel" ⟨"WhiteRoadsModel", "runOff", "(I)V"⟩ ⟨"WhiteRoadsModel", "runOff", "(I)V"⟩ ∈ TBg := tb_in 60 rfl rfl
set_option maxRecDepth 100000 in
theorem tw_61 : Cond.selects "WhiteRoadsModel" ⟨"WhiteRoadsModel", "takeBack", "(I)V"⟩ ⟨"WhiteRoadsModel", "takeBack", "(I)V"⟩ ∈ TBg := tb_in 61 rfl rfl
set_option maxRecDepth 100000 in
theorem tw_62 : Cond.selects "WhiteRoadsModel" ⟨"WhiteRoadsModel", "isYard", "(I)Z"⟩ ⟨"WhiteRoadsModel", "isYard", "(I)Z"⟩ ∈ TBg := tb_in 62 rfl rfl
set_option maxRecDepth 100000 in
theorem tw_63 : Cond.selects "WhiteRoadsModel" ⟨"WhiteRoadsModel", "isWhite", "()Z"⟩ ⟨"WhiteRoadsModel", "isWhite", "()Z"⟩ ∈ TBg := tb_in 63 rfl rfl
set_option maxRecDepth 100000 in
theorem tw_64 : Cond.selects "WhiteRoadsModel" ⟨"WhiteRoadsModel", "isBlocked", "(I)Z"⟩ ⟨"WhiteRoadsModel", "isBlocked", "(I)Z"⟩ ∈ TBg := tb_in 64 rfl rfl
set_option maxRecDepth 100000 in
theorem tw_65 : Cond.selects "WhiteRoadsModel" ⟨"WhiteRoadsModel", "firstWhite", "(IIII)I"⟩ ⟨"WhiteRoadsModel", "firstWhite", "(IIII)I"⟩ ∈ TBg := tb_in 65 rfl rfl
set_option maxRecDepth 100000 in
theorem tw_66 : Cond.selects "WhiteRoadsModel" ⟨"WhiteRoadsModel", "counts", "(II)Z"⟩ ⟨"WhiteRoadsModel", "counts", "(II)Z"⟩ ∈ TBg := tb_in 66 rfl rfl
set_option maxRecDepth 100000 in
theorem tw_67 : Cond.selects "WhiteRoadsModel" ⟨"WhiteRoadsModel", "isSo", "(II)Z"⟩ ⟨"WhiteRoadsModel", "isSo", "(II)Z"⟩ ∈ TBg := tb_in 67 rfl rfl
set_option maxRecDepth 100000 in
theorem tw_68 : Cond.selects "WhiteRoadsModel" ⟨"WhiteRoadsModel", "warmBehind", "(IIII)I"⟩ ⟨"WhiteRoadsModel", "warmBehind", "(IIII)I"⟩ ∈ TBg := tb_in 68 rfl rfl
set_option maxRecDepth 100000 in
theorem tw_69 : Cond.selects "WhiteRoadsModel" ⟨"WhiteRoadsModel", "beginYard", "(I)V"⟩ ⟨"WhiteRoadsModel", "beginYard", "(I)V"⟩ ∈ TBg := tb_in 69 rfl rfl
set_option maxRecDepth 100000 in
theorem tw_70 : Cond.selects "WhiteRoadsModel" ⟨"WhiteRoadsModel", "weightOf", "(I)I"⟩ ⟨"WhiteRoadsModel", "weightOf", "(I)I"⟩ ∈ TBg := tb_in 70 rfl rfl
set_option maxRecDepth 100000 in
theorem tw_71 : Cond.selects "WhiteRoadsModel" ⟨"WhiteRoadsModel", "isSet", "(I)Z"⟩ ⟨"WhiteRoadsModel", "isSet", "(I)Z"⟩ ∈ TBg := tb_in 71 rfl rfl
set_option maxRecDepth 100000 in
theorem tw_72 : Cond.selects "WhiteRoadsModel" ⟨"WhiteRoadsModel", "costOf", "(IIII)I"⟩ ⟨"WhiteRoadsModel", "costOf", "(IIII)I"⟩ ∈ TBg := tb_in 72 rfl rfl
set_option maxRecDepth 100000 in
theorem tw_73 : Cond.selects "WhiteRoadsModel" ⟨"WhiteRoadsModel", "layFar", "()V"⟩ ⟨"WhiteRoadsModel", "layFar", "()V"⟩ ∈ TBg := tb_in 73 rfl rfl
set_option maxRecDepth 100000 in
theorem tw_74 : Cond.selects "WhiteRoadsModel" ⟨"WhiteRoadsModel", "layWhite", "(II)V"⟩ ⟨"WhiteRoadsModel", "layWhite", "(II)V"⟩ ∈ TBg := tb_in 74 rfl rfl
set_option maxRecDepth 100000 in
theorem tw_75 : Cond.selects "WhiteRoadsModel" ⟨"WhiteRoadsModel", "whitesOf", "(I)I"⟩ ⟨"WhiteRoadsModel", "whitesOf", "(I)I"⟩ ∈ TBg := tb_in 75 rfl rfl
set_option maxRecDepth 100000 in
theorem tw_76 : Cond.selects "WhiteRoadsModel" ⟨"WhiteRoadsModel", "minutesOf", "(I)I"⟩ ⟨"WhiteRoadsModel", "minutesOf", "(I)I"⟩ ∈ TBg := tb_in 76 rfl rfl
set_option maxRecDepth 100000 in
theorem tw_77 : Cond.selects "WhiteRoadsModel" ⟨"WhiteRoadsModel", "nextOrder", "(I)Z"⟩ ⟨"WhiteRoadsModel", "nextOrder", "(I)Z"⟩ ∈ TBg := tb_in 77 rfl rfl
set_option maxRecDepth 100000 in
theorem tw_78 : Cond.selects "WhiteRoadsModel" ⟨"WhiteRoadsModel", "swap", "(II)V"⟩ ⟨"WhiteRoadsModel", "swap", "(II)V"⟩ ∈ TBg := tb_in 78 rfl rfl
set_option maxRecDepth 100000 in
theorem tw_79 : Cond.selects "WhiteRoadsModel" ⟨"WhiteRoadsModel", "layBlocked", "()V"⟩ ⟨"WhiteRoadsModel", "layBlocked", "()V"⟩ ∈ TBg := tb_in 79 rfl rfl
set_option maxRecDepth 100000 in
theorem tw_80 : Cond.selects "WhiteRoadsModel" ⟨"WhiteRoadsModel", "greatestPart", "(IIII)I"⟩ ⟨"WhiteRoadsModel", "greatestPart", "(IIII)I"⟩ ∈ TBg := tb_in 80 rfl rfl
set_option maxRecDepth 100000 in
theorem tw_81 : (Jvm.Cond.initialized "WhiteRoadsLaw") ∈ TBg := tb_in 81 rfl rfl
set_option maxRecDepth 100000 in
theorem tw_82 : (Jvm.Cond.initialized "WhiteRoads") ∈ TBg := tb_in 82 rfl rfl
set_option maxRecDepth 100000 in
theorem tw_83 : (Jvm.Cond.initialized "WhiteRoads$Land") ∈ TBg := tb_in 83 rfl rfl
set_option maxRecDepth 100000 in
theorem tw_84 : (Jvm.Cond.initialized "WhiteRoads$Told") ∈ TBg := tb_in 84 rfl rfl
set_option maxRecDepth 100000 in
theorem tw_85 : (Jvm.Cond.initialized "WhiteRoads$Parser") ∈ TBg := tb_in 85 rfl rfl
set_option maxRecDepth 100000 in
theorem tw_86 : (Jvm.Cond.initialized "WhiteRoads$Lexer") ∈ TBg := tb_in 86 rfl rfl
set_option maxRecDepth 100000 in
theorem tw_87 : (Jvm.Cond.initialized "java/lang/String") ∈ TBg := tb_in 87 rfl rfl
set_option maxRecDepth 100000 in
theorem tw_88 : (Jvm.Cond.initialized "java/lang/StringLatin1") ∈ TBg := tb_in 88 rfl rfl
set_option maxRecDepth 100000 in
theorem tw_89 : (Jvm.Cond.initialized "jdk/internal/util/Preconditions") ∈ TBg := tb_in 89 rfl rfl
set_option maxRecDepth 100000 in
theorem tw_90 : (Jvm.Cond.initialized "java/lang/StringUTF16") ∈ TBg := tb_in 90 rfl rfl
set_option maxRecDepth 100000 in
theorem tw_91 : (Jvm.Cond.initialized "WhiteRoads$Day") ∈ TBg := tb_in 91 rfl rfl
set_option maxRecDepth 100000 in
theorem tw_92 : (Jvm.Cond.initialized "WhiteRoads$Ground") ∈ TBg := tb_in 92 rfl rfl
set_option maxRecDepth 100000 in
theorem tw_93 : (Jvm.Cond.initialized "WhiteRoads$Outlook") ∈ TBg := tb_in 93 rfl rfl
set_option maxRecDepth 100000 in
theorem tw_94 : (Jvm.Cond.initialized "WhiteRoads$Planner") ∈ TBg := tb_in 94 rfl rfl
set_option maxRecDepth 100000 in
theorem tw_95 : (Jvm.Cond.initialized "WhiteRoads$Gritter") ∈ TBg := tb_in 95 rfl rfl
set_option maxRecDepth 100000 in
theorem tw_96 : (Jvm.Cond.initialized "WhiteRoads$Car") ∈ TBg := tb_in 96 rfl rfl
set_option maxRecDepth 100000 in
theorem tw_97 : (Jvm.Cond.initialized "WhiteRoads$Glasses") ∈ TBg := tb_in 97 rfl rfl
set_option maxRecDepth 100000 in
theorem tw_98 : (Jvm.Cond.initialized "WhiteRoadsModel") ∈ TBg := tb_in 98 rfl rfl
set_option maxRecDepth 100000 in
theorem tw_99 : (Jvm.Cond.initialized "java/lang/Math") ∈ TBg := tb_in 99 rfl rfl
set_option maxRecDepth 100000 in
theorem tw_100 : (Jvm.Cond.initialized "java/lang/System") ∈ TBg := tb_in 100 rfl rfl
set_option maxRecDepth 100000 in
theorem tw_101 : (Jvm.Cond.initialized "java/lang/Integer") ∈ TBg := tb_in 101 rfl rfl
set_option maxRecDepth 100000 in
theorem tw_102 : (Jvm.Cond.initialized "java/util/Arrays") ∈ TBg := tb_in 102 rfl rfl
set_option maxRecDepth 100000 in
theorem tw_103 : (Jvm.Cond.classLink "WhiteRoadsLaw" (7 : Nat) "WhiteRoads") ∈ TBg := tb_in 103 rfl rfl
set_option maxRecDepth 100000 in
theorem tw_104 : (Jvm.Cond.instantiable "WhiteRoads" (14 : Nat)) ∈ TBg := tb_in 104 rfl rfl
set_option maxRecDepth 100000 in
theorem tw_105 : (Jvm.Cond.methodLink "WhiteRoadsLaw" (9 : Nat) ({ cls := "WhiteRoads", name := "<init>", desc := "()V" } : Jvm.MethodName)) ∈ TBg := tb_in 105 rfl rfl
set_option maxRecDepth 100000 in
theorem tw_106 : (Jvm.Cond.instanceMethod ({ cls := "WhiteRoads", name := "<init>", desc := "()V" } : Jvm.MethodName)) ∈ TBg := tb_in 106 rfl rfl
set_option maxRecDepth 100000 in
theorem tw_107 : (Jvm.Cond.code ({ cls := "WhiteRoads", name := "<init>", desc := "()V" } : Jvm.MethodName) prog_1_method_1_code (1 : Nat) (Option.none : Option Jvm.ClassFile.FieldType)) ∈ TBg := tb_in 107 rfl rfl
set_option maxRecDepth 100000 in
theorem tw_108 : (Jvm.Cond.methodLink "WhiteRoads" (1 : Nat) ({ cls := "java/lang/Object", name := "<init>", desc := "()V" } : Jvm.MethodName)) ∈ TBg := tb_in 108 rfl rfl
set_option maxRecDepth 100000 in
theorem tw_109 : (Jvm.Cond.instanceMethod ({ cls := "java/lang/Object", name := "<init>", desc := "()V" } : Jvm.MethodName)) ∈ TBg := tb_in 109 rfl rfl
set_option maxRecDepth 100000 in
theorem tw_110 : (Jvm.Cond.code ({ cls := "java/lang/Object", name := "<init>", desc := "()V" } : Jvm.MethodName) object_method_1_code (1 : Nat) (Option.none : Option Jvm.ClassFile.FieldType)) ∈ TBg := tb_in 110 rfl rfl
set_option maxRecDepth 100000 in
theorem tw_111 : (Jvm.Cond.classLink "WhiteRoads" (17 : Nat) "WhiteRoads$Land") ∈ TBg := tb_in 111 rfl rfl
set_option maxRecDepth 100000 in
theorem tw_112 : (Jvm.Cond.instantiable "WhiteRoads$Land" (18 : Nat)) ∈ TBg := tb_in 112 rfl rfl
set_option maxRecDepth 100000 in
theorem tw_113 : (Jvm.Cond.methodLink "WhiteRoads" (19 : Nat) ({ cls := "WhiteRoads$Land", name := "<init>", desc := "()V" } : Jvm.MethodName)) ∈ TBg := tb_in 113 rfl rfl
set_option maxRecDepth 100000 in
theorem tw_114 : (Jvm.Cond.instanceMethod ({ cls := "WhiteRoads$Land", name := "<init>", desc := "()V" } : Jvm.MethodName)) ∈ TBg := tb_in 114 rfl rfl
set_option maxRecDepth 100000 in
theorem tw_115 : (Jvm.Cond.code ({ cls := "WhiteRoads$Land", name := "<init>", desc := "()V" } : Jvm.MethodName) prog_7_method_1_code (2 : Nat) (Option.none : Option Jvm.ClassFile.FieldType)) ∈ TBg := tb_in 115 rfl rfl
set_option maxRecDepth 100000 in
theorem tw_116 : (Jvm.Cond.methodLink "WhiteRoads$Land" (3 : Nat) ({ cls := "java/lang/Object", name := "<init>", desc := "()V" } : Jvm.MethodName)) ∈ TBg := tb_in 116 rfl rfl
set_option maxRecDepth 100000 in
theorem tw_117 : (Jvm.Cond.classLink "WhiteRoads$Land" (9 : Nat) "WhiteRoads$Told") ∈ TBg := tb_in 117 rfl rfl
set_option maxRecDepth 100000 in
theorem tw_119 : (Jvm.Cond.instantiable "WhiteRoads$Told" (6 : Nat)) ∈ TBg := tb_in 119 rfl rfl
set_option maxRecDepth 100000 in
theorem tw_121 : (Jvm.Cond.instanceMethod ({ cls := "WhiteRoads$Told", name := "<init>", desc := "()V" } : Jvm.MethodName)) ∈ TBg := tb_in 121 rfl rfl
set_option maxRecDepth 100000 in
theorem tw_122 : (Jvm.Cond.code ({ cls := "WhiteRoads$Told", name := "<init>", desc := "()V" } : Jvm.MethodName) prog_12_method_1_code (1 : Nat) (Option.none : Option Jvm.ClassFile.FieldType)) ∈ TBg := tb_in 122 rfl rfl
set_option maxRecDepth 100000 in
theorem tw_123 : (Jvm.Cond.methodLink "WhiteRoads$Told" (3 : Nat) ({ cls := "java/lang/Object", name := "<init>", desc := "()V" } : Jvm.MethodName)) ∈ TBg := tb_in 123 rfl rfl
set_option maxRecDepth 100000 in
theorem tw_124 : (Jvm.Cond.fieldLink "WhiteRoads$Land" (74 : Nat) "WhiteRoads$Told" "name" "J") ∈ TBg := tb_in 124 rfl rfl
set_option maxRecDepth 100000 in
theorem tw_125 : (Jvm.Cond.fieldLink "WhiteRoads$Parser" (86 : Nat) "WhiteRoads$Told" "name" "J") ∈ TBg := tb_in 125 rfl rfl
set_option maxRecDepth 100000 in
theorem tw_126 : (Jvm.Cond.fieldLink "WhiteRoads$Parser" (104 : Nat) "WhiteRoads$Told" "sort" "I") ∈ TBg := tb_in 126 rfl rfl
set_option maxRecDepth 100000 in
theorem tw_127 : (Jvm.Cond.fieldLink "WhiteRoads$Ground" (65 : Nat) "WhiteRoads$Told" "sort" "I") ∈ TBg := tb_in 127 rfl rfl
set_option maxRecDepth 100000 in
theorem tw_128 : (Jvm.Cond.fieldLink "WhiteRoads$Parser" (114 : Nat) "WhiteRoads$Told" "slope" "I") ∈ TBg := tb_in 128 rfl rfl
set_option maxRecDepth 100000 in
theorem tw_129 : (Jvm.Cond.fieldLink "WhiteRoads$Ground" (37 : Nat) "WhiteRoads$Told" "slope" "I") ∈ TBg := tb_in 129 rfl rfl
set_option maxRecDepth 100000 in
theorem tw_130 : (Jvm.Cond.fieldLink "WhiteRoads$Parser" (117 : Nat) "WhiteRoads$Told" "traffic" "I") ∈ TBg := tb_in 130 rfl rfl
set_option maxRecDepth 100000 in
theorem tw_131 : (Jvm.Cond.fieldLink "WhiteRoads$Ground" (72 : Nat) "WhiteRoads$Told" "traffic" "I") ∈ TBg := tb_in 131 rfl rfl
set_option maxRecDepth 100000 in
theorem tw_132 : (Jvm.Cond.fieldLink "WhiteRoads$Parser" (131 : Nat) "WhiteRoads$Told" "layers" "I") ∈ TBg := tb_in 132 rfl rfl
set_option maxRecDepth 100000 in
theorem tw_133 : (Jvm.Cond.fieldLink "WhiteRoads$Glasses" (80 : Nat) "WhiteRoads$Told" "layers" "I") ∈ TBg := tb_in 133 rfl rfl
set_option maxRecDepth 100000 in
theorem tw_134 : (Jvm.Cond.fieldLink "WhiteRoads$Ground" (81 : Nat) "WhiteRoads$Told" "layers" "I") ∈ TBg := tb_in 134 rfl rfl
set_option maxRecDepth 100000 in
theorem tw_135 : (Jvm.Cond.fieldLink "WhiteRoads" (170 : Nat) "WhiteRoads$Told" "layers" "I") ∈ TBg := tb_in 135 rfl rfl
set_option maxRecDepth 100000 in
theorem tw_136 : (Jvm.Cond.fieldLink "WhiteRoads$Told" (9 : Nat) "WhiteRoads$Told" "warmth" "[I") ∈ TBg := tb_in 136 rfl rfl
set_option maxRecDepth 100000 in
theorem tw_137 : (Jvm.Cond.fieldLink "WhiteRoads$Ground" (28 : Nat) "WhiteRoads$Told" "warmth" "[I") ∈ TBg := tb_in 137 rfl rfl
set_option maxRecDepth 100000 in
theorem tw_138 : (Jvm.Cond.fieldLink "WhiteRoads$Parser" (124 : Nat) "WhiteRoads$Told" "warmth" "[I") ∈ TBg := tb_in 138 rfl rfl
set_option maxRecDepth 100000 in
theorem tw_139 : (Jvm.Cond.lays "WhiteRoads$Told" "WhiteRoads$Told" "name" "J") ∈ TBg := tb_in 139 rfl rfl
set_option maxRecDepth 100000 in
theorem tw_141 : (Jvm.Cond.lays "WhiteRoads$Told" "WhiteRoads$Told" "sort" "I") ∈ TBg := tb_in 141 rfl rfl
set_option maxRecDepth 100000 in
theorem tw_143 : (Jvm.Cond.lays "WhiteRoads$Told" "WhiteRoads$Told" "slope" "I") ∈ TBg := tb_in 143 rfl rfl
set_option maxRecDepth 100000 in
theorem tw_145 : (Jvm.Cond.lays "WhiteRoads$Told" "WhiteRoads$Told" "traffic" "I") ∈ TBg := tb_in 145 rfl rfl
set_option maxRecDepth 100000 in
theorem tw_147 : (Jvm.Cond.lays "WhiteRoads$Told" "WhiteRoads$Told" "layers" "I") ∈ TBg := tb_in 147 rfl rfl
set_option maxRecDepth 100000 in
theorem tw_149 : (Jvm.Cond.laysFinal "WhiteRoads$Told" "WhiteRoads$Told" "warmth" "[I") ∈ TBg := tb_in 149 rfl rfl
set_option maxRecDepth 100000 in
theorem tw_152 : (Jvm.Cond.arrayClass Jvm.ClassFile.FieldType.byte) ∈ TBg := tb_in 152 rfl rfl
set_option maxRecDepth 100000 in
theorem tw_153 : (Jvm.Cond.arrayClass Jvm.ClassFile.FieldType.int) ∈ TBg := tb_in 153 rfl rfl
set_option maxRecDepth 100000 in
theorem tw_154 : (Jvm.Cond.methodLink "WhiteRoads$Land" (43 : Nat) ({ cls := "WhiteRoads$Land", name := "clear", desc := "()V" } : Jvm.MethodName)) ∈ TBg := tb_in 154 rfl rfl
set_option maxRecDepth 100000 in
theorem tw_155 : (Jvm.Cond.instanceMethod ({ cls := "WhiteRoads$Land", name := "clear", desc := "()V" } : Jvm.MethodName)) ∈ TBg := tb_in 155 rfl rfl
set_option maxRecDepth 100000 in
theorem tw_156 : (Jvm.Cond.selects "WhiteRoads$Land" ({ cls := "WhiteRoads$Land", name := "clear", desc := "()V" } : Jvm.MethodName) ({ cls := "WhiteRoads$Land", name := "clear", desc := "()V" } : Jvm.MethodName)) ∈ TBg := tb_in 156 rfl rfl
set_option maxRecDepth 100000 in
theorem tw_157 : (Jvm.Cond.code ({ cls := "WhiteRoads$Land", name := "clear", desc := "()V" } : Jvm.MethodName) prog_7_method_2_code (1 : Nat) (Option.none : Option Jvm.ClassFile.FieldType)) ∈ TBg := tb_in 157 rfl rfl
set_option maxRecDepth 100000 in
theorem tw_158 : (Jvm.Cond.fieldLink "WhiteRoads$Land" (11 : Nat) "WhiteRoads$Land" "yards" "[LWhiteRoads$Told;") ∈ TBg := tb_in 158 rfl rfl
set_option maxRecDepth 100000 in
theorem tw_159 : (Jvm.Cond.fieldLink "WhiteRoads$Day" (40 : Nat) "WhiteRoads$Land" "yards" "[LWhiteRoads$Told;") ∈ TBg := tb_in 159 rfl rfl
set_option maxRecDepth 100000 in
theorem tw_160 : (Jvm.Cond.fieldLink "WhiteRoads$Outlook" (42 : Nat) "WhiteRoads$Land" "yards" "[LWhiteRoads$Told;") ∈ TBg := tb_in 160 rfl rfl
set_option maxRecDepth 100000 in
theorem tw_161 : (Jvm.Cond.fieldLink "WhiteRoads$Parser" (72 : Nat) "WhiteRoads$Land" "yards" "[LWhiteRoads$Told;") ∈ TBg := tb_in 161 rfl rfl
set_option maxRecDepth 100000 in
theorem tw_162 : (Jvm.Cond.fieldLink "WhiteRoads$Glasses" (49 : Nat) "WhiteRoads$Land" "yards" "[LWhiteRoads$Told;") ∈ TBg := tb_in 162 rfl rfl
set_option maxRecDepth 100000 in
theorem tw_163 : (Jvm.Cond.fieldLink "WhiteRoads" (144 : Nat) "WhiteRoads$Land" "yards" "[LWhiteRoads$Told;") ∈ TBg := tb_in 163 rfl rfl
set_option maxRecDepth 100000 in
theorem tw_164 : (Jvm.Cond.fieldLink "WhiteRoads$Land" (46 : Nat) "WhiteRoads$Land" "yardCount" "I") ∈ TBg := tb_in 164 rfl rfl
set_option maxRecDepth 100000 in
theorem tw_165 : (Jvm.Cond.fieldLink "WhiteRoads$Car" (30 : Nat) "WhiteRoads$Land" "yardCount" "I") ∈ TBg := tb_in 165 rfl rfl
set_option maxRecDepth 100000 in
theorem tw_166 : (Jvm.Cond.fieldLink "WhiteRoads$Day" (37 : Nat) "WhiteRoads$Land" "yardCount" "I") ∈ TBg := tb_in 166 rfl rfl
set_option maxRecDepth 100000 in
theorem tw_167 : (Jvm.Cond.fieldLink "WhiteRoads$Parser" (69 : Nat) "WhiteRoads$Land" "yardCount" "I") ∈ TBg := tb_in 167 rfl rfl
set_option maxRecDepth 100000 in
theorem tw_168 : (Jvm.Cond.fieldLink "WhiteRoads$Planner" (47 : Nat) "WhiteRoads$Land" "yardCount" "I") ∈ TBg := tb_in 168 rfl rfl
set_option maxRecDepth 100000 in
theorem tw_169 : (Jvm.Cond.fieldLink "WhiteRoads" (107 : Nat) "WhiteRoads$Land" "yardCount" "I") ∈ TBg := tb_in 169 rfl rfl
set_option maxRecDepth 100000 in
theorem tw_170 : (Jvm.Cond.fieldLink "WhiteRoads$Gritter" (90 : Nat) "WhiteRoads$Land" "yardCount" "I") ∈ TBg := tb_in 170 rfl rfl
set_option maxRecDepth 100000 in
theorem tw_171 : (Jvm.Cond.fieldLink "WhiteRoads$Glasses" (67 : Nat) "WhiteRoads$Land" "yardCount" "I") ∈ TBg := tb_in 171 rfl rfl
set_option maxRecDepth 100000 in
theorem tw_172 : (Jvm.Cond.fieldLink "WhiteRoads$Land" (17 : Nat) "WhiteRoads$Land" "wayFrom" "[I") ∈ TBg := tb_in 172 rfl rfl
set_option maxRecDepth 100000 in
theorem tw_173 : (Jvm.Cond.fieldLink "WhiteRoads$Car" (52 : Nat) "WhiteRoads$Land" "wayFrom" "[I") ∈ TBg := tb_in 173 rfl rfl
set_option maxRecDepth 100000 in
theorem tw_174 : (Jvm.Cond.fieldLink "WhiteRoads$Gritter" (81 : Nat) "WhiteRoads$Land" "wayFrom" "[I") ∈ TBg := tb_in 174 rfl rfl
set_option maxRecDepth 100000 in
theorem tw_175 : (Jvm.Cond.fieldLink "WhiteRoads$Parser" (148 : Nat) "WhiteRoads$Land" "wayFrom" "[I") ∈ TBg := tb_in 175 rfl rfl
set_option maxRecDepth 100000 in
theorem tw_176 : (Jvm.Cond.fieldLink "WhiteRoads$Land" (21 : Nat) "WhiteRoads$Land" "wayTo" "[I") ∈ TBg := tb_in 176 rfl rfl
set_option maxRecDepth 100000 in
theorem tw_177 : (Jvm.Cond.fieldLink "WhiteRoads$Car" (55 : Nat) "WhiteRoads$Land" "wayTo" "[I") ∈ TBg := tb_in 177 rfl rfl
set_option maxRecDepth 100000 in
theorem tw_178 : (Jvm.Cond.fieldLink "WhiteRoads$Gritter" (84 : Nat) "WhiteRoads$Land" "wayTo" "[I") ∈ TBg := tb_in 178 rfl rfl
set_option maxRecDepth 100000 in
theorem tw_179 : (Jvm.Cond.fieldLink "WhiteRoads$Parser" (151 : Nat) "WhiteRoads$Land" "wayTo" "[I") ∈ TBg := tb_in 179 rfl rfl
set_option maxRecDepth 100000 in
theorem tw_180 : (Jvm.Cond.fieldLink "WhiteRoads$Land" (24 : Nat) "WhiteRoads$Land" "wayTakes" "[I") ∈ TBg := tb_in 180 rfl rfl
set_option maxRecDepth 100000 in
theorem tw_181 : (Jvm.Cond.fieldLink "WhiteRoads$Car" (49 : Nat) "WhiteRoads$Land" "wayTakes" "[I") ∈ TBg := tb_in 181 rfl rfl
set_option maxRecDepth 100000 in
theorem tw_182 : (Jvm.Cond.fieldLink "WhiteRoads$Gritter" (87 : Nat) "WhiteRoads$Land" "wayTakes" "[I") ∈ TBg := tb_in 182 rfl rfl
set_option maxRecDepth 100000 in
theorem tw_183 : (Jvm.Cond.fieldLink "WhiteRoads$Parser" (154 : Nat) "WhiteRoads$Land" "wayTakes" "[I") ∈ TBg := tb_in 183 rfl rfl
set_option maxRecDepth 100000 in
theorem tw_184 : (Jvm.Cond.fieldLink "WhiteRoads$Land" (50 : Nat) "WhiteRoads$Land" "wayCount" "I") ∈ TBg := tb_in 184 rfl rfl
set_option maxRecDepth 100000 in
theorem tw_185 : (Jvm.Cond.fieldLink "WhiteRoads$Car" (46 : Nat) "WhiteRoads$Land" "wayCount" "I") ∈ TBg := tb_in 185 rfl rfl
set_option maxRecDepth 100000 in
theorem tw_186 : (Jvm.Cond.fieldLink "WhiteRoads$Gritter" (78 : Nat) "WhiteRoads$Land" "wayCount" "I") ∈ TBg := tb_in 186 rfl rfl
set_option maxRecDepth 100000 in
theorem tw_187 : (Jvm.Cond.fieldLink "WhiteRoads$Parser" (138 : Nat) "WhiteRoads$Land" "wayCount" "I") ∈ TBg := tb_in 187 rfl rfl
set_option maxRecDepth 100000 in
theorem tw_188 : (Jvm.Cond.fieldLink "WhiteRoads" (296 : Nat) "WhiteRoads$Land" "wayCount" "I") ∈ TBg := tb_in 188 rfl rfl
set_option maxRecDepth 100000 in
theorem tw_189 : (Jvm.Cond.fieldLink "WhiteRoads$Land" (27 : Nat) "WhiteRoads$Land" "falls" "[I") ∈ TBg := tb_in 189 rfl rfl
set_option maxRecDepth 100000 in
theorem tw_190 : (Jvm.Cond.fieldLink "WhiteRoads$Parser" (160 : Nat) "WhiteRoads$Land" "falls" "[I") ∈ TBg := tb_in 190 rfl rfl
set_option maxRecDepth 100000 in
theorem tw_191 : (Jvm.Cond.fieldLink "WhiteRoads$Ground" (53 : Nat) "WhiteRoads$Land" "falls" "[I") ∈ TBg := tb_in 191 rfl rfl
set_option maxRecDepth 100000 in
theorem tw_192 : (Jvm.Cond.fieldLink "WhiteRoads$Land" (30 : Nat) "WhiteRoads$Land" "temps" "[I") ∈ TBg := tb_in 192 rfl rfl
set_option maxRecDepth 100000 in
theorem tw_193 : (Jvm.Cond.fieldLink "WhiteRoads$Parser" (163 : Nat) "WhiteRoads$Land" "temps" "[I") ∈ TBg := tb_in 193 rfl rfl
set_option maxRecDepth 100000 in
theorem tw_194 : (Jvm.Cond.fieldLink "WhiteRoads$Ground" (46 : Nat) "WhiteRoads$Land" "temps" "[I") ∈ TBg := tb_in 194 rfl rfl
set_option maxRecDepth 100000 in
theorem tw_195 : (Jvm.Cond.fieldLink "WhiteRoads$Land" (33 : Nat) "WhiteRoads$Land" "wets" "[I") ∈ TBg := tb_in 195 rfl rfl
set_option maxRecDepth 100000 in
theorem tw_196 : (Jvm.Cond.fieldLink "WhiteRoads$Parser" (166 : Nat) "WhiteRoads$Land" "wets" "[I") ∈ TBg := tb_in 196 rfl rfl
set_option maxRecDepth 100000 in
theorem tw_197 : (Jvm.Cond.fieldLink "WhiteRoads$Ground" (56 : Nat) "WhiteRoads$Land" "wets" "[I") ∈ TBg := tb_in 197 rfl rfl
set_option maxRecDepth 100000 in
theorem tw_198 : (Jvm.Cond.fieldLink "WhiteRoads$Land" (53 : Nat) "WhiteRoads$Land" "hourCount" "I") ∈ TBg := tb_in 198 rfl rfl
set_option maxRecDepth 100000 in
theorem tw_199 : (Jvm.Cond.fieldLink "WhiteRoads$Parser" (157 : Nat) "WhiteRoads$Land" "hourCount" "I") ∈ TBg := tb_in 199 rfl rfl
set_option maxRecDepth 100000 in
theorem tw_200 : (Jvm.Cond.fieldLink "WhiteRoads" (299 : Nat) "WhiteRoads$Land" "hourCount" "I") ∈ TBg := tb_in 200 rfl rfl
set_option maxRecDepth 100000 in
theorem tw_201 : (Jvm.Cond.fieldLink "WhiteRoads$Land" (36 : Nat) "WhiteRoads$Land" "slips" "[I") ∈ TBg := tb_in 201 rfl rfl
set_option maxRecDepth 100000 in
theorem tw_202 : (Jvm.Cond.fieldLink "WhiteRoads$Planner" (50 : Nat) "WhiteRoads$Land" "slips" "[I") ∈ TBg := tb_in 202 rfl rfl
set_option maxRecDepth 100000 in
theorem tw_203 : (Jvm.Cond.fieldLink "WhiteRoads$Glasses" (57 : Nat) "WhiteRoads$Land" "slips" "[I") ∈ TBg := tb_in 203 rfl rfl
set_option maxRecDepth 100000 in
theorem tw_204 : (Jvm.Cond.fieldLink "WhiteRoads$Parser" (176 : Nat) "WhiteRoads$Land" "slips" "[I") ∈ TBg := tb_in 204 rfl rfl
set_option maxRecDepth 100000 in
theorem tw_205 : (Jvm.Cond.fieldLink "WhiteRoads" (205 : Nat) "WhiteRoads$Land" "slips" "[I") ∈ TBg := tb_in 205 rfl rfl
set_option maxRecDepth 100000 in
theorem tw_206 : (Jvm.Cond.fieldLink "WhiteRoads$Land" (39 : Nat) "WhiteRoads$Land" "weights" "[I") ∈ TBg := tb_in 206 rfl rfl
set_option maxRecDepth 100000 in
theorem tw_207 : (Jvm.Cond.fieldLink "WhiteRoads$Planner" (63 : Nat) "WhiteRoads$Land" "weights" "[I") ∈ TBg := tb_in 207 rfl rfl
set_option maxRecDepth 100000 in
theorem tw_208 : (Jvm.Cond.fieldLink "WhiteRoads$Parser" (179 : Nat) "WhiteRoads$Land" "weights" "[I") ∈ TBg := tb_in 208 rfl rfl
set_option maxRecDepth 100000 in
theorem tw_209 : (Jvm.Cond.fieldLink "WhiteRoads" (208 : Nat) "WhiteRoads$Land" "weights" "[I") ∈ TBg := tb_in 209 rfl rfl
set_option maxRecDepth 100000 in
theorem tw_210 : (Jvm.Cond.fieldLink "WhiteRoads$Land" (56 : Nat) "WhiteRoads$Land" "slipCount" "I") ∈ TBg := tb_in 210 rfl rfl
set_option maxRecDepth 100000 in
theorem tw_211 : (Jvm.Cond.fieldLink "WhiteRoads$Planner" (44 : Nat) "WhiteRoads$Land" "slipCount" "I") ∈ TBg := tb_in 211 rfl rfl
set_option maxRecDepth 100000 in
theorem tw_212 : (Jvm.Cond.fieldLink "WhiteRoads$Glasses" (44 : Nat) "WhiteRoads$Land" "slipCount" "I") ∈ TBg := tb_in 212 rfl rfl
set_option maxRecDepth 100000 in
theorem tw_213 : (Jvm.Cond.fieldLink "WhiteRoads$Parser" (169 : Nat) "WhiteRoads$Land" "slipCount" "I") ∈ TBg := tb_in 213 rfl rfl
set_option maxRecDepth 100000 in
theorem tw_214 : (Jvm.Cond.fieldLink "WhiteRoads" (202 : Nat) "WhiteRoads$Land" "slipCount" "I") ∈ TBg := tb_in 214 rfl rfl
set_option maxRecDepth 100000 in
theorem tw_215 : (Jvm.Cond.fieldLink "WhiteRoads$Planner" (30 : Nat) "WhiteRoads$Land" "callCost" "I") ∈ TBg := tb_in 215 rfl rfl
set_option maxRecDepth 100000 in
theorem tw_216 : (Jvm.Cond.fieldLink "WhiteRoads$Land" (59 : Nat) "WhiteRoads$Land" "callCost" "I") ∈ TBg := tb_in 216 rfl rfl
set_option maxRecDepth 100000 in
theorem tw_217 : (Jvm.Cond.fieldLink "WhiteRoads$Parser" (188 : Nat) "WhiteRoads$Land" "callCost" "I") ∈ TBg := tb_in 217 rfl rfl
set_option maxRecDepth 100000 in
theorem tw_218 : (Jvm.Cond.fieldLink "WhiteRoads$Land" (62 : Nat) "WhiteRoads$Land" "harmCost" "I") ∈ TBg := tb_in 218 rfl rfl
set_option maxRecDepth 100000 in
theorem tw_219 : (Jvm.Cond.fieldLink "WhiteRoads$Planner" (60 : Nat) "WhiteRoads$Land" "harmCost" "I") ∈ TBg := tb_in 219 rfl rfl
set_option maxRecDepth 100000 in
theorem tw_220 : (Jvm.Cond.fieldLink "WhiteRoads$Parser" (191 : Nat) "WhiteRoads$Land" "harmCost" "I") ∈ TBg := tb_in 220 rfl rfl
set_option maxRecDepth 100000 in
theorem tw_221 : (Jvm.Cond.fieldLink "WhiteRoads$Land" (65 : Nat) "WhiteRoads$Land" "depot" "I") ∈ TBg := tb_in 221 rfl rfl
set_option maxRecDepth 100000 in
theorem tw_222 : (Jvm.Cond.fieldLink "WhiteRoads$Gritter" (47 : Nat) "WhiteRoads$Land" "depot" "I") ∈ TBg := tb_in 222 rfl rfl
set_option maxRecDepth 100000 in
theorem tw_223 : (Jvm.Cond.fieldLink "WhiteRoads$Parser" (185 : Nat) "WhiteRoads$Land" "depot" "I") ∈ TBg := tb_in 223 rfl rfl
set_option maxRecDepth 100000 in
theorem tw_224 : (Jvm.Cond.fieldLink "WhiteRoads" (302 : Nat) "WhiteRoads$Land" "depot" "I") ∈ TBg := tb_in 224 rfl rfl
set_option maxRecDepth 100000 in
theorem tw_225 : (Jvm.Cond.fieldLink "WhiteRoads$Day" (28 : Nat) "WhiteRoads$Land" "storeTold" "I") ∈ TBg := tb_in 225 rfl rfl
set_option maxRecDepth 100000 in
theorem tw_226 : (Jvm.Cond.fieldLink "WhiteRoads$Land" (68 : Nat) "WhiteRoads$Land" "storeTold" "I") ∈ TBg := tb_in 226 rfl rfl
set_option maxRecDepth 100000 in
theorem tw_227 : (Jvm.Cond.fieldLink "WhiteRoads$Parser" (194 : Nat) "WhiteRoads$Land" "storeTold" "I") ∈ TBg := tb_in 227 rfl rfl
set_option maxRecDepth 100000 in
theorem tw_228 : (Jvm.Cond.fieldLink "WhiteRoads$Land" (71 : Nat) "WhiteRoads$Land" "toldOnce" "I") ∈ TBg := tb_in 228 rfl rfl
set_option maxRecDepth 100000 in
theorem tw_229 : (Jvm.Cond.fieldLink "WhiteRoads$Parser" (182 : Nat) "WhiteRoads$Land" "toldOnce" "I") ∈ TBg := tb_in 229 rfl rfl
set_option maxRecDepth 100000 in
theorem tw_230 : (Jvm.Cond.laysFinal "WhiteRoads$Land" "WhiteRoads$Land" "yards" "[LWhiteRoads$Told;") ∈ TBg := tb_in 230 rfl rfl
set_option maxRecDepth 100000 in
theorem tw_232 : (Jvm.Cond.lays "WhiteRoads$Land" "WhiteRoads$Land" "yardCount" "I") ∈ TBg := tb_in 232 rfl rfl
set_option maxRecDepth 100000 in
theorem tw_234 : (Jvm.Cond.laysFinal "WhiteRoads$Land" "WhiteRoads$Land" "wayFrom" "[I") ∈ TBg := tb_in 234 rfl rfl
set_option maxRecDepth 100000 in
theorem tw_236 : (Jvm.Cond.laysFinal "WhiteRoads$Land" "WhiteRoads$Land" "wayTo" "[I") ∈ TBg := tb_in 236 rfl rfl
set_option maxRecDepth 100000 in
theorem tw_238 : (Jvm.Cond.laysFinal "WhiteRoads$Land" "WhiteRoads$Land" "wayTakes" "[I") ∈ TBg := tb_in 238 rfl rfl
set_option maxRecDepth 100000 in
theorem tw_240 : (Jvm.Cond.lays "WhiteRoads$Land" "WhiteRoads$Land" "wayCount" "I") ∈ TBg := tb_in 240 rfl rfl
set_option maxRecDepth 100000 in
theorem tw_242 : (Jvm.Cond.laysFinal "WhiteRoads$Land" "WhiteRoads$Land" "falls" "[I") ∈ TBg := tb_in 242 rfl rfl
set_option maxRecDepth 100000 in
theorem tw_244 : (Jvm.Cond.laysFinal "WhiteRoads$Land" "WhiteRoads$Land" "temps" "[I") ∈ TBg := tb_in 244 rfl rfl
set_option maxRecDepth 100000 in
theorem tw_246 : (Jvm.Cond.laysFinal "WhiteRoads$Land" "WhiteRoads$Land" "wets" "[I") ∈ TBg := tb_in 246 rfl rfl
set_option maxRecDepth 100000 in
theorem tw_248 : (Jvm.Cond.lays "WhiteRoads$Land" "WhiteRoads$Land" "hourCount" "I") ∈ TBg := tb_in 248 rfl rfl
set_option maxRecDepth 100000 in
theorem tw_250 : (Jvm.Cond.laysFinal "WhiteRoads$Land" "WhiteRoads$Land" "slips" "[I") ∈ TBg := tb_in 250 rfl rfl
set_option maxRecDepth 100000 in
theorem tw_252 : (Jvm.Cond.laysFinal "WhiteRoads$Land" "WhiteRoads$Land" "weights" "[I") ∈ TBg := tb_in 252 rfl rfl
set_option maxRecDepth 100000 in
theorem tw_254 : (Jvm.Cond.lays "WhiteRoads$Land" "WhiteRoads$Land" "slipCount" "I") ∈ TBg := tb_in 254 rfl rfl
set_option maxRecDepth 100000 in
theorem tw_256 : (Jvm.Cond.lays "WhiteRoads$Land" "WhiteRoads$Land" "callCost" "I") ∈ TBg := tb_in 256 rfl rfl
set_option maxRecDepth 100000 in
theorem tw_258 : (Jvm.Cond.lays "WhiteRoads$Land" "WhiteRoads$Land" "harmCost" "I") ∈ TBg := tb_in 258 rfl rfl
set_option maxRecDepth 100000 in
theorem tw_260 : (Jvm.Cond.lays "WhiteRoads$Land" "WhiteRoads$Land" "depot" "I") ∈ TBg := tb_in 260 rfl rfl
set_option maxRecDepth 100000 in
theorem tw_262 : (Jvm.Cond.lays "WhiteRoads$Land" "WhiteRoads$Land" "storeTold" "I") ∈ TBg := tb_in 262 rfl rfl
set_option maxRecDepth 100000 in
theorem tw_264 : (Jvm.Cond.lays "WhiteRoads$Land" "WhiteRoads$Land" "toldOnce" "I") ∈ TBg := tb_in 264 rfl rfl
set_option maxRecDepth 100000 in
theorem tw_267 : (Jvm.Cond.classLink "WhiteRoads" (27 : Nat) "WhiteRoads$Parser") ∈ TBg := tb_in 267 rfl rfl
set_option maxRecDepth 100000 in
theorem tw_268 : (Jvm.Cond.instantiable "WhiteRoads$Parser" (5 : Nat)) ∈ TBg := tb_in 268 rfl rfl
set_option maxRecDepth 100000 in
theorem tw_269 : (Jvm.Cond.methodLink "WhiteRoads" (29 : Nat) ({ cls := "WhiteRoads$Parser", name := "<init>", desc := "(LWhiteRoads$Land;)V" } : Jvm.MethodName)) ∈ TBg := tb_in 269 rfl rfl
set_option maxRecDepth 100000 in
theorem tw_270 : (Jvm.Cond.instanceMethod ({ cls := "WhiteRoads$Parser", name := "<init>", desc := "(LWhiteRoads$Land;)V" } : Jvm.MethodName)) ∈ TBg := tb_in 270 rfl rfl
set_option maxRecDepth 100000 in
theorem tw_271 : (Jvm.Cond.code ({ cls := "WhiteRoads$Parser", name := "<init>", desc := "(LWhiteRoads$Land;)V" } : Jvm.MethodName) prog_10_method_1_code (2 : Nat) (Option.none : Option Jvm.ClassFile.FieldType)) ∈ TBg := tb_in 271 rfl rfl
set_option maxRecDepth 100000 in
theorem tw_272 : (Jvm.Cond.methodLink "WhiteRoads$Parser" (3 : Nat) ({ cls := "java/lang/Object", name := "<init>", desc := "()V" } : Jvm.MethodName)) ∈ TBg := tb_in 272 rfl rfl
set_option maxRecDepth 100000 in
theorem tw_273 : (Jvm.Cond.classLink "WhiteRoads$Parser" (9 : Nat) "WhiteRoads$Lexer") ∈ TBg := tb_in 273 rfl rfl
set_option maxRecDepth 100000 in
theorem tw_274 : (Jvm.Cond.instantiable "WhiteRoads$Lexer" (9 : Nat)) ∈ TBg := tb_in 274 rfl rfl
set_option maxRecDepth 100000 in
theorem tw_275 : (Jvm.Cond.methodLink "WhiteRoads$Parser" (11 : Nat) ({ cls := "WhiteRoads$Lexer", name := "<init>", desc := "()V" } : Jvm.MethodName)) ∈ TBg := tb_in 275 rfl rfl
set_option maxRecDepth 100000 in
theorem tw_276 : (Jvm.Cond.instanceMethod ({ cls := "WhiteRoads$Lexer", name := "<init>", desc := "()V" } : Jvm.MethodName)) ∈ TBg := tb_in 276 rfl rfl
set_option maxRecDepth 100000 in
theorem tw_277 : (Jvm.Cond.code ({ cls := "WhiteRoads$Lexer", name := "<init>", desc := "()V" } : Jvm.MethodName) prog_8_method_1_code (6 : Nat) (Option.none : Option Jvm.ClassFile.FieldType)) ∈ TBg := tb_in 277 rfl rfl
set_option maxRecDepth 100000 in
theorem tw_278 : (Jvm.Cond.methodLink "WhiteRoads$Lexer" (3 : Nat) ({ cls := "java/lang/Object", name := "<init>", desc := "()V" } : Jvm.MethodName)) ∈ TBg := tb_in 278 rfl rfl
set_option maxRecDepth 100000 in
theorem tw_280 : (Jvm.Cond.methodLink "WhiteRoads$Lexer" (44 : Nat) ({ cls := "java/lang/String", name := "length", desc := "()I" } : Jvm.MethodName)) ∈ TBg := tb_in 280 rfl rfl
set_option maxRecDepth 100000 in
theorem tw_281 : (Jvm.Cond.instanceMethod ({ cls := "java/lang/String", name := "length", desc := "()I" } : Jvm.MethodName)) ∈ TBg := tb_in 281 rfl rfl
set_option maxRecDepth 100000 in
theorem tw_282 : (Jvm.Cond.selects "java/lang/String" ({ cls := "java/lang/String", name := "length", desc := "()I" } : Jvm.MethodName) ({ cls := "java/lang/String", name := "length", desc := "()I" } : Jvm.MethodName)) ∈ TBg := tb_in 282 rfl rfl
set_option maxRecDepth 100000 in
theorem tw_283 : (Jvm.Cond.code ({ cls := "java/lang/String", name := "length", desc := "()I" } : Jvm.MethodName) prog_17_method_54_code (1 : Nat) (Option.some Jvm.ClassFile.FieldType.int)) ∈ TBg := tb_in 283 rfl rfl
set_option maxRecDepth 100000 in
theorem tw_284 : (Jvm.Cond.methodLink "java/lang/String" (335 : Nat) ({ cls := "java/lang/String", name := "coder", desc := "()B" } : Jvm.MethodName)) ∈ TBg := tb_in 284 rfl rfl
set_option maxRecDepth 100000 in
theorem tw_285 : (Jvm.Cond.instanceMethod ({ cls := "java/lang/String", name := "coder", desc := "()B" } : Jvm.MethodName)) ∈ TBg := tb_in 285 rfl rfl
set_option maxRecDepth 100000 in
theorem tw_286 : (Jvm.Cond.selects "java/lang/String" ({ cls := "java/lang/String", name := "coder", desc := "()B" } : Jvm.MethodName) ({ cls := "java/lang/String", name := "coder", desc := "()B" } : Jvm.MethodName)) ∈ TBg := tb_in 286 rfl rfl
set_option maxRecDepth 100000 in
theorem tw_287 : (Jvm.Cond.code ({ cls := "java/lang/String", name := "coder", desc := "()B" } : Jvm.MethodName) prog_17_method_152_code (1 : Nat) (Option.some Jvm.ClassFile.FieldType.byte)) ∈ TBg := tb_in 287 rfl rfl
set_option maxRecDepth 100000 in
theorem tw_288 : (Jvm.Cond.fieldLink "java/lang/String" (38 : Nat) "java/lang/String" "COMPACT_STRINGS" "Z") ∈ TBg := tb_in 288 rfl rfl
set_option maxRecDepth 100000 in
theorem tw_290 : (Jvm.Cond.methodLink "WhiteRoads$Lexer" (49 : Nat) ({ cls := "java/lang/String", name := "charAt", desc := "(I)C" } : Jvm.MethodName)) ∈ TBg := tb_in 290 rfl rfl
set_option maxRecDepth 100000 in
theorem tw_291 : (Jvm.Cond.instanceMethod ({ cls := "java/lang/String", name := "charAt", desc := "(I)C" } : Jvm.MethodName)) ∈ TBg := tb_in 291 rfl rfl
set_option maxRecDepth 100000 in
theorem tw_292 : (Jvm.Cond.selects "java/lang/String" ({ cls := "java/lang/String", name := "charAt", desc := "(I)C" } : Jvm.MethodName) ({ cls := "java/lang/String", name := "charAt", desc := "(I)C" } : Jvm.MethodName)) ∈ TBg := tb_in 292 rfl rfl
set_option maxRecDepth 100000 in
theorem tw_293 : (Jvm.Cond.code ({ cls := "java/lang/String", name := "charAt", desc := "(I)C" } : Jvm.MethodName) prog_17_method_56_code (2 : Nat) (Option.some Jvm.ClassFile.FieldType.char)) ∈ TBg := tb_in 293 rfl rfl
set_option maxRecDepth 100000 in
theorem tw_294 : (Jvm.Cond.methodLink "java/lang/String" (492 : Nat) ({ cls := "java/lang/String", name := "isLatin1", desc := "()Z" } : Jvm.MethodName)) ∈ TBg := tb_in 294 rfl rfl
set_option maxRecDepth 100000 in
theorem tw_295 : (Jvm.Cond.instanceMethod ({ cls := "java/lang/String", name := "isLatin1", desc := "()Z" } : Jvm.MethodName)) ∈ TBg := tb_in 295 rfl rfl
set_option maxRecDepth 100000 in
theorem tw_296 : (Jvm.Cond.selects "java/lang/String" ({ cls := "java/lang/String", name := "isLatin1", desc := "()Z" } : Jvm.MethodName) ({ cls := "java/lang/String", name := "isLatin1", desc := "()Z" } : Jvm.MethodName)) ∈ TBg := tb_in 296 rfl rfl
set_option maxRecDepth 100000 in
theorem tw_297 : (Jvm.Cond.code ({ cls := "java/lang/String", name := "isLatin1", desc := "()Z" } : Jvm.MethodName) prog_17_method_154_code (1 : Nat) (Option.some Jvm.ClassFile.FieldType.boolean)) ∈ TBg := tb_in 297 rfl rfl
set_option maxRecDepth 100000 in
theorem tw_298 : (Jvm.Cond.methodLink "java/lang/String" (495 : Nat) ({ cls := "java/lang/StringLatin1", name := "charAt", desc := "([BI)C" } : Jvm.MethodName)) ∈ TBg := tb_in 298 rfl rfl
set_option maxRecDepth 100000 in
theorem tw_299 : (Jvm.Cond.static ({ cls := "java/lang/StringLatin1", name := "charAt", desc := "([BI)C" } : Jvm.MethodName)) ∈ TBg := tb_in 299 rfl rfl
set_option maxRecDepth 100000 in
theorem tw_300 : (Jvm.Cond.code ({ cls := "java/lang/StringLatin1", name := "charAt", desc := "([BI)C" } : Jvm.MethodName) prog_18_method_2_code (2 : Nat) (Option.some Jvm.ClassFile.FieldType.char)) ∈ TBg := tb_in 300 rfl rfl
set_option maxRecDepth 100000 in
theorem tw_301 : (Jvm.Cond.methodLink "java/lang/StringLatin1" (9 : Nat) ({ cls := "java/lang/String", name := "checkIndex", desc := "(II)V" } : Jvm.MethodName)) ∈ TBg := tb_in 301 rfl rfl
set_option maxRecDepth 100000 in
theorem tw_302 : (Jvm.Cond.static ({ cls := "java/lang/String", name := "checkIndex", desc := "(II)V" } : Jvm.MethodName)) ∈ TBg := tb_in 302 rfl rfl
set_option maxRecDepth 100000 in
theorem tw_303 : (Jvm.Cond.code ({ cls := "java/lang/String", name := "checkIndex", desc := "(II)V" } : Jvm.MethodName) prog_17_method_155_code (2 : Nat) (Option.none : Option Jvm.ClassFile.FieldType)) ∈ TBg := tb_in 303 rfl rfl
set_option maxRecDepth 100000 in
theorem tw_304 : (Jvm.Cond.fieldLink "java/lang/String" (1053 : Nat) "jdk/internal/util/Preconditions" "SIOOBE_FORMATTER" "Ljava/util/function/BiFunction;") ∈ TBg := tb_in 304 rfl rfl
set_option maxRecDepth 100000 in
theorem tw_306 : (Jvm.Cond.methodLink "java/lang/String" (1059 : Nat) ({ cls := "jdk/internal/util/Preconditions", name := "checkIndex", desc := "(IILjava/util/function/BiFunction;)I" } : Jvm.MethodName)) ∈ TBg := tb_in 306 rfl rfl
set_option maxRecDepth 100000 in
theorem tw_307 : (Jvm.Cond.static ({ cls := "jdk/internal/util/Preconditions", name := "checkIndex", desc := "(IILjava/util/function/BiFunction;)I" } : Jvm.MethodName)) ∈ TBg := tb_in 307 rfl rfl
set_option maxRecDepth 100000 in
theorem tw_308 : (Jvm.Cond.code ({ cls := "jdk/internal/util/Preconditions", name := "checkIndex", desc := "(IILjava/util/function/BiFunction;)I" } : Jvm.MethodName) prog_22_method_11_code (3 : Nat) (Option.some Jvm.ClassFile.FieldType.int)) ∈ TBg := tb_in 308 rfl rfl
set_option maxRecDepth 100000 in
theorem tw_309 : (Jvm.Cond.methodLink "java/lang/String" (498 : Nat) ({ cls := "java/lang/StringUTF16", name := "charAt", desc := "([BI)C" } : Jvm.MethodName)) ∈ TBg := tb_in 309 rfl rfl
set_option maxRecDepth 100000 in
theorem tw_310 : (Jvm.Cond.static ({ cls := "java/lang/StringUTF16", name := "charAt", desc := "([BI)C" } : Jvm.MethodName)) ∈ TBg := tb_in 310 rfl rfl
set_option maxRecDepth 100000 in
theorem tw_311 : (Jvm.Cond.code ({ cls := "java/lang/StringUTF16", name := "charAt", desc := "([BI)C" } : Jvm.MethodName) prog_19_method_83_code (2 : Nat) (Option.some Jvm.ClassFile.FieldType.char)) ∈ TBg := tb_in 311 rfl rfl
set_option maxRecDepth 100000 in
theorem tw_312 : (Jvm.Cond.methodLink "java/lang/StringUTF16" (67 : Nat) ({ cls := "java/lang/StringUTF16", name := "checkIndex", desc := "(I[B)V" } : Jvm.MethodName)) ∈ TBg := tb_in 312 rfl rfl
set_option maxRecDepth 100000 in
theorem tw_313 : (Jvm.Cond.static ({ cls := "java/lang/StringUTF16", name := "checkIndex", desc := "(I[B)V" } : Jvm.MethodName)) ∈ TBg := tb_in 313 rfl rfl
set_option maxRecDepth 100000 in
theorem tw_314 : (Jvm.Cond.code ({ cls := "java/lang/StringUTF16", name := "checkIndex", desc := "(I[B)V" } : Jvm.MethodName) prog_19_method_91_code (2 : Nat) (Option.none : Option Jvm.ClassFile.FieldType)) ∈ TBg := tb_in 314 rfl rfl
set_option maxRecDepth 100000 in
theorem tw_315 : (Jvm.Cond.methodLink "java/lang/StringUTF16" (48 : Nat) ({ cls := "java/lang/StringUTF16", name := "length", desc := "([B)I" } : Jvm.MethodName)) ∈ TBg := tb_in 315 rfl rfl
set_option maxRecDepth 100000 in
theorem tw_316 : (Jvm.Cond.static ({ cls := "java/lang/StringUTF16", name := "length", desc := "([B)I" } : Jvm.MethodName)) ∈ TBg := tb_in 316 rfl rfl
set_option maxRecDepth 100000 in
theorem tw_317 : (Jvm.Cond.code ({ cls := "java/lang/StringUTF16", name := "length", desc := "([B)I" } : Jvm.MethodName) prog_19_method_6_code (1 : Nat) (Option.some Jvm.ClassFile.FieldType.int)) ∈ TBg := tb_in 317 rfl rfl
set_option maxRecDepth 100000 in
theorem tw_318 : (Jvm.Cond.methodLink "java/lang/StringUTF16" (414 : Nat) ({ cls := "java/lang/String", name := "checkIndex", desc := "(II)V" } : Jvm.MethodName)) ∈ TBg := tb_in 318 rfl rfl
set_option maxRecDepth 100000 in
theorem tw_319 : (Jvm.Cond.methodLink "java/lang/StringUTF16" (71 : Nat) ({ cls := "java/lang/StringUTF16", name := "getChar", desc := "([BI)C" } : Jvm.MethodName)) ∈ TBg := tb_in 319 rfl rfl
set_option maxRecDepth 100000 in
theorem tw_320 : (Jvm.Cond.static ({ cls := "java/lang/StringUTF16", name := "getChar", desc := "([BI)C" } : Jvm.MethodName)) ∈ TBg := tb_in 320 rfl rfl
set_option maxRecDepth 100000 in
theorem tw_321 : (Jvm.Cond.code ({ cls := "java/lang/StringUTF16", name := "getChar", desc := "([BI)C" } : Jvm.MethodName) prog_19_method_5_code (2 : Nat) (Option.some Jvm.ClassFile.FieldType.char)) ∈ TBg := tb_in 321 rfl rfl
set_option maxRecDepth 100000 in
theorem tw_322 : (Jvm.Cond.fieldLink "java/lang/StringUTF16" (44 : Nat) "java/lang/StringUTF16" "$assertionsDisabled" "Z") ∈ TBg := tb_in 322 rfl rfl
set_option maxRecDepth 100000 in
theorem tw_324 : (Jvm.Cond.fieldLink "java/lang/StringUTF16" (59 : Nat) "java/lang/StringUTF16" "HI_BYTE_SHIFT" "I") ∈ TBg := tb_in 324 rfl rfl
set_option maxRecDepth 100000 in
theorem tw_326 : (Jvm.Cond.fieldLink "java/lang/StringUTF16" (63 : Nat) "java/lang/StringUTF16" "LO_BYTE_SHIFT" "I") ∈ TBg := tb_in 326 rfl rfl
set_option maxRecDepth 100000 in
theorem tw_328 : (Jvm.Cond.methodLink "WhiteRoads$Lexer" (53 : Nat) ({ cls := "WhiteRoads$Lexer", name := "withLetter", desc := "(JI)J" } : Jvm.MethodName)) ∈ TBg := tb_in 328 rfl rfl
set_option maxRecDepth 100000 in
theorem tw_329 : (Jvm.Cond.static ({ cls := "WhiteRoads$Lexer", name := "withLetter", desc := "(JI)J" } : Jvm.MethodName)) ∈ TBg := tb_in 329 rfl rfl
set_option maxRecDepth 100000 in
theorem tw_330 : (Jvm.Cond.code ({ cls := "WhiteRoads$Lexer", name := "withLetter", desc := "(JI)J" } : Jvm.MethodName) prog_8_method_9_code (3 : Nat) (Option.some Jvm.ClassFile.FieldType.long)) ∈ TBg := tb_in 330 rfl rfl
set_option maxRecDepth 100000 in
theorem tw_331 : (Jvm.Cond.fieldLink "WhiteRoads$Lexer" (11 : Nat) "WhiteRoads$Lexer" "keywordCodes" "[J") ∈ TBg := tb_in 331 rfl rfl
set_option maxRecDepth 100000 in
theorem tw_332 : (Jvm.Cond.fieldLink "WhiteRoads$Lexer" (15 : Nat) "WhiteRoads$Lexer" "text" "[B") ∈ TBg := tb_in 332 rfl rfl
set_option maxRecDepth 100000 in
theorem tw_333 : (Jvm.Cond.fieldLink "WhiteRoads$Lexer" (19 : Nat) "WhiteRoads$Lexer" "length" "I") ∈ TBg := tb_in 333 rfl rfl
set_option maxRecDepth 100000 in
theorem tw_334 : (Jvm.Cond.fieldLink "WhiteRoads$Lexer" (23 : Nat) "WhiteRoads$Lexer" "next" "I") ∈ TBg := tb_in 334 rfl rfl
set_option maxRecDepth 100000 in
theorem tw_335 : (Jvm.Cond.fieldLink "WhiteRoads$Lexer" (26 : Nat) "WhiteRoads$Lexer" "kind" "I") ∈ TBg := tb_in 335 rfl rfl
set_option maxRecDepth 100000 in
theorem tw_336 : (Jvm.Cond.fieldLink "WhiteRoads$Parser" (41 : Nat) "WhiteRoads$Lexer" "kind" "I") ∈ TBg := tb_in 336 rfl rfl
set_option maxRecDepth 100000 in
theorem tw_337 : (Jvm.Cond.fieldLink "WhiteRoads$Lexer" (29 : Nat) "WhiteRoads$Lexer" "place" "I") ∈ TBg := tb_in 337 rfl rfl
set_option maxRecDepth 100000 in
theorem tw_338 : (Jvm.Cond.fieldLink "WhiteRoads$Parser" (79 : Nat) "WhiteRoads$Lexer" "place" "I") ∈ TBg := tb_in 338 rfl rfl
set_option maxRecDepth 100000 in
theorem tw_339 : (Jvm.Cond.fieldLink "WhiteRoads$Lexer" (32 : Nat) "WhiteRoads$Lexer" "value" "I") ∈ TBg := tb_in 339 rfl rfl
set_option maxRecDepth 100000 in
theorem tw_340 : (Jvm.Cond.fieldLink "WhiteRoads$Parser" (200 : Nat) "WhiteRoads$Lexer" "value" "I") ∈ TBg := tb_in 340 rfl rfl
set_option maxRecDepth 100000 in
theorem tw_341 : (Jvm.Cond.fieldLink "WhiteRoads$Lexer" (35 : Nat) "WhiteRoads$Lexer" "code" "J") ∈ TBg := tb_in 341 rfl rfl
set_option maxRecDepth 100000 in
theorem tw_342 : (Jvm.Cond.fieldLink "WhiteRoads$Parser" (197 : Nat) "WhiteRoads$Lexer" "code" "J") ∈ TBg := tb_in 342 rfl rfl
set_option maxRecDepth 100000 in
theorem tw_343 : (Jvm.Cond.fieldLink "WhiteRoads$Lexer" (39 : Nat) "WhiteRoads$Lexer" "keyword" "I") ∈ TBg := tb_in 343 rfl rfl
set_option maxRecDepth 100000 in
theorem tw_344 : (Jvm.Cond.fieldLink "WhiteRoads$Parser" (44 : Nat) "WhiteRoads$Lexer" "keyword" "I") ∈ TBg := tb_in 344 rfl rfl
set_option maxRecDepth 100000 in
theorem tw_345 : (Jvm.Cond.laysFinal "WhiteRoads$Lexer" "WhiteRoads$Lexer" "keywordCodes" "[J") ∈ TBg := tb_in 345 rfl rfl
set_option maxRecDepth 100000 in
theorem tw_347 : (Jvm.Cond.lays "WhiteRoads$Lexer" "WhiteRoads$Lexer" "text" "[B") ∈ TBg := tb_in 347 rfl rfl
set_option maxRecDepth 100000 in
theorem tw_349 : (Jvm.Cond.lays "WhiteRoads$Lexer" "WhiteRoads$Lexer" "length" "I") ∈ TBg := tb_in 349 rfl rfl
set_option maxRecDepth 100000 in
theorem tw_351 : (Jvm.Cond.lays "WhiteRoads$Lexer" "WhiteRoads$Lexer" "next" "I") ∈ TBg := tb_in 351 rfl rfl
set_option maxRecDepth 100000 in
theorem tw_353 : (Jvm.Cond.lays "WhiteRoads$Lexer" "WhiteRoads$Lexer" "kind" "I") ∈ TBg := tb_in 353 rfl rfl
set_option maxRecDepth 100000 in
theorem tw_355 : (Jvm.Cond.lays "WhiteRoads$Lexer" "WhiteRoads$Lexer" "place" "I") ∈ TBg := tb_in 355 rfl rfl
set_option maxRecDepth 100000 in
theorem tw_357 : (Jvm.Cond.lays "WhiteRoads$Lexer" "WhiteRoads$Lexer" "value" "I") ∈ TBg := tb_in 357 rfl rfl
set_option maxRecDepth 100000 in
theorem tw_359 : (Jvm.Cond.lays "WhiteRoads$Lexer" "WhiteRoads$Lexer" "code" "J") ∈ TBg := tb_in 359 rfl rfl
set_option maxRecDepth 100000 in
theorem tw_361 : (Jvm.Cond.lays "WhiteRoads$Lexer" "WhiteRoads$Lexer" "keyword" "I") ∈ TBg := tb_in 361 rfl rfl
set_option maxRecDepth 100000 in
theorem tw_364 : (Jvm.Cond.arrayClass Jvm.ClassFile.FieldType.long) ∈ TBg := tb_in 364 rfl rfl
set_option maxRecDepth 100000 in
theorem tw_365 : (Jvm.Cond.fieldLink "WhiteRoads$Parser" (12 : Nat) "WhiteRoads$Parser" "lexer" "LWhiteRoads$Lexer;") ∈ TBg := tb_in 365 rfl rfl
set_option maxRecDepth 100000 in
theorem tw_366 : (Jvm.Cond.fieldLink "WhiteRoads$Parser" (28 : Nat) "WhiteRoads$Parser" "land" "LWhiteRoads$Land;") ∈ TBg := tb_in 366 rfl rfl
set_option maxRecDepth 100000 in
theorem tw_367 : (Jvm.Cond.fieldLink "WhiteRoads$Parser" (18 : Nat) "WhiteRoads$Parser" "faultNumber" "I") ∈ TBg := tb_in 367 rfl rfl
set_option maxRecDepth 100000 in
theorem tw_368 : (Jvm.Cond.fieldLink "WhiteRoads" (110 : Nat) "WhiteRoads$Parser" "faultNumber" "I") ∈ TBg := tb_in 368 rfl rfl
set_option maxRecDepth 100000 in
theorem tw_369 : (Jvm.Cond.fieldLink "WhiteRoads$Parser" (22 : Nat) "WhiteRoads$Parser" "faultPlace" "I") ∈ TBg := tb_in 369 rfl rfl
set_option maxRecDepth 100000 in
theorem tw_370 : (Jvm.Cond.fieldLink "WhiteRoads" (113 : Nat) "WhiteRoads$Parser" "faultPlace" "I") ∈ TBg := tb_in 370 rfl rfl
set_option maxRecDepth 100000 in
theorem tw_371 : (Jvm.Cond.fieldLink "WhiteRoads$Parser" (25 : Nat) "WhiteRoads$Parser" "valuePlace" "I") ∈ TBg := tb_in 371 rfl rfl
set_option maxRecDepth 100000 in
theorem tw_372 : (Jvm.Cond.laysFinal "WhiteRoads$Parser" "WhiteRoads$Parser" "lexer" "LWhiteRoads$Lexer;") ∈ TBg := tb_in 372 rfl rfl
set_option maxRecDepth 100000 in
theorem tw_374 : (Jvm.Cond.lays "WhiteRoads$Parser" "WhiteRoads$Parser" "land" "LWhiteRoads$Land;") ∈ TBg := tb_in 374 rfl rfl
set_option maxRecDepth 100000 in
theorem tw_376 : (Jvm.Cond.lays "WhiteRoads$Parser" "WhiteRoads$Parser" "faultNumber" "I") ∈ TBg := tb_in 376 rfl rfl
set_option maxRecDepth 100000 in
theorem tw_378 : (Jvm.Cond.lays "WhiteRoads$Parser" "WhiteRoads$Parser" "faultPlace" "I") ∈ TBg := tb_in 378 rfl rfl
set_option maxRecDepth 100000 in
theorem tw_380 : (Jvm.Cond.lays "WhiteRoads$Parser" "WhiteRoads$Parser" "valuePlace" "I") ∈ TBg := tb_in 380 rfl rfl
set_option maxRecDepth 100000 in
theorem tw_383 : (Jvm.Cond.classLink "WhiteRoads" (36 : Nat) "WhiteRoads$Day") ∈ TBg := tb_in 383 rfl rfl
set_option maxRecDepth 100000 in
theorem tw_384 : (Jvm.Cond.instantiable "WhiteRoads$Day" (5 : Nat)) ∈ TBg := tb_in 384 rfl rfl
set_option maxRecDepth 100000 in
theorem tw_385 : (Jvm.Cond.methodLink "WhiteRoads" (38 : Nat) ({ cls := "WhiteRoads$Day", name := "<init>", desc := "(LWhiteRoads$Land;)V" } : Jvm.MethodName)) ∈ TBg := tb_in 385 rfl rfl
set_option maxRecDepth 100000 in
theorem tw_386 : (Jvm.Cond.instanceMethod ({ cls := "WhiteRoads$Day", name := "<init>", desc := "(LWhiteRoads$Land;)V" } : Jvm.MethodName)) ∈ TBg := tb_in 386 rfl rfl
set_option maxRecDepth 100000 in
theorem tw_387 : (Jvm.Cond.code ({ cls := "WhiteRoads$Day", name := "<init>", desc := "(LWhiteRoads$Land;)V" } : Jvm.MethodName) prog_3_method_1_code (3 : Nat) (Option.none : Option Jvm.ClassFile.FieldType)) ∈ TBg := tb_in 387 rfl rfl
set_option maxRecDepth 100000 in
theorem tw_388 : (Jvm.Cond.methodLink "WhiteRoads$Day" (5 : Nat) ({ cls := "java/lang/Object", name := "<init>", desc := "()V" } : Jvm.MethodName)) ∈ TBg := tb_in 388 rfl rfl
set_option maxRecDepth 100000 in
theorem tw_389 : (Jvm.Cond.classLink "WhiteRoads$Day" (1 : Nat) "WhiteRoads$Ground") ∈ TBg := tb_in 389 rfl rfl
set_option maxRecDepth 100000 in
theorem tw_391 : (Jvm.Cond.instantiable "WhiteRoads$Ground" (5 : Nat)) ∈ TBg := tb_in 391 rfl rfl
set_option maxRecDepth 100000 in
theorem tw_393 : (Jvm.Cond.instanceMethod ({ cls := "WhiteRoads$Ground", name := "<init>", desc := "()V" } : Jvm.MethodName)) ∈ TBg := tb_in 393 rfl rfl
set_option maxRecDepth 100000 in
theorem tw_394 : (Jvm.Cond.code ({ cls := "WhiteRoads$Ground", name := "<init>", desc := "()V" } : Jvm.MethodName) prog_6_method_1_code (1 : Nat) (Option.none : Option Jvm.ClassFile.FieldType)) ∈ TBg := tb_in 394 rfl rfl
set_option maxRecDepth 100000 in
theorem tw_395 : (Jvm.Cond.methodLink "WhiteRoads$Ground" (3 : Nat) ({ cls := "java/lang/Object", name := "<init>", desc := "()V" } : Jvm.MethodName)) ∈ TBg := tb_in 395 rfl rfl
set_option maxRecDepth 100000 in
theorem tw_396 : (Jvm.Cond.fieldLink "WhiteRoads$Ground" (9 : Nat) "WhiteRoads$Ground" "warmth" "[I") ∈ TBg := tb_in 396 rfl rfl
set_option maxRecDepth 100000 in
theorem tw_397 : (Jvm.Cond.fieldLink "WhiteRoads$Glasses" (64 : Nat) "WhiteRoads$Ground" "warmth" "[I") ∈ TBg := tb_in 397 rfl rfl
set_option maxRecDepth 100000 in
theorem tw_398 : (Jvm.Cond.fieldLink "WhiteRoads" (179 : Nat) "WhiteRoads$Ground" "warmth" "[I") ∈ TBg := tb_in 398 rfl rfl
set_option maxRecDepth 100000 in
theorem tw_399 : (Jvm.Cond.fieldLink "WhiteRoads$Ground" (15 : Nat) "WhiteRoads$Ground" "water" "I") ∈ TBg := tb_in 399 rfl rfl
set_option maxRecDepth 100000 in
theorem tw_400 : (Jvm.Cond.fieldLink "WhiteRoads" (148 : Nat) "WhiteRoads$Ground" "water" "I") ∈ TBg := tb_in 400 rfl rfl
set_option maxRecDepth 100000 in
theorem tw_401 : (Jvm.Cond.fieldLink "WhiteRoads$Ground" (19 : Nat) "WhiteRoads$Ground" "snow" "I") ∈ TBg := tb_in 401 rfl rfl
set_option maxRecDepth 100000 in
theorem tw_402 : (Jvm.Cond.fieldLink "WhiteRoads$Outlook" (61 : Nat) "WhiteRoads$Ground" "snow" "I") ∈ TBg := tb_in 402 rfl rfl
set_option maxRecDepth 100000 in
theorem tw_403 : (Jvm.Cond.fieldLink "WhiteRoads" (153 : Nat) "WhiteRoads$Ground" "snow" "I") ∈ TBg := tb_in 403 rfl rfl
set_option maxRecDepth 100000 in
theorem tw_404 : (Jvm.Cond.fieldLink "WhiteRoads$Ground" (22 : Nat) "WhiteRoads$Ground" "ice" "I") ∈ TBg := tb_in 404 rfl rfl
set_option maxRecDepth 100000 in
theorem tw_405 : (Jvm.Cond.fieldLink "WhiteRoads" (156 : Nat) "WhiteRoads$Ground" "ice" "I") ∈ TBg := tb_in 405 rfl rfl
set_option maxRecDepth 100000 in
theorem tw_406 : (Jvm.Cond.fieldLink "WhiteRoads$Ground" (25 : Nat) "WhiteRoads$Ground" "salt" "I") ∈ TBg := tb_in 406 rfl rfl
set_option maxRecDepth 100000 in
theorem tw_407 : (Jvm.Cond.fieldLink "WhiteRoads$Outlook" (38 : Nat) "WhiteRoads$Ground" "salt" "I") ∈ TBg := tb_in 407 rfl rfl
set_option maxRecDepth 100000 in
theorem tw_408 : (Jvm.Cond.fieldLink "WhiteRoads$Day" (52 : Nat) "WhiteRoads$Ground" "salt" "I") ∈ TBg := tb_in 408 rfl rfl
set_option maxRecDepth 100000 in
theorem tw_409 : (Jvm.Cond.fieldLink "WhiteRoads" (159 : Nat) "WhiteRoads$Ground" "salt" "I") ∈ TBg := tb_in 409 rfl rfl
set_option maxRecDepth 100000 in
theorem tw_410 : (Jvm.Cond.laysFinal "WhiteRoads$Ground" "WhiteRoads$Ground" "warmth" "[I") ∈ TBg := tb_in 410 rfl rfl
set_option maxRecDepth 100000 in
theorem tw_412 : (Jvm.Cond.lays "WhiteRoads$Ground" "WhiteRoads$Ground" "water" "I") ∈ TBg := tb_in 412 rfl rfl
set_option maxRecDepth 100000 in
theorem tw_414 : (Jvm.Cond.lays "WhiteRoads$Ground" "WhiteRoads$Ground" "snow" "I") ∈ TBg := tb_in 414 rfl rfl
set_option maxRecDepth 100000 in
theorem tw_416 : (Jvm.Cond.lays "WhiteRoads$Ground" "WhiteRoads$Ground" "ice" "I") ∈ TBg := tb_in 416 rfl rfl
set_option maxRecDepth 100000 in
theorem tw_418 : (Jvm.Cond.lays "WhiteRoads$Ground" "WhiteRoads$Ground" "salt" "I") ∈ TBg := tb_in 418 rfl rfl
set_option maxRecDepth 100000 in
theorem tw_421 : (Jvm.Cond.fieldLink "WhiteRoads$Day" (24 : Nat) "WhiteRoads$Day" "land" "LWhiteRoads$Land;") ∈ TBg := tb_in 421 rfl rfl
set_option maxRecDepth 100000 in
theorem tw_422 : (Jvm.Cond.fieldLink "WhiteRoads$Outlook" (18 : Nat) "WhiteRoads$Day" "land" "LWhiteRoads$Land;") ∈ TBg := tb_in 422 rfl rfl
set_option maxRecDepth 100000 in
theorem tw_423 : (Jvm.Cond.fieldLink "WhiteRoads$Planner" (24 : Nat) "WhiteRoads$Day" "land" "LWhiteRoads$Land;") ∈ TBg := tb_in 423 rfl rfl
set_option maxRecDepth 100000 in
theorem tw_424 : (Jvm.Cond.fieldLink "WhiteRoads$Car" (24 : Nat) "WhiteRoads$Day" "land" "LWhiteRoads$Land;") ∈ TBg := tb_in 424 rfl rfl
set_option maxRecDepth 100000 in
theorem tw_425 : (Jvm.Cond.fieldLink "WhiteRoads$Gritter" (35 : Nat) "WhiteRoads$Day" "land" "LWhiteRoads$Land;") ∈ TBg := tb_in 425 rfl rfl
set_option maxRecDepth 100000 in
theorem tw_426 : (Jvm.Cond.fieldLink "WhiteRoads$Day" (11 : Nat) "WhiteRoads$Day" "grounds" "[LWhiteRoads$Ground;") ∈ TBg := tb_in 426 rfl rfl
set_option maxRecDepth 100000 in
theorem tw_427 : (Jvm.Cond.fieldLink "WhiteRoads$Outlook" (30 : Nat) "WhiteRoads$Day" "grounds" "[LWhiteRoads$Ground;") ∈ TBg := tb_in 427 rfl rfl
set_option maxRecDepth 100000 in
theorem tw_428 : (Jvm.Cond.fieldLink "WhiteRoads" (140 : Nat) "WhiteRoads$Day" "grounds" "[LWhiteRoads$Ground;") ∈ TBg := tb_in 428 rfl rfl
set_option maxRecDepth 100000 in
theorem tw_429 : (Jvm.Cond.fieldLink "WhiteRoads$Day" (17 : Nat) "WhiteRoads$Day" "steps" "I") ∈ TBg := tb_in 429 rfl rfl
set_option maxRecDepth 100000 in
theorem tw_430 : (Jvm.Cond.fieldLink "WhiteRoads$Outlook" (46 : Nat) "WhiteRoads$Day" "steps" "I") ∈ TBg := tb_in 430 rfl rfl
set_option maxRecDepth 100000 in
theorem tw_431 : (Jvm.Cond.fieldLink "WhiteRoads" (116 : Nat) "WhiteRoads$Day" "steps" "I") ∈ TBg := tb_in 431 rfl rfl
set_option maxRecDepth 100000 in
theorem tw_432 : (Jvm.Cond.fieldLink "WhiteRoads$Day" (21 : Nat) "WhiteRoads$Day" "slipped" "I") ∈ TBg := tb_in 432 rfl rfl
set_option maxRecDepth 100000 in
theorem tw_433 : (Jvm.Cond.fieldLink "WhiteRoads" (127 : Nat) "WhiteRoads$Day" "slipped" "I") ∈ TBg := tb_in 433 rfl rfl
set_option maxRecDepth 100000 in
theorem tw_434 : (Jvm.Cond.fieldLink "WhiteRoads$Day" (33 : Nat) "WhiteRoads$Day" "stored" "I") ∈ TBg := tb_in 434 rfl rfl
set_option maxRecDepth 100000 in
theorem tw_435 : (Jvm.Cond.fieldLink "WhiteRoads" (133 : Nat) "WhiteRoads$Day" "stored" "I") ∈ TBg := tb_in 435 rfl rfl
set_option maxRecDepth 100000 in
theorem tw_436 : (Jvm.Cond.lays "WhiteRoads$Day" "WhiteRoads$Day" "land" "LWhiteRoads$Land;") ∈ TBg := tb_in 436 rfl rfl
set_option maxRecDepth 100000 in
theorem tw_438 : (Jvm.Cond.laysFinal "WhiteRoads$Day" "WhiteRoads$Day" "grounds" "[LWhiteRoads$Ground;") ∈ TBg := tb_in 438 rfl rfl
set_option maxRecDepth 100000 in
theorem tw_440 : (Jvm.Cond.lays "WhiteRoads$Day" "WhiteRoads$Day" "steps" "I") ∈ TBg := tb_in 440 rfl rfl
set_option maxRecDepth 100000 in
theorem tw_442 : (Jvm.Cond.lays "WhiteRoads$Day" "WhiteRoads$Day" "slipped" "I") ∈ TBg := tb_in 442 rfl rfl
set_option maxRecDepth 100000 in
theorem tw_444 : (Jvm.Cond.lays "WhiteRoads$Day" "WhiteRoads$Day" "stored" "I") ∈ TBg := tb_in 444 rfl rfl
set_option maxRecDepth 100000 in
theorem tw_447 : (Jvm.Cond.classLink "WhiteRoads" (43 : Nat) "WhiteRoads$Outlook") ∈ TBg := tb_in 447 rfl rfl
set_option maxRecDepth 100000 in
theorem tw_448 : (Jvm.Cond.instantiable "WhiteRoads$Outlook" (1 : Nat)) ∈ TBg := tb_in 448 rfl rfl
set_option maxRecDepth 100000 in
theorem tw_450 : (Jvm.Cond.instanceMethod ({ cls := "WhiteRoads$Outlook", name := "<init>", desc := "()V" } : Jvm.MethodName)) ∈ TBg := tb_in 450 rfl rfl
set_option maxRecDepth 100000 in
theorem tw_451 : (Jvm.Cond.code ({ cls := "WhiteRoads$Outlook", name := "<init>", desc := "()V" } : Jvm.MethodName) prog_9_method_1_code (1 : Nat) (Option.none : Option Jvm.ClassFile.FieldType)) ∈ TBg := tb_in 451 rfl rfl
set_option maxRecDepth 100000 in
theorem tw_452 : (Jvm.Cond.methodLink "WhiteRoads$Outlook" (3 : Nat) ({ cls := "java/lang/Object", name := "<init>", desc := "()V" } : Jvm.MethodName)) ∈ TBg := tb_in 452 rfl rfl
set_option maxRecDepth 100000 in
theorem tw_453 : (Jvm.Cond.classLink "WhiteRoads$Outlook" (9 : Nat) "WhiteRoads$Ground") ∈ TBg := tb_in 453 rfl rfl
set_option maxRecDepth 100000 in
theorem tw_455 : (Jvm.Cond.fieldLink "WhiteRoads$Outlook" (12 : Nat) "WhiteRoads$Outlook" "ground" "LWhiteRoads$Ground;") ∈ TBg := tb_in 455 rfl rfl
set_option maxRecDepth 100000 in
theorem tw_456 : (Jvm.Cond.laysFinal "WhiteRoads$Outlook" "WhiteRoads$Outlook" "ground" "LWhiteRoads$Ground;") ∈ TBg := tb_in 456 rfl rfl
set_option maxRecDepth 100000 in
theorem tw_459 : (Jvm.Cond.classLink "WhiteRoads" (50 : Nat) "WhiteRoads$Planner") ∈ TBg := tb_in 459 rfl rfl
set_option maxRecDepth 100000 in
theorem tw_460 : (Jvm.Cond.instantiable "WhiteRoads$Planner" (4 : Nat)) ∈ TBg := tb_in 460 rfl rfl
set_option maxRecDepth 100000 in
theorem tw_462 : (Jvm.Cond.instanceMethod ({ cls := "WhiteRoads$Planner", name := "<init>", desc := "()V" } : Jvm.MethodName)) ∈ TBg := tb_in 462 rfl rfl
set_option maxRecDepth 100000 in
theorem tw_463 : (Jvm.Cond.code ({ cls := "WhiteRoads$Planner", name := "<init>", desc := "()V" } : Jvm.MethodName) prog_11_method_1_code (1 : Nat) (Option.none : Option Jvm.ClassFile.FieldType)) ∈ TBg := tb_in 463 rfl rfl
set_option maxRecDepth 100000 in
theorem tw_464 : (Jvm.Cond.methodLink "WhiteRoads$Planner" (3 : Nat) ({ cls := "java/lang/Object", name := "<init>", desc := "()V" } : Jvm.MethodName)) ∈ TBg := tb_in 464 rfl rfl
set_option maxRecDepth 100000 in
theorem tw_465 : (Jvm.Cond.fieldLink "WhiteRoads$Planner" (9 : Nat) "WhiteRoads$Planner" "yardBits" "I") ∈ TBg := tb_in 465 rfl rfl
set_option maxRecDepth 100000 in
theorem tw_466 : (Jvm.Cond.fieldLink "WhiteRoads$Planner" (15 : Nat) "WhiteRoads$Planner" "slipBits" "I") ∈ TBg := tb_in 466 rfl rfl
set_option maxRecDepth 100000 in
theorem tw_467 : (Jvm.Cond.fieldLink "WhiteRoads$Planner" (18 : Nat) "WhiteRoads$Planner" "bestStep" "I") ∈ TBg := tb_in 467 rfl rfl
set_option maxRecDepth 100000 in
theorem tw_468 : (Jvm.Cond.fieldLink "WhiteRoads" (226 : Nat) "WhiteRoads$Planner" "bestStep" "I") ∈ TBg := tb_in 468 rfl rfl
set_option maxRecDepth 100000 in
theorem tw_469 : (Jvm.Cond.fieldLink "WhiteRoads$Planner" (21 : Nat) "WhiteRoads$Planner" "bestCost" "I") ∈ TBg := tb_in 469 rfl rfl
set_option maxRecDepth 100000 in
theorem tw_470 : (Jvm.Cond.fieldLink "WhiteRoads" (229 : Nat) "WhiteRoads$Planner" "bestCost" "I") ∈ TBg := tb_in 470 rfl rfl
set_option maxRecDepth 100000 in
theorem tw_471 : (Jvm.Cond.lays "WhiteRoads$Planner" "WhiteRoads$Planner" "yardBits" "I") ∈ TBg := tb_in 471 rfl rfl
set_option maxRecDepth 100000 in
theorem tw_473 : (Jvm.Cond.lays "WhiteRoads$Planner" "WhiteRoads$Planner" "slipBits" "I") ∈ TBg := tb_in 473 rfl rfl
set_option maxRecDepth 100000 in
theorem tw_475 : (Jvm.Cond.lays "WhiteRoads$Planner" "WhiteRoads$Planner" "bestStep" "I") ∈ TBg := tb_in 475 rfl rfl
set_option maxRecDepth 100000 in
theorem tw_477 : (Jvm.Cond.lays "WhiteRoads$Planner" "WhiteRoads$Planner" "bestCost" "I") ∈ TBg := tb_in 477 rfl rfl
set_option maxRecDepth 100000 in
theorem tw_480 : (Jvm.Cond.classLink "WhiteRoads" (57 : Nat) "WhiteRoads$Gritter") ∈ TBg := tb_in 480 rfl rfl
set_option maxRecDepth 100000 in
theorem tw_481 : (Jvm.Cond.instantiable "WhiteRoads$Gritter" (7 : Nat)) ∈ TBg := tb_in 481 rfl rfl
set_option maxRecDepth 100000 in
theorem tw_483 : (Jvm.Cond.instanceMethod ({ cls := "WhiteRoads$Gritter", name := "<init>", desc := "()V" } : Jvm.MethodName)) ∈ TBg := tb_in 483 rfl rfl
set_option maxRecDepth 100000 in
theorem tw_484 : (Jvm.Cond.code ({ cls := "WhiteRoads$Gritter", name := "<init>", desc := "()V" } : Jvm.MethodName) prog_5_method_1_code (1 : Nat) (Option.none : Option Jvm.ClassFile.FieldType)) ∈ TBg := tb_in 484 rfl rfl
set_option maxRecDepth 100000 in
theorem tw_485 : (Jvm.Cond.methodLink "WhiteRoads$Gritter" (3 : Nat) ({ cls := "java/lang/Object", name := "<init>", desc := "()V" } : Jvm.MethodName)) ∈ TBg := tb_in 485 rfl rfl
set_option maxRecDepth 100000 in
theorem tw_486 : (Jvm.Cond.fieldLink "WhiteRoads$Gritter" (9 : Nat) "WhiteRoads$Gritter" "minutes" "[I") ∈ TBg := tb_in 486 rfl rfl
set_option maxRecDepth 100000 in
theorem tw_487 : (Jvm.Cond.fieldLink "WhiteRoads$Gritter" (15 : Nat) "WhiteRoads$Gritter" "found" "[B") ∈ TBg := tb_in 487 rfl rfl
set_option maxRecDepth 100000 in
theorem tw_488 : (Jvm.Cond.fieldLink "WhiteRoads$Gritter" (19 : Nat) "WhiteRoads$Gritter" "order" "[I") ∈ TBg := tb_in 488 rfl rfl
set_option maxRecDepth 100000 in
theorem tw_489 : (Jvm.Cond.fieldLink "WhiteRoads$Gritter" (22 : Nat) "WhiteRoads$Gritter" "best" "[I") ∈ TBg := tb_in 489 rfl rfl
set_option maxRecDepth 100000 in
theorem tw_490 : (Jvm.Cond.fieldLink "WhiteRoads" (245 : Nat) "WhiteRoads$Gritter" "best" "[I") ∈ TBg := tb_in 490 rfl rfl
set_option maxRecDepth 100000 in
theorem tw_491 : (Jvm.Cond.fieldLink "WhiteRoads$Gritter" (25 : Nat) "WhiteRoads$Gritter" "count" "I") ∈ TBg := tb_in 491 rfl rfl
set_option maxRecDepth 100000 in
theorem tw_492 : (Jvm.Cond.fieldLink "WhiteRoads" (242 : Nat) "WhiteRoads$Gritter" "count" "I") ∈ TBg := tb_in 492 rfl rfl
set_option maxRecDepth 100000 in
theorem tw_493 : (Jvm.Cond.fieldLink "WhiteRoads$Gritter" (29 : Nat) "WhiteRoads$Gritter" "fewestWhite" "I") ∈ TBg := tb_in 493 rfl rfl
set_option maxRecDepth 100000 in
theorem tw_494 : (Jvm.Cond.fieldLink "WhiteRoads" (236 : Nat) "WhiteRoads$Gritter" "fewestWhite" "I") ∈ TBg := tb_in 494 rfl rfl
set_option maxRecDepth 100000 in
theorem tw_495 : (Jvm.Cond.fieldLink "WhiteRoads$Gritter" (32 : Nat) "WhiteRoads$Gritter" "fewestMinutes" "I") ∈ TBg := tb_in 495 rfl rfl
set_option maxRecDepth 100000 in
theorem tw_496 : (Jvm.Cond.fieldLink "WhiteRoads" (239 : Nat) "WhiteRoads$Gritter" "fewestMinutes" "I") ∈ TBg := tb_in 496 rfl rfl
set_option maxRecDepth 100000 in
theorem tw_497 : (Jvm.Cond.laysFinal "WhiteRoads$Gritter" "WhiteRoads$Gritter" "minutes" "[I") ∈ TBg := tb_in 497 rfl rfl
set_option maxRecDepth 100000 in
theorem tw_499 : (Jvm.Cond.laysFinal "WhiteRoads$Gritter" "WhiteRoads$Gritter" "found" "[B") ∈ TBg := tb_in 499 rfl rfl
set_option maxRecDepth 100000 in
theorem tw_501 : (Jvm.Cond.laysFinal "WhiteRoads$Gritter" "WhiteRoads$Gritter" "order" "[I") ∈ TBg := tb_in 501 rfl rfl
set_option maxRecDepth 100000 in
theorem tw_503 : (Jvm.Cond.laysFinal "WhiteRoads$Gritter" "WhiteRoads$Gritter" "best" "[I") ∈ TBg := tb_in 503 rfl rfl
set_option maxRecDepth 100000 in
theorem tw_505 : (Jvm.Cond.lays "WhiteRoads$Gritter" "WhiteRoads$Gritter" "count" "I") ∈ TBg := tb_in 505 rfl rfl
set_option maxRecDepth 100000 in
theorem tw_507 : (Jvm.Cond.lays "WhiteRoads$Gritter" "WhiteRoads$Gritter" "fewestWhite" "I") ∈ TBg := tb_in 507 rfl rfl
set_option maxRecDepth 100000 in
theorem tw_509 : (Jvm.Cond.lays "WhiteRoads$Gritter" "WhiteRoads$Gritter" "fewestMinutes" "I") ∈ TBg := tb_in 509 rfl rfl
set_option maxRecDepth 100000 in
theorem tw_512 : (Jvm.Cond.classLink "WhiteRoads" (64 : Nat) "WhiteRoads$Car") ∈ TBg := tb_in 512 rfl rfl
set_option maxRecDepth 100000 in
theorem tw_513 : (Jvm.Cond.instantiable "WhiteRoads$Car" (2 : Nat)) ∈ TBg := tb_in 513 rfl rfl
set_option maxRecDepth 100000 in
theorem tw_515 : (Jvm.Cond.instanceMethod ({ cls := "WhiteRoads$Car", name := "<init>", desc := "()V" } : Jvm.MethodName)) ∈ TBg := tb_in 515 rfl rfl
set_option maxRecDepth 100000 in
theorem tw_516 : (Jvm.Cond.code ({ cls := "WhiteRoads$Car", name := "<init>", desc := "()V" } : Jvm.MethodName) prog_2_method_1_code (1 : Nat) (Option.none : Option Jvm.ClassFile.FieldType)) ∈ TBg := tb_in 516 rfl rfl
set_option maxRecDepth 100000 in
theorem tw_517 : (Jvm.Cond.methodLink "WhiteRoads$Car" (3 : Nat) ({ cls := "java/lang/Object", name := "<init>", desc := "()V" } : Jvm.MethodName)) ∈ TBg := tb_in 517 rfl rfl
set_option maxRecDepth 100000 in
theorem tw_518 : (Jvm.Cond.fieldLink "WhiteRoads$Car" (9 : Nat) "WhiteRoads$Car" "blocked" "[I") ∈ TBg := tb_in 518 rfl rfl
set_option maxRecDepth 100000 in
theorem tw_519 : (Jvm.Cond.fieldLink "WhiteRoads$Car" (15 : Nat) "WhiteRoads$Car" "there" "[I") ∈ TBg := tb_in 519 rfl rfl
set_option maxRecDepth 100000 in
theorem tw_520 : (Jvm.Cond.laysFinal "WhiteRoads$Car" "WhiteRoads$Car" "blocked" "[I") ∈ TBg := tb_in 520 rfl rfl
set_option maxRecDepth 100000 in
theorem tw_522 : (Jvm.Cond.laysFinal "WhiteRoads$Car" "WhiteRoads$Car" "there" "[I") ∈ TBg := tb_in 522 rfl rfl
set_option maxRecDepth 100000 in
theorem tw_525 : (Jvm.Cond.classLink "WhiteRoads" (71 : Nat) "WhiteRoads$Glasses") ∈ TBg := tb_in 525 rfl rfl
set_option maxRecDepth 100000 in
theorem tw_526 : (Jvm.Cond.instantiable "WhiteRoads$Glasses" (9 : Nat)) ∈ TBg := tb_in 526 rfl rfl
set_option maxRecDepth 100000 in
theorem tw_528 : (Jvm.Cond.instanceMethod ({ cls := "WhiteRoads$Glasses", name := "<init>", desc := "()V" } : Jvm.MethodName)) ∈ TBg := tb_in 528 rfl rfl
set_option maxRecDepth 100000 in
theorem tw_529 : (Jvm.Cond.code ({ cls := "WhiteRoads$Glasses", name := "<init>", desc := "()V" } : Jvm.MethodName) prog_4_method_1_code (1 : Nat) (Option.none : Option Jvm.ClassFile.FieldType)) ∈ TBg := tb_in 529 rfl rfl
set_option maxRecDepth 100000 in
theorem tw_530 : (Jvm.Cond.methodLink "WhiteRoads$Glasses" (3 : Nat) ({ cls := "java/lang/Object", name := "<init>", desc := "()V" } : Jvm.MethodName)) ∈ TBg := tb_in 530 rfl rfl
set_option maxRecDepth 100000 in
theorem tw_531 : (Jvm.Cond.classLink "WhiteRoads$Glasses" (25 : Nat) "WhiteRoads$Ground") ∈ TBg := tb_in 531 rfl rfl
set_option maxRecDepth 100000 in
theorem tw_533 : (Jvm.Cond.fieldLink "WhiteRoads$Glasses" (9 : Nat) "WhiteRoads$Glasses" "toldAt" "[I") ∈ TBg := tb_in 533 rfl rfl
set_option maxRecDepth 100000 in
theorem tw_534 : (Jvm.Cond.fieldLink "WhiteRoads$Glasses" (15 : Nat) "WhiteRoads$Glasses" "untoldAt" "[I") ∈ TBg := tb_in 534 rfl rfl
set_option maxRecDepth 100000 in
theorem tw_535 : (Jvm.Cond.fieldLink "WhiteRoads$Glasses" (18 : Nat) "WhiteRoads$Glasses" "fitting" "[I") ∈ TBg := tb_in 535 rfl rfl
set_option maxRecDepth 100000 in
theorem tw_536 : (Jvm.Cond.fieldLink "WhiteRoads$Glasses" (21 : Nat) "WhiteRoads$Glasses" "count" "I") ∈ TBg := tb_in 536 rfl rfl
set_option maxRecDepth 100000 in
theorem tw_537 : (Jvm.Cond.fieldLink "WhiteRoads" (255 : Nat) "WhiteRoads$Glasses" "count" "I") ∈ TBg := tb_in 537 rfl rfl
set_option maxRecDepth 100000 in
theorem tw_538 : (Jvm.Cond.fieldLink "WhiteRoads$Glasses" (28 : Nat) "WhiteRoads$Glasses" "ground" "LWhiteRoads$Ground;") ∈ TBg := tb_in 538 rfl rfl
set_option maxRecDepth 100000 in
theorem tw_539 : (Jvm.Cond.fieldLink "WhiteRoads$Glasses" (32 : Nat) "WhiteRoads$Glasses" "warmths" "[I") ∈ TBg := tb_in 539 rfl rfl
set_option maxRecDepth 100000 in
theorem tw_540 : (Jvm.Cond.fieldLink "WhiteRoads$Glasses" (35 : Nat) "WhiteRoads$Glasses" "chosenYard" "I") ∈ TBg := tb_in 540 rfl rfl
set_option maxRecDepth 100000 in
theorem tw_541 : (Jvm.Cond.fieldLink "WhiteRoads" (280 : Nat) "WhiteRoads$Glasses" "chosenYard" "I") ∈ TBg := tb_in 541 rfl rfl
set_option maxRecDepth 100000 in
theorem tw_542 : (Jvm.Cond.fieldLink "WhiteRoads$Glasses" (38 : Nat) "WhiteRoads$Glasses" "chosenLayer" "I") ∈ TBg := tb_in 542 rfl rfl
set_option maxRecDepth 100000 in
theorem tw_543 : (Jvm.Cond.fieldLink "WhiteRoads" (283 : Nat) "WhiteRoads$Glasses" "chosenLayer" "I") ∈ TBg := tb_in 543 rfl rfl
set_option maxRecDepth 100000 in
theorem tw_544 : (Jvm.Cond.fieldLink "WhiteRoads$Glasses" (41 : Nat) "WhiteRoads$Glasses" "chosenAlike" "I") ∈ TBg := tb_in 544 rfl rfl
set_option maxRecDepth 100000 in
theorem tw_545 : (Jvm.Cond.fieldLink "WhiteRoads" (286 : Nat) "WhiteRoads$Glasses" "chosenAlike" "I") ∈ TBg := tb_in 545 rfl rfl
set_option maxRecDepth 100000 in
theorem tw_546 : (Jvm.Cond.laysFinal "WhiteRoads$Glasses" "WhiteRoads$Glasses" "toldAt" "[I") ∈ TBg := tb_in 546 rfl rfl
set_option maxRecDepth 100000 in
theorem tw_548 : (Jvm.Cond.laysFinal "WhiteRoads$Glasses" "WhiteRoads$Glasses" "untoldAt" "[I") ∈ TBg := tb_in 548 rfl rfl
set_option maxRecDepth 100000 in
theorem tw_550 : (Jvm.Cond.laysFinal "WhiteRoads$Glasses" "WhiteRoads$Glasses" "fitting" "[I") ∈ TBg := tb_in 550 rfl rfl
set_option maxRecDepth 100000 in
theorem tw_552 : (Jvm.Cond.lays "WhiteRoads$Glasses" "WhiteRoads$Glasses" "count" "I") ∈ TBg := tb_in 552 rfl rfl
set_option maxRecDepth 100000 in
theorem tw_554 : (Jvm.Cond.laysFinal "WhiteRoads$Glasses" "WhiteRoads$Glasses" "ground" "LWhiteRoads$Ground;") ∈ TBg := tb_in 554 rfl rfl
set_option maxRecDepth 100000 in
theorem tw_556 : (Jvm.Cond.laysFinal "WhiteRoads$Glasses" "WhiteRoads$Glasses" "warmths" "[I") ∈ TBg := tb_in 556 rfl rfl
set_option maxRecDepth 100000 in
theorem tw_558 : (Jvm.Cond.lays "WhiteRoads$Glasses" "WhiteRoads$Glasses" "chosenYard" "I") ∈ TBg := tb_in 558 rfl rfl
set_option maxRecDepth 100000 in
theorem tw_560 : (Jvm.Cond.lays "WhiteRoads$Glasses" "WhiteRoads$Glasses" "chosenLayer" "I") ∈ TBg := tb_in 560 rfl rfl
set_option maxRecDepth 100000 in
theorem tw_562 : (Jvm.Cond.lays "WhiteRoads$Glasses" "WhiteRoads$Glasses" "chosenAlike" "I") ∈ TBg := tb_in 562 rfl rfl
set_option maxRecDepth 100000 in
theorem tw_565 : (Jvm.Cond.classLink "WhiteRoads" (81 : Nat) "[[I") ∈ TBg := tb_in 565 rfl rfl
set_option maxRecDepth 100000 in
theorem tw_567 : (Jvm.Cond.fieldLink "WhiteRoads" (9 : Nat) "WhiteRoads" "tape" "[B") ∈ TBg := tb_in 567 rfl rfl
set_option maxRecDepth 100000 in
theorem tw_568 : (Jvm.Cond.fieldLink "WhiteRoads" (13 : Nat) "WhiteRoads" "tapeLength" "I") ∈ TBg := tb_in 568 rfl rfl
set_option maxRecDepth 100000 in
theorem tw_569 : (Jvm.Cond.fieldLink "WhiteRoads" (20 : Nat) "WhiteRoads" "country" "LWhiteRoads$Land;") ∈ TBg := tb_in 569 rfl rfl
set_option maxRecDepth 100000 in
theorem tw_570 : (Jvm.Cond.fieldLink "WhiteRoads" (24 : Nat) "WhiteRoads" "draft" "LWhiteRoads$Land;") ∈ TBg := tb_in 570 rfl rfl
set_option maxRecDepth 100000 in
theorem tw_571 : (Jvm.Cond.fieldLink "WhiteRoads" (32 : Nat) "WhiteRoads" "parser" "LWhiteRoads$Parser;") ∈ TBg := tb_in 571 rfl rfl
set_option maxRecDepth 100000 in
theorem tw_572 : (Jvm.Cond.fieldLink "WhiteRoads" (39 : Nat) "WhiteRoads" "day" "LWhiteRoads$Day;") ∈ TBg := tb_in 572 rfl rfl
set_option maxRecDepth 100000 in
theorem tw_573 : (Jvm.Cond.fieldLink "WhiteRoads" (46 : Nat) "WhiteRoads" "outlook" "LWhiteRoads$Outlook;") ∈ TBg := tb_in 573 rfl rfl
set_option maxRecDepth 100000 in
theorem tw_574 : (Jvm.Cond.fieldLink "WhiteRoads" (53 : Nat) "WhiteRoads" "planner" "LWhiteRoads$Planner;") ∈ TBg := tb_in 574 rfl rfl
set_option maxRecDepth 100000 in
theorem tw_575 : (Jvm.Cond.fieldLink "WhiteRoads" (60 : Nat) "WhiteRoads" "gritter" "LWhiteRoads$Gritter;") ∈ TBg := tb_in 575 rfl rfl
set_option maxRecDepth 100000 in
theorem tw_576 : (Jvm.Cond.fieldLink "WhiteRoads" (67 : Nat) "WhiteRoads" "car" "LWhiteRoads$Car;") ∈ TBg := tb_in 576 rfl rfl
set_option maxRecDepth 100000 in
theorem tw_577 : (Jvm.Cond.fieldLink "WhiteRoads" (74 : Nat) "WhiteRoads" "glasses" "LWhiteRoads$Glasses;") ∈ TBg := tb_in 577 rfl rfl
set_option maxRecDepth 100000 in
theorem tw_578 : (Jvm.Cond.fieldLink "WhiteRoads" (78 : Nat) "WhiteRoads" "time" "I") ∈ TBg := tb_in 578 rfl rfl
set_option maxRecDepth 100000 in
theorem tw_579 : (Jvm.Cond.fieldLink "WhiteRoads" (83 : Nat) "WhiteRoads" "boxes" "[[I") ∈ TBg := tb_in 579 rfl rfl
set_option maxRecDepth 100000 in
theorem tw_580 : (Jvm.Cond.fieldLink "WhiteRoads" (86 : Nat) "WhiteRoads" "kept" "[Z") ∈ TBg := tb_in 580 rfl rfl
set_option maxRecDepth 100000 in
theorem tw_581 : (Jvm.Cond.laysFinal "WhiteRoads" "WhiteRoads" "tape" "[B") ∈ TBg := tb_in 581 rfl rfl
set_option maxRecDepth 100000 in
theorem tw_583 : (Jvm.Cond.lays "WhiteRoads" "WhiteRoads" "tapeLength" "I") ∈ TBg := tb_in 583 rfl rfl
set_option maxRecDepth 100000 in
theorem tw_585 : (Jvm.Cond.lays "WhiteRoads" "WhiteRoads" "country" "LWhiteRoads$Land;") ∈ TBg := tb_in 585 rfl rfl
set_option maxRecDepth 100000 in
theorem tw_587 : (Jvm.Cond.lays "WhiteRoads" "WhiteRoads" "draft" "LWhiteRoads$Land;") ∈ TBg := tb_in 587 rfl rfl
set_option maxRecDepth 100000 in
theorem tw_589 : (Jvm.Cond.laysFinal "WhiteRoads" "WhiteRoads" "parser" "LWhiteRoads$Parser;") ∈ TBg := tb_in 589 rfl rfl
set_option maxRecDepth 100000 in
theorem tw_591 : (Jvm.Cond.laysFinal "WhiteRoads" "WhiteRoads" "day" "LWhiteRoads$Day;") ∈ TBg := tb_in 591 rfl rfl
set_option maxRecDepth 100000 in
theorem tw_593 : (Jvm.Cond.laysFinal "WhiteRoads" "WhiteRoads" "outlook" "LWhiteRoads$Outlook;") ∈ TBg := tb_in 593 rfl rfl
set_option maxRecDepth 100000 in
theorem tw_595 : (Jvm.Cond.laysFinal "WhiteRoads" "WhiteRoads" "planner" "LWhiteRoads$Planner;") ∈ TBg := tb_in 595 rfl rfl
set_option maxRecDepth 100000 in
theorem tw_597 : (Jvm.Cond.laysFinal "WhiteRoads" "WhiteRoads" "gritter" "LWhiteRoads$Gritter;") ∈ TBg := tb_in 597 rfl rfl
set_option maxRecDepth 100000 in
theorem tw_599 : (Jvm.Cond.laysFinal "WhiteRoads" "WhiteRoads" "car" "LWhiteRoads$Car;") ∈ TBg := tb_in 599 rfl rfl
set_option maxRecDepth 100000 in
theorem tw_601 : (Jvm.Cond.laysFinal "WhiteRoads" "WhiteRoads" "glasses" "LWhiteRoads$Glasses;") ∈ TBg := tb_in 601 rfl rfl
set_option maxRecDepth 100000 in
theorem tw_603 : (Jvm.Cond.lays "WhiteRoads" "WhiteRoads" "time" "I") ∈ TBg := tb_in 603 rfl rfl
set_option maxRecDepth 100000 in
theorem tw_605 : (Jvm.Cond.laysFinal "WhiteRoads" "WhiteRoads" "boxes" "[[I") ∈ TBg := tb_in 605 rfl rfl
set_option maxRecDepth 100000 in
theorem tw_607 : (Jvm.Cond.laysFinal "WhiteRoads" "WhiteRoads" "kept" "[Z") ∈ TBg := tb_in 607 rfl rfl
set_option maxRecDepth 100000 in
theorem tw_610 : (Jvm.Cond.arrayClass Jvm.ClassFile.FieldType.boolean) ∈ TBg := tb_in 610 rfl rfl
set_option maxRecDepth 100000 in
theorem tw_611 : (Jvm.Cond.methodLink "WhiteRoadsLaw" (13 : Nat) ({ cls := "WhiteRoads", name := "feed", desc := "(IIIII)I" } : Jvm.MethodName)) ∈ TBg := tb_in 611 rfl rfl
set_option maxRecDepth 100000 in
theorem tw_612 : (Jvm.Cond.instanceMethod ({ cls := "WhiteRoads", name := "feed", desc := "(IIIII)I" } : Jvm.MethodName)) ∈ TBg := tb_in 612 rfl rfl
set_option maxRecDepth 100000 in
theorem tw_613 : (Jvm.Cond.selects "WhiteRoads" ({ cls := "WhiteRoads", name := "feed", desc := "(IIIII)I" } : Jvm.MethodName) ({ cls := "WhiteRoads", name := "feed", desc := "(IIIII)I" } : Jvm.MethodName)) ∈ TBg := tb_in 613 rfl rfl
set_option maxRecDepth 100000 in
theorem tw_614 : (Jvm.Cond.code ({ cls := "WhiteRoads", name := "feed", desc := "(IIIII)I" } : Jvm.MethodName) prog_1_method_2_code (6 : Nat) (Option.some Jvm.ClassFile.FieldType.int)) ∈ TBg := tb_in 614 rfl rfl
set_option maxRecDepth 100000 in
theorem tw_615 : (Jvm.Cond.methodLink "WhiteRoads" (90 : Nat) ({ cls := "WhiteRoads", name := "append", desc := "(I)V" } : Jvm.MethodName)) ∈ TBg := tb_in 615 rfl rfl
set_option maxRecDepth 100000 in
theorem tw_617 : (Jvm.Cond.instanceMethod ({ cls := "WhiteRoads", name := "append", desc := "(I)V" } : Jvm.MethodName)) ∈ TBg := tb_in 617 rfl rfl
set_option maxRecDepth 100000 in
theorem tw_618 : (Jvm.Cond.code ({ cls := "WhiteRoads", name := "append", desc := "(I)V" } : Jvm.MethodName) prog_1_method_28_code (3 : Nat) (Option.none : Option Jvm.ClassFile.FieldType)) ∈ TBg := tb_in 618 rfl rfl
set_option maxRecDepth 100000 in
theorem tw_619 : (Jvm.Cond.methodLink "WhiteRoadsLaw" (18 : Nat) ({ cls := "WhiteRoads", name := "end", desc := "(I)I" } : Jvm.MethodName)) ∈ TBg := tb_in 619 rfl rfl
set_option maxRecDepth 100000 in
theorem tw_620 : (Jvm.Cond.instanceMethod ({ cls := "WhiteRoads", name := "end", desc := "(I)I" } : Jvm.MethodName)) ∈ TBg := tb_in 620 rfl rfl
set_option maxRecDepth 100000 in
theorem tw_621 : (Jvm.Cond.selects "WhiteRoads" ({ cls := "WhiteRoads", name := "end", desc := "(I)I" } : Jvm.MethodName) ({ cls := "WhiteRoads", name := "end", desc := "(I)I" } : Jvm.MethodName)) ∈ TBg := tb_in 621 rfl rfl
set_option maxRecDepth 100000 in
theorem tw_622 : (Jvm.Cond.code ({ cls := "WhiteRoads", name := "end", desc := "(I)I" } : Jvm.MethodName) prog_1_method_3_code (2 : Nat) (Option.some Jvm.ClassFile.FieldType.int)) ∈ TBg := tb_in 622 rfl rfl
set_option maxRecDepth 100000 in
theorem tw_623 : (Jvm.Cond.methodLink "WhiteRoadsLaw" (23 : Nat) ({ cls := "WhiteRoads", name := "land", desc := "()I" } : Jvm.MethodName)) ∈ TBg := tb_in 623 rfl rfl
set_option maxRecDepth 100000 in
theorem tw_624 : (Jvm.Cond.instanceMethod ({ cls := "WhiteRoads", name := "land", desc := "()I" } : Jvm.MethodName)) ∈ TBg := tb_in 624 rfl rfl
set_option maxRecDepth 100000 in
theorem tw_625 : (Jvm.Cond.selects "WhiteRoads" ({ cls := "WhiteRoads", name := "land", desc := "()I" } : Jvm.MethodName) ({ cls := "WhiteRoads", name := "land", desc := "()I" } : Jvm.MethodName)) ∈ TBg := tb_in 625 rfl rfl
set_option maxRecDepth 100000 in
theorem tw_626 : (Jvm.Cond.code ({ cls := "WhiteRoads", name := "land", desc := "()I" } : Jvm.MethodName) prog_1_method_4_code (4 : Nat) (Option.some Jvm.ClassFile.FieldType.int)) ∈ TBg := tb_in 626 rfl rfl
set_option maxRecDepth 100000 in
theorem tw_627 : (Jvm.Cond.methodLink "WhiteRoads" (94 : Nat) ({ cls := "WhiteRoads$Parser", name := "parse", desc := "([BILWhiteRoads$Land;)Z" } : Jvm.MethodName)) ∈ TBg := tb_in 627 rfl rfl
set_option maxRecDepth 100000 in
theorem tw_628 : (Jvm.Cond.instanceMethod ({ cls := "WhiteRoads$Parser", name := "parse", desc := "([BILWhiteRoads$Land;)Z" } : Jvm.MethodName)) ∈ TBg := tb_in 628 rfl rfl
set_option maxRecDepth 100000 in
theorem tw_629 : (Jvm.Cond.selects "WhiteRoads$Parser" ({ cls := "WhiteRoads$Parser", name := "parse", desc := "([BILWhiteRoads$Land;)Z" } : Jvm.MethodName) ({ cls := "WhiteRoads$Parser", name := "parse", desc := "([BILWhiteRoads$Land;)Z" } : Jvm.MethodName)) ∈ TBg := tb_in 629 rfl rfl
set_option maxRecDepth 100000 in
theorem tw_630 : (Jvm.Cond.code ({ cls := "WhiteRoads$Parser", name := "parse", desc := "([BILWhiteRoads$Land;)Z" } : Jvm.MethodName) prog_10_method_2_code (5 : Nat) (Option.some Jvm.ClassFile.FieldType.boolean)) ∈ TBg := tb_in 630 rfl rfl
set_option maxRecDepth 100000 in
theorem tw_631 : (Jvm.Cond.methodLink "WhiteRoads$Parser" (32 : Nat) ({ cls := "WhiteRoads$Land", name := "clear", desc := "()V" } : Jvm.MethodName)) ∈ TBg := tb_in 631 rfl rfl
set_option maxRecDepth 100000 in
theorem tw_632 : (Jvm.Cond.methodLink "WhiteRoads$Parser" (37 : Nat) ({ cls := "WhiteRoads$Lexer", name := "begin", desc := "([BI)V" } : Jvm.MethodName)) ∈ TBg := tb_in 632 rfl rfl
set_option maxRecDepth 100000 in
theorem tw_633 : (Jvm.Cond.instanceMethod ({ cls := "WhiteRoads$Lexer", name := "begin", desc := "([BI)V" } : Jvm.MethodName)) ∈ TBg := tb_in 633 rfl rfl
set_option maxRecDepth 100000 in
theorem tw_634 : (Jvm.Cond.selects "WhiteRoads$Lexer" ({ cls := "WhiteRoads$Lexer", name := "begin", desc := "([BI)V" } : Jvm.MethodName) ({ cls := "WhiteRoads$Lexer", name := "begin", desc := "([BI)V" } : Jvm.MethodName)) ∈ TBg := tb_in 634 rfl rfl
set_option maxRecDepth 100000 in
theorem tw_635 : (Jvm.Cond.code ({ cls := "WhiteRoads$Lexer", name := "begin", desc := "([BI)V" } : Jvm.MethodName) prog_8_method_2_code (3 : Nat) (Option.none : Option Jvm.ClassFile.FieldType)) ∈ TBg := tb_in 635 rfl rfl
set_option maxRecDepth 100000 in
theorem tw_636 : (Jvm.Cond.methodLink "WhiteRoads$Lexer" (57 : Nat) ({ cls := "java/lang/Math", name := "min", desc := "(II)I" } : Jvm.MethodName)) ∈ TBg := tb_in 636 rfl rfl
set_option maxRecDepth 100000 in
theorem tw_637 : (Jvm.Cond.static ({ cls := "java/lang/Math", name := "min", desc := "(II)I" } : Jvm.MethodName)) ∈ TBg := tb_in 637 rfl rfl
set_option maxRecDepth 100000 in
theorem tw_638 : (Jvm.Cond.code ({ cls := "java/lang/Math", name := "min", desc := "(II)I" } : Jvm.MethodName) prog_16_method_69_code (2 : Nat) (Option.some Jvm.ClassFile.FieldType.int)) ∈ TBg := tb_in 638 rfl rfl
set_option maxRecDepth 100000 in
theorem tw_639 : (Jvm.Cond.methodLink "WhiteRoads$Lexer" (63 : Nat) ({ cls := "WhiteRoads$Lexer", name := "advance", desc := "()V" } : Jvm.MethodName)) ∈ TBg := tb_in 639 rfl rfl
set_option maxRecDepth 100000 in
theorem tw_640 : (Jvm.Cond.instanceMethod ({ cls := "WhiteRoads$Lexer", name := "advance", desc := "()V" } : Jvm.MethodName)) ∈ TBg := tb_in 640 rfl rfl
set_option maxRecDepth 100000 in
theorem tw_641 : (Jvm.Cond.selects "WhiteRoads$Lexer" ({ cls := "WhiteRoads$Lexer", name := "advance", desc := "()V" } : Jvm.MethodName) ({ cls := "WhiteRoads$Lexer", name := "advance", desc := "()V" } : Jvm.MethodName)) ∈ TBg := tb_in 641 rfl rfl
set_option maxRecDepth 100000 in
theorem tw_642 : (Jvm.Cond.code ({ cls := "WhiteRoads$Lexer", name := "advance", desc := "()V" } : Jvm.MethodName) prog_8_method_3_code (1 : Nat) (Option.none : Option Jvm.ClassFile.FieldType)) ∈ TBg := tb_in 642 rfl rfl
set_option maxRecDepth 100000 in
theorem tw_643 : (Jvm.Cond.methodLink "WhiteRoads$Lexer" (66 : Nat) ({ cls := "WhiteRoads$Lexer", name := "isLetter", desc := "(I)Z" } : Jvm.MethodName)) ∈ TBg := tb_in 643 rfl rfl
set_option maxRecDepth 100000 in
theorem tw_644 : (Jvm.Cond.static ({ cls := "WhiteRoads$Lexer", name := "isLetter", desc := "(I)Z" } : Jvm.MethodName)) ∈ TBg := tb_in 644 rfl rfl
set_option maxRecDepth 100000 in
theorem tw_645 : (Jvm.Cond.code ({ cls := "WhiteRoads$Lexer", name := "isLetter", desc := "(I)Z" } : Jvm.MethodName) prog_8_method_7_code (1 : Nat) (Option.some Jvm.ClassFile.FieldType.boolean)) ∈ TBg := tb_in 645 rfl rfl
set_option maxRecDepth 100000 in
theorem tw_646 : (Jvm.Cond.methodLink "WhiteRoads$Lexer" (70 : Nat) ({ cls := "WhiteRoads$Lexer", name := "scanWord", desc := "()V" } : Jvm.MethodName)) ∈ TBg := tb_in 646 rfl rfl
set_option maxRecDepth 100000 in
theorem tw_648 : (Jvm.Cond.instanceMethod ({ cls := "WhiteRoads$Lexer", name := "scanWord", desc := "()V" } : Jvm.MethodName)) ∈ TBg := tb_in 648 rfl rfl
set_option maxRecDepth 100000 in
theorem tw_649 : (Jvm.Cond.code ({ cls := "WhiteRoads$Lexer", name := "scanWord", desc := "()V" } : Jvm.MethodName) prog_8_method_4_code (1 : Nat) (Option.none : Option Jvm.ClassFile.FieldType)) ∈ TBg := tb_in 649 rfl rfl
set_option maxRecDepth 100000 in
theorem tw_650 : (Jvm.Cond.methodLink "WhiteRoads$Lexer" (79 : Nat) ({ cls := "WhiteRoads$Lexer", name := "keywordWith", desc := "(J)I" } : Jvm.MethodName)) ∈ TBg := tb_in 650 rfl rfl
set_option maxRecDepth 100000 in
theorem tw_652 : (Jvm.Cond.instanceMethod ({ cls := "WhiteRoads$Lexer", name := "keywordWith", desc := "(J)I" } : Jvm.MethodName)) ∈ TBg := tb_in 652 rfl rfl
set_option maxRecDepth 100000 in
theorem tw_653 : (Jvm.Cond.code ({ cls := "WhiteRoads$Lexer", name := "keywordWith", desc := "(J)I" } : Jvm.MethodName) prog_8_method_6_code (4 : Nat) (Option.some Jvm.ClassFile.FieldType.int)) ∈ TBg := tb_in 653 rfl rfl
set_option maxRecDepth 100000 in
theorem tw_654 : (Jvm.Cond.methodLink "WhiteRoads$Lexer" (73 : Nat) ({ cls := "WhiteRoads$Lexer", name := "isDigit", desc := "(I)Z" } : Jvm.MethodName)) ∈ TBg := tb_in 654 rfl rfl
set_option maxRecDepth 100000 in
theorem tw_655 : (Jvm.Cond.static ({ cls := "WhiteRoads$Lexer", name := "isDigit", desc := "(I)Z" } : Jvm.MethodName)) ∈ TBg := tb_in 655 rfl rfl
set_option maxRecDepth 100000 in
theorem tw_656 : (Jvm.Cond.code ({ cls := "WhiteRoads$Lexer", name := "isDigit", desc := "(I)Z" } : Jvm.MethodName) prog_8_method_8_code (1 : Nat) (Option.some Jvm.ClassFile.FieldType.boolean)) ∈ TBg := tb_in 656 rfl rfl
set_option maxRecDepth 100000 in
theorem tw_657 : (Jvm.Cond.methodLink "WhiteRoads$Lexer" (76 : Nat) ({ cls := "WhiteRoads$Lexer", name := "scanNumber", desc := "()V" } : Jvm.MethodName)) ∈ TBg := tb_in 657 rfl rfl
set_option maxRecDepth 100000 in
theorem tw_659 : (Jvm.Cond.instanceMethod ({ cls := "WhiteRoads$Lexer", name := "scanNumber", desc := "()V" } : Jvm.MethodName)) ∈ TBg := tb_in 659 rfl rfl
set_option maxRecDepth 100000 in
theorem tw_660 : (Jvm.Cond.code ({ cls := "WhiteRoads$Lexer", name := "scanNumber", desc := "()V" } : Jvm.MethodName) prog_8_method_5_code (2 : Nat) (Option.none : Option Jvm.ClassFile.FieldType)) ∈ TBg := tb_in 660 rfl rfl
set_option maxRecDepth 100000 in
theorem tw_661 : (Jvm.Cond.methodLink "WhiteRoads$Parser" (47 : Nat) ({ cls := "WhiteRoads$Parser", name := "parseYard", desc := "()V" } : Jvm.MethodName)) ∈ TBg := tb_in 661 rfl rfl
set_option maxRecDepth 100000 in
theorem tw_663 : (Jvm.Cond.instanceMethod ({ cls := "WhiteRoads$Parser", name := "parseYard", desc := "()V" } : Jvm.MethodName)) ∈ TBg := tb_in 663 rfl rfl
set_option maxRecDepth 100000 in
theorem tw_664 : (Jvm.Cond.code ({ cls := "WhiteRoads$Parser", name := "parseYard", desc := "()V" } : Jvm.MethodName) prog_10_method_3_code (3 : Nat) (Option.none : Option Jvm.ClassFile.FieldType)) ∈ TBg := tb_in 664 rfl rfl
set_option maxRecDepth 100000 in
theorem tw_665 : (Jvm.Cond.methodLink "WhiteRoads$Parser" (63 : Nat) ({ cls := "WhiteRoads$Parser", name := "refuseToken", desc := "()V" } : Jvm.MethodName)) ∈ TBg := tb_in 665 rfl rfl
set_option maxRecDepth 100000 in
theorem tw_667 : (Jvm.Cond.instanceMethod ({ cls := "WhiteRoads$Parser", name := "refuseToken", desc := "()V" } : Jvm.MethodName)) ∈ TBg := tb_in 667 rfl rfl
set_option maxRecDepth 100000 in
theorem tw_668 : (Jvm.Cond.code ({ cls := "WhiteRoads$Parser", name := "refuseToken", desc := "()V" } : Jvm.MethodName) prog_10_method_17_code (1 : Nat) (Option.none : Option Jvm.ClassFile.FieldType)) ∈ TBg := tb_in 668 rfl rfl
set_option maxRecDepth 100000 in
theorem tw_669 : (Jvm.Cond.methodLink "WhiteRoads$Parser" (96 : Nat) ({ cls := "WhiteRoads$Parser", name := "refuse", desc := "(II)V" } : Jvm.MethodName)) ∈ TBg := tb_in 669 rfl rfl
set_option maxRecDepth 100000 in
theorem tw_671 : (Jvm.Cond.instanceMethod ({ cls := "WhiteRoads$Parser", name := "refuse", desc := "(II)V" } : Jvm.MethodName)) ∈ TBg := tb_in 671 rfl rfl
set_option maxRecDepth 100000 in
theorem tw_672 : (Jvm.Cond.code ({ cls := "WhiteRoads$Parser", name := "refuse", desc := "(II)V" } : Jvm.MethodName) prog_10_method_18_code (3 : Nat) (Option.none : Option Jvm.ClassFile.FieldType)) ∈ TBg := tb_in 672 rfl rfl
set_option maxRecDepth 100000 in
theorem tw_673 : (Jvm.Cond.methodLink "WhiteRoads$Parser" (76 : Nat) ({ cls := "WhiteRoads$Lexer", name := "advance", desc := "()V" } : Jvm.MethodName)) ∈ TBg := tb_in 673 rfl rfl
set_option maxRecDepth 100000 in
theorem tw_674 : (Jvm.Cond.methodLink "WhiteRoads$Parser" (82 : Nat) ({ cls := "WhiteRoads$Parser", name := "takeName", desc := "()J" } : Jvm.MethodName)) ∈ TBg := tb_in 674 rfl rfl
set_option maxRecDepth 100000 in
theorem tw_676 : (Jvm.Cond.instanceMethod ({ cls := "WhiteRoads$Parser", name := "takeName", desc := "()J" } : Jvm.MethodName)) ∈ TBg := tb_in 676 rfl rfl
set_option maxRecDepth 100000 in
theorem tw_677 : (Jvm.Cond.code ({ cls := "WhiteRoads$Parser", name := "takeName", desc := "()J" } : Jvm.MethodName) prog_10_method_12_code (3 : Nat) (Option.some Jvm.ClassFile.FieldType.long)) ∈ TBg := tb_in 677 rfl rfl
set_option maxRecDepth 100000 in
theorem tw_678 : (Jvm.Cond.methodLink "WhiteRoads$Parser" (92 : Nat) ({ cls := "WhiteRoads$Land", name := "yardNamed", desc := "(J)I" } : Jvm.MethodName)) ∈ TBg := tb_in 678 rfl rfl
set_option maxRecDepth 100000 in
theorem tw_679 : (Jvm.Cond.instanceMethod ({ cls := "WhiteRoads$Land", name := "yardNamed", desc := "(J)I" } : Jvm.MethodName)) ∈ TBg := tb_in 679 rfl rfl
set_option maxRecDepth 100000 in
theorem tw_680 : (Jvm.Cond.selects "WhiteRoads$Land" ({ cls := "WhiteRoads$Land", name := "yardNamed", desc := "(J)I" } : Jvm.MethodName) ({ cls := "WhiteRoads$Land", name := "yardNamed", desc := "(J)I" } : Jvm.MethodName)) ∈ TBg := tb_in 680 rfl rfl
set_option maxRecDepth 100000 in
theorem tw_681 : (Jvm.Cond.code ({ cls := "WhiteRoads$Land", name := "yardNamed", desc := "(J)I" } : Jvm.MethodName) prog_7_method_3_code (4 : Nat) (Option.some Jvm.ClassFile.FieldType.int)) ∈ TBg := tb_in 681 rfl rfl
set_option maxRecDepth 100000 in
theorem tw_682 : (Jvm.Cond.methodLink "WhiteRoads$Parser" (100 : Nat) ({ cls := "WhiteRoads$Parser", name := "takeSort", desc := "()I" } : Jvm.MethodName)) ∈ TBg := tb_in 682 rfl rfl
set_option maxRecDepth 100000 in
theorem tw_684 : (Jvm.Cond.instanceMethod ({ cls := "WhiteRoads$Parser", name := "takeSort", desc := "()I" } : Jvm.MethodName)) ∈ TBg := tb_in 684 rfl rfl
set_option maxRecDepth 100000 in
theorem tw_685 : (Jvm.Cond.code ({ cls := "WhiteRoads$Parser", name := "takeSort", desc := "()I" } : Jvm.MethodName) prog_10_method_11_code (2 : Nat) (Option.some Jvm.ClassFile.FieldType.int)) ∈ TBg := tb_in 685 rfl rfl
set_option maxRecDepth 100000 in
theorem tw_686 : (Jvm.Cond.methodLink "WhiteRoads$Parser" (107 : Nat) ({ cls := "WhiteRoads$Parser", name := "takeKeyword", desc := "(I)V" } : Jvm.MethodName)) ∈ TBg := tb_in 686 rfl rfl
set_option maxRecDepth 100000 in
theorem tw_688 : (Jvm.Cond.instanceMethod ({ cls := "WhiteRoads$Parser", name := "takeKeyword", desc := "(I)V" } : Jvm.MethodName)) ∈ TBg := tb_in 688 rfl rfl
set_option maxRecDepth 100000 in
theorem tw_689 : (Jvm.Cond.code ({ cls := "WhiteRoads$Parser", name := "takeKeyword", desc := "(I)V" } : Jvm.MethodName) prog_10_method_10_code (2 : Nat) (Option.none : Option Jvm.ClassFile.FieldType)) ∈ TBg := tb_in 689 rfl rfl
set_option maxRecDepth 100000 in
theorem tw_690 : (Jvm.Cond.methodLink "WhiteRoads$Parser" (110 : Nat) ({ cls := "WhiteRoads$Parser", name := "takeNumber", desc := "(II)I" } : Jvm.MethodName)) ∈ TBg := tb_in 690 rfl rfl
set_option maxRecDepth 100000 in
theorem tw_692 : (Jvm.Cond.instanceMethod ({ cls := "WhiteRoads$Parser", name := "takeNumber", desc := "(II)I" } : Jvm.MethodName)) ∈ TBg := tb_in 692 rfl rfl
set_option maxRecDepth 100000 in
theorem tw_693 : (Jvm.Cond.code ({ cls := "WhiteRoads$Parser", name := "takeNumber", desc := "(II)I" } : Jvm.MethodName) prog_10_method_14_code (4 : Nat) (Option.some Jvm.ClassFile.FieldType.int)) ∈ TBg := tb_in 693 rfl rfl
set_option maxRecDepth 100000 in
theorem tw_694 : (Jvm.Cond.methodLink "WhiteRoads$Parser" (120 : Nat) ({ cls := "WhiteRoads$Parser", name := "parseLayers", desc := "(LWhiteRoads$Told;)V" } : Jvm.MethodName)) ∈ TBg := tb_in 694 rfl rfl
set_option maxRecDepth 100000 in
theorem tw_696 : (Jvm.Cond.instanceMethod ({ cls := "WhiteRoads$Parser", name := "parseLayers", desc := "(LWhiteRoads$Told;)V" } : Jvm.MethodName)) ∈ TBg := tb_in 696 rfl rfl
set_option maxRecDepth 100000 in
theorem tw_697 : (Jvm.Cond.code ({ cls := "WhiteRoads$Parser", name := "parseLayers", desc := "(LWhiteRoads$Told;)V" } : Jvm.MethodName) prog_10_method_4_code (3 : Nat) (Option.none : Option Jvm.ClassFile.FieldType)) ∈ TBg := tb_in 697 rfl rfl
set_option maxRecDepth 100000 in
theorem tw_698 : (Jvm.Cond.methodLink "WhiteRoads$Parser" (128 : Nat) ({ cls := "WhiteRoads$Parser", name := "takeValue", desc := "(II)I" } : Jvm.MethodName)) ∈ TBg := tb_in 698 rfl rfl
set_option maxRecDepth 100000 in
theorem tw_700 : (Jvm.Cond.instanceMethod ({ cls := "WhiteRoads$Parser", name := "takeValue", desc := "(II)I" } : Jvm.MethodName)) ∈ TBg := tb_in 700 rfl rfl
set_option maxRecDepth 100000 in
theorem tw_701 : (Jvm.Cond.code ({ cls := "WhiteRoads$Parser", name := "takeValue", desc := "(II)I" } : Jvm.MethodName) prog_10_method_16_code (5 : Nat) (Option.some Jvm.ClassFile.FieldType.int)) ∈ TBg := tb_in 701 rfl rfl
set_option maxRecDepth 100000 in
theorem tw_702 : (Jvm.Cond.methodLink "WhiteRoads$Parser" (134 : Nat) ({ cls := "WhiteRoads$Parser", name := "isValueNext", desc := "()Z" } : Jvm.MethodName)) ∈ TBg := tb_in 702 rfl rfl
set_option maxRecDepth 100000 in
theorem tw_704 : (Jvm.Cond.instanceMethod ({ cls := "WhiteRoads$Parser", name := "isValueNext", desc := "()Z" } : Jvm.MethodName)) ∈ TBg := tb_in 704 rfl rfl
set_option maxRecDepth 100000 in
theorem tw_705 : (Jvm.Cond.code ({ cls := "WhiteRoads$Parser", name := "isValueNext", desc := "()Z" } : Jvm.MethodName) prog_10_method_15_code (1 : Nat) (Option.some Jvm.ClassFile.FieldType.boolean)) ∈ TBg := tb_in 705 rfl rfl
set_option maxRecDepth 100000 in
theorem tw_706 : (Jvm.Cond.methodLink "WhiteRoads$Parser" (50 : Nat) ({ cls := "WhiteRoads$Parser", name := "parseWay", desc := "()V" } : Jvm.MethodName)) ∈ TBg := tb_in 706 rfl rfl
set_option maxRecDepth 100000 in
theorem tw_708 : (Jvm.Cond.instanceMethod ({ cls := "WhiteRoads$Parser", name := "parseWay", desc := "()V" } : Jvm.MethodName)) ∈ TBg := tb_in 708 rfl rfl
set_option maxRecDepth 100000 in
theorem tw_709 : (Jvm.Cond.code ({ cls := "WhiteRoads$Parser", name := "parseWay", desc := "()V" } : Jvm.MethodName) prog_10_method_5_code (4 : Nat) (Option.none : Option Jvm.ClassFile.FieldType)) ∈ TBg := tb_in 709 rfl rfl
set_option maxRecDepth 100000 in
theorem tw_710 : (Jvm.Cond.methodLink "WhiteRoads$Parser" (141 : Nat) ({ cls := "WhiteRoads$Parser", name := "takeYard", desc := "()I" } : Jvm.MethodName)) ∈ TBg := tb_in 710 rfl rfl
set_option maxRecDepth 100000 in
theorem tw_712 : (Jvm.Cond.instanceMethod ({ cls := "WhiteRoads$Parser", name := "takeYard", desc := "()I" } : Jvm.MethodName)) ∈ TBg := tb_in 712 rfl rfl
set_option maxRecDepth 100000 in
theorem tw_713 : (Jvm.Cond.code ({ cls := "WhiteRoads$Parser", name := "takeYard", desc := "()I" } : Jvm.MethodName) prog_10_method_13_code (5 : Nat) (Option.some Jvm.ClassFile.FieldType.int)) ∈ TBg := tb_in 713 rfl rfl
set_option maxRecDepth 100000 in
theorem tw_714 : (Jvm.Cond.methodLink "WhiteRoads$Parser" (144 : Nat) ({ cls := "WhiteRoads$Land", name := "hasWay", desc := "(II)Z" } : Jvm.MethodName)) ∈ TBg := tb_in 714 rfl rfl
set_option maxRecDepth 100000 in
theorem tw_715 : (Jvm.Cond.instanceMethod ({ cls := "WhiteRoads$Land", name := "hasWay", desc := "(II)Z" } : Jvm.MethodName)) ∈ TBg := tb_in 715 rfl rfl
set_option maxRecDepth 100000 in
theorem tw_716 : (Jvm.Cond.selects "WhiteRoads$Land" ({ cls := "WhiteRoads$Land", name := "hasWay", desc := "(II)Z" } : Jvm.MethodName) ({ cls := "WhiteRoads$Land", name := "hasWay", desc := "(II)Z" } : Jvm.MethodName)) ∈ TBg := tb_in 716 rfl rfl
set_option maxRecDepth 100000 in
theorem tw_717 : (Jvm.Cond.code ({ cls := "WhiteRoads$Land", name := "hasWay", desc := "(II)Z" } : Jvm.MethodName) prog_7_method_4_code (4 : Nat) (Option.some Jvm.ClassFile.FieldType.boolean)) ∈ TBg := tb_in 717 rfl rfl
set_option maxRecDepth 100000 in
theorem tw_718 : (Jvm.Cond.methodLink "WhiteRoads$Parser" (53 : Nat) ({ cls := "WhiteRoads$Parser", name := "parseHour", desc := "()V" } : Jvm.MethodName)) ∈ TBg := tb_in 718 rfl rfl
set_option maxRecDepth 100000 in
theorem tw_720 : (Jvm.Cond.instanceMethod ({ cls := "WhiteRoads$Parser", name := "parseHour", desc := "()V" } : Jvm.MethodName)) ∈ TBg := tb_in 720 rfl rfl
set_option maxRecDepth 100000 in
theorem tw_721 : (Jvm.Cond.code ({ cls := "WhiteRoads$Parser", name := "parseHour", desc := "()V" } : Jvm.MethodName) prog_10_method_6_code (1 : Nat) (Option.none : Option Jvm.ClassFile.FieldType)) ∈ TBg := tb_in 721 rfl rfl
set_option maxRecDepth 100000 in
theorem tw_722 : (Jvm.Cond.methodLink "WhiteRoads$Parser" (56 : Nat) ({ cls := "WhiteRoads$Parser", name := "parseSlip", desc := "()V" } : Jvm.MethodName)) ∈ TBg := tb_in 722 rfl rfl
set_option maxRecDepth 100000 in
theorem tw_724 : (Jvm.Cond.instanceMethod ({ cls := "WhiteRoads$Parser", name := "parseSlip", desc := "()V" } : Jvm.MethodName)) ∈ TBg := tb_in 724 rfl rfl
set_option maxRecDepth 100000 in
theorem tw_725 : (Jvm.Cond.code ({ cls := "WhiteRoads$Parser", name := "parseSlip", desc := "()V" } : Jvm.MethodName) prog_10_method_7_code (2 : Nat) (Option.none : Option Jvm.ClassFile.FieldType)) ∈ TBg := tb_in 725 rfl rfl
set_option maxRecDepth 100000 in
theorem tw_726 : (Jvm.Cond.methodLink "WhiteRoads$Parser" (172 : Nat) ({ cls := "WhiteRoads$Land", name := "hasSlip", desc := "(I)Z" } : Jvm.MethodName)) ∈ TBg := tb_in 726 rfl rfl
set_option maxRecDepth 100000 in
theorem tw_727 : (Jvm.Cond.instanceMethod ({ cls := "WhiteRoads$Land", name := "hasSlip", desc := "(I)Z" } : Jvm.MethodName)) ∈ TBg := tb_in 727 rfl rfl
set_option maxRecDepth 100000 in
theorem tw_728 : (Jvm.Cond.selects "WhiteRoads$Land" ({ cls := "WhiteRoads$Land", name := "hasSlip", desc := "(I)Z" } : Jvm.MethodName) ({ cls := "WhiteRoads$Land", name := "hasSlip", desc := "(I)Z" } : Jvm.MethodName)) ∈ TBg := tb_in 728 rfl rfl
set_option maxRecDepth 100000 in
theorem tw_729 : (Jvm.Cond.code ({ cls := "WhiteRoads$Land", name := "hasSlip", desc := "(I)Z" } : Jvm.MethodName) prog_7_method_5_code (3 : Nat) (Option.some Jvm.ClassFile.FieldType.boolean)) ∈ TBg := tb_in 729 rfl rfl
set_option maxRecDepth 100000 in
theorem tw_730 : (Jvm.Cond.methodLink "WhiteRoads$Parser" (59 : Nat) ({ cls := "WhiteRoads$Parser", name := "parseOnce", desc := "(I)V" } : Jvm.MethodName)) ∈ TBg := tb_in 730 rfl rfl
set_option maxRecDepth 100000 in
theorem tw_732 : (Jvm.Cond.instanceMethod ({ cls := "WhiteRoads$Parser", name := "parseOnce", desc := "(I)V" } : Jvm.MethodName)) ∈ TBg := tb_in 732 rfl rfl
set_option maxRecDepth 100000 in
theorem tw_733 : (Jvm.Cond.code ({ cls := "WhiteRoads$Parser", name := "parseOnce", desc := "(I)V" } : Jvm.MethodName) prog_10_method_8_code (3 : Nat) (Option.none : Option Jvm.ClassFile.FieldType)) ∈ TBg := tb_in 733 rfl rfl
set_option maxRecDepth 100000 in
theorem tw_734 : (Jvm.Cond.methodLink "WhiteRoads$Parser" (66 : Nat) ({ cls := "WhiteRoads$Parser", name := "takeSemicolon", desc := "()V" } : Jvm.MethodName)) ∈ TBg := tb_in 734 rfl rfl
set_option maxRecDepth 100000 in
theorem tw_736 : (Jvm.Cond.instanceMethod ({ cls := "WhiteRoads$Parser", name := "takeSemicolon", desc := "()V" } : Jvm.MethodName)) ∈ TBg := tb_in 736 rfl rfl
set_option maxRecDepth 100000 in
theorem tw_737 : (Jvm.Cond.code ({ cls := "WhiteRoads$Parser", name := "takeSemicolon", desc := "()V" } : Jvm.MethodName) prog_10_method_9_code (1 : Nat) (Option.none : Option Jvm.ClassFile.FieldType)) ∈ TBg := tb_in 737 rfl rfl
set_option maxRecDepth 100000 in
theorem tw_738 : (Jvm.Cond.methodLink "WhiteRoads" (98 : Nat) ({ cls := "WhiteRoads$Day", name := "begin", desc := "(LWhiteRoads$Land;)V" } : Jvm.MethodName)) ∈ TBg := tb_in 738 rfl rfl
set_option maxRecDepth 100000 in
theorem tw_739 : (Jvm.Cond.instanceMethod ({ cls := "WhiteRoads$Day", name := "begin", desc := "(LWhiteRoads$Land;)V" } : Jvm.MethodName)) ∈ TBg := tb_in 739 rfl rfl
set_option maxRecDepth 100000 in
theorem tw_740 : (Jvm.Cond.selects "WhiteRoads$Day" ({ cls := "WhiteRoads$Day", name := "begin", desc := "(LWhiteRoads$Land;)V" } : Jvm.MethodName) ({ cls := "WhiteRoads$Day", name := "begin", desc := "(LWhiteRoads$Land;)V" } : Jvm.MethodName)) ∈ TBg := tb_in 740 rfl rfl
set_option maxRecDepth 100000 in
theorem tw_741 : (Jvm.Cond.code ({ cls := "WhiteRoads$Day", name := "begin", desc := "(LWhiteRoads$Land;)V" } : Jvm.MethodName) prog_3_method_2_code (3 : Nat) (Option.none : Option Jvm.ClassFile.FieldType)) ∈ TBg := tb_in 741 rfl rfl
set_option maxRecDepth 100000 in
theorem tw_742 : (Jvm.Cond.methodLink "WhiteRoads$Day" (44 : Nat) ({ cls := "WhiteRoads$Ground", name := "begin", desc := "(LWhiteRoads$Told;)V" } : Jvm.MethodName)) ∈ TBg := tb_in 742 rfl rfl
set_option maxRecDepth 100000 in
theorem tw_743 : (Jvm.Cond.instanceMethod ({ cls := "WhiteRoads$Ground", name := "begin", desc := "(LWhiteRoads$Told;)V" } : Jvm.MethodName)) ∈ TBg := tb_in 743 rfl rfl
set_option maxRecDepth 100000 in
theorem tw_744 : (Jvm.Cond.selects "WhiteRoads$Ground" ({ cls := "WhiteRoads$Ground", name := "begin", desc := "(LWhiteRoads$Told;)V" } : Jvm.MethodName) ({ cls := "WhiteRoads$Ground", name := "begin", desc := "(LWhiteRoads$Told;)V" } : Jvm.MethodName)) ∈ TBg := tb_in 744 rfl rfl
set_option maxRecDepth 100000 in
theorem tw_745 : (Jvm.Cond.code ({ cls := "WhiteRoads$Ground", name := "begin", desc := "(LWhiteRoads$Told;)V" } : Jvm.MethodName) prog_6_method_2_code (2 : Nat) (Option.none : Option Jvm.ClassFile.FieldType)) ∈ TBg := tb_in 745 rfl rfl
set_option maxRecDepth 100000 in
theorem tw_746 : (Jvm.Cond.methodLink "WhiteRoads$Ground" (31 : Nat) ({ cls := "java/lang/System", name := "arraycopy", desc := "(Ljava/lang/Object;ILjava/lang/Object;II)V" } : Jvm.MethodName)) ∈ TBg := tb_in 746 rfl rfl
set_option maxRecDepth 100000 in
theorem tw_747 : (Jvm.Cond.static ({ cls := "java/lang/System", name := "arraycopy", desc := "(Ljava/lang/Object;ILjava/lang/Object;II)V" } : Jvm.MethodName)) ∈ TBg := tb_in 747 rfl rfl
set_option maxRecDepth 100000 in
theorem tw_748 : (Jvm.Cond.native ({ cls := "java/lang/System", name := "arraycopy", desc := "(Ljava/lang/Object;ILjava/lang/Object;II)V" } : Jvm.MethodName)) ∈ TBg := tb_in 748 rfl rfl
set_option maxRecDepth 100000 in
theorem tw_749 : (Jvm.Cond.methodLink "WhiteRoads" (101 : Nat) ({ cls := "WhiteRoads$Glasses", name := "clear", desc := "()V" } : Jvm.MethodName)) ∈ TBg := tb_in 749 rfl rfl
set_option maxRecDepth 100000 in
theorem tw_750 : (Jvm.Cond.instanceMethod ({ cls := "WhiteRoads$Glasses", name := "clear", desc := "()V" } : Jvm.MethodName)) ∈ TBg := tb_in 750 rfl rfl
set_option maxRecDepth 100000 in
theorem tw_751 : (Jvm.Cond.selects "WhiteRoads$Glasses" ({ cls := "WhiteRoads$Glasses", name := "clear", desc := "()V" } : Jvm.MethodName) ({ cls := "WhiteRoads$Glasses", name := "clear", desc := "()V" } : Jvm.MethodName)) ∈ TBg := tb_in 751 rfl rfl
set_option maxRecDepth 100000 in
theorem tw_752 : (Jvm.Cond.code ({ cls := "WhiteRoads$Glasses", name := "clear", desc := "()V" } : Jvm.MethodName) prog_4_method_2_code (1 : Nat) (Option.none : Option Jvm.ClassFile.FieldType)) ∈ TBg := tb_in 752 rfl rfl
set_option maxRecDepth 100000 in
theorem tw_753 : (Jvm.Cond.methodLink "WhiteRoads" (104 : Nat) ({ cls := "WhiteRoads$Gritter", name := "forget", desc := "()V" } : Jvm.MethodName)) ∈ TBg := tb_in 753 rfl rfl
set_option maxRecDepth 100000 in
theorem tw_754 : (Jvm.Cond.instanceMethod ({ cls := "WhiteRoads$Gritter", name := "forget", desc := "()V" } : Jvm.MethodName)) ∈ TBg := tb_in 754 rfl rfl
set_option maxRecDepth 100000 in
theorem tw_755 : (Jvm.Cond.selects "WhiteRoads$Gritter" ({ cls := "WhiteRoads$Gritter", name := "forget", desc := "()V" } : Jvm.MethodName) ({ cls := "WhiteRoads$Gritter", name := "forget", desc := "()V" } : Jvm.MethodName)) ∈ TBg := tb_in 755 rfl rfl
set_option maxRecDepth 100000 in
theorem tw_756 : (Jvm.Cond.code ({ cls := "WhiteRoads$Gritter", name := "forget", desc := "()V" } : Jvm.MethodName) prog_5_method_2_code (1 : Nat) (Option.none : Option Jvm.ClassFile.FieldType)) ∈ TBg := tb_in 756 rfl rfl
set_option maxRecDepth 100000 in
theorem tw_757 : (Jvm.Cond.methodLink "WhiteRoadsLaw" (28 : Nat) ({ cls := "WhiteRoads", name := "fault", desc := "(I)I" } : Jvm.MethodName)) ∈ TBg := tb_in 757 rfl rfl
set_option maxRecDepth 100000 in
theorem tw_758 : (Jvm.Cond.instanceMethod ({ cls := "WhiteRoads", name := "fault", desc := "(I)I" } : Jvm.MethodName)) ∈ TBg := tb_in 758 rfl rfl
set_option maxRecDepth 100000 in
theorem tw_759 : (Jvm.Cond.selects "WhiteRoads" ({ cls := "WhiteRoads", name := "fault", desc := "(I)I" } : Jvm.MethodName) ({ cls := "WhiteRoads", name := "fault", desc := "(I)I" } : Jvm.MethodName)) ∈ TBg := tb_in 759 rfl rfl
set_option maxRecDepth 100000 in
theorem tw_760 : (Jvm.Cond.code ({ cls := "WhiteRoads", name := "fault", desc := "(I)I" } : Jvm.MethodName) prog_1_method_5_code (2 : Nat) (Option.some Jvm.ClassFile.FieldType.int)) ∈ TBg := tb_in 760 rfl rfl
set_option maxRecDepth 100000 in
theorem tw_761 : (Jvm.Cond.methodLink "WhiteRoadsLaw" (32 : Nat) ({ cls := "WhiteRoads", name := "run", desc := "(I)I" } : Jvm.MethodName)) ∈ TBg := tb_in 761 rfl rfl
set_option maxRecDepth 100000 in
theorem tw_762 : (Jvm.Cond.instanceMethod ({ cls := "WhiteRoads", name := "run", desc := "(I)I" } : Jvm.MethodName)) ∈ TBg := tb_in 762 rfl rfl
set_option maxRecDepth 100000 in
theorem tw_763 : (Jvm.Cond.selects "WhiteRoads" ({ cls := "WhiteRoads", name := "run", desc := "(I)I" } : Jvm.MethodName) ({ cls := "WhiteRoads", name := "run", desc := "(I)I" } : Jvm.MethodName)) ∈ TBg := tb_in 763 rfl rfl
set_option maxRecDepth 100000 in
theorem tw_764 : (Jvm.Cond.code ({ cls := "WhiteRoads", name := "run", desc := "(I)I" } : Jvm.MethodName) prog_1_method_6_code (3 : Nat) (Option.some Jvm.ClassFile.FieldType.int)) ∈ TBg := tb_in 764 rfl rfl
set_option maxRecDepth 100000 in
theorem tw_765 : (Jvm.Cond.methodLink "WhiteRoads" (119 : Nat) ({ cls := "WhiteRoads$Day", name := "goStep", desc := "()V" } : Jvm.MethodName)) ∈ TBg := tb_in 765 rfl rfl
set_option maxRecDepth 100000 in
theorem tw_766 : (Jvm.Cond.instanceMethod ({ cls := "WhiteRoads$Day", name := "goStep", desc := "()V" } : Jvm.MethodName)) ∈ TBg := tb_in 766 rfl rfl
set_option maxRecDepth 100000 in
theorem tw_767 : (Jvm.Cond.selects "WhiteRoads$Day" ({ cls := "WhiteRoads$Day", name := "goStep", desc := "()V" } : Jvm.MethodName) ({ cls := "WhiteRoads$Day", name := "goStep", desc := "()V" } : Jvm.MethodName)) ∈ TBg := tb_in 767 rfl rfl
set_option maxRecDepth 100000 in
theorem tw_768 : (Jvm.Cond.code ({ cls := "WhiteRoads$Day", name := "goStep", desc := "()V" } : Jvm.MethodName) prog_3_method_3_code (2 : Nat) (Option.none : Option Jvm.ClassFile.FieldType)) ∈ TBg := tb_in 768 rfl rfl
set_option maxRecDepth 100000 in
theorem tw_769 : (Jvm.Cond.methodLink "WhiteRoads$Day" (48 : Nat) ({ cls := "WhiteRoads$Ground", name := "goStep", desc := "(LWhiteRoads$Told;LWhiteRoads$Land;II)V" } : Jvm.MethodName)) ∈ TBg := tb_in 769 rfl rfl
set_option maxRecDepth 100000 in
theorem tw_770 : (Jvm.Cond.instanceMethod ({ cls := "WhiteRoads$Ground", name := "goStep", desc := "(LWhiteRoads$Told;LWhiteRoads$Land;II)V" } : Jvm.MethodName)) ∈ TBg := tb_in 770 rfl rfl
set_option maxRecDepth 100000 in
theorem tw_771 : (Jvm.Cond.selects "WhiteRoads$Ground" ({ cls := "WhiteRoads$Ground", name := "goStep", desc := "(LWhiteRoads$Told;LWhiteRoads$Land;II)V" } : Jvm.MethodName) ({ cls := "WhiteRoads$Ground", name := "goStep", desc := "(LWhiteRoads$Told;LWhiteRoads$Land;II)V" } : Jvm.MethodName)) ∈ TBg := tb_in 771 rfl rfl
set_option maxRecDepth 100000 in
theorem tw_772 : (Jvm.Cond.code ({ cls := "WhiteRoads$Ground", name := "goStep", desc := "(LWhiteRoads$Told;LWhiteRoads$Land;II)V" } : Jvm.MethodName) prog_6_method_8_code (8 : Nat) (Option.none : Option Jvm.ClassFile.FieldType)) ∈ TBg := tb_in 772 rfl rfl
set_option maxRecDepth 100000 in
theorem tw_773 : (Jvm.Cond.methodLink "WhiteRoads$Ground" (40 : Nat) ({ cls := "WhiteRoads$Land", name := "hourOf", desc := "(I)I" } : Jvm.MethodName)) ∈ TBg := tb_in 773 rfl rfl
set_option maxRecDepth 100000 in
theorem tw_774 : (Jvm.Cond.instanceMethod ({ cls := "WhiteRoads$Land", name := "hourOf", desc := "(I)I" } : Jvm.MethodName)) ∈ TBg := tb_in 774 rfl rfl
set_option maxRecDepth 100000 in
theorem tw_775 : (Jvm.Cond.selects "WhiteRoads$Land" ({ cls := "WhiteRoads$Land", name := "hourOf", desc := "(I)I" } : Jvm.MethodName) ({ cls := "WhiteRoads$Land", name := "hourOf", desc := "(I)I" } : Jvm.MethodName)) ∈ TBg := tb_in 775 rfl rfl
set_option maxRecDepth 100000 in
theorem tw_776 : (Jvm.Cond.code ({ cls := "WhiteRoads$Land", name := "hourOf", desc := "(I)I" } : Jvm.MethodName) prog_7_method_6_code (2 : Nat) (Option.some Jvm.ClassFile.FieldType.int)) ∈ TBg := tb_in 776 rfl rfl
set_option maxRecDepth 100000 in
theorem tw_777 : (Jvm.Cond.methodLink "WhiteRoads$Land" (78 : Nat) ({ cls := "java/lang/Math", name := "min", desc := "(II)I" } : Jvm.MethodName)) ∈ TBg := tb_in 777 rfl rfl
set_option maxRecDepth 100000 in
theorem tw_778 : (Jvm.Cond.methodLink "WhiteRoads$Land" (84 : Nat) ({ cls := "java/lang/Math", name := "max", desc := "(II)I" } : Jvm.MethodName)) ∈ TBg := tb_in 778 rfl rfl
set_option maxRecDepth 100000 in
theorem tw_779 : (Jvm.Cond.static ({ cls := "java/lang/Math", name := "max", desc := "(II)I" } : Jvm.MethodName)) ∈ TBg := tb_in 779 rfl rfl
set_option maxRecDepth 100000 in
theorem tw_780 : (Jvm.Cond.code ({ cls := "java/lang/Math", name := "max", desc := "(II)I" } : Jvm.MethodName) prog_16_method_65_code (2 : Nat) (Option.some Jvm.ClassFile.FieldType.int)) ∈ TBg := tb_in 780 rfl rfl
set_option maxRecDepth 100000 in
theorem tw_781 : (Jvm.Cond.methodLink "WhiteRoads$Ground" (49 : Nat) ({ cls := "WhiteRoads$Ground", name := "warmBy", desc := "(LWhiteRoads$Told;I)V" } : Jvm.MethodName)) ∈ TBg := tb_in 781 rfl rfl
set_option maxRecDepth 100000 in
theorem tw_783 : (Jvm.Cond.instanceMethod ({ cls := "WhiteRoads$Ground", name := "warmBy", desc := "(LWhiteRoads$Told;I)V" } : Jvm.MethodName)) ∈ TBg := tb_in 783 rfl rfl
set_option maxRecDepth 100000 in
theorem tw_784 : (Jvm.Cond.code ({ cls := "WhiteRoads$Ground", name := "warmBy", desc := "(LWhiteRoads$Told;I)V" } : Jvm.MethodName) prog_6_method_9_code (6 : Nat) (Option.none : Option Jvm.ClassFile.FieldType)) ∈ TBg := tb_in 784 rfl rfl
set_option maxRecDepth 100000 in
theorem tw_785 : (Jvm.Cond.fieldLink "WhiteRoads$Ground" (84 : Nat) "WhiteRoads$Ground" "TOP_PARTS" "[I") ∈ TBg := tb_in 785 rfl rfl
set_option maxRecDepth 100000 in
theorem tw_787 : (Jvm.Cond.methodLink "WhiteRoads$Ground" (59 : Nat) ({ cls := "WhiteRoads$Ground", name := "meltOrFreeze", desc := "()V" } : Jvm.MethodName)) ∈ TBg := tb_in 787 rfl rfl
set_option maxRecDepth 100000 in
theorem tw_789 : (Jvm.Cond.instanceMethod ({ cls := "WhiteRoads$Ground", name := "meltOrFreeze", desc := "()V" } : Jvm.MethodName)) ∈ TBg := tb_in 789 rfl rfl
set_option maxRecDepth 100000 in
theorem tw_790 : (Jvm.Cond.code ({ cls := "WhiteRoads$Ground", name := "meltOrFreeze", desc := "()V" } : Jvm.MethodName) prog_6_method_10_code (5 : Nat) (Option.none : Option Jvm.ClassFile.FieldType)) ∈ TBg := tb_in 790 rfl rfl
set_option maxRecDepth 100000 in
theorem tw_791 : (Jvm.Cond.methodLink "WhiteRoads$Ground" (87 : Nat) ({ cls := "java/lang/Math", name := "max", desc := "(II)I" } : Jvm.MethodName)) ∈ TBg := tb_in 791 rfl rfl
set_option maxRecDepth 100000 in
theorem tw_792 : (Jvm.Cond.methodLink "WhiteRoads$Ground" (75 : Nat) ({ cls := "java/lang/Math", name := "min", desc := "(II)I" } : Jvm.MethodName)) ∈ TBg := tb_in 792 rfl rfl
set_option maxRecDepth 100000 in
theorem tw_793 : (Jvm.Cond.fieldLink "WhiteRoads$Ground" (62 : Nat) "WhiteRoads$Ground" "WATER_HELD" "[I") ∈ TBg := tb_in 793 rfl rfl
set_option maxRecDepth 100000 in
theorem tw_795 : (Jvm.Cond.methodLink "WhiteRoads$Ground" (68 : Nat) ({ cls := "WhiteRoads$Ground", name := "runOff", desc := "(I)V" } : Jvm.MethodName)) ∈ TBg := tb_in 795 rfl rfl
set_option maxRecDepth 100000 in
theorem tw_797 : (Jvm.Cond.instanceMethod ({ cls := "WhiteRoads$Ground", name := "runOff", desc := "(I)V" } : Jvm.MethodName)) ∈ TBg := tb_in 797 rfl rfl
set_option maxRecDepth 100000 in
theorem tw_798 : (Jvm.Cond.code ({ cls := "WhiteRoads$Ground", name := "runOff", desc := "(I)V" } : Jvm.MethodName) prog_6_method_11_code (3 : Nat) (Option.none : Option Jvm.ClassFile.FieldType)) ∈ TBg := tb_in 798 rfl rfl
set_option maxRecDepth 100000 in
theorem tw_799 : (Jvm.Cond.methodLink "WhiteRoadsLaw" (36 : Nat) ({ cls := "WhiteRoads", name := "shift", desc := "(I)I" } : Jvm.MethodName)) ∈ TBg := tb_in 799 rfl rfl
set_option maxRecDepth 100000 in
theorem tw_800 : (Jvm.Cond.instanceMethod ({ cls := "WhiteRoads", name := "shift", desc := "(I)I" } : Jvm.MethodName)) ∈ TBg := tb_in 800 rfl rfl
set_option maxRecDepth 100000 in
theorem tw_801 : (Jvm.Cond.selects "WhiteRoads" ({ cls := "WhiteRoads", name := "shift", desc := "(I)I" } : Jvm.MethodName) ({ cls := "WhiteRoads", name := "shift", desc := "(I)I" } : Jvm.MethodName)) ∈ TBg := tb_in 801 rfl rfl
set_option maxRecDepth 100000 in
theorem tw_802 : (Jvm.Cond.code ({ cls := "WhiteRoads", name := "shift", desc := "(I)I" } : Jvm.MethodName) prog_1_method_7_code (3 : Nat) (Option.some Jvm.ClassFile.FieldType.int)) ∈ TBg := tb_in 802 rfl rfl
set_option maxRecDepth 100000 in
theorem tw_803 : (Jvm.Cond.methodLink "WhiteRoads" (122 : Nat) ({ cls := "WhiteRoads", name := "isShift", desc := "(I)Z" } : Jvm.MethodName)) ∈ TBg := tb_in 803 rfl rfl
set_option maxRecDepth 100000 in
theorem tw_804 : (Jvm.Cond.static ({ cls := "WhiteRoads", name := "isShift", desc := "(I)Z" } : Jvm.MethodName)) ∈ TBg := tb_in 804 rfl rfl
set_option maxRecDepth 100000 in
theorem tw_805 : (Jvm.Cond.code ({ cls := "WhiteRoads", name := "isShift", desc := "(I)Z" } : Jvm.MethodName) prog_1_method_32_code (1 : Nat) (Option.some Jvm.ClassFile.FieldType.boolean)) ∈ TBg := tb_in 805 rfl rfl
set_option maxRecDepth 100000 in
theorem tw_806 : (Jvm.Cond.constant "WhiteRoads" (126 : Nat) (-1000000 : Int32)) ∈ TBg := tb_in 806 rfl rfl
set_option maxRecDepth 100000 in
theorem tw_807 : (Jvm.Cond.methodLink "WhiteRoadsLaw" (40 : Nat) ({ cls := "WhiteRoads", name := "spread", desc := "(II)I" } : Jvm.MethodName)) ∈ TBg := tb_in 807 rfl rfl
set_option maxRecDepth 100000 in
theorem tw_808 : (Jvm.Cond.instanceMethod ({ cls := "WhiteRoads", name := "spread", desc := "(II)I" } : Jvm.MethodName)) ∈ TBg := tb_in 808 rfl rfl
set_option maxRecDepth 100000 in
theorem tw_809 : (Jvm.Cond.selects "WhiteRoads" ({ cls := "WhiteRoads", name := "spread", desc := "(II)I" } : Jvm.MethodName) ({ cls := "WhiteRoads", name := "spread", desc := "(II)I" } : Jvm.MethodName)) ∈ TBg := tb_in 809 rfl rfl
set_option maxRecDepth 100000 in
theorem tw_810 : (Jvm.Cond.code ({ cls := "WhiteRoads", name := "spread", desc := "(II)I" } : Jvm.MethodName) prog_1_method_8_code (3 : Nat) (Option.some Jvm.ClassFile.FieldType.int)) ∈ TBg := tb_in 810 rfl rfl
set_option maxRecDepth 100000 in
theorem tw_811 : (Jvm.Cond.methodLink "WhiteRoads" (130 : Nat) ({ cls := "WhiteRoads", name := "isYard", desc := "(I)Z" } : Jvm.MethodName)) ∈ TBg := tb_in 811 rfl rfl
set_option maxRecDepth 100000 in
theorem tw_813 : (Jvm.Cond.instanceMethod ({ cls := "WhiteRoads", name := "isYard", desc := "(I)Z" } : Jvm.MethodName)) ∈ TBg := tb_in 813 rfl rfl
set_option maxRecDepth 100000 in
theorem tw_814 : (Jvm.Cond.code ({ cls := "WhiteRoads", name := "isYard", desc := "(I)Z" } : Jvm.MethodName) prog_1_method_29_code (2 : Nat) (Option.some Jvm.ClassFile.FieldType.boolean)) ∈ TBg := tb_in 814 rfl rfl
set_option maxRecDepth 100000 in
theorem tw_815 : (Jvm.Cond.methodLink "WhiteRoads" (136 : Nat) ({ cls := "WhiteRoads$Day", name := "strew", desc := "(II)V" } : Jvm.MethodName)) ∈ TBg := tb_in 815 rfl rfl
set_option maxRecDepth 100000 in
theorem tw_816 : (Jvm.Cond.instanceMethod ({ cls := "WhiteRoads$Day", name := "strew", desc := "(II)V" } : Jvm.MethodName)) ∈ TBg := tb_in 816 rfl rfl
set_option maxRecDepth 100000 in
theorem tw_817 : (Jvm.Cond.selects "WhiteRoads$Day" ({ cls := "WhiteRoads$Day", name := "strew", desc := "(II)V" } : Jvm.MethodName) ({ cls := "WhiteRoads$Day", name := "strew", desc := "(II)V" } : Jvm.MethodName)) ∈ TBg := tb_in 817 rfl rfl
set_option maxRecDepth 100000 in
theorem tw_818 : (Jvm.Cond.code ({ cls := "WhiteRoads$Day", name := "strew", desc := "(II)V" } : Jvm.MethodName) prog_3_method_4_code (3 : Nat) (Option.none : Option Jvm.ClassFile.FieldType)) ∈ TBg := tb_in 818 rfl rfl
set_option maxRecDepth 100000 in
theorem tw_819 : (Jvm.Cond.methodLink "WhiteRoadsLaw" (45 : Nat) ({ cls := "WhiteRoads", name := "yard", desc := "(II)I" } : Jvm.MethodName)) ∈ TBg := tb_in 819 rfl rfl
set_option maxRecDepth 100000 in
theorem tw_820 : (Jvm.Cond.instanceMethod ({ cls := "WhiteRoads", name := "yard", desc := "(II)I" } : Jvm.MethodName)) ∈ TBg := tb_in 820 rfl rfl
set_option maxRecDepth 100000 in
theorem tw_821 : (Jvm.Cond.selects "WhiteRoads" ({ cls := "WhiteRoads", name := "yard", desc := "(II)I" } : Jvm.MethodName) ({ cls := "WhiteRoads", name := "yard", desc := "(II)I" } : Jvm.MethodName)) ∈ TBg := tb_in 821 rfl rfl
set_option maxRecDepth 100000 in
theorem tw_822 : (Jvm.Cond.code ({ cls := "WhiteRoads", name := "yard", desc := "(II)I" } : Jvm.MethodName) prog_1_method_9_code (5 : Nat) (Option.some Jvm.ClassFile.FieldType.int)) ∈ TBg := tb_in 822 rfl rfl
set_option maxRecDepth 100000 in
theorem tw_823 : (Jvm.Cond.methodLink "WhiteRoads" (162 : Nat) ({ cls := "WhiteRoads$Ground", name := "isWhite", desc := "()Z" } : Jvm.MethodName)) ∈ TBg := tb_in 823 rfl rfl
set_option maxRecDepth 100000 in
theorem tw_824 : (Jvm.Cond.instanceMethod ({ cls := "WhiteRoads$Ground", name := "isWhite", desc := "()Z" } : Jvm.MethodName)) ∈ TBg := tb_in 824 rfl rfl
set_option maxRecDepth 100000 in
theorem tw_825 : (Jvm.Cond.selects "WhiteRoads$Ground" ({ cls := "WhiteRoads$Ground", name := "isWhite", desc := "()Z" } : Jvm.MethodName) ({ cls := "WhiteRoads$Ground", name := "isWhite", desc := "()Z" } : Jvm.MethodName)) ∈ TBg := tb_in 825 rfl rfl
set_option maxRecDepth 100000 in
theorem tw_826 : (Jvm.Cond.code ({ cls := "WhiteRoads$Ground", name := "isWhite", desc := "()Z" } : Jvm.MethodName) prog_6_method_6_code (1 : Nat) (Option.some Jvm.ClassFile.FieldType.boolean)) ∈ TBg := tb_in 826 rfl rfl
set_option maxRecDepth 100000 in
theorem tw_827 : (Jvm.Cond.methodLink "WhiteRoads" (166 : Nat) ({ cls := "WhiteRoads$Ground", name := "isBlocked", desc := "(LWhiteRoads$Told;)Z" } : Jvm.MethodName)) ∈ TBg := tb_in 827 rfl rfl
set_option maxRecDepth 100000 in
theorem tw_828 : (Jvm.Cond.instanceMethod ({ cls := "WhiteRoads$Ground", name := "isBlocked", desc := "(LWhiteRoads$Told;)Z" } : Jvm.MethodName)) ∈ TBg := tb_in 828 rfl rfl
set_option maxRecDepth 100000 in
theorem tw_829 : (Jvm.Cond.selects "WhiteRoads$Ground" ({ cls := "WhiteRoads$Ground", name := "isBlocked", desc := "(LWhiteRoads$Told;)Z" } : Jvm.MethodName) ({ cls := "WhiteRoads$Ground", name := "isBlocked", desc := "(LWhiteRoads$Told;)Z" } : Jvm.MethodName)) ∈ TBg := tb_in 829 rfl rfl
set_option maxRecDepth 100000 in
theorem tw_830 : (Jvm.Cond.code ({ cls := "WhiteRoads$Ground", name := "isBlocked", desc := "(LWhiteRoads$Told;)Z" } : Jvm.MethodName) prog_6_method_7_code (2 : Nat) (Option.some Jvm.ClassFile.FieldType.boolean)) ∈ TBg := tb_in 830 rfl rfl
set_option maxRecDepth 100000 in
theorem tw_831 : (Jvm.Cond.methodLink "WhiteRoadsLaw" (49 : Nat) ({ cls := "WhiteRoads", name := "warm", desc := "(II)I" } : Jvm.MethodName)) ∈ TBg := tb_in 831 rfl rfl
set_option maxRecDepth 100000 in
theorem tw_832 : (Jvm.Cond.instanceMethod ({ cls := "WhiteRoads", name := "warm", desc := "(II)I" } : Jvm.MethodName)) ∈ TBg := tb_in 832 rfl rfl
set_option maxRecDepth 100000 in
theorem tw_833 : (Jvm.Cond.selects "WhiteRoads" ({ cls := "WhiteRoads", name := "warm", desc := "(II)I" } : Jvm.MethodName) ({ cls := "WhiteRoads", name := "warm", desc := "(II)I" } : Jvm.MethodName)) ∈ TBg := tb_in 833 rfl rfl
set_option maxRecDepth 100000 in
theorem tw_834 : (Jvm.Cond.code ({ cls := "WhiteRoads", name := "warm", desc := "(II)I" } : Jvm.MethodName) prog_1_method_10_code (3 : Nat) (Option.some Jvm.ClassFile.FieldType.int)) ∈ TBg := tb_in 834 rfl rfl
set_option maxRecDepth 100000 in
theorem tw_835 : (Jvm.Cond.methodLink "WhiteRoads" (175 : Nat) ({ cls := "WhiteRoads", name := "isLayer", desc := "(II)Z" } : Jvm.MethodName)) ∈ TBg := tb_in 835 rfl rfl
set_option maxRecDepth 100000 in
theorem tw_837 : (Jvm.Cond.instanceMethod ({ cls := "WhiteRoads", name := "isLayer", desc := "(II)Z" } : Jvm.MethodName)) ∈ TBg := tb_in 837 rfl rfl
set_option maxRecDepth 100000 in
theorem tw_838 : (Jvm.Cond.code ({ cls := "WhiteRoads", name := "isLayer", desc := "(II)Z" } : Jvm.MethodName) prog_1_method_30_code (3 : Nat) (Option.some Jvm.ClassFile.FieldType.boolean)) ∈ TBg := tb_in 838 rfl rfl
set_option maxRecDepth 100000 in
theorem tw_839 : (Jvm.Cond.methodLink "WhiteRoadsLaw" (53 : Nat) ({ cls := "WhiteRoads", name := "when", desc := "(II)I" } : Jvm.MethodName)) ∈ TBg := tb_in 839 rfl rfl
set_option maxRecDepth 100000 in
theorem tw_840 : (Jvm.Cond.instanceMethod ({ cls := "WhiteRoads", name := "when", desc := "(II)I" } : Jvm.MethodName)) ∈ TBg := tb_in 840 rfl rfl
set_option maxRecDepth 100000 in
theorem tw_841 : (Jvm.Cond.selects "WhiteRoads" ({ cls := "WhiteRoads", name := "when", desc := "(II)I" } : Jvm.MethodName) ({ cls := "WhiteRoads", name := "when", desc := "(II)I" } : Jvm.MethodName)) ∈ TBg := tb_in 841 rfl rfl
set_option maxRecDepth 100000 in
theorem tw_842 : (Jvm.Cond.code ({ cls := "WhiteRoads", name := "when", desc := "(II)I" } : Jvm.MethodName) prog_1_method_11_code (3 : Nat) (Option.some Jvm.ClassFile.FieldType.int)) ∈ TBg := tb_in 842 rfl rfl
set_option maxRecDepth 100000 in
theorem tw_843 : (Jvm.Cond.methodLink "WhiteRoads" (183 : Nat) ({ cls := "WhiteRoads$Outlook", name := "firstWhite", desc := "(LWhiteRoads$Day;IIII)I" } : Jvm.MethodName)) ∈ TBg := tb_in 843 rfl rfl
set_option maxRecDepth 100000 in
theorem tw_844 : (Jvm.Cond.instanceMethod ({ cls := "WhiteRoads$Outlook", name := "firstWhite", desc := "(LWhiteRoads$Day;IIII)I" } : Jvm.MethodName)) ∈ TBg := tb_in 844 rfl rfl
set_option maxRecDepth 100000 in
theorem tw_845 : (Jvm.Cond.selects "WhiteRoads$Outlook" ({ cls := "WhiteRoads$Outlook", name := "firstWhite", desc := "(LWhiteRoads$Day;IIII)I" } : Jvm.MethodName) ({ cls := "WhiteRoads$Outlook", name := "firstWhite", desc := "(LWhiteRoads$Day;IIII)I" } : Jvm.MethodName)) ∈ TBg := tb_in 845 rfl rfl
set_option maxRecDepth 100000 in
theorem tw_846 : (Jvm.Cond.code ({ cls := "WhiteRoads$Outlook", name := "firstWhite", desc := "(LWhiteRoads$Day;IIII)I" } : Jvm.MethodName) prog_9_method_2_code (9 : Nat) (Option.some Jvm.ClassFile.FieldType.int)) ∈ TBg := tb_in 846 rfl rfl
set_option maxRecDepth 100000 in
theorem tw_847 : (Jvm.Cond.methodLink "WhiteRoads$Outlook" (24 : Nat) ({ cls := "WhiteRoads$Land", name := "snowlessFrom", desc := "()I" } : Jvm.MethodName)) ∈ TBg := tb_in 847 rfl rfl
set_option maxRecDepth 100000 in
theorem tw_848 : (Jvm.Cond.instanceMethod ({ cls := "WhiteRoads$Land", name := "snowlessFrom", desc := "()I" } : Jvm.MethodName)) ∈ TBg := tb_in 848 rfl rfl
set_option maxRecDepth 100000 in
theorem tw_849 : (Jvm.Cond.selects "WhiteRoads$Land" ({ cls := "WhiteRoads$Land", name := "snowlessFrom", desc := "()I" } : Jvm.MethodName) ({ cls := "WhiteRoads$Land", name := "snowlessFrom", desc := "()I" } : Jvm.MethodName)) ∈ TBg := tb_in 849 rfl rfl
set_option maxRecDepth 100000 in
theorem tw_850 : (Jvm.Cond.code ({ cls := "WhiteRoads$Land", name := "snowlessFrom", desc := "()I" } : Jvm.MethodName) prog_7_method_7_code (2 : Nat) (Option.some Jvm.ClassFile.FieldType.int)) ∈ TBg := tb_in 850 rfl rfl
set_option maxRecDepth 100000 in
theorem tw_851 : (Jvm.Cond.constant "WhiteRoads$Land" (87 : Nat) (1000000000 : Int32)) ∈ TBg := tb_in 851 rfl rfl
set_option maxRecDepth 100000 in
theorem tw_852 : (Jvm.Cond.methodLink "WhiteRoads$Outlook" (34 : Nat) ({ cls := "WhiteRoads$Ground", name := "copy", desc := "(LWhiteRoads$Ground;)V" } : Jvm.MethodName)) ∈ TBg := tb_in 852 rfl rfl
set_option maxRecDepth 100000 in
theorem tw_853 : (Jvm.Cond.instanceMethod ({ cls := "WhiteRoads$Ground", name := "copy", desc := "(LWhiteRoads$Ground;)V" } : Jvm.MethodName)) ∈ TBg := tb_in 853 rfl rfl
set_option maxRecDepth 100000 in
theorem tw_854 : (Jvm.Cond.selects "WhiteRoads$Ground" ({ cls := "WhiteRoads$Ground", name := "copy", desc := "(LWhiteRoads$Ground;)V" } : Jvm.MethodName) ({ cls := "WhiteRoads$Ground", name := "copy", desc := "(LWhiteRoads$Ground;)V" } : Jvm.MethodName)) ∈ TBg := tb_in 854 rfl rfl
set_option maxRecDepth 100000 in
theorem tw_855 : (Jvm.Cond.code ({ cls := "WhiteRoads$Ground", name := "copy", desc := "(LWhiteRoads$Ground;)V" } : Jvm.MethodName) prog_6_method_3_code (2 : Nat) (Option.none : Option Jvm.ClassFile.FieldType)) ∈ TBg := tb_in 855 rfl rfl
set_option maxRecDepth 100000 in
theorem tw_856 : (Jvm.Cond.methodLink "WhiteRoads$Outlook" (49 : Nat) ({ cls := "WhiteRoads$Ground", name := "goStep", desc := "(LWhiteRoads$Told;LWhiteRoads$Land;II)V" } : Jvm.MethodName)) ∈ TBg := tb_in 856 rfl rfl
set_option maxRecDepth 100000 in
theorem tw_857 : (Jvm.Cond.methodLink "WhiteRoads$Outlook" (53 : Nat) ({ cls := "WhiteRoads$Ground", name := "isWhite", desc := "()Z" } : Jvm.MethodName)) ∈ TBg := tb_in 857 rfl rfl
set_option maxRecDepth 100000 in
theorem tw_858 : (Jvm.Cond.methodLink "WhiteRoadsLaw" (57 : Nat) ({ cls := "WhiteRoads", name := "deep", desc := "(III)I" } : Jvm.MethodName)) ∈ TBg := tb_in 858 rfl rfl
set_option maxRecDepth 100000 in
theorem tw_859 : (Jvm.Cond.instanceMethod ({ cls := "WhiteRoads", name := "deep", desc := "(III)I" } : Jvm.MethodName)) ∈ TBg := tb_in 859 rfl rfl
set_option maxRecDepth 100000 in
theorem tw_860 : (Jvm.Cond.selects "WhiteRoads" ({ cls := "WhiteRoads", name := "deep", desc := "(III)I" } : Jvm.MethodName) ({ cls := "WhiteRoads", name := "deep", desc := "(III)I" } : Jvm.MethodName)) ∈ TBg := tb_in 860 rfl rfl
set_option maxRecDepth 100000 in
theorem tw_861 : (Jvm.Cond.code ({ cls := "WhiteRoads", name := "deep", desc := "(III)I" } : Jvm.MethodName) prog_1_method_12_code (4 : Nat) (Option.some Jvm.ClassFile.FieldType.int)) ∈ TBg := tb_in 861 rfl rfl
set_option maxRecDepth 100000 in
theorem tw_862 : (Jvm.Cond.methodLink "WhiteRoads" (187 : Nat) ({ cls := "WhiteRoads$Outlook", name := "snowBehind", desc := "(LWhiteRoads$Day;III)I" } : Jvm.MethodName)) ∈ TBg := tb_in 862 rfl rfl
set_option maxRecDepth 100000 in
theorem tw_863 : (Jvm.Cond.instanceMethod ({ cls := "WhiteRoads$Outlook", name := "snowBehind", desc := "(LWhiteRoads$Day;III)I" } : Jvm.MethodName)) ∈ TBg := tb_in 863 rfl rfl
set_option maxRecDepth 100000 in
theorem tw_864 : (Jvm.Cond.selects "WhiteRoads$Outlook" ({ cls := "WhiteRoads$Outlook", name := "snowBehind", desc := "(LWhiteRoads$Day;III)I" } : Jvm.MethodName) ({ cls := "WhiteRoads$Outlook", name := "snowBehind", desc := "(LWhiteRoads$Day;III)I" } : Jvm.MethodName)) ∈ TBg := tb_in 864 rfl rfl
set_option maxRecDepth 100000 in
theorem tw_865 : (Jvm.Cond.code ({ cls := "WhiteRoads$Outlook", name := "snowBehind", desc := "(LWhiteRoads$Day;III)I" } : Jvm.MethodName) prog_9_method_4_code (6 : Nat) (Option.some Jvm.ClassFile.FieldType.int)) ∈ TBg := tb_in 865 rfl rfl
set_option maxRecDepth 100000 in
theorem tw_866 : (Jvm.Cond.methodLink "WhiteRoadsLaw" (62 : Nat) ({ cls := "WhiteRoads", name := "least", desc := "(II)I" } : Jvm.MethodName)) ∈ TBg := tb_in 866 rfl rfl
set_option maxRecDepth 100000 in
theorem tw_867 : (Jvm.Cond.instanceMethod ({ cls := "WhiteRoads", name := "least", desc := "(II)I" } : Jvm.MethodName)) ∈ TBg := tb_in 867 rfl rfl
set_option maxRecDepth 100000 in
theorem tw_868 : (Jvm.Cond.selects "WhiteRoads" ({ cls := "WhiteRoads", name := "least", desc := "(II)I" } : Jvm.MethodName) ({ cls := "WhiteRoads", name := "least", desc := "(II)I" } : Jvm.MethodName)) ∈ TBg := tb_in 868 rfl rfl
set_option maxRecDepth 100000 in
theorem tw_869 : (Jvm.Cond.code ({ cls := "WhiteRoads", name := "least", desc := "(II)I" } : Jvm.MethodName) prog_1_method_13_code (4 : Nat) (Option.some Jvm.ClassFile.FieldType.int)) ∈ TBg := tb_in 869 rfl rfl
set_option maxRecDepth 100000 in
theorem tw_870 : (Jvm.Cond.methodLink "WhiteRoadsLaw" (66 : Nat) ({ cls := "WhiteRoads", name := "latest", desc := "(III)I" } : Jvm.MethodName)) ∈ TBg := tb_in 870 rfl rfl
set_option maxRecDepth 100000 in
theorem tw_871 : (Jvm.Cond.instanceMethod ({ cls := "WhiteRoads", name := "latest", desc := "(III)I" } : Jvm.MethodName)) ∈ TBg := tb_in 871 rfl rfl
set_option maxRecDepth 100000 in
theorem tw_872 : (Jvm.Cond.selects "WhiteRoads" ({ cls := "WhiteRoads", name := "latest", desc := "(III)I" } : Jvm.MethodName) ({ cls := "WhiteRoads", name := "latest", desc := "(III)I" } : Jvm.MethodName)) ∈ TBg := tb_in 872 rfl rfl
set_option maxRecDepth 100000 in
theorem tw_873 : (Jvm.Cond.code ({ cls := "WhiteRoads", name := "latest", desc := "(III)I" } : Jvm.MethodName) prog_1_method_14_code (5 : Nat) (Option.some Jvm.ClassFile.FieldType.int)) ∈ TBg := tb_in 873 rfl rfl
set_option maxRecDepth 100000 in
theorem tw_874 : (Jvm.Cond.methodLink "WhiteRoads" (191 : Nat) ({ cls := "WhiteRoads", name := "isSalt", desc := "(I)Z" } : Jvm.MethodName)) ∈ TBg := tb_in 874 rfl rfl
set_option maxRecDepth 100000 in
theorem tw_875 : (Jvm.Cond.static ({ cls := "WhiteRoads", name := "isSalt", desc := "(I)Z" } : Jvm.MethodName)) ∈ TBg := tb_in 875 rfl rfl
set_option maxRecDepth 100000 in
theorem tw_876 : (Jvm.Cond.code ({ cls := "WhiteRoads", name := "isSalt", desc := "(I)Z" } : Jvm.MethodName) prog_1_method_33_code (1 : Nat) (Option.some Jvm.ClassFile.FieldType.boolean)) ∈ TBg := tb_in 876 rfl rfl
set_option maxRecDepth 100000 in
theorem tw_877 : (Jvm.Cond.methodLink "WhiteRoads" (194 : Nat) ({ cls := "WhiteRoads$Outlook", name := "lastInTime", desc := "(LWhiteRoads$Day;II)I" } : Jvm.MethodName)) ∈ TBg := tb_in 877 rfl rfl
set_option maxRecDepth 100000 in
theorem tw_878 : (Jvm.Cond.instanceMethod ({ cls := "WhiteRoads$Outlook", name := "lastInTime", desc := "(LWhiteRoads$Day;II)I" } : Jvm.MethodName)) ∈ TBg := tb_in 878 rfl rfl
set_option maxRecDepth 100000 in
theorem tw_879 : (Jvm.Cond.selects "WhiteRoads$Outlook" ({ cls := "WhiteRoads$Outlook", name := "lastInTime", desc := "(LWhiteRoads$Day;II)I" } : Jvm.MethodName) ({ cls := "WhiteRoads$Outlook", name := "lastInTime", desc := "(LWhiteRoads$Day;II)I" } : Jvm.MethodName)) ∈ TBg := tb_in 879 rfl rfl
set_option maxRecDepth 100000 in
theorem tw_880 : (Jvm.Cond.code ({ cls := "WhiteRoads$Outlook", name := "lastInTime", desc := "(LWhiteRoads$Day;II)I" } : Jvm.MethodName) prog_9_method_3_code (5 : Nat) (Option.some Jvm.ClassFile.FieldType.int)) ∈ TBg := tb_in 880 rfl rfl
set_option maxRecDepth 100000 in
theorem tw_881 : (Jvm.Cond.methodLink "WhiteRoads$Outlook" (57 : Nat) ({ cls := "WhiteRoads$Outlook", name := "firstWhite", desc := "(LWhiteRoads$Day;IIII)I" } : Jvm.MethodName)) ∈ TBg := tb_in 881 rfl rfl
set_option maxRecDepth 100000 in
theorem tw_882 : (Jvm.Cond.methodLink "WhiteRoadsLaw" (70 : Nat) ({ cls := "WhiteRoads", name := "odds", desc := "(III)I" } : Jvm.MethodName)) ∈ TBg := tb_in 882 rfl rfl
set_option maxRecDepth 100000 in
theorem tw_883 : (Jvm.Cond.instanceMethod ({ cls := "WhiteRoads", name := "odds", desc := "(III)I" } : Jvm.MethodName)) ∈ TBg := tb_in 883 rfl rfl
set_option maxRecDepth 100000 in
theorem tw_884 : (Jvm.Cond.selects "WhiteRoads" ({ cls := "WhiteRoads", name := "odds", desc := "(III)I" } : Jvm.MethodName) ({ cls := "WhiteRoads", name := "odds", desc := "(III)I" } : Jvm.MethodName)) ∈ TBg := tb_in 884 rfl rfl
set_option maxRecDepth 100000 in
theorem tw_885 : (Jvm.Cond.code ({ cls := "WhiteRoads", name := "odds", desc := "(III)I" } : Jvm.MethodName) prog_1_method_15_code (7 : Nat) (Option.some Jvm.ClassFile.FieldType.int)) ∈ TBg := tb_in 885 rfl rfl
set_option maxRecDepth 100000 in
theorem tw_886 : (Jvm.Cond.methodLink "WhiteRoads" (198 : Nat) ({ cls := "WhiteRoads$Glasses", name := "leftAt", desc := "(ILWhiteRoads$Land;)I" } : Jvm.MethodName)) ∈ TBg := tb_in 886 rfl rfl
set_option maxRecDepth 100000 in
theorem tw_887 : (Jvm.Cond.instanceMethod ({ cls := "WhiteRoads$Glasses", name := "leftAt", desc := "(ILWhiteRoads$Land;)I" } : Jvm.MethodName)) ∈ TBg := tb_in 887 rfl rfl
set_option maxRecDepth 100000 in
theorem tw_888 : (Jvm.Cond.selects "WhiteRoads$Glasses" ({ cls := "WhiteRoads$Glasses", name := "leftAt", desc := "(ILWhiteRoads$Land;)I" } : Jvm.MethodName) ({ cls := "WhiteRoads$Glasses", name := "leftAt", desc := "(ILWhiteRoads$Land;)I" } : Jvm.MethodName)) ∈ TBg := tb_in 888 rfl rfl
set_option maxRecDepth 100000 in
theorem tw_889 : (Jvm.Cond.code ({ cls := "WhiteRoads$Glasses", name := "leftAt", desc := "(ILWhiteRoads$Land;)I" } : Jvm.MethodName) prog_4_method_5_code (6 : Nat) (Option.some Jvm.ClassFile.FieldType.int)) ∈ TBg := tb_in 889 rfl rfl
set_option maxRecDepth 100000 in
theorem tw_890 : (Jvm.Cond.methodLink "WhiteRoads" (211 : Nat) ({ cls := "WhiteRoads$Land", name := "weightOf", desc := "(I)I" } : Jvm.MethodName)) ∈ TBg := tb_in 890 rfl rfl
set_option maxRecDepth 100000 in
theorem tw_891 : (Jvm.Cond.instanceMethod ({ cls := "WhiteRoads$Land", name := "weightOf", desc := "(I)I" } : Jvm.MethodName)) ∈ TBg := tb_in 891 rfl rfl
set_option maxRecDepth 100000 in
theorem tw_892 : (Jvm.Cond.selects "WhiteRoads$Land" ({ cls := "WhiteRoads$Land", name := "weightOf", desc := "(I)I" } : Jvm.MethodName) ({ cls := "WhiteRoads$Land", name := "weightOf", desc := "(I)I" } : Jvm.MethodName)) ∈ TBg := tb_in 892 rfl rfl
set_option maxRecDepth 100000 in
theorem tw_893 : (Jvm.Cond.code ({ cls := "WhiteRoads$Land", name := "weightOf", desc := "(I)I" } : Jvm.MethodName) prog_7_method_8_code (4 : Nat) (Option.some Jvm.ClassFile.FieldType.int)) ∈ TBg := tb_in 893 rfl rfl
set_option maxRecDepth 100000 in
theorem tw_894 : (Jvm.Cond.methodLink "WhiteRoads" (215 : Nat) ({ cls := "WhiteRoads", name := "lowest", desc := "(III)I" } : Jvm.MethodName)) ∈ TBg := tb_in 894 rfl rfl
set_option maxRecDepth 100000 in
theorem tw_895 : (Jvm.Cond.static ({ cls := "WhiteRoads", name := "lowest", desc := "(III)I" } : Jvm.MethodName)) ∈ TBg := tb_in 895 rfl rfl
set_option maxRecDepth 100000 in
theorem tw_896 : (Jvm.Cond.code ({ cls := "WhiteRoads", name := "lowest", desc := "(III)I" } : Jvm.MethodName) prog_1_method_34_code (7 : Nat) (Option.some Jvm.ClassFile.FieldType.int)) ∈ TBg := tb_in 896 rfl rfl
set_option maxRecDepth 100000 in
theorem tw_897 : (Jvm.Cond.methodLink "WhiteRoadsLaw" (74 : Nat) ({ cls := "WhiteRoads", name := "plan", desc := "(IIII)I" } : Jvm.MethodName)) ∈ TBg := tb_in 897 rfl rfl
set_option maxRecDepth 100000 in
theorem tw_898 : (Jvm.Cond.instanceMethod ({ cls := "WhiteRoads", name := "plan", desc := "(IIII)I" } : Jvm.MethodName)) ∈ TBg := tb_in 898 rfl rfl
set_option maxRecDepth 100000 in
theorem tw_899 : (Jvm.Cond.selects "WhiteRoads" ({ cls := "WhiteRoads", name := "plan", desc := "(IIII)I" } : Jvm.MethodName) ({ cls := "WhiteRoads", name := "plan", desc := "(IIII)I" } : Jvm.MethodName)) ∈ TBg := tb_in 899 rfl rfl
set_option maxRecDepth 100000 in
theorem tw_900 : (Jvm.Cond.code ({ cls := "WhiteRoads", name := "plan", desc := "(IIII)I" } : Jvm.MethodName) prog_1_method_16_code (6 : Nat) (Option.some Jvm.ClassFile.FieldType.int)) ∈ TBg := tb_in 900 rfl rfl
set_option maxRecDepth 100000 in
theorem tw_901 : (Jvm.Cond.methodLink "WhiteRoads" (219 : Nat) ({ cls := "WhiteRoads", name := "isSet", desc := "(I)Z" } : Jvm.MethodName)) ∈ TBg := tb_in 901 rfl rfl
set_option maxRecDepth 100000 in
theorem tw_903 : (Jvm.Cond.instanceMethod ({ cls := "WhiteRoads", name := "isSet", desc := "(I)Z" } : Jvm.MethodName)) ∈ TBg := tb_in 903 rfl rfl
set_option maxRecDepth 100000 in
theorem tw_904 : (Jvm.Cond.code ({ cls := "WhiteRoads", name := "isSet", desc := "(I)Z" } : Jvm.MethodName) prog_1_method_31_code (2 : Nat) (Option.some Jvm.ClassFile.FieldType.boolean)) ∈ TBg := tb_in 904 rfl rfl
set_option maxRecDepth 100000 in
theorem tw_905 : (Jvm.Cond.methodLink "WhiteRoads" (222 : Nat) ({ cls := "WhiteRoads$Planner", name := "weigh", desc := "(LWhiteRoads$Day;LWhiteRoads$Outlook;III)V" } : Jvm.MethodName)) ∈ TBg := tb_in 905 rfl rfl
set_option maxRecDepth 100000 in
theorem tw_906 : (Jvm.Cond.instanceMethod ({ cls := "WhiteRoads$Planner", name := "weigh", desc := "(LWhiteRoads$Day;LWhiteRoads$Outlook;III)V" } : Jvm.MethodName)) ∈ TBg := tb_in 906 rfl rfl
set_option maxRecDepth 100000 in
theorem tw_907 : (Jvm.Cond.selects "WhiteRoads$Planner" ({ cls := "WhiteRoads$Planner", name := "weigh", desc := "(LWhiteRoads$Day;LWhiteRoads$Outlook;III)V" } : Jvm.MethodName) ({ cls := "WhiteRoads$Planner", name := "weigh", desc := "(LWhiteRoads$Day;LWhiteRoads$Outlook;III)V" } : Jvm.MethodName)) ∈ TBg := tb_in 907 rfl rfl
set_option maxRecDepth 100000 in
theorem tw_908 : (Jvm.Cond.code ({ cls := "WhiteRoads$Planner", name := "weigh", desc := "(LWhiteRoads$Day;LWhiteRoads$Outlook;III)V" } : Jvm.MethodName) prog_11_method_2_code (10 : Nat) (Option.none : Option Jvm.ClassFile.FieldType)) ∈ TBg := tb_in 908 rfl rfl
set_option maxRecDepth 100000 in
theorem tw_909 : (Jvm.Cond.methodLink "WhiteRoads$Planner" (35 : Nat) ({ cls := "WhiteRoads$Land", name := "weightOf", desc := "(I)I" } : Jvm.MethodName)) ∈ TBg := tb_in 909 rfl rfl
set_option maxRecDepth 100000 in
theorem tw_910 : (Jvm.Cond.constant "WhiteRoads$Planner" (39 : Nat) (1000000000 : Int32)) ∈ TBg := tb_in 910 rfl rfl
set_option maxRecDepth 100000 in
theorem tw_911 : (Jvm.Cond.methodLink "WhiteRoads$Planner" (40 : Nat) ({ cls := "WhiteRoads$Planner", name := "sumHarm", desc := "(LWhiteRoads$Day;LWhiteRoads$Outlook;III)I" } : Jvm.MethodName)) ∈ TBg := tb_in 911 rfl rfl
set_option maxRecDepth 100000 in
theorem tw_913 : (Jvm.Cond.instanceMethod ({ cls := "WhiteRoads$Planner", name := "sumHarm", desc := "(LWhiteRoads$Day;LWhiteRoads$Outlook;III)I" } : Jvm.MethodName)) ∈ TBg := tb_in 913 rfl rfl
set_option maxRecDepth 100000 in
theorem tw_914 : (Jvm.Cond.code ({ cls := "WhiteRoads$Planner", name := "sumHarm", desc := "(LWhiteRoads$Day;LWhiteRoads$Outlook;III)I" } : Jvm.MethodName) prog_11_method_3_code (11 : Nat) (Option.some Jvm.ClassFile.FieldType.int)) ∈ TBg := tb_in 914 rfl rfl
set_option maxRecDepth 100000 in
theorem tw_915 : (Jvm.Cond.methodLink "WhiteRoads$Planner" (54 : Nat) ({ cls := "WhiteRoads$Outlook", name := "firstWhite", desc := "(LWhiteRoads$Day;IIII)I" } : Jvm.MethodName)) ∈ TBg := tb_in 915 rfl rfl
set_option maxRecDepth 100000 in
theorem tw_916 : (Jvm.Cond.methodLink "WhiteRoadsLaw" (79 : Nat) ({ cls := "WhiteRoads", name := "round", desc := "(III)I" } : Jvm.MethodName)) ∈ TBg := tb_in 916 rfl rfl
set_option maxRecDepth 100000 in
theorem tw_917 : (Jvm.Cond.instanceMethod ({ cls := "WhiteRoads", name := "round", desc := "(III)I" } : Jvm.MethodName)) ∈ TBg := tb_in 917 rfl rfl
set_option maxRecDepth 100000 in
theorem tw_918 : (Jvm.Cond.selects "WhiteRoads" ({ cls := "WhiteRoads", name := "round", desc := "(III)I" } : Jvm.MethodName) ({ cls := "WhiteRoads", name := "round", desc := "(III)I" } : Jvm.MethodName)) ∈ TBg := tb_in 918 rfl rfl
set_option maxRecDepth 100000 in
theorem tw_919 : (Jvm.Cond.code ({ cls := "WhiteRoads", name := "round", desc := "(III)I" } : Jvm.MethodName) prog_1_method_17_code (4 : Nat) (Option.some Jvm.ClassFile.FieldType.int)) ∈ TBg := tb_in 919 rfl rfl
set_option maxRecDepth 100000 in
theorem tw_920 : (Jvm.Cond.methodLink "WhiteRoads" (232 : Nat) ({ cls := "WhiteRoads$Gritter", name := "goAbout", desc := "(LWhiteRoads$Day;LWhiteRoads$Outlook;II)Z" } : Jvm.MethodName)) ∈ TBg := tb_in 920 rfl rfl
set_option maxRecDepth 100000 in
theorem tw_921 : (Jvm.Cond.instanceMethod ({ cls := "WhiteRoads$Gritter", name := "goAbout", desc := "(LWhiteRoads$Day;LWhiteRoads$Outlook;II)Z" } : Jvm.MethodName)) ∈ TBg := tb_in 921 rfl rfl
set_option maxRecDepth 100000 in
theorem tw_922 : (Jvm.Cond.selects "WhiteRoads$Gritter" ({ cls := "WhiteRoads$Gritter", name := "goAbout", desc := "(LWhiteRoads$Day;LWhiteRoads$Outlook;II)Z" } : Jvm.MethodName) ({ cls := "WhiteRoads$Gritter", name := "goAbout", desc := "(LWhiteRoads$Day;LWhiteRoads$Outlook;II)Z" } : Jvm.MethodName)) ∈ TBg := tb_in 922 rfl rfl
set_option maxRecDepth 100000 in
theorem tw_923 : (Jvm.Cond.code ({ cls := "WhiteRoads$Gritter", name := "goAbout", desc := "(LWhiteRoads$Day;LWhiteRoads$Outlook;II)Z" } : Jvm.MethodName) prog_5_method_3_code (8 : Nat) (Option.some Jvm.ClassFile.FieldType.boolean)) ∈ TBg := tb_in 923 rfl rfl
set_option maxRecDepth 100000 in
theorem tw_924 : (Jvm.Cond.methodLink "WhiteRoads$Gritter" (41 : Nat) ({ cls := "java/lang/Integer", name := "bitCount", desc := "(I)I" } : Jvm.MethodName)) ∈ TBg := tb_in 924 rfl rfl
set_option maxRecDepth 100000 in
theorem tw_925 : (Jvm.Cond.static ({ cls := "java/lang/Integer", name := "bitCount", desc := "(I)I" } : Jvm.MethodName)) ∈ TBg := tb_in 925 rfl rfl
set_option maxRecDepth 100000 in
theorem tw_926 : (Jvm.Cond.code ({ cls := "java/lang/Integer", name := "bitCount", desc := "(I)I" } : Jvm.MethodName) prog_15_method_49_code (1 : Nat) (Option.some Jvm.ClassFile.FieldType.int)) ∈ TBg := tb_in 926 rfl rfl
set_option maxRecDepth 100000 in
theorem tw_927 : (Jvm.Cond.constant "java/lang/Integer" (265 : Nat) (1431655765 : Int32)) ∈ TBg := tb_in 927 rfl rfl
set_option maxRecDepth 100000 in
theorem tw_928 : (Jvm.Cond.constant "java/lang/Integer" (266 : Nat) (858993459 : Int32)) ∈ TBg := tb_in 928 rfl rfl
set_option maxRecDepth 100000 in
theorem tw_929 : (Jvm.Cond.constant "java/lang/Integer" (267 : Nat) (252645135 : Int32)) ∈ TBg := tb_in 929 rfl rfl
set_option maxRecDepth 100000 in
theorem tw_930 : (Jvm.Cond.methodLink "WhiteRoads$Gritter" (52 : Nat) ({ cls := "WhiteRoads$Gritter", name := "measure", desc := "(LWhiteRoads$Land;)V" } : Jvm.MethodName)) ∈ TBg := tb_in 930 rfl rfl
set_option maxRecDepth 100000 in
theorem tw_932 : (Jvm.Cond.instanceMethod ({ cls := "WhiteRoads$Gritter", name := "measure", desc := "(LWhiteRoads$Land;)V" } : Jvm.MethodName)) ∈ TBg := tb_in 932 rfl rfl
set_option maxRecDepth 100000 in
theorem tw_933 : (Jvm.Cond.code ({ cls := "WhiteRoads$Gritter", name := "measure", desc := "(LWhiteRoads$Land;)V" } : Jvm.MethodName) prog_5_method_4_code (7 : Nat) (Option.none : Option Jvm.ClassFile.FieldType)) ∈ TBg := tb_in 933 rfl rfl
set_option maxRecDepth 100000 in
theorem tw_934 : (Jvm.Cond.constant "WhiteRoads$Gritter" (74 : Nat) (1000000 : Int32)) ∈ TBg := tb_in 934 rfl rfl
set_option maxRecDepth 100000 in
theorem tw_935 : (Jvm.Cond.methodLink "WhiteRoads$Gritter" (75 : Nat) ({ cls := "java/util/Arrays", name := "fill", desc := "([II)V" } : Jvm.MethodName)) ∈ TBg := tb_in 935 rfl rfl
set_option maxRecDepth 100000 in
theorem tw_936 : (Jvm.Cond.static ({ cls := "java/util/Arrays", name := "fill", desc := "([II)V" } : Jvm.MethodName)) ∈ TBg := tb_in 936 rfl rfl
set_option maxRecDepth 100000 in
theorem tw_937 : (Jvm.Cond.code ({ cls := "java/util/Arrays", name := "fill", desc := "([II)V" } : Jvm.MethodName) prog_21_method_103_code (4 : Nat) (Option.none : Option Jvm.ClassFile.FieldType)) ∈ TBg := tb_in 937 rfl rfl
set_option maxRecDepth 100000 in
theorem tw_938 : (Jvm.Cond.methodLink "WhiteRoads$Gritter" (93 : Nat) ({ cls := "java/lang/Math", name := "min", desc := "(II)I" } : Jvm.MethodName)) ∈ TBg := tb_in 938 rfl rfl
set_option maxRecDepth 100000 in
theorem tw_939 : (Jvm.Cond.methodLink "WhiteRoads$Gritter" (56 : Nat) ({ cls := "WhiteRoads$Gritter", name := "lineUp", desc := "(LWhiteRoads$Land;I)Z" } : Jvm.MethodName)) ∈ TBg := tb_in 939 rfl rfl
set_option maxRecDepth 100000 in
theorem tw_941 : (Jvm.Cond.instanceMethod ({ cls := "WhiteRoads$Gritter", name := "lineUp", desc := "(LWhiteRoads$Land;I)Z" } : Jvm.MethodName)) ∈ TBg := tb_in 941 rfl rfl
set_option maxRecDepth 100000 in
theorem tw_942 : (Jvm.Cond.code ({ cls := "WhiteRoads$Gritter", name := "lineUp", desc := "(LWhiteRoads$Land;I)Z" } : Jvm.MethodName) prog_5_method_5_code (5 : Nat) (Option.some Jvm.ClassFile.FieldType.boolean)) ∈ TBg := tb_in 942 rfl rfl
set_option maxRecDepth 100000 in
theorem tw_943 : (Jvm.Cond.methodLink "WhiteRoads$Gritter" (60 : Nat) ({ cls := "java/util/Arrays", name := "fill", desc := "([BB)V" } : Jvm.MethodName)) ∈ TBg := tb_in 943 rfl rfl
set_option maxRecDepth 100000 in
theorem tw_944 : (Jvm.Cond.static ({ cls := "java/util/Arrays", name := "fill", desc := "([BB)V" } : Jvm.MethodName)) ∈ TBg := tb_in 944 rfl rfl
set_option maxRecDepth 100000 in
theorem tw_945 : (Jvm.Cond.code ({ cls := "java/util/Arrays", name := "fill", desc := "([BB)V" } : Jvm.MethodName) prog_21_method_109_code (4 : Nat) (Option.none : Option Jvm.ClassFile.FieldType)) ∈ TBg := tb_in 945 rfl rfl
set_option maxRecDepth 100000 in
theorem tw_946 : (Jvm.Cond.methodLink "WhiteRoads$Gritter" (66 : Nat) ({ cls := "WhiteRoads$Gritter", name := "tryOrder", desc := "(LWhiteRoads$Day;LWhiteRoads$Outlook;II)V" } : Jvm.MethodName)) ∈ TBg := tb_in 946 rfl rfl
set_option maxRecDepth 100000 in
theorem tw_948 : (Jvm.Cond.instanceMethod ({ cls := "WhiteRoads$Gritter", name := "tryOrder", desc := "(LWhiteRoads$Day;LWhiteRoads$Outlook;II)V" } : Jvm.MethodName)) ∈ TBg := tb_in 948 rfl rfl
set_option maxRecDepth 100000 in
theorem tw_949 : (Jvm.Cond.code ({ cls := "WhiteRoads$Gritter", name := "tryOrder", desc := "(LWhiteRoads$Day;LWhiteRoads$Outlook;II)V" } : Jvm.MethodName) prog_5_method_6_code (7 : Nat) (Option.none : Option Jvm.ClassFile.FieldType)) ∈ TBg := tb_in 949 rfl rfl
set_option maxRecDepth 100000 in
theorem tw_950 : (Jvm.Cond.methodLink "WhiteRoads$Gritter" (99 : Nat) ({ cls := "WhiteRoads$Gritter", name := "minutesTo", desc := "(II)I" } : Jvm.MethodName)) ∈ TBg := tb_in 950 rfl rfl
set_option maxRecDepth 100000 in
theorem tw_952 : (Jvm.Cond.instanceMethod ({ cls := "WhiteRoads$Gritter", name := "minutesTo", desc := "(II)I" } : Jvm.MethodName)) ∈ TBg := tb_in 952 rfl rfl
set_option maxRecDepth 100000 in
theorem tw_953 : (Jvm.Cond.code ({ cls := "WhiteRoads$Gritter", name := "minutesTo", desc := "(II)I" } : Jvm.MethodName) prog_5_method_7_code (4 : Nat) (Option.some Jvm.ClassFile.FieldType.int)) ∈ TBg := tb_in 953 rfl rfl
set_option maxRecDepth 100000 in
theorem tw_954 : (Jvm.Cond.methodLink "WhiteRoads$Gritter" (102 : Nat) ({ cls := "WhiteRoads$Gritter", name := "countWhite", desc := "(LWhiteRoads$Day;LWhiteRoads$Outlook;II)I" } : Jvm.MethodName)) ∈ TBg := tb_in 954 rfl rfl
set_option maxRecDepth 100000 in
theorem tw_956 : (Jvm.Cond.instanceMethod ({ cls := "WhiteRoads$Gritter", name := "countWhite", desc := "(LWhiteRoads$Day;LWhiteRoads$Outlook;II)I" } : Jvm.MethodName)) ∈ TBg := tb_in 956 rfl rfl
set_option maxRecDepth 100000 in
theorem tw_957 : (Jvm.Cond.code ({ cls := "WhiteRoads$Gritter", name := "countWhite", desc := "(LWhiteRoads$Day;LWhiteRoads$Outlook;II)I" } : Jvm.MethodName) prog_5_method_8_code (10 : Nat) (Option.some Jvm.ClassFile.FieldType.int)) ∈ TBg := tb_in 957 rfl rfl
set_option maxRecDepth 100000 in
theorem tw_958 : (Jvm.Cond.methodLink "WhiteRoads$Gritter" (112 : Nat) ({ cls := "WhiteRoads$Outlook", name := "firstWhite", desc := "(LWhiteRoads$Day;IIII)I" } : Jvm.MethodName)) ∈ TBg := tb_in 958 rfl rfl
set_option maxRecDepth 100000 in
theorem tw_959 : (Jvm.Cond.methodLink "WhiteRoads$Gritter" (106 : Nat) ({ cls := "java/lang/System", name := "arraycopy", desc := "(Ljava/lang/Object;ILjava/lang/Object;II)V" } : Jvm.MethodName)) ∈ TBg := tb_in 959 rfl rfl
set_option maxRecDepth 100000 in
theorem tw_960 : (Jvm.Cond.methodLink "WhiteRoads$Gritter" (70 : Nat) ({ cls := "WhiteRoads$Gritter", name := "nextOrder", desc := "(I)Z" } : Jvm.MethodName)) ∈ TBg := tb_in 960 rfl rfl
set_option maxRecDepth 100000 in
theorem tw_962 : (Jvm.Cond.instanceMethod ({ cls := "WhiteRoads$Gritter", name := "nextOrder", desc := "(I)Z" } : Jvm.MethodName)) ∈ TBg := tb_in 962 rfl rfl
set_option maxRecDepth 100000 in
theorem tw_963 : (Jvm.Cond.code ({ cls := "WhiteRoads$Gritter", name := "nextOrder", desc := "(I)Z" } : Jvm.MethodName) prog_5_method_9_code (6 : Nat) (Option.some Jvm.ClassFile.FieldType.boolean)) ∈ TBg := tb_in 963 rfl rfl
set_option maxRecDepth 100000 in
theorem tw_964 : (Jvm.Cond.methodLink "WhiteRoads$Gritter" (118 : Nat) ({ cls := "WhiteRoads$Gritter", name := "swap", desc := "(II)V" } : Jvm.MethodName)) ∈ TBg := tb_in 964 rfl rfl
set_option maxRecDepth 100000 in
theorem tw_966 : (Jvm.Cond.instanceMethod ({ cls := "WhiteRoads$Gritter", name := "swap", desc := "(II)V" } : Jvm.MethodName)) ∈ TBg := tb_in 966 rfl rfl
set_option maxRecDepth 100000 in
theorem tw_967 : (Jvm.Cond.code ({ cls := "WhiteRoads$Gritter", name := "swap", desc := "(II)V" } : Jvm.MethodName) prog_5_method_10_code (4 : Nat) (Option.none : Option Jvm.ClassFile.FieldType)) ∈ TBg := tb_in 967 rfl rfl
set_option maxRecDepth 100000 in
theorem tw_968 : (Jvm.Cond.methodLink "WhiteRoadsLaw" (83 : Nat) ({ cls := "WhiteRoads", name := "lies", desc := "(I)I" } : Jvm.MethodName)) ∈ TBg := tb_in 968 rfl rfl
set_option maxRecDepth 100000 in
theorem tw_969 : (Jvm.Cond.instanceMethod ({ cls := "WhiteRoads", name := "lies", desc := "(I)I" } : Jvm.MethodName)) ∈ TBg := tb_in 969 rfl rfl
set_option maxRecDepth 100000 in
theorem tw_970 : (Jvm.Cond.selects "WhiteRoads" ({ cls := "WhiteRoads", name := "lies", desc := "(I)I" } : Jvm.MethodName) ({ cls := "WhiteRoads", name := "lies", desc := "(I)I" } : Jvm.MethodName)) ∈ TBg := tb_in 970 rfl rfl
set_option maxRecDepth 100000 in
theorem tw_971 : (Jvm.Cond.code ({ cls := "WhiteRoads", name := "lies", desc := "(I)I" } : Jvm.MethodName) prog_1_method_18_code (2 : Nat) (Option.some Jvm.ClassFile.FieldType.int)) ∈ TBg := tb_in 971 rfl rfl
set_option maxRecDepth 100000 in
theorem tw_972 : (Jvm.Cond.methodLink "WhiteRoadsLaw" (87 : Nat) ({ cls := "WhiteRoads", name := "open", desc := "(III)I" } : Jvm.MethodName)) ∈ TBg := tb_in 972 rfl rfl
set_option maxRecDepth 100000 in
theorem tw_973 : (Jvm.Cond.instanceMethod ({ cls := "WhiteRoads", name := "open", desc := "(III)I" } : Jvm.MethodName)) ∈ TBg := tb_in 973 rfl rfl
set_option maxRecDepth 100000 in
theorem tw_974 : (Jvm.Cond.selects "WhiteRoads" ({ cls := "WhiteRoads", name := "open", desc := "(III)I" } : Jvm.MethodName) ({ cls := "WhiteRoads", name := "open", desc := "(III)I" } : Jvm.MethodName)) ∈ TBg := tb_in 974 rfl rfl
set_option maxRecDepth 100000 in
theorem tw_975 : (Jvm.Cond.code ({ cls := "WhiteRoads", name := "open", desc := "(III)I" } : Jvm.MethodName) prog_1_method_19_code (4 : Nat) (Option.some Jvm.ClassFile.FieldType.int)) ∈ TBg := tb_in 975 rfl rfl
set_option maxRecDepth 100000 in
theorem tw_976 : (Jvm.Cond.methodLink "WhiteRoads" (248 : Nat) ({ cls := "WhiteRoads$Car", name := "lookOut", desc := "(LWhiteRoads$Day;LWhiteRoads$Outlook;)V" } : Jvm.MethodName)) ∈ TBg := tb_in 976 rfl rfl
set_option maxRecDepth 100000 in
theorem tw_977 : (Jvm.Cond.instanceMethod ({ cls := "WhiteRoads$Car", name := "lookOut", desc := "(LWhiteRoads$Day;LWhiteRoads$Outlook;)V" } : Jvm.MethodName)) ∈ TBg := tb_in 977 rfl rfl
set_option maxRecDepth 100000 in
theorem tw_978 : (Jvm.Cond.selects "WhiteRoads$Car" ({ cls := "WhiteRoads$Car", name := "lookOut", desc := "(LWhiteRoads$Day;LWhiteRoads$Outlook;)V" } : Jvm.MethodName) ({ cls := "WhiteRoads$Car", name := "lookOut", desc := "(LWhiteRoads$Day;LWhiteRoads$Outlook;)V" } : Jvm.MethodName)) ∈ TBg := tb_in 978 rfl rfl
set_option maxRecDepth 100000 in
theorem tw_979 : (Jvm.Cond.code ({ cls := "WhiteRoads$Car", name := "lookOut", desc := "(LWhiteRoads$Day;LWhiteRoads$Outlook;)V" } : Jvm.MethodName) prog_2_method_2_code (4 : Nat) (Option.none : Option Jvm.ClassFile.FieldType)) ∈ TBg := tb_in 979 rfl rfl
set_option maxRecDepth 100000 in
theorem tw_980 : (Jvm.Cond.methodLink "WhiteRoads$Car" (18 : Nat) ({ cls := "java/util/Arrays", name := "fill", desc := "([II)V" } : Jvm.MethodName)) ∈ TBg := tb_in 980 rfl rfl
set_option maxRecDepth 100000 in
theorem tw_981 : (Jvm.Cond.methodLink "WhiteRoads$Car" (36 : Nat) ({ cls := "WhiteRoads$Outlook", name := "markBlocked", desc := "(LWhiteRoads$Day;I[I)V" } : Jvm.MethodName)) ∈ TBg := tb_in 981 rfl rfl
set_option maxRecDepth 100000 in
theorem tw_982 : (Jvm.Cond.instanceMethod ({ cls := "WhiteRoads$Outlook", name := "markBlocked", desc := "(LWhiteRoads$Day;I[I)V" } : Jvm.MethodName)) ∈ TBg := tb_in 982 rfl rfl
set_option maxRecDepth 100000 in
theorem tw_983 : (Jvm.Cond.selects "WhiteRoads$Outlook" ({ cls := "WhiteRoads$Outlook", name := "markBlocked", desc := "(LWhiteRoads$Day;I[I)V" } : Jvm.MethodName) ({ cls := "WhiteRoads$Outlook", name := "markBlocked", desc := "(LWhiteRoads$Day;I[I)V" } : Jvm.MethodName)) ∈ TBg := tb_in 983 rfl rfl
set_option maxRecDepth 100000 in
theorem tw_984 : (Jvm.Cond.code ({ cls := "WhiteRoads$Outlook", name := "markBlocked", desc := "(LWhiteRoads$Day;I[I)V" } : Jvm.MethodName) prog_9_method_5_code (6 : Nat) (Option.none : Option Jvm.ClassFile.FieldType)) ∈ TBg := tb_in 984 rfl rfl
set_option maxRecDepth 100000 in
theorem tw_985 : (Jvm.Cond.methodLink "WhiteRoads$Outlook" (64 : Nat) ({ cls := "WhiteRoads$Ground", name := "isBlocked", desc := "(LWhiteRoads$Told;)Z" } : Jvm.MethodName)) ∈ TBg := tb_in 985 rfl rfl
set_option maxRecDepth 100000 in
theorem tw_986 : (Jvm.Cond.methodLink "WhiteRoads" (252 : Nat) ({ cls := "WhiteRoads$Car", name := "fewestMinutes", desc := "(LWhiteRoads$Land;III)I" } : Jvm.MethodName)) ∈ TBg := tb_in 986 rfl rfl
set_option maxRecDepth 100000 in
theorem tw_987 : (Jvm.Cond.instanceMethod ({ cls := "WhiteRoads$Car", name := "fewestMinutes", desc := "(LWhiteRoads$Land;III)I" } : Jvm.MethodName)) ∈ TBg := tb_in 987 rfl rfl
set_option maxRecDepth 100000 in
theorem tw_988 : (Jvm.Cond.selects "WhiteRoads$Car" ({ cls := "WhiteRoads$Car", name := "fewestMinutes", desc := "(LWhiteRoads$Land;III)I" } : Jvm.MethodName) ({ cls := "WhiteRoads$Car", name := "fewestMinutes", desc := "(LWhiteRoads$Land;III)I" } : Jvm.MethodName)) ∈ TBg := tb_in 988 rfl rfl
set_option maxRecDepth 100000 in
theorem tw_989 : (Jvm.Cond.code ({ cls := "WhiteRoads$Car", name := "fewestMinutes", desc := "(LWhiteRoads$Land;III)I" } : Jvm.MethodName) prog_2_method_3_code (8 : Nat) (Option.some Jvm.ClassFile.FieldType.int)) ∈ TBg := tb_in 989 rfl rfl
set_option maxRecDepth 100000 in
theorem tw_990 : (Jvm.Cond.methodLink "WhiteRoads$Car" (42 : Nat) ({ cls := "WhiteRoads$Car", name := "arrive", desc := "(III)V" } : Jvm.MethodName)) ∈ TBg := tb_in 990 rfl rfl
set_option maxRecDepth 100000 in
theorem tw_992 : (Jvm.Cond.instanceMethod ({ cls := "WhiteRoads$Car", name := "arrive", desc := "(III)V" } : Jvm.MethodName)) ∈ TBg := tb_in 992 rfl rfl
set_option maxRecDepth 100000 in
theorem tw_993 : (Jvm.Cond.code ({ cls := "WhiteRoads$Car", name := "arrive", desc := "(III)V" } : Jvm.MethodName) prog_2_method_4_code (5 : Nat) (Option.none : Option Jvm.ClassFile.FieldType)) ∈ TBg := tb_in 993 rfl rfl
set_option maxRecDepth 100000 in
theorem tw_994 : (Jvm.Cond.methodLink "WhiteRoads$Car" (58 : Nat) ({ cls := "java/lang/Math", name := "min", desc := "(II)I" } : Jvm.MethodName)) ∈ TBg := tb_in 994 rfl rfl
set_option maxRecDepth 100000 in
theorem tw_995 : (Jvm.Cond.methodLink "WhiteRoadsLaw" (91 : Nat) ({ cls := "WhiteRoads", name := "read", desc := "(IIIII)I" } : Jvm.MethodName)) ∈ TBg := tb_in 995 rfl rfl
set_option maxRecDepth 100000 in
theorem tw_996 : (Jvm.Cond.instanceMethod ({ cls := "WhiteRoads", name := "read", desc := "(IIIII)I" } : Jvm.MethodName)) ∈ TBg := tb_in 996 rfl rfl
set_option maxRecDepth 100000 in
theorem tw_997 : (Jvm.Cond.selects "WhiteRoads" ({ cls := "WhiteRoads", name := "read", desc := "(IIIII)I" } : Jvm.MethodName) ({ cls := "WhiteRoads", name := "read", desc := "(IIIII)I" } : Jvm.MethodName)) ∈ TBg := tb_in 997 rfl rfl
set_option maxRecDepth 100000 in
theorem tw_998 : (Jvm.Cond.code ({ cls := "WhiteRoads", name := "read", desc := "(IIIII)I" } : Jvm.MethodName) prog_1_method_20_code (8 : Nat) (Option.some Jvm.ClassFile.FieldType.int)) ∈ TBg := tb_in 998 rfl rfl
set_option maxRecDepth 100000 in
theorem tw_999 : (Jvm.Cond.methodLink "WhiteRoads" (256 : Nat) ({ cls := "WhiteRoads$Glasses", name := "lookBack", desc := "(LWhiteRoads$Land;III)V" } : Jvm.MethodName)) ∈ TBg := tb_in 999 rfl rfl
set_option maxRecDepth 100000 in
theorem tw_1000 : (Jvm.Cond.instanceMethod ({ cls := "WhiteRoads$Glasses", name := "lookBack", desc := "(LWhiteRoads$Land;III)V" } : Jvm.MethodName)) ∈ TBg := tb_in 1000 rfl rfl
set_option maxRecDepth 100000 in
theorem tw_1001 : (Jvm.Cond.selects "WhiteRoads$Glasses" ({ cls := "WhiteRoads$Glasses", name := "lookBack", desc := "(LWhiteRoads$Land;III)V" } : Jvm.MethodName) ({ cls := "WhiteRoads$Glasses", name := "lookBack", desc := "(LWhiteRoads$Land;III)V" } : Jvm.MethodName)) ∈ TBg := tb_in 1001 rfl rfl
set_option maxRecDepth 100000 in
theorem tw_1002 : (Jvm.Cond.code ({ cls := "WhiteRoads$Glasses", name := "lookBack", desc := "(LWhiteRoads$Land;III)V" } : Jvm.MethodName) prog_4_method_6_code (7 : Nat) (Option.none : Option Jvm.ClassFile.FieldType)) ∈ TBg := tb_in 1002 rfl rfl
set_option maxRecDepth 100000 in
theorem tw_1003 : (Jvm.Cond.methodLink "WhiteRoads$Glasses" (53 : Nat) ({ cls := "WhiteRoads$Ground", name := "begin", desc := "(LWhiteRoads$Told;)V" } : Jvm.MethodName)) ∈ TBg := tb_in 1003 rfl rfl
set_option maxRecDepth 100000 in
theorem tw_1004 : (Jvm.Cond.methodLink "WhiteRoads$Glasses" (60 : Nat) ({ cls := "WhiteRoads$Ground", name := "goStep", desc := "(LWhiteRoads$Told;LWhiteRoads$Land;II)V" } : Jvm.MethodName)) ∈ TBg := tb_in 1004 rfl rfl
set_option maxRecDepth 100000 in
theorem tw_1005 : (Jvm.Cond.methodLink "WhiteRoads" (260 : Nat) ({ cls := "WhiteRoads$Glasses", name := "shown", desc := "(I)I" } : Jvm.MethodName)) ∈ TBg := tb_in 1005 rfl rfl
set_option maxRecDepth 100000 in
theorem tw_1006 : (Jvm.Cond.instanceMethod ({ cls := "WhiteRoads$Glasses", name := "shown", desc := "(I)I" } : Jvm.MethodName)) ∈ TBg := tb_in 1006 rfl rfl
set_option maxRecDepth 100000 in
theorem tw_1007 : (Jvm.Cond.selects "WhiteRoads$Glasses" ({ cls := "WhiteRoads$Glasses", name := "shown", desc := "(I)I" } : Jvm.MethodName) ({ cls := "WhiteRoads$Glasses", name := "shown", desc := "(I)I" } : Jvm.MethodName)) ∈ TBg := tb_in 1007 rfl rfl
set_option maxRecDepth 100000 in
theorem tw_1008 : (Jvm.Cond.code ({ cls := "WhiteRoads$Glasses", name := "shown", desc := "(I)I" } : Jvm.MethodName) prog_4_method_7_code (2 : Nat) (Option.some Jvm.ClassFile.FieldType.int)) ∈ TBg := tb_in 1008 rfl rfl
set_option maxRecDepth 100000 in
theorem tw_1009 : (Jvm.Cond.methodLink "WhiteRoads" (263 : Nat) ({ cls := "java/lang/Math", name := "abs", desc := "(I)I" } : Jvm.MethodName)) ∈ TBg := tb_in 1009 rfl rfl
set_option maxRecDepth 100000 in
theorem tw_1010 : (Jvm.Cond.static ({ cls := "java/lang/Math", name := "abs", desc := "(I)I" } : Jvm.MethodName)) ∈ TBg := tb_in 1010 rfl rfl
set_option maxRecDepth 100000 in
theorem tw_1011 : (Jvm.Cond.code ({ cls := "java/lang/Math", name := "abs", desc := "(I)I" } : Jvm.MethodName) prog_16_method_59_code (1 : Nat) (Option.some Jvm.ClassFile.FieldType.int)) ∈ TBg := tb_in 1011 rfl rfl
set_option maxRecDepth 100000 in
theorem tw_1012 : (Jvm.Cond.methodLink "WhiteRoads" (268 : Nat) ({ cls := "WhiteRoads$Glasses", name := "add", desc := "(II)I" } : Jvm.MethodName)) ∈ TBg := tb_in 1012 rfl rfl
set_option maxRecDepth 100000 in
theorem tw_1013 : (Jvm.Cond.instanceMethod ({ cls := "WhiteRoads$Glasses", name := "add", desc := "(II)I" } : Jvm.MethodName)) ∈ TBg := tb_in 1013 rfl rfl
set_option maxRecDepth 100000 in
theorem tw_1014 : (Jvm.Cond.selects "WhiteRoads$Glasses" ({ cls := "WhiteRoads$Glasses", name := "add", desc := "(II)I" } : Jvm.MethodName) ({ cls := "WhiteRoads$Glasses", name := "add", desc := "(II)I" } : Jvm.MethodName)) ∈ TBg := tb_in 1014 rfl rfl
set_option maxRecDepth 100000 in
theorem tw_1015 : (Jvm.Cond.code ({ cls := "WhiteRoads$Glasses", name := "add", desc := "(II)I" } : Jvm.MethodName) prog_4_method_3_code (3 : Nat) (Option.some Jvm.ClassFile.FieldType.int)) ∈ TBg := tb_in 1015 rfl rfl
set_option maxRecDepth 100000 in
theorem tw_1016 : (Jvm.Cond.methodLink "WhiteRoadsLaw" (95 : Nat) ({ cls := "WhiteRoads", name := "untell", desc := "(I)Z" } : Jvm.MethodName)) ∈ TBg := tb_in 1016 rfl rfl
set_option maxRecDepth 100000 in
theorem tw_1017 : (Jvm.Cond.instanceMethod ({ cls := "WhiteRoads", name := "untell", desc := "(I)Z" } : Jvm.MethodName)) ∈ TBg := tb_in 1017 rfl rfl
set_option maxRecDepth 100000 in
theorem tw_1018 : (Jvm.Cond.selects "WhiteRoads" ({ cls := "WhiteRoads", name := "untell", desc := "(I)Z" } : Jvm.MethodName) ({ cls := "WhiteRoads", name := "untell", desc := "(I)Z" } : Jvm.MethodName)) ∈ TBg := tb_in 1018 rfl rfl
set_option maxRecDepth 100000 in
theorem tw_1019 : (Jvm.Cond.code ({ cls := "WhiteRoads", name := "untell", desc := "(I)Z" } : Jvm.MethodName) prog_1_method_21_code (2 : Nat) (Option.some Jvm.ClassFile.FieldType.boolean)) ∈ TBg := tb_in 1019 rfl rfl
set_option maxRecDepth 100000 in
theorem tw_1020 : (Jvm.Cond.methodLink "WhiteRoads" (272 : Nat) ({ cls := "WhiteRoads$Glasses", name := "takeBack", desc := "(II)Z" } : Jvm.MethodName)) ∈ TBg := tb_in 1020 rfl rfl
set_option maxRecDepth 100000 in
theorem tw_1021 : (Jvm.Cond.instanceMethod ({ cls := "WhiteRoads$Glasses", name := "takeBack", desc := "(II)Z" } : Jvm.MethodName)) ∈ TBg := tb_in 1021 rfl rfl
set_option maxRecDepth 100000 in
theorem tw_1022 : (Jvm.Cond.selects "WhiteRoads$Glasses" ({ cls := "WhiteRoads$Glasses", name := "takeBack", desc := "(II)Z" } : Jvm.MethodName) ({ cls := "WhiteRoads$Glasses", name := "takeBack", desc := "(II)Z" } : Jvm.MethodName)) ∈ TBg := tb_in 1022 rfl rfl
set_option maxRecDepth 100000 in
theorem tw_1023 : (Jvm.Cond.code ({ cls := "WhiteRoads$Glasses", name := "takeBack", desc := "(II)Z" } : Jvm.MethodName) prog_4_method_4_code (3 : Nat) (Option.some Jvm.ClassFile.FieldType.boolean)) ∈ TBg := tb_in 1023 rfl rfl
set_option maxRecDepth 100000 in
theorem tw_1024 : (Jvm.Cond.methodLink "WhiteRoadsLaw" (100 : Nat) ({ cls := "WhiteRoads", name := "later", desc := "(I)I" } : Jvm.MethodName)) ∈ TBg := tb_in 1024 rfl rfl
set_option maxRecDepth 100000 in
theorem tw_1025 : (Jvm.Cond.instanceMethod ({ cls := "WhiteRoads", name := "later", desc := "(I)I" } : Jvm.MethodName)) ∈ TBg := tb_in 1025 rfl rfl
set_option maxRecDepth 100000 in
theorem tw_1026 : (Jvm.Cond.selects "WhiteRoads" ({ cls := "WhiteRoads", name := "later", desc := "(I)I" } : Jvm.MethodName) ({ cls := "WhiteRoads", name := "later", desc := "(I)I" } : Jvm.MethodName)) ∈ TBg := tb_in 1026 rfl rfl
set_option maxRecDepth 100000 in
theorem tw_1027 : (Jvm.Cond.code ({ cls := "WhiteRoads", name := "later", desc := "(I)I" } : Jvm.MethodName) prog_1_method_22_code (2 : Nat) (Option.some Jvm.ClassFile.FieldType.int)) ∈ TBg := tb_in 1027 rfl rfl
set_option maxRecDepth 100000 in
theorem tw_1028 : (Jvm.Cond.constant "WhiteRoads" (275 : Nat) (100000 : Int32)) ∈ TBg := tb_in 1028 rfl rfl
set_option maxRecDepth 100000 in
theorem tw_1029 : (Jvm.Cond.methodLink "WhiteRoadsLaw" (104 : Nat) ({ cls := "WhiteRoads", name := "left", desc := "(I)I" } : Jvm.MethodName)) ∈ TBg := tb_in 1029 rfl rfl
set_option maxRecDepth 100000 in
theorem tw_1030 : (Jvm.Cond.instanceMethod ({ cls := "WhiteRoads", name := "left", desc := "(I)I" } : Jvm.MethodName)) ∈ TBg := tb_in 1030 rfl rfl
set_option maxRecDepth 100000 in
theorem tw_1031 : (Jvm.Cond.selects "WhiteRoads" ({ cls := "WhiteRoads", name := "left", desc := "(I)I" } : Jvm.MethodName) ({ cls := "WhiteRoads", name := "left", desc := "(I)I" } : Jvm.MethodName)) ∈ TBg := tb_in 1031 rfl rfl
set_option maxRecDepth 100000 in
theorem tw_1032 : (Jvm.Cond.code ({ cls := "WhiteRoads", name := "left", desc := "(I)I" } : Jvm.MethodName) prog_1_method_23_code (2 : Nat) (Option.some Jvm.ClassFile.FieldType.int)) ∈ TBg := tb_in 1032 rfl rfl
set_option maxRecDepth 100000 in
theorem tw_1033 : (Jvm.Cond.methodLink "WhiteRoadsLaw" (108 : Nat) ({ cls := "WhiteRoads", name := "tells", desc := "(III)I" } : Jvm.MethodName)) ∈ TBg := tb_in 1033 rfl rfl
set_option maxRecDepth 100000 in
theorem tw_1034 : (Jvm.Cond.instanceMethod ({ cls := "WhiteRoads", name := "tells", desc := "(III)I" } : Jvm.MethodName)) ∈ TBg := tb_in 1034 rfl rfl
set_option maxRecDepth 100000 in
theorem tw_1035 : (Jvm.Cond.selects "WhiteRoads" ({ cls := "WhiteRoads", name := "tells", desc := "(III)I" } : Jvm.MethodName) ({ cls := "WhiteRoads", name := "tells", desc := "(III)I" } : Jvm.MethodName)) ∈ TBg := tb_in 1035 rfl rfl
set_option maxRecDepth 100000 in
theorem tw_1036 : (Jvm.Cond.code ({ cls := "WhiteRoads", name := "tells", desc := "(III)I" } : Jvm.MethodName) prog_1_method_24_code (5 : Nat) (Option.some Jvm.ClassFile.FieldType.int)) ∈ TBg := tb_in 1036 rfl rfl
set_option maxRecDepth 100000 in
theorem tw_1037 : (Jvm.Cond.methodLink "WhiteRoads" (276 : Nat) ({ cls := "WhiteRoads$Glasses", name := "choose", desc := "(LWhiteRoads$Land;II)V" } : Jvm.MethodName)) ∈ TBg := tb_in 1037 rfl rfl
set_option maxRecDepth 100000 in
theorem tw_1038 : (Jvm.Cond.instanceMethod ({ cls := "WhiteRoads$Glasses", name := "choose", desc := "(LWhiteRoads$Land;II)V" } : Jvm.MethodName)) ∈ TBg := tb_in 1038 rfl rfl
set_option maxRecDepth 100000 in
theorem tw_1039 : (Jvm.Cond.selects "WhiteRoads$Glasses" ({ cls := "WhiteRoads$Glasses", name := "choose", desc := "(LWhiteRoads$Land;II)V" } : Jvm.MethodName) ({ cls := "WhiteRoads$Glasses", name := "choose", desc := "(LWhiteRoads$Land;II)V" } : Jvm.MethodName)) ∈ TBg := tb_in 1039 rfl rfl
set_option maxRecDepth 100000 in
theorem tw_1040 : (Jvm.Cond.code ({ cls := "WhiteRoads$Glasses", name := "choose", desc := "(LWhiteRoads$Land;II)V" } : Jvm.MethodName) prog_4_method_8_code (7 : Nat) (Option.none : Option Jvm.ClassFile.FieldType)) ∈ TBg := tb_in 1040 rfl rfl
set_option maxRecDepth 100000 in
theorem tw_1041 : (Jvm.Cond.methodLink "WhiteRoads$Glasses" (70 : Nat) ({ cls := "WhiteRoads$Glasses", name := "lookBack", desc := "(LWhiteRoads$Land;III)V" } : Jvm.MethodName)) ∈ TBg := tb_in 1041 rfl rfl
set_option maxRecDepth 100000 in
theorem tw_1042 : (Jvm.Cond.methodLink "WhiteRoads$Glasses" (74 : Nat) ({ cls := "java/lang/System", name := "arraycopy", desc := "(Ljava/lang/Object;ILjava/lang/Object;II)V" } : Jvm.MethodName)) ∈ TBg := tb_in 1042 rfl rfl
set_option maxRecDepth 100000 in
theorem tw_1043 : (Jvm.Cond.methodLink "WhiteRoads$Glasses" (85 : Nat) ({ cls := "WhiteRoads$Glasses", name := "mostAlike", desc := "(III)I" } : Jvm.MethodName)) ∈ TBg := tb_in 1043 rfl rfl
set_option maxRecDepth 100000 in
theorem tw_1045 : (Jvm.Cond.instanceMethod ({ cls := "WhiteRoads$Glasses", name := "mostAlike", desc := "(III)I" } : Jvm.MethodName)) ∈ TBg := tb_in 1045 rfl rfl
set_option maxRecDepth 100000 in
theorem tw_1046 : (Jvm.Cond.code ({ cls := "WhiteRoads$Glasses", name := "mostAlike", desc := "(III)I" } : Jvm.MethodName) prog_4_method_9_code (9 : Nat) (Option.some Jvm.ClassFile.FieldType.int)) ∈ TBg := tb_in 1046 rfl rfl
set_option maxRecDepth 100000 in
theorem tw_1047 : (Jvm.Cond.methodLink "WhiteRoads$Glasses" (89 : Nat) ({ cls := "java/lang/Math", name := "max", desc := "(II)I" } : Jvm.MethodName)) ∈ TBg := tb_in 1047 rfl rfl
set_option maxRecDepth 100000 in
theorem tw_1048 : (Jvm.Cond.methodLink "WhiteRoadsLaw" (112 : Nat) ({ cls := "WhiteRoads", name := "image", desc := "(I)I" } : Jvm.MethodName)) ∈ TBg := tb_in 1048 rfl rfl
set_option maxRecDepth 100000 in
theorem tw_1049 : (Jvm.Cond.instanceMethod ({ cls := "WhiteRoads", name := "image", desc := "(I)I" } : Jvm.MethodName)) ∈ TBg := tb_in 1049 rfl rfl
set_option maxRecDepth 100000 in
theorem tw_1050 : (Jvm.Cond.selects "WhiteRoads" ({ cls := "WhiteRoads", name := "image", desc := "(I)I" } : Jvm.MethodName) ({ cls := "WhiteRoads", name := "image", desc := "(I)I" } : Jvm.MethodName)) ∈ TBg := tb_in 1050 rfl rfl
set_option maxRecDepth 100000 in
theorem tw_1051 : (Jvm.Cond.code ({ cls := "WhiteRoads", name := "image", desc := "(I)I" } : Jvm.MethodName) prog_1_method_25_code (2 : Nat) (Option.some Jvm.ClassFile.FieldType.int)) ∈ TBg := tb_in 1051 rfl rfl
set_option maxRecDepth 100000 in
theorem tw_1052 : (Jvm.Cond.methodLink "WhiteRoads" (289 : Nat) ({ cls := "WhiteRoads$Day", name := "keepIn", desc := "([I)V" } : Jvm.MethodName)) ∈ TBg := tb_in 1052 rfl rfl
set_option maxRecDepth 100000 in
theorem tw_1053 : (Jvm.Cond.instanceMethod ({ cls := "WhiteRoads$Day", name := "keepIn", desc := "([I)V" } : Jvm.MethodName)) ∈ TBg := tb_in 1053 rfl rfl
set_option maxRecDepth 100000 in
theorem tw_1054 : (Jvm.Cond.selects "WhiteRoads$Day" ({ cls := "WhiteRoads$Day", name := "keepIn", desc := "([I)V" } : Jvm.MethodName) ({ cls := "WhiteRoads$Day", name := "keepIn", desc := "([I)V" } : Jvm.MethodName)) ∈ TBg := tb_in 1054 rfl rfl
set_option maxRecDepth 100000 in
theorem tw_1055 : (Jvm.Cond.code ({ cls := "WhiteRoads$Day", name := "keepIn", desc := "([I)V" } : Jvm.MethodName) prog_3_method_5_code (3 : Nat) (Option.none : Option Jvm.ClassFile.FieldType)) ∈ TBg := tb_in 1055 rfl rfl
set_option maxRecDepth 100000 in
theorem tw_1056 : (Jvm.Cond.methodLink "WhiteRoads$Day" (55 : Nat) ({ cls := "WhiteRoads$Ground", name := "keepIn", desc := "([II)V" } : Jvm.MethodName)) ∈ TBg := tb_in 1056 rfl rfl
set_option maxRecDepth 100000 in
theorem tw_1057 : (Jvm.Cond.instanceMethod ({ cls := "WhiteRoads$Ground", name := "keepIn", desc := "([II)V" } : Jvm.MethodName)) ∈ TBg := tb_in 1057 rfl rfl
set_option maxRecDepth 100000 in
theorem tw_1058 : (Jvm.Cond.selects "WhiteRoads$Ground" ({ cls := "WhiteRoads$Ground", name := "keepIn", desc := "([II)V" } : Jvm.MethodName) ({ cls := "WhiteRoads$Ground", name := "keepIn", desc := "([II)V" } : Jvm.MethodName)) ∈ TBg := tb_in 1058 rfl rfl
set_option maxRecDepth 100000 in
theorem tw_1059 : (Jvm.Cond.code ({ cls := "WhiteRoads$Ground", name := "keepIn", desc := "([II)V" } : Jvm.MethodName) prog_6_method_4_code (3 : Nat) (Option.none : Option Jvm.ClassFile.FieldType)) ∈ TBg := tb_in 1059 rfl rfl
set_option maxRecDepth 100000 in
theorem tw_1060 : (Jvm.Cond.methodLink "WhiteRoadsLaw" (116 : Nat) ({ cls := "WhiteRoads", name := "back", desc := "(I)I" } : Jvm.MethodName)) ∈ TBg := tb_in 1060 rfl rfl
set_option maxRecDepth 100000 in
theorem tw_1061 : (Jvm.Cond.instanceMethod ({ cls := "WhiteRoads", name := "back", desc := "(I)I" } : Jvm.MethodName)) ∈ TBg := tb_in 1061 rfl rfl
set_option maxRecDepth 100000 in
theorem tw_1062 : (Jvm.Cond.selects "WhiteRoads" ({ cls := "WhiteRoads", name := "back", desc := "(I)I" } : Jvm.MethodName) ({ cls := "WhiteRoads", name := "back", desc := "(I)I" } : Jvm.MethodName)) ∈ TBg := tb_in 1062 rfl rfl
set_option maxRecDepth 100000 in
theorem tw_1063 : (Jvm.Cond.code ({ cls := "WhiteRoads", name := "back", desc := "(I)I" } : Jvm.MethodName) prog_1_method_26_code (2 : Nat) (Option.some Jvm.ClassFile.FieldType.int)) ∈ TBg := tb_in 1063 rfl rfl
set_option maxRecDepth 100000 in
theorem tw_1064 : (Jvm.Cond.methodLink "WhiteRoads" (293 : Nat) ({ cls := "WhiteRoads$Day", name := "takeFrom", desc := "([I)V" } : Jvm.MethodName)) ∈ TBg := tb_in 1064 rfl rfl
set_option maxRecDepth 100000 in
theorem tw_1065 : (Jvm.Cond.instanceMethod ({ cls := "WhiteRoads$Day", name := "takeFrom", desc := "([I)V" } : Jvm.MethodName)) ∈ TBg := tb_in 1065 rfl rfl
set_option maxRecDepth 100000 in
theorem tw_1066 : (Jvm.Cond.selects "WhiteRoads$Day" ({ cls := "WhiteRoads$Day", name := "takeFrom", desc := "([I)V" } : Jvm.MethodName) ({ cls := "WhiteRoads$Day", name := "takeFrom", desc := "([I)V" } : Jvm.MethodName)) ∈ TBg := tb_in 1066 rfl rfl
set_option maxRecDepth 100000 in
theorem tw_1067 : (Jvm.Cond.code ({ cls := "WhiteRoads$Day", name := "takeFrom", desc := "([I)V" } : Jvm.MethodName) prog_3_method_6_code (3 : Nat) (Option.none : Option Jvm.ClassFile.FieldType)) ∈ TBg := tb_in 1067 rfl rfl
set_option maxRecDepth 100000 in
theorem tw_1068 : (Jvm.Cond.methodLink "WhiteRoads$Day" (59 : Nat) ({ cls := "WhiteRoads$Ground", name := "takeFrom", desc := "([II)V" } : Jvm.MethodName)) ∈ TBg := tb_in 1068 rfl rfl
set_option maxRecDepth 100000 in
theorem tw_1069 : (Jvm.Cond.instanceMethod ({ cls := "WhiteRoads$Ground", name := "takeFrom", desc := "([II)V" } : Jvm.MethodName)) ∈ TBg := tb_in 1069 rfl rfl
set_option maxRecDepth 100000 in
theorem tw_1070 : (Jvm.Cond.selects "WhiteRoads$Ground" ({ cls := "WhiteRoads$Ground", name := "takeFrom", desc := "([II)V" } : Jvm.MethodName) ({ cls := "WhiteRoads$Ground", name := "takeFrom", desc := "([II)V" } : Jvm.MethodName)) ∈ TBg := tb_in 1070 rfl rfl
set_option maxRecDepth 100000 in
theorem tw_1071 : (Jvm.Cond.code ({ cls := "WhiteRoads$Ground", name := "takeFrom", desc := "([II)V" } : Jvm.MethodName) prog_6_method_5_code (3 : Nat) (Option.none : Option Jvm.ClassFile.FieldType)) ∈ TBg := tb_in 1071 rfl rfl
set_option maxRecDepth 100000 in
theorem tw_1072 : (Jvm.Cond.methodLink "WhiteRoadsLaw" (120 : Nat) ({ cls := "WhiteRoads", name := "about", desc := "(I)I" } : Jvm.MethodName)) ∈ TBg := tb_in 1072 rfl rfl
set_option maxRecDepth 100000 in
theorem tw_1073 : (Jvm.Cond.instanceMethod ({ cls := "WhiteRoads", name := "about", desc := "(I)I" } : Jvm.MethodName)) ∈ TBg := tb_in 1073 rfl rfl
set_option maxRecDepth 100000 in
theorem tw_1074 : (Jvm.Cond.selects "WhiteRoads" ({ cls := "WhiteRoads", name := "about", desc := "(I)I" } : Jvm.MethodName) ({ cls := "WhiteRoads", name := "about", desc := "(I)I" } : Jvm.MethodName)) ∈ TBg := tb_in 1074 rfl rfl
set_option maxRecDepth 100000 in
theorem tw_1075 : (Jvm.Cond.code ({ cls := "WhiteRoads", name := "about", desc := "(I)I" } : Jvm.MethodName) prog_1_method_27_code (2 : Nat) (Option.some Jvm.ClassFile.FieldType.int)) ∈ TBg := tb_in 1075 rfl rfl
set_option maxRecDepth 100000 in
theorem tw_1076 : (Jvm.Cond.classLink "WhiteRoadsLaw" (10 : Nat) "WhiteRoadsModel") ∈ TBg := tb_in 1076 rfl rfl
set_option maxRecDepth 100000 in
theorem tw_1077 : (Jvm.Cond.instantiable "WhiteRoadsModel" (79 : Nat)) ∈ TBg := tb_in 1077 rfl rfl
set_option maxRecDepth 100000 in
theorem tw_1078 : (Jvm.Cond.methodLink "WhiteRoadsLaw" (12 : Nat) ({ cls := "WhiteRoadsModel", name := "<init>", desc := "()V" } : Jvm.MethodName)) ∈ TBg := tb_in 1078 rfl rfl
set_option maxRecDepth 100000 in
theorem tw_1079 : (Jvm.Cond.instanceMethod ({ cls := "WhiteRoadsModel", name := "<init>", desc := "()V" } : Jvm.MethodName)) ∈ TBg := tb_in 1079 rfl rfl
set_option maxRecDepth 100000 in
theorem tw_1080 : (Jvm.Cond.code ({ cls := "WhiteRoadsModel", name := "<init>", desc := "()V" } : Jvm.MethodName) prog_14_method_1_code (1 : Nat) (Option.none : Option Jvm.ClassFile.FieldType)) ∈ TBg := tb_in 1080 rfl rfl
set_option maxRecDepth 100000 in
theorem tw_1081 : (Jvm.Cond.methodLink "WhiteRoadsModel" (1 : Nat) ({ cls := "java/lang/Object", name := "<init>", desc := "()V" } : Jvm.MethodName)) ∈ TBg := tb_in 1081 rfl rfl
set_option maxRecDepth 100000 in
theorem tw_1082 : (Jvm.Cond.fieldLink "WhiteRoadsModel" (7 : Nat) "WhiteRoadsModel" "tape" "[I") ∈ TBg := tb_in 1082 rfl rfl
set_option maxRecDepth 100000 in
theorem tw_1083 : (Jvm.Cond.fieldLink "WhiteRoadsModel" (157 : Nat) "WhiteRoadsModel" "taped" "I") ∈ TBg := tb_in 1083 rfl rfl
set_option maxRecDepth 100000 in
theorem tw_1084 : (Jvm.Cond.fieldLink "WhiteRoadsModel" (194 : Nat) "WhiteRoadsModel" "fault" "I") ∈ TBg := tb_in 1084 rfl rfl
set_option maxRecDepth 100000 in
theorem tw_1085 : (Jvm.Cond.fieldLink "WhiteRoadsModel" (13 : Nat) "WhiteRoadsModel" "faultPlace" "I") ∈ TBg := tb_in 1085 rfl rfl
set_option maxRecDepth 100000 in
theorem tw_1086 : (Jvm.Cond.fieldLink "WhiteRoadsModel" (164 : Nat) "WhiteRoadsModel" "at" "I") ∈ TBg := tb_in 1086 rfl rfl
set_option maxRecDepth 100000 in
theorem tw_1087 : (Jvm.Cond.fieldLink "WhiteRoadsModel" (167 : Nat) "WhiteRoadsModel" "size" "I") ∈ TBg := tb_in 1087 rfl rfl
set_option maxRecDepth 100000 in
theorem tw_1088 : (Jvm.Cond.fieldLink "WhiteRoadsModel" (184 : Nat) "WhiteRoadsModel" "sort" "I") ∈ TBg := tb_in 1088 rfl rfl
set_option maxRecDepth 100000 in
theorem tw_1089 : (Jvm.Cond.fieldLink "WhiteRoadsModel" (174 : Nat) "WhiteRoadsModel" "place" "I") ∈ TBg := tb_in 1089 rfl rfl
set_option maxRecDepth 100000 in
theorem tw_1090 : (Jvm.Cond.fieldLink "WhiteRoadsModel" (181 : Nat) "WhiteRoadsModel" "number" "I") ∈ TBg := tb_in 1090 rfl rfl
set_option maxRecDepth 100000 in
theorem tw_1091 : (Jvm.Cond.fieldLink "WhiteRoadsModel" (177 : Nat) "WhiteRoadsModel" "word" "J") ∈ TBg := tb_in 1091 rfl rfl
set_option maxRecDepth 100000 in
theorem tw_1092 : (Jvm.Cond.fieldLink "WhiteRoadsModel" (17 : Nat) "WhiteRoadsModel" "nName" "[J") ∈ TBg := tb_in 1092 rfl rfl
set_option maxRecDepth 100000 in
theorem tw_1093 : (Jvm.Cond.fieldLink "WhiteRoadsModel" (21 : Nat) "WhiteRoadsModel" "nSort" "[I") ∈ TBg := tb_in 1093 rfl rfl
set_option maxRecDepth 100000 in
theorem tw_1094 : (Jvm.Cond.fieldLink "WhiteRoadsModel" (24 : Nat) "WhiteRoadsModel" "nSlope" "[I") ∈ TBg := tb_in 1094 rfl rfl
set_option maxRecDepth 100000 in
theorem tw_1095 : (Jvm.Cond.fieldLink "WhiteRoadsModel" (27 : Nat) "WhiteRoadsModel" "nTraffic" "[I") ∈ TBg := tb_in 1095 rfl rfl
set_option maxRecDepth 100000 in
theorem tw_1096 : (Jvm.Cond.fieldLink "WhiteRoadsModel" (30 : Nat) "WhiteRoadsModel" "nLayers" "[I") ∈ TBg := tb_in 1096 rfl rfl
set_option maxRecDepth 100000 in
theorem tw_1097 : (Jvm.Cond.fieldLink "WhiteRoadsModel" (33 : Nat) "WhiteRoadsModel" "nWarm" "[I") ∈ TBg := tb_in 1097 rfl rfl
set_option maxRecDepth 100000 in
theorem tw_1098 : (Jvm.Cond.fieldLink "WhiteRoadsModel" (36 : Nat) "WhiteRoadsModel" "nTakes" "[I") ∈ TBg := tb_in 1098 rfl rfl
set_option maxRecDepth 100000 in
theorem tw_1099 : (Jvm.Cond.fieldLink "WhiteRoadsModel" (39 : Nat) "WhiteRoadsModel" "nFall" "[I") ∈ TBg := tb_in 1099 rfl rfl
set_option maxRecDepth 100000 in
theorem tw_1100 : (Jvm.Cond.fieldLink "WhiteRoadsModel" (42 : Nat) "WhiteRoadsModel" "nTemp" "[I") ∈ TBg := tb_in 1100 rfl rfl
set_option maxRecDepth 100000 in
theorem tw_1101 : (Jvm.Cond.fieldLink "WhiteRoadsModel" (45 : Nat) "WhiteRoadsModel" "nWet" "[I") ∈ TBg := tb_in 1101 rfl rfl
set_option maxRecDepth 100000 in
theorem tw_1102 : (Jvm.Cond.fieldLink "WhiteRoadsModel" (48 : Nat) "WhiteRoadsModel" "nSlip" "[I") ∈ TBg := tb_in 1102 rfl rfl
set_option maxRecDepth 100000 in
theorem tw_1103 : (Jvm.Cond.fieldLink "WhiteRoadsModel" (51 : Nat) "WhiteRoadsModel" "nWeight" "[I") ∈ TBg := tb_in 1103 rfl rfl
set_option maxRecDepth 100000 in
theorem tw_1104 : (Jvm.Cond.fieldLink "WhiteRoadsModel" (54 : Nat) "WhiteRoadsModel" "sortOf" "[I") ∈ TBg := tb_in 1104 rfl rfl
set_option maxRecDepth 100000 in
theorem tw_1105 : (Jvm.Cond.fieldLink "WhiteRoadsModel" (57 : Nat) "WhiteRoadsModel" "slope" "[I") ∈ TBg := tb_in 1105 rfl rfl
set_option maxRecDepth 100000 in
theorem tw_1106 : (Jvm.Cond.fieldLink "WhiteRoadsModel" (60 : Nat) "WhiteRoadsModel" "traffic" "[I") ∈ TBg := tb_in 1106 rfl rfl
set_option maxRecDepth 100000 in
theorem tw_1107 : (Jvm.Cond.fieldLink "WhiteRoadsModel" (63 : Nat) "WhiteRoadsModel" "layers" "[I") ∈ TBg := tb_in 1107 rfl rfl
set_option maxRecDepth 100000 in
theorem tw_1108 : (Jvm.Cond.fieldLink "WhiteRoadsModel" (66 : Nat) "WhiteRoadsModel" "warm" "[I") ∈ TBg := tb_in 1108 rfl rfl
set_option maxRecDepth 100000 in
theorem tw_1109 : (Jvm.Cond.fieldLink "WhiteRoadsModel" (69 : Nat) "WhiteRoadsModel" "takes" "[I") ∈ TBg := tb_in 1109 rfl rfl
set_option maxRecDepth 100000 in
theorem tw_1110 : (Jvm.Cond.fieldLink "WhiteRoadsModel" (72 : Nat) "WhiteRoadsModel" "fall" "[I") ∈ TBg := tb_in 1110 rfl rfl
set_option maxRecDepth 100000 in
theorem tw_1111 : (Jvm.Cond.fieldLink "WhiteRoadsModel" (75 : Nat) "WhiteRoadsModel" "temp" "[I") ∈ TBg := tb_in 1111 rfl rfl
set_option maxRecDepth 100000 in
theorem tw_1112 : (Jvm.Cond.fieldLink "WhiteRoadsModel" (78 : Nat) "WhiteRoadsModel" "wet" "[I") ∈ TBg := tb_in 1112 rfl rfl
set_option maxRecDepth 100000 in
theorem tw_1113 : (Jvm.Cond.fieldLink "WhiteRoadsModel" (81 : Nat) "WhiteRoadsModel" "slip" "[I") ∈ TBg := tb_in 1113 rfl rfl
set_option maxRecDepth 100000 in
theorem tw_1114 : (Jvm.Cond.fieldLink "WhiteRoadsModel" (84 : Nat) "WhiteRoadsModel" "weight" "[I") ∈ TBg := tb_in 1114 rfl rfl
set_option maxRecDepth 100000 in
theorem tw_1115 : (Jvm.Cond.fieldLink "WhiteRoadsModel" (259 : Nat) "WhiteRoadsModel" "nYards" "I") ∈ TBg := tb_in 1115 rfl rfl
set_option maxRecDepth 100000 in
theorem tw_1116 : (Jvm.Cond.fieldLink "WhiteRoadsModel" (280 : Nat) "WhiteRoadsModel" "nWays" "I") ∈ TBg := tb_in 1116 rfl rfl
set_option maxRecDepth 100000 in
theorem tw_1117 : (Jvm.Cond.fieldLink "WhiteRoadsModel" (283 : Nat) "WhiteRoadsModel" "nHours" "I") ∈ TBg := tb_in 1117 rfl rfl
set_option maxRecDepth 100000 in
theorem tw_1118 : (Jvm.Cond.fieldLink "WhiteRoadsModel" (286 : Nat) "WhiteRoadsModel" "nSlips" "I") ∈ TBg := tb_in 1118 rfl rfl
set_option maxRecDepth 100000 in
theorem tw_1119 : (Jvm.Cond.fieldLink "WhiteRoadsModel" (301 : Nat) "WhiteRoadsModel" "nCall" "I") ∈ TBg := tb_in 1119 rfl rfl
set_option maxRecDepth 100000 in
theorem tw_1120 : (Jvm.Cond.fieldLink "WhiteRoadsModel" (307 : Nat) "WhiteRoadsModel" "nHarm" "I") ∈ TBg := tb_in 1120 rfl rfl
set_option maxRecDepth 100000 in
theorem tw_1121 : (Jvm.Cond.fieldLink "WhiteRoadsModel" (310 : Nat) "WhiteRoadsModel" "nDepot" "I") ∈ TBg := tb_in 1121 rfl rfl
set_option maxRecDepth 100000 in
theorem tw_1122 : (Jvm.Cond.fieldLink "WhiteRoadsModel" (316 : Nat) "WhiteRoadsModel" "nStore" "I") ∈ TBg := tb_in 1122 rfl rfl
set_option maxRecDepth 100000 in
theorem tw_1123 : (Jvm.Cond.fieldLink "WhiteRoadsModel" (325 : Nat) "WhiteRoadsModel" "yards" "I") ∈ TBg := tb_in 1123 rfl rfl
set_option maxRecDepth 100000 in
theorem tw_1124 : (Jvm.Cond.fieldLink "WhiteRoadsModel" (328 : Nat) "WhiteRoadsModel" "ways" "I") ∈ TBg := tb_in 1124 rfl rfl
set_option maxRecDepth 100000 in
theorem tw_1125 : (Jvm.Cond.fieldLink "WhiteRoadsModel" (331 : Nat) "WhiteRoadsModel" "hours" "I") ∈ TBg := tb_in 1125 rfl rfl
set_option maxRecDepth 100000 in
theorem tw_1126 : (Jvm.Cond.fieldLink "WhiteRoadsModel" (334 : Nat) "WhiteRoadsModel" "slips" "I") ∈ TBg := tb_in 1126 rfl rfl
set_option maxRecDepth 100000 in
theorem tw_1127 : (Jvm.Cond.fieldLink "WhiteRoadsModel" (337 : Nat) "WhiteRoadsModel" "call" "I") ∈ TBg := tb_in 1127 rfl rfl
set_option maxRecDepth 100000 in
theorem tw_1128 : (Jvm.Cond.fieldLink "WhiteRoadsModel" (340 : Nat) "WhiteRoadsModel" "harm" "I") ∈ TBg := tb_in 1128 rfl rfl
set_option maxRecDepth 100000 in
theorem tw_1129 : (Jvm.Cond.fieldLink "WhiteRoadsModel" (154 : Nat) "WhiteRoadsModel" "depot" "I") ∈ TBg := tb_in 1129 rfl rfl
set_option maxRecDepth 100000 in
theorem tw_1130 : (Jvm.Cond.fieldLink "WhiteRoadsModel" (87 : Nat) "WhiteRoadsModel" "layer" "[I") ∈ TBg := tb_in 1130 rfl rfl
set_option maxRecDepth 100000 in
theorem tw_1131 : (Jvm.Cond.fieldLink "WhiteRoadsModel" (359 : Nat) "WhiteRoadsModel" "water" "I") ∈ TBg := tb_in 1131 rfl rfl
set_option maxRecDepth 100000 in
theorem tw_1132 : (Jvm.Cond.fieldLink "WhiteRoadsModel" (362 : Nat) "WhiteRoadsModel" "snow" "I") ∈ TBg := tb_in 1132 rfl rfl
set_option maxRecDepth 100000 in
theorem tw_1133 : (Jvm.Cond.fieldLink "WhiteRoadsModel" (365 : Nat) "WhiteRoadsModel" "ice" "I") ∈ TBg := tb_in 1133 rfl rfl
set_option maxRecDepth 100000 in
theorem tw_1134 : (Jvm.Cond.fieldLink "WhiteRoadsModel" (368 : Nat) "WhiteRoadsModel" "salt" "I") ∈ TBg := tb_in 1134 rfl rfl
set_option maxRecDepth 100000 in
theorem tw_1135 : (Jvm.Cond.fieldLink "WhiteRoadsModel" (90 : Nat) "WhiteRoadsModel" "now" "[I") ∈ TBg := tb_in 1135 rfl rfl
set_option maxRecDepth 100000 in
theorem tw_1136 : (Jvm.Cond.fieldLink "WhiteRoadsModel" (93 : Nat) "WhiteRoadsModel" "has" "[I") ∈ TBg := tb_in 1136 rfl rfl
set_option maxRecDepth 100000 in
theorem tw_1137 : (Jvm.Cond.fieldLink "WhiteRoadsModel" (343 : Nat) "WhiteRoadsModel" "steps" "I") ∈ TBg := tb_in 1137 rfl rfl
set_option maxRecDepth 100000 in
theorem tw_1138 : (Jvm.Cond.fieldLink "WhiteRoadsModel" (346 : Nat) "WhiteRoadsModel" "shift" "I") ∈ TBg := tb_in 1138 rfl rfl
set_option maxRecDepth 100000 in
theorem tw_1139 : (Jvm.Cond.fieldLink "WhiteRoadsModel" (151 : Nat) "WhiteRoadsModel" "store" "I") ∈ TBg := tb_in 1139 rfl rfl
set_option maxRecDepth 100000 in
theorem tw_1140 : (Jvm.Cond.fieldLink "WhiteRoadsModel" (96 : Nat) "WhiteRoadsModel" "far" "[I") ∈ TBg := tb_in 1140 rfl rfl
set_option maxRecDepth 100000 in
theorem tw_1141 : (Jvm.Cond.fieldLink "WhiteRoadsModel" (99 : Nat) "WhiteRoadsModel" "order" "[I") ∈ TBg := tb_in 1141 rfl rfl
set_option maxRecDepth 100000 in
theorem tw_1142 : (Jvm.Cond.fieldLink "WhiteRoadsModel" (102 : Nat) "WhiteRoadsModel" "lies" "[I") ∈ TBg := tb_in 1142 rfl rfl
set_option maxRecDepth 100000 in
theorem tw_1143 : (Jvm.Cond.fieldLink "WhiteRoadsModel" (352 : Nat) "WhiteRoadsModel" "lain" "I") ∈ TBg := tb_in 1143 rfl rfl
set_option maxRecDepth 100000 in
theorem tw_1144 : (Jvm.Cond.fieldLink "WhiteRoadsModel" (105 : Nat) "WhiteRoadsModel" "isWhiteBy" "[Z") ∈ TBg := tb_in 1144 rfl rfl
set_option maxRecDepth 100000 in
theorem tw_1145 : (Jvm.Cond.fieldLink "WhiteRoadsModel" (109 : Nat) "WhiteRoadsModel" "reach" "[I") ∈ TBg := tb_in 1145 rfl rfl
set_option maxRecDepth 100000 in
theorem tw_1146 : (Jvm.Cond.fieldLink "WhiteRoadsModel" (112 : Nat) "WhiteRoadsModel" "blocked" "[I") ∈ TBg := tb_in 1146 rfl rfl
set_option maxRecDepth 100000 in
theorem tw_1147 : (Jvm.Cond.fieldLink "WhiteRoadsModel" (115 : Nat) "WhiteRoadsModel" "glassYard" "[I") ∈ TBg := tb_in 1147 rfl rfl
set_option maxRecDepth 100000 in
theorem tw_1148 : (Jvm.Cond.fieldLink "WhiteRoadsModel" (118 : Nat) "WhiteRoadsModel" "glassLayer" "[I") ∈ TBg := tb_in 1148 rfl rfl
set_option maxRecDepth 100000 in
theorem tw_1149 : (Jvm.Cond.fieldLink "WhiteRoadsModel" (121 : Nat) "WhiteRoadsModel" "glassStep" "[I") ∈ TBg := tb_in 1149 rfl rfl
set_option maxRecDepth 100000 in
theorem tw_1150 : (Jvm.Cond.fieldLink "WhiteRoadsModel" (124 : Nat) "WhiteRoadsModel" "glassWarm" "[I") ∈ TBg := tb_in 1150 rfl rfl
set_option maxRecDepth 100000 in
theorem tw_1151 : (Jvm.Cond.fieldLink "WhiteRoadsModel" (127 : Nat) "WhiteRoadsModel" "glassSome" "[I") ∈ TBg := tb_in 1151 rfl rfl
set_option maxRecDepth 100000 in
theorem tw_1152 : (Jvm.Cond.fieldLink "WhiteRoadsModel" (130 : Nat) "WhiteRoadsModel" "glassTold" "[I") ∈ TBg := tb_in 1152 rfl rfl
set_option maxRecDepth 100000 in
theorem tw_1153 : (Jvm.Cond.fieldLink "WhiteRoadsModel" (133 : Nat) "WhiteRoadsModel" "glassUntold" "[I") ∈ TBg := tb_in 1153 rfl rfl
set_option maxRecDepth 100000 in
theorem tw_1154 : (Jvm.Cond.fieldLink "WhiteRoadsModel" (349 : Nat) "WhiteRoadsModel" "glasses" "I") ∈ TBg := tb_in 1154 rfl rfl
set_option maxRecDepth 100000 in
theorem tw_1155 : (Jvm.Cond.fieldLink "WhiteRoadsModel" (444 : Nat) "WhiteRoadsModel" "time" "I") ∈ TBg := tb_in 1155 rfl rfl
set_option maxRecDepth 100000 in
theorem tw_1156 : (Jvm.Cond.fieldLink "WhiteRoadsModel" (136 : Nat) "WhiteRoadsModel" "would" "[I") ∈ TBg := tb_in 1156 rfl rfl
set_option maxRecDepth 100000 in
theorem tw_1157 : (Jvm.Cond.fieldLink "WhiteRoadsModel" (139 : Nat) "WhiteRoadsModel" "hasBox" "[Z") ∈ TBg := tb_in 1157 rfl rfl
set_option maxRecDepth 100000 in
theorem tw_1158 : (Jvm.Cond.fieldLink "WhiteRoadsModel" (142 : Nat) "WhiteRoadsModel" "boxNow" "[I") ∈ TBg := tb_in 1158 rfl rfl
set_option maxRecDepth 100000 in
theorem tw_1159 : (Jvm.Cond.fieldLink "WhiteRoadsModel" (145 : Nat) "WhiteRoadsModel" "boxHas" "[I") ∈ TBg := tb_in 1159 rfl rfl
set_option maxRecDepth 100000 in
theorem tw_1160 : (Jvm.Cond.fieldLink "WhiteRoadsModel" (148 : Nat) "WhiteRoadsModel" "boxNumbers" "[I") ∈ TBg := tb_in 1160 rfl rfl
set_option maxRecDepth 100000 in
theorem tw_1161 : (Jvm.Cond.laysFinal "WhiteRoadsModel" "WhiteRoadsModel" "tape" "[I") ∈ TBg := tb_in 1161 rfl rfl
set_option maxRecDepth 100000 in
theorem tw_1163 : (Jvm.Cond.lays "WhiteRoadsModel" "WhiteRoadsModel" "taped" "I") ∈ TBg := tb_in 1163 rfl rfl
set_option maxRecDepth 100000 in
theorem tw_1165 : (Jvm.Cond.lays "WhiteRoadsModel" "WhiteRoadsModel" "fault" "I") ∈ TBg := tb_in 1165 rfl rfl
set_option maxRecDepth 100000 in
theorem tw_1167 : (Jvm.Cond.lays "WhiteRoadsModel" "WhiteRoadsModel" "faultPlace" "I") ∈ TBg := tb_in 1167 rfl rfl
set_option maxRecDepth 100000 in
theorem tw_1169 : (Jvm.Cond.lays "WhiteRoadsModel" "WhiteRoadsModel" "at" "I") ∈ TBg := tb_in 1169 rfl rfl
set_option maxRecDepth 100000 in
theorem tw_1171 : (Jvm.Cond.lays "WhiteRoadsModel" "WhiteRoadsModel" "size" "I") ∈ TBg := tb_in 1171 rfl rfl
set_option maxRecDepth 100000 in
theorem tw_1173 : (Jvm.Cond.lays "WhiteRoadsModel" "WhiteRoadsModel" "sort" "I") ∈ TBg := tb_in 1173 rfl rfl
set_option maxRecDepth 100000 in
theorem tw_1175 : (Jvm.Cond.lays "WhiteRoadsModel" "WhiteRoadsModel" "place" "I") ∈ TBg := tb_in 1175 rfl rfl
set_option maxRecDepth 100000 in
theorem tw_1177 : (Jvm.Cond.lays "WhiteRoadsModel" "WhiteRoadsModel" "number" "I") ∈ TBg := tb_in 1177 rfl rfl
set_option maxRecDepth 100000 in
theorem tw_1179 : (Jvm.Cond.lays "WhiteRoadsModel" "WhiteRoadsModel" "word" "J") ∈ TBg := tb_in 1179 rfl rfl
set_option maxRecDepth 100000 in
theorem tw_1181 : (Jvm.Cond.laysFinal "WhiteRoadsModel" "WhiteRoadsModel" "nName" "[J") ∈ TBg := tb_in 1181 rfl rfl
set_option maxRecDepth 100000 in
theorem tw_1183 : (Jvm.Cond.laysFinal "WhiteRoadsModel" "WhiteRoadsModel" "nSort" "[I") ∈ TBg := tb_in 1183 rfl rfl
set_option maxRecDepth 100000 in
theorem tw_1185 : (Jvm.Cond.laysFinal "WhiteRoadsModel" "WhiteRoadsModel" "nSlope" "[I") ∈ TBg := tb_in 1185 rfl rfl
set_option maxRecDepth 100000 in
theorem tw_1187 : (Jvm.Cond.laysFinal "WhiteRoadsModel" "WhiteRoadsModel" "nTraffic" "[I") ∈ TBg := tb_in 1187 rfl rfl
set_option maxRecDepth 100000 in
theorem tw_1189 : (Jvm.Cond.laysFinal "WhiteRoadsModel" "WhiteRoadsModel" "nLayers" "[I") ∈ TBg := tb_in 1189 rfl rfl
set_option maxRecDepth 100000 in
theorem tw_1191 : (Jvm.Cond.laysFinal "WhiteRoadsModel" "WhiteRoadsModel" "nWarm" "[I") ∈ TBg := tb_in 1191 rfl rfl
set_option maxRecDepth 100000 in
theorem tw_1193 : (Jvm.Cond.laysFinal "WhiteRoadsModel" "WhiteRoadsModel" "nTakes" "[I") ∈ TBg := tb_in 1193 rfl rfl
set_option maxRecDepth 100000 in
theorem tw_1195 : (Jvm.Cond.laysFinal "WhiteRoadsModel" "WhiteRoadsModel" "nFall" "[I") ∈ TBg := tb_in 1195 rfl rfl
set_option maxRecDepth 100000 in
theorem tw_1197 : (Jvm.Cond.laysFinal "WhiteRoadsModel" "WhiteRoadsModel" "nTemp" "[I") ∈ TBg := tb_in 1197 rfl rfl
set_option maxRecDepth 100000 in
theorem tw_1199 : (Jvm.Cond.laysFinal "WhiteRoadsModel" "WhiteRoadsModel" "nWet" "[I") ∈ TBg := tb_in 1199 rfl rfl
set_option maxRecDepth 100000 in
theorem tw_1201 : (Jvm.Cond.laysFinal "WhiteRoadsModel" "WhiteRoadsModel" "nSlip" "[I") ∈ TBg := tb_in 1201 rfl rfl
set_option maxRecDepth 100000 in
theorem tw_1203 : (Jvm.Cond.laysFinal "WhiteRoadsModel" "WhiteRoadsModel" "nWeight" "[I") ∈ TBg := tb_in 1203 rfl rfl
set_option maxRecDepth 100000 in
theorem tw_1205 : (Jvm.Cond.laysFinal "WhiteRoadsModel" "WhiteRoadsModel" "sortOf" "[I") ∈ TBg := tb_in 1205 rfl rfl
set_option maxRecDepth 100000 in
theorem tw_1207 : (Jvm.Cond.laysFinal "WhiteRoadsModel" "WhiteRoadsModel" "slope" "[I") ∈ TBg := tb_in 1207 rfl rfl
set_option maxRecDepth 100000 in
theorem tw_1209 : (Jvm.Cond.laysFinal "WhiteRoadsModel" "WhiteRoadsModel" "traffic" "[I") ∈ TBg := tb_in 1209 rfl rfl
set_option maxRecDepth 100000 in
theorem tw_1211 : (Jvm.Cond.laysFinal "WhiteRoadsModel" "WhiteRoadsModel" "layers" "[I") ∈ TBg := tb_in 1211 rfl rfl
set_option maxRecDepth 100000 in
theorem tw_1213 : (Jvm.Cond.laysFinal "WhiteRoadsModel" "WhiteRoadsModel" "warm" "[I") ∈ TBg := tb_in 1213 rfl rfl
set_option maxRecDepth 100000 in
theorem tw_1215 : (Jvm.Cond.laysFinal "WhiteRoadsModel" "WhiteRoadsModel" "takes" "[I") ∈ TBg := tb_in 1215 rfl rfl
set_option maxRecDepth 100000 in
theorem tw_1217 : (Jvm.Cond.laysFinal "WhiteRoadsModel" "WhiteRoadsModel" "fall" "[I") ∈ TBg := tb_in 1217 rfl rfl
set_option maxRecDepth 100000 in
theorem tw_1219 : (Jvm.Cond.laysFinal "WhiteRoadsModel" "WhiteRoadsModel" "temp" "[I") ∈ TBg := tb_in 1219 rfl rfl
set_option maxRecDepth 100000 in
theorem tw_1221 : (Jvm.Cond.laysFinal "WhiteRoadsModel" "WhiteRoadsModel" "wet" "[I") ∈ TBg := tb_in 1221 rfl rfl
set_option maxRecDepth 100000 in
theorem tw_1223 : (Jvm.Cond.laysFinal "WhiteRoadsModel" "WhiteRoadsModel" "slip" "[I") ∈ TBg := tb_in 1223 rfl rfl
set_option maxRecDepth 100000 in
theorem tw_1225 : (Jvm.Cond.laysFinal "WhiteRoadsModel" "WhiteRoadsModel" "weight" "[I") ∈ TBg := tb_in 1225 rfl rfl
set_option maxRecDepth 100000 in
theorem tw_1227 : (Jvm.Cond.lays "WhiteRoadsModel" "WhiteRoadsModel" "nYards" "I") ∈ TBg := tb_in 1227 rfl rfl
set_option maxRecDepth 100000 in
theorem tw_1229 : (Jvm.Cond.lays "WhiteRoadsModel" "WhiteRoadsModel" "nWays" "I") ∈ TBg := tb_in 1229 rfl rfl
set_option maxRecDepth 100000 in
theorem tw_1231 : (Jvm.Cond.lays "WhiteRoadsModel" "WhiteRoadsModel" "nHours" "I") ∈ TBg := tb_in 1231 rfl rfl
set_option maxRecDepth 100000 in
theorem tw_1233 : (Jvm.Cond.lays "WhiteRoadsModel" "WhiteRoadsModel" "nSlips" "I") ∈ TBg := tb_in 1233 rfl rfl
set_option maxRecDepth 100000 in
theorem tw_1235 : (Jvm.Cond.lays "WhiteRoadsModel" "WhiteRoadsModel" "nCall" "I") ∈ TBg := tb_in 1235 rfl rfl
set_option maxRecDepth 100000 in
theorem tw_1237 : (Jvm.Cond.lays "WhiteRoadsModel" "WhiteRoadsModel" "nHarm" "I") ∈ TBg := tb_in 1237 rfl rfl
set_option maxRecDepth 100000 in
theorem tw_1239 : (Jvm.Cond.lays "WhiteRoadsModel" "WhiteRoadsModel" "nDepot" "I") ∈ TBg := tb_in 1239 rfl rfl
set_option maxRecDepth 100000 in
theorem tw_1241 : (Jvm.Cond.lays "WhiteRoadsModel" "WhiteRoadsModel" "nStore" "I") ∈ TBg := tb_in 1241 rfl rfl
set_option maxRecDepth 100000 in
theorem tw_1243 : (Jvm.Cond.lays "WhiteRoadsModel" "WhiteRoadsModel" "yards" "I") ∈ TBg := tb_in 1243 rfl rfl
set_option maxRecDepth 100000 in
theorem tw_1245 : (Jvm.Cond.lays "WhiteRoadsModel" "WhiteRoadsModel" "ways" "I") ∈ TBg := tb_in 1245 rfl rfl
set_option maxRecDepth 100000 in
theorem tw_1247 : (Jvm.Cond.lays "WhiteRoadsModel" "WhiteRoadsModel" "hours" "I") ∈ TBg := tb_in 1247 rfl rfl
set_option maxRecDepth 100000 in
theorem tw_1249 : (Jvm.Cond.lays "WhiteRoadsModel" "WhiteRoadsModel" "slips" "I") ∈ TBg := tb_in 1249 rfl rfl
set_option maxRecDepth 100000 in
theorem tw_1251 : (Jvm.Cond.lays "WhiteRoadsModel" "WhiteRoadsModel" "call" "I") ∈ TBg := tb_in 1251 rfl rfl
set_option maxRecDepth 100000 in
theorem tw_1253 : (Jvm.Cond.lays "WhiteRoadsModel" "WhiteRoadsModel" "harm" "I") ∈ TBg := tb_in 1253 rfl rfl
set_option maxRecDepth 100000 in
theorem tw_1255 : (Jvm.Cond.lays "WhiteRoadsModel" "WhiteRoadsModel" "depot" "I") ∈ TBg := tb_in 1255 rfl rfl
set_option maxRecDepth 100000 in
theorem tw_1257 : (Jvm.Cond.laysFinal "WhiteRoadsModel" "WhiteRoadsModel" "layer" "[I") ∈ TBg := tb_in 1257 rfl rfl
set_option maxRecDepth 100000 in
theorem tw_1259 : (Jvm.Cond.lays "WhiteRoadsModel" "WhiteRoadsModel" "water" "I") ∈ TBg := tb_in 1259 rfl rfl
set_option maxRecDepth 100000 in
theorem tw_1261 : (Jvm.Cond.lays "WhiteRoadsModel" "WhiteRoadsModel" "snow" "I") ∈ TBg := tb_in 1261 rfl rfl
set_option maxRecDepth 100000 in
theorem tw_1263 : (Jvm.Cond.lays "WhiteRoadsModel" "WhiteRoadsModel" "ice" "I") ∈ TBg := tb_in 1263 rfl rfl
set_option maxRecDepth 100000 in
theorem tw_1265 : (Jvm.Cond.lays "WhiteRoadsModel" "WhiteRoadsModel" "salt" "I") ∈ TBg := tb_in 1265 rfl rfl
set_option maxRecDepth 100000 in
theorem tw_1267 : (Jvm.Cond.laysFinal "WhiteRoadsModel" "WhiteRoadsModel" "now" "[I") ∈ TBg := tb_in 1267 rfl rfl
set_option maxRecDepth 100000 in
theorem tw_1269 : (Jvm.Cond.laysFinal "WhiteRoadsModel" "WhiteRoadsModel" "has" "[I") ∈ TBg := tb_in 1269 rfl rfl
set_option maxRecDepth 100000 in
theorem tw_1271 : (Jvm.Cond.lays "WhiteRoadsModel" "WhiteRoadsModel" "steps" "I") ∈ TBg := tb_in 1271 rfl rfl
set_option maxRecDepth 100000 in
theorem tw_1273 : (Jvm.Cond.lays "WhiteRoadsModel" "WhiteRoadsModel" "shift" "I") ∈ TBg := tb_in 1273 rfl rfl
set_option maxRecDepth 100000 in
theorem tw_1275 : (Jvm.Cond.lays "WhiteRoadsModel" "WhiteRoadsModel" "store" "I") ∈ TBg := tb_in 1275 rfl rfl
set_option maxRecDepth 100000 in
theorem tw_1277 : (Jvm.Cond.laysFinal "WhiteRoadsModel" "WhiteRoadsModel" "far" "[I") ∈ TBg := tb_in 1277 rfl rfl
set_option maxRecDepth 100000 in
theorem tw_1279 : (Jvm.Cond.laysFinal "WhiteRoadsModel" "WhiteRoadsModel" "order" "[I") ∈ TBg := tb_in 1279 rfl rfl
set_option maxRecDepth 100000 in
theorem tw_1281 : (Jvm.Cond.laysFinal "WhiteRoadsModel" "WhiteRoadsModel" "lies" "[I") ∈ TBg := tb_in 1281 rfl rfl
set_option maxRecDepth 100000 in
theorem tw_1283 : (Jvm.Cond.lays "WhiteRoadsModel" "WhiteRoadsModel" "lain" "I") ∈ TBg := tb_in 1283 rfl rfl
set_option maxRecDepth 100000 in
theorem tw_1285 : (Jvm.Cond.laysFinal "WhiteRoadsModel" "WhiteRoadsModel" "isWhiteBy" "[Z") ∈ TBg := tb_in 1285 rfl rfl
set_option maxRecDepth 100000 in
theorem tw_1287 : (Jvm.Cond.laysFinal "WhiteRoadsModel" "WhiteRoadsModel" "reach" "[I") ∈ TBg := tb_in 1287 rfl rfl
set_option maxRecDepth 100000 in
theorem tw_1289 : (Jvm.Cond.laysFinal "WhiteRoadsModel" "WhiteRoadsModel" "blocked" "[I") ∈ TBg := tb_in 1289 rfl rfl
set_option maxRecDepth 100000 in
theorem tw_1291 : (Jvm.Cond.laysFinal "WhiteRoadsModel" "WhiteRoadsModel" "glassYard" "[I") ∈ TBg := tb_in 1291 rfl rfl
set_option maxRecDepth 100000 in
theorem tw_1293 : (Jvm.Cond.laysFinal "WhiteRoadsModel" "WhiteRoadsModel" "glassLayer" "[I") ∈ TBg := tb_in 1293 rfl rfl
set_option maxRecDepth 100000 in
theorem tw_1295 : (Jvm.Cond.laysFinal "WhiteRoadsModel" "WhiteRoadsModel" "glassStep" "[I") ∈ TBg := tb_in 1295 rfl rfl
set_option maxRecDepth 100000 in
theorem tw_1297 : (Jvm.Cond.laysFinal "WhiteRoadsModel" "WhiteRoadsModel" "glassWarm" "[I") ∈ TBg := tb_in 1297 rfl rfl
set_option maxRecDepth 100000 in
theorem tw_1299 : (Jvm.Cond.laysFinal "WhiteRoadsModel" "WhiteRoadsModel" "glassSome" "[I") ∈ TBg := tb_in 1299 rfl rfl
set_option maxRecDepth 100000 in
theorem tw_1301 : (Jvm.Cond.laysFinal "WhiteRoadsModel" "WhiteRoadsModel" "glassTold" "[I") ∈ TBg := tb_in 1301 rfl rfl
set_option maxRecDepth 100000 in
theorem tw_1303 : (Jvm.Cond.laysFinal "WhiteRoadsModel" "WhiteRoadsModel" "glassUntold" "[I") ∈ TBg := tb_in 1303 rfl rfl
set_option maxRecDepth 100000 in
theorem tw_1305 : (Jvm.Cond.lays "WhiteRoadsModel" "WhiteRoadsModel" "glasses" "I") ∈ TBg := tb_in 1305 rfl rfl
set_option maxRecDepth 100000 in
theorem tw_1307 : (Jvm.Cond.lays "WhiteRoadsModel" "WhiteRoadsModel" "time" "I") ∈ TBg := tb_in 1307 rfl rfl
set_option maxRecDepth 100000 in
theorem tw_1309 : (Jvm.Cond.laysFinal "WhiteRoadsModel" "WhiteRoadsModel" "would" "[I") ∈ TBg := tb_in 1309 rfl rfl
set_option maxRecDepth 100000 in
theorem tw_1311 : (Jvm.Cond.laysFinal "WhiteRoadsModel" "WhiteRoadsModel" "hasBox" "[Z") ∈ TBg := tb_in 1311 rfl rfl
set_option maxRecDepth 100000 in
theorem tw_1313 : (Jvm.Cond.laysFinal "WhiteRoadsModel" "WhiteRoadsModel" "boxNow" "[I") ∈ TBg := tb_in 1313 rfl rfl
set_option maxRecDepth 100000 in
theorem tw_1315 : (Jvm.Cond.laysFinal "WhiteRoadsModel" "WhiteRoadsModel" "boxHas" "[I") ∈ TBg := tb_in 1315 rfl rfl
set_option maxRecDepth 100000 in
theorem tw_1317 : (Jvm.Cond.laysFinal "WhiteRoadsModel" "WhiteRoadsModel" "boxNumbers" "[I") ∈ TBg := tb_in 1317 rfl rfl
set_option maxRecDepth 100000 in
theorem tw_1320 : (Jvm.Cond.methodLink "WhiteRoadsLaw" (17 : Nat) ({ cls := "WhiteRoadsModel", name := "feed", desc := "(IIIII)I" } : Jvm.MethodName)) ∈ TBg := tb_in 1320 rfl rfl
set_option maxRecDepth 100000 in
theorem tw_1321 : (Jvm.Cond.instanceMethod ({ cls := "WhiteRoadsModel", name := "feed", desc := "(IIIII)I" } : Jvm.MethodName)) ∈ TBg := tb_in 1321 rfl rfl
set_option maxRecDepth 100000 in
theorem tw_1322 : (Jvm.Cond.selects "WhiteRoadsModel" ({ cls := "WhiteRoadsModel", name := "feed", desc := "(IIIII)I" } : Jvm.MethodName) ({ cls := "WhiteRoadsModel", name := "feed", desc := "(IIIII)I" } : Jvm.MethodName)) ∈ TBg := tb_in 1322 rfl rfl
set_option maxRecDepth 100000 in
theorem tw_1323 : (Jvm.Cond.code ({ cls := "WhiteRoadsModel", name := "feed", desc := "(IIIII)I" } : Jvm.MethodName) prog_14_method_2_code (6 : Nat) (Option.some Jvm.ClassFile.FieldType.int)) ∈ TBg := tb_in 1323 rfl rfl
set_option maxRecDepth 100000 in
theorem tw_1324 : (Jvm.Cond.methodLink "WhiteRoadsModel" (160 : Nat) ({ cls := "WhiteRoadsModel", name := "four", desc := "(I)V" } : Jvm.MethodName)) ∈ TBg := tb_in 1324 rfl rfl
set_option maxRecDepth 100000 in
theorem tw_1326 : (Jvm.Cond.instanceMethod ({ cls := "WhiteRoadsModel", name := "four", desc := "(I)V" } : Jvm.MethodName)) ∈ TBg := tb_in 1326 rfl rfl
set_option maxRecDepth 100000 in
theorem tw_1327 : (Jvm.Cond.code ({ cls := "WhiteRoadsModel", name := "four", desc := "(I)V" } : Jvm.MethodName) prog_14_method_3_code (3 : Nat) (Option.none : Option Jvm.ClassFile.FieldType)) ∈ TBg := tb_in 1327 rfl rfl
set_option maxRecDepth 100000 in
theorem tw_1328 : (Jvm.Cond.methodLink "WhiteRoadsLaw" (22 : Nat) ({ cls := "WhiteRoadsModel", name := "end", desc := "(I)I" } : Jvm.MethodName)) ∈ TBg := tb_in 1328 rfl rfl
set_option maxRecDepth 100000 in
theorem tw_1329 : (Jvm.Cond.instanceMethod ({ cls := "WhiteRoadsModel", name := "end", desc := "(I)I" } : Jvm.MethodName)) ∈ TBg := tb_in 1329 rfl rfl
set_option maxRecDepth 100000 in
theorem tw_1330 : (Jvm.Cond.selects "WhiteRoadsModel" ({ cls := "WhiteRoadsModel", name := "end", desc := "(I)I" } : Jvm.MethodName) ({ cls := "WhiteRoadsModel", name := "end", desc := "(I)I" } : Jvm.MethodName)) ∈ TBg := tb_in 1330 rfl rfl
set_option maxRecDepth 100000 in
theorem tw_1331 : (Jvm.Cond.code ({ cls := "WhiteRoadsModel", name := "end", desc := "(I)I" } : Jvm.MethodName) prog_14_method_4_code (2 : Nat) (Option.some Jvm.ClassFile.FieldType.int)) ∈ TBg := tb_in 1331 rfl rfl
set_option maxRecDepth 100000 in
theorem tw_1332 : (Jvm.Cond.methodLink "WhiteRoadsLaw" (27 : Nat) ({ cls := "WhiteRoadsModel", name := "land", desc := "()I" } : Jvm.MethodName)) ∈ TBg := tb_in 1332 rfl rfl
set_option maxRecDepth 100000 in
theorem tw_1333 : (Jvm.Cond.instanceMethod ({ cls := "WhiteRoadsModel", name := "land", desc := "()I" } : Jvm.MethodName)) ∈ TBg := tb_in 1333 rfl rfl
set_option maxRecDepth 100000 in
theorem tw_1334 : (Jvm.Cond.selects "WhiteRoadsModel" ({ cls := "WhiteRoadsModel", name := "land", desc := "()I" } : Jvm.MethodName) ({ cls := "WhiteRoadsModel", name := "land", desc := "()I" } : Jvm.MethodName)) ∈ TBg := tb_in 1334 rfl rfl
set_option maxRecDepth 100000 in
theorem tw_1335 : (Jvm.Cond.code ({ cls := "WhiteRoadsModel", name := "land", desc := "()I" } : Jvm.MethodName) prog_14_method_27_code (2 : Nat) (Option.some Jvm.ClassFile.FieldType.int)) ∈ TBg := tb_in 1335 rfl rfl
set_option maxRecDepth 100000 in
theorem tw_1336 : (Jvm.Cond.methodLink "WhiteRoadsModel" (322 : Nat) ({ cls := "WhiteRoadsModel", name := "readAll", desc := "()V" } : Jvm.MethodName)) ∈ TBg := tb_in 1336 rfl rfl
set_option maxRecDepth 100000 in
theorem tw_1338 : (Jvm.Cond.instanceMethod ({ cls := "WhiteRoadsModel", name := "readAll", desc := "()V" } : Jvm.MethodName)) ∈ TBg := tb_in 1338 rfl rfl
set_option maxRecDepth 100000 in
theorem tw_1339 : (Jvm.Cond.code ({ cls := "WhiteRoadsModel", name := "readAll", desc := "()V" } : Jvm.MethodName) prog_14_method_26_code (2 : Nat) (Option.none : Option Jvm.ClassFile.FieldType)) ∈ TBg := tb_in 1339 rfl rfl
set_option maxRecDepth 100000 in
theorem tw_1340 : (Jvm.Cond.methodLink "WhiteRoadsModel" (248 : Nat) ({ cls := "WhiteRoadsModel", name := "token", desc := "()V" } : Jvm.MethodName)) ∈ TBg := tb_in 1340 rfl rfl
set_option maxRecDepth 100000 in
theorem tw_1342 : (Jvm.Cond.instanceMethod ({ cls := "WhiteRoadsModel", name := "token", desc := "()V" } : Jvm.MethodName)) ∈ TBg := tb_in 1342 rfl rfl
set_option maxRecDepth 100000 in
theorem tw_1343 : (Jvm.Cond.code ({ cls := "WhiteRoadsModel", name := "token", desc := "()V" } : Jvm.MethodName) prog_14_method_8_code (3 : Nat) (Option.none : Option Jvm.ClassFile.FieldType)) ∈ TBg := tb_in 1343 rfl rfl
set_option maxRecDepth 100000 in
theorem tw_1344 : (Jvm.Cond.methodLink "WhiteRoadsModel" (170 : Nat) ({ cls := "WhiteRoadsModel", name := "here", desc := "(I)I" } : Jvm.MethodName)) ∈ TBg := tb_in 1344 rfl rfl
set_option maxRecDepth 100000 in
theorem tw_1346 : (Jvm.Cond.instanceMethod ({ cls := "WhiteRoadsModel", name := "here", desc := "(I)I" } : Jvm.MethodName)) ∈ TBg := tb_in 1346 rfl rfl
set_option maxRecDepth 100000 in
theorem tw_1347 : (Jvm.Cond.code ({ cls := "WhiteRoadsModel", name := "here", desc := "(I)I" } : Jvm.MethodName) prog_14_method_5_code (2 : Nat) (Option.some Jvm.ClassFile.FieldType.int)) ∈ TBg := tb_in 1347 rfl rfl
set_option maxRecDepth 100000 in
theorem tw_1348 : (Jvm.Cond.methodLink "WhiteRoadsModel" (187 : Nat) ({ cls := "WhiteRoadsModel", name := "isLetter", desc := "(I)Z" } : Jvm.MethodName)) ∈ TBg := tb_in 1348 rfl rfl
set_option maxRecDepth 100000 in
theorem tw_1349 : (Jvm.Cond.static ({ cls := "WhiteRoadsModel", name := "isLetter", desc := "(I)Z" } : Jvm.MethodName)) ∈ TBg := tb_in 1349 rfl rfl
set_option maxRecDepth 100000 in
theorem tw_1350 : (Jvm.Cond.code ({ cls := "WhiteRoadsModel", name := "isLetter", desc := "(I)Z" } : Jvm.MethodName) prog_14_method_6_code (1 : Nat) (Option.some Jvm.ClassFile.FieldType.boolean)) ∈ TBg := tb_in 1350 rfl rfl
set_option maxRecDepth 100000 in
theorem tw_1351 : (Jvm.Cond.methodLink "WhiteRoadsModel" (191 : Nat) ({ cls := "WhiteRoadsModel", name := "isDigit", desc := "(I)Z" } : Jvm.MethodName)) ∈ TBg := tb_in 1351 rfl rfl
set_option maxRecDepth 100000 in
theorem tw_1352 : (Jvm.Cond.static ({ cls := "WhiteRoadsModel", name := "isDigit", desc := "(I)Z" } : Jvm.MethodName)) ∈ TBg := tb_in 1352 rfl rfl
set_option maxRecDepth 100000 in
theorem tw_1353 : (Jvm.Cond.code ({ cls := "WhiteRoadsModel", name := "isDigit", desc := "(I)Z" } : Jvm.MethodName) prog_14_method_7_code (1 : Nat) (Option.some Jvm.ClassFile.FieldType.boolean)) ∈ TBg := tb_in 1353 rfl rfl
set_option maxRecDepth 100000 in
theorem tw_1354 : (Jvm.Cond.methodLink "WhiteRoadsModel" (319 : Nat) ({ cls := "WhiteRoadsModel", name := "readLine", desc := "()V" } : Jvm.MethodName)) ∈ TBg := tb_in 1354 rfl rfl
set_option maxRecDepth 100000 in
theorem tw_1356 : (Jvm.Cond.instanceMethod ({ cls := "WhiteRoadsModel", name := "readLine", desc := "()V" } : Jvm.MethodName)) ∈ TBg := tb_in 1356 rfl rfl
set_option maxRecDepth 100000 in
theorem tw_1357 : (Jvm.Cond.code ({ cls := "WhiteRoadsModel", name := "readLine", desc := "()V" } : Jvm.MethodName) prog_14_method_25_code (1 : Nat) (Option.none : Option Jvm.ClassFile.FieldType)) ∈ TBg := tb_in 1357 rfl rfl
set_option maxRecDepth 100000 in
theorem tw_1358 : (Jvm.Cond.constantLong "WhiteRoadsModel" (201 : Nat) (2036429412 : Int64)) ∈ TBg := tb_in 1358 rfl rfl
set_option maxRecDepth 100000 in
theorem tw_1359 : (Jvm.Cond.methodLink "WhiteRoadsModel" (241 : Nat) ({ cls := "WhiteRoadsModel", name := "isWord", desc := "(J)Z" } : Jvm.MethodName)) ∈ TBg := tb_in 1359 rfl rfl
set_option maxRecDepth 100000 in
theorem tw_1361 : (Jvm.Cond.instanceMethod ({ cls := "WhiteRoadsModel", name := "isWord", desc := "(J)Z" } : Jvm.MethodName)) ∈ TBg := tb_in 1361 rfl rfl
set_option maxRecDepth 100000 in
theorem tw_1362 : (Jvm.Cond.code ({ cls := "WhiteRoadsModel", name := "isWord", desc := "(J)Z" } : Jvm.MethodName) prog_14_method_11_code (3 : Nat) (Option.some Jvm.ClassFile.FieldType.boolean)) ∈ TBg := tb_in 1362 rfl rfl
set_option maxRecDepth 100000 in
theorem tw_1363 : (Jvm.Cond.methodLink "WhiteRoadsModel" (289 : Nat) ({ cls := "WhiteRoadsModel", name := "readYard", desc := "()V" } : Jvm.MethodName)) ∈ TBg := tb_in 1363 rfl rfl
set_option maxRecDepth 100000 in
theorem tw_1365 : (Jvm.Cond.instanceMethod ({ cls := "WhiteRoadsModel", name := "readYard", desc := "()V" } : Jvm.MethodName)) ∈ TBg := tb_in 1365 rfl rfl
set_option maxRecDepth 100000 in
theorem tw_1366 : (Jvm.Cond.code ({ cls := "WhiteRoadsModel", name := "readYard", desc := "()V" } : Jvm.MethodName) prog_14_method_19_code (7 : Nat) (Option.none : Option Jvm.ClassFile.FieldType)) ∈ TBg := tb_in 1366 rfl rfl
set_option maxRecDepth 100000 in
theorem tw_1367 : (Jvm.Cond.methodLink "WhiteRoadsModel" (266 : Nat) ({ cls := "WhiteRoadsModel", name := "isName", desc := "()Z" } : Jvm.MethodName)) ∈ TBg := tb_in 1367 rfl rfl
set_option maxRecDepth 100000 in
theorem tw_1369 : (Jvm.Cond.instanceMethod ({ cls := "WhiteRoadsModel", name := "isName", desc := "()Z" } : Jvm.MethodName)) ∈ TBg := tb_in 1369 rfl rfl
set_option maxRecDepth 100000 in
theorem tw_1370 : (Jvm.Cond.code ({ cls := "WhiteRoadsModel", name := "isName", desc := "()Z" } : Jvm.MethodName) prog_14_method_12_code (3 : Nat) (Option.some Jvm.ClassFile.FieldType.boolean)) ∈ TBg := tb_in 1370 rfl rfl
set_option maxRecDepth 100000 in
theorem tw_1371 : (Jvm.Cond.constantLong "WhiteRoadsModel" (203 : Nat) (495740481637 : Int64)) ∈ TBg := tb_in 1371 rfl rfl
set_option maxRecDepth 100000 in
theorem tw_1372 : (Jvm.Cond.constantLong "WhiteRoadsModel" (205 : Nat) (32776859953817955 : Int64)) ∈ TBg := tb_in 1372 rfl rfl
set_option maxRecDepth 100000 in
theorem tw_1373 : (Jvm.Cond.constantLong "WhiteRoadsModel" (207 : Nat) (2002874989 : Int64)) ∈ TBg := tb_in 1373 rfl rfl
set_option maxRecDepth 100000 in
theorem tw_1374 : (Jvm.Cond.constantLong "WhiteRoadsModel" (209 : Nat) (7823737 : Int64)) ∈ TBg := tb_in 1374 rfl rfl
set_option maxRecDepth 100000 in
theorem tw_1375 : (Jvm.Cond.constantLong "WhiteRoadsModel" (211 : Nat) (499850634611 : Int64)) ∈ TBg := tb_in 1375 rfl rfl
set_option maxRecDepth 100000 in
theorem tw_1376 : (Jvm.Cond.constantLong "WhiteRoadsModel" (213 : Nat) (1752135026 : Int64)) ∈ TBg := tb_in 1376 rfl rfl
set_option maxRecDepth 100000 in
theorem tw_1377 : (Jvm.Cond.constantLong "WhiteRoadsModel" (215 : Nat) (1717660780 : Int64)) ∈ TBg := tb_in 1377 rfl rfl
set_option maxRecDepth 100000 in
theorem tw_1378 : (Jvm.Cond.constantLong "WhiteRoadsModel" (217 : Nat) (1952804208 : Int64)) ∈ TBg := tb_in 1378 rfl rfl
set_option maxRecDepth 100000 in
theorem tw_1379 : (Jvm.Cond.constantLong "WhiteRoadsModel" (219 : Nat) (7824756 : Int64)) ∈ TBg := tb_in 1379 rfl rfl
set_option maxRecDepth 100000 in
theorem tw_1380 : (Jvm.Cond.constantLong "WhiteRoadsModel" (221 : Nat) (1936484720 : Int64)) ∈ TBg := tb_in 1380 rfl rfl
set_option maxRecDepth 100000 in
theorem tw_1381 : (Jvm.Cond.constantLong "WhiteRoadsModel" (223 : Nat) (131277443786868 : Int64)) ∈ TBg := tb_in 1381 rfl rfl
set_option maxRecDepth 100000 in
theorem tw_1382 : (Jvm.Cond.constantLong "WhiteRoadsModel" (225 : Nat) (1667329132 : Int64)) ∈ TBg := tb_in 1382 rfl rfl
set_option maxRecDepth 100000 in
theorem tw_1383 : (Jvm.Cond.constantLong "WhiteRoadsModel" (227 : Nat) (1751216749 : Int64)) ∈ TBg := tb_in 1383 rfl rfl
set_option maxRecDepth 100000 in
theorem tw_1384 : (Jvm.Cond.constantLong "WhiteRoadsModel" (229 : Nat) (431198596980 : Int64)) ∈ TBg := tb_in 1384 rfl rfl
set_option maxRecDepth 100000 in
theorem tw_1385 : (Jvm.Cond.constantLong "WhiteRoadsModel" (231 : Nat) (495874699877 : Int64)) ∈ TBg := tb_in 1385 rfl rfl
set_option maxRecDepth 100000 in
theorem tw_1386 : (Jvm.Cond.constantLong "WhiteRoadsModel" (233 : Nat) (444300620659 : Int64)) ∈ TBg := tb_in 1386 rfl rfl
set_option maxRecDepth 100000 in
theorem tw_1387 : (Jvm.Cond.constantLong "WhiteRoadsModel" (235 : Nat) (1919902052 : Int64)) ∈ TBg := tb_in 1387 rfl rfl
set_option maxRecDepth 100000 in
theorem tw_1388 : (Jvm.Cond.constantLong "WhiteRoadsModel" (237 : Nat) (108243533981541 : Int64)) ∈ TBg := tb_in 1388 rfl rfl
set_option maxRecDepth 100000 in
theorem tw_1389 : (Jvm.Cond.constantLong "WhiteRoadsModel" (239 : Nat) (1919905638 : Int64)) ∈ TBg := tb_in 1389 rfl rfl
set_option maxRecDepth 100000 in
theorem tw_1390 : (Jvm.Cond.methodLink "WhiteRoadsModel" (245 : Nat) ({ cls := "WhiteRoadsModel", name := "wrong", desc := "(I)V" } : Jvm.MethodName)) ∈ TBg := tb_in 1390 rfl rfl
set_option maxRecDepth 100000 in
theorem tw_1392 : (Jvm.Cond.instanceMethod ({ cls := "WhiteRoadsModel", name := "wrong", desc := "(I)V" } : Jvm.MethodName)) ∈ TBg := tb_in 1392 rfl rfl
set_option maxRecDepth 100000 in
theorem tw_1393 : (Jvm.Cond.code ({ cls := "WhiteRoadsModel", name := "wrong", desc := "(I)V" } : Jvm.MethodName) prog_14_method_10_code (2 : Nat) (Option.none : Option Jvm.ClassFile.FieldType)) ∈ TBg := tb_in 1393 rfl rfl
set_option maxRecDepth 100000 in
theorem tw_1394 : (Jvm.Cond.methodLink "WhiteRoadsModel" (197 : Nat) ({ cls := "WhiteRoadsModel", name := "wrongAt", desc := "(II)V" } : Jvm.MethodName)) ∈ TBg := tb_in 1394 rfl rfl
set_option maxRecDepth 100000 in
theorem tw_1396 : (Jvm.Cond.instanceMethod ({ cls := "WhiteRoadsModel", name := "wrongAt", desc := "(II)V" } : Jvm.MethodName)) ∈ TBg := tb_in 1396 rfl rfl
set_option maxRecDepth 100000 in
theorem tw_1397 : (Jvm.Cond.code ({ cls := "WhiteRoadsModel", name := "wrongAt", desc := "(II)V" } : Jvm.MethodName) prog_14_method_9_code (3 : Nat) (Option.none : Option Jvm.ClassFile.FieldType)) ∈ TBg := tb_in 1397 rfl rfl
set_option maxRecDepth 100000 in
theorem tw_1398 : (Jvm.Cond.methodLink "WhiteRoadsModel" (262 : Nat) ({ cls := "WhiteRoadsModel", name := "find", desc := "()I" } : Jvm.MethodName)) ∈ TBg := tb_in 1398 rfl rfl
set_option maxRecDepth 100000 in
theorem tw_1400 : (Jvm.Cond.instanceMethod ({ cls := "WhiteRoadsModel", name := "find", desc := "()I" } : Jvm.MethodName)) ∈ TBg := tb_in 1400 rfl rfl
set_option maxRecDepth 100000 in
theorem tw_1401 : (Jvm.Cond.code ({ cls := "WhiteRoadsModel", name := "find", desc := "()I" } : Jvm.MethodName) prog_14_method_17_code (3 : Nat) (Option.some Jvm.ClassFile.FieldType.int)) ∈ TBg := tb_in 1401 rfl rfl
set_option maxRecDepth 100000 in
theorem tw_1402 : (Jvm.Cond.methodLink "WhiteRoadsModel" (270 : Nat) ({ cls := "WhiteRoadsModel", name := "told", desc := "(JII)I" } : Jvm.MethodName)) ∈ TBg := tb_in 1402 rfl rfl
set_option maxRecDepth 100000 in
theorem tw_1404 : (Jvm.Cond.instanceMethod ({ cls := "WhiteRoadsModel", name := "told", desc := "(JII)I" } : Jvm.MethodName)) ∈ TBg := tb_in 1404 rfl rfl
set_option maxRecDepth 100000 in
theorem tw_1405 : (Jvm.Cond.code ({ cls := "WhiteRoadsModel", name := "told", desc := "(JII)I" } : Jvm.MethodName) prog_14_method_15_code (5 : Nat) (Option.some Jvm.ClassFile.FieldType.int)) ∈ TBg := tb_in 1405 rfl rfl
set_option maxRecDepth 100000 in
theorem tw_1406 : (Jvm.Cond.methodLink "WhiteRoadsModel" (251 : Nat) ({ cls := "WhiteRoadsModel", name := "want", desc := "(J)V" } : Jvm.MethodName)) ∈ TBg := tb_in 1406 rfl rfl
set_option maxRecDepth 100000 in
theorem tw_1408 : (Jvm.Cond.instanceMethod ({ cls := "WhiteRoadsModel", name := "want", desc := "(J)V" } : Jvm.MethodName)) ∈ TBg := tb_in 1408 rfl rfl
set_option maxRecDepth 100000 in
theorem tw_1409 : (Jvm.Cond.code ({ cls := "WhiteRoadsModel", name := "want", desc := "(J)V" } : Jvm.MethodName) prog_14_method_13_code (3 : Nat) (Option.none : Option Jvm.ClassFile.FieldType)) ∈ TBg := tb_in 1409 rfl rfl
set_option maxRecDepth 100000 in
theorem tw_1410 : (Jvm.Cond.methodLink "WhiteRoadsModel" (255 : Nat) ({ cls := "WhiteRoadsModel", name := "toldNumber", desc := "(II)I" } : Jvm.MethodName)) ∈ TBg := tb_in 1410 rfl rfl
set_option maxRecDepth 100000 in
theorem tw_1412 : (Jvm.Cond.instanceMethod ({ cls := "WhiteRoadsModel", name := "toldNumber", desc := "(II)I" } : Jvm.MethodName)) ∈ TBg := tb_in 1412 rfl rfl
set_option maxRecDepth 100000 in
theorem tw_1413 : (Jvm.Cond.code ({ cls := "WhiteRoadsModel", name := "toldNumber", desc := "(II)I" } : Jvm.MethodName) prog_14_method_14_code (4 : Nat) (Option.some Jvm.ClassFile.FieldType.int)) ∈ TBg := tb_in 1413 rfl rfl
set_option maxRecDepth 100000 in
theorem tw_1414 : (Jvm.Cond.methodLink "WhiteRoadsModel" (274 : Nat) ({ cls := "WhiteRoadsModel", name := "signed", desc := "(I)I" } : Jvm.MethodName)) ∈ TBg := tb_in 1414 rfl rfl
set_option maxRecDepth 100000 in
theorem tw_1416 : (Jvm.Cond.instanceMethod ({ cls := "WhiteRoadsModel", name := "signed", desc := "(I)I" } : Jvm.MethodName)) ∈ TBg := tb_in 1416 rfl rfl
set_option maxRecDepth 100000 in
theorem tw_1417 : (Jvm.Cond.code ({ cls := "WhiteRoadsModel", name := "signed", desc := "(I)I" } : Jvm.MethodName) prog_14_method_16_code (5 : Nat) (Option.some Jvm.ClassFile.FieldType.int)) ∈ TBg := tb_in 1417 rfl rfl
set_option maxRecDepth 100000 in
theorem tw_1418 : (Jvm.Cond.methodLink "WhiteRoadsModel" (292 : Nat) ({ cls := "WhiteRoadsModel", name := "readWay", desc := "()V" } : Jvm.MethodName)) ∈ TBg := tb_in 1418 rfl rfl
set_option maxRecDepth 100000 in
theorem tw_1420 : (Jvm.Cond.instanceMethod ({ cls := "WhiteRoadsModel", name := "readWay", desc := "()V" } : Jvm.MethodName)) ∈ TBg := tb_in 1420 rfl rfl
set_option maxRecDepth 100000 in
theorem tw_1421 : (Jvm.Cond.code ({ cls := "WhiteRoadsModel", name := "readWay", desc := "()V" } : Jvm.MethodName) prog_14_method_20_code (4 : Nat) (Option.none : Option Jvm.ClassFile.FieldType)) ∈ TBg := tb_in 1421 rfl rfl
set_option maxRecDepth 100000 in
theorem tw_1422 : (Jvm.Cond.methodLink "WhiteRoadsModel" (277 : Nat) ({ cls := "WhiteRoadsModel", name := "old", desc := "()I" } : Jvm.MethodName)) ∈ TBg := tb_in 1422 rfl rfl
set_option maxRecDepth 100000 in
theorem tw_1424 : (Jvm.Cond.instanceMethod ({ cls := "WhiteRoadsModel", name := "old", desc := "()I" } : Jvm.MethodName)) ∈ TBg := tb_in 1424 rfl rfl
set_option maxRecDepth 100000 in
theorem tw_1425 : (Jvm.Cond.code ({ cls := "WhiteRoadsModel", name := "old", desc := "()I" } : Jvm.MethodName) prog_14_method_18_code (2 : Nat) (Option.some Jvm.ClassFile.FieldType.int)) ∈ TBg := tb_in 1425 rfl rfl
set_option maxRecDepth 100000 in
theorem tw_1426 : (Jvm.Cond.methodLink "WhiteRoadsModel" (295 : Nat) ({ cls := "WhiteRoadsModel", name := "readHour", desc := "()V" } : Jvm.MethodName)) ∈ TBg := tb_in 1426 rfl rfl
set_option maxRecDepth 100000 in
theorem tw_1428 : (Jvm.Cond.instanceMethod ({ cls := "WhiteRoadsModel", name := "readHour", desc := "()V" } : Jvm.MethodName)) ∈ TBg := tb_in 1428 rfl rfl
set_option maxRecDepth 100000 in
theorem tw_1429 : (Jvm.Cond.code ({ cls := "WhiteRoadsModel", name := "readHour", desc := "()V" } : Jvm.MethodName) prog_14_method_21_code (1 : Nat) (Option.none : Option Jvm.ClassFile.FieldType)) ∈ TBg := tb_in 1429 rfl rfl
set_option maxRecDepth 100000 in
theorem tw_1430 : (Jvm.Cond.methodLink "WhiteRoadsModel" (298 : Nat) ({ cls := "WhiteRoadsModel", name := "readSlip", desc := "()V" } : Jvm.MethodName)) ∈ TBg := tb_in 1430 rfl rfl
set_option maxRecDepth 100000 in
theorem tw_1432 : (Jvm.Cond.instanceMethod ({ cls := "WhiteRoadsModel", name := "readSlip", desc := "()V" } : Jvm.MethodName)) ∈ TBg := tb_in 1432 rfl rfl
set_option maxRecDepth 100000 in
theorem tw_1433 : (Jvm.Cond.code ({ cls := "WhiteRoadsModel", name := "readSlip", desc := "()V" } : Jvm.MethodName) prog_14_method_22_code (5 : Nat) (Option.none : Option Jvm.ClassFile.FieldType)) ∈ TBg := tb_in 1433 rfl rfl
set_option maxRecDepth 100000 in
theorem tw_1434 : (Jvm.Cond.methodLink "WhiteRoadsModel" (304 : Nat) ({ cls := "WhiteRoadsModel", name := "readNumber", desc := "()I" } : Jvm.MethodName)) ∈ TBg := tb_in 1434 rfl rfl
set_option maxRecDepth 100000 in
theorem tw_1436 : (Jvm.Cond.instanceMethod ({ cls := "WhiteRoadsModel", name := "readNumber", desc := "()I" } : Jvm.MethodName)) ∈ TBg := tb_in 1436 rfl rfl
set_option maxRecDepth 100000 in
theorem tw_1437 : (Jvm.Cond.code ({ cls := "WhiteRoadsModel", name := "readNumber", desc := "()I" } : Jvm.MethodName) prog_14_method_23_code (1 : Nat) (Option.some Jvm.ClassFile.FieldType.int)) ∈ TBg := tb_in 1437 rfl rfl
set_option maxRecDepth 100000 in
theorem tw_1438 : (Jvm.Cond.methodLink "WhiteRoadsModel" (313 : Nat) ({ cls := "WhiteRoadsModel", name := "readOld", desc := "()I" } : Jvm.MethodName)) ∈ TBg := tb_in 1438 rfl rfl
set_option maxRecDepth 100000 in
theorem tw_1440 : (Jvm.Cond.instanceMethod ({ cls := "WhiteRoadsModel", name := "readOld", desc := "()I" } : Jvm.MethodName)) ∈ TBg := tb_in 1440 rfl rfl
set_option maxRecDepth 100000 in
theorem tw_1441 : (Jvm.Cond.code ({ cls := "WhiteRoadsModel", name := "readOld", desc := "()I" } : Jvm.MethodName) prog_14_method_24_code (1 : Nat) (Option.some Jvm.ClassFile.FieldType.int)) ∈ TBg := tb_in 1441 rfl rfl
set_option maxRecDepth 100000 in
theorem tw_1442 : (Jvm.Cond.methodLink "WhiteRoadsLaw" (31 : Nat) ({ cls := "WhiteRoadsModel", name := "fault", desc := "(I)I" } : Jvm.MethodName)) ∈ TBg := tb_in 1442 rfl rfl
set_option maxRecDepth 100000 in
theorem tw_1443 : (Jvm.Cond.instanceMethod ({ cls := "WhiteRoadsModel", name := "fault", desc := "(I)I" } : Jvm.MethodName)) ∈ TBg := tb_in 1443 rfl rfl
set_option maxRecDepth 100000 in
theorem tw_1444 : (Jvm.Cond.selects "WhiteRoadsModel" ({ cls := "WhiteRoadsModel", name := "fault", desc := "(I)I" } : Jvm.MethodName) ({ cls := "WhiteRoadsModel", name := "fault", desc := "(I)I" } : Jvm.MethodName)) ∈ TBg := tb_in 1444 rfl rfl
set_option maxRecDepth 100000 in
theorem tw_1445 : (Jvm.Cond.code ({ cls := "WhiteRoadsModel", name := "fault", desc := "(I)I" } : Jvm.MethodName) prog_14_method_28_code (2 : Nat) (Option.some Jvm.ClassFile.FieldType.int)) ∈ TBg := tb_in 1445 rfl rfl
set_option maxRecDepth 100000 in
theorem tw_1446 : (Jvm.Cond.methodLink "WhiteRoadsLaw" (35 : Nat) ({ cls := "WhiteRoadsModel", name := "run", desc := "(I)I" } : Jvm.MethodName)) ∈ TBg := tb_in 1446 rfl rfl
set_option maxRecDepth 100000 in
theorem tw_1447 : (Jvm.Cond.instanceMethod ({ cls := "WhiteRoadsModel", name := "run", desc := "(I)I" } : Jvm.MethodName)) ∈ TBg := tb_in 1447 rfl rfl
set_option maxRecDepth 100000 in
theorem tw_1448 : (Jvm.Cond.selects "WhiteRoadsModel" ({ cls := "WhiteRoadsModel", name := "run", desc := "(I)I" } : Jvm.MethodName) ({ cls := "WhiteRoadsModel", name := "run", desc := "(I)I" } : Jvm.MethodName)) ∈ TBg := tb_in 1448 rfl rfl
set_option maxRecDepth 100000 in
theorem tw_1449 : (Jvm.Cond.code ({ cls := "WhiteRoadsModel", name := "run", desc := "(I)I" } : Jvm.MethodName) prog_14_method_40_code (4 : Nat) (Option.some Jvm.ClassFile.FieldType.int)) ∈ TBg := tb_in 1449 rfl rfl
set_option maxRecDepth 100000 in
theorem tw_1450 : (Jvm.Cond.methodLink "WhiteRoadsModel" (355 : Nat) ({ cls := "WhiteRoadsModel", name := "isIn", desc := "(III)Z" } : Jvm.MethodName)) ∈ TBg := tb_in 1450 rfl rfl
set_option maxRecDepth 100000 in
theorem tw_1451 : (Jvm.Cond.static ({ cls := "WhiteRoadsModel", name := "isIn", desc := "(III)Z" } : Jvm.MethodName)) ∈ TBg := tb_in 1451 rfl rfl
set_option maxRecDepth 100000 in
theorem tw_1452 : (Jvm.Cond.code ({ cls := "WhiteRoadsModel", name := "isIn", desc := "(III)Z" } : Jvm.MethodName) prog_14_method_29_code (3 : Nat) (Option.some Jvm.ClassFile.FieldType.boolean)) ∈ TBg := tb_in 1452 rfl rfl
set_option maxRecDepth 100000 in
theorem tw_1453 : (Jvm.Cond.methodLink "WhiteRoadsModel" (380 : Nat) ({ cls := "WhiteRoadsModel", name := "bring", desc := "(I)V" } : Jvm.MethodName)) ∈ TBg := tb_in 1453 rfl rfl
set_option maxRecDepth 100000 in
theorem tw_1455 : (Jvm.Cond.instanceMethod ({ cls := "WhiteRoadsModel", name := "bring", desc := "(I)V" } : Jvm.MethodName)) ∈ TBg := tb_in 1455 rfl rfl
set_option maxRecDepth 100000 in
theorem tw_1456 : (Jvm.Cond.code ({ cls := "WhiteRoadsModel", name := "bring", desc := "(I)V" } : Jvm.MethodName) prog_14_method_31_code (3 : Nat) (Option.none : Option Jvm.ClassFile.FieldType)) ∈ TBg := tb_in 1456 rfl rfl
set_option maxRecDepth 100000 in
theorem tw_1457 : (Jvm.Cond.methodLink "WhiteRoadsModel" (383 : Nat) ({ cls := "WhiteRoadsModel", name := "goOn", desc := "(III)V" } : Jvm.MethodName)) ∈ TBg := tb_in 1457 rfl rfl
set_option maxRecDepth 100000 in
theorem tw_1459 : (Jvm.Cond.instanceMethod ({ cls := "WhiteRoadsModel", name := "goOn", desc := "(III)V" } : Jvm.MethodName)) ∈ TBg := tb_in 1459 rfl rfl
set_option maxRecDepth 100000 in
theorem tw_1460 : (Jvm.Cond.code ({ cls := "WhiteRoadsModel", name := "goOn", desc := "(III)V" } : Jvm.MethodName) prog_14_method_35_code (12 : Nat) (Option.none : Option Jvm.ClassFile.FieldType)) ∈ TBg := tb_in 1460 rfl rfl
set_option maxRecDepth 100000 in
theorem tw_1461 : (Jvm.Cond.methodLink "WhiteRoadsModel" (371 : Nat) ({ cls := "WhiteRoadsModel", name := "lesser", desc := "(II)I" } : Jvm.MethodName)) ∈ TBg := tb_in 1461 rfl rfl
set_option maxRecDepth 100000 in
theorem tw_1462 : (Jvm.Cond.static ({ cls := "WhiteRoadsModel", name := "lesser", desc := "(II)I" } : Jvm.MethodName)) ∈ TBg := tb_in 1462 rfl rfl
set_option maxRecDepth 100000 in
theorem tw_1463 : (Jvm.Cond.code ({ cls := "WhiteRoadsModel", name := "lesser", desc := "(II)I" } : Jvm.MethodName) prog_14_method_34_code (2 : Nat) (Option.some Jvm.ClassFile.FieldType.int)) ∈ TBg := tb_in 1463 rfl rfl
set_option maxRecDepth 100000 in
theorem tw_1464 : (Jvm.Cond.methodLink "WhiteRoadsModel" (374 : Nat) ({ cls := "WhiteRoadsModel", name := "turn", desc := "()V" } : Jvm.MethodName)) ∈ TBg := tb_in 1464 rfl rfl
set_option maxRecDepth 100000 in
theorem tw_1466 : (Jvm.Cond.instanceMethod ({ cls := "WhiteRoadsModel", name := "turn", desc := "()V" } : Jvm.MethodName)) ∈ TBg := tb_in 1466 rfl rfl
set_option maxRecDepth 100000 in
theorem tw_1467 : (Jvm.Cond.code ({ cls := "WhiteRoadsModel", name := "turn", desc := "()V" } : Jvm.MethodName) prog_14_method_36_code (3 : Nat) (Option.none : Option Jvm.ClassFile.FieldType)) ∈ TBg := tb_in 1467 rfl rfl
set_option maxRecDepth 100000 in
theorem tw_1468 : (Jvm.Cond.methodLink "WhiteRoadsModel" (377 : Nat) ({ cls := "WhiteRoadsModel", name := "runOff", desc := "(I)V" } : Jvm.MethodName)) ∈ TBg := tb_in 1468 rfl rfl
set_option maxRecDepth 100000 in
theorem tw_1470 : (Jvm.Cond.instanceMethod ({ cls := "WhiteRoadsModel", name := "runOff", desc := "(I)V" } : Jvm.MethodName)) ∈ TBg := tb_in 1470 rfl rfl
set_option maxRecDepth 100000 in
theorem tw_1471 : (Jvm.Cond.code ({ cls := "WhiteRoadsModel", name := "runOff", desc := "(I)V" } : Jvm.MethodName) prog_14_method_37_code (2 : Nat) (Option.none : Option Jvm.ClassFile.FieldType)) ∈ TBg := tb_in 1471 rfl rfl
set_option maxRecDepth 100000 in
theorem tw_1472 : (Jvm.Cond.methodLink "WhiteRoadsModel" (387 : Nat) ({ cls := "WhiteRoadsModel", name := "takeBack", desc := "(I)V" } : Jvm.MethodName)) ∈ TBg := tb_in 1472 rfl rfl
set_option maxRecDepth 100000 in
theorem tw_1474 : (Jvm.Cond.instanceMethod ({ cls := "WhiteRoadsModel", name := "takeBack", desc := "(I)V" } : Jvm.MethodName)) ∈ TBg := tb_in 1474 rfl rfl
set_option maxRecDepth 100000 in
theorem tw_1475 : (Jvm.Cond.code ({ cls := "WhiteRoadsModel", name := "takeBack", desc := "(I)V" } : Jvm.MethodName) prog_14_method_32_code (3 : Nat) (Option.none : Option Jvm.ClassFile.FieldType)) ∈ TBg := tb_in 1475 rfl rfl
set_option maxRecDepth 100000 in
theorem tw_1476 : (Jvm.Cond.methodLink "WhiteRoadsLaw" (39 : Nat) ({ cls := "WhiteRoadsModel", name := "shift", desc := "(I)I" } : Jvm.MethodName)) ∈ TBg := tb_in 1476 rfl rfl
set_option maxRecDepth 100000 in
theorem tw_1477 : (Jvm.Cond.instanceMethod ({ cls := "WhiteRoadsModel", name := "shift", desc := "(I)I" } : Jvm.MethodName)) ∈ TBg := tb_in 1477 rfl rfl
set_option maxRecDepth 100000 in
theorem tw_1478 : (Jvm.Cond.selects "WhiteRoadsModel" ({ cls := "WhiteRoadsModel", name := "shift", desc := "(I)I" } : Jvm.MethodName) ({ cls := "WhiteRoadsModel", name := "shift", desc := "(I)I" } : Jvm.MethodName)) ∈ TBg := tb_in 1478 rfl rfl
set_option maxRecDepth 100000 in
theorem tw_1479 : (Jvm.Cond.code ({ cls := "WhiteRoadsModel", name := "shift", desc := "(I)I" } : Jvm.MethodName) prog_14_method_41_code (3 : Nat) (Option.some Jvm.ClassFile.FieldType.int)) ∈ TBg := tb_in 1479 rfl rfl
set_option maxRecDepth 100000 in
theorem tw_1480 : (Jvm.Cond.constant "WhiteRoadsModel" (390 : Nat) (-1000000 : Int32)) ∈ TBg := tb_in 1480 rfl rfl
set_option maxRecDepth 100000 in
theorem tw_1481 : (Jvm.Cond.methodLink "WhiteRoadsLaw" (44 : Nat) ({ cls := "WhiteRoadsModel", name := "spread", desc := "(II)I" } : Jvm.MethodName)) ∈ TBg := tb_in 1481 rfl rfl
set_option maxRecDepth 100000 in
theorem tw_1482 : (Jvm.Cond.instanceMethod ({ cls := "WhiteRoadsModel", name := "spread", desc := "(II)I" } : Jvm.MethodName)) ∈ TBg := tb_in 1482 rfl rfl
set_option maxRecDepth 100000 in
theorem tw_1483 : (Jvm.Cond.selects "WhiteRoadsModel" ({ cls := "WhiteRoadsModel", name := "spread", desc := "(II)I" } : Jvm.MethodName) ({ cls := "WhiteRoadsModel", name := "spread", desc := "(II)I" } : Jvm.MethodName)) ∈ TBg := tb_in 1483 rfl rfl
set_option maxRecDepth 100000 in
theorem tw_1484 : (Jvm.Cond.code ({ cls := "WhiteRoadsModel", name := "spread", desc := "(II)I" } : Jvm.MethodName) prog_14_method_42_code (3 : Nat) (Option.some Jvm.ClassFile.FieldType.int)) ∈ TBg := tb_in 1484 rfl rfl
set_option maxRecDepth 100000 in
theorem tw_1485 : (Jvm.Cond.methodLink "WhiteRoadsModel" (391 : Nat) ({ cls := "WhiteRoadsModel", name := "isYard", desc := "(I)Z" } : Jvm.MethodName)) ∈ TBg := tb_in 1485 rfl rfl
set_option maxRecDepth 100000 in
theorem tw_1487 : (Jvm.Cond.instanceMethod ({ cls := "WhiteRoadsModel", name := "isYard", desc := "(I)Z" } : Jvm.MethodName)) ∈ TBg := tb_in 1487 rfl rfl
set_option maxRecDepth 100000 in
theorem tw_1488 : (Jvm.Cond.code ({ cls := "WhiteRoadsModel", name := "isYard", desc := "(I)Z" } : Jvm.MethodName) prog_14_method_30_code (2 : Nat) (Option.some Jvm.ClassFile.FieldType.boolean)) ∈ TBg := tb_in 1488 rfl rfl
set_option maxRecDepth 100000 in
theorem tw_1489 : (Jvm.Cond.methodLink "WhiteRoadsLaw" (48 : Nat) ({ cls := "WhiteRoadsModel", name := "yard", desc := "(II)I" } : Jvm.MethodName)) ∈ TBg := tb_in 1489 rfl rfl
set_option maxRecDepth 100000 in
theorem tw_1490 : (Jvm.Cond.instanceMethod ({ cls := "WhiteRoadsModel", name := "yard", desc := "(II)I" } : Jvm.MethodName)) ∈ TBg := tb_in 1490 rfl rfl
set_option maxRecDepth 100000 in
theorem tw_1491 : (Jvm.Cond.selects "WhiteRoadsModel" ({ cls := "WhiteRoadsModel", name := "yard", desc := "(II)I" } : Jvm.MethodName) ({ cls := "WhiteRoadsModel", name := "yard", desc := "(II)I" } : Jvm.MethodName)) ∈ TBg := tb_in 1491 rfl rfl
set_option maxRecDepth 100000 in
theorem tw_1492 : (Jvm.Cond.code ({ cls := "WhiteRoadsModel", name := "yard", desc := "(II)I" } : Jvm.MethodName) prog_14_method_43_code (3 : Nat) (Option.some Jvm.ClassFile.FieldType.int)) ∈ TBg := tb_in 1492 rfl rfl
set_option maxRecDepth 100000 in
theorem tw_1493 : (Jvm.Cond.methodLink "WhiteRoadsModel" (394 : Nat) ({ cls := "WhiteRoadsModel", name := "isWhite", desc := "()Z" } : Jvm.MethodName)) ∈ TBg := tb_in 1493 rfl rfl
set_option maxRecDepth 100000 in
theorem tw_1495 : (Jvm.Cond.instanceMethod ({ cls := "WhiteRoadsModel", name := "isWhite", desc := "()Z" } : Jvm.MethodName)) ∈ TBg := tb_in 1495 rfl rfl
set_option maxRecDepth 100000 in
theorem tw_1496 : (Jvm.Cond.code ({ cls := "WhiteRoadsModel", name := "isWhite", desc := "()Z" } : Jvm.MethodName) prog_14_method_38_code (1 : Nat) (Option.some Jvm.ClassFile.FieldType.boolean)) ∈ TBg := tb_in 1496 rfl rfl
set_option maxRecDepth 100000 in
theorem tw_1497 : (Jvm.Cond.methodLink "WhiteRoadsModel" (397 : Nat) ({ cls := "WhiteRoadsModel", name := "isBlocked", desc := "(I)Z" } : Jvm.MethodName)) ∈ TBg := tb_in 1497 rfl rfl
set_option maxRecDepth 100000 in
theorem tw_1499 : (Jvm.Cond.instanceMethod ({ cls := "WhiteRoadsModel", name := "isBlocked", desc := "(I)Z" } : Jvm.MethodName)) ∈ TBg := tb_in 1499 rfl rfl
set_option maxRecDepth 100000 in
theorem tw_1500 : (Jvm.Cond.code ({ cls := "WhiteRoadsModel", name := "isBlocked", desc := "(I)Z" } : Jvm.MethodName) prog_14_method_39_code (2 : Nat) (Option.some Jvm.ClassFile.FieldType.boolean)) ∈ TBg := tb_in 1500 rfl rfl
set_option maxRecDepth 100000 in
theorem tw_1501 : (Jvm.Cond.methodLink "WhiteRoadsLaw" (52 : Nat) ({ cls := "WhiteRoadsModel", name := "warm", desc := "(II)I" } : Jvm.MethodName)) ∈ TBg := tb_in 1501 rfl rfl
set_option maxRecDepth 100000 in
theorem tw_1502 : (Jvm.Cond.instanceMethod ({ cls := "WhiteRoadsModel", name := "warm", desc := "(II)I" } : Jvm.MethodName)) ∈ TBg := tb_in 1502 rfl rfl
set_option maxRecDepth 100000 in
theorem tw_1503 : (Jvm.Cond.selects "WhiteRoadsModel" ({ cls := "WhiteRoadsModel", name := "warm", desc := "(II)I" } : Jvm.MethodName) ({ cls := "WhiteRoadsModel", name := "warm", desc := "(II)I" } : Jvm.MethodName)) ∈ TBg := tb_in 1503 rfl rfl
set_option maxRecDepth 100000 in
theorem tw_1504 : (Jvm.Cond.code ({ cls := "WhiteRoadsModel", name := "warm", desc := "(II)I" } : Jvm.MethodName) prog_14_method_44_code (3 : Nat) (Option.some Jvm.ClassFile.FieldType.int)) ∈ TBg := tb_in 1504 rfl rfl
set_option maxRecDepth 100000 in
theorem tw_1505 : (Jvm.Cond.methodLink "WhiteRoadsLaw" (56 : Nat) ({ cls := "WhiteRoadsModel", name := "when", desc := "(II)I" } : Jvm.MethodName)) ∈ TBg := tb_in 1505 rfl rfl
set_option maxRecDepth 100000 in
theorem tw_1506 : (Jvm.Cond.instanceMethod ({ cls := "WhiteRoadsModel", name := "when", desc := "(II)I" } : Jvm.MethodName)) ∈ TBg := tb_in 1506 rfl rfl
set_option maxRecDepth 100000 in
theorem tw_1507 : (Jvm.Cond.selects "WhiteRoadsModel" ({ cls := "WhiteRoadsModel", name := "when", desc := "(II)I" } : Jvm.MethodName) ({ cls := "WhiteRoadsModel", name := "when", desc := "(II)I" } : Jvm.MethodName)) ∈ TBg := tb_in 1507 rfl rfl
set_option maxRecDepth 100000 in
theorem tw_1508 : (Jvm.Cond.code ({ cls := "WhiteRoadsModel", name := "when", desc := "(II)I" } : Jvm.MethodName) prog_14_method_47_code (3 : Nat) (Option.some Jvm.ClassFile.FieldType.int)) ∈ TBg := tb_in 1508 rfl rfl
set_option maxRecDepth 100000 in
theorem tw_1509 : (Jvm.Cond.methodLink "WhiteRoadsModel" (400 : Nat) ({ cls := "WhiteRoadsModel", name := "isShift", desc := "(I)Z" } : Jvm.MethodName)) ∈ TBg := tb_in 1509 rfl rfl
set_option maxRecDepth 100000 in
theorem tw_1510 : (Jvm.Cond.static ({ cls := "WhiteRoadsModel", name := "isShift", desc := "(I)Z" } : Jvm.MethodName)) ∈ TBg := tb_in 1510 rfl rfl
set_option maxRecDepth 100000 in
theorem tw_1511 : (Jvm.Cond.code ({ cls := "WhiteRoadsModel", name := "isShift", desc := "(I)Z" } : Jvm.MethodName) prog_14_method_45_code (1 : Nat) (Option.some Jvm.ClassFile.FieldType.boolean)) ∈ TBg := tb_in 1511 rfl rfl
set_option maxRecDepth 100000 in
theorem tw_1512 : (Jvm.Cond.methodLink "WhiteRoadsModel" (403 : Nat) ({ cls := "WhiteRoadsModel", name := "firstWhite", desc := "(IIII)I" } : Jvm.MethodName)) ∈ TBg := tb_in 1512 rfl rfl
set_option maxRecDepth 100000 in
theorem tw_1514 : (Jvm.Cond.instanceMethod ({ cls := "WhiteRoadsModel", name := "firstWhite", desc := "(IIII)I" } : Jvm.MethodName)) ∈ TBg := tb_in 1514 rfl rfl
set_option maxRecDepth 100000 in
theorem tw_1515 : (Jvm.Cond.code ({ cls := "WhiteRoadsModel", name := "firstWhite", desc := "(IIII)I" } : Jvm.MethodName) prog_14_method_46_code (6 : Nat) (Option.some Jvm.ClassFile.FieldType.int)) ∈ TBg := tb_in 1515 rfl rfl
set_option maxRecDepth 100000 in
theorem tw_1516 : (Jvm.Cond.methodLink "WhiteRoadsLaw" (61 : Nat) ({ cls := "WhiteRoadsModel", name := "deep", desc := "(III)I" } : Jvm.MethodName)) ∈ TBg := tb_in 1516 rfl rfl
set_option maxRecDepth 100000 in
theorem tw_1517 : (Jvm.Cond.instanceMethod ({ cls := "WhiteRoadsModel", name := "deep", desc := "(III)I" } : Jvm.MethodName)) ∈ TBg := tb_in 1517 rfl rfl
set_option maxRecDepth 100000 in
theorem tw_1518 : (Jvm.Cond.selects "WhiteRoadsModel" ({ cls := "WhiteRoadsModel", name := "deep", desc := "(III)I" } : Jvm.MethodName) ({ cls := "WhiteRoadsModel", name := "deep", desc := "(III)I" } : Jvm.MethodName)) ∈ TBg := tb_in 1518 rfl rfl
set_option maxRecDepth 100000 in
theorem tw_1519 : (Jvm.Cond.code ({ cls := "WhiteRoadsModel", name := "deep", desc := "(III)I" } : Jvm.MethodName) prog_14_method_48_code (5 : Nat) (Option.some Jvm.ClassFile.FieldType.int)) ∈ TBg := tb_in 1519 rfl rfl
set_option maxRecDepth 100000 in
theorem tw_1520 : (Jvm.Cond.methodLink "WhiteRoadsLaw" (65 : Nat) ({ cls := "WhiteRoadsModel", name := "least", desc := "(II)I" } : Jvm.MethodName)) ∈ TBg := tb_in 1520 rfl rfl
set_option maxRecDepth 100000 in
theorem tw_1521 : (Jvm.Cond.instanceMethod ({ cls := "WhiteRoadsModel", name := "least", desc := "(II)I" } : Jvm.MethodName)) ∈ TBg := tb_in 1521 rfl rfl
set_option maxRecDepth 100000 in
theorem tw_1522 : (Jvm.Cond.selects "WhiteRoadsModel" ({ cls := "WhiteRoadsModel", name := "least", desc := "(II)I" } : Jvm.MethodName) ({ cls := "WhiteRoadsModel", name := "least", desc := "(II)I" } : Jvm.MethodName)) ∈ TBg := tb_in 1522 rfl rfl
set_option maxRecDepth 100000 in
theorem tw_1523 : (Jvm.Cond.code ({ cls := "WhiteRoadsModel", name := "least", desc := "(II)I" } : Jvm.MethodName) prog_14_method_49_code (4 : Nat) (Option.some Jvm.ClassFile.FieldType.int)) ∈ TBg := tb_in 1523 rfl rfl
set_option maxRecDepth 100000 in
theorem tw_1524 : (Jvm.Cond.methodLink "WhiteRoadsLaw" (69 : Nat) ({ cls := "WhiteRoadsModel", name := "latest", desc := "(III)I" } : Jvm.MethodName)) ∈ TBg := tb_in 1524 rfl rfl
set_option maxRecDepth 100000 in
theorem tw_1525 : (Jvm.Cond.instanceMethod ({ cls := "WhiteRoadsModel", name := "latest", desc := "(III)I" } : Jvm.MethodName)) ∈ TBg := tb_in 1525 rfl rfl
set_option maxRecDepth 100000 in
theorem tw_1526 : (Jvm.Cond.selects "WhiteRoadsModel" ({ cls := "WhiteRoadsModel", name := "latest", desc := "(III)I" } : Jvm.MethodName) ({ cls := "WhiteRoadsModel", name := "latest", desc := "(III)I" } : Jvm.MethodName)) ∈ TBg := tb_in 1526 rfl rfl
set_option maxRecDepth 100000 in
theorem tw_1527 : (Jvm.Cond.code ({ cls := "WhiteRoadsModel", name := "latest", desc := "(III)I" } : Jvm.MethodName) prog_14_method_50_code (5 : Nat) (Option.some Jvm.ClassFile.FieldType.int)) ∈ TBg := tb_in 1527 rfl rfl
set_option maxRecDepth 100000 in
theorem tw_1528 : (Jvm.Cond.methodLink "WhiteRoadsLaw" (73 : Nat) ({ cls := "WhiteRoadsModel", name := "odds", desc := "(III)I" } : Jvm.MethodName)) ∈ TBg := tb_in 1528 rfl rfl
set_option maxRecDepth 100000 in
theorem tw_1529 : (Jvm.Cond.instanceMethod ({ cls := "WhiteRoadsModel", name := "odds", desc := "(III)I" } : Jvm.MethodName)) ∈ TBg := tb_in 1529 rfl rfl
set_option maxRecDepth 100000 in
theorem tw_1530 : (Jvm.Cond.selects "WhiteRoadsModel" ({ cls := "WhiteRoadsModel", name := "odds", desc := "(III)I" } : Jvm.MethodName) ({ cls := "WhiteRoadsModel", name := "odds", desc := "(III)I" } : Jvm.MethodName)) ∈ TBg := tb_in 1530 rfl rfl
set_option maxRecDepth 100000 in
theorem tw_1531 : (Jvm.Cond.code ({ cls := "WhiteRoadsModel", name := "odds", desc := "(III)I" } : Jvm.MethodName) prog_14_method_53_code (8 : Nat) (Option.some Jvm.ClassFile.FieldType.int)) ∈ TBg := tb_in 1531 rfl rfl
set_option maxRecDepth 100000 in
theorem tw_1532 : (Jvm.Cond.methodLink "WhiteRoadsModel" (407 : Nat) ({ cls := "WhiteRoadsModel", name := "left", desc := "(I)I" } : Jvm.MethodName)) ∈ TBg := tb_in 1532 rfl rfl
set_option maxRecDepth 100000 in
theorem tw_1533 : (Jvm.Cond.instanceMethod ({ cls := "WhiteRoadsModel", name := "left", desc := "(I)I" } : Jvm.MethodName)) ∈ TBg := tb_in 1533 rfl rfl
set_option maxRecDepth 100000 in
theorem tw_1534 : (Jvm.Cond.selects "WhiteRoadsModel" ({ cls := "WhiteRoadsModel", name := "left", desc := "(I)I" } : Jvm.MethodName) ({ cls := "WhiteRoadsModel", name := "left", desc := "(I)I" } : Jvm.MethodName)) ∈ TBg := tb_in 1534 rfl rfl
set_option maxRecDepth 100000 in
theorem tw_1535 : (Jvm.Cond.code ({ cls := "WhiteRoadsModel", name := "left", desc := "(I)I" } : Jvm.MethodName) prog_14_method_73_code (6 : Nat) (Option.some Jvm.ClassFile.FieldType.int)) ∈ TBg := tb_in 1535 rfl rfl
set_option maxRecDepth 100000 in
theorem tw_1536 : (Jvm.Cond.methodLink "WhiteRoadsModel" (454 : Nat) ({ cls := "WhiteRoadsModel", name := "counts", desc := "(II)Z" } : Jvm.MethodName)) ∈ TBg := tb_in 1536 rfl rfl
set_option maxRecDepth 100000 in
theorem tw_1538 : (Jvm.Cond.instanceMethod ({ cls := "WhiteRoadsModel", name := "counts", desc := "(II)Z" } : Jvm.MethodName)) ∈ TBg := tb_in 1538 rfl rfl
set_option maxRecDepth 100000 in
theorem tw_1539 : (Jvm.Cond.code ({ cls := "WhiteRoadsModel", name := "counts", desc := "(II)Z" } : Jvm.MethodName) prog_14_method_70_code (3 : Nat) (Option.some Jvm.ClassFile.FieldType.boolean)) ∈ TBg := tb_in 1539 rfl rfl
set_option maxRecDepth 100000 in
theorem tw_1540 : (Jvm.Cond.methodLink "WhiteRoadsModel" (458 : Nat) ({ cls := "WhiteRoadsModel", name := "isSo", desc := "(II)Z" } : Jvm.MethodName)) ∈ TBg := tb_in 1540 rfl rfl
set_option maxRecDepth 100000 in
theorem tw_1542 : (Jvm.Cond.instanceMethod ({ cls := "WhiteRoadsModel", name := "isSo", desc := "(II)Z" } : Jvm.MethodName)) ∈ TBg := tb_in 1542 rfl rfl
set_option maxRecDepth 100000 in
theorem tw_1543 : (Jvm.Cond.code ({ cls := "WhiteRoadsModel", name := "isSo", desc := "(II)Z" } : Jvm.MethodName) prog_14_method_72_code (4 : Nat) (Option.some Jvm.ClassFile.FieldType.boolean)) ∈ TBg := tb_in 1543 rfl rfl
set_option maxRecDepth 100000 in
theorem tw_1544 : (Jvm.Cond.methodLink "WhiteRoadsModel" (451 : Nat) ({ cls := "WhiteRoadsModel", name := "warmBehind", desc := "(IIII)I" } : Jvm.MethodName)) ∈ TBg := tb_in 1544 rfl rfl
set_option maxRecDepth 100000 in
theorem tw_1546 : (Jvm.Cond.instanceMethod ({ cls := "WhiteRoadsModel", name := "warmBehind", desc := "(IIII)I" } : Jvm.MethodName)) ∈ TBg := tb_in 1546 rfl rfl
set_option maxRecDepth 100000 in
theorem tw_1547 : (Jvm.Cond.code ({ cls := "WhiteRoadsModel", name := "warmBehind", desc := "(IIII)I" } : Jvm.MethodName) prog_14_method_71_code (6 : Nat) (Option.some Jvm.ClassFile.FieldType.int)) ∈ TBg := tb_in 1547 rfl rfl
set_option maxRecDepth 100000 in
theorem tw_1548 : (Jvm.Cond.methodLink "WhiteRoadsModel" (448 : Nat) ({ cls := "WhiteRoadsModel", name := "beginYard", desc := "(I)V" } : Jvm.MethodName)) ∈ TBg := tb_in 1548 rfl rfl
set_option maxRecDepth 100000 in
theorem tw_1550 : (Jvm.Cond.instanceMethod ({ cls := "WhiteRoadsModel", name := "beginYard", desc := "(I)V" } : Jvm.MethodName)) ∈ TBg := tb_in 1550 rfl rfl
set_option maxRecDepth 100000 in
theorem tw_1551 : (Jvm.Cond.code ({ cls := "WhiteRoadsModel", name := "beginYard", desc := "(I)V" } : Jvm.MethodName) prog_14_method_33_code (3 : Nat) (Option.none : Option Jvm.ClassFile.FieldType)) ∈ TBg := tb_in 1551 rfl rfl
set_option maxRecDepth 100000 in
theorem tw_1552 : (Jvm.Cond.methodLink "WhiteRoadsModel" (410 : Nat) ({ cls := "WhiteRoadsModel", name := "weightOf", desc := "(I)I" } : Jvm.MethodName)) ∈ TBg := tb_in 1552 rfl rfl
set_option maxRecDepth 100000 in
theorem tw_1554 : (Jvm.Cond.instanceMethod ({ cls := "WhiteRoadsModel", name := "weightOf", desc := "(I)I" } : Jvm.MethodName)) ∈ TBg := tb_in 1554 rfl rfl
set_option maxRecDepth 100000 in
theorem tw_1555 : (Jvm.Cond.code ({ cls := "WhiteRoadsModel", name := "weightOf", desc := "(I)I" } : Jvm.MethodName) prog_14_method_52_code (4 : Nat) (Option.some Jvm.ClassFile.FieldType.int)) ∈ TBg := tb_in 1555 rfl rfl
set_option maxRecDepth 100000 in
theorem tw_1556 : (Jvm.Cond.methodLink "WhiteRoadsModel" (413 : Nat) ({ cls := "WhiteRoadsModel", name := "common", desc := "(II)I" } : Jvm.MethodName)) ∈ TBg := tb_in 1556 rfl rfl
set_option maxRecDepth 100000 in
theorem tw_1557 : (Jvm.Cond.static ({ cls := "WhiteRoadsModel", name := "common", desc := "(II)I" } : Jvm.MethodName)) ∈ TBg := tb_in 1557 rfl rfl
set_option maxRecDepth 100000 in
theorem tw_1558 : (Jvm.Cond.code ({ cls := "WhiteRoadsModel", name := "common", desc := "(II)I" } : Jvm.MethodName) prog_14_method_51_code (5 : Nat) (Option.some Jvm.ClassFile.FieldType.int)) ∈ TBg := tb_in 1558 rfl rfl
set_option maxRecDepth 100000 in
theorem tw_1559 : (Jvm.Cond.methodLink "WhiteRoadsLaw" (78 : Nat) ({ cls := "WhiteRoadsModel", name := "plan", desc := "(IIII)I" } : Jvm.MethodName)) ∈ TBg := tb_in 1559 rfl rfl
set_option maxRecDepth 100000 in
theorem tw_1560 : (Jvm.Cond.instanceMethod ({ cls := "WhiteRoadsModel", name := "plan", desc := "(IIII)I" } : Jvm.MethodName)) ∈ TBg := tb_in 1560 rfl rfl
set_option maxRecDepth 100000 in
theorem tw_1561 : (Jvm.Cond.selects "WhiteRoadsModel" ({ cls := "WhiteRoadsModel", name := "plan", desc := "(IIII)I" } : Jvm.MethodName) ({ cls := "WhiteRoadsModel", name := "plan", desc := "(IIII)I" } : Jvm.MethodName)) ∈ TBg := tb_in 1561 rfl rfl
set_option maxRecDepth 100000 in
theorem tw_1562 : (Jvm.Cond.code ({ cls := "WhiteRoadsModel", name := "plan", desc := "(IIII)I" } : Jvm.MethodName) prog_14_method_56_code (10 : Nat) (Option.some Jvm.ClassFile.FieldType.int)) ∈ TBg := tb_in 1562 rfl rfl
set_option maxRecDepth 100000 in
theorem tw_1563 : (Jvm.Cond.methodLink "WhiteRoadsModel" (416 : Nat) ({ cls := "WhiteRoadsModel", name := "isSet", desc := "(I)Z" } : Jvm.MethodName)) ∈ TBg := tb_in 1563 rfl rfl
set_option maxRecDepth 100000 in
theorem tw_1565 : (Jvm.Cond.instanceMethod ({ cls := "WhiteRoadsModel", name := "isSet", desc := "(I)Z" } : Jvm.MethodName)) ∈ TBg := tb_in 1565 rfl rfl
set_option maxRecDepth 100000 in
theorem tw_1566 : (Jvm.Cond.code ({ cls := "WhiteRoadsModel", name := "isSet", desc := "(I)Z" } : Jvm.MethodName) prog_14_method_54_code (2 : Nat) (Option.some Jvm.ClassFile.FieldType.boolean)) ∈ TBg := tb_in 1566 rfl rfl
set_option maxRecDepth 100000 in
theorem tw_1567 : (Jvm.Cond.methodLink "WhiteRoadsModel" (419 : Nat) ({ cls := "WhiteRoadsModel", name := "costOf", desc := "(IIII)I" } : Jvm.MethodName)) ∈ TBg := tb_in 1567 rfl rfl
set_option maxRecDepth 100000 in
theorem tw_1569 : (Jvm.Cond.instanceMethod ({ cls := "WhiteRoadsModel", name := "costOf", desc := "(IIII)I" } : Jvm.MethodName)) ∈ TBg := tb_in 1569 rfl rfl
set_option maxRecDepth 100000 in
theorem tw_1570 : (Jvm.Cond.code ({ cls := "WhiteRoadsModel", name := "costOf", desc := "(IIII)I" } : Jvm.MethodName) prog_14_method_55_code (9 : Nat) (Option.some Jvm.ClassFile.FieldType.int)) ∈ TBg := tb_in 1570 rfl rfl
set_option maxRecDepth 100000 in
theorem tw_1571 : (Jvm.Cond.methodLink "WhiteRoadsLaw" (82 : Nat) ({ cls := "WhiteRoadsModel", name := "round", desc := "(III)I" } : Jvm.MethodName)) ∈ TBg := tb_in 1571 rfl rfl
set_option maxRecDepth 100000 in
theorem tw_1572 : (Jvm.Cond.instanceMethod ({ cls := "WhiteRoadsModel", name := "round", desc := "(III)I" } : Jvm.MethodName)) ∈ TBg := tb_in 1572 rfl rfl
set_option maxRecDepth 100000 in
theorem tw_1573 : (Jvm.Cond.selects "WhiteRoadsModel" ({ cls := "WhiteRoadsModel", name := "round", desc := "(III)I" } : Jvm.MethodName) ({ cls := "WhiteRoadsModel", name := "round", desc := "(III)I" } : Jvm.MethodName)) ∈ TBg := tb_in 1573 rfl rfl
set_option maxRecDepth 100000 in
theorem tw_1574 : (Jvm.Cond.code ({ cls := "WhiteRoadsModel", name := "round", desc := "(III)I" } : Jvm.MethodName) prog_14_method_63_code (11 : Nat) (Option.some Jvm.ClassFile.FieldType.int)) ∈ TBg := tb_in 1574 rfl rfl
set_option maxRecDepth 100000 in
theorem tw_1575 : (Jvm.Cond.methodLink "WhiteRoadsModel" (429 : Nat) ({ cls := "WhiteRoadsModel", name := "layFar", desc := "()V" } : Jvm.MethodName)) ∈ TBg := tb_in 1575 rfl rfl
set_option maxRecDepth 100000 in
theorem tw_1577 : (Jvm.Cond.instanceMethod ({ cls := "WhiteRoadsModel", name := "layFar", desc := "()V" } : Jvm.MethodName)) ∈ TBg := tb_in 1577 rfl rfl
set_option maxRecDepth 100000 in
theorem tw_1578 : (Jvm.Cond.code ({ cls := "WhiteRoadsModel", name := "layFar", desc := "()V" } : Jvm.MethodName) prog_14_method_57_code (4 : Nat) (Option.none : Option Jvm.ClassFile.FieldType)) ∈ TBg := tb_in 1578 rfl rfl
set_option maxRecDepth 100000 in
theorem tw_1579 : (Jvm.Cond.constant "WhiteRoadsModel" (422 : Nat) (1000000 : Int32)) ∈ TBg := tb_in 1579 rfl rfl
set_option maxRecDepth 100000 in
theorem tw_1580 : (Jvm.Cond.methodLink "WhiteRoadsModel" (432 : Nat) ({ cls := "WhiteRoadsModel", name := "layWhite", desc := "(II)V" } : Jvm.MethodName)) ∈ TBg := tb_in 1580 rfl rfl
set_option maxRecDepth 100000 in
theorem tw_1582 : (Jvm.Cond.instanceMethod ({ cls := "WhiteRoadsModel", name := "layWhite", desc := "(II)V" } : Jvm.MethodName)) ∈ TBg := tb_in 1582 rfl rfl
set_option maxRecDepth 100000 in
theorem tw_1583 : (Jvm.Cond.code ({ cls := "WhiteRoadsModel", name := "layWhite", desc := "(II)V" } : Jvm.MethodName) prog_14_method_58_code (5 : Nat) (Option.none : Option Jvm.ClassFile.FieldType)) ∈ TBg := tb_in 1583 rfl rfl
set_option maxRecDepth 100000 in
theorem tw_1584 : (Jvm.Cond.methodLink "WhiteRoadsModel" (435 : Nat) ({ cls := "WhiteRoadsModel", name := "whitesOf", desc := "(I)I" } : Jvm.MethodName)) ∈ TBg := tb_in 1584 rfl rfl
set_option maxRecDepth 100000 in
theorem tw_1586 : (Jvm.Cond.instanceMethod ({ cls := "WhiteRoadsModel", name := "whitesOf", desc := "(I)I" } : Jvm.MethodName)) ∈ TBg := tb_in 1586 rfl rfl
set_option maxRecDepth 100000 in
theorem tw_1587 : (Jvm.Cond.code ({ cls := "WhiteRoadsModel", name := "whitesOf", desc := "(I)I" } : Jvm.MethodName) prog_14_method_60_code (4 : Nat) (Option.some Jvm.ClassFile.FieldType.int)) ∈ TBg := tb_in 1587 rfl rfl
set_option maxRecDepth 100000 in
theorem tw_1588 : (Jvm.Cond.methodLink "WhiteRoadsModel" (423 : Nat) ({ cls := "WhiteRoadsModel", name := "minutesOf", desc := "(I)I" } : Jvm.MethodName)) ∈ TBg := tb_in 1588 rfl rfl
set_option maxRecDepth 100000 in
theorem tw_1590 : (Jvm.Cond.instanceMethod ({ cls := "WhiteRoadsModel", name := "minutesOf", desc := "(I)I" } : Jvm.MethodName)) ∈ TBg := tb_in 1590 rfl rfl
set_option maxRecDepth 100000 in
theorem tw_1591 : (Jvm.Cond.code ({ cls := "WhiteRoadsModel", name := "minutesOf", desc := "(I)I" } : Jvm.MethodName) prog_14_method_59_code (5 : Nat) (Option.some Jvm.ClassFile.FieldType.int)) ∈ TBg := tb_in 1591 rfl rfl
set_option maxRecDepth 100000 in
theorem tw_1592 : (Jvm.Cond.methodLink "WhiteRoadsModel" (438 : Nat) ({ cls := "WhiteRoadsModel", name := "nextOrder", desc := "(I)Z" } : Jvm.MethodName)) ∈ TBg := tb_in 1592 rfl rfl
set_option maxRecDepth 100000 in
theorem tw_1594 : (Jvm.Cond.instanceMethod ({ cls := "WhiteRoadsModel", name := "nextOrder", desc := "(I)Z" } : Jvm.MethodName)) ∈ TBg := tb_in 1594 rfl rfl
set_option maxRecDepth 100000 in
theorem tw_1595 : (Jvm.Cond.code ({ cls := "WhiteRoadsModel", name := "nextOrder", desc := "(I)Z" } : Jvm.MethodName) prog_14_method_61_code (6 : Nat) (Option.some Jvm.ClassFile.FieldType.boolean)) ∈ TBg := tb_in 1595 rfl rfl
set_option maxRecDepth 100000 in
theorem tw_1596 : (Jvm.Cond.methodLink "WhiteRoadsModel" (426 : Nat) ({ cls := "WhiteRoadsModel", name := "swap", desc := "(II)V" } : Jvm.MethodName)) ∈ TBg := tb_in 1596 rfl rfl
set_option maxRecDepth 100000 in
theorem tw_1598 : (Jvm.Cond.instanceMethod ({ cls := "WhiteRoadsModel", name := "swap", desc := "(II)V" } : Jvm.MethodName)) ∈ TBg := tb_in 1598 rfl rfl
set_option maxRecDepth 100000 in
theorem tw_1599 : (Jvm.Cond.code ({ cls := "WhiteRoadsModel", name := "swap", desc := "(II)V" } : Jvm.MethodName) prog_14_method_62_code (4 : Nat) (Option.none : Option Jvm.ClassFile.FieldType)) ∈ TBg := tb_in 1599 rfl rfl
set_option maxRecDepth 100000 in
theorem tw_1600 : (Jvm.Cond.methodLink "WhiteRoadsLaw" (86 : Nat) ({ cls := "WhiteRoadsModel", name := "lies", desc := "(I)I" } : Jvm.MethodName)) ∈ TBg := tb_in 1600 rfl rfl
set_option maxRecDepth 100000 in
theorem tw_1601 : (Jvm.Cond.instanceMethod ({ cls := "WhiteRoadsModel", name := "lies", desc := "(I)I" } : Jvm.MethodName)) ∈ TBg := tb_in 1601 rfl rfl
set_option maxRecDepth 100000 in
theorem tw_1602 : (Jvm.Cond.selects "WhiteRoadsModel" ({ cls := "WhiteRoadsModel", name := "lies", desc := "(I)I" } : Jvm.MethodName) ({ cls := "WhiteRoadsModel", name := "lies", desc := "(I)I" } : Jvm.MethodName)) ∈ TBg := tb_in 1602 rfl rfl
set_option maxRecDepth 100000 in
theorem tw_1603 : (Jvm.Cond.code ({ cls := "WhiteRoadsModel", name := "lies", desc := "(I)I" } : Jvm.MethodName) prog_14_method_64_code (2 : Nat) (Option.some Jvm.ClassFile.FieldType.int)) ∈ TBg := tb_in 1603 rfl rfl
set_option maxRecDepth 100000 in
theorem tw_1604 : (Jvm.Cond.methodLink "WhiteRoadsLaw" (90 : Nat) ({ cls := "WhiteRoadsModel", name := "open", desc := "(III)I" } : Jvm.MethodName)) ∈ TBg := tb_in 1604 rfl rfl
set_option maxRecDepth 100000 in
theorem tw_1605 : (Jvm.Cond.instanceMethod ({ cls := "WhiteRoadsModel", name := "open", desc := "(III)I" } : Jvm.MethodName)) ∈ TBg := tb_in 1605 rfl rfl
set_option maxRecDepth 100000 in
theorem tw_1606 : (Jvm.Cond.selects "WhiteRoadsModel" ({ cls := "WhiteRoadsModel", name := "open", desc := "(III)I" } : Jvm.MethodName) ({ cls := "WhiteRoadsModel", name := "open", desc := "(III)I" } : Jvm.MethodName)) ∈ TBg := tb_in 1606 rfl rfl
set_option maxRecDepth 100000 in
theorem tw_1607 : (Jvm.Cond.code ({ cls := "WhiteRoadsModel", name := "open", desc := "(III)I" } : Jvm.MethodName) prog_14_method_66_code (8 : Nat) (Option.some Jvm.ClassFile.FieldType.int)) ∈ TBg := tb_in 1607 rfl rfl
set_option maxRecDepth 100000 in
theorem tw_1608 : (Jvm.Cond.methodLink "WhiteRoadsModel" (441 : Nat) ({ cls := "WhiteRoadsModel", name := "layBlocked", desc := "()V" } : Jvm.MethodName)) ∈ TBg := tb_in 1608 rfl rfl
set_option maxRecDepth 100000 in
theorem tw_1610 : (Jvm.Cond.instanceMethod ({ cls := "WhiteRoadsModel", name := "layBlocked", desc := "()V" } : Jvm.MethodName)) ∈ TBg := tb_in 1610 rfl rfl
set_option maxRecDepth 100000 in
theorem tw_1611 : (Jvm.Cond.code ({ cls := "WhiteRoadsModel", name := "layBlocked", desc := "()V" } : Jvm.MethodName) prog_14_method_65_code (3 : Nat) (Option.none : Option Jvm.ClassFile.FieldType)) ∈ TBg := tb_in 1611 rfl rfl
set_option maxRecDepth 100000 in
theorem tw_1612 : (Jvm.Cond.methodLink "WhiteRoadsLaw" (94 : Nat) ({ cls := "WhiteRoadsModel", name := "read", desc := "(IIIII)I" } : Jvm.MethodName)) ∈ TBg := tb_in 1612 rfl rfl
set_option maxRecDepth 100000 in
theorem tw_1613 : (Jvm.Cond.instanceMethod ({ cls := "WhiteRoadsModel", name := "read", desc := "(IIIII)I" } : Jvm.MethodName)) ∈ TBg := tb_in 1613 rfl rfl
set_option maxRecDepth 100000 in
theorem tw_1614 : (Jvm.Cond.selects "WhiteRoadsModel" ({ cls := "WhiteRoadsModel", name := "read", desc := "(IIIII)I" } : Jvm.MethodName) ({ cls := "WhiteRoadsModel", name := "read", desc := "(IIIII)I" } : Jvm.MethodName)) ∈ TBg := tb_in 1614 rfl rfl
set_option maxRecDepth 100000 in
theorem tw_1615 : (Jvm.Cond.code ({ cls := "WhiteRoadsModel", name := "read", desc := "(IIIII)I" } : Jvm.MethodName) prog_14_method_67_code (6 : Nat) (Option.some Jvm.ClassFile.FieldType.int)) ∈ TBg := tb_in 1615 rfl rfl
set_option maxRecDepth 100000 in
theorem tw_1616 : (Jvm.Cond.methodLink "WhiteRoadsLaw" (99 : Nat) ({ cls := "WhiteRoadsModel", name := "untell", desc := "(I)Z" } : Jvm.MethodName)) ∈ TBg := tb_in 1616 rfl rfl
set_option maxRecDepth 100000 in
theorem tw_1617 : (Jvm.Cond.instanceMethod ({ cls := "WhiteRoadsModel", name := "untell", desc := "(I)Z" } : Jvm.MethodName)) ∈ TBg := tb_in 1617 rfl rfl
set_option maxRecDepth 100000 in
theorem tw_1618 : (Jvm.Cond.selects "WhiteRoadsModel" ({ cls := "WhiteRoadsModel", name := "untell", desc := "(I)Z" } : Jvm.MethodName) ({ cls := "WhiteRoadsModel", name := "untell", desc := "(I)Z" } : Jvm.MethodName)) ∈ TBg := tb_in 1618 rfl rfl
set_option maxRecDepth 100000 in
theorem tw_1619 : (Jvm.Cond.code ({ cls := "WhiteRoadsModel", name := "untell", desc := "(I)Z" } : Jvm.MethodName) prog_14_method_68_code (2 : Nat) (Option.some Jvm.ClassFile.FieldType.boolean)) ∈ TBg := tb_in 1619 rfl rfl
set_option maxRecDepth 100000 in
theorem tw_1620 : (Jvm.Cond.methodLink "WhiteRoadsLaw" (103 : Nat) ({ cls := "WhiteRoadsModel", name := "later", desc := "(I)I" } : Jvm.MethodName)) ∈ TBg := tb_in 1620 rfl rfl
set_option maxRecDepth 100000 in
theorem tw_1621 : (Jvm.Cond.instanceMethod ({ cls := "WhiteRoadsModel", name := "later", desc := "(I)I" } : Jvm.MethodName)) ∈ TBg := tb_in 1621 rfl rfl
set_option maxRecDepth 100000 in
theorem tw_1622 : (Jvm.Cond.selects "WhiteRoadsModel" ({ cls := "WhiteRoadsModel", name := "later", desc := "(I)I" } : Jvm.MethodName) ({ cls := "WhiteRoadsModel", name := "later", desc := "(I)I" } : Jvm.MethodName)) ∈ TBg := tb_in 1622 rfl rfl
set_option maxRecDepth 100000 in
theorem tw_1623 : (Jvm.Cond.code ({ cls := "WhiteRoadsModel", name := "later", desc := "(I)I" } : Jvm.MethodName) prog_14_method_69_code (2 : Nat) (Option.some Jvm.ClassFile.FieldType.int)) ∈ TBg := tb_in 1623 rfl rfl
set_option maxRecDepth 100000 in
theorem tw_1624 : (Jvm.Cond.constant "WhiteRoadsModel" (447 : Nat) (100000 : Int32)) ∈ TBg := tb_in 1624 rfl rfl
set_option maxRecDepth 100000 in
theorem tw_1625 : (Jvm.Cond.methodLink "WhiteRoadsLaw" (107 : Nat) ({ cls := "WhiteRoadsModel", name := "left", desc := "(I)I" } : Jvm.MethodName)) ∈ TBg := tb_in 1625 rfl rfl
set_option maxRecDepth 100000 in
theorem tw_1626 : (Jvm.Cond.methodLink "WhiteRoadsLaw" (111 : Nat) ({ cls := "WhiteRoadsModel", name := "tells", desc := "(III)I" } : Jvm.MethodName)) ∈ TBg := tb_in 1626 rfl rfl
set_option maxRecDepth 100000 in
theorem tw_1627 : (Jvm.Cond.instanceMethod ({ cls := "WhiteRoadsModel", name := "tells", desc := "(III)I" } : Jvm.MethodName)) ∈ TBg := tb_in 1627 rfl rfl
set_option maxRecDepth 100000 in
theorem tw_1628 : (Jvm.Cond.selects "WhiteRoadsModel" ({ cls := "WhiteRoadsModel", name := "tells", desc := "(III)I" } : Jvm.MethodName) ({ cls := "WhiteRoadsModel", name := "tells", desc := "(III)I" } : Jvm.MethodName)) ∈ TBg := tb_in 1628 rfl rfl
set_option maxRecDepth 100000 in
theorem tw_1629 : (Jvm.Cond.code ({ cls := "WhiteRoadsModel", name := "tells", desc := "(III)I" } : Jvm.MethodName) prog_14_method_75_code (10 : Nat) (Option.some Jvm.ClassFile.FieldType.int)) ∈ TBg := tb_in 1629 rfl rfl
set_option maxRecDepth 100000 in
theorem tw_1630 : (Jvm.Cond.methodLink "WhiteRoadsModel" (461 : Nat) ({ cls := "WhiteRoadsModel", name := "greatestPart", desc := "(IIII)I" } : Jvm.MethodName)) ∈ TBg := tb_in 1630 rfl rfl
set_option maxRecDepth 100000 in
theorem tw_1632 : (Jvm.Cond.instanceMethod ({ cls := "WhiteRoadsModel", name := "greatestPart", desc := "(IIII)I" } : Jvm.MethodName)) ∈ TBg := tb_in 1632 rfl rfl
set_option maxRecDepth 100000 in
theorem tw_1633 : (Jvm.Cond.code ({ cls := "WhiteRoadsModel", name := "greatestPart", desc := "(IIII)I" } : Jvm.MethodName) prog_14_method_74_code (9 : Nat) (Option.some Jvm.ClassFile.FieldType.int)) ∈ TBg := tb_in 1633 rfl rfl
set_option maxRecDepth 100000 in
theorem tw_1634 : (Jvm.Cond.methodLink "WhiteRoadsLaw" (115 : Nat) ({ cls := "WhiteRoadsModel", name := "image", desc := "(I)I" } : Jvm.MethodName)) ∈ TBg := tb_in 1634 rfl rfl
set_option maxRecDepth 100000 in
theorem tw_1635 : (Jvm.Cond.instanceMethod ({ cls := "WhiteRoadsModel", name := "image", desc := "(I)I" } : Jvm.MethodName)) ∈ TBg := tb_in 1635 rfl rfl
set_option maxRecDepth 100000 in
theorem tw_1636 : (Jvm.Cond.selects "WhiteRoadsModel" ({ cls := "WhiteRoadsModel", name := "image", desc := "(I)I" } : Jvm.MethodName) ({ cls := "WhiteRoadsModel", name := "image", desc := "(I)I" } : Jvm.MethodName)) ∈ TBg := tb_in 1636 rfl rfl
set_option maxRecDepth 100000 in
theorem tw_1637 : (Jvm.Cond.code ({ cls := "WhiteRoadsModel", name := "image", desc := "(I)I" } : Jvm.MethodName) prog_14_method_77_code (3 : Nat) (Option.some Jvm.ClassFile.FieldType.int)) ∈ TBg := tb_in 1637 rfl rfl
set_option maxRecDepth 100000 in
theorem tw_1638 : (Jvm.Cond.methodLink "WhiteRoadsModel" (464 : Nat) ({ cls := "WhiteRoadsModel", name := "isBox", desc := "(I)Z" } : Jvm.MethodName)) ∈ TBg := tb_in 1638 rfl rfl
set_option maxRecDepth 100000 in
theorem tw_1639 : (Jvm.Cond.static ({ cls := "WhiteRoadsModel", name := "isBox", desc := "(I)Z" } : Jvm.MethodName)) ∈ TBg := tb_in 1639 rfl rfl
set_option maxRecDepth 100000 in
theorem tw_1640 : (Jvm.Cond.code ({ cls := "WhiteRoadsModel", name := "isBox", desc := "(I)Z" } : Jvm.MethodName) prog_14_method_76_code (1 : Nat) (Option.some Jvm.ClassFile.FieldType.boolean)) ∈ TBg := tb_in 1640 rfl rfl
set_option maxRecDepth 100000 in
theorem tw_1641 : (Jvm.Cond.methodLink "WhiteRoadsLaw" (119 : Nat) ({ cls := "WhiteRoadsModel", name := "back", desc := "(I)I" } : Jvm.MethodName)) ∈ TBg := tb_in 1641 rfl rfl
set_option maxRecDepth 100000 in
theorem tw_1642 : (Jvm.Cond.instanceMethod ({ cls := "WhiteRoadsModel", name := "back", desc := "(I)I" } : Jvm.MethodName)) ∈ TBg := tb_in 1642 rfl rfl
set_option maxRecDepth 100000 in
theorem tw_1643 : (Jvm.Cond.selects "WhiteRoadsModel" ({ cls := "WhiteRoadsModel", name := "back", desc := "(I)I" } : Jvm.MethodName) ({ cls := "WhiteRoadsModel", name := "back", desc := "(I)I" } : Jvm.MethodName)) ∈ TBg := tb_in 1643 rfl rfl
set_option maxRecDepth 100000 in
theorem tw_1644 : (Jvm.Cond.code ({ cls := "WhiteRoadsModel", name := "back", desc := "(I)I" } : Jvm.MethodName) prog_14_method_78_code (3 : Nat) (Option.some Jvm.ClassFile.FieldType.int)) ∈ TBg := tb_in 1644 rfl rfl
set_option maxRecDepth 100000 in
theorem tw_1645 : (Jvm.Cond.methodLink "WhiteRoadsLaw" (123 : Nat) ({ cls := "WhiteRoadsModel", name := "about", desc := "(I)I" } : Jvm.MethodName)) ∈ TBg := tb_in 1645 rfl rfl
set_option maxRecDepth 100000 in
theorem tw_1646 : (Jvm.Cond.instanceMethod ({ cls := "WhiteRoadsModel", name := "about", desc := "(I)I" } : Jvm.MethodName)) ∈ TBg := tb_in 1646 rfl rfl
set_option maxRecDepth 100000 in
theorem tw_1647 : (Jvm.Cond.selects "WhiteRoadsModel" ({ cls := "WhiteRoadsModel", name := "about", desc := "(I)I" } : Jvm.MethodName) ({ cls := "WhiteRoadsModel", name := "about", desc := "(I)I" } : Jvm.MethodName)) ∈ TBg := tb_in 1647 rfl rfl
set_option maxRecDepth 100000 in
theorem tw_1648 : (Jvm.Cond.code ({ cls := "WhiteRoadsModel", name := "about", desc := "(I)I" } : Jvm.MethodName) prog_14_method_79_code (2 : Nat) (Option.some Jvm.ClassFile.FieldType.int)) ∈ TBg := tb_in 1648 rfl rfl
set_option maxRecDepth 100000 in
theorem tw_1649 : (Jvm.Cond.fieldLink "java/lang/String" (9 : Nat) "java/lang/String" "value" "[B") ∈ TBg := tb_in 1649 rfl rfl
set_option maxRecDepth 100000 in
theorem tw_1650 : (Jvm.Cond.fieldLink "java/lang/String" (15 : Nat) "java/lang/String" "coder" "B") ∈ TBg := tb_in 1650 rfl rfl
