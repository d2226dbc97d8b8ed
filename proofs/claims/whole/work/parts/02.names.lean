def tbl : List Cond := lw_tbl.filter goodWord
theorem tbl_goodIn : GoodIn tbl tbl := fun w hw => ⟨hw, good_of_word (List.mem_filter.mp hw).2⟩
theorem tb_m {i : Nat} {w : Cond} (h : lw_tbl[i]? = some w) (g : goodWord w = true) : w ∈ tbl := List.mem_filter.mpr ⟨List.mem_of_getElem? h, g⟩
def fT_L : u_T := fun k => match k with
  | 0 => ("ClockPost$Letter", "kind", "I", false)
  | 1 => ("ClockPost$Letter", "fear", "I", false)
  | 2 => ("ClockPost$Letter", "thick", "I", false)
  | 3 => ("ClockPost$Letter", "holds", "I", false)
  | _ => ("ClockPost$Letter", "age", "I", false)
def fY_L : Nat → FieldType := fun k => match k with
  | 0 => .int
  | 1 => .int
  | 2 => .int
  | 3 => .int
  | _ => .int
def fT_R : u_T := fun k => match k with
  | 0 => ("ClockPost$Row", "items", "[I", true)
  | 1 => ("ClockPost$Row", "missing", "Z", false)
  | 2 => ("ClockPost$Row", "lane", "I", false)
  | _ => ("ClockPost$Row", "size", "I", false)
def fY_R : Nat → FieldType := fun k => match k with
  | 0 => .array .int
  | 1 => .boolean
  | 2 => .int
  | _ => .int
def fT_T : u_T := fun k => match k with
  | 0 => ("ClockPost$Trace", "bodies", "[I", true)
  | _ => ("ClockPost$Trace", "length", "I", false)
def fY_T : Nat → FieldType := fun k => match k with
  | 0 => .array .int
  | _ => .int
def fT_H : u_T := fun k => match k with
  | 0 => ("ClockPost$House", "letters", "[LClockPost$Letter;", true)
  | 1 => ("ClockPost$House", "stands", "Z", false)
  | 2 => ("ClockPost$House", "letterCount", "I", false)
  | 3 => ("ClockPost$House", "gap", "I", false)
  | 4 => ("ClockPost$House", "behindBits", "I", false)
  | 5 => ("ClockPost$House", "day", "I", false)
  | 6 => ("ClockPost$House", "sum", "I", false)
  | _ => ("ClockPost$House", "sorrow", "I", false)
def fY_H : Nat → FieldType := fun k => match k with
  | 0 => .array (.object "ClockPost$Letter")
  | 1 => .boolean
  | 2 => .int
  | 3 => .int
  | 4 => .int
  | 5 => .int
  | 6 => .int
  | _ => .int
def fT_A : u_T := fun k => match k with
  | 0 => ("ClockPost$Acts", "before", "[LClockPost$House;", true)
  | 1 => ("ClockPost$Acts", "oldest", "I", false)
  | _ => ("ClockPost$Acts", "kept", "I", false)
def fY_A : Nat → FieldType := fun k => match k with
  | 0 => .array (.object "ClockPost$House")
  | 1 => .int
  | _ => .int
def fT_O : u_T := fun k => match k with
  | 0 => ("ClockPost$OrderSearch", "stages", "[LClockPost$House;", true)
  | 1 => ("ClockPost$OrderSearch", "tried", "[I", true)
  | 2 => ("ClockPost$OrderSearch", "best", "[I", true)
  | _ => ("ClockPost$OrderSearch", "leastGrowth", "I", false)
def fY_O : Nat → FieldType := fun k => match k with
  | 0 => .array (.object "ClockPost$House")
  | 1 => .array .int
  | 2 => .array .int
  | _ => .int
def fT_P : u_T := fun k => match k with
  | 0 => ("ClockPost$Tape", "bytes", "[I", true)
  | 1 => ("ClockPost$Tape", "length", "I", false)
  | 2 => ("ClockPost$Tape", "latestFault", "I", false)
  | 3 => ("ClockPost$Tape", "place", "I", false)
  | _ => ("ClockPost$Tape", "number", "I", false)
def fY_P : Nat → FieldType := fun k => match k with
  | 0 => .array .int
  | 1 => .int
  | 2 => .int
  | 3 => .int
  | _ => .int
def fT_X : u_T := fun k => match k with
  | 0 => ("ClockPost", "rows", "[LClockPost$Row;", true)
  | 1 => ("ClockPost", "tape", "LClockPost$Tape;", true)
  | 2 => ("ClockPost", "now", "LClockPost$House;", true)
  | 3 => ("ClockPost", "foretold", "LClockPost$House;", true)
  | 4 => ("ClockPost", "images", "[LClockPost$House;", true)
  | 5 => ("ClockPost", "acts", "LClockPost$Acts;", true)
  | 6 => ("ClockPost", "orders", "LClockPost$OrderSearch;", true)
  | 7 => ("ClockPost", "traced", "LClockPost$Trace;", true)
  | _ => ("ClockPost", "finding", "I", false)
def fY_X : Nat → FieldType := fun k => match k with
  | 0 => .array (.object "ClockPost$Row")
  | 1 => .object "ClockPost$Tape"
  | 2 => .object "ClockPost$House"
  | 3 => .object "ClockPost$House"
  | 4 => .array (.object "ClockPost$House")
  | 5 => .object "ClockPost$Acts"
  | 6 => .object "ClockPost$OrderSearch"
  | 7 => .object "ClockPost$Trace"
  | _ => .int
def fT_M : u_T := fun k => match k with
  | 0 => ("ClockPostModel", "row", "[I", true)
  | 1 => ("ClockPostModel", "isHouse", "Z", false)
  | 2 => ("ClockPostModel", "undos", "I", false)
  | 3 => ("ClockPostModel", "isKept", "[Z", true)
  | 4 => ("ClockPostModel", "lanes", "[I", true)
  | 5 => ("ClockPostModel", "sizes", "[I", true)
  | 6 => ("ClockPostModel", "items", "[I", true)
  | 7 => ("ClockPostModel", "tape", "[I", true)
  | 8 => ("ClockPostModel", "length", "I", false)
  | 9 => ("ClockPostModel", "fault", "I", false)
  | 10 => ("ClockPostModel", "status", "I", false)
  | 11 => ("ClockPostModel", "trace", "[I", true)
  | 12 => ("ClockPostModel", "traced", "I", false)
  | 13 => ("ClockPostModel", "at", "I", false)
  | 14 => ("ClockPostModel", "wrong", "I", false)
  | 15 => ("ClockPostModel", "number", "I", false)
  | 16 => ("ClockPostModel", "line", "[I", true)
  | _ => ("ClockPostModel", "bestLine", "[I", true)
def fY_M : Nat → FieldType := fun k => match k with
  | 0 => .array .int
  | 1 => .boolean
  | 2 => .int
  | 3 => .array .boolean
  | 4 => .array .int
  | 5 => .array .int
  | 6 => .array .int
  | 7 => .array .int
  | 8 => .int
  | 9 => .int
  | 10 => .int
  | 11 => .array .int
  | 12 => .int
  | 13 => .int
  | 14 => .int
  | 15 => .int
  | 16 => .array .int
  | _ => .array .int
abbrev clz : List vw_C := [("ClockPost$Letter", fT_L, 5), ("ClockPost$Row", fT_R, 4), ("ClockPost$Trace", fT_T, 2), ("ClockPost$House", fT_H, 8), ("ClockPost$Acts", fT_A, 3), ("ClockPost$OrderSearch", fT_O, 4), ("ClockPost$Tape", fT_P, 5), ("ClockPost", fT_X, 9), ("ClockPostModel", fT_M, 18)]
def y_A_forgetAll : MethodName := ⟨"ClockPost$Acts", "forgetAll", "()V"⟩
def y_A_init : MethodName := ⟨"ClockPost$Acts", "<init>", "()V"⟩
def y_A_keep : MethodName := ⟨"ClockPost$Acts", "keep", "(LClockPost$House;)V"⟩
def y_A_takeBack : MethodName := ⟨"ClockPost$Acts", "takeBack", "(LClockPost$House;)Z"⟩
def y_H_answerOne : MethodName := ⟨"ClockPost$House", "answerOne", "(I)V"⟩
def y_H_become : MethodName := ⟨"ClockPost$House", "become", "(LClockPost$House;)V"⟩
def y_H_clear : MethodName := ⟨"ClockPost$House", "clear", "()V"⟩
def y_H_hasLetter : MethodName := ⟨"ClockPost$House", "hasLetter", "(I)Z"⟩
def y_H_init : MethodName := ⟨"ClockPost$House", "<init>", "()V"⟩
def y_H_isBehind : MethodName := ⟨"ClockPost$House", "isBehind", "(I)Z"⟩
def y_H_nextToFall : MethodName := ⟨"ClockPost$House", "nextToFall", "()I"⟩
def y_H_passDay : MethodName := ⟨"ClockPost$House", "passDay", "()I"⟩
def y_H_putBehind : MethodName := ⟨"ClockPost$House", "putBehind", "(I)V"⟩
def y_H_takeAway : MethodName := ⟨"ClockPost$House", "takeAway", "(II)V"⟩
def y_H_takeDraw : MethodName := ⟨"ClockPost$House", "takeDraw", "(J)V"⟩
def y_H_thickness : MethodName := ⟨"ClockPost$House", "thickness", "()I"⟩
def y_H_weight : MethodName := ⟨"ClockPost$House", "weight", "()I"⟩
def y_H_weightOf : MethodName := ⟨"ClockPost$House", "weightOf", "(I)I"⟩
def y_JA_fill : MethodName := ⟨"java/util/Arrays", "fill", "([II)V"⟩
def y_JI_bitCount : MethodName := ⟨"java/lang/Integer", "bitCount", "(I)I"⟩
def y_JM_max : MethodName := ⟨"java/lang/Math", "max", "(II)I"⟩
def y_JM_min : MethodName := ⟨"java/lang/Math", "min", "(II)I"⟩
def y_L_become : MethodName := ⟨"ClockPost$Letter", "become", "(LClockPost$Letter;)V"⟩
def y_L_change : MethodName := ⟨"ClockPost$Letter", "change", "(II)V"⟩
def y_L_fallsAheadOf : MethodName := ⟨"ClockPost$Letter", "fallsAheadOf", "(LClockPost$Letter;)Z"⟩
def y_L_init : MethodName := ⟨"ClockPost$Letter", "<init>", "()V"⟩
def y_L_weighAmong : MethodName := ⟨"ClockPost$Letter", "weighAmong", "(I)I"⟩
def y_M_answer : MethodName := ⟨"ClockPostModel", "answer", "(I)I"⟩
def y_M_answers : MethodName := ⟨"ClockPostModel", "answers", "(II)V"⟩
def y_M_answersAll : MethodName := ⟨"ClockPostModel", "answersAll", "(I)V"⟩
def y_M_as : MethodName := ⟨"ClockPostModel", "as", "(II)I"⟩
def y_M_ask : MethodName := ⟨"ClockPostModel", "ask", "(II)I"⟩
def y_M_atMost : MethodName := ⟨"ClockPostModel", "atMost", "(II)I"⟩
def y_M_away : MethodName := ⟨"ClockPostModel", "away", "(III)V"⟩
def y_M_begin : MethodName := ⟨"ClockPostModel", "begin", "(I)V"⟩
def y_M_behind : MethodName := ⟨"ClockPostModel", "behind", "(I)I"⟩
def y_M_billMark : MethodName := ⟨"ClockPostModel", "billMark", "(I)I"⟩
def y_M_billSize : MethodName := ⟨"ClockPostModel", "billSize", "(I)I"⟩
def y_M_bits : MethodName := ⟨"ClockPostModel", "bits", "(I)I"⟩
def y_M_burden : MethodName := ⟨"ClockPostModel", "burden", "(I)I"⟩
def y_M_burdenAt : MethodName := ⟨"ClockPostModel", "burdenAt", "(I)I"⟩
def y_M_copy : MethodName := ⟨"ClockPostModel", "copy", "(IIIII)I"⟩
def y_M_copyTown : MethodName := ⟨"ClockPostModel", "copyTown", "(II)V"⟩
def y_M_count : MethodName := ⟨"ClockPostModel", "count", "(I)I"⟩
def y_M_days : MethodName := ⟨"ClockPostModel", "days", "(I)I"⟩
def y_M_drawn : MethodName := ⟨"ClockPostModel", "drawn", "(III)I"⟩
def y_M_dread : MethodName := ⟨"ClockPostModel", "dread", "(II)I"⟩
def y_M_drop : MethodName := ⟨"ClockPostModel", "drop", "(I)I"⟩
def y_M_ease : MethodName := ⟨"ClockPostModel", "ease", "(III)I"⟩
def y_M_eases : MethodName := ⟨"ClockPostModel", "eases", "(III)Z"⟩
def y_M_falls : MethodName := ⟨"ClockPostModel", "falls", "(I)I"⟩
def y_M_fallsAhead : MethodName := ⟨"ClockPostModel", "fallsAhead", "(III)Z"⟩
def y_M_fault : MethodName := ⟨"ClockPostModel", "fault", "()I"⟩
def y_M_feed : MethodName := ⟨"ClockPostModel", "feed", "(I)I"⟩
def y_M_fewest : MethodName := ⟨"ClockPostModel", "fewest", "(II)I"⟩
def y_M_find : MethodName := ⟨"ClockPostModel", "find", "(I)I"⟩
def y_M_fits : MethodName := ⟨"ClockPostModel", "fits", "(IIIII)I"⟩
def y_M_growsBy : MethodName := ⟨"ClockPostModel", "growsBy", "(I)I"⟩
def y_M_has : MethodName := ⟨"ClockPostModel", "has", "(II)Z"⟩
def y_M_hold : MethodName := ⟨"ClockPostModel", "hold", "(II)I"⟩
def y_M_holds : MethodName := ⟨"ClockPostModel", "holds", "(II)Z"⟩
def y_M_house : MethodName := ⟨"ClockPostModel", "house", "()I"⟩
def y_M_image : MethodName := ⟨"ClockPostModel", "image", "(I)I"⟩
def y_M_in : MethodName := ⟨"ClockPostModel", "in", "(JJJ)Z"⟩
def y_M_init : MethodName := ⟨"ClockPostModel", "<init>", "()V"⟩
def y_M_isFigure : MethodName := ⟨"ClockPostModel", "isFigure", "(I)Z"⟩
def y_M_isLetter : MethodName := ⟨"ClockPostModel", "isLetter", "(I)Z"⟩
def y_M_isLetterThere : MethodName := ⟨"ClockPostModel", "isLetterThere", "(I)Z"⟩
def y_M_isOf : MethodName := ⟨"ClockPostModel", "isOf", "(II)Z"⟩
def y_M_isRow : MethodName := ⟨"ClockPostModel", "isRow", "(I)Z"⟩
def y_M_isSo : MethodName := ⟨"ClockPostModel", "isSo", "(III)Z"⟩
def y_M_isSort : MethodName := ⟨"ClockPostModel", "isSort", "()Z"⟩
def y_M_isSpan : MethodName := ⟨"ClockPostModel", "isSpan", "(III)Z"⟩
def y_M_keepPast : MethodName := ⟨"ClockPostModel", "keepPast", "()V"⟩
def y_M_kind : MethodName := ⟨"ClockPostModel", "kind", "(I)I"⟩
def y_M_kindOfLetter : MethodName := ⟨"ClockPostModel", "kindOfLetter", "(I)I"⟩
def y_M_layTried : MethodName := ⟨"ClockPostModel", "layTried", "()V"⟩
def y_M_lentMark : MethodName := ⟨"ClockPostModel", "lentMark", "(I)I"⟩
def y_M_lentSize : MethodName := ⟨"ClockPostModel", "lentSize", "(I)I"⟩
def y_M_letter : MethodName := ⟨"ClockPostModel", "letter", "(II)I"⟩
def y_M_lost : MethodName := ⟨"ClockPostModel", "lost", "(III)I"⟩
def y_M_mark : MethodName := ⟨"ClockPostModel", "mark", "(I)I"⟩
def y_M_narrow : MethodName := ⟨"ClockPostModel", "narrow", "(II)I"⟩
def y_M_nextLine : MethodName := ⟨"ClockPostModel", "nextLine", "(I)Z"⟩
def y_M_nextToFall : MethodName := ⟨"ClockPostModel", "nextToFall", "(I)I"⟩
def y_M_noDays : MethodName := ⟨"ClockPostModel", "noDays", "(I)I"⟩
def y_M_noItems : MethodName := ⟨"ClockPostModel", "noItems", "(III)I"⟩
def y_M_noteMark : MethodName := ⟨"ClockPostModel", "noteMark", "(I)I"⟩
def y_M_noteSize : MethodName := ⟨"ClockPostModel", "noteSize", "(I)I"⟩
def y_M_order : MethodName := ⟨"ClockPostModel", "order", "(II)I"⟩
def y_M_pass : MethodName := ⟨"ClockPostModel", "pass", "(I)I"⟩
def y_M_passes : MethodName := ⟨"ClockPostModel", "passes", "(II)V"⟩
def y_M_post : MethodName := ⟨"ClockPostModel", "post", "(I)I"⟩
def y_M_posts : MethodName := ⟨"ClockPostModel", "posts", "(II)V"⟩
def y_M_reads : MethodName := ⟨"ClockPostModel", "reads", "()Z"⟩
def y_M_readsLaw : MethodName := ⟨"ClockPostModel", "readsLaw", "()Z"⟩
def y_M_readsLetter : MethodName := ⟨"ClockPostModel", "readsLetter", "()Z"⟩
def y_M_readsNumber : MethodName := ⟨"ClockPostModel", "readsNumber", "(II)Z"⟩
def y_M_refuse : MethodName := ⟨"ClockPostModel", "refuse", "(I)Z"⟩
def y_M_restore : MethodName := ⟨"ClockPostModel", "restore", "(I)I"⟩
def y_M_row : MethodName := ⟨"ClockPostModel", "row", "(III)I"⟩
def y_M_set : MethodName := ⟨"ClockPostModel", "set", "(III)I"⟩
def y_M_sign : MethodName := ⟨"ClockPostModel", "sign", "(I)Z"⟩
def y_M_sizeOf : MethodName := ⟨"ClockPostModel", "sizeOf", "(I)I"⟩
def y_M_status : MethodName := ⟨"ClockPostModel", "status", "()I"⟩
def y_M_stealth : MethodName := ⟨"ClockPostModel", "stealth", "(III)I"⟩
def y_M_sum : MethodName := ⟨"ClockPostModel", "sum", "(I)I"⟩
def y_M_swapLine : MethodName := ⟨"ClockPostModel", "swapLine", "(II)V"⟩
def y_M_thickness : MethodName := ⟨"ClockPostModel", "thickness", "(I)I"⟩
def y_M_trace : MethodName := ⟨"ClockPostModel", "trace", "(I)I"⟩
def y_M_undo : MethodName := ⟨"ClockPostModel", "undo", "()I"⟩
def y_M_weighs : MethodName := ⟨"ClockPostModel", "weighs", "(II)I"⟩
def y_M_well : MethodName := ⟨"ClockPostModel", "well", "(I)I"⟩
def y_O_extend : MethodName := ⟨"ClockPost$OrderSearch", "extend", "(LClockPost$OrderSearch;III)V"⟩
def y_O_init : MethodName := ⟨"ClockPost$OrderSearch", "<init>", "()V"⟩
def y_O_search : MethodName := ⟨"ClockPost$OrderSearch", "search", "(LClockPost$House;I)V"⟩
def y_P_add : MethodName := ⟨"ClockPost$Tape", "add", "(I)Z"⟩
def y_P_byteAt : MethodName := ⟨"ClockPost$Tape", "byteAt", "(I)I"⟩
def y_P_fail : MethodName := ⟨"ClockPost$Tape", "fail", "(I)Z"⟩
def y_P_init : MethodName := ⟨"ClockPost$Tape", "<init>", "()V"⟩
def y_P_isFigure : MethodName := ⟨"ClockPost$Tape", "isFigure", "(I)Z"⟩
def y_P_kindToldBy : MethodName := ⟨"ClockPost$Tape", "kindToldBy", "(I)I"⟩
def y_P_readFigures : MethodName := ⟨"ClockPost$Tape", "readFigures", "(LClockPost$Letter;)Z"⟩
def y_P_readInto : MethodName := ⟨"ClockPost$Tape", "readInto", "(LClockPost$House;)Z"⟩
def y_P_readLaw : MethodName := ⟨"ClockPost$Tape", "readLaw", "(LClockPost$House;)Z"⟩
def y_P_readLetter : MethodName := ⟨"ClockPost$Tape", "readLetter", "(LClockPost$House;)Z"⟩
def y_P_readLetters : MethodName := ⟨"ClockPost$Tape", "readLetters", "(LClockPost$House;)Z"⟩
def y_P_readNumber : MethodName := ⟨"ClockPost$Tape", "readNumber", "(II)Z"⟩
def y_P_readSign : MethodName := ⟨"ClockPost$Tape", "readSign", "(C)Z"⟩
def y_R_hasPlaces : MethodName := ⟨"ClockPost$Row", "hasPlaces", "(II)Z"⟩
def y_R_init : MethodName := ⟨"ClockPost$Row", "<init>", "()V"⟩
def y_R_itemAt : MethodName := ⟨"ClockPost$Row", "itemAt", "(I)I"⟩
def y_R_lay : MethodName := ⟨"ClockPost$Row", "lay", "(II)V"⟩
def y_R_put : MethodName := ⟨"ClockPost$Row", "put", "(II)I"⟩
def y_T_init : MethodName := ⟨"ClockPost$Trace", "<init>", "()V"⟩
def y_T_leave : MethodName := ⟨"ClockPost$Trace", "leave", "(I)V"⟩
def y_W_law : MethodName := ⟨"ClockPostLaw", "law", "([I)Z"⟩
def y_X_answer : MethodName := ⟨"ClockPost", "answer", "(I)I"⟩
def y_X_as : MethodName := ⟨"ClockPost", "as", "(II)I"⟩
def y_X_ask : MethodName := ⟨"ClockPost", "ask", "(II)I"⟩
def y_X_begin : MethodName := ⟨"ClockPost", "begin", "(LClockPost$Trace;ILClockPost$Letter;II)I"⟩
def y_X_behind : MethodName := ⟨"ClockPost", "behind", "(I)I"⟩
def y_X_bodyOf : MethodName := ⟨"ClockPost", "bodyOf", "(II)I"⟩
def y_X_burden : MethodName := ⟨"ClockPost", "burden", "(I)I"⟩
def y_X_copy : MethodName := ⟨"ClockPost", "copy", "(IIIII)I"⟩
def y_X_count : MethodName := ⟨"ClockPost", "count", "(I)I"⟩
def y_X_days : MethodName := ⟨"ClockPost", "days", "(I)I"⟩
def y_X_drawn : MethodName := ⟨"ClockPost", "drawn", "(III)I"⟩
def y_X_dread : MethodName := ⟨"ClockPost", "dread", "(II)I"⟩
def y_X_drop : MethodName := ⟨"ClockPost", "drop", "(I)I"⟩
def y_X_ease : MethodName := ⟨"ClockPost", "ease", "(III)I"⟩
def y_X_falls : MethodName := ⟨"ClockPost", "falls", "(I)I"⟩
def y_X_fault : MethodName := ⟨"ClockPost", "fault", "()I"⟩
def y_X_feed : MethodName := ⟨"ClockPost", "feed", "(I)I"⟩
def y_X_fits : MethodName := ⟨"ClockPost", "fits", "(IIIII)I"⟩
def y_X_flawOf : MethodName := ⟨"ClockPost", "flawOf", "(LClockPost$Row;II)I"⟩
def y_X_foretell : MethodName := ⟨"ClockPost", "foretell", "(I)LClockPost$House;"⟩
def y_X_foretellWithout : MethodName := ⟨"ClockPost", "foretellWithout", "(I)V"⟩
def y_X_found : MethodName := ⟨"ClockPost", "found", "(I)I"⟩
def y_X_foundNothing : MethodName := ⟨"ClockPost", "foundNothing", "(I)I"⟩
def y_X_greatestShared : MethodName := ⟨"ClockPost", "greatestShared", "(II)I"⟩
def y_X_hold : MethodName := ⟨"ClockPost", "hold", "(II)I"⟩
def y_X_house : MethodName := ⟨"ClockPost", "house", "()I"⟩
def y_X_image : MethodName := ⟨"ClockPost", "image", "(I)I"⟩
def y_X_init : MethodName := ⟨"ClockPost", "<init>", "()V"⟩
def y_X_isOfKind : MethodName := ⟨"ClockPost", "isOfKind", "(II)Z"⟩
def y_X_isRow : MethodName := ⟨"ClockPost", "isRow", "(I)Z"⟩
def y_X_isSmallerPart : MethodName := ⟨"ClockPost", "isSmallerPart", "(II)Z"⟩
def y_X_isToldBy : MethodName := ⟨"ClockPost", "isToldBy", "(LClockPost$Row;II)Z"⟩
def y_X_isWithin : MethodName := ⟨"ClockPost", "isWithin", "(III)Z"⟩
def y_X_kind : MethodName := ⟨"ClockPost", "kind", "(I)I"⟩
def y_X_leastTried : MethodName := ⟨"ClockPost", "leastTried", "(I)I"⟩
def y_X_letter : MethodName := ⟨"ClockPost", "letter", "(II)I"⟩
def y_X_lost : MethodName := ⟨"ClockPost", "lost", "(III)I"⟩
def y_X_mostTried : MethodName := ⟨"ClockPost", "mostTried", "(I)I"⟩
def y_X_nearestKind : MethodName := ⟨"ClockPost", "nearestKind", "(I)I"⟩
def y_X_nothingFallsWithout : MethodName := ⟨"ClockPost", "nothingFallsWithout", "(II)Z"⟩
def y_X_order : MethodName := ⟨"ClockPost", "order", "(II)I"⟩
def y_X_post : MethodName := ⟨"ClockPost", "post", "(I)I"⟩
def y_X_power : MethodName := ⟨"ClockPost", "power", "(II)I"⟩
def y_X_refusalOf : MethodName := ⟨"ClockPost", "refusalOf", "(Z)I"⟩
def y_X_restore : MethodName := ⟨"ClockPost", "restore", "(I)I"⟩
def y_X_row : MethodName := ⟨"ClockPost", "row", "(III)I"⟩
def y_X_rowsThere : MethodName := ⟨"ClockPost", "rowsThere", "()I"⟩
def y_X_set : MethodName := ⟨"ClockPost", "set", "(III)I"⟩
def y_X_status : MethodName := ⟨"ClockPost", "status", "()I"⟩
def y_X_staysEasyWithout : MethodName := ⟨"ClockPost", "staysEasyWithout", "(III)Z"⟩
def y_X_stealth : MethodName := ⟨"ClockPost", "stealth", "(III)I"⟩
def y_X_sum : MethodName := ⟨"ClockPost", "sum", "(I)I"⟩
def y_X_trace : MethodName := ⟨"ClockPost", "trace", "(I)I"⟩
def y_X_undo : MethodName := ⟨"ClockPost", "undo", "()I"⟩
abbrev nestL : List (String × Nat × MethodName × String) := [("ClockPost", 17, y_P_init, "ClockPost"), ("ClockPost", 52, y_T_init, "ClockPost"), ("ClockPost", 57, y_R_init, "ClockPost"), ("ClockPost$House", 17, y_L_init, "ClockPost"), ("ClockPost$Tape", 100, y_X_isWithin, "ClockPost")]
theorem nest_in : ∀ q ∈ nestL, Cond.methodLinkNest q.1 q.2.1 q.2.2.1 q.2.2.2 ∈ lw_tbl := by
  intro q hq
  simp only [nestL, List.mem_cons, List.not_mem_nil, or_false] at hq
  rcases hq with rfl | rfl | rfl | rfl | rfl
  · exact List.mem_of_getElem? (i := 92) (by decide +kernel)
  · exact List.mem_of_getElem? (i := 241) (by decide +kernel)
  · exact List.mem_of_getElem? (i := 255) (by decide +kernel)
  · exact List.mem_of_getElem? (i := 125) (by decide +kernel)
  · exact List.mem_of_getElem? (i := 399) (by decide +kernel)
abbrev overL : List String := ["ClockPost$Row", "ClockPost$House", "ClockPost$Letter"]
theorem over_in : ∀ C ∈ overL, Cond.arrayOver (.object C) ∈ lw_tbl := by
  intro q hq
  simp only [overL, List.mem_cons, List.not_mem_nil, or_false] at hq
  rcases hq with rfl | rfl | rfl
  · exact List.mem_of_getElem? (i := 89) (by decide +kernel)
  · exact List.mem_of_getElem? (i := 196) (by decide +kernel)
  · exact List.mem_of_getElem? (i := 123) (by decide +kernel)
theorem wa_int : Cond.arrayClass .int ∈ tbl := tb_m (i := 115) (by decide +kernel) rfl
theorem wa_boolean : Cond.arrayClass .boolean ∈ tbl := tb_m (i := 771) (by decide +kernel) rfl
theorem wl_X_9 : Cond.classLink "ClockPost" 9 "ClockPost$Row" ∈ tbl := tb_m (i := 88) (by decide +kernel) rfl
theorem wl_X_15 : Cond.classLink "ClockPost" 15 "ClockPost$Tape" ∈ tbl := tb_m (i := 90) (by decide +kernel) rfl
theorem wl_X_22 : Cond.classLink "ClockPost" 22 "ClockPost$House" ∈ tbl := tb_m (i := 116) (by decide +kernel) rfl
theorem wl_X_36 : Cond.classLink "ClockPost" 36 "ClockPost$Acts" ∈ tbl := tb_m (i := 197) (by decide +kernel) rfl
theorem wl_X_43 : Cond.classLink "ClockPost" 43 "ClockPost$OrderSearch" ∈ tbl := tb_m (i := 216) (by decide +kernel) rfl
theorem wl_X_50 : Cond.classLink "ClockPost" 50 "ClockPost$Trace" ∈ tbl := tb_m (i := 239) (by decide +kernel) rfl
theorem wl_A_9 : Cond.classLink "ClockPost$Acts" 9 "ClockPost$House" ∈ tbl := tb_m (i := 203) (by decide +kernel) rfl
theorem wl_H_9 : Cond.classLink "ClockPost$House" 9 "ClockPost$Letter" ∈ tbl := tb_m (i := 122) (by decide +kernel) rfl
theorem wl_O_9 : Cond.classLink "ClockPost$OrderSearch" 9 "ClockPost$House" ∈ tbl := tb_m (i := 222) (by decide +kernel) rfl
theorem wl_W_7 : Cond.classLink "ClockPostLaw" 7 "ClockPost" ∈ tbl := tb_m (i := 80) (by decide +kernel) rfl
theorem wl_W_10 : Cond.classLink "ClockPostLaw" 10 "ClockPostModel" ∈ tbl := tb_m (i := 710) (by decide +kernel) rfl
theorem wi_X : Cond.instantiable "ClockPost" 9 ∈ tbl := tb_m (i := 81) (by decide +kernel) rfl
theorem wi_A : Cond.instantiable "ClockPost$Acts" 3 ∈ tbl := tb_m (i := 198) (by decide +kernel) rfl
theorem wi_H : Cond.instantiable "ClockPost$House" 8 ∈ tbl := tb_m (i := 117) (by decide +kernel) rfl
theorem wi_L : Cond.instantiable "ClockPost$Letter" 5 ∈ tbl := tb_m (i := 124) (by decide +kernel) rfl
theorem wi_O : Cond.instantiable "ClockPost$OrderSearch" 4 ∈ tbl := tb_m (i := 217) (by decide +kernel) rfl
theorem wi_R : Cond.instantiable "ClockPost$Row" 4 ∈ tbl := tb_m (i := 254) (by decide +kernel) rfl
theorem wi_P : Cond.instantiable "ClockPost$Tape" 5 ∈ tbl := tb_m (i := 91) (by decide +kernel) rfl
theorem wi_T : Cond.instantiable "ClockPost$Trace" 2 ∈ tbl := tb_m (i := 240) (by decide +kernel) rfl
theorem wi_M : Cond.instantiable "ClockPostModel" 18 ∈ tbl := tb_m (i := 711) (by decide +kernel) rfl
theorem wz_L : Cond.initialized "ClockPost$Letter" ∈ tbl := tb_m (i := 70) (by decide +kernel) rfl
theorem wz_R : Cond.initialized "ClockPost$Row" ∈ tbl := tb_m (i := 74) (by decide +kernel) rfl
theorem wz_T : Cond.initialized "ClockPost$Trace" ∈ tbl := tb_m (i := 73) (by decide +kernel) rfl
theorem wz_H : Cond.initialized "ClockPost$House" ∈ tbl := tb_m (i := 69) (by decide +kernel) rfl
theorem wz_A : Cond.initialized "ClockPost$Acts" ∈ tbl := tb_m (i := 71) (by decide +kernel) rfl
theorem wz_O : Cond.initialized "ClockPost$OrderSearch" ∈ tbl := tb_m (i := 72) (by decide +kernel) rfl
theorem wz_P : Cond.initialized "ClockPost$Tape" ∈ tbl := tb_m (i := 68) (by decide +kernel) rfl
theorem wz_X : Cond.initialized "ClockPost" ∈ tbl := tb_m (i := 67) (by decide +kernel) rfl
theorem wz_M : Cond.initialized "ClockPostModel" ∈ tbl := tb_m (i := 75) (by decide +kernel) rfl
theorem wz_JM : Cond.initialized "java/lang/Math" ∈ tbl := tb_m (i := 79) (by decide +kernel) rfl
theorem wz_JS : Cond.initialized "java/lang/System" ∈ tbl := tb_m (i := 77) (by decide +kernel) rfl
theorem ws_max : Cond.static Lib.Math.max.name ∈ tbl := tb_m (i := 636) (by decide +kernel) rfl
theorem wc_max : Cond.code Lib.Math.max.name Lib.Math.max.code 2 (some .int) ∈ tbl := tb_m (i := 637) (by decide +kernel) rfl
theorem ws_min : Cond.static Lib.Math.min.name ∈ tbl := tb_m (i := 473) (by decide +kernel) rfl
theorem wc_min : Cond.code Lib.Math.min.name Lib.Math.min.code 2 (some .int) ∈ tbl := tb_m (i := 474) (by decide +kernel) rfl
theorem ws_copy : Cond.static arraycopyName ∈ tbl := tb_m (i := 349) (by decide +kernel) rfl
theorem wn_copy : Cond.native arraycopyName ∈ tbl := tb_m (i := 350) (by decide +kernel) rfl
theorem wi_obj : Cond.instanceMethod Lib.objectInit ∈ tbl := tb_m (i := 86) (by decide +kernel) rfl
theorem wc_obj : Cond.code Lib.objectInit ⟨#[0xb1]⟩ 1 none ∈ tbl := tb_m (i := 87) (by decide +kernel) rfl
theorem wo_X_3 : Cond.methodLink "ClockPost" 3 Lib.objectInit ∈ tbl := tb_m (i := 85) (by decide +kernel) rfl
theorem wo_X_98 : Cond.methodLink "ClockPost" 98 arraycopyName ∈ tbl := tb_m (i := 348) (by decide +kernel) rfl
theorem wo_X_263 : Cond.methodLink "ClockPost" 263 Lib.Math.max.name ∈ tbl := tb_m (i := 635) (by decide +kernel) rfl
theorem wo_A_3 : Cond.methodLink "ClockPost$Acts" 3 Lib.objectInit ∈ tbl := tb_m (i := 202) (by decide +kernel) rfl
theorem wo_H_3 : Cond.methodLink "ClockPost$House" 3 Lib.objectInit ∈ tbl := tb_m (i := 121) (by decide +kernel) rfl
theorem wo_H_71 : Cond.methodLink "ClockPost$House" 71 Lib.Math.min.name ∈ tbl := tb_m (i := 472) (by decide +kernel) rfl
theorem wo_L_3 : Cond.methodLink "ClockPost$Letter" 3 Lib.objectInit ∈ tbl := tb_m (i := 128) (by decide +kernel) rfl
theorem wo_O_3 : Cond.methodLink "ClockPost$OrderSearch" 3 Lib.objectInit ∈ tbl := tb_m (i := 221) (by decide +kernel) rfl
theorem wo_O_38 : Cond.methodLink "ClockPost$OrderSearch" 38 arraycopyName ∈ tbl := tb_m (i := 568) (by decide +kernel) rfl
theorem wo_R_3 : Cond.methodLink "ClockPost$Row" 3 Lib.objectInit ∈ tbl := tb_m (i := 258) (by decide +kernel) rfl
theorem wo_P_3 : Cond.methodLink "ClockPost$Tape" 3 Lib.objectInit ∈ tbl := tb_m (i := 95) (by decide +kernel) rfl
theorem wo_T_3 : Cond.methodLink "ClockPost$Trace" 3 Lib.objectInit ∈ tbl := tb_m (i := 244) (by decide +kernel) rfl
theorem wo_M_1 : Cond.methodLink "ClockPostModel" 1 Lib.objectInit ∈ tbl := tb_m (i := 715) (by decide +kernel) rfl
def ClOk (ci : Nat) (C : String) (T : u_T) (N : Nat) (ty0 : Nat → FieldType) : Prop := clz[ci]? = some (C, T, N) ∧ (∀ w ∈ u_ws C T N, w ∈ tbl) ∧ (∀ k, k < N → parseFieldDescriptor (T k).2.2.1 = some (ty0 k)) ∧ (∀ a, a < N → ∀ b, b < N → a ≠ b → (T a).2.1 ≠ (T b).2.1)
def LkF (own : String) (idx ci k : Nat) (ty : FieldType) (fin : Bool) : Prop := ∃ (C : String) (T : u_T) (N : Nat) (ty0 : Nat → FieldType), ClOk ci C T N ty0 ∧ k < N ∧ Cond.fieldLink own idx C (T k).2.1 (T k).2.2.1 ∈ tbl ∧ (T k).1 = C ∧ (T k).2.2.2 = fin ∧ ty0 k = ty
def mOk (y : MethodName) (n : Nat) : Prop := (y.cls ≠ "java/lang/invoke/MethodHandle" ∧ y.cls ≠ "java/lang/invoke/VarHandle" ∧ (parseMethodDescriptor y.desc).map (fun d => d.parameters.length) = some n) ∧ Cond.initialized y.cls ∈ tbl
def LkL (own : String) (idx : Nat) (y : MethodName) : Prop := Cond.methodLink own idx y ∈ tbl ∨ ∃ host, (own, idx, y, host) ∈ nestL
def LkV (own : String) (idx : Nat) (y : MethodName) (n ci : Nat) : Prop := mOk y n ∧ Cond.methodLink own idx y ∈ tbl ∧ Cond.instanceMethod y ∈ tbl ∧ Cond.selects y.cls y y ∈ tbl ∧ ∃ q : vw_C, clz[ci]? = some q ∧ q.1 = y.cls
def LkS (own : String) (idx : Nat) (y : MethodName) (n : Nat) : Prop := mOk y n ∧ LkL own idx y ∧ Cond.static y ∈ tbl
def LkI (own : String) (idx : Nat) (y : MethodName) (n : Nat) : Prop := mOk y n ∧ LkL own idx y ∧ y.name = "<init>" ∧ Cond.instanceMethod y ∈ tbl
theorem clw_L : ∀ w ∈ u_ws "ClockPost$Letter" fT_L 5, w ∈ tbl := by
  intro w hw
  obtain ⟨k, hk, rfl⟩ := List.mem_map.mp hw
  have hk2 := List.mem_range.mp hk
  match k, hk2 with
  | 0, _ => exact tb_m (i := 147) (by decide +kernel) rfl
  | 1, _ => exact tb_m (i := 149) (by decide +kernel) rfl
  | 2, _ => exact tb_m (i := 151) (by decide +kernel) rfl
  | 3, _ => exact tb_m (i := 153) (by decide +kernel) rfl
  | 4, _ => exact tb_m (i := 155) (by decide +kernel) rfl
  | k + 5, h => exact absurd h (by omega)
theorem cl_L : ClOk 0 "ClockPost$Letter" fT_L 5 fY_L := ⟨rfl, clw_L, by decide +kernel, by decide +kernel⟩
theorem clw_R : ∀ w ∈ u_ws "ClockPost$Row" fT_R 4, w ∈ tbl := by
  intro w hw
  obtain ⟨k, hk, rfl⟩ := List.mem_map.mp hw
  have hk2 := List.mem_range.mp hk
  match k, hk2 with
  | 0, _ => exact tb_m (i := 267) (by decide +kernel) rfl
  | 1, _ => exact tb_m (i := 269) (by decide +kernel) rfl
  | 2, _ => exact tb_m (i := 271) (by decide +kernel) rfl
  | 3, _ => exact tb_m (i := 273) (by decide +kernel) rfl
  | k + 4, h => exact absurd h (by omega)
theorem cl_R : ClOk 1 "ClockPost$Row" fT_R 4 fY_R := ⟨rfl, clw_R, by decide +kernel, by decide +kernel⟩
theorem clw_T : ∀ w ∈ u_ws "ClockPost$Trace" fT_T 2, w ∈ tbl := by
  intro w hw
  obtain ⟨k, hk, rfl⟩ := List.mem_map.mp hw
  have hk2 := List.mem_range.mp hk
  match k, hk2 with
  | 0, _ => exact tb_m (i := 249) (by decide +kernel) rfl
  | 1, _ => exact tb_m (i := 251) (by decide +kernel) rfl
  | k + 2, h => exact absurd h (by omega)
theorem cl_T : ClOk 2 "ClockPost$Trace" fT_T 2 fY_T := ⟨rfl, clw_T, by decide +kernel, by decide +kernel⟩
theorem clw_H : ∀ w ∈ u_ws "ClockPost$House" fT_H 8, w ∈ tbl := by
  intro w hw
  obtain ⟨k, hk, rfl⟩ := List.mem_map.mp hw
  have hk2 := List.mem_range.mp hk
  match k, hk2 with
  | 0, _ => exact tb_m (i := 179) (by decide +kernel) rfl
  | 1, _ => exact tb_m (i := 181) (by decide +kernel) rfl
  | 2, _ => exact tb_m (i := 183) (by decide +kernel) rfl
  | 3, _ => exact tb_m (i := 185) (by decide +kernel) rfl
  | 4, _ => exact tb_m (i := 187) (by decide +kernel) rfl
  | 5, _ => exact tb_m (i := 189) (by decide +kernel) rfl
  | 6, _ => exact tb_m (i := 191) (by decide +kernel) rfl
  | 7, _ => exact tb_m (i := 193) (by decide +kernel) rfl
  | k + 8, h => exact absurd h (by omega)
theorem cl_H : ClOk 3 "ClockPost$House" fT_H 8 fY_H := ⟨rfl, clw_H, by decide +kernel, by decide +kernel⟩
theorem clw_A : ∀ w ∈ u_ws "ClockPost$Acts" fT_A 3, w ∈ tbl := by
  intro w hw
  obtain ⟨k, hk, rfl⟩ := List.mem_map.mp hw
  have hk2 := List.mem_range.mp hk
  match k, hk2 with
  | 0, _ => exact tb_m (i := 209) (by decide +kernel) rfl
  | 1, _ => exact tb_m (i := 211) (by decide +kernel) rfl
  | 2, _ => exact tb_m (i := 213) (by decide +kernel) rfl
  | k + 3, h => exact absurd h (by omega)
theorem cl_A : ClOk 4 "ClockPost$Acts" fT_A 3 fY_A := ⟨rfl, clw_A, by decide +kernel, by decide +kernel⟩
theorem clw_O : ∀ w ∈ u_ws "ClockPost$OrderSearch" fT_O 4, w ∈ tbl := by
  intro w hw
  obtain ⟨k, hk, rfl⟩ := List.mem_map.mp hw
  have hk2 := List.mem_range.mp hk
  match k, hk2 with
  | 0, _ => exact tb_m (i := 230) (by decide +kernel) rfl
  | 1, _ => exact tb_m (i := 232) (by decide +kernel) rfl
  | 2, _ => exact tb_m (i := 234) (by decide +kernel) rfl
  | 3, _ => exact tb_m (i := 236) (by decide +kernel) rfl
  | k + 4, h => exact absurd h (by omega)
theorem cl_O : ClOk 5 "ClockPost$OrderSearch" fT_O 4 fY_O := ⟨rfl, clw_O, by decide +kernel, by decide +kernel⟩
theorem clw_P : ∀ w ∈ u_ws "ClockPost$Tape" fT_P 5, w ∈ tbl := by
  intro w hw
  obtain ⟨k, hk, rfl⟩ := List.mem_map.mp hw
  have hk2 := List.mem_range.mp hk
  match k, hk2 with
  | 0, _ => exact tb_m (i := 104) (by decide +kernel) rfl
  | 1, _ => exact tb_m (i := 106) (by decide +kernel) rfl
  | 2, _ => exact tb_m (i := 108) (by decide +kernel) rfl
  | 3, _ => exact tb_m (i := 110) (by decide +kernel) rfl
  | 4, _ => exact tb_m (i := 112) (by decide +kernel) rfl
  | k + 5, h => exact absurd h (by omega)
theorem cl_P : ClOk 6 "ClockPost$Tape" fT_P 5 fY_P := ⟨rfl, clw_P, by decide +kernel, by decide +kernel⟩
theorem clw_X : ∀ w ∈ u_ws "ClockPost" fT_X 9, w ∈ tbl := by
  intro w hw
  obtain ⟨k, hk, rfl⟩ := List.mem_map.mp hw
  have hk2 := List.mem_range.mp hk
  match k, hk2 with
  | 0, _ => exact tb_m (i := 285) (by decide +kernel) rfl
  | 1, _ => exact tb_m (i := 287) (by decide +kernel) rfl
  | 2, _ => exact tb_m (i := 289) (by decide +kernel) rfl
  | 3, _ => exact tb_m (i := 291) (by decide +kernel) rfl
  | 4, _ => exact tb_m (i := 293) (by decide +kernel) rfl
  | 5, _ => exact tb_m (i := 295) (by decide +kernel) rfl
  | 6, _ => exact tb_m (i := 297) (by decide +kernel) rfl
  | 7, _ => exact tb_m (i := 299) (by decide +kernel) rfl
  | 8, _ => exact tb_m (i := 301) (by decide +kernel) rfl
  | k + 9, h => exact absurd h (by omega)
theorem cl_X : ClOk 7 "ClockPost" fT_X 9 fY_X := ⟨rfl, clw_X, by decide +kernel, by decide +kernel⟩
theorem clw_M : ∀ w ∈ u_ws "ClockPostModel" fT_M 18, w ∈ tbl := by
  intro w hw
  obtain ⟨k, hk, rfl⟩ := List.mem_map.mp hw
  have hk2 := List.mem_range.mp hk
  match k, hk2 with
  | 0, _ => exact tb_m (i := 734) (by decide +kernel) rfl
  | 1, _ => exact tb_m (i := 736) (by decide +kernel) rfl
  | 2, _ => exact tb_m (i := 738) (by decide +kernel) rfl
  | 3, _ => exact tb_m (i := 740) (by decide +kernel) rfl
  | 4, _ => exact tb_m (i := 742) (by decide +kernel) rfl
  | 5, _ => exact tb_m (i := 744) (by decide +kernel) rfl
  | 6, _ => exact tb_m (i := 746) (by decide +kernel) rfl
  | 7, _ => exact tb_m (i := 748) (by decide +kernel) rfl
  | 8, _ => exact tb_m (i := 750) (by decide +kernel) rfl
  | 9, _ => exact tb_m (i := 752) (by decide +kernel) rfl
  | 10, _ => exact tb_m (i := 754) (by decide +kernel) rfl
  | 11, _ => exact tb_m (i := 756) (by decide +kernel) rfl
  | 12, _ => exact tb_m (i := 758) (by decide +kernel) rfl
  | 13, _ => exact tb_m (i := 760) (by decide +kernel) rfl
  | 14, _ => exact tb_m (i := 762) (by decide +kernel) rfl
  | 15, _ => exact tb_m (i := 764) (by decide +kernel) rfl
  | 16, _ => exact tb_m (i := 766) (by decide +kernel) rfl
  | 17, _ => exact tb_m (i := 768) (by decide +kernel) rfl
  | k + 18, h => exact absurd h (by omega)
theorem cl_M : ClOk 8 "ClockPostModel" fT_M 18 fY_M := ⟨rfl, clw_M, by decide +kernel, by decide +kernel⟩
theorem lf_X_11 : LkF "ClockPost" 11 7 0 (.array (.object "ClockPost$Row")) true := ⟨_, _, _, _, cl_X, by decide, tb_m (i := 276) (by decide +kernel) rfl, rfl, rfl, rfl⟩
theorem lf_X_18 : LkF "ClockPost" 18 7 1 (.object "ClockPost$Tape") true := ⟨_, _, _, _, cl_X, by decide, tb_m (i := 277) (by decide +kernel) rfl, rfl, rfl, rfl⟩
theorem lf_X_25 : LkF "ClockPost" 25 7 2 (.object "ClockPost$House") true := ⟨_, _, _, _, cl_X, by decide, tb_m (i := 278) (by decide +kernel) rfl, rfl, rfl, rfl⟩
theorem lf_X_29 : LkF "ClockPost" 29 7 3 (.object "ClockPost$House") true := ⟨_, _, _, _, cl_X, by decide, tb_m (i := 279) (by decide +kernel) rfl, rfl, rfl, rfl⟩
theorem lf_X_32 : LkF "ClockPost" 32 7 4 (.array (.object "ClockPost$House")) true := ⟨_, _, _, _, cl_X, by decide, tb_m (i := 280) (by decide +kernel) rfl, rfl, rfl, rfl⟩
theorem lf_X_39 : LkF "ClockPost" 39 7 5 (.object "ClockPost$Acts") true := ⟨_, _, _, _, cl_X, by decide, tb_m (i := 281) (by decide +kernel) rfl, rfl, rfl, rfl⟩
theorem lf_X_46 : LkF "ClockPost" 46 7 6 (.object "ClockPost$OrderSearch") true := ⟨_, _, _, _, cl_X, by decide, tb_m (i := 282) (by decide +kernel) rfl, rfl, rfl, rfl⟩
theorem lf_X_53 : LkF "ClockPost" 53 7 7 (.object "ClockPost$Trace") true := ⟨_, _, _, _, cl_X, by decide, tb_m (i := 283) (by decide +kernel) rfl, rfl, rfl, rfl⟩
theorem lf_X_78 : LkF "ClockPost" 78 1 1 (.boolean) false := ⟨_, _, _, _, cl_R, by decide, tb_m (i := 262) (by decide +kernel) rfl, rfl, rfl, rfl⟩
theorem lf_X_90 : LkF "ClockPost" 90 1 2 (.int) false := ⟨_, _, _, _, cl_R, by decide, tb_m (i := 264) (by decide +kernel) rfl, rfl, rfl, rfl⟩
theorem lf_X_94 : LkF "ClockPost" 94 1 0 (.array .int) true := ⟨_, _, _, _, cl_R, by decide, tb_m (i := 260) (by decide +kernel) rfl, rfl, rfl, rfl⟩
theorem lf_X_104 : LkF "ClockPost" 104 1 3 (.int) false := ⟨_, _, _, _, cl_R, by decide, tb_m (i := 266) (by decide +kernel) rfl, rfl, rfl, rfl⟩
theorem lf_X_110 : LkF "ClockPost" 110 6 1 (.int) false := ⟨_, _, _, _, cl_P, by decide, tb_m (i := 98) (by decide +kernel) rfl, rfl, rfl, rfl⟩
theorem lf_X_119 : LkF "ClockPost" 119 6 3 (.int) false := ⟨_, _, _, _, cl_P, by decide, tb_m (i := 102) (by decide +kernel) rfl, rfl, rfl, rfl⟩
theorem lf_X_129 : LkF "ClockPost" 129 3 2 (.int) false := ⟨_, _, _, _, cl_H, by decide, tb_m (i := 166) (by decide +kernel) rfl, rfl, rfl, rfl⟩
theorem lf_X_132 : LkF "ClockPost" 132 6 2 (.int) false := ⟨_, _, _, _, cl_P, by decide, tb_m (i := 99) (by decide +kernel) rfl, rfl, rfl, rfl⟩
theorem lf_X_135 : LkF "ClockPost" 135 3 1 (.boolean) false := ⟨_, _, _, _, cl_H, by decide, tb_m (i := 163) (by decide +kernel) rfl, rfl, rfl, rfl⟩
theorem lf_X_139 : LkF "ClockPost" 139 3 5 (.int) false := ⟨_, _, _, _, cl_H, by decide, tb_m (i := 174) (by decide +kernel) rfl, rfl, rfl, rfl⟩
theorem lf_X_149 : LkF "ClockPost" 149 3 4 (.int) false := ⟨_, _, _, _, cl_H, by decide, tb_m (i := 172) (by decide +kernel) rfl, rfl, rfl, rfl⟩
theorem lf_X_162 : LkF "ClockPost" 162 3 7 (.int) false := ⟨_, _, _, _, cl_H, by decide, tb_m (i := 178) (by decide +kernel) rfl, rfl, rfl, rfl⟩
theorem lf_X_171 : LkF "ClockPost" 171 3 0 (.array (.object "ClockPost$Letter")) true := ⟨_, _, _, _, cl_H, by decide, tb_m (i := 160) (by decide +kernel) rfl, rfl, rfl, rfl⟩
theorem lf_X_175 : LkF "ClockPost" 175 0 1 (.int) false := ⟨_, _, _, _, cl_L, by decide, tb_m (i := 134) (by decide +kernel) rfl, rfl, rfl, rfl⟩
theorem lf_X_183 : LkF "ClockPost" 183 4 2 (.int) false := ⟨_, _, _, _, cl_A, by decide, tb_m (i := 208) (by decide +kernel) rfl, rfl, rfl, rfl⟩
theorem lf_X_186 : LkF "ClockPost" 186 0 2 (.int) false := ⟨_, _, _, _, cl_L, by decide, tb_m (i := 138) (by decide +kernel) rfl, rfl, rfl, rfl⟩
theorem lf_X_189 : LkF "ClockPost" 189 0 3 (.int) false := ⟨_, _, _, _, cl_L, by decide, tb_m (i := 142) (by decide +kernel) rfl, rfl, rfl, rfl⟩
theorem lf_X_192 : LkF "ClockPost" 192 0 4 (.int) false := ⟨_, _, _, _, cl_L, by decide, tb_m (i := 146) (by decide +kernel) rfl, rfl, rfl, rfl⟩
theorem lf_X_209 : LkF "ClockPost" 209 3 6 (.int) false := ⟨_, _, _, _, cl_H, by decide, tb_m (i := 176) (by decide +kernel) rfl, rfl, rfl, rfl⟩
theorem lf_X_222 : LkF "ClockPost" 222 5 3 (.int) false := ⟨_, _, _, _, cl_O, by decide, tb_m (i := 229) (by decide +kernel) rfl, rfl, rfl, rfl⟩
theorem lf_X_225 : LkF "ClockPost" 225 5 2 (.array .int) true := ⟨_, _, _, _, cl_O, by decide, tb_m (i := 227) (by decide +kernel) rfl, rfl, rfl, rfl⟩
theorem lf_X_277 : LkF "ClockPost" 277 0 0 (.int) false := ⟨_, _, _, _, cl_L, by decide, tb_m (i := 131) (by decide +kernel) rfl, rfl, rfl, rfl⟩
theorem lf_X_283 : LkF "ClockPost" 283 2 1 (.int) false := ⟨_, _, _, _, cl_T, by decide, tb_m (i := 248) (by decide +kernel) rfl, rfl, rfl, rfl⟩
theorem lf_X_291 : LkF "ClockPost" 291 2 0 (.array .int) true := ⟨_, _, _, _, cl_T, by decide, tb_m (i := 246) (by decide +kernel) rfl, rfl, rfl, rfl⟩
theorem lf_X_297 : LkF "ClockPost" 297 3 3 (.int) false := ⟨_, _, _, _, cl_H, by decide, tb_m (i := 169) (by decide +kernel) rfl, rfl, rfl, rfl⟩
theorem lf_X_300 : LkF "ClockPost" 300 7 8 (.int) false := ⟨_, _, _, _, cl_X, by decide, tb_m (i := 284) (by decide +kernel) rfl, rfl, rfl, rfl⟩
theorem lf_A_11 : LkF "ClockPost$Acts" 11 4 0 (.array (.object "ClockPost$House")) true := ⟨_, _, _, _, cl_A, by decide, tb_m (i := 205) (by decide +kernel) rfl, rfl, rfl, rfl⟩
theorem lf_A_18 : LkF "ClockPost$Acts" 18 4 1 (.int) false := ⟨_, _, _, _, cl_A, by decide, tb_m (i := 206) (by decide +kernel) rfl, rfl, rfl, rfl⟩
theorem lf_A_22 : LkF "ClockPost$Acts" 22 4 2 (.int) false := ⟨_, _, _, _, cl_A, by decide, tb_m (i := 207) (by decide +kernel) rfl, rfl, rfl, rfl⟩
theorem lf_H_11 : LkF "ClockPost$House" 11 3 0 (.array (.object "ClockPost$Letter")) true := ⟨_, _, _, _, cl_H, by decide, tb_m (i := 158) (by decide +kernel) rfl, rfl, rfl, rfl⟩
theorem lf_H_18 : LkF "ClockPost$House" 18 3 1 (.boolean) false := ⟨_, _, _, _, cl_H, by decide, tb_m (i := 161) (by decide +kernel) rfl, rfl, rfl, rfl⟩
theorem lf_H_22 : LkF "ClockPost$House" 22 3 2 (.int) false := ⟨_, _, _, _, cl_H, by decide, tb_m (i := 164) (by decide +kernel) rfl, rfl, rfl, rfl⟩
theorem lf_H_26 : LkF "ClockPost$House" 26 3 3 (.int) false := ⟨_, _, _, _, cl_H, by decide, tb_m (i := 167) (by decide +kernel) rfl, rfl, rfl, rfl⟩
theorem lf_H_29 : LkF "ClockPost$House" 29 3 4 (.int) false := ⟨_, _, _, _, cl_H, by decide, tb_m (i := 170) (by decide +kernel) rfl, rfl, rfl, rfl⟩
theorem lf_H_32 : LkF "ClockPost$House" 32 3 5 (.int) false := ⟨_, _, _, _, cl_H, by decide, tb_m (i := 173) (by decide +kernel) rfl, rfl, rfl, rfl⟩
theorem lf_H_35 : LkF "ClockPost$House" 35 3 6 (.int) false := ⟨_, _, _, _, cl_H, by decide, tb_m (i := 175) (by decide +kernel) rfl, rfl, rfl, rfl⟩
theorem lf_H_38 : LkF "ClockPost$House" 38 3 7 (.int) false := ⟨_, _, _, _, cl_H, by decide, tb_m (i := 177) (by decide +kernel) rfl, rfl, rfl, rfl⟩
theorem lf_H_64 : LkF "ClockPost$House" 64 0 2 (.int) false := ⟨_, _, _, _, cl_L, by decide, tb_m (i := 137) (by decide +kernel) rfl, rfl, rfl, rfl⟩
theorem lf_H_77 : LkF "ClockPost$House" 77 0 4 (.int) false := ⟨_, _, _, _, cl_L, by decide, tb_m (i := 145) (by decide +kernel) rfl, rfl, rfl, rfl⟩
theorem lf_H_87 : LkF "ClockPost$House" 87 0 3 (.int) false := ⟨_, _, _, _, cl_L, by decide, tb_m (i := 141) (by decide +kernel) rfl, rfl, rfl, rfl⟩
theorem lf_L_9 : LkF "ClockPost$Letter" 9 0 0 (.int) false := ⟨_, _, _, _, cl_L, by decide, tb_m (i := 129) (by decide +kernel) rfl, rfl, rfl, rfl⟩
theorem lf_L_15 : LkF "ClockPost$Letter" 15 0 1 (.int) false := ⟨_, _, _, _, cl_L, by decide, tb_m (i := 132) (by decide +kernel) rfl, rfl, rfl, rfl⟩
theorem lf_L_18 : LkF "ClockPost$Letter" 18 0 2 (.int) false := ⟨_, _, _, _, cl_L, by decide, tb_m (i := 135) (by decide +kernel) rfl, rfl, rfl, rfl⟩
theorem lf_L_21 : LkF "ClockPost$Letter" 21 0 3 (.int) false := ⟨_, _, _, _, cl_L, by decide, tb_m (i := 139) (by decide +kernel) rfl, rfl, rfl, rfl⟩
theorem lf_L_24 : LkF "ClockPost$Letter" 24 0 4 (.int) false := ⟨_, _, _, _, cl_L, by decide, tb_m (i := 143) (by decide +kernel) rfl, rfl, rfl, rfl⟩
theorem lf_O_11 : LkF "ClockPost$OrderSearch" 11 5 0 (.array (.object "ClockPost$House")) true := ⟨_, _, _, _, cl_O, by decide, tb_m (i := 224) (by decide +kernel) rfl, rfl, rfl, rfl⟩
theorem lf_O_17 : LkF "ClockPost$OrderSearch" 17 5 1 (.array .int) true := ⟨_, _, _, _, cl_O, by decide, tb_m (i := 225) (by decide +kernel) rfl, rfl, rfl, rfl⟩
theorem lf_O_21 : LkF "ClockPost$OrderSearch" 21 5 2 (.array .int) true := ⟨_, _, _, _, cl_O, by decide, tb_m (i := 226) (by decide +kernel) rfl, rfl, rfl, rfl⟩
theorem lf_O_30 : LkF "ClockPost$OrderSearch" 30 5 3 (.int) false := ⟨_, _, _, _, cl_O, by decide, tb_m (i := 228) (by decide +kernel) rfl, rfl, rfl, rfl⟩
theorem lf_R_9 : LkF "ClockPost$Row" 9 1 0 (.array .int) true := ⟨_, _, _, _, cl_R, by decide, tb_m (i := 259) (by decide +kernel) rfl, rfl, rfl, rfl⟩
theorem lf_R_15 : LkF "ClockPost$Row" 15 1 1 (.boolean) false := ⟨_, _, _, _, cl_R, by decide, tb_m (i := 261) (by decide +kernel) rfl, rfl, rfl, rfl⟩
theorem lf_R_25 : LkF "ClockPost$Row" 25 1 2 (.int) false := ⟨_, _, _, _, cl_R, by decide, tb_m (i := 263) (by decide +kernel) rfl, rfl, rfl, rfl⟩
theorem lf_R_29 : LkF "ClockPost$Row" 29 1 3 (.int) false := ⟨_, _, _, _, cl_R, by decide, tb_m (i := 265) (by decide +kernel) rfl, rfl, rfl, rfl⟩
theorem lf_P_9 : LkF "ClockPost$Tape" 9 6 0 (.array .int) true := ⟨_, _, _, _, cl_P, by decide, tb_m (i := 96) (by decide +kernel) rfl, rfl, rfl, rfl⟩
theorem lf_P_15 : LkF "ClockPost$Tape" 15 6 1 (.int) false := ⟨_, _, _, _, cl_P, by decide, tb_m (i := 97) (by decide +kernel) rfl, rfl, rfl, rfl⟩
theorem lf_P_19 : LkF "ClockPost$Tape" 19 6 3 (.int) false := ⟨_, _, _, _, cl_P, by decide, tb_m (i := 101) (by decide +kernel) rfl, rfl, rfl, rfl⟩
theorem lf_P_34 : LkF "ClockPost$Tape" 34 3 1 (.boolean) false := ⟨_, _, _, _, cl_H, by decide, tb_m (i := 162) (by decide +kernel) rfl, rfl, rfl, rfl⟩
theorem lf_P_46 : LkF "ClockPost$Tape" 46 6 4 (.int) false := ⟨_, _, _, _, cl_P, by decide, tb_m (i := 103) (by decide +kernel) rfl, rfl, rfl, rfl⟩
theorem lf_P_49 : LkF "ClockPost$Tape" 49 3 3 (.int) false := ⟨_, _, _, _, cl_H, by decide, tb_m (i := 168) (by decide +kernel) rfl, rfl, rfl, rfl⟩
theorem lf_P_66 : LkF "ClockPost$Tape" 66 3 2 (.int) false := ⟨_, _, _, _, cl_H, by decide, tb_m (i := 165) (by decide +kernel) rfl, rfl, rfl, rfl⟩
theorem lf_P_69 : LkF "ClockPost$Tape" 69 3 0 (.array (.object "ClockPost$Letter")) true := ⟨_, _, _, _, cl_H, by decide, tb_m (i := 159) (by decide +kernel) rfl, rfl, rfl, rfl⟩
theorem lf_P_73 : LkF "ClockPost$Tape" 73 0 0 (.int) false := ⟨_, _, _, _, cl_L, by decide, tb_m (i := 130) (by decide +kernel) rfl, rfl, rfl, rfl⟩
theorem lf_P_78 : LkF "ClockPost$Tape" 78 0 4 (.int) false := ⟨_, _, _, _, cl_L, by decide, tb_m (i := 144) (by decide +kernel) rfl, rfl, rfl, rfl⟩
theorem lf_P_85 : LkF "ClockPost$Tape" 85 3 4 (.int) false := ⟨_, _, _, _, cl_H, by decide, tb_m (i := 171) (by decide +kernel) rfl, rfl, rfl, rfl⟩
theorem lf_P_88 : LkF "ClockPost$Tape" 88 0 1 (.int) false := ⟨_, _, _, _, cl_L, by decide, tb_m (i := 133) (by decide +kernel) rfl, rfl, rfl, rfl⟩
theorem lf_P_91 : LkF "ClockPost$Tape" 91 0 2 (.int) false := ⟨_, _, _, _, cl_L, by decide, tb_m (i := 136) (by decide +kernel) rfl, rfl, rfl, rfl⟩
theorem lf_P_94 : LkF "ClockPost$Tape" 94 0 3 (.int) false := ⟨_, _, _, _, cl_L, by decide, tb_m (i := 140) (by decide +kernel) rfl, rfl, rfl, rfl⟩
theorem lf_P_104 : LkF "ClockPost$Tape" 104 6 2 (.int) false := ⟨_, _, _, _, cl_P, by decide, tb_m (i := 100) (by decide +kernel) rfl, rfl, rfl, rfl⟩
theorem lf_T_9 : LkF "ClockPost$Trace" 9 2 0 (.array .int) true := ⟨_, _, _, _, cl_T, by decide, tb_m (i := 245) (by decide +kernel) rfl, rfl, rfl, rfl⟩
theorem lf_T_15 : LkF "ClockPost$Trace" 15 2 1 (.int) false := ⟨_, _, _, _, cl_T, by decide, tb_m (i := 247) (by decide +kernel) rfl, rfl, rfl, rfl⟩
theorem lf_M_7 : LkF "ClockPostModel" 7 8 0 (.array .int) true := ⟨_, _, _, _, cl_M, by decide, tb_m (i := 716) (by decide +kernel) rfl, rfl, rfl, rfl⟩
theorem lf_M_13 : LkF "ClockPostModel" 13 8 3 (.array .boolean) true := ⟨_, _, _, _, cl_M, by decide, tb_m (i := 719) (by decide +kernel) rfl, rfl, rfl, rfl⟩
theorem lf_M_17 : LkF "ClockPostModel" 17 8 4 (.array .int) true := ⟨_, _, _, _, cl_M, by decide, tb_m (i := 720) (by decide +kernel) rfl, rfl, rfl, rfl⟩
theorem lf_M_20 : LkF "ClockPostModel" 20 8 5 (.array .int) true := ⟨_, _, _, _, cl_M, by decide, tb_m (i := 721) (by decide +kernel) rfl, rfl, rfl, rfl⟩
theorem lf_M_23 : LkF "ClockPostModel" 23 8 6 (.array .int) true := ⟨_, _, _, _, cl_M, by decide, tb_m (i := 722) (by decide +kernel) rfl, rfl, rfl, rfl⟩
theorem lf_M_26 : LkF "ClockPostModel" 26 8 7 (.array .int) true := ⟨_, _, _, _, cl_M, by decide, tb_m (i := 723) (by decide +kernel) rfl, rfl, rfl, rfl⟩
theorem lf_M_29 : LkF "ClockPostModel" 29 8 11 (.array .int) true := ⟨_, _, _, _, cl_M, by decide, tb_m (i := 727) (by decide +kernel) rfl, rfl, rfl, rfl⟩
theorem lf_M_32 : LkF "ClockPostModel" 32 8 16 (.array .int) true := ⟨_, _, _, _, cl_M, by decide, tb_m (i := 732) (by decide +kernel) rfl, rfl, rfl, rfl⟩
theorem lf_M_35 : LkF "ClockPostModel" 35 8 17 (.array .int) true := ⟨_, _, _, _, cl_M, by decide, tb_m (i := 733) (by decide +kernel) rfl, rfl, rfl, rfl⟩
theorem lf_M_38 : LkF "ClockPostModel" 38 8 10 (.int) false := ⟨_, _, _, _, cl_M, by decide, tb_m (i := 726) (by decide +kernel) rfl, rfl, rfl, rfl⟩
theorem lf_M_73 : LkF "ClockPostModel" 73 8 8 (.int) false := ⟨_, _, _, _, cl_M, by decide, tb_m (i := 724) (by decide +kernel) rfl, rfl, rfl, rfl⟩
theorem lf_M_77 : LkF "ClockPostModel" 77 8 13 (.int) false := ⟨_, _, _, _, cl_M, by decide, tb_m (i := 729) (by decide +kernel) rfl, rfl, rfl, rfl⟩
theorem lf_M_84 : LkF "ClockPostModel" 84 8 14 (.int) false := ⟨_, _, _, _, cl_M, by decide, tb_m (i := 730) (by decide +kernel) rfl, rfl, rfl, rfl⟩
theorem lf_M_96 : LkF "ClockPostModel" 96 8 15 (.int) false := ⟨_, _, _, _, cl_M, by decide, tb_m (i := 731) (by decide +kernel) rfl, rfl, rfl, rfl⟩
theorem lf_M_122 : LkF "ClockPostModel" 122 8 9 (.int) false := ⟨_, _, _, _, cl_M, by decide, tb_m (i := 725) (by decide +kernel) rfl, rfl, rfl, rfl⟩
theorem lf_M_130 : LkF "ClockPostModel" 130 8 1 (.boolean) false := ⟨_, _, _, _, cl_M, by decide, tb_m (i := 717) (by decide +kernel) rfl, rfl, rfl, rfl⟩
theorem lf_M_134 : LkF "ClockPostModel" 134 8 2 (.int) false := ⟨_, _, _, _, cl_M, by decide, tb_m (i := 718) (by decide +kernel) rfl, rfl, rfl, rfl⟩
theorem lf_M_247 : LkF "ClockPostModel" 247 8 12 (.int) false := ⟨_, _, _, _, cl_M, by decide, tb_m (i := 728) (by decide +kernel) rfl, rfl, rfl, rfl⟩
theorem lg_X_310 : Cond.fieldLink "ClockPost" 310 "ClockPost" "NEAREST_KIND" "[I" ∈ tbl := tb_m (i := 674) (by decide +kernel) rfl
theorem lg_X_313 : Cond.fieldLink "ClockPost" 313 "ClockPost" "SIZE_BODIES" "[I" ∈ tbl := tb_m (i := 683) (by decide +kernel) rfl
theorem lg_X_316 : Cond.fieldLink "ClockPost" 316 "ClockPost" "MARK_BODIES" "[I" ∈ tbl := tb_m (i := 685) (by decide +kernel) rfl
abbrev b_A_forgetAll : ByteArray := prog_2_method_4_code
theorem cw_A_forgetAll : Cond.code y_A_forgetAll b_A_forgetAll 1 (none) ∈ tbl := tb_m (i := 427) (by decide +kernel) rfl
abbrev b_A_init : ByteArray := prog_2_method_1_code
theorem cw_A_init : Cond.code y_A_init b_A_init 2 (none) ∈ tbl := tb_m (i := 201) (by decide +kernel) rfl
abbrev b_A_keep : ByteArray := prog_2_method_2_code
theorem cw_A_keep : Cond.code y_A_keep b_A_keep 2 (none) ∈ tbl := tb_m (i := 440) (by decide +kernel) rfl
abbrev b_A_takeBack : ByteArray := prog_2_method_3_code
theorem cw_A_takeBack : Cond.code y_A_takeBack b_A_takeBack 2 (some FieldType.boolean) ∈ tbl := tb_m (i := 522) (by decide +kernel) rfl
abbrev b_H_answerOne : ByteArray := prog_3_method_12_code
theorem cw_H_answerOne : Cond.code y_H_answerOne b_H_answerOne 2 (none) ∈ tbl := tb_m (i := 501) (by decide +kernel) rfl
abbrev b_H_become : ByteArray := prog_3_method_3_code
theorem cw_H_become : Cond.code y_H_become b_H_become 3 (none) ∈ tbl := tb_m (i := 419) (by decide +kernel) rfl
abbrev b_H_clear : ByteArray := prog_3_method_2_code
theorem cw_H_clear : Cond.code y_H_clear b_H_clear 1 (none) ∈ tbl := tb_m (i := 375) (by decide +kernel) rfl
abbrev b_H_hasLetter : ByteArray := prog_3_method_4_code
theorem cw_H_hasLetter : Cond.code y_H_hasLetter b_H_hasLetter 2 (some FieldType.boolean) ∈ tbl := tb_m (i := 461) (by decide +kernel) rfl
abbrev b_H_init : ByteArray := prog_3_method_1_code
theorem cw_H_init : Cond.code y_H_init b_H_init 2 (none) ∈ tbl := tb_m (i := 120) (by decide +kernel) rfl
abbrev b_H_isBehind : ByteArray := prog_3_method_5_code
theorem cw_H_isBehind : Cond.code y_H_isBehind b_H_isBehind 2 (some FieldType.boolean) ∈ tbl := tb_m (i := 457) (by decide +kernel) rfl
abbrev b_H_nextToFall : ByteArray := prog_3_method_10_code
theorem cw_H_nextToFall : Cond.code y_H_nextToFall b_H_nextToFall 3 (some FieldType.int) ∈ tbl := tb_m (i := 483) (by decide +kernel) rfl
abbrev b_H_passDay : ByteArray := prog_3_method_9_code
theorem cw_H_passDay : Cond.code y_H_passDay b_H_passDay 4 (some FieldType.int) ∈ tbl := tb_m (i := 445) (by decide +kernel) rfl
abbrev b_H_putBehind : ByteArray := prog_3_method_13_code
theorem cw_H_putBehind : Cond.code y_H_putBehind b_H_putBehind 2 (none) ∈ tbl := tb_m (i := 509) (by decide +kernel) rfl
abbrev b_H_takeAway : ByteArray := prog_3_method_11_code
theorem cw_H_takeAway : Cond.code y_H_takeAway b_H_takeAway 3 (none) ∈ tbl := tb_m (i := 491) (by decide +kernel) rfl
abbrev b_H_takeDraw : ByteArray := prog_3_method_14_code
theorem cw_H_takeDraw : Cond.code y_H_takeDraw b_H_takeDraw 4 (none) ∈ tbl := tb_m (i := 648) (by decide +kernel) rfl
abbrev b_H_thickness : ByteArray := prog_3_method_8_code
theorem cw_H_thickness : Cond.code y_H_thickness b_H_thickness 3 (some FieldType.int) ∈ tbl := tb_m (i := 479) (by decide +kernel) rfl
abbrev b_H_weight : ByteArray := prog_3_method_7_code
theorem cw_H_weight : Cond.code y_H_weight b_H_weight 3 (some FieldType.int) ∈ tbl := tb_m (i := 449) (by decide +kernel) rfl
abbrev b_H_weightOf : ByteArray := prog_3_method_6_code
theorem cw_H_weightOf : Cond.code y_H_weightOf b_H_weightOf 2 (some FieldType.int) ∈ tbl := tb_m (i := 453) (by decide +kernel) rfl
abbrev b_JA_fill : ByteArray := prog_14_method_103_code
theorem cw_JA_fill : Cond.code y_JA_fill b_JA_fill 4 (none) ∈ tbl := tb_m (i := 326) (by decide +kernel) rfl
abbrev b_JI_bitCount : ByteArray := prog_11_method_49_code
theorem cw_JI_bitCount : Cond.code y_JI_bitCount b_JI_bitCount 1 (some FieldType.int) ∈ tbl := tb_m (i := 464) (by decide +kernel) rfl
abbrev b_JM_max : ByteArray := prog_12_method_65_code
theorem cw_JM_max : Cond.code y_JM_max b_JM_max 2 (some FieldType.int) ∈ tbl := tb_m (i := 637) (by decide +kernel) rfl
abbrev b_JM_min : ByteArray := prog_12_method_69_code
theorem cw_JM_min : Cond.code y_JM_min b_JM_min 2 (some FieldType.int) ∈ tbl := tb_m (i := 474) (by decide +kernel) rfl
abbrev b_L_become : ByteArray := prog_4_method_2_code
theorem cw_L_become : Cond.code y_L_become b_L_become 2 (none) ∈ tbl := tb_m (i := 423) (by decide +kernel) rfl
abbrev b_L_change : ByteArray := prog_4_method_3_code
theorem cw_L_change : Cond.code y_L_change b_L_change 3 (none) ∈ tbl := tb_m (i := 612) (by decide +kernel) rfl
abbrev b_L_fallsAheadOf : ByteArray := prog_4_method_5_code
theorem cw_L_fallsAheadOf : Cond.code y_L_fallsAheadOf b_L_fallsAheadOf 2 (some FieldType.boolean) ∈ tbl := tb_m (i := 487) (by decide +kernel) rfl
abbrev b_L_init : ByteArray := prog_4_method_1_code
theorem cw_L_init : Cond.code y_L_init b_L_init 1 (none) ∈ tbl := tb_m (i := 127) (by decide +kernel) rfl
abbrev b_L_weighAmong : ByteArray := prog_4_method_4_code
theorem cw_L_weighAmong : Cond.code y_L_weighAmong b_L_weighAmong 2 (some FieldType.int) ∈ tbl := tb_m (i := 471) (by decide +kernel) rfl
abbrev b_M_answer : ByteArray := prog_10_method_42_code
theorem cw_M_answer : Cond.code y_M_answer b_M_answer 2 (some FieldType.int) ∈ tbl := tb_m (i := 928) (by decide +kernel) rfl
abbrev b_M_answers : ByteArray := prog_10_method_41_code
theorem cw_M_answers : Cond.code y_M_answers b_M_answers 3 (none) ∈ tbl := tb_m (i := 936) (by decide +kernel) rfl
abbrev b_M_answersAll : ByteArray := prog_10_method_57_code
theorem cw_M_answersAll : Cond.code y_M_answersAll b_M_answersAll 3 (none) ∈ tbl := tb_m (i := 1016) (by decide +kernel) rfl
abbrev b_M_as : ByteArray := prog_10_method_73_code
theorem cw_M_as : Cond.code y_M_as b_M_as 3 (some FieldType.int) ∈ tbl := tb_m (i := 1071) (by decide +kernel) rfl
abbrev b_M_ask : ByteArray := prog_10_method_83_code
theorem cw_M_ask : Cond.code y_M_ask b_M_ask 3 (some FieldType.int) ∈ tbl := tb_m (i := 1079) (by decide +kernel) rfl
abbrev b_M_atMost : ByteArray := prog_10_method_5_code
theorem cw_M_atMost : Cond.code y_M_atMost b_M_atMost 2 (some FieldType.int) ∈ tbl := tb_m (i := 907) (by decide +kernel) rfl
abbrev b_M_away : ByteArray := prog_10_method_37_code
theorem cw_M_away : Cond.code y_M_away b_M_away 4 (none) ∈ tbl := tb_m (i := 924) (by decide +kernel) rfl
abbrev b_M_begin : ByteArray := prog_10_method_74_code
theorem cw_M_begin : Cond.code y_M_begin b_M_begin 2 (none) ∈ tbl := tb_m (i := 1087) (by decide +kernel) rfl
abbrev b_M_behind : ByteArray := prog_10_method_51_code
theorem cw_M_behind : Cond.code y_M_behind b_M_behind 3 (some FieldType.int) ∈ tbl := tb_m (i := 978) (by decide +kernel) rfl
abbrev b_M_billMark : ByteArray := prog_10_method_80_code
theorem cw_M_billMark : Cond.code y_M_billMark b_M_billMark 2 (some FieldType.int) ∈ tbl := tb_m (i := 1103) (by decide +kernel) rfl
abbrev b_M_billSize : ByteArray := prog_10_method_76_code
theorem cw_M_billSize : Cond.code y_M_billSize b_M_billSize 3 (some FieldType.int) ∈ tbl := tb_m (i := 1091) (by decide +kernel) rfl
abbrev b_M_bits : ByteArray := prog_10_method_4_code
theorem cw_M_bits : Cond.code y_M_bits b_M_bits 3 (some FieldType.int) ∈ tbl := tb_m (i := 904) (by decide +kernel) rfl
abbrev b_M_burden : ByteArray := prog_10_method_49_code
theorem cw_M_burden : Cond.code y_M_burden b_M_burden 3 (some FieldType.int) ∈ tbl := tb_m (i := 957) (by decide +kernel) rfl
abbrev b_M_burdenAt : ByteArray := prog_10_method_33_code
theorem cw_M_burdenAt : Cond.code y_M_burdenAt b_M_burdenAt 4 (some FieldType.int) ∈ tbl := tb_m (i := 894) (by decide +kernel) rfl
abbrev b_M_copy : ByteArray := prog_10_method_13_code
theorem cw_M_copy : Cond.code y_M_copy b_M_copy 9 (some FieldType.int) ∈ tbl := tb_m (i := 804) (by decide +kernel) rfl
abbrev b_M_copyTown : ByteArray := prog_10_method_28_code
theorem cw_M_copyTown : Cond.code y_M_copyTown b_M_copyTown 4 (none) ∈ tbl := tb_m (i := 868) (by decide +kernel) rfl
abbrev b_M_count : ByteArray := prog_10_method_85_code
theorem cw_M_count : Cond.code y_M_count b_M_count 4 (some FieldType.int) ∈ tbl := tb_m (i := 1123) (by decide +kernel) rfl
abbrev b_M_days : ByteArray := prog_10_method_40_code
theorem cw_M_days : Cond.code y_M_days b_M_days 3 (some FieldType.int) ∈ tbl := tb_m (i := 881) (by decide +kernel) rfl
abbrev b_M_drawn : ByteArray := prog_10_method_68_code
theorem cw_M_drawn : Cond.code y_M_drawn b_M_drawn 9 (some FieldType.int) ∈ tbl := tb_m (i := 1051) (by decide +kernel) rfl
abbrev b_M_dread : ByteArray := prog_10_method_45_code
theorem cw_M_dread : Cond.code y_M_dread b_M_dread 4 (some FieldType.int) ∈ tbl := tb_m (i := 948) (by decide +kernel) rfl
abbrev b_M_drop : ByteArray := prog_10_method_14_code
theorem cw_M_drop : Cond.code y_M_drop b_M_drop 3 (some FieldType.int) ∈ tbl := tb_m (i := 812) (by decide +kernel) rfl
abbrev b_M_ease : ByteArray := prog_10_method_62_code
theorem cw_M_ease : Cond.code y_M_ease b_M_ease 5 (some FieldType.int) ∈ tbl := tb_m (i := 1024) (by decide +kernel) rfl
abbrev b_M_eases : ByteArray := prog_10_method_59_code
theorem cw_M_eases : Cond.code y_M_eases b_M_eases 6 (some FieldType.boolean) ∈ tbl := tb_m (i := 1020) (by decide +kernel) rfl
abbrev b_M_falls : ByteArray := prog_10_method_52_code
theorem cw_M_falls : Cond.code y_M_falls b_M_falls 4 (some FieldType.int) ∈ tbl := tb_m (i := 982) (by decide +kernel) rfl
abbrev b_M_fallsAhead : ByteArray := prog_10_method_35_code
theorem cw_M_fallsAhead : Cond.code y_M_fallsAhead b_M_fallsAhead 5 (some FieldType.boolean) ∈ tbl := tb_m (i := 916) (by decide +kernel) rfl
abbrev b_M_fault : ByteArray := prog_10_method_27_code
theorem cw_M_fault : Cond.code y_M_fault b_M_fault 1 (some FieldType.int) ∈ tbl := tb_m (i := 872) (by decide +kernel) rfl
abbrev b_M_feed : ByteArray := prog_10_method_15_code
theorem cw_M_feed : Cond.code y_M_feed b_M_feed 2 (some FieldType.int) ∈ tbl := tb_m (i := 816) (by decide +kernel) rfl
abbrev b_M_fewest : ByteArray := prog_10_method_60_code
theorem cw_M_fewest : Cond.code y_M_fewest b_M_fewest 6 (some FieldType.int) ∈ tbl := tb_m (i := 1008) (by decide +kernel) rfl
abbrev b_M_find : ByteArray := prog_10_method_6_code
theorem cw_M_find : Cond.code y_M_find b_M_find 2 (some FieldType.int) ∈ tbl := tb_m (i := 788) (by decide +kernel) rfl
abbrev b_M_fits : ByteArray := prog_10_method_65_code
theorem cw_M_fits : Cond.code y_M_fits b_M_fits 11 (some FieldType.int) ∈ tbl := tb_m (i := 1029) (by decide +kernel) rfl
abbrev b_M_growsBy : ByteArray := prog_10_method_55_code
theorem cw_M_growsBy : Cond.code y_M_growsBy b_M_growsBy 4 (some FieldType.int) ∈ tbl := tb_m (i := 992) (by decide +kernel) rfl
abbrev b_M_has : ByteArray := prog_10_method_3_code
theorem cw_M_has : Cond.code y_M_has b_M_has 2 (some FieldType.boolean) ∈ tbl := tb_m (i := 901) (by decide +kernel) rfl
abbrev b_M_hold : ByteArray := prog_10_method_61_code
theorem cw_M_hold : Cond.code y_M_hold b_M_hold 4 (some FieldType.int) ∈ tbl := tb_m (i := 1004) (by decide +kernel) rfl
abbrev b_M_holds : ByteArray := prog_10_method_58_code
theorem cw_M_holds : Cond.code y_M_holds b_M_holds 4 (some FieldType.boolean) ∈ tbl := tb_m (i := 1012) (by decide +kernel) rfl
abbrev b_M_house : ByteArray := prog_10_method_26_code
theorem cw_M_house : Cond.code y_M_house b_M_house 2 (some FieldType.int) ∈ tbl := tb_m (i := 822) (by decide +kernel) rfl
abbrev b_M_image : ByteArray := prog_10_method_69_code
theorem cw_M_image : Cond.code y_M_image b_M_image 2 (some FieldType.int) ∈ tbl := tb_m (i := 1059) (by decide +kernel) rfl
abbrev b_M_in : ByteArray := prog_10_method_2_code
theorem cw_M_in : Cond.code y_M_in b_M_in 6 (some FieldType.boolean) ∈ tbl := tb_m (i := 782) (by decide +kernel) rfl
abbrev b_M_init : ByteArray := prog_10_method_1_code
theorem cw_M_init : Cond.code y_M_init b_M_init 1 (none) ∈ tbl := tb_m (i := 714) (by decide +kernel) rfl
abbrev b_M_isFigure : ByteArray := prog_10_method_17_code
theorem cw_M_isFigure : Cond.code y_M_isFigure b_M_isFigure 2 (some FieldType.boolean) ∈ tbl := tb_m (i := 850) (by decide +kernel) rfl
abbrev b_M_isLetter : ByteArray := prog_10_method_16_code
theorem cw_M_isLetter : Cond.code y_M_isLetter b_M_isLetter 2 (some FieldType.boolean) ∈ tbl := tb_m (i := 838) (by decide +kernel) rfl
abbrev b_M_isLetterThere : ByteArray := prog_10_method_31_code
theorem cw_M_isLetterThere : Cond.code y_M_isLetterThere b_M_isLetterThere 2 (some FieldType.boolean) ∈ tbl := tb_m (i := 932) (by decide +kernel) rfl
abbrev b_M_isOf : ByteArray := prog_10_method_72_code
theorem cw_M_isOf : Cond.code y_M_isOf b_M_isOf 4 (some FieldType.boolean) ∈ tbl := tb_m (i := 1075) (by decide +kernel) rfl
abbrev b_M_isRow : ByteArray := prog_10_method_8_code
theorem cw_M_isRow : Cond.code y_M_isRow b_M_isRow 1 (some FieldType.boolean) ∈ tbl := tb_m (i := 778) (by decide +kernel) rfl
abbrev b_M_isSo : ByteArray := prog_10_method_64_code
theorem cw_M_isSo : Cond.code y_M_isSo b_M_isSo 5 (some FieldType.boolean) ∈ tbl := tb_m (i := 1038) (by decide +kernel) rfl
abbrev b_M_isSort : ByteArray := prog_10_method_24_code
theorem cw_M_isSort : Cond.code y_M_isSort b_M_isSort 1 (some FieldType.boolean) ∈ tbl := tb_m (i := 856) (by decide +kernel) rfl
abbrev b_M_isSpan : ByteArray := prog_10_method_12_code
theorem cw_M_isSpan : Cond.code y_M_isSpan b_M_isSpan 4 (some FieldType.boolean) ∈ tbl := tb_m (i := 808) (by decide +kernel) rfl
abbrev b_M_keepPast : ByteArray := prog_10_method_29_code
theorem cw_M_keepPast : Cond.code y_M_keepPast b_M_keepPast 2 (none) ∈ tbl := tb_m (i := 886) (by decide +kernel) rfl
abbrev b_M_kind : ByteArray := prog_10_method_71_code
theorem cw_M_kind : Cond.code y_M_kind b_M_kind 2 (some FieldType.int) ∈ tbl := tb_m (i := 1067) (by decide +kernel) rfl
abbrev b_M_kindOfLetter : ByteArray := prog_10_method_22_code
theorem cw_M_kindOfLetter : Cond.code y_M_kindOfLetter b_M_kindOfLetter 1 (some FieldType.int) ∈ tbl := tb_m (i := 859) (by decide +kernel) rfl
abbrev b_M_layTried : ByteArray := prog_10_method_47_code
theorem cw_M_layTried : Cond.code y_M_layTried b_M_layTried 1 (none) ∈ tbl := tb_m (i := 966) (by decide +kernel) rfl
abbrev b_M_lentMark : ByteArray := prog_10_method_79_code
theorem cw_M_lentMark : Cond.code y_M_lentMark b_M_lentMark 2 (some FieldType.int) ∈ tbl := tb_m (i := 1107) (by decide +kernel) rfl
abbrev b_M_lentSize : ByteArray := prog_10_method_75_code
theorem cw_M_lentSize : Cond.code y_M_lentSize b_M_lentSize 2 (some FieldType.int) ∈ tbl := tb_m (i := 1095) (by decide +kernel) rfl
abbrev b_M_letter : ByteArray := prog_10_method_46_code
theorem cw_M_letter : Cond.code y_M_letter b_M_letter 3 (some FieldType.int) ∈ tbl := tb_m (i := 953) (by decide +kernel) rfl
abbrev b_M_lost : ByteArray := prog_10_method_67_code
theorem cw_M_lost : Cond.code y_M_lost b_M_lost 9 (some FieldType.int) ∈ tbl := tb_m (i := 1046) (by decide +kernel) rfl
abbrev b_M_mark : ByteArray := prog_10_method_81_code
theorem cw_M_mark : Cond.code y_M_mark b_M_mark 2 (some FieldType.int) ∈ tbl := tb_m (i := 1099) (by decide +kernel) rfl
abbrev b_M_narrow : ByteArray := prog_10_method_10_code
theorem cw_M_narrow : Cond.code y_M_narrow b_M_narrow 2 (some FieldType.int) ∈ tbl := tb_m (i := 800) (by decide +kernel) rfl
abbrev b_M_nextLine : ByteArray := prog_10_method_54_code
theorem cw_M_nextLine : Cond.code y_M_nextLine b_M_nextLine 6 (some FieldType.boolean) ∈ tbl := tb_m (i := 996) (by decide +kernel) rfl
abbrev b_M_nextToFall : ByteArray := prog_10_method_36_code
theorem cw_M_nextToFall : Cond.code y_M_nextToFall b_M_nextToFall 4 (some FieldType.int) ∈ tbl := tb_m (i := 911) (by decide +kernel) rfl
abbrev b_M_noDays : ByteArray := prog_10_method_48_code
theorem cw_M_noDays : Cond.code y_M_noDays b_M_noDays 2 (some FieldType.int) ∈ tbl := tb_m (i := 961) (by decide +kernel) rfl
abbrev b_M_noItems : ByteArray := prog_10_method_63_code
theorem cw_M_noItems : Cond.code y_M_noItems b_M_noItems 4 (some FieldType.int) ∈ tbl := tb_m (i := 1034) (by decide +kernel) rfl
abbrev b_M_noteMark : ByteArray := prog_10_method_82_code
theorem cw_M_noteMark : Cond.code y_M_noteMark b_M_noteMark 3 (some FieldType.int) ∈ tbl := tb_m (i := 1115) (by decide +kernel) rfl
abbrev b_M_noteSize : ByteArray := prog_10_method_77_code
theorem cw_M_noteSize : Cond.code y_M_noteSize b_M_noteSize 2 (some FieldType.int) ∈ tbl := tb_m (i := 1111) (by decide +kernel) rfl
abbrev b_M_order : ByteArray := prog_10_method_56_code
theorem cw_M_order : Cond.code y_M_order b_M_order 8 (some FieldType.int) ∈ tbl := tb_m (i := 986) (by decide +kernel) rfl
abbrev b_M_pass : ByteArray := prog_10_method_38_code
theorem cw_M_pass : Cond.code y_M_pass b_M_pass 4 (some FieldType.int) ∈ tbl := tb_m (i := 890) (by decide +kernel) rfl
abbrev b_M_passes : ByteArray := prog_10_method_39_code
theorem cw_M_passes : Cond.code y_M_passes b_M_passes 4 (none) ∈ tbl := tb_m (i := 970) (by decide +kernel) rfl
abbrev b_M_post : ByteArray := prog_10_method_44_code
theorem cw_M_post : Cond.code y_M_post b_M_post 2 (some FieldType.int) ∈ tbl := tb_m (i := 940) (by decide +kernel) rfl
abbrev b_M_posts : ByteArray := prog_10_method_43_code
theorem cw_M_posts : Cond.code y_M_posts b_M_posts 3 (none) ∈ tbl := tb_m (i := 944) (by decide +kernel) rfl
abbrev b_M_reads : ByteArray := prog_10_method_25_code
theorem cw_M_reads : Cond.code y_M_reads b_M_reads 2 (some FieldType.boolean) ∈ tbl := tb_m (i := 826) (by decide +kernel) rfl
abbrev b_M_readsLaw : ByteArray := prog_10_method_21_code
theorem cw_M_readsLaw : Cond.code y_M_readsLaw b_M_readsLaw 1 (some FieldType.boolean) ∈ tbl := tb_m (i := 830) (by decide +kernel) rfl
abbrev b_M_readsLetter : ByteArray := prog_10_method_23_code
theorem cw_M_readsLetter : Cond.code y_M_readsLetter b_M_readsLetter 2 (some FieldType.boolean) ∈ tbl := tb_m (i := 863) (by decide +kernel) rfl
abbrev b_M_readsNumber : ByteArray := prog_10_method_20_code
theorem cw_M_readsNumber : Cond.code y_M_readsNumber b_M_readsNumber 4 (some FieldType.boolean) ∈ tbl := tb_m (i := 846) (by decide +kernel) rfl
abbrev b_M_refuse : ByteArray := prog_10_method_18_code
theorem cw_M_refuse : Cond.code y_M_refuse b_M_refuse 2 (some FieldType.boolean) ∈ tbl := tb_m (i := 842) (by decide +kernel) rfl
abbrev b_M_restore : ByteArray := prog_10_method_70_code
theorem cw_M_restore : Cond.code y_M_restore b_M_restore 2 (some FieldType.int) ∈ tbl := tb_m (i := 1063) (by decide +kernel) rfl
abbrev b_M_row : ByteArray := prog_10_method_9_code
theorem cw_M_row : Cond.code y_M_row b_M_row 5 (some FieldType.int) ∈ tbl := tb_m (i := 775) (by decide +kernel) rfl
abbrev b_M_set : ByteArray := prog_10_method_11_code
theorem cw_M_set : Cond.code y_M_set b_M_set 4 (some FieldType.int) ∈ tbl := tb_m (i := 797) (by decide +kernel) rfl
abbrev b_M_sign : ByteArray := prog_10_method_19_code
theorem cw_M_sign : Cond.code y_M_sign b_M_sign 2 (some FieldType.boolean) ∈ tbl := tb_m (i := 834) (by decide +kernel) rfl
abbrev b_M_sizeOf : ByteArray := prog_10_method_78_code
theorem cw_M_sizeOf : Cond.code y_M_sizeOf b_M_sizeOf 2 (some FieldType.int) ∈ tbl := tb_m (i := 1083) (by decide +kernel) rfl
abbrev b_M_status : ByteArray := prog_10_method_86_code
theorem cw_M_status : Cond.code y_M_status b_M_status 1 (some FieldType.int) ∈ tbl := tb_m (i := 1127) (by decide +kernel) rfl
abbrev b_M_stealth : ByteArray := prog_10_method_66_code
theorem cw_M_stealth : Cond.code y_M_stealth b_M_stealth 8 (some FieldType.int) ∈ tbl := tb_m (i := 1042) (by decide +kernel) rfl
abbrev b_M_sum : ByteArray := prog_10_method_50_code
theorem cw_M_sum : Cond.code y_M_sum b_M_sum 3 (some FieldType.int) ∈ tbl := tb_m (i := 974) (by decide +kernel) rfl
abbrev b_M_swapLine : ByteArray := prog_10_method_53_code
theorem cw_M_swapLine : Cond.code y_M_swapLine b_M_swapLine 4 (none) ∈ tbl := tb_m (i := 1000) (by decide +kernel) rfl
abbrev b_M_thickness : ByteArray := prog_10_method_34_code
theorem cw_M_thickness : Cond.code y_M_thickness b_M_thickness 4 (some FieldType.int) ∈ tbl := tb_m (i := 920) (by decide +kernel) rfl
abbrev b_M_trace : ByteArray := prog_10_method_84_code
theorem cw_M_trace : Cond.code y_M_trace b_M_trace 2 (some FieldType.int) ∈ tbl := tb_m (i := 1119) (by decide +kernel) rfl
abbrev b_M_undo : ByteArray := prog_10_method_30_code
theorem cw_M_undo : Cond.code y_M_undo b_M_undo 1 (some FieldType.int) ∈ tbl := tb_m (i := 876) (by decide +kernel) rfl
abbrev b_M_weighs : ByteArray := prog_10_method_32_code
theorem cw_M_weighs : Cond.code y_M_weighs b_M_weighs 4 (some FieldType.int) ∈ tbl := tb_m (i := 898) (by decide +kernel) rfl
abbrev b_M_well : ByteArray := prog_10_method_7_code
theorem cw_M_well : Cond.code y_M_well b_M_well 2 (some FieldType.int) ∈ tbl := tb_m (i := 793) (by decide +kernel) rfl
abbrev b_O_extend : ByteArray := prog_5_method_3_code
theorem cw_O_extend : Cond.code y_O_extend b_O_extend 7 (none) ∈ tbl := tb_m (i := 567) (by decide +kernel) rfl
abbrev b_O_init : ByteArray := prog_5_method_1_code
theorem cw_O_init : Cond.code y_O_init b_O_init 2 (none) ∈ tbl := tb_m (i := 220) (by decide +kernel) rfl
abbrev b_O_search : ByteArray := prog_5_method_2_code
theorem cw_O_search : Cond.code y_O_search b_O_search 3 (none) ∈ tbl := tb_m (i := 562) (by decide +kernel) rfl
abbrev b_P_add : ByteArray := prog_7_method_2_code
theorem cw_P_add : Cond.code y_P_add b_P_add 2 (some FieldType.boolean) ∈ tbl := tb_m (i := 362) (by decide +kernel) rfl
abbrev b_P_byteAt : ByteArray := prog_7_method_12_code
theorem cw_P_byteAt : Cond.code y_P_byteAt b_P_byteAt 2 (some FieldType.int) ∈ tbl := tb_m (i := 387) (by decide +kernel) rfl
abbrev b_P_fail : ByteArray := prog_7_method_13_code
theorem cw_P_fail : Cond.code y_P_fail b_P_fail 2 (some FieldType.boolean) ∈ tbl := tb_m (i := 391) (by decide +kernel) rfl
abbrev b_P_init : ByteArray := prog_7_method_1_code
theorem cw_P_init : Cond.code y_P_init b_P_init 1 (none) ∈ tbl := tb_m (i := 94) (by decide +kernel) rfl
abbrev b_P_isFigure : ByteArray := prog_7_method_11_code
theorem cw_P_isFigure : Cond.code y_P_isFigure b_P_isFigure 1 (some FieldType.boolean) ∈ tbl := tb_m (i := 398) (by decide +kernel) rfl
abbrev b_P_kindToldBy : ByteArray := prog_7_method_8_code
theorem cw_P_kindToldBy : Cond.code y_P_kindToldBy b_P_kindToldBy 1 (some FieldType.int) ∈ tbl := tb_m (i := 410) (by decide +kernel) rfl
abbrev b_P_readFigures : ByteArray := prog_7_method_7_code
theorem cw_P_readFigures : Cond.code y_P_readFigures b_P_readFigures 2 (some FieldType.boolean) ∈ tbl := tb_m (i := 414) (by decide +kernel) rfl
abbrev b_P_readInto : ByteArray := prog_7_method_3_code
theorem cw_P_readInto : Cond.code y_P_readInto b_P_readInto 2 (some FieldType.boolean) ∈ tbl := tb_m (i := 371) (by decide +kernel) rfl
abbrev b_P_readLaw : ByteArray := prog_7_method_4_code
theorem cw_P_readLaw : Cond.code y_P_readLaw b_P_readLaw 2 (some FieldType.boolean) ∈ tbl := tb_m (i := 379) (by decide +kernel) rfl
abbrev b_P_readLetter : ByteArray := prog_7_method_6_code
theorem cw_P_readLetter : Cond.code y_P_readLetter b_P_readLetter 4 (some FieldType.boolean) ∈ tbl := tb_m (i := 407) (by decide +kernel) rfl
abbrev b_P_readLetters : ByteArray := prog_7_method_5_code
theorem cw_P_readLetters : Cond.code y_P_readLetters b_P_readLetters 3 (some FieldType.boolean) ∈ tbl := tb_m (i := 403) (by decide +kernel) rfl
abbrev b_P_readNumber : ByteArray := prog_7_method_10_code
theorem cw_P_readNumber : Cond.code y_P_readNumber b_P_readNumber 6 (some FieldType.boolean) ∈ tbl := tb_m (i := 395) (by decide +kernel) rfl
abbrev b_P_readSign : ByteArray := prog_7_method_9_code
theorem cw_P_readSign : Cond.code y_P_readSign b_P_readSign 2 (some FieldType.boolean) ∈ tbl := tb_m (i := 383) (by decide +kernel) rfl
abbrev b_R_hasPlaces : ByteArray := prog_6_method_3_code
theorem cw_R_hasPlaces : Cond.code y_R_hasPlaces b_R_hasPlaces 3 (some FieldType.boolean) ∈ tbl := tb_m (i := 338) (by decide +kernel) rfl
abbrev b_R_init : ByteArray := prog_6_method_1_code
theorem cw_R_init : Cond.code y_R_init b_R_init 1 (none) ∈ tbl := tb_m (i := 257) (by decide +kernel) rfl
abbrev b_R_itemAt : ByteArray := prog_6_method_5_code
theorem cw_R_itemAt : Cond.code y_R_itemAt b_R_itemAt 2 (some FieldType.int) ∈ tbl := tb_m (i := 620) (by decide +kernel) rfl
abbrev b_R_lay : ByteArray := prog_6_method_2_code
theorem cw_R_lay : Cond.code y_R_lay b_R_lay 3 (none) ∈ tbl := tb_m (i := 323) (by decide +kernel) rfl
abbrev b_R_put : ByteArray := prog_6_method_4_code
theorem cw_R_put : Cond.code y_R_put b_R_put 4 (some FieldType.int) ∈ tbl := tb_m (i := 342) (by decide +kernel) rfl
abbrev b_T_init : ByteArray := prog_8_method_1_code
theorem cw_T_init : Cond.code y_T_init b_T_init 1 (none) ∈ tbl := tb_m (i := 243) (by decide +kernel) rfl
abbrev b_T_leave : ByteArray := prog_8_method_2_code
theorem cw_T_leave : Cond.code y_T_leave b_T_leave 2 (none) ∈ tbl := tb_m (i := 693) (by decide +kernel) rfl
abbrev b_X_answer : ByteArray := prog_1_method_10_code
theorem cw_X_answer : Cond.code y_X_answer b_X_answer 2 (some FieldType.int) ∈ tbl := tb_m (i := 495) (by decide +kernel) rfl
abbrev b_X_as : ByteArray := prog_1_method_29_code
theorem cw_X_as : Cond.code y_X_as b_X_as 3 (some FieldType.int) ∈ tbl := tb_m (i := 667) (by decide +kernel) rfl
abbrev b_X_ask : ByteArray := prog_1_method_30_code
theorem cw_X_ask : Cond.code y_X_ask b_X_ask 4 (some FieldType.int) ∈ tbl := tb_m (i := 679) (by decide +kernel) rfl
abbrev b_X_begin : ByteArray := prog_1_method_54_code
theorem cw_X_begin : Cond.code y_X_begin b_X_begin 6 (some FieldType.int) ∈ tbl := tb_m (i := 689) (by decide +kernel) rfl
abbrev b_X_behind : ByteArray := prog_1_method_17_code
theorem cw_X_behind : Cond.code y_X_behind b_X_behind 3 (some FieldType.int) ∈ tbl := tb_m (i := 548) (by decide +kernel) rfl
abbrev b_X_bodyOf : ByteArray := prog_1_method_53_code
theorem cw_X_bodyOf : Cond.code y_X_bodyOf b_X_bodyOf 3 (some FieldType.int) ∈ tbl := tb_m (i := 682) (by decide +kernel) rfl
abbrev b_X_burden : ByteArray := prog_1_method_15_code
theorem cw_X_burden : Cond.code y_X_burden b_X_burden 3 (some FieldType.int) ∈ tbl := tb_m (i := 531) (by decide +kernel) rfl
abbrev b_X_copy : ByteArray := prog_1_method_4_code
theorem cw_X_copy : Cond.code y_X_copy b_X_copy 8 (some FieldType.int) ∈ tbl := tb_m (i := 347) (by decide +kernel) rfl
abbrev b_X_count : ByteArray := prog_1_method_32_code
theorem cw_X_count : Cond.code y_X_count b_X_count 2 (some FieldType.int) ∈ tbl := tb_m (i := 701) (by decide +kernel) rfl
abbrev b_X_days : ByteArray := prog_1_method_9_code
theorem cw_X_days : Cond.code y_X_days b_X_days 3 (some FieldType.int) ∈ tbl := tb_m (i := 435) (by decide +kernel) rfl
abbrev b_X_drawn : ByteArray := prog_1_method_25_code
theorem cw_X_drawn : Cond.code y_X_drawn b_X_drawn 8 (some FieldType.int) ∈ tbl := tb_m (i := 641) (by decide +kernel) rfl
abbrev b_X_dread : ByteArray := prog_1_method_12_code
theorem cw_X_dread : Cond.code y_X_dread b_X_dread 4 (some FieldType.int) ∈ tbl := tb_m (i := 514) (by decide +kernel) rfl
abbrev b_X_drop : ByteArray := prog_1_method_5_code
theorem cw_X_drop : Cond.code y_X_drop b_X_drop 2 (some FieldType.int) ∈ tbl := tb_m (i := 354) (by decide +kernel) rfl
abbrev b_X_ease : ByteArray := prog_1_method_21_code
theorem cw_X_ease : Cond.code y_X_ease b_X_ease 7 (some FieldType.int) ∈ tbl := tb_m (i := 591) (by decide +kernel) rfl
abbrev b_X_falls : ByteArray := prog_1_method_18_code
theorem cw_X_falls : Cond.code y_X_falls b_X_falls 5 (some FieldType.int) ∈ tbl := tb_m (i := 552) (by decide +kernel) rfl
abbrev b_X_fault : ByteArray := prog_1_method_8_code
theorem cw_X_fault : Cond.code y_X_fault b_X_fault 1 (some FieldType.int) ∈ tbl := tb_m (i := 431) (by decide +kernel) rfl
abbrev b_X_feed : ByteArray := prog_1_method_6_code
theorem cw_X_feed : Cond.code y_X_feed b_X_feed 2 (some FieldType.int) ∈ tbl := tb_m (i := 358) (by decide +kernel) rfl
abbrev b_X_fits : ByteArray := prog_1_method_22_code
theorem cw_X_fits : Cond.code y_X_fits b_X_fits 9 (some FieldType.int) ∈ tbl := tb_m (i := 599) (by decide +kernel) rfl
abbrev b_X_flawOf : ByteArray := prog_1_method_37_code
theorem cw_X_flawOf : Cond.code y_X_flawOf b_X_flawOf 3 (some FieldType.int) ∈ tbl := tb_m (i := 602) (by decide +kernel) rfl
abbrev b_X_foretell : ByteArray := prog_1_method_41_code
theorem cw_X_foretell : Cond.code y_X_foretell b_X_foretell 3 (some (FieldType.object "ClockPost$House")) ∈ tbl := tb_m (i := 539) (by decide +kernel) rfl
abbrev b_X_foretellWithout : ByteArray := prog_1_method_42_code
theorem cw_X_foretellWithout : Cond.code y_X_foretellWithout b_X_foretellWithout 2 (none) ∈ tbl := tb_m (i := 587) (by decide +kernel) rfl
abbrev b_X_found : ByteArray := prog_1_method_38_code
theorem cw_X_found : Cond.code y_X_found b_X_found 2 (some FieldType.int) ∈ tbl := tb_m (i := 318) (by decide +kernel) rfl
abbrev b_X_foundNothing : ByteArray := prog_1_method_39_code
theorem cw_X_foundNothing : Cond.code y_X_foundNothing b_X_foundNothing 2 (some FieldType.int) ∈ tbl := tb_m (i := 330) (by decide +kernel) rfl
abbrev b_X_greatestShared : ByteArray := prog_1_method_50_code
theorem cw_X_greatestShared : Cond.code y_X_greatestShared b_X_greatestShared 6 (some FieldType.int) ∈ tbl := tb_m (i := 634) (by decide +kernel) rfl
abbrev b_X_hold : ByteArray := prog_1_method_20_code
theorem cw_X_hold : Cond.code y_X_hold b_X_hold 6 (some FieldType.int) ∈ tbl := tb_m (i := 575) (by decide +kernel) rfl
abbrev b_X_house : ByteArray := prog_1_method_7_code
theorem cw_X_house : Cond.code y_X_house b_X_house 2 (some FieldType.int) ∈ tbl := tb_m (i := 367) (by decide +kernel) rfl
abbrev b_X_image : ByteArray := prog_1_method_26_code
theorem cw_X_image : Cond.code y_X_image b_X_image 2 (some FieldType.int) ∈ tbl := tb_m (i := 655) (by decide +kernel) rfl
abbrev b_X_init : ByteArray := prog_1_method_1_code
theorem cw_X_init : Cond.code y_X_init b_X_init 2 (none) ∈ tbl := tb_m (i := 84) (by decide +kernel) rfl
abbrev b_X_isOfKind : ByteArray := prog_1_method_51_code
theorem cw_X_isOfKind : Cond.code y_X_isOfKind b_X_isOfKind 2 (some FieldType.boolean) ∈ tbl := tb_m (i := 670) (by decide +kernel) rfl
abbrev b_X_isRow : ByteArray := prog_1_method_35_code
theorem cw_X_isRow : Cond.code y_X_isRow b_X_isRow 1 (some FieldType.boolean) ∈ tbl := tb_m (i := 310) (by decide +kernel) rfl
abbrev b_X_isSmallerPart : ByteArray := prog_1_method_43_code
theorem cw_X_isSmallerPart : Cond.code y_X_isSmallerPart b_X_isSmallerPart 3 (some FieldType.boolean) ∈ tbl := tb_m (i := 579) (by decide +kernel) rfl
abbrev b_X_isToldBy : ByteArray := prog_1_method_46_code
theorem cw_X_isToldBy : Cond.code y_X_isToldBy b_X_isToldBy 5 (some FieldType.boolean) ∈ tbl := tb_m (i := 616) (by decide +kernel) rfl
abbrev b_X_isWithin : ByteArray := prog_1_method_34_code
theorem cw_X_isWithin : Cond.code y_X_isWithin b_X_isWithin 3 (some FieldType.boolean) ∈ tbl := tb_m (i := 313) (by decide +kernel) rfl
abbrev b_X_kind : ByteArray := prog_1_method_28_code
theorem cw_X_kind : Cond.code y_X_kind b_X_kind 2 (some FieldType.int) ∈ tbl := tb_m (i := 663) (by decide +kernel) rfl
abbrev b_X_leastTried : ByteArray := prog_1_method_47_code
theorem cw_X_leastTried : Cond.code y_X_leastTried b_X_leastTried 1 (some FieldType.int) ∈ tbl := tb_m (i := 605) (by decide +kernel) rfl
abbrev b_X_letter : ByteArray := prog_1_method_14_code
theorem cw_X_letter : Cond.code y_X_letter b_X_letter 4 (some FieldType.int) ∈ tbl := tb_m (i := 526) (by decide +kernel) rfl
abbrev b_X_lost : ByteArray := prog_1_method_24_code
theorem cw_X_lost : Cond.code y_X_lost b_X_lost 9 (some FieldType.int) ∈ tbl := tb_m (i := 628) (by decide +kernel) rfl
abbrev b_X_mostTried : ByteArray := prog_1_method_48_code
theorem cw_X_mostTried : Cond.code y_X_mostTried b_X_mostTried 1 (some FieldType.int) ∈ tbl := tb_m (i := 608) (by decide +kernel) rfl
abbrev b_X_nearestKind : ByteArray := prog_1_method_52_code
theorem cw_X_nearestKind : Cond.code y_X_nearestKind b_X_nearestKind 1 (some FieldType.int) ∈ tbl := tb_m (i := 673) (by decide +kernel) rfl
abbrev b_X_nothingFallsWithout : ByteArray := prog_1_method_44_code
theorem cw_X_nothingFallsWithout : Cond.code y_X_nothingFallsWithout b_X_nothingFallsWithout 4 (some FieldType.boolean) ∈ tbl := tb_m (i := 583) (by decide +kernel) rfl
abbrev b_X_order : ByteArray := prog_1_method_19_code
theorem cw_X_order : Cond.code y_X_order b_X_order 5 (some FieldType.int) ∈ tbl := tb_m (i := 557) (by decide +kernel) rfl
abbrev b_X_post : ByteArray := prog_1_method_11_code
theorem cw_X_post : Cond.code y_X_post b_X_post 2 (some FieldType.int) ∈ tbl := tb_m (i := 505) (by decide +kernel) rfl
abbrev b_X_power : ByteArray := prog_1_method_49_code
theorem cw_X_power : Cond.code y_X_power b_X_power 4 (some FieldType.int) ∈ tbl := tb_m (i := 631) (by decide +kernel) rfl
abbrev b_X_refusalOf : ByteArray := prog_1_method_36_code
theorem cw_X_refusalOf : Cond.code y_X_refusalOf b_X_refusalOf 2 (some FieldType.int) ∈ tbl := tb_m (i := 535) (by decide +kernel) rfl
abbrev b_X_restore : ByteArray := prog_1_method_27_code
theorem cw_X_restore : Cond.code y_X_restore b_X_restore 2 (some FieldType.int) ∈ tbl := tb_m (i := 659) (by decide +kernel) rfl
abbrev b_X_row : ByteArray := prog_1_method_2_code
theorem cw_X_row : Cond.code y_X_row b_X_row 4 (some FieldType.int) ∈ tbl := tb_m (i := 307) (by decide +kernel) rfl
abbrev b_X_rowsThere : ByteArray := prog_1_method_40_code
theorem cw_X_rowsThere : Cond.code y_X_rowsThere b_X_rowsThere 3 (some FieldType.int) ∈ tbl := tb_m (i := 705) (by decide +kernel) rfl
abbrev b_X_set : ByteArray := prog_1_method_3_code
theorem cw_X_set : Cond.code y_X_set b_X_set 4 (some FieldType.int) ∈ tbl := tb_m (i := 334) (by decide +kernel) rfl
abbrev b_X_status : ByteArray := prog_1_method_33_code
theorem cw_X_status : Cond.code y_X_status b_X_status 1 (some FieldType.int) ∈ tbl := tb_m (i := 709) (by decide +kernel) rfl
abbrev b_X_staysEasyWithout : ByteArray := prog_1_method_45_code
theorem cw_X_staysEasyWithout : Cond.code y_X_staysEasyWithout b_X_staysEasyWithout 5 (some FieldType.boolean) ∈ tbl := tb_m (i := 595) (by decide +kernel) rfl
abbrev b_X_stealth : ByteArray := prog_1_method_23_code
theorem cw_X_stealth : Cond.code y_X_stealth b_X_stealth 8 (some FieldType.int) ∈ tbl := tb_m (i := 624) (by decide +kernel) rfl
abbrev b_X_sum : ByteArray := prog_1_method_16_code
theorem cw_X_sum : Cond.code y_X_sum b_X_sum 3 (some FieldType.int) ∈ tbl := tb_m (i := 544) (by decide +kernel) rfl
abbrev b_X_trace : ByteArray := prog_1_method_31_code
theorem cw_X_trace : Cond.code y_X_trace b_X_trace 2 (some FieldType.int) ∈ tbl := tb_m (i := 697) (by decide +kernel) rfl
abbrev b_X_undo : ByteArray := prog_1_method_13_code
theorem cw_X_undo : Cond.code y_X_undo b_X_undo 1 (some FieldType.int) ∈ tbl := tb_m (i := 518) (by decide +kernel) rfl
theorem mo_P_init : mOk y_P_init 0 := ⟨⟨by decide +kernel, by decide +kernel, by decide +kernel⟩, tb_m (i := 68) (by decide +kernel) rfl⟩
theorem lm_X_17 : LkI "ClockPost" 17 y_P_init 0 := ⟨mo_P_init, Or.inr ⟨"ClockPost", by simp [nestL]⟩, rfl, tb_m (i := 93) (by decide +kernel) rfl⟩
theorem mo_H_init : mOk y_H_init 0 := ⟨⟨by decide +kernel, by decide +kernel, by decide +kernel⟩, tb_m (i := 69) (by decide +kernel) rfl⟩
theorem lm_X_24 : LkI "ClockPost" 24 y_H_init 0 := ⟨mo_H_init, Or.inl (tb_m (i := 118) (by decide +kernel) rfl), rfl, tb_m (i := 119) (by decide +kernel) rfl⟩
theorem mo_A_init : mOk y_A_init 0 := ⟨⟨by decide +kernel, by decide +kernel, by decide +kernel⟩, tb_m (i := 71) (by decide +kernel) rfl⟩
theorem lm_X_38 : LkI "ClockPost" 38 y_A_init 0 := ⟨mo_A_init, Or.inl (tb_m (i := 199) (by decide +kernel) rfl), rfl, tb_m (i := 200) (by decide +kernel) rfl⟩
theorem mo_O_init : mOk y_O_init 0 := ⟨⟨by decide +kernel, by decide +kernel, by decide +kernel⟩, tb_m (i := 72) (by decide +kernel) rfl⟩
theorem lm_X_45 : LkI "ClockPost" 45 y_O_init 0 := ⟨mo_O_init, Or.inl (tb_m (i := 218) (by decide +kernel) rfl), rfl, tb_m (i := 219) (by decide +kernel) rfl⟩
theorem mo_T_init : mOk y_T_init 0 := ⟨⟨by decide +kernel, by decide +kernel, by decide +kernel⟩, tb_m (i := 73) (by decide +kernel) rfl⟩
theorem lm_X_52 : LkI "ClockPost" 52 y_T_init 0 := ⟨mo_T_init, Or.inr ⟨"ClockPost", by simp [nestL]⟩, rfl, tb_m (i := 242) (by decide +kernel) rfl⟩
theorem mo_R_init : mOk y_R_init 0 := ⟨⟨by decide +kernel, by decide +kernel, by decide +kernel⟩, tb_m (i := 74) (by decide +kernel) rfl⟩
theorem lm_X_57 : LkI "ClockPost" 57 y_R_init 0 := ⟨mo_R_init, Or.inr ⟨"ClockPost", by simp [nestL]⟩, rfl, tb_m (i := 256) (by decide +kernel) rfl⟩
theorem mo_X_isRow : mOk y_X_isRow 1 := ⟨⟨by decide +kernel, by decide +kernel, by decide +kernel⟩, tb_m (i := 67) (by decide +kernel) rfl⟩
theorem lm_X_58 : LkS "ClockPost" 58 y_X_isRow 1 := ⟨mo_X_isRow, Or.inl (tb_m (i := 308) (by decide +kernel) rfl), tb_m (i := 309) (by decide +kernel) rfl⟩
theorem mo_X_isWithin : mOk y_X_isWithin 3 := ⟨⟨by decide +kernel, by decide +kernel, by decide +kernel⟩, tb_m (i := 67) (by decide +kernel) rfl⟩
theorem lm_X_62 : LkS "ClockPost" 62 y_X_isWithin 3 := ⟨mo_X_isWithin, Or.inl (tb_m (i := 311) (by decide +kernel) rfl), tb_m (i := 312) (by decide +kernel) rfl⟩
theorem mo_X_found : mOk y_X_found 1 := ⟨⟨by decide +kernel, by decide +kernel, by decide +kernel⟩, tb_m (i := 67) (by decide +kernel) rfl⟩
theorem lm_X_67 : LkV "ClockPost" 67 y_X_found 1 7 := ⟨mo_X_found, tb_m (i := 315) (by decide +kernel) rfl, tb_m (i := 317) (by decide +kernel) rfl, tb_m (i := 0) (by decide +kernel) rfl, _, rfl, rfl⟩
theorem mo_R_lay : mOk y_R_lay 2 := ⟨⟨by decide +kernel, by decide +kernel, by decide +kernel⟩, tb_m (i := 74) (by decide +kernel) rfl⟩
theorem lm_X_71 : LkV "ClockPost" 71 y_R_lay 2 1 := ⟨mo_R_lay, tb_m (i := 320) (by decide +kernel) rfl, tb_m (i := 321) (by decide +kernel) rfl, tb_m (i := 322) (by decide +kernel) rfl, _, rfl, rfl⟩
theorem mo_X_foundNothing : mOk y_X_foundNothing 1 := ⟨⟨by decide +kernel, by decide +kernel, by decide +kernel⟩, tb_m (i := 67) (by decide +kernel) rfl⟩
theorem lm_X_75 : LkV "ClockPost" 75 y_X_foundNothing 1 7 := ⟨mo_X_foundNothing, tb_m (i := 327) (by decide +kernel) rfl, tb_m (i := 329) (by decide +kernel) rfl, tb_m (i := 1) (by decide +kernel) rfl, _, rfl, rfl⟩
theorem mo_R_hasPlaces : mOk y_R_hasPlaces 2 := ⟨⟨by decide +kernel, by decide +kernel, by decide +kernel⟩, tb_m (i := 74) (by decide +kernel) rfl⟩
theorem lm_X_82 : LkV "ClockPost" 82 y_R_hasPlaces 2 1 := ⟨mo_R_hasPlaces, tb_m (i := 335) (by decide +kernel) rfl, tb_m (i := 336) (by decide +kernel) rfl, tb_m (i := 337) (by decide +kernel) rfl, _, rfl, rfl⟩
theorem mo_R_put : mOk y_R_put 2 := ⟨⟨by decide +kernel, by decide +kernel, by decide +kernel⟩, tb_m (i := 74) (by decide +kernel) rfl⟩
theorem lm_X_86 : LkV "ClockPost" 86 y_R_put 2 1 := ⟨mo_R_put, tb_m (i := 339) (by decide +kernel) rfl, tb_m (i := 340) (by decide +kernel) rfl, tb_m (i := 341) (by decide +kernel) rfl, _, rfl, rfl⟩
theorem mo_P_add : mOk y_P_add 1 := ⟨⟨by decide +kernel, by decide +kernel, by decide +kernel⟩, tb_m (i := 68) (by decide +kernel) rfl⟩
theorem lm_X_107 : LkV "ClockPost" 107 y_P_add 1 6 := ⟨mo_P_add, tb_m (i := 359) (by decide +kernel) rfl, tb_m (i := 360) (by decide +kernel) rfl, tb_m (i := 361) (by decide +kernel) rfl, _, rfl, rfl⟩
theorem mo_P_readInto : mOk y_P_readInto 1 := ⟨⟨by decide +kernel, by decide +kernel, by decide +kernel⟩, tb_m (i := 68) (by decide +kernel) rfl⟩
theorem lm_X_114 : LkV "ClockPost" 114 y_P_readInto 1 6 := ⟨mo_P_readInto, tb_m (i := 368) (by decide +kernel) rfl, tb_m (i := 369) (by decide +kernel) rfl, tb_m (i := 370) (by decide +kernel) rfl, _, rfl, rfl⟩
theorem mo_H_become : mOk y_H_become 1 := ⟨⟨by decide +kernel, by decide +kernel, by decide +kernel⟩, tb_m (i := 69) (by decide +kernel) rfl⟩
theorem lm_X_122 : LkV "ClockPost" 122 y_H_become 1 3 := ⟨mo_H_become, tb_m (i := 416) (by decide +kernel) rfl, tb_m (i := 417) (by decide +kernel) rfl, tb_m (i := 418) (by decide +kernel) rfl, _, rfl, rfl⟩
theorem mo_A_forgetAll : mOk y_A_forgetAll 0 := ⟨⟨by decide +kernel, by decide +kernel, by decide +kernel⟩, tb_m (i := 71) (by decide +kernel) rfl⟩
theorem lm_X_126 : LkV "ClockPost" 126 y_A_forgetAll 0 4 := ⟨mo_A_forgetAll, tb_m (i := 424) (by decide +kernel) rfl, tb_m (i := 425) (by decide +kernel) rfl, tb_m (i := 426) (by decide +kernel) rfl, _, rfl, rfl⟩
theorem mo_A_keep : mOk y_A_keep 1 := ⟨⟨by decide +kernel, by decide +kernel, by decide +kernel⟩, tb_m (i := 71) (by decide +kernel) rfl⟩
theorem lm_X_142 : LkV "ClockPost" 142 y_A_keep 1 4 := ⟨mo_A_keep, tb_m (i := 437) (by decide +kernel) rfl, tb_m (i := 438) (by decide +kernel) rfl, tb_m (i := 439) (by decide +kernel) rfl, _, rfl, rfl⟩
theorem mo_H_passDay : mOk y_H_passDay 0 := ⟨⟨by decide +kernel, by decide +kernel, by decide +kernel⟩, tb_m (i := 69) (by decide +kernel) rfl⟩
theorem lm_X_145 : LkV "ClockPost" 145 y_H_passDay 0 3 := ⟨mo_H_passDay, tb_m (i := 442) (by decide +kernel) rfl, tb_m (i := 443) (by decide +kernel) rfl, tb_m (i := 444) (by decide +kernel) rfl, _, rfl, rfl⟩
theorem mo_H_hasLetter : mOk y_H_hasLetter 1 := ⟨⟨by decide +kernel, by decide +kernel, by decide +kernel⟩, tb_m (i := 69) (by decide +kernel) rfl⟩
theorem lm_X_152 : LkV "ClockPost" 152 y_H_hasLetter 1 3 := ⟨mo_H_hasLetter, tb_m (i := 496) (by decide +kernel) rfl, tb_m (i := 459) (by decide +kernel) rfl, tb_m (i := 460) (by decide +kernel) rfl, _, rfl, rfl⟩
theorem mo_H_isBehind : mOk y_H_isBehind 1 := ⟨⟨by decide +kernel, by decide +kernel, by decide +kernel⟩, tb_m (i := 69) (by decide +kernel) rfl⟩
theorem lm_X_155 : LkV "ClockPost" 155 y_H_isBehind 1 3 := ⟨mo_H_isBehind, tb_m (i := 497) (by decide +kernel) rfl, tb_m (i := 455) (by decide +kernel) rfl, tb_m (i := 456) (by decide +kernel) rfl, _, rfl, rfl⟩
theorem mo_H_answerOne : mOk y_H_answerOne 1 := ⟨⟨by decide +kernel, by decide +kernel, by decide +kernel⟩, tb_m (i := 69) (by decide +kernel) rfl⟩
theorem lm_X_158 : LkV "ClockPost" 158 y_H_answerOne 1 3 := ⟨mo_H_answerOne, tb_m (i := 498) (by decide +kernel) rfl, tb_m (i := 499) (by decide +kernel) rfl, tb_m (i := 500) (by decide +kernel) rfl, _, rfl, rfl⟩
theorem mo_H_putBehind : mOk y_H_putBehind 1 := ⟨⟨by decide +kernel, by decide +kernel, by decide +kernel⟩, tb_m (i := 69) (by decide +kernel) rfl⟩
theorem lm_X_165 : LkV "ClockPost" 165 y_H_putBehind 1 3 := ⟨mo_H_putBehind, tb_m (i := 506) (by decide +kernel) rfl, tb_m (i := 507) (by decide +kernel) rfl, tb_m (i := 508) (by decide +kernel) rfl, _, rfl, rfl⟩
theorem mo_H_thickness : mOk y_H_thickness 0 := ⟨⟨by decide +kernel, by decide +kernel, by decide +kernel⟩, tb_m (i := 69) (by decide +kernel) rfl⟩
theorem lm_X_168 : LkV "ClockPost" 168 y_H_thickness 0 3 := ⟨mo_H_thickness, tb_m (i := 510) (by decide +kernel) rfl, tb_m (i := 477) (by decide +kernel) rfl, tb_m (i := 478) (by decide +kernel) rfl, _, rfl, rfl⟩
theorem mo_A_takeBack : mOk y_A_takeBack 1 := ⟨⟨by decide +kernel, by decide +kernel, by decide +kernel⟩, tb_m (i := 71) (by decide +kernel) rfl⟩
theorem lm_X_180 : LkV "ClockPost" 180 y_A_takeBack 1 4 := ⟨mo_A_takeBack, tb_m (i := 519) (by decide +kernel) rfl, tb_m (i := 520) (by decide +kernel) rfl, tb_m (i := 521) (by decide +kernel) rfl, _, rfl, rfl⟩
theorem mo_H_weightOf : mOk y_H_weightOf 1 := ⟨⟨by decide +kernel, by decide +kernel, by decide +kernel⟩, tb_m (i := 69) (by decide +kernel) rfl⟩
theorem lm_X_195 : LkV "ClockPost" 195 y_H_weightOf 1 3 := ⟨mo_H_weightOf, tb_m (i := 527) (by decide +kernel) rfl, tb_m (i := 451) (by decide +kernel) rfl, tb_m (i := 452) (by decide +kernel) rfl, _, rfl, rfl⟩
theorem mo_X_refusalOf : mOk y_X_refusalOf 1 := ⟨⟨by decide +kernel, by decide +kernel, by decide +kernel⟩, tb_m (i := 67) (by decide +kernel) rfl⟩
theorem lm_X_198 : LkV "ClockPost" 198 y_X_refusalOf 1 7 := ⟨mo_X_refusalOf, tb_m (i := 532) (by decide +kernel) rfl, tb_m (i := 534) (by decide +kernel) rfl, tb_m (i := 12) (by decide +kernel) rfl, _, rfl, rfl⟩
theorem mo_X_foretell : mOk y_X_foretell 1 := ⟨⟨by decide +kernel, by decide +kernel, by decide +kernel⟩, tb_m (i := 67) (by decide +kernel) rfl⟩
theorem lm_X_202 : LkV "ClockPost" 202 y_X_foretell 1 7 := ⟨mo_X_foretell, tb_m (i := 536) (by decide +kernel) rfl, tb_m (i := 538) (by decide +kernel) rfl, tb_m (i := 13) (by decide +kernel) rfl, _, rfl, rfl⟩
theorem mo_H_weight : mOk y_H_weight 0 := ⟨⟨by decide +kernel, by decide +kernel, by decide +kernel⟩, tb_m (i := 69) (by decide +kernel) rfl⟩
theorem lm_X_206 : LkV "ClockPost" 206 y_H_weight 0 3 := ⟨mo_H_weight, tb_m (i := 540) (by decide +kernel) rfl, tb_m (i := 447) (by decide +kernel) rfl, tb_m (i := 448) (by decide +kernel) rfl, _, rfl, rfl⟩
theorem mo_JI_bitCount : mOk y_JI_bitCount 1 := ⟨⟨by decide +kernel, by decide +kernel, by decide +kernel⟩, tb_m (i := 78) (by decide +kernel) rfl⟩
theorem lm_X_213 : LkS "ClockPost" 213 y_JI_bitCount 1 := ⟨mo_JI_bitCount, Or.inl (tb_m (i := 558) (by decide +kernel) rfl), tb_m (i := 463) (by decide +kernel) rfl⟩
theorem mo_O_search : mOk y_O_search 2 := ⟨⟨by decide +kernel, by decide +kernel, by decide +kernel⟩, tb_m (i := 72) (by decide +kernel) rfl⟩
theorem lm_X_218 : LkV "ClockPost" 218 y_O_search 2 5 := ⟨mo_O_search, tb_m (i := 559) (by decide +kernel) rfl, tb_m (i := 560) (by decide +kernel) rfl, tb_m (i := 561) (by decide +kernel) rfl, _, rfl, rfl⟩
theorem mo_X_isSmallerPart : mOk y_X_isSmallerPart 2 := ⟨⟨by decide +kernel, by decide +kernel, by decide +kernel⟩, tb_m (i := 67) (by decide +kernel) rfl⟩
theorem lm_X_228 : LkV "ClockPost" 228 y_X_isSmallerPart 2 7 := ⟨mo_X_isSmallerPart, tb_m (i := 576) (by decide +kernel) rfl, tb_m (i := 578) (by decide +kernel) rfl, tb_m (i := 14) (by decide +kernel) rfl, _, rfl, rfl⟩
theorem mo_X_nothingFallsWithout : mOk y_X_nothingFallsWithout 2 := ⟨⟨by decide +kernel, by decide +kernel, by decide +kernel⟩, tb_m (i := 67) (by decide +kernel) rfl⟩
theorem lm_X_231 : LkV "ClockPost" 231 y_X_nothingFallsWithout 2 7 := ⟨mo_X_nothingFallsWithout, tb_m (i := 580) (by decide +kernel) rfl, tb_m (i := 582) (by decide +kernel) rfl, tb_m (i := 15) (by decide +kernel) rfl, _, rfl, rfl⟩
theorem mo_X_staysEasyWithout : mOk y_X_staysEasyWithout 3 := ⟨⟨by decide +kernel, by decide +kernel, by decide +kernel⟩, tb_m (i := 67) (by decide +kernel) rfl⟩
theorem lm_X_234 : LkV "ClockPost" 234 y_X_staysEasyWithout 3 7 := ⟨mo_X_staysEasyWithout, tb_m (i := 592) (by decide +kernel) rfl, tb_m (i := 594) (by decide +kernel) rfl, tb_m (i := 17) (by decide +kernel) rfl, _, rfl, rfl⟩
theorem mo_X_flawOf : mOk y_X_flawOf 3 := ⟨⟨by decide +kernel, by decide +kernel, by decide +kernel⟩, tb_m (i := 67) (by decide +kernel) rfl⟩
theorem lm_X_237 : LkS "ClockPost" 237 y_X_flawOf 3 := ⟨mo_X_flawOf, Or.inl (tb_m (i := 600) (by decide +kernel) rfl), tb_m (i := 601) (by decide +kernel) rfl⟩
theorem mo_X_leastTried : mOk y_X_leastTried 1 := ⟨⟨by decide +kernel, by decide +kernel, by decide +kernel⟩, tb_m (i := 67) (by decide +kernel) rfl⟩
theorem lm_X_241 : LkS "ClockPost" 241 y_X_leastTried 1 := ⟨mo_X_leastTried, Or.inl (tb_m (i := 603) (by decide +kernel) rfl), tb_m (i := 604) (by decide +kernel) rfl⟩
theorem mo_X_mostTried : mOk y_X_mostTried 1 := ⟨⟨by decide +kernel, by decide +kernel, by decide +kernel⟩, tb_m (i := 67) (by decide +kernel) rfl⟩
theorem lm_X_244 : LkS "ClockPost" 244 y_X_mostTried 1 := ⟨mo_X_mostTried, Or.inl (tb_m (i := 606) (by decide +kernel) rfl), tb_m (i := 607) (by decide +kernel) rfl⟩
theorem mo_L_change : mOk y_L_change 2 := ⟨⟨by decide +kernel, by decide +kernel, by decide +kernel⟩, tb_m (i := 70) (by decide +kernel) rfl⟩
theorem lm_X_247 : LkV "ClockPost" 247 y_L_change 2 0 := ⟨mo_L_change, tb_m (i := 609) (by decide +kernel) rfl, tb_m (i := 610) (by decide +kernel) rfl, tb_m (i := 611) (by decide +kernel) rfl, _, rfl, rfl⟩
theorem mo_X_isToldBy : mOk y_X_isToldBy 3 := ⟨⟨by decide +kernel, by decide +kernel, by decide +kernel⟩, tb_m (i := 67) (by decide +kernel) rfl⟩
theorem lm_X_250 : LkV "ClockPost" 250 y_X_isToldBy 3 7 := ⟨mo_X_isToldBy, tb_m (i := 613) (by decide +kernel) rfl, tb_m (i := 615) (by decide +kernel) rfl, tb_m (i := 18) (by decide +kernel) rfl, _, rfl, rfl⟩
theorem mo_X_foretellWithout : mOk y_X_foretellWithout 1 := ⟨⟨by decide +kernel, by decide +kernel, by decide +kernel⟩, tb_m (i := 67) (by decide +kernel) rfl⟩
theorem lm_X_254 : LkV "ClockPost" 254 y_X_foretellWithout 1 7 := ⟨mo_X_foretellWithout, tb_m (i := 584) (by decide +kernel) rfl, tb_m (i := 586) (by decide +kernel) rfl, tb_m (i := 16) (by decide +kernel) rfl, _, rfl, rfl⟩
theorem mo_X_power : mOk y_X_power 2 := ⟨⟨by decide +kernel, by decide +kernel, by decide +kernel⟩, tb_m (i := 67) (by decide +kernel) rfl⟩
theorem lm_X_257 : LkS "ClockPost" 257 y_X_power 2 := ⟨mo_X_power, Or.inl (tb_m (i := 629) (by decide +kernel) rfl), tb_m (i := 630) (by decide +kernel) rfl⟩
theorem mo_X_greatestShared : mOk y_X_greatestShared 2 := ⟨⟨by decide +kernel, by decide +kernel, by decide +kernel⟩, tb_m (i := 67) (by decide +kernel) rfl⟩
theorem lm_X_260 : LkS "ClockPost" 260 y_X_greatestShared 2 := ⟨mo_X_greatestShared, Or.inl (tb_m (i := 632) (by decide +kernel) rfl), tb_m (i := 633) (by decide +kernel) rfl⟩
theorem mo_H_takeDraw : mOk y_H_takeDraw 1 := ⟨⟨by decide +kernel, by decide +kernel, by decide +kernel⟩, tb_m (i := 69) (by decide +kernel) rfl⟩
theorem lm_X_273 : LkV "ClockPost" 273 y_H_takeDraw 1 3 := ⟨mo_H_takeDraw, tb_m (i := 645) (by decide +kernel) rfl, tb_m (i := 646) (by decide +kernel) rfl, tb_m (i := 647) (by decide +kernel) rfl, _, rfl, rfl⟩
theorem mo_X_isOfKind : mOk y_X_isOfKind 2 := ⟨⟨by decide +kernel, by decide +kernel, by decide +kernel⟩, tb_m (i := 67) (by decide +kernel) rfl⟩
theorem lm_X_280 : LkS "ClockPost" 280 y_X_isOfKind 2 := ⟨mo_X_isOfKind, Or.inl (tb_m (i := 668) (by decide +kernel) rfl), tb_m (i := 669) (by decide +kernel) rfl⟩
theorem mo_X_bodyOf : mOk y_X_bodyOf 2 := ⟨⟨by decide +kernel, by decide +kernel, by decide +kernel⟩, tb_m (i := 67) (by decide +kernel) rfl⟩
theorem lm_X_284 : LkS "ClockPost" 284 y_X_bodyOf 2 := ⟨mo_X_bodyOf, Or.inl (tb_m (i := 680) (by decide +kernel) rfl), tb_m (i := 681) (by decide +kernel) rfl⟩
theorem mo_X_begin : mOk y_X_begin 5 := ⟨⟨by decide +kernel, by decide +kernel, by decide +kernel⟩, tb_m (i := 67) (by decide +kernel) rfl⟩
theorem lm_X_287 : LkS "ClockPost" 287 y_X_begin 5 := ⟨mo_X_begin, Or.inl (tb_m (i := 687) (by decide +kernel) rfl), tb_m (i := 688) (by decide +kernel) rfl⟩
theorem mo_X_rowsThere : mOk y_X_rowsThere 0 := ⟨⟨by decide +kernel, by decide +kernel, by decide +kernel⟩, tb_m (i := 67) (by decide +kernel) rfl⟩
theorem lm_X_294 : LkV "ClockPost" 294 y_X_rowsThere 0 7 := ⟨mo_X_rowsThere, tb_m (i := 702) (by decide +kernel) rfl, tb_m (i := 704) (by decide +kernel) rfl, tb_m (i := 19) (by decide +kernel) rfl, _, rfl, rfl⟩
theorem mo_R_itemAt : mOk y_R_itemAt 1 := ⟨⟨by decide +kernel, by decide +kernel, by decide +kernel⟩, tb_m (i := 74) (by decide +kernel) rfl⟩
theorem lm_X_304 : LkV "ClockPost" 304 y_R_itemAt 1 1 := ⟨mo_R_itemAt, tb_m (i := 617) (by decide +kernel) rfl, tb_m (i := 618) (by decide +kernel) rfl, tb_m (i := 619) (by decide +kernel) rfl, _, rfl, rfl⟩
theorem mo_X_nearestKind : mOk y_X_nearestKind 1 := ⟨⟨by decide +kernel, by decide +kernel, by decide +kernel⟩, tb_m (i := 67) (by decide +kernel) rfl⟩
theorem lm_X_307 : LkS "ClockPost" 307 y_X_nearestKind 1 := ⟨mo_X_nearestKind, Or.inl (tb_m (i := 671) (by decide +kernel) rfl), tb_m (i := 672) (by decide +kernel) rfl⟩
theorem mo_T_leave : mOk y_T_leave 1 := ⟨⟨by decide +kernel, by decide +kernel, by decide +kernel⟩, tb_m (i := 73) (by decide +kernel) rfl⟩
theorem lm_X_319 : LkV "ClockPost" 319 y_T_leave 1 2 := ⟨mo_T_leave, tb_m (i := 690) (by decide +kernel) rfl, tb_m (i := 691) (by decide +kernel) rfl, tb_m (i := 692) (by decide +kernel) rfl, _, rfl, rfl⟩
theorem lm_A_17 : LkI "ClockPost$Acts" 17 y_H_init 0 := ⟨mo_H_init, Or.inl (tb_m (i := 204) (by decide +kernel) rfl), rfl, tb_m (i := 119) (by decide +kernel) rfl⟩
theorem lm_A_25 : LkV "ClockPost$Acts" 25 y_H_become 1 3 := ⟨mo_H_become, tb_m (i := 441) (by decide +kernel) rfl, tb_m (i := 417) (by decide +kernel) rfl, tb_m (i := 418) (by decide +kernel) rfl, _, rfl, rfl⟩
theorem mo_L_init : mOk y_L_init 0 := ⟨⟨by decide +kernel, by decide +kernel, by decide +kernel⟩, tb_m (i := 70) (by decide +kernel) rfl⟩
theorem lm_H_17 : LkI "ClockPost$House" 17 y_L_init 0 := ⟨mo_L_init, Or.inr ⟨"ClockPost", by simp [nestL]⟩, rfl, tb_m (i := 126) (by decide +kernel) rfl⟩
theorem mo_L_become : mOk y_L_become 1 := ⟨⟨by decide +kernel, by decide +kernel, by decide +kernel⟩, tb_m (i := 70) (by decide +kernel) rfl⟩
theorem lm_H_41 : LkV "ClockPost$House" 41 y_L_become 1 0 := ⟨mo_L_become, tb_m (i := 420) (by decide +kernel) rfl, tb_m (i := 421) (by decide +kernel) rfl, tb_m (i := 422) (by decide +kernel) rfl, _, rfl, rfl⟩
theorem lm_H_45 : LkV "ClockPost$House" 45 y_H_hasLetter 1 3 := ⟨mo_H_hasLetter, tb_m (i := 458) (by decide +kernel) rfl, tb_m (i := 459) (by decide +kernel) rfl, tb_m (i := 460) (by decide +kernel) rfl, _, rfl, rfl⟩
theorem lm_H_49 : LkV "ClockPost$House" 49 y_H_isBehind 1 3 := ⟨mo_H_isBehind, tb_m (i := 454) (by decide +kernel) rfl, tb_m (i := 455) (by decide +kernel) rfl, tb_m (i := 456) (by decide +kernel) rfl, _, rfl, rfl⟩
theorem lm_H_52 : LkS "ClockPost$House" 52 y_JI_bitCount 1 := ⟨mo_JI_bitCount, Or.inl (tb_m (i := 462) (by decide +kernel) rfl), tb_m (i := 463) (by decide +kernel) rfl⟩
theorem mo_L_weighAmong : mOk y_L_weighAmong 1 := ⟨⟨by decide +kernel, by decide +kernel, by decide +kernel⟩, tb_m (i := 70) (by decide +kernel) rfl⟩
theorem lm_H_58 : LkV "ClockPost$House" 58 y_L_weighAmong 1 0 := ⟨mo_L_weighAmong, tb_m (i := 468) (by decide +kernel) rfl, tb_m (i := 469) (by decide +kernel) rfl, tb_m (i := 470) (by decide +kernel) rfl, _, rfl, rfl⟩
theorem lm_H_61 : LkV "ClockPost$House" 61 y_H_weightOf 1 3 := ⟨mo_H_weightOf, tb_m (i := 450) (by decide +kernel) rfl, tb_m (i := 451) (by decide +kernel) rfl, tb_m (i := 452) (by decide +kernel) rfl, _, rfl, rfl⟩
theorem lm_H_67 : LkV "ClockPost$House" 67 y_H_weight 0 3 := ⟨mo_H_weight, tb_m (i := 446) (by decide +kernel) rfl, tb_m (i := 447) (by decide +kernel) rfl, tb_m (i := 448) (by decide +kernel) rfl, _, rfl, rfl⟩
theorem lm_H_81 : LkV "ClockPost$House" 81 y_H_thickness 0 3 := ⟨mo_H_thickness, tb_m (i := 476) (by decide +kernel) rfl, tb_m (i := 477) (by decide +kernel) rfl, tb_m (i := 478) (by decide +kernel) rfl, _, rfl, rfl⟩
theorem mo_H_nextToFall : mOk y_H_nextToFall 0 := ⟨⟨by decide +kernel, by decide +kernel, by decide +kernel⟩, tb_m (i := 69) (by decide +kernel) rfl⟩
theorem lm_H_84 : LkV "ClockPost$House" 84 y_H_nextToFall 0 3 := ⟨mo_H_nextToFall, tb_m (i := 480) (by decide +kernel) rfl, tb_m (i := 482) (by decide +kernel) rfl, tb_m (i := 10) (by decide +kernel) rfl, _, rfl, rfl⟩
theorem mo_H_takeAway : mOk y_H_takeAway 2 := ⟨⟨by decide +kernel, by decide +kernel, by decide +kernel⟩, tb_m (i := 69) (by decide +kernel) rfl⟩
theorem lm_H_90 : LkV "ClockPost$House" 90 y_H_takeAway 2 3 := ⟨mo_H_takeAway, tb_m (i := 488) (by decide +kernel) rfl, tb_m (i := 490) (by decide +kernel) rfl, tb_m (i := 11) (by decide +kernel) rfl, _, rfl, rfl⟩
theorem mo_L_fallsAheadOf : mOk y_L_fallsAheadOf 1 := ⟨⟨by decide +kernel, by decide +kernel, by decide +kernel⟩, tb_m (i := 70) (by decide +kernel) rfl⟩
theorem lm_H_94 : LkV "ClockPost$House" 94 y_L_fallsAheadOf 1 0 := ⟨mo_L_fallsAheadOf, tb_m (i := 484) (by decide +kernel) rfl, tb_m (i := 485) (by decide +kernel) rfl, tb_m (i := 486) (by decide +kernel) rfl, _, rfl, rfl⟩
theorem lm_H_100 : LkV "ClockPost$House" 100 y_H_answerOne 1 3 := ⟨mo_H_answerOne, tb_m (i := 650) (by decide +kernel) rfl, tb_m (i := 499) (by decide +kernel) rfl, tb_m (i := 500) (by decide +kernel) rfl, _, rfl, rfl⟩
theorem lm_H_104 : LkV "ClockPost$House" 104 y_H_putBehind 1 3 := ⟨mo_H_putBehind, tb_m (i := 651) (by decide +kernel) rfl, tb_m (i := 507) (by decide +kernel) rfl, tb_m (i := 508) (by decide +kernel) rfl, _, rfl, rfl⟩
theorem lm_O_24 : LkI "ClockPost$OrderSearch" 24 y_H_init 0 := ⟨mo_H_init, Or.inl (tb_m (i := 223) (by decide +kernel) rfl), rfl, tb_m (i := 119) (by decide +kernel) rfl⟩
theorem lm_O_25 : LkV "ClockPost$OrderSearch" 25 y_H_become 1 3 := ⟨mo_H_become, tb_m (i := 563) (by decide +kernel) rfl, tb_m (i := 417) (by decide +kernel) rfl, tb_m (i := 418) (by decide +kernel) rfl, _, rfl, rfl⟩
theorem mo_O_extend : mOk y_O_extend 4 := ⟨⟨by decide +kernel, by decide +kernel, by decide +kernel⟩, tb_m (i := 72) (by decide +kernel) rfl⟩
theorem lm_O_34 : LkS "ClockPost$OrderSearch" 34 y_O_extend 4 := ⟨mo_O_extend, Or.inl (tb_m (i := 565) (by decide +kernel) rfl), tb_m (i := 566) (by decide +kernel) rfl⟩
theorem lm_O_44 : LkV "ClockPost$OrderSearch" 44 y_H_answerOne 1 3 := ⟨mo_H_answerOne, tb_m (i := 569) (by decide +kernel) rfl, tb_m (i := 499) (by decide +kernel) rfl, tb_m (i := 500) (by decide +kernel) rfl, _, rfl, rfl⟩
theorem lm_O_48 : LkV "ClockPost$OrderSearch" 48 y_H_weight 0 3 := ⟨mo_H_weight, tb_m (i := 570) (by decide +kernel) rfl, tb_m (i := 447) (by decide +kernel) rfl, tb_m (i := 448) (by decide +kernel) rfl, _, rfl, rfl⟩
theorem lm_O_52 : LkV "ClockPost$OrderSearch" 52 y_H_passDay 0 3 := ⟨mo_H_passDay, tb_m (i := 571) (by decide +kernel) rfl, tb_m (i := 443) (by decide +kernel) rfl, tb_m (i := 444) (by decide +kernel) rfl, _, rfl, rfl⟩
theorem mo_JA_fill : mOk y_JA_fill 2 := ⟨⟨by decide +kernel, by decide +kernel, by decide +kernel⟩, tb_m (i := 76) (by decide +kernel) rfl⟩
theorem lm_R_19 : LkS "ClockPost$Row" 19 y_JA_fill 2 := ⟨mo_JA_fill, Or.inl (tb_m (i := 324) (by decide +kernel) rfl), tb_m (i := 325) (by decide +kernel) rfl⟩
theorem lm_R_32 : LkV "ClockPost$Row" 32 y_R_hasPlaces 2 1 := ⟨mo_R_hasPlaces, tb_m (i := 343) (by decide +kernel) rfl, tb_m (i := 336) (by decide +kernel) rfl, tb_m (i := 337) (by decide +kernel) rfl, _, rfl, rfl⟩
theorem mo_H_clear : mOk y_H_clear 0 := ⟨⟨by decide +kernel, by decide +kernel, by decide +kernel⟩, tb_m (i := 69) (by decide +kernel) rfl⟩
theorem lm_P_22 : LkV "ClockPost$Tape" 22 y_H_clear 0 3 := ⟨mo_H_clear, tb_m (i := 372) (by decide +kernel) rfl, tb_m (i := 373) (by decide +kernel) rfl, tb_m (i := 374) (by decide +kernel) rfl, _, rfl, rfl⟩
theorem mo_P_readLaw : mOk y_P_readLaw 1 := ⟨⟨by decide +kernel, by decide +kernel, by decide +kernel⟩, tb_m (i := 68) (by decide +kernel) rfl⟩
theorem lm_P_27 : LkV "ClockPost$Tape" 27 y_P_readLaw 1 6 := ⟨mo_P_readLaw, tb_m (i := 376) (by decide +kernel) rfl, tb_m (i := 378) (by decide +kernel) rfl, tb_m (i := 2) (by decide +kernel) rfl, _, rfl, rfl⟩
theorem mo_P_readLetters : mOk y_P_readLetters 1 := ⟨⟨by decide +kernel, by decide +kernel, by decide +kernel⟩, tb_m (i := 68) (by decide +kernel) rfl⟩
theorem lm_P_31 : LkV "ClockPost$Tape" 31 y_P_readLetters 1 6 := ⟨mo_P_readLetters, tb_m (i := 400) (by decide +kernel) rfl, tb_m (i := 402) (by decide +kernel) rfl, tb_m (i := 7) (by decide +kernel) rfl, _, rfl, rfl⟩
theorem mo_P_readSign : mOk y_P_readSign 1 := ⟨⟨by decide +kernel, by decide +kernel, by decide +kernel⟩, tb_m (i := 68) (by decide +kernel) rfl⟩
theorem lm_P_38 : LkV "ClockPost$Tape" 38 y_P_readSign 1 6 := ⟨mo_P_readSign, tb_m (i := 380) (by decide +kernel) rfl, tb_m (i := 382) (by decide +kernel) rfl, tb_m (i := 3) (by decide +kernel) rfl, _, rfl, rfl⟩
theorem mo_P_readNumber : mOk y_P_readNumber 2 := ⟨⟨by decide +kernel, by decide +kernel, by decide +kernel⟩, tb_m (i := 68) (by decide +kernel) rfl⟩
theorem lm_P_42 : LkV "ClockPost$Tape" 42 y_P_readNumber 2 6 := ⟨mo_P_readNumber, tb_m (i := 392) (by decide +kernel) rfl, tb_m (i := 394) (by decide +kernel) rfl, tb_m (i := 6) (by decide +kernel) rfl, _, rfl, rfl⟩
theorem mo_P_readLetter : mOk y_P_readLetter 1 := ⟨⟨by decide +kernel, by decide +kernel, by decide +kernel⟩, tb_m (i := 68) (by decide +kernel) rfl⟩
theorem lm_P_52 : LkV "ClockPost$Tape" 52 y_P_readLetter 1 6 := ⟨mo_P_readLetter, tb_m (i := 404) (by decide +kernel) rfl, tb_m (i := 406) (by decide +kernel) rfl, tb_m (i := 8) (by decide +kernel) rfl, _, rfl, rfl⟩
theorem mo_P_byteAt : mOk y_P_byteAt 1 := ⟨⟨by decide +kernel, by decide +kernel, by decide +kernel⟩, tb_m (i := 68) (by decide +kernel) rfl⟩
theorem lm_P_55 : LkV "ClockPost$Tape" 55 y_P_byteAt 1 6 := ⟨mo_P_byteAt, tb_m (i := 384) (by decide +kernel) rfl, tb_m (i := 386) (by decide +kernel) rfl, tb_m (i := 4) (by decide +kernel) rfl, _, rfl, rfl⟩
theorem mo_P_kindToldBy : mOk y_P_kindToldBy 1 := ⟨⟨by decide +kernel, by decide +kernel, by decide +kernel⟩, tb_m (i := 68) (by decide +kernel) rfl⟩
theorem lm_P_59 : LkS "ClockPost$Tape" 59 y_P_kindToldBy 1 := ⟨mo_P_kindToldBy, Or.inl (tb_m (i := 408) (by decide +kernel) rfl), tb_m (i := 409) (by decide +kernel) rfl⟩
theorem mo_P_fail : mOk y_P_fail 1 := ⟨⟨by decide +kernel, by decide +kernel, by decide +kernel⟩, tb_m (i := 68) (by decide +kernel) rfl⟩
theorem lm_P_62 : LkV "ClockPost$Tape" 62 y_P_fail 1 6 := ⟨mo_P_fail, tb_m (i := 388) (by decide +kernel) rfl, tb_m (i := 390) (by decide +kernel) rfl, tb_m (i := 5) (by decide +kernel) rfl, _, rfl, rfl⟩
theorem mo_P_readFigures : mOk y_P_readFigures 1 := ⟨⟨by decide +kernel, by decide +kernel, by decide +kernel⟩, tb_m (i := 68) (by decide +kernel) rfl⟩
theorem lm_P_81 : LkV "ClockPost$Tape" 81 y_P_readFigures 1 6 := ⟨mo_P_readFigures, tb_m (i := 411) (by decide +kernel) rfl, tb_m (i := 413) (by decide +kernel) rfl, tb_m (i := 9) (by decide +kernel) rfl, _, rfl, rfl⟩
theorem mo_P_isFigure : mOk y_P_isFigure 1 := ⟨⟨by decide +kernel, by decide +kernel, by decide +kernel⟩, tb_m (i := 68) (by decide +kernel) rfl⟩
theorem lm_P_97 : LkS "ClockPost$Tape" 97 y_P_isFigure 1 := ⟨mo_P_isFigure, Or.inl (tb_m (i := 396) (by decide +kernel) rfl), tb_m (i := 397) (by decide +kernel) rfl⟩
theorem lm_P_100 : LkS "ClockPost$Tape" 100 y_X_isWithin 3 := ⟨mo_X_isWithin, Or.inr ⟨"ClockPost", by simp [nestL]⟩, tb_m (i := 312) (by decide +kernel) rfl⟩
theorem mo_X_init : mOk y_X_init 0 := ⟨⟨by decide +kernel, by decide +kernel, by decide +kernel⟩, tb_m (i := 67) (by decide +kernel) rfl⟩
theorem lm_W_9 : LkI "ClockPostLaw" 9 y_X_init 0 := ⟨mo_X_init, Or.inl (tb_m (i := 82) (by decide +kernel) rfl), rfl, tb_m (i := 83) (by decide +kernel) rfl⟩
theorem mo_M_init : mOk y_M_init 0 := ⟨⟨by decide +kernel, by decide +kernel, by decide +kernel⟩, tb_m (i := 75) (by decide +kernel) rfl⟩
theorem lm_W_12 : LkI "ClockPostLaw" 12 y_M_init 0 := ⟨mo_M_init, Or.inl (tb_m (i := 712) (by decide +kernel) rfl), rfl, tb_m (i := 713) (by decide +kernel) rfl⟩
theorem mo_X_row : mOk y_X_row 3 := ⟨⟨by decide +kernel, by decide +kernel, by decide +kernel⟩, tb_m (i := 67) (by decide +kernel) rfl⟩
theorem lm_W_13 : LkV "ClockPostLaw" 13 y_X_row 3 7 := ⟨mo_X_row, tb_m (i := 304) (by decide +kernel) rfl, tb_m (i := 305) (by decide +kernel) rfl, tb_m (i := 306) (by decide +kernel) rfl, _, rfl, rfl⟩
theorem mo_M_row : mOk y_M_row 3 := ⟨⟨by decide +kernel, by decide +kernel, by decide +kernel⟩, tb_m (i := 75) (by decide +kernel) rfl⟩
theorem lm_W_17 : LkV "ClockPostLaw" 17 y_M_row 3 8 := ⟨mo_M_row, tb_m (i := 772) (by decide +kernel) rfl, tb_m (i := 773) (by decide +kernel) rfl, tb_m (i := 774) (by decide +kernel) rfl, _, rfl, rfl⟩
theorem mo_X_set : mOk y_X_set 3 := ⟨⟨by decide +kernel, by decide +kernel, by decide +kernel⟩, tb_m (i := 67) (by decide +kernel) rfl⟩
theorem lm_W_18 : LkV "ClockPostLaw" 18 y_X_set 3 7 := ⟨mo_X_set, tb_m (i := 331) (by decide +kernel) rfl, tb_m (i := 332) (by decide +kernel) rfl, tb_m (i := 333) (by decide +kernel) rfl, _, rfl, rfl⟩
theorem mo_M_set : mOk y_M_set 3 := ⟨⟨by decide +kernel, by decide +kernel, by decide +kernel⟩, tb_m (i := 75) (by decide +kernel) rfl⟩
theorem lm_W_21 : LkV "ClockPostLaw" 21 y_M_set 3 8 := ⟨mo_M_set, tb_m (i := 794) (by decide +kernel) rfl, tb_m (i := 795) (by decide +kernel) rfl, tb_m (i := 796) (by decide +kernel) rfl, _, rfl, rfl⟩
theorem mo_X_copy : mOk y_X_copy 5 := ⟨⟨by decide +kernel, by decide +kernel, by decide +kernel⟩, tb_m (i := 67) (by decide +kernel) rfl⟩
theorem lm_W_22 : LkV "ClockPostLaw" 22 y_X_copy 5 7 := ⟨mo_X_copy, tb_m (i := 344) (by decide +kernel) rfl, tb_m (i := 345) (by decide +kernel) rfl, tb_m (i := 346) (by decide +kernel) rfl, _, rfl, rfl⟩
theorem mo_M_copy : mOk y_M_copy 5 := ⟨⟨by decide +kernel, by decide +kernel, by decide +kernel⟩, tb_m (i := 75) (by decide +kernel) rfl⟩
theorem lm_W_26 : LkV "ClockPostLaw" 26 y_M_copy 5 8 := ⟨mo_M_copy, tb_m (i := 801) (by decide +kernel) rfl, tb_m (i := 802) (by decide +kernel) rfl, tb_m (i := 803) (by decide +kernel) rfl, _, rfl, rfl⟩
theorem mo_X_drop : mOk y_X_drop 1 := ⟨⟨by decide +kernel, by decide +kernel, by decide +kernel⟩, tb_m (i := 67) (by decide +kernel) rfl⟩
theorem lm_W_27 : LkV "ClockPostLaw" 27 y_X_drop 1 7 := ⟨mo_X_drop, tb_m (i := 351) (by decide +kernel) rfl, tb_m (i := 352) (by decide +kernel) rfl, tb_m (i := 353) (by decide +kernel) rfl, _, rfl, rfl⟩
theorem mo_M_drop : mOk y_M_drop 1 := ⟨⟨by decide +kernel, by decide +kernel, by decide +kernel⟩, tb_m (i := 75) (by decide +kernel) rfl⟩
theorem lm_W_31 : LkV "ClockPostLaw" 31 y_M_drop 1 8 := ⟨mo_M_drop, tb_m (i := 809) (by decide +kernel) rfl, tb_m (i := 810) (by decide +kernel) rfl, tb_m (i := 811) (by decide +kernel) rfl, _, rfl, rfl⟩
theorem mo_X_feed : mOk y_X_feed 1 := ⟨⟨by decide +kernel, by decide +kernel, by decide +kernel⟩, tb_m (i := 67) (by decide +kernel) rfl⟩
theorem lm_W_32 : LkV "ClockPostLaw" 32 y_X_feed 1 7 := ⟨mo_X_feed, tb_m (i := 355) (by decide +kernel) rfl, tb_m (i := 356) (by decide +kernel) rfl, tb_m (i := 357) (by decide +kernel) rfl, _, rfl, rfl⟩
theorem mo_M_feed : mOk y_M_feed 1 := ⟨⟨by decide +kernel, by decide +kernel, by decide +kernel⟩, tb_m (i := 75) (by decide +kernel) rfl⟩
theorem lm_W_35 : LkV "ClockPostLaw" 35 y_M_feed 1 8 := ⟨mo_M_feed, tb_m (i := 813) (by decide +kernel) rfl, tb_m (i := 814) (by decide +kernel) rfl, tb_m (i := 815) (by decide +kernel) rfl, _, rfl, rfl⟩
theorem mo_X_house : mOk y_X_house 0 := ⟨⟨by decide +kernel, by decide +kernel, by decide +kernel⟩, tb_m (i := 67) (by decide +kernel) rfl⟩
theorem lm_W_36 : LkV "ClockPostLaw" 36 y_X_house 0 7 := ⟨mo_X_house, tb_m (i := 364) (by decide +kernel) rfl, tb_m (i := 365) (by decide +kernel) rfl, tb_m (i := 366) (by decide +kernel) rfl, _, rfl, rfl⟩
theorem mo_M_house : mOk y_M_house 0 := ⟨⟨by decide +kernel, by decide +kernel, by decide +kernel⟩, tb_m (i := 75) (by decide +kernel) rfl⟩
theorem lm_W_40 : LkV "ClockPostLaw" 40 y_M_house 0 8 := ⟨mo_M_house, tb_m (i := 819) (by decide +kernel) rfl, tb_m (i := 820) (by decide +kernel) rfl, tb_m (i := 821) (by decide +kernel) rfl, _, rfl, rfl⟩
theorem mo_X_fault : mOk y_X_fault 0 := ⟨⟨by decide +kernel, by decide +kernel, by decide +kernel⟩, tb_m (i := 67) (by decide +kernel) rfl⟩
theorem lm_W_41 : LkV "ClockPostLaw" 41 y_X_fault 0 7 := ⟨mo_X_fault, tb_m (i := 428) (by decide +kernel) rfl, tb_m (i := 429) (by decide +kernel) rfl, tb_m (i := 430) (by decide +kernel) rfl, _, rfl, rfl⟩
theorem mo_M_fault : mOk y_M_fault 0 := ⟨⟨by decide +kernel, by decide +kernel, by decide +kernel⟩, tb_m (i := 75) (by decide +kernel) rfl⟩
theorem lm_W_44 : LkV "ClockPostLaw" 44 y_M_fault 0 8 := ⟨mo_M_fault, tb_m (i := 869) (by decide +kernel) rfl, tb_m (i := 870) (by decide +kernel) rfl, tb_m (i := 871) (by decide +kernel) rfl, _, rfl, rfl⟩
theorem mo_X_days : mOk y_X_days 1 := ⟨⟨by decide +kernel, by decide +kernel, by decide +kernel⟩, tb_m (i := 67) (by decide +kernel) rfl⟩
theorem lm_W_45 : LkV "ClockPostLaw" 45 y_X_days 1 7 := ⟨mo_X_days, tb_m (i := 432) (by decide +kernel) rfl, tb_m (i := 433) (by decide +kernel) rfl, tb_m (i := 434) (by decide +kernel) rfl, _, rfl, rfl⟩
theorem mo_M_days : mOk y_M_days 1 := ⟨⟨by decide +kernel, by decide +kernel, by decide +kernel⟩, tb_m (i := 75) (by decide +kernel) rfl⟩
theorem lm_W_48 : LkV "ClockPostLaw" 48 y_M_days 1 8 := ⟨mo_M_days, tb_m (i := 878) (by decide +kernel) rfl, tb_m (i := 879) (by decide +kernel) rfl, tb_m (i := 880) (by decide +kernel) rfl, _, rfl, rfl⟩
theorem mo_X_answer : mOk y_X_answer 1 := ⟨⟨by decide +kernel, by decide +kernel, by decide +kernel⟩, tb_m (i := 67) (by decide +kernel) rfl⟩
theorem lm_W_49 : LkV "ClockPostLaw" 49 y_X_answer 1 7 := ⟨mo_X_answer, tb_m (i := 492) (by decide +kernel) rfl, tb_m (i := 493) (by decide +kernel) rfl, tb_m (i := 494) (by decide +kernel) rfl, _, rfl, rfl⟩
theorem mo_M_answer : mOk y_M_answer 1 := ⟨⟨by decide +kernel, by decide +kernel, by decide +kernel⟩, tb_m (i := 75) (by decide +kernel) rfl⟩
theorem lm_W_52 : LkV "ClockPostLaw" 52 y_M_answer 1 8 := ⟨mo_M_answer, tb_m (i := 925) (by decide +kernel) rfl, tb_m (i := 926) (by decide +kernel) rfl, tb_m (i := 927) (by decide +kernel) rfl, _, rfl, rfl⟩
theorem mo_X_post : mOk y_X_post 1 := ⟨⟨by decide +kernel, by decide +kernel, by decide +kernel⟩, tb_m (i := 67) (by decide +kernel) rfl⟩
theorem lm_W_53 : LkV "ClockPostLaw" 53 y_X_post 1 7 := ⟨mo_X_post, tb_m (i := 502) (by decide +kernel) rfl, tb_m (i := 503) (by decide +kernel) rfl, tb_m (i := 504) (by decide +kernel) rfl, _, rfl, rfl⟩
theorem mo_M_post : mOk y_M_post 1 := ⟨⟨by decide +kernel, by decide +kernel, by decide +kernel⟩, tb_m (i := 75) (by decide +kernel) rfl⟩
theorem lm_W_56 : LkV "ClockPostLaw" 56 y_M_post 1 8 := ⟨mo_M_post, tb_m (i := 937) (by decide +kernel) rfl, tb_m (i := 938) (by decide +kernel) rfl, tb_m (i := 939) (by decide +kernel) rfl, _, rfl, rfl⟩
theorem mo_X_dread : mOk y_X_dread 2 := ⟨⟨by decide +kernel, by decide +kernel, by decide +kernel⟩, tb_m (i := 67) (by decide +kernel) rfl⟩
theorem lm_W_57 : LkV "ClockPostLaw" 57 y_X_dread 2 7 := ⟨mo_X_dread, tb_m (i := 511) (by decide +kernel) rfl, tb_m (i := 512) (by decide +kernel) rfl, tb_m (i := 513) (by decide +kernel) rfl, _, rfl, rfl⟩
theorem mo_M_dread : mOk y_M_dread 2 := ⟨⟨by decide +kernel, by decide +kernel, by decide +kernel⟩, tb_m (i := 75) (by decide +kernel) rfl⟩
theorem lm_W_61 : LkV "ClockPostLaw" 61 y_M_dread 2 8 := ⟨mo_M_dread, tb_m (i := 945) (by decide +kernel) rfl, tb_m (i := 946) (by decide +kernel) rfl, tb_m (i := 947) (by decide +kernel) rfl, _, rfl, rfl⟩
theorem mo_X_undo : mOk y_X_undo 0 := ⟨⟨by decide +kernel, by decide +kernel, by decide +kernel⟩, tb_m (i := 67) (by decide +kernel) rfl⟩
theorem lm_W_62 : LkV "ClockPostLaw" 62 y_X_undo 0 7 := ⟨mo_X_undo, tb_m (i := 515) (by decide +kernel) rfl, tb_m (i := 516) (by decide +kernel) rfl, tb_m (i := 517) (by decide +kernel) rfl, _, rfl, rfl⟩
theorem mo_M_undo : mOk y_M_undo 0 := ⟨⟨by decide +kernel, by decide +kernel, by decide +kernel⟩, tb_m (i := 75) (by decide +kernel) rfl⟩
theorem lm_W_65 : LkV "ClockPostLaw" 65 y_M_undo 0 8 := ⟨mo_M_undo, tb_m (i := 873) (by decide +kernel) rfl, tb_m (i := 874) (by decide +kernel) rfl, tb_m (i := 875) (by decide +kernel) rfl, _, rfl, rfl⟩
theorem mo_X_letter : mOk y_X_letter 2 := ⟨⟨by decide +kernel, by decide +kernel, by decide +kernel⟩, tb_m (i := 67) (by decide +kernel) rfl⟩
theorem lm_W_66 : LkV "ClockPostLaw" 66 y_X_letter 2 7 := ⟨mo_X_letter, tb_m (i := 523) (by decide +kernel) rfl, tb_m (i := 524) (by decide +kernel) rfl, tb_m (i := 525) (by decide +kernel) rfl, _, rfl, rfl⟩
theorem mo_M_letter : mOk y_M_letter 2 := ⟨⟨by decide +kernel, by decide +kernel, by decide +kernel⟩, tb_m (i := 75) (by decide +kernel) rfl⟩
theorem lm_W_69 : LkV "ClockPostLaw" 69 y_M_letter 2 8 := ⟨mo_M_letter, tb_m (i := 950) (by decide +kernel) rfl, tb_m (i := 951) (by decide +kernel) rfl, tb_m (i := 952) (by decide +kernel) rfl, _, rfl, rfl⟩
theorem mo_X_burden : mOk y_X_burden 1 := ⟨⟨by decide +kernel, by decide +kernel, by decide +kernel⟩, tb_m (i := 67) (by decide +kernel) rfl⟩
theorem lm_W_70 : LkV "ClockPostLaw" 70 y_X_burden 1 7 := ⟨mo_X_burden, tb_m (i := 528) (by decide +kernel) rfl, tb_m (i := 529) (by decide +kernel) rfl, tb_m (i := 530) (by decide +kernel) rfl, _, rfl, rfl⟩
theorem mo_M_burden : mOk y_M_burden 1 := ⟨⟨by decide +kernel, by decide +kernel, by decide +kernel⟩, tb_m (i := 75) (by decide +kernel) rfl⟩
theorem lm_W_73 : LkV "ClockPostLaw" 73 y_M_burden 1 8 := ⟨mo_M_burden, tb_m (i := 954) (by decide +kernel) rfl, tb_m (i := 955) (by decide +kernel) rfl, tb_m (i := 956) (by decide +kernel) rfl, _, rfl, rfl⟩
theorem mo_X_sum : mOk y_X_sum 1 := ⟨⟨by decide +kernel, by decide +kernel, by decide +kernel⟩, tb_m (i := 67) (by decide +kernel) rfl⟩
theorem lm_W_74 : LkV "ClockPostLaw" 74 y_X_sum 1 7 := ⟨mo_X_sum, tb_m (i := 541) (by decide +kernel) rfl, tb_m (i := 542) (by decide +kernel) rfl, tb_m (i := 543) (by decide +kernel) rfl, _, rfl, rfl⟩
theorem mo_M_sum : mOk y_M_sum 1 := ⟨⟨by decide +kernel, by decide +kernel, by decide +kernel⟩, tb_m (i := 75) (by decide +kernel) rfl⟩
theorem lm_W_77 : LkV "ClockPostLaw" 77 y_M_sum 1 8 := ⟨mo_M_sum, tb_m (i := 971) (by decide +kernel) rfl, tb_m (i := 972) (by decide +kernel) rfl, tb_m (i := 973) (by decide +kernel) rfl, _, rfl, rfl⟩
theorem mo_X_behind : mOk y_X_behind 1 := ⟨⟨by decide +kernel, by decide +kernel, by decide +kernel⟩, tb_m (i := 67) (by decide +kernel) rfl⟩
theorem lm_W_78 : LkV "ClockPostLaw" 78 y_X_behind 1 7 := ⟨mo_X_behind, tb_m (i := 545) (by decide +kernel) rfl, tb_m (i := 546) (by decide +kernel) rfl, tb_m (i := 547) (by decide +kernel) rfl, _, rfl, rfl⟩
theorem mo_M_behind : mOk y_M_behind 1 := ⟨⟨by decide +kernel, by decide +kernel, by decide +kernel⟩, tb_m (i := 75) (by decide +kernel) rfl⟩
theorem lm_W_81 : LkV "ClockPostLaw" 81 y_M_behind 1 8 := ⟨mo_M_behind, tb_m (i := 975) (by decide +kernel) rfl, tb_m (i := 976) (by decide +kernel) rfl, tb_m (i := 977) (by decide +kernel) rfl, _, rfl, rfl⟩
theorem mo_X_falls : mOk y_X_falls 1 := ⟨⟨by decide +kernel, by decide +kernel, by decide +kernel⟩, tb_m (i := 67) (by decide +kernel) rfl⟩
theorem lm_W_82 : LkV "ClockPostLaw" 82 y_X_falls 1 7 := ⟨mo_X_falls, tb_m (i := 549) (by decide +kernel) rfl, tb_m (i := 550) (by decide +kernel) rfl, tb_m (i := 551) (by decide +kernel) rfl, _, rfl, rfl⟩
theorem mo_M_falls : mOk y_M_falls 1 := ⟨⟨by decide +kernel, by decide +kernel, by decide +kernel⟩, tb_m (i := 75) (by decide +kernel) rfl⟩
theorem lm_W_85 : LkV "ClockPostLaw" 85 y_M_falls 1 8 := ⟨mo_M_falls, tb_m (i := 979) (by decide +kernel) rfl, tb_m (i := 980) (by decide +kernel) rfl, tb_m (i := 981) (by decide +kernel) rfl, _, rfl, rfl⟩
theorem mo_X_order : mOk y_X_order 2 := ⟨⟨by decide +kernel, by decide +kernel, by decide +kernel⟩, tb_m (i := 67) (by decide +kernel) rfl⟩
theorem lm_W_86 : LkV "ClockPostLaw" 86 y_X_order 2 7 := ⟨mo_X_order, tb_m (i := 554) (by decide +kernel) rfl, tb_m (i := 555) (by decide +kernel) rfl, tb_m (i := 556) (by decide +kernel) rfl, _, rfl, rfl⟩
theorem mo_M_order : mOk y_M_order 2 := ⟨⟨by decide +kernel, by decide +kernel, by decide +kernel⟩, tb_m (i := 75) (by decide +kernel) rfl⟩
theorem lm_W_89 : LkV "ClockPostLaw" 89 y_M_order 2 8 := ⟨mo_M_order, tb_m (i := 983) (by decide +kernel) rfl, tb_m (i := 984) (by decide +kernel) rfl, tb_m (i := 985) (by decide +kernel) rfl, _, rfl, rfl⟩
theorem mo_X_hold : mOk y_X_hold 2 := ⟨⟨by decide +kernel, by decide +kernel, by decide +kernel⟩, tb_m (i := 67) (by decide +kernel) rfl⟩
theorem lm_W_90 : LkV "ClockPostLaw" 90 y_X_hold 2 7 := ⟨mo_X_hold, tb_m (i := 572) (by decide +kernel) rfl, tb_m (i := 573) (by decide +kernel) rfl, tb_m (i := 574) (by decide +kernel) rfl, _, rfl, rfl⟩
theorem mo_M_hold : mOk y_M_hold 2 := ⟨⟨by decide +kernel, by decide +kernel, by decide +kernel⟩, tb_m (i := 75) (by decide +kernel) rfl⟩
theorem lm_W_93 : LkV "ClockPostLaw" 93 y_M_hold 2 8 := ⟨mo_M_hold, tb_m (i := 1001) (by decide +kernel) rfl, tb_m (i := 1002) (by decide +kernel) rfl, tb_m (i := 1003) (by decide +kernel) rfl, _, rfl, rfl⟩
theorem mo_X_ease : mOk y_X_ease 3 := ⟨⟨by decide +kernel, by decide +kernel, by decide +kernel⟩, tb_m (i := 67) (by decide +kernel) rfl⟩
theorem lm_W_94 : LkV "ClockPostLaw" 94 y_X_ease 3 7 := ⟨mo_X_ease, tb_m (i := 588) (by decide +kernel) rfl, tb_m (i := 589) (by decide +kernel) rfl, tb_m (i := 590) (by decide +kernel) rfl, _, rfl, rfl⟩
theorem mo_M_ease : mOk y_M_ease 3 := ⟨⟨by decide +kernel, by decide +kernel, by decide +kernel⟩, tb_m (i := 75) (by decide +kernel) rfl⟩
theorem lm_W_97 : LkV "ClockPostLaw" 97 y_M_ease 3 8 := ⟨mo_M_ease, tb_m (i := 1021) (by decide +kernel) rfl, tb_m (i := 1022) (by decide +kernel) rfl, tb_m (i := 1023) (by decide +kernel) rfl, _, rfl, rfl⟩
theorem mo_X_fits : mOk y_X_fits 5 := ⟨⟨by decide +kernel, by decide +kernel, by decide +kernel⟩, tb_m (i := 67) (by decide +kernel) rfl⟩
theorem lm_W_98 : LkV "ClockPostLaw" 98 y_X_fits 5 7 := ⟨mo_X_fits, tb_m (i := 596) (by decide +kernel) rfl, tb_m (i := 597) (by decide +kernel) rfl, tb_m (i := 598) (by decide +kernel) rfl, _, rfl, rfl⟩
theorem mo_M_fits : mOk y_M_fits 5 := ⟨⟨by decide +kernel, by decide +kernel, by decide +kernel⟩, tb_m (i := 75) (by decide +kernel) rfl⟩
theorem lm_W_101 : LkV "ClockPostLaw" 101 y_M_fits 5 8 := ⟨mo_M_fits, tb_m (i := 1026) (by decide +kernel) rfl, tb_m (i := 1027) (by decide +kernel) rfl, tb_m (i := 1028) (by decide +kernel) rfl, _, rfl, rfl⟩
theorem mo_X_stealth : mOk y_X_stealth 3 := ⟨⟨by decide +kernel, by decide +kernel, by decide +kernel⟩, tb_m (i := 67) (by decide +kernel) rfl⟩
theorem lm_W_102 : LkV "ClockPostLaw" 102 y_X_stealth 3 7 := ⟨mo_X_stealth, tb_m (i := 621) (by decide +kernel) rfl, tb_m (i := 622) (by decide +kernel) rfl, tb_m (i := 623) (by decide +kernel) rfl, _, rfl, rfl⟩
theorem mo_M_stealth : mOk y_M_stealth 3 := ⟨⟨by decide +kernel, by decide +kernel, by decide +kernel⟩, tb_m (i := 75) (by decide +kernel) rfl⟩
theorem lm_W_105 : LkV "ClockPostLaw" 105 y_M_stealth 3 8 := ⟨mo_M_stealth, tb_m (i := 1039) (by decide +kernel) rfl, tb_m (i := 1040) (by decide +kernel) rfl, tb_m (i := 1041) (by decide +kernel) rfl, _, rfl, rfl⟩
theorem mo_X_lost : mOk y_X_lost 3 := ⟨⟨by decide +kernel, by decide +kernel, by decide +kernel⟩, tb_m (i := 67) (by decide +kernel) rfl⟩
theorem lm_W_106 : LkV "ClockPostLaw" 106 y_X_lost 3 7 := ⟨mo_X_lost, tb_m (i := 625) (by decide +kernel) rfl, tb_m (i := 626) (by decide +kernel) rfl, tb_m (i := 627) (by decide +kernel) rfl, _, rfl, rfl⟩
theorem mo_M_lost : mOk y_M_lost 3 := ⟨⟨by decide +kernel, by decide +kernel, by decide +kernel⟩, tb_m (i := 75) (by decide +kernel) rfl⟩
theorem lm_W_109 : LkV "ClockPostLaw" 109 y_M_lost 3 8 := ⟨mo_M_lost, tb_m (i := 1043) (by decide +kernel) rfl, tb_m (i := 1044) (by decide +kernel) rfl, tb_m (i := 1045) (by decide +kernel) rfl, _, rfl, rfl⟩
theorem mo_X_drawn : mOk y_X_drawn 3 := ⟨⟨by decide +kernel, by decide +kernel, by decide +kernel⟩, tb_m (i := 67) (by decide +kernel) rfl⟩
theorem lm_W_110 : LkV "ClockPostLaw" 110 y_X_drawn 3 7 := ⟨mo_X_drawn, tb_m (i := 638) (by decide +kernel) rfl, tb_m (i := 639) (by decide +kernel) rfl, tb_m (i := 640) (by decide +kernel) rfl, _, rfl, rfl⟩
theorem mo_M_drawn : mOk y_M_drawn 3 := ⟨⟨by decide +kernel, by decide +kernel, by decide +kernel⟩, tb_m (i := 75) (by decide +kernel) rfl⟩
theorem lm_W_113 : LkV "ClockPostLaw" 113 y_M_drawn 3 8 := ⟨mo_M_drawn, tb_m (i := 1048) (by decide +kernel) rfl, tb_m (i := 1049) (by decide +kernel) rfl, tb_m (i := 1050) (by decide +kernel) rfl, _, rfl, rfl⟩
theorem mo_X_image : mOk y_X_image 1 := ⟨⟨by decide +kernel, by decide +kernel, by decide +kernel⟩, tb_m (i := 67) (by decide +kernel) rfl⟩
theorem lm_W_114 : LkV "ClockPostLaw" 114 y_X_image 1 7 := ⟨mo_X_image, tb_m (i := 652) (by decide +kernel) rfl, tb_m (i := 653) (by decide +kernel) rfl, tb_m (i := 654) (by decide +kernel) rfl, _, rfl, rfl⟩
theorem mo_M_image : mOk y_M_image 1 := ⟨⟨by decide +kernel, by decide +kernel, by decide +kernel⟩, tb_m (i := 75) (by decide +kernel) rfl⟩
theorem lm_W_117 : LkV "ClockPostLaw" 117 y_M_image 1 8 := ⟨mo_M_image, tb_m (i := 1056) (by decide +kernel) rfl, tb_m (i := 1057) (by decide +kernel) rfl, tb_m (i := 1058) (by decide +kernel) rfl, _, rfl, rfl⟩
theorem mo_X_restore : mOk y_X_restore 1 := ⟨⟨by decide +kernel, by decide +kernel, by decide +kernel⟩, tb_m (i := 67) (by decide +kernel) rfl⟩
theorem lm_W_118 : LkV "ClockPostLaw" 118 y_X_restore 1 7 := ⟨mo_X_restore, tb_m (i := 656) (by decide +kernel) rfl, tb_m (i := 657) (by decide +kernel) rfl, tb_m (i := 658) (by decide +kernel) rfl, _, rfl, rfl⟩
theorem mo_M_restore : mOk y_M_restore 1 := ⟨⟨by decide +kernel, by decide +kernel, by decide +kernel⟩, tb_m (i := 75) (by decide +kernel) rfl⟩
theorem lm_W_121 : LkV "ClockPostLaw" 121 y_M_restore 1 8 := ⟨mo_M_restore, tb_m (i := 1060) (by decide +kernel) rfl, tb_m (i := 1061) (by decide +kernel) rfl, tb_m (i := 1062) (by decide +kernel) rfl, _, rfl, rfl⟩
theorem mo_X_kind : mOk y_X_kind 1 := ⟨⟨by decide +kernel, by decide +kernel, by decide +kernel⟩, tb_m (i := 67) (by decide +kernel) rfl⟩
theorem lm_W_122 : LkV "ClockPostLaw" 122 y_X_kind 1 7 := ⟨mo_X_kind, tb_m (i := 660) (by decide +kernel) rfl, tb_m (i := 661) (by decide +kernel) rfl, tb_m (i := 662) (by decide +kernel) rfl, _, rfl, rfl⟩
theorem mo_M_kind : mOk y_M_kind 1 := ⟨⟨by decide +kernel, by decide +kernel, by decide +kernel⟩, tb_m (i := 75) (by decide +kernel) rfl⟩
theorem lm_W_125 : LkV "ClockPostLaw" 125 y_M_kind 1 8 := ⟨mo_M_kind, tb_m (i := 1064) (by decide +kernel) rfl, tb_m (i := 1065) (by decide +kernel) rfl, tb_m (i := 1066) (by decide +kernel) rfl, _, rfl, rfl⟩
theorem mo_X_as : mOk y_X_as 2 := ⟨⟨by decide +kernel, by decide +kernel, by decide +kernel⟩, tb_m (i := 67) (by decide +kernel) rfl⟩
theorem lm_W_126 : LkV "ClockPostLaw" 126 y_X_as 2 7 := ⟨mo_X_as, tb_m (i := 664) (by decide +kernel) rfl, tb_m (i := 665) (by decide +kernel) rfl, tb_m (i := 666) (by decide +kernel) rfl, _, rfl, rfl⟩
theorem mo_M_as : mOk y_M_as 2 := ⟨⟨by decide +kernel, by decide +kernel, by decide +kernel⟩, tb_m (i := 75) (by decide +kernel) rfl⟩
theorem lm_W_129 : LkV "ClockPostLaw" 129 y_M_as 2 8 := ⟨mo_M_as, tb_m (i := 1068) (by decide +kernel) rfl, tb_m (i := 1069) (by decide +kernel) rfl, tb_m (i := 1070) (by decide +kernel) rfl, _, rfl, rfl⟩
theorem mo_X_ask : mOk y_X_ask 2 := ⟨⟨by decide +kernel, by decide +kernel, by decide +kernel⟩, tb_m (i := 67) (by decide +kernel) rfl⟩
theorem lm_W_130 : LkV "ClockPostLaw" 130 y_X_ask 2 7 := ⟨mo_X_ask, tb_m (i := 676) (by decide +kernel) rfl, tb_m (i := 677) (by decide +kernel) rfl, tb_m (i := 678) (by decide +kernel) rfl, _, rfl, rfl⟩
theorem mo_M_ask : mOk y_M_ask 2 := ⟨⟨by decide +kernel, by decide +kernel, by decide +kernel⟩, tb_m (i := 75) (by decide +kernel) rfl⟩
theorem lm_W_133 : LkV "ClockPostLaw" 133 y_M_ask 2 8 := ⟨mo_M_ask, tb_m (i := 1076) (by decide +kernel) rfl, tb_m (i := 1077) (by decide +kernel) rfl, tb_m (i := 1078) (by decide +kernel) rfl, _, rfl, rfl⟩
theorem mo_X_trace : mOk y_X_trace 1 := ⟨⟨by decide +kernel, by decide +kernel, by decide +kernel⟩, tb_m (i := 67) (by decide +kernel) rfl⟩
theorem lm_W_134 : LkV "ClockPostLaw" 134 y_X_trace 1 7 := ⟨mo_X_trace, tb_m (i := 694) (by decide +kernel) rfl, tb_m (i := 695) (by decide +kernel) rfl, tb_m (i := 696) (by decide +kernel) rfl, _, rfl, rfl⟩
theorem mo_M_trace : mOk y_M_trace 1 := ⟨⟨by decide +kernel, by decide +kernel, by decide +kernel⟩, tb_m (i := 75) (by decide +kernel) rfl⟩
theorem lm_W_137 : LkV "ClockPostLaw" 137 y_M_trace 1 8 := ⟨mo_M_trace, tb_m (i := 1116) (by decide +kernel) rfl, tb_m (i := 1117) (by decide +kernel) rfl, tb_m (i := 1118) (by decide +kernel) rfl, _, rfl, rfl⟩
theorem mo_X_count : mOk y_X_count 1 := ⟨⟨by decide +kernel, by decide +kernel, by decide +kernel⟩, tb_m (i := 67) (by decide +kernel) rfl⟩
theorem lm_W_138 : LkV "ClockPostLaw" 138 y_X_count 1 7 := ⟨mo_X_count, tb_m (i := 698) (by decide +kernel) rfl, tb_m (i := 699) (by decide +kernel) rfl, tb_m (i := 700) (by decide +kernel) rfl, _, rfl, rfl⟩
theorem mo_M_count : mOk y_M_count 1 := ⟨⟨by decide +kernel, by decide +kernel, by decide +kernel⟩, tb_m (i := 75) (by decide +kernel) rfl⟩
theorem lm_W_141 : LkV "ClockPostLaw" 141 y_M_count 1 8 := ⟨mo_M_count, tb_m (i := 1120) (by decide +kernel) rfl, tb_m (i := 1121) (by decide +kernel) rfl, tb_m (i := 1122) (by decide +kernel) rfl, _, rfl, rfl⟩
theorem mo_X_status : mOk y_X_status 0 := ⟨⟨by decide +kernel, by decide +kernel, by decide +kernel⟩, tb_m (i := 67) (by decide +kernel) rfl⟩
theorem lm_W_142 : LkV "ClockPostLaw" 142 y_X_status 0 7 := ⟨mo_X_status, tb_m (i := 706) (by decide +kernel) rfl, tb_m (i := 707) (by decide +kernel) rfl, tb_m (i := 708) (by decide +kernel) rfl, _, rfl, rfl⟩
theorem mo_M_status : mOk y_M_status 0 := ⟨⟨by decide +kernel, by decide +kernel, by decide +kernel⟩, tb_m (i := 75) (by decide +kernel) rfl⟩
theorem lm_W_145 : LkV "ClockPostLaw" 145 y_M_status 0 8 := ⟨mo_M_status, tb_m (i := 1124) (by decide +kernel) rfl, tb_m (i := 1125) (by decide +kernel) rfl, tb_m (i := 1126) (by decide +kernel) rfl, _, rfl, rfl⟩
theorem mo_M_in : mOk y_M_in 3 := ⟨⟨by decide +kernel, by decide +kernel, by decide +kernel⟩, tb_m (i := 75) (by decide +kernel) rfl⟩
theorem lm_M_45 : LkS "ClockPostModel" 45 y_M_in 3 := ⟨mo_M_in, Or.inl (tb_m (i := 780) (by decide +kernel) rfl), tb_m (i := 781) (by decide +kernel) rfl⟩
theorem mo_M_isRow : mOk y_M_isRow 1 := ⟨⟨by decide +kernel, by decide +kernel, by decide +kernel⟩, tb_m (i := 75) (by decide +kernel) rfl⟩
theorem lm_M_49 : LkS "ClockPostModel" 49 y_M_isRow 1 := ⟨mo_M_isRow, Or.inl (tb_m (i := 776) (by decide +kernel) rfl), tb_m (i := 777) (by decide +kernel) rfl⟩
theorem mo_M_find : mOk y_M_find 1 := ⟨⟨by decide +kernel, by decide +kernel, by decide +kernel⟩, tb_m (i := 75) (by decide +kernel) rfl⟩
theorem lm_M_56 : LkV "ClockPostModel" 56 y_M_find 1 8 := ⟨mo_M_find, tb_m (i := 785) (by decide +kernel) rfl, tb_m (i := 787) (by decide +kernel) rfl, tb_m (i := 20) (by decide +kernel) rfl, _, rfl, rfl⟩
theorem mo_M_well : mOk y_M_well 1 := ⟨⟨by decide +kernel, by decide +kernel, by decide +kernel⟩, tb_m (i := 75) (by decide +kernel) rfl⟩
theorem lm_M_60 : LkV "ClockPostModel" 60 y_M_well 1 8 := ⟨mo_M_well, tb_m (i := 790) (by decide +kernel) rfl, tb_m (i := 792) (by decide +kernel) rfl, tb_m (i := 21) (by decide +kernel) rfl, _, rfl, rfl⟩
theorem mo_M_narrow : mOk y_M_narrow 2 := ⟨⟨by decide +kernel, by decide +kernel, by decide +kernel⟩, tb_m (i := 75) (by decide +kernel) rfl⟩
theorem lm_M_63 : LkS "ClockPostModel" 63 y_M_narrow 2 := ⟨mo_M_narrow, Or.inl (tb_m (i := 798) (by decide +kernel) rfl), tb_m (i := 799) (by decide +kernel) rfl⟩
theorem mo_M_isSpan : mOk y_M_isSpan 3 := ⟨⟨by decide +kernel, by decide +kernel, by decide +kernel⟩, tb_m (i := 75) (by decide +kernel) rfl⟩
theorem lm_M_67 : LkV "ClockPostModel" 67 y_M_isSpan 3 8 := ⟨mo_M_isSpan, tb_m (i := 805) (by decide +kernel) rfl, tb_m (i := 807) (by decide +kernel) rfl, tb_m (i := 22) (by decide +kernel) rfl, _, rfl, rfl⟩
theorem mo_M_isLetter : mOk y_M_isLetter 1 := ⟨⟨by decide +kernel, by decide +kernel, by decide +kernel⟩, tb_m (i := 75) (by decide +kernel) rfl⟩
theorem lm_M_87 : LkV "ClockPostModel" 87 y_M_isLetter 1 8 := ⟨mo_M_isLetter, tb_m (i := 835) (by decide +kernel) rfl, tb_m (i := 837) (by decide +kernel) rfl, tb_m (i := 26) (by decide +kernel) rfl, _, rfl, rfl⟩
theorem mo_M_refuse : mOk y_M_refuse 1 := ⟨⟨by decide +kernel, by decide +kernel, by decide +kernel⟩, tb_m (i := 75) (by decide +kernel) rfl⟩
theorem lm_M_90 : LkV "ClockPostModel" 90 y_M_refuse 1 8 := ⟨mo_M_refuse, tb_m (i := 839) (by decide +kernel) rfl, tb_m (i := 841) (by decide +kernel) rfl, tb_m (i := 27) (by decide +kernel) rfl, _, rfl, rfl⟩
theorem mo_M_isFigure : mOk y_M_isFigure 1 := ⟨⟨by decide +kernel, by decide +kernel, by decide +kernel⟩, tb_m (i := 75) (by decide +kernel) rfl⟩
theorem lm_M_93 : LkV "ClockPostModel" 93 y_M_isFigure 1 8 := ⟨mo_M_isFigure, tb_m (i := 847) (by decide +kernel) rfl, tb_m (i := 849) (by decide +kernel) rfl, tb_m (i := 29) (by decide +kernel) rfl, _, rfl, rfl⟩
theorem mo_M_sign : mOk y_M_sign 1 := ⟨⟨by decide +kernel, by decide +kernel, by decide +kernel⟩, tb_m (i := 75) (by decide +kernel) rfl⟩
theorem lm_M_99 : LkV "ClockPostModel" 99 y_M_sign 1 8 := ⟨mo_M_sign, tb_m (i := 831) (by decide +kernel) rfl, tb_m (i := 833) (by decide +kernel) rfl, tb_m (i := 25) (by decide +kernel) rfl, _, rfl, rfl⟩
theorem mo_M_readsNumber : mOk y_M_readsNumber 2 := ⟨⟨by decide +kernel, by decide +kernel, by decide +kernel⟩, tb_m (i := 75) (by decide +kernel) rfl⟩
theorem lm_M_102 : LkV "ClockPostModel" 102 y_M_readsNumber 2 8 := ⟨mo_M_readsNumber, tb_m (i := 843) (by decide +kernel) rfl, tb_m (i := 845) (by decide +kernel) rfl, tb_m (i := 28) (by decide +kernel) rfl, _, rfl, rfl⟩
theorem mo_M_kindOfLetter : mOk y_M_kindOfLetter 1 := ⟨⟨by decide +kernel, by decide +kernel, by decide +kernel⟩, tb_m (i := 75) (by decide +kernel) rfl⟩
theorem lm_M_106 : LkS "ClockPostModel" 106 y_M_kindOfLetter 1 := ⟨mo_M_kindOfLetter, Or.inl (tb_m (i := 857) (by decide +kernel) rfl), tb_m (i := 858) (by decide +kernel) rfl⟩
theorem mo_M_readsLaw : mOk y_M_readsLaw 0 := ⟨⟨by decide +kernel, by decide +kernel, by decide +kernel⟩, tb_m (i := 75) (by decide +kernel) rfl⟩
theorem lm_M_109 : LkV "ClockPostModel" 109 y_M_readsLaw 0 8 := ⟨mo_M_readsLaw, tb_m (i := 827) (by decide +kernel) rfl, tb_m (i := 829) (by decide +kernel) rfl, tb_m (i := 24) (by decide +kernel) rfl, _, rfl, rfl⟩
theorem mo_M_isSort : mOk y_M_isSort 0 := ⟨⟨by decide +kernel, by decide +kernel, by decide +kernel⟩, tb_m (i := 75) (by decide +kernel) rfl⟩
theorem lm_M_113 : LkV "ClockPostModel" 113 y_M_isSort 0 8 := ⟨mo_M_isSort, tb_m (i := 853) (by decide +kernel) rfl, tb_m (i := 855) (by decide +kernel) rfl, tb_m (i := 30) (by decide +kernel) rfl, _, rfl, rfl⟩
theorem mo_M_readsLetter : mOk y_M_readsLetter 0 := ⟨⟨by decide +kernel, by decide +kernel, by decide +kernel⟩, tb_m (i := 75) (by decide +kernel) rfl⟩
theorem lm_M_116 : LkV "ClockPostModel" 116 y_M_readsLetter 0 8 := ⟨mo_M_readsLetter, tb_m (i := 860) (by decide +kernel) rfl, tb_m (i := 862) (by decide +kernel) rfl, tb_m (i := 31) (by decide +kernel) rfl, _, rfl, rfl⟩
theorem mo_M_reads : mOk y_M_reads 0 := ⟨⟨by decide +kernel, by decide +kernel, by decide +kernel⟩, tb_m (i := 75) (by decide +kernel) rfl⟩
theorem lm_M_119 : LkV "ClockPostModel" 119 y_M_reads 0 8 := ⟨mo_M_reads, tb_m (i := 823) (by decide +kernel) rfl, tb_m (i := 825) (by decide +kernel) rfl, tb_m (i := 23) (by decide +kernel) rfl, _, rfl, rfl⟩
theorem mo_M_copyTown : mOk y_M_copyTown 2 := ⟨⟨by decide +kernel, by decide +kernel, by decide +kernel⟩, tb_m (i := 75) (by decide +kernel) rfl⟩
theorem lm_M_126 : LkV "ClockPostModel" 126 y_M_copyTown 2 8 := ⟨mo_M_copyTown, tb_m (i := 865) (by decide +kernel) rfl, tb_m (i := 867) (by decide +kernel) rfl, tb_m (i := 32) (by decide +kernel) rfl, _, rfl, rfl⟩
theorem mo_M_has : mOk y_M_has 2 := ⟨⟨by decide +kernel, by decide +kernel, by decide +kernel⟩, tb_m (i := 75) (by decide +kernel) rfl⟩
theorem lm_M_138 : LkS "ClockPostModel" 138 y_M_has 2 := ⟨mo_M_has, Or.inl (tb_m (i := 899) (by decide +kernel) rfl), tb_m (i := 900) (by decide +kernel) rfl⟩
theorem mo_M_bits : mOk y_M_bits 1 := ⟨⟨by decide +kernel, by decide +kernel, by decide +kernel⟩, tb_m (i := 75) (by decide +kernel) rfl⟩
theorem lm_M_141 : LkS "ClockPostModel" 141 y_M_bits 1 := ⟨mo_M_bits, Or.inl (tb_m (i := 902) (by decide +kernel) rfl), tb_m (i := 903) (by decide +kernel) rfl⟩
theorem mo_M_weighs : mOk y_M_weighs 2 := ⟨⟨by decide +kernel, by decide +kernel, by decide +kernel⟩, tb_m (i := 75) (by decide +kernel) rfl⟩
theorem lm_M_144 : LkV "ClockPostModel" 144 y_M_weighs 2 8 := ⟨mo_M_weighs, tb_m (i := 895) (by decide +kernel) rfl, tb_m (i := 897) (by decide +kernel) rfl, tb_m (i := 36) (by decide +kernel) rfl, _, rfl, rfl⟩
theorem mo_M_fallsAhead : mOk y_M_fallsAhead 3 := ⟨⟨by decide +kernel, by decide +kernel, by decide +kernel⟩, tb_m (i := 75) (by decide +kernel) rfl⟩
theorem lm_M_148 : LkV "ClockPostModel" 148 y_M_fallsAhead 3 8 := ⟨mo_M_fallsAhead, tb_m (i := 913) (by decide +kernel) rfl, tb_m (i := 915) (by decide +kernel) rfl, tb_m (i := 38) (by decide +kernel) rfl, _, rfl, rfl⟩
theorem mo_M_thickness : mOk y_M_thickness 1 := ⟨⟨by decide +kernel, by decide +kernel, by decide +kernel⟩, tb_m (i := 75) (by decide +kernel) rfl⟩
theorem lm_M_151 : LkV "ClockPostModel" 151 y_M_thickness 1 8 := ⟨mo_M_thickness, tb_m (i := 917) (by decide +kernel) rfl, tb_m (i := 919) (by decide +kernel) rfl, tb_m (i := 39) (by decide +kernel) rfl, _, rfl, rfl⟩
theorem mo_M_atMost : mOk y_M_atMost 2 := ⟨⟨by decide +kernel, by decide +kernel, by decide +kernel⟩, tb_m (i := 75) (by decide +kernel) rfl⟩
theorem lm_M_154 : LkS "ClockPostModel" 154 y_M_atMost 2 := ⟨mo_M_atMost, Or.inl (tb_m (i := 905) (by decide +kernel) rfl), tb_m (i := 906) (by decide +kernel) rfl⟩
theorem mo_M_burdenAt : mOk y_M_burdenAt 1 := ⟨⟨by decide +kernel, by decide +kernel, by decide +kernel⟩, tb_m (i := 75) (by decide +kernel) rfl⟩
theorem lm_M_157 : LkV "ClockPostModel" 157 y_M_burdenAt 1 8 := ⟨mo_M_burdenAt, tb_m (i := 891) (by decide +kernel) rfl, tb_m (i := 893) (by decide +kernel) rfl, tb_m (i := 35) (by decide +kernel) rfl, _, rfl, rfl⟩
theorem mo_M_nextToFall : mOk y_M_nextToFall 1 := ⟨⟨by decide +kernel, by decide +kernel, by decide +kernel⟩, tb_m (i := 75) (by decide +kernel) rfl⟩
theorem lm_M_160 : LkV "ClockPostModel" 160 y_M_nextToFall 1 8 := ⟨mo_M_nextToFall, tb_m (i := 908) (by decide +kernel) rfl, tb_m (i := 910) (by decide +kernel) rfl, tb_m (i := 37) (by decide +kernel) rfl, _, rfl, rfl⟩
theorem mo_M_away : mOk y_M_away 3 := ⟨⟨by decide +kernel, by decide +kernel, by decide +kernel⟩, tb_m (i := 75) (by decide +kernel) rfl⟩
theorem lm_M_163 : LkV "ClockPostModel" 163 y_M_away 3 8 := ⟨mo_M_away, tb_m (i := 921) (by decide +kernel) rfl, tb_m (i := 923) (by decide +kernel) rfl, tb_m (i := 40) (by decide +kernel) rfl, _, rfl, rfl⟩
theorem mo_M_pass : mOk y_M_pass 1 := ⟨⟨by decide +kernel, by decide +kernel, by decide +kernel⟩, tb_m (i := 75) (by decide +kernel) rfl⟩
theorem lm_M_167 : LkV "ClockPostModel" 167 y_M_pass 1 8 := ⟨mo_M_pass, tb_m (i := 887) (by decide +kernel) rfl, tb_m (i := 889) (by decide +kernel) rfl, tb_m (i := 34) (by decide +kernel) rfl, _, rfl, rfl⟩
theorem mo_M_keepPast : mOk y_M_keepPast 0 := ⟨⟨by decide +kernel, by decide +kernel, by decide +kernel⟩, tb_m (i := 75) (by decide +kernel) rfl⟩
theorem lm_M_172 : LkV "ClockPostModel" 172 y_M_keepPast 0 8 := ⟨mo_M_keepPast, tb_m (i := 883) (by decide +kernel) rfl, tb_m (i := 885) (by decide +kernel) rfl, tb_m (i := 33) (by decide +kernel) rfl, _, rfl, rfl⟩
theorem mo_M_isLetterThere : mOk y_M_isLetterThere 1 := ⟨⟨by decide +kernel, by decide +kernel, by decide +kernel⟩, tb_m (i := 75) (by decide +kernel) rfl⟩
theorem lm_M_175 : LkV "ClockPostModel" 175 y_M_isLetterThere 1 8 := ⟨mo_M_isLetterThere, tb_m (i := 929) (by decide +kernel) rfl, tb_m (i := 931) (by decide +kernel) rfl, tb_m (i := 41) (by decide +kernel) rfl, _, rfl, rfl⟩
theorem mo_M_answers : mOk y_M_answers 2 := ⟨⟨by decide +kernel, by decide +kernel, by decide +kernel⟩, tb_m (i := 75) (by decide +kernel) rfl⟩
theorem lm_M_178 : LkV "ClockPostModel" 178 y_M_answers 2 8 := ⟨mo_M_answers, tb_m (i := 933) (by decide +kernel) rfl, tb_m (i := 935) (by decide +kernel) rfl, tb_m (i := 42) (by decide +kernel) rfl, _, rfl, rfl⟩
theorem mo_M_posts : mOk y_M_posts 2 := ⟨⟨by decide +kernel, by decide +kernel, by decide +kernel⟩, tb_m (i := 75) (by decide +kernel) rfl⟩
theorem lm_M_181 : LkV "ClockPostModel" 181 y_M_posts 2 8 := ⟨mo_M_posts, tb_m (i := 941) (by decide +kernel) rfl, tb_m (i := 943) (by decide +kernel) rfl, tb_m (i := 43) (by decide +kernel) rfl, _, rfl, rfl⟩
theorem mo_M_layTried : mOk y_M_layTried 0 := ⟨⟨by decide +kernel, by decide +kernel, by decide +kernel⟩, tb_m (i := 75) (by decide +kernel) rfl⟩
theorem lm_M_188 : LkV "ClockPostModel" 188 y_M_layTried 0 8 := ⟨mo_M_layTried, tb_m (i := 963) (by decide +kernel) rfl, tb_m (i := 965) (by decide +kernel) rfl, tb_m (i := 45) (by decide +kernel) rfl, _, rfl, rfl⟩
theorem mo_M_passes : mOk y_M_passes 2 := ⟨⟨by decide +kernel, by decide +kernel, by decide +kernel⟩, tb_m (i := 75) (by decide +kernel) rfl⟩
theorem lm_M_191 : LkV "ClockPostModel" 191 y_M_passes 2 8 := ⟨mo_M_passes, tb_m (i := 967) (by decide +kernel) rfl, tb_m (i := 969) (by decide +kernel) rfl, tb_m (i := 46) (by decide +kernel) rfl, _, rfl, rfl⟩
theorem mo_M_noDays : mOk y_M_noDays 1 := ⟨⟨by decide +kernel, by decide +kernel, by decide +kernel⟩, tb_m (i := 75) (by decide +kernel) rfl⟩
theorem lm_M_194 : LkV "ClockPostModel" 194 y_M_noDays 1 8 := ⟨mo_M_noDays, tb_m (i := 958) (by decide +kernel) rfl, tb_m (i := 960) (by decide +kernel) rfl, tb_m (i := 44) (by decide +kernel) rfl, _, rfl, rfl⟩
theorem mo_M_swapLine : mOk y_M_swapLine 2 := ⟨⟨by decide +kernel, by decide +kernel, by decide +kernel⟩, tb_m (i := 75) (by decide +kernel) rfl⟩
theorem lm_M_197 : LkV "ClockPostModel" 197 y_M_swapLine 2 8 := ⟨mo_M_swapLine, tb_m (i := 997) (by decide +kernel) rfl, tb_m (i := 999) (by decide +kernel) rfl, tb_m (i := 49) (by decide +kernel) rfl, _, rfl, rfl⟩
theorem mo_M_growsBy : mOk y_M_growsBy 1 := ⟨⟨by decide +kernel, by decide +kernel, by decide +kernel⟩, tb_m (i := 75) (by decide +kernel) rfl⟩
theorem lm_M_204 : LkV "ClockPostModel" 204 y_M_growsBy 1 8 := ⟨mo_M_growsBy, tb_m (i := 989) (by decide +kernel) rfl, tb_m (i := 991) (by decide +kernel) rfl, tb_m (i := 47) (by decide +kernel) rfl, _, rfl, rfl⟩
theorem mo_M_nextLine : mOk y_M_nextLine 1 := ⟨⟨by decide +kernel, by decide +kernel, by decide +kernel⟩, tb_m (i := 75) (by decide +kernel) rfl⟩
theorem lm_M_207 : LkV "ClockPostModel" 207 y_M_nextLine 1 8 := ⟨mo_M_nextLine, tb_m (i := 993) (by decide +kernel) rfl, tb_m (i := 995) (by decide +kernel) rfl, tb_m (i := 48) (by decide +kernel) rfl, _, rfl, rfl⟩
theorem mo_M_answersAll : mOk y_M_answersAll 1 := ⟨⟨by decide +kernel, by decide +kernel, by decide +kernel⟩, tb_m (i := 75) (by decide +kernel) rfl⟩
theorem lm_M_210 : LkV "ClockPostModel" 210 y_M_answersAll 1 8 := ⟨mo_M_answersAll, tb_m (i := 1013) (by decide +kernel) rfl, tb_m (i := 1015) (by decide +kernel) rfl, tb_m (i := 52) (by decide +kernel) rfl, _, rfl, rfl⟩
theorem mo_M_holds : mOk y_M_holds 2 := ⟨⟨by decide +kernel, by decide +kernel, by decide +kernel⟩, tb_m (i := 75) (by decide +kernel) rfl⟩
theorem lm_M_214 : LkV "ClockPostModel" 214 y_M_holds 2 8 := ⟨mo_M_holds, tb_m (i := 1009) (by decide +kernel) rfl, tb_m (i := 1011) (by decide +kernel) rfl, tb_m (i := 51) (by decide +kernel) rfl, _, rfl, rfl⟩
theorem mo_M_eases : mOk y_M_eases 3 := ⟨⟨by decide +kernel, by decide +kernel, by decide +kernel⟩, tb_m (i := 75) (by decide +kernel) rfl⟩
theorem lm_M_217 : LkV "ClockPostModel" 217 y_M_eases 3 8 := ⟨mo_M_eases, tb_m (i := 1017) (by decide +kernel) rfl, tb_m (i := 1019) (by decide +kernel) rfl, tb_m (i := 53) (by decide +kernel) rfl, _, rfl, rfl⟩
theorem mo_M_fewest : mOk y_M_fewest 2 := ⟨⟨by decide +kernel, by decide +kernel, by decide +kernel⟩, tb_m (i := 75) (by decide +kernel) rfl⟩
theorem lm_M_220 : LkV "ClockPostModel" 220 y_M_fewest 2 8 := ⟨mo_M_fewest, tb_m (i := 1005) (by decide +kernel) rfl, tb_m (i := 1007) (by decide +kernel) rfl, tb_m (i := 50) (by decide +kernel) rfl, _, rfl, rfl⟩
theorem mo_M_noItems : mOk y_M_noItems 3 := ⟨⟨by decide +kernel, by decide +kernel, by decide +kernel⟩, tb_m (i := 75) (by decide +kernel) rfl⟩
theorem lm_M_227 : LkV "ClockPostModel" 227 y_M_noItems 3 8 := ⟨mo_M_noItems, tb_m (i := 1031) (by decide +kernel) rfl, tb_m (i := 1033) (by decide +kernel) rfl, tb_m (i := 54) (by decide +kernel) rfl, _, rfl, rfl⟩
theorem mo_M_isSo : mOk y_M_isSo 3 := ⟨⟨by decide +kernel, by decide +kernel, by decide +kernel⟩, tb_m (i := 75) (by decide +kernel) rfl⟩
theorem lm_M_231 : LkV "ClockPostModel" 231 y_M_isSo 3 8 := ⟨mo_M_isSo, tb_m (i := 1035) (by decide +kernel) rfl, tb_m (i := 1037) (by decide +kernel) rfl, tb_m (i := 55) (by decide +kernel) rfl, _, rfl, rfl⟩
theorem mo_M_isOf : mOk y_M_isOf 2 := ⟨⟨by decide +kernel, by decide +kernel, by decide +kernel⟩, tb_m (i := 75) (by decide +kernel) rfl⟩
theorem lm_M_244 : LkV "ClockPostModel" 244 y_M_isOf 2 8 := ⟨mo_M_isOf, tb_m (i := 1072) (by decide +kernel) rfl, tb_m (i := 1074) (by decide +kernel) rfl, tb_m (i := 56) (by decide +kernel) rfl, _, rfl, rfl⟩
theorem mo_M_begin : mOk y_M_begin 1 := ⟨⟨by decide +kernel, by decide +kernel, by decide +kernel⟩, tb_m (i := 75) (by decide +kernel) rfl⟩
theorem lm_M_250 : LkV "ClockPostModel" 250 y_M_begin 1 8 := ⟨mo_M_begin, tb_m (i := 1084) (by decide +kernel) rfl, tb_m (i := 1086) (by decide +kernel) rfl, tb_m (i := 58) (by decide +kernel) rfl, _, rfl, rfl⟩
theorem mo_M_lentSize : mOk y_M_lentSize 1 := ⟨⟨by decide +kernel, by decide +kernel, by decide +kernel⟩, tb_m (i := 75) (by decide +kernel) rfl⟩
theorem lm_M_253 : LkV "ClockPostModel" 253 y_M_lentSize 1 8 := ⟨mo_M_lentSize, tb_m (i := 1092) (by decide +kernel) rfl, tb_m (i := 1094) (by decide +kernel) rfl, tb_m (i := 60) (by decide +kernel) rfl, _, rfl, rfl⟩
theorem mo_M_mark : mOk y_M_mark 1 := ⟨⟨by decide +kernel, by decide +kernel, by decide +kernel⟩, tb_m (i := 75) (by decide +kernel) rfl⟩
theorem lm_M_256 : LkV "ClockPostModel" 256 y_M_mark 1 8 := ⟨mo_M_mark, tb_m (i := 1096) (by decide +kernel) rfl, tb_m (i := 1098) (by decide +kernel) rfl, tb_m (i := 61) (by decide +kernel) rfl, _, rfl, rfl⟩
theorem mo_M_billSize : mOk y_M_billSize 1 := ⟨⟨by decide +kernel, by decide +kernel, by decide +kernel⟩, tb_m (i := 75) (by decide +kernel) rfl⟩
theorem lm_M_259 : LkV "ClockPostModel" 259 y_M_billSize 1 8 := ⟨mo_M_billSize, tb_m (i := 1088) (by decide +kernel) rfl, tb_m (i := 1090) (by decide +kernel) rfl, tb_m (i := 59) (by decide +kernel) rfl, _, rfl, rfl⟩
theorem mo_M_noteSize : mOk y_M_noteSize 1 := ⟨⟨by decide +kernel, by decide +kernel, by decide +kernel⟩, tb_m (i := 75) (by decide +kernel) rfl⟩
theorem lm_M_262 : LkV "ClockPostModel" 262 y_M_noteSize 1 8 := ⟨mo_M_noteSize, tb_m (i := 1108) (by decide +kernel) rfl, tb_m (i := 1110) (by decide +kernel) rfl, tb_m (i := 64) (by decide +kernel) rfl, _, rfl, rfl⟩
theorem mo_M_lentMark : mOk y_M_lentMark 1 := ⟨⟨by decide +kernel, by decide +kernel, by decide +kernel⟩, tb_m (i := 75) (by decide +kernel) rfl⟩
theorem lm_M_265 : LkV "ClockPostModel" 265 y_M_lentMark 1 8 := ⟨mo_M_lentMark, tb_m (i := 1104) (by decide +kernel) rfl, tb_m (i := 1106) (by decide +kernel) rfl, tb_m (i := 63) (by decide +kernel) rfl, _, rfl, rfl⟩
theorem mo_M_billMark : mOk y_M_billMark 1 := ⟨⟨by decide +kernel, by decide +kernel, by decide +kernel⟩, tb_m (i := 75) (by decide +kernel) rfl⟩
theorem lm_M_268 : LkV "ClockPostModel" 268 y_M_billMark 1 8 := ⟨mo_M_billMark, tb_m (i := 1100) (by decide +kernel) rfl, tb_m (i := 1102) (by decide +kernel) rfl, tb_m (i := 62) (by decide +kernel) rfl, _, rfl, rfl⟩
theorem mo_M_sizeOf : mOk y_M_sizeOf 1 := ⟨⟨by decide +kernel, by decide +kernel, by decide +kernel⟩, tb_m (i := 75) (by decide +kernel) rfl⟩
theorem lm_M_271 : LkV "ClockPostModel" 271 y_M_sizeOf 1 8 := ⟨mo_M_sizeOf, tb_m (i := 1080) (by decide +kernel) rfl, tb_m (i := 1082) (by decide +kernel) rfl, tb_m (i := 57) (by decide +kernel) rfl, _, rfl, rfl⟩
theorem mo_M_noteMark : mOk y_M_noteMark 1 := ⟨⟨by decide +kernel, by decide +kernel, by decide +kernel⟩, tb_m (i := 75) (by decide +kernel) rfl⟩
theorem lm_M_274 : LkV "ClockPostModel" 274 y_M_noteMark 1 8 := ⟨mo_M_noteMark, tb_m (i := 1112) (by decide +kernel) rfl, tb_m (i := 1114) (by decide +kernel) rfl, tb_m (i := 65) (by decide +kernel) rfl, _, rfl, rfl⟩
theorem lc_X_66 : Cond.constant "ClockPost" 66 (-1000001) ∈ tbl := tb_m (i := 314) (by decide +kernel) rfl
theorem lc_X_113 : Cond.constant "ClockPost" 113 (-1000003) ∈ tbl := tb_m (i := 363) (by decide +kernel) rfl
theorem lc_X_118 : Cond.constant "ClockPost" 118 (-1000100) ∈ tbl := tb_m (i := 415) (by decide +kernel) rfl
theorem lc_X_138 : Cond.constant "ClockPost" 138 (-1000002) ∈ tbl := tb_m (i := 436) (by decide +kernel) rfl
theorem lc_X_212 : Cond.constant "ClockPost" 212 (-1000000) ∈ tbl := tb_m (i := 553) (by decide +kernel) rfl
theorem lc_X_268 : Cond.constant "ClockPost" 268 (999999) ∈ tbl := tb_m (i := 642) (by decide +kernel) rfl
theorem lc_X_269 : Cond.constantLong "ClockPost" 269 (16807) ∈ tbl := tb_m (i := 643) (by decide +kernel) rfl
theorem lc_X_271 : Cond.constantLong "ClockPost" 271 (2147483647) ∈ tbl := tb_m (i := 644) (by decide +kernel) rfl
theorem lc_X_303 : Cond.constant "ClockPost" 303 (-1000010) ∈ tbl := tb_m (i := 319) (by decide +kernel) rfl
theorem lc_H_80 : Cond.constant "ClockPost$House" 80 (-1000000) ∈ tbl := tb_m (i := 475) (by decide +kernel) rfl
theorem lc_H_98 : Cond.constantLong "ClockPost$House" 98 (3) ∈ tbl := tb_m (i := 649) (by decide +kernel) rfl
theorem lc_O_29 : Cond.constant "ClockPost$OrderSearch" 29 (1000000) ∈ tbl := tb_m (i := 564) (by decide +kernel) rfl
theorem lc_M_42 : Cond.constant "ClockPostModel" 42 (-1000010) ∈ tbl := tb_m (i := 789) (by decide +kernel) rfl
theorem lc_M_43 : Cond.constantLong "ClockPostModel" 43 (7) ∈ tbl := tb_m (i := 779) (by decide +kernel) rfl
theorem lc_M_53 : Cond.constantLong "ClockPostModel" 53 (2) ∈ tbl := tb_m (i := 783) (by decide +kernel) rfl
theorem lc_M_55 : Cond.constant "ClockPostModel" 55 (-1000001) ∈ tbl := tb_m (i := 784) (by decide +kernel) rfl
theorem lc_M_71 : Cond.constantLong "ClockPostModel" 71 (255) ∈ tbl := tb_m (i := 817) (by decide +kernel) rfl
theorem lc_M_76 : Cond.constant "ClockPostModel" 76 (-1000003) ∈ tbl := tb_m (i := 818) (by decide +kernel) rfl
theorem lc_M_80 : Cond.constantLong "ClockPostModel" 80 (48) ∈ tbl := tb_m (i := 851) (by decide +kernel) rfl
theorem lc_M_82 : Cond.constantLong "ClockPostModel" 82 (57) ∈ tbl := tb_m (i := 852) (by decide +kernel) rfl
theorem lc_M_125 : Cond.constant "ClockPostModel" 125 (-1000100) ∈ tbl := tb_m (i := 864) (by decide +kernel) rfl
theorem lc_M_137 : Cond.constant "ClockPostModel" 137 (-1000002) ∈ tbl := tb_m (i := 877) (by decide +kernel) rfl
theorem lc_M_147 : Cond.constant "ClockPostModel" 147 (-1000000) ∈ tbl := tb_m (i := 912) (by decide +kernel) rfl
theorem lc_M_170 : Cond.constantLong "ClockPostModel" 170 (24) ∈ tbl := tb_m (i := 882) (by decide +kernel) rfl
theorem lc_M_184 : Cond.constantLong "ClockPostModel" 184 (9) ∈ tbl := tb_m (i := 949) (by decide +kernel) rfl
theorem lc_M_186 : Cond.constantLong "ClockPostModel" 186 (60) ∈ tbl := tb_m (i := 962) (by decide +kernel) rfl
theorem lc_M_200 : Cond.constantLong "ClockPostModel" 200 (-1) ∈ tbl := tb_m (i := 987) (by decide +kernel) rfl
theorem lc_M_202 : Cond.constantLong "ClockPostModel" 202 (5) ∈ tbl := tb_m (i := 988) (by decide +kernel) rfl
theorem lc_M_223 : Cond.constantLong "ClockPostModel" 223 (300) ∈ tbl := tb_m (i := 1025) (by decide +kernel) rfl
theorem lc_M_225 : Cond.constantLong "ClockPostModel" 225 (16) ∈ tbl := tb_m (i := 1030) (by decide +kernel) rfl
theorem lc_M_234 : Cond.constantLong "ClockPostModel" 234 (10) ∈ tbl := tb_m (i := 1047) (by decide +kernel) rfl
theorem lc_M_236 : Cond.constantLong "ClockPostModel" 236 (999999) ∈ tbl := tb_m (i := 1052) (by decide +kernel) rfl
theorem lc_M_238 : Cond.constantLong "ClockPostModel" 238 (16807) ∈ tbl := tb_m (i := 1053) (by decide +kernel) rfl
theorem lc_M_240 : Cond.constantLong "ClockPostModel" 240 (2147483647) ∈ tbl := tb_m (i := 1054) (by decide +kernel) rfl
theorem lc_M_242 : Cond.constantLong "ClockPostModel" 242 (3) ∈ tbl := tb_m (i := 1055) (by decide +kernel) rfl
theorem lc_JI_265 : Cond.constant "java/lang/Integer" 265 (1431655765) ∈ tbl := tb_m (i := 465) (by decide +kernel) rfl
theorem lc_JI_266 : Cond.constant "java/lang/Integer" 266 (858993459) ∈ tbl := tb_m (i := 466) (by decide +kernel) rfl
theorem lc_JI_267 : Cond.constant "java/lang/Integer" 267 (252645135) ∈ tbl := tb_m (i := 467) (by decide +kernel) rfl
