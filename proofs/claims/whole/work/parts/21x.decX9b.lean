def CW9_0 : List Cond := [.code yX9_within cX9_within 3 (some .boolean), .methodLink RX9 3 objectInit, .instanceMethod objectInit, .code objectInit ⟨#[0xb1]⟩ 1 none, .classLink RX9 9 RX6, .fieldLink RX9 11 "NeedleHouse" "tracks" "[LNeedleHouse$Track;", .instantiable RX6 8, .initialized RX6, .classLink RX9 16 RX4, .instantiable RX4 6, .initialized RX4, .fieldLink RX9 19 "NeedleHouse" "reader" "LNeedleHouse$RuleReader;", .fieldLink RX9 27 "NeedleHouse" "tape" "LNeedleHouse$Tape;", .classLink RX9 28 RX3, .instantiable RX3 9, .initialized RX3, .fieldLink RX9 31 "NeedleHouse" "ruling" "LNeedleHouse$Rule;", .fieldLink RX9 35 "NeedleHouse" "draft" "LNeedleHouse$Rule;", .classLink RX9 38 RX7, .instantiable RX7 2, .initialized RX7, .fieldLink RX9 41 "NeedleHouse" "trains" "LNeedleHouse$Trains;", .classLink RX9 45 RX8, .instantiable RX8 2]
def CW9_1 : List Cond := [.initialized RX8, .fieldLink RX9 48 "NeedleHouse" "windows" "LNeedleHouse$Windows;", .fieldLink RX9 52 "NeedleHouse" "endNow" "I", .fieldLink RX9 56 "NeedleHouse" "timesPublished" "I", .methodLink RX9 15 yX6_init, .instanceMethod yX6_init, .code yX6_init cX6_init 1 none, .methodLink RX6 3 objectInit, .classLink RX6 9 RX2, .instantiable RX2 2, .initialized RX2, .fieldLink RX6 12 "NeedleHouse$Track" "row0" "LNeedleHouse$Row;", .fieldLink RX6 18 "NeedleHouse$Track" "row1" "LNeedleHouse$Row;", .classLink RX6 21 RX0, .instantiable RX0 5, .initialized RX0, .fieldLink RX6 24 "NeedleHouse$Track" "measures" "LNeedleHouse$Measures;", .classLink RX6 28 RX1, .instantiable RX1 14, .initialized RX1, .fieldLink RX6 31 "NeedleHouse$Track" "pieces" "LNeedleHouse$Pieces;", .arrayClass .int, .fieldLink RX6 35 "NeedleHouse$Track" "joins" "[I", .fieldLink RX6 39 "NeedleHouse$Track" "finals" "[I"]
def CW9_2 : List Cond := [.fieldLink RX6 42 "NeedleHouse$Track" "kept" "[I", .constant RX6 45 (-2000000000), .fieldLink RX6 52 "NeedleHouse$Track" "settledNear" "I", .methodLink RX6 11 yX2_init, .instanceMethod yX2_init, .code yX2_init cX2_init 1 none, .methodLink RX2 3 objectInit, .fieldLink RX2 9 "NeedleHouse$Row" "readings" "[I", .constant RX2 15 (-2000000000), .fieldLink RX2 22 "NeedleHouse$Row" "size" "I", .methodLink RX2 16 yJ7_fill_53178, .static yJ7_fill_53178, .initialized RJ7, .code yJ7_fill_53178 cJ7_fill_53178 4 none, .methodLink RX6 23 yX0_init, .instanceMethod yX0_init, .code yX0_init cX0_init 1 none, .methodLink RX0 3 objectInit, .fieldLink RX0 9 "NeedleHouse$Measures" "times" "[I", .fieldLink RX0 15 "NeedleHouse$Measures" "means" "[I", .fieldLink RX0 18 "NeedleHouse$Measures" "lefts" "[I", .fieldLink RX0 21 "NeedleHouse$Measures" "ends" "[I", .fieldLink RX0 24 "NeedleHouse$Measures" "size" "I", .methodLink RX6 30 yX1_init]
def CW9_3 : List Cond := [.instanceMethod yX1_init, .code yX1_init cX1_init 1 none, .methodLink RX1 3 objectInit, .fieldLink RX1 9 "NeedleHouse$Pieces" "times" "[I", .fieldLink RX1 15 "NeedleHouse$Pieces" "lows" "[I", .fieldLink RX1 18 "NeedleHouse$Pieces" "highs" "[I", .fieldLink RX1 21 "NeedleHouse$Pieces" "firsts" "[I", .fieldLink RX1 24 "NeedleHouse$Pieces" "lengths" "[I", .fieldLink RX1 27 "NeedleHouse$Pieces" "uppers" "[I", .fieldLink RX1 30 "NeedleHouse$Pieces" "lowers" "[I", .arrayClass .long, .fieldLink RX1 33 "NeedleHouse$Pieces" "middles" "[J", .fieldLink RX1 37 "NeedleHouse$Pieces" "points" "I", .fieldLink RX1 41 "NeedleHouse$Pieces" "size" "I", .methodLink RX6 46 yJ7_fill_53178, .methodLink RX9 18 yX4_init, .instanceMethod yX4_init, .code yX4_init cX4_init 1 none, .methodLink RX4 3 objectInit, .classLink RX4 9 RX5, .instantiable RX5 2, .initialized RX5, .fieldLink RX4 12 "NeedleHouse$RuleReader" "tape" "LNeedleHouse$Tape;", .fieldLink RX4 18 "NeedleHouse$RuleReader" "length" "I"]
def CW9_4 : List Cond := [.fieldLink RX4 22 "NeedleHouse$RuleReader" "place" "I", .fieldLink RX4 25 "NeedleHouse$RuleReader" "numberPlace" "I", .fieldLink RX4 28 "NeedleHouse$RuleReader" "faultKind" "I", .fieldLink RX4 31 "NeedleHouse$RuleReader" "faultPlace" "I", .methodLink RX4 11 yX5_init, .instanceMethod yX5_init, .code yX5_init cX5_init 1 none, .methodLink RX5 3 objectInit, .fieldLink RX5 9 "NeedleHouse$Tape" "bytes" "[I", .fieldLink RX5 15 "NeedleHouse$Tape" "size" "I", .methodLink RX9 30 yX3_init, .instanceMethod yX3_init, .code yX3_init cX3_init 1 none, .methodLink RX3 3 objectInit, .fieldLink RX3 9 "NeedleHouse$Rule" "steps" "[I", .methodLink RX3 15 yX3_reset, .instanceMethod yX3_reset, .selects RX3 yX3_reset yX3_reset, .code yX3_reset cX3_reset 1 none, .fieldLink RX3 18 "NeedleHouse$Rule" "limit" "I", .fieldLink RX3 22 "NeedleHouse$Rule" "near" "I", .fieldLink RX3 25 "NeedleHouse$Rule" "share" "I", .fieldLink RX3 28 "NeedleHouse$Rule" "shareOf" "I", .fieldLink RX3 31 "NeedleHouse$Rule" "window" "I"]
def CW9_5 : List Cond := [.fieldLink RX3 34 "NeedleHouse$Rule" "storm" "I", .fieldLink RX3 37 "NeedleHouse$Rule" "clauses" "I", .methodLink RX3 40 yX3_clearSteps, .instanceMethod yX3_clearSteps, .selects RX3 yX3_clearSteps yX3_clearSteps, .code yX3_clearSteps cX3_clearSteps 1 none, .fieldLink RX3 47 "NeedleHouse$Rule" "stepCount" "I", .methodLink RX3 43 yX3_addStep, .instanceMethod yX3_addStep, .selects RX3 yX3_addStep yX3_addStep, .code yX3_addStep cX3_addStep 2 none, .methodLink RX9 40 yX7_init, .instanceMethod yX7_init, .code yX7_init cX7_init 1 none, .methodLink RX7 3 objectInit, .arrayClass .boolean, .fieldLink RX7 9 "NeedleHouse$Trains" "going" "[Z", .fieldLink RX7 15 "NeedleHouse$Trains" "size" "I", .methodLink RX9 47 yX8_init, .instanceMethod yX8_init, .code yX8_init cX8_init 1 none, .methodLink RX8 3 objectInit, .fieldLink RX8 9 "NeedleHouse$Windows" "indices" "[I", .fieldLink RX8 15 "NeedleHouse$Windows" "size" "I"]
def CW9_6 : List Cond := [.code yX9_init cX9_init 2 none, .code yX9_trackOf cX9_trackOf 2 (some (.object "NeedleHouse$Track")), .classLink RX9 227 "java/lang/IndexOutOfBoundsException", .initialized "java/lang/IndexOutOfBoundsException", .code yX9_trackIn cX9_trackIn 3 (some (.object "NeedleHouse$Track")), .methodLink RX9 63 yX9_within, .static yX9_within, .initialized RX9, .methodLink RX9 110 yX9_trackOf, .instanceMethod yX9_trackOf, .selects RX9 yX9_trackOf yX9_trackOf, .code yX9_demand cX9_demand 1 none, .classLink RX9 261 "java/lang/IllegalArgumentException", .initialized "java/lang/IllegalArgumentException", .methodLink RX9 59 yX9_trackIn, .instanceMethod yX9_trackIn, .selects RX9 yX9_trackIn yX9_trackIn, .methodLink RX9 67 yX9_demand, .static yX9_demand, .methodLink RX9 71 yX6_unsettle, .instanceMethod yX6_unsettle, .selects RX6 yX6_unsettle yX6_unsettle, .code yX6_unsettle cX6_unsettle 1 none, .methodLink RX9 74 yX6_rowOf]
def CW9_7 : List Cond := [.instanceMethod yX6_rowOf, .selects RX6 yX6_rowOf yX6_rowOf, .code yX6_rowOf cX6_rowOf 2 (some (.object "NeedleHouse$Row")), .methodLink RX9 78 yX2_add, .instanceMethod yX2_add, .selects RX2 yX2_add yX2_add, .code yX2_add cX2_add 2 (some .int), .code yX9_read cX9_read 5 (some .int), .methodLink RX9 84 yX2_addLost, .instanceMethod yX2_addLost, .selects RX2 yX2_addLost yX2_addLost, .code yX2_addLost cX2_addLost 2 (some .int), .code yX9_lost cX9_lost 5 (some .int), .methodLink RX9 87 yX2_reading, .instanceMethod yX2_reading, .selects RX2 yX2_reading yX2_reading, .code yX2_reading cX2_reading 2 (some .int), .code yX9_at cX9_at 4 (some .int), .constant RX9 90 (-60000), .constant RX9 91 (60000), .methodLink RX9 92 yX2_move, .instanceMethod yX2_move, .selects RX2 yX2_move yX2_move, .code yX2_move cX2_move 5 (some .int)]
def CW9_8 : List Cond := [.methodLink RX2 26 yX2_canMove, .instanceMethod yX2_canMove, .selects RX2 yX2_canMove yX2_canMove, .code yX2_canMove cX2_canMove 5 (some .boolean), .methodLink RX2 30 yX2_reading, .code yX9_shift cX9_shift 6 (some .int), .methodLink RX9 99 yX6_jumpTime, .instanceMethod yX6_jumpTime, .selects RX6 yX6_jumpTime yX6_jumpTime, .code yX6_jumpTime cX6_jumpTime 9 (some .int), .methodLink RX6 115 yX6_rowOf, .methodLink RX6 119 yX2_step, .instanceMethod yX2_step, .selects RX2 yX2_step yX2_step, .code yX2_step cX2_step 4 (some .int), .methodLink RX2 38 Lib.Math.abs.name, .static Lib.Math.abs.name, .initialized "java/lang/Math", .code Lib.Math.abs.name Lib.Math.abs.code 1 (some .int), .code yX9_jump cX9_jump 4 (some .int), .methodLink RX9 239 yX6_settle, .instanceMethod yX6_settle, .selects RX6 yX6_settle yX6_settle, .code yX6_settle cX6_settle 5 none]
def CW9_9 : List Cond := [.methodLink RX6 69 Lib.Math.min.name, .static Lib.Math.min.name, .code Lib.Math.min.name Lib.Math.min.code 2 (some .int), .methodLink RX6 66 yX6_times, .instanceMethod yX6_times, .selects RX6 yX6_times yX6_times, .code yX6_times cX6_times 1 (some .int), .methodLink RX6 60 Lib.Math.max.name, .static Lib.Math.max.name, .code Lib.Math.max.name Lib.Math.max.code 2 (some .int), .methodLink RX6 56 yX2_size, .instanceMethod yX2_size, .selects RX2 yX2_size yX2_size, .code yX2_size cX2_size 1 (some .int), .methodLink RX6 72 yX2_reading, .methodLink RX6 76 yX6_join, .static yX6_join, .code yX6_join cX6_join 4 (some .int), .methodLink RX6 92 Lib.Math.abs.name, .methodLink RX6 95 yJ9_floorDiv_7cf53, .static yJ9_floorDiv_7cf53, .initialized RJ9, .code yJ9_floorDiv_7cf53 cJ9_floorDiv_7cf53 3 (some .int), .methodLink RX6 80 yX6_takePoints]
def CW9_10 : List Cond := [.instanceMethod yX6_takePoints, .selects RX6 yX6_takePoints yX6_takePoints, .code yX6_takePoints cX6_takePoints 3 none, .methodLink RX6 98 yX1_clear, .instanceMethod yX1_clear, .selects RX1 yX1_clear yX1_clear, .code yX1_clear cX1_clear 1 none, .methodLink RX6 101 yX0_size, .instanceMethod yX0_size, .selects RX0 yX0_size yX0_size, .code yX0_size cX0_size 1 (some .int), .methodLink RX6 102 yX6_pointOf, .instanceMethod yX6_pointOf, .selects RX6 yX6_pointOf yX6_pointOf, .code yX6_pointOf cX6_pointOf 3 (some .int), .methodLink RX6 105 yX0_tell, .instanceMethod yX0_tell, .selects RX0 yX0_tell yX0_tell, .code yX0_tell cX0_tell 3 (some .int), .constant RX0 28 (-2000000000), .methodLink RX6 86 yX6_joinedAt, .instanceMethod yX6_joinedAt, .selects RX6 yX6_joinedAt yX6_joinedAt, .code yX6_joinedAt cX6_joinedAt 2 (some .int)]
def CW9_11 : List Cond := [.methodLink RX6 108 yX1_addPoint, .instanceMethod yX1_addPoint, .selects RX1 yX1_addPoint yX1_addPoint, .code yX1_addPoint cX1_addPoint 4 none, .methodLink RX6 83 yX1_lay, .instanceMethod yX1_lay, .selects RX1 yX1_lay yX1_lay, .code yX1_lay cX1_lay 4 none, .methodLink RX1 44 yX1_fits, .instanceMethod yX1_fits, .selects RX1 yX1_fits yX1_fits, .code yX1_fits cX1_fits 12 (some .boolean), .fieldLink RX1 52 "NeedleHouse$Pieces" "leastLower" "J", .fieldLink RX1 56 "NeedleHouse$Pieces" "leastUpper" "J", .fieldLink RX1 59 "NeedleHouse$Pieces" "mostLower" "J", .fieldLink RX1 62 "NeedleHouse$Pieces" "mostUpper" "J", .methodLink RX1 48 yX1_keepPiece, .instanceMethod yX1_keepPiece, .selects RX1 yX1_keepPiece yX1_keepPiece, .code yX1_keepPiece cX1_keepPiece 10 none, .methodLink RX1 65 Lib.MathLoose.abs_long.x, .static Lib.MathLoose.abs_long.x, .code Lib.MathLoose.abs_long.x Lib.MathLoose.abs_long.code 2 (some .long), .methodLink RX1 71 yX1_commonDivisor]
def CW9_12 : List Cond := [.static yX1_commonDivisor, .code yX1_commonDivisor cX1_commonDivisor 11 (some .long), .methodLink RX1 75 yX1_middleOf, .instanceMethod yX1_middleOf, .selects RX1 yX1_middleOf yX1_middleOf, .code yX1_middleOf cX1_middleOf 12 (some .long), .methodLink RX1 79 Lib.MathLoose.max_long.x, .static Lib.MathLoose.max_long.x, .code Lib.MathLoose.max_long.x Lib.MathLoose.max_long.code 4 (some .long), .methodLink RX1 82 Lib.MathLoose.min_long.x, .static Lib.MathLoose.min_long.x, .code Lib.MathLoose.min_long.x Lib.MathLoose.min_long.code 4 (some .long), .methodLink RX6 89 yX6_together, .instanceMethod yX6_together, .selects RX6 yX6_together yX6_together, .code yX6_together cX6_together 4 (some .int), .methodLink RX6 112 yX1_height, .instanceMethod yX1_height, .selects RX1 yX1_height yX1_height, .code yX1_height cX1_height 3 (some .int), .constant RX1 85 (-2000000000), .constantLong RX1 86 (2), .methodLink RX1 88 yJ9_floorDiv_f86c9, .static yJ9_floorDiv_f86c9]
def CW9_13 : List Cond := [.code yJ9_floorDiv_f86c9 cJ9_floorDiv_f86c9 6 (some .long), .code yX9_settled cX9_settled 3 (some (.object "NeedleHouse$Track")), .methodLink RX9 103 yX9_settled, .instanceMethod yX9_settled, .selects RX9 yX9_settled yX9_settled, .methodLink RX9 107 yX6_joinedAt, .code yX9_joined cX9_joined 3 (some .int), .code yX9_end cX9_end 3 (some .int), .code yX9_isPosition cX9_isPosition 1 (some .boolean), .constant RX9 266 (-100000), .constant RX9 267 (100000), .methodLink RX9 122 Lib.Math.abs.name, .methodLink RX9 113 yX9_isPosition, .static yX9_isPosition, .methodLink RX9 117 yJ9_floorDiv_7cf53, .methodLink RX9 129 yX0_add, .instanceMethod yX0_add, .selects RX0 yX0_add yX0_add, .code yX0_add cX0_add 5 (some .int), .code yX9_measure cX9_measure 10 (some .int), .methodLink RX9 134 yX6_pointOf, .methodLink RX9 137 yX0_tell, .code yX9_told cX9_told 5 (some .int), .methodLink RX9 144 yX1_size]
def CW9_14 : List Cond := [.instanceMethod yX1_size, .selects RX1 yX1_size yX1_size, .code yX1_size cX1_size 1 (some .int), .code yX9_pieces cX9_pieces 2 (some .int), .methodLink RX9 150 yX1_tell, .instanceMethod yX1_tell, .selects RX1 yX1_tell yX1_tell, .code yX1_tell cX1_tell 3 (some .int), .code yX9_piece cX9_piece 5 (some .int), .methodLink RX9 151 yX1_height, .code yX9_baseline cX9_baseline 3 (some .int), .methodLink RX9 154 yX6_finalAt, .instanceMethod yX6_finalAt, .selects RX6 yX6_finalAt yX6_finalAt, .code yX6_finalAt cX6_finalAt 2 (some .int), .code yX9_value cX9_value 3 (some .int), .code yX9_feed cX9_feed 6 (some .int), .methodLink RX9 157 yX5_hasRoom, .instanceMethod yX5_hasRoom, .selects RX5 yX5_hasRoom yX5_hasRoom, .code yX5_hasRoom cX5_hasRoom 2 (some .boolean), .methodLink RX9 162 yX5_put, .instanceMethod yX5_put, .selects RX5 yX5_put yX5_put]
def CW9_15 : List Cond := [.code yX5_put cX5_put 3 none, .methodLink RX9 166 yX5_size, .instanceMethod yX5_size, .selects RX5 yX5_size yX5_size, .code yX5_size cX5_size 1 (some .int), .methodLink RX9 167 yX4_readInto, .instanceMethod yX4_readInto, .selects RX4 yX4_readInto yX4_readInto, .code yX4_readInto cX4_readInto 5 (some .boolean), .methodLink RX4 34 yX3_reset, .methodLink RX4 39 yX4_skipBlanks, .instanceMethod yX4_skipBlanks, .selects RX4 yX4_skipBlanks yX4_skipBlanks, .code yX4_skipBlanks cX4_skipBlanks 1 none, .methodLink RX4 67 yX4_look, .instanceMethod yX4_look, .selects RX4 yX4_look yX4_look, .code yX4_look cX4_look 1 (some .int), .methodLink RX4 132 yX5_byteAt, .instanceMethod yX5_byteAt, .selects RX5 yX5_byteAt yX5_byteAt, .code yX5_byteAt cX5_byteAt 2 (some .int), .methodLink RX4 42 yX4_readClause, .instanceMethod yX4_readClause]
def CW9_16 : List Cond := [.selects RX4 yX4_readClause yX4_readClause, .code yX4_readClause cX4_readClause 5 (some .boolean), .methodLink RX4 46 yX4_readKind, .instanceMethod yX4_readKind, .selects RX4 yX4_readKind yX4_readKind, .code yX4_readKind cX4_readKind 2 (some .int), .methodLink RX4 70 yX4_skipLetters, .instanceMethod yX4_skipLetters, .selects RX4 yX4_skipLetters yX4_skipLetters, .code yX4_skipLetters cX4_skipLetters 1 none, .methodLink RX4 75 yX4_spells, .instanceMethod yX4_spells, .selects RX4 yX4_spells yX4_spells, .code yX4_spells cX4_spells 4 (some .boolean), .methodLink RX4 128 yJ0_length_8abf5, .instanceMethod yJ0_length_8abf5, .selects RJ0 yJ0_length_8abf5 yJ0_length_8abf5, .initialized RJ0, .code yJ0_length_8abf5 cJ0_length_8abf5 1 (some .int), .fieldLink RJ0 9 "java/lang/String" "value" "[B", .methodLink RJ0 335 yJ0_coder_7d493, .instanceMethod yJ0_coder_7d493, .selects RJ0 yJ0_coder_7d493 yJ0_coder_7d493, .code yJ0_coder_7d493 cJ0_coder_7d493 1 (some .byte)]
def CW9_17 : List Cond := [.fieldLink RJ0 38 "java/lang/String" "COMPACT_STRINGS" "Z", .fieldLink RJ0 15 "java/lang/String" "coder" "B", .methodLink RX4 136 yJ0_charAt_5068e, .instanceMethod yJ0_charAt_5068e, .selects RJ0 yJ0_charAt_5068e yJ0_charAt_5068e, .code yJ0_charAt_5068e cJ0_charAt_5068e 2 (some .char), .methodLink RJ0 492 yJ0_isLatin1_aae02, .instanceMethod yJ0_isLatin1_aae02, .selects RJ0 yJ0_isLatin1_aae02 yJ0_isLatin1_aae02, .code yJ0_isLatin1_aae02 cJ0_isLatin1_aae02 1 (some .boolean), .methodLink RJ0 495 yJ1_charAt_3b067, .static yJ1_charAt_3b067, .initialized RJ1, .code yJ1_charAt_3b067 cJ1_charAt_3b067 2 (some .char), .methodLink RJ1 9 yJ0_checkIndex_df160, .static yJ0_checkIndex_df160, .code yJ0_checkIndex_df160 cJ0_checkIndex_df160 2 none, .fieldLink RJ0 1053 "jdk/internal/util/Preconditions" "SIOOBE_FORMATTER" "Ljava/util/function/BiFunction;", .methodLink RJ0 1059 yJ3_checkIndex_8e157, .static yJ3_checkIndex_8e157, .initialized RJ3, .code yJ3_checkIndex_8e157 cJ3_checkIndex_8e157 3 (some .int), .methodLink RJ0 498 yJ2_charAt_3b067, .static yJ2_charAt_3b067]
def CW9_18 : List Cond := [.initialized RJ2, .code yJ2_charAt_3b067 cJ2_charAt_3b067 2 (some .char), .methodLink RJ2 67 yJ2_checkIndex_2214a, .static yJ2_checkIndex_2214a, .code yJ2_checkIndex_2214a cJ2_checkIndex_2214a 2 none, .methodLink RJ2 48 yJ2_length_9d52b, .static yJ2_length_9d52b, .code yJ2_length_9d52b cJ2_length_9d52b 1 (some .int), .methodLink RJ2 414 yJ0_checkIndex_df160, .methodLink RJ2 71 yJ2_getChar_3b067, .static yJ2_getChar_3b067, .code yJ2_getChar_3b067 cJ2_getChar_3b067 2 (some .char), .fieldLink RJ2 44 "java/lang/StringUTF16" "$assertionsDisabled" "Z", .fieldLink RJ2 59 "java/lang/StringUTF16" "HI_BYTE_SHIFT" "I", .fieldLink RJ2 63 "java/lang/StringUTF16" "LO_BYTE_SHIFT" "I", .methodLink RX4 50 yX4_refuse, .instanceMethod yX4_refuse, .selects RX4 yX4_refuse yX4_refuse, .code yX4_refuse cX4_refuse 3 (some .boolean), .methodLink RX4 57 yX4_readSteps, .instanceMethod yX4_readSteps, .selects RX4 yX4_readSteps yX4_readSteps, .code yX4_readSteps cX4_readSteps 5 (some .boolean), .methodLink RX4 111 yX3_clearSteps]
def CW9_19 : List Cond := [.methodLink RX4 89 yX4_readNumber, .instanceMethod yX4_readNumber, .selects RX4 yX4_readNumber yX4_readNumber, .code yX4_readNumber cX4_readNumber 2 (some .int), .methodLink RX4 122 Lib.Math.min.name, .methodLink RX4 118 yX4_isDigit, .static yX4_isDigit, .code yX4_isDigit cX4_isDigit 1 (some .boolean), .methodLink RX4 114 yX3_addStep, .methodLink RX4 60 yX4_readShare, .instanceMethod yX4_readShare, .selects RX4 yX4_readShare yX4_readShare, .code yX4_readShare cX4_readShare 5 (some .boolean), .methodLink RX4 63 yX4_readSetting, .instanceMethod yX4_readSetting, .selects RX4 yX4_readSetting yX4_readSetting, .code yX4_readSetting cX4_readSetting 4 (some .boolean), .methodLink RX9 171 yX5_empty, .instanceMethod yX5_empty, .selects RX5 yX5_empty yX5_empty, .code yX5_empty cX5_empty 1 none, .methodLink RX9 174 yX4_faultKind, .instanceMethod yX4_faultKind, .selects RX4 yX4_faultKind yX4_faultKind]
def CW9_20 : List Cond := [.code yX4_faultKind cX4_faultKind 1 (some .int), .methodLink RX9 177 yX3_become, .instanceMethod yX3_become, .selects RX3 yX3_become yX3_become, .code yX3_become cX3_become 2 none, .methodLink RX3 50 arraycopyName, .native arraycopyName, .static arraycopyName, .initialized "java/lang/System", .code yX9_rule cX9_rule 3 (some .int), .code yX9_fault cX9_fault 1 (some .int), .methodLink RX9 184 yX4_faultPlace, .instanceMethod yX4_faultPlace, .selects RX4 yX4_faultPlace yX4_faultPlace, .code yX4_faultPlace cX4_faultPlace 1 (some .int), .code yX9_train cX9_train 3 (some .int), .methodLink RX9 187 yX7_add, .instanceMethod yX7_add, .selects RX7 yX7_add yX7_add, .code yX7_add cX7_add 4 (some .int), .methodLink RX7 19 Lib.Math.max.name, .code yX9_timesNow cX9_timesNow 3 (some .int), .methodLink RX9 245 Lib.Math.max.name, .methodLink RX9 242 yX6_times]
def CW9_21 : List Cond := [.methodLink RX9 223 yX9_timesNow, .instanceMethod yX9_timesNow, .selects RX9 yX9_timesNow yX9_timesNow, .methodLink RX9 248 yX3_windowsBelow, .instanceMethod yX3_windowsBelow, .selects RX3 yX3_windowsBelow yX3_windowsBelow, .code yX3_windowsBelow cX3_windowsBelow 2 (some .int), .code yX9_windowsNow cX9_windowsNow 1 (some .int), .methodLink RX9 189 yX9_windowsNow, .instanceMethod yX9_windowsNow, .selects RX9 yX9_windowsNow yX9_windowsNow, .methodLink RX9 192 yX6_rangeIn, .instanceMethod yX6_rangeIn, .selects RX6 yX6_rangeIn yX6_rangeIn, .code yX6_rangeIn cX6_rangeIn 10 (some .int), .methodLink RX6 127 yX6_finalAt, .methodLink RX6 130 yX7_goBy, .instanceMethod yX7_goBy, .selects RX7 yX7_goBy yX7_goBy, .code yX7_goBy cX7_goBy 2 (some .boolean), .code yX9_range cX9_range 4 (some .int), .methodLink RX9 251 yX8_clear, .instanceMethod yX8_clear, .selects RX8 yX8_clear yX8_clear]
def CW9_22 : List Cond := [.code yX8_clear cX8_clear 2 none, .methodLink RX8 19 Lib.Math.min.name, .methodLink RX8 25 Lib.Math.max.name, .methodLink RX8 28 yJ7_fill_53178, .methodLink RX9 254 yX8_takeRanges, .instanceMethod yX8_takeRanges, .selects RX8 yX8_takeRanges yX8_takeRanges, .code yX8_takeRanges cX8_takeRanges 5 none, .methodLink RX8 34 yX6_rangeIn, .methodLink RX9 258 yX8_turnRangesToIndices, .instanceMethod yX8_turnRangesToIndices, .selects RX8 yX8_turnRangesToIndices yX8_turnRangesToIndices, .code yX8_turnRangesToIndices cX8_turnRangesToIndices 3 none, .methodLink RX8 40 yX3_stepsUpTo, .instanceMethod yX3_stepsUpTo, .selects RX3 yX3_stepsUpTo yX3_stepsUpTo, .code yX3_stepsUpTo cX3_stepsUpTo 4 (some .int), .code yX9_layWindows cX9_layWindows 2 none, .methodLink RX9 196 yX9_layWindows, .instanceMethod yX9_layWindows, .selects RX9 yX9_layWindows yX9_layWindows, .methodLink RX9 199 yX8_indexOf, .instanceMethod yX8_indexOf, .selects RX8 yX8_indexOf yX8_indexOf]
def CW9_23 : List Cond := [.code yX8_indexOf cX8_indexOf 2 (some .int), .code yX9_index cX9_index 2 (some .int), .methodLink RX9 205 yX8_stormStart, .instanceMethod yX8_stormStart, .selects RX8 yX8_stormStart yX8_stormStart, .code yX8_stormStart cX8_stormStart 6 (some .int), .methodLink RX8 49 yX8_stormLength, .instanceMethod yX8_stormLength, .selects RX8 yX8_stormLength yX8_stormLength, .code yX8_stormLength cX8_stormLength 4 (some .int), .methodLink RX8 46 yX8_indexOf, .methodLink RX9 208 yX8_stormLength, .code yX9_storm cX9_storm 4 (some .int), .methodLink RX9 211 yX8_quietWindow, .instanceMethod yX8_quietWindow, .selects RX8 yX8_quietWindow yX8_quietWindow, .code yX8_quietWindow cX8_quietWindow 5 (some .int), .code yX9_quiet cX9_quiet 2 (some .int), .methodLink RX9 214 yX6_keepFinals, .instanceMethod yX6_keepFinals, .selects RX6 yX6_keepFinals yX6_keepFinals, .code yX6_keepFinals cX6_keepFinals 3 (some .int), .code yX9_publish cX9_publish 3 (some .int), .methodLink RX9 217 yX6_changeTime]
def CW9_24 : List Cond := [.instanceMethod yX6_changeTime, .selects RX6 yX6_changeTime yX6_changeTime, .code yX6_changeTime cX6_changeTime 4 (some .int), .methodLink RX6 142 yX6_keptAt, .instanceMethod yX6_keptAt, .selects RX6 yX6_keptAt yX6_keptAt, .code yX6_keptAt cX6_keptAt 2 (some .int), .code yX9_changed cX9_changed 4 (some .int), .code yX9_published cX9_published 3 (some .int), .methodLink RX9 220 yX6_keptAt, .methodLink RX9 226 yX7_size, .instanceMethod yX7_size, .selects RX7 yX7_size yX7_size, .code yX7_size cX7_size 1 (some .int), .code yX9_count cX9_count 2 (some .int)]
def CW9_u : List Cond := wsX90 ++ (wsX60 ++ (wsX20 ++ (wsX00 ++ (wsX10 ++ (wsX30 ++ (wsX40 ++ (wsX50 ++ (wsX70 ++ (wsX80 ++ ((vx_atS RX9 231 "java/lang/IndexOutOfBoundsException" ["java/lang/RuntimeException", "java/lang/Exception"]).filter goodWord ++ ((vx_atS RX9 265 "java/lang/IllegalArgumentException" ["java/lang/RuntimeException", "java/lang/Exception"]).filter goodWord)))))))))))
def CW9 : List Cond := CW9_0 ++ (CW9_1 ++ (CW9_2 ++ (CW9_3 ++ (CW9_4 ++ (CW9_5 ++ (CW9_6 ++ (CW9_7 ++ (CW9_8 ++ (CW9_9 ++ (CW9_10 ++ (CW9_11 ++ (CW9_12 ++ (CW9_13 ++ (CW9_14 ++ (CW9_15 ++ (CW9_16 ++ (CW9_17 ++ (CW9_18 ++ (CW9_19 ++ (CW9_20 ++ (CW9_21 ++ (CW9_22 ++ (CW9_23 ++ (CW9_24 ++ (CW9_u)))))))))))))))))))))))))
theorem CW9_up : ∀ w ∈ CW9_u, w ∈ CW9 := fun w h => List.mem_append_right _ (List.mem_append_right _ (List.mem_append_right _ (List.mem_append_right _ (List.mem_append_right _ (List.mem_append_right _ (List.mem_append_right _ (List.mem_append_right _ (List.mem_append_right _ (List.mem_append_right _ (List.mem_append_right _ (List.mem_append_right _ (List.mem_append_right _ (List.mem_append_right _ (List.mem_append_right _ (List.mem_append_right _ (List.mem_append_right _ (List.mem_append_right _ (List.mem_append_right _ (List.mem_append_right _ (List.mem_append_right _ (List.mem_append_right _ (List.mem_append_right _ (List.mem_append_right _ (List.mem_append_right _ (h)))))))))))))))))))))))))
theorem iCW9_X9 : ∀ w ∈ wsX90, w ∈ CW9 := fun w h => CW9_up w (List.mem_append_left _ h)
theorem iCW9_X6 : ∀ w ∈ wsX60, w ∈ CW9 := fun w h => CW9_up w (List.mem_append_right _ (List.mem_append_left _ h))
theorem iCW9_X2 : ∀ w ∈ wsX20, w ∈ CW9 := fun w h => CW9_up w (List.mem_append_right _ (List.mem_append_right _ (List.mem_append_left _ h)))
theorem iCW9_X0 : ∀ w ∈ wsX00, w ∈ CW9 := fun w h => CW9_up w (List.mem_append_right _ (List.mem_append_right _ (List.mem_append_right _ (List.mem_append_left _ h))))
theorem iCW9_X1 : ∀ w ∈ wsX10, w ∈ CW9 := fun w h => CW9_up w (List.mem_append_right _ (List.mem_append_right _ (List.mem_append_right _ (List.mem_append_right _ (List.mem_append_left _ h)))))
theorem iCW9_X3 : ∀ w ∈ wsX30, w ∈ CW9 := fun w h => CW9_up w (List.mem_append_right _ (List.mem_append_right _ (List.mem_append_right _ (List.mem_append_right _ (List.mem_append_right _ (List.mem_append_left _ h))))))
theorem iCW9_X4 : ∀ w ∈ wsX40, w ∈ CW9 := fun w h => CW9_up w (List.mem_append_right _ (List.mem_append_right _ (List.mem_append_right _ (List.mem_append_right _ (List.mem_append_right _ (List.mem_append_right _ (List.mem_append_left _ h)))))))
theorem iCW9_X5 : ∀ w ∈ wsX50, w ∈ CW9 := fun w h => CW9_up w (List.mem_append_right _ (List.mem_append_right _ (List.mem_append_right _ (List.mem_append_right _ (List.mem_append_right _ (List.mem_append_right _ (List.mem_append_right _ (List.mem_append_left _ h))))))))
theorem iCW9_X7 : ∀ w ∈ wsX70, w ∈ CW9 := fun w h => CW9_up w (List.mem_append_right _ (List.mem_append_right _ (List.mem_append_right _ (List.mem_append_right _ (List.mem_append_right _ (List.mem_append_right _ (List.mem_append_right _ (List.mem_append_right _ (List.mem_append_left _ h)))))))))
theorem iCW9_X8 : ∀ w ∈ wsX80, w ∈ CW9 := fun w h => CW9_up w (List.mem_append_right _ (List.mem_append_right _ (List.mem_append_right _ (List.mem_append_right _ (List.mem_append_right _ (List.mem_append_right _ (List.mem_append_right _ (List.mem_append_right _ (List.mem_append_right _ (List.mem_append_left _ h))))))))))
theorem iCW9_xI : ∀ w ∈ (vx_atS RX9 231 "java/lang/IndexOutOfBoundsException" ["java/lang/RuntimeException", "java/lang/Exception"]).filter goodWord, w ∈ CW9 := fun w h => CW9_up w (List.mem_append_right _ (List.mem_append_right _ (List.mem_append_right _ (List.mem_append_right _ (List.mem_append_right _ (List.mem_append_right _ (List.mem_append_right _ (List.mem_append_right _ (List.mem_append_right _ (List.mem_append_right _ (List.mem_append_left _ h)))))))))))
theorem iCW9_xA : ∀ w ∈ (vx_atS RX9 265 "java/lang/IllegalArgumentException" ["java/lang/RuntimeException", "java/lang/Exception"]).filter goodWord, w ∈ CW9 := fun w h => CW9_up w (List.mem_append_right _ (List.mem_append_right _ (List.mem_append_right _ (List.mem_append_right _ (List.mem_append_right _ (List.mem_append_right _ (List.mem_append_right _ (List.mem_append_right _ (List.mem_append_right _ (List.mem_append_right _ (List.mem_append_right _ (h))))))))))))
theorem CW9_good : CW9.all goodWord = true := by decide +kernel
def wvX9_within : List Cond := .code yX9_within cX9_within 3 (some .boolean) :: CW9
def wvX9_init : List Cond := .code yX9_init cX9_init 2 none :: CW9
def wvX9_trackOf : List Cond := .code yX9_trackOf cX9_trackOf 2 (some (.object "NeedleHouse$Track")) :: CW9
def wvX9_trackIn : List Cond := .code yX9_trackIn cX9_trackIn 3 (some (.object "NeedleHouse$Track")) :: CW9
def wvX9_demand : List Cond := .code yX9_demand cX9_demand 1 none :: CW9
def wvX9_read : List Cond := .code yX9_read cX9_read 5 (some .int) :: CW9
def wvX9_lost : List Cond := .code yX9_lost cX9_lost 5 (some .int) :: CW9
def wvX9_at : List Cond := .code yX9_at cX9_at 4 (some .int) :: CW9
def wvX9_shift : List Cond := .code yX9_shift cX9_shift 6 (some .int) :: CW9
def wvX9_jump : List Cond := .code yX9_jump cX9_jump 4 (some .int) :: CW9
def wvX9_settled : List Cond := .code yX9_settled cX9_settled 3 (some (.object "NeedleHouse$Track")) :: CW9
def wvX9_joined : List Cond := .code yX9_joined cX9_joined 3 (some .int) :: CW9
def wvX9_end : List Cond := .code yX9_end cX9_end 3 (some .int) :: CW9
def wvX9_isPosition : List Cond := .code yX9_isPosition cX9_isPosition 1 (some .boolean) :: CW9
def wvX9_measure : List Cond := .code yX9_measure cX9_measure 10 (some .int) :: CW9
def wvX9_told : List Cond := .code yX9_told cX9_told 5 (some .int) :: CW9
def wvX9_pieces : List Cond := .code yX9_pieces cX9_pieces 2 (some .int) :: CW9
def wvX9_piece : List Cond := .code yX9_piece cX9_piece 5 (some .int) :: CW9
def wvX9_baseline : List Cond := .code yX9_baseline cX9_baseline 3 (some .int) :: CW9
def wvX9_value : List Cond := .code yX9_value cX9_value 3 (some .int) :: CW9
def wvX9_feed : List Cond := .code yX9_feed cX9_feed 6 (some .int) :: CW9
def wvX9_rule : List Cond := .code yX9_rule cX9_rule 3 (some .int) :: CW9
def wvX9_fault : List Cond := .code yX9_fault cX9_fault 1 (some .int) :: CW9
def wvX9_train : List Cond := .code yX9_train cX9_train 3 (some .int) :: CW9
def wvX9_timesNow : List Cond := .code yX9_timesNow cX9_timesNow 3 (some .int) :: CW9
def wvX9_windowsNow : List Cond := .code yX9_windowsNow cX9_windowsNow 1 (some .int) :: CW9
def wvX9_range : List Cond := .code yX9_range cX9_range 4 (some .int) :: CW9
def wvX9_layWindows : List Cond := .code yX9_layWindows cX9_layWindows 2 none :: CW9
def wvX9_index : List Cond := .code yX9_index cX9_index 2 (some .int) :: CW9
def wvX9_storm : List Cond := .code yX9_storm cX9_storm 4 (some .int) :: CW9
def wvX9_quiet : List Cond := .code yX9_quiet cX9_quiet 2 (some .int) :: CW9
def wvX9_publish : List Cond := .code yX9_publish cX9_publish 3 (some .int) :: CW9
def wvX9_changed : List Cond := .code yX9_changed cX9_changed 4 (some .int) :: CW9
def wvX9_published : List Cond := .code yX9_published cX9_published 3 (some .int) :: CW9
def wvX9_count : List Cond := .code yX9_count cX9_count 2 (some .int) :: CW9
theorem dX9_init_0 : decode cX9_init 0 = .ok (.aload_n 0, 1) := by decide +kernel
theorem dX9_init_1 : decode cX9_init 1 = .ok (.invokespecial 3, 3) := by decide +kernel
theorem dX9_init_4 : decode cX9_init 4 = .ok (.aload_n 0, 1) := by decide +kernel
theorem dX9_init_5 : decode cX9_init 5 = .ok (.iconst 3, 1) := by decide +kernel
theorem dX9_init_6 : decode cX9_init 6 = .ok (.anewarray 9, 3) := by decide +kernel
theorem dX9_init_9 : decode cX9_init 9 = .ok (.putfield 11, 3) := by decide +kernel
theorem dX9_init_12 : decode cX9_init 12 = .ok (.iconst 0, 1) := by decide +kernel
theorem dX9_init_13 : decode cX9_init 13 = .ok (.istore_n 1, 1) := by decide +kernel
theorem dX9_init_14 : decode cX9_init 14 = .ok (.iload_n 1, 1) := by decide +kernel
theorem dX9_init_15 : decode cX9_init 15 = .ok (.aload_n 0, 1) := by decide +kernel
theorem dX9_init_16 : decode cX9_init 16 = .ok (.getfield 11, 3) := by decide +kernel
theorem dX9_init_19 : decode cX9_init 19 = .ok (.arraylength, 1) := by decide +kernel
theorem dX9_init_20 : decode cX9_init 20 = .ok (.if_icmp .ge 22, 3) := by decide +kernel
theorem dX9_init_23 : decode cX9_init 23 = .ok (.aload_n 0, 1) := by decide +kernel
theorem dX9_init_24 : decode cX9_init 24 = .ok (.getfield 11, 3) := by decide +kernel
theorem dX9_init_27 : decode cX9_init 27 = .ok (.iload_n 1, 1) := by decide +kernel
theorem dX9_init_28 : decode cX9_init 28 = .ok (.new 9, 3) := by decide +kernel
theorem dX9_init_31 : decode cX9_init 31 = .ok (.dup, 1) := by decide +kernel
theorem dX9_init_32 : decode cX9_init 32 = .ok (.invokespecial 15, 3) := by decide +kernel
theorem dX9_init_35 : decode cX9_init 35 = .ok (.aastore, 1) := by decide +kernel
theorem dX9_init_36 : decode cX9_init 36 = .ok (.iinc 1 1, 3) := by decide +kernel
theorem dX9_init_39 : decode cX9_init 39 = .ok (.goto (-25), 3) := by decide +kernel
theorem dX9_init_42 : decode cX9_init 42 = .ok (.aload_n 0, 1) := by decide +kernel
theorem dX9_init_43 : decode cX9_init 43 = .ok (.new 16, 3) := by decide +kernel
theorem dX9_init_46 : decode cX9_init 46 = .ok (.dup, 1) := by decide +kernel
theorem dX9_init_47 : decode cX9_init 47 = .ok (.invokespecial 18, 3) := by decide +kernel
theorem dX9_init_50 : decode cX9_init 50 = .ok (.putfield 19, 3) := by decide +kernel
theorem dX9_init_53 : decode cX9_init 53 = .ok (.aload_n 0, 1) := by decide +kernel
theorem dX9_init_54 : decode cX9_init 54 = .ok (.aload_n 0, 1) := by decide +kernel
theorem dX9_init_55 : decode cX9_init 55 = .ok (.getfield 19, 3) := by decide +kernel
theorem dX9_init_58 : decode cX9_init 58 = .ok (.getfield 23, 3) := by decide +kernel
theorem dX9_init_61 : decode cX9_init 61 = .ok (.putfield 27, 3) := by decide +kernel
theorem dX9_init_64 : decode cX9_init 64 = .ok (.aload_n 0, 1) := by decide +kernel
theorem dX9_init_65 : decode cX9_init 65 = .ok (.new 28, 3) := by decide +kernel
theorem dX9_init_68 : decode cX9_init 68 = .ok (.dup, 1) := by decide +kernel
theorem dX9_init_69 : decode cX9_init 69 = .ok (.invokespecial 30, 3) := by decide +kernel
theorem dX9_init_72 : decode cX9_init 72 = .ok (.putfield 31, 3) := by decide +kernel
theorem dX9_init_75 : decode cX9_init 75 = .ok (.aload_n 0, 1) := by decide +kernel
theorem dX9_init_76 : decode cX9_init 76 = .ok (.new 28, 3) := by decide +kernel
theorem dX9_init_79 : decode cX9_init 79 = .ok (.dup, 1) := by decide +kernel
theorem dX9_init_80 : decode cX9_init 80 = .ok (.invokespecial 30, 3) := by decide +kernel
theorem dX9_init_83 : decode cX9_init 83 = .ok (.putfield 35, 3) := by decide +kernel
theorem dX9_init_86 : decode cX9_init 86 = .ok (.aload_n 0, 1) := by decide +kernel
theorem dX9_init_87 : decode cX9_init 87 = .ok (.new 38, 3) := by decide +kernel
theorem dX9_init_90 : decode cX9_init 90 = .ok (.dup, 1) := by decide +kernel
theorem dX9_init_91 : decode cX9_init 91 = .ok (.invokespecial 40, 3) := by decide +kernel
theorem dX9_init_94 : decode cX9_init 94 = .ok (.putfield 41, 3) := by decide +kernel
theorem dX9_init_97 : decode cX9_init 97 = .ok (.aload_n 0, 1) := by decide +kernel
theorem dX9_init_98 : decode cX9_init 98 = .ok (.new 45, 3) := by decide +kernel
theorem dX9_init_101 : decode cX9_init 101 = .ok (.dup, 1) := by decide +kernel
theorem dX9_init_102 : decode cX9_init 102 = .ok (.invokespecial 47, 3) := by decide +kernel
theorem dX9_init_105 : decode cX9_init 105 = .ok (.putfield 48, 3) := by decide +kernel
theorem dX9_init_108 : decode cX9_init 108 = .ok (.aload_n 0, 1) := by decide +kernel
theorem dX9_init_109 : decode cX9_init 109 = .ok (.iconst 3, 1) := by decide +kernel
theorem dX9_init_110 : decode cX9_init 110 = .ok (.putfield 52, 3) := by decide +kernel
theorem dX9_init_113 : decode cX9_init 113 = .ok (.aload_n 0, 1) := by decide +kernel
theorem dX9_init_114 : decode cX9_init 114 = .ok (.iconst 0, 1) := by decide +kernel
theorem dX9_init_115 : decode cX9_init 115 = .ok (.putfield 56, 3) := by decide +kernel
theorem dX9_init_118 : decode cX9_init 118 = .ok (.return_, 1) := by decide +kernel
theorem dX9_read_0 : decode cX9_read 0 = .ok (.aload_n 0, 1) := by decide +kernel
theorem dX9_read_1 : decode cX9_read 1 = .ok (.iload_n 1, 1) := by decide +kernel
theorem dX9_read_2 : decode cX9_read 2 = .ok (.iload_n 2, 1) := by decide +kernel
theorem dX9_read_3 : decode cX9_read 3 = .ok (.invokevirtual 59, 3) := by decide +kernel
theorem dX9_read_6 : decode cX9_read 6 = .ok (.astore 4, 2) := by decide +kernel
theorem dX9_read_8 : decode cX9_read 8 = .ok (.iload_n 3, 1) := by decide +kernel
theorem dX9_read_9 : decode cX9_read 9 = .ok (.sipush (-30000), 3) := by decide +kernel
theorem dX9_read_12 : decode cX9_read 12 = .ok (.sipush 30000, 3) := by decide +kernel
theorem dX9_read_15 : decode cX9_read 15 = .ok (.invokestatic 63, 3) := by decide +kernel
theorem dX9_read_18 : decode cX9_read 18 = .ok (.invokestatic 67, 3) := by decide +kernel
theorem dX9_read_21 : decode cX9_read 21 = .ok (.aload 4, 2) := by decide +kernel
theorem dX9_read_23 : decode cX9_read 23 = .ok (.invokevirtual 71, 3) := by decide +kernel
theorem dX9_read_26 : decode cX9_read 26 = .ok (.aload 4, 2) := by decide +kernel
theorem dX9_read_28 : decode cX9_read 28 = .ok (.iload_n 1, 1) := by decide +kernel
theorem dX9_read_29 : decode cX9_read 29 = .ok (.invokevirtual 74, 3) := by decide +kernel
theorem dX9_read_32 : decode cX9_read 32 = .ok (.iload_n 3, 1) := by decide +kernel
theorem dX9_read_33 : decode cX9_read 33 = .ok (.invokevirtual 78, 3) := by decide +kernel
theorem dX9_read_36 : decode cX9_read 36 = .ok (.ireturn, 1) := by decide +kernel
theorem dX9_lost_0 : decode cX9_lost 0 = .ok (.aload_n 0, 1) := by decide +kernel
theorem dX9_lost_1 : decode cX9_lost 1 = .ok (.iload_n 1, 1) := by decide +kernel
theorem dX9_lost_2 : decode cX9_lost 2 = .ok (.iload_n 2, 1) := by decide +kernel
theorem dX9_lost_3 : decode cX9_lost 3 = .ok (.invokevirtual 59, 3) := by decide +kernel
theorem dX9_lost_6 : decode cX9_lost 6 = .ok (.astore 4, 2) := by decide +kernel
theorem dX9_lost_8 : decode cX9_lost 8 = .ok (.iload_n 3, 1) := by decide +kernel
theorem dX9_lost_9 : decode cX9_lost 9 = .ok (.iconst 1, 1) := by decide +kernel
theorem dX9_lost_10 : decode cX9_lost 10 = .ok (.sipush 300, 3) := by decide +kernel
theorem dX9_lost_13 : decode cX9_lost 13 = .ok (.invokestatic 63, 3) := by decide +kernel
theorem dX9_lost_16 : decode cX9_lost 16 = .ok (.invokestatic 67, 3) := by decide +kernel
theorem dX9_lost_19 : decode cX9_lost 19 = .ok (.aload 4, 2) := by decide +kernel
theorem dX9_lost_21 : decode cX9_lost 21 = .ok (.invokevirtual 71, 3) := by decide +kernel
theorem dX9_lost_24 : decode cX9_lost 24 = .ok (.aload 4, 2) := by decide +kernel
theorem dX9_lost_26 : decode cX9_lost 26 = .ok (.iload_n 1, 1) := by decide +kernel
theorem dX9_lost_27 : decode cX9_lost 27 = .ok (.invokevirtual 74, 3) := by decide +kernel
theorem dX9_lost_30 : decode cX9_lost 30 = .ok (.iload_n 3, 1) := by decide +kernel
theorem dX9_lost_31 : decode cX9_lost 31 = .ok (.invokevirtual 84, 3) := by decide +kernel
theorem dX9_lost_34 : decode cX9_lost 34 = .ok (.ireturn, 1) := by decide +kernel
theorem dX9_at_0 : decode cX9_at 0 = .ok (.aload_n 0, 1) := by decide +kernel
theorem dX9_at_1 : decode cX9_at 1 = .ok (.iload_n 1, 1) := by decide +kernel
theorem dX9_at_2 : decode cX9_at 2 = .ok (.iload_n 2, 1) := by decide +kernel
theorem dX9_at_3 : decode cX9_at 3 = .ok (.invokevirtual 59, 3) := by decide +kernel
theorem dX9_at_6 : decode cX9_at 6 = .ok (.iload_n 1, 1) := by decide +kernel
theorem dX9_at_7 : decode cX9_at 7 = .ok (.invokevirtual 74, 3) := by decide +kernel
theorem dX9_at_10 : decode cX9_at 10 = .ok (.iload_n 3, 1) := by decide +kernel
theorem dX9_at_11 : decode cX9_at 11 = .ok (.invokevirtual 87, 3) := by decide +kernel
theorem dX9_at_14 : decode cX9_at 14 = .ok (.ireturn, 1) := by decide +kernel
theorem dX9_shift_0 : decode cX9_shift 0 = .ok (.aload_n 0, 1) := by decide +kernel
theorem dX9_shift_1 : decode cX9_shift 1 = .ok (.iload_n 1, 1) := by decide +kernel
theorem dX9_shift_2 : decode cX9_shift 2 = .ok (.iload_n 2, 1) := by decide +kernel
theorem dX9_shift_3 : decode cX9_shift 3 = .ok (.invokevirtual 59, 3) := by decide +kernel
theorem dX9_shift_6 : decode cX9_shift 6 = .ok (.astore 5, 2) := by decide +kernel
theorem dX9_shift_8 : decode cX9_shift 8 = .ok (.iload_n 3, 1) := by decide +kernel
theorem dX9_shift_9 : decode cX9_shift 9 = .ok (.ifCond .lt 19, 3) := by decide +kernel
theorem dX9_shift_12 : decode cX9_shift 12 = .ok (.iload 4, 2) := by decide +kernel
theorem dX9_shift_14 : decode cX9_shift 14 = .ok (.ldc 90, 2) := by decide +kernel
theorem dX9_shift_16 : decode cX9_shift 16 = .ok (.ldc 91, 2) := by decide +kernel
theorem dX9_shift_18 : decode cX9_shift 18 = .ok (.invokestatic 63, 3) := by decide +kernel
theorem dX9_shift_21 : decode cX9_shift 21 = .ok (.ifCond .eq 7, 3) := by decide +kernel
theorem dX9_shift_24 : decode cX9_shift 24 = .ok (.iconst 1, 1) := by decide +kernel
theorem dX9_shift_25 : decode cX9_shift 25 = .ok (.goto 4, 3) := by decide +kernel
theorem dX9_shift_28 : decode cX9_shift 28 = .ok (.iconst 0, 1) := by decide +kernel
theorem dX9_shift_29 : decode cX9_shift 29 = .ok (.invokestatic 67, 3) := by decide +kernel
theorem dX9_shift_32 : decode cX9_shift 32 = .ok (.aload 5, 2) := by decide +kernel
theorem dX9_shift_34 : decode cX9_shift 34 = .ok (.invokevirtual 71, 3) := by decide +kernel
theorem dX9_shift_37 : decode cX9_shift 37 = .ok (.aload 5, 2) := by decide +kernel
theorem dX9_shift_39 : decode cX9_shift 39 = .ok (.iload_n 1, 1) := by decide +kernel
theorem dX9_shift_40 : decode cX9_shift 40 = .ok (.invokevirtual 74, 3) := by decide +kernel
theorem dX9_shift_43 : decode cX9_shift 43 = .ok (.iload_n 3, 1) := by decide +kernel
theorem dX9_shift_44 : decode cX9_shift 44 = .ok (.iload 4, 2) := by decide +kernel
theorem dX9_shift_46 : decode cX9_shift 46 = .ok (.invokevirtual 92, 3) := by decide +kernel
theorem dX9_shift_49 : decode cX9_shift 49 = .ok (.ireturn, 1) := by decide +kernel
theorem dX9_jump_0 : decode cX9_jump 0 = .ok (.aload_n 0, 1) := by decide +kernel
theorem dX9_jump_1 : decode cX9_jump 1 = .ok (.iload_n 1, 1) := by decide +kernel
theorem dX9_jump_2 : decode cX9_jump 2 = .ok (.iload_n 2, 1) := by decide +kernel
theorem dX9_jump_3 : decode cX9_jump 3 = .ok (.invokevirtual 59, 3) := by decide +kernel
theorem dX9_jump_6 : decode cX9_jump 6 = .ok (.iload_n 1, 1) := by decide +kernel
theorem dX9_jump_7 : decode cX9_jump 7 = .ok (.iload_n 3, 1) := by decide +kernel
theorem dX9_jump_8 : decode cX9_jump 8 = .ok (.aload_n 0, 1) := by decide +kernel
theorem dX9_jump_9 : decode cX9_jump 9 = .ok (.getfield 31, 3) := by decide +kernel
theorem dX9_jump_12 : decode cX9_jump 12 = .ok (.getfield 96, 3) := by decide +kernel
theorem dX9_jump_15 : decode cX9_jump 15 = .ok (.invokevirtual 99, 3) := by decide +kernel
theorem dX9_jump_18 : decode cX9_jump 18 = .ok (.ireturn, 1) := by decide +kernel
theorem dX9_joined_0 : decode cX9_joined 0 = .ok (.aload_n 0, 1) := by decide +kernel
theorem dX9_joined_1 : decode cX9_joined 1 = .ok (.iload_n 1, 1) := by decide +kernel
theorem dX9_joined_2 : decode cX9_joined 2 = .ok (.invokevirtual 103, 3) := by decide +kernel
theorem dX9_joined_5 : decode cX9_joined 5 = .ok (.iload_n 2, 1) := by decide +kernel
theorem dX9_joined_6 : decode cX9_joined 6 = .ok (.invokevirtual 107, 3) := by decide +kernel
theorem dX9_joined_9 : decode cX9_joined 9 = .ok (.ireturn, 1) := by decide +kernel
theorem dX9_end_0 : decode cX9_end 0 = .ok (.iload_n 1, 1) := by decide +kernel
theorem dX9_end_1 : decode cX9_end 1 = .ok (.iconst 0, 1) := by decide +kernel
theorem dX9_end_2 : decode cX9_end 2 = .ok (.sipush 1000, 3) := by decide +kernel
theorem dX9_end_5 : decode cX9_end 5 = .ok (.invokestatic 63, 3) := by decide +kernel
theorem dX9_end_8 : decode cX9_end 8 = .ok (.invokestatic 67, 3) := by decide +kernel
theorem dX9_end_11 : decode cX9_end 11 = .ok (.aload_n 0, 1) := by decide +kernel
theorem dX9_end_12 : decode cX9_end 12 = .ok (.getfield 52, 3) := by decide +kernel
theorem dX9_end_15 : decode cX9_end 15 = .ok (.istore_n 2, 1) := by decide +kernel
theorem dX9_end_16 : decode cX9_end 16 = .ok (.aload_n 0, 1) := by decide +kernel
theorem dX9_end_17 : decode cX9_end 17 = .ok (.iload_n 1, 1) := by decide +kernel
theorem dX9_end_18 : decode cX9_end 18 = .ok (.putfield 52, 3) := by decide +kernel
theorem dX9_end_21 : decode cX9_end 21 = .ok (.iload_n 2, 1) := by decide +kernel
theorem dX9_end_22 : decode cX9_end 22 = .ok (.ireturn, 1) := by decide +kernel
theorem dX9_measure_0 : decode cX9_measure 0 = .ok (.aload_n 0, 1) := by decide +kernel
theorem dX9_measure_1 : decode cX9_measure 1 = .ok (.iload_n 1, 1) := by decide +kernel
theorem dX9_measure_2 : decode cX9_measure 2 = .ok (.invokevirtual 110, 3) := by decide +kernel
theorem dX9_measure_5 : decode cX9_measure 5 = .ok (.astore 7, 2) := by decide +kernel
theorem dX9_measure_7 : decode cX9_measure 7 = .ok (.iload_n 2, 1) := by decide +kernel
theorem dX9_measure_8 : decode cX9_measure 8 = .ok (.iconst 0, 1) := by decide +kernel
theorem dX9_measure_9 : decode cX9_measure 9 = .ok (.sipush 299, 3) := by decide +kernel
theorem dX9_measure_12 : decode cX9_measure 12 = .ok (.invokestatic 63, 3) := by decide +kernel
theorem dX9_measure_15 : decode cX9_measure 15 = .ok (.ifCond .eq 38, 3) := by decide +kernel
theorem dX9_measure_18 : decode cX9_measure 18 = .ok (.iload_n 3, 1) := by decide +kernel
theorem dX9_measure_19 : decode cX9_measure 19 = .ok (.invokestatic 113, 3) := by decide +kernel
theorem dX9_measure_22 : decode cX9_measure 22 = .ok (.ifCond .eq 31, 3) := by decide +kernel
theorem dX9_measure_25 : decode cX9_measure 25 = .ok (.iload 4, 2) := by decide +kernel
theorem dX9_measure_27 : decode cX9_measure 27 = .ok (.invokestatic 113, 3) := by decide +kernel
theorem dX9_measure_30 : decode cX9_measure 30 = .ok (.ifCond .eq 23, 3) := by decide +kernel
theorem dX9_measure_33 : decode cX9_measure 33 = .ok (.iload 5, 2) := by decide +kernel
theorem dX9_measure_35 : decode cX9_measure 35 = .ok (.invokestatic 113, 3) := by decide +kernel
theorem dX9_measure_38 : decode cX9_measure 38 = .ok (.ifCond .eq 15, 3) := by decide +kernel
theorem dX9_measure_41 : decode cX9_measure 41 = .ok (.iload 6, 2) := by decide +kernel
theorem dX9_measure_43 : decode cX9_measure 43 = .ok (.invokestatic 113, 3) := by decide +kernel
theorem dX9_measure_46 : decode cX9_measure 46 = .ok (.ifCond .eq 7, 3) := by decide +kernel
theorem dX9_measure_49 : decode cX9_measure 49 = .ok (.iconst 1, 1) := by decide +kernel
theorem dX9_measure_50 : decode cX9_measure 50 = .ok (.goto 4, 3) := by decide +kernel
theorem dX9_measure_53 : decode cX9_measure 53 = .ok (.iconst 0, 1) := by decide +kernel
theorem dX9_measure_54 : decode cX9_measure 54 = .ok (.invokestatic 67, 3) := by decide +kernel
theorem dX9_measure_57 : decode cX9_measure 57 = .ok (.aload 7, 2) := by decide +kernel
theorem dX9_measure_59 : decode cX9_measure 59 = .ok (.invokevirtual 71, 3) := by decide +kernel
theorem dX9_measure_62 : decode cX9_measure 62 = .ok (.iload_n 3, 1) := by decide +kernel
theorem dX9_measure_63 : decode cX9_measure 63 = .ok (.iload 4, 2) := by decide +kernel
theorem dX9_measure_65 : decode cX9_measure 65 = .ok (.iadd, 1) := by decide +kernel
theorem dX9_measure_66 : decode cX9_measure 66 = .ok (.iload 5, 2) := by decide +kernel
theorem dX9_measure_68 : decode cX9_measure 68 = .ok (.iadd, 1) := by decide +kernel
theorem dX9_measure_69 : decode cX9_measure 69 = .ok (.iload 6, 2) := by decide +kernel
theorem dX9_measure_71 : decode cX9_measure 71 = .ok (.iadd, 1) := by decide +kernel
theorem dX9_measure_72 : decode cX9_measure 72 = .ok (.iconst 4, 1) := by decide +kernel
theorem dX9_measure_73 : decode cX9_measure 73 = .ok (.invokestatic 117, 3) := by decide +kernel
theorem dX9_measure_76 : decode cX9_measure 76 = .ok (.istore 8, 2) := by decide +kernel
theorem dX9_measure_78 : decode cX9_measure 78 = .ok (.iload_n 3, 1) := by decide +kernel
theorem dX9_measure_79 : decode cX9_measure 79 = .ok (.iload 4, 2) := by decide +kernel
theorem dX9_measure_81 : decode cX9_measure 81 = .ok (.iadd, 1) := by decide +kernel
theorem dX9_measure_82 : decode cX9_measure 82 = .ok (.iload 5, 2) := by decide +kernel
theorem dX9_measure_84 : decode cX9_measure 84 = .ok (.isub, 1) := by decide +kernel
theorem dX9_measure_85 : decode cX9_measure 85 = .ok (.iload 6, 2) := by decide +kernel
theorem dX9_measure_87 : decode cX9_measure 87 = .ok (.isub, 1) := by decide +kernel
theorem dX9_measure_88 : decode cX9_measure 88 = .ok (.invokestatic 122, 3) := by decide +kernel
theorem dX9_measure_91 : decode cX9_measure 91 = .ok (.istore 9, 2) := by decide +kernel
theorem dX9_measure_93 : decode cX9_measure 93 = .ok (.aload 7, 2) := by decide +kernel
theorem dX9_measure_95 : decode cX9_measure 95 = .ok (.getfield 125, 3) := by decide +kernel
theorem dX9_measure_98 : decode cX9_measure 98 = .ok (.iload_n 2, 1) := by decide +kernel
theorem dX9_measure_99 : decode cX9_measure 99 = .ok (.iload 8, 2) := by decide +kernel
theorem dX9_measure_101 : decode cX9_measure 101 = .ok (.iload 9, 2) := by decide +kernel
theorem dX9_measure_103 : decode cX9_measure 103 = .ok (.aload_n 0, 1) := by decide +kernel
theorem dX9_measure_104 : decode cX9_measure 104 = .ok (.getfield 52, 3) := by decide +kernel
theorem dX9_measure_107 : decode cX9_measure 107 = .ok (.invokevirtual 129, 3) := by decide +kernel
theorem dX9_measure_110 : decode cX9_measure 110 = .ok (.ireturn, 1) := by decide +kernel
theorem dX9_told_0 : decode cX9_told 0 = .ok (.aload_n 0, 1) := by decide +kernel
theorem dX9_told_1 : decode cX9_told 1 = .ok (.iload_n 1, 1) := by decide +kernel
theorem dX9_told_2 : decode cX9_told 2 = .ok (.invokevirtual 103, 3) := by decide +kernel
theorem dX9_told_5 : decode cX9_told 5 = .ok (.astore 4, 2) := by decide +kernel
theorem dX9_told_7 : decode cX9_told 7 = .ok (.iload_n 3, 1) := by decide +kernel
theorem dX9_told_8 : decode cX9_told 8 = .ok (.iconst 0, 1) := by decide +kernel
theorem dX9_told_9 : decode cX9_told 9 = .ok (.iconst 4, 1) := by decide +kernel
theorem dX9_told_10 : decode cX9_told 10 = .ok (.invokestatic 63, 3) := by decide +kernel
theorem dX9_told_13 : decode cX9_told 13 = .ok (.invokestatic 67, 3) := by decide +kernel
theorem dX9_told_16 : decode cX9_told 16 = .ok (.iload_n 3, 1) := by decide +kernel
theorem dX9_told_17 : decode cX9_told 17 = .ok (.iconst 4, 1) := by decide +kernel
theorem dX9_told_18 : decode cX9_told 18 = .ok (.if_icmp .ne 10, 3) := by decide +kernel
theorem dX9_told_21 : decode cX9_told 21 = .ok (.aload 4, 2) := by decide +kernel
theorem dX9_told_23 : decode cX9_told 23 = .ok (.iload_n 2, 1) := by decide +kernel
theorem dX9_told_24 : decode cX9_told 24 = .ok (.invokevirtual 134, 3) := by decide +kernel
theorem dX9_told_27 : decode cX9_told 27 = .ok (.ireturn, 1) := by decide +kernel
theorem dX9_told_28 : decode cX9_told 28 = .ok (.aload 4, 2) := by decide +kernel
theorem dX9_told_30 : decode cX9_told 30 = .ok (.getfield 125, 3) := by decide +kernel
theorem dX9_told_33 : decode cX9_told 33 = .ok (.iload_n 2, 1) := by decide +kernel
theorem dX9_told_34 : decode cX9_told 34 = .ok (.iload_n 3, 1) := by decide +kernel
theorem dX9_told_35 : decode cX9_told 35 = .ok (.invokevirtual 137, 3) := by decide +kernel
theorem dX9_told_38 : decode cX9_told 38 = .ok (.ireturn, 1) := by decide +kernel
theorem dX9_pieces_0 : decode cX9_pieces 0 = .ok (.aload_n 0, 1) := by decide +kernel
theorem dX9_pieces_1 : decode cX9_pieces 1 = .ok (.iload_n 1, 1) := by decide +kernel
theorem dX9_pieces_2 : decode cX9_pieces 2 = .ok (.invokevirtual 103, 3) := by decide +kernel
theorem dX9_pieces_5 : decode cX9_pieces 5 = .ok (.getfield 140, 3) := by decide +kernel
theorem dX9_pieces_8 : decode cX9_pieces 8 = .ok (.invokevirtual 144, 3) := by decide +kernel
theorem dX9_pieces_11 : decode cX9_pieces 11 = .ok (.ireturn, 1) := by decide +kernel
theorem dX9_piece_0 : decode cX9_piece 0 = .ok (.aload_n 0, 1) := by decide +kernel
theorem dX9_piece_1 : decode cX9_piece 1 = .ok (.iload_n 1, 1) := by decide +kernel
theorem dX9_piece_2 : decode cX9_piece 2 = .ok (.invokevirtual 103, 3) := by decide +kernel
theorem dX9_piece_5 : decode cX9_piece 5 = .ok (.astore 4, 2) := by decide +kernel
theorem dX9_piece_7 : decode cX9_piece 7 = .ok (.iload_n 3, 1) := by decide +kernel
theorem dX9_piece_8 : decode cX9_piece 8 = .ok (.iconst 0, 1) := by decide +kernel
theorem dX9_piece_9 : decode cX9_piece 9 = .ok (.iconst 3, 1) := by decide +kernel
theorem dX9_piece_10 : decode cX9_piece 10 = .ok (.invokestatic 63, 3) := by decide +kernel
theorem dX9_piece_13 : decode cX9_piece 13 = .ok (.invokestatic 67, 3) := by decide +kernel
theorem dX9_piece_16 : decode cX9_piece 16 = .ok (.aload 4, 2) := by decide +kernel
theorem dX9_piece_18 : decode cX9_piece 18 = .ok (.getfield 140, 3) := by decide +kernel
theorem dX9_piece_21 : decode cX9_piece 21 = .ok (.iload_n 2, 1) := by decide +kernel
theorem dX9_piece_22 : decode cX9_piece 22 = .ok (.iload_n 3, 1) := by decide +kernel
theorem dX9_piece_23 : decode cX9_piece 23 = .ok (.invokevirtual 150, 3) := by decide +kernel
theorem dX9_piece_26 : decode cX9_piece 26 = .ok (.ireturn, 1) := by decide +kernel
theorem dX9_baseline_0 : decode cX9_baseline 0 = .ok (.aload_n 0, 1) := by decide +kernel
theorem dX9_baseline_1 : decode cX9_baseline 1 = .ok (.iload_n 1, 1) := by decide +kernel
theorem dX9_baseline_2 : decode cX9_baseline 2 = .ok (.invokevirtual 103, 3) := by decide +kernel
theorem dX9_baseline_5 : decode cX9_baseline 5 = .ok (.getfield 140, 3) := by decide +kernel
theorem dX9_baseline_8 : decode cX9_baseline 8 = .ok (.iload_n 2, 1) := by decide +kernel
theorem dX9_baseline_9 : decode cX9_baseline 9 = .ok (.invokevirtual 151, 3) := by decide +kernel
theorem dX9_baseline_12 : decode cX9_baseline 12 = .ok (.ireturn, 1) := by decide +kernel
theorem dX9_value_0 : decode cX9_value 0 = .ok (.aload_n 0, 1) := by decide +kernel
theorem dX9_value_1 : decode cX9_value 1 = .ok (.iload_n 1, 1) := by decide +kernel
theorem dX9_value_2 : decode cX9_value 2 = .ok (.invokevirtual 103, 3) := by decide +kernel
theorem dX9_value_5 : decode cX9_value 5 = .ok (.iload_n 2, 1) := by decide +kernel
theorem dX9_value_6 : decode cX9_value 6 = .ok (.invokevirtual 154, 3) := by decide +kernel
theorem dX9_value_9 : decode cX9_value 9 = .ok (.ireturn, 1) := by decide +kernel
theorem dX9_feed_0 : decode cX9_feed 0 = .ok (.aload_n 0, 1) := by decide +kernel
theorem dX9_feed_1 : decode cX9_feed 1 = .ok (.getfield 27, 3) := by decide +kernel
theorem dX9_feed_4 : decode cX9_feed 4 = .ok (.bipush 20, 2) := by decide +kernel
theorem dX9_feed_6 : decode cX9_feed 6 = .ok (.invokevirtual 157, 3) := by decide +kernel
theorem dX9_feed_9 : decode cX9_feed 9 = .ok (.ifCond .ne 5, 3) := by decide +kernel
theorem dX9_feed_12 : decode cX9_feed 12 = .ok (.iconst (-1), 1) := by decide +kernel
theorem dX9_feed_13 : decode cX9_feed 13 = .ok (.ireturn, 1) := by decide +kernel
theorem dX9_feed_14 : decode cX9_feed 14 = .ok (.aload_n 0, 1) := by decide +kernel
theorem dX9_feed_15 : decode cX9_feed 15 = .ok (.getfield 27, 3) := by decide +kernel
theorem dX9_feed_18 : decode cX9_feed 18 = .ok (.iload_n 1, 1) := by decide +kernel
theorem dX9_feed_19 : decode cX9_feed 19 = .ok (.invokevirtual 162, 3) := by decide +kernel
theorem dX9_feed_22 : decode cX9_feed 22 = .ok (.aload_n 0, 1) := by decide +kernel
theorem dX9_feed_23 : decode cX9_feed 23 = .ok (.getfield 27, 3) := by decide +kernel
theorem dX9_feed_26 : decode cX9_feed 26 = .ok (.iload_n 2, 1) := by decide +kernel
theorem dX9_feed_27 : decode cX9_feed 27 = .ok (.invokevirtual 162, 3) := by decide +kernel
theorem dX9_feed_30 : decode cX9_feed 30 = .ok (.aload_n 0, 1) := by decide +kernel
theorem dX9_feed_31 : decode cX9_feed 31 = .ok (.getfield 27, 3) := by decide +kernel
theorem dX9_feed_34 : decode cX9_feed 34 = .ok (.iload_n 3, 1) := by decide +kernel
theorem dX9_feed_35 : decode cX9_feed 35 = .ok (.invokevirtual 162, 3) := by decide +kernel
theorem dX9_feed_38 : decode cX9_feed 38 = .ok (.aload_n 0, 1) := by decide +kernel
theorem dX9_feed_39 : decode cX9_feed 39 = .ok (.getfield 27, 3) := by decide +kernel
theorem dX9_feed_42 : decode cX9_feed 42 = .ok (.iload 4, 2) := by decide +kernel
theorem dX9_feed_44 : decode cX9_feed 44 = .ok (.invokevirtual 162, 3) := by decide +kernel
theorem dX9_feed_47 : decode cX9_feed 47 = .ok (.aload_n 0, 1) := by decide +kernel
theorem dX9_feed_48 : decode cX9_feed 48 = .ok (.getfield 27, 3) := by decide +kernel
theorem dX9_feed_51 : decode cX9_feed 51 = .ok (.iload 5, 2) := by decide +kernel
theorem dX9_feed_53 : decode cX9_feed 53 = .ok (.invokevirtual 162, 3) := by decide +kernel
theorem dX9_feed_56 : decode cX9_feed 56 = .ok (.aload_n 0, 1) := by decide +kernel
theorem dX9_feed_57 : decode cX9_feed 57 = .ok (.getfield 27, 3) := by decide +kernel
theorem dX9_feed_60 : decode cX9_feed 60 = .ok (.invokevirtual 166, 3) := by decide +kernel
theorem dX9_feed_63 : decode cX9_feed 63 = .ok (.ireturn, 1) := by decide +kernel
theorem dX9_rule_0 : decode cX9_rule 0 = .ok (.iload_n 1, 1) := by decide +kernel
theorem dX9_rule_1 : decode cX9_rule 1 = .ok (.iconst 0, 1) := by decide +kernel
theorem dX9_rule_2 : decode cX9_rule 2 = .ok (.aload_n 0, 1) := by decide +kernel
theorem dX9_rule_3 : decode cX9_rule 3 = .ok (.getfield 27, 3) := by decide +kernel
theorem dX9_rule_6 : decode cX9_rule 6 = .ok (.invokevirtual 166, 3) := by decide +kernel
theorem dX9_rule_9 : decode cX9_rule 9 = .ok (.invokestatic 63, 3) := by decide +kernel
theorem dX9_rule_12 : decode cX9_rule 12 = .ok (.invokestatic 67, 3) := by decide +kernel
theorem dX9_rule_15 : decode cX9_rule 15 = .ok (.aload_n 0, 1) := by decide +kernel
theorem dX9_rule_16 : decode cX9_rule 16 = .ok (.getfield 19, 3) := by decide +kernel
theorem dX9_rule_19 : decode cX9_rule 19 = .ok (.aload_n 0, 1) := by decide +kernel
theorem dX9_rule_20 : decode cX9_rule 20 = .ok (.getfield 35, 3) := by decide +kernel
theorem dX9_rule_23 : decode cX9_rule 23 = .ok (.iload_n 1, 1) := by decide +kernel
theorem dX9_rule_24 : decode cX9_rule 24 = .ok (.invokevirtual 167, 3) := by decide +kernel
theorem dX9_rule_27 : decode cX9_rule 27 = .ok (.istore_n 2, 1) := by decide +kernel
theorem dX9_rule_28 : decode cX9_rule 28 = .ok (.aload_n 0, 1) := by decide +kernel
theorem dX9_rule_29 : decode cX9_rule 29 = .ok (.getfield 27, 3) := by decide +kernel
theorem dX9_rule_32 : decode cX9_rule 32 = .ok (.invokevirtual 171, 3) := by decide +kernel
theorem dX9_rule_35 : decode cX9_rule 35 = .ok (.iload_n 2, 1) := by decide +kernel
theorem dX9_rule_36 : decode cX9_rule 36 = .ok (.ifCond .ne 14, 3) := by decide +kernel
theorem dX9_rule_39 : decode cX9_rule 39 = .ok (.aload_n 0, 1) := by decide +kernel
theorem dX9_rule_40 : decode cX9_rule 40 = .ok (.getfield 19, 3) := by decide +kernel
theorem dX9_rule_43 : decode cX9_rule 43 = .ok (.invokevirtual 174, 3) := by decide +kernel
theorem dX9_rule_46 : decode cX9_rule 46 = .ok (.bipush 10, 2) := by decide +kernel
theorem dX9_rule_48 : decode cX9_rule 48 = .ok (.isub, 1) := by decide +kernel
theorem dX9_rule_49 : decode cX9_rule 49 = .ok (.ireturn, 1) := by decide +kernel
theorem dX9_rule_50 : decode cX9_rule 50 = .ok (.aload_n 0, 1) := by decide +kernel
theorem dX9_rule_51 : decode cX9_rule 51 = .ok (.getfield 31, 3) := by decide +kernel
theorem dX9_rule_54 : decode cX9_rule 54 = .ok (.aload_n 0, 1) := by decide +kernel
theorem dX9_rule_55 : decode cX9_rule 55 = .ok (.getfield 35, 3) := by decide +kernel
theorem dX9_rule_58 : decode cX9_rule 58 = .ok (.invokevirtual 177, 3) := by decide +kernel
theorem dX9_rule_61 : decode cX9_rule 61 = .ok (.aload_n 0, 1) := by decide +kernel
theorem dX9_rule_62 : decode cX9_rule 62 = .ok (.getfield 31, 3) := by decide +kernel
theorem dX9_rule_65 : decode cX9_rule 65 = .ok (.getfield 181, 3) := by decide +kernel
theorem dX9_rule_68 : decode cX9_rule 68 = .ok (.ireturn, 1) := by decide +kernel
theorem dX9_fault_0 : decode cX9_fault 0 = .ok (.aload_n 0, 1) := by decide +kernel
theorem dX9_fault_1 : decode cX9_fault 1 = .ok (.getfield 19, 3) := by decide +kernel
theorem dX9_fault_4 : decode cX9_fault 4 = .ok (.invokevirtual 184, 3) := by decide +kernel
theorem dX9_fault_7 : decode cX9_fault 7 = .ok (.ireturn, 1) := by decide +kernel
theorem dX9_train_0 : decode cX9_train 0 = .ok (.iload_n 1, 1) := by decide +kernel
theorem dX9_train_1 : decode cX9_train 1 = .ok (.iconst 0, 1) := by decide +kernel
theorem dX9_train_2 : decode cX9_train 2 = .ok (.sipush 299, 3) := by decide +kernel
theorem dX9_train_5 : decode cX9_train 5 = .ok (.invokestatic 63, 3) := by decide +kernel
theorem dX9_train_8 : decode cX9_train 8 = .ok (.ifCond .eq 18, 3) := by decide +kernel
theorem dX9_train_11 : decode cX9_train 11 = .ok (.iload_n 2, 1) := by decide +kernel
theorem dX9_train_12 : decode cX9_train 12 = .ok (.iconst 1, 1) := by decide +kernel
theorem dX9_train_13 : decode cX9_train 13 = .ok (.sipush 300, 3) := by decide +kernel
theorem dX9_train_16 : decode cX9_train 16 = .ok (.invokestatic 63, 3) := by decide +kernel
theorem dX9_train_19 : decode cX9_train 19 = .ok (.ifCond .eq 7, 3) := by decide +kernel
theorem dX9_train_22 : decode cX9_train 22 = .ok (.iconst 1, 1) := by decide +kernel
theorem dX9_train_23 : decode cX9_train 23 = .ok (.goto 4, 3) := by decide +kernel
theorem dX9_train_26 : decode cX9_train 26 = .ok (.iconst 0, 1) := by decide +kernel
theorem dX9_train_27 : decode cX9_train 27 = .ok (.invokestatic 67, 3) := by decide +kernel
theorem dX9_train_30 : decode cX9_train 30 = .ok (.aload_n 0, 1) := by decide +kernel
theorem dX9_train_31 : decode cX9_train 31 = .ok (.getfield 41, 3) := by decide +kernel
theorem dX9_train_34 : decode cX9_train 34 = .ok (.iload_n 1, 1) := by decide +kernel
theorem dX9_train_35 : decode cX9_train 35 = .ok (.iload_n 2, 1) := by decide +kernel
theorem dX9_train_36 : decode cX9_train 36 = .ok (.invokevirtual 187, 3) := by decide +kernel
theorem dX9_train_39 : decode cX9_train 39 = .ok (.ireturn, 1) := by decide +kernel
theorem dX9_range_0 : decode cX9_range 0 = .ok (.aload_n 0, 1) := by decide +kernel
theorem dX9_range_1 : decode cX9_range 1 = .ok (.iload_n 1, 1) := by decide +kernel
theorem dX9_range_2 : decode cX9_range 2 = .ok (.invokevirtual 103, 3) := by decide +kernel
theorem dX9_range_5 : decode cX9_range 5 = .ok (.astore_n 3, 1) := by decide +kernel
theorem dX9_range_6 : decode cX9_range 6 = .ok (.iload_n 2, 1) := by decide +kernel
theorem dX9_range_7 : decode cX9_range 7 = .ok (.iconst 0, 1) := by decide +kernel
theorem dX9_range_8 : decode cX9_range 8 = .ok (.aload_n 0, 1) := by decide +kernel
theorem dX9_range_9 : decode cX9_range 9 = .ok (.invokevirtual 189, 3) := by decide +kernel
theorem dX9_range_12 : decode cX9_range 12 = .ok (.iconst 1, 1) := by decide +kernel
theorem dX9_range_13 : decode cX9_range 13 = .ok (.isub, 1) := by decide +kernel
theorem dX9_range_14 : decode cX9_range 14 = .ok (.invokestatic 63, 3) := by decide +kernel
theorem dX9_range_17 : decode cX9_range 17 = .ok (.ifCond .ne 5, 3) := by decide +kernel
theorem dX9_range_20 : decode cX9_range 20 = .ok (.iconst (-1), 1) := by decide +kernel
theorem dX9_range_21 : decode cX9_range 21 = .ok (.ireturn, 1) := by decide +kernel
theorem dX9_range_22 : decode cX9_range 22 = .ok (.aload_n 3, 1) := by decide +kernel
theorem dX9_range_23 : decode cX9_range 23 = .ok (.iload_n 2, 1) := by decide +kernel
theorem dX9_range_24 : decode cX9_range 24 = .ok (.aload_n 0, 1) := by decide +kernel
theorem dX9_range_25 : decode cX9_range 25 = .ok (.getfield 31, 3) := by decide +kernel
theorem dX9_range_28 : decode cX9_range 28 = .ok (.aload_n 0, 1) := by decide +kernel
theorem dX9_range_29 : decode cX9_range 29 = .ok (.getfield 41, 3) := by decide +kernel
theorem dX9_range_32 : decode cX9_range 32 = .ok (.invokevirtual 192, 3) := by decide +kernel
theorem dX9_range_35 : decode cX9_range 35 = .ok (.ireturn, 1) := by decide +kernel
theorem dX9_index_0 : decode cX9_index 0 = .ok (.aload_n 0, 1) := by decide +kernel
theorem dX9_index_1 : decode cX9_index 1 = .ok (.invokevirtual 196, 3) := by decide +kernel
theorem dX9_index_4 : decode cX9_index 4 = .ok (.aload_n 0, 1) := by decide +kernel
theorem dX9_index_5 : decode cX9_index 5 = .ok (.getfield 48, 3) := by decide +kernel
theorem dX9_index_8 : decode cX9_index 8 = .ok (.iload_n 1, 1) := by decide +kernel
theorem dX9_index_9 : decode cX9_index 9 = .ok (.invokevirtual 199, 3) := by decide +kernel
theorem dX9_index_12 : decode cX9_index 12 = .ok (.ireturn, 1) := by decide +kernel
theorem dX9_storm_0 : decode cX9_storm 0 = .ok (.iload_n 2, 1) := by decide +kernel
theorem dX9_storm_1 : decode cX9_storm 1 = .ok (.iconst 0, 1) := by decide +kernel
theorem dX9_storm_2 : decode cX9_storm 2 = .ok (.iconst 1, 1) := by decide +kernel
theorem dX9_storm_3 : decode cX9_storm 3 = .ok (.invokestatic 63, 3) := by decide +kernel
theorem dX9_storm_6 : decode cX9_storm 6 = .ok (.invokestatic 67, 3) := by decide +kernel
theorem dX9_storm_9 : decode cX9_storm 9 = .ok (.aload_n 0, 1) := by decide +kernel
theorem dX9_storm_10 : decode cX9_storm 10 = .ok (.invokevirtual 196, 3) := by decide +kernel
theorem dX9_storm_13 : decode cX9_storm 13 = .ok (.aload_n 0, 1) := by decide +kernel
theorem dX9_storm_14 : decode cX9_storm 14 = .ok (.getfield 48, 3) := by decide +kernel
theorem dX9_storm_17 : decode cX9_storm 17 = .ok (.iload_n 1, 1) := by decide +kernel
theorem dX9_storm_18 : decode cX9_storm 18 = .ok (.aload_n 0, 1) := by decide +kernel
theorem dX9_storm_19 : decode cX9_storm 19 = .ok (.getfield 31, 3) := by decide +kernel
theorem dX9_storm_22 : decode cX9_storm 22 = .ok (.getfield 202, 3) := by decide +kernel
theorem dX9_storm_25 : decode cX9_storm 25 = .ok (.invokevirtual 205, 3) := by decide +kernel
theorem dX9_storm_28 : decode cX9_storm 28 = .ok (.istore_n 3, 1) := by decide +kernel
theorem dX9_storm_29 : decode cX9_storm 29 = .ok (.iload_n 3, 1) := by decide +kernel
theorem dX9_storm_30 : decode cX9_storm 30 = .ok (.iconst (-1), 1) := by decide +kernel
theorem dX9_storm_31 : decode cX9_storm 31 = .ok (.if_icmp .eq 7, 3) := by decide +kernel
theorem dX9_storm_34 : decode cX9_storm 34 = .ok (.iload_n 2, 1) := by decide +kernel
theorem dX9_storm_35 : decode cX9_storm 35 = .ok (.ifCond .ne 5, 3) := by decide +kernel
theorem dX9_storm_38 : decode cX9_storm 38 = .ok (.iload_n 3, 1) := by decide +kernel
theorem dX9_storm_39 : decode cX9_storm 39 = .ok (.ireturn, 1) := by decide +kernel
theorem dX9_storm_40 : decode cX9_storm 40 = .ok (.aload_n 0, 1) := by decide +kernel
theorem dX9_storm_41 : decode cX9_storm 41 = .ok (.getfield 48, 3) := by decide +kernel
theorem dX9_storm_44 : decode cX9_storm 44 = .ok (.iload_n 3, 1) := by decide +kernel
theorem dX9_storm_45 : decode cX9_storm 45 = .ok (.aload_n 0, 1) := by decide +kernel
theorem dX9_storm_46 : decode cX9_storm 46 = .ok (.getfield 31, 3) := by decide +kernel
theorem dX9_storm_49 : decode cX9_storm 49 = .ok (.getfield 202, 3) := by decide +kernel
theorem dX9_storm_52 : decode cX9_storm 52 = .ok (.invokevirtual 208, 3) := by decide +kernel
theorem dX9_storm_55 : decode cX9_storm 55 = .ok (.ireturn, 1) := by decide +kernel
theorem dX9_quiet_0 : decode cX9_quiet 0 = .ok (.aload_n 0, 1) := by decide +kernel
theorem dX9_quiet_1 : decode cX9_quiet 1 = .ok (.invokevirtual 196, 3) := by decide +kernel
theorem dX9_quiet_4 : decode cX9_quiet 4 = .ok (.aload_n 0, 1) := by decide +kernel
theorem dX9_quiet_5 : decode cX9_quiet 5 = .ok (.getfield 48, 3) := by decide +kernel
theorem dX9_quiet_8 : decode cX9_quiet 8 = .ok (.iload_n 1, 1) := by decide +kernel
theorem dX9_quiet_9 : decode cX9_quiet 9 = .ok (.invokevirtual 211, 3) := by decide +kernel
theorem dX9_quiet_12 : decode cX9_quiet 12 = .ok (.ireturn, 1) := by decide +kernel
theorem dX9_publish_0 : decode cX9_publish 0 = .ok (.iconst 0, 1) := by decide +kernel
theorem dX9_publish_1 : decode cX9_publish 1 = .ok (.istore_n 1, 1) := by decide +kernel
theorem dX9_publish_2 : decode cX9_publish 2 = .ok (.iconst 0, 1) := by decide +kernel
theorem dX9_publish_3 : decode cX9_publish 3 = .ok (.istore_n 2, 1) := by decide +kernel
theorem dX9_publish_4 : decode cX9_publish 4 = .ok (.iload_n 2, 1) := by decide +kernel
theorem dX9_publish_5 : decode cX9_publish 5 = .ok (.aload_n 0, 1) := by decide +kernel
theorem dX9_publish_6 : decode cX9_publish 6 = .ok (.getfield 11, 3) := by decide +kernel
theorem dX9_publish_9 : decode cX9_publish 9 = .ok (.arraylength, 1) := by decide +kernel
theorem dX9_publish_10 : decode cX9_publish 10 = .ok (.if_icmp .ge 20, 3) := by decide +kernel
theorem dX9_publish_13 : decode cX9_publish 13 = .ok (.iload_n 1, 1) := by decide +kernel
theorem dX9_publish_14 : decode cX9_publish 14 = .ok (.aload_n 0, 1) := by decide +kernel
theorem dX9_publish_15 : decode cX9_publish 15 = .ok (.iload_n 2, 1) := by decide +kernel
theorem dX9_publish_16 : decode cX9_publish 16 = .ok (.invokevirtual 103, 3) := by decide +kernel
theorem dX9_publish_19 : decode cX9_publish 19 = .ok (.invokevirtual 214, 3) := by decide +kernel
theorem dX9_publish_22 : decode cX9_publish 22 = .ok (.iadd, 1) := by decide +kernel
theorem dX9_publish_23 : decode cX9_publish 23 = .ok (.istore_n 1, 1) := by decide +kernel
theorem dX9_publish_24 : decode cX9_publish 24 = .ok (.iinc 2 1, 3) := by decide +kernel
theorem dX9_publish_27 : decode cX9_publish 27 = .ok (.goto (-23), 3) := by decide +kernel
theorem dX9_publish_30 : decode cX9_publish 30 = .ok (.aload_n 0, 1) := by decide +kernel
theorem dX9_publish_31 : decode cX9_publish 31 = .ok (.dup, 1) := by decide +kernel
theorem dX9_publish_32 : decode cX9_publish 32 = .ok (.getfield 56, 3) := by decide +kernel
theorem dX9_publish_35 : decode cX9_publish 35 = .ok (.iconst 1, 1) := by decide +kernel
theorem dX9_publish_36 : decode cX9_publish 36 = .ok (.iadd, 1) := by decide +kernel
theorem dX9_publish_37 : decode cX9_publish 37 = .ok (.putfield 56, 3) := by decide +kernel
theorem dX9_publish_40 : decode cX9_publish 40 = .ok (.iload_n 1, 1) := by decide +kernel
theorem dX9_publish_41 : decode cX9_publish 41 = .ok (.ireturn, 1) := by decide +kernel
theorem dX9_changed_0 : decode cX9_changed 0 = .ok (.aload_n 0, 1) := by decide +kernel
theorem dX9_changed_1 : decode cX9_changed 1 = .ok (.iload_n 1, 1) := by decide +kernel
theorem dX9_changed_2 : decode cX9_changed 2 = .ok (.invokevirtual 103, 3) := by decide +kernel
theorem dX9_changed_5 : decode cX9_changed 5 = .ok (.astore_n 3, 1) := by decide +kernel
theorem dX9_changed_6 : decode cX9_changed 6 = .ok (.aload_n 0, 1) := by decide +kernel
theorem dX9_changed_7 : decode cX9_changed 7 = .ok (.getfield 56, 3) := by decide +kernel
theorem dX9_changed_10 : decode cX9_changed 10 = .ok (.ifCond .ne 5, 3) := by decide +kernel
theorem dX9_changed_13 : decode cX9_changed 13 = .ok (.iconst (-1), 1) := by decide +kernel
theorem dX9_changed_14 : decode cX9_changed 14 = .ok (.ireturn, 1) := by decide +kernel
theorem dX9_changed_15 : decode cX9_changed 15 = .ok (.aload_n 3, 1) := by decide +kernel
theorem dX9_changed_16 : decode cX9_changed 16 = .ok (.iload_n 2, 1) := by decide +kernel
theorem dX9_changed_17 : decode cX9_changed 17 = .ok (.invokevirtual 217, 3) := by decide +kernel
theorem dX9_changed_20 : decode cX9_changed 20 = .ok (.ireturn, 1) := by decide +kernel
theorem dX9_published_0 : decode cX9_published 0 = .ok (.aload_n 0, 1) := by decide +kernel
theorem dX9_published_1 : decode cX9_published 1 = .ok (.iload_n 1, 1) := by decide +kernel
theorem dX9_published_2 : decode cX9_published 2 = .ok (.invokevirtual 110, 3) := by decide +kernel
theorem dX9_published_5 : decode cX9_published 5 = .ok (.iload_n 2, 1) := by decide +kernel
theorem dX9_published_6 : decode cX9_published 6 = .ok (.invokevirtual 220, 3) := by decide +kernel
theorem dX9_published_9 : decode cX9_published 9 = .ok (.ireturn, 1) := by decide +kernel
theorem dX9_count_0 : decode cX9_count 0 = .ok (.iload_n 1, 1) := by decide +kernel
theorem dX9_count_1 : decode cX9_count 1 = .ok (.tableswitch 78 0 5 #[39, 44, 49, 57, 65, 73], 39) := by decide +kernel
theorem dX9_count_40 : decode cX9_count 40 = .ok (.aload_n 0, 1) := by decide +kernel
theorem dX9_count_41 : decode cX9_count 41 = .ok (.invokevirtual 223, 3) := by decide +kernel
theorem dX9_count_44 : decode cX9_count 44 = .ok (.ireturn, 1) := by decide +kernel
theorem dX9_count_45 : decode cX9_count 45 = .ok (.aload_n 0, 1) := by decide +kernel
theorem dX9_count_46 : decode cX9_count 46 = .ok (.invokevirtual 189, 3) := by decide +kernel
theorem dX9_count_49 : decode cX9_count 49 = .ok (.ireturn, 1) := by decide +kernel
theorem dX9_count_50 : decode cX9_count 50 = .ok (.aload_n 0, 1) := by decide +kernel
theorem dX9_count_51 : decode cX9_count 51 = .ok (.getfield 41, 3) := by decide +kernel
theorem dX9_count_54 : decode cX9_count 54 = .ok (.invokevirtual 226, 3) := by decide +kernel
theorem dX9_count_57 : decode cX9_count 57 = .ok (.ireturn, 1) := by decide +kernel
theorem dX9_count_58 : decode cX9_count 58 = .ok (.aload_n 0, 1) := by decide +kernel
theorem dX9_count_59 : decode cX9_count 59 = .ok (.getfield 31, 3) := by decide +kernel
theorem dX9_count_62 : decode cX9_count 62 = .ok (.getfield 181, 3) := by decide +kernel
theorem dX9_count_65 : decode cX9_count 65 = .ok (.ireturn, 1) := by decide +kernel
theorem dX9_count_66 : decode cX9_count 66 = .ok (.aload_n 0, 1) := by decide +kernel
theorem dX9_count_67 : decode cX9_count 67 = .ok (.getfield 27, 3) := by decide +kernel
theorem dX9_count_70 : decode cX9_count 70 = .ok (.invokevirtual 166, 3) := by decide +kernel
theorem dX9_count_73 : decode cX9_count 73 = .ok (.ireturn, 1) := by decide +kernel
theorem dX9_count_74 : decode cX9_count 74 = .ok (.aload_n 0, 1) := by decide +kernel
theorem dX9_count_75 : decode cX9_count 75 = .ok (.getfield 56, 3) := by decide +kernel
theorem dX9_count_78 : decode cX9_count 78 = .ok (.ireturn, 1) := by decide +kernel
theorem dX9_count_79 : decode cX9_count 79 = .ok (.iconst (-1), 1) := by decide +kernel
theorem dX9_count_80 : decode cX9_count 80 = .ok (.ireturn, 1) := by decide +kernel
theorem dX9_trackIn_0 : decode cX9_trackIn 0 = .ok (.iload_n 1, 1) := by decide +kernel
theorem dX9_trackIn_1 : decode cX9_trackIn 1 = .ok (.iconst 0, 1) := by decide +kernel
theorem dX9_trackIn_2 : decode cX9_trackIn 2 = .ok (.iconst 1, 1) := by decide +kernel
theorem dX9_trackIn_3 : decode cX9_trackIn 3 = .ok (.invokestatic 63, 3) := by decide +kernel
theorem dX9_trackIn_6 : decode cX9_trackIn 6 = .ok (.ifCond .ne 13, 3) := by decide +kernel
theorem dX9_trackIn_9 : decode cX9_trackIn 9 = .ok (.new 227, 3) := by decide +kernel
theorem dX9_trackIn_12 : decode cX9_trackIn 12 = .ok (.dup, 1) := by decide +kernel
theorem dX9_trackIn_13 : decode cX9_trackIn 13 = .ok (.ldc 229, 2) := by decide +kernel
theorem dX9_trackIn_15 : decode cX9_trackIn 15 = .ok (.invokespecial 231, 3) := by decide +kernel
theorem dX9_trackIn_18 : decode cX9_trackIn 18 = .ok (.athrow, 1) := by decide +kernel
theorem dX9_trackIn_19 : decode cX9_trackIn 19 = .ok (.aload_n 0, 1) := by decide +kernel
theorem dX9_trackIn_20 : decode cX9_trackIn 20 = .ok (.iload_n 2, 1) := by decide +kernel
theorem dX9_trackIn_21 : decode cX9_trackIn 21 = .ok (.invokevirtual 110, 3) := by decide +kernel
theorem dX9_trackIn_24 : decode cX9_trackIn 24 = .ok (.areturn, 1) := by decide +kernel
theorem dX9_trackOf_0 : decode cX9_trackOf 0 = .ok (.iload_n 1, 1) := by decide +kernel
theorem dX9_trackOf_1 : decode cX9_trackOf 1 = .ok (.ifCond .lt 12, 3) := by decide +kernel
theorem dX9_trackOf_4 : decode cX9_trackOf 4 = .ok (.iload_n 1, 1) := by decide +kernel
theorem dX9_trackOf_5 : decode cX9_trackOf 5 = .ok (.aload_n 0, 1) := by decide +kernel
theorem dX9_trackOf_6 : decode cX9_trackOf 6 = .ok (.getfield 11, 3) := by decide +kernel
theorem dX9_trackOf_9 : decode cX9_trackOf 9 = .ok (.arraylength, 1) := by decide +kernel
theorem dX9_trackOf_10 : decode cX9_trackOf 10 = .ok (.if_icmp .lt 13, 3) := by decide +kernel
theorem dX9_trackOf_13 : decode cX9_trackOf 13 = .ok (.new 227, 3) := by decide +kernel
theorem dX9_trackOf_16 : decode cX9_trackOf 16 = .ok (.dup, 1) := by decide +kernel
theorem dX9_trackOf_17 : decode cX9_trackOf 17 = .ok (.ldc 234, 2) := by decide +kernel
theorem dX9_trackOf_19 : decode cX9_trackOf 19 = .ok (.invokespecial 231, 3) := by decide +kernel
theorem dX9_trackOf_22 : decode cX9_trackOf 22 = .ok (.athrow, 1) := by decide +kernel
theorem dX9_trackOf_23 : decode cX9_trackOf 23 = .ok (.aload_n 0, 1) := by decide +kernel
theorem dX9_trackOf_24 : decode cX9_trackOf 24 = .ok (.getfield 11, 3) := by decide +kernel
theorem dX9_trackOf_27 : decode cX9_trackOf 27 = .ok (.iload_n 1, 1) := by decide +kernel
theorem dX9_trackOf_28 : decode cX9_trackOf 28 = .ok (.aaload, 1) := by decide +kernel
theorem dX9_trackOf_29 : decode cX9_trackOf 29 = .ok (.areturn, 1) := by decide +kernel
theorem dX9_settled_0 : decode cX9_settled 0 = .ok (.aload_n 0, 1) := by decide +kernel
theorem dX9_settled_1 : decode cX9_settled 1 = .ok (.iload_n 1, 1) := by decide +kernel
theorem dX9_settled_2 : decode cX9_settled 2 = .ok (.invokevirtual 110, 3) := by decide +kernel
theorem dX9_settled_5 : decode cX9_settled 5 = .ok (.astore_n 2, 1) := by decide +kernel
theorem dX9_settled_6 : decode cX9_settled 6 = .ok (.aload_n 2, 1) := by decide +kernel
theorem dX9_settled_7 : decode cX9_settled 7 = .ok (.aload_n 0, 1) := by decide +kernel
theorem dX9_settled_8 : decode cX9_settled 8 = .ok (.getfield 31, 3) := by decide +kernel
theorem dX9_settled_11 : decode cX9_settled 11 = .ok (.getfield 236, 3) := by decide +kernel
theorem dX9_settled_14 : decode cX9_settled 14 = .ok (.invokevirtual 239, 3) := by decide +kernel
theorem dX9_settled_17 : decode cX9_settled 17 = .ok (.aload_n 2, 1) := by decide +kernel
theorem dX9_settled_18 : decode cX9_settled 18 = .ok (.areturn, 1) := by decide +kernel
theorem dX9_timesNow_0 : decode cX9_timesNow 0 = .ok (.iconst 0, 1) := by decide +kernel
theorem dX9_timesNow_1 : decode cX9_timesNow 1 = .ok (.istore_n 1, 1) := by decide +kernel
theorem dX9_timesNow_2 : decode cX9_timesNow 2 = .ok (.iconst 0, 1) := by decide +kernel
theorem dX9_timesNow_3 : decode cX9_timesNow 3 = .ok (.istore_n 2, 1) := by decide +kernel
theorem dX9_timesNow_4 : decode cX9_timesNow 4 = .ok (.iload_n 2, 1) := by decide +kernel
theorem dX9_timesNow_5 : decode cX9_timesNow 5 = .ok (.aload_n 0, 1) := by decide +kernel
theorem dX9_timesNow_6 : decode cX9_timesNow 6 = .ok (.getfield 11, 3) := by decide +kernel
theorem dX9_timesNow_9 : decode cX9_timesNow 9 = .ok (.arraylength, 1) := by decide +kernel
theorem dX9_timesNow_10 : decode cX9_timesNow 10 = .ok (.if_icmp .ge 23, 3) := by decide +kernel
theorem dX9_timesNow_13 : decode cX9_timesNow 13 = .ok (.iload_n 1, 1) := by decide +kernel
theorem dX9_timesNow_14 : decode cX9_timesNow 14 = .ok (.aload_n 0, 1) := by decide +kernel
theorem dX9_timesNow_15 : decode cX9_timesNow 15 = .ok (.getfield 11, 3) := by decide +kernel
theorem dX9_timesNow_18 : decode cX9_timesNow 18 = .ok (.iload_n 2, 1) := by decide +kernel
theorem dX9_timesNow_19 : decode cX9_timesNow 19 = .ok (.aaload, 1) := by decide +kernel
theorem dX9_timesNow_20 : decode cX9_timesNow 20 = .ok (.invokevirtual 242, 3) := by decide +kernel
theorem dX9_timesNow_23 : decode cX9_timesNow 23 = .ok (.invokestatic 245, 3) := by decide +kernel
theorem dX9_timesNow_26 : decode cX9_timesNow 26 = .ok (.istore_n 1, 1) := by decide +kernel
theorem dX9_timesNow_27 : decode cX9_timesNow 27 = .ok (.iinc 2 1, 3) := by decide +kernel
theorem dX9_timesNow_30 : decode cX9_timesNow 30 = .ok (.goto (-26), 3) := by decide +kernel
theorem dX9_timesNow_33 : decode cX9_timesNow 33 = .ok (.iload_n 1, 1) := by decide +kernel
theorem dX9_timesNow_34 : decode cX9_timesNow 34 = .ok (.ireturn, 1) := by decide +kernel
theorem dX9_windowsNow_0 : decode cX9_windowsNow 0 = .ok (.aload_n 0, 1) := by decide +kernel
theorem dX9_windowsNow_1 : decode cX9_windowsNow 1 = .ok (.getfield 31, 3) := by decide +kernel
theorem dX9_windowsNow_4 : decode cX9_windowsNow 4 = .ok (.aload_n 0, 1) := by decide +kernel
theorem dX9_windowsNow_5 : decode cX9_windowsNow 5 = .ok (.invokevirtual 223, 3) := by decide +kernel
theorem dX9_windowsNow_8 : decode cX9_windowsNow 8 = .ok (.invokevirtual 248, 3) := by decide +kernel
theorem dX9_windowsNow_11 : decode cX9_windowsNow 11 = .ok (.ireturn, 1) := by decide +kernel
theorem dX9_layWindows_0 : decode cX9_layWindows 0 = .ok (.aload_n 0, 1) := by decide +kernel
theorem dX9_layWindows_1 : decode cX9_layWindows 1 = .ok (.getfield 48, 3) := by decide +kernel
theorem dX9_layWindows_4 : decode cX9_layWindows 4 = .ok (.aload_n 0, 1) := by decide +kernel
theorem dX9_layWindows_5 : decode cX9_layWindows 5 = .ok (.invokevirtual 189, 3) := by decide +kernel
theorem dX9_layWindows_8 : decode cX9_layWindows 8 = .ok (.invokevirtual 251, 3) := by decide +kernel
theorem dX9_layWindows_11 : decode cX9_layWindows 11 = .ok (.iconst 0, 1) := by decide +kernel
theorem dX9_layWindows_12 : decode cX9_layWindows 12 = .ok (.istore_n 1, 1) := by decide +kernel
theorem dX9_layWindows_13 : decode cX9_layWindows 13 = .ok (.iload_n 1, 1) := by decide +kernel
theorem dX9_layWindows_14 : decode cX9_layWindows 14 = .ok (.aload_n 0, 1) := by decide +kernel
theorem dX9_layWindows_15 : decode cX9_layWindows 15 = .ok (.getfield 11, 3) := by decide +kernel
theorem dX9_layWindows_18 : decode cX9_layWindows 18 = .ok (.arraylength, 1) := by decide +kernel
theorem dX9_layWindows_19 : decode cX9_layWindows 19 = .ok (.if_icmp .ge 29, 3) := by decide +kernel
theorem dX9_layWindows_22 : decode cX9_layWindows 22 = .ok (.aload_n 0, 1) := by decide +kernel
theorem dX9_layWindows_23 : decode cX9_layWindows 23 = .ok (.getfield 48, 3) := by decide +kernel
theorem dX9_layWindows_26 : decode cX9_layWindows 26 = .ok (.aload_n 0, 1) := by decide +kernel
theorem dX9_layWindows_27 : decode cX9_layWindows 27 = .ok (.iload_n 1, 1) := by decide +kernel
theorem dX9_layWindows_28 : decode cX9_layWindows 28 = .ok (.invokevirtual 103, 3) := by decide +kernel
theorem dX9_layWindows_31 : decode cX9_layWindows 31 = .ok (.aload_n 0, 1) := by decide +kernel
theorem dX9_layWindows_32 : decode cX9_layWindows 32 = .ok (.getfield 31, 3) := by decide +kernel
theorem dX9_layWindows_35 : decode cX9_layWindows 35 = .ok (.aload_n 0, 1) := by decide +kernel
theorem dX9_layWindows_36 : decode cX9_layWindows 36 = .ok (.getfield 41, 3) := by decide +kernel
theorem dX9_layWindows_39 : decode cX9_layWindows 39 = .ok (.invokevirtual 254, 3) := by decide +kernel
theorem dX9_layWindows_42 : decode cX9_layWindows 42 = .ok (.iinc 1 1, 3) := by decide +kernel
theorem dX9_layWindows_45 : decode cX9_layWindows 45 = .ok (.goto (-32), 3) := by decide +kernel
theorem dX9_layWindows_48 : decode cX9_layWindows 48 = .ok (.aload_n 0, 1) := by decide +kernel
theorem dX9_layWindows_49 : decode cX9_layWindows 49 = .ok (.getfield 48, 3) := by decide +kernel
theorem dX9_layWindows_52 : decode cX9_layWindows 52 = .ok (.aload_n 0, 1) := by decide +kernel
theorem dX9_layWindows_53 : decode cX9_layWindows 53 = .ok (.getfield 31, 3) := by decide +kernel
theorem dX9_layWindows_56 : decode cX9_layWindows 56 = .ok (.invokevirtual 258, 3) := by decide +kernel
theorem dX9_layWindows_59 : decode cX9_layWindows 59 = .ok (.return_, 1) := by decide +kernel
theorem dX9_demand_0 : decode cX9_demand 0 = .ok (.iload_n 0, 1) := by decide +kernel
theorem dX9_demand_1 : decode cX9_demand 1 = .ok (.ifCond .ne 14, 3) := by decide +kernel
theorem dX9_demand_4 : decode cX9_demand 4 = .ok (.new 261, 3) := by decide +kernel
theorem dX9_demand_7 : decode cX9_demand 7 = .ok (.dup, 1) := by decide +kernel
theorem dX9_demand_8 : decode cX9_demand 8 = .ok (.ldc_w 263, 3) := by decide +kernel
theorem dX9_demand_11 : decode cX9_demand 11 = .ok (.invokespecial 265, 3) := by decide +kernel
theorem dX9_demand_14 : decode cX9_demand 14 = .ok (.athrow, 1) := by decide +kernel
theorem dX9_demand_15 : decode cX9_demand 15 = .ok (.return_, 1) := by decide +kernel
