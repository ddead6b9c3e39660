theorem cw_g {CW : List Cond} (hg : CW.all goodWord = true) {w : Cond} (h : w ∈ CW) : goodWord w = true := List.all_eq_true.mp hg w h
theorem gself {CW : List Cond} {a : Cond} (hg : CW.all goodWord = true) (h : a ∈ CW) : GoodIn CW (a :: CW) := fun w hw => (List.mem_cons.mp hw).elim (fun e => by rw [e]; exact ⟨h, good_of_word (cw_g hg h)⟩) (fun h9 => ⟨h9, good_of_word (cw_g hg h9)⟩)
theorem goodIn_up {CW ws : List Cond} {a : Cond} (h : GoodIn CW ws) : GoodIn (a :: CW) ws := fun w hw => ⟨List.mem_cons_of_mem _ (h w hw).1, (h w hw).2⟩
theorem gqV {a : Cond} {CW ws : List Cond} {own C : String} {idx : Nat} {y : MethodName} (hg : CW.all goodWord = true) (h1 : .methodLink own idx y ∈ CW) (h2 : .instanceMethod y ∈ CW) (h3 : .selects C y y ∈ CW) (h4 : .initialized C ∈ CW) (h5 : GoodIn CW ws) : GoodIn (a :: CW) (wsV own idx C y ws) := by
  refine goodIn_up (goodIn_app (fun w hw => ?_) h5)
  have hm : w ∈ CW := by
    simp only [List.mem_cons, List.not_mem_nil, or_false] at hw
    rcases hw with rfl | rfl | rfl | rfl
    · exact h1
    · exact h2
    · exact h3
    · exact h4
  exact ⟨hm, good_of_word (cw_g hg hm)⟩
theorem gqS {a : Cond} {CW ws : List Cond} {own : String} {idx : Nat} {y : MethodName} (hg : CW.all goodWord = true) (h1 : .methodLink own idx y ∈ CW) (h2 : .static y ∈ CW) (h3 : .initialized y.cls ∈ CW) (h5 : GoodIn CW ws) : GoodIn (a :: CW) (va_wsS own idx y ws) := by
  refine goodIn_up (goodIn_app (fun w hw => ?_) h5)
  have hm : w ∈ CW := by
    simp only [List.mem_cons, List.not_mem_nil, or_false] at hw
    rcases hw with rfl | rfl | rfl
    · exact h1
    · exact h2
    · exact h3
  exact ⟨hm, good_of_word (cw_g hg hm)⟩
def CW10_0 : List Cond := [.code yX10_firstIndex cX10_firstIndex 1 (some .int), .methodLink RX10 1 objectInit, .instanceMethod objectInit, .code objectInit ⟨#[0xb1]⟩ 1 none, .arrayClass .int, .fieldLink RX10 9 "NeedleHouseModel" "readings" "[I", .fieldLink RX10 13 "NeedleHouseModel" "many" "[I", .fieldLink RX10 16 "NeedleHouseModel" "joined" "[I", .fieldLink RX10 19 "NeedleHouseModel" "finals" "[I", .fieldLink RX10 22 "NeedleHouseModel" "when" "[I", .fieldLink RX10 25 "NeedleHouseModel" "mean" "[I", .fieldLink RX10 28 "NeedleHouseModel" "left" "[I", .fieldLink RX10 31 "NeedleHouseModel" "ends" "[I", .fieldLink RX10 34 "NeedleHouseModel" "measures" "[I", .fieldLink RX10 37 "NeedleHouseModel" "end" "I", .fieldLink RX10 41 "NeedleHouseModel" "pointTime" "[I", .fieldLink RX10 44 "NeedleHouseModel" "point" "[I", .fieldLink RX10 47 "NeedleHouseModel" "pointEnd" "[I", .fieldLink RX10 50 "NeedleHouseModel" "first" "[I", .fieldLink RX10 53 "NeedleHouseModel" "length" "[I", .arrayClass .long, .fieldLink RX10 56 "NeedleHouseModel" "up" "[J", .fieldLink RX10 60 "NeedleHouseModel" "down" "[J", .fieldLink RX10 63 "NeedleHouseModel" "height" "[J"]
def CW10_1 : List Cond := [.arrayClass .byte, .fieldLink RX10 66 "NeedleHouseModel" "tape" "[B", .fieldLink RX10 70 "NeedleHouseModel" "place" "I", .fieldLink RX10 73 "NeedleHouseModel" "limit" "I", .fieldLink RX10 76 "NeedleHouseModel" "near" "I", .fieldLink RX10 79 "NeedleHouseModel" "shareOne" "I", .fieldLink RX10 82 "NeedleHouseModel" "shareOf" "I", .fieldLink RX10 85 "NeedleHouseModel" "window" "I", .fieldLink RX10 88 "NeedleHouseModel" "storm" "I", .fieldLink RX10 91 "NeedleHouseModel" "indexMany" "I", .fieldLink RX10 94 "NeedleHouseModel" "index" "[I", .fieldLink RX10 97 "NeedleHouseModel" "newIndex" "[I", .fieldLink RX10 100 "NeedleHouseModel" "trainFrom" "[I", .fieldLink RX10 103 "NeedleHouseModel" "trainTo" "[I", .fieldLink RX10 106 "NeedleHouseModel" "published" "[I", .constant RX10 113 (-2000000000), .methodLink RX10 109 yX10_firstIndex, .static yX10_firstIndex, .initialized RX10, .code yX10_init cX10_init 2 none, .code yX10_thrown cX10_thrown 1 (some .int), .fieldLink RX10 114 "NeedleHouseModel" "thrown" "I", .code yX10_bad cX10_bad 3 (some .boolean), .code yX10_isTrace cX10_isTrace 2 (some .boolean)]
def CW10_2 : List Cond := [.code yX10_isRow cX10_isRow 3 (some .boolean), .methodLink RX10 117 yX10_isTrace, .instanceMethod yX10_isTrace, .selects RX10 yX10_isTrace yX10_isTrace, .code yX10_rowOf cX10_rowOf 2 (some .int), .code yX10_read cX10_read 5 (some .int), .methodLink RX10 121 yX10_isRow, .instanceMethod yX10_isRow, .selects RX10 yX10_isRow yX10_isRow, .methodLink RX10 125 yX10_bad, .instanceMethod yX10_bad, .selects RX10 yX10_bad yX10_bad, .methodLink RX10 129 yX10_rowOf, .static yX10_rowOf, .code yX10_lost cX10_lost 6 (some .int), .code yX10_reading cX10_reading 5 (some .int), .code yX10_at cX10_at 4 (some .int), .methodLink RX10 133 yX10_reading, .instanceMethod yX10_reading, .selects RX10 yX10_reading yX10_reading, .code yX10_shift cX10_shift 9 (some .int), .constant RX10 137 (-60000), .constant RX10 138 (60000), .code yX10_apart cX10_apart 2 (some .int)]
def CW10_3 : List Cond := [.code yX10_leap cX10_leap 6 (some .int), .methodLink RX10 139 yX10_apart, .static yX10_apart, .methodLink RX10 142 yX10_leap, .instanceMethod yX10_leap, .selects RX10 yX10_leap yX10_leap, .code yX10_jump cX10_jump 8 (some .int), .code yX10_joins cX10_joins 7 none, .code yX10_joinedAt cX10_joinedAt 3 (some .int), .methodLink RX10 145 yX10_joins, .instanceMethod yX10_joins, .selects RX10 yX10_joins yX10_joins, .methodLink RX10 149 yX10_joinedAt, .instanceMethod yX10_joinedAt, .selects RX10 yX10_joinedAt yX10_joinedAt, .code yX10_joined cX10_joined 3 (some .int), .code yX10_end cX10_end 3 (some .int), .code yX10_isPosition cX10_isPosition 1 (some .boolean), .constant RX10 152 (-100000), .constant RX10 153 (100000), .code yX10_measure cX10_measure 9 (some .int), .methodLink RX10 154 yX10_isPosition, .static yX10_isPosition, .code yX10_told cX10_told 5 (some .int)]
def CW10_4 : List Cond := [.code yX10_slopes cX10_slopes 11 none, .constantLong RX10 157 (-1), .fieldLink RX10 159 "NeedleHouseModel" "lowUp" "J", .fieldLink RX10 163 "NeedleHouseModel" "lowDown" "J", .fieldLink RX10 166 "NeedleHouseModel" "highUp" "J", .fieldLink RX10 169 "NeedleHouseModel" "highDown" "J", .code yX10_canBe cX10_canBe 3 (some .boolean), .methodLink RX10 172 yX10_slopes, .instanceMethod yX10_slopes, .selects RX10 yX10_slopes yX10_slopes, .code yX10_common cX10_common 10 (some .long), .code yX10_line cX10_line 19 none, .methodLink RX10 176 yX10_common, .static yX10_common, .fieldLink RX10 180 "NeedleHouseModel" "points" "I", .fieldLink RX10 183 "NeedleHouseModel" "pieces" "I", .methodLink RX10 186 yX10_canBe, .instanceMethod yX10_canBe, .selects RX10 yX10_canBe yX10_canBe, .methodLink RX10 189 yX10_line, .instanceMethod yX10_line, .selects RX10 yX10_line yX10_line, .code yX10_works cX10_works 5 none, .code yX10_floor cX10_floor 7 (some .long)]
def CW10_5 : List Cond := [.code yX10_base cX10_base 4 (some .long), .constantLong RX10 192 (2), .methodLink RX10 194 yX10_floor, .instanceMethod yX10_floor, .selects RX10 yX10_floor yX10_floor, .methodLink RX10 197 yX10_works, .instanceMethod yX10_works, .selects RX10 yX10_works yX10_works, .code yX10_pieces cX10_pieces 2 (some .int), .code yX10_piece cX10_piece 4 (some .int), .methodLink RX10 200 yX10_base, .instanceMethod yX10_base, .selects RX10 yX10_base yX10_base, .code yX10_baseline cX10_baseline 3 (some .int), .code yX10_finishes cX10_finishes 4 none, .methodLink RX10 204 yX10_finishes, .instanceMethod yX10_finishes, .selects RX10 yX10_finishes yX10_finishes, .code yX10_value cX10_value 3 (some .int), .code yX10_feed cX10_feed 9 (some .int), .fieldLink RX10 207 "NeedleHouseModel" "taped" "I", .code yX10_byteAt cX10_byteAt 2 (some .int), .fieldLink RX10 210 "NeedleHouseModel" "size" "I", .code yX10_blanks cX10_blanks 1 none]
def CW10_6 : List Cond := [.fieldLink RX10 213 "NeedleHouseModel" "at" "I", .methodLink RX10 216 yX10_byteAt, .instanceMethod yX10_byteAt, .selects RX10 yX10_byteAt yX10_byteAt, .code yX10_isDigit cX10_isDigit 1 (some .boolean), .code yX10_wrong cX10_wrong 3 none, .fieldLink RX10 219 "NeedleHouseModel" "fault" "I", .methodLink RX10 222 yX10_blanks, .instanceMethod yX10_blanks, .selects RX10 yX10_blanks yX10_blanks, .methodLink RX10 225 yJ0_length_8abf5, .instanceMethod yJ0_length_8abf5, .selects RJ0 yJ0_length_8abf5 yJ0_length_8abf5, .initialized RJ0, .code yJ0_length_8abf5 cJ0_length_8abf5 1 (some .int), .fieldLink RJ0 9 "java/lang/String" "value" "[B", .methodLink RJ0 335 yJ0_coder_7d493, .instanceMethod yJ0_coder_7d493, .selects RJ0 yJ0_coder_7d493 yJ0_coder_7d493, .code yJ0_coder_7d493 cJ0_coder_7d493 1 (some .byte), .fieldLink RJ0 38 "java/lang/String" "COMPACT_STRINGS" "Z", .fieldLink RJ0 15 "java/lang/String" "coder" "B", .methodLink RX10 230 yJ0_charAt_5068e, .instanceMethod yJ0_charAt_5068e]
def CW10_7 : List Cond := [.selects RJ0 yJ0_charAt_5068e yJ0_charAt_5068e, .code yJ0_charAt_5068e cJ0_charAt_5068e 2 (some .char), .methodLink RJ0 492 yJ0_isLatin1_aae02, .instanceMethod yJ0_isLatin1_aae02, .selects RJ0 yJ0_isLatin1_aae02 yJ0_isLatin1_aae02, .code yJ0_isLatin1_aae02 cJ0_isLatin1_aae02 1 (some .boolean), .methodLink RJ0 495 yJ1_charAt_3b067, .static yJ1_charAt_3b067, .initialized RJ1, .code yJ1_charAt_3b067 cJ1_charAt_3b067 2 (some .char), .methodLink RJ1 9 yJ0_checkIndex_df160, .static yJ0_checkIndex_df160, .code yJ0_checkIndex_df160 cJ0_checkIndex_df160 2 none, .fieldLink RJ0 1053 "jdk/internal/util/Preconditions" "SIOOBE_FORMATTER" "Ljava/util/function/BiFunction;", .methodLink RJ0 1059 yJ3_checkIndex_8e157, .static yJ3_checkIndex_8e157, .initialized RJ3, .code yJ3_checkIndex_8e157 cJ3_checkIndex_8e157 3 (some .int), .methodLink RJ0 498 yJ2_charAt_3b067, .static yJ2_charAt_3b067, .initialized RJ2, .code yJ2_charAt_3b067 cJ2_charAt_3b067 2 (some .char), .methodLink RJ2 67 yJ2_checkIndex_2214a, .static yJ2_checkIndex_2214a]
def CW10_8 : List Cond := [.code yJ2_checkIndex_2214a cJ2_checkIndex_2214a 2 none, .methodLink RJ2 48 yJ2_length_9d52b, .static yJ2_length_9d52b, .code yJ2_length_9d52b cJ2_length_9d52b 1 (some .int), .methodLink RJ2 414 yJ0_checkIndex_df160, .methodLink RJ2 71 yJ2_getChar_3b067, .static yJ2_getChar_3b067, .code yJ2_getChar_3b067 cJ2_getChar_3b067 2 (some .char), .fieldLink RJ2 44 "java/lang/StringUTF16" "$assertionsDisabled" "Z", .fieldLink RJ2 59 "java/lang/StringUTF16" "HI_BYTE_SHIFT" "I", .fieldLink RJ2 63 "java/lang/StringUTF16" "LO_BYTE_SHIFT" "I", .code yX10_isWord cX10_isWord 3 (some .boolean), .code yX10_wordOf cX10_wordOf 1 (some (.object "java/lang/String")), .methodLink RX10 241 yX10_wordOf, .static yX10_wordOf, .methodLink RX10 245 yX10_isWord, .instanceMethod yX10_isWord, .selects RX10 yX10_isWord yX10_isWord, .code yX10_wordHere cX10_wordHere 2 (some .int), .code yX10_number cX10_number 4 (some .int), .fieldLink RX10 249 "NeedleHouseModel" "began" "I", .methodLink RX10 252 yX10_isDigit, .static yX10_isDigit, .methodLink RX10 255 yX10_wrong]
def CW10_9 : List Cond := [.instanceMethod yX10_wrong, .selects RX10 yX10_wrong yX10_wrong, .fieldLink RX10 264 "NeedleHouseModel" "newLimit" "I", .fieldLink RX10 267 "NeedleHouseModel" "newNear" "I", .fieldLink RX10 270 "NeedleHouseModel" "newOne" "I", .fieldLink RX10 275 "NeedleHouseModel" "newOf" "I", .fieldLink RX10 278 "NeedleHouseModel" "newWindow" "I", .fieldLink RX10 281 "NeedleHouseModel" "newStorm" "I", .fieldLink RX10 284 "NeedleHouseModel" "newMany" "I", .methodLink RX10 258 yX10_wordHere, .instanceMethod yX10_wordHere, .selects RX10 yX10_wordHere yX10_wordHere, .methodLink RX10 261 yX10_number, .instanceMethod yX10_number, .selects RX10 yX10_number yX10_number, .code yX10_clause cX10_clause 4 none, .fieldLink RX10 290 "NeedleHouseModel" "clauses" "I", .methodLink RX10 287 yX10_clause, .instanceMethod yX10_clause, .selects RX10 yX10_clause yX10_clause, .code yX10_rule cX10_rule 4 (some .int), .code yX10_fault cX10_fault 1 (some .int), .code yX10_train cX10_train 3 (some .int), .fieldLink RX10 293 "NeedleHouseModel" "trains" "I"]
def CW10_10 : List Cond := [.code yX10_isTrain cX10_isTrain 3 (some .boolean), .code yX10_timesMany cX10_timesMany 3 (some .int), .code yX10_rangeOf cX10_rangeOf 8 (some .int), .methodLink RX10 296 yX10_isTrain, .instanceMethod yX10_isTrain, .selects RX10 yX10_isTrain yX10_isTrain, .code yX10_isWindow cX10_isWindow 2 (some .boolean), .methodLink RX10 299 yX10_timesMany, .instanceMethod yX10_timesMany, .selects RX10 yX10_timesMany yX10_timesMany, .methodLink RX10 302 yX10_isWindow, .instanceMethod yX10_isWindow, .selects RX10 yX10_isWindow yX10_isWindow, .methodLink RX10 305 yX10_rangeOf, .instanceMethod yX10_rangeOf, .selects RX10 yX10_rangeOf yX10_rangeOf, .code yX10_range cX10_range 3 (some .int), .code yX10_indexOf cX10_indexOf 6 (some .int), .code yX10_allFinals cX10_allFinals 2 none, .methodLink RX10 308 yX10_allFinals, .instanceMethod yX10_allFinals, .selects RX10 yX10_allFinals yX10_allFinals, .methodLink RX10 311 yX10_indexOf, .instanceMethod yX10_indexOf]
def CW10_11 : List Cond := [.selects RX10 yX10_indexOf yX10_indexOf, .code yX10_index cX10_index 2 (some .int), .code yX10_isStorm cX10_isStorm 3 (some .boolean), .methodLink RX10 314 yX10_isStorm, .instanceMethod yX10_isStorm, .selects RX10 yX10_isStorm yX10_isStorm, .code yX10_storm cX10_storm 7 (some .int), .code yX10_quiet cX10_quiet 8 (some .int), .fieldLink RX10 317 "NeedleHouseModel" "publishings" "I", .code yX10_publish cX10_publish 3 (some .int), .code yX10_changed cX10_changed 5 (some .int), .code yX10_published cX10_published 3 (some .int), .code yX10_count cX10_count 2 (some .int)]
def CW10_u : List Cond := wsX100
def CW10 : List Cond := CW10_0 ++ (CW10_1 ++ (CW10_2 ++ (CW10_3 ++ (CW10_4 ++ (CW10_5 ++ (CW10_6 ++ (CW10_7 ++ (CW10_8 ++ (CW10_9 ++ (CW10_10 ++ (CW10_11 ++ (CW10_u))))))))))))
theorem CW10_up : ∀ w ∈ CW10_u, w ∈ CW10 := fun w h => List.mem_append_right _ (List.mem_append_right _ (List.mem_append_right _ (List.mem_append_right _ (List.mem_append_right _ (List.mem_append_right _ (List.mem_append_right _ (List.mem_append_right _ (List.mem_append_right _ (List.mem_append_right _ (List.mem_append_right _ (List.mem_append_right _ (h))))))))))))
theorem iCW10_X10 : ∀ w ∈ wsX100, w ∈ CW10 := fun w h => CW10_up w (h)
theorem CW10_good : CW10.all goodWord = true := by decide +kernel
def wvX10_firstIndex : List Cond := .code yX10_firstIndex cX10_firstIndex 1 (some .int) :: CW10
def wvX10_init : List Cond := .code yX10_init cX10_init 2 none :: CW10
def wvX10_thrown : List Cond := .code yX10_thrown cX10_thrown 1 (some .int) :: CW10
def wvX10_bad : List Cond := .code yX10_bad cX10_bad 3 (some .boolean) :: CW10
def wvX10_isTrace : List Cond := .code yX10_isTrace cX10_isTrace 2 (some .boolean) :: CW10
def wvX10_isRow : List Cond := .code yX10_isRow cX10_isRow 3 (some .boolean) :: CW10
def wvX10_rowOf : List Cond := .code yX10_rowOf cX10_rowOf 2 (some .int) :: CW10
def wvX10_read : List Cond := .code yX10_read cX10_read 5 (some .int) :: CW10
def wvX10_lost : List Cond := .code yX10_lost cX10_lost 6 (some .int) :: CW10
def wvX10_reading : List Cond := .code yX10_reading cX10_reading 5 (some .int) :: CW10
def wvX10_at : List Cond := .code yX10_at cX10_at 4 (some .int) :: CW10
def wvX10_shift : List Cond := .code yX10_shift cX10_shift 9 (some .int) :: CW10
def wvX10_apart : List Cond := .code yX10_apart cX10_apart 2 (some .int) :: CW10
def wvX10_leap : List Cond := .code yX10_leap cX10_leap 6 (some .int) :: CW10
def wvX10_jump : List Cond := .code yX10_jump cX10_jump 8 (some .int) :: CW10
def wvX10_joins : List Cond := .code yX10_joins cX10_joins 7 none :: CW10
def wvX10_joinedAt : List Cond := .code yX10_joinedAt cX10_joinedAt 3 (some .int) :: CW10
def wvX10_joined : List Cond := .code yX10_joined cX10_joined 3 (some .int) :: CW10
def wvX10_end : List Cond := .code yX10_end cX10_end 3 (some .int) :: CW10
def wvX10_isPosition : List Cond := .code yX10_isPosition cX10_isPosition 1 (some .boolean) :: CW10
def wvX10_measure : List Cond := .code yX10_measure cX10_measure 9 (some .int) :: CW10
def wvX10_told : List Cond := .code yX10_told cX10_told 5 (some .int) :: CW10
def wvX10_slopes : List Cond := .code yX10_slopes cX10_slopes 11 none :: CW10
def wvX10_canBe : List Cond := .code yX10_canBe cX10_canBe 3 (some .boolean) :: CW10
def wvX10_common : List Cond := .code yX10_common cX10_common 10 (some .long) :: CW10
def wvX10_line : List Cond := .code yX10_line cX10_line 19 none :: CW10
def wvX10_works : List Cond := .code yX10_works cX10_works 5 none :: CW10
def wvX10_floor : List Cond := .code yX10_floor cX10_floor 7 (some .long) :: CW10
def wvX10_base : List Cond := .code yX10_base cX10_base 4 (some .long) :: CW10
def wvX10_pieces : List Cond := .code yX10_pieces cX10_pieces 2 (some .int) :: CW10
def wvX10_piece : List Cond := .code yX10_piece cX10_piece 4 (some .int) :: CW10
def wvX10_baseline : List Cond := .code yX10_baseline cX10_baseline 3 (some .int) :: CW10
def wvX10_finishes : List Cond := .code yX10_finishes cX10_finishes 4 none :: CW10
def wvX10_value : List Cond := .code yX10_value cX10_value 3 (some .int) :: CW10
def wvX10_feed : List Cond := .code yX10_feed cX10_feed 9 (some .int) :: CW10
def wvX10_byteAt : List Cond := .code yX10_byteAt cX10_byteAt 2 (some .int) :: CW10
def wvX10_blanks : List Cond := .code yX10_blanks cX10_blanks 1 none :: CW10
def wvX10_isDigit : List Cond := .code yX10_isDigit cX10_isDigit 1 (some .boolean) :: CW10
def wvX10_wrong : List Cond := .code yX10_wrong cX10_wrong 3 none :: CW10
def wvX10_isWord : List Cond := .code yX10_isWord cX10_isWord 3 (some .boolean) :: CW10
def wvX10_wordOf : List Cond := .code yX10_wordOf cX10_wordOf 1 (some (.object "java/lang/String")) :: CW10
def wvX10_wordHere : List Cond := .code yX10_wordHere cX10_wordHere 2 (some .int) :: CW10
def wvX10_number : List Cond := .code yX10_number cX10_number 4 (some .int) :: CW10
def wvX10_clause : List Cond := .code yX10_clause cX10_clause 4 none :: CW10
def wvX10_rule : List Cond := .code yX10_rule cX10_rule 4 (some .int) :: CW10
def wvX10_fault : List Cond := .code yX10_fault cX10_fault 1 (some .int) :: CW10
def wvX10_train : List Cond := .code yX10_train cX10_train 3 (some .int) :: CW10
def wvX10_isTrain : List Cond := .code yX10_isTrain cX10_isTrain 3 (some .boolean) :: CW10
def wvX10_timesMany : List Cond := .code yX10_timesMany cX10_timesMany 3 (some .int) :: CW10
def wvX10_rangeOf : List Cond := .code yX10_rangeOf cX10_rangeOf 8 (some .int) :: CW10
def wvX10_isWindow : List Cond := .code yX10_isWindow cX10_isWindow 2 (some .boolean) :: CW10
def wvX10_range : List Cond := .code yX10_range cX10_range 3 (some .int) :: CW10
def wvX10_indexOf : List Cond := .code yX10_indexOf cX10_indexOf 6 (some .int) :: CW10
def wvX10_allFinals : List Cond := .code yX10_allFinals cX10_allFinals 2 none :: CW10
def wvX10_index : List Cond := .code yX10_index cX10_index 2 (some .int) :: CW10
def wvX10_isStorm : List Cond := .code yX10_isStorm cX10_isStorm 3 (some .boolean) :: CW10
def wvX10_storm : List Cond := .code yX10_storm cX10_storm 7 (some .int) :: CW10
def wvX10_quiet : List Cond := .code yX10_quiet cX10_quiet 8 (some .int) :: CW10
def wvX10_publish : List Cond := .code yX10_publish cX10_publish 3 (some .int) :: CW10
def wvX10_changed : List Cond := .code yX10_changed cX10_changed 5 (some .int) :: CW10
def wvX10_published : List Cond := .code yX10_published cX10_published 3 (some .int) :: CW10
def wvX10_count : List Cond := .code yX10_count cX10_count 2 (some .int) :: CW10
