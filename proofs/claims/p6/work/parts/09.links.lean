theorem lk_in {w : Cond} {i : Nat} (h : tables_1[i]? = some w) (h2 : goodWord w = true) : w ∈ mx_T0 := mx_in0 (List.mem_append_right _ (List.mem_of_getElem? h)) h2
theorem ic_Z : Cond.initialized "LadderWordsLaw" ∈ mx_T0 := lk_in (i := 0) (by decide +kernel) rfl
theorem ic_L : Cond.initialized "LadderWords" ∈ mx_T0 := lk_in (i := 1) (by decide +kernel) rfl
theorem ic_R : Cond.initialized "LadderWords$Row" ∈ mx_T0 := lk_in (i := 2) (by decide +kernel) rfl
theorem ic_W : Cond.initialized "LadderWords$Words" ∈ mx_T0 := lk_in (i := 3) (by decide +kernel) rfl
theorem ic_D : Cond.initialized "LadderWords$Ladders" ∈ mx_T0 := lk_in (i := 4) (by decide +kernel) rfl
theorem ic_G : Cond.initialized "LadderWords$Gatherings" ∈ mx_T0 := lk_in (i := 5) (by decide +kernel) rfl
theorem ic_Q : Cond.initialized "LadderWords$Squares" ∈ mx_T0 := lk_in (i := 6) (by decide +kernel) rfl
theorem ic_C : Cond.initialized "LadderWords$Grid" ∈ mx_T0 := lk_in (i := 7) (by decide +kernel) rfl
theorem ic_M : Cond.initialized "LadderWordsModel" ∈ mx_T0 := lk_in (i := 8) (by decide +kernel) rfl
theorem mk_Z_9 : Cond.methodLink "LadderWordsLaw" 9 y_L_init ∈ mx_T0 := lk_in (i := 11) (by decide +kernel) rfl
theorem im_L_init : Cond.instanceMethod y_L_init ∈ mx_T0 := lk_in (i := 12) (by decide +kernel) rfl
theorem co_L_init : Cond.code y_L_init c_L_init 1 none ∈ mx_T0 := lk_in (i := 13) (by decide +kernel) rfl
theorem im_R_init : Cond.instanceMethod y_R_init ∈ mx_T0 := lk_in (i := 20) (by decide +kernel) rfl
theorem co_R_init : Cond.code y_R_init c_R_init 1 none ∈ mx_T0 := lk_in (i := 21) (by decide +kernel) rfl
theorem fk_R_9 : Cond.fieldLink "LadderWords$Row" 9 "LadderWords$Row" "letters" "[I" ∈ mx_T0 := lk_in (i := 23) (by decide +kernel) rfl
theorem fk_R_15 : Cond.fieldLink "LadderWords$Row" 15 "LadderWords$Row" "length" "I" ∈ mx_T0 := lk_in (i := 24) (by decide +kernel) rfl
theorem im_W_init : Cond.instanceMethod y_W_init ∈ mx_T0 := lk_in (i := 34) (by decide +kernel) rfl
theorem co_W_init : Cond.code y_W_init c_W_init 1 none ∈ mx_T0 := lk_in (i := 35) (by decide +kernel) rfl
theorem fk_W_9 : Cond.fieldLink "LadderWords$Words" 9 "LadderWords$Words" "letters" "[I" ∈ mx_T0 := lk_in (i := 37) (by decide +kernel) rfl
theorem fk_W_15 : Cond.fieldLink "LadderWords$Words" 15 "LadderWords$Words" "starts" "[I" ∈ mx_T0 := lk_in (i := 38) (by decide +kernel) rfl
theorem fk_W_18 : Cond.fieldLink "LadderWords$Words" 18 "LadderWords$Words" "count" "I" ∈ mx_T0 := lk_in (i := 39) (by decide +kernel) rfl
theorem mk_L_25 : Cond.methodLink "LadderWords" 25 y_D_init ∈ mx_T0 := lk_in (i := 49) (by decide +kernel) rfl
theorem im_D_init : Cond.instanceMethod y_D_init ∈ mx_T0 := lk_in (i := 50) (by decide +kernel) rfl
theorem co_D_init : Cond.code y_D_init c_D_init 2 none ∈ mx_T0 := lk_in (i := 51) (by decide +kernel) rfl
theorem fk_D_22 : Cond.fieldLink "LadderWords$Ladders" 22 "LadderWords$Ladders" "words" "LLadderWords$Words;" ∈ mx_T0 := lk_in (i := 53) (by decide +kernel) rfl
theorem fk_D_9 : Cond.fieldLink "LadderWords$Ladders" 9 "LadderWords$Ladders" "distances" "[I" ∈ mx_T0 := lk_in (i := 54) (by decide +kernel) rfl
theorem fk_D_15 : Cond.fieldLink "LadderWords$Ladders" 15 "LadderWords$Ladders" "counts" "[J" ∈ mx_T0 := lk_in (i := 55) (by decide +kernel) rfl
theorem fk_D_19 : Cond.fieldLink "LadderWords$Ladders" 19 "LadderWords$Ladders" "rungs" "[I" ∈ mx_T0 := lk_in (i := 56) (by decide +kernel) rfl
theorem fk_D_26 : Cond.fieldLink "LadderWords$Ladders" 26 "LadderWords$Ladders" "rungCount" "I" ∈ mx_T0 := lk_in (i := 57) (by decide +kernel) rfl
theorem fk_D_30 : Cond.fieldLink "LadderWords$Ladders" 30 "LadderWords$Ladders" "shortest" "J" ∈ mx_T0 := lk_in (i := 58) (by decide +kernel) rfl
theorem fk_D_52 : Cond.fieldLink "LadderWords$Ladders" 52 "LadderWords$Ladders" "wordsThen" "I" ∈ mx_T0 := lk_in (i := 59) (by decide +kernel) rfl
theorem mk_L_34 : Cond.methodLink "LadderWords" 34 y_G_init ∈ mx_T0 := lk_in (i := 78) (by decide +kernel) rfl
theorem im_G_init : Cond.instanceMethod y_G_init ∈ mx_T0 := lk_in (i := 79) (by decide +kernel) rfl
theorem co_G_init : Cond.code y_G_init c_G_init 2 none ∈ mx_T0 := lk_in (i := 80) (by decide +kernel) rfl
theorem fk_G_25 : Cond.fieldLink "LadderWords$Gatherings" 25 "LadderWords$Gatherings" "words" "LLadderWords$Words;" ∈ mx_T0 := lk_in (i := 82) (by decide +kernel) rfl
theorem fk_G_9 : Cond.fieldLink "LadderWords$Gatherings" 9 "LadderWords$Gatherings" "fitting" "[I" ∈ mx_T0 := lk_in (i := 83) (by decide +kernel) rfl
theorem fk_G_15 : Cond.fieldLink "LadderWords$Gatherings" 15 "LadderWords$Gatherings" "heaps" "[J" ∈ mx_T0 := lk_in (i := 84) (by decide +kernel) rfl
theorem fk_G_75 : Cond.fieldLink "LadderWords$Gatherings" 75 "LadderWords$Gatherings" "fittingCount" "I" ∈ mx_T0 := lk_in (i := 85) (by decide +kernel) rfl
theorem fk_G_19 : Cond.fieldLink "LadderWords$Gatherings" 19 "LadderWords$Gatherings" "chosen" "[I" ∈ mx_T0 := lk_in (i := 86) (by decide +kernel) rfl
theorem fk_G_22 : Cond.fieldLink "LadderWords$Gatherings" 22 "LadderWords$Gatherings" "kept" "[I" ∈ mx_T0 := lk_in (i := 87) (by decide +kernel) rfl
theorem fk_G_29 : Cond.fieldLink "LadderWords$Gatherings" 29 "LadderWords$Gatherings" "keptCount" "I" ∈ mx_T0 := lk_in (i := 88) (by decide +kernel) rfl
theorem fk_G_33 : Cond.fieldLink "LadderWords$Gatherings" 33 "LadderWords$Gatherings" "total" "I" ∈ mx_T0 := lk_in (i := 89) (by decide +kernel) rfl
theorem fk_G_42 : Cond.fieldLink "LadderWords$Gatherings" 42 "LadderWords$Gatherings" "wordsThen" "I" ∈ mx_T0 := lk_in (i := 90) (by decide +kernel) rfl
theorem mk_L_41 : Cond.methodLink "LadderWords" 41 y_Q_init ∈ mx_T0 := lk_in (i := 112) (by decide +kernel) rfl
theorem im_Q_init : Cond.instanceMethod y_Q_init ∈ mx_T0 := lk_in (i := 113) (by decide +kernel) rfl
theorem co_Q_init : Cond.code y_Q_init c_Q_init 2 none ∈ mx_T0 := lk_in (i := 114) (by decide +kernel) rfl
theorem fk_Q_23 : Cond.fieldLink "LadderWords$Squares" 23 "LadderWords$Squares" "words" "LLadderWords$Words;" ∈ mx_T0 := lk_in (i := 118) (by decide +kernel) rfl
theorem fk_Q_13 : Cond.fieldLink "LadderWords$Squares" 13 "LadderWords$Squares" "having" "[[J" ∈ mx_T0 := lk_in (i := 119) (by decide +kernel) rfl
theorem fk_Q_16 : Cond.fieldLink "LadderWords$Squares" 16 "LadderWords$Squares" "open" "[[J" ∈ mx_T0 := lk_in (i := 120) (by decide +kernel) rfl
theorem fk_Q_19 : Cond.fieldLink "LadderWords$Squares" 19 "LadderWords$Squares" "lines" "[I" ∈ mx_T0 := lk_in (i := 121) (by decide +kernel) rfl
theorem fk_Q_27 : Cond.fieldLink "LadderWords$Squares" 27 "LadderWords$Squares" "size" "I" ∈ mx_T0 := lk_in (i := 122) (by decide +kernel) rfl
theorem fk_Q_45 : Cond.fieldLink "LadderWords$Squares" 45 "LadderWords$Squares" "wordsThen" "I" ∈ mx_T0 := lk_in (i := 123) (by decide +kernel) rfl
theorem mk_L_48 : Cond.methodLink "LadderWords" 48 y_C_init ∈ mx_T0 := lk_in (i := 139) (by decide +kernel) rfl
theorem im_C_init : Cond.instanceMethod y_C_init ∈ mx_T0 := lk_in (i := 140) (by decide +kernel) rfl
theorem co_C_init : Cond.code y_C_init c_C_init 2 none ∈ mx_T0 := lk_in (i := 141) (by decide +kernel) rfl
theorem fk_C_15 : Cond.fieldLink "LadderWords$Grid" 15 "LadderWords$Grid" "words" "LLadderWords$Words;" ∈ mx_T0 := lk_in (i := 143) (by decide +kernel) rfl
theorem fk_C_11 : Cond.fieldLink "LadderWords$Grid" 11 "LadderWords$Grid" "cells" "[I" ∈ mx_T0 := lk_in (i := 144) (by decide +kernel) rfl
theorem fk_L_10 : Cond.fieldLink "LadderWords" 10 "LadderWords" "row" "LLadderWords$Row;" ∈ mx_T0 := lk_in (i := 150) (by decide +kernel) rfl
theorem fk_L_19 : Cond.fieldLink "LadderWords" 19 "LadderWords" "words" "LLadderWords$Words;" ∈ mx_T0 := lk_in (i := 151) (by decide +kernel) rfl
theorem fk_L_28 : Cond.fieldLink "LadderWords" 28 "LadderWords" "ladders" "LLadderWords$Ladders;" ∈ mx_T0 := lk_in (i := 152) (by decide +kernel) rfl
theorem fk_L_35 : Cond.fieldLink "LadderWords" 35 "LadderWords" "gatherings" "LLadderWords$Gatherings;" ∈ mx_T0 := lk_in (i := 153) (by decide +kernel) rfl
theorem fk_L_42 : Cond.fieldLink "LadderWords" 42 "LadderWords" "squares" "LLadderWords$Squares;" ∈ mx_T0 := lk_in (i := 154) (by decide +kernel) rfl
theorem fk_L_49 : Cond.fieldLink "LadderWords" 49 "LadderWords" "grid" "LLadderWords$Grid;" ∈ mx_T0 := lk_in (i := 155) (by decide +kernel) rfl
theorem mk_Z_13 : Cond.methodLink "LadderWordsLaw" 13 y_L_unit ∈ mx_T0 := lk_in (i := 169) (by decide +kernel) rfl
theorem im_L_unit : Cond.instanceMethod y_L_unit ∈ mx_T0 := lk_in (i := 170) (by decide +kernel) rfl
theorem se_L_unit : Cond.selects "LadderWords" y_L_unit y_L_unit ∈ mx_T0 := lk_in (i := 171) (by decide +kernel) rfl
theorem co_L_unit : Cond.code y_L_unit c_L_unit 2 (some .boolean) ∈ mx_T0 := lk_in (i := 172) (by decide +kernel) rfl
theorem mk_L_53 : Cond.methodLink "LadderWords" 53 y_R_add ∈ mx_T0 := lk_in (i := 173) (by decide +kernel) rfl
theorem im_R_add : Cond.instanceMethod y_R_add ∈ mx_T0 := lk_in (i := 174) (by decide +kernel) rfl
theorem se_R_add : Cond.selects "LadderWords$Row" y_R_add y_R_add ∈ mx_T0 := lk_in (i := 175) (by decide +kernel) rfl
theorem co_R_add : Cond.code y_R_add c_R_add 2 (some .boolean) ∈ mx_T0 := lk_in (i := 176) (by decide +kernel) rfl
theorem mk_Z_18 : Cond.methodLink "LadderWordsLaw" 18 y_L_word ∈ mx_T0 := lk_in (i := 177) (by decide +kernel) rfl
theorem im_L_word : Cond.instanceMethod y_L_word ∈ mx_T0 := lk_in (i := 178) (by decide +kernel) rfl
theorem se_L_word : Cond.selects "LadderWords" y_L_word y_L_word ∈ mx_T0 := lk_in (i := 179) (by decide +kernel) rfl
theorem co_L_word : Cond.code y_L_word c_L_word 2 (some .int) ∈ mx_T0 := lk_in (i := 180) (by decide +kernel) rfl
theorem mk_L_57 : Cond.methodLink "LadderWords" 57 y_W_numberFor ∈ mx_T0 := lk_in (i := 181) (by decide +kernel) rfl
theorem im_W_numberFor : Cond.instanceMethod y_W_numberFor ∈ mx_T0 := lk_in (i := 182) (by decide +kernel) rfl
theorem se_W_numberFor : Cond.selects "LadderWords$Words" y_W_numberFor y_W_numberFor ∈ mx_T0 := lk_in (i := 183) (by decide +kernel) rfl
theorem co_W_numberFor : Cond.code y_W_numberFor c_W_numberFor 3 (some .int) ∈ mx_T0 := lk_in (i := 184) (by decide +kernel) rfl
theorem mk_W_26 : Cond.methodLink "LadderWords$Words" 26 y_R_length ∈ mx_T0 := lk_in (i := 185) (by decide +kernel) rfl
theorem im_R_length : Cond.instanceMethod y_R_length ∈ mx_T0 := lk_in (i := 186) (by decide +kernel) rfl
theorem se_R_length : Cond.selects "LadderWords$Row" y_R_length y_R_length ∈ mx_T0 := lk_in (i := 187) (by decide +kernel) rfl
theorem co_R_length : Cond.code y_R_length c_R_length 1 (some .int) ∈ mx_T0 := lk_in (i := 188) (by decide +kernel) rfl
theorem mk_W_31 : Cond.methodLink "LadderWords$Words" 31 y_W_knownNumberOf ∈ mx_T0 := lk_in (i := 189) (by decide +kernel) rfl
theorem im_W_knownNumberOf : Cond.instanceMethod y_W_knownNumberOf ∈ mx_T0 := lk_in (i := 191) (by decide +kernel) rfl
theorem co_W_knownNumberOf : Cond.code y_W_knownNumberOf c_W_knownNumberOf 3 (some .int) ∈ mx_T0 := lk_in (i := 192) (by decide +kernel) rfl
theorem mk_W_39 : Cond.methodLink "LadderWords$Words" 39 y_W_isSame ∈ mx_T0 := lk_in (i := 193) (by decide +kernel) rfl
theorem im_W_isSame : Cond.instanceMethod y_W_isSame ∈ mx_T0 := lk_in (i := 195) (by decide +kernel) rfl
theorem co_W_isSame : Cond.code y_W_isSame c_W_isSame 4 (some .boolean) ∈ mx_T0 := lk_in (i := 196) (by decide +kernel) rfl
theorem mk_W_43 : Cond.methodLink "LadderWords$Words" 43 y_W_lengthOf ∈ mx_T0 := lk_in (i := 197) (by decide +kernel) rfl
theorem im_W_lengthOf : Cond.instanceMethod y_W_lengthOf ∈ mx_T0 := lk_in (i := 198) (by decide +kernel) rfl
theorem se_W_lengthOf : Cond.selects "LadderWords$Words" y_W_lengthOf y_W_lengthOf ∈ mx_T0 := lk_in (i := 199) (by decide +kernel) rfl
theorem co_W_lengthOf : Cond.code y_W_lengthOf c_W_lengthOf 2 (some .int) ∈ mx_T0 := lk_in (i := 200) (by decide +kernel) rfl
theorem mk_W_47 : Cond.methodLink "LadderWords$Words" 47 y_W_letterOf ∈ mx_T0 := lk_in (i := 201) (by decide +kernel) rfl
theorem im_W_letterOf : Cond.instanceMethod y_W_letterOf ∈ mx_T0 := lk_in (i := 202) (by decide +kernel) rfl
theorem se_W_letterOf : Cond.selects "LadderWords$Words" y_W_letterOf y_W_letterOf ∈ mx_T0 := lk_in (i := 203) (by decide +kernel) rfl
theorem co_W_letterOf : Cond.code y_W_letterOf c_W_letterOf 3 (some .int) ∈ mx_T0 := lk_in (i := 204) (by decide +kernel) rfl
theorem mk_W_51 : Cond.methodLink "LadderWords$Words" 51 y_R_letterAt ∈ mx_T0 := lk_in (i := 205) (by decide +kernel) rfl
theorem im_R_letterAt : Cond.instanceMethod y_R_letterAt ∈ mx_T0 := lk_in (i := 206) (by decide +kernel) rfl
theorem se_R_letterAt : Cond.selects "LadderWords$Row" y_R_letterAt y_R_letterAt ∈ mx_T0 := lk_in (i := 207) (by decide +kernel) rfl
theorem co_R_letterAt : Cond.code y_R_letterAt c_R_letterAt 2 (some .int) ∈ mx_T0 := lk_in (i := 208) (by decide +kernel) rfl
theorem mk_W_35 : Cond.methodLink "LadderWords$Words" 35 y_W_append ∈ mx_T0 := lk_in (i := 209) (by decide +kernel) rfl
theorem im_W_append : Cond.instanceMethod y_W_append ∈ mx_T0 := lk_in (i := 211) (by decide +kernel) rfl
theorem co_W_append : Cond.code y_W_append c_W_append 4 none ∈ mx_T0 := lk_in (i := 212) (by decide +kernel) rfl
theorem mk_L_61 : Cond.methodLink "LadderWords" 61 y_R_clear ∈ mx_T0 := lk_in (i := 213) (by decide +kernel) rfl
theorem im_R_clear : Cond.instanceMethod y_R_clear ∈ mx_T0 := lk_in (i := 214) (by decide +kernel) rfl
theorem se_R_clear : Cond.selects "LadderWords$Row" y_R_clear y_R_clear ∈ mx_T0 := lk_in (i := 215) (by decide +kernel) rfl
theorem co_R_clear : Cond.code y_R_clear c_R_clear 1 none ∈ mx_T0 := lk_in (i := 216) (by decide +kernel) rfl
theorem mk_Z_23 : Cond.methodLink "LadderWordsLaw" 23 y_L_letter ∈ mx_T0 := lk_in (i := 217) (by decide +kernel) rfl
theorem im_L_letter : Cond.instanceMethod y_L_letter ∈ mx_T0 := lk_in (i := 218) (by decide +kernel) rfl
theorem se_L_letter : Cond.selects "LadderWords" y_L_letter y_L_letter ∈ mx_T0 := lk_in (i := 219) (by decide +kernel) rfl
theorem co_L_letter : Cond.code y_L_letter c_L_letter 3 (some .int) ∈ mx_T0 := lk_in (i := 220) (by decide +kernel) rfl
theorem mk_L_64 : Cond.methodLink "LadderWords" 64 y_W_letterOf ∈ mx_T0 := lk_in (i := 221) (by decide +kernel) rfl
theorem mk_Z_28 : Cond.methodLink "LadderWordsLaw" 28 y_L_ladder ∈ mx_T0 := lk_in (i := 222) (by decide +kernel) rfl
theorem im_L_ladder : Cond.instanceMethod y_L_ladder ∈ mx_T0 := lk_in (i := 223) (by decide +kernel) rfl
theorem se_L_ladder : Cond.selects "LadderWords" y_L_ladder y_L_ladder ∈ mx_T0 := lk_in (i := 224) (by decide +kernel) rfl
theorem co_L_ladder : Cond.code y_L_ladder c_L_ladder 4 (some .int) ∈ mx_T0 := lk_in (i := 225) (by decide +kernel) rfl
theorem mk_L_68 : Cond.methodLink "LadderWords" 68 y_D_find ∈ mx_T0 := lk_in (i := 226) (by decide +kernel) rfl
theorem im_D_find : Cond.instanceMethod y_D_find ∈ mx_T0 := lk_in (i := 227) (by decide +kernel) rfl
theorem se_D_find : Cond.selects "LadderWords$Ladders" y_D_find y_D_find ∈ mx_T0 := lk_in (i := 228) (by decide +kernel) rfl
theorem co_D_find : Cond.code y_D_find c_D_find 4 (some .int) ∈ mx_T0 := lk_in (i := 229) (by decide +kernel) rfl
theorem mk_D_34 : Cond.methodLink "LadderWords$Ladders" 34 y_W_has ∈ mx_T0 := lk_in (i := 230) (by decide +kernel) rfl
theorem im_W_has : Cond.instanceMethod y_W_has ∈ mx_T0 := lk_in (i := 231) (by decide +kernel) rfl
theorem se_W_has : Cond.selects "LadderWords$Words" y_W_has y_W_has ∈ mx_T0 := lk_in (i := 232) (by decide +kernel) rfl
theorem co_W_has : Cond.code y_W_has c_W_has 2 (some .boolean) ∈ mx_T0 := lk_in (i := 233) (by decide +kernel) rfl
theorem mk_D_40 : Cond.methodLink "LadderWords$Ladders" 40 y_D_measure ∈ mx_T0 := lk_in (i := 234) (by decide +kernel) rfl
theorem im_D_measure : Cond.instanceMethod y_D_measure ∈ mx_T0 := lk_in (i := 236) (by decide +kernel) rfl
theorem co_D_measure : Cond.code y_D_measure c_D_measure 6 none ∈ mx_T0 := lk_in (i := 237) (by decide +kernel) rfl
theorem mk_D_48 : Cond.methodLink "LadderWords$Ladders" 48 y_W_count ∈ mx_T0 := lk_in (i := 238) (by decide +kernel) rfl
theorem im_W_count : Cond.instanceMethod y_W_count ∈ mx_T0 := lk_in (i := 239) (by decide +kernel) rfl
theorem se_W_count : Cond.selects "LadderWords$Words" y_W_count y_W_count ∈ mx_T0 := lk_in (i := 240) (by decide +kernel) rfl
theorem co_W_count : Cond.code y_W_count c_W_count 1 (some .int) ∈ mx_T0 := lk_in (i := 241) (by decide +kernel) rfl
theorem mk_D_55 : Cond.methodLink "LadderWords$Ladders" 55 y_D_spread ∈ mx_T0 := lk_in (i := 242) (by decide +kernel) rfl
theorem im_D_spread : Cond.instanceMethod y_D_spread ∈ mx_T0 := lk_in (i := 244) (by decide +kernel) rfl
theorem co_D_spread : Cond.code y_D_spread c_D_spread 6 none ∈ mx_T0 := lk_in (i := 245) (by decide +kernel) rfl
theorem mk_D_58 : Cond.methodLink "LadderWords$Ladders" 58 y_W_isStep ∈ mx_T0 := lk_in (i := 246) (by decide +kernel) rfl
theorem im_W_isStep : Cond.instanceMethod y_W_isStep ∈ mx_T0 := lk_in (i := 247) (by decide +kernel) rfl
theorem se_W_isStep : Cond.selects "LadderWords$Words" y_W_isStep y_W_isStep ∈ mx_T0 := lk_in (i := 248) (by decide +kernel) rfl
theorem co_W_isStep : Cond.code y_W_isStep c_W_isStep 5 (some .boolean) ∈ mx_T0 := lk_in (i := 249) (by decide +kernel) rfl
theorem mk_W_54 : Cond.methodLink "LadderWords$Words" 54 y_W_differences ∈ mx_T0 := lk_in (i := 250) (by decide +kernel) rfl
theorem im_W_differences : Cond.instanceMethod y_W_differences ∈ mx_T0 := lk_in (i := 252) (by decide +kernel) rfl
theorem co_W_differences : Cond.code y_W_differences c_W_differences 5 (some .int) ∈ mx_T0 := lk_in (i := 253) (by decide +kernel) rfl
theorem mk_W_57 : Cond.methodLink "LadderWords$Words" 57 y_W_isOneMore ∈ mx_T0 := lk_in (i := 254) (by decide +kernel) rfl
theorem im_W_isOneMore : Cond.instanceMethod y_W_isOneMore ∈ mx_T0 := lk_in (i := 256) (by decide +kernel) rfl
theorem co_W_isOneMore : Cond.code y_W_isOneMore c_W_isOneMore 5 (some .boolean) ∈ mx_T0 := lk_in (i := 257) (by decide +kernel) rfl
theorem mk_D_44 : Cond.methodLink "LadderWords$Ladders" 44 y_D_climb ∈ mx_T0 := lk_in (i := 258) (by decide +kernel) rfl
theorem im_D_climb : Cond.instanceMethod y_D_climb ∈ mx_T0 := lk_in (i := 260) (by decide +kernel) rfl
theorem co_D_climb : Cond.code y_D_climb c_D_climb 4 none ∈ mx_T0 := lk_in (i := 261) (by decide +kernel) rfl
theorem mk_D_62 : Cond.methodLink "LadderWords$Ladders" 62 y_D_leastNext ∈ mx_T0 := lk_in (i := 262) (by decide +kernel) rfl
theorem im_D_leastNext : Cond.instanceMethod y_D_leastNext ∈ mx_T0 := lk_in (i := 264) (by decide +kernel) rfl
theorem co_D_leastNext : Cond.code y_D_leastNext c_D_leastNext 5 (some .int) ∈ mx_T0 := lk_in (i := 265) (by decide +kernel) rfl
theorem mk_Z_33 : Cond.methodLink "LadderWordsLaw" 33 y_L_step ∈ mx_T0 := lk_in (i := 266) (by decide +kernel) rfl
theorem im_L_step : Cond.instanceMethod y_L_step ∈ mx_T0 := lk_in (i := 267) (by decide +kernel) rfl
theorem se_L_step : Cond.selects "LadderWords" y_L_step y_L_step ∈ mx_T0 := lk_in (i := 268) (by decide +kernel) rfl
theorem co_L_step : Cond.code y_L_step c_L_step 2 (some .int) ∈ mx_T0 := lk_in (i := 269) (by decide +kernel) rfl
theorem mk_L_72 : Cond.methodLink "LadderWords" 72 y_D_rungAt ∈ mx_T0 := lk_in (i := 270) (by decide +kernel) rfl
theorem im_D_rungAt : Cond.instanceMethod y_D_rungAt ∈ mx_T0 := lk_in (i := 271) (by decide +kernel) rfl
theorem se_D_rungAt : Cond.selects "LadderWords$Ladders" y_D_rungAt y_D_rungAt ∈ mx_T0 := lk_in (i := 272) (by decide +kernel) rfl
theorem co_D_rungAt : Cond.code y_D_rungAt c_D_rungAt 3 (some .int) ∈ mx_T0 := lk_in (i := 273) (by decide +kernel) rfl
theorem mk_Z_38 : Cond.methodLink "LadderWordsLaw" 38 y_L_ways ∈ mx_T0 := lk_in (i := 274) (by decide +kernel) rfl
theorem im_L_ways : Cond.instanceMethod y_L_ways ∈ mx_T0 := lk_in (i := 275) (by decide +kernel) rfl
theorem se_L_ways : Cond.selects "LadderWords" y_L_ways y_L_ways ∈ mx_T0 := lk_in (i := 276) (by decide +kernel) rfl
theorem co_L_ways : Cond.code y_L_ways c_L_ways 1 (some .long) ∈ mx_T0 := lk_in (i := 277) (by decide +kernel) rfl
theorem mk_L_76 : Cond.methodLink "LadderWords" 76 y_D_shortestCount ∈ mx_T0 := lk_in (i := 278) (by decide +kernel) rfl
theorem im_D_shortestCount : Cond.instanceMethod y_D_shortestCount ∈ mx_T0 := lk_in (i := 279) (by decide +kernel) rfl
theorem se_D_shortestCount : Cond.selects "LadderWords$Ladders" y_D_shortestCount y_D_shortestCount ∈ mx_T0 := lk_in (i := 280) (by decide +kernel) rfl
theorem co_D_shortestCount : Cond.code y_D_shortestCount c_D_shortestCount 1 (some .long) ∈ mx_T0 := lk_in (i := 281) (by decide +kernel) rfl
theorem mk_Z_43 : Cond.methodLink "LadderWordsLaw" 43 y_L_gather ∈ mx_T0 := lk_in (i := 282) (by decide +kernel) rfl
theorem im_L_gather : Cond.instanceMethod y_L_gather ∈ mx_T0 := lk_in (i := 283) (by decide +kernel) rfl
theorem se_L_gather : Cond.selects "LadderWords" y_L_gather y_L_gather ∈ mx_T0 := lk_in (i := 284) (by decide +kernel) rfl
theorem co_L_gather : Cond.code y_L_gather c_L_gather 2 (some .int) ∈ mx_T0 := lk_in (i := 285) (by decide +kernel) rfl
theorem mk_L_80 : Cond.methodLink "LadderWords" 80 y_G_find ∈ mx_T0 := lk_in (i := 286) (by decide +kernel) rfl
theorem im_G_find : Cond.instanceMethod y_G_find ∈ mx_T0 := lk_in (i := 287) (by decide +kernel) rfl
theorem se_G_find : Cond.selects "LadderWords$Gatherings" y_G_find y_G_find ∈ mx_T0 := lk_in (i := 288) (by decide +kernel) rfl
theorem co_G_find : Cond.code y_G_find c_G_find 5 (some .int) ∈ mx_T0 := lk_in (i := 289) (by decide +kernel) rfl
theorem mk_G_36 : Cond.methodLink "LadderWords$Gatherings" 36 y_W_count ∈ mx_T0 := lk_in (i := 290) (by decide +kernel) rfl
theorem mk_G_45 : Cond.methodLink "LadderWords$Gatherings" 45 y_G_heapOfRow ∈ mx_T0 := lk_in (i := 291) (by decide +kernel) rfl
theorem sm_G_heapOfRow : Cond.static y_G_heapOfRow ∈ mx_T0 := lk_in (i := 292) (by decide +kernel) rfl
theorem co_G_heapOfRow : Cond.code y_G_heapOfRow c_G_heapOfRow 4 (some .long) ∈ mx_T0 := lk_in (i := 293) (by decide +kernel) rfl
theorem mk_G_57 : Cond.methodLink "LadderWords$Gatherings" 57 y_R_length ∈ mx_T0 := lk_in (i := 294) (by decide +kernel) rfl
theorem mk_G_62 : Cond.methodLink "LadderWords$Gatherings" 62 y_R_letterAt ∈ mx_T0 := lk_in (i := 295) (by decide +kernel) rfl
theorem mk_G_66 : Cond.methodLink "LadderWords$Gatherings" 66 y_R_firstPlaceOf ∈ mx_T0 := lk_in (i := 296) (by decide +kernel) rfl
theorem im_R_firstPlaceOf : Cond.instanceMethod y_R_firstPlaceOf ∈ mx_T0 := lk_in (i := 297) (by decide +kernel) rfl
theorem se_R_firstPlaceOf : Cond.selects "LadderWords$Row" y_R_firstPlaceOf y_R_firstPlaceOf ∈ mx_T0 := lk_in (i := 298) (by decide +kernel) rfl
theorem co_R_firstPlaceOf : Cond.code y_R_firstPlaceOf c_R_firstPlaceOf 3 (some .int) ∈ mx_T0 := lk_in (i := 299) (by decide +kernel) rfl
theorem mk_G_69 : Cond.methodLink "LadderWords$Gatherings" 69 y_G_oneAt ∈ mx_T0 := lk_in (i := 300) (by decide +kernel) rfl
theorem sm_G_oneAt : Cond.static y_G_oneAt ∈ mx_T0 := lk_in (i := 301) (by decide +kernel) rfl
theorem co_G_oneAt : Cond.code y_G_oneAt c_G_oneAt 1 (some .long) ∈ mx_T0 := lk_in (i := 302) (by decide +kernel) rfl
theorem mk_G_49 : Cond.methodLink "LadderWords$Gatherings" 49 y_G_listFitting ∈ mx_T0 := lk_in (i := 303) (by decide +kernel) rfl
theorem im_G_listFitting : Cond.instanceMethod y_G_listFitting ∈ mx_T0 := lk_in (i := 305) (by decide +kernel) rfl
theorem co_G_listFitting : Cond.code y_G_listFitting c_G_listFitting 7 none ∈ mx_T0 := lk_in (i := 306) (by decide +kernel) rfl
theorem mk_G_78 : Cond.methodLink "LadderWords$Gatherings" 78 y_G_heapOfWord ∈ mx_T0 := lk_in (i := 307) (by decide +kernel) rfl
theorem im_G_heapOfWord : Cond.instanceMethod y_G_heapOfWord ∈ mx_T0 := lk_in (i := 309) (by decide +kernel) rfl
theorem co_G_heapOfWord : Cond.code y_G_heapOfWord c_G_heapOfWord 7 (some .long) ∈ mx_T0 := lk_in (i := 310) (by decide +kernel) rfl
theorem mk_G_88 : Cond.methodLink "LadderWords$Gatherings" 88 y_W_lengthOf ∈ mx_T0 := lk_in (i := 311) (by decide +kernel) rfl
theorem mk_G_91 : Cond.methodLink "LadderWords$Gatherings" 91 y_W_letterOf ∈ mx_T0 := lk_in (i := 312) (by decide +kernel) rfl
theorem cl_G_82 : Cond.constantLong "LadderWords$Gatherings" 82 (-1) ∈ mx_T0 := lk_in (i := 313) (by decide +kernel) rfl
theorem mk_G_84 : Cond.methodLink "LadderWords$Gatherings" 84 y_G_isWithin ∈ mx_T0 := lk_in (i := 314) (by decide +kernel) rfl
theorem sm_G_isWithin : Cond.static y_G_isWithin ∈ mx_T0 := lk_in (i := 315) (by decide +kernel) rfl
theorem co_G_isWithin : Cond.code y_G_isWithin c_G_isWithin 4 (some .boolean) ∈ mx_T0 := lk_in (i := 316) (by decide +kernel) rfl
theorem cl_G_73 : Cond.constantLong "LadderWords$Gatherings" 73 (595056260442243600) ∈ mx_T0 := lk_in (i := 317) (by decide +kernel) rfl
theorem mk_G_53 : Cond.methodLink "LadderWords$Gatherings" 53 y_G_choose ∈ mx_T0 := lk_in (i := 318) (by decide +kernel) rfl
theorem im_G_choose : Cond.instanceMethod y_G_choose ∈ mx_T0 := lk_in (i := 320) (by decide +kernel) rfl
theorem co_G_choose : Cond.code y_G_choose c_G_choose 7 none ∈ mx_T0 := lk_in (i := 321) (by decide +kernel) rfl
theorem mk_G_95 : Cond.methodLink "LadderWords$Gatherings" 95 y_G_take ∈ mx_T0 := lk_in (i := 322) (by decide +kernel) rfl
theorem im_G_take : Cond.instanceMethod y_G_take ∈ mx_T0 := lk_in (i := 324) (by decide +kernel) rfl
theorem co_G_take : Cond.code y_G_take c_G_take 6 none ∈ mx_T0 := lk_in (i := 325) (by decide +kernel) rfl
theorem mk_G_98 : Cond.methodLink "LadderWords$Gatherings" 98 y_G_keep ∈ mx_T0 := lk_in (i := 326) (by decide +kernel) rfl
theorem im_G_keep : Cond.instanceMethod y_G_keep ∈ mx_T0 := lk_in (i := 328) (by decide +kernel) rfl
theorem co_G_keep : Cond.code y_G_keep c_G_keep 3 none ∈ mx_T0 := lk_in (i := 329) (by decide +kernel) rfl
theorem mk_Z_47 : Cond.methodLink "LadderWordsLaw" 47 y_L_gathered ∈ mx_T0 := lk_in (i := 330) (by decide +kernel) rfl
theorem im_L_gathered : Cond.instanceMethod y_L_gathered ∈ mx_T0 := lk_in (i := 331) (by decide +kernel) rfl
theorem se_L_gathered : Cond.selects "LadderWords" y_L_gathered y_L_gathered ∈ mx_T0 := lk_in (i := 332) (by decide +kernel) rfl
theorem co_L_gathered : Cond.code y_L_gathered c_L_gathered 3 (some .int) ∈ mx_T0 := lk_in (i := 333) (by decide +kernel) rfl
theorem mk_L_83 : Cond.methodLink "LadderWords" 83 y_G_wordAt ∈ mx_T0 := lk_in (i := 334) (by decide +kernel) rfl
theorem im_G_wordAt : Cond.instanceMethod y_G_wordAt ∈ mx_T0 := lk_in (i := 335) (by decide +kernel) rfl
theorem se_G_wordAt : Cond.selects "LadderWords$Gatherings" y_G_wordAt y_G_wordAt ∈ mx_T0 := lk_in (i := 336) (by decide +kernel) rfl
theorem co_G_wordAt : Cond.code y_G_wordAt c_G_wordAt 4 (some .int) ∈ mx_T0 := lk_in (i := 337) (by decide +kernel) rfl
theorem mk_Z_51 : Cond.methodLink "LadderWordsLaw" 51 y_L_square ∈ mx_T0 := lk_in (i := 338) (by decide +kernel) rfl
theorem im_L_square : Cond.instanceMethod y_L_square ∈ mx_T0 := lk_in (i := 339) (by decide +kernel) rfl
theorem se_L_square : Cond.selects "LadderWords" y_L_square y_L_square ∈ mx_T0 := lk_in (i := 340) (by decide +kernel) rfl
theorem co_L_square : Cond.code y_L_square c_L_square 2 (some .boolean) ∈ mx_T0 := lk_in (i := 341) (by decide +kernel) rfl
theorem mk_L_86 : Cond.methodLink "LadderWords" 86 y_Q_find ∈ mx_T0 := lk_in (i := 342) (by decide +kernel) rfl
theorem im_Q_find : Cond.instanceMethod y_Q_find ∈ mx_T0 := lk_in (i := 343) (by decide +kernel) rfl
theorem se_Q_find : Cond.selects "LadderWords$Squares" y_Q_find y_Q_find ∈ mx_T0 := lk_in (i := 344) (by decide +kernel) rfl
theorem co_Q_find : Cond.code y_Q_find c_Q_find 2 (some .boolean) ∈ mx_T0 := lk_in (i := 345) (by decide +kernel) rfl
theorem mk_Q_31 : Cond.methodLink "LadderWords$Squares" 31 y_Q_openAll ∈ mx_T0 := lk_in (i := 346) (by decide +kernel) rfl
theorem im_Q_openAll : Cond.instanceMethod y_Q_openAll ∈ mx_T0 := lk_in (i := 348) (by decide +kernel) rfl
theorem co_Q_openAll : Cond.code y_Q_openAll c_Q_openAll 5 none ∈ mx_T0 := lk_in (i := 349) (by decide +kernel) rfl
theorem mk_Q_39 : Cond.methodLink "LadderWords$Squares" 39 y_W_count ∈ mx_T0 := lk_in (i := 350) (by decide +kernel) rfl
theorem mk_Q_48 : Cond.methodLink "LadderWords$Squares" 48 y_W_lengthOf ∈ mx_T0 := lk_in (i := 351) (by decide +kernel) rfl
theorem mk_Q_52 : Cond.methodLink "LadderWords$Squares" 52 y_Q_noteLetters ∈ mx_T0 := lk_in (i := 352) (by decide +kernel) rfl
theorem im_Q_noteLetters : Cond.instanceMethod y_Q_noteLetters ∈ mx_T0 := lk_in (i := 354) (by decide +kernel) rfl
theorem co_Q_noteLetters : Cond.code y_Q_noteLetters c_Q_noteLetters 5 none ∈ mx_T0 := lk_in (i := 355) (by decide +kernel) rfl
theorem mk_Q_56 : Cond.methodLink "LadderWords$Squares" 56 y_W_letterOf ∈ mx_T0 := lk_in (i := 356) (by decide +kernel) rfl
theorem mk_Q_35 : Cond.methodLink "LadderWords$Squares" 35 y_Q_complete ∈ mx_T0 := lk_in (i := 357) (by decide +kernel) rfl
theorem im_Q_complete : Cond.instanceMethod y_Q_complete ∈ mx_T0 := lk_in (i := 359) (by decide +kernel) rfl
theorem co_Q_complete : Cond.code y_Q_complete c_Q_complete 5 (some .boolean) ∈ mx_T0 := lk_in (i := 360) (by decide +kernel) rfl
theorem mk_Q_60 : Cond.methodLink "LadderWords$Squares" 60 y_Q_completeWith ∈ mx_T0 := lk_in (i := 361) (by decide +kernel) rfl
theorem im_Q_completeWith : Cond.instanceMethod y_Q_completeWith ∈ mx_T0 := lk_in (i := 363) (by decide +kernel) rfl
theorem co_Q_completeWith : Cond.code y_Q_completeWith c_Q_completeWith 7 (some .boolean) ∈ mx_T0 := lk_in (i := 364) (by decide +kernel) rfl
theorem mk_Q_64 : Cond.methodLink "LadderWords$Squares" 64 y_Q_wordsWith ∈ mx_T0 := lk_in (i := 365) (by decide +kernel) rfl
theorem im_Q_wordsWith : Cond.instanceMethod y_Q_wordsWith ∈ mx_T0 := lk_in (i := 367) (by decide +kernel) rfl
theorem co_Q_wordsWith : Cond.code y_Q_wordsWith c_Q_wordsWith 4 (some .long) ∈ mx_T0 := lk_in (i := 368) (by decide +kernel) rfl
theorem mk_Z_55 : Cond.methodLink "LadderWordsLaw" 55 y_L_line ∈ mx_T0 := lk_in (i := 369) (by decide +kernel) rfl
theorem im_L_line : Cond.instanceMethod y_L_line ∈ mx_T0 := lk_in (i := 370) (by decide +kernel) rfl
theorem se_L_line : Cond.selects "LadderWords" y_L_line y_L_line ∈ mx_T0 := lk_in (i := 371) (by decide +kernel) rfl
theorem co_L_line : Cond.code y_L_line c_L_line 2 (some .int) ∈ mx_T0 := lk_in (i := 372) (by decide +kernel) rfl
theorem mk_L_88 : Cond.methodLink "LadderWords" 88 y_Q_wordAt ∈ mx_T0 := lk_in (i := 373) (by decide +kernel) rfl
theorem im_Q_wordAt : Cond.instanceMethod y_Q_wordAt ∈ mx_T0 := lk_in (i := 374) (by decide +kernel) rfl
theorem se_Q_wordAt : Cond.selects "LadderWords$Squares" y_Q_wordAt y_Q_wordAt ∈ mx_T0 := lk_in (i := 375) (by decide +kernel) rfl
theorem co_Q_wordAt : Cond.code y_Q_wordAt c_Q_wordAt 3 (some .int) ∈ mx_T0 := lk_in (i := 376) (by decide +kernel) rfl
theorem mk_Z_59 : Cond.methodLink "LadderWordsLaw" 59 y_L_hide ∈ mx_T0 := lk_in (i := 377) (by decide +kernel) rfl
theorem im_L_hide : Cond.instanceMethod y_L_hide ∈ mx_T0 := lk_in (i := 378) (by decide +kernel) rfl
theorem se_L_hide : Cond.selects "LadderWords" y_L_hide y_L_hide ∈ mx_T0 := lk_in (i := 379) (by decide +kernel) rfl
theorem co_L_hide : Cond.code y_L_hide c_L_hide 5 (some .boolean) ∈ mx_T0 := lk_in (i := 380) (by decide +kernel) rfl
theorem mk_L_90 : Cond.methodLink "LadderWords" 90 y_C_put ∈ mx_T0 := lk_in (i := 381) (by decide +kernel) rfl
theorem im_C_put : Cond.instanceMethod y_C_put ∈ mx_T0 := lk_in (i := 382) (by decide +kernel) rfl
theorem se_C_put : Cond.selects "LadderWords$Grid" y_C_put y_C_put ∈ mx_T0 := lk_in (i := 383) (by decide +kernel) rfl
theorem co_C_put : Cond.code y_C_put c_C_put 6 (some .boolean) ∈ mx_T0 := lk_in (i := 384) (by decide +kernel) rfl
theorem mk_C_23 : Cond.methodLink "LadderWords$Grid" 23 y_W_has ∈ mx_T0 := lk_in (i := 385) (by decide +kernel) rfl
theorem mk_C_19 : Cond.methodLink "LadderWords$Grid" 19 y_C_isInside ∈ mx_T0 := lk_in (i := 386) (by decide +kernel) rfl
theorem sm_C_isInside : Cond.static y_C_isInside ∈ mx_T0 := lk_in (i := 387) (by decide +kernel) rfl
theorem co_C_isInside : Cond.code y_C_isInside c_C_isInside 2 (some .boolean) ∈ mx_T0 := lk_in (i := 388) (by decide +kernel) rfl
theorem mk_C_29 : Cond.methodLink "LadderWords$Grid" 29 y_C_hasRoom ∈ mx_T0 := lk_in (i := 389) (by decide +kernel) rfl
theorem im_C_hasRoom : Cond.instanceMethod y_C_hasRoom ∈ mx_T0 := lk_in (i := 391) (by decide +kernel) rfl
theorem co_C_hasRoom : Cond.code y_C_hasRoom c_C_hasRoom 7 (some .boolean) ∈ mx_T0 := lk_in (i := 392) (by decide +kernel) rfl
theorem mk_C_33 : Cond.methodLink "LadderWords$Grid" 33 y_W_lengthOf ∈ mx_T0 := lk_in (i := 393) (by decide +kernel) rfl
theorem fk_C_37 : Cond.fieldLink "LadderWords$Grid" 37 "LadderWords$Grid" "RIGHT" "[I" ∈ mx_T0 := lk_in (i := 394) (by decide +kernel) rfl
theorem fk_C_40 : Cond.fieldLink "LadderWords$Grid" 40 "LadderWords$Grid" "DOWN" "[I" ∈ mx_T0 := lk_in (i := 396) (by decide +kernel) rfl
theorem mk_C_65 : Cond.methodLink "LadderWords$Grid" 65 y_C_letterAt ∈ mx_T0 := lk_in (i := 398) (by decide +kernel) rfl
theorem im_C_letterAt : Cond.instanceMethod y_C_letterAt ∈ mx_T0 := lk_in (i := 399) (by decide +kernel) rfl
theorem se_C_letterAt : Cond.selects "LadderWords$Grid" y_C_letterAt y_C_letterAt ∈ mx_T0 := lk_in (i := 400) (by decide +kernel) rfl
theorem co_C_letterAt : Cond.code y_C_letterAt c_C_letterAt 3 (some .int) ∈ mx_T0 := lk_in (i := 401) (by decide +kernel) rfl
theorem mk_C_43 : Cond.methodLink "LadderWords$Grid" 43 y_W_letterOf ∈ mx_T0 := lk_in (i := 402) (by decide +kernel) rfl
theorem mk_C_47 : Cond.methodLink "LadderWords$Grid" 47 y_C_set ∈ mx_T0 := lk_in (i := 403) (by decide +kernel) rfl
theorem im_C_set : Cond.instanceMethod y_C_set ∈ mx_T0 := lk_in (i := 405) (by decide +kernel) rfl
theorem co_C_set : Cond.code y_C_set c_C_set 4 none ∈ mx_T0 := lk_in (i := 406) (by decide +kernel) rfl
theorem mk_Z_66 : Cond.methodLink "LadderWordsLaw" 66 y_L_fill ∈ mx_T0 := lk_in (i := 407) (by decide +kernel) rfl
theorem im_L_fill : Cond.instanceMethod y_L_fill ∈ mx_T0 := lk_in (i := 408) (by decide +kernel) rfl
theorem se_L_fill : Cond.selects "LadderWords" y_L_fill y_L_fill ∈ mx_T0 := lk_in (i := 409) (by decide +kernel) rfl
theorem co_L_fill : Cond.code y_L_fill c_L_fill 3 (some .int) ∈ mx_T0 := lk_in (i := 410) (by decide +kernel) rfl
theorem mk_L_94 : Cond.methodLink "LadderWords" 94 y_C_fillEmpty ∈ mx_T0 := lk_in (i := 411) (by decide +kernel) rfl
theorem im_C_fillEmpty : Cond.instanceMethod y_C_fillEmpty ∈ mx_T0 := lk_in (i := 412) (by decide +kernel) rfl
theorem se_C_fillEmpty : Cond.selects "LadderWords$Grid" y_C_fillEmpty y_C_fillEmpty ∈ mx_T0 := lk_in (i := 413) (by decide +kernel) rfl
theorem co_C_fillEmpty : Cond.code y_C_fillEmpty c_C_fillEmpty 8 (some .int) ∈ mx_T0 := lk_in (i := 414) (by decide +kernel) rfl
theorem mk_C_51 : Cond.methodLink "LadderWords$Grid" 51 y_W_lengthOfAll ∈ mx_T0 := lk_in (i := 415) (by decide +kernel) rfl
theorem im_W_lengthOfAll : Cond.instanceMethod y_W_lengthOfAll ∈ mx_T0 := lk_in (i := 416) (by decide +kernel) rfl
theorem se_W_lengthOfAll : Cond.selects "LadderWords$Words" y_W_lengthOfAll y_W_lengthOfAll ∈ mx_T0 := lk_in (i := 417) (by decide +kernel) rfl
theorem co_W_lengthOfAll : Cond.code y_W_lengthOfAll c_W_lengthOfAll 1 (some .int) ∈ mx_T0 := lk_in (i := 418) (by decide +kernel) rfl
theorem cl_C_55 : Cond.constantLong "LadderWords$Grid" 55 (6364136223846793005) ∈ mx_T0 := lk_in (i := 419) (by decide +kernel) rfl
theorem cl_C_57 : Cond.constantLong "LadderWords$Grid" 57 (1442695040888963407) ∈ mx_T0 := lk_in (i := 420) (by decide +kernel) rfl
theorem mk_C_59 : Cond.methodLink "LadderWords$Grid" 59 y_W_letterOfAll ∈ mx_T0 := lk_in (i := 421) (by decide +kernel) rfl
theorem im_W_letterOfAll : Cond.instanceMethod y_W_letterOfAll ∈ mx_T0 := lk_in (i := 422) (by decide +kernel) rfl
theorem se_W_letterOfAll : Cond.selects "LadderWords$Words" y_W_letterOfAll y_W_letterOfAll ∈ mx_T0 := lk_in (i := 423) (by decide +kernel) rfl
theorem co_W_letterOfAll : Cond.code y_W_letterOfAll c_W_letterOfAll 2 (some .int) ∈ mx_T0 := lk_in (i := 424) (by decide +kernel) rfl
theorem mk_W_22 : Cond.methodLink "LadderWords$Words" 22 y_W_lengthOfAll ∈ mx_T0 := lk_in (i := 425) (by decide +kernel) rfl
theorem mk_Z_71 : Cond.methodLink "LadderWordsLaw" 71 y_L_cell ∈ mx_T0 := lk_in (i := 426) (by decide +kernel) rfl
theorem im_L_cell : Cond.instanceMethod y_L_cell ∈ mx_T0 := lk_in (i := 427) (by decide +kernel) rfl
theorem se_L_cell : Cond.selects "LadderWords" y_L_cell y_L_cell ∈ mx_T0 := lk_in (i := 428) (by decide +kernel) rfl
theorem co_L_cell : Cond.code y_L_cell c_L_cell 3 (some .int) ∈ mx_T0 := lk_in (i := 429) (by decide +kernel) rfl
theorem mk_L_98 : Cond.methodLink "LadderWords" 98 y_C_letterAt ∈ mx_T0 := lk_in (i := 430) (by decide +kernel) rfl
theorem mk_Z_75 : Cond.methodLink "LadderWordsLaw" 75 y_L_found ∈ mx_T0 := lk_in (i := 431) (by decide +kernel) rfl
theorem im_L_found : Cond.instanceMethod y_L_found ∈ mx_T0 := lk_in (i := 432) (by decide +kernel) rfl
theorem se_L_found : Cond.selects "LadderWords" y_L_found y_L_found ∈ mx_T0 := lk_in (i := 433) (by decide +kernel) rfl
theorem co_L_found : Cond.code y_L_found c_L_found 2 (some .int) ∈ mx_T0 := lk_in (i := 434) (by decide +kernel) rfl
theorem mk_L_101 : Cond.methodLink "LadderWords" 101 y_C_countOf ∈ mx_T0 := lk_in (i := 435) (by decide +kernel) rfl
theorem im_C_countOf : Cond.instanceMethod y_C_countOf ∈ mx_T0 := lk_in (i := 436) (by decide +kernel) rfl
theorem se_C_countOf : Cond.selects "LadderWords$Grid" y_C_countOf y_C_countOf ∈ mx_T0 := lk_in (i := 437) (by decide +kernel) rfl
theorem co_C_countOf : Cond.code y_C_countOf c_C_countOf 4 (some .int) ∈ mx_T0 := lk_in (i := 438) (by decide +kernel) rfl
theorem mk_C_62 : Cond.methodLink "LadderWords$Grid" 62 y_C_stands ∈ mx_T0 := lk_in (i := 439) (by decide +kernel) rfl
theorem im_C_stands : Cond.instanceMethod y_C_stands ∈ mx_T0 := lk_in (i := 441) (by decide +kernel) rfl
theorem co_C_stands : Cond.code y_C_stands c_C_stands 8 (some .boolean) ∈ mx_T0 := lk_in (i := 442) (by decide +kernel) rfl
theorem mk_Z_79 : Cond.methodLink "LadderWordsLaw" 79 y_L_where ∈ mx_T0 := lk_in (i := 443) (by decide +kernel) rfl
theorem im_L_where : Cond.instanceMethod y_L_where ∈ mx_T0 := lk_in (i := 444) (by decide +kernel) rfl
theorem se_L_where : Cond.selects "LadderWords" y_L_where y_L_where ∈ mx_T0 := lk_in (i := 445) (by decide +kernel) rfl
theorem co_L_where : Cond.code y_L_where c_L_where 3 (some .int) ∈ mx_T0 := lk_in (i := 446) (by decide +kernel) rfl
theorem mk_L_104 : Cond.methodLink "LadderWords" 104 y_C_placeOf ∈ mx_T0 := lk_in (i := 447) (by decide +kernel) rfl
theorem im_C_placeOf : Cond.instanceMethod y_C_placeOf ∈ mx_T0 := lk_in (i := 448) (by decide +kernel) rfl
theorem se_C_placeOf : Cond.selects "LadderWords$Grid" y_C_placeOf y_C_placeOf ∈ mx_T0 := lk_in (i := 449) (by decide +kernel) rfl
theorem co_C_placeOf : Cond.code y_C_placeOf c_C_placeOf 5 (some .int) ∈ mx_T0 := lk_in (i := 450) (by decide +kernel) rfl
theorem mk_Z_83 : Cond.methodLink "LadderWordsLaw" 83 y_L_wipe ∈ mx_T0 := lk_in (i := 451) (by decide +kernel) rfl
theorem im_L_wipe : Cond.instanceMethod y_L_wipe ∈ mx_T0 := lk_in (i := 452) (by decide +kernel) rfl
theorem se_L_wipe : Cond.selects "LadderWords" y_L_wipe y_L_wipe ∈ mx_T0 := lk_in (i := 453) (by decide +kernel) rfl
theorem co_L_wipe : Cond.code y_L_wipe c_L_wipe 1 none ∈ mx_T0 := lk_in (i := 454) (by decide +kernel) rfl
theorem mk_L_107 : Cond.methodLink "LadderWords" 107 y_C_clear ∈ mx_T0 := lk_in (i := 455) (by decide +kernel) rfl
theorem im_C_clear : Cond.instanceMethod y_C_clear ∈ mx_T0 := lk_in (i := 456) (by decide +kernel) rfl
theorem se_C_clear : Cond.selects "LadderWords$Grid" y_C_clear y_C_clear ∈ mx_T0 := lk_in (i := 457) (by decide +kernel) rfl
theorem co_C_clear : Cond.code y_C_clear c_C_clear 2 none ∈ mx_T0 := lk_in (i := 458) (by decide +kernel) rfl
theorem mk_Z_12 : Cond.methodLink "LadderWordsLaw" 12 y_M_init ∈ mx_T0 := lk_in (i := 461) (by decide +kernel) rfl
theorem im_M_init : Cond.instanceMethod y_M_init ∈ mx_T0 := lk_in (i := 462) (by decide +kernel) rfl
theorem co_M_init : Cond.code y_M_init c_M_init 1 none ∈ mx_T0 := lk_in (i := 463) (by decide +kernel) rfl
theorem fk_M_48 : Cond.fieldLink "LadderWordsModel" 48 "LadderWordsModel" "thrown" "I" ∈ mx_T0 := lk_in (i := 465) (by decide +kernel) rfl
theorem fk_M_54 : Cond.fieldLink "LadderWordsModel" 54 "LadderWordsModel" "size" "I" ∈ mx_T0 := lk_in (i := 466) (by decide +kernel) rfl
theorem fk_M_7 : Cond.fieldLink "LadderWordsModel" 7 "LadderWordsModel" "row" "[I" ∈ mx_T0 := lk_in (i := 467) (by decide +kernel) rfl
theorem fk_M_51 : Cond.fieldLink "LadderWordsModel" 51 "LadderWordsModel" "many" "I" ∈ mx_T0 := lk_in (i := 468) (by decide +kernel) rfl
theorem fk_M_13 : Cond.fieldLink "LadderWordsModel" 13 "LadderWordsModel" "letters" "[I" ∈ mx_T0 := lk_in (i := 469) (by decide +kernel) rfl
theorem fk_M_16 : Cond.fieldLink "LadderWordsModel" 16 "LadderWordsModel" "lengths" "[I" ∈ mx_T0 := lk_in (i := 470) (by decide +kernel) rfl
theorem fk_M_19 : Cond.fieldLink "LadderWordsModel" 19 "LadderWordsModel" "steps" "I" ∈ mx_T0 := lk_in (i := 471) (by decide +kernel) rfl
theorem fk_M_23 : Cond.fieldLink "LadderWordsModel" 23 "LadderWordsModel" "ladder" "[I" ∈ mx_T0 := lk_in (i := 472) (by decide +kernel) rfl
theorem fk_M_89 : Cond.fieldLink "LadderWordsModel" 89 "LadderWordsModel" "ways" "J" ∈ mx_T0 := lk_in (i := 473) (by decide +kernel) rfl
theorem fk_M_26 : Cond.fieldLink "LadderWordsModel" 26 "LadderWordsModel" "far" "[I" ∈ mx_T0 := lk_in (i := 474) (by decide +kernel) rfl
theorem fk_M_29 : Cond.fieldLink "LadderWordsModel" 29 "LadderWordsModel" "counts" "[J" ∈ mx_T0 := lk_in (i := 475) (by decide +kernel) rfl
theorem fk_M_65 : Cond.fieldLink "LadderWordsModel" 65 "LadderWordsModel" "kept" "I" ∈ mx_T0 := lk_in (i := 476) (by decide +kernel) rfl
theorem fk_M_33 : Cond.fieldLink "LadderWordsModel" 33 "LadderWordsModel" "gatherings" "[I" ∈ mx_T0 := lk_in (i := 477) (by decide +kernel) rfl
theorem fk_M_36 : Cond.fieldLink "LadderWordsModel" 36 "LadderWordsModel" "chosen" "[I" ∈ mx_T0 := lk_in (i := 478) (by decide +kernel) rfl
theorem fk_M_39 : Cond.fieldLink "LadderWordsModel" 39 "LadderWordsModel" "left" "[I" ∈ mx_T0 := lk_in (i := 479) (by decide +kernel) rfl
theorem fk_M_68 : Cond.fieldLink "LadderWordsModel" 68 "LadderWordsModel" "side" "I" ∈ mx_T0 := lk_in (i := 480) (by decide +kernel) rfl
theorem fk_M_42 : Cond.fieldLink "LadderWordsModel" 42 "LadderWordsModel" "lines" "[I" ∈ mx_T0 := lk_in (i := 481) (by decide +kernel) rfl
theorem fk_M_45 : Cond.fieldLink "LadderWordsModel" 45 "LadderWordsModel" "grid" "[I" ∈ mx_T0 := lk_in (i := 482) (by decide +kernel) rfl
theorem mk_Z_17 : Cond.methodLink "LadderWordsLaw" 17 y_M_unit ∈ mx_T0 := lk_in (i := 520) (by decide +kernel) rfl
theorem im_M_unit : Cond.instanceMethod y_M_unit ∈ mx_T0 := lk_in (i := 521) (by decide +kernel) rfl
theorem se_M_unit : Cond.selects "LadderWordsModel" y_M_unit y_M_unit ∈ mx_T0 := lk_in (i := 522) (by decide +kernel) rfl
theorem co_M_unit : Cond.code y_M_unit c_M_unit 2 (some .boolean) ∈ mx_T0 := lk_in (i := 523) (by decide +kernel) rfl
theorem mk_Z_22 : Cond.methodLink "LadderWordsLaw" 22 y_M_word ∈ mx_T0 := lk_in (i := 524) (by decide +kernel) rfl
theorem im_M_word : Cond.instanceMethod y_M_word ∈ mx_T0 := lk_in (i := 525) (by decide +kernel) rfl
theorem se_M_word : Cond.selects "LadderWordsModel" y_M_word y_M_word ∈ mx_T0 := lk_in (i := 526) (by decide +kernel) rfl
theorem co_M_word : Cond.code y_M_word c_M_word 2 (some .int) ∈ mx_T0 := lk_in (i := 527) (by decide +kernel) rfl
theorem mk_M_71 : Cond.methodLink "LadderWordsModel" 71 y_M_enter ∈ mx_T0 := lk_in (i := 528) (by decide +kernel) rfl
theorem im_M_enter : Cond.instanceMethod y_M_enter ∈ mx_T0 := lk_in (i := 530) (by decide +kernel) rfl
theorem co_M_enter : Cond.code y_M_enter c_M_enter 2 (some .int) ∈ mx_T0 := lk_in (i := 531) (by decide +kernel) rfl
theorem mk_M_61 : Cond.methodLink "LadderWordsModel" 61 y_M_isRow ∈ mx_T0 := lk_in (i := 532) (by decide +kernel) rfl
theorem im_M_isRow : Cond.instanceMethod y_M_isRow ∈ mx_T0 := lk_in (i := 534) (by decide +kernel) rfl
theorem co_M_isRow : Cond.code y_M_isRow c_M_isRow 3 (some .boolean) ∈ mx_T0 := lk_in (i := 535) (by decide +kernel) rfl
theorem mk_M_57 : Cond.methodLink "LadderWordsModel" 57 y_M_at ∈ mx_T0 := lk_in (i := 536) (by decide +kernel) rfl
theorem im_M_at : Cond.instanceMethod y_M_at ∈ mx_T0 := lk_in (i := 538) (by decide +kernel) rfl
theorem co_M_at : Cond.code y_M_at c_M_at 3 (some .int) ∈ mx_T0 := lk_in (i := 539) (by decide +kernel) rfl
theorem mk_Z_27 : Cond.methodLink "LadderWordsLaw" 27 y_M_letter ∈ mx_T0 := lk_in (i := 540) (by decide +kernel) rfl
theorem im_M_letter : Cond.instanceMethod y_M_letter ∈ mx_T0 := lk_in (i := 541) (by decide +kernel) rfl
theorem se_M_letter : Cond.selects "LadderWordsModel" y_M_letter y_M_letter ∈ mx_T0 := lk_in (i := 542) (by decide +kernel) rfl
theorem co_M_letter : Cond.code y_M_letter c_M_letter 3 (some .int) ∈ mx_T0 := lk_in (i := 543) (by decide +kernel) rfl
theorem mk_M_75 : Cond.methodLink "LadderWordsModel" 75 y_M_isWord ∈ mx_T0 := lk_in (i := 544) (by decide +kernel) rfl
theorem im_M_isWord : Cond.instanceMethod y_M_isWord ∈ mx_T0 := lk_in (i := 546) (by decide +kernel) rfl
theorem co_M_isWord : Cond.code y_M_isWord c_M_isWord 2 (some .boolean) ∈ mx_T0 := lk_in (i := 547) (by decide +kernel) rfl
theorem mk_Z_32 : Cond.methodLink "LadderWordsLaw" 32 y_M_ladder ∈ mx_T0 := lk_in (i := 548) (by decide +kernel) rfl
theorem im_M_ladder : Cond.instanceMethod y_M_ladder ∈ mx_T0 := lk_in (i := 549) (by decide +kernel) rfl
theorem se_M_ladder : Cond.selects "LadderWordsModel" y_M_ladder y_M_ladder ∈ mx_T0 := lk_in (i := 550) (by decide +kernel) rfl
theorem co_M_ladder : Cond.code y_M_ladder c_M_ladder 8 (some .int) ∈ mx_T0 := lk_in (i := 551) (by decide +kernel) rfl
theorem mk_M_85 : Cond.methodLink "LadderWordsModel" 85 y_M_isStep ∈ mx_T0 := lk_in (i := 552) (by decide +kernel) rfl
theorem im_M_isStep : Cond.instanceMethod y_M_isStep ∈ mx_T0 := lk_in (i := 554) (by decide +kernel) rfl
theorem co_M_isStep : Cond.code y_M_isStep c_M_isStep 4 (some .boolean) ∈ mx_T0 := lk_in (i := 555) (by decide +kernel) rfl
theorem mk_M_78 : Cond.methodLink "LadderWordsModel" 78 y_M_differsOnce ∈ mx_T0 := lk_in (i := 556) (by decide +kernel) rfl
theorem im_M_differsOnce : Cond.instanceMethod y_M_differsOnce ∈ mx_T0 := lk_in (i := 558) (by decide +kernel) rfl
theorem co_M_differsOnce : Cond.code y_M_differsOnce c_M_differsOnce 5 (some .boolean) ∈ mx_T0 := lk_in (i := 559) (by decide +kernel) rfl
theorem mk_M_82 : Cond.methodLink "LadderWordsModel" 82 y_M_isLessOne ∈ mx_T0 := lk_in (i := 560) (by decide +kernel) rfl
theorem im_M_isLessOne : Cond.instanceMethod y_M_isLessOne ∈ mx_T0 := lk_in (i := 562) (by decide +kernel) rfl
theorem co_M_isLessOne : Cond.code y_M_isLessOne c_M_isLessOne 6 (some .boolean) ∈ mx_T0 := lk_in (i := 563) (by decide +kernel) rfl
theorem mk_Z_37 : Cond.methodLink "LadderWordsLaw" 37 y_M_step ∈ mx_T0 := lk_in (i := 564) (by decide +kernel) rfl
theorem im_M_step : Cond.instanceMethod y_M_step ∈ mx_T0 := lk_in (i := 565) (by decide +kernel) rfl
theorem se_M_step : Cond.selects "LadderWordsModel" y_M_step y_M_step ∈ mx_T0 := lk_in (i := 566) (by decide +kernel) rfl
theorem co_M_step : Cond.code y_M_step c_M_step 2 (some .int) ∈ mx_T0 := lk_in (i := 567) (by decide +kernel) rfl
theorem mk_Z_42 : Cond.methodLink "LadderWordsLaw" 42 y_M_ways ∈ mx_T0 := lk_in (i := 568) (by decide +kernel) rfl
theorem im_M_ways : Cond.instanceMethod y_M_ways ∈ mx_T0 := lk_in (i := 569) (by decide +kernel) rfl
theorem se_M_ways : Cond.selects "LadderWordsModel" y_M_ways y_M_ways ∈ mx_T0 := lk_in (i := 570) (by decide +kernel) rfl
theorem co_M_ways : Cond.code y_M_ways c_M_ways 1 (some .long) ∈ mx_T0 := lk_in (i := 571) (by decide +kernel) rfl
theorem mk_Z_46 : Cond.methodLink "LadderWordsLaw" 46 y_M_gather ∈ mx_T0 := lk_in (i := 572) (by decide +kernel) rfl
theorem im_M_gather : Cond.instanceMethod y_M_gather ∈ mx_T0 := lk_in (i := 573) (by decide +kernel) rfl
theorem se_M_gather : Cond.selects "LadderWordsModel" y_M_gather y_M_gather ∈ mx_T0 := lk_in (i := 574) (by decide +kernel) rfl
theorem co_M_gather : Cond.code y_M_gather c_M_gather 5 (some .int) ∈ mx_T0 := lk_in (i := 575) (by decide +kernel) rfl
theorem mk_M_93 : Cond.methodLink "LadderWordsModel" 93 y_M_take ∈ mx_T0 := lk_in (i := 576) (by decide +kernel) rfl
theorem im_M_take : Cond.instanceMethod y_M_take ∈ mx_T0 := lk_in (i := 578) (by decide +kernel) rfl
theorem co_M_take : Cond.code y_M_take c_M_take 4 (some .boolean) ∈ mx_T0 := lk_in (i := 579) (by decide +kernel) rfl
theorem mk_M_96 : Cond.methodLink "LadderWordsModel" 96 y_M_isEmpty ∈ mx_T0 := lk_in (i := 580) (by decide +kernel) rfl
theorem im_M_isEmpty : Cond.instanceMethod y_M_isEmpty ∈ mx_T0 := lk_in (i := 582) (by decide +kernel) rfl
theorem co_M_isEmpty : Cond.code y_M_isEmpty c_M_isEmpty 2 (some .boolean) ∈ mx_T0 := lk_in (i := 583) (by decide +kernel) rfl
theorem mk_M_100 : Cond.methodLink "LadderWordsModel" 100 y_M_keep ∈ mx_T0 := lk_in (i := 584) (by decide +kernel) rfl
theorem im_M_keep : Cond.instanceMethod y_M_keep ∈ mx_T0 := lk_in (i := 586) (by decide +kernel) rfl
theorem co_M_keep : Cond.code y_M_keep c_M_keep 3 none ∈ mx_T0 := lk_in (i := 587) (by decide +kernel) rfl
theorem mk_Z_50 : Cond.methodLink "LadderWordsLaw" 50 y_M_gathered ∈ mx_T0 := lk_in (i := 588) (by decide +kernel) rfl
theorem im_M_gathered : Cond.instanceMethod y_M_gathered ∈ mx_T0 := lk_in (i := 589) (by decide +kernel) rfl
theorem se_M_gathered : Cond.selects "LadderWordsModel" y_M_gathered y_M_gathered ∈ mx_T0 := lk_in (i := 590) (by decide +kernel) rfl
theorem co_M_gathered : Cond.code y_M_gathered c_M_gathered 3 (some .int) ∈ mx_T0 := lk_in (i := 591) (by decide +kernel) rfl
theorem mk_Z_54 : Cond.methodLink "LadderWordsLaw" 54 y_M_square ∈ mx_T0 := lk_in (i := 592) (by decide +kernel) rfl
theorem im_M_square : Cond.instanceMethod y_M_square ∈ mx_T0 := lk_in (i := 593) (by decide +kernel) rfl
theorem se_M_square : Cond.selects "LadderWordsModel" y_M_square y_M_square ∈ mx_T0 := lk_in (i := 594) (by decide +kernel) rfl
theorem co_M_square : Cond.code y_M_square c_M_square 3 (some .boolean) ∈ mx_T0 := lk_in (i := 595) (by decide +kernel) rfl
theorem mk_M_104 : Cond.methodLink "LadderWordsModel" 104 y_M_mayBe ∈ mx_T0 := lk_in (i := 596) (by decide +kernel) rfl
theorem im_M_mayBe : Cond.instanceMethod y_M_mayBe ∈ mx_T0 := lk_in (i := 598) (by decide +kernel) rfl
theorem co_M_mayBe : Cond.code y_M_mayBe c_M_mayBe 5 (some .boolean) ∈ mx_T0 := lk_in (i := 599) (by decide +kernel) rfl
theorem mk_Z_58 : Cond.methodLink "LadderWordsLaw" 58 y_M_line ∈ mx_T0 := lk_in (i := 600) (by decide +kernel) rfl
theorem im_M_line : Cond.instanceMethod y_M_line ∈ mx_T0 := lk_in (i := 601) (by decide +kernel) rfl
theorem se_M_line : Cond.selects "LadderWordsModel" y_M_line y_M_line ∈ mx_T0 := lk_in (i := 602) (by decide +kernel) rfl
theorem co_M_line : Cond.code y_M_line c_M_line 2 (some .int) ∈ mx_T0 := lk_in (i := 603) (by decide +kernel) rfl
theorem mk_Z_63 : Cond.methodLink "LadderWordsLaw" 63 y_M_hide ∈ mx_T0 := lk_in (i := 604) (by decide +kernel) rfl
theorem im_M_hide : Cond.instanceMethod y_M_hide ∈ mx_T0 := lk_in (i := 605) (by decide +kernel) rfl
theorem se_M_hide : Cond.selects "LadderWordsModel" y_M_hide y_M_hide ∈ mx_T0 := lk_in (i := 606) (by decide +kernel) rfl
theorem co_M_hide : Cond.code y_M_hide c_M_hide 6 (some .boolean) ∈ mx_T0 := lk_in (i := 607) (by decide +kernel) rfl
theorem mk_M_114 : Cond.methodLink "LadderWordsModel" 114 y_M_isCell ∈ mx_T0 := lk_in (i := 608) (by decide +kernel) rfl
theorem sm_M_isCell : Cond.static y_M_isCell ∈ mx_T0 := lk_in (i := 609) (by decide +kernel) rfl
theorem co_M_isCell : Cond.code y_M_isCell c_M_isCell 2 (some .boolean) ∈ mx_T0 := lk_in (i := 610) (by decide +kernel) rfl
theorem mk_M_117 : Cond.methodLink "LadderWordsModel" 117 y_M_stands ∈ mx_T0 := lk_in (i := 611) (by decide +kernel) rfl
theorem im_M_stands : Cond.instanceMethod y_M_stands ∈ mx_T0 := lk_in (i := 613) (by decide +kernel) rfl
theorem co_M_stands : Cond.code y_M_stands c_M_stands 10 (some .boolean) ∈ mx_T0 := lk_in (i := 614) (by decide +kernel) rfl
theorem mk_M_107 : Cond.methodLink "LadderWordsModel" 107 y_M_across ∈ mx_T0 := lk_in (i := 615) (by decide +kernel) rfl
theorem sm_M_across : Cond.static y_M_across ∈ mx_T0 := lk_in (i := 616) (by decide +kernel) rfl
theorem co_M_across : Cond.code y_M_across c_M_across 1 (some .int) ∈ mx_T0 := lk_in (i := 617) (by decide +kernel) rfl
theorem mk_M_111 : Cond.methodLink "LadderWordsModel" 111 y_M_down ∈ mx_T0 := lk_in (i := 618) (by decide +kernel) rfl
theorem sm_M_down : Cond.static y_M_down ∈ mx_T0 := lk_in (i := 619) (by decide +kernel) rfl
theorem co_M_down : Cond.code y_M_down c_M_down 1 (some .int) ∈ mx_T0 := lk_in (i := 620) (by decide +kernel) rfl
theorem mk_Z_70 : Cond.methodLink "LadderWordsLaw" 70 y_M_fill ∈ mx_T0 := lk_in (i := 621) (by decide +kernel) rfl
theorem im_M_fill : Cond.instanceMethod y_M_fill ∈ mx_T0 := lk_in (i := 622) (by decide +kernel) rfl
theorem se_M_fill : Cond.selects "LadderWordsModel" y_M_fill y_M_fill ∈ mx_T0 := lk_in (i := 623) (by decide +kernel) rfl
theorem co_M_fill : Cond.code y_M_fill c_M_fill 8 (some .int) ∈ mx_T0 := lk_in (i := 624) (by decide +kernel) rfl
theorem cl_M_121 : Cond.constantLong "LadderWordsModel" 121 (6364136223846793005) ∈ mx_T0 := lk_in (i := 625) (by decide +kernel) rfl
theorem cl_M_123 : Cond.constantLong "LadderWordsModel" 123 (1442695040888963407) ∈ mx_T0 := lk_in (i := 626) (by decide +kernel) rfl
theorem mk_M_125 : Cond.methodLink "LadderWordsModel" 125 y_M_letterOfAll ∈ mx_T0 := lk_in (i := 627) (by decide +kernel) rfl
theorem im_M_letterOfAll : Cond.instanceMethod y_M_letterOfAll ∈ mx_T0 := lk_in (i := 629) (by decide +kernel) rfl
theorem co_M_letterOfAll : Cond.code y_M_letterOfAll c_M_letterOfAll 4 (some .int) ∈ mx_T0 := lk_in (i := 630) (by decide +kernel) rfl
theorem mk_Z_74 : Cond.methodLink "LadderWordsLaw" 74 y_M_cell ∈ mx_T0 := lk_in (i := 631) (by decide +kernel) rfl
theorem im_M_cell : Cond.instanceMethod y_M_cell ∈ mx_T0 := lk_in (i := 632) (by decide +kernel) rfl
theorem se_M_cell : Cond.selects "LadderWordsModel" y_M_cell y_M_cell ∈ mx_T0 := lk_in (i := 633) (by decide +kernel) rfl
theorem co_M_cell : Cond.code y_M_cell c_M_cell 3 (some .int) ∈ mx_T0 := lk_in (i := 634) (by decide +kernel) rfl
theorem mk_Z_78 : Cond.methodLink "LadderWordsLaw" 78 y_M_found ∈ mx_T0 := lk_in (i := 635) (by decide +kernel) rfl
theorem im_M_found : Cond.instanceMethod y_M_found ∈ mx_T0 := lk_in (i := 636) (by decide +kernel) rfl
theorem se_M_found : Cond.selects "LadderWordsModel" y_M_found y_M_found ∈ mx_T0 := lk_in (i := 637) (by decide +kernel) rfl
theorem co_M_found : Cond.code y_M_found c_M_found 2 (some .int) ∈ mx_T0 := lk_in (i := 638) (by decide +kernel) rfl
theorem mk_M_128 : Cond.methodLink "LadderWordsModel" 128 y_M_place ∈ mx_T0 := lk_in (i := 639) (by decide +kernel) rfl
theorem im_M_place : Cond.instanceMethod y_M_place ∈ mx_T0 := lk_in (i := 641) (by decide +kernel) rfl
theorem co_M_place : Cond.code y_M_place c_M_place 6 (some .int) ∈ mx_T0 := lk_in (i := 642) (by decide +kernel) rfl
theorem mk_Z_82 : Cond.methodLink "LadderWordsLaw" 82 y_M_where ∈ mx_T0 := lk_in (i := 643) (by decide +kernel) rfl
theorem im_M_where : Cond.instanceMethod y_M_where ∈ mx_T0 := lk_in (i := 644) (by decide +kernel) rfl
theorem se_M_where : Cond.selects "LadderWordsModel" y_M_where y_M_where ∈ mx_T0 := lk_in (i := 645) (by decide +kernel) rfl
theorem co_M_where : Cond.code y_M_where c_M_where 3 (some .int) ∈ mx_T0 := lk_in (i := 646) (by decide +kernel) rfl
theorem mk_Z_86 : Cond.methodLink "LadderWordsLaw" 86 y_M_wipe ∈ mx_T0 := lk_in (i := 647) (by decide +kernel) rfl
theorem im_M_wipe : Cond.instanceMethod y_M_wipe ∈ mx_T0 := lk_in (i := 648) (by decide +kernel) rfl
theorem se_M_wipe : Cond.selects "LadderWordsModel" y_M_wipe y_M_wipe ∈ mx_T0 := lk_in (i := 649) (by decide +kernel) rfl
theorem co_M_wipe : Cond.code y_M_wipe c_M_wipe 2 none ∈ mx_T0 := lk_in (i := 650) (by decide +kernel) rfl
theorem cl_Z_64 : Cond.constantLong "LadderWordsLaw" 64 (4294967295) ∈ mx_T0 := lk_in (i := 651) (by decide +kernel) rfl
theorem se_W_knownNumberOf : Cond.selects "LadderWords$Words" y_W_knownNumberOf y_W_knownNumberOf ∈ mx_T0 := mx_in0 (by decide +kernel) rfl
theorem se_W_isSame : Cond.selects "LadderWords$Words" y_W_isSame y_W_isSame ∈ mx_T0 := mx_in0 (by decide +kernel) rfl
theorem se_W_append : Cond.selects "LadderWords$Words" y_W_append y_W_append ∈ mx_T0 := mx_in0 (by decide +kernel) rfl
theorem se_D_measure : Cond.selects "LadderWords$Ladders" y_D_measure y_D_measure ∈ mx_T0 := mx_in0 (by decide +kernel) rfl
theorem se_D_spread : Cond.selects "LadderWords$Ladders" y_D_spread y_D_spread ∈ mx_T0 := mx_in0 (by decide +kernel) rfl
theorem se_W_differences : Cond.selects "LadderWords$Words" y_W_differences y_W_differences ∈ mx_T0 := mx_in0 (by decide +kernel) rfl
theorem se_W_isOneMore : Cond.selects "LadderWords$Words" y_W_isOneMore y_W_isOneMore ∈ mx_T0 := mx_in0 (by decide +kernel) rfl
theorem se_D_climb : Cond.selects "LadderWords$Ladders" y_D_climb y_D_climb ∈ mx_T0 := mx_in0 (by decide +kernel) rfl
theorem se_D_leastNext : Cond.selects "LadderWords$Ladders" y_D_leastNext y_D_leastNext ∈ mx_T0 := mx_in0 (by decide +kernel) rfl
theorem se_G_listFitting : Cond.selects "LadderWords$Gatherings" y_G_listFitting y_G_listFitting ∈ mx_T0 := mx_in0 (by decide +kernel) rfl
theorem se_G_heapOfWord : Cond.selects "LadderWords$Gatherings" y_G_heapOfWord y_G_heapOfWord ∈ mx_T0 := mx_in0 (by decide +kernel) rfl
theorem se_G_choose : Cond.selects "LadderWords$Gatherings" y_G_choose y_G_choose ∈ mx_T0 := mx_in0 (by decide +kernel) rfl
theorem se_G_take : Cond.selects "LadderWords$Gatherings" y_G_take y_G_take ∈ mx_T0 := mx_in0 (by decide +kernel) rfl
theorem se_G_keep : Cond.selects "LadderWords$Gatherings" y_G_keep y_G_keep ∈ mx_T0 := mx_in0 (by decide +kernel) rfl
theorem se_Q_openAll : Cond.selects "LadderWords$Squares" y_Q_openAll y_Q_openAll ∈ mx_T0 := mx_in0 (by decide +kernel) rfl
theorem se_Q_noteLetters : Cond.selects "LadderWords$Squares" y_Q_noteLetters y_Q_noteLetters ∈ mx_T0 := mx_in0 (by decide +kernel) rfl
theorem se_Q_complete : Cond.selects "LadderWords$Squares" y_Q_complete y_Q_complete ∈ mx_T0 := mx_in0 (by decide +kernel) rfl
theorem se_Q_completeWith : Cond.selects "LadderWords$Squares" y_Q_completeWith y_Q_completeWith ∈ mx_T0 := mx_in0 (by decide +kernel) rfl
theorem se_Q_wordsWith : Cond.selects "LadderWords$Squares" y_Q_wordsWith y_Q_wordsWith ∈ mx_T0 := mx_in0 (by decide +kernel) rfl
theorem se_C_hasRoom : Cond.selects "LadderWords$Grid" y_C_hasRoom y_C_hasRoom ∈ mx_T0 := mx_in0 (by decide +kernel) rfl
theorem se_C_set : Cond.selects "LadderWords$Grid" y_C_set y_C_set ∈ mx_T0 := mx_in0 (by decide +kernel) rfl
theorem se_C_stands : Cond.selects "LadderWords$Grid" y_C_stands y_C_stands ∈ mx_T0 := mx_in0 (by decide +kernel) rfl
theorem se_M_enter : Cond.selects "LadderWordsModel" y_M_enter y_M_enter ∈ mx_T0 := mx_in0 (by decide +kernel) rfl
theorem se_M_isRow : Cond.selects "LadderWordsModel" y_M_isRow y_M_isRow ∈ mx_T0 := mx_in0 (by decide +kernel) rfl
theorem se_M_at : Cond.selects "LadderWordsModel" y_M_at y_M_at ∈ mx_T0 := mx_in0 (by decide +kernel) rfl
theorem se_M_isWord : Cond.selects "LadderWordsModel" y_M_isWord y_M_isWord ∈ mx_T0 := mx_in0 (by decide +kernel) rfl
theorem se_M_isStep : Cond.selects "LadderWordsModel" y_M_isStep y_M_isStep ∈ mx_T0 := mx_in0 (by decide +kernel) rfl
theorem se_M_differsOnce : Cond.selects "LadderWordsModel" y_M_differsOnce y_M_differsOnce ∈ mx_T0 := mx_in0 (by decide +kernel) rfl
theorem se_M_isLessOne : Cond.selects "LadderWordsModel" y_M_isLessOne y_M_isLessOne ∈ mx_T0 := mx_in0 (by decide +kernel) rfl
theorem se_M_take : Cond.selects "LadderWordsModel" y_M_take y_M_take ∈ mx_T0 := mx_in0 (by decide +kernel) rfl
theorem se_M_isEmpty : Cond.selects "LadderWordsModel" y_M_isEmpty y_M_isEmpty ∈ mx_T0 := mx_in0 (by decide +kernel) rfl
theorem se_M_keep : Cond.selects "LadderWordsModel" y_M_keep y_M_keep ∈ mx_T0 := mx_in0 (by decide +kernel) rfl
theorem se_M_mayBe : Cond.selects "LadderWordsModel" y_M_mayBe y_M_mayBe ∈ mx_T0 := mx_in0 (by decide +kernel) rfl
theorem se_M_stands : Cond.selects "LadderWordsModel" y_M_stands y_M_stands ∈ mx_T0 := mx_in0 (by decide +kernel) rfl
theorem se_M_letterOfAll : Cond.selects "LadderWordsModel" y_M_letterOfAll y_M_letterOfAll ∈ mx_T0 := mx_in0 (by decide +kernel) rfl
theorem se_M_place : Cond.selects "LadderWordsModel" y_M_place y_M_place ∈ mx_T0 := mx_in0 (by decide +kernel) rfl
