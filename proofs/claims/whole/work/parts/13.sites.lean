theorem inT1 {w : Cond} (h : w ∈ tables_1_1) : w ∈ tables_1 := List.mem_append_left _ h
theorem inT2 {w : Cond} (h : w ∈ tables_1_2) : w ∈ tables_1 := List.mem_append_right _ (List.mem_append_left _ h)
theorem inT3 {w : Cond} (h : w ∈ tables_1_3) : w ∈ tables_1 := List.mem_append_right _ (List.mem_append_right _ (List.mem_append_left _ h))
theorem inT4 {w : Cond} (h : w ∈ tables_1_4) : w ∈ tables_1 := List.mem_append_right _ (List.mem_append_right _ (List.mem_append_right _ (List.mem_append_left _ h)))
theorem inT5 {w : Cond} (h : w ∈ tables_1_5) : w ∈ tables_1 := List.mem_append_right _ (List.mem_append_right _ (List.mem_append_right _ (List.mem_append_right _ h)))
theorem iz_RL : Cond.initialized RL ∈ tblG := inG (inT1 (List.mem_of_getElem? (i := 0) rfl)) rfl
theorem iz_RX7 : Cond.initialized RX7 ∈ tblG := inG (inT1 (List.mem_of_getElem? (i := 1) rfl)) rfl
theorem iz_RX1 : Cond.initialized RX1 ∈ tblG := inG (inT1 (List.mem_of_getElem? (i := 2) rfl)) rfl
theorem iz_RX3 : Cond.initialized RX3 ∈ tblG := inG (inT1 (List.mem_of_getElem? (i := 3) rfl)) rfl
theorem iz_RX2 : Cond.initialized RX2 ∈ tblG := inG (inT1 (List.mem_of_getElem? (i := 4) rfl)) rfl
theorem iz_RX4 : Cond.initialized RX4 ∈ tblG := inG (inT1 (List.mem_of_getElem? (i := 5) rfl)) rfl
theorem iz_RX6 : Cond.initialized RX6 ∈ tblG := inG (inT1 (List.mem_of_getElem? (i := 6) rfl)) rfl
theorem iz_RJ9 : Cond.initialized RJ9 ∈ tblG := inG (inT1 (List.mem_of_getElem? (i := 7) rfl)) rfl
theorem iz_RX0 : Cond.initialized RX0 ∈ tblG := inG (inT1 (List.mem_of_getElem? (i := 8) rfl)) rfl
theorem iz_RX5 : Cond.initialized RX5 ∈ tblG := inG (inT1 (List.mem_of_getElem? (i := 9) rfl)) rfl
theorem iz_RJ0 : Cond.initialized RJ0 ∈ tblG := inG (inT1 (List.mem_of_getElem? (i := 10) rfl)) rfl
theorem iz_RJ1 : Cond.initialized RJ1 ∈ tblG := inG (inT1 (List.mem_of_getElem? (i := 11) rfl)) rfl
theorem iz_RJ3 : Cond.initialized RJ3 ∈ tblG := inG (inT1 (List.mem_of_getElem? (i := 12) rfl)) rfl
theorem iz_RJ2 : Cond.initialized RJ2 ∈ tblG := inG (inT1 (List.mem_of_getElem? (i := 13) rfl)) rfl
theorem iz_RJ10 : Cond.initialized RJ10 ∈ tblG := inG (inT1 (List.mem_of_getElem? (i := 14) rfl)) rfl
theorem iz_RX8 : Cond.initialized RX8 ∈ tblG := inG (inT1 (List.mem_of_getElem? (i := 15) rfl)) rfl
theorem iz_RJ6 : Cond.initialized RJ6 ∈ tblG := inG (inT1 (List.mem_of_getElem? (i := 16) rfl)) rfl
theorem im_X7_init : Cond.instanceMethod yX7_init ∈ tblG := inG (inT1 (List.mem_of_getElem? (i := 20) rfl)) rfl
abbrev mX7_init : MD := (yX7_init, cX7_init, 2, none)
theorem cw_X7_init : Cond.code yX7_init cX7_init 2 none ∈ tblG := inG (inT1 (List.mem_of_getElem? (i := 21) rfl)) rfl
theorem im_X1_init : Cond.instanceMethod yX1_init ∈ tblG := inG (inT1 (List.mem_of_getElem? (i := 28) rfl)) rfl
abbrev mX1_init : MD := (yX1_init, cX1_init, 1, none)
theorem cw_X1_init : Cond.code yX1_init cX1_init 1 none ∈ tblG := inG (inT1 (List.mem_of_getElem? (i := 29) rfl)) rfl
theorem ac_int : Cond.arrayClass .int ∈ tblG := inG (inT1 (List.mem_of_getElem? (i := 40) rfl)) rfl
theorem im_X3_init : Cond.instanceMethod yX3_init ∈ tblG := inG (inT1 (List.mem_of_getElem? (i := 44) rfl)) rfl
abbrev mX3_init : MD := (yX3_init, cX3_init, 2, none)
theorem cw_X3_init : Cond.code yX3_init cX3_init 2 none ∈ tblG := inG (inT1 (List.mem_of_getElem? (i := 45) rfl)) rfl
theorem im_X2_init : Cond.instanceMethod yX2_init ∈ tblG := inG (inT1 (List.mem_of_getElem? (i := 57) rfl)) rfl
abbrev mX2_init : MD := (yX2_init, cX2_init, 1, none)
theorem cw_X2_init : Cond.code yX2_init cX2_init 1 none ∈ tblG := inG (inT1 (List.mem_of_getElem? (i := 58) rfl)) rfl
theorem im_X4_init : Cond.instanceMethod yX4_init ∈ tblG := inG (inT1 (List.mem_of_getElem? (i := 128) rfl)) rfl
abbrev mX4_init : MD := (yX4_init, cX4_init, 1, none)
theorem cw_X4_init : Cond.code yX4_init cX4_init 1 none ∈ tblG := inG (inT1 (List.mem_of_getElem? (i := 129) rfl)) rfl
theorem im_X6_init : Cond.instanceMethod yX6_init ∈ tblG := inG (inT1 (List.mem_of_getElem? (i := 156) rfl)) rfl
abbrev mX6_init : MD := (yX6_init, cX6_init, 3, none)
theorem cw_X6_init : Cond.code yX6_init cX6_init 3 none ∈ tblG := inG (inT1 (List.mem_of_getElem? (i := 157) rfl)) rfl
theorem sm_J9_max_7cf53 : Cond.static yJ9_max_7cf53 ∈ tblG := inG (inT1 (List.mem_of_getElem? (i := 160) rfl)) rfl
abbrev mJ9_max_7cf53 : MD := (yJ9_max_7cf53, cJ9_max_7cf53, 2, (some .int))
theorem cw_J9_max_7cf53 : Cond.code yJ9_max_7cf53 cJ9_max_7cf53 2 (some .int) ∈ tblG := inG (inT1 (List.mem_of_getElem? (i := 161) rfl)) rfl
theorem im_X0_init : Cond.instanceMethod yX0_init ∈ tblG := inG (inT1 (List.mem_of_getElem? (i := 176) rfl)) rfl
abbrev mX0_init : MD := (yX0_init, cX0_init, 1, none)
theorem cw_X0_init : Cond.code yX0_init cX0_init 1 none ∈ tblG := inG (inT1 (List.mem_of_getElem? (i := 177) rfl)) rfl
theorem im_X5_init : Cond.instanceMethod yX5_init ∈ tblG := inG (inT1 (List.mem_of_getElem? (i := 196) rfl)) rfl
abbrev mX5_init : MD := (yX5_init, cX5_init, 2, none)
theorem cw_X5_init : Cond.code yX5_init cX5_init 2 none ∈ tblG := inG (inT1 (List.mem_of_getElem? (i := 197) rfl)) rfl
theorem im_J0_length_8abf5 : Cond.instanceMethod yJ0_length_8abf5 ∈ tblG := inG (inT1 (List.mem_of_getElem? (i := 217) rfl)) rfl
theorem se_J0_length_8abf5 : Cond.selects yJ0_length_8abf5.cls yJ0_length_8abf5 yJ0_length_8abf5 ∈ tblG := inG (inT1 (List.mem_of_getElem? (i := 218) rfl)) rfl
abbrev mJ0_length_8abf5 : MD := (yJ0_length_8abf5, cJ0_length_8abf5, 1, (some .int))
theorem cw_J0_length_8abf5 : Cond.code yJ0_length_8abf5 cJ0_length_8abf5 1 (some .int) ∈ tblG := inG (inT1 (List.mem_of_getElem? (i := 219) rfl)) rfl
theorem im_J0_coder_7d493 : Cond.instanceMethod yJ0_coder_7d493 ∈ tblG := inG (inT1 (List.mem_of_getElem? (i := 221) rfl)) rfl
theorem se_J0_coder_7d493 : Cond.selects yJ0_coder_7d493.cls yJ0_coder_7d493 yJ0_coder_7d493 ∈ tblG := inG (inT1 (List.mem_of_getElem? (i := 222) rfl)) rfl
abbrev mJ0_coder_7d493 : MD := (yJ0_coder_7d493, cJ0_coder_7d493, 1, (some .byte))
theorem cw_J0_coder_7d493 : Cond.code yJ0_coder_7d493 cJ0_coder_7d493 1 (some .byte) ∈ tblG := inG (inT1 (List.mem_of_getElem? (i := 223) rfl)) rfl
theorem im_J0_charAt_5068e : Cond.instanceMethod yJ0_charAt_5068e ∈ tblG := inG (inT1 (List.mem_of_getElem? (i := 227) rfl)) rfl
theorem se_J0_charAt_5068e : Cond.selects yJ0_charAt_5068e.cls yJ0_charAt_5068e yJ0_charAt_5068e ∈ tblG := inG (inT1 (List.mem_of_getElem? (i := 228) rfl)) rfl
abbrev mJ0_charAt_5068e : MD := (yJ0_charAt_5068e, cJ0_charAt_5068e, 2, (some .char))
theorem cw_J0_charAt_5068e : Cond.code yJ0_charAt_5068e cJ0_charAt_5068e 2 (some .char) ∈ tblG := inG (inT1 (List.mem_of_getElem? (i := 229) rfl)) rfl
theorem im_J0_isLatin1_aae02 : Cond.instanceMethod yJ0_isLatin1_aae02 ∈ tblG := inG (inT1 (List.mem_of_getElem? (i := 231) rfl)) rfl
theorem se_J0_isLatin1_aae02 : Cond.selects yJ0_isLatin1_aae02.cls yJ0_isLatin1_aae02 yJ0_isLatin1_aae02 ∈ tblG := inG (inT1 (List.mem_of_getElem? (i := 232) rfl)) rfl
abbrev mJ0_isLatin1_aae02 : MD := (yJ0_isLatin1_aae02, cJ0_isLatin1_aae02, 1, (some .boolean))
theorem cw_J0_isLatin1_aae02 : Cond.code yJ0_isLatin1_aae02 cJ0_isLatin1_aae02 1 (some .boolean) ∈ tblG := inG (inT1 (List.mem_of_getElem? (i := 233) rfl)) rfl
theorem sm_J1_charAt_3b067 : Cond.static yJ1_charAt_3b067 ∈ tblG := inG (inT1 (List.mem_of_getElem? (i := 235) rfl)) rfl
abbrev mJ1_charAt_3b067 : MD := (yJ1_charAt_3b067, cJ1_charAt_3b067, 2, (some .char))
theorem cw_J1_charAt_3b067 : Cond.code yJ1_charAt_3b067 cJ1_charAt_3b067 2 (some .char) ∈ tblG := inG (inT1 (List.mem_of_getElem? (i := 236) rfl)) rfl
theorem sm_J0_checkIndex_df160 : Cond.static yJ0_checkIndex_df160 ∈ tblG := inG (inT1 (List.mem_of_getElem? (i := 238) rfl)) rfl
abbrev mJ0_checkIndex_df160 : MD := (yJ0_checkIndex_df160, cJ0_checkIndex_df160, 2, none)
theorem cw_J0_checkIndex_df160 : Cond.code yJ0_checkIndex_df160 cJ0_checkIndex_df160 2 none ∈ tblG := inG (inT1 (List.mem_of_getElem? (i := 239) rfl)) rfl
theorem sm_J3_checkIndex_8e157 : Cond.static yJ3_checkIndex_8e157 ∈ tblG := inG (inT2 (List.mem_of_getElem? (i := 3) rfl)) rfl
abbrev mJ3_checkIndex_8e157 : MD := (yJ3_checkIndex_8e157, cJ3_checkIndex_8e157, 3, (some .int))
theorem cw_J3_checkIndex_8e157 : Cond.code yJ3_checkIndex_8e157 cJ3_checkIndex_8e157 3 (some .int) ∈ tblG := inG (inT2 (List.mem_of_getElem? (i := 4) rfl)) rfl
theorem sm_J2_charAt_3b067 : Cond.static yJ2_charAt_3b067 ∈ tblG := inG (inT2 (List.mem_of_getElem? (i := 6) rfl)) rfl
abbrev mJ2_charAt_3b067 : MD := (yJ2_charAt_3b067, cJ2_charAt_3b067, 2, (some .char))
theorem cw_J2_charAt_3b067 : Cond.code yJ2_charAt_3b067 cJ2_charAt_3b067 2 (some .char) ∈ tblG := inG (inT2 (List.mem_of_getElem? (i := 7) rfl)) rfl
theorem sm_J2_checkIndex_2214a : Cond.static yJ2_checkIndex_2214a ∈ tblG := inG (inT2 (List.mem_of_getElem? (i := 9) rfl)) rfl
abbrev mJ2_checkIndex_2214a : MD := (yJ2_checkIndex_2214a, cJ2_checkIndex_2214a, 2, none)
theorem cw_J2_checkIndex_2214a : Cond.code yJ2_checkIndex_2214a cJ2_checkIndex_2214a 2 none ∈ tblG := inG (inT2 (List.mem_of_getElem? (i := 10) rfl)) rfl
theorem sm_J2_length_9d52b : Cond.static yJ2_length_9d52b ∈ tblG := inG (inT2 (List.mem_of_getElem? (i := 12) rfl)) rfl
abbrev mJ2_length_9d52b : MD := (yJ2_length_9d52b, cJ2_length_9d52b, 1, (some .int))
theorem cw_J2_length_9d52b : Cond.code yJ2_length_9d52b cJ2_length_9d52b 1 (some .int) ∈ tblG := inG (inT2 (List.mem_of_getElem? (i := 13) rfl)) rfl
theorem sm_J2_getChar_3b067 : Cond.static yJ2_getChar_3b067 ∈ tblG := inG (inT2 (List.mem_of_getElem? (i := 16) rfl)) rfl
abbrev mJ2_getChar_3b067 : MD := (yJ2_getChar_3b067, cJ2_getChar_3b067, 2, (some .char))
theorem cw_J2_getChar_3b067 : Cond.code yJ2_getChar_3b067 cJ2_getChar_3b067 2 (some .char) ∈ tblG := inG (inT2 (List.mem_of_getElem? (i := 17) rfl)) rfl
theorem im_X1_add : Cond.instanceMethod yX1_add ∈ tblG := inG (inT2 (List.mem_of_getElem? (i := 25) rfl)) rfl
theorem se_X1_add : Cond.selects yX1_add.cls yX1_add yX1_add ∈ tblG := inG (inT2 (List.mem_of_getElem? (i := 26) rfl)) rfl
abbrev mX1_add : MD := (yX1_add, cX1_add, 2, (some .boolean))
theorem cw_X1_add : Cond.code yX1_add cX1_add 2 (some .boolean) ∈ tblG := inG (inT2 (List.mem_of_getElem? (i := 27) rfl)) rfl
theorem im_X3_readInto : Cond.instanceMethod yX3_readInto ∈ tblG := inG (inT2 (List.mem_of_getElem? (i := 29) rfl)) rfl
theorem se_X3_readInto : Cond.selects yX3_readInto.cls yX3_readInto yX3_readInto ∈ tblG := inG (inT2 (List.mem_of_getElem? (i := 30) rfl)) rfl
abbrev mX3_readInto : MD := (yX3_readInto, cX3_readInto, 6, (some .int))
theorem cw_X3_readInto : Cond.code yX3_readInto cX3_readInto 6 (some .int) ∈ tblG := inG (inT2 (List.mem_of_getElem? (i := 31) rfl)) rfl
theorem im_X2_clear : Cond.instanceMethod yX2_clear ∈ tblG := inG (inT2 (List.mem_of_getElem? (i := 33) rfl)) rfl
theorem se_X2_clear : Cond.selects yX2_clear.cls yX2_clear yX2_clear ∈ tblG := inG (inT2 (List.mem_of_getElem? (i := 34) rfl)) rfl
abbrev mX2_clear : MD := (yX2_clear, cX2_clear, 2, none)
theorem cw_X2_clear : Cond.code yX2_clear cX2_clear 2 none ∈ tblG := inG (inT2 (List.mem_of_getElem? (i := 35) rfl)) rfl
theorem im_X1_signAt : Cond.instanceMethod yX1_signAt ∈ tblG := inG (inT2 (List.mem_of_getElem? (i := 37) rfl)) rfl
theorem se_X1_signAt : Cond.selects yX1_signAt.cls yX1_signAt yX1_signAt ∈ tblG := inG (inT2 (List.mem_of_getElem? (i := 38) rfl)) rfl
abbrev mX1_signAt : MD := (yX1_signAt, cX1_signAt, 2, (some .int))
theorem cw_X1_signAt : Cond.code yX1_signAt cX1_signAt 2 (some .int) ∈ tblG := inG (inT2 (List.mem_of_getElem? (i := 39) rfl)) rfl
theorem sm_X3_numbersBehind : Cond.static yX3_numbersBehind ∈ tblG := inG (inT2 (List.mem_of_getElem? (i := 41) rfl)) rfl
abbrev mX3_numbersBehind : MD := (yX3_numbersBehind, cX3_numbersBehind, 1, (some .int))
theorem cw_X3_numbersBehind : Cond.code yX3_numbersBehind cX3_numbersBehind 1 (some .int) ∈ tblG := inG (inT2 (List.mem_of_getElem? (i := 42) rfl)) rfl
theorem im_X3_readNumbers : Cond.instanceMethod yX3_readNumbers ∈ tblG := inG (inT2 (List.mem_of_getElem? (i := 45) rfl)) rfl
abbrev mX3_readNumbers : MD := (yX3_readNumbers, cX3_readNumbers, 6, (some .int))
theorem cw_X3_readNumbers : Cond.code yX3_readNumbers cX3_readNumbers 6 (some .int) ∈ tblG := inG (inT2 (List.mem_of_getElem? (i := 46) rfl)) rfl
theorem im_X3_isFigure : Cond.instanceMethod yX3_isFigure ∈ tblG := inG (inT2 (List.mem_of_getElem? (i := 49) rfl)) rfl
abbrev mX3_isFigure : MD := (yX3_isFigure, cX3_isFigure, 2, (some .boolean))
theorem cw_X3_isFigure : Cond.code yX3_isFigure cX3_isFigure 2 (some .boolean) ∈ tblG := inG (inT2 (List.mem_of_getElem? (i := 50) rfl)) rfl
theorem sm_X7_within : Cond.static yX7_within ∈ tblG := inG (inT2 (List.mem_of_getElem? (i := 52) rfl)) rfl
abbrev mX7_within : MD := (yX7_within, cX7_within, 3, (some .boolean))
theorem cw_X7_within : Cond.code yX7_within cX7_within 3 (some .boolean) ∈ tblG := inG (inT2 (List.mem_of_getElem? (i := 53) rfl)) rfl
theorem im_X3_figureAt : Cond.instanceMethod yX3_figureAt ∈ tblG := inG (inT2 (List.mem_of_getElem? (i := 56) rfl)) rfl
abbrev mX3_figureAt : MD := (yX3_figureAt, cX3_figureAt, 2, (some .int))
theorem cw_X3_figureAt : Cond.code yX3_figureAt cX3_figureAt 2 (some .int) ∈ tblG := inG (inT2 (List.mem_of_getElem? (i := 57) rfl)) rfl
theorem im_X2_takeItem : Cond.instanceMethod yX2_takeItem ∈ tblG := inG (inT2 (List.mem_of_getElem? (i := 59) rfl)) rfl
theorem se_X2_takeItem : Cond.selects yX2_takeItem.cls yX2_takeItem yX2_takeItem ∈ tblG := inG (inT2 (List.mem_of_getElem? (i := 60) rfl)) rfl
abbrev mX2_takeItem : MD := (yX2_takeItem, cX2_takeItem, 5, (some .boolean))
theorem cw_X2_takeItem : Cond.code yX2_takeItem cX2_takeItem 5 (some .boolean) ∈ tblG := inG (inT2 (List.mem_of_getElem? (i := 61) rfl)) rfl
theorem im_X2_takePosts : Cond.instanceMethod yX2_takePosts ∈ tblG := inG (inT2 (List.mem_of_getElem? (i := 64) rfl)) rfl
abbrev mX2_takePosts : MD := (yX2_takePosts, cX2_takePosts, 2, (some .boolean))
theorem cw_X2_takePosts : Cond.code yX2_takePosts cX2_takePosts 2 (some .boolean) ∈ tblG := inG (inT2 (List.mem_of_getElem? (i := 65) rfl)) rfl
theorem im_X2_takeFirstYard : Cond.instanceMethod yX2_takeFirstYard ∈ tblG := inG (inT2 (List.mem_of_getElem? (i := 69) rfl)) rfl
abbrev mX2_takeFirstYard : MD := (yX2_takeFirstYard, cX2_takeFirstYard, 3, (some .boolean))
theorem cw_X2_takeFirstYard : Cond.code yX2_takeFirstYard cX2_takeFirstYard 3 (some .boolean) ∈ tblG := inG (inT2 (List.mem_of_getElem? (i := 70) rfl)) rfl
theorem sm_X7_isYard : Cond.static yX7_isYard ∈ tblG := inG (inT2 (List.mem_of_getElem? (i := 72) rfl)) rfl
abbrev mX7_isYard : MD := (yX7_isYard, cX7_isYard, 1, (some .boolean))
theorem cw_X7_isYard : Cond.code yX7_isYard cX7_isYard 1 (some .boolean) ∈ tblG := inG (inT2 (List.mem_of_getElem? (i := 73) rfl)) rfl
theorem im_X2_takeWalker : Cond.instanceMethod yX2_takeWalker ∈ tblG := inG (inT2 (List.mem_of_getElem? (i := 77) rfl)) rfl
abbrev mX2_takeWalker : MD := (yX2_takeWalker, cX2_takeWalker, 3, (some .boolean))
theorem cw_X2_takeWalker : Cond.code yX2_takeWalker cX2_takeWalker 3 (some .boolean) ∈ tblG := inG (inT2 (List.mem_of_getElem? (i := 78) rfl)) rfl
theorem im_X2_takeThing : Cond.instanceMethod yX2_takeThing ∈ tblG := inG (inT2 (List.mem_of_getElem? (i := 81) rfl)) rfl
abbrev mX2_takeThing : MD := (yX2_takeThing, cX2_takeThing, 3, (some .boolean))
theorem cw_X2_takeThing : Cond.code yX2_takeThing cX2_takeThing 3 (some .boolean) ∈ tblG := inG (inT2 (List.mem_of_getElem? (i := 82) rfl)) rfl
theorem im_X2_takeTold : Cond.instanceMethod yX2_takeTold ∈ tblG := inG (inT2 (List.mem_of_getElem? (i := 85) rfl)) rfl
abbrev mX2_takeTold : MD := (yX2_takeTold, cX2_takeTold, 4, (some .boolean))
theorem cw_X2_takeTold : Cond.code yX2_takeTold cX2_takeTold 4 (some .boolean) ∈ tblG := inG (inT2 (List.mem_of_getElem? (i := 86) rfl)) rfl
theorem im_X2_takeFog : Cond.instanceMethod yX2_takeFog ∈ tblG := inG (inT2 (List.mem_of_getElem? (i := 89) rfl)) rfl
abbrev mX2_takeFog : MD := (yX2_takeFog, cX2_takeFog, 4, (some .boolean))
theorem cw_X2_takeFog : Cond.code yX2_takeFog cX2_takeFog 4 (some .boolean) ∈ tblG := inG (inT2 (List.mem_of_getElem? (i := 90) rfl)) rfl
theorem im_X1_clear : Cond.instanceMethod yX1_clear ∈ tblG := inG (inT2 (List.mem_of_getElem? (i := 92) rfl)) rfl
theorem se_X1_clear : Cond.selects yX1_clear.cls yX1_clear yX1_clear ∈ tblG := inG (inT2 (List.mem_of_getElem? (i := 93) rfl)) rfl
abbrev mX1_clear : MD := (yX1_clear, cX1_clear, 1, none)
theorem cw_X1_clear : Cond.code yX1_clear cX1_clear 1 none ∈ tblG := inG (inT2 (List.mem_of_getElem? (i := 94) rfl)) rfl
theorem im_X4_startOn : Cond.instanceMethod yX4_startOn ∈ tblG := inG (inT2 (List.mem_of_getElem? (i := 96) rfl)) rfl
theorem se_X4_startOn : Cond.selects yX4_startOn.cls yX4_startOn yX4_startOn ∈ tblG := inG (inT2 (List.mem_of_getElem? (i := 97) rfl)) rfl
abbrev mX4_startOn : MD := (yX4_startOn, cX4_startOn, 2, none)
theorem cw_X4_startOn : Cond.code yX4_startOn cX4_startOn 2 none ∈ tblG := inG (inT2 (List.mem_of_getElem? (i := 98) rfl)) rfl
theorem nat_acopy : Cond.native arraycopyName ∈ tblG := inG (inT2 (List.mem_of_getElem? (i := 101) rfl)) rfl
theorem ac_byte : Cond.arrayClass .byte ∈ tblG := inG (inT2 (List.mem_of_getElem? (i := 142) rfl)) rfl
theorem im_X7_write : Cond.instanceMethod yX7_write ∈ tblG := inG (inT2 (List.mem_of_getElem? (i := 144) rfl)) rfl
theorem se_X7_write : Cond.selects yX7_write.cls yX7_write yX7_write ∈ tblG := inG (inT2 (List.mem_of_getElem? (i := 145) rfl)) rfl
abbrev mX7_write : MD := (yX7_write, cX7_write, 2, (some .int))
theorem cw_X7_write : Cond.code yX7_write cX7_write 2 (some .int) ∈ tblG := inG (inT2 (List.mem_of_getElem? (i := 146) rfl)) rfl
theorem im_X7_wipe : Cond.instanceMethod yX7_wipe ∈ tblG := inG (inT2 (List.mem_of_getElem? (i := 148) rfl)) rfl
theorem se_X7_wipe : Cond.selects yX7_wipe.cls yX7_wipe yX7_wipe ∈ tblG := inG (inT2 (List.mem_of_getElem? (i := 149) rfl)) rfl
abbrev mX7_wipe : MD := (yX7_wipe, cX7_wipe, 2, (some .int))
theorem cw_X7_wipe : Cond.code yX7_wipe cX7_wipe 2 (some .int) ∈ tblG := inG (inT2 (List.mem_of_getElem? (i := 150) rfl)) rfl
theorem im_X7_fault : Cond.instanceMethod yX7_fault ∈ tblG := inG (inT2 (List.mem_of_getElem? (i := 152) rfl)) rfl
theorem se_X7_fault : Cond.selects yX7_fault.cls yX7_fault yX7_fault ∈ tblG := inG (inT2 (List.mem_of_getElem? (i := 153) rfl)) rfl
abbrev mX7_fault : MD := (yX7_fault, cX7_fault, 1, (some .int))
theorem cw_X7_fault : Cond.code yX7_fault cX7_fault 1 (some .int) ∈ tblG := inG (inT2 (List.mem_of_getElem? (i := 154) rfl)) rfl
theorem im_X7_lay : Cond.instanceMethod yX7_lay ∈ tblG := inG (inT2 (List.mem_of_getElem? (i := 156) rfl)) rfl
theorem se_X7_lay : Cond.selects yX7_lay.cls yX7_lay yX7_lay ∈ tblG := inG (inT2 (List.mem_of_getElem? (i := 157) rfl)) rfl
abbrev mX7_lay : MD := (yX7_lay, cX7_lay, 1, (some .int))
theorem cw_X7_lay : Cond.code yX7_lay cX7_lay 1 (some .int) ∈ tblG := inG (inT2 (List.mem_of_getElem? (i := 158) rfl)) rfl
theorem im_X6_clear : Cond.instanceMethod yX6_clear ∈ tblG := inG (inT2 (List.mem_of_getElem? (i := 160) rfl)) rfl
theorem se_X6_clear : Cond.selects yX6_clear.cls yX6_clear yX6_clear ∈ tblG := inG (inT2 (List.mem_of_getElem? (i := 161) rfl)) rfl
abbrev mX6_clear : MD := (yX6_clear, cX6_clear, 1, none)
theorem cw_X6_clear : Cond.code yX6_clear cX6_clear 1 none ∈ tblG := inG (inT2 (List.mem_of_getElem? (i := 162) rfl)) rfl
theorem im_X0_clear : Cond.instanceMethod yX0_clear ∈ tblG := inG (inT2 (List.mem_of_getElem? (i := 164) rfl)) rfl
theorem se_X0_clear : Cond.selects yX0_clear.cls yX0_clear yX0_clear ∈ tblG := inG (inT2 (List.mem_of_getElem? (i := 165) rfl)) rfl
abbrev mX0_clear : MD := (yX0_clear, cX0_clear, 1, none)
theorem cw_X0_clear : Cond.code yX0_clear cX0_clear 1 none ∈ tblG := inG (inT2 (List.mem_of_getElem? (i := 166) rfl)) rfl
theorem im_X7_post : Cond.instanceMethod yX7_post ∈ tblG := inG (inT2 (List.mem_of_getElem? (i := 168) rfl)) rfl
theorem se_X7_post : Cond.selects yX7_post.cls yX7_post yX7_post ∈ tblG := inG (inT2 (List.mem_of_getElem? (i := 169) rfl)) rfl
abbrev mX7_post : MD := (yX7_post, cX7_post, 2, (some .int))
theorem cw_X7_post : Cond.code yX7_post cX7_post 2 (some .int) ∈ tblG := inG (inT2 (List.mem_of_getElem? (i := 170) rfl)) rfl
theorem im_X7_isPost : Cond.instanceMethod yX7_isPost ∈ tblG := inG (inT2 (List.mem_of_getElem? (i := 173) rfl)) rfl
abbrev mX7_isPost : MD := (yX7_isPost, cX7_isPost, 2, (some .boolean))
theorem cw_X7_isPost : Cond.code yX7_isPost cX7_isPost 2 (some .boolean) ∈ tblG := inG (inT2 (List.mem_of_getElem? (i := 174) rfl)) rfl
theorem im_X7_walker : Cond.instanceMethod yX7_walker ∈ tblG := inG (inT2 (List.mem_of_getElem? (i := 176) rfl)) rfl
theorem se_X7_walker : Cond.selects yX7_walker.cls yX7_walker yX7_walker ∈ tblG := inG (inT2 (List.mem_of_getElem? (i := 177) rfl)) rfl
abbrev mX7_walker : MD := (yX7_walker, cX7_walker, 3, (some .int))
theorem cw_X7_walker : Cond.code yX7_walker cX7_walker 3 (some .int) ∈ tblG := inG (inT2 (List.mem_of_getElem? (i := 178) rfl)) rfl
theorem im_X7_isWalker : Cond.instanceMethod yX7_isWalker ∈ tblG := inG (inT2 (List.mem_of_getElem? (i := 181) rfl)) rfl
abbrev mX7_isWalker : MD := (yX7_isWalker, cX7_isWalker, 2, (some .boolean))
theorem cw_X7_isWalker : Cond.code yX7_isWalker cX7_isWalker 2 (some .boolean) ∈ tblG := inG (inT2 (List.mem_of_getElem? (i := 182) rfl)) rfl
theorem im_X7_thing : Cond.instanceMethod yX7_thing ∈ tblG := inG (inT2 (List.mem_of_getElem? (i := 184) rfl)) rfl
theorem se_X7_thing : Cond.selects yX7_thing.cls yX7_thing yX7_thing ∈ tblG := inG (inT2 (List.mem_of_getElem? (i := 185) rfl)) rfl
abbrev mX7_thing : MD := (yX7_thing, cX7_thing, 3, (some .int))
theorem cw_X7_thing : Cond.code yX7_thing cX7_thing 3 (some .int) ∈ tblG := inG (inT2 (List.mem_of_getElem? (i := 186) rfl)) rfl
theorem im_X7_isThing : Cond.instanceMethod yX7_isThing ∈ tblG := inG (inT2 (List.mem_of_getElem? (i := 189) rfl)) rfl
abbrev mX7_isThing : MD := (yX7_isThing, cX7_isThing, 2, (some .boolean))
theorem cw_X7_isThing : Cond.code yX7_isThing cX7_isThing 2 (some .boolean) ∈ tblG := inG (inT2 (List.mem_of_getElem? (i := 190) rfl)) rfl
theorem im_X4_isShut : Cond.instanceMethod yX4_isShut ∈ tblG := inG (inT2 (List.mem_of_getElem? (i := 192) rfl)) rfl
theorem se_X4_isShut : Cond.selects yX4_isShut.cls yX4_isShut yX4_isShut ∈ tblG := inG (inT2 (List.mem_of_getElem? (i := 193) rfl)) rfl
abbrev mX4_isShut : MD := (yX4_isShut, cX4_isShut, 2, (some .boolean))
theorem cw_X4_isShut : Cond.code yX4_isShut cX4_isShut 2 (some .boolean) ∈ tblG := inG (inT2 (List.mem_of_getElem? (i := 194) rfl)) rfl
theorem im_X7_day : Cond.instanceMethod yX7_day ∈ tblG := inG (inT2 (List.mem_of_getElem? (i := 196) rfl)) rfl
theorem se_X7_day : Cond.selects yX7_day.cls yX7_day yX7_day ∈ tblG := inG (inT2 (List.mem_of_getElem? (i := 197) rfl)) rfl
abbrev mX7_day : MD := (yX7_day, cX7_day, 3, (some .int))
theorem cw_X7_day : Cond.code yX7_day cX7_day 3 (some .int) ∈ tblG := inG (inT2 (List.mem_of_getElem? (i := 198) rfl)) rfl
theorem im_X2_walksOn : Cond.instanceMethod yX2_walksOn ∈ tblG := inG (inT2 (List.mem_of_getElem? (i := 200) rfl)) rfl
theorem se_X2_walksOn : Cond.selects yX2_walksOn.cls yX2_walksOn yX2_walksOn ∈ tblG := inG (inT2 (List.mem_of_getElem? (i := 201) rfl)) rfl
abbrev mX2_walksOn : MD := (yX2_walksOn, cX2_walksOn, 4, (some .int))
theorem cw_X2_walksOn : Cond.code yX2_walksOn cX2_walksOn 4 (some .int) ∈ tblG := inG (inT2 (List.mem_of_getElem? (i := 202) rfl)) rfl
theorem im_X2_isFoggy : Cond.instanceMethod yX2_isFoggy ∈ tblG := inG (inT2 (List.mem_of_getElem? (i := 204) rfl)) rfl
theorem se_X2_isFoggy : Cond.selects yX2_isFoggy.cls yX2_isFoggy yX2_isFoggy ∈ tblG := inG (inT2 (List.mem_of_getElem? (i := 205) rfl)) rfl
abbrev mX2_isFoggy : MD := (yX2_isFoggy, cX2_isFoggy, 2, (some .boolean))
theorem cw_X2_isFoggy : Cond.code yX2_isFoggy cX2_isFoggy 2 (some .boolean) ∈ tblG := inG (inT2 (List.mem_of_getElem? (i := 206) rfl)) rfl
theorem im_X7_pass : Cond.instanceMethod yX7_pass ∈ tblG := inG (inT2 (List.mem_of_getElem? (i := 208) rfl)) rfl
theorem se_X7_pass : Cond.selects yX7_pass.cls yX7_pass yX7_pass ∈ tblG := inG (inT2 (List.mem_of_getElem? (i := 209) rfl)) rfl
abbrev mX7_pass : MD := (yX7_pass, cX7_pass, 2, (some .int))
theorem cw_X7_pass : Cond.code yX7_pass cX7_pass 2 (some .int) ∈ tblG := inG (inT2 (List.mem_of_getElem? (i := 210) rfl)) rfl
theorem im_X6_putOverOldest : Cond.instanceMethod yX6_putOverOldest ∈ tblG := inG (inT2 (List.mem_of_getElem? (i := 212) rfl)) rfl
theorem se_X6_putOverOldest : Cond.selects yX6_putOverOldest.cls yX6_putOverOldest yX6_putOverOldest ∈ tblG := inG (inT2 (List.mem_of_getElem? (i := 213) rfl)) rfl
abbrev mX6_putOverOldest : MD := (yX6_putOverOldest, cX6_putOverOldest, 4, none)
theorem cw_X6_putOverOldest : Cond.code yX6_putOverOldest cX6_putOverOldest 4 none ∈ tblG := inG (inT2 (List.mem_of_getElem? (i := 214) rfl)) rfl
theorem im_X6_put : Cond.instanceMethod yX6_put ∈ tblG := inG (inT2 (List.mem_of_getElem? (i := 216) rfl)) rfl
theorem se_X6_put : Cond.selects yX6_put.cls yX6_put yX6_put ∈ tblG := inG (inT2 (List.mem_of_getElem? (i := 217) rfl)) rfl
abbrev mX6_put : MD := (yX6_put, cX6_put, 2, (some .boolean))
theorem cw_X6_put : Cond.code yX6_put cX6_put 2 (some .boolean) ∈ tblG := inG (inT2 (List.mem_of_getElem? (i := 218) rfl)) rfl
theorem im_X4_copyFrom : Cond.instanceMethod yX4_copyFrom ∈ tblG := inG (inT2 (List.mem_of_getElem? (i := 220) rfl)) rfl
theorem se_X4_copyFrom : Cond.selects yX4_copyFrom.cls yX4_copyFrom yX4_copyFrom ∈ tblG := inG (inT2 (List.mem_of_getElem? (i := 221) rfl)) rfl
abbrev mX4_copyFrom : MD := (yX4_copyFrom, cX4_copyFrom, 2, none)
theorem cw_X4_copyFrom : Cond.code yX4_copyFrom cX4_copyFrom 2 none ∈ tblG := inG (inT2 (List.mem_of_getElem? (i := 222) rfl)) rfl
theorem im_X4_goDays : Cond.instanceMethod yX4_goDays ∈ tblG := inG (inT2 (List.mem_of_getElem? (i := 224) rfl)) rfl
theorem se_X4_goDays : Cond.selects yX4_goDays.cls yX4_goDays yX4_goDays ∈ tblG := inG (inT2 (List.mem_of_getElem? (i := 225) rfl)) rfl
abbrev mX4_goDays : MD := (yX4_goDays, cX4_goDays, 4, none)
theorem cw_X4_goDays : Cond.code yX4_goDays cX4_goDays 4 none ∈ tblG := inG (inT2 (List.mem_of_getElem? (i := 226) rfl)) rfl
theorem im_X4_goDay : Cond.instanceMethod yX4_goDay ∈ tblG := inG (inT2 (List.mem_of_getElem? (i := 229) rfl)) rfl
theorem se_X4_goDay : Cond.selects yX4_goDay.cls yX4_goDay yX4_goDay ∈ tblG := inG (inT2 (List.mem_of_getElem? (i := 230) rfl)) rfl
abbrev mX4_goDay : MD := (yX4_goDay, cX4_goDay, 4, none)
theorem cw_X4_goDay : Cond.code yX4_goDay cX4_goDay 4 none ∈ tblG := inG (inT2 (List.mem_of_getElem? (i := 231) rfl)) rfl
theorem im_X4_bendBy : Cond.instanceMethod yX4_bendBy ∈ tblG := inG (inT2 (List.mem_of_getElem? (i := 233) rfl)) rfl
theorem se_X4_bendBy : Cond.selects yX4_bendBy.cls yX4_bendBy yX4_bendBy ∈ tblG := inG (inT2 (List.mem_of_getElem? (i := 234) rfl)) rfl
abbrev mX4_bendBy : MD := (yX4_bendBy, cX4_bendBy, 11, (some .int))
theorem cw_X4_bendBy : Cond.code yX4_bendBy cX4_bendBy 11 (some .int) ∈ tblG := inG (inT2 (List.mem_of_getElem? (i := 235) rfl)) rfl
theorem sm_J9_min_7cf53 : Cond.static yJ9_min_7cf53 ∈ tblG := inG (inT2 (List.mem_of_getElem? (i := 239) rfl)) rfl
abbrev mJ9_min_7cf53 : MD := (yJ9_min_7cf53, cJ9_min_7cf53, 2, (some .int))
theorem cw_J9_min_7cf53 : Cond.code yJ9_min_7cf53 cJ9_min_7cf53 2 (some .int) ∈ tblG := inG (inT3 (List.mem_of_getElem? (i := 0) rfl)) rfl
theorem im_X4_bentYard : Cond.instanceMethod yX4_bentYard ∈ tblG := inG (inT3 (List.mem_of_getElem? (i := 3) rfl)) rfl
abbrev mX4_bentYard : MD := (yX4_bentYard, cX4_bentYard, 5, (some .int))
theorem cw_X4_bentYard : Cond.code yX4_bentYard cX4_bentYard 5 (some .int) ∈ tblG := inG (inT3 (List.mem_of_getElem? (i := 4) rfl)) rfl
theorem sm_X4_toward : Cond.static yX4_toward ∈ tblG := inG (inT3 (List.mem_of_getElem? (i := 6) rfl)) rfl
abbrev mX4_toward : MD := (yX4_toward, cX4_toward, 3, (some .int))
theorem cw_X4_toward : Cond.code yX4_toward cX4_toward 3 (some .int) ∈ tblG := inG (inT3 (List.mem_of_getElem? (i := 7) rfl)) rfl
theorem sm_X4_awayFrom : Cond.static yX4_awayFrom ∈ tblG := inG (inT3 (List.mem_of_getElem? (i := 9) rfl)) rfl
abbrev mX4_awayFrom : MD := (yX4_awayFrom, cX4_awayFrom, 2, (some .int))
theorem cw_X4_awayFrom : Cond.code yX4_awayFrom cX4_awayFrom 2 (some .int) ∈ tblG := inG (inT3 (List.mem_of_getElem? (i := 10) rfl)) rfl
theorem im_X4_gapBefore : Cond.instanceMethod yX4_gapBefore ∈ tblG := inG (inT3 (List.mem_of_getElem? (i := 13) rfl)) rfl
abbrev mX4_gapBefore : MD := (yX4_gapBefore, cX4_gapBefore, 3, (some .int))
theorem cw_X4_gapBefore : Cond.code yX4_gapBefore cX4_gapBefore 3 (some .int) ∈ tblG := inG (inT3 (List.mem_of_getElem? (i := 14) rfl)) rfl
theorem sm_J9_abs_0f7a4 : Cond.static yJ9_abs_0f7a4 ∈ tblG := inG (inT3 (List.mem_of_getElem? (i := 16) rfl)) rfl
abbrev mJ9_abs_0f7a4 : MD := (yJ9_abs_0f7a4, cJ9_abs_0f7a4, 1, (some .int))
theorem cw_J9_abs_0f7a4 : Cond.code yJ9_abs_0f7a4 cJ9_abs_0f7a4 1 (some .int) ∈ tblG := inG (inT3 (List.mem_of_getElem? (i := 17) rfl)) rfl
theorem im_X4_goNight : Cond.instanceMethod yX4_goNight ∈ tblG := inG (inT3 (List.mem_of_getElem? (i := 19) rfl)) rfl
theorem se_X4_goNight : Cond.selects yX4_goNight.cls yX4_goNight yX4_goNight ∈ tblG := inG (inT3 (List.mem_of_getElem? (i := 20) rfl)) rfl
abbrev mX4_goNight : MD := (yX4_goNight, cX4_goNight, 3, (some .boolean))
theorem cw_X4_goNight : Cond.code yX4_goNight cX4_goNight 3 (some .boolean) ∈ tblG := inG (inT3 (List.mem_of_getElem? (i := 21) rfl)) rfl
theorem im_X7_walk : Cond.instanceMethod yX7_walk ∈ tblG := inG (inT3 (List.mem_of_getElem? (i := 23) rfl)) rfl
theorem se_X7_walk : Cond.selects yX7_walk.cls yX7_walk yX7_walk ∈ tblG := inG (inT3 (List.mem_of_getElem? (i := 24) rfl)) rfl
abbrev mX7_walk : MD := (yX7_walk, cX7_walk, 3, (some .int))
theorem cw_X7_walk : Cond.code yX7_walk cX7_walk 3 (some .int) ∈ tblG := inG (inT3 (List.mem_of_getElem? (i := 25) rfl)) rfl
theorem im_X4_takeWalk : Cond.instanceMethod yX4_takeWalk ∈ tblG := inG (inT3 (List.mem_of_getElem? (i := 27) rfl)) rfl
theorem se_X4_takeWalk : Cond.selects yX4_takeWalk.cls yX4_takeWalk yX4_takeWalk ∈ tblG := inG (inT3 (List.mem_of_getElem? (i := 28) rfl)) rfl
abbrev mX4_takeWalk : MD := (yX4_takeWalk, cX4_takeWalk, 5, (some .int))
theorem cw_X4_takeWalk : Cond.code yX4_takeWalk cX4_takeWalk 5 (some .int) ∈ tblG := inG (inT3 (List.mem_of_getElem? (i := 29) rfl)) rfl
theorem im_X7_shut : Cond.instanceMethod yX7_shut ∈ tblG := inG (inT3 (List.mem_of_getElem? (i := 31) rfl)) rfl
theorem se_X7_shut : Cond.selects yX7_shut.cls yX7_shut yX7_shut ∈ tblG := inG (inT3 (List.mem_of_getElem? (i := 32) rfl)) rfl
abbrev mX7_shut : MD := (yX7_shut, cX7_shut, 3, (some .int))
theorem cw_X7_shut : Cond.code yX7_shut cX7_shut 3 (some .int) ∈ tblG := inG (inT3 (List.mem_of_getElem? (i := 33) rfl)) rfl
theorem im_X4_turnWindow : Cond.instanceMethod yX4_turnWindow ∈ tblG := inG (inT3 (List.mem_of_getElem? (i := 35) rfl)) rfl
theorem se_X4_turnWindow : Cond.selects yX4_turnWindow.cls yX4_turnWindow yX4_turnWindow ∈ tblG := inG (inT3 (List.mem_of_getElem? (i := 36) rfl)) rfl
abbrev mX4_turnWindow : MD := (yX4_turnWindow, cX4_turnWindow, 2, none)
theorem cw_X4_turnWindow : Cond.code yX4_turnWindow cX4_turnWindow 2 none ∈ tblG := inG (inT3 (List.mem_of_getElem? (i := 37) rfl)) rfl
theorem im_X4_shutWindows : Cond.instanceMethod yX4_shutWindows ∈ tblG := inG (inT3 (List.mem_of_getElem? (i := 39) rfl)) rfl
theorem se_X4_shutWindows : Cond.selects yX4_shutWindows.cls yX4_shutWindows yX4_shutWindows ∈ tblG := inG (inT3 (List.mem_of_getElem? (i := 40) rfl)) rfl
abbrev mX4_shutWindows : MD := (yX4_shutWindows, cX4_shutWindows, 1, (some .int))
theorem cw_X4_shutWindows : Cond.code yX4_shutWindows cX4_shutWindows 1 (some .int) ∈ tblG := inG (inT3 (List.mem_of_getElem? (i := 41) rfl)) rfl
theorem sm_J6_bitCount_0f7a4 : Cond.static yJ6_bitCount_0f7a4 ∈ tblG := inG (inT3 (List.mem_of_getElem? (i := 43) rfl)) rfl
abbrev mJ6_bitCount_0f7a4 : MD := (yJ6_bitCount_0f7a4, cJ6_bitCount_0f7a4, 1, (some .int))
theorem cw_J6_bitCount_0f7a4 : Cond.code yJ6_bitCount_0f7a4 cJ6_bitCount_0f7a4 1 (some .int) ∈ tblG := inG (inT3 (List.mem_of_getElem? (i := 44) rfl)) rfl
theorem kc_RJ6_265 : Cond.constant RJ6 265 (1431655765) ∈ tblG := inG (inT3 (List.mem_of_getElem? (i := 45) rfl)) rfl
theorem kc_RJ6_266 : Cond.constant RJ6 266 (858993459) ∈ tblG := inG (inT3 (List.mem_of_getElem? (i := 46) rfl)) rfl
theorem kc_RJ6_267 : Cond.constant RJ6 267 (252645135) ∈ tblG := inG (inT3 (List.mem_of_getElem? (i := 47) rfl)) rfl
theorem im_X7_undo : Cond.instanceMethod yX7_undo ∈ tblG := inG (inT3 (List.mem_of_getElem? (i := 49) rfl)) rfl
theorem se_X7_undo : Cond.selects yX7_undo.cls yX7_undo yX7_undo ∈ tblG := inG (inT3 (List.mem_of_getElem? (i := 50) rfl)) rfl
abbrev mX7_undo : MD := (yX7_undo, cX7_undo, 1, (some .int))
theorem cw_X7_undo : Cond.code yX7_undo cX7_undo 1 (some .int) ∈ tblG := inG (inT3 (List.mem_of_getElem? (i := 51) rfl)) rfl
theorem im_X6_takeInto : Cond.instanceMethod yX6_takeInto ∈ tblG := inG (inT3 (List.mem_of_getElem? (i := 53) rfl)) rfl
theorem se_X6_takeInto : Cond.selects yX6_takeInto.cls yX6_takeInto yX6_takeInto ∈ tblG := inG (inT3 (List.mem_of_getElem? (i := 54) rfl)) rfl
abbrev mX6_takeInto : MD := (yX6_takeInto, cX6_takeInto, 2, (some .boolean))
theorem cw_X6_takeInto : Cond.code yX6_takeInto cX6_takeInto 2 (some .boolean) ∈ tblG := inG (inT3 (List.mem_of_getElem? (i := 55) rfl)) rfl
theorem im_X7_length : Cond.instanceMethod yX7_length ∈ tblG := inG (inT3 (List.mem_of_getElem? (i := 57) rfl)) rfl
theorem se_X7_length : Cond.selects yX7_length.cls yX7_length yX7_length ∈ tblG := inG (inT3 (List.mem_of_getElem? (i := 58) rfl)) rfl
abbrev mX7_length : MD := (yX7_length, cX7_length, 1, (some .int))
theorem cw_X7_length : Cond.code yX7_length cX7_length 1 (some .int) ∈ tblG := inG (inT3 (List.mem_of_getElem? (i := 59) rfl)) rfl
theorem im_X4_reckonLong : Cond.instanceMethod yX4_reckonLong ∈ tblG := inG (inT3 (List.mem_of_getElem? (i := 61) rfl)) rfl
theorem se_X4_reckonLong : Cond.selects yX4_reckonLong.cls yX4_reckonLong yX4_reckonLong ∈ tblG := inG (inT3 (List.mem_of_getElem? (i := 62) rfl)) rfl
abbrev mX4_reckonLong : MD := (yX4_reckonLong, cX4_reckonLong, 3, (some .int))
theorem cw_X4_reckonLong : Cond.code yX4_reckonLong cX4_reckonLong 3 (some .int) ∈ tblG := inG (inT3 (List.mem_of_getElem? (i := 63) rfl)) rfl
theorem im_X7_crooks : Cond.instanceMethod yX7_crooks ∈ tblG := inG (inT3 (List.mem_of_getElem? (i := 65) rfl)) rfl
theorem se_X7_crooks : Cond.selects yX7_crooks.cls yX7_crooks yX7_crooks ∈ tblG := inG (inT3 (List.mem_of_getElem? (i := 66) rfl)) rfl
abbrev mX7_crooks : MD := (yX7_crooks, cX7_crooks, 2, (some .int))
theorem cw_X7_crooks : Cond.code yX7_crooks cX7_crooks 2 (some .int) ∈ tblG := inG (inT3 (List.mem_of_getElem? (i := 67) rfl)) rfl
theorem im_X4_reckonCrooks : Cond.instanceMethod yX4_reckonCrooks ∈ tblG := inG (inT3 (List.mem_of_getElem? (i := 69) rfl)) rfl
theorem se_X4_reckonCrooks : Cond.selects yX4_reckonCrooks.cls yX4_reckonCrooks yX4_reckonCrooks ∈ tblG := inG (inT3 (List.mem_of_getElem? (i := 70) rfl)) rfl
abbrev mX4_reckonCrooks : MD := (yX4_reckonCrooks, cX4_reckonCrooks, 5, (some .int))
theorem cw_X4_reckonCrooks : Cond.code yX4_reckonCrooks cX4_reckonCrooks 5 (some .int) ∈ tblG := inG (inT3 (List.mem_of_getElem? (i := 71) rfl)) rfl
theorem sm_J6_compare_7cf53 : Cond.static yJ6_compare_7cf53 ∈ tblG := inG (inT3 (List.mem_of_getElem? (i := 73) rfl)) rfl
abbrev mJ6_compare_7cf53 : MD := (yJ6_compare_7cf53, cJ6_compare_7cf53, 2, (some .int))
theorem cw_J6_compare_7cf53 : Cond.code yJ6_compare_7cf53 cJ6_compare_7cf53 2 (some .int) ∈ tblG := inG (inT3 (List.mem_of_getElem? (i := 74) rfl)) rfl
theorem im_X4_reckonKnots : Cond.instanceMethod yX4_reckonKnots ∈ tblG := inG (inT3 (List.mem_of_getElem? (i := 76) rfl)) rfl
theorem se_X4_reckonKnots : Cond.selects yX4_reckonKnots.cls yX4_reckonKnots yX4_reckonKnots ∈ tblG := inG (inT3 (List.mem_of_getElem? (i := 77) rfl)) rfl
abbrev mX4_reckonKnots : MD := (yX4_reckonKnots, cX4_reckonKnots, 3, (some .int))
theorem cw_X4_reckonKnots : Cond.code yX4_reckonKnots cX4_reckonKnots 3 (some .int) ∈ tblG := inG (inT3 (List.mem_of_getElem? (i := 78) rfl)) rfl
theorem im_X7_milestone : Cond.instanceMethod yX7_milestone ∈ tblG := inG (inT3 (List.mem_of_getElem? (i := 80) rfl)) rfl
theorem se_X7_milestone : Cond.selects yX7_milestone.cls yX7_milestone yX7_milestone ∈ tblG := inG (inT3 (List.mem_of_getElem? (i := 81) rfl)) rfl
abbrev mX7_milestone : MD := (yX7_milestone, cX7_milestone, 2, (some .int))
theorem cw_X7_milestone : Cond.code yX7_milestone cX7_milestone 2 (some .int) ∈ tblG := inG (inT3 (List.mem_of_getElem? (i := 82) rfl)) rfl
theorem im_X4_postAhead : Cond.instanceMethod yX4_postAhead ∈ tblG := inG (inT3 (List.mem_of_getElem? (i := 84) rfl)) rfl
theorem se_X4_postAhead : Cond.selects yX4_postAhead.cls yX4_postAhead yX4_postAhead ∈ tblG := inG (inT3 (List.mem_of_getElem? (i := 85) rfl)) rfl
abbrev mX4_postAhead : MD := (yX4_postAhead, cX4_postAhead, 5, (some .int))
theorem cw_X4_postAhead : Cond.code yX4_postAhead cX4_postAhead 5 (some .int) ∈ tblG := inG (inT3 (List.mem_of_getElem? (i := 86) rfl)) rfl
theorem im_X7_behind : Cond.instanceMethod yX7_behind ∈ tblG := inG (inT3 (List.mem_of_getElem? (i := 88) rfl)) rfl
theorem se_X7_behind : Cond.selects yX7_behind.cls yX7_behind yX7_behind ∈ tblG := inG (inT3 (List.mem_of_getElem? (i := 89) rfl)) rfl
abbrev mX7_behind : MD := (yX7_behind, cX7_behind, 3, (some .int))
theorem cw_X7_behind : Cond.code yX7_behind cX7_behind 3 (some .int) ∈ tblG := inG (inT3 (List.mem_of_getElem? (i := 90) rfl)) rfl
theorem im_X7_door : Cond.instanceMethod yX7_door ∈ tblG := inG (inT3 (List.mem_of_getElem? (i := 93) rfl)) rfl
theorem se_X7_door : Cond.selects yX7_door.cls yX7_door yX7_door ∈ tblG := inG (inT3 (List.mem_of_getElem? (i := 94) rfl)) rfl
abbrev mX7_door : MD := (yX7_door, cX7_door, 5, (some .int))
theorem cw_X7_door : Cond.code yX7_door cX7_door 5 (some .int) ∈ tblG := inG (inT3 (List.mem_of_getElem? (i := 95) rfl)) rfl
theorem im_X5_fewestWalks : Cond.instanceMethod yX5_fewestWalks ∈ tblG := inG (inT3 (List.mem_of_getElem? (i := 98) rfl)) rfl
theorem se_X5_fewestWalks : Cond.selects yX5_fewestWalks.cls yX5_fewestWalks yX5_fewestWalks ∈ tblG := inG (inT3 (List.mem_of_getElem? (i := 99) rfl)) rfl
abbrev mX5_fewestWalks : MD := (yX5_fewestWalks, cX5_fewestWalks, 6, (some .int))
theorem cw_X5_fewestWalks : Cond.code yX5_fewestWalks cX5_fewestWalks 6 (some .int) ∈ tblG := inG (inT3 (List.mem_of_getElem? (i := 100) rfl)) rfl
theorem sm_X5_isReached : Cond.static yX5_isReached ∈ tblG := inG (inT3 (List.mem_of_getElem? (i := 103) rfl)) rfl
abbrev mX5_isReached : MD := (yX5_isReached, cX5_isReached, 7, (some .boolean))
theorem cw_X5_isReached : Cond.code yX5_isReached cX5_isReached 7 (some .boolean) ∈ tblG := inG (inT3 (List.mem_of_getElem? (i := 104) rfl)) rfl
theorem im_X5_isMet : Cond.instanceMethod yX5_isMet ∈ tblG := inG (inT3 (List.mem_of_getElem? (i := 107) rfl)) rfl
abbrev mX5_isMet : MD := (yX5_isMet, cX5_isMet, 2, (some .boolean))
theorem cw_X5_isMet : Cond.code yX5_isMet cX5_isMet 2 (some .boolean) ∈ tblG := inG (inT3 (List.mem_of_getElem? (i := 108) rfl)) rfl
theorem im_X5_isTooFar : Cond.instanceMethod yX5_isTooFar ∈ tblG := inG (inT3 (List.mem_of_getElem? (i := 112) rfl)) rfl
abbrev mX5_isTooFar : MD := (yX5_isTooFar, cX5_isTooFar, 4, (some .boolean))
theorem cw_X5_isTooFar : Cond.code yX5_isTooFar cX5_isTooFar 4 (some .boolean) ∈ tblG := inG (inT3 (List.mem_of_getElem? (i := 113) rfl)) rfl
theorem im_X7_mile : Cond.instanceMethod yX7_mile ∈ tblG := inG (inT3 (List.mem_of_getElem? (i := 117) rfl)) rfl
theorem se_X7_mile : Cond.selects yX7_mile.cls yX7_mile yX7_mile ∈ tblG := inG (inT3 (List.mem_of_getElem? (i := 118) rfl)) rfl
abbrev mX7_mile : MD := (yX7_mile, cX7_mile, 2, (some .int))
theorem cw_X7_mile : Cond.code yX7_mile cX7_mile 2 (some .int) ∈ tblG := inG (inT3 (List.mem_of_getElem? (i := 119) rfl)) rfl
theorem im_X7_window : Cond.instanceMethod yX7_window ∈ tblG := inG (inT3 (List.mem_of_getElem? (i := 121) rfl)) rfl
theorem se_X7_window : Cond.selects yX7_window.cls yX7_window yX7_window ∈ tblG := inG (inT3 (List.mem_of_getElem? (i := 122) rfl)) rfl
abbrev mX7_window : MD := (yX7_window, cX7_window, 7, (some .int))
theorem cw_X7_window : Cond.code yX7_window cX7_window 7 (some .int) ∈ tblG := inG (inT3 (List.mem_of_getElem? (i := 123) rfl)) rfl
theorem im_X7_longIfShut : Cond.instanceMethod yX7_longIfShut ∈ tblG := inG (inT3 (List.mem_of_getElem? (i := 126) rfl)) rfl
abbrev mX7_longIfShut : MD := (yX7_longIfShut, cX7_longIfShut, 3, (some .int))
theorem cw_X7_longIfShut : Cond.code yX7_longIfShut cX7_longIfShut 3 (some .int) ∈ tblG := inG (inT3 (List.mem_of_getElem? (i := 127) rfl)) rfl
theorem im_X7_bent : Cond.instanceMethod yX7_bent ∈ tblG := inG (inT3 (List.mem_of_getElem? (i := 129) rfl)) rfl
theorem se_X7_bent : Cond.selects yX7_bent.cls yX7_bent yX7_bent ∈ tblG := inG (inT3 (List.mem_of_getElem? (i := 130) rfl)) rfl
abbrev mX7_bent : MD := (yX7_bent, cX7_bent, 3, (some .int))
theorem cw_X7_bent : Cond.code yX7_bent cX7_bent 3 (some .int) ∈ tblG := inG (inT3 (List.mem_of_getElem? (i := 131) rfl)) rfl
theorem im_X0_add : Cond.instanceMethod yX0_add ∈ tblG := inG (inT3 (List.mem_of_getElem? (i := 133) rfl)) rfl
theorem se_X0_add : Cond.selects yX0_add.cls yX0_add yX0_add ∈ tblG := inG (inT3 (List.mem_of_getElem? (i := 134) rfl)) rfl
abbrev mX0_add : MD := (yX0_add, cX0_add, 4, (some .boolean))
theorem cw_X0_add : Cond.code yX0_add cX0_add 4 (some .boolean) ∈ tblG := inG (inT3 (List.mem_of_getElem? (i := 135) rfl)) rfl
theorem im_X7_found : Cond.instanceMethod yX7_found ∈ tblG := inG (inT3 (List.mem_of_getElem? (i := 137) rfl)) rfl
theorem se_X7_found : Cond.selects yX7_found.cls yX7_found yX7_found ∈ tblG := inG (inT3 (List.mem_of_getElem? (i := 138) rfl)) rfl
abbrev mX7_found : MD := (yX7_found, cX7_found, 4, (some .int))
theorem cw_X7_found : Cond.code yX7_found cX7_found 4 (some .int) ∈ tblG := inG (inT3 (List.mem_of_getElem? (i := 139) rfl)) rfl
theorem im_X7_forget : Cond.instanceMethod yX7_forget ∈ tblG := inG (inT3 (List.mem_of_getElem? (i := 141) rfl)) rfl
theorem se_X7_forget : Cond.selects yX7_forget.cls yX7_forget yX7_forget ∈ tblG := inG (inT3 (List.mem_of_getElem? (i := 142) rfl)) rfl
abbrev mX7_forget : MD := (yX7_forget, cX7_forget, 2, (some .int))
theorem cw_X7_forget : Cond.code yX7_forget cX7_forget 2 (some .int) ∈ tblG := inG (inT3 (List.mem_of_getElem? (i := 143) rfl)) rfl
theorem im_X7_looked : Cond.instanceMethod yX7_looked ∈ tblG := inG (inT3 (List.mem_of_getElem? (i := 145) rfl)) rfl
theorem se_X7_looked : Cond.selects yX7_looked.cls yX7_looked yX7_looked ∈ tblG := inG (inT3 (List.mem_of_getElem? (i := 146) rfl)) rfl
abbrev mX7_looked : MD := (yX7_looked, cX7_looked, 6, (some .int))
theorem cw_X7_looked : Cond.code yX7_looked cX7_looked 6 (some .int) ∈ tblG := inG (inT3 (List.mem_of_getElem? (i := 147) rfl)) rfl
theorem im_X7_fitsBent : Cond.instanceMethod yX7_fitsBent ∈ tblG := inG (inT3 (List.mem_of_getElem? (i := 150) rfl)) rfl
abbrev mX7_fitsBent : MD := (yX7_fitsBent, cX7_fitsBent, 3, (some .boolean))
theorem cw_X7_fitsBent : Cond.code yX7_fitsBent cX7_fitsBent 3 (some .boolean) ∈ tblG := inG (inT3 (List.mem_of_getElem? (i := 151) rfl)) rfl
theorem im_X0_holdOn : Cond.instanceMethod yX0_holdOn ∈ tblG := inG (inT3 (List.mem_of_getElem? (i := 154) rfl)) rfl
theorem se_X0_holdOn : Cond.selects yX0_holdOn.cls yX0_holdOn yX0_holdOn ∈ tblG := inG (inT3 (List.mem_of_getElem? (i := 155) rfl)) rfl
abbrev mX0_holdOn : MD := (yX0_holdOn, cX0_holdOn, 4, (some .boolean))
theorem cw_X0_holdOn : Cond.code yX0_holdOn cX0_holdOn 4 (some .boolean) ∈ tblG := inG (inT3 (List.mem_of_getElem? (i := 156) rfl)) rfl
theorem im_X7_fog : Cond.instanceMethod yX7_fog ∈ tblG := inG (inT3 (List.mem_of_getElem? (i := 158) rfl)) rfl
theorem se_X7_fog : Cond.selects yX7_fog.cls yX7_fog yX7_fog ∈ tblG := inG (inT3 (List.mem_of_getElem? (i := 159) rfl)) rfl
abbrev mX7_fog : MD := (yX7_fog, cX7_fog, 3, (some .int))
theorem cw_X7_fog : Cond.code yX7_fog cX7_fog 3 (some .int) ∈ tblG := inG (inT3 (List.mem_of_getElem? (i := 160) rfl)) rfl
theorem im_X7_fitsFound : Cond.instanceMethod yX7_fitsFound ∈ tblG := inG (inT3 (List.mem_of_getElem? (i := 163) rfl)) rfl
abbrev mX7_fitsFound : MD := (yX7_fitsFound, cX7_fitsFound, 3, (some .boolean))
theorem cw_X7_fitsFound : Cond.code yX7_fitsFound cX7_fitsFound 3 (some .boolean) ∈ tblG := inG (inT3 (List.mem_of_getElem? (i := 164) rfl)) rfl
theorem im_X7_parishes : Cond.instanceMethod yX7_parishes ∈ tblG := inG (inT3 (List.mem_of_getElem? (i := 167) rfl)) rfl
theorem se_X7_parishes : Cond.selects yX7_parishes.cls yX7_parishes yX7_parishes ∈ tblG := inG (inT3 (List.mem_of_getElem? (i := 168) rfl)) rfl
abbrev mX7_parishes : MD := (yX7_parishes, cX7_parishes, 10, (some .int))
theorem cw_X7_parishes : Cond.code yX7_parishes cX7_parishes 10 (some .int) ∈ tblG := inG (inT3 (List.mem_of_getElem? (i := 169) rfl)) rfl
theorem im_X7_reckonHeights : Cond.instanceMethod yX7_reckonHeights ∈ tblG := inG (inT3 (List.mem_of_getElem? (i := 172) rfl)) rfl
abbrev mX7_reckonHeights : MD := (yX7_reckonHeights, cX7_reckonHeights, 7, none)
theorem cw_X7_reckonHeights : Cond.code yX7_reckonHeights cX7_reckonHeights 7 none ∈ tblG := inG (inT3 (List.mem_of_getElem? (i := 173) rfl)) rfl
theorem im_X7_contentsBoth : Cond.instanceMethod yX7_contentsBoth ∈ tblG := inG (inT3 (List.mem_of_getElem? (i := 176) rfl)) rfl
abbrev mX7_contentsBoth : MD := (yX7_contentsBoth, cX7_contentsBoth, 6, (some .boolean))
theorem cw_X7_contentsBoth : Cond.code yX7_contentsBoth cX7_contentsBoth 6 (some .boolean) ∈ tblG := inG (inT3 (List.mem_of_getElem? (i := 177) rfl)) rfl
theorem im_X7_year : Cond.instanceMethod yX7_year ∈ tblG := inG (inT3 (List.mem_of_getElem? (i := 179) rfl)) rfl
theorem se_X7_year : Cond.selects yX7_year.cls yX7_year yX7_year ∈ tblG := inG (inT3 (List.mem_of_getElem? (i := 180) rfl)) rfl
abbrev mX7_year : MD := (yX7_year, cX7_year, 6, (some .int))
theorem cw_X7_year : Cond.code yX7_year cX7_year 6 (some .int) ∈ tblG := inG (inT3 (List.mem_of_getElem? (i := 181) rfl)) rfl
theorem sm_X7_drawOf : Cond.static yX7_drawOf ∈ tblG := inG (inT3 (List.mem_of_getElem? (i := 183) rfl)) rfl
abbrev mX7_drawOf : MD := (yX7_drawOf, cX7_drawOf, 4, (some .int))
theorem cw_X7_drawOf : Cond.code yX7_drawOf cX7_drawOf 4 (some .int) ∈ tblG := inG (inT3 (List.mem_of_getElem? (i := 184) rfl)) rfl
theorem kl_RX7_262 : Cond.constantLong RX7 262 (7919) ∈ tblG := inG (inT3 (List.mem_of_getElem? (i := 185) rfl)) rfl
theorem kl_RX7_264 : Cond.constantLong RX7 264 (6151) ∈ tblG := inG (inT3 (List.mem_of_getElem? (i := 186) rfl)) rfl
theorem kl_RX7_266 : Cond.constantLong RX7 266 (65521) ∈ tblG := inG (inT3 (List.mem_of_getElem? (i := 187) rfl)) rfl
theorem kl_RX7_268 : Cond.constantLong RX7 268 (8) ∈ tblG := inG (inT3 (List.mem_of_getElem? (i := 188) rfl)) rfl
theorem im_X7_walkByDraw : Cond.instanceMethod yX7_walkByDraw ∈ tblG := inG (inT3 (List.mem_of_getElem? (i := 191) rfl)) rfl
abbrev mX7_walkByDraw : MD := (yX7_walkByDraw, cX7_walkByDraw, 4, none)
theorem cw_X7_walkByDraw : Cond.code yX7_walkByDraw cX7_walkByDraw 4 none ∈ tblG := inG (inT3 (List.mem_of_getElem? (i := 192) rfl)) rfl
theorem im_X7_keep : Cond.instanceMethod yX7_keep ∈ tblG := inG (inT3 (List.mem_of_getElem? (i := 195) rfl)) rfl
theorem se_X7_keep : Cond.selects yX7_keep.cls yX7_keep yX7_keep ∈ tblG := inG (inT3 (List.mem_of_getElem? (i := 196) rfl)) rfl
abbrev mX7_keep : MD := (yX7_keep, cX7_keep, 1, (some .int))
theorem cw_X7_keep : Cond.code yX7_keep cX7_keep 1 (some .int) ∈ tblG := inG (inT3 (List.mem_of_getElem? (i := 197) rfl)) rfl
theorem im_X7_back : Cond.instanceMethod yX7_back ∈ tblG := inG (inT3 (List.mem_of_getElem? (i := 200) rfl)) rfl
theorem se_X7_back : Cond.selects yX7_back.cls yX7_back yX7_back ∈ tblG := inG (inT3 (List.mem_of_getElem? (i := 201) rfl)) rfl
abbrev mX7_back : MD := (yX7_back, cX7_back, 1, (some .int))
theorem cw_X7_back : Cond.code yX7_back cX7_back 1 (some .int) ∈ tblG := inG (inT3 (List.mem_of_getElem? (i := 202) rfl)) rfl
theorem im_X7_count : Cond.instanceMethod yX7_count ∈ tblG := inG (inT3 (List.mem_of_getElem? (i := 204) rfl)) rfl
theorem se_X7_count : Cond.selects yX7_count.cls yX7_count yX7_count ∈ tblG := inG (inT3 (List.mem_of_getElem? (i := 205) rfl)) rfl
abbrev mX7_count : MD := (yX7_count, cX7_count, 2, (some .int))
theorem cw_X7_count : Cond.code yX7_count cX7_count 2 (some .int) ∈ tblG := inG (inT3 (List.mem_of_getElem? (i := 206) rfl)) rfl
theorem im_X8_init : Cond.instanceMethod yX8_init ∈ tblG := inG (inT3 (List.mem_of_getElem? (i := 210) rfl)) rfl
abbrev mX8_init : MD := (yX8_init, cX8_init, 1, none)
theorem cw_X8_init : Cond.code yX8_init cX8_init 1 none ∈ tblG := inG (inT3 (List.mem_of_getElem? (i := 211) rfl)) rfl
theorem im_X8_begins : Cond.instanceMethod yX8_begins ∈ tblG := inG (inT3 (List.mem_of_getElem? (i := 215) rfl)) rfl
abbrev mX8_begins : MD := (yX8_begins, cX8_begins, 2, none)
theorem cw_X8_begins : Cond.code yX8_begins cX8_begins 2 none ∈ tblG := inG (inT3 (List.mem_of_getElem? (i := 216) rfl)) rfl
theorem im_X8_posts : Cond.instanceMethod yX8_posts ∈ tblG := inG (inT3 (List.mem_of_getElem? (i := 219) rfl)) rfl
abbrev mX8_posts : MD := (yX8_posts, cX8_posts, 4, (some .boolean))
theorem cw_X8_posts : Cond.code yX8_posts cX8_posts 4 (some .boolean) ∈ tblG := inG (inT3 (List.mem_of_getElem? (i := 220) rfl)) rfl
theorem sm_X8_in : Cond.static yX8_in ∈ tblG := inG (inT3 (List.mem_of_getElem? (i := 222) rfl)) rfl
abbrev mX8_in : MD := (yX8_in, cX8_in, 6, (some .boolean))
theorem cw_X8_in : Cond.code yX8_in cX8_in 6 (some .boolean) ∈ tblG := inG (inT3 (List.mem_of_getElem? (i := 223) rfl)) rfl
theorem im_X8_walkers : Cond.instanceMethod yX8_walkers ∈ tblG := inG (inT3 (List.mem_of_getElem? (i := 226) rfl)) rfl
abbrev mX8_walkers : MD := (yX8_walkers, cX8_walkers, 4, (some .boolean))
theorem cw_X8_walkers : Cond.code yX8_walkers cX8_walkers 4 (some .boolean) ∈ tblG := inG (inT3 (List.mem_of_getElem? (i := 227) rfl)) rfl
theorem im_X8_things : Cond.instanceMethod yX8_things ∈ tblG := inG (inT3 (List.mem_of_getElem? (i := 230) rfl)) rfl
abbrev mX8_things : MD := (yX8_things, cX8_things, 4, (some .boolean))
theorem cw_X8_things : Cond.code yX8_things cX8_things 4 (some .boolean) ∈ tblG := inG (inT3 (List.mem_of_getElem? (i := 231) rfl)) rfl
theorem im_X8_walks : Cond.instanceMethod yX8_walks ∈ tblG := inG (inT3 (List.mem_of_getElem? (i := 234) rfl)) rfl
abbrev mX8_walks : MD := (yX8_walks, cX8_walks, 5, (some .boolean))
theorem cw_X8_walks : Cond.code yX8_walks cX8_walks 5 (some .boolean) ∈ tblG := inG (inT3 (List.mem_of_getElem? (i := 235) rfl)) rfl
theorem im_X8_fogs : Cond.instanceMethod yX8_fogs ∈ tblG := inG (inT3 (List.mem_of_getElem? (i := 238) rfl)) rfl
abbrev mX8_fogs : MD := (yX8_fogs, cX8_fogs, 4, (some .boolean))
theorem cw_X8_fogs : Cond.code yX8_fogs cX8_fogs 4 (some .boolean) ∈ tblG := inG (inT3 (List.mem_of_getElem? (i := 239) rfl)) rfl
theorem im_X8_comes : Cond.instanceMethod yX8_comes ∈ tblG := inG (inT4 (List.mem_of_getElem? (i := 2) rfl)) rfl
abbrev mX8_comes : MD := (yX8_comes, cX8_comes, 2, none)
theorem cw_X8_comes : Cond.code yX8_comes cX8_comes 2 none ∈ tblG := inG (inT4 (List.mem_of_getElem? (i := 3) rfl)) rfl
theorem im_X8_write : Cond.instanceMethod yX8_write ∈ tblG := inG (inT4 (List.mem_of_getElem? (i := 63) rfl)) rfl
theorem se_X8_write : Cond.selects yX8_write.cls yX8_write yX8_write ∈ tblG := inG (inT4 (List.mem_of_getElem? (i := 64) rfl)) rfl
abbrev mX8_write : MD := (yX8_write, cX8_write, 2, (some .int))
theorem cw_X8_write : Cond.code yX8_write cX8_write 2 (some .int) ∈ tblG := inG (inT4 (List.mem_of_getElem? (i := 65) rfl)) rfl
theorem kl_RX8_86 : Cond.constantLong RX8 86 (32) ∈ tblG := inG (inT4 (List.mem_of_getElem? (i := 66) rfl)) rfl
theorem kl_RX8_88 : Cond.constantLong RX8 88 (126) ∈ tblG := inG (inT4 (List.mem_of_getElem? (i := 67) rfl)) rfl
theorem im_X8_wipe : Cond.instanceMethod yX8_wipe ∈ tblG := inG (inT4 (List.mem_of_getElem? (i := 69) rfl)) rfl
theorem se_X8_wipe : Cond.selects yX8_wipe.cls yX8_wipe yX8_wipe ∈ tblG := inG (inT4 (List.mem_of_getElem? (i := 70) rfl)) rfl
abbrev mX8_wipe : MD := (yX8_wipe, cX8_wipe, 2, (some .int))
theorem cw_X8_wipe : Cond.code yX8_wipe cX8_wipe 2 (some .int) ∈ tblG := inG (inT4 (List.mem_of_getElem? (i := 71) rfl)) rfl
theorem im_X8_fault : Cond.instanceMethod yX8_fault ∈ tblG := inG (inT4 (List.mem_of_getElem? (i := 73) rfl)) rfl
theorem se_X8_fault : Cond.selects yX8_fault.cls yX8_fault yX8_fault ∈ tblG := inG (inT4 (List.mem_of_getElem? (i := 74) rfl)) rfl
abbrev mX8_fault : MD := (yX8_fault, cX8_fault, 1, (some .int))
theorem cw_X8_fault : Cond.code yX8_fault cX8_fault 1 (some .int) ∈ tblG := inG (inT4 (List.mem_of_getElem? (i := 75) rfl)) rfl
theorem im_X8_faultOf : Cond.instanceMethod yX8_faultOf ∈ tblG := inG (inT4 (List.mem_of_getElem? (i := 78) rfl)) rfl
abbrev mX8_faultOf : MD := (yX8_faultOf, cX8_faultOf, 2, (some .int))
theorem cw_X8_faultOf : Cond.code yX8_faultOf cX8_faultOf 2 (some .int) ∈ tblG := inG (inT4 (List.mem_of_getElem? (i := 79) rfl)) rfl
theorem im_X8_takesItem : Cond.instanceMethod yX8_takesItem ∈ tblG := inG (inT4 (List.mem_of_getElem? (i := 82) rfl)) rfl
abbrev mX8_takesItem : MD := (yX8_takesItem, cX8_takesItem, 2, (some .boolean))
theorem cw_X8_takesItem : Cond.code yX8_takesItem cX8_takesItem 2 (some .boolean) ∈ tblG := inG (inT4 (List.mem_of_getElem? (i := 83) rfl)) rfl
theorem im_X8_letterAt : Cond.instanceMethod yX8_letterAt ∈ tblG := inG (inT4 (List.mem_of_getElem? (i := 86) rfl)) rfl
abbrev mX8_letterAt : MD := (yX8_letterAt, cX8_letterAt, 2, (some .int))
theorem cw_X8_letterAt : Cond.code yX8_letterAt cX8_letterAt 2 (some .int) ∈ tblG := inG (inT4 (List.mem_of_getElem? (i := 87) rfl)) rfl
theorem im_X8_takesMany : Cond.instanceMethod yX8_takesMany ∈ tblG := inG (inT4 (List.mem_of_getElem? (i := 90) rfl)) rfl
abbrev mX8_takesMany : MD := (yX8_takesMany, cX8_takesMany, 1, (some .boolean))
theorem cw_X8_takesMany : Cond.code yX8_takesMany cX8_takesMany 1 (some .boolean) ∈ tblG := inG (inT4 (List.mem_of_getElem? (i := 91) rfl)) rfl
theorem im_X8_takesNumbers : Cond.instanceMethod yX8_takesNumbers ∈ tblG := inG (inT4 (List.mem_of_getElem? (i := 94) rfl)) rfl
abbrev mX8_takesNumbers : MD := (yX8_takesNumbers, cX8_takesNumbers, 5, (some .boolean))
theorem cw_X8_takesNumbers : Cond.code yX8_takesNumbers cX8_takesNumbers 5 (some .boolean) ∈ tblG := inG (inT4 (List.mem_of_getElem? (i := 95) rfl)) rfl
theorem kl_RX8_100 : Cond.constantLong RX8 100 (48) ∈ tblG := inG (inT4 (List.mem_of_getElem? (i := 96) rfl)) rfl
theorem kl_RX8_102 : Cond.constantLong RX8 102 (57) ∈ tblG := inG (inT4 (List.mem_of_getElem? (i := 97) rfl)) rfl
theorem kl_RX8_112 : Cond.constantLong RX8 112 (5) ∈ tblG := inG (inT4 (List.mem_of_getElem? (i := 98) rfl)) rfl
theorem kl_RX8_114 : Cond.constantLong RX8 114 (16) ∈ tblG := inG (inT4 (List.mem_of_getElem? (i := 99) rfl)) rfl
theorem im_X8_lay : Cond.instanceMethod yX8_lay ∈ tblG := inG (inT4 (List.mem_of_getElem? (i := 101) rfl)) rfl
theorem se_X8_lay : Cond.selects yX8_lay.cls yX8_lay yX8_lay ∈ tblG := inG (inT4 (List.mem_of_getElem? (i := 102) rfl)) rfl
abbrev mX8_lay : MD := (yX8_lay, cX8_lay, 1, (some .int))
theorem cw_X8_lay : Cond.code yX8_lay cX8_lay 1 (some .int) ∈ tblG := inG (inT4 (List.mem_of_getElem? (i := 103) rfl)) rfl
theorem im_X8_post : Cond.instanceMethod yX8_post ∈ tblG := inG (inT4 (List.mem_of_getElem? (i := 105) rfl)) rfl
theorem se_X8_post : Cond.selects yX8_post.cls yX8_post yX8_post ∈ tblG := inG (inT4 (List.mem_of_getElem? (i := 106) rfl)) rfl
abbrev mX8_post : MD := (yX8_post, cX8_post, 2, (some .int))
theorem cw_X8_post : Cond.code yX8_post cX8_post 2 (some .int) ∈ tblG := inG (inT4 (List.mem_of_getElem? (i := 107) rfl)) rfl
theorem im_X8_isPost : Cond.instanceMethod yX8_isPost ∈ tblG := inG (inT4 (List.mem_of_getElem? (i := 110) rfl)) rfl
abbrev mX8_isPost : MD := (yX8_isPost, cX8_isPost, 2, (some .boolean))
theorem cw_X8_isPost : Cond.code yX8_isPost cX8_isPost 2 (some .boolean) ∈ tblG := inG (inT4 (List.mem_of_getElem? (i := 111) rfl)) rfl
theorem im_X8_walker : Cond.instanceMethod yX8_walker ∈ tblG := inG (inT4 (List.mem_of_getElem? (i := 113) rfl)) rfl
theorem se_X8_walker : Cond.selects yX8_walker.cls yX8_walker yX8_walker ∈ tblG := inG (inT4 (List.mem_of_getElem? (i := 114) rfl)) rfl
abbrev mX8_walker : MD := (yX8_walker, cX8_walker, 3, (some .int))
theorem cw_X8_walker : Cond.code yX8_walker cX8_walker 3 (some .int) ∈ tblG := inG (inT4 (List.mem_of_getElem? (i := 115) rfl)) rfl
theorem im_X8_isWalker : Cond.instanceMethod yX8_isWalker ∈ tblG := inG (inT4 (List.mem_of_getElem? (i := 118) rfl)) rfl
abbrev mX8_isWalker : MD := (yX8_isWalker, cX8_isWalker, 2, (some .boolean))
theorem cw_X8_isWalker : Cond.code yX8_isWalker cX8_isWalker 2 (some .boolean) ∈ tblG := inG (inT4 (List.mem_of_getElem? (i := 119) rfl)) rfl
theorem im_X8_thing : Cond.instanceMethod yX8_thing ∈ tblG := inG (inT4 (List.mem_of_getElem? (i := 121) rfl)) rfl
theorem se_X8_thing : Cond.selects yX8_thing.cls yX8_thing yX8_thing ∈ tblG := inG (inT4 (List.mem_of_getElem? (i := 122) rfl)) rfl
abbrev mX8_thing : MD := (yX8_thing, cX8_thing, 3, (some .int))
theorem cw_X8_thing : Cond.code yX8_thing cX8_thing 3 (some .int) ∈ tblG := inG (inT4 (List.mem_of_getElem? (i := 123) rfl)) rfl
theorem im_X8_isThing : Cond.instanceMethod yX8_isThing ∈ tblG := inG (inT4 (List.mem_of_getElem? (i := 126) rfl)) rfl
abbrev mX8_isThing : MD := (yX8_isThing, cX8_isThing, 2, (some .boolean))
theorem cw_X8_isThing : Cond.code yX8_isThing cX8_isThing 2 (some .boolean) ∈ tblG := inG (inT4 (List.mem_of_getElem? (i := 127) rfl)) rfl
theorem kl_RX8_138 : Cond.constantLong RX8 138 (2) ∈ tblG := inG (inT4 (List.mem_of_getElem? (i := 128) rfl)) rfl
theorem im_X8_day : Cond.instanceMethod yX8_day ∈ tblG := inG (inT4 (List.mem_of_getElem? (i := 130) rfl)) rfl
theorem se_X8_day : Cond.selects yX8_day.cls yX8_day yX8_day ∈ tblG := inG (inT4 (List.mem_of_getElem? (i := 131) rfl)) rfl
abbrev mX8_day : MD := (yX8_day, cX8_day, 3, (some .int))
theorem cw_X8_day : Cond.code yX8_day cX8_day 3 (some .int) ∈ tblG := inG (inT4 (List.mem_of_getElem? (i := 132) rfl)) rfl
theorem kl_RX8_140 : Cond.constantLong RX8 140 (199) ∈ tblG := inG (inT4 (List.mem_of_getElem? (i := 133) rfl)) rfl
theorem im_X8_walksOn : Cond.instanceMethod yX8_walksOn ∈ tblG := inG (inT4 (List.mem_of_getElem? (i := 136) rfl)) rfl
abbrev mX8_walksOn : MD := (yX8_walksOn, cX8_walksOn, 4, (some .int))
theorem cw_X8_walksOn : Cond.code yX8_walksOn cX8_walksOn 4 (some .int) ∈ tblG := inG (inT4 (List.mem_of_getElem? (i := 137) rfl)) rfl
theorem im_X8_isFog : Cond.instanceMethod yX8_isFog ∈ tblG := inG (inT4 (List.mem_of_getElem? (i := 140) rfl)) rfl
abbrev mX8_isFog : MD := (yX8_isFog, cX8_isFog, 4, (some .boolean))
theorem cw_X8_isFog : Cond.code yX8_isFog cX8_isFog 4 (some .boolean) ∈ tblG := inG (inT4 (List.mem_of_getElem? (i := 141) rfl)) rfl
theorem im_X8_pass : Cond.instanceMethod yX8_pass ∈ tblG := inG (inT4 (List.mem_of_getElem? (i := 143) rfl)) rfl
theorem se_X8_pass : Cond.selects yX8_pass.cls yX8_pass yX8_pass ∈ tblG := inG (inT4 (List.mem_of_getElem? (i := 144) rfl)) rfl
abbrev mX8_pass : MD := (yX8_pass, cX8_pass, 2, (some .int))
theorem cw_X8_pass : Cond.code yX8_pass cX8_pass 2 (some .int) ∈ tblG := inG (inT4 (List.mem_of_getElem? (i := 145) rfl)) rfl
theorem kl_RX8_178 : Cond.constantLong RX8 178 (20) ∈ tblG := inG (inT4 (List.mem_of_getElem? (i := 146) rfl)) rfl
theorem im_X8_minds : Cond.instanceMethod yX8_minds ∈ tblG := inG (inT4 (List.mem_of_getElem? (i := 149) rfl)) rfl
abbrev mX8_minds : MD := (yX8_minds, cX8_minds, 2, none)
theorem cw_X8_minds : Cond.code yX8_minds cX8_minds 2 none ∈ tblG := inG (inT4 (List.mem_of_getElem? (i := 150) rfl)) rfl
theorem im_X8_copy : Cond.instanceMethod yX8_copy ∈ tblG := inG (inT4 (List.mem_of_getElem? (i := 153) rfl)) rfl
abbrev mX8_copy : MD := (yX8_copy, cX8_copy, 4, none)
theorem cw_X8_copy : Cond.code yX8_copy cX8_copy 4 none ∈ tblG := inG (inT4 (List.mem_of_getElem? (i := 154) rfl)) rfl
theorem im_X8_passesMany : Cond.instanceMethod yX8_passesMany ∈ tblG := inG (inT4 (List.mem_of_getElem? (i := 157) rfl)) rfl
abbrev mX8_passesMany : MD := (yX8_passesMany, cX8_passesMany, 4, none)
theorem cw_X8_passesMany : Cond.code yX8_passesMany cX8_passesMany 4 none ∈ tblG := inG (inT4 (List.mem_of_getElem? (i := 158) rfl)) rfl
theorem im_X8_passes : Cond.instanceMethod yX8_passes ∈ tblG := inG (inT4 (List.mem_of_getElem? (i := 161) rfl)) rfl
abbrev mX8_passes : MD := (yX8_passes, cX8_passes, 6, none)
theorem cw_X8_passes : Cond.code yX8_passes cX8_passes 6 none ∈ tblG := inG (inT4 (List.mem_of_getElem? (i := 162) rfl)) rfl
theorem im_X8_bends : Cond.instanceMethod yX8_bends ∈ tblG := inG (inT4 (List.mem_of_getElem? (i := 165) rfl)) rfl
abbrev mX8_bends : MD := (yX8_bends, cX8_bends, 10, (some .int))
theorem cw_X8_bends : Cond.code yX8_bends cX8_bends 10 (some .int) ∈ tblG := inG (inT4 (List.mem_of_getElem? (i := 166) rfl)) rfl
theorem sm_X8_has : Cond.static yX8_has ∈ tblG := inG (inT4 (List.mem_of_getElem? (i := 168) rfl)) rfl
abbrev mX8_has : MD := (yX8_has, cX8_has, 2, (some .boolean))
theorem cw_X8_has : Cond.code yX8_has cX8_has 2 (some .boolean) ∈ tblG := inG (inT4 (List.mem_of_getElem? (i := 169) rfl)) rfl
theorem sm_X8_apart : Cond.static yX8_apart ∈ tblG := inG (inT4 (List.mem_of_getElem? (i := 171) rfl)) rfl
abbrev mX8_apart : MD := (yX8_apart, cX8_apart, 2, (some .int))
theorem cw_X8_apart : Cond.code yX8_apart cX8_apart 2 (some .int) ∈ tblG := inG (inT4 (List.mem_of_getElem? (i := 172) rfl)) rfl
theorem im_X8_goes : Cond.instanceMethod yX8_goes ∈ tblG := inG (inT4 (List.mem_of_getElem? (i := 175) rfl)) rfl
abbrev mX8_goes : MD := (yX8_goes, cX8_goes, 8, (some .int))
theorem cw_X8_goes : Cond.code yX8_goes cX8_goes 8 (some .int) ∈ tblG := inG (inT4 (List.mem_of_getElem? (i := 176) rfl)) rfl
theorem sm_X8_toward : Cond.static yX8_toward ∈ tblG := inG (inT4 (List.mem_of_getElem? (i := 178) rfl)) rfl
abbrev mX8_toward : MD := (yX8_toward, cX8_toward, 2, (some .int))
theorem cw_X8_toward : Cond.code yX8_toward cX8_toward 2 (some .int) ∈ tblG := inG (inT4 (List.mem_of_getElem? (i := 179) rfl)) rfl
theorem im_X8_straightens : Cond.instanceMethod yX8_straightens ∈ tblG := inG (inT4 (List.mem_of_getElem? (i := 182) rfl)) rfl
abbrev mX8_straightens : MD := (yX8_straightens, cX8_straightens, 3, none)
theorem cw_X8_straightens : Cond.code yX8_straightens cX8_straightens 3 none ∈ tblG := inG (inT4 (List.mem_of_getElem? (i := 183) rfl)) rfl
theorem im_X8_walk : Cond.instanceMethod yX8_walk ∈ tblG := inG (inT4 (List.mem_of_getElem? (i := 185) rfl)) rfl
theorem se_X8_walk : Cond.selects yX8_walk.cls yX8_walk yX8_walk ∈ tblG := inG (inT4 (List.mem_of_getElem? (i := 186) rfl)) rfl
abbrev mX8_walk : MD := (yX8_walk, cX8_walk, 3, (some .int))
theorem cw_X8_walk : Cond.code yX8_walk cX8_walk 3 (some .int) ∈ tblG := inG (inT4 (List.mem_of_getElem? (i := 187) rfl)) rfl
theorem im_X8_shut : Cond.instanceMethod yX8_shut ∈ tblG := inG (inT4 (List.mem_of_getElem? (i := 189) rfl)) rfl
theorem se_X8_shut : Cond.selects yX8_shut.cls yX8_shut yX8_shut ∈ tblG := inG (inT4 (List.mem_of_getElem? (i := 190) rfl)) rfl
abbrev mX8_shut : MD := (yX8_shut, cX8_shut, 3, (some .int))
theorem cw_X8_shut : Cond.code yX8_shut cX8_shut 3 (some .int) ∈ tblG := inG (inT4 (List.mem_of_getElem? (i := 191) rfl)) rfl
theorem sm_X8_ones : Cond.static yX8_ones ∈ tblG := inG (inT4 (List.mem_of_getElem? (i := 193) rfl)) rfl
abbrev mX8_ones : MD := (yX8_ones, cX8_ones, 3, (some .int))
theorem cw_X8_ones : Cond.code yX8_ones cX8_ones 3 (some .int) ∈ tblG := inG (inT4 (List.mem_of_getElem? (i := 194) rfl)) rfl
theorem im_X8_undo : Cond.instanceMethod yX8_undo ∈ tblG := inG (inT4 (List.mem_of_getElem? (i := 196) rfl)) rfl
theorem se_X8_undo : Cond.selects yX8_undo.cls yX8_undo yX8_undo ∈ tblG := inG (inT4 (List.mem_of_getElem? (i := 197) rfl)) rfl
abbrev mX8_undo : MD := (yX8_undo, cX8_undo, 1, (some .int))
theorem cw_X8_undo : Cond.code yX8_undo cX8_undo 1 (some .int) ∈ tblG := inG (inT4 (List.mem_of_getElem? (i := 198) rfl)) rfl
theorem im_X8_length : Cond.instanceMethod yX8_length ∈ tblG := inG (inT4 (List.mem_of_getElem? (i := 200) rfl)) rfl
theorem se_X8_length : Cond.selects yX8_length.cls yX8_length yX8_length ∈ tblG := inG (inT4 (List.mem_of_getElem? (i := 201) rfl)) rfl
abbrev mX8_length : MD := (yX8_length, cX8_length, 1, (some .int))
theorem cw_X8_length : Cond.code yX8_length cX8_length 1 (some .int) ∈ tblG := inG (inT4 (List.mem_of_getElem? (i := 202) rfl)) rfl
theorem im_X8_lengthOf : Cond.instanceMethod yX8_lengthOf ∈ tblG := inG (inT4 (List.mem_of_getElem? (i := 205) rfl)) rfl
abbrev mX8_lengthOf : MD := (yX8_lengthOf, cX8_lengthOf, 4, (some .int))
theorem cw_X8_lengthOf : Cond.code yX8_lengthOf cX8_lengthOf 4 (some .int) ∈ tblG := inG (inT4 (List.mem_of_getElem? (i := 206) rfl)) rfl
theorem im_X8_crooks : Cond.instanceMethod yX8_crooks ∈ tblG := inG (inT4 (List.mem_of_getElem? (i := 208) rfl)) rfl
theorem se_X8_crooks : Cond.selects yX8_crooks.cls yX8_crooks yX8_crooks ∈ tblG := inG (inT4 (List.mem_of_getElem? (i := 209) rfl)) rfl
abbrev mX8_crooks : MD := (yX8_crooks, cX8_crooks, 7, (some .int))
theorem cw_X8_crooks : Cond.code yX8_crooks cX8_crooks 7 (some .int) ∈ tblG := inG (inT4 (List.mem_of_getElem? (i := 210) rfl)) rfl
theorem im_X8_milestone : Cond.instanceMethod yX8_milestone ∈ tblG := inG (inT4 (List.mem_of_getElem? (i := 212) rfl)) rfl
theorem se_X8_milestone : Cond.selects yX8_milestone.cls yX8_milestone yX8_milestone ∈ tblG := inG (inT4 (List.mem_of_getElem? (i := 213) rfl)) rfl
abbrev mX8_milestone : MD := (yX8_milestone, cX8_milestone, 5, (some .int))
theorem cw_X8_milestone : Cond.code yX8_milestone cX8_milestone 5 (some .int) ∈ tblG := inG (inT4 (List.mem_of_getElem? (i := 214) rfl)) rfl
theorem kl_RX8_192 : Cond.constantLong RX8 192 (99) ∈ tblG := inG (inT4 (List.mem_of_getElem? (i := 215) rfl)) rfl
theorem im_X8_behind : Cond.instanceMethod yX8_behind ∈ tblG := inG (inT4 (List.mem_of_getElem? (i := 217) rfl)) rfl
theorem se_X8_behind : Cond.selects yX8_behind.cls yX8_behind yX8_behind ∈ tblG := inG (inT4 (List.mem_of_getElem? (i := 218) rfl)) rfl
abbrev mX8_behind : MD := (yX8_behind, cX8_behind, 3, (some .int))
theorem cw_X8_behind : Cond.code yX8_behind cX8_behind 3 (some .int) ∈ tblG := inG (inT4 (List.mem_of_getElem? (i := 219) rfl)) rfl
theorem kl_RX8_194 : Cond.constantLong RX8 194 (40) ∈ tblG := inG (inT4 (List.mem_of_getElem? (i := 220) rfl)) rfl
theorem im_X8_door : Cond.instanceMethod yX8_door ∈ tblG := inG (inT4 (List.mem_of_getElem? (i := 222) rfl)) rfl
theorem se_X8_door : Cond.selects yX8_door.cls yX8_door yX8_door ∈ tblG := inG (inT4 (List.mem_of_getElem? (i := 223) rfl)) rfl
abbrev mX8_door : MD := (yX8_door, cX8_door, 5, (some .int))
theorem cw_X8_door : Cond.code yX8_door cX8_door 5 (some .int) ∈ tblG := inG (inT4 (List.mem_of_getElem? (i := 224) rfl)) rfl
theorem sm_X8_isYard : Cond.static yX8_isYard ∈ tblG := inG (inT4 (List.mem_of_getElem? (i := 226) rfl)) rfl
abbrev mX8_isYard : MD := (yX8_isYard, cX8_isYard, 1, (some .boolean))
theorem cw_X8_isYard : Cond.code yX8_isYard cX8_isYard 1 (some .boolean) ∈ tblG := inG (inT4 (List.mem_of_getElem? (i := 227) rfl)) rfl
theorem kl_RX8_127 : Cond.constantLong RX8 127 (60) ∈ tblG := inG (inT4 (List.mem_of_getElem? (i := 228) rfl)) rfl
theorem kl_RX8_209 : Cond.constantLong RX8 209 (3) ∈ tblG := inG (inT4 (List.mem_of_getElem? (i := 229) rfl)) rfl
theorem im_X8_fewest : Cond.instanceMethod yX8_fewest ∈ tblG := inG (inT4 (List.mem_of_getElem? (i := 232) rfl)) rfl
abbrev mX8_fewest : MD := (yX8_fewest, cX8_fewest, 12, (some .int))
theorem cw_X8_fewest : Cond.code yX8_fewest cX8_fewest 12 (some .int) ∈ tblG := inG (inT4 (List.mem_of_getElem? (i := 233) rfl)) rfl
theorem im_X8_isSo : Cond.instanceMethod yX8_isSo ∈ tblG := inG (inT4 (List.mem_of_getElem? (i := 236) rfl)) rfl
abbrev mX8_isSo : MD := (yX8_isSo, cX8_isSo, 4, (some .boolean))
theorem cw_X8_isSo : Cond.code yX8_isSo cX8_isSo 4 (some .boolean) ∈ tblG := inG (inT4 (List.mem_of_getElem? (i := 237) rfl)) rfl
theorem im_X8_walksMany : Cond.instanceMethod yX8_walksMany ∈ tblG := inG (inT5 (List.mem_of_getElem? (i := 0) rfl)) rfl
abbrev mX8_walksMany : MD := (yX8_walksMany, cX8_walksMany, 1, (some .int))
theorem cw_X8_walksMany : Cond.code yX8_walksMany cX8_walksMany 1 (some .int) ∈ tblG := inG (inT5 (List.mem_of_getElem? (i := 1) rfl)) rfl
theorem im_X8_tries : Cond.instanceMethod yX8_tries ∈ tblG := inG (inT5 (List.mem_of_getElem? (i := 4) rfl)) rfl
abbrev mX8_tries : MD := (yX8_tries, cX8_tries, 4, none)
theorem cw_X8_tries : Cond.code yX8_tries cX8_tries 4 none ∈ tblG := inG (inT5 (List.mem_of_getElem? (i := 5) rfl)) rfl
theorem im_X8_mile : Cond.instanceMethod yX8_mile ∈ tblG := inG (inT5 (List.mem_of_getElem? (i := 7) rfl)) rfl
theorem se_X8_mile : Cond.selects yX8_mile.cls yX8_mile yX8_mile ∈ tblG := inG (inT5 (List.mem_of_getElem? (i := 8) rfl)) rfl
abbrev mX8_mile : MD := (yX8_mile, cX8_mile, 2, (some .int))
theorem cw_X8_mile : Cond.code yX8_mile cX8_mile 2 (some .int) ∈ tblG := inG (inT5 (List.mem_of_getElem? (i := 9) rfl)) rfl
theorem kl_RX8_214 : Cond.constantLong RX8 214 (999) ∈ tblG := inG (inT5 (List.mem_of_getElem? (i := 10) rfl)) rfl
theorem im_X8_window : Cond.instanceMethod yX8_window ∈ tblG := inG (inT5 (List.mem_of_getElem? (i := 12) rfl)) rfl
theorem se_X8_window : Cond.selects yX8_window.cls yX8_window yX8_window ∈ tblG := inG (inT5 (List.mem_of_getElem? (i := 13) rfl)) rfl
abbrev mX8_window : MD := (yX8_window, cX8_window, 7, (some .int))
theorem cw_X8_window : Cond.code yX8_window cX8_window 7 (some .int) ∈ tblG := inG (inT5 (List.mem_of_getElem? (i := 14) rfl)) rfl
theorem im_X8_bent : Cond.instanceMethod yX8_bent ∈ tblG := inG (inT5 (List.mem_of_getElem? (i := 16) rfl)) rfl
theorem se_X8_bent : Cond.selects yX8_bent.cls yX8_bent yX8_bent ∈ tblG := inG (inT5 (List.mem_of_getElem? (i := 17) rfl)) rfl
abbrev mX8_bent : MD := (yX8_bent, cX8_bent, 3, (some .int))
theorem cw_X8_bent : Cond.code yX8_bent cX8_bent 3 (some .int) ∈ tblG := inG (inT5 (List.mem_of_getElem? (i := 18) rfl)) rfl
theorem im_X8_found : Cond.instanceMethod yX8_found ∈ tblG := inG (inT5 (List.mem_of_getElem? (i := 20) rfl)) rfl
theorem se_X8_found : Cond.selects yX8_found.cls yX8_found yX8_found ∈ tblG := inG (inT5 (List.mem_of_getElem? (i := 21) rfl)) rfl
abbrev mX8_found : MD := (yX8_found, cX8_found, 4, (some .int))
theorem cw_X8_found : Cond.code yX8_found cX8_found 4 (some .int) ∈ tblG := inG (inT5 (List.mem_of_getElem? (i := 22) rfl)) rfl
theorem kl_RX8_216 : Cond.constantLong RX8 216 (10) ∈ tblG := inG (inT5 (List.mem_of_getElem? (i := 23) rfl)) rfl
theorem im_X8_forget : Cond.instanceMethod yX8_forget ∈ tblG := inG (inT5 (List.mem_of_getElem? (i := 25) rfl)) rfl
theorem se_X8_forget : Cond.selects yX8_forget.cls yX8_forget yX8_forget ∈ tblG := inG (inT5 (List.mem_of_getElem? (i := 26) rfl)) rfl
abbrev mX8_forget : MD := (yX8_forget, cX8_forget, 2, (some .int))
theorem cw_X8_forget : Cond.code yX8_forget cX8_forget 2 (some .int) ∈ tblG := inG (inT5 (List.mem_of_getElem? (i := 27) rfl)) rfl
theorem im_X8_looked : Cond.instanceMethod yX8_looked ∈ tblG := inG (inT5 (List.mem_of_getElem? (i := 29) rfl)) rfl
theorem se_X8_looked : Cond.selects yX8_looked.cls yX8_looked yX8_looked ∈ tblG := inG (inT5 (List.mem_of_getElem? (i := 30) rfl)) rfl
abbrev mX8_looked : MD := (yX8_looked, cX8_looked, 7, (some .int))
theorem cw_X8_looked : Cond.code yX8_looked cX8_looked 7 (some .int) ∈ tblG := inG (inT5 (List.mem_of_getElem? (i := 31) rfl)) rfl
theorem im_X8_fog : Cond.instanceMethod yX8_fog ∈ tblG := inG (inT5 (List.mem_of_getElem? (i := 33) rfl)) rfl
theorem se_X8_fog : Cond.selects yX8_fog.cls yX8_fog yX8_fog ∈ tblG := inG (inT5 (List.mem_of_getElem? (i := 34) rfl)) rfl
abbrev mX8_fog : MD := (yX8_fog, cX8_fog, 6, (some .int))
theorem cw_X8_fog : Cond.code yX8_fog cX8_fog 6 (some .int) ∈ tblG := inG (inT5 (List.mem_of_getElem? (i := 35) rfl)) rfl
theorem im_X8_parishes : Cond.instanceMethod yX8_parishes ∈ tblG := inG (inT5 (List.mem_of_getElem? (i := 37) rfl)) rfl
theorem se_X8_parishes : Cond.selects yX8_parishes.cls yX8_parishes yX8_parishes ∈ tblG := inG (inT5 (List.mem_of_getElem? (i := 38) rfl)) rfl
abbrev mX8_parishes : MD := (yX8_parishes, cX8_parishes, 13, (some .int))
theorem cw_X8_parishes : Cond.code yX8_parishes cX8_parishes 13 (some .int) ∈ tblG := inG (inT5 (List.mem_of_getElem? (i := 39) rfl)) rfl
theorem im_X8_year : Cond.instanceMethod yX8_year ∈ tblG := inG (inT5 (List.mem_of_getElem? (i := 41) rfl)) rfl
theorem se_X8_year : Cond.selects yX8_year.cls yX8_year yX8_year ∈ tblG := inG (inT5 (List.mem_of_getElem? (i := 42) rfl)) rfl
abbrev mX8_year : MD := (yX8_year, cX8_year, 11, (some .int))
theorem cw_X8_year : Cond.code yX8_year cX8_year 11 (some .int) ∈ tblG := inG (inT5 (List.mem_of_getElem? (i := 43) rfl)) rfl
theorem kl_RX8_218 : Cond.constantLong RX8 218 (9999) ∈ tblG := inG (inT5 (List.mem_of_getElem? (i := 44) rfl)) rfl
theorem kl_RX8_220 : Cond.constantLong RX8 220 (7919) ∈ tblG := inG (inT5 (List.mem_of_getElem? (i := 45) rfl)) rfl
theorem kl_RX8_222 : Cond.constantLong RX8 222 (6151) ∈ tblG := inG (inT5 (List.mem_of_getElem? (i := 46) rfl)) rfl
theorem kl_RX8_224 : Cond.constantLong RX8 224 (65521) ∈ tblG := inG (inT5 (List.mem_of_getElem? (i := 47) rfl)) rfl
theorem kl_RX8_226 : Cond.constantLong RX8 226 (8) ∈ tblG := inG (inT5 (List.mem_of_getElem? (i := 48) rfl)) rfl
theorem im_X8_keep : Cond.instanceMethod yX8_keep ∈ tblG := inG (inT5 (List.mem_of_getElem? (i := 50) rfl)) rfl
theorem se_X8_keep : Cond.selects yX8_keep.cls yX8_keep yX8_keep ∈ tblG := inG (inT5 (List.mem_of_getElem? (i := 51) rfl)) rfl
abbrev mX8_keep : MD := (yX8_keep, cX8_keep, 1, (some .int))
theorem cw_X8_keep : Cond.code yX8_keep cX8_keep 1 (some .int) ∈ tblG := inG (inT5 (List.mem_of_getElem? (i := 52) rfl)) rfl
theorem im_X8_back : Cond.instanceMethod yX8_back ∈ tblG := inG (inT5 (List.mem_of_getElem? (i := 54) rfl)) rfl
theorem se_X8_back : Cond.selects yX8_back.cls yX8_back yX8_back ∈ tblG := inG (inT5 (List.mem_of_getElem? (i := 55) rfl)) rfl
abbrev mX8_back : MD := (yX8_back, cX8_back, 1, (some .int))
theorem cw_X8_back : Cond.code yX8_back cX8_back 1 (some .int) ∈ tblG := inG (inT5 (List.mem_of_getElem? (i := 56) rfl)) rfl
theorem im_X8_count : Cond.instanceMethod yX8_count ∈ tblG := inG (inT5 (List.mem_of_getElem? (i := 58) rfl)) rfl
theorem se_X8_count : Cond.selects yX8_count.cls yX8_count yX8_count ∈ tblG := inG (inT5 (List.mem_of_getElem? (i := 59) rfl)) rfl
abbrev mX8_count : MD := (yX8_count, cX8_count, 2, (some .int))
theorem cw_X8_count : Cond.code yX8_count cX8_count 2 (some .int) ∈ tblG := inG (inT5 (List.mem_of_getElem? (i := 60) rfl)) rfl
theorem se_X3_readNumbers : Cond.selects yX3_readNumbers.cls yX3_readNumbers yX3_readNumbers ∈ tblG := inGp (List.mem_map.mpr ⟨(yX3_readNumbers, _), List.mem_of_getElem? (i := 0) rfl, rfl⟩) rfl
theorem se_X3_isFigure : Cond.selects yX3_isFigure.cls yX3_isFigure yX3_isFigure ∈ tblG := inGp (List.mem_map.mpr ⟨(yX3_isFigure, _), List.mem_of_getElem? (i := 1) rfl, rfl⟩) rfl
theorem se_X3_figureAt : Cond.selects yX3_figureAt.cls yX3_figureAt yX3_figureAt ∈ tblG := inGp (List.mem_map.mpr ⟨(yX3_figureAt, _), List.mem_of_getElem? (i := 2) rfl, rfl⟩) rfl
theorem se_X2_takePosts : Cond.selects yX2_takePosts.cls yX2_takePosts yX2_takePosts ∈ tblG := inGp (List.mem_map.mpr ⟨(yX2_takePosts, _), List.mem_of_getElem? (i := 3) rfl, rfl⟩) rfl
theorem se_X2_takeFirstYard : Cond.selects yX2_takeFirstYard.cls yX2_takeFirstYard yX2_takeFirstYard ∈ tblG := inGp (List.mem_map.mpr ⟨(yX2_takeFirstYard, _), List.mem_of_getElem? (i := 4) rfl, rfl⟩) rfl
theorem se_X2_takeWalker : Cond.selects yX2_takeWalker.cls yX2_takeWalker yX2_takeWalker ∈ tblG := inGp (List.mem_map.mpr ⟨(yX2_takeWalker, _), List.mem_of_getElem? (i := 5) rfl, rfl⟩) rfl
theorem se_X2_takeThing : Cond.selects yX2_takeThing.cls yX2_takeThing yX2_takeThing ∈ tblG := inGp (List.mem_map.mpr ⟨(yX2_takeThing, _), List.mem_of_getElem? (i := 6) rfl, rfl⟩) rfl
theorem se_X2_takeTold : Cond.selects yX2_takeTold.cls yX2_takeTold yX2_takeTold ∈ tblG := inGp (List.mem_map.mpr ⟨(yX2_takeTold, _), List.mem_of_getElem? (i := 7) rfl, rfl⟩) rfl
theorem se_X2_takeFog : Cond.selects yX2_takeFog.cls yX2_takeFog yX2_takeFog ∈ tblG := inGp (List.mem_map.mpr ⟨(yX2_takeFog, _), List.mem_of_getElem? (i := 8) rfl, rfl⟩) rfl
theorem se_X7_isPost : Cond.selects yX7_isPost.cls yX7_isPost yX7_isPost ∈ tblG := inGp (List.mem_map.mpr ⟨(yX7_isPost, _), List.mem_of_getElem? (i := 9) rfl, rfl⟩) rfl
theorem se_X7_isWalker : Cond.selects yX7_isWalker.cls yX7_isWalker yX7_isWalker ∈ tblG := inGp (List.mem_map.mpr ⟨(yX7_isWalker, _), List.mem_of_getElem? (i := 10) rfl, rfl⟩) rfl
theorem se_X7_isThing : Cond.selects yX7_isThing.cls yX7_isThing yX7_isThing ∈ tblG := inGp (List.mem_map.mpr ⟨(yX7_isThing, _), List.mem_of_getElem? (i := 11) rfl, rfl⟩) rfl
theorem se_X4_bentYard : Cond.selects yX4_bentYard.cls yX4_bentYard yX4_bentYard ∈ tblG := inGp (List.mem_map.mpr ⟨(yX4_bentYard, _), List.mem_of_getElem? (i := 12) rfl, rfl⟩) rfl
theorem se_X4_gapBefore : Cond.selects yX4_gapBefore.cls yX4_gapBefore yX4_gapBefore ∈ tblG := inGp (List.mem_map.mpr ⟨(yX4_gapBefore, _), List.mem_of_getElem? (i := 13) rfl, rfl⟩) rfl
theorem se_X5_isMet : Cond.selects yX5_isMet.cls yX5_isMet yX5_isMet ∈ tblG := inGp (List.mem_map.mpr ⟨(yX5_isMet, _), List.mem_of_getElem? (i := 14) rfl, rfl⟩) rfl
theorem se_X5_isTooFar : Cond.selects yX5_isTooFar.cls yX5_isTooFar yX5_isTooFar ∈ tblG := inGp (List.mem_map.mpr ⟨(yX5_isTooFar, _), List.mem_of_getElem? (i := 15) rfl, rfl⟩) rfl
theorem se_X7_longIfShut : Cond.selects yX7_longIfShut.cls yX7_longIfShut yX7_longIfShut ∈ tblG := inGp (List.mem_map.mpr ⟨(yX7_longIfShut, _), List.mem_of_getElem? (i := 16) rfl, rfl⟩) rfl
theorem se_X7_fitsBent : Cond.selects yX7_fitsBent.cls yX7_fitsBent yX7_fitsBent ∈ tblG := inGp (List.mem_map.mpr ⟨(yX7_fitsBent, _), List.mem_of_getElem? (i := 17) rfl, rfl⟩) rfl
theorem se_X7_fitsFound : Cond.selects yX7_fitsFound.cls yX7_fitsFound yX7_fitsFound ∈ tblG := inGp (List.mem_map.mpr ⟨(yX7_fitsFound, _), List.mem_of_getElem? (i := 18) rfl, rfl⟩) rfl
theorem se_X7_reckonHeights : Cond.selects yX7_reckonHeights.cls yX7_reckonHeights yX7_reckonHeights ∈ tblG := inGp (List.mem_map.mpr ⟨(yX7_reckonHeights, _), List.mem_of_getElem? (i := 19) rfl, rfl⟩) rfl
theorem se_X7_contentsBoth : Cond.selects yX7_contentsBoth.cls yX7_contentsBoth yX7_contentsBoth ∈ tblG := inGp (List.mem_map.mpr ⟨(yX7_contentsBoth, _), List.mem_of_getElem? (i := 20) rfl, rfl⟩) rfl
theorem se_X7_walkByDraw : Cond.selects yX7_walkByDraw.cls yX7_walkByDraw yX7_walkByDraw ∈ tblG := inGp (List.mem_map.mpr ⟨(yX7_walkByDraw, _), List.mem_of_getElem? (i := 21) rfl, rfl⟩) rfl
theorem se_X8_begins : Cond.selects yX8_begins.cls yX8_begins yX8_begins ∈ tblG := inGp (List.mem_map.mpr ⟨(yX8_begins, _), List.mem_of_getElem? (i := 22) rfl, rfl⟩) rfl
theorem se_X8_posts : Cond.selects yX8_posts.cls yX8_posts yX8_posts ∈ tblG := inGp (List.mem_map.mpr ⟨(yX8_posts, _), List.mem_of_getElem? (i := 23) rfl, rfl⟩) rfl
theorem se_X8_walkers : Cond.selects yX8_walkers.cls yX8_walkers yX8_walkers ∈ tblG := inGp (List.mem_map.mpr ⟨(yX8_walkers, _), List.mem_of_getElem? (i := 24) rfl, rfl⟩) rfl
theorem se_X8_things : Cond.selects yX8_things.cls yX8_things yX8_things ∈ tblG := inGp (List.mem_map.mpr ⟨(yX8_things, _), List.mem_of_getElem? (i := 25) rfl, rfl⟩) rfl
theorem se_X8_walks : Cond.selects yX8_walks.cls yX8_walks yX8_walks ∈ tblG := inGp (List.mem_map.mpr ⟨(yX8_walks, _), List.mem_of_getElem? (i := 26) rfl, rfl⟩) rfl
theorem se_X8_fogs : Cond.selects yX8_fogs.cls yX8_fogs yX8_fogs ∈ tblG := inGp (List.mem_map.mpr ⟨(yX8_fogs, _), List.mem_of_getElem? (i := 27) rfl, rfl⟩) rfl
theorem se_X8_comes : Cond.selects yX8_comes.cls yX8_comes yX8_comes ∈ tblG := inGp (List.mem_map.mpr ⟨(yX8_comes, _), List.mem_of_getElem? (i := 28) rfl, rfl⟩) rfl
theorem se_X8_faultOf : Cond.selects yX8_faultOf.cls yX8_faultOf yX8_faultOf ∈ tblG := inGp (List.mem_map.mpr ⟨(yX8_faultOf, _), List.mem_of_getElem? (i := 29) rfl, rfl⟩) rfl
theorem se_X8_takesItem : Cond.selects yX8_takesItem.cls yX8_takesItem yX8_takesItem ∈ tblG := inGp (List.mem_map.mpr ⟨(yX8_takesItem, _), List.mem_of_getElem? (i := 30) rfl, rfl⟩) rfl
theorem se_X8_letterAt : Cond.selects yX8_letterAt.cls yX8_letterAt yX8_letterAt ∈ tblG := inGp (List.mem_map.mpr ⟨(yX8_letterAt, _), List.mem_of_getElem? (i := 31) rfl, rfl⟩) rfl
theorem se_X8_takesMany : Cond.selects yX8_takesMany.cls yX8_takesMany yX8_takesMany ∈ tblG := inGp (List.mem_map.mpr ⟨(yX8_takesMany, _), List.mem_of_getElem? (i := 32) rfl, rfl⟩) rfl
theorem se_X8_takesNumbers : Cond.selects yX8_takesNumbers.cls yX8_takesNumbers yX8_takesNumbers ∈ tblG := inGp (List.mem_map.mpr ⟨(yX8_takesNumbers, _), List.mem_of_getElem? (i := 33) rfl, rfl⟩) rfl
theorem se_X8_isPost : Cond.selects yX8_isPost.cls yX8_isPost yX8_isPost ∈ tblG := inGp (List.mem_map.mpr ⟨(yX8_isPost, _), List.mem_of_getElem? (i := 34) rfl, rfl⟩) rfl
theorem se_X8_isWalker : Cond.selects yX8_isWalker.cls yX8_isWalker yX8_isWalker ∈ tblG := inGp (List.mem_map.mpr ⟨(yX8_isWalker, _), List.mem_of_getElem? (i := 35) rfl, rfl⟩) rfl
theorem se_X8_isThing : Cond.selects yX8_isThing.cls yX8_isThing yX8_isThing ∈ tblG := inGp (List.mem_map.mpr ⟨(yX8_isThing, _), List.mem_of_getElem? (i := 36) rfl, rfl⟩) rfl
theorem se_X8_walksOn : Cond.selects yX8_walksOn.cls yX8_walksOn yX8_walksOn ∈ tblG := inGp (List.mem_map.mpr ⟨(yX8_walksOn, _), List.mem_of_getElem? (i := 37) rfl, rfl⟩) rfl
theorem se_X8_isFog : Cond.selects yX8_isFog.cls yX8_isFog yX8_isFog ∈ tblG := inGp (List.mem_map.mpr ⟨(yX8_isFog, _), List.mem_of_getElem? (i := 38) rfl, rfl⟩) rfl
theorem se_X8_minds : Cond.selects yX8_minds.cls yX8_minds yX8_minds ∈ tblG := inGp (List.mem_map.mpr ⟨(yX8_minds, _), List.mem_of_getElem? (i := 39) rfl, rfl⟩) rfl
theorem se_X8_copy : Cond.selects yX8_copy.cls yX8_copy yX8_copy ∈ tblG := inGp (List.mem_map.mpr ⟨(yX8_copy, _), List.mem_of_getElem? (i := 40) rfl, rfl⟩) rfl
theorem se_X8_passesMany : Cond.selects yX8_passesMany.cls yX8_passesMany yX8_passesMany ∈ tblG := inGp (List.mem_map.mpr ⟨(yX8_passesMany, _), List.mem_of_getElem? (i := 41) rfl, rfl⟩) rfl
theorem se_X8_passes : Cond.selects yX8_passes.cls yX8_passes yX8_passes ∈ tblG := inGp (List.mem_map.mpr ⟨(yX8_passes, _), List.mem_of_getElem? (i := 42) rfl, rfl⟩) rfl
theorem se_X8_bends : Cond.selects yX8_bends.cls yX8_bends yX8_bends ∈ tblG := inGp (List.mem_map.mpr ⟨(yX8_bends, _), List.mem_of_getElem? (i := 43) rfl, rfl⟩) rfl
theorem se_X8_goes : Cond.selects yX8_goes.cls yX8_goes yX8_goes ∈ tblG := inGp (List.mem_map.mpr ⟨(yX8_goes, _), List.mem_of_getElem? (i := 44) rfl, rfl⟩) rfl
theorem se_X8_straightens : Cond.selects yX8_straightens.cls yX8_straightens yX8_straightens ∈ tblG := inGp (List.mem_map.mpr ⟨(yX8_straightens, _), List.mem_of_getElem? (i := 45) rfl, rfl⟩) rfl
theorem se_X8_lengthOf : Cond.selects yX8_lengthOf.cls yX8_lengthOf yX8_lengthOf ∈ tblG := inGp (List.mem_map.mpr ⟨(yX8_lengthOf, _), List.mem_of_getElem? (i := 46) rfl, rfl⟩) rfl
theorem se_X8_fewest : Cond.selects yX8_fewest.cls yX8_fewest yX8_fewest ∈ tblG := inGp (List.mem_map.mpr ⟨(yX8_fewest, _), List.mem_of_getElem? (i := 47) rfl, rfl⟩) rfl
theorem se_X8_isSo : Cond.selects yX8_isSo.cls yX8_isSo yX8_isSo ∈ tblG := inGp (List.mem_map.mpr ⟨(yX8_isSo, _), List.mem_of_getElem? (i := 48) rfl, rfl⟩) rfl
theorem se_X8_walksMany : Cond.selects yX8_walksMany.cls yX8_walksMany yX8_walksMany ∈ tblG := inGp (List.mem_map.mpr ⟨(yX8_walksMany, _), List.mem_of_getElem? (i := 49) rfl, rfl⟩) rfl
theorem se_X8_tries : Cond.selects yX8_tries.cls yX8_tries yX8_tries ∈ tblG := inGp (List.mem_map.mpr ⟨(yX8_tries, _), List.mem_of_getElem? (i := 50) rfl, rfl⟩) rfl
theorem ck_RL_7 : Cond.classLink RL 7 RX7 ∈ tblG := inG (inT1 (List.mem_of_getElem? (i := 17) rfl)) rfl
theorem nl_RL_7 : NL RL 7 7 := ⟨_, rfl, ck_RL_7, inG (inT1 (List.mem_of_getElem? (i := 18) rfl)) rfl, iz_RX7⟩
theorem si_RL_9 : SI RL 9 yX7_init cX7_init 2 0 := ⟨⟨cw_X7_init, iz_RX7, ⟨by decide, by decide, by decide +kernel⟩, Or.inl (inG (inT1 (List.mem_of_getElem? (i := 19) rfl)) rfl), by decide⟩, rfl, im_X7_init⟩
theorem ol_RX7_1 : Cond.methodLink RX7 1 Lib.objectInit ∈ tblG := inG (inT1 (List.mem_of_getElem? (i := 22) rfl)) rfl
theorem ck_RX7_7 : Cond.classLink RX7 7 RX1 ∈ tblG := inG (inT1 (List.mem_of_getElem? (i := 25) rfl)) rfl
theorem nl_RX7_7 : NL RX7 7 1 := ⟨_, rfl, ck_RX7_7, inG (inT1 (List.mem_of_getElem? (i := 26) rfl)) rfl, iz_RX1⟩
theorem si_RX7_9 : SI RX7 9 yX1_init cX1_init 1 0 := ⟨⟨cw_X1_init, iz_RX1, ⟨by decide, by decide, by decide +kernel⟩, Or.inr ⟨_, inN (inT1 (List.mem_of_getElem? (i := 27) rfl)) rfl⟩, by decide⟩, rfl, im_X1_init⟩
theorem ol_RX1_3 : Cond.methodLink RX1 3 Lib.objectInit ∈ tblG := inG (inT1 (List.mem_of_getElem? (i := 30) rfl)) rfl
theorem fl_RX1_9 : FL RX1 9 1 0 := ⟨_, rfl, by decide, Or.inl (inG (inT1 (List.mem_of_getElem? (i := 31) rfl)) rfl)⟩
theorem fn_RX1_9 : fin RX1 9 1 0 := fun r h => by cases h; exact ⟨rfl, rfl, inG (inT1 (List.mem_of_getElem? (i := 31) rfl)) rfl⟩
theorem fl_RX1_15 : FL RX1 15 1 1 := ⟨_, rfl, by decide, Or.inl (inG (inT1 (List.mem_of_getElem? (i := 32) rfl)) rfl)⟩
theorem fl_RX3_24 : FL RX3 24 1 1 := ⟨_, rfl, by decide, Or.inr ⟨_, inN (inT1 (List.mem_of_getElem? (i := 33) rfl)) rfl⟩⟩
theorem fl_RX7_112 : FL RX7 112 1 1 := ⟨_, rfl, by decide, Or.inr ⟨_, inN (inT1 (List.mem_of_getElem? (i := 34) rfl)) rfl⟩⟩
theorem ck_RX7_16 : Cond.classLink RX7 16 RX3 ∈ tblG := inG (inT1 (List.mem_of_getElem? (i := 41) rfl)) rfl
theorem nl_RX7_16 : NL RX7 16 3 := ⟨_, rfl, ck_RX7_16, inG (inT1 (List.mem_of_getElem? (i := 42) rfl)) rfl, iz_RX3⟩
theorem si_RX7_18 : SI RX7 18 yX3_init cX3_init 2 1 := ⟨⟨cw_X3_init, iz_RX3, ⟨by decide, by decide, by decide +kernel⟩, Or.inl (inG (inT1 (List.mem_of_getElem? (i := 43) rfl)) rfl), by decide⟩, rfl, im_X3_init⟩
theorem ol_RX3_3 : Cond.methodLink RX3 3 Lib.objectInit ∈ tblG := inG (inT1 (List.mem_of_getElem? (i := 46) rfl)) rfl
theorem fl_RX3_15 : FL RX3 15 3 0 := ⟨_, rfl, by decide, Or.inl (inG (inT1 (List.mem_of_getElem? (i := 47) rfl)) rfl)⟩
theorem fn_RX3_15 : fin RX3 15 3 0 := fun r h => by cases h; exact ⟨rfl, rfl, inG (inT1 (List.mem_of_getElem? (i := 47) rfl)) rfl⟩
theorem fl_RX3_11 : FL RX3 11 3 1 := ⟨_, rfl, by decide, Or.inl (inG (inT1 (List.mem_of_getElem? (i := 48) rfl)) rfl)⟩
theorem fn_RX3_11 : fin RX3 11 3 1 := fun r h => by cases h; exact ⟨rfl, rfl, inG (inT1 (List.mem_of_getElem? (i := 48) rfl)) rfl⟩
theorem ck_RX7_25 : Cond.classLink RX7 25 RX2 ∈ tblG := inG (inT1 (List.mem_of_getElem? (i := 54) rfl)) rfl
theorem nl_RX7_25 : NL RX7 25 2 := ⟨_, rfl, ck_RX7_25, inG (inT1 (List.mem_of_getElem? (i := 55) rfl)) rfl, iz_RX2⟩
theorem si_RX7_27 : SI RX7 27 yX2_init cX2_init 1 0 := ⟨⟨cw_X2_init, iz_RX2, ⟨by decide, by decide, by decide +kernel⟩, Or.inr ⟨_, inN (inT1 (List.mem_of_getElem? (i := 56) rfl)) rfl⟩, by decide⟩, rfl, im_X2_init⟩
theorem ol_RX2_3 : Cond.methodLink RX2 3 Lib.objectInit ∈ tblG := inG (inT1 (List.mem_of_getElem? (i := 59) rfl)) rfl
theorem fl_RX4_15 : FL RX4 15 2 0 := ⟨_, rfl, by decide, Or.inr ⟨_, inN (inT1 (List.mem_of_getElem? (i := 60) rfl)) rfl⟩⟩
theorem fl_RX2_36 : FL RX2 36 2 0 := ⟨_, rfl, by decide, Or.inl (inG (inT1 (List.mem_of_getElem? (i := 61) rfl)) rfl)⟩
theorem fl_RX7_118 : FL RX7 118 2 0 := ⟨_, rfl, by decide, Or.inr ⟨_, inN (inT1 (List.mem_of_getElem? (i := 62) rfl)) rfl⟩⟩
theorem fl_RX2_9 : FL RX2 9 2 1 := ⟨_, rfl, by decide, Or.inl (inG (inT1 (List.mem_of_getElem? (i := 63) rfl)) rfl)⟩
theorem fn_RX2_9 : fin RX2 9 2 1 := fun r h => by cases h; exact ⟨rfl, rfl, inG (inT1 (List.mem_of_getElem? (i := 63) rfl)) rfl⟩
theorem fl_RX4_22 : FL RX4 22 2 1 := ⟨_, rfl, by decide, Or.inr ⟨_, inN (inT1 (List.mem_of_getElem? (i := 64) rfl)) rfl⟩⟩
theorem fl_RX2_40 : FL RX2 40 2 2 := ⟨_, rfl, by decide, Or.inl (inG (inT1 (List.mem_of_getElem? (i := 65) rfl)) rfl)⟩
theorem fl_RX5_45 : FL RX5 45 2 2 := ⟨_, rfl, by decide, Or.inr ⟨_, inN (inT1 (List.mem_of_getElem? (i := 66) rfl)) rfl⟩⟩
theorem fl_RX7_216 : FL RX7 216 2 2 := ⟨_, rfl, by decide, Or.inr ⟨_, inN (inT1 (List.mem_of_getElem? (i := 67) rfl)) rfl⟩⟩
theorem fl_RX2_15 : FL RX2 15 2 3 := ⟨_, rfl, by decide, Or.inl (inG (inT1 (List.mem_of_getElem? (i := 68) rfl)) rfl)⟩
theorem fn_RX2_15 : fin RX2 15 2 3 := fun r h => by cases h; exact ⟨rfl, rfl, inG (inT1 (List.mem_of_getElem? (i := 68) rfl)) rfl⟩
theorem fl_RX7_130 : FL RX7 130 2 3 := ⟨_, rfl, by decide, Or.inr ⟨_, inN (inT1 (List.mem_of_getElem? (i := 69) rfl)) rfl⟩⟩
theorem fl_RX4_82 : FL RX4 82 2 3 := ⟨_, rfl, by decide, Or.inr ⟨_, inN (inT1 (List.mem_of_getElem? (i := 70) rfl)) rfl⟩⟩
theorem fl_RX2_18 : FL RX2 18 2 4 := ⟨_, rfl, by decide, Or.inl (inG (inT1 (List.mem_of_getElem? (i := 71) rfl)) rfl)⟩
theorem fn_RX2_18 : fin RX2 18 2 4 := fun r h => by cases h; exact ⟨rfl, rfl, inG (inT1 (List.mem_of_getElem? (i := 71) rfl)) rfl⟩
theorem fl_RX7_133 : FL RX7 133 2 4 := ⟨_, rfl, by decide, Or.inr ⟨_, inN (inT1 (List.mem_of_getElem? (i := 72) rfl)) rfl⟩⟩
theorem fl_RX4_85 : FL RX4 85 2 4 := ⟨_, rfl, by decide, Or.inr ⟨_, inN (inT1 (List.mem_of_getElem? (i := 73) rfl)) rfl⟩⟩
theorem fl_RX2_43 : FL RX2 43 2 5 := ⟨_, rfl, by decide, Or.inl (inG (inT1 (List.mem_of_getElem? (i := 74) rfl)) rfl)⟩
theorem fl_RX5_50 : FL RX5 50 2 5 := ⟨_, rfl, by decide, Or.inr ⟨_, inN (inT1 (List.mem_of_getElem? (i := 75) rfl)) rfl⟩⟩
theorem fl_RX7_206 : FL RX7 206 2 5 := ⟨_, rfl, by decide, Or.inr ⟨_, inN (inT1 (List.mem_of_getElem? (i := 76) rfl)) rfl⟩⟩
theorem fl_RX2_21 : FL RX2 21 2 6 := ⟨_, rfl, by decide, Or.inl (inG (inT1 (List.mem_of_getElem? (i := 77) rfl)) rfl)⟩
theorem fn_RX2_21 : fin RX2 21 2 6 := fun r h => by cases h; exact ⟨rfl, rfl, inG (inT1 (List.mem_of_getElem? (i := 77) rfl)) rfl⟩
theorem fl_RX7_142 : FL RX7 142 2 6 := ⟨_, rfl, by decide, Or.inr ⟨_, inN (inT1 (List.mem_of_getElem? (i := 78) rfl)) rfl⟩⟩
theorem fl_RX4_88 : FL RX4 88 2 6 := ⟨_, rfl, by decide, Or.inr ⟨_, inN (inT1 (List.mem_of_getElem? (i := 79) rfl)) rfl⟩⟩
theorem fl_RX2_24 : FL RX2 24 2 7 := ⟨_, rfl, by decide, Or.inl (inG (inT1 (List.mem_of_getElem? (i := 80) rfl)) rfl)⟩
theorem fn_RX2_24 : fin RX2 24 2 7 := fun r h => by cases h; exact ⟨rfl, rfl, inG (inT1 (List.mem_of_getElem? (i := 80) rfl)) rfl⟩
theorem fl_RX7_145 : FL RX7 145 2 7 := ⟨_, rfl, by decide, Or.inr ⟨_, inN (inT1 (List.mem_of_getElem? (i := 81) rfl)) rfl⟩⟩
theorem fl_RX4_100 : FL RX4 100 2 7 := ⟨_, rfl, by decide, Or.inr ⟨_, inN (inT1 (List.mem_of_getElem? (i := 82) rfl)) rfl⟩⟩
theorem fl_RX2_46 : FL RX2 46 2 8 := ⟨_, rfl, by decide, Or.inl (inG (inT1 (List.mem_of_getElem? (i := 83) rfl)) rfl)⟩
theorem fl_RX4_55 : FL RX4 55 2 8 := ⟨_, rfl, by decide, Or.inr ⟨_, inN (inT1 (List.mem_of_getElem? (i := 84) rfl)) rfl⟩⟩
theorem fl_RX2_27 : FL RX2 27 2 9 := ⟨_, rfl, by decide, Or.inl (inG (inT1 (List.mem_of_getElem? (i := 85) rfl)) rfl)⟩
theorem fn_RX2_27 : fin RX2 27 2 9 := fun r h => by cases h; exact ⟨rfl, rfl, inG (inT1 (List.mem_of_getElem? (i := 85) rfl)) rfl⟩
theorem fl_RX4_58 : FL RX4 58 2 9 := ⟨_, rfl, by decide, Or.inr ⟨_, inN (inT1 (List.mem_of_getElem? (i := 86) rfl)) rfl⟩⟩
theorem fl_RX2_30 : FL RX2 30 2 10 := ⟨_, rfl, by decide, Or.inl (inG (inT1 (List.mem_of_getElem? (i := 87) rfl)) rfl)⟩
theorem fn_RX2_30 : fin RX2 30 2 10 := fun r h => by cases h; exact ⟨rfl, rfl, inG (inT1 (List.mem_of_getElem? (i := 87) rfl)) rfl⟩
theorem fl_RX4_61 : FL RX4 61 2 10 := ⟨_, rfl, by decide, Or.inr ⟨_, inN (inT1 (List.mem_of_getElem? (i := 88) rfl)) rfl⟩⟩
theorem fl_RX2_33 : FL RX2 33 2 11 := ⟨_, rfl, by decide, Or.inl (inG (inT1 (List.mem_of_getElem? (i := 89) rfl)) rfl)⟩
theorem fn_RX2_33 : fin RX2 33 2 11 := fun r h => by cases h; exact ⟨rfl, rfl, inG (inT1 (List.mem_of_getElem? (i := 89) rfl)) rfl⟩
theorem fl_RX4_64 : FL RX4 64 2 11 := ⟨_, rfl, by decide, Or.inr ⟨_, inN (inT1 (List.mem_of_getElem? (i := 90) rfl)) rfl⟩⟩
theorem fl_RX2_49 : FL RX2 49 2 12 := ⟨_, rfl, by decide, Or.inl (inG (inT1 (List.mem_of_getElem? (i := 91) rfl)) rfl)⟩
theorem fl_RX2_52 : FL RX2 52 2 13 := ⟨_, rfl, by decide, Or.inl (inG (inT1 (List.mem_of_getElem? (i := 92) rfl)) rfl)⟩
theorem fl_RX2_55 : FL RX2 55 2 14 := ⟨_, rfl, by decide, Or.inl (inG (inT1 (List.mem_of_getElem? (i := 93) rfl)) rfl)⟩
theorem ck_RX7_35 : Cond.classLink RX7 35 RX4 ∈ tblG := inG (inT1 (List.mem_of_getElem? (i := 125) rfl)) rfl
theorem nl_RX7_35 : NL RX7 35 4 := ⟨_, rfl, ck_RX7_35, inG (inT1 (List.mem_of_getElem? (i := 126) rfl)) rfl, iz_RX4⟩
theorem si_RX7_37 : SI RX7 37 yX4_init cX4_init 1 0 := ⟨⟨cw_X4_init, iz_RX4, ⟨by decide, by decide, by decide +kernel⟩, Or.inr ⟨_, inN (inT1 (List.mem_of_getElem? (i := 127) rfl)) rfl⟩, by decide⟩, rfl, im_X4_init⟩
theorem ol_RX4_3 : Cond.methodLink RX4 3 Lib.objectInit ∈ tblG := inG (inT1 (List.mem_of_getElem? (i := 130) rfl)) rfl
theorem fl_RX4_21 : FL RX4 21 4 0 := ⟨_, rfl, by decide, Or.inl (inG (inT1 (List.mem_of_getElem? (i := 131) rfl)) rfl)⟩
theorem fl_RX5_64 : FL RX5 64 4 0 := ⟨_, rfl, by decide, Or.inr ⟨_, inN (inT1 (List.mem_of_getElem? (i := 132) rfl)) rfl⟩⟩
theorem fl_RX4_9 : FL RX4 9 4 1 := ⟨_, rfl, by decide, Or.inl (inG (inT1 (List.mem_of_getElem? (i := 133) rfl)) rfl)⟩
theorem fn_RX4_9 : fin RX4 9 4 1 := fun r h => by cases h; exact ⟨rfl, rfl, inG (inT1 (List.mem_of_getElem? (i := 133) rfl)) rfl⟩
theorem fl_RX0_25 : FL RX0 25 4 1 := ⟨_, rfl, by decide, Or.inr ⟨_, inN (inT1 (List.mem_of_getElem? (i := 134) rfl)) rfl⟩⟩
theorem fl_RX5_61 : FL RX5 61 4 1 := ⟨_, rfl, by decide, Or.inr ⟨_, inN (inT1 (List.mem_of_getElem? (i := 135) rfl)) rfl⟩⟩
theorem fl_RX7_124 : FL RX7 124 4 1 := ⟨_, rfl, by decide, Or.inr ⟨_, inN (inT1 (List.mem_of_getElem? (i := 136) rfl)) rfl⟩⟩
theorem fl_RX4_31 : FL RX4 31 4 2 := ⟨_, rfl, by decide, Or.inl (inG (inT1 (List.mem_of_getElem? (i := 137) rfl)) rfl)⟩
theorem fl_RX7_163 : FL RX7 163 4 2 := ⟨_, rfl, by decide, Or.inr ⟨_, inN (inT1 (List.mem_of_getElem? (i := 138) rfl)) rfl⟩⟩
theorem fl_RX4_34 : FL RX4 34 4 3 := ⟨_, rfl, by decide, Or.inl (inG (inT1 (List.mem_of_getElem? (i := 139) rfl)) rfl)⟩
theorem fl_RX4_37 : FL RX4 37 4 4 := ⟨_, rfl, by decide, Or.inl (inG (inT1 (List.mem_of_getElem? (i := 140) rfl)) rfl)⟩
theorem fl_RX7_246 : FL RX7 246 4 4 := ⟨_, rfl, by decide, Or.inr ⟨_, inN (inT1 (List.mem_of_getElem? (i := 141) rfl)) rfl⟩⟩
theorem ck_RX7_45 : Cond.classLink RX7 45 RX6 ∈ tblG := inG (inT1 (List.mem_of_getElem? (i := 153) rfl)) rfl
theorem nl_RX7_45 : NL RX7 45 6 := ⟨_, rfl, ck_RX7_45, inG (inT1 (List.mem_of_getElem? (i := 154) rfl)) rfl, iz_RX6⟩
theorem si_RX7_47 : SI RX7 47 yX6_init cX6_init 3 1 := ⟨⟨cw_X6_init, iz_RX6, ⟨by decide, by decide, by decide +kernel⟩, Or.inl (inG (inT1 (List.mem_of_getElem? (i := 155) rfl)) rfl), by decide⟩, rfl, im_X6_init⟩
theorem ol_RX6_1 : Cond.methodLink RX6 1 Lib.objectInit ∈ tblG := inG (inT1 (List.mem_of_getElem? (i := 158) rfl)) rfl
theorem ss_RX6_7 : SS RX6 7 mJ9_max_7cf53 2 := ⟨⟨cw_J9_max_7cf53, iz_RJ9, ⟨by decide, by decide, by decide +kernel⟩, Or.inl (inG (inT1 (List.mem_of_getElem? (i := 159) rfl)) rfl), by decide⟩, sm_J9_max_7cf53⟩
theorem ck_RX6_13 : Cond.classLink RX6 13 RX4 ∈ tblG := inG (inT1 (List.mem_of_getElem? (i := 162) rfl)) rfl
theorem nl_RX6_13 : NL RX6 13 4 := ⟨_, rfl, ck_RX6_13, inG (inT1 (List.mem_of_getElem? (i := 126) rfl)) rfl, iz_RX4⟩
theorem si_RX6_21 : SI RX6 21 yX4_init cX4_init 1 0 := ⟨⟨cw_X4_init, iz_RX4, ⟨by decide, by decide, by decide +kernel⟩, Or.inr ⟨_, inN (inT1 (List.mem_of_getElem? (i := 164) rfl)) rfl⟩, by decide⟩, rfl, im_X4_init⟩
theorem fl_RX6_15 : FL RX6 15 6 0 := ⟨_, rfl, by decide, Or.inl (inG (inT1 (List.mem_of_getElem? (i := 165) rfl)) rfl)⟩
theorem fn_RX6_15 : fin RX6 15 6 0 := fun r h => by cases h; exact ⟨rfl, rfl, inG (inT1 (List.mem_of_getElem? (i := 165) rfl)) rfl⟩
theorem fl_RX6_22 : FL RX6 22 6 1 := ⟨_, rfl, by decide, Or.inl (inG (inT1 (List.mem_of_getElem? (i := 166) rfl)) rfl)⟩
theorem fl_RX7_180 : FL RX7 180 6 1 := ⟨_, rfl, by decide, Or.inr ⟨_, inN (inT1 (List.mem_of_getElem? (i := 167) rfl)) rfl⟩⟩
theorem ck_RX7_57 : Cond.classLink RX7 57 RX0 ∈ tblG := inG (inT1 (List.mem_of_getElem? (i := 173) rfl)) rfl
theorem nl_RX7_57 : NL RX7 57 0 := ⟨_, rfl, ck_RX7_57, inG (inT1 (List.mem_of_getElem? (i := 174) rfl)) rfl, iz_RX0⟩
theorem si_RX7_59 : SI RX7 59 yX0_init cX0_init 1 0 := ⟨⟨cw_X0_init, iz_RX0, ⟨by decide, by decide, by decide +kernel⟩, Or.inr ⟨_, inN (inT1 (List.mem_of_getElem? (i := 175) rfl)) rfl⟩, by decide⟩, rfl, im_X0_init⟩
theorem ol_RX0_3 : Cond.methodLink RX0 3 Lib.objectInit ∈ tblG := inG (inT1 (List.mem_of_getElem? (i := 178) rfl)) rfl
theorem fl_RX0_9 : FL RX0 9 0 0 := ⟨_, rfl, by decide, Or.inl (inG (inT1 (List.mem_of_getElem? (i := 179) rfl)) rfl)⟩
theorem fn_RX0_9 : fin RX0 9 0 0 := fun r h => by cases h; exact ⟨rfl, rfl, inG (inT1 (List.mem_of_getElem? (i := 179) rfl)) rfl⟩
theorem fl_RX0_15 : FL RX0 15 0 1 := ⟨_, rfl, by decide, Or.inl (inG (inT1 (List.mem_of_getElem? (i := 180) rfl)) rfl)⟩
theorem fn_RX0_15 : fin RX0 15 0 1 := fun r h => by cases h; exact ⟨rfl, rfl, inG (inT1 (List.mem_of_getElem? (i := 180) rfl)) rfl⟩
theorem fl_RX0_18 : FL RX0 18 0 2 := ⟨_, rfl, by decide, Or.inl (inG (inT1 (List.mem_of_getElem? (i := 181) rfl)) rfl)⟩
theorem fn_RX0_18 : fin RX0 18 0 2 := fun r h => by cases h; exact ⟨rfl, rfl, inG (inT1 (List.mem_of_getElem? (i := 181) rfl)) rfl⟩
theorem fl_RX0_21 : FL RX0 21 0 3 := ⟨_, rfl, by decide, Or.inl (inG (inT1 (List.mem_of_getElem? (i := 182) rfl)) rfl)⟩
theorem fl_RX7_215 : FL RX7 215 0 3 := ⟨_, rfl, by decide, Or.inr ⟨_, inN (inT1 (List.mem_of_getElem? (i := 183) rfl)) rfl⟩⟩
theorem ck_RX7_67 : Cond.classLink RX7 67 RX5 ∈ tblG := inG (inT1 (List.mem_of_getElem? (i := 193) rfl)) rfl
theorem nl_RX7_67 : NL RX7 67 5 := ⟨_, rfl, ck_RX7_67, inG (inT1 (List.mem_of_getElem? (i := 194) rfl)) rfl, iz_RX5⟩
theorem si_RX7_69 : SI RX7 69 yX5_init cX5_init 2 0 := ⟨⟨cw_X5_init, iz_RX5, ⟨by decide, by decide, by decide +kernel⟩, Or.inl (inG (inT1 (List.mem_of_getElem? (i := 195) rfl)) rfl), by decide⟩, rfl, im_X5_init⟩
theorem ol_RX5_3 : Cond.methodLink RX5 3 Lib.objectInit ∈ tblG := inG (inT1 (List.mem_of_getElem? (i := 198) rfl)) rfl
theorem ck_RX5_9 : Cond.classLink RX5 9 RX4 ∈ tblG := inG (inT1 (List.mem_of_getElem? (i := 199) rfl)) rfl
theorem nl_RX5_9 : NL RX5 9 4 := ⟨_, rfl, ck_RX5_9, inG (inT1 (List.mem_of_getElem? (i := 126) rfl)) rfl, iz_RX4⟩
theorem si_RX5_21 : SI RX5 21 yX4_init cX4_init 1 0 := ⟨⟨cw_X4_init, iz_RX4, ⟨by decide, by decide, by decide +kernel⟩, Or.inr ⟨_, inN (inT1 (List.mem_of_getElem? (i := 200) rfl)) rfl⟩, by decide⟩, rfl, im_X4_init⟩
theorem fl_RX5_11 : FL RX5 11 5 0 := ⟨_, rfl, by decide, Or.inl (inG (inT1 (List.mem_of_getElem? (i := 201) rfl)) rfl)⟩
theorem fn_RX5_11 : fin RX5 11 5 0 := fun r h => by cases h; exact ⟨rfl, rfl, inG (inT1 (List.mem_of_getElem? (i := 201) rfl)) rfl⟩
theorem fl_RX5_17 : FL RX5 17 5 1 := ⟨_, rfl, by decide, Or.inl (inG (inT1 (List.mem_of_getElem? (i := 202) rfl)) rfl)⟩
theorem fn_RX5_17 : fin RX5 17 5 1 := fun r h => by cases h; exact ⟨rfl, rfl, inG (inT1 (List.mem_of_getElem? (i := 202) rfl)) rfl⟩
theorem fl_RX7_203 : FL RX7 203 5 1 := ⟨_, rfl, by decide, Or.inr ⟨_, inN (inT1 (List.mem_of_getElem? (i := 203) rfl)) rfl⟩⟩
theorem fl_RX5_22 : FL RX5 22 5 2 := ⟨_, rfl, by decide, Or.inl (inG (inT1 (List.mem_of_getElem? (i := 204) rfl)) rfl)⟩
theorem fl_RX5_26 : FL RX5 26 5 3 := ⟨_, rfl, by decide, Or.inl (inG (inT1 (List.mem_of_getElem? (i := 205) rfl)) rfl)⟩
theorem sb_RX7_83 : SB RX7 83 mJ0_length_8abf5 0 := ⟨cw_J0_length_8abf5, iz_RJ0, ⟨by decide, by decide, by decide +kernel⟩, Or.inl (inG (inT1 (List.mem_of_getElem? (i := 216) rfl)) rfl), by decide⟩
theorem sb_RJ0_335 : SB RJ0 335 mJ0_coder_7d493 0 := ⟨cw_J0_coder_7d493, iz_RJ0, ⟨by decide, by decide, by decide +kernel⟩, Or.inl (inG (inT1 (List.mem_of_getElem? (i := 220) rfl)) rfl), by decide⟩
theorem fw_RJ0_38 : Cond.fieldLink RJ0 38 "java/lang/String" "COMPACT_STRINGS" "Z" ∈ tblG := inG (inT1 (List.mem_of_getElem? (i := 224) rfl)) rfl
theorem sb_RX7_89 : SB RX7 89 mJ0_charAt_5068e 1 := ⟨cw_J0_charAt_5068e, iz_RJ0, ⟨by decide, by decide, by decide +kernel⟩, Or.inl (inG (inT1 (List.mem_of_getElem? (i := 226) rfl)) rfl), by decide⟩
theorem sb_RJ0_492 : SB RJ0 492 mJ0_isLatin1_aae02 0 := ⟨cw_J0_isLatin1_aae02, iz_RJ0, ⟨by decide, by decide, by decide +kernel⟩, Or.inl (inG (inT1 (List.mem_of_getElem? (i := 230) rfl)) rfl), by decide⟩
theorem ss_RJ0_495 : SS RJ0 495 mJ1_charAt_3b067 2 := ⟨⟨cw_J1_charAt_3b067, iz_RJ1, ⟨by decide, by decide, by decide +kernel⟩, Or.inl (inG (inT1 (List.mem_of_getElem? (i := 234) rfl)) rfl), by decide⟩, sm_J1_charAt_3b067⟩
theorem ss_RJ1_9 : SS RJ1 9 mJ0_checkIndex_df160 2 := ⟨⟨cw_J0_checkIndex_df160, iz_RJ0, ⟨by decide, by decide, by decide +kernel⟩, Or.inl (inG (inT1 (List.mem_of_getElem? (i := 237) rfl)) rfl), by decide⟩, sm_J0_checkIndex_df160⟩
theorem fw_RJ0_1053 : Cond.fieldLink RJ0 1053 "jdk/internal/util/Preconditions" "SIOOBE_FORMATTER" "Ljava/util/function/BiFunction;" ∈ tblG := inG (inT2 (List.mem_of_getElem? (i := 0) rfl)) rfl
theorem ss_RJ0_1059 : SS RJ0 1059 mJ3_checkIndex_8e157 3 := ⟨⟨cw_J3_checkIndex_8e157, iz_RJ3, ⟨by decide, by decide, by decide +kernel⟩, Or.inl (inG (inT2 (List.mem_of_getElem? (i := 2) rfl)) rfl), by decide⟩, sm_J3_checkIndex_8e157⟩
theorem ss_RJ0_498 : SS RJ0 498 mJ2_charAt_3b067 2 := ⟨⟨cw_J2_charAt_3b067, iz_RJ2, ⟨by decide, by decide, by decide +kernel⟩, Or.inl (inG (inT2 (List.mem_of_getElem? (i := 5) rfl)) rfl), by decide⟩, sm_J2_charAt_3b067⟩
theorem ss_RJ2_67 : SS RJ2 67 mJ2_checkIndex_2214a 2 := ⟨⟨cw_J2_checkIndex_2214a, iz_RJ2, ⟨by decide, by decide, by decide +kernel⟩, Or.inl (inG (inT2 (List.mem_of_getElem? (i := 8) rfl)) rfl), by decide⟩, sm_J2_checkIndex_2214a⟩
theorem ss_RJ2_48 : SS RJ2 48 mJ2_length_9d52b 1 := ⟨⟨cw_J2_length_9d52b, iz_RJ2, ⟨by decide, by decide, by decide +kernel⟩, Or.inl (inG (inT2 (List.mem_of_getElem? (i := 11) rfl)) rfl), by decide⟩, sm_J2_length_9d52b⟩
theorem ss_RJ2_414 : SS RJ2 414 mJ0_checkIndex_df160 2 := ⟨⟨cw_J0_checkIndex_df160, iz_RJ0, ⟨by decide, by decide, by decide +kernel⟩, Or.inl (inG (inT2 (List.mem_of_getElem? (i := 14) rfl)) rfl), by decide⟩, sm_J0_checkIndex_df160⟩
theorem ss_RJ2_71 : SS RJ2 71 mJ2_getChar_3b067 2 := ⟨⟨cw_J2_getChar_3b067, iz_RJ2, ⟨by decide, by decide, by decide +kernel⟩, Or.inl (inG (inT2 (List.mem_of_getElem? (i := 15) rfl)) rfl), by decide⟩, sm_J2_getChar_3b067⟩
theorem fw_RJ2_44 : Cond.fieldLink RJ2 44 "java/lang/StringUTF16" "$assertionsDisabled" "Z" ∈ tblG := inG (inT2 (List.mem_of_getElem? (i := 18) rfl)) rfl
theorem fw_RJ2_59 : Cond.fieldLink RJ2 59 "java/lang/StringUTF16" "HI_BYTE_SHIFT" "I" ∈ tblG := inG (inT2 (List.mem_of_getElem? (i := 20) rfl)) rfl
theorem fw_RJ2_63 : Cond.fieldLink RJ2 63 "java/lang/StringUTF16" "LO_BYTE_SHIFT" "I" ∈ tblG := inG (inT2 (List.mem_of_getElem? (i := 22) rfl)) rfl
theorem sv_RX7_93 : SV RX7 93 mX1_add 1 1 := ⟨⟨cw_X1_add, iz_RX1, ⟨by decide, by decide, by decide +kernel⟩, Or.inl (inG (inT2 (List.mem_of_getElem? (i := 24) rfl)) rfl), by decide⟩, ⟨_, rfl, rfl⟩, im_X1_add, se_X1_add⟩
theorem sv_RX7_97 : SV RX7 97 mX3_readInto 3 1 := ⟨⟨cw_X3_readInto, iz_RX3, ⟨by decide, by decide, by decide +kernel⟩, Or.inl (inG (inT2 (List.mem_of_getElem? (i := 28) rfl)) rfl), by decide⟩, ⟨_, rfl, rfl⟩, im_X3_readInto, se_X3_readInto⟩
theorem sv_RX3_19 : SV RX3 19 mX2_clear 2 0 := ⟨⟨cw_X2_clear, iz_RX2, ⟨by decide, by decide, by decide +kernel⟩, Or.inl (inG (inT2 (List.mem_of_getElem? (i := 32) rfl)) rfl), by decide⟩, ⟨_, rfl, rfl⟩, im_X2_clear, se_X2_clear⟩
theorem sv_RX3_30 : SV RX3 30 mX1_signAt 1 1 := ⟨⟨cw_X1_signAt, iz_RX1, ⟨by decide, by decide, by decide +kernel⟩, Or.inl (inG (inT2 (List.mem_of_getElem? (i := 36) rfl)) rfl), by decide⟩, ⟨_, rfl, rfl⟩, im_X1_signAt, se_X1_signAt⟩
theorem ss_RX3_34 : SS RX3 34 mX3_numbersBehind 1 := ⟨⟨cw_X3_numbersBehind, iz_RX3, ⟨by decide, by decide, by decide +kernel⟩, Or.inl (inG (inT2 (List.mem_of_getElem? (i := 40) rfl)) rfl), by decide⟩, sm_X3_numbersBehind⟩
theorem sv_RX3_37 : SV RX3 37 mX3_readNumbers 3 2 := ⟨⟨cw_X3_readNumbers, iz_RX3, ⟨by decide, by decide, by decide +kernel⟩, Or.inl (inG (inT2 (List.mem_of_getElem? (i := 43) rfl)) rfl), by decide⟩, ⟨_, rfl, rfl⟩, im_X3_readNumbers, se_X3_readNumbers⟩
theorem sv_RX3_45 : SV RX3 45 mX3_isFigure 3 1 := ⟨⟨cw_X3_isFigure, iz_RX3, ⟨by decide, by decide, by decide +kernel⟩, Or.inl (inG (inT2 (List.mem_of_getElem? (i := 47) rfl)) rfl), by decide⟩, ⟨_, rfl, rfl⟩, im_X3_isFigure, se_X3_isFigure⟩
theorem ss_RX3_52 : SS RX3 52 mX7_within 3 := ⟨⟨cw_X7_within, iz_RX7, ⟨by decide, by decide, by decide +kernel⟩, Or.inr ⟨_, inN (inT2 (List.mem_of_getElem? (i := 51) rfl)) rfl⟩, by decide⟩, sm_X7_within⟩
theorem sv_RX3_49 : SV RX3 49 mX3_figureAt 3 1 := ⟨⟨cw_X3_figureAt, iz_RX3, ⟨by decide, by decide, by decide +kernel⟩, Or.inl (inG (inT2 (List.mem_of_getElem? (i := 54) rfl)) rfl), by decide⟩, ⟨_, rfl, rfl⟩, im_X3_figureAt, se_X3_figureAt⟩
theorem sv_RX3_41 : SV RX3 41 mX2_takeItem 2 4 := ⟨⟨cw_X2_takeItem, iz_RX2, ⟨by decide, by decide, by decide +kernel⟩, Or.inl (inG (inT2 (List.mem_of_getElem? (i := 58) rfl)) rfl), by decide⟩, ⟨_, rfl, rfl⟩, im_X2_takeItem, se_X2_takeItem⟩
theorem sv_RX2_59 : SV RX2 59 mX2_takePosts 2 1 := ⟨⟨cw_X2_takePosts, iz_RX2, ⟨by decide, by decide, by decide +kernel⟩, Or.inl (inG (inT2 (List.mem_of_getElem? (i := 62) rfl)) rfl), by decide⟩, ⟨_, rfl, rfl⟩, im_X2_takePosts, se_X2_takePosts⟩
theorem ss_RX2_80 : SS RX2 80 mX7_within 3 := ⟨⟨cw_X7_within, iz_RX7, ⟨by decide, by decide, by decide +kernel⟩, Or.inr ⟨_, inN (inT2 (List.mem_of_getElem? (i := 66) rfl)) rfl⟩, by decide⟩, sm_X7_within⟩
theorem sv_RX2_63 : SV RX2 63 mX2_takeFirstYard 2 2 := ⟨⟨cw_X2_takeFirstYard, iz_RX2, ⟨by decide, by decide, by decide +kernel⟩, Or.inl (inG (inT2 (List.mem_of_getElem? (i := 67) rfl)) rfl), by decide⟩, ⟨_, rfl, rfl⟩, im_X2_takeFirstYard, se_X2_takeFirstYard⟩
theorem ss_RX2_83 : SS RX2 83 mX7_isYard 1 := ⟨⟨cw_X7_isYard, iz_RX7, ⟨by decide, by decide, by decide +kernel⟩, Or.inr ⟨_, inN (inT2 (List.mem_of_getElem? (i := 71) rfl)) rfl⟩, by decide⟩, sm_X7_isYard⟩
theorem ss_RX7_108 : SS RX7 108 mX7_within 3 := ⟨⟨cw_X7_within, iz_RX7, ⟨by decide, by decide, by decide +kernel⟩, Or.inl (inG (inT2 (List.mem_of_getElem? (i := 74) rfl)) rfl), by decide⟩, sm_X7_within⟩
theorem sv_RX2_67 : SV RX2 67 mX2_takeWalker 2 2 := ⟨⟨cw_X2_takeWalker, iz_RX2, ⟨by decide, by decide, by decide +kernel⟩, Or.inl (inG (inT2 (List.mem_of_getElem? (i := 75) rfl)) rfl), by decide⟩, ⟨_, rfl, rfl⟩, im_X2_takeWalker, se_X2_takeWalker⟩
theorem sv_RX2_70 : SV RX2 70 mX2_takeThing 2 2 := ⟨⟨cw_X2_takeThing, iz_RX2, ⟨by decide, by decide, by decide +kernel⟩, Or.inl (inG (inT2 (List.mem_of_getElem? (i := 79) rfl)) rfl), by decide⟩, ⟨_, rfl, rfl⟩, im_X2_takeThing, se_X2_takeThing⟩
theorem sv_RX2_73 : SV RX2 73 mX2_takeTold 2 3 := ⟨⟨cw_X2_takeTold, iz_RX2, ⟨by decide, by decide, by decide +kernel⟩, Or.inl (inG (inT2 (List.mem_of_getElem? (i := 83) rfl)) rfl), by decide⟩, ⟨_, rfl, rfl⟩, im_X2_takeTold, se_X2_takeTold⟩
theorem sv_RX2_77 : SV RX2 77 mX2_takeFog 2 2 := ⟨⟨cw_X2_takeFog, iz_RX2, ⟨by decide, by decide, by decide +kernel⟩, Or.inl (inG (inT2 (List.mem_of_getElem? (i := 87) rfl)) rfl), by decide⟩, ⟨_, rfl, rfl⟩, im_X2_takeFog, se_X2_takeFog⟩
theorem sv_RX7_101 : SV RX7 101 mX1_clear 1 0 := ⟨⟨cw_X1_clear, iz_RX1, ⟨by decide, by decide, by decide +kernel⟩, Or.inl (inG (inT2 (List.mem_of_getElem? (i := 91) rfl)) rfl), by decide⟩, ⟨_, rfl, rfl⟩, im_X1_clear, se_X1_clear⟩
theorem sv_RX7_104 : SV RX7 104 mX4_startOn 4 1 := ⟨⟨cw_X4_startOn, iz_RX4, ⟨by decide, by decide, by decide +kernel⟩, Or.inl (inG (inT2 (List.mem_of_getElem? (i := 95) rfl)) rfl), by decide⟩, ⟨_, rfl, rfl⟩, im_X4_startOn, se_X4_startOn⟩
theorem al_RX4_25 : Cond.methodLink RX4 25 arraycopyName ∈ tblG := inG (inT2 (List.mem_of_getElem? (i := 99) rfl)) rfl
theorem fl_RX7_10 : FL RX7 10 7 0 := ⟨_, rfl, by decide, Or.inl (inG (inT2 (List.mem_of_getElem? (i := 102) rfl)) rfl)⟩
theorem fn_RX7_10 : fin RX7 10 7 0 := fun r h => by cases h; exact ⟨rfl, rfl, inG (inT2 (List.mem_of_getElem? (i := 102) rfl)) rfl⟩
theorem fl_RX7_21 : FL RX7 21 7 1 := ⟨_, rfl, by decide, Or.inl (inG (inT2 (List.mem_of_getElem? (i := 103) rfl)) rfl)⟩
theorem fn_RX7_21 : fin RX7 21 7 1 := fun r h => by cases h; exact ⟨rfl, rfl, inG (inT2 (List.mem_of_getElem? (i := 103) rfl)) rfl⟩
theorem fl_RX7_28 : FL RX7 28 7 2 := ⟨_, rfl, by decide, Or.inl (inG (inT2 (List.mem_of_getElem? (i := 104) rfl)) rfl)⟩
theorem fn_RX7_28 : fin RX7 28 7 2 := fun r h => by cases h; exact ⟨rfl, rfl, inG (inT2 (List.mem_of_getElem? (i := 104) rfl)) rfl⟩
theorem fl_RX7_32 : FL RX7 32 7 3 := ⟨_, rfl, by decide, Or.inl (inG (inT2 (List.mem_of_getElem? (i := 105) rfl)) rfl)⟩
theorem fn_RX7_32 : fin RX7 32 7 3 := fun r h => by cases h; exact ⟨rfl, rfl, inG (inT2 (List.mem_of_getElem? (i := 105) rfl)) rfl⟩
theorem fl_RX7_38 : FL RX7 38 7 4 := ⟨_, rfl, by decide, Or.inl (inG (inT2 (List.mem_of_getElem? (i := 106) rfl)) rfl)⟩
theorem fn_RX7_38 : fin RX7 38 7 4 := fun r h => by cases h; exact ⟨rfl, rfl, inG (inT2 (List.mem_of_getElem? (i := 106) rfl)) rfl⟩
theorem fl_RX7_42 : FL RX7 42 7 5 := ⟨_, rfl, by decide, Or.inl (inG (inT2 (List.mem_of_getElem? (i := 107) rfl)) rfl)⟩
theorem fn_RX7_42 : fin RX7 42 7 5 := fun r h => by cases h; exact ⟨rfl, rfl, inG (inT2 (List.mem_of_getElem? (i := 107) rfl)) rfl⟩
theorem fl_RX7_50 : FL RX7 50 7 6 := ⟨_, rfl, by decide, Or.inl (inG (inT2 (List.mem_of_getElem? (i := 108) rfl)) rfl)⟩
theorem fn_RX7_50 : fin RX7 50 7 6 := fun r h => by cases h; exact ⟨rfl, rfl, inG (inT2 (List.mem_of_getElem? (i := 108) rfl)) rfl⟩
theorem fl_RX7_54 : FL RX7 54 7 7 := ⟨_, rfl, by decide, Or.inl (inG (inT2 (List.mem_of_getElem? (i := 109) rfl)) rfl)⟩
theorem fn_RX7_54 : fin RX7 54 7 7 := fun r h => by cases h; exact ⟨rfl, rfl, inG (inT2 (List.mem_of_getElem? (i := 109) rfl)) rfl⟩
theorem fl_RX7_60 : FL RX7 60 7 8 := ⟨_, rfl, by decide, Or.inl (inG (inT2 (List.mem_of_getElem? (i := 110) rfl)) rfl)⟩
theorem fn_RX7_60 : fin RX7 60 7 8 := fun r h => by cases h; exact ⟨rfl, rfl, inG (inT2 (List.mem_of_getElem? (i := 110) rfl)) rfl⟩
theorem fl_RX7_64 : FL RX7 64 7 9 := ⟨_, rfl, by decide, Or.inl (inG (inT2 (List.mem_of_getElem? (i := 111) rfl)) rfl)⟩
theorem fn_RX7_64 : fin RX7 64 7 9 := fun r h => by cases h; exact ⟨rfl, rfl, inG (inT2 (List.mem_of_getElem? (i := 111) rfl)) rfl⟩
theorem fl_RX7_70 : FL RX7 70 7 10 := ⟨_, rfl, by decide, Or.inl (inG (inT2 (List.mem_of_getElem? (i := 112) rfl)) rfl)⟩
theorem fn_RX7_70 : fin RX7 70 7 10 := fun r h => by cases h; exact ⟨rfl, rfl, inG (inT2 (List.mem_of_getElem? (i := 112) rfl)) rfl⟩
theorem fl_RX7_74 : FL RX7 74 7 11 := ⟨_, rfl, by decide, Or.inl (inG (inT2 (List.mem_of_getElem? (i := 113) rfl)) rfl)⟩
theorem fn_RX7_74 : fin RX7 74 7 11 := fun r h => by cases h; exact ⟨rfl, rfl, inG (inT2 (List.mem_of_getElem? (i := 113) rfl)) rfl⟩
theorem fl_RX7_78 : FL RX7 78 7 12 := ⟨_, rfl, by decide, Or.inl (inG (inT2 (List.mem_of_getElem? (i := 114) rfl)) rfl)⟩
theorem fn_RX7_78 : fin RX7 78 7 12 := fun r h => by cases h; exact ⟨rfl, rfl, inG (inT2 (List.mem_of_getElem? (i := 114) rfl)) rfl⟩
theorem sv_RL_13 : SV RL 13 mX7_write 7 1 := ⟨⟨cw_X7_write, iz_RX7, ⟨by decide, by decide, by decide +kernel⟩, Or.inl (inG (inT2 (List.mem_of_getElem? (i := 143) rfl)) rfl), by decide⟩, ⟨_, rfl, rfl⟩, im_X7_write, se_X7_write⟩
theorem sv_RL_18 : SV RL 18 mX7_wipe 7 0 := ⟨⟨cw_X7_wipe, iz_RX7, ⟨by decide, by decide, by decide +kernel⟩, Or.inl (inG (inT2 (List.mem_of_getElem? (i := 147) rfl)) rfl), by decide⟩, ⟨_, rfl, rfl⟩, im_X7_wipe, se_X7_wipe⟩
theorem sv_RL_23 : SV RL 23 mX7_fault 7 0 := ⟨⟨cw_X7_fault, iz_RX7, ⟨by decide, by decide, by decide +kernel⟩, Or.inl (inG (inT2 (List.mem_of_getElem? (i := 151) rfl)) rfl), by decide⟩, ⟨_, rfl, rfl⟩, im_X7_fault, se_X7_fault⟩
theorem sv_RL_27 : SV RL 27 mX7_lay 7 0 := ⟨⟨cw_X7_lay, iz_RX7, ⟨by decide, by decide, by decide +kernel⟩, Or.inl (inG (inT2 (List.mem_of_getElem? (i := 155) rfl)) rfl), by decide⟩, ⟨_, rfl, rfl⟩, im_X7_lay, se_X7_lay⟩
theorem sv_RX7_116 : SV RX7 116 mX6_clear 6 0 := ⟨⟨cw_X6_clear, iz_RX6, ⟨by decide, by decide, by decide +kernel⟩, Or.inl (inG (inT2 (List.mem_of_getElem? (i := 159) rfl)) rfl), by decide⟩, ⟨_, rfl, rfl⟩, im_X6_clear, se_X6_clear⟩
theorem sv_RX7_117 : SV RX7 117 mX0_clear 0 0 := ⟨⟨cw_X0_clear, iz_RX0, ⟨by decide, by decide, by decide +kernel⟩, Or.inl (inG (inT2 (List.mem_of_getElem? (i := 163) rfl)) rfl), by decide⟩, ⟨_, rfl, rfl⟩, im_X0_clear, se_X0_clear⟩
theorem sv_RL_31 : SV RL 31 mX7_post 7 1 := ⟨⟨cw_X7_post, iz_RX7, ⟨by decide, by decide, by decide +kernel⟩, Or.inl (inG (inT2 (List.mem_of_getElem? (i := 167) rfl)) rfl), by decide⟩, ⟨_, rfl, rfl⟩, im_X7_post, se_X7_post⟩
theorem sv_RX7_121 : SV RX7 121 mX7_isPost 7 1 := ⟨⟨cw_X7_isPost, iz_RX7, ⟨by decide, by decide, by decide +kernel⟩, Or.inl (inG (inT2 (List.mem_of_getElem? (i := 171) rfl)) rfl), by decide⟩, ⟨_, rfl, rfl⟩, im_X7_isPost, se_X7_isPost⟩
theorem sv_RL_35 : SV RL 35 mX7_walker 7 2 := ⟨⟨cw_X7_walker, iz_RX7, ⟨by decide, by decide, by decide +kernel⟩, Or.inl (inG (inT2 (List.mem_of_getElem? (i := 175) rfl)) rfl), by decide⟩, ⟨_, rfl, rfl⟩, im_X7_walker, se_X7_walker⟩
theorem sv_RX7_127 : SV RX7 127 mX7_isWalker 7 1 := ⟨⟨cw_X7_isWalker, iz_RX7, ⟨by decide, by decide, by decide +kernel⟩, Or.inl (inG (inT2 (List.mem_of_getElem? (i := 179) rfl)) rfl), by decide⟩, ⟨_, rfl, rfl⟩, im_X7_isWalker, se_X7_isWalker⟩
theorem sv_RL_40 : SV RL 40 mX7_thing 7 2 := ⟨⟨cw_X7_thing, iz_RX7, ⟨by decide, by decide, by decide +kernel⟩, Or.inl (inG (inT2 (List.mem_of_getElem? (i := 183) rfl)) rfl), by decide⟩, ⟨_, rfl, rfl⟩, im_X7_thing, se_X7_thing⟩
theorem sv_RX7_136 : SV RX7 136 mX7_isThing 7 1 := ⟨⟨cw_X7_isThing, iz_RX7, ⟨by decide, by decide, by decide +kernel⟩, Or.inl (inG (inT2 (List.mem_of_getElem? (i := 187) rfl)) rfl), by decide⟩, ⟨_, rfl, rfl⟩, im_X7_isThing, se_X7_isThing⟩
theorem sv_RX7_139 : SV RX7 139 mX4_isShut 4 1 := ⟨⟨cw_X4_isShut, iz_RX4, ⟨by decide, by decide, by decide +kernel⟩, Or.inl (inG (inT2 (List.mem_of_getElem? (i := 191) rfl)) rfl), by decide⟩, ⟨_, rfl, rfl⟩, im_X4_isShut, se_X4_isShut⟩
theorem sv_RL_44 : SV RL 44 mX7_day 7 2 := ⟨⟨cw_X7_day, iz_RX7, ⟨by decide, by decide, by decide +kernel⟩, Or.inl (inG (inT2 (List.mem_of_getElem? (i := 195) rfl)) rfl), by decide⟩, ⟨_, rfl, rfl⟩, im_X7_day, se_X7_day⟩
theorem sv_RX7_148 : SV RX7 148 mX2_walksOn 2 1 := ⟨⟨cw_X2_walksOn, iz_RX2, ⟨by decide, by decide, by decide +kernel⟩, Or.inl (inG (inT2 (List.mem_of_getElem? (i := 199) rfl)) rfl), by decide⟩, ⟨_, rfl, rfl⟩, im_X2_walksOn, se_X2_walksOn⟩
theorem sv_RX7_152 : SV RX7 152 mX2_isFoggy 2 1 := ⟨⟨cw_X2_isFoggy, iz_RX2, ⟨by decide, by decide, by decide +kernel⟩, Or.inl (inG (inT2 (List.mem_of_getElem? (i := 203) rfl)) rfl), by decide⟩, ⟨_, rfl, rfl⟩, im_X2_isFoggy, se_X2_isFoggy⟩
theorem sv_RL_48 : SV RL 48 mX7_pass 7 1 := ⟨⟨cw_X7_pass, iz_RX7, ⟨by decide, by decide, by decide +kernel⟩, Or.inl (inG (inT2 (List.mem_of_getElem? (i := 207) rfl)) rfl), by decide⟩, ⟨_, rfl, rfl⟩, im_X7_pass, se_X7_pass⟩
theorem sv_RX7_155 : SV RX7 155 mX6_putOverOldest 6 1 := ⟨⟨cw_X6_putOverOldest, iz_RX6, ⟨by decide, by decide, by decide +kernel⟩, Or.inl (inG (inT2 (List.mem_of_getElem? (i := 211) rfl)) rfl), by decide⟩, ⟨_, rfl, rfl⟩, im_X6_putOverOldest, se_X6_putOverOldest⟩
theorem sv_RX6_30 : SV RX6 30 mX6_put 6 1 := ⟨⟨cw_X6_put, iz_RX6, ⟨by decide, by decide, by decide +kernel⟩, Or.inl (inG (inT2 (List.mem_of_getElem? (i := 215) rfl)) rfl), by decide⟩, ⟨_, rfl, rfl⟩, im_X6_put, se_X6_put⟩
theorem sv_RX6_26 : SV RX6 26 mX4_copyFrom 4 1 := ⟨⟨cw_X4_copyFrom, iz_RX4, ⟨by decide, by decide, by decide +kernel⟩, Or.inl (inG (inT2 (List.mem_of_getElem? (i := 219) rfl)) rfl), by decide⟩, ⟨_, rfl, rfl⟩, im_X4_copyFrom, se_X4_copyFrom⟩
theorem sv_RX7_159 : SV RX7 159 mX4_goDays 4 2 := ⟨⟨cw_X4_goDays, iz_RX4, ⟨by decide, by decide, by decide +kernel⟩, Or.inl (inG (inT2 (List.mem_of_getElem? (i := 223) rfl)) rfl), by decide⟩, ⟨_, rfl, rfl⟩, im_X4_goDays, se_X4_goDays⟩
theorem sv_RX4_47 : SV RX4 47 mX2_isFoggy 2 1 := ⟨⟨cw_X2_isFoggy, iz_RX2, ⟨by decide, by decide, by decide +kernel⟩, Or.inl (inG (inT2 (List.mem_of_getElem? (i := 227) rfl)) rfl), by decide⟩, ⟨_, rfl, rfl⟩, im_X2_isFoggy, se_X2_isFoggy⟩
theorem sv_RX4_51 : SV RX4 51 mX4_goDay 4 2 := ⟨⟨cw_X4_goDay, iz_RX4, ⟨by decide, by decide, by decide +kernel⟩, Or.inl (inG (inT2 (List.mem_of_getElem? (i := 228) rfl)) rfl), by decide⟩, ⟨_, rfl, rfl⟩, im_X4_goDay, se_X4_goDay⟩
theorem sv_RX4_67 : SV RX4 67 mX4_bendBy 4 3 := ⟨⟨cw_X4_bendBy, iz_RX4, ⟨by decide, by decide, by decide +kernel⟩, Or.inl (inG (inT2 (List.mem_of_getElem? (i := 232) rfl)) rfl), by decide⟩, ⟨_, rfl, rfl⟩, im_X4_bendBy, se_X4_bendBy⟩
theorem sv_RX4_79 : SV RX4 79 mX4_isShut 4 1 := ⟨⟨cw_X4_isShut, iz_RX4, ⟨by decide, by decide, by decide +kernel⟩, Or.inl (inG (inT2 (List.mem_of_getElem? (i := 236) rfl)) rfl), by decide⟩, ⟨_, rfl, rfl⟩, im_X4_isShut, se_X4_isShut⟩
theorem ss_RX4_91 : SS RX4 91 mJ9_max_7cf53 2 := ⟨⟨cw_J9_max_7cf53, iz_RJ9, ⟨by decide, by decide, by decide +kernel⟩, Or.inl (inG (inT2 (List.mem_of_getElem? (i := 237) rfl)) rfl), by decide⟩, sm_J9_max_7cf53⟩
theorem ss_RX4_97 : SS RX4 97 mJ9_min_7cf53 2 := ⟨⟨cw_J9_min_7cf53, iz_RJ9, ⟨by decide, by decide, by decide +kernel⟩, Or.inl (inG (inT2 (List.mem_of_getElem? (i := 238) rfl)) rfl), by decide⟩, sm_J9_min_7cf53⟩
theorem sv_RX4_103 : SV RX4 103 mX4_bentYard 4 3 := ⟨⟨cw_X4_bentYard, iz_RX4, ⟨by decide, by decide, by decide +kernel⟩, Or.inl (inG (inT3 (List.mem_of_getElem? (i := 1) rfl)) rfl), by decide⟩, ⟨_, rfl, rfl⟩, im_X4_bentYard, se_X4_bentYard⟩
theorem ss_RX4_75 : SS RX4 75 mX4_toward 3 := ⟨⟨cw_X4_toward, iz_RX4, ⟨by decide, by decide, by decide +kernel⟩, Or.inl (inG (inT3 (List.mem_of_getElem? (i := 5) rfl)) rfl), by decide⟩, sm_X4_toward⟩
theorem ss_RX4_109 : SS RX4 109 mX4_awayFrom 2 := ⟨⟨cw_X4_awayFrom, iz_RX4, ⟨by decide, by decide, by decide +kernel⟩, Or.inl (inG (inT3 (List.mem_of_getElem? (i := 8) rfl)) rfl), by decide⟩, sm_X4_awayFrom⟩
theorem sv_RX4_112 : SV RX4 112 mX4_gapBefore 4 1 := ⟨⟨cw_X4_gapBefore, iz_RX4, ⟨by decide, by decide, by decide +kernel⟩, Or.inl (inG (inT3 (List.mem_of_getElem? (i := 11) rfl)) rfl), by decide⟩, ⟨_, rfl, rfl⟩, im_X4_gapBefore, se_X4_gapBefore⟩
theorem ss_RX4_106 : SS RX4 106 mJ9_abs_0f7a4 1 := ⟨⟨cw_J9_abs_0f7a4, iz_RJ9, ⟨by decide, by decide, by decide +kernel⟩, Or.inl (inG (inT3 (List.mem_of_getElem? (i := 15) rfl)) rfl), by decide⟩, sm_J9_abs_0f7a4⟩
theorem sv_RX4_71 : SV RX4 71 mX4_goNight 4 0 := ⟨⟨cw_X4_goNight, iz_RX4, ⟨by decide, by decide, by decide +kernel⟩, Or.inl (inG (inT3 (List.mem_of_getElem? (i := 18) rfl)) rfl), by decide⟩, ⟨_, rfl, rfl⟩, im_X4_goNight, se_X4_goNight⟩
theorem sv_RL_52 : SV RL 52 mX7_walk 7 2 := ⟨⟨cw_X7_walk, iz_RX7, ⟨by decide, by decide, by decide +kernel⟩, Or.inl (inG (inT3 (List.mem_of_getElem? (i := 22) rfl)) rfl), by decide⟩, ⟨_, rfl, rfl⟩, im_X7_walk, se_X7_walk⟩
theorem sv_RX7_166 : SV RX7 166 mX4_takeWalk 4 4 := ⟨⟨cw_X4_takeWalk, iz_RX4, ⟨by decide, by decide, by decide +kernel⟩, Or.inl (inG (inT3 (List.mem_of_getElem? (i := 26) rfl)) rfl), by decide⟩, ⟨_, rfl, rfl⟩, im_X4_takeWalk, se_X4_takeWalk⟩
theorem sv_RL_56 : SV RL 56 mX7_shut 7 2 := ⟨⟨cw_X7_shut, iz_RX7, ⟨by decide, by decide, by decide +kernel⟩, Or.inl (inG (inT3 (List.mem_of_getElem? (i := 30) rfl)) rfl), by decide⟩, ⟨_, rfl, rfl⟩, im_X7_shut, se_X7_shut⟩
theorem sv_RX7_170 : SV RX7 170 mX4_turnWindow 4 1 := ⟨⟨cw_X4_turnWindow, iz_RX4, ⟨by decide, by decide, by decide +kernel⟩, Or.inl (inG (inT3 (List.mem_of_getElem? (i := 34) rfl)) rfl), by decide⟩, ⟨_, rfl, rfl⟩, im_X4_turnWindow, se_X4_turnWindow⟩
theorem sv_RX7_173 : SV RX7 173 mX4_shutWindows 4 0 := ⟨⟨cw_X4_shutWindows, iz_RX4, ⟨by decide, by decide, by decide +kernel⟩, Or.inl (inG (inT3 (List.mem_of_getElem? (i := 38) rfl)) rfl), by decide⟩, ⟨_, rfl, rfl⟩, im_X4_shutWindows, se_X4_shutWindows⟩
theorem ss_RX4_41 : SS RX4 41 mJ6_bitCount_0f7a4 1 := ⟨⟨cw_J6_bitCount_0f7a4, iz_RJ6, ⟨by decide, by decide, by decide +kernel⟩, Or.inl (inG (inT3 (List.mem_of_getElem? (i := 42) rfl)) rfl), by decide⟩, sm_J6_bitCount_0f7a4⟩
theorem sv_RL_61 : SV RL 61 mX7_undo 7 0 := ⟨⟨cw_X7_undo, iz_RX7, ⟨by decide, by decide, by decide +kernel⟩, Or.inl (inG (inT3 (List.mem_of_getElem? (i := 48) rfl)) rfl), by decide⟩, ⟨_, rfl, rfl⟩, im_X7_undo, se_X7_undo⟩
theorem sv_RX7_176 : SV RX7 176 mX6_takeInto 6 1 := ⟨⟨cw_X6_takeInto, iz_RX6, ⟨by decide, by decide, by decide +kernel⟩, Or.inl (inG (inT3 (List.mem_of_getElem? (i := 52) rfl)) rfl), by decide⟩, ⟨_, rfl, rfl⟩, im_X6_takeInto, se_X6_takeInto⟩
theorem sv_RL_65 : SV RL 65 mX7_length 7 0 := ⟨⟨cw_X7_length, iz_RX7, ⟨by decide, by decide, by decide +kernel⟩, Or.inl (inG (inT3 (List.mem_of_getElem? (i := 56) rfl)) rfl), by decide⟩, ⟨_, rfl, rfl⟩, im_X7_length, se_X7_length⟩
theorem sv_RX7_181 : SV RX7 181 mX4_reckonLong 4 0 := ⟨⟨cw_X4_reckonLong, iz_RX4, ⟨by decide, by decide, by decide +kernel⟩, Or.inl (inG (inT3 (List.mem_of_getElem? (i := 60) rfl)) rfl), by decide⟩, ⟨_, rfl, rfl⟩, im_X4_reckonLong, se_X4_reckonLong⟩
theorem sv_RL_69 : SV RL 69 mX7_crooks 7 1 := ⟨⟨cw_X7_crooks, iz_RX7, ⟨by decide, by decide, by decide +kernel⟩, Or.inl (inG (inT3 (List.mem_of_getElem? (i := 64) rfl)) rfl), by decide⟩, ⟨_, rfl, rfl⟩, im_X7_crooks, se_X7_crooks⟩
theorem sv_RX7_184 : SV RX7 184 mX4_reckonCrooks 4 0 := ⟨⟨cw_X4_reckonCrooks, iz_RX4, ⟨by decide, by decide, by decide +kernel⟩, Or.inl (inG (inT3 (List.mem_of_getElem? (i := 68) rfl)) rfl), by decide⟩, ⟨_, rfl, rfl⟩, im_X4_reckonCrooks, se_X4_reckonCrooks⟩
theorem ss_RX4_115 : SS RX4 115 mJ6_compare_7cf53 2 := ⟨⟨cw_J6_compare_7cf53, iz_RJ6, ⟨by decide, by decide, by decide +kernel⟩, Or.inl (inG (inT3 (List.mem_of_getElem? (i := 72) rfl)) rfl), by decide⟩, sm_J6_compare_7cf53⟩
theorem sv_RX7_187 : SV RX7 187 mX4_reckonKnots 4 0 := ⟨⟨cw_X4_reckonKnots, iz_RX4, ⟨by decide, by decide, by decide +kernel⟩, Or.inl (inG (inT3 (List.mem_of_getElem? (i := 75) rfl)) rfl), by decide⟩, ⟨_, rfl, rfl⟩, im_X4_reckonKnots, se_X4_reckonKnots⟩
theorem sv_RL_73 : SV RL 73 mX7_milestone 7 1 := ⟨⟨cw_X7_milestone, iz_RX7, ⟨by decide, by decide, by decide +kernel⟩, Or.inl (inG (inT3 (List.mem_of_getElem? (i := 79) rfl)) rfl), by decide⟩, ⟨_, rfl, rfl⟩, im_X7_milestone, se_X7_milestone⟩
theorem sv_RX7_190 : SV RX7 190 mX4_postAhead 4 1 := ⟨⟨cw_X4_postAhead, iz_RX4, ⟨by decide, by decide, by decide +kernel⟩, Or.inl (inG (inT3 (List.mem_of_getElem? (i := 83) rfl)) rfl), by decide⟩, ⟨_, rfl, rfl⟩, im_X4_postAhead, se_X4_postAhead⟩
theorem sv_RL_77 : SV RL 77 mX7_behind 7 2 := ⟨⟨cw_X7_behind, iz_RX7, ⟨by decide, by decide, by decide +kernel⟩, Or.inl (inG (inT3 (List.mem_of_getElem? (i := 87) rfl)) rfl), by decide⟩, ⟨_, rfl, rfl⟩, im_X7_behind, se_X7_behind⟩
theorem sv_RX7_193 : SV RX7 193 mX4_copyFrom 4 1 := ⟨⟨cw_X4_copyFrom, iz_RX4, ⟨by decide, by decide, by decide +kernel⟩, Or.inl (inG (inT3 (List.mem_of_getElem? (i := 91) rfl)) rfl), by decide⟩, ⟨_, rfl, rfl⟩, im_X4_copyFrom, se_X4_copyFrom⟩
theorem sv_RL_81 : SV RL 81 mX7_door 7 3 := ⟨⟨cw_X7_door, iz_RX7, ⟨by decide, by decide, by decide +kernel⟩, Or.inl (inG (inT3 (List.mem_of_getElem? (i := 92) rfl)) rfl), by decide⟩, ⟨_, rfl, rfl⟩, im_X7_door, se_X7_door⟩
theorem ss_RX7_196 : SS RX7 196 mX7_isYard 1 := ⟨⟨cw_X7_isYard, iz_RX7, ⟨by decide, by decide, by decide +kernel⟩, Or.inl (inG (inT3 (List.mem_of_getElem? (i := 96) rfl)) rfl), by decide⟩, sm_X7_isYard⟩
theorem sv_RX7_199 : SV RX7 199 mX5_fewestWalks 5 4 := ⟨⟨cw_X5_fewestWalks, iz_RX5, ⟨by decide, by decide, by decide +kernel⟩, Or.inl (inG (inT3 (List.mem_of_getElem? (i := 97) rfl)) rfl), by decide⟩, ⟨_, rfl, rfl⟩, im_X5_fewestWalks, se_X5_fewestWalks⟩
theorem sv_RX5_29 : SV RX5 29 mX4_copyFrom 4 1 := ⟨⟨cw_X4_copyFrom, iz_RX4, ⟨by decide, by decide, by decide +kernel⟩, Or.inl (inG (inT3 (List.mem_of_getElem? (i := 101) rfl)) rfl), by decide⟩, ⟨_, rfl, rfl⟩, im_X4_copyFrom, se_X4_copyFrom⟩
theorem ss_RX5_33 : SS RX5 33 mX5_isReached 4 := ⟨⟨cw_X5_isReached, iz_RX5, ⟨by decide, by decide, by decide +kernel⟩, Or.inl (inG (inT3 (List.mem_of_getElem? (i := 102) rfl)) rfl), by decide⟩, sm_X5_isReached⟩
theorem sv_RX5_37 : SV RX5 37 mX5_isMet 5 1 := ⟨⟨cw_X5_isMet, iz_RX5, ⟨by decide, by decide, by decide +kernel⟩, Or.inl (inG (inT3 (List.mem_of_getElem? (i := 105) rfl)) rfl), by decide⟩, ⟨_, rfl, rfl⟩, im_X5_isMet, se_X5_isMet⟩
theorem sv_RX5_57 : SV RX5 57 mX4_reckonLong 4 0 := ⟨⟨cw_X4_reckonLong, iz_RX4, ⟨by decide, by decide, by decide +kernel⟩, Or.inl (inG (inT3 (List.mem_of_getElem? (i := 109) rfl)) rfl), by decide⟩, ⟨_, rfl, rfl⟩, im_X4_reckonLong, se_X4_reckonLong⟩
theorem sv_RX5_41 : SV RX5 41 mX5_isTooFar 5 2 := ⟨⟨cw_X5_isTooFar, iz_RX5, ⟨by decide, by decide, by decide +kernel⟩, Or.inl (inG (inT3 (List.mem_of_getElem? (i := 110) rfl)) rfl), by decide⟩, ⟨_, rfl, rfl⟩, im_X5_isTooFar, se_X5_isTooFar⟩
theorem ss_RX5_67 : SS RX5 67 mJ9_abs_0f7a4 1 := ⟨⟨cw_J9_abs_0f7a4, iz_RJ9, ⟨by decide, by decide, by decide +kernel⟩, Or.inl (inG (inT3 (List.mem_of_getElem? (i := 114) rfl)) rfl), by decide⟩, sm_J9_abs_0f7a4⟩
theorem sv_RX5_53 : SV RX5 53 mX4_bendBy 4 3 := ⟨⟨cw_X4_bendBy, iz_RX4, ⟨by decide, by decide, by decide +kernel⟩, Or.inl (inG (inT3 (List.mem_of_getElem? (i := 115) rfl)) rfl), by decide⟩, ⟨_, rfl, rfl⟩, im_X4_bendBy, se_X4_bendBy⟩
theorem sv_RL_86 : SV RL 86 mX7_mile 7 1 := ⟨⟨cw_X7_mile, iz_RX7, ⟨by decide, by decide, by decide +kernel⟩, Or.inl (inG (inT3 (List.mem_of_getElem? (i := 116) rfl)) rfl), by decide⟩, ⟨_, rfl, rfl⟩, im_X7_mile, se_X7_mile⟩
theorem sv_RL_90 : SV RL 90 mX7_window 7 2 := ⟨⟨cw_X7_window, iz_RX7, ⟨by decide, by decide, by decide +kernel⟩, Or.inl (inG (inT3 (List.mem_of_getElem? (i := 120) rfl)) rfl), by decide⟩, ⟨_, rfl, rfl⟩, im_X7_window, se_X7_window⟩
theorem sv_RX7_209 : SV RX7 209 mX7_longIfShut 7 2 := ⟨⟨cw_X7_longIfShut, iz_RX7, ⟨by decide, by decide, by decide +kernel⟩, Or.inl (inG (inT3 (List.mem_of_getElem? (i := 124) rfl)) rfl), by decide⟩, ⟨_, rfl, rfl⟩, im_X7_longIfShut, se_X7_longIfShut⟩
theorem sv_RL_94 : SV RL 94 mX7_bent 7 2 := ⟨⟨cw_X7_bent, iz_RX7, ⟨by decide, by decide, by decide +kernel⟩, Or.inl (inG (inT3 (List.mem_of_getElem? (i := 128) rfl)) rfl), by decide⟩, ⟨_, rfl, rfl⟩, im_X7_bent, se_X7_bent⟩
theorem sv_RX7_213 : SV RX7 213 mX0_add 0 3 := ⟨⟨cw_X0_add, iz_RX0, ⟨by decide, by decide, by decide +kernel⟩, Or.inl (inG (inT3 (List.mem_of_getElem? (i := 132) rfl)) rfl), by decide⟩, ⟨_, rfl, rfl⟩, im_X0_add, se_X0_add⟩
theorem sv_RL_98 : SV RL 98 mX7_found 7 3 := ⟨⟨cw_X7_found, iz_RX7, ⟨by decide, by decide, by decide +kernel⟩, Or.inl (inG (inT3 (List.mem_of_getElem? (i := 136) rfl)) rfl), by decide⟩, ⟨_, rfl, rfl⟩, im_X7_found, se_X7_found⟩
theorem sv_RL_102 : SV RL 102 mX7_forget 7 0 := ⟨⟨cw_X7_forget, iz_RX7, ⟨by decide, by decide, by decide +kernel⟩, Or.inl (inG (inT3 (List.mem_of_getElem? (i := 140) rfl)) rfl), by decide⟩, ⟨_, rfl, rfl⟩, im_X7_forget, se_X7_forget⟩
theorem sv_RL_106 : SV RL 106 mX7_looked 7 1 := ⟨⟨cw_X7_looked, iz_RX7, ⟨by decide, by decide, by decide +kernel⟩, Or.inl (inG (inT3 (List.mem_of_getElem? (i := 144) rfl)) rfl), by decide⟩, ⟨_, rfl, rfl⟩, im_X7_looked, se_X7_looked⟩
theorem sv_RX7_219 : SV RX7 219 mX7_fitsBent 7 2 := ⟨⟨cw_X7_fitsBent, iz_RX7, ⟨by decide, by decide, by decide +kernel⟩, Or.inl (inG (inT3 (List.mem_of_getElem? (i := 148) rfl)) rfl), by decide⟩, ⟨_, rfl, rfl⟩, im_X7_fitsBent, se_X7_fitsBent⟩
theorem sv_RX7_250 : SV RX7 250 mX4_bendBy 4 3 := ⟨⟨cw_X4_bendBy, iz_RX4, ⟨by decide, by decide, by decide +kernel⟩, Or.inl (inG (inT3 (List.mem_of_getElem? (i := 152) rfl)) rfl), by decide⟩, ⟨_, rfl, rfl⟩, im_X4_bendBy, se_X4_bendBy⟩
theorem sv_RX7_254 : SV RX7 254 mX0_holdOn 0 2 := ⟨⟨cw_X0_holdOn, iz_RX0, ⟨by decide, by decide, by decide +kernel⟩, Or.inl (inG (inT3 (List.mem_of_getElem? (i := 153) rfl)) rfl), by decide⟩, ⟨_, rfl, rfl⟩, im_X0_holdOn, se_X0_holdOn⟩
theorem sv_RL_110 : SV RL 110 mX7_fog 7 0 := ⟨⟨cw_X7_fog, iz_RX7, ⟨by decide, by decide, by decide +kernel⟩, Or.inl (inG (inT3 (List.mem_of_getElem? (i := 157) rfl)) rfl), by decide⟩, ⟨_, rfl, rfl⟩, im_X7_fog, se_X7_fog⟩
theorem sv_RX7_223 : SV RX7 223 mX7_fitsFound 7 1 := ⟨⟨cw_X7_fitsFound, iz_RX7, ⟨by decide, by decide, by decide +kernel⟩, Or.inl (inG (inT3 (List.mem_of_getElem? (i := 161) rfl)) rfl), by decide⟩, ⟨_, rfl, rfl⟩, im_X7_fitsFound, se_X7_fitsFound⟩
theorem sv_RX7_258 : SV RX7 258 mX4_goDay 4 2 := ⟨⟨cw_X4_goDay, iz_RX4, ⟨by decide, by decide, by decide +kernel⟩, Or.inl (inG (inT3 (List.mem_of_getElem? (i := 165) rfl)) rfl), by decide⟩, ⟨_, rfl, rfl⟩, im_X4_goDay, se_X4_goDay⟩
theorem sv_RL_114 : SV RL 114 mX7_parishes 7 5 := ⟨⟨cw_X7_parishes, iz_RX7, ⟨by decide, by decide, by decide +kernel⟩, Or.inl (inG (inT3 (List.mem_of_getElem? (i := 166) rfl)) rfl), by decide⟩, ⟨_, rfl, rfl⟩, im_X7_parishes, se_X7_parishes⟩
theorem sv_RX7_226 : SV RX7 226 mX7_reckonHeights 7 4 := ⟨⟨cw_X7_reckonHeights, iz_RX7, ⟨by decide, by decide, by decide +kernel⟩, Or.inl (inG (inT3 (List.mem_of_getElem? (i := 170) rfl)) rfl), by decide⟩, ⟨_, rfl, rfl⟩, im_X7_reckonHeights, se_X7_reckonHeights⟩
theorem sv_RX7_230 : SV RX7 230 mX7_contentsBoth 7 2 := ⟨⟨cw_X7_contentsBoth, iz_RX7, ⟨by decide, by decide, by decide +kernel⟩, Or.inl (inG (inT3 (List.mem_of_getElem? (i := 174) rfl)) rfl), by decide⟩, ⟨_, rfl, rfl⟩, im_X7_contentsBoth, se_X7_contentsBoth⟩
theorem sv_RL_119 : SV RL 119 mX7_year 7 3 := ⟨⟨cw_X7_year, iz_RX7, ⟨by decide, by decide, by decide +kernel⟩, Or.inl (inG (inT3 (List.mem_of_getElem? (i := 178) rfl)) rfl), by decide⟩, ⟨_, rfl, rfl⟩, im_X7_year, se_X7_year⟩
theorem ss_RX7_233 : SS RX7 233 mX7_drawOf 2 := ⟨⟨cw_X7_drawOf, iz_RX7, ⟨by decide, by decide, by decide +kernel⟩, Or.inl (inG (inT3 (List.mem_of_getElem? (i := 182) rfl)) rfl), by decide⟩, sm_X7_drawOf⟩
theorem sv_RX7_236 : SV RX7 236 mX7_walkByDraw 7 1 := ⟨⟨cw_X7_walkByDraw, iz_RX7, ⟨by decide, by decide, by decide +kernel⟩, Or.inl (inG (inT3 (List.mem_of_getElem? (i := 189) rfl)) rfl), by decide⟩, ⟨_, rfl, rfl⟩, im_X7_walkByDraw, se_X7_walkByDraw⟩
theorem sv_RX7_239 : SV RX7 239 mX4_goNight 4 0 := ⟨⟨cw_X4_goNight, iz_RX4, ⟨by decide, by decide, by decide +kernel⟩, Or.inl (inG (inT3 (List.mem_of_getElem? (i := 193) rfl)) rfl), by decide⟩, ⟨_, rfl, rfl⟩, im_X4_goNight, se_X4_goNight⟩
theorem sv_RL_123 : SV RL 123 mX7_keep 7 0 := ⟨⟨cw_X7_keep, iz_RX7, ⟨by decide, by decide, by decide +kernel⟩, Or.inl (inG (inT3 (List.mem_of_getElem? (i := 194) rfl)) rfl), by decide⟩, ⟨_, rfl, rfl⟩, im_X7_keep, se_X7_keep⟩
theorem sv_RX7_243 : SV RX7 243 mX6_put 6 1 := ⟨⟨cw_X6_put, iz_RX6, ⟨by decide, by decide, by decide +kernel⟩, Or.inl (inG (inT3 (List.mem_of_getElem? (i := 198) rfl)) rfl), by decide⟩, ⟨_, rfl, rfl⟩, im_X6_put, se_X6_put⟩
theorem sv_RL_127 : SV RL 127 mX7_back 7 0 := ⟨⟨cw_X7_back, iz_RX7, ⟨by decide, by decide, by decide +kernel⟩, Or.inl (inG (inT3 (List.mem_of_getElem? (i := 199) rfl)) rfl), by decide⟩, ⟨_, rfl, rfl⟩, im_X7_back, se_X7_back⟩
theorem sv_RL_131 : SV RL 131 mX7_count 7 1 := ⟨⟨cw_X7_count, iz_RX7, ⟨by decide, by decide, by decide +kernel⟩, Or.inl (inG (inT3 (List.mem_of_getElem? (i := 203) rfl)) rfl), by decide⟩, ⟨_, rfl, rfl⟩, im_X7_count, se_X7_count⟩
theorem ck_RL_10 : Cond.classLink RL 10 RX8 ∈ tblG := inG (inT3 (List.mem_of_getElem? (i := 207) rfl)) rfl
theorem nl_RL_10 : NL RL 10 8 := ⟨_, rfl, ck_RL_10, inG (inT3 (List.mem_of_getElem? (i := 208) rfl)) rfl, iz_RX8⟩
theorem si_RL_12 : SI RL 12 yX8_init cX8_init 1 0 := ⟨⟨cw_X8_init, iz_RX8, ⟨by decide, by decide, by decide +kernel⟩, Or.inl (inG (inT3 (List.mem_of_getElem? (i := 209) rfl)) rfl), by decide⟩, rfl, im_X8_init⟩
theorem ol_RX8_1 : Cond.methodLink RX8 1 Lib.objectInit ∈ tblG := inG (inT3 (List.mem_of_getElem? (i := 212) rfl)) rfl
theorem sv_RX8_46 : SV RX8 46 mX8_begins 8 0 := ⟨⟨cw_X8_begins, iz_RX8, ⟨by decide, by decide, by decide +kernel⟩, Or.inl (inG (inT3 (List.mem_of_getElem? (i := 213) rfl)) rfl), by decide⟩, ⟨_, rfl, rfl⟩, im_X8_begins, se_X8_begins⟩
theorem sv_RX8_49 : SV RX8 49 mX8_posts 8 2 := ⟨⟨cw_X8_posts, iz_RX8, ⟨by decide, by decide, by decide +kernel⟩, Or.inl (inG (inT3 (List.mem_of_getElem? (i := 217) rfl)) rfl), by decide⟩, ⟨_, rfl, rfl⟩, im_X8_posts, se_X8_posts⟩
theorem ss_RX8_69 : SS RX8 69 mX8_in 3 := ⟨⟨cw_X8_in, iz_RX8, ⟨by decide, by decide, by decide +kernel⟩, Or.inl (inG (inT3 (List.mem_of_getElem? (i := 221) rfl)) rfl), by decide⟩, sm_X8_in⟩
theorem sv_RX8_53 : SV RX8 53 mX8_walkers 8 2 := ⟨⟨cw_X8_walkers, iz_RX8, ⟨by decide, by decide, by decide +kernel⟩, Or.inl (inG (inT3 (List.mem_of_getElem? (i := 224) rfl)) rfl), by decide⟩, ⟨_, rfl, rfl⟩, im_X8_walkers, se_X8_walkers⟩
theorem sv_RX8_56 : SV RX8 56 mX8_things 8 2 := ⟨⟨cw_X8_things, iz_RX8, ⟨by decide, by decide, by decide +kernel⟩, Or.inl (inG (inT3 (List.mem_of_getElem? (i := 228) rfl)) rfl), by decide⟩, ⟨_, rfl, rfl⟩, im_X8_things, se_X8_things⟩
theorem sv_RX8_59 : SV RX8 59 mX8_walks 8 3 := ⟨⟨cw_X8_walks, iz_RX8, ⟨by decide, by decide, by decide +kernel⟩, Or.inl (inG (inT3 (List.mem_of_getElem? (i := 232) rfl)) rfl), by decide⟩, ⟨_, rfl, rfl⟩, im_X8_walks, se_X8_walks⟩
theorem sv_RX8_63 : SV RX8 63 mX8_fogs 8 2 := ⟨⟨cw_X8_fogs, iz_RX8, ⟨by decide, by decide, by decide +kernel⟩, Or.inl (inG (inT3 (List.mem_of_getElem? (i := 236) rfl)) rfl), by decide⟩, ⟨_, rfl, rfl⟩, im_X8_fogs, se_X8_fogs⟩
theorem sv_RX8_66 : SV RX8 66 mX8_comes 8 0 := ⟨⟨cw_X8_comes, iz_RX8, ⟨by decide, by decide, by decide +kernel⟩, Or.inl (inG (inT4 (List.mem_of_getElem? (i := 0) rfl)) rfl), by decide⟩, ⟨_, rfl, rfl⟩, im_X8_comes, se_X8_comes⟩
theorem fl_RX8_7 : FL RX8 7 8 0 := ⟨_, rfl, by decide, Or.inl (inG (inT4 (List.mem_of_getElem? (i := 4) rfl)) rfl)⟩
theorem fn_RX8_7 : fin RX8 7 8 0 := fun r h => by cases h; exact ⟨rfl, rfl, inG (inT4 (List.mem_of_getElem? (i := 4) rfl)) rfl⟩
theorem fl_RX8_13 : FL RX8 13 8 1 := ⟨_, rfl, by decide, Or.inl (inG (inT4 (List.mem_of_getElem? (i := 5) rfl)) rfl)⟩
theorem fn_RX8_13 : fin RX8 13 8 1 := fun r h => by cases h; exact ⟨rfl, rfl, inG (inT4 (List.mem_of_getElem? (i := 5) rfl)) rfl⟩
theorem fl_RX8_73 : FL RX8 73 8 2 := ⟨_, rfl, by decide, Or.inl (inG (inT4 (List.mem_of_getElem? (i := 6) rfl)) rfl)⟩
theorem fl_RX8_77 : FL RX8 77 8 3 := ⟨_, rfl, by decide, Or.inl (inG (inT4 (List.mem_of_getElem? (i := 7) rfl)) rfl)⟩
theorem fl_RX8_16 : FL RX8 16 8 4 := ⟨_, rfl, by decide, Or.inl (inG (inT4 (List.mem_of_getElem? (i := 8) rfl)) rfl)⟩
theorem fn_RX8_16 : fin RX8 16 8 4 := fun r h => by cases h; exact ⟨rfl, rfl, inG (inT4 (List.mem_of_getElem? (i := 8) rfl)) rfl⟩
theorem fl_RX8_90 : FL RX8 90 8 5 := ⟨_, rfl, by decide, Or.inl (inG (inT4 (List.mem_of_getElem? (i := 9) rfl)) rfl)⟩
theorem fl_RX8_93 : FL RX8 93 8 6 := ⟨_, rfl, by decide, Or.inl (inG (inT4 (List.mem_of_getElem? (i := 10) rfl)) rfl)⟩
theorem fl_RX8_104 : FL RX8 104 8 7 := ⟨_, rfl, by decide, Or.inl (inG (inT4 (List.mem_of_getElem? (i := 11) rfl)) rfl)⟩
theorem fl_RX8_19 : FL RX8 19 8 8 := ⟨_, rfl, by decide, Or.inl (inG (inT4 (List.mem_of_getElem? (i := 12) rfl)) rfl)⟩
theorem fn_RX8_19 : fin RX8 19 8 8 := fun r h => by cases h; exact ⟨rfl, rfl, inG (inT4 (List.mem_of_getElem? (i := 12) rfl)) rfl⟩
theorem fl_RX8_22 : FL RX8 22 8 9 := ⟨_, rfl, by decide, Or.inl (inG (inT4 (List.mem_of_getElem? (i := 13) rfl)) rfl)⟩
theorem fn_RX8_22 : fin RX8 22 8 9 := fun r h => by cases h; exact ⟨rfl, rfl, inG (inT4 (List.mem_of_getElem? (i := 13) rfl)) rfl⟩
theorem fl_RX8_80 : FL RX8 80 8 10 := ⟨_, rfl, by decide, Or.inl (inG (inT4 (List.mem_of_getElem? (i := 14) rfl)) rfl)⟩
theorem fl_RX8_25 : FL RX8 25 8 11 := ⟨_, rfl, by decide, Or.inl (inG (inT4 (List.mem_of_getElem? (i := 15) rfl)) rfl)⟩
theorem fn_RX8_25 : fin RX8 25 8 11 := fun r h => by cases h; exact ⟨rfl, rfl, inG (inT4 (List.mem_of_getElem? (i := 15) rfl)) rfl⟩
theorem fl_RX8_28 : FL RX8 28 8 12 := ⟨_, rfl, by decide, Or.inl (inG (inT4 (List.mem_of_getElem? (i := 16) rfl)) rfl)⟩
theorem fn_RX8_28 : fin RX8 28 8 12 := fun r h => by cases h; exact ⟨rfl, rfl, inG (inT4 (List.mem_of_getElem? (i := 16) rfl)) rfl⟩
theorem fl_RX8_83 : FL RX8 83 8 13 := ⟨_, rfl, by decide, Or.inl (inG (inT4 (List.mem_of_getElem? (i := 17) rfl)) rfl)⟩
theorem fl_RX8_31 : FL RX8 31 8 14 := ⟨_, rfl, by decide, Or.inl (inG (inT4 (List.mem_of_getElem? (i := 18) rfl)) rfl)⟩
theorem fn_RX8_31 : fin RX8 31 8 14 := fun r h => by cases h; exact ⟨rfl, rfl, inG (inT4 (List.mem_of_getElem? (i := 18) rfl)) rfl⟩
theorem fl_RX8_34 : FL RX8 34 8 15 := ⟨_, rfl, by decide, Or.inl (inG (inT4 (List.mem_of_getElem? (i := 19) rfl)) rfl)⟩
theorem fn_RX8_34 : fin RX8 34 8 15 := fun r h => by cases h; exact ⟨rfl, rfl, inG (inT4 (List.mem_of_getElem? (i := 19) rfl)) rfl⟩
theorem fl_RX8_37 : FL RX8 37 8 16 := ⟨_, rfl, by decide, Or.inl (inG (inT4 (List.mem_of_getElem? (i := 20) rfl)) rfl)⟩
theorem fn_RX8_37 : fin RX8 37 8 16 := fun r h => by cases h; exact ⟨rfl, rfl, inG (inT4 (List.mem_of_getElem? (i := 20) rfl)) rfl⟩
theorem fl_RX8_40 : FL RX8 40 8 17 := ⟨_, rfl, by decide, Or.inl (inG (inT4 (List.mem_of_getElem? (i := 21) rfl)) rfl)⟩
theorem fn_RX8_40 : fin RX8 40 8 17 := fun r h => by cases h; exact ⟨rfl, rfl, inG (inT4 (List.mem_of_getElem? (i := 21) rfl)) rfl⟩
theorem fl_RX8_43 : FL RX8 43 8 18 := ⟨_, rfl, by decide, Or.inl (inG (inT4 (List.mem_of_getElem? (i := 22) rfl)) rfl)⟩
theorem fn_RX8_43 : fin RX8 43 8 18 := fun r h => by cases h; exact ⟨rfl, rfl, inG (inT4 (List.mem_of_getElem? (i := 22) rfl)) rfl⟩
theorem sv_RL_17 : SV RL 17 mX8_write 8 1 := ⟨⟨cw_X8_write, iz_RX8, ⟨by decide, by decide, by decide +kernel⟩, Or.inl (inG (inT4 (List.mem_of_getElem? (i := 62) rfl)) rfl), by decide⟩, ⟨_, rfl, rfl⟩, im_X8_write, se_X8_write⟩
theorem sv_RL_22 : SV RL 22 mX8_wipe 8 0 := ⟨⟨cw_X8_wipe, iz_RX8, ⟨by decide, by decide, by decide +kernel⟩, Or.inl (inG (inT4 (List.mem_of_getElem? (i := 68) rfl)) rfl), by decide⟩, ⟨_, rfl, rfl⟩, im_X8_wipe, se_X8_wipe⟩
theorem sv_RL_26 : SV RL 26 mX8_fault 8 0 := ⟨⟨cw_X8_fault, iz_RX8, ⟨by decide, by decide, by decide +kernel⟩, Or.inl (inG (inT4 (List.mem_of_getElem? (i := 72) rfl)) rfl), by decide⟩, ⟨_, rfl, rfl⟩, im_X8_fault, se_X8_fault⟩
theorem sv_RX8_123 : SV RX8 123 mX8_faultOf 8 0 := ⟨⟨cw_X8_faultOf, iz_RX8, ⟨by decide, by decide, by decide +kernel⟩, Or.inl (inG (inT4 (List.mem_of_getElem? (i := 76) rfl)) rfl), by decide⟩, ⟨_, rfl, rfl⟩, im_X8_faultOf, se_X8_faultOf⟩
theorem sv_RX8_120 : SV RX8 120 mX8_takesItem 8 0 := ⟨⟨cw_X8_takesItem, iz_RX8, ⟨by decide, by decide, by decide +kernel⟩, Or.inl (inG (inT4 (List.mem_of_getElem? (i := 80) rfl)) rfl), by decide⟩, ⟨_, rfl, rfl⟩, im_X8_takesItem, se_X8_takesItem⟩
theorem sv_RX8_96 : SV RX8 96 mX8_letterAt 8 1 := ⟨⟨cw_X8_letterAt, iz_RX8, ⟨by decide, by decide, by decide +kernel⟩, Or.inl (inG (inT4 (List.mem_of_getElem? (i := 84) rfl)) rfl), by decide⟩, ⟨_, rfl, rfl⟩, im_X8_letterAt, se_X8_letterAt⟩
theorem sv_RX8_116 : SV RX8 116 mX8_takesMany 8 0 := ⟨⟨cw_X8_takesMany, iz_RX8, ⟨by decide, by decide, by decide +kernel⟩, Or.inl (inG (inT4 (List.mem_of_getElem? (i := 88) rfl)) rfl), by decide⟩, ⟨_, rfl, rfl⟩, im_X8_takesMany, se_X8_takesMany⟩
theorem sv_RX8_108 : SV RX8 108 mX8_takesNumbers 8 1 := ⟨⟨cw_X8_takesNumbers, iz_RX8, ⟨by decide, by decide, by decide +kernel⟩, Or.inl (inG (inT4 (List.mem_of_getElem? (i := 92) rfl)) rfl), by decide⟩, ⟨_, rfl, rfl⟩, im_X8_takesNumbers, se_X8_takesNumbers⟩
theorem sv_RL_30 : SV RL 30 mX8_lay 8 0 := ⟨⟨cw_X8_lay, iz_RX8, ⟨by decide, by decide, by decide +kernel⟩, Or.inl (inG (inT4 (List.mem_of_getElem? (i := 100) rfl)) rfl), by decide⟩, ⟨_, rfl, rfl⟩, im_X8_lay, se_X8_lay⟩
theorem sv_RL_34 : SV RL 34 mX8_post 8 1 := ⟨⟨cw_X8_post, iz_RX8, ⟨by decide, by decide, by decide +kernel⟩, Or.inl (inG (inT4 (List.mem_of_getElem? (i := 104) rfl)) rfl), by decide⟩, ⟨_, rfl, rfl⟩, im_X8_post, se_X8_post⟩
theorem sv_RX8_129 : SV RX8 129 mX8_isPost 8 1 := ⟨⟨cw_X8_isPost, iz_RX8, ⟨by decide, by decide, by decide +kernel⟩, Or.inl (inG (inT4 (List.mem_of_getElem? (i := 108) rfl)) rfl), by decide⟩, ⟨_, rfl, rfl⟩, im_X8_isPost, se_X8_isPost⟩
theorem sv_RL_39 : SV RL 39 mX8_walker 8 2 := ⟨⟨cw_X8_walker, iz_RX8, ⟨by decide, by decide, by decide +kernel⟩, Or.inl (inG (inT4 (List.mem_of_getElem? (i := 112) rfl)) rfl), by decide⟩, ⟨_, rfl, rfl⟩, im_X8_walker, se_X8_walker⟩
theorem sv_RX8_132 : SV RX8 132 mX8_isWalker 8 1 := ⟨⟨cw_X8_isWalker, iz_RX8, ⟨by decide, by decide, by decide +kernel⟩, Or.inl (inG (inT4 (List.mem_of_getElem? (i := 116) rfl)) rfl), by decide⟩, ⟨_, rfl, rfl⟩, im_X8_isWalker, se_X8_isWalker⟩
theorem sv_RL_43 : SV RL 43 mX8_thing 8 2 := ⟨⟨cw_X8_thing, iz_RX8, ⟨by decide, by decide, by decide +kernel⟩, Or.inl (inG (inT4 (List.mem_of_getElem? (i := 120) rfl)) rfl), by decide⟩, ⟨_, rfl, rfl⟩, im_X8_thing, se_X8_thing⟩
theorem sv_RX8_135 : SV RX8 135 mX8_isThing 8 1 := ⟨⟨cw_X8_isThing, iz_RX8, ⟨by decide, by decide, by decide +kernel⟩, Or.inl (inG (inT4 (List.mem_of_getElem? (i := 124) rfl)) rfl), by decide⟩, ⟨_, rfl, rfl⟩, im_X8_isThing, se_X8_isThing⟩
theorem sv_RL_47 : SV RL 47 mX8_day 8 2 := ⟨⟨cw_X8_day, iz_RX8, ⟨by decide, by decide, by decide +kernel⟩, Or.inl (inG (inT4 (List.mem_of_getElem? (i := 129) rfl)) rfl), by decide⟩, ⟨_, rfl, rfl⟩, im_X8_day, se_X8_day⟩
theorem sv_RX8_142 : SV RX8 142 mX8_walksOn 8 1 := ⟨⟨cw_X8_walksOn, iz_RX8, ⟨by decide, by decide, by decide +kernel⟩, Or.inl (inG (inT4 (List.mem_of_getElem? (i := 134) rfl)) rfl), by decide⟩, ⟨_, rfl, rfl⟩, im_X8_walksOn, se_X8_walksOn⟩
theorem sv_RX8_145 : SV RX8 145 mX8_isFog 8 1 := ⟨⟨cw_X8_isFog, iz_RX8, ⟨by decide, by decide, by decide +kernel⟩, Or.inl (inG (inT4 (List.mem_of_getElem? (i := 138) rfl)) rfl), by decide⟩, ⟨_, rfl, rfl⟩, im_X8_isFog, se_X8_isFog⟩
theorem sv_RL_51 : SV RL 51 mX8_pass 8 1 := ⟨⟨cw_X8_pass, iz_RX8, ⟨by decide, by decide, by decide +kernel⟩, Or.inl (inG (inT4 (List.mem_of_getElem? (i := 142) rfl)) rfl), by decide⟩, ⟨_, rfl, rfl⟩, im_X8_pass, se_X8_pass⟩
theorem sv_RX8_180 : SV RX8 180 mX8_minds 8 0 := ⟨⟨cw_X8_minds, iz_RX8, ⟨by decide, by decide, by decide +kernel⟩, Or.inl (inG (inT4 (List.mem_of_getElem? (i := 147) rfl)) rfl), by decide⟩, ⟨_, rfl, rfl⟩, im_X8_minds, se_X8_minds⟩
theorem sv_RX8_174 : SV RX8 174 mX8_copy 8 2 := ⟨⟨cw_X8_copy, iz_RX8, ⟨by decide, by decide, by decide +kernel⟩, Or.inl (inG (inT4 (List.mem_of_getElem? (i := 151) rfl)) rfl), by decide⟩, ⟨_, rfl, rfl⟩, im_X8_copy, se_X8_copy⟩
theorem sv_RX8_183 : SV RX8 183 mX8_passesMany 8 2 := ⟨⟨cw_X8_passesMany, iz_RX8, ⟨by decide, by decide, by decide +kernel⟩, Or.inl (inG (inT4 (List.mem_of_getElem? (i := 155) rfl)) rfl), by decide⟩, ⟨_, rfl, rfl⟩, im_X8_passesMany, se_X8_passesMany⟩
theorem sv_RX8_170 : SV RX8 170 mX8_passes 8 2 := ⟨⟨cw_X8_passes, iz_RX8, ⟨by decide, by decide, by decide +kernel⟩, Or.inl (inG (inT4 (List.mem_of_getElem? (i := 159) rfl)) rfl), by decide⟩, ⟨_, rfl, rfl⟩, im_X8_passes, se_X8_passes⟩
theorem sv_RX8_162 : SV RX8 162 mX8_bends 8 3 := ⟨⟨cw_X8_bends, iz_RX8, ⟨by decide, by decide, by decide +kernel⟩, Or.inl (inG (inT4 (List.mem_of_getElem? (i := 163) rfl)) rfl), by decide⟩, ⟨_, rfl, rfl⟩, im_X8_bends, se_X8_bends⟩
theorem ss_RX8_155 : SS RX8 155 mX8_has 2 := ⟨⟨cw_X8_has, iz_RX8, ⟨by decide, by decide, by decide +kernel⟩, Or.inl (inG (inT4 (List.mem_of_getElem? (i := 167) rfl)) rfl), by decide⟩, sm_X8_has⟩
theorem ss_RX8_152 : SS RX8 152 mX8_apart 2 := ⟨⟨cw_X8_apart, iz_RX8, ⟨by decide, by decide, by decide +kernel⟩, Or.inl (inG (inT4 (List.mem_of_getElem? (i := 170) rfl)) rfl), by decide⟩, sm_X8_apart⟩
theorem sv_RX8_158 : SV RX8 158 mX8_goes 8 4 := ⟨⟨cw_X8_goes, iz_RX8, ⟨by decide, by decide, by decide +kernel⟩, Or.inl (inG (inT4 (List.mem_of_getElem? (i := 173) rfl)) rfl), by decide⟩, ⟨_, rfl, rfl⟩, im_X8_goes, se_X8_goes⟩
theorem ss_RX8_148 : SS RX8 148 mX8_toward 2 := ⟨⟨cw_X8_toward, iz_RX8, ⟨by decide, by decide, by decide +kernel⟩, Or.inl (inG (inT4 (List.mem_of_getElem? (i := 177) rfl)) rfl), by decide⟩, sm_X8_toward⟩
theorem sv_RX8_166 : SV RX8 166 mX8_straightens 8 1 := ⟨⟨cw_X8_straightens, iz_RX8, ⟨by decide, by decide, by decide +kernel⟩, Or.inl (inG (inT4 (List.mem_of_getElem? (i := 180) rfl)) rfl), by decide⟩, ⟨_, rfl, rfl⟩, im_X8_straightens, se_X8_straightens⟩
theorem sv_RL_55 : SV RL 55 mX8_walk 8 2 := ⟨⟨cw_X8_walk, iz_RX8, ⟨by decide, by decide, by decide +kernel⟩, Or.inl (inG (inT4 (List.mem_of_getElem? (i := 184) rfl)) rfl), by decide⟩, ⟨_, rfl, rfl⟩, im_X8_walk, se_X8_walk⟩
theorem sv_RL_60 : SV RL 60 mX8_shut 8 2 := ⟨⟨cw_X8_shut, iz_RX8, ⟨by decide, by decide, by decide +kernel⟩, Or.inl (inG (inT4 (List.mem_of_getElem? (i := 188) rfl)) rfl), by decide⟩, ⟨_, rfl, rfl⟩, im_X8_shut, se_X8_shut⟩
theorem ss_RX8_186 : SS RX8 186 mX8_ones 1 := ⟨⟨cw_X8_ones, iz_RX8, ⟨by decide, by decide, by decide +kernel⟩, Or.inl (inG (inT4 (List.mem_of_getElem? (i := 192) rfl)) rfl), by decide⟩, sm_X8_ones⟩
theorem sv_RL_64 : SV RL 64 mX8_undo 8 0 := ⟨⟨cw_X8_undo, iz_RX8, ⟨by decide, by decide, by decide +kernel⟩, Or.inl (inG (inT4 (List.mem_of_getElem? (i := 195) rfl)) rfl), by decide⟩, ⟨_, rfl, rfl⟩, im_X8_undo, se_X8_undo⟩
theorem sv_RL_68 : SV RL 68 mX8_length 8 0 := ⟨⟨cw_X8_length, iz_RX8, ⟨by decide, by decide, by decide +kernel⟩, Or.inl (inG (inT4 (List.mem_of_getElem? (i := 199) rfl)) rfl), by decide⟩, ⟨_, rfl, rfl⟩, im_X8_length, se_X8_length⟩
theorem sv_RX8_189 : SV RX8 189 mX8_lengthOf 8 1 := ⟨⟨cw_X8_lengthOf, iz_RX8, ⟨by decide, by decide, by decide +kernel⟩, Or.inl (inG (inT4 (List.mem_of_getElem? (i := 203) rfl)) rfl), by decide⟩, ⟨_, rfl, rfl⟩, im_X8_lengthOf, se_X8_lengthOf⟩
theorem sv_RL_72 : SV RL 72 mX8_crooks 8 1 := ⟨⟨cw_X8_crooks, iz_RX8, ⟨by decide, by decide, by decide +kernel⟩, Or.inl (inG (inT4 (List.mem_of_getElem? (i := 207) rfl)) rfl), by decide⟩, ⟨_, rfl, rfl⟩, im_X8_crooks, se_X8_crooks⟩
theorem sv_RL_76 : SV RL 76 mX8_milestone 8 1 := ⟨⟨cw_X8_milestone, iz_RX8, ⟨by decide, by decide, by decide +kernel⟩, Or.inl (inG (inT4 (List.mem_of_getElem? (i := 211) rfl)) rfl), by decide⟩, ⟨_, rfl, rfl⟩, im_X8_milestone, se_X8_milestone⟩
theorem sv_RL_80 : SV RL 80 mX8_behind 8 2 := ⟨⟨cw_X8_behind, iz_RX8, ⟨by decide, by decide, by decide +kernel⟩, Or.inl (inG (inT4 (List.mem_of_getElem? (i := 216) rfl)) rfl), by decide⟩, ⟨_, rfl, rfl⟩, im_X8_behind, se_X8_behind⟩
theorem sv_RL_85 : SV RL 85 mX8_door 8 3 := ⟨⟨cw_X8_door, iz_RX8, ⟨by decide, by decide, by decide +kernel⟩, Or.inl (inG (inT4 (List.mem_of_getElem? (i := 221) rfl)) rfl), by decide⟩, ⟨_, rfl, rfl⟩, im_X8_door, se_X8_door⟩
theorem ss_RX8_206 : SS RX8 206 mX8_isYard 1 := ⟨⟨cw_X8_isYard, iz_RX8, ⟨by decide, by decide, by decide +kernel⟩, Or.inl (inG (inT4 (List.mem_of_getElem? (i := 225) rfl)) rfl), by decide⟩, sm_X8_isYard⟩
theorem sv_RX8_211 : SV RX8 211 mX8_fewest 8 2 := ⟨⟨cw_X8_fewest, iz_RX8, ⟨by decide, by decide, by decide +kernel⟩, Or.inl (inG (inT4 (List.mem_of_getElem? (i := 230) rfl)) rfl), by decide⟩, ⟨_, rfl, rfl⟩, im_X8_fewest, se_X8_fewest⟩
theorem sv_RX8_196 : SV RX8 196 mX8_isSo 8 3 := ⟨⟨cw_X8_isSo, iz_RX8, ⟨by decide, by decide, by decide +kernel⟩, Or.inl (inG (inT4 (List.mem_of_getElem? (i := 234) rfl)) rfl), by decide⟩, ⟨_, rfl, rfl⟩, im_X8_isSo, se_X8_isSo⟩
theorem sv_RX8_199 : SV RX8 199 mX8_walksMany 8 0 := ⟨⟨cw_X8_walksMany, iz_RX8, ⟨by decide, by decide, by decide +kernel⟩, Or.inl (inG (inT4 (List.mem_of_getElem? (i := 238) rfl)) rfl), by decide⟩, ⟨_, rfl, rfl⟩, im_X8_walksMany, se_X8_walksMany⟩
theorem sv_RX8_202 : SV RX8 202 mX8_tries 8 3 := ⟨⟨cw_X8_tries, iz_RX8, ⟨by decide, by decide, by decide +kernel⟩, Or.inl (inG (inT5 (List.mem_of_getElem? (i := 2) rfl)) rfl), by decide⟩, ⟨_, rfl, rfl⟩, im_X8_tries, se_X8_tries⟩
theorem sv_RL_89 : SV RL 89 mX8_mile 8 1 := ⟨⟨cw_X8_mile, iz_RX8, ⟨by decide, by decide, by decide +kernel⟩, Or.inl (inG (inT5 (List.mem_of_getElem? (i := 6) rfl)) rfl), by decide⟩, ⟨_, rfl, rfl⟩, im_X8_mile, se_X8_mile⟩
theorem sv_RL_93 : SV RL 93 mX8_window 8 2 := ⟨⟨cw_X8_window, iz_RX8, ⟨by decide, by decide, by decide +kernel⟩, Or.inl (inG (inT5 (List.mem_of_getElem? (i := 11) rfl)) rfl), by decide⟩, ⟨_, rfl, rfl⟩, im_X8_window, se_X8_window⟩
theorem sv_RL_97 : SV RL 97 mX8_bent 8 2 := ⟨⟨cw_X8_bent, iz_RX8, ⟨by decide, by decide, by decide +kernel⟩, Or.inl (inG (inT5 (List.mem_of_getElem? (i := 15) rfl)) rfl), by decide⟩, ⟨_, rfl, rfl⟩, im_X8_bent, se_X8_bent⟩
theorem sv_RL_101 : SV RL 101 mX8_found 8 3 := ⟨⟨cw_X8_found, iz_RX8, ⟨by decide, by decide, by decide +kernel⟩, Or.inl (inG (inT5 (List.mem_of_getElem? (i := 19) rfl)) rfl), by decide⟩, ⟨_, rfl, rfl⟩, im_X8_found, se_X8_found⟩
theorem sv_RL_105 : SV RL 105 mX8_forget 8 0 := ⟨⟨cw_X8_forget, iz_RX8, ⟨by decide, by decide, by decide +kernel⟩, Or.inl (inG (inT5 (List.mem_of_getElem? (i := 24) rfl)) rfl), by decide⟩, ⟨_, rfl, rfl⟩, im_X8_forget, se_X8_forget⟩
theorem sv_RL_109 : SV RL 109 mX8_looked 8 1 := ⟨⟨cw_X8_looked, iz_RX8, ⟨by decide, by decide, by decide +kernel⟩, Or.inl (inG (inT5 (List.mem_of_getElem? (i := 28) rfl)) rfl), by decide⟩, ⟨_, rfl, rfl⟩, im_X8_looked, se_X8_looked⟩
theorem sv_RL_113 : SV RL 113 mX8_fog 8 0 := ⟨⟨cw_X8_fog, iz_RX8, ⟨by decide, by decide, by decide +kernel⟩, Or.inl (inG (inT5 (List.mem_of_getElem? (i := 32) rfl)) rfl), by decide⟩, ⟨_, rfl, rfl⟩, im_X8_fog, se_X8_fog⟩
theorem sv_RL_118 : SV RL 118 mX8_parishes 8 5 := ⟨⟨cw_X8_parishes, iz_RX8, ⟨by decide, by decide, by decide +kernel⟩, Or.inl (inG (inT5 (List.mem_of_getElem? (i := 36) rfl)) rfl), by decide⟩, ⟨_, rfl, rfl⟩, im_X8_parishes, se_X8_parishes⟩
theorem sv_RL_122 : SV RL 122 mX8_year 8 3 := ⟨⟨cw_X8_year, iz_RX8, ⟨by decide, by decide, by decide +kernel⟩, Or.inl (inG (inT5 (List.mem_of_getElem? (i := 40) rfl)) rfl), by decide⟩, ⟨_, rfl, rfl⟩, im_X8_year, se_X8_year⟩
theorem sv_RL_126 : SV RL 126 mX8_keep 8 0 := ⟨⟨cw_X8_keep, iz_RX8, ⟨by decide, by decide, by decide +kernel⟩, Or.inl (inG (inT5 (List.mem_of_getElem? (i := 49) rfl)) rfl), by decide⟩, ⟨_, rfl, rfl⟩, im_X8_keep, se_X8_keep⟩
theorem sv_RL_130 : SV RL 130 mX8_back 8 0 := ⟨⟨cw_X8_back, iz_RX8, ⟨by decide, by decide, by decide +kernel⟩, Or.inl (inG (inT5 (List.mem_of_getElem? (i := 53) rfl)) rfl), by decide⟩, ⟨_, rfl, rfl⟩, im_X8_back, se_X8_back⟩
theorem sv_RL_134 : SV RL 134 mX8_count 8 1 := ⟨⟨cw_X8_count, iz_RX8, ⟨by decide, by decide, by decide +kernel⟩, Or.inl (inG (inT5 (List.mem_of_getElem? (i := 57) rfl)) rfl), by decide⟩, ⟨_, rfl, rfl⟩, im_X8_count, se_X8_count⟩
theorem fw_RJ0_9 : Cond.fieldLink RJ0 9 "java/lang/String" "value" "[B" ∈ tblG := inG (inT5 (List.mem_of_getElem? (i := 61) rfl)) rfl
theorem fw_RJ0_15 : Cond.fieldLink RJ0 15 "java/lang/String" "coder" "B" ∈ tblG := inG (inT5 (List.mem_of_getElem? (i := 62) rfl)) rfl
theorem iz_sys : Cond.initialized "java/lang/System" ∈ tblG := inG (inT1 (List.mem_of_getElem? (i := 14) rfl)) rfl
theorem im_obj : Cond.instanceMethod Lib.objectInit ∈ tblG := inG (inT1 (List.mem_of_getElem? (i := 23) rfl)) rfl
theorem cw_obj : Cond.code Lib.objectInit ⟨#[0xb1]⟩ 1 none ∈ tblG := inG (inT1 (List.mem_of_getElem? (i := 24) rfl)) rfl
theorem sm_acopy : Cond.static arraycopyName ∈ tblG := inG (inT2 (List.mem_of_getElem? (i := 100) rfl)) rfl
