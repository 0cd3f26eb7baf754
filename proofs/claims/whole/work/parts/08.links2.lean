theorem fX8_79 : Fl RX8 79 3 2 RX3 TX3 13 tyX3 := ⟨clX3, by decide, Or.inr ⟨"FaceCoins", nl_1 (i := 90) (by decide +kernel) rfl⟩⟩
theorem fX8_82 : Fl RX8 82 1 0 RX1 TX1 15 tyX1 := ⟨clX1, by decide, Or.inr ⟨"FaceCoins", nl_1 (i := 191) (by decide +kernel) rfl⟩⟩
theorem mX8_85 : MlV RX8 85 8 yX8_isCoin cX8_isCoin 2 (some .boolean) 1 := ⟨⟨⟨by decide +kernel, by decide +kernel, by decide +kernel⟩, by decide, co_X8_isCoin, ini_X8, _, rfl, rfl, by decide⟩, im_X8_isCoin, se_X8_isCoin, Or.inl (gt_3 (i := 219) (by decide +kernel) (by decide +kernel))⟩
theorem fX8_88 : Fl RX8 88 1 13 RX1 TX1 15 tyX1 := ⟨clX1, by decide, Or.inr ⟨"FaceCoins", nl_1 (i := 230) (by decide +kernel) rfl⟩⟩
theorem mX8_92 : MlV RX8 92 6 yX6_at cX6_at 4 (some .int) 2 := ⟨⟨⟨by decide +kernel, by decide +kernel, by decide +kernel⟩, by decide, co_X6_at, ini_X6, _, rfl, rfl, by decide⟩, im_X6_at, se_X6_at, Or.inl (gt_3 (i := 201) (by decide +kernel) (by decide +kernel))⟩
theorem mX8_96 : MlV RX8 96 1 yX1_strokeAt cX1_strokeAt 3 (some .int) 2 := ⟨⟨⟨by decide +kernel, by decide +kernel, by decide +kernel⟩, by decide, co_X1_strokeAt, ini_X1, _, rfl, rfl, by decide⟩, im_X1_strokeAt, se_X1_strokeAt, Or.inl (gt_3 (i := 193) (by decide +kernel) (by decide +kernel))⟩
theorem mX8_99 : MlV RX8 99 8 yX8_whoShown cX8_whoShown 3 (some .int) 2 := ⟨⟨⟨by decide +kernel, by decide +kernel, by decide +kernel⟩, by decide, co_X8_whoShown, ini_X8, _, rfl, rfl, by decide⟩, im_X8_whoShown, se_X8_whoShown, Or.inl (gt_5 (i := 66) (by decide +kernel) (by decide +kernel))⟩
theorem mX8_102 : MlV RX8 102 8 yX8_whoOnTop cX8_whoOnTop 2 (some .int) 1 := ⟨⟨⟨by decide +kernel, by decide +kernel, by decide +kernel⟩, by decide, co_X8_whoOnTop, ini_X8, _, rfl, rfl, by decide⟩, im_X8_whoOnTop, se_X8_whoOnTop, Or.inl (gt_3 (i := 224) (by decide +kernel) (by decide +kernel))⟩
theorem fX8_106 : Fl RX8 106 3 11 RX3 TX3 13 tyX3 := ⟨clX3, by decide, Or.inr ⟨"FaceCoins", nl_1 (i := 114) (by decide +kernel) rfl⟩⟩
theorem fX8_109 : Fl RX8 109 3 5 RX3 TX3 13 tyX3 := ⟨clX3, by decide, Or.inr ⟨"FaceCoins", nl_1 (i := 97) (by decide +kernel) rfl⟩⟩
theorem fX8_117 : Fl RX8 117 3 6 RX3 TX3 13 tyX3 := ⟨clX3, by decide, Or.inr ⟨"FaceCoins", nl_1 (i := 100) (by decide +kernel) rfl⟩⟩
theorem co_X3_takenAt : Cond.code yX3_takenAt cX3_takenAt 4 (some .int) ∈ gt := gt_3 (i := 235) (by decide +kernel) (by decide +kernel)
theorem im_X3_takenAt : Cond.instanceMethod yX3_takenAt ∈ gt := gt_3 (i := 233) (by decide +kernel) (by decide +kernel)
theorem se_X3_takenAt : Cond.selects yX3_takenAt.cls yX3_takenAt yX3_takenAt ∈ gt := gt_3 (i := 234) (by decide +kernel) (by decide +kernel)
theorem mX8_120 : MlV RX8 120 3 yX3_takenAt cX3_takenAt 4 (some .int) 2 := ⟨⟨⟨by decide +kernel, by decide +kernel, by decide +kernel⟩, by decide, co_X3_takenAt, ini_X3, _, rfl, rfl, by decide⟩, im_X3_takenAt, se_X3_takenAt, Or.inl (gt_3 (i := 232) (by decide +kernel) (by decide +kernel))⟩
theorem fX8_123 : Fl RX8 123 1 9 RX1 TX1 15 tyX1 := ⟨clX1, by decide, Or.inr ⟨"FaceCoins", nl_1 (i := 215) (by decide +kernel) rfl⟩⟩
theorem mX8_126 : MlV RX8 126 8 yX8_hundredths cX8_hundredths 5 (some .int) 3 := ⟨⟨⟨by decide +kernel, by decide +kernel, by decide +kernel⟩, by decide, co_X8_hundredths, ini_X8, _, rfl, rfl, by decide⟩, im_X8_hundredths, se_X8_hundredths, Or.inl (gt_4 (i := 0) (by decide +kernel) (by decide +kernel))⟩
theorem mX8_130 : MlV RX8 130 8 yX8_isMint cX8_isMint 2 (some .boolean) 1 := ⟨⟨⟨by decide +kernel, by decide +kernel, by decide +kernel⟩, by decide, co_X8_isMint, ini_X8, _, rfl, rfl, by decide⟩, im_X8_isMint, se_X8_isMint, Or.inl (gt_3 (i := 141) (by decide +kernel) (by decide +kernel))⟩
theorem mX8_133 : MlV RX8 133 1 yX1_isClosed cX1_isClosed 2 (some .boolean) 1 := ⟨⟨⟨by decide +kernel, by decide +kernel, by decide +kernel⟩, by decide, co_X1_isClosed, ini_X1, _, rfl, rfl, by decide⟩, im_X1_isClosed, se_X1_isClosed, Or.inl (gt_3 (i := 142) (by decide +kernel) (by decide +kernel))⟩
theorem fX8_136 : Fl RX8 136 3 8 RX3 TX3 13 tyX3 := ⟨clX3, by decide, Or.inr ⟨"FaceCoins", nl_1 (i := 106) (by decide +kernel) rfl⟩⟩
theorem mX8_139 : MlV RX8 139 8 yX8_strokesLeft cX8_strokesLeft 1 (some .int) 0 := ⟨⟨⟨by decide +kernel, by decide +kernel, by decide +kernel⟩, by decide, co_X8_strokesLeft, ini_X8, _, rfl, rfl, by decide⟩, im_X8_strokesLeft, se_X8_strokesLeft, Or.inl (gt_3 (i := 168) (by decide +kernel) (by decide +kernel))⟩
theorem co_X6_put : Cond.code yX6_put cX6_put 5 none ∈ gt := gt_3 (i := 172) (by decide +kernel) (by decide +kernel)
theorem im_X6_put : Cond.instanceMethod yX6_put ∈ gt := gt_3 (i := 170) (by decide +kernel) (by decide +kernel)
theorem se_X6_put : Cond.selects yX6_put.cls yX6_put yX6_put ∈ gt := gt_3 (i := 171) (by decide +kernel) (by decide +kernel)
theorem mX8_143 : MlV RX8 143 6 yX6_put cX6_put 5 none 3 := ⟨⟨⟨by decide +kernel, by decide +kernel, by decide +kernel⟩, by decide, co_X6_put, ini_X6, _, rfl, rfl, by decide⟩, im_X6_put, se_X6_put, Or.inl (gt_3 (i := 169) (by decide +kernel) (by decide +kernel))⟩
theorem fX8_147 : Fl RX8 147 1 3 RX1 TX1 15 tyX1 := ⟨clX1, by decide, Or.inr ⟨"FaceCoins", nl_1 (i := 200) (by decide +kernel) rfl⟩⟩
theorem fX8_150 : Fl RX8 150 3 9 RX3 TX3 13 tyX3 := ⟨clX3, by decide, Or.inr ⟨"FaceCoins", nl_1 (i := 110) (by decide +kernel) rfl⟩⟩
theorem co_X1_cover : Cond.code yX1_cover cX1_cover 8 none ∈ gt := gt_3 (i := 176) (by decide +kernel) (by decide +kernel)
theorem im_X1_cover : Cond.instanceMethod yX1_cover ∈ gt := gt_3 (i := 174) (by decide +kernel) (by decide +kernel)
theorem se_X1_cover : Cond.selects yX1_cover.cls yX1_cover yX1_cover ∈ gt := gt_3 (i := 175) (by decide +kernel) (by decide +kernel)
theorem mX8_153 : MlV RX8 153 1 yX1_cover cX1_cover 8 none 4 := ⟨⟨⟨by decide +kernel, by decide +kernel, by decide +kernel⟩, by decide, co_X1_cover, ini_X1, _, rfl, rfl, by decide⟩, im_X1_cover, se_X1_cover, Or.inl (gt_3 (i := 173) (by decide +kernel) (by decide +kernel))⟩
theorem mX8_157 : MlV RX8 157 8 yX8_strike cX8_strike 7 none 5 := ⟨⟨⟨by decide +kernel, by decide +kernel, by decide +kernel⟩, by decide, co_X8_strike, ini_X8, _, rfl, rfl, by decide⟩, im_X8_strike, se_X8_strike, Or.inl (gt_4 (i := 39) (by decide +kernel) (by decide +kernel))⟩
theorem fX8_161 : Fl RX8 161 1 10 RX1 TX1 15 tyX1 := ⟨clX1, by decide, Or.inr ⟨"FaceCoins", nl_1 (i := 220) (by decide +kernel) rfl⟩⟩
theorem co_X9_who : Cond.code yX9_who cX9_who 3 (some .int) ∈ gt := gt_5 (i := 106) (by decide +kernel) (by decide +kernel)
theorem im_X9_who : Cond.instanceMethod yX9_who ∈ gt := gt_5 (i := 104) (by decide +kernel) (by decide +kernel)
theorem se_X9_who : Cond.selects yX9_who.cls yX9_who yX9_who ∈ gt := gt_5 (i := 105) (by decide +kernel) (by decide +kernel)
theorem mL_7 : MlV RL 7 9 yX9_who cX9_who 3 (some .int) 2 := ⟨⟨⟨by decide +kernel, by decide +kernel, by decide +kernel⟩, by decide, co_X9_who, ini_X9, _, rfl, rfl, by decide⟩, im_X9_who, se_X9_who, Or.inl (gt_5 (i := 103) (by decide +kernel) (by decide +kernel))⟩
theorem nL_8 : Cond.classLink RL 8 RX9 ∈ gt := gt_1 (i := 22) (by decide +kernel) (by decide +kernel)
theorem co_X9_mint : Cond.code yX9_mint cX9_mint 3 (some .int) ∈ gt := gt_5 (i := 192) (by decide +kernel) (by decide +kernel)
theorem im_X9_mint : Cond.instanceMethod yX9_mint ∈ gt := gt_5 (i := 190) (by decide +kernel) (by decide +kernel)
theorem se_X9_mint : Cond.selects yX9_mint.cls yX9_mint yX9_mint ∈ gt := gt_5 (i := 191) (by decide +kernel) (by decide +kernel)
theorem mL_15 : MlV RL 15 9 yX9_mint cX9_mint 3 (some .int) 2 := ⟨⟨⟨by decide +kernel, by decide +kernel, by decide +kernel⟩, by decide, co_X9_mint, ini_X9, _, rfl, rfl, by decide⟩, im_X9_mint, se_X9_mint, Or.inl (gt_5 (i := 189) (by decide +kernel) (by decide +kernel))⟩
theorem co_X9_of : Cond.code yX9_of cX9_of 3 (some .int) ∈ gt := gt_5 (i := 205) (by decide +kernel) (by decide +kernel)
theorem im_X9_of : Cond.instanceMethod yX9_of ∈ gt := gt_5 (i := 203) (by decide +kernel) (by decide +kernel)
theorem se_X9_of : Cond.selects yX9_of.cls yX9_of yX9_of ∈ gt := gt_5 (i := 204) (by decide +kernel) (by decide +kernel)
theorem mL_18 : MlV RL 18 9 yX9_of cX9_of 3 (some .int) 2 := ⟨⟨⟨by decide +kernel, by decide +kernel, by decide +kernel⟩, by decide, co_X9_of, ini_X9, _, rfl, rfl, by decide⟩, im_X9_of, se_X9_of, Or.inl (gt_5 (i := 202) (by decide +kernel) (by decide +kernel))⟩
theorem co_X9_sold : Cond.code yX9_sold cX9_sold 3 (some .int) ∈ gt := gt_5 (i := 215) (by decide +kernel) (by decide +kernel)
theorem im_X9_sold : Cond.instanceMethod yX9_sold ∈ gt := gt_5 (i := 213) (by decide +kernel) (by decide +kernel)
theorem se_X9_sold : Cond.selects yX9_sold.cls yX9_sold yX9_sold ∈ gt := gt_5 (i := 214) (by decide +kernel) (by decide +kernel)
theorem mL_21 : MlV RL 21 9 yX9_sold cX9_sold 3 (some .int) 2 := ⟨⟨⟨by decide +kernel, by decide +kernel, by decide +kernel⟩, by decide, co_X9_sold, ini_X9, _, rfl, rfl, by decide⟩, im_X9_sold, se_X9_sold, Or.inl (gt_5 (i := 212) (by decide +kernel) (by decide +kernel))⟩
theorem co_X9_stroke : Cond.code yX9_stroke cX9_stroke 3 (some .int) ∈ gt := gt_5 (i := 225) (by decide +kernel) (by decide +kernel)
theorem im_X9_stroke : Cond.instanceMethod yX9_stroke ∈ gt := gt_5 (i := 223) (by decide +kernel) (by decide +kernel)
theorem se_X9_stroke : Cond.selects yX9_stroke.cls yX9_stroke yX9_stroke ∈ gt := gt_5 (i := 224) (by decide +kernel) (by decide +kernel)
theorem mL_24 : MlV RL 24 9 yX9_stroke cX9_stroke 3 (some .int) 2 := ⟨⟨⟨by decide +kernel, by decide +kernel, by decide +kernel⟩, by decide, co_X9_stroke, ini_X9, _, rfl, rfl, by decide⟩, im_X9_stroke, se_X9_stroke, Or.inl (gt_5 (i := 222) (by decide +kernel) (by decide +kernel))⟩
theorem co_X9_init : Cond.code yX9_init cX9_init 2 none ∈ gt := gt_1 (i := 26) (by decide +kernel) (by decide +kernel)
theorem im_X9_init : Cond.instanceMethod yX9_init ∈ gt := gt_1 (i := 25) (by decide +kernel) (by decide +kernel)
theorem mL_27 : MlI RL 27 9 yX9_init cX9_init 2 0 := ⟨⟨⟨by decide +kernel, by decide +kernel, by decide +kernel⟩, by decide, co_X9_init, ini_X9, _, rfl, rfl, by decide⟩, im_X9_init, gt_1 (i := 24) (by decide +kernel) (by decide +kernel), rfl⟩
theorem nL_28 : Cond.classLink RL 28 RX10 ∈ gt := gt_5 (i := 232) (by decide +kernel) (by decide +kernel)
theorem ini_X10 : Cond.initialized RX10 ∈ gt := gt_1 (i := 11) (by decide +kernel) (by decide +kernel)
theorem co_X10_init : Cond.code yX10_init cX10_init 1 none ∈ gt := gt_5 (i := 236) (by decide +kernel) (by decide +kernel)
theorem im_X10_init : Cond.instanceMethod yX10_init ∈ gt := gt_5 (i := 235) (by decide +kernel) (by decide +kernel)
theorem mL_30 : MlI RL 30 10 yX10_init cX10_init 1 0 := ⟨⟨⟨by decide +kernel, by decide +kernel, by decide +kernel⟩, by decide, co_X10_init, ini_X10, _, rfl, rfl, by decide⟩, im_X10_init, gt_5 (i := 234) (by decide +kernel) (by decide +kernel), rfl⟩
theorem co_X9_feed : Cond.code yX9_feed cX9_feed 6 (some .int) ∈ gt := gt_2 (i := 191) (by decide +kernel) (by decide +kernel)
theorem im_X9_feed : Cond.instanceMethod yX9_feed ∈ gt := gt_2 (i := 189) (by decide +kernel) (by decide +kernel)
theorem se_X9_feed : Cond.selects yX9_feed.cls yX9_feed yX9_feed ∈ gt := gt_2 (i := 190) (by decide +kernel) (by decide +kernel)
theorem mL_31 : MlV RL 31 9 yX9_feed cX9_feed 6 (some .int) 5 := ⟨⟨⟨by decide +kernel, by decide +kernel, by decide +kernel⟩, by decide, co_X9_feed, ini_X9, _, rfl, rfl, by decide⟩, im_X9_feed, se_X9_feed, Or.inl (gt_2 (i := 188) (by decide +kernel) (by decide +kernel))⟩
theorem co_X10_feed : Cond.code yX10_feed cX10_feed 6 (some .int) ∈ gt := gt_6 (i := 150) (by decide +kernel) (by decide +kernel)
theorem im_X10_feed : Cond.instanceMethod yX10_feed ∈ gt := gt_6 (i := 148) (by decide +kernel) (by decide +kernel)
theorem se_X10_feed : Cond.selects yX10_feed.cls yX10_feed yX10_feed ∈ gt := gt_6 (i := 149) (by decide +kernel) (by decide +kernel)
theorem mL_35 : MlV RL 35 10 yX10_feed cX10_feed 6 (some .int) 5 := ⟨⟨⟨by decide +kernel, by decide +kernel, by decide +kernel⟩, by decide, co_X10_feed, ini_X10, _, rfl, rfl, by decide⟩, im_X10_feed, se_X10_feed, Or.inl (gt_6 (i := 147) (by decide +kernel) (by decide +kernel))⟩
theorem co_X9_end : Cond.code yX9_end cX9_end 2 (some .boolean) ∈ gt := gt_2 (i := 199) (by decide +kernel) (by decide +kernel)
theorem im_X9_end : Cond.instanceMethod yX9_end ∈ gt := gt_2 (i := 197) (by decide +kernel) (by decide +kernel)
theorem se_X9_end : Cond.selects yX9_end.cls yX9_end yX9_end ∈ gt := gt_2 (i := 198) (by decide +kernel) (by decide +kernel)
theorem mL_36 : MlV RL 36 9 yX9_end cX9_end 2 (some .boolean) 1 := ⟨⟨⟨by decide +kernel, by decide +kernel, by decide +kernel⟩, by decide, co_X9_end, ini_X9, _, rfl, rfl, by decide⟩, im_X9_end, se_X9_end, Or.inl (gt_2 (i := 196) (by decide +kernel) (by decide +kernel))⟩
theorem co_X10_end : Cond.code yX10_end cX10_end 2 (some .boolean) ∈ gt := gt_6 (i := 158) (by decide +kernel) (by decide +kernel)
theorem im_X10_end : Cond.instanceMethod yX10_end ∈ gt := gt_6 (i := 156) (by decide +kernel) (by decide +kernel)
theorem se_X10_end : Cond.selects yX10_end.cls yX10_end yX10_end ∈ gt := gt_6 (i := 157) (by decide +kernel) (by decide +kernel)
theorem mL_40 : MlV RL 40 10 yX10_end cX10_end 2 (some .boolean) 1 := ⟨⟨⟨by decide +kernel, by decide +kernel, by decide +kernel⟩, by decide, co_X10_end, ini_X10, _, rfl, rfl, by decide⟩, im_X10_end, se_X10_end, Or.inl (gt_6 (i := 155) (by decide +kernel) (by decide +kernel))⟩
theorem co_X9_law : Cond.code yX9_law cX9_law 1 (some .int) ∈ gt := gt_2 (i := 203) (by decide +kernel) (by decide +kernel)
theorem im_X9_law : Cond.instanceMethod yX9_law ∈ gt := gt_2 (i := 201) (by decide +kernel) (by decide +kernel)
theorem se_X9_law : Cond.selects yX9_law.cls yX9_law yX9_law ∈ gt := gt_2 (i := 202) (by decide +kernel) (by decide +kernel)
theorem mL_41 : MlV RL 41 9 yX9_law cX9_law 1 (some .int) 0 := ⟨⟨⟨by decide +kernel, by decide +kernel, by decide +kernel⟩, by decide, co_X9_law, ini_X9, _, rfl, rfl, by decide⟩, im_X9_law, se_X9_law, Or.inl (gt_2 (i := 200) (by decide +kernel) (by decide +kernel))⟩
theorem co_X10_law : Cond.code yX10_law cX10_law 3 (some .int) ∈ gt := gt_6 (i := 162) (by decide +kernel) (by decide +kernel)
theorem im_X10_law : Cond.instanceMethod yX10_law ∈ gt := gt_6 (i := 160) (by decide +kernel) (by decide +kernel)
theorem se_X10_law : Cond.selects yX10_law.cls yX10_law yX10_law ∈ gt := gt_6 (i := 161) (by decide +kernel) (by decide +kernel)
theorem mL_45 : MlV RL 45 10 yX10_law cX10_law 3 (some .int) 0 := ⟨⟨⟨by decide +kernel, by decide +kernel, by decide +kernel⟩, by decide, co_X10_law, ini_X10, _, rfl, rfl, by decide⟩, im_X10_law, se_X10_law, Or.inl (gt_6 (i := 159) (by decide +kernel) (by decide +kernel))⟩
theorem co_X9_fault : Cond.code yX9_fault cX9_fault 1 (some .int) ∈ gt := gt_3 (i := 116) (by decide +kernel) (by decide +kernel)
theorem im_X9_fault : Cond.instanceMethod yX9_fault ∈ gt := gt_3 (i := 114) (by decide +kernel) (by decide +kernel)
theorem se_X9_fault : Cond.selects yX9_fault.cls yX9_fault yX9_fault ∈ gt := gt_3 (i := 115) (by decide +kernel) (by decide +kernel)
theorem mL_46 : MlV RL 46 9 yX9_fault cX9_fault 1 (some .int) 0 := ⟨⟨⟨by decide +kernel, by decide +kernel, by decide +kernel⟩, by decide, co_X9_fault, ini_X9, _, rfl, rfl, by decide⟩, im_X9_fault, se_X9_fault, Or.inl (gt_3 (i := 113) (by decide +kernel) (by decide +kernel))⟩
theorem co_X10_fault : Cond.code yX10_fault cX10_fault 1 (some .int) ∈ gt := gt_7 (i := 29) (by decide +kernel) (by decide +kernel)
theorem im_X10_fault : Cond.instanceMethod yX10_fault ∈ gt := gt_7 (i := 27) (by decide +kernel) (by decide +kernel)
theorem se_X10_fault : Cond.selects yX10_fault.cls yX10_fault yX10_fault ∈ gt := gt_7 (i := 28) (by decide +kernel) (by decide +kernel)
theorem mL_49 : MlV RL 49 10 yX10_fault cX10_fault 1 (some .int) 0 := ⟨⟨⟨by decide +kernel, by decide +kernel, by decide +kernel⟩, by decide, co_X10_fault, ini_X10, _, rfl, rfl, by decide⟩, im_X10_fault, se_X10_fault, Or.inl (gt_7 (i := 26) (by decide +kernel) (by decide +kernel))⟩
theorem co_X10_who : Cond.code yX10_who cX10_who 5 (some .int) ∈ gt := gt_7 (i := 33) (by decide +kernel) (by decide +kernel)
theorem im_X10_who : Cond.instanceMethod yX10_who ∈ gt := gt_7 (i := 31) (by decide +kernel) (by decide +kernel)
theorem se_X10_who : Cond.selects yX10_who.cls yX10_who yX10_who ∈ gt := gt_7 (i := 32) (by decide +kernel) (by decide +kernel)
theorem mL_55 : MlV RL 55 10 yX10_who cX10_who 5 (some .int) 2 := ⟨⟨⟨by decide +kernel, by decide +kernel, by decide +kernel⟩, by decide, co_X10_who, ini_X10, _, rfl, rfl, by decide⟩, im_X10_who, se_X10_who, Or.inl (gt_7 (i := 30) (by decide +kernel) (by decide +kernel))⟩
theorem co_X10_thrown : Cond.code yX10_thrown cX10_thrown 1 (some .int) ∈ gt := gt_6 (i := 146) (by decide +kernel) (by decide +kernel)
theorem im_X10_thrown : Cond.instanceMethod yX10_thrown ∈ gt := gt_6 (i := 144) (by decide +kernel) (by decide +kernel)
theorem se_X10_thrown : Cond.selects yX10_thrown.cls yX10_thrown yX10_thrown ∈ gt := gt_6 (i := 145) (by decide +kernel) (by decide +kernel)
theorem mL_56 : MlV RL 56 10 yX10_thrown cX10_thrown 1 (some .int) 0 := ⟨⟨⟨by decide +kernel, by decide +kernel, by decide +kernel⟩, by decide, co_X10_thrown, ini_X10, _, rfl, rfl, by decide⟩, im_X10_thrown, se_X10_thrown, Or.inl (gt_6 (i := 143) (by decide +kernel) (by decide +kernel))⟩
theorem co_X10_mint : Cond.code yX10_mint cX10_mint 5 (some .int) ∈ gt := gt_7 (i := 65) (by decide +kernel) (by decide +kernel)
theorem im_X10_mint : Cond.instanceMethod yX10_mint ∈ gt := gt_7 (i := 63) (by decide +kernel) (by decide +kernel)
theorem se_X10_mint : Cond.selects yX10_mint.cls yX10_mint yX10_mint ∈ gt := gt_7 (i := 64) (by decide +kernel) (by decide +kernel)
theorem mL_61 : MlV RL 61 10 yX10_mint cX10_mint 5 (some .int) 2 := ⟨⟨⟨by decide +kernel, by decide +kernel, by decide +kernel⟩, by decide, co_X10_mint, ini_X10, _, rfl, rfl, by decide⟩, im_X10_mint, se_X10_mint, Or.inl (gt_7 (i := 62) (by decide +kernel) (by decide +kernel))⟩
theorem co_X9_coin : Cond.code yX9_coin cX9_coin 5 (some .int) ∈ gt := gt_3 (i := 120) (by decide +kernel) (by decide +kernel)
theorem im_X9_coin : Cond.instanceMethod yX9_coin ∈ gt := gt_3 (i := 118) (by decide +kernel) (by decide +kernel)
theorem se_X9_coin : Cond.selects yX9_coin.cls yX9_coin yX9_coin ∈ gt := gt_3 (i := 119) (by decide +kernel) (by decide +kernel)
theorem mL_62 : MlV RL 62 9 yX9_coin cX9_coin 5 (some .int) 3 := ⟨⟨⟨by decide +kernel, by decide +kernel, by decide +kernel⟩, by decide, co_X9_coin, ini_X9, _, rfl, rfl, by decide⟩, im_X9_coin, se_X9_coin, Or.inl (gt_3 (i := 117) (by decide +kernel) (by decide +kernel))⟩
theorem co_X10_coin : Cond.code yX10_coin cX10_coin 7 (some .int) ∈ gt := gt_7 (i := 81) (by decide +kernel) (by decide +kernel)
theorem im_X10_coin : Cond.instanceMethod yX10_coin ∈ gt := gt_7 (i := 79) (by decide +kernel) (by decide +kernel)
theorem se_X10_coin : Cond.selects yX10_coin.cls yX10_coin yX10_coin ∈ gt := gt_7 (i := 80) (by decide +kernel) (by decide +kernel)
theorem mL_66 : MlV RL 66 10 yX10_coin cX10_coin 7 (some .int) 3 := ⟨⟨⟨by decide +kernel, by decide +kernel, by decide +kernel⟩, by decide, co_X10_coin, ini_X10, _, rfl, rfl, by decide⟩, im_X10_coin, se_X10_coin, Or.inl (gt_7 (i := 78) (by decide +kernel) (by decide +kernel))⟩
theorem co_X10_of : Cond.code yX10_of cX10_of 3 (some .int) ∈ gt := gt_7 (i := 101) (by decide +kernel) (by decide +kernel)
theorem im_X10_of : Cond.instanceMethod yX10_of ∈ gt := gt_7 (i := 99) (by decide +kernel) (by decide +kernel)
theorem se_X10_of : Cond.selects yX10_of.cls yX10_of yX10_of ∈ gt := gt_7 (i := 100) (by decide +kernel) (by decide +kernel)
theorem mL_69 : MlV RL 69 10 yX10_of cX10_of 3 (some .int) 2 := ⟨⟨⟨by decide +kernel, by decide +kernel, by decide +kernel⟩, by decide, co_X10_of, ini_X10, _, rfl, rfl, by decide⟩, im_X10_of, se_X10_of, Or.inl (gt_7 (i := 98) (by decide +kernel) (by decide +kernel))⟩
theorem co_X9_face : Cond.code yX9_face cX9_face 4 (some .int) ∈ gt := gt_3 (i := 184) (by decide +kernel) (by decide +kernel)
theorem im_X9_face : Cond.instanceMethod yX9_face ∈ gt := gt_3 (i := 182) (by decide +kernel) (by decide +kernel)
theorem se_X9_face : Cond.selects yX9_face.cls yX9_face yX9_face ∈ gt := gt_3 (i := 183) (by decide +kernel) (by decide +kernel)
theorem mL_70 : MlV RL 70 9 yX9_face cX9_face 4 (some .int) 3 := ⟨⟨⟨by decide +kernel, by decide +kernel, by decide +kernel⟩, by decide, co_X9_face, ini_X9, _, rfl, rfl, by decide⟩, im_X9_face, se_X9_face, Or.inl (gt_3 (i := 181) (by decide +kernel) (by decide +kernel))⟩
theorem co_X10_face : Cond.code yX10_face cX10_face 4 (some .int) ∈ gt := gt_7 (i := 117) (by decide +kernel) (by decide +kernel)
theorem im_X10_face : Cond.instanceMethod yX10_face ∈ gt := gt_7 (i := 115) (by decide +kernel) (by decide +kernel)
theorem se_X10_face : Cond.selects yX10_face.cls yX10_face yX10_face ∈ gt := gt_7 (i := 116) (by decide +kernel) (by decide +kernel)
theorem mL_73 : MlV RL 73 10 yX10_face cX10_face 4 (some .int) 3 := ⟨⟨⟨by decide +kernel, by decide +kernel, by decide +kernel⟩, by decide, co_X10_face, ini_X10, _, rfl, rfl, by decide⟩, im_X10_face, se_X10_face, Or.inl (gt_7 (i := 114) (by decide +kernel) (by decide +kernel))⟩
theorem co_X9_value : Cond.code yX9_value cX9_value 4 (some .int) ∈ gt := gt_3 (i := 213) (by decide +kernel) (by decide +kernel)
theorem im_X9_value : Cond.instanceMethod yX9_value ∈ gt := gt_3 (i := 211) (by decide +kernel) (by decide +kernel)
theorem se_X9_value : Cond.selects yX9_value.cls yX9_value yX9_value ∈ gt := gt_3 (i := 212) (by decide +kernel) (by decide +kernel)
theorem mL_74 : MlV RL 74 9 yX9_value cX9_value 4 (some .int) 3 := ⟨⟨⟨by decide +kernel, by decide +kernel, by decide +kernel⟩, by decide, co_X9_value, ini_X9, _, rfl, rfl, by decide⟩, im_X9_value, se_X9_value, Or.inl (gt_3 (i := 210) (by decide +kernel) (by decide +kernel))⟩
theorem co_X10_value : Cond.code yX10_value cX10_value 4 (some .int) ∈ gt := gt_7 (i := 129) (by decide +kernel) (by decide +kernel)
theorem im_X10_value : Cond.instanceMethod yX10_value ∈ gt := gt_7 (i := 127) (by decide +kernel) (by decide +kernel)
theorem se_X10_value : Cond.selects yX10_value.cls yX10_value yX10_value ∈ gt := gt_7 (i := 128) (by decide +kernel) (by decide +kernel)
theorem mL_77 : MlV RL 77 10 yX10_value cX10_value 4 (some .int) 3 := ⟨⟨⟨by decide +kernel, by decide +kernel, by decide +kernel⟩, by decide, co_X10_value, ini_X10, _, rfl, rfl, by decide⟩, im_X10_value, se_X10_value, Or.inl (gt_7 (i := 126) (by decide +kernel) (by decide +kernel))⟩
theorem co_X9_luck : Cond.code yX9_luck cX9_luck 1 (some .int) ∈ gt := gt_4 (i := 4) (by decide +kernel) (by decide +kernel)
theorem im_X9_luck : Cond.instanceMethod yX9_luck ∈ gt := gt_4 (i := 2) (by decide +kernel) (by decide +kernel)
theorem se_X9_luck : Cond.selects yX9_luck.cls yX9_luck yX9_luck ∈ gt := gt_4 (i := 3) (by decide +kernel) (by decide +kernel)
theorem mL_78 : MlV RL 78 9 yX9_luck cX9_luck 1 (some .int) 0 := ⟨⟨⟨by decide +kernel, by decide +kernel, by decide +kernel⟩, by decide, co_X9_luck, ini_X9, _, rfl, rfl, by decide⟩, im_X9_luck, se_X9_luck, Or.inl (gt_4 (i := 1) (by decide +kernel) (by decide +kernel))⟩
theorem co_X10_luck : Cond.code yX10_luck cX10_luck 1 (some .int) ∈ gt := gt_7 (i := 121) (by decide +kernel) (by decide +kernel)
theorem im_X10_luck : Cond.instanceMethod yX10_luck ∈ gt := gt_7 (i := 119) (by decide +kernel) (by decide +kernel)
theorem se_X10_luck : Cond.selects yX10_luck.cls yX10_luck yX10_luck ∈ gt := gt_7 (i := 120) (by decide +kernel) (by decide +kernel)
theorem mL_81 : MlV RL 81 10 yX10_luck cX10_luck 1 (some .int) 0 := ⟨⟨⟨by decide +kernel, by decide +kernel, by decide +kernel⟩, by decide, co_X10_luck, ini_X10, _, rfl, rfl, by decide⟩, im_X10_luck, se_X10_luck, Or.inl (gt_7 (i := 118) (by decide +kernel) (by decide +kernel))⟩
theorem co_X9_bears : Cond.code yX9_bears cX9_bears 6 (some .int) ∈ gt := gt_4 (i := 8) (by decide +kernel) (by decide +kernel)
theorem im_X9_bears : Cond.instanceMethod yX9_bears ∈ gt := gt_4 (i := 6) (by decide +kernel) (by decide +kernel)
theorem se_X9_bears : Cond.selects yX9_bears.cls yX9_bears yX9_bears ∈ gt := gt_4 (i := 7) (by decide +kernel) (by decide +kernel)
theorem mL_82 : MlV RL 82 9 yX9_bears cX9_bears 6 (some .int) 2 := ⟨⟨⟨by decide +kernel, by decide +kernel, by decide +kernel⟩, by decide, co_X9_bears, ini_X9, _, rfl, rfl, by decide⟩, im_X9_bears, se_X9_bears, Or.inl (gt_4 (i := 5) (by decide +kernel) (by decide +kernel))⟩
theorem co_X10_bears : Cond.code yX10_bears cX10_bears 4 (some .int) ∈ gt := gt_7 (i := 141) (by decide +kernel) (by decide +kernel)
theorem im_X10_bears : Cond.instanceMethod yX10_bears ∈ gt := gt_7 (i := 139) (by decide +kernel) (by decide +kernel)
theorem se_X10_bears : Cond.selects yX10_bears.cls yX10_bears yX10_bears ∈ gt := gt_7 (i := 140) (by decide +kernel) (by decide +kernel)
theorem mL_85 : MlV RL 85 10 yX10_bears cX10_bears 4 (some .int) 2 := ⟨⟨⟨by decide +kernel, by decide +kernel, by decide +kernel⟩, by decide, co_X10_bears, ini_X10, _, rfl, rfl, by decide⟩, im_X10_bears, se_X10_bears, Or.inl (gt_7 (i := 138) (by decide +kernel) (by decide +kernel))⟩
theorem co_X9_sale : Cond.code yX9_sale cX9_sale 11 (some .int) ∈ gt := gt_4 (i := 12) (by decide +kernel) (by decide +kernel)
theorem im_X9_sale : Cond.instanceMethod yX9_sale ∈ gt := gt_4 (i := 10) (by decide +kernel) (by decide +kernel)
theorem se_X9_sale : Cond.selects yX9_sale.cls yX9_sale yX9_sale ∈ gt := gt_4 (i := 11) (by decide +kernel) (by decide +kernel)
theorem mL_86 : MlV RL 86 9 yX9_sale cX9_sale 11 (some .int) 4 := ⟨⟨⟨by decide +kernel, by decide +kernel, by decide +kernel⟩, by decide, co_X9_sale, ini_X9, _, rfl, rfl, by decide⟩, im_X9_sale, se_X9_sale, Or.inl (gt_4 (i := 9) (by decide +kernel) (by decide +kernel))⟩
theorem co_X10_sale : Cond.code yX10_sale cX10_sale 13 (some .int) ∈ gt := gt_7 (i := 145) (by decide +kernel) (by decide +kernel)
theorem im_X10_sale : Cond.instanceMethod yX10_sale ∈ gt := gt_7 (i := 143) (by decide +kernel) (by decide +kernel)
theorem se_X10_sale : Cond.selects yX10_sale.cls yX10_sale yX10_sale ∈ gt := gt_7 (i := 144) (by decide +kernel) (by decide +kernel)
theorem mL_90 : MlV RL 90 10 yX10_sale cX10_sale 13 (some .int) 4 := ⟨⟨⟨by decide +kernel, by decide +kernel, by decide +kernel⟩, by decide, co_X10_sale, ini_X10, _, rfl, rfl, by decide⟩, im_X10_sale, se_X10_sale, Or.inl (gt_7 (i := 142) (by decide +kernel) (by decide +kernel))⟩
theorem co_X9_sales : Cond.code yX9_sales cX9_sales 1 (some .int) ∈ gt := gt_4 (i := 43) (by decide +kernel) (by decide +kernel)
theorem im_X9_sales : Cond.instanceMethod yX9_sales ∈ gt := gt_4 (i := 41) (by decide +kernel) (by decide +kernel)
theorem se_X9_sales : Cond.selects yX9_sales.cls yX9_sales yX9_sales ∈ gt := gt_4 (i := 42) (by decide +kernel) (by decide +kernel)
theorem mL_91 : MlV RL 91 9 yX9_sales cX9_sales 1 (some .int) 0 := ⟨⟨⟨by decide +kernel, by decide +kernel, by decide +kernel⟩, by decide, co_X9_sales, ini_X9, _, rfl, rfl, by decide⟩, im_X9_sales, se_X9_sales, Or.inl (gt_4 (i := 40) (by decide +kernel) (by decide +kernel))⟩
theorem co_X10_sales : Cond.code yX10_sales cX10_sales 1 (some .int) ∈ gt := gt_7 (i := 161) (by decide +kernel) (by decide +kernel)
theorem im_X10_sales : Cond.instanceMethod yX10_sales ∈ gt := gt_7 (i := 159) (by decide +kernel) (by decide +kernel)
theorem se_X10_sales : Cond.selects yX10_sales.cls yX10_sales yX10_sales ∈ gt := gt_7 (i := 160) (by decide +kernel) (by decide +kernel)
theorem mL_94 : MlV RL 94 10 yX10_sales cX10_sales 1 (some .int) 0 := ⟨⟨⟨by decide +kernel, by decide +kernel, by decide +kernel⟩, by decide, co_X10_sales, ini_X10, _, rfl, rfl, by decide⟩, im_X10_sales, se_X10_sales, Or.inl (gt_7 (i := 158) (by decide +kernel) (by decide +kernel))⟩
theorem co_X10_sold : Cond.code yX10_sold cX10_sold 3 (some .int) ∈ gt := gt_7 (i := 165) (by decide +kernel) (by decide +kernel)
theorem im_X10_sold : Cond.instanceMethod yX10_sold ∈ gt := gt_7 (i := 163) (by decide +kernel) (by decide +kernel)
theorem se_X10_sold : Cond.selects yX10_sold.cls yX10_sold yX10_sold ∈ gt := gt_7 (i := 164) (by decide +kernel) (by decide +kernel)
theorem mL_97 : MlV RL 97 10 yX10_sold cX10_sold 3 (some .int) 2 := ⟨⟨⟨by decide +kernel, by decide +kernel, by decide +kernel⟩, by decide, co_X10_sold, ini_X10, _, rfl, rfl, by decide⟩, im_X10_sold, se_X10_sold, Or.inl (gt_7 (i := 162) (by decide +kernel) (by decide +kernel))⟩
theorem co_X9_payment : Cond.code yX9_payment cX9_payment 6 (some .int) ∈ gt := gt_4 (i := 47) (by decide +kernel) (by decide +kernel)
theorem im_X9_payment : Cond.instanceMethod yX9_payment ∈ gt := gt_4 (i := 45) (by decide +kernel) (by decide +kernel)
theorem se_X9_payment : Cond.selects yX9_payment.cls yX9_payment yX9_payment ∈ gt := gt_4 (i := 46) (by decide +kernel) (by decide +kernel)
theorem mL_98 : MlV RL 98 9 yX9_payment cX9_payment 6 (some .int) 4 := ⟨⟨⟨by decide +kernel, by decide +kernel, by decide +kernel⟩, by decide, co_X9_payment, ini_X9, _, rfl, rfl, by decide⟩, im_X9_payment, se_X9_payment, Or.inl (gt_4 (i := 44) (by decide +kernel) (by decide +kernel))⟩
theorem co_X10_payment : Cond.code yX10_payment cX10_payment 6 (some .int) ∈ gt := gt_7 (i := 169) (by decide +kernel) (by decide +kernel)
theorem im_X10_payment : Cond.instanceMethod yX10_payment ∈ gt := gt_7 (i := 167) (by decide +kernel) (by decide +kernel)
theorem se_X10_payment : Cond.selects yX10_payment.cls yX10_payment yX10_payment ∈ gt := gt_7 (i := 168) (by decide +kernel) (by decide +kernel)
theorem mL_101 : MlV RL 101 10 yX10_payment cX10_payment 6 (some .int) 4 := ⟨⟨⟨by decide +kernel, by decide +kernel, by decide +kernel⟩, by decide, co_X10_payment, ini_X10, _, rfl, rfl, by decide⟩, im_X10_payment, se_X10_payment, Or.inl (gt_7 (i := 166) (by decide +kernel) (by decide +kernel))⟩
theorem co_X9_paid : Cond.code yX9_paid cX9_paid 2 (some .int) ∈ gt := gt_4 (i := 109) (by decide +kernel) (by decide +kernel)
theorem im_X9_paid : Cond.instanceMethod yX9_paid ∈ gt := gt_4 (i := 107) (by decide +kernel) (by decide +kernel)
theorem se_X9_paid : Cond.selects yX9_paid.cls yX9_paid yX9_paid ∈ gt := gt_4 (i := 108) (by decide +kernel) (by decide +kernel)
theorem mL_102 : MlV RL 102 9 yX9_paid cX9_paid 2 (some .int) 1 := ⟨⟨⟨by decide +kernel, by decide +kernel, by decide +kernel⟩, by decide, co_X9_paid, ini_X9, _, rfl, rfl, by decide⟩, im_X9_paid, se_X9_paid, Or.inl (gt_4 (i := 106) (by decide +kernel) (by decide +kernel))⟩
theorem co_X10_paid : Cond.code yX10_paid cX10_paid 2 (some .int) ∈ gt := gt_7 (i := 194) (by decide +kernel) (by decide +kernel)
theorem im_X10_paid : Cond.instanceMethod yX10_paid ∈ gt := gt_7 (i := 192) (by decide +kernel) (by decide +kernel)
theorem se_X10_paid : Cond.selects yX10_paid.cls yX10_paid yX10_paid ∈ gt := gt_7 (i := 193) (by decide +kernel) (by decide +kernel)
theorem mL_106 : MlV RL 106 10 yX10_paid cX10_paid 2 (some .int) 1 := ⟨⟨⟨by decide +kernel, by decide +kernel, by decide +kernel⟩, by decide, co_X10_paid, ini_X10, _, rfl, rfl, by decide⟩, im_X10_paid, se_X10_paid, Or.inl (gt_7 (i := 191) (by decide +kernel) (by decide +kernel))⟩
theorem co_X9_buy : Cond.code yX9_buy cX9_buy 6 (some .int) ∈ gt := gt_4 (i := 113) (by decide +kernel) (by decide +kernel)
theorem im_X9_buy : Cond.instanceMethod yX9_buy ∈ gt := gt_4 (i := 111) (by decide +kernel) (by decide +kernel)
theorem se_X9_buy : Cond.selects yX9_buy.cls yX9_buy yX9_buy ∈ gt := gt_4 (i := 112) (by decide +kernel) (by decide +kernel)
theorem mL_107 : MlV RL 107 9 yX9_buy cX9_buy 6 (some .int) 4 := ⟨⟨⟨by decide +kernel, by decide +kernel, by decide +kernel⟩, by decide, co_X9_buy, ini_X9, _, rfl, rfl, by decide⟩, im_X9_buy, se_X9_buy, Or.inl (gt_4 (i := 110) (by decide +kernel) (by decide +kernel))⟩
theorem co_X10_buy : Cond.code yX10_buy cX10_buy 6 (some .int) ∈ gt := gt_7 (i := 198) (by decide +kernel) (by decide +kernel)
theorem im_X10_buy : Cond.instanceMethod yX10_buy ∈ gt := gt_7 (i := 196) (by decide +kernel) (by decide +kernel)
theorem se_X10_buy : Cond.selects yX10_buy.cls yX10_buy yX10_buy ∈ gt := gt_7 (i := 197) (by decide +kernel) (by decide +kernel)
theorem mL_110 : MlV RL 110 10 yX10_buy cX10_buy 6 (some .int) 4 := ⟨⟨⟨by decide +kernel, by decide +kernel, by decide +kernel⟩, by decide, co_X10_buy, ini_X10, _, rfl, rfl, by decide⟩, im_X10_buy, se_X10_buy, Or.inl (gt_7 (i := 195) (by decide +kernel) (by decide +kernel))⟩
theorem co_X9_steal : Cond.code yX9_steal cX9_steal 3 (some .boolean) ∈ gt := gt_4 (i := 128) (by decide +kernel) (by decide +kernel)
theorem im_X9_steal : Cond.instanceMethod yX9_steal ∈ gt := gt_4 (i := 126) (by decide +kernel) (by decide +kernel)
theorem se_X9_steal : Cond.selects yX9_steal.cls yX9_steal yX9_steal ∈ gt := gt_4 (i := 127) (by decide +kernel) (by decide +kernel)
theorem mL_111 : MlV RL 111 9 yX9_steal cX9_steal 3 (some .boolean) 2 := ⟨⟨⟨by decide +kernel, by decide +kernel, by decide +kernel⟩, by decide, co_X9_steal, ini_X9, _, rfl, rfl, by decide⟩, im_X9_steal, se_X9_steal, Or.inl (gt_4 (i := 125) (by decide +kernel) (by decide +kernel))⟩
theorem co_X10_steal : Cond.code yX10_steal cX10_steal 3 (some .boolean) ∈ gt := gt_7 (i := 210) (by decide +kernel) (by decide +kernel)
theorem im_X10_steal : Cond.instanceMethod yX10_steal ∈ gt := gt_7 (i := 208) (by decide +kernel) (by decide +kernel)
theorem se_X10_steal : Cond.selects yX10_steal.cls yX10_steal yX10_steal ∈ gt := gt_7 (i := 209) (by decide +kernel) (by decide +kernel)
theorem mL_115 : MlV RL 115 10 yX10_steal cX10_steal 3 (some .boolean) 2 := ⟨⟨⟨by decide +kernel, by decide +kernel, by decide +kernel⟩, by decide, co_X10_steal, ini_X10, _, rfl, rfl, by decide⟩, im_X10_steal, se_X10_steal, Or.inl (gt_7 (i := 207) (by decide +kernel) (by decide +kernel))⟩
theorem co_X9_forge : Cond.code yX9_forge cX9_forge 4 (some .int) ∈ gt := gt_4 (i := 132) (by decide +kernel) (by decide +kernel)
theorem im_X9_forge : Cond.instanceMethod yX9_forge ∈ gt := gt_4 (i := 130) (by decide +kernel) (by decide +kernel)
theorem se_X9_forge : Cond.selects yX9_forge.cls yX9_forge yX9_forge ∈ gt := gt_4 (i := 131) (by decide +kernel) (by decide +kernel)
theorem mL_116 : MlV RL 116 9 yX9_forge cX9_forge 4 (some .int) 2 := ⟨⟨⟨by decide +kernel, by decide +kernel, by decide +kernel⟩, by decide, co_X9_forge, ini_X9, _, rfl, rfl, by decide⟩, im_X9_forge, se_X9_forge, Or.inl (gt_4 (i := 129) (by decide +kernel) (by decide +kernel))⟩
theorem co_X10_forge : Cond.code yX10_forge cX10_forge 4 (some .int) ∈ gt := gt_7 (i := 214) (by decide +kernel) (by decide +kernel)
theorem im_X10_forge : Cond.instanceMethod yX10_forge ∈ gt := gt_7 (i := 212) (by decide +kernel) (by decide +kernel)
theorem se_X10_forge : Cond.selects yX10_forge.cls yX10_forge yX10_forge ∈ gt := gt_7 (i := 213) (by decide +kernel) (by decide +kernel)
theorem mL_119 : MlV RL 119 10 yX10_forge cX10_forge 4 (some .int) 2 := ⟨⟨⟨by decide +kernel, by decide +kernel, by decide +kernel⟩, by decide, co_X10_forge, ini_X10, _, rfl, rfl, by decide⟩, im_X10_forge, se_X10_forge, Or.inl (gt_7 (i := 211) (by decide +kernel) (by decide +kernel))⟩
theorem co_X9_day : Cond.code yX9_day cX9_day 1 (some .int) ∈ gt := gt_4 (i := 136) (by decide +kernel) (by decide +kernel)
theorem im_X9_day : Cond.instanceMethod yX9_day ∈ gt := gt_4 (i := 134) (by decide +kernel) (by decide +kernel)
theorem se_X9_day : Cond.selects yX9_day.cls yX9_day yX9_day ∈ gt := gt_4 (i := 135) (by decide +kernel) (by decide +kernel)
theorem mL_120 : MlV RL 120 9 yX9_day cX9_day 1 (some .int) 0 := ⟨⟨⟨by decide +kernel, by decide +kernel, by decide +kernel⟩, by decide, co_X9_day, ini_X9, _, rfl, rfl, by decide⟩, im_X9_day, se_X9_day, Or.inl (gt_4 (i := 133) (by decide +kernel) (by decide +kernel))⟩
theorem co_X10_day : Cond.code yX10_day cX10_day 1 (some .int) ∈ gt := gt_7 (i := 218) (by decide +kernel) (by decide +kernel)
theorem im_X10_day : Cond.instanceMethod yX10_day ∈ gt := gt_7 (i := 216) (by decide +kernel) (by decide +kernel)
theorem se_X10_day : Cond.selects yX10_day.cls yX10_day yX10_day ∈ gt := gt_7 (i := 217) (by decide +kernel) (by decide +kernel)
theorem mL_123 : MlV RL 123 10 yX10_day cX10_day 1 (some .int) 0 := ⟨⟨⟨by decide +kernel, by decide +kernel, by decide +kernel⟩, by decide, co_X10_day, ini_X10, _, rfl, rfl, by decide⟩, im_X10_day, se_X10_day, Or.inl (gt_7 (i := 215) (by decide +kernel) (by decide +kernel))⟩
theorem co_X9_rob : Cond.code yX9_rob cX9_rob 3 (some .boolean) ∈ gt := gt_4 (i := 141) (by decide +kernel) (by decide +kernel)
theorem im_X9_rob : Cond.instanceMethod yX9_rob ∈ gt := gt_4 (i := 139) (by decide +kernel) (by decide +kernel)
theorem se_X9_rob : Cond.selects yX9_rob.cls yX9_rob yX9_rob ∈ gt := gt_4 (i := 140) (by decide +kernel) (by decide +kernel)
theorem mL_124 : MlV RL 124 9 yX9_rob cX9_rob 3 (some .boolean) 2 := ⟨⟨⟨by decide +kernel, by decide +kernel, by decide +kernel⟩, by decide, co_X9_rob, ini_X9, _, rfl, rfl, by decide⟩, im_X9_rob, se_X9_rob, Or.inl (gt_4 (i := 138) (by decide +kernel) (by decide +kernel))⟩
theorem co_X10_rob : Cond.code yX10_rob cX10_rob 3 (some .boolean) ∈ gt := gt_7 (i := 226) (by decide +kernel) (by decide +kernel)
theorem im_X10_rob : Cond.instanceMethod yX10_rob ∈ gt := gt_7 (i := 224) (by decide +kernel) (by decide +kernel)
theorem se_X10_rob : Cond.selects yX10_rob.cls yX10_rob yX10_rob ∈ gt := gt_7 (i := 225) (by decide +kernel) (by decide +kernel)
theorem mL_127 : MlV RL 127 10 yX10_rob cX10_rob 3 (some .boolean) 2 := ⟨⟨⟨by decide +kernel, by decide +kernel, by decide +kernel⟩, by decide, co_X10_rob, ini_X10, _, rfl, rfl, by decide⟩, im_X10_rob, se_X10_rob, Or.inl (gt_7 (i := 223) (by decide +kernel) (by decide +kernel))⟩
theorem co_X9_dies : Cond.code yX9_dies cX9_dies 3 (some .int) ∈ gt := gt_4 (i := 145) (by decide +kernel) (by decide +kernel)
theorem im_X9_dies : Cond.instanceMethod yX9_dies ∈ gt := gt_4 (i := 143) (by decide +kernel) (by decide +kernel)
theorem se_X9_dies : Cond.selects yX9_dies.cls yX9_dies yX9_dies ∈ gt := gt_4 (i := 144) (by decide +kernel) (by decide +kernel)
theorem mL_128 : MlV RL 128 9 yX9_dies cX9_dies 3 (some .int) 2 := ⟨⟨⟨by decide +kernel, by decide +kernel, by decide +kernel⟩, by decide, co_X9_dies, ini_X9, _, rfl, rfl, by decide⟩, im_X9_dies, se_X9_dies, Or.inl (gt_4 (i := 142) (by decide +kernel) (by decide +kernel))⟩
theorem co_X10_dies : Cond.code yX10_dies cX10_dies 5 (some .int) ∈ gt := gt_7 (i := 230) (by decide +kernel) (by decide +kernel)
theorem im_X10_dies : Cond.instanceMethod yX10_dies ∈ gt := gt_7 (i := 228) (by decide +kernel) (by decide +kernel)
theorem se_X10_dies : Cond.selects yX10_dies.cls yX10_dies yX10_dies ∈ gt := gt_7 (i := 229) (by decide +kernel) (by decide +kernel)
theorem mL_131 : MlV RL 131 10 yX10_dies cX10_dies 5 (some .int) 2 := ⟨⟨⟨by decide +kernel, by decide +kernel, by decide +kernel⟩, by decide, co_X10_dies, ini_X10, _, rfl, rfl, by decide⟩, im_X10_dies, se_X10_dies, Or.inl (gt_7 (i := 227) (by decide +kernel) (by decide +kernel))⟩
theorem co_X9_close : Cond.code yX9_close cX9_close 2 (some .boolean) ∈ gt := gt_4 (i := 157) (by decide +kernel) (by decide +kernel)
theorem im_X9_close : Cond.instanceMethod yX9_close ∈ gt := gt_4 (i := 155) (by decide +kernel) (by decide +kernel)
theorem se_X9_close : Cond.selects yX9_close.cls yX9_close yX9_close ∈ gt := gt_4 (i := 156) (by decide +kernel) (by decide +kernel)
theorem mL_132 : MlV RL 132 9 yX9_close cX9_close 2 (some .boolean) 1 := ⟨⟨⟨by decide +kernel, by decide +kernel, by decide +kernel⟩, by decide, co_X9_close, ini_X9, _, rfl, rfl, by decide⟩, im_X9_close, se_X9_close, Or.inl (gt_4 (i := 154) (by decide +kernel) (by decide +kernel))⟩
theorem co_X10_close : Cond.code yX10_close cX10_close 2 (some .boolean) ∈ gt := gt_7 (i := 234) (by decide +kernel) (by decide +kernel)
theorem im_X10_close : Cond.instanceMethod yX10_close ∈ gt := gt_7 (i := 232) (by decide +kernel) (by decide +kernel)
theorem se_X10_close : Cond.selects yX10_close.cls yX10_close yX10_close ∈ gt := gt_7 (i := 233) (by decide +kernel) (by decide +kernel)
theorem mL_135 : MlV RL 135 10 yX10_close cX10_close 2 (some .boolean) 1 := ⟨⟨⟨by decide +kernel, by decide +kernel, by decide +kernel⟩, by decide, co_X10_close, ini_X10, _, rfl, rfl, by decide⟩, im_X10_close, se_X10_close, Or.inl (gt_7 (i := 231) (by decide +kernel) (by decide +kernel))⟩
theorem co_X9_strokes : Cond.code yX9_strokes cX9_strokes 1 (some .int) ∈ gt := gt_4 (i := 166) (by decide +kernel) (by decide +kernel)
theorem im_X9_strokes : Cond.instanceMethod yX9_strokes ∈ gt := gt_4 (i := 164) (by decide +kernel) (by decide +kernel)
theorem se_X9_strokes : Cond.selects yX9_strokes.cls yX9_strokes yX9_strokes ∈ gt := gt_4 (i := 165) (by decide +kernel) (by decide +kernel)
theorem mL_136 : MlV RL 136 9 yX9_strokes cX9_strokes 1 (some .int) 0 := ⟨⟨⟨by decide +kernel, by decide +kernel, by decide +kernel⟩, by decide, co_X9_strokes, ini_X9, _, rfl, rfl, by decide⟩, im_X9_strokes, se_X9_strokes, Or.inl (gt_4 (i := 163) (by decide +kernel) (by decide +kernel))⟩
theorem co_X10_strokes : Cond.code yX10_strokes cX10_strokes 1 (some .int) ∈ gt := gt_7 (i := 238) (by decide +kernel) (by decide +kernel)
theorem im_X10_strokes : Cond.instanceMethod yX10_strokes ∈ gt := gt_7 (i := 236) (by decide +kernel) (by decide +kernel)
theorem se_X10_strokes : Cond.selects yX10_strokes.cls yX10_strokes yX10_strokes ∈ gt := gt_7 (i := 237) (by decide +kernel) (by decide +kernel)
theorem mL_139 : MlV RL 139 10 yX10_strokes cX10_strokes 1 (some .int) 0 := ⟨⟨⟨by decide +kernel, by decide +kernel, by decide +kernel⟩, by decide, co_X10_strokes, ini_X10, _, rfl, rfl, by decide⟩, im_X10_strokes, se_X10_strokes, Or.inl (gt_7 (i := 235) (by decide +kernel) (by decide +kernel))⟩
theorem co_X10_stroke : Cond.code yX10_stroke cX10_stroke 3 (some .int) ∈ gt := gt_8 (i := 2) (by decide +kernel) (by decide +kernel)
theorem im_X10_stroke : Cond.instanceMethod yX10_stroke ∈ gt := gt_8 (i := 0) (by decide +kernel) (by decide +kernel)
theorem se_X10_stroke : Cond.selects yX10_stroke.cls yX10_stroke yX10_stroke ∈ gt := gt_8 (i := 1) (by decide +kernel) (by decide +kernel)
theorem mL_142 : MlV RL 142 10 yX10_stroke cX10_stroke 3 (some .int) 2 := ⟨⟨⟨by decide +kernel, by decide +kernel, by decide +kernel⟩, by decide, co_X10_stroke, ini_X10, _, rfl, rfl, by decide⟩, im_X10_stroke, se_X10_stroke, Or.inl (gt_7 (i := 239) (by decide +kernel) (by decide +kernel))⟩
theorem co_X9_foreign : Cond.code yX9_foreign cX9_foreign 4 (some .int) ∈ gt := gt_4 (i := 170) (by decide +kernel) (by decide +kernel)
theorem im_X9_foreign : Cond.instanceMethod yX9_foreign ∈ gt := gt_4 (i := 168) (by decide +kernel) (by decide +kernel)
theorem se_X9_foreign : Cond.selects yX9_foreign.cls yX9_foreign yX9_foreign ∈ gt := gt_4 (i := 169) (by decide +kernel) (by decide +kernel)
theorem mL_143 : MlV RL 143 9 yX9_foreign cX9_foreign 4 (some .int) 1 := ⟨⟨⟨by decide +kernel, by decide +kernel, by decide +kernel⟩, by decide, co_X9_foreign, ini_X9, _, rfl, rfl, by decide⟩, im_X9_foreign, se_X9_foreign, Or.inl (gt_4 (i := 167) (by decide +kernel) (by decide +kernel))⟩
theorem co_X10_foreign : Cond.code yX10_foreign cX10_foreign 4 (some .int) ∈ gt := gt_8 (i := 10) (by decide +kernel) (by decide +kernel)
theorem im_X10_foreign : Cond.instanceMethod yX10_foreign ∈ gt := gt_8 (i := 8) (by decide +kernel) (by decide +kernel)
theorem se_X10_foreign : Cond.selects yX10_foreign.cls yX10_foreign yX10_foreign ∈ gt := gt_8 (i := 9) (by decide +kernel) (by decide +kernel)
theorem mL_146 : MlV RL 146 10 yX10_foreign cX10_foreign 4 (some .int) 1 := ⟨⟨⟨by decide +kernel, by decide +kernel, by decide +kernel⟩, by decide, co_X10_foreign, ini_X10, _, rfl, rfl, by decide⟩, im_X10_foreign, se_X10_foreign, Or.inl (gt_8 (i := 7) (by decide +kernel) (by decide +kernel))⟩
theorem co_X9_silver : Cond.code yX9_silver cX9_silver 3 (some .int) ∈ gt := gt_4 (i := 174) (by decide +kernel) (by decide +kernel)
theorem im_X9_silver : Cond.instanceMethod yX9_silver ∈ gt := gt_4 (i := 172) (by decide +kernel) (by decide +kernel)
theorem se_X9_silver : Cond.selects yX9_silver.cls yX9_silver yX9_silver ∈ gt := gt_4 (i := 173) (by decide +kernel) (by decide +kernel)
theorem mL_147 : MlV RL 147 9 yX9_silver cX9_silver 3 (some .int) 1 := ⟨⟨⟨by decide +kernel, by decide +kernel, by decide +kernel⟩, by decide, co_X9_silver, ini_X9, _, rfl, rfl, by decide⟩, im_X9_silver, se_X9_silver, Or.inl (gt_4 (i := 171) (by decide +kernel) (by decide +kernel))⟩
theorem co_X10_silver : Cond.code yX10_silver cX10_silver 4 (some .int) ∈ gt := gt_8 (i := 14) (by decide +kernel) (by decide +kernel)
theorem im_X10_silver : Cond.instanceMethod yX10_silver ∈ gt := gt_8 (i := 12) (by decide +kernel) (by decide +kernel)
theorem se_X10_silver : Cond.selects yX10_silver.cls yX10_silver yX10_silver ∈ gt := gt_8 (i := 13) (by decide +kernel) (by decide +kernel)
theorem mL_150 : MlV RL 150 10 yX10_silver cX10_silver 4 (some .int) 1 := ⟨⟨⟨by decide +kernel, by decide +kernel, by decide +kernel⟩, by decide, co_X10_silver, ini_X10, _, rfl, rfl, by decide⟩, im_X10_silver, se_X10_silver, Or.inl (gt_8 (i := 11) (by decide +kernel) (by decide +kernel))⟩
theorem co_X9_rows : Cond.code yX9_rows cX9_rows 4 (some .int) ∈ gt := gt_4 (i := 182) (by decide +kernel) (by decide +kernel)
theorem im_X9_rows : Cond.instanceMethod yX9_rows ∈ gt := gt_4 (i := 180) (by decide +kernel) (by decide +kernel)
theorem se_X9_rows : Cond.selects yX9_rows.cls yX9_rows yX9_rows ∈ gt := gt_4 (i := 181) (by decide +kernel) (by decide +kernel)
theorem mL_151 : MlV RL 151 9 yX9_rows cX9_rows 4 (some .int) 3 := ⟨⟨⟨by decide +kernel, by decide +kernel, by decide +kernel⟩, by decide, co_X9_rows, ini_X9, _, rfl, rfl, by decide⟩, im_X9_rows, se_X9_rows, Or.inl (gt_4 (i := 179) (by decide +kernel) (by decide +kernel))⟩
theorem co_X10_rows : Cond.code yX10_rows cX10_rows 7 (some .int) ∈ gt := gt_8 (i := 18) (by decide +kernel) (by decide +kernel)
theorem im_X10_rows : Cond.instanceMethod yX10_rows ∈ gt := gt_8 (i := 16) (by decide +kernel) (by decide +kernel)
theorem se_X10_rows : Cond.selects yX10_rows.cls yX10_rows yX10_rows ∈ gt := gt_8 (i := 17) (by decide +kernel) (by decide +kernel)
theorem mL_154 : MlV RL 154 10 yX10_rows cX10_rows 7 (some .int) 3 := ⟨⟨⟨by decide +kernel, by decide +kernel, by decide +kernel⟩, by decide, co_X10_rows, ini_X10, _, rfl, rfl, by decide⟩, im_X10_rows, se_X10_rows, Or.inl (gt_8 (i := 15) (by decide +kernel) (by decide +kernel))⟩
theorem co_X9_could : Cond.code yX9_could cX9_could 3 (some .int) ∈ gt := gt_4 (i := 216) (by decide +kernel) (by decide +kernel)
theorem im_X9_could : Cond.instanceMethod yX9_could ∈ gt := gt_4 (i := 214) (by decide +kernel) (by decide +kernel)
theorem se_X9_could : Cond.selects yX9_could.cls yX9_could yX9_could ∈ gt := gt_4 (i := 215) (by decide +kernel) (by decide +kernel)
theorem mL_155 : MlV RL 155 9 yX9_could cX9_could 3 (some .int) 2 := ⟨⟨⟨by decide +kernel, by decide +kernel, by decide +kernel⟩, by decide, co_X9_could, ini_X9, _, rfl, rfl, by decide⟩, im_X9_could, se_X9_could, Or.inl (gt_4 (i := 213) (by decide +kernel) (by decide +kernel))⟩
theorem co_X10_could : Cond.code yX10_could cX10_could 3 (some .int) ∈ gt := gt_8 (i := 31) (by decide +kernel) (by decide +kernel)
theorem im_X10_could : Cond.instanceMethod yX10_could ∈ gt := gt_8 (i := 29) (by decide +kernel) (by decide +kernel)
theorem se_X10_could : Cond.selects yX10_could.cls yX10_could yX10_could ∈ gt := gt_8 (i := 30) (by decide +kernel) (by decide +kernel)
theorem mL_158 : MlV RL 158 10 yX10_could cX10_could 3 (some .int) 2 := ⟨⟨⟨by decide +kernel, by decide +kernel, by decide +kernel⟩, by decide, co_X10_could, ini_X10, _, rfl, rfl, by decide⟩, im_X10_could, se_X10_could, Or.inl (gt_8 (i := 28) (by decide +kernel) (by decide +kernel))⟩
theorem co_X9_market : Cond.code yX9_market cX9_market 11 (some .int) ∈ gt := gt_4 (i := 220) (by decide +kernel) (by decide +kernel)
theorem im_X9_market : Cond.instanceMethod yX9_market ∈ gt := gt_4 (i := 218) (by decide +kernel) (by decide +kernel)
theorem se_X9_market : Cond.selects yX9_market.cls yX9_market yX9_market ∈ gt := gt_4 (i := 219) (by decide +kernel) (by decide +kernel)
theorem mL_159 : MlV RL 159 9 yX9_market cX9_market 11 (some .int) 2 := ⟨⟨⟨by decide +kernel, by decide +kernel, by decide +kernel⟩, by decide, co_X9_market, ini_X9, _, rfl, rfl, by decide⟩, im_X9_market, se_X9_market, Or.inl (gt_4 (i := 217) (by decide +kernel) (by decide +kernel))⟩
theorem co_X10_market : Cond.code yX10_market cX10_market 9 (some .int) ∈ gt := gt_8 (i := 35) (by decide +kernel) (by decide +kernel)
theorem im_X10_market : Cond.instanceMethod yX10_market ∈ gt := gt_8 (i := 33) (by decide +kernel) (by decide +kernel)
theorem se_X10_market : Cond.selects yX10_market.cls yX10_market yX10_market ∈ gt := gt_8 (i := 34) (by decide +kernel) (by decide +kernel)
theorem mL_162 : MlV RL 162 10 yX10_market cX10_market 9 (some .int) 2 := ⟨⟨⟨by decide +kernel, by decide +kernel, by decide +kernel⟩, by decide, co_X10_market, ini_X10, _, rfl, rfl, by decide⟩, im_X10_market, se_X10_market, Or.inl (gt_8 (i := 32) (by decide +kernel) (by decide +kernel))⟩
theorem co_X9_undo : Cond.code yX9_undo cX9_undo 1 (some .int) ∈ gt := gt_4 (i := 235) (by decide +kernel) (by decide +kernel)
theorem im_X9_undo : Cond.instanceMethod yX9_undo ∈ gt := gt_4 (i := 233) (by decide +kernel) (by decide +kernel)
theorem se_X9_undo : Cond.selects yX9_undo.cls yX9_undo yX9_undo ∈ gt := gt_4 (i := 234) (by decide +kernel) (by decide +kernel)
theorem mL_163 : MlV RL 163 9 yX9_undo cX9_undo 1 (some .int) 0 := ⟨⟨⟨by decide +kernel, by decide +kernel, by decide +kernel⟩, by decide, co_X9_undo, ini_X9, _, rfl, rfl, by decide⟩, im_X9_undo, se_X9_undo, Or.inl (gt_4 (i := 232) (by decide +kernel) (by decide +kernel))⟩
theorem co_X10_undo : Cond.code yX10_undo cX10_undo 4 (some .int) ∈ gt := gt_8 (i := 44) (by decide +kernel) (by decide +kernel)
theorem im_X10_undo : Cond.instanceMethod yX10_undo ∈ gt := gt_8 (i := 42) (by decide +kernel) (by decide +kernel)
theorem se_X10_undo : Cond.selects yX10_undo.cls yX10_undo yX10_undo ∈ gt := gt_8 (i := 43) (by decide +kernel) (by decide +kernel)
theorem mL_166 : MlV RL 166 10 yX10_undo cX10_undo 4 (some .int) 0 := ⟨⟨⟨by decide +kernel, by decide +kernel, by decide +kernel⟩, by decide, co_X10_undo, ini_X10, _, rfl, rfl, by decide⟩, im_X10_undo, se_X10_undo, Or.inl (gt_8 (i := 41) (by decide +kernel) (by decide +kernel))⟩
theorem co_X9_sentence : Cond.code yX9_sentence cX9_sentence 1 (some .int) ∈ gt := gt_5 (i := 3) (by decide +kernel) (by decide +kernel)
theorem im_X9_sentence : Cond.instanceMethod yX9_sentence ∈ gt := gt_5 (i := 1) (by decide +kernel) (by decide +kernel)
theorem se_X9_sentence : Cond.selects yX9_sentence.cls yX9_sentence yX9_sentence ∈ gt := gt_5 (i := 2) (by decide +kernel) (by decide +kernel)
theorem mL_167 : MlV RL 167 9 yX9_sentence cX9_sentence 1 (some .int) 0 := ⟨⟨⟨by decide +kernel, by decide +kernel, by decide +kernel⟩, by decide, co_X9_sentence, ini_X9, _, rfl, rfl, by decide⟩, im_X9_sentence, se_X9_sentence, Or.inl (gt_5 (i := 0) (by decide +kernel) (by decide +kernel))⟩
theorem co_X10_sentence : Cond.code yX10_sentence cX10_sentence 2 (some .int) ∈ gt := gt_8 (i := 48) (by decide +kernel) (by decide +kernel)
theorem im_X10_sentence : Cond.instanceMethod yX10_sentence ∈ gt := gt_8 (i := 46) (by decide +kernel) (by decide +kernel)
theorem se_X10_sentence : Cond.selects yX10_sentence.cls yX10_sentence yX10_sentence ∈ gt := gt_8 (i := 47) (by decide +kernel) (by decide +kernel)
theorem mL_170 : MlV RL 170 10 yX10_sentence cX10_sentence 2 (some .int) 0 := ⟨⟨⟨by decide +kernel, by decide +kernel, by decide +kernel⟩, by decide, co_X10_sentence, ini_X10, _, rfl, rfl, by decide⟩, im_X10_sentence, se_X10_sentence, Or.inl (gt_8 (i := 45) (by decide +kernel) (by decide +kernel))⟩
theorem co_X9_said : Cond.code yX9_said cX9_said 4 (some .int) ∈ gt := gt_5 (i := 52) (by decide +kernel) (by decide +kernel)
theorem im_X9_said : Cond.instanceMethod yX9_said ∈ gt := gt_5 (i := 50) (by decide +kernel) (by decide +kernel)
theorem se_X9_said : Cond.selects yX9_said.cls yX9_said yX9_said ∈ gt := gt_5 (i := 51) (by decide +kernel) (by decide +kernel)
theorem mL_171 : MlV RL 171 9 yX9_said cX9_said 4 (some .int) 1 := ⟨⟨⟨by decide +kernel, by decide +kernel, by decide +kernel⟩, by decide, co_X9_said, ini_X9, _, rfl, rfl, by decide⟩, im_X9_said, se_X9_said, Or.inl (gt_5 (i := 49) (by decide +kernel) (by decide +kernel))⟩
theorem co_X10_said : Cond.code yX10_said cX10_said 4 (some .int) ∈ gt := gt_8 (i := 84) (by decide +kernel) (by decide +kernel)
theorem im_X10_said : Cond.instanceMethod yX10_said ∈ gt := gt_8 (i := 82) (by decide +kernel) (by decide +kernel)
theorem se_X10_said : Cond.selects yX10_said.cls yX10_said yX10_said ∈ gt := gt_8 (i := 83) (by decide +kernel) (by decide +kernel)
theorem mL_174 : MlV RL 174 10 yX10_said cX10_said 4 (some .int) 1 := ⟨⟨⟨by decide +kernel, by decide +kernel, by decide +kernel⟩, by decide, co_X10_said, ini_X10, _, rfl, rfl, by decide⟩, im_X10_said, se_X10_said, Or.inl (gt_8 (i := 81) (by decide +kernel) (by decide +kernel))⟩
theorem co_X9_image : Cond.code yX9_image cX9_image 2 (some .boolean) ∈ gt := gt_5 (i := 78) (by decide +kernel) (by decide +kernel)
theorem im_X9_image : Cond.instanceMethod yX9_image ∈ gt := gt_5 (i := 76) (by decide +kernel) (by decide +kernel)
theorem se_X9_image : Cond.selects yX9_image.cls yX9_image yX9_image ∈ gt := gt_5 (i := 77) (by decide +kernel) (by decide +kernel)
theorem mL_175 : MlV RL 175 9 yX9_image cX9_image 2 (some .boolean) 1 := ⟨⟨⟨by decide +kernel, by decide +kernel, by decide +kernel⟩, by decide, co_X9_image, ini_X9, _, rfl, rfl, by decide⟩, im_X9_image, se_X9_image, Or.inl (gt_5 (i := 75) (by decide +kernel) (by decide +kernel))⟩
theorem co_X10_image : Cond.code yX10_image cX10_image 3 (some .boolean) ∈ gt := gt_8 (i := 96) (by decide +kernel) (by decide +kernel)
theorem im_X10_image : Cond.instanceMethod yX10_image ∈ gt := gt_8 (i := 94) (by decide +kernel) (by decide +kernel)
theorem se_X10_image : Cond.selects yX10_image.cls yX10_image yX10_image ∈ gt := gt_8 (i := 95) (by decide +kernel) (by decide +kernel)
theorem mL_178 : MlV RL 178 10 yX10_image cX10_image 3 (some .boolean) 1 := ⟨⟨⟨by decide +kernel, by decide +kernel, by decide +kernel⟩, by decide, co_X10_image, ini_X10, _, rfl, rfl, by decide⟩, im_X10_image, se_X10_image, Or.inl (gt_8 (i := 93) (by decide +kernel) (by decide +kernel))⟩
theorem co_X9_restore : Cond.code yX9_restore cX9_restore 2 (some .boolean) ∈ gt := gt_5 (i := 94) (by decide +kernel) (by decide +kernel)
theorem im_X9_restore : Cond.instanceMethod yX9_restore ∈ gt := gt_5 (i := 92) (by decide +kernel) (by decide +kernel)
theorem se_X9_restore : Cond.selects yX9_restore.cls yX9_restore yX9_restore ∈ gt := gt_5 (i := 93) (by decide +kernel) (by decide +kernel)
theorem mL_179 : MlV RL 179 9 yX9_restore cX9_restore 2 (some .boolean) 1 := ⟨⟨⟨by decide +kernel, by decide +kernel, by decide +kernel⟩, by decide, co_X9_restore, ini_X9, _, rfl, rfl, by decide⟩, im_X9_restore, se_X9_restore, Or.inl (gt_5 (i := 91) (by decide +kernel) (by decide +kernel))⟩
theorem co_X10_restore : Cond.code yX10_restore cX10_restore 3 (some .boolean) ∈ gt := gt_8 (i := 100) (by decide +kernel) (by decide +kernel)
theorem im_X10_restore : Cond.instanceMethod yX10_restore ∈ gt := gt_8 (i := 98) (by decide +kernel) (by decide +kernel)
theorem se_X10_restore : Cond.selects yX10_restore.cls yX10_restore yX10_restore ∈ gt := gt_8 (i := 99) (by decide +kernel) (by decide +kernel)
theorem mL_182 : MlV RL 182 10 yX10_restore cX10_restore 3 (some .boolean) 1 := ⟨⟨⟨by decide +kernel, by decide +kernel, by decide +kernel⟩, by decide, co_X10_restore, ini_X10, _, rfl, rfl, by decide⟩, im_X10_restore, se_X10_restore, Or.inl (gt_8 (i := 97) (by decide +kernel) (by decide +kernel))⟩
theorem co_X9_count : Cond.code yX9_count cX9_count 2 (some .int) ∈ gt := gt_5 (i := 98) (by decide +kernel) (by decide +kernel)
theorem im_X9_count : Cond.instanceMethod yX9_count ∈ gt := gt_5 (i := 96) (by decide +kernel) (by decide +kernel)
theorem se_X9_count : Cond.selects yX9_count.cls yX9_count yX9_count ∈ gt := gt_5 (i := 97) (by decide +kernel) (by decide +kernel)
theorem mL_183 : MlV RL 183 9 yX9_count cX9_count 2 (some .int) 1 := ⟨⟨⟨by decide +kernel, by decide +kernel, by decide +kernel⟩, by decide, co_X9_count, ini_X9, _, rfl, rfl, by decide⟩, im_X9_count, se_X9_count, Or.inl (gt_5 (i := 95) (by decide +kernel) (by decide +kernel))⟩
theorem co_X10_count : Cond.code yX10_count cX10_count 2 (some .int) ∈ gt := gt_8 (i := 104) (by decide +kernel) (by decide +kernel)
theorem im_X10_count : Cond.instanceMethod yX10_count ∈ gt := gt_8 (i := 102) (by decide +kernel) (by decide +kernel)
theorem se_X10_count : Cond.selects yX10_count.cls yX10_count yX10_count ∈ gt := gt_8 (i := 103) (by decide +kernel) (by decide +kernel)
theorem mL_186 : MlV RL 186 10 yX10_count cX10_count 2 (some .int) 1 := ⟨⟨⟨by decide +kernel, by decide +kernel, by decide +kernel⟩, by decide, co_X10_count, ini_X10, _, rfl, rfl, by decide⟩, im_X10_count, se_X10_count, Or.inl (gt_8 (i := 101) (by decide +kernel) (by decide +kernel))⟩
theorem fX10_7_l : Cond.fieldLink RX10 7 RX10 (TX10 1).2.1 (TX10 1).2.2.1 ∈ gt := gt_6 (i := 0) (by decide +kernel) (by decide +kernel)
theorem fX10_7 : Fl RX10 7 10 1 RX10 TX10 47 tyX10 := ⟨clX10, by decide, Or.inl fX10_7_l⟩
theorem fX10_13_l : Cond.fieldLink RX10 13 RX10 (TX10 14).2.1 (TX10 14).2.2.1 ∈ gt := gt_6 (i := 13) (by decide +kernel) (by decide +kernel)
theorem fX10_13 : Fl RX10 13 10 14 RX10 TX10 47 tyX10 := ⟨clX10, by decide, Or.inl fX10_13_l⟩
theorem fX10_16_l : Cond.fieldLink RX10 16 RX10 (TX10 15).2.1 (TX10 15).2.2.1 ∈ gt := gt_6 (i := 14) (by decide +kernel) (by decide +kernel)
theorem fX10_16 : Fl RX10 16 10 15 RX10 TX10 47 tyX10 := ⟨clX10, by decide, Or.inl fX10_16_l⟩
theorem fX10_19_l : Cond.fieldLink RX10 19 RX10 (TX10 16).2.1 (TX10 16).2.2.1 ∈ gt := gt_6 (i := 15) (by decide +kernel) (by decide +kernel)
theorem fX10_19 : Fl RX10 19 10 16 RX10 TX10 47 tyX10 := ⟨clX10, by decide, Or.inl fX10_19_l⟩
theorem kX10_22 : Cond.constant RX10 22 (iv (47400)) ∈ gt := gt_5 (i := 238) (by decide +kernel) (by decide +kernel)
theorem fX10_23_l : Cond.fieldLink RX10 23 RX10 (TX10 17).2.1 (TX10 17).2.2.1 ∈ gt := gt_6 (i := 16) (by decide +kernel) (by decide +kernel)
theorem fX10_23 : Fl RX10 23 10 17 RX10 TX10 47 tyX10 := ⟨clX10, by decide, Or.inl fX10_23_l⟩
theorem fX10_26_l : Cond.fieldLink RX10 26 RX10 (TX10 18).2.1 (TX10 18).2.2.1 ∈ gt := gt_6 (i := 17) (by decide +kernel) (by decide +kernel)
theorem fX10_26 : Fl RX10 26 10 18 RX10 TX10 47 tyX10 := ⟨clX10, by decide, Or.inl fX10_26_l⟩
theorem fX10_30_l : Cond.fieldLink RX10 30 RX10 (TX10 19).2.1 (TX10 19).2.2.1 ∈ gt := gt_6 (i := 18) (by decide +kernel) (by decide +kernel)
theorem fX10_30 : Fl RX10 30 10 19 RX10 TX10 47 tyX10 := ⟨clX10, by decide, Or.inl fX10_30_l⟩
theorem fX10_33_l : Cond.fieldLink RX10 33 RX10 (TX10 20).2.1 (TX10 20).2.2.1 ∈ gt := gt_6 (i := 19) (by decide +kernel) (by decide +kernel)
theorem fX10_33 : Fl RX10 33 10 20 RX10 TX10 47 tyX10 := ⟨clX10, by decide, Or.inl fX10_33_l⟩
theorem fX10_36_l : Cond.fieldLink RX10 36 RX10 (TX10 21).2.1 (TX10 21).2.2.1 ∈ gt := gt_6 (i := 20) (by decide +kernel) (by decide +kernel)
theorem fX10_36 : Fl RX10 36 10 21 RX10 TX10 47 tyX10 := ⟨clX10, by decide, Or.inl fX10_36_l⟩
theorem fX10_40_l : Cond.fieldLink RX10 40 RX10 (TX10 25).2.1 (TX10 25).2.2.1 ∈ gt := gt_6 (i := 24) (by decide +kernel) (by decide +kernel)
theorem fX10_40 : Fl RX10 40 10 25 RX10 TX10 47 tyX10 := ⟨clX10, by decide, Or.inl fX10_40_l⟩
theorem fX10_43_l : Cond.fieldLink RX10 43 RX10 (TX10 26).2.1 (TX10 26).2.2.1 ∈ gt := gt_6 (i := 25) (by decide +kernel) (by decide +kernel)
theorem fX10_43 : Fl RX10 43 10 26 RX10 TX10 47 tyX10 := ⟨clX10, by decide, Or.inl fX10_43_l⟩
theorem fX10_46_l : Cond.fieldLink RX10 46 RX10 (TX10 27).2.1 (TX10 27).2.2.1 ∈ gt := gt_6 (i := 26) (by decide +kernel) (by decide +kernel)
theorem fX10_46 : Fl RX10 46 10 27 RX10 TX10 47 tyX10 := ⟨clX10, by decide, Or.inl fX10_46_l⟩
theorem fX10_49_l : Cond.fieldLink RX10 49 RX10 (TX10 28).2.1 (TX10 28).2.2.1 ∈ gt := gt_6 (i := 27) (by decide +kernel) (by decide +kernel)
theorem fX10_49 : Fl RX10 49 10 28 RX10 TX10 47 tyX10 := ⟨clX10, by decide, Or.inl fX10_49_l⟩
theorem fX10_52_l : Cond.fieldLink RX10 52 RX10 (TX10 29).2.1 (TX10 29).2.2.1 ∈ gt := gt_6 (i := 28) (by decide +kernel) (by decide +kernel)
theorem fX10_52 : Fl RX10 52 10 29 RX10 TX10 47 tyX10 := ⟨clX10, by decide, Or.inl fX10_52_l⟩
theorem fX10_55_l : Cond.fieldLink RX10 55 RX10 (TX10 30).2.1 (TX10 30).2.2.1 ∈ gt := gt_6 (i := 29) (by decide +kernel) (by decide +kernel)
theorem fX10_55 : Fl RX10 55 10 30 RX10 TX10 47 tyX10 := ⟨clX10, by decide, Or.inl fX10_55_l⟩
theorem fX10_58_l : Cond.fieldLink RX10 58 RX10 (TX10 32).2.1 (TX10 32).2.2.1 ∈ gt := gt_6 (i := 31) (by decide +kernel) (by decide +kernel)
theorem fX10_58 : Fl RX10 58 10 32 RX10 TX10 47 tyX10 := ⟨clX10, by decide, Or.inl fX10_58_l⟩
theorem fX10_62_l : Cond.fieldLink RX10 62 RX10 (TX10 33).2.1 (TX10 33).2.2.1 ∈ gt := gt_6 (i := 32) (by decide +kernel) (by decide +kernel)
theorem fX10_62 : Fl RX10 62 10 33 RX10 TX10 47 tyX10 := ⟨clX10, by decide, Or.inl fX10_62_l⟩
theorem fX10_65_l : Cond.fieldLink RX10 65 RX10 (TX10 34).2.1 (TX10 34).2.2.1 ∈ gt := gt_6 (i := 33) (by decide +kernel) (by decide +kernel)
theorem fX10_65 : Fl RX10 65 10 34 RX10 TX10 47 tyX10 := ⟨clX10, by decide, Or.inl fX10_65_l⟩
theorem fX10_68_l : Cond.fieldLink RX10 68 RX10 (TX10 35).2.1 (TX10 35).2.2.1 ∈ gt := gt_6 (i := 34) (by decide +kernel) (by decide +kernel)
theorem fX10_68 : Fl RX10 68 10 35 RX10 TX10 47 tyX10 := ⟨clX10, by decide, Or.inl fX10_68_l⟩
theorem fX10_71_l : Cond.fieldLink RX10 71 RX10 (TX10 36).2.1 (TX10 36).2.2.1 ∈ gt := gt_6 (i := 35) (by decide +kernel) (by decide +kernel)
theorem fX10_71 : Fl RX10 71 10 36 RX10 TX10 47 tyX10 := ⟨clX10, by decide, Or.inl fX10_71_l⟩
theorem fX10_74_l : Cond.fieldLink RX10 74 RX10 (TX10 37).2.1 (TX10 37).2.2.1 ∈ gt := gt_6 (i := 36) (by decide +kernel) (by decide +kernel)
theorem fX10_74 : Fl RX10 74 10 37 RX10 TX10 47 tyX10 := ⟨clX10, by decide, Or.inl fX10_74_l⟩
theorem fX10_77_l : Cond.fieldLink RX10 77 RX10 (TX10 38).2.1 (TX10 38).2.2.1 ∈ gt := gt_6 (i := 37) (by decide +kernel) (by decide +kernel)
theorem fX10_77 : Fl RX10 77 10 38 RX10 TX10 47 tyX10 := ⟨clX10, by decide, Or.inl fX10_77_l⟩
theorem fX10_80_l : Cond.fieldLink RX10 80 RX10 (TX10 42).2.1 (TX10 42).2.2.1 ∈ gt := gt_6 (i := 41) (by decide +kernel) (by decide +kernel)
theorem fX10_80 : Fl RX10 80 10 42 RX10 TX10 47 tyX10 := ⟨clX10, by decide, Or.inl fX10_80_l⟩
theorem fX10_83_l : Cond.fieldLink RX10 83 RX10 (TX10 0).2.1 (TX10 0).2.2.1 ∈ gt := gt_5 (i := 239) (by decide +kernel) (by decide +kernel)
theorem fX10_83 : Fl RX10 83 10 0 RX10 TX10 47 tyX10 := ⟨clX10, by decide, Or.inl fX10_83_l⟩
theorem fX10_86_l : Cond.fieldLink RX10 86 RX10 (TX10 2).2.1 (TX10 2).2.2.1 ∈ gt := gt_6 (i := 1) (by decide +kernel) (by decide +kernel)
theorem fX10_86 : Fl RX10 86 10 2 RX10 TX10 47 tyX10 := ⟨clX10, by decide, Or.inl fX10_86_l⟩
theorem co_X10_come : Cond.code yX10_come cX10_come 3 none ∈ gt := gt_6 (i := 154) (by decide +kernel) (by decide +kernel)
theorem im_X10_come : Cond.instanceMethod yX10_come ∈ gt := gt_6 (i := 153) (by decide +kernel) (by decide +kernel)
theorem se_X10_come : Cond.selects yX10_come.cls yX10_come yX10_come ∈ gt := gt_sel (i := 46) (by decide +kernel) (by decide +kernel)
theorem mX10_89 : MlV RX10 89 10 yX10_come cX10_come 3 none 1 := ⟨⟨⟨by decide +kernel, by decide +kernel, by decide +kernel⟩, by decide, co_X10_come, ini_X10, _, rfl, rfl, by decide⟩, im_X10_come, se_X10_come, Or.inl (gt_6 (i := 151) (by decide +kernel) (by decide +kernel))⟩
theorem fX10_93_l : Cond.fieldLink RX10 93 RX10 (TX10 3).2.1 (TX10 3).2.2.1 ∈ gt := gt_6 (i := 2) (by decide +kernel) (by decide +kernel)
theorem fX10_93 : Fl RX10 93 10 3 RX10 TX10 47 tyX10 := ⟨clX10, by decide, Or.inl fX10_93_l⟩
theorem fX10_96_l : Cond.fieldLink RX10 96 RX10 (TX10 5).2.1 (TX10 5).2.2.1 ∈ gt := gt_6 (i := 4) (by decide +kernel) (by decide +kernel)
theorem fX10_96 : Fl RX10 96 10 5 RX10 TX10 47 tyX10 := ⟨clX10, by decide, Or.inl fX10_96_l⟩
theorem fX10_99_l : Cond.fieldLink RX10 99 RX10 (TX10 6).2.1 (TX10 6).2.2.1 ∈ gt := gt_6 (i := 5) (by decide +kernel) (by decide +kernel)
theorem fX10_99 : Fl RX10 99 10 6 RX10 TX10 47 tyX10 := ⟨clX10, by decide, Or.inl fX10_99_l⟩
theorem fX10_102_l : Cond.fieldLink RX10 102 RX10 (TX10 4).2.1 (TX10 4).2.2.1 ∈ gt := gt_6 (i := 3) (by decide +kernel) (by decide +kernel)
theorem fX10_102 : Fl RX10 102 10 4 RX10 TX10 47 tyX10 := ⟨clX10, by decide, Or.inl fX10_102_l⟩
theorem fX10_105_l : Cond.fieldLink RX10 105 RX10 (TX10 7).2.1 (TX10 7).2.2.1 ∈ gt := gt_6 (i := 6) (by decide +kernel) (by decide +kernel)
theorem fX10_105 : Fl RX10 105 10 7 RX10 TX10 47 tyX10 := ⟨clX10, by decide, Or.inl fX10_105_l⟩
theorem co_X10_isLetter : Cond.code yX10_isLetter cX10_isLetter 1 (some .boolean) ∈ gt := gt_6 (i := 185) (by decide +kernel) (by decide +kernel)
theorem mX10_108 : MlS RX10 108 yX10_isLetter cX10_isLetter 1 (some .boolean) 1 := ⟨⟨by decide +kernel, by decide +kernel, by decide +kernel⟩, by decide, co_X10_isLetter, ini_X10, gt_6 (i := 184) (by decide +kernel) (by decide +kernel), gt_6 (i := 183) (by decide +kernel) (by decide +kernel)⟩
theorem co_X10_isDigit : Cond.code yX10_isDigit cX10_isDigit 1 (some .boolean) ∈ gt := gt_6 (i := 188) (by decide +kernel) (by decide +kernel)
theorem mX10_112 : MlS RX10 112 yX10_isDigit cX10_isDigit 1 (some .boolean) 1 := ⟨⟨by decide +kernel, by decide +kernel, by decide +kernel⟩, by decide, co_X10_isDigit, ini_X10, gt_6 (i := 187) (by decide +kernel) (by decide +kernel), gt_6 (i := 186) (by decide +kernel) (by decide +kernel)⟩
theorem fX10_115_l : Cond.fieldLink RX10 115 RX10 (TX10 9).2.1 (TX10 9).2.2.1 ∈ gt := gt_6 (i := 8) (by decide +kernel) (by decide +kernel)
theorem fX10_115 : Fl RX10 115 10 9 RX10 TX10 47 tyX10 := ⟨clX10, by decide, Or.inl fX10_115_l⟩
theorem fX10_118_l : Cond.fieldLink RX10 118 RX10 (TX10 12).2.1 (TX10 12).2.2.1 ∈ gt := gt_6 (i := 11) (by decide +kernel) (by decide +kernel)
theorem fX10_118 : Fl RX10 118 10 12 RX10 TX10 47 tyX10 := ⟨clX10, by decide, Or.inl fX10_118_l⟩
theorem fX10_122_l : Cond.fieldLink RX10 122 RX10 (TX10 8).2.1 (TX10 8).2.2.1 ∈ gt := gt_6 (i := 7) (by decide +kernel) (by decide +kernel)
theorem fX10_122 : Fl RX10 122 10 8 RX10 TX10 47 tyX10 := ⟨clX10, by decide, Or.inl fX10_122_l⟩
theorem co_X10_byteAt : Cond.code yX10_byteAt cX10_byteAt 2 (some .int) ∈ gt := gt_6 (i := 192) (by decide +kernel) (by decide +kernel)
theorem im_X10_byteAt : Cond.instanceMethod yX10_byteAt ∈ gt := gt_6 (i := 191) (by decide +kernel) (by decide +kernel)
theorem se_X10_byteAt : Cond.selects yX10_byteAt.cls yX10_byteAt yX10_byteAt ∈ gt := gt_sel (i := 52) (by decide +kernel) (by decide +kernel)
theorem mX10_125 : MlV RX10 125 10 yX10_byteAt cX10_byteAt 2 (some .int) 1 := ⟨⟨⟨by decide +kernel, by decide +kernel, by decide +kernel⟩, by decide, co_X10_byteAt, ini_X10, _, rfl, rfl, by decide⟩, im_X10_byteAt, se_X10_byteAt, Or.inl (gt_6 (i := 189) (by decide +kernel) (by decide +kernel))⟩
theorem kX10_129 : Cond.constantLong RX10 129 (jv (27)) ∈ gt := gt_6 (i := 193) (by decide +kernel) (by decide +kernel)
theorem kX10_131 : Cond.constantLong RX10 131 (jv (96)) ∈ gt := gt_6 (i := 194) (by decide +kernel) (by decide +kernel)
theorem co_X10_spelt : Cond.code yX10_spelt cX10_spelt 6 (some .long) ∈ gt := gt_6 (i := 208) (by decide +kernel) (by decide +kernel)
theorem mX10_133 : MlS RX10 133 yX10_spelt cX10_spelt 6 (some .long) 4 := ⟨⟨by decide +kernel, by decide +kernel, by decide +kernel⟩, by decide, co_X10_spelt, ini_X10, gt_6 (i := 207) (by decide +kernel) (by decide +kernel), gt_6 (i := 206) (by decide +kernel) (by decide +kernel)⟩
theorem co_X10_on : Cond.code yX10_on cX10_on 6 (some .long) ∈ gt := gt_6 (i := 211) (by decide +kernel) (by decide +kernel)
theorem mX10_137 : MlS RX10 137 yX10_on cX10_on 6 (some .long) 3 := ⟨⟨by decide +kernel, by decide +kernel, by decide +kernel⟩, by decide, co_X10_on, ini_X10, gt_6 (i := 210) (by decide +kernel) (by decide +kernel), gt_6 (i := 209) (by decide +kernel) (by decide +kernel)⟩
theorem co_X10_wordOf : Cond.code yX10_wordOf cX10_wordOf 1 (some .long) ∈ gt := gt_6 (i := 205) (by decide +kernel) (by decide +kernel)
theorem mX10_141 : MlS RX10 141 yX10_wordOf cX10_wordOf 1 (some .long) 1 := ⟨⟨by decide +kernel, by decide +kernel, by decide +kernel⟩, by decide, co_X10_wordOf, ini_X10, gt_6 (i := 204) (by decide +kernel) (by decide +kernel), gt_6 (i := 203) (by decide +kernel) (by decide +kernel)⟩
theorem fX10_145_l : Cond.fieldLink RX10 145 RX10 (TX10 10).2.1 (TX10 10).2.2.1 ∈ gt := gt_6 (i := 9) (by decide +kernel) (by decide +kernel)
theorem fX10_145 : Fl RX10 145 10 10 RX10 TX10 47 tyX10 := ⟨clX10, by decide, Or.inl fX10_145_l⟩
theorem fX10_148_l : Cond.fieldLink RX10 148 RX10 (TX10 11).2.1 (TX10 11).2.2.1 ∈ gt := gt_6 (i := 10) (by decide +kernel) (by decide +kernel)
theorem fX10_148 : Fl RX10 148 10 11 RX10 TX10 47 tyX10 := ⟨clX10, by decide, Or.inl fX10_148_l⟩
theorem co_X10_bad : Cond.code yX10_bad cX10_bad 2 (some .boolean) ∈ gt := gt_6 (i := 219) (by decide +kernel) (by decide +kernel)
theorem im_X10_bad : Cond.instanceMethod yX10_bad ∈ gt := gt_6 (i := 218) (by decide +kernel) (by decide +kernel)
theorem se_X10_bad : Cond.selects yX10_bad.cls yX10_bad yX10_bad ∈ gt := gt_sel (i := 56) (by decide +kernel) (by decide +kernel)
theorem mX10_151 : MlV RX10 151 10 yX10_bad cX10_bad 2 (some .boolean) 1 := ⟨⟨⟨by decide +kernel, by decide +kernel, by decide +kernel⟩, by decide, co_X10_bad, ini_X10, _, rfl, rfl, by decide⟩, im_X10_bad, se_X10_bad, Or.inl (gt_6 (i := 216) (by decide +kernel) (by decide +kernel))⟩
theorem co_X10_isIn : Cond.code yX10_isIn cX10_isIn 3 (some .boolean) ∈ gt := gt_7 (i := 2) (by decide +kernel) (by decide +kernel)
theorem mX10_154 : MlS RX10 154 yX10_isIn cX10_isIn 3 (some .boolean) 3 := ⟨⟨by decide +kernel, by decide +kernel, by decide +kernel⟩, by decide, co_X10_isIn, ini_X10, gt_7 (i := 1) (by decide +kernel) (by decide +kernel), gt_7 (i := 0) (by decide +kernel) (by decide +kernel)⟩
theorem fX10_158_l : Cond.fieldLink RX10 158 RX10 (TX10 13).2.1 (TX10 13).2.2.1 ∈ gt := gt_6 (i := 12) (by decide +kernel) (by decide +kernel)
theorem fX10_158 : Fl RX10 158 10 13 RX10 TX10 47 tyX10 := ⟨clX10, by decide, Or.inl fX10_158_l⟩
theorem co_X10_go : Cond.code yX10_go cX10_go 5 none ∈ gt := gt_6 (i := 182) (by decide +kernel) (by decide +kernel)
theorem im_X10_go : Cond.instanceMethod yX10_go ∈ gt := gt_6 (i := 181) (by decide +kernel) (by decide +kernel)
theorem se_X10_go : Cond.selects yX10_go.cls yX10_go yX10_go ∈ gt := gt_sel (i := 51) (by decide +kernel) (by decide +kernel)
theorem mX10_161 : MlV RX10 161 10 yX10_go cX10_go 5 none 0 := ⟨⟨⟨by decide +kernel, by decide +kernel, by decide +kernel⟩, by decide, co_X10_go, ini_X10, _, rfl, rfl, by decide⟩, im_X10_go, se_X10_go, Or.inl (gt_6 (i := 179) (by decide +kernel) (by decide +kernel))⟩
theorem co_X10_isSign : Cond.code yX10_isSign cX10_isSign 2 (some .boolean) ∈ gt := gt_7 (i := 25) (by decide +kernel) (by decide +kernel)
theorem im_X10_isSign : Cond.instanceMethod yX10_isSign ∈ gt := gt_7 (i := 24) (by decide +kernel) (by decide +kernel)
theorem se_X10_isSign : Cond.selects yX10_isSign.cls yX10_isSign yX10_isSign ∈ gt := gt_sel (i := 66) (by decide +kernel) (by decide +kernel)
theorem mX10_164 : MlV RX10 164 10 yX10_isSign cX10_isSign 2 (some .boolean) 1 := ⟨⟨⟨by decide +kernel, by decide +kernel, by decide +kernel⟩, by decide, co_X10_isSign, ini_X10, _, rfl, rfl, by decide⟩, im_X10_isSign, se_X10_isSign, Or.inl (gt_7 (i := 22) (by decide +kernel) (by decide +kernel))⟩
theorem co_X10_lay : Cond.code yX10_lay cX10_lay 1 none ∈ gt := gt_6 (i := 170) (by decide +kernel) (by decide +kernel)
theorem im_X10_lay : Cond.instanceMethod yX10_lay ∈ gt := gt_6 (i := 169) (by decide +kernel) (by decide +kernel)
theorem se_X10_lay : Cond.selects yX10_lay.cls yX10_lay yX10_lay ∈ gt := gt_sel (i := 48) (by decide +kernel) (by decide +kernel)
theorem mX10_167 : MlV RX10 167 10 yX10_lay cX10_lay 1 none 0 := ⟨⟨⟨by decide +kernel, by decide +kernel, by decide +kernel⟩, by decide, co_X10_lay, ini_X10, _, rfl, rfl, by decide⟩, im_X10_lay, se_X10_lay, Or.inl (gt_6 (i := 167) (by decide +kernel) (by decide +kernel))⟩
theorem co_X10_take : Cond.code yX10_take cX10_take 2 (some .int) ∈ gt := gt_6 (i := 178) (by decide +kernel) (by decide +kernel)
theorem im_X10_take : Cond.instanceMethod yX10_take ∈ gt := gt_6 (i := 177) (by decide +kernel) (by decide +kernel)
theorem se_X10_take : Cond.selects yX10_take.cls yX10_take yX10_take ∈ gt := gt_sel (i := 50) (by decide +kernel) (by decide +kernel)
theorem mX10_170 : MlV RX10 170 10 yX10_take cX10_take 2 (some .int) 0 := ⟨⟨⟨by decide +kernel, by decide +kernel, by decide +kernel⟩, by decide, co_X10_take, ini_X10, _, rfl, rfl, by decide⟩, im_X10_take, se_X10_take, Or.inl (gt_6 (i := 175) (by decide +kernel) (by decide +kernel))⟩
theorem fX10_174_l : Cond.fieldLink RX10 174 RX10 (TX10 22).2.1 (TX10 22).2.2.1 ∈ gt := gt_6 (i := 21) (by decide +kernel) (by decide +kernel)
theorem fX10_174 : Fl RX10 174 10 22 RX10 TX10 47 tyX10 := ⟨clX10, by decide, Or.inl fX10_174_l⟩
theorem co_X10_plain : Cond.code yX10_plain cX10_plain 2 none ∈ gt := gt_6 (i := 174) (by decide +kernel) (by decide +kernel)
theorem im_X10_plain : Cond.instanceMethod yX10_plain ∈ gt := gt_6 (i := 173) (by decide +kernel) (by decide +kernel)
theorem se_X10_plain : Cond.selects yX10_plain.cls yX10_plain yX10_plain ∈ gt := gt_sel (i := 49) (by decide +kernel) (by decide +kernel)
theorem mX10_178 : MlV RX10 178 10 yX10_plain cX10_plain 2 none 1 := ⟨⟨⟨by decide +kernel, by decide +kernel, by decide +kernel⟩, by decide, co_X10_plain, ini_X10, _, rfl, rfl, by decide⟩, im_X10_plain, se_X10_plain, Or.inl (gt_6 (i := 171) (by decide +kernel) (by decide +kernel))⟩
theorem co_X10_people : Cond.code yX10_people cX10_people 1 (some .int) ∈ gt := gt_7 (i := 41) (by decide +kernel) (by decide +kernel)
theorem im_X10_people : Cond.instanceMethod yX10_people ∈ gt := gt_7 (i := 40) (by decide +kernel) (by decide +kernel)
theorem se_X10_people : Cond.selects yX10_people.cls yX10_people yX10_people ∈ gt := gt_sel (i := 68) (by decide +kernel) (by decide +kernel)
theorem mX10_182 : MlV RX10 182 10 yX10_people cX10_people 1 (some .int) 0 := ⟨⟨⟨by decide +kernel, by decide +kernel, by decide +kernel⟩, by decide, co_X10_people, ini_X10, _, rfl, rfl, by decide⟩, im_X10_people, se_X10_people, Or.inl (gt_7 (i := 38) (by decide +kernel) (by decide +kernel))⟩
theorem co_X10_mints : Cond.code yX10_mints cX10_mints 1 (some .int) ∈ gt := gt_7 (i := 73) (by decide +kernel) (by decide +kernel)
theorem im_X10_mints : Cond.instanceMethod yX10_mints ∈ gt := gt_7 (i := 72) (by decide +kernel) (by decide +kernel)
theorem se_X10_mints : Cond.selects yX10_mints.cls yX10_mints yX10_mints ∈ gt := gt_sel (i := 75) (by decide +kernel) (by decide +kernel)
theorem mX10_185 : MlV RX10 185 10 yX10_mints cX10_mints 1 (some .int) 0 := ⟨⟨⟨by decide +kernel, by decide +kernel, by decide +kernel⟩, by decide, co_X10_mints, ini_X10, _, rfl, rfl, by decide⟩, im_X10_mints, se_X10_mints, Or.inl (gt_7 (i := 70) (by decide +kernel) (by decide +kernel))⟩
theorem co_X10_coins : Cond.code yX10_coins cX10_coins 1 (some .int) ∈ gt := gt_7 (i := 53) (by decide +kernel) (by decide +kernel)
theorem im_X10_coins : Cond.instanceMethod yX10_coins ∈ gt := gt_7 (i := 52) (by decide +kernel) (by decide +kernel)
theorem se_X10_coins : Cond.selects yX10_coins.cls yX10_coins yX10_coins ∈ gt := gt_sel (i := 71) (by decide +kernel) (by decide +kernel)
theorem mX10_188 : MlV RX10 188 10 yX10_coins cX10_coins 1 (some .int) 0 := ⟨⟨⟨by decide +kernel, by decide +kernel, by decide +kernel⟩, by decide, co_X10_coins, ini_X10, _, rfl, rfl, by decide⟩, im_X10_coins, se_X10_coins, Or.inl (gt_7 (i := 50) (by decide +kernel) (by decide +kernel))⟩
theorem co_X10_isName : Cond.code yX10_isName cX10_isName 2 (some .boolean) ∈ gt := gt_6 (i := 227) (by decide +kernel) (by decide +kernel)
theorem im_X10_isName : Cond.instanceMethod yX10_isName ∈ gt := gt_6 (i := 226) (by decide +kernel) (by decide +kernel)
theorem se_X10_isName : Cond.selects yX10_isName.cls yX10_isName yX10_isName ∈ gt := gt_sel (i := 58) (by decide +kernel) (by decide +kernel)
theorem mX10_191 : MlV RX10 191 10 yX10_isName cX10_isName 2 (some .boolean) 0 := ⟨⟨⟨by decide +kernel, by decide +kernel, by decide +kernel⟩, by decide, co_X10_isName, ini_X10, _, rfl, rfl, by decide⟩, im_X10_isName, se_X10_isName, Or.inl (gt_6 (i := 224) (by decide +kernel) (by decide +kernel))⟩
theorem co_X10_findIn : Cond.code yX10_findIn cX10_findIn 5 (some .int) ∈ gt := gt_6 (i := 231) (by decide +kernel) (by decide +kernel)
theorem im_X10_findIn : Cond.instanceMethod yX10_findIn ∈ gt := gt_6 (i := 230) (by decide +kernel) (by decide +kernel)
theorem se_X10_findIn : Cond.selects yX10_findIn.cls yX10_findIn yX10_findIn ∈ gt := gt_sel (i := 59) (by decide +kernel) (by decide +kernel)
theorem mX10_195 : MlV RX10 195 10 yX10_findIn cX10_findIn 5 (some .int) 3 := ⟨⟨⟨by decide +kernel, by decide +kernel, by decide +kernel⟩, by decide, co_X10_findIn, ini_X10, _, rfl, rfl, by decide⟩, im_X10_findIn, se_X10_findIn, Or.inl (gt_6 (i := 228) (by decide +kernel) (by decide +kernel))⟩
theorem co_X10_readNew : Cond.code yX10_readNew cX10_readNew 2 (some .boolean) ∈ gt := gt_6 (i := 223) (by decide +kernel) (by decide +kernel)
theorem im_X10_readNew : Cond.instanceMethod yX10_readNew ∈ gt := gt_6 (i := 222) (by decide +kernel) (by decide +kernel)
theorem se_X10_readNew : Cond.selects yX10_readNew.cls yX10_readNew yX10_readNew ∈ gt := gt_sel (i := 57) (by decide +kernel) (by decide +kernel)
theorem mX10_199 : MlV RX10 199 10 yX10_readNew cX10_readNew 2 (some .boolean) 1 := ⟨⟨⟨by decide +kernel, by decide +kernel, by decide +kernel⟩, by decide, co_X10_readNew, ini_X10, _, rfl, rfl, by decide⟩, im_X10_readNew, se_X10_readNew, Or.inl (gt_6 (i := 220) (by decide +kernel) (by decide +kernel))⟩
theorem co_X10_isWord : Cond.code yX10_isWord cX10_isWord 2 (some .boolean) ∈ gt := gt_6 (i := 202) (by decide +kernel) (by decide +kernel)
theorem im_X10_isWord : Cond.instanceMethod yX10_isWord ∈ gt := gt_6 (i := 201) (by decide +kernel) (by decide +kernel)
theorem se_X10_isWord : Cond.selects yX10_isWord.cls yX10_isWord yX10_isWord ∈ gt := gt_sel (i := 54) (by decide +kernel) (by decide +kernel)
theorem mX10_202 : MlV RX10 202 10 yX10_isWord cX10_isWord 2 (some .boolean) 1 := ⟨⟨⟨by decide +kernel, by decide +kernel, by decide +kernel⟩, by decide, co_X10_isWord, ini_X10, _, rfl, rfl, by decide⟩, im_X10_isWord, se_X10_isWord, Or.inl (gt_6 (i := 199) (by decide +kernel) (by decide +kernel))⟩
theorem co_X10_readNumber : Cond.code yX10_readNumber cX10_readNumber 3 (some .boolean) ∈ gt := gt_6 (i := 239) (by decide +kernel) (by decide +kernel)
theorem im_X10_readNumber : Cond.instanceMethod yX10_readNumber ∈ gt := gt_6 (i := 238) (by decide +kernel) (by decide +kernel)
theorem se_X10_readNumber : Cond.selects yX10_readNumber.cls yX10_readNumber yX10_readNumber ∈ gt := gt_sel (i := 61) (by decide +kernel) (by decide +kernel)
theorem mX10_205 : MlV RX10 205 10 yX10_readNumber cX10_readNumber 3 (some .boolean) 2 := ⟨⟨⟨by decide +kernel, by decide +kernel, by decide +kernel⟩, by decide, co_X10_readNumber, ini_X10, _, rfl, rfl, by decide⟩, im_X10_readNumber, se_X10_readNumber, Or.inl (gt_6 (i := 236) (by decide +kernel) (by decide +kernel))⟩
theorem co_X10_readWhoTold : Cond.code yX10_readWhoTold cX10_readWhoTold 1 (some .boolean) ∈ gt := gt_7 (i := 10) (by decide +kernel) (by decide +kernel)
theorem im_X10_readWhoTold : Cond.instanceMethod yX10_readWhoTold ∈ gt := gt_7 (i := 9) (by decide +kernel) (by decide +kernel)
theorem se_X10_readWhoTold : Cond.selects yX10_readWhoTold.cls yX10_readWhoTold yX10_readWhoTold ∈ gt := gt_sel (i := 63) (by decide +kernel) (by decide +kernel)
theorem mX10_209 : MlV RX10 209 10 yX10_readWhoTold cX10_readWhoTold 1 (some .boolean) 0 := ⟨⟨⟨by decide +kernel, by decide +kernel, by decide +kernel⟩, by decide, co_X10_readWhoTold, ini_X10, _, rfl, rfl, by decide⟩, im_X10_readWhoTold, se_X10_readWhoTold, Or.inl (gt_7 (i := 7) (by decide +kernel) (by decide +kernel))⟩
theorem fX10_212_l : Cond.fieldLink RX10 212 RX10 (TX10 24).2.1 (TX10 24).2.2.1 ∈ gt := gt_6 (i := 23) (by decide +kernel) (by decide +kernel)
theorem fX10_212 : Fl RX10 212 10 24 RX10 TX10 47 tyX10 := ⟨clX10, by decide, Or.inl fX10_212_l⟩
theorem co_X10_has : Cond.code yX10_has cX10_has 2 (some .boolean) ∈ gt := gt_7 (i := 17) (by decide +kernel) (by decide +kernel)
theorem mX10_215 : MlS RX10 215 yX10_has cX10_has 2 (some .boolean) 2 := ⟨⟨by decide +kernel, by decide +kernel, by decide +kernel⟩, by decide, co_X10_has, ini_X10, gt_7 (i := 16) (by decide +kernel) (by decide +kernel), gt_7 (i := 15) (by decide +kernel) (by decide +kernel)⟩
theorem co_X10_readWho : Cond.code yX10_readWho cX10_readWho 2 (some .boolean) ∈ gt := gt_6 (i := 215) (by decide +kernel) (by decide +kernel)
theorem im_X10_readWho : Cond.instanceMethod yX10_readWho ∈ gt := gt_6 (i := 214) (by decide +kernel) (by decide +kernel)
theorem se_X10_readWho : Cond.selects yX10_readWho.cls yX10_readWho yX10_readWho ∈ gt := gt_sel (i := 55) (by decide +kernel) (by decide +kernel)
theorem mX10_218 : MlV RX10 218 10 yX10_readWho cX10_readWho 2 (some .boolean) 0 := ⟨⟨⟨by decide +kernel, by decide +kernel, by decide +kernel⟩, by decide, co_X10_readWho, ini_X10, _, rfl, rfl, by decide⟩, im_X10_readWho, se_X10_readWho, Or.inl (gt_6 (i := 212) (by decide +kernel) (by decide +kernel))⟩
theorem co_X10_readMint : Cond.code yX10_readMint cX10_readMint 2 (some .boolean) ∈ gt := gt_6 (i := 235) (by decide +kernel) (by decide +kernel)
theorem im_X10_readMint : Cond.instanceMethod yX10_readMint ∈ gt := gt_6 (i := 234) (by decide +kernel) (by decide +kernel)
theorem se_X10_readMint : Cond.selects yX10_readMint.cls yX10_readMint yX10_readMint ∈ gt := gt_sel (i := 60) (by decide +kernel) (by decide +kernel)
theorem mX10_221 : MlV RX10 221 10 yX10_readMint cX10_readMint 2 (some .boolean) 0 := ⟨⟨⟨by decide +kernel, by decide +kernel, by decide +kernel⟩, by decide, co_X10_readMint, ini_X10, _, rfl, rfl, by decide⟩, im_X10_readMint, se_X10_readMint, Or.inl (gt_6 (i := 232) (by decide +kernel) (by decide +kernel))⟩
theorem co_X10_readTakes : Cond.code yX10_readTakes cX10_readTakes 3 (some .boolean) ∈ gt := gt_7 (i := 6) (by decide +kernel) (by decide +kernel)
theorem im_X10_readTakes : Cond.instanceMethod yX10_readTakes ∈ gt := gt_7 (i := 5) (by decide +kernel) (by decide +kernel)
theorem se_X10_readTakes : Cond.selects yX10_readTakes.cls yX10_readTakes yX10_readTakes ∈ gt := gt_sel (i := 62) (by decide +kernel) (by decide +kernel)
theorem mX10_224 : MlV RX10 224 10 yX10_readTakes cX10_readTakes 3 (some .boolean) 0 := ⟨⟨⟨by decide +kernel, by decide +kernel, by decide +kernel⟩, by decide, co_X10_readTakes, ini_X10, _, rfl, rfl, by decide⟩, im_X10_readTakes, se_X10_readTakes, Or.inl (gt_7 (i := 3) (by decide +kernel) (by decide +kernel))⟩
theorem co_X10_readOnce : Cond.code yX10_readOnce cX10_readOnce 5 (some .boolean) ∈ gt := gt_7 (i := 14) (by decide +kernel) (by decide +kernel)
theorem im_X10_readOnce : Cond.instanceMethod yX10_readOnce ∈ gt := gt_7 (i := 13) (by decide +kernel) (by decide +kernel)
theorem se_X10_readOnce : Cond.selects yX10_readOnce.cls yX10_readOnce yX10_readOnce ∈ gt := gt_sel (i := 64) (by decide +kernel) (by decide +kernel)
theorem mX10_227 : MlV RX10 227 10 yX10_readOnce cX10_readOnce 5 (some .boolean) 4 := ⟨⟨⟨by decide +kernel, by decide +kernel, by decide +kernel⟩, by decide, co_X10_readOnce, ini_X10, _, rfl, rfl, by decide⟩, im_X10_readOnce, se_X10_readOnce, Or.inl (gt_7 (i := 11) (by decide +kernel) (by decide +kernel))⟩
theorem co_X10_readEnd : Cond.code yX10_readEnd cX10_readEnd 1 (some .boolean) ∈ gt := gt_7 (i := 21) (by decide +kernel) (by decide +kernel)
theorem im_X10_readEnd : Cond.instanceMethod yX10_readEnd ∈ gt := gt_7 (i := 20) (by decide +kernel) (by decide +kernel)
theorem se_X10_readEnd : Cond.selects yX10_readEnd.cls yX10_readEnd yX10_readEnd ∈ gt := gt_sel (i := 65) (by decide +kernel) (by decide +kernel)
theorem mX10_231 : MlV RX10 231 10 yX10_readEnd cX10_readEnd 1 (some .boolean) 0 := ⟨⟨⟨by decide +kernel, by decide +kernel, by decide +kernel⟩, by decide, co_X10_readEnd, ini_X10, _, rfl, rfl, by decide⟩, im_X10_readEnd, se_X10_readEnd, Or.inl (gt_7 (i := 18) (by decide +kernel) (by decide +kernel))⟩
theorem co_X10_begin : Cond.code yX10_begin cX10_begin 2 none ∈ gt := gt_6 (i := 166) (by decide +kernel) (by decide +kernel)
theorem im_X10_begin : Cond.instanceMethod yX10_begin ∈ gt := gt_6 (i := 165) (by decide +kernel) (by decide +kernel)
theorem se_X10_begin : Cond.selects yX10_begin.cls yX10_begin yX10_begin ∈ gt := gt_sel (i := 47) (by decide +kernel) (by decide +kernel)
theorem mX10_234 : MlV RX10 234 10 yX10_begin cX10_begin 2 none 1 := ⟨⟨⟨by decide +kernel, by decide +kernel, by decide +kernel⟩, by decide, co_X10_begin, ini_X10, _, rfl, rfl, by decide⟩, im_X10_begin, se_X10_begin, Or.inl (gt_6 (i := 163) (by decide +kernel) (by decide +kernel))⟩
theorem co_X10_readLine : Cond.code yX10_readLine cX10_readLine 2 (some .boolean) ∈ gt := gt_6 (i := 198) (by decide +kernel) (by decide +kernel)
theorem im_X10_readLine : Cond.instanceMethod yX10_readLine ∈ gt := gt_6 (i := 197) (by decide +kernel) (by decide +kernel)
theorem se_X10_readLine : Cond.selects yX10_readLine.cls yX10_readLine yX10_readLine ∈ gt := gt_sel (i := 53) (by decide +kernel) (by decide +kernel)
theorem mX10_237 : MlV RX10 237 10 yX10_readLine cX10_readLine 2 (some .boolean) 0 := ⟨⟨⟨by decide +kernel, by decide +kernel, by decide +kernel⟩, by decide, co_X10_readLine, ini_X10, _, rfl, rfl, by decide⟩, im_X10_readLine, se_X10_readLine, Or.inl (gt_6 (i := 195) (by decide +kernel) (by decide +kernel))⟩
theorem fX10_240_l : Cond.fieldLink RX10 240 RX10 (TX10 23).2.1 (TX10 23).2.2.1 ∈ gt := gt_6 (i := 22) (by decide +kernel) (by decide +kernel)
theorem fX10_240 : Fl RX10 240 10 23 RX10 TX10 47 tyX10 := ⟨clX10, by decide, Or.inl fX10_240_l⟩
theorem co_X10_isWho : Cond.code yX10_isWho cX10_isWho 2 (some .boolean) ∈ gt := gt_7 (i := 37) (by decide +kernel) (by decide +kernel)
theorem im_X10_isWho : Cond.instanceMethod yX10_isWho ∈ gt := gt_7 (i := 36) (by decide +kernel) (by decide +kernel)
theorem se_X10_isWho : Cond.selects yX10_isWho.cls yX10_isWho yX10_isWho ∈ gt := gt_sel (i := 67) (by decide +kernel) (by decide +kernel)
theorem mX10_243 : MlV RX10 243 10 yX10_isWho cX10_isWho 2 (some .boolean) 1 := ⟨⟨⟨by decide +kernel, by decide +kernel, by decide +kernel⟩, by decide, co_X10_isWho, ini_X10, _, rfl, rfl, by decide⟩, im_X10_isWho, se_X10_isWho, Or.inl (gt_7 (i := 34) (by decide +kernel) (by decide +kernel))⟩
theorem co_X10_refuse : Cond.code yX10_refuse cX10_refuse 1 (some .int) ∈ gt := gt_7 (i := 45) (by decide +kernel) (by decide +kernel)
theorem im_X10_refuse : Cond.instanceMethod yX10_refuse ∈ gt := gt_7 (i := 44) (by decide +kernel) (by decide +kernel)
theorem se_X10_refuse : Cond.selects yX10_refuse.cls yX10_refuse yX10_refuse ∈ gt := gt_sel (i := 69) (by decide +kernel) (by decide +kernel)
theorem mX10_246 : MlV RX10 246 10 yX10_refuse cX10_refuse 1 (some .int) 0 := ⟨⟨⟨by decide +kernel, by decide +kernel, by decide +kernel⟩, by decide, co_X10_refuse, ini_X10, _, rfl, rfl, by decide⟩, im_X10_refuse, se_X10_refuse, Or.inl (gt_7 (i := 42) (by decide +kernel) (by decide +kernel))⟩
theorem co_X10_ofWho : Cond.code yX10_ofWho cX10_ofWho 3 (some .int) ∈ gt := gt_7 (i := 49) (by decide +kernel) (by decide +kernel)
theorem im_X10_ofWho : Cond.instanceMethod yX10_ofWho ∈ gt := gt_7 (i := 48) (by decide +kernel) (by decide +kernel)
theorem se_X10_ofWho : Cond.selects yX10_ofWho.cls yX10_ofWho yX10_ofWho ∈ gt := gt_sel (i := 70) (by decide +kernel) (by decide +kernel)
theorem mX10_249 : MlV RX10 249 10 yX10_ofWho cX10_ofWho 3 (some .int) 2 := ⟨⟨⟨by decide +kernel, by decide +kernel, by decide +kernel⟩, by decide, co_X10_ofWho, ini_X10, _, rfl, rfl, by decide⟩, im_X10_ofWho, se_X10_ofWho, Or.inl (gt_7 (i := 46) (by decide +kernel) (by decide +kernel))⟩
theorem co_X10_topOf : Cond.code yX10_topOf cX10_topOf 2 (some .int) ∈ gt := gt_7 (i := 57) (by decide +kernel) (by decide +kernel)
theorem im_X10_topOf : Cond.instanceMethod yX10_topOf ∈ gt := gt_7 (i := 56) (by decide +kernel) (by decide +kernel)
theorem se_X10_topOf : Cond.selects yX10_topOf.cls yX10_topOf yX10_topOf ∈ gt := gt_sel (i := 72) (by decide +kernel) (by decide +kernel)
theorem mX10_253 : MlV RX10 253 10 yX10_topOf cX10_topOf 2 (some .int) 1 := ⟨⟨⟨by decide +kernel, by decide +kernel, by decide +kernel⟩, by decide, co_X10_topOf, ini_X10, _, rfl, rfl, by decide⟩, im_X10_topOf, se_X10_topOf, Or.inl (gt_7 (i := 54) (by decide +kernel) (by decide +kernel))⟩
theorem co_X10_ofCoin : Cond.code yX10_ofCoin cX10_ofCoin 3 (some .int) ∈ gt := gt_7 (i := 61) (by decide +kernel) (by decide +kernel)
theorem im_X10_ofCoin : Cond.instanceMethod yX10_ofCoin ∈ gt := gt_7 (i := 60) (by decide +kernel) (by decide +kernel)
theorem se_X10_ofCoin : Cond.selects yX10_ofCoin.cls yX10_ofCoin yX10_ofCoin ∈ gt := gt_sel (i := 73) (by decide +kernel) (by decide +kernel)
theorem mX10_256 : MlV RX10 256 10 yX10_ofCoin cX10_ofCoin 3 (some .int) 2 := ⟨⟨⟨by decide +kernel, by decide +kernel, by decide +kernel⟩, by decide, co_X10_ofCoin, ini_X10, _, rfl, rfl, by decide⟩, im_X10_ofCoin, se_X10_ofCoin, Or.inl (gt_7 (i := 58) (by decide +kernel) (by decide +kernel))⟩
theorem co_X10_isMint : Cond.code yX10_isMint cX10_isMint 2 (some .boolean) ∈ gt := gt_7 (i := 69) (by decide +kernel) (by decide +kernel)
theorem im_X10_isMint : Cond.instanceMethod yX10_isMint ∈ gt := gt_7 (i := 68) (by decide +kernel) (by decide +kernel)
theorem se_X10_isMint : Cond.selects yX10_isMint.cls yX10_isMint yX10_isMint ∈ gt := gt_sel (i := 74) (by decide +kernel) (by decide +kernel)
theorem mX10_259 : MlV RX10 259 10 yX10_isMint cX10_isMint 2 (some .boolean) 1 := ⟨⟨⟨by decide +kernel, by decide +kernel, by decide +kernel⟩, by decide, co_X10_isMint, ini_X10, _, rfl, rfl, by decide⟩, im_X10_isMint, se_X10_isMint, Or.inl (gt_7 (i := 66) (by decide +kernel) (by decide +kernel))⟩
theorem co_X10_ofMint : Cond.code yX10_ofMint cX10_ofMint 3 (some .int) ∈ gt := gt_7 (i := 77) (by decide +kernel) (by decide +kernel)
theorem im_X10_ofMint : Cond.instanceMethod yX10_ofMint ∈ gt := gt_7 (i := 76) (by decide +kernel) (by decide +kernel)
theorem se_X10_ofMint : Cond.selects yX10_ofMint.cls yX10_ofMint yX10_ofMint ∈ gt := gt_sel (i := 76) (by decide +kernel) (by decide +kernel)
theorem mX10_262 : MlV RX10 262 10 yX10_ofMint cX10_ofMint 3 (some .int) 2 := ⟨⟨⟨by decide +kernel, by decide +kernel, by decide +kernel⟩, by decide, co_X10_ofMint, ini_X10, _, rfl, rfl, by decide⟩, im_X10_ofMint, se_X10_ofMint, Or.inl (gt_7 (i := 74) (by decide +kernel) (by decide +kernel))⟩
theorem co_X10_wrongStroke : Cond.code yX10_wrongStroke cX10_wrongStroke 4 (some .int) ∈ gt := gt_7 (i := 89) (by decide +kernel) (by decide +kernel)
theorem im_X10_wrongStroke : Cond.instanceMethod yX10_wrongStroke ∈ gt := gt_7 (i := 88) (by decide +kernel) (by decide +kernel)
theorem se_X10_wrongStroke : Cond.selects yX10_wrongStroke.cls yX10_wrongStroke yX10_wrongStroke ∈ gt := gt_sel (i := 78) (by decide +kernel) (by decide +kernel)
theorem mX10_265 : MlV RX10 265 10 yX10_wrongStroke cX10_wrongStroke 4 (some .int) 3 := ⟨⟨⟨by decide +kernel, by decide +kernel, by decide +kernel⟩, by decide, co_X10_wrongStroke, ini_X10, _, rfl, rfl, by decide⟩, im_X10_wrongStroke, se_X10_wrongStroke, Or.inl (gt_7 (i := 86) (by decide +kernel) (by decide +kernel))⟩
theorem co_X10_isFull : Cond.code yX10_isFull cX10_isFull 2 (some .boolean) ∈ gt := gt_7 (i := 85) (by decide +kernel) (by decide +kernel)
theorem im_X10_isFull : Cond.instanceMethod yX10_isFull ∈ gt := gt_7 (i := 84) (by decide +kernel) (by decide +kernel)
theorem se_X10_isFull : Cond.selects yX10_isFull.cls yX10_isFull yX10_isFull ∈ gt := gt_sel (i := 77) (by decide +kernel) (by decide +kernel)
theorem mX10_269 : MlV RX10 269 10 yX10_isFull cX10_isFull 2 (some .boolean) 1 := ⟨⟨⟨by decide +kernel, by decide +kernel, by decide +kernel⟩, by decide, co_X10_isFull, ini_X10, _, rfl, rfl, by decide⟩, im_X10_isFull, se_X10_isFull, Or.inl (gt_7 (i := 82) (by decide +kernel) (by decide +kernel))⟩
theorem co_X10_snap : Cond.code yX10_snap cX10_snap 2 none ∈ gt := gt_7 (i := 93) (by decide +kernel) (by decide +kernel)
theorem im_X10_snap : Cond.instanceMethod yX10_snap ∈ gt := gt_7 (i := 92) (by decide +kernel) (by decide +kernel)
theorem se_X10_snap : Cond.selects yX10_snap.cls yX10_snap yX10_snap ∈ gt := gt_sel (i := 79) (by decide +kernel) (by decide +kernel)
theorem mX10_272 : MlV RX10 272 10 yX10_snap cX10_snap 2 none 0 := ⟨⟨⟨by decide +kernel, by decide +kernel, by decide +kernel⟩, by decide, co_X10_snap, ini_X10, _, rfl, rfl, by decide⟩, im_X10_snap, se_X10_snap, Or.inl (gt_7 (i := 90) (by decide +kernel) (by decide +kernel))⟩
theorem co_X10_strike : Cond.code yX10_strike cX10_strike 13 none ∈ gt := gt_7 (i := 97) (by decide +kernel) (by decide +kernel)
theorem im_X10_strike : Cond.instanceMethod yX10_strike ∈ gt := gt_7 (i := 96) (by decide +kernel) (by decide +kernel)
theorem se_X10_strike : Cond.selects yX10_strike.cls yX10_strike yX10_strike ∈ gt := gt_sel (i := 80) (by decide +kernel) (by decide +kernel)
theorem mX10_275 : MlV RX10 275 10 yX10_strike cX10_strike 13 none 5 := ⟨⟨⟨by decide +kernel, by decide +kernel, by decide +kernel⟩, by decide, co_X10_strike, ini_X10, _, rfl, rfl, by decide⟩, im_X10_strike, se_X10_strike, Or.inl (gt_7 (i := 94) (by decide +kernel) (by decide +kernel))⟩
theorem co_X10_faceFalse : Cond.code yX10_faceFalse cX10_faceFalse 3 (some .int) ∈ gt := gt_7 (i := 113) (by decide +kernel) (by decide +kernel)
theorem im_X10_faceFalse : Cond.instanceMethod yX10_faceFalse ∈ gt := gt_7 (i := 112) (by decide +kernel) (by decide +kernel)
theorem se_X10_faceFalse : Cond.selects yX10_faceFalse.cls yX10_faceFalse yX10_faceFalse ∈ gt := gt_sel (i := 83) (by decide +kernel) (by decide +kernel)
theorem mX10_279 : MlV RX10 279 10 yX10_faceFalse cX10_faceFalse 3 (some .int) 2 := ⟨⟨⟨by decide +kernel, by decide +kernel, by decide +kernel⟩, by decide, co_X10_faceFalse, ini_X10, _, rfl, rfl, by decide⟩, im_X10_faceFalse, se_X10_faceFalse, Or.inl (gt_7 (i := 110) (by decide +kernel) (by decide +kernel))⟩
theorem co_X10_isCoin : Cond.code yX10_isCoin cX10_isCoin 2 (some .boolean) ∈ gt := gt_7 (i := 105) (by decide +kernel) (by decide +kernel)
theorem im_X10_isCoin : Cond.instanceMethod yX10_isCoin ∈ gt := gt_7 (i := 104) (by decide +kernel) (by decide +kernel)
theorem se_X10_isCoin : Cond.selects yX10_isCoin.cls yX10_isCoin yX10_isCoin ∈ gt := gt_sel (i := 81) (by decide +kernel) (by decide +kernel)
theorem mX10_282 : MlV RX10 282 10 yX10_isCoin cX10_isCoin 2 (some .boolean) 1 := ⟨⟨⟨by decide +kernel, by decide +kernel, by decide +kernel⟩, by decide, co_X10_isCoin, ini_X10, _, rfl, rfl, by decide⟩, im_X10_isCoin, se_X10_isCoin, Or.inl (gt_7 (i := 102) (by decide +kernel) (by decide +kernel))⟩
theorem co_X10_showsFalse : Cond.code yX10_showsFalse cX10_showsFalse 4 (some .int) ∈ gt := gt_7 (i := 109) (by decide +kernel) (by decide +kernel)
theorem im_X10_showsFalse : Cond.instanceMethod yX10_showsFalse ∈ gt := gt_7 (i := 108) (by decide +kernel) (by decide +kernel)
theorem se_X10_showsFalse : Cond.selects yX10_showsFalse.cls yX10_showsFalse yX10_showsFalse ∈ gt := gt_sel (i := 82) (by decide +kernel) (by decide +kernel)
theorem mX10_285 : MlV RX10 285 10 yX10_showsFalse cX10_showsFalse 4 (some .int) 1 := ⟨⟨⟨by decide +kernel, by decide +kernel, by decide +kernel⟩, by decide, co_X10_showsFalse, ini_X10, _, rfl, rfl, by decide⟩, im_X10_showsFalse, se_X10_showsFalse, Or.inl (gt_7 (i := 106) (by decide +kernel) (by decide +kernel))⟩
theorem co_X10_luckOf : Cond.code yX10_luckOf cX10_luckOf 3 (some .int) ∈ gt := gt_7 (i := 125) (by decide +kernel) (by decide +kernel)
theorem im_X10_luckOf : Cond.instanceMethod yX10_luckOf ∈ gt := gt_7 (i := 124) (by decide +kernel) (by decide +kernel)
theorem se_X10_luckOf : Cond.selects yX10_luckOf.cls yX10_luckOf yX10_luckOf ∈ gt := gt_sel (i := 84) (by decide +kernel) (by decide +kernel)
theorem mX10_288 : MlV RX10 288 10 yX10_luckOf cX10_luckOf 3 (some .int) 0 := ⟨⟨⟨by decide +kernel, by decide +kernel, by decide +kernel⟩, by decide, co_X10_luckOf, ini_X10, _, rfl, rfl, by decide⟩, im_X10_luckOf, se_X10_luckOf, Or.inl (gt_7 (i := 122) (by decide +kernel) (by decide +kernel))⟩
theorem co_X10_hundredths : Cond.code yX10_hundredths cX10_hundredths 6 (some .int) ∈ gt := gt_7 (i := 133) (by decide +kernel) (by decide +kernel)
theorem im_X10_hundredths : Cond.instanceMethod yX10_hundredths ∈ gt := gt_7 (i := 132) (by decide +kernel) (by decide +kernel)
theorem se_X10_hundredths : Cond.selects yX10_hundredths.cls yX10_hundredths yX10_hundredths ∈ gt := gt_sel (i := 85) (by decide +kernel) (by decide +kernel)
theorem mX10_291 : MlV RX10 291 10 yX10_hundredths cX10_hundredths 6 (some .int) 3 := ⟨⟨⟨by decide +kernel, by decide +kernel, by decide +kernel⟩, by decide, co_X10_hundredths, ini_X10, _, rfl, rfl, by decide⟩, im_X10_hundredths, se_X10_hundredths, Or.inl (gt_7 (i := 130) (by decide +kernel) (by decide +kernel))⟩
theorem co_X10_valueOf : Cond.code yX10_valueOf cX10_valueOf 3 (some .int) ∈ gt := gt_7 (i := 137) (by decide +kernel) (by decide +kernel)
theorem im_X10_valueOf : Cond.instanceMethod yX10_valueOf ∈ gt := gt_7 (i := 136) (by decide +kernel) (by decide +kernel)
theorem se_X10_valueOf : Cond.selects yX10_valueOf.cls yX10_valueOf yX10_valueOf ∈ gt := gt_sel (i := 86) (by decide +kernel) (by decide +kernel)
theorem mX10_294 : MlV RX10 294 10 yX10_valueOf cX10_valueOf 3 (some .int) 2 := ⟨⟨⟨by decide +kernel, by decide +kernel, by decide +kernel⟩, by decide, co_X10_valueOf, ini_X10, _, rfl, rfl, by decide⟩, im_X10_valueOf, se_X10_valueOf, Or.inl (gt_7 (i := 134) (by decide +kernel) (by decide +kernel))⟩
theorem co_X10_areUnfit : Cond.code yX10_areUnfit cX10_areUnfit 3 (some .boolean) ∈ gt := gt_7 (i := 149) (by decide +kernel) (by decide +kernel)
theorem im_X10_areUnfit : Cond.instanceMethod yX10_areUnfit ∈ gt := gt_7 (i := 148) (by decide +kernel) (by decide +kernel)
theorem se_X10_areUnfit : Cond.selects yX10_areUnfit.cls yX10_areUnfit yX10_areUnfit ∈ gt := gt_sel (i := 87) (by decide +kernel) (by decide +kernel)
theorem mX10_297 : MlV RX10 297 10 yX10_areUnfit cX10_areUnfit 3 (some .boolean) 2 := ⟨⟨⟨by decide +kernel, by decide +kernel, by decide +kernel⟩, by decide, co_X10_areUnfit, ini_X10, _, rfl, rfl, by decide⟩, im_X10_areUnfit, se_X10_areUnfit, Or.inl (gt_7 (i := 146) (by decide +kernel) (by decide +kernel))⟩
theorem co_X10_wrongAt : Cond.code yX10_wrongAt cX10_wrongAt 3 (some .int) ∈ gt := gt_7 (i := 153) (by decide +kernel) (by decide +kernel)
theorem im_X10_wrongAt : Cond.instanceMethod yX10_wrongAt ∈ gt := gt_7 (i := 152) (by decide +kernel) (by decide +kernel)
theorem se_X10_wrongAt : Cond.selects yX10_wrongAt.cls yX10_wrongAt yX10_wrongAt ∈ gt := gt_sel (i := 88) (by decide +kernel) (by decide +kernel)
theorem mX10_300 : MlV RX10 300 10 yX10_wrongAt cX10_wrongAt 3 (some .int) 2 := ⟨⟨⟨by decide +kernel, by decide +kernel, by decide +kernel⟩, by decide, co_X10_wrongAt, ini_X10, _, rfl, rfl, by decide⟩, im_X10_wrongAt, se_X10_wrongAt, Or.inl (gt_7 (i := 150) (by decide +kernel) (by decide +kernel))⟩
theorem co_X10_keepSale : Cond.code yX10_keepSale cX10_keepSale 8 none ∈ gt := gt_7 (i := 157) (by decide +kernel) (by decide +kernel)
theorem im_X10_keepSale : Cond.instanceMethod yX10_keepSale ∈ gt := gt_7 (i := 156) (by decide +kernel) (by decide +kernel)
theorem se_X10_keepSale : Cond.selects yX10_keepSale.cls yX10_keepSale yX10_keepSale ∈ gt := gt_sel (i := 89) (by decide +kernel) (by decide +kernel)
theorem mX10_303 : MlV RX10 303 10 yX10_keepSale cX10_keepSale 8 none 6 := ⟨⟨⟨by decide +kernel, by decide +kernel, by decide +kernel⟩, by decide, co_X10_keepSale, ini_X10, _, rfl, rfl, by decide⟩, im_X10_keepSale, se_X10_keepSale, Or.inl (gt_7 (i := 154) (by decide +kernel) (by decide +kernel))⟩
theorem fX10_307_l : Cond.fieldLink RX10 307 RX10 (TX10 31).2.1 (TX10 31).2.2.1 ∈ gt := gt_6 (i := 30) (by decide +kernel) (by decide +kernel)
theorem fX10_307 : Fl RX10 307 10 31 RX10 TX10 47 tyX10 := ⟨clX10, by decide, Or.inl fX10_307_l⟩
theorem co_X10_worthOf : Cond.code yX10_worthOf cX10_worthOf 10 (some .int) ∈ gt := gt_7 (i := 177) (by decide +kernel) (by decide +kernel)
theorem im_X10_worthOf : Cond.instanceMethod yX10_worthOf ∈ gt := gt_7 (i := 176) (by decide +kernel) (by decide +kernel)
theorem se_X10_worthOf : Cond.selects yX10_worthOf.cls yX10_worthOf yX10_worthOf ∈ gt := gt_sel (i := 91) (by decide +kernel) (by decide +kernel)
theorem mX10_310 : MlV RX10 310 10 yX10_worthOf cX10_worthOf 10 (some .int) 6 := ⟨⟨⟨by decide +kernel, by decide +kernel, by decide +kernel⟩, by decide, co_X10_worthOf, ini_X10, _, rfl, rfl, by decide⟩, im_X10_worthOf, se_X10_worthOf, Or.inl (gt_7 (i := 174) (by decide +kernel) (by decide +kernel))⟩
theorem kX10_314 : Cond.constant RX10 314 (iv (100000000)) ∈ gt := gt_7 (i := 178) (by decide +kernel) (by decide +kernel)
theorem co_X10_bestOf : Cond.code yX10_bestOf cX10_bestOf 6 (some .int) ∈ gt := gt_7 (i := 182) (by decide +kernel) (by decide +kernel)
theorem im_X10_bestOf : Cond.instanceMethod yX10_bestOf ∈ gt := gt_7 (i := 181) (by decide +kernel) (by decide +kernel)
theorem se_X10_bestOf : Cond.selects yX10_bestOf.cls yX10_bestOf yX10_bestOf ∈ gt := gt_sel (i := 92) (by decide +kernel) (by decide +kernel)
theorem mX10_315 : MlV RX10 315 10 yX10_bestOf cX10_bestOf 6 (some .int) 2 := ⟨⟨⟨by decide +kernel, by decide +kernel, by decide +kernel⟩, by decide, co_X10_bestOf, ini_X10, _, rfl, rfl, by decide⟩, im_X10_bestOf, se_X10_bestOf, Or.inl (gt_7 (i := 179) (by decide +kernel) (by decide +kernel))⟩
theorem co_X10_costOf : Cond.code yX10_costOf cX10_costOf 7 (some .int) ∈ gt := gt_7 (i := 186) (by decide +kernel) (by decide +kernel)
theorem im_X10_costOf : Cond.instanceMethod yX10_costOf ∈ gt := gt_7 (i := 185) (by decide +kernel) (by decide +kernel)
theorem se_X10_costOf : Cond.selects yX10_costOf.cls yX10_costOf yX10_costOf ∈ gt := gt_sel (i := 93) (by decide +kernel) (by decide +kernel)
theorem mX10_318 : MlV RX10 318 10 yX10_costOf cX10_costOf 7 (some .int) 3 := ⟨⟨⟨by decide +kernel, by decide +kernel, by decide +kernel⟩, by decide, co_X10_costOf, ini_X10, _, rfl, rfl, by decide⟩, im_X10_costOf, se_X10_costOf, Or.inl (gt_7 (i := 183) (by decide +kernel) (by decide +kernel))⟩
theorem co_X10_layPayment : Cond.code yX10_layPayment cX10_layPayment 10 (some .int) ∈ gt := gt_7 (i := 173) (by decide +kernel) (by decide +kernel)
theorem im_X10_layPayment : Cond.instanceMethod yX10_layPayment ∈ gt := gt_7 (i := 172) (by decide +kernel) (by decide +kernel)
theorem se_X10_layPayment : Cond.selects yX10_layPayment.cls yX10_layPayment yX10_layPayment ∈ gt := gt_sel (i := 90) (by decide +kernel) (by decide +kernel)
theorem mX10_321 : MlV RX10 321 10 yX10_layPayment cX10_layPayment 10 (some .int) 4 := ⟨⟨⟨by decide +kernel, by decide +kernel, by decide +kernel⟩, by decide, co_X10_layPayment, ini_X10, _, rfl, rfl, by decide⟩, im_X10_layPayment, se_X10_layPayment, Or.inl (gt_7 (i := 170) (by decide +kernel) (by decide +kernel))⟩
theorem co_X10_tellPaid : Cond.code yX10_tellPaid cX10_tellPaid 2 none ∈ gt := gt_7 (i := 190) (by decide +kernel) (by decide +kernel)
theorem im_X10_tellPaid : Cond.instanceMethod yX10_tellPaid ∈ gt := gt_7 (i := 189) (by decide +kernel) (by decide +kernel)
theorem se_X10_tellPaid : Cond.selects yX10_tellPaid.cls yX10_tellPaid yX10_tellPaid ∈ gt := gt_sel (i := 94) (by decide +kernel) (by decide +kernel)
theorem mX10_325 : MlV RX10 325 10 yX10_tellPaid cX10_tellPaid 2 none 0 := ⟨⟨⟨by decide +kernel, by decide +kernel, by decide +kernel⟩, by decide, co_X10_tellPaid, ini_X10, _, rfl, rfl, by decide⟩, im_X10_tellPaid, se_X10_tellPaid, Or.inl (gt_7 (i := 187) (by decide +kernel) (by decide +kernel))⟩
theorem co_X10_strokesToPay : Cond.code yX10_strokesToPay cX10_strokesToPay 3 (some .int) ∈ gt := gt_7 (i := 202) (by decide +kernel) (by decide +kernel)
theorem im_X10_strokesToPay : Cond.instanceMethod yX10_strokesToPay ∈ gt := gt_7 (i := 201) (by decide +kernel) (by decide +kernel)
theorem se_X10_strokesToPay : Cond.selects yX10_strokesToPay.cls yX10_strokesToPay yX10_strokesToPay ∈ gt := gt_sel (i := 95) (by decide +kernel) (by decide +kernel)
theorem mX10_328 : MlV RX10 328 10 yX10_strokesToPay cX10_strokesToPay 3 (some .int) 0 := ⟨⟨⟨by decide +kernel, by decide +kernel, by decide +kernel⟩, by decide, co_X10_strokesToPay, ini_X10, _, rfl, rfl, by decide⟩, im_X10_strokesToPay, se_X10_strokesToPay, Or.inl (gt_7 (i := 199) (by decide +kernel) (by decide +kernel))⟩
theorem co_X10_pay : Cond.code yX10_pay cX10_pay 8 none ∈ gt := gt_7 (i := 206) (by decide +kernel) (by decide +kernel)
theorem im_X10_pay : Cond.instanceMethod yX10_pay ∈ gt := gt_7 (i := 205) (by decide +kernel) (by decide +kernel)
theorem se_X10_pay : Cond.selects yX10_pay.cls yX10_pay yX10_pay ∈ gt := gt_sel (i := 96) (by decide +kernel) (by decide +kernel)
theorem mX10_331 : MlV RX10 331 10 yX10_pay cX10_pay 8 none 4 := ⟨⟨⟨by decide +kernel, by decide +kernel, by decide +kernel⟩, by decide, co_X10_pay, ini_X10, _, rfl, rfl, by decide⟩, im_X10_pay, se_X10_pay, Or.inl (gt_7 (i := 203) (by decide +kernel) (by decide +kernel))⟩
theorem co_X10_giveBack : Cond.code yX10_giveBack cX10_giveBack 1 none ∈ gt := gt_7 (i := 222) (by decide +kernel) (by decide +kernel)
theorem im_X10_giveBack : Cond.instanceMethod yX10_giveBack ∈ gt := gt_7 (i := 221) (by decide +kernel) (by decide +kernel)
theorem se_X10_giveBack : Cond.selects yX10_giveBack.cls yX10_giveBack yX10_giveBack ∈ gt := gt_sel (i := 97) (by decide +kernel) (by decide +kernel)
theorem mX10_335 : MlV RX10 335 10 yX10_giveBack cX10_giveBack 1 none 0 := ⟨⟨⟨by decide +kernel, by decide +kernel, by decide +kernel⟩, by decide, co_X10_giveBack, ini_X10, _, rfl, rfl, by decide⟩, im_X10_giveBack, se_X10_giveBack, Or.inl (gt_7 (i := 219) (by decide +kernel) (by decide +kernel))⟩
theorem co_X10_isShown : Cond.code yX10_isShown cX10_isShown 4 (some .int) ∈ gt := gt_8 (i := 6) (by decide +kernel) (by decide +kernel)
theorem im_X10_isShown : Cond.instanceMethod yX10_isShown ∈ gt := gt_8 (i := 5) (by decide +kernel) (by decide +kernel)
theorem se_X10_isShown : Cond.selects yX10_isShown.cls yX10_isShown yX10_isShown ∈ gt := gt_sel (i := 98) (by decide +kernel) (by decide +kernel)
theorem mX10_338 : MlV RX10 338 10 yX10_isShown cX10_isShown 4 (some .int) 1 := ⟨⟨⟨by decide +kernel, by decide +kernel, by decide +kernel⟩, by decide, co_X10_isShown, ini_X10, _, rfl, rfl, by decide⟩, im_X10_isShown, se_X10_isShown, Or.inl (gt_8 (i := 3) (by decide +kernel) (by decide +kernel))⟩
theorem co_X10_isLike : Cond.code yX10_isLike cX10_isLike 7 (some .boolean) ∈ gt := gt_8 (i := 27) (by decide +kernel) (by decide +kernel)
theorem im_X10_isLike : Cond.instanceMethod yX10_isLike ∈ gt := gt_8 (i := 26) (by decide +kernel) (by decide +kernel)
theorem se_X10_isLike : Cond.selects yX10_isLike.cls yX10_isLike yX10_isLike ∈ gt := gt_sel (i := 100) (by decide +kernel) (by decide +kernel)
theorem mX10_341 : MlV RX10 341 10 yX10_isLike cX10_isLike 7 (some .boolean) 2 := ⟨⟨⟨by decide +kernel, by decide +kernel, by decide +kernel⟩, by decide, co_X10_isLike, ini_X10, _, rfl, rfl, by decide⟩, im_X10_isLike, se_X10_isLike, Or.inl (gt_8 (i := 24) (by decide +kernel) (by decide +kernel))⟩
theorem fX10_344_l : Cond.fieldLink RX10 344 RX10 (TX10 39).2.1 (TX10 39).2.2.1 ∈ gt := gt_6 (i := 38) (by decide +kernel) (by decide +kernel)
theorem fX10_344 : Fl RX10 344 10 39 RX10 TX10 47 tyX10 := ⟨clX10, by decide, Or.inl fX10_344_l⟩
theorem co_X10_tryRows : Cond.code yX10_tryRows cX10_tryRows 8 none ∈ gt := gt_8 (i := 23) (by decide +kernel) (by decide +kernel)
theorem im_X10_tryRows : Cond.instanceMethod yX10_tryRows ∈ gt := gt_8 (i := 22) (by decide +kernel) (by decide +kernel)
theorem se_X10_tryRows : Cond.selects yX10_tryRows.cls yX10_tryRows yX10_tryRows ∈ gt := gt_sel (i := 99) (by decide +kernel) (by decide +kernel)
theorem mX10_347 : MlV RX10 347 10 yX10_tryRows cX10_tryRows 8 none 4 := ⟨⟨⟨by decide +kernel, by decide +kernel, by decide +kernel⟩, by decide, co_X10_tryRows, ini_X10, _, rfl, rfl, by decide⟩, im_X10_tryRows, se_X10_tryRows, Or.inl (gt_8 (i := 20) (by decide +kernel) (by decide +kernel))⟩
theorem kX10_350 : Cond.constantLong RX10 350 (jv (60000)) ∈ gt := gt_8 (i := 19) (by decide +kernel) (by decide +kernel)
theorem fX10_352_l : Cond.fieldLink RX10 352 RX10 (TX10 40).2.1 (TX10 40).2.2.1 ∈ gt := gt_6 (i := 39) (by decide +kernel) (by decide +kernel)
theorem fX10_352 : Fl RX10 352 10 40 RX10 TX10 47 tyX10 := ⟨clX10, by decide, Or.inl fX10_352_l⟩
theorem fX10_355_l : Cond.fieldLink RX10 355 RX10 (TX10 41).2.1 (TX10 41).2.2.1 ∈ gt := gt_6 (i := 40) (by decide +kernel) (by decide +kernel)
theorem fX10_355 : Fl RX10 355 10 41 RX10 TX10 47 tyX10 := ⟨clX10, by decide, Or.inl fX10_355_l⟩
theorem kX10_358 : Cond.constant RX10 358 (iv (1103515245)) ∈ gt := gt_8 (i := 40) (by decide +kernel) (by decide +kernel)
theorem co_X10_draw : Cond.code yX10_draw cX10_draw 2 (some .int) ∈ gt := gt_8 (i := 39) (by decide +kernel) (by decide +kernel)
theorem im_X10_draw : Cond.instanceMethod yX10_draw ∈ gt := gt_8 (i := 38) (by decide +kernel) (by decide +kernel)
theorem se_X10_draw : Cond.selects yX10_draw.cls yX10_draw yX10_draw ∈ gt := gt_sel (i := 101) (by decide +kernel) (by decide +kernel)
theorem mX10_359 : MlV RX10 359 10 yX10_draw cX10_draw 2 (some .int) 1 := ⟨⟨⟨by decide +kernel, by decide +kernel, by decide +kernel⟩, by decide, co_X10_draw, ini_X10, _, rfl, rfl, by decide⟩, im_X10_draw, se_X10_draw, Or.inl (gt_8 (i := 36) (by decide +kernel) (by decide +kernel))⟩
theorem fX10_362_l : Cond.fieldLink RX10 362 RX10 (TX10 43).2.1 (TX10 43).2.2.1 ∈ gt := gt_6 (i := 42) (by decide +kernel) (by decide +kernel)
theorem fX10_362 : Fl RX10 362 10 43 RX10 TX10 47 tyX10 := ⟨clX10, by decide, Or.inl fX10_362_l⟩
theorem co_X10_readAnd : Cond.code yX10_readAnd cX10_readAnd 2 (some .boolean) ∈ gt := gt_8 (i := 56) (by decide +kernel) (by decide +kernel)
theorem im_X10_readAnd : Cond.instanceMethod yX10_readAnd ∈ gt := gt_8 (i := 55) (by decide +kernel) (by decide +kernel)
theorem se_X10_readAnd : Cond.selects yX10_readAnd.cls yX10_readAnd yX10_readAnd ∈ gt := gt_sel (i := 103) (by decide +kernel) (by decide +kernel)
theorem mX10_365 : MlV RX10 365 10 yX10_readAnd cX10_readAnd 2 (some .boolean) 0 := ⟨⟨⟨by decide +kernel, by decide +kernel, by decide +kernel⟩, by decide, co_X10_readAnd, ini_X10, _, rfl, rfl, by decide⟩, im_X10_readAnd, se_X10_readAnd, Or.inl (gt_8 (i := 53) (by decide +kernel) (by decide +kernel))⟩
theorem fX10_368_l : Cond.fieldLink RX10 368 RX10 (TX10 46).2.1 (TX10 46).2.2.1 ∈ gt := gt_6 (i := 45) (by decide +kernel) (by decide +kernel)
theorem fX10_368 : Fl RX10 368 10 46 RX10 TX10 47 tyX10 := ⟨clX10, by decide, Or.inl fX10_368_l⟩
theorem co_X10_lays : Cond.code yX10_lays cX10_lays 6 (some .int) ∈ gt := gt_8 (i := 72) (by decide +kernel) (by decide +kernel)
theorem im_X10_lays : Cond.instanceMethod yX10_lays ∈ gt := gt_8 (i := 71) (by decide +kernel) (by decide +kernel)
theorem se_X10_lays : Cond.selects yX10_lays.cls yX10_lays yX10_lays ∈ gt := gt_sel (i := 107) (by decide +kernel) (by decide +kernel)
theorem mX10_371 : MlV RX10 371 10 yX10_lays cX10_lays 6 (some .int) 4 := ⟨⟨⟨by decide +kernel, by decide +kernel, by decide +kernel⟩, by decide, co_X10_lays, ini_X10, _, rfl, rfl, by decide⟩, im_X10_lays, se_X10_lays, Or.inl (gt_8 (i := 69) (by decide +kernel) (by decide +kernel))⟩
theorem co_X10_readOne : Cond.code yX10_readOne cX10_readOne 4 (some .boolean) ∈ gt := gt_8 (i := 60) (by decide +kernel) (by decide +kernel)
theorem im_X10_readOne : Cond.instanceMethod yX10_readOne ∈ gt := gt_8 (i := 59) (by decide +kernel) (by decide +kernel)
theorem se_X10_readOne : Cond.selects yX10_readOne.cls yX10_readOne yX10_readOne ∈ gt := gt_sel (i := 104) (by decide +kernel) (by decide +kernel)
theorem mX10_374 : MlV RX10 374 10 yX10_readOne cX10_readOne 4 (some .boolean) 0 := ⟨⟨⟨by decide +kernel, by decide +kernel, by decide +kernel⟩, by decide, co_X10_readOne, ini_X10, _, rfl, rfl, by decide⟩, im_X10_readOne, se_X10_readOne, Or.inl (gt_8 (i := 57) (by decide +kernel) (by decide +kernel))⟩
theorem fX10_377_l : Cond.fieldLink RX10 377 RX10 (TX10 44).2.1 (TX10 44).2.2.1 ∈ gt := gt_6 (i := 43) (by decide +kernel) (by decide +kernel)
theorem fX10_377 : Fl RX10 377 10 44 RX10 TX10 47 tyX10 := ⟨clX10, by decide, Or.inl fX10_377_l⟩
theorem fX10_380_l : Cond.fieldLink RX10 380 RX10 (TX10 45).2.1 (TX10 45).2.2.1 ∈ gt := gt_6 (i := 44) (by decide +kernel) (by decide +kernel)
theorem fX10_380 : Fl RX10 380 10 45 RX10 TX10 47 tyX10 := ⟨clX10, by decide, Or.inl fX10_380_l⟩
theorem co_X10_readBracket : Cond.code yX10_readBracket cX10_readBracket 1 (some .boolean) ∈ gt := gt_8 (i := 64) (by decide +kernel) (by decide +kernel)
theorem im_X10_readBracket : Cond.instanceMethod yX10_readBracket ∈ gt := gt_8 (i := 63) (by decide +kernel) (by decide +kernel)
theorem se_X10_readBracket : Cond.selects yX10_readBracket.cls yX10_readBracket yX10_readBracket ∈ gt := gt_sel (i := 105) (by decide +kernel) (by decide +kernel)
theorem mX10_383 : MlV RX10 383 10 yX10_readBracket cX10_readBracket 1 (some .boolean) 0 := ⟨⟨⟨by decide +kernel, by decide +kernel, by decide +kernel⟩, by decide, co_X10_readBracket, ini_X10, _, rfl, rfl, by decide⟩, im_X10_readBracket, se_X10_readBracket, Or.inl (gt_8 (i := 61) (by decide +kernel) (by decide +kernel))⟩
theorem co_X10_readNot : Cond.code yX10_readNot cX10_readNot 1 (some .boolean) ∈ gt := gt_8 (i := 68) (by decide +kernel) (by decide +kernel)
theorem im_X10_readNot : Cond.instanceMethod yX10_readNot ∈ gt := gt_8 (i := 67) (by decide +kernel) (by decide +kernel)
theorem se_X10_readNot : Cond.selects yX10_readNot.cls yX10_readNot yX10_readNot ∈ gt := gt_sel (i := 106) (by decide +kernel) (by decide +kernel)
theorem mX10_386 : MlV RX10 386 10 yX10_readNot cX10_readNot 1 (some .boolean) 0 := ⟨⟨⟨by decide +kernel, by decide +kernel, by decide +kernel⟩, by decide, co_X10_readNot, ini_X10, _, rfl, rfl, by decide⟩, im_X10_readNot, se_X10_readNot, Or.inl (gt_8 (i := 65) (by decide +kernel) (by decide +kernel))⟩
theorem co_X10_readNamed : Cond.code yX10_readNamed cX10_readNamed 3 (some .boolean) ∈ gt := gt_8 (i := 76) (by decide +kernel) (by decide +kernel)
theorem im_X10_readNamed : Cond.instanceMethod yX10_readNamed ∈ gt := gt_8 (i := 75) (by decide +kernel) (by decide +kernel)
theorem se_X10_readNamed : Cond.selects yX10_readNamed.cls yX10_readNamed yX10_readNamed ∈ gt := gt_sel (i := 108) (by decide +kernel) (by decide +kernel)
theorem mX10_389 : MlV RX10 389 10 yX10_readNamed cX10_readNamed 3 (some .boolean) 1 := ⟨⟨⟨by decide +kernel, by decide +kernel, by decide +kernel⟩, by decide, co_X10_readNamed, ini_X10, _, rfl, rfl, by decide⟩, im_X10_readNamed, se_X10_readNamed, Or.inl (gt_8 (i := 73) (by decide +kernel) (by decide +kernel))⟩
theorem co_X10_readCompare : Cond.code yX10_readCompare cX10_readCompare 3 (some .boolean) ∈ gt := gt_8 (i := 80) (by decide +kernel) (by decide +kernel)
theorem im_X10_readCompare : Cond.instanceMethod yX10_readCompare ∈ gt := gt_8 (i := 79) (by decide +kernel) (by decide +kernel)
theorem se_X10_readCompare : Cond.selects yX10_readCompare.cls yX10_readCompare yX10_readCompare ∈ gt := gt_sel (i := 109) (by decide +kernel) (by decide +kernel)
theorem mX10_392 : MlV RX10 392 10 yX10_readCompare cX10_readCompare 3 (some .boolean) 1 := ⟨⟨⟨by decide +kernel, by decide +kernel, by decide +kernel⟩, by decide, co_X10_readCompare, ini_X10, _, rfl, rfl, by decide⟩, im_X10_readCompare, se_X10_readCompare, Or.inl (gt_8 (i := 77) (by decide +kernel) (by decide +kernel))⟩
theorem co_X10_readOr : Cond.code yX10_readOr cX10_readOr 2 (some .boolean) ∈ gt := gt_8 (i := 52) (by decide +kernel) (by decide +kernel)
theorem im_X10_readOr : Cond.instanceMethod yX10_readOr ∈ gt := gt_8 (i := 51) (by decide +kernel) (by decide +kernel)
theorem se_X10_readOr : Cond.selects yX10_readOr.cls yX10_readOr yX10_readOr ∈ gt := gt_sel (i := 102) (by decide +kernel) (by decide +kernel)
theorem mX10_395 : MlV RX10 395 10 yX10_readOr cX10_readOr 2 (some .boolean) 0 := ⟨⟨⟨by decide +kernel, by decide +kernel, by decide +kernel⟩, by decide, co_X10_readOr, ini_X10, _, rfl, rfl, by decide⟩, im_X10_readOr, se_X10_readOr, Or.inl (gt_8 (i := 49) (by decide +kernel) (by decide +kernel))⟩
theorem co_X10_holds : Cond.code yX10_holds cX10_holds 8 (some .boolean) ∈ gt := gt_8 (i := 88) (by decide +kernel) (by decide +kernel)
theorem im_X10_holds : Cond.instanceMethod yX10_holds ∈ gt := gt_8 (i := 87) (by decide +kernel) (by decide +kernel)
theorem se_X10_holds : Cond.selects yX10_holds.cls yX10_holds yX10_holds ∈ gt := gt_sel (i := 110) (by decide +kernel) (by decide +kernel)
theorem mX10_398 : MlV RX10 398 10 yX10_holds cX10_holds 8 (some .boolean) 2 := ⟨⟨⟨by decide +kernel, by decide +kernel, by decide +kernel⟩, by decide, co_X10_holds, ini_X10, _, rfl, rfl, by decide⟩, im_X10_holds, se_X10_holds, Or.inl (gt_8 (i := 85) (by decide +kernel) (by decide +kernel))⟩
theorem co_X10_shows : Cond.code yX10_shows cX10_shows 4 (some .boolean) ∈ gt := gt_8 (i := 92) (by decide +kernel) (by decide +kernel)
theorem im_X10_shows : Cond.instanceMethod yX10_shows ∈ gt := gt_8 (i := 91) (by decide +kernel) (by decide +kernel)
theorem se_X10_shows : Cond.selects yX10_shows.cls yX10_shows yX10_shows ∈ gt := gt_sel (i := 111) (by decide +kernel) (by decide +kernel)
theorem mX10_401 : MlV RX10 401 10 yX10_shows cX10_shows 4 (some .boolean) 2 := ⟨⟨⟨by decide +kernel, by decide +kernel, by decide +kernel⟩, by decide, co_X10_shows, ini_X10, _, rfl, rfl, by decide⟩, im_X10_shows, se_X10_shows, Or.inl (gt_8 (i := 89) (by decide +kernel) (by decide +kernel))⟩
theorem ins_X9 : Cond.instantiable RX9 10 ∈ gt := gt_1 (i := 23) (by decide +kernel) (by decide +kernel)
theorem ins_X7 : Cond.instantiable RX7 8 ∈ gt := gt_1 (i := 31) (by decide +kernel) (by decide +kernel)
theorem ins_X3 : Cond.instantiable RX3 13 ∈ gt := gt_1 (i := 71) (by decide +kernel) (by decide +kernel)
theorem ins_X5 : Cond.instantiable RX5 5 ∈ gt := gt_1 (i := 145) (by decide +kernel) (by decide +kernel)
theorem ins_X8 : Cond.instantiable RX8 5 ∈ gt := gt_1 (i := 168) (by decide +kernel) (by decide +kernel)
theorem ins_X1 : Cond.instantiable RX1 15 ∈ gt := gt_1 (i := 176) (by decide +kernel) (by decide +kernel)
theorem ins_X6 : Cond.instantiable RX6 2 ∈ gt := gt_2 (i := 24) (by decide +kernel) (by decide +kernel)
theorem ins_X2 : Cond.instantiable RX2 3 ∈ gt := gt_2 (i := 65) (by decide +kernel) (by decide +kernel)
theorem ins_X0 : Cond.instantiable RX0 14 ∈ gt := gt_2 (i := 84) (by decide +kernel) (by decide +kernel)
theorem ins_X4 : Cond.instantiable RX4 4 ∈ gt := gt_2 (i := 136) (by decide +kernel) (by decide +kernel)
theorem ins_X10 : Cond.instantiable RX10 47 ∈ gt := gt_5 (i := 233) (by decide +kernel) (by decide +kernel)
theorem arc_int : Cond.arrayClass .int ∈ gt := gt_1 (i := 69) (by decide +kernel) (by decide +kernel)
theorem arc_byte : Cond.arrayClass .byte ∈ gt := gt_3 (i := 112) (by decide +kernel) (by decide +kernel)
theorem arc_long : Cond.arrayClass .long ∈ gt := gt_6 (i := 141) (by decide +kernel) (by decide +kernel)
theorem arc_boolean : Cond.arrayClass .boolean ∈ gt := gt_6 (i := 142) (by decide +kernel) (by decide +kernel)
