theorem inX0 : ∀ w ∈ u_ws RX0 TX0 14, w ∈ gt := by decide +kernel
theorem clX0 : Clf 0 RX0 TX0 14 tyX0 := ⟨rfl, rfl, by decide, inX0, tyX0_ok, nmX0, by decide +kernel⟩
theorem inX1 : ∀ w ∈ u_ws RX1 TX1 15, w ∈ gt := by decide +kernel
theorem clX1 : Clf 1 RX1 TX1 15 tyX1 := ⟨rfl, rfl, by decide, inX1, tyX1_ok, nmX1, by decide +kernel⟩
theorem inX2 : ∀ w ∈ u_ws RX2 TX2 3, w ∈ gt := by decide +kernel
theorem clX2 : Clf 2 RX2 TX2 3 tyX2 := ⟨rfl, rfl, by decide, inX2, tyX2_ok, nmX2, by decide +kernel⟩
theorem inX3 : ∀ w ∈ u_ws RX3 TX3 13, w ∈ gt := by decide +kernel
theorem clX3 : Clf 3 RX3 TX3 13 tyX3 := ⟨rfl, rfl, by decide, inX3, tyX3_ok, nmX3, by decide +kernel⟩
theorem inX4 : ∀ w ∈ u_ws RX4 TX4 4, w ∈ gt := by decide +kernel
theorem clX4 : Clf 4 RX4 TX4 4 tyX4 := ⟨rfl, rfl, by decide, inX4, tyX4_ok, nmX4, by decide +kernel⟩
theorem inX5 : ∀ w ∈ u_ws RX5 TX5 5, w ∈ gt := by decide +kernel
theorem clX5 : Clf 5 RX5 TX5 5 tyX5 := ⟨rfl, rfl, by decide, inX5, tyX5_ok, nmX5, by decide +kernel⟩
theorem inX6 : ∀ w ∈ u_ws RX6 TX6 2, w ∈ gt := by decide +kernel
theorem clX6 : Clf 6 RX6 TX6 2 tyX6 := ⟨rfl, rfl, by decide, inX6, tyX6_ok, nmX6, by decide +kernel⟩
theorem inX7 : ∀ w ∈ u_ws RX7 TX7 8, w ∈ gt := by decide +kernel
theorem clX7 : Clf 7 RX7 TX7 8 tyX7 := ⟨rfl, rfl, by decide, inX7, tyX7_ok, nmX7, by decide +kernel⟩
theorem inX8 : ∀ w ∈ u_ws RX8 TX8 5, w ∈ gt := by decide +kernel
theorem clX8 : Clf 8 RX8 TX8 5 tyX8 := ⟨rfl, rfl, by decide, inX8, tyX8_ok, nmX8, by decide +kernel⟩
theorem inX9 : ∀ w ∈ u_ws RX9 TX9 10, w ∈ gt := by decide +kernel
theorem clX9 : Clf 9 RX9 TX9 10 tyX9 := ⟨rfl, rfl, by decide, inX9, tyX9_ok, nmX9, by decide +kernel⟩
theorem inX10 : ∀ w ∈ u_ws RX10 TX10 47, w ∈ gt := by decide +kernel
theorem clX10 : Clf 10 RX10 TX10 47 tyX10 := ⟨rfl, rfl, by decide, inX10, tyX10_ok, nmX10, by decide +kernel⟩
theorem nX9_7 : Cond.classLink RX9 7 RX7 ∈ gt := gt_1 (i := 30) (by decide +kernel) (by decide +kernel)
theorem ini_X7 : Cond.initialized RX7 ∈ gt := gt_1 (i := 2) (by decide +kernel) (by decide +kernel)
theorem co_X7_init : Cond.code yX7_init cX7_init 1 none ∈ gt := gt_1 (i := 34) (by decide +kernel) (by decide +kernel)
theorem im_X7_init : Cond.instanceMethod yX7_init ∈ gt := gt_1 (i := 33) (by decide +kernel) (by decide +kernel)
theorem mX9_9 : MlI RX9 9 7 yX7_init cX7_init 1 0 := ⟨⟨⟨by decide +kernel, by decide +kernel, by decide +kernel⟩, by decide, co_X7_init, ini_X7, _, rfl, rfl, by decide⟩, im_X7_init, gt_1 (i := 32) (by decide +kernel) (by decide +kernel), rfl⟩
theorem fX9_10_l : Cond.fieldLink RX9 10 RX9 (TX9 0).2.1 (TX9 0).2.2.1 ∈ gt := gt_2 (i := 157) (by decide +kernel) (by decide +kernel)
theorem fX9_10 : Fl RX9 10 9 0 RX9 TX9 10 tyX9 := ⟨clX9, by decide, Or.inl fX9_10_l⟩
theorem nX9_16 : Cond.classLink RX9 16 RX3 ∈ gt := gt_1 (i := 70) (by decide +kernel) (by decide +kernel)
theorem ini_X3 : Cond.initialized RX3 ∈ gt := gt_1 (i := 3) (by decide +kernel) (by decide +kernel)
theorem co_X3_init : Cond.code yX3_init cX3_init 1 none ∈ gt := gt_1 (i := 74) (by decide +kernel) (by decide +kernel)
theorem im_X3_init : Cond.instanceMethod yX3_init ∈ gt := gt_1 (i := 73) (by decide +kernel) (by decide +kernel)
theorem mX9_18 : MlI RX9 18 3 yX3_init cX3_init 1 0 := ⟨⟨⟨by decide +kernel, by decide +kernel, by decide +kernel⟩, by decide, co_X3_init, ini_X3, _, rfl, rfl, by decide⟩, im_X3_init, gt_1 (i := 72) (by decide +kernel) (by decide +kernel), rfl⟩
theorem fX9_19_l : Cond.fieldLink RX9 19 RX9 (TX9 2).2.1 (TX9 2).2.2.1 ∈ gt := gt_2 (i := 159) (by decide +kernel) (by decide +kernel)
theorem fX9_19 : Fl RX9 19 9 2 RX9 TX9 10 tyX9 := ⟨clX9, by decide, Or.inl fX9_19_l⟩
theorem nX9_23 : Cond.classLink RX9 23 RX5 ∈ gt := gt_1 (i := 144) (by decide +kernel) (by decide +kernel)
theorem ini_X5 : Cond.initialized RX5 ∈ gt := gt_1 (i := 4) (by decide +kernel) (by decide +kernel)
theorem co_X5_init : Cond.code yX5_init cX5_init 1 none ∈ gt := gt_1 (i := 148) (by decide +kernel) (by decide +kernel)
theorem im_X5_init : Cond.instanceMethod yX5_init ∈ gt := gt_1 (i := 147) (by decide +kernel) (by decide +kernel)
theorem mX9_25 : MlI RX9 25 5 yX5_init cX5_init 1 0 := ⟨⟨⟨by decide +kernel, by decide +kernel, by decide +kernel⟩, by decide, co_X5_init, ini_X5, _, rfl, rfl, by decide⟩, im_X5_init, gt_1 (i := 146) (by decide +kernel) (by decide +kernel), rfl⟩
theorem fX9_26_l : Cond.fieldLink RX9 26 RX9 (TX9 3).2.1 (TX9 3).2.2.1 ∈ gt := gt_2 (i := 160) (by decide +kernel) (by decide +kernel)
theorem fX9_26 : Fl RX9 26 9 3 RX9 TX9 10 tyX9 := ⟨clX9, by decide, Or.inl fX9_26_l⟩
theorem nX9_30 : Cond.classLink RX9 30 RX8 ∈ gt := gt_1 (i := 167) (by decide +kernel) (by decide +kernel)
theorem ini_X8 : Cond.initialized RX8 ∈ gt := gt_1 (i := 5) (by decide +kernel) (by decide +kernel)
theorem co_X8_init : Cond.code yX8_init cX8_init 1 none ∈ gt := gt_1 (i := 171) (by decide +kernel) (by decide +kernel)
theorem im_X8_init : Cond.instanceMethod yX8_init ∈ gt := gt_1 (i := 170) (by decide +kernel) (by decide +kernel)
theorem mX9_32 : MlI RX9 32 8 yX8_init cX8_init 1 0 := ⟨⟨⟨by decide +kernel, by decide +kernel, by decide +kernel⟩, by decide, co_X8_init, ini_X8, _, rfl, rfl, by decide⟩, im_X8_init, gt_1 (i := 169) (by decide +kernel) (by decide +kernel), rfl⟩
theorem fX9_33_l : Cond.fieldLink RX9 33 RX9 (TX9 4).2.1 (TX9 4).2.2.1 ∈ gt := gt_2 (i := 161) (by decide +kernel) (by decide +kernel)
theorem fX9_33 : Fl RX9 33 9 4 RX9 TX9 10 tyX9 := ⟨clX9, by decide, Or.inl fX9_33_l⟩
theorem nX9_37 : Cond.classLink RX9 37 RX2 ∈ gt := gt_2 (i := 64) (by decide +kernel) (by decide +kernel)
theorem ini_X2 : Cond.initialized RX2 ∈ gt := gt_1 (i := 8) (by decide +kernel) (by decide +kernel)
theorem co_X2_init : Cond.code yX2_init cX2_init 1 none ∈ gt := gt_2 (i := 68) (by decide +kernel) (by decide +kernel)
theorem im_X2_init : Cond.instanceMethod yX2_init ∈ gt := gt_2 (i := 67) (by decide +kernel) (by decide +kernel)
theorem mX9_39 : MlI RX9 39 2 yX2_init cX2_init 1 0 := ⟨⟨⟨by decide +kernel, by decide +kernel, by decide +kernel⟩, by decide, co_X2_init, ini_X2, _, rfl, rfl, by decide⟩, im_X2_init, gt_2 (i := 66) (by decide +kernel) (by decide +kernel), rfl⟩
theorem fX9_40_l : Cond.fieldLink RX9 40 RX9 (TX9 5).2.1 (TX9 5).2.2.1 ∈ gt := gt_2 (i := 162) (by decide +kernel) (by decide +kernel)
theorem fX9_40 : Fl RX9 40 9 5 RX9 TX9 10 tyX9 := ⟨clX9, by decide, Or.inl fX9_40_l⟩
theorem fX9_44_l : Cond.fieldLink RX9 44 RX9 (TX9 6).2.1 (TX9 6).2.2.1 ∈ gt := gt_2 (i := 163) (by decide +kernel) (by decide +kernel)
theorem fX9_44 : Fl RX9 44 9 6 RX9 TX9 10 tyX9 := ⟨clX9, by decide, Or.inl fX9_44_l⟩
theorem nX9_48 : Cond.classLink RX9 48 RX0 ∈ gt := gt_2 (i := 83) (by decide +kernel) (by decide +kernel)
theorem ini_X0 : Cond.initialized RX0 ∈ gt := gt_1 (i := 9) (by decide +kernel) (by decide +kernel)
theorem co_X0_init : Cond.code yX0_init cX0_init 1 none ∈ gt := gt_2 (i := 87) (by decide +kernel) (by decide +kernel)
theorem im_X0_init : Cond.instanceMethod yX0_init ∈ gt := gt_2 (i := 86) (by decide +kernel) (by decide +kernel)
theorem mX9_50 : MlI RX9 50 0 yX0_init cX0_init 1 0 := ⟨⟨⟨by decide +kernel, by decide +kernel, by decide +kernel⟩, by decide, co_X0_init, ini_X0, _, rfl, rfl, by decide⟩, im_X0_init, gt_2 (i := 85) (by decide +kernel) (by decide +kernel), rfl⟩
theorem fX9_51_l : Cond.fieldLink RX9 51 RX9 (TX9 7).2.1 (TX9 7).2.2.1 ∈ gt := gt_2 (i := 164) (by decide +kernel) (by decide +kernel)
theorem fX9_51 : Fl RX9 51 9 7 RX9 TX9 10 tyX9 := ⟨clX9, by decide, Or.inl fX9_51_l⟩
theorem fX9_55_l : Cond.fieldLink RX9 55 RX9 (TX9 8).2.1 (TX9 8).2.2.1 ∈ gt := gt_2 (i := 165) (by decide +kernel) (by decide +kernel)
theorem fX9_55 : Fl RX9 55 9 8 RX9 TX9 10 tyX9 := ⟨clX9, by decide, Or.inl fX9_55_l⟩
theorem nX9_59 : Cond.classLink RX9 59 RX4 ∈ gt := gt_2 (i := 135) (by decide +kernel) (by decide +kernel)
theorem ini_X4 : Cond.initialized RX4 ∈ gt := gt_1 (i := 10) (by decide +kernel) (by decide +kernel)
theorem co_X4_init : Cond.code yX4_init cX4_init 1 none ∈ gt := gt_2 (i := 139) (by decide +kernel) (by decide +kernel)
theorem im_X4_init : Cond.instanceMethod yX4_init ∈ gt := gt_2 (i := 138) (by decide +kernel) (by decide +kernel)
theorem mX9_61 : MlI RX9 61 4 yX4_init cX4_init 1 0 := ⟨⟨⟨by decide +kernel, by decide +kernel, by decide +kernel⟩, by decide, co_X4_init, ini_X4, _, rfl, rfl, by decide⟩, im_X4_init, gt_2 (i := 137) (by decide +kernel) (by decide +kernel), rfl⟩
theorem fX9_62_l : Cond.fieldLink RX9 62 RX9 (TX9 9).2.1 (TX9 9).2.2.1 ∈ gt := gt_2 (i := 166) (by decide +kernel) (by decide +kernel)
theorem fX9_62 : Fl RX9 62 9 9 RX9 TX9 10 tyX9 := ⟨clX9, by decide, Or.inl fX9_62_l⟩
theorem fX9_66 : Fl RX9 66 7 1 RX7 TX7 8 tyX7 := ⟨clX7, by decide, Or.inr ⟨"FaceCoins", nl_1 (i := 37) (by decide +kernel) rfl⟩⟩
theorem co_X7_put : Cond.code yX7_put cX7_put 3 none ∈ gt := gt_2 (i := 195) (by decide +kernel) (by decide +kernel)
theorem im_X7_put : Cond.instanceMethod yX7_put ∈ gt := gt_2 (i := 193) (by decide +kernel) (by decide +kernel)
theorem se_X7_put : Cond.selects yX7_put.cls yX7_put yX7_put ∈ gt := gt_2 (i := 194) (by decide +kernel) (by decide +kernel)
theorem mX9_70 : MlV RX9 70 7 yX7_put cX7_put 3 none 1 := ⟨⟨⟨by decide +kernel, by decide +kernel, by decide +kernel⟩, by decide, co_X7_put, ini_X7, _, rfl, rfl, by decide⟩, im_X7_put, se_X7_put, Or.inl (gt_2 (i := 192) (by decide +kernel) (by decide +kernel))⟩
theorem co_X7_begin : Cond.code yX7_begin cX7_begin 2 none ∈ gt := gt_2 (i := 207) (by decide +kernel) (by decide +kernel)
theorem im_X7_begin : Cond.instanceMethod yX7_begin ∈ gt := gt_2 (i := 205) (by decide +kernel) (by decide +kernel)
theorem se_X7_begin : Cond.selects yX7_begin.cls yX7_begin yX7_begin ∈ gt := gt_2 (i := 206) (by decide +kernel) (by decide +kernel)
theorem mX9_74 : MlV RX9 74 7 yX7_begin cX7_begin 2 none 1 := ⟨⟨⟨by decide +kernel, by decide +kernel, by decide +kernel⟩, by decide, co_X7_begin, ini_X7, _, rfl, rfl, by decide⟩, im_X7_begin, se_X7_begin, Or.inl (gt_2 (i := 204) (by decide +kernel) (by decide +kernel))⟩
theorem co_X3_readFrom : Cond.code yX3_readFrom cX3_readFrom 3 (some .int) ∈ gt := gt_2 (i := 211) (by decide +kernel) (by decide +kernel)
theorem im_X3_readFrom : Cond.instanceMethod yX3_readFrom ∈ gt := gt_2 (i := 209) (by decide +kernel) (by decide +kernel)
theorem se_X3_readFrom : Cond.selects yX3_readFrom.cls yX3_readFrom yX3_readFrom ∈ gt := gt_2 (i := 210) (by decide +kernel) (by decide +kernel)
theorem mX9_77 : MlV RX9 77 3 yX3_readFrom cX3_readFrom 3 (some .int) 1 := ⟨⟨⟨by decide +kernel, by decide +kernel, by decide +kernel⟩, by decide, co_X3_readFrom, ini_X3, _, rfl, rfl, by decide⟩, im_X3_readFrom, se_X3_readFrom, Or.inl (gt_2 (i := 208) (by decide +kernel) (by decide +kernel))⟩
theorem fX9_81_l : Cond.fieldLink RX9 81 RX9 (TX9 1).2.1 (TX9 1).2.2.1 ∈ gt := gt_2 (i := 158) (by decide +kernel) (by decide +kernel)
theorem fX9_81 : Fl RX9 81 9 1 RX9 TX9 10 tyX9 := ⟨clX9, by decide, Or.inl fX9_81_l⟩
theorem fX9_84 : Fl RX9 84 7 5 RX7 TX7 8 tyX7 := ⟨clX7, by decide, Or.inr ⟨"FaceCoins", nl_1 (i := 44) (by decide +kernel) rfl⟩⟩
theorem co_X8_enact : Cond.code yX8_enact cX8_enact 2 none ∈ gt := gt_3 (i := 95) (by decide +kernel) (by decide +kernel)
theorem im_X8_enact : Cond.instanceMethod yX8_enact ∈ gt := gt_3 (i := 93) (by decide +kernel) (by decide +kernel)
theorem se_X8_enact : Cond.selects yX8_enact.cls yX8_enact yX8_enact ∈ gt := gt_3 (i := 94) (by decide +kernel) (by decide +kernel)
theorem mX9_87 : MlV RX9 87 8 yX8_enact cX8_enact 2 none 1 := ⟨⟨⟨by decide +kernel, by decide +kernel, by decide +kernel⟩, by decide, co_X8_enact, ini_X8, _, rfl, rfl, by decide⟩, im_X8_enact, se_X8_enact, Or.inl (gt_3 (i := 92) (by decide +kernel) (by decide +kernel))⟩
theorem co_X2_forget : Cond.code yX2_forget cX2_forget 1 none ∈ gt := gt_3 (i := 111) (by decide +kernel) (by decide +kernel)
theorem im_X2_forget : Cond.instanceMethod yX2_forget ∈ gt := gt_3 (i := 109) (by decide +kernel) (by decide +kernel)
theorem se_X2_forget : Cond.selects yX2_forget.cls yX2_forget yX2_forget ∈ gt := gt_3 (i := 110) (by decide +kernel) (by decide +kernel)
theorem mX9_91 : MlV RX9 91 2 yX2_forget cX2_forget 1 none 0 := ⟨⟨⟨by decide +kernel, by decide +kernel, by decide +kernel⟩, by decide, co_X2_forget, ini_X2, _, rfl, rfl, by decide⟩, im_X2_forget, se_X2_forget, Or.inl (gt_3 (i := 108) (by decide +kernel) (by decide +kernel))⟩
theorem fX9_94 : Fl RX9 94 3 0 RX3 TX3 13 tyX3 := ⟨clX3, by decide, Or.inr ⟨"FaceCoins", nl_1 (i := 83) (by decide +kernel) rfl⟩⟩
theorem co_X8_isWho : Cond.code yX8_isWho cX8_isWho 2 (some .boolean) ∈ gt := gt_3 (i := 128) (by decide +kernel) (by decide +kernel)
theorem im_X8_isWho : Cond.instanceMethod yX8_isWho ∈ gt := gt_3 (i := 126) (by decide +kernel) (by decide +kernel)
theorem se_X8_isWho : Cond.selects yX8_isWho.cls yX8_isWho yX8_isWho ∈ gt := gt_3 (i := 127) (by decide +kernel) (by decide +kernel)
theorem mX9_97 : MlV RX9 97 8 yX8_isWho cX8_isWho 2 (some .boolean) 1 := ⟨⟨⟨by decide +kernel, by decide +kernel, by decide +kernel⟩, by decide, co_X8_isWho, ini_X8, _, rfl, rfl, by decide⟩, im_X8_isWho, se_X8_isWho, Or.inl (gt_3 (i := 214) (by decide +kernel) (by decide +kernel))⟩
theorem fX9_108 : Fl RX9 108 8 0 RX8 TX8 5 tyX8 := ⟨clX8, by decide, Or.inr ⟨"FaceCoins", nl_2 (i := 41) (by decide +kernel) rfl⟩⟩
theorem fX9_111 : Fl RX9 111 3 5 RX3 TX3 13 tyX3 := ⟨clX3, by decide, Or.inr ⟨"FaceCoins", nl_1 (i := 96) (by decide +kernel) rfl⟩⟩
theorem fX9_114 : Fl RX9 114 3 6 RX3 TX3 13 tyX3 := ⟨clX3, by decide, Or.inr ⟨"FaceCoins", nl_1 (i := 99) (by decide +kernel) rfl⟩⟩
theorem fX9_117 : Fl RX9 117 8 1 RX8 TX8 5 tyX8 := ⟨clX8, by decide, Or.inr ⟨"FaceCoins", nl_2 (i := 45) (by decide +kernel) rfl⟩⟩
theorem ini_X1 : Cond.initialized RX1 ∈ gt := gt_1 (i := 6) (by decide +kernel) (by decide +kernel)
theorem co_X1_isDead : Cond.code yX1_isDead cX1_isDead 2 (some .boolean) ∈ gt := gt_3 (i := 132) (by decide +kernel) (by decide +kernel)
theorem im_X1_isDead : Cond.instanceMethod yX1_isDead ∈ gt := gt_3 (i := 130) (by decide +kernel) (by decide +kernel)
theorem se_X1_isDead : Cond.selects yX1_isDead.cls yX1_isDead yX1_isDead ∈ gt := gt_3 (i := 131) (by decide +kernel) (by decide +kernel)
theorem mX9_121 : MlV RX9 121 1 yX1_isDead cX1_isDead 2 (some .boolean) 1 := ⟨⟨⟨by decide +kernel, by decide +kernel, by decide +kernel⟩, by decide, co_X1_isDead, ini_X1, _, rfl, rfl, by decide⟩, im_X1_isDead, se_X1_isDead, Or.inl (gt_5 (i := 172) (by decide +kernel) (by decide +kernel))⟩
theorem co_X1_coinsOf : Cond.code yX1_coinsOf cX1_coinsOf 4 (some .int) ∈ gt := gt_5 (i := 176) (by decide +kernel) (by decide +kernel)
theorem im_X1_coinsOf : Cond.instanceMethod yX1_coinsOf ∈ gt := gt_5 (i := 174) (by decide +kernel) (by decide +kernel)
theorem se_X1_coinsOf : Cond.selects yX1_coinsOf.cls yX1_coinsOf yX1_coinsOf ∈ gt := gt_5 (i := 175) (by decide +kernel) (by decide +kernel)
theorem mX9_126 : MlV RX9 126 1 yX1_coinsOf cX1_coinsOf 4 (some .int) 1 := ⟨⟨⟨by decide +kernel, by decide +kernel, by decide +kernel⟩, by decide, co_X1_coinsOf, ini_X1, _, rfl, rfl, by decide⟩, im_X1_coinsOf, se_X1_coinsOf, Or.inl (gt_5 (i := 173) (by decide +kernel) (by decide +kernel))⟩
theorem co_X1_grainsOf : Cond.code yX1_grainsOf cX1_grainsOf 4 (some .int) ∈ gt := gt_5 (i := 180) (by decide +kernel) (by decide +kernel)
theorem im_X1_grainsOf : Cond.instanceMethod yX1_grainsOf ∈ gt := gt_5 (i := 178) (by decide +kernel) (by decide +kernel)
theorem se_X1_grainsOf : Cond.selects yX1_grainsOf.cls yX1_grainsOf yX1_grainsOf ∈ gt := gt_5 (i := 179) (by decide +kernel) (by decide +kernel)
theorem mX9_130 : MlV RX9 130 1 yX1_grainsOf cX1_grainsOf 4 (some .int) 1 := ⟨⟨⟨by decide +kernel, by decide +kernel, by decide +kernel⟩, by decide, co_X1_grainsOf, ini_X1, _, rfl, rfl, by decide⟩, im_X1_grainsOf, se_X1_grainsOf, Or.inl (gt_5 (i := 177) (by decide +kernel) (by decide +kernel))⟩
theorem co_X8_coinsBearing : Cond.code yX8_coinsBearing cX8_coinsBearing 4 (some .int) ∈ gt := gt_5 (i := 184) (by decide +kernel) (by decide +kernel)
theorem im_X8_coinsBearing : Cond.instanceMethod yX8_coinsBearing ∈ gt := gt_5 (i := 182) (by decide +kernel) (by decide +kernel)
theorem se_X8_coinsBearing : Cond.selects yX8_coinsBearing.cls yX8_coinsBearing yX8_coinsBearing ∈ gt := gt_5 (i := 183) (by decide +kernel) (by decide +kernel)
theorem mX9_133 : MlV RX9 133 8 yX8_coinsBearing cX8_coinsBearing 4 (some .int) 1 := ⟨⟨⟨by decide +kernel, by decide +kernel, by decide +kernel⟩, by decide, co_X8_coinsBearing, ini_X8, _, rfl, rfl, by decide⟩, im_X8_coinsBearing, se_X8_coinsBearing, Or.inl (gt_5 (i := 181) (by decide +kernel) (by decide +kernel))⟩
theorem co_X8_isMint : Cond.code yX8_isMint cX8_isMint 2 (some .boolean) ∈ gt := gt_3 (i := 136) (by decide +kernel) (by decide +kernel)
theorem im_X8_isMint : Cond.instanceMethod yX8_isMint ∈ gt := gt_3 (i := 134) (by decide +kernel) (by decide +kernel)
theorem se_X8_isMint : Cond.selects yX8_isMint.cls yX8_isMint yX8_isMint ∈ gt := gt_3 (i := 135) (by decide +kernel) (by decide +kernel)
theorem mX9_138 : MlV RX9 138 8 yX8_isMint cX8_isMint 2 (some .boolean) 1 := ⟨⟨⟨by decide +kernel, by decide +kernel, by decide +kernel⟩, by decide, co_X8_isMint, ini_X8, _, rfl, rfl, by decide⟩, im_X8_isMint, se_X8_isMint, Or.inl (gt_3 (i := 133) (by decide +kernel) (by decide +kernel))⟩
theorem fX9_143 : Fl RX9 143 3 8 RX3 TX3 13 tyX3 := ⟨clX3, by decide, Or.inr ⟨"FaceCoins", nl_1 (i := 105) (by decide +kernel) rfl⟩⟩
theorem fX9_146 : Fl RX9 146 3 9 RX3 TX3 13 tyX3 := ⟨clX3, by decide, Or.inr ⟨"FaceCoins", nl_1 (i := 109) (by decide +kernel) rfl⟩⟩
theorem co_X1_isClosed : Cond.code yX1_isClosed cX1_isClosed 2 (some .boolean) ∈ gt := gt_3 (i := 145) (by decide +kernel) (by decide +kernel)
theorem im_X1_isClosed : Cond.instanceMethod yX1_isClosed ∈ gt := gt_3 (i := 143) (by decide +kernel) (by decide +kernel)
theorem se_X1_isClosed : Cond.selects yX1_isClosed.cls yX1_isClosed yX1_isClosed ∈ gt := gt_3 (i := 144) (by decide +kernel) (by decide +kernel)
theorem mX9_149 : MlV RX9 149 1 yX1_isClosed cX1_isClosed 2 (some .boolean) 1 := ⟨⟨⟨by decide +kernel, by decide +kernel, by decide +kernel⟩, by decide, co_X1_isClosed, ini_X1, _, rfl, rfl, by decide⟩, im_X1_isClosed, se_X1_isClosed, Or.inl (gt_4 (i := 158) (by decide +kernel) (by decide +kernel))⟩
theorem co_X8_strokesAt : Cond.code yX8_strokesAt cX8_strokesAt 4 (some .int) ∈ gt := gt_5 (i := 197) (by decide +kernel) (by decide +kernel)
theorem im_X8_strokesAt : Cond.instanceMethod yX8_strokesAt ∈ gt := gt_5 (i := 195) (by decide +kernel) (by decide +kernel)
theorem se_X8_strokesAt : Cond.selects yX8_strokesAt.cls yX8_strokesAt yX8_strokesAt ∈ gt := gt_5 (i := 196) (by decide +kernel) (by decide +kernel)
theorem mX9_152 : MlV RX9 152 8 yX8_strokesAt cX8_strokesAt 4 (some .int) 1 := ⟨⟨⟨by decide +kernel, by decide +kernel, by decide +kernel⟩, by decide, co_X8_strokesAt, ini_X8, _, rfl, rfl, by decide⟩, im_X8_strokesAt, se_X8_strokesAt, Or.inl (gt_5 (i := 194) (by decide +kernel) (by decide +kernel))⟩
theorem co_X8_isAlive : Cond.code yX8_isAlive cX8_isAlive 2 (some .boolean) ∈ gt := gt_3 (i := 124) (by decide +kernel) (by decide +kernel)
theorem im_X8_isAlive : Cond.instanceMethod yX8_isAlive ∈ gt := gt_3 (i := 122) (by decide +kernel) (by decide +kernel)
theorem se_X8_isAlive : Cond.selects yX8_isAlive.cls yX8_isAlive yX8_isAlive ∈ gt := gt_3 (i := 123) (by decide +kernel) (by decide +kernel)
theorem mX9_157 : MlV RX9 157 8 yX8_isAlive cX8_isAlive 2 (some .boolean) 1 := ⟨⟨⟨by decide +kernel, by decide +kernel, by decide +kernel⟩, by decide, co_X8_isAlive, ini_X8, _, rfl, rfl, by decide⟩, im_X8_isAlive, se_X8_isAlive, Or.inl (gt_3 (i := 121) (by decide +kernel) (by decide +kernel))⟩
theorem co_X8_obstacle : Cond.code yX8_obstacle cX8_obstacle 4 (some .int) ∈ gt := gt_3 (i := 140) (by decide +kernel) (by decide +kernel)
theorem im_X8_obstacle : Cond.instanceMethod yX8_obstacle ∈ gt := gt_3 (i := 138) (by decide +kernel) (by decide +kernel)
theorem se_X8_obstacle : Cond.selects yX8_obstacle.cls yX8_obstacle yX8_obstacle ∈ gt := gt_3 (i := 139) (by decide +kernel) (by decide +kernel)
theorem mX9_160 : MlV RX9 160 8 yX8_obstacle cX8_obstacle 4 (some .int) 3 := ⟨⟨⟨by decide +kernel, by decide +kernel, by decide +kernel⟩, by decide, co_X8_obstacle, ini_X8, _, rfl, rfl, by decide⟩, im_X8_obstacle, se_X8_obstacle, Or.inl (gt_3 (i := 137) (by decide +kernel) (by decide +kernel))⟩
theorem fX9_164 : Fl RX9 164 1 0 RX1 TX1 15 tyX1 := ⟨clX1, by decide, Or.inr ⟨"FaceCoins", nl_1 (i := 192) (by decide +kernel) rfl⟩⟩
theorem co_X8_strokesLeft : Cond.code yX8_strokesLeft cX8_strokesLeft 1 (some .int) ∈ gt := gt_3 (i := 149) (by decide +kernel) (by decide +kernel)
theorem im_X8_strokesLeft : Cond.instanceMethod yX8_strokesLeft ∈ gt := gt_3 (i := 147) (by decide +kernel) (by decide +kernel)
theorem se_X8_strokesLeft : Cond.selects yX8_strokesLeft.cls yX8_strokesLeft yX8_strokesLeft ∈ gt := gt_3 (i := 148) (by decide +kernel) (by decide +kernel)
theorem mX9_167 : MlV RX9 167 8 yX8_strokesLeft cX8_strokesLeft 1 (some .int) 0 := ⟨⟨⟨by decide +kernel, by decide +kernel, by decide +kernel⟩, by decide, co_X8_strokesLeft, ini_X8, _, rfl, rfl, by decide⟩, im_X8_strokesLeft, se_X8_strokesLeft, Or.inl (gt_3 (i := 146) (by decide +kernel) (by decide +kernel))⟩
theorem co_X2_keep : Cond.code yX2_keep cX2_keep 3 none ∈ gt := gt_3 (i := 153) (by decide +kernel) (by decide +kernel)
theorem im_X2_keep : Cond.instanceMethod yX2_keep ∈ gt := gt_3 (i := 151) (by decide +kernel) (by decide +kernel)
theorem se_X2_keep : Cond.selects yX2_keep.cls yX2_keep yX2_keep ∈ gt := gt_3 (i := 152) (by decide +kernel) (by decide +kernel)
theorem mX9_171 : MlV RX9 171 2 yX2_keep cX2_keep 3 none 1 := ⟨⟨⟨by decide +kernel, by decide +kernel, by decide +kernel⟩, by decide, co_X2_keep, ini_X2, _, rfl, rfl, by decide⟩, im_X2_keep, se_X2_keep, Or.inl (gt_3 (i := 150) (by decide +kernel) (by decide +kernel))⟩
theorem co_X1_addCoin : Cond.code yX1_addCoin cX1_addCoin 4 (some .int) ∈ gt := gt_3 (i := 163) (by decide +kernel) (by decide +kernel)
theorem im_X1_addCoin : Cond.instanceMethod yX1_addCoin ∈ gt := gt_3 (i := 161) (by decide +kernel) (by decide +kernel)
theorem se_X1_addCoin : Cond.selects yX1_addCoin.cls yX1_addCoin yX1_addCoin ∈ gt := gt_3 (i := 162) (by decide +kernel) (by decide +kernel)
theorem mX9_175 : MlV RX9 175 1 yX1_addCoin cX1_addCoin 4 (some .int) 2 := ⟨⟨⟨by decide +kernel, by decide +kernel, by decide +kernel⟩, by decide, co_X1_addCoin, ini_X1, _, rfl, rfl, by decide⟩, im_X1_addCoin, se_X1_addCoin, Or.inl (gt_3 (i := 160) (by decide +kernel) (by decide +kernel))⟩
theorem co_X8_strike : Cond.code yX8_strike cX8_strike 7 none ∈ gt := gt_3 (i := 167) (by decide +kernel) (by decide +kernel)
theorem im_X8_strike : Cond.instanceMethod yX8_strike ∈ gt := gt_3 (i := 165) (by decide +kernel) (by decide +kernel)
theorem se_X8_strike : Cond.selects yX8_strike.cls yX8_strike yX8_strike ∈ gt := gt_3 (i := 166) (by decide +kernel) (by decide +kernel)
theorem mX9_179 : MlV RX9 179 8 yX8_strike cX8_strike 7 none 5 := ⟨⟨⟨by decide +kernel, by decide +kernel, by decide +kernel⟩, by decide, co_X8_strike, ini_X8, _, rfl, rfl, by decide⟩, im_X8_strike, se_X8_strike, Or.inl (gt_3 (i := 164) (by decide +kernel) (by decide +kernel))⟩
theorem co_X8_isCoin : Cond.code yX8_isCoin cX8_isCoin 2 (some .boolean) ∈ gt := gt_3 (i := 188) (by decide +kernel) (by decide +kernel)
theorem im_X8_isCoin : Cond.instanceMethod yX8_isCoin ∈ gt := gt_3 (i := 186) (by decide +kernel) (by decide +kernel)
theorem se_X8_isCoin : Cond.selects yX8_isCoin.cls yX8_isCoin yX8_isCoin ∈ gt := gt_3 (i := 187) (by decide +kernel) (by decide +kernel)
theorem mX9_183 : MlV RX9 183 8 yX8_isCoin cX8_isCoin 2 (some .boolean) 1 := ⟨⟨⟨by decide +kernel, by decide +kernel, by decide +kernel⟩, by decide, co_X8_isCoin, ini_X8, _, rfl, rfl, by decide⟩, im_X8_isCoin, se_X8_isCoin, Or.inl (gt_3 (i := 185) (by decide +kernel) (by decide +kernel))⟩
theorem fX9_188 : Fl RX9 188 1 9 RX1 TX1 15 tyX1 := ⟨clX1, by decide, Or.inr ⟨"FaceCoins", nl_1 (i := 213) (by decide +kernel) rfl⟩⟩
theorem fX9_191 : Fl RX9 191 1 10 RX1 TX1 15 tyX1 := ⟨clX1, by decide, Or.inr ⟨"FaceCoins", nl_1 (i := 218) (by decide +kernel) rfl⟩⟩
theorem fX9_194 : Fl RX9 194 1 12 RX1 TX1 15 tyX1 := ⟨clX1, by decide, Or.inr ⟨"FaceCoins", nl_1 (i := 227) (by decide +kernel) rfl⟩⟩
theorem fX9_197 : Fl RX9 197 1 11 RX1 TX1 15 tyX1 := ⟨clX1, by decide, Or.inr ⟨"FaceCoins", nl_1 (i := 223) (by decide +kernel) rfl⟩⟩
theorem co_X8_showsFalse : Cond.code yX8_showsFalse cX8_showsFalse 3 (some .boolean) ∈ gt := gt_5 (i := 70) (by decide +kernel) (by decide +kernel)
theorem im_X8_showsFalse : Cond.instanceMethod yX8_showsFalse ∈ gt := gt_5 (i := 68) (by decide +kernel) (by decide +kernel)
theorem se_X8_showsFalse : Cond.selects yX8_showsFalse.cls yX8_showsFalse yX8_showsFalse ∈ gt := gt_5 (i := 69) (by decide +kernel) (by decide +kernel)
theorem mX9_200 : MlV RX9 200 8 yX8_showsFalse cX8_showsFalse 3 (some .boolean) 1 := ⟨⟨⟨by decide +kernel, by decide +kernel, by decide +kernel⟩, by decide, co_X8_showsFalse, ini_X8, _, rfl, rfl, by decide⟩, im_X8_showsFalse, se_X8_showsFalse, Or.inl (gt_5 (i := 207) (by decide +kernel) (by decide +kernel))⟩
theorem co_X8_whoShown : Cond.code yX8_whoShown cX8_whoShown 3 (some .int) ∈ gt := gt_3 (i := 192) (by decide +kernel) (by decide +kernel)
theorem im_X8_whoShown : Cond.instanceMethod yX8_whoShown ∈ gt := gt_3 (i := 190) (by decide +kernel) (by decide +kernel)
theorem se_X8_whoShown : Cond.selects yX8_whoShown.cls yX8_whoShown yX8_whoShown ∈ gt := gt_3 (i := 191) (by decide +kernel) (by decide +kernel)
theorem mX9_205 : MlV RX9 205 8 yX8_whoShown cX8_whoShown 3 (some .int) 2 := ⟨⟨⟨by decide +kernel, by decide +kernel, by decide +kernel⟩, by decide, co_X8_whoShown, ini_X8, _, rfl, rfl, by decide⟩, im_X8_whoShown, se_X8_whoShown, Or.inl (gt_3 (i := 189) (by decide +kernel) (by decide +kernel))⟩
theorem co_X1_depthAt : Cond.code yX1_depthAt cX1_depthAt 3 (some .int) ∈ gt := gt_3 (i := 208) (by decide +kernel) (by decide +kernel)
theorem im_X1_depthAt : Cond.instanceMethod yX1_depthAt ∈ gt := gt_3 (i := 206) (by decide +kernel) (by decide +kernel)
theorem se_X1_depthAt : Cond.selects yX1_depthAt.cls yX1_depthAt yX1_depthAt ∈ gt := gt_3 (i := 207) (by decide +kernel) (by decide +kernel)
theorem mX9_208 : MlV RX9 208 1 yX1_depthAt cX1_depthAt 3 (some .int) 2 := ⟨⟨⟨by decide +kernel, by decide +kernel, by decide +kernel⟩, by decide, co_X1_depthAt, ini_X1, _, rfl, rfl, by decide⟩, im_X1_depthAt, se_X1_depthAt, Or.inl (gt_3 (i := 205) (by decide +kernel) (by decide +kernel))⟩
theorem co_X1_strokeAt : Cond.code yX1_strokeAt cX1_strokeAt 3 (some .int) ∈ gt := gt_3 (i := 196) (by decide +kernel) (by decide +kernel)
theorem im_X1_strokeAt : Cond.instanceMethod yX1_strokeAt ∈ gt := gt_3 (i := 194) (by decide +kernel) (by decide +kernel)
theorem se_X1_strokeAt : Cond.selects yX1_strokeAt.cls yX1_strokeAt yX1_strokeAt ∈ gt := gt_3 (i := 195) (by decide +kernel) (by decide +kernel)
theorem mX9_211 : MlV RX9 211 1 yX1_strokeAt cX1_strokeAt 3 (some .int) 2 := ⟨⟨⟨by decide +kernel, by decide +kernel, by decide +kernel⟩, by decide, co_X1_strokeAt, ini_X1, _, rfl, rfl, by decide⟩, im_X1_strokeAt, se_X1_strokeAt, Or.inl (gt_3 (i := 209) (by decide +kernel) (by decide +kernel))⟩
theorem co_X8_whoOnTop : Cond.code yX8_whoOnTop cX8_whoOnTop 2 (some .int) ∈ gt := gt_3 (i := 218) (by decide +kernel) (by decide +kernel)
theorem im_X8_whoOnTop : Cond.instanceMethod yX8_whoOnTop ∈ gt := gt_3 (i := 216) (by decide +kernel) (by decide +kernel)
theorem se_X8_whoOnTop : Cond.selects yX8_whoOnTop.cls yX8_whoOnTop yX8_whoOnTop ∈ gt := gt_3 (i := 217) (by decide +kernel) (by decide +kernel)
theorem mX9_214 : MlV RX9 214 8 yX8_whoOnTop cX8_whoOnTop 2 (some .int) 1 := ⟨⟨⟨by decide +kernel, by decide +kernel, by decide +kernel⟩, by decide, co_X8_whoOnTop, ini_X8, _, rfl, rfl, by decide⟩, im_X8_whoOnTop, se_X8_whoOnTop, Or.inl (gt_3 (i := 215) (by decide +kernel) (by decide +kernel))⟩
theorem co_X8_luckNow : Cond.code yX8_luckNow cX8_luckNow 4 (some .int) ∈ gt := gt_3 (i := 223) (by decide +kernel) (by decide +kernel)
theorem im_X8_luckNow : Cond.instanceMethod yX8_luckNow ∈ gt := gt_3 (i := 221) (by decide +kernel) (by decide +kernel)
theorem se_X8_luckNow : Cond.selects yX8_luckNow.cls yX8_luckNow yX8_luckNow ∈ gt := gt_3 (i := 222) (by decide +kernel) (by decide +kernel)
theorem mX9_217 : MlV RX9 217 8 yX8_luckNow cX8_luckNow 4 (some .int) 0 := ⟨⟨⟨by decide +kernel, by decide +kernel, by decide +kernel⟩, by decide, co_X8_luckNow, ini_X8, _, rfl, rfl, by decide⟩, im_X8_luckNow, se_X8_luckNow, Or.inl (gt_3 (i := 220) (by decide +kernel) (by decide +kernel))⟩
theorem co_X8_hundredths : Cond.code yX8_hundredths cX8_hundredths 5 (some .int) ∈ gt := gt_3 (i := 231) (by decide +kernel) (by decide +kernel)
theorem im_X8_hundredths : Cond.instanceMethod yX8_hundredths ∈ gt := gt_3 (i := 229) (by decide +kernel) (by decide +kernel)
theorem se_X8_hundredths : Cond.selects yX8_hundredths.cls yX8_hundredths yX8_hundredths ∈ gt := gt_3 (i := 230) (by decide +kernel) (by decide +kernel)
theorem mX9_220 : MlV RX9 220 8 yX8_hundredths cX8_hundredths 5 (some .int) 3 := ⟨⟨⟨by decide +kernel, by decide +kernel, by decide +kernel⟩, by decide, co_X8_hundredths, ini_X8, _, rfl, rfl, by decide⟩, im_X8_hundredths, se_X8_hundredths, Or.inl (gt_3 (i := 228) (by decide +kernel) (by decide +kernel))⟩
theorem co_X8_worth : Cond.code yX8_worth cX8_worth 4 (some .int) ∈ gt := gt_3 (i := 239) (by decide +kernel) (by decide +kernel)
theorem im_X8_worth : Cond.instanceMethod yX8_worth ∈ gt := gt_3 (i := 237) (by decide +kernel) (by decide +kernel)
theorem se_X8_worth : Cond.selects yX8_worth.cls yX8_worth yX8_worth ∈ gt := gt_3 (i := 238) (by decide +kernel) (by decide +kernel)
theorem mX9_223 : MlV RX9 223 8 yX8_worth cX8_worth 4 (some .int) 3 := ⟨⟨⟨by decide +kernel, by decide +kernel, by decide +kernel⟩, by decide, co_X8_worth, ini_X8, _, rfl, rfl, by decide⟩, im_X8_worth, se_X8_worth, Or.inl (gt_3 (i := 236) (by decide +kernel) (by decide +kernel))⟩
theorem ini_X9 : Cond.initialized RX9 ∈ gt := gt_1 (i := 1) (by decide +kernel) (by decide +kernel)
theorem co_X9_tellsUnlikeCoins : Cond.code yX9_tellsUnlikeCoins cX9_tellsUnlikeCoins 6 (some .boolean) ∈ gt := gt_4 (i := 16) (by decide +kernel) (by decide +kernel)
theorem im_X9_tellsUnlikeCoins : Cond.instanceMethod yX9_tellsUnlikeCoins ∈ gt := gt_4 (i := 15) (by decide +kernel) (by decide +kernel)
theorem se_X9_tellsUnlikeCoins : Cond.selects yX9_tellsUnlikeCoins.cls yX9_tellsUnlikeCoins yX9_tellsUnlikeCoins ∈ gt := gt_sel (i := 15) (by decide +kernel) (by decide +kernel)
theorem mX9_226 : MlV RX9 226 9 yX9_tellsUnlikeCoins cX9_tellsUnlikeCoins 6 (some .boolean) 1 := ⟨⟨⟨by decide +kernel, by decide +kernel, by decide +kernel⟩, by decide, co_X9_tellsUnlikeCoins, ini_X9, _, rfl, rfl, by decide⟩, im_X9_tellsUnlikeCoins, se_X9_tellsUnlikeCoins, Or.inl (gt_4 (i := 13) (by decide +kernel) (by decide +kernel))⟩
theorem co_X8_canTrade : Cond.code yX8_canTrade cX8_canTrade 3 (some .boolean) ∈ gt := gt_4 (i := 21) (by decide +kernel) (by decide +kernel)
theorem im_X8_canTrade : Cond.instanceMethod yX8_canTrade ∈ gt := gt_4 (i := 19) (by decide +kernel) (by decide +kernel)
theorem se_X8_canTrade : Cond.selects yX8_canTrade.cls yX8_canTrade yX8_canTrade ∈ gt := gt_4 (i := 20) (by decide +kernel) (by decide +kernel)
theorem mX9_229 : MlV RX9 229 8 yX8_canTrade cX8_canTrade 3 (some .boolean) 2 := ⟨⟨⟨by decide +kernel, by decide +kernel, by decide +kernel⟩, by decide, co_X8_canTrade, ini_X8, _, rfl, rfl, by decide⟩, im_X8_canTrade, se_X8_canTrade, Or.inl (gt_4 (i := 18) (by decide +kernel) (by decide +kernel))⟩
theorem co_X9_leastWrong : Cond.code yX9_leastWrong cX9_leastWrong 9 (some .int) ∈ gt := gt_4 (i := 26) (by decide +kernel) (by decide +kernel)
theorem im_X9_leastWrong : Cond.instanceMethod yX9_leastWrong ∈ gt := gt_4 (i := 25) (by decide +kernel) (by decide +kernel)
theorem se_X9_leastWrong : Cond.selects yX9_leastWrong.cls yX9_leastWrong yX9_leastWrong ∈ gt := gt_sel (i := 16) (by decide +kernel) (by decide +kernel)
theorem mX9_233 : MlV RX9 233 9 yX9_leastWrong cX9_leastWrong 9 (some .int) 5 := ⟨⟨⟨by decide +kernel, by decide +kernel, by decide +kernel⟩, by decide, co_X9_leastWrong, ini_X9, _, rfl, rfl, by decide⟩, im_X9_leastWrong, se_X9_leastWrong, Or.inl (gt_4 (i := 23) (by decide +kernel) (by decide +kernel))⟩
theorem co_X7_at : Cond.code yX7_at cX7_at 2 (some .int) ∈ gt := gt_2 (i := 219) (by decide +kernel) (by decide +kernel)
theorem im_X7_at : Cond.instanceMethod yX7_at ∈ gt := gt_2 (i := 217) (by decide +kernel) (by decide +kernel)
theorem se_X7_at : Cond.selects yX7_at.cls yX7_at yX7_at ∈ gt := gt_2 (i := 218) (by decide +kernel) (by decide +kernel)
theorem mX9_237 : MlV RX9 237 7 yX7_at cX7_at 2 (some .int) 1 := ⟨⟨⟨by decide +kernel, by decide +kernel, by decide +kernel⟩, by decide, co_X7_at, ini_X7, _, rfl, rfl, by decide⟩, im_X7_at, se_X7_at, Or.inl (gt_4 (i := 17) (by decide +kernel) (by decide +kernel))⟩
theorem co_X8_recordSale : Cond.code yX8_recordSale cX8_recordSale 8 (some .int) ∈ gt := gt_4 (i := 34) (by decide +kernel) (by decide +kernel)
theorem im_X8_recordSale : Cond.instanceMethod yX8_recordSale ∈ gt := gt_4 (i := 32) (by decide +kernel) (by decide +kernel)
theorem se_X8_recordSale : Cond.selects yX8_recordSale.cls yX8_recordSale yX8_recordSale ∈ gt := gt_4 (i := 33) (by decide +kernel) (by decide +kernel)
theorem mX9_240 : MlV RX9 240 8 yX8_recordSale cX8_recordSale 8 (some .int) 6 := ⟨⟨⟨by decide +kernel, by decide +kernel, by decide +kernel⟩, by decide, co_X8_recordSale, ini_X8, _, rfl, rfl, by decide⟩, im_X8_recordSale, se_X8_recordSale, Or.inl (gt_4 (i := 31) (by decide +kernel) (by decide +kernel))⟩
theorem co_X8_handOver : Cond.code yX8_handOver cX8_handOver 5 none ∈ gt := gt_4 (i := 38) (by decide +kernel) (by decide +kernel)
theorem im_X8_handOver : Cond.instanceMethod yX8_handOver ∈ gt := gt_4 (i := 36) (by decide +kernel) (by decide +kernel)
theorem se_X8_handOver : Cond.selects yX8_handOver.cls yX8_handOver yX8_handOver ∈ gt := gt_4 (i := 37) (by decide +kernel) (by decide +kernel)
theorem mX9_244 : MlV RX9 244 8 yX8_handOver cX8_handOver 5 none 4 := ⟨⟨⟨by decide +kernel, by decide +kernel, by decide +kernel⟩, by decide, co_X8_handOver, ini_X8, _, rfl, rfl, by decide⟩, im_X8_handOver, se_X8_handOver, Or.inl (gt_4 (i := 35) (by decide +kernel) (by decide +kernel))⟩
theorem co_X9_coinWrong : Cond.code yX9_coinWrong cX9_coinWrong 6 (some .int) ∈ gt := gt_4 (i := 30) (by decide +kernel) (by decide +kernel)
theorem im_X9_coinWrong : Cond.instanceMethod yX9_coinWrong ∈ gt := gt_4 (i := 29) (by decide +kernel) (by decide +kernel)
theorem se_X9_coinWrong : Cond.selects yX9_coinWrong.cls yX9_coinWrong yX9_coinWrong ∈ gt := gt_sel (i := 17) (by decide +kernel) (by decide +kernel)
theorem mX9_248 : MlV RX9 248 9 yX9_coinWrong cX9_coinWrong 6 (some .int) 5 := ⟨⟨⟨by decide +kernel, by decide +kernel, by decide +kernel⟩, by decide, co_X9_coinWrong, ini_X9, _, rfl, rfl, by decide⟩, im_X9_coinWrong, se_X9_coinWrong, Or.inl (gt_4 (i := 27) (by decide +kernel) (by decide +kernel))⟩
theorem fX9_251 : Fl RX9 251 1 2 RX1 TX1 15 tyX1 := ⟨clX1, by decide, Or.inr ⟨"FaceCoins", nl_1 (i := 198) (by decide +kernel) rfl⟩⟩
theorem fX9_258 : Fl RX9 258 8 3 RX8 TX8 5 tyX8 := ⟨clX8, by decide, Or.inr ⟨"FaceCoins", nl_2 (i := 50) (by decide +kernel) rfl⟩⟩
theorem ini_X6 : Cond.initialized RX6 ∈ gt := gt_1 (i := 7) (by decide +kernel) (by decide +kernel)
theorem co_X6_at : Cond.code yX6_at cX6_at 4 (some .int) ∈ gt := gt_3 (i := 204) (by decide +kernel) (by decide +kernel)
theorem im_X6_at : Cond.instanceMethod yX6_at ∈ gt := gt_3 (i := 202) (by decide +kernel) (by decide +kernel)
theorem se_X6_at : Cond.selects yX6_at.cls yX6_at yX6_at ∈ gt := gt_3 (i := 203) (by decide +kernel) (by decide +kernel)
theorem mX9_261 : MlV RX9 261 6 yX6_at cX6_at 4 (some .int) 2 := ⟨⟨⟨by decide +kernel, by decide +kernel, by decide +kernel⟩, by decide, co_X6_at, ini_X6, _, rfl, rfl, by decide⟩, im_X6_at, se_X6_at, Or.inl (gt_5 (i := 218) (by decide +kernel) (by decide +kernel))⟩
theorem co_X9_payable : Cond.code yX9_payable cX9_payable 5 (some .boolean) ∈ gt := gt_4 (i := 51) (by decide +kernel) (by decide +kernel)
theorem im_X9_payable : Cond.instanceMethod yX9_payable ∈ gt := gt_4 (i := 50) (by decide +kernel) (by decide +kernel)
theorem se_X9_payable : Cond.selects yX9_payable.cls yX9_payable yX9_payable ∈ gt := gt_sel (i := 18) (by decide +kernel) (by decide +kernel)
theorem mX9_265 : MlV RX9 265 9 yX9_payable cX9_payable 5 (some .boolean) 4 := ⟨⟨⟨by decide +kernel, by decide +kernel, by decide +kernel⟩, by decide, co_X9_payable, ini_X9, _, rfl, rfl, by decide⟩, im_X9_payable, se_X9_payable, Or.inl (gt_4 (i := 48) (by decide +kernel) (by decide +kernel))⟩
theorem co_X0_find : Cond.code yX0_find cX0_find 9 (some .int) ∈ gt := gt_4 (i := 55) (by decide +kernel) (by decide +kernel)
theorem im_X0_find : Cond.instanceMethod yX0_find ∈ gt := gt_4 (i := 53) (by decide +kernel) (by decide +kernel)
theorem se_X0_find : Cond.selects yX0_find.cls yX0_find yX0_find ∈ gt := gt_4 (i := 54) (by decide +kernel) (by decide +kernel)
theorem mX9_269 : MlV RX9 269 0 yX0_find cX0_find 9 (some .int) 5 := ⟨⟨⟨by decide +kernel, by decide +kernel, by decide +kernel⟩, by decide, co_X0_find, ini_X0, _, rfl, rfl, by decide⟩, im_X0_find, se_X0_find, Or.inl (gt_4 (i := 52) (by decide +kernel) (by decide +kernel))⟩
theorem co_X9_tellPaid : Cond.code yX9_tellPaid cX9_tellPaid 3 none ∈ gt := gt_4 (i := 105) (by decide +kernel) (by decide +kernel)
theorem im_X9_tellPaid : Cond.instanceMethod yX9_tellPaid ∈ gt := gt_4 (i := 104) (by decide +kernel) (by decide +kernel)
theorem se_X9_tellPaid : Cond.selects yX9_tellPaid.cls yX9_tellPaid yX9_tellPaid ∈ gt := gt_sel (i := 29) (by decide +kernel) (by decide +kernel)
theorem mX9_273 : MlV RX9 273 9 yX9_tellPaid cX9_tellPaid 3 none 0 := ⟨⟨⟨by decide +kernel, by decide +kernel, by decide +kernel⟩, by decide, co_X9_tellPaid, ini_X9, _, rfl, rfl, by decide⟩, im_X9_tellPaid, se_X9_tellPaid, Or.inl (gt_4 (i := 102) (by decide +kernel) (by decide +kernel))⟩
theorem fX9_276 : Fl RX9 276 0 0 RX0 TX0 14 tyX0 := ⟨clX0, by decide, Or.inr ⟨"FaceCoins", nl_2 (i := 90) (by decide +kernel) rfl⟩⟩
theorem fX9_279 : Fl RX9 279 0 1 RX0 TX0 14 tyX0 := ⟨clX0, by decide, Or.inr ⟨"FaceCoins", nl_2 (i := 92) (by decide +kernel) rfl⟩⟩
theorem fX9_282 : Fl RX9 282 0 2 RX0 TX0 14 tyX0 := ⟨clX0, by decide, Or.inr ⟨"FaceCoins", nl_2 (i := 94) (by decide +kernel) rfl⟩⟩
theorem co_X0_strokesNeeded : Cond.code yX0_strokesNeeded cX0_strokesNeeded 1 (some .int) ∈ gt := gt_4 (i := 117) (by decide +kernel) (by decide +kernel)
theorem im_X0_strokesNeeded : Cond.instanceMethod yX0_strokesNeeded ∈ gt := gt_4 (i := 115) (by decide +kernel) (by decide +kernel)
theorem se_X0_strokesNeeded : Cond.selects yX0_strokesNeeded.cls yX0_strokesNeeded yX0_strokesNeeded ∈ gt := gt_4 (i := 116) (by decide +kernel) (by decide +kernel)
theorem mX9_285 : MlV RX9 285 0 yX0_strokesNeeded cX0_strokesNeeded 1 (some .int) 0 := ⟨⟨⟨by decide +kernel, by decide +kernel, by decide +kernel⟩, by decide, co_X0_strokesNeeded, ini_X0, _, rfl, rfl, by decide⟩, im_X0_strokesNeeded, se_X0_strokesNeeded, Or.inl (gt_4 (i := 114) (by decide +kernel) (by decide +kernel))⟩
theorem co_X0_settle : Cond.code yX0_settle cX0_settle 8 none ∈ gt := gt_4 (i := 121) (by decide +kernel) (by decide +kernel)
theorem im_X0_settle : Cond.instanceMethod yX0_settle ∈ gt := gt_4 (i := 119) (by decide +kernel) (by decide +kernel)
theorem se_X0_settle : Cond.selects yX0_settle.cls yX0_settle yX0_settle ∈ gt := gt_4 (i := 120) (by decide +kernel) (by decide +kernel)
theorem mX9_288 : MlV RX9 288 0 yX0_settle cX0_settle 8 none 5 := ⟨⟨⟨by decide +kernel, by decide +kernel, by decide +kernel⟩, by decide, co_X0_settle, ini_X0, _, rfl, rfl, by decide⟩, im_X0_settle, se_X0_settle, Or.inl (gt_4 (i := 118) (by decide +kernel) (by decide +kernel))⟩
theorem fX9_292 : Fl RX9 292 1 6 RX1 TX1 15 tyX1 := ⟨clX1, by decide, Or.inr ⟨"FaceCoins", nl_1 (i := 205) (by decide +kernel) rfl⟩⟩
theorem fX9_295 : Fl RX9 295 1 7 RX1 TX1 15 tyX1 := ⟨clX1, by decide, Or.inr ⟨"FaceCoins", nl_1 (i := 207) (by decide +kernel) rfl⟩⟩
theorem fX9_298 : Fl RX9 298 1 3 RX1 TX1 15 tyX1 := ⟨clX1, by decide, Or.inr ⟨"FaceCoins", nl_1 (i := 201) (by decide +kernel) rfl⟩⟩
theorem co_X1_bringDieBack : Cond.code yX1_bringDieBack cX1_bringDieBack 1 none ∈ gt := gt_1 (i := 188) (by decide +kernel) (by decide +kernel)
theorem im_X1_bringDieBack : Cond.instanceMethod yX1_bringDieBack ∈ gt := gt_1 (i := 187) (by decide +kernel) (by decide +kernel)
theorem se_X1_bringDieBack : Cond.selects yX1_bringDieBack.cls yX1_bringDieBack yX1_bringDieBack ∈ gt := gt_sel (i := 2) (by decide +kernel) (by decide +kernel)
theorem mX9_301 : MlV RX9 301 1 yX1_bringDieBack cX1_bringDieBack 1 none 0 := ⟨⟨⟨by decide +kernel, by decide +kernel, by decide +kernel⟩, by decide, co_X1_bringDieBack, ini_X1, _, rfl, rfl, by decide⟩, im_X1_bringDieBack, se_X1_bringDieBack, Or.inr ⟨"FaceCoins", nl_4 (i := 137) (by decide +kernel) rfl⟩⟩
theorem co_X1_bury : Cond.code yX1_bury cX1_bury 2 none ∈ gt := gt_4 (i := 149) (by decide +kernel) (by decide +kernel)
theorem im_X1_bury : Cond.instanceMethod yX1_bury ∈ gt := gt_4 (i := 147) (by decide +kernel) (by decide +kernel)
theorem se_X1_bury : Cond.selects yX1_bury.cls yX1_bury yX1_bury ∈ gt := gt_4 (i := 148) (by decide +kernel) (by decide +kernel)
theorem mX9_304 : MlV RX9 304 1 yX1_bury cX1_bury 2 none 1 := ⟨⟨⟨by decide +kernel, by decide +kernel, by decide +kernel⟩, by decide, co_X1_bury, ini_X1, _, rfl, rfl, by decide⟩, im_X1_bury, se_X1_bury, Or.inl (gt_4 (i := 146) (by decide +kernel) (by decide +kernel))⟩
theorem co_X1_inherit : Cond.code yX1_inherit cX1_inherit 5 (some .int) ∈ gt := gt_4 (i := 153) (by decide +kernel) (by decide +kernel)
theorem im_X1_inherit : Cond.instanceMethod yX1_inherit ∈ gt := gt_4 (i := 151) (by decide +kernel) (by decide +kernel)
theorem se_X1_inherit : Cond.selects yX1_inherit.cls yX1_inherit yX1_inherit ∈ gt := gt_4 (i := 152) (by decide +kernel) (by decide +kernel)
theorem mX9_307 : MlV RX9 307 1 yX1_inherit cX1_inherit 5 (some .int) 2 := ⟨⟨⟨by decide +kernel, by decide +kernel, by decide +kernel⟩, by decide, co_X1_inherit, ini_X1, _, rfl, rfl, by decide⟩, im_X1_inherit, se_X1_inherit, Or.inl (gt_4 (i := 150) (by decide +kernel) (by decide +kernel))⟩
theorem co_X1_shut : Cond.code yX1_shut cX1_shut 2 none ∈ gt := gt_4 (i := 162) (by decide +kernel) (by decide +kernel)
theorem im_X1_shut : Cond.instanceMethod yX1_shut ∈ gt := gt_4 (i := 160) (by decide +kernel) (by decide +kernel)
theorem se_X1_shut : Cond.selects yX1_shut.cls yX1_shut yX1_shut ∈ gt := gt_4 (i := 161) (by decide +kernel) (by decide +kernel)
theorem mX9_310 : MlV RX9 310 1 yX1_shut cX1_shut 2 none 1 := ⟨⟨⟨by decide +kernel, by decide +kernel, by decide +kernel⟩, by decide, co_X1_shut, ini_X1, _, rfl, rfl, by decide⟩, im_X1_shut, se_X1_shut, Or.inl (gt_4 (i := 159) (by decide +kernel) (by decide +kernel))⟩
theorem fX9_313 : Fl RX9 313 1 1 RX1 TX1 15 tyX1 := ⟨clX1, by decide, Or.inr ⟨"FaceCoins", nl_1 (i := 195) (by decide +kernel) rfl⟩⟩
theorem co_X8_isShown : Cond.code yX8_isShown cX8_isShown 4 (some .boolean) ∈ gt := gt_5 (i := 231) (by decide +kernel) (by decide +kernel)
theorem im_X8_isShown : Cond.instanceMethod yX8_isShown ∈ gt := gt_5 (i := 229) (by decide +kernel) (by decide +kernel)
theorem se_X8_isShown : Cond.selects yX8_isShown.cls yX8_isShown yX8_isShown ∈ gt := gt_5 (i := 230) (by decide +kernel) (by decide +kernel)
theorem mX9_320 : MlV RX9 320 8 yX8_isShown cX8_isShown 4 (some .boolean) 1 := ⟨⟨⟨by decide +kernel, by decide +kernel, by decide +kernel⟩, by decide, co_X8_isShown, ini_X8, _, rfl, rfl, by decide⟩, im_X8_isShown, se_X8_isShown, Or.inl (gt_5 (i := 228) (by decide +kernel) (by decide +kernel))⟩
theorem fX9_323 : Fl RX9 323 8 2 RX8 TX8 5 tyX8 := ⟨clX8, by decide, Or.inr ⟨"FaceCoins", nl_2 (i := 48) (by decide +kernel) rfl⟩⟩
theorem co_X1_grainsOfAll : Cond.code yX1_grainsOfAll cX1_grainsOfAll 3 (some .int) ∈ gt := gt_4 (i := 178) (by decide +kernel) (by decide +kernel)
theorem im_X1_grainsOfAll : Cond.instanceMethod yX1_grainsOfAll ∈ gt := gt_4 (i := 176) (by decide +kernel) (by decide +kernel)
theorem se_X1_grainsOfAll : Cond.selects yX1_grainsOfAll.cls yX1_grainsOfAll yX1_grainsOfAll ∈ gt := gt_4 (i := 177) (by decide +kernel) (by decide +kernel)
theorem mX9_325 : MlV RX9 325 1 yX1_grainsOfAll cX1_grainsOfAll 3 (some .int) 0 := ⟨⟨⟨by decide +kernel, by decide +kernel, by decide +kernel⟩, by decide, co_X1_grainsOfAll, ini_X1, _, rfl, rfl, by decide⟩, im_X1_grainsOfAll, se_X1_grainsOfAll, Or.inl (gt_4 (i := 175) (by decide +kernel) (by decide +kernel))⟩
theorem fX9_328 : Fl RX9 328 1 8 RX1 TX1 15 tyX1 := ⟨clX1, by decide, Or.inr ⟨"FaceCoins", nl_1 (i := 209) (by decide +kernel) rfl⟩⟩
theorem co_X4_tooMany : Cond.code yX4_tooMany cX4_tooMany 4 (some .boolean) ∈ gt := gt_4 (i := 185) (by decide +kernel) (by decide +kernel)
theorem mX9_331 : MlS RX9 331 yX4_tooMany cX4_tooMany 4 (some .boolean) 2 := ⟨⟨by decide +kernel, by decide +kernel, by decide +kernel⟩, by decide, co_X4_tooMany, ini_X4, gt_4 (i := 184) (by decide +kernel) (by decide +kernel), gt_4 (i := 183) (by decide +kernel) (by decide +kernel)⟩
theorem co_X4_find : Cond.code yX4_find cX4_find 8 (some .int) ∈ gt := gt_4 (i := 190) (by decide +kernel) (by decide +kernel)
theorem im_X4_find : Cond.instanceMethod yX4_find ∈ gt := gt_4 (i := 188) (by decide +kernel) (by decide +kernel)
theorem se_X4_find : Cond.selects yX4_find.cls yX4_find yX4_find ∈ gt := gt_4 (i := 189) (by decide +kernel) (by decide +kernel)
theorem mX9_335 : MlV RX9 335 4 yX4_find cX4_find 8 (some .int) 4 := ⟨⟨⟨by decide +kernel, by decide +kernel, by decide +kernel⟩, by decide, co_X4_find, ini_X4, _, rfl, rfl, by decide⟩, im_X4_find, se_X4_find, Or.inl (gt_4 (i := 187) (by decide +kernel) (by decide +kernel))⟩
theorem fX9_338 : Fl RX9 338 4 0 RX4 TX4 4 tyX4 := ⟨clX4, by decide, Or.inr ⟨"FaceCoins", nl_2 (i := 142) (by decide +kernel) rfl⟩⟩
theorem fX9_339 : Fl RX9 339 4 1 RX4 TX4 4 tyX4 := ⟨clX4, by decide, Or.inr ⟨"FaceCoins", nl_2 (i := 144) (by decide +kernel) rfl⟩⟩
theorem fX9_342 : Fl RX9 342 4 2 RX4 TX4 4 tyX4 := ⟨clX4, by decide, Or.inr ⟨"FaceCoins", nl_2 (i := 146) (by decide +kernel) rfl⟩⟩
theorem fX9_345 : Fl RX9 345 3 1 RX3 TX3 13 tyX3 := ⟨clX3, by decide, Or.inr ⟨"FaceCoins", nl_1 (i := 87) (by decide +kernel) rfl⟩⟩
theorem fX9_347 : Fl RX9 347 3 2 RX3 TX3 13 tyX3 := ⟨clX3, by decide, Or.inr ⟨"FaceCoins", nl_1 (i := 91) (by decide +kernel) rfl⟩⟩
theorem co_X9_nextSeed : Cond.code yX9_nextSeed cX9_nextSeed 1 (some .int) ∈ gt := gt_4 (i := 223) (by decide +kernel) (by decide +kernel)
theorem mX9_349 : MlS RX9 349 yX9_nextSeed cX9_nextSeed 1 (some .int) 1 := ⟨⟨by decide +kernel, by decide +kernel, by decide +kernel⟩, by decide, co_X9_nextSeed, ini_X9, gt_4 (i := 222) (by decide +kernel) (by decide +kernel), gt_4 (i := 221) (by decide +kernel) (by decide +kernel)⟩
theorem co_X9_drawn : Cond.code yX9_drawn cX9_drawn 2 (some .int) ∈ gt := gt_4 (i := 227) (by decide +kernel) (by decide +kernel)
theorem mX9_352 : MlS RX9 352 yX9_drawn cX9_drawn 2 (some .int) 2 := ⟨⟨by decide +kernel, by decide +kernel, by decide +kernel⟩, by decide, co_X9_drawn, ini_X9, gt_4 (i := 226) (by decide +kernel) (by decide +kernel), gt_4 (i := 225) (by decide +kernel) (by decide +kernel)⟩
theorem co_X9_trade : Cond.code yX9_trade cX9_trade 5 (some .boolean) ∈ gt := gt_4 (i := 231) (by decide +kernel) (by decide +kernel)
theorem im_X9_trade : Cond.instanceMethod yX9_trade ∈ gt := gt_4 (i := 230) (by decide +kernel) (by decide +kernel)
theorem se_X9_trade : Cond.selects yX9_trade.cls yX9_trade yX9_trade ∈ gt := gt_sel (i := 34) (by decide +kernel) (by decide +kernel)
theorem mX9_355 : MlV RX9 355 9 yX9_trade cX9_trade 5 (some .boolean) 4 := ⟨⟨⟨by decide +kernel, by decide +kernel, by decide +kernel⟩, by decide, co_X9_trade, ini_X9, _, rfl, rfl, by decide⟩, im_X9_trade, se_X9_trade, Or.inl (gt_4 (i := 228) (by decide +kernel) (by decide +kernel))⟩
theorem kX9_358 : Cond.constant RX9 358 (iv (1103515245)) ∈ gt := gt_4 (i := 224) (by decide +kernel) (by decide +kernel)
theorem co_X2_takeBack : Cond.code yX2_takeBack cX2_takeBack 3 (some .int) ∈ gt := gt_4 (i := 239) (by decide +kernel) (by decide +kernel)
theorem im_X2_takeBack : Cond.instanceMethod yX2_takeBack ∈ gt := gt_4 (i := 237) (by decide +kernel) (by decide +kernel)
theorem se_X2_takeBack : Cond.selects yX2_takeBack.cls yX2_takeBack yX2_takeBack ∈ gt := gt_4 (i := 238) (by decide +kernel) (by decide +kernel)
theorem mX9_359 : MlV RX9 359 2 yX2_takeBack cX2_takeBack 3 (some .int) 1 := ⟨⟨⟨by decide +kernel, by decide +kernel, by decide +kernel⟩, by decide, co_X2_takeBack, ini_X2, _, rfl, rfl, by decide⟩, im_X2_takeBack, se_X2_takeBack, Or.inl (gt_4 (i := 236) (by decide +kernel) (by decide +kernel))⟩
theorem co_X5_readFrom : Cond.code yX5_readFrom cX5_readFrom 4 (some .int) ∈ gt := gt_5 (i := 7) (by decide +kernel) (by decide +kernel)
theorem im_X5_readFrom : Cond.instanceMethod yX5_readFrom ∈ gt := gt_5 (i := 5) (by decide +kernel) (by decide +kernel)
theorem se_X5_readFrom : Cond.selects yX5_readFrom.cls yX5_readFrom yX5_readFrom ∈ gt := gt_5 (i := 6) (by decide +kernel) (by decide +kernel)
theorem mX9_363 : MlV RX9 363 5 yX5_readFrom cX5_readFrom 4 (some .int) 2 := ⟨⟨⟨by decide +kernel, by decide +kernel, by decide +kernel⟩, by decide, co_X5_readFrom, ini_X5, _, rfl, rfl, by decide⟩, im_X5_readFrom, se_X5_readFrom, Or.inl (gt_5 (i := 4) (by decide +kernel) (by decide +kernel))⟩
theorem fX9_366 : Fl RX9 366 8 4 RX8 TX8 5 tyX8 := ⟨clX8, by decide, Or.inr ⟨"FaceCoins", nl_2 (i := 52) (by decide +kernel) rfl⟩⟩
theorem co_X5_copyFrom : Cond.code yX5_copyFrom cX5_copyFrom 2 none ∈ gt := gt_5 (i := 47) (by decide +kernel) (by decide +kernel)
theorem im_X5_copyFrom : Cond.instanceMethod yX5_copyFrom ∈ gt := gt_5 (i := 45) (by decide +kernel) (by decide +kernel)
theorem se_X5_copyFrom : Cond.selects yX5_copyFrom.cls yX5_copyFrom yX5_copyFrom ∈ gt := gt_5 (i := 46) (by decide +kernel) (by decide +kernel)
theorem mX9_369 : MlV RX9 369 5 yX5_copyFrom cX5_copyFrom 2 none 1 := ⟨⟨⟨by decide +kernel, by decide +kernel, by decide +kernel⟩, by decide, co_X5_copyFrom, ini_X5, _, rfl, rfl, by decide⟩, im_X5_copyFrom, se_X5_copyFrom, Or.inl (gt_5 (i := 44) (by decide +kernel) (by decide +kernel))⟩
theorem fX9_373 : Fl RX9 373 5 0 RX5 TX5 5 tyX5 := ⟨clX5, by decide, Or.inr ⟨"FaceCoins", nl_1 (i := 151) (by decide +kernel) rfl⟩⟩
theorem co_X5_holds : Cond.code yX5_holds cX5_holds 7 (some .boolean) ∈ gt := gt_5 (i := 56) (by decide +kernel) (by decide +kernel)
theorem im_X5_holds : Cond.instanceMethod yX5_holds ∈ gt := gt_5 (i := 54) (by decide +kernel) (by decide +kernel)
theorem se_X5_holds : Cond.selects yX5_holds.cls yX5_holds yX5_holds ∈ gt := gt_5 (i := 55) (by decide +kernel) (by decide +kernel)
theorem mX9_376 : MlV RX9 376 5 yX5_holds cX5_holds 7 (some .boolean) 2 := ⟨⟨⟨by decide +kernel, by decide +kernel, by decide +kernel⟩, by decide, co_X5_holds, ini_X5, _, rfl, rfl, by decide⟩, im_X5_holds, se_X5_holds, Or.inl (gt_5 (i := 53) (by decide +kernel) (by decide +kernel))⟩
theorem co_X8_copyFrom : Cond.code yX8_copyFrom cX8_copyFrom 2 none ∈ gt := gt_5 (i := 82) (by decide +kernel) (by decide +kernel)
theorem im_X8_copyFrom : Cond.instanceMethod yX8_copyFrom ∈ gt := gt_5 (i := 80) (by decide +kernel) (by decide +kernel)
theorem se_X8_copyFrom : Cond.selects yX8_copyFrom.cls yX8_copyFrom yX8_copyFrom ∈ gt := gt_5 (i := 81) (by decide +kernel) (by decide +kernel)
theorem mX9_380 : MlV RX9 380 8 yX8_copyFrom cX8_copyFrom 2 none 1 := ⟨⟨⟨by decide +kernel, by decide +kernel, by decide +kernel⟩, by decide, co_X8_copyFrom, ini_X8, _, rfl, rfl, by decide⟩, im_X8_copyFrom, se_X8_copyFrom, Or.inl (gt_5 (i := 79) (by decide +kernel) (by decide +kernel))⟩
theorem fX9_383 : Fl RX9 383 3 3 RX3 TX3 13 tyX3 := ⟨clX3, by decide, Or.inr ⟨"FaceCoins", nl_1 (i := 93) (by decide +kernel) rfl⟩⟩
theorem fX9_386 : Fl RX9 386 3 11 RX3 TX3 13 tyX3 := ⟨clX3, by decide, Or.inr ⟨"FaceCoins", nl_1 (i := 115) (by decide +kernel) rfl⟩⟩
theorem fX0_11_l : Cond.fieldLink RX0 11 RX0 (TX0 1).2.1 (TX0 1).2.2.1 ∈ gt := gt_2 (i := 91) (by decide +kernel) (by decide +kernel)
theorem fX0_11 : Fl RX0 11 0 1 RX0 TX0 14 tyX0 := ⟨clX0, by decide, Or.inl fX0_11_l⟩
theorem fX0_15_l : Cond.fieldLink RX0 15 RX0 (TX0 2).2.1 (TX0 2).2.2.1 ∈ gt := gt_2 (i := 93) (by decide +kernel) (by decide +kernel)
theorem fX0_15 : Fl RX0 15 0 2 RX0 TX0 14 tyX0 := ⟨clX0, by decide, Or.inl fX0_15_l⟩
theorem fX0_18_l : Cond.fieldLink RX0 18 RX0 (TX0 3).2.1 (TX0 3).2.2.1 ∈ gt := gt_2 (i := 95) (by decide +kernel) (by decide +kernel)
theorem fX0_18 : Fl RX0 18 0 3 RX0 TX0 14 tyX0 := ⟨clX0, by decide, Or.inl fX0_18_l⟩
theorem fX0_21_l : Cond.fieldLink RX0 21 RX0 (TX0 5).2.1 (TX0 5).2.2.1 ∈ gt := gt_2 (i := 97) (by decide +kernel) (by decide +kernel)
theorem fX0_21 : Fl RX0 21 0 5 RX0 TX0 14 tyX0 := ⟨clX0, by decide, Or.inl fX0_21_l⟩
theorem fX0_24_l : Cond.fieldLink RX0 24 RX0 (TX0 6).2.1 (TX0 6).2.2.1 ∈ gt := gt_2 (i := 98) (by decide +kernel) (by decide +kernel)
theorem fX0_24 : Fl RX0 24 0 6 RX0 TX0 14 tyX0 := ⟨clX0, by decide, Or.inl fX0_24_l⟩
theorem fX0_27_l : Cond.fieldLink RX0 27 RX0 (TX0 7).2.1 (TX0 7).2.2.1 ∈ gt := gt_2 (i := 99) (by decide +kernel) (by decide +kernel)
theorem fX0_27 : Fl RX0 27 0 7 RX0 TX0 14 tyX0 := ⟨clX0, by decide, Or.inl fX0_27_l⟩
theorem fX0_30_l : Cond.fieldLink RX0 30 RX0 (TX0 8).2.1 (TX0 8).2.2.1 ∈ gt := gt_2 (i := 100) (by decide +kernel) (by decide +kernel)
theorem fX0_30 : Fl RX0 30 0 8 RX0 TX0 14 tyX0 := ⟨clX0, by decide, Or.inl fX0_30_l⟩
theorem co_X0_lookAt : Cond.code yX0_lookAt cX0_lookAt 4 none ∈ gt := gt_4 (i := 59) (by decide +kernel) (by decide +kernel)
theorem im_X0_lookAt : Cond.instanceMethod yX0_lookAt ∈ gt := gt_4 (i := 58) (by decide +kernel) (by decide +kernel)
theorem se_X0_lookAt : Cond.selects yX0_lookAt.cls yX0_lookAt yX0_lookAt ∈ gt := gt_sel (i := 19) (by decide +kernel) (by decide +kernel)
theorem mX0_33 : MlV RX0 33 0 yX0_lookAt cX0_lookAt 4 none 2 := ⟨⟨⟨by decide +kernel, by decide +kernel, by decide +kernel⟩, by decide, co_X0_lookAt, ini_X0, _, rfl, rfl, by decide⟩, im_X0_lookAt, se_X0_lookAt, Or.inl (gt_4 (i := 56) (by decide +kernel) (by decide +kernel))⟩
theorem fX0_37_l : Cond.fieldLink RX0 37 RX0 (TX0 4).2.1 (TX0 4).2.2.1 ∈ gt := gt_2 (i := 96) (by decide +kernel) (by decide +kernel)
theorem fX0_37 : Fl RX0 37 0 4 RX0 TX0 14 tyX0 := ⟨clX0, by decide, Or.inl fX0_37_l⟩
theorem mX0_41 : MlV RX0 41 8 yX8_luckNow cX8_luckNow 4 (some .int) 0 := ⟨⟨⟨by decide +kernel, by decide +kernel, by decide +kernel⟩, by decide, co_X8_luckNow, ini_X8, _, rfl, rfl, by decide⟩, im_X8_luckNow, se_X8_luckNow, Or.inl (gt_4 (i := 61) (by decide +kernel) (by decide +kernel))⟩
theorem mX0_47 : MlV RX0 47 8 yX8_hundredths cX8_hundredths 5 (some .int) 3 := ⟨⟨⟨by decide +kernel, by decide +kernel, by decide +kernel⟩, by decide, co_X8_hundredths, ini_X8, _, rfl, rfl, by decide⟩, im_X8_hundredths, se_X8_hundredths, Or.inl (gt_4 (i := 62) (by decide +kernel) (by decide +kernel))⟩
theorem fX0_51_l : Cond.fieldLink RX0 51 RX0 (TX0 0).2.1 (TX0 0).2.2.1 ∈ gt := gt_2 (i := 89) (by decide +kernel) (by decide +kernel)
theorem fX0_51 : Fl RX0 51 0 0 RX0 TX0 14 tyX0 := ⟨clX0, by decide, Or.inl fX0_51_l⟩
theorem co_X0_appraiseGiven : Cond.code yX0_appraiseGiven cX0_appraiseGiven 8 none ∈ gt := gt_4 (i := 66) (by decide +kernel) (by decide +kernel)
theorem im_X0_appraiseGiven : Cond.instanceMethod yX0_appraiseGiven ∈ gt := gt_4 (i := 65) (by decide +kernel) (by decide +kernel)
theorem se_X0_appraiseGiven : Cond.selects yX0_appraiseGiven.cls yX0_appraiseGiven yX0_appraiseGiven ∈ gt := gt_sel (i := 20) (by decide +kernel) (by decide +kernel)
theorem mX0_54 : MlV RX0 54 0 yX0_appraiseGiven cX0_appraiseGiven 8 none 5 := ⟨⟨⟨by decide +kernel, by decide +kernel, by decide +kernel⟩, by decide, co_X0_appraiseGiven, ini_X0, _, rfl, rfl, by decide⟩, im_X0_appraiseGiven, se_X0_appraiseGiven, Or.inl (gt_4 (i := 63) (by decide +kernel) (by decide +kernel))⟩
theorem co_X0_appraiseStruck : Cond.code yX0_appraiseStruck cX0_appraiseStruck 10 none ∈ gt := gt_4 (i := 72) (by decide +kernel) (by decide +kernel)
theorem im_X0_appraiseStruck : Cond.instanceMethod yX0_appraiseStruck ∈ gt := gt_4 (i := 71) (by decide +kernel) (by decide +kernel)
theorem se_X0_appraiseStruck : Cond.selects yX0_appraiseStruck.cls yX0_appraiseStruck yX0_appraiseStruck ∈ gt := gt_sel (i := 21) (by decide +kernel) (by decide +kernel)
theorem mX0_58 : MlV RX0 58 0 yX0_appraiseStruck cX0_appraiseStruck 10 none 4 := ⟨⟨⟨by decide +kernel, by decide +kernel, by decide +kernel⟩, by decide, co_X0_appraiseStruck, ini_X0, _, rfl, rfl, by decide⟩, im_X0_appraiseStruck, se_X0_appraiseStruck, Or.inl (gt_4 (i := 69) (by decide +kernel) (by decide +kernel))⟩
theorem co_X0_noteUsable : Cond.code yX0_noteUsable cX0_noteUsable 5 none ∈ gt := gt_4 (i := 76) (by decide +kernel) (by decide +kernel)
theorem im_X0_noteUsable : Cond.instanceMethod yX0_noteUsable ∈ gt := gt_4 (i := 75) (by decide +kernel) (by decide +kernel)
theorem se_X0_noteUsable : Cond.selects yX0_noteUsable.cls yX0_noteUsable yX0_noteUsable ∈ gt := gt_sel (i := 22) (by decide +kernel) (by decide +kernel)
theorem mX0_62 : MlV RX0 62 0 yX0_noteUsable cX0_noteUsable 5 none 2 := ⟨⟨⟨by decide +kernel, by decide +kernel, by decide +kernel⟩, by decide, co_X0_noteUsable, ini_X0, _, rfl, rfl, by decide⟩, im_X0_noteUsable, se_X0_noteUsable, Or.inl (gt_4 (i := 73) (by decide +kernel) (by decide +kernel))⟩
theorem co_X0_sumWorth : Cond.code yX0_sumWorth cX0_sumWorth 3 none ∈ gt := gt_4 (i := 81) (by decide +kernel) (by decide +kernel)
theorem im_X0_sumWorth : Cond.instanceMethod yX0_sumWorth ∈ gt := gt_4 (i := 80) (by decide +kernel) (by decide +kernel)
theorem se_X0_sumWorth : Cond.selects yX0_sumWorth.cls yX0_sumWorth yX0_sumWorth ∈ gt := gt_sel (i := 23) (by decide +kernel) (by decide +kernel)
theorem mX0_65 : MlV RX0 65 0 yX0_sumWorth cX0_sumWorth 3 none 0 := ⟨⟨⟨by decide +kernel, by decide +kernel, by decide +kernel⟩, by decide, co_X0_sumWorth, ini_X0, _, rfl, rfl, by decide⟩, im_X0_sumWorth, se_X0_sumWorth, Or.inl (gt_4 (i := 78) (by decide +kernel) (by decide +kernel))⟩
theorem fX0_68_l : Cond.fieldLink RX0 68 RX0 (TX0 9).2.1 (TX0 9).2.2.1 ∈ gt := gt_2 (i := 101) (by decide +kernel) (by decide +kernel)
theorem fX0_68 : Fl RX0 68 0 9 RX0 TX0 14 tyX0 := ⟨clX0, by decide, Or.inl fX0_68_l⟩
theorem co_X0_seekCheapest : Cond.code yX0_seekCheapest cX0_seekCheapest 5 none ∈ gt := gt_4 (i := 85) (by decide +kernel) (by decide +kernel)
theorem im_X0_seekCheapest : Cond.instanceMethod yX0_seekCheapest ∈ gt := gt_4 (i := 84) (by decide +kernel) (by decide +kernel)
theorem se_X0_seekCheapest : Cond.selects yX0_seekCheapest.cls yX0_seekCheapest yX0_seekCheapest ∈ gt := gt_sel (i := 24) (by decide +kernel) (by decide +kernel)
theorem mX0_71 : MlV RX0 71 0 yX0_seekCheapest cX0_seekCheapest 5 none 4 := ⟨⟨⟨by decide +kernel, by decide +kernel, by decide +kernel⟩, by decide, co_X0_seekCheapest, ini_X0, _, rfl, rfl, by decide⟩, im_X0_seekCheapest, se_X0_seekCheapest, Or.inl (gt_4 (i := 82) (by decide +kernel) (by decide +kernel))⟩
theorem co_X0_chooseWays : Cond.code yX0_chooseWays cX0_chooseWays 6 none ∈ gt := gt_4 (i := 93) (by decide +kernel) (by decide +kernel)
theorem im_X0_chooseWays : Cond.instanceMethod yX0_chooseWays ∈ gt := gt_4 (i := 92) (by decide +kernel) (by decide +kernel)
theorem se_X0_chooseWays : Cond.selects yX0_chooseWays.cls yX0_chooseWays yX0_chooseWays ∈ gt := gt_sel (i := 26) (by decide +kernel) (by decide +kernel)
theorem mX0_75 : MlV RX0 75 0 yX0_chooseWays cX0_chooseWays 6 none 1 := ⟨⟨⟨by decide +kernel, by decide +kernel, by decide +kernel⟩, by decide, co_X0_chooseWays, ini_X0, _, rfl, rfl, by decide⟩, im_X0_chooseWays, se_X0_chooseWays, Or.inl (gt_4 (i := 90) (by decide +kernel) (by decide +kernel))⟩
theorem fX0_79 : Fl RX0 79 8 1 RX8 TX8 5 tyX8 := ⟨clX8, by decide, Or.inr ⟨"FaceCoins", nl_2 (i := 43) (by decide +kernel) rfl⟩⟩
theorem fX0_83 : Fl RX0 83 1 0 RX1 TX1 15 tyX1 := ⟨clX1, by decide, Or.inr ⟨"FaceCoins", nl_1 (i := 190) (by decide +kernel) rfl⟩⟩
theorem mX0_88 : MlV RX0 88 8 yX8_isCoin cX8_isCoin 2 (some .boolean) 1 := ⟨⟨⟨by decide +kernel, by decide +kernel, by decide +kernel⟩, by decide, co_X8_isCoin, ini_X8, _, rfl, rfl, by decide⟩, im_X8_isCoin, se_X8_isCoin, Or.inl (gt_4 (i := 60) (by decide +kernel) (by decide +kernel))⟩
theorem fX0_92 : Fl RX0 92 1 10 RX1 TX1 15 tyX1 := ⟨clX1, by decide, Or.inr ⟨"FaceCoins", nl_1 (i := 217) (by decide +kernel) rfl⟩⟩
theorem fX0_95 : Fl RX0 95 1 9 RX1 TX1 15 tyX1 := ⟨clX1, by decide, Or.inr ⟨"FaceCoins", nl_1 (i := 211) (by decide +kernel) rfl⟩⟩
theorem fX0_98 : Fl RX0 98 1 11 RX1 TX1 15 tyX1 := ⟨clX1, by decide, Or.inr ⟨"FaceCoins", nl_1 (i := 222) (by decide +kernel) rfl⟩⟩
theorem mX0_101 : MlV RX0 101 8 yX8_obstacle cX8_obstacle 4 (some .int) 3 := ⟨⟨⟨by decide +kernel, by decide +kernel, by decide +kernel⟩, by decide, co_X8_obstacle, ini_X8, _, rfl, rfl, by decide⟩, im_X8_obstacle, se_X8_obstacle, Or.inl (gt_4 (i := 67) (by decide +kernel) (by decide +kernel))⟩
theorem mX0_104 : MlV RX0 104 8 yX8_worth cX8_worth 4 (some .int) 3 := ⟨⟨⟨by decide +kernel, by decide +kernel, by decide +kernel⟩, by decide, co_X8_worth, ini_X8, _, rfl, rfl, by decide⟩, im_X8_worth, se_X8_worth, Or.inl (gt_4 (i := 68) (by decide +kernel) (by decide +kernel))⟩
theorem fX0_107 : Fl RX0 107 8 0 RX8 TX8 5 tyX8 := ⟨clX8, by decide, Or.inr ⟨"FaceCoins", nl_2 (i := 40) (by decide +kernel) rfl⟩⟩
theorem fX0_111 : Fl RX0 111 3 8 RX3 TX3 13 tyX3 := ⟨clX3, by decide, Or.inr ⟨"FaceCoins", nl_1 (i := 104) (by decide +kernel) rfl⟩⟩
theorem co_X0_noteCheapest : Cond.code yX0_noteCheapest cX0_noteCheapest 4 none ∈ gt := gt_4 (i := 89) (by decide +kernel) (by decide +kernel)
theorem im_X0_noteCheapest : Cond.instanceMethod yX0_noteCheapest ∈ gt := gt_4 (i := 88) (by decide +kernel) (by decide +kernel)
theorem se_X0_noteCheapest : Cond.selects yX0_noteCheapest.cls yX0_noteCheapest yX0_noteCheapest ∈ gt := gt_sel (i := 25) (by decide +kernel) (by decide +kernel)
theorem mX0_122 : MlV RX0 122 0 yX0_noteCheapest cX0_noteCheapest 4 none 2 := ⟨⟨⟨by decide +kernel, by decide +kernel, by decide +kernel⟩, by decide, co_X0_noteCheapest, ini_X0, _, rfl, rfl, by decide⟩, im_X0_noteCheapest, se_X0_noteCheapest, Or.inl (gt_4 (i := 86) (by decide +kernel) (by decide +kernel))⟩
theorem fX0_126_l : Cond.fieldLink RX0 126 RX0 (TX0 10).2.1 (TX0 10).2.2.1 ∈ gt := gt_2 (i := 102) (by decide +kernel) (by decide +kernel)
theorem fX0_126 : Fl RX0 126 0 10 RX0 TX0 14 tyX0 := ⟨clX0, by decide, Or.inl fX0_126_l⟩
theorem fX0_129_l : Cond.fieldLink RX0 129 RX0 (TX0 11).2.1 (TX0 11).2.2.1 ∈ gt := gt_2 (i := 103) (by decide +kernel) (by decide +kernel)
theorem fX0_129 : Fl RX0 129 0 11 RX0 TX0 14 tyX0 := ⟨clX0, by decide, Or.inl fX0_129_l⟩
theorem fX0_132_l : Cond.fieldLink RX0 132 RX0 (TX0 12).2.1 (TX0 12).2.2.1 ∈ gt := gt_2 (i := 104) (by decide +kernel) (by decide +kernel)
theorem fX0_132 : Fl RX0 132 0 12 RX0 TX0 14 tyX0 := ⟨clX0, by decide, Or.inl fX0_132_l⟩
theorem co_X0_firstWay : Cond.code yX0_firstWay cX0_firstWay 7 (some .int) ∈ gt := gt_4 (i := 97) (by decide +kernel) (by decide +kernel)
theorem im_X0_firstWay : Cond.instanceMethod yX0_firstWay ∈ gt := gt_4 (i := 96) (by decide +kernel) (by decide +kernel)
theorem se_X0_firstWay : Cond.selects yX0_firstWay.cls yX0_firstWay yX0_firstWay ∈ gt := gt_sel (i := 27) (by decide +kernel) (by decide +kernel)
theorem mX0_135 : MlV RX0 135 0 yX0_firstWay cX0_firstWay 7 (some .int) 4 := ⟨⟨⟨by decide +kernel, by decide +kernel, by decide +kernel⟩, by decide, co_X0_firstWay, ini_X0, _, rfl, rfl, by decide⟩, im_X0_firstWay, se_X0_firstWay, Or.inl (gt_4 (i := 94) (by decide +kernel) (by decide +kernel))⟩
theorem fX0_139_l : Cond.fieldLink RX0 139 RX0 (TX0 13).2.1 (TX0 13).2.2.1 ∈ gt := gt_2 (i := 105) (by decide +kernel) (by decide +kernel)
theorem fX0_139 : Fl RX0 139 0 13 RX0 TX0 14 tyX0 := ⟨clX0, by decide, Or.inl fX0_139_l⟩
theorem co_X0_canMakeUp : Cond.code yX0_canMakeUp cX0_canMakeUp 5 (some .boolean) ∈ gt := gt_4 (i := 101) (by decide +kernel) (by decide +kernel)
theorem im_X0_canMakeUp : Cond.instanceMethod yX0_canMakeUp ∈ gt := gt_4 (i := 100) (by decide +kernel) (by decide +kernel)
theorem se_X0_canMakeUp : Cond.selects yX0_canMakeUp.cls yX0_canMakeUp yX0_canMakeUp ∈ gt := gt_sel (i := 28) (by decide +kernel) (by decide +kernel)
theorem mX0_142 : MlV RX0 142 0 yX0_canMakeUp cX0_canMakeUp 5 (some .boolean) 4 := ⟨⟨⟨by decide +kernel, by decide +kernel, by decide +kernel⟩, by decide, co_X0_canMakeUp, ini_X0, _, rfl, rfl, by decide⟩, im_X0_canMakeUp, se_X0_canMakeUp, Or.inl (gt_4 (i := 98) (by decide +kernel) (by decide +kernel))⟩
theorem mX0_146 : MlV RX0 146 8 yX8_strike cX8_strike 7 none 5 := ⟨⟨⟨by decide +kernel, by decide +kernel, by decide +kernel⟩, by decide, co_X8_strike, ini_X8, _, rfl, rfl, by decide⟩, im_X8_strike, se_X8_strike, Or.inl (gt_4 (i := 122) (by decide +kernel) (by decide +kernel))⟩
theorem mX0_150 : MlV RX0 150 8 yX8_recordSale cX8_recordSale 8 (some .int) 6 := ⟨⟨⟨by decide +kernel, by decide +kernel, by decide +kernel⟩, by decide, co_X8_recordSale, ini_X8, _, rfl, rfl, by decide⟩, im_X8_recordSale, se_X8_recordSale, Or.inl (gt_4 (i := 123) (by decide +kernel) (by decide +kernel))⟩
theorem mX0_154 : MlV RX0 154 8 yX8_handOver cX8_handOver 5 none 4 := ⟨⟨⟨by decide +kernel, by decide +kernel, by decide +kernel⟩, by decide, co_X8_handOver, ini_X8, _, rfl, rfl, by decide⟩, im_X8_handOver, se_X8_handOver, Or.inl (gt_4 (i := 124) (by decide +kernel) (by decide +kernel))⟩
theorem fX1_9_l : Cond.fieldLink RX1 9 RX1 (TX1 9).2.1 (TX1 9).2.2.1 ∈ gt := gt_1 (i := 210) (by decide +kernel) (by decide +kernel)
theorem fX1_9 : Fl RX1 9 1 9 RX1 TX1 15 tyX1 := ⟨clX1, by decide, Or.inl fX1_9_l⟩
theorem fX1_15_l : Cond.fieldLink RX1 15 RX1 (TX1 10).2.1 (TX1 10).2.2.1 ∈ gt := gt_1 (i := 216) (by decide +kernel) (by decide +kernel)
theorem fX1_15 : Fl RX1 15 1 10 RX1 TX1 15 tyX1 := ⟨clX1, by decide, Or.inl fX1_15_l⟩
theorem fX1_18_l : Cond.fieldLink RX1 18 RX1 (TX1 11).2.1 (TX1 11).2.2.1 ∈ gt := gt_1 (i := 221) (by decide +kernel) (by decide +kernel)
theorem fX1_18 : Fl RX1 18 1 11 RX1 TX1 15 tyX1 := ⟨clX1, by decide, Or.inl fX1_18_l⟩
theorem fX1_21_l : Cond.fieldLink RX1 21 RX1 (TX1 12).2.1 (TX1 12).2.2.1 ∈ gt := gt_1 (i := 225) (by decide +kernel) (by decide +kernel)
theorem fX1_21 : Fl RX1 21 1 12 RX1 TX1 15 tyX1 := ⟨clX1, by decide, Or.inl fX1_21_l⟩
theorem fX1_24_l : Cond.fieldLink RX1 24 RX1 (TX1 13).2.1 (TX1 13).2.2.1 ∈ gt := gt_1 (i := 229) (by decide +kernel) (by decide +kernel)
theorem fX1_24 : Fl RX1 24 1 13 RX1 TX1 15 tyX1 := ⟨clX1, by decide, Or.inl fX1_24_l⟩
theorem fX1_27_l : Cond.fieldLink RX1 27 RX1 (TX1 14).2.1 (TX1 14).2.2.1 ∈ gt := gt_1 (i := 231) (by decide +kernel) (by decide +kernel)
theorem fX1_27 : Fl RX1 27 1 14 RX1 TX1 15 tyX1 := ⟨clX1, by decide, Or.inl fX1_27_l⟩
theorem co_X1_clear : Cond.code yX1_clear cX1_clear 1 none ∈ gt := gt_1 (i := 184) (by decide +kernel) (by decide +kernel)
theorem im_X1_clear : Cond.instanceMethod yX1_clear ∈ gt := gt_1 (i := 183) (by decide +kernel) (by decide +kernel)
theorem se_X1_clear : Cond.selects yX1_clear.cls yX1_clear yX1_clear ∈ gt := gt_sel (i := 1) (by decide +kernel) (by decide +kernel)
theorem mX1_30 : MlV RX1 30 1 yX1_clear cX1_clear 1 none 0 := ⟨⟨⟨by decide +kernel, by decide +kernel, by decide +kernel⟩, by decide, co_X1_clear, ini_X1, _, rfl, rfl, by decide⟩, im_X1_clear, se_X1_clear, Or.inl (gt_1 (i := 181) (by decide +kernel) (by decide +kernel))⟩
theorem fX1_33_l : Cond.fieldLink RX1 33 RX1 (TX1 0).2.1 (TX1 0).2.2.1 ∈ gt := gt_1 (i := 189) (by decide +kernel) (by decide +kernel)
theorem fX1_33 : Fl RX1 33 1 0 RX1 TX1 15 tyX1 := ⟨clX1, by decide, Or.inl fX1_33_l⟩
theorem fX1_37_l : Cond.fieldLink RX1 37 RX1 (TX1 1).2.1 (TX1 1).2.2.1 ∈ gt := gt_1 (i := 193) (by decide +kernel) (by decide +kernel)
theorem fX1_37 : Fl RX1 37 1 1 RX1 TX1 15 tyX1 := ⟨clX1, by decide, Or.inl fX1_37_l⟩
theorem fX1_40_l : Cond.fieldLink RX1 40 RX1 (TX1 2).2.1 (TX1 2).2.2.1 ∈ gt := gt_1 (i := 196) (by decide +kernel) (by decide +kernel)
theorem fX1_40 : Fl RX1 40 1 2 RX1 TX1 15 tyX1 := ⟨clX1, by decide, Or.inl fX1_40_l⟩
theorem fX1_43_l : Cond.fieldLink RX1 43 RX1 (TX1 3).2.1 (TX1 3).2.2.1 ∈ gt := gt_1 (i := 199) (by decide +kernel) (by decide +kernel)
theorem fX1_43 : Fl RX1 43 1 3 RX1 TX1 15 tyX1 := ⟨clX1, by decide, Or.inl fX1_43_l⟩
theorem fX1_46_l : Cond.fieldLink RX1 46 RX1 (TX1 4).2.1 (TX1 4).2.2.1 ∈ gt := gt_1 (i := 202) (by decide +kernel) (by decide +kernel)
theorem fX1_46 : Fl RX1 46 1 4 RX1 TX1 15 tyX1 := ⟨clX1, by decide, Or.inl fX1_46_l⟩
theorem fX1_49_l : Cond.fieldLink RX1 49 RX1 (TX1 5).2.1 (TX1 5).2.2.1 ∈ gt := gt_1 (i := 203) (by decide +kernel) (by decide +kernel)
theorem fX1_49 : Fl RX1 49 1 5 RX1 TX1 15 tyX1 := ⟨clX1, by decide, Or.inl fX1_49_l⟩
theorem fX1_52_l : Cond.fieldLink RX1 52 RX1 (TX1 8).2.1 (TX1 8).2.2.1 ∈ gt := gt_1 (i := 208) (by decide +kernel) (by decide +kernel)
theorem fX1_52 : Fl RX1 52 1 8 RX1 TX1 15 tyX1 := ⟨clX1, by decide, Or.inl fX1_52_l⟩
theorem mX1_55 : MlV RX1 55 1 yX1_bringDieBack cX1_bringDieBack 1 none 0 := ⟨⟨⟨by decide +kernel, by decide +kernel, by decide +kernel⟩, by decide, co_X1_bringDieBack, ini_X1, _, rfl, rfl, by decide⟩, im_X1_bringDieBack, se_X1_bringDieBack, Or.inl (gt_1 (i := 185) (by decide +kernel) (by decide +kernel))⟩
theorem fX1_58_l : Cond.fieldLink RX1 58 RX1 (TX1 6).2.1 (TX1 6).2.2.1 ∈ gt := gt_1 (i := 204) (by decide +kernel) (by decide +kernel)
theorem fX1_58 : Fl RX1 58 1 6 RX1 TX1 15 tyX1 := ⟨clX1, by decide, Or.inl fX1_58_l⟩
theorem fX1_61_l : Cond.fieldLink RX1 61 RX1 (TX1 7).2.1 (TX1 7).2.2.1 ∈ gt := gt_1 (i := 206) (by decide +kernel) (by decide +kernel)
theorem fX1_61 : Fl RX1 61 1 7 RX1 TX1 15 tyX1 := ⟨clX1, by decide, Or.inl fX1_61_l⟩
theorem co_X1_hasFace : Cond.code yX1_hasFace cX1_hasFace 3 (some .boolean) ∈ gt := gt_3 (i := 200) (by decide +kernel) (by decide +kernel)
theorem im_X1_hasFace : Cond.instanceMethod yX1_hasFace ∈ gt := gt_3 (i := 199) (by decide +kernel) (by decide +kernel)
theorem se_X1_hasFace : Cond.selects yX1_hasFace.cls yX1_hasFace yX1_hasFace ∈ gt := gt_sel (i := 14) (by decide +kernel) (by decide +kernel)
theorem mX1_70 : MlV RX1 70 1 yX1_hasFace cX1_hasFace 3 (some .boolean) 2 := ⟨⟨⟨by decide +kernel, by decide +kernel, by decide +kernel⟩, by decide, co_X1_hasFace, ini_X1, _, rfl, rfl, by decide⟩, im_X1_hasFace, se_X1_hasFace, Or.inl (gt_3 (i := 197) (by decide +kernel) (by decide +kernel))⟩
theorem co_X1_facesLeft : Cond.code yX1_facesLeft cX1_facesLeft 5 (some .int) ∈ gt := gt_3 (i := 180) (by decide +kernel) (by decide +kernel)
theorem im_X1_facesLeft : Cond.instanceMethod yX1_facesLeft ∈ gt := gt_3 (i := 179) (by decide +kernel) (by decide +kernel)
theorem se_X1_facesLeft : Cond.selects yX1_facesLeft.cls yX1_facesLeft yX1_facesLeft ∈ gt := gt_sel (i := 13) (by decide +kernel) (by decide +kernel)
theorem mX1_74 : MlV RX1 74 1 yX1_facesLeft cX1_facesLeft 5 (some .int) 2 := ⟨⟨⟨by decide +kernel, by decide +kernel, by decide +kernel⟩, by decide, co_X1_facesLeft, ini_X1, _, rfl, rfl, by decide⟩, im_X1_facesLeft, se_X1_facesLeft, Or.inl (gt_3 (i := 177) (by decide +kernel) (by decide +kernel))⟩
theorem nX2_11 : Cond.classLink RX2 11 RX1 ∈ gt := gt_2 (i := 70) (by decide +kernel) (by decide +kernel)
theorem fX2_13_l : Cond.fieldLink RX2 13 RX2 (TX2 0).2.1 (TX2 0).2.2.1 ∈ gt := gt_2 (i := 72) (by decide +kernel) (by decide +kernel)
theorem fX2_13 : Fl RX2 13 2 0 RX2 TX2 3 tyX2 := ⟨clX2, by decide, Or.inl fX2_13_l⟩
theorem fX2_17_l : Cond.fieldLink RX2 17 RX2 (TX2 1).2.1 (TX2 1).2.2.1 ∈ gt := gt_2 (i := 73) (by decide +kernel) (by decide +kernel)
theorem fX2_17 : Fl RX2 17 2 1 RX2 TX2 3 tyX2 := ⟨clX2, by decide, Or.inl fX2_17_l⟩
theorem fX2_21_l : Cond.fieldLink RX2 21 RX2 (TX2 2).2.1 (TX2 2).2.2.1 ∈ gt := gt_2 (i := 74) (by decide +kernel) (by decide +kernel)
theorem fX2_21 : Fl RX2 21 2 2 RX2 TX2 3 tyX2 := ⟨clX2, by decide, Or.inl fX2_21_l⟩
theorem co_X1_init : Cond.code yX1_init cX1_init 1 none ∈ gt := gt_1 (i := 179) (by decide +kernel) (by decide +kernel)
theorem im_X1_init : Cond.instanceMethod yX1_init ∈ gt := gt_1 (i := 178) (by decide +kernel) (by decide +kernel)
theorem mX2_24 : MlI RX2 24 1 yX1_init cX1_init 1 0 := ⟨⟨⟨by decide +kernel, by decide +kernel, by decide +kernel⟩, by decide, co_X1_init, ini_X1, _, rfl, rfl, by decide⟩, im_X1_init, gt_3 (i := 154) (by decide +kernel) (by decide +kernel), rfl⟩
theorem co_X1_copyFrom : Cond.code yX1_copyFrom cX1_copyFrom 2 none ∈ gt := gt_3 (i := 158) (by decide +kernel) (by decide +kernel)
theorem im_X1_copyFrom : Cond.instanceMethod yX1_copyFrom ∈ gt := gt_3 (i := 156) (by decide +kernel) (by decide +kernel)
theorem se_X1_copyFrom : Cond.selects yX1_copyFrom.cls yX1_copyFrom yX1_copyFrom ∈ gt := gt_3 (i := 157) (by decide +kernel) (by decide +kernel)
theorem mX2_25 : MlV RX2 25 1 yX1_copyFrom cX1_copyFrom 2 none 1 := ⟨⟨⟨by decide +kernel, by decide +kernel, by decide +kernel⟩, by decide, co_X1_copyFrom, ini_X1, _, rfl, rfl, by decide⟩, im_X1_copyFrom, se_X1_copyFrom, Or.inl (gt_3 (i := 155) (by decide +kernel) (by decide +kernel))⟩
theorem fX3_9_l : Cond.fieldLink RX3 9 RX3 (TX3 4).2.1 (TX3 4).2.2.1 ∈ gt := gt_1 (i := 94) (by decide +kernel) (by decide +kernel)
theorem fX3_9 : Fl RX3 9 3 4 RX3 TX3 13 tyX3 := ⟨clX3, by decide, Or.inl fX3_9_l⟩
theorem fX3_15_l : Cond.fieldLink RX3 15 RX3 (TX3 5).2.1 (TX3 5).2.2.1 ∈ gt := gt_1 (i := 95) (by decide +kernel) (by decide +kernel)
theorem fX3_15 : Fl RX3 15 3 5 RX3 TX3 13 tyX3 := ⟨clX3, by decide, Or.inl fX3_15_l⟩
theorem fX3_18_l : Cond.fieldLink RX3 18 RX3 (TX3 6).2.1 (TX3 6).2.2.1 ∈ gt := gt_1 (i := 98) (by decide +kernel) (by decide +kernel)
theorem fX3_18 : Fl RX3 18 3 6 RX3 TX3 13 tyX3 := ⟨clX3, by decide, Or.inl fX3_18_l⟩
theorem fX3_21_l : Cond.fieldLink RX3 21 RX3 (TX3 7).2.1 (TX3 7).2.2.1 ∈ gt := gt_1 (i := 101) (by decide +kernel) (by decide +kernel)
theorem fX3_21 : Fl RX3 21 3 7 RX3 TX3 13 tyX3 := ⟨clX3, by decide, Or.inl fX3_21_l⟩
theorem fX3_24_l : Cond.fieldLink RX3 24 RX3 (TX3 8).2.1 (TX3 8).2.2.1 ∈ gt := gt_1 (i := 102) (by decide +kernel) (by decide +kernel)
theorem fX3_24 : Fl RX3 24 3 8 RX3 TX3 13 tyX3 := ⟨clX3, by decide, Or.inl fX3_24_l⟩
theorem fX3_27_l : Cond.fieldLink RX3 27 RX3 (TX3 9).2.1 (TX3 9).2.2.1 ∈ gt := gt_1 (i := 107) (by decide +kernel) (by decide +kernel)
theorem fX3_27 : Fl RX3 27 3 9 RX3 TX3 13 tyX3 := ⟨clX3, by decide, Or.inl fX3_27_l⟩
theorem fX3_30_l : Cond.fieldLink RX3 30 RX3 (TX3 10).2.1 (TX3 10).2.2.1 ∈ gt := gt_1 (i := 111) (by decide +kernel) (by decide +kernel)
theorem fX3_30 : Fl RX3 30 3 10 RX3 TX3 13 tyX3 := ⟨clX3, by decide, Or.inl fX3_30_l⟩
theorem fX3_33_l : Cond.fieldLink RX3 33 RX3 (TX3 11).2.1 (TX3 11).2.2.1 ∈ gt := gt_1 (i := 112) (by decide +kernel) (by decide +kernel)
theorem fX3_33 : Fl RX3 33 3 11 RX3 TX3 13 tyX3 := ⟨clX3, by decide, Or.inl fX3_33_l⟩
theorem co_X3_clear : Cond.code yX3_clear cX3_clear 2 none ∈ gt := gt_1 (i := 79) (by decide +kernel) (by decide +kernel)
theorem im_X3_clear : Cond.instanceMethod yX3_clear ∈ gt := gt_1 (i := 78) (by decide +kernel) (by decide +kernel)
theorem se_X3_clear : Cond.selects yX3_clear.cls yX3_clear yX3_clear ∈ gt := gt_sel (i := 0) (by decide +kernel) (by decide +kernel)
theorem mX3_36 : MlV RX3 36 3 yX3_clear cX3_clear 2 none 0 := ⟨⟨⟨by decide +kernel, by decide +kernel, by decide +kernel⟩, by decide, co_X3_clear, ini_X3, _, rfl, rfl, by decide⟩, im_X3_clear, se_X3_clear, Or.inl (gt_1 (i := 76) (by decide +kernel) (by decide +kernel))⟩
theorem fX3_39_l : Cond.fieldLink RX3 39 RX3 (TX3 0).2.1 (TX3 0).2.2.1 ∈ gt := gt_1 (i := 82) (by decide +kernel) (by decide +kernel)
theorem fX3_39 : Fl RX3 39 3 0 RX3 TX3 13 tyX3 := ⟨clX3, by decide, Or.inl fX3_39_l⟩
theorem fX3_43_l : Cond.fieldLink RX3 43 RX3 (TX3 1).2.1 (TX3 1).2.2.1 ∈ gt := gt_1 (i := 84) (by decide +kernel) (by decide +kernel)
theorem fX3_43 : Fl RX3 43 3 1 RX3 TX3 13 tyX3 := ⟨clX3, by decide, Or.inl fX3_43_l⟩
theorem fX3_46_l : Cond.fieldLink RX3 46 RX3 (TX3 2).2.1 (TX3 2).2.2.1 ∈ gt := gt_1 (i := 88) (by decide +kernel) (by decide +kernel)
theorem fX3_46 : Fl RX3 46 3 2 RX3 TX3 13 tyX3 := ⟨clX3, by decide, Or.inl fX3_46_l⟩
theorem fX3_49_l : Cond.fieldLink RX3 49 RX3 (TX3 3).2.1 (TX3 3).2.2.1 ∈ gt := gt_1 (i := 92) (by decide +kernel) (by decide +kernel)
theorem fX3_49 : Fl RX3 49 3 3 RX3 TX3 13 tyX3 := ⟨clX3, by decide, Or.inl fX3_49_l⟩
theorem fX3_52_l : Cond.fieldLink RX3 52 RX3 (TX3 12).2.1 (TX3 12).2.2.1 ∈ gt := gt_1 (i := 116) (by decide +kernel) (by decide +kernel)
theorem fX3_52 : Fl RX3 52 3 12 RX3 TX3 13 tyX3 := ⟨clX3, by decide, Or.inl fX3_52_l⟩
theorem co_X7_advance : Cond.code yX7_advance cX7_advance 1 none ∈ gt := gt_2 (i := 215) (by decide +kernel) (by decide +kernel)
theorem im_X7_advance : Cond.instanceMethod yX7_advance ∈ gt := gt_2 (i := 213) (by decide +kernel) (by decide +kernel)
theorem se_X7_advance : Cond.selects yX7_advance.cls yX7_advance yX7_advance ∈ gt := gt_2 (i := 214) (by decide +kernel) (by decide +kernel)
theorem mX3_64 : MlV RX3 64 7 yX7_advance cX7_advance 1 none 0 := ⟨⟨⟨by decide +kernel, by decide +kernel, by decide +kernel⟩, by decide, co_X7_advance, ini_X7, _, rfl, rfl, by decide⟩, im_X7_advance, se_X7_advance, Or.inl (gt_2 (i := 212) (by decide +kernel) (by decide +kernel))⟩
theorem fX3_69 : Fl RX3 69 7 4 RX7 TX7 8 tyX7 := ⟨clX7, by decide, Or.inr ⟨"FaceCoins", nl_1 (i := 41) (by decide +kernel) rfl⟩⟩
theorem co_X3_readLine : Cond.code yX3_readLine cX3_readLine 2 (some .int) ∈ gt := gt_3 (i := 52) (by decide +kernel) (by decide +kernel)
theorem im_X3_readLine : Cond.instanceMethod yX3_readLine ∈ gt := gt_3 (i := 51) (by decide +kernel) (by decide +kernel)
theorem se_X3_readLine : Cond.selects yX3_readLine.cls yX3_readLine yX3_readLine ∈ gt := gt_sel (i := 5) (by decide +kernel) (by decide +kernel)
theorem mX3_72 : MlV RX3 72 3 yX3_readLine cX3_readLine 2 (some .int) 1 := ⟨⟨⟨by decide +kernel, by decide +kernel, by decide +kernel⟩, by decide, co_X3_readLine, ini_X3, _, rfl, rfl, by decide⟩, im_X3_readLine, se_X3_readLine, Or.inl (gt_3 (i := 49) (by decide +kernel) (by decide +kernel))⟩
theorem co_X3_readWho : Cond.code yX3_readWho cX3_readWho 3 (some .int) ∈ gt := gt_3 (i := 56) (by decide +kernel) (by decide +kernel)
theorem im_X3_readWho : Cond.instanceMethod yX3_readWho ∈ gt := gt_3 (i := 55) (by decide +kernel) (by decide +kernel)
theorem se_X3_readWho : Cond.selects yX3_readWho.cls yX3_readWho yX3_readWho ∈ gt := gt_sel (i := 6) (by decide +kernel) (by decide +kernel)
theorem mX3_76 : MlV RX3 76 3 yX3_readWho cX3_readWho 3 (some .int) 1 := ⟨⟨⟨by decide +kernel, by decide +kernel, by decide +kernel⟩, by decide, co_X3_readWho, ini_X3, _, rfl, rfl, by decide⟩, im_X3_readWho, se_X3_readWho, Or.inl (gt_3 (i := 53) (by decide +kernel) (by decide +kernel))⟩
theorem co_X3_readMint : Cond.code yX3_readMint cX3_readMint 3 (some .int) ∈ gt := gt_3 (i := 72) (by decide +kernel) (by decide +kernel)
theorem im_X3_readMint : Cond.instanceMethod yX3_readMint ∈ gt := gt_3 (i := 71) (by decide +kernel) (by decide +kernel)
theorem se_X3_readMint : Cond.selects yX3_readMint.cls yX3_readMint yX3_readMint ∈ gt := gt_sel (i := 9) (by decide +kernel) (by decide +kernel)
theorem mX3_79 : MlV RX3 79 3 yX3_readMint cX3_readMint 3 (some .int) 1 := ⟨⟨⟨by decide +kernel, by decide +kernel, by decide +kernel⟩, by decide, co_X3_readMint, ini_X3, _, rfl, rfl, by decide⟩, im_X3_readMint, se_X3_readMint, Or.inl (gt_3 (i := 69) (by decide +kernel) (by decide +kernel))⟩
theorem co_X3_readTakes : Cond.code yX3_readTakes cX3_readTakes 5 (some .int) ∈ gt := gt_3 (i := 79) (by decide +kernel) (by decide +kernel)
theorem im_X3_readTakes : Cond.instanceMethod yX3_readTakes ∈ gt := gt_3 (i := 78) (by decide +kernel) (by decide +kernel)
theorem se_X3_readTakes : Cond.selects yX3_readTakes.cls yX3_readTakes yX3_readTakes ∈ gt := gt_sel (i := 10) (by decide +kernel) (by decide +kernel)
theorem mX3_82 : MlV RX3 82 3 yX3_readTakes cX3_readTakes 5 (some .int) 1 := ⟨⟨⟨by decide +kernel, by decide +kernel, by decide +kernel⟩, by decide, co_X3_readTakes, ini_X3, _, rfl, rfl, by decide⟩, im_X3_readTakes, se_X3_readTakes, Or.inl (gt_3 (i := 76) (by decide +kernel) (by decide +kernel))⟩
theorem co_X3_readSetting : Cond.code yX3_readSetting cX3_readSetting 4 (some .int) ∈ gt := gt_3 (i := 87) (by decide +kernel) (by decide +kernel)
theorem im_X3_readSetting : Cond.instanceMethod yX3_readSetting ∈ gt := gt_3 (i := 86) (by decide +kernel) (by decide +kernel)
theorem se_X3_readSetting : Cond.selects yX3_readSetting.cls yX3_readSetting yX3_readSetting ∈ gt := gt_sel (i := 11) (by decide +kernel) (by decide +kernel)
theorem mX3_85 : MlV RX3 85 3 yX3_readSetting cX3_readSetting 4 (some .int) 1 := ⟨⟨⟨by decide +kernel, by decide +kernel, by decide +kernel⟩, by decide, co_X3_readSetting, ini_X3, _, rfl, rfl, by decide⟩, im_X3_readSetting, se_X3_readSetting, Or.inl (gt_3 (i := 84) (by decide +kernel) (by decide +kernel))⟩
theorem co_X3_newNameFault : Cond.code yX3_newNameFault cX3_newNameFault 2 (some .int) ∈ gt := gt_3 (i := 60) (by decide +kernel) (by decide +kernel)
theorem im_X3_newNameFault : Cond.instanceMethod yX3_newNameFault ∈ gt := gt_3 (i := 59) (by decide +kernel) (by decide +kernel)
theorem se_X3_newNameFault : Cond.selects yX3_newNameFault.cls yX3_newNameFault yX3_newNameFault ∈ gt := gt_sel (i := 7) (by decide +kernel) (by decide +kernel)
theorem mX3_88 : MlV RX3 88 3 yX3_newNameFault cX3_newNameFault 2 (some .int) 1 := ⟨⟨⟨by decide +kernel, by decide +kernel, by decide +kernel⟩, by decide, co_X3_newNameFault, ini_X3, _, rfl, rfl, by decide⟩, im_X3_newNameFault, se_X3_newNameFault, Or.inl (gt_3 (i := 57) (by decide +kernel) (by decide +kernel))⟩
theorem fX3_91 : Fl RX3 91 7 7 RX7 TX7 8 tyX7 := ⟨clX7, by decide, Or.inr ⟨"FaceCoins", nl_1 (i := 49) (by decide +kernel) rfl⟩⟩
theorem co_X3_numberFault : Cond.code yX3_numberFault cX3_numberFault 3 (some .int) ∈ gt := gt_3 (i := 75) (by decide +kernel) (by decide +kernel)
theorem mX3_94 : MlS RX3 94 yX3_numberFault cX3_numberFault 3 (some .int) 3 := ⟨⟨by decide +kernel, by decide +kernel, by decide +kernel⟩, by decide, co_X3_numberFault, ini_X3, gt_3 (i := 74) (by decide +kernel) (by decide +kernel), gt_3 (i := 73) (by decide +kernel) (by decide +kernel)⟩
theorem fX3_98 : Fl RX3 98 7 6 RX7 TX7 8 tyX7 := ⟨clX7, by decide, Or.inr ⟨"FaceCoins", nl_1 (i := 46) (by decide +kernel) rfl⟩⟩
theorem co_X3_toldWhoFault : Cond.code yX3_toldWhoFault cX3_toldWhoFault 2 (some .int) ∈ gt := gt_3 (i := 83) (by decide +kernel) (by decide +kernel)
theorem im_X3_toldWhoFault : Cond.instanceMethod yX3_toldWhoFault ∈ gt := gt_3 (i := 81) (by decide +kernel) (by decide +kernel)
theorem se_X3_toldWhoFault : Cond.selects yX3_toldWhoFault.cls yX3_toldWhoFault yX3_toldWhoFault ∈ gt := gt_3 (i := 82) (by decide +kernel) (by decide +kernel)
theorem mX3_101 : MlV RX3 101 3 yX3_toldWhoFault cX3_toldWhoFault 2 (some .int) 1 := ⟨⟨⟨by decide +kernel, by decide +kernel, by decide +kernel⟩, by decide, co_X3_toldWhoFault, ini_X3, _, rfl, rfl, by decide⟩, im_X3_toldWhoFault, se_X3_toldWhoFault, Or.inl (gt_3 (i := 80) (by decide +kernel) (by decide +kernel))⟩
theorem co_X3_findWho : Cond.code yX3_findWho cX3_findWho 3 (some .int) ∈ gt := gt_3 (i := 64) (by decide +kernel) (by decide +kernel)
theorem im_X3_findWho : Cond.instanceMethod yX3_findWho ∈ gt := gt_3 (i := 62) (by decide +kernel) (by decide +kernel)
theorem se_X3_findWho : Cond.selects yX3_findWho.cls yX3_findWho yX3_findWho ∈ gt := gt_3 (i := 63) (by decide +kernel) (by decide +kernel)
theorem mX3_104 : MlV RX3 104 3 yX3_findWho cX3_findWho 3 (some .int) 1 := ⟨⟨⟨by decide +kernel, by decide +kernel, by decide +kernel⟩, by decide, co_X3_findWho, ini_X3, _, rfl, rfl, by decide⟩, im_X3_findWho, se_X3_findWho, Or.inl (gt_3 (i := 61) (by decide +kernel) (by decide +kernel))⟩
theorem co_X3_isMintName : Cond.code yX3_isMintName cX3_isMintName 3 (some .boolean) ∈ gt := gt_3 (i := 68) (by decide +kernel) (by decide +kernel)
theorem im_X3_isMintName : Cond.instanceMethod yX3_isMintName ∈ gt := gt_3 (i := 67) (by decide +kernel) (by decide +kernel)
theorem se_X3_isMintName : Cond.selects yX3_isMintName.cls yX3_isMintName yX3_isMintName ∈ gt := gt_sel (i := 8) (by decide +kernel) (by decide +kernel)
theorem mX3_114 : MlV RX3 114 3 yX3_isMintName cX3_isMintName 3 (some .boolean) 1 := ⟨⟨⟨by decide +kernel, by decide +kernel, by decide +kernel⟩, by decide, co_X3_isMintName, ini_X3, _, rfl, rfl, by decide⟩, im_X3_isMintName, se_X3_isMintName, Or.inl (gt_3 (i := 65) (by decide +kernel) (by decide +kernel))⟩
theorem fX4_9_l : Cond.fieldLink RX4 9 RX4 (TX4 1).2.1 (TX4 1).2.2.1 ∈ gt := gt_2 (i := 143) (by decide +kernel) (by decide +kernel)
theorem fX4_9 : Fl RX4 9 4 1 RX4 TX4 4 tyX4 := ⟨clX4, by decide, Or.inl fX4_9_l⟩
theorem fX4_15_l : Cond.fieldLink RX4 15 RX4 (TX4 2).2.1 (TX4 2).2.2.1 ∈ gt := gt_2 (i := 145) (by decide +kernel) (by decide +kernel)
theorem fX4_15 : Fl RX4 15 4 2 RX4 TX4 4 tyX4 := ⟨clX4, by decide, Or.inl fX4_15_l⟩
theorem fX4_18_l : Cond.fieldLink RX4 18 RX4 (TX4 3).2.1 (TX4 3).2.2.1 ∈ gt := gt_2 (i := 147) (by decide +kernel) (by decide +kernel)
theorem fX4_18 : Fl RX4 18 4 3 RX4 TX4 4 tyX4 := ⟨clX4, by decide, Or.inl fX4_18_l⟩
theorem kX4_21 : Cond.constant RX4 21 (iv (60000)) ∈ gt := gt_4 (i := 186) (by decide +kernel) (by decide +kernel)
theorem fX4_22 : Fl RX4 22 3 1 RX3 TX3 13 tyX3 := ⟨clX3, by decide, Or.inr ⟨"FaceCoins", nl_1 (i := 85) (by decide +kernel) rfl⟩⟩
theorem fX4_27 : Fl RX4 27 3 2 RX3 TX3 13 tyX3 := ⟨clX3, by decide, Or.inr ⟨"FaceCoins", nl_1 (i := 89) (by decide +kernel) rfl⟩⟩
theorem fX4_35_l : Cond.fieldLink RX4 35 RX4 (TX4 0).2.1 (TX4 0).2.2.1 ∈ gt := gt_2 (i := 141) (by decide +kernel) (by decide +kernel)
theorem fX4_35 : Fl RX4 35 4 0 RX4 TX4 4 tyX4 := ⟨clX4, by decide, Or.inl fX4_35_l⟩
theorem fX4_38 : Fl RX4 38 8 0 RX8 TX8 5 tyX8 := ⟨clX8, by decide, Or.inr ⟨"FaceCoins", nl_2 (i := 39) (by decide +kernel) rfl⟩⟩
theorem fX4_44 : Fl RX4 44 3 11 RX3 TX3 13 tyX3 := ⟨clX3, by decide, Or.inr ⟨"FaceCoins", nl_1 (i := 113) (by decide +kernel) rfl⟩⟩
theorem co_X4_fits : Cond.code yX4_fits cX4_fits 6 (some .boolean) ∈ gt := gt_4 (i := 197) (by decide +kernel) (by decide +kernel)
theorem im_X4_fits : Cond.instanceMethod yX4_fits ∈ gt := gt_4 (i := 196) (by decide +kernel) (by decide +kernel)
theorem se_X4_fits : Cond.selects yX4_fits.cls yX4_fits yX4_fits ∈ gt := gt_sel (i := 30) (by decide +kernel) (by decide +kernel)
theorem mX4_47 : MlV RX4 47 4 yX4_fits cX4_fits 6 (some .boolean) 3 := ⟨⟨⟨by decide +kernel, by decide +kernel, by decide +kernel⟩, by decide, co_X4_fits, ini_X4, _, rfl, rfl, by decide⟩, im_X4_fits, se_X4_fits, Or.inl (gt_4 (i := 194) (by decide +kernel) (by decide +kernel))⟩
theorem co_X4_note : Cond.code yX4_note cX4_note 6 (some .int) ∈ gt := gt_4 (i := 207) (by decide +kernel) (by decide +kernel)
theorem im_X4_note : Cond.instanceMethod yX4_note ∈ gt := gt_4 (i := 206) (by decide +kernel) (by decide +kernel)
theorem se_X4_note : Cond.selects yX4_note.cls yX4_note yX4_note ∈ gt := gt_sel (i := 32) (by decide +kernel) (by decide +kernel)
theorem mX4_51 : MlV RX4 51 4 yX4_note cX4_note 6 (some .int) 2 := ⟨⟨⟨by decide +kernel, by decide +kernel, by decide +kernel⟩, by decide, co_X4_note, ini_X4, _, rfl, rfl, by decide⟩, im_X4_note, se_X4_note, Or.inl (gt_4 (i := 204) (by decide +kernel) (by decide +kernel))⟩
theorem co_X4_turnRow : Cond.code yX4_turnRow cX4_turnRow 3 (some .boolean) ∈ gt := gt_4 (i := 212) (by decide +kernel) (by decide +kernel)
theorem im_X4_turnRow : Cond.instanceMethod yX4_turnRow ∈ gt := gt_4 (i := 211) (by decide +kernel) (by decide +kernel)
theorem se_X4_turnRow : Cond.selects yX4_turnRow.cls yX4_turnRow yX4_turnRow ∈ gt := gt_sel (i := 33) (by decide +kernel) (by decide +kernel)
theorem mX4_55 : MlV RX4 55 4 yX4_turnRow cX4_turnRow 3 (some .boolean) 1 := ⟨⟨⟨by decide +kernel, by decide +kernel, by decide +kernel⟩, by decide, co_X4_turnRow, ini_X4, _, rfl, rfl, by decide⟩, im_X4_turnRow, se_X4_turnRow, Or.inl (gt_4 (i := 209) (by decide +kernel) (by decide +kernel))⟩
theorem mX4_59 : MlV RX4 59 8 yX8_isMint cX8_isMint 2 (some .boolean) 1 := ⟨⟨⟨by decide +kernel, by decide +kernel, by decide +kernel⟩, by decide, co_X8_isMint, ini_X8, _, rfl, rfl, by decide⟩, im_X8_isMint, se_X8_isMint, Or.inl (gt_4 (i := 198) (by decide +kernel) (by decide +kernel))⟩
theorem fX4_62 : Fl RX4 62 3 8 RX3 TX3 13 tyX3 := ⟨clX3, by decide, Or.inr ⟨"FaceCoins", nl_1 (i := 103) (by decide +kernel) rfl⟩⟩
theorem fX4_65 : Fl RX4 65 8 1 RX8 TX8 5 tyX8 := ⟨clX8, by decide, Or.inr ⟨"FaceCoins", nl_2 (i := 44) (by decide +kernel) rfl⟩⟩
theorem fX4_69 : Fl RX4 69 1 9 RX1 TX1 15 tyX1 := ⟨clX1, by decide, Or.inr ⟨"FaceCoins", nl_1 (i := 212) (by decide +kernel) rfl⟩⟩
theorem co_X4_depthsFit : Cond.code yX4_depthsFit cX4_depthsFit 6 (some .boolean) ∈ gt := gt_4 (i := 202) (by decide +kernel) (by decide +kernel)
theorem im_X4_depthsFit : Cond.instanceMethod yX4_depthsFit ∈ gt := gt_4 (i := 201) (by decide +kernel) (by decide +kernel)
theorem se_X4_depthsFit : Cond.selects yX4_depthsFit.cls yX4_depthsFit yX4_depthsFit ∈ gt := gt_sel (i := 31) (by decide +kernel) (by decide +kernel)
theorem mX4_74 : MlV RX4 74 4 yX4_depthsFit cX4_depthsFit 6 (some .boolean) 2 := ⟨⟨⟨by decide +kernel, by decide +kernel, by decide +kernel⟩, by decide, co_X4_depthsFit, ini_X4, _, rfl, rfl, by decide⟩, im_X4_depthsFit, se_X4_depthsFit, Or.inl (gt_4 (i := 199) (by decide +kernel) (by decide +kernel))⟩
theorem mX4_78 : MlV RX4 78 1 yX1_depthAt cX1_depthAt 3 (some .int) 2 := ⟨⟨⟨by decide +kernel, by decide +kernel, by decide +kernel⟩, by decide, co_X1_depthAt, ini_X1, _, rfl, rfl, by decide⟩, im_X1_depthAt, se_X1_depthAt, Or.inl (gt_4 (i := 203) (by decide +kernel) (by decide +kernel))⟩
theorem fX4_81 : Fl RX4 81 3 9 RX3 TX3 13 tyX3 := ⟨clX3, by decide, Or.inr ⟨"FaceCoins", nl_1 (i := 108) (by decide +kernel) rfl⟩⟩
theorem fX4_84 : Fl RX4 84 1 12 RX1 TX1 15 tyX1 := ⟨clX1, by decide, Or.inr ⟨"FaceCoins", nl_1 (i := 226) (by decide +kernel) rfl⟩⟩
theorem mX4_87 : MlV RX4 87 8 yX8_whoShown cX8_whoShown 3 (some .int) 2 := ⟨⟨⟨by decide +kernel, by decide +kernel, by decide +kernel⟩, by decide, co_X8_whoShown, ini_X8, _, rfl, rfl, by decide⟩, im_X8_whoShown, se_X8_whoShown, Or.inl (gt_4 (i := 208) (by decide +kernel) (by decide +kernel))⟩
theorem fX5_11_l : Cond.fieldLink RX5 11 RX5 (TX5 2).2.1 (TX5 2).2.2.1 ∈ gt := gt_1 (i := 153) (by decide +kernel) (by decide +kernel)
theorem fX5_11 : Fl RX5 11 5 2 RX5 TX5 5 tyX5 := ⟨clX5, by decide, Or.inl fX5_11_l⟩
theorem fX5_15_l : Cond.fieldLink RX5 15 RX5 (TX5 3).2.1 (TX5 3).2.2.1 ∈ gt := gt_1 (i := 154) (by decide +kernel) (by decide +kernel)
theorem fX5_15 : Fl RX5 15 5 3 RX5 TX5 5 tyX5 := ⟨clX5, by decide, Or.inl fX5_15_l⟩
theorem fX5_18_l : Cond.fieldLink RX5 18 RX5 (TX5 4).2.1 (TX5 4).2.2.1 ∈ gt := gt_1 (i := 155) (by decide +kernel) (by decide +kernel)
theorem fX5_18 : Fl RX5 18 5 4 RX5 TX5 5 tyX5 := ⟨clX5, by decide, Or.inl fX5_18_l⟩
theorem fX5_21_l : Cond.fieldLink RX5 21 RX5 (TX5 0).2.1 (TX5 0).2.2.1 ∈ gt := gt_1 (i := 150) (by decide +kernel) (by decide +kernel)
theorem fX5_21 : Fl RX5 21 5 0 RX5 TX5 5 tyX5 := ⟨clX5, by decide, Or.inl fX5_21_l⟩
theorem fX5_25_l : Cond.fieldLink RX5 25 RX5 (TX5 1).2.1 (TX5 1).2.2.1 ∈ gt := gt_1 (i := 152) (by decide +kernel) (by decide +kernel)
theorem fX5_25 : Fl RX5 25 5 1 RX5 TX5 5 tyX5 := ⟨clX5, by decide, Or.inl fX5_25_l⟩
theorem co_X5_clear : Cond.code yX5_clear cX5_clear 1 none ∈ gt := gt_3 (i := 107) (by decide +kernel) (by decide +kernel)
theorem im_X5_clear : Cond.instanceMethod yX5_clear ∈ gt := gt_3 (i := 106) (by decide +kernel) (by decide +kernel)
theorem se_X5_clear : Cond.selects yX5_clear.cls yX5_clear yX5_clear ∈ gt := gt_sel (i := 12) (by decide +kernel) (by decide +kernel)
theorem mX5_34 : MlV RX5 34 5 yX5_clear cX5_clear 1 none 0 := ⟨⟨⟨by decide +kernel, by decide +kernel, by decide +kernel⟩, by decide, co_X5_clear, ini_X5, _, rfl, rfl, by decide⟩, im_X5_clear, se_X5_clear, Or.inl (gt_5 (i := 8) (by decide +kernel) (by decide +kernel))⟩
theorem mX5_37 : MlV RX5 37 7 yX7_advance cX7_advance 1 none 0 := ⟨⟨⟨by decide +kernel, by decide +kernel, by decide +kernel⟩, by decide, co_X7_advance, ini_X7, _, rfl, rfl, by decide⟩, im_X7_advance, se_X7_advance, Or.inl (gt_5 (i := 9) (by decide +kernel) (by decide +kernel))⟩
theorem co_X5_readCond : Cond.code yX5_readCond cX5_readCond 6 (some .int) ∈ gt := gt_5 (i := 13) (by decide +kernel) (by decide +kernel)
theorem im_X5_readCond : Cond.instanceMethod yX5_readCond ∈ gt := gt_5 (i := 12) (by decide +kernel) (by decide +kernel)
theorem se_X5_readCond : Cond.selects yX5_readCond.cls yX5_readCond yX5_readCond ∈ gt := gt_sel (i := 35) (by decide +kernel) (by decide +kernel)
theorem mX5_42 : MlV RX5 42 5 yX5_readCond cX5_readCond 6 (some .int) 3 := ⟨⟨⟨by decide +kernel, by decide +kernel, by decide +kernel⟩, by decide, co_X5_readCond, ini_X5, _, rfl, rfl, by decide⟩, im_X5_readCond, se_X5_readCond, Or.inl (gt_5 (i := 10) (by decide +kernel) (by decide +kernel))⟩
theorem fX5_46 : Fl RX5 46 7 4 RX7 TX7 8 tyX7 := ⟨clX7, by decide, Or.inr ⟨"FaceCoins", nl_1 (i := 42) (by decide +kernel) rfl⟩⟩
theorem co_X5_readAll : Cond.code yX5_readAll cX5_readAll 6 (some .int) ∈ gt := gt_5 (i := 17) (by decide +kernel) (by decide +kernel)
theorem im_X5_readAll : Cond.instanceMethod yX5_readAll ∈ gt := gt_5 (i := 16) (by decide +kernel) (by decide +kernel)
theorem se_X5_readAll : Cond.selects yX5_readAll.cls yX5_readAll yX5_readAll ∈ gt := gt_sel (i := 36) (by decide +kernel) (by decide +kernel)
theorem mX5_49 : MlV RX5 49 5 yX5_readAll cX5_readAll 6 (some .int) 3 := ⟨⟨⟨by decide +kernel, by decide +kernel, by decide +kernel⟩, by decide, co_X5_readAll, ini_X5, _, rfl, rfl, by decide⟩, im_X5_readAll, se_X5_readAll, Or.inl (gt_5 (i := 14) (by decide +kernel) (by decide +kernel))⟩
theorem co_X5_add : Cond.code yX5_add cX5_add 4 none ∈ gt := gt_5 (i := 29) (by decide +kernel) (by decide +kernel)
theorem im_X5_add : Cond.instanceMethod yX5_add ∈ gt := gt_5 (i := 28) (by decide +kernel) (by decide +kernel)
theorem se_X5_add : Cond.selects yX5_add.cls yX5_add yX5_add ∈ gt := gt_sel (i := 39) (by decide +kernel) (by decide +kernel)
theorem mX5_52 : MlV RX5 52 5 yX5_add cX5_add 4 none 3 := ⟨⟨⟨by decide +kernel, by decide +kernel, by decide +kernel⟩, by decide, co_X5_add, ini_X5, _, rfl, rfl, by decide⟩, im_X5_add, se_X5_add, Or.inl (gt_5 (i := 26) (by decide +kernel) (by decide +kernel))⟩
theorem co_X5_readOne : Cond.code yX5_readOne cX5_readOne 5 (some .int) ∈ gt := gt_5 (i := 21) (by decide +kernel) (by decide +kernel)
theorem im_X5_readOne : Cond.instanceMethod yX5_readOne ∈ gt := gt_5 (i := 20) (by decide +kernel) (by decide +kernel)
theorem se_X5_readOne : Cond.selects yX5_readOne.cls yX5_readOne yX5_readOne ∈ gt := gt_sel (i := 37) (by decide +kernel) (by decide +kernel)
theorem mX5_56 : MlV RX5 56 5 yX5_readOne cX5_readOne 5 (some .int) 3 := ⟨⟨⟨by decide +kernel, by decide +kernel, by decide +kernel⟩, by decide, co_X5_readOne, ini_X5, _, rfl, rfl, by decide⟩, im_X5_readOne, se_X5_readOne, Or.inl (gt_5 (i := 18) (by decide +kernel) (by decide +kernel))⟩
theorem co_X5_readNot : Cond.code yX5_readNot cX5_readNot 5 (some .int) ∈ gt := gt_5 (i := 25) (by decide +kernel) (by decide +kernel)
theorem im_X5_readNot : Cond.instanceMethod yX5_readNot ∈ gt := gt_5 (i := 24) (by decide +kernel) (by decide +kernel)
theorem se_X5_readNot : Cond.selects yX5_readNot.cls yX5_readNot yX5_readNot ∈ gt := gt_sel (i := 38) (by decide +kernel) (by decide +kernel)
theorem mX5_59 : MlV RX5 59 5 yX5_readNot cX5_readNot 5 (some .int) 3 := ⟨⟨⟨by decide +kernel, by decide +kernel, by decide +kernel⟩, by decide, co_X5_readNot, ini_X5, _, rfl, rfl, by decide⟩, im_X5_readNot, se_X5_readNot, Or.inl (gt_5 (i := 22) (by decide +kernel) (by decide +kernel))⟩
theorem co_X5_readBracket : Cond.code yX5_readBracket cX5_readBracket 5 (some .int) ∈ gt := gt_5 (i := 33) (by decide +kernel) (by decide +kernel)
theorem im_X5_readBracket : Cond.instanceMethod yX5_readBracket ∈ gt := gt_5 (i := 32) (by decide +kernel) (by decide +kernel)
theorem se_X5_readBracket : Cond.selects yX5_readBracket.cls yX5_readBracket yX5_readBracket ∈ gt := gt_sel (i := 40) (by decide +kernel) (by decide +kernel)
theorem mX5_62 : MlV RX5 62 5 yX5_readBracket cX5_readBracket 5 (some .int) 3 := ⟨⟨⟨by decide +kernel, by decide +kernel, by decide +kernel⟩, by decide, co_X5_readBracket, ini_X5, _, rfl, rfl, by decide⟩, im_X5_readBracket, se_X5_readBracket, Or.inl (gt_5 (i := 30) (by decide +kernel) (by decide +kernel))⟩
theorem co_X5_readOfWho : Cond.code yX5_readOfWho cX5_readOfWho 5 (some .int) ∈ gt := gt_5 (i := 37) (by decide +kernel) (by decide +kernel)
theorem im_X5_readOfWho : Cond.instanceMethod yX5_readOfWho ∈ gt := gt_5 (i := 36) (by decide +kernel) (by decide +kernel)
theorem se_X5_readOfWho : Cond.selects yX5_readOfWho.cls yX5_readOfWho yX5_readOfWho ∈ gt := gt_sel (i := 41) (by decide +kernel) (by decide +kernel)
theorem mX5_65 : MlV RX5 65 5 yX5_readOfWho cX5_readOfWho 5 (some .int) 3 := ⟨⟨⟨by decide +kernel, by decide +kernel, by decide +kernel⟩, by decide, co_X5_readOfWho, ini_X5, _, rfl, rfl, by decide⟩, im_X5_readOfWho, se_X5_readOfWho, Or.inl (gt_5 (i := 34) (by decide +kernel) (by decide +kernel))⟩
theorem co_X5_readMeasure : Cond.code yX5_readMeasure cX5_readMeasure 4 (some .int) ∈ gt := gt_5 (i := 43) (by decide +kernel) (by decide +kernel)
theorem im_X5_readMeasure : Cond.instanceMethod yX5_readMeasure ∈ gt := gt_5 (i := 42) (by decide +kernel) (by decide +kernel)
theorem se_X5_readMeasure : Cond.selects yX5_readMeasure.cls yX5_readMeasure yX5_readMeasure ∈ gt := gt_sel (i := 42) (by decide +kernel) (by decide +kernel)
theorem mX5_68 : MlV RX5 68 5 yX5_readMeasure cX5_readMeasure 4 (some .int) 2 := ⟨⟨⟨by decide +kernel, by decide +kernel, by decide +kernel⟩, by decide, co_X5_readMeasure, ini_X5, _, rfl, rfl, by decide⟩, im_X5_readMeasure, se_X5_readMeasure, Or.inl (gt_5 (i := 40) (by decide +kernel) (by decide +kernel))⟩
theorem mX5_72 : MlV RX5 72 3 yX3_toldWhoFault cX3_toldWhoFault 2 (some .int) 1 := ⟨⟨⟨by decide +kernel, by decide +kernel, by decide +kernel⟩, by decide, co_X3_toldWhoFault, ini_X3, _, rfl, rfl, by decide⟩, im_X3_toldWhoFault, se_X3_toldWhoFault, Or.inl (gt_5 (i := 38) (by decide +kernel) (by decide +kernel))⟩
theorem fX5_78 : Fl RX5 78 7 7 RX7 TX7 8 tyX7 := ⟨clX7, by decide, Or.inr ⟨"FaceCoins", nl_1 (i := 51) (by decide +kernel) rfl⟩⟩
theorem mX5_81 : MlV RX5 81 3 yX3_findWho cX3_findWho 3 (some .int) 1 := ⟨⟨⟨by decide +kernel, by decide +kernel, by decide +kernel⟩, by decide, co_X3_findWho, ini_X3, _, rfl, rfl, by decide⟩, im_X3_findWho, se_X3_findWho, Or.inl (gt_5 (i := 39) (by decide +kernel) (by decide +kernel))⟩
theorem fX5_85 : Fl RX5 85 7 6 RX7 TX7 8 tyX7 := ⟨clX7, by decide, Or.inr ⟨"FaceCoins", nl_1 (i := 48) (by decide +kernel) rfl⟩⟩
theorem co_X5_stepHolds : Cond.code yX5_stepHolds cX5_stepHolds 4 (some .boolean) ∈ gt := gt_5 (i := 60) (by decide +kernel) (by decide +kernel)
theorem im_X5_stepHolds : Cond.instanceMethod yX5_stepHolds ∈ gt := gt_5 (i := 59) (by decide +kernel) (by decide +kernel)
theorem se_X5_stepHolds : Cond.selects yX5_stepHolds.cls yX5_stepHolds yX5_stepHolds ∈ gt := gt_sel (i := 43) (by decide +kernel) (by decide +kernel)
theorem mX5_87 : MlV RX5 87 5 yX5_stepHolds cX5_stepHolds 4 (some .boolean) 3 := ⟨⟨⟨by decide +kernel, by decide +kernel, by decide +kernel⟩, by decide, co_X5_stepHolds, ini_X5, _, rfl, rfl, by decide⟩, im_X5_stepHolds, se_X5_stepHolds, Or.inl (gt_5 (i := 57) (by decide +kernel) (by decide +kernel))⟩
theorem mX5_91 : MlV RX5 91 8 yX8_whoOnTop cX8_whoOnTop 2 (some .int) 1 := ⟨⟨⟨by decide +kernel, by decide +kernel, by decide +kernel⟩, by decide, co_X8_whoOnTop, ini_X8, _, rfl, rfl, by decide⟩, im_X8_whoOnTop, se_X8_whoOnTop, Or.inl (gt_5 (i := 61) (by decide +kernel) (by decide +kernel))⟩
theorem co_X8_showsWho : Cond.code yX8_showsWho cX8_showsWho 4 (some .boolean) ∈ gt := gt_5 (i := 65) (by decide +kernel) (by decide +kernel)
theorem im_X8_showsWho : Cond.instanceMethod yX8_showsWho ∈ gt := gt_5 (i := 63) (by decide +kernel) (by decide +kernel)
theorem se_X8_showsWho : Cond.selects yX8_showsWho.cls yX8_showsWho yX8_showsWho ∈ gt := gt_5 (i := 64) (by decide +kernel) (by decide +kernel)
theorem mX5_96 : MlV RX5 96 8 yX8_showsWho cX8_showsWho 4 (some .boolean) 2 := ⟨⟨⟨by decide +kernel, by decide +kernel, by decide +kernel⟩, by decide, co_X8_showsWho, ini_X8, _, rfl, rfl, by decide⟩, im_X8_showsWho, se_X8_showsWho, Or.inl (gt_5 (i := 62) (by decide +kernel) (by decide +kernel))⟩
theorem fX5_100 : Fl RX5 100 8 1 RX8 TX8 5 tyX8 := ⟨clX8, by decide, Or.inr ⟨"FaceCoins", nl_2 (i := 46) (by decide +kernel) rfl⟩⟩
theorem fX5_104 : Fl RX5 104 1 10 RX1 TX1 15 tyX1 := ⟨clX1, by decide, Or.inr ⟨"FaceCoins", nl_1 (i := 219) (by decide +kernel) rfl⟩⟩
theorem mX5_109 : MlV RX5 109 8 yX8_showsFalse cX8_showsFalse 3 (some .boolean) 1 := ⟨⟨⟨by decide +kernel, by decide +kernel, by decide +kernel⟩, by decide, co_X8_showsFalse, ini_X8, _, rfl, rfl, by decide⟩, im_X8_showsFalse, se_X8_showsFalse, Or.inl (gt_5 (i := 67) (by decide +kernel) (by decide +kernel))⟩
theorem fX5_113 : Fl RX5 113 1 9 RX1 TX1 15 tyX1 := ⟨clX1, by decide, Or.inr ⟨"FaceCoins", nl_1 (i := 214) (by decide +kernel) rfl⟩⟩
theorem co_X5_compares : Cond.code yX5_compares cX5_compares 3 (some .boolean) ∈ gt := gt_5 (i := 74) (by decide +kernel) (by decide +kernel)
theorem im_X5_compares : Cond.instanceMethod yX5_compares ∈ gt := gt_5 (i := 73) (by decide +kernel) (by decide +kernel)
theorem se_X5_compares : Cond.selects yX5_compares.cls yX5_compares yX5_compares ∈ gt := gt_sel (i := 44) (by decide +kernel) (by decide +kernel)
theorem mX5_116 : MlV RX5 116 5 yX5_compares cX5_compares 3 (some .boolean) 2 := ⟨⟨⟨by decide +kernel, by decide +kernel, by decide +kernel⟩, by decide, co_X5_compares, ini_X5, _, rfl, rfl, by decide⟩, im_X5_compares, se_X5_compares, Or.inl (gt_5 (i := 71) (by decide +kernel) (by decide +kernel))⟩
theorem fX5_119 : Fl RX5 119 1 12 RX1 TX1 15 tyX1 := ⟨clX1, by decide, Or.inr ⟨"FaceCoins", nl_1 (i := 228) (by decide +kernel) rfl⟩⟩
theorem fX5_122 : Fl RX5 122 1 11 RX1 TX1 15 tyX1 := ⟨clX1, by decide, Or.inr ⟨"FaceCoins", nl_1 (i := 224) (by decide +kernel) rfl⟩⟩
theorem fX6_9_l : Cond.fieldLink RX6 9 RX6 (TX6 0).2.1 (TX6 0).2.2.1 ∈ gt := gt_2 (i := 29) (by decide +kernel) (by decide +kernel)
theorem fX6_9 : Fl RX6 9 6 0 RX6 TX6 2 tyX6 := ⟨clX6, by decide, Or.inl fX6_9_l⟩
theorem fX6_15_l : Cond.fieldLink RX6 15 RX6 (TX6 1).2.1 (TX6 1).2.2.1 ∈ gt := gt_2 (i := 30) (by decide +kernel) (by decide +kernel)
theorem fX6_15 : Fl RX6 15 6 1 RX6 TX6 2 tyX6 := ⟨clX6, by decide, Or.inl fX6_15_l⟩
theorem fX7_9_l : Cond.fieldLink RX7 9 RX7 (TX7 0).2.1 (TX7 0).2.2.1 ∈ gt := gt_1 (i := 36) (by decide +kernel) (by decide +kernel)
theorem fX7_9 : Fl RX7 9 7 0 RX7 TX7 8 tyX7 := ⟨clX7, by decide, Or.inl fX7_9_l⟩
theorem fX7_15_l : Cond.fieldLink RX7 15 RX7 (TX7 1).2.1 (TX7 1).2.2.1 ∈ gt := gt_1 (i := 38) (by decide +kernel) (by decide +kernel)
theorem fX7_15 : Fl RX7 15 7 1 RX7 TX7 8 tyX7 := ⟨clX7, by decide, Or.inl fX7_15_l⟩
theorem fX7_19_l : Cond.fieldLink RX7 19 RX7 (TX7 2).2.1 (TX7 2).2.2.1 ∈ gt := gt_1 (i := 39) (by decide +kernel) (by decide +kernel)
theorem fX7_19 : Fl RX7 19 7 2 RX7 TX7 8 tyX7 := ⟨clX7, by decide, Or.inl fX7_19_l⟩
theorem fX7_22_l : Cond.fieldLink RX7 22 RX7 (TX7 3).2.1 (TX7 3).2.2.1 ∈ gt := gt_1 (i := 40) (by decide +kernel) (by decide +kernel)
theorem fX7_22 : Fl RX7 22 7 3 RX7 TX7 8 tyX7 := ⟨clX7, by decide, Or.inl fX7_22_l⟩
theorem mX7_25 : MlV RX7 25 7 yX7_at cX7_at 2 (some .int) 1 := ⟨⟨⟨by decide +kernel, by decide +kernel, by decide +kernel⟩, by decide, co_X7_at, ini_X7, _, rfl, rfl, by decide⟩, im_X7_at, se_X7_at, Or.inl (gt_2 (i := 216) (by decide +kernel) (by decide +kernel))⟩
theorem co_X7_isBlank : Cond.code yX7_isBlank cX7_isBlank 1 (some .boolean) ∈ gt := gt_2 (i := 222) (by decide +kernel) (by decide +kernel)
theorem mX7_29 : MlS RX7 29 yX7_isBlank cX7_isBlank 1 (some .boolean) 1 := ⟨⟨by decide +kernel, by decide +kernel, by decide +kernel⟩, by decide, co_X7_isBlank, ini_X7, gt_2 (i := 221) (by decide +kernel) (by decide +kernel), gt_2 (i := 220) (by decide +kernel) (by decide +kernel)⟩
theorem fX7_33_l : Cond.fieldLink RX7 33 RX7 (TX7 5).2.1 (TX7 5).2.2.1 ∈ gt := gt_1 (i := 45) (by decide +kernel) (by decide +kernel)
theorem fX7_33 : Fl RX7 33 7 5 RX7 TX7 8 tyX7 := ⟨clX7, by decide, Or.inl fX7_33_l⟩
theorem fX7_36_l : Cond.fieldLink RX7 36 RX7 (TX7 4).2.1 (TX7 4).2.2.1 ∈ gt := gt_1 (i := 43) (by decide +kernel) (by decide +kernel)
theorem fX7_36 : Fl RX7 36 7 4 RX7 TX7 8 tyX7 := ⟨clX7, by decide, Or.inl fX7_36_l⟩
theorem co_X7_isLetter : Cond.code yX7_isLetter cX7_isLetter 1 (some .boolean) ∈ gt := gt_2 (i := 225) (by decide +kernel) (by decide +kernel)
theorem mX7_39 : MlS RX7 39 yX7_isLetter cX7_isLetter 1 (some .boolean) 1 := ⟨⟨by decide +kernel, by decide +kernel, by decide +kernel⟩, by decide, co_X7_isLetter, ini_X7, gt_2 (i := 224) (by decide +kernel) (by decide +kernel), gt_2 (i := 223) (by decide +kernel) (by decide +kernel)⟩
theorem co_X7_isDigit : Cond.code yX7_isDigit cX7_isDigit 1 (some .boolean) ∈ gt := gt_2 (i := 228) (by decide +kernel) (by decide +kernel)
theorem mX7_42 : MlS RX7 42 yX7_isDigit cX7_isDigit 1 (some .boolean) 1 := ⟨⟨by decide +kernel, by decide +kernel, by decide +kernel⟩, by decide, co_X7_isDigit, ini_X7, gt_2 (i := 227) (by decide +kernel) (by decide +kernel), gt_2 (i := 226) (by decide +kernel) (by decide +kernel)⟩
theorem co_X7_readRun : Cond.code yX7_readRun cX7_readRun 5 (some .int) ∈ gt := gt_2 (i := 232) (by decide +kernel) (by decide +kernel)
theorem im_X7_readRun : Cond.instanceMethod yX7_readRun ∈ gt := gt_2 (i := 231) (by decide +kernel) (by decide +kernel)
theorem se_X7_readRun : Cond.selects yX7_readRun.cls yX7_readRun yX7_readRun ∈ gt := gt_sel (i := 3) (by decide +kernel) (by decide +kernel)
theorem mX7_45 : MlV RX7 45 7 yX7_readRun cX7_readRun 5 (some .int) 0 := ⟨⟨⟨by decide +kernel, by decide +kernel, by decide +kernel⟩, by decide, co_X7_readRun, ini_X7, _, rfl, rfl, by decide⟩, im_X7_readRun, se_X7_readRun, Or.inl (gt_2 (i := 229) (by decide +kernel) (by decide +kernel))⟩
theorem co_X7_wordKind : Cond.code yX7_wordKind cX7_wordKind 6 (some .int) ∈ gt := gt_2 (i := 236) (by decide +kernel) (by decide +kernel)
theorem im_X7_wordKind : Cond.instanceMethod yX7_wordKind ∈ gt := gt_2 (i := 235) (by decide +kernel) (by decide +kernel)
theorem se_X7_wordKind : Cond.selects yX7_wordKind.cls yX7_wordKind yX7_wordKind ∈ gt := gt_sel (i := 4) (by decide +kernel) (by decide +kernel)
theorem mX7_49 : MlV RX7 49 7 yX7_wordKind cX7_wordKind 6 (some .int) 1 := ⟨⟨⟨by decide +kernel, by decide +kernel, by decide +kernel⟩, by decide, co_X7_wordKind, ini_X7, _, rfl, rfl, by decide⟩, im_X7_wordKind, se_X7_wordKind, Or.inl (gt_2 (i := 233) (by decide +kernel) (by decide +kernel))⟩
theorem co_X7_signKind : Cond.code yX7_signKind cX7_signKind 1 (some .int) ∈ gt := gt_3 (i := 48) (by decide +kernel) (by decide +kernel)
theorem mX7_52 : MlS RX7 52 yX7_signKind cX7_signKind 1 (some .int) 1 := ⟨⟨by decide +kernel, by decide +kernel, by decide +kernel⟩, by decide, co_X7_signKind, ini_X7, gt_3 (i := 47) (by decide +kernel) (by decide +kernel), gt_3 (i := 46) (by decide +kernel) (by decide +kernel)⟩
theorem fX7_55_l : Cond.fieldLink RX7 55 RX7 (TX7 6).2.1 (TX7 6).2.2.1 ∈ gt := gt_1 (i := 47) (by decide +kernel) (by decide +kernel)
theorem fX7_55 : Fl RX7 55 7 6 RX7 TX7 8 tyX7 := ⟨clX7, by decide, Or.inl fX7_55_l⟩
theorem fX7_58_l : Cond.fieldLink RX7 58 RX7 (TX7 7).2.1 (TX7 7).2.2.1 ∈ gt := gt_1 (i := 50) (by decide +kernel) (by decide +kernel)
theorem fX7_58 : Fl RX7 58 7 7 RX7 TX7 8 tyX7 := ⟨clX7, by decide, Or.inl fX7_58_l⟩
theorem nX8_9 : Cond.classLink RX8 9 RX3 ∈ gt := gt_1 (i := 173) (by decide +kernel) (by decide +kernel)
theorem mX8_11 : MlI RX8 11 3 yX3_init cX3_init 1 0 := ⟨⟨⟨by decide +kernel, by decide +kernel, by decide +kernel⟩, by decide, co_X3_init, ini_X3, _, rfl, rfl, by decide⟩, im_X3_init, gt_1 (i := 174) (by decide +kernel) (by decide +kernel), rfl⟩
theorem fX8_12_l : Cond.fieldLink RX8 12 RX8 (TX8 0).2.1 (TX8 0).2.2.1 ∈ gt := gt_2 (i := 38) (by decide +kernel) (by decide +kernel)
theorem fX8_12 : Fl RX8 12 8 0 RX8 TX8 5 tyX8 := ⟨clX8, by decide, Or.inl fX8_12_l⟩
theorem nX8_18 : Cond.classLink RX8 18 RX1 ∈ gt := gt_1 (i := 175) (by decide +kernel) (by decide +kernel)
theorem mX8_20 : MlI RX8 20 1 yX1_init cX1_init 1 0 := ⟨⟨⟨by decide +kernel, by decide +kernel, by decide +kernel⟩, by decide, co_X1_init, ini_X1, _, rfl, rfl, by decide⟩, im_X1_init, gt_1 (i := 177) (by decide +kernel) (by decide +kernel), rfl⟩
theorem fX8_21_l : Cond.fieldLink RX8 21 RX8 (TX8 1).2.1 (TX8 1).2.2.1 ∈ gt := gt_2 (i := 42) (by decide +kernel) (by decide +kernel)
theorem fX8_21 : Fl RX8 21 8 1 RX8 TX8 5 tyX8 := ⟨clX8, by decide, Or.inl fX8_21_l⟩
theorem nX8_25 : Cond.classLink RX8 25 RX6 ∈ gt := gt_2 (i := 23) (by decide +kernel) (by decide +kernel)
theorem co_X6_init : Cond.code yX6_init cX6_init 3 none ∈ gt := gt_2 (i := 27) (by decide +kernel) (by decide +kernel)
theorem im_X6_init : Cond.instanceMethod yX6_init ∈ gt := gt_2 (i := 26) (by decide +kernel) (by decide +kernel)
theorem mX8_27 : MlI RX8 27 6 yX6_init cX6_init 3 2 := ⟨⟨⟨by decide +kernel, by decide +kernel, by decide +kernel⟩, by decide, co_X6_init, ini_X6, _, rfl, rfl, by decide⟩, im_X6_init, gt_2 (i := 25) (by decide +kernel) (by decide +kernel), rfl⟩
theorem fX8_30_l : Cond.fieldLink RX8 30 RX8 (TX8 2).2.1 (TX8 2).2.2.1 ∈ gt := gt_2 (i := 47) (by decide +kernel) (by decide +kernel)
theorem fX8_30 : Fl RX8 30 8 2 RX8 TX8 5 tyX8 := ⟨clX8, by decide, Or.inl fX8_30_l⟩
theorem fX8_34_l : Cond.fieldLink RX8 34 RX8 (TX8 3).2.1 (TX8 3).2.2.1 ∈ gt := gt_2 (i := 49) (by decide +kernel) (by decide +kernel)
theorem fX8_34 : Fl RX8 34 8 3 RX8 TX8 5 tyX8 := ⟨clX8, by decide, Or.inl fX8_34_l⟩
theorem nX8_37 : Cond.classLink RX8 37 RX5 ∈ gt := gt_2 (i := 36) (by decide +kernel) (by decide +kernel)
theorem mX8_39 : MlI RX8 39 5 yX5_init cX5_init 1 0 := ⟨⟨⟨by decide +kernel, by decide +kernel, by decide +kernel⟩, by decide, co_X5_init, ini_X5, _, rfl, rfl, by decide⟩, im_X5_init, gt_2 (i := 37) (by decide +kernel) (by decide +kernel), rfl⟩
theorem fX8_40_l : Cond.fieldLink RX8 40 RX8 (TX8 4).2.1 (TX8 4).2.2.1 ∈ gt := gt_2 (i := 51) (by decide +kernel) (by decide +kernel)
theorem fX8_40 : Fl RX8 40 8 4 RX8 TX8 5 tyX8 := ⟨clX8, by decide, Or.inl fX8_40_l⟩
theorem co_X3_copyFrom : Cond.code yX3_copyFrom cX3_copyFrom 2 none ∈ gt := gt_3 (i := 99) (by decide +kernel) (by decide +kernel)
theorem im_X3_copyFrom : Cond.instanceMethod yX3_copyFrom ∈ gt := gt_3 (i := 97) (by decide +kernel) (by decide +kernel)
theorem se_X3_copyFrom : Cond.selects yX3_copyFrom.cls yX3_copyFrom yX3_copyFrom ∈ gt := gt_3 (i := 98) (by decide +kernel) (by decide +kernel)
theorem mX8_44 : MlV RX8 44 3 yX3_copyFrom cX3_copyFrom 2 none 1 := ⟨⟨⟨by decide +kernel, by decide +kernel, by decide +kernel⟩, by decide, co_X3_copyFrom, ini_X3, _, rfl, rfl, by decide⟩, im_X3_copyFrom, se_X3_copyFrom, Or.inl (gt_3 (i := 96) (by decide +kernel) (by decide +kernel))⟩
theorem mX8_48 : MlV RX8 48 1 yX1_copyFrom cX1_copyFrom 2 none 1 := ⟨⟨⟨by decide +kernel, by decide +kernel, by decide +kernel⟩, by decide, co_X1_copyFrom, ini_X1, _, rfl, rfl, by decide⟩, im_X1_copyFrom, se_X1_copyFrom, Or.inl (gt_5 (i := 83) (by decide +kernel) (by decide +kernel))⟩
theorem fX8_51 : Fl RX8 51 1 1 RX1 TX1 15 tyX1 := ⟨clX1, by decide, Or.inr ⟨"FaceCoins", nl_1 (i := 194) (by decide +kernel) rfl⟩⟩
theorem co_X6_copyFrom : Cond.code yX6_copyFrom cX6_copyFrom 4 none ∈ gt := gt_5 (i := 87) (by decide +kernel) (by decide +kernel)
theorem im_X6_copyFrom : Cond.instanceMethod yX6_copyFrom ∈ gt := gt_5 (i := 85) (by decide +kernel) (by decide +kernel)
theorem se_X6_copyFrom : Cond.selects yX6_copyFrom.cls yX6_copyFrom yX6_copyFrom ∈ gt := gt_5 (i := 86) (by decide +kernel) (by decide +kernel)
theorem mX8_54 : MlV RX8 54 6 yX6_copyFrom cX6_copyFrom 4 none 2 := ⟨⟨⟨by decide +kernel, by decide +kernel, by decide +kernel⟩, by decide, co_X6_copyFrom, ini_X6, _, rfl, rfl, by decide⟩, im_X6_copyFrom, se_X6_copyFrom, Or.inl (gt_5 (i := 84) (by decide +kernel) (by decide +kernel))⟩
theorem fX8_57 : Fl RX8 57 1 2 RX1 TX1 15 tyX1 := ⟨clX1, by decide, Or.inr ⟨"FaceCoins", nl_1 (i := 197) (by decide +kernel) rfl⟩⟩
theorem mX8_59 : MlV RX8 59 5 yX5_copyFrom cX5_copyFrom 2 none 1 := ⟨⟨⟨by decide +kernel, by decide +kernel, by decide +kernel⟩, by decide, co_X5_copyFrom, ini_X5, _, rfl, rfl, by decide⟩, im_X5_copyFrom, se_X5_copyFrom, Or.inl (gt_5 (i := 90) (by decide +kernel) (by decide +kernel))⟩
theorem mX8_62 : MlV RX8 62 1 yX1_clear cX1_clear 1 none 0 := ⟨⟨⟨by decide +kernel, by decide +kernel, by decide +kernel⟩, by decide, co_X1_clear, ini_X1, _, rfl, rfl, by decide⟩, im_X1_clear, se_X1_clear, Or.inr ⟨"FaceCoins", nl_3 (i := 103) (by decide +kernel) rfl⟩⟩
theorem mX8_65 : MlV RX8 65 5 yX5_clear cX5_clear 1 none 0 := ⟨⟨⟨by decide +kernel, by decide +kernel, by decide +kernel⟩, by decide, co_X5_clear, ini_X5, _, rfl, rfl, by decide⟩, im_X5_clear, se_X5_clear, Or.inr ⟨"FaceCoins", nl_3 (i := 104) (by decide +kernel) rfl⟩⟩
theorem fX8_66 : Fl RX8 66 3 1 RX3 TX3 13 tyX3 := ⟨clX3, by decide, Or.inr ⟨"FaceCoins", nl_1 (i := 86) (by decide +kernel) rfl⟩⟩
theorem mX8_69 : MlV RX8 69 8 yX8_isWho cX8_isWho 2 (some .boolean) 1 := ⟨⟨⟨by decide +kernel, by decide +kernel, by decide +kernel⟩, by decide, co_X8_isWho, ini_X8, _, rfl, rfl, by decide⟩, im_X8_isWho, se_X8_isWho, Or.inl (gt_3 (i := 125) (by decide +kernel) (by decide +kernel))⟩
theorem mX8_73 : MlV RX8 73 1 yX1_isDead cX1_isDead 2 (some .boolean) 1 := ⟨⟨⟨by decide +kernel, by decide +kernel, by decide +kernel⟩, by decide, co_X1_isDead, ini_X1, _, rfl, rfl, by decide⟩, im_X1_isDead, se_X1_isDead, Or.inl (gt_3 (i := 129) (by decide +kernel) (by decide +kernel))⟩
theorem mX8_76 : MlV RX8 76 8 yX8_isAlive cX8_isAlive 2 (some .boolean) 1 := ⟨⟨⟨by decide +kernel, by decide +kernel, by decide +kernel⟩, by decide, co_X8_isAlive, ini_X8, _, rfl, rfl, by decide⟩, im_X8_isAlive, se_X8_isAlive, Or.inl (gt_4 (i := 22) (by decide +kernel) (by decide +kernel))⟩
