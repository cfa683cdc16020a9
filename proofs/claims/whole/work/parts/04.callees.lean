theorem vb_J0_length_8abf5 : mw_VB yJ0_length_8abf5 RJ0 cJ0_length_8abf5 1 (some .int) 0 := ⟨⟨tw_2_23, tw_2_24, tw_1_13, tw_2_25⟩, by decide +kernel⟩
theorem vb_J0_coder_7d493 : mw_VB yJ0_coder_7d493 RJ0 cJ0_coder_7d493 1 (some .byte) 0 := ⟨⟨tw_2_27, tw_2_28, tw_1_13, tw_2_29⟩, by decide +kernel⟩
theorem vb_J0_charAt_5068e : mw_VB yJ0_charAt_5068e RJ0 cJ0_charAt_5068e 2 (some .char) 1 := ⟨⟨tw_2_33, tw_2_34, tw_1_13, tw_2_35⟩, by decide +kernel⟩
theorem vb_J0_isLatin1_aae02 : mw_VB yJ0_isLatin1_aae02 RJ0 cJ0_isLatin1_aae02 1 (some .boolean) 0 := ⟨⟨tw_2_37, tw_2_38, tw_1_13, tw_2_39⟩, by decide +kernel⟩
theorem sb_J1_charAt_3b067 : mw_SB yJ1_charAt_3b067 cJ1_charAt_3b067 2 (some .char) 2 := ⟨⟨tw_2_41, tw_1_14, tw_2_42⟩, by decide +kernel⟩
theorem sb_J0_checkIndex_df160 : mw_SB yJ0_checkIndex_df160 cJ0_checkIndex_df160 2 none 2 := ⟨⟨tw_2_44, tw_1_13, tw_2_45⟩, by decide +kernel⟩
theorem sb_J3_checkIndex_8e157 : mw_SB yJ3_checkIndex_8e157 cJ3_checkIndex_8e157 3 (some .int) 3 := ⟨⟨tw_2_49, tw_1_15, tw_2_50⟩, by decide +kernel⟩
theorem sb_J2_charAt_3b067 : mw_SB yJ2_charAt_3b067 cJ2_charAt_3b067 2 (some .char) 2 := ⟨⟨tw_2_52, tw_1_16, tw_2_53⟩, by decide +kernel⟩
theorem sb_J2_checkIndex_2214a : mw_SB yJ2_checkIndex_2214a cJ2_checkIndex_2214a 2 none 2 := ⟨⟨tw_2_55, tw_1_16, tw_2_56⟩, by decide +kernel⟩
theorem sb_J2_length_9d52b : mw_SB yJ2_length_9d52b cJ2_length_9d52b 1 (some .int) 1 := ⟨⟨tw_2_58, tw_1_16, tw_2_59⟩, by decide +kernel⟩
theorem sb_J2_getChar_3b067 : mw_SB yJ2_getChar_3b067 cJ2_getChar_3b067 2 (some .char) 2 := ⟨⟨tw_2_62, tw_1_16, tw_2_63⟩, by decide +kernel⟩
theorem vb_X7_take : mw_VB yX7_take RX7 cX7_take 2 (some .boolean) 1 := ⟨⟨tw_2_71, tw_2_72, tw_1_4, tw_2_73⟩, by decide +kernel⟩
theorem vb_X11_text : mw_VB yX11_text RX11 cX11_text 2 (some .int) 0 := ⟨⟨tw_2_75, tw_2_76, tw_1_1, tw_2_77⟩, by decide +kernel⟩
theorem vb_X3_read : mw_VB yX3_read RX3 cX3_read 4 (some .int) 2 := ⟨⟨tw_2_79, tw_2_80, tw_1_5, tw_2_81⟩, by decide +kernel⟩
theorem vb_X10_cut : mw_VB yX10_cut RX10 cX10_cut 5 none 1 := ⟨⟨tw_2_83, tw_2_84, tw_1_6, tw_2_85⟩, by decide +kernel⟩
theorem sb_X10_endOf : mw_SB yX10_endOf cX10_endOf 3 (some .int) 2 := ⟨⟨tw_2_87, tw_1_6, tw_2_88⟩, by decide +kernel⟩
theorem vb_X7_isSmall : mw_VB yX7_isSmall RX7 cX7_isSmall 3 (some .boolean) 1 := ⟨⟨tw_2_90, tw_2_91, tw_1_4, tw_2_92⟩, by decide +kernel⟩
theorem vb_X7_letterAt : mw_VB yX7_letterAt RX7 cX7_letterAt 2 (some .int) 1 := ⟨⟨tw_2_94, tw_2_95, tw_1_4, tw_2_96⟩, by decide +kernel⟩
theorem vb_X7_isDigit : mw_VB yX7_isDigit RX7 cX7_isDigit 3 (some .boolean) 1 := ⟨⟨tw_2_98, tw_2_99, tw_1_4, tw_2_100⟩, by decide +kernel⟩
theorem vb_X7_isBlank : mw_VB yX7_isBlank RX7 cX7_isBlank 3 (some .boolean) 1 := ⟨⟨tw_2_102, tw_2_103, tw_1_4, tw_2_104⟩, by decide +kernel⟩
theorem sb_X10_tokenOf : mw_SB yX10_tokenOf cX10_tokenOf 4 (some .int) 3 := ⟨⟨tw_2_106, tw_1_6, tw_2_107⟩, by decide +kernel⟩
theorem sb_X10_wordOf : mw_SB yX10_wordOf cX10_wordOf 4 (some .int) 3 := ⟨⟨tw_2_109, tw_1_6, tw_2_110⟩, by decide +kernel⟩
theorem sb_X10_spellingOf : mw_SB yX10_spellingOf cX10_spellingOf 1 (some (.object "java/lang/String")) 1 := ⟨⟨tw_2_112, tw_1_6, tw_2_113⟩, by decide +kernel⟩
theorem sb_X10_isSpelt : mw_SB yX10_isSpelt cX10_isSpelt 5 (some .boolean) 4 := ⟨⟨tw_2_128, tw_1_6, tw_2_129⟩, by decide +kernel⟩
theorem sb_X10_numberOf : mw_SB yX10_numberOf cX10_numberOf 5 (some .int) 3 := ⟨⟨tw_2_134, tw_1_6, tw_2_135⟩, by decide +kernel⟩
theorem vb_J0_indexOf_0f7a4 : mw_VB yJ0_indexOf_0f7a4 RJ0 cJ0_indexOf_0f7a4 2 (some .int) 1 := ⟨⟨tw_2_138, tw_2_139, tw_1_13, tw_2_140⟩, by decide +kernel⟩
theorem vb_J0_indexOf_7cf53 : mw_VB yJ0_indexOf_7cf53 RJ0 cJ0_indexOf_7cf53 3 (some .int) 2 := ⟨⟨tw_2_142, tw_2_143, tw_1_13, tw_2_144⟩, by decide +kernel⟩
theorem sb_J1_indexOf_4cfef : mw_SB yJ1_indexOf_4cfef cJ1_indexOf_4cfef 4 (some .int) 4 := ⟨⟨tw_2_147, tw_1_14, tw_2_148⟩, by decide +kernel⟩
theorem sb_J1_canEncode_9a6ad : mw_SB yJ1_canEncode_9a6ad cJ1_canEncode_9a6ad 1 (some .boolean) 1 := ⟨⟨tw_2_150, tw_1_14, tw_2_151⟩, by decide +kernel⟩
theorem sb_J9_max_7cf53 : mw_SB yJ9_max_7cf53 cJ9_max_7cf53 2 (some .int) 2 := ⟨⟨tw_2_153, tw_1_17, tw_2_154⟩, by decide +kernel⟩
theorem sb_J9_min_7cf53 : mw_SB yJ9_min_7cf53 cJ9_min_7cf53 2 (some .int) 2 := ⟨⟨tw_2_156, tw_1_17, tw_2_157⟩, by decide +kernel⟩
theorem sb_J1_indexOfChar_4cfef : mw_SB yJ1_indexOfChar_4cfef cJ1_indexOfChar_4cfef 6 (some .int) 4 := ⟨⟨tw_2_159, tw_1_14, tw_2_160⟩, by decide +kernel⟩
theorem sb_J2_indexOf_4cfef : mw_SB yJ2_indexOf_4cfef cJ2_indexOf_4cfef 4 (some .int) 4 := ⟨⟨tw_2_162, tw_1_16, tw_2_163⟩, by decide +kernel⟩
theorem sb_J2_indexOfChar_4cfef : mw_SB yJ2_indexOfChar_4cfef cJ2_indexOfChar_4cfef 4 (some .int) 4 := ⟨⟨tw_2_168, tw_1_16, tw_2_169⟩, by decide +kernel⟩
theorem sb_J2_checkBoundsBeginEnd_d044e : mw_SB yJ2_checkBoundsBeginEnd_d044e cJ2_checkBoundsBeginEnd_d044e 3 none 3 := ⟨⟨tw_2_171, tw_1_16, tw_2_172⟩, by decide +kernel⟩
theorem sb_J0_checkBoundsBeginEnd_23922 : mw_SB yJ0_checkBoundsBeginEnd_23922 cJ0_checkBoundsBeginEnd_23922 3 none 3 := ⟨⟨tw_2_174, tw_1_13, tw_2_175⟩, by decide +kernel⟩
theorem sb_J3_checkFromToIndex_8c36e : mw_SB yJ3_checkFromToIndex_8c36e cJ3_checkFromToIndex_8c36e 4 (some .int) 4 := ⟨⟨tw_2_177, tw_1_15, tw_2_178⟩, by decide +kernel⟩
theorem sb_J2_indexOfCharUnsafe_4cfef : mw_SB yJ2_indexOfCharUnsafe_4cfef cJ2_indexOfCharUnsafe_4cfef 5 (some .int) 4 := ⟨⟨tw_2_180, tw_1_16, tw_2_181⟩, by decide +kernel⟩
theorem sb_J2_indexOfSupplementary_4cfef : mw_SB yJ2_indexOfSupplementary_4cfef cJ2_indexOfSupplementary_4cfef 7 (some .int) 4 := ⟨⟨tw_2_183, tw_1_16, tw_2_184⟩, by decide +kernel⟩
theorem sb_J11_isValidCodePoint_9a6ad : mw_SB yJ11_isValidCodePoint_9a6ad cJ11_isValidCodePoint_9a6ad 2 (some .boolean) 1 := ⟨⟨tw_2_186, tw_1_18, tw_2_187⟩, by decide +kernel⟩
theorem sb_J11_highSurrogate_5068e : mw_SB yJ11_highSurrogate_5068e cJ11_highSurrogate_5068e 1 (some .char) 1 := ⟨⟨tw_2_189, tw_1_18, tw_2_190⟩, by decide +kernel⟩
theorem sb_J11_lowSurrogate_5068e : mw_SB yJ11_lowSurrogate_5068e cJ11_lowSurrogate_5068e 1 (some .char) 1 := ⟨⟨tw_2_193, tw_1_18, tw_2_194⟩, by decide +kernel⟩
theorem vb_X10_put : mw_VB yX10_put RX10 cX10_put 3 none 2 := ⟨⟨tw_2_198, lg_p (q := (yX10_put, _)) (List.mem_append_left _ (List.mem_of_getElem? (i := 0) rfl)), tw_1_6, tw_2_199⟩, by decide +kernel⟩
theorem vb_X3_pass : mw_VB yX3_pass RX3 cX3_pass 2 none 1 := ⟨⟨tw_2_202, lg_p (q := (yX3_pass, _)) (List.mem_append_left _ (List.mem_of_getElem? (i := 1) rfl)), tw_1_5, tw_2_203⟩, by decide +kernel⟩
theorem vb_X10_tokenAt : mw_VB yX10_tokenAt RX10 cX10_tokenAt 2 (some .int) 1 := ⟨⟨tw_2_205, tw_2_206, tw_1_6, tw_2_207⟩, by decide +kernel⟩
theorem vb_X3_fail : mw_VB yX3_fail RX3 cX3_fail 1 none 0 := ⟨⟨tw_2_210, lg_p (q := (yX3_fail, _)) (List.mem_append_left _ (List.mem_of_getElem? (i := 2) rfl)), tw_1_5, tw_2_211⟩, by decide +kernel⟩
theorem vb_X10_placeAt : mw_VB yX10_placeAt RX10 cX10_placeAt 2 (some .int) 1 := ⟨⟨tw_2_213, tw_2_214, tw_1_6, tw_2_215⟩, by decide +kernel⟩
theorem vb_X3_readLevel : mw_VB yX3_readLevel RX3 cX3_readLevel 6 none 3 := ⟨⟨tw_2_218, lg_p (q := (yX3_readLevel, _)) (List.mem_append_left _ (List.mem_of_getElem? (i := 3) rfl)), tw_1_5, tw_2_219⟩, by decide +kernel⟩
theorem vb_X3_readOne : mw_VB yX3_readOne RX3 cX3_readOne 4 none 2 := ⟨⟨tw_2_222, lg_p (q := (yX3_readOne, _)) (List.mem_append_left _ (List.mem_of_getElem? (i := 4) rfl)), tw_1_5, tw_2_223⟩, by decide +kernel⟩
theorem vb_X8_add : mw_VB yX8_add RX8 cX8_add 2 none 1 := ⟨⟨tw_2_225, tw_2_226, tw_1_8, tw_2_227⟩, by decide +kernel⟩
theorem vb_X3_readNot : mw_VB yX3_readNot RX3 cX3_readNot 3 none 2 := ⟨⟨tw_2_230, lg_p (q := (yX3_readNot, _)) (List.mem_append_left _ (List.mem_of_getElem? (i := 5) rfl)), tw_1_5, tw_2_231⟩, by decide +kernel⟩
theorem sb_X3_levelOf : mw_SB yX3_levelOf cX3_levelOf 1 (some .int) 1 := ⟨⟨tw_2_233, tw_1_5, tw_2_234⟩, by decide +kernel⟩
theorem vb_X8_endPart : mw_VB yX8_endPart RX8 cX8_endPart 2 none 1 := ⟨⟨tw_2_236, tw_2_237, tw_1_8, tw_2_238⟩, by decide +kernel⟩
theorem vb_X11_set : mw_VB yX11_set RX11 cX11_set 5 (some .int) 3 := ⟨⟨tw_3_35, tw_3_36, tw_1_1, tw_3_37⟩, by decide +kernel⟩
theorem sb_X11_isWithin : mw_SB yX11_isWithin cX11_isWithin 3 (some .boolean) 3 := ⟨⟨tw_3_43, tw_1_1, tw_3_44⟩, by decide +kernel⟩
theorem vb_X6_reading : mw_VB yX6_reading RX6 cX6_reading 2 (some .int) 1 := ⟨⟨tw_3_46, tw_3_47, tw_1_2, tw_3_48⟩, by decide +kernel⟩
theorem vb_X6_lay : mw_VB yX6_lay RX6 cX6_lay 3 none 2 := ⟨⟨tw_3_50, tw_3_51, tw_1_2, tw_3_52⟩, by decide +kernel⟩
theorem vb_X6_has : mw_VB yX6_has RX6 cX6_has 2 (some .boolean) 1 := ⟨⟨tw_3_54, tw_3_55, tw_1_2, tw_3_56⟩, by decide +kernel⟩
theorem vb_X1_reading : mw_VB yX1_reading RX1 cX1_reading 2 (some .int) 1 := ⟨⟨tw_3_58, tw_3_59, tw_1_3, tw_3_60⟩, by decide +kernel⟩
theorem vb_X1_lay : mw_VB yX1_lay RX1 cX1_lay 3 none 2 := ⟨⟨tw_3_62, tw_3_63, tw_1_3, tw_3_64⟩, by decide +kernel⟩
theorem vb_X11_customer : mw_VB yX11_customer RX11 cX11_customer 4 (some .int) 3 := ⟨⟨tw_3_66, tw_3_67, tw_1_1, tw_3_68⟩, by decide +kernel⟩
theorem sb_X11_isHour : mw_SB yX11_isHour cX11_isHour 1 (some .boolean) 1 := ⟨⟨tw_3_70, tw_1_1, tw_3_71⟩, by decide +kernel⟩
theorem vb_X1_come : mw_VB yX1_come RX1 cX1_come 4 none 3 := ⟨⟨tw_3_73, tw_3_74, tw_1_3, tw_3_75⟩, by decide +kernel⟩
theorem vb_X11_told : mw_VB yX11_told RX11 cX11_told 4 (some .int) 2 := ⟨⟨tw_3_77, tw_3_78, tw_1_1, tw_3_79⟩, by decide +kernel⟩
theorem vb_X4_eatsOf : mw_VB yX4_eatsOf RX4 cX4_eatsOf 4 (some .int) 2 := ⟨⟨tw_3_82, tw_3_83, tw_1_9, tw_3_84⟩, by decide +kernel⟩
theorem vb_X9_ruleOf : mw_VB yX9_ruleOf RX9 cX9_ruleOf 2 (some (.object "OneCubeEach$Text")) 1 := ⟨⟨tw_3_86, tw_3_87, tw_1_7, tw_3_88⟩, by decide +kernel⟩
theorem vb_X9_has : mw_VB yX9_has RX9 cX9_has 2 (some .boolean) 1 := ⟨⟨tw_3_90, tw_3_91, tw_1_7, tw_3_92⟩, by decide +kernel⟩
theorem vb_X8_tell : mw_VB yX8_tell RX8 cX8_tell 7 (some .int) 3 := ⟨⟨tw_3_94, tw_3_95, tw_1_8, tw_3_96⟩, by decide +kernel⟩
theorem sb_X8_named : mw_SB yX8_named cX8_named 3 (some .int) 3 := ⟨⟨tw_3_98, tw_1_8, tw_3_99⟩, by decide +kernel⟩
theorem sb_X8_turned : mw_SB yX8_turned cX8_turned 2 (some .int) 2 := ⟨⟨tw_3_101, tw_1_8, tw_3_102⟩, by decide +kernel⟩
theorem sb_X8_joined : mw_SB yX8_joined cX8_joined 3 (some .int) 3 := ⟨⟨tw_3_104, tw_1_8, tw_3_105⟩, by decide +kernel⟩
theorem sb_X11_bounded : mw_SB yX11_bounded cX11_bounded 2 (some .int) 2 := ⟨⟨tw_3_107, tw_1_1, tw_3_108⟩, by decide +kernel⟩
theorem vb_X4_triesOf : mw_VB yX4_triesOf RX4 cX4_triesOf 4 (some .int) 2 := ⟨⟨tw_3_114, tw_3_115, tw_1_9, tw_3_116⟩, by decide +kernel⟩
theorem vb_X4_spendsOf : mw_VB yX4_spendsOf RX4 cX4_spendsOf 4 (some .int) 2 := ⟨⟨tw_3_118, tw_3_119, tw_1_9, tw_3_120⟩, by decide +kernel⟩
theorem vb_X6_isThere : mw_VB yX6_isThere RX6 cX6_isThere 2 (some .boolean) 1 := ⟨⟨tw_3_122, tw_3_123, tw_1_2, tw_3_124⟩, by decide +kernel⟩
theorem vb_X4_costOf : mw_VB yX4_costOf RX4 cX4_costOf 3 (some .int) 2 := ⟨⟨tw_3_126, tw_3_127, tw_1_9, tw_3_128⟩, by decide +kernel⟩
theorem vb_X4_eatenBy : mw_VB yX4_eatenBy RX4 cX4_eatenBy 3 (some .int) 2 := ⟨⟨tw_3_130, tw_3_131, tw_1_9, tw_3_132⟩, by decide +kernel⟩
theorem sb_X4_priceOf : mw_SB yX4_priceOf cX4_priceOf 2 (some .int) 2 := ⟨⟨tw_3_136, tw_1_9, tw_3_137⟩, by decide +kernel⟩
theorem vb_X4_gainOf : mw_VB yX4_gainOf RX4 cX4_gainOf 5 (some .int) 2 := ⟨⟨tw_3_139, tw_3_140, tw_1_9, tw_3_141⟩, by decide +kernel⟩
theorem vb_X11_feed : mw_VB yX11_feed RX11 cX11_feed 2 (some .int) 1 := ⟨⟨tw_3_145, tw_3_146, tw_1_1, tw_3_147⟩, by decide +kernel⟩
theorem vb_X11_force : mw_VB yX11_force RX11 cX11_force 3 (some .int) 1 := ⟨⟨tw_3_150, tw_3_151, tw_1_1, tw_3_152⟩, by decide +kernel⟩
theorem vb_X11_board : mw_VB yX11_board RX11 cX11_board 2 (some .int) 1 := ⟨⟨tw_3_155, tw_3_156, tw_1_1, tw_3_157⟩, by decide +kernel⟩
theorem vb_X4_allGainOf : mw_VB yX4_allGainOf RX4 cX4_allGainOf 4 (some .int) 1 := ⟨⟨tw_3_159, tw_3_160, tw_1_9, tw_3_161⟩, by decide +kernel⟩
theorem vb_X4_allEatenOf : mw_VB yX4_allEatenOf RX4 cX4_allEatenOf 4 (some .int) 1 := ⟨⟨tw_3_164, tw_3_165, tw_1_9, tw_3_166⟩, by decide +kernel⟩
theorem vb_X4_allCostOf : mw_VB yX4_allCostOf RX4 cX4_allCostOf 4 (some .int) 1 := ⟨⟨tw_3_168, tw_3_169, tw_1_9, tw_3_170⟩, by decide +kernel⟩
theorem vb_X4_onlyEatersOf : mw_VB yX4_onlyEatersOf RX4 cX4_onlyEatersOf 5 (some .int) 1 := ⟨⟨tw_3_173, tw_3_174, tw_1_9, tw_3_175⟩, by decide +kernel⟩
theorem vb_X11_crowdedHour : mw_VB yX11_crowdedHour RX11 cX11_crowdedHour 2 (some .int) 0 := ⟨⟨tw_3_178, lg_p (q := (yX11_crowdedHour, _)) (List.mem_append_left _ (List.mem_of_getElem? (i := 6) rfl)), tw_1_1, tw_3_179⟩, by decide +kernel⟩
theorem vb_X0_beginWith : mw_VB yX0_beginWith RX0 cX0_beginWith 3 none 2 := ⟨⟨tw_3_181, tw_3_182, tw_1_10, tw_3_183⟩, by decide +kernel⟩
theorem vb_X4_eatenIn : mw_VB yX4_eatenIn RX4 cX4_eatenIn 5 (some .int) 2 := ⟨⟨tw_3_185, tw_3_186, tw_1_9, tw_3_187⟩, by decide +kernel⟩
theorem vb_X0_offer : mw_VB yX0_offer RX0 cX0_offer 3 none 2 := ⟨⟨tw_3_189, tw_3_190, tw_1_10, tw_3_191⟩, by decide +kernel⟩
theorem vb_X6_thereAmong : mw_VB yX6_thereAmong RX6 cX6_thereAmong 4 (some .int) 1 := ⟨⟨tw_3_194, tw_3_195, tw_1_2, tw_3_196⟩, by decide +kernel⟩
theorem vb_X11_fair : mw_VB yX11_fair RX11 cX11_fair 5 (some .long) 1 := ⟨⟨tw_3_199, tw_3_200, tw_1_1, tw_3_201⟩, by decide +kernel⟩
theorem sb_X11_isZeroOrOne : mw_SB yX11_isZeroOrOne cX11_isZeroOrOne 1 (some .boolean) 1 := ⟨⟨tw_3_203, tw_1_1, tw_3_204⟩, by decide +kernel⟩
theorem vb_X2_lay : mw_VB yX2_lay RX2 cX2_lay 7 none 2 := ⟨⟨tw_3_207, tw_3_208, tw_1_11, tw_3_209⟩, by decide +kernel⟩
theorem sb_X2_commonOf : mw_SB yX2_commonOf cX2_commonOf 11 (some .long) 2 := ⟨⟨tw_3_211, tw_1_11, tw_3_212⟩, by decide +kernel⟩
theorem vb_X4_triesIfThere : mw_VB yX4_triesIfThere RX4 cX4_triesIfThere 3 (some .int) 2 := ⟨⟨tw_3_214, tw_3_215, tw_1_9, tw_3_216⟩, by decide +kernel⟩
theorem vb_X2_plus : mw_VB yX2_plus RX2 cX2_plus 5 none 2 := ⟨⟨tw_3_218, tw_3_219, tw_1_11, tw_3_220⟩, by decide +kernel⟩
theorem vb_X2_part : mw_VB yX2_part RX2 cX2_part 2 (some .long) 1 := ⟨⟨tw_3_223, tw_3_224, tw_1_11, tw_3_225⟩, by decide +kernel⟩
theorem vb_X11_buysOne : mw_VB yX11_buysOne RX11 cX11_buysOne 4 (some .long) 1 := ⟨⟨tw_3_227, tw_3_228, tw_1_1, tw_3_229⟩, by decide +kernel⟩
theorem vb_X2_times : mw_VB yX2_times RX2 cX2_times 5 none 2 := ⟨⟨tw_3_231, tw_3_232, tw_1_11, tw_3_233⟩, by decide +kernel⟩
theorem vb_X11_hour : mw_VB yX11_hour RX11 cX11_hour 3 (some .int) 2 := ⟨⟨tw_3_235, tw_3_236, tw_1_1, tw_3_237⟩, by decide +kernel⟩
theorem vb_X11_cubes : mw_VB yX11_cubes RX11 cX11_cubes 2 (some .int) 1 := ⟨⟨tw_3_239, tw_4_0, tw_1_1, tw_4_1⟩, by decide +kernel⟩
theorem vb_X11_bestOf : mw_VB yX11_bestOf RX11 cX11_bestOf 6 (some .int) 4 := ⟨⟨tw_4_4, lg_p (q := (yX11_bestOf, _)) (List.mem_append_left _ (List.mem_of_getElem? (i := 7) rfl)), tw_1_1, tw_4_5⟩, by decide +kernel⟩
theorem vb_X6_become : mw_VB yX6_become RX6 cX6_become 3 none 1 := ⟨⟨tw_4_7, tw_4_8, tw_1_2, tw_4_9⟩, by decide +kernel⟩
theorem vb_X1_become : mw_VB yX1_become RX1 cX1_become 2 none 1 := ⟨⟨tw_4_11, tw_4_12, tw_1_3, tw_4_13⟩, by decide +kernel⟩
theorem vb_X0_begin : mw_VB yX0_begin RX0 cX0_begin 1 none 0 := ⟨⟨tw_4_15, tw_4_16, tw_1_10, tw_4_17⟩, by decide +kernel⟩
theorem vb_X0_answer : mw_VB yX0_answer RX0 cX0_answer 2 (some .int) 1 := ⟨⟨tw_4_19, tw_4_20, tw_1_10, tw_4_21⟩, by decide +kernel⟩
theorem vb_X11_shelf : mw_VB yX11_shelf RX11 cX11_shelf 2 (some .int) 1 := ⟨⟨tw_4_23, tw_4_24, tw_1_1, tw_4_25⟩, by decide +kernel⟩
theorem vb_X11_apron : mw_VB yX11_apron RX11 cX11_apron 2 (some .int) 1 := ⟨⟨tw_4_27, tw_4_28, tw_1_1, tw_4_29⟩, by decide +kernel⟩
theorem vb_X11_stand : mw_VB yX11_stand RX11 cX11_stand 4 (some .int) 2 := ⟨⟨tw_4_31, tw_4_32, tw_1_1, tw_4_33⟩, by decide +kernel⟩
theorem vb_X11_setting : mw_VB yX11_setting RX11 cX11_setting 5 (some .int) 1 := ⟨⟨tw_4_35, tw_4_36, tw_1_1, tw_4_37⟩, by decide +kernel⟩
theorem vb_X11_sendAway : mw_VB yX11_sendAway RX11 cX11_sendAway 4 (some .int) 1 := ⟨⟨tw_4_39, tw_4_40, tw_1_1, tw_4_41⟩, by decide +kernel⟩
theorem vb_X11_lost : mw_VB yX11_lost RX11 cX11_lost 4 (some .int) 1 := ⟨⟨tw_4_43, tw_4_44, tw_1_1, tw_4_45⟩, by decide +kernel⟩
theorem vb_X11_tells : mw_VB yX11_tells RX11 cX11_tells 6 (some .int) 3 := ⟨⟨tw_4_47, tw_4_48, tw_1_1, tw_4_49⟩, by decide +kernel⟩
theorem sb_X11_isSheet : mw_SB yX11_isSheet cX11_isSheet 1 (some .boolean) 1 := ⟨⟨tw_4_51, tw_1_1, tw_4_52⟩, by decide +kernel⟩
theorem vb_X5_isMissing : mw_VB yX5_isMissing RX5 cX5_isMissing 1 (some .boolean) 0 := ⟨⟨tw_4_54, tw_4_55, tw_1_12, tw_4_56⟩, by decide +kernel⟩
theorem vb_X11_firstOtherwise : mw_VB yX11_firstOtherwise RX11 cX11_firstOtherwise 4 (some .int) 2 := ⟨⟨tw_4_59, lg_p (q := (yX11_firstOtherwise, _)) (List.mem_append_left _ (List.mem_of_getElem? (i := 8) rfl)), tw_1_1, tw_4_60⟩, by decide +kernel⟩
theorem vb_X11_allBy : mw_VB yX11_allBy RX11 cX11_allBy 9 (some .int) 3 := ⟨⟨tw_4_63, lg_p (q := (yX11_allBy, _)) (List.mem_append_left _ (List.mem_of_getElem? (i := 9) rfl)), tw_1_1, tw_4_64⟩, by decide +kernel⟩
theorem vb_X11_suppose : mw_VB yX11_suppose RX11 cX11_suppose 4 none 3 := ⟨⟨tw_4_71, lg_p (q := (yX11_suppose, _)) (List.mem_append_left _ (List.mem_of_getElem? (i := 10) rfl)), tw_1_1, tw_4_72⟩, by decide +kernel⟩
theorem vb_X11_film : mw_VB yX11_film RX11 cX11_film 5 (some .int) 3 := ⟨⟨tw_4_74, tw_4_75, tw_1_1, tw_4_76⟩, by decide +kernel⟩
theorem vb_X5_become : mw_VB yX5_become RX5 cX5_become 4 none 2 := ⟨⟨tw_4_78, tw_4_79, tw_1_12, tw_4_80⟩, by decide +kernel⟩
theorem vb_X5_put : mw_VB yX5_put RX5 cX5_put 3 none 2 := ⟨⟨tw_4_83, tw_4_84, tw_1_12, tw_4_85⟩, by decide +kernel⟩
theorem vb_X5_holds : mw_VB yX5_holds RX5 cX5_holds 3 (some .boolean) 2 := ⟨⟨tw_4_87, tw_4_88, tw_1_12, tw_4_89⟩, by decide +kernel⟩
theorem vb_X11_sell : mw_VB yX11_sell RX11 cX11_sell 2 (some .int) 1 := ⟨⟨tw_4_91, tw_4_92, tw_1_1, tw_4_93⟩, by decide +kernel⟩
theorem vb_X4_drawn : mw_VB yX4_drawn RX4 cX4_drawn 9 (some .int) 3 := ⟨⟨tw_4_95, tw_4_96, tw_1_9, tw_4_97⟩, by decide +kernel⟩
theorem vb_X11_chance : mw_VB yX11_chance RX11 cX11_chance 7 (some .long) 4 := ⟨⟨tw_4_100, tw_4_101, tw_1_1, tw_4_102⟩, by decide +kernel⟩
theorem vb_X11_image : mw_VB yX11_image RX11 cX11_image 1 (some .int) 0 := ⟨⟨tw_4_104, tw_4_105, tw_1_1, tw_4_106⟩, by decide +kernel⟩
theorem vb_X11_back : mw_VB yX11_back RX11 cX11_back 1 (some .int) 0 := ⟨⟨tw_4_108, tw_4_109, tw_1_1, tw_4_110⟩, by decide +kernel⟩
theorem vb_X11_count : mw_VB yX11_count RX11 cX11_count 2 (some .int) 1 := ⟨⟨tw_4_112, tw_4_113, tw_1_1, tw_4_114⟩, by decide +kernel⟩
theorem sb_J6_bitCount_0f7a4 : mw_SB yJ6_bitCount_0f7a4 cJ6_bitCount_0f7a4 1 (some .int) 1 := ⟨⟨tw_4_116, tw_1_20, tw_4_117⟩, by decide +kernel⟩
theorem vb_X6_boughtByAll : mw_VB yX6_boughtByAll RX6 cX6_boughtByAll 3 (some .int) 0 := ⟨⟨tw_4_122, tw_4_123, tw_1_2, tw_4_124⟩, by decide +kernel⟩
theorem vb_X11_sheet : mw_VB yX11_sheet RX11 cX11_sheet 4 (some .int) 3 := ⟨⟨tw_4_126, tw_4_127, tw_1_1, tw_4_128⟩, by decide +kernel⟩
theorem vb_X11_cell : mw_VB yX11_cell RX11 cX11_cell 5 (some .int) 3 := ⟨⟨tw_4_130, tw_4_131, tw_1_1, tw_4_132⟩, by decide +kernel⟩
theorem vb_X11_copy : mw_VB yX11_copy RX11 cX11_copy 8 (some .int) 5 := ⟨⟨tw_4_135, tw_4_136, tw_1_1, tw_4_137⟩, by decide +kernel⟩
theorem vb_X11_customers : mw_VB yX11_customers RX11 cX11_customers 9 (some .int) 4 := ⟨⟨tw_4_142, tw_4_143, tw_1_1, tw_4_144⟩, by decide +kernel⟩
theorem vb_X11_taken : mw_VB yX11_taken RX11 cX11_taken 4 (some .int) 2 := ⟨⟨tw_4_147, tw_4_148, tw_1_1, tw_4_149⟩, by decide +kernel⟩
theorem sb_X11_isUnder : mw_SB yX11_isUnder cX11_isUnder 4 (some .boolean) 2 := ⟨⟨tw_4_151, tw_1_1, tw_4_152⟩, by decide +kernel⟩
theorem vb_X12_spell : mw_VB yX12_spell RX12 cX12_spell 10 none 9 := ⟨⟨tw_4_163, lg_p (q := (yX12_spell, _)) (List.mem_append_left _ (List.mem_of_getElem? (i := 11) rfl)), tw_1_19, tw_4_164⟩, by decide +kernel⟩
theorem vb_X12_set : mw_VB yX12_set RX12 cX12_set 5 (some .int) 3 := ⟨⟨tw_5_29, tw_5_30, tw_1_19, tw_5_31⟩, by decide +kernel⟩
theorem sb_X12_in : mw_SB yX12_in cX12_in 6 (some .boolean) 3 := ⟨⟨tw_5_34, tw_1_19, tw_5_35⟩, by decide +kernel⟩
theorem vb_X12_isOne : mw_VB yX12_isOne RX12 cX12_isOne 2 (some .boolean) 1 := ⟨⟨tw_5_38, lg_p (q := (yX12_isOne, _)) (List.mem_append_left _ (List.mem_of_getElem? (i := 12) rfl)), tw_1_19, tw_5_39⟩, by decide +kernel⟩
theorem sb_X12_leastOf : mw_SB yX12_leastOf cX12_leastOf 1 (some .int) 1 := ⟨⟨tw_5_41, tw_1_19, tw_5_42⟩, by decide +kernel⟩
theorem sb_X12_mostOf : mw_SB yX12_mostOf cX12_mostOf 1 (some .int) 1 := ⟨⟨tw_5_44, tw_1_19, tw_5_45⟩, by decide +kernel⟩
theorem vb_X12_told : mw_VB yX12_told RX12 cX12_told 3 (some .int) 2 := ⟨⟨tw_5_47, tw_5_48, tw_1_19, tw_5_49⟩, by decide +kernel⟩
theorem vb_X12_eatsOf : mw_VB yX12_eatsOf RX12 cX12_eatsOf 5 (some .int) 1 := ⟨⟨tw_5_54, lg_p (q := (yX12_eatsOf, _)) (List.mem_append_left _ (List.mem_of_getElem? (i := 13) rfl)), tw_1_19, tw_5_55⟩, by decide +kernel⟩
theorem vb_X12_asks : mw_VB yX12_asks RX12 cX12_asks 3 (some .int) 2 := ⟨⟨tw_5_58, lg_p (q := (yX12_asks, _)) (List.mem_append_left _ (List.mem_of_getElem? (i := 14) rfl)), tw_1_19, tw_5_59⟩, by decide +kernel⟩
theorem vb_X12_read : mw_VB yX12_read RX12 cX12_read 6 (some .int) 2 := ⟨⟨tw_5_62, lg_p (q := (yX12_read, _)) (List.mem_append_left _ (List.mem_of_getElem? (i := 15) rfl)), tw_1_19, tw_5_63⟩, by decide +kernel⟩
theorem vb_X12_next : mw_VB yX12_next RX12 cX12_next 3 none 0 := ⟨⟨tw_5_66, lg_p (q := (yX12_next, _)) (List.mem_append_right _ (List.mem_append_left _ (List.mem_of_getElem? (i := 0) rfl))), tw_1_19, tw_5_67⟩, by decide +kernel⟩
theorem vb_X12_byteAt : mw_VB yX12_byteAt RX12 cX12_byteAt 2 (some .int) 1 := ⟨⟨tw_5_70, lg_p (q := (yX12_byteAt, _)) (List.mem_append_right _ (List.mem_append_left _ (List.mem_of_getElem? (i := 1) rfl))), tw_1_19, tw_5_71⟩, by decide +kernel⟩
theorem vb_X12_isWord : mw_VB yX12_isWord RX12 cX12_isWord 9 (some .boolean) 8 := ⟨⟨tw_5_79, lg_p (q := (yX12_isWord, _)) (List.mem_append_right _ (List.mem_append_left _ (List.mem_of_getElem? (i := 2) rfl))), tw_1_19, tw_5_80⟩, by decide +kernel⟩
theorem vb_X12_isLetter : mw_VB yX12_isLetter RX12 cX12_isLetter 3 (some .boolean) 2 := ⟨⟨tw_5_83, lg_p (q := (yX12_isLetter, _)) (List.mem_append_right _ (List.mem_append_left _ (List.mem_of_getElem? (i := 3) rfl))), tw_1_19, tw_5_84⟩, by decide +kernel⟩
theorem vb_X12_part : mw_VB yX12_part RX12 cX12_part 3 (some .int) 1 := ⟨⟨tw_5_87, lg_p (q := (yX12_part, _)) (List.mem_append_right _ (List.mem_append_left _ (List.mem_of_getElem? (i := 4) rfl))), tw_1_19, tw_5_88⟩, by decide +kernel⟩
theorem vb_X12_fail : mw_VB yX12_fail RX12 cX12_fail 1 none 0 := ⟨⟨tw_5_91, lg_p (q := (yX12_fail, _)) (List.mem_append_right _ (List.mem_append_left _ (List.mem_of_getElem? (i := 5) rfl))), tw_1_19, tw_5_92⟩, by decide +kernel⟩
theorem vb_X12_either0 : mw_VB yX12_either0 RX12 cX12_either0 3 (some .int) 0 := ⟨⟨tw_5_95, lg_p (q := (yX12_either0, _)) (List.mem_append_right _ (List.mem_append_left _ (List.mem_of_getElem? (i := 6) rfl))), tw_1_19, tw_5_96⟩, by decide +kernel⟩
theorem vb_X12_both0 : mw_VB yX12_both0 RX12 cX12_both0 3 (some .int) 0 := ⟨⟨tw_5_99, lg_p (q := (yX12_both0, _)) (List.mem_append_right _ (List.mem_append_left _ (List.mem_of_getElem? (i := 7) rfl))), tw_1_19, tw_5_100⟩, by decide +kernel⟩
theorem vb_X12_not0 : mw_VB yX12_not0 RX12 cX12_not0 4 (some .int) 0 := ⟨⟨tw_5_103, lg_p (q := (yX12_not0, _)) (List.mem_append_right _ (List.mem_append_left _ (List.mem_of_getElem? (i := 8) rfl))), tw_1_19, tw_5_104⟩, by decide +kernel⟩
theorem vb_X12_opens : mw_VB yX12_opens RX12 cX12_opens 1 (some .boolean) 0 := ⟨⟨tw_5_107, lg_p (q := (yX12_opens, _)) (List.mem_append_right _ (List.mem_append_left _ (List.mem_of_getElem? (i := 9) rfl))), tw_1_19, tw_5_108⟩, by decide +kernel⟩
theorem vb_X12_not1 : mw_VB yX12_not1 RX12 cX12_not1 4 (some .int) 0 := ⟨⟨tw_5_111, lg_p (q := (yX12_not1, _)) (List.mem_append_right _ (List.mem_append_left _ (List.mem_of_getElem? (i := 10) rfl))), tw_1_19, tw_5_112⟩, by decide +kernel⟩
theorem vb_X12_not2 : mw_VB yX12_not2 RX12 cX12_not2 4 (some .int) 0 := ⟨⟨tw_5_115, lg_p (q := (yX12_not2, _)) (List.mem_append_right _ (List.mem_append_left _ (List.mem_of_getElem? (i := 11) rfl))), tw_1_19, tw_5_116⟩, by decide +kernel⟩
theorem vb_X12_not3 : mw_VB yX12_not3 RX12 cX12_not3 4 (some .int) 0 := ⟨⟨tw_5_119, lg_p (q := (yX12_not3, _)) (List.mem_append_right _ (List.mem_append_left _ (List.mem_of_getElem? (i := 12) rfl))), tw_1_19, tw_5_120⟩, by decide +kernel⟩
theorem vb_X12_not4 : mw_VB yX12_not4 RX12 cX12_not4 4 (some .int) 0 := ⟨⟨tw_5_123, lg_p (q := (yX12_not4, _)) (List.mem_append_right _ (List.mem_append_left _ (List.mem_of_getElem? (i := 13) rfl))), tw_1_19, tw_5_124⟩, by decide +kernel⟩
theorem vb_X12_not5 : mw_VB yX12_not5 RX12 cX12_not5 4 (some .int) 0 := ⟨⟨tw_5_127, lg_p (q := (yX12_not5, _)) (List.mem_append_right _ (List.mem_append_left _ (List.mem_of_getElem? (i := 14) rfl))), tw_1_19, tw_5_128⟩, by decide +kernel⟩
theorem vb_X12_added5 : mw_VB yX12_added5 RX12 cX12_added5 4 (some .int) 0 := ⟨⟨tw_5_131, lg_p (q := (yX12_added5, _)) (List.mem_append_right _ (List.mem_append_left _ (List.mem_of_getElem? (i := 15) rfl))), tw_1_19, tw_5_132⟩, by decide +kernel⟩
theorem vb_X12_term5 : mw_VB yX12_term5 RX12 cX12_term5 2 (some .int) 0 := ⟨⟨tw_5_135, lg_p (q := (yX12_term5, _)) (List.mem_append_right _ (List.mem_append_right _ (List.mem_append_left _ (List.mem_of_getElem? (i := 0) rfl)))), tw_1_19, tw_5_136⟩, by decide +kernel⟩
theorem vb_X12_atom5 : mw_VB yX12_atom5 RX12 cX12_atom5 2 (some .int) 0 := ⟨⟨tw_5_139, lg_p (q := (yX12_atom5, _)) (List.mem_append_right _ (List.mem_append_right _ (List.mem_append_left _ (List.mem_of_getElem? (i := 1) rfl)))), tw_1_19, tw_5_140⟩, by decide +kernel⟩
theorem vb_X12_isSign : mw_VB yX12_isSign RX12 cX12_isSign 2 (some .boolean) 1 := ⟨⟨tw_5_143, lg_p (q := (yX12_isSign, _)) (List.mem_append_right _ (List.mem_append_right _ (List.mem_append_left _ (List.mem_of_getElem? (i := 2) rfl)))), tw_1_19, tw_5_144⟩, by decide +kernel⟩
theorem vb_X12_name : mw_VB yX12_name RX12 cX12_name 1 (some .int) 0 := ⟨⟨tw_5_147, lg_p (q := (yX12_name, _)) (List.mem_append_right _ (List.mem_append_right _ (List.mem_append_left _ (List.mem_of_getElem? (i := 3) rfl)))), tw_1_19, tw_5_148⟩, by decide +kernel⟩
theorem vb_X12_added4 : mw_VB yX12_added4 RX12 cX12_added4 4 (some .int) 0 := ⟨⟨tw_5_153, lg_p (q := (yX12_added4, _)) (List.mem_append_right _ (List.mem_append_right _ (List.mem_append_left _ (List.mem_of_getElem? (i := 4) rfl)))), tw_1_19, tw_5_154⟩, by decide +kernel⟩
theorem vb_X12_term4 : mw_VB yX12_term4 RX12 cX12_term4 2 (some .int) 0 := ⟨⟨tw_5_157, lg_p (q := (yX12_term4, _)) (List.mem_append_right _ (List.mem_append_right _ (List.mem_append_left _ (List.mem_of_getElem? (i := 5) rfl)))), tw_1_19, tw_5_158⟩, by decide +kernel⟩
theorem vb_X12_atom4 : mw_VB yX12_atom4 RX12 cX12_atom4 2 (some .int) 0 := ⟨⟨tw_5_161, lg_p (q := (yX12_atom4, _)) (List.mem_append_right _ (List.mem_append_right _ (List.mem_append_left _ (List.mem_of_getElem? (i := 6) rfl)))), tw_1_19, tw_5_162⟩, by decide +kernel⟩
theorem vb_X12_either5 : mw_VB yX12_either5 RX12 cX12_either5 3 (some .int) 0 := ⟨⟨tw_5_165, lg_p (q := (yX12_either5, _)) (List.mem_append_right _ (List.mem_append_right _ (List.mem_append_left _ (List.mem_of_getElem? (i := 7) rfl)))), tw_1_19, tw_5_166⟩, by decide +kernel⟩
theorem vb_X12_both5 : mw_VB yX12_both5 RX12 cX12_both5 3 (some .int) 0 := ⟨⟨tw_5_169, lg_p (q := (yX12_both5, _)) (List.mem_append_right _ (List.mem_append_right _ (List.mem_append_left _ (List.mem_of_getElem? (i := 8) rfl)))), tw_1_19, tw_5_170⟩, by decide +kernel⟩
theorem vb_X12_added3 : mw_VB yX12_added3 RX12 cX12_added3 4 (some .int) 0 := ⟨⟨tw_5_173, lg_p (q := (yX12_added3, _)) (List.mem_append_right _ (List.mem_append_right _ (List.mem_append_left _ (List.mem_of_getElem? (i := 9) rfl)))), tw_1_19, tw_5_174⟩, by decide +kernel⟩
theorem vb_X12_term3 : mw_VB yX12_term3 RX12 cX12_term3 2 (some .int) 0 := ⟨⟨tw_5_177, lg_p (q := (yX12_term3, _)) (List.mem_append_right _ (List.mem_append_right _ (List.mem_append_left _ (List.mem_of_getElem? (i := 10) rfl)))), tw_1_19, tw_5_178⟩, by decide +kernel⟩
theorem vb_X12_atom3 : mw_VB yX12_atom3 RX12 cX12_atom3 2 (some .int) 0 := ⟨⟨tw_5_181, lg_p (q := (yX12_atom3, _)) (List.mem_append_right _ (List.mem_append_right _ (List.mem_append_left _ (List.mem_of_getElem? (i := 11) rfl)))), tw_1_19, tw_5_182⟩, by decide +kernel⟩
theorem vb_X12_either4 : mw_VB yX12_either4 RX12 cX12_either4 3 (some .int) 0 := ⟨⟨tw_5_185, lg_p (q := (yX12_either4, _)) (List.mem_append_right _ (List.mem_append_right _ (List.mem_append_left _ (List.mem_of_getElem? (i := 12) rfl)))), tw_1_19, tw_5_186⟩, by decide +kernel⟩
theorem vb_X12_both4 : mw_VB yX12_both4 RX12 cX12_both4 3 (some .int) 0 := ⟨⟨tw_5_189, lg_p (q := (yX12_both4, _)) (List.mem_append_right _ (List.mem_append_right _ (List.mem_append_left _ (List.mem_of_getElem? (i := 13) rfl)))), tw_1_19, tw_5_190⟩, by decide +kernel⟩
theorem vb_X12_added2 : mw_VB yX12_added2 RX12 cX12_added2 4 (some .int) 0 := ⟨⟨tw_5_193, lg_p (q := (yX12_added2, _)) (List.mem_append_right _ (List.mem_append_right _ (List.mem_append_left _ (List.mem_of_getElem? (i := 14) rfl)))), tw_1_19, tw_5_194⟩, by decide +kernel⟩
theorem vb_X12_term2 : mw_VB yX12_term2 RX12 cX12_term2 2 (some .int) 0 := ⟨⟨tw_5_197, lg_p (q := (yX12_term2, _)) (List.mem_append_right _ (List.mem_append_right _ (List.mem_append_left _ (List.mem_of_getElem? (i := 15) rfl)))), tw_1_19, tw_5_198⟩, by decide +kernel⟩
theorem vb_X12_atom2 : mw_VB yX12_atom2 RX12 cX12_atom2 2 (some .int) 0 := ⟨⟨tw_5_201, lg_p (q := (yX12_atom2, _)) (List.mem_append_right _ (List.mem_append_right _ (List.mem_append_right _ (List.mem_append_left _ (List.mem_of_getElem? (i := 0) rfl))))), tw_1_19, tw_5_202⟩, by decide +kernel⟩
theorem vb_X12_either3 : mw_VB yX12_either3 RX12 cX12_either3 3 (some .int) 0 := ⟨⟨tw_5_205, lg_p (q := (yX12_either3, _)) (List.mem_append_right _ (List.mem_append_right _ (List.mem_append_right _ (List.mem_append_left _ (List.mem_of_getElem? (i := 1) rfl))))), tw_1_19, tw_5_206⟩, by decide +kernel⟩
theorem vb_X12_both3 : mw_VB yX12_both3 RX12 cX12_both3 3 (some .int) 0 := ⟨⟨tw_5_209, lg_p (q := (yX12_both3, _)) (List.mem_append_right _ (List.mem_append_right _ (List.mem_append_right _ (List.mem_append_left _ (List.mem_of_getElem? (i := 2) rfl))))), tw_1_19, tw_5_210⟩, by decide +kernel⟩
theorem vb_X12_added1 : mw_VB yX12_added1 RX12 cX12_added1 4 (some .int) 0 := ⟨⟨tw_5_213, lg_p (q := (yX12_added1, _)) (List.mem_append_right _ (List.mem_append_right _ (List.mem_append_right _ (List.mem_append_left _ (List.mem_of_getElem? (i := 3) rfl))))), tw_1_19, tw_5_214⟩, by decide +kernel⟩
theorem vb_X12_term1 : mw_VB yX12_term1 RX12 cX12_term1 2 (some .int) 0 := ⟨⟨tw_5_217, lg_p (q := (yX12_term1, _)) (List.mem_append_right _ (List.mem_append_right _ (List.mem_append_right _ (List.mem_append_left _ (List.mem_of_getElem? (i := 4) rfl))))), tw_1_19, tw_5_218⟩, by decide +kernel⟩
theorem vb_X12_atom1 : mw_VB yX12_atom1 RX12 cX12_atom1 2 (some .int) 0 := ⟨⟨tw_5_221, lg_p (q := (yX12_atom1, _)) (List.mem_append_right _ (List.mem_append_right _ (List.mem_append_right _ (List.mem_append_left _ (List.mem_of_getElem? (i := 5) rfl))))), tw_1_19, tw_5_222⟩, by decide +kernel⟩
theorem vb_X12_either2 : mw_VB yX12_either2 RX12 cX12_either2 3 (some .int) 0 := ⟨⟨tw_5_225, lg_p (q := (yX12_either2, _)) (List.mem_append_right _ (List.mem_append_right _ (List.mem_append_right _ (List.mem_append_left _ (List.mem_of_getElem? (i := 6) rfl))))), tw_1_19, tw_5_226⟩, by decide +kernel⟩
theorem vb_X12_both2 : mw_VB yX12_both2 RX12 cX12_both2 3 (some .int) 0 := ⟨⟨tw_5_229, lg_p (q := (yX12_both2, _)) (List.mem_append_right _ (List.mem_append_right _ (List.mem_append_right _ (List.mem_append_left _ (List.mem_of_getElem? (i := 7) rfl))))), tw_1_19, tw_5_230⟩, by decide +kernel⟩
theorem vb_X12_added0 : mw_VB yX12_added0 RX12 cX12_added0 4 (some .int) 0 := ⟨⟨tw_5_233, lg_p (q := (yX12_added0, _)) (List.mem_append_right _ (List.mem_append_right _ (List.mem_append_right _ (List.mem_append_left _ (List.mem_of_getElem? (i := 8) rfl))))), tw_1_19, tw_5_234⟩, by decide +kernel⟩
theorem vb_X12_term0 : mw_VB yX12_term0 RX12 cX12_term0 2 (some .int) 0 := ⟨⟨tw_5_237, lg_p (q := (yX12_term0, _)) (List.mem_append_right _ (List.mem_append_right _ (List.mem_append_right _ (List.mem_append_left _ (List.mem_of_getElem? (i := 9) rfl))))), tw_1_19, tw_5_238⟩, by decide +kernel⟩
theorem vb_X12_atom0 : mw_VB yX12_atom0 RX12 cX12_atom0 2 (some .int) 0 := ⟨⟨tw_6_1, lg_p (q := (yX12_atom0, _)) (List.mem_append_right _ (List.mem_append_right _ (List.mem_append_right _ (List.mem_append_left _ (List.mem_of_getElem? (i := 10) rfl))))), tw_1_19, tw_6_2⟩, by decide +kernel⟩
theorem vb_X12_either1 : mw_VB yX12_either1 RX12 cX12_either1 3 (some .int) 0 := ⟨⟨tw_6_5, lg_p (q := (yX12_either1, _)) (List.mem_append_right _ (List.mem_append_right _ (List.mem_append_right _ (List.mem_append_left _ (List.mem_of_getElem? (i := 11) rfl))))), tw_1_19, tw_6_6⟩, by decide +kernel⟩
theorem vb_X12_both1 : mw_VB yX12_both1 RX12 cX12_both1 3 (some .int) 0 := ⟨⟨tw_6_9, lg_p (q := (yX12_both1, _)) (List.mem_append_right _ (List.mem_append_right _ (List.mem_append_right _ (List.mem_append_left _ (List.mem_of_getElem? (i := 12) rfl))))), tw_1_19, tw_6_10⟩, by decide +kernel⟩
theorem sb_X12_within : mw_SB yX12_within cX12_within 3 (some .int) 3 := ⟨⟨tw_6_12, tw_1_19, tw_6_13⟩, by decide +kernel⟩
theorem vb_X12_triesOf : mw_VB yX12_triesOf RX12 cX12_triesOf 4 (some .int) 1 := ⟨⟨tw_6_16, lg_p (q := (yX12_triesOf, _)) (List.mem_append_right _ (List.mem_append_right _ (List.mem_append_right _ (List.mem_append_left _ (List.mem_of_getElem? (i := 13) rfl))))), tw_1_19, tw_6_17⟩, by decide +kernel⟩
theorem vb_X12_spendsOf : mw_VB yX12_spendsOf RX12 cX12_spendsOf 4 (some .int) 1 := ⟨⟨tw_6_20, lg_p (q := (yX12_spendsOf, _)) (List.mem_append_right _ (List.mem_append_right _ (List.mem_append_right _ (List.mem_append_left _ (List.mem_of_getElem? (i := 14) rfl))))), tw_1_19, tw_6_21⟩, by decide +kernel⟩
theorem vb_X12_isThereNow : mw_VB yX12_isThereNow RX12 cX12_isThereNow 2 (some .boolean) 1 := ⟨⟨tw_6_24, lg_p (q := (yX12_isThereNow, _)) (List.mem_append_right _ (List.mem_append_right _ (List.mem_append_right _ (List.mem_append_left _ (List.mem_of_getElem? (i := 15) rfl))))), tw_1_19, tw_6_25⟩, by decide +kernel⟩
theorem vb_X12_costOf : mw_VB yX12_costOf RX12 cX12_costOf 2 (some .int) 1 := ⟨⟨tw_6_28, lg_p (q := (yX12_costOf, _)) (List.mem_append_right _ (List.mem_append_right _ (List.mem_append_right _ (List.mem_append_right _ (List.mem_of_getElem? (i := 0) rfl))))), tw_1_19, tw_6_29⟩, by decide +kernel⟩
theorem vb_X12_gainOf : mw_VB yX12_gainOf RX12 cX12_gainOf 3 (some .int) 1 := ⟨⟨tw_6_32, lg_p (q := (yX12_gainOf, _)) (List.mem_append_right _ (List.mem_append_right _ (List.mem_append_right _ (List.mem_append_right _ (List.mem_of_getElem? (i := 1) rfl))))), tw_1_19, tw_6_33⟩, by decide +kernel⟩
theorem vb_X12_lays : mw_VB yX12_lays RX12 cX12_lays 4 none 3 := ⟨⟨tw_6_36, lg_p (q := (yX12_lays, _)) (List.mem_append_right _ (List.mem_append_right _ (List.mem_append_right _ (List.mem_append_right _ (List.mem_of_getElem? (i := 2) rfl))))), tw_1_19, tw_6_37⟩, by decide +kernel⟩
theorem vb_X12_customer : mw_VB yX12_customer RX12 cX12_customer 4 (some .int) 3 := ⟨⟨tw_6_39, tw_6_40, tw_1_19, tw_6_41⟩, by decide +kernel⟩
theorem vb_X12_feed : mw_VB yX12_feed RX12 cX12_feed 2 (some .int) 1 := ⟨⟨tw_6_46, tw_6_47, tw_1_19, tw_6_48⟩, by decide +kernel⟩
theorem vb_X12_text : mw_VB yX12_text RX12 cX12_text 2 (some .int) 0 := ⟨⟨tw_6_51, tw_6_52, tw_1_19, tw_6_53⟩, by decide +kernel⟩
theorem vb_X12_force : mw_VB yX12_force RX12 cX12_force 3 (some .int) 1 := ⟨⟨tw_6_55, tw_6_56, tw_1_19, tw_6_57⟩, by decide +kernel⟩
theorem vb_X12_board : mw_VB yX12_board RX12 cX12_board 7 (some .int) 1 := ⟨⟨tw_6_59, tw_6_60, tw_1_19, tw_6_61⟩, by decide +kernel⟩
theorem vb_X12_gainAll : mw_VB yX12_gainAll RX12 cX12_gainAll 3 (some .int) 0 := ⟨⟨tw_6_64, lg_p (q := (yX12_gainAll, _)) (List.mem_append_right _ (List.mem_append_right _ (List.mem_append_right _ (List.mem_append_right _ (List.mem_of_getElem? (i := 3) rfl))))), tw_1_19, tw_6_65⟩, by decide +kernel⟩
theorem vb_X12_crowd : mw_VB yX12_crowd RX12 cX12_crowd 5 (some .int) 0 := ⟨⟨tw_6_68, lg_p (q := (yX12_crowd, _)) (List.mem_append_right _ (List.mem_append_right _ (List.mem_append_right _ (List.mem_append_right _ (List.mem_of_getElem? (i := 4) rfl))))), tw_1_19, tw_6_69⟩, by decide +kernel⟩
theorem vb_X12_eatenIn : mw_VB yX12_eatenIn RX12 cX12_eatenIn 4 (some .int) 1 := ⟨⟨tw_6_72, lg_p (q := (yX12_eatenIn, _)) (List.mem_append_right _ (List.mem_append_right _ (List.mem_append_right _ (List.mem_append_right _ (List.mem_of_getElem? (i := 5) rfl))))), tw_1_19, tw_6_73⟩, by decide +kernel⟩
theorem vb_X12_fair : mw_VB yX12_fair RX12 cX12_fair 8 (some .long) 1 := ⟨⟨tw_6_75, tw_6_76, tw_1_19, tw_6_77⟩, by decide +kernel⟩
theorem vb_X12_buys : mw_VB yX12_buys RX12 cX12_buys 2 (some .boolean) 1 := ⟨⟨tw_6_81, lg_p (q := (yX12_buys, _)) (List.mem_append_right _ (List.mem_append_right _ (List.mem_append_right _ (List.mem_append_right _ (List.mem_of_getElem? (i := 6) rfl))))), tw_1_19, tw_6_82⟩, by decide +kernel⟩
theorem sb_X12_common : mw_SB yX12_common cX12_common 10 (some .long) 2 := ⟨⟨tw_6_84, tw_1_19, tw_6_85⟩, by decide +kernel⟩
theorem vb_X12_buysOne : mw_VB yX12_buysOne RX12 cX12_buysOne 8 (some .long) 1 := ⟨⟨tw_6_87, tw_6_88, tw_1_19, tw_6_89⟩, by decide +kernel⟩
theorem vb_X12_hour : mw_VB yX12_hour RX12 cX12_hour 5 (some .int) 2 := ⟨⟨tw_6_91, tw_6_92, tw_1_19, tw_6_93⟩, by decide +kernel⟩
theorem vb_X12_cubes : mw_VB yX12_cubes RX12 cX12_cubes 2 (some .int) 1 := ⟨⟨tw_6_95, tw_6_96, tw_1_19, tw_6_97⟩, by decide +kernel⟩
theorem vb_X12_bestOf : mw_VB yX12_bestOf RX12 cX12_bestOf 8 (some .int) 2 := ⟨⟨tw_6_100, lg_p (q := (yX12_bestOf, _)) (List.mem_append_right _ (List.mem_append_right _ (List.mem_append_right _ (List.mem_append_right _ (List.mem_of_getElem? (i := 7) rfl))))), tw_1_19, tw_6_101⟩, by decide +kernel⟩
theorem vb_X12_shelf : mw_VB yX12_shelf RX12 cX12_shelf 2 (some .int) 1 := ⟨⟨tw_6_103, tw_6_104, tw_1_19, tw_6_105⟩, by decide +kernel⟩
theorem vb_X12_apron : mw_VB yX12_apron RX12 cX12_apron 2 (some .int) 1 := ⟨⟨tw_6_107, tw_6_108, tw_1_19, tw_6_109⟩, by decide +kernel⟩
theorem vb_X12_stand : mw_VB yX12_stand RX12 cX12_stand 8 (some .int) 2 := ⟨⟨tw_6_111, tw_6_112, tw_1_19, tw_6_113⟩, by decide +kernel⟩
theorem vb_X12_setting : mw_VB yX12_setting RX12 cX12_setting 9 (some .int) 1 := ⟨⟨tw_6_115, tw_6_116, tw_1_19, tw_6_117⟩, by decide +kernel⟩
theorem vb_X12_sendAway : mw_VB yX12_sendAway RX12 cX12_sendAway 7 (some .int) 1 := ⟨⟨tw_6_119, tw_6_120, tw_1_19, tw_6_121⟩, by decide +kernel⟩
theorem vb_X12_lost : mw_VB yX12_lost RX12 cX12_lost 5 (some .int) 1 := ⟨⟨tw_6_123, tw_6_124, tw_1_19, tw_6_125⟩, by decide +kernel⟩
theorem vb_X12_tells : mw_VB yX12_tells RX12 cX12_tells 11 (some .int) 3 := ⟨⟨tw_6_127, tw_6_128, tw_1_19, tw_6_129⟩, by decide +kernel⟩
theorem sb_X12_isSheet : mw_SB yX12_isSheet cX12_isSheet 1 (some .boolean) 1 := ⟨⟨tw_6_131, tw_1_19, tw_6_132⟩, by decide +kernel⟩
theorem vb_X12_firstOther : mw_VB yX12_firstOther RX12 cX12_firstOther 6 (some .int) 2 := ⟨⟨tw_6_136, lg_p (q := (yX12_firstOther, _)) (List.mem_append_right _ (List.mem_append_right _ (List.mem_append_right _ (List.mem_append_right _ (List.mem_of_getElem? (i := 8) rfl))))), tw_1_19, tw_6_137⟩, by decide +kernel⟩
theorem vb_X12_film : mw_VB yX12_film RX12 cX12_film 6 (some .int) 3 := ⟨⟨tw_6_139, tw_6_140, tw_1_19, tw_6_141⟩, by decide +kernel⟩
theorem vb_X12_sheet : mw_VB yX12_sheet RX12 cX12_sheet 5 (some .int) 3 := ⟨⟨tw_6_144, tw_6_145, tw_1_19, tw_6_146⟩, by decide +kernel⟩
theorem vb_X12_sell : mw_VB yX12_sell RX12 cX12_sell 2 (some .int) 1 := ⟨⟨tw_6_150, tw_6_151, tw_1_19, tw_6_152⟩, by decide +kernel⟩
theorem vb_X12_soldBy : mw_VB yX12_soldBy RX12 cX12_soldBy 7 (some .int) 2 := ⟨⟨tw_6_155, lg_p (q := (yX12_soldBy, _)) (List.mem_append_right _ (List.mem_append_right _ (List.mem_append_right _ (List.mem_append_right _ (List.mem_of_getElem? (i := 9) rfl))))), tw_1_19, tw_6_156⟩, by decide +kernel⟩
theorem vb_X12_chance : mw_VB yX12_chance RX12 cX12_chance 9 (some .long) 4 := ⟨⟨tw_6_159, tw_6_160, tw_1_19, tw_6_161⟩, by decide +kernel⟩
theorem vb_X12_image : mw_VB yX12_image RX12 cX12_image 2 (some .int) 0 := ⟨⟨tw_6_165, tw_6_166, tw_1_19, tw_6_167⟩, by decide +kernel⟩
theorem vb_X12_back : mw_VB yX12_back RX12 cX12_back 2 (some .int) 0 := ⟨⟨tw_6_169, tw_6_170, tw_1_19, tw_6_171⟩, by decide +kernel⟩
theorem vb_X12_count : mw_VB yX12_count RX12 cX12_count 4 (some .int) 1 := ⟨⟨tw_6_173, tw_6_174, tw_1_19, tw_6_175⟩, by decide +kernel⟩
theorem vb_X12_cell : mw_VB yX12_cell RX12 cX12_cell 4 (some .int) 3 := ⟨⟨tw_6_178, tw_6_179, tw_1_19, tw_6_180⟩, by decide +kernel⟩
theorem vb_X12_copy : mw_VB yX12_copy RX12 cX12_copy 9 (some .int) 5 := ⟨⟨tw_6_182, tw_6_183, tw_1_19, tw_6_184⟩, by decide +kernel⟩
theorem vb_X12_customers : mw_VB yX12_customers RX12 cX12_customers 8 (some .int) 4 := ⟨⟨tw_6_186, tw_6_187, tw_1_19, tw_6_188⟩, by decide +kernel⟩
theorem vb_X12_taken : mw_VB yX12_taken RX12 cX12_taken 4 (some .int) 2 := ⟨⟨tw_6_192, tw_6_193, tw_1_19, tw_6_194⟩, by decide +kernel⟩
theorem sb_X12_over : mw_SB yX12_over cX12_over 1 (some .int) 1 := ⟨⟨tw_6_196, tw_1_19, tw_6_197⟩, by decide +kernel⟩
