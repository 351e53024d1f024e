theorem wd_0 : WD (.selects yX1_lacksHost.cls yX1_lacksHost yX1_lacksHost) := ⟨List.mem_of_getElem? (i := 0) (by decide +kernel), by decide +kernel⟩
theorem wd_1 : WD (.selects yX1_setTier.cls yX1_setTier yX1_setTier) := ⟨List.mem_of_getElem? (i := 1) (by decide +kernel), by decide +kernel⟩
theorem wd_3 : WD (.selects yX7_isLabelNew.cls yX7_isLabelNew yX7_isLabelNew) := ⟨List.mem_of_getElem? (i := 3) (by decide +kernel), by decide +kernel⟩
theorem wd_4 : WD (.selects yX8_takeLabel.cls yX8_takeLabel yX8_takeLabel) := ⟨List.mem_of_getElem? (i := 4) (by decide +kernel), by decide +kernel⟩
theorem wd_5 : WD (.selects yX3_isLetterOf.cls yX3_isLetterOf yX3_isLetterOf) := ⟨List.mem_of_getElem? (i := 5) (by decide +kernel), by decide +kernel⟩
theorem wd_6 : WD (.selects yX3_peek.cls yX3_peek yX3_peek) := ⟨List.mem_of_getElem? (i := 6) (by decide +kernel), by decide +kernel⟩
theorem wd_7 : WD (.selects yX3_isDigit.cls yX3_isDigit yX3_isDigit) := ⟨List.mem_of_getElem? (i := 7) (by decide +kernel), by decide +kernel⟩
theorem wd_8 : WD (.selects yX1_tryFrames.cls yX1_tryFrames yX1_tryFrames) := ⟨List.mem_of_getElem? (i := 8) (by decide +kernel), by decide +kernel⟩
theorem wd_9 : WD (.selects yX7_shift.cls yX7_shift yX7_shift) := ⟨List.mem_of_getElem? (i := 9) (by decide +kernel), by decide +kernel⟩
theorem wd_10 : WD (.selects yX8_keepDraft.cls yX8_keepDraft yX8_keepDraft) := ⟨List.mem_of_getElem? (i := 10) (by decide +kernel), by decide +kernel⟩
theorem wd_11 : WD (.selects yX1_dropOrphans.cls yX1_dropOrphans yX1_dropOrphans) := ⟨List.mem_of_getElem? (i := 11) (by decide +kernel), by decide +kernel⟩
theorem wd_12 : WD (.selects yX1_lowestBereft.cls yX1_lowestBereft yX1_lowestBereft) := ⟨List.mem_of_getElem? (i := 12) (by decide +kernel), by decide +kernel⟩
theorem wd_13 : WD (.selects yX0_fillBest.cls yX0_fillBest yX0_fillBest) := ⟨List.mem_of_getElem? (i := 13) (by decide +kernel), by decide +kernel⟩
theorem wd_14 : WD (.selects yX0_bestFrom.cls yX0_bestFrom yX0_bestFrom) := ⟨List.mem_of_getElem? (i := 14) (by decide +kernel), by decide +kernel⟩
theorem wd_15 : WD (.selects yX0_choose.cls yX0_choose yX0_choose) := ⟨List.mem_of_getElem? (i := 15) (by decide +kernel), by decide +kernel⟩
theorem wd_16 : WD (.selects yX5_readPart.cls yX5_readPart yX5_readPart) := ⟨List.mem_of_getElem? (i := 16) (by decide +kernel), by decide +kernel⟩
theorem wd_17 : WD (.selects yX5_readLink.cls yX5_readLink yX5_readLink) := ⟨List.mem_of_getElem? (i := 17) (by decide +kernel), by decide +kernel⟩
theorem wd_18 : WD (.selects yX5_rowOf.cls yX5_rowOf yX5_rowOf) := ⟨List.mem_of_getElem? (i := 18) (by decide +kernel), by decide +kernel⟩
theorem wd_19 : WD (.selects yX5_fits.cls yX5_fits yX5_fits) := ⟨List.mem_of_getElem? (i := 19) (by decide +kernel), by decide +kernel⟩
theorem wd_20 : WD (.selects yX5_countOn.cls yX5_countOn yX5_countOn) := ⟨List.mem_of_getElem? (i := 20) (by decide +kernel), by decide +kernel⟩
theorem wd_21 : WD (.selects yX5_isLinked.cls yX5_isLinked yX5_isLinked) := ⟨List.mem_of_getElem? (i := 21) (by decide +kernel), by decide +kernel⟩
theorem wd_22 : WD (.selects yX5_waysFrom.cls yX5_waysFrom yX5_waysFrom) := ⟨List.mem_of_getElem? (i := 22) (by decide +kernel), by decide +kernel⟩
theorem wd_23 : WD (.selects yX4_put.cls yX4_put yX4_put) := ⟨List.mem_of_getElem? (i := 23) (by decide +kernel), by decide +kernel⟩
theorem wd_24 : WD (.selects yX3_readNumber.cls yX3_readNumber yX3_readNumber) := ⟨List.mem_of_getElem? (i := 24) (by decide +kernel), by decide +kernel⟩
theorem wd_25 : WD (.selects yX8_addItems.cls yX8_addItems yX8_addItems) := ⟨List.mem_of_getElem? (i := 25) (by decide +kernel), by decide +kernel⟩
theorem wd_26 : WD (.selects yX9_begin.cls yX9_begin yX9_begin) := ⟨List.mem_of_getElem? (i := 26) (by decide +kernel), by decide +kernel⟩
theorem wd_27 : WD (.selects yX9_tiers.cls yX9_tiers yX9_tiers) := ⟨List.mem_of_getElem? (i := 27) (by decide +kernel), by decide +kernel⟩
theorem wd_28 : WD (.selects yX9_isTier.cls yX9_isTier yX9_isTier) := ⟨List.mem_of_getElem? (i := 28) (by decide +kernel), by decide +kernel⟩
theorem wd_29 : WD (.selects yX9_changes.cls yX9_changes yX9_changes) := ⟨List.mem_of_getElem? (i := 29) (by decide +kernel), by decide +kernel⟩
theorem wd_30 : WD (.selects yX9_keepState.cls yX9_keepState yX9_keepState) := ⟨List.mem_of_getElem? (i := 30) (by decide +kernel), by decide +kernel⟩
theorem wd_31 : WD (.selects yX9_change.cls yX9_change yX9_change) := ⟨List.mem_of_getElem? (i := 31) (by decide +kernel), by decide +kernel⟩
theorem wd_32 : WD (.selects yX9_annotator.cls yX9_annotator yX9_annotator) := ⟨List.mem_of_getElem? (i := 32) (by decide +kernel), by decide +kernel⟩
theorem wd_33 : WD (.selects yX9_many.cls yX9_many yX9_many) := ⟨List.mem_of_getElem? (i := 33) (by decide +kernel), by decide +kernel⟩
theorem wd_34 : WD (.selects yX9_row_.cls yX9_row_ yX9_row_) := ⟨List.mem_of_getElem? (i := 34) (by decide +kernel), by decide +kernel⟩
theorem wd_35 : WD (.selects yX9_framesOf.cls yX9_framesOf yX9_framesOf) := ⟨List.mem_of_getElem? (i := 35) (by decide +kernel), by decide +kernel⟩
theorem wd_36 : WD (.selects yX9_parent.cls yX9_parent yX9_parent) := ⟨List.mem_of_getElem? (i := 36) (by decide +kernel), by decide +kernel⟩
theorem wd_37 : WD (.selects yX9_differentLabels.cls yX9_differentLabels yX9_differentLabels) := ⟨List.mem_of_getElem? (i := 37) (by decide +kernel), by decide +kernel⟩
theorem wd_38 : WD (.selects yX9_label.cls yX9_label yX9_label) := ⟨List.mem_of_getElem? (i := 38) (by decide +kernel), by decide +kernel⟩
theorem wd_39 : WD (.selects yX9_at.cls yX9_at yX9_at) := ⟨List.mem_of_getElem? (i := 39) (by decide +kernel), by decide +kernel⟩
theorem wd_40 : WD (.selects yX9_beginText.cls yX9_beginText yX9_beginText) := ⟨List.mem_of_getElem? (i := 40) (by decide +kernel), by decide +kernel⟩
theorem wd_41 : WD (.selects yX9_kind.cls yX9_kind yX9_kind) := ⟨List.mem_of_getElem? (i := 41) (by decide +kernel), by decide +kernel⟩
theorem wd_42 : WD (.selects yX9_readLabel.cls yX9_readLabel yX9_readLabel) := ⟨List.mem_of_getElem? (i := 42) (by decide +kernel), by decide +kernel⟩
theorem wd_43 : WD (.selects yX9_here.cls yX9_here yX9_here) := ⟨List.mem_of_getElem? (i := 43) (by decide +kernel), by decide +kernel⟩
theorem wd_44 : WD (.selects yX9_endText.cls yX9_endText yX9_endText) := ⟨List.mem_of_getElem? (i := 44) (by decide +kernel), by decide +kernel⟩
theorem wd_45 : WD (.selects yX9_add.cls yX9_add yX9_add) := ⟨List.mem_of_getElem? (i := 45) (by decide +kernel), by decide +kernel⟩
theorem wd_46 : WD (.selects yX9_areRefused.cls yX9_areRefused yX9_areRefused) := ⟨List.mem_of_getElem? (i := 46) (by decide +kernel), by decide +kernel⟩
theorem wd_47 : WD (.selects yX9_isRefused.cls yX9_isRefused yX9_isRefused) := ⟨List.mem_of_getElem? (i := 47) (by decide +kernel), by decide +kernel⟩
theorem wd_48 : WD (.selects yX9_inTheWay.cls yX9_inTheWay yX9_inTheWay) := ⟨List.mem_of_getElem? (i := 48) (by decide +kernel), by decide +kernel⟩
theorem wd_49 : WD (.selects yX9_first.cls yX9_first yX9_first) := ⟨List.mem_of_getElem? (i := 49) (by decide +kernel), by decide +kernel⟩
theorem wd_50 : WD (.selects yX9_end.cls yX9_end yX9_end) := ⟨List.mem_of_getElem? (i := 50) (by decide +kernel), by decide +kernel⟩
theorem wd_51 : WD (.selects yX9_lacksHost.cls yX9_lacksHost yX9_lacksHost) := ⟨List.mem_of_getElem? (i := 51) (by decide +kernel), by decide +kernel⟩
theorem wd_52 : WD (.selects yX9_rule.cls yX9_rule yX9_rule) := ⟨List.mem_of_getElem? (i := 52) (by decide +kernel), by decide +kernel⟩
theorem wd_53 : WD (.selects yX9_hostOf.cls yX9_hostOf yX9_hostOf) := ⟨List.mem_of_getElem? (i := 53) (by decide +kernel), by decide +kernel⟩
theorem wd_54 : WD (.selects yX9_putIn.cls yX9_putIn yX9_putIn) := ⟨List.mem_of_getElem? (i := 54) (by decide +kernel), by decide +kernel⟩
theorem wd_55 : WD (.selects yX9_isSpan.cls yX9_isSpan yX9_isSpan) := ⟨List.mem_of_getElem? (i := 55) (by decide +kernel), by decide +kernel⟩
theorem wd_56 : WD (.selects yX9_takeOut.cls yX9_takeOut yX9_takeOut) := ⟨List.mem_of_getElem? (i := 56) (by decide +kernel), by decide +kernel⟩
theorem wd_57 : WD (.selects yX9_hostless.cls yX9_hostless yX9_hostless) := ⟨List.mem_of_getElem? (i := 57) (by decide +kernel), by decide +kernel⟩
theorem wd_58 : WD (.selects yX9_stays.cls yX9_stays yX9_stays) := ⟨List.mem_of_getElem? (i := 58) (by decide +kernel), by decide +kernel⟩
theorem wd_59 : WD (.selects yX9_hostlessTier.cls yX9_hostlessTier yX9_hostlessTier) := ⟨List.mem_of_getElem? (i := 59) (by decide +kernel), by decide +kernel⟩
theorem wd_60 : WD (.selects yX9_putBack.cls yX9_putBack yX9_putBack) := ⟨List.mem_of_getElem? (i := 60) (by decide +kernel), by decide +kernel⟩
theorem wd_61 : WD (.selects yX9_splitFull.cls yX9_splitFull yX9_splitFull) := ⟨List.mem_of_getElem? (i := 61) (by decide +kernel), by decide +kernel⟩
theorem wd_62 : WD (.selects yX9_isHosted.cls yX9_isHosted yX9_isHosted) := ⟨List.mem_of_getElem? (i := 62) (by decide +kernel), by decide +kernel⟩
theorem wd_63 : WD (.selects yX9_hosted.cls yX9_hosted yX9_hosted) := ⟨List.mem_of_getElem? (i := 63) (by decide +kernel), by decide +kernel⟩
theorem wd_64 : WD (.selects yX9_align.cls yX9_align yX9_align) := ⟨List.mem_of_getElem? (i := 64) (by decide +kernel), by decide +kernel⟩
theorem wd_65 : WD (.selects yX9_take.cls yX9_take yX9_take) := ⟨List.mem_of_getElem? (i := 65) (by decide +kernel), by decide +kernel⟩
theorem wd_66 : WD (.selects yX9_distance.cls yX9_distance yX9_distance) := ⟨List.mem_of_getElem? (i := 66) (by decide +kernel), by decide +kernel⟩
theorem wd_67 : WD (.selects yX9_isBestPair.cls yX9_isBestPair yX9_isBestPair) := ⟨List.mem_of_getElem? (i := 67) (by decide +kernel), by decide +kernel⟩
theorem wd_68 : WD (.selects yX9_isPatternWrong.cls yX9_isPatternWrong yX9_isPatternWrong) := ⟨List.mem_of_getElem? (i := 68) (by decide +kernel), by decide +kernel⟩
theorem wd_69 : WD (.selects yX9_readPart.cls yX9_readPart yX9_readPart) := ⟨List.mem_of_getElem? (i := 69) (by decide +kernel), by decide +kernel⟩
theorem wd_70 : WD (.selects yX9_readTierNumber.cls yX9_readTierNumber yX9_readTierNumber) := ⟨List.mem_of_getElem? (i := 70) (by decide +kernel), by decide +kernel⟩
theorem wd_71 : WD (.selects yX9_sign.cls yX9_sign yX9_sign) := ⟨List.mem_of_getElem? (i := 71) (by decide +kernel), by decide +kernel⟩
theorem wd_72 : WD (.selects yX9_match.cls yX9_match yX9_match) := ⟨List.mem_of_getElem? (i := 72) (by decide +kernel), by decide +kernel⟩
theorem wd_73 : WD (.selects yX9_isFitting.cls yX9_isFitting yX9_isFitting) := ⟨List.mem_of_getElem? (i := 73) (by decide +kernel), by decide +kernel⟩
theorem wd_74 : WD (.selects yX9_isLinked.cls yX9_isLinked yX9_isLinked) := ⟨List.mem_of_getElem? (i := 74) (by decide +kernel), by decide +kernel⟩
theorem wd_75 : WD (.selects yX9_mergeTier.cls yX9_mergeTier yX9_mergeTier) := ⟨List.mem_of_getElem? (i := 75) (by decide +kernel), by decide +kernel⟩
theorem wd_76 : WD (.selects yX9_mergeIn.cls yX9_mergeIn yX9_mergeIn) := ⟨List.mem_of_getElem? (i := 76) (by decide +kernel), by decide +kernel⟩
theorem wd_77 : WD (.selects yX9_put.cls yX9_put yX9_put) := ⟨List.mem_of_getElem? (i := 77) (by decide +kernel), by decide +kernel⟩
theorem wd_78 : WD (.selects yX9_compareFrames.cls yX9_compareFrames yX9_compareFrames) := ⟨List.mem_of_getElem? (i := 78) (by decide +kernel), by decide +kernel⟩
theorem wd_79 : WD (.selects yX9_layOut.cls yX9_layOut yX9_layOut) := ⟨List.mem_of_getElem? (i := 79) (by decide +kernel), by decide +kernel⟩
theorem wd_80 : WD (.selects yX9_products.cls yX9_products yX9_products) := ⟨List.mem_of_getElem? (i := 80) (by decide +kernel), by decide +kernel⟩
theorem wd_81 : WD (.selects yX9_labelledAs.cls yX9_labelledAs yX9_labelledAs) := ⟨List.mem_of_getElem? (i := 81) (by decide +kernel), by decide +kernel⟩
theorem wd_82 : WD (.selects yX9_readItem.cls yX9_readItem yX9_readItem) := ⟨List.mem_of_getElem? (i := 82) (by decide +kernel), by decide +kernel⟩
theorem wd_83 : WD (.selects yX9_number.cls yX9_number yX9_number) := ⟨List.mem_of_getElem? (i := 83) (by decide +kernel), by decide +kernel⟩
theorem wd_85 : WD (.initialized RX8) := ⟨List.mem_of_getElem? (i := 85) (by decide +kernel), by decide +kernel⟩
theorem wd_86 : WD (.initialized RX1) := ⟨List.mem_of_getElem? (i := 86) (by decide +kernel), by decide +kernel⟩
theorem wd_87 : WD (.initialized RX7) := ⟨List.mem_of_getElem? (i := 87) (by decide +kernel), by decide +kernel⟩
theorem wd_88 : WD (.initialized RX2) := ⟨List.mem_of_getElem? (i := 88) (by decide +kernel), by decide +kernel⟩
theorem wd_89 : WD (.initialized RX3) := ⟨List.mem_of_getElem? (i := 89) (by decide +kernel), by decide +kernel⟩
theorem wd_90 : WD (.initialized RX6) := ⟨List.mem_of_getElem? (i := 90) (by decide +kernel), by decide +kernel⟩
theorem wd_91 : WD (.initialized RX0) := ⟨List.mem_of_getElem? (i := 91) (by decide +kernel), by decide +kernel⟩
theorem wd_92 : WD (.initialized RX4) := ⟨List.mem_of_getElem? (i := 92) (by decide +kernel), by decide +kernel⟩
theorem wd_93 : WD (.initialized RX5) := ⟨List.mem_of_getElem? (i := 93) (by decide +kernel), by decide +kernel⟩
theorem wd_94 : WD (.initialized RX9) := ⟨List.mem_of_getElem? (i := 94) (by decide +kernel), by decide +kernel⟩
theorem wd_98 : WD (.initialized "java/lang/IndexOutOfBoundsException") := ⟨List.mem_of_getElem? (i := 98) (by decide +kernel), by decide +kernel⟩
theorem wd_101 : WD (.initialized "java/lang/IllegalArgumentException") := ⟨List.mem_of_getElem? (i := 101) (by decide +kernel), by decide +kernel⟩
theorem wd_102 : WD (.initialized "java/lang/IllegalStateException") := ⟨List.mem_of_getElem? (i := 102) (by decide +kernel), by decide +kernel⟩
theorem wd_103 : WD (.initialized "java/lang/System") := ⟨List.mem_of_getElem? (i := 103) (by decide +kernel), by decide +kernel⟩
theorem wd_104 : WD (.initialized "java/lang/Math") := ⟨List.mem_of_getElem? (i := 104) (by decide +kernel), by decide +kernel⟩
theorem wd_105 : WD (.initialized "java/lang/UnsupportedOperationException") := ⟨List.mem_of_getElem? (i := 105) (by decide +kernel), by decide +kernel⟩
theorem wd_106 : WD (.initialized "java/util/NoSuchElementException") := ⟨List.mem_of_getElem? (i := 106) (by decide +kernel), by decide +kernel⟩
theorem wd_107 : WD (.initialized "java/lang/ArithmeticException") := ⟨List.mem_of_getElem? (i := 107) (by decide +kernel), by decide +kernel⟩
theorem wd_111 : WD (.instanceMethod yX8_init) := ⟨List.mem_of_getElem? (i := 111) (by decide +kernel), by decide +kernel⟩
theorem wd_112 : WD (.code yX8_init cX8_init 1 none) := ⟨List.mem_of_getElem? (i := 112) (by decide +kernel), by decide +kernel⟩
theorem wd_119 : WD (.instanceMethod yX1_init) := ⟨List.mem_of_getElem? (i := 119) (by decide +kernel), by decide +kernel⟩
theorem wd_120 : WD (.code yX1_init cX1_init 2 none) := ⟨List.mem_of_getElem? (i := 120) (by decide +kernel), by decide +kernel⟩
theorem wd_126 : WD (.instanceMethod yX7_init) := ⟨List.mem_of_getElem? (i := 126) (by decide +kernel), by decide +kernel⟩
theorem wd_127 : WD (.code yX7_init cX7_init 1 none) := ⟨List.mem_of_getElem? (i := 127) (by decide +kernel), by decide +kernel⟩
theorem wd_129 : WD (.fieldLink RX7 9 "LessonTiers$Row" "firsts" "[I") := ⟨List.mem_of_getElem? (i := 129) (by decide +kernel), by decide +kernel⟩
theorem wd_130 : WD (.fieldLink RX7 15 "LessonTiers$Row" "ends" "[I") := ⟨List.mem_of_getElem? (i := 130) (by decide +kernel), by decide +kernel⟩
theorem wd_131 : WD (.fieldLink RX7 18 "LessonTiers$Row" "labels" "[J") := ⟨List.mem_of_getElem? (i := 131) (by decide +kernel), by decide +kernel⟩
theorem wd_132 : WD (.fieldLinkNest RX0 29 "LessonTiers$Row" "count" "I" "LessonTiers") := ⟨List.mem_of_getElem? (i := 132) (by decide +kernel), by decide +kernel⟩
theorem wd_133 : WD (.fieldLinkNest RX1 75 "LessonTiers$Row" "count" "I" "LessonTiers") := ⟨List.mem_of_getElem? (i := 133) (by decide +kernel), by decide +kernel⟩
theorem wd_134 : WD (.fieldLinkNest RX8 130 "LessonTiers$Row" "count" "I" "LessonTiers") := ⟨List.mem_of_getElem? (i := 134) (by decide +kernel), by decide +kernel⟩
theorem wd_135 : WD (.fieldLinkNest RX4 39 "LessonTiers$Row" "count" "I" "LessonTiers") := ⟨List.mem_of_getElem? (i := 135) (by decide +kernel), by decide +kernel⟩
theorem wd_136 : WD (.fieldLink RX7 29 "LessonTiers$Row" "count" "I") := ⟨List.mem_of_getElem? (i := 136) (by decide +kernel), by decide +kernel⟩
theorem wd_137 : WD (.fieldLinkNest RX5 99 "LessonTiers$Row" "count" "I" "LessonTiers") := ⟨List.mem_of_getElem? (i := 137) (by decide +kernel), by decide +kernel⟩
theorem wd_138 : WD (.laysFinal "LessonTiers$Row" "LessonTiers$Row" "firsts" "[I") := ⟨List.mem_of_getElem? (i := 138) (by decide +kernel), by decide +kernel⟩
theorem wd_140 : WD (.laysFinal "LessonTiers$Row" "LessonTiers$Row" "ends" "[I") := ⟨List.mem_of_getElem? (i := 140) (by decide +kernel), by decide +kernel⟩
theorem wd_142 : WD (.laysFinal "LessonTiers$Row" "LessonTiers$Row" "labels" "[J") := ⟨List.mem_of_getElem? (i := 142) (by decide +kernel), by decide +kernel⟩
theorem wd_144 : WD (.lays "LessonTiers$Row" "LessonTiers$Row" "count" "I") := ⟨List.mem_of_getElem? (i := 144) (by decide +kernel), by decide +kernel⟩
theorem wd_149 : WD (.fieldLink RX1 9 "LessonTiers$Book" "kinds" "[I") := ⟨List.mem_of_getElem? (i := 149) (by decide +kernel), by decide +kernel⟩
theorem wd_150 : WD (.fieldLink RX1 15 "LessonTiers$Book" "rules" "[I") := ⟨List.mem_of_getElem? (i := 150) (by decide +kernel), by decide +kernel⟩
theorem wd_151 : WD (.fieldLink RX1 18 "LessonTiers$Book" "parents" "[I") := ⟨List.mem_of_getElem? (i := 151) (by decide +kernel), by decide +kernel⟩
theorem wd_152 : WD (.fieldLink RX1 23 "LessonTiers$Book" "rows" "[LLessonTiers$Row;") := ⟨List.mem_of_getElem? (i := 152) (by decide +kernel), by decide +kernel⟩
theorem wd_153 : WD (.fieldLink RX1 28 "LessonTiers$Book" "noRow" "LLessonTiers$Row;") := ⟨List.mem_of_getElem? (i := 153) (by decide +kernel), by decide +kernel⟩
theorem wd_154 : WD (.fieldLink RX1 39 "LessonTiers$Book" "tiers" "I") := ⟨List.mem_of_getElem? (i := 154) (by decide +kernel), by decide +kernel⟩
theorem wd_155 : WD (.fieldLinkNest RX8 74 "LessonTiers$Book" "tiers" "I" "LessonTiers") := ⟨List.mem_of_getElem? (i := 155) (by decide +kernel), by decide +kernel⟩
theorem wd_156 : WD (.fieldLinkNest RX5 57 "LessonTiers$Book" "tiers" "I" "LessonTiers") := ⟨List.mem_of_getElem? (i := 156) (by decide +kernel), by decide +kernel⟩
theorem wd_157 : WD (.fieldLinkNest RX3 42 "LessonTiers$Book" "tiers" "I" "LessonTiers") := ⟨List.mem_of_getElem? (i := 157) (by decide +kernel), by decide +kernel⟩
theorem wd_158 : WD (.fieldLink RX1 42 "LessonTiers$Book" "annotator" "I") := ⟨List.mem_of_getElem? (i := 158) (by decide +kernel), by decide +kernel⟩
theorem wd_159 : WD (.fieldLinkNest RX8 107 "LessonTiers$Book" "annotator" "I" "LessonTiers") := ⟨List.mem_of_getElem? (i := 159) (by decide +kernel), by decide +kernel⟩
theorem wd_160 : WD (.fieldLink RX1 32 "LessonTiers$Book" "window" "I") := ⟨List.mem_of_getElem? (i := 160) (by decide +kernel), by decide +kernel⟩
theorem wd_161 : WD (.fieldLinkNest RX8 110 "LessonTiers$Book" "window" "I" "LessonTiers") := ⟨List.mem_of_getElem? (i := 161) (by decide +kernel), by decide +kernel⟩
theorem wd_162 : WD (.fieldLink RX1 36 "LessonTiers$Book" "gap" "I") := ⟨List.mem_of_getElem? (i := 162) (by decide +kernel), by decide +kernel⟩
theorem wd_163 : WD (.fieldLinkNest RX8 113 "LessonTiers$Book" "gap" "I" "LessonTiers") := ⟨List.mem_of_getElem? (i := 163) (by decide +kernel), by decide +kernel⟩
theorem wd_164 : WD (.fieldLinkNest RX5 116 "LessonTiers$Book" "gap" "I" "LessonTiers") := ⟨List.mem_of_getElem? (i := 164) (by decide +kernel), by decide +kernel⟩
theorem wd_165 : WD (.laysFinal "LessonTiers$Book" "LessonTiers$Book" "kinds" "[I") := ⟨List.mem_of_getElem? (i := 165) (by decide +kernel), by decide +kernel⟩
theorem wd_167 : WD (.laysFinal "LessonTiers$Book" "LessonTiers$Book" "rules" "[I") := ⟨List.mem_of_getElem? (i := 167) (by decide +kernel), by decide +kernel⟩
theorem wd_169 : WD (.laysFinal "LessonTiers$Book" "LessonTiers$Book" "parents" "[I") := ⟨List.mem_of_getElem? (i := 169) (by decide +kernel), by decide +kernel⟩
theorem wd_171 : WD (.laysFinal "LessonTiers$Book" "LessonTiers$Book" "rows" "[LLessonTiers$Row;") := ⟨List.mem_of_getElem? (i := 171) (by decide +kernel), by decide +kernel⟩
theorem wd_173 : WD (.laysFinal "LessonTiers$Book" "LessonTiers$Book" "noRow" "LLessonTiers$Row;") := ⟨List.mem_of_getElem? (i := 173) (by decide +kernel), by decide +kernel⟩
theorem wd_175 : WD (.lays "LessonTiers$Book" "LessonTiers$Book" "tiers" "I") := ⟨List.mem_of_getElem? (i := 175) (by decide +kernel), by decide +kernel⟩
theorem wd_177 : WD (.lays "LessonTiers$Book" "LessonTiers$Book" "annotator" "I") := ⟨List.mem_of_getElem? (i := 177) (by decide +kernel), by decide +kernel⟩
theorem wd_179 : WD (.lays "LessonTiers$Book" "LessonTiers$Book" "window" "I") := ⟨List.mem_of_getElem? (i := 179) (by decide +kernel), by decide +kernel⟩
theorem wd_181 : WD (.lays "LessonTiers$Book" "LessonTiers$Book" "gap" "I") := ⟨List.mem_of_getElem? (i := 181) (by decide +kernel), by decide +kernel⟩
theorem wd_187 : WD (.instanceMethod yX2_init) := ⟨List.mem_of_getElem? (i := 187) (by decide +kernel), by decide +kernel⟩
theorem wd_188 : WD (.code yX2_init cX2_init 2 none) := ⟨List.mem_of_getElem? (i := 188) (by decide +kernel), by decide +kernel⟩
theorem wd_193 : WD (.fieldLink RX2 11 "LessonTiers$History" "states" "[LLessonTiers$Book;") := ⟨List.mem_of_getElem? (i := 193) (by decide +kernel), by decide +kernel⟩
theorem wd_194 : WD (.fieldLink RX2 18 "LessonTiers$History" "next" "I") := ⟨List.mem_of_getElem? (i := 194) (by decide +kernel), by decide +kernel⟩
theorem wd_195 : WD (.fieldLink RX2 26 "LessonTiers$History" "count" "I") := ⟨List.mem_of_getElem? (i := 195) (by decide +kernel), by decide +kernel⟩
theorem wd_196 : WD (.fieldLinkNest RX8 155 "LessonTiers$History" "count" "I" "LessonTiers") := ⟨List.mem_of_getElem? (i := 196) (by decide +kernel), by decide +kernel⟩
theorem wd_197 : WD (.laysFinal "LessonTiers$History" "LessonTiers$History" "states" "[LLessonTiers$Book;") := ⟨List.mem_of_getElem? (i := 197) (by decide +kernel), by decide +kernel⟩
theorem wd_199 : WD (.lays "LessonTiers$History" "LessonTiers$History" "next" "I") := ⟨List.mem_of_getElem? (i := 199) (by decide +kernel), by decide +kernel⟩
theorem wd_201 : WD (.lays "LessonTiers$History" "LessonTiers$History" "count" "I") := ⟨List.mem_of_getElem? (i := 201) (by decide +kernel), by decide +kernel⟩
theorem wd_207 : WD (.instanceMethod yX3_init) := ⟨List.mem_of_getElem? (i := 207) (by decide +kernel), by decide +kernel⟩
theorem wd_208 : WD (.code yX3_init cX3_init 1 none) := ⟨List.mem_of_getElem? (i := 208) (by decide +kernel), by decide +kernel⟩
theorem wd_210 : WD (.fieldLink RX3 9 "LessonTiers$Input" "signs" "[C") := ⟨List.mem_of_getElem? (i := 210) (by decide +kernel), by decide +kernel⟩
theorem wd_211 : WD (.fieldLink RX3 15 "LessonTiers$Input" "length" "I") := ⟨List.mem_of_getElem? (i := 211) (by decide +kernel), by decide +kernel⟩
theorem wd_212 : WD (.fieldLinkNest RX8 152 "LessonTiers$Input" "length" "I" "LessonTiers") := ⟨List.mem_of_getElem? (i := 212) (by decide +kernel), by decide +kernel⟩
theorem wd_213 : WD (.fieldLink RX3 19 "LessonTiers$Input" "position" "I") := ⟨List.mem_of_getElem? (i := 213) (by decide +kernel), by decide +kernel⟩
theorem wd_214 : WD (.fieldLinkNest RX8 254 "LessonTiers$Input" "position" "I" "LessonTiers") := ⟨List.mem_of_getElem? (i := 214) (by decide +kernel), by decide +kernel⟩
theorem wd_215 : WD (.fieldLink RX3 51 "LessonTiers$Input" "itemTier" "I") := ⟨List.mem_of_getElem? (i := 215) (by decide +kernel), by decide +kernel⟩
theorem wd_216 : WD (.fieldLinkNest RX8 345 "LessonTiers$Input" "itemTier" "I" "LessonTiers") := ⟨List.mem_of_getElem? (i := 216) (by decide +kernel), by decide +kernel⟩
theorem wd_217 : WD (.fieldLink RX3 58 "LessonTiers$Input" "itemFirst" "I") := ⟨List.mem_of_getElem? (i := 217) (by decide +kernel), by decide +kernel⟩
theorem wd_218 : WD (.fieldLinkNest RX8 348 "LessonTiers$Input" "itemFirst" "I" "LessonTiers") := ⟨List.mem_of_getElem? (i := 218) (by decide +kernel), by decide +kernel⟩
theorem wd_219 : WD (.fieldLink RX3 61 "LessonTiers$Input" "itemEnd" "I") := ⟨List.mem_of_getElem? (i := 219) (by decide +kernel), by decide +kernel⟩
theorem wd_220 : WD (.fieldLinkNest RX8 351 "LessonTiers$Input" "itemEnd" "I" "LessonTiers") := ⟨List.mem_of_getElem? (i := 220) (by decide +kernel), by decide +kernel⟩
theorem wd_221 : WD (.fieldLink RX3 71 "LessonTiers$Input" "itemLabel" "J") := ⟨List.mem_of_getElem? (i := 221) (by decide +kernel), by decide +kernel⟩
theorem wd_222 : WD (.fieldLinkNest RX8 354 "LessonTiers$Input" "itemLabel" "J" "LessonTiers") := ⟨List.mem_of_getElem? (i := 222) (by decide +kernel), by decide +kernel⟩
theorem wd_223 : WD (.laysFinal "LessonTiers$Input" "LessonTiers$Input" "signs" "[C") := ⟨List.mem_of_getElem? (i := 223) (by decide +kernel), by decide +kernel⟩
theorem wd_225 : WD (.lays "LessonTiers$Input" "LessonTiers$Input" "length" "I") := ⟨List.mem_of_getElem? (i := 225) (by decide +kernel), by decide +kernel⟩
theorem wd_227 : WD (.lays "LessonTiers$Input" "LessonTiers$Input" "position" "I") := ⟨List.mem_of_getElem? (i := 227) (by decide +kernel), by decide +kernel⟩
theorem wd_229 : WD (.lays "LessonTiers$Input" "LessonTiers$Input" "itemTier" "I") := ⟨List.mem_of_getElem? (i := 229) (by decide +kernel), by decide +kernel⟩
theorem wd_231 : WD (.lays "LessonTiers$Input" "LessonTiers$Input" "itemFirst" "I") := ⟨List.mem_of_getElem? (i := 231) (by decide +kernel), by decide +kernel⟩
theorem wd_233 : WD (.lays "LessonTiers$Input" "LessonTiers$Input" "itemEnd" "I") := ⟨List.mem_of_getElem? (i := 233) (by decide +kernel), by decide +kernel⟩
theorem wd_235 : WD (.lays "LessonTiers$Input" "LessonTiers$Input" "itemLabel" "J") := ⟨List.mem_of_getElem? (i := 235) (by decide +kernel), by decide +kernel⟩
theorem wd_242 : WD (.instanceMethod yX6_init) := ⟨List.mem_of_getElem? (i := 242) (by decide +kernel), by decide +kernel⟩
theorem wd_243 : WD (.code yX6_init cX6_init 1 none) := ⟨List.mem_of_getElem? (i := 243) (by decide +kernel), by decide +kernel⟩
theorem wd_245 : WD (.fieldLink RX6 7 "LessonTiers$Refusal" "reason" "I") := ⟨List.mem_of_getElem? (i := 245) (by decide +kernel), by decide +kernel⟩
theorem wd_246 : WD (.fieldLinkNest RX8 231 "LessonTiers$Refusal" "reason" "I" "LessonTiers") := ⟨List.mem_of_getElem? (i := 246) (by decide +kernel), by decide +kernel⟩
theorem wd_247 : WD (.fieldLink RX6 13 "LessonTiers$Refusal" "number" "I") := ⟨List.mem_of_getElem? (i := 247) (by decide +kernel), by decide +kernel⟩
theorem wd_248 : WD (.fieldLinkNest RX8 234 "LessonTiers$Refusal" "number" "I" "LessonTiers") := ⟨List.mem_of_getElem? (i := 248) (by decide +kernel), by decide +kernel⟩
theorem wd_249 : WD (.lays "LessonTiers$Refusal" "LessonTiers$Refusal" "reason" "I") := ⟨List.mem_of_getElem? (i := 249) (by decide +kernel), by decide +kernel⟩
theorem wd_251 : WD (.lays "LessonTiers$Refusal" "LessonTiers$Refusal" "number" "I") := ⟨List.mem_of_getElem? (i := 251) (by decide +kernel), by decide +kernel⟩
theorem wd_257 : WD (.instanceMethod yX0_init) := ⟨List.mem_of_getElem? (i := 257) (by decide +kernel), by decide +kernel⟩
theorem wd_258 : WD (.code yX0_init cX0_init 1 none) := ⟨List.mem_of_getElem? (i := 258) (by decide +kernel), by decide +kernel⟩
theorem wd_260 : WD (.fieldLink RX0 9 "LessonTiers$Aligner" "best" "[I") := ⟨List.mem_of_getElem? (i := 260) (by decide +kernel), by decide +kernel⟩
theorem wd_261 : WD (.fieldLink RX0 15 "LessonTiers$Aligner" "partners" "[I") := ⟨List.mem_of_getElem? (i := 261) (by decide +kernel), by decide +kernel⟩
theorem wd_262 : WD (.fieldLink RX0 22 "LessonTiers$Aligner" "pairs" "I") := ⟨List.mem_of_getElem? (i := 262) (by decide +kernel), by decide +kernel⟩
theorem wd_263 : WD (.fieldLinkNest RX8 244 "LessonTiers$Aligner" "pairs" "I" "LessonTiers") := ⟨List.mem_of_getElem? (i := 263) (by decide +kernel), by decide +kernel⟩
theorem wd_264 : WD (.fieldLink RX0 26 "LessonTiers$Aligner" "distances" "I") := ⟨List.mem_of_getElem? (i := 264) (by decide +kernel), by decide +kernel⟩
theorem wd_265 : WD (.fieldLinkNest RX8 247 "LessonTiers$Aligner" "distances" "I" "LessonTiers") := ⟨List.mem_of_getElem? (i := 265) (by decide +kernel), by decide +kernel⟩
theorem wd_266 : WD (.laysFinal "LessonTiers$Aligner" "LessonTiers$Aligner" "best" "[I") := ⟨List.mem_of_getElem? (i := 266) (by decide +kernel), by decide +kernel⟩
theorem wd_268 : WD (.laysFinal "LessonTiers$Aligner" "LessonTiers$Aligner" "partners" "[I") := ⟨List.mem_of_getElem? (i := 268) (by decide +kernel), by decide +kernel⟩
theorem wd_270 : WD (.lays "LessonTiers$Aligner" "LessonTiers$Aligner" "pairs" "I") := ⟨List.mem_of_getElem? (i := 270) (by decide +kernel), by decide +kernel⟩
theorem wd_272 : WD (.lays "LessonTiers$Aligner" "LessonTiers$Aligner" "distances" "I") := ⟨List.mem_of_getElem? (i := 272) (by decide +kernel), by decide +kernel⟩
theorem wd_278 : WD (.instanceMethod yX4_init) := ⟨List.mem_of_getElem? (i := 278) (by decide +kernel), by decide +kernel⟩
theorem wd_279 : WD (.code yX4_init cX4_init 1 none) := ⟨List.mem_of_getElem? (i := 279) (by decide +kernel), by decide +kernel⟩
theorem wd_281 : WD (.fieldLink RX4 11 "LessonTiers$Merger" "firsts" "[I") := ⟨List.mem_of_getElem? (i := 281) (by decide +kernel), by decide +kernel⟩
theorem wd_282 : WD (.fieldLink RX4 15 "LessonTiers$Merger" "ends" "[I") := ⟨List.mem_of_getElem? (i := 282) (by decide +kernel), by decide +kernel⟩
theorem wd_283 : WD (.fieldLink RX4 18 "LessonTiers$Merger" "sources" "[I") := ⟨List.mem_of_getElem? (i := 283) (by decide +kernel), by decide +kernel⟩
theorem wd_284 : WD (.fieldLink RX4 21 "LessonTiers$Merger" "labels" "[J") := ⟨List.mem_of_getElem? (i := 284) (by decide +kernel), by decide +kernel⟩
theorem wd_285 : WD (.fieldLink RX4 25 "LessonTiers$Merger" "count" "I") := ⟨List.mem_of_getElem? (i := 285) (by decide +kernel), by decide +kernel⟩
theorem wd_286 : WD (.fieldLinkNest RX8 271 "LessonTiers$Merger" "count" "I" "LessonTiers") := ⟨List.mem_of_getElem? (i := 286) (by decide +kernel), by decide +kernel⟩
theorem wd_287 : WD (.fieldLink RX4 33 "LessonTiers$Merger" "conflicts" "I") := ⟨List.mem_of_getElem? (i := 287) (by decide +kernel), by decide +kernel⟩
theorem wd_288 : WD (.fieldLinkNest RX8 272 "LessonTiers$Merger" "conflicts" "I" "LessonTiers") := ⟨List.mem_of_getElem? (i := 288) (by decide +kernel), by decide +kernel⟩
theorem wd_289 : WD (.fieldLink RX4 36 "LessonTiers$Merger" "dropped" "I") := ⟨List.mem_of_getElem? (i := 289) (by decide +kernel), by decide +kernel⟩
theorem wd_290 : WD (.fieldLinkNest RX8 275 "LessonTiers$Merger" "dropped" "I" "LessonTiers") := ⟨List.mem_of_getElem? (i := 290) (by decide +kernel), by decide +kernel⟩
theorem wd_291 : WD (.laysFinal "LessonTiers$Merger" "LessonTiers$Merger" "firsts" "[I") := ⟨List.mem_of_getElem? (i := 291) (by decide +kernel), by decide +kernel⟩
theorem wd_293 : WD (.laysFinal "LessonTiers$Merger" "LessonTiers$Merger" "ends" "[I") := ⟨List.mem_of_getElem? (i := 293) (by decide +kernel), by decide +kernel⟩
theorem wd_295 : WD (.laysFinal "LessonTiers$Merger" "LessonTiers$Merger" "sources" "[I") := ⟨List.mem_of_getElem? (i := 295) (by decide +kernel), by decide +kernel⟩
theorem wd_297 : WD (.laysFinal "LessonTiers$Merger" "LessonTiers$Merger" "labels" "[J") := ⟨List.mem_of_getElem? (i := 297) (by decide +kernel), by decide +kernel⟩
theorem wd_299 : WD (.lays "LessonTiers$Merger" "LessonTiers$Merger" "count" "I") := ⟨List.mem_of_getElem? (i := 299) (by decide +kernel), by decide +kernel⟩
theorem wd_301 : WD (.lays "LessonTiers$Merger" "LessonTiers$Merger" "conflicts" "I") := ⟨List.mem_of_getElem? (i := 301) (by decide +kernel), by decide +kernel⟩
theorem wd_303 : WD (.lays "LessonTiers$Merger" "LessonTiers$Merger" "dropped" "I") := ⟨List.mem_of_getElem? (i := 303) (by decide +kernel), by decide +kernel⟩
theorem wd_309 : WD (.instanceMethod yX5_init) := ⟨List.mem_of_getElem? (i := 309) (by decide +kernel), by decide +kernel⟩
theorem wd_310 : WD (.code yX5_init cX5_init 1 none) := ⟨List.mem_of_getElem? (i := 310) (by decide +kernel), by decide +kernel⟩
theorem wd_314 : WD (.fieldLink RX5 9 "LessonTiers$Pattern" "tiers" "[I") := ⟨List.mem_of_getElem? (i := 314) (by decide +kernel), by decide +kernel⟩
theorem wd_315 : WD (.fieldLink RX5 15 "LessonTiers$Pattern" "kinds" "[I") := ⟨List.mem_of_getElem? (i := 315) (by decide +kernel), by decide +kernel⟩
theorem wd_316 : WD (.fieldLink RX5 18 "LessonTiers$Pattern" "labels" "[J") := ⟨List.mem_of_getElem? (i := 316) (by decide +kernel), by decide +kernel⟩
theorem wd_317 : WD (.fieldLink RX5 22 "LessonTiers$Pattern" "isMeeting" "[Z") := ⟨List.mem_of_getElem? (i := 317) (by decide +kernel), by decide +kernel⟩
theorem wd_318 : WD (.fieldLink RX5 26 "LessonTiers$Pattern" "ways" "[I") := ⟨List.mem_of_getElem? (i := 318) (by decide +kernel), by decide +kernel⟩
theorem wd_319 : WD (.fieldLink RX5 32 "LessonTiers$Pattern" "noRow" "LLessonTiers$Row;") := ⟨List.mem_of_getElem? (i := 319) (by decide +kernel), by decide +kernel⟩
theorem wd_320 : WD (.fieldLink RX5 41 "LessonTiers$Pattern" "parts" "I") := ⟨List.mem_of_getElem? (i := 320) (by decide +kernel), by decide +kernel⟩
theorem wd_321 : WD (.fieldLinkNest RX8 83 "LessonTiers$Pattern" "parts" "I" "LessonTiers") := ⟨List.mem_of_getElem? (i := 321) (by decide +kernel), by decide +kernel⟩
theorem wd_322 : WD (.laysFinal "LessonTiers$Pattern" "LessonTiers$Pattern" "tiers" "[I") := ⟨List.mem_of_getElem? (i := 322) (by decide +kernel), by decide +kernel⟩
theorem wd_324 : WD (.laysFinal "LessonTiers$Pattern" "LessonTiers$Pattern" "kinds" "[I") := ⟨List.mem_of_getElem? (i := 324) (by decide +kernel), by decide +kernel⟩
theorem wd_326 : WD (.laysFinal "LessonTiers$Pattern" "LessonTiers$Pattern" "labels" "[J") := ⟨List.mem_of_getElem? (i := 326) (by decide +kernel), by decide +kernel⟩
theorem wd_328 : WD (.laysFinal "LessonTiers$Pattern" "LessonTiers$Pattern" "isMeeting" "[Z") := ⟨List.mem_of_getElem? (i := 328) (by decide +kernel), by decide +kernel⟩
theorem wd_330 : WD (.laysFinal "LessonTiers$Pattern" "LessonTiers$Pattern" "ways" "[I") := ⟨List.mem_of_getElem? (i := 330) (by decide +kernel), by decide +kernel⟩
theorem wd_332 : WD (.laysFinal "LessonTiers$Pattern" "LessonTiers$Pattern" "noRow" "LLessonTiers$Row;") := ⟨List.mem_of_getElem? (i := 332) (by decide +kernel), by decide +kernel⟩
theorem wd_334 : WD (.lays "LessonTiers$Pattern" "LessonTiers$Pattern" "parts" "I") := ⟨List.mem_of_getElem? (i := 334) (by decide +kernel), by decide +kernel⟩
theorem wd_338 : WD (.fieldLink RX8 10 "LessonTiers" "now" "LLessonTiers$Book;") := ⟨List.mem_of_getElem? (i := 338) (by decide +kernel), by decide +kernel⟩
theorem wd_339 : WD (.fieldLink RX8 16 "LessonTiers" "draft" "LLessonTiers$Book;") := ⟨List.mem_of_getElem? (i := 339) (by decide +kernel), by decide +kernel⟩
theorem wd_340 : WD (.fieldLink RX8 19 "LessonTiers" "saved" "LLessonTiers$Book;") := ⟨List.mem_of_getElem? (i := 340) (by decide +kernel), by decide +kernel⟩
theorem wd_341 : WD (.fieldLink RX8 25 "LessonTiers" "history" "LLessonTiers$History;") := ⟨List.mem_of_getElem? (i := 341) (by decide +kernel), by decide +kernel⟩
theorem wd_342 : WD (.fieldLink RX8 32 "LessonTiers" "input" "LLessonTiers$Input;") := ⟨List.mem_of_getElem? (i := 342) (by decide +kernel), by decide +kernel⟩
theorem wd_343 : WD (.fieldLink RX8 39 "LessonTiers" "refusal" "LLessonTiers$Refusal;") := ⟨List.mem_of_getElem? (i := 343) (by decide +kernel), by decide +kernel⟩
theorem wd_344 : WD (.fieldLink RX8 46 "LessonTiers" "aligner" "LLessonTiers$Aligner;") := ⟨List.mem_of_getElem? (i := 344) (by decide +kernel), by decide +kernel⟩
theorem wd_345 : WD (.fieldLink RX8 53 "LessonTiers" "merger" "LLessonTiers$Merger;") := ⟨List.mem_of_getElem? (i := 345) (by decide +kernel), by decide +kernel⟩
theorem wd_346 : WD (.fieldLink RX8 60 "LessonTiers" "pattern" "LLessonTiers$Pattern;") := ⟨List.mem_of_getElem? (i := 346) (by decide +kernel), by decide +kernel⟩
theorem wd_347 : WD (.fieldLink RX8 64 "LessonTiers" "nextPattern" "LLessonTiers$Pattern;") := ⟨List.mem_of_getElem? (i := 347) (by decide +kernel), by decide +kernel⟩
theorem wd_348 : WD (.fieldLink RX8 328 "LessonTiers" "hasSnapshot" "Z") := ⟨List.mem_of_getElem? (i := 348) (by decide +kernel), by decide +kernel⟩
theorem wd_349 : WD (.fieldLink RX8 67 "LessonTiers" "malformedAt" "I") := ⟨List.mem_of_getElem? (i := 349) (by decide +kernel), by decide +kernel⟩
theorem wd_350 : WD (.fieldLink RX8 71 "LessonTiers" "refusedAt" "I") := ⟨List.mem_of_getElem? (i := 350) (by decide +kernel), by decide +kernel⟩
theorem wd_351 : WD (.laysFinal "LessonTiers" "LessonTiers" "now" "LLessonTiers$Book;") := ⟨List.mem_of_getElem? (i := 351) (by decide +kernel), by decide +kernel⟩
theorem wd_353 : WD (.laysFinal "LessonTiers" "LessonTiers" "draft" "LLessonTiers$Book;") := ⟨List.mem_of_getElem? (i := 353) (by decide +kernel), by decide +kernel⟩
theorem wd_355 : WD (.laysFinal "LessonTiers" "LessonTiers" "saved" "LLessonTiers$Book;") := ⟨List.mem_of_getElem? (i := 355) (by decide +kernel), by decide +kernel⟩
theorem wd_357 : WD (.laysFinal "LessonTiers" "LessonTiers" "history" "LLessonTiers$History;") := ⟨List.mem_of_getElem? (i := 357) (by decide +kernel), by decide +kernel⟩
theorem wd_359 : WD (.laysFinal "LessonTiers" "LessonTiers" "input" "LLessonTiers$Input;") := ⟨List.mem_of_getElem? (i := 359) (by decide +kernel), by decide +kernel⟩
theorem wd_361 : WD (.laysFinal "LessonTiers" "LessonTiers" "refusal" "LLessonTiers$Refusal;") := ⟨List.mem_of_getElem? (i := 361) (by decide +kernel), by decide +kernel⟩
theorem wd_363 : WD (.laysFinal "LessonTiers" "LessonTiers" "aligner" "LLessonTiers$Aligner;") := ⟨List.mem_of_getElem? (i := 363) (by decide +kernel), by decide +kernel⟩
theorem wd_365 : WD (.laysFinal "LessonTiers" "LessonTiers" "merger" "LLessonTiers$Merger;") := ⟨List.mem_of_getElem? (i := 365) (by decide +kernel), by decide +kernel⟩
theorem wd_367 : WD (.lays "LessonTiers" "LessonTiers" "pattern" "LLessonTiers$Pattern;") := ⟨List.mem_of_getElem? (i := 367) (by decide +kernel), by decide +kernel⟩
theorem wd_369 : WD (.lays "LessonTiers" "LessonTiers" "nextPattern" "LLessonTiers$Pattern;") := ⟨List.mem_of_getElem? (i := 369) (by decide +kernel), by decide +kernel⟩
theorem wd_371 : WD (.lays "LessonTiers" "LessonTiers" "hasSnapshot" "Z") := ⟨List.mem_of_getElem? (i := 371) (by decide +kernel), by decide +kernel⟩
theorem wd_373 : WD (.lays "LessonTiers" "LessonTiers" "malformedAt" "I") := ⟨List.mem_of_getElem? (i := 373) (by decide +kernel), by decide +kernel⟩
theorem wd_375 : WD (.lays "LessonTiers" "LessonTiers" "refusedAt" "I") := ⟨List.mem_of_getElem? (i := 375) (by decide +kernel), by decide +kernel⟩
theorem wd_379 : WD (.instanceMethod yX8_clear) := ⟨List.mem_of_getElem? (i := 379) (by decide +kernel), by decide +kernel⟩
theorem wd_380 : WD (.selects yX8_clear.cls yX8_clear yX8_clear) := ⟨List.mem_of_getElem? (i := 380) (by decide +kernel), by decide +kernel⟩
theorem wd_381 : WD (.code yX8_clear cX8_clear 2 (some .int)) := ⟨List.mem_of_getElem? (i := 381) (by decide +kernel), by decide +kernel⟩
theorem wd_382 : WD (.methodLink RX8 77 yX1_reset) := ⟨List.mem_of_getElem? (i := 382) (by decide +kernel), by decide +kernel⟩
theorem wd_383 : WD (.instanceMethod yX1_reset) := ⟨List.mem_of_getElem? (i := 383) (by decide +kernel), by decide +kernel⟩
theorem wd_384 : WD (.selects yX1_reset.cls yX1_reset yX1_reset) := ⟨List.mem_of_getElem? (i := 384) (by decide +kernel), by decide +kernel⟩
theorem wd_385 : WD (.code yX1_reset cX1_reset 1 none) := ⟨List.mem_of_getElem? (i := 385) (by decide +kernel), by decide +kernel⟩
theorem wd_386 : WD (.methodLink RX8 80 yX2_forget) := ⟨List.mem_of_getElem? (i := 386) (by decide +kernel), by decide +kernel⟩
theorem wd_387 : WD (.instanceMethod yX2_forget) := ⟨List.mem_of_getElem? (i := 387) (by decide +kernel), by decide +kernel⟩
theorem wd_388 : WD (.selects yX2_forget.cls yX2_forget yX2_forget) := ⟨List.mem_of_getElem? (i := 388) (by decide +kernel), by decide +kernel⟩
theorem wd_389 : WD (.code yX2_forget cX2_forget 1 none) := ⟨List.mem_of_getElem? (i := 389) (by decide +kernel), by decide +kernel⟩
theorem wd_391 : WD (.instanceMethod yX8_isConsistent) := ⟨List.mem_of_getElem? (i := 391) (by decide +kernel), by decide +kernel⟩
theorem wd_392 : WD (.selects yX8_isConsistent.cls yX8_isConsistent yX8_isConsistent) := ⟨List.mem_of_getElem? (i := 392) (by decide +kernel), by decide +kernel⟩
theorem wd_393 : WD (.code yX8_isConsistent cX8_isConsistent 4 (some .boolean)) := ⟨List.mem_of_getElem? (i := 393) (by decide +kernel), by decide +kernel⟩
theorem wd_394 : WD (.methodLink RX8 139 yX1_row) := ⟨List.mem_of_getElem? (i := 394) (by decide +kernel), by decide +kernel⟩
theorem wd_395 : WD (.instanceMethod yX1_row) := ⟨List.mem_of_getElem? (i := 395) (by decide +kernel), by decide +kernel⟩
theorem wd_396 : WD (.selects yX1_row.cls yX1_row yX1_row) := ⟨List.mem_of_getElem? (i := 396) (by decide +kernel), by decide +kernel⟩
theorem wd_397 : WD (.code yX1_row cX1_row 5 (some (.object "LessonTiers$Row"))) := ⟨List.mem_of_getElem? (i := 397) (by decide +kernel), by decide +kernel⟩
theorem wd_398 : WD (.methodLink RX8 309 yX7_isInOrder) := ⟨List.mem_of_getElem? (i := 398) (by decide +kernel), by decide +kernel⟩
theorem wd_399 : WD (.instanceMethod yX7_isInOrder) := ⟨List.mem_of_getElem? (i := 399) (by decide +kernel), by decide +kernel⟩
theorem wd_400 : WD (.selects yX7_isInOrder.cls yX7_isInOrder yX7_isInOrder) := ⟨List.mem_of_getElem? (i := 400) (by decide +kernel), by decide +kernel⟩
theorem wd_401 : WD (.code yX7_isInOrder cX7_isInOrder 3 (some .boolean)) := ⟨List.mem_of_getElem? (i := 401) (by decide +kernel), by decide +kernel⟩
theorem wd_402 : WD (.methodLink RX7 26 yX7_first) := ⟨List.mem_of_getElem? (i := 402) (by decide +kernel), by decide +kernel⟩
theorem wd_403 : WD (.instanceMethod yX7_first) := ⟨List.mem_of_getElem? (i := 403) (by decide +kernel), by decide +kernel⟩
theorem wd_404 : WD (.selects yX7_first.cls yX7_first yX7_first) := ⟨List.mem_of_getElem? (i := 404) (by decide +kernel), by decide +kernel⟩
theorem wd_405 : WD (.code yX7_first cX7_first 2 (some .int)) := ⟨List.mem_of_getElem? (i := 405) (by decide +kernel), by decide +kernel⟩
theorem wd_406 : WD (.methodLink RX7 22 yX7_end) := ⟨List.mem_of_getElem? (i := 406) (by decide +kernel), by decide +kernel⟩
theorem wd_407 : WD (.instanceMethod yX7_end) := ⟨List.mem_of_getElem? (i := 407) (by decide +kernel), by decide +kernel⟩
theorem wd_408 : WD (.selects yX7_end.cls yX7_end yX7_end) := ⟨List.mem_of_getElem? (i := 408) (by decide +kernel), by decide +kernel⟩
theorem wd_409 : WD (.code yX7_end cX7_end 2 (some .int)) := ⟨List.mem_of_getElem? (i := 409) (by decide +kernel), by decide +kernel⟩
theorem wd_410 : WD (.methodLink RX8 313 yX7_coveredFrames) := ⟨List.mem_of_getElem? (i := 410) (by decide +kernel), by decide +kernel⟩
theorem wd_411 : WD (.instanceMethod yX7_coveredFrames) := ⟨List.mem_of_getElem? (i := 411) (by decide +kernel), by decide +kernel⟩
theorem wd_412 : WD (.selects yX7_coveredFrames.cls yX7_coveredFrames yX7_coveredFrames) := ⟨List.mem_of_getElem? (i := 412) (by decide +kernel), by decide +kernel⟩
theorem wd_413 : WD (.code yX7_coveredFrames cX7_coveredFrames 4 (some .int)) := ⟨List.mem_of_getElem? (i := 413) (by decide +kernel), by decide +kernel⟩
theorem wd_414 : WD (.methodLink RX7 62 Lib.Math.max.name) := ⟨List.mem_of_getElem? (i := 414) (by decide +kernel), by decide +kernel⟩
theorem wd_415 : WD (.static Lib.Math.max.name) := ⟨List.mem_of_getElem? (i := 415) (by decide +kernel), by decide +kernel⟩
theorem wd_416 : WD (.code Lib.Math.max.name Lib.Math.max.code 2 (some .int)) := ⟨List.mem_of_getElem? (i := 416) (by decide +kernel), by decide +kernel⟩
theorem wd_417 : WD (.methodLink RX8 135 yX7_frameSum) := ⟨List.mem_of_getElem? (i := 417) (by decide +kernel), by decide +kernel⟩
theorem wd_418 : WD (.instanceMethod yX7_frameSum) := ⟨List.mem_of_getElem? (i := 418) (by decide +kernel), by decide +kernel⟩
theorem wd_419 : WD (.selects yX7_frameSum.cls yX7_frameSum yX7_frameSum) := ⟨List.mem_of_getElem? (i := 419) (by decide +kernel), by decide +kernel⟩
theorem wd_420 : WD (.code yX7_frameSum cX7_frameSum 3 (some .int)) := ⟨List.mem_of_getElem? (i := 420) (by decide +kernel), by decide +kernel⟩
theorem wd_421 : WD (.methodLink RX7 55 yX7_length) := ⟨List.mem_of_getElem? (i := 421) (by decide +kernel), by decide +kernel⟩
theorem wd_422 : WD (.instanceMethod yX7_length) := ⟨List.mem_of_getElem? (i := 422) (by decide +kernel), by decide +kernel⟩
theorem wd_423 : WD (.selects yX7_length.cls yX7_length yX7_length) := ⟨List.mem_of_getElem? (i := 423) (by decide +kernel), by decide +kernel⟩
theorem wd_424 : WD (.code yX7_length cX7_length 2 (some .int)) := ⟨List.mem_of_getElem? (i := 424) (by decide +kernel), by decide +kernel⟩
theorem wd_425 : WD (.methodLink RX8 316 yX1_hasOrphan) := ⟨List.mem_of_getElem? (i := 425) (by decide +kernel), by decide +kernel⟩
theorem wd_426 : WD (.instanceMethod yX1_hasOrphan) := ⟨List.mem_of_getElem? (i := 426) (by decide +kernel), by decide +kernel⟩
theorem wd_427 : WD (.selects yX1_hasOrphan.cls yX1_hasOrphan yX1_hasOrphan) := ⟨List.mem_of_getElem? (i := 427) (by decide +kernel), by decide +kernel⟩
theorem wd_428 : WD (.code yX1_hasOrphan cX1_hasOrphan 5 (some .boolean)) := ⟨List.mem_of_getElem? (i := 428) (by decide +kernel), by decide +kernel⟩
theorem wd_429 : WD (.methodLink RX1 59 yX1_row) := ⟨List.mem_of_getElem? (i := 429) (by decide +kernel), by decide +kernel⟩
theorem wd_430 : WD (.methodLink RX1 86 yX7_first) := ⟨List.mem_of_getElem? (i := 430) (by decide +kernel), by decide +kernel⟩
theorem wd_431 : WD (.methodLink RX1 89 yX7_end) := ⟨List.mem_of_getElem? (i := 431) (by decide +kernel), by decide +kernel⟩
theorem wd_432 : WD (.methodLink RX1 92 yX1_lacksHost) := ⟨List.mem_of_getElem? (i := 432) (by decide +kernel), by decide +kernel⟩
theorem wd_434 : WD (.instanceMethod yX1_lacksHost) := ⟨List.mem_of_getElem? (i := 434) (by decide +kernel), by decide +kernel⟩
theorem wd_435 : WD (.code yX1_lacksHost cX1_lacksHost 5 (some .boolean)) := ⟨List.mem_of_getElem? (i := 435) (by decide +kernel), by decide +kernel⟩
theorem wd_436 : WD (.methodLink RX1 49 yX1_ruleOf) := ⟨List.mem_of_getElem? (i := 436) (by decide +kernel), by decide +kernel⟩
theorem wd_437 : WD (.instanceMethod yX1_ruleOf) := ⟨List.mem_of_getElem? (i := 437) (by decide +kernel), by decide +kernel⟩
theorem wd_438 : WD (.selects yX1_ruleOf.cls yX1_ruleOf yX1_ruleOf) := ⟨List.mem_of_getElem? (i := 438) (by decide +kernel), by decide +kernel⟩
theorem wd_439 : WD (.code yX1_ruleOf cX1_ruleOf 2 (some .int)) := ⟨List.mem_of_getElem? (i := 439) (by decide +kernel), by decide +kernel⟩
theorem wd_440 : WD (.methodLink RX1 82 yX1_hostOf) := ⟨List.mem_of_getElem? (i := 440) (by decide +kernel), by decide +kernel⟩
theorem wd_441 : WD (.instanceMethod yX1_hostOf) := ⟨List.mem_of_getElem? (i := 441) (by decide +kernel), by decide +kernel⟩
theorem wd_442 : WD (.selects yX1_hostOf.cls yX1_hostOf yX1_hostOf) := ⟨List.mem_of_getElem? (i := 442) (by decide +kernel), by decide +kernel⟩
theorem wd_443 : WD (.code yX1_hostOf cX1_hostOf 5 (some .int)) := ⟨List.mem_of_getElem? (i := 443) (by decide +kernel), by decide +kernel⟩
theorem wd_444 : WD (.methodLink RX1 52 yX1_parentOf) := ⟨List.mem_of_getElem? (i := 444) (by decide +kernel), by decide +kernel⟩
theorem wd_445 : WD (.instanceMethod yX1_parentOf) := ⟨List.mem_of_getElem? (i := 445) (by decide +kernel), by decide +kernel⟩
theorem wd_446 : WD (.selects yX1_parentOf.cls yX1_parentOf yX1_parentOf) := ⟨List.mem_of_getElem? (i := 446) (by decide +kernel), by decide +kernel⟩
theorem wd_447 : WD (.code yX1_parentOf cX1_parentOf 2 (some .int)) := ⟨List.mem_of_getElem? (i := 447) (by decide +kernel), by decide +kernel⟩
theorem wd_448 : WD (.methodLink RX1 78 yX7_host) := ⟨List.mem_of_getElem? (i := 448) (by decide +kernel), by decide +kernel⟩
theorem wd_449 : WD (.instanceMethod yX7_host) := ⟨List.mem_of_getElem? (i := 449) (by decide +kernel), by decide +kernel⟩
theorem wd_450 : WD (.selects yX7_host.cls yX7_host yX7_host) := ⟨List.mem_of_getElem? (i := 450) (by decide +kernel), by decide +kernel⟩
theorem wd_451 : WD (.code yX7_host cX7_host 7 (some .int)) := ⟨List.mem_of_getElem? (i := 451) (by decide +kernel), by decide +kernel⟩
theorem wd_453 : WD (.instanceMethod yX8_snapshot) := ⟨List.mem_of_getElem? (i := 453) (by decide +kernel), by decide +kernel⟩
theorem wd_454 : WD (.selects yX8_snapshot.cls yX8_snapshot yX8_snapshot) := ⟨List.mem_of_getElem? (i := 454) (by decide +kernel), by decide +kernel⟩
theorem wd_455 : WD (.code yX8_snapshot cX8_snapshot 1 (some .int)) := ⟨List.mem_of_getElem? (i := 455) (by decide +kernel), by decide +kernel⟩
theorem wd_456 : WD (.methodLink RX8 164 yX1_copyFrom) := ⟨List.mem_of_getElem? (i := 456) (by decide +kernel), by decide +kernel⟩
theorem wd_457 : WD (.instanceMethod yX1_copyFrom) := ⟨List.mem_of_getElem? (i := 457) (by decide +kernel), by decide +kernel⟩
theorem wd_458 : WD (.selects yX1_copyFrom.cls yX1_copyFrom yX1_copyFrom) := ⟨List.mem_of_getElem? (i := 458) (by decide +kernel), by decide +kernel⟩
theorem wd_459 : WD (.code yX1_copyFrom cX1_copyFrom 3 none) := ⟨List.mem_of_getElem? (i := 459) (by decide +kernel), by decide +kernel⟩
theorem wd_460 : WD (.methodLink RX1 45 yX1_kindOf) := ⟨List.mem_of_getElem? (i := 460) (by decide +kernel), by decide +kernel⟩
theorem wd_461 : WD (.instanceMethod yX1_kindOf) := ⟨List.mem_of_getElem? (i := 461) (by decide +kernel), by decide +kernel⟩
theorem wd_462 : WD (.selects yX1_kindOf.cls yX1_kindOf yX1_kindOf) := ⟨List.mem_of_getElem? (i := 462) (by decide +kernel), by decide +kernel⟩
theorem wd_463 : WD (.code yX1_kindOf cX1_kindOf 2 (some .int)) := ⟨List.mem_of_getElem? (i := 463) (by decide +kernel), by decide +kernel⟩
theorem wd_464 : WD (.methodLink RX1 55 yX1_setTier) := ⟨List.mem_of_getElem? (i := 464) (by decide +kernel), by decide +kernel⟩
theorem wd_466 : WD (.instanceMethod yX1_setTier) := ⟨List.mem_of_getElem? (i := 466) (by decide +kernel), by decide +kernel⟩
theorem wd_467 : WD (.code yX1_setTier cX1_setTier 5 none) := ⟨List.mem_of_getElem? (i := 467) (by decide +kernel), by decide +kernel⟩
theorem wd_468 : WD (.methodLink RX1 63 yX7_copyFrom) := ⟨List.mem_of_getElem? (i := 468) (by decide +kernel), by decide +kernel⟩
theorem wd_469 : WD (.instanceMethod yX7_copyFrom) := ⟨List.mem_of_getElem? (i := 469) (by decide +kernel), by decide +kernel⟩
theorem wd_470 : WD (.selects yX7_copyFrom.cls yX7_copyFrom yX7_copyFrom) := ⟨List.mem_of_getElem? (i := 470) (by decide +kernel), by decide +kernel⟩
theorem wd_471 : WD (.code yX7_copyFrom cX7_copyFrom 3 none) := ⟨List.mem_of_getElem? (i := 471) (by decide +kernel), by decide +kernel⟩
theorem wd_472 : WD (.methodLink RX7 33 arraycopyName) := ⟨List.mem_of_getElem? (i := 472) (by decide +kernel), by decide +kernel⟩
theorem wd_473 : WD (.static arraycopyName) := ⟨List.mem_of_getElem? (i := 473) (by decide +kernel), by decide +kernel⟩
theorem wd_474 : WD (.native arraycopyName) := ⟨List.mem_of_getElem? (i := 474) (by decide +kernel), by decide +kernel⟩
theorem wd_561 : WD (.instanceMethod yX8_addTier) := ⟨List.mem_of_getElem? (i := 561) (by decide +kernel), by decide +kernel⟩
theorem wd_562 : WD (.selects yX8_addTier.cls yX8_addTier yX8_addTier) := ⟨List.mem_of_getElem? (i := 562) (by decide +kernel), by decide +kernel⟩
theorem wd_563 : WD (.code yX8_addTier cX8_addTier 4 (some .int)) := ⟨List.mem_of_getElem? (i := 563) (by decide +kernel), by decide +kernel⟩
theorem wd_564 : WD (.classLink RX8 86 "java/lang/IllegalArgumentException") := ⟨List.mem_of_getElem? (i := 564) (by decide +kernel), by decide +kernel⟩
theorem wd_585 : WD (.methodLink RX8 89 yX1_hasTier) := ⟨List.mem_of_getElem? (i := 585) (by decide +kernel), by decide +kernel⟩
theorem wd_586 : WD (.instanceMethod yX1_hasTier) := ⟨List.mem_of_getElem? (i := 586) (by decide +kernel), by decide +kernel⟩
theorem wd_587 : WD (.selects yX1_hasTier.cls yX1_hasTier yX1_hasTier) := ⟨List.mem_of_getElem? (i := 587) (by decide +kernel), by decide +kernel⟩
theorem wd_588 : WD (.code yX1_hasTier cX1_hasTier 2 (some .boolean)) := ⟨List.mem_of_getElem? (i := 588) (by decide +kernel), by decide +kernel⟩
theorem wd_589 : WD (.classLink RX8 93 "java/lang/IndexOutOfBoundsException") := ⟨List.mem_of_getElem? (i := 589) (by decide +kernel), by decide +kernel⟩
theorem wd_604 : WD (.classLink RX8 96 "java/lang/IllegalStateException") := ⟨List.mem_of_getElem? (i := 604) (by decide +kernel), by decide +kernel⟩
theorem wd_619 : WD (.methodLink RX8 99 yX2_push) := ⟨List.mem_of_getElem? (i := 619) (by decide +kernel), by decide +kernel⟩
theorem wd_620 : WD (.instanceMethod yX2_push) := ⟨List.mem_of_getElem? (i := 620) (by decide +kernel), by decide +kernel⟩
theorem wd_621 : WD (.selects yX2_push.cls yX2_push yX2_push) := ⟨List.mem_of_getElem? (i := 621) (by decide +kernel), by decide +kernel⟩
theorem wd_622 : WD (.code yX2_push cX2_push 3 none) := ⟨List.mem_of_getElem? (i := 622) (by decide +kernel), by decide +kernel⟩
theorem wd_623 : WD (.methodLink RX2 22 yX1_copyFrom) := ⟨List.mem_of_getElem? (i := 623) (by decide +kernel), by decide +kernel⟩
theorem wd_624 : WD (.methodLink RX2 29 Lib.Math.min.name) := ⟨List.mem_of_getElem? (i := 624) (by decide +kernel), by decide +kernel⟩
theorem wd_625 : WD (.static Lib.Math.min.name) := ⟨List.mem_of_getElem? (i := 625) (by decide +kernel), by decide +kernel⟩
theorem wd_626 : WD (.code Lib.Math.min.name Lib.Math.min.code 2 (some .int)) := ⟨List.mem_of_getElem? (i := 626) (by decide +kernel), by decide +kernel⟩
theorem wd_627 : WD (.methodLink RX8 103 yX1_putTier) := ⟨List.mem_of_getElem? (i := 627) (by decide +kernel), by decide +kernel⟩
theorem wd_628 : WD (.instanceMethod yX1_putTier) := ⟨List.mem_of_getElem? (i := 628) (by decide +kernel), by decide +kernel⟩
theorem wd_629 : WD (.selects yX1_putTier.cls yX1_putTier yX1_putTier) := ⟨List.mem_of_getElem? (i := 629) (by decide +kernel), by decide +kernel⟩
theorem wd_630 : WD (.code yX1_putTier cX1_putTier 5 (some .int)) := ⟨List.mem_of_getElem? (i := 630) (by decide +kernel), by decide +kernel⟩
theorem wd_635 : WD (.instanceMethod yX8_select) := ⟨List.mem_of_getElem? (i := 635) (by decide +kernel), by decide +kernel⟩
theorem wd_636 : WD (.selects yX8_select.cls yX8_select yX8_select) := ⟨List.mem_of_getElem? (i := 636) (by decide +kernel), by decide +kernel⟩
theorem wd_637 : WD (.code yX8_select cX8_select 3 (some .int)) := ⟨List.mem_of_getElem? (i := 637) (by decide +kernel), by decide +kernel⟩
theorem wd_642 : WD (.instanceMethod yX8_setSetting) := ⟨List.mem_of_getElem? (i := 642) (by decide +kernel), by decide +kernel⟩
theorem wd_643 : WD (.selects yX8_setSetting.cls yX8_setSetting yX8_setSetting) := ⟨List.mem_of_getElem? (i := 643) (by decide +kernel), by decide +kernel⟩
theorem wd_644 : WD (.code yX8_setSetting cX8_setSetting 4 (some .int)) := ⟨List.mem_of_getElem? (i := 644) (by decide +kernel), by decide +kernel⟩
theorem wd_649 : WD (.instanceMethod yX8_tier) := ⟨List.mem_of_getElem? (i := 649) (by decide +kernel), by decide +kernel⟩
theorem wd_650 : WD (.selects yX8_tier.cls yX8_tier yX8_tier) := ⟨List.mem_of_getElem? (i := 650) (by decide +kernel), by decide +kernel⟩
theorem wd_651 : WD (.code yX8_tier cX8_tier 3 (some .int)) := ⟨List.mem_of_getElem? (i := 651) (by decide +kernel), by decide +kernel⟩
theorem wd_652 : WD (.methodLink RX8 116 yX1_kindOf) := ⟨List.mem_of_getElem? (i := 652) (by decide +kernel), by decide +kernel⟩
theorem wd_653 : WD (.methodLink RX8 120 yX1_ruleOf) := ⟨List.mem_of_getElem? (i := 653) (by decide +kernel), by decide +kernel⟩
theorem wd_654 : WD (.methodLink RX8 123 yX1_parentOf) := ⟨List.mem_of_getElem? (i := 654) (by decide +kernel), by decide +kernel⟩
theorem wd_655 : WD (.methodLink RX8 126 yX1_present) := ⟨List.mem_of_getElem? (i := 655) (by decide +kernel), by decide +kernel⟩
theorem wd_656 : WD (.instanceMethod yX1_present) := ⟨List.mem_of_getElem? (i := 656) (by decide +kernel), by decide +kernel⟩
theorem wd_657 : WD (.selects yX1_present.cls yX1_present yX1_present) := ⟨List.mem_of_getElem? (i := 657) (by decide +kernel), by decide +kernel⟩
theorem wd_658 : WD (.code yX1_present cX1_present 2 (some (.object "LessonTiers$Row"))) := ⟨List.mem_of_getElem? (i := 658) (by decide +kernel), by decide +kernel⟩
theorem wd_659 : WD (.methodLink RX8 143 yX1_childMask) := ⟨List.mem_of_getElem? (i := 659) (by decide +kernel), by decide +kernel⟩
theorem wd_660 : WD (.instanceMethod yX1_childMask) := ⟨List.mem_of_getElem? (i := 660) (by decide +kernel), by decide +kernel⟩
theorem wd_661 : WD (.selects yX1_childMask.cls yX1_childMask yX1_childMask) := ⟨List.mem_of_getElem? (i := 661) (by decide +kernel), by decide +kernel⟩
theorem wd_662 : WD (.code yX1_childMask cX1_childMask 4 (some .int)) := ⟨List.mem_of_getElem? (i := 662) (by decide +kernel), by decide +kernel⟩
theorem wd_663 : WD (.methodLink RX8 146 yX7_labelCount) := ⟨List.mem_of_getElem? (i := 663) (by decide +kernel), by decide +kernel⟩
theorem wd_664 : WD (.instanceMethod yX7_labelCount) := ⟨List.mem_of_getElem? (i := 664) (by decide +kernel), by decide +kernel⟩
theorem wd_665 : WD (.selects yX7_labelCount.cls yX7_labelCount yX7_labelCount) := ⟨List.mem_of_getElem? (i := 665) (by decide +kernel), by decide +kernel⟩
theorem wd_666 : WD (.code yX7_labelCount cX7_labelCount 3 (some .int)) := ⟨List.mem_of_getElem? (i := 666) (by decide +kernel), by decide +kernel⟩
theorem wd_667 : WD (.methodLink RX7 58 yX7_isLabelNew) := ⟨List.mem_of_getElem? (i := 667) (by decide +kernel), by decide +kernel⟩
theorem wd_669 : WD (.instanceMethod yX7_isLabelNew) := ⟨List.mem_of_getElem? (i := 669) (by decide +kernel), by decide +kernel⟩
theorem wd_670 : WD (.code yX7_isLabelNew cX7_isLabelNew 3 (some .boolean)) := ⟨List.mem_of_getElem? (i := 670) (by decide +kernel), by decide +kernel⟩
theorem wd_671 : WD (.methodLink RX7 43 yX7_label) := ⟨List.mem_of_getElem? (i := 671) (by decide +kernel), by decide +kernel⟩
theorem wd_672 : WD (.instanceMethod yX7_label) := ⟨List.mem_of_getElem? (i := 672) (by decide +kernel), by decide +kernel⟩
theorem wd_673 : WD (.selects yX7_label.cls yX7_label yX7_label) := ⟨List.mem_of_getElem? (i := 673) (by decide +kernel), by decide +kernel⟩
theorem wd_674 : WD (.code yX7_label cX7_label 2 (some .long)) := ⟨List.mem_of_getElem? (i := 674) (by decide +kernel), by decide +kernel⟩
theorem wd_679 : WD (.instanceMethod yX8_book) := ⟨List.mem_of_getElem? (i := 679) (by decide +kernel), by decide +kernel⟩
theorem wd_680 : WD (.selects yX8_book.cls yX8_book yX8_book) := ⟨List.mem_of_getElem? (i := 680) (by decide +kernel), by decide +kernel⟩
theorem wd_681 : WD (.code yX8_book cX8_book 2 (some .int)) := ⟨List.mem_of_getElem? (i := 681) (by decide +kernel), by decide +kernel⟩
theorem wd_682 : WD (.methodLink RX8 149 yX1_spanCount) := ⟨List.mem_of_getElem? (i := 682) (by decide +kernel), by decide +kernel⟩
theorem wd_683 : WD (.instanceMethod yX1_spanCount) := ⟨List.mem_of_getElem? (i := 683) (by decide +kernel), by decide +kernel⟩
theorem wd_684 : WD (.selects yX1_spanCount.cls yX1_spanCount yX1_spanCount) := ⟨List.mem_of_getElem? (i := 684) (by decide +kernel), by decide +kernel⟩
theorem wd_685 : WD (.code yX1_spanCount cX1_spanCount 3 (some .int)) := ⟨List.mem_of_getElem? (i := 685) (by decide +kernel), by decide +kernel⟩
theorem wd_690 : WD (.instanceMethod yX8_append) := ⟨List.mem_of_getElem? (i := 690) (by decide +kernel), by decide +kernel⟩
theorem wd_691 : WD (.selects yX8_append.cls yX8_append yX8_append) := ⟨List.mem_of_getElem? (i := 691) (by decide +kernel), by decide +kernel⟩
theorem wd_692 : WD (.code yX8_append cX8_append 5 (some .int)) := ⟨List.mem_of_getElem? (i := 692) (by decide +kernel), by decide +kernel⟩
theorem wd_693 : WD (.methodLink RX8 156 yX3_put) := ⟨List.mem_of_getElem? (i := 693) (by decide +kernel), by decide +kernel⟩
theorem wd_694 : WD (.instanceMethod yX3_put) := ⟨List.mem_of_getElem? (i := 694) (by decide +kernel), by decide +kernel⟩
theorem wd_695 : WD (.selects yX3_put.cls yX3_put yX3_put) := ⟨List.mem_of_getElem? (i := 695) (by decide +kernel), by decide +kernel⟩
theorem wd_696 : WD (.code yX3_put cX3_put 2 none) := ⟨List.mem_of_getElem? (i := 696) (by decide +kernel), by decide +kernel⟩
theorem wd_702 : WD (.instanceMethod yX8_addSpan) := ⟨List.mem_of_getElem? (i := 702) (by decide +kernel), by decide +kernel⟩
theorem wd_703 : WD (.selects yX8_addSpan.cls yX8_addSpan yX8_addSpan) := ⟨List.mem_of_getElem? (i := 703) (by decide +kernel), by decide +kernel⟩
theorem wd_704 : WD (.code yX8_addSpan cX8_addSpan 7 (some .int)) := ⟨List.mem_of_getElem? (i := 704) (by decide +kernel), by decide +kernel⟩
theorem wd_705 : WD (.methodLink RX8 160 yX8_takeLabel) := ⟨List.mem_of_getElem? (i := 705) (by decide +kernel), by decide +kernel⟩
theorem wd_707 : WD (.instanceMethod yX8_takeLabel) := ⟨List.mem_of_getElem? (i := 707) (by decide +kernel), by decide +kernel⟩
theorem wd_708 : WD (.code yX8_takeLabel cX8_takeLabel 5 (some .long)) := ⟨List.mem_of_getElem? (i := 708) (by decide +kernel), by decide +kernel⟩
theorem wd_709 : WD (.methodLink RX8 332 yX3_restart) := ⟨List.mem_of_getElem? (i := 709) (by decide +kernel), by decide +kernel⟩
theorem wd_710 : WD (.instanceMethod yX3_restart) := ⟨List.mem_of_getElem? (i := 710) (by decide +kernel), by decide +kernel⟩
theorem wd_711 : WD (.selects yX3_restart.cls yX3_restart yX3_restart) := ⟨List.mem_of_getElem? (i := 711) (by decide +kernel), by decide +kernel⟩
theorem wd_712 : WD (.code yX3_restart cX3_restart 1 none) := ⟨List.mem_of_getElem? (i := 712) (by decide +kernel), by decide +kernel⟩
theorem wd_713 : WD (.methodLink RX8 335 yX3_readLabel) := ⟨List.mem_of_getElem? (i := 713) (by decide +kernel), by decide +kernel⟩
theorem wd_714 : WD (.instanceMethod yX3_readLabel) := ⟨List.mem_of_getElem? (i := 714) (by decide +kernel), by decide +kernel⟩
theorem wd_715 : WD (.selects yX3_readLabel.cls yX3_readLabel yX3_readLabel) := ⟨List.mem_of_getElem? (i := 715) (by decide +kernel), by decide +kernel⟩
theorem wd_716 : WD (.code yX3_readLabel cX3_readLabel 6 (some .long)) := ⟨List.mem_of_getElem? (i := 716) (by decide +kernel), by decide +kernel⟩
theorem wd_717 : WD (.methodLink RX3 34 yX3_isLetterOf) := ⟨List.mem_of_getElem? (i := 717) (by decide +kernel), by decide +kernel⟩
theorem wd_719 : WD (.instanceMethod yX3_isLetterOf) := ⟨List.mem_of_getElem? (i := 719) (by decide +kernel), by decide +kernel⟩
theorem wd_720 : WD (.code yX3_isLetterOf cX3_isLetterOf 3 (some .boolean)) := ⟨List.mem_of_getElem? (i := 720) (by decide +kernel), by decide +kernel⟩
theorem wd_721 : WD (.methodLink RX3 22 yX3_peek) := ⟨List.mem_of_getElem? (i := 721) (by decide +kernel), by decide +kernel⟩
theorem wd_723 : WD (.instanceMethod yX3_peek) := ⟨List.mem_of_getElem? (i := 723) (by decide +kernel), by decide +kernel⟩
theorem wd_724 : WD (.code yX3_peek cX3_peek 1 (some .char)) := ⟨List.mem_of_getElem? (i := 724) (by decide +kernel), by decide +kernel⟩
theorem wd_725 : WD (.methodLink RX3 26 yX3_isDigit) := ⟨List.mem_of_getElem? (i := 725) (by decide +kernel), by decide +kernel⟩
theorem wd_727 : WD (.instanceMethod yX3_isDigit) := ⟨List.mem_of_getElem? (i := 727) (by decide +kernel), by decide +kernel⟩
theorem wd_728 : WD (.code yX3_isDigit cX3_isDigit 1 (some .boolean)) := ⟨List.mem_of_getElem? (i := 728) (by decide +kernel), by decide +kernel⟩
theorem wd_729 : WD (.methodLinkNest RX3 38 yX8_withLetter "LessonTiers") := ⟨List.mem_of_getElem? (i := 729) (by decide +kernel), by decide +kernel⟩
theorem wd_730 : WD (.static yX8_withLetter) := ⟨List.mem_of_getElem? (i := 730) (by decide +kernel), by decide +kernel⟩
theorem wd_731 : WD (.code yX8_withLetter cX8_withLetter 4 (some .long)) := ⟨List.mem_of_getElem? (i := 731) (by decide +kernel), by decide +kernel⟩
theorem wd_732 : WD (.methodLink RX8 338 yX3_isAtEnd) := ⟨List.mem_of_getElem? (i := 732) (by decide +kernel), by decide +kernel⟩
theorem wd_733 : WD (.instanceMethod yX3_isAtEnd) := ⟨List.mem_of_getElem? (i := 733) (by decide +kernel), by decide +kernel⟩
theorem wd_734 : WD (.selects yX3_isAtEnd.cls yX3_isAtEnd yX3_isAtEnd) := ⟨List.mem_of_getElem? (i := 734) (by decide +kernel), by decide +kernel⟩
theorem wd_735 : WD (.code yX3_isAtEnd cX3_isAtEnd 1 (some .boolean)) := ⟨List.mem_of_getElem? (i := 735) (by decide +kernel), by decide +kernel⟩
theorem wd_736 : WD (.methodLink RX8 257 yX3_empty) := ⟨List.mem_of_getElem? (i := 736) (by decide +kernel), by decide +kernel⟩
theorem wd_737 : WD (.instanceMethod yX3_empty) := ⟨List.mem_of_getElem? (i := 737) (by decide +kernel), by decide +kernel⟩
theorem wd_738 : WD (.selects yX3_empty.cls yX3_empty yX3_empty) := ⟨List.mem_of_getElem? (i := 738) (by decide +kernel), by decide +kernel⟩
theorem wd_739 : WD (.code yX3_empty cX3_empty 1 none) := ⟨List.mem_of_getElem? (i := 739) (by decide +kernel), by decide +kernel⟩
theorem wd_740 : WD (.methodLink RX8 167 yX1_insertSpan) := ⟨List.mem_of_getElem? (i := 740) (by decide +kernel), by decide +kernel⟩
theorem wd_741 : WD (.instanceMethod yX1_insertSpan) := ⟨List.mem_of_getElem? (i := 741) (by decide +kernel), by decide +kernel⟩
theorem wd_742 : WD (.selects yX1_insertSpan.cls yX1_insertSpan yX1_insertSpan) := ⟨List.mem_of_getElem? (i := 742) (by decide +kernel), by decide +kernel⟩
theorem wd_743 : WD (.code yX1_insertSpan cX1_insertSpan 8 (some .int)) := ⟨List.mem_of_getElem? (i := 743) (by decide +kernel), by decide +kernel⟩
theorem wd_744 : WD (.methodLink RX1 109 yX1_tryFrames) := ⟨List.mem_of_getElem? (i := 744) (by decide +kernel), by decide +kernel⟩
theorem wd_746 : WD (.instanceMethod yX1_tryFrames) := ⟨List.mem_of_getElem? (i := 746) (by decide +kernel), by decide +kernel⟩
theorem wd_747 : WD (.code yX1_tryFrames cX1_tryFrames 7 (some .int)) := ⟨List.mem_of_getElem? (i := 747) (by decide +kernel), by decide +kernel⟩
theorem wd_748 : WD (.methodLink RX1 100 yX6_refuse) := ⟨List.mem_of_getElem? (i := 748) (by decide +kernel), by decide +kernel⟩
theorem wd_749 : WD (.instanceMethod yX6_refuse) := ⟨List.mem_of_getElem? (i := 749) (by decide +kernel), by decide +kernel⟩
theorem wd_750 : WD (.selects yX6_refuse.cls yX6_refuse yX6_refuse) := ⟨List.mem_of_getElem? (i := 750) (by decide +kernel), by decide +kernel⟩
theorem wd_751 : WD (.code yX6_refuse cX6_refuse 3 (some .int)) := ⟨List.mem_of_getElem? (i := 751) (by decide +kernel), by decide +kernel⟩
theorem wd_752 : WD (.methodLink RX1 71 yX1_present) := ⟨List.mem_of_getElem? (i := 752) (by decide +kernel), by decide +kernel⟩
theorem wd_753 : WD (.methodLink RX1 106 yX7_meeting) := ⟨List.mem_of_getElem? (i := 753) (by decide +kernel), by decide +kernel⟩
theorem wd_754 : WD (.instanceMethod yX7_meeting) := ⟨List.mem_of_getElem? (i := 754) (by decide +kernel), by decide +kernel⟩
theorem wd_755 : WD (.selects yX7_meeting.cls yX7_meeting yX7_meeting) := ⟨List.mem_of_getElem? (i := 755) (by decide +kernel), by decide +kernel⟩
theorem wd_756 : WD (.code yX7_meeting cX7_meeting 5 (some .int)) := ⟨List.mem_of_getElem? (i := 756) (by decide +kernel), by decide +kernel⟩
theorem wd_757 : WD (.methodLink RX1 113 yX7_insert) := ⟨List.mem_of_getElem? (i := 757) (by decide +kernel), by decide +kernel⟩
theorem wd_758 : WD (.instanceMethod yX7_insert) := ⟨List.mem_of_getElem? (i := 758) (by decide +kernel), by decide +kernel⟩
theorem wd_759 : WD (.selects yX7_insert.cls yX7_insert yX7_insert) := ⟨List.mem_of_getElem? (i := 759) (by decide +kernel), by decide +kernel⟩
theorem wd_760 : WD (.code yX7_insert cX7_insert 6 (some .int)) := ⟨List.mem_of_getElem? (i := 760) (by decide +kernel), by decide +kernel⟩
theorem wd_761 : WD (.methodLink RX7 51 yX7_shift) := ⟨List.mem_of_getElem? (i := 761) (by decide +kernel), by decide +kernel⟩
theorem wd_763 : WD (.instanceMethod yX7_shift) := ⟨List.mem_of_getElem? (i := 763) (by decide +kernel), by decide +kernel⟩
theorem wd_764 : WD (.code yX7_shift cX7_shift 3 none) := ⟨List.mem_of_getElem? (i := 764) (by decide +kernel), by decide +kernel⟩
theorem wd_765 : WD (.methodLink RX7 39 yX7_setFrames) := ⟨List.mem_of_getElem? (i := 765) (by decide +kernel), by decide +kernel⟩
theorem wd_766 : WD (.instanceMethod yX7_setFrames) := ⟨List.mem_of_getElem? (i := 766) (by decide +kernel), by decide +kernel⟩
theorem wd_767 : WD (.selects yX7_setFrames.cls yX7_setFrames yX7_setFrames) := ⟨List.mem_of_getElem? (i := 767) (by decide +kernel), by decide +kernel⟩
theorem wd_768 : WD (.code yX7_setFrames cX7_setFrames 4 none) := ⟨List.mem_of_getElem? (i := 768) (by decide +kernel), by decide +kernel⟩
theorem wd_769 : WD (.methodLink RX7 47 yX7_setLabel) := ⟨List.mem_of_getElem? (i := 769) (by decide +kernel), by decide +kernel⟩
theorem wd_770 : WD (.instanceMethod yX7_setLabel) := ⟨List.mem_of_getElem? (i := 770) (by decide +kernel), by decide +kernel⟩
theorem wd_771 : WD (.selects yX7_setLabel.cls yX7_setLabel yX7_setLabel) := ⟨List.mem_of_getElem? (i := 771) (by decide +kernel), by decide +kernel⟩
theorem wd_772 : WD (.code yX7_setLabel cX7_setLabel 4 none) := ⟨List.mem_of_getElem? (i := 772) (by decide +kernel), by decide +kernel⟩
theorem wd_773 : WD (.classLink RX8 171 "java/lang/UnsupportedOperationException") := ⟨List.mem_of_getElem? (i := 773) (by decide +kernel), by decide +kernel⟩
theorem wd_788 : WD (.methodLink RX8 174 yX8_keepDraft) := ⟨List.mem_of_getElem? (i := 788) (by decide +kernel), by decide +kernel⟩
theorem wd_790 : WD (.instanceMethod yX8_keepDraft) := ⟨List.mem_of_getElem? (i := 790) (by decide +kernel), by decide +kernel⟩
theorem wd_791 : WD (.code yX8_keepDraft cX8_keepDraft 1 none) := ⟨List.mem_of_getElem? (i := 791) (by decide +kernel), by decide +kernel⟩
theorem wd_796 : WD (.instanceMethod yX8_removeSpan) := ⟨List.mem_of_getElem? (i := 796) (by decide +kernel), by decide +kernel⟩
theorem wd_797 : WD (.selects yX8_removeSpan.cls yX8_removeSpan yX8_removeSpan) := ⟨List.mem_of_getElem? (i := 797) (by decide +kernel), by decide +kernel⟩
theorem wd_798 : WD (.code yX8_removeSpan cX8_removeSpan 3 (some .int)) := ⟨List.mem_of_getElem? (i := 798) (by decide +kernel), by decide +kernel⟩
theorem wd_799 : WD (.methodLink RX8 177 yX1_hasSpan) := ⟨List.mem_of_getElem? (i := 799) (by decide +kernel), by decide +kernel⟩
theorem wd_800 : WD (.instanceMethod yX1_hasSpan) := ⟨List.mem_of_getElem? (i := 800) (by decide +kernel), by decide +kernel⟩
theorem wd_801 : WD (.selects yX1_hasSpan.cls yX1_hasSpan yX1_hasSpan) := ⟨List.mem_of_getElem? (i := 801) (by decide +kernel), by decide +kernel⟩
theorem wd_802 : WD (.code yX1_hasSpan cX1_hasSpan 3 (some .boolean)) := ⟨List.mem_of_getElem? (i := 802) (by decide +kernel), by decide +kernel⟩
theorem wd_803 : WD (.methodLink RX1 67 yX1_hasTier) := ⟨List.mem_of_getElem? (i := 803) (by decide +kernel), by decide +kernel⟩
theorem wd_804 : WD (.methodLink RX8 181 yX1_dropSpan) := ⟨List.mem_of_getElem? (i := 804) (by decide +kernel), by decide +kernel⟩
theorem wd_805 : WD (.instanceMethod yX1_dropSpan) := ⟨List.mem_of_getElem? (i := 805) (by decide +kernel), by decide +kernel⟩
theorem wd_806 : WD (.selects yX1_dropSpan.cls yX1_dropSpan yX1_dropSpan) := ⟨List.mem_of_getElem? (i := 806) (by decide +kernel), by decide +kernel⟩
theorem wd_807 : WD (.code yX1_dropSpan cX1_dropSpan 5 (some .int)) := ⟨List.mem_of_getElem? (i := 807) (by decide +kernel), by decide +kernel⟩
theorem wd_808 : WD (.methodLink RX1 121 yX7_delete) := ⟨List.mem_of_getElem? (i := 808) (by decide +kernel), by decide +kernel⟩
theorem wd_809 : WD (.instanceMethod yX7_delete) := ⟨List.mem_of_getElem? (i := 809) (by decide +kernel), by decide +kernel⟩
theorem wd_810 : WD (.selects yX7_delete.cls yX7_delete yX7_delete) := ⟨List.mem_of_getElem? (i := 810) (by decide +kernel), by decide +kernel⟩
theorem wd_811 : WD (.code yX7_delete cX7_delete 3 none) := ⟨List.mem_of_getElem? (i := 811) (by decide +kernel), by decide +kernel⟩
theorem wd_812 : WD (.methodLink RX1 132 yX1_dropOrphans) := ⟨List.mem_of_getElem? (i := 812) (by decide +kernel), by decide +kernel⟩
theorem wd_814 : WD (.instanceMethod yX1_dropOrphans) := ⟨List.mem_of_getElem? (i := 814) (by decide +kernel), by decide +kernel⟩
theorem wd_815 : WD (.code yX1_dropOrphans cX1_dropOrphans 5 (some .int)) := ⟨List.mem_of_getElem? (i := 815) (by decide +kernel), by decide +kernel⟩
theorem wd_820 : WD (.instanceMethod yX8_moveSpan) := ⟨List.mem_of_getElem? (i := 820) (by decide +kernel), by decide +kernel⟩
theorem wd_821 : WD (.selects yX8_moveSpan.cls yX8_moveSpan yX8_moveSpan) := ⟨List.mem_of_getElem? (i := 821) (by decide +kernel), by decide +kernel⟩
theorem wd_822 : WD (.code yX8_moveSpan cX8_moveSpan 6 (some .int)) := ⟨List.mem_of_getElem? (i := 822) (by decide +kernel), by decide +kernel⟩
theorem wd_823 : WD (.methodLink RX8 185 yX1_shiftSpan) := ⟨List.mem_of_getElem? (i := 823) (by decide +kernel), by decide +kernel⟩
theorem wd_824 : WD (.instanceMethod yX1_shiftSpan) := ⟨List.mem_of_getElem? (i := 824) (by decide +kernel), by decide +kernel⟩
theorem wd_825 : WD (.selects yX1_shiftSpan.cls yX1_shiftSpan yX1_shiftSpan) := ⟨List.mem_of_getElem? (i := 825) (by decide +kernel), by decide +kernel⟩
theorem wd_826 : WD (.code yX1_shiftSpan cX1_shiftSpan 11 (some .int)) := ⟨List.mem_of_getElem? (i := 826) (by decide +kernel), by decide +kernel⟩
theorem wd_827 : WD (.methodLink RX1 117 yX7_label) := ⟨List.mem_of_getElem? (i := 827) (by decide +kernel), by decide +kernel⟩
theorem wd_828 : WD (.methodLink RX1 125 yX1_lowestBereft) := ⟨List.mem_of_getElem? (i := 828) (by decide +kernel), by decide +kernel⟩
theorem wd_830 : WD (.instanceMethod yX1_lowestBereft) := ⟨List.mem_of_getElem? (i := 830) (by decide +kernel), by decide +kernel⟩
theorem wd_831 : WD (.code yX1_lowestBereft cX1_lowestBereft 3 (some .int)) := ⟨List.mem_of_getElem? (i := 831) (by decide +kernel), by decide +kernel⟩
theorem wd_832 : WD (.methodLink RX1 96 yX1_hasOrphan) := ⟨List.mem_of_getElem? (i := 832) (by decide +kernel), by decide +kernel⟩
theorem wd_837 : WD (.instanceMethod yX8_rename) := ⟨List.mem_of_getElem? (i := 837) (by decide +kernel), by decide +kernel⟩
theorem wd_838 : WD (.selects yX8_rename.cls yX8_rename yX8_rename) := ⟨List.mem_of_getElem? (i := 838) (by decide +kernel), by decide +kernel⟩
theorem wd_839 : WD (.code yX8_rename cX8_rename 7 (some .int)) := ⟨List.mem_of_getElem? (i := 839) (by decide +kernel), by decide +kernel⟩
theorem wd_840 : WD (.methodLink RX8 189 yX7_label) := ⟨List.mem_of_getElem? (i := 840) (by decide +kernel), by decide +kernel⟩
theorem wd_841 : WD (.methodLink RX8 192 yX7_setLabel) := ⟨List.mem_of_getElem? (i := 841) (by decide +kernel), by decide +kernel⟩
theorem wd_846 : WD (.instanceMethod yX8_split) := ⟨List.mem_of_getElem? (i := 846) (by decide +kernel), by decide +kernel⟩
theorem wd_847 : WD (.selects yX8_split.cls yX8_split yX8_split) := ⟨List.mem_of_getElem? (i := 847) (by decide +kernel), by decide +kernel⟩
theorem wd_848 : WD (.code yX8_split cX8_split 5 (some .int)) := ⟨List.mem_of_getElem? (i := 848) (by decide +kernel), by decide +kernel⟩
theorem wd_849 : WD (.methodLink RX8 196 yX1_cutSpan) := ⟨List.mem_of_getElem? (i := 849) (by decide +kernel), by decide +kernel⟩
theorem wd_850 : WD (.instanceMethod yX1_cutSpan) := ⟨List.mem_of_getElem? (i := 850) (by decide +kernel), by decide +kernel⟩
theorem wd_851 : WD (.selects yX1_cutSpan.cls yX1_cutSpan yX1_cutSpan) := ⟨List.mem_of_getElem? (i := 851) (by decide +kernel), by decide +kernel⟩
theorem wd_852 : WD (.code yX1_cutSpan cX1_cutSpan 9 (some .int)) := ⟨List.mem_of_getElem? (i := 852) (by decide +kernel), by decide +kernel⟩
theorem wd_853 : WD (.methodLink RX1 128 yX7_setFrames) := ⟨List.mem_of_getElem? (i := 853) (by decide +kernel), by decide +kernel⟩
theorem wd_858 : WD (.instanceMethod yX8_join) := ⟨List.mem_of_getElem? (i := 858) (by decide +kernel), by decide +kernel⟩
theorem wd_859 : WD (.selects yX8_join.cls yX8_join yX8_join) := ⟨List.mem_of_getElem? (i := 859) (by decide +kernel), by decide +kernel⟩
theorem wd_860 : WD (.code yX8_join cX8_join 4 (some .int)) := ⟨List.mem_of_getElem? (i := 860) (by decide +kernel), by decide +kernel⟩
theorem wd_861 : WD (.methodLink RX8 200 yX1_uniteSpan) := ⟨List.mem_of_getElem? (i := 861) (by decide +kernel), by decide +kernel⟩
theorem wd_862 : WD (.instanceMethod yX1_uniteSpan) := ⟨List.mem_of_getElem? (i := 862) (by decide +kernel), by decide +kernel⟩
theorem wd_863 : WD (.selects yX1_uniteSpan.cls yX1_uniteSpan yX1_uniteSpan) := ⟨List.mem_of_getElem? (i := 863) (by decide +kernel), by decide +kernel⟩
theorem wd_864 : WD (.code yX1_uniteSpan cX1_uniteSpan 8 (some .int)) := ⟨List.mem_of_getElem? (i := 864) (by decide +kernel), by decide +kernel⟩
theorem wd_869 : WD (.instanceMethod yX8_span) := ⟨List.mem_of_getElem? (i := 869) (by decide +kernel), by decide +kernel⟩
theorem wd_870 : WD (.selects yX8_span.cls yX8_span yX8_span) := ⟨List.mem_of_getElem? (i := 870) (by decide +kernel), by decide +kernel⟩
theorem wd_871 : WD (.code yX8_span cX8_span 5 (some .int)) := ⟨List.mem_of_getElem? (i := 871) (by decide +kernel), by decide +kernel⟩
theorem wd_872 : WD (.methodLink RX8 204 yX7_first) := ⟨List.mem_of_getElem? (i := 872) (by decide +kernel), by decide +kernel⟩
theorem wd_873 : WD (.methodLink RX8 207 yX7_end) := ⟨List.mem_of_getElem? (i := 873) (by decide +kernel), by decide +kernel⟩
theorem wd_874 : WD (.methodLink RX8 210 yX8_labelLength) := ⟨List.mem_of_getElem? (i := 874) (by decide +kernel), by decide +kernel⟩
theorem wd_875 : WD (.static yX8_labelLength) := ⟨List.mem_of_getElem? (i := 875) (by decide +kernel), by decide +kernel⟩
theorem wd_876 : WD (.code yX8_labelLength cX8_labelLength 4 (some .int)) := ⟨List.mem_of_getElem? (i := 876) (by decide +kernel), by decide +kernel⟩
theorem wd_877 : WD (.methodLink RX8 224 yX8_labelLetter) := ⟨List.mem_of_getElem? (i := 877) (by decide +kernel), by decide +kernel⟩
theorem wd_878 : WD (.static yX8_labelLetter) := ⟨List.mem_of_getElem? (i := 878) (by decide +kernel), by decide +kernel⟩
theorem wd_879 : WD (.code yX8_labelLetter cX8_labelLetter 3 (some .char)) := ⟨List.mem_of_getElem? (i := 879) (by decide +kernel), by decide +kernel⟩
theorem wd_880 : WD (.constantLong RX8 362 255) := ⟨List.mem_of_getElem? (i := 880) (by decide +kernel), by decide +kernel⟩
theorem wd_881 : WD (.methodLink RX8 214 yX1_hostOf) := ⟨List.mem_of_getElem? (i := 881) (by decide +kernel), by decide +kernel⟩
theorem wd_882 : WD (.methodLink RX8 218 yX1_guestCount) := ⟨List.mem_of_getElem? (i := 882) (by decide +kernel), by decide +kernel⟩
theorem wd_883 : WD (.instanceMethod yX1_guestCount) := ⟨List.mem_of_getElem? (i := 883) (by decide +kernel), by decide +kernel⟩
theorem wd_884 : WD (.selects yX1_guestCount.cls yX1_guestCount yX1_guestCount) := ⟨List.mem_of_getElem? (i := 884) (by decide +kernel), by decide +kernel⟩
theorem wd_885 : WD (.code yX1_guestCount cX1_guestCount 7 (some .int)) := ⟨List.mem_of_getElem? (i := 885) (by decide +kernel), by decide +kernel⟩
theorem wd_891 : WD (.instanceMethod yX8_letter) := ⟨List.mem_of_getElem? (i := 891) (by decide +kernel), by decide +kernel⟩
theorem wd_892 : WD (.selects yX8_letter.cls yX8_letter yX8_letter) := ⟨List.mem_of_getElem? (i := 892) (by decide +kernel), by decide +kernel⟩
theorem wd_893 : WD (.code yX8_letter cX8_letter 6 (some .char)) := ⟨List.mem_of_getElem? (i := 893) (by decide +kernel), by decide +kernel⟩
theorem wd_894 : WD (.classLink RX8 221 "java/util/NoSuchElementException") := ⟨List.mem_of_getElem? (i := 894) (by decide +kernel), by decide +kernel⟩
theorem wd_913 : WD (.instanceMethod yX8_spanAt) := ⟨List.mem_of_getElem? (i := 913) (by decide +kernel), by decide +kernel⟩
theorem wd_914 : WD (.selects yX8_spanAt.cls yX8_spanAt yX8_spanAt) := ⟨List.mem_of_getElem? (i := 914) (by decide +kernel), by decide +kernel⟩
theorem wd_915 : WD (.code yX8_spanAt cX8_spanAt 3 (some .int)) := ⟨List.mem_of_getElem? (i := 915) (by decide +kernel), by decide +kernel⟩
theorem wd_916 : WD (.methodLink RX8 228 yX7_spanWith) := ⟨List.mem_of_getElem? (i := 916) (by decide +kernel), by decide +kernel⟩
theorem wd_917 : WD (.instanceMethod yX7_spanWith) := ⟨List.mem_of_getElem? (i := 917) (by decide +kernel), by decide +kernel⟩
theorem wd_918 : WD (.selects yX7_spanWith.cls yX7_spanWith yX7_spanWith) := ⟨List.mem_of_getElem? (i := 918) (by decide +kernel), by decide +kernel⟩
theorem wd_919 : WD (.code yX7_spanWith cX7_spanWith 3 (some .int)) := ⟨List.mem_of_getElem? (i := 919) (by decide +kernel), by decide +kernel⟩
theorem wd_924 : WD (.instanceMethod yX8_refusal) := ⟨List.mem_of_getElem? (i := 924) (by decide +kernel), by decide +kernel⟩
theorem wd_925 : WD (.selects yX8_refusal.cls yX8_refusal yX8_refusal) := ⟨List.mem_of_getElem? (i := 925) (by decide +kernel), by decide +kernel⟩
theorem wd_926 : WD (.code yX8_refusal cX8_refusal 2 (some .int)) := ⟨List.mem_of_getElem? (i := 926) (by decide +kernel), by decide +kernel⟩
theorem wd_931 : WD (.instanceMethod yX8_aligned) := ⟨List.mem_of_getElem? (i := 931) (by decide +kernel), by decide +kernel⟩
theorem wd_932 : WD (.selects yX8_aligned.cls yX8_aligned yX8_aligned) := ⟨List.mem_of_getElem? (i := 932) (by decide +kernel), by decide +kernel⟩
theorem wd_933 : WD (.code yX8_aligned cX8_aligned 4 (some .int)) := ⟨List.mem_of_getElem? (i := 933) (by decide +kernel), by decide +kernel⟩
theorem wd_934 : WD (.methodLink RX8 237 yX0_run) := ⟨List.mem_of_getElem? (i := 934) (by decide +kernel), by decide +kernel⟩
theorem wd_935 : WD (.instanceMethod yX0_run) := ⟨List.mem_of_getElem? (i := 935) (by decide +kernel), by decide +kernel⟩
theorem wd_936 : WD (.selects yX0_run.cls yX0_run yX0_run) := ⟨List.mem_of_getElem? (i := 936) (by decide +kernel), by decide +kernel⟩
theorem wd_937 : WD (.code yX0_run cX0_run 7 none) := ⟨List.mem_of_getElem? (i := 937) (by decide +kernel), by decide +kernel⟩
theorem wd_938 : WD (.methodLink RX0 18 yX0_fillBest) := ⟨List.mem_of_getElem? (i := 938) (by decide +kernel), by decide +kernel⟩
theorem wd_940 : WD (.instanceMethod yX0_fillBest) := ⟨List.mem_of_getElem? (i := 940) (by decide +kernel), by decide +kernel⟩
theorem wd_941 : WD (.code yX0_fillBest cX0_fillBest 8 none) := ⟨List.mem_of_getElem? (i := 941) (by decide +kernel), by decide +kernel⟩
theorem wd_942 : WD (.methodLink RX0 54 Lib.Math.min.name) := ⟨List.mem_of_getElem? (i := 942) (by decide +kernel), by decide +kernel⟩
theorem wd_943 : WD (.methodLink RX0 58 yX0_worth) := ⟨List.mem_of_getElem? (i := 943) (by decide +kernel), by decide +kernel⟩
theorem wd_944 : WD (.static yX0_worth) := ⟨List.mem_of_getElem? (i := 944) (by decide +kernel), by decide +kernel⟩
theorem wd_945 : WD (.code yX0_worth cX0_worth 6 (some .int)) := ⟨List.mem_of_getElem? (i := 945) (by decide +kernel), by decide +kernel⟩
theorem wd_946 : WD (.methodLink RX0 38 yX0_distance) := ⟨List.mem_of_getElem? (i := 946) (by decide +kernel), by decide +kernel⟩
theorem wd_947 : WD (.static yX0_distance) := ⟨List.mem_of_getElem? (i := 947) (by decide +kernel), by decide +kernel⟩
theorem wd_948 : WD (.code yX0_distance cX0_distance 4 (some .int)) := ⟨List.mem_of_getElem? (i := 948) (by decide +kernel), by decide +kernel⟩
theorem wd_949 : WD (.methodLink RX0 42 yX7_first) := ⟨List.mem_of_getElem? (i := 949) (by decide +kernel), by decide +kernel⟩
theorem wd_950 : WD (.methodLink RX0 46 Lib.Math.abs.name) := ⟨List.mem_of_getElem? (i := 950) (by decide +kernel), by decide +kernel⟩
theorem wd_951 : WD (.static Lib.Math.abs.name) := ⟨List.mem_of_getElem? (i := 951) (by decide +kernel), by decide +kernel⟩
theorem wd_952 : WD (.code Lib.Math.abs.name Lib.Math.abs.code 1 (some .int)) := ⟨List.mem_of_getElem? (i := 952) (by decide +kernel), by decide +kernel⟩
theorem wd_953 : WD (.methodLink RX0 51 yX7_end) := ⟨List.mem_of_getElem? (i := 953) (by decide +kernel), by decide +kernel⟩
theorem wd_954 : WD (.methodLink RX0 61 yX0_bestFrom) := ⟨List.mem_of_getElem? (i := 954) (by decide +kernel), by decide +kernel⟩
theorem wd_956 : WD (.instanceMethod yX0_bestFrom) := ⟨List.mem_of_getElem? (i := 956) (by decide +kernel), by decide +kernel⟩
theorem wd_957 : WD (.code yX0_bestFrom cX0_bestFrom 4 (some .int)) := ⟨List.mem_of_getElem? (i := 957) (by decide +kernel), by decide +kernel⟩
theorem wd_958 : WD (.methodLink RX0 64 Lib.Math.max.name) := ⟨List.mem_of_getElem? (i := 958) (by decide +kernel), by decide +kernel⟩
theorem wd_959 : WD (.methodLink RX0 34 yX0_choose) := ⟨List.mem_of_getElem? (i := 959) (by decide +kernel), by decide +kernel⟩
theorem wd_961 : WD (.instanceMethod yX0_choose) := ⟨List.mem_of_getElem? (i := 961) (by decide +kernel), by decide +kernel⟩
theorem wd_962 : WD (.code yX0_choose cX0_choose 9 (some .int)) := ⟨List.mem_of_getElem? (i := 962) (by decide +kernel), by decide +kernel⟩
theorem wd_963 : WD (.methodLink RX8 241 yX0_partnerOf) := ⟨List.mem_of_getElem? (i := 963) (by decide +kernel), by decide +kernel⟩
theorem wd_964 : WD (.instanceMethod yX0_partnerOf) := ⟨List.mem_of_getElem? (i := 964) (by decide +kernel), by decide +kernel⟩
theorem wd_965 : WD (.selects yX0_partnerOf.cls yX0_partnerOf yX0_partnerOf) := ⟨List.mem_of_getElem? (i := 965) (by decide +kernel), by decide +kernel⟩
theorem wd_966 : WD (.code yX0_partnerOf cX0_partnerOf 2 (some .int)) := ⟨List.mem_of_getElem? (i := 966) (by decide +kernel), by decide +kernel⟩
theorem wd_971 : WD (.instanceMethod yX8_alignment) := ⟨List.mem_of_getElem? (i := 971) (by decide +kernel), by decide +kernel⟩
theorem wd_972 : WD (.selects yX8_alignment.cls yX8_alignment yX8_alignment) := ⟨List.mem_of_getElem? (i := 972) (by decide +kernel), by decide +kernel⟩
theorem wd_973 : WD (.code yX8_alignment cX8_alignment 4 (some .int)) := ⟨List.mem_of_getElem? (i := 973) (by decide +kernel), by decide +kernel⟩
theorem wd_978 : WD (.instanceMethod yX8_search) := ⟨List.mem_of_getElem? (i := 978) (by decide +kernel), by decide +kernel⟩
theorem wd_979 : WD (.selects yX8_search.cls yX8_search yX8_search) := ⟨List.mem_of_getElem? (i := 979) (by decide +kernel), by decide +kernel⟩
theorem wd_980 : WD (.code yX8_search cX8_search 3 (some .int)) := ⟨List.mem_of_getElem? (i := 980) (by decide +kernel), by decide +kernel⟩
theorem wd_981 : WD (.methodLink RX8 250 yX5_readFrom) := ⟨List.mem_of_getElem? (i := 981) (by decide +kernel), by decide +kernel⟩
theorem wd_982 : WD (.instanceMethod yX5_readFrom) := ⟨List.mem_of_getElem? (i := 982) (by decide +kernel), by decide +kernel⟩
theorem wd_983 : WD (.selects yX5_readFrom.cls yX5_readFrom yX5_readFrom) := ⟨List.mem_of_getElem? (i := 983) (by decide +kernel), by decide +kernel⟩
theorem wd_984 : WD (.code yX5_readFrom cX5_readFrom 4 (some .boolean)) := ⟨List.mem_of_getElem? (i := 984) (by decide +kernel), by decide +kernel⟩
theorem wd_985 : WD (.methodLink RX5 36 yX3_restart) := ⟨List.mem_of_getElem? (i := 985) (by decide +kernel), by decide +kernel⟩
theorem wd_986 : WD (.methodLink RX5 45 yX5_readPart) := ⟨List.mem_of_getElem? (i := 986) (by decide +kernel), by decide +kernel⟩
theorem wd_988 : WD (.instanceMethod yX5_readPart) := ⟨List.mem_of_getElem? (i := 988) (by decide +kernel), by decide +kernel⟩
theorem wd_989 : WD (.code yX5_readPart cX5_readPart 8 (some .boolean)) := ⟨List.mem_of_getElem? (i := 989) (by decide +kernel), by decide +kernel⟩
theorem wd_990 : WD (.methodLink RX5 61 yX3_readTier) := ⟨List.mem_of_getElem? (i := 990) (by decide +kernel), by decide +kernel⟩
theorem wd_991 : WD (.instanceMethod yX3_readTier) := ⟨List.mem_of_getElem? (i := 991) (by decide +kernel), by decide +kernel⟩
theorem wd_992 : WD (.selects yX3_readTier.cls yX3_readTier yX3_readTier) := ⟨List.mem_of_getElem? (i := 992) (by decide +kernel), by decide +kernel⟩
theorem wd_993 : WD (.code yX3_readTier cX3_readTier 3 (some .int)) := ⟨List.mem_of_getElem? (i := 993) (by decide +kernel), by decide +kernel⟩
theorem wd_994 : WD (.methodLink RX5 65 yX3_take) := ⟨List.mem_of_getElem? (i := 994) (by decide +kernel), by decide +kernel⟩
theorem wd_995 : WD (.instanceMethod yX3_take) := ⟨List.mem_of_getElem? (i := 995) (by decide +kernel), by decide +kernel⟩
theorem wd_996 : WD (.selects yX3_take.cls yX3_take yX3_take) := ⟨List.mem_of_getElem? (i := 996) (by decide +kernel), by decide +kernel⟩
theorem wd_997 : WD (.code yX3_take cX3_take 2 (some .boolean)) := ⟨List.mem_of_getElem? (i := 997) (by decide +kernel), by decide +kernel⟩
theorem wd_998 : WD (.methodLink RX5 69 yX1_kindOf) := ⟨List.mem_of_getElem? (i := 998) (by decide +kernel), by decide +kernel⟩
theorem wd_999 : WD (.methodLink RX5 72 yX3_readLabel) := ⟨List.mem_of_getElem? (i := 999) (by decide +kernel), by decide +kernel⟩
theorem wd_1000 : WD (.methodLink RX5 49 yX3_isAtEnd) := ⟨List.mem_of_getElem? (i := 1000) (by decide +kernel), by decide +kernel⟩
theorem wd_1001 : WD (.methodLink RX5 53 yX5_readLink) := ⟨List.mem_of_getElem? (i := 1001) (by decide +kernel), by decide +kernel⟩
theorem wd_1003 : WD (.instanceMethod yX5_readLink) := ⟨List.mem_of_getElem? (i := 1003) (by decide +kernel), by decide +kernel⟩
theorem wd_1004 : WD (.code yX5_readLink cX5_readLink 3 (some .boolean)) := ⟨List.mem_of_getElem? (i := 1004) (by decide +kernel), by decide +kernel⟩
theorem wd_1005 : WD (.methodLink RX8 260 yX5_countMatches) := ⟨List.mem_of_getElem? (i := 1005) (by decide +kernel), by decide +kernel⟩
theorem wd_1006 : WD (.instanceMethod yX5_countMatches) := ⟨List.mem_of_getElem? (i := 1006) (by decide +kernel), by decide +kernel⟩
theorem wd_1007 : WD (.selects yX5_countMatches.cls yX5_countMatches yX5_countMatches) := ⟨List.mem_of_getElem? (i := 1007) (by decide +kernel), by decide +kernel⟩
theorem wd_1008 : WD (.code yX5_countMatches cX5_countMatches 8 (some .int)) := ⟨List.mem_of_getElem? (i := 1008) (by decide +kernel), by decide +kernel⟩
theorem wd_1009 : WD (.methodLink RX5 95 yX5_rowOf) := ⟨List.mem_of_getElem? (i := 1009) (by decide +kernel), by decide +kernel⟩
theorem wd_1011 : WD (.instanceMethod yX5_rowOf) := ⟨List.mem_of_getElem? (i := 1011) (by decide +kernel), by decide +kernel⟩
theorem wd_1012 : WD (.code yX5_rowOf cX5_rowOf 4 (some (.object "LessonTiers$Row"))) := ⟨List.mem_of_getElem? (i := 1012) (by decide +kernel), by decide +kernel⟩
theorem wd_1013 : WD (.methodLink RX5 76 yX1_hasTier) := ⟨List.mem_of_getElem? (i := 1013) (by decide +kernel), by decide +kernel⟩
theorem wd_1014 : WD (.methodLink RX5 80 yX1_present) := ⟨List.mem_of_getElem? (i := 1014) (by decide +kernel), by decide +kernel⟩
theorem wd_1015 : WD (.methodLink RX5 102 yX5_fits) := ⟨List.mem_of_getElem? (i := 1015) (by decide +kernel), by decide +kernel⟩
theorem wd_1017 : WD (.instanceMethod yX5_fits) := ⟨List.mem_of_getElem? (i := 1017) (by decide +kernel), by decide +kernel⟩
theorem wd_1018 : WD (.code yX5_fits cX5_fits 5 (some .boolean)) := ⟨List.mem_of_getElem? (i := 1018) (by decide +kernel), by decide +kernel⟩
theorem wd_1019 : WD (.methodLink RX5 84 yX7_label) := ⟨List.mem_of_getElem? (i := 1019) (by decide +kernel), by decide +kernel⟩
theorem wd_1020 : WD (.constantLong RX5 87 98) := ⟨List.mem_of_getElem? (i := 1020) (by decide +kernel), by decide +kernel⟩
theorem wd_1021 : WD (.methodLink RX5 106 yX5_countOn) := ⟨List.mem_of_getElem? (i := 1021) (by decide +kernel), by decide +kernel⟩
theorem wd_1023 : WD (.instanceMethod yX5_countOn) := ⟨List.mem_of_getElem? (i := 1023) (by decide +kernel), by decide +kernel⟩
theorem wd_1024 : WD (.code yX5_countOn cX5_countOn 8 (some .int)) := ⟨List.mem_of_getElem? (i := 1024) (by decide +kernel), by decide +kernel⟩
theorem wd_1025 : WD (.methodLink RX5 119 yX5_isLinked) := ⟨List.mem_of_getElem? (i := 1025) (by decide +kernel), by decide +kernel⟩
theorem wd_1027 : WD (.instanceMethod yX5_isLinked) := ⟨List.mem_of_getElem? (i := 1027) (by decide +kernel), by decide +kernel⟩
theorem wd_1028 : WD (.code yX5_isLinked cX5_isLinked 8 (some .boolean)) := ⟨List.mem_of_getElem? (i := 1028) (by decide +kernel), by decide +kernel⟩
theorem wd_1029 : WD (.methodLink RX5 89 yX7_first) := ⟨List.mem_of_getElem? (i := 1029) (by decide +kernel), by decide +kernel⟩
theorem wd_1030 : WD (.methodLink RX5 92 yX7_end) := ⟨List.mem_of_getElem? (i := 1030) (by decide +kernel), by decide +kernel⟩
theorem wd_1031 : WD (.methodLink RX5 123 yX5_waysFrom) := ⟨List.mem_of_getElem? (i := 1031) (by decide +kernel), by decide +kernel⟩
theorem wd_1033 : WD (.instanceMethod yX5_waysFrom) := ⟨List.mem_of_getElem? (i := 1033) (by decide +kernel), by decide +kernel⟩
theorem wd_1034 : WD (.code yX5_waysFrom cX5_waysFrom 4 (some .int)) := ⟨List.mem_of_getElem? (i := 1034) (by decide +kernel), by decide +kernel⟩
theorem wd_1035 : WD (.methodLink RX5 110 Lib.Math.min.name) := ⟨List.mem_of_getElem? (i := 1035) (by decide +kernel), by decide +kernel⟩
theorem wd_1040 : WD (.instanceMethod yX8_match) := ⟨List.mem_of_getElem? (i := 1040) (by decide +kernel), by decide +kernel⟩
theorem wd_1041 : WD (.selects yX8_match.cls yX8_match yX8_match) := ⟨List.mem_of_getElem? (i := 1041) (by decide +kernel), by decide +kernel⟩
theorem wd_1042 : WD (.code yX8_match cX8_match 3 (some .int)) := ⟨List.mem_of_getElem? (i := 1042) (by decide +kernel), by decide +kernel⟩
theorem wd_1043 : WD (.methodLink RX8 264 yX5_spanOf) := ⟨List.mem_of_getElem? (i := 1043) (by decide +kernel), by decide +kernel⟩
theorem wd_1044 : WD (.instanceMethod yX5_spanOf) := ⟨List.mem_of_getElem? (i := 1044) (by decide +kernel), by decide +kernel⟩
theorem wd_1045 : WD (.selects yX5_spanOf.cls yX5_spanOf yX5_spanOf) := ⟨List.mem_of_getElem? (i := 1045) (by decide +kernel), by decide +kernel⟩
theorem wd_1046 : WD (.code yX5_spanOf cX5_spanOf 13 (some .int)) := ⟨List.mem_of_getElem? (i := 1046) (by decide +kernel), by decide +kernel⟩
theorem wd_1051 : WD (.instanceMethod yX8_merge) := ⟨List.mem_of_getElem? (i := 1051) (by decide +kernel), by decide +kernel⟩
theorem wd_1052 : WD (.selects yX8_merge.cls yX8_merge yX8_merge) := ⟨List.mem_of_getElem? (i := 1052) (by decide +kernel), by decide +kernel⟩
theorem wd_1053 : WD (.code yX8_merge cX8_merge 3 (some .int)) := ⟨List.mem_of_getElem? (i := 1053) (by decide +kernel), by decide +kernel⟩
theorem wd_1054 : WD (.methodLink RX8 268 yX4_run) := ⟨List.mem_of_getElem? (i := 1054) (by decide +kernel), by decide +kernel⟩
theorem wd_1055 : WD (.instanceMethod yX4_run) := ⟨List.mem_of_getElem? (i := 1055) (by decide +kernel), by decide +kernel⟩
theorem wd_1056 : WD (.selects yX4_run.cls yX4_run yX4_run) := ⟨List.mem_of_getElem? (i := 1056) (by decide +kernel), by decide +kernel⟩
theorem wd_1057 : WD (.code yX4_run cX4_run 7 none) := ⟨List.mem_of_getElem? (i := 1057) (by decide +kernel), by decide +kernel⟩
theorem wd_1058 : WD (.methodLink RX4 42 yX4_isBefore) := ⟨List.mem_of_getElem? (i := 1058) (by decide +kernel), by decide +kernel⟩
theorem wd_1059 : WD (.static yX4_isBefore) := ⟨List.mem_of_getElem? (i := 1059) (by decide +kernel), by decide +kernel⟩
theorem wd_1060 : WD (.code yX4_isBefore cX4_isBefore 4 (some .boolean)) := ⟨List.mem_of_getElem? (i := 1060) (by decide +kernel), by decide +kernel⟩
theorem wd_1061 : WD (.methodLink RX4 50 yX7_first) := ⟨List.mem_of_getElem? (i := 1061) (by decide +kernel), by decide +kernel⟩
theorem wd_1062 : WD (.methodLink RX4 54 yX7_end) := ⟨List.mem_of_getElem? (i := 1062) (by decide +kernel), by decide +kernel⟩
theorem wd_1063 : WD (.methodLink RX4 46 yX4_put) := ⟨List.mem_of_getElem? (i := 1063) (by decide +kernel), by decide +kernel⟩
theorem wd_1065 : WD (.instanceMethod yX4_put) := ⟨List.mem_of_getElem? (i := 1065) (by decide +kernel), by decide +kernel⟩
theorem wd_1066 : WD (.code yX4_put cX4_put 7 none) := ⟨List.mem_of_getElem? (i := 1066) (by decide +kernel), by decide +kernel⟩
theorem wd_1067 : WD (.methodLink RX4 29 yX4_has) := ⟨List.mem_of_getElem? (i := 1067) (by decide +kernel), by decide +kernel⟩
theorem wd_1068 : WD (.instanceMethod yX4_has) := ⟨List.mem_of_getElem? (i := 1068) (by decide +kernel), by decide +kernel⟩
theorem wd_1069 : WD (.selects yX4_has.cls yX4_has yX4_has) := ⟨List.mem_of_getElem? (i := 1069) (by decide +kernel), by decide +kernel⟩
theorem wd_1070 : WD (.code yX4_has cX4_has 2 (some .boolean)) := ⟨List.mem_of_getElem? (i := 1070) (by decide +kernel), by decide +kernel⟩
theorem wd_1071 : WD (.methodLink RX4 57 yX4_end) := ⟨List.mem_of_getElem? (i := 1071) (by decide +kernel), by decide +kernel⟩
theorem wd_1072 : WD (.instanceMethod yX4_end) := ⟨List.mem_of_getElem? (i := 1072) (by decide +kernel), by decide +kernel⟩
theorem wd_1073 : WD (.selects yX4_end.cls yX4_end yX4_end) := ⟨List.mem_of_getElem? (i := 1073) (by decide +kernel), by decide +kernel⟩
theorem wd_1074 : WD (.code yX4_end cX4_end 2 (some .int)) := ⟨List.mem_of_getElem? (i := 1074) (by decide +kernel), by decide +kernel⟩
theorem wd_1075 : WD (.methodLink RX4 58 yX4_label) := ⟨List.mem_of_getElem? (i := 1075) (by decide +kernel), by decide +kernel⟩
theorem wd_1076 : WD (.instanceMethod yX4_label) := ⟨List.mem_of_getElem? (i := 1076) (by decide +kernel), by decide +kernel⟩
theorem wd_1077 : WD (.selects yX4_label.cls yX4_label yX4_label) := ⟨List.mem_of_getElem? (i := 1077) (by decide +kernel), by decide +kernel⟩
theorem wd_1078 : WD (.code yX4_label cX4_label 2 (some .long)) := ⟨List.mem_of_getElem? (i := 1078) (by decide +kernel), by decide +kernel⟩
theorem wd_1079 : WD (.methodLink RX4 62 yX7_label) := ⟨List.mem_of_getElem? (i := 1079) (by decide +kernel), by decide +kernel⟩
theorem wd_1080 : WD (.methodLink RX4 63 Lib.Math.max.name) := ⟨List.mem_of_getElem? (i := 1080) (by decide +kernel), by decide +kernel⟩
theorem wd_1081 : WD (.methodLink RX4 69 yX4_source) := ⟨List.mem_of_getElem? (i := 1081) (by decide +kernel), by decide +kernel⟩
theorem wd_1082 : WD (.instanceMethod yX4_source) := ⟨List.mem_of_getElem? (i := 1082) (by decide +kernel), by decide +kernel⟩
theorem wd_1083 : WD (.selects yX4_source.cls yX4_source yX4_source) := ⟨List.mem_of_getElem? (i := 1083) (by decide +kernel), by decide +kernel⟩
theorem wd_1084 : WD (.code yX4_source cX4_source 2 (some .int)) := ⟨List.mem_of_getElem? (i := 1084) (by decide +kernel), by decide +kernel⟩
theorem wd_1085 : WD (.methodLink RX8 278 yX4_sharedCount) := ⟨List.mem_of_getElem? (i := 1085) (by decide +kernel), by decide +kernel⟩
theorem wd_1086 : WD (.instanceMethod yX4_sharedCount) := ⟨List.mem_of_getElem? (i := 1086) (by decide +kernel), by decide +kernel⟩
theorem wd_1087 : WD (.selects yX4_sharedCount.cls yX4_sharedCount yX4_sharedCount) := ⟨List.mem_of_getElem? (i := 1087) (by decide +kernel), by decide +kernel⟩
theorem wd_1088 : WD (.code yX4_sharedCount cX4_sharedCount 3 (some .int)) := ⟨List.mem_of_getElem? (i := 1088) (by decide +kernel), by decide +kernel⟩
theorem wd_1089 : WD (.methodLink RX8 281 yX4_frameSum) := ⟨List.mem_of_getElem? (i := 1089) (by decide +kernel), by decide +kernel⟩
theorem wd_1090 : WD (.instanceMethod yX4_frameSum) := ⟨List.mem_of_getElem? (i := 1090) (by decide +kernel), by decide +kernel⟩
theorem wd_1091 : WD (.selects yX4_frameSum.cls yX4_frameSum yX4_frameSum) := ⟨List.mem_of_getElem? (i := 1091) (by decide +kernel), by decide +kernel⟩
theorem wd_1092 : WD (.code yX4_frameSum cX4_frameSum 3 (some .int)) := ⟨List.mem_of_getElem? (i := 1092) (by decide +kernel), by decide +kernel⟩
theorem wd_1093 : WD (.methodLink RX4 72 yX4_first) := ⟨List.mem_of_getElem? (i := 1093) (by decide +kernel), by decide +kernel⟩
theorem wd_1094 : WD (.instanceMethod yX4_first) := ⟨List.mem_of_getElem? (i := 1094) (by decide +kernel), by decide +kernel⟩
theorem wd_1095 : WD (.selects yX4_first.cls yX4_first yX4_first) := ⟨List.mem_of_getElem? (i := 1095) (by decide +kernel), by decide +kernel⟩
theorem wd_1096 : WD (.code yX4_first cX4_first 2 (some .int)) := ⟨List.mem_of_getElem? (i := 1096) (by decide +kernel), by decide +kernel⟩
theorem wd_1101 : WD (.instanceMethod yX8_merged) := ⟨List.mem_of_getElem? (i := 1101) (by decide +kernel), by decide +kernel⟩
theorem wd_1102 : WD (.selects yX8_merged.cls yX8_merged yX8_merged) := ⟨List.mem_of_getElem? (i := 1102) (by decide +kernel), by decide +kernel⟩
theorem wd_1103 : WD (.code yX8_merged cX8_merged 4 (some .int)) := ⟨List.mem_of_getElem? (i := 1103) (by decide +kernel), by decide +kernel⟩
theorem wd_1104 : WD (.methodLink RX8 282 yX4_has) := ⟨List.mem_of_getElem? (i := 1104) (by decide +kernel), by decide +kernel⟩
theorem wd_1105 : WD (.methodLink RX8 285 yX4_first) := ⟨List.mem_of_getElem? (i := 1105) (by decide +kernel), by decide +kernel⟩
theorem wd_1106 : WD (.methodLink RX8 286 yX4_end) := ⟨List.mem_of_getElem? (i := 1106) (by decide +kernel), by decide +kernel⟩
theorem wd_1107 : WD (.methodLink RX8 287 yX4_source) := ⟨List.mem_of_getElem? (i := 1107) (by decide +kernel), by decide +kernel⟩
theorem wd_1108 : WD (.methodLink RX8 290 yX4_label) := ⟨List.mem_of_getElem? (i := 1108) (by decide +kernel), by decide +kernel⟩
theorem wd_1113 : WD (.instanceMethod yX8_frames) := ⟨List.mem_of_getElem? (i := 1113) (by decide +kernel), by decide +kernel⟩
theorem wd_1114 : WD (.selects yX8_frames.cls yX8_frames yX8_frames) := ⟨List.mem_of_getElem? (i := 1114) (by decide +kernel), by decide +kernel⟩
theorem wd_1115 : WD (.code yX8_frames cX8_frames 5 (some .int)) := ⟨List.mem_of_getElem? (i := 1115) (by decide +kernel), by decide +kernel⟩
theorem wd_1116 : WD (.methodLink RX8 291 yX7_commonFrames) := ⟨List.mem_of_getElem? (i := 1116) (by decide +kernel), by decide +kernel⟩
theorem wd_1117 : WD (.instanceMethod yX7_commonFrames) := ⟨List.mem_of_getElem? (i := 1117) (by decide +kernel), by decide +kernel⟩
theorem wd_1118 : WD (.selects yX7_commonFrames.cls yX7_commonFrames yX7_commonFrames) := ⟨List.mem_of_getElem? (i := 1118) (by decide +kernel), by decide +kernel⟩
theorem wd_1119 : WD (.code yX7_commonFrames cX7_commonFrames 7 (some .int)) := ⟨List.mem_of_getElem? (i := 1119) (by decide +kernel), by decide +kernel⟩
theorem wd_1120 : WD (.methodLink RX7 68 Lib.Math.min.name) := ⟨List.mem_of_getElem? (i := 1120) (by decide +kernel), by decide +kernel⟩
theorem wd_1121 : WD (.methodLink RX8 295 yX7_framesWith) := ⟨List.mem_of_getElem? (i := 1121) (by decide +kernel), by decide +kernel⟩
theorem wd_1122 : WD (.instanceMethod yX7_framesWith) := ⟨List.mem_of_getElem? (i := 1122) (by decide +kernel), by decide +kernel⟩
theorem wd_1123 : WD (.selects yX7_framesWith.cls yX7_framesWith yX7_framesWith) := ⟨List.mem_of_getElem? (i := 1123) (by decide +kernel), by decide +kernel⟩
theorem wd_1124 : WD (.code yX7_framesWith cX7_framesWith 2 (some .int)) := ⟨List.mem_of_getElem? (i := 1124) (by decide +kernel), by decide +kernel⟩
theorem wd_1125 : WD (.methodLink RX7 71 yX7_frameSum) := ⟨List.mem_of_getElem? (i := 1125) (by decide +kernel), by decide +kernel⟩
theorem wd_1126 : WD (.methodLink RX7 75 yX7_commonFrames) := ⟨List.mem_of_getElem? (i := 1126) (by decide +kernel), by decide +kernel⟩
theorem wd_1145 : WD (.instanceMethod yX8_agreement) := ⟨List.mem_of_getElem? (i := 1145) (by decide +kernel), by decide +kernel⟩
theorem wd_1146 : WD (.selects yX8_agreement.cls yX8_agreement yX8_agreement) := ⟨List.mem_of_getElem? (i := 1146) (by decide +kernel), by decide +kernel⟩
theorem wd_1147 : WD (.code yX8_agreement cX8_agreement 5 (some .float)) := ⟨List.mem_of_getElem? (i := 1147) (by decide +kernel), by decide +kernel⟩
theorem wd_1148 : WD (.classLink RX8 299 "java/lang/ArithmeticException") := ⟨List.mem_of_getElem? (i := 1148) (by decide +kernel), by decide +kernel⟩
theorem wd_1157 : WD (.instanceMethod yX8_kappa) := ⟨List.mem_of_getElem? (i := 1157) (by decide +kernel), by decide +kernel⟩
theorem wd_1158 : WD (.selects yX8_kappa.cls yX8_kappa yX8_kappa) := ⟨List.mem_of_getElem? (i := 1158) (by decide +kernel), by decide +kernel⟩
theorem wd_1159 : WD (.code yX8_kappa cX8_kappa 10 (some .double)) := ⟨List.mem_of_getElem? (i := 1159) (by decide +kernel), by decide +kernel⟩
theorem wd_1160 : WD (.methodLink RX8 302 yX7_labelProducts) := ⟨List.mem_of_getElem? (i := 1160) (by decide +kernel), by decide +kernel⟩
theorem wd_1161 : WD (.instanceMethod yX7_labelProducts) := ⟨List.mem_of_getElem? (i := 1161) (by decide +kernel), by decide +kernel⟩
theorem wd_1162 : WD (.selects yX7_labelProducts.cls yX7_labelProducts yX7_labelProducts) := ⟨List.mem_of_getElem? (i := 1162) (by decide +kernel), by decide +kernel⟩
theorem wd_1163 : WD (.code yX7_labelProducts cX7_labelProducts 5 (some .int)) := ⟨List.mem_of_getElem? (i := 1163) (by decide +kernel), by decide +kernel⟩
theorem wd_1164 : WD (.constantDouble RX8 305 4652007308841189376) := ⟨List.mem_of_getElem? (i := 1164) (by decide +kernel), by decide +kernel⟩
theorem wd_1165 : WD (.constantDouble RX8 307 4696837146684686336) := ⟨List.mem_of_getElem? (i := 1165) (by decide +kernel), by decide +kernel⟩
theorem wd_1170 : WD (.instanceMethod yX8_read) := ⟨List.mem_of_getElem? (i := 1170) (by decide +kernel), by decide +kernel⟩
theorem wd_1171 : WD (.selects yX8_read.cls yX8_read yX8_read) := ⟨List.mem_of_getElem? (i := 1171) (by decide +kernel), by decide +kernel⟩
theorem wd_1172 : WD (.code yX8_read cX8_read 3 (some .int)) := ⟨List.mem_of_getElem? (i := 1172) (by decide +kernel), by decide +kernel⟩
theorem wd_1173 : WD (.methodLink RX8 319 yX3_countItems) := ⟨List.mem_of_getElem? (i := 1173) (by decide +kernel), by decide +kernel⟩
theorem wd_1174 : WD (.instanceMethod yX3_countItems) := ⟨List.mem_of_getElem? (i := 1174) (by decide +kernel), by decide +kernel⟩
theorem wd_1175 : WD (.selects yX3_countItems.cls yX3_countItems yX3_countItems) := ⟨List.mem_of_getElem? (i := 1175) (by decide +kernel), by decide +kernel⟩
theorem wd_1176 : WD (.code yX3_countItems cX3_countItems 3 (some .int)) := ⟨List.mem_of_getElem? (i := 1176) (by decide +kernel), by decide +kernel⟩
theorem wd_1177 : WD (.methodLink RX3 75 yX3_restart) := ⟨List.mem_of_getElem? (i := 1177) (by decide +kernel), by decide +kernel⟩
theorem wd_1178 : WD (.methodLink RX3 78 yX3_readItem) := ⟨List.mem_of_getElem? (i := 1178) (by decide +kernel), by decide +kernel⟩
theorem wd_1179 : WD (.instanceMethod yX3_readItem) := ⟨List.mem_of_getElem? (i := 1179) (by decide +kernel), by decide +kernel⟩
theorem wd_1180 : WD (.selects yX3_readItem.cls yX3_readItem yX3_readItem) := ⟨List.mem_of_getElem? (i := 1180) (by decide +kernel), by decide +kernel⟩
theorem wd_1181 : WD (.code yX3_readItem cX3_readItem 2 (some .boolean)) := ⟨List.mem_of_getElem? (i := 1181) (by decide +kernel), by decide +kernel⟩
theorem wd_1182 : WD (.methodLink RX3 47 yX3_readTier) := ⟨List.mem_of_getElem? (i := 1182) (by decide +kernel), by decide +kernel⟩
theorem wd_1183 : WD (.methodLink RX3 30 yX3_take) := ⟨List.mem_of_getElem? (i := 1183) (by decide +kernel), by decide +kernel⟩
theorem wd_1184 : WD (.methodLink RX3 54 yX3_readNumber) := ⟨List.mem_of_getElem? (i := 1184) (by decide +kernel), by decide +kernel⟩
theorem wd_1186 : WD (.instanceMethod yX3_readNumber) := ⟨List.mem_of_getElem? (i := 1186) (by decide +kernel), by decide +kernel⟩
theorem wd_1187 : WD (.code yX3_readNumber cX3_readNumber 3 (some .int)) := ⟨List.mem_of_getElem? (i := 1187) (by decide +kernel), by decide +kernel⟩
theorem wd_1188 : WD (.methodLink RX3 64 yX1_kindOf) := ⟨List.mem_of_getElem? (i := 1188) (by decide +kernel), by decide +kernel⟩
theorem wd_1189 : WD (.methodLink RX3 67 yX3_readLabel) := ⟨List.mem_of_getElem? (i := 1189) (by decide +kernel), by decide +kernel⟩
theorem wd_1190 : WD (.methodLink RX3 82 yX3_isAtEnd) := ⟨List.mem_of_getElem? (i := 1190) (by decide +kernel), by decide +kernel⟩
theorem wd_1191 : WD (.methodLink RX8 322 yX8_addItems) := ⟨List.mem_of_getElem? (i := 1191) (by decide +kernel), by decide +kernel⟩
theorem wd_1193 : WD (.instanceMethod yX8_addItems) := ⟨List.mem_of_getElem? (i := 1193) (by decide +kernel), by decide +kernel⟩
theorem wd_1194 : WD (.code yX8_addItems cX8_addItems 3 (some .int)) := ⟨List.mem_of_getElem? (i := 1194) (by decide +kernel), by decide +kernel⟩
theorem wd_1195 : WD (.methodLink RX8 341 yX3_readItem) := ⟨List.mem_of_getElem? (i := 1195) (by decide +kernel), by decide +kernel⟩
theorem wd_1196 : WD (.methodLink RX8 358 yX3_take) := ⟨List.mem_of_getElem? (i := 1196) (by decide +kernel), by decide +kernel⟩
theorem wd_1201 : WD (.instanceMethod yX8_errorPosition) := ⟨List.mem_of_getElem? (i := 1201) (by decide +kernel), by decide +kernel⟩
theorem wd_1202 : WD (.selects yX8_errorPosition.cls yX8_errorPosition yX8_errorPosition) := ⟨List.mem_of_getElem? (i := 1202) (by decide +kernel), by decide +kernel⟩
theorem wd_1203 : WD (.code yX8_errorPosition cX8_errorPosition 1 (some .int)) := ⟨List.mem_of_getElem? (i := 1203) (by decide +kernel), by decide +kernel⟩
theorem wd_1208 : WD (.instanceMethod yX8_refusedItem) := ⟨List.mem_of_getElem? (i := 1208) (by decide +kernel), by decide +kernel⟩
theorem wd_1209 : WD (.selects yX8_refusedItem.cls yX8_refusedItem yX8_refusedItem) := ⟨List.mem_of_getElem? (i := 1209) (by decide +kernel), by decide +kernel⟩
theorem wd_1210 : WD (.code yX8_refusedItem cX8_refusedItem 1 (some .int)) := ⟨List.mem_of_getElem? (i := 1210) (by decide +kernel), by decide +kernel⟩
theorem wd_1215 : WD (.instanceMethod yX8_undo) := ⟨List.mem_of_getElem? (i := 1215) (by decide +kernel), by decide +kernel⟩
theorem wd_1216 : WD (.selects yX8_undo.cls yX8_undo yX8_undo) := ⟨List.mem_of_getElem? (i := 1216) (by decide +kernel), by decide +kernel⟩
theorem wd_1217 : WD (.code yX8_undo cX8_undo 1 (some .int)) := ⟨List.mem_of_getElem? (i := 1217) (by decide +kernel), by decide +kernel⟩
theorem wd_1218 : WD (.methodLink RX8 325 yX2_pop) := ⟨List.mem_of_getElem? (i := 1218) (by decide +kernel), by decide +kernel⟩
theorem wd_1219 : WD (.instanceMethod yX2_pop) := ⟨List.mem_of_getElem? (i := 1219) (by decide +kernel), by decide +kernel⟩
theorem wd_1220 : WD (.selects yX2_pop.cls yX2_pop yX2_pop) := ⟨List.mem_of_getElem? (i := 1220) (by decide +kernel), by decide +kernel⟩
theorem wd_1221 : WD (.code yX2_pop cX2_pop 3 none) := ⟨List.mem_of_getElem? (i := 1221) (by decide +kernel), by decide +kernel⟩
theorem wd_1226 : WD (.instanceMethod yX8_restore) := ⟨List.mem_of_getElem? (i := 1226) (by decide +kernel), by decide +kernel⟩
theorem wd_1227 : WD (.selects yX8_restore.cls yX8_restore yX8_restore) := ⟨List.mem_of_getElem? (i := 1227) (by decide +kernel), by decide +kernel⟩
theorem wd_1228 : WD (.code yX8_restore cX8_restore 1 (some .int)) := ⟨List.mem_of_getElem? (i := 1228) (by decide +kernel), by decide +kernel⟩
theorem wd_1232 : WD (.instanceMethod yX9_init) := ⟨List.mem_of_getElem? (i := 1232) (by decide +kernel), by decide +kernel⟩
theorem wd_1233 : WD (.code yX9_init cX9_init 1 none) := ⟨List.mem_of_getElem? (i := 1233) (by decide +kernel), by decide +kernel⟩
theorem wd_1235 : WD (.methodLink RX9 94 yX9_begin) := ⟨List.mem_of_getElem? (i := 1235) (by decide +kernel), by decide +kernel⟩
theorem wd_1237 : WD (.instanceMethod yX9_begin) := ⟨List.mem_of_getElem? (i := 1237) (by decide +kernel), by decide +kernel⟩
theorem wd_1238 : WD (.code yX9_begin cX9_begin 2 none) := ⟨List.mem_of_getElem? (i := 1238) (by decide +kernel), by decide +kernel⟩
theorem wd_1239 : WD (.constantLong RX9 100 50) := ⟨List.mem_of_getElem? (i := 1239) (by decide +kernel), by decide +kernel⟩
theorem wd_1240 : WD (.constantLong RX9 102 20) := ⟨List.mem_of_getElem? (i := 1240) (by decide +kernel), by decide +kernel⟩
theorem wd_1241 : WD (.fieldLink RX9 9 "LessonTiersModel" "s" "[J") := ⟨List.mem_of_getElem? (i := 1241) (by decide +kernel), by decide +kernel⟩
theorem wd_1242 : WD (.fieldLink RX9 13 "LessonTiersModel" "before" "[J") := ⟨List.mem_of_getElem? (i := 1242) (by decide +kernel), by decide +kernel⟩
theorem wd_1243 : WD (.fieldLink RX9 16 "LessonTiersModel" "saved" "[J") := ⟨List.mem_of_getElem? (i := 1243) (by decide +kernel), by decide +kernel⟩
theorem wd_1244 : WD (.fieldLink RX9 394 "LessonTiersModel" "isSaved" "Z") := ⟨List.mem_of_getElem? (i := 1244) (by decide +kernel), by decide +kernel⟩
theorem wd_1245 : WD (.fieldLink RX9 19 "LessonTiersModel" "past" "[J") := ⟨List.mem_of_getElem? (i := 1245) (by decide +kernel), by decide +kernel⟩
theorem wd_1246 : WD (.fieldLink RX9 104 "LessonTiersModel" "pastMany" "I") := ⟨List.mem_of_getElem? (i := 1246) (by decide +kernel), by decide +kernel⟩
theorem wd_1247 : WD (.fieldLink RX9 97 "LessonTiersModel" "thrown" "I") := ⟨List.mem_of_getElem? (i := 1247) (by decide +kernel), by decide +kernel⟩
theorem wd_1248 : WD (.fieldLink RX9 22 "LessonTiersModel" "buffer" "[I") := ⟨List.mem_of_getElem? (i := 1248) (by decide +kernel), by decide +kernel⟩
theorem wd_1249 : WD (.fieldLink RX9 187 "LessonTiersModel" "length" "I") := ⟨List.mem_of_getElem? (i := 1249) (by decide +kernel), by decide +kernel⟩
theorem wd_1250 : WD (.fieldLink RX9 190 "LessonTiersModel" "place" "I") := ⟨List.mem_of_getElem? (i := 1250) (by decide +kernel), by decide +kernel⟩
theorem wd_1251 : WD (.fieldLink RX9 193 "LessonTiersModel" "isWrong" "Z") := ⟨List.mem_of_getElem? (i := 1251) (by decide +kernel), by decide +kernel⟩
theorem wd_1252 : WD (.fieldLink RX9 26 "LessonTiersModel" "wrongPlace" "I") := ⟨List.mem_of_getElem? (i := 1252) (by decide +kernel), by decide +kernel⟩
theorem wd_1253 : WD (.fieldLink RX9 206 "LessonTiersModel" "refusal" "I") := ⟨List.mem_of_getElem? (i := 1253) (by decide +kernel), by decide +kernel⟩
theorem wd_1254 : WD (.fieldLink RX9 209 "LessonTiersModel" "refusalNumber" "I") := ⟨List.mem_of_getElem? (i := 1254) (by decide +kernel), by decide +kernel⟩
theorem wd_1255 : WD (.fieldLink RX9 30 "LessonTiersModel" "pairs" "[I") := ⟨List.mem_of_getElem? (i := 1255) (by decide +kernel), by decide +kernel⟩
theorem wd_1256 : WD (.fieldLink RX9 33 "LessonTiersModel" "sums" "[I") := ⟨List.mem_of_getElem? (i := 1256) (by decide +kernel), by decide +kernel⟩
theorem wd_1257 : WD (.fieldLink RX9 107 "LessonTiersModel" "partMany" "I") := ⟨List.mem_of_getElem? (i := 1257) (by decide +kernel), by decide +kernel⟩
theorem wd_1258 : WD (.fieldLink RX9 36 "LessonTiersModel" "partTier" "[I") := ⟨List.mem_of_getElem? (i := 1258) (by decide +kernel), by decide +kernel⟩
theorem wd_1259 : WD (.fieldLink RX9 39 "LessonTiersModel" "partKind" "[I") := ⟨List.mem_of_getElem? (i := 1259) (by decide +kernel), by decide +kernel⟩
theorem wd_1260 : WD (.fieldLink RX9 42 "LessonTiersModel" "partLabel" "[J") := ⟨List.mem_of_getElem? (i := 1260) (by decide +kernel), by decide +kernel⟩
theorem wd_1261 : WD (.fieldLink RX9 45 "LessonTiersModel" "isNext" "[Z") := ⟨List.mem_of_getElem? (i := 1261) (by decide +kernel), by decide +kernel⟩
theorem wd_1262 : WD (.fieldLink RX9 49 "LessonTiersModel" "readTier" "[I") := ⟨List.mem_of_getElem? (i := 1262) (by decide +kernel), by decide +kernel⟩
theorem wd_1263 : WD (.fieldLink RX9 52 "LessonTiersModel" "readLabels" "[J") := ⟨List.mem_of_getElem? (i := 1263) (by decide +kernel), by decide +kernel⟩
theorem wd_1264 : WD (.fieldLink RX9 55 "LessonTiersModel" "readNext" "[Z") := ⟨List.mem_of_getElem? (i := 1264) (by decide +kernel), by decide +kernel⟩
theorem wd_1265 : WD (.fieldLink RX9 307 "LessonTiersModel" "readMany" "I") := ⟨List.mem_of_getElem? (i := 1265) (by decide +kernel), by decide +kernel⟩
theorem wd_1266 : WD (.fieldLink RX9 58 "LessonTiersModel" "now" "[I") := ⟨List.mem_of_getElem? (i := 1266) (by decide +kernel), by decide +kernel⟩
theorem wd_1267 : WD (.fieldLink RX9 61 "LessonTiersModel" "seen" "[I") := ⟨List.mem_of_getElem? (i := 1267) (by decide +kernel), by decide +kernel⟩
theorem wd_1268 : WD (.fieldLink RX9 316 "LessonTiersModel" "found" "I") := ⟨List.mem_of_getElem? (i := 1268) (by decide +kernel), by decide +kernel⟩
theorem wd_1269 : WD (.fieldLink RX9 319 "LessonTiersModel" "wanted" "I") := ⟨List.mem_of_getElem? (i := 1269) (by decide +kernel), by decide +kernel⟩
theorem wd_1270 : WD (.fieldLink RX9 64 "LessonTiersModel" "resultFirst" "[I") := ⟨List.mem_of_getElem? (i := 1270) (by decide +kernel), by decide +kernel⟩
theorem wd_1271 : WD (.fieldLink RX9 67 "LessonTiersModel" "resultEnd" "[I") := ⟨List.mem_of_getElem? (i := 1271) (by decide +kernel), by decide +kernel⟩
theorem wd_1272 : WD (.fieldLink RX9 70 "LessonTiersModel" "resultLabel" "[J") := ⟨List.mem_of_getElem? (i := 1272) (by decide +kernel), by decide +kernel⟩
theorem wd_1273 : WD (.fieldLink RX9 73 "LessonTiersModel" "resultSources" "[I") := ⟨List.mem_of_getElem? (i := 1273) (by decide +kernel), by decide +kernel⟩
theorem wd_1274 : WD (.fieldLink RX9 333 "LessonTiersModel" "resultMany" "I") := ⟨List.mem_of_getElem? (i := 1274) (by decide +kernel), by decide +kernel⟩
theorem wd_1275 : WD (.fieldLink RX9 343 "LessonTiersModel" "conflicts" "I") := ⟨List.mem_of_getElem? (i := 1275) (by decide +kernel), by decide +kernel⟩
theorem wd_1276 : WD (.fieldLink RX9 346 "LessonTiersModel" "dropped" "I") := ⟨List.mem_of_getElem? (i := 1276) (by decide +kernel), by decide +kernel⟩
theorem wd_1277 : WD (.fieldLink RX9 76 "LessonTiersModel" "labelled" "[J") := ⟨List.mem_of_getElem? (i := 1277) (by decide +kernel), by decide +kernel⟩
theorem wd_1278 : WD (.fieldLink RX9 358 "LessonTiersModel" "same" "I") := ⟨List.mem_of_getElem? (i := 1278) (by decide +kernel), by decide +kernel⟩
theorem wd_1279 : WD (.fieldLink RX9 361 "LessonTiersModel" "bothLabelled" "I") := ⟨List.mem_of_getElem? (i := 1279) (by decide +kernel), by decide +kernel⟩
theorem wd_1280 : WD (.fieldLink RX9 364 "LessonTiersModel" "anyLabelled" "I") := ⟨List.mem_of_getElem? (i := 1280) (by decide +kernel), by decide +kernel⟩
theorem wd_1281 : WD (.fieldLink RX9 367 "LessonTiersModel" "alike" "I") := ⟨List.mem_of_getElem? (i := 1281) (by decide +kernel), by decide +kernel⟩
theorem wd_1282 : WD (.fieldLink RX9 79 "LessonTiersModel" "itemTier" "[I") := ⟨List.mem_of_getElem? (i := 1282) (by decide +kernel), by decide +kernel⟩
theorem wd_1283 : WD (.fieldLink RX9 82 "LessonTiersModel" "itemFirst" "[I") := ⟨List.mem_of_getElem? (i := 1283) (by decide +kernel), by decide +kernel⟩
theorem wd_1284 : WD (.fieldLink RX9 85 "LessonTiersModel" "itemEnd" "[I") := ⟨List.mem_of_getElem? (i := 1284) (by decide +kernel), by decide +kernel⟩
theorem wd_1285 : WD (.fieldLink RX9 88 "LessonTiersModel" "itemLabel" "[J") := ⟨List.mem_of_getElem? (i := 1285) (by decide +kernel), by decide +kernel⟩
theorem wd_1286 : WD (.fieldLink RX9 385 "LessonTiersModel" "itemMany" "I") := ⟨List.mem_of_getElem? (i := 1286) (by decide +kernel), by decide +kernel⟩
theorem wd_1287 : WD (.fieldLink RX9 91 "LessonTiersModel" "refusedItem" "I") := ⟨List.mem_of_getElem? (i := 1287) (by decide +kernel), by decide +kernel⟩
theorem wd_1288 : WD (.laysFinal "LessonTiersModel" "LessonTiersModel" "s" "[J") := ⟨List.mem_of_getElem? (i := 1288) (by decide +kernel), by decide +kernel⟩
theorem wd_1290 : WD (.laysFinal "LessonTiersModel" "LessonTiersModel" "before" "[J") := ⟨List.mem_of_getElem? (i := 1290) (by decide +kernel), by decide +kernel⟩
theorem wd_1292 : WD (.laysFinal "LessonTiersModel" "LessonTiersModel" "saved" "[J") := ⟨List.mem_of_getElem? (i := 1292) (by decide +kernel), by decide +kernel⟩
theorem wd_1294 : WD (.lays "LessonTiersModel" "LessonTiersModel" "isSaved" "Z") := ⟨List.mem_of_getElem? (i := 1294) (by decide +kernel), by decide +kernel⟩
theorem wd_1296 : WD (.laysFinal "LessonTiersModel" "LessonTiersModel" "past" "[J") := ⟨List.mem_of_getElem? (i := 1296) (by decide +kernel), by decide +kernel⟩
theorem wd_1298 : WD (.lays "LessonTiersModel" "LessonTiersModel" "pastMany" "I") := ⟨List.mem_of_getElem? (i := 1298) (by decide +kernel), by decide +kernel⟩
theorem wd_1300 : WD (.lays "LessonTiersModel" "LessonTiersModel" "thrown" "I") := ⟨List.mem_of_getElem? (i := 1300) (by decide +kernel), by decide +kernel⟩
theorem wd_1302 : WD (.laysFinal "LessonTiersModel" "LessonTiersModel" "buffer" "[I") := ⟨List.mem_of_getElem? (i := 1302) (by decide +kernel), by decide +kernel⟩
theorem wd_1304 : WD (.lays "LessonTiersModel" "LessonTiersModel" "length" "I") := ⟨List.mem_of_getElem? (i := 1304) (by decide +kernel), by decide +kernel⟩
theorem wd_1306 : WD (.lays "LessonTiersModel" "LessonTiersModel" "place" "I") := ⟨List.mem_of_getElem? (i := 1306) (by decide +kernel), by decide +kernel⟩
theorem wd_1308 : WD (.lays "LessonTiersModel" "LessonTiersModel" "isWrong" "Z") := ⟨List.mem_of_getElem? (i := 1308) (by decide +kernel), by decide +kernel⟩
theorem wd_1310 : WD (.lays "LessonTiersModel" "LessonTiersModel" "wrongPlace" "I") := ⟨List.mem_of_getElem? (i := 1310) (by decide +kernel), by decide +kernel⟩
theorem wd_1312 : WD (.lays "LessonTiersModel" "LessonTiersModel" "refusal" "I") := ⟨List.mem_of_getElem? (i := 1312) (by decide +kernel), by decide +kernel⟩
theorem wd_1314 : WD (.lays "LessonTiersModel" "LessonTiersModel" "refusalNumber" "I") := ⟨List.mem_of_getElem? (i := 1314) (by decide +kernel), by decide +kernel⟩
theorem wd_1316 : WD (.laysFinal "LessonTiersModel" "LessonTiersModel" "pairs" "[I") := ⟨List.mem_of_getElem? (i := 1316) (by decide +kernel), by decide +kernel⟩
theorem wd_1318 : WD (.laysFinal "LessonTiersModel" "LessonTiersModel" "sums" "[I") := ⟨List.mem_of_getElem? (i := 1318) (by decide +kernel), by decide +kernel⟩
theorem wd_1320 : WD (.lays "LessonTiersModel" "LessonTiersModel" "partMany" "I") := ⟨List.mem_of_getElem? (i := 1320) (by decide +kernel), by decide +kernel⟩
theorem wd_1322 : WD (.laysFinal "LessonTiersModel" "LessonTiersModel" "partTier" "[I") := ⟨List.mem_of_getElem? (i := 1322) (by decide +kernel), by decide +kernel⟩
theorem wd_1324 : WD (.laysFinal "LessonTiersModel" "LessonTiersModel" "partKind" "[I") := ⟨List.mem_of_getElem? (i := 1324) (by decide +kernel), by decide +kernel⟩
theorem wd_1326 : WD (.laysFinal "LessonTiersModel" "LessonTiersModel" "partLabel" "[J") := ⟨List.mem_of_getElem? (i := 1326) (by decide +kernel), by decide +kernel⟩
theorem wd_1328 : WD (.laysFinal "LessonTiersModel" "LessonTiersModel" "isNext" "[Z") := ⟨List.mem_of_getElem? (i := 1328) (by decide +kernel), by decide +kernel⟩
theorem wd_1330 : WD (.laysFinal "LessonTiersModel" "LessonTiersModel" "readTier" "[I") := ⟨List.mem_of_getElem? (i := 1330) (by decide +kernel), by decide +kernel⟩
theorem wd_1332 : WD (.laysFinal "LessonTiersModel" "LessonTiersModel" "readLabels" "[J") := ⟨List.mem_of_getElem? (i := 1332) (by decide +kernel), by decide +kernel⟩
theorem wd_1334 : WD (.laysFinal "LessonTiersModel" "LessonTiersModel" "readNext" "[Z") := ⟨List.mem_of_getElem? (i := 1334) (by decide +kernel), by decide +kernel⟩
theorem wd_1336 : WD (.lays "LessonTiersModel" "LessonTiersModel" "readMany" "I") := ⟨List.mem_of_getElem? (i := 1336) (by decide +kernel), by decide +kernel⟩
theorem wd_1338 : WD (.laysFinal "LessonTiersModel" "LessonTiersModel" "now" "[I") := ⟨List.mem_of_getElem? (i := 1338) (by decide +kernel), by decide +kernel⟩
theorem wd_1340 : WD (.laysFinal "LessonTiersModel" "LessonTiersModel" "seen" "[I") := ⟨List.mem_of_getElem? (i := 1340) (by decide +kernel), by decide +kernel⟩
theorem wd_1342 : WD (.lays "LessonTiersModel" "LessonTiersModel" "found" "I") := ⟨List.mem_of_getElem? (i := 1342) (by decide +kernel), by decide +kernel⟩
theorem wd_1344 : WD (.lays "LessonTiersModel" "LessonTiersModel" "wanted" "I") := ⟨List.mem_of_getElem? (i := 1344) (by decide +kernel), by decide +kernel⟩
theorem wd_1346 : WD (.laysFinal "LessonTiersModel" "LessonTiersModel" "resultFirst" "[I") := ⟨List.mem_of_getElem? (i := 1346) (by decide +kernel), by decide +kernel⟩
theorem wd_1348 : WD (.laysFinal "LessonTiersModel" "LessonTiersModel" "resultEnd" "[I") := ⟨List.mem_of_getElem? (i := 1348) (by decide +kernel), by decide +kernel⟩
theorem wd_1350 : WD (.laysFinal "LessonTiersModel" "LessonTiersModel" "resultLabel" "[J") := ⟨List.mem_of_getElem? (i := 1350) (by decide +kernel), by decide +kernel⟩
theorem wd_1352 : WD (.laysFinal "LessonTiersModel" "LessonTiersModel" "resultSources" "[I") := ⟨List.mem_of_getElem? (i := 1352) (by decide +kernel), by decide +kernel⟩
theorem wd_1354 : WD (.lays "LessonTiersModel" "LessonTiersModel" "resultMany" "I") := ⟨List.mem_of_getElem? (i := 1354) (by decide +kernel), by decide +kernel⟩
theorem wd_1356 : WD (.lays "LessonTiersModel" "LessonTiersModel" "conflicts" "I") := ⟨List.mem_of_getElem? (i := 1356) (by decide +kernel), by decide +kernel⟩
theorem wd_1358 : WD (.lays "LessonTiersModel" "LessonTiersModel" "dropped" "I") := ⟨List.mem_of_getElem? (i := 1358) (by decide +kernel), by decide +kernel⟩
theorem wd_1360 : WD (.laysFinal "LessonTiersModel" "LessonTiersModel" "labelled" "[J") := ⟨List.mem_of_getElem? (i := 1360) (by decide +kernel), by decide +kernel⟩
theorem wd_1362 : WD (.lays "LessonTiersModel" "LessonTiersModel" "same" "I") := ⟨List.mem_of_getElem? (i := 1362) (by decide +kernel), by decide +kernel⟩
theorem wd_1364 : WD (.lays "LessonTiersModel" "LessonTiersModel" "bothLabelled" "I") := ⟨List.mem_of_getElem? (i := 1364) (by decide +kernel), by decide +kernel⟩
theorem wd_1366 : WD (.lays "LessonTiersModel" "LessonTiersModel" "anyLabelled" "I") := ⟨List.mem_of_getElem? (i := 1366) (by decide +kernel), by decide +kernel⟩
theorem wd_1368 : WD (.lays "LessonTiersModel" "LessonTiersModel" "alike" "I") := ⟨List.mem_of_getElem? (i := 1368) (by decide +kernel), by decide +kernel⟩
theorem wd_1370 : WD (.laysFinal "LessonTiersModel" "LessonTiersModel" "itemTier" "[I") := ⟨List.mem_of_getElem? (i := 1370) (by decide +kernel), by decide +kernel⟩
theorem wd_1372 : WD (.laysFinal "LessonTiersModel" "LessonTiersModel" "itemFirst" "[I") := ⟨List.mem_of_getElem? (i := 1372) (by decide +kernel), by decide +kernel⟩
theorem wd_1374 : WD (.laysFinal "LessonTiersModel" "LessonTiersModel" "itemEnd" "[I") := ⟨List.mem_of_getElem? (i := 1374) (by decide +kernel), by decide +kernel⟩
theorem wd_1376 : WD (.laysFinal "LessonTiersModel" "LessonTiersModel" "itemLabel" "[J") := ⟨List.mem_of_getElem? (i := 1376) (by decide +kernel), by decide +kernel⟩
theorem wd_1378 : WD (.lays "LessonTiersModel" "LessonTiersModel" "itemMany" "I") := ⟨List.mem_of_getElem? (i := 1378) (by decide +kernel), by decide +kernel⟩
theorem wd_1380 : WD (.lays "LessonTiersModel" "LessonTiersModel" "refusedItem" "I") := ⟨List.mem_of_getElem? (i := 1380) (by decide +kernel), by decide +kernel⟩
theorem wd_1384 : WD (.instanceMethod yX9_thrown) := ⟨List.mem_of_getElem? (i := 1384) (by decide +kernel), by decide +kernel⟩
theorem wd_1385 : WD (.selects yX9_thrown.cls yX9_thrown yX9_thrown) := ⟨List.mem_of_getElem? (i := 1385) (by decide +kernel), by decide +kernel⟩
theorem wd_1386 : WD (.code yX9_thrown cX9_thrown 1 (some .int)) := ⟨List.mem_of_getElem? (i := 1386) (by decide +kernel), by decide +kernel⟩
theorem wd_1388 : WD (.instanceMethod yX9_clear) := ⟨List.mem_of_getElem? (i := 1388) (by decide +kernel), by decide +kernel⟩
theorem wd_1389 : WD (.selects yX9_clear.cls yX9_clear yX9_clear) := ⟨List.mem_of_getElem? (i := 1389) (by decide +kernel), by decide +kernel⟩
theorem wd_1390 : WD (.code yX9_clear cX9_clear 2 (some .int)) := ⟨List.mem_of_getElem? (i := 1390) (by decide +kernel), by decide +kernel⟩
theorem wd_1391 : WD (.methodLink RX9 122 yX9_tiers) := ⟨List.mem_of_getElem? (i := 1391) (by decide +kernel), by decide +kernel⟩
theorem wd_1393 : WD (.instanceMethod yX9_tiers) := ⟨List.mem_of_getElem? (i := 1393) (by decide +kernel), by decide +kernel⟩
theorem wd_1394 : WD (.code yX9_tiers cX9_tiers 1 (some .int)) := ⟨List.mem_of_getElem? (i := 1394) (by decide +kernel), by decide +kernel⟩
theorem wd_1396 : WD (.instanceMethod yX9_addTier) := ⟨List.mem_of_getElem? (i := 1396) (by decide +kernel), by decide +kernel⟩
theorem wd_1397 : WD (.selects yX9_addTier.cls yX9_addTier yX9_addTier) := ⟨List.mem_of_getElem? (i := 1397) (by decide +kernel), by decide +kernel⟩
theorem wd_1398 : WD (.code yX9_addTier cX9_addTier 5 (some .int)) := ⟨List.mem_of_getElem? (i := 1398) (by decide +kernel), by decide +kernel⟩
theorem wd_1399 : WD (.methodLink RX9 126 yX9_in) := ⟨List.mem_of_getElem? (i := 1399) (by decide +kernel), by decide +kernel⟩
theorem wd_1400 : WD (.static yX9_in) := ⟨List.mem_of_getElem? (i := 1400) (by decide +kernel), by decide +kernel⟩
theorem wd_1401 : WD (.code yX9_in cX9_in 3 (some .boolean)) := ⟨List.mem_of_getElem? (i := 1401) (by decide +kernel), by decide +kernel⟩
theorem wd_1402 : WD (.methodLink RX9 130 yX9_isTier) := ⟨List.mem_of_getElem? (i := 1402) (by decide +kernel), by decide +kernel⟩
theorem wd_1404 : WD (.instanceMethod yX9_isTier) := ⟨List.mem_of_getElem? (i := 1404) (by decide +kernel), by decide +kernel⟩
theorem wd_1405 : WD (.code yX9_isTier cX9_isTier 2 (some .boolean)) := ⟨List.mem_of_getElem? (i := 1405) (by decide +kernel), by decide +kernel⟩
theorem wd_1406 : WD (.methodLink RX9 134 yX9_changes) := ⟨List.mem_of_getElem? (i := 1406) (by decide +kernel), by decide +kernel⟩
theorem wd_1408 : WD (.instanceMethod yX9_changes) := ⟨List.mem_of_getElem? (i := 1408) (by decide +kernel), by decide +kernel⟩
theorem wd_1409 : WD (.code yX9_changes cX9_changes 1 none) := ⟨List.mem_of_getElem? (i := 1409) (by decide +kernel), by decide +kernel⟩
theorem wd_1410 : WD (.methodLink RX9 116 yX9_keepState) := ⟨List.mem_of_getElem? (i := 1410) (by decide +kernel), by decide +kernel⟩
theorem wd_1412 : WD (.instanceMethod yX9_keepState) := ⟨List.mem_of_getElem? (i := 1412) (by decide +kernel), by decide +kernel⟩
theorem wd_1413 : WD (.code yX9_keepState cX9_keepState 1 none) := ⟨List.mem_of_getElem? (i := 1413) (by decide +kernel), by decide +kernel⟩
theorem wd_1414 : WD (.methodLink RX9 110 arraycopyName) := ⟨List.mem_of_getElem? (i := 1414) (by decide +kernel), by decide +kernel⟩
theorem wd_1415 : WD (.methodLink RX9 119 yX9_change) := ⟨List.mem_of_getElem? (i := 1415) (by decide +kernel), by decide +kernel⟩
theorem wd_1417 : WD (.instanceMethod yX9_change) := ⟨List.mem_of_getElem? (i := 1417) (by decide +kernel), by decide +kernel⟩
theorem wd_1418 : WD (.code yX9_change cX9_change 1 none) := ⟨List.mem_of_getElem? (i := 1418) (by decide +kernel), by decide +kernel⟩
theorem wd_1419 : WD (.constantLong RX9 137 (-1)) := ⟨List.mem_of_getElem? (i := 1419) (by decide +kernel), by decide +kernel⟩
theorem wd_1421 : WD (.instanceMethod yX9_select) := ⟨List.mem_of_getElem? (i := 1421) (by decide +kernel), by decide +kernel⟩
theorem wd_1422 : WD (.selects yX9_select.cls yX9_select yX9_select) := ⟨List.mem_of_getElem? (i := 1422) (by decide +kernel), by decide +kernel⟩
theorem wd_1423 : WD (.code yX9_select cX9_select 3 (some .int)) := ⟨List.mem_of_getElem? (i := 1423) (by decide +kernel), by decide +kernel⟩
theorem wd_1424 : WD (.methodLink RX9 139 yX9_annotator) := ⟨List.mem_of_getElem? (i := 1424) (by decide +kernel), by decide +kernel⟩
theorem wd_1426 : WD (.instanceMethod yX9_annotator) := ⟨List.mem_of_getElem? (i := 1426) (by decide +kernel), by decide +kernel⟩
theorem wd_1427 : WD (.code yX9_annotator cX9_annotator 1 (some .int)) := ⟨List.mem_of_getElem? (i := 1427) (by decide +kernel), by decide +kernel⟩
theorem wd_1429 : WD (.instanceMethod yX9_setSetting) := ⟨List.mem_of_getElem? (i := 1429) (by decide +kernel), by decide +kernel⟩
theorem wd_1430 : WD (.selects yX9_setSetting.cls yX9_setSetting yX9_setSetting) := ⟨List.mem_of_getElem? (i := 1430) (by decide +kernel), by decide +kernel⟩
theorem wd_1431 : WD (.code yX9_setSetting cX9_setSetting 4 (some .int)) := ⟨List.mem_of_getElem? (i := 1431) (by decide +kernel), by decide +kernel⟩
theorem wd_1433 : WD (.instanceMethod yX9_tier) := ⟨List.mem_of_getElem? (i := 1433) (by decide +kernel), by decide +kernel⟩
theorem wd_1434 : WD (.selects yX9_tier.cls yX9_tier yX9_tier) := ⟨List.mem_of_getElem? (i := 1434) (by decide +kernel), by decide +kernel⟩
theorem wd_1435 : WD (.code yX9_tier cX9_tier 5 (some .int)) := ⟨List.mem_of_getElem? (i := 1435) (by decide +kernel), by decide +kernel⟩
theorem wd_1436 : WD (.methodLink RX9 149 yX9_many) := ⟨List.mem_of_getElem? (i := 1436) (by decide +kernel), by decide +kernel⟩
theorem wd_1438 : WD (.instanceMethod yX9_many) := ⟨List.mem_of_getElem? (i := 1438) (by decide +kernel), by decide +kernel⟩
theorem wd_1439 : WD (.code yX9_many cX9_many 2 (some .int)) := ⟨List.mem_of_getElem? (i := 1439) (by decide +kernel), by decide +kernel⟩
theorem wd_1440 : WD (.methodLink RX9 146 yX9_row_) := ⟨List.mem_of_getElem? (i := 1440) (by decide +kernel), by decide +kernel⟩
theorem wd_1442 : WD (.instanceMethod yX9_row_) := ⟨List.mem_of_getElem? (i := 1442) (by decide +kernel), by decide +kernel⟩
theorem wd_1443 : WD (.code yX9_row_ cX9_row_ 2 (some .int)) := ⟨List.mem_of_getElem? (i := 1443) (by decide +kernel), by decide +kernel⟩
theorem wd_1444 : WD (.methodLink RX9 142 yX9_row) := ⟨List.mem_of_getElem? (i := 1444) (by decide +kernel), by decide +kernel⟩
theorem wd_1445 : WD (.static yX9_row) := ⟨List.mem_of_getElem? (i := 1445) (by decide +kernel), by decide +kernel⟩
theorem wd_1446 : WD (.code yX9_row cX9_row 2 (some .int)) := ⟨List.mem_of_getElem? (i := 1446) (by decide +kernel), by decide +kernel⟩
theorem wd_1447 : WD (.methodLink RX9 181 yX9_framesOf) := ⟨List.mem_of_getElem? (i := 1447) (by decide +kernel), by decide +kernel⟩
theorem wd_1449 : WD (.instanceMethod yX9_framesOf) := ⟨List.mem_of_getElem? (i := 1449) (by decide +kernel), by decide +kernel⟩
theorem wd_1450 : WD (.code yX9_framesOf cX9_framesOf 6 (some .int)) := ⟨List.mem_of_getElem? (i := 1450) (by decide +kernel), by decide +kernel⟩
theorem wd_1451 : WD (.methodLink RX9 161 yX9_parent) := ⟨List.mem_of_getElem? (i := 1451) (by decide +kernel), by decide +kernel⟩
theorem wd_1453 : WD (.instanceMethod yX9_parent) := ⟨List.mem_of_getElem? (i := 1453) (by decide +kernel), by decide +kernel⟩
theorem wd_1454 : WD (.code yX9_parent cX9_parent 2 (some .int)) := ⟨List.mem_of_getElem? (i := 1454) (by decide +kernel), by decide +kernel⟩
theorem wd_1455 : WD (.methodLink RX9 184 yX9_differentLabels) := ⟨List.mem_of_getElem? (i := 1455) (by decide +kernel), by decide +kernel⟩
theorem wd_1457 : WD (.instanceMethod yX9_differentLabels) := ⟨List.mem_of_getElem? (i := 1457) (by decide +kernel), by decide +kernel⟩
theorem wd_1458 : WD (.code yX9_differentLabels cX9_differentLabels 6 (some .int)) := ⟨List.mem_of_getElem? (i := 1458) (by decide +kernel), by decide +kernel⟩
theorem wd_1459 : WD (.methodLink RX9 177 yX9_label) := ⟨List.mem_of_getElem? (i := 1459) (by decide +kernel), by decide +kernel⟩
theorem wd_1461 : WD (.instanceMethod yX9_label) := ⟨List.mem_of_getElem? (i := 1461) (by decide +kernel), by decide +kernel⟩
theorem wd_1462 : WD (.code yX9_label cX9_label 3 (some .long)) := ⟨List.mem_of_getElem? (i := 1462) (by decide +kernel), by decide +kernel⟩
theorem wd_1463 : WD (.methodLink RX9 152 yX9_at) := ⟨List.mem_of_getElem? (i := 1463) (by decide +kernel), by decide +kernel⟩
theorem wd_1465 : WD (.instanceMethod yX9_at) := ⟨List.mem_of_getElem? (i := 1465) (by decide +kernel), by decide +kernel⟩
theorem wd_1466 : WD (.code yX9_at cX9_at 3 (some .int)) := ⟨List.mem_of_getElem? (i := 1466) (by decide +kernel), by decide +kernel⟩
theorem wd_1468 : WD (.instanceMethod yX9_book) := ⟨List.mem_of_getElem? (i := 1468) (by decide +kernel), by decide +kernel⟩
theorem wd_1469 : WD (.selects yX9_book.cls yX9_book yX9_book) := ⟨List.mem_of_getElem? (i := 1469) (by decide +kernel), by decide +kernel⟩
theorem wd_1470 : WD (.code yX9_book cX9_book 4 (some .int)) := ⟨List.mem_of_getElem? (i := 1470) (by decide +kernel), by decide +kernel⟩
theorem wd_1472 : WD (.instanceMethod yX9_append) := ⟨List.mem_of_getElem? (i := 1472) (by decide +kernel), by decide +kernel⟩
theorem wd_1473 : WD (.selects yX9_append.cls yX9_append yX9_append) := ⟨List.mem_of_getElem? (i := 1473) (by decide +kernel), by decide +kernel⟩
theorem wd_1474 : WD (.code yX9_append cX9_append 5 (some .int)) := ⟨List.mem_of_getElem? (i := 1474) (by decide +kernel), by decide +kernel⟩
theorem wd_1476 : WD (.instanceMethod yX9_addSpan) := ⟨List.mem_of_getElem? (i := 1476) (by decide +kernel), by decide +kernel⟩
theorem wd_1477 : WD (.selects yX9_addSpan.cls yX9_addSpan yX9_addSpan) := ⟨List.mem_of_getElem? (i := 1477) (by decide +kernel), by decide +kernel⟩
theorem wd_1478 : WD (.code yX9_addSpan cX9_addSpan 7 (some .int)) := ⟨List.mem_of_getElem? (i := 1478) (by decide +kernel), by decide +kernel⟩
theorem wd_1479 : WD (.methodLink RX9 230 yX9_beginText) := ⟨List.mem_of_getElem? (i := 1479) (by decide +kernel), by decide +kernel⟩
theorem wd_1481 : WD (.instanceMethod yX9_beginText) := ⟨List.mem_of_getElem? (i := 1481) (by decide +kernel), by decide +kernel⟩
theorem wd_1482 : WD (.code yX9_beginText cX9_beginText 1 none) := ⟨List.mem_of_getElem? (i := 1482) (by decide +kernel), by decide +kernel⟩
theorem wd_1483 : WD (.methodLink RX9 233 yX9_kind) := ⟨List.mem_of_getElem? (i := 1483) (by decide +kernel), by decide +kernel⟩
theorem wd_1485 : WD (.instanceMethod yX9_kind) := ⟨List.mem_of_getElem? (i := 1485) (by decide +kernel), by decide +kernel⟩
theorem wd_1486 : WD (.code yX9_kind cX9_kind 2 (some .int)) := ⟨List.mem_of_getElem? (i := 1486) (by decide +kernel), by decide +kernel⟩
theorem wd_1487 : WD (.methodLink RX9 236 yX9_readLabel) := ⟨List.mem_of_getElem? (i := 1487) (by decide +kernel), by decide +kernel⟩
theorem wd_1489 : WD (.instanceMethod yX9_readLabel) := ⟨List.mem_of_getElem? (i := 1489) (by decide +kernel), by decide +kernel⟩
theorem wd_1490 : WD (.code yX9_readLabel cX9_readLabel 6 (some .long)) := ⟨List.mem_of_getElem? (i := 1490) (by decide +kernel), by decide +kernel⟩
theorem wd_1491 : WD (.methodLink RX9 197 yX9_here) := ⟨List.mem_of_getElem? (i := 1491) (by decide +kernel), by decide +kernel⟩
theorem wd_1493 : WD (.instanceMethod yX9_here) := ⟨List.mem_of_getElem? (i := 1493) (by decide +kernel), by decide +kernel⟩
theorem wd_1494 : WD (.code yX9_here cX9_here 1 (some .int)) := ⟨List.mem_of_getElem? (i := 1494) (by decide +kernel), by decide +kernel⟩
theorem wd_1495 : WD (.methodLink RX9 200 yX9_isOf) := ⟨List.mem_of_getElem? (i := 1495) (by decide +kernel), by decide +kernel⟩
theorem wd_1496 : WD (.static yX9_isOf) := ⟨List.mem_of_getElem? (i := 1496) (by decide +kernel), by decide +kernel⟩
theorem wd_1497 : WD (.code yX9_isOf cX9_isOf 2 (some .boolean)) := ⟨List.mem_of_getElem? (i := 1497) (by decide +kernel), by decide +kernel⟩
theorem wd_1498 : WD (.constantLong RX9 204 128) := ⟨List.mem_of_getElem? (i := 1498) (by decide +kernel), by decide +kernel⟩
theorem wd_1499 : WD (.methodLink RX9 240 yX9_endText) := ⟨List.mem_of_getElem? (i := 1499) (by decide +kernel), by decide +kernel⟩
theorem wd_1501 : WD (.instanceMethod yX9_endText) := ⟨List.mem_of_getElem? (i := 1501) (by decide +kernel), by decide +kernel⟩
theorem wd_1502 : WD (.code yX9_endText cX9_endText 1 (some .boolean)) := ⟨List.mem_of_getElem? (i := 1502) (by decide +kernel), by decide +kernel⟩
theorem wd_1503 : WD (.methodLink RX9 244 yX9_add) := ⟨List.mem_of_getElem? (i := 1503) (by decide +kernel), by decide +kernel⟩
theorem wd_1505 : WD (.instanceMethod yX9_add) := ⟨List.mem_of_getElem? (i := 1505) (by decide +kernel), by decide +kernel⟩
theorem wd_1506 : WD (.code yX9_add cX9_add 6 (some .int)) := ⟨List.mem_of_getElem? (i := 1506) (by decide +kernel), by decide +kernel⟩
theorem wd_1507 : WD (.methodLink RX9 222 yX9_areRefused) := ⟨List.mem_of_getElem? (i := 1507) (by decide +kernel), by decide +kernel⟩
theorem wd_1509 : WD (.instanceMethod yX9_areRefused) := ⟨List.mem_of_getElem? (i := 1509) (by decide +kernel), by decide +kernel⟩
theorem wd_1510 : WD (.code yX9_areRefused cX9_areRefused 6 (some .boolean)) := ⟨List.mem_of_getElem? (i := 1510) (by decide +kernel), by decide +kernel⟩
theorem wd_1511 : WD (.methodLink RX9 212 yX9_areFrames) := ⟨List.mem_of_getElem? (i := 1511) (by decide +kernel), by decide +kernel⟩
theorem wd_1512 : WD (.static yX9_areFrames) := ⟨List.mem_of_getElem? (i := 1512) (by decide +kernel), by decide +kernel⟩
theorem wd_1513 : WD (.code yX9_areFrames cX9_areFrames 2 (some .boolean)) := ⟨List.mem_of_getElem? (i := 1513) (by decide +kernel), by decide +kernel⟩
theorem wd_1514 : WD (.methodLink RX9 215 yX9_isRefused) := ⟨List.mem_of_getElem? (i := 1514) (by decide +kernel), by decide +kernel⟩
theorem wd_1516 : WD (.instanceMethod yX9_isRefused) := ⟨List.mem_of_getElem? (i := 1516) (by decide +kernel), by decide +kernel⟩
theorem wd_1517 : WD (.code yX9_isRefused cX9_isRefused 3 (some .boolean)) := ⟨List.mem_of_getElem? (i := 1517) (by decide +kernel), by decide +kernel⟩
theorem wd_1518 : WD (.methodLink RX9 218 yX9_inTheWay) := ⟨List.mem_of_getElem? (i := 1518) (by decide +kernel), by decide +kernel⟩
theorem wd_1520 : WD (.instanceMethod yX9_inTheWay) := ⟨List.mem_of_getElem? (i := 1520) (by decide +kernel), by decide +kernel⟩
theorem wd_1521 : WD (.code yX9_inTheWay cX9_inTheWay 6 (some .int)) := ⟨List.mem_of_getElem? (i := 1521) (by decide +kernel), by decide +kernel⟩
theorem wd_1522 : WD (.methodLink RX9 155 yX9_first) := ⟨List.mem_of_getElem? (i := 1522) (by decide +kernel), by decide +kernel⟩
theorem wd_1524 : WD (.instanceMethod yX9_first) := ⟨List.mem_of_getElem? (i := 1524) (by decide +kernel), by decide +kernel⟩
theorem wd_1525 : WD (.code yX9_first cX9_first 3 (some .int)) := ⟨List.mem_of_getElem? (i := 1525) (by decide +kernel), by decide +kernel⟩
theorem wd_1526 : WD (.methodLink RX9 164 yX9_end) := ⟨List.mem_of_getElem? (i := 1526) (by decide +kernel), by decide +kernel⟩
theorem wd_1528 : WD (.instanceMethod yX9_end) := ⟨List.mem_of_getElem? (i := 1528) (by decide +kernel), by decide +kernel⟩
theorem wd_1529 : WD (.code yX9_end cX9_end 3 (some .int)) := ⟨List.mem_of_getElem? (i := 1529) (by decide +kernel), by decide +kernel⟩
theorem wd_1530 : WD (.methodLink RX9 171 yX9_lacksHost) := ⟨List.mem_of_getElem? (i := 1530) (by decide +kernel), by decide +kernel⟩
theorem wd_1532 : WD (.instanceMethod yX9_lacksHost) := ⟨List.mem_of_getElem? (i := 1532) (by decide +kernel), by decide +kernel⟩
theorem wd_1533 : WD (.code yX9_lacksHost cX9_lacksHost 4 (some .boolean)) := ⟨List.mem_of_getElem? (i := 1533) (by decide +kernel), by decide +kernel⟩
theorem wd_1534 : WD (.methodLink RX9 158 yX9_rule) := ⟨List.mem_of_getElem? (i := 1534) (by decide +kernel), by decide +kernel⟩
theorem wd_1536 : WD (.instanceMethod yX9_rule) := ⟨List.mem_of_getElem? (i := 1536) (by decide +kernel), by decide +kernel⟩
theorem wd_1537 : WD (.code yX9_rule cX9_rule 2 (some .int)) := ⟨List.mem_of_getElem? (i := 1537) (by decide +kernel), by decide +kernel⟩
theorem wd_1538 : WD (.methodLink RX9 167 yX9_hostOf) := ⟨List.mem_of_getElem? (i := 1538) (by decide +kernel), by decide +kernel⟩
theorem wd_1540 : WD (.instanceMethod yX9_hostOf) := ⟨List.mem_of_getElem? (i := 1540) (by decide +kernel), by decide +kernel⟩
theorem wd_1541 : WD (.code yX9_hostOf cX9_hostOf 10 (some .int)) := ⟨List.mem_of_getElem? (i := 1541) (by decide +kernel), by decide +kernel⟩
theorem wd_1542 : WD (.methodLink RX9 226 yX9_putIn) := ⟨List.mem_of_getElem? (i := 1542) (by decide +kernel), by decide +kernel⟩
theorem wd_1544 : WD (.instanceMethod yX9_putIn) := ⟨List.mem_of_getElem? (i := 1544) (by decide +kernel), by decide +kernel⟩
theorem wd_1545 : WD (.code yX9_putIn cX9_putIn 7 (some .int)) := ⟨List.mem_of_getElem? (i := 1545) (by decide +kernel), by decide +kernel⟩
theorem wd_1547 : WD (.instanceMethod yX9_removeSpan) := ⟨List.mem_of_getElem? (i := 1547) (by decide +kernel), by decide +kernel⟩
theorem wd_1548 : WD (.selects yX9_removeSpan.cls yX9_removeSpan yX9_removeSpan) := ⟨List.mem_of_getElem? (i := 1548) (by decide +kernel), by decide +kernel⟩
theorem wd_1549 : WD (.code yX9_removeSpan cX9_removeSpan 6 (some .int)) := ⟨List.mem_of_getElem? (i := 1549) (by decide +kernel), by decide +kernel⟩
theorem wd_1550 : WD (.methodLink RX9 247 yX9_isSpan) := ⟨List.mem_of_getElem? (i := 1550) (by decide +kernel), by decide +kernel⟩
theorem wd_1552 : WD (.instanceMethod yX9_isSpan) := ⟨List.mem_of_getElem? (i := 1552) (by decide +kernel), by decide +kernel⟩
theorem wd_1553 : WD (.code yX9_isSpan cX9_isSpan 3 (some .boolean)) := ⟨List.mem_of_getElem? (i := 1553) (by decide +kernel), by decide +kernel⟩
theorem wd_1554 : WD (.methodLink RX9 250 yX9_takeOut) := ⟨List.mem_of_getElem? (i := 1554) (by decide +kernel), by decide +kernel⟩
theorem wd_1556 : WD (.instanceMethod yX9_takeOut) := ⟨List.mem_of_getElem? (i := 1556) (by decide +kernel), by decide +kernel⟩
theorem wd_1557 : WD (.code yX9_takeOut cX9_takeOut 3 none) := ⟨List.mem_of_getElem? (i := 1557) (by decide +kernel), by decide +kernel⟩
theorem wd_1558 : WD (.methodLink RX9 174 yX9_hostless) := ⟨List.mem_of_getElem? (i := 1558) (by decide +kernel), by decide +kernel⟩
theorem wd_1560 : WD (.instanceMethod yX9_hostless) := ⟨List.mem_of_getElem? (i := 1560) (by decide +kernel), by decide +kernel⟩
theorem wd_1561 : WD (.code yX9_hostless cX9_hostless 3 (some .int)) := ⟨List.mem_of_getElem? (i := 1561) (by decide +kernel), by decide +kernel⟩
theorem wd_1563 : WD (.instanceMethod yX9_moveSpan) := ⟨List.mem_of_getElem? (i := 1563) (by decide +kernel), by decide +kernel⟩
theorem wd_1564 : WD (.selects yX9_moveSpan.cls yX9_moveSpan yX9_moveSpan) := ⟨List.mem_of_getElem? (i := 1564) (by decide +kernel), by decide +kernel⟩
theorem wd_1565 : WD (.code yX9_moveSpan cX9_moveSpan 8 (some .int)) := ⟨List.mem_of_getElem? (i := 1565) (by decide +kernel), by decide +kernel⟩
theorem wd_1566 : WD (.methodLink RX9 260 yX9_stays) := ⟨List.mem_of_getElem? (i := 1566) (by decide +kernel), by decide +kernel⟩
theorem wd_1568 : WD (.instanceMethod yX9_stays) := ⟨List.mem_of_getElem? (i := 1568) (by decide +kernel), by decide +kernel⟩
theorem wd_1569 : WD (.code yX9_stays cX9_stays 3 (some .boolean)) := ⟨List.mem_of_getElem? (i := 1569) (by decide +kernel), by decide +kernel⟩
theorem wd_1570 : WD (.methodLink RX9 254 yX9_hostlessTier) := ⟨List.mem_of_getElem? (i := 1570) (by decide +kernel), by decide +kernel⟩
theorem wd_1572 : WD (.instanceMethod yX9_hostlessTier) := ⟨List.mem_of_getElem? (i := 1572) (by decide +kernel), by decide +kernel⟩
theorem wd_1573 : WD (.code yX9_hostlessTier cX9_hostlessTier 2 (some .int)) := ⟨List.mem_of_getElem? (i := 1573) (by decide +kernel), by decide +kernel⟩
theorem wd_1574 : WD (.methodLink RX9 257 yX9_putBack) := ⟨List.mem_of_getElem? (i := 1574) (by decide +kernel), by decide +kernel⟩
theorem wd_1576 : WD (.instanceMethod yX9_putBack) := ⟨List.mem_of_getElem? (i := 1576) (by decide +kernel), by decide +kernel⟩
theorem wd_1577 : WD (.code yX9_putBack cX9_putBack 1 none) := ⟨List.mem_of_getElem? (i := 1577) (by decide +kernel), by decide +kernel⟩
theorem wd_1579 : WD (.instanceMethod yX9_rename) := ⟨List.mem_of_getElem? (i := 1579) (by decide +kernel), by decide +kernel⟩
theorem wd_1580 : WD (.selects yX9_rename.cls yX9_rename yX9_rename) := ⟨List.mem_of_getElem? (i := 1580) (by decide +kernel), by decide +kernel⟩
theorem wd_1581 : WD (.code yX9_rename cX9_rename 6 (some .int)) := ⟨List.mem_of_getElem? (i := 1581) (by decide +kernel), by decide +kernel⟩
theorem wd_1583 : WD (.instanceMethod yX9_split) := ⟨List.mem_of_getElem? (i := 1583) (by decide +kernel), by decide +kernel⟩
theorem wd_1584 : WD (.selects yX9_split.cls yX9_split yX9_split) := ⟨List.mem_of_getElem? (i := 1584) (by decide +kernel), by decide +kernel⟩
theorem wd_1585 : WD (.code yX9_split cX9_split 11 (some .int)) := ⟨List.mem_of_getElem? (i := 1585) (by decide +kernel), by decide +kernel⟩
theorem wd_1586 : WD (.methodLink RX9 263 yX9_splitFull) := ⟨List.mem_of_getElem? (i := 1586) (by decide +kernel), by decide +kernel⟩
theorem wd_1588 : WD (.instanceMethod yX9_splitFull) := ⟨List.mem_of_getElem? (i := 1588) (by decide +kernel), by decide +kernel⟩
theorem wd_1589 : WD (.code yX9_splitFull cX9_splitFull 10 (some .int)) := ⟨List.mem_of_getElem? (i := 1589) (by decide +kernel), by decide +kernel⟩
theorem wd_1590 : WD (.methodLink RX9 266 yX9_isHosted) := ⟨List.mem_of_getElem? (i := 1590) (by decide +kernel), by decide +kernel⟩
theorem wd_1592 : WD (.instanceMethod yX9_isHosted) := ⟨List.mem_of_getElem? (i := 1592) (by decide +kernel), by decide +kernel⟩
theorem wd_1593 : WD (.code yX9_isHosted cX9_isHosted 7 (some .boolean)) := ⟨List.mem_of_getElem? (i := 1593) (by decide +kernel), by decide +kernel⟩
theorem wd_1595 : WD (.instanceMethod yX9_join) := ⟨List.mem_of_getElem? (i := 1595) (by decide +kernel), by decide +kernel⟩
theorem wd_1596 : WD (.selects yX9_join.cls yX9_join yX9_join) := ⟨List.mem_of_getElem? (i := 1596) (by decide +kernel), by decide +kernel⟩
theorem wd_1597 : WD (.code yX9_join cX9_join 7 (some .int)) := ⟨List.mem_of_getElem? (i := 1597) (by decide +kernel), by decide +kernel⟩
theorem wd_1599 : WD (.instanceMethod yX9_span) := ⟨List.mem_of_getElem? (i := 1599) (by decide +kernel), by decide +kernel⟩
theorem wd_1600 : WD (.selects yX9_span.cls yX9_span yX9_span) := ⟨List.mem_of_getElem? (i := 1600) (by decide +kernel), by decide +kernel⟩
theorem wd_1601 : WD (.code yX9_span cX9_span 4 (some .int)) := ⟨List.mem_of_getElem? (i := 1601) (by decide +kernel), by decide +kernel⟩
theorem wd_1602 : WD (.methodLink RX9 269 yX9_lengthOf) := ⟨List.mem_of_getElem? (i := 1602) (by decide +kernel), by decide +kernel⟩
theorem wd_1603 : WD (.static yX9_lengthOf) := ⟨List.mem_of_getElem? (i := 1603) (by decide +kernel), by decide +kernel⟩
theorem wd_1604 : WD (.code yX9_lengthOf cX9_lengthOf 5 (some .int)) := ⟨List.mem_of_getElem? (i := 1604) (by decide +kernel), by decide +kernel⟩
theorem wd_1605 : WD (.methodLink RX9 273 yX9_hosted) := ⟨List.mem_of_getElem? (i := 1605) (by decide +kernel), by decide +kernel⟩
theorem wd_1607 : WD (.instanceMethod yX9_hosted) := ⟨List.mem_of_getElem? (i := 1607) (by decide +kernel), by decide +kernel⟩
theorem wd_1608 : WD (.code yX9_hosted cX9_hosted 6 (some .int)) := ⟨List.mem_of_getElem? (i := 1608) (by decide +kernel), by decide +kernel⟩
theorem wd_1610 : WD (.instanceMethod yX9_letter) := ⟨List.mem_of_getElem? (i := 1610) (by decide +kernel), by decide +kernel⟩
theorem wd_1611 : WD (.selects yX9_letter.cls yX9_letter yX9_letter) := ⟨List.mem_of_getElem? (i := 1611) (by decide +kernel), by decide +kernel⟩
theorem wd_1612 : WD (.code yX9_letter cX9_letter 6 (some .char)) := ⟨List.mem_of_getElem? (i := 1612) (by decide +kernel), by decide +kernel⟩
theorem wd_1613 : WD (.constantLong RX9 276 127) := ⟨List.mem_of_getElem? (i := 1613) (by decide +kernel), by decide +kernel⟩
theorem wd_1615 : WD (.instanceMethod yX9_spanAt) := ⟨List.mem_of_getElem? (i := 1615) (by decide +kernel), by decide +kernel⟩
theorem wd_1616 : WD (.selects yX9_spanAt.cls yX9_spanAt yX9_spanAt) := ⟨List.mem_of_getElem? (i := 1616) (by decide +kernel), by decide +kernel⟩
theorem wd_1617 : WD (.code yX9_spanAt cX9_spanAt 5 (some .int)) := ⟨List.mem_of_getElem? (i := 1617) (by decide +kernel), by decide +kernel⟩
theorem wd_1619 : WD (.instanceMethod yX9_refusal) := ⟨List.mem_of_getElem? (i := 1619) (by decide +kernel), by decide +kernel⟩
theorem wd_1620 : WD (.selects yX9_refusal.cls yX9_refusal yX9_refusal) := ⟨List.mem_of_getElem? (i := 1620) (by decide +kernel), by decide +kernel⟩
theorem wd_1621 : WD (.code yX9_refusal cX9_refusal 2 (some .int)) := ⟨List.mem_of_getElem? (i := 1621) (by decide +kernel), by decide +kernel⟩
theorem wd_1623 : WD (.instanceMethod yX9_aligned) := ⟨List.mem_of_getElem? (i := 1623) (by decide +kernel), by decide +kernel⟩
theorem wd_1624 : WD (.selects yX9_aligned.cls yX9_aligned yX9_aligned) := ⟨List.mem_of_getElem? (i := 1624) (by decide +kernel), by decide +kernel⟩
theorem wd_1625 : WD (.code yX9_aligned cX9_aligned 8 (some .int)) := ⟨List.mem_of_getElem? (i := 1625) (by decide +kernel), by decide +kernel⟩
theorem wd_1626 : WD (.methodLink RX9 293 yX9_align) := ⟨List.mem_of_getElem? (i := 1626) (by decide +kernel), by decide +kernel⟩
theorem wd_1628 : WD (.instanceMethod yX9_align) := ⟨List.mem_of_getElem? (i := 1628) (by decide +kernel), by decide +kernel⟩
theorem wd_1629 : WD (.code yX9_align cX9_align 7 none) := ⟨List.mem_of_getElem? (i := 1629) (by decide +kernel), by decide +kernel⟩
theorem wd_1630 : WD (.methodLink RX9 286 yX9_cell) := ⟨List.mem_of_getElem? (i := 1630) (by decide +kernel), by decide +kernel⟩
theorem wd_1631 : WD (.static yX9_cell) := ⟨List.mem_of_getElem? (i := 1631) (by decide +kernel), by decide +kernel⟩
theorem wd_1632 : WD (.code yX9_cell cX9_cell 2 (some .int)) := ⟨List.mem_of_getElem? (i := 1632) (by decide +kernel), by decide +kernel⟩
theorem wd_1633 : WD (.methodLink RX9 289 yX9_take) := ⟨List.mem_of_getElem? (i := 1633) (by decide +kernel), by decide +kernel⟩
theorem wd_1635 : WD (.instanceMethod yX9_take) := ⟨List.mem_of_getElem? (i := 1635) (by decide +kernel), by decide +kernel⟩
theorem wd_1636 : WD (.code yX9_take cX9_take 7 none) := ⟨List.mem_of_getElem? (i := 1636) (by decide +kernel), by decide +kernel⟩
theorem wd_1637 : WD (.methodLink RX9 283 yX9_distance) := ⟨List.mem_of_getElem? (i := 1637) (by decide +kernel), by decide +kernel⟩
theorem wd_1639 : WD (.instanceMethod yX9_distance) := ⟨List.mem_of_getElem? (i := 1639) (by decide +kernel), by decide +kernel⟩
theorem wd_1640 : WD (.code yX9_distance cX9_distance 5 (some .int)) := ⟨List.mem_of_getElem? (i := 1640) (by decide +kernel), by decide +kernel⟩
theorem wd_1641 : WD (.methodLink RX9 278 Lib.Math.abs.name) := ⟨List.mem_of_getElem? (i := 1641) (by decide +kernel), by decide +kernel⟩
theorem wd_1642 : WD (.methodLink RX9 296 yX9_isBestPair) := ⟨List.mem_of_getElem? (i := 1642) (by decide +kernel), by decide +kernel⟩
theorem wd_1644 : WD (.instanceMethod yX9_isBestPair) := ⟨List.mem_of_getElem? (i := 1644) (by decide +kernel), by decide +kernel⟩
theorem wd_1645 : WD (.code yX9_isBestPair cX9_isBestPair 8 (some .boolean)) := ⟨List.mem_of_getElem? (i := 1645) (by decide +kernel), by decide +kernel⟩
theorem wd_1647 : WD (.instanceMethod yX9_alignment) := ⟨List.mem_of_getElem? (i := 1647) (by decide +kernel), by decide +kernel⟩
theorem wd_1648 : WD (.selects yX9_alignment.cls yX9_alignment yX9_alignment) := ⟨List.mem_of_getElem? (i := 1648) (by decide +kernel), by decide +kernel⟩
theorem wd_1649 : WD (.code yX9_alignment cX9_alignment 4 (some .int)) := ⟨List.mem_of_getElem? (i := 1649) (by decide +kernel), by decide +kernel⟩
theorem wd_1651 : WD (.instanceMethod yX9_search) := ⟨List.mem_of_getElem? (i := 1651) (by decide +kernel), by decide +kernel⟩
theorem wd_1652 : WD (.selects yX9_search.cls yX9_search yX9_search) := ⟨List.mem_of_getElem? (i := 1652) (by decide +kernel), by decide +kernel⟩
theorem wd_1653 : WD (.code yX9_search cX9_search 2 (some .int)) := ⟨List.mem_of_getElem? (i := 1653) (by decide +kernel), by decide +kernel⟩
theorem wd_1654 : WD (.methodLink RX9 313 yX9_isPatternWrong) := ⟨List.mem_of_getElem? (i := 1654) (by decide +kernel), by decide +kernel⟩
theorem wd_1656 : WD (.instanceMethod yX9_isPatternWrong) := ⟨List.mem_of_getElem? (i := 1656) (by decide +kernel), by decide +kernel⟩
theorem wd_1657 : WD (.code yX9_isPatternWrong cX9_isPatternWrong 1 (some .boolean)) := ⟨List.mem_of_getElem? (i := 1657) (by decide +kernel), by decide +kernel⟩
theorem wd_1658 : WD (.methodLink RX9 310 yX9_readPart) := ⟨List.mem_of_getElem? (i := 1658) (by decide +kernel), by decide +kernel⟩
theorem wd_1660 : WD (.instanceMethod yX9_readPart) := ⟨List.mem_of_getElem? (i := 1660) (by decide +kernel), by decide +kernel⟩
theorem wd_1661 : WD (.code yX9_readPart cX9_readPart 2 none) := ⟨List.mem_of_getElem? (i := 1661) (by decide +kernel), by decide +kernel⟩
theorem wd_1662 : WD (.methodLink RX9 300 yX9_readTierNumber) := ⟨List.mem_of_getElem? (i := 1662) (by decide +kernel), by decide +kernel⟩
theorem wd_1664 : WD (.instanceMethod yX9_readTierNumber) := ⟨List.mem_of_getElem? (i := 1664) (by decide +kernel), by decide +kernel⟩
theorem wd_1665 : WD (.code yX9_readTierNumber cX9_readTierNumber 1 (some .int)) := ⟨List.mem_of_getElem? (i := 1665) (by decide +kernel), by decide +kernel⟩
theorem wd_1666 : WD (.methodLink RX9 303 yX9_sign) := ⟨List.mem_of_getElem? (i := 1666) (by decide +kernel), by decide +kernel⟩
theorem wd_1668 : WD (.instanceMethod yX9_sign) := ⟨List.mem_of_getElem? (i := 1668) (by decide +kernel), by decide +kernel⟩
theorem wd_1669 : WD (.code yX9_sign cX9_sign 2 none) := ⟨List.mem_of_getElem? (i := 1669) (by decide +kernel), by decide +kernel⟩
theorem wd_1670 : WD (.methodLink RX9 322 yX9_match) := ⟨List.mem_of_getElem? (i := 1670) (by decide +kernel), by decide +kernel⟩
theorem wd_1672 : WD (.instanceMethod yX9_match) := ⟨List.mem_of_getElem? (i := 1672) (by decide +kernel), by decide +kernel⟩
theorem wd_1673 : WD (.code yX9_match cX9_match 5 none) := ⟨List.mem_of_getElem? (i := 1673) (by decide +kernel), by decide +kernel⟩
theorem wd_1674 : WD (.methodLink RX9 327 yX9_isFitting) := ⟨List.mem_of_getElem? (i := 1674) (by decide +kernel), by decide +kernel⟩
theorem wd_1676 : WD (.instanceMethod yX9_isFitting) := ⟨List.mem_of_getElem? (i := 1676) (by decide +kernel), by decide +kernel⟩
theorem wd_1677 : WD (.code yX9_isFitting cX9_isFitting 6 (some .boolean)) := ⟨List.mem_of_getElem? (i := 1677) (by decide +kernel), by decide +kernel⟩
theorem wd_1678 : WD (.constantLong RX9 325 98) := ⟨List.mem_of_getElem? (i := 1678) (by decide +kernel), by decide +kernel⟩
theorem wd_1679 : WD (.methodLink RX9 330 yX9_isLinked) := ⟨List.mem_of_getElem? (i := 1679) (by decide +kernel), by decide +kernel⟩
theorem wd_1681 : WD (.instanceMethod yX9_isLinked) := ⟨List.mem_of_getElem? (i := 1681) (by decide +kernel), by decide +kernel⟩
theorem wd_1682 : WD (.code yX9_isLinked cX9_isLinked 7 (some .boolean)) := ⟨List.mem_of_getElem? (i := 1682) (by decide +kernel), by decide +kernel⟩
theorem wd_1684 : WD (.instanceMethod yX9_match_) := ⟨List.mem_of_getElem? (i := 1684) (by decide +kernel), by decide +kernel⟩
theorem wd_1685 : WD (.selects yX9_match_.cls yX9_match_ yX9_match_) := ⟨List.mem_of_getElem? (i := 1685) (by decide +kernel), by decide +kernel⟩
theorem wd_1686 : WD (.code yX9_match_ cX9_match_ 3 (some .int)) := ⟨List.mem_of_getElem? (i := 1686) (by decide +kernel), by decide +kernel⟩
theorem wd_1688 : WD (.instanceMethod yX9_merge) := ⟨List.mem_of_getElem? (i := 1688) (by decide +kernel), by decide +kernel⟩
theorem wd_1689 : WD (.selects yX9_merge.cls yX9_merge yX9_merge) := ⟨List.mem_of_getElem? (i := 1689) (by decide +kernel), by decide +kernel⟩
theorem wd_1690 : WD (.code yX9_merge cX9_merge 6 (some .int)) := ⟨List.mem_of_getElem? (i := 1690) (by decide +kernel), by decide +kernel⟩
theorem wd_1691 : WD (.methodLink RX9 352 yX9_mergeTier) := ⟨List.mem_of_getElem? (i := 1691) (by decide +kernel), by decide +kernel⟩
theorem wd_1693 : WD (.instanceMethod yX9_mergeTier) := ⟨List.mem_of_getElem? (i := 1693) (by decide +kernel), by decide +kernel⟩
theorem wd_1694 : WD (.code yX9_mergeTier cX9_mergeTier 10 none) := ⟨List.mem_of_getElem? (i := 1694) (by decide +kernel), by decide +kernel⟩
theorem wd_1695 : WD (.methodLink RX9 349 yX9_mergeIn) := ⟨List.mem_of_getElem? (i := 1695) (by decide +kernel), by decide +kernel⟩
theorem wd_1697 : WD (.instanceMethod yX9_mergeIn) := ⟨List.mem_of_getElem? (i := 1697) (by decide +kernel), by decide +kernel⟩
theorem wd_1698 : WD (.code yX9_mergeIn cX9_mergeIn 7 none) := ⟨List.mem_of_getElem? (i := 1698) (by decide +kernel), by decide +kernel⟩
theorem wd_1699 : WD (.methodLink RX9 336 yX9_put) := ⟨List.mem_of_getElem? (i := 1699) (by decide +kernel), by decide +kernel⟩
theorem wd_1701 : WD (.instanceMethod yX9_put) := ⟨List.mem_of_getElem? (i := 1701) (by decide +kernel), by decide +kernel⟩
theorem wd_1702 : WD (.code yX9_put cX9_put 6 none) := ⟨List.mem_of_getElem? (i := 1702) (by decide +kernel), by decide +kernel⟩
theorem wd_1703 : WD (.methodLink RX9 340 Lib.Math.max.name) := ⟨List.mem_of_getElem? (i := 1703) (by decide +kernel), by decide +kernel⟩
theorem wd_1705 : WD (.instanceMethod yX9_merged) := ⟨List.mem_of_getElem? (i := 1705) (by decide +kernel), by decide +kernel⟩
theorem wd_1706 : WD (.selects yX9_merged.cls yX9_merged yX9_merged) := ⟨List.mem_of_getElem? (i := 1706) (by decide +kernel), by decide +kernel⟩
theorem wd_1707 : WD (.code yX9_merged cX9_merged 4 (some .int)) := ⟨List.mem_of_getElem? (i := 1707) (by decide +kernel), by decide +kernel⟩
theorem wd_1709 : WD (.instanceMethod yX9_frames) := ⟨List.mem_of_getElem? (i := 1709) (by decide +kernel), by decide +kernel⟩
theorem wd_1710 : WD (.selects yX9_frames.cls yX9_frames yX9_frames) := ⟨List.mem_of_getElem? (i := 1710) (by decide +kernel), by decide +kernel⟩
theorem wd_1711 : WD (.code yX9_frames cX9_frames 3 (some .int)) := ⟨List.mem_of_getElem? (i := 1711) (by decide +kernel), by decide +kernel⟩
theorem wd_1712 : WD (.methodLink RX9 370 yX9_compareFrames) := ⟨List.mem_of_getElem? (i := 1712) (by decide +kernel), by decide +kernel⟩
theorem wd_1714 : WD (.instanceMethod yX9_compareFrames) := ⟨List.mem_of_getElem? (i := 1714) (by decide +kernel), by decide +kernel⟩
theorem wd_1715 : WD (.code yX9_compareFrames cX9_compareFrames 8 none) := ⟨List.mem_of_getElem? (i := 1715) (by decide +kernel), by decide +kernel⟩
theorem wd_1716 : WD (.methodLink RX9 355 yX9_layOut) := ⟨List.mem_of_getElem? (i := 1716) (by decide +kernel), by decide +kernel⟩
theorem wd_1718 : WD (.instanceMethod yX9_layOut) := ⟨List.mem_of_getElem? (i := 1718) (by decide +kernel), by decide +kernel⟩
theorem wd_1719 : WD (.code yX9_layOut cX9_layOut 7 none) := ⟨List.mem_of_getElem? (i := 1719) (by decide +kernel), by decide +kernel⟩
theorem wd_1721 : WD (.instanceMethod yX9_agreement) := ⟨List.mem_of_getElem? (i := 1721) (by decide +kernel), by decide +kernel⟩
theorem wd_1722 : WD (.selects yX9_agreement.cls yX9_agreement yX9_agreement) := ⟨List.mem_of_getElem? (i := 1722) (by decide +kernel), by decide +kernel⟩
theorem wd_1723 : WD (.code yX9_agreement cX9_agreement 2 (some .float)) := ⟨List.mem_of_getElem? (i := 1723) (by decide +kernel), by decide +kernel⟩
theorem wd_1725 : WD (.instanceMethod yX9_kappa) := ⟨List.mem_of_getElem? (i := 1725) (by decide +kernel), by decide +kernel⟩
theorem wd_1726 : WD (.selects yX9_kappa.cls yX9_kappa yX9_kappa) := ⟨List.mem_of_getElem? (i := 1726) (by decide +kernel), by decide +kernel⟩
theorem wd_1727 : WD (.code yX9_kappa cX9_kappa 7 (some .double)) := ⟨List.mem_of_getElem? (i := 1727) (by decide +kernel), by decide +kernel⟩
theorem wd_1728 : WD (.methodLink RX9 377 yX9_products) := ⟨List.mem_of_getElem? (i := 1728) (by decide +kernel), by decide +kernel⟩
theorem wd_1730 : WD (.instanceMethod yX9_products) := ⟨List.mem_of_getElem? (i := 1730) (by decide +kernel), by decide +kernel⟩
theorem wd_1731 : WD (.code yX9_products cX9_products 5 (some .int)) := ⟨List.mem_of_getElem? (i := 1731) (by decide +kernel), by decide +kernel⟩
theorem wd_1732 : WD (.methodLink RX9 373 yX9_labelledAs) := ⟨List.mem_of_getElem? (i := 1732) (by decide +kernel), by decide +kernel⟩
theorem wd_1734 : WD (.instanceMethod yX9_labelledAs) := ⟨List.mem_of_getElem? (i := 1734) (by decide +kernel), by decide +kernel⟩
theorem wd_1735 : WD (.code yX9_labelledAs cX9_labelledAs 8 (some .int)) := ⟨List.mem_of_getElem? (i := 1735) (by decide +kernel), by decide +kernel⟩
theorem wd_1736 : WD (.constant RX9 380 1000000) := ⟨List.mem_of_getElem? (i := 1736) (by decide +kernel), by decide +kernel⟩
theorem wd_1737 : WD (.constantDouble RX9 381 4652007308841189376) := ⟨List.mem_of_getElem? (i := 1737) (by decide +kernel), by decide +kernel⟩
theorem wd_1738 : WD (.constantDouble RX9 383 4696837146684686336) := ⟨List.mem_of_getElem? (i := 1738) (by decide +kernel), by decide +kernel⟩
theorem wd_1740 : WD (.instanceMethod yX9_isConsistent) := ⟨List.mem_of_getElem? (i := 1740) (by decide +kernel), by decide +kernel⟩
theorem wd_1741 : WD (.selects yX9_isConsistent.cls yX9_isConsistent yX9_isConsistent) := ⟨List.mem_of_getElem? (i := 1741) (by decide +kernel), by decide +kernel⟩
theorem wd_1742 : WD (.code yX9_isConsistent cX9_isConsistent 1 (some .boolean)) := ⟨List.mem_of_getElem? (i := 1742) (by decide +kernel), by decide +kernel⟩
theorem wd_1744 : WD (.instanceMethod yX9_read) := ⟨List.mem_of_getElem? (i := 1744) (by decide +kernel), by decide +kernel⟩
theorem wd_1745 : WD (.selects yX9_read.cls yX9_read yX9_read) := ⟨List.mem_of_getElem? (i := 1745) (by decide +kernel), by decide +kernel⟩
theorem wd_1746 : WD (.code yX9_read cX9_read 2 (some .int)) := ⟨List.mem_of_getElem? (i := 1746) (by decide +kernel), by decide +kernel⟩
theorem wd_1747 : WD (.methodLink RX9 391 yX9_readItem) := ⟨List.mem_of_getElem? (i := 1747) (by decide +kernel), by decide +kernel⟩
theorem wd_1749 : WD (.instanceMethod yX9_readItem) := ⟨List.mem_of_getElem? (i := 1749) (by decide +kernel), by decide +kernel⟩
theorem wd_1750 : WD (.code yX9_readItem cX9_readItem 1 none) := ⟨List.mem_of_getElem? (i := 1750) (by decide +kernel), by decide +kernel⟩
theorem wd_1751 : WD (.methodLink RX9 388 yX9_number) := ⟨List.mem_of_getElem? (i := 1751) (by decide +kernel), by decide +kernel⟩
theorem wd_1753 : WD (.instanceMethod yX9_number) := ⟨List.mem_of_getElem? (i := 1753) (by decide +kernel), by decide +kernel⟩
theorem wd_1754 : WD (.code yX9_number cX9_number 4 (some .int)) := ⟨List.mem_of_getElem? (i := 1754) (by decide +kernel), by decide +kernel⟩
theorem wd_1756 : WD (.instanceMethod yX9_errorPosition) := ⟨List.mem_of_getElem? (i := 1756) (by decide +kernel), by decide +kernel⟩
theorem wd_1757 : WD (.selects yX9_errorPosition.cls yX9_errorPosition yX9_errorPosition) := ⟨List.mem_of_getElem? (i := 1757) (by decide +kernel), by decide +kernel⟩
theorem wd_1758 : WD (.code yX9_errorPosition cX9_errorPosition 1 (some .int)) := ⟨List.mem_of_getElem? (i := 1758) (by decide +kernel), by decide +kernel⟩
theorem wd_1760 : WD (.instanceMethod yX9_refusedItem) := ⟨List.mem_of_getElem? (i := 1760) (by decide +kernel), by decide +kernel⟩
theorem wd_1761 : WD (.selects yX9_refusedItem.cls yX9_refusedItem yX9_refusedItem) := ⟨List.mem_of_getElem? (i := 1761) (by decide +kernel), by decide +kernel⟩
theorem wd_1762 : WD (.code yX9_refusedItem cX9_refusedItem 1 (some .int)) := ⟨List.mem_of_getElem? (i := 1762) (by decide +kernel), by decide +kernel⟩
theorem wd_1764 : WD (.instanceMethod yX9_undo) := ⟨List.mem_of_getElem? (i := 1764) (by decide +kernel), by decide +kernel⟩
theorem wd_1765 : WD (.selects yX9_undo.cls yX9_undo yX9_undo) := ⟨List.mem_of_getElem? (i := 1765) (by decide +kernel), by decide +kernel⟩
theorem wd_1766 : WD (.code yX9_undo cX9_undo 1 (some .int)) := ⟨List.mem_of_getElem? (i := 1766) (by decide +kernel), by decide +kernel⟩
theorem wd_1768 : WD (.instanceMethod yX9_snapshot) := ⟨List.mem_of_getElem? (i := 1768) (by decide +kernel), by decide +kernel⟩
theorem wd_1769 : WD (.selects yX9_snapshot.cls yX9_snapshot yX9_snapshot) := ⟨List.mem_of_getElem? (i := 1769) (by decide +kernel), by decide +kernel⟩
theorem wd_1770 : WD (.code yX9_snapshot cX9_snapshot 1 (some .int)) := ⟨List.mem_of_getElem? (i := 1770) (by decide +kernel), by decide +kernel⟩
theorem wd_1772 : WD (.instanceMethod yX9_restore) := ⟨List.mem_of_getElem? (i := 1772) (by decide +kernel), by decide +kernel⟩
theorem wd_1773 : WD (.selects yX9_restore.cls yX9_restore yX9_restore) := ⟨List.mem_of_getElem? (i := 1773) (by decide +kernel), by decide +kernel⟩
theorem wd_1774 : WD (.code yX9_restore cX9_restore 1 (some .int)) := ⟨List.mem_of_getElem? (i := 1774) (by decide +kernel), by decide +kernel⟩
theorem mwX7_first : MW yX7_first cX7_first 2 (some .int) 1 := ⟨wd_405, wd_87, by decide, by decide +kernel⟩
theorem miX7_first : WD (.instanceMethod yX7_first) ∧ WD (.selects yX7_first.cls yX7_first yX7_first) := ⟨wd_403, wd_404⟩
theorem mwX7_end : MW yX7_end cX7_end 2 (some .int) 1 := ⟨wd_409, wd_87, by decide, by decide +kernel⟩
theorem miX7_end : WD (.instanceMethod yX7_end) ∧ WD (.selects yX7_end.cls yX7_end yX7_end) := ⟨wd_407, wd_408⟩
theorem mwX0_distance : MW yX0_distance cX0_distance 4 (some .int) 4 := ⟨wd_948, wd_91, by decide, by decide +kernel⟩
theorem miX0_distance : WD (.static yX0_distance) := wd_947
theorem mwX0_worth : MW yX0_worth cX0_worth 6 (some .int) 5 := ⟨wd_945, wd_91, by decide, by decide +kernel⟩
theorem miX0_worth : WD (.static yX0_worth) := wd_944
theorem mwX0_bestFrom : MW yX0_bestFrom cX0_bestFrom 4 (some .int) 2 := ⟨wd_957, wd_91, by decide, by decide +kernel⟩
theorem miX0_bestFrom : WD (.instanceMethod yX0_bestFrom) ∧ WD (.selects yX0_bestFrom.cls yX0_bestFrom yX0_bestFrom) := ⟨wd_956, wd_14⟩
theorem mwX0_fillBest : MW yX0_fillBest cX0_fillBest 8 none 3 := ⟨wd_941, wd_91, by decide, by decide +kernel⟩
theorem miX0_fillBest : WD (.instanceMethod yX0_fillBest) ∧ WD (.selects yX0_fillBest.cls yX0_fillBest yX0_fillBest) := ⟨wd_940, wd_13⟩
theorem mwX0_choose : MW yX0_choose cX0_choose 9 (some .int) 5 := ⟨wd_962, wd_91, by decide, by decide +kernel⟩
theorem miX0_choose : WD (.instanceMethod yX0_choose) ∧ WD (.selects yX0_choose.cls yX0_choose yX0_choose) := ⟨wd_961, wd_15⟩
theorem mwX0_run : MW yX0_run cX0_run 7 none 3 := ⟨wd_937, wd_91, by decide, by decide +kernel⟩
theorem miX0_run : WD (.instanceMethod yX0_run) ∧ WD (.selects yX0_run.cls yX0_run yX0_run) := ⟨wd_935, wd_936⟩
theorem mwX0_partnerOf : MW yX0_partnerOf cX0_partnerOf 2 (some .int) 1 := ⟨wd_966, wd_91, by decide, by decide +kernel⟩
theorem miX0_partnerOf : WD (.instanceMethod yX0_partnerOf) ∧ WD (.selects yX0_partnerOf.cls yX0_partnerOf yX0_partnerOf) := ⟨wd_964, wd_965⟩
theorem mwX1_reset : MW yX1_reset cX1_reset 1 none 0 := ⟨wd_385, wd_86, by decide, by decide +kernel⟩
theorem miX1_reset : WD (.instanceMethod yX1_reset) ∧ WD (.selects yX1_reset.cls yX1_reset yX1_reset) := ⟨wd_383, wd_384⟩
theorem mwX1_kindOf : MW yX1_kindOf cX1_kindOf 2 (some .int) 1 := ⟨wd_463, wd_86, by decide, by decide +kernel⟩
theorem miX1_kindOf : WD (.instanceMethod yX1_kindOf) ∧ WD (.selects yX1_kindOf.cls yX1_kindOf yX1_kindOf) := ⟨wd_461, wd_462⟩
theorem mwX1_ruleOf : MW yX1_ruleOf cX1_ruleOf 2 (some .int) 1 := ⟨wd_439, wd_86, by decide, by decide +kernel⟩
theorem miX1_ruleOf : WD (.instanceMethod yX1_ruleOf) ∧ WD (.selects yX1_ruleOf.cls yX1_ruleOf yX1_ruleOf) := ⟨wd_437, wd_438⟩
theorem mwX1_parentOf : MW yX1_parentOf cX1_parentOf 2 (some .int) 1 := ⟨wd_447, wd_86, by decide, by decide +kernel⟩
theorem miX1_parentOf : WD (.instanceMethod yX1_parentOf) ∧ WD (.selects yX1_parentOf.cls yX1_parentOf yX1_parentOf) := ⟨wd_445, wd_446⟩
theorem mwX1_setTier : MW yX1_setTier cX1_setTier 5 none 4 := ⟨wd_467, wd_86, by decide, by decide +kernel⟩
theorem miX1_setTier : WD (.instanceMethod yX1_setTier) ∧ WD (.selects yX1_setTier.cls yX1_setTier yX1_setTier) := ⟨wd_466, wd_1⟩
theorem mwX1_row : MW yX1_row cX1_row 5 (some (.object "LessonTiers$Row")) 2 := ⟨wd_397, wd_86, by decide, by decide +kernel⟩
theorem miX1_row : WD (.instanceMethod yX1_row) ∧ WD (.selects yX1_row.cls yX1_row yX1_row) := ⟨wd_395, wd_396⟩
theorem mwX7_copyFrom : MW yX7_copyFrom cX7_copyFrom 3 none 1 := ⟨wd_471, wd_87, by decide, by decide +kernel⟩
theorem miX7_copyFrom : WD (.instanceMethod yX7_copyFrom) ∧ WD (.selects yX7_copyFrom.cls yX7_copyFrom yX7_copyFrom) := ⟨wd_469, wd_470⟩
theorem mwX1_copyFrom : MW yX1_copyFrom cX1_copyFrom 3 none 1 := ⟨wd_459, wd_86, by decide, by decide +kernel⟩
theorem miX1_copyFrom : WD (.instanceMethod yX1_copyFrom) ∧ WD (.selects yX1_copyFrom.cls yX1_copyFrom yX1_copyFrom) := ⟨wd_457, wd_458⟩
theorem mwX1_hasTier : MW yX1_hasTier cX1_hasTier 2 (some .boolean) 1 := ⟨wd_588, wd_86, by decide, by decide +kernel⟩
theorem miX1_hasTier : WD (.instanceMethod yX1_hasTier) ∧ WD (.selects yX1_hasTier.cls yX1_hasTier yX1_hasTier) := ⟨wd_586, wd_587⟩
theorem mwX1_present : MW yX1_present cX1_present 2 (some (.object "LessonTiers$Row")) 1 := ⟨wd_658, wd_86, by decide, by decide +kernel⟩
theorem miX1_present : WD (.instanceMethod yX1_present) ∧ WD (.selects yX1_present.cls yX1_present yX1_present) := ⟨wd_656, wd_657⟩
theorem mwX1_hasSpan : MW yX1_hasSpan cX1_hasSpan 3 (some .boolean) 2 := ⟨wd_802, wd_86, by decide, by decide +kernel⟩
theorem miX1_hasSpan : WD (.instanceMethod yX1_hasSpan) ∧ WD (.selects yX1_hasSpan.cls yX1_hasSpan yX1_hasSpan) := ⟨wd_800, wd_801⟩
theorem mwX1_putTier : MW yX1_putTier cX1_putTier 5 (some .int) 3 := ⟨wd_630, wd_86, by decide, by decide +kernel⟩
theorem miX1_putTier : WD (.instanceMethod yX1_putTier) ∧ WD (.selects yX1_putTier.cls yX1_putTier yX1_putTier) := ⟨wd_628, wd_629⟩
theorem mwX1_childMask : MW yX1_childMask cX1_childMask 4 (some .int) 1 := ⟨wd_662, wd_86, by decide, by decide +kernel⟩
theorem miX1_childMask : WD (.instanceMethod yX1_childMask) ∧ WD (.selects yX1_childMask.cls yX1_childMask yX1_childMask) := ⟨wd_660, wd_661⟩
theorem mwX1_spanCount : MW yX1_spanCount cX1_spanCount 3 (some .int) 0 := ⟨wd_685, wd_86, by decide, by decide +kernel⟩
theorem miX1_spanCount : WD (.instanceMethod yX1_spanCount) ∧ WD (.selects yX1_spanCount.cls yX1_spanCount yX1_spanCount) := ⟨wd_683, wd_684⟩
theorem mwX7_host : MW yX7_host cX7_host 7 (some .int) 3 := ⟨wd_451, wd_87, by decide, by decide +kernel⟩
theorem miX7_host : WD (.instanceMethod yX7_host) ∧ WD (.selects yX7_host.cls yX7_host yX7_host) := ⟨wd_449, wd_450⟩
theorem mwX1_hostOf : MW yX1_hostOf cX1_hostOf 5 (some .int) 4 := ⟨wd_443, wd_86, by decide, by decide +kernel⟩
theorem miX1_hostOf : WD (.instanceMethod yX1_hostOf) ∧ WD (.selects yX1_hostOf.cls yX1_hostOf yX1_hostOf) := ⟨wd_441, wd_442⟩
theorem mwX1_lacksHost : MW yX1_lacksHost cX1_lacksHost 5 (some .boolean) 4 := ⟨wd_435, wd_86, by decide, by decide +kernel⟩
theorem miX1_lacksHost : WD (.instanceMethod yX1_lacksHost) ∧ WD (.selects yX1_lacksHost.cls yX1_lacksHost yX1_lacksHost) := ⟨wd_434, wd_0⟩
theorem mwX1_guestCount : MW yX1_guestCount cX1_guestCount 7 (some .int) 2 := ⟨wd_885, wd_86, by decide, by decide +kernel⟩
theorem miX1_guestCount : WD (.instanceMethod yX1_guestCount) ∧ WD (.selects yX1_guestCount.cls yX1_guestCount yX1_guestCount) := ⟨wd_883, wd_884⟩
theorem mwX1_hasOrphan : MW yX1_hasOrphan cX1_hasOrphan 5 (some .boolean) 2 := ⟨wd_428, wd_86, by decide, by decide +kernel⟩
theorem miX1_hasOrphan : WD (.instanceMethod yX1_hasOrphan) ∧ WD (.selects yX1_hasOrphan.cls yX1_hasOrphan yX1_hasOrphan) := ⟨wd_426, wd_427⟩
theorem mwX1_lowestBereft : MW yX1_lowestBereft cX1_lowestBereft 3 (some .int) 1 := ⟨wd_831, wd_86, by decide, by decide +kernel⟩
theorem miX1_lowestBereft : WD (.instanceMethod yX1_lowestBereft) ∧ WD (.selects yX1_lowestBereft.cls yX1_lowestBereft yX1_lowestBereft) := ⟨wd_830, wd_12⟩
theorem mwX6_refuse : MW yX6_refuse cX6_refuse 3 (some .int) 2 := ⟨wd_751, wd_90, by decide, by decide +kernel⟩
theorem miX6_refuse : WD (.instanceMethod yX6_refuse) ∧ WD (.selects yX6_refuse.cls yX6_refuse yX6_refuse) := ⟨wd_749, wd_750⟩
theorem mwX7_meeting : MW yX7_meeting cX7_meeting 5 (some .int) 3 := ⟨wd_756, wd_87, by decide, by decide +kernel⟩
theorem miX7_meeting : WD (.instanceMethod yX7_meeting) ∧ WD (.selects yX7_meeting.cls yX7_meeting yX7_meeting) := ⟨wd_754, wd_755⟩
theorem mwX1_tryFrames : MW yX1_tryFrames cX1_tryFrames 7 (some .int) 5 := ⟨wd_747, wd_86, by decide, by decide +kernel⟩
theorem miX1_tryFrames : WD (.instanceMethod yX1_tryFrames) ∧ WD (.selects yX1_tryFrames.cls yX1_tryFrames yX1_tryFrames) := ⟨wd_746, wd_8⟩
theorem mwX7_setFrames : MW yX7_setFrames cX7_setFrames 4 none 3 := ⟨wd_768, wd_87, by decide, by decide +kernel⟩
theorem miX7_setFrames : WD (.instanceMethod yX7_setFrames) ∧ WD (.selects yX7_setFrames.cls yX7_setFrames yX7_setFrames) := ⟨wd_766, wd_767⟩
theorem mwX7_label : MW yX7_label cX7_label 2 (some .long) 1 := ⟨wd_674, wd_87, by decide, by decide +kernel⟩
theorem miX7_label : WD (.instanceMethod yX7_label) ∧ WD (.selects yX7_label.cls yX7_label yX7_label) := ⟨wd_672, wd_673⟩
theorem mwX7_setLabel : MW yX7_setLabel cX7_setLabel 4 none 2 := ⟨wd_772, wd_87, by decide, by decide +kernel⟩
theorem miX7_setLabel : WD (.instanceMethod yX7_setLabel) ∧ WD (.selects yX7_setLabel.cls yX7_setLabel yX7_setLabel) := ⟨wd_770, wd_771⟩
theorem mwX7_shift : MW yX7_shift cX7_shift 3 none 2 := ⟨wd_764, wd_87, by decide, by decide +kernel⟩
theorem miX7_shift : WD (.instanceMethod yX7_shift) ∧ WD (.selects yX7_shift.cls yX7_shift yX7_shift) := ⟨wd_763, wd_9⟩
theorem mwX7_insert : MW yX7_insert cX7_insert 6 (some .int) 3 := ⟨wd_760, wd_87, by decide, by decide +kernel⟩
theorem miX7_insert : WD (.instanceMethod yX7_insert) ∧ WD (.selects yX7_insert.cls yX7_insert yX7_insert) := ⟨wd_758, wd_759⟩
theorem mwX1_insertSpan : MW yX1_insertSpan cX1_insertSpan 8 (some .int) 5 := ⟨wd_743, wd_86, by decide, by decide +kernel⟩
theorem miX1_insertSpan : WD (.instanceMethod yX1_insertSpan) ∧ WD (.selects yX1_insertSpan.cls yX1_insertSpan yX1_insertSpan) := ⟨wd_741, wd_742⟩
theorem mwX7_delete : MW yX7_delete cX7_delete 3 none 1 := ⟨wd_811, wd_87, by decide, by decide +kernel⟩
theorem miX7_delete : WD (.instanceMethod yX7_delete) ∧ WD (.selects yX7_delete.cls yX7_delete yX7_delete) := ⟨wd_809, wd_810⟩
theorem mwX1_shiftSpan : MW yX1_shiftSpan cX1_shiftSpan 11 (some .int) 5 := ⟨wd_826, wd_86, by decide, by decide +kernel⟩
theorem miX1_shiftSpan : WD (.instanceMethod yX1_shiftSpan) ∧ WD (.selects yX1_shiftSpan.cls yX1_shiftSpan yX1_shiftSpan) := ⟨wd_824, wd_825⟩
theorem mwX1_cutSpan : MW yX1_cutSpan cX1_cutSpan 9 (some .int) 4 := ⟨wd_852, wd_86, by decide, by decide +kernel⟩
theorem miX1_cutSpan : WD (.instanceMethod yX1_cutSpan) ∧ WD (.selects yX1_cutSpan.cls yX1_cutSpan yX1_cutSpan) := ⟨wd_850, wd_851⟩
theorem mwX1_uniteSpan : MW yX1_uniteSpan cX1_uniteSpan 8 (some .int) 3 := ⟨wd_864, wd_86, by decide, by decide +kernel⟩
theorem miX1_uniteSpan : WD (.instanceMethod yX1_uniteSpan) ∧ WD (.selects yX1_uniteSpan.cls yX1_uniteSpan yX1_uniteSpan) := ⟨wd_862, wd_863⟩
theorem mwX1_dropOrphans : MW yX1_dropOrphans cX1_dropOrphans 5 (some .int) 1 := ⟨wd_815, wd_86, by decide, by decide +kernel⟩
theorem miX1_dropOrphans : WD (.instanceMethod yX1_dropOrphans) ∧ WD (.selects yX1_dropOrphans.cls yX1_dropOrphans yX1_dropOrphans) := ⟨wd_814, wd_11⟩
theorem mwX1_dropSpan : MW yX1_dropSpan cX1_dropSpan 5 (some .int) 2 := ⟨wd_807, wd_86, by decide, by decide +kernel⟩
theorem miX1_dropSpan : WD (.instanceMethod yX1_dropSpan) ∧ WD (.selects yX1_dropSpan.cls yX1_dropSpan yX1_dropSpan) := ⟨wd_805, wd_806⟩
theorem mwX2_push : MW yX2_push cX2_push 3 none 1 := ⟨wd_622, wd_88, by decide, by decide +kernel⟩
theorem miX2_push : WD (.instanceMethod yX2_push) ∧ WD (.selects yX2_push.cls yX2_push yX2_push) := ⟨wd_620, wd_621⟩
theorem mwX2_pop : MW yX2_pop cX2_pop 3 none 1 := ⟨wd_1221, wd_88, by decide, by decide +kernel⟩
theorem miX2_pop : WD (.instanceMethod yX2_pop) ∧ WD (.selects yX2_pop.cls yX2_pop yX2_pop) := ⟨wd_1219, wd_1220⟩
theorem mwX2_forget : MW yX2_forget cX2_forget 1 none 0 := ⟨wd_389, wd_88, by decide, by decide +kernel⟩
theorem miX2_forget : WD (.instanceMethod yX2_forget) ∧ WD (.selects yX2_forget.cls yX2_forget yX2_forget) := ⟨wd_387, wd_388⟩
theorem mwX3_put : MW yX3_put cX3_put 2 none 1 := ⟨wd_696, wd_89, by decide, by decide +kernel⟩
theorem miX3_put : WD (.instanceMethod yX3_put) ∧ WD (.selects yX3_put.cls yX3_put yX3_put) := ⟨wd_694, wd_695⟩
theorem mwX3_empty : MW yX3_empty cX3_empty 1 none 0 := ⟨wd_739, wd_89, by decide, by decide +kernel⟩
theorem miX3_empty : WD (.instanceMethod yX3_empty) ∧ WD (.selects yX3_empty.cls yX3_empty yX3_empty) := ⟨wd_737, wd_738⟩
theorem mwX3_restart : MW yX3_restart cX3_restart 1 none 0 := ⟨wd_712, wd_89, by decide, by decide +kernel⟩
theorem miX3_restart : WD (.instanceMethod yX3_restart) ∧ WD (.selects yX3_restart.cls yX3_restart yX3_restart) := ⟨wd_710, wd_711⟩
theorem mwX3_isAtEnd : MW yX3_isAtEnd cX3_isAtEnd 1 (some .boolean) 0 := ⟨wd_735, wd_89, by decide, by decide +kernel⟩
theorem miX3_isAtEnd : WD (.instanceMethod yX3_isAtEnd) ∧ WD (.selects yX3_isAtEnd.cls yX3_isAtEnd yX3_isAtEnd) := ⟨wd_733, wd_734⟩
theorem mwX3_peek : MW yX3_peek cX3_peek 1 (some .char) 0 := ⟨wd_724, wd_89, by decide, by decide +kernel⟩
theorem miX3_peek : WD (.instanceMethod yX3_peek) ∧ WD (.selects yX3_peek.cls yX3_peek yX3_peek) := ⟨wd_723, wd_6⟩
theorem mwX3_take : MW yX3_take cX3_take 2 (some .boolean) 1 := ⟨wd_997, wd_89, by decide, by decide +kernel⟩
theorem miX3_take : WD (.instanceMethod yX3_take) ∧ WD (.selects yX3_take.cls yX3_take yX3_take) := ⟨wd_995, wd_996⟩
theorem mwX3_isDigit : MW yX3_isDigit cX3_isDigit 1 (some .boolean) 0 := ⟨wd_728, wd_89, by decide, by decide +kernel⟩
theorem miX3_isDigit : WD (.instanceMethod yX3_isDigit) ∧ WD (.selects yX3_isDigit.cls yX3_isDigit yX3_isDigit) := ⟨wd_727, wd_7⟩
theorem mwX3_readTier : MW yX3_readTier cX3_readTier 3 (some .int) 1 := ⟨wd_993, wd_89, by decide, by decide +kernel⟩
theorem miX3_readTier : WD (.instanceMethod yX3_readTier) ∧ WD (.selects yX3_readTier.cls yX3_readTier yX3_readTier) := ⟨wd_991, wd_992⟩
theorem mwX3_readNumber : MW yX3_readNumber cX3_readNumber 3 (some .int) 0 := ⟨wd_1187, wd_89, by decide, by decide +kernel⟩
theorem miX3_readNumber : WD (.instanceMethod yX3_readNumber) ∧ WD (.selects yX3_readNumber.cls yX3_readNumber yX3_readNumber) := ⟨wd_1186, wd_24⟩
theorem mwX3_isLetterOf : MW yX3_isLetterOf cX3_isLetterOf 3 (some .boolean) 1 := ⟨wd_720, wd_89, by decide, by decide +kernel⟩
theorem miX3_isLetterOf : WD (.instanceMethod yX3_isLetterOf) ∧ WD (.selects yX3_isLetterOf.cls yX3_isLetterOf yX3_isLetterOf) := ⟨wd_719, wd_5⟩
theorem mwX8_withLetter : MW yX8_withLetter cX8_withLetter 4 (some .long) 3 := ⟨wd_731, wd_85, by decide, by decide +kernel⟩
theorem miX8_withLetter : WD (.static yX8_withLetter) := wd_730
theorem mwX3_readLabel : MW yX3_readLabel cX3_readLabel 6 (some .long) 1 := ⟨wd_716, wd_89, by decide, by decide +kernel⟩
theorem miX3_readLabel : WD (.instanceMethod yX3_readLabel) ∧ WD (.selects yX3_readLabel.cls yX3_readLabel yX3_readLabel) := ⟨wd_714, wd_715⟩
theorem mwX3_readItem : MW yX3_readItem cX3_readItem 2 (some .boolean) 1 := ⟨wd_1181, wd_89, by decide, by decide +kernel⟩
theorem miX3_readItem : WD (.instanceMethod yX3_readItem) ∧ WD (.selects yX3_readItem.cls yX3_readItem yX3_readItem) := ⟨wd_1179, wd_1180⟩
theorem mwX3_countItems : MW yX3_countItems cX3_countItems 3 (some .int) 1 := ⟨wd_1176, wd_89, by decide, by decide +kernel⟩
theorem miX3_countItems : WD (.instanceMethod yX3_countItems) ∧ WD (.selects yX3_countItems.cls yX3_countItems yX3_countItems) := ⟨wd_1174, wd_1175⟩
theorem mwX4_has : MW yX4_has cX4_has 2 (some .boolean) 1 := ⟨wd_1070, wd_92, by decide, by decide +kernel⟩
theorem miX4_has : WD (.instanceMethod yX4_has) ∧ WD (.selects yX4_has.cls yX4_has yX4_has) := ⟨wd_1068, wd_1069⟩
theorem mwX4_first : MW yX4_first cX4_first 2 (some .int) 1 := ⟨wd_1096, wd_92, by decide, by decide +kernel⟩
theorem miX4_first : WD (.instanceMethod yX4_first) ∧ WD (.selects yX4_first.cls yX4_first yX4_first) := ⟨wd_1094, wd_1095⟩
theorem mwX4_end : MW yX4_end cX4_end 2 (some .int) 1 := ⟨wd_1074, wd_92, by decide, by decide +kernel⟩
theorem miX4_end : WD (.instanceMethod yX4_end) ∧ WD (.selects yX4_end.cls yX4_end yX4_end) := ⟨wd_1072, wd_1073⟩
theorem mwX4_source : MW yX4_source cX4_source 2 (some .int) 1 := ⟨wd_1084, wd_92, by decide, by decide +kernel⟩
theorem miX4_source : WD (.instanceMethod yX4_source) ∧ WD (.selects yX4_source.cls yX4_source yX4_source) := ⟨wd_1082, wd_1083⟩
theorem mwX4_label : MW yX4_label cX4_label 2 (some .long) 1 := ⟨wd_1078, wd_92, by decide, by decide +kernel⟩
theorem miX4_label : WD (.instanceMethod yX4_label) ∧ WD (.selects yX4_label.cls yX4_label yX4_label) := ⟨wd_1076, wd_1077⟩
theorem mwX4_isBefore : MW yX4_isBefore cX4_isBefore 4 (some .boolean) 4 := ⟨wd_1060, wd_92, by decide, by decide +kernel⟩
theorem miX4_isBefore : WD (.static yX4_isBefore) := wd_1059
theorem mwX4_put : MW yX4_put cX4_put 7 none 3 := ⟨wd_1066, wd_92, by decide, by decide +kernel⟩
theorem miX4_put : WD (.instanceMethod yX4_put) ∧ WD (.selects yX4_put.cls yX4_put yX4_put) := ⟨wd_1065, wd_23⟩
theorem mwX4_run : MW yX4_run cX4_run 7 none 2 := ⟨wd_1057, wd_92, by decide, by decide +kernel⟩
theorem miX4_run : WD (.instanceMethod yX4_run) ∧ WD (.selects yX4_run.cls yX4_run yX4_run) := ⟨wd_1055, wd_1056⟩
theorem mwX4_sharedCount : MW yX4_sharedCount cX4_sharedCount 3 (some .int) 0 := ⟨wd_1088, wd_92, by decide, by decide +kernel⟩
theorem miX4_sharedCount : WD (.instanceMethod yX4_sharedCount) ∧ WD (.selects yX4_sharedCount.cls yX4_sharedCount yX4_sharedCount) := ⟨wd_1086, wd_1087⟩
theorem mwX4_frameSum : MW yX4_frameSum cX4_frameSum 3 (some .int) 0 := ⟨wd_1092, wd_92, by decide, by decide +kernel⟩
theorem miX4_frameSum : WD (.instanceMethod yX4_frameSum) ∧ WD (.selects yX4_frameSum.cls yX4_frameSum yX4_frameSum) := ⟨wd_1090, wd_1091⟩
theorem mwX5_readPart : MW yX5_readPart cX5_readPart 8 (some .boolean) 3 := ⟨wd_989, wd_93, by decide, by decide +kernel⟩
theorem miX5_readPart : WD (.instanceMethod yX5_readPart) ∧ WD (.selects yX5_readPart.cls yX5_readPart yX5_readPart) := ⟨wd_988, wd_16⟩
theorem mwX5_readLink : MW yX5_readLink cX5_readLink 3 (some .boolean) 2 := ⟨wd_1004, wd_93, by decide, by decide +kernel⟩
theorem miX5_readLink : WD (.instanceMethod yX5_readLink) ∧ WD (.selects yX5_readLink.cls yX5_readLink yX5_readLink) := ⟨wd_1003, wd_17⟩
theorem mwX5_readFrom : MW yX5_readFrom cX5_readFrom 4 (some .boolean) 2 := ⟨wd_984, wd_93, by decide, by decide +kernel⟩
theorem miX5_readFrom : WD (.instanceMethod yX5_readFrom) ∧ WD (.selects yX5_readFrom.cls yX5_readFrom yX5_readFrom) := ⟨wd_982, wd_983⟩
theorem mwX5_rowOf : MW yX5_rowOf cX5_rowOf 4 (some (.object "LessonTiers$Row")) 2 := ⟨wd_1012, wd_93, by decide, by decide +kernel⟩
theorem miX5_rowOf : WD (.instanceMethod yX5_rowOf) ∧ WD (.selects yX5_rowOf.cls yX5_rowOf yX5_rowOf) := ⟨wd_1011, wd_18⟩
theorem mwX5_fits : MW yX5_fits cX5_fits 5 (some .boolean) 3 := ⟨wd_1018, wd_93, by decide, by decide +kernel⟩
theorem miX5_fits : WD (.instanceMethod yX5_fits) ∧ WD (.selects yX5_fits.cls yX5_fits yX5_fits) := ⟨wd_1017, wd_19⟩
theorem mwX5_isLinked : MW yX5_isLinked cX5_isLinked 8 (some .boolean) 6 := ⟨wd_1028, wd_93, by decide, by decide +kernel⟩
theorem miX5_isLinked : WD (.instanceMethod yX5_isLinked) ∧ WD (.selects yX5_isLinked.cls yX5_isLinked yX5_isLinked) := ⟨wd_1027, wd_21⟩
theorem mwX5_waysFrom : MW yX5_waysFrom cX5_waysFrom 4 (some .int) 2 := ⟨wd_1034, wd_93, by decide, by decide +kernel⟩
theorem miX5_waysFrom : WD (.instanceMethod yX5_waysFrom) ∧ WD (.selects yX5_waysFrom.cls yX5_waysFrom yX5_waysFrom) := ⟨wd_1033, wd_22⟩
theorem mwX5_countOn : MW yX5_countOn cX5_countOn 8 (some .int) 4 := ⟨wd_1024, wd_93, by decide, by decide +kernel⟩
theorem miX5_countOn : WD (.instanceMethod yX5_countOn) ∧ WD (.selects yX5_countOn.cls yX5_countOn yX5_countOn) := ⟨wd_1023, wd_20⟩
theorem mwX5_countMatches : MW yX5_countMatches cX5_countMatches 8 (some .int) 1 := ⟨wd_1008, wd_93, by decide, by decide +kernel⟩
theorem miX5_countMatches : WD (.instanceMethod yX5_countMatches) ∧ WD (.selects yX5_countMatches.cls yX5_countMatches yX5_countMatches) := ⟨wd_1006, wd_1007⟩
theorem mwX5_spanOf : MW yX5_spanOf cX5_spanOf 13 (some .int) 3 := ⟨wd_1046, wd_93, by decide, by decide +kernel⟩
theorem miX5_spanOf : WD (.instanceMethod yX5_spanOf) ∧ WD (.selects yX5_spanOf.cls yX5_spanOf yX5_spanOf) := ⟨wd_1044, wd_1045⟩
theorem mwX7_length : MW yX7_length cX7_length 2 (some .int) 1 := ⟨wd_424, wd_87, by decide, by decide +kernel⟩
theorem miX7_length : WD (.instanceMethod yX7_length) ∧ WD (.selects yX7_length.cls yX7_length yX7_length) := ⟨wd_422, wd_423⟩
theorem mwX7_spanWith : MW yX7_spanWith cX7_spanWith 3 (some .int) 1 := ⟨wd_919, wd_87, by decide, by decide +kernel⟩
theorem miX7_spanWith : WD (.instanceMethod yX7_spanWith) ∧ WD (.selects yX7_spanWith.cls yX7_spanWith yX7_spanWith) := ⟨wd_917, wd_918⟩
theorem mwX7_frameSum : MW yX7_frameSum cX7_frameSum 3 (some .int) 0 := ⟨wd_420, wd_87, by decide, by decide +kernel⟩
theorem miX7_frameSum : WD (.instanceMethod yX7_frameSum) ∧ WD (.selects yX7_frameSum.cls yX7_frameSum yX7_frameSum) := ⟨wd_418, wd_419⟩
theorem mwX7_isLabelNew : MW yX7_isLabelNew cX7_isLabelNew 3 (some .boolean) 1 := ⟨wd_670, wd_87, by decide, by decide +kernel⟩
theorem miX7_isLabelNew : WD (.instanceMethod yX7_isLabelNew) ∧ WD (.selects yX7_isLabelNew.cls yX7_isLabelNew yX7_isLabelNew) := ⟨wd_669, wd_3⟩
theorem mwX7_labelCount : MW yX7_labelCount cX7_labelCount 3 (some .int) 0 := ⟨wd_666, wd_87, by decide, by decide +kernel⟩
theorem miX7_labelCount : WD (.instanceMethod yX7_labelCount) ∧ WD (.selects yX7_labelCount.cls yX7_labelCount yX7_labelCount) := ⟨wd_664, wd_665⟩
theorem mwX7_isInOrder : MW yX7_isInOrder cX7_isInOrder 3 (some .boolean) 0 := ⟨wd_401, wd_87, by decide, by decide +kernel⟩
theorem miX7_isInOrder : WD (.instanceMethod yX7_isInOrder) ∧ WD (.selects yX7_isInOrder.cls yX7_isInOrder yX7_isInOrder) := ⟨wd_399, wd_400⟩
theorem mwX7_coveredFrames : MW yX7_coveredFrames cX7_coveredFrames 4 (some .int) 0 := ⟨wd_413, wd_87, by decide, by decide +kernel⟩
theorem miX7_coveredFrames : WD (.instanceMethod yX7_coveredFrames) ∧ WD (.selects yX7_coveredFrames.cls yX7_coveredFrames yX7_coveredFrames) := ⟨wd_411, wd_412⟩
theorem mwX7_commonFrames : MW yX7_commonFrames cX7_commonFrames 7 (some .int) 2 := ⟨wd_1119, wd_87, by decide, by decide +kernel⟩
theorem miX7_commonFrames : WD (.instanceMethod yX7_commonFrames) ∧ WD (.selects yX7_commonFrames.cls yX7_commonFrames yX7_commonFrames) := ⟨wd_1117, wd_1118⟩
theorem mwX7_framesWith : MW yX7_framesWith cX7_framesWith 2 (some .int) 1 := ⟨wd_1124, wd_87, by decide, by decide +kernel⟩
theorem miX7_framesWith : WD (.instanceMethod yX7_framesWith) ∧ WD (.selects yX7_framesWith.cls yX7_framesWith yX7_framesWith) := ⟨wd_1122, wd_1123⟩
theorem mwX7_labelProducts : MW yX7_labelProducts cX7_labelProducts 5 (some .int) 1 := ⟨wd_1163, wd_87, by decide, by decide +kernel⟩
theorem miX7_labelProducts : WD (.instanceMethod yX7_labelProducts) ∧ WD (.selects yX7_labelProducts.cls yX7_labelProducts yX7_labelProducts) := ⟨wd_1161, wd_1162⟩
theorem mwX8_clear : MW yX8_clear cX8_clear 2 (some .int) 0 := ⟨wd_381, wd_85, by decide, by decide +kernel⟩
theorem miX8_clear : WD (.instanceMethod yX8_clear) ∧ WD (.selects yX8_clear.cls yX8_clear yX8_clear) := ⟨wd_379, wd_380⟩
theorem mwX8_addTier : MW yX8_addTier cX8_addTier 4 (some .int) 3 := ⟨wd_563, wd_85, by decide, by decide +kernel⟩
theorem miX8_addTier : WD (.instanceMethod yX8_addTier) ∧ WD (.selects yX8_addTier.cls yX8_addTier yX8_addTier) := ⟨wd_561, wd_562⟩
theorem mwX8_select : MW yX8_select cX8_select 3 (some .int) 1 := ⟨wd_637, wd_85, by decide, by decide +kernel⟩
theorem miX8_select : WD (.instanceMethod yX8_select) ∧ WD (.selects yX8_select.cls yX8_select yX8_select) := ⟨wd_635, wd_636⟩
theorem mwX8_setSetting : MW yX8_setSetting cX8_setSetting 4 (some .int) 2 := ⟨wd_644, wd_85, by decide, by decide +kernel⟩
theorem miX8_setSetting : WD (.instanceMethod yX8_setSetting) ∧ WD (.selects yX8_setSetting.cls yX8_setSetting yX8_setSetting) := ⟨wd_642, wd_643⟩
theorem mwX8_tier : MW yX8_tier cX8_tier 3 (some .int) 2 := ⟨wd_651, wd_85, by decide, by decide +kernel⟩
theorem miX8_tier : WD (.instanceMethod yX8_tier) ∧ WD (.selects yX8_tier.cls yX8_tier yX8_tier) := ⟨wd_649, wd_650⟩
theorem mwX8_book : MW yX8_book cX8_book 2 (some .int) 1 := ⟨wd_681, wd_85, by decide, by decide +kernel⟩
theorem miX8_book : WD (.instanceMethod yX8_book) ∧ WD (.selects yX8_book.cls yX8_book yX8_book) := ⟨wd_679, wd_680⟩
theorem mwX8_append : MW yX8_append cX8_append 5 (some .int) 1 := ⟨wd_692, wd_85, by decide, by decide +kernel⟩
theorem miX8_append : WD (.instanceMethod yX8_append) ∧ WD (.selects yX8_append.cls yX8_append yX8_append) := ⟨wd_690, wd_691⟩
theorem mwX8_takeLabel : MW yX8_takeLabel cX8_takeLabel 5 (some .long) 1 := ⟨wd_708, wd_85, by decide, by decide +kernel⟩
theorem miX8_takeLabel : WD (.instanceMethod yX8_takeLabel) ∧ WD (.selects yX8_takeLabel.cls yX8_takeLabel yX8_takeLabel) := ⟨wd_707, wd_4⟩
theorem mwX8_keepDraft : MW yX8_keepDraft cX8_keepDraft 1 none 0 := ⟨wd_791, wd_85, by decide, by decide +kernel⟩
theorem miX8_keepDraft : WD (.instanceMethod yX8_keepDraft) ∧ WD (.selects yX8_keepDraft.cls yX8_keepDraft yX8_keepDraft) := ⟨wd_790, wd_10⟩
theorem mwX8_addSpan : MW yX8_addSpan cX8_addSpan 7 (some .int) 3 := ⟨wd_704, wd_85, by decide, by decide +kernel⟩
theorem miX8_addSpan : WD (.instanceMethod yX8_addSpan) ∧ WD (.selects yX8_addSpan.cls yX8_addSpan yX8_addSpan) := ⟨wd_702, wd_703⟩
theorem mwX8_removeSpan : MW yX8_removeSpan cX8_removeSpan 3 (some .int) 2 := ⟨wd_798, wd_85, by decide, by decide +kernel⟩
theorem miX8_removeSpan : WD (.instanceMethod yX8_removeSpan) ∧ WD (.selects yX8_removeSpan.cls yX8_removeSpan yX8_removeSpan) := ⟨wd_796, wd_797⟩
theorem mwX8_moveSpan : MW yX8_moveSpan cX8_moveSpan 6 (some .int) 4 := ⟨wd_822, wd_85, by decide, by decide +kernel⟩
theorem miX8_moveSpan : WD (.instanceMethod yX8_moveSpan) ∧ WD (.selects yX8_moveSpan.cls yX8_moveSpan yX8_moveSpan) := ⟨wd_820, wd_821⟩
theorem mwX8_rename : MW yX8_rename cX8_rename 7 (some .int) 2 := ⟨wd_839, wd_85, by decide, by decide +kernel⟩
theorem miX8_rename : WD (.instanceMethod yX8_rename) ∧ WD (.selects yX8_rename.cls yX8_rename yX8_rename) := ⟨wd_837, wd_838⟩
theorem mwX8_split : MW yX8_split cX8_split 5 (some .int) 3 := ⟨wd_848, wd_85, by decide, by decide +kernel⟩
theorem miX8_split : WD (.instanceMethod yX8_split) ∧ WD (.selects yX8_split.cls yX8_split yX8_split) := ⟨wd_846, wd_847⟩
theorem mwX8_join : MW yX8_join cX8_join 4 (some .int) 2 := ⟨wd_860, wd_85, by decide, by decide +kernel⟩
theorem miX8_join : WD (.instanceMethod yX8_join) ∧ WD (.selects yX8_join.cls yX8_join yX8_join) := ⟨wd_858, wd_859⟩
theorem mwX8_labelLetter : MW yX8_labelLetter cX8_labelLetter 3 (some .char) 2 := ⟨wd_879, wd_85, by decide, by decide +kernel⟩
theorem miX8_labelLetter : WD (.static yX8_labelLetter) := wd_878
theorem mwX8_labelLength : MW yX8_labelLength cX8_labelLength 4 (some .int) 1 := ⟨wd_876, wd_85, by decide, by decide +kernel⟩
theorem miX8_labelLength : WD (.static yX8_labelLength) := wd_875
theorem mwX8_span : MW yX8_span cX8_span 5 (some .int) 3 := ⟨wd_871, wd_85, by decide, by decide +kernel⟩
theorem miX8_span : WD (.instanceMethod yX8_span) ∧ WD (.selects yX8_span.cls yX8_span yX8_span) := ⟨wd_869, wd_870⟩
theorem mwX8_letter : MW yX8_letter cX8_letter 6 (some .char) 3 := ⟨wd_893, wd_85, by decide, by decide +kernel⟩
theorem miX8_letter : WD (.instanceMethod yX8_letter) ∧ WD (.selects yX8_letter.cls yX8_letter yX8_letter) := ⟨wd_891, wd_892⟩
theorem mwX8_spanAt : MW yX8_spanAt cX8_spanAt 3 (some .int) 2 := ⟨wd_915, wd_85, by decide, by decide +kernel⟩
theorem miX8_spanAt : WD (.instanceMethod yX8_spanAt) ∧ WD (.selects yX8_spanAt.cls yX8_spanAt yX8_spanAt) := ⟨wd_913, wd_914⟩
theorem mwX8_refusal : MW yX8_refusal cX8_refusal 2 (some .int) 1 := ⟨wd_926, wd_85, by decide, by decide +kernel⟩
theorem miX8_refusal : WD (.instanceMethod yX8_refusal) ∧ WD (.selects yX8_refusal.cls yX8_refusal yX8_refusal) := ⟨wd_924, wd_925⟩
theorem mwX8_aligned : MW yX8_aligned cX8_aligned 4 (some .int) 3 := ⟨wd_933, wd_85, by decide, by decide +kernel⟩
theorem miX8_aligned : WD (.instanceMethod yX8_aligned) ∧ WD (.selects yX8_aligned.cls yX8_aligned yX8_aligned) := ⟨wd_931, wd_932⟩
theorem mwX8_alignment : MW yX8_alignment cX8_alignment 4 (some .int) 3 := ⟨wd_973, wd_85, by decide, by decide +kernel⟩
theorem miX8_alignment : WD (.instanceMethod yX8_alignment) ∧ WD (.selects yX8_alignment.cls yX8_alignment yX8_alignment) := ⟨wd_971, wd_972⟩
theorem mwX8_search : MW yX8_search cX8_search 3 (some .int) 0 := ⟨wd_980, wd_85, by decide, by decide +kernel⟩
theorem miX8_search : WD (.instanceMethod yX8_search) ∧ WD (.selects yX8_search.cls yX8_search yX8_search) := ⟨wd_978, wd_979⟩
theorem mwX8_match : MW yX8_match cX8_match 3 (some .int) 2 := ⟨wd_1042, wd_85, by decide, by decide +kernel⟩
theorem miX8_match : WD (.instanceMethod yX8_match) ∧ WD (.selects yX8_match.cls yX8_match yX8_match) := ⟨wd_1040, wd_1041⟩
theorem mwX8_merge : MW yX8_merge cX8_merge 3 (some .int) 2 := ⟨wd_1053, wd_85, by decide, by decide +kernel⟩
theorem miX8_merge : WD (.instanceMethod yX8_merge) ∧ WD (.selects yX8_merge.cls yX8_merge yX8_merge) := ⟨wd_1051, wd_1052⟩
theorem mwX8_merged : MW yX8_merged cX8_merged 4 (some .int) 3 := ⟨wd_1103, wd_85, by decide, by decide +kernel⟩
theorem miX8_merged : WD (.instanceMethod yX8_merged) ∧ WD (.selects yX8_merged.cls yX8_merged yX8_merged) := ⟨wd_1101, wd_1102⟩
theorem mwX8_frames : MW yX8_frames cX8_frames 5 (some .int) 2 := ⟨wd_1115, wd_85, by decide, by decide +kernel⟩
theorem miX8_frames : WD (.instanceMethod yX8_frames) ∧ WD (.selects yX8_frames.cls yX8_frames yX8_frames) := ⟨wd_1113, wd_1114⟩
theorem mwX8_agreement : MW yX8_agreement cX8_agreement 5 (some .float) 1 := ⟨wd_1147, wd_85, by decide, by decide +kernel⟩
theorem miX8_agreement : WD (.instanceMethod yX8_agreement) ∧ WD (.selects yX8_agreement.cls yX8_agreement yX8_agreement) := ⟨wd_1145, wd_1146⟩
theorem mwX8_kappa : MW yX8_kappa cX8_kappa 10 (some .double) 1 := ⟨wd_1159, wd_85, by decide, by decide +kernel⟩
theorem miX8_kappa : WD (.instanceMethod yX8_kappa) ∧ WD (.selects yX8_kappa.cls yX8_kappa yX8_kappa) := ⟨wd_1157, wd_1158⟩
theorem mwX8_isConsistent : MW yX8_isConsistent cX8_isConsistent 4 (some .boolean) 0 := ⟨wd_393, wd_85, by decide, by decide +kernel⟩
theorem miX8_isConsistent : WD (.instanceMethod yX8_isConsistent) ∧ WD (.selects yX8_isConsistent.cls yX8_isConsistent yX8_isConsistent) := ⟨wd_391, wd_392⟩
theorem mwX8_addItems : MW yX8_addItems cX8_addItems 3 (some .int) 1 := ⟨wd_1194, wd_85, by decide, by decide +kernel⟩
theorem miX8_addItems : WD (.instanceMethod yX8_addItems) ∧ WD (.selects yX8_addItems.cls yX8_addItems yX8_addItems) := ⟨wd_1193, wd_25⟩
theorem mwX8_read : MW yX8_read cX8_read 3 (some .int) 0 := ⟨wd_1172, wd_85, by decide, by decide +kernel⟩
theorem miX8_read : WD (.instanceMethod yX8_read) ∧ WD (.selects yX8_read.cls yX8_read yX8_read) := ⟨wd_1170, wd_1171⟩
theorem mwX8_errorPosition : MW yX8_errorPosition cX8_errorPosition 1 (some .int) 0 := ⟨wd_1203, wd_85, by decide, by decide +kernel⟩
theorem miX8_errorPosition : WD (.instanceMethod yX8_errorPosition) ∧ WD (.selects yX8_errorPosition.cls yX8_errorPosition yX8_errorPosition) := ⟨wd_1201, wd_1202⟩
theorem mwX8_refusedItem : MW yX8_refusedItem cX8_refusedItem 1 (some .int) 0 := ⟨wd_1210, wd_85, by decide, by decide +kernel⟩
theorem miX8_refusedItem : WD (.instanceMethod yX8_refusedItem) ∧ WD (.selects yX8_refusedItem.cls yX8_refusedItem yX8_refusedItem) := ⟨wd_1208, wd_1209⟩
theorem mwX8_undo : MW yX8_undo cX8_undo 1 (some .int) 0 := ⟨wd_1217, wd_85, by decide, by decide +kernel⟩
theorem miX8_undo : WD (.instanceMethod yX8_undo) ∧ WD (.selects yX8_undo.cls yX8_undo yX8_undo) := ⟨wd_1215, wd_1216⟩
theorem mwX8_snapshot : MW yX8_snapshot cX8_snapshot 1 (some .int) 0 := ⟨wd_455, wd_85, by decide, by decide +kernel⟩
theorem miX8_snapshot : WD (.instanceMethod yX8_snapshot) ∧ WD (.selects yX8_snapshot.cls yX8_snapshot yX8_snapshot) := ⟨wd_453, wd_454⟩
theorem mwX8_restore : MW yX8_restore cX8_restore 1 (some .int) 0 := ⟨wd_1228, wd_85, by decide, by decide +kernel⟩
theorem miX8_restore : WD (.instanceMethod yX8_restore) ∧ WD (.selects yX8_restore.cls yX8_restore yX8_restore) := ⟨wd_1226, wd_1227⟩
theorem mwX9_thrown : MW yX9_thrown cX9_thrown 1 (some .int) 0 := ⟨wd_1386, wd_94, by decide, by decide +kernel⟩
theorem miX9_thrown : WD (.instanceMethod yX9_thrown) ∧ WD (.selects yX9_thrown.cls yX9_thrown yX9_thrown) := ⟨wd_1384, wd_1385⟩
theorem mwX9_in : MW yX9_in cX9_in 3 (some .boolean) 3 := ⟨wd_1401, wd_94, by decide, by decide +kernel⟩
theorem miX9_in : WD (.static yX9_in) := wd_1400
theorem mwX9_begin : MW yX9_begin cX9_begin 2 none 0 := ⟨wd_1238, wd_94, by decide, by decide +kernel⟩
theorem miX9_begin : WD (.instanceMethod yX9_begin) ∧ WD (.selects yX9_begin.cls yX9_begin yX9_begin) := ⟨wd_1237, wd_26⟩
theorem mwX9_keepState : MW yX9_keepState cX9_keepState 1 none 0 := ⟨wd_1413, wd_94, by decide, by decide +kernel⟩
theorem miX9_keepState : WD (.instanceMethod yX9_keepState) ∧ WD (.selects yX9_keepState.cls yX9_keepState yX9_keepState) := ⟨wd_1412, wd_30⟩
theorem mwX9_putBack : MW yX9_putBack cX9_putBack 1 none 0 := ⟨wd_1577, wd_94, by decide, by decide +kernel⟩
theorem miX9_putBack : WD (.instanceMethod yX9_putBack) ∧ WD (.selects yX9_putBack.cls yX9_putBack yX9_putBack) := ⟨wd_1576, wd_60⟩
theorem mwX9_change : MW yX9_change cX9_change 1 none 0 := ⟨wd_1418, wd_94, by decide, by decide +kernel⟩
theorem miX9_change : WD (.instanceMethod yX9_change) ∧ WD (.selects yX9_change.cls yX9_change yX9_change) := ⟨wd_1417, wd_31⟩
theorem mwX9_changes : MW yX9_changes cX9_changes 1 none 0 := ⟨wd_1409, wd_94, by decide, by decide +kernel⟩
theorem miX9_changes : WD (.instanceMethod yX9_changes) ∧ WD (.selects yX9_changes.cls yX9_changes yX9_changes) := ⟨wd_1408, wd_29⟩
theorem mwX9_tiers : MW yX9_tiers cX9_tiers 1 (some .int) 0 := ⟨wd_1394, wd_94, by decide, by decide +kernel⟩
theorem miX9_tiers : WD (.instanceMethod yX9_tiers) ∧ WD (.selects yX9_tiers.cls yX9_tiers yX9_tiers) := ⟨wd_1393, wd_27⟩
theorem mwX9_clear : MW yX9_clear cX9_clear 2 (some .int) 0 := ⟨wd_1390, wd_94, by decide, by decide +kernel⟩
theorem miX9_clear : WD (.instanceMethod yX9_clear) ∧ WD (.selects yX9_clear.cls yX9_clear yX9_clear) := ⟨wd_1388, wd_1389⟩
theorem mwX9_annotator : MW yX9_annotator cX9_annotator 1 (some .int) 0 := ⟨wd_1427, wd_94, by decide, by decide +kernel⟩
theorem miX9_annotator : WD (.instanceMethod yX9_annotator) ∧ WD (.selects yX9_annotator.cls yX9_annotator yX9_annotator) := ⟨wd_1426, wd_32⟩
theorem mwX9_isTier : MW yX9_isTier cX9_isTier 2 (some .boolean) 1 := ⟨wd_1405, wd_94, by decide, by decide +kernel⟩
theorem miX9_isTier : WD (.instanceMethod yX9_isTier) ∧ WD (.selects yX9_isTier.cls yX9_isTier yX9_isTier) := ⟨wd_1404, wd_28⟩
theorem mwX9_kind : MW yX9_kind cX9_kind 2 (some .int) 1 := ⟨wd_1486, wd_94, by decide, by decide +kernel⟩
theorem miX9_kind : WD (.instanceMethod yX9_kind) ∧ WD (.selects yX9_kind.cls yX9_kind yX9_kind) := ⟨wd_1485, wd_41⟩
theorem mwX9_rule : MW yX9_rule cX9_rule 2 (some .int) 1 := ⟨wd_1537, wd_94, by decide, by decide +kernel⟩
theorem miX9_rule : WD (.instanceMethod yX9_rule) ∧ WD (.selects yX9_rule.cls yX9_rule yX9_rule) := ⟨wd_1536, wd_52⟩
theorem mwX9_parent : MW yX9_parent cX9_parent 2 (some .int) 1 := ⟨wd_1454, wd_94, by decide, by decide +kernel⟩
theorem miX9_parent : WD (.instanceMethod yX9_parent) ∧ WD (.selects yX9_parent.cls yX9_parent yX9_parent) := ⟨wd_1453, wd_36⟩
theorem mwX9_addTier : MW yX9_addTier cX9_addTier 5 (some .int) 3 := ⟨wd_1398, wd_94, by decide, by decide +kernel⟩
theorem miX9_addTier : WD (.instanceMethod yX9_addTier) ∧ WD (.selects yX9_addTier.cls yX9_addTier yX9_addTier) := ⟨wd_1396, wd_1397⟩
theorem mwX9_select : MW yX9_select cX9_select 3 (some .int) 1 := ⟨wd_1423, wd_94, by decide, by decide +kernel⟩
theorem miX9_select : WD (.instanceMethod yX9_select) ∧ WD (.selects yX9_select.cls yX9_select yX9_select) := ⟨wd_1421, wd_1422⟩
theorem mwX9_setSetting : MW yX9_setSetting cX9_setSetting 4 (some .int) 2 := ⟨wd_1431, wd_94, by decide, by decide +kernel⟩
theorem miX9_setSetting : WD (.instanceMethod yX9_setSetting) ∧ WD (.selects yX9_setSetting.cls yX9_setSetting yX9_setSetting) := ⟨wd_1429, wd_1430⟩
theorem mwX9_row : MW yX9_row cX9_row 2 (some .int) 2 := ⟨wd_1446, wd_94, by decide, by decide +kernel⟩
theorem miX9_row : WD (.static yX9_row) := wd_1445
theorem mwX9_row_ : MW yX9_row_ cX9_row_ 2 (some .int) 1 := ⟨wd_1443, wd_94, by decide, by decide +kernel⟩
theorem miX9_row_ : WD (.instanceMethod yX9_row_) ∧ WD (.selects yX9_row_.cls yX9_row_ yX9_row_) := ⟨wd_1442, wd_34⟩
theorem mwX9_many : MW yX9_many cX9_many 2 (some .int) 1 := ⟨wd_1439, wd_94, by decide, by decide +kernel⟩
theorem miX9_many : WD (.instanceMethod yX9_many) ∧ WD (.selects yX9_many.cls yX9_many yX9_many) := ⟨wd_1438, wd_33⟩
theorem mwX9_isSpan : MW yX9_isSpan cX9_isSpan 3 (some .boolean) 2 := ⟨wd_1553, wd_94, by decide, by decide +kernel⟩
theorem miX9_isSpan : WD (.instanceMethod yX9_isSpan) ∧ WD (.selects yX9_isSpan.cls yX9_isSpan yX9_isSpan) := ⟨wd_1552, wd_55⟩
theorem mwX9_at : MW yX9_at cX9_at 3 (some .int) 2 := ⟨wd_1466, wd_94, by decide, by decide +kernel⟩
theorem miX9_at : WD (.instanceMethod yX9_at) ∧ WD (.selects yX9_at.cls yX9_at yX9_at) := ⟨wd_1465, wd_39⟩
theorem mwX9_first : MW yX9_first cX9_first 3 (some .int) 2 := ⟨wd_1525, wd_94, by decide, by decide +kernel⟩
theorem miX9_first : WD (.instanceMethod yX9_first) ∧ WD (.selects yX9_first.cls yX9_first yX9_first) := ⟨wd_1524, wd_49⟩
theorem mwX9_end : MW yX9_end cX9_end 3 (some .int) 2 := ⟨wd_1529, wd_94, by decide, by decide +kernel⟩
theorem miX9_end : WD (.instanceMethod yX9_end) ∧ WD (.selects yX9_end.cls yX9_end yX9_end) := ⟨wd_1528, wd_50⟩
theorem mwX9_label : MW yX9_label cX9_label 3 (some .long) 2 := ⟨wd_1462, wd_94, by decide, by decide +kernel⟩
theorem miX9_label : WD (.instanceMethod yX9_label) ∧ WD (.selects yX9_label.cls yX9_label yX9_label) := ⟨wd_1461, wd_38⟩
theorem mwX9_takeOut : MW yX9_takeOut cX9_takeOut 3 none 2 := ⟨wd_1557, wd_94, by decide, by decide +kernel⟩
theorem miX9_takeOut : WD (.instanceMethod yX9_takeOut) ∧ WD (.selects yX9_takeOut.cls yX9_takeOut yX9_takeOut) := ⟨wd_1556, wd_56⟩
theorem mwX9_putIn : MW yX9_putIn cX9_putIn 7 (some .int) 4 := ⟨wd_1545, wd_94, by decide, by decide +kernel⟩
theorem miX9_putIn : WD (.instanceMethod yX9_putIn) ∧ WD (.selects yX9_putIn.cls yX9_putIn yX9_putIn) := ⟨wd_1544, wd_54⟩
theorem mwX9_hostOf : MW yX9_hostOf cX9_hostOf 10 (some .int) 3 := ⟨wd_1541, wd_94, by decide, by decide +kernel⟩
theorem miX9_hostOf : WD (.instanceMethod yX9_hostOf) ∧ WD (.selects yX9_hostOf.cls yX9_hostOf yX9_hostOf) := ⟨wd_1540, wd_53⟩
theorem mwX9_lacksHost : MW yX9_lacksHost cX9_lacksHost 4 (some .boolean) 3 := ⟨wd_1533, wd_94, by decide, by decide +kernel⟩
theorem miX9_lacksHost : WD (.instanceMethod yX9_lacksHost) ∧ WD (.selects yX9_lacksHost.cls yX9_lacksHost yX9_lacksHost) := ⟨wd_1532, wd_51⟩
theorem mwX9_hostless : MW yX9_hostless cX9_hostless 3 (some .int) 1 := ⟨wd_1561, wd_94, by decide, by decide +kernel⟩
theorem miX9_hostless : WD (.instanceMethod yX9_hostless) ∧ WD (.selects yX9_hostless.cls yX9_hostless yX9_hostless) := ⟨wd_1560, wd_57⟩
theorem mwX9_hostlessTier : MW yX9_hostlessTier cX9_hostlessTier 2 (some .int) 0 := ⟨wd_1573, wd_94, by decide, by decide +kernel⟩
theorem miX9_hostlessTier : WD (.instanceMethod yX9_hostlessTier) ∧ WD (.selects yX9_hostlessTier.cls yX9_hostlessTier yX9_hostlessTier) := ⟨wd_1572, wd_59⟩
theorem mwX9_framesOf : MW yX9_framesOf cX9_framesOf 6 (some .int) 2 := ⟨wd_1450, wd_94, by decide, by decide +kernel⟩
theorem miX9_framesOf : WD (.instanceMethod yX9_framesOf) ∧ WD (.selects yX9_framesOf.cls yX9_framesOf yX9_framesOf) := ⟨wd_1449, wd_35⟩
theorem mwX9_differentLabels : MW yX9_differentLabels cX9_differentLabels 6 (some .int) 1 := ⟨wd_1458, wd_94, by decide, by decide +kernel⟩
theorem miX9_differentLabels : WD (.instanceMethod yX9_differentLabels) ∧ WD (.selects yX9_differentLabels.cls yX9_differentLabels yX9_differentLabels) := ⟨wd_1457, wd_37⟩
theorem mwX9_tier : MW yX9_tier cX9_tier 5 (some .int) 2 := ⟨wd_1435, wd_94, by decide, by decide +kernel⟩
theorem miX9_tier : WD (.instanceMethod yX9_tier) ∧ WD (.selects yX9_tier.cls yX9_tier yX9_tier) := ⟨wd_1433, wd_1434⟩
theorem mwX9_book : MW yX9_book cX9_book 4 (some .int) 1 := ⟨wd_1470, wd_94, by decide, by decide +kernel⟩
theorem miX9_book : WD (.instanceMethod yX9_book) ∧ WD (.selects yX9_book.cls yX9_book yX9_book) := ⟨wd_1468, wd_1469⟩
theorem mwX9_append : MW yX9_append cX9_append 5 (some .int) 1 := ⟨wd_1474, wd_94, by decide, by decide +kernel⟩
theorem miX9_append : WD (.instanceMethod yX9_append) ∧ WD (.selects yX9_append.cls yX9_append yX9_append) := ⟨wd_1472, wd_1473⟩
theorem mwX9_here : MW yX9_here cX9_here 1 (some .int) 0 := ⟨wd_1494, wd_94, by decide, by decide +kernel⟩
theorem miX9_here : WD (.instanceMethod yX9_here) ∧ WD (.selects yX9_here.cls yX9_here yX9_here) := ⟨wd_1493, wd_43⟩
theorem mwX9_isOf : MW yX9_isOf cX9_isOf 2 (some .boolean) 2 := ⟨wd_1497, wd_94, by decide, by decide +kernel⟩
theorem miX9_isOf : WD (.static yX9_isOf) := wd_1496
theorem mwX9_readLabel : MW yX9_readLabel cX9_readLabel 6 (some .long) 1 := ⟨wd_1490, wd_94, by decide, by decide +kernel⟩
theorem miX9_readLabel : WD (.instanceMethod yX9_readLabel) ∧ WD (.selects yX9_readLabel.cls yX9_readLabel yX9_readLabel) := ⟨wd_1489, wd_42⟩
theorem mwX9_beginText : MW yX9_beginText cX9_beginText 1 none 0 := ⟨wd_1482, wd_94, by decide, by decide +kernel⟩
theorem miX9_beginText : WD (.instanceMethod yX9_beginText) ∧ WD (.selects yX9_beginText.cls yX9_beginText yX9_beginText) := ⟨wd_1481, wd_40⟩
theorem mwX9_endText : MW yX9_endText cX9_endText 1 (some .boolean) 0 := ⟨wd_1502, wd_94, by decide, by decide +kernel⟩
theorem miX9_endText : WD (.instanceMethod yX9_endText) ∧ WD (.selects yX9_endText.cls yX9_endText yX9_endText) := ⟨wd_1501, wd_44⟩
theorem mwX9_lengthOf : MW yX9_lengthOf cX9_lengthOf 5 (some .int) 1 := ⟨wd_1604, wd_94, by decide, by decide +kernel⟩
theorem miX9_lengthOf : WD (.static yX9_lengthOf) := wd_1603
theorem mwX9_isRefused : MW yX9_isRefused cX9_isRefused 3 (some .boolean) 2 := ⟨wd_1517, wd_94, by decide, by decide +kernel⟩
theorem miX9_isRefused : WD (.instanceMethod yX9_isRefused) ∧ WD (.selects yX9_isRefused.cls yX9_isRefused yX9_isRefused) := ⟨wd_1516, wd_47⟩
theorem mwX9_inTheWay : MW yX9_inTheWay cX9_inTheWay 6 (some .int) 4 := ⟨wd_1521, wd_94, by decide, by decide +kernel⟩
theorem miX9_inTheWay : WD (.instanceMethod yX9_inTheWay) ∧ WD (.selects yX9_inTheWay.cls yX9_inTheWay yX9_inTheWay) := ⟨wd_1520, wd_48⟩
theorem mwX9_areFrames : MW yX9_areFrames cX9_areFrames 2 (some .boolean) 2 := ⟨wd_1513, wd_94, by decide, by decide +kernel⟩
theorem miX9_areFrames : WD (.static yX9_areFrames) := wd_1512
theorem mwX9_areRefused : MW yX9_areRefused cX9_areRefused 6 (some .boolean) 4 := ⟨wd_1510, wd_94, by decide, by decide +kernel⟩
theorem miX9_areRefused : WD (.instanceMethod yX9_areRefused) ∧ WD (.selects yX9_areRefused.cls yX9_areRefused yX9_areRefused) := ⟨wd_1509, wd_46⟩
theorem mwX9_add : MW yX9_add cX9_add 6 (some .int) 4 := ⟨wd_1506, wd_94, by decide, by decide +kernel⟩
theorem miX9_add : WD (.instanceMethod yX9_add) ∧ WD (.selects yX9_add.cls yX9_add yX9_add) := ⟨wd_1505, wd_45⟩
theorem mwX9_addSpan : MW yX9_addSpan cX9_addSpan 7 (some .int) 3 := ⟨wd_1478, wd_94, by decide, by decide +kernel⟩
theorem miX9_addSpan : WD (.instanceMethod yX9_addSpan) ∧ WD (.selects yX9_addSpan.cls yX9_addSpan yX9_addSpan) := ⟨wd_1476, wd_1477⟩
theorem mwX9_removeSpan : MW yX9_removeSpan cX9_removeSpan 6 (some .int) 2 := ⟨wd_1549, wd_94, by decide, by decide +kernel⟩
theorem miX9_removeSpan : WD (.instanceMethod yX9_removeSpan) ∧ WD (.selects yX9_removeSpan.cls yX9_removeSpan yX9_removeSpan) := ⟨wd_1547, wd_1548⟩
theorem mwX9_stays : MW yX9_stays cX9_stays 3 (some .boolean) 1 := ⟨wd_1569, wd_94, by decide, by decide +kernel⟩
theorem miX9_stays : WD (.instanceMethod yX9_stays) ∧ WD (.selects yX9_stays.cls yX9_stays yX9_stays) := ⟨wd_1568, wd_58⟩
theorem mwX9_moveSpan : MW yX9_moveSpan cX9_moveSpan 8 (some .int) 4 := ⟨wd_1565, wd_94, by decide, by decide +kernel⟩
theorem miX9_moveSpan : WD (.instanceMethod yX9_moveSpan) ∧ WD (.selects yX9_moveSpan.cls yX9_moveSpan yX9_moveSpan) := ⟨wd_1563, wd_1564⟩
theorem mwX9_rename : MW yX9_rename cX9_rename 6 (some .int) 2 := ⟨wd_1581, wd_94, by decide, by decide +kernel⟩
theorem miX9_rename : WD (.instanceMethod yX9_rename) ∧ WD (.selects yX9_rename.cls yX9_rename yX9_rename) := ⟨wd_1579, wd_1580⟩
theorem mwX9_isHosted : MW yX9_isHosted cX9_isHosted 7 (some .boolean) 4 := ⟨wd_1593, wd_94, by decide, by decide +kernel⟩
theorem miX9_isHosted : WD (.instanceMethod yX9_isHosted) ∧ WD (.selects yX9_isHosted.cls yX9_isHosted yX9_isHosted) := ⟨wd_1592, wd_62⟩
theorem mwX9_splitFull : MW yX9_splitFull cX9_splitFull 10 (some .int) 4 := ⟨wd_1589, wd_94, by decide, by decide +kernel⟩
theorem miX9_splitFull : WD (.instanceMethod yX9_splitFull) ∧ WD (.selects yX9_splitFull.cls yX9_splitFull yX9_splitFull) := ⟨wd_1588, wd_61⟩
theorem mwX9_split : MW yX9_split cX9_split 11 (some .int) 3 := ⟨wd_1585, wd_94, by decide, by decide +kernel⟩
theorem miX9_split : WD (.instanceMethod yX9_split) ∧ WD (.selects yX9_split.cls yX9_split yX9_split) := ⟨wd_1583, wd_1584⟩
theorem mwX9_join : MW yX9_join cX9_join 7 (some .int) 2 := ⟨wd_1597, wd_94, by decide, by decide +kernel⟩
theorem miX9_join : WD (.instanceMethod yX9_join) ∧ WD (.selects yX9_join.cls yX9_join yX9_join) := ⟨wd_1595, wd_1596⟩
theorem mwX9_hosted : MW yX9_hosted cX9_hosted 6 (some .int) 2 := ⟨wd_1608, wd_94, by decide, by decide +kernel⟩
theorem miX9_hosted : WD (.instanceMethod yX9_hosted) ∧ WD (.selects yX9_hosted.cls yX9_hosted yX9_hosted) := ⟨wd_1607, wd_63⟩
theorem mwX9_span : MW yX9_span cX9_span 4 (some .int) 3 := ⟨wd_1601, wd_94, by decide, by decide +kernel⟩
theorem miX9_span : WD (.instanceMethod yX9_span) ∧ WD (.selects yX9_span.cls yX9_span yX9_span) := ⟨wd_1599, wd_1600⟩
theorem mwX9_letter : MW yX9_letter cX9_letter 6 (some .char) 3 := ⟨wd_1612, wd_94, by decide, by decide +kernel⟩
theorem miX9_letter : WD (.instanceMethod yX9_letter) ∧ WD (.selects yX9_letter.cls yX9_letter yX9_letter) := ⟨wd_1610, wd_1611⟩
theorem mwX9_spanAt : MW yX9_spanAt cX9_spanAt 5 (some .int) 2 := ⟨wd_1617, wd_94, by decide, by decide +kernel⟩
theorem miX9_spanAt : WD (.instanceMethod yX9_spanAt) ∧ WD (.selects yX9_spanAt.cls yX9_spanAt yX9_spanAt) := ⟨wd_1615, wd_1616⟩
theorem mwX9_refusal : MW yX9_refusal cX9_refusal 2 (some .int) 1 := ⟨wd_1621, wd_94, by decide, by decide +kernel⟩
theorem miX9_refusal : WD (.instanceMethod yX9_refusal) ∧ WD (.selects yX9_refusal.cls yX9_refusal yX9_refusal) := ⟨wd_1619, wd_1620⟩
theorem mwX9_cell : MW yX9_cell cX9_cell 2 (some .int) 2 := ⟨wd_1632, wd_94, by decide, by decide +kernel⟩
theorem miX9_cell : WD (.static yX9_cell) := wd_1631
theorem mwX9_distance : MW yX9_distance cX9_distance 5 (some .int) 4 := ⟨wd_1640, wd_94, by decide, by decide +kernel⟩
theorem miX9_distance : WD (.instanceMethod yX9_distance) ∧ WD (.selects yX9_distance.cls yX9_distance yX9_distance) := ⟨wd_1639, wd_66⟩
theorem mwX9_isBestPair : MW yX9_isBestPair cX9_isBestPair 8 (some .boolean) 5 := ⟨wd_1645, wd_94, by decide, by decide +kernel⟩
theorem miX9_isBestPair : WD (.instanceMethod yX9_isBestPair) ∧ WD (.selects yX9_isBestPair.cls yX9_isBestPair yX9_isBestPair) := ⟨wd_1644, wd_67⟩
theorem mwX9_take : MW yX9_take cX9_take 7 none 4 := ⟨wd_1636, wd_94, by decide, by decide +kernel⟩
theorem miX9_take : WD (.instanceMethod yX9_take) ∧ WD (.selects yX9_take.cls yX9_take yX9_take) := ⟨wd_1635, wd_65⟩
theorem mwX9_align : MW yX9_align cX9_align 7 none 2 := ⟨wd_1629, wd_94, by decide, by decide +kernel⟩
theorem miX9_align : WD (.instanceMethod yX9_align) ∧ WD (.selects yX9_align.cls yX9_align yX9_align) := ⟨wd_1628, wd_64⟩
theorem mwX9_aligned : MW yX9_aligned cX9_aligned 8 (some .int) 3 := ⟨wd_1625, wd_94, by decide, by decide +kernel⟩
theorem miX9_aligned : WD (.instanceMethod yX9_aligned) ∧ WD (.selects yX9_aligned.cls yX9_aligned yX9_aligned) := ⟨wd_1623, wd_1624⟩
theorem mwX9_alignment : MW yX9_alignment cX9_alignment 4 (some .int) 3 := ⟨wd_1649, wd_94, by decide, by decide +kernel⟩
theorem miX9_alignment : WD (.instanceMethod yX9_alignment) ∧ WD (.selects yX9_alignment.cls yX9_alignment yX9_alignment) := ⟨wd_1647, wd_1648⟩
theorem mwX9_readTierNumber : MW yX9_readTierNumber cX9_readTierNumber 1 (some .int) 0 := ⟨wd_1665, wd_94, by decide, by decide +kernel⟩
theorem miX9_readTierNumber : WD (.instanceMethod yX9_readTierNumber) ∧ WD (.selects yX9_readTierNumber.cls yX9_readTierNumber yX9_readTierNumber) := ⟨wd_1664, wd_70⟩
theorem mwX9_sign : MW yX9_sign cX9_sign 2 none 1 := ⟨wd_1669, wd_94, by decide, by decide +kernel⟩
theorem miX9_sign : WD (.instanceMethod yX9_sign) ∧ WD (.selects yX9_sign.cls yX9_sign yX9_sign) := ⟨wd_1668, wd_71⟩
theorem mwX9_readPart : MW yX9_readPart cX9_readPart 2 none 0 := ⟨wd_1661, wd_94, by decide, by decide +kernel⟩
theorem miX9_readPart : WD (.instanceMethod yX9_readPart) ∧ WD (.selects yX9_readPart.cls yX9_readPart yX9_readPart) := ⟨wd_1660, wd_69⟩
theorem mwX9_isPatternWrong : MW yX9_isPatternWrong cX9_isPatternWrong 1 (some .boolean) 0 := ⟨wd_1657, wd_94, by decide, by decide +kernel⟩
theorem miX9_isPatternWrong : WD (.instanceMethod yX9_isPatternWrong) ∧ WD (.selects yX9_isPatternWrong.cls yX9_isPatternWrong yX9_isPatternWrong) := ⟨wd_1656, wd_68⟩
theorem mwX9_isFitting : MW yX9_isFitting cX9_isFitting 6 (some .boolean) 2 := ⟨wd_1677, wd_94, by decide, by decide +kernel⟩
theorem miX9_isFitting : WD (.instanceMethod yX9_isFitting) ∧ WD (.selects yX9_isFitting.cls yX9_isFitting yX9_isFitting) := ⟨wd_1676, wd_73⟩
theorem mwX9_isLinked : MW yX9_isLinked cX9_isLinked 7 (some .boolean) 2 := ⟨wd_1682, wd_94, by decide, by decide +kernel⟩
theorem miX9_isLinked : WD (.instanceMethod yX9_isLinked) ∧ WD (.selects yX9_isLinked.cls yX9_isLinked yX9_isLinked) := ⟨wd_1681, wd_74⟩
theorem mwX9_match : MW yX9_match cX9_match 5 none 1 := ⟨wd_1673, wd_94, by decide, by decide +kernel⟩
theorem miX9_match : WD (.instanceMethod yX9_match) ∧ WD (.selects yX9_match.cls yX9_match yX9_match) := ⟨wd_1672, wd_72⟩
theorem mwX9_search : MW yX9_search cX9_search 2 (some .int) 0 := ⟨wd_1653, wd_94, by decide, by decide +kernel⟩
theorem miX9_search : WD (.instanceMethod yX9_search) ∧ WD (.selects yX9_search.cls yX9_search yX9_search) := ⟨wd_1651, wd_1652⟩
theorem mwX9_match_ : MW yX9_match_ cX9_match_ 3 (some .int) 2 := ⟨wd_1686, wd_94, by decide, by decide +kernel⟩
theorem miX9_match_ : WD (.instanceMethod yX9_match_) ∧ WD (.selects yX9_match_.cls yX9_match_ yX9_match_) := ⟨wd_1684, wd_1685⟩
theorem mwX9_put : MW yX9_put cX9_put 6 none 4 := ⟨wd_1702, wd_94, by decide, by decide +kernel⟩
theorem miX9_put : WD (.instanceMethod yX9_put) ∧ WD (.selects yX9_put.cls yX9_put yX9_put) := ⟨wd_1701, wd_77⟩
theorem mwX9_mergeIn : MW yX9_mergeIn cX9_mergeIn 7 none 4 := ⟨wd_1698, wd_94, by decide, by decide +kernel⟩
theorem miX9_mergeIn : WD (.instanceMethod yX9_mergeIn) ∧ WD (.selects yX9_mergeIn.cls yX9_mergeIn yX9_mergeIn) := ⟨wd_1697, wd_76⟩
theorem mwX9_mergeTier : MW yX9_mergeTier cX9_mergeTier 10 none 1 := ⟨wd_1694, wd_94, by decide, by decide +kernel⟩
theorem miX9_mergeTier : WD (.instanceMethod yX9_mergeTier) ∧ WD (.selects yX9_mergeTier.cls yX9_mergeTier yX9_mergeTier) := ⟨wd_1693, wd_75⟩
theorem mwX9_merge : MW yX9_merge cX9_merge 6 (some .int) 2 := ⟨wd_1690, wd_94, by decide, by decide +kernel⟩
theorem miX9_merge : WD (.instanceMethod yX9_merge) ∧ WD (.selects yX9_merge.cls yX9_merge yX9_merge) := ⟨wd_1688, wd_1689⟩
theorem mwX9_merged : MW yX9_merged cX9_merged 4 (some .int) 3 := ⟨wd_1707, wd_94, by decide, by decide +kernel⟩
theorem miX9_merged : WD (.instanceMethod yX9_merged) ∧ WD (.selects yX9_merged.cls yX9_merged yX9_merged) := ⟨wd_1705, wd_1706⟩
theorem mwX9_layOut : MW yX9_layOut cX9_layOut 7 none 1 := ⟨wd_1719, wd_94, by decide, by decide +kernel⟩
theorem miX9_layOut : WD (.instanceMethod yX9_layOut) ∧ WD (.selects yX9_layOut.cls yX9_layOut yX9_layOut) := ⟨wd_1718, wd_79⟩
theorem mwX9_compareFrames : MW yX9_compareFrames cX9_compareFrames 8 none 1 := ⟨wd_1715, wd_94, by decide, by decide +kernel⟩
theorem miX9_compareFrames : WD (.instanceMethod yX9_compareFrames) ∧ WD (.selects yX9_compareFrames.cls yX9_compareFrames yX9_compareFrames) := ⟨wd_1714, wd_78⟩
theorem mwX9_frames : MW yX9_frames cX9_frames 3 (some .int) 2 := ⟨wd_1711, wd_94, by decide, by decide +kernel⟩
theorem miX9_frames : WD (.instanceMethod yX9_frames) ∧ WD (.selects yX9_frames.cls yX9_frames yX9_frames) := ⟨wd_1709, wd_1710⟩
theorem mwX9_agreement : MW yX9_agreement cX9_agreement 2 (some .float) 1 := ⟨wd_1723, wd_94, by decide, by decide +kernel⟩
theorem miX9_agreement : WD (.instanceMethod yX9_agreement) ∧ WD (.selects yX9_agreement.cls yX9_agreement yX9_agreement) := ⟨wd_1721, wd_1722⟩
theorem mwX9_labelledAs : MW yX9_labelledAs cX9_labelledAs 8 (some .int) 3 := ⟨wd_1735, wd_94, by decide, by decide +kernel⟩
theorem miX9_labelledAs : WD (.instanceMethod yX9_labelledAs) ∧ WD (.selects yX9_labelledAs.cls yX9_labelledAs yX9_labelledAs) := ⟨wd_1734, wd_81⟩
theorem mwX9_products : MW yX9_products cX9_products 5 (some .int) 1 := ⟨wd_1731, wd_94, by decide, by decide +kernel⟩
theorem miX9_products : WD (.instanceMethod yX9_products) ∧ WD (.selects yX9_products.cls yX9_products yX9_products) := ⟨wd_1730, wd_80⟩
theorem mwX9_kappa : MW yX9_kappa cX9_kappa 7 (some .double) 1 := ⟨wd_1727, wd_94, by decide, by decide +kernel⟩
theorem miX9_kappa : WD (.instanceMethod yX9_kappa) ∧ WD (.selects yX9_kappa.cls yX9_kappa yX9_kappa) := ⟨wd_1725, wd_1726⟩
theorem mwX9_isConsistent : MW yX9_isConsistent cX9_isConsistent 1 (some .boolean) 0 := ⟨wd_1742, wd_94, by decide, by decide +kernel⟩
theorem miX9_isConsistent : WD (.instanceMethod yX9_isConsistent) ∧ WD (.selects yX9_isConsistent.cls yX9_isConsistent yX9_isConsistent) := ⟨wd_1740, wd_1741⟩
theorem mwX9_number : MW yX9_number cX9_number 4 (some .int) 0 := ⟨wd_1754, wd_94, by decide, by decide +kernel⟩
theorem miX9_number : WD (.instanceMethod yX9_number) ∧ WD (.selects yX9_number.cls yX9_number yX9_number) := ⟨wd_1753, wd_83⟩
theorem mwX9_readItem : MW yX9_readItem cX9_readItem 1 none 0 := ⟨wd_1750, wd_94, by decide, by decide +kernel⟩
theorem miX9_readItem : WD (.instanceMethod yX9_readItem) ∧ WD (.selects yX9_readItem.cls yX9_readItem yX9_readItem) := ⟨wd_1749, wd_82⟩
theorem mwX9_read : MW yX9_read cX9_read 2 (some .int) 0 := ⟨wd_1746, wd_94, by decide, by decide +kernel⟩
theorem miX9_read : WD (.instanceMethod yX9_read) ∧ WD (.selects yX9_read.cls yX9_read yX9_read) := ⟨wd_1744, wd_1745⟩
theorem mwX9_errorPosition : MW yX9_errorPosition cX9_errorPosition 1 (some .int) 0 := ⟨wd_1758, wd_94, by decide, by decide +kernel⟩
theorem miX9_errorPosition : WD (.instanceMethod yX9_errorPosition) ∧ WD (.selects yX9_errorPosition.cls yX9_errorPosition yX9_errorPosition) := ⟨wd_1756, wd_1757⟩
theorem mwX9_refusedItem : MW yX9_refusedItem cX9_refusedItem 1 (some .int) 0 := ⟨wd_1762, wd_94, by decide, by decide +kernel⟩
theorem miX9_refusedItem : WD (.instanceMethod yX9_refusedItem) ∧ WD (.selects yX9_refusedItem.cls yX9_refusedItem yX9_refusedItem) := ⟨wd_1760, wd_1761⟩
theorem mwX9_undo : MW yX9_undo cX9_undo 1 (some .int) 0 := ⟨wd_1766, wd_94, by decide, by decide +kernel⟩
theorem miX9_undo : WD (.instanceMethod yX9_undo) ∧ WD (.selects yX9_undo.cls yX9_undo yX9_undo) := ⟨wd_1764, wd_1765⟩
theorem mwX9_snapshot : MW yX9_snapshot cX9_snapshot 1 (some .int) 0 := ⟨wd_1770, wd_94, by decide, by decide +kernel⟩
theorem miX9_snapshot : WD (.instanceMethod yX9_snapshot) ∧ WD (.selects yX9_snapshot.cls yX9_snapshot yX9_snapshot) := ⟨wd_1768, wd_1769⟩
theorem mwX9_restore : MW yX9_restore cX9_restore 1 (some .int) 0 := ⟨wd_1774, wd_94, by decide, by decide +kernel⟩
theorem miX9_restore : WD (.instanceMethod yX9_restore) ∧ WD (.selects yX9_restore.cls yX9_restore yX9_restore) := ⟨wd_1772, wd_1773⟩
theorem mwX0_init : MW yX0_init cX0_init 1 none 0 := ⟨wd_258, wd_91, by decide, by decide +kernel⟩
theorem miX0_init : WD (.instanceMethod yX0_init) := wd_257
theorem mwX1_init : MW yX1_init cX1_init 2 none 0 := ⟨wd_120, wd_86, by decide, by decide +kernel⟩
theorem miX1_init : WD (.instanceMethod yX1_init) := wd_119
theorem mwX2_init : MW yX2_init cX2_init 2 none 0 := ⟨wd_188, wd_88, by decide, by decide +kernel⟩
theorem miX2_init : WD (.instanceMethod yX2_init) := wd_187
theorem mwX3_init : MW yX3_init cX3_init 1 none 0 := ⟨wd_208, wd_89, by decide, by decide +kernel⟩
theorem miX3_init : WD (.instanceMethod yX3_init) := wd_207
theorem mwX4_init : MW yX4_init cX4_init 1 none 0 := ⟨wd_279, wd_92, by decide, by decide +kernel⟩
theorem miX4_init : WD (.instanceMethod yX4_init) := wd_278
theorem mwX5_init : MW yX5_init cX5_init 1 none 0 := ⟨wd_310, wd_93, by decide, by decide +kernel⟩
theorem miX5_init : WD (.instanceMethod yX5_init) := wd_309
theorem mwX6_init : MW yX6_init cX6_init 1 none 0 := ⟨wd_243, wd_90, by decide, by decide +kernel⟩
theorem miX6_init : WD (.instanceMethod yX6_init) := wd_242
theorem mwX7_init : MW yX7_init cX7_init 1 none 0 := ⟨wd_127, wd_87, by decide, by decide +kernel⟩
theorem miX7_init : WD (.instanceMethod yX7_init) := wd_126
theorem mwX8_init : MW yX8_init cX8_init 1 none 0 := ⟨wd_112, wd_85, by decide, by decide +kernel⟩
theorem miX8_init : WD (.instanceMethod yX8_init) := wd_111
theorem mwX9_init : MW yX9_init cX9_init 1 none 0 := ⟨wd_1233, wd_94, by decide, by decide +kernel⟩
theorem miX9_init : WD (.instanceMethod yX9_init) := wd_1232
