theorem wd_84 : WD (.initialized RL) := ⟨List.mem_of_getElem? (i := 84) (by decide +kernel), by decide +kernel⟩
theorem wd_108 : WD (.classLink RL 8 RX8) := ⟨List.mem_of_getElem? (i := 108) (by decide +kernel), by decide +kernel⟩
theorem wd_109 : WD (.instantiable RX8 13) := ⟨List.mem_of_getElem? (i := 109) (by decide +kernel), by decide +kernel⟩
theorem wd_110 : WD (.methodLink RL 121 yX8_init) := ⟨List.mem_of_getElem? (i := 110) (by decide +kernel), by decide +kernel⟩
theorem wd_378 : WD (.methodLink RL 125 yX8_clear) := ⟨List.mem_of_getElem? (i := 378) (by decide +kernel), by decide +kernel⟩
theorem wd_390 : WD (.methodLink RL 217 yX8_isConsistent) := ⟨List.mem_of_getElem? (i := 390) (by decide +kernel), by decide +kernel⟩
theorem wd_452 : WD (.methodLink RL 234 yX8_snapshot) := ⟨List.mem_of_getElem? (i := 452) (by decide +kernel), by decide +kernel⟩
theorem wd_475 : WD (.methodLink RL 129 yL_addTier) := ⟨List.mem_of_getElem? (i := 475) (by decide +kernel), by decide +kernel⟩
theorem wd_476 : WD (.static yL_addTier) := ⟨List.mem_of_getElem? (i := 476) (by decide +kernel), by decide +kernel⟩
theorem wd_477 : WD (.codeWith yL_addTier cL_addTier 6 (some .int) [(0, 12, 15, 13), (0, 12, 19, 15), (0, 12, 23, 17)]) := ⟨List.mem_of_getElem? (i := 477) (by decide +kernel), by decide +kernel⟩
theorem wd_478 : WD (.classLink RL 13 "java/lang/IllegalArgumentException") := ⟨List.mem_of_getElem? (i := 478) (by decide +kernel), by decide +kernel⟩
theorem wd_479 : WD (.classLink RL 15 "java/lang/IndexOutOfBoundsException") := ⟨List.mem_of_getElem? (i := 479) (by decide +kernel), by decide +kernel⟩
theorem wd_559 : WD (.classLink RL 17 "java/lang/IllegalStateException") := ⟨List.mem_of_getElem? (i := 559) (by decide +kernel), by decide +kernel⟩
theorem wd_560 : WD (.methodLink RL 7 yX8_addTier) := ⟨List.mem_of_getElem? (i := 560) (by decide +kernel), by decide +kernel⟩
theorem wd_566 : WD (.castable "java/lang/IllegalArgumentException" "java/lang/IllegalArgumentException") := ⟨List.mem_of_getElem? (i := 566) (by decide +kernel), by decide +kernel⟩
theorem wd_591 : WD (.castable "java/lang/IndexOutOfBoundsException" "java/lang/IndexOutOfBoundsException") := ⟨List.mem_of_getElem? (i := 591) (by decide +kernel), by decide +kernel⟩
theorem wd_606 : WD (.castable "java/lang/IllegalStateException" "java/lang/IllegalStateException") := ⟨List.mem_of_getElem? (i := 606) (by decide +kernel), by decide +kernel⟩
theorem wd_631 : WD (.methodLink RL 138 yL_select) := ⟨List.mem_of_getElem? (i := 631) (by decide +kernel), by decide +kernel⟩
theorem wd_632 : WD (.static yL_select) := ⟨List.mem_of_getElem? (i := 632) (by decide +kernel), by decide +kernel⟩
theorem wd_633 : WD (.codeWith yL_select cL_select 4 (some .int) [(0, 9, 12, 13)]) := ⟨List.mem_of_getElem? (i := 633) (by decide +kernel), by decide +kernel⟩
theorem wd_634 : WD (.methodLink RL 19 yX8_select) := ⟨List.mem_of_getElem? (i := 634) (by decide +kernel), by decide +kernel⟩
theorem wd_638 : WD (.methodLink RL 142 yL_setSetting) := ⟨List.mem_of_getElem? (i := 638) (by decide +kernel), by decide +kernel⟩
theorem wd_639 : WD (.static yL_setSetting) := ⟨List.mem_of_getElem? (i := 639) (by decide +kernel), by decide +kernel⟩
theorem wd_640 : WD (.codeWith yL_setSetting cL_setSetting 5 (some .int) [(0, 10, 13, 15), (0, 10, 17, 13)]) := ⟨List.mem_of_getElem? (i := 640) (by decide +kernel), by decide +kernel⟩
theorem wd_641 : WD (.methodLink RL 23 yX8_setSetting) := ⟨List.mem_of_getElem? (i := 641) (by decide +kernel), by decide +kernel⟩
theorem wd_645 : WD (.methodLink RL 146 yL_tier) := ⟨List.mem_of_getElem? (i := 645) (by decide +kernel), by decide +kernel⟩
theorem wd_646 : WD (.static yL_tier) := ⟨List.mem_of_getElem? (i := 646) (by decide +kernel), by decide +kernel⟩
theorem wd_647 : WD (.codeWith yL_tier cL_tier 5 (some .int) [(0, 10, 13, 15), (0, 10, 17, 13)]) := ⟨List.mem_of_getElem? (i := 647) (by decide +kernel), by decide +kernel⟩
theorem wd_648 : WD (.methodLink RL 27 yX8_tier) := ⟨List.mem_of_getElem? (i := 648) (by decide +kernel), by decide +kernel⟩
theorem wd_675 : WD (.methodLink RL 149 yL_book) := ⟨List.mem_of_getElem? (i := 675) (by decide +kernel), by decide +kernel⟩
theorem wd_676 : WD (.static yL_book) := ⟨List.mem_of_getElem? (i := 676) (by decide +kernel), by decide +kernel⟩
theorem wd_677 : WD (.codeWith yL_book cL_book 4 (some .int) [(0, 9, 12, 13)]) := ⟨List.mem_of_getElem? (i := 677) (by decide +kernel), by decide +kernel⟩
theorem wd_678 : WD (.methodLink RL 30 yX8_book) := ⟨List.mem_of_getElem? (i := 678) (by decide +kernel), by decide +kernel⟩
theorem wd_686 : WD (.methodLink RL 152 yL_append) := ⟨List.mem_of_getElem? (i := 686) (by decide +kernel), by decide +kernel⟩
theorem wd_687 : WD (.static yL_append) := ⟨List.mem_of_getElem? (i := 687) (by decide +kernel), by decide +kernel⟩
theorem wd_688 : WD (.codeWith yL_append cL_append 4 (some .int) [(0, 9, 12, 13), (0, 9, 15, 17)]) := ⟨List.mem_of_getElem? (i := 688) (by decide +kernel), by decide +kernel⟩
theorem wd_689 : WD (.methodLink RL 33 yX8_append) := ⟨List.mem_of_getElem? (i := 689) (by decide +kernel), by decide +kernel⟩
theorem wd_697 : WD (.methodLink RL 155 yL_addSpan) := ⟨List.mem_of_getElem? (i := 697) (by decide +kernel), by decide +kernel⟩
theorem wd_698 : WD (.static yL_addSpan) := ⟨List.mem_of_getElem? (i := 698) (by decide +kernel), by decide +kernel⟩
theorem wd_699 : WD (.codeWith yL_addSpan cL_addSpan 6 (some .int) [(0, 12, 15, 15), (0, 12, 19, 13), (0, 12, 23, 39)]) := ⟨List.mem_of_getElem? (i := 699) (by decide +kernel), by decide +kernel⟩
theorem wd_700 : WD (.classLink RL 39 "java/lang/UnsupportedOperationException") := ⟨List.mem_of_getElem? (i := 700) (by decide +kernel), by decide +kernel⟩
theorem wd_701 : WD (.methodLink RL 36 yX8_addSpan) := ⟨List.mem_of_getElem? (i := 701) (by decide +kernel), by decide +kernel⟩
theorem wd_775 : WD (.castable "java/lang/UnsupportedOperationException" "java/lang/UnsupportedOperationException") := ⟨List.mem_of_getElem? (i := 775) (by decide +kernel), by decide +kernel⟩
theorem wd_792 : WD (.methodLink RL 158 yL_removeSpan) := ⟨List.mem_of_getElem? (i := 792) (by decide +kernel), by decide +kernel⟩
theorem wd_793 : WD (.static yL_removeSpan) := ⟨List.mem_of_getElem? (i := 793) (by decide +kernel), by decide +kernel⟩
theorem wd_794 : WD (.codeWith yL_removeSpan cL_removeSpan 5 (some .int) [(0, 10, 13, 15)]) := ⟨List.mem_of_getElem? (i := 794) (by decide +kernel), by decide +kernel⟩
theorem wd_795 : WD (.methodLink RL 41 yX8_removeSpan) := ⟨List.mem_of_getElem? (i := 795) (by decide +kernel), by decide +kernel⟩
theorem wd_816 : WD (.methodLink RL 161 yL_moveSpan) := ⟨List.mem_of_getElem? (i := 816) (by decide +kernel), by decide +kernel⟩
theorem wd_817 : WD (.static yL_moveSpan) := ⟨List.mem_of_getElem? (i := 817) (by decide +kernel), by decide +kernel⟩
theorem wd_818 : WD (.codeWith yL_moveSpan cL_moveSpan 7 (some .int) [(0, 14, 17, 15), (0, 14, 21, 39)]) := ⟨List.mem_of_getElem? (i := 818) (by decide +kernel), by decide +kernel⟩
theorem wd_819 : WD (.methodLink RL 44 yX8_moveSpan) := ⟨List.mem_of_getElem? (i := 819) (by decide +kernel), by decide +kernel⟩
theorem wd_833 : WD (.methodLink RL 165 yL_rename) := ⟨List.mem_of_getElem? (i := 833) (by decide +kernel), by decide +kernel⟩
theorem wd_834 : WD (.static yL_rename) := ⟨List.mem_of_getElem? (i := 834) (by decide +kernel), by decide +kernel⟩
theorem wd_835 : WD (.codeWith yL_rename cL_rename 5 (some .int) [(0, 10, 13, 15), (0, 10, 17, 13)]) := ⟨List.mem_of_getElem? (i := 835) (by decide +kernel), by decide +kernel⟩
theorem wd_836 : WD (.methodLink RL 48 yX8_rename) := ⟨List.mem_of_getElem? (i := 836) (by decide +kernel), by decide +kernel⟩
theorem wd_842 : WD (.methodLink RL 168 yL_split) := ⟨List.mem_of_getElem? (i := 842) (by decide +kernel), by decide +kernel⟩
theorem wd_843 : WD (.static yL_split) := ⟨List.mem_of_getElem? (i := 843) (by decide +kernel), by decide +kernel⟩
theorem wd_844 : WD (.codeWith yL_split cL_split 6 (some .int) [(0, 12, 15, 15), (0, 12, 19, 39)]) := ⟨List.mem_of_getElem? (i := 844) (by decide +kernel), by decide +kernel⟩
theorem wd_845 : WD (.methodLink RL 51 yX8_split) := ⟨List.mem_of_getElem? (i := 845) (by decide +kernel), by decide +kernel⟩
theorem wd_854 : WD (.methodLink RL 171 yL_join) := ⟨List.mem_of_getElem? (i := 854) (by decide +kernel), by decide +kernel⟩
theorem wd_855 : WD (.static yL_join) := ⟨List.mem_of_getElem? (i := 855) (by decide +kernel), by decide +kernel⟩
theorem wd_856 : WD (.codeWith yL_join cL_join 5 (some .int) [(0, 10, 13, 15), (0, 10, 17, 39)]) := ⟨List.mem_of_getElem? (i := 856) (by decide +kernel), by decide +kernel⟩
theorem wd_857 : WD (.methodLink RL 54 yX8_join) := ⟨List.mem_of_getElem? (i := 857) (by decide +kernel), by decide +kernel⟩
theorem wd_865 : WD (.methodLink RL 174 yL_span) := ⟨List.mem_of_getElem? (i := 865) (by decide +kernel), by decide +kernel⟩
theorem wd_866 : WD (.static yL_span) := ⟨List.mem_of_getElem? (i := 866) (by decide +kernel), by decide +kernel⟩
theorem wd_867 : WD (.codeWith yL_span cL_span 6 (some .int) [(0, 12, 15, 15), (0, 12, 19, 13)]) := ⟨List.mem_of_getElem? (i := 867) (by decide +kernel), by decide +kernel⟩
theorem wd_868 : WD (.methodLink RL 57 yX8_span) := ⟨List.mem_of_getElem? (i := 868) (by decide +kernel), by decide +kernel⟩
theorem wd_886 : WD (.methodLink RL 177 yL_letter) := ⟨List.mem_of_getElem? (i := 886) (by decide +kernel), by decide +kernel⟩
theorem wd_887 : WD (.static yL_letter) := ⟨List.mem_of_getElem? (i := 887) (by decide +kernel), by decide +kernel⟩
theorem wd_888 : WD (.codeWith yL_letter cL_letter 6 (some .int) [(0, 12, 15, 15), (0, 12, 19, 64)]) := ⟨List.mem_of_getElem? (i := 888) (by decide +kernel), by decide +kernel⟩
theorem wd_889 : WD (.classLink RL 64 "java/util/NoSuchElementException") := ⟨List.mem_of_getElem? (i := 889) (by decide +kernel), by decide +kernel⟩
theorem wd_890 : WD (.methodLink RL 60 yX8_letter) := ⟨List.mem_of_getElem? (i := 890) (by decide +kernel), by decide +kernel⟩
theorem wd_896 : WD (.castable "java/util/NoSuchElementException" "java/util/NoSuchElementException") := ⟨List.mem_of_getElem? (i := 896) (by decide +kernel), by decide +kernel⟩
theorem wd_909 : WD (.methodLink RL 180 yL_spanAt) := ⟨List.mem_of_getElem? (i := 909) (by decide +kernel), by decide +kernel⟩
theorem wd_910 : WD (.static yL_spanAt) := ⟨List.mem_of_getElem? (i := 910) (by decide +kernel), by decide +kernel⟩
theorem wd_911 : WD (.codeWith yL_spanAt cL_spanAt 5 (some .int) [(0, 10, 13, 15)]) := ⟨List.mem_of_getElem? (i := 911) (by decide +kernel), by decide +kernel⟩
theorem wd_912 : WD (.methodLink RL 66 yX8_spanAt) := ⟨List.mem_of_getElem? (i := 912) (by decide +kernel), by decide +kernel⟩
theorem wd_920 : WD (.methodLink RL 183 yL_refusal) := ⟨List.mem_of_getElem? (i := 920) (by decide +kernel), by decide +kernel⟩
theorem wd_921 : WD (.static yL_refusal) := ⟨List.mem_of_getElem? (i := 921) (by decide +kernel), by decide +kernel⟩
theorem wd_922 : WD (.codeWith yL_refusal cL_refusal 4 (some .int) [(0, 9, 12, 64)]) := ⟨List.mem_of_getElem? (i := 922) (by decide +kernel), by decide +kernel⟩
theorem wd_923 : WD (.methodLink RL 69 yX8_refusal) := ⟨List.mem_of_getElem? (i := 923) (by decide +kernel), by decide +kernel⟩
theorem wd_927 : WD (.methodLink RL 187 yL_aligned) := ⟨List.mem_of_getElem? (i := 927) (by decide +kernel), by decide +kernel⟩
theorem wd_928 : WD (.static yL_aligned) := ⟨List.mem_of_getElem? (i := 928) (by decide +kernel), by decide +kernel⟩
theorem wd_929 : WD (.codeWith yL_aligned cL_aligned 6 (some .int) [(0, 12, 15, 15)]) := ⟨List.mem_of_getElem? (i := 929) (by decide +kernel), by decide +kernel⟩
theorem wd_930 : WD (.methodLink RL 73 yX8_aligned) := ⟨List.mem_of_getElem? (i := 930) (by decide +kernel), by decide +kernel⟩
theorem wd_967 : WD (.methodLink RL 190 yL_alignment) := ⟨List.mem_of_getElem? (i := 967) (by decide +kernel), by decide +kernel⟩
theorem wd_968 : WD (.static yL_alignment) := ⟨List.mem_of_getElem? (i := 968) (by decide +kernel), by decide +kernel⟩
theorem wd_969 : WD (.codeWith yL_alignment cL_alignment 6 (some .int) [(0, 12, 15, 15)]) := ⟨List.mem_of_getElem? (i := 969) (by decide +kernel), by decide +kernel⟩
theorem wd_970 : WD (.methodLink RL 76 yX8_alignment) := ⟨List.mem_of_getElem? (i := 970) (by decide +kernel), by decide +kernel⟩
theorem wd_974 : WD (.methodLink RL 194 yL_search) := ⟨List.mem_of_getElem? (i := 974) (by decide +kernel), by decide +kernel⟩
theorem wd_975 : WD (.static yL_search) := ⟨List.mem_of_getElem? (i := 975) (by decide +kernel), by decide +kernel⟩
theorem wd_976 : WD (.codeWith yL_search cL_search 3 (some .int) [(0, 8, 11, 13)]) := ⟨List.mem_of_getElem? (i := 976) (by decide +kernel), by decide +kernel⟩
theorem wd_977 : WD (.methodLink RL 80 yX8_search) := ⟨List.mem_of_getElem? (i := 977) (by decide +kernel), by decide +kernel⟩
theorem wd_1036 : WD (.methodLink RL 198 yL_match) := ⟨List.mem_of_getElem? (i := 1036) (by decide +kernel), by decide +kernel⟩
theorem wd_1037 : WD (.static yL_match) := ⟨List.mem_of_getElem? (i := 1037) (by decide +kernel), by decide +kernel⟩
theorem wd_1038 : WD (.codeWith yL_match cL_match 5 (some .int) [(0, 10, 13, 17), (0, 10, 17, 64)]) := ⟨List.mem_of_getElem? (i := 1038) (by decide +kernel), by decide +kernel⟩
theorem wd_1039 : WD (.methodLink RL 84 yX8_match) := ⟨List.mem_of_getElem? (i := 1039) (by decide +kernel), by decide +kernel⟩
theorem wd_1047 : WD (.methodLink RL 201 yL_merge) := ⟨List.mem_of_getElem? (i := 1047) (by decide +kernel), by decide +kernel⟩
theorem wd_1048 : WD (.static yL_merge) := ⟨List.mem_of_getElem? (i := 1048) (by decide +kernel), by decide +kernel⟩
theorem wd_1049 : WD (.codeWith yL_merge cL_merge 5 (some .int) [(0, 10, 13, 15), (0, 10, 17, 13)]) := ⟨List.mem_of_getElem? (i := 1049) (by decide +kernel), by decide +kernel⟩
theorem wd_1050 : WD (.methodLink RL 87 yX8_merge) := ⟨List.mem_of_getElem? (i := 1050) (by decide +kernel), by decide +kernel⟩
theorem wd_1097 : WD (.methodLink RL 204 yL_merged) := ⟨List.mem_of_getElem? (i := 1097) (by decide +kernel), by decide +kernel⟩
theorem wd_1098 : WD (.static yL_merged) := ⟨List.mem_of_getElem? (i := 1098) (by decide +kernel), by decide +kernel⟩
theorem wd_1099 : WD (.codeWith yL_merged cL_merged 6 (some .int) [(0, 12, 15, 15), (0, 12, 19, 64), (0, 12, 23, 13)]) := ⟨List.mem_of_getElem? (i := 1099) (by decide +kernel), by decide +kernel⟩
theorem wd_1100 : WD (.methodLink RL 90 yX8_merged) := ⟨List.mem_of_getElem? (i := 1100) (by decide +kernel), by decide +kernel⟩
theorem wd_1109 : WD (.methodLink RL 207 yL_frames) := ⟨List.mem_of_getElem? (i := 1109) (by decide +kernel), by decide +kernel⟩
theorem wd_1110 : WD (.static yL_frames) := ⟨List.mem_of_getElem? (i := 1110) (by decide +kernel), by decide +kernel⟩
theorem wd_1111 : WD (.codeWith yL_frames cL_frames 5 (some .int) [(0, 10, 13, 15), (0, 10, 17, 13)]) := ⟨List.mem_of_getElem? (i := 1111) (by decide +kernel), by decide +kernel⟩
theorem wd_1112 : WD (.methodLink RL 93 yX8_frames) := ⟨List.mem_of_getElem? (i := 1112) (by decide +kernel), by decide +kernel⟩
theorem wd_1127 : WD (.methodLink RL 210 yL_agreement) := ⟨List.mem_of_getElem? (i := 1127) (by decide +kernel), by decide +kernel⟩
theorem wd_1128 : WD (.static yL_agreement) := ⟨List.mem_of_getElem? (i := 1128) (by decide +kernel), by decide +kernel⟩
theorem wd_1129 : WD (.codeWith yL_agreement cL_agreement 4 (some .int) [(0, 9, 12, 15), (0, 9, 15, 100)]) := ⟨List.mem_of_getElem? (i := 1129) (by decide +kernel), by decide +kernel⟩
theorem wd_1130 : WD (.classLink RL 100 "java/lang/ArithmeticException") := ⟨List.mem_of_getElem? (i := 1130) (by decide +kernel), by decide +kernel⟩
theorem wd_1142 : WD (.castable "java/lang/ArithmeticException" "java/lang/ArithmeticException") := ⟨List.mem_of_getElem? (i := 1142) (by decide +kernel), by decide +kernel⟩
theorem wd_1144 : WD (.methodLink RL 96 yX8_agreement) := ⟨List.mem_of_getElem? (i := 1144) (by decide +kernel), by decide +kernel⟩
theorem wd_1153 : WD (.methodLink RL 214 yL_kappa) := ⟨List.mem_of_getElem? (i := 1153) (by decide +kernel), by decide +kernel⟩
theorem wd_1154 : WD (.static yL_kappa) := ⟨List.mem_of_getElem? (i := 1154) (by decide +kernel), by decide +kernel⟩
theorem wd_1155 : WD (.codeWith yL_kappa cL_kappa 4 (some .int) [(0, 8, 11, 15), (0, 8, 14, 100)]) := ⟨List.mem_of_getElem? (i := 1155) (by decide +kernel), by decide +kernel⟩
theorem wd_1156 : WD (.methodLink RL 102 yX8_kappa) := ⟨List.mem_of_getElem? (i := 1156) (by decide +kernel), by decide +kernel⟩
theorem wd_1166 : WD (.methodLink RL 222 yL_read) := ⟨List.mem_of_getElem? (i := 1166) (by decide +kernel), by decide +kernel⟩
theorem wd_1167 : WD (.static yL_read) := ⟨List.mem_of_getElem? (i := 1167) (by decide +kernel), by decide +kernel⟩
theorem wd_1168 : WD (.codeWith yL_read cL_read 3 (some .int) [(0, 8, 11, 13), (0, 8, 14, 39)]) := ⟨List.mem_of_getElem? (i := 1168) (by decide +kernel), by decide +kernel⟩
theorem wd_1169 : WD (.methodLink RL 106 yX8_read) := ⟨List.mem_of_getElem? (i := 1169) (by decide +kernel), by decide +kernel⟩
theorem wd_1197 : WD (.methodLink RL 225 yL_errorPosition) := ⟨List.mem_of_getElem? (i := 1197) (by decide +kernel), by decide +kernel⟩
theorem wd_1198 : WD (.static yL_errorPosition) := ⟨List.mem_of_getElem? (i := 1198) (by decide +kernel), by decide +kernel⟩
theorem wd_1199 : WD (.codeWith yL_errorPosition cL_errorPosition 3 (some .int) [(0, 8, 11, 64)]) := ⟨List.mem_of_getElem? (i := 1199) (by decide +kernel), by decide +kernel⟩
theorem wd_1200 : WD (.methodLink RL 109 yX8_errorPosition) := ⟨List.mem_of_getElem? (i := 1200) (by decide +kernel), by decide +kernel⟩
theorem wd_1204 : WD (.methodLink RL 228 yL_refusedItem) := ⟨List.mem_of_getElem? (i := 1204) (by decide +kernel), by decide +kernel⟩
theorem wd_1205 : WD (.static yL_refusedItem) := ⟨List.mem_of_getElem? (i := 1205) (by decide +kernel), by decide +kernel⟩
theorem wd_1206 : WD (.codeWith yL_refusedItem cL_refusedItem 3 (some .int) [(0, 8, 11, 64)]) := ⟨List.mem_of_getElem? (i := 1206) (by decide +kernel), by decide +kernel⟩
theorem wd_1207 : WD (.methodLink RL 112 yX8_refusedItem) := ⟨List.mem_of_getElem? (i := 1207) (by decide +kernel), by decide +kernel⟩
theorem wd_1211 : WD (.methodLink RL 231 yL_undo) := ⟨List.mem_of_getElem? (i := 1211) (by decide +kernel), by decide +kernel⟩
theorem wd_1212 : WD (.static yL_undo) := ⟨List.mem_of_getElem? (i := 1212) (by decide +kernel), by decide +kernel⟩
theorem wd_1213 : WD (.codeWith yL_undo cL_undo 3 (some .int) [(0, 8, 11, 17)]) := ⟨List.mem_of_getElem? (i := 1213) (by decide +kernel), by decide +kernel⟩
theorem wd_1214 : WD (.methodLink RL 115 yX8_undo) := ⟨List.mem_of_getElem? (i := 1214) (by decide +kernel), by decide +kernel⟩
theorem wd_1222 : WD (.methodLink RL 238 yL_restore) := ⟨List.mem_of_getElem? (i := 1222) (by decide +kernel), by decide +kernel⟩
theorem wd_1223 : WD (.static yL_restore) := ⟨List.mem_of_getElem? (i := 1223) (by decide +kernel), by decide +kernel⟩
theorem wd_1224 : WD (.codeWith yL_restore cL_restore 3 (some .int) [(0, 8, 11, 17)]) := ⟨List.mem_of_getElem? (i := 1224) (by decide +kernel), by decide +kernel⟩
theorem wd_1225 : WD (.methodLink RL 118 yX8_restore) := ⟨List.mem_of_getElem? (i := 1225) (by decide +kernel), by decide +kernel⟩
theorem wd_1229 : WD (.classLink RL 122 RX9) := ⟨List.mem_of_getElem? (i := 1229) (by decide +kernel), by decide +kernel⟩
theorem wd_1230 : WD (.instantiable RX9 47) := ⟨List.mem_of_getElem? (i := 1230) (by decide +kernel), by decide +kernel⟩
theorem wd_1231 : WD (.methodLink RL 124 yX9_init) := ⟨List.mem_of_getElem? (i := 1231) (by decide +kernel), by decide +kernel⟩
theorem wd_1383 : WD (.methodLink RL 135 yX9_thrown) := ⟨List.mem_of_getElem? (i := 1383) (by decide +kernel), by decide +kernel⟩
theorem wd_1387 : WD (.methodLink RL 128 yX9_clear) := ⟨List.mem_of_getElem? (i := 1387) (by decide +kernel), by decide +kernel⟩
theorem wd_1395 : WD (.methodLink RL 134 yX9_addTier) := ⟨List.mem_of_getElem? (i := 1395) (by decide +kernel), by decide +kernel⟩
theorem wd_1420 : WD (.methodLink RL 141 yX9_select) := ⟨List.mem_of_getElem? (i := 1420) (by decide +kernel), by decide +kernel⟩
theorem wd_1428 : WD (.methodLink RL 145 yX9_setSetting) := ⟨List.mem_of_getElem? (i := 1428) (by decide +kernel), by decide +kernel⟩
theorem wd_1432 : WD (.methodLink RL 148 yX9_tier) := ⟨List.mem_of_getElem? (i := 1432) (by decide +kernel), by decide +kernel⟩
theorem wd_1467 : WD (.methodLink RL 151 yX9_book) := ⟨List.mem_of_getElem? (i := 1467) (by decide +kernel), by decide +kernel⟩
theorem wd_1471 : WD (.methodLink RL 154 yX9_append) := ⟨List.mem_of_getElem? (i := 1471) (by decide +kernel), by decide +kernel⟩
theorem wd_1475 : WD (.methodLink RL 157 yX9_addSpan) := ⟨List.mem_of_getElem? (i := 1475) (by decide +kernel), by decide +kernel⟩
theorem wd_1546 : WD (.methodLink RL 160 yX9_removeSpan) := ⟨List.mem_of_getElem? (i := 1546) (by decide +kernel), by decide +kernel⟩
theorem wd_1562 : WD (.methodLink RL 164 yX9_moveSpan) := ⟨List.mem_of_getElem? (i := 1562) (by decide +kernel), by decide +kernel⟩
theorem wd_1578 : WD (.methodLink RL 167 yX9_rename) := ⟨List.mem_of_getElem? (i := 1578) (by decide +kernel), by decide +kernel⟩
theorem wd_1582 : WD (.methodLink RL 170 yX9_split) := ⟨List.mem_of_getElem? (i := 1582) (by decide +kernel), by decide +kernel⟩
theorem wd_1594 : WD (.methodLink RL 173 yX9_join) := ⟨List.mem_of_getElem? (i := 1594) (by decide +kernel), by decide +kernel⟩
theorem wd_1598 : WD (.methodLink RL 176 yX9_span) := ⟨List.mem_of_getElem? (i := 1598) (by decide +kernel), by decide +kernel⟩
theorem wd_1609 : WD (.methodLink RL 179 yX9_letter) := ⟨List.mem_of_getElem? (i := 1609) (by decide +kernel), by decide +kernel⟩
theorem wd_1614 : WD (.methodLink RL 182 yX9_spanAt) := ⟨List.mem_of_getElem? (i := 1614) (by decide +kernel), by decide +kernel⟩
theorem wd_1618 : WD (.methodLink RL 186 yX9_refusal) := ⟨List.mem_of_getElem? (i := 1618) (by decide +kernel), by decide +kernel⟩
theorem wd_1622 : WD (.methodLink RL 189 yX9_aligned) := ⟨List.mem_of_getElem? (i := 1622) (by decide +kernel), by decide +kernel⟩
theorem wd_1646 : WD (.methodLink RL 193 yX9_alignment) := ⟨List.mem_of_getElem? (i := 1646) (by decide +kernel), by decide +kernel⟩
theorem wd_1650 : WD (.methodLink RL 197 yX9_search) := ⟨List.mem_of_getElem? (i := 1650) (by decide +kernel), by decide +kernel⟩
theorem wd_1683 : WD (.methodLink RL 200 yX9_match_) := ⟨List.mem_of_getElem? (i := 1683) (by decide +kernel), by decide +kernel⟩
theorem wd_1687 : WD (.methodLink RL 203 yX9_merge) := ⟨List.mem_of_getElem? (i := 1687) (by decide +kernel), by decide +kernel⟩
theorem wd_1704 : WD (.methodLink RL 206 yX9_merged) := ⟨List.mem_of_getElem? (i := 1704) (by decide +kernel), by decide +kernel⟩
theorem wd_1708 : WD (.methodLink RL 209 yX9_frames) := ⟨List.mem_of_getElem? (i := 1708) (by decide +kernel), by decide +kernel⟩
theorem wd_1720 : WD (.methodLink RL 213 yX9_agreement) := ⟨List.mem_of_getElem? (i := 1720) (by decide +kernel), by decide +kernel⟩
theorem wd_1724 : WD (.methodLink RL 216 yX9_kappa) := ⟨List.mem_of_getElem? (i := 1724) (by decide +kernel), by decide +kernel⟩
theorem wd_1739 : WD (.methodLink RL 221 yX9_isConsistent) := ⟨List.mem_of_getElem? (i := 1739) (by decide +kernel), by decide +kernel⟩
theorem wd_1743 : WD (.methodLink RL 224 yX9_read) := ⟨List.mem_of_getElem? (i := 1743) (by decide +kernel), by decide +kernel⟩
theorem wd_1755 : WD (.methodLink RL 227 yX9_errorPosition) := ⟨List.mem_of_getElem? (i := 1755) (by decide +kernel), by decide +kernel⟩
theorem wd_1759 : WD (.methodLink RL 230 yX9_refusedItem) := ⟨List.mem_of_getElem? (i := 1759) (by decide +kernel), by decide +kernel⟩
theorem wd_1763 : WD (.methodLink RL 233 yX9_undo) := ⟨List.mem_of_getElem? (i := 1763) (by decide +kernel), by decide +kernel⟩
theorem wd_1767 : WD (.methodLink RL 237 yX9_snapshot) := ⟨List.mem_of_getElem? (i := 1767) (by decide +kernel), by decide +kernel⟩
theorem wd_1771 : WD (.methodLink RL 240 yX9_restore) := ⟨List.mem_of_getElem? (i := 1771) (by decide +kernel), by decide +kernel⟩
theorem wd_1775 : WD (.arrayClass .double) := ⟨List.mem_of_getElem? (i := 1775) (by decide +kernel), by decide +kernel⟩
def fL_addTier (F : Fr) (N : Nat) (w : Wd) (l0 : Nat) (l1 : Int32) (l2 : Int32) (l3 : Int32) (l4 : Nat) : Option (Int32 × Wd) :=
  (fX8_addTier F N w l0 l1 l2 l3).bind (Sum.elim (fun p1 =>
  (stJ F p1.2 l4 0 p1.1.toInt64).bind fun w3 =>
  some (0, w3))
  (fun e2 =>
  if e2.1 = 0 then
  some (1, e2.2)
  else
  if e2.1 = 1 then
  some (2, e2.2)
  else
  if e2.1 = 2 then
  some (3, e2.2)
  else
  none))
def fL_select (F : Fr) (N : Nat) (w : Wd) (l0 : Nat) (l1 : Int32) (l2 : Nat) : Option (Int32 × Wd) :=
  (fX8_select F N w l0 l1).bind (Sum.elim (fun p1 =>
  (stJ F p1.2 l2 0 p1.1.toInt64).bind fun w3 =>
  some (0, w3))
  (fun e2 =>
  if e2.1 = 0 then
  some (1, e2.2)
  else
  none))
def fL_setSetting (F : Fr) (N : Nat) (w : Wd) (l0 : Nat) (l1 : Int32) (l2 : Int32) (l3 : Nat) : Option (Int32 × Wd) :=
  (fX8_setSetting F N w l0 l1 l2).bind (Sum.elim (fun p1 =>
  (stJ F p1.2 l3 0 p1.1.toInt64).bind fun w3 =>
  some (0, w3))
  (fun e2 =>
  if e2.1 = 1 then
  some (1, e2.2)
  else
  if e2.1 = 0 then
  some (2, e2.2)
  else
  none))
def fL_tier (F : Fr) (N : Nat) (w : Wd) (l0 : Nat) (l1 : Int32) (l2 : Int32) (l3 : Nat) : Option (Int32 × Wd) :=
  (fX8_tier F N w l0 l1 l2).bind (Sum.elim (fun p1 =>
  (stJ F p1.2 l3 0 p1.1.toInt64).bind fun w3 =>
  some (0, w3))
  (fun e2 =>
  if e2.1 = 1 then
  some (1, e2.2)
  else
  if e2.1 = 0 then
  some (2, e2.2)
  else
  none))
def fL_book (F : Fr) (N : Nat) (w : Wd) (l0 : Nat) (l1 : Int32) (l2 : Nat) : Option (Int32 × Wd) :=
  (fX8_book F N w l0 l1).bind (Sum.elim (fun p1 =>
  (stJ F p1.2 l2 0 p1.1.toInt64).bind fun w3 =>
  some (0, w3))
  (fun e2 =>
  if e2.1 = 0 then
  some (1, e2.2)
  else
  none))
def fL_append (F : Fr) (N : Nat) (w : Wd) (l0 : Nat) (l1 : Int32) (l2 : Nat) : Option (Int32 × Wd) :=
  (fX8_append F N w l0 l1).bind (Sum.elim (fun p1 =>
  (stJ F p1.2 l2 0 p1.1.toInt64).bind fun w3 =>
  some (0, w3))
  (fun e2 =>
  if e2.1 = 0 then
  some (1, e2.2)
  else
  if e2.1 = 2 then
  some (2, e2.2)
  else
  none))
def fL_addSpan (F : Fr) (N : Nat) (w : Wd) (l0 : Nat) (l1 : Int32) (l2 : Int32) (l3 : Int32) (l4 : Nat) : Option (Int32 × Wd) :=
  (fX8_addSpan F N w l0 l1 l2 l3).bind (Sum.elim (fun p1 =>
  (stJ F p1.2 l4 0 p1.1.toInt64).bind fun w3 =>
  some (0, w3))
  (fun e2 =>
  if e2.1 = 1 then
  some (1, e2.2)
  else
  if e2.1 = 0 then
  some (2, e2.2)
  else
  if e2.1 = 3 then
  some (3, e2.2)
  else
  none))
def fL_removeSpan (F : Fr) (N : Nat) (w : Wd) (l0 : Nat) (l1 : Int32) (l2 : Int32) (l3 : Nat) : Option (Int32 × Wd) :=
  (fX8_removeSpan F N w l0 l1 l2).bind (Sum.elim (fun p1 =>
  (stJ F p1.2 l3 0 p1.1.toInt64).bind fun w3 =>
  some (0, w3))
  (fun e2 =>
  if e2.1 = 1 then
  some (1, e2.2)
  else
  none))
def fL_moveSpan (F : Fr) (N : Nat) (w : Wd) (l0 : Nat) (l1 : Int32) (l2 : Int32) (l3 : Int32) (l4 : Int32) (l5 : Nat) : Option (Int32 × Wd) :=
  (fX8_moveSpan F N w l0 l1 l2 l3 l4).bind (Sum.elim (fun p1 =>
  (stJ F p1.2 l5 0 p1.1.toInt64).bind fun w3 =>
  some (0, w3))
  (fun e2 =>
  if e2.1 = 1 then
  some (1, e2.2)
  else
  if e2.1 = 3 then
  some (2, e2.2)
  else
  none))
def fL_rename (F : Fr) (N : Nat) (w : Wd) (l0 : Nat) (l1 : Int32) (l2 : Int32) (l3 : Nat) : Option (Int32 × Wd) :=
  (fX8_rename F N w l0 l1 l2).bind (Sum.elim (fun p1 =>
  (stJ F p1.2 l3 0 p1.1.toInt64).bind fun w3 =>
  some (0, w3))
  (fun e2 =>
  if e2.1 = 1 then
  some (1, e2.2)
  else
  if e2.1 = 0 then
  some (2, e2.2)
  else
  none))
def fL_split (F : Fr) (N : Nat) (w : Wd) (l0 : Nat) (l1 : Int32) (l2 : Int32) (l3 : Int32) (l4 : Nat) : Option (Int32 × Wd) :=
  (fX8_split F N w l0 l1 l2 l3).bind (Sum.elim (fun p1 =>
  (stJ F p1.2 l4 0 p1.1.toInt64).bind fun w3 =>
  some (0, w3))
  (fun e2 =>
  if e2.1 = 1 then
  some (1, e2.2)
  else
  if e2.1 = 3 then
  some (2, e2.2)
  else
  none))
def fL_join (F : Fr) (N : Nat) (w : Wd) (l0 : Nat) (l1 : Int32) (l2 : Int32) (l3 : Nat) : Option (Int32 × Wd) :=
  (fX8_join F N w l0 l1 l2).bind (Sum.elim (fun p1 =>
  (stJ F p1.2 l3 0 p1.1.toInt64).bind fun w3 =>
  some (0, w3))
  (fun e2 =>
  if e2.1 = 1 then
  some (1, e2.2)
  else
  if e2.1 = 3 then
  some (2, e2.2)
  else
  none))
def fL_span (F : Fr) (N : Nat) (w : Wd) (l0 : Nat) (l1 : Int32) (l2 : Int32) (l3 : Int32) (l4 : Nat) : Option (Int32 × Wd) :=
  (fX8_span F N w l0 l1 l2 l3).bind (Sum.elim (fun p1 =>
  (stJ F p1.2 l4 0 p1.1.toInt64).bind fun w3 =>
  some (0, w3))
  (fun e2 =>
  if e2.1 = 1 then
  some (1, e2.2)
  else
  if e2.1 = 0 then
  some (2, e2.2)
  else
  none))
def fL_letter (F : Fr) (N : Nat) (w : Wd) (l0 : Nat) (l1 : Int32) (l2 : Int32) (l3 : Int32) (l4 : Nat) : Option (Int32 × Wd) :=
  (fX8_letter F N w l0 l1 l2 l3).bind (Sum.elim (fun p1 =>
  (stJ F p1.2 l4 0 p1.1.toInt64).bind fun w3 =>
  some (0, w3))
  (fun e2 =>
  if e2.1 = 1 then
  some (1, e2.2)
  else
  if e2.1 = 4 then
  some (2, e2.2)
  else
  none))
def fL_spanAt (F : Fr) (N : Nat) (w : Wd) (l0 : Nat) (l1 : Int32) (l2 : Int32) (l3 : Nat) : Option (Int32 × Wd) :=
  (fX8_spanAt F N w l0 l1 l2).bind (Sum.elim (fun p1 =>
  (stJ F p1.2 l3 0 p1.1.toInt64).bind fun w3 =>
  some (0, w3))
  (fun e2 =>
  if e2.1 = 1 then
  some (1, e2.2)
  else
  none))
def fL_refusal (F : Fr) (N : Nat) (w : Wd) (l0 : Nat) (l1 : Int32) (l2 : Nat) : Option (Int32 × Wd) :=
  (fX8_refusal F N w l0 l1).bind (Sum.elim (fun p1 =>
  (stJ F p1.2 l2 0 p1.1.toInt64).bind fun w3 =>
  some (0, w3))
  (fun e2 =>
  if e2.1 = 4 then
  some (1, e2.2)
  else
  none))
def fL_aligned (F : Fr) (N : Nat) (w : Wd) (l0 : Nat) (l1 : Int32) (l2 : Int32) (l3 : Int32) (l4 : Nat) : Option (Int32 × Wd) :=
  (fX8_aligned F N w l0 l1 l2 l3).bind (Sum.elim (fun p1 =>
  (stJ F p1.2 l4 0 p1.1.toInt64).bind fun w3 =>
  some (0, w3))
  (fun e2 =>
  if e2.1 = 1 then
  some (1, e2.2)
  else
  none))
def fL_alignment (F : Fr) (N : Nat) (w : Wd) (l0 : Nat) (l1 : Int32) (l2 : Int32) (l3 : Int32) (l4 : Nat) : Option (Int32 × Wd) :=
  (fX8_alignment F N w l0 l1 l2 l3).bind (Sum.elim (fun p1 =>
  (stJ F p1.2 l4 0 p1.1.toInt64).bind fun w3 =>
  some (0, w3))
  (fun e2 =>
  if e2.1 = 1 then
  some (1, e2.2)
  else
  none))
def fL_search (F : Fr) (N : Nat) (w : Wd) (l0 : Nat) (l1 : Nat) : Option (Int32 × Wd) :=
  (fX8_search F N w l0).bind (Sum.elim (fun p1 =>
  (stJ F p1.2 l1 0 p1.1.toInt64).bind fun w3 =>
  some (0, w3))
  (fun e2 =>
  if e2.1 = 0 then
  some (1, e2.2)
  else
  none))
def fL_match (F : Fr) (N : Nat) (w : Wd) (l0 : Nat) (l1 : Int32) (l2 : Int32) (l3 : Nat) : Option (Int32 × Wd) :=
  (fX8_match F N w l0 l1 l2).bind (Sum.elim (fun p1 =>
  (stJ F p1.2 l3 0 p1.1.toInt64).bind fun w3 =>
  some (0, w3))
  (fun e2 =>
  if e2.1 = 2 then
  some (1, e2.2)
  else
  if e2.1 = 4 then
  some (2, e2.2)
  else
  none))
def fL_merge (F : Fr) (N : Nat) (w : Wd) (l0 : Nat) (l1 : Int32) (l2 : Int32) (l3 : Nat) : Option (Int32 × Wd) :=
  (fX8_merge F N w l0 l1 l2).bind (Sum.elim (fun p1 =>
  (stJ F p1.2 l3 0 p1.1.toInt64).bind fun w3 =>
  some (0, w3))
  (fun e2 =>
  if e2.1 = 1 then
  some (1, e2.2)
  else
  if e2.1 = 0 then
  some (2, e2.2)
  else
  none))
def fL_merged (F : Fr) (N : Nat) (w : Wd) (l0 : Nat) (l1 : Int32) (l2 : Int32) (l3 : Int32) (l4 : Nat) : Option (Int32 × Wd) :=
  (fX8_merged F N w l0 l1 l2 l3).bind (Sum.elim (fun p1 =>
  (stJ F p1.2 l4 0 p1.1.toInt64).bind fun w3 =>
  some (0, w3))
  (fun e2 =>
  if e2.1 = 1 then
  some (1, e2.2)
  else
  if e2.1 = 4 then
  some (2, e2.2)
  else
  if e2.1 = 0 then
  some (3, e2.2)
  else
  none))
def fL_frames (F : Fr) (N : Nat) (w : Wd) (l0 : Nat) (l1 : Int32) (l2 : Int32) (l3 : Nat) : Option (Int32 × Wd) :=
  (fX8_frames F N w l0 l1 l2).bind (Sum.elim (fun p1 =>
  (stJ F p1.2 l3 0 p1.1.toInt64).bind fun w3 =>
  some (0, w3))
  (fun e2 =>
  if e2.1 = 1 then
  some (1, e2.2)
  else
  if e2.1 = 0 then
  some (2, e2.2)
  else
  none))
def fL_agreement (F : Fr) (N : Nat) (w : Wd) (l0 : Nat) (l1 : Int32) (l2 : Nat) : Option (Int32 × Wd) :=
  (fX8_agreement F N w l0 l1).bind (Sum.elim (fun p1 =>
  (nnD (FP.f2d p1.1)).bind fun v3 =>
  (stD F p1.2 l2 0 v3).bind fun w4 =>
  some (0, w4))
  (fun e2 =>
  if e2.1 = 1 then
  some (1, e2.2)
  else
  if e2.1 = 5 then
  some (2, e2.2)
  else
  none))
def fL_kappa (F : Fr) (N : Nat) (w : Wd) (l0 : Nat) (l1 : Int32) (l2 : Nat) : Option (Int32 × Wd) :=
  (fX8_kappa F N w l0 l1).bind (Sum.elim (fun p1 =>
  (stD F p1.2 l2 0 p1.1).bind fun w3 =>
  some (0, w3))
  (fun e2 =>
  if e2.1 = 1 then
  some (1, e2.2)
  else
  if e2.1 = 5 then
  some (2, e2.2)
  else
  none))
def fL_read (F : Fr) (N : Nat) (w : Wd) (l0 : Nat) (l1 : Nat) : Option (Int32 × Wd) :=
  (fX8_read F N w l0).bind (Sum.elim (fun p1 =>
  (stJ F p1.2 l1 0 p1.1.toInt64).bind fun w3 =>
  some (0, w3))
  (fun e2 =>
  if e2.1 = 0 then
  some (1, e2.2)
  else
  if e2.1 = 3 then
  some (2, e2.2)
  else
  none))
def fL_errorPosition (F : Fr) (N : Nat) (w : Wd) (l0 : Nat) (l1 : Nat) : Option (Int32 × Wd) :=
  (fX8_errorPosition F N w l0).bind (Sum.elim (fun p1 =>
  (stJ F p1.2 l1 0 p1.1.toInt64).bind fun w3 =>
  some (0, w3))
  (fun e2 =>
  if e2.1 = 4 then
  some (1, e2.2)
  else
  none))
def fL_refusedItem (F : Fr) (N : Nat) (w : Wd) (l0 : Nat) (l1 : Nat) : Option (Int32 × Wd) :=
  (fX8_refusedItem F N w l0).bind (Sum.elim (fun p1 =>
  (stJ F p1.2 l1 0 p1.1.toInt64).bind fun w3 =>
  some (0, w3))
  (fun e2 =>
  if e2.1 = 4 then
  some (1, e2.2)
  else
  none))
def fL_undo (F : Fr) (N : Nat) (w : Wd) (l0 : Nat) (l1 : Nat) : Option (Int32 × Wd) :=
  (fX8_undo F N w l0).bind (Sum.elim (fun p1 =>
  (stJ F p1.2 l1 0 p1.1.toInt64).bind fun w3 =>
  some (0, w3))
  (fun e2 =>
  if e2.1 = 2 then
  some (1, e2.2)
  else
  none))
def fL_restore (F : Fr) (N : Nat) (w : Wd) (l0 : Nat) (l1 : Nat) : Option (Int32 × Wd) :=
  (fX8_restore F N w l0).bind (Sum.elim (fun p1 =>
  (stJ F p1.2 l1 0 p1.1.toInt64).bind fun w3 =>
  some (0, w3))
  (fun e2 =>
  if e2.1 = 2 then
  some (1, e2.2)
  else
  none))
