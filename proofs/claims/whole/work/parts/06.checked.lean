theorem ro_X0_isKind : rv_okM rm_X0_isKind (278, 69, 277, 0) = true := by decide +kernel
theorem ro_X0_isUnder : rv_okM rm_X0_isUnder (667, 69, 666, 0) = true := by decide +kernel
theorem ro_X0_adds : rv_okM rm_X0_adds (301, 69, 300, 0) = true := by decide +kernel
theorem ro_X0_cools : rv_okM rm_X0_cools (310, 69, 309, 0) = true := by decide +kernel
theorem ro_X0_nose : rv_okM rm_X0_nose (313, 69, 312, 0) = true := by decide +kernel
theorem ro_X1_begin : rv_okM rm_X1_begin (678, 67, 676, 677) = true := by decide +kernel
theorem ro_X1_isMissing : rv_okM rm_X1_isMissing (491, 67, 489, 490) = true := by decide +kernel
theorem ro_X1_hasSpan : rv_okM rm_X1_hasSpan (694, 67, 692, 693) = true := by decide +kernel
theorem ro_X1_put : rv_okM rm_X1_put (686, 67, 684, 685) = true := by decide +kernel
theorem ro_X2_take : rv_okM rm_X2_take (413, 65, 411, 412) = true := by decide +kernel
theorem ro_X2_hasBather : rv_okM rm_X2_hasBather (294, 65, 292, 293) = true := by decide +kernel
theorem ro_X2_isFull : rv_okM rm_X2_isFull (282, 65, 280, 281) = true := by decide +kernel
theorem ro_X2_addBather : rv_okM rm_X2_addBather (286, 65, 284, 285) = true := by decide +kernel
theorem ro_X2_rowOf : rv_okM rm_X2_rowOf (330, 65, 328, 329) = true := by decide +kernel
theorem ro_X2_changePlaces : rv_okM rm_X2_changePlaces (338, 65, 336, 337) = true := by decide +kernel
theorem ro_X2_scentIn : rv_okM rm_X2_scentIn (241, 65, 239, 240) = true := by decide +kernel
theorem ro_X2_setScent : rv_okM rm_X2_setScent (245, 65, 243, 244) = true := by decide +kernel
theorem ro_X2_scentsIn : rv_okM rm_X2_scentsIn (257, 65, 255, 256) = true := by decide +kernel
theorem ro_X2_pullPlug : rv_okM rm_X2_pullPlug (270, 65, 268, 269) = true := by decide +kernel
theorem ro_X2_nextDraw : rv_okM rm_X2_nextDraw (507, 65, 505, 506) = true := by decide +kernel
theorem ro_X2_passHours : rv_okM rm_X2_passHours (347, 65, 345, 346) = true := by decide +kernel
theorem ro_X2_passHour : rv_okM rm_X2_passHour (351, 65, 349, 350) = true := by decide +kernel
theorem ro_X2_stepFurther : rv_okM rm_X2_stepFurther (361, 65, 360, 0) = true := by decide +kernel
theorem ro_X2_letWaterDown : rv_okM rm_X2_letWaterDown (355, 65, 354, 1) = true := by decide +kernel
theorem ro_X2_isHere : rv_okM rm_X2_isHere (366, 65, 365, 2) = true := by decide +kernel
theorem ro_X2_bathe : rv_okM rm_X2_bathe (370, 65, 369, 3) = true := by decide +kernel
theorem ro_X2_addsOf : rv_okM rm_X2_addsOf (298, 65, 296, 297) = true := by decide +kernel
theorem ro_X2_smelledBy : rv_okM rm_X2_smelledBy (317, 65, 315, 316) = true := by decide +kernel
theorem ro_X2_whoIsIn : rv_okM rm_X2_whoIsIn (253, 65, 251, 252) = true := by decide +kernel
theorem ro_X2_whoKnow : rv_okM rm_X2_whoKnow (405, 65, 403, 404) = true := by decide +kernel
theorem ro_X2_whoKnowAll : rv_okM rm_X2_whoKnowAll (397, 65, 395, 396) = true := by decide +kernel
theorem ro_X2_whoAreUnknown : rv_okM rm_X2_whoAreUnknown (401, 65, 399, 400) = true := by decide +kernel
theorem ro_X2_knownPairs : rv_okM rm_X2_knownPairs (723, 65, 721, 722) = true := by decide +kernel
theorem ro_X2_tubsBelow : rv_okM rm_X2_tubsBelow (393, 65, 391, 392) = true := by decide +kernel
theorem ro_X2_emptyTubs : rv_okM rm_X2_emptyTubs (516, 65, 514, 515) = true := by decide +kernel
theorem ro_X2_allWarmth : rv_okM rm_X2_allWarmth (385, 65, 383, 384) = true := by decide +kernel
theorem ro_X2_allScents : rv_okM rm_X2_allScents (389, 65, 387, 388) = true := by decide +kernel
theorem ro_X2_heldSpots : rv_okM rm_X2_heldSpots (728, 65, 726, 727) = true := by decide +kernel
theorem ro_X3_readText : rv_okM rm_X3_readText (541, 66, 539, 540) = true := by decide +kernel
theorem ro_X3_readItem : rv_okM rm_X3_readItem (560, 66, 559, 10) = true := by decide +kernel
theorem ro_X3_readBather : rv_okM rm_X3_readBather (630, 66, 629, 13) = true := by decide +kernel
theorem ro_X3_readTub : rv_okM rm_X3_readTub (648, 66, 647, 16) = true := by decide +kernel
theorem ro_X3_kindAtHand : rv_okM rm_X3_kindAtHand (564, 66, 563, 11) = true := by decide +kernel
theorem ro_X3_kindWord : rv_okM rm_X3_kindWord (567, 66, 566, 0) = true := by decide +kernel
theorem ro_X3_isAtHand : rv_okM rm_X3_isAtHand (578, 66, 577, 12) = true := by decide +kernel
theorem ro_X3_passWord : rv_okM rm_X3_passWord (636, 66, 635, 14) = true := by decide +kernel
theorem ro_X3_passNumber : rv_okM rm_X3_passNumber (640, 66, 639, 15) = true := by decide +kernel
theorem ro_X3_readToken : rv_okM rm_X3_readToken (546, 66, 545, 8) = true := by decide +kernel
theorem ro_X3_byteAt : rv_okM rm_X3_byteAt (550, 66, 549, 9) = true := by decide +kernel
theorem ro_X3_isLetter : rv_okM rm_X3_isLetter (553, 66, 552, 0) = true := by decide +kernel
theorem ro_X3_isDigit : rv_okM rm_X3_isDigit (556, 66, 555, 0) = true := by decide +kernel
theorem ro_X4_warm : rv_okM rm_X4_warm (219, 64, 217, 218) = true := by decide +kernel
theorem ro_X4_scent : rv_okM rm_X4_scent (234, 64, 232, 233) = true := by decide +kernel
theorem ro_X4_tub : rv_okM rm_X4_tub (249, 64, 247, 248) = true := by decide +kernel
theorem ro_X4_fresh : rv_okM rm_X4_fresh (262, 64, 260, 261) = true := by decide +kernel
theorem ro_X4_plug : rv_okM rm_X4_plug (266, 64, 264, 265) = true := by decide +kernel
theorem ro_X4_bather : rv_okM rm_X4_bather (275, 64, 273, 274) = true := by decide +kernel
theorem ro_X4_of : rv_okM rm_X4_of (290, 64, 288, 289) = true := by decide +kernel
theorem ro_X4_change : rv_okM rm_X4_change (323, 64, 321, 322) = true := by decide +kernel
theorem ro_X4_swap : rv_okM rm_X4_swap (334, 64, 332, 333) = true := by decide +kernel
theorem ro_X4_go : rv_okM rm_X4_go (342, 64, 340, 341) = true := by decide +kernel
theorem ro_X4_now : rv_okM rm_X4_now (381, 64, 379, 380) = true := by decide +kernel
theorem ro_X4_ahead : rv_okM rm_X4_ahead (409, 64, 407, 408) = true := by decide +kernel
theorem ro_X4_knows : rv_okM rm_X4_knows (420, 64, 418, 419) = true := by decide +kernel
theorem ro_X4_when : rv_okM rm_X4_when (424, 64, 422, 423) = true := by decide +kernel
theorem ro_X4_cold : rv_okM rm_X4_cold (433, 64, 431, 432) = true := by decide +kernel
theorem ro_X4_left : rv_okM rm_X4_left (437, 64, 435, 436) = true := by decide +kernel
theorem ro_X4_needed : rv_okM rm_X4_needed (442, 64, 440, 441) = true := by decide +kernel
theorem ro_X4_swapFor : rv_okM rm_X4_swapFor (446, 64, 444, 445) = true := by decide +kernel
theorem ro_X4_seat : rv_okM rm_X4_seat (451, 64, 449, 450) = true := by decide +kernel
theorem ro_X4_kindFor : rv_okM rm_X4_kindFor (455, 64, 453, 454) = true := by decide +kernel
theorem ro_X4_freshFor : rv_okM rm_X4_freshFor (459, 64, 457, 458) = true := by decide +kernel
theorem ro_X4_hides : rv_okM rm_X4_hides (463, 64, 461, 462) = true := by decide +kernel
theorem ro_X4_leave : rv_okM rm_X4_leave (472, 64, 470, 471) = true := by decide +kernel
theorem ro_X4_plugFor : rv_okM rm_X4_plugFor (476, 64, 474, 475) = true := by decide +kernel
theorem ro_X4_fits : rv_okM rm_X4_fits (480, 64, 478, 479) = true := by decide +kernel
theorem ro_X4_kinds : rv_okM rm_X4_kinds (499, 64, 497, 498) = true := by decide +kernel
theorem ro_X4_plugs : rv_okM rm_X4_plugs (503, 64, 501, 502) = true := by decide +kernel
theorem ro_X4_odds : rv_okM rm_X4_odds (512, 64, 510, 511) = true := by decide +kernel
theorem ro_X4_seed : rv_okM rm_X4_seed (525, 64, 523, 524) = true := by decide +kernel
theorem ro_X4_feed : rv_okM rm_X4_feed (529, 64, 527, 528) = true := by decide +kernel
theorem ro_X4_wipe : rv_okM rm_X4_wipe (533, 64, 531, 532) = true := by decide +kernel
theorem ro_X4_text : rv_okM rm_X4_text (537, 64, 535, 536) = true := by decide +kernel
theorem ro_X4_hold : rv_okM rm_X4_hold (657, 64, 655, 656) = true := by decide +kernel
theorem ro_X4_as : rv_okM rm_X4_as (664, 64, 662, 663) = true := by decide +kernel
theorem ro_X4_sheet : rv_okM rm_X4_sheet (674, 64, 672, 673) = true := by decide +kernel
theorem ro_X4_write : rv_okM rm_X4_write (682, 64, 680, 681) = true := by decide +kernel
theorem ro_X4_copy : rv_okM rm_X4_copy (690, 64, 688, 689) = true := by decide +kernel
theorem ro_X4_load : rv_okM rm_X4_load (699, 64, 697, 698) = true := by decide +kernel
theorem ro_X4_judge : rv_okM rm_X4_judge (703, 64, 701, 702) = true := by decide +kernel
theorem ro_X4_image : rv_okM rm_X4_image (707, 64, 705, 706) = true := by decide +kernel
theorem ro_X4_undo : rv_okM rm_X4_undo (711, 64, 709, 710) = true := by decide +kernel
theorem ro_X4_tear : rv_okM rm_X4_tear (715, 64, 713, 714) = true := by decide +kernel
theorem ro_X4_count : rv_okM rm_X4_count (719, 64, 717, 718) = true := by decide +kernel
theorem ro_X4_status : rv_okM rm_X4_status (732, 64, 730, 731) = true := by decide +kernel
theorem ro_X4_finding : rv_okM rm_X4_finding (229, 64, 228, 0) = true := by decide +kernel
theorem ro_X4_isWithin : rv_okM rm_X4_isWithin (225, 64, 224, 0) = true := by decide +kernel
theorem ro_X4_isTub : rv_okM rm_X4_isTub (222, 64, 221, 0) = true := by decide +kernel
theorem ro_X4_isScent : rv_okM rm_X4_isScent (237, 64, 236, 0) = true := by decide +kernel
theorem ro_X4_isSpot : rv_okM rm_X4_isSpot (660, 64, 659, 0) = true := by decide +kernel
theorem ro_X4_isSheet : rv_okM rm_X4_isSheet (487, 64, 486, 0) = true := by decide +kernel
theorem ro_X4_mostOf : rv_okM rm_X4_mostOf (326, 64, 325, 0) = true := by decide +kernel
theorem ro_X4_greatestCommonPart : rv_okM rm_X4_greatestCommonPart (520, 64, 519, 0) = true := by decide +kernel
theorem ro_X4_lackOf : rv_okM rm_X4_lackOf (484, 64, 483, 6) = true := by decide +kernel
theorem ro_X4_hoursUntilKnown : rv_okM rm_X4_hoursUntilKnown (428, 64, 427, 4) = true := by decide +kernel
theorem ro_X4_isLearned : rv_okM rm_X4_isLearned (467, 64, 466, 5) = true := by decide +kernel
theorem ro_X4_comesOutAs : rv_okM rm_X4_comesOutAs (495, 64, 494, 7) = true := by decide +kernel
theorem ro_X5_isIn : rv_okM rm_X5_isIn (798, 68, 797, 0) = true := by decide +kernel
theorem ro_X5_finds : rv_okM rm_X5_finds (807, 68, 806, 18) = true := by decide +kernel
theorem ro_X5_becomes : rv_okM rm_X5_becomes (802, 68, 801, 17) = true := by decide +kernel
theorem ro_X5_copyRow : rv_okM rm_X5_copyRow (948, 68, 947, 0) = true := by decide +kernel
theorem ro_X5_isTub : rv_okM rm_X5_isTub (794, 68, 793, 0) = true := by decide +kernel
theorem ro_X5_isScent : rv_okM rm_X5_isScent (814, 68, 813, 0) = true := by decide +kernel
theorem ro_X5_isBather : rv_okM rm_X5_isBather (864, 68, 863, 24) = true := by decide +kernel
theorem ro_X5_its : rv_okM rm_X5_its (831, 68, 830, 20) = true := by decide +kernel
theorem ro_X5_orNone : rv_okM rm_X5_orNone (968, 68, 967, 39) = true := by decide +kernel
theorem ro_X5_many : rv_okM rm_X5_many (872, 68, 871, 0) = true := by decide +kernel
theorem ro_X5_warm : rv_okM rm_X5_warm (791, 68, 789, 790) = true := by decide +kernel
theorem ro_X5_placeOf : rv_okM rm_X5_placeOf (818, 68, 817, 0) = true := by decide +kernel
theorem ro_X5_scent : rv_okM rm_X5_scent (811, 68, 809, 810) = true := by decide +kernel
theorem ro_X5_allIn : rv_okM rm_X5_allIn (835, 68, 834, 21) = true := by decide +kernel
theorem ro_X5_there : rv_okM rm_X5_there (827, 68, 826, 19) = true := by decide +kernel
theorem ro_X5_tub : rv_okM rm_X5_tub (822, 68, 820, 821) = true := by decide +kernel
theorem ro_X5_fresh : rv_okM rm_X5_fresh (839, 68, 837, 838) = true := by decide +kernel
theorem ro_X5_pulls : rv_okM rm_X5_pulls (847, 68, 846, 22) = true := by decide +kernel
theorem ro_X5_plug : rv_okM rm_X5_plug (843, 68, 841, 842) = true := by decide +kernel
theorem ro_X5_comes : rv_okM rm_X5_comes (856, 68, 855, 23) = true := by decide +kernel
theorem ro_X5_bather : rv_okM rm_X5_bather (851, 68, 849, 850) = true := by decide +kernel
theorem ro_X5_adds : rv_okM rm_X5_adds (869, 68, 868, 25) = true := by decide +kernel
theorem ro_X5_cools : rv_okM rm_X5_cools (876, 68, 875, 26) = true := by decide +kernel
theorem ro_X5_nose : rv_okM rm_X5_nose (880, 68, 879, 27) = true := by decide +kernel
theorem ro_X5_smells : rv_okM rm_X5_smells (884, 68, 883, 28) = true := by decide +kernel
theorem ro_X5_of : rv_okM rm_X5_of (860, 68, 858, 859) = true := by decide +kernel
theorem ro_X5_greatestOf : rv_okM rm_X5_greatestOf (892, 68, 891, 0) = true := by decide +kernel
theorem ro_X5_change : rv_okM rm_X5_change (888, 68, 886, 887) = true := by decide +kernel
theorem ro_X5_swaps : rv_okM rm_X5_swaps (900, 68, 899, 29) = true := by decide +kernel
theorem ro_X5_swap : rv_okM rm_X5_swap (896, 68, 894, 895) = true := by decide +kernel
theorem ro_X5_flows : rv_okM rm_X5_flows (919, 68, 918, 32) = true := by decide +kernel
theorem ro_X5_hourBut : rv_okM rm_X5_hourBut (915, 68, 914, 31) = true := by decide +kernel
theorem ro_X5_hours : rv_okM rm_X5_hours (911, 68, 910, 30) = true := by decide +kernel
theorem ro_X5_go : rv_okM rm_X5_go (904, 68, 902, 903) = true := by decide +kernel
theorem ro_X5_sumOf : rv_okM rm_X5_sumOf (927, 68, 926, 33) = true := by decide +kernel
theorem ro_X5_coldTubs : rv_okM rm_X5_coldTubs (931, 68, 930, 34) = true := by decide +kernel
theorem ro_X5_knowing : rv_okM rm_X5_knowing (935, 68, 934, 35) = true := by decide +kernel
theorem ro_X5_unknown : rv_okM rm_X5_unknown (939, 68, 938, 36) = true := by decide +kernel
theorem ro_X5_now : rv_okM rm_X5_now (923, 68, 921, 922) = true := by decide +kernel
theorem ro_X5_ahead : rv_okM rm_X5_ahead (943, 68, 941, 942) = true := by decide +kernel
theorem ro_X5_knownIn : rv_okM rm_X5_knownIn (956, 68, 955, 37) = true := by decide +kernel
theorem ro_X5_knows : rv_okM rm_X5_knows (952, 68, 950, 951) = true := by decide +kernel
theorem ro_X5_soonest : rv_okM rm_X5_soonest (964, 68, 963, 38) = true := by decide +kernel
theorem ro_X5_when : rv_okM rm_X5_when (960, 68, 958, 959) = true := by decide +kernel
theorem ro_X5_cold : rv_okM rm_X5_cold (973, 68, 971, 972) = true := by decide +kernel
theorem ro_X5_leftOf : rv_okM rm_X5_leftOf (981, 68, 980, 0) = true := by decide +kernel
theorem ro_X5_left : rv_okM rm_X5_left (977, 68, 975, 976) = true := by decide +kernel
theorem ro_X5_needed : rv_okM rm_X5_needed (985, 68, 983, 984) = true := by decide +kernel
theorem ro_X5_swapFor : rv_okM rm_X5_swapFor (990, 68, 988, 989) = true := by decide +kernel
theorem ro_X5_seat : rv_okM rm_X5_seat (994, 68, 992, 993) = true := by decide +kernel
theorem ro_X5_kindFor : rv_okM rm_X5_kindFor (998, 68, 996, 997) = true := by decide +kernel
theorem ro_X5_coldest : rv_okM rm_X5_coldest (1006, 68, 1005, 40) = true := by decide +kernel
theorem ro_X5_freshFor : rv_okM rm_X5_freshFor (1002, 68, 1000, 1001) = true := by decide +kernel
theorem ro_X5_isHidden : rv_okM rm_X5_isHidden (1015, 68, 1014, 41) = true := by decide +kernel
theorem ro_X5_hides : rv_okM rm_X5_hides (1010, 68, 1008, 1009) = true := by decide +kernel
theorem ro_X5_leave : rv_okM rm_X5_leave (1019, 68, 1017, 1018) = true := by decide +kernel
theorem ro_X5_plugFor : rv_okM rm_X5_plugFor (1023, 68, 1021, 1022) = true := by decide +kernel
theorem ro_X5_isTold : rv_okM rm_X5_isTold (1047, 68, 1046, 45) = true := by decide +kernel
theorem ro_X5_couldBe : rv_okM rm_X5_couldBe (1043, 68, 1042, 44) = true := by decide +kernel
theorem ro_X5_wantsFor : rv_okM rm_X5_wantsFor (1031, 68, 1030, 42) = true := by decide +kernel
theorem ro_X5_fits : rv_okM rm_X5_fits (1027, 68, 1025, 1026) = true := by decide +kernel
theorem ro_X5_kinds : rv_okM rm_X5_kinds (1051, 68, 1049, 1050) = true := by decide +kernel
theorem ro_X5_plugs : rv_okM rm_X5_plugs (1055, 68, 1053, 1054) = true := by decide +kernel
theorem ro_X5_odds : rv_okM rm_X5_odds (1060, 68, 1058, 1059) = true := by decide +kernel
theorem ro_X5_seed : rv_okM rm_X5_seed (1066, 68, 1064, 1065) = true := by decide +kernel
theorem ro_X5_feed : rv_okM rm_X5_feed (1070, 68, 1068, 1069) = true := by decide +kernel
theorem ro_X5_wipe : rv_okM rm_X5_wipe (1074, 68, 1072, 1073) = true := by decide +kernel
theorem ro_X5_isLetter : rv_okM rm_X5_isLetter (1089, 68, 1088, 0) = true := by decide +kernel
theorem ro_X5_isDigit : rv_okM rm_X5_isDigit (1092, 68, 1091, 0) = true := by decide +kernel
theorem ro_X5_byteAt : rv_okM rm_X5_byteAt (1086, 68, 1085, 47) = true := by decide +kernel
theorem ro_X5_nextToken : rv_okM rm_X5_nextToken (1082, 68, 1081, 46) = true := by decide +kernel
theorem ro_X5_has3 : rv_okM rm_X5_has3 (1112, 68, 1111, 52) = true := by decide +kernel
theorem ro_X5_isWord : rv_okM rm_X5_isWord (1108, 68, 1107, 51) = true := by decide +kernel
theorem ro_X5_fails : rv_okM rm_X5_fails (1124, 68, 1123, 55) = true := by decide +kernel
theorem ro_X5_isFour : rv_okM rm_X5_isFour (1140, 68, 1139, 59) = true := by decide +kernel
theorem ro_X5_isFive : rv_okM rm_X5_isFive (1116, 68, 1115, 53) = true := by decide +kernel
theorem ro_X5_isSix : rv_okM rm_X5_isSix (1104, 68, 1103, 50) = true := by decide +kernel
theorem ro_X5_isNumber : rv_okM rm_X5_isNumber (1136, 68, 1135, 58) = true := by decide +kernel
theorem ro_X5_kindHere : rv_okM rm_X5_kindHere (1100, 68, 1099, 49) = true := by decide +kernel
theorem ro_X5_isTwo : rv_okM rm_X5_isTwo (1128, 68, 1127, 56) = true := by decide +kernel
theorem ro_X5_perhaps : rv_okM rm_X5_perhaps (1132, 68, 1131, 57) = true := by decide +kernel
theorem ro_X5_batherHere : rv_okM rm_X5_batherHere (1120, 68, 1119, 54) = true := by decide +kernel
theorem ro_X5_tubHere : rv_okM rm_X5_tubHere (1144, 68, 1143, 60) = true := by decide +kernel
theorem ro_X5_freshHere : rv_okM rm_X5_freshHere (1148, 68, 1147, 61) = true := by decide +kernel
theorem ro_X5_plugHere : rv_okM rm_X5_plugHere (1152, 68, 1151, 62) = true := by decide +kernel
theorem ro_X5_itemHere : rv_okM rm_X5_itemHere (1096, 68, 1095, 48) = true := by decide +kernel
theorem ro_X5_text : rv_okM rm_X5_text (1078, 68, 1076, 1077) = true := by decide +kernel
theorem ro_X5_hold : rv_okM rm_X5_hold (1156, 68, 1154, 1155) = true := by decide +kernel
theorem ro_X5_isUnder : rv_okM rm_X5_isUnder (1163, 68, 1162, 0) = true := by decide +kernel
theorem ro_X5_as : rv_okM rm_X5_as (1160, 68, 1158, 1159) = true := by decide +kernel
theorem ro_X5_isSheet : rv_okM rm_X5_isSheet (1038, 68, 1037, 0) = true := by decide +kernel
theorem ro_X5_sheet : rv_okM rm_X5_sheet (1168, 68, 1166, 1167) = true := by decide +kernel
theorem ro_X5_write : rv_okM rm_X5_write (1173, 68, 1171, 1172) = true := by decide +kernel
theorem ro_X5_copy : rv_okM rm_X5_copy (1177, 68, 1175, 1176) = true := by decide +kernel
theorem ro_X5_wants : rv_okM rm_X5_wants (1035, 68, 1034, 43) = true := by decide +kernel
theorem ro_X5_load : rv_okM rm_X5_load (1181, 68, 1179, 1180) = true := by decide +kernel
theorem ro_X5_judge : rv_okM rm_X5_judge (1185, 68, 1183, 1184) = true := by decide +kernel
theorem ro_X5_image : rv_okM rm_X5_image (1189, 68, 1187, 1188) = true := by decide +kernel
theorem ro_X5_undo : rv_okM rm_X5_undo (1193, 68, 1191, 1192) = true := by decide +kernel
theorem ro_X5_tear : rv_okM rm_X5_tear (1197, 68, 1195, 1196) = true := by decide +kernel
theorem ro_X5_count : rv_okM rm_X5_count (1201, 68, 1199, 1200) = true := by decide +kernel
theorem ro_X5_status : rv_okM rm_X5_status (1205, 68, 1203, 1204) = true := by decide +kernel
theorem ro_J6_bitCount_0f7a4 : rv_okM rm_J6_bitCount_0f7a4 (304, 70, 303, 0) = true := by decide +kernel
theorem ro_J0_length_8abf5 : rv_okM rm_J0_length_8abf5 (582, 73, 580, 581) = true := by decide +kernel
theorem ro_J0_charAt_5068e : rv_okM rm_J0_charAt_5068e (592, 73, 590, 591) = true := by decide +kernel
theorem ro_J0_coder_7d493 : rv_okM rm_J0_coder_7d493 (586, 73, 584, 585) = true := by decide +kernel
theorem ro_J0_isLatin1_aae02 : rv_okM rm_J0_isLatin1_aae02 (596, 73, 594, 595) = true := by decide +kernel
theorem ro_J0_checkIndex_df160 : rv_okM rm_J0_checkIndex_df160 (602, 73, 601, 0) = true := by decide +kernel
theorem ro_J1_charAt_3b067 : rv_okM rm_J1_charAt_3b067 (599, 74, 598, 0) = true := by decide +kernel
theorem ro_J3_checkIndex_8e157 : rv_okM rm_J3_checkIndex_8e157 (607, 75, 606, 0) = true := by decide +kernel
theorem rv_ms_ok : ∀ (k : Nat) (M : rv_M), rv_ms[k]? = some M → ∃ q, rv_okM M q = true := by
  have h : ∀ M ∈ rv_ms, ∃ q, rv_okM M q = true := by
    unfold rv_ms
    refine List.forall_mem_cons.mpr ⟨⟨_, ro_X0_isKind⟩, ?_⟩
    refine List.forall_mem_cons.mpr ⟨⟨_, ro_X0_isUnder⟩, ?_⟩
    refine List.forall_mem_cons.mpr ⟨⟨_, ro_X0_adds⟩, ?_⟩
    refine List.forall_mem_cons.mpr ⟨⟨_, ro_X0_cools⟩, ?_⟩
    refine List.forall_mem_cons.mpr ⟨⟨_, ro_X0_nose⟩, ?_⟩
    refine List.forall_mem_cons.mpr ⟨⟨_, ro_X1_begin⟩, ?_⟩
    refine List.forall_mem_cons.mpr ⟨⟨_, ro_X1_isMissing⟩, ?_⟩
    refine List.forall_mem_cons.mpr ⟨⟨_, ro_X1_hasSpan⟩, ?_⟩
    refine List.forall_mem_cons.mpr ⟨⟨_, ro_X1_put⟩, ?_⟩
    refine List.forall_mem_cons.mpr ⟨⟨_, ro_X2_take⟩, ?_⟩
    refine List.forall_mem_cons.mpr ⟨⟨_, ro_X2_hasBather⟩, ?_⟩
    refine List.forall_mem_cons.mpr ⟨⟨_, ro_X2_isFull⟩, ?_⟩
    refine List.forall_mem_cons.mpr ⟨⟨_, ro_X2_addBather⟩, ?_⟩
    refine List.forall_mem_cons.mpr ⟨⟨_, ro_X2_rowOf⟩, ?_⟩
    refine List.forall_mem_cons.mpr ⟨⟨_, ro_X2_changePlaces⟩, ?_⟩
    refine List.forall_mem_cons.mpr ⟨⟨_, ro_X2_scentIn⟩, ?_⟩
    refine List.forall_mem_cons.mpr ⟨⟨_, ro_X2_setScent⟩, ?_⟩
    refine List.forall_mem_cons.mpr ⟨⟨_, ro_X2_scentsIn⟩, ?_⟩
    refine List.forall_mem_cons.mpr ⟨⟨_, ro_X2_pullPlug⟩, ?_⟩
    refine List.forall_mem_cons.mpr ⟨⟨_, ro_X2_nextDraw⟩, ?_⟩
    refine List.forall_mem_cons.mpr ⟨⟨_, ro_X2_passHours⟩, ?_⟩
    refine List.forall_mem_cons.mpr ⟨⟨_, ro_X2_passHour⟩, ?_⟩
    refine List.forall_mem_cons.mpr ⟨⟨_, ro_X2_stepFurther⟩, ?_⟩
    refine List.forall_mem_cons.mpr ⟨⟨_, ro_X2_letWaterDown⟩, ?_⟩
    refine List.forall_mem_cons.mpr ⟨⟨_, ro_X2_isHere⟩, ?_⟩
    refine List.forall_mem_cons.mpr ⟨⟨_, ro_X2_bathe⟩, ?_⟩
    refine List.forall_mem_cons.mpr ⟨⟨_, ro_X2_addsOf⟩, ?_⟩
    refine List.forall_mem_cons.mpr ⟨⟨_, ro_X2_smelledBy⟩, ?_⟩
    refine List.forall_mem_cons.mpr ⟨⟨_, ro_X2_whoIsIn⟩, ?_⟩
    refine List.forall_mem_cons.mpr ⟨⟨_, ro_X2_whoKnow⟩, ?_⟩
    refine List.forall_mem_cons.mpr ⟨⟨_, ro_X2_whoKnowAll⟩, ?_⟩
    refine List.forall_mem_cons.mpr ⟨⟨_, ro_X2_whoAreUnknown⟩, ?_⟩
    refine List.forall_mem_cons.mpr ⟨⟨_, ro_X2_knownPairs⟩, ?_⟩
    refine List.forall_mem_cons.mpr ⟨⟨_, ro_X2_tubsBelow⟩, ?_⟩
    refine List.forall_mem_cons.mpr ⟨⟨_, ro_X2_emptyTubs⟩, ?_⟩
    refine List.forall_mem_cons.mpr ⟨⟨_, ro_X2_allWarmth⟩, ?_⟩
    refine List.forall_mem_cons.mpr ⟨⟨_, ro_X2_allScents⟩, ?_⟩
    refine List.forall_mem_cons.mpr ⟨⟨_, ro_X2_heldSpots⟩, ?_⟩
    refine List.forall_mem_cons.mpr ⟨⟨_, ro_X3_readText⟩, ?_⟩
    refine List.forall_mem_cons.mpr ⟨⟨_, ro_X3_readItem⟩, ?_⟩
    refine List.forall_mem_cons.mpr ⟨⟨_, ro_X3_readBather⟩, ?_⟩
    refine List.forall_mem_cons.mpr ⟨⟨_, ro_X3_readTub⟩, ?_⟩
    refine List.forall_mem_cons.mpr ⟨⟨_, ro_X3_kindAtHand⟩, ?_⟩
    refine List.forall_mem_cons.mpr ⟨⟨_, ro_X3_kindWord⟩, ?_⟩
    refine List.forall_mem_cons.mpr ⟨⟨_, ro_X3_isAtHand⟩, ?_⟩
    refine List.forall_mem_cons.mpr ⟨⟨_, ro_X3_passWord⟩, ?_⟩
    refine List.forall_mem_cons.mpr ⟨⟨_, ro_X3_passNumber⟩, ?_⟩
    refine List.forall_mem_cons.mpr ⟨⟨_, ro_X3_readToken⟩, ?_⟩
    refine List.forall_mem_cons.mpr ⟨⟨_, ro_X3_byteAt⟩, ?_⟩
    refine List.forall_mem_cons.mpr ⟨⟨_, ro_X3_isLetter⟩, ?_⟩
    refine List.forall_mem_cons.mpr ⟨⟨_, ro_X3_isDigit⟩, ?_⟩
    refine List.forall_mem_cons.mpr ⟨⟨_, ro_X4_warm⟩, ?_⟩
    refine List.forall_mem_cons.mpr ⟨⟨_, ro_X4_scent⟩, ?_⟩
    refine List.forall_mem_cons.mpr ⟨⟨_, ro_X4_tub⟩, ?_⟩
    refine List.forall_mem_cons.mpr ⟨⟨_, ro_X4_fresh⟩, ?_⟩
    refine List.forall_mem_cons.mpr ⟨⟨_, ro_X4_plug⟩, ?_⟩
    refine List.forall_mem_cons.mpr ⟨⟨_, ro_X4_bather⟩, ?_⟩
    refine List.forall_mem_cons.mpr ⟨⟨_, ro_X4_of⟩, ?_⟩
    refine List.forall_mem_cons.mpr ⟨⟨_, ro_X4_change⟩, ?_⟩
    refine List.forall_mem_cons.mpr ⟨⟨_, ro_X4_swap⟩, ?_⟩
    refine List.forall_mem_cons.mpr ⟨⟨_, ro_X4_go⟩, ?_⟩
    refine List.forall_mem_cons.mpr ⟨⟨_, ro_X4_now⟩, ?_⟩
    refine List.forall_mem_cons.mpr ⟨⟨_, ro_X4_ahead⟩, ?_⟩
    refine List.forall_mem_cons.mpr ⟨⟨_, ro_X4_knows⟩, ?_⟩
    refine List.forall_mem_cons.mpr ⟨⟨_, ro_X4_when⟩, ?_⟩
    refine List.forall_mem_cons.mpr ⟨⟨_, ro_X4_cold⟩, ?_⟩
    refine List.forall_mem_cons.mpr ⟨⟨_, ro_X4_left⟩, ?_⟩
    refine List.forall_mem_cons.mpr ⟨⟨_, ro_X4_needed⟩, ?_⟩
    refine List.forall_mem_cons.mpr ⟨⟨_, ro_X4_swapFor⟩, ?_⟩
    refine List.forall_mem_cons.mpr ⟨⟨_, ro_X4_seat⟩, ?_⟩
    refine List.forall_mem_cons.mpr ⟨⟨_, ro_X4_kindFor⟩, ?_⟩
    refine List.forall_mem_cons.mpr ⟨⟨_, ro_X4_freshFor⟩, ?_⟩
    refine List.forall_mem_cons.mpr ⟨⟨_, ro_X4_hides⟩, ?_⟩
    refine List.forall_mem_cons.mpr ⟨⟨_, ro_X4_leave⟩, ?_⟩
    refine List.forall_mem_cons.mpr ⟨⟨_, ro_X4_plugFor⟩, ?_⟩
    refine List.forall_mem_cons.mpr ⟨⟨_, ro_X4_fits⟩, ?_⟩
    refine List.forall_mem_cons.mpr ⟨⟨_, ro_X4_kinds⟩, ?_⟩
    refine List.forall_mem_cons.mpr ⟨⟨_, ro_X4_plugs⟩, ?_⟩
    refine List.forall_mem_cons.mpr ⟨⟨_, ro_X4_odds⟩, ?_⟩
    refine List.forall_mem_cons.mpr ⟨⟨_, ro_X4_seed⟩, ?_⟩
    refine List.forall_mem_cons.mpr ⟨⟨_, ro_X4_feed⟩, ?_⟩
    refine List.forall_mem_cons.mpr ⟨⟨_, ro_X4_wipe⟩, ?_⟩
    refine List.forall_mem_cons.mpr ⟨⟨_, ro_X4_text⟩, ?_⟩
    refine List.forall_mem_cons.mpr ⟨⟨_, ro_X4_hold⟩, ?_⟩
    refine List.forall_mem_cons.mpr ⟨⟨_, ro_X4_as⟩, ?_⟩
    refine List.forall_mem_cons.mpr ⟨⟨_, ro_X4_sheet⟩, ?_⟩
    refine List.forall_mem_cons.mpr ⟨⟨_, ro_X4_write⟩, ?_⟩
    refine List.forall_mem_cons.mpr ⟨⟨_, ro_X4_copy⟩, ?_⟩
    refine List.forall_mem_cons.mpr ⟨⟨_, ro_X4_load⟩, ?_⟩
    refine List.forall_mem_cons.mpr ⟨⟨_, ro_X4_judge⟩, ?_⟩
    refine List.forall_mem_cons.mpr ⟨⟨_, ro_X4_image⟩, ?_⟩
    refine List.forall_mem_cons.mpr ⟨⟨_, ro_X4_undo⟩, ?_⟩
    refine List.forall_mem_cons.mpr ⟨⟨_, ro_X4_tear⟩, ?_⟩
    refine List.forall_mem_cons.mpr ⟨⟨_, ro_X4_count⟩, ?_⟩
    refine List.forall_mem_cons.mpr ⟨⟨_, ro_X4_status⟩, ?_⟩
    refine List.forall_mem_cons.mpr ⟨⟨_, ro_X4_finding⟩, ?_⟩
    refine List.forall_mem_cons.mpr ⟨⟨_, ro_X4_isWithin⟩, ?_⟩
    refine List.forall_mem_cons.mpr ⟨⟨_, ro_X4_isTub⟩, ?_⟩
    refine List.forall_mem_cons.mpr ⟨⟨_, ro_X4_isScent⟩, ?_⟩
    refine List.forall_mem_cons.mpr ⟨⟨_, ro_X4_isSpot⟩, ?_⟩
    refine List.forall_mem_cons.mpr ⟨⟨_, ro_X4_isSheet⟩, ?_⟩
    refine List.forall_mem_cons.mpr ⟨⟨_, ro_X4_mostOf⟩, ?_⟩
    refine List.forall_mem_cons.mpr ⟨⟨_, ro_X4_greatestCommonPart⟩, ?_⟩
    refine List.forall_mem_cons.mpr ⟨⟨_, ro_X4_lackOf⟩, ?_⟩
    refine List.forall_mem_cons.mpr ⟨⟨_, ro_X4_hoursUntilKnown⟩, ?_⟩
    refine List.forall_mem_cons.mpr ⟨⟨_, ro_X4_isLearned⟩, ?_⟩
    refine List.forall_mem_cons.mpr ⟨⟨_, ro_X4_comesOutAs⟩, ?_⟩
    refine List.forall_mem_cons.mpr ⟨⟨_, ro_X5_isIn⟩, ?_⟩
    refine List.forall_mem_cons.mpr ⟨⟨_, ro_X5_finds⟩, ?_⟩
    refine List.forall_mem_cons.mpr ⟨⟨_, ro_X5_becomes⟩, ?_⟩
    refine List.forall_mem_cons.mpr ⟨⟨_, ro_X5_copyRow⟩, ?_⟩
    refine List.forall_mem_cons.mpr ⟨⟨_, ro_X5_isTub⟩, ?_⟩
    refine List.forall_mem_cons.mpr ⟨⟨_, ro_X5_isScent⟩, ?_⟩
    refine List.forall_mem_cons.mpr ⟨⟨_, ro_X5_isBather⟩, ?_⟩
    refine List.forall_mem_cons.mpr ⟨⟨_, ro_X5_its⟩, ?_⟩
    refine List.forall_mem_cons.mpr ⟨⟨_, ro_X5_orNone⟩, ?_⟩
    refine List.forall_mem_cons.mpr ⟨⟨_, ro_X5_many⟩, ?_⟩
    refine List.forall_mem_cons.mpr ⟨⟨_, ro_X5_warm⟩, ?_⟩
    refine List.forall_mem_cons.mpr ⟨⟨_, ro_X5_placeOf⟩, ?_⟩
    refine List.forall_mem_cons.mpr ⟨⟨_, ro_X5_scent⟩, ?_⟩
    refine List.forall_mem_cons.mpr ⟨⟨_, ro_X5_allIn⟩, ?_⟩
    refine List.forall_mem_cons.mpr ⟨⟨_, ro_X5_there⟩, ?_⟩
    refine List.forall_mem_cons.mpr ⟨⟨_, ro_X5_tub⟩, ?_⟩
    refine List.forall_mem_cons.mpr ⟨⟨_, ro_X5_fresh⟩, ?_⟩
    refine List.forall_mem_cons.mpr ⟨⟨_, ro_X5_pulls⟩, ?_⟩
    refine List.forall_mem_cons.mpr ⟨⟨_, ro_X5_plug⟩, ?_⟩
    refine List.forall_mem_cons.mpr ⟨⟨_, ro_X5_comes⟩, ?_⟩
    refine List.forall_mem_cons.mpr ⟨⟨_, ro_X5_bather⟩, ?_⟩
    refine List.forall_mem_cons.mpr ⟨⟨_, ro_X5_adds⟩, ?_⟩
    refine List.forall_mem_cons.mpr ⟨⟨_, ro_X5_cools⟩, ?_⟩
    refine List.forall_mem_cons.mpr ⟨⟨_, ro_X5_nose⟩, ?_⟩
    refine List.forall_mem_cons.mpr ⟨⟨_, ro_X5_smells⟩, ?_⟩
    refine List.forall_mem_cons.mpr ⟨⟨_, ro_X5_of⟩, ?_⟩
    refine List.forall_mem_cons.mpr ⟨⟨_, ro_X5_greatestOf⟩, ?_⟩
    refine List.forall_mem_cons.mpr ⟨⟨_, ro_X5_change⟩, ?_⟩
    refine List.forall_mem_cons.mpr ⟨⟨_, ro_X5_swaps⟩, ?_⟩
    refine List.forall_mem_cons.mpr ⟨⟨_, ro_X5_swap⟩, ?_⟩
    refine List.forall_mem_cons.mpr ⟨⟨_, ro_X5_flows⟩, ?_⟩
    refine List.forall_mem_cons.mpr ⟨⟨_, ro_X5_hourBut⟩, ?_⟩
    refine List.forall_mem_cons.mpr ⟨⟨_, ro_X5_hours⟩, ?_⟩
    refine List.forall_mem_cons.mpr ⟨⟨_, ro_X5_go⟩, ?_⟩
    refine List.forall_mem_cons.mpr ⟨⟨_, ro_X5_sumOf⟩, ?_⟩
    refine List.forall_mem_cons.mpr ⟨⟨_, ro_X5_coldTubs⟩, ?_⟩
    refine List.forall_mem_cons.mpr ⟨⟨_, ro_X5_knowing⟩, ?_⟩
    refine List.forall_mem_cons.mpr ⟨⟨_, ro_X5_unknown⟩, ?_⟩
    refine List.forall_mem_cons.mpr ⟨⟨_, ro_X5_now⟩, ?_⟩
    refine List.forall_mem_cons.mpr ⟨⟨_, ro_X5_ahead⟩, ?_⟩
    refine List.forall_mem_cons.mpr ⟨⟨_, ro_X5_knownIn⟩, ?_⟩
    refine List.forall_mem_cons.mpr ⟨⟨_, ro_X5_knows⟩, ?_⟩
    refine List.forall_mem_cons.mpr ⟨⟨_, ro_X5_soonest⟩, ?_⟩
    refine List.forall_mem_cons.mpr ⟨⟨_, ro_X5_when⟩, ?_⟩
    refine List.forall_mem_cons.mpr ⟨⟨_, ro_X5_cold⟩, ?_⟩
    refine List.forall_mem_cons.mpr ⟨⟨_, ro_X5_leftOf⟩, ?_⟩
    refine List.forall_mem_cons.mpr ⟨⟨_, ro_X5_left⟩, ?_⟩
    refine List.forall_mem_cons.mpr ⟨⟨_, ro_X5_needed⟩, ?_⟩
    refine List.forall_mem_cons.mpr ⟨⟨_, ro_X5_swapFor⟩, ?_⟩
    refine List.forall_mem_cons.mpr ⟨⟨_, ro_X5_seat⟩, ?_⟩
    refine List.forall_mem_cons.mpr ⟨⟨_, ro_X5_kindFor⟩, ?_⟩
    refine List.forall_mem_cons.mpr ⟨⟨_, ro_X5_coldest⟩, ?_⟩
    refine List.forall_mem_cons.mpr ⟨⟨_, ro_X5_freshFor⟩, ?_⟩
    refine List.forall_mem_cons.mpr ⟨⟨_, ro_X5_isHidden⟩, ?_⟩
    refine List.forall_mem_cons.mpr ⟨⟨_, ro_X5_hides⟩, ?_⟩
    refine List.forall_mem_cons.mpr ⟨⟨_, ro_X5_leave⟩, ?_⟩
    refine List.forall_mem_cons.mpr ⟨⟨_, ro_X5_plugFor⟩, ?_⟩
    refine List.forall_mem_cons.mpr ⟨⟨_, ro_X5_isTold⟩, ?_⟩
    refine List.forall_mem_cons.mpr ⟨⟨_, ro_X5_couldBe⟩, ?_⟩
    refine List.forall_mem_cons.mpr ⟨⟨_, ro_X5_wantsFor⟩, ?_⟩
    refine List.forall_mem_cons.mpr ⟨⟨_, ro_X5_fits⟩, ?_⟩
    refine List.forall_mem_cons.mpr ⟨⟨_, ro_X5_kinds⟩, ?_⟩
    refine List.forall_mem_cons.mpr ⟨⟨_, ro_X5_plugs⟩, ?_⟩
    refine List.forall_mem_cons.mpr ⟨⟨_, ro_X5_odds⟩, ?_⟩
    refine List.forall_mem_cons.mpr ⟨⟨_, ro_X5_seed⟩, ?_⟩
    refine List.forall_mem_cons.mpr ⟨⟨_, ro_X5_feed⟩, ?_⟩
    refine List.forall_mem_cons.mpr ⟨⟨_, ro_X5_wipe⟩, ?_⟩
    refine List.forall_mem_cons.mpr ⟨⟨_, ro_X5_isLetter⟩, ?_⟩
    refine List.forall_mem_cons.mpr ⟨⟨_, ro_X5_isDigit⟩, ?_⟩
    refine List.forall_mem_cons.mpr ⟨⟨_, ro_X5_byteAt⟩, ?_⟩
    refine List.forall_mem_cons.mpr ⟨⟨_, ro_X5_nextToken⟩, ?_⟩
    refine List.forall_mem_cons.mpr ⟨⟨_, ro_X5_has3⟩, ?_⟩
    refine List.forall_mem_cons.mpr ⟨⟨_, ro_X5_isWord⟩, ?_⟩
    refine List.forall_mem_cons.mpr ⟨⟨_, ro_X5_fails⟩, ?_⟩
    refine List.forall_mem_cons.mpr ⟨⟨_, ro_X5_isFour⟩, ?_⟩
    refine List.forall_mem_cons.mpr ⟨⟨_, ro_X5_isFive⟩, ?_⟩
    refine List.forall_mem_cons.mpr ⟨⟨_, ro_X5_isSix⟩, ?_⟩
    refine List.forall_mem_cons.mpr ⟨⟨_, ro_X5_isNumber⟩, ?_⟩
    refine List.forall_mem_cons.mpr ⟨⟨_, ro_X5_kindHere⟩, ?_⟩
    refine List.forall_mem_cons.mpr ⟨⟨_, ro_X5_isTwo⟩, ?_⟩
    refine List.forall_mem_cons.mpr ⟨⟨_, ro_X5_perhaps⟩, ?_⟩
    refine List.forall_mem_cons.mpr ⟨⟨_, ro_X5_batherHere⟩, ?_⟩
    refine List.forall_mem_cons.mpr ⟨⟨_, ro_X5_tubHere⟩, ?_⟩
    refine List.forall_mem_cons.mpr ⟨⟨_, ro_X5_freshHere⟩, ?_⟩
    refine List.forall_mem_cons.mpr ⟨⟨_, ro_X5_plugHere⟩, ?_⟩
    refine List.forall_mem_cons.mpr ⟨⟨_, ro_X5_itemHere⟩, ?_⟩
    refine List.forall_mem_cons.mpr ⟨⟨_, ro_X5_text⟩, ?_⟩
    refine List.forall_mem_cons.mpr ⟨⟨_, ro_X5_hold⟩, ?_⟩
    refine List.forall_mem_cons.mpr ⟨⟨_, ro_X5_isUnder⟩, ?_⟩
    refine List.forall_mem_cons.mpr ⟨⟨_, ro_X5_as⟩, ?_⟩
    refine List.forall_mem_cons.mpr ⟨⟨_, ro_X5_isSheet⟩, ?_⟩
    refine List.forall_mem_cons.mpr ⟨⟨_, ro_X5_sheet⟩, ?_⟩
    refine List.forall_mem_cons.mpr ⟨⟨_, ro_X5_write⟩, ?_⟩
    refine List.forall_mem_cons.mpr ⟨⟨_, ro_X5_copy⟩, ?_⟩
    refine List.forall_mem_cons.mpr ⟨⟨_, ro_X5_wants⟩, ?_⟩
    refine List.forall_mem_cons.mpr ⟨⟨_, ro_X5_load⟩, ?_⟩
    refine List.forall_mem_cons.mpr ⟨⟨_, ro_X5_judge⟩, ?_⟩
    refine List.forall_mem_cons.mpr ⟨⟨_, ro_X5_image⟩, ?_⟩
    refine List.forall_mem_cons.mpr ⟨⟨_, ro_X5_undo⟩, ?_⟩
    refine List.forall_mem_cons.mpr ⟨⟨_, ro_X5_tear⟩, ?_⟩
    refine List.forall_mem_cons.mpr ⟨⟨_, ro_X5_count⟩, ?_⟩
    refine List.forall_mem_cons.mpr ⟨⟨_, ro_X5_status⟩, ?_⟩
    refine List.forall_mem_cons.mpr ⟨⟨_, ro_J6_bitCount_0f7a4⟩, ?_⟩
    refine List.forall_mem_cons.mpr ⟨⟨_, ro_J0_length_8abf5⟩, ?_⟩
    refine List.forall_mem_cons.mpr ⟨⟨_, ro_J0_charAt_5068e⟩, ?_⟩
    refine List.forall_mem_cons.mpr ⟨⟨_, ro_J0_coder_7d493⟩, ?_⟩
    refine List.forall_mem_cons.mpr ⟨⟨_, ro_J0_isLatin1_aae02⟩, ?_⟩
    refine List.forall_mem_cons.mpr ⟨⟨_, ro_J0_checkIndex_df160⟩, ?_⟩
    refine List.forall_mem_cons.mpr ⟨⟨_, ro_J1_charAt_3b067⟩, ?_⟩
    refine List.forall_mem_cons.mpr ⟨⟨_, ro_J3_checkIndex_8e157⟩, ?_⟩
    exact fun _ h => absurd h List.not_mem_nil
  exact fun k M hk => h M (List.mem_of_getElem? hk)
