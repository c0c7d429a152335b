/-! what is checked of the law's code, case by case -/
theorem lk_0 : lc_ok 224 2 13 51 216 17 117 788 false = true := by decide +kernel
theorem lk_1 : lc_ok 257 3 18 52 231 22 119 808 false = true := by decide +kernel
theorem lk_2 : lc_ok 300 2 23 53 246 26 122 819 false = true := by decide +kernel
theorem lk_3 : lc_ok 333 1 27 54 259 31 123 836 false = true := by decide +kernel
theorem lk_4 : lc_ok 356 1 32 55 263 35 125 840 false = true := by decide +kernel
theorem lk_5 : lc_ok 379 2 36 56 272 39 127 848 false = true := by decide +kernel
theorem lk_6 : lc_ok 412 2 40 57 287 43 132 857 false = true := by decide +kernel
theorem lk_7 : lc_ok 445 3 44 58 320 47 134 885 false = true := by decide +kernel
theorem lk_8 : lc_ok 488 2 48 59 331 51 136 893 false = true := by decide +kernel
theorem lk_9 : lc_ok 521 1 52 60 339 55 140 901 false = true := by decide +kernel
theorem lk_10 : lc_ok 544 1 56 61 378 59 145 920 false = true := by decide +kernel
theorem lk_11 : lc_ok 567 3 60 62 406 63 146 940 false = true := by decide +kernel
theorem lk_12 : lc_ok 610 2 64 63 417 67 148 949 false = true := by decide +kernel
theorem lk_13 : lc_ok 643 2 68 64 421 71 150 957 false = true := by decide +kernel
theorem lk_14 : lc_ok 676 2 72 65 430 75 151 970 false = true := by decide +kernel
theorem lk_15 : lc_ok 709 2 76 66 434 79 153 974 false = true := by decide +kernel
theorem lk_16 : lc_ok 742 2 80 67 439 83 154 982 false = true := by decide +kernel
theorem lk_17 : lc_ok 775 2 84 68 443 87 155 987 false = true := by decide +kernel
theorem lk_18 : lc_ok 808 2 88 69 448 91 156 991 false = true := by decide +kernel
theorem lk_19 : lc_ok 841 2 92 70 452 95 157 995 false = true := by decide +kernel
theorem lk_20 : lc_ok 874 2 96 71 456 99 159 999 false = true := by decide +kernel
theorem lk_21 : lc_ok 907 4 100 72 460 104 161 1007 false = true := by decide +kernel
theorem lk_22 : lc_ok 960 2 105 73 469 108 162 1016 false = true := by decide +kernel
theorem lk_23 : lc_ok 993 2 109 74 473 112 163 1020 false = true := by decide +kernel
theorem lk_24 : lc_ok 1026 2 113 75 477 116 167 1024 false = true := by decide +kernel
theorem lk_25 : lc_ok 1059 2 117 76 496 120 168 1048 false = true := by decide +kernel
theorem lk_26 : lc_ok 1092 1 121 77 500 124 169 1052 false = true := by decide +kernel
theorem lk_27 : lc_ok 1115 2 125 78 509 129 170 1057 true = true := by decide +kernel
theorem lk_28 : lc_ok 1149 1 130 79 522 133 171 1063 false = true := by decide +kernel
theorem lk_29 : lc_ok 1172 2 134 80 526 137 172 1067 false = true := by decide +kernel
theorem lk_30 : lc_ok 1205 0 138 81 530 142 173 1071 false = true := by decide +kernel
theorem lk_31 : lc_ok 1218 0 143 82 534 146 193 1075 false = true := by decide +kernel
theorem lk_32 : lc_ok 1231 2 147 83 654 150 194 1153 false = true := by decide +kernel
theorem lk_33 : lc_ok 1264 2 151 84 661 154 196 1157 false = true := by decide +kernel
theorem lk_34 : lc_ok 1297 3 155 85 671 158 198 1165 false = true := by decide +kernel
theorem lk_35 : lc_ok 1340 3 159 86 679 162 199 1170 false = true := by decide +kernel
theorem lk_36 : lc_ok 1383 5 163 87 687 167 200 1174 false = true := by decide +kernel
theorem lk_37 : lc_ok 1446 1 168 88 696 171 202 1178 false = true := by decide +kernel
theorem lk_38 : lc_ok 1469 1 172 89 700 175 203 1182 false = true := by decide +kernel
theorem lk_39 : lc_ok 1492 0 176 90 704 179 204 1186 false = true := by decide +kernel
theorem lk_40 : lc_ok 1505 0 180 91 708 183 205 1190 false = true := by decide +kernel
theorem lk_41 : lc_ok 1518 0 184 92 712 187 206 1194 false = true := by decide +kernel
theorem lk_42 : lc_ok 1531 1 188 93 716 191 207 1198 false = true := by decide +kernel
theorem lk_43 : lc_ok 1554 1 192 94 729 195 208 1202 false = true := by decide +kernel
theorem dL_0 : decode code 0 = .ok (.new 7, 3) := by decide +kernel
theorem dL_3 : decode code 3 = .ok (.dup, 1) := by decide +kernel
theorem dL_4 : decode code 4 = .ok (.invokespecial 9, 3) := by decide +kernel
theorem dL_7 : decode code 7 = .ok (.astore_n 1, 1) := by decide +kernel
theorem dL_8 : decode code 8 = .ok (.new 10, 3) := by decide +kernel
theorem dL_11 : decode code 11 = .ok (.dup, 1) := by decide +kernel
theorem dL_12 : decode code 12 = .ok (.invokespecial 12, 3) := by decide +kernel
theorem dL_15 : decode code 15 = .ok (.astore_n 2, 1) := by decide +kernel
theorem dL_16 : decode code 16 = .ok (.iconst 0, 1) := by decide +kernel
theorem dL_17 : decode code 17 = .ok (.istore_n 3, 1) := by decide +kernel
theorem dL_18 : decode code 18 = .ok (.iload_n 3, 1) := by decide +kernel
theorem dL_19 : decode code 19 = .ok (.aload_n 0, 1) := by decide +kernel
theorem dL_20 : decode code 20 = .ok (.arraylength, 1) := by decide +kernel
theorem dL_21 : decode code 21 = .ok (.bipush 6, 2) := by decide +kernel
theorem dL_23 : decode code 23 = .ok (.isub, 1) := by decide +kernel
theorem dL_24 : decode code 24 = .ok (.if_icmp .gt 1559, 3) := by decide +kernel
theorem dL_27 : decode code 27 = .ok (.aload_n 0, 1) := by decide +kernel
theorem dL_28 : decode code 28 = .ok (.iload_n 3, 1) := by decide +kernel
theorem dL_29 : decode code 29 = .ok (.iaload, 1) := by decide +kernel
theorem dL_30 : decode code 30 = .ok (.bipush 63, 2) := by decide +kernel
theorem dL_32 : decode code 32 = .ok (.iand, 1) := by decide +kernel
theorem dL_33 : decode code 33 = .ok (.tableswitch 1544 0 43 #[191, 224, 267, 300, 323, 346, 379, 412, 455, 488, 511, 534, 577, 610, 643, 676, 709, 742, 775, 808, 841, 874, 927, 960, 993, 1026, 1059, 1082, 1116, 1139, 1172, 1185, 1198, 1231, 1264, 1307, 1350, 1413, 1436, 1459, 1472, 1485, 1498, 1521], 191) := by decide +kernel
theorem dL_1577 : decode code 1577 = .ok (.iinc 3 6, 3) := by decide +kernel
theorem dL_1580 : decode code 1580 = .ok (.goto (-1562), 3) := by decide +kernel
theorem dL_1583 : decode code 1583 = .ok (.iconst 1, 1) := by decide +kernel
theorem dL_1584 : decode code 1584 = .ok (.ireturn, 1) := by decide +kernel
