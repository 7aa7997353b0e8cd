theorem q0 : Cond.initialized "WatermarkmillLaw" ∈ lw_good := lw_in (i := 0) (by decide +kernel) (by decide +kernel)
theorem q1236 : Cond.methodLink "WatermarkmillLaw" 171 yX14_thrown ∈ lw_good := lw_in (i := 1236) (by decide +kernel) (by decide +kernel)
theorem q1237 : Cond.instanceMethod yX14_thrown ∈ lw_good := lw_in (i := 1237) (by decide +kernel) (by decide +kernel)
theorem q1238 : Cond.selects "WatermarkmillModel" yX14_thrown yX14_thrown ∈ lw_good := lw_in (i := 1238) (by decide +kernel) (by decide +kernel)
theorem q1240 : Cond.methodLink "WatermarkmillLaw" 170 yX14_mould ∈ lw_good := lw_in (i := 1240) (by decide +kernel) (by decide +kernel)
theorem q1241 : Cond.instanceMethod yX14_mould ∈ lw_good := lw_in (i := 1241) (by decide +kernel) (by decide +kernel)
theorem q1242 : Cond.selects "WatermarkmillModel" yX14_mould yX14_mould ∈ lw_good := lw_in (i := 1242) (by decide +kernel) (by decide +kernel)
theorem q1297 : Cond.methodLink "WatermarkmillLaw" 177 yX14_copy ∈ lw_good := lw_in (i := 1297) (by decide +kernel) (by decide +kernel)
theorem q1298 : Cond.instanceMethod yX14_copy ∈ lw_good := lw_in (i := 1298) (by decide +kernel) (by decide +kernel)
theorem q1299 : Cond.selects "WatermarkmillModel" yX14_copy yX14_copy ∈ lw_good := lw_in (i := 1299) (by decide +kernel) (by decide +kernel)
theorem q1317 : Cond.methodLink "WatermarkmillLaw" 180 yX14_twin ∈ lw_good := lw_in (i := 1317) (by decide +kernel) (by decide +kernel)
theorem q1318 : Cond.instanceMethod yX14_twin ∈ lw_good := lw_in (i := 1318) (by decide +kernel) (by decide +kernel)
theorem q1319 : Cond.selects "WatermarkmillModel" yX14_twin yX14_twin ∈ lw_good := lw_in (i := 1319) (by decide +kernel) (by decide +kernel)
theorem q1321 : Cond.methodLink "WatermarkmillLaw" 184 yX14_damage ∈ lw_good := lw_in (i := 1321) (by decide +kernel) (by decide +kernel)
theorem q1322 : Cond.instanceMethod yX14_damage ∈ lw_good := lw_in (i := 1322) (by decide +kernel) (by decide +kernel)
theorem q1323 : Cond.selects "WatermarkmillModel" yX14_damage yX14_damage ∈ lw_good := lw_in (i := 1323) (by decide +kernel) (by decide +kernel)
theorem q1337 : Cond.methodLink "WatermarkmillLaw" 187 yX14_retire ∈ lw_good := lw_in (i := 1337) (by decide +kernel) (by decide +kernel)
theorem q1338 : Cond.instanceMethod yX14_retire ∈ lw_good := lw_in (i := 1338) (by decide +kernel) (by decide +kernel)
theorem q1339 : Cond.selects "WatermarkmillModel" yX14_retire yX14_retire ∈ lw_good := lw_in (i := 1339) (by decide +kernel) (by decide +kernel)
theorem q1341 : Cond.methodLink "WatermarkmillLaw" 191 yX14_sell ∈ lw_good := lw_in (i := 1341) (by decide +kernel) (by decide +kernel)
theorem q1342 : Cond.instanceMethod yX14_sell ∈ lw_good := lw_in (i := 1342) (by decide +kernel) (by decide +kernel)
theorem q1343 : Cond.selects "WatermarkmillModel" yX14_sell yX14_sell ∈ lw_good := lw_in (i := 1343) (by decide +kernel) (by decide +kernel)
theorem q1410 : Cond.methodLink "WatermarkmillLaw" 194 yX14_owner ∈ lw_good := lw_in (i := 1410) (by decide +kernel) (by decide +kernel)
theorem q1411 : Cond.instanceMethod yX14_owner ∈ lw_good := lw_in (i := 1411) (by decide +kernel) (by decide +kernel)
theorem q1412 : Cond.selects "WatermarkmillModel" yX14_owner yX14_owner ∈ lw_good := lw_in (i := 1412) (by decide +kernel) (by decide +kernel)
theorem q1414 : Cond.methodLink "WatermarkmillLaw" 197 yX14_state ∈ lw_good := lw_in (i := 1414) (by decide +kernel) (by decide +kernel)
theorem q1415 : Cond.instanceMethod yX14_state ∈ lw_good := lw_in (i := 1415) (by decide +kernel) (by decide +kernel)
theorem q1416 : Cond.selects "WatermarkmillModel" yX14_state yX14_state ∈ lw_good := lw_in (i := 1416) (by decide +kernel) (by decide +kernel)
theorem q1422 : Cond.methodLink "WatermarkmillLaw" 200 yX14_wire ∈ lw_good := lw_in (i := 1422) (by decide +kernel) (by decide +kernel)
theorem q1423 : Cond.instanceMethod yX14_wire ∈ lw_good := lw_in (i := 1423) (by decide +kernel) (by decide +kernel)
theorem q1424 : Cond.selects "WatermarkmillModel" yX14_wire yX14_wire ∈ lw_good := lw_in (i := 1424) (by decide +kernel) (by decide +kernel)
theorem q1429 : Cond.methodLink "WatermarkmillLaw" 204 yX14_make ∈ lw_good := lw_in (i := 1429) (by decide +kernel) (by decide +kernel)
theorem q1430 : Cond.instanceMethod yX14_make ∈ lw_good := lw_in (i := 1430) (by decide +kernel) (by decide +kernel)
theorem q1431 : Cond.selects "WatermarkmillModel" yX14_make yX14_make ∈ lw_good := lw_in (i := 1431) (by decide +kernel) (by decide +kernel)
theorem q1454 : Cond.methodLink "WatermarkmillLaw" 208 yX14_ream ∈ lw_good := lw_in (i := 1454) (by decide +kernel) (by decide +kernel)
theorem q1455 : Cond.instanceMethod yX14_ream ∈ lw_good := lw_in (i := 1455) (by decide +kernel) (by decide +kernel)
theorem q1456 : Cond.selects "WatermarkmillModel" yX14_ream yX14_ream ∈ lw_good := lw_in (i := 1456) (by decide +kernel) (by decide +kernel)
theorem q1475 : Cond.methodLink "WatermarkmillLaw" 211 yX14_put ∈ lw_good := lw_in (i := 1475) (by decide +kernel) (by decide +kernel)
theorem q1476 : Cond.instanceMethod yX14_put ∈ lw_good := lw_in (i := 1476) (by decide +kernel) (by decide +kernel)
theorem q1477 : Cond.selects "WatermarkmillModel" yX14_put yX14_put ∈ lw_good := lw_in (i := 1477) (by decide +kernel) (by decide +kernel)
theorem q1488 : Cond.methodLink "WatermarkmillLaw" 214 yX14_tariff ∈ lw_good := lw_in (i := 1488) (by decide +kernel) (by decide +kernel)
theorem q1489 : Cond.instanceMethod yX14_tariff ∈ lw_good := lw_in (i := 1489) (by decide +kernel) (by decide +kernel)
theorem q1490 : Cond.selects "WatermarkmillModel" yX14_tariff yX14_tariff ∈ lw_good := lw_in (i := 1490) (by decide +kernel) (by decide +kernel)
theorem q1497 : Cond.methodLink "WatermarkmillLaw" 217 yX14_document ∈ lw_good := lw_in (i := 1497) (by decide +kernel) (by decide +kernel)
theorem q1498 : Cond.instanceMethod yX14_document ∈ lw_good := lw_in (i := 1498) (by decide +kernel) (by decide +kernel)
theorem q1499 : Cond.selects "WatermarkmillModel" yX14_document yX14_document ∈ lw_good := lw_in (i := 1499) (by decide +kernel) (by decide +kernel)
theorem q1532 : Cond.methodLink "WatermarkmillLaw" 220 yX14_use ∈ lw_good := lw_in (i := 1532) (by decide +kernel) (by decide +kernel)
theorem q1533 : Cond.instanceMethod yX14_use ∈ lw_good := lw_in (i := 1533) (by decide +kernel) (by decide +kernel)
theorem q1534 : Cond.selects "WatermarkmillModel" yX14_use yX14_use ∈ lw_good := lw_in (i := 1534) (by decide +kernel) (by decide +kernel)
theorem q299 : Cond.methodLink "WatermarkmillLaw" 165 yL_mould ∈ lw_good := lw_in (i := 299) (by decide +kernel) (by decide +kernel)
theorem q300 : Cond.static yL_mould ∈ lw_good := lw_in (i := 300) (by decide +kernel) (by decide +kernel)
theorem q515 : Cond.methodLink "WatermarkmillLaw" 174 yL_copy ∈ lw_good := lw_in (i := 515) (by decide +kernel) (by decide +kernel)
theorem q516 : Cond.static yL_copy ∈ lw_good := lw_in (i := 516) (by decide +kernel) (by decide +kernel)
theorem q563 : Cond.methodLink "WatermarkmillLaw" 178 yL_twin ∈ lw_good := lw_in (i := 563) (by decide +kernel) (by decide +kernel)
theorem q564 : Cond.static yL_twin ∈ lw_good := lw_in (i := 564) (by decide +kernel) (by decide +kernel)
theorem q588 : Cond.methodLink "WatermarkmillLaw" 181 yL_damage ∈ lw_good := lw_in (i := 588) (by decide +kernel) (by decide +kernel)
theorem q589 : Cond.static yL_damage ∈ lw_good := lw_in (i := 589) (by decide +kernel) (by decide +kernel)
theorem q616 : Cond.methodLink "WatermarkmillLaw" 185 yL_retire ∈ lw_good := lw_in (i := 616) (by decide +kernel) (by decide +kernel)
theorem q617 : Cond.static yL_retire ∈ lw_good := lw_in (i := 617) (by decide +kernel) (by decide +kernel)
theorem q625 : Cond.methodLink "WatermarkmillLaw" 188 yL_sell ∈ lw_good := lw_in (i := 625) (by decide +kernel) (by decide +kernel)
theorem q626 : Cond.static yL_sell ∈ lw_good := lw_in (i := 626) (by decide +kernel) (by decide +kernel)
theorem q660 : Cond.methodLink "WatermarkmillLaw" 192 yL_owner ∈ lw_good := lw_in (i := 660) (by decide +kernel) (by decide +kernel)
theorem q661 : Cond.static yL_owner ∈ lw_good := lw_in (i := 661) (by decide +kernel) (by decide +kernel)
theorem q667 : Cond.methodLink "WatermarkmillLaw" 195 yL_state ∈ lw_good := lw_in (i := 667) (by decide +kernel) (by decide +kernel)
theorem q668 : Cond.static yL_state ∈ lw_good := lw_in (i := 668) (by decide +kernel) (by decide +kernel)
theorem q675 : Cond.methodLink "WatermarkmillLaw" 198 yL_wire ∈ lw_good := lw_in (i := 675) (by decide +kernel) (by decide +kernel)
theorem q676 : Cond.static yL_wire ∈ lw_good := lw_in (i := 676) (by decide +kernel) (by decide +kernel)
theorem q699 : Cond.methodLink "WatermarkmillLaw" 201 yL_make ∈ lw_good := lw_in (i := 699) (by decide +kernel) (by decide +kernel)
theorem q700 : Cond.static yL_make ∈ lw_good := lw_in (i := 700) (by decide +kernel) (by decide +kernel)
theorem q730 : Cond.methodLink "WatermarkmillLaw" 205 yL_ream ∈ lw_good := lw_in (i := 730) (by decide +kernel) (by decide +kernel)
theorem q731 : Cond.static yL_ream ∈ lw_good := lw_in (i := 731) (by decide +kernel) (by decide +kernel)
theorem q755 : Cond.methodLink "WatermarkmillLaw" 209 yL_put ∈ lw_good := lw_in (i := 755) (by decide +kernel) (by decide +kernel)
theorem q756 : Cond.static yL_put ∈ lw_good := lw_in (i := 756) (by decide +kernel) (by decide +kernel)
theorem q787 : Cond.methodLink "WatermarkmillLaw" 212 yL_tariff ∈ lw_good := lw_in (i := 787) (by decide +kernel) (by decide +kernel)
theorem q788 : Cond.static yL_tariff ∈ lw_good := lw_in (i := 788) (by decide +kernel) (by decide +kernel)
theorem q797 : Cond.methodLink "WatermarkmillLaw" 215 yL_document ∈ lw_good := lw_in (i := 797) (by decide +kernel) (by decide +kernel)
theorem q798 : Cond.static yL_document ∈ lw_good := lw_in (i := 798) (by decide +kernel) (by decide +kernel)
theorem q853 : Cond.methodLink "WatermarkmillLaw" 218 yL_use ∈ lw_good := lw_in (i := 853) (by decide +kernel) (by decide +kernel)
theorem q854 : Cond.static yL_use ∈ lw_good := lw_in (i := 854) (by decide +kernel) (by decide +kernel)
theorem dL_law_1000 : decode cL_law 1000 = .ok (.aload_n 0, 1) := by decide +kernel
theorem dL_law_1001 : decode cL_law 1001 = .ok (.iload 5, 2) := by decide +kernel
theorem dL_law_1003 : decode cL_law 1003 = .ok (.iconst 4, 1) := by decide +kernel
theorem dL_law_1004 : decode cL_law 1004 = .ok (.iadd, 1) := by decide +kernel
theorem dL_law_1005 : decode cL_law 1005 = .ok (.iaload, 1) := by decide +kernel
theorem dL_law_1006 : decode cL_law 1006 = .ok (.aload_n 3, 1) := by decide +kernel
theorem dL_law_1007 : decode cL_law 1007 = .ok (.invokestatic 201, 3) := by decide +kernel
theorem dL_law_1010 : decode cL_law 1010 = .ok (.istore 6, 2) := by decide +kernel
theorem dL_law_1012 : decode cL_law 1012 = .ok (.aload_n 2, 1) := by decide +kernel
theorem dL_law_1013 : decode cL_law 1013 = .ok (.aload_n 0, 1) := by decide +kernel
theorem dL_law_1014 : decode cL_law 1014 = .ok (.iload 5, 2) := by decide +kernel
theorem dL_law_1016 : decode cL_law 1016 = .ok (.iconst 1, 1) := by decide +kernel
theorem dL_law_1017 : decode cL_law 1017 = .ok (.iadd, 1) := by decide +kernel
theorem dL_law_1018 : decode cL_law 1018 = .ok (.iaload, 1) := by decide +kernel
theorem dL_law_1019 : decode cL_law 1019 = .ok (.aload_n 0, 1) := by decide +kernel
theorem dL_law_1020 : decode cL_law 1020 = .ok (.iload 5, 2) := by decide +kernel
theorem dL_law_1022 : decode cL_law 1022 = .ok (.iconst 2, 1) := by decide +kernel
theorem dL_law_1023 : decode cL_law 1023 = .ok (.iadd, 1) := by decide +kernel
theorem dL_law_1024 : decode cL_law 1024 = .ok (.iaload, 1) := by decide +kernel
theorem dL_law_1025 : decode cL_law 1025 = .ok (.ifCond .eq 7, 3) := by decide +kernel
theorem dL_law_1028 : decode cL_law 1028 = .ok (.iconst 1, 1) := by decide +kernel
theorem dL_law_1029 : decode cL_law 1029 = .ok (.goto 4, 3) := by decide +kernel
theorem dL_law_1032 : decode cL_law 1032 = .ok (.iconst 0, 1) := by decide +kernel
theorem dL_law_1033 : decode cL_law 1033 = .ok (.aload_n 0, 1) := by decide +kernel
theorem dL_law_1034 : decode cL_law 1034 = .ok (.iload 5, 2) := by decide +kernel
theorem dL_law_1036 : decode cL_law 1036 = .ok (.iconst 3, 1) := by decide +kernel
theorem dL_law_1037 : decode cL_law 1037 = .ok (.iadd, 1) := by decide +kernel
theorem dL_law_1038 : decode cL_law 1038 = .ok (.iaload, 1) := by decide +kernel
theorem dL_law_1039 : decode cL_law 1039 = .ok (.aload_n 0, 1) := by decide +kernel
theorem dL_law_1040 : decode cL_law 1040 = .ok (.iload 5, 2) := by decide +kernel
theorem dL_law_1042 : decode cL_law 1042 = .ok (.iconst 4, 1) := by decide +kernel
theorem dL_law_1043 : decode cL_law 1043 = .ok (.iadd, 1) := by decide +kernel
theorem dL_law_1044 : decode cL_law 1044 = .ok (.iaload, 1) := by decide +kernel
theorem dL_law_1045 : decode cL_law 1045 = .ok (.invokevirtual 204, 3) := by decide +kernel
theorem dL_law_1048 : decode cL_law 1048 = .ok (.istore 7, 2) := by decide +kernel
theorem dL_law_1050 : decode cL_law 1050 = .ok (.aload_n 2, 1) := by decide +kernel
theorem dL_law_1051 : decode cL_law 1051 = .ok (.invokevirtual 171, 3) := by decide +kernel
theorem dL_law_1054 : decode cL_law 1054 = .ok (.iload 6, 2) := by decide +kernel
theorem dL_law_1056 : decode cL_law 1056 = .ok (.if_icmp .eq 5, 3) := by decide +kernel
theorem dL_law_1061 : decode cL_law 1061 = .ok (.iload 6, 2) := by decide +kernel
theorem dL_law_1063 : decode cL_law 1063 = .ok (.ifCond .ne 15, 3) := by decide +kernel
theorem dL_law_1078 : decode cL_law 1078 = .ok (.goto 2210, 3) := by decide +kernel
theorem dL_law_1081 : decode cL_law 1081 = .ok (.aload_n 1, 1) := by decide +kernel
theorem dL_law_1082 : decode cL_law 1082 = .ok (.aload_n 0, 1) := by decide +kernel
theorem dL_law_1083 : decode cL_law 1083 = .ok (.iload 5, 2) := by decide +kernel
theorem dL_law_1085 : decode cL_law 1085 = .ok (.iconst 1, 1) := by decide +kernel
theorem dL_law_1086 : decode cL_law 1086 = .ok (.iadd, 1) := by decide +kernel
theorem dL_law_1087 : decode cL_law 1087 = .ok (.iaload, 1) := by decide +kernel
theorem dL_law_1088 : decode cL_law 1088 = .ok (.aload_n 3, 1) := by decide +kernel
theorem dL_law_1089 : decode cL_law 1089 = .ok (.invokestatic 205, 3) := by decide +kernel
theorem dL_law_1092 : decode cL_law 1092 = .ok (.istore 6, 2) := by decide +kernel
theorem dL_law_1094 : decode cL_law 1094 = .ok (.aload_n 2, 1) := by decide +kernel
theorem dL_law_1095 : decode cL_law 1095 = .ok (.aload_n 0, 1) := by decide +kernel
theorem dL_law_1096 : decode cL_law 1096 = .ok (.iload 5, 2) := by decide +kernel
theorem dL_law_1098 : decode cL_law 1098 = .ok (.iconst 1, 1) := by decide +kernel
theorem dL_law_1099 : decode cL_law 1099 = .ok (.iadd, 1) := by decide +kernel
theorem dL_law_1100 : decode cL_law 1100 = .ok (.iaload, 1) := by decide +kernel
theorem dL_law_1101 : decode cL_law 1101 = .ok (.invokevirtual 208, 3) := by decide +kernel
theorem dL_law_1104 : decode cL_law 1104 = .ok (.istore 7, 2) := by decide +kernel
theorem dL_law_1106 : decode cL_law 1106 = .ok (.aload_n 2, 1) := by decide +kernel
theorem dL_law_1107 : decode cL_law 1107 = .ok (.invokevirtual 171, 3) := by decide +kernel
theorem dL_law_1110 : decode cL_law 1110 = .ok (.iload 6, 2) := by decide +kernel
theorem dL_law_1112 : decode cL_law 1112 = .ok (.if_icmp .eq 5, 3) := by decide +kernel
theorem dL_law_1117 : decode cL_law 1117 = .ok (.iload 6, 2) := by decide +kernel
theorem dL_law_1119 : decode cL_law 1119 = .ok (.ifCond .ne 15, 3) := by decide +kernel
theorem dL_law_1122 : decode cL_law 1122 = .ok (.aload_n 3, 1) := by decide +kernel
theorem dL_law_1123 : decode cL_law 1123 = .ok (.iconst 0, 1) := by decide +kernel
theorem dL_law_1124 : decode cL_law 1124 = .ok (.laload, 1) := by decide +kernel
theorem dL_law_1125 : decode cL_law 1125 = .ok (.iload 7, 2) := by decide +kernel
theorem dL_law_1127 : decode cL_law 1127 = .ok (.i2l, 1) := by decide +kernel
theorem dL_law_1128 : decode cL_law 1128 = .ok (.lcmp, 1) := by decide +kernel
theorem dL_law_1129 : decode cL_law 1129 = .ok (.ifCond .eq 5, 3) := by decide +kernel
theorem dL_law_1134 : decode cL_law 1134 = .ok (.goto 2154, 3) := by decide +kernel
theorem dL_law_1137 : decode cL_law 1137 = .ok (.aload_n 1, 1) := by decide +kernel
theorem dL_law_1138 : decode cL_law 1138 = .ok (.aload_n 0, 1) := by decide +kernel
theorem dL_law_1139 : decode cL_law 1139 = .ok (.iload 5, 2) := by decide +kernel
theorem dL_law_1141 : decode cL_law 1141 = .ok (.iconst 1, 1) := by decide +kernel
theorem dL_law_1142 : decode cL_law 1142 = .ok (.iadd, 1) := by decide +kernel
theorem dL_law_1143 : decode cL_law 1143 = .ok (.iaload, 1) := by decide +kernel
theorem dL_law_1144 : decode cL_law 1144 = .ok (.aload_n 0, 1) := by decide +kernel
theorem dL_law_1145 : decode cL_law 1145 = .ok (.iload 5, 2) := by decide +kernel
theorem dL_law_1147 : decode cL_law 1147 = .ok (.iconst 2, 1) := by decide +kernel
theorem dL_law_1148 : decode cL_law 1148 = .ok (.iadd, 1) := by decide +kernel
theorem dL_law_1149 : decode cL_law 1149 = .ok (.iaload, 1) := by decide +kernel
theorem dL_law_1150 : decode cL_law 1150 = .ok (.aload_n 0, 1) := by decide +kernel
theorem dL_law_1151 : decode cL_law 1151 = .ok (.iload 5, 2) := by decide +kernel
theorem dL_law_1153 : decode cL_law 1153 = .ok (.iconst 3, 1) := by decide +kernel
theorem dL_law_1154 : decode cL_law 1154 = .ok (.iadd, 1) := by decide +kernel
theorem dL_law_1155 : decode cL_law 1155 = .ok (.iaload, 1) := by decide +kernel
theorem dL_law_1156 : decode cL_law 1156 = .ok (.aload_n 3, 1) := by decide +kernel
theorem dL_law_1157 : decode cL_law 1157 = .ok (.invokestatic 209, 3) := by decide +kernel
theorem dL_law_1160 : decode cL_law 1160 = .ok (.istore 6, 2) := by decide +kernel
theorem dL_law_1162 : decode cL_law 1162 = .ok (.aload_n 2, 1) := by decide +kernel
theorem dL_law_1163 : decode cL_law 1163 = .ok (.aload_n 0, 1) := by decide +kernel
theorem dL_law_1164 : decode cL_law 1164 = .ok (.iload 5, 2) := by decide +kernel
theorem dL_law_1166 : decode cL_law 1166 = .ok (.iconst 1, 1) := by decide +kernel
theorem dL_law_1167 : decode cL_law 1167 = .ok (.iadd, 1) := by decide +kernel
theorem dL_law_1168 : decode cL_law 1168 = .ok (.iaload, 1) := by decide +kernel
theorem dL_law_1169 : decode cL_law 1169 = .ok (.aload_n 0, 1) := by decide +kernel
theorem dL_law_1170 : decode cL_law 1170 = .ok (.iload 5, 2) := by decide +kernel
theorem dL_law_1172 : decode cL_law 1172 = .ok (.iconst 2, 1) := by decide +kernel
theorem dL_law_1173 : decode cL_law 1173 = .ok (.iadd, 1) := by decide +kernel
theorem dL_law_1174 : decode cL_law 1174 = .ok (.iaload, 1) := by decide +kernel
theorem dL_law_1175 : decode cL_law 1175 = .ok (.aload_n 0, 1) := by decide +kernel
theorem dL_law_1176 : decode cL_law 1176 = .ok (.iload 5, 2) := by decide +kernel
theorem dL_law_1178 : decode cL_law 1178 = .ok (.iconst 3, 1) := by decide +kernel
theorem dL_law_1179 : decode cL_law 1179 = .ok (.iadd, 1) := by decide +kernel
theorem dL_law_1180 : decode cL_law 1180 = .ok (.iaload, 1) := by decide +kernel
theorem dL_law_1181 : decode cL_law 1181 = .ok (.invokevirtual 211, 3) := by decide +kernel
theorem dL_law_1184 : decode cL_law 1184 = .ok (.istore 7, 2) := by decide +kernel
theorem dL_law_1186 : decode cL_law 1186 = .ok (.aload_n 2, 1) := by decide +kernel
theorem dL_law_1187 : decode cL_law 1187 = .ok (.invokevirtual 171, 3) := by decide +kernel
theorem dL_law_1190 : decode cL_law 1190 = .ok (.iload 6, 2) := by decide +kernel
theorem dL_law_1192 : decode cL_law 1192 = .ok (.if_icmp .eq 5, 3) := by decide +kernel
theorem dL_law_1197 : decode cL_law 1197 = .ok (.iload 6, 2) := by decide +kernel
theorem dL_law_1199 : decode cL_law 1199 = .ok (.ifCond .ne 15, 3) := by decide +kernel
theorem dL_law_1214 : decode cL_law 1214 = .ok (.goto 2074, 3) := by decide +kernel
theorem dL_law_1217 : decode cL_law 1217 = .ok (.aload_n 1, 1) := by decide +kernel
theorem dL_law_1218 : decode cL_law 1218 = .ok (.aload_n 0, 1) := by decide +kernel
theorem dL_law_1219 : decode cL_law 1219 = .ok (.iload 5, 2) := by decide +kernel
theorem dL_law_1221 : decode cL_law 1221 = .ok (.iconst 1, 1) := by decide +kernel
theorem dL_law_1222 : decode cL_law 1222 = .ok (.iadd, 1) := by decide +kernel
theorem dL_law_1223 : decode cL_law 1223 = .ok (.iaload, 1) := by decide +kernel
theorem dL_law_1224 : decode cL_law 1224 = .ok (.aload_n 3, 1) := by decide +kernel
theorem dL_law_1225 : decode cL_law 1225 = .ok (.invokestatic 212, 3) := by decide +kernel
theorem dL_law_1228 : decode cL_law 1228 = .ok (.istore 6, 2) := by decide +kernel
theorem dL_law_1230 : decode cL_law 1230 = .ok (.aload_n 2, 1) := by decide +kernel
theorem dL_law_1231 : decode cL_law 1231 = .ok (.aload_n 0, 1) := by decide +kernel
theorem dL_law_1232 : decode cL_law 1232 = .ok (.iload 5, 2) := by decide +kernel
theorem dL_law_1234 : decode cL_law 1234 = .ok (.iconst 1, 1) := by decide +kernel
theorem dL_law_1235 : decode cL_law 1235 = .ok (.iadd, 1) := by decide +kernel
theorem dL_law_1236 : decode cL_law 1236 = .ok (.iaload, 1) := by decide +kernel
theorem dL_law_1237 : decode cL_law 1237 = .ok (.invokevirtual 214, 3) := by decide +kernel
theorem dL_law_1240 : decode cL_law 1240 = .ok (.istore 7, 2) := by decide +kernel
theorem dL_law_1242 : decode cL_law 1242 = .ok (.aload_n 2, 1) := by decide +kernel
theorem dL_law_1243 : decode cL_law 1243 = .ok (.invokevirtual 171, 3) := by decide +kernel
theorem dL_law_1246 : decode cL_law 1246 = .ok (.iload 6, 2) := by decide +kernel
theorem dL_law_1248 : decode cL_law 1248 = .ok (.if_icmp .eq 5, 3) := by decide +kernel
theorem dL_law_1253 : decode cL_law 1253 = .ok (.iload 6, 2) := by decide +kernel
theorem dL_law_1255 : decode cL_law 1255 = .ok (.ifCond .ne 15, 3) := by decide +kernel
theorem dL_law_1270 : decode cL_law 1270 = .ok (.goto 2018, 3) := by decide +kernel
theorem dL_law_1273 : decode cL_law 1273 = .ok (.aload_n 1, 1) := by decide +kernel
theorem dL_law_1274 : decode cL_law 1274 = .ok (.aload_n 0, 1) := by decide +kernel
theorem dL_law_1275 : decode cL_law 1275 = .ok (.iload 5, 2) := by decide +kernel
theorem dL_law_1277 : decode cL_law 1277 = .ok (.iconst 1, 1) := by decide +kernel
theorem dL_law_1278 : decode cL_law 1278 = .ok (.iadd, 1) := by decide +kernel
theorem dL_law_1279 : decode cL_law 1279 = .ok (.iaload, 1) := by decide +kernel
theorem dL_law_1280 : decode cL_law 1280 = .ok (.aload_n 0, 1) := by decide +kernel
theorem dL_law_1281 : decode cL_law 1281 = .ok (.iload 5, 2) := by decide +kernel
theorem dL_law_1283 : decode cL_law 1283 = .ok (.iconst 2, 1) := by decide +kernel
theorem dL_law_1284 : decode cL_law 1284 = .ok (.iadd, 1) := by decide +kernel
theorem dL_law_1285 : decode cL_law 1285 = .ok (.iaload, 1) := by decide +kernel
theorem dL_law_1286 : decode cL_law 1286 = .ok (.aload_n 3, 1) := by decide +kernel
theorem dL_law_1287 : decode cL_law 1287 = .ok (.invokestatic 215, 3) := by decide +kernel
theorem dL_law_1290 : decode cL_law 1290 = .ok (.istore 6, 2) := by decide +kernel
theorem dL_law_1292 : decode cL_law 1292 = .ok (.aload_n 2, 1) := by decide +kernel
theorem dL_law_1293 : decode cL_law 1293 = .ok (.aload_n 0, 1) := by decide +kernel
theorem dL_law_1294 : decode cL_law 1294 = .ok (.iload 5, 2) := by decide +kernel
theorem dL_law_1296 : decode cL_law 1296 = .ok (.iconst 1, 1) := by decide +kernel
theorem dL_law_1297 : decode cL_law 1297 = .ok (.iadd, 1) := by decide +kernel
theorem dL_law_1298 : decode cL_law 1298 = .ok (.iaload, 1) := by decide +kernel
theorem dL_law_1299 : decode cL_law 1299 = .ok (.aload_n 0, 1) := by decide +kernel
theorem dL_law_1300 : decode cL_law 1300 = .ok (.iload 5, 2) := by decide +kernel
theorem dL_law_1302 : decode cL_law 1302 = .ok (.iconst 2, 1) := by decide +kernel
theorem dL_law_1303 : decode cL_law 1303 = .ok (.iadd, 1) := by decide +kernel
theorem dL_law_1304 : decode cL_law 1304 = .ok (.iaload, 1) := by decide +kernel
theorem dL_law_1305 : decode cL_law 1305 = .ok (.invokevirtual 217, 3) := by decide +kernel
theorem dL_law_1308 : decode cL_law 1308 = .ok (.istore 7, 2) := by decide +kernel
theorem dL_law_1310 : decode cL_law 1310 = .ok (.aload_n 2, 1) := by decide +kernel
theorem dL_law_1311 : decode cL_law 1311 = .ok (.invokevirtual 171, 3) := by decide +kernel
theorem dL_law_1314 : decode cL_law 1314 = .ok (.iload 6, 2) := by decide +kernel
theorem dL_law_1316 : decode cL_law 1316 = .ok (.if_icmp .eq 5, 3) := by decide +kernel
theorem dL_law_1321 : decode cL_law 1321 = .ok (.iload 6, 2) := by decide +kernel
theorem dL_law_1323 : decode cL_law 1323 = .ok (.ifCond .ne 15, 3) := by decide +kernel
theorem dL_law_1326 : decode cL_law 1326 = .ok (.aload_n 3, 1) := by decide +kernel
theorem dL_law_1327 : decode cL_law 1327 = .ok (.iconst 0, 1) := by decide +kernel
theorem dL_law_1328 : decode cL_law 1328 = .ok (.laload, 1) := by decide +kernel
theorem dL_law_1329 : decode cL_law 1329 = .ok (.iload 7, 2) := by decide +kernel
theorem dL_law_1331 : decode cL_law 1331 = .ok (.i2l, 1) := by decide +kernel
theorem dL_law_1332 : decode cL_law 1332 = .ok (.lcmp, 1) := by decide +kernel
theorem dL_law_1333 : decode cL_law 1333 = .ok (.ifCond .eq 5, 3) := by decide +kernel
theorem dL_law_1338 : decode cL_law 1338 = .ok (.goto 1950, 3) := by decide +kernel
theorem dL_law_1341 : decode cL_law 1341 = .ok (.aload_n 1, 1) := by decide +kernel
theorem dL_law_1342 : decode cL_law 1342 = .ok (.aload_n 0, 1) := by decide +kernel
theorem dL_law_1343 : decode cL_law 1343 = .ok (.iload 5, 2) := by decide +kernel
theorem dL_law_1345 : decode cL_law 1345 = .ok (.iconst 1, 1) := by decide +kernel
theorem dL_law_1346 : decode cL_law 1346 = .ok (.iadd, 1) := by decide +kernel
theorem dL_law_1347 : decode cL_law 1347 = .ok (.iaload, 1) := by decide +kernel
theorem dL_law_1348 : decode cL_law 1348 = .ok (.aload_n 0, 1) := by decide +kernel
theorem dL_law_1349 : decode cL_law 1349 = .ok (.iload 5, 2) := by decide +kernel
theorem dL_law_1351 : decode cL_law 1351 = .ok (.iconst 2, 1) := by decide +kernel
theorem dL_law_1352 : decode cL_law 1352 = .ok (.iadd, 1) := by decide +kernel
theorem dL_law_1353 : decode cL_law 1353 = .ok (.iaload, 1) := by decide +kernel
theorem dL_law_1354 : decode cL_law 1354 = .ok (.aload_n 0, 1) := by decide +kernel
theorem dL_law_1355 : decode cL_law 1355 = .ok (.iload 5, 2) := by decide +kernel
theorem dL_law_1357 : decode cL_law 1357 = .ok (.iconst 3, 1) := by decide +kernel
theorem dL_law_1358 : decode cL_law 1358 = .ok (.iadd, 1) := by decide +kernel
theorem dL_law_1359 : decode cL_law 1359 = .ok (.iaload, 1) := by decide +kernel
theorem dL_law_1360 : decode cL_law 1360 = .ok (.aload_n 3, 1) := by decide +kernel
theorem dL_law_1361 : decode cL_law 1361 = .ok (.invokestatic 218, 3) := by decide +kernel
theorem dL_law_1364 : decode cL_law 1364 = .ok (.istore 6, 2) := by decide +kernel
theorem dL_law_1366 : decode cL_law 1366 = .ok (.aload_n 2, 1) := by decide +kernel
theorem dL_law_1367 : decode cL_law 1367 = .ok (.aload_n 0, 1) := by decide +kernel
theorem dL_law_1368 : decode cL_law 1368 = .ok (.iload 5, 2) := by decide +kernel
theorem dL_law_1370 : decode cL_law 1370 = .ok (.iconst 1, 1) := by decide +kernel
theorem dL_law_1371 : decode cL_law 1371 = .ok (.iadd, 1) := by decide +kernel
theorem dL_law_1372 : decode cL_law 1372 = .ok (.iaload, 1) := by decide +kernel
theorem dL_law_1373 : decode cL_law 1373 = .ok (.aload_n 0, 1) := by decide +kernel
theorem dL_law_1374 : decode cL_law 1374 = .ok (.iload 5, 2) := by decide +kernel
theorem dL_law_1376 : decode cL_law 1376 = .ok (.iconst 2, 1) := by decide +kernel
theorem dL_law_1377 : decode cL_law 1377 = .ok (.iadd, 1) := by decide +kernel
theorem dL_law_1378 : decode cL_law 1378 = .ok (.iaload, 1) := by decide +kernel
theorem dL_law_1379 : decode cL_law 1379 = .ok (.aload_n 0, 1) := by decide +kernel
theorem dL_law_1380 : decode cL_law 1380 = .ok (.iload 5, 2) := by decide +kernel
theorem dL_law_1382 : decode cL_law 1382 = .ok (.iconst 3, 1) := by decide +kernel
theorem dL_law_1383 : decode cL_law 1383 = .ok (.iadd, 1) := by decide +kernel
theorem dL_law_1384 : decode cL_law 1384 = .ok (.iaload, 1) := by decide +kernel
theorem dL_law_1385 : decode cL_law 1385 = .ok (.invokevirtual 220, 3) := by decide +kernel
theorem dL_law_1388 : decode cL_law 1388 = .ok (.istore 7, 2) := by decide +kernel
theorem dL_law_1390 : decode cL_law 1390 = .ok (.aload_n 2, 1) := by decide +kernel
theorem dL_law_1391 : decode cL_law 1391 = .ok (.invokevirtual 171, 3) := by decide +kernel
theorem dL_law_1394 : decode cL_law 1394 = .ok (.iload 6, 2) := by decide +kernel
theorem dL_law_1396 : decode cL_law 1396 = .ok (.if_icmp .eq 5, 3) := by decide +kernel
theorem dL_law_1401 : decode cL_law 1401 = .ok (.iload 6, 2) := by decide +kernel
theorem dL_law_1403 : decode cL_law 1403 = .ok (.ifCond .ne 15, 3) := by decide +kernel
theorem dL_law_1418 : decode cL_law 1418 = .ok (.goto 1870, 3) := by decide +kernel
theorem dL_law_240 : decode cL_law 240 = .ok (.aload_n 1, 1) := by decide +kernel
theorem dL_law_241 : decode cL_law 241 = .ok (.aload_n 0, 1) := by decide +kernel
theorem dL_law_242 : decode cL_law 242 = .ok (.iload 5, 2) := by decide +kernel
theorem dL_law_244 : decode cL_law 244 = .ok (.iconst 1, 1) := by decide +kernel
theorem dL_law_245 : decode cL_law 245 = .ok (.iadd, 1) := by decide +kernel
theorem dL_law_246 : decode cL_law 246 = .ok (.iaload, 1) := by decide +kernel
theorem dL_law_247 : decode cL_law 247 = .ok (.aload_n 0, 1) := by decide +kernel
theorem dL_law_248 : decode cL_law 248 = .ok (.iload 5, 2) := by decide +kernel
theorem dL_law_250 : decode cL_law 250 = .ok (.iconst 2, 1) := by decide +kernel
theorem dL_law_251 : decode cL_law 251 = .ok (.iadd, 1) := by decide +kernel
theorem dL_law_252 : decode cL_law 252 = .ok (.iaload, 1) := by decide +kernel
theorem dL_law_253 : decode cL_law 253 = .ok (.aload_n 0, 1) := by decide +kernel
theorem dL_law_254 : decode cL_law 254 = .ok (.iload 5, 2) := by decide +kernel
theorem dL_law_256 : decode cL_law 256 = .ok (.iconst 3, 1) := by decide +kernel
theorem dL_law_257 : decode cL_law 257 = .ok (.iadd, 1) := by decide +kernel
theorem dL_law_258 : decode cL_law 258 = .ok (.iaload, 1) := by decide +kernel
theorem dL_law_259 : decode cL_law 259 = .ok (.aload_n 0, 1) := by decide +kernel
theorem dL_law_260 : decode cL_law 260 = .ok (.iload 5, 2) := by decide +kernel
theorem dL_law_262 : decode cL_law 262 = .ok (.iconst 4, 1) := by decide +kernel
theorem dL_law_263 : decode cL_law 263 = .ok (.iadd, 1) := by decide +kernel
theorem dL_law_264 : decode cL_law 264 = .ok (.iaload, 1) := by decide +kernel
theorem dL_law_265 : decode cL_law 265 = .ok (.aload_n 0, 1) := by decide +kernel
theorem dL_law_266 : decode cL_law 266 = .ok (.iload 5, 2) := by decide +kernel
theorem dL_law_268 : decode cL_law 268 = .ok (.iconst 5, 1) := by decide +kernel
theorem dL_law_269 : decode cL_law 269 = .ok (.iadd, 1) := by decide +kernel
theorem dL_law_270 : decode cL_law 270 = .ok (.iaload, 1) := by decide +kernel
theorem dL_law_271 : decode cL_law 271 = .ok (.aload_n 0, 1) := by decide +kernel
theorem dL_law_272 : decode cL_law 272 = .ok (.iload 5, 2) := by decide +kernel
theorem dL_law_274 : decode cL_law 274 = .ok (.bipush 6, 2) := by decide +kernel
theorem dL_law_276 : decode cL_law 276 = .ok (.iadd, 1) := by decide +kernel
theorem dL_law_277 : decode cL_law 277 = .ok (.iaload, 1) := by decide +kernel
theorem dL_law_278 : decode cL_law 278 = .ok (.aload_n 3, 1) := by decide +kernel
theorem dL_law_279 : decode cL_law 279 = .ok (.invokestatic 165, 3) := by decide +kernel
theorem dL_law_28 : decode cL_law 28 = .ok (.iload 5, 2) := by decide +kernel
theorem dL_law_282 : decode cL_law 282 = .ok (.istore 6, 2) := by decide +kernel
theorem dL_law_284 : decode cL_law 284 = .ok (.aload_n 2, 1) := by decide +kernel
theorem dL_law_285 : decode cL_law 285 = .ok (.aload_n 0, 1) := by decide +kernel
theorem dL_law_286 : decode cL_law 286 = .ok (.iload 5, 2) := by decide +kernel
theorem dL_law_288 : decode cL_law 288 = .ok (.iconst 1, 1) := by decide +kernel
theorem dL_law_289 : decode cL_law 289 = .ok (.iadd, 1) := by decide +kernel
theorem dL_law_290 : decode cL_law 290 = .ok (.iaload, 1) := by decide +kernel
theorem dL_law_291 : decode cL_law 291 = .ok (.aload_n 0, 1) := by decide +kernel
theorem dL_law_292 : decode cL_law 292 = .ok (.iload 5, 2) := by decide +kernel
theorem dL_law_294 : decode cL_law 294 = .ok (.iconst 2, 1) := by decide +kernel
theorem dL_law_295 : decode cL_law 295 = .ok (.iadd, 1) := by decide +kernel
theorem dL_law_296 : decode cL_law 296 = .ok (.iaload, 1) := by decide +kernel
theorem dL_law_297 : decode cL_law 297 = .ok (.aload_n 0, 1) := by decide +kernel
theorem dL_law_298 : decode cL_law 298 = .ok (.iload 5, 2) := by decide +kernel
theorem dL_law_30 : decode cL_law 30 = .ok (.aload_n 0, 1) := by decide +kernel
theorem dL_law_300 : decode cL_law 300 = .ok (.iconst 3, 1) := by decide +kernel
theorem dL_law_301 : decode cL_law 301 = .ok (.iadd, 1) := by decide +kernel
theorem dL_law_302 : decode cL_law 302 = .ok (.iaload, 1) := by decide +kernel
theorem dL_law_303 : decode cL_law 303 = .ok (.aload_n 0, 1) := by decide +kernel
theorem dL_law_304 : decode cL_law 304 = .ok (.iload 5, 2) := by decide +kernel
theorem dL_law_306 : decode cL_law 306 = .ok (.iconst 4, 1) := by decide +kernel
theorem dL_law_307 : decode cL_law 307 = .ok (.iadd, 1) := by decide +kernel
theorem dL_law_308 : decode cL_law 308 = .ok (.iaload, 1) := by decide +kernel
theorem dL_law_309 : decode cL_law 309 = .ok (.aload_n 0, 1) := by decide +kernel
theorem dL_law_31 : decode cL_law 31 = .ok (.arraylength, 1) := by decide +kernel
theorem dL_law_310 : decode cL_law 310 = .ok (.iload 5, 2) := by decide +kernel
theorem dL_law_312 : decode cL_law 312 = .ok (.iconst 5, 1) := by decide +kernel
theorem dL_law_313 : decode cL_law 313 = .ok (.iadd, 1) := by decide +kernel
theorem dL_law_314 : decode cL_law 314 = .ok (.iaload, 1) := by decide +kernel
theorem dL_law_315 : decode cL_law 315 = .ok (.aload_n 0, 1) := by decide +kernel
theorem dL_law_316 : decode cL_law 316 = .ok (.iload 5, 2) := by decide +kernel
theorem dL_law_318 : decode cL_law 318 = .ok (.bipush 6, 2) := by decide +kernel
theorem dL_law_32 : decode cL_law 32 = .ok (.bipush 7, 2) := by decide +kernel
theorem dL_law_320 : decode cL_law 320 = .ok (.iadd, 1) := by decide +kernel
theorem dL_law_321 : decode cL_law 321 = .ok (.iaload, 1) := by decide +kernel
theorem dL_law_322 : decode cL_law 322 = .ok (.invokevirtual 170, 3) := by decide +kernel
theorem dL_law_325 : decode cL_law 325 = .ok (.istore 7, 2) := by decide +kernel
theorem dL_law_327 : decode cL_law 327 = .ok (.aload_n 2, 1) := by decide +kernel
theorem dL_law_328 : decode cL_law 328 = .ok (.invokevirtual 171, 3) := by decide +kernel
theorem dL_law_3288 : decode cL_law 3288 = .ok (.iinc 5 7, 3) := by decide +kernel
theorem dL_law_3291 : decode cL_law 3291 = .ok (.goto (-3263), 3) := by decide +kernel
theorem dL_law_3294 : decode cL_law 3294 = .ok (.iconst 1, 1) := by decide +kernel
theorem dL_law_3295 : decode cL_law 3295 = .ok (.ireturn, 1) := by decide +kernel
theorem dL_law_331 : decode cL_law 331 = .ok (.iload 6, 2) := by decide +kernel
theorem dL_law_333 : decode cL_law 333 = .ok (.if_icmp .eq 5, 3) := by decide +kernel
theorem dL_law_338 : decode cL_law 338 = .ok (.iload 6, 2) := by decide +kernel
theorem dL_law_34 : decode cL_law 34 = .ok (.isub, 1) := by decide +kernel
theorem dL_law_340 : decode cL_law 340 = .ok (.ifCond .ne 15, 3) := by decide +kernel
theorem dL_law_343 : decode cL_law 343 = .ok (.aload_n 3, 1) := by decide +kernel
theorem dL_law_344 : decode cL_law 344 = .ok (.iconst 0, 1) := by decide +kernel
theorem dL_law_345 : decode cL_law 345 = .ok (.laload, 1) := by decide +kernel
theorem dL_law_346 : decode cL_law 346 = .ok (.iload 7, 2) := by decide +kernel
theorem dL_law_348 : decode cL_law 348 = .ok (.i2l, 1) := by decide +kernel
theorem dL_law_349 : decode cL_law 349 = .ok (.lcmp, 1) := by decide +kernel
theorem dL_law_35 : decode cL_law 35 = .ok (.if_icmp .gt 3259, 3) := by decide +kernel
theorem dL_law_350 : decode cL_law 350 = .ok (.ifCond .eq 5, 3) := by decide +kernel
theorem dL_law_355 : decode cL_law 355 = .ok (.goto 2933, 3) := by decide +kernel
theorem dL_law_358 : decode cL_law 358 = .ok (.aload_n 1, 1) := by decide +kernel
theorem dL_law_359 : decode cL_law 359 = .ok (.aload_n 0, 1) := by decide +kernel
theorem dL_law_360 : decode cL_law 360 = .ok (.iload 5, 2) := by decide +kernel
theorem dL_law_362 : decode cL_law 362 = .ok (.iconst 1, 1) := by decide +kernel
theorem dL_law_363 : decode cL_law 363 = .ok (.iadd, 1) := by decide +kernel
theorem dL_law_364 : decode cL_law 364 = .ok (.iaload, 1) := by decide +kernel
theorem dL_law_365 : decode cL_law 365 = .ok (.aload_n 0, 1) := by decide +kernel
theorem dL_law_366 : decode cL_law 366 = .ok (.iload 5, 2) := by decide +kernel
theorem dL_law_368 : decode cL_law 368 = .ok (.iconst 2, 1) := by decide +kernel
theorem dL_law_369 : decode cL_law 369 = .ok (.iadd, 1) := by decide +kernel
theorem dL_law_370 : decode cL_law 370 = .ok (.iaload, 1) := by decide +kernel
theorem dL_law_371 : decode cL_law 371 = .ok (.aload_n 3, 1) := by decide +kernel
theorem dL_law_372 : decode cL_law 372 = .ok (.invokestatic 174, 3) := by decide +kernel
theorem dL_law_375 : decode cL_law 375 = .ok (.istore 6, 2) := by decide +kernel
theorem dL_law_377 : decode cL_law 377 = .ok (.aload_n 2, 1) := by decide +kernel
theorem dL_law_378 : decode cL_law 378 = .ok (.aload_n 0, 1) := by decide +kernel
theorem dL_law_379 : decode cL_law 379 = .ok (.iload 5, 2) := by decide +kernel
theorem dL_law_381 : decode cL_law 381 = .ok (.iconst 1, 1) := by decide +kernel
theorem dL_law_382 : decode cL_law 382 = .ok (.iadd, 1) := by decide +kernel
theorem dL_law_383 : decode cL_law 383 = .ok (.iaload, 1) := by decide +kernel
theorem dL_law_384 : decode cL_law 384 = .ok (.aload_n 0, 1) := by decide +kernel
theorem dL_law_385 : decode cL_law 385 = .ok (.iload 5, 2) := by decide +kernel
theorem dL_law_387 : decode cL_law 387 = .ok (.iconst 2, 1) := by decide +kernel
theorem dL_law_388 : decode cL_law 388 = .ok (.iadd, 1) := by decide +kernel
theorem dL_law_389 : decode cL_law 389 = .ok (.iaload, 1) := by decide +kernel
theorem dL_law_390 : decode cL_law 390 = .ok (.invokevirtual 177, 3) := by decide +kernel
theorem dL_law_393 : decode cL_law 393 = .ok (.istore 7, 2) := by decide +kernel
theorem dL_law_395 : decode cL_law 395 = .ok (.aload_n 2, 1) := by decide +kernel
theorem dL_law_396 : decode cL_law 396 = .ok (.invokevirtual 171, 3) := by decide +kernel
theorem dL_law_399 : decode cL_law 399 = .ok (.iload 6, 2) := by decide +kernel
theorem dL_law_401 : decode cL_law 401 = .ok (.if_icmp .eq 5, 3) := by decide +kernel
theorem dL_law_406 : decode cL_law 406 = .ok (.iload 6, 2) := by decide +kernel
theorem dL_law_408 : decode cL_law 408 = .ok (.ifCond .ne 15, 3) := by decide +kernel
theorem dL_law_423 : decode cL_law 423 = .ok (.goto 2865, 3) := by decide +kernel
theorem dL_law_426 : decode cL_law 426 = .ok (.aload_n 1, 1) := by decide +kernel
theorem dL_law_427 : decode cL_law 427 = .ok (.aload_n 0, 1) := by decide +kernel
theorem dL_law_428 : decode cL_law 428 = .ok (.iload 5, 2) := by decide +kernel
theorem dL_law_430 : decode cL_law 430 = .ok (.iconst 1, 1) := by decide +kernel
theorem dL_law_431 : decode cL_law 431 = .ok (.iadd, 1) := by decide +kernel
theorem dL_law_432 : decode cL_law 432 = .ok (.iaload, 1) := by decide +kernel
theorem dL_law_433 : decode cL_law 433 = .ok (.aload_n 0, 1) := by decide +kernel
theorem dL_law_434 : decode cL_law 434 = .ok (.iload 5, 2) := by decide +kernel
theorem dL_law_436 : decode cL_law 436 = .ok (.iconst 2, 1) := by decide +kernel
theorem dL_law_437 : decode cL_law 437 = .ok (.iadd, 1) := by decide +kernel
theorem dL_law_438 : decode cL_law 438 = .ok (.iaload, 1) := by decide +kernel
theorem dL_law_439 : decode cL_law 439 = .ok (.aload_n 3, 1) := by decide +kernel
theorem dL_law_440 : decode cL_law 440 = .ok (.invokestatic 178, 3) := by decide +kernel
theorem dL_law_443 : decode cL_law 443 = .ok (.istore 6, 2) := by decide +kernel
theorem dL_law_445 : decode cL_law 445 = .ok (.aload_n 2, 1) := by decide +kernel
theorem dL_law_446 : decode cL_law 446 = .ok (.aload_n 0, 1) := by decide +kernel
theorem dL_law_447 : decode cL_law 447 = .ok (.iload 5, 2) := by decide +kernel
theorem dL_law_449 : decode cL_law 449 = .ok (.iconst 1, 1) := by decide +kernel
theorem dL_law_450 : decode cL_law 450 = .ok (.iadd, 1) := by decide +kernel
theorem dL_law_451 : decode cL_law 451 = .ok (.iaload, 1) := by decide +kernel
theorem dL_law_452 : decode cL_law 452 = .ok (.aload_n 0, 1) := by decide +kernel
theorem dL_law_453 : decode cL_law 453 = .ok (.iload 5, 2) := by decide +kernel
theorem dL_law_455 : decode cL_law 455 = .ok (.iconst 2, 1) := by decide +kernel
theorem dL_law_456 : decode cL_law 456 = .ok (.iadd, 1) := by decide +kernel
theorem dL_law_457 : decode cL_law 457 = .ok (.iaload, 1) := by decide +kernel
theorem dL_law_458 : decode cL_law 458 = .ok (.invokevirtual 180, 3) := by decide +kernel
theorem dL_law_461 : decode cL_law 461 = .ok (.istore 7, 2) := by decide +kernel
theorem dL_law_463 : decode cL_law 463 = .ok (.aload_n 2, 1) := by decide +kernel
theorem dL_law_464 : decode cL_law 464 = .ok (.invokevirtual 171, 3) := by decide +kernel
theorem dL_law_467 : decode cL_law 467 = .ok (.iload 6, 2) := by decide +kernel
theorem dL_law_469 : decode cL_law 469 = .ok (.if_icmp .eq 5, 3) := by decide +kernel
theorem dL_law_474 : decode cL_law 474 = .ok (.iload 6, 2) := by decide +kernel
theorem dL_law_476 : decode cL_law 476 = .ok (.ifCond .ne 22, 3) := by decide +kernel
theorem dL_law_498 : decode cL_law 498 = .ok (.goto 2790, 3) := by decide +kernel
theorem dL_law_501 : decode cL_law 501 = .ok (.aload_n 1, 1) := by decide +kernel
theorem dL_law_502 : decode cL_law 502 = .ok (.aload_n 0, 1) := by decide +kernel
theorem dL_law_503 : decode cL_law 503 = .ok (.iload 5, 2) := by decide +kernel
theorem dL_law_505 : decode cL_law 505 = .ok (.iconst 1, 1) := by decide +kernel
theorem dL_law_506 : decode cL_law 506 = .ok (.iadd, 1) := by decide +kernel
theorem dL_law_507 : decode cL_law 507 = .ok (.iaload, 1) := by decide +kernel
theorem dL_law_508 : decode cL_law 508 = .ok (.aload_n 0, 1) := by decide +kernel
theorem dL_law_509 : decode cL_law 509 = .ok (.iload 5, 2) := by decide +kernel
theorem dL_law_511 : decode cL_law 511 = .ok (.iconst 2, 1) := by decide +kernel
theorem dL_law_512 : decode cL_law 512 = .ok (.iadd, 1) := by decide +kernel
theorem dL_law_513 : decode cL_law 513 = .ok (.iaload, 1) := by decide +kernel
theorem dL_law_514 : decode cL_law 514 = .ok (.aload_n 0, 1) := by decide +kernel
theorem dL_law_515 : decode cL_law 515 = .ok (.iload 5, 2) := by decide +kernel
theorem dL_law_517 : decode cL_law 517 = .ok (.iconst 3, 1) := by decide +kernel
theorem dL_law_518 : decode cL_law 518 = .ok (.iadd, 1) := by decide +kernel
theorem dL_law_519 : decode cL_law 519 = .ok (.iaload, 1) := by decide +kernel
theorem dL_law_520 : decode cL_law 520 = .ok (.ifCond .eq 7, 3) := by decide +kernel
theorem dL_law_523 : decode cL_law 523 = .ok (.iconst 1, 1) := by decide +kernel
theorem dL_law_524 : decode cL_law 524 = .ok (.goto 4, 3) := by decide +kernel
theorem dL_law_527 : decode cL_law 527 = .ok (.iconst 0, 1) := by decide +kernel
theorem dL_law_528 : decode cL_law 528 = .ok (.aload_n 0, 1) := by decide +kernel
theorem dL_law_529 : decode cL_law 529 = .ok (.iload 5, 2) := by decide +kernel
theorem dL_law_531 : decode cL_law 531 = .ok (.iconst 4, 1) := by decide +kernel
theorem dL_law_532 : decode cL_law 532 = .ok (.iadd, 1) := by decide +kernel
theorem dL_law_533 : decode cL_law 533 = .ok (.iaload, 1) := by decide +kernel
theorem dL_law_534 : decode cL_law 534 = .ok (.aload_n 3, 1) := by decide +kernel
theorem dL_law_535 : decode cL_law 535 = .ok (.invokestatic 181, 3) := by decide +kernel
theorem dL_law_538 : decode cL_law 538 = .ok (.istore 6, 2) := by decide +kernel
theorem dL_law_540 : decode cL_law 540 = .ok (.aload_n 2, 1) := by decide +kernel
theorem dL_law_541 : decode cL_law 541 = .ok (.aload_n 0, 1) := by decide +kernel
theorem dL_law_542 : decode cL_law 542 = .ok (.iload 5, 2) := by decide +kernel
theorem dL_law_544 : decode cL_law 544 = .ok (.iconst 1, 1) := by decide +kernel
theorem dL_law_545 : decode cL_law 545 = .ok (.iadd, 1) := by decide +kernel
theorem dL_law_546 : decode cL_law 546 = .ok (.iaload, 1) := by decide +kernel
theorem dL_law_547 : decode cL_law 547 = .ok (.aload_n 0, 1) := by decide +kernel
theorem dL_law_548 : decode cL_law 548 = .ok (.iload 5, 2) := by decide +kernel
theorem dL_law_550 : decode cL_law 550 = .ok (.iconst 2, 1) := by decide +kernel
theorem dL_law_551 : decode cL_law 551 = .ok (.iadd, 1) := by decide +kernel
theorem dL_law_552 : decode cL_law 552 = .ok (.iaload, 1) := by decide +kernel
theorem dL_law_553 : decode cL_law 553 = .ok (.aload_n 0, 1) := by decide +kernel
theorem dL_law_554 : decode cL_law 554 = .ok (.iload 5, 2) := by decide +kernel
theorem dL_law_556 : decode cL_law 556 = .ok (.iconst 3, 1) := by decide +kernel
theorem dL_law_557 : decode cL_law 557 = .ok (.iadd, 1) := by decide +kernel
theorem dL_law_558 : decode cL_law 558 = .ok (.iaload, 1) := by decide +kernel
theorem dL_law_559 : decode cL_law 559 = .ok (.ifCond .eq 7, 3) := by decide +kernel
theorem dL_law_562 : decode cL_law 562 = .ok (.iconst 1, 1) := by decide +kernel
theorem dL_law_563 : decode cL_law 563 = .ok (.goto 4, 3) := by decide +kernel
theorem dL_law_566 : decode cL_law 566 = .ok (.iconst 0, 1) := by decide +kernel
theorem dL_law_567 : decode cL_law 567 = .ok (.aload_n 0, 1) := by decide +kernel
theorem dL_law_568 : decode cL_law 568 = .ok (.iload 5, 2) := by decide +kernel
theorem dL_law_570 : decode cL_law 570 = .ok (.iconst 4, 1) := by decide +kernel
theorem dL_law_571 : decode cL_law 571 = .ok (.iadd, 1) := by decide +kernel
theorem dL_law_572 : decode cL_law 572 = .ok (.iaload, 1) := by decide +kernel
theorem dL_law_573 : decode cL_law 573 = .ok (.invokevirtual 184, 3) := by decide +kernel
theorem dL_law_576 : decode cL_law 576 = .ok (.istore 7, 2) := by decide +kernel
theorem dL_law_578 : decode cL_law 578 = .ok (.aload_n 2, 1) := by decide +kernel
theorem dL_law_579 : decode cL_law 579 = .ok (.invokevirtual 171, 3) := by decide +kernel
theorem dL_law_582 : decode cL_law 582 = .ok (.iload 6, 2) := by decide +kernel
theorem dL_law_584 : decode cL_law 584 = .ok (.if_icmp .eq 5, 3) := by decide +kernel
theorem dL_law_589 : decode cL_law 589 = .ok (.iload 6, 2) := by decide +kernel
theorem dL_law_591 : decode cL_law 591 = .ok (.ifCond .ne 15, 3) := by decide +kernel
theorem dL_law_606 : decode cL_law 606 = .ok (.goto 2682, 3) := by decide +kernel
theorem dL_law_609 : decode cL_law 609 = .ok (.aload_n 1, 1) := by decide +kernel
theorem dL_law_610 : decode cL_law 610 = .ok (.aload_n 0, 1) := by decide +kernel
theorem dL_law_611 : decode cL_law 611 = .ok (.iload 5, 2) := by decide +kernel
theorem dL_law_613 : decode cL_law 613 = .ok (.iconst 1, 1) := by decide +kernel
theorem dL_law_614 : decode cL_law 614 = .ok (.iadd, 1) := by decide +kernel
theorem dL_law_615 : decode cL_law 615 = .ok (.iaload, 1) := by decide +kernel
theorem dL_law_616 : decode cL_law 616 = .ok (.aload_n 0, 1) := by decide +kernel
theorem dL_law_617 : decode cL_law 617 = .ok (.iload 5, 2) := by decide +kernel
theorem dL_law_619 : decode cL_law 619 = .ok (.iconst 2, 1) := by decide +kernel
theorem dL_law_620 : decode cL_law 620 = .ok (.iadd, 1) := by decide +kernel
theorem dL_law_621 : decode cL_law 621 = .ok (.iaload, 1) := by decide +kernel
theorem dL_law_622 : decode cL_law 622 = .ok (.aload_n 3, 1) := by decide +kernel
theorem dL_law_623 : decode cL_law 623 = .ok (.invokestatic 185, 3) := by decide +kernel
theorem dL_law_626 : decode cL_law 626 = .ok (.istore 6, 2) := by decide +kernel
theorem dL_law_628 : decode cL_law 628 = .ok (.aload_n 2, 1) := by decide +kernel
theorem dL_law_629 : decode cL_law 629 = .ok (.aload_n 0, 1) := by decide +kernel
theorem dL_law_630 : decode cL_law 630 = .ok (.iload 5, 2) := by decide +kernel
theorem dL_law_632 : decode cL_law 632 = .ok (.iconst 1, 1) := by decide +kernel
theorem dL_law_633 : decode cL_law 633 = .ok (.iadd, 1) := by decide +kernel
theorem dL_law_634 : decode cL_law 634 = .ok (.iaload, 1) := by decide +kernel
theorem dL_law_635 : decode cL_law 635 = .ok (.aload_n 0, 1) := by decide +kernel
theorem dL_law_636 : decode cL_law 636 = .ok (.iload 5, 2) := by decide +kernel
theorem dL_law_638 : decode cL_law 638 = .ok (.iconst 2, 1) := by decide +kernel
theorem dL_law_639 : decode cL_law 639 = .ok (.iadd, 1) := by decide +kernel
theorem dL_law_640 : decode cL_law 640 = .ok (.iaload, 1) := by decide +kernel
theorem dL_law_641 : decode cL_law 641 = .ok (.invokevirtual 187, 3) := by decide +kernel
theorem dL_law_644 : decode cL_law 644 = .ok (.istore 7, 2) := by decide +kernel
theorem dL_law_646 : decode cL_law 646 = .ok (.aload_n 2, 1) := by decide +kernel
theorem dL_law_647 : decode cL_law 647 = .ok (.invokevirtual 171, 3) := by decide +kernel
theorem dL_law_650 : decode cL_law 650 = .ok (.iload 6, 2) := by decide +kernel
theorem dL_law_652 : decode cL_law 652 = .ok (.if_icmp .eq 5, 3) := by decide +kernel
theorem dL_law_657 : decode cL_law 657 = .ok (.iload 6, 2) := by decide +kernel
theorem dL_law_659 : decode cL_law 659 = .ok (.ifCond .ne 15, 3) := by decide +kernel
theorem dL_law_674 : decode cL_law 674 = .ok (.goto 2614, 3) := by decide +kernel
theorem dL_law_677 : decode cL_law 677 = .ok (.aload_n 1, 1) := by decide +kernel
theorem dL_law_678 : decode cL_law 678 = .ok (.aload_n 0, 1) := by decide +kernel
theorem dL_law_679 : decode cL_law 679 = .ok (.iload 5, 2) := by decide +kernel
theorem dL_law_681 : decode cL_law 681 = .ok (.iconst 1, 1) := by decide +kernel
theorem dL_law_682 : decode cL_law 682 = .ok (.iadd, 1) := by decide +kernel
theorem dL_law_683 : decode cL_law 683 = .ok (.iaload, 1) := by decide +kernel
theorem dL_law_684 : decode cL_law 684 = .ok (.aload_n 0, 1) := by decide +kernel
theorem dL_law_685 : decode cL_law 685 = .ok (.iload 5, 2) := by decide +kernel
theorem dL_law_687 : decode cL_law 687 = .ok (.iconst 2, 1) := by decide +kernel
theorem dL_law_688 : decode cL_law 688 = .ok (.iadd, 1) := by decide +kernel
theorem dL_law_689 : decode cL_law 689 = .ok (.iaload, 1) := by decide +kernel
theorem dL_law_690 : decode cL_law 690 = .ok (.aload_n 0, 1) := by decide +kernel
theorem dL_law_691 : decode cL_law 691 = .ok (.iload 5, 2) := by decide +kernel
theorem dL_law_693 : decode cL_law 693 = .ok (.iconst 3, 1) := by decide +kernel
theorem dL_law_694 : decode cL_law 694 = .ok (.iadd, 1) := by decide +kernel
theorem dL_law_695 : decode cL_law 695 = .ok (.iaload, 1) := by decide +kernel
theorem dL_law_696 : decode cL_law 696 = .ok (.aload_n 3, 1) := by decide +kernel
theorem dL_law_697 : decode cL_law 697 = .ok (.invokestatic 188, 3) := by decide +kernel
theorem dL_law_700 : decode cL_law 700 = .ok (.istore 6, 2) := by decide +kernel
theorem dL_law_702 : decode cL_law 702 = .ok (.aload_n 2, 1) := by decide +kernel
theorem dL_law_703 : decode cL_law 703 = .ok (.aload_n 0, 1) := by decide +kernel
theorem dL_law_704 : decode cL_law 704 = .ok (.iload 5, 2) := by decide +kernel
theorem dL_law_706 : decode cL_law 706 = .ok (.iconst 1, 1) := by decide +kernel
theorem dL_law_707 : decode cL_law 707 = .ok (.iadd, 1) := by decide +kernel
theorem dL_law_708 : decode cL_law 708 = .ok (.iaload, 1) := by decide +kernel
theorem dL_law_709 : decode cL_law 709 = .ok (.aload_n 0, 1) := by decide +kernel
theorem dL_law_710 : decode cL_law 710 = .ok (.iload 5, 2) := by decide +kernel
theorem dL_law_712 : decode cL_law 712 = .ok (.iconst 2, 1) := by decide +kernel
theorem dL_law_713 : decode cL_law 713 = .ok (.iadd, 1) := by decide +kernel
theorem dL_law_714 : decode cL_law 714 = .ok (.iaload, 1) := by decide +kernel
theorem dL_law_715 : decode cL_law 715 = .ok (.aload_n 0, 1) := by decide +kernel
theorem dL_law_716 : decode cL_law 716 = .ok (.iload 5, 2) := by decide +kernel
theorem dL_law_718 : decode cL_law 718 = .ok (.iconst 3, 1) := by decide +kernel
theorem dL_law_719 : decode cL_law 719 = .ok (.iadd, 1) := by decide +kernel
theorem dL_law_720 : decode cL_law 720 = .ok (.iaload, 1) := by decide +kernel
theorem dL_law_721 : decode cL_law 721 = .ok (.invokevirtual 191, 3) := by decide +kernel
theorem dL_law_724 : decode cL_law 724 = .ok (.istore 7, 2) := by decide +kernel
theorem dL_law_726 : decode cL_law 726 = .ok (.aload_n 2, 1) := by decide +kernel
theorem dL_law_727 : decode cL_law 727 = .ok (.invokevirtual 171, 3) := by decide +kernel
theorem dL_law_730 : decode cL_law 730 = .ok (.iload 6, 2) := by decide +kernel
theorem dL_law_732 : decode cL_law 732 = .ok (.if_icmp .eq 5, 3) := by decide +kernel
theorem dL_law_737 : decode cL_law 737 = .ok (.iload 6, 2) := by decide +kernel
theorem dL_law_739 : decode cL_law 739 = .ok (.ifCond .ne 15, 3) := by decide +kernel
theorem dL_law_754 : decode cL_law 754 = .ok (.goto 2534, 3) := by decide +kernel
theorem dL_law_757 : decode cL_law 757 = .ok (.aload_n 1, 1) := by decide +kernel
theorem dL_law_758 : decode cL_law 758 = .ok (.aload_n 0, 1) := by decide +kernel
theorem dL_law_759 : decode cL_law 759 = .ok (.iload 5, 2) := by decide +kernel
theorem dL_law_761 : decode cL_law 761 = .ok (.iconst 1, 1) := by decide +kernel
theorem dL_law_762 : decode cL_law 762 = .ok (.iadd, 1) := by decide +kernel
theorem dL_law_763 : decode cL_law 763 = .ok (.iaload, 1) := by decide +kernel
theorem dL_law_764 : decode cL_law 764 = .ok (.aload_n 0, 1) := by decide +kernel
theorem dL_law_765 : decode cL_law 765 = .ok (.iload 5, 2) := by decide +kernel
theorem dL_law_767 : decode cL_law 767 = .ok (.iconst 2, 1) := by decide +kernel
theorem dL_law_768 : decode cL_law 768 = .ok (.iadd, 1) := by decide +kernel
theorem dL_law_769 : decode cL_law 769 = .ok (.iaload, 1) := by decide +kernel
theorem dL_law_770 : decode cL_law 770 = .ok (.aload_n 3, 1) := by decide +kernel
theorem dL_law_771 : decode cL_law 771 = .ok (.invokestatic 192, 3) := by decide +kernel
theorem dL_law_774 : decode cL_law 774 = .ok (.istore 6, 2) := by decide +kernel
theorem dL_law_776 : decode cL_law 776 = .ok (.aload_n 2, 1) := by decide +kernel
theorem dL_law_777 : decode cL_law 777 = .ok (.aload_n 0, 1) := by decide +kernel
theorem dL_law_778 : decode cL_law 778 = .ok (.iload 5, 2) := by decide +kernel
theorem dL_law_780 : decode cL_law 780 = .ok (.iconst 1, 1) := by decide +kernel
theorem dL_law_781 : decode cL_law 781 = .ok (.iadd, 1) := by decide +kernel
theorem dL_law_782 : decode cL_law 782 = .ok (.iaload, 1) := by decide +kernel
theorem dL_law_783 : decode cL_law 783 = .ok (.aload_n 0, 1) := by decide +kernel
theorem dL_law_784 : decode cL_law 784 = .ok (.iload 5, 2) := by decide +kernel
theorem dL_law_786 : decode cL_law 786 = .ok (.iconst 2, 1) := by decide +kernel
theorem dL_law_787 : decode cL_law 787 = .ok (.iadd, 1) := by decide +kernel
theorem dL_law_788 : decode cL_law 788 = .ok (.iaload, 1) := by decide +kernel
theorem dL_law_789 : decode cL_law 789 = .ok (.invokevirtual 194, 3) := by decide +kernel
theorem dL_law_792 : decode cL_law 792 = .ok (.istore 7, 2) := by decide +kernel
theorem dL_law_794 : decode cL_law 794 = .ok (.aload_n 2, 1) := by decide +kernel
theorem dL_law_795 : decode cL_law 795 = .ok (.invokevirtual 171, 3) := by decide +kernel
theorem dL_law_798 : decode cL_law 798 = .ok (.iload 6, 2) := by decide +kernel
theorem dL_law_800 : decode cL_law 800 = .ok (.if_icmp .eq 5, 3) := by decide +kernel
theorem dL_law_805 : decode cL_law 805 = .ok (.iload 6, 2) := by decide +kernel
theorem dL_law_807 : decode cL_law 807 = .ok (.ifCond .ne 15, 3) := by decide +kernel
theorem dL_law_822 : decode cL_law 822 = .ok (.goto 2466, 3) := by decide +kernel
theorem dL_law_825 : decode cL_law 825 = .ok (.aload_n 1, 1) := by decide +kernel
theorem dL_law_826 : decode cL_law 826 = .ok (.aload_n 0, 1) := by decide +kernel
theorem dL_law_827 : decode cL_law 827 = .ok (.iload 5, 2) := by decide +kernel
theorem dL_law_829 : decode cL_law 829 = .ok (.iconst 1, 1) := by decide +kernel
theorem dL_law_830 : decode cL_law 830 = .ok (.iadd, 1) := by decide +kernel
theorem dL_law_831 : decode cL_law 831 = .ok (.iaload, 1) := by decide +kernel
theorem dL_law_832 : decode cL_law 832 = .ok (.aload_n 0, 1) := by decide +kernel
theorem dL_law_833 : decode cL_law 833 = .ok (.iload 5, 2) := by decide +kernel
theorem dL_law_835 : decode cL_law 835 = .ok (.iconst 2, 1) := by decide +kernel
theorem dL_law_836 : decode cL_law 836 = .ok (.iadd, 1) := by decide +kernel
theorem dL_law_837 : decode cL_law 837 = .ok (.iaload, 1) := by decide +kernel
theorem dL_law_838 : decode cL_law 838 = .ok (.aload_n 3, 1) := by decide +kernel
theorem dL_law_839 : decode cL_law 839 = .ok (.invokestatic 195, 3) := by decide +kernel
theorem dL_law_842 : decode cL_law 842 = .ok (.istore 6, 2) := by decide +kernel
theorem dL_law_844 : decode cL_law 844 = .ok (.aload_n 2, 1) := by decide +kernel
theorem dL_law_845 : decode cL_law 845 = .ok (.aload_n 0, 1) := by decide +kernel
theorem dL_law_846 : decode cL_law 846 = .ok (.iload 5, 2) := by decide +kernel
theorem dL_law_848 : decode cL_law 848 = .ok (.iconst 1, 1) := by decide +kernel
theorem dL_law_849 : decode cL_law 849 = .ok (.iadd, 1) := by decide +kernel
theorem dL_law_850 : decode cL_law 850 = .ok (.iaload, 1) := by decide +kernel
theorem dL_law_851 : decode cL_law 851 = .ok (.aload_n 0, 1) := by decide +kernel
theorem dL_law_852 : decode cL_law 852 = .ok (.iload 5, 2) := by decide +kernel
theorem dL_law_854 : decode cL_law 854 = .ok (.iconst 2, 1) := by decide +kernel
theorem dL_law_855 : decode cL_law 855 = .ok (.iadd, 1) := by decide +kernel
theorem dL_law_856 : decode cL_law 856 = .ok (.iaload, 1) := by decide +kernel
theorem dL_law_857 : decode cL_law 857 = .ok (.invokevirtual 197, 3) := by decide +kernel
theorem dL_law_860 : decode cL_law 860 = .ok (.istore 7, 2) := by decide +kernel
theorem dL_law_862 : decode cL_law 862 = .ok (.aload_n 2, 1) := by decide +kernel
theorem dL_law_863 : decode cL_law 863 = .ok (.invokevirtual 171, 3) := by decide +kernel
theorem dL_law_866 : decode cL_law 866 = .ok (.iload 6, 2) := by decide +kernel
theorem dL_law_868 : decode cL_law 868 = .ok (.if_icmp .eq 5, 3) := by decide +kernel
theorem dL_law_873 : decode cL_law 873 = .ok (.iload 6, 2) := by decide +kernel
theorem dL_law_875 : decode cL_law 875 = .ok (.ifCond .ne 15, 3) := by decide +kernel
theorem dL_law_890 : decode cL_law 890 = .ok (.goto 2398, 3) := by decide +kernel
theorem dL_law_893 : decode cL_law 893 = .ok (.aload_n 1, 1) := by decide +kernel
theorem dL_law_894 : decode cL_law 894 = .ok (.aload_n 0, 1) := by decide +kernel
theorem dL_law_895 : decode cL_law 895 = .ok (.iload 5, 2) := by decide +kernel
theorem dL_law_897 : decode cL_law 897 = .ok (.iconst 1, 1) := by decide +kernel
theorem dL_law_898 : decode cL_law 898 = .ok (.iadd, 1) := by decide +kernel
theorem dL_law_899 : decode cL_law 899 = .ok (.iaload, 1) := by decide +kernel
theorem dL_law_900 : decode cL_law 900 = .ok (.aload_n 0, 1) := by decide +kernel
theorem dL_law_901 : decode cL_law 901 = .ok (.iload 5, 2) := by decide +kernel
theorem dL_law_903 : decode cL_law 903 = .ok (.iconst 2, 1) := by decide +kernel
theorem dL_law_904 : decode cL_law 904 = .ok (.iadd, 1) := by decide +kernel
theorem dL_law_905 : decode cL_law 905 = .ok (.iaload, 1) := by decide +kernel
theorem dL_law_906 : decode cL_law 906 = .ok (.aload_n 0, 1) := by decide +kernel
theorem dL_law_907 : decode cL_law 907 = .ok (.iload 5, 2) := by decide +kernel
theorem dL_law_909 : decode cL_law 909 = .ok (.iconst 3, 1) := by decide +kernel
theorem dL_law_910 : decode cL_law 910 = .ok (.iadd, 1) := by decide +kernel
theorem dL_law_911 : decode cL_law 911 = .ok (.iaload, 1) := by decide +kernel
theorem dL_law_912 : decode cL_law 912 = .ok (.aload_n 3, 1) := by decide +kernel
theorem dL_law_913 : decode cL_law 913 = .ok (.invokestatic 198, 3) := by decide +kernel
theorem dL_law_916 : decode cL_law 916 = .ok (.istore 6, 2) := by decide +kernel
theorem dL_law_918 : decode cL_law 918 = .ok (.aload_n 2, 1) := by decide +kernel
theorem dL_law_919 : decode cL_law 919 = .ok (.aload_n 0, 1) := by decide +kernel
theorem dL_law_920 : decode cL_law 920 = .ok (.iload 5, 2) := by decide +kernel
theorem dL_law_922 : decode cL_law 922 = .ok (.iconst 1, 1) := by decide +kernel
theorem dL_law_923 : decode cL_law 923 = .ok (.iadd, 1) := by decide +kernel
theorem dL_law_924 : decode cL_law 924 = .ok (.iaload, 1) := by decide +kernel
theorem dL_law_925 : decode cL_law 925 = .ok (.aload_n 0, 1) := by decide +kernel
theorem dL_law_926 : decode cL_law 926 = .ok (.iload 5, 2) := by decide +kernel
theorem dL_law_928 : decode cL_law 928 = .ok (.iconst 2, 1) := by decide +kernel
theorem dL_law_929 : decode cL_law 929 = .ok (.iadd, 1) := by decide +kernel
theorem dL_law_930 : decode cL_law 930 = .ok (.iaload, 1) := by decide +kernel
theorem dL_law_931 : decode cL_law 931 = .ok (.aload_n 0, 1) := by decide +kernel
theorem dL_law_932 : decode cL_law 932 = .ok (.iload 5, 2) := by decide +kernel
theorem dL_law_934 : decode cL_law 934 = .ok (.iconst 3, 1) := by decide +kernel
theorem dL_law_935 : decode cL_law 935 = .ok (.iadd, 1) := by decide +kernel
theorem dL_law_936 : decode cL_law 936 = .ok (.iaload, 1) := by decide +kernel
theorem dL_law_937 : decode cL_law 937 = .ok (.invokevirtual 200, 3) := by decide +kernel
theorem dL_law_940 : decode cL_law 940 = .ok (.istore 7, 2) := by decide +kernel
theorem dL_law_942 : decode cL_law 942 = .ok (.aload_n 2, 1) := by decide +kernel
theorem dL_law_943 : decode cL_law 943 = .ok (.invokevirtual 171, 3) := by decide +kernel
theorem dL_law_946 : decode cL_law 946 = .ok (.iload 6, 2) := by decide +kernel
theorem dL_law_948 : decode cL_law 948 = .ok (.if_icmp .eq 5, 3) := by decide +kernel
theorem dL_law_953 : decode cL_law 953 = .ok (.iload 6, 2) := by decide +kernel
theorem dL_law_955 : decode cL_law 955 = .ok (.ifCond .ne 15, 3) := by decide +kernel
theorem dL_law_970 : decode cL_law 970 = .ok (.goto 2318, 3) := by decide +kernel
theorem dL_law_973 : decode cL_law 973 = .ok (.aload_n 1, 1) := by decide +kernel
theorem dL_law_974 : decode cL_law 974 = .ok (.aload_n 0, 1) := by decide +kernel
theorem dL_law_975 : decode cL_law 975 = .ok (.iload 5, 2) := by decide +kernel
theorem dL_law_977 : decode cL_law 977 = .ok (.iconst 1, 1) := by decide +kernel
theorem dL_law_978 : decode cL_law 978 = .ok (.iadd, 1) := by decide +kernel
theorem dL_law_979 : decode cL_law 979 = .ok (.iaload, 1) := by decide +kernel
theorem dL_law_980 : decode cL_law 980 = .ok (.aload_n 0, 1) := by decide +kernel
theorem dL_law_981 : decode cL_law 981 = .ok (.iload 5, 2) := by decide +kernel
theorem dL_law_983 : decode cL_law 983 = .ok (.iconst 2, 1) := by decide +kernel
theorem dL_law_984 : decode cL_law 984 = .ok (.iadd, 1) := by decide +kernel
theorem dL_law_985 : decode cL_law 985 = .ok (.iaload, 1) := by decide +kernel
theorem dL_law_986 : decode cL_law 986 = .ok (.ifCond .eq 7, 3) := by decide +kernel
theorem dL_law_989 : decode cL_law 989 = .ok (.iconst 1, 1) := by decide +kernel
theorem dL_law_990 : decode cL_law 990 = .ok (.goto 4, 3) := by decide +kernel
theorem dL_law_993 : decode cL_law 993 = .ok (.iconst 0, 1) := by decide +kernel
theorem dL_law_994 : decode cL_law 994 = .ok (.aload_n 0, 1) := by decide +kernel
theorem dL_law_995 : decode cL_law 995 = .ok (.iload 5, 2) := by decide +kernel
theorem dL_law_997 : decode cL_law 997 = .ok (.iconst 3, 1) := by decide +kernel
theorem dL_law_998 : decode cL_law 998 = .ok (.iadd, 1) := by decide +kernel
theorem dL_law_999 : decode cL_law 999 = .ok (.iaload, 1) := by decide +kernel
theorem z_cmp {x y : Int64} (h : x = y) : lg_cmp x y = 0 := by
  subst h
  simp [lg_cmp]
theorem lw_sub_good {s : State} {a : Array Value} (h : ∀ w ∈ lw_tbl, w.before a s = true) : ∀ w ∈ lw_good, w.before a s = true := fun w hw => h w (List.mem_filter.mp hw).1
abbrev lw_hd : Cond := Cond.initialized "WatermarkmillLaw"
set_option maxHeartbeats 4000000 in
set_option maxRecDepth 100000 in
/-- the end of the round, and of the law: 7 ints are read -/
theorem law_tail {p : Program} {l : Launch} {e : Env} {s : State} {m : MethodId} {below : List Frame} {meth : Method} {c : Code} {b : Nat} {xs : Nat → Int32} (hfl : l.stackTraces = false) (C0 : lw_At p s m meth c b 7 xs) {A : Nat → Prop} (hA : ∀ q : Nat, s.heap.size ≤ q → A q) (hA2 : ∀ q : Nat, A q → s.heap.size ≤ q) {H : Heap} {locs : List Loc} (hS : va_S A s.heap H locs) {ls : Array Slot} (hl : lv_has ls 9 [(0, .ref b), (5, .int 0)]) {k n : Nat} (hk : k ≤ 600006) (hn : n ≤ 7302008) : W p l e room_1 s m #[Value.ref b] below meth c H locs k n (lw_Z below #[Value.ref b] s) (F0 m 3288 ls []) := by
  obtain ⟨hx, hb, hr, hml, hown, hts0, hX, hbl, hlocks, hgv⟩ := C0
  have hg := lw_sub_good hts0
  have hts : ∀ w ∈ (lw_hd :: lw_good), w.before #[Value.ref b] s = true := fun w h => (List.mem_cons.mp h).elim (fun e9 => e9 ▸ hg _ q0) (hg w)
  have hbA : ¬ A b := fun h => Nat.not_le.mpr hbl (hA2 b h)
  refine lv_iinc (v := 7) (lv' := [(5, .int 7), (0, .ref b)]) hx hb dL_law_3288 hl (k := 1) rfl rfl (by decide) rfl (fun ls hl => ?_)
  refine lv_goto (tgt := 28) hx hb dL_law_3291 (by decide) ?_
  refine lv_iload hx hb dL_law_28 (lv_at hl 0 rfl) ?_
  refine lv_aload_n hx hb dL_law_30 rfl (lv_at hl 1 rfl) ?_
  refine va_slen hx hb hX hbl hbA hS dL_law_31 ?_
  refine lv_topi (fun f_1 ef_1 => ?_)
  obtain rfl : f_1 = 7 := ef_1.trans (by decide)
  refine lv_bipush (v := 7) hx hb dL_law_32 (by decide) ?_
  refine lv_isub hx hb dL_law_34 ?_
  refine lv_topi (fun f_2 ef_2 => ?_)
  obtain rfl : f_2 = 0 := ef_2.trans (by decide)
  refine lv_icmp_gt (tgt := 3294) hx hb dL_law_35 (by decide) (fun c_3 => ?_) (fun c_3 => absurd (by decide) c_3)
  refine lv_iconst (v := 1) hx hb dL_law_3294 (by decide) ?_
  refine va_forget (fun q hq => hA2 _ (hS.2.2 q hq)) ?_
  refine W.widen (k := 600006) (n := 7302008) hk hn ?_
  refine W.base ?_
  exact lw_ret (Drawn.sameBut.refl s.drawn lw_cs) hx hb hr hlocks dL_law_3295
set_option maxHeartbeats 8000000 in
set_option maxRecDepth 100000 in
/-- script value 0 -/
theorem law_case_0 {p : Program} {l : Launch} {e : Env} {s : State} {m : MethodId} {below : List Frame} {meth : Method} {c : Code} {b : Nat} {xs : Nat → Int32} (hfl : l.stackTraces = false) (C0 : lw_At p s m meth c b 7 xs) {A : Nat → Prop} (hA : ∀ q : Nat, s.heap.size ≤ q → A q) (hA2 : ∀ q : Nat, A q → s.heap.size ≤ q) (G : va_G) (z : Nat) (hG : zG z A s s.heap) (x0 : Nat) (y0 : Nat) (o1 : Nat) (o2 : Nat) (cyL : ClassId) (cyD : ClassId) (a1 : Nat) (a2 : Nat) (a3 : Nat) (a4 : Nat) (a5 : Nat) (a6 : Nat) (a7 : Nat) (a8 : Nat) (b1 : Nat) (b2 : Nat) (b3 : Nat) (cyA : ClassId) (cyJ : ClassId) (cyT : ClassId) (d1 : Nat) (d2 : Nat) (d3 : Nat) (d4 : Nat) (cyO : ClassId) (fS : Nat → Option Nat) (cyI : ClassId) (r0 : Nat) (l1 : Nat) (l2 : Nat) (l3 : Nat) (l4 : Nat) (l5 : Nat) (l6 : Nat) (m1 : Nat) (m2 : Nat) (m3 : Nat) (m4 : Nat) (m5 : Nat) (m6 : Nat) (hf0 : fS 0 = some r0) {H : Heap} {locs : List Loc} (hP : va_P G vwCl ([(x0, .inr (12, [.ref a1, .ref a2, .ref a3, .ref a4, .ref a5, .ref a6, .ref a7, .ref a8, .int 3, .int 0])), (a1, .inr (3, [.int 0, .ref z, .int 0])), (a2, .inr (3, [.int 0, .ref z, .int 0])), (a3, .inr (3, [.int 0, .ref z, .int 0])), (a4, .inr (3, [.int 0, .ref z, .int 0])), (a5, .inr (3, [.int 0, .ref z, .int 0])), (a6, .inr (10, [.ref b1, .ref b2, .ref b3, .int 0])), (b1, .inl (cyA, 400, .inl (nI))), (b2, .inl (cyJ, 512, .inl (fun _ => 0))), (b3, .inl (cyT, 400, .inl (fun _ => 0))), (a7, .inr (4, [.ref d1, .ref d2, .ref d3, .ref d4, .int 0, .int 12])), (d4, .inl (cyO, 20, .inr (.inr (.inr (.inr (fS)))))), (r0, .inl (cyI, 20, .inl (fun _ => 0))), (y0, .inr (18, [.int 0, .ref l1, .ref l2, .ref l3, .ref l4, .ref l5, .ref l6, .int 0, .int 3, .int 12, .ref m1, .ref m2, .ref m3, .ref m4, .ref m5, .ref m6])), (l1, .inr (3, [.int 0, .ref z, .int 0])), (l2, .inr (3, [.int 0, .ref z, .int 0])), (l3, .inr (3, [.int 0, .ref z, .int 0])), (l4, .inr (3, [.int 0, .ref z, .int 0])), (l5, .inr (3, [.int 0, .ref z, .int 0])), (l6, .inr (3, [.int 0, .ref z, .int 0])), (o1, .inl (cyL, 1, .inr (.inl (fun _ => 0)))), (o2, .inl (cyD, 1, .inr (.inr (.inr (.inl (fun _ => 0))))))]) H) (hD : va_D A ([(x0, .inr (12, [.ref a1, .ref a2, .ref a3, .ref a4, .ref a5, .ref a6, .ref a7, .ref a8, .int 3, .int 0])), (a1, .inr (3, [.int 0, .ref z, .int 0])), (a2, .inr (3, [.int 0, .ref z, .int 0])), (a3, .inr (3, [.int 0, .ref z, .int 0])), (a4, .inr (3, [.int 0, .ref z, .int 0])), (a5, .inr (3, [.int 0, .ref z, .int 0])), (a6, .inr (10, [.ref b1, .ref b2, .ref b3, .int 0])), (b1, .inl (cyA, 400, .inl (nI))), (b2, .inl (cyJ, 512, .inl (fun _ => 0))), (b3, .inl (cyT, 400, .inl (fun _ => 0))), (a7, .inr (4, [.ref d1, .ref d2, .ref d3, .ref d4, .int 0, .int 12])), (d4, .inl (cyO, 20, .inr (.inr (.inr (.inr (fS)))))), (r0, .inl (cyI, 20, .inl (fun _ => 0))), (y0, .inr (18, [.int 0, .ref l1, .ref l2, .ref l3, .ref l4, .ref l5, .ref l6, .int 0, .int 3, .int 12, .ref m1, .ref m2, .ref m3, .ref m4, .ref m5, .ref m6])), (l1, .inr (3, [.int 0, .ref z, .int 0])), (l2, .inr (3, [.int 0, .ref z, .int 0])), (l3, .inr (3, [.int 0, .ref z, .int 0])), (l4, .inr (3, [.int 0, .ref z, .int 0])), (l5, .inr (3, [.int 0, .ref z, .int 0])), (l6, .inr (3, [.int 0, .ref z, .int 0])), (o1, .inl (cyL, 1, .inr (.inl (fun _ => 0)))), (o2, .inl (cyD, 1, .inr (.inr (.inr (.inl (fun _ => 0))))))])) (hK : va_K G vwCl [(cyA, .int), (cyJ, .int), (cyT, .int), (cyO, .array .int), (cyI, .int), (cyL, .long), (cyD, .double)] s) (hS : va_S A s.heap H locs) {ls : Array Slot} (hl : lv_has ls 9 [(0, .ref b), (1, .ref x0), (2, .ref y0), (3, .ref o1), (4, .ref o2), (5, .int 0)]) : W p l e room_1 s m #[Value.ref b] below meth c H locs 135 2991 (lw_Z below #[Value.ref b] s) (F0 m 240 ls []) := by
  have C9 := C0
  obtain ⟨hx, hb, hr, hml, hown, hts0, hX, hbl, hlocks, hgv⟩ := id C0
  have hg := lw_sub_good hts0
  have hts : ∀ w ∈ (lw_hd :: lw_good), w.before #[Value.ref b] s = true := fun w h => (List.mem_cons.mp h).elim (fun e9 => e9 ▸ hg _ q0) (hg w)
  have hbA : ¬ A b := fun h => Nat.not_le.mpr hbl (hA2 b h)
  refine lv_aload_n hx hb dL_law_240 rfl (lv_at hl 1 rfl) ?_
  refine lv_aload_n hx hb dL_law_241 rfl (lv_at hl 0 rfl) ?_
  refine lv_iload hx hb dL_law_242 (lv_at hl 5 rfl) ?_
  refine lv_iconst (v := 1) hx hb dL_law_244 (by decide) ?_
  refine lv_iadd hx hb dL_law_245 ?_
  refine lv_topi (fun f_1 ef_1 => ?_)
  obtain rfl : f_1 = 1 := ef_1.trans (by decide)
  refine va_sld hx hb hX hbl hbA hS (by unfold vp_in; decide +kernel) dL_law_246 ?_
  refine lv_topi (fun f_2 ef_2 => ?_)
  obtain rfl : f_2 = xs 1 := ef_2
  refine lv_aload_n hx hb dL_law_247 rfl (lv_at hl 0 rfl) ?_
  refine lv_iload hx hb dL_law_248 (lv_at hl 5 rfl) ?_
  refine lv_iconst (v := 2) hx hb dL_law_250 (by decide) ?_
  refine lv_iadd hx hb dL_law_251 ?_
  refine lv_topi (fun f_3 ef_3 => ?_)
  obtain rfl : f_3 = 2 := ef_3.trans (by decide)
  refine va_sld hx hb hX hbl hbA hS (by unfold vp_in; decide +kernel) dL_law_252 ?_
  refine lv_topi (fun f_4 ef_4 => ?_)
  obtain rfl : f_4 = xs 2 := ef_4
  refine lv_aload_n hx hb dL_law_253 rfl (lv_at hl 0 rfl) ?_
  refine lv_iload hx hb dL_law_254 (lv_at hl 5 rfl) ?_
  refine lv_iconst (v := 3) hx hb dL_law_256 (by decide) ?_
  refine lv_iadd hx hb dL_law_257 ?_
  refine lv_topi (fun f_5 ef_5 => ?_)
  obtain rfl : f_5 = 3 := ef_5.trans (by decide)
  refine va_sld hx hb hX hbl hbA hS (by unfold vp_in; decide +kernel) dL_law_258 ?_
  refine lv_topi (fun f_6 ef_6 => ?_)
  obtain rfl : f_6 = xs 3 := ef_6
  refine lv_aload_n hx hb dL_law_259 rfl (lv_at hl 0 rfl) ?_
  refine lv_iload hx hb dL_law_260 (lv_at hl 5 rfl) ?_
  refine lv_iconst (v := 4) hx hb dL_law_262 (by decide) ?_
  refine lv_iadd hx hb dL_law_263 ?_
  refine lv_topi (fun f_7 ef_7 => ?_)
  obtain rfl : f_7 = 4 := ef_7.trans (by decide)
  refine va_sld hx hb hX hbl hbA hS (by unfold vp_in; decide +kernel) dL_law_264 ?_
  refine lv_topi (fun f_8 ef_8 => ?_)
  obtain rfl : f_8 = xs 4 := ef_8
  refine lv_aload_n hx hb dL_law_265 rfl (lv_at hl 0 rfl) ?_
  refine lv_iload hx hb dL_law_266 (lv_at hl 5 rfl) ?_
  refine lv_iconst (v := 5) hx hb dL_law_268 (by decide) ?_
  refine lv_iadd hx hb dL_law_269 ?_
  refine lv_topi (fun f_9 ef_9 => ?_)
  obtain rfl : f_9 = 5 := ef_9.trans (by decide)
  refine va_sld hx hb hX hbl hbA hS (by unfold vp_in; decide +kernel) dL_law_270 ?_
  refine lv_topi (fun f_10 ef_10 => ?_)
  obtain rfl : f_10 = xs 5 := ef_10
  refine lv_aload_n hx hb dL_law_271 rfl (lv_at hl 0 rfl) ?_
  refine lv_iload hx hb dL_law_272 (lv_at hl 5 rfl) ?_
  refine lv_bipush (v := 6) hx hb dL_law_274 (by decide) ?_
  refine lv_iadd hx hb dL_law_276 ?_
  refine lv_topi (fun f_11 ef_11 => ?_)
  obtain rfl : f_11 = 6 := ef_11.trans (by decide)
  refine va_sld hx hb hX hbl hbA hS (by unfold vp_in; decide +kernel) dL_law_277 ?_
  refine lv_topi (fun f_12 ef_12 => ?_)
  obtain rfl : f_12 = xs 6 := ef_12
  refine lv_aload_n hx hb dL_law_278 rfl (lv_at hl 3 rfl) ?_
  have hPc := hP.sub (ws' := [(x0, .inr (12, [.ref a1, .ref a2, .ref a3, .ref a4, .ref a5, .ref a6, .ref a7, .ref a8, .int 3, .int 0])), (a1, .inr (3, [.int 0, .ref z, .int 0])), (o1, .inl (cyL, 1, .inr (.inl (fun _ => 0))))]) [0, 1, 20] rfl
  have hKc := hK.sub (tys' := [(cyL, .long)]) [5] rfl
  have hDc := hD.sub (ws' := [(x0, .inr (12, [.ref a1, .ref a2, .ref a3, .ref a4, .ref a5, .ref a6, .ref a7, .ref a8, .int 3, .int 0])), (a1, .inr (3, [.int 0, .ref z, .int 0])), (o1, .inl (cyL, 1, .inr (.inl (fun _ => 0))))]) [0, 1, 20] (by decide) rfl
  have hFc := va_free (wc := [(x0, .inr (12, [.ref a1, .ref a2, .ref a3, .ref a4, .ref a5, .ref a6, .ref a7, .ref a8, .int 3, .int 0])), (a1, .inr (3, [.int 0, .ref z, .int 0])), (o1, .inl (cyL, 1, .inr (.inl (fun _ => 0))))]) hD hS hA [0, 1, 20] rfl
  refine va_calli (vx_runSW (As := [.ref x0, .int (xs 1), .int (xs 2), .int (xs 3), .int (xs 4), .int (xs 5), .int (xs 6), .ref o1]) (rest := []) ⟨hx, hb, hml, hown, hts⟩ (k_L_mould l hfl G z x0 a1 a2 a3 a4 a5 a6 a7 a8 3 0 0 ((xs 1)) ((xs 2)) ((xs 3)) ((xs 4)) ((xs 5)) ((xs 6)) o1 cyL (fun _ => 0) H.size ) (vx_cwSW 8 hts (lw_goodApp (lw_3 q299 q300 q0) q301) rfl rfl rfl (by decide +kernel) ⟨Nat.le_of_ble_eq_true rfl, Nat.le_of_ble_eq_true rfl⟩) ⟨PW.blind, PW.of hPc hKc hDc hG hS hFc [.ref x0, .int (xs 1), .int (xs 2), .int (xs 3), .int (xs 4), .int (xs 5), .int (xs 6), .ref o1]⟩ rfl rfl hl.1 rfl (lv_room (Nat.le_of_ble_eq_true rfl)) dL_law_279 ⟨Nat.le_of_ble_eq_true rfl, Nat.le_of_ble_eq_true rfl⟩) hS (fun q _ h => hFc q h) hFc (fun r_15 u_13 t_17 H_14 locs ht hvm hw_16 hB hz1 hk1 hS => ?_)
  obtain ⟨hP, hD, hK⟩ := QW.join (wr := [(a2, .inr (3, [.int 0, .ref z, .int 0])), (a3, .inr (3, [.int 0, .ref z, .int 0])), (a4, .inr (3, [.int 0, .ref z, .int 0])), (a5, .inr (3, [.int 0, .ref z, .int 0])), (a6, .inr (10, [.ref b1, .ref b2, .ref b3, .int 0])), (b1, .inl (cyA, 400, .inl (nI))), (b2, .inl (cyJ, 512, .inl (fun _ => 0))), (b3, .inl (cyT, 400, .inl (fun _ => 0))), (a7, .inr (4, [.ref d1, .ref d2, .ref d3, .ref d4, .int 0, .int 12])), (d4, .inl (cyO, 20, .inr (.inr (.inr (.inr (fS)))))), (r0, .inl (cyI, 20, .inl (fun _ => 0))), (y0, .inr (18, [.int 0, .ref l1, .ref l2, .ref l3, .ref l4, .ref l5, .ref l6, .int 0, .int 3, .int 12, .ref m1, .ref m2, .ref m3, .ref m4, .ref m5, .ref m6])), (l1, .inr (3, [.int 0, .ref z, .int 0])), (l2, .inr (3, [.int 0, .ref z, .int 0])), (l3, .inr (3, [.int 0, .ref z, .int 0])), (l4, .inr (3, [.int 0, .ref z, .int 0])), (l5, .inr (3, [.int 0, .ref z, .int 0])), (l6, .inr (3, [.int 0, .ref z, .int 0])), (o2, .inl (cyD, 1, .inr (.inr (.inr (.inl (fun _ => 0))))))]) (w1 := [(o1, .inl (cyL, 1, .inr (.inl (u_13))))]) hP hD hK [0, 1, 20] [2, 3, 4, 5, 6, 7, 8, 9, 10, 11, 12, 13, 14, 15, 16, 17, 18, 19, 21] rfl rfl (by decide) (by decide) hk1 hFc ht hvm hB
  have hP : va_P G vwCl ([(a2, .inr (3, [.int 0, .ref z, .int 0])), (a3, .inr (3, [.int 0, .ref z, .int 0])), (a4, .inr (3, [.int 0, .ref z, .int 0])), (a5, .inr (3, [.int 0, .ref z, .int 0])), (a6, .inr (10, [.ref b1, .ref b2, .ref b3, .int 0])), (b1, .inl (cyA, 400, .inl (nI))), (b2, .inl (cyJ, 512, .inl (fun _ => 0))), (b3, .inl (cyT, 400, .inl (fun _ => 0))), (a7, .inr (4, [.ref d1, .ref d2, .ref d3, .ref d4, .int 0, .int 12])), (d4, .inl (cyO, 20, .inr (.inr (.inr (.inr (fS)))))), (r0, .inl (cyI, 20, .inl (fun _ => 0))), (y0, .inr (18, [.int 0, .ref l1, .ref l2, .ref l3, .ref l4, .ref l5, .ref l6, .int 0, .int 3, .int 12, .ref m1, .ref m2, .ref m3, .ref m4, .ref m5, .ref m6])), (l1, .inr (3, [.int 0, .ref z, .int 0])), (l2, .inr (3, [.int 0, .ref z, .int 0])), (l3, .inr (3, [.int 0, .ref z, .int 0])), (l4, .inr (3, [.int 0, .ref z, .int 0])), (l5, .inr (3, [.int 0, .ref z, .int 0])), (l6, .inr (3, [.int 0, .ref z, .int 0])), (o2, .inl (cyD, 1, .inr (.inr (.inr (.inl (fun _ => 0)))))), (o1, .inl (cyL, 1, .inr (.inl (u_13))))]) H_14 := hP
  have hD : va_D A ([(a2, .inr (3, [.int 0, .ref z, .int 0])), (a3, .inr (3, [.int 0, .ref z, .int 0])), (a4, .inr (3, [.int 0, .ref z, .int 0])), (a5, .inr (3, [.int 0, .ref z, .int 0])), (a6, .inr (10, [.ref b1, .ref b2, .ref b3, .int 0])), (b1, .inl (cyA, 400, .inl (nI))), (b2, .inl (cyJ, 512, .inl (fun _ => 0))), (b3, .inl (cyT, 400, .inl (fun _ => 0))), (a7, .inr (4, [.ref d1, .ref d2, .ref d3, .ref d4, .int 0, .int 12])), (d4, .inl (cyO, 20, .inr (.inr (.inr (.inr (fS)))))), (r0, .inl (cyI, 20, .inl (fun _ => 0))), (y0, .inr (18, [.int 0, .ref l1, .ref l2, .ref l3, .ref l4, .ref l5, .ref l6, .int 0, .int 3, .int 12, .ref m1, .ref m2, .ref m3, .ref m4, .ref m5, .ref m6])), (l1, .inr (3, [.int 0, .ref z, .int 0])), (l2, .inr (3, [.int 0, .ref z, .int 0])), (l3, .inr (3, [.int 0, .ref z, .int 0])), (l4, .inr (3, [.int 0, .ref z, .int 0])), (l5, .inr (3, [.int 0, .ref z, .int 0])), (l6, .inr (3, [.int 0, .ref z, .int 0])), (o2, .inl (cyD, 1, .inr (.inr (.inr (.inl (fun _ => 0)))))), (o1, .inl (cyL, 1, .inr (.inl (u_13))))]) := hD
  have hK : va_K G vwCl [(cyA, .int), (cyJ, .int), (cyT, .int), (cyO, .array .int), (cyI, .int), (cyL, .long), (cyD, .double), (cyL, .long)] s := hK
  refine W.widen (k := 148) (n := 3106) (Nat.le_of_ble_eq_true rfl) (Nat.le_of_ble_eq_true rfl) ?_
  rcases hw_16 with ⟨hφ, rfl, hu⟩ | ⟨hφ, rfl⟩
  · refine lv_istore (lv' := [(6, .int 0), (0, .ref b), (1, .ref x0), (2, .ref y0), (3, .ref o1), (4, .ref o2), (5, .int 0)]) hx hb dL_law_282 hl (by decide) rfl (fun ls hl => ?_)
    refine lv_aload_n hx hb dL_law_284 rfl (lv_at hl 3 rfl) ?_
    refine lv_aload_n hx hb dL_law_285 rfl (lv_at hl 1 rfl) ?_
    refine lv_iload hx hb dL_law_286 (lv_at hl 6 rfl) ?_
    refine lv_iconst (v := 1) hx hb dL_law_288 (by decide) ?_
    refine lv_iadd hx hb dL_law_289 ?_
    refine lv_topi (fun f_18 ef_18 => ?_)
    obtain rfl : f_18 = 1 := ef_18.trans (by decide)
    refine va_sld hx hb hX hbl hbA hS (by unfold vp_in; decide +kernel) dL_law_290 ?_
    refine lv_topi (fun f_19 ef_19 => ?_)
    obtain rfl : f_19 = xs 1 := ef_19
    refine lv_aload_n hx hb dL_law_291 rfl (lv_at hl 1 rfl) ?_
    refine lv_iload hx hb dL_law_292 (lv_at hl 6 rfl) ?_
    refine lv_iconst (v := 2) hx hb dL_law_294 (by decide) ?_
    refine lv_iadd hx hb dL_law_295 ?_
    refine lv_topi (fun f_20 ef_20 => ?_)
    obtain rfl : f_20 = 2 := ef_20.trans (by decide)
    refine va_sld hx hb hX hbl hbA hS (by unfold vp_in; decide +kernel) dL_law_296 ?_
    refine lv_topi (fun f_21 ef_21 => ?_)
    obtain rfl : f_21 = xs 2 := ef_21
    refine lv_aload_n hx hb dL_law_297 rfl (lv_at hl 1 rfl) ?_
    refine lv_iload hx hb dL_law_298 (lv_at hl 6 rfl) ?_
    refine lv_iconst (v := 3) hx hb dL_law_300 (by decide) ?_
    refine lv_iadd hx hb dL_law_301 ?_
    refine lv_topi (fun f_22 ef_22 => ?_)
    obtain rfl : f_22 = 3 := ef_22.trans (by decide)
    refine va_sld hx hb hX hbl hbA hS (by unfold vp_in; decide +kernel) dL_law_302 ?_
    refine lv_topi (fun f_23 ef_23 => ?_)
    obtain rfl : f_23 = xs 3 := ef_23
    refine lv_aload_n hx hb dL_law_303 rfl (lv_at hl 1 rfl) ?_
    refine lv_iload hx hb dL_law_304 (lv_at hl 6 rfl) ?_
    refine lv_iconst (v := 4) hx hb dL_law_306 (by decide) ?_
    refine lv_iadd hx hb dL_law_307 ?_
    refine lv_topi (fun f_24 ef_24 => ?_)
    obtain rfl : f_24 = 4 := ef_24.trans (by decide)
    refine va_sld hx hb hX hbl hbA hS (by unfold vp_in; decide +kernel) dL_law_308 ?_
    refine lv_topi (fun f_25 ef_25 => ?_)
    obtain rfl : f_25 = xs 4 := ef_25
    refine lv_aload_n hx hb dL_law_309 rfl (lv_at hl 1 rfl) ?_
    refine lv_iload hx hb dL_law_310 (lv_at hl 6 rfl) ?_
    refine lv_iconst (v := 5) hx hb dL_law_312 (by decide) ?_
    refine lv_iadd hx hb dL_law_313 ?_
    refine lv_topi (fun f_26 ef_26 => ?_)
    obtain rfl : f_26 = 5 := ef_26.trans (by decide)
    refine va_sld hx hb hX hbl hbA hS (by unfold vp_in; decide +kernel) dL_law_314 ?_
    refine lv_topi (fun f_27 ef_27 => ?_)
    obtain rfl : f_27 = xs 5 := ef_27
    refine lv_aload_n hx hb dL_law_315 rfl (lv_at hl 1 rfl) ?_
    refine lv_iload hx hb dL_law_316 (lv_at hl 6 rfl) ?_
    refine lv_bipush (v := 6) hx hb dL_law_318 (by decide) ?_
    refine lv_iadd hx hb dL_law_320 ?_
    refine lv_topi (fun f_28 ef_28 => ?_)
    obtain rfl : f_28 = 6 := ef_28.trans (by decide)
    refine va_sld hx hb hX hbl hbA hS (by unfold vp_in; decide +kernel) dL_law_321 ?_
    refine lv_topi (fun f_29 ef_29 => ?_)
    obtain rfl : f_29 = xs 6 := ef_29
    have hPc := hP.sub (ws' := [(y0, .inr (18, [.int 0, .ref l1, .ref l2, .ref l3, .ref l4, .ref l5, .ref l6, .int 0, .int 3, .int 12, .ref m1, .ref m2, .ref m3, .ref m4, .ref m5, .ref m6])), (l1, .inr (3, [.int 0, .ref z, .int 0]))]) [11, 12] rfl
    have hKc := hK.sub (tys' := []) [] rfl
    have hDc := hD.sub (ws' := [(y0, .inr (18, [.int 0, .ref l1, .ref l2, .ref l3, .ref l4, .ref l5, .ref l6, .int 0, .int 3, .int 12, .ref m1, .ref m2, .ref m3, .ref m4, .ref m5, .ref m6])), (l1, .inr (3, [.int 0, .ref z, .int 0]))]) [11, 12] (by decide) rfl
    have hFc := va_free (wc := [(y0, .inr (18, [.int 0, .ref l1, .ref l2, .ref l3, .ref l4, .ref l5, .ref l6, .int 0, .int 3, .int 12, .ref m1, .ref m2, .ref m3, .ref m4, .ref m5, .ref m6])), (l1, .inr (3, [.int 0, .ref z, .int 0]))]) hD hS hA [11, 12] rfl
    refine va_calli (va_runV (As := [.int (xs 1), .int (xs 2), .int (xs 3), .int (xs 4), .int (xs 5), .int (xs 6)]) (rest := []) ⟨hx, hb, hml, hown, hts⟩ (k_X14_mould l G z y0 0 l1 l2 l3 l4 l5 l6 3 12 m1 m2 m3 m4 m5 m6 0 ((xs 1)) ((xs 2)) ((xs 3)) ((xs 4)) ((xs 5)) ((xs 6)) H_14.size ) (cwV 6 hts (lw_goodApp (lw_4 q1240 q1241 q1242 q7) q1243) rfl rfl rfl (by decide +kernel) ⟨Nat.le_of_ble_eq_true rfl, Nat.le_of_ble_eq_true rfl⟩) ⟨PW.blind, va_recv hK hP (ci := 18) (q0 := 11) rfl rfl, PW.of hPc hKc hDc hG hS hFc [.ref y0, .int (xs 1), .int (xs 2), .int (xs 3), .int (xs 4), .int (xs 5), .int (xs 6)]⟩ rfl rfl hl.1 rfl (lv_room (Nat.le_of_ble_eq_true rfl)) dL_law_322 ⟨Nat.le_of_ble_eq_true rfl, Nat.le_of_ble_eq_true rfl⟩) hS (fun q _ h => hFc q h) hFc (fun r_31 u t_33 H_30 locs ht hvm hw_32 hB hz1 hk1 hS => ?_)
    obtain ⟨th1_34, hf_35, hB⟩ := hB
    obtain ⟨hP, hD, hK⟩ := QW.join (wr := [(a2, .inr (3, [.int 0, .ref z, .int 0])), (a3, .inr (3, [.int 0, .ref z, .int 0])), (a4, .inr (3, [.int 0, .ref z, .int 0])), (a5, .inr (3, [.int 0, .ref z, .int 0])), (a6, .inr (10, [.ref b1, .ref b2, .ref b3, .int 0])), (b1, .inl (cyA, 400, .inl (nI))), (b2, .inl (cyJ, 512, .inl (fun _ => 0))), (b3, .inl (cyT, 400, .inl (fun _ => 0))), (a7, .inr (4, [.ref d1, .ref d2, .ref d3, .ref d4, .int 0, .int 12])), (d4, .inl (cyO, 20, .inr (.inr (.inr (.inr (fS)))))), (r0, .inl (cyI, 20, .inl (fun _ => 0))), (l2, .inr (3, [.int 0, .ref z, .int 0])), (l3, .inr (3, [.int 0, .ref z, .int 0])), (l4, .inr (3, [.int 0, .ref z, .int 0])), (l5, .inr (3, [.int 0, .ref z, .int 0])), (l6, .inr (3, [.int 0, .ref z, .int 0])), (o2, .inl (cyD, 1, .inr (.inr (.inr (.inl (fun _ => 0)))))), (o1, .inl (cyL, 1, .inr (.inl (u_13))))]) (w1 := [(y0, .inr (18, [.int th1_34, .ref l1, .ref l2, .ref l3, .ref l4, .ref l5, .ref l6, .int 0, .int 3, .int 12, .ref m1, .ref m2, .ref m3, .ref m4, .ref m5, .ref m6]))]) hP hD hK [11, 12] [0, 1, 2, 3, 4, 5, 6, 7, 8, 9, 10, 13, 14, 15, 16, 17, 18, 19] rfl rfl (by decide) (by decide) hk1 hFc ht hvm hB
    have hP : va_P G vwCl ([(a2, .inr (3, [.int 0, .ref z, .int 0])), (a3, .inr (3, [.int 0, .ref z, .int 0])), (a4, .inr (3, [.int 0, .ref z, .int 0])), (a5, .inr (3, [.int 0, .ref z, .int 0])), (a6, .inr (10, [.ref b1, .ref b2, .ref b3, .int 0])), (b1, .inl (cyA, 400, .inl (nI))), (b2, .inl (cyJ, 512, .inl (fun _ => 0))), (b3, .inl (cyT, 400, .inl (fun _ => 0))), (a7, .inr (4, [.ref d1, .ref d2, .ref d3, .ref d4, .int 0, .int 12])), (d4, .inl (cyO, 20, .inr (.inr (.inr (.inr (fS)))))), (r0, .inl (cyI, 20, .inl (fun _ => 0))), (l2, .inr (3, [.int 0, .ref z, .int 0])), (l3, .inr (3, [.int 0, .ref z, .int 0])), (l4, .inr (3, [.int 0, .ref z, .int 0])), (l5, .inr (3, [.int 0, .ref z, .int 0])), (l6, .inr (3, [.int 0, .ref z, .int 0])), (o2, .inl (cyD, 1, .inr (.inr (.inr (.inl (fun _ => 0)))))), (o1, .inl (cyL, 1, .inr (.inl (u_13)))), (y0, .inr (18, [.int th1_34, .ref l1, .ref l2, .ref l3, .ref l4, .ref l5, .ref l6, .int 0, .int 3, .int 12, .ref m1, .ref m2, .ref m3, .ref m4, .ref m5, .ref m6]))]) H_30 := hP
    have hD : va_D A ([(a2, .inr (3, [.int 0, .ref z, .int 0])), (a3, .inr (3, [.int 0, .ref z, .int 0])), (a4, .inr (3, [.int 0, .ref z, .int 0])), (a5, .inr (3, [.int 0, .ref z, .int 0])), (a6, .inr (10, [.ref b1, .ref b2, .ref b3, .int 0])), (b1, .inl (cyA, 400, .inl (nI))), (b2, .inl (cyJ, 512, .inl (fun _ => 0))), (b3, .inl (cyT, 400, .inl (fun _ => 0))), (a7, .inr (4, [.ref d1, .ref d2, .ref d3, .ref d4, .int 0, .int 12])), (d4, .inl (cyO, 20, .inr (.inr (.inr (.inr (fS)))))), (r0, .inl (cyI, 20, .inl (fun _ => 0))), (l2, .inr (3, [.int 0, .ref z, .int 0])), (l3, .inr (3, [.int 0, .ref z, .int 0])), (l4, .inr (3, [.int 0, .ref z, .int 0])), (l5, .inr (3, [.int 0, .ref z, .int 0])), (l6, .inr (3, [.int 0, .ref z, .int 0])), (o2, .inl (cyD, 1, .inr (.inr (.inr (.inl (fun _ => 0)))))), (o1, .inl (cyL, 1, .inr (.inl (u_13)))), (y0, .inr (18, [.int th1_34, .ref l1, .ref l2, .ref l3, .ref l4, .ref l5, .ref l6, .int 0, .int 3, .int 12, .ref m1, .ref m2, .ref m3, .ref m4, .ref m5, .ref m6]))]) := hD
    have hK : va_K G vwCl [(cyA, .int), (cyJ, .int), (cyT, .int), (cyO, .array .int), (cyI, .int), (cyL, .long), (cyD, .double), (cyL, .long)] s := hK
    refine W.widen (k := 153) (n := 3135) (Nat.le_of_ble_eq_true rfl) (Nat.le_of_ble_eq_true rfl) ?_
    rcases hf_35 with ⟨hψ, rfl⟩ | ⟨hψ, rfl⟩
    · have hr2 := hw_32 hψ
      refine lv_istore (lv' := [(7, .int r_31), (6, .int 0), (0, .ref b), (1, .ref x0), (2, .ref y0), (3, .ref o1), (4, .ref o2), (5, .int 0)]) hx hb dL_law_325 hl (by decide) rfl (fun ls hl => ?_)
      refine lv_aload_n hx hb dL_law_327 rfl (lv_at hl 4 rfl) ?_
      have hPc := hP.sub (ws' := [(y0, .inr (18, [.int 0, .ref l1, .ref l2, .ref l3, .ref l4, .ref l5, .ref l6, .int 0, .int 3, .int 12, .ref m1, .ref m2, .ref m3, .ref m4, .ref m5, .ref m6]))]) [18] rfl
      have hKc := hK.sub (tys' := []) [] rfl
      refine va_calli (va_runV (As := []) (rest := []) ⟨hx, hb, hml, hown, hts⟩ (k_X14_thrown l G z y0 0 l1 l2 l3 l4 l5 l6 3 12 m1 m2 m3 m4 m5 m6 H_30.size ) (cwV 0 hts (lw_goodApp (lw_4 q1236 q1237 q1238 q7) q1239) rfl rfl rfl (by decide +kernel) ⟨Nat.le_of_ble_eq_true rfl, Nat.le_of_ble_eq_true rfl⟩) ⟨PR.blind, va_recv hK hP (ci := 18) (q0 := 18) rfl rfl, PR.of hPc hKc hG hS hA [.ref y0]⟩ rfl rfl hl.1 rfl (lv_room (Nat.le_of_ble_eq_true rfl)) dL_law_328 ⟨Nat.le_of_ble_eq_true rfl, Nat.le_of_ble_eq_true rfl⟩) hS (fun q h9 h => zN.not h9 h) (fun q h => hA q (Nat.le_trans hS.1 h)) (fun r_37 u t_39 H_36 locs ht hvm hw_38 hB hz1 hk1 hS => ?_)
      have hP := hP.grown hk1
      refine W.widen (k := 153) (n := 3135) (Nat.le_of_ble_eq_true rfl) (Nat.le_of_ble_eq_true rfl) ?_
      obtain rfl : 0 = r_37 := hw_38.symm
      refine lv_iload hx hb dL_law_331 (lv_at hl 1 rfl) ?_
      refine lv_icmp_eq (tgt := 338) hx hb dL_law_333 (by decide) (fun c_40 => ?_) (fun c_40 => absurd rfl c_40)
      refine lv_iload hx hb dL_law_338 (lv_at hl 1 rfl) ?_
      refine lv_if_ne (tgt := 355) hx hb dL_law_340 (by decide) (fun c_41 => absurd rfl c_41) (fun c_41 => ?_)
      refine lv_aload_n hx hb dL_law_343 rfl (lv_at hl 5 rfl) ?_
      refine lv_iconst (v := 0) hx hb dL_law_344 (by decide) ?_
      refine va_lald hx hb hK hP 17 5 rfl rfl (by unfold vp_in; decide +kernel) dL_law_345 ?_
      refine lv_iload hx hb dL_law_346 (lv_at hl 0 rfl) ?_
      refine lv_i2l hx hb dL_law_348 rfl ?_
      refine W.lcmp hx hb dL_law_349 ?_
      refine lv_if_eq (tgt := 355) hx hb dL_law_350 (by decide) (fun c_42 => ?_) (fun c_42 => absurd (z_cmp (hu.trans (by rw [hr2]))) c_42)
      refine lv_goto (tgt := 3288) hx hb dL_law_355 (by decide) ?_
      exact law_tail hfl C0 hA hA2 hS (lv_sub hl [2, 7] rfl) (Nat.le_of_ble_eq_true rfl) (Nat.le_of_ble_eq_true rfl)
    · exact absurd hφ hψ
  · refine lv_istore (lv' := [(6, .int 1), (0, .ref b), (1, .ref x0), (2, .ref y0), (3, .ref o1), (4, .ref o2), (5, .int 0)]) hx hb dL_law_282 hl (by decide) rfl (fun ls hl => ?_)
    refine lv_aload_n hx hb dL_law_284 rfl (lv_at hl 3 rfl) ?_
    refine lv_aload_n hx hb dL_law_285 rfl (lv_at hl 1 rfl) ?_
    refine lv_iload hx hb dL_law_286 (lv_at hl 6 rfl) ?_
    refine lv_iconst (v := 1) hx hb dL_law_288 (by decide) ?_
    refine lv_iadd hx hb dL_law_289 ?_
    refine lv_topi (fun f_43 ef_43 => ?_)
    obtain rfl : f_43 = 1 := ef_43.trans (by decide)
    refine va_sld hx hb hX hbl hbA hS (by unfold vp_in; decide +kernel) dL_law_290 ?_
    refine lv_topi (fun f_44 ef_44 => ?_)
    obtain rfl : f_44 = xs 1 := ef_44
    refine lv_aload_n hx hb dL_law_291 rfl (lv_at hl 1 rfl) ?_
    refine lv_iload hx hb dL_law_292 (lv_at hl 6 rfl) ?_
    refine lv_iconst (v := 2) hx hb dL_law_294 (by decide) ?_
    refine lv_iadd hx hb dL_law_295 ?_
    refine lv_topi (fun f_45 ef_45 => ?_)
    obtain rfl : f_45 = 2 := ef_45.trans (by decide)
    refine va_sld hx hb hX hbl hbA hS (by unfold vp_in; decide +kernel) dL_law_296 ?_
    refine lv_topi (fun f_46 ef_46 => ?_)
    obtain rfl : f_46 = xs 2 := ef_46
    refine lv_aload_n hx hb dL_law_297 rfl (lv_at hl 1 rfl) ?_
    refine lv_iload hx hb dL_law_298 (lv_at hl 6 rfl) ?_
    refine lv_iconst (v := 3) hx hb dL_law_300 (by decide) ?_
    refine lv_iadd hx hb dL_law_301 ?_
    refine lv_topi (fun f_47 ef_47 => ?_)
    obtain rfl : f_47 = 3 := ef_47.trans (by decide)
    refine va_sld hx hb hX hbl hbA hS (by unfold vp_in; decide +kernel) dL_law_302 ?_
    refine lv_topi (fun f_48 ef_48 => ?_)
    obtain rfl : f_48 = xs 3 := ef_48
    refine lv_aload_n hx hb dL_law_303 rfl (lv_at hl 1 rfl) ?_
    refine lv_iload hx hb dL_law_304 (lv_at hl 6 rfl) ?_
    refine lv_iconst (v := 4) hx hb dL_law_306 (by decide) ?_
    refine lv_iadd hx hb dL_law_307 ?_
    refine lv_topi (fun f_49 ef_49 => ?_)
    obtain rfl : f_49 = 4 := ef_49.trans (by decide)
    refine va_sld hx hb hX hbl hbA hS (by unfold vp_in; decide +kernel) dL_law_308 ?_
    refine lv_topi (fun f_50 ef_50 => ?_)
    obtain rfl : f_50 = xs 4 := ef_50
    refine lv_aload_n hx hb dL_law_309 rfl (lv_at hl 1 rfl) ?_
    refine lv_iload hx hb dL_law_310 (lv_at hl 6 rfl) ?_
    refine lv_iconst (v := 5) hx hb dL_law_312 (by decide) ?_
    refine lv_iadd hx hb dL_law_313 ?_
    refine lv_topi (fun f_51 ef_51 => ?_)
    obtain rfl : f_51 = 5 := ef_51.trans (by decide)
    refine va_sld hx hb hX hbl hbA hS (by unfold vp_in; decide +kernel) dL_law_314 ?_
    refine lv_topi (fun f_52 ef_52 => ?_)
    obtain rfl : f_52 = xs 5 := ef_52
    refine lv_aload_n hx hb dL_law_315 rfl (lv_at hl 1 rfl) ?_
    refine lv_iload hx hb dL_law_316 (lv_at hl 6 rfl) ?_
    refine lv_bipush (v := 6) hx hb dL_law_318 (by decide) ?_
    refine lv_iadd hx hb dL_law_320 ?_
    refine lv_topi (fun f_53 ef_53 => ?_)
    obtain rfl : f_53 = 6 := ef_53.trans (by decide)
    refine va_sld hx hb hX hbl hbA hS (by unfold vp_in; decide +kernel) dL_law_321 ?_
    refine lv_topi (fun f_54 ef_54 => ?_)
    obtain rfl : f_54 = xs 6 := ef_54
    have hPc := hP.sub (ws' := [(y0, .inr (18, [.int 0, .ref l1, .ref l2, .ref l3, .ref l4, .ref l5, .ref l6, .int 0, .int 3, .int 12, .ref m1, .ref m2, .ref m3, .ref m4, .ref m5, .ref m6])), (l1, .inr (3, [.int 0, .ref z, .int 0]))]) [11, 12] rfl
    have hKc := hK.sub (tys' := []) [] rfl
    have hDc := hD.sub (ws' := [(y0, .inr (18, [.int 0, .ref l1, .ref l2, .ref l3, .ref l4, .ref l5, .ref l6, .int 0, .int 3, .int 12, .ref m1, .ref m2, .ref m3, .ref m4, .ref m5, .ref m6])), (l1, .inr (3, [.int 0, .ref z, .int 0]))]) [11, 12] (by decide) rfl
    have hFc := va_free (wc := [(y0, .inr (18, [.int 0, .ref l1, .ref l2, .ref l3, .ref l4, .ref l5, .ref l6, .int 0, .int 3, .int 12, .ref m1, .ref m2, .ref m3, .ref m4, .ref m5, .ref m6])), (l1, .inr (3, [.int 0, .ref z, .int 0]))]) hD hS hA [11, 12] rfl
    refine va_calli (va_runV (As := [.int (xs 1), .int (xs 2), .int (xs 3), .int (xs 4), .int (xs 5), .int (xs 6)]) (rest := []) ⟨hx, hb, hml, hown, hts⟩ (k_X14_mould l G z y0 0 l1 l2 l3 l4 l5 l6 3 12 m1 m2 m3 m4 m5 m6 0 ((xs 1)) ((xs 2)) ((xs 3)) ((xs 4)) ((xs 5)) ((xs 6)) H_14.size ) (cwV 6 hts (lw_goodApp (lw_4 q1240 q1241 q1242 q7) q1243) rfl rfl rfl (by decide +kernel) ⟨Nat.le_of_ble_eq_true rfl, Nat.le_of_ble_eq_true rfl⟩) ⟨PW.blind, va_recv hK hP (ci := 18) (q0 := 11) rfl rfl, PW.of hPc hKc hDc hG hS hFc [.ref y0, .int (xs 1), .int (xs 2), .int (xs 3), .int (xs 4), .int (xs 5), .int (xs 6)]⟩ rfl rfl hl.1 rfl (lv_room (Nat.le_of_ble_eq_true rfl)) dL_law_322 ⟨Nat.le_of_ble_eq_true rfl, Nat.le_of_ble_eq_true rfl⟩) hS (fun q _ h => hFc q h) hFc (fun r_56 u t_58 H_55 locs ht hvm hw_57 hB hz1 hk1 hS => ?_)
    obtain ⟨th1_59, hf_60, hB⟩ := hB
    obtain ⟨hP, hD, hK⟩ := QW.join (wr := [(a2, .inr (3, [.int 0, .ref z, .int 0])), (a3, .inr (3, [.int 0, .ref z, .int 0])), (a4, .inr (3, [.int 0, .ref z, .int 0])), (a5, .inr (3, [.int 0, .ref z, .int 0])), (a6, .inr (10, [.ref b1, .ref b2, .ref b3, .int 0])), (b1, .inl (cyA, 400, .inl (nI))), (b2, .inl (cyJ, 512, .inl (fun _ => 0))), (b3, .inl (cyT, 400, .inl (fun _ => 0))), (a7, .inr (4, [.ref d1, .ref d2, .ref d3, .ref d4, .int 0, .int 12])), (d4, .inl (cyO, 20, .inr (.inr (.inr (.inr (fS)))))), (r0, .inl (cyI, 20, .inl (fun _ => 0))), (l2, .inr (3, [.int 0, .ref z, .int 0])), (l3, .inr (3, [.int 0, .ref z, .int 0])), (l4, .inr (3, [.int 0, .ref z, .int 0])), (l5, .inr (3, [.int 0, .ref z, .int 0])), (l6, .inr (3, [.int 0, .ref z, .int 0])), (o2, .inl (cyD, 1, .inr (.inr (.inr (.inl (fun _ => 0)))))), (o1, .inl (cyL, 1, .inr (.inl (u_13))))]) (w1 := [(y0, .inr (18, [.int th1_59, .ref l1, .ref l2, .ref l3, .ref l4, .ref l5, .ref l6, .int 0, .int 3, .int 12, .ref m1, .ref m2, .ref m3, .ref m4, .ref m5, .ref m6]))]) hP hD hK [11, 12] [0, 1, 2, 3, 4, 5, 6, 7, 8, 9, 10, 13, 14, 15, 16, 17, 18, 19] rfl rfl (by decide) (by decide) hk1 hFc ht hvm hB
    have hP : va_P G vwCl ([(a2, .inr (3, [.int 0, .ref z, .int 0])), (a3, .inr (3, [.int 0, .ref z, .int 0])), (a4, .inr (3, [.int 0, .ref z, .int 0])), (a5, .inr (3, [.int 0, .ref z, .int 0])), (a6, .inr (10, [.ref b1, .ref b2, .ref b3, .int 0])), (b1, .inl (cyA, 400, .inl (nI))), (b2, .inl (cyJ, 512, .inl (fun _ => 0))), (b3, .inl (cyT, 400, .inl (fun _ => 0))), (a7, .inr (4, [.ref d1, .ref d2, .ref d3, .ref d4, .int 0, .int 12])), (d4, .inl (cyO, 20, .inr (.inr (.inr (.inr (fS)))))), (r0, .inl (cyI, 20, .inl (fun _ => 0))), (l2, .inr (3, [.int 0, .ref z, .int 0])), (l3, .inr (3, [.int 0, .ref z, .int 0])), (l4, .inr (3, [.int 0, .ref z, .int 0])), (l5, .inr (3, [.int 0, .ref z, .int 0])), (l6, .inr (3, [.int 0, .ref z, .int 0])), (o2, .inl (cyD, 1, .inr (.inr (.inr (.inl (fun _ => 0)))))), (o1, .inl (cyL, 1, .inr (.inl (u_13)))), (y0, .inr (18, [.int th1_59, .ref l1, .ref l2, .ref l3, .ref l4, .ref l5, .ref l6, .int 0, .int 3, .int 12, .ref m1, .ref m2, .ref m3, .ref m4, .ref m5, .ref m6]))]) H_55 := hP
    have hD : va_D A ([(a2, .inr (3, [.int 0, .ref z, .int 0])), (a3, .inr (3, [.int 0, .ref z, .int 0])), (a4, .inr (3, [.int 0, .ref z, .int 0])), (a5, .inr (3, [.int 0, .ref z, .int 0])), (a6, .inr (10, [.ref b1, .ref b2, .ref b3, .int 0])), (b1, .inl (cyA, 400, .inl (nI))), (b2, .inl (cyJ, 512, .inl (fun _ => 0))), (b3, .inl (cyT, 400, .inl (fun _ => 0))), (a7, .inr (4, [.ref d1, .ref d2, .ref d3, .ref d4, .int 0, .int 12])), (d4, .inl (cyO, 20, .inr (.inr (.inr (.inr (fS)))))), (r0, .inl (cyI, 20, .inl (fun _ => 0))), (l2, .inr (3, [.int 0, .ref z, .int 0])), (l3, .inr (3, [.int 0, .ref z, .int 0])), (l4, .inr (3, [.int 0, .ref z, .int 0])), (l5, .inr (3, [.int 0, .ref z, .int 0])), (l6, .inr (3, [.int 0, .ref z, .int 0])), (o2, .inl (cyD, 1, .inr (.inr (.inr (.inl (fun _ => 0)))))), (o1, .inl (cyL, 1, .inr (.inl (u_13)))), (y0, .inr (18, [.int th1_59, .ref l1, .ref l2, .ref l3, .ref l4, .ref l5, .ref l6, .int 0, .int 3, .int 12, .ref m1, .ref m2, .ref m3, .ref m4, .ref m5, .ref m6]))]) := hD
    have hK : va_K G vwCl [(cyA, .int), (cyJ, .int), (cyT, .int), (cyO, .array .int), (cyI, .int), (cyL, .long), (cyD, .double), (cyL, .long)] s := hK
    refine W.widen (k := 153) (n := 3135) (Nat.le_of_ble_eq_true rfl) (Nat.le_of_ble_eq_true rfl) ?_
    rcases hf_60 with ⟨hψ, rfl⟩ | ⟨hψ, rfl⟩
    · exact absurd hψ hφ
    · refine lv_istore (lv' := [(7, .int r_56), (6, .int 1), (0, .ref b), (1, .ref x0), (2, .ref y0), (3, .ref o1), (4, .ref o2), (5, .int 0)]) hx hb dL_law_325 hl (by decide) rfl (fun ls hl => ?_)
      refine lv_aload_n hx hb dL_law_327 rfl (lv_at hl 4 rfl) ?_
      have hPc := hP.sub (ws' := [(y0, .inr (18, [.int 1, .ref l1, .ref l2, .ref l3, .ref l4, .ref l5, .ref l6, .int 0, .int 3, .int 12, .ref m1, .ref m2, .ref m3, .ref m4, .ref m5, .ref m6]))]) [18] rfl
      have hKc := hK.sub (tys' := []) [] rfl
      refine va_calli (va_runV (As := []) (rest := []) ⟨hx, hb, hml, hown, hts⟩ (k_X14_thrown l G z y0 1 l1 l2 l3 l4 l5 l6 3 12 m1 m2 m3 m4 m5 m6 H_55.size ) (cwV 0 hts (lw_goodApp (lw_4 q1236 q1237 q1238 q7) q1239) rfl rfl rfl (by decide +kernel) ⟨Nat.le_of_ble_eq_true rfl, Nat.le_of_ble_eq_true rfl⟩) ⟨PR.blind, va_recv hK hP (ci := 18) (q0 := 18) rfl rfl, PR.of hPc hKc hG hS hA [.ref y0]⟩ rfl rfl hl.1 rfl (lv_room (Nat.le_of_ble_eq_true rfl)) dL_law_328 ⟨Nat.le_of_ble_eq_true rfl, Nat.le_of_ble_eq_true rfl⟩) hS (fun q h9 h => zN.not h9 h) (fun q h => hA q (Nat.le_trans hS.1 h)) (fun r_62 u t_64 H_61 locs ht hvm hw_63 hB hz1 hk1 hS => ?_)
      have hP := hP.grown hk1
      refine W.widen (k := 153) (n := 3135) (Nat.le_of_ble_eq_true rfl) (Nat.le_of_ble_eq_true rfl) ?_
      obtain rfl : 1 = r_62 := hw_63.symm
      refine lv_iload hx hb dL_law_331 (lv_at hl 1 rfl) ?_
      refine lv_icmp_eq (tgt := 338) hx hb dL_law_333 (by decide) (fun c_65 => ?_) (fun c_65 => absurd rfl c_65)
      refine lv_iload hx hb dL_law_338 (lv_at hl 1 rfl) ?_
      refine lv_if_ne (tgt := 355) hx hb dL_law_340 (by decide) (fun c_66 => ?_) (fun c_66 => absurd c_66 (by decide))
      refine lv_goto (tgt := 3288) hx hb dL_law_355 (by decide) ?_
      exact law_tail hfl C0 hA hA2 hS (lv_sub hl [2, 7] rfl) (Nat.le_of_ble_eq_true rfl) (Nat.le_of_ble_eq_true rfl)
set_option maxHeartbeats 8000000 in
set_option maxRecDepth 100000 in
/-- script value 1 -/
theorem law_case_1 {p : Program} {l : Launch} {e : Env} {s : State} {m : MethodId} {below : List Frame} {meth : Method} {c : Code} {b : Nat} {xs : Nat → Int32} (hfl : l.stackTraces = false) (C0 : lw_At p s m meth c b 7 xs) {A : Nat → Prop} (hA : ∀ q : Nat, s.heap.size ≤ q → A q) (hA2 : ∀ q : Nat, A q → s.heap.size ≤ q) (G : va_G) (z : Nat) (hG : zG z A s s.heap) (x0 : Nat) (y0 : Nat) (o1 : Nat) (o2 : Nat) (cyL : ClassId) (cyD : ClassId) (a1 : Nat) (a2 : Nat) (a3 : Nat) (a4 : Nat) (a5 : Nat) (a6 : Nat) (a7 : Nat) (a8 : Nat) (b1 : Nat) (b2 : Nat) (b3 : Nat) (cyA : ClassId) (cyJ : ClassId) (cyT : ClassId) (d1 : Nat) (d2 : Nat) (d3 : Nat) (d4 : Nat) (cyO : ClassId) (fS : Nat → Option Nat) (cyI : ClassId) (r0 : Nat) (l1 : Nat) (l2 : Nat) (l3 : Nat) (l4 : Nat) (l5 : Nat) (l6 : Nat) (m1 : Nat) (m2 : Nat) (m3 : Nat) (m4 : Nat) (m5 : Nat) (m6 : Nat) (hf0 : fS 0 = some r0) {H : Heap} {locs : List Loc} (hP : va_P G vwCl ([(x0, .inr (12, [.ref a1, .ref a2, .ref a3, .ref a4, .ref a5, .ref a6, .ref a7, .ref a8, .int 3, .int 0])), (a1, .inr (3, [.int 0, .ref z, .int 0])), (a2, .inr (3, [.int 0, .ref z, .int 0])), (a3, .inr (3, [.int 0, .ref z, .int 0])), (a4, .inr (3, [.int 0, .ref z, .int 0])), (a5, .inr (3, [.int 0, .ref z, .int 0])), (a6, .inr (10, [.ref b1, .ref b2, .ref b3, .int 0])), (b1, .inl (cyA, 400, .inl (nI))), (b2, .inl (cyJ, 512, .inl (fun _ => 0))), (b3, .inl (cyT, 400, .inl (fun _ => 0))), (a7, .inr (4, [.ref d1, .ref d2, .ref d3, .ref d4, .int 0, .int 12])), (d4, .inl (cyO, 20, .inr (.inr (.inr (.inr (fS)))))), (r0, .inl (cyI, 20, .inl (fun _ => 0))), (y0, .inr (18, [.int 0, .ref l1, .ref l2, .ref l3, .ref l4, .ref l5, .ref l6, .int 0, .int 3, .int 12, .ref m1, .ref m2, .ref m3, .ref m4, .ref m5, .ref m6])), (l1, .inr (3, [.int 0, .ref z, .int 0])), (l2, .inr (3, [.int 0, .ref z, .int 0])), (l3, .inr (3, [.int 0, .ref z, .int 0])), (l4, .inr (3, [.int 0, .ref z, .int 0])), (l5, .inr (3, [.int 0, .ref z, .int 0])), (l6, .inr (3, [.int 0, .ref z, .int 0])), (o1, .inl (cyL, 1, .inr (.inl (fun _ => 0)))), (o2, .inl (cyD, 1, .inr (.inr (.inr (.inl (fun _ => 0))))))]) H) (hD : va_D A ([(x0, .inr (12, [.ref a1, .ref a2, .ref a3, .ref a4, .ref a5, .ref a6, .ref a7, .ref a8, .int 3, .int 0])), (a1, .inr (3, [.int 0, .ref z, .int 0])), (a2, .inr (3, [.int 0, .ref z, .int 0])), (a3, .inr (3, [.int 0, .ref z, .int 0])), (a4, .inr (3, [.int 0, .ref z, .int 0])), (a5, .inr (3, [.int 0, .ref z, .int 0])), (a6, .inr (10, [.ref b1, .ref b2, .ref b3, .int 0])), (b1, .inl (cyA, 400, .inl (nI))), (b2, .inl (cyJ, 512, .inl (fun _ => 0))), (b3, .inl (cyT, 400, .inl (fun _ => 0))), (a7, .inr (4, [.ref d1, .ref d2, .ref d3, .ref d4, .int 0, .int 12])), (d4, .inl (cyO, 20, .inr (.inr (.inr (.inr (fS)))))), (r0, .inl (cyI, 20, .inl (fun _ => 0))), (y0, .inr (18, [.int 0, .ref l1, .ref l2, .ref l3, .ref l4, .ref l5, .ref l6, .int 0, .int 3, .int 12, .ref m1, .ref m2, .ref m3, .ref m4, .ref m5, .ref m6])), (l1, .inr (3, [.int 0, .ref z, .int 0])), (l2, .inr (3, [.int 0, .ref z, .int 0])), (l3, .inr (3, [.int 0, .ref z, .int 0])), (l4, .inr (3, [.int 0, .ref z, .int 0])), (l5, .inr (3, [.int 0, .ref z, .int 0])), (l6, .inr (3, [.int 0, .ref z, .int 0])), (o1, .inl (cyL, 1, .inr (.inl (fun _ => 0)))), (o2, .inl (cyD, 1, .inr (.inr (.inr (.inl (fun _ => 0))))))])) (hK : va_K G vwCl [(cyA, .int), (cyJ, .int), (cyT, .int), (cyO, .array .int), (cyI, .int), (cyL, .long), (cyD, .double)] s) (hS : va_S A s.heap H locs) {ls : Array Slot} (hl : lv_has ls 9 [(0, .ref b), (1, .ref x0), (2, .ref y0), (3, .ref o1), (4, .ref o2), (5, .int 0)]) : W p l e room_1 s m #[Value.ref b] below meth c H locs 135 2991 (lw_Z below #[Value.ref b] s) (F0 m 358 ls []) := by
  have C9 := C0
  obtain ⟨hx, hb, hr, hml, hown, hts0, hX, hbl, hlocks, hgv⟩ := id C0
  have hg := lw_sub_good hts0
  have hts : ∀ w ∈ (lw_hd :: lw_good), w.before #[Value.ref b] s = true := fun w h => (List.mem_cons.mp h).elim (fun e9 => e9 ▸ hg _ q0) (hg w)
  have hbA : ¬ A b := fun h => Nat.not_le.mpr hbl (hA2 b h)
  refine lv_aload_n hx hb dL_law_358 rfl (lv_at hl 1 rfl) ?_
  refine lv_aload_n hx hb dL_law_359 rfl (lv_at hl 0 rfl) ?_
  refine lv_iload hx hb dL_law_360 (lv_at hl 5 rfl) ?_
  refine lv_iconst (v := 1) hx hb dL_law_362 (by decide) ?_
  refine lv_iadd hx hb dL_law_363 ?_
  refine lv_topi (fun f_1 ef_1 => ?_)
  obtain rfl : f_1 = 1 := ef_1.trans (by decide)
  refine va_sld hx hb hX hbl hbA hS (by unfold vp_in; decide +kernel) dL_law_364 ?_
  refine lv_topi (fun f_2 ef_2 => ?_)
  obtain rfl : f_2 = xs 1 := ef_2
  refine lv_aload_n hx hb dL_law_365 rfl (lv_at hl 0 rfl) ?_
  refine lv_iload hx hb dL_law_366 (lv_at hl 5 rfl) ?_
  refine lv_iconst (v := 2) hx hb dL_law_368 (by decide) ?_
  refine lv_iadd hx hb dL_law_369 ?_
  refine lv_topi (fun f_3 ef_3 => ?_)
  obtain rfl : f_3 = 2 := ef_3.trans (by decide)
  refine va_sld hx hb hX hbl hbA hS (by unfold vp_in; decide +kernel) dL_law_370 ?_
  refine lv_topi (fun f_4 ef_4 => ?_)
  obtain rfl : f_4 = xs 2 := ef_4
  refine lv_aload_n hx hb dL_law_371 rfl (lv_at hl 3 rfl) ?_
  have hPc := hP.sub (ws' := [(x0, .inr (12, [.ref a1, .ref a2, .ref a3, .ref a4, .ref a5, .ref a6, .ref a7, .ref a8, .int 3, .int 0])), (a1, .inr (3, [.int 0, .ref z, .int 0])), (o1, .inl (cyL, 1, .inr (.inl (fun _ => 0))))]) [0, 1, 20] rfl
  have hKc := hK.sub (tys' := [(cyL, .long)]) [5] rfl
  have hDc := hD.sub (ws' := [(x0, .inr (12, [.ref a1, .ref a2, .ref a3, .ref a4, .ref a5, .ref a6, .ref a7, .ref a8, .int 3, .int 0])), (a1, .inr (3, [.int 0, .ref z, .int 0])), (o1, .inl (cyL, 1, .inr (.inl (fun _ => 0))))]) [0, 1, 20] (by decide) rfl
  have hFc := va_free (wc := [(x0, .inr (12, [.ref a1, .ref a2, .ref a3, .ref a4, .ref a5, .ref a6, .ref a7, .ref a8, .int 3, .int 0])), (a1, .inr (3, [.int 0, .ref z, .int 0])), (o1, .inl (cyL, 1, .inr (.inl (fun _ => 0))))]) hD hS hA [0, 1, 20] rfl
  refine va_calli (vx_runSW (As := [.ref x0, .int (xs 1), .int (xs 2), .ref o1]) (rest := []) ⟨hx, hb, hml, hown, hts⟩ (k_L_copy l hfl G z x0 a1 a2 a3 a4 a5 a6 a7 a8 3 0 0 z ((xs 1)) ((xs 2)) o1 cyL (fun _ => 0) H.size ) (vx_cwSW 4 hts (lw_goodApp (lw_3 q515 q516 q0) q517) rfl rfl rfl (by decide +kernel) ⟨Nat.le_of_ble_eq_true rfl, Nat.le_of_ble_eq_true rfl⟩) ⟨PW.blind, PW.of hPc hKc hDc hG hS hFc [.ref x0, .int (xs 1), .int (xs 2), .ref o1]⟩ rfl rfl hl.1 rfl (lv_room (Nat.le_of_ble_eq_true rfl)) dL_law_372 ⟨Nat.le_of_ble_eq_true rfl, Nat.le_of_ble_eq_true rfl⟩) hS (fun q _ h => hFc q h) hFc (fun r_6 u t_8 H_5 locs ht hvm hw_7 hB hz1 hk1 hS => ?_)
  obtain ⟨hP, hD, hK⟩ := QW.join (wr := [(a2, .inr (3, [.int 0, .ref z, .int 0])), (a3, .inr (3, [.int 0, .ref z, .int 0])), (a4, .inr (3, [.int 0, .ref z, .int 0])), (a5, .inr (3, [.int 0, .ref z, .int 0])), (a6, .inr (10, [.ref b1, .ref b2, .ref b3, .int 0])), (b1, .inl (cyA, 400, .inl (nI))), (b2, .inl (cyJ, 512, .inl (fun _ => 0))), (b3, .inl (cyT, 400, .inl (fun _ => 0))), (a7, .inr (4, [.ref d1, .ref d2, .ref d3, .ref d4, .int 0, .int 12])), (d4, .inl (cyO, 20, .inr (.inr (.inr (.inr (fS)))))), (r0, .inl (cyI, 20, .inl (fun _ => 0))), (y0, .inr (18, [.int 0, .ref l1, .ref l2, .ref l3, .ref l4, .ref l5, .ref l6, .int 0, .int 3, .int 12, .ref m1, .ref m2, .ref m3, .ref m4, .ref m5, .ref m6])), (l1, .inr (3, [.int 0, .ref z, .int 0])), (l2, .inr (3, [.int 0, .ref z, .int 0])), (l3, .inr (3, [.int 0, .ref z, .int 0])), (l4, .inr (3, [.int 0, .ref z, .int 0])), (l5, .inr (3, [.int 0, .ref z, .int 0])), (l6, .inr (3, [.int 0, .ref z, .int 0])), (o2, .inl (cyD, 1, .inr (.inr (.inr (.inl (fun _ => 0))))))]) (w1 := [(o1, .inl (cyL, 1, .inr (.inl ((fun _ => 0)))))]) hP hD hK [0, 1, 20] [2, 3, 4, 5, 6, 7, 8, 9, 10, 11, 12, 13, 14, 15, 16, 17, 18, 19, 21] rfl rfl (by decide) (by decide) hk1 hFc ht hvm hB
  have hP : va_P G vwCl ([(a2, .inr (3, [.int 0, .ref z, .int 0])), (a3, .inr (3, [.int 0, .ref z, .int 0])), (a4, .inr (3, [.int 0, .ref z, .int 0])), (a5, .inr (3, [.int 0, .ref z, .int 0])), (a6, .inr (10, [.ref b1, .ref b2, .ref b3, .int 0])), (b1, .inl (cyA, 400, .inl (nI))), (b2, .inl (cyJ, 512, .inl (fun _ => 0))), (b3, .inl (cyT, 400, .inl (fun _ => 0))), (a7, .inr (4, [.ref d1, .ref d2, .ref d3, .ref d4, .int 0, .int 12])), (d4, .inl (cyO, 20, .inr (.inr (.inr (.inr (fS)))))), (r0, .inl (cyI, 20, .inl (fun _ => 0))), (y0, .inr (18, [.int 0, .ref l1, .ref l2, .ref l3, .ref l4, .ref l5, .ref l6, .int 0, .int 3, .int 12, .ref m1, .ref m2, .ref m3, .ref m4, .ref m5, .ref m6])), (l1, .inr (3, [.int 0, .ref z, .int 0])), (l2, .inr (3, [.int 0, .ref z, .int 0])), (l3, .inr (3, [.int 0, .ref z, .int 0])), (l4, .inr (3, [.int 0, .ref z, .int 0])), (l5, .inr (3, [.int 0, .ref z, .int 0])), (l6, .inr (3, [.int 0, .ref z, .int 0])), (o2, .inl (cyD, 1, .inr (.inr (.inr (.inl (fun _ => 0)))))), (o1, .inl (cyL, 1, .inr (.inl ((fun _ => 0)))))]) H_5 := hP
  have hD : va_D A ([(a2, .inr (3, [.int 0, .ref z, .int 0])), (a3, .inr (3, [.int 0, .ref z, .int 0])), (a4, .inr (3, [.int 0, .ref z, .int 0])), (a5, .inr (3, [.int 0, .ref z, .int 0])), (a6, .inr (10, [.ref b1, .ref b2, .ref b3, .int 0])), (b1, .inl (cyA, 400, .inl (nI))), (b2, .inl (cyJ, 512, .inl (fun _ => 0))), (b3, .inl (cyT, 400, .inl (fun _ => 0))), (a7, .inr (4, [.ref d1, .ref d2, .ref d3, .ref d4, .int 0, .int 12])), (d4, .inl (cyO, 20, .inr (.inr (.inr (.inr (fS)))))), (r0, .inl (cyI, 20, .inl (fun _ => 0))), (y0, .inr (18, [.int 0, .ref l1, .ref l2, .ref l3, .ref l4, .ref l5, .ref l6, .int 0, .int 3, .int 12, .ref m1, .ref m2, .ref m3, .ref m4, .ref m5, .ref m6])), (l1, .inr (3, [.int 0, .ref z, .int 0])), (l2, .inr (3, [.int 0, .ref z, .int 0])), (l3, .inr (3, [.int 0, .ref z, .int 0])), (l4, .inr (3, [.int 0, .ref z, .int 0])), (l5, .inr (3, [.int 0, .ref z, .int 0])), (l6, .inr (3, [.int 0, .ref z, .int 0])), (o2, .inl (cyD, 1, .inr (.inr (.inr (.inl (fun _ => 0)))))), (o1, .inl (cyL, 1, .inr (.inl ((fun _ => 0)))))]) := hD
  have hK : va_K G vwCl [(cyA, .int), (cyJ, .int), (cyT, .int), (cyO, .array .int), (cyI, .int), (cyL, .long), (cyD, .double), (cyL, .long)] s := hK
  refine W.widen (k := 136) (n := 2997) (Nat.le_of_ble_eq_true rfl) (Nat.le_of_ble_eq_true rfl) ?_
  obtain rfl : 1 = r_6 := hw_7.symm
  refine lv_istore (lv' := [(6, .int 1), (0, .ref b), (1, .ref x0), (2, .ref y0), (3, .ref o1), (4, .ref o2), (5, .int 0)]) hx hb dL_law_375 hl (by decide) rfl (fun ls hl => ?_)
  refine lv_aload_n hx hb dL_law_377 rfl (lv_at hl 3 rfl) ?_
  refine lv_aload_n hx hb dL_law_378 rfl (lv_at hl 1 rfl) ?_
  refine lv_iload hx hb dL_law_379 (lv_at hl 6 rfl) ?_
  refine lv_iconst (v := 1) hx hb dL_law_381 (by decide) ?_
  refine lv_iadd hx hb dL_law_382 ?_
  refine lv_topi (fun f_9 ef_9 => ?_)
  obtain rfl : f_9 = 1 := ef_9.trans (by decide)
  refine va_sld hx hb hX hbl hbA hS (by unfold vp_in; decide +kernel) dL_law_383 ?_
  refine lv_topi (fun f_10 ef_10 => ?_)
  obtain rfl : f_10 = xs 1 := ef_10
  refine lv_aload_n hx hb dL_law_384 rfl (lv_at hl 1 rfl) ?_
  refine lv_iload hx hb dL_law_385 (lv_at hl 6 rfl) ?_
  refine lv_iconst (v := 2) hx hb dL_law_387 (by decide) ?_
  refine lv_iadd hx hb dL_law_388 ?_
  refine lv_topi (fun f_11 ef_11 => ?_)
  obtain rfl : f_11 = 2 := ef_11.trans (by decide)
  refine va_sld hx hb hX hbl hbA hS (by unfold vp_in; decide +kernel) dL_law_389 ?_
  refine lv_topi (fun f_12 ef_12 => ?_)
  obtain rfl : f_12 = xs 2 := ef_12
  have hPc := hP.sub (ws' := [(y0, .inr (18, [.int 0, .ref l1, .ref l2, .ref l3, .ref l4, .ref l5, .ref l6, .int 0, .int 3, .int 12, .ref m1, .ref m2, .ref m3, .ref m4, .ref m5, .ref m6])), (l1, .inr (3, [.int 0, .ref z, .int 0]))]) [11, 12] rfl
  have hKc := hK.sub (tys' := []) [] rfl
  have hDc := hD.sub (ws' := [(y0, .inr (18, [.int 0, .ref l1, .ref l2, .ref l3, .ref l4, .ref l5, .ref l6, .int 0, .int 3, .int 12, .ref m1, .ref m2, .ref m3, .ref m4, .ref m5, .ref m6])), (l1, .inr (3, [.int 0, .ref z, .int 0]))]) [11, 12] (by decide) rfl
  have hFc := va_free (wc := [(y0, .inr (18, [.int 0, .ref l1, .ref l2, .ref l3, .ref l4, .ref l5, .ref l6, .int 0, .int 3, .int 12, .ref m1, .ref m2, .ref m3, .ref m4, .ref m5, .ref m6])), (l1, .inr (3, [.int 0, .ref z, .int 0]))]) hD hS hA [11, 12] rfl
  refine va_calli (va_runV (As := [.int (xs 1), .int (xs 2)]) (rest := []) ⟨hx, hb, hml, hown, hts⟩ (k_X14_copy l G z y0 0 l1 l2 l3 l4 l5 l6 3 12 m1 m2 m3 m4 m5 m6 0 z ((xs 1)) ((xs 2)) H_5.size ) (cwV 2 hts (lw_goodApp (lw_4 q1297 q1298 q1299 q7) q1300) rfl rfl rfl (by decide +kernel) ⟨Nat.le_of_ble_eq_true rfl, Nat.le_of_ble_eq_true rfl⟩) ⟨PW.blind, va_recv hK hP (ci := 18) (q0 := 11) rfl rfl, PW.of hPc hKc hDc hG hS hFc [.ref y0, .int (xs 1), .int (xs 2)]⟩ rfl rfl hl.1 rfl (lv_room (Nat.le_of_ble_eq_true rfl)) dL_law_390 ⟨Nat.le_of_ble_eq_true rfl, Nat.le_of_ble_eq_true rfl⟩) hS (fun q _ h => hFc q h) hFc (fun r_14 u t_16 H_13 locs ht hvm hw_15 hB hz1 hk1 hS => ?_)
  obtain ⟨hP, hD, hK⟩ := QW.join (wr := [(a2, .inr (3, [.int 0, .ref z, .int 0])), (a3, .inr (3, [.int 0, .ref z, .int 0])), (a4, .inr (3, [.int 0, .ref z, .int 0])), (a5, .inr (3, [.int 0, .ref z, .int 0])), (a6, .inr (10, [.ref b1, .ref b2, .ref b3, .int 0])), (b1, .inl (cyA, 400, .inl (nI))), (b2, .inl (cyJ, 512, .inl (fun _ => 0))), (b3, .inl (cyT, 400, .inl (fun _ => 0))), (a7, .inr (4, [.ref d1, .ref d2, .ref d3, .ref d4, .int 0, .int 12])), (d4, .inl (cyO, 20, .inr (.inr (.inr (.inr (fS)))))), (r0, .inl (cyI, 20, .inl (fun _ => 0))), (l2, .inr (3, [.int 0, .ref z, .int 0])), (l3, .inr (3, [.int 0, .ref z, .int 0])), (l4, .inr (3, [.int 0, .ref z, .int 0])), (l5, .inr (3, [.int 0, .ref z, .int 0])), (l6, .inr (3, [.int 0, .ref z, .int 0])), (o2, .inl (cyD, 1, .inr (.inr (.inr (.inl (fun _ => 0)))))), (o1, .inl (cyL, 1, .inr (.inl ((fun _ => 0)))))]) (w1 := [(y0, .inr (18, [.int 1, .ref l1, .ref l2, .ref l3, .ref l4, .ref l5, .ref l6, .int 0, .int 3, .int 12, .ref m1, .ref m2, .ref m3, .ref m4, .ref m5, .ref m6]))]) hP hD hK [11, 12] [0, 1, 2, 3, 4, 5, 6, 7, 8, 9, 10, 13, 14, 15, 16, 17, 18, 19] rfl rfl (by decide) (by decide) hk1 hFc ht hvm hB
  have hP : va_P G vwCl ([(a2, .inr (3, [.int 0, .ref z, .int 0])), (a3, .inr (3, [.int 0, .ref z, .int 0])), (a4, .inr (3, [.int 0, .ref z, .int 0])), (a5, .inr (3, [.int 0, .ref z, .int 0])), (a6, .inr (10, [.ref b1, .ref b2, .ref b3, .int 0])), (b1, .inl (cyA, 400, .inl (nI))), (b2, .inl (cyJ, 512, .inl (fun _ => 0))), (b3, .inl (cyT, 400, .inl (fun _ => 0))), (a7, .inr (4, [.ref d1, .ref d2, .ref d3, .ref d4, .int 0, .int 12])), (d4, .inl (cyO, 20, .inr (.inr (.inr (.inr (fS)))))), (r0, .inl (cyI, 20, .inl (fun _ => 0))), (l2, .inr (3, [.int 0, .ref z, .int 0])), (l3, .inr (3, [.int 0, .ref z, .int 0])), (l4, .inr (3, [.int 0, .ref z, .int 0])), (l5, .inr (3, [.int 0, .ref z, .int 0])), (l6, .inr (3, [.int 0, .ref z, .int 0])), (o2, .inl (cyD, 1, .inr (.inr (.inr (.inl (fun _ => 0)))))), (o1, .inl (cyL, 1, .inr (.inl ((fun _ => 0))))), (y0, .inr (18, [.int 1, .ref l1, .ref l2, .ref l3, .ref l4, .ref l5, .ref l6, .int 0, .int 3, .int 12, .ref m1, .ref m2, .ref m3, .ref m4, .ref m5, .ref m6]))]) H_13 := hP
  have hD : va_D A ([(a2, .inr (3, [.int 0, .ref z, .int 0])), (a3, .inr (3, [.int 0, .ref z, .int 0])), (a4, .inr (3, [.int 0, .ref z, .int 0])), (a5, .inr (3, [.int 0, .ref z, .int 0])), (a6, .inr (10, [.ref b1, .ref b2, .ref b3, .int 0])), (b1, .inl (cyA, 400, .inl (nI))), (b2, .inl (cyJ, 512, .inl (fun _ => 0))), (b3, .inl (cyT, 400, .inl (fun _ => 0))), (a7, .inr (4, [.ref d1, .ref d2, .ref d3, .ref d4, .int 0, .int 12])), (d4, .inl (cyO, 20, .inr (.inr (.inr (.inr (fS)))))), (r0, .inl (cyI, 20, .inl (fun _ => 0))), (l2, .inr (3, [.int 0, .ref z, .int 0])), (l3, .inr (3, [.int 0, .ref z, .int 0])), (l4, .inr (3, [.int 0, .ref z, .int 0])), (l5, .inr (3, [.int 0, .ref z, .int 0])), (l6, .inr (3, [.int 0, .ref z, .int 0])), (o2, .inl (cyD, 1, .inr (.inr (.inr (.inl (fun _ => 0)))))), (o1, .inl (cyL, 1, .inr (.inl ((fun _ => 0))))), (y0, .inr (18, [.int 1, .ref l1, .ref l2, .ref l3, .ref l4, .ref l5, .ref l6, .int 0, .int 3, .int 12, .ref m1, .ref m2, .ref m3, .ref m4, .ref m5, .ref m6]))]) := hD
  have hK : va_K G vwCl [(cyA, .int), (cyJ, .int), (cyT, .int), (cyO, .array .int), (cyI, .int), (cyL, .long), (cyD, .double), (cyL, .long)] s := hK
  refine W.widen (k := 136) (n := 2997) (Nat.le_of_ble_eq_true rfl) (Nat.le_of_ble_eq_true rfl) ?_
  refine lv_istore (lv' := [(7, .int r_14), (6, .int 1), (0, .ref b), (1, .ref x0), (2, .ref y0), (3, .ref o1), (4, .ref o2), (5, .int 0)]) hx hb dL_law_393 hl (by decide) rfl (fun ls hl => ?_)
  refine lv_aload_n hx hb dL_law_395 rfl (lv_at hl 4 rfl) ?_
  have hPc := hP.sub (ws' := [(y0, .inr (18, [.int 1, .ref l1, .ref l2, .ref l3, .ref l4, .ref l5, .ref l6, .int 0, .int 3, .int 12, .ref m1, .ref m2, .ref m3, .ref m4, .ref m5, .ref m6]))]) [18] rfl
  have hKc := hK.sub (tys' := []) [] rfl
  refine va_calli (va_runV (As := []) (rest := []) ⟨hx, hb, hml, hown, hts⟩ (k_X14_thrown l G z y0 1 l1 l2 l3 l4 l5 l6 3 12 m1 m2 m3 m4 m5 m6 H_13.size ) (cwV 0 hts (lw_goodApp (lw_4 q1236 q1237 q1238 q7) q1239) rfl rfl rfl (by decide +kernel) ⟨Nat.le_of_ble_eq_true rfl, Nat.le_of_ble_eq_true rfl⟩) ⟨PR.blind, va_recv hK hP (ci := 18) (q0 := 18) rfl rfl, PR.of hPc hKc hG hS hA [.ref y0]⟩ rfl rfl hl.1 rfl (lv_room (Nat.le_of_ble_eq_true rfl)) dL_law_396 ⟨Nat.le_of_ble_eq_true rfl, Nat.le_of_ble_eq_true rfl⟩) hS (fun q h9 h => zN.not h9 h) (fun q h => hA q (Nat.le_trans hS.1 h)) (fun r_18 u t_20 H_17 locs ht hvm hw_19 hB hz1 hk1 hS => ?_)
  have hP := hP.grown hk1
  refine W.widen (k := 136) (n := 2997) (Nat.le_of_ble_eq_true rfl) (Nat.le_of_ble_eq_true rfl) ?_
  obtain rfl : 1 = r_18 := hw_19.symm
  refine lv_iload hx hb dL_law_399 (lv_at hl 1 rfl) ?_
  refine lv_icmp_eq (tgt := 406) hx hb dL_law_401 (by decide) (fun c_21 => ?_) (fun c_21 => absurd rfl c_21)
  refine lv_iload hx hb dL_law_406 (lv_at hl 1 rfl) ?_
  refine lv_if_ne (tgt := 423) hx hb dL_law_408 (by decide) (fun c_22 => ?_) (fun c_22 => absurd c_22 (by decide))
  refine lv_goto (tgt := 3288) hx hb dL_law_423 (by decide) ?_
  exact law_tail hfl C0 hA hA2 hS (lv_sub hl [2, 7] rfl) (Nat.le_of_ble_eq_true rfl) (Nat.le_of_ble_eq_true rfl)
set_option maxHeartbeats 8000000 in
set_option maxRecDepth 100000 in
/-- script value 2 -/
theorem law_case_2 {p : Program} {l : Launch} {e : Env} {s : State} {m : MethodId} {below : List Frame} {meth : Method} {c : Code} {b : Nat} {xs : Nat → Int32} (hfl : l.stackTraces = false) (C0 : lw_At p s m meth c b 7 xs) {A : Nat → Prop} (hA : ∀ q : Nat, s.heap.size ≤ q → A q) (hA2 : ∀ q : Nat, A q → s.heap.size ≤ q) (G : va_G) (z : Nat) (hG : zG z A s s.heap) (x0 : Nat) (y0 : Nat) (o1 : Nat) (o2 : Nat) (cyL : ClassId) (cyD : ClassId) (a1 : Nat) (a2 : Nat) (a3 : Nat) (a4 : Nat) (a5 : Nat) (a6 : Nat) (a7 : Nat) (a8 : Nat) (b1 : Nat) (b2 : Nat) (b3 : Nat) (cyA : ClassId) (cyJ : ClassId) (cyT : ClassId) (d1 : Nat) (d2 : Nat) (d3 : Nat) (d4 : Nat) (cyO : ClassId) (fS : Nat → Option Nat) (cyI : ClassId) (r0 : Nat) (l1 : Nat) (l2 : Nat) (l3 : Nat) (l4 : Nat) (l5 : Nat) (l6 : Nat) (m1 : Nat) (m2 : Nat) (m3 : Nat) (m4 : Nat) (m5 : Nat) (m6 : Nat) (hf0 : fS 0 = some r0) {H : Heap} {locs : List Loc} (hP : va_P G vwCl ([(x0, .inr (12, [.ref a1, .ref a2, .ref a3, .ref a4, .ref a5, .ref a6, .ref a7, .ref a8, .int 3, .int 0])), (a1, .inr (3, [.int 0, .ref z, .int 0])), (a2, .inr (3, [.int 0, .ref z, .int 0])), (a3, .inr (3, [.int 0, .ref z, .int 0])), (a4, .inr (3, [.int 0, .ref z, .int 0])), (a5, .inr (3, [.int 0, .ref z, .int 0])), (a6, .inr (10, [.ref b1, .ref b2, .ref b3, .int 0])), (b1, .inl (cyA, 400, .inl (nI))), (b2, .inl (cyJ, 512, .inl (fun _ => 0))), (b3, .inl (cyT, 400, .inl (fun _ => 0))), (a7, .inr (4, [.ref d1, .ref d2, .ref d3, .ref d4, .int 0, .int 12])), (d4, .inl (cyO, 20, .inr (.inr (.inr (.inr (fS)))))), (r0, .inl (cyI, 20, .inl (fun _ => 0))), (y0, .inr (18, [.int 0, .ref l1, .ref l2, .ref l3, .ref l4, .ref l5, .ref l6, .int 0, .int 3, .int 12, .ref m1, .ref m2, .ref m3, .ref m4, .ref m5, .ref m6])), (l1, .inr (3, [.int 0, .ref z, .int 0])), (l2, .inr (3, [.int 0, .ref z, .int 0])), (l3, .inr (3, [.int 0, .ref z, .int 0])), (l4, .inr (3, [.int 0, .ref z, .int 0])), (l5, .inr (3, [.int 0, .ref z, .int 0])), (l6, .inr (3, [.int 0, .ref z, .int 0])), (o1, .inl (cyL, 1, .inr (.inl (fun _ => 0)))), (o2, .inl (cyD, 1, .inr (.inr (.inr (.inl (fun _ => 0))))))]) H) (hD : va_D A ([(x0, .inr (12, [.ref a1, .ref a2, .ref a3, .ref a4, .ref a5, .ref a6, .ref a7, .ref a8, .int 3, .int 0])), (a1, .inr (3, [.int 0, .ref z, .int 0])), (a2, .inr (3, [.int 0, .ref z, .int 0])), (a3, .inr (3, [.int 0, .ref z, .int 0])), (a4, .inr (3, [.int 0, .ref z, .int 0])), (a5, .inr (3, [.int 0, .ref z, .int 0])), (a6, .inr (10, [.ref b1, .ref b2, .ref b3, .int 0])), (b1, .inl (cyA, 400, .inl (nI))), (b2, .inl (cyJ, 512, .inl (fun _ => 0))), (b3, .inl (cyT, 400, .inl (fun _ => 0))), (a7, .inr (4, [.ref d1, .ref d2, .ref d3, .ref d4, .int 0, .int 12])), (d4, .inl (cyO, 20, .inr (.inr (.inr (.inr (fS)))))), (r0, .inl (cyI, 20, .inl (fun _ => 0))), (y0, .inr (18, [.int 0, .ref l1, .ref l2, .ref l3, .ref l4, .ref l5, .ref l6, .int 0, .int 3, .int 12, .ref m1, .ref m2, .ref m3, .ref m4, .ref m5, .ref m6])), (l1, .inr (3, [.int 0, .ref z, .int 0])), (l2, .inr (3, [.int 0, .ref z, .int 0])), (l3, .inr (3, [.int 0, .ref z, .int 0])), (l4, .inr (3, [.int 0, .ref z, .int 0])), (l5, .inr (3, [.int 0, .ref z, .int 0])), (l6, .inr (3, [.int 0, .ref z, .int 0])), (o1, .inl (cyL, 1, .inr (.inl (fun _ => 0)))), (o2, .inl (cyD, 1, .inr (.inr (.inr (.inl (fun _ => 0))))))])) (hK : va_K G vwCl [(cyA, .int), (cyJ, .int), (cyT, .int), (cyO, .array .int), (cyI, .int), (cyL, .long), (cyD, .double)] s) (hS : va_S A s.heap H locs) {ls : Array Slot} (hl : lv_has ls 9 [(0, .ref b), (1, .ref x0), (2, .ref y0), (3, .ref o1), (4, .ref o2), (5, .int 0)]) : W p l e room_1 s m #[Value.ref b] below meth c H locs 135 2991 (lw_Z below #[Value.ref b] s) (F0 m 426 ls []) := by
  have C9 := C0
  obtain ⟨hx, hb, hr, hml, hown, hts0, hX, hbl, hlocks, hgv⟩ := id C0
  have hg := lw_sub_good hts0
  have hts : ∀ w ∈ (lw_hd :: lw_good), w.before #[Value.ref b] s = true := fun w h => (List.mem_cons.mp h).elim (fun e9 => e9 ▸ hg _ q0) (hg w)
  have hbA : ¬ A b := fun h => Nat.not_le.mpr hbl (hA2 b h)
  refine lv_aload_n hx hb dL_law_426 rfl (lv_at hl 1 rfl) ?_
  refine lv_aload_n hx hb dL_law_427 rfl (lv_at hl 0 rfl) ?_
  refine lv_iload hx hb dL_law_428 (lv_at hl 5 rfl) ?_
  refine lv_iconst (v := 1) hx hb dL_law_430 (by decide) ?_
  refine lv_iadd hx hb dL_law_431 ?_
  refine lv_topi (fun f_1 ef_1 => ?_)
  obtain rfl : f_1 = 1 := ef_1.trans (by decide)
  refine va_sld hx hb hX hbl hbA hS (by unfold vp_in; decide +kernel) dL_law_432 ?_
  refine lv_topi (fun f_2 ef_2 => ?_)
  obtain rfl : f_2 = xs 1 := ef_2
  refine lv_aload_n hx hb dL_law_433 rfl (lv_at hl 0 rfl) ?_
  refine lv_iload hx hb dL_law_434 (lv_at hl 5 rfl) ?_
  refine lv_iconst (v := 2) hx hb dL_law_436 (by decide) ?_
  refine lv_iadd hx hb dL_law_437 ?_
  refine lv_topi (fun f_3 ef_3 => ?_)
  obtain rfl : f_3 = 2 := ef_3.trans (by decide)
  refine va_sld hx hb hX hbl hbA hS (by unfold vp_in; decide +kernel) dL_law_438 ?_
  refine lv_topi (fun f_4 ef_4 => ?_)
  obtain rfl : f_4 = xs 2 := ef_4
  refine lv_aload_n hx hb dL_law_439 rfl (lv_at hl 3 rfl) ?_
  have hPc := hP.sub (ws' := [(x0, .inr (12, [.ref a1, .ref a2, .ref a3, .ref a4, .ref a5, .ref a6, .ref a7, .ref a8, .int 3, .int 0])), (a1, .inr (3, [.int 0, .ref z, .int 0])), (o1, .inl (cyL, 1, .inr (.inl (fun _ => 0))))]) [0, 1, 20] rfl
  have hKc := hK.sub (tys' := [(cyL, .long)]) [5] rfl
  have hDc := hD.sub (ws' := [(x0, .inr (12, [.ref a1, .ref a2, .ref a3, .ref a4, .ref a5, .ref a6, .ref a7, .ref a8, .int 3, .int 0])), (a1, .inr (3, [.int 0, .ref z, .int 0])), (o1, .inl (cyL, 1, .inr (.inl (fun _ => 0))))]) [0, 1, 20] (by decide) rfl
  have hFc := va_free (wc := [(x0, .inr (12, [.ref a1, .ref a2, .ref a3, .ref a4, .ref a5, .ref a6, .ref a7, .ref a8, .int 3, .int 0])), (a1, .inr (3, [.int 0, .ref z, .int 0])), (o1, .inl (cyL, 1, .inr (.inl (fun _ => 0))))]) hD hS hA [0, 1, 20] rfl
  refine va_calli (vx_runSW (As := [.ref x0, .int (xs 1), .int (xs 2), .ref o1]) (rest := []) ⟨hx, hb, hml, hown, hts⟩ (k_L_twin l hfl G z x0 a1 a2 a3 a4 a5 a6 a7 a8 3 0 0 z ((xs 1)) ((xs 2)) o1 cyL (fun _ => 0) H.size ) (vx_cwSW 4 hts (lw_goodApp (lw_3 q563 q564 q0) q565) rfl rfl rfl (by decide +kernel) ⟨Nat.le_of_ble_eq_true rfl, Nat.le_of_ble_eq_true rfl⟩) ⟨PW.blind, PW.of hPc hKc hDc hG hS hFc [.ref x0, .int (xs 1), .int (xs 2), .ref o1]⟩ rfl rfl hl.1 rfl (lv_room (Nat.le_of_ble_eq_true rfl)) dL_law_440 ⟨Nat.le_of_ble_eq_true rfl, Nat.le_of_ble_eq_true rfl⟩) hS (fun q _ h => hFc q h) hFc (fun r_6 u t_8 H_5 locs ht hvm hw_7 hB hz1 hk1 hS => ?_)
  obtain ⟨hP, hD, hK⟩ := QW.join (wr := [(a2, .inr (3, [.int 0, .ref z, .int 0])), (a3, .inr (3, [.int 0, .ref z, .int 0])), (a4, .inr (3, [.int 0, .ref z, .int 0])), (a5, .inr (3, [.int 0, .ref z, .int 0])), (a6, .inr (10, [.ref b1, .ref b2, .ref b3, .int 0])), (b1, .inl (cyA, 400, .inl (nI))), (b2, .inl (cyJ, 512, .inl (fun _ => 0))), (b3, .inl (cyT, 400, .inl (fun _ => 0))), (a7, .inr (4, [.ref d1, .ref d2, .ref d3, .ref d4, .int 0, .int 12])), (d4, .inl (cyO, 20, .inr (.inr (.inr (.inr (fS)))))), (r0, .inl (cyI, 20, .inl (fun _ => 0))), (y0, .inr (18, [.int 0, .ref l1, .ref l2, .ref l3, .ref l4, .ref l5, .ref l6, .int 0, .int 3, .int 12, .ref m1, .ref m2, .ref m3, .ref m4, .ref m5, .ref m6])), (l1, .inr (3, [.int 0, .ref z, .int 0])), (l2, .inr (3, [.int 0, .ref z, .int 0])), (l3, .inr (3, [.int 0, .ref z, .int 0])), (l4, .inr (3, [.int 0, .ref z, .int 0])), (l5, .inr (3, [.int 0, .ref z, .int 0])), (l6, .inr (3, [.int 0, .ref z, .int 0])), (o2, .inl (cyD, 1, .inr (.inr (.inr (.inl (fun _ => 0))))))]) (w1 := [(o1, .inl (cyL, 1, .inr (.inl ((fun _ => 0)))))]) hP hD hK [0, 1, 20] [2, 3, 4, 5, 6, 7, 8, 9, 10, 11, 12, 13, 14, 15, 16, 17, 18, 19, 21] rfl rfl (by decide) (by decide) hk1 hFc ht hvm hB
  have hP : va_P G vwCl ([(a2, .inr (3, [.int 0, .ref z, .int 0])), (a3, .inr (3, [.int 0, .ref z, .int 0])), (a4, .inr (3, [.int 0, .ref z, .int 0])), (a5, .inr (3, [.int 0, .ref z, .int 0])), (a6, .inr (10, [.ref b1, .ref b2, .ref b3, .int 0])), (b1, .inl (cyA, 400, .inl (nI))), (b2, .inl (cyJ, 512, .inl (fun _ => 0))), (b3, .inl (cyT, 400, .inl (fun _ => 0))), (a7, .inr (4, [.ref d1, .ref d2, .ref d3, .ref d4, .int 0, .int 12])), (d4, .inl (cyO, 20, .inr (.inr (.inr (.inr (fS)))))), (r0, .inl (cyI, 20, .inl (fun _ => 0))), (y0, .inr (18, [.int 0, .ref l1, .ref l2, .ref l3, .ref l4, .ref l5, .ref l6, .int 0, .int 3, .int 12, .ref m1, .ref m2, .ref m3, .ref m4, .ref m5, .ref m6])), (l1, .inr (3, [.int 0, .ref z, .int 0])), (l2, .inr (3, [.int 0, .ref z, .int 0])), (l3, .inr (3, [.int 0, .ref z, .int 0])), (l4, .inr (3, [.int 0, .ref z, .int 0])), (l5, .inr (3, [.int 0, .ref z, .int 0])), (l6, .inr (3, [.int 0, .ref z, .int 0])), (o2, .inl (cyD, 1, .inr (.inr (.inr (.inl (fun _ => 0)))))), (o1, .inl (cyL, 1, .inr (.inl ((fun _ => 0)))))]) H_5 := hP
  have hD : va_D A ([(a2, .inr (3, [.int 0, .ref z, .int 0])), (a3, .inr (3, [.int 0, .ref z, .int 0])), (a4, .inr (3, [.int 0, .ref z, .int 0])), (a5, .inr (3, [.int 0, .ref z, .int 0])), (a6, .inr (10, [.ref b1, .ref b2, .ref b3, .int 0])), (b1, .inl (cyA, 400, .inl (nI))), (b2, .inl (cyJ, 512, .inl (fun _ => 0))), (b3, .inl (cyT, 400, .inl (fun _ => 0))), (a7, .inr (4, [.ref d1, .ref d2, .ref d3, .ref d4, .int 0, .int 12])), (d4, .inl (cyO, 20, .inr (.inr (.inr (.inr (fS)))))), (r0, .inl (cyI, 20, .inl (fun _ => 0))), (y0, .inr (18, [.int 0, .ref l1, .ref l2, .ref l3, .ref l4, .ref l5, .ref l6, .int 0, .int 3, .int 12, .ref m1, .ref m2, .ref m3, .ref m4, .ref m5, .ref m6])), (l1, .inr (3, [.int 0, .ref z, .int 0])), (l2, .inr (3, [.int 0, .ref z, .int 0])), (l3, .inr (3, [.int 0, .ref z, .int 0])), (l4, .inr (3, [.int 0, .ref z, .int 0])), (l5, .inr (3, [.int 0, .ref z, .int 0])), (l6, .inr (3, [.int 0, .ref z, .int 0])), (o2, .inl (cyD, 1, .inr (.inr (.inr (.inl (fun _ => 0)))))), (o1, .inl (cyL, 1, .inr (.inl ((fun _ => 0)))))]) := hD
  have hK : va_K G vwCl [(cyA, .int), (cyJ, .int), (cyT, .int), (cyO, .array .int), (cyI, .int), (cyL, .long), (cyD, .double), (cyL, .long)] s := hK
  refine W.widen (k := 136) (n := 2997) (Nat.le_of_ble_eq_true rfl) (Nat.le_of_ble_eq_true rfl) ?_
  obtain rfl : 1 = r_6 := hw_7.symm
  refine lv_istore (lv' := [(6, .int 1), (0, .ref b), (1, .ref x0), (2, .ref y0), (3, .ref o1), (4, .ref o2), (5, .int 0)]) hx hb dL_law_443 hl (by decide) rfl (fun ls hl => ?_)
  refine lv_aload_n hx hb dL_law_445 rfl (lv_at hl 3 rfl) ?_
  refine lv_aload_n hx hb dL_law_446 rfl (lv_at hl 1 rfl) ?_
  refine lv_iload hx hb dL_law_447 (lv_at hl 6 rfl) ?_
  refine lv_iconst (v := 1) hx hb dL_law_449 (by decide) ?_
  refine lv_iadd hx hb dL_law_450 ?_
  refine lv_topi (fun f_9 ef_9 => ?_)
  obtain rfl : f_9 = 1 := ef_9.trans (by decide)
  refine va_sld hx hb hX hbl hbA hS (by unfold vp_in; decide +kernel) dL_law_451 ?_
  refine lv_topi (fun f_10 ef_10 => ?_)
  obtain rfl : f_10 = xs 1 := ef_10
  refine lv_aload_n hx hb dL_law_452 rfl (lv_at hl 1 rfl) ?_
  refine lv_iload hx hb dL_law_453 (lv_at hl 6 rfl) ?_
  refine lv_iconst (v := 2) hx hb dL_law_455 (by decide) ?_
  refine lv_iadd hx hb dL_law_456 ?_
  refine lv_topi (fun f_11 ef_11 => ?_)
  obtain rfl : f_11 = 2 := ef_11.trans (by decide)
  refine va_sld hx hb hX hbl hbA hS (by unfold vp_in; decide +kernel) dL_law_457 ?_
  refine lv_topi (fun f_12 ef_12 => ?_)
  obtain rfl : f_12 = xs 2 := ef_12
  have hPc := hP.sub (ws' := [(y0, .inr (18, [.int 0, .ref l1, .ref l2, .ref l3, .ref l4, .ref l5, .ref l6, .int 0, .int 3, .int 12, .ref m1, .ref m2, .ref m3, .ref m4, .ref m5, .ref m6])), (l1, .inr (3, [.int 0, .ref z, .int 0]))]) [11, 12] rfl
  have hKc := hK.sub (tys' := []) [] rfl
  have hDc := hD.sub (ws' := [(y0, .inr (18, [.int 0, .ref l1, .ref l2, .ref l3, .ref l4, .ref l5, .ref l6, .int 0, .int 3, .int 12, .ref m1, .ref m2, .ref m3, .ref m4, .ref m5, .ref m6])), (l1, .inr (3, [.int 0, .ref z, .int 0]))]) [11, 12] (by decide) rfl
  have hFc := va_free (wc := [(y0, .inr (18, [.int 0, .ref l1, .ref l2, .ref l3, .ref l4, .ref l5, .ref l6, .int 0, .int 3, .int 12, .ref m1, .ref m2, .ref m3, .ref m4, .ref m5, .ref m6])), (l1, .inr (3, [.int 0, .ref z, .int 0]))]) hD hS hA [11, 12] rfl
  refine va_calli (va_runV (As := [.int (xs 1), .int (xs 2)]) (rest := []) ⟨hx, hb, hml, hown, hts⟩ (k_X14_twin l G z y0 0 l1 l2 l3 l4 l5 l6 3 12 m1 m2 m3 m4 m5 m6 0 z ((xs 1)) ((xs 2)) H_5.size ) (cwV 2 hts (lw_goodApp (lw_4 q1317 q1318 q1319 q7) q1320) rfl rfl rfl (by decide +kernel) ⟨Nat.le_of_ble_eq_true rfl, Nat.le_of_ble_eq_true rfl⟩) ⟨PW.blind, va_recv hK hP (ci := 18) (q0 := 11) rfl rfl, PW.of hPc hKc hDc hG hS hFc [.ref y0, .int (xs 1), .int (xs 2)]⟩ rfl rfl hl.1 rfl (lv_room (Nat.le_of_ble_eq_true rfl)) dL_law_458 ⟨Nat.le_of_ble_eq_true rfl, Nat.le_of_ble_eq_true rfl⟩) hS (fun q _ h => hFc q h) hFc (fun r_14 u t_16 H_13 locs ht hvm hw_15 hB hz1 hk1 hS => ?_)
  obtain ⟨hP, hD, hK⟩ := QW.join (wr := [(a2, .inr (3, [.int 0, .ref z, .int 0])), (a3, .inr (3, [.int 0, .ref z, .int 0])), (a4, .inr (3, [.int 0, .ref z, .int 0])), (a5, .inr (3, [.int 0, .ref z, .int 0])), (a6, .inr (10, [.ref b1, .ref b2, .ref b3, .int 0])), (b1, .inl (cyA, 400, .inl (nI))), (b2, .inl (cyJ, 512, .inl (fun _ => 0))), (b3, .inl (cyT, 400, .inl (fun _ => 0))), (a7, .inr (4, [.ref d1, .ref d2, .ref d3, .ref d4, .int 0, .int 12])), (d4, .inl (cyO, 20, .inr (.inr (.inr (.inr (fS)))))), (r0, .inl (cyI, 20, .inl (fun _ => 0))), (l2, .inr (3, [.int 0, .ref z, .int 0])), (l3, .inr (3, [.int 0, .ref z, .int 0])), (l4, .inr (3, [.int 0, .ref z, .int 0])), (l5, .inr (3, [.int 0, .ref z, .int 0])), (l6, .inr (3, [.int 0, .ref z, .int 0])), (o2, .inl (cyD, 1, .inr (.inr (.inr (.inl (fun _ => 0)))))), (o1, .inl (cyL, 1, .inr (.inl ((fun _ => 0)))))]) (w1 := [(y0, .inr (18, [.int 1, .ref l1, .ref l2, .ref l3, .ref l4, .ref l5, .ref l6, .int 0, .int 3, .int 12, .ref m1, .ref m2, .ref m3, .ref m4, .ref m5, .ref m6]))]) hP hD hK [11, 12] [0, 1, 2, 3, 4, 5, 6, 7, 8, 9, 10, 13, 14, 15, 16, 17, 18, 19] rfl rfl (by decide) (by decide) hk1 hFc ht hvm hB
  have hP : va_P G vwCl ([(a2, .inr (3, [.int 0, .ref z, .int 0])), (a3, .inr (3, [.int 0, .ref z, .int 0])), (a4, .inr (3, [.int 0, .ref z, .int 0])), (a5, .inr (3, [.int 0, .ref z, .int 0])), (a6, .inr (10, [.ref b1, .ref b2, .ref b3, .int 0])), (b1, .inl (cyA, 400, .inl (nI))), (b2, .inl (cyJ, 512, .inl (fun _ => 0))), (b3, .inl (cyT, 400, .inl (fun _ => 0))), (a7, .inr (4, [.ref d1, .ref d2, .ref d3, .ref d4, .int 0, .int 12])), (d4, .inl (cyO, 20, .inr (.inr (.inr (.inr (fS)))))), (r0, .inl (cyI, 20, .inl (fun _ => 0))), (l2, .inr (3, [.int 0, .ref z, .int 0])), (l3, .inr (3, [.int 0, .ref z, .int 0])), (l4, .inr (3, [.int 0, .ref z, .int 0])), (l5, .inr (3, [.int 0, .ref z, .int 0])), (l6, .inr (3, [.int 0, .ref z, .int 0])), (o2, .inl (cyD, 1, .inr (.inr (.inr (.inl (fun _ => 0)))))), (o1, .inl (cyL, 1, .inr (.inl ((fun _ => 0))))), (y0, .inr (18, [.int 1, .ref l1, .ref l2, .ref l3, .ref l4, .ref l5, .ref l6, .int 0, .int 3, .int 12, .ref m1, .ref m2, .ref m3, .ref m4, .ref m5, .ref m6]))]) H_13 := hP
  have hD : va_D A ([(a2, .inr (3, [.int 0, .ref z, .int 0])), (a3, .inr (3, [.int 0, .ref z, .int 0])), (a4, .inr (3, [.int 0, .ref z, .int 0])), (a5, .inr (3, [.int 0, .ref z, .int 0])), (a6, .inr (10, [.ref b1, .ref b2, .ref b3, .int 0])), (b1, .inl (cyA, 400, .inl (nI))), (b2, .inl (cyJ, 512, .inl (fun _ => 0))), (b3, .inl (cyT, 400, .inl (fun _ => 0))), (a7, .inr (4, [.ref d1, .ref d2, .ref d3, .ref d4, .int 0, .int 12])), (d4, .inl (cyO, 20, .inr (.inr (.inr (.inr (fS)))))), (r0, .inl (cyI, 20, .inl (fun _ => 0))), (l2, .inr (3, [.int 0, .ref z, .int 0])), (l3, .inr (3, [.int 0, .ref z, .int 0])), (l4, .inr (3, [.int 0, .ref z, .int 0])), (l5, .inr (3, [.int 0, .ref z, .int 0])), (l6, .inr (3, [.int 0, .ref z, .int 0])), (o2, .inl (cyD, 1, .inr (.inr (.inr (.inl (fun _ => 0)))))), (o1, .inl (cyL, 1, .inr (.inl ((fun _ => 0))))), (y0, .inr (18, [.int 1, .ref l1, .ref l2, .ref l3, .ref l4, .ref l5, .ref l6, .int 0, .int 3, .int 12, .ref m1, .ref m2, .ref m3, .ref m4, .ref m5, .ref m6]))]) := hD
  have hK : va_K G vwCl [(cyA, .int), (cyJ, .int), (cyT, .int), (cyO, .array .int), (cyI, .int), (cyL, .long), (cyD, .double), (cyL, .long)] s := hK
  refine W.widen (k := 136) (n := 2997) (Nat.le_of_ble_eq_true rfl) (Nat.le_of_ble_eq_true rfl) ?_
  refine lv_istore (lv' := [(7, .int r_14), (6, .int 1), (0, .ref b), (1, .ref x0), (2, .ref y0), (3, .ref o1), (4, .ref o2), (5, .int 0)]) hx hb dL_law_461 hl (by decide) rfl (fun ls hl => ?_)
  refine lv_aload_n hx hb dL_law_463 rfl (lv_at hl 4 rfl) ?_
  have hPc := hP.sub (ws' := [(y0, .inr (18, [.int 1, .ref l1, .ref l2, .ref l3, .ref l4, .ref l5, .ref l6, .int 0, .int 3, .int 12, .ref m1, .ref m2, .ref m3, .ref m4, .ref m5, .ref m6]))]) [18] rfl
  have hKc := hK.sub (tys' := []) [] rfl
  refine va_calli (va_runV (As := []) (rest := []) ⟨hx, hb, hml, hown, hts⟩ (k_X14_thrown l G z y0 1 l1 l2 l3 l4 l5 l6 3 12 m1 m2 m3 m4 m5 m6 H_13.size ) (cwV 0 hts (lw_goodApp (lw_4 q1236 q1237 q1238 q7) q1239) rfl rfl rfl (by decide +kernel) ⟨Nat.le_of_ble_eq_true rfl, Nat.le_of_ble_eq_true rfl⟩) ⟨PR.blind, va_recv hK hP (ci := 18) (q0 := 18) rfl rfl, PR.of hPc hKc hG hS hA [.ref y0]⟩ rfl rfl hl.1 rfl (lv_room (Nat.le_of_ble_eq_true rfl)) dL_law_464 ⟨Nat.le_of_ble_eq_true rfl, Nat.le_of_ble_eq_true rfl⟩) hS (fun q h9 h => zN.not h9 h) (fun q h => hA q (Nat.le_trans hS.1 h)) (fun r_18 u t_20 H_17 locs ht hvm hw_19 hB hz1 hk1 hS => ?_)
  have hP := hP.grown hk1
  refine W.widen (k := 136) (n := 2997) (Nat.le_of_ble_eq_true rfl) (Nat.le_of_ble_eq_true rfl) ?_
  obtain rfl : 1 = r_18 := hw_19.symm
  refine lv_iload hx hb dL_law_467 (lv_at hl 1 rfl) ?_
  refine lv_icmp_eq (tgt := 474) hx hb dL_law_469 (by decide) (fun c_21 => ?_) (fun c_21 => absurd rfl c_21)
  refine lv_iload hx hb dL_law_474 (lv_at hl 1 rfl) ?_
  refine lv_if_ne (tgt := 498) hx hb dL_law_476 (by decide) (fun c_22 => ?_) (fun c_22 => absurd c_22 (by decide))
  refine lv_goto (tgt := 3288) hx hb dL_law_498 (by decide) ?_
  exact law_tail hfl C0 hA hA2 hS (lv_sub hl [2, 7] rfl) (Nat.le_of_ble_eq_true rfl) (Nat.le_of_ble_eq_true rfl)
set_option maxHeartbeats 8000000 in
set_option maxRecDepth 100000 in
/-- script value 3 -/
theorem law_case_3 {p : Program} {l : Launch} {e : Env} {s : State} {m : MethodId} {below : List Frame} {meth : Method} {c : Code} {b : Nat} {xs : Nat → Int32} (hfl : l.stackTraces = false) (C0 : lw_At p s m meth c b 7 xs) {A : Nat → Prop} (hA : ∀ q : Nat, s.heap.size ≤ q → A q) (hA2 : ∀ q : Nat, A q → s.heap.size ≤ q) (G : va_G) (z : Nat) (hG : zG z A s s.heap) (x0 : Nat) (y0 : Nat) (o1 : Nat) (o2 : Nat) (cyL : ClassId) (cyD : ClassId) (a1 : Nat) (a2 : Nat) (a3 : Nat) (a4 : Nat) (a5 : Nat) (a6 : Nat) (a7 : Nat) (a8 : Nat) (b1 : Nat) (b2 : Nat) (b3 : Nat) (cyA : ClassId) (cyJ : ClassId) (cyT : ClassId) (d1 : Nat) (d2 : Nat) (d3 : Nat) (d4 : Nat) (cyO : ClassId) (fS : Nat → Option Nat) (cyI : ClassId) (r0 : Nat) (l1 : Nat) (l2 : Nat) (l3 : Nat) (l4 : Nat) (l5 : Nat) (l6 : Nat) (m1 : Nat) (m2 : Nat) (m3 : Nat) (m4 : Nat) (m5 : Nat) (m6 : Nat) (hf0 : fS 0 = some r0) {H : Heap} {locs : List Loc} (hP : va_P G vwCl ([(x0, .inr (12, [.ref a1, .ref a2, .ref a3, .ref a4, .ref a5, .ref a6, .ref a7, .ref a8, .int 3, .int 0])), (a1, .inr (3, [.int 0, .ref z, .int 0])), (a2, .inr (3, [.int 0, .ref z, .int 0])), (a3, .inr (3, [.int 0, .ref z, .int 0])), (a4, .inr (3, [.int 0, .ref z, .int 0])), (a5, .inr (3, [.int 0, .ref z, .int 0])), (a6, .inr (10, [.ref b1, .ref b2, .ref b3, .int 0])), (b1, .inl (cyA, 400, .inl (nI))), (b2, .inl (cyJ, 512, .inl (fun _ => 0))), (b3, .inl (cyT, 400, .inl (fun _ => 0))), (a7, .inr (4, [.ref d1, .ref d2, .ref d3, .ref d4, .int 0, .int 12])), (d4, .inl (cyO, 20, .inr (.inr (.inr (.inr (fS)))))), (r0, .inl (cyI, 20, .inl (fun _ => 0))), (y0, .inr (18, [.int 0, .ref l1, .ref l2, .ref l3, .ref l4, .ref l5, .ref l6, .int 0, .int 3, .int 12, .ref m1, .ref m2, .ref m3, .ref m4, .ref m5, .ref m6])), (l1, .inr (3, [.int 0, .ref z, .int 0])), (l2, .inr (3, [.int 0, .ref z, .int 0])), (l3, .inr (3, [.int 0, .ref z, .int 0])), (l4, .inr (3, [.int 0, .ref z, .int 0])), (l5, .inr (3, [.int 0, .ref z, .int 0])), (l6, .inr (3, [.int 0, .ref z, .int 0])), (o1, .inl (cyL, 1, .inr (.inl (fun _ => 0)))), (o2, .inl (cyD, 1, .inr (.inr (.inr (.inl (fun _ => 0))))))]) H) (hD : va_D A ([(x0, .inr (12, [.ref a1, .ref a2, .ref a3, .ref a4, .ref a5, .ref a6, .ref a7, .ref a8, .int 3, .int 0])), (a1, .inr (3, [.int 0, .ref z, .int 0])), (a2, .inr (3, [.int 0, .ref z, .int 0])), (a3, .inr (3, [.int 0, .ref z, .int 0])), (a4, .inr (3, [.int 0, .ref z, .int 0])), (a5, .inr (3, [.int 0, .ref z, .int 0])), (a6, .inr (10, [.ref b1, .ref b2, .ref b3, .int 0])), (b1, .inl (cyA, 400, .inl (nI))), (b2, .inl (cyJ, 512, .inl (fun _ => 0))), (b3, .inl (cyT, 400, .inl (fun _ => 0))), (a7, .inr (4, [.ref d1, .ref d2, .ref d3, .ref d4, .int 0, .int 12])), (d4, .inl (cyO, 20, .inr (.inr (.inr (.inr (fS)))))), (r0, .inl (cyI, 20, .inl (fun _ => 0))), (y0, .inr (18, [.int 0, .ref l1, .ref l2, .ref l3, .ref l4, .ref l5, .ref l6, .int 0, .int 3, .int 12, .ref m1, .ref m2, .ref m3, .ref m4, .ref m5, .ref m6])), (l1, .inr (3, [.int 0, .ref z, .int 0])), (l2, .inr (3, [.int 0, .ref z, .int 0])), (l3, .inr (3, [.int 0, .ref z, .int 0])), (l4, .inr (3, [.int 0, .ref z, .int 0])), (l5, .inr (3, [.int 0, .ref z, .int 0])), (l6, .inr (3, [.int 0, .ref z, .int 0])), (o1, .inl (cyL, 1, .inr (.inl (fun _ => 0)))), (o2, .inl (cyD, 1, .inr (.inr (.inr (.inl (fun _ => 0))))))])) (hK : va_K G vwCl [(cyA, .int), (cyJ, .int), (cyT, .int), (cyO, .array .int), (cyI, .int), (cyL, .long), (cyD, .double)] s) (hS : va_S A s.heap H locs) {ls : Array Slot} (hl : lv_has ls 9 [(0, .ref b), (1, .ref x0), (2, .ref y0), (3, .ref o1), (4, .ref o2), (5, .int 0)]) : W p l e room_1 s m #[Value.ref b] below meth c H locs 135 2991 (lw_Z below #[Value.ref b] s) (F0 m 501 ls []) := by
  have C9 := C0
  obtain ⟨hx, hb, hr, hml, hown, hts0, hX, hbl, hlocks, hgv⟩ := id C0
  have hg := lw_sub_good hts0
  have hts : ∀ w ∈ (lw_hd :: lw_good), w.before #[Value.ref b] s = true := fun w h => (List.mem_cons.mp h).elim (fun e9 => e9 ▸ hg _ q0) (hg w)
  have hbA : ¬ A b := fun h => Nat.not_le.mpr hbl (hA2 b h)
  refine lv_aload_n hx hb dL_law_501 rfl (lv_at hl 1 rfl) ?_
  refine lv_aload_n hx hb dL_law_502 rfl (lv_at hl 0 rfl) ?_
  refine lv_iload hx hb dL_law_503 (lv_at hl 5 rfl) ?_
  refine lv_iconst (v := 1) hx hb dL_law_505 (by decide) ?_
  refine lv_iadd hx hb dL_law_506 ?_
  refine lv_topi (fun f_1 ef_1 => ?_)
  obtain rfl : f_1 = 1 := ef_1.trans (by decide)
  refine va_sld hx hb hX hbl hbA hS (by unfold vp_in; decide +kernel) dL_law_507 ?_
  refine lv_topi (fun f_2 ef_2 => ?_)
  obtain rfl : f_2 = xs 1 := ef_2
  refine lv_aload_n hx hb dL_law_508 rfl (lv_at hl 0 rfl) ?_
  refine lv_iload hx hb dL_law_509 (lv_at hl 5 rfl) ?_
  refine lv_iconst (v := 2) hx hb dL_law_511 (by decide) ?_
  refine lv_iadd hx hb dL_law_512 ?_
  refine lv_topi (fun f_3 ef_3 => ?_)
  obtain rfl : f_3 = 2 := ef_3.trans (by decide)
  refine va_sld hx hb hX hbl hbA hS (by unfold vp_in; decide +kernel) dL_law_513 ?_
  refine lv_topi (fun f_4 ef_4 => ?_)
  obtain rfl : f_4 = xs 2 := ef_4
  refine lv_aload_n hx hb dL_law_514 rfl (lv_at hl 0 rfl) ?_
  refine lv_iload hx hb dL_law_515 (lv_at hl 5 rfl) ?_
  refine lv_iconst (v := 3) hx hb dL_law_517 (by decide) ?_
  refine lv_iadd hx hb dL_law_518 ?_
  refine lv_topi (fun f_5 ef_5 => ?_)
  obtain rfl : f_5 = 3 := ef_5.trans (by decide)
  refine va_sld hx hb hX hbl hbA hS (by unfold vp_in; decide +kernel) dL_law_519 ?_
  refine lv_topi (fun f_6 ef_6 => ?_)
  obtain rfl : f_6 = xs 3 := ef_6
  refine lv_if_eq (tgt := 527) hx hb dL_law_520 (by decide) (fun c_7 => ?_) (fun c_7 => ?_)
  · refine lv_iconst (v := 0) hx hb dL_law_527 (by decide) ?_
    refine lv_aload_n hx hb dL_law_528 rfl (lv_at hl 0 rfl) ?_
    refine lv_iload hx hb dL_law_529 (lv_at hl 5 rfl) ?_
    refine lv_iconst (v := 4) hx hb dL_law_531 (by decide) ?_
    refine lv_iadd hx hb dL_law_532 ?_
    refine lv_topi (fun f_8 ef_8 => ?_)
    obtain rfl : f_8 = 4 := ef_8.trans (by decide)
    refine va_sld hx hb hX hbl hbA hS (by unfold vp_in; decide +kernel) dL_law_533 ?_
    refine lv_topi (fun f_9 ef_9 => ?_)
    obtain rfl : f_9 = xs 4 := ef_9
    refine lv_aload_n hx hb dL_law_534 rfl (lv_at hl 3 rfl) ?_
    have hPc := hP.sub (ws' := [(x0, .inr (12, [.ref a1, .ref a2, .ref a3, .ref a4, .ref a5, .ref a6, .ref a7, .ref a8, .int 3, .int 0])), (a1, .inr (3, [.int 0, .ref z, .int 0])), (o1, .inl (cyL, 1, .inr (.inl (fun _ => 0))))]) [0, 1, 20] rfl
    have hKc := hK.sub (tys' := [(cyL, .long)]) [5] rfl
    have hDc := hD.sub (ws' := [(x0, .inr (12, [.ref a1, .ref a2, .ref a3, .ref a4, .ref a5, .ref a6, .ref a7, .ref a8, .int 3, .int 0])), (a1, .inr (3, [.int 0, .ref z, .int 0])), (o1, .inl (cyL, 1, .inr (.inl (fun _ => 0))))]) [0, 1, 20] (by decide) rfl
    have hFc := va_free (wc := [(x0, .inr (12, [.ref a1, .ref a2, .ref a3, .ref a4, .ref a5, .ref a6, .ref a7, .ref a8, .int 3, .int 0])), (a1, .inr (3, [.int 0, .ref z, .int 0])), (o1, .inl (cyL, 1, .inr (.inl (fun _ => 0))))]) hD hS hA [0, 1, 20] rfl
    refine va_calli (vx_runSW (As := [.ref x0, .int (xs 1), .int (xs 2), .int 0, .int (xs 4), .ref o1]) (rest := []) ⟨hx, hb, hml, hown, hts⟩ (k_L_damage l hfl G z x0 a1 a2 a3 a4 a5 a6 a7 a8 3 0 0 z ((xs 1)) ((xs 2)) 0 ((xs 4)) o1 cyL (fun _ => 0) H.size ) (vx_cwSW 6 hts (lw_goodApp (lw_3 q588 q589 q0) q590) rfl rfl rfl (by decide +kernel) ⟨Nat.le_of_ble_eq_true rfl, Nat.le_of_ble_eq_true rfl⟩) ⟨PW.blind, PW.of hPc hKc hDc hG hS hFc [.ref x0, .int (xs 1), .int (xs 2), .int 0, .int (xs 4), .ref o1]⟩ rfl rfl hl.1 rfl (lv_room (Nat.le_of_ble_eq_true rfl)) dL_law_535 ⟨Nat.le_of_ble_eq_true rfl, Nat.le_of_ble_eq_true rfl⟩) hS (fun q _ h => hFc q h) hFc (fun r_11 u t_13 H_10 locs ht hvm hw_12 hB hz1 hk1 hS => ?_)
    obtain ⟨hP, hD, hK⟩ := QW.join (wr := [(a2, .inr (3, [.int 0, .ref z, .int 0])), (a3, .inr (3, [.int 0, .ref z, .int 0])), (a4, .inr (3, [.int 0, .ref z, .int 0])), (a5, .inr (3, [.int 0, .ref z, .int 0])), (a6, .inr (10, [.ref b1, .ref b2, .ref b3, .int 0])), (b1, .inl (cyA, 400, .inl (nI))), (b2, .inl (cyJ, 512, .inl (fun _ => 0))), (b3, .inl (cyT, 400, .inl (fun _ => 0))), (a7, .inr (4, [.ref d1, .ref d2, .ref d3, .ref d4, .int 0, .int 12])), (d4, .inl (cyO, 20, .inr (.inr (.inr (.inr (fS)))))), (r0, .inl (cyI, 20, .inl (fun _ => 0))), (y0, .inr (18, [.int 0, .ref l1, .ref l2, .ref l3, .ref l4, .ref l5, .ref l6, .int 0, .int 3, .int 12, .ref m1, .ref m2, .ref m3, .ref m4, .ref m5, .ref m6])), (l1, .inr (3, [.int 0, .ref z, .int 0])), (l2, .inr (3, [.int 0, .ref z, .int 0])), (l3, .inr (3, [.int 0, .ref z, .int 0])), (l4, .inr (3, [.int 0, .ref z, .int 0])), (l5, .inr (3, [.int 0, .ref z, .int 0])), (l6, .inr (3, [.int 0, .ref z, .int 0])), (o2, .inl (cyD, 1, .inr (.inr (.inr (.inl (fun _ => 0))))))]) (w1 := [(o1, .inl (cyL, 1, .inr (.inl ((fun _ => 0)))))]) hP hD hK [0, 1, 20] [2, 3, 4, 5, 6, 7, 8, 9, 10, 11, 12, 13, 14, 15, 16, 17, 18, 19, 21] rfl rfl (by decide) (by decide) hk1 hFc ht hvm hB
    have hP : va_P G vwCl ([(a2, .inr (3, [.int 0, .ref z, .int 0])), (a3, .inr (3, [.int 0, .ref z, .int 0])), (a4, .inr (3, [.int 0, .ref z, .int 0])), (a5, .inr (3, [.int 0, .ref z, .int 0])), (a6, .inr (10, [.ref b1, .ref b2, .ref b3, .int 0])), (b1, .inl (cyA, 400, .inl (nI))), (b2, .inl (cyJ, 512, .inl (fun _ => 0))), (b3, .inl (cyT, 400, .inl (fun _ => 0))), (a7, .inr (4, [.ref d1, .ref d2, .ref d3, .ref d4, .int 0, .int 12])), (d4, .inl (cyO, 20, .inr (.inr (.inr (.inr (fS)))))), (r0, .inl (cyI, 20, .inl (fun _ => 0))), (y0, .inr (18, [.int 0, .ref l1, .ref l2, .ref l3, .ref l4, .ref l5, .ref l6, .int 0, .int 3, .int 12, .ref m1, .ref m2, .ref m3, .ref m4, .ref m5, .ref m6])), (l1, .inr (3, [.int 0, .ref z, .int 0])), (l2, .inr (3, [.int 0, .ref z, .int 0])), (l3, .inr (3, [.int 0, .ref z, .int 0])), (l4, .inr (3, [.int 0, .ref z, .int 0])), (l5, .inr (3, [.int 0, .ref z, .int 0])), (l6, .inr (3, [.int 0, .ref z, .int 0])), (o2, .inl (cyD, 1, .inr (.inr (.inr (.inl (fun _ => 0)))))), (o1, .inl (cyL, 1, .inr (.inl ((fun _ => 0)))))]) H_10 := hP
    have hD : va_D A ([(a2, .inr (3, [.int 0, .ref z, .int 0])), (a3, .inr (3, [.int 0, .ref z, .int 0])), (a4, .inr (3, [.int 0, .ref z, .int 0])), (a5, .inr (3, [.int 0, .ref z, .int 0])), (a6, .inr (10, [.ref b1, .ref b2, .ref b3, .int 0])), (b1, .inl (cyA, 400, .inl (nI))), (b2, .inl (cyJ, 512, .inl (fun _ => 0))), (b3, .inl (cyT, 400, .inl (fun _ => 0))), (a7, .inr (4, [.ref d1, .ref d2, .ref d3, .ref d4, .int 0, .int 12])), (d4, .inl (cyO, 20, .inr (.inr (.inr (.inr (fS)))))), (r0, .inl (cyI, 20, .inl (fun _ => 0))), (y0, .inr (18, [.int 0, .ref l1, .ref l2, .ref l3, .ref l4, .ref l5, .ref l6, .int 0, .int 3, .int 12, .ref m1, .ref m2, .ref m3, .ref m4, .ref m5, .ref m6])), (l1, .inr (3, [.int 0, .ref z, .int 0])), (l2, .inr (3, [.int 0, .ref z, .int 0])), (l3, .inr (3, [.int 0, .ref z, .int 0])), (l4, .inr (3, [.int 0, .ref z, .int 0])), (l5, .inr (3, [.int 0, .ref z, .int 0])), (l6, .inr (3, [.int 0, .ref z, .int 0])), (o2, .inl (cyD, 1, .inr (.inr (.inr (.inl (fun _ => 0)))))), (o1, .inl (cyL, 1, .inr (.inl ((fun _ => 0)))))]) := hD
    have hK : va_K G vwCl [(cyA, .int), (cyJ, .int), (cyT, .int), (cyO, .array .int), (cyI, .int), (cyL, .long), (cyD, .double), (cyL, .long)] s := hK
    refine W.widen (k := 136) (n := 2997) (Nat.le_of_ble_eq_true rfl) (Nat.le_of_ble_eq_true rfl) ?_
    obtain rfl : 1 = r_11 := hw_12.symm
    refine lv_istore (lv' := [(6, .int 1), (0, .ref b), (1, .ref x0), (2, .ref y0), (3, .ref o1), (4, .ref o2), (5, .int 0)]) hx hb dL_law_538 hl (by decide) rfl (fun ls hl => ?_)
    refine lv_aload_n hx hb dL_law_540 rfl (lv_at hl 3 rfl) ?_
    refine lv_aload_n hx hb dL_law_541 rfl (lv_at hl 1 rfl) ?_
    refine lv_iload hx hb dL_law_542 (lv_at hl 6 rfl) ?_
    refine lv_iconst (v := 1) hx hb dL_law_544 (by decide) ?_
    refine lv_iadd hx hb dL_law_545 ?_
    refine lv_topi (fun f_14 ef_14 => ?_)
    obtain rfl : f_14 = 1 := ef_14.trans (by decide)
    refine va_sld hx hb hX hbl hbA hS (by unfold vp_in; decide +kernel) dL_law_546 ?_
    refine lv_topi (fun f_15 ef_15 => ?_)
    obtain rfl : f_15 = xs 1 := ef_15
    refine lv_aload_n hx hb dL_law_547 rfl (lv_at hl 1 rfl) ?_
    refine lv_iload hx hb dL_law_548 (lv_at hl 6 rfl) ?_
    refine lv_iconst (v := 2) hx hb dL_law_550 (by decide) ?_
    refine lv_iadd hx hb dL_law_551 ?_
    refine lv_topi (fun f_16 ef_16 => ?_)
    obtain rfl : f_16 = 2 := ef_16.trans (by decide)
    refine va_sld hx hb hX hbl hbA hS (by unfold vp_in; decide +kernel) dL_law_552 ?_
    refine lv_topi (fun f_17 ef_17 => ?_)
    obtain rfl : f_17 = xs 2 := ef_17
    refine lv_aload_n hx hb dL_law_553 rfl (lv_at hl 1 rfl) ?_
    refine lv_iload hx hb dL_law_554 (lv_at hl 6 rfl) ?_
    refine lv_iconst (v := 3) hx hb dL_law_556 (by decide) ?_
    refine lv_iadd hx hb dL_law_557 ?_
    refine lv_topi (fun f_18 ef_18 => ?_)
    obtain rfl : f_18 = 3 := ef_18.trans (by decide)
    refine va_sld hx hb hX hbl hbA hS (by unfold vp_in; decide +kernel) dL_law_558 ?_
    refine lv_topi (fun f_19 ef_19 => ?_)
    obtain rfl : f_19 = xs 3 := ef_19
    refine lv_if_eq (tgt := 566) hx hb dL_law_559 (by decide) (fun c_20 => ?_) (fun c_20 => ?_)
    · refine lv_iconst (v := 0) hx hb dL_law_566 (by decide) ?_
      refine lv_aload_n hx hb dL_law_567 rfl (lv_at hl 1 rfl) ?_
      refine lv_iload hx hb dL_law_568 (lv_at hl 6 rfl) ?_
      refine lv_iconst (v := 4) hx hb dL_law_570 (by decide) ?_
      refine lv_iadd hx hb dL_law_571 ?_
      refine lv_topi (fun f_21 ef_21 => ?_)
      obtain rfl : f_21 = 4 := ef_21.trans (by decide)
      refine va_sld hx hb hX hbl hbA hS (by unfold vp_in; decide +kernel) dL_law_572 ?_
      refine lv_topi (fun f_22 ef_22 => ?_)
      obtain rfl : f_22 = xs 4 := ef_22
      have hPc := hP.sub (ws' := [(y0, .inr (18, [.int 0, .ref l1, .ref l2, .ref l3, .ref l4, .ref l5, .ref l6, .int 0, .int 3, .int 12, .ref m1, .ref m2, .ref m3, .ref m4, .ref m5, .ref m6])), (l1, .inr (3, [.int 0, .ref z, .int 0]))]) [11, 12] rfl
      have hKc := hK.sub (tys' := []) [] rfl
      have hDc := hD.sub (ws' := [(y0, .inr (18, [.int 0, .ref l1, .ref l2, .ref l3, .ref l4, .ref l5, .ref l6, .int 0, .int 3, .int 12, .ref m1, .ref m2, .ref m3, .ref m4, .ref m5, .ref m6])), (l1, .inr (3, [.int 0, .ref z, .int 0]))]) [11, 12] (by decide) rfl
      have hFc := va_free (wc := [(y0, .inr (18, [.int 0, .ref l1, .ref l2, .ref l3, .ref l4, .ref l5, .ref l6, .int 0, .int 3, .int 12, .ref m1, .ref m2, .ref m3, .ref m4, .ref m5, .ref m6])), (l1, .inr (3, [.int 0, .ref z, .int 0]))]) hD hS hA [11, 12] rfl
      refine va_calli (va_runV (As := [.int (xs 1), .int (xs 2), .int 0, .int (xs 4)]) (rest := []) ⟨hx, hb, hml, hown, hts⟩ (k_X14_damage l G z y0 0 l1 l2 l3 l4 l5 l6 3 12 m1 m2 m3 m4 m5 m6 0 z ((xs 1)) ((xs 2)) 0 ((xs 4)) H_10.size ) (cwV 4 hts (lw_goodApp (lw_4 q1321 q1322 q1323 q7) q1324) rfl rfl rfl (by decide +kernel) ⟨Nat.le_of_ble_eq_true rfl, Nat.le_of_ble_eq_true rfl⟩) ⟨PW.blind, va_recv hK hP (ci := 18) (q0 := 11) rfl rfl, PW.of hPc hKc hDc hG hS hFc [.ref y0, .int (xs 1), .int (xs 2), .int 0, .int (xs 4)]⟩ rfl rfl hl.1 rfl (lv_room (Nat.le_of_ble_eq_true rfl)) dL_law_573 ⟨Nat.le_of_ble_eq_true rfl, Nat.le_of_ble_eq_true rfl⟩) hS (fun q _ h => hFc q h) hFc (fun r_24 u t_26 H_23 locs ht hvm hw_25 hB hz1 hk1 hS => ?_)
      obtain ⟨hP, hD, hK⟩ := QW.join (wr := [(a2, .inr (3, [.int 0, .ref z, .int 0])), (a3, .inr (3, [.int 0, .ref z, .int 0])), (a4, .inr (3, [.int 0, .ref z, .int 0])), (a5, .inr (3, [.int 0, .ref z, .int 0])), (a6, .inr (10, [.ref b1, .ref b2, .ref b3, .int 0])), (b1, .inl (cyA, 400, .inl (nI))), (b2, .inl (cyJ, 512, .inl (fun _ => 0))), (b3, .inl (cyT, 400, .inl (fun _ => 0))), (a7, .inr (4, [.ref d1, .ref d2, .ref d3, .ref d4, .int 0, .int 12])), (d4, .inl (cyO, 20, .inr (.inr (.inr (.inr (fS)))))), (r0, .inl (cyI, 20, .inl (fun _ => 0))), (l2, .inr (3, [.int 0, .ref z, .int 0])), (l3, .inr (3, [.int 0, .ref z, .int 0])), (l4, .inr (3, [.int 0, .ref z, .int 0])), (l5, .inr (3, [.int 0, .ref z, .int 0])), (l6, .inr (3, [.int 0, .ref z, .int 0])), (o2, .inl (cyD, 1, .inr (.inr (.inr (.inl (fun _ => 0)))))), (o1, .inl (cyL, 1, .inr (.inl ((fun _ => 0)))))]) (w1 := [(y0, .inr (18, [.int 1, .ref l1, .ref l2, .ref l3, .ref l4, .ref l5, .ref l6, .int 0, .int 3, .int 12, .ref m1, .ref m2, .ref m3, .ref m4, .ref m5, .ref m6]))]) hP hD hK [11, 12] [0, 1, 2, 3, 4, 5, 6, 7, 8, 9, 10, 13, 14, 15, 16, 17, 18, 19] rfl rfl (by decide) (by decide) hk1 hFc ht hvm hB
      have hP : va_P G vwCl ([(a2, .inr (3, [.int 0, .ref z, .int 0])), (a3, .inr (3, [.int 0, .ref z, .int 0])), (a4, .inr (3, [.int 0, .ref z, .int 0])), (a5, .inr (3, [.int 0, .ref z, .int 0])), (a6, .inr (10, [.ref b1, .ref b2, .ref b3, .int 0])), (b1, .inl (cyA, 400, .inl (nI))), (b2, .inl (cyJ, 512, .inl (fun _ => 0))), (b3, .inl (cyT, 400, .inl (fun _ => 0))), (a7, .inr (4, [.ref d1, .ref d2, .ref d3, .ref d4, .int 0, .int 12])), (d4, .inl (cyO, 20, .inr (.inr (.inr (.inr (fS)))))), (r0, .inl (cyI, 20, .inl (fun _ => 0))), (l2, .inr (3, [.int 0, .ref z, .int 0])), (l3, .inr (3, [.int 0, .ref z, .int 0])), (l4, .inr (3, [.int 0, .ref z, .int 0])), (l5, .inr (3, [.int 0, .ref z, .int 0])), (l6, .inr (3, [.int 0, .ref z, .int 0])), (o2, .inl (cyD, 1, .inr (.inr (.inr (.inl (fun _ => 0)))))), (o1, .inl (cyL, 1, .inr (.inl ((fun _ => 0))))), (y0, .inr (18, [.int 1, .ref l1, .ref l2, .ref l3, .ref l4, .ref l5, .ref l6, .int 0, .int 3, .int 12, .ref m1, .ref m2, .ref m3, .ref m4, .ref m5, .ref m6]))]) H_23 := hP
      have hD : va_D A ([(a2, .inr (3, [.int 0, .ref z, .int 0])), (a3, .inr (3, [.int 0, .ref z, .int 0])), (a4, .inr (3, [.int 0, .ref z, .int 0])), (a5, .inr (3, [.int 0, .ref z, .int 0])), (a6, .inr (10, [.ref b1, .ref b2, .ref b3, .int 0])), (b1, .inl (cyA, 400, .inl (nI))), (b2, .inl (cyJ, 512, .inl (fun _ => 0))), (b3, .inl (cyT, 400, .inl (fun _ => 0))), (a7, .inr (4, [.ref d1, .ref d2, .ref d3, .ref d4, .int 0, .int 12])), (d4, .inl (cyO, 20, .inr (.inr (.inr (.inr (fS)))))), (r0, .inl (cyI, 20, .inl (fun _ => 0))), (l2, .inr (3, [.int 0, .ref z, .int 0])), (l3, .inr (3, [.int 0, .ref z, .int 0])), (l4, .inr (3, [.int 0, .ref z, .int 0])), (l5, .inr (3, [.int 0, .ref z, .int 0])), (l6, .inr (3, [.int 0, .ref z, .int 0])), (o2, .inl (cyD, 1, .inr (.inr (.inr (.inl (fun _ => 0)))))), (o1, .inl (cyL, 1, .inr (.inl ((fun _ => 0))))), (y0, .inr (18, [.int 1, .ref l1, .ref l2, .ref l3, .ref l4, .ref l5, .ref l6, .int 0, .int 3, .int 12, .ref m1, .ref m2, .ref m3, .ref m4, .ref m5, .ref m6]))]) := hD
      have hK : va_K G vwCl [(cyA, .int), (cyJ, .int), (cyT, .int), (cyO, .array .int), (cyI, .int), (cyL, .long), (cyD, .double), (cyL, .long)] s := hK
      refine W.widen (k := 136) (n := 2997) (Nat.le_of_ble_eq_true rfl) (Nat.le_of_ble_eq_true rfl) ?_
      refine lv_istore (lv' := [(7, .int r_24), (6, .int 1), (0, .ref b), (1, .ref x0), (2, .ref y0), (3, .ref o1), (4, .ref o2), (5, .int 0)]) hx hb dL_law_576 hl (by decide) rfl (fun ls hl => ?_)
      refine lv_aload_n hx hb dL_law_578 rfl (lv_at hl 4 rfl) ?_
      have hPc := hP.sub (ws' := [(y0, .inr (18, [.int 1, .ref l1, .ref l2, .ref l3, .ref l4, .ref l5, .ref l6, .int 0, .int 3, .int 12, .ref m1, .ref m2, .ref m3, .ref m4, .ref m5, .ref m6]))]) [18] rfl
      have hKc := hK.sub (tys' := []) [] rfl
      refine va_calli (va_runV (As := []) (rest := []) ⟨hx, hb, hml, hown, hts⟩ (k_X14_thrown l G z y0 1 l1 l2 l3 l4 l5 l6 3 12 m1 m2 m3 m4 m5 m6 H_23.size ) (cwV 0 hts (lw_goodApp (lw_4 q1236 q1237 q1238 q7) q1239) rfl rfl rfl (by decide +kernel) ⟨Nat.le_of_ble_eq_true rfl, Nat.le_of_ble_eq_true rfl⟩) ⟨PR.blind, va_recv hK hP (ci := 18) (q0 := 18) rfl rfl, PR.of hPc hKc hG hS hA [.ref y0]⟩ rfl rfl hl.1 rfl (lv_room (Nat.le_of_ble_eq_true rfl)) dL_law_579 ⟨Nat.le_of_ble_eq_true rfl, Nat.le_of_ble_eq_true rfl⟩) hS (fun q h9 h => zN.not h9 h) (fun q h => hA q (Nat.le_trans hS.1 h)) (fun r_28 u t_30 H_27 locs ht hvm hw_29 hB hz1 hk1 hS => ?_)
      have hP := hP.grown hk1
      refine W.widen (k := 136) (n := 2997) (Nat.le_of_ble_eq_true rfl) (Nat.le_of_ble_eq_true rfl) ?_
      obtain rfl : 1 = r_28 := hw_29.symm
      refine lv_iload hx hb dL_law_582 (lv_at hl 1 rfl) ?_
      refine lv_icmp_eq (tgt := 589) hx hb dL_law_584 (by decide) (fun c_31 => ?_) (fun c_31 => absurd rfl c_31)
      refine lv_iload hx hb dL_law_589 (lv_at hl 1 rfl) ?_
      refine lv_if_ne (tgt := 606) hx hb dL_law_591 (by decide) (fun c_32 => ?_) (fun c_32 => absurd c_32 (by decide))
      refine lv_goto (tgt := 3288) hx hb dL_law_606 (by decide) ?_
      exact law_tail hfl C0 hA hA2 hS (lv_sub hl [2, 7] rfl) (Nat.le_of_ble_eq_true rfl) (Nat.le_of_ble_eq_true rfl)
    · refine lv_iconst (v := 1) hx hb dL_law_562 (by decide) ?_
      refine lv_goto (tgt := 567) hx hb dL_law_563 (by decide) ?_
      refine lv_aload_n hx hb dL_law_567 rfl (lv_at hl 1 rfl) ?_
      refine lv_iload hx hb dL_law_568 (lv_at hl 6 rfl) ?_
      refine lv_iconst (v := 4) hx hb dL_law_570 (by decide) ?_
      refine lv_iadd hx hb dL_law_571 ?_
      refine lv_topi (fun f_33 ef_33 => ?_)
      obtain rfl : f_33 = 4 := ef_33.trans (by decide)
      refine va_sld hx hb hX hbl hbA hS (by unfold vp_in; decide +kernel) dL_law_572 ?_
      refine lv_topi (fun f_34 ef_34 => ?_)
      obtain rfl : f_34 = xs 4 := ef_34
      have hPc := hP.sub (ws' := [(y0, .inr (18, [.int 0, .ref l1, .ref l2, .ref l3, .ref l4, .ref l5, .ref l6, .int 0, .int 3, .int 12, .ref m1, .ref m2, .ref m3, .ref m4, .ref m5, .ref m6])), (l1, .inr (3, [.int 0, .ref z, .int 0]))]) [11, 12] rfl
      have hKc := hK.sub (tys' := []) [] rfl
      have hDc := hD.sub (ws' := [(y0, .inr (18, [.int 0, .ref l1, .ref l2, .ref l3, .ref l4, .ref l5, .ref l6, .int 0, .int 3, .int 12, .ref m1, .ref m2, .ref m3, .ref m4, .ref m5, .ref m6])), (l1, .inr (3, [.int 0, .ref z, .int 0]))]) [11, 12] (by decide) rfl
      have hFc := va_free (wc := [(y0, .inr (18, [.int 0, .ref l1, .ref l2, .ref l3, .ref l4, .ref l5, .ref l6, .int 0, .int 3, .int 12, .ref m1, .ref m2, .ref m3, .ref m4, .ref m5, .ref m6])), (l1, .inr (3, [.int 0, .ref z, .int 0]))]) hD hS hA [11, 12] rfl
      refine va_calli (va_runV (As := [.int (xs 1), .int (xs 2), .int 1, .int (xs 4)]) (rest := []) ⟨hx, hb, hml, hown, hts⟩ (k_X14_damage l G z y0 0 l1 l2 l3 l4 l5 l6 3 12 m1 m2 m3 m4 m5 m6 0 z ((xs 1)) ((xs 2)) 1 ((xs 4)) H_10.size ) (cwV 4 hts (lw_goodApp (lw_4 q1321 q1322 q1323 q7) q1324) rfl rfl rfl (by decide +kernel) ⟨Nat.le_of_ble_eq_true rfl, Nat.le_of_ble_eq_true rfl⟩) ⟨PW.blind, va_recv hK hP (ci := 18) (q0 := 11) rfl rfl, PW.of hPc hKc hDc hG hS hFc [.ref y0, .int (xs 1), .int (xs 2), .int 1, .int (xs 4)]⟩ rfl rfl hl.1 rfl (lv_room (Nat.le_of_ble_eq_true rfl)) dL_law_573 ⟨Nat.le_of_ble_eq_true rfl, Nat.le_of_ble_eq_true rfl⟩) hS (fun q _ h => hFc q h) hFc (fun r_36 u t_38 H_35 locs ht hvm hw_37 hB hz1 hk1 hS => ?_)
      obtain ⟨hP, hD, hK⟩ := QW.join (wr := [(a2, .inr (3, [.int 0, .ref z, .int 0])), (a3, .inr (3, [.int 0, .ref z, .int 0])), (a4, .inr (3, [.int 0, .ref z, .int 0])), (a5, .inr (3, [.int 0, .ref z, .int 0])), (a6, .inr (10, [.ref b1, .ref b2, .ref b3, .int 0])), (b1, .inl (cyA, 400, .inl (nI))), (b2, .inl (cyJ, 512, .inl (fun _ => 0))), (b3, .inl (cyT, 400, .inl (fun _ => 0))), (a7, .inr (4, [.ref d1, .ref d2, .ref d3, .ref d4, .int 0, .int 12])), (d4, .inl (cyO, 20, .inr (.inr (.inr (.inr (fS)))))), (r0, .inl (cyI, 20, .inl (fun _ => 0))), (l2, .inr (3, [.int 0, .ref z, .int 0])), (l3, .inr (3, [.int 0, .ref z, .int 0])), (l4, .inr (3, [.int 0, .ref z, .int 0])), (l5, .inr (3, [.int 0, .ref z, .int 0])), (l6, .inr (3, [.int 0, .ref z, .int 0])), (o2, .inl (cyD, 1, .inr (.inr (.inr (.inl (fun _ => 0)))))), (o1, .inl (cyL, 1, .inr (.inl ((fun _ => 0)))))]) (w1 := [(y0, .inr (18, [.int 1, .ref l1, .ref l2, .ref l3, .ref l4, .ref l5, .ref l6, .int 0, .int 3, .int 12, .ref m1, .ref m2, .ref m3, .ref m4, .ref m5, .ref m6]))]) hP hD hK [11, 12] [0, 1, 2, 3, 4, 5, 6, 7, 8, 9, 10, 13, 14, 15, 16, 17, 18, 19] rfl rfl (by decide) (by decide) hk1 hFc ht hvm hB
      have hP : va_P G vwCl ([(a2, .inr (3, [.int 0, .ref z, .int 0])), (a3, .inr (3, [.int 0, .ref z, .int 0])), (a4, .inr (3, [.int 0, .ref z, .int 0])), (a5, .inr (3, [.int 0, .ref z, .int 0])), (a6, .inr (10, [.ref b1, .ref b2, .ref b3, .int 0])), (b1, .inl (cyA, 400, .inl (nI))), (b2, .inl (cyJ, 512, .inl (fun _ => 0))), (b3, .inl (cyT, 400, .inl (fun _ => 0))), (a7, .inr (4, [.ref d1, .ref d2, .ref d3, .ref d4, .int 0, .int 12])), (d4, .inl (cyO, 20, .inr (.inr (.inr (.inr (fS)))))), (r0, .inl (cyI, 20, .inl (fun _ => 0))), (l2, .inr (3, [.int 0, .ref z, .int 0])), (l3, .inr (3, [.int 0, .ref z, .int 0])), (l4, .inr (3, [.int 0, .ref z, .int 0])), (l5, .inr (3, [.int 0, .ref z, .int 0])), (l6, .inr (3, [.int 0, .ref z, .int 0])), (o2, .inl (cyD, 1, .inr (.inr (.inr (.inl (fun _ => 0)))))), (o1, .inl (cyL, 1, .inr (.inl ((fun _ => 0))))), (y0, .inr (18, [.int 1, .ref l1, .ref l2, .ref l3, .ref l4, .ref l5, .ref l6, .int 0, .int 3, .int 12, .ref m1, .ref m2, .ref m3, .ref m4, .ref m5, .ref m6]))]) H_35 := hP
      have hD : va_D A ([(a2, .inr (3, [.int 0, .ref z, .int 0])), (a3, .inr (3, [.int 0, .ref z, .int 0])), (a4, .inr (3, [.int 0, .ref z, .int 0])), (a5, .inr (3, [.int 0, .ref z, .int 0])), (a6, .inr (10, [.ref b1, .ref b2, .ref b3, .int 0])), (b1, .inl (cyA, 400, .inl (nI))), (b2, .inl (cyJ, 512, .inl (fun _ => 0))), (b3, .inl (cyT, 400, .inl (fun _ => 0))), (a7, .inr (4, [.ref d1, .ref d2, .ref d3, .ref d4, .int 0, .int 12])), (d4, .inl (cyO, 20, .inr (.inr (.inr (.inr (fS)))))), (r0, .inl (cyI, 20, .inl (fun _ => 0))), (l2, .inr (3, [.int 0, .ref z, .int 0])), (l3, .inr (3, [.int 0, .ref z, .int 0])), (l4, .inr (3, [.int 0, .ref z, .int 0])), (l5, .inr (3, [.int 0, .ref z, .int 0])), (l6, .inr (3, [.int 0, .ref z, .int 0])), (o2, .inl (cyD, 1, .inr (.inr (.inr (.inl (fun _ => 0)))))), (o1, .inl (cyL, 1, .inr (.inl ((fun _ => 0))))), (y0, .inr (18, [.int 1, .ref l1, .ref l2, .ref l3, .ref l4, .ref l5, .ref l6, .int 0, .int 3, .int 12, .ref m1, .ref m2, .ref m3, .ref m4, .ref m5, .ref m6]))]) := hD
      have hK : va_K G vwCl [(cyA, .int), (cyJ, .int), (cyT, .int), (cyO, .array .int), (cyI, .int), (cyL, .long), (cyD, .double), (cyL, .long)] s := hK
      refine W.widen (k := 136) (n := 2997) (Nat.le_of_ble_eq_true rfl) (Nat.le_of_ble_eq_true rfl) ?_
      refine lv_istore (lv' := [(7, .int r_36), (6, .int 1), (0, .ref b), (1, .ref x0), (2, .ref y0), (3, .ref o1), (4, .ref o2), (5, .int 0)]) hx hb dL_law_576 hl (by decide) rfl (fun ls hl => ?_)
      refine lv_aload_n hx hb dL_law_578 rfl (lv_at hl 4 rfl) ?_
      have hPc := hP.sub (ws' := [(y0, .inr (18, [.int 1, .ref l1, .ref l2, .ref l3, .ref l4, .ref l5, .ref l6, .int 0, .int 3, .int 12, .ref m1, .ref m2, .ref m3, .ref m4, .ref m5, .ref m6]))]) [18] rfl
      have hKc := hK.sub (tys' := []) [] rfl
      refine va_calli (va_runV (As := []) (rest := []) ⟨hx, hb, hml, hown, hts⟩ (k_X14_thrown l G z y0 1 l1 l2 l3 l4 l5 l6 3 12 m1 m2 m3 m4 m5 m6 H_35.size ) (cwV 0 hts (lw_goodApp (lw_4 q1236 q1237 q1238 q7) q1239) rfl rfl rfl (by decide +kernel) ⟨Nat.le_of_ble_eq_true rfl, Nat.le_of_ble_eq_true rfl⟩) ⟨PR.blind, va_recv hK hP (ci := 18) (q0 := 18) rfl rfl, PR.of hPc hKc hG hS hA [.ref y0]⟩ rfl rfl hl.1 rfl (lv_room (Nat.le_of_ble_eq_true rfl)) dL_law_579 ⟨Nat.le_of_ble_eq_true rfl, Nat.le_of_ble_eq_true rfl⟩) hS (fun q h9 h => zN.not h9 h) (fun q h => hA q (Nat.le_trans hS.1 h)) (fun r_40 u t_42 H_39 locs ht hvm hw_41 hB hz1 hk1 hS => ?_)
      have hP := hP.grown hk1
      refine W.widen (k := 136) (n := 2997) (Nat.le_of_ble_eq_true rfl) (Nat.le_of_ble_eq_true rfl) ?_
      obtain rfl : 1 = r_40 := hw_41.symm
      refine lv_iload hx hb dL_law_582 (lv_at hl 1 rfl) ?_
      refine lv_icmp_eq (tgt := 589) hx hb dL_law_584 (by decide) (fun c_43 => ?_) (fun c_43 => absurd rfl c_43)
      refine lv_iload hx hb dL_law_589 (lv_at hl 1 rfl) ?_
      refine lv_if_ne (tgt := 606) hx hb dL_law_591 (by decide) (fun c_44 => ?_) (fun c_44 => absurd c_44 (by decide))
      refine lv_goto (tgt := 3288) hx hb dL_law_606 (by decide) ?_
      exact law_tail hfl C0 hA hA2 hS (lv_sub hl [2, 7] rfl) (Nat.le_of_ble_eq_true rfl) (Nat.le_of_ble_eq_true rfl)
  · refine lv_iconst (v := 1) hx hb dL_law_523 (by decide) ?_
    refine lv_goto (tgt := 528) hx hb dL_law_524 (by decide) ?_
    refine lv_aload_n hx hb dL_law_528 rfl (lv_at hl 0 rfl) ?_
    refine lv_iload hx hb dL_law_529 (lv_at hl 5 rfl) ?_
    refine lv_iconst (v := 4) hx hb dL_law_531 (by decide) ?_
    refine lv_iadd hx hb dL_law_532 ?_
    refine lv_topi (fun f_45 ef_45 => ?_)
    obtain rfl : f_45 = 4 := ef_45.trans (by decide)
    refine va_sld hx hb hX hbl hbA hS (by unfold vp_in; decide +kernel) dL_law_533 ?_
    refine lv_topi (fun f_46 ef_46 => ?_)
    obtain rfl : f_46 = xs 4 := ef_46
    refine lv_aload_n hx hb dL_law_534 rfl (lv_at hl 3 rfl) ?_
    have hPc := hP.sub (ws' := [(x0, .inr (12, [.ref a1, .ref a2, .ref a3, .ref a4, .ref a5, .ref a6, .ref a7, .ref a8, .int 3, .int 0])), (a1, .inr (3, [.int 0, .ref z, .int 0])), (o1, .inl (cyL, 1, .inr (.inl (fun _ => 0))))]) [0, 1, 20] rfl
    have hKc := hK.sub (tys' := [(cyL, .long)]) [5] rfl
    have hDc := hD.sub (ws' := [(x0, .inr (12, [.ref a1, .ref a2, .ref a3, .ref a4, .ref a5, .ref a6, .ref a7, .ref a8, .int 3, .int 0])), (a1, .inr (3, [.int 0, .ref z, .int 0])), (o1, .inl (cyL, 1, .inr (.inl (fun _ => 0))))]) [0, 1, 20] (by decide) rfl
    have hFc := va_free (wc := [(x0, .inr (12, [.ref a1, .ref a2, .ref a3, .ref a4, .ref a5, .ref a6, .ref a7, .ref a8, .int 3, .int 0])), (a1, .inr (3, [.int 0, .ref z, .int 0])), (o1, .inl (cyL, 1, .inr (.inl (fun _ => 0))))]) hD hS hA [0, 1, 20] rfl
    refine va_calli (vx_runSW (As := [.ref x0, .int (xs 1), .int (xs 2), .int 1, .int (xs 4), .ref o1]) (rest := []) ⟨hx, hb, hml, hown, hts⟩ (k_L_damage l hfl G z x0 a1 a2 a3 a4 a5 a6 a7 a8 3 0 0 z ((xs 1)) ((xs 2)) 1 ((xs 4)) o1 cyL (fun _ => 0) H.size ) (vx_cwSW 6 hts (lw_goodApp (lw_3 q588 q589 q0) q590) rfl rfl rfl (by decide +kernel) ⟨Nat.le_of_ble_eq_true rfl, Nat.le_of_ble_eq_true rfl⟩) ⟨PW.blind, PW.of hPc hKc hDc hG hS hFc [.ref x0, .int (xs 1), .int (xs 2), .int 1, .int (xs 4), .ref o1]⟩ rfl rfl hl.1 rfl (lv_room (Nat.le_of_ble_eq_true rfl)) dL_law_535 ⟨Nat.le_of_ble_eq_true rfl, Nat.le_of_ble_eq_true rfl⟩) hS (fun q _ h => hFc q h) hFc (fun r_48 u t_50 H_47 locs ht hvm hw_49 hB hz1 hk1 hS => ?_)
    obtain ⟨hP, hD, hK⟩ := QW.join (wr := [(a2, .inr (3, [.int 0, .ref z, .int 0])), (a3, .inr (3, [.int 0, .ref z, .int 0])), (a4, .inr (3, [.int 0, .ref z, .int 0])), (a5, .inr (3, [.int 0, .ref z, .int 0])), (a6, .inr (10, [.ref b1, .ref b2, .ref b3, .int 0])), (b1, .inl (cyA, 400, .inl (nI))), (b2, .inl (cyJ, 512, .inl (fun _ => 0))), (b3, .inl (cyT, 400, .inl (fun _ => 0))), (a7, .inr (4, [.ref d1, .ref d2, .ref d3, .ref d4, .int 0, .int 12])), (d4, .inl (cyO, 20, .inr (.inr (.inr (.inr (fS)))))), (r0, .inl (cyI, 20, .inl (fun _ => 0))), (y0, .inr (18, [.int 0, .ref l1, .ref l2, .ref l3, .ref l4, .ref l5, .ref l6, .int 0, .int 3, .int 12, .ref m1, .ref m2, .ref m3, .ref m4, .ref m5, .ref m6])), (l1, .inr (3, [.int 0, .ref z, .int 0])), (l2, .inr (3, [.int 0, .ref z, .int 0])), (l3, .inr (3, [.int 0, .ref z, .int 0])), (l4, .inr (3, [.int 0, .ref z, .int 0])), (l5, .inr (3, [.int 0, .ref z, .int 0])), (l6, .inr (3, [.int 0, .ref z, .int 0])), (o2, .inl (cyD, 1, .inr (.inr (.inr (.inl (fun _ => 0))))))]) (w1 := [(o1, .inl (cyL, 1, .inr (.inl ((fun _ => 0)))))]) hP hD hK [0, 1, 20] [2, 3, 4, 5, 6, 7, 8, 9, 10, 11, 12, 13, 14, 15, 16, 17, 18, 19, 21] rfl rfl (by decide) (by decide) hk1 hFc ht hvm hB
    have hP : va_P G vwCl ([(a2, .inr (3, [.int 0, .ref z, .int 0])), (a3, .inr (3, [.int 0, .ref z, .int 0])), (a4, .inr (3, [.int 0, .ref z, .int 0])), (a5, .inr (3, [.int 0, .ref z, .int 0])), (a6, .inr (10, [.ref b1, .ref b2, .ref b3, .int 0])), (b1, .inl (cyA, 400, .inl (nI))), (b2, .inl (cyJ, 512, .inl (fun _ => 0))), (b3, .inl (cyT, 400, .inl (fun _ => 0))), (a7, .inr (4, [.ref d1, .ref d2, .ref d3, .ref d4, .int 0, .int 12])), (d4, .inl (cyO, 20, .inr (.inr (.inr (.inr (fS)))))), (r0, .inl (cyI, 20, .inl (fun _ => 0))), (y0, .inr (18, [.int 0, .ref l1, .ref l2, .ref l3, .ref l4, .ref l5, .ref l6, .int 0, .int 3, .int 12, .ref m1, .ref m2, .ref m3, .ref m4, .ref m5, .ref m6])), (l1, .inr (3, [.int 0, .ref z, .int 0])), (l2, .inr (3, [.int 0, .ref z, .int 0])), (l3, .inr (3, [.int 0, .ref z, .int 0])), (l4, .inr (3, [.int 0, .ref z, .int 0])), (l5, .inr (3, [.int 0, .ref z, .int 0])), (l6, .inr (3, [.int 0, .ref z, .int 0])), (o2, .inl (cyD, 1, .inr (.inr (.inr (.inl (fun _ => 0)))))), (o1, .inl (cyL, 1, .inr (.inl ((fun _ => 0)))))]) H_47 := hP
    have hD : va_D A ([(a2, .inr (3, [.int 0, .ref z, .int 0])), (a3, .inr (3, [.int 0, .ref z, .int 0])), (a4, .inr (3, [.int 0, .ref z, .int 0])), (a5, .inr (3, [.int 0, .ref z, .int 0])), (a6, .inr (10, [.ref b1, .ref b2, .ref b3, .int 0])), (b1, .inl (cyA, 400, .inl (nI))), (b2, .inl (cyJ, 512, .inl (fun _ => 0))), (b3, .inl (cyT, 400, .inl (fun _ => 0))), (a7, .inr (4, [.ref d1, .ref d2, .ref d3, .ref d4, .int 0, .int 12])), (d4, .inl (cyO, 20, .inr (.inr (.inr (.inr (fS)))))), (r0, .inl (cyI, 20, .inl (fun _ => 0))), (y0, .inr (18, [.int 0, .ref l1, .ref l2, .ref l3, .ref l4, .ref l5, .ref l6, .int 0, .int 3, .int 12, .ref m1, .ref m2, .ref m3, .ref m4, .ref m5, .ref m6])), (l1, .inr (3, [.int 0, .ref z, .int 0])), (l2, .inr (3, [.int 0, .ref z, .int 0])), (l3, .inr (3, [.int 0, .ref z, .int 0])), (l4, .inr (3, [.int 0, .ref z, .int 0])), (l5, .inr (3, [.int 0, .ref z, .int 0])), (l6, .inr (3, [.int 0, .ref z, .int 0])), (o2, .inl (cyD, 1, .inr (.inr (.inr (.inl (fun _ => 0)))))), (o1, .inl (cyL, 1, .inr (.inl ((fun _ => 0)))))]) := hD
    have hK : va_K G vwCl [(cyA, .int), (cyJ, .int), (cyT, .int), (cyO, .array .int), (cyI, .int), (cyL, .long), (cyD, .double), (cyL, .long)] s := hK
    refine W.widen (k := 136) (n := 2997) (Nat.le_of_ble_eq_true rfl) (Nat.le_of_ble_eq_true rfl) ?_
    obtain rfl : 1 = r_48 := hw_49.symm
    refine lv_istore (lv' := [(6, .int 1), (0, .ref b), (1, .ref x0), (2, .ref y0), (3, .ref o1), (4, .ref o2), (5, .int 0)]) hx hb dL_law_538 hl (by decide) rfl (fun ls hl => ?_)
    refine lv_aload_n hx hb dL_law_540 rfl (lv_at hl 3 rfl) ?_
    refine lv_aload_n hx hb dL_law_541 rfl (lv_at hl 1 rfl) ?_
    refine lv_iload hx hb dL_law_542 (lv_at hl 6 rfl) ?_
    refine lv_iconst (v := 1) hx hb dL_law_544 (by decide) ?_
    refine lv_iadd hx hb dL_law_545 ?_
    refine lv_topi (fun f_51 ef_51 => ?_)
    obtain rfl : f_51 = 1 := ef_51.trans (by decide)
    refine va_sld hx hb hX hbl hbA hS (by unfold vp_in; decide +kernel) dL_law_546 ?_
    refine lv_topi (fun f_52 ef_52 => ?_)
    obtain rfl : f_52 = xs 1 := ef_52
    refine lv_aload_n hx hb dL_law_547 rfl (lv_at hl 1 rfl) ?_
    refine lv_iload hx hb dL_law_548 (lv_at hl 6 rfl) ?_
    refine lv_iconst (v := 2) hx hb dL_law_550 (by decide) ?_
    refine lv_iadd hx hb dL_law_551 ?_
    refine lv_topi (fun f_53 ef_53 => ?_)
    obtain rfl : f_53 = 2 := ef_53.trans (by decide)
    refine va_sld hx hb hX hbl hbA hS (by unfold vp_in; decide +kernel) dL_law_552 ?_
    refine lv_topi (fun f_54 ef_54 => ?_)
    obtain rfl : f_54 = xs 2 := ef_54
    refine lv_aload_n hx hb dL_law_553 rfl (lv_at hl 1 rfl) ?_
    refine lv_iload hx hb dL_law_554 (lv_at hl 6 rfl) ?_
    refine lv_iconst (v := 3) hx hb dL_law_556 (by decide) ?_
    refine lv_iadd hx hb dL_law_557 ?_
    refine lv_topi (fun f_55 ef_55 => ?_)
    obtain rfl : f_55 = 3 := ef_55.trans (by decide)
    refine va_sld hx hb hX hbl hbA hS (by unfold vp_in; decide +kernel) dL_law_558 ?_
    refine lv_topi (fun f_56 ef_56 => ?_)
    obtain rfl : f_56 = xs 3 := ef_56
    refine lv_if_eq (tgt := 566) hx hb dL_law_559 (by decide) (fun c_57 => ?_) (fun c_57 => ?_)
    · refine lv_iconst (v := 0) hx hb dL_law_566 (by decide) ?_
      refine lv_aload_n hx hb dL_law_567 rfl (lv_at hl 1 rfl) ?_
      refine lv_iload hx hb dL_law_568 (lv_at hl 6 rfl) ?_
      refine lv_iconst (v := 4) hx hb dL_law_570 (by decide) ?_
      refine lv_iadd hx hb dL_law_571 ?_
      refine lv_topi (fun f_58 ef_58 => ?_)
      obtain rfl : f_58 = 4 := ef_58.trans (by decide)
      refine va_sld hx hb hX hbl hbA hS (by unfold vp_in; decide +kernel) dL_law_572 ?_
      refine lv_topi (fun f_59 ef_59 => ?_)
      obtain rfl : f_59 = xs 4 := ef_59
      have hPc := hP.sub (ws' := [(y0, .inr (18, [.int 0, .ref l1, .ref l2, .ref l3, .ref l4, .ref l5, .ref l6, .int 0, .int 3, .int 12, .ref m1, .ref m2, .ref m3, .ref m4, .ref m5, .ref m6])), (l1, .inr (3, [.int 0, .ref z, .int 0]))]) [11, 12] rfl
      have hKc := hK.sub (tys' := []) [] rfl
      have hDc := hD.sub (ws' := [(y0, .inr (18, [.int 0, .ref l1, .ref l2, .ref l3, .ref l4, .ref l5, .ref l6, .int 0, .int 3, .int 12, .ref m1, .ref m2, .ref m3, .ref m4, .ref m5, .ref m6])), (l1, .inr (3, [.int 0, .ref z, .int 0]))]) [11, 12] (by decide) rfl
      have hFc := va_free (wc := [(y0, .inr (18, [.int 0, .ref l1, .ref l2, .ref l3, .ref l4, .ref l5, .ref l6, .int 0, .int 3, .int 12, .ref m1, .ref m2, .ref m3, .ref m4, .ref m5, .ref m6])), (l1, .inr (3, [.int 0, .ref z, .int 0]))]) hD hS hA [11, 12] rfl
      refine va_calli (va_runV (As := [.int (xs 1), .int (xs 2), .int 0, .int (xs 4)]) (rest := []) ⟨hx, hb, hml, hown, hts⟩ (k_X14_damage l G z y0 0 l1 l2 l3 l4 l5 l6 3 12 m1 m2 m3 m4 m5 m6 0 z ((xs 1)) ((xs 2)) 0 ((xs 4)) H_47.size ) (cwV 4 hts (lw_goodApp (lw_4 q1321 q1322 q1323 q7) q1324) rfl rfl rfl (by decide +kernel) ⟨Nat.le_of_ble_eq_true rfl, Nat.le_of_ble_eq_true rfl⟩) ⟨PW.blind, va_recv hK hP (ci := 18) (q0 := 11) rfl rfl, PW.of hPc hKc hDc hG hS hFc [.ref y0, .int (xs 1), .int (xs 2), .int 0, .int (xs 4)]⟩ rfl rfl hl.1 rfl (lv_room (Nat.le_of_ble_eq_true rfl)) dL_law_573 ⟨Nat.le_of_ble_eq_true rfl, Nat.le_of_ble_eq_true rfl⟩) hS (fun q _ h => hFc q h) hFc (fun r_61 u t_63 H_60 locs ht hvm hw_62 hB hz1 hk1 hS => ?_)
      obtain ⟨hP, hD, hK⟩ := QW.join (wr := [(a2, .inr (3, [.int 0, .ref z, .int 0])), (a3, .inr (3, [.int 0, .ref z, .int 0])), (a4, .inr (3, [.int 0, .ref z, .int 0])), (a5, .inr (3, [.int 0, .ref z, .int 0])), (a6, .inr (10, [.ref b1, .ref b2, .ref b3, .int 0])), (b1, .inl (cyA, 400, .inl (nI))), (b2, .inl (cyJ, 512, .inl (fun _ => 0))), (b3, .inl (cyT, 400, .inl (fun _ => 0))), (a7, .inr (4, [.ref d1, .ref d2, .ref d3, .ref d4, .int 0, .int 12])), (d4, .inl (cyO, 20, .inr (.inr (.inr (.inr (fS)))))), (r0, .inl (cyI, 20, .inl (fun _ => 0))), (l2, .inr (3, [.int 0, .ref z, .int 0])), (l3, .inr (3, [.int 0, .ref z, .int 0])), (l4, .inr (3, [.int 0, .ref z, .int 0])), (l5, .inr (3, [.int 0, .ref z, .int 0])), (l6, .inr (3, [.int 0, .ref z, .int 0])), (o2, .inl (cyD, 1, .inr (.inr (.inr (.inl (fun _ => 0)))))), (o1, .inl (cyL, 1, .inr (.inl ((fun _ => 0)))))]) (w1 := [(y0, .inr (18, [.int 1, .ref l1, .ref l2, .ref l3, .ref l4, .ref l5, .ref l6, .int 0, .int 3, .int 12, .ref m1, .ref m2, .ref m3, .ref m4, .ref m5, .ref m6]))]) hP hD hK [11, 12] [0, 1, 2, 3, 4, 5, 6, 7, 8, 9, 10, 13, 14, 15, 16, 17, 18, 19] rfl rfl (by decide) (by decide) hk1 hFc ht hvm hB
      have hP : va_P G vwCl ([(a2, .inr (3, [.int 0, .ref z, .int 0])), (a3, .inr (3, [.int 0, .ref z, .int 0])), (a4, .inr (3, [.int 0, .ref z, .int 0])), (a5, .inr (3, [.int 0, .ref z, .int 0])), (a6, .inr (10, [.ref b1, .ref b2, .ref b3, .int 0])), (b1, .inl (cyA, 400, .inl (nI))), (b2, .inl (cyJ, 512, .inl (fun _ => 0))), (b3, .inl (cyT, 400, .inl (fun _ => 0))), (a7, .inr (4, [.ref d1, .ref d2, .ref d3, .ref d4, .int 0, .int 12])), (d4, .inl (cyO, 20, .inr (.inr (.inr (.inr (fS)))))), (r0, .inl (cyI, 20, .inl (fun _ => 0))), (l2, .inr (3, [.int 0, .ref z, .int 0])), (l3, .inr (3, [.int 0, .ref z, .int 0])), (l4, .inr (3, [.int 0, .ref z, .int 0])), (l5, .inr (3, [.int 0, .ref z, .int 0])), (l6, .inr (3, [.int 0, .ref z, .int 0])), (o2, .inl (cyD, 1, .inr (.inr (.inr (.inl (fun _ => 0)))))), (o1, .inl (cyL, 1, .inr (.inl ((fun _ => 0))))), (y0, .inr (18, [.int 1, .ref l1, .ref l2, .ref l3, .ref l4, .ref l5, .ref l6, .int 0, .int 3, .int 12, .ref m1, .ref m2, .ref m3, .ref m4, .ref m5, .ref m6]))]) H_60 := hP
      have hD : va_D A ([(a2, .inr (3, [.int 0, .ref z, .int 0])), (a3, .inr (3, [.int 0, .ref z, .int 0])), (a4, .inr (3, [.int 0, .ref z, .int 0])), (a5, .inr (3, [.int 0, .ref z, .int 0])), (a6, .inr (10, [.ref b1, .ref b2, .ref b3, .int 0])), (b1, .inl (cyA, 400, .inl (nI))), (b2, .inl (cyJ, 512, .inl (fun _ => 0))), (b3, .inl (cyT, 400, .inl (fun _ => 0))), (a7, .inr (4, [.ref d1, .ref d2, .ref d3, .ref d4, .int 0, .int 12])), (d4, .inl (cyO, 20, .inr (.inr (.inr (.inr (fS)))))), (r0, .inl (cyI, 20, .inl (fun _ => 0))), (l2, .inr (3, [.int 0, .ref z, .int 0])), (l3, .inr (3, [.int 0, .ref z, .int 0])), (l4, .inr (3, [.int 0, .ref z, .int 0])), (l5, .inr (3, [.int 0, .ref z, .int 0])), (l6, .inr (3, [.int 0, .ref z, .int 0])), (o2, .inl (cyD, 1, .inr (.inr (.inr (.inl (fun _ => 0)))))), (o1, .inl (cyL, 1, .inr (.inl ((fun _ => 0))))), (y0, .inr (18, [.int 1, .ref l1, .ref l2, .ref l3, .ref l4, .ref l5, .ref l6, .int 0, .int 3, .int 12, .ref m1, .ref m2, .ref m3, .ref m4, .ref m5, .ref m6]))]) := hD
      have hK : va_K G vwCl [(cyA, .int), (cyJ, .int), (cyT, .int), (cyO, .array .int), (cyI, .int), (cyL, .long), (cyD, .double), (cyL, .long)] s := hK
      refine W.widen (k := 136) (n := 2997) (Nat.le_of_ble_eq_true rfl) (Nat.le_of_ble_eq_true rfl) ?_
      refine lv_istore (lv' := [(7, .int r_61), (6, .int 1), (0, .ref b), (1, .ref x0), (2, .ref y0), (3, .ref o1), (4, .ref o2), (5, .int 0)]) hx hb dL_law_576 hl (by decide) rfl (fun ls hl => ?_)
      refine lv_aload_n hx hb dL_law_578 rfl (lv_at hl 4 rfl) ?_
      have hPc := hP.sub (ws' := [(y0, .inr (18, [.int 1, .ref l1, .ref l2, .ref l3, .ref l4, .ref l5, .ref l6, .int 0, .int 3, .int 12, .ref m1, .ref m2, .ref m3, .ref m4, .ref m5, .ref m6]))]) [18] rfl
      have hKc := hK.sub (tys' := []) [] rfl
      refine va_calli (va_runV (As := []) (rest := []) ⟨hx, hb, hml, hown, hts⟩ (k_X14_thrown l G z y0 1 l1 l2 l3 l4 l5 l6 3 12 m1 m2 m3 m4 m5 m6 H_60.size ) (cwV 0 hts (lw_goodApp (lw_4 q1236 q1237 q1238 q7) q1239) rfl rfl rfl (by decide +kernel) ⟨Nat.le_of_ble_eq_true rfl, Nat.le_of_ble_eq_true rfl⟩) ⟨PR.blind, va_recv hK hP (ci := 18) (q0 := 18) rfl rfl, PR.of hPc hKc hG hS hA [.ref y0]⟩ rfl rfl hl.1 rfl (lv_room (Nat.le_of_ble_eq_true rfl)) dL_law_579 ⟨Nat.le_of_ble_eq_true rfl, Nat.le_of_ble_eq_true rfl⟩) hS (fun q h9 h => zN.not h9 h) (fun q h => hA q (Nat.le_trans hS.1 h)) (fun r_65 u t_67 H_64 locs ht hvm hw_66 hB hz1 hk1 hS => ?_)
      have hP := hP.grown hk1
      refine W.widen (k := 136) (n := 2997) (Nat.le_of_ble_eq_true rfl) (Nat.le_of_ble_eq_true rfl) ?_
      obtain rfl : 1 = r_65 := hw_66.symm
      refine lv_iload hx hb dL_law_582 (lv_at hl 1 rfl) ?_
      refine lv_icmp_eq (tgt := 589) hx hb dL_law_584 (by decide) (fun c_68 => ?_) (fun c_68 => absurd rfl c_68)
      refine lv_iload hx hb dL_law_589 (lv_at hl 1 rfl) ?_
      refine lv_if_ne (tgt := 606) hx hb dL_law_591 (by decide) (fun c_69 => ?_) (fun c_69 => absurd c_69 (by decide))
      refine lv_goto (tgt := 3288) hx hb dL_law_606 (by decide) ?_
      exact law_tail hfl C0 hA hA2 hS (lv_sub hl [2, 7] rfl) (Nat.le_of_ble_eq_true rfl) (Nat.le_of_ble_eq_true rfl)
    · refine lv_iconst (v := 1) hx hb dL_law_562 (by decide) ?_
      refine lv_goto (tgt := 567) hx hb dL_law_563 (by decide) ?_
      refine lv_aload_n hx hb dL_law_567 rfl (lv_at hl 1 rfl) ?_
      refine lv_iload hx hb dL_law_568 (lv_at hl 6 rfl) ?_
      refine lv_iconst (v := 4) hx hb dL_law_570 (by decide) ?_
      refine lv_iadd hx hb dL_law_571 ?_
      refine lv_topi (fun f_70 ef_70 => ?_)
      obtain rfl : f_70 = 4 := ef_70.trans (by decide)
      refine va_sld hx hb hX hbl hbA hS (by unfold vp_in; decide +kernel) dL_law_572 ?_
      refine lv_topi (fun f_71 ef_71 => ?_)
      obtain rfl : f_71 = xs 4 := ef_71
      have hPc := hP.sub (ws' := [(y0, .inr (18, [.int 0, .ref l1, .ref l2, .ref l3, .ref l4, .ref l5, .ref l6, .int 0, .int 3, .int 12, .ref m1, .ref m2, .ref m3, .ref m4, .ref m5, .ref m6])), (l1, .inr (3, [.int 0, .ref z, .int 0]))]) [11, 12] rfl
      have hKc := hK.sub (tys' := []) [] rfl
      have hDc := hD.sub (ws' := [(y0, .inr (18, [.int 0, .ref l1, .ref l2, .ref l3, .ref l4, .ref l5, .ref l6, .int 0, .int 3, .int 12, .ref m1, .ref m2, .ref m3, .ref m4, .ref m5, .ref m6])), (l1, .inr (3, [.int 0, .ref z, .int 0]))]) [11, 12] (by decide) rfl
      have hFc := va_free (wc := [(y0, .inr (18, [.int 0, .ref l1, .ref l2, .ref l3, .ref l4, .ref l5, .ref l6, .int 0, .int 3, .int 12, .ref m1, .ref m2, .ref m3, .ref m4, .ref m5, .ref m6])), (l1, .inr (3, [.int 0, .ref z, .int 0]))]) hD hS hA [11, 12] rfl
      refine va_calli (va_runV (As := [.int (xs 1), .int (xs 2), .int 1, .int (xs 4)]) (rest := []) ⟨hx, hb, hml, hown, hts⟩ (k_X14_damage l G z y0 0 l1 l2 l3 l4 l5 l6 3 12 m1 m2 m3 m4 m5 m6 0 z ((xs 1)) ((xs 2)) 1 ((xs 4)) H_47.size ) (cwV 4 hts (lw_goodApp (lw_4 q1321 q1322 q1323 q7) q1324) rfl rfl rfl (by decide +kernel) ⟨Nat.le_of_ble_eq_true rfl, Nat.le_of_ble_eq_true rfl⟩) ⟨PW.blind, va_recv hK hP (ci := 18) (q0 := 11) rfl rfl, PW.of hPc hKc hDc hG hS hFc [.ref y0, .int (xs 1), .int (xs 2), .int 1, .int (xs 4)]⟩ rfl rfl hl.1 rfl (lv_room (Nat.le_of_ble_eq_true rfl)) dL_law_573 ⟨Nat.le_of_ble_eq_true rfl, Nat.le_of_ble_eq_true rfl⟩) hS (fun q _ h => hFc q h) hFc (fun r_73 u t_75 H_72 locs ht hvm hw_74 hB hz1 hk1 hS => ?_)
      obtain ⟨hP, hD, hK⟩ := QW.join (wr := [(a2, .inr (3, [.int 0, .ref z, .int 0])), (a3, .inr (3, [.int 0, .ref z, .int 0])), (a4, .inr (3, [.int 0, .ref z, .int 0])), (a5, .inr (3, [.int 0, .ref z, .int 0])), (a6, .inr (10, [.ref b1, .ref b2, .ref b3, .int 0])), (b1, .inl (cyA, 400, .inl (nI))), (b2, .inl (cyJ, 512, .inl (fun _ => 0))), (b3, .inl (cyT, 400, .inl (fun _ => 0))), (a7, .inr (4, [.ref d1, .ref d2, .ref d3, .ref d4, .int 0, .int 12])), (d4, .inl (cyO, 20, .inr (.inr (.inr (.inr (fS)))))), (r0, .inl (cyI, 20, .inl (fun _ => 0))), (l2, .inr (3, [.int 0, .ref z, .int 0])), (l3, .inr (3, [.int 0, .ref z, .int 0])), (l4, .inr (3, [.int 0, .ref z, .int 0])), (l5, .inr (3, [.int 0, .ref z, .int 0])), (l6, .inr (3, [.int 0, .ref z, .int 0])), (o2, .inl (cyD, 1, .inr (.inr (.inr (.inl (fun _ => 0)))))), (o1, .inl (cyL, 1, .inr (.inl ((fun _ => 0)))))]) (w1 := [(y0, .inr (18, [.int 1, .ref l1, .ref l2, .ref l3, .ref l4, .ref l5, .ref l6, .int 0, .int 3, .int 12, .ref m1, .ref m2, .ref m3, .ref m4, .ref m5, .ref m6]))]) hP hD hK [11, 12] [0, 1, 2, 3, 4, 5, 6, 7, 8, 9, 10, 13, 14, 15, 16, 17, 18, 19] rfl rfl (by decide) (by decide) hk1 hFc ht hvm hB
      have hP : va_P G vwCl ([(a2, .inr (3, [.int 0, .ref z, .int 0])), (a3, .inr (3, [.int 0, .ref z, .int 0])), (a4, .inr (3, [.int 0, .ref z, .int 0])), (a5, .inr (3, [.int 0, .ref z, .int 0])), (a6, .inr (10, [.ref b1, .ref b2, .ref b3, .int 0])), (b1, .inl (cyA, 400, .inl (nI))), (b2, .inl (cyJ, 512, .inl (fun _ => 0))), (b3, .inl (cyT, 400, .inl (fun _ => 0))), (a7, .inr (4, [.ref d1, .ref d2, .ref d3, .ref d4, .int 0, .int 12])), (d4, .inl (cyO, 20, .inr (.inr (.inr (.inr (fS)))))), (r0, .inl (cyI, 20, .inl (fun _ => 0))), (l2, .inr (3, [.int 0, .ref z, .int 0])), (l3, .inr (3, [.int 0, .ref z, .int 0])), (l4, .inr (3, [.int 0, .ref z, .int 0])), (l5, .inr (3, [.int 0, .ref z, .int 0])), (l6, .inr (3, [.int 0, .ref z, .int 0])), (o2, .inl (cyD, 1, .inr (.inr (.inr (.inl (fun _ => 0)))))), (o1, .inl (cyL, 1, .inr (.inl ((fun _ => 0))))), (y0, .inr (18, [.int 1, .ref l1, .ref l2, .ref l3, .ref l4, .ref l5, .ref l6, .int 0, .int 3, .int 12, .ref m1, .ref m2, .ref m3, .ref m4, .ref m5, .ref m6]))]) H_72 := hP
      have hD : va_D A ([(a2, .inr (3, [.int 0, .ref z, .int 0])), (a3, .inr (3, [.int 0, .ref z, .int 0])), (a4, .inr (3, [.int 0, .ref z, .int 0])), (a5, .inr (3, [.int 0, .ref z, .int 0])), (a6, .inr (10, [.ref b1, .ref b2, .ref b3, .int 0])), (b1, .inl (cyA, 400, .inl (nI))), (b2, .inl (cyJ, 512, .inl (fun _ => 0))), (b3, .inl (cyT, 400, .inl (fun _ => 0))), (a7, .inr (4, [.ref d1, .ref d2, .ref d3, .ref d4, .int 0, .int 12])), (d4, .inl (cyO, 20, .inr (.inr (.inr (.inr (fS)))))), (r0, .inl (cyI, 20, .inl (fun _ => 0))), (l2, .inr (3, [.int 0, .ref z, .int 0])), (l3, .inr (3, [.int 0, .ref z, .int 0])), (l4, .inr (3, [.int 0, .ref z, .int 0])), (l5, .inr (3, [.int 0, .ref z, .int 0])), (l6, .inr (3, [.int 0, .ref z, .int 0])), (o2, .inl (cyD, 1, .inr (.inr (.inr (.inl (fun _ => 0)))))), (o1, .inl (cyL, 1, .inr (.inl ((fun _ => 0))))), (y0, .inr (18, [.int 1, .ref l1, .ref l2, .ref l3, .ref l4, .ref l5, .ref l6, .int 0, .int 3, .int 12, .ref m1, .ref m2, .ref m3, .ref m4, .ref m5, .ref m6]))]) := hD
      have hK : va_K G vwCl [(cyA, .int), (cyJ, .int), (cyT, .int), (cyO, .array .int), (cyI, .int), (cyL, .long), (cyD, .double), (cyL, .long)] s := hK
      refine W.widen (k := 136) (n := 2997) (Nat.le_of_ble_eq_true rfl) (Nat.le_of_ble_eq_true rfl) ?_
      refine lv_istore (lv' := [(7, .int r_73), (6, .int 1), (0, .ref b), (1, .ref x0), (2, .ref y0), (3, .ref o1), (4, .ref o2), (5, .int 0)]) hx hb dL_law_576 hl (by decide) rfl (fun ls hl => ?_)
      refine lv_aload_n hx hb dL_law_578 rfl (lv_at hl 4 rfl) ?_
      have hPc := hP.sub (ws' := [(y0, .inr (18, [.int 1, .ref l1, .ref l2, .ref l3, .ref l4, .ref l5, .ref l6, .int 0, .int 3, .int 12, .ref m1, .ref m2, .ref m3, .ref m4, .ref m5, .ref m6]))]) [18] rfl
      have hKc := hK.sub (tys' := []) [] rfl
      refine va_calli (va_runV (As := []) (rest := []) ⟨hx, hb, hml, hown, hts⟩ (k_X14_thrown l G z y0 1 l1 l2 l3 l4 l5 l6 3 12 m1 m2 m3 m4 m5 m6 H_72.size ) (cwV 0 hts (lw_goodApp (lw_4 q1236 q1237 q1238 q7) q1239) rfl rfl rfl (by decide +kernel) ⟨Nat.le_of_ble_eq_true rfl, Nat.le_of_ble_eq_true rfl⟩) ⟨PR.blind, va_recv hK hP (ci := 18) (q0 := 18) rfl rfl, PR.of hPc hKc hG hS hA [.ref y0]⟩ rfl rfl hl.1 rfl (lv_room (Nat.le_of_ble_eq_true rfl)) dL_law_579 ⟨Nat.le_of_ble_eq_true rfl, Nat.le_of_ble_eq_true rfl⟩) hS (fun q h9 h => zN.not h9 h) (fun q h => hA q (Nat.le_trans hS.1 h)) (fun r_77 u t_79 H_76 locs ht hvm hw_78 hB hz1 hk1 hS => ?_)
      have hP := hP.grown hk1
      refine W.widen (k := 136) (n := 2997) (Nat.le_of_ble_eq_true rfl) (Nat.le_of_ble_eq_true rfl) ?_
      obtain rfl : 1 = r_77 := hw_78.symm
      refine lv_iload hx hb dL_law_582 (lv_at hl 1 rfl) ?_
      refine lv_icmp_eq (tgt := 589) hx hb dL_law_584 (by decide) (fun c_80 => ?_) (fun c_80 => absurd rfl c_80)
      refine lv_iload hx hb dL_law_589 (lv_at hl 1 rfl) ?_
      refine lv_if_ne (tgt := 606) hx hb dL_law_591 (by decide) (fun c_81 => ?_) (fun c_81 => absurd c_81 (by decide))
      refine lv_goto (tgt := 3288) hx hb dL_law_606 (by decide) ?_
      exact law_tail hfl C0 hA hA2 hS (lv_sub hl [2, 7] rfl) (Nat.le_of_ble_eq_true rfl) (Nat.le_of_ble_eq_true rfl)
set_option maxHeartbeats 8000000 in
set_option maxRecDepth 100000 in
/-- script value 4 -/
theorem law_case_4 {p : Program} {l : Launch} {e : Env} {s : State} {m : MethodId} {below : List Frame} {meth : Method} {c : Code} {b : Nat} {xs : Nat → Int32} (hfl : l.stackTraces = false) (C0 : lw_At p s m meth c b 7 xs) {A : Nat → Prop} (hA : ∀ q : Nat, s.heap.size ≤ q → A q) (hA2 : ∀ q : Nat, A q → s.heap.size ≤ q) (G : va_G) (z : Nat) (hG : zG z A s s.heap) (x0 : Nat) (y0 : Nat) (o1 : Nat) (o2 : Nat) (cyL : ClassId) (cyD : ClassId) (a1 : Nat) (a2 : Nat) (a3 : Nat) (a4 : Nat) (a5 : Nat) (a6 : Nat) (a7 : Nat) (a8 : Nat) (b1 : Nat) (b2 : Nat) (b3 : Nat) (cyA : ClassId) (cyJ : ClassId) (cyT : ClassId) (d1 : Nat) (d2 : Nat) (d3 : Nat) (d4 : Nat) (cyO : ClassId) (fS : Nat → Option Nat) (cyI : ClassId) (r0 : Nat) (l1 : Nat) (l2 : Nat) (l3 : Nat) (l4 : Nat) (l5 : Nat) (l6 : Nat) (m1 : Nat) (m2 : Nat) (m3 : Nat) (m4 : Nat) (m5 : Nat) (m6 : Nat) (hf0 : fS 0 = some r0) {H : Heap} {locs : List Loc} (hP : va_P G vwCl ([(x0, .inr (12, [.ref a1, .ref a2, .ref a3, .ref a4, .ref a5, .ref a6, .ref a7, .ref a8, .int 3, .int 0])), (a1, .inr (3, [.int 0, .ref z, .int 0])), (a2, .inr (3, [.int 0, .ref z, .int 0])), (a3, .inr (3, [.int 0, .ref z, .int 0])), (a4, .inr (3, [.int 0, .ref z, .int 0])), (a5, .inr (3, [.int 0, .ref z, .int 0])), (a6, .inr (10, [.ref b1, .ref b2, .ref b3, .int 0])), (b1, .inl (cyA, 400, .inl (nI))), (b2, .inl (cyJ, 512, .inl (fun _ => 0))), (b3, .inl (cyT, 400, .inl (fun _ => 0))), (a7, .inr (4, [.ref d1, .ref d2, .ref d3, .ref d4, .int 0, .int 12])), (d4, .inl (cyO, 20, .inr (.inr (.inr (.inr (fS)))))), (r0, .inl (cyI, 20, .inl (fun _ => 0))), (y0, .inr (18, [.int 0, .ref l1, .ref l2, .ref l3, .ref l4, .ref l5, .ref l6, .int 0, .int 3, .int 12, .ref m1, .ref m2, .ref m3, .ref m4, .ref m5, .ref m6])), (l1, .inr (3, [.int 0, .ref z, .int 0])), (l2, .inr (3, [.int 0, .ref z, .int 0])), (l3, .inr (3, [.int 0, .ref z, .int 0])), (l4, .inr (3, [.int 0, .ref z, .int 0])), (l5, .inr (3, [.int 0, .ref z, .int 0])), (l6, .inr (3, [.int 0, .ref z, .int 0])), (o1, .inl (cyL, 1, .inr (.inl (fun _ => 0)))), (o2, .inl (cyD, 1, .inr (.inr (.inr (.inl (fun _ => 0))))))]) H) (hD : va_D A ([(x0, .inr (12, [.ref a1, .ref a2, .ref a3, .ref a4, .ref a5, .ref a6, .ref a7, .ref a8, .int 3, .int 0])), (a1, .inr (3, [.int 0, .ref z, .int 0])), (a2, .inr (3, [.int 0, .ref z, .int 0])), (a3, .inr (3, [.int 0, .ref z, .int 0])), (a4, .inr (3, [.int 0, .ref z, .int 0])), (a5, .inr (3, [.int 0, .ref z, .int 0])), (a6, .inr (10, [.ref b1, .ref b2, .ref b3, .int 0])), (b1, .inl (cyA, 400, .inl (nI))), (b2, .inl (cyJ, 512, .inl (fun _ => 0))), (b3, .inl (cyT, 400, .inl (fun _ => 0))), (a7, .inr (4, [.ref d1, .ref d2, .ref d3, .ref d4, .int 0, .int 12])), (d4, .inl (cyO, 20, .inr (.inr (.inr (.inr (fS)))))), (r0, .inl (cyI, 20, .inl (fun _ => 0))), (y0, .inr (18, [.int 0, .ref l1, .ref l2, .ref l3, .ref l4, .ref l5, .ref l6, .int 0, .int 3, .int 12, .ref m1, .ref m2, .ref m3, .ref m4, .ref m5, .ref m6])), (l1, .inr (3, [.int 0, .ref z, .int 0])), (l2, .inr (3, [.int 0, .ref z, .int 0])), (l3, .inr (3, [.int 0, .ref z, .int 0])), (l4, .inr (3, [.int 0, .ref z, .int 0])), (l5, .inr (3, [.int 0, .ref z, .int 0])), (l6, .inr (3, [.int 0, .ref z, .int 0])), (o1, .inl (cyL, 1, .inr (.inl (fun _ => 0)))), (o2, .inl (cyD, 1, .inr (.inr (.inr (.inl (fun _ => 0))))))])) (hK : va_K G vwCl [(cyA, .int), (cyJ, .int), (cyT, .int), (cyO, .array .int), (cyI, .int), (cyL, .long), (cyD, .double)] s) (hS : va_S A s.heap H locs) {ls : Array Slot} (hl : lv_has ls 9 [(0, .ref b), (1, .ref x0), (2, .ref y0), (3, .ref o1), (4, .ref o2), (5, .int 0)]) : W p l e room_1 s m #[Value.ref b] below meth c H locs 135 2991 (lw_Z below #[Value.ref b] s) (F0 m 609 ls []) := by
  have C9 := C0
  obtain ⟨hx, hb, hr, hml, hown, hts0, hX, hbl, hlocks, hgv⟩ := id C0
  have hg := lw_sub_good hts0
  have hts : ∀ w ∈ (lw_hd :: lw_good), w.before #[Value.ref b] s = true := fun w h => (List.mem_cons.mp h).elim (fun e9 => e9 ▸ hg _ q0) (hg w)
  have hbA : ¬ A b := fun h => Nat.not_le.mpr hbl (hA2 b h)
  refine lv_aload_n hx hb dL_law_609 rfl (lv_at hl 1 rfl) ?_
  refine lv_aload_n hx hb dL_law_610 rfl (lv_at hl 0 rfl) ?_
  refine lv_iload hx hb dL_law_611 (lv_at hl 5 rfl) ?_
  refine lv_iconst (v := 1) hx hb dL_law_613 (by decide) ?_
  refine lv_iadd hx hb dL_law_614 ?_
  refine lv_topi (fun f_1 ef_1 => ?_)
  obtain rfl : f_1 = 1 := ef_1.trans (by decide)
  refine va_sld hx hb hX hbl hbA hS (by unfold vp_in; decide +kernel) dL_law_615 ?_
  refine lv_topi (fun f_2 ef_2 => ?_)
  obtain rfl : f_2 = xs 1 := ef_2
  refine lv_aload_n hx hb dL_law_616 rfl (lv_at hl 0 rfl) ?_
  refine lv_iload hx hb dL_law_617 (lv_at hl 5 rfl) ?_
  refine lv_iconst (v := 2) hx hb dL_law_619 (by decide) ?_
  refine lv_iadd hx hb dL_law_620 ?_
  refine lv_topi (fun f_3 ef_3 => ?_)
  obtain rfl : f_3 = 2 := ef_3.trans (by decide)
  refine va_sld hx hb hX hbl hbA hS (by unfold vp_in; decide +kernel) dL_law_621 ?_
  refine lv_topi (fun f_4 ef_4 => ?_)
  obtain rfl : f_4 = xs 2 := ef_4
  refine lv_aload_n hx hb dL_law_622 rfl (lv_at hl 3 rfl) ?_
  have hPc := hP.sub (ws' := [(x0, .inr (12, [.ref a1, .ref a2, .ref a3, .ref a4, .ref a5, .ref a6, .ref a7, .ref a8, .int 3, .int 0])), (a1, .inr (3, [.int 0, .ref z, .int 0])), (o1, .inl (cyL, 1, .inr (.inl (fun _ => 0))))]) [0, 1, 20] rfl
  have hKc := hK.sub (tys' := [(cyL, .long)]) [5] rfl
  have hDc := hD.sub (ws' := [(x0, .inr (12, [.ref a1, .ref a2, .ref a3, .ref a4, .ref a5, .ref a6, .ref a7, .ref a8, .int 3, .int 0])), (a1, .inr (3, [.int 0, .ref z, .int 0])), (o1, .inl (cyL, 1, .inr (.inl (fun _ => 0))))]) [0, 1, 20] (by decide) rfl
  have hFc := va_free (wc := [(x0, .inr (12, [.ref a1, .ref a2, .ref a3, .ref a4, .ref a5, .ref a6, .ref a7, .ref a8, .int 3, .int 0])), (a1, .inr (3, [.int 0, .ref z, .int 0])), (o1, .inl (cyL, 1, .inr (.inl (fun _ => 0))))]) hD hS hA [0, 1, 20] rfl
  refine va_calli (vx_runSW (As := [.ref x0, .int (xs 1), .int (xs 2), .ref o1]) (rest := []) ⟨hx, hb, hml, hown, hts⟩ (k_L_retire l hfl G z x0 a1 a2 a3 a4 a5 a6 a7 a8 3 0 0 z ((xs 1)) ((xs 2)) o1 cyL (fun _ => 0) H.size ) (vx_cwSW 4 hts (lw_goodApp (lw_3 q616 q617 q0) q618) rfl rfl rfl (by decide +kernel) ⟨Nat.le_of_ble_eq_true rfl, Nat.le_of_ble_eq_true rfl⟩) ⟨PW.blind, PW.of hPc hKc hDc hG hS hFc [.ref x0, .int (xs 1), .int (xs 2), .ref o1]⟩ rfl rfl hl.1 rfl (lv_room (Nat.le_of_ble_eq_true rfl)) dL_law_623 ⟨Nat.le_of_ble_eq_true rfl, Nat.le_of_ble_eq_true rfl⟩) hS (fun q _ h => hFc q h) hFc (fun r_6 u t_8 H_5 locs ht hvm hw_7 hB hz1 hk1 hS => ?_)
  obtain ⟨hP, hD, hK⟩ := QW.join (wr := [(a2, .inr (3, [.int 0, .ref z, .int 0])), (a3, .inr (3, [.int 0, .ref z, .int 0])), (a4, .inr (3, [.int 0, .ref z, .int 0])), (a5, .inr (3, [.int 0, .ref z, .int 0])), (a6, .inr (10, [.ref b1, .ref b2, .ref b3, .int 0])), (b1, .inl (cyA, 400, .inl (nI))), (b2, .inl (cyJ, 512, .inl (fun _ => 0))), (b3, .inl (cyT, 400, .inl (fun _ => 0))), (a7, .inr (4, [.ref d1, .ref d2, .ref d3, .ref d4, .int 0, .int 12])), (d4, .inl (cyO, 20, .inr (.inr (.inr (.inr (fS)))))), (r0, .inl (cyI, 20, .inl (fun _ => 0))), (y0, .inr (18, [.int 0, .ref l1, .ref l2, .ref l3, .ref l4, .ref l5, .ref l6, .int 0, .int 3, .int 12, .ref m1, .ref m2, .ref m3, .ref m4, .ref m5, .ref m6])), (l1, .inr (3, [.int 0, .ref z, .int 0])), (l2, .inr (3, [.int 0, .ref z, .int 0])), (l3, .inr (3, [.int 0, .ref z, .int 0])), (l4, .inr (3, [.int 0, .ref z, .int 0])), (l5, .inr (3, [.int 0, .ref z, .int 0])), (l6, .inr (3, [.int 0, .ref z, .int 0])), (o2, .inl (cyD, 1, .inr (.inr (.inr (.inl (fun _ => 0))))))]) (w1 := [(o1, .inl (cyL, 1, .inr (.inl ((fun _ => 0)))))]) hP hD hK [0, 1, 20] [2, 3, 4, 5, 6, 7, 8, 9, 10, 11, 12, 13, 14, 15, 16, 17, 18, 19, 21] rfl rfl (by decide) (by decide) hk1 hFc ht hvm hB
  have hP : va_P G vwCl ([(a2, .inr (3, [.int 0, .ref z, .int 0])), (a3, .inr (3, [.int 0, .ref z, .int 0])), (a4, .inr (3, [.int 0, .ref z, .int 0])), (a5, .inr (3, [.int 0, .ref z, .int 0])), (a6, .inr (10, [.ref b1, .ref b2, .ref b3, .int 0])), (b1, .inl (cyA, 400, .inl (nI))), (b2, .inl (cyJ, 512, .inl (fun _ => 0))), (b3, .inl (cyT, 400, .inl (fun _ => 0))), (a7, .inr (4, [.ref d1, .ref d2, .ref d3, .ref d4, .int 0, .int 12])), (d4, .inl (cyO, 20, .inr (.inr (.inr (.inr (fS)))))), (r0, .inl (cyI, 20, .inl (fun _ => 0))), (y0, .inr (18, [.int 0, .ref l1, .ref l2, .ref l3, .ref l4, .ref l5, .ref l6, .int 0, .int 3, .int 12, .ref m1, .ref m2, .ref m3, .ref m4, .ref m5, .ref m6])), (l1, .inr (3, [.int 0, .ref z, .int 0])), (l2, .inr (3, [.int 0, .ref z, .int 0])), (l3, .inr (3, [.int 0, .ref z, .int 0])), (l4, .inr (3, [.int 0, .ref z, .int 0])), (l5, .inr (3, [.int 0, .ref z, .int 0])), (l6, .inr (3, [.int 0, .ref z, .int 0])), (o2, .inl (cyD, 1, .inr (.inr (.inr (.inl (fun _ => 0)))))), (o1, .inl (cyL, 1, .inr (.inl ((fun _ => 0)))))]) H_5 := hP
  have hD : va_D A ([(a2, .inr (3, [.int 0, .ref z, .int 0])), (a3, .inr (3, [.int 0, .ref z, .int 0])), (a4, .inr (3, [.int 0, .ref z, .int 0])), (a5, .inr (3, [.int 0, .ref z, .int 0])), (a6, .inr (10, [.ref b1, .ref b2, .ref b3, .int 0])), (b1, .inl (cyA, 400, .inl (nI))), (b2, .inl (cyJ, 512, .inl (fun _ => 0))), (b3, .inl (cyT, 400, .inl (fun _ => 0))), (a7, .inr (4, [.ref d1, .ref d2, .ref d3, .ref d4, .int 0, .int 12])), (d4, .inl (cyO, 20, .inr (.inr (.inr (.inr (fS)))))), (r0, .inl (cyI, 20, .inl (fun _ => 0))), (y0, .inr (18, [.int 0, .ref l1, .ref l2, .ref l3, .ref l4, .ref l5, .ref l6, .int 0, .int 3, .int 12, .ref m1, .ref m2, .ref m3, .ref m4, .ref m5, .ref m6])), (l1, .inr (3, [.int 0, .ref z, .int 0])), (l2, .inr (3, [.int 0, .ref z, .int 0])), (l3, .inr (3, [.int 0, .ref z, .int 0])), (l4, .inr (3, [.int 0, .ref z, .int 0])), (l5, .inr (3, [.int 0, .ref z, .int 0])), (l6, .inr (3, [.int 0, .ref z, .int 0])), (o2, .inl (cyD, 1, .inr (.inr (.inr (.inl (fun _ => 0)))))), (o1, .inl (cyL, 1, .inr (.inl ((fun _ => 0)))))]) := hD
  have hK : va_K G vwCl [(cyA, .int), (cyJ, .int), (cyT, .int), (cyO, .array .int), (cyI, .int), (cyL, .long), (cyD, .double), (cyL, .long)] s := hK
  refine W.widen (k := 136) (n := 2997) (Nat.le_of_ble_eq_true rfl) (Nat.le_of_ble_eq_true rfl) ?_
  obtain rfl : 1 = r_6 := hw_7.symm
  refine lv_istore (lv' := [(6, .int 1), (0, .ref b), (1, .ref x0), (2, .ref y0), (3, .ref o1), (4, .ref o2), (5, .int 0)]) hx hb dL_law_626 hl (by decide) rfl (fun ls hl => ?_)
  refine lv_aload_n hx hb dL_law_628 rfl (lv_at hl 3 rfl) ?_
  refine lv_aload_n hx hb dL_law_629 rfl (lv_at hl 1 rfl) ?_
  refine lv_iload hx hb dL_law_630 (lv_at hl 6 rfl) ?_
  refine lv_iconst (v := 1) hx hb dL_law_632 (by decide) ?_
  refine lv_iadd hx hb dL_law_633 ?_
  refine lv_topi (fun f_9 ef_9 => ?_)
  obtain rfl : f_9 = 1 := ef_9.trans (by decide)
  refine va_sld hx hb hX hbl hbA hS (by unfold vp_in; decide +kernel) dL_law_634 ?_
  refine lv_topi (fun f_10 ef_10 => ?_)
  obtain rfl : f_10 = xs 1 := ef_10
  refine lv_aload_n hx hb dL_law_635 rfl (lv_at hl 1 rfl) ?_
  refine lv_iload hx hb dL_law_636 (lv_at hl 6 rfl) ?_
  refine lv_iconst (v := 2) hx hb dL_law_638 (by decide) ?_
  refine lv_iadd hx hb dL_law_639 ?_
  refine lv_topi (fun f_11 ef_11 => ?_)
  obtain rfl : f_11 = 2 := ef_11.trans (by decide)
  refine va_sld hx hb hX hbl hbA hS (by unfold vp_in; decide +kernel) dL_law_640 ?_
  refine lv_topi (fun f_12 ef_12 => ?_)
  obtain rfl : f_12 = xs 2 := ef_12
  have hPc := hP.sub (ws' := [(y0, .inr (18, [.int 0, .ref l1, .ref l2, .ref l3, .ref l4, .ref l5, .ref l6, .int 0, .int 3, .int 12, .ref m1, .ref m2, .ref m3, .ref m4, .ref m5, .ref m6])), (l1, .inr (3, [.int 0, .ref z, .int 0]))]) [11, 12] rfl
  have hKc := hK.sub (tys' := []) [] rfl
  have hDc := hD.sub (ws' := [(y0, .inr (18, [.int 0, .ref l1, .ref l2, .ref l3, .ref l4, .ref l5, .ref l6, .int 0, .int 3, .int 12, .ref m1, .ref m2, .ref m3, .ref m4, .ref m5, .ref m6])), (l1, .inr (3, [.int 0, .ref z, .int 0]))]) [11, 12] (by decide) rfl
  have hFc := va_free (wc := [(y0, .inr (18, [.int 0, .ref l1, .ref l2, .ref l3, .ref l4, .ref l5, .ref l6, .int 0, .int 3, .int 12, .ref m1, .ref m2, .ref m3, .ref m4, .ref m5, .ref m6])), (l1, .inr (3, [.int 0, .ref z, .int 0]))]) hD hS hA [11, 12] rfl
  refine va_calli (va_runV (As := [.int (xs 1), .int (xs 2)]) (rest := []) ⟨hx, hb, hml, hown, hts⟩ (k_X14_retire l G z y0 0 l1 l2 l3 l4 l5 l6 3 12 m1 m2 m3 m4 m5 m6 0 z ((xs 1)) ((xs 2)) H_5.size ) (cwV 2 hts (lw_goodApp (lw_4 q1337 q1338 q1339 q7) q1340) rfl rfl rfl (by decide +kernel) ⟨Nat.le_of_ble_eq_true rfl, Nat.le_of_ble_eq_true rfl⟩) ⟨PW.blind, va_recv hK hP (ci := 18) (q0 := 11) rfl rfl, PW.of hPc hKc hDc hG hS hFc [.ref y0, .int (xs 1), .int (xs 2)]⟩ rfl rfl hl.1 rfl (lv_room (Nat.le_of_ble_eq_true rfl)) dL_law_641 ⟨Nat.le_of_ble_eq_true rfl, Nat.le_of_ble_eq_true rfl⟩) hS (fun q _ h => hFc q h) hFc (fun r_14 u t_16 H_13 locs ht hvm hw_15 hB hz1 hk1 hS => ?_)
  obtain ⟨hP, hD, hK⟩ := QW.join (wr := [(a2, .inr (3, [.int 0, .ref z, .int 0])), (a3, .inr (3, [.int 0, .ref z, .int 0])), (a4, .inr (3, [.int 0, .ref z, .int 0])), (a5, .inr (3, [.int 0, .ref z, .int 0])), (a6, .inr (10, [.ref b1, .ref b2, .ref b3, .int 0])), (b1, .inl (cyA, 400, .inl (nI))), (b2, .inl (cyJ, 512, .inl (fun _ => 0))), (b3, .inl (cyT, 400, .inl (fun _ => 0))), (a7, .inr (4, [.ref d1, .ref d2, .ref d3, .ref d4, .int 0, .int 12])), (d4, .inl (cyO, 20, .inr (.inr (.inr (.inr (fS)))))), (r0, .inl (cyI, 20, .inl (fun _ => 0))), (l2, .inr (3, [.int 0, .ref z, .int 0])), (l3, .inr (3, [.int 0, .ref z, .int 0])), (l4, .inr (3, [.int 0, .ref z, .int 0])), (l5, .inr (3, [.int 0, .ref z, .int 0])), (l6, .inr (3, [.int 0, .ref z, .int 0])), (o2, .inl (cyD, 1, .inr (.inr (.inr (.inl (fun _ => 0)))))), (o1, .inl (cyL, 1, .inr (.inl ((fun _ => 0)))))]) (w1 := [(y0, .inr (18, [.int 1, .ref l1, .ref l2, .ref l3, .ref l4, .ref l5, .ref l6, .int 0, .int 3, .int 12, .ref m1, .ref m2, .ref m3, .ref m4, .ref m5, .ref m6]))]) hP hD hK [11, 12] [0, 1, 2, 3, 4, 5, 6, 7, 8, 9, 10, 13, 14, 15, 16, 17, 18, 19] rfl rfl (by decide) (by decide) hk1 hFc ht hvm hB
  have hP : va_P G vwCl ([(a2, .inr (3, [.int 0, .ref z, .int 0])), (a3, .inr (3, [.int 0, .ref z, .int 0])), (a4, .inr (3, [.int 0, .ref z, .int 0])), (a5, .inr (3, [.int 0, .ref z, .int 0])), (a6, .inr (10, [.ref b1, .ref b2, .ref b3, .int 0])), (b1, .inl (cyA, 400, .inl (nI))), (b2, .inl (cyJ, 512, .inl (fun _ => 0))), (b3, .inl (cyT, 400, .inl (fun _ => 0))), (a7, .inr (4, [.ref d1, .ref d2, .ref d3, .ref d4, .int 0, .int 12])), (d4, .inl (cyO, 20, .inr (.inr (.inr (.inr (fS)))))), (r0, .inl (cyI, 20, .inl (fun _ => 0))), (l2, .inr (3, [.int 0, .ref z, .int 0])), (l3, .inr (3, [.int 0, .ref z, .int 0])), (l4, .inr (3, [.int 0, .ref z, .int 0])), (l5, .inr (3, [.int 0, .ref z, .int 0])), (l6, .inr (3, [.int 0, .ref z, .int 0])), (o2, .inl (cyD, 1, .inr (.inr (.inr (.inl (fun _ => 0)))))), (o1, .inl (cyL, 1, .inr (.inl ((fun _ => 0))))), (y0, .inr (18, [.int 1, .ref l1, .ref l2, .ref l3, .ref l4, .ref l5, .ref l6, .int 0, .int 3, .int 12, .ref m1, .ref m2, .ref m3, .ref m4, .ref m5, .ref m6]))]) H_13 := hP
  have hD : va_D A ([(a2, .inr (3, [.int 0, .ref z, .int 0])), (a3, .inr (3, [.int 0, .ref z, .int 0])), (a4, .inr (3, [.int 0, .ref z, .int 0])), (a5, .inr (3, [.int 0, .ref z, .int 0])), (a6, .inr (10, [.ref b1, .ref b2, .ref b3, .int 0])), (b1, .inl (cyA, 400, .inl (nI))), (b2, .inl (cyJ, 512, .inl (fun _ => 0))), (b3, .inl (cyT, 400, .inl (fun _ => 0))), (a7, .inr (4, [.ref d1, .ref d2, .ref d3, .ref d4, .int 0, .int 12])), (d4, .inl (cyO, 20, .inr (.inr (.inr (.inr (fS)))))), (r0, .inl (cyI, 20, .inl (fun _ => 0))), (l2, .inr (3, [.int 0, .ref z, .int 0])), (l3, .inr (3, [.int 0, .ref z, .int 0])), (l4, .inr (3, [.int 0, .ref z, .int 0])), (l5, .inr (3, [.int 0, .ref z, .int 0])), (l6, .inr (3, [.int 0, .ref z, .int 0])), (o2, .inl (cyD, 1, .inr (.inr (.inr (.inl (fun _ => 0)))))), (o1, .inl (cyL, 1, .inr (.inl ((fun _ => 0))))), (y0, .inr (18, [.int 1, .ref l1, .ref l2, .ref l3, .ref l4, .ref l5, .ref l6, .int 0, .int 3, .int 12, .ref m1, .ref m2, .ref m3, .ref m4, .ref m5, .ref m6]))]) := hD
  have hK : va_K G vwCl [(cyA, .int), (cyJ, .int), (cyT, .int), (cyO, .array .int), (cyI, .int), (cyL, .long), (cyD, .double), (cyL, .long)] s := hK
  refine W.widen (k := 136) (n := 2997) (Nat.le_of_ble_eq_true rfl) (Nat.le_of_ble_eq_true rfl) ?_
  refine lv_istore (lv' := [(7, .int r_14), (6, .int 1), (0, .ref b), (1, .ref x0), (2, .ref y0), (3, .ref o1), (4, .ref o2), (5, .int 0)]) hx hb dL_law_644 hl (by decide) rfl (fun ls hl => ?_)
  refine lv_aload_n hx hb dL_law_646 rfl (lv_at hl 4 rfl) ?_
  have hPc := hP.sub (ws' := [(y0, .inr (18, [.int 1, .ref l1, .ref l2, .ref l3, .ref l4, .ref l5, .ref l6, .int 0, .int 3, .int 12, .ref m1, .ref m2, .ref m3, .ref m4, .ref m5, .ref m6]))]) [18] rfl
  have hKc := hK.sub (tys' := []) [] rfl
  refine va_calli (va_runV (As := []) (rest := []) ⟨hx, hb, hml, hown, hts⟩ (k_X14_thrown l G z y0 1 l1 l2 l3 l4 l5 l6 3 12 m1 m2 m3 m4 m5 m6 H_13.size ) (cwV 0 hts (lw_goodApp (lw_4 q1236 q1237 q1238 q7) q1239) rfl rfl rfl (by decide +kernel) ⟨Nat.le_of_ble_eq_true rfl, Nat.le_of_ble_eq_true rfl⟩) ⟨PR.blind, va_recv hK hP (ci := 18) (q0 := 18) rfl rfl, PR.of hPc hKc hG hS hA [.ref y0]⟩ rfl rfl hl.1 rfl (lv_room (Nat.le_of_ble_eq_true rfl)) dL_law_647 ⟨Nat.le_of_ble_eq_true rfl, Nat.le_of_ble_eq_true rfl⟩) hS (fun q h9 h => zN.not h9 h) (fun q h => hA q (Nat.le_trans hS.1 h)) (fun r_18 u t_20 H_17 locs ht hvm hw_19 hB hz1 hk1 hS => ?_)
  have hP := hP.grown hk1
  refine W.widen (k := 136) (n := 2997) (Nat.le_of_ble_eq_true rfl) (Nat.le_of_ble_eq_true rfl) ?_
  obtain rfl : 1 = r_18 := hw_19.symm
  refine lv_iload hx hb dL_law_650 (lv_at hl 1 rfl) ?_
  refine lv_icmp_eq (tgt := 657) hx hb dL_law_652 (by decide) (fun c_21 => ?_) (fun c_21 => absurd rfl c_21)
  refine lv_iload hx hb dL_law_657 (lv_at hl 1 rfl) ?_
  refine lv_if_ne (tgt := 674) hx hb dL_law_659 (by decide) (fun c_22 => ?_) (fun c_22 => absurd c_22 (by decide))
  refine lv_goto (tgt := 3288) hx hb dL_law_674 (by decide) ?_
  exact law_tail hfl C0 hA hA2 hS (lv_sub hl [2, 7] rfl) (Nat.le_of_ble_eq_true rfl) (Nat.le_of_ble_eq_true rfl)
set_option maxHeartbeats 8000000 in
set_option maxRecDepth 100000 in
/-- script value 5 -/
theorem law_case_5 {p : Program} {l : Launch} {e : Env} {s : State} {m : MethodId} {below : List Frame} {meth : Method} {c : Code} {b : Nat} {xs : Nat → Int32} (hfl : l.stackTraces = false) (C0 : lw_At p s m meth c b 7 xs) {A : Nat → Prop} (hA : ∀ q : Nat, s.heap.size ≤ q → A q) (hA2 : ∀ q : Nat, A q → s.heap.size ≤ q) (G : va_G) (z : Nat) (hG : zG z A s s.heap) (x0 : Nat) (y0 : Nat) (o1 : Nat) (o2 : Nat) (cyL : ClassId) (cyD : ClassId) (a1 : Nat) (a2 : Nat) (a3 : Nat) (a4 : Nat) (a5 : Nat) (a6 : Nat) (a7 : Nat) (a8 : Nat) (b1 : Nat) (b2 : Nat) (b3 : Nat) (cyA : ClassId) (cyJ : ClassId) (cyT : ClassId) (d1 : Nat) (d2 : Nat) (d3 : Nat) (d4 : Nat) (cyO : ClassId) (fS : Nat → Option Nat) (cyI : ClassId) (r0 : Nat) (l1 : Nat) (l2 : Nat) (l3 : Nat) (l4 : Nat) (l5 : Nat) (l6 : Nat) (m1 : Nat) (m2 : Nat) (m3 : Nat) (m4 : Nat) (m5 : Nat) (m6 : Nat) (hf0 : fS 0 = some r0) {H : Heap} {locs : List Loc} (hP : va_P G vwCl ([(x0, .inr (12, [.ref a1, .ref a2, .ref a3, .ref a4, .ref a5, .ref a6, .ref a7, .ref a8, .int 3, .int 0])), (a1, .inr (3, [.int 0, .ref z, .int 0])), (a2, .inr (3, [.int 0, .ref z, .int 0])), (a3, .inr (3, [.int 0, .ref z, .int 0])), (a4, .inr (3, [.int 0, .ref z, .int 0])), (a5, .inr (3, [.int 0, .ref z, .int 0])), (a6, .inr (10, [.ref b1, .ref b2, .ref b3, .int 0])), (b1, .inl (cyA, 400, .inl (nI))), (b2, .inl (cyJ, 512, .inl (fun _ => 0))), (b3, .inl (cyT, 400, .inl (fun _ => 0))), (a7, .inr (4, [.ref d1, .ref d2, .ref d3, .ref d4, .int 0, .int 12])), (d4, .inl (cyO, 20, .inr (.inr (.inr (.inr (fS)))))), (r0, .inl (cyI, 20, .inl (fun _ => 0))), (y0, .inr (18, [.int 0, .ref l1, .ref l2, .ref l3, .ref l4, .ref l5, .ref l6, .int 0, .int 3, .int 12, .ref m1, .ref m2, .ref m3, .ref m4, .ref m5, .ref m6])), (l1, .inr (3, [.int 0, .ref z, .int 0])), (l2, .inr (3, [.int 0, .ref z, .int 0])), (l3, .inr (3, [.int 0, .ref z, .int 0])), (l4, .inr (3, [.int 0, .ref z, .int 0])), (l5, .inr (3, [.int 0, .ref z, .int 0])), (l6, .inr (3, [.int 0, .ref z, .int 0])), (o1, .inl (cyL, 1, .inr (.inl (fun _ => 0)))), (o2, .inl (cyD, 1, .inr (.inr (.inr (.inl (fun _ => 0))))))]) H) (hD : va_D A ([(x0, .inr (12, [.ref a1, .ref a2, .ref a3, .ref a4, .ref a5, .ref a6, .ref a7, .ref a8, .int 3, .int 0])), (a1, .inr (3, [.int 0, .ref z, .int 0])), (a2, .inr (3, [.int 0, .ref z, .int 0])), (a3, .inr (3, [.int 0, .ref z, .int 0])), (a4, .inr (3, [.int 0, .ref z, .int 0])), (a5, .inr (3, [.int 0, .ref z, .int 0])), (a6, .inr (10, [.ref b1, .ref b2, .ref b3, .int 0])), (b1, .inl (cyA, 400, .inl (nI))), (b2, .inl (cyJ, 512, .inl (fun _ => 0))), (b3, .inl (cyT, 400, .inl (fun _ => 0))), (a7, .inr (4, [.ref d1, .ref d2, .ref d3, .ref d4, .int 0, .int 12])), (d4, .inl (cyO, 20, .inr (.inr (.inr (.inr (fS)))))), (r0, .inl (cyI, 20, .inl (fun _ => 0))), (y0, .inr (18, [.int 0, .ref l1, .ref l2, .ref l3, .ref l4, .ref l5, .ref l6, .int 0, .int 3, .int 12, .ref m1, .ref m2, .ref m3, .ref m4, .ref m5, .ref m6])), (l1, .inr (3, [.int 0, .ref z, .int 0])), (l2, .inr (3, [.int 0, .ref z, .int 0])), (l3, .inr (3, [.int 0, .ref z, .int 0])), (l4, .inr (3, [.int 0, .ref z, .int 0])), (l5, .inr (3, [.int 0, .ref z, .int 0])), (l6, .inr (3, [.int 0, .ref z, .int 0])), (o1, .inl (cyL, 1, .inr (.inl (fun _ => 0)))), (o2, .inl (cyD, 1, .inr (.inr (.inr (.inl (fun _ => 0))))))])) (hK : va_K G vwCl [(cyA, .int), (cyJ, .int), (cyT, .int), (cyO, .array .int), (cyI, .int), (cyL, .long), (cyD, .double)] s) (hS : va_S A s.heap H locs) {ls : Array Slot} (hl : lv_has ls 9 [(0, .ref b), (1, .ref x0), (2, .ref y0), (3, .ref o1), (4, .ref o2), (5, .int 0)]) : W p l e room_1 s m #[Value.ref b] below meth c H locs 135 2991 (lw_Z below #[Value.ref b] s) (F0 m 677 ls []) := by
  have C9 := C0
  obtain ⟨hx, hb, hr, hml, hown, hts0, hX, hbl, hlocks, hgv⟩ := id C0
  have hg := lw_sub_good hts0
  have hts : ∀ w ∈ (lw_hd :: lw_good), w.before #[Value.ref b] s = true := fun w h => (List.mem_cons.mp h).elim (fun e9 => e9 ▸ hg _ q0) (hg w)
  have hbA : ¬ A b := fun h => Nat.not_le.mpr hbl (hA2 b h)
  refine lv_aload_n hx hb dL_law_677 rfl (lv_at hl 1 rfl) ?_
  refine lv_aload_n hx hb dL_law_678 rfl (lv_at hl 0 rfl) ?_
  refine lv_iload hx hb dL_law_679 (lv_at hl 5 rfl) ?_
  refine lv_iconst (v := 1) hx hb dL_law_681 (by decide) ?_
  refine lv_iadd hx hb dL_law_682 ?_
  refine lv_topi (fun f_1 ef_1 => ?_)
  obtain rfl : f_1 = 1 := ef_1.trans (by decide)
  refine va_sld hx hb hX hbl hbA hS (by unfold vp_in; decide +kernel) dL_law_683 ?_
  refine lv_topi (fun f_2 ef_2 => ?_)
  obtain rfl : f_2 = xs 1 := ef_2
  refine lv_aload_n hx hb dL_law_684 rfl (lv_at hl 0 rfl) ?_
  refine lv_iload hx hb dL_law_685 (lv_at hl 5 rfl) ?_
  refine lv_iconst (v := 2) hx hb dL_law_687 (by decide) ?_
  refine lv_iadd hx hb dL_law_688 ?_
  refine lv_topi (fun f_3 ef_3 => ?_)
  obtain rfl : f_3 = 2 := ef_3.trans (by decide)
  refine va_sld hx hb hX hbl hbA hS (by unfold vp_in; decide +kernel) dL_law_689 ?_
  refine lv_topi (fun f_4 ef_4 => ?_)
  obtain rfl : f_4 = xs 2 := ef_4
  refine lv_aload_n hx hb dL_law_690 rfl (lv_at hl 0 rfl) ?_
  refine lv_iload hx hb dL_law_691 (lv_at hl 5 rfl) ?_
  refine lv_iconst (v := 3) hx hb dL_law_693 (by decide) ?_
  refine lv_iadd hx hb dL_law_694 ?_
  refine lv_topi (fun f_5 ef_5 => ?_)
  obtain rfl : f_5 = 3 := ef_5.trans (by decide)
  refine va_sld hx hb hX hbl hbA hS (by unfold vp_in; decide +kernel) dL_law_695 ?_
  refine lv_topi (fun f_6 ef_6 => ?_)
  obtain rfl : f_6 = xs 3 := ef_6
  refine lv_aload_n hx hb dL_law_696 rfl (lv_at hl 3 rfl) ?_
  have hPc := hP.sub (ws' := [(x0, .inr (12, [.ref a1, .ref a2, .ref a3, .ref a4, .ref a5, .ref a6, .ref a7, .ref a8, .int 3, .int 0])), (a1, .inr (3, [.int 0, .ref z, .int 0])), (o1, .inl (cyL, 1, .inr (.inl (fun _ => 0))))]) [0, 1, 20] rfl
  have hKc := hK.sub (tys' := [(cyL, .long)]) [5] rfl
  have hDc := hD.sub (ws' := [(x0, .inr (12, [.ref a1, .ref a2, .ref a3, .ref a4, .ref a5, .ref a6, .ref a7, .ref a8, .int 3, .int 0])), (a1, .inr (3, [.int 0, .ref z, .int 0])), (o1, .inl (cyL, 1, .inr (.inl (fun _ => 0))))]) [0, 1, 20] (by decide) rfl
  have hFc := va_free (wc := [(x0, .inr (12, [.ref a1, .ref a2, .ref a3, .ref a4, .ref a5, .ref a6, .ref a7, .ref a8, .int 3, .int 0])), (a1, .inr (3, [.int 0, .ref z, .int 0])), (o1, .inl (cyL, 1, .inr (.inl (fun _ => 0))))]) hD hS hA [0, 1, 20] rfl
  refine va_calli (vx_runSW (As := [.ref x0, .int (xs 1), .int (xs 2), .int (xs 3), .ref o1]) (rest := []) ⟨hx, hb, hml, hown, hts⟩ (k_L_sell l hfl G z x0 a1 a2 a3 a4 a5 a6 a7 a8 3 0 0 z ((xs 1)) ((xs 2)) ((xs 3)) o1 cyL (fun _ => 0) H.size ) (vx_cwSW 5 hts (lw_goodApp (lw_3 q625 q626 q0) q627) rfl rfl rfl (by decide +kernel) ⟨Nat.le_of_ble_eq_true rfl, Nat.le_of_ble_eq_true rfl⟩) ⟨PW.blind, PW.of hPc hKc hDc hG hS hFc [.ref x0, .int (xs 1), .int (xs 2), .int (xs 3), .ref o1]⟩ rfl rfl hl.1 rfl (lv_room (Nat.le_of_ble_eq_true rfl)) dL_law_697 ⟨Nat.le_of_ble_eq_true rfl, Nat.le_of_ble_eq_true rfl⟩) hS (fun q _ h => hFc q h) hFc (fun r_8 u t_10 H_7 locs ht hvm hw_9 hB hz1 hk1 hS => ?_)
  obtain ⟨hP, hD, hK⟩ := QW.join (wr := [(a2, .inr (3, [.int 0, .ref z, .int 0])), (a3, .inr (3, [.int 0, .ref z, .int 0])), (a4, .inr (3, [.int 0, .ref z, .int 0])), (a5, .inr (3, [.int 0, .ref z, .int 0])), (a6, .inr (10, [.ref b1, .ref b2, .ref b3, .int 0])), (b1, .inl (cyA, 400, .inl (nI))), (b2, .inl (cyJ, 512, .inl (fun _ => 0))), (b3, .inl (cyT, 400, .inl (fun _ => 0))), (a7, .inr (4, [.ref d1, .ref d2, .ref d3, .ref d4, .int 0, .int 12])), (d4, .inl (cyO, 20, .inr (.inr (.inr (.inr (fS)))))), (r0, .inl (cyI, 20, .inl (fun _ => 0))), (y0, .inr (18, [.int 0, .ref l1, .ref l2, .ref l3, .ref l4, .ref l5, .ref l6, .int 0, .int 3, .int 12, .ref m1, .ref m2, .ref m3, .ref m4, .ref m5, .ref m6])), (l1, .inr (3, [.int 0, .ref z, .int 0])), (l2, .inr (3, [.int 0, .ref z, .int 0])), (l3, .inr (3, [.int 0, .ref z, .int 0])), (l4, .inr (3, [.int 0, .ref z, .int 0])), (l5, .inr (3, [.int 0, .ref z, .int 0])), (l6, .inr (3, [.int 0, .ref z, .int 0])), (o2, .inl (cyD, 1, .inr (.inr (.inr (.inl (fun _ => 0))))))]) (w1 := [(o1, .inl (cyL, 1, .inr (.inl ((fun _ => 0)))))]) hP hD hK [0, 1, 20] [2, 3, 4, 5, 6, 7, 8, 9, 10, 11, 12, 13, 14, 15, 16, 17, 18, 19, 21] rfl rfl (by decide) (by decide) hk1 hFc ht hvm hB
  have hP : va_P G vwCl ([(a2, .inr (3, [.int 0, .ref z, .int 0])), (a3, .inr (3, [.int 0, .ref z, .int 0])), (a4, .inr (3, [.int 0, .ref z, .int 0])), (a5, .inr (3, [.int 0, .ref z, .int 0])), (a6, .inr (10, [.ref b1, .ref b2, .ref b3, .int 0])), (b1, .inl (cyA, 400, .inl (nI))), (b2, .inl (cyJ, 512, .inl (fun _ => 0))), (b3, .inl (cyT, 400, .inl (fun _ => 0))), (a7, .inr (4, [.ref d1, .ref d2, .ref d3, .ref d4, .int 0, .int 12])), (d4, .inl (cyO, 20, .inr (.inr (.inr (.inr (fS)))))), (r0, .inl (cyI, 20, .inl (fun _ => 0))), (y0, .inr (18, [.int 0, .ref l1, .ref l2, .ref l3, .ref l4, .ref l5, .ref l6, .int 0, .int 3, .int 12, .ref m1, .ref m2, .ref m3, .ref m4, .ref m5, .ref m6])), (l1, .inr (3, [.int 0, .ref z, .int 0])), (l2, .inr (3, [.int 0, .ref z, .int 0])), (l3, .inr (3, [.int 0, .ref z, .int 0])), (l4, .inr (3, [.int 0, .ref z, .int 0])), (l5, .inr (3, [.int 0, .ref z, .int 0])), (l6, .inr (3, [.int 0, .ref z, .int 0])), (o2, .inl (cyD, 1, .inr (.inr (.inr (.inl (fun _ => 0)))))), (o1, .inl (cyL, 1, .inr (.inl ((fun _ => 0)))))]) H_7 := hP
  have hD : va_D A ([(a2, .inr (3, [.int 0, .ref z, .int 0])), (a3, .inr (3, [.int 0, .ref z, .int 0])), (a4, .inr (3, [.int 0, .ref z, .int 0])), (a5, .inr (3, [.int 0, .ref z, .int 0])), (a6, .inr (10, [.ref b1, .ref b2, .ref b3, .int 0])), (b1, .inl (cyA, 400, .inl (nI))), (b2, .inl (cyJ, 512, .inl (fun _ => 0))), (b3, .inl (cyT, 400, .inl (fun _ => 0))), (a7, .inr (4, [.ref d1, .ref d2, .ref d3, .ref d4, .int 0, .int 12])), (d4, .inl (cyO, 20, .inr (.inr (.inr (.inr (fS)))))), (r0, .inl (cyI, 20, .inl (fun _ => 0))), (y0, .inr (18, [.int 0, .ref l1, .ref l2, .ref l3, .ref l4, .ref l5, .ref l6, .int 0, .int 3, .int 12, .ref m1, .ref m2, .ref m3, .ref m4, .ref m5, .ref m6])), (l1, .inr (3, [.int 0, .ref z, .int 0])), (l2, .inr (3, [.int 0, .ref z, .int 0])), (l3, .inr (3, [.int 0, .ref z, .int 0])), (l4, .inr (3, [.int 0, .ref z, .int 0])), (l5, .inr (3, [.int 0, .ref z, .int 0])), (l6, .inr (3, [.int 0, .ref z, .int 0])), (o2, .inl (cyD, 1, .inr (.inr (.inr (.inl (fun _ => 0)))))), (o1, .inl (cyL, 1, .inr (.inl ((fun _ => 0)))))]) := hD
  have hK : va_K G vwCl [(cyA, .int), (cyJ, .int), (cyT, .int), (cyO, .array .int), (cyI, .int), (cyL, .long), (cyD, .double), (cyL, .long)] s := hK
  refine W.widen (k := 136) (n := 2997) (Nat.le_of_ble_eq_true rfl) (Nat.le_of_ble_eq_true rfl) ?_
  obtain rfl : 1 = r_8 := hw_9.symm
  refine lv_istore (lv' := [(6, .int 1), (0, .ref b), (1, .ref x0), (2, .ref y0), (3, .ref o1), (4, .ref o2), (5, .int 0)]) hx hb dL_law_700 hl (by decide) rfl (fun ls hl => ?_)
  refine lv_aload_n hx hb dL_law_702 rfl (lv_at hl 3 rfl) ?_
  refine lv_aload_n hx hb dL_law_703 rfl (lv_at hl 1 rfl) ?_
  refine lv_iload hx hb dL_law_704 (lv_at hl 6 rfl) ?_
  refine lv_iconst (v := 1) hx hb dL_law_706 (by decide) ?_
  refine lv_iadd hx hb dL_law_707 ?_
  refine lv_topi (fun f_11 ef_11 => ?_)
  obtain rfl : f_11 = 1 := ef_11.trans (by decide)
  refine va_sld hx hb hX hbl hbA hS (by unfold vp_in; decide +kernel) dL_law_708 ?_
  refine lv_topi (fun f_12 ef_12 => ?_)
  obtain rfl : f_12 = xs 1 := ef_12
  refine lv_aload_n hx hb dL_law_709 rfl (lv_at hl 1 rfl) ?_
  refine lv_iload hx hb dL_law_710 (lv_at hl 6 rfl) ?_
  refine lv_iconst (v := 2) hx hb dL_law_712 (by decide) ?_
  refine lv_iadd hx hb dL_law_713 ?_
  refine lv_topi (fun f_13 ef_13 => ?_)
  obtain rfl : f_13 = 2 := ef_13.trans (by decide)
  refine va_sld hx hb hX hbl hbA hS (by unfold vp_in; decide +kernel) dL_law_714 ?_
  refine lv_topi (fun f_14 ef_14 => ?_)
  obtain rfl : f_14 = xs 2 := ef_14
  refine lv_aload_n hx hb dL_law_715 rfl (lv_at hl 1 rfl) ?_
  refine lv_iload hx hb dL_law_716 (lv_at hl 6 rfl) ?_
  refine lv_iconst (v := 3) hx hb dL_law_718 (by decide) ?_
  refine lv_iadd hx hb dL_law_719 ?_
  refine lv_topi (fun f_15 ef_15 => ?_)
  obtain rfl : f_15 = 3 := ef_15.trans (by decide)
  refine va_sld hx hb hX hbl hbA hS (by unfold vp_in; decide +kernel) dL_law_720 ?_
  refine lv_topi (fun f_16 ef_16 => ?_)
  obtain rfl : f_16 = xs 3 := ef_16
  have hPc := hP.sub (ws' := [(y0, .inr (18, [.int 0, .ref l1, .ref l2, .ref l3, .ref l4, .ref l5, .ref l6, .int 0, .int 3, .int 12, .ref m1, .ref m2, .ref m3, .ref m4, .ref m5, .ref m6])), (l1, .inr (3, [.int 0, .ref z, .int 0]))]) [11, 12] rfl
  have hKc := hK.sub (tys' := []) [] rfl
  have hDc := hD.sub (ws' := [(y0, .inr (18, [.int 0, .ref l1, .ref l2, .ref l3, .ref l4, .ref l5, .ref l6, .int 0, .int 3, .int 12, .ref m1, .ref m2, .ref m3, .ref m4, .ref m5, .ref m6])), (l1, .inr (3, [.int 0, .ref z, .int 0]))]) [11, 12] (by decide) rfl
  have hFc := va_free (wc := [(y0, .inr (18, [.int 0, .ref l1, .ref l2, .ref l3, .ref l4, .ref l5, .ref l6, .int 0, .int 3, .int 12, .ref m1, .ref m2, .ref m3, .ref m4, .ref m5, .ref m6])), (l1, .inr (3, [.int 0, .ref z, .int 0]))]) hD hS hA [11, 12] rfl
  refine va_calli (va_runV (As := [.int (xs 1), .int (xs 2), .int (xs 3)]) (rest := []) ⟨hx, hb, hml, hown, hts⟩ (k_X14_sell l G z y0 0 l1 l2 l3 l4 l5 l6 3 12 m1 m2 m3 m4 m5 m6 0 z ((xs 1)) ((xs 2)) ((xs 3)) H_7.size ) (cwV 3 hts (lw_goodApp (lw_4 q1341 q1342 q1343 q7) q1344) rfl rfl rfl (by decide +kernel) ⟨Nat.le_of_ble_eq_true rfl, Nat.le_of_ble_eq_true rfl⟩) ⟨PW.blind, va_recv hK hP (ci := 18) (q0 := 11) rfl rfl, PW.of hPc hKc hDc hG hS hFc [.ref y0, .int (xs 1), .int (xs 2), .int (xs 3)]⟩ rfl rfl hl.1 rfl (lv_room (Nat.le_of_ble_eq_true rfl)) dL_law_721 ⟨Nat.le_of_ble_eq_true rfl, Nat.le_of_ble_eq_true rfl⟩) hS (fun q _ h => hFc q h) hFc (fun r_18 u t_20 H_17 locs ht hvm hw_19 hB hz1 hk1 hS => ?_)
  obtain ⟨hP, hD, hK⟩ := QW.join (wr := [(a2, .inr (3, [.int 0, .ref z, .int 0])), (a3, .inr (3, [.int 0, .ref z, .int 0])), (a4, .inr (3, [.int 0, .ref z, .int 0])), (a5, .inr (3, [.int 0, .ref z, .int 0])), (a6, .inr (10, [.ref b1, .ref b2, .ref b3, .int 0])), (b1, .inl (cyA, 400, .inl (nI))), (b2, .inl (cyJ, 512, .inl (fun _ => 0))), (b3, .inl (cyT, 400, .inl (fun _ => 0))), (a7, .inr (4, [.ref d1, .ref d2, .ref d3, .ref d4, .int 0, .int 12])), (d4, .inl (cyO, 20, .inr (.inr (.inr (.inr (fS)))))), (r0, .inl (cyI, 20, .inl (fun _ => 0))), (l2, .inr (3, [.int 0, .ref z, .int 0])), (l3, .inr (3, [.int 0, .ref z, .int 0])), (l4, .inr (3, [.int 0, .ref z, .int 0])), (l5, .inr (3, [.int 0, .ref z, .int 0])), (l6, .inr (3, [.int 0, .ref z, .int 0])), (o2, .inl (cyD, 1, .inr (.inr (.inr (.inl (fun _ => 0)))))), (o1, .inl (cyL, 1, .inr (.inl ((fun _ => 0)))))]) (w1 := [(y0, .inr (18, [.int 1, .ref l1, .ref l2, .ref l3, .ref l4, .ref l5, .ref l6, .int 0, .int 3, .int 12, .ref m1, .ref m2, .ref m3, .ref m4, .ref m5, .ref m6]))]) hP hD hK [11, 12] [0, 1, 2, 3, 4, 5, 6, 7, 8, 9, 10, 13, 14, 15, 16, 17, 18, 19] rfl rfl (by decide) (by decide) hk1 hFc ht hvm hB
  have hP : va_P G vwCl ([(a2, .inr (3, [.int 0, .ref z, .int 0])), (a3, .inr (3, [.int 0, .ref z, .int 0])), (a4, .inr (3, [.int 0, .ref z, .int 0])), (a5, .inr (3, [.int 0, .ref z, .int 0])), (a6, .inr (10, [.ref b1, .ref b2, .ref b3, .int 0])), (b1, .inl (cyA, 400, .inl (nI))), (b2, .inl (cyJ, 512, .inl (fun _ => 0))), (b3, .inl (cyT, 400, .inl (fun _ => 0))), (a7, .inr (4, [.ref d1, .ref d2, .ref d3, .ref d4, .int 0, .int 12])), (d4, .inl (cyO, 20, .inr (.inr (.inr (.inr (fS)))))), (r0, .inl (cyI, 20, .inl (fun _ => 0))), (l2, .inr (3, [.int 0, .ref z, .int 0])), (l3, .inr (3, [.int 0, .ref z, .int 0])), (l4, .inr (3, [.int 0, .ref z, .int 0])), (l5, .inr (3, [.int 0, .ref z, .int 0])), (l6, .inr (3, [.int 0, .ref z, .int 0])), (o2, .inl (cyD, 1, .inr (.inr (.inr (.inl (fun _ => 0)))))), (o1, .inl (cyL, 1, .inr (.inl ((fun _ => 0))))), (y0, .inr (18, [.int 1, .ref l1, .ref l2, .ref l3, .ref l4, .ref l5, .ref l6, .int 0, .int 3, .int 12, .ref m1, .ref m2, .ref m3, .ref m4, .ref m5, .ref m6]))]) H_17 := hP
  have hD : va_D A ([(a2, .inr (3, [.int 0, .ref z, .int 0])), (a3, .inr (3, [.int 0, .ref z, .int 0])), (a4, .inr (3, [.int 0, .ref z, .int 0])), (a5, .inr (3, [.int 0, .ref z, .int 0])), (a6, .inr (10, [.ref b1, .ref b2, .ref b3, .int 0])), (b1, .inl (cyA, 400, .inl (nI))), (b2, .inl (cyJ, 512, .inl (fun _ => 0))), (b3, .inl (cyT, 400, .inl (fun _ => 0))), (a7, .inr (4, [.ref d1, .ref d2, .ref d3, .ref d4, .int 0, .int 12])), (d4, .inl (cyO, 20, .inr (.inr (.inr (.inr (fS)))))), (r0, .inl (cyI, 20, .inl (fun _ => 0))), (l2, .inr (3, [.int 0, .ref z, .int 0])), (l3, .inr (3, [.int 0, .ref z, .int 0])), (l4, .inr (3, [.int 0, .ref z, .int 0])), (l5, .inr (3, [.int 0, .ref z, .int 0])), (l6, .inr (3, [.int 0, .ref z, .int 0])), (o2, .inl (cyD, 1, .inr (.inr (.inr (.inl (fun _ => 0)))))), (o1, .inl (cyL, 1, .inr (.inl ((fun _ => 0))))), (y0, .inr (18, [.int 1, .ref l1, .ref l2, .ref l3, .ref l4, .ref l5, .ref l6, .int 0, .int 3, .int 12, .ref m1, .ref m2, .ref m3, .ref m4, .ref m5, .ref m6]))]) := hD
  have hK : va_K G vwCl [(cyA, .int), (cyJ, .int), (cyT, .int), (cyO, .array .int), (cyI, .int), (cyL, .long), (cyD, .double), (cyL, .long)] s := hK
  refine W.widen (k := 136) (n := 2997) (Nat.le_of_ble_eq_true rfl) (Nat.le_of_ble_eq_true rfl) ?_
  refine lv_istore (lv' := [(7, .int r_18), (6, .int 1), (0, .ref b), (1, .ref x0), (2, .ref y0), (3, .ref o1), (4, .ref o2), (5, .int 0)]) hx hb dL_law_724 hl (by decide) rfl (fun ls hl => ?_)
  refine lv_aload_n hx hb dL_law_726 rfl (lv_at hl 4 rfl) ?_
  have hPc := hP.sub (ws' := [(y0, .inr (18, [.int 1, .ref l1, .ref l2, .ref l3, .ref l4, .ref l5, .ref l6, .int 0, .int 3, .int 12, .ref m1, .ref m2, .ref m3, .ref m4, .ref m5, .ref m6]))]) [18] rfl
  have hKc := hK.sub (tys' := []) [] rfl
  refine va_calli (va_runV (As := []) (rest := []) ⟨hx, hb, hml, hown, hts⟩ (k_X14_thrown l G z y0 1 l1 l2 l3 l4 l5 l6 3 12 m1 m2 m3 m4 m5 m6 H_17.size ) (cwV 0 hts (lw_goodApp (lw_4 q1236 q1237 q1238 q7) q1239) rfl rfl rfl (by decide +kernel) ⟨Nat.le_of_ble_eq_true rfl, Nat.le_of_ble_eq_true rfl⟩) ⟨PR.blind, va_recv hK hP (ci := 18) (q0 := 18) rfl rfl, PR.of hPc hKc hG hS hA [.ref y0]⟩ rfl rfl hl.1 rfl (lv_room (Nat.le_of_ble_eq_true rfl)) dL_law_727 ⟨Nat.le_of_ble_eq_true rfl, Nat.le_of_ble_eq_true rfl⟩) hS (fun q h9 h => zN.not h9 h) (fun q h => hA q (Nat.le_trans hS.1 h)) (fun r_22 u t_24 H_21 locs ht hvm hw_23 hB hz1 hk1 hS => ?_)
  have hP := hP.grown hk1
  refine W.widen (k := 136) (n := 2997) (Nat.le_of_ble_eq_true rfl) (Nat.le_of_ble_eq_true rfl) ?_
  obtain rfl : 1 = r_22 := hw_23.symm
  refine lv_iload hx hb dL_law_730 (lv_at hl 1 rfl) ?_
  refine lv_icmp_eq (tgt := 737) hx hb dL_law_732 (by decide) (fun c_25 => ?_) (fun c_25 => absurd rfl c_25)
  refine lv_iload hx hb dL_law_737 (lv_at hl 1 rfl) ?_
  refine lv_if_ne (tgt := 754) hx hb dL_law_739 (by decide) (fun c_26 => ?_) (fun c_26 => absurd c_26 (by decide))
  refine lv_goto (tgt := 3288) hx hb dL_law_754 (by decide) ?_
  exact law_tail hfl C0 hA hA2 hS (lv_sub hl [2, 7] rfl) (Nat.le_of_ble_eq_true rfl) (Nat.le_of_ble_eq_true rfl)
set_option maxHeartbeats 8000000 in
set_option maxRecDepth 100000 in
/-- script value 6 -/
theorem law_case_6 {p : Program} {l : Launch} {e : Env} {s : State} {m : MethodId} {below : List Frame} {meth : Method} {c : Code} {b : Nat} {xs : Nat → Int32} (hfl : l.stackTraces = false) (C0 : lw_At p s m meth c b 7 xs) {A : Nat → Prop} (hA : ∀ q : Nat, s.heap.size ≤ q → A q) (hA2 : ∀ q : Nat, A q → s.heap.size ≤ q) (G : va_G) (z : Nat) (hG : zG z A s s.heap) (x0 : Nat) (y0 : Nat) (o1 : Nat) (o2 : Nat) (cyL : ClassId) (cyD : ClassId) (a1 : Nat) (a2 : Nat) (a3 : Nat) (a4 : Nat) (a5 : Nat) (a6 : Nat) (a7 : Nat) (a8 : Nat) (b1 : Nat) (b2 : Nat) (b3 : Nat) (cyA : ClassId) (cyJ : ClassId) (cyT : ClassId) (d1 : Nat) (d2 : Nat) (d3 : Nat) (d4 : Nat) (cyO : ClassId) (fS : Nat → Option Nat) (cyI : ClassId) (r0 : Nat) (l1 : Nat) (l2 : Nat) (l3 : Nat) (l4 : Nat) (l5 : Nat) (l6 : Nat) (m1 : Nat) (m2 : Nat) (m3 : Nat) (m4 : Nat) (m5 : Nat) (m6 : Nat) (hf0 : fS 0 = some r0) {H : Heap} {locs : List Loc} (hP : va_P G vwCl ([(x0, .inr (12, [.ref a1, .ref a2, .ref a3, .ref a4, .ref a5, .ref a6, .ref a7, .ref a8, .int 3, .int 0])), (a1, .inr (3, [.int 0, .ref z, .int 0])), (a2, .inr (3, [.int 0, .ref z, .int 0])), (a3, .inr (3, [.int 0, .ref z, .int 0])), (a4, .inr (3, [.int 0, .ref z, .int 0])), (a5, .inr (3, [.int 0, .ref z, .int 0])), (a6, .inr (10, [.ref b1, .ref b2, .ref b3, .int 0])), (b1, .inl (cyA, 400, .inl (nI))), (b2, .inl (cyJ, 512, .inl (fun _ => 0))), (b3, .inl (cyT, 400, .inl (fun _ => 0))), (a7, .inr (4, [.ref d1, .ref d2, .ref d3, .ref d4, .int 0, .int 12])), (d4, .inl (cyO, 20, .inr (.inr (.inr (.inr (fS)))))), (r0, .inl (cyI, 20, .inl (fun _ => 0))), (y0, .inr (18, [.int 0, .ref l1, .ref l2, .ref l3, .ref l4, .ref l5, .ref l6, .int 0, .int 3, .int 12, .ref m1, .ref m2, .ref m3, .ref m4, .ref m5, .ref m6])), (l1, .inr (3, [.int 0, .ref z, .int 0])), (l2, .inr (3, [.int 0, .ref z, .int 0])), (l3, .inr (3, [.int 0, .ref z, .int 0])), (l4, .inr (3, [.int 0, .ref z, .int 0])), (l5, .inr (3, [.int 0, .ref z, .int 0])), (l6, .inr (3, [.int 0, .ref z, .int 0])), (o1, .inl (cyL, 1, .inr (.inl (fun _ => 0)))), (o2, .inl (cyD, 1, .inr (.inr (.inr (.inl (fun _ => 0))))))]) H) (hD : va_D A ([(x0, .inr (12, [.ref a1, .ref a2, .ref a3, .ref a4, .ref a5, .ref a6, .ref a7, .ref a8, .int 3, .int 0])), (a1, .inr (3, [.int 0, .ref z, .int 0])), (a2, .inr (3, [.int 0, .ref z, .int 0])), (a3, .inr (3, [.int 0, .ref z, .int 0])), (a4, .inr (3, [.int 0, .ref z, .int 0])), (a5, .inr (3, [.int 0, .ref z, .int 0])), (a6, .inr (10, [.ref b1, .ref b2, .ref b3, .int 0])), (b1, .inl (cyA, 400, .inl (nI))), (b2, .inl (cyJ, 512, .inl (fun _ => 0))), (b3, .inl (cyT, 400, .inl (fun _ => 0))), (a7, .inr (4, [.ref d1, .ref d2, .ref d3, .ref d4, .int 0, .int 12])), (d4, .inl (cyO, 20, .inr (.inr (.inr (.inr (fS)))))), (r0, .inl (cyI, 20, .inl (fun _ => 0))), (y0, .inr (18, [.int 0, .ref l1, .ref l2, .ref l3, .ref l4, .ref l5, .ref l6, .int 0, .int 3, .int 12, .ref m1, .ref m2, .ref m3, .ref m4, .ref m5, .ref m6])), (l1, .inr (3, [.int 0, .ref z, .int 0])), (l2, .inr (3, [.int 0, .ref z, .int 0])), (l3, .inr (3, [.int 0, .ref z, .int 0])), (l4, .inr (3, [.int 0, .ref z, .int 0])), (l5, .inr (3, [.int 0, .ref z, .int 0])), (l6, .inr (3, [.int 0, .ref z, .int 0])), (o1, .inl (cyL, 1, .inr (.inl (fun _ => 0)))), (o2, .inl (cyD, 1, .inr (.inr (.inr (.inl (fun _ => 0))))))])) (hK : va_K G vwCl [(cyA, .int), (cyJ, .int), (cyT, .int), (cyO, .array .int), (cyI, .int), (cyL, .long), (cyD, .double)] s) (hS : va_S A s.heap H locs) {ls : Array Slot} (hl : lv_has ls 9 [(0, .ref b), (1, .ref x0), (2, .ref y0), (3, .ref o1), (4, .ref o2), (5, .int 0)]) : W p l e room_1 s m #[Value.ref b] below meth c H locs 135 2991 (lw_Z below #[Value.ref b] s) (F0 m 757 ls []) := by
  have C9 := C0
  obtain ⟨hx, hb, hr, hml, hown, hts0, hX, hbl, hlocks, hgv⟩ := id C0
  have hg := lw_sub_good hts0
  have hts : ∀ w ∈ (lw_hd :: lw_good), w.before #[Value.ref b] s = true := fun w h => (List.mem_cons.mp h).elim (fun e9 => e9 ▸ hg _ q0) (hg w)
  have hbA : ¬ A b := fun h => Nat.not_le.mpr hbl (hA2 b h)
  refine lv_aload_n hx hb dL_law_757 rfl (lv_at hl 1 rfl) ?_
  refine lv_aload_n hx hb dL_law_758 rfl (lv_at hl 0 rfl) ?_
  refine lv_iload hx hb dL_law_759 (lv_at hl 5 rfl) ?_
  refine lv_iconst (v := 1) hx hb dL_law_761 (by decide) ?_
  refine lv_iadd hx hb dL_law_762 ?_
  refine lv_topi (fun f_1 ef_1 => ?_)
  obtain rfl : f_1 = 1 := ef_1.trans (by decide)
  refine va_sld hx hb hX hbl hbA hS (by unfold vp_in; decide +kernel) dL_law_763 ?_
  refine lv_topi (fun f_2 ef_2 => ?_)
  obtain rfl : f_2 = xs 1 := ef_2
  refine lv_aload_n hx hb dL_law_764 rfl (lv_at hl 0 rfl) ?_
  refine lv_iload hx hb dL_law_765 (lv_at hl 5 rfl) ?_
  refine lv_iconst (v := 2) hx hb dL_law_767 (by decide) ?_
  refine lv_iadd hx hb dL_law_768 ?_
  refine lv_topi (fun f_3 ef_3 => ?_)
  obtain rfl : f_3 = 2 := ef_3.trans (by decide)
  refine va_sld hx hb hX hbl hbA hS (by unfold vp_in; decide +kernel) dL_law_769 ?_
  refine lv_topi (fun f_4 ef_4 => ?_)
  obtain rfl : f_4 = xs 2 := ef_4
  refine lv_aload_n hx hb dL_law_770 rfl (lv_at hl 3 rfl) ?_
  have hPc := hP.sub (ws' := [(x0, .inr (12, [.ref a1, .ref a2, .ref a3, .ref a4, .ref a5, .ref a6, .ref a7, .ref a8, .int 3, .int 0])), (a1, .inr (3, [.int 0, .ref z, .int 0])), (o1, .inl (cyL, 1, .inr (.inl (fun _ => 0))))]) [0, 1, 20] rfl
  have hKc := hK.sub (tys' := [(cyL, .long)]) [5] rfl
  have hDc := hD.sub (ws' := [(x0, .inr (12, [.ref a1, .ref a2, .ref a3, .ref a4, .ref a5, .ref a6, .ref a7, .ref a8, .int 3, .int 0])), (a1, .inr (3, [.int 0, .ref z, .int 0])), (o1, .inl (cyL, 1, .inr (.inl (fun _ => 0))))]) [0, 1, 20] (by decide) rfl
  have hFc := va_free (wc := [(x0, .inr (12, [.ref a1, .ref a2, .ref a3, .ref a4, .ref a5, .ref a6, .ref a7, .ref a8, .int 3, .int 0])), (a1, .inr (3, [.int 0, .ref z, .int 0])), (o1, .inl (cyL, 1, .inr (.inl (fun _ => 0))))]) hD hS hA [0, 1, 20] rfl
  refine va_calli (vx_runSW (As := [.ref x0, .int (xs 1), .int (xs 2), .ref o1]) (rest := []) ⟨hx, hb, hml, hown, hts⟩ (k_L_owner l hfl G z x0 a1 a2 a3 a4 a5 a6 a7 a8 3 0 0 z ((xs 1)) ((xs 2)) o1 cyL (fun _ => 0) H.size ) (vx_cwSW 4 hts (lw_goodApp (lw_3 q660 q661 q0) q662) rfl rfl rfl (by decide +kernel) ⟨Nat.le_of_ble_eq_true rfl, Nat.le_of_ble_eq_true rfl⟩) ⟨PW.blind, PW.of hPc hKc hDc hG hS hFc [.ref x0, .int (xs 1), .int (xs 2), .ref o1]⟩ rfl rfl hl.1 rfl (lv_room (Nat.le_of_ble_eq_true rfl)) dL_law_771 ⟨Nat.le_of_ble_eq_true rfl, Nat.le_of_ble_eq_true rfl⟩) hS (fun q _ h => hFc q h) hFc (fun r_6 u t_8 H_5 locs ht hvm hw_7 hB hz1 hk1 hS => ?_)
  obtain ⟨hP, hD, hK⟩ := QW.join (wr := [(a2, .inr (3, [.int 0, .ref z, .int 0])), (a3, .inr (3, [.int 0, .ref z, .int 0])), (a4, .inr (3, [.int 0, .ref z, .int 0])), (a5, .inr (3, [.int 0, .ref z, .int 0])), (a6, .inr (10, [.ref b1, .ref b2, .ref b3, .int 0])), (b1, .inl (cyA, 400, .inl (nI))), (b2, .inl (cyJ, 512, .inl (fun _ => 0))), (b3, .inl (cyT, 400, .inl (fun _ => 0))), (a7, .inr (4, [.ref d1, .ref d2, .ref d3, .ref d4, .int 0, .int 12])), (d4, .inl (cyO, 20, .inr (.inr (.inr (.inr (fS)))))), (r0, .inl (cyI, 20, .inl (fun _ => 0))), (y0, .inr (18, [.int 0, .ref l1, .ref l2, .ref l3, .ref l4, .ref l5, .ref l6, .int 0, .int 3, .int 12, .ref m1, .ref m2, .ref m3, .ref m4, .ref m5, .ref m6])), (l1, .inr (3, [.int 0, .ref z, .int 0])), (l2, .inr (3, [.int 0, .ref z, .int 0])), (l3, .inr (3, [.int 0, .ref z, .int 0])), (l4, .inr (3, [.int 0, .ref z, .int 0])), (l5, .inr (3, [.int 0, .ref z, .int 0])), (l6, .inr (3, [.int 0, .ref z, .int 0])), (o2, .inl (cyD, 1, .inr (.inr (.inr (.inl (fun _ => 0))))))]) (w1 := [(o1, .inl (cyL, 1, .inr (.inl ((fun _ => 0)))))]) hP hD hK [0, 1, 20] [2, 3, 4, 5, 6, 7, 8, 9, 10, 11, 12, 13, 14, 15, 16, 17, 18, 19, 21] rfl rfl (by decide) (by decide) hk1 hFc ht hvm hB
  have hP : va_P G vwCl ([(a2, .inr (3, [.int 0, .ref z, .int 0])), (a3, .inr (3, [.int 0, .ref z, .int 0])), (a4, .inr (3, [.int 0, .ref z, .int 0])), (a5, .inr (3, [.int 0, .ref z, .int 0])), (a6, .inr (10, [.ref b1, .ref b2, .ref b3, .int 0])), (b1, .inl (cyA, 400, .inl (nI))), (b2, .inl (cyJ, 512, .inl (fun _ => 0))), (b3, .inl (cyT, 400, .inl (fun _ => 0))), (a7, .inr (4, [.ref d1, .ref d2, .ref d3, .ref d4, .int 0, .int 12])), (d4, .inl (cyO, 20, .inr (.inr (.inr (.inr (fS)))))), (r0, .inl (cyI, 20, .inl (fun _ => 0))), (y0, .inr (18, [.int 0, .ref l1, .ref l2, .ref l3, .ref l4, .ref l5, .ref l6, .int 0, .int 3, .int 12, .ref m1, .ref m2, .ref m3, .ref m4, .ref m5, .ref m6])), (l1, .inr (3, [.int 0, .ref z, .int 0])), (l2, .inr (3, [.int 0, .ref z, .int 0])), (l3, .inr (3, [.int 0, .ref z, .int 0])), (l4, .inr (3, [.int 0, .ref z, .int 0])), (l5, .inr (3, [.int 0, .ref z, .int 0])), (l6, .inr (3, [.int 0, .ref z, .int 0])), (o2, .inl (cyD, 1, .inr (.inr (.inr (.inl (fun _ => 0)))))), (o1, .inl (cyL, 1, .inr (.inl ((fun _ => 0)))))]) H_5 := hP
  have hD : va_D A ([(a2, .inr (3, [.int 0, .ref z, .int 0])), (a3, .inr (3, [.int 0, .ref z, .int 0])), (a4, .inr (3, [.int 0, .ref z, .int 0])), (a5, .inr (3, [.int 0, .ref z, .int 0])), (a6, .inr (10, [.ref b1, .ref b2, .ref b3, .int 0])), (b1, .inl (cyA, 400, .inl (nI))), (b2, .inl (cyJ, 512, .inl (fun _ => 0))), (b3, .inl (cyT, 400, .inl (fun _ => 0))), (a7, .inr (4, [.ref d1, .ref d2, .ref d3, .ref d4, .int 0, .int 12])), (d4, .inl (cyO, 20, .inr (.inr (.inr (.inr (fS)))))), (r0, .inl (cyI, 20, .inl (fun _ => 0))), (y0, .inr (18, [.int 0, .ref l1, .ref l2, .ref l3, .ref l4, .ref l5, .ref l6, .int 0, .int 3, .int 12, .ref m1, .ref m2, .ref m3, .ref m4, .ref m5, .ref m6])), (l1, .inr (3, [.int 0, .ref z, .int 0])), (l2, .inr (3, [.int 0, .ref z, .int 0])), (l3, .inr (3, [.int 0, .ref z, .int 0])), (l4, .inr (3, [.int 0, .ref z, .int 0])), (l5, .inr (3, [.int 0, .ref z, .int 0])), (l6, .inr (3, [.int 0, .ref z, .int 0])), (o2, .inl (cyD, 1, .inr (.inr (.inr (.inl (fun _ => 0)))))), (o1, .inl (cyL, 1, .inr (.inl ((fun _ => 0)))))]) := hD
  have hK : va_K G vwCl [(cyA, .int), (cyJ, .int), (cyT, .int), (cyO, .array .int), (cyI, .int), (cyL, .long), (cyD, .double), (cyL, .long)] s := hK
  refine W.widen (k := 136) (n := 2997) (Nat.le_of_ble_eq_true rfl) (Nat.le_of_ble_eq_true rfl) ?_
  obtain rfl : 1 = r_6 := hw_7.symm
  refine lv_istore (lv' := [(6, .int 1), (0, .ref b), (1, .ref x0), (2, .ref y0), (3, .ref o1), (4, .ref o2), (5, .int 0)]) hx hb dL_law_774 hl (by decide) rfl (fun ls hl => ?_)
  refine lv_aload_n hx hb dL_law_776 rfl (lv_at hl 3 rfl) ?_
  refine lv_aload_n hx hb dL_law_777 rfl (lv_at hl 1 rfl) ?_
  refine lv_iload hx hb dL_law_778 (lv_at hl 6 rfl) ?_
  refine lv_iconst (v := 1) hx hb dL_law_780 (by decide) ?_
  refine lv_iadd hx hb dL_law_781 ?_
  refine lv_topi (fun f_9 ef_9 => ?_)
  obtain rfl : f_9 = 1 := ef_9.trans (by decide)
  refine va_sld hx hb hX hbl hbA hS (by unfold vp_in; decide +kernel) dL_law_782 ?_
  refine lv_topi (fun f_10 ef_10 => ?_)
  obtain rfl : f_10 = xs 1 := ef_10
  refine lv_aload_n hx hb dL_law_783 rfl (lv_at hl 1 rfl) ?_
  refine lv_iload hx hb dL_law_784 (lv_at hl 6 rfl) ?_
  refine lv_iconst (v := 2) hx hb dL_law_786 (by decide) ?_
  refine lv_iadd hx hb dL_law_787 ?_
  refine lv_topi (fun f_11 ef_11 => ?_)
  obtain rfl : f_11 = 2 := ef_11.trans (by decide)
  refine va_sld hx hb hX hbl hbA hS (by unfold vp_in; decide +kernel) dL_law_788 ?_
  refine lv_topi (fun f_12 ef_12 => ?_)
  obtain rfl : f_12 = xs 2 := ef_12
  have hPc := hP.sub (ws' := [(y0, .inr (18, [.int 0, .ref l1, .ref l2, .ref l3, .ref l4, .ref l5, .ref l6, .int 0, .int 3, .int 12, .ref m1, .ref m2, .ref m3, .ref m4, .ref m5, .ref m6])), (l1, .inr (3, [.int 0, .ref z, .int 0]))]) [11, 12] rfl
  have hKc := hK.sub (tys' := []) [] rfl
  have hDc := hD.sub (ws' := [(y0, .inr (18, [.int 0, .ref l1, .ref l2, .ref l3, .ref l4, .ref l5, .ref l6, .int 0, .int 3, .int 12, .ref m1, .ref m2, .ref m3, .ref m4, .ref m5, .ref m6])), (l1, .inr (3, [.int 0, .ref z, .int 0]))]) [11, 12] (by decide) rfl
  have hFc := va_free (wc := [(y0, .inr (18, [.int 0, .ref l1, .ref l2, .ref l3, .ref l4, .ref l5, .ref l6, .int 0, .int 3, .int 12, .ref m1, .ref m2, .ref m3, .ref m4, .ref m5, .ref m6])), (l1, .inr (3, [.int 0, .ref z, .int 0]))]) hD hS hA [11, 12] rfl
  refine va_calli (va_runV (As := [.int (xs 1), .int (xs 2)]) (rest := []) ⟨hx, hb, hml, hown, hts⟩ (k_X14_owner l G z y0 0 l1 l2 l3 l4 l5 l6 3 12 m1 m2 m3 m4 m5 m6 0 z ((xs 1)) ((xs 2)) H_5.size ) (cwV 2 hts (lw_goodApp (lw_4 q1410 q1411 q1412 q7) q1413) rfl rfl rfl (by decide +kernel) ⟨Nat.le_of_ble_eq_true rfl, Nat.le_of_ble_eq_true rfl⟩) ⟨PW.blind, va_recv hK hP (ci := 18) (q0 := 11) rfl rfl, PW.of hPc hKc hDc hG hS hFc [.ref y0, .int (xs 1), .int (xs 2)]⟩ rfl rfl hl.1 rfl (lv_room (Nat.le_of_ble_eq_true rfl)) dL_law_789 ⟨Nat.le_of_ble_eq_true rfl, Nat.le_of_ble_eq_true rfl⟩) hS (fun q _ h => hFc q h) hFc (fun r_14 u t_16 H_13 locs ht hvm hw_15 hB hz1 hk1 hS => ?_)
  obtain ⟨hP, hD, hK⟩ := QW.join (wr := [(a2, .inr (3, [.int 0, .ref z, .int 0])), (a3, .inr (3, [.int 0, .ref z, .int 0])), (a4, .inr (3, [.int 0, .ref z, .int 0])), (a5, .inr (3, [.int 0, .ref z, .int 0])), (a6, .inr (10, [.ref b1, .ref b2, .ref b3, .int 0])), (b1, .inl (cyA, 400, .inl (nI))), (b2, .inl (cyJ, 512, .inl (fun _ => 0))), (b3, .inl (cyT, 400, .inl (fun _ => 0))), (a7, .inr (4, [.ref d1, .ref d2, .ref d3, .ref d4, .int 0, .int 12])), (d4, .inl (cyO, 20, .inr (.inr (.inr (.inr (fS)))))), (r0, .inl (cyI, 20, .inl (fun _ => 0))), (l2, .inr (3, [.int 0, .ref z, .int 0])), (l3, .inr (3, [.int 0, .ref z, .int 0])), (l4, .inr (3, [.int 0, .ref z, .int 0])), (l5, .inr (3, [.int 0, .ref z, .int 0])), (l6, .inr (3, [.int 0, .ref z, .int 0])), (o2, .inl (cyD, 1, .inr (.inr (.inr (.inl (fun _ => 0)))))), (o1, .inl (cyL, 1, .inr (.inl ((fun _ => 0)))))]) (w1 := [(y0, .inr (18, [.int 1, .ref l1, .ref l2, .ref l3, .ref l4, .ref l5, .ref l6, .int 0, .int 3, .int 12, .ref m1, .ref m2, .ref m3, .ref m4, .ref m5, .ref m6]))]) hP hD hK [11, 12] [0, 1, 2, 3, 4, 5, 6, 7, 8, 9, 10, 13, 14, 15, 16, 17, 18, 19] rfl rfl (by decide) (by decide) hk1 hFc ht hvm hB
  have hP : va_P G vwCl ([(a2, .inr (3, [.int 0, .ref z, .int 0])), (a3, .inr (3, [.int 0, .ref z, .int 0])), (a4, .inr (3, [.int 0, .ref z, .int 0])), (a5, .inr (3, [.int 0, .ref z, .int 0])), (a6, .inr (10, [.ref b1, .ref b2, .ref b3, .int 0])), (b1, .inl (cyA, 400, .inl (nI))), (b2, .inl (cyJ, 512, .inl (fun _ => 0))), (b3, .inl (cyT, 400, .inl (fun _ => 0))), (a7, .inr (4, [.ref d1, .ref d2, .ref d3, .ref d4, .int 0, .int 12])), (d4, .inl (cyO, 20, .inr (.inr (.inr (.inr (fS)))))), (r0, .inl (cyI, 20, .inl (fun _ => 0))), (l2, .inr (3, [.int 0, .ref z, .int 0])), (l3, .inr (3, [.int 0, .ref z, .int 0])), (l4, .inr (3, [.int 0, .ref z, .int 0])), (l5, .inr (3, [.int 0, .ref z, .int 0])), (l6, .inr (3, [.int 0, .ref z, .int 0])), (o2, .inl (cyD, 1, .inr (.inr (.inr (.inl (fun _ => 0)))))), (o1, .inl (cyL, 1, .inr (.inl ((fun _ => 0))))), (y0, .inr (18, [.int 1, .ref l1, .ref l2, .ref l3, .ref l4, .ref l5, .ref l6, .int 0, .int 3, .int 12, .ref m1, .ref m2, .ref m3, .ref m4, .ref m5, .ref m6]))]) H_13 := hP
  have hD : va_D A ([(a2, .inr (3, [.int 0, .ref z, .int 0])), (a3, .inr (3, [.int 0, .ref z, .int 0])), (a4, .inr (3, [.int 0, .ref z, .int 0])), (a5, .inr (3, [.int 0, .ref z, .int 0])), (a6, .inr (10, [.ref b1, .ref b2, .ref b3, .int 0])), (b1, .inl (cyA, 400, .inl (nI))), (b2, .inl (cyJ, 512, .inl (fun _ => 0))), (b3, .inl (cyT, 400, .inl (fun _ => 0))), (a7, .inr (4, [.ref d1, .ref d2, .ref d3, .ref d4, .int 0, .int 12])), (d4, .inl (cyO, 20, .inr (.inr (.inr (.inr (fS)))))), (r0, .inl (cyI, 20, .inl (fun _ => 0))), (l2, .inr (3, [.int 0, .ref z, .int 0])), (l3, .inr (3, [.int 0, .ref z, .int 0])), (l4, .inr (3, [.int 0, .ref z, .int 0])), (l5, .inr (3, [.int 0, .ref z, .int 0])), (l6, .inr (3, [.int 0, .ref z, .int 0])), (o2, .inl (cyD, 1, .inr (.inr (.inr (.inl (fun _ => 0)))))), (o1, .inl (cyL, 1, .inr (.inl ((fun _ => 0))))), (y0, .inr (18, [.int 1, .ref l1, .ref l2, .ref l3, .ref l4, .ref l5, .ref l6, .int 0, .int 3, .int 12, .ref m1, .ref m2, .ref m3, .ref m4, .ref m5, .ref m6]))]) := hD
  have hK : va_K G vwCl [(cyA, .int), (cyJ, .int), (cyT, .int), (cyO, .array .int), (cyI, .int), (cyL, .long), (cyD, .double), (cyL, .long)] s := hK
  refine W.widen (k := 136) (n := 2997) (Nat.le_of_ble_eq_true rfl) (Nat.le_of_ble_eq_true rfl) ?_
  refine lv_istore (lv' := [(7, .int r_14), (6, .int 1), (0, .ref b), (1, .ref x0), (2, .ref y0), (3, .ref o1), (4, .ref o2), (5, .int 0)]) hx hb dL_law_792 hl (by decide) rfl (fun ls hl => ?_)
  refine lv_aload_n hx hb dL_law_794 rfl (lv_at hl 4 rfl) ?_
  have hPc := hP.sub (ws' := [(y0, .inr (18, [.int 1, .ref l1, .ref l2, .ref l3, .ref l4, .ref l5, .ref l6, .int 0, .int 3, .int 12, .ref m1, .ref m2, .ref m3, .ref m4, .ref m5, .ref m6]))]) [18] rfl
  have hKc := hK.sub (tys' := []) [] rfl
  refine va_calli (va_runV (As := []) (rest := []) ⟨hx, hb, hml, hown, hts⟩ (k_X14_thrown l G z y0 1 l1 l2 l3 l4 l5 l6 3 12 m1 m2 m3 m4 m5 m6 H_13.size ) (cwV 0 hts (lw_goodApp (lw_4 q1236 q1237 q1238 q7) q1239) rfl rfl rfl (by decide +kernel) ⟨Nat.le_of_ble_eq_true rfl, Nat.le_of_ble_eq_true rfl⟩) ⟨PR.blind, va_recv hK hP (ci := 18) (q0 := 18) rfl rfl, PR.of hPc hKc hG hS hA [.ref y0]⟩ rfl rfl hl.1 rfl (lv_room (Nat.le_of_ble_eq_true rfl)) dL_law_795 ⟨Nat.le_of_ble_eq_true rfl, Nat.le_of_ble_eq_true rfl⟩) hS (fun q h9 h => zN.not h9 h) (fun q h => hA q (Nat.le_trans hS.1 h)) (fun r_18 u t_20 H_17 locs ht hvm hw_19 hB hz1 hk1 hS => ?_)
  have hP := hP.grown hk1
  refine W.widen (k := 136) (n := 2997) (Nat.le_of_ble_eq_true rfl) (Nat.le_of_ble_eq_true rfl) ?_
  obtain rfl : 1 = r_18 := hw_19.symm
  refine lv_iload hx hb dL_law_798 (lv_at hl 1 rfl) ?_
  refine lv_icmp_eq (tgt := 805) hx hb dL_law_800 (by decide) (fun c_21 => ?_) (fun c_21 => absurd rfl c_21)
  refine lv_iload hx hb dL_law_805 (lv_at hl 1 rfl) ?_
  refine lv_if_ne (tgt := 822) hx hb dL_law_807 (by decide) (fun c_22 => ?_) (fun c_22 => absurd c_22 (by decide))
  refine lv_goto (tgt := 3288) hx hb dL_law_822 (by decide) ?_
  exact law_tail hfl C0 hA hA2 hS (lv_sub hl [2, 7] rfl) (Nat.le_of_ble_eq_true rfl) (Nat.le_of_ble_eq_true rfl)
set_option maxHeartbeats 8000000 in
set_option maxRecDepth 100000 in
/-- script value 7 -/
theorem law_case_7 {p : Program} {l : Launch} {e : Env} {s : State} {m : MethodId} {below : List Frame} {meth : Method} {c : Code} {b : Nat} {xs : Nat → Int32} (hfl : l.stackTraces = false) (C0 : lw_At p s m meth c b 7 xs) {A : Nat → Prop} (hA : ∀ q : Nat, s.heap.size ≤ q → A q) (hA2 : ∀ q : Nat, A q → s.heap.size ≤ q) (G : va_G) (z : Nat) (hG : zG z A s s.heap) (x0 : Nat) (y0 : Nat) (o1 : Nat) (o2 : Nat) (cyL : ClassId) (cyD : ClassId) (a1 : Nat) (a2 : Nat) (a3 : Nat) (a4 : Nat) (a5 : Nat) (a6 : Nat) (a7 : Nat) (a8 : Nat) (b1 : Nat) (b2 : Nat) (b3 : Nat) (cyA : ClassId) (cyJ : ClassId) (cyT : ClassId) (d1 : Nat) (d2 : Nat) (d3 : Nat) (d4 : Nat) (cyO : ClassId) (fS : Nat → Option Nat) (cyI : ClassId) (r0 : Nat) (l1 : Nat) (l2 : Nat) (l3 : Nat) (l4 : Nat) (l5 : Nat) (l6 : Nat) (m1 : Nat) (m2 : Nat) (m3 : Nat) (m4 : Nat) (m5 : Nat) (m6 : Nat) (hf0 : fS 0 = some r0) {H : Heap} {locs : List Loc} (hP : va_P G vwCl ([(x0, .inr (12, [.ref a1, .ref a2, .ref a3, .ref a4, .ref a5, .ref a6, .ref a7, .ref a8, .int 3, .int 0])), (a1, .inr (3, [.int 0, .ref z, .int 0])), (a2, .inr (3, [.int 0, .ref z, .int 0])), (a3, .inr (3, [.int 0, .ref z, .int 0])), (a4, .inr (3, [.int 0, .ref z, .int 0])), (a5, .inr (3, [.int 0, .ref z, .int 0])), (a6, .inr (10, [.ref b1, .ref b2, .ref b3, .int 0])), (b1, .inl (cyA, 400, .inl (nI))), (b2, .inl (cyJ, 512, .inl (fun _ => 0))), (b3, .inl (cyT, 400, .inl (fun _ => 0))), (a7, .inr (4, [.ref d1, .ref d2, .ref d3, .ref d4, .int 0, .int 12])), (d4, .inl (cyO, 20, .inr (.inr (.inr (.inr (fS)))))), (r0, .inl (cyI, 20, .inl (fun _ => 0))), (y0, .inr (18, [.int 0, .ref l1, .ref l2, .ref l3, .ref l4, .ref l5, .ref l6, .int 0, .int 3, .int 12, .ref m1, .ref m2, .ref m3, .ref m4, .ref m5, .ref m6])), (l1, .inr (3, [.int 0, .ref z, .int 0])), (l2, .inr (3, [.int 0, .ref z, .int 0])), (l3, .inr (3, [.int 0, .ref z, .int 0])), (l4, .inr (3, [.int 0, .ref z, .int 0])), (l5, .inr (3, [.int 0, .ref z, .int 0])), (l6, .inr (3, [.int 0, .ref z, .int 0])), (o1, .inl (cyL, 1, .inr (.inl (fun _ => 0)))), (o2, .inl (cyD, 1, .inr (.inr (.inr (.inl (fun _ => 0))))))]) H) (hD : va_D A ([(x0, .inr (12, [.ref a1, .ref a2, .ref a3, .ref a4, .ref a5, .ref a6, .ref a7, .ref a8, .int 3, .int 0])), (a1, .inr (3, [.int 0, .ref z, .int 0])), (a2, .inr (3, [.int 0, .ref z, .int 0])), (a3, .inr (3, [.int 0, .ref z, .int 0])), (a4, .inr (3, [.int 0, .ref z, .int 0])), (a5, .inr (3, [.int 0, .ref z, .int 0])), (a6, .inr (10, [.ref b1, .ref b2, .ref b3, .int 0])), (b1, .inl (cyA, 400, .inl (nI))), (b2, .inl (cyJ, 512, .inl (fun _ => 0))), (b3, .inl (cyT, 400, .inl (fun _ => 0))), (a7, .inr (4, [.ref d1, .ref d2, .ref d3, .ref d4, .int 0, .int 12])), (d4, .inl (cyO, 20, .inr (.inr (.inr (.inr (fS)))))), (r0, .inl (cyI, 20, .inl (fun _ => 0))), (y0, .inr (18, [.int 0, .ref l1, .ref l2, .ref l3, .ref l4, .ref l5, .ref l6, .int 0, .int 3, .int 12, .ref m1, .ref m2, .ref m3, .ref m4, .ref m5, .ref m6])), (l1, .inr (3, [.int 0, .ref z, .int 0])), (l2, .inr (3, [.int 0, .ref z, .int 0])), (l3, .inr (3, [.int 0, .ref z, .int 0])), (l4, .inr (3, [.int 0, .ref z, .int 0])), (l5, .inr (3, [.int 0, .ref z, .int 0])), (l6, .inr (3, [.int 0, .ref z, .int 0])), (o1, .inl (cyL, 1, .inr (.inl (fun _ => 0)))), (o2, .inl (cyD, 1, .inr (.inr (.inr (.inl (fun _ => 0))))))])) (hK : va_K G vwCl [(cyA, .int), (cyJ, .int), (cyT, .int), (cyO, .array .int), (cyI, .int), (cyL, .long), (cyD, .double)] s) (hS : va_S A s.heap H locs) {ls : Array Slot} (hl : lv_has ls 9 [(0, .ref b), (1, .ref x0), (2, .ref y0), (3, .ref o1), (4, .ref o2), (5, .int 0)]) : W p l e room_1 s m #[Value.ref b] below meth c H locs 135 2991 (lw_Z below #[Value.ref b] s) (F0 m 825 ls []) := by
  have C9 := C0
  obtain ⟨hx, hb, hr, hml, hown, hts0, hX, hbl, hlocks, hgv⟩ := id C0
  have hg := lw_sub_good hts0
  have hts : ∀ w ∈ (lw_hd :: lw_good), w.before #[Value.ref b] s = true := fun w h => (List.mem_cons.mp h).elim (fun e9 => e9 ▸ hg _ q0) (hg w)
  have hbA : ¬ A b := fun h => Nat.not_le.mpr hbl (hA2 b h)
  refine lv_aload_n hx hb dL_law_825 rfl (lv_at hl 1 rfl) ?_
  refine lv_aload_n hx hb dL_law_826 rfl (lv_at hl 0 rfl) ?_
  refine lv_iload hx hb dL_law_827 (lv_at hl 5 rfl) ?_
  refine lv_iconst (v := 1) hx hb dL_law_829 (by decide) ?_
  refine lv_iadd hx hb dL_law_830 ?_
  refine lv_topi (fun f_1 ef_1 => ?_)
  obtain rfl : f_1 = 1 := ef_1.trans (by decide)
  refine va_sld hx hb hX hbl hbA hS (by unfold vp_in; decide +kernel) dL_law_831 ?_
  refine lv_topi (fun f_2 ef_2 => ?_)
  obtain rfl : f_2 = xs 1 := ef_2
  refine lv_aload_n hx hb dL_law_832 rfl (lv_at hl 0 rfl) ?_
  refine lv_iload hx hb dL_law_833 (lv_at hl 5 rfl) ?_
  refine lv_iconst (v := 2) hx hb dL_law_835 (by decide) ?_
  refine lv_iadd hx hb dL_law_836 ?_
  refine lv_topi (fun f_3 ef_3 => ?_)
  obtain rfl : f_3 = 2 := ef_3.trans (by decide)
  refine va_sld hx hb hX hbl hbA hS (by unfold vp_in; decide +kernel) dL_law_837 ?_
  refine lv_topi (fun f_4 ef_4 => ?_)
  obtain rfl : f_4 = xs 2 := ef_4
  refine lv_aload_n hx hb dL_law_838 rfl (lv_at hl 3 rfl) ?_
  have hPc := hP.sub (ws' := [(x0, .inr (12, [.ref a1, .ref a2, .ref a3, .ref a4, .ref a5, .ref a6, .ref a7, .ref a8, .int 3, .int 0])), (a1, .inr (3, [.int 0, .ref z, .int 0])), (o1, .inl (cyL, 1, .inr (.inl (fun _ => 0))))]) [0, 1, 20] rfl
  have hKc := hK.sub (tys' := [(cyL, .long)]) [5] rfl
  have hDc := hD.sub (ws' := [(x0, .inr (12, [.ref a1, .ref a2, .ref a3, .ref a4, .ref a5, .ref a6, .ref a7, .ref a8, .int 3, .int 0])), (a1, .inr (3, [.int 0, .ref z, .int 0])), (o1, .inl (cyL, 1, .inr (.inl (fun _ => 0))))]) [0, 1, 20] (by decide) rfl
  have hFc := va_free (wc := [(x0, .inr (12, [.ref a1, .ref a2, .ref a3, .ref a4, .ref a5, .ref a6, .ref a7, .ref a8, .int 3, .int 0])), (a1, .inr (3, [.int 0, .ref z, .int 0])), (o1, .inl (cyL, 1, .inr (.inl (fun _ => 0))))]) hD hS hA [0, 1, 20] rfl
  refine va_calli (vx_runSW (As := [.ref x0, .int (xs 1), .int (xs 2), .ref o1]) (rest := []) ⟨hx, hb, hml, hown, hts⟩ (k_L_state l hfl G z x0 a1 a2 a3 a4 a5 a6 a7 a8 3 0 0 z ((xs 1)) ((xs 2)) o1 cyL (fun _ => 0) H.size ) (vx_cwSW 4 hts (lw_goodApp (lw_3 q667 q668 q0) q669) rfl rfl rfl (by decide +kernel) ⟨Nat.le_of_ble_eq_true rfl, Nat.le_of_ble_eq_true rfl⟩) ⟨PW.blind, PW.of hPc hKc hDc hG hS hFc [.ref x0, .int (xs 1), .int (xs 2), .ref o1]⟩ rfl rfl hl.1 rfl (lv_room (Nat.le_of_ble_eq_true rfl)) dL_law_839 ⟨Nat.le_of_ble_eq_true rfl, Nat.le_of_ble_eq_true rfl⟩) hS (fun q _ h => hFc q h) hFc (fun r_6 u t_8 H_5 locs ht hvm hw_7 hB hz1 hk1 hS => ?_)
  obtain ⟨hP, hD, hK⟩ := QW.join (wr := [(a2, .inr (3, [.int 0, .ref z, .int 0])), (a3, .inr (3, [.int 0, .ref z, .int 0])), (a4, .inr (3, [.int 0, .ref z, .int 0])), (a5, .inr (3, [.int 0, .ref z, .int 0])), (a6, .inr (10, [.ref b1, .ref b2, .ref b3, .int 0])), (b1, .inl (cyA, 400, .inl (nI))), (b2, .inl (cyJ, 512, .inl (fun _ => 0))), (b3, .inl (cyT, 400, .inl (fun _ => 0))), (a7, .inr (4, [.ref d1, .ref d2, .ref d3, .ref d4, .int 0, .int 12])), (d4, .inl (cyO, 20, .inr (.inr (.inr (.inr (fS)))))), (r0, .inl (cyI, 20, .inl (fun _ => 0))), (y0, .inr (18, [.int 0, .ref l1, .ref l2, .ref l3, .ref l4, .ref l5, .ref l6, .int 0, .int 3, .int 12, .ref m1, .ref m2, .ref m3, .ref m4, .ref m5, .ref m6])), (l1, .inr (3, [.int 0, .ref z, .int 0])), (l2, .inr (3, [.int 0, .ref z, .int 0])), (l3, .inr (3, [.int 0, .ref z, .int 0])), (l4, .inr (3, [.int 0, .ref z, .int 0])), (l5, .inr (3, [.int 0, .ref z, .int 0])), (l6, .inr (3, [.int 0, .ref z, .int 0])), (o2, .inl (cyD, 1, .inr (.inr (.inr (.inl (fun _ => 0))))))]) (w1 := [(o1, .inl (cyL, 1, .inr (.inl ((fun _ => 0)))))]) hP hD hK [0, 1, 20] [2, 3, 4, 5, 6, 7, 8, 9, 10, 11, 12, 13, 14, 15, 16, 17, 18, 19, 21] rfl rfl (by decide) (by decide) hk1 hFc ht hvm hB
  have hP : va_P G vwCl ([(a2, .inr (3, [.int 0, .ref z, .int 0])), (a3, .inr (3, [.int 0, .ref z, .int 0])), (a4, .inr (3, [.int 0, .ref z, .int 0])), (a5, .inr (3, [.int 0, .ref z, .int 0])), (a6, .inr (10, [.ref b1, .ref b2, .ref b3, .int 0])), (b1, .inl (cyA, 400, .inl (nI))), (b2, .inl (cyJ, 512, .inl (fun _ => 0))), (b3, .inl (cyT, 400, .inl (fun _ => 0))), (a7, .inr (4, [.ref d1, .ref d2, .ref d3, .ref d4, .int 0, .int 12])), (d4, .inl (cyO, 20, .inr (.inr (.inr (.inr (fS)))))), (r0, .inl (cyI, 20, .inl (fun _ => 0))), (y0, .inr (18, [.int 0, .ref l1, .ref l2, .ref l3, .ref l4, .ref l5, .ref l6, .int 0, .int 3, .int 12, .ref m1, .ref m2, .ref m3, .ref m4, .ref m5, .ref m6])), (l1, .inr (3, [.int 0, .ref z, .int 0])), (l2, .inr (3, [.int 0, .ref z, .int 0])), (l3, .inr (3, [.int 0, .ref z, .int 0])), (l4, .inr (3, [.int 0, .ref z, .int 0])), (l5, .inr (3, [.int 0, .ref z, .int 0])), (l6, .inr (3, [.int 0, .ref z, .int 0])), (o2, .inl (cyD, 1, .inr (.inr (.inr (.inl (fun _ => 0)))))), (o1, .inl (cyL, 1, .inr (.inl ((fun _ => 0)))))]) H_5 := hP
  have hD : va_D A ([(a2, .inr (3, [.int 0, .ref z, .int 0])), (a3, .inr (3, [.int 0, .ref z, .int 0])), (a4, .inr (3, [.int 0, .ref z, .int 0])), (a5, .inr (3, [.int 0, .ref z, .int 0])), (a6, .inr (10, [.ref b1, .ref b2, .ref b3, .int 0])), (b1, .inl (cyA, 400, .inl (nI))), (b2, .inl (cyJ, 512, .inl (fun _ => 0))), (b3, .inl (cyT, 400, .inl (fun _ => 0))), (a7, .inr (4, [.ref d1, .ref d2, .ref d3, .ref d4, .int 0, .int 12])), (d4, .inl (cyO, 20, .inr (.inr (.inr (.inr (fS)))))), (r0, .inl (cyI, 20, .inl (fun _ => 0))), (y0, .inr (18, [.int 0, .ref l1, .ref l2, .ref l3, .ref l4, .ref l5, .ref l6, .int 0, .int 3, .int 12, .ref m1, .ref m2, .ref m3, .ref m4, .ref m5, .ref m6])), (l1, .inr (3, [.int 0, .ref z, .int 0])), (l2, .inr (3, [.int 0, .ref z, .int 0])), (l3, .inr (3, [.int 0, .ref z, .int 0])), (l4, .inr (3, [.int 0, .ref z, .int 0])), (l5, .inr (3, [.int 0, .ref z, .int 0])), (l6, .inr (3, [.int 0, .ref z, .int 0])), (o2, .inl (cyD, 1, .inr (.inr (.inr (.inl (fun _ => 0)))))), (o1, .inl (cyL, 1, .inr (.inl ((fun _ => 0)))))]) := hD
  have hK : va_K G vwCl [(cyA, .int), (cyJ, .int), (cyT, .int), (cyO, .array .int), (cyI, .int), (cyL, .long), (cyD, .double), (cyL, .long)] s := hK
  refine W.widen (k := 136) (n := 2997) (Nat.le_of_ble_eq_true rfl) (Nat.le_of_ble_eq_true rfl) ?_
  obtain rfl : 1 = r_6 := hw_7.symm
  refine lv_istore (lv' := [(6, .int 1), (0, .ref b), (1, .ref x0), (2, .ref y0), (3, .ref o1), (4, .ref o2), (5, .int 0)]) hx hb dL_law_842 hl (by decide) rfl (fun ls hl => ?_)
  refine lv_aload_n hx hb dL_law_844 rfl (lv_at hl 3 rfl) ?_
  refine lv_aload_n hx hb dL_law_845 rfl (lv_at hl 1 rfl) ?_
  refine lv_iload hx hb dL_law_846 (lv_at hl 6 rfl) ?_
  refine lv_iconst (v := 1) hx hb dL_law_848 (by decide) ?_
  refine lv_iadd hx hb dL_law_849 ?_
  refine lv_topi (fun f_9 ef_9 => ?_)
  obtain rfl : f_9 = 1 := ef_9.trans (by decide)
  refine va_sld hx hb hX hbl hbA hS (by unfold vp_in; decide +kernel) dL_law_850 ?_
  refine lv_topi (fun f_10 ef_10 => ?_)
  obtain rfl : f_10 = xs 1 := ef_10
  refine lv_aload_n hx hb dL_law_851 rfl (lv_at hl 1 rfl) ?_
  refine lv_iload hx hb dL_law_852 (lv_at hl 6 rfl) ?_
  refine lv_iconst (v := 2) hx hb dL_law_854 (by decide) ?_
  refine lv_iadd hx hb dL_law_855 ?_
  refine lv_topi (fun f_11 ef_11 => ?_)
  obtain rfl : f_11 = 2 := ef_11.trans (by decide)
  refine va_sld hx hb hX hbl hbA hS (by unfold vp_in; decide +kernel) dL_law_856 ?_
  refine lv_topi (fun f_12 ef_12 => ?_)
  obtain rfl : f_12 = xs 2 := ef_12
  have hPc := hP.sub (ws' := [(y0, .inr (18, [.int 0, .ref l1, .ref l2, .ref l3, .ref l4, .ref l5, .ref l6, .int 0, .int 3, .int 12, .ref m1, .ref m2, .ref m3, .ref m4, .ref m5, .ref m6])), (l1, .inr (3, [.int 0, .ref z, .int 0]))]) [11, 12] rfl
  have hKc := hK.sub (tys' := []) [] rfl
  have hDc := hD.sub (ws' := [(y0, .inr (18, [.int 0, .ref l1, .ref l2, .ref l3, .ref l4, .ref l5, .ref l6, .int 0, .int 3, .int 12, .ref m1, .ref m2, .ref m3, .ref m4, .ref m5, .ref m6])), (l1, .inr (3, [.int 0, .ref z, .int 0]))]) [11, 12] (by decide) rfl
  have hFc := va_free (wc := [(y0, .inr (18, [.int 0, .ref l1, .ref l2, .ref l3, .ref l4, .ref l5, .ref l6, .int 0, .int 3, .int 12, .ref m1, .ref m2, .ref m3, .ref m4, .ref m5, .ref m6])), (l1, .inr (3, [.int 0, .ref z, .int 0]))]) hD hS hA [11, 12] rfl
  refine va_calli (va_runV (As := [.int (xs 1), .int (xs 2)]) (rest := []) ⟨hx, hb, hml, hown, hts⟩ (k_X14_state l G z y0 0 l1 l2 l3 l4 l5 l6 3 12 m1 m2 m3 m4 m5 m6 0 z ((xs 1)) ((xs 2)) H_5.size ) (cwV 2 hts (lw_goodApp (lw_4 q1414 q1415 q1416 q7) q1417) rfl rfl rfl (by decide +kernel) ⟨Nat.le_of_ble_eq_true rfl, Nat.le_of_ble_eq_true rfl⟩) ⟨PW.blind, va_recv hK hP (ci := 18) (q0 := 11) rfl rfl, PW.of hPc hKc hDc hG hS hFc [.ref y0, .int (xs 1), .int (xs 2)]⟩ rfl rfl hl.1 rfl (lv_room (Nat.le_of_ble_eq_true rfl)) dL_law_857 ⟨Nat.le_of_ble_eq_true rfl, Nat.le_of_ble_eq_true rfl⟩) hS (fun q _ h => hFc q h) hFc (fun r_14 u t_16 H_13 locs ht hvm hw_15 hB hz1 hk1 hS => ?_)
  obtain ⟨hP, hD, hK⟩ := QW.join (wr := [(a2, .inr (3, [.int 0, .ref z, .int 0])), (a3, .inr (3, [.int 0, .ref z, .int 0])), (a4, .inr (3, [.int 0, .ref z, .int 0])), (a5, .inr (3, [.int 0, .ref z, .int 0])), (a6, .inr (10, [.ref b1, .ref b2, .ref b3, .int 0])), (b1, .inl (cyA, 400, .inl (nI))), (b2, .inl (cyJ, 512, .inl (fun _ => 0))), (b3, .inl (cyT, 400, .inl (fun _ => 0))), (a7, .inr (4, [.ref d1, .ref d2, .ref d3, .ref d4, .int 0, .int 12])), (d4, .inl (cyO, 20, .inr (.inr (.inr (.inr (fS)))))), (r0, .inl (cyI, 20, .inl (fun _ => 0))), (l2, .inr (3, [.int 0, .ref z, .int 0])), (l3, .inr (3, [.int 0, .ref z, .int 0])), (l4, .inr (3, [.int 0, .ref z, .int 0])), (l5, .inr (3, [.int 0, .ref z, .int 0])), (l6, .inr (3, [.int 0, .ref z, .int 0])), (o2, .inl (cyD, 1, .inr (.inr (.inr (.inl (fun _ => 0)))))), (o1, .inl (cyL, 1, .inr (.inl ((fun _ => 0)))))]) (w1 := [(y0, .inr (18, [.int 1, .ref l1, .ref l2, .ref l3, .ref l4, .ref l5, .ref l6, .int 0, .int 3, .int 12, .ref m1, .ref m2, .ref m3, .ref m4, .ref m5, .ref m6]))]) hP hD hK [11, 12] [0, 1, 2, 3, 4, 5, 6, 7, 8, 9, 10, 13, 14, 15, 16, 17, 18, 19] rfl rfl (by decide) (by decide) hk1 hFc ht hvm hB
  have hP : va_P G vwCl ([(a2, .inr (3, [.int 0, .ref z, .int 0])), (a3, .inr (3, [.int 0, .ref z, .int 0])), (a4, .inr (3, [.int 0, .ref z, .int 0])), (a5, .inr (3, [.int 0, .ref z, .int 0])), (a6, .inr (10, [.ref b1, .ref b2, .ref b3, .int 0])), (b1, .inl (cyA, 400, .inl (nI))), (b2, .inl (cyJ, 512, .inl (fun _ => 0))), (b3, .inl (cyT, 400, .inl (fun _ => 0))), (a7, .inr (4, [.ref d1, .ref d2, .ref d3, .ref d4, .int 0, .int 12])), (d4, .inl (cyO, 20, .inr (.inr (.inr (.inr (fS)))))), (r0, .inl (cyI, 20, .inl (fun _ => 0))), (l2, .inr (3, [.int 0, .ref z, .int 0])), (l3, .inr (3, [.int 0, .ref z, .int 0])), (l4, .inr (3, [.int 0, .ref z, .int 0])), (l5, .inr (3, [.int 0, .ref z, .int 0])), (l6, .inr (3, [.int 0, .ref z, .int 0])), (o2, .inl (cyD, 1, .inr (.inr (.inr (.inl (fun _ => 0)))))), (o1, .inl (cyL, 1, .inr (.inl ((fun _ => 0))))), (y0, .inr (18, [.int 1, .ref l1, .ref l2, .ref l3, .ref l4, .ref l5, .ref l6, .int 0, .int 3, .int 12, .ref m1, .ref m2, .ref m3, .ref m4, .ref m5, .ref m6]))]) H_13 := hP
  have hD : va_D A ([(a2, .inr (3, [.int 0, .ref z, .int 0])), (a3, .inr (3, [.int 0, .ref z, .int 0])), (a4, .inr (3, [.int 0, .ref z, .int 0])), (a5, .inr (3, [.int 0, .ref z, .int 0])), (a6, .inr (10, [.ref b1, .ref b2, .ref b3, .int 0])), (b1, .inl (cyA, 400, .inl (nI))), (b2, .inl (cyJ, 512, .inl (fun _ => 0))), (b3, .inl (cyT, 400, .inl (fun _ => 0))), (a7, .inr (4, [.ref d1, .ref d2, .ref d3, .ref d4, .int 0, .int 12])), (d4, .inl (cyO, 20, .inr (.inr (.inr (.inr (fS)))))), (r0, .inl (cyI, 20, .inl (fun _ => 0))), (l2, .inr (3, [.int 0, .ref z, .int 0])), (l3, .inr (3, [.int 0, .ref z, .int 0])), (l4, .inr (3, [.int 0, .ref z, .int 0])), (l5, .inr (3, [.int 0, .ref z, .int 0])), (l6, .inr (3, [.int 0, .ref z, .int 0])), (o2, .inl (cyD, 1, .inr (.inr (.inr (.inl (fun _ => 0)))))), (o1, .inl (cyL, 1, .inr (.inl ((fun _ => 0))))), (y0, .inr (18, [.int 1, .ref l1, .ref l2, .ref l3, .ref l4, .ref l5, .ref l6, .int 0, .int 3, .int 12, .ref m1, .ref m2, .ref m3, .ref m4, .ref m5, .ref m6]))]) := hD
  have hK : va_K G vwCl [(cyA, .int), (cyJ, .int), (cyT, .int), (cyO, .array .int), (cyI, .int), (cyL, .long), (cyD, .double), (cyL, .long)] s := hK
  refine W.widen (k := 136) (n := 2997) (Nat.le_of_ble_eq_true rfl) (Nat.le_of_ble_eq_true rfl) ?_
  refine lv_istore (lv' := [(7, .int r_14), (6, .int 1), (0, .ref b), (1, .ref x0), (2, .ref y0), (3, .ref o1), (4, .ref o2), (5, .int 0)]) hx hb dL_law_860 hl (by decide) rfl (fun ls hl => ?_)
  refine lv_aload_n hx hb dL_law_862 rfl (lv_at hl 4 rfl) ?_
  have hPc := hP.sub (ws' := [(y0, .inr (18, [.int 1, .ref l1, .ref l2, .ref l3, .ref l4, .ref l5, .ref l6, .int 0, .int 3, .int 12, .ref m1, .ref m2, .ref m3, .ref m4, .ref m5, .ref m6]))]) [18] rfl
  have hKc := hK.sub (tys' := []) [] rfl
  refine va_calli (va_runV (As := []) (rest := []) ⟨hx, hb, hml, hown, hts⟩ (k_X14_thrown l G z y0 1 l1 l2 l3 l4 l5 l6 3 12 m1 m2 m3 m4 m5 m6 H_13.size ) (cwV 0 hts (lw_goodApp (lw_4 q1236 q1237 q1238 q7) q1239) rfl rfl rfl (by decide +kernel) ⟨Nat.le_of_ble_eq_true rfl, Nat.le_of_ble_eq_true rfl⟩) ⟨PR.blind, va_recv hK hP (ci := 18) (q0 := 18) rfl rfl, PR.of hPc hKc hG hS hA [.ref y0]⟩ rfl rfl hl.1 rfl (lv_room (Nat.le_of_ble_eq_true rfl)) dL_law_863 ⟨Nat.le_of_ble_eq_true rfl, Nat.le_of_ble_eq_true rfl⟩) hS (fun q h9 h => zN.not h9 h) (fun q h => hA q (Nat.le_trans hS.1 h)) (fun r_18 u t_20 H_17 locs ht hvm hw_19 hB hz1 hk1 hS => ?_)
  have hP := hP.grown hk1
  refine W.widen (k := 136) (n := 2997) (Nat.le_of_ble_eq_true rfl) (Nat.le_of_ble_eq_true rfl) ?_
  obtain rfl : 1 = r_18 := hw_19.symm
  refine lv_iload hx hb dL_law_866 (lv_at hl 1 rfl) ?_
  refine lv_icmp_eq (tgt := 873) hx hb dL_law_868 (by decide) (fun c_21 => ?_) (fun c_21 => absurd rfl c_21)
  refine lv_iload hx hb dL_law_873 (lv_at hl 1 rfl) ?_
  refine lv_if_ne (tgt := 890) hx hb dL_law_875 (by decide) (fun c_22 => ?_) (fun c_22 => absurd c_22 (by decide))
  refine lv_goto (tgt := 3288) hx hb dL_law_890 (by decide) ?_
  exact law_tail hfl C0 hA hA2 hS (lv_sub hl [2, 7] rfl) (Nat.le_of_ble_eq_true rfl) (Nat.le_of_ble_eq_true rfl)
set_option maxHeartbeats 8000000 in
set_option maxRecDepth 100000 in
/-- script value 8 -/
theorem law_case_8 {p : Program} {l : Launch} {e : Env} {s : State} {m : MethodId} {below : List Frame} {meth : Method} {c : Code} {b : Nat} {xs : Nat → Int32} (hfl : l.stackTraces = false) (C0 : lw_At p s m meth c b 7 xs) {A : Nat → Prop} (hA : ∀ q : Nat, s.heap.size ≤ q → A q) (hA2 : ∀ q : Nat, A q → s.heap.size ≤ q) (G : va_G) (z : Nat) (hG : zG z A s s.heap) (x0 : Nat) (y0 : Nat) (o1 : Nat) (o2 : Nat) (cyL : ClassId) (cyD : ClassId) (a1 : Nat) (a2 : Nat) (a3 : Nat) (a4 : Nat) (a5 : Nat) (a6 : Nat) (a7 : Nat) (a8 : Nat) (b1 : Nat) (b2 : Nat) (b3 : Nat) (cyA : ClassId) (cyJ : ClassId) (cyT : ClassId) (d1 : Nat) (d2 : Nat) (d3 : Nat) (d4 : Nat) (cyO : ClassId) (fS : Nat → Option Nat) (cyI : ClassId) (r0 : Nat) (l1 : Nat) (l2 : Nat) (l3 : Nat) (l4 : Nat) (l5 : Nat) (l6 : Nat) (m1 : Nat) (m2 : Nat) (m3 : Nat) (m4 : Nat) (m5 : Nat) (m6 : Nat) (hf0 : fS 0 = some r0) {H : Heap} {locs : List Loc} (hP : va_P G vwCl ([(x0, .inr (12, [.ref a1, .ref a2, .ref a3, .ref a4, .ref a5, .ref a6, .ref a7, .ref a8, .int 3, .int 0])), (a1, .inr (3, [.int 0, .ref z, .int 0])), (a2, .inr (3, [.int 0, .ref z, .int 0])), (a3, .inr (3, [.int 0, .ref z, .int 0])), (a4, .inr (3, [.int 0, .ref z, .int 0])), (a5, .inr (3, [.int 0, .ref z, .int 0])), (a6, .inr (10, [.ref b1, .ref b2, .ref b3, .int 0])), (b1, .inl (cyA, 400, .inl (nI))), (b2, .inl (cyJ, 512, .inl (fun _ => 0))), (b3, .inl (cyT, 400, .inl (fun _ => 0))), (a7, .inr (4, [.ref d1, .ref d2, .ref d3, .ref d4, .int 0, .int 12])), (d4, .inl (cyO, 20, .inr (.inr (.inr (.inr (fS)))))), (r0, .inl (cyI, 20, .inl (fun _ => 0))), (y0, .inr (18, [.int 0, .ref l1, .ref l2, .ref l3, .ref l4, .ref l5, .ref l6, .int 0, .int 3, .int 12, .ref m1, .ref m2, .ref m3, .ref m4, .ref m5, .ref m6])), (l1, .inr (3, [.int 0, .ref z, .int 0])), (l2, .inr (3, [.int 0, .ref z, .int 0])), (l3, .inr (3, [.int 0, .ref z, .int 0])), (l4, .inr (3, [.int 0, .ref z, .int 0])), (l5, .inr (3, [.int 0, .ref z, .int 0])), (l6, .inr (3, [.int 0, .ref z, .int 0])), (o1, .inl (cyL, 1, .inr (.inl (fun _ => 0)))), (o2, .inl (cyD, 1, .inr (.inr (.inr (.inl (fun _ => 0))))))]) H) (hD : va_D A ([(x0, .inr (12, [.ref a1, .ref a2, .ref a3, .ref a4, .ref a5, .ref a6, .ref a7, .ref a8, .int 3, .int 0])), (a1, .inr (3, [.int 0, .ref z, .int 0])), (a2, .inr (3, [.int 0, .ref z, .int 0])), (a3, .inr (3, [.int 0, .ref z, .int 0])), (a4, .inr (3, [.int 0, .ref z, .int 0])), (a5, .inr (3, [.int 0, .ref z, .int 0])), (a6, .inr (10, [.ref b1, .ref b2, .ref b3, .int 0])), (b1, .inl (cyA, 400, .inl (nI))), (b2, .inl (cyJ, 512, .inl (fun _ => 0))), (b3, .inl (cyT, 400, .inl (fun _ => 0))), (a7, .inr (4, [.ref d1, .ref d2, .ref d3, .ref d4, .int 0, .int 12])), (d4, .inl (cyO, 20, .inr (.inr (.inr (.inr (fS)))))), (r0, .inl (cyI, 20, .inl (fun _ => 0))), (y0, .inr (18, [.int 0, .ref l1, .ref l2, .ref l3, .ref l4, .ref l5, .ref l6, .int 0, .int 3, .int 12, .ref m1, .ref m2, .ref m3, .ref m4, .ref m5, .ref m6])), (l1, .inr (3, [.int 0, .ref z, .int 0])), (l2, .inr (3, [.int 0, .ref z, .int 0])), (l3, .inr (3, [.int 0, .ref z, .int 0])), (l4, .inr (3, [.int 0, .ref z, .int 0])), (l5, .inr (3, [.int 0, .ref z, .int 0])), (l6, .inr (3, [.int 0, .ref z, .int 0])), (o1, .inl (cyL, 1, .inr (.inl (fun _ => 0)))), (o2, .inl (cyD, 1, .inr (.inr (.inr (.inl (fun _ => 0))))))])) (hK : va_K G vwCl [(cyA, .int), (cyJ, .int), (cyT, .int), (cyO, .array .int), (cyI, .int), (cyL, .long), (cyD, .double)] s) (hS : va_S A s.heap H locs) {ls : Array Slot} (hl : lv_has ls 9 [(0, .ref b), (1, .ref x0), (2, .ref y0), (3, .ref o1), (4, .ref o2), (5, .int 0)]) : W p l e room_1 s m #[Value.ref b] below meth c H locs 135 2991 (lw_Z below #[Value.ref b] s) (F0 m 893 ls []) := by
  have C9 := C0
  obtain ⟨hx, hb, hr, hml, hown, hts0, hX, hbl, hlocks, hgv⟩ := id C0
  have hg := lw_sub_good hts0
  have hts : ∀ w ∈ (lw_hd :: lw_good), w.before #[Value.ref b] s = true := fun w h => (List.mem_cons.mp h).elim (fun e9 => e9 ▸ hg _ q0) (hg w)
  have hbA : ¬ A b := fun h => Nat.not_le.mpr hbl (hA2 b h)
  refine lv_aload_n hx hb dL_law_893 rfl (lv_at hl 1 rfl) ?_
  refine lv_aload_n hx hb dL_law_894 rfl (lv_at hl 0 rfl) ?_
  refine lv_iload hx hb dL_law_895 (lv_at hl 5 rfl) ?_
  refine lv_iconst (v := 1) hx hb dL_law_897 (by decide) ?_
  refine lv_iadd hx hb dL_law_898 ?_
  refine lv_topi (fun f_1 ef_1 => ?_)
  obtain rfl : f_1 = 1 := ef_1.trans (by decide)
  refine va_sld hx hb hX hbl hbA hS (by unfold vp_in; decide +kernel) dL_law_899 ?_
  refine lv_topi (fun f_2 ef_2 => ?_)
  obtain rfl : f_2 = xs 1 := ef_2
  refine lv_aload_n hx hb dL_law_900 rfl (lv_at hl 0 rfl) ?_
  refine lv_iload hx hb dL_law_901 (lv_at hl 5 rfl) ?_
  refine lv_iconst (v := 2) hx hb dL_law_903 (by decide) ?_
  refine lv_iadd hx hb dL_law_904 ?_
  refine lv_topi (fun f_3 ef_3 => ?_)
  obtain rfl : f_3 = 2 := ef_3.trans (by decide)
  refine va_sld hx hb hX hbl hbA hS (by unfold vp_in; decide +kernel) dL_law_905 ?_
  refine lv_topi (fun f_4 ef_4 => ?_)
  obtain rfl : f_4 = xs 2 := ef_4
  refine lv_aload_n hx hb dL_law_906 rfl (lv_at hl 0 rfl) ?_
  refine lv_iload hx hb dL_law_907 (lv_at hl 5 rfl) ?_
  refine lv_iconst (v := 3) hx hb dL_law_909 (by decide) ?_
  refine lv_iadd hx hb dL_law_910 ?_
  refine lv_topi (fun f_5 ef_5 => ?_)
  obtain rfl : f_5 = 3 := ef_5.trans (by decide)
  refine va_sld hx hb hX hbl hbA hS (by unfold vp_in; decide +kernel) dL_law_911 ?_
  refine lv_topi (fun f_6 ef_6 => ?_)
  obtain rfl : f_6 = xs 3 := ef_6
  refine lv_aload_n hx hb dL_law_912 rfl (lv_at hl 3 rfl) ?_
  have hPc := hP.sub (ws' := [(x0, .inr (12, [.ref a1, .ref a2, .ref a3, .ref a4, .ref a5, .ref a6, .ref a7, .ref a8, .int 3, .int 0])), (a1, .inr (3, [.int 0, .ref z, .int 0])), (o1, .inl (cyL, 1, .inr (.inl (fun _ => 0))))]) [0, 1, 20] rfl
  have hKc := hK.sub (tys' := [(cyL, .long)]) [5] rfl
  have hDc := hD.sub (ws' := [(x0, .inr (12, [.ref a1, .ref a2, .ref a3, .ref a4, .ref a5, .ref a6, .ref a7, .ref a8, .int 3, .int 0])), (a1, .inr (3, [.int 0, .ref z, .int 0])), (o1, .inl (cyL, 1, .inr (.inl (fun _ => 0))))]) [0, 1, 20] (by decide) rfl
  have hFc := va_free (wc := [(x0, .inr (12, [.ref a1, .ref a2, .ref a3, .ref a4, .ref a5, .ref a6, .ref a7, .ref a8, .int 3, .int 0])), (a1, .inr (3, [.int 0, .ref z, .int 0])), (o1, .inl (cyL, 1, .inr (.inl (fun _ => 0))))]) hD hS hA [0, 1, 20] rfl
  refine va_calli (vx_runSW (As := [.ref x0, .int (xs 1), .int (xs 2), .int (xs 3), .ref o1]) (rest := []) ⟨hx, hb, hml, hown, hts⟩ (k_L_wire l hfl G z x0 a1 a2 a3 a4 a5 a6 a7 a8 3 0 0 z ((xs 1)) ((xs 2)) ((xs 3)) o1 cyL (fun _ => 0) H.size ) (vx_cwSW 5 hts (lw_goodApp (lw_3 q675 q676 q0) q677) rfl rfl rfl (by decide +kernel) ⟨Nat.le_of_ble_eq_true rfl, Nat.le_of_ble_eq_true rfl⟩) ⟨PW.blind, PW.of hPc hKc hDc hG hS hFc [.ref x0, .int (xs 1), .int (xs 2), .int (xs 3), .ref o1]⟩ rfl rfl hl.1 rfl (lv_room (Nat.le_of_ble_eq_true rfl)) dL_law_913 ⟨Nat.le_of_ble_eq_true rfl, Nat.le_of_ble_eq_true rfl⟩) hS (fun q _ h => hFc q h) hFc (fun r_8 u t_10 H_7 locs ht hvm hw_9 hB hz1 hk1 hS => ?_)
  obtain ⟨hP, hD, hK⟩ := QW.join (wr := [(a2, .inr (3, [.int 0, .ref z, .int 0])), (a3, .inr (3, [.int 0, .ref z, .int 0])), (a4, .inr (3, [.int 0, .ref z, .int 0])), (a5, .inr (3, [.int 0, .ref z, .int 0])), (a6, .inr (10, [.ref b1, .ref b2, .ref b3, .int 0])), (b1, .inl (cyA, 400, .inl (nI))), (b2, .inl (cyJ, 512, .inl (fun _ => 0))), (b3, .inl (cyT, 400, .inl (fun _ => 0))), (a7, .inr (4, [.ref d1, .ref d2, .ref d3, .ref d4, .int 0, .int 12])), (d4, .inl (cyO, 20, .inr (.inr (.inr (.inr (fS)))))), (r0, .inl (cyI, 20, .inl (fun _ => 0))), (y0, .inr (18, [.int 0, .ref l1, .ref l2, .ref l3, .ref l4, .ref l5, .ref l6, .int 0, .int 3, .int 12, .ref m1, .ref m2, .ref m3, .ref m4, .ref m5, .ref m6])), (l1, .inr (3, [.int 0, .ref z, .int 0])), (l2, .inr (3, [.int 0, .ref z, .int 0])), (l3, .inr (3, [.int 0, .ref z, .int 0])), (l4, .inr (3, [.int 0, .ref z, .int 0])), (l5, .inr (3, [.int 0, .ref z, .int 0])), (l6, .inr (3, [.int 0, .ref z, .int 0])), (o2, .inl (cyD, 1, .inr (.inr (.inr (.inl (fun _ => 0))))))]) (w1 := [(o1, .inl (cyL, 1, .inr (.inl ((fun _ => 0)))))]) hP hD hK [0, 1, 20] [2, 3, 4, 5, 6, 7, 8, 9, 10, 11, 12, 13, 14, 15, 16, 17, 18, 19, 21] rfl rfl (by decide) (by decide) hk1 hFc ht hvm hB
  have hP : va_P G vwCl ([(a2, .inr (3, [.int 0, .ref z, .int 0])), (a3, .inr (3, [.int 0, .ref z, .int 0])), (a4, .inr (3, [.int 0, .ref z, .int 0])), (a5, .inr (3, [.int 0, .ref z, .int 0])), (a6, .inr (10, [.ref b1, .ref b2, .ref b3, .int 0])), (b1, .inl (cyA, 400, .inl (nI))), (b2, .inl (cyJ, 512, .inl (fun _ => 0))), (b3, .inl (cyT, 400, .inl (fun _ => 0))), (a7, .inr (4, [.ref d1, .ref d2, .ref d3, .ref d4, .int 0, .int 12])), (d4, .inl (cyO, 20, .inr (.inr (.inr (.inr (fS)))))), (r0, .inl (cyI, 20, .inl (fun _ => 0))), (y0, .inr (18, [.int 0, .ref l1, .ref l2, .ref l3, .ref l4, .ref l5, .ref l6, .int 0, .int 3, .int 12, .ref m1, .ref m2, .ref m3, .ref m4, .ref m5, .ref m6])), (l1, .inr (3, [.int 0, .ref z, .int 0])), (l2, .inr (3, [.int 0, .ref z, .int 0])), (l3, .inr (3, [.int 0, .ref z, .int 0])), (l4, .inr (3, [.int 0, .ref z, .int 0])), (l5, .inr (3, [.int 0, .ref z, .int 0])), (l6, .inr (3, [.int 0, .ref z, .int 0])), (o2, .inl (cyD, 1, .inr (.inr (.inr (.inl (fun _ => 0)))))), (o1, .inl (cyL, 1, .inr (.inl ((fun _ => 0)))))]) H_7 := hP
  have hD : va_D A ([(a2, .inr (3, [.int 0, .ref z, .int 0])), (a3, .inr (3, [.int 0, .ref z, .int 0])), (a4, .inr (3, [.int 0, .ref z, .int 0])), (a5, .inr (3, [.int 0, .ref z, .int 0])), (a6, .inr (10, [.ref b1, .ref b2, .ref b3, .int 0])), (b1, .inl (cyA, 400, .inl (nI))), (b2, .inl (cyJ, 512, .inl (fun _ => 0))), (b3, .inl (cyT, 400, .inl (fun _ => 0))), (a7, .inr (4, [.ref d1, .ref d2, .ref d3, .ref d4, .int 0, .int 12])), (d4, .inl (cyO, 20, .inr (.inr (.inr (.inr (fS)))))), (r0, .inl (cyI, 20, .inl (fun _ => 0))), (y0, .inr (18, [.int 0, .ref l1, .ref l2, .ref l3, .ref l4, .ref l5, .ref l6, .int 0, .int 3, .int 12, .ref m1, .ref m2, .ref m3, .ref m4, .ref m5, .ref m6])), (l1, .inr (3, [.int 0, .ref z, .int 0])), (l2, .inr (3, [.int 0, .ref z, .int 0])), (l3, .inr (3, [.int 0, .ref z, .int 0])), (l4, .inr (3, [.int 0, .ref z, .int 0])), (l5, .inr (3, [.int 0, .ref z, .int 0])), (l6, .inr (3, [.int 0, .ref z, .int 0])), (o2, .inl (cyD, 1, .inr (.inr (.inr (.inl (fun _ => 0)))))), (o1, .inl (cyL, 1, .inr (.inl ((fun _ => 0)))))]) := hD
  have hK : va_K G vwCl [(cyA, .int), (cyJ, .int), (cyT, .int), (cyO, .array .int), (cyI, .int), (cyL, .long), (cyD, .double), (cyL, .long)] s := hK
  refine W.widen (k := 136) (n := 2997) (Nat.le_of_ble_eq_true rfl) (Nat.le_of_ble_eq_true rfl) ?_
  obtain rfl : 1 = r_8 := hw_9.symm
  refine lv_istore (lv' := [(6, .int 1), (0, .ref b), (1, .ref x0), (2, .ref y0), (3, .ref o1), (4, .ref o2), (5, .int 0)]) hx hb dL_law_916 hl (by decide) rfl (fun ls hl => ?_)
  refine lv_aload_n hx hb dL_law_918 rfl (lv_at hl 3 rfl) ?_
  refine lv_aload_n hx hb dL_law_919 rfl (lv_at hl 1 rfl) ?_
  refine lv_iload hx hb dL_law_920 (lv_at hl 6 rfl) ?_
  refine lv_iconst (v := 1) hx hb dL_law_922 (by decide) ?_
  refine lv_iadd hx hb dL_law_923 ?_
  refine lv_topi (fun f_11 ef_11 => ?_)
  obtain rfl : f_11 = 1 := ef_11.trans (by decide)
  refine va_sld hx hb hX hbl hbA hS (by unfold vp_in; decide +kernel) dL_law_924 ?_
  refine lv_topi (fun f_12 ef_12 => ?_)
  obtain rfl : f_12 = xs 1 := ef_12
  refine lv_aload_n hx hb dL_law_925 rfl (lv_at hl 1 rfl) ?_
  refine lv_iload hx hb dL_law_926 (lv_at hl 6 rfl) ?_
  refine lv_iconst (v := 2) hx hb dL_law_928 (by decide) ?_
  refine lv_iadd hx hb dL_law_929 ?_
  refine lv_topi (fun f_13 ef_13 => ?_)
  obtain rfl : f_13 = 2 := ef_13.trans (by decide)
  refine va_sld hx hb hX hbl hbA hS (by unfold vp_in; decide +kernel) dL_law_930 ?_
  refine lv_topi (fun f_14 ef_14 => ?_)
  obtain rfl : f_14 = xs 2 := ef_14
  refine lv_aload_n hx hb dL_law_931 rfl (lv_at hl 1 rfl) ?_
  refine lv_iload hx hb dL_law_932 (lv_at hl 6 rfl) ?_
  refine lv_iconst (v := 3) hx hb dL_law_934 (by decide) ?_
  refine lv_iadd hx hb dL_law_935 ?_
  refine lv_topi (fun f_15 ef_15 => ?_)
  obtain rfl : f_15 = 3 := ef_15.trans (by decide)
  refine va_sld hx hb hX hbl hbA hS (by unfold vp_in; decide +kernel) dL_law_936 ?_
  refine lv_topi (fun f_16 ef_16 => ?_)
  obtain rfl : f_16 = xs 3 := ef_16
  have hPc := hP.sub (ws' := [(y0, .inr (18, [.int 0, .ref l1, .ref l2, .ref l3, .ref l4, .ref l5, .ref l6, .int 0, .int 3, .int 12, .ref m1, .ref m2, .ref m3, .ref m4, .ref m5, .ref m6])), (l1, .inr (3, [.int 0, .ref z, .int 0]))]) [11, 12] rfl
  have hKc := hK.sub (tys' := []) [] rfl
  have hDc := hD.sub (ws' := [(y0, .inr (18, [.int 0, .ref l1, .ref l2, .ref l3, .ref l4, .ref l5, .ref l6, .int 0, .int 3, .int 12, .ref m1, .ref m2, .ref m3, .ref m4, .ref m5, .ref m6])), (l1, .inr (3, [.int 0, .ref z, .int 0]))]) [11, 12] (by decide) rfl
  have hFc := va_free (wc := [(y0, .inr (18, [.int 0, .ref l1, .ref l2, .ref l3, .ref l4, .ref l5, .ref l6, .int 0, .int 3, .int 12, .ref m1, .ref m2, .ref m3, .ref m4, .ref m5, .ref m6])), (l1, .inr (3, [.int 0, .ref z, .int 0]))]) hD hS hA [11, 12] rfl
  refine va_calli (va_runV (As := [.int (xs 1), .int (xs 2), .int (xs 3)]) (rest := []) ⟨hx, hb, hml, hown, hts⟩ (k_X14_wire l G z y0 0 l1 l2 l3 l4 l5 l6 3 12 m1 m2 m3 m4 m5 m6 0 z ((xs 1)) ((xs 2)) ((xs 3)) H_7.size ) (cwV 3 hts (lw_goodApp (lw_4 q1422 q1423 q1424 q7) q1425) rfl rfl rfl (by decide +kernel) ⟨Nat.le_of_ble_eq_true rfl, Nat.le_of_ble_eq_true rfl⟩) ⟨PW.blind, va_recv hK hP (ci := 18) (q0 := 11) rfl rfl, PW.of hPc hKc hDc hG hS hFc [.ref y0, .int (xs 1), .int (xs 2), .int (xs 3)]⟩ rfl rfl hl.1 rfl (lv_room (Nat.le_of_ble_eq_true rfl)) dL_law_937 ⟨Nat.le_of_ble_eq_true rfl, Nat.le_of_ble_eq_true rfl⟩) hS (fun q _ h => hFc q h) hFc (fun r_18 u t_20 H_17 locs ht hvm hw_19 hB hz1 hk1 hS => ?_)
  obtain ⟨hP, hD, hK⟩ := QW.join (wr := [(a2, .inr (3, [.int 0, .ref z, .int 0])), (a3, .inr (3, [.int 0, .ref z, .int 0])), (a4, .inr (3, [.int 0, .ref z, .int 0])), (a5, .inr (3, [.int 0, .ref z, .int 0])), (a6, .inr (10, [.ref b1, .ref b2, .ref b3, .int 0])), (b1, .inl (cyA, 400, .inl (nI))), (b2, .inl (cyJ, 512, .inl (fun _ => 0))), (b3, .inl (cyT, 400, .inl (fun _ => 0))), (a7, .inr (4, [.ref d1, .ref d2, .ref d3, .ref d4, .int 0, .int 12])), (d4, .inl (cyO, 20, .inr (.inr (.inr (.inr (fS)))))), (r0, .inl (cyI, 20, .inl (fun _ => 0))), (l2, .inr (3, [.int 0, .ref z, .int 0])), (l3, .inr (3, [.int 0, .ref z, .int 0])), (l4, .inr (3, [.int 0, .ref z, .int 0])), (l5, .inr (3, [.int 0, .ref z, .int 0])), (l6, .inr (3, [.int 0, .ref z, .int 0])), (o2, .inl (cyD, 1, .inr (.inr (.inr (.inl (fun _ => 0)))))), (o1, .inl (cyL, 1, .inr (.inl ((fun _ => 0)))))]) (w1 := [(y0, .inr (18, [.int 1, .ref l1, .ref l2, .ref l3, .ref l4, .ref l5, .ref l6, .int 0, .int 3, .int 12, .ref m1, .ref m2, .ref m3, .ref m4, .ref m5, .ref m6]))]) hP hD hK [11, 12] [0, 1, 2, 3, 4, 5, 6, 7, 8, 9, 10, 13, 14, 15, 16, 17, 18, 19] rfl rfl (by decide) (by decide) hk1 hFc ht hvm hB
  have hP : va_P G vwCl ([(a2, .inr (3, [.int 0, .ref z, .int 0])), (a3, .inr (3, [.int 0, .ref z, .int 0])), (a4, .inr (3, [.int 0, .ref z, .int 0])), (a5, .inr (3, [.int 0, .ref z, .int 0])), (a6, .inr (10, [.ref b1, .ref b2, .ref b3, .int 0])), (b1, .inl (cyA, 400, .inl (nI))), (b2, .inl (cyJ, 512, .inl (fun _ => 0))), (b3, .inl (cyT, 400, .inl (fun _ => 0))), (a7, .inr (4, [.ref d1, .ref d2, .ref d3, .ref d4, .int 0, .int 12])), (d4, .inl (cyO, 20, .inr (.inr (.inr (.inr (fS)))))), (r0, .inl (cyI, 20, .inl (fun _ => 0))), (l2, .inr (3, [.int 0, .ref z, .int 0])), (l3, .inr (3, [.int 0, .ref z, .int 0])), (l4, .inr (3, [.int 0, .ref z, .int 0])), (l5, .inr (3, [.int 0, .ref z, .int 0])), (l6, .inr (3, [.int 0, .ref z, .int 0])), (o2, .inl (cyD, 1, .inr (.inr (.inr (.inl (fun _ => 0)))))), (o1, .inl (cyL, 1, .inr (.inl ((fun _ => 0))))), (y0, .inr (18, [.int 1, .ref l1, .ref l2, .ref l3, .ref l4, .ref l5, .ref l6, .int 0, .int 3, .int 12, .ref m1, .ref m2, .ref m3, .ref m4, .ref m5, .ref m6]))]) H_17 := hP
  have hD : va_D A ([(a2, .inr (3, [.int 0, .ref z, .int 0])), (a3, .inr (3, [.int 0, .ref z, .int 0])), (a4, .inr (3, [.int 0, .ref z, .int 0])), (a5, .inr (3, [.int 0, .ref z, .int 0])), (a6, .inr (10, [.ref b1, .ref b2, .ref b3, .int 0])), (b1, .inl (cyA, 400, .inl (nI))), (b2, .inl (cyJ, 512, .inl (fun _ => 0))), (b3, .inl (cyT, 400, .inl (fun _ => 0))), (a7, .inr (4, [.ref d1, .ref d2, .ref d3, .ref d4, .int 0, .int 12])), (d4, .inl (cyO, 20, .inr (.inr (.inr (.inr (fS)))))), (r0, .inl (cyI, 20, .inl (fun _ => 0))), (l2, .inr (3, [.int 0, .ref z, .int 0])), (l3, .inr (3, [.int 0, .ref z, .int 0])), (l4, .inr (3, [.int 0, .ref z, .int 0])), (l5, .inr (3, [.int 0, .ref z, .int 0])), (l6, .inr (3, [.int 0, .ref z, .int 0])), (o2, .inl (cyD, 1, .inr (.inr (.inr (.inl (fun _ => 0)))))), (o1, .inl (cyL, 1, .inr (.inl ((fun _ => 0))))), (y0, .inr (18, [.int 1, .ref l1, .ref l2, .ref l3, .ref l4, .ref l5, .ref l6, .int 0, .int 3, .int 12, .ref m1, .ref m2, .ref m3, .ref m4, .ref m5, .ref m6]))]) := hD
  have hK : va_K G vwCl [(cyA, .int), (cyJ, .int), (cyT, .int), (cyO, .array .int), (cyI, .int), (cyL, .long), (cyD, .double), (cyL, .long)] s := hK
  refine W.widen (k := 136) (n := 2997) (Nat.le_of_ble_eq_true rfl) (Nat.le_of_ble_eq_true rfl) ?_
  refine lv_istore (lv' := [(7, .int r_18), (6, .int 1), (0, .ref b), (1, .ref x0), (2, .ref y0), (3, .ref o1), (4, .ref o2), (5, .int 0)]) hx hb dL_law_940 hl (by decide) rfl (fun ls hl => ?_)
  refine lv_aload_n hx hb dL_law_942 rfl (lv_at hl 4 rfl) ?_
  have hPc := hP.sub (ws' := [(y0, .inr (18, [.int 1, .ref l1, .ref l2, .ref l3, .ref l4, .ref l5, .ref l6, .int 0, .int 3, .int 12, .ref m1, .ref m2, .ref m3, .ref m4, .ref m5, .ref m6]))]) [18] rfl
  have hKc := hK.sub (tys' := []) [] rfl
  refine va_calli (va_runV (As := []) (rest := []) ⟨hx, hb, hml, hown, hts⟩ (k_X14_thrown l G z y0 1 l1 l2 l3 l4 l5 l6 3 12 m1 m2 m3 m4 m5 m6 H_17.size ) (cwV 0 hts (lw_goodApp (lw_4 q1236 q1237 q1238 q7) q1239) rfl rfl rfl (by decide +kernel) ⟨Nat.le_of_ble_eq_true rfl, Nat.le_of_ble_eq_true rfl⟩) ⟨PR.blind, va_recv hK hP (ci := 18) (q0 := 18) rfl rfl, PR.of hPc hKc hG hS hA [.ref y0]⟩ rfl rfl hl.1 rfl (lv_room (Nat.le_of_ble_eq_true rfl)) dL_law_943 ⟨Nat.le_of_ble_eq_true rfl, Nat.le_of_ble_eq_true rfl⟩) hS (fun q h9 h => zN.not h9 h) (fun q h => hA q (Nat.le_trans hS.1 h)) (fun r_22 u t_24 H_21 locs ht hvm hw_23 hB hz1 hk1 hS => ?_)
  have hP := hP.grown hk1
  refine W.widen (k := 136) (n := 2997) (Nat.le_of_ble_eq_true rfl) (Nat.le_of_ble_eq_true rfl) ?_
  obtain rfl : 1 = r_22 := hw_23.symm
  refine lv_iload hx hb dL_law_946 (lv_at hl 1 rfl) ?_
  refine lv_icmp_eq (tgt := 953) hx hb dL_law_948 (by decide) (fun c_25 => ?_) (fun c_25 => absurd rfl c_25)
  refine lv_iload hx hb dL_law_953 (lv_at hl 1 rfl) ?_
  refine lv_if_ne (tgt := 970) hx hb dL_law_955 (by decide) (fun c_26 => ?_) (fun c_26 => absurd c_26 (by decide))
  refine lv_goto (tgt := 3288) hx hb dL_law_970 (by decide) ?_
  exact law_tail hfl C0 hA hA2 hS (lv_sub hl [2, 7] rfl) (Nat.le_of_ble_eq_true rfl) (Nat.le_of_ble_eq_true rfl)
set_option maxHeartbeats 8000000 in
set_option maxRecDepth 100000 in
/-- script value 9 -/
theorem law_case_9 {p : Program} {l : Launch} {e : Env} {s : State} {m : MethodId} {below : List Frame} {meth : Method} {c : Code} {b : Nat} {xs : Nat → Int32} (hfl : l.stackTraces = false) (C0 : lw_At p s m meth c b 7 xs) {A : Nat → Prop} (hA : ∀ q : Nat, s.heap.size ≤ q → A q) (hA2 : ∀ q : Nat, A q → s.heap.size ≤ q) (G : va_G) (z : Nat) (hG : zG z A s s.heap) (x0 : Nat) (y0 : Nat) (o1 : Nat) (o2 : Nat) (cyL : ClassId) (cyD : ClassId) (a1 : Nat) (a2 : Nat) (a3 : Nat) (a4 : Nat) (a5 : Nat) (a6 : Nat) (a7 : Nat) (a8 : Nat) (b1 : Nat) (b2 : Nat) (b3 : Nat) (cyA : ClassId) (cyJ : ClassId) (cyT : ClassId) (d1 : Nat) (d2 : Nat) (d3 : Nat) (d4 : Nat) (cyO : ClassId) (fS : Nat → Option Nat) (cyI : ClassId) (r0 : Nat) (l1 : Nat) (l2 : Nat) (l3 : Nat) (l4 : Nat) (l5 : Nat) (l6 : Nat) (m1 : Nat) (m2 : Nat) (m3 : Nat) (m4 : Nat) (m5 : Nat) (m6 : Nat) (hf0 : fS 0 = some r0) {H : Heap} {locs : List Loc} (hP : va_P G vwCl ([(x0, .inr (12, [.ref a1, .ref a2, .ref a3, .ref a4, .ref a5, .ref a6, .ref a7, .ref a8, .int 3, .int 0])), (a1, .inr (3, [.int 0, .ref z, .int 0])), (a2, .inr (3, [.int 0, .ref z, .int 0])), (a3, .inr (3, [.int 0, .ref z, .int 0])), (a4, .inr (3, [.int 0, .ref z, .int 0])), (a5, .inr (3, [.int 0, .ref z, .int 0])), (a6, .inr (10, [.ref b1, .ref b2, .ref b3, .int 0])), (b1, .inl (cyA, 400, .inl (nI))), (b2, .inl (cyJ, 512, .inl (fun _ => 0))), (b3, .inl (cyT, 400, .inl (fun _ => 0))), (a7, .inr (4, [.ref d1, .ref d2, .ref d3, .ref d4, .int 0, .int 12])), (d4, .inl (cyO, 20, .inr (.inr (.inr (.inr (fS)))))), (r0, .inl (cyI, 20, .inl (fun _ => 0))), (y0, .inr (18, [.int 0, .ref l1, .ref l2, .ref l3, .ref l4, .ref l5, .ref l6, .int 0, .int 3, .int 12, .ref m1, .ref m2, .ref m3, .ref m4, .ref m5, .ref m6])), (l1, .inr (3, [.int 0, .ref z, .int 0])), (l2, .inr (3, [.int 0, .ref z, .int 0])), (l3, .inr (3, [.int 0, .ref z, .int 0])), (l4, .inr (3, [.int 0, .ref z, .int 0])), (l5, .inr (3, [.int 0, .ref z, .int 0])), (l6, .inr (3, [.int 0, .ref z, .int 0])), (o1, .inl (cyL, 1, .inr (.inl (fun _ => 0)))), (o2, .inl (cyD, 1, .inr (.inr (.inr (.inl (fun _ => 0))))))]) H) (hD : va_D A ([(x0, .inr (12, [.ref a1, .ref a2, .ref a3, .ref a4, .ref a5, .ref a6, .ref a7, .ref a8, .int 3, .int 0])), (a1, .inr (3, [.int 0, .ref z, .int 0])), (a2, .inr (3, [.int 0, .ref z, .int 0])), (a3, .inr (3, [.int 0, .ref z, .int 0])), (a4, .inr (3, [.int 0, .ref z, .int 0])), (a5, .inr (3, [.int 0, .ref z, .int 0])), (a6, .inr (10, [.ref b1, .ref b2, .ref b3, .int 0])), (b1, .inl (cyA, 400, .inl (nI))), (b2, .inl (cyJ, 512, .inl (fun _ => 0))), (b3, .inl (cyT, 400, .inl (fun _ => 0))), (a7, .inr (4, [.ref d1, .ref d2, .ref d3, .ref d4, .int 0, .int 12])), (d4, .inl (cyO, 20, .inr (.inr (.inr (.inr (fS)))))), (r0, .inl (cyI, 20, .inl (fun _ => 0))), (y0, .inr (18, [.int 0, .ref l1, .ref l2, .ref l3, .ref l4, .ref l5, .ref l6, .int 0, .int 3, .int 12, .ref m1, .ref m2, .ref m3, .ref m4, .ref m5, .ref m6])), (l1, .inr (3, [.int 0, .ref z, .int 0])), (l2, .inr (3, [.int 0, .ref z, .int 0])), (l3, .inr (3, [.int 0, .ref z, .int 0])), (l4, .inr (3, [.int 0, .ref z, .int 0])), (l5, .inr (3, [.int 0, .ref z, .int 0])), (l6, .inr (3, [.int 0, .ref z, .int 0])), (o1, .inl (cyL, 1, .inr (.inl (fun _ => 0)))), (o2, .inl (cyD, 1, .inr (.inr (.inr (.inl (fun _ => 0))))))])) (hK : va_K G vwCl [(cyA, .int), (cyJ, .int), (cyT, .int), (cyO, .array .int), (cyI, .int), (cyL, .long), (cyD, .double)] s) (hS : va_S A s.heap H locs) {ls : Array Slot} (hl : lv_has ls 9 [(0, .ref b), (1, .ref x0), (2, .ref y0), (3, .ref o1), (4, .ref o2), (5, .int 0)]) : W p l e room_1 s m #[Value.ref b] below meth c H locs 135 2991 (lw_Z below #[Value.ref b] s) (F0 m 973 ls []) := by
  have C9 := C0
  obtain ⟨hx, hb, hr, hml, hown, hts0, hX, hbl, hlocks, hgv⟩ := id C0
  have hg := lw_sub_good hts0
  have hts : ∀ w ∈ (lw_hd :: lw_good), w.before #[Value.ref b] s = true := fun w h => (List.mem_cons.mp h).elim (fun e9 => e9 ▸ hg _ q0) (hg w)
  have hbA : ¬ A b := fun h => Nat.not_le.mpr hbl (hA2 b h)
  refine lv_aload_n hx hb dL_law_973 rfl (lv_at hl 1 rfl) ?_
  refine lv_aload_n hx hb dL_law_974 rfl (lv_at hl 0 rfl) ?_
  refine lv_iload hx hb dL_law_975 (lv_at hl 5 rfl) ?_
  refine lv_iconst (v := 1) hx hb dL_law_977 (by decide) ?_
  refine lv_iadd hx hb dL_law_978 ?_
  refine lv_topi (fun f_1 ef_1 => ?_)
  obtain rfl : f_1 = 1 := ef_1.trans (by decide)
  refine va_sld hx hb hX hbl hbA hS (by unfold vp_in; decide +kernel) dL_law_979 ?_
  refine lv_topi (fun f_2 ef_2 => ?_)
  obtain rfl : f_2 = xs 1 := ef_2
  refine lv_aload_n hx hb dL_law_980 rfl (lv_at hl 0 rfl) ?_
  refine lv_iload hx hb dL_law_981 (lv_at hl 5 rfl) ?_
  refine lv_iconst (v := 2) hx hb dL_law_983 (by decide) ?_
  refine lv_iadd hx hb dL_law_984 ?_
  refine lv_topi (fun f_3 ef_3 => ?_)
  obtain rfl : f_3 = 2 := ef_3.trans (by decide)
  refine va_sld hx hb hX hbl hbA hS (by unfold vp_in; decide +kernel) dL_law_985 ?_
  refine lv_topi (fun f_4 ef_4 => ?_)
  obtain rfl : f_4 = xs 2 := ef_4
  refine lv_if_eq (tgt := 993) hx hb dL_law_986 (by decide) (fun c_5 => ?_) (fun c_5 => ?_)
  · refine lv_iconst (v := 0) hx hb dL_law_993 (by decide) ?_
    refine lv_aload_n hx hb dL_law_994 rfl (lv_at hl 0 rfl) ?_
    refine lv_iload hx hb dL_law_995 (lv_at hl 5 rfl) ?_
    refine lv_iconst (v := 3) hx hb dL_law_997 (by decide) ?_
    refine lv_iadd hx hb dL_law_998 ?_
    refine lv_topi (fun f_6 ef_6 => ?_)
    obtain rfl : f_6 = 3 := ef_6.trans (by decide)
    refine va_sld hx hb hX hbl hbA hS (by unfold vp_in; decide +kernel) dL_law_999 ?_
    refine lv_topi (fun f_7 ef_7 => ?_)
    obtain rfl : f_7 = xs 3 := ef_7
    refine lv_aload_n hx hb dL_law_1000 rfl (lv_at hl 0 rfl) ?_
    refine lv_iload hx hb dL_law_1001 (lv_at hl 5 rfl) ?_
    refine lv_iconst (v := 4) hx hb dL_law_1003 (by decide) ?_
    refine lv_iadd hx hb dL_law_1004 ?_
    refine lv_topi (fun f_8 ef_8 => ?_)
    obtain rfl : f_8 = 4 := ef_8.trans (by decide)
    refine va_sld hx hb hX hbl hbA hS (by unfold vp_in; decide +kernel) dL_law_1005 ?_
    refine lv_topi (fun f_9 ef_9 => ?_)
    obtain rfl : f_9 = xs 4 := ef_9
    refine lv_aload_n hx hb dL_law_1006 rfl (lv_at hl 3 rfl) ?_
    have hPc := hP.sub (ws' := [(x0, .inr (12, [.ref a1, .ref a2, .ref a3, .ref a4, .ref a5, .ref a6, .ref a7, .ref a8, .int 3, .int 0])), (a1, .inr (3, [.int 0, .ref z, .int 0])), (o1, .inl (cyL, 1, .inr (.inl (fun _ => 0))))]) [0, 1, 20] rfl
    have hKc := hK.sub (tys' := [(cyL, .long)]) [5] rfl
    have hDc := hD.sub (ws' := [(x0, .inr (12, [.ref a1, .ref a2, .ref a3, .ref a4, .ref a5, .ref a6, .ref a7, .ref a8, .int 3, .int 0])), (a1, .inr (3, [.int 0, .ref z, .int 0])), (o1, .inl (cyL, 1, .inr (.inl (fun _ => 0))))]) [0, 1, 20] (by decide) rfl
    have hFc := va_free (wc := [(x0, .inr (12, [.ref a1, .ref a2, .ref a3, .ref a4, .ref a5, .ref a6, .ref a7, .ref a8, .int 3, .int 0])), (a1, .inr (3, [.int 0, .ref z, .int 0])), (o1, .inl (cyL, 1, .inr (.inl (fun _ => 0))))]) hD hS hA [0, 1, 20] rfl
    refine va_calli (vx_runSW (As := [.ref x0, .int (xs 1), .int 0, .int (xs 3), .int (xs 4), .ref o1]) (rest := []) ⟨hx, hb, hml, hown, hts⟩ (k_L_make l hfl G z x0 a1 a2 a3 a4 a5 a6 a7 a8 3 0 0 z ((xs 1)) 0 ((xs 3)) ((xs 4)) o1 cyL (fun _ => 0) H.size ) (vx_cwSW 6 hts (lw_goodApp (lw_3 q699 q700 q0) q701) rfl rfl rfl (by decide +kernel) ⟨Nat.le_of_ble_eq_true rfl, Nat.le_of_ble_eq_true rfl⟩) ⟨PW.blind, PW.of hPc hKc hDc hG hS hFc [.ref x0, .int (xs 1), .int 0, .int (xs 3), .int (xs 4), .ref o1]⟩ rfl rfl hl.1 rfl (lv_room (Nat.le_of_ble_eq_true rfl)) dL_law_1007 ⟨Nat.le_of_ble_eq_true rfl, Nat.le_of_ble_eq_true rfl⟩) hS (fun q _ h => hFc q h) hFc (fun r_11 u t_13 H_10 locs ht hvm hw_12 hB hz1 hk1 hS => ?_)
    obtain ⟨hP, hD, hK⟩ := QW.join (wr := [(a2, .inr (3, [.int 0, .ref z, .int 0])), (a3, .inr (3, [.int 0, .ref z, .int 0])), (a4, .inr (3, [.int 0, .ref z, .int 0])), (a5, .inr (3, [.int 0, .ref z, .int 0])), (a6, .inr (10, [.ref b1, .ref b2, .ref b3, .int 0])), (b1, .inl (cyA, 400, .inl (nI))), (b2, .inl (cyJ, 512, .inl (fun _ => 0))), (b3, .inl (cyT, 400, .inl (fun _ => 0))), (a7, .inr (4, [.ref d1, .ref d2, .ref d3, .ref d4, .int 0, .int 12])), (d4, .inl (cyO, 20, .inr (.inr (.inr (.inr (fS)))))), (r0, .inl (cyI, 20, .inl (fun _ => 0))), (y0, .inr (18, [.int 0, .ref l1, .ref l2, .ref l3, .ref l4, .ref l5, .ref l6, .int 0, .int 3, .int 12, .ref m1, .ref m2, .ref m3, .ref m4, .ref m5, .ref m6])), (l1, .inr (3, [.int 0, .ref z, .int 0])), (l2, .inr (3, [.int 0, .ref z, .int 0])), (l3, .inr (3, [.int 0, .ref z, .int 0])), (l4, .inr (3, [.int 0, .ref z, .int 0])), (l5, .inr (3, [.int 0, .ref z, .int 0])), (l6, .inr (3, [.int 0, .ref z, .int 0])), (o2, .inl (cyD, 1, .inr (.inr (.inr (.inl (fun _ => 0))))))]) (w1 := [(o1, .inl (cyL, 1, .inr (.inl ((fun _ => 0)))))]) hP hD hK [0, 1, 20] [2, 3, 4, 5, 6, 7, 8, 9, 10, 11, 12, 13, 14, 15, 16, 17, 18, 19, 21] rfl rfl (by decide) (by decide) hk1 hFc ht hvm hB
    have hP : va_P G vwCl ([(a2, .inr (3, [.int 0, .ref z, .int 0])), (a3, .inr (3, [.int 0, .ref z, .int 0])), (a4, .inr (3, [.int 0, .ref z, .int 0])), (a5, .inr (3, [.int 0, .ref z, .int 0])), (a6, .inr (10, [.ref b1, .ref b2, .ref b3, .int 0])), (b1, .inl (cyA, 400, .inl (nI))), (b2, .inl (cyJ, 512, .inl (fun _ => 0))), (b3, .inl (cyT, 400, .inl (fun _ => 0))), (a7, .inr (4, [.ref d1, .ref d2, .ref d3, .ref d4, .int 0, .int 12])), (d4, .inl (cyO, 20, .inr (.inr (.inr (.inr (fS)))))), (r0, .inl (cyI, 20, .inl (fun _ => 0))), (y0, .inr (18, [.int 0, .ref l1, .ref l2, .ref l3, .ref l4, .ref l5, .ref l6, .int 0, .int 3, .int 12, .ref m1, .ref m2, .ref m3, .ref m4, .ref m5, .ref m6])), (l1, .inr (3, [.int 0, .ref z, .int 0])), (l2, .inr (3, [.int 0, .ref z, .int 0])), (l3, .inr (3, [.int 0, .ref z, .int 0])), (l4, .inr (3, [.int 0, .ref z, .int 0])), (l5, .inr (3, [.int 0, .ref z, .int 0])), (l6, .inr (3, [.int 0, .ref z, .int 0])), (o2, .inl (cyD, 1, .inr (.inr (.inr (.inl (fun _ => 0)))))), (o1, .inl (cyL, 1, .inr (.inl ((fun _ => 0)))))]) H_10 := hP
    have hD : va_D A ([(a2, .inr (3, [.int 0, .ref z, .int 0])), (a3, .inr (3, [.int 0, .ref z, .int 0])), (a4, .inr (3, [.int 0, .ref z, .int 0])), (a5, .inr (3, [.int 0, .ref z, .int 0])), (a6, .inr (10, [.ref b1, .ref b2, .ref b3, .int 0])), (b1, .inl (cyA, 400, .inl (nI))), (b2, .inl (cyJ, 512, .inl (fun _ => 0))), (b3, .inl (cyT, 400, .inl (fun _ => 0))), (a7, .inr (4, [.ref d1, .ref d2, .ref d3, .ref d4, .int 0, .int 12])), (d4, .inl (cyO, 20, .inr (.inr (.inr (.inr (fS)))))), (r0, .inl (cyI, 20, .inl (fun _ => 0))), (y0, .inr (18, [.int 0, .ref l1, .ref l2, .ref l3, .ref l4, .ref l5, .ref l6, .int 0, .int 3, .int 12, .ref m1, .ref m2, .ref m3, .ref m4, .ref m5, .ref m6])), (l1, .inr (3, [.int 0, .ref z, .int 0])), (l2, .inr (3, [.int 0, .ref z, .int 0])), (l3, .inr (3, [.int 0, .ref z, .int 0])), (l4, .inr (3, [.int 0, .ref z, .int 0])), (l5, .inr (3, [.int 0, .ref z, .int 0])), (l6, .inr (3, [.int 0, .ref z, .int 0])), (o2, .inl (cyD, 1, .inr (.inr (.inr (.inl (fun _ => 0)))))), (o1, .inl (cyL, 1, .inr (.inl ((fun _ => 0)))))]) := hD
    have hK : va_K G vwCl [(cyA, .int), (cyJ, .int), (cyT, .int), (cyO, .array .int), (cyI, .int), (cyL, .long), (cyD, .double), (cyL, .long)] s := hK
    refine W.widen (k := 136) (n := 2997) (Nat.le_of_ble_eq_true rfl) (Nat.le_of_ble_eq_true rfl) ?_
    obtain rfl : 1 = r_11 := hw_12.symm
    refine lv_istore (lv' := [(6, .int 1), (0, .ref b), (1, .ref x0), (2, .ref y0), (3, .ref o1), (4, .ref o2), (5, .int 0)]) hx hb dL_law_1010 hl (by decide) rfl (fun ls hl => ?_)
    refine lv_aload_n hx hb dL_law_1012 rfl (lv_at hl 3 rfl) ?_
    refine lv_aload_n hx hb dL_law_1013 rfl (lv_at hl 1 rfl) ?_
    refine lv_iload hx hb dL_law_1014 (lv_at hl 6 rfl) ?_
    refine lv_iconst (v := 1) hx hb dL_law_1016 (by decide) ?_
    refine lv_iadd hx hb dL_law_1017 ?_
    refine lv_topi (fun f_14 ef_14 => ?_)
    obtain rfl : f_14 = 1 := ef_14.trans (by decide)
    refine va_sld hx hb hX hbl hbA hS (by unfold vp_in; decide +kernel) dL_law_1018 ?_
    refine lv_topi (fun f_15 ef_15 => ?_)
    obtain rfl : f_15 = xs 1 := ef_15
    refine lv_aload_n hx hb dL_law_1019 rfl (lv_at hl 1 rfl) ?_
    refine lv_iload hx hb dL_law_1020 (lv_at hl 6 rfl) ?_
    refine lv_iconst (v := 2) hx hb dL_law_1022 (by decide) ?_
    refine lv_iadd hx hb dL_law_1023 ?_
    refine lv_topi (fun f_16 ef_16 => ?_)
    obtain rfl : f_16 = 2 := ef_16.trans (by decide)
    refine va_sld hx hb hX hbl hbA hS (by unfold vp_in; decide +kernel) dL_law_1024 ?_
    refine lv_topi (fun f_17 ef_17 => ?_)
    obtain rfl : f_17 = xs 2 := ef_17
    refine lv_if_eq (tgt := 1032) hx hb dL_law_1025 (by decide) (fun c_18 => ?_) (fun c_18 => ?_)
    · refine lv_iconst (v := 0) hx hb dL_law_1032 (by decide) ?_
      refine lv_aload_n hx hb dL_law_1033 rfl (lv_at hl 1 rfl) ?_
      refine lv_iload hx hb dL_law_1034 (lv_at hl 6 rfl) ?_
      refine lv_iconst (v := 3) hx hb dL_law_1036 (by decide) ?_
      refine lv_iadd hx hb dL_law_1037 ?_
      refine lv_topi (fun f_19 ef_19 => ?_)
      obtain rfl : f_19 = 3 := ef_19.trans (by decide)
      refine va_sld hx hb hX hbl hbA hS (by unfold vp_in; decide +kernel) dL_law_1038 ?_
      refine lv_topi (fun f_20 ef_20 => ?_)
      obtain rfl : f_20 = xs 3 := ef_20
      refine lv_aload_n hx hb dL_law_1039 rfl (lv_at hl 1 rfl) ?_
      refine lv_iload hx hb dL_law_1040 (lv_at hl 6 rfl) ?_
      refine lv_iconst (v := 4) hx hb dL_law_1042 (by decide) ?_
      refine lv_iadd hx hb dL_law_1043 ?_
      refine lv_topi (fun f_21 ef_21 => ?_)
      obtain rfl : f_21 = 4 := ef_21.trans (by decide)
      refine va_sld hx hb hX hbl hbA hS (by unfold vp_in; decide +kernel) dL_law_1044 ?_
      refine lv_topi (fun f_22 ef_22 => ?_)
      obtain rfl : f_22 = xs 4 := ef_22
      have hPc := hP.sub (ws' := [(y0, .inr (18, [.int 0, .ref l1, .ref l2, .ref l3, .ref l4, .ref l5, .ref l6, .int 0, .int 3, .int 12, .ref m1, .ref m2, .ref m3, .ref m4, .ref m5, .ref m6])), (l1, .inr (3, [.int 0, .ref z, .int 0]))]) [11, 12] rfl
      have hKc := hK.sub (tys' := []) [] rfl
      have hDc := hD.sub (ws' := [(y0, .inr (18, [.int 0, .ref l1, .ref l2, .ref l3, .ref l4, .ref l5, .ref l6, .int 0, .int 3, .int 12, .ref m1, .ref m2, .ref m3, .ref m4, .ref m5, .ref m6])), (l1, .inr (3, [.int 0, .ref z, .int 0]))]) [11, 12] (by decide) rfl
      have hFc := va_free (wc := [(y0, .inr (18, [.int 0, .ref l1, .ref l2, .ref l3, .ref l4, .ref l5, .ref l6, .int 0, .int 3, .int 12, .ref m1, .ref m2, .ref m3, .ref m4, .ref m5, .ref m6])), (l1, .inr (3, [.int 0, .ref z, .int 0]))]) hD hS hA [11, 12] rfl
      refine va_calli (va_runV (As := [.int (xs 1), .int 0, .int (xs 3), .int (xs 4)]) (rest := []) ⟨hx, hb, hml, hown, hts⟩ (k_X14_make l G z y0 0 l1 l2 l3 l4 l5 l6 3 12 m1 m2 m3 m4 m5 m6 0 z ((xs 1)) 0 ((xs 3)) ((xs 4)) H_10.size ) (cwV 4 hts (lw_goodApp (lw_4 q1429 q1430 q1431 q7) q1432) rfl rfl rfl (by decide +kernel) ⟨Nat.le_of_ble_eq_true rfl, Nat.le_of_ble_eq_true rfl⟩) ⟨PW.blind, va_recv hK hP (ci := 18) (q0 := 11) rfl rfl, PW.of hPc hKc hDc hG hS hFc [.ref y0, .int (xs 1), .int 0, .int (xs 3), .int (xs 4)]⟩ rfl rfl hl.1 rfl (lv_room (Nat.le_of_ble_eq_true rfl)) dL_law_1045 ⟨Nat.le_of_ble_eq_true rfl, Nat.le_of_ble_eq_true rfl⟩) hS (fun q _ h => hFc q h) hFc (fun r_24 u t_26 H_23 locs ht hvm hw_25 hB hz1 hk1 hS => ?_)
      obtain ⟨hP, hD, hK⟩ := QW.join (wr := [(a2, .inr (3, [.int 0, .ref z, .int 0])), (a3, .inr (3, [.int 0, .ref z, .int 0])), (a4, .inr (3, [.int 0, .ref z, .int 0])), (a5, .inr (3, [.int 0, .ref z, .int 0])), (a6, .inr (10, [.ref b1, .ref b2, .ref b3, .int 0])), (b1, .inl (cyA, 400, .inl (nI))), (b2, .inl (cyJ, 512, .inl (fun _ => 0))), (b3, .inl (cyT, 400, .inl (fun _ => 0))), (a7, .inr (4, [.ref d1, .ref d2, .ref d3, .ref d4, .int 0, .int 12])), (d4, .inl (cyO, 20, .inr (.inr (.inr (.inr (fS)))))), (r0, .inl (cyI, 20, .inl (fun _ => 0))), (l2, .inr (3, [.int 0, .ref z, .int 0])), (l3, .inr (3, [.int 0, .ref z, .int 0])), (l4, .inr (3, [.int 0, .ref z, .int 0])), (l5, .inr (3, [.int 0, .ref z, .int 0])), (l6, .inr (3, [.int 0, .ref z, .int 0])), (o2, .inl (cyD, 1, .inr (.inr (.inr (.inl (fun _ => 0)))))), (o1, .inl (cyL, 1, .inr (.inl ((fun _ => 0)))))]) (w1 := [(y0, .inr (18, [.int 1, .ref l1, .ref l2, .ref l3, .ref l4, .ref l5, .ref l6, .int 0, .int 3, .int 12, .ref m1, .ref m2, .ref m3, .ref m4, .ref m5, .ref m6]))]) hP hD hK [11, 12] [0, 1, 2, 3, 4, 5, 6, 7, 8, 9, 10, 13, 14, 15, 16, 17, 18, 19] rfl rfl (by decide) (by decide) hk1 hFc ht hvm hB
      have hP : va_P G vwCl ([(a2, .inr (3, [.int 0, .ref z, .int 0])), (a3, .inr (3, [.int 0, .ref z, .int 0])), (a4, .inr (3, [.int 0, .ref z, .int 0])), (a5, .inr (3, [.int 0, .ref z, .int 0])), (a6, .inr (10, [.ref b1, .ref b2, .ref b3, .int 0])), (b1, .inl (cyA, 400, .inl (nI))), (b2, .inl (cyJ, 512, .inl (fun _ => 0))), (b3, .inl (cyT, 400, .inl (fun _ => 0))), (a7, .inr (4, [.ref d1, .ref d2, .ref d3, .ref d4, .int 0, .int 12])), (d4, .inl (cyO, 20, .inr (.inr (.inr (.inr (fS)))))), (r0, .inl (cyI, 20, .inl (fun _ => 0))), (l2, .inr (3, [.int 0, .ref z, .int 0])), (l3, .inr (3, [.int 0, .ref z, .int 0])), (l4, .inr (3, [.int 0, .ref z, .int 0])), (l5, .inr (3, [.int 0, .ref z, .int 0])), (l6, .inr (3, [.int 0, .ref z, .int 0])), (o2, .inl (cyD, 1, .inr (.inr (.inr (.inl (fun _ => 0)))))), (o1, .inl (cyL, 1, .inr (.inl ((fun _ => 0))))), (y0, .inr (18, [.int 1, .ref l1, .ref l2, .ref l3, .ref l4, .ref l5, .ref l6, .int 0, .int 3, .int 12, .ref m1, .ref m2, .ref m3, .ref m4, .ref m5, .ref m6]))]) H_23 := hP
      have hD : va_D A ([(a2, .inr (3, [.int 0, .ref z, .int 0])), (a3, .inr (3, [.int 0, .ref z, .int 0])), (a4, .inr (3, [.int 0, .ref z, .int 0])), (a5, .inr (3, [.int 0, .ref z, .int 0])), (a6, .inr (10, [.ref b1, .ref b2, .ref b3, .int 0])), (b1, .inl (cyA, 400, .inl (nI))), (b2, .inl (cyJ, 512, .inl (fun _ => 0))), (b3, .inl (cyT, 400, .inl (fun _ => 0))), (a7, .inr (4, [.ref d1, .ref d2, .ref d3, .ref d4, .int 0, .int 12])), (d4, .inl (cyO, 20, .inr (.inr (.inr (.inr (fS)))))), (r0, .inl (cyI, 20, .inl (fun _ => 0))), (l2, .inr (3, [.int 0, .ref z, .int 0])), (l3, .inr (3, [.int 0, .ref z, .int 0])), (l4, .inr (3, [.int 0, .ref z, .int 0])), (l5, .inr (3, [.int 0, .ref z, .int 0])), (l6, .inr (3, [.int 0, .ref z, .int 0])), (o2, .inl (cyD, 1, .inr (.inr (.inr (.inl (fun _ => 0)))))), (o1, .inl (cyL, 1, .inr (.inl ((fun _ => 0))))), (y0, .inr (18, [.int 1, .ref l1, .ref l2, .ref l3, .ref l4, .ref l5, .ref l6, .int 0, .int 3, .int 12, .ref m1, .ref m2, .ref m3, .ref m4, .ref m5, .ref m6]))]) := hD
      have hK : va_K G vwCl [(cyA, .int), (cyJ, .int), (cyT, .int), (cyO, .array .int), (cyI, .int), (cyL, .long), (cyD, .double), (cyL, .long)] s := hK
      refine W.widen (k := 136) (n := 2997) (Nat.le_of_ble_eq_true rfl) (Nat.le_of_ble_eq_true rfl) ?_
      refine lv_istore (lv' := [(7, .int r_24), (6, .int 1), (0, .ref b), (1, .ref x0), (2, .ref y0), (3, .ref o1), (4, .ref o2), (5, .int 0)]) hx hb dL_law_1048 hl (by decide) rfl (fun ls hl => ?_)
      refine lv_aload_n hx hb dL_law_1050 rfl (lv_at hl 4 rfl) ?_
      have hPc := hP.sub (ws' := [(y0, .inr (18, [.int 1, .ref l1, .ref l2, .ref l3, .ref l4, .ref l5, .ref l6, .int 0, .int 3, .int 12, .ref m1, .ref m2, .ref m3, .ref m4, .ref m5, .ref m6]))]) [18] rfl
      have hKc := hK.sub (tys' := []) [] rfl
      refine va_calli (va_runV (As := []) (rest := []) ⟨hx, hb, hml, hown, hts⟩ (k_X14_thrown l G z y0 1 l1 l2 l3 l4 l5 l6 3 12 m1 m2 m3 m4 m5 m6 H_23.size ) (cwV 0 hts (lw_goodApp (lw_4 q1236 q1237 q1238 q7) q1239) rfl rfl rfl (by decide +kernel) ⟨Nat.le_of_ble_eq_true rfl, Nat.le_of_ble_eq_true rfl⟩) ⟨PR.blind, va_recv hK hP (ci := 18) (q0 := 18) rfl rfl, PR.of hPc hKc hG hS hA [.ref y0]⟩ rfl rfl hl.1 rfl (lv_room (Nat.le_of_ble_eq_true rfl)) dL_law_1051 ⟨Nat.le_of_ble_eq_true rfl, Nat.le_of_ble_eq_true rfl⟩) hS (fun q h9 h => zN.not h9 h) (fun q h => hA q (Nat.le_trans hS.1 h)) (fun r_28 u t_30 H_27 locs ht hvm hw_29 hB hz1 hk1 hS => ?_)
      have hP := hP.grown hk1
      refine W.widen (k := 136) (n := 2997) (Nat.le_of_ble_eq_true rfl) (Nat.le_of_ble_eq_true rfl) ?_
      obtain rfl : 1 = r_28 := hw_29.symm
      refine lv_iload hx hb dL_law_1054 (lv_at hl 1 rfl) ?_
      refine lv_icmp_eq (tgt := 1061) hx hb dL_law_1056 (by decide) (fun c_31 => ?_) (fun c_31 => absurd rfl c_31)
      refine lv_iload hx hb dL_law_1061 (lv_at hl 1 rfl) ?_
      refine lv_if_ne (tgt := 1078) hx hb dL_law_1063 (by decide) (fun c_32 => ?_) (fun c_32 => absurd c_32 (by decide))
      refine lv_goto (tgt := 3288) hx hb dL_law_1078 (by decide) ?_
      exact law_tail hfl C0 hA hA2 hS (lv_sub hl [2, 7] rfl) (Nat.le_of_ble_eq_true rfl) (Nat.le_of_ble_eq_true rfl)
    · refine lv_iconst (v := 1) hx hb dL_law_1028 (by decide) ?_
      refine lv_goto (tgt := 1033) hx hb dL_law_1029 (by decide) ?_
      refine lv_aload_n hx hb dL_law_1033 rfl (lv_at hl 1 rfl) ?_
      refine lv_iload hx hb dL_law_1034 (lv_at hl 6 rfl) ?_
      refine lv_iconst (v := 3) hx hb dL_law_1036 (by decide) ?_
      refine lv_iadd hx hb dL_law_1037 ?_
      refine lv_topi (fun f_33 ef_33 => ?_)
      obtain rfl : f_33 = 3 := ef_33.trans (by decide)
      refine va_sld hx hb hX hbl hbA hS (by unfold vp_in; decide +kernel) dL_law_1038 ?_
      refine lv_topi (fun f_34 ef_34 => ?_)
      obtain rfl : f_34 = xs 3 := ef_34
      refine lv_aload_n hx hb dL_law_1039 rfl (lv_at hl 1 rfl) ?_
      refine lv_iload hx hb dL_law_1040 (lv_at hl 6 rfl) ?_
      refine lv_iconst (v := 4) hx hb dL_law_1042 (by decide) ?_
      refine lv_iadd hx hb dL_law_1043 ?_
      refine lv_topi (fun f_35 ef_35 => ?_)
      obtain rfl : f_35 = 4 := ef_35.trans (by decide)
      refine va_sld hx hb hX hbl hbA hS (by unfold vp_in; decide +kernel) dL_law_1044 ?_
      refine lv_topi (fun f_36 ef_36 => ?_)
      obtain rfl : f_36 = xs 4 := ef_36
      have hPc := hP.sub (ws' := [(y0, .inr (18, [.int 0, .ref l1, .ref l2, .ref l3, .ref l4, .ref l5, .ref l6, .int 0, .int 3, .int 12, .ref m1, .ref m2, .ref m3, .ref m4, .ref m5, .ref m6])), (l1, .inr (3, [.int 0, .ref z, .int 0]))]) [11, 12] rfl
      have hKc := hK.sub (tys' := []) [] rfl
      have hDc := hD.sub (ws' := [(y0, .inr (18, [.int 0, .ref l1, .ref l2, .ref l3, .ref l4, .ref l5, .ref l6, .int 0, .int 3, .int 12, .ref m1, .ref m2, .ref m3, .ref m4, .ref m5, .ref m6])), (l1, .inr (3, [.int 0, .ref z, .int 0]))]) [11, 12] (by decide) rfl
      have hFc := va_free (wc := [(y0, .inr (18, [.int 0, .ref l1, .ref l2, .ref l3, .ref l4, .ref l5, .ref l6, .int 0, .int 3, .int 12, .ref m1, .ref m2, .ref m3, .ref m4, .ref m5, .ref m6])), (l1, .inr (3, [.int 0, .ref z, .int 0]))]) hD hS hA [11, 12] rfl
      refine va_calli (va_runV (As := [.int (xs 1), .int 1, .int (xs 3), .int (xs 4)]) (rest := []) ⟨hx, hb, hml, hown, hts⟩ (k_X14_make l G z y0 0 l1 l2 l3 l4 l5 l6 3 12 m1 m2 m3 m4 m5 m6 0 z ((xs 1)) 1 ((xs 3)) ((xs 4)) H_10.size ) (cwV 4 hts (lw_goodApp (lw_4 q1429 q1430 q1431 q7) q1432) rfl rfl rfl (by decide +kernel) ⟨Nat.le_of_ble_eq_true rfl, Nat.le_of_ble_eq_true rfl⟩) ⟨PW.blind, va_recv hK hP (ci := 18) (q0 := 11) rfl rfl, PW.of hPc hKc hDc hG hS hFc [.ref y0, .int (xs 1), .int 1, .int (xs 3), .int (xs 4)]⟩ rfl rfl hl.1 rfl (lv_room (Nat.le_of_ble_eq_true rfl)) dL_law_1045 ⟨Nat.le_of_ble_eq_true rfl, Nat.le_of_ble_eq_true rfl⟩) hS (fun q _ h => hFc q h) hFc (fun r_38 u t_40 H_37 locs ht hvm hw_39 hB hz1 hk1 hS => ?_)
      obtain ⟨hP, hD, hK⟩ := QW.join (wr := [(a2, .inr (3, [.int 0, .ref z, .int 0])), (a3, .inr (3, [.int 0, .ref z, .int 0])), (a4, .inr (3, [.int 0, .ref z, .int 0])), (a5, .inr (3, [.int 0, .ref z, .int 0])), (a6, .inr (10, [.ref b1, .ref b2, .ref b3, .int 0])), (b1, .inl (cyA, 400, .inl (nI))), (b2, .inl (cyJ, 512, .inl (fun _ => 0))), (b3, .inl (cyT, 400, .inl (fun _ => 0))), (a7, .inr (4, [.ref d1, .ref d2, .ref d3, .ref d4, .int 0, .int 12])), (d4, .inl (cyO, 20, .inr (.inr (.inr (.inr (fS)))))), (r0, .inl (cyI, 20, .inl (fun _ => 0))), (l2, .inr (3, [.int 0, .ref z, .int 0])), (l3, .inr (3, [.int 0, .ref z, .int 0])), (l4, .inr (3, [.int 0, .ref z, .int 0])), (l5, .inr (3, [.int 0, .ref z, .int 0])), (l6, .inr (3, [.int 0, .ref z, .int 0])), (o2, .inl (cyD, 1, .inr (.inr (.inr (.inl (fun _ => 0)))))), (o1, .inl (cyL, 1, .inr (.inl ((fun _ => 0)))))]) (w1 := [(y0, .inr (18, [.int 1, .ref l1, .ref l2, .ref l3, .ref l4, .ref l5, .ref l6, .int 0, .int 3, .int 12, .ref m1, .ref m2, .ref m3, .ref m4, .ref m5, .ref m6]))]) hP hD hK [11, 12] [0, 1, 2, 3, 4, 5, 6, 7, 8, 9, 10, 13, 14, 15, 16, 17, 18, 19] rfl rfl (by decide) (by decide) hk1 hFc ht hvm hB
      have hP : va_P G vwCl ([(a2, .inr (3, [.int 0, .ref z, .int 0])), (a3, .inr (3, [.int 0, .ref z, .int 0])), (a4, .inr (3, [.int 0, .ref z, .int 0])), (a5, .inr (3, [.int 0, .ref z, .int 0])), (a6, .inr (10, [.ref b1, .ref b2, .ref b3, .int 0])), (b1, .inl (cyA, 400, .inl (nI))), (b2, .inl (cyJ, 512, .inl (fun _ => 0))), (b3, .inl (cyT, 400, .inl (fun _ => 0))), (a7, .inr (4, [.ref d1, .ref d2, .ref d3, .ref d4, .int 0, .int 12])), (d4, .inl (cyO, 20, .inr (.inr (.inr (.inr (fS)))))), (r0, .inl (cyI, 20, .inl (fun _ => 0))), (l2, .inr (3, [.int 0, .ref z, .int 0])), (l3, .inr (3, [.int 0, .ref z, .int 0])), (l4, .inr (3, [.int 0, .ref z, .int 0])), (l5, .inr (3, [.int 0, .ref z, .int 0])), (l6, .inr (3, [.int 0, .ref z, .int 0])), (o2, .inl (cyD, 1, .inr (.inr (.inr (.inl (fun _ => 0)))))), (o1, .inl (cyL, 1, .inr (.inl ((fun _ => 0))))), (y0, .inr (18, [.int 1, .ref l1, .ref l2, .ref l3, .ref l4, .ref l5, .ref l6, .int 0, .int 3, .int 12, .ref m1, .ref m2, .ref m3, .ref m4, .ref m5, .ref m6]))]) H_37 := hP
      have hD : va_D A ([(a2, .inr (3, [.int 0, .ref z, .int 0])), (a3, .inr (3, [.int 0, .ref z, .int 0])), (a4, .inr (3, [.int 0, .ref z, .int 0])), (a5, .inr (3, [.int 0, .ref z, .int 0])), (a6, .inr (10, [.ref b1, .ref b2, .ref b3, .int 0])), (b1, .inl (cyA, 400, .inl (nI))), (b2, .inl (cyJ, 512, .inl (fun _ => 0))), (b3, .inl (cyT, 400, .inl (fun _ => 0))), (a7, .inr (4, [.ref d1, .ref d2, .ref d3, .ref d4, .int 0, .int 12])), (d4, .inl (cyO, 20, .inr (.inr (.inr (.inr (fS)))))), (r0, .inl (cyI, 20, .inl (fun _ => 0))), (l2, .inr (3, [.int 0, .ref z, .int 0])), (l3, .inr (3, [.int 0, .ref z, .int 0])), (l4, .inr (3, [.int 0, .ref z, .int 0])), (l5, .inr (3, [.int 0, .ref z, .int 0])), (l6, .inr (3, [.int 0, .ref z, .int 0])), (o2, .inl (cyD, 1, .inr (.inr (.inr (.inl (fun _ => 0)))))), (o1, .inl (cyL, 1, .inr (.inl ((fun _ => 0))))), (y0, .inr (18, [.int 1, .ref l1, .ref l2, .ref l3, .ref l4, .ref l5, .ref l6, .int 0, .int 3, .int 12, .ref m1, .ref m2, .ref m3, .ref m4, .ref m5, .ref m6]))]) := hD
      have hK : va_K G vwCl [(cyA, .int), (cyJ, .int), (cyT, .int), (cyO, .array .int), (cyI, .int), (cyL, .long), (cyD, .double), (cyL, .long)] s := hK
      refine W.widen (k := 136) (n := 2997) (Nat.le_of_ble_eq_true rfl) (Nat.le_of_ble_eq_true rfl) ?_
      refine lv_istore (lv' := [(7, .int r_38), (6, .int 1), (0, .ref b), (1, .ref x0), (2, .ref y0), (3, .ref o1), (4, .ref o2), (5, .int 0)]) hx hb dL_law_1048 hl (by decide) rfl (fun ls hl => ?_)
      refine lv_aload_n hx hb dL_law_1050 rfl (lv_at hl 4 rfl) ?_
      have hPc := hP.sub (ws' := [(y0, .inr (18, [.int 1, .ref l1, .ref l2, .ref l3, .ref l4, .ref l5, .ref l6, .int 0, .int 3, .int 12, .ref m1, .ref m2, .ref m3, .ref m4, .ref m5, .ref m6]))]) [18] rfl
      have hKc := hK.sub (tys' := []) [] rfl
      refine va_calli (va_runV (As := []) (rest := []) ⟨hx, hb, hml, hown, hts⟩ (k_X14_thrown l G z y0 1 l1 l2 l3 l4 l5 l6 3 12 m1 m2 m3 m4 m5 m6 H_37.size ) (cwV 0 hts (lw_goodApp (lw_4 q1236 q1237 q1238 q7) q1239) rfl rfl rfl (by decide +kernel) ⟨Nat.le_of_ble_eq_true rfl, Nat.le_of_ble_eq_true rfl⟩) ⟨PR.blind, va_recv hK hP (ci := 18) (q0 := 18) rfl rfl, PR.of hPc hKc hG hS hA [.ref y0]⟩ rfl rfl hl.1 rfl (lv_room (Nat.le_of_ble_eq_true rfl)) dL_law_1051 ⟨Nat.le_of_ble_eq_true rfl, Nat.le_of_ble_eq_true rfl⟩) hS (fun q h9 h => zN.not h9 h) (fun q h => hA q (Nat.le_trans hS.1 h)) (fun r_42 u t_44 H_41 locs ht hvm hw_43 hB hz1 hk1 hS => ?_)
      have hP := hP.grown hk1
      refine W.widen (k := 136) (n := 2997) (Nat.le_of_ble_eq_true rfl) (Nat.le_of_ble_eq_true rfl) ?_
      obtain rfl : 1 = r_42 := hw_43.symm
      refine lv_iload hx hb dL_law_1054 (lv_at hl 1 rfl) ?_
      refine lv_icmp_eq (tgt := 1061) hx hb dL_law_1056 (by decide) (fun c_45 => ?_) (fun c_45 => absurd rfl c_45)
      refine lv_iload hx hb dL_law_1061 (lv_at hl 1 rfl) ?_
      refine lv_if_ne (tgt := 1078) hx hb dL_law_1063 (by decide) (fun c_46 => ?_) (fun c_46 => absurd c_46 (by decide))
      refine lv_goto (tgt := 3288) hx hb dL_law_1078 (by decide) ?_
      exact law_tail hfl C0 hA hA2 hS (lv_sub hl [2, 7] rfl) (Nat.le_of_ble_eq_true rfl) (Nat.le_of_ble_eq_true rfl)
  · refine lv_iconst (v := 1) hx hb dL_law_989 (by decide) ?_
    refine lv_goto (tgt := 994) hx hb dL_law_990 (by decide) ?_
    refine lv_aload_n hx hb dL_law_994 rfl (lv_at hl 0 rfl) ?_
    refine lv_iload hx hb dL_law_995 (lv_at hl 5 rfl) ?_
    refine lv_iconst (v := 3) hx hb dL_law_997 (by decide) ?_
    refine lv_iadd hx hb dL_law_998 ?_
    refine lv_topi (fun f_47 ef_47 => ?_)
    obtain rfl : f_47 = 3 := ef_47.trans (by decide)
    refine va_sld hx hb hX hbl hbA hS (by unfold vp_in; decide +kernel) dL_law_999 ?_
    refine lv_topi (fun f_48 ef_48 => ?_)
    obtain rfl : f_48 = xs 3 := ef_48
    refine lv_aload_n hx hb dL_law_1000 rfl (lv_at hl 0 rfl) ?_
    refine lv_iload hx hb dL_law_1001 (lv_at hl 5 rfl) ?_
    refine lv_iconst (v := 4) hx hb dL_law_1003 (by decide) ?_
    refine lv_iadd hx hb dL_law_1004 ?_
    refine lv_topi (fun f_49 ef_49 => ?_)
    obtain rfl : f_49 = 4 := ef_49.trans (by decide)
    refine va_sld hx hb hX hbl hbA hS (by unfold vp_in; decide +kernel) dL_law_1005 ?_
    refine lv_topi (fun f_50 ef_50 => ?_)
    obtain rfl : f_50 = xs 4 := ef_50
    refine lv_aload_n hx hb dL_law_1006 rfl (lv_at hl 3 rfl) ?_
    have hPc := hP.sub (ws' := [(x0, .inr (12, [.ref a1, .ref a2, .ref a3, .ref a4, .ref a5, .ref a6, .ref a7, .ref a8, .int 3, .int 0])), (a1, .inr (3, [.int 0, .ref z, .int 0])), (o1, .inl (cyL, 1, .inr (.inl (fun _ => 0))))]) [0, 1, 20] rfl
    have hKc := hK.sub (tys' := [(cyL, .long)]) [5] rfl
    have hDc := hD.sub (ws' := [(x0, .inr (12, [.ref a1, .ref a2, .ref a3, .ref a4, .ref a5, .ref a6, .ref a7, .ref a8, .int 3, .int 0])), (a1, .inr (3, [.int 0, .ref z, .int 0])), (o1, .inl (cyL, 1, .inr (.inl (fun _ => 0))))]) [0, 1, 20] (by decide) rfl
    have hFc := va_free (wc := [(x0, .inr (12, [.ref a1, .ref a2, .ref a3, .ref a4, .ref a5, .ref a6, .ref a7, .ref a8, .int 3, .int 0])), (a1, .inr (3, [.int 0, .ref z, .int 0])), (o1, .inl (cyL, 1, .inr (.inl (fun _ => 0))))]) hD hS hA [0, 1, 20] rfl
    refine va_calli (vx_runSW (As := [.ref x0, .int (xs 1), .int 1, .int (xs 3), .int (xs 4), .ref o1]) (rest := []) ⟨hx, hb, hml, hown, hts⟩ (k_L_make l hfl G z x0 a1 a2 a3 a4 a5 a6 a7 a8 3 0 0 z ((xs 1)) 1 ((xs 3)) ((xs 4)) o1 cyL (fun _ => 0) H.size ) (vx_cwSW 6 hts (lw_goodApp (lw_3 q699 q700 q0) q701) rfl rfl rfl (by decide +kernel) ⟨Nat.le_of_ble_eq_true rfl, Nat.le_of_ble_eq_true rfl⟩) ⟨PW.blind, PW.of hPc hKc hDc hG hS hFc [.ref x0, .int (xs 1), .int 1, .int (xs 3), .int (xs 4), .ref o1]⟩ rfl rfl hl.1 rfl (lv_room (Nat.le_of_ble_eq_true rfl)) dL_law_1007 ⟨Nat.le_of_ble_eq_true rfl, Nat.le_of_ble_eq_true rfl⟩) hS (fun q _ h => hFc q h) hFc (fun r_52 u t_54 H_51 locs ht hvm hw_53 hB hz1 hk1 hS => ?_)
    obtain ⟨hP, hD, hK⟩ := QW.join (wr := [(a2, .inr (3, [.int 0, .ref z, .int 0])), (a3, .inr (3, [.int 0, .ref z, .int 0])), (a4, .inr (3, [.int 0, .ref z, .int 0])), (a5, .inr (3, [.int 0, .ref z, .int 0])), (a6, .inr (10, [.ref b1, .ref b2, .ref b3, .int 0])), (b1, .inl (cyA, 400, .inl (nI))), (b2, .inl (cyJ, 512, .inl (fun _ => 0))), (b3, .inl (cyT, 400, .inl (fun _ => 0))), (a7, .inr (4, [.ref d1, .ref d2, .ref d3, .ref d4, .int 0, .int 12])), (d4, .inl (cyO, 20, .inr (.inr (.inr (.inr (fS)))))), (r0, .inl (cyI, 20, .inl (fun _ => 0))), (y0, .inr (18, [.int 0, .ref l1, .ref l2, .ref l3, .ref l4, .ref l5, .ref l6, .int 0, .int 3, .int 12, .ref m1, .ref m2, .ref m3, .ref m4, .ref m5, .ref m6])), (l1, .inr (3, [.int 0, .ref z, .int 0])), (l2, .inr (3, [.int 0, .ref z, .int 0])), (l3, .inr (3, [.int 0, .ref z, .int 0])), (l4, .inr (3, [.int 0, .ref z, .int 0])), (l5, .inr (3, [.int 0, .ref z, .int 0])), (l6, .inr (3, [.int 0, .ref z, .int 0])), (o2, .inl (cyD, 1, .inr (.inr (.inr (.inl (fun _ => 0))))))]) (w1 := [(o1, .inl (cyL, 1, .inr (.inl ((fun _ => 0)))))]) hP hD hK [0, 1, 20] [2, 3, 4, 5, 6, 7, 8, 9, 10, 11, 12, 13, 14, 15, 16, 17, 18, 19, 21] rfl rfl (by decide) (by decide) hk1 hFc ht hvm hB
    have hP : va_P G vwCl ([(a2, .inr (3, [.int 0, .ref z, .int 0])), (a3, .inr (3, [.int 0, .ref z, .int 0])), (a4, .inr (3, [.int 0, .ref z, .int 0])), (a5, .inr (3, [.int 0, .ref z, .int 0])), (a6, .inr (10, [.ref b1, .ref b2, .ref b3, .int 0])), (b1, .inl (cyA, 400, .inl (nI))), (b2, .inl (cyJ, 512, .inl (fun _ => 0))), (b3, .inl (cyT, 400, .inl (fun _ => 0))), (a7, .inr (4, [.ref d1, .ref d2, .ref d3, .ref d4, .int 0, .int 12])), (d4, .inl (cyO, 20, .inr (.inr (.inr (.inr (fS)))))), (r0, .inl (cyI, 20, .inl (fun _ => 0))), (y0, .inr (18, [.int 0, .ref l1, .ref l2, .ref l3, .ref l4, .ref l5, .ref l6, .int 0, .int 3, .int 12, .ref m1, .ref m2, .ref m3, .ref m4, .ref m5, .ref m6])), (l1, .inr (3, [.int 0, .ref z, .int 0])), (l2, .inr (3, [.int 0, .ref z, .int 0])), (l3, .inr (3, [.int 0, .ref z, .int 0])), (l4, .inr (3, [.int 0, .ref z, .int 0])), (l5, .inr (3, [.int 0, .ref z, .int 0])), (l6, .inr (3, [.int 0, .ref z, .int 0])), (o2, .inl (cyD, 1, .inr (.inr (.inr (.inl (fun _ => 0)))))), (o1, .inl (cyL, 1, .inr (.inl ((fun _ => 0)))))]) H_51 := hP
    have hD : va_D A ([(a2, .inr (3, [.int 0, .ref z, .int 0])), (a3, .inr (3, [.int 0, .ref z, .int 0])), (a4, .inr (3, [.int 0, .ref z, .int 0])), (a5, .inr (3, [.int 0, .ref z, .int 0])), (a6, .inr (10, [.ref b1, .ref b2, .ref b3, .int 0])), (b1, .inl (cyA, 400, .inl (nI))), (b2, .inl (cyJ, 512, .inl (fun _ => 0))), (b3, .inl (cyT, 400, .inl (fun _ => 0))), (a7, .inr (4, [.ref d1, .ref d2, .ref d3, .ref d4, .int 0, .int 12])), (d4, .inl (cyO, 20, .inr (.inr (.inr (.inr (fS)))))), (r0, .inl (cyI, 20, .inl (fun _ => 0))), (y0, .inr (18, [.int 0, .ref l1, .ref l2, .ref l3, .ref l4, .ref l5, .ref l6, .int 0, .int 3, .int 12, .ref m1, .ref m2, .ref m3, .ref m4, .ref m5, .ref m6])), (l1, .inr (3, [.int 0, .ref z, .int 0])), (l2, .inr (3, [.int 0, .ref z, .int 0])), (l3, .inr (3, [.int 0, .ref z, .int 0])), (l4, .inr (3, [.int 0, .ref z, .int 0])), (l5, .inr (3, [.int 0, .ref z, .int 0])), (l6, .inr (3, [.int 0, .ref z, .int 0])), (o2, .inl (cyD, 1, .inr (.inr (.inr (.inl (fun _ => 0)))))), (o1, .inl (cyL, 1, .inr (.inl ((fun _ => 0)))))]) := hD
    have hK : va_K G vwCl [(cyA, .int), (cyJ, .int), (cyT, .int), (cyO, .array .int), (cyI, .int), (cyL, .long), (cyD, .double), (cyL, .long)] s := hK
    refine W.widen (k := 136) (n := 2997) (Nat.le_of_ble_eq_true rfl) (Nat.le_of_ble_eq_true rfl) ?_
    obtain rfl : 1 = r_52 := hw_53.symm
    refine lv_istore (lv' := [(6, .int 1), (0, .ref b), (1, .ref x0), (2, .ref y0), (3, .ref o1), (4, .ref o2), (5, .int 0)]) hx hb dL_law_1010 hl (by decide) rfl (fun ls hl => ?_)
    refine lv_aload_n hx hb dL_law_1012 rfl (lv_at hl 3 rfl) ?_
    refine lv_aload_n hx hb dL_law_1013 rfl (lv_at hl 1 rfl) ?_
    refine lv_iload hx hb dL_law_1014 (lv_at hl 6 rfl) ?_
    refine lv_iconst (v := 1) hx hb dL_law_1016 (by decide) ?_
    refine lv_iadd hx hb dL_law_1017 ?_
    refine lv_topi (fun f_55 ef_55 => ?_)
    obtain rfl : f_55 = 1 := ef_55.trans (by decide)
    refine va_sld hx hb hX hbl hbA hS (by unfold vp_in; decide +kernel) dL_law_1018 ?_
    refine lv_topi (fun f_56 ef_56 => ?_)
    obtain rfl : f_56 = xs 1 := ef_56
    refine lv_aload_n hx hb dL_law_1019 rfl (lv_at hl 1 rfl) ?_
    refine lv_iload hx hb dL_law_1020 (lv_at hl 6 rfl) ?_
    refine lv_iconst (v := 2) hx hb dL_law_1022 (by decide) ?_
    refine lv_iadd hx hb dL_law_1023 ?_
    refine lv_topi (fun f_57 ef_57 => ?_)
    obtain rfl : f_57 = 2 := ef_57.trans (by decide)
    refine va_sld hx hb hX hbl hbA hS (by unfold vp_in; decide +kernel) dL_law_1024 ?_
    refine lv_topi (fun f_58 ef_58 => ?_)
    obtain rfl : f_58 = xs 2 := ef_58
    refine lv_if_eq (tgt := 1032) hx hb dL_law_1025 (by decide) (fun c_59 => ?_) (fun c_59 => ?_)
    · refine lv_iconst (v := 0) hx hb dL_law_1032 (by decide) ?_
      refine lv_aload_n hx hb dL_law_1033 rfl (lv_at hl 1 rfl) ?_
      refine lv_iload hx hb dL_law_1034 (lv_at hl 6 rfl) ?_
      refine lv_iconst (v := 3) hx hb dL_law_1036 (by decide) ?_
      refine lv_iadd hx hb dL_law_1037 ?_
      refine lv_topi (fun f_60 ef_60 => ?_)
      obtain rfl : f_60 = 3 := ef_60.trans (by decide)
      refine va_sld hx hb hX hbl hbA hS (by unfold vp_in; decide +kernel) dL_law_1038 ?_
      refine lv_topi (fun f_61 ef_61 => ?_)
      obtain rfl : f_61 = xs 3 := ef_61
      refine lv_aload_n hx hb dL_law_1039 rfl (lv_at hl 1 rfl) ?_
      refine lv_iload hx hb dL_law_1040 (lv_at hl 6 rfl) ?_
      refine lv_iconst (v := 4) hx hb dL_law_1042 (by decide) ?_
      refine lv_iadd hx hb dL_law_1043 ?_
      refine lv_topi (fun f_62 ef_62 => ?_)
      obtain rfl : f_62 = 4 := ef_62.trans (by decide)
      refine va_sld hx hb hX hbl hbA hS (by unfold vp_in; decide +kernel) dL_law_1044 ?_
      refine lv_topi (fun f_63 ef_63 => ?_)
      obtain rfl : f_63 = xs 4 := ef_63
      have hPc := hP.sub (ws' := [(y0, .inr (18, [.int 0, .ref l1, .ref l2, .ref l3, .ref l4, .ref l5, .ref l6, .int 0, .int 3, .int 12, .ref m1, .ref m2, .ref m3, .ref m4, .ref m5, .ref m6])), (l1, .inr (3, [.int 0, .ref z, .int 0]))]) [11, 12] rfl
      have hKc := hK.sub (tys' := []) [] rfl
      have hDc := hD.sub (ws' := [(y0, .inr (18, [.int 0, .ref l1, .ref l2, .ref l3, .ref l4, .ref l5, .ref l6, .int 0, .int 3, .int 12, .ref m1, .ref m2, .ref m3, .ref m4, .ref m5, .ref m6])), (l1, .inr (3, [.int 0, .ref z, .int 0]))]) [11, 12] (by decide) rfl
      have hFc := va_free (wc := [(y0, .inr (18, [.int 0, .ref l1, .ref l2, .ref l3, .ref l4, .ref l5, .ref l6, .int 0, .int 3, .int 12, .ref m1, .ref m2, .ref m3, .ref m4, .ref m5, .ref m6])), (l1, .inr (3, [.int 0, .ref z, .int 0]))]) hD hS hA [11, 12] rfl
      refine va_calli (va_runV (As := [.int (xs 1), .int 0, .int (xs 3), .int (xs 4)]) (rest := []) ⟨hx, hb, hml, hown, hts⟩ (k_X14_make l G z y0 0 l1 l2 l3 l4 l5 l6 3 12 m1 m2 m3 m4 m5 m6 0 z ((xs 1)) 0 ((xs 3)) ((xs 4)) H_51.size ) (cwV 4 hts (lw_goodApp (lw_4 q1429 q1430 q1431 q7) q1432) rfl rfl rfl (by decide +kernel) ⟨Nat.le_of_ble_eq_true rfl, Nat.le_of_ble_eq_true rfl⟩) ⟨PW.blind, va_recv hK hP (ci := 18) (q0 := 11) rfl rfl, PW.of hPc hKc hDc hG hS hFc [.ref y0, .int (xs 1), .int 0, .int (xs 3), .int (xs 4)]⟩ rfl rfl hl.1 rfl (lv_room (Nat.le_of_ble_eq_true rfl)) dL_law_1045 ⟨Nat.le_of_ble_eq_true rfl, Nat.le_of_ble_eq_true rfl⟩) hS (fun q _ h => hFc q h) hFc (fun r_65 u t_67 H_64 locs ht hvm hw_66 hB hz1 hk1 hS => ?_)
      obtain ⟨hP, hD, hK⟩ := QW.join (wr := [(a2, .inr (3, [.int 0, .ref z, .int 0])), (a3, .inr (3, [.int 0, .ref z, .int 0])), (a4, .inr (3, [.int 0, .ref z, .int 0])), (a5, .inr (3, [.int 0, .ref z, .int 0])), (a6, .inr (10, [.ref b1, .ref b2, .ref b3, .int 0])), (b1, .inl (cyA, 400, .inl (nI))), (b2, .inl (cyJ, 512, .inl (fun _ => 0))), (b3, .inl (cyT, 400, .inl (fun _ => 0))), (a7, .inr (4, [.ref d1, .ref d2, .ref d3, .ref d4, .int 0, .int 12])), (d4, .inl (cyO, 20, .inr (.inr (.inr (.inr (fS)))))), (r0, .inl (cyI, 20, .inl (fun _ => 0))), (l2, .inr (3, [.int 0, .ref z, .int 0])), (l3, .inr (3, [.int 0, .ref z, .int 0])), (l4, .inr (3, [.int 0, .ref z, .int 0])), (l5, .inr (3, [.int 0, .ref z, .int 0])), (l6, .inr (3, [.int 0, .ref z, .int 0])), (o2, .inl (cyD, 1, .inr (.inr (.inr (.inl (fun _ => 0)))))), (o1, .inl (cyL, 1, .inr (.inl ((fun _ => 0)))))]) (w1 := [(y0, .inr (18, [.int 1, .ref l1, .ref l2, .ref l3, .ref l4, .ref l5, .ref l6, .int 0, .int 3, .int 12, .ref m1, .ref m2, .ref m3, .ref m4, .ref m5, .ref m6]))]) hP hD hK [11, 12] [0, 1, 2, 3, 4, 5, 6, 7, 8, 9, 10, 13, 14, 15, 16, 17, 18, 19] rfl rfl (by decide) (by decide) hk1 hFc ht hvm hB
      have hP : va_P G vwCl ([(a2, .inr (3, [.int 0, .ref z, .int 0])), (a3, .inr (3, [.int 0, .ref z, .int 0])), (a4, .inr (3, [.int 0, .ref z, .int 0])), (a5, .inr (3, [.int 0, .ref z, .int 0])), (a6, .inr (10, [.ref b1, .ref b2, .ref b3, .int 0])), (b1, .inl (cyA, 400, .inl (nI))), (b2, .inl (cyJ, 512, .inl (fun _ => 0))), (b3, .inl (cyT, 400, .inl (fun _ => 0))), (a7, .inr (4, [.ref d1, .ref d2, .ref d3, .ref d4, .int 0, .int 12])), (d4, .inl (cyO, 20, .inr (.inr (.inr (.inr (fS)))))), (r0, .inl (cyI, 20, .inl (fun _ => 0))), (l2, .inr (3, [.int 0, .ref z, .int 0])), (l3, .inr (3, [.int 0, .ref z, .int 0])), (l4, .inr (3, [.int 0, .ref z, .int 0])), (l5, .inr (3, [.int 0, .ref z, .int 0])), (l6, .inr (3, [.int 0, .ref z, .int 0])), (o2, .inl (cyD, 1, .inr (.inr (.inr (.inl (fun _ => 0)))))), (o1, .inl (cyL, 1, .inr (.inl ((fun _ => 0))))), (y0, .inr (18, [.int 1, .ref l1, .ref l2, .ref l3, .ref l4, .ref l5, .ref l6, .int 0, .int 3, .int 12, .ref m1, .ref m2, .ref m3, .ref m4, .ref m5, .ref m6]))]) H_64 := hP
      have hD : va_D A ([(a2, .inr (3, [.int 0, .ref z, .int 0])), (a3, .inr (3, [.int 0, .ref z, .int 0])), (a4, .inr (3, [.int 0, .ref z, .int 0])), (a5, .inr (3, [.int 0, .ref z, .int 0])), (a6, .inr (10, [.ref b1, .ref b2, .ref b3, .int 0])), (b1, .inl (cyA, 400, .inl (nI))), (b2, .inl (cyJ, 512, .inl (fun _ => 0))), (b3, .inl (cyT, 400, .inl (fun _ => 0))), (a7, .inr (4, [.ref d1, .ref d2, .ref d3, .ref d4, .int 0, .int 12])), (d4, .inl (cyO, 20, .inr (.inr (.inr (.inr (fS)))))), (r0, .inl (cyI, 20, .inl (fun _ => 0))), (l2, .inr (3, [.int 0, .ref z, .int 0])), (l3, .inr (3, [.int 0, .ref z, .int 0])), (l4, .inr (3, [.int 0, .ref z, .int 0])), (l5, .inr (3, [.int 0, .ref z, .int 0])), (l6, .inr (3, [.int 0, .ref z, .int 0])), (o2, .inl (cyD, 1, .inr (.inr (.inr (.inl (fun _ => 0)))))), (o1, .inl (cyL, 1, .inr (.inl ((fun _ => 0))))), (y0, .inr (18, [.int 1, .ref l1, .ref l2, .ref l3, .ref l4, .ref l5, .ref l6, .int 0, .int 3, .int 12, .ref m1, .ref m2, .ref m3, .ref m4, .ref m5, .ref m6]))]) := hD
      have hK : va_K G vwCl [(cyA, .int), (cyJ, .int), (cyT, .int), (cyO, .array .int), (cyI, .int), (cyL, .long), (cyD, .double), (cyL, .long)] s := hK
      refine W.widen (k := 136) (n := 2997) (Nat.le_of_ble_eq_true rfl) (Nat.le_of_ble_eq_true rfl) ?_
      refine lv_istore (lv' := [(7, .int r_65), (6, .int 1), (0, .ref b), (1, .ref x0), (2, .ref y0), (3, .ref o1), (4, .ref o2), (5, .int 0)]) hx hb dL_law_1048 hl (by decide) rfl (fun ls hl => ?_)
      refine lv_aload_n hx hb dL_law_1050 rfl (lv_at hl 4 rfl) ?_
      have hPc := hP.sub (ws' := [(y0, .inr (18, [.int 1, .ref l1, .ref l2, .ref l3, .ref l4, .ref l5, .ref l6, .int 0, .int 3, .int 12, .ref m1, .ref m2, .ref m3, .ref m4, .ref m5, .ref m6]))]) [18] rfl
      have hKc := hK.sub (tys' := []) [] rfl
      refine va_calli (va_runV (As := []) (rest := []) ⟨hx, hb, hml, hown, hts⟩ (k_X14_thrown l G z y0 1 l1 l2 l3 l4 l5 l6 3 12 m1 m2 m3 m4 m5 m6 H_64.size ) (cwV 0 hts (lw_goodApp (lw_4 q1236 q1237 q1238 q7) q1239) rfl rfl rfl (by decide +kernel) ⟨Nat.le_of_ble_eq_true rfl, Nat.le_of_ble_eq_true rfl⟩) ⟨PR.blind, va_recv hK hP (ci := 18) (q0 := 18) rfl rfl, PR.of hPc hKc hG hS hA [.ref y0]⟩ rfl rfl hl.1 rfl (lv_room (Nat.le_of_ble_eq_true rfl)) dL_law_1051 ⟨Nat.le_of_ble_eq_true rfl, Nat.le_of_ble_eq_true rfl⟩) hS (fun q h9 h => zN.not h9 h) (fun q h => hA q (Nat.le_trans hS.1 h)) (fun r_69 u t_71 H_68 locs ht hvm hw_70 hB hz1 hk1 hS => ?_)
      have hP := hP.grown hk1
      refine W.widen (k := 136) (n := 2997) (Nat.le_of_ble_eq_true rfl) (Nat.le_of_ble_eq_true rfl) ?_
      obtain rfl : 1 = r_69 := hw_70.symm
      refine lv_iload hx hb dL_law_1054 (lv_at hl 1 rfl) ?_
      refine lv_icmp_eq (tgt := 1061) hx hb dL_law_1056 (by decide) (fun c_72 => ?_) (fun c_72 => absurd rfl c_72)
      refine lv_iload hx hb dL_law_1061 (lv_at hl 1 rfl) ?_
      refine lv_if_ne (tgt := 1078) hx hb dL_law_1063 (by decide) (fun c_73 => ?_) (fun c_73 => absurd c_73 (by decide))
      refine lv_goto (tgt := 3288) hx hb dL_law_1078 (by decide) ?_
      exact law_tail hfl C0 hA hA2 hS (lv_sub hl [2, 7] rfl) (Nat.le_of_ble_eq_true rfl) (Nat.le_of_ble_eq_true rfl)
    · refine lv_iconst (v := 1) hx hb dL_law_1028 (by decide) ?_
      refine lv_goto (tgt := 1033) hx hb dL_law_1029 (by decide) ?_
      refine lv_aload_n hx hb dL_law_1033 rfl (lv_at hl 1 rfl) ?_
      refine lv_iload hx hb dL_law_1034 (lv_at hl 6 rfl) ?_
      refine lv_iconst (v := 3) hx hb dL_law_1036 (by decide) ?_
      refine lv_iadd hx hb dL_law_1037 ?_
      refine lv_topi (fun f_74 ef_74 => ?_)
      obtain rfl : f_74 = 3 := ef_74.trans (by decide)
      refine va_sld hx hb hX hbl hbA hS (by unfold vp_in; decide +kernel) dL_law_1038 ?_
      refine lv_topi (fun f_75 ef_75 => ?_)
      obtain rfl : f_75 = xs 3 := ef_75
      refine lv_aload_n hx hb dL_law_1039 rfl (lv_at hl 1 rfl) ?_
      refine lv_iload hx hb dL_law_1040 (lv_at hl 6 rfl) ?_
      refine lv_iconst (v := 4) hx hb dL_law_1042 (by decide) ?_
      refine lv_iadd hx hb dL_law_1043 ?_
      refine lv_topi (fun f_76 ef_76 => ?_)
      obtain rfl : f_76 = 4 := ef_76.trans (by decide)
      refine va_sld hx hb hX hbl hbA hS (by unfold vp_in; decide +kernel) dL_law_1044 ?_
      refine lv_topi (fun f_77 ef_77 => ?_)
      obtain rfl : f_77 = xs 4 := ef_77
      have hPc := hP.sub (ws' := [(y0, .inr (18, [.int 0, .ref l1, .ref l2, .ref l3, .ref l4, .ref l5, .ref l6, .int 0, .int 3, .int 12, .ref m1, .ref m2, .ref m3, .ref m4, .ref m5, .ref m6])), (l1, .inr (3, [.int 0, .ref z, .int 0]))]) [11, 12] rfl
      have hKc := hK.sub (tys' := []) [] rfl
      have hDc := hD.sub (ws' := [(y0, .inr (18, [.int 0, .ref l1, .ref l2, .ref l3, .ref l4, .ref l5, .ref l6, .int 0, .int 3, .int 12, .ref m1, .ref m2, .ref m3, .ref m4, .ref m5, .ref m6])), (l1, .inr (3, [.int 0, .ref z, .int 0]))]) [11, 12] (by decide) rfl
      have hFc := va_free (wc := [(y0, .inr (18, [.int 0, .ref l1, .ref l2, .ref l3, .ref l4, .ref l5, .ref l6, .int 0, .int 3, .int 12, .ref m1, .ref m2, .ref m3, .ref m4, .ref m5, .ref m6])), (l1, .inr (3, [.int 0, .ref z, .int 0]))]) hD hS hA [11, 12] rfl
      refine va_calli (va_runV (As := [.int (xs 1), .int 1, .int (xs 3), .int (xs 4)]) (rest := []) ⟨hx, hb, hml, hown, hts⟩ (k_X14_make l G z y0 0 l1 l2 l3 l4 l5 l6 3 12 m1 m2 m3 m4 m5 m6 0 z ((xs 1)) 1 ((xs 3)) ((xs 4)) H_51.size ) (cwV 4 hts (lw_goodApp (lw_4 q1429 q1430 q1431 q7) q1432) rfl rfl rfl (by decide +kernel) ⟨Nat.le_of_ble_eq_true rfl, Nat.le_of_ble_eq_true rfl⟩) ⟨PW.blind, va_recv hK hP (ci := 18) (q0 := 11) rfl rfl, PW.of hPc hKc hDc hG hS hFc [.ref y0, .int (xs 1), .int 1, .int (xs 3), .int (xs 4)]⟩ rfl rfl hl.1 rfl (lv_room (Nat.le_of_ble_eq_true rfl)) dL_law_1045 ⟨Nat.le_of_ble_eq_true rfl, Nat.le_of_ble_eq_true rfl⟩) hS (fun q _ h => hFc q h) hFc (fun r_79 u t_81 H_78 locs ht hvm hw_80 hB hz1 hk1 hS => ?_)
      obtain ⟨hP, hD, hK⟩ := QW.join (wr := [(a2, .inr (3, [.int 0, .ref z, .int 0])), (a3, .inr (3, [.int 0, .ref z, .int 0])), (a4, .inr (3, [.int 0, .ref z, .int 0])), (a5, .inr (3, [.int 0, .ref z, .int 0])), (a6, .inr (10, [.ref b1, .ref b2, .ref b3, .int 0])), (b1, .inl (cyA, 400, .inl (nI))), (b2, .inl (cyJ, 512, .inl (fun _ => 0))), (b3, .inl (cyT, 400, .inl (fun _ => 0))), (a7, .inr (4, [.ref d1, .ref d2, .ref d3, .ref d4, .int 0, .int 12])), (d4, .inl (cyO, 20, .inr (.inr (.inr (.inr (fS)))))), (r0, .inl (cyI, 20, .inl (fun _ => 0))), (l2, .inr (3, [.int 0, .ref z, .int 0])), (l3, .inr (3, [.int 0, .ref z, .int 0])), (l4, .inr (3, [.int 0, .ref z, .int 0])), (l5, .inr (3, [.int 0, .ref z, .int 0])), (l6, .inr (3, [.int 0, .ref z, .int 0])), (o2, .inl (cyD, 1, .inr (.inr (.inr (.inl (fun _ => 0)))))), (o1, .inl (cyL, 1, .inr (.inl ((fun _ => 0)))))]) (w1 := [(y0, .inr (18, [.int 1, .ref l1, .ref l2, .ref l3, .ref l4, .ref l5, .ref l6, .int 0, .int 3, .int 12, .ref m1, .ref m2, .ref m3, .ref m4, .ref m5, .ref m6]))]) hP hD hK [11, 12] [0, 1, 2, 3, 4, 5, 6, 7, 8, 9, 10, 13, 14, 15, 16, 17, 18, 19] rfl rfl (by decide) (by decide) hk1 hFc ht hvm hB
      have hP : va_P G vwCl ([(a2, .inr (3, [.int 0, .ref z, .int 0])), (a3, .inr (3, [.int 0, .ref z, .int 0])), (a4, .inr (3, [.int 0, .ref z, .int 0])), (a5, .inr (3, [.int 0, .ref z, .int 0])), (a6, .inr (10, [.ref b1, .ref b2, .ref b3, .int 0])), (b1, .inl (cyA, 400, .inl (nI))), (b2, .inl (cyJ, 512, .inl (fun _ => 0))), (b3, .inl (cyT, 400, .inl (fun _ => 0))), (a7, .inr (4, [.ref d1, .ref d2, .ref d3, .ref d4, .int 0, .int 12])), (d4, .inl (cyO, 20, .inr (.inr (.inr (.inr (fS)))))), (r0, .inl (cyI, 20, .inl (fun _ => 0))), (l2, .inr (3, [.int 0, .ref z, .int 0])), (l3, .inr (3, [.int 0, .ref z, .int 0])), (l4, .inr (3, [.int 0, .ref z, .int 0])), (l5, .inr (3, [.int 0, .ref z, .int 0])), (l6, .inr (3, [.int 0, .ref z, .int 0])), (o2, .inl (cyD, 1, .inr (.inr (.inr (.inl (fun _ => 0)))))), (o1, .inl (cyL, 1, .inr (.inl ((fun _ => 0))))), (y0, .inr (18, [.int 1, .ref l1, .ref l2, .ref l3, .ref l4, .ref l5, .ref l6, .int 0, .int 3, .int 12, .ref m1, .ref m2, .ref m3, .ref m4, .ref m5, .ref m6]))]) H_78 := hP
      have hD : va_D A ([(a2, .inr (3, [.int 0, .ref z, .int 0])), (a3, .inr (3, [.int 0, .ref z, .int 0])), (a4, .inr (3, [.int 0, .ref z, .int 0])), (a5, .inr (3, [.int 0, .ref z, .int 0])), (a6, .inr (10, [.ref b1, .ref b2, .ref b3, .int 0])), (b1, .inl (cyA, 400, .inl (nI))), (b2, .inl (cyJ, 512, .inl (fun _ => 0))), (b3, .inl (cyT, 400, .inl (fun _ => 0))), (a7, .inr (4, [.ref d1, .ref d2, .ref d3, .ref d4, .int 0, .int 12])), (d4, .inl (cyO, 20, .inr (.inr (.inr (.inr (fS)))))), (r0, .inl (cyI, 20, .inl (fun _ => 0))), (l2, .inr (3, [.int 0, .ref z, .int 0])), (l3, .inr (3, [.int 0, .ref z, .int 0])), (l4, .inr (3, [.int 0, .ref z, .int 0])), (l5, .inr (3, [.int 0, .ref z, .int 0])), (l6, .inr (3, [.int 0, .ref z, .int 0])), (o2, .inl (cyD, 1, .inr (.inr (.inr (.inl (fun _ => 0)))))), (o1, .inl (cyL, 1, .inr (.inl ((fun _ => 0))))), (y0, .inr (18, [.int 1, .ref l1, .ref l2, .ref l3, .ref l4, .ref l5, .ref l6, .int 0, .int 3, .int 12, .ref m1, .ref m2, .ref m3, .ref m4, .ref m5, .ref m6]))]) := hD
      have hK : va_K G vwCl [(cyA, .int), (cyJ, .int), (cyT, .int), (cyO, .array .int), (cyI, .int), (cyL, .long), (cyD, .double), (cyL, .long)] s := hK
      refine W.widen (k := 136) (n := 2997) (Nat.le_of_ble_eq_true rfl) (Nat.le_of_ble_eq_true rfl) ?_
      refine lv_istore (lv' := [(7, .int r_79), (6, .int 1), (0, .ref b), (1, .ref x0), (2, .ref y0), (3, .ref o1), (4, .ref o2), (5, .int 0)]) hx hb dL_law_1048 hl (by decide) rfl (fun ls hl => ?_)
      refine lv_aload_n hx hb dL_law_1050 rfl (lv_at hl 4 rfl) ?_
      have hPc := hP.sub (ws' := [(y0, .inr (18, [.int 1, .ref l1, .ref l2, .ref l3, .ref l4, .ref l5, .ref l6, .int 0, .int 3, .int 12, .ref m1, .ref m2, .ref m3, .ref m4, .ref m5, .ref m6]))]) [18] rfl
      have hKc := hK.sub (tys' := []) [] rfl
      refine va_calli (va_runV (As := []) (rest := []) ⟨hx, hb, hml, hown, hts⟩ (k_X14_thrown l G z y0 1 l1 l2 l3 l4 l5 l6 3 12 m1 m2 m3 m4 m5 m6 H_78.size ) (cwV 0 hts (lw_goodApp (lw_4 q1236 q1237 q1238 q7) q1239) rfl rfl rfl (by decide +kernel) ⟨Nat.le_of_ble_eq_true rfl, Nat.le_of_ble_eq_true rfl⟩) ⟨PR.blind, va_recv hK hP (ci := 18) (q0 := 18) rfl rfl, PR.of hPc hKc hG hS hA [.ref y0]⟩ rfl rfl hl.1 rfl (lv_room (Nat.le_of_ble_eq_true rfl)) dL_law_1051 ⟨Nat.le_of_ble_eq_true rfl, Nat.le_of_ble_eq_true rfl⟩) hS (fun q h9 h => zN.not h9 h) (fun q h => hA q (Nat.le_trans hS.1 h)) (fun r_83 u t_85 H_82 locs ht hvm hw_84 hB hz1 hk1 hS => ?_)
      have hP := hP.grown hk1
      refine W.widen (k := 136) (n := 2997) (Nat.le_of_ble_eq_true rfl) (Nat.le_of_ble_eq_true rfl) ?_
      obtain rfl : 1 = r_83 := hw_84.symm
      refine lv_iload hx hb dL_law_1054 (lv_at hl 1 rfl) ?_
      refine lv_icmp_eq (tgt := 1061) hx hb dL_law_1056 (by decide) (fun c_86 => ?_) (fun c_86 => absurd rfl c_86)
      refine lv_iload hx hb dL_law_1061 (lv_at hl 1 rfl) ?_
      refine lv_if_ne (tgt := 1078) hx hb dL_law_1063 (by decide) (fun c_87 => ?_) (fun c_87 => absurd c_87 (by decide))
      refine lv_goto (tgt := 3288) hx hb dL_law_1078 (by decide) ?_
      exact law_tail hfl C0 hA hA2 hS (lv_sub hl [2, 7] rfl) (Nat.le_of_ble_eq_true rfl) (Nat.le_of_ble_eq_true rfl)
set_option maxHeartbeats 8000000 in
set_option maxRecDepth 100000 in
/-- script value 10 -/
theorem law_case_10 {p : Program} {l : Launch} {e : Env} {s : State} {m : MethodId} {below : List Frame} {meth : Method} {c : Code} {b : Nat} {xs : Nat → Int32} (hfl : l.stackTraces = false) (C0 : lw_At p s m meth c b 7 xs) {A : Nat → Prop} (hA : ∀ q : Nat, s.heap.size ≤ q → A q) (hA2 : ∀ q : Nat, A q → s.heap.size ≤ q) (G : va_G) (z : Nat) (hG : zG z A s s.heap) (x0 : Nat) (y0 : Nat) (o1 : Nat) (o2 : Nat) (cyL : ClassId) (cyD : ClassId) (a1 : Nat) (a2 : Nat) (a3 : Nat) (a4 : Nat) (a5 : Nat) (a6 : Nat) (a7 : Nat) (a8 : Nat) (b1 : Nat) (b2 : Nat) (b3 : Nat) (cyA : ClassId) (cyJ : ClassId) (cyT : ClassId) (d1 : Nat) (d2 : Nat) (d3 : Nat) (d4 : Nat) (cyO : ClassId) (fS : Nat → Option Nat) (cyI : ClassId) (r0 : Nat) (l1 : Nat) (l2 : Nat) (l3 : Nat) (l4 : Nat) (l5 : Nat) (l6 : Nat) (m1 : Nat) (m2 : Nat) (m3 : Nat) (m4 : Nat) (m5 : Nat) (m6 : Nat) (hf0 : fS 0 = some r0) {H : Heap} {locs : List Loc} (hP : va_P G vwCl ([(x0, .inr (12, [.ref a1, .ref a2, .ref a3, .ref a4, .ref a5, .ref a6, .ref a7, .ref a8, .int 3, .int 0])), (a1, .inr (3, [.int 0, .ref z, .int 0])), (a2, .inr (3, [.int 0, .ref z, .int 0])), (a3, .inr (3, [.int 0, .ref z, .int 0])), (a4, .inr (3, [.int 0, .ref z, .int 0])), (a5, .inr (3, [.int 0, .ref z, .int 0])), (a6, .inr (10, [.ref b1, .ref b2, .ref b3, .int 0])), (b1, .inl (cyA, 400, .inl (nI))), (b2, .inl (cyJ, 512, .inl (fun _ => 0))), (b3, .inl (cyT, 400, .inl (fun _ => 0))), (a7, .inr (4, [.ref d1, .ref d2, .ref d3, .ref d4, .int 0, .int 12])), (d4, .inl (cyO, 20, .inr (.inr (.inr (.inr (fS)))))), (r0, .inl (cyI, 20, .inl (fun _ => 0))), (y0, .inr (18, [.int 0, .ref l1, .ref l2, .ref l3, .ref l4, .ref l5, .ref l6, .int 0, .int 3, .int 12, .ref m1, .ref m2, .ref m3, .ref m4, .ref m5, .ref m6])), (l1, .inr (3, [.int 0, .ref z, .int 0])), (l2, .inr (3, [.int 0, .ref z, .int 0])), (l3, .inr (3, [.int 0, .ref z, .int 0])), (l4, .inr (3, [.int 0, .ref z, .int 0])), (l5, .inr (3, [.int 0, .ref z, .int 0])), (l6, .inr (3, [.int 0, .ref z, .int 0])), (o1, .inl (cyL, 1, .inr (.inl (fun _ => 0)))), (o2, .inl (cyD, 1, .inr (.inr (.inr (.inl (fun _ => 0))))))]) H) (hD : va_D A ([(x0, .inr (12, [.ref a1, .ref a2, .ref a3, .ref a4, .ref a5, .ref a6, .ref a7, .ref a8, .int 3, .int 0])), (a1, .inr (3, [.int 0, .ref z, .int 0])), (a2, .inr (3, [.int 0, .ref z, .int 0])), (a3, .inr (3, [.int 0, .ref z, .int 0])), (a4, .inr (3, [.int 0, .ref z, .int 0])), (a5, .inr (3, [.int 0, .ref z, .int 0])), (a6, .inr (10, [.ref b1, .ref b2, .ref b3, .int 0])), (b1, .inl (cyA, 400, .inl (nI))), (b2, .inl (cyJ, 512, .inl (fun _ => 0))), (b3, .inl (cyT, 400, .inl (fun _ => 0))), (a7, .inr (4, [.ref d1, .ref d2, .ref d3, .ref d4, .int 0, .int 12])), (d4, .inl (cyO, 20, .inr (.inr (.inr (.inr (fS)))))), (r0, .inl (cyI, 20, .inl (fun _ => 0))), (y0, .inr (18, [.int 0, .ref l1, .ref l2, .ref l3, .ref l4, .ref l5, .ref l6, .int 0, .int 3, .int 12, .ref m1, .ref m2, .ref m3, .ref m4, .ref m5, .ref m6])), (l1, .inr (3, [.int 0, .ref z, .int 0])), (l2, .inr (3, [.int 0, .ref z, .int 0])), (l3, .inr (3, [.int 0, .ref z, .int 0])), (l4, .inr (3, [.int 0, .ref z, .int 0])), (l5, .inr (3, [.int 0, .ref z, .int 0])), (l6, .inr (3, [.int 0, .ref z, .int 0])), (o1, .inl (cyL, 1, .inr (.inl (fun _ => 0)))), (o2, .inl (cyD, 1, .inr (.inr (.inr (.inl (fun _ => 0))))))])) (hK : va_K G vwCl [(cyA, .int), (cyJ, .int), (cyT, .int), (cyO, .array .int), (cyI, .int), (cyL, .long), (cyD, .double)] s) (hS : va_S A s.heap H locs) {ls : Array Slot} (hl : lv_has ls 9 [(0, .ref b), (1, .ref x0), (2, .ref y0), (3, .ref o1), (4, .ref o2), (5, .int 0)]) : W p l e room_1 s m #[Value.ref b] below meth c H locs 135 2991 (lw_Z below #[Value.ref b] s) (F0 m 1081 ls []) := by
  have C9 := C0
  obtain ⟨hx, hb, hr, hml, hown, hts0, hX, hbl, hlocks, hgv⟩ := id C0
  have hg := lw_sub_good hts0
  have hts : ∀ w ∈ (lw_hd :: lw_good), w.before #[Value.ref b] s = true := fun w h => (List.mem_cons.mp h).elim (fun e9 => e9 ▸ hg _ q0) (hg w)
  have hbA : ¬ A b := fun h => Nat.not_le.mpr hbl (hA2 b h)
  refine lv_aload_n hx hb dL_law_1081 rfl (lv_at hl 1 rfl) ?_
  refine lv_aload_n hx hb dL_law_1082 rfl (lv_at hl 0 rfl) ?_
  refine lv_iload hx hb dL_law_1083 (lv_at hl 5 rfl) ?_
  refine lv_iconst (v := 1) hx hb dL_law_1085 (by decide) ?_
  refine lv_iadd hx hb dL_law_1086 ?_
  refine lv_topi (fun f_1 ef_1 => ?_)
  obtain rfl : f_1 = 1 := ef_1.trans (by decide)
  refine va_sld hx hb hX hbl hbA hS (by unfold vp_in; decide +kernel) dL_law_1087 ?_
  refine lv_topi (fun f_2 ef_2 => ?_)
  obtain rfl : f_2 = xs 1 := ef_2
  refine lv_aload_n hx hb dL_law_1088 rfl (lv_at hl 3 rfl) ?_
  have hPc := hP.sub (ws' := [(x0, .inr (12, [.ref a1, .ref a2, .ref a3, .ref a4, .ref a5, .ref a6, .ref a7, .ref a8, .int 3, .int 0])), (a3, .inr (3, [.int 0, .ref z, .int 0])), (o1, .inl (cyL, 1, .inr (.inl (fun _ => 0))))]) [0, 3, 20] rfl
  have hKc := hK.sub (tys' := [(cyL, .long)]) [5] rfl
  have hDc := hD.sub (ws' := [(x0, .inr (12, [.ref a1, .ref a2, .ref a3, .ref a4, .ref a5, .ref a6, .ref a7, .ref a8, .int 3, .int 0])), (a3, .inr (3, [.int 0, .ref z, .int 0])), (o1, .inl (cyL, 1, .inr (.inl (fun _ => 0))))]) [0, 3, 20] (by decide) rfl
  have hFc := va_free (wc := [(x0, .inr (12, [.ref a1, .ref a2, .ref a3, .ref a4, .ref a5, .ref a6, .ref a7, .ref a8, .int 3, .int 0])), (a3, .inr (3, [.int 0, .ref z, .int 0])), (o1, .inl (cyL, 1, .inr (.inl (fun _ => 0))))]) hD hS hA [0, 3, 20] rfl
  refine va_calli (vx_runSW (As := [.ref x0, .int (xs 1), .ref o1]) (rest := []) ⟨hx, hb, hml, hown, hts⟩ (k_L_ream l hfl G z x0 a1 a2 a3 a4 a5 a6 a7 a8 3 0 0 ((xs 1)) o1 cyL (fun _ => 0) H.size ) (vx_cwSW 3 hts (lw_goodApp (lw_3 q730 q731 q0) q732) rfl rfl rfl (by decide +kernel) ⟨Nat.le_of_ble_eq_true rfl, Nat.le_of_ble_eq_true rfl⟩) ⟨PW.blind, PW.of hPc hKc hDc hG hS hFc [.ref x0, .int (xs 1), .ref o1]⟩ rfl rfl hl.1 rfl (lv_room (Nat.le_of_ble_eq_true rfl)) dL_law_1089 ⟨Nat.le_of_ble_eq_true rfl, Nat.le_of_ble_eq_true rfl⟩) hS (fun q _ h => hFc q h) hFc (fun r_5 u_3 t_7 H_4 locs ht hvm hw_6 hB hz1 hk1 hS => ?_)
  obtain ⟨hP, hD, hK⟩ := QW.join (wr := [(a1, .inr (3, [.int 0, .ref z, .int 0])), (a2, .inr (3, [.int 0, .ref z, .int 0])), (a4, .inr (3, [.int 0, .ref z, .int 0])), (a5, .inr (3, [.int 0, .ref z, .int 0])), (a6, .inr (10, [.ref b1, .ref b2, .ref b3, .int 0])), (b1, .inl (cyA, 400, .inl (nI))), (b2, .inl (cyJ, 512, .inl (fun _ => 0))), (b3, .inl (cyT, 400, .inl (fun _ => 0))), (a7, .inr (4, [.ref d1, .ref d2, .ref d3, .ref d4, .int 0, .int 12])), (d4, .inl (cyO, 20, .inr (.inr (.inr (.inr (fS)))))), (r0, .inl (cyI, 20, .inl (fun _ => 0))), (y0, .inr (18, [.int 0, .ref l1, .ref l2, .ref l3, .ref l4, .ref l5, .ref l6, .int 0, .int 3, .int 12, .ref m1, .ref m2, .ref m3, .ref m4, .ref m5, .ref m6])), (l1, .inr (3, [.int 0, .ref z, .int 0])), (l2, .inr (3, [.int 0, .ref z, .int 0])), (l3, .inr (3, [.int 0, .ref z, .int 0])), (l4, .inr (3, [.int 0, .ref z, .int 0])), (l5, .inr (3, [.int 0, .ref z, .int 0])), (l6, .inr (3, [.int 0, .ref z, .int 0])), (o2, .inl (cyD, 1, .inr (.inr (.inr (.inl (fun _ => 0))))))]) (w1 := [(o1, .inl (cyL, 1, .inr (.inl (u_3))))]) hP hD hK [0, 3, 20] [1, 2, 4, 5, 6, 7, 8, 9, 10, 11, 12, 13, 14, 15, 16, 17, 18, 19, 21] rfl rfl (by decide) (by decide) hk1 hFc ht hvm hB
  have hP : va_P G vwCl ([(a1, .inr (3, [.int 0, .ref z, .int 0])), (a2, .inr (3, [.int 0, .ref z, .int 0])), (a4, .inr (3, [.int 0, .ref z, .int 0])), (a5, .inr (3, [.int 0, .ref z, .int 0])), (a6, .inr (10, [.ref b1, .ref b2, .ref b3, .int 0])), (b1, .inl (cyA, 400, .inl (nI))), (b2, .inl (cyJ, 512, .inl (fun _ => 0))), (b3, .inl (cyT, 400, .inl (fun _ => 0))), (a7, .inr (4, [.ref d1, .ref d2, .ref d3, .ref d4, .int 0, .int 12])), (d4, .inl (cyO, 20, .inr (.inr (.inr (.inr (fS)))))), (r0, .inl (cyI, 20, .inl (fun _ => 0))), (y0, .inr (18, [.int 0, .ref l1, .ref l2, .ref l3, .ref l4, .ref l5, .ref l6, .int 0, .int 3, .int 12, .ref m1, .ref m2, .ref m3, .ref m4, .ref m5, .ref m6])), (l1, .inr (3, [.int 0, .ref z, .int 0])), (l2, .inr (3, [.int 0, .ref z, .int 0])), (l3, .inr (3, [.int 0, .ref z, .int 0])), (l4, .inr (3, [.int 0, .ref z, .int 0])), (l5, .inr (3, [.int 0, .ref z, .int 0])), (l6, .inr (3, [.int 0, .ref z, .int 0])), (o2, .inl (cyD, 1, .inr (.inr (.inr (.inl (fun _ => 0)))))), (o1, .inl (cyL, 1, .inr (.inl (u_3))))]) H_4 := hP
  have hD : va_D A ([(a1, .inr (3, [.int 0, .ref z, .int 0])), (a2, .inr (3, [.int 0, .ref z, .int 0])), (a4, .inr (3, [.int 0, .ref z, .int 0])), (a5, .inr (3, [.int 0, .ref z, .int 0])), (a6, .inr (10, [.ref b1, .ref b2, .ref b3, .int 0])), (b1, .inl (cyA, 400, .inl (nI))), (b2, .inl (cyJ, 512, .inl (fun _ => 0))), (b3, .inl (cyT, 400, .inl (fun _ => 0))), (a7, .inr (4, [.ref d1, .ref d2, .ref d3, .ref d4, .int 0, .int 12])), (d4, .inl (cyO, 20, .inr (.inr (.inr (.inr (fS)))))), (r0, .inl (cyI, 20, .inl (fun _ => 0))), (y0, .inr (18, [.int 0, .ref l1, .ref l2, .ref l3, .ref l4, .ref l5, .ref l6, .int 0, .int 3, .int 12, .ref m1, .ref m2, .ref m3, .ref m4, .ref m5, .ref m6])), (l1, .inr (3, [.int 0, .ref z, .int 0])), (l2, .inr (3, [.int 0, .ref z, .int 0])), (l3, .inr (3, [.int 0, .ref z, .int 0])), (l4, .inr (3, [.int 0, .ref z, .int 0])), (l5, .inr (3, [.int 0, .ref z, .int 0])), (l6, .inr (3, [.int 0, .ref z, .int 0])), (o2, .inl (cyD, 1, .inr (.inr (.inr (.inl (fun _ => 0)))))), (o1, .inl (cyL, 1, .inr (.inl (u_3))))]) := hD
  have hK : va_K G vwCl [(cyA, .int), (cyJ, .int), (cyT, .int), (cyO, .array .int), (cyI, .int), (cyL, .long), (cyD, .double), (cyL, .long)] s := hK
  refine W.widen (k := 140) (n := 4016) (Nat.le_of_ble_eq_true rfl) (Nat.le_of_ble_eq_true rfl) ?_
  rcases hw_6 with ⟨hφ, rfl, hu⟩ | ⟨hφ, rfl⟩
  · refine lv_istore (lv' := [(6, .int 0), (0, .ref b), (1, .ref x0), (2, .ref y0), (3, .ref o1), (4, .ref o2), (5, .int 0)]) hx hb dL_law_1092 hl (by decide) rfl (fun ls hl => ?_)
    refine lv_aload_n hx hb dL_law_1094 rfl (lv_at hl 3 rfl) ?_
    refine lv_aload_n hx hb dL_law_1095 rfl (lv_at hl 1 rfl) ?_
    refine lv_iload hx hb dL_law_1096 (lv_at hl 6 rfl) ?_
    refine lv_iconst (v := 1) hx hb dL_law_1098 (by decide) ?_
    refine lv_iadd hx hb dL_law_1099 ?_
    refine lv_topi (fun f_8 ef_8 => ?_)
    obtain rfl : f_8 = 1 := ef_8.trans (by decide)
    refine va_sld hx hb hX hbl hbA hS (by unfold vp_in; decide +kernel) dL_law_1100 ?_
    refine lv_topi (fun f_9 ef_9 => ?_)
    obtain rfl : f_9 = xs 1 := ef_9
    have hPc := hP.sub (ws' := [(y0, .inr (18, [.int 0, .ref l1, .ref l2, .ref l3, .ref l4, .ref l5, .ref l6, .int 0, .int 3, .int 12, .ref m1, .ref m2, .ref m3, .ref m4, .ref m5, .ref m6])), (l3, .inr (3, [.int 0, .ref z, .int 0]))]) [11, 14] rfl
    have hKc := hK.sub (tys' := []) [] rfl
    have hDc := hD.sub (ws' := [(y0, .inr (18, [.int 0, .ref l1, .ref l2, .ref l3, .ref l4, .ref l5, .ref l6, .int 0, .int 3, .int 12, .ref m1, .ref m2, .ref m3, .ref m4, .ref m5, .ref m6])), (l3, .inr (3, [.int 0, .ref z, .int 0]))]) [11, 14] (by decide) rfl
    have hFc := va_free (wc := [(y0, .inr (18, [.int 0, .ref l1, .ref l2, .ref l3, .ref l4, .ref l5, .ref l6, .int 0, .int 3, .int 12, .ref m1, .ref m2, .ref m3, .ref m4, .ref m5, .ref m6])), (l3, .inr (3, [.int 0, .ref z, .int 0]))]) hD hS hA [11, 14] rfl
    refine va_calli (va_runV (As := [.int (xs 1)]) (rest := []) ⟨hx, hb, hml, hown, hts⟩ (k_X14_ream l G z y0 0 l1 l2 l3 l4 l5 l6 3 12 m1 m2 m3 m4 m5 m6 0 ((xs 1)) H_4.size ) (cwV 1 hts (lw_goodApp (lw_4 q1454 q1455 q1456 q7) q1457) rfl rfl rfl (by decide +kernel) ⟨Nat.le_of_ble_eq_true rfl, Nat.le_of_ble_eq_true rfl⟩) ⟨PW.blind, va_recv hK hP (ci := 18) (q0 := 11) rfl rfl, PW.of hPc hKc hDc hG hS hFc [.ref y0, .int (xs 1)]⟩ rfl rfl hl.1 rfl (lv_room (Nat.le_of_ble_eq_true rfl)) dL_law_1101 ⟨Nat.le_of_ble_eq_true rfl, Nat.le_of_ble_eq_true rfl⟩) hS (fun q _ h => hFc q h) hFc (fun r_11 u t_13 H_10 locs ht hvm hw_12 hB hz1 hk1 hS => ?_)
    obtain ⟨th1_14, hf_15, hB⟩ := hB
    obtain ⟨hP, hD, hK⟩ := QW.join (wr := [(a1, .inr (3, [.int 0, .ref z, .int 0])), (a2, .inr (3, [.int 0, .ref z, .int 0])), (a4, .inr (3, [.int 0, .ref z, .int 0])), (a5, .inr (3, [.int 0, .ref z, .int 0])), (a6, .inr (10, [.ref b1, .ref b2, .ref b3, .int 0])), (b1, .inl (cyA, 400, .inl (nI))), (b2, .inl (cyJ, 512, .inl (fun _ => 0))), (b3, .inl (cyT, 400, .inl (fun _ => 0))), (a7, .inr (4, [.ref d1, .ref d2, .ref d3, .ref d4, .int 0, .int 12])), (d4, .inl (cyO, 20, .inr (.inr (.inr (.inr (fS)))))), (r0, .inl (cyI, 20, .inl (fun _ => 0))), (l1, .inr (3, [.int 0, .ref z, .int 0])), (l2, .inr (3, [.int 0, .ref z, .int 0])), (l4, .inr (3, [.int 0, .ref z, .int 0])), (l5, .inr (3, [.int 0, .ref z, .int 0])), (l6, .inr (3, [.int 0, .ref z, .int 0])), (o2, .inl (cyD, 1, .inr (.inr (.inr (.inl (fun _ => 0)))))), (o1, .inl (cyL, 1, .inr (.inl (u_3))))]) (w1 := [(y0, .inr (18, [.int th1_14, .ref l1, .ref l2, .ref l3, .ref l4, .ref l5, .ref l6, .int 0, .int 3, .int 12, .ref m1, .ref m2, .ref m3, .ref m4, .ref m5, .ref m6]))]) hP hD hK [11, 14] [0, 1, 2, 3, 4, 5, 6, 7, 8, 9, 10, 12, 13, 15, 16, 17, 18, 19] rfl rfl (by decide) (by decide) hk1 hFc ht hvm hB
    have hP : va_P G vwCl ([(a1, .inr (3, [.int 0, .ref z, .int 0])), (a2, .inr (3, [.int 0, .ref z, .int 0])), (a4, .inr (3, [.int 0, .ref z, .int 0])), (a5, .inr (3, [.int 0, .ref z, .int 0])), (a6, .inr (10, [.ref b1, .ref b2, .ref b3, .int 0])), (b1, .inl (cyA, 400, .inl (nI))), (b2, .inl (cyJ, 512, .inl (fun _ => 0))), (b3, .inl (cyT, 400, .inl (fun _ => 0))), (a7, .inr (4, [.ref d1, .ref d2, .ref d3, .ref d4, .int 0, .int 12])), (d4, .inl (cyO, 20, .inr (.inr (.inr (.inr (fS)))))), (r0, .inl (cyI, 20, .inl (fun _ => 0))), (l1, .inr (3, [.int 0, .ref z, .int 0])), (l2, .inr (3, [.int 0, .ref z, .int 0])), (l4, .inr (3, [.int 0, .ref z, .int 0])), (l5, .inr (3, [.int 0, .ref z, .int 0])), (l6, .inr (3, [.int 0, .ref z, .int 0])), (o2, .inl (cyD, 1, .inr (.inr (.inr (.inl (fun _ => 0)))))), (o1, .inl (cyL, 1, .inr (.inl (u_3)))), (y0, .inr (18, [.int th1_14, .ref l1, .ref l2, .ref l3, .ref l4, .ref l5, .ref l6, .int 0, .int 3, .int 12, .ref m1, .ref m2, .ref m3, .ref m4, .ref m5, .ref m6]))]) H_10 := hP
    have hD : va_D A ([(a1, .inr (3, [.int 0, .ref z, .int 0])), (a2, .inr (3, [.int 0, .ref z, .int 0])), (a4, .inr (3, [.int 0, .ref z, .int 0])), (a5, .inr (3, [.int 0, .ref z, .int 0])), (a6, .inr (10, [.ref b1, .ref b2, .ref b3, .int 0])), (b1, .inl (cyA, 400, .inl (nI))), (b2, .inl (cyJ, 512, .inl (fun _ => 0))), (b3, .inl (cyT, 400, .inl (fun _ => 0))), (a7, .inr (4, [.ref d1, .ref d2, .ref d3, .ref d4, .int 0, .int 12])), (d4, .inl (cyO, 20, .inr (.inr (.inr (.inr (fS)))))), (r0, .inl (cyI, 20, .inl (fun _ => 0))), (l1, .inr (3, [.int 0, .ref z, .int 0])), (l2, .inr (3, [.int 0, .ref z, .int 0])), (l4, .inr (3, [.int 0, .ref z, .int 0])), (l5, .inr (3, [.int 0, .ref z, .int 0])), (l6, .inr (3, [.int 0, .ref z, .int 0])), (o2, .inl (cyD, 1, .inr (.inr (.inr (.inl (fun _ => 0)))))), (o1, .inl (cyL, 1, .inr (.inl (u_3)))), (y0, .inr (18, [.int th1_14, .ref l1, .ref l2, .ref l3, .ref l4, .ref l5, .ref l6, .int 0, .int 3, .int 12, .ref m1, .ref m2, .ref m3, .ref m4, .ref m5, .ref m6]))]) := hD
    have hK : va_K G vwCl [(cyA, .int), (cyJ, .int), (cyT, .int), (cyO, .array .int), (cyI, .int), (cyL, .long), (cyD, .double), (cyL, .long)] s := hK
    refine W.widen (k := 143) (n := 4031) (Nat.le_of_ble_eq_true rfl) (Nat.le_of_ble_eq_true rfl) ?_
    rcases hf_15 with ⟨hψ, rfl⟩ | ⟨hψ, rfl⟩
    · have hr2 := hw_12 hψ
      refine lv_istore (lv' := [(7, .int r_11), (6, .int 0), (0, .ref b), (1, .ref x0), (2, .ref y0), (3, .ref o1), (4, .ref o2), (5, .int 0)]) hx hb dL_law_1104 hl (by decide) rfl (fun ls hl => ?_)
      refine lv_aload_n hx hb dL_law_1106 rfl (lv_at hl 4 rfl) ?_
      have hPc := hP.sub (ws' := [(y0, .inr (18, [.int 0, .ref l1, .ref l2, .ref l3, .ref l4, .ref l5, .ref l6, .int 0, .int 3, .int 12, .ref m1, .ref m2, .ref m3, .ref m4, .ref m5, .ref m6]))]) [18] rfl
      have hKc := hK.sub (tys' := []) [] rfl
      refine va_calli (va_runV (As := []) (rest := []) ⟨hx, hb, hml, hown, hts⟩ (k_X14_thrown l G z y0 0 l1 l2 l3 l4 l5 l6 3 12 m1 m2 m3 m4 m5 m6 H_10.size ) (cwV 0 hts (lw_goodApp (lw_4 q1236 q1237 q1238 q7) q1239) rfl rfl rfl (by decide +kernel) ⟨Nat.le_of_ble_eq_true rfl, Nat.le_of_ble_eq_true rfl⟩) ⟨PR.blind, va_recv hK hP (ci := 18) (q0 := 18) rfl rfl, PR.of hPc hKc hG hS hA [.ref y0]⟩ rfl rfl hl.1 rfl (lv_room (Nat.le_of_ble_eq_true rfl)) dL_law_1107 ⟨Nat.le_of_ble_eq_true rfl, Nat.le_of_ble_eq_true rfl⟩) hS (fun q h9 h => zN.not h9 h) (fun q h => hA q (Nat.le_trans hS.1 h)) (fun r_17 u t_19 H_16 locs ht hvm hw_18 hB hz1 hk1 hS => ?_)
      have hP := hP.grown hk1
      refine W.widen (k := 143) (n := 4031) (Nat.le_of_ble_eq_true rfl) (Nat.le_of_ble_eq_true rfl) ?_
      obtain rfl : 0 = r_17 := hw_18.symm
      refine lv_iload hx hb dL_law_1110 (lv_at hl 1 rfl) ?_
      refine lv_icmp_eq (tgt := 1117) hx hb dL_law_1112 (by decide) (fun c_20 => ?_) (fun c_20 => absurd rfl c_20)
      refine lv_iload hx hb dL_law_1117 (lv_at hl 1 rfl) ?_
      refine lv_if_ne (tgt := 1134) hx hb dL_law_1119 (by decide) (fun c_21 => absurd rfl c_21) (fun c_21 => ?_)
      refine lv_aload_n hx hb dL_law_1122 rfl (lv_at hl 5 rfl) ?_
      refine lv_iconst (v := 0) hx hb dL_law_1123 (by decide) ?_
      refine va_lald hx hb hK hP 17 5 rfl rfl (by unfold vp_in; decide +kernel) dL_law_1124 ?_
      refine lv_iload hx hb dL_law_1125 (lv_at hl 0 rfl) ?_
      refine lv_i2l hx hb dL_law_1127 rfl ?_
      refine W.lcmp hx hb dL_law_1128 ?_
      refine lv_if_eq (tgt := 1134) hx hb dL_law_1129 (by decide) (fun c_22 => ?_) (fun c_22 => absurd (z_cmp (hu.trans (by rw [hr2]))) c_22)
      refine lv_goto (tgt := 3288) hx hb dL_law_1134 (by decide) ?_
      exact law_tail hfl C0 hA hA2 hS (lv_sub hl [2, 7] rfl) (Nat.le_of_ble_eq_true rfl) (Nat.le_of_ble_eq_true rfl)
    · exact absurd hφ hψ
  · refine lv_istore (lv' := [(6, .int 1), (0, .ref b), (1, .ref x0), (2, .ref y0), (3, .ref o1), (4, .ref o2), (5, .int 0)]) hx hb dL_law_1092 hl (by decide) rfl (fun ls hl => ?_)
    refine lv_aload_n hx hb dL_law_1094 rfl (lv_at hl 3 rfl) ?_
    refine lv_aload_n hx hb dL_law_1095 rfl (lv_at hl 1 rfl) ?_
    refine lv_iload hx hb dL_law_1096 (lv_at hl 6 rfl) ?_
    refine lv_iconst (v := 1) hx hb dL_law_1098 (by decide) ?_
    refine lv_iadd hx hb dL_law_1099 ?_
    refine lv_topi (fun f_23 ef_23 => ?_)
    obtain rfl : f_23 = 1 := ef_23.trans (by decide)
    refine va_sld hx hb hX hbl hbA hS (by unfold vp_in; decide +kernel) dL_law_1100 ?_
    refine lv_topi (fun f_24 ef_24 => ?_)
    obtain rfl : f_24 = xs 1 := ef_24
    have hPc := hP.sub (ws' := [(y0, .inr (18, [.int 0, .ref l1, .ref l2, .ref l3, .ref l4, .ref l5, .ref l6, .int 0, .int 3, .int 12, .ref m1, .ref m2, .ref m3, .ref m4, .ref m5, .ref m6])), (l3, .inr (3, [.int 0, .ref z, .int 0]))]) [11, 14] rfl
    have hKc := hK.sub (tys' := []) [] rfl
    have hDc := hD.sub (ws' := [(y0, .inr (18, [.int 0, .ref l1, .ref l2, .ref l3, .ref l4, .ref l5, .ref l6, .int 0, .int 3, .int 12, .ref m1, .ref m2, .ref m3, .ref m4, .ref m5, .ref m6])), (l3, .inr (3, [.int 0, .ref z, .int 0]))]) [11, 14] (by decide) rfl
    have hFc := va_free (wc := [(y0, .inr (18, [.int 0, .ref l1, .ref l2, .ref l3, .ref l4, .ref l5, .ref l6, .int 0, .int 3, .int 12, .ref m1, .ref m2, .ref m3, .ref m4, .ref m5, .ref m6])), (l3, .inr (3, [.int 0, .ref z, .int 0]))]) hD hS hA [11, 14] rfl
    refine va_calli (va_runV (As := [.int (xs 1)]) (rest := []) ⟨hx, hb, hml, hown, hts⟩ (k_X14_ream l G z y0 0 l1 l2 l3 l4 l5 l6 3 12 m1 m2 m3 m4 m5 m6 0 ((xs 1)) H_4.size ) (cwV 1 hts (lw_goodApp (lw_4 q1454 q1455 q1456 q7) q1457) rfl rfl rfl (by decide +kernel) ⟨Nat.le_of_ble_eq_true rfl, Nat.le_of_ble_eq_true rfl⟩) ⟨PW.blind, va_recv hK hP (ci := 18) (q0 := 11) rfl rfl, PW.of hPc hKc hDc hG hS hFc [.ref y0, .int (xs 1)]⟩ rfl rfl hl.1 rfl (lv_room (Nat.le_of_ble_eq_true rfl)) dL_law_1101 ⟨Nat.le_of_ble_eq_true rfl, Nat.le_of_ble_eq_true rfl⟩) hS (fun q _ h => hFc q h) hFc (fun r_26 u t_28 H_25 locs ht hvm hw_27 hB hz1 hk1 hS => ?_)
    obtain ⟨th1_29, hf_30, hB⟩ := hB
    obtain ⟨hP, hD, hK⟩ := QW.join (wr := [(a1, .inr (3, [.int 0, .ref z, .int 0])), (a2, .inr (3, [.int 0, .ref z, .int 0])), (a4, .inr (3, [.int 0, .ref z, .int 0])), (a5, .inr (3, [.int 0, .ref z, .int 0])), (a6, .inr (10, [.ref b1, .ref b2, .ref b3, .int 0])), (b1, .inl (cyA, 400, .inl (nI))), (b2, .inl (cyJ, 512, .inl (fun _ => 0))), (b3, .inl (cyT, 400, .inl (fun _ => 0))), (a7, .inr (4, [.ref d1, .ref d2, .ref d3, .ref d4, .int 0, .int 12])), (d4, .inl (cyO, 20, .inr (.inr (.inr (.inr (fS)))))), (r0, .inl (cyI, 20, .inl (fun _ => 0))), (l1, .inr (3, [.int 0, .ref z, .int 0])), (l2, .inr (3, [.int 0, .ref z, .int 0])), (l4, .inr (3, [.int 0, .ref z, .int 0])), (l5, .inr (3, [.int 0, .ref z, .int 0])), (l6, .inr (3, [.int 0, .ref z, .int 0])), (o2, .inl (cyD, 1, .inr (.inr (.inr (.inl (fun _ => 0)))))), (o1, .inl (cyL, 1, .inr (.inl (u_3))))]) (w1 := [(y0, .inr (18, [.int th1_29, .ref l1, .ref l2, .ref l3, .ref l4, .ref l5, .ref l6, .int 0, .int 3, .int 12, .ref m1, .ref m2, .ref m3, .ref m4, .ref m5, .ref m6]))]) hP hD hK [11, 14] [0, 1, 2, 3, 4, 5, 6, 7, 8, 9, 10, 12, 13, 15, 16, 17, 18, 19] rfl rfl (by decide) (by decide) hk1 hFc ht hvm hB
    have hP : va_P G vwCl ([(a1, .inr (3, [.int 0, .ref z, .int 0])), (a2, .inr (3, [.int 0, .ref z, .int 0])), (a4, .inr (3, [.int 0, .ref z, .int 0])), (a5, .inr (3, [.int 0, .ref z, .int 0])), (a6, .inr (10, [.ref b1, .ref b2, .ref b3, .int 0])), (b1, .inl (cyA, 400, .inl (nI))), (b2, .inl (cyJ, 512, .inl (fun _ => 0))), (b3, .inl (cyT, 400, .inl (fun _ => 0))), (a7, .inr (4, [.ref d1, .ref d2, .ref d3, .ref d4, .int 0, .int 12])), (d4, .inl (cyO, 20, .inr (.inr (.inr (.inr (fS)))))), (r0, .inl (cyI, 20, .inl (fun _ => 0))), (l1, .inr (3, [.int 0, .ref z, .int 0])), (l2, .inr (3, [.int 0, .ref z, .int 0])), (l4, .inr (3, [.int 0, .ref z, .int 0])), (l5, .inr (3, [.int 0, .ref z, .int 0])), (l6, .inr (3, [.int 0, .ref z, .int 0])), (o2, .inl (cyD, 1, .inr (.inr (.inr (.inl (fun _ => 0)))))), (o1, .inl (cyL, 1, .inr (.inl (u_3)))), (y0, .inr (18, [.int th1_29, .ref l1, .ref l2, .ref l3, .ref l4, .ref l5, .ref l6, .int 0, .int 3, .int 12, .ref m1, .ref m2, .ref m3, .ref m4, .ref m5, .ref m6]))]) H_25 := hP
    have hD : va_D A ([(a1, .inr (3, [.int 0, .ref z, .int 0])), (a2, .inr (3, [.int 0, .ref z, .int 0])), (a4, .inr (3, [.int 0, .ref z, .int 0])), (a5, .inr (3, [.int 0, .ref z, .int 0])), (a6, .inr (10, [.ref b1, .ref b2, .ref b3, .int 0])), (b1, .inl (cyA, 400, .inl (nI))), (b2, .inl (cyJ, 512, .inl (fun _ => 0))), (b3, .inl (cyT, 400, .inl (fun _ => 0))), (a7, .inr (4, [.ref d1, .ref d2, .ref d3, .ref d4, .int 0, .int 12])), (d4, .inl (cyO, 20, .inr (.inr (.inr (.inr (fS)))))), (r0, .inl (cyI, 20, .inl (fun _ => 0))), (l1, .inr (3, [.int 0, .ref z, .int 0])), (l2, .inr (3, [.int 0, .ref z, .int 0])), (l4, .inr (3, [.int 0, .ref z, .int 0])), (l5, .inr (3, [.int 0, .ref z, .int 0])), (l6, .inr (3, [.int 0, .ref z, .int 0])), (o2, .inl (cyD, 1, .inr (.inr (.inr (.inl (fun _ => 0)))))), (o1, .inl (cyL, 1, .inr (.inl (u_3)))), (y0, .inr (18, [.int th1_29, .ref l1, .ref l2, .ref l3, .ref l4, .ref l5, .ref l6, .int 0, .int 3, .int 12, .ref m1, .ref m2, .ref m3, .ref m4, .ref m5, .ref m6]))]) := hD
    have hK : va_K G vwCl [(cyA, .int), (cyJ, .int), (cyT, .int), (cyO, .array .int), (cyI, .int), (cyL, .long), (cyD, .double), (cyL, .long)] s := hK
    refine W.widen (k := 143) (n := 4031) (Nat.le_of_ble_eq_true rfl) (Nat.le_of_ble_eq_true rfl) ?_
    rcases hf_30 with ⟨hψ, rfl⟩ | ⟨hψ, rfl⟩
    · exact absurd hψ hφ
    · refine lv_istore (lv' := [(7, .int r_26), (6, .int 1), (0, .ref b), (1, .ref x0), (2, .ref y0), (3, .ref o1), (4, .ref o2), (5, .int 0)]) hx hb dL_law_1104 hl (by decide) rfl (fun ls hl => ?_)
      refine lv_aload_n hx hb dL_law_1106 rfl (lv_at hl 4 rfl) ?_
      have hPc := hP.sub (ws' := [(y0, .inr (18, [.int 1, .ref l1, .ref l2, .ref l3, .ref l4, .ref l5, .ref l6, .int 0, .int 3, .int 12, .ref m1, .ref m2, .ref m3, .ref m4, .ref m5, .ref m6]))]) [18] rfl
      have hKc := hK.sub (tys' := []) [] rfl
      refine va_calli (va_runV (As := []) (rest := []) ⟨hx, hb, hml, hown, hts⟩ (k_X14_thrown l G z y0 1 l1 l2 l3 l4 l5 l6 3 12 m1 m2 m3 m4 m5 m6 H_25.size ) (cwV 0 hts (lw_goodApp (lw_4 q1236 q1237 q1238 q7) q1239) rfl rfl rfl (by decide +kernel) ⟨Nat.le_of_ble_eq_true rfl, Nat.le_of_ble_eq_true rfl⟩) ⟨PR.blind, va_recv hK hP (ci := 18) (q0 := 18) rfl rfl, PR.of hPc hKc hG hS hA [.ref y0]⟩ rfl rfl hl.1 rfl (lv_room (Nat.le_of_ble_eq_true rfl)) dL_law_1107 ⟨Nat.le_of_ble_eq_true rfl, Nat.le_of_ble_eq_true rfl⟩) hS (fun q h9 h => zN.not h9 h) (fun q h => hA q (Nat.le_trans hS.1 h)) (fun r_32 u t_34 H_31 locs ht hvm hw_33 hB hz1 hk1 hS => ?_)
      have hP := hP.grown hk1
      refine W.widen (k := 143) (n := 4031) (Nat.le_of_ble_eq_true rfl) (Nat.le_of_ble_eq_true rfl) ?_
      obtain rfl : 1 = r_32 := hw_33.symm
      refine lv_iload hx hb dL_law_1110 (lv_at hl 1 rfl) ?_
      refine lv_icmp_eq (tgt := 1117) hx hb dL_law_1112 (by decide) (fun c_35 => ?_) (fun c_35 => absurd rfl c_35)
      refine lv_iload hx hb dL_law_1117 (lv_at hl 1 rfl) ?_
      refine lv_if_ne (tgt := 1134) hx hb dL_law_1119 (by decide) (fun c_36 => ?_) (fun c_36 => absurd c_36 (by decide))
      refine lv_goto (tgt := 3288) hx hb dL_law_1134 (by decide) ?_
      exact law_tail hfl C0 hA hA2 hS (lv_sub hl [2, 7] rfl) (Nat.le_of_ble_eq_true rfl) (Nat.le_of_ble_eq_true rfl)
set_option maxHeartbeats 8000000 in
set_option maxRecDepth 100000 in
/-- script value 11 -/
theorem law_case_11 {p : Program} {l : Launch} {e : Env} {s : State} {m : MethodId} {below : List Frame} {meth : Method} {c : Code} {b : Nat} {xs : Nat → Int32} (hfl : l.stackTraces = false) (C0 : lw_At p s m meth c b 7 xs) {A : Nat → Prop} (hA : ∀ q : Nat, s.heap.size ≤ q → A q) (hA2 : ∀ q : Nat, A q → s.heap.size ≤ q) (G : va_G) (z : Nat) (hG : zG z A s s.heap) (x0 : Nat) (y0 : Nat) (o1 : Nat) (o2 : Nat) (cyL : ClassId) (cyD : ClassId) (a1 : Nat) (a2 : Nat) (a3 : Nat) (a4 : Nat) (a5 : Nat) (a6 : Nat) (a7 : Nat) (a8 : Nat) (b1 : Nat) (b2 : Nat) (b3 : Nat) (cyA : ClassId) (cyJ : ClassId) (cyT : ClassId) (d1 : Nat) (d2 : Nat) (d3 : Nat) (d4 : Nat) (cyO : ClassId) (fS : Nat → Option Nat) (cyI : ClassId) (r0 : Nat) (l1 : Nat) (l2 : Nat) (l3 : Nat) (l4 : Nat) (l5 : Nat) (l6 : Nat) (m1 : Nat) (m2 : Nat) (m3 : Nat) (m4 : Nat) (m5 : Nat) (m6 : Nat) (hf0 : fS 0 = some r0) {H : Heap} {locs : List Loc} (hP : va_P G vwCl ([(x0, .inr (12, [.ref a1, .ref a2, .ref a3, .ref a4, .ref a5, .ref a6, .ref a7, .ref a8, .int 3, .int 0])), (a1, .inr (3, [.int 0, .ref z, .int 0])), (a2, .inr (3, [.int 0, .ref z, .int 0])), (a3, .inr (3, [.int 0, .ref z, .int 0])), (a4, .inr (3, [.int 0, .ref z, .int 0])), (a5, .inr (3, [.int 0, .ref z, .int 0])), (a6, .inr (10, [.ref b1, .ref b2, .ref b3, .int 0])), (b1, .inl (cyA, 400, .inl (nI))), (b2, .inl (cyJ, 512, .inl (fun _ => 0))), (b3, .inl (cyT, 400, .inl (fun _ => 0))), (a7, .inr (4, [.ref d1, .ref d2, .ref d3, .ref d4, .int 0, .int 12])), (d4, .inl (cyO, 20, .inr (.inr (.inr (.inr (fS)))))), (r0, .inl (cyI, 20, .inl (fun _ => 0))), (y0, .inr (18, [.int 0, .ref l1, .ref l2, .ref l3, .ref l4, .ref l5, .ref l6, .int 0, .int 3, .int 12, .ref m1, .ref m2, .ref m3, .ref m4, .ref m5, .ref m6])), (l1, .inr (3, [.int 0, .ref z, .int 0])), (l2, .inr (3, [.int 0, .ref z, .int 0])), (l3, .inr (3, [.int 0, .ref z, .int 0])), (l4, .inr (3, [.int 0, .ref z, .int 0])), (l5, .inr (3, [.int 0, .ref z, .int 0])), (l6, .inr (3, [.int 0, .ref z, .int 0])), (o1, .inl (cyL, 1, .inr (.inl (fun _ => 0)))), (o2, .inl (cyD, 1, .inr (.inr (.inr (.inl (fun _ => 0))))))]) H) (hD : va_D A ([(x0, .inr (12, [.ref a1, .ref a2, .ref a3, .ref a4, .ref a5, .ref a6, .ref a7, .ref a8, .int 3, .int 0])), (a1, .inr (3, [.int 0, .ref z, .int 0])), (a2, .inr (3, [.int 0, .ref z, .int 0])), (a3, .inr (3, [.int 0, .ref z, .int 0])), (a4, .inr (3, [.int 0, .ref z, .int 0])), (a5, .inr (3, [.int 0, .ref z, .int 0])), (a6, .inr (10, [.ref b1, .ref b2, .ref b3, .int 0])), (b1, .inl (cyA, 400, .inl (nI))), (b2, .inl (cyJ, 512, .inl (fun _ => 0))), (b3, .inl (cyT, 400, .inl (fun _ => 0))), (a7, .inr (4, [.ref d1, .ref d2, .ref d3, .ref d4, .int 0, .int 12])), (d4, .inl (cyO, 20, .inr (.inr (.inr (.inr (fS)))))), (r0, .inl (cyI, 20, .inl (fun _ => 0))), (y0, .inr (18, [.int 0, .ref l1, .ref l2, .ref l3, .ref l4, .ref l5, .ref l6, .int 0, .int 3, .int 12, .ref m1, .ref m2, .ref m3, .ref m4, .ref m5, .ref m6])), (l1, .inr (3, [.int 0, .ref z, .int 0])), (l2, .inr (3, [.int 0, .ref z, .int 0])), (l3, .inr (3, [.int 0, .ref z, .int 0])), (l4, .inr (3, [.int 0, .ref z, .int 0])), (l5, .inr (3, [.int 0, .ref z, .int 0])), (l6, .inr (3, [.int 0, .ref z, .int 0])), (o1, .inl (cyL, 1, .inr (.inl (fun _ => 0)))), (o2, .inl (cyD, 1, .inr (.inr (.inr (.inl (fun _ => 0))))))])) (hK : va_K G vwCl [(cyA, .int), (cyJ, .int), (cyT, .int), (cyO, .array .int), (cyI, .int), (cyL, .long), (cyD, .double)] s) (hS : va_S A s.heap H locs) {ls : Array Slot} (hl : lv_has ls 9 [(0, .ref b), (1, .ref x0), (2, .ref y0), (3, .ref o1), (4, .ref o2), (5, .int 0)]) : W p l e room_1 s m #[Value.ref b] below meth c H locs 135 2991 (lw_Z below #[Value.ref b] s) (F0 m 1137 ls []) := by
  have C9 := C0
  obtain ⟨hx, hb, hr, hml, hown, hts0, hX, hbl, hlocks, hgv⟩ := id C0
  have hg := lw_sub_good hts0
  have hts : ∀ w ∈ (lw_hd :: lw_good), w.before #[Value.ref b] s = true := fun w h => (List.mem_cons.mp h).elim (fun e9 => e9 ▸ hg _ q0) (hg w)
  have hbA : ¬ A b := fun h => Nat.not_le.mpr hbl (hA2 b h)
  refine lv_aload_n hx hb dL_law_1137 rfl (lv_at hl 1 rfl) ?_
  refine lv_aload_n hx hb dL_law_1138 rfl (lv_at hl 0 rfl) ?_
  refine lv_iload hx hb dL_law_1139 (lv_at hl 5 rfl) ?_
  refine lv_iconst (v := 1) hx hb dL_law_1141 (by decide) ?_
  refine lv_iadd hx hb dL_law_1142 ?_
  refine lv_topi (fun f_1 ef_1 => ?_)
  obtain rfl : f_1 = 1 := ef_1.trans (by decide)
  refine va_sld hx hb hX hbl hbA hS (by unfold vp_in; decide +kernel) dL_law_1143 ?_
  refine lv_topi (fun f_2 ef_2 => ?_)
  obtain rfl : f_2 = xs 1 := ef_2
  refine lv_aload_n hx hb dL_law_1144 rfl (lv_at hl 0 rfl) ?_
  refine lv_iload hx hb dL_law_1145 (lv_at hl 5 rfl) ?_
  refine lv_iconst (v := 2) hx hb dL_law_1147 (by decide) ?_
  refine lv_iadd hx hb dL_law_1148 ?_
  refine lv_topi (fun f_3 ef_3 => ?_)
  obtain rfl : f_3 = 2 := ef_3.trans (by decide)
  refine va_sld hx hb hX hbl hbA hS (by unfold vp_in; decide +kernel) dL_law_1149 ?_
  refine lv_topi (fun f_4 ef_4 => ?_)
  obtain rfl : f_4 = xs 2 := ef_4
  refine lv_aload_n hx hb dL_law_1150 rfl (lv_at hl 0 rfl) ?_
  refine lv_iload hx hb dL_law_1151 (lv_at hl 5 rfl) ?_
  refine lv_iconst (v := 3) hx hb dL_law_1153 (by decide) ?_
  refine lv_iadd hx hb dL_law_1154 ?_
  refine lv_topi (fun f_5 ef_5 => ?_)
  obtain rfl : f_5 = 3 := ef_5.trans (by decide)
  refine va_sld hx hb hX hbl hbA hS (by unfold vp_in; decide +kernel) dL_law_1155 ?_
  refine lv_topi (fun f_6 ef_6 => ?_)
  obtain rfl : f_6 = xs 3 := ef_6
  refine lv_aload_n hx hb dL_law_1156 rfl (lv_at hl 3 rfl) ?_
  have hPc := hP.sub (ws' := [(x0, .inr (12, [.ref a1, .ref a2, .ref a3, .ref a4, .ref a5, .ref a6, .ref a7, .ref a8, .int 3, .int 0])), (a3, .inr (3, [.int 0, .ref z, .int 0])), (o1, .inl (cyL, 1, .inr (.inl (fun _ => 0))))]) [0, 3, 20] rfl
  have hKc := hK.sub (tys' := [(cyL, .long)]) [5] rfl
  have hDc := hD.sub (ws' := [(x0, .inr (12, [.ref a1, .ref a2, .ref a3, .ref a4, .ref a5, .ref a6, .ref a7, .ref a8, .int 3, .int 0])), (a3, .inr (3, [.int 0, .ref z, .int 0])), (o1, .inl (cyL, 1, .inr (.inl (fun _ => 0))))]) [0, 3, 20] (by decide) rfl
  have hFc := va_free (wc := [(x0, .inr (12, [.ref a1, .ref a2, .ref a3, .ref a4, .ref a5, .ref a6, .ref a7, .ref a8, .int 3, .int 0])), (a3, .inr (3, [.int 0, .ref z, .int 0])), (o1, .inl (cyL, 1, .inr (.inl (fun _ => 0))))]) hD hS hA [0, 3, 20] rfl
  refine va_calli (vx_runSW (As := [.ref x0, .int (xs 1), .int (xs 2), .int (xs 3), .ref o1]) (rest := []) ⟨hx, hb, hml, hown, hts⟩ (k_L_put l hfl G z x0 a1 a2 a3 a4 a5 a6 a7 a8 3 0 0 z ((xs 1)) ((xs 2)) ((xs 3)) o1 cyL (fun _ => 0) H.size ) (vx_cwSW 5 hts (lw_goodApp (lw_3 q755 q756 q0) q757) rfl rfl rfl (by decide +kernel) ⟨Nat.le_of_ble_eq_true rfl, Nat.le_of_ble_eq_true rfl⟩) ⟨PW.blind, PW.of hPc hKc hDc hG hS hFc [.ref x0, .int (xs 1), .int (xs 2), .int (xs 3), .ref o1]⟩ rfl rfl hl.1 rfl (lv_room (Nat.le_of_ble_eq_true rfl)) dL_law_1157 ⟨Nat.le_of_ble_eq_true rfl, Nat.le_of_ble_eq_true rfl⟩) hS (fun q _ h => hFc q h) hFc (fun r_8 u t_10 H_7 locs ht hvm hw_9 hB hz1 hk1 hS => ?_)
  obtain ⟨hP, hD, hK⟩ := QW.join (wr := [(a1, .inr (3, [.int 0, .ref z, .int 0])), (a2, .inr (3, [.int 0, .ref z, .int 0])), (a4, .inr (3, [.int 0, .ref z, .int 0])), (a5, .inr (3, [.int 0, .ref z, .int 0])), (a6, .inr (10, [.ref b1, .ref b2, .ref b3, .int 0])), (b1, .inl (cyA, 400, .inl (nI))), (b2, .inl (cyJ, 512, .inl (fun _ => 0))), (b3, .inl (cyT, 400, .inl (fun _ => 0))), (a7, .inr (4, [.ref d1, .ref d2, .ref d3, .ref d4, .int 0, .int 12])), (d4, .inl (cyO, 20, .inr (.inr (.inr (.inr (fS)))))), (r0, .inl (cyI, 20, .inl (fun _ => 0))), (y0, .inr (18, [.int 0, .ref l1, .ref l2, .ref l3, .ref l4, .ref l5, .ref l6, .int 0, .int 3, .int 12, .ref m1, .ref m2, .ref m3, .ref m4, .ref m5, .ref m6])), (l1, .inr (3, [.int 0, .ref z, .int 0])), (l2, .inr (3, [.int 0, .ref z, .int 0])), (l3, .inr (3, [.int 0, .ref z, .int 0])), (l4, .inr (3, [.int 0, .ref z, .int 0])), (l5, .inr (3, [.int 0, .ref z, .int 0])), (l6, .inr (3, [.int 0, .ref z, .int 0])), (o2, .inl (cyD, 1, .inr (.inr (.inr (.inl (fun _ => 0))))))]) (w1 := [(o1, .inl (cyL, 1, .inr (.inl ((fun _ => 0)))))]) hP hD hK [0, 3, 20] [1, 2, 4, 5, 6, 7, 8, 9, 10, 11, 12, 13, 14, 15, 16, 17, 18, 19, 21] rfl rfl (by decide) (by decide) hk1 hFc ht hvm hB
  have hP : va_P G vwCl ([(a1, .inr (3, [.int 0, .ref z, .int 0])), (a2, .inr (3, [.int 0, .ref z, .int 0])), (a4, .inr (3, [.int 0, .ref z, .int 0])), (a5, .inr (3, [.int 0, .ref z, .int 0])), (a6, .inr (10, [.ref b1, .ref b2, .ref b3, .int 0])), (b1, .inl (cyA, 400, .inl (nI))), (b2, .inl (cyJ, 512, .inl (fun _ => 0))), (b3, .inl (cyT, 400, .inl (fun _ => 0))), (a7, .inr (4, [.ref d1, .ref d2, .ref d3, .ref d4, .int 0, .int 12])), (d4, .inl (cyO, 20, .inr (.inr (.inr (.inr (fS)))))), (r0, .inl (cyI, 20, .inl (fun _ => 0))), (y0, .inr (18, [.int 0, .ref l1, .ref l2, .ref l3, .ref l4, .ref l5, .ref l6, .int 0, .int 3, .int 12, .ref m1, .ref m2, .ref m3, .ref m4, .ref m5, .ref m6])), (l1, .inr (3, [.int 0, .ref z, .int 0])), (l2, .inr (3, [.int 0, .ref z, .int 0])), (l3, .inr (3, [.int 0, .ref z, .int 0])), (l4, .inr (3, [.int 0, .ref z, .int 0])), (l5, .inr (3, [.int 0, .ref z, .int 0])), (l6, .inr (3, [.int 0, .ref z, .int 0])), (o2, .inl (cyD, 1, .inr (.inr (.inr (.inl (fun _ => 0)))))), (o1, .inl (cyL, 1, .inr (.inl ((fun _ => 0)))))]) H_7 := hP
  have hD : va_D A ([(a1, .inr (3, [.int 0, .ref z, .int 0])), (a2, .inr (3, [.int 0, .ref z, .int 0])), (a4, .inr (3, [.int 0, .ref z, .int 0])), (a5, .inr (3, [.int 0, .ref z, .int 0])), (a6, .inr (10, [.ref b1, .ref b2, .ref b3, .int 0])), (b1, .inl (cyA, 400, .inl (nI))), (b2, .inl (cyJ, 512, .inl (fun _ => 0))), (b3, .inl (cyT, 400, .inl (fun _ => 0))), (a7, .inr (4, [.ref d1, .ref d2, .ref d3, .ref d4, .int 0, .int 12])), (d4, .inl (cyO, 20, .inr (.inr (.inr (.inr (fS)))))), (r0, .inl (cyI, 20, .inl (fun _ => 0))), (y0, .inr (18, [.int 0, .ref l1, .ref l2, .ref l3, .ref l4, .ref l5, .ref l6, .int 0, .int 3, .int 12, .ref m1, .ref m2, .ref m3, .ref m4, .ref m5, .ref m6])), (l1, .inr (3, [.int 0, .ref z, .int 0])), (l2, .inr (3, [.int 0, .ref z, .int 0])), (l3, .inr (3, [.int 0, .ref z, .int 0])), (l4, .inr (3, [.int 0, .ref z, .int 0])), (l5, .inr (3, [.int 0, .ref z, .int 0])), (l6, .inr (3, [.int 0, .ref z, .int 0])), (o2, .inl (cyD, 1, .inr (.inr (.inr (.inl (fun _ => 0)))))), (o1, .inl (cyL, 1, .inr (.inl ((fun _ => 0)))))]) := hD
  have hK : va_K G vwCl [(cyA, .int), (cyJ, .int), (cyT, .int), (cyO, .array .int), (cyI, .int), (cyL, .long), (cyD, .double), (cyL, .long)] s := hK
  refine W.widen (k := 136) (n := 2997) (Nat.le_of_ble_eq_true rfl) (Nat.le_of_ble_eq_true rfl) ?_
  obtain rfl : 1 = r_8 := hw_9.symm
  refine lv_istore (lv' := [(6, .int 1), (0, .ref b), (1, .ref x0), (2, .ref y0), (3, .ref o1), (4, .ref o2), (5, .int 0)]) hx hb dL_law_1160 hl (by decide) rfl (fun ls hl => ?_)
  refine lv_aload_n hx hb dL_law_1162 rfl (lv_at hl 3 rfl) ?_
  refine lv_aload_n hx hb dL_law_1163 rfl (lv_at hl 1 rfl) ?_
  refine lv_iload hx hb dL_law_1164 (lv_at hl 6 rfl) ?_
  refine lv_iconst (v := 1) hx hb dL_law_1166 (by decide) ?_
  refine lv_iadd hx hb dL_law_1167 ?_
  refine lv_topi (fun f_11 ef_11 => ?_)
  obtain rfl : f_11 = 1 := ef_11.trans (by decide)
  refine va_sld hx hb hX hbl hbA hS (by unfold vp_in; decide +kernel) dL_law_1168 ?_
  refine lv_topi (fun f_12 ef_12 => ?_)
  obtain rfl : f_12 = xs 1 := ef_12
  refine lv_aload_n hx hb dL_law_1169 rfl (lv_at hl 1 rfl) ?_
  refine lv_iload hx hb dL_law_1170 (lv_at hl 6 rfl) ?_
  refine lv_iconst (v := 2) hx hb dL_law_1172 (by decide) ?_
  refine lv_iadd hx hb dL_law_1173 ?_
  refine lv_topi (fun f_13 ef_13 => ?_)
  obtain rfl : f_13 = 2 := ef_13.trans (by decide)
  refine va_sld hx hb hX hbl hbA hS (by unfold vp_in; decide +kernel) dL_law_1174 ?_
  refine lv_topi (fun f_14 ef_14 => ?_)
  obtain rfl : f_14 = xs 2 := ef_14
  refine lv_aload_n hx hb dL_law_1175 rfl (lv_at hl 1 rfl) ?_
  refine lv_iload hx hb dL_law_1176 (lv_at hl 6 rfl) ?_
  refine lv_iconst (v := 3) hx hb dL_law_1178 (by decide) ?_
  refine lv_iadd hx hb dL_law_1179 ?_
  refine lv_topi (fun f_15 ef_15 => ?_)
  obtain rfl : f_15 = 3 := ef_15.trans (by decide)
  refine va_sld hx hb hX hbl hbA hS (by unfold vp_in; decide +kernel) dL_law_1180 ?_
  refine lv_topi (fun f_16 ef_16 => ?_)
  obtain rfl : f_16 = xs 3 := ef_16
  have hPc := hP.sub (ws' := [(y0, .inr (18, [.int 0, .ref l1, .ref l2, .ref l3, .ref l4, .ref l5, .ref l6, .int 0, .int 3, .int 12, .ref m1, .ref m2, .ref m3, .ref m4, .ref m5, .ref m6])), (l2, .inr (3, [.int 0, .ref z, .int 0])), (l3, .inr (3, [.int 0, .ref z, .int 0]))]) [11, 13, 14] rfl
  have hKc := hK.sub (tys' := []) [] rfl
  have hDc := hD.sub (ws' := [(y0, .inr (18, [.int 0, .ref l1, .ref l2, .ref l3, .ref l4, .ref l5, .ref l6, .int 0, .int 3, .int 12, .ref m1, .ref m2, .ref m3, .ref m4, .ref m5, .ref m6])), (l2, .inr (3, [.int 0, .ref z, .int 0])), (l3, .inr (3, [.int 0, .ref z, .int 0]))]) [11, 13, 14] (by decide) rfl
  have hFc := va_free (wc := [(y0, .inr (18, [.int 0, .ref l1, .ref l2, .ref l3, .ref l4, .ref l5, .ref l6, .int 0, .int 3, .int 12, .ref m1, .ref m2, .ref m3, .ref m4, .ref m5, .ref m6])), (l2, .inr (3, [.int 0, .ref z, .int 0])), (l3, .inr (3, [.int 0, .ref z, .int 0]))]) hD hS hA [11, 13, 14] rfl
  refine va_calli (va_runV (As := [.int (xs 1), .int (xs 2), .int (xs 3)]) (rest := []) ⟨hx, hb, hml, hown, hts⟩ (k_X14_put l G z y0 0 l1 l2 l3 l4 l5 l6 3 12 m1 m2 m3 m4 m5 m6 0 z 0 z ((xs 1)) ((xs 2)) ((xs 3)) H_7.size ) (cwV 3 hts (lw_goodApp (lw_4 q1475 q1476 q1477 q7) q1478) rfl rfl rfl (by decide +kernel) ⟨Nat.le_of_ble_eq_true rfl, Nat.le_of_ble_eq_true rfl⟩) ⟨PW.blind, va_recv hK hP (ci := 18) (q0 := 11) rfl rfl, PW.of hPc hKc hDc hG hS hFc [.ref y0, .int (xs 1), .int (xs 2), .int (xs 3)]⟩ rfl rfl hl.1 rfl (lv_room (Nat.le_of_ble_eq_true rfl)) dL_law_1181 ⟨Nat.le_of_ble_eq_true rfl, Nat.le_of_ble_eq_true rfl⟩) hS (fun q _ h => hFc q h) hFc (fun r_18 u t_20 H_17 locs ht hvm hw_19 hB hz1 hk1 hS => ?_)
  obtain ⟨hP, hD, hK⟩ := QW.join (wr := [(a1, .inr (3, [.int 0, .ref z, .int 0])), (a2, .inr (3, [.int 0, .ref z, .int 0])), (a4, .inr (3, [.int 0, .ref z, .int 0])), (a5, .inr (3, [.int 0, .ref z, .int 0])), (a6, .inr (10, [.ref b1, .ref b2, .ref b3, .int 0])), (b1, .inl (cyA, 400, .inl (nI))), (b2, .inl (cyJ, 512, .inl (fun _ => 0))), (b3, .inl (cyT, 400, .inl (fun _ => 0))), (a7, .inr (4, [.ref d1, .ref d2, .ref d3, .ref d4, .int 0, .int 12])), (d4, .inl (cyO, 20, .inr (.inr (.inr (.inr (fS)))))), (r0, .inl (cyI, 20, .inl (fun _ => 0))), (l1, .inr (3, [.int 0, .ref z, .int 0])), (l4, .inr (3, [.int 0, .ref z, .int 0])), (l5, .inr (3, [.int 0, .ref z, .int 0])), (l6, .inr (3, [.int 0, .ref z, .int 0])), (o2, .inl (cyD, 1, .inr (.inr (.inr (.inl (fun _ => 0)))))), (o1, .inl (cyL, 1, .inr (.inl ((fun _ => 0)))))]) (w1 := [(y0, .inr (18, [.int 1, .ref l1, .ref l2, .ref l3, .ref l4, .ref l5, .ref l6, .int 0, .int 3, .int 12, .ref m1, .ref m2, .ref m3, .ref m4, .ref m5, .ref m6]))]) hP hD hK [11, 13, 14] [0, 1, 2, 3, 4, 5, 6, 7, 8, 9, 10, 12, 15, 16, 17, 18, 19] rfl rfl (by decide) (by decide) hk1 hFc ht hvm hB
  have hP : va_P G vwCl ([(a1, .inr (3, [.int 0, .ref z, .int 0])), (a2, .inr (3, [.int 0, .ref z, .int 0])), (a4, .inr (3, [.int 0, .ref z, .int 0])), (a5, .inr (3, [.int 0, .ref z, .int 0])), (a6, .inr (10, [.ref b1, .ref b2, .ref b3, .int 0])), (b1, .inl (cyA, 400, .inl (nI))), (b2, .inl (cyJ, 512, .inl (fun _ => 0))), (b3, .inl (cyT, 400, .inl (fun _ => 0))), (a7, .inr (4, [.ref d1, .ref d2, .ref d3, .ref d4, .int 0, .int 12])), (d4, .inl (cyO, 20, .inr (.inr (.inr (.inr (fS)))))), (r0, .inl (cyI, 20, .inl (fun _ => 0))), (l1, .inr (3, [.int 0, .ref z, .int 0])), (l4, .inr (3, [.int 0, .ref z, .int 0])), (l5, .inr (3, [.int 0, .ref z, .int 0])), (l6, .inr (3, [.int 0, .ref z, .int 0])), (o2, .inl (cyD, 1, .inr (.inr (.inr (.inl (fun _ => 0)))))), (o1, .inl (cyL, 1, .inr (.inl ((fun _ => 0))))), (y0, .inr (18, [.int 1, .ref l1, .ref l2, .ref l3, .ref l4, .ref l5, .ref l6, .int 0, .int 3, .int 12, .ref m1, .ref m2, .ref m3, .ref m4, .ref m5, .ref m6]))]) H_17 := hP
  have hD : va_D A ([(a1, .inr (3, [.int 0, .ref z, .int 0])), (a2, .inr (3, [.int 0, .ref z, .int 0])), (a4, .inr (3, [.int 0, .ref z, .int 0])), (a5, .inr (3, [.int 0, .ref z, .int 0])), (a6, .inr (10, [.ref b1, .ref b2, .ref b3, .int 0])), (b1, .inl (cyA, 400, .inl (nI))), (b2, .inl (cyJ, 512, .inl (fun _ => 0))), (b3, .inl (cyT, 400, .inl (fun _ => 0))), (a7, .inr (4, [.ref d1, .ref d2, .ref d3, .ref d4, .int 0, .int 12])), (d4, .inl (cyO, 20, .inr (.inr (.inr (.inr (fS)))))), (r0, .inl (cyI, 20, .inl (fun _ => 0))), (l1, .inr (3, [.int 0, .ref z, .int 0])), (l4, .inr (3, [.int 0, .ref z, .int 0])), (l5, .inr (3, [.int 0, .ref z, .int 0])), (l6, .inr (3, [.int 0, .ref z, .int 0])), (o2, .inl (cyD, 1, .inr (.inr (.inr (.inl (fun _ => 0)))))), (o1, .inl (cyL, 1, .inr (.inl ((fun _ => 0))))), (y0, .inr (18, [.int 1, .ref l1, .ref l2, .ref l3, .ref l4, .ref l5, .ref l6, .int 0, .int 3, .int 12, .ref m1, .ref m2, .ref m3, .ref m4, .ref m5, .ref m6]))]) := hD
  have hK : va_K G vwCl [(cyA, .int), (cyJ, .int), (cyT, .int), (cyO, .array .int), (cyI, .int), (cyL, .long), (cyD, .double), (cyL, .long)] s := hK
  refine W.widen (k := 136) (n := 2997) (Nat.le_of_ble_eq_true rfl) (Nat.le_of_ble_eq_true rfl) ?_
  refine lv_istore (lv' := [(7, .int r_18), (6, .int 1), (0, .ref b), (1, .ref x0), (2, .ref y0), (3, .ref o1), (4, .ref o2), (5, .int 0)]) hx hb dL_law_1184 hl (by decide) rfl (fun ls hl => ?_)
  refine lv_aload_n hx hb dL_law_1186 rfl (lv_at hl 4 rfl) ?_
  have hPc := hP.sub (ws' := [(y0, .inr (18, [.int 1, .ref l1, .ref l2, .ref l3, .ref l4, .ref l5, .ref l6, .int 0, .int 3, .int 12, .ref m1, .ref m2, .ref m3, .ref m4, .ref m5, .ref m6]))]) [17] rfl
  have hKc := hK.sub (tys' := []) [] rfl
  refine va_calli (va_runV (As := []) (rest := []) ⟨hx, hb, hml, hown, hts⟩ (k_X14_thrown l G z y0 1 l1 l2 l3 l4 l5 l6 3 12 m1 m2 m3 m4 m5 m6 H_17.size ) (cwV 0 hts (lw_goodApp (lw_4 q1236 q1237 q1238 q7) q1239) rfl rfl rfl (by decide +kernel) ⟨Nat.le_of_ble_eq_true rfl, Nat.le_of_ble_eq_true rfl⟩) ⟨PR.blind, va_recv hK hP (ci := 18) (q0 := 17) rfl rfl, PR.of hPc hKc hG hS hA [.ref y0]⟩ rfl rfl hl.1 rfl (lv_room (Nat.le_of_ble_eq_true rfl)) dL_law_1187 ⟨Nat.le_of_ble_eq_true rfl, Nat.le_of_ble_eq_true rfl⟩) hS (fun q h9 h => zN.not h9 h) (fun q h => hA q (Nat.le_trans hS.1 h)) (fun r_22 u t_24 H_21 locs ht hvm hw_23 hB hz1 hk1 hS => ?_)
  have hP := hP.grown hk1
  refine W.widen (k := 136) (n := 2997) (Nat.le_of_ble_eq_true rfl) (Nat.le_of_ble_eq_true rfl) ?_
  obtain rfl : 1 = r_22 := hw_23.symm
  refine lv_iload hx hb dL_law_1190 (lv_at hl 1 rfl) ?_
  refine lv_icmp_eq (tgt := 1197) hx hb dL_law_1192 (by decide) (fun c_25 => ?_) (fun c_25 => absurd rfl c_25)
  refine lv_iload hx hb dL_law_1197 (lv_at hl 1 rfl) ?_
  refine lv_if_ne (tgt := 1214) hx hb dL_law_1199 (by decide) (fun c_26 => ?_) (fun c_26 => absurd c_26 (by decide))
  refine lv_goto (tgt := 3288) hx hb dL_law_1214 (by decide) ?_
  exact law_tail hfl C0 hA hA2 hS (lv_sub hl [2, 7] rfl) (Nat.le_of_ble_eq_true rfl) (Nat.le_of_ble_eq_true rfl)
set_option maxHeartbeats 8000000 in
set_option maxRecDepth 100000 in
/-- script value 12 -/
theorem law_case_12 {p : Program} {l : Launch} {e : Env} {s : State} {m : MethodId} {below : List Frame} {meth : Method} {c : Code} {b : Nat} {xs : Nat → Int32} (hfl : l.stackTraces = false) (C0 : lw_At p s m meth c b 7 xs) {A : Nat → Prop} (hA : ∀ q : Nat, s.heap.size ≤ q → A q) (hA2 : ∀ q : Nat, A q → s.heap.size ≤ q) (G : va_G) (z : Nat) (hG : zG z A s s.heap) (x0 : Nat) (y0 : Nat) (o1 : Nat) (o2 : Nat) (cyL : ClassId) (cyD : ClassId) (a1 : Nat) (a2 : Nat) (a3 : Nat) (a4 : Nat) (a5 : Nat) (a6 : Nat) (a7 : Nat) (a8 : Nat) (b1 : Nat) (b2 : Nat) (b3 : Nat) (cyA : ClassId) (cyJ : ClassId) (cyT : ClassId) (d1 : Nat) (d2 : Nat) (d3 : Nat) (d4 : Nat) (cyO : ClassId) (fS : Nat → Option Nat) (cyI : ClassId) (r0 : Nat) (l1 : Nat) (l2 : Nat) (l3 : Nat) (l4 : Nat) (l5 : Nat) (l6 : Nat) (m1 : Nat) (m2 : Nat) (m3 : Nat) (m4 : Nat) (m5 : Nat) (m6 : Nat) (hf0 : fS 0 = some r0) {H : Heap} {locs : List Loc} (hP : va_P G vwCl ([(x0, .inr (12, [.ref a1, .ref a2, .ref a3, .ref a4, .ref a5, .ref a6, .ref a7, .ref a8, .int 3, .int 0])), (a1, .inr (3, [.int 0, .ref z, .int 0])), (a2, .inr (3, [.int 0, .ref z, .int 0])), (a3, .inr (3, [.int 0, .ref z, .int 0])), (a4, .inr (3, [.int 0, .ref z, .int 0])), (a5, .inr (3, [.int 0, .ref z, .int 0])), (a6, .inr (10, [.ref b1, .ref b2, .ref b3, .int 0])), (b1, .inl (cyA, 400, .inl (nI))), (b2, .inl (cyJ, 512, .inl (fun _ => 0))), (b3, .inl (cyT, 400, .inl (fun _ => 0))), (a7, .inr (4, [.ref d1, .ref d2, .ref d3, .ref d4, .int 0, .int 12])), (d4, .inl (cyO, 20, .inr (.inr (.inr (.inr (fS)))))), (r0, .inl (cyI, 20, .inl (fun _ => 0))), (y0, .inr (18, [.int 0, .ref l1, .ref l2, .ref l3, .ref l4, .ref l5, .ref l6, .int 0, .int 3, .int 12, .ref m1, .ref m2, .ref m3, .ref m4, .ref m5, .ref m6])), (l1, .inr (3, [.int 0, .ref z, .int 0])), (l2, .inr (3, [.int 0, .ref z, .int 0])), (l3, .inr (3, [.int 0, .ref z, .int 0])), (l4, .inr (3, [.int 0, .ref z, .int 0])), (l5, .inr (3, [.int 0, .ref z, .int 0])), (l6, .inr (3, [.int 0, .ref z, .int 0])), (o1, .inl (cyL, 1, .inr (.inl (fun _ => 0)))), (o2, .inl (cyD, 1, .inr (.inr (.inr (.inl (fun _ => 0))))))]) H) (hD : va_D A ([(x0, .inr (12, [.ref a1, .ref a2, .ref a3, .ref a4, .ref a5, .ref a6, .ref a7, .ref a8, .int 3, .int 0])), (a1, .inr (3, [.int 0, .ref z, .int 0])), (a2, .inr (3, [.int 0, .ref z, .int 0])), (a3, .inr (3, [.int 0, .ref z, .int 0])), (a4, .inr (3, [.int 0, .ref z, .int 0])), (a5, .inr (3, [.int 0, .ref z, .int 0])), (a6, .inr (10, [.ref b1, .ref b2, .ref b3, .int 0])), (b1, .inl (cyA, 400, .inl (nI))), (b2, .inl (cyJ, 512, .inl (fun _ => 0))), (b3, .inl (cyT, 400, .inl (fun _ => 0))), (a7, .inr (4, [.ref d1, .ref d2, .ref d3, .ref d4, .int 0, .int 12])), (d4, .inl (cyO, 20, .inr (.inr (.inr (.inr (fS)))))), (r0, .inl (cyI, 20, .inl (fun _ => 0))), (y0, .inr (18, [.int 0, .ref l1, .ref l2, .ref l3, .ref l4, .ref l5, .ref l6, .int 0, .int 3, .int 12, .ref m1, .ref m2, .ref m3, .ref m4, .ref m5, .ref m6])), (l1, .inr (3, [.int 0, .ref z, .int 0])), (l2, .inr (3, [.int 0, .ref z, .int 0])), (l3, .inr (3, [.int 0, .ref z, .int 0])), (l4, .inr (3, [.int 0, .ref z, .int 0])), (l5, .inr (3, [.int 0, .ref z, .int 0])), (l6, .inr (3, [.int 0, .ref z, .int 0])), (o1, .inl (cyL, 1, .inr (.inl (fun _ => 0)))), (o2, .inl (cyD, 1, .inr (.inr (.inr (.inl (fun _ => 0))))))])) (hK : va_K G vwCl [(cyA, .int), (cyJ, .int), (cyT, .int), (cyO, .array .int), (cyI, .int), (cyL, .long), (cyD, .double)] s) (hS : va_S A s.heap H locs) {ls : Array Slot} (hl : lv_has ls 9 [(0, .ref b), (1, .ref x0), (2, .ref y0), (3, .ref o1), (4, .ref o2), (5, .int 0)]) : W p l e room_1 s m #[Value.ref b] below meth c H locs 135 2991 (lw_Z below #[Value.ref b] s) (F0 m 1217 ls []) := by
  have C9 := C0
  obtain ⟨hx, hb, hr, hml, hown, hts0, hX, hbl, hlocks, hgv⟩ := id C0
  have hg := lw_sub_good hts0
  have hts : ∀ w ∈ (lw_hd :: lw_good), w.before #[Value.ref b] s = true := fun w h => (List.mem_cons.mp h).elim (fun e9 => e9 ▸ hg _ q0) (hg w)
  have hbA : ¬ A b := fun h => Nat.not_le.mpr hbl (hA2 b h)
  refine lv_aload_n hx hb dL_law_1217 rfl (lv_at hl 1 rfl) ?_
  refine lv_aload_n hx hb dL_law_1218 rfl (lv_at hl 0 rfl) ?_
  refine lv_iload hx hb dL_law_1219 (lv_at hl 5 rfl) ?_
  refine lv_iconst (v := 1) hx hb dL_law_1221 (by decide) ?_
  refine lv_iadd hx hb dL_law_1222 ?_
  refine lv_topi (fun f_1 ef_1 => ?_)
  obtain rfl : f_1 = 1 := ef_1.trans (by decide)
  refine va_sld hx hb hX hbl hbA hS (by unfold vp_in; decide +kernel) dL_law_1223 ?_
  refine lv_topi (fun f_2 ef_2 => ?_)
  obtain rfl : f_2 = xs 1 := ef_2
  refine lv_aload_n hx hb dL_law_1224 rfl (lv_at hl 3 rfl) ?_
  have hPc := hP.sub (ws' := [(x0, .inr (12, [.ref a1, .ref a2, .ref a3, .ref a4, .ref a5, .ref a6, .ref a7, .ref a8, .int 3, .int 0])), (a3, .inr (3, [.int 0, .ref z, .int 0])), (o1, .inl (cyL, 1, .inr (.inl (fun _ => 0))))]) [0, 3, 20] rfl
  have hKc := hK.sub (tys' := [(cyL, .long)]) [5] rfl
  have hDc := hD.sub (ws' := [(x0, .inr (12, [.ref a1, .ref a2, .ref a3, .ref a4, .ref a5, .ref a6, .ref a7, .ref a8, .int 3, .int 0])), (a3, .inr (3, [.int 0, .ref z, .int 0])), (o1, .inl (cyL, 1, .inr (.inl (fun _ => 0))))]) [0, 3, 20] (by decide) rfl
  have hFc := va_free (wc := [(x0, .inr (12, [.ref a1, .ref a2, .ref a3, .ref a4, .ref a5, .ref a6, .ref a7, .ref a8, .int 3, .int 0])), (a3, .inr (3, [.int 0, .ref z, .int 0])), (o1, .inl (cyL, 1, .inr (.inl (fun _ => 0))))]) hD hS hA [0, 3, 20] rfl
  refine va_calli (vx_runSW (As := [.ref x0, .int (xs 1), .ref o1]) (rest := []) ⟨hx, hb, hml, hown, hts⟩ (k_L_tariff l hfl G z x0 a1 a2 a3 a4 a5 a6 a7 a8 3 0 0 z ((xs 1)) o1 cyL (fun _ => 0) H.size ) (vx_cwSW 3 hts (lw_goodApp (lw_3 q787 q788 q0) q789) rfl rfl rfl (by decide +kernel) ⟨Nat.le_of_ble_eq_true rfl, Nat.le_of_ble_eq_true rfl⟩) ⟨PW.blind, PW.of hPc hKc hDc hG hS hFc [.ref x0, .int (xs 1), .ref o1]⟩ rfl rfl hl.1 rfl (lv_room (Nat.le_of_ble_eq_true rfl)) dL_law_1225 ⟨Nat.le_of_ble_eq_true rfl, Nat.le_of_ble_eq_true rfl⟩) hS (fun q _ h => hFc q h) hFc (fun r_4 u t_6 H_3 locs ht hvm hw_5 hB hz1 hk1 hS => ?_)
  obtain ⟨hP, hD, hK⟩ := QW.join (wr := [(a1, .inr (3, [.int 0, .ref z, .int 0])), (a2, .inr (3, [.int 0, .ref z, .int 0])), (a4, .inr (3, [.int 0, .ref z, .int 0])), (a5, .inr (3, [.int 0, .ref z, .int 0])), (a6, .inr (10, [.ref b1, .ref b2, .ref b3, .int 0])), (b1, .inl (cyA, 400, .inl (nI))), (b2, .inl (cyJ, 512, .inl (fun _ => 0))), (b3, .inl (cyT, 400, .inl (fun _ => 0))), (a7, .inr (4, [.ref d1, .ref d2, .ref d3, .ref d4, .int 0, .int 12])), (d4, .inl (cyO, 20, .inr (.inr (.inr (.inr (fS)))))), (r0, .inl (cyI, 20, .inl (fun _ => 0))), (y0, .inr (18, [.int 0, .ref l1, .ref l2, .ref l3, .ref l4, .ref l5, .ref l6, .int 0, .int 3, .int 12, .ref m1, .ref m2, .ref m3, .ref m4, .ref m5, .ref m6])), (l1, .inr (3, [.int 0, .ref z, .int 0])), (l2, .inr (3, [.int 0, .ref z, .int 0])), (l3, .inr (3, [.int 0, .ref z, .int 0])), (l4, .inr (3, [.int 0, .ref z, .int 0])), (l5, .inr (3, [.int 0, .ref z, .int 0])), (l6, .inr (3, [.int 0, .ref z, .int 0])), (o2, .inl (cyD, 1, .inr (.inr (.inr (.inl (fun _ => 0))))))]) (w1 := [(o1, .inl (cyL, 1, .inr (.inl ((fun _ => 0)))))]) hP hD hK [0, 3, 20] [1, 2, 4, 5, 6, 7, 8, 9, 10, 11, 12, 13, 14, 15, 16, 17, 18, 19, 21] rfl rfl (by decide) (by decide) hk1 hFc ht hvm hB
  have hP : va_P G vwCl ([(a1, .inr (3, [.int 0, .ref z, .int 0])), (a2, .inr (3, [.int 0, .ref z, .int 0])), (a4, .inr (3, [.int 0, .ref z, .int 0])), (a5, .inr (3, [.int 0, .ref z, .int 0])), (a6, .inr (10, [.ref b1, .ref b2, .ref b3, .int 0])), (b1, .inl (cyA, 400, .inl (nI))), (b2, .inl (cyJ, 512, .inl (fun _ => 0))), (b3, .inl (cyT, 400, .inl (fun _ => 0))), (a7, .inr (4, [.ref d1, .ref d2, .ref d3, .ref d4, .int 0, .int 12])), (d4, .inl (cyO, 20, .inr (.inr (.inr (.inr (fS)))))), (r0, .inl (cyI, 20, .inl (fun _ => 0))), (y0, .inr (18, [.int 0, .ref l1, .ref l2, .ref l3, .ref l4, .ref l5, .ref l6, .int 0, .int 3, .int 12, .ref m1, .ref m2, .ref m3, .ref m4, .ref m5, .ref m6])), (l1, .inr (3, [.int 0, .ref z, .int 0])), (l2, .inr (3, [.int 0, .ref z, .int 0])), (l3, .inr (3, [.int 0, .ref z, .int 0])), (l4, .inr (3, [.int 0, .ref z, .int 0])), (l5, .inr (3, [.int 0, .ref z, .int 0])), (l6, .inr (3, [.int 0, .ref z, .int 0])), (o2, .inl (cyD, 1, .inr (.inr (.inr (.inl (fun _ => 0)))))), (o1, .inl (cyL, 1, .inr (.inl ((fun _ => 0)))))]) H_3 := hP
  have hD : va_D A ([(a1, .inr (3, [.int 0, .ref z, .int 0])), (a2, .inr (3, [.int 0, .ref z, .int 0])), (a4, .inr (3, [.int 0, .ref z, .int 0])), (a5, .inr (3, [.int 0, .ref z, .int 0])), (a6, .inr (10, [.ref b1, .ref b2, .ref b3, .int 0])), (b1, .inl (cyA, 400, .inl (nI))), (b2, .inl (cyJ, 512, .inl (fun _ => 0))), (b3, .inl (cyT, 400, .inl (fun _ => 0))), (a7, .inr (4, [.ref d1, .ref d2, .ref d3, .ref d4, .int 0, .int 12])), (d4, .inl (cyO, 20, .inr (.inr (.inr (.inr (fS)))))), (r0, .inl (cyI, 20, .inl (fun _ => 0))), (y0, .inr (18, [.int 0, .ref l1, .ref l2, .ref l3, .ref l4, .ref l5, .ref l6, .int 0, .int 3, .int 12, .ref m1, .ref m2, .ref m3, .ref m4, .ref m5, .ref m6])), (l1, .inr (3, [.int 0, .ref z, .int 0])), (l2, .inr (3, [.int 0, .ref z, .int 0])), (l3, .inr (3, [.int 0, .ref z, .int 0])), (l4, .inr (3, [.int 0, .ref z, .int 0])), (l5, .inr (3, [.int 0, .ref z, .int 0])), (l6, .inr (3, [.int 0, .ref z, .int 0])), (o2, .inl (cyD, 1, .inr (.inr (.inr (.inl (fun _ => 0)))))), (o1, .inl (cyL, 1, .inr (.inl ((fun _ => 0)))))]) := hD
  have hK : va_K G vwCl [(cyA, .int), (cyJ, .int), (cyT, .int), (cyO, .array .int), (cyI, .int), (cyL, .long), (cyD, .double), (cyL, .long)] s := hK
  refine W.widen (k := 136) (n := 2997) (Nat.le_of_ble_eq_true rfl) (Nat.le_of_ble_eq_true rfl) ?_
  obtain rfl : 1 = r_4 := hw_5.symm
  refine lv_istore (lv' := [(6, .int 1), (0, .ref b), (1, .ref x0), (2, .ref y0), (3, .ref o1), (4, .ref o2), (5, .int 0)]) hx hb dL_law_1228 hl (by decide) rfl (fun ls hl => ?_)
  refine lv_aload_n hx hb dL_law_1230 rfl (lv_at hl 3 rfl) ?_
  refine lv_aload_n hx hb dL_law_1231 rfl (lv_at hl 1 rfl) ?_
  refine lv_iload hx hb dL_law_1232 (lv_at hl 6 rfl) ?_
  refine lv_iconst (v := 1) hx hb dL_law_1234 (by decide) ?_
  refine lv_iadd hx hb dL_law_1235 ?_
  refine lv_topi (fun f_7 ef_7 => ?_)
  obtain rfl : f_7 = 1 := ef_7.trans (by decide)
  refine va_sld hx hb hX hbl hbA hS (by unfold vp_in; decide +kernel) dL_law_1236 ?_
  refine lv_topi (fun f_8 ef_8 => ?_)
  obtain rfl : f_8 = xs 1 := ef_8
  have hPc := hP.sub (ws' := [(y0, .inr (18, [.int 0, .ref l1, .ref l2, .ref l3, .ref l4, .ref l5, .ref l6, .int 0, .int 3, .int 12, .ref m1, .ref m2, .ref m3, .ref m4, .ref m5, .ref m6])), (l3, .inr (3, [.int 0, .ref z, .int 0]))]) [11, 14] rfl
  have hKc := hK.sub (tys' := []) [] rfl
  have hDc := hD.sub (ws' := [(y0, .inr (18, [.int 0, .ref l1, .ref l2, .ref l3, .ref l4, .ref l5, .ref l6, .int 0, .int 3, .int 12, .ref m1, .ref m2, .ref m3, .ref m4, .ref m5, .ref m6])), (l3, .inr (3, [.int 0, .ref z, .int 0]))]) [11, 14] (by decide) rfl
  have hFc := va_free (wc := [(y0, .inr (18, [.int 0, .ref l1, .ref l2, .ref l3, .ref l4, .ref l5, .ref l6, .int 0, .int 3, .int 12, .ref m1, .ref m2, .ref m3, .ref m4, .ref m5, .ref m6])), (l3, .inr (3, [.int 0, .ref z, .int 0]))]) hD hS hA [11, 14] rfl
  refine va_calli (va_runV (As := [.int (xs 1)]) (rest := []) ⟨hx, hb, hml, hown, hts⟩ (k_X14_tariff l G z y0 0 l1 l2 l3 l4 l5 l6 3 12 m1 m2 m3 m4 m5 m6 0 z ((xs 1)) H_3.size ) (cwV 1 hts (lw_goodApp (lw_4 q1488 q1489 q1490 q7) q1491) rfl rfl rfl (by decide +kernel) ⟨Nat.le_of_ble_eq_true rfl, Nat.le_of_ble_eq_true rfl⟩) ⟨PW.blind, va_recv hK hP (ci := 18) (q0 := 11) rfl rfl, PW.of hPc hKc hDc hG hS hFc [.ref y0, .int (xs 1)]⟩ rfl rfl hl.1 rfl (lv_room (Nat.le_of_ble_eq_true rfl)) dL_law_1237 ⟨Nat.le_of_ble_eq_true rfl, Nat.le_of_ble_eq_true rfl⟩) hS (fun q _ h => hFc q h) hFc (fun r_10 u t_12 H_9 locs ht hvm hw_11 hB hz1 hk1 hS => ?_)
  obtain ⟨hP, hD, hK⟩ := QW.join (wr := [(a1, .inr (3, [.int 0, .ref z, .int 0])), (a2, .inr (3, [.int 0, .ref z, .int 0])), (a4, .inr (3, [.int 0, .ref z, .int 0])), (a5, .inr (3, [.int 0, .ref z, .int 0])), (a6, .inr (10, [.ref b1, .ref b2, .ref b3, .int 0])), (b1, .inl (cyA, 400, .inl (nI))), (b2, .inl (cyJ, 512, .inl (fun _ => 0))), (b3, .inl (cyT, 400, .inl (fun _ => 0))), (a7, .inr (4, [.ref d1, .ref d2, .ref d3, .ref d4, .int 0, .int 12])), (d4, .inl (cyO, 20, .inr (.inr (.inr (.inr (fS)))))), (r0, .inl (cyI, 20, .inl (fun _ => 0))), (l1, .inr (3, [.int 0, .ref z, .int 0])), (l2, .inr (3, [.int 0, .ref z, .int 0])), (l4, .inr (3, [.int 0, .ref z, .int 0])), (l5, .inr (3, [.int 0, .ref z, .int 0])), (l6, .inr (3, [.int 0, .ref z, .int 0])), (o2, .inl (cyD, 1, .inr (.inr (.inr (.inl (fun _ => 0)))))), (o1, .inl (cyL, 1, .inr (.inl ((fun _ => 0)))))]) (w1 := [(y0, .inr (18, [.int 1, .ref l1, .ref l2, .ref l3, .ref l4, .ref l5, .ref l6, .int 0, .int 3, .int 12, .ref m1, .ref m2, .ref m3, .ref m4, .ref m5, .ref m6]))]) hP hD hK [11, 14] [0, 1, 2, 3, 4, 5, 6, 7, 8, 9, 10, 12, 13, 15, 16, 17, 18, 19] rfl rfl (by decide) (by decide) hk1 hFc ht hvm hB
  have hP : va_P G vwCl ([(a1, .inr (3, [.int 0, .ref z, .int 0])), (a2, .inr (3, [.int 0, .ref z, .int 0])), (a4, .inr (3, [.int 0, .ref z, .int 0])), (a5, .inr (3, [.int 0, .ref z, .int 0])), (a6, .inr (10, [.ref b1, .ref b2, .ref b3, .int 0])), (b1, .inl (cyA, 400, .inl (nI))), (b2, .inl (cyJ, 512, .inl (fun _ => 0))), (b3, .inl (cyT, 400, .inl (fun _ => 0))), (a7, .inr (4, [.ref d1, .ref d2, .ref d3, .ref d4, .int 0, .int 12])), (d4, .inl (cyO, 20, .inr (.inr (.inr (.inr (fS)))))), (r0, .inl (cyI, 20, .inl (fun _ => 0))), (l1, .inr (3, [.int 0, .ref z, .int 0])), (l2, .inr (3, [.int 0, .ref z, .int 0])), (l4, .inr (3, [.int 0, .ref z, .int 0])), (l5, .inr (3, [.int 0, .ref z, .int 0])), (l6, .inr (3, [.int 0, .ref z, .int 0])), (o2, .inl (cyD, 1, .inr (.inr (.inr (.inl (fun _ => 0)))))), (o1, .inl (cyL, 1, .inr (.inl ((fun _ => 0))))), (y0, .inr (18, [.int 1, .ref l1, .ref l2, .ref l3, .ref l4, .ref l5, .ref l6, .int 0, .int 3, .int 12, .ref m1, .ref m2, .ref m3, .ref m4, .ref m5, .ref m6]))]) H_9 := hP
  have hD : va_D A ([(a1, .inr (3, [.int 0, .ref z, .int 0])), (a2, .inr (3, [.int 0, .ref z, .int 0])), (a4, .inr (3, [.int 0, .ref z, .int 0])), (a5, .inr (3, [.int 0, .ref z, .int 0])), (a6, .inr (10, [.ref b1, .ref b2, .ref b3, .int 0])), (b1, .inl (cyA, 400, .inl (nI))), (b2, .inl (cyJ, 512, .inl (fun _ => 0))), (b3, .inl (cyT, 400, .inl (fun _ => 0))), (a7, .inr (4, [.ref d1, .ref d2, .ref d3, .ref d4, .int 0, .int 12])), (d4, .inl (cyO, 20, .inr (.inr (.inr (.inr (fS)))))), (r0, .inl (cyI, 20, .inl (fun _ => 0))), (l1, .inr (3, [.int 0, .ref z, .int 0])), (l2, .inr (3, [.int 0, .ref z, .int 0])), (l4, .inr (3, [.int 0, .ref z, .int 0])), (l5, .inr (3, [.int 0, .ref z, .int 0])), (l6, .inr (3, [.int 0, .ref z, .int 0])), (o2, .inl (cyD, 1, .inr (.inr (.inr (.inl (fun _ => 0)))))), (o1, .inl (cyL, 1, .inr (.inl ((fun _ => 0))))), (y0, .inr (18, [.int 1, .ref l1, .ref l2, .ref l3, .ref l4, .ref l5, .ref l6, .int 0, .int 3, .int 12, .ref m1, .ref m2, .ref m3, .ref m4, .ref m5, .ref m6]))]) := hD
  have hK : va_K G vwCl [(cyA, .int), (cyJ, .int), (cyT, .int), (cyO, .array .int), (cyI, .int), (cyL, .long), (cyD, .double), (cyL, .long)] s := hK
  refine W.widen (k := 136) (n := 2997) (Nat.le_of_ble_eq_true rfl) (Nat.le_of_ble_eq_true rfl) ?_
  refine lv_istore (lv' := [(7, .int r_10), (6, .int 1), (0, .ref b), (1, .ref x0), (2, .ref y0), (3, .ref o1), (4, .ref o2), (5, .int 0)]) hx hb dL_law_1240 hl (by decide) rfl (fun ls hl => ?_)
  refine lv_aload_n hx hb dL_law_1242 rfl (lv_at hl 4 rfl) ?_
  have hPc := hP.sub (ws' := [(y0, .inr (18, [.int 1, .ref l1, .ref l2, .ref l3, .ref l4, .ref l5, .ref l6, .int 0, .int 3, .int 12, .ref m1, .ref m2, .ref m3, .ref m4, .ref m5, .ref m6]))]) [18] rfl
  have hKc := hK.sub (tys' := []) [] rfl
  refine va_calli (va_runV (As := []) (rest := []) ⟨hx, hb, hml, hown, hts⟩ (k_X14_thrown l G z y0 1 l1 l2 l3 l4 l5 l6 3 12 m1 m2 m3 m4 m5 m6 H_9.size ) (cwV 0 hts (lw_goodApp (lw_4 q1236 q1237 q1238 q7) q1239) rfl rfl rfl (by decide +kernel) ⟨Nat.le_of_ble_eq_true rfl, Nat.le_of_ble_eq_true rfl⟩) ⟨PR.blind, va_recv hK hP (ci := 18) (q0 := 18) rfl rfl, PR.of hPc hKc hG hS hA [.ref y0]⟩ rfl rfl hl.1 rfl (lv_room (Nat.le_of_ble_eq_true rfl)) dL_law_1243 ⟨Nat.le_of_ble_eq_true rfl, Nat.le_of_ble_eq_true rfl⟩) hS (fun q h9 h => zN.not h9 h) (fun q h => hA q (Nat.le_trans hS.1 h)) (fun r_14 u t_16 H_13 locs ht hvm hw_15 hB hz1 hk1 hS => ?_)
  have hP := hP.grown hk1
  refine W.widen (k := 136) (n := 2997) (Nat.le_of_ble_eq_true rfl) (Nat.le_of_ble_eq_true rfl) ?_
  obtain rfl : 1 = r_14 := hw_15.symm
  refine lv_iload hx hb dL_law_1246 (lv_at hl 1 rfl) ?_
  refine lv_icmp_eq (tgt := 1253) hx hb dL_law_1248 (by decide) (fun c_17 => ?_) (fun c_17 => absurd rfl c_17)
  refine lv_iload hx hb dL_law_1253 (lv_at hl 1 rfl) ?_
  refine lv_if_ne (tgt := 1270) hx hb dL_law_1255 (by decide) (fun c_18 => ?_) (fun c_18 => absurd c_18 (by decide))
  refine lv_goto (tgt := 3288) hx hb dL_law_1270 (by decide) ?_
  exact law_tail hfl C0 hA hA2 hS (lv_sub hl [2, 7] rfl) (Nat.le_of_ble_eq_true rfl) (Nat.le_of_ble_eq_true rfl)
set_option maxHeartbeats 8000000 in
set_option maxRecDepth 100000 in
/-- script value 13 -/
theorem law_case_13 {p : Program} {l : Launch} {e : Env} {s : State} {m : MethodId} {below : List Frame} {meth : Method} {c : Code} {b : Nat} {xs : Nat → Int32} (hfl : l.stackTraces = false) (C0 : lw_At p s m meth c b 7 xs) {A : Nat → Prop} (hA : ∀ q : Nat, s.heap.size ≤ q → A q) (hA2 : ∀ q : Nat, A q → s.heap.size ≤ q) (G : va_G) (z : Nat) (hG : zG z A s s.heap) (x0 : Nat) (y0 : Nat) (o1 : Nat) (o2 : Nat) (cyL : ClassId) (cyD : ClassId) (a1 : Nat) (a2 : Nat) (a3 : Nat) (a4 : Nat) (a5 : Nat) (a6 : Nat) (a7 : Nat) (a8 : Nat) (b1 : Nat) (b2 : Nat) (b3 : Nat) (cyA : ClassId) (cyJ : ClassId) (cyT : ClassId) (d1 : Nat) (d2 : Nat) (d3 : Nat) (d4 : Nat) (cyO : ClassId) (fS : Nat → Option Nat) (cyI : ClassId) (r0 : Nat) (l1 : Nat) (l2 : Nat) (l3 : Nat) (l4 : Nat) (l5 : Nat) (l6 : Nat) (m1 : Nat) (m2 : Nat) (m3 : Nat) (m4 : Nat) (m5 : Nat) (m6 : Nat) (hf0 : fS 0 = some r0) {H : Heap} {locs : List Loc} (hP : va_P G vwCl ([(x0, .inr (12, [.ref a1, .ref a2, .ref a3, .ref a4, .ref a5, .ref a6, .ref a7, .ref a8, .int 3, .int 0])), (a1, .inr (3, [.int 0, .ref z, .int 0])), (a2, .inr (3, [.int 0, .ref z, .int 0])), (a3, .inr (3, [.int 0, .ref z, .int 0])), (a4, .inr (3, [.int 0, .ref z, .int 0])), (a5, .inr (3, [.int 0, .ref z, .int 0])), (a6, .inr (10, [.ref b1, .ref b2, .ref b3, .int 0])), (b1, .inl (cyA, 400, .inl (nI))), (b2, .inl (cyJ, 512, .inl (fun _ => 0))), (b3, .inl (cyT, 400, .inl (fun _ => 0))), (a7, .inr (4, [.ref d1, .ref d2, .ref d3, .ref d4, .int 0, .int 12])), (d4, .inl (cyO, 20, .inr (.inr (.inr (.inr (fS)))))), (r0, .inl (cyI, 20, .inl (fun _ => 0))), (y0, .inr (18, [.int 0, .ref l1, .ref l2, .ref l3, .ref l4, .ref l5, .ref l6, .int 0, .int 3, .int 12, .ref m1, .ref m2, .ref m3, .ref m4, .ref m5, .ref m6])), (l1, .inr (3, [.int 0, .ref z, .int 0])), (l2, .inr (3, [.int 0, .ref z, .int 0])), (l3, .inr (3, [.int 0, .ref z, .int 0])), (l4, .inr (3, [.int 0, .ref z, .int 0])), (l5, .inr (3, [.int 0, .ref z, .int 0])), (l6, .inr (3, [.int 0, .ref z, .int 0])), (o1, .inl (cyL, 1, .inr (.inl (fun _ => 0)))), (o2, .inl (cyD, 1, .inr (.inr (.inr (.inl (fun _ => 0))))))]) H) (hD : va_D A ([(x0, .inr (12, [.ref a1, .ref a2, .ref a3, .ref a4, .ref a5, .ref a6, .ref a7, .ref a8, .int 3, .int 0])), (a1, .inr (3, [.int 0, .ref z, .int 0])), (a2, .inr (3, [.int 0, .ref z, .int 0])), (a3, .inr (3, [.int 0, .ref z, .int 0])), (a4, .inr (3, [.int 0, .ref z, .int 0])), (a5, .inr (3, [.int 0, .ref z, .int 0])), (a6, .inr (10, [.ref b1, .ref b2, .ref b3, .int 0])), (b1, .inl (cyA, 400, .inl (nI))), (b2, .inl (cyJ, 512, .inl (fun _ => 0))), (b3, .inl (cyT, 400, .inl (fun _ => 0))), (a7, .inr (4, [.ref d1, .ref d2, .ref d3, .ref d4, .int 0, .int 12])), (d4, .inl (cyO, 20, .inr (.inr (.inr (.inr (fS)))))), (r0, .inl (cyI, 20, .inl (fun _ => 0))), (y0, .inr (18, [.int 0, .ref l1, .ref l2, .ref l3, .ref l4, .ref l5, .ref l6, .int 0, .int 3, .int 12, .ref m1, .ref m2, .ref m3, .ref m4, .ref m5, .ref m6])), (l1, .inr (3, [.int 0, .ref z, .int 0])), (l2, .inr (3, [.int 0, .ref z, .int 0])), (l3, .inr (3, [.int 0, .ref z, .int 0])), (l4, .inr (3, [.int 0, .ref z, .int 0])), (l5, .inr (3, [.int 0, .ref z, .int 0])), (l6, .inr (3, [.int 0, .ref z, .int 0])), (o1, .inl (cyL, 1, .inr (.inl (fun _ => 0)))), (o2, .inl (cyD, 1, .inr (.inr (.inr (.inl (fun _ => 0))))))])) (hK : va_K G vwCl [(cyA, .int), (cyJ, .int), (cyT, .int), (cyO, .array .int), (cyI, .int), (cyL, .long), (cyD, .double)] s) (hS : va_S A s.heap H locs) {ls : Array Slot} (hl : lv_has ls 9 [(0, .ref b), (1, .ref x0), (2, .ref y0), (3, .ref o1), (4, .ref o2), (5, .int 0)]) : W p l e room_1 s m #[Value.ref b] below meth c H locs 135 2991 (lw_Z below #[Value.ref b] s) (F0 m 1273 ls []) := by
  have C9 := C0
  obtain ⟨hx, hb, hr, hml, hown, hts0, hX, hbl, hlocks, hgv⟩ := id C0
  have hg := lw_sub_good hts0
  have hts : ∀ w ∈ (lw_hd :: lw_good), w.before #[Value.ref b] s = true := fun w h => (List.mem_cons.mp h).elim (fun e9 => e9 ▸ hg _ q0) (hg w)
  have hbA : ¬ A b := fun h => Nat.not_le.mpr hbl (hA2 b h)
  refine lv_aload_n hx hb dL_law_1273 rfl (lv_at hl 1 rfl) ?_
  refine lv_aload_n hx hb dL_law_1274 rfl (lv_at hl 0 rfl) ?_
  refine lv_iload hx hb dL_law_1275 (lv_at hl 5 rfl) ?_
  refine lv_iconst (v := 1) hx hb dL_law_1277 (by decide) ?_
  refine lv_iadd hx hb dL_law_1278 ?_
  refine lv_topi (fun f_1 ef_1 => ?_)
  obtain rfl : f_1 = 1 := ef_1.trans (by decide)
  refine va_sld hx hb hX hbl hbA hS (by unfold vp_in; decide +kernel) dL_law_1279 ?_
  refine lv_topi (fun f_2 ef_2 => ?_)
  obtain rfl : f_2 = xs 1 := ef_2
  refine lv_aload_n hx hb dL_law_1280 rfl (lv_at hl 0 rfl) ?_
  refine lv_iload hx hb dL_law_1281 (lv_at hl 5 rfl) ?_
  refine lv_iconst (v := 2) hx hb dL_law_1283 (by decide) ?_
  refine lv_iadd hx hb dL_law_1284 ?_
  refine lv_topi (fun f_3 ef_3 => ?_)
  obtain rfl : f_3 = 2 := ef_3.trans (by decide)
  refine va_sld hx hb hX hbl hbA hS (by unfold vp_in; decide +kernel) dL_law_1285 ?_
  refine lv_topi (fun f_4 ef_4 => ?_)
  obtain rfl : f_4 = xs 2 := ef_4
  refine lv_aload_n hx hb dL_law_1286 rfl (lv_at hl 3 rfl) ?_
  have hPc := hP.sub (ws' := [(x0, .inr (12, [.ref a1, .ref a2, .ref a3, .ref a4, .ref a5, .ref a6, .ref a7, .ref a8, .int 3, .int 0])), (a4, .inr (3, [.int 0, .ref z, .int 0])), (a7, .inr (4, [.ref d1, .ref d2, .ref d3, .ref d4, .int 0, .int 12])), (d4, .inl (cyO, 20, .inr (.inr (.inr (.inr (fS)))))), (r0, .inl (cyI, 20, .inl (fun _ => 0))), (o1, .inl (cyL, 1, .inr (.inl (fun _ => 0))))]) [0, 4, 10, 11, 12, 20] rfl
  have hKc := hK.sub (tys' := [(cyO, .array .int), (cyI, .int), (cyL, .long)]) [3, 4, 5] rfl
  have hDc := hD.sub (ws' := [(x0, .inr (12, [.ref a1, .ref a2, .ref a3, .ref a4, .ref a5, .ref a6, .ref a7, .ref a8, .int 3, .int 0])), (a4, .inr (3, [.int 0, .ref z, .int 0])), (a7, .inr (4, [.ref d1, .ref d2, .ref d3, .ref d4, .int 0, .int 12])), (d4, .inl (cyO, 20, .inr (.inr (.inr (.inr (fS)))))), (r0, .inl (cyI, 20, .inl (fun _ => 0))), (o1, .inl (cyL, 1, .inr (.inl (fun _ => 0))))]) [0, 4, 10, 11, 12, 20] (by decide) rfl
  have hFc := va_free (wc := [(x0, .inr (12, [.ref a1, .ref a2, .ref a3, .ref a4, .ref a5, .ref a6, .ref a7, .ref a8, .int 3, .int 0])), (a4, .inr (3, [.int 0, .ref z, .int 0])), (a7, .inr (4, [.ref d1, .ref d2, .ref d3, .ref d4, .int 0, .int 12])), (d4, .inl (cyO, 20, .inr (.inr (.inr (.inr (fS)))))), (r0, .inl (cyI, 20, .inl (fun _ => 0))), (o1, .inl (cyL, 1, .inr (.inl (fun _ => 0))))]) hD hS hA [0, 4, 10, 11, 12, 20] rfl
  refine va_calli (vx_runSW (As := [.ref x0, .int (xs 1), .int (xs 2), .ref o1]) (rest := []) ⟨hx, hb, hml, hown, hts⟩ (k_L_document l hfl G z x0 a1 a2 a3 a4 a5 a6 a7 a8 3 0 0 d1 d2 d3 d4 12 cyO fS cyI (fun _ => 0) r0 ((xs 1)) ((xs 2)) o1 cyL (fun _ => 0) H.size hf0) (vx_cwSW 4 hts (lw_goodApp (lw_3 q797 q798 q0) q799) rfl rfl rfl (by decide +kernel) ⟨Nat.le_of_ble_eq_true rfl, Nat.le_of_ble_eq_true rfl⟩) ⟨PW.blind, PW.of hPc hKc hDc hG hS hFc [.ref x0, .int (xs 1), .int (xs 2), .ref o1]⟩ rfl rfl hl.1 rfl (lv_room (Nat.le_of_ble_eq_true rfl)) dL_law_1287 ⟨Nat.le_of_ble_eq_true rfl, Nat.le_of_ble_eq_true rfl⟩) hS (fun q _ h => hFc q h) hFc (fun r_7 u_5 t_9 H_6 locs ht hvm hw_8 hB hz1 hk1 hS => ?_)
  obtain ⟨hP, hD, hK⟩ := QW.join (wr := [(a1, .inr (3, [.int 0, .ref z, .int 0])), (a2, .inr (3, [.int 0, .ref z, .int 0])), (a3, .inr (3, [.int 0, .ref z, .int 0])), (a5, .inr (3, [.int 0, .ref z, .int 0])), (a6, .inr (10, [.ref b1, .ref b2, .ref b3, .int 0])), (b1, .inl (cyA, 400, .inl (nI))), (b2, .inl (cyJ, 512, .inl (fun _ => 0))), (b3, .inl (cyT, 400, .inl (fun _ => 0))), (y0, .inr (18, [.int 0, .ref l1, .ref l2, .ref l3, .ref l4, .ref l5, .ref l6, .int 0, .int 3, .int 12, .ref m1, .ref m2, .ref m3, .ref m4, .ref m5, .ref m6])), (l1, .inr (3, [.int 0, .ref z, .int 0])), (l2, .inr (3, [.int 0, .ref z, .int 0])), (l3, .inr (3, [.int 0, .ref z, .int 0])), (l4, .inr (3, [.int 0, .ref z, .int 0])), (l5, .inr (3, [.int 0, .ref z, .int 0])), (l6, .inr (3, [.int 0, .ref z, .int 0])), (o2, .inl (cyD, 1, .inr (.inr (.inr (.inl (fun _ => 0))))))]) (w1 := [(o1, .inl (cyL, 1, .inr (.inl (u_5))))]) hP hD hK [0, 4, 10, 11, 12, 20] [1, 2, 3, 5, 6, 7, 8, 9, 13, 14, 15, 16, 17, 18, 19, 21] rfl rfl (by decide) (by decide) hk1 hFc ht hvm hB
  have hP : va_P G vwCl ([(a1, .inr (3, [.int 0, .ref z, .int 0])), (a2, .inr (3, [.int 0, .ref z, .int 0])), (a3, .inr (3, [.int 0, .ref z, .int 0])), (a5, .inr (3, [.int 0, .ref z, .int 0])), (a6, .inr (10, [.ref b1, .ref b2, .ref b3, .int 0])), (b1, .inl (cyA, 400, .inl (nI))), (b2, .inl (cyJ, 512, .inl (fun _ => 0))), (b3, .inl (cyT, 400, .inl (fun _ => 0))), (y0, .inr (18, [.int 0, .ref l1, .ref l2, .ref l3, .ref l4, .ref l5, .ref l6, .int 0, .int 3, .int 12, .ref m1, .ref m2, .ref m3, .ref m4, .ref m5, .ref m6])), (l1, .inr (3, [.int 0, .ref z, .int 0])), (l2, .inr (3, [.int 0, .ref z, .int 0])), (l3, .inr (3, [.int 0, .ref z, .int 0])), (l4, .inr (3, [.int 0, .ref z, .int 0])), (l5, .inr (3, [.int 0, .ref z, .int 0])), (l6, .inr (3, [.int 0, .ref z, .int 0])), (o2, .inl (cyD, 1, .inr (.inr (.inr (.inl (fun _ => 0)))))), (o1, .inl (cyL, 1, .inr (.inl (u_5))))]) H_6 := hP
  have hD : va_D A ([(a1, .inr (3, [.int 0, .ref z, .int 0])), (a2, .inr (3, [.int 0, .ref z, .int 0])), (a3, .inr (3, [.int 0, .ref z, .int 0])), (a5, .inr (3, [.int 0, .ref z, .int 0])), (a6, .inr (10, [.ref b1, .ref b2, .ref b3, .int 0])), (b1, .inl (cyA, 400, .inl (nI))), (b2, .inl (cyJ, 512, .inl (fun _ => 0))), (b3, .inl (cyT, 400, .inl (fun _ => 0))), (y0, .inr (18, [.int 0, .ref l1, .ref l2, .ref l3, .ref l4, .ref l5, .ref l6, .int 0, .int 3, .int 12, .ref m1, .ref m2, .ref m3, .ref m4, .ref m5, .ref m6])), (l1, .inr (3, [.int 0, .ref z, .int 0])), (l2, .inr (3, [.int 0, .ref z, .int 0])), (l3, .inr (3, [.int 0, .ref z, .int 0])), (l4, .inr (3, [.int 0, .ref z, .int 0])), (l5, .inr (3, [.int 0, .ref z, .int 0])), (l6, .inr (3, [.int 0, .ref z, .int 0])), (o2, .inl (cyD, 1, .inr (.inr (.inr (.inl (fun _ => 0)))))), (o1, .inl (cyL, 1, .inr (.inl (u_5))))]) := hD
  have hK : va_K G vwCl [(cyA, .int), (cyJ, .int), (cyT, .int), (cyO, .array .int), (cyI, .int), (cyL, .long), (cyD, .double), (cyL, .long)] s := hK
  refine W.widen (k := 143) (n := 4026) (Nat.le_of_ble_eq_true rfl) (Nat.le_of_ble_eq_true rfl) ?_
  rcases hw_8 with ⟨hφ, rfl, hu⟩ | ⟨hφ, rfl⟩
  · refine lv_istore (lv' := [(6, .int 0), (0, .ref b), (1, .ref x0), (2, .ref y0), (3, .ref o1), (4, .ref o2), (5, .int 0)]) hx hb dL_law_1290 hl (by decide) rfl (fun ls hl => ?_)
    refine lv_aload_n hx hb dL_law_1292 rfl (lv_at hl 3 rfl) ?_
    refine lv_aload_n hx hb dL_law_1293 rfl (lv_at hl 1 rfl) ?_
    refine lv_iload hx hb dL_law_1294 (lv_at hl 6 rfl) ?_
    refine lv_iconst (v := 1) hx hb dL_law_1296 (by decide) ?_
    refine lv_iadd hx hb dL_law_1297 ?_
    refine lv_topi (fun f_10 ef_10 => ?_)
    obtain rfl : f_10 = 1 := ef_10.trans (by decide)
    refine va_sld hx hb hX hbl hbA hS (by unfold vp_in; decide +kernel) dL_law_1298 ?_
    refine lv_topi (fun f_11 ef_11 => ?_)
    obtain rfl : f_11 = xs 1 := ef_11
    refine lv_aload_n hx hb dL_law_1299 rfl (lv_at hl 1 rfl) ?_
    refine lv_iload hx hb dL_law_1300 (lv_at hl 6 rfl) ?_
    refine lv_iconst (v := 2) hx hb dL_law_1302 (by decide) ?_
    refine lv_iadd hx hb dL_law_1303 ?_
    refine lv_topi (fun f_12 ef_12 => ?_)
    obtain rfl : f_12 = 2 := ef_12.trans (by decide)
    refine va_sld hx hb hX hbl hbA hS (by unfold vp_in; decide +kernel) dL_law_1304 ?_
    refine lv_topi (fun f_13 ef_13 => ?_)
    obtain rfl : f_13 = xs 2 := ef_13
    have hPc := hP.sub (ws' := [(y0, .inr (18, [.int 0, .ref l1, .ref l2, .ref l3, .ref l4, .ref l5, .ref l6, .int 0, .int 3, .int 12, .ref m1, .ref m2, .ref m3, .ref m4, .ref m5, .ref m6])), (l4, .inr (3, [.int 0, .ref z, .int 0]))]) [8, 12] rfl
    have hKc := hK.sub (tys' := []) [] rfl
    have hDc := hD.sub (ws' := [(y0, .inr (18, [.int 0, .ref l1, .ref l2, .ref l3, .ref l4, .ref l5, .ref l6, .int 0, .int 3, .int 12, .ref m1, .ref m2, .ref m3, .ref m4, .ref m5, .ref m6])), (l4, .inr (3, [.int 0, .ref z, .int 0]))]) [8, 12] (by decide) rfl
    have hFc := va_free (wc := [(y0, .inr (18, [.int 0, .ref l1, .ref l2, .ref l3, .ref l4, .ref l5, .ref l6, .int 0, .int 3, .int 12, .ref m1, .ref m2, .ref m3, .ref m4, .ref m5, .ref m6])), (l4, .inr (3, [.int 0, .ref z, .int 0]))]) hD hS hA [8, 12] rfl
    refine va_calli (va_runV (As := [.int (xs 1), .int (xs 2)]) (rest := []) ⟨hx, hb, hml, hown, hts⟩ (k_X14_document l G z y0 0 l1 l2 l3 l4 l5 l6 3 12 m1 m2 m3 m4 m5 m6 0 ((xs 1)) ((xs 2)) H_6.size ) (cwV 2 hts (lw_goodApp (lw_4 q1497 q1498 q1499 q7) q1500) rfl rfl rfl (by decide +kernel) ⟨Nat.le_of_ble_eq_true rfl, Nat.le_of_ble_eq_true rfl⟩) ⟨PW.blind, va_recv hK hP (ci := 18) (q0 := 8) rfl rfl, PW.of hPc hKc hDc hG hS hFc [.ref y0, .int (xs 1), .int (xs 2)]⟩ rfl rfl hl.1 rfl (lv_room (Nat.le_of_ble_eq_true rfl)) dL_law_1305 ⟨Nat.le_of_ble_eq_true rfl, Nat.le_of_ble_eq_true rfl⟩) hS (fun q _ h => hFc q h) hFc (fun r_15 u t_17 H_14 locs ht hvm hw_16 hB hz1 hk1 hS => ?_)
    obtain ⟨th1_18, hf_19, hB⟩ := hB
    obtain ⟨hP, hD, hK⟩ := QW.join (wr := [(a1, .inr (3, [.int 0, .ref z, .int 0])), (a2, .inr (3, [.int 0, .ref z, .int 0])), (a3, .inr (3, [.int 0, .ref z, .int 0])), (a5, .inr (3, [.int 0, .ref z, .int 0])), (a6, .inr (10, [.ref b1, .ref b2, .ref b3, .int 0])), (b1, .inl (cyA, 400, .inl (nI))), (b2, .inl (cyJ, 512, .inl (fun _ => 0))), (b3, .inl (cyT, 400, .inl (fun _ => 0))), (l1, .inr (3, [.int 0, .ref z, .int 0])), (l2, .inr (3, [.int 0, .ref z, .int 0])), (l3, .inr (3, [.int 0, .ref z, .int 0])), (l5, .inr (3, [.int 0, .ref z, .int 0])), (l6, .inr (3, [.int 0, .ref z, .int 0])), (o2, .inl (cyD, 1, .inr (.inr (.inr (.inl (fun _ => 0)))))), (o1, .inl (cyL, 1, .inr (.inl (u_5))))]) (w1 := [(y0, .inr (18, [.int th1_18, .ref l1, .ref l2, .ref l3, .ref l4, .ref l5, .ref l6, .int 0, .int 3, .int 12, .ref m1, .ref m2, .ref m3, .ref m4, .ref m5, .ref m6]))]) hP hD hK [8, 12] [0, 1, 2, 3, 4, 5, 6, 7, 9, 10, 11, 13, 14, 15, 16] rfl rfl (by decide) (by decide) hk1 hFc ht hvm hB
    have hP : va_P G vwCl ([(a1, .inr (3, [.int 0, .ref z, .int 0])), (a2, .inr (3, [.int 0, .ref z, .int 0])), (a3, .inr (3, [.int 0, .ref z, .int 0])), (a5, .inr (3, [.int 0, .ref z, .int 0])), (a6, .inr (10, [.ref b1, .ref b2, .ref b3, .int 0])), (b1, .inl (cyA, 400, .inl (nI))), (b2, .inl (cyJ, 512, .inl (fun _ => 0))), (b3, .inl (cyT, 400, .inl (fun _ => 0))), (l1, .inr (3, [.int 0, .ref z, .int 0])), (l2, .inr (3, [.int 0, .ref z, .int 0])), (l3, .inr (3, [.int 0, .ref z, .int 0])), (l5, .inr (3, [.int 0, .ref z, .int 0])), (l6, .inr (3, [.int 0, .ref z, .int 0])), (o2, .inl (cyD, 1, .inr (.inr (.inr (.inl (fun _ => 0)))))), (o1, .inl (cyL, 1, .inr (.inl (u_5)))), (y0, .inr (18, [.int th1_18, .ref l1, .ref l2, .ref l3, .ref l4, .ref l5, .ref l6, .int 0, .int 3, .int 12, .ref m1, .ref m2, .ref m3, .ref m4, .ref m5, .ref m6]))]) H_14 := hP
    have hD : va_D A ([(a1, .inr (3, [.int 0, .ref z, .int 0])), (a2, .inr (3, [.int 0, .ref z, .int 0])), (a3, .inr (3, [.int 0, .ref z, .int 0])), (a5, .inr (3, [.int 0, .ref z, .int 0])), (a6, .inr (10, [.ref b1, .ref b2, .ref b3, .int 0])), (b1, .inl (cyA, 400, .inl (nI))), (b2, .inl (cyJ, 512, .inl (fun _ => 0))), (b3, .inl (cyT, 400, .inl (fun _ => 0))), (l1, .inr (3, [.int 0, .ref z, .int 0])), (l2, .inr (3, [.int 0, .ref z, .int 0])), (l3, .inr (3, [.int 0, .ref z, .int 0])), (l5, .inr (3, [.int 0, .ref z, .int 0])), (l6, .inr (3, [.int 0, .ref z, .int 0])), (o2, .inl (cyD, 1, .inr (.inr (.inr (.inl (fun _ => 0)))))), (o1, .inl (cyL, 1, .inr (.inl (u_5)))), (y0, .inr (18, [.int th1_18, .ref l1, .ref l2, .ref l3, .ref l4, .ref l5, .ref l6, .int 0, .int 3, .int 12, .ref m1, .ref m2, .ref m3, .ref m4, .ref m5, .ref m6]))]) := hD
    have hK : va_K G vwCl [(cyA, .int), (cyJ, .int), (cyT, .int), (cyO, .array .int), (cyI, .int), (cyL, .long), (cyD, .double), (cyL, .long)] s := hK
    refine W.widen (k := 147) (n := 4048) (Nat.le_of_ble_eq_true rfl) (Nat.le_of_ble_eq_true rfl) ?_
    rcases hf_19 with ⟨hψ, rfl⟩ | ⟨hψ, rfl⟩
    · have hr2 := hw_16 hψ
      refine lv_istore (lv' := [(7, .int r_15), (6, .int 0), (0, .ref b), (1, .ref x0), (2, .ref y0), (3, .ref o1), (4, .ref o2), (5, .int 0)]) hx hb dL_law_1308 hl (by decide) rfl (fun ls hl => ?_)
      refine lv_aload_n hx hb dL_law_1310 rfl (lv_at hl 4 rfl) ?_
      have hPc := hP.sub (ws' := [(y0, .inr (18, [.int 0, .ref l1, .ref l2, .ref l3, .ref l4, .ref l5, .ref l6, .int 0, .int 3, .int 12, .ref m1, .ref m2, .ref m3, .ref m4, .ref m5, .ref m6]))]) [15] rfl
      have hKc := hK.sub (tys' := []) [] rfl
      refine va_calli (va_runV (As := []) (rest := []) ⟨hx, hb, hml, hown, hts⟩ (k_X14_thrown l G z y0 0 l1 l2 l3 l4 l5 l6 3 12 m1 m2 m3 m4 m5 m6 H_14.size ) (cwV 0 hts (lw_goodApp (lw_4 q1236 q1237 q1238 q7) q1239) rfl rfl rfl (by decide +kernel) ⟨Nat.le_of_ble_eq_true rfl, Nat.le_of_ble_eq_true rfl⟩) ⟨PR.blind, va_recv hK hP (ci := 18) (q0 := 15) rfl rfl, PR.of hPc hKc hG hS hA [.ref y0]⟩ rfl rfl hl.1 rfl (lv_room (Nat.le_of_ble_eq_true rfl)) dL_law_1311 ⟨Nat.le_of_ble_eq_true rfl, Nat.le_of_ble_eq_true rfl⟩) hS (fun q h9 h => zN.not h9 h) (fun q h => hA q (Nat.le_trans hS.1 h)) (fun r_21 u t_23 H_20 locs ht hvm hw_22 hB hz1 hk1 hS => ?_)
      have hP := hP.grown hk1
      refine W.widen (k := 147) (n := 4048) (Nat.le_of_ble_eq_true rfl) (Nat.le_of_ble_eq_true rfl) ?_
      obtain rfl : 0 = r_21 := hw_22.symm
      refine lv_iload hx hb dL_law_1314 (lv_at hl 1 rfl) ?_
      refine lv_icmp_eq (tgt := 1321) hx hb dL_law_1316 (by decide) (fun c_24 => ?_) (fun c_24 => absurd rfl c_24)
      refine lv_iload hx hb dL_law_1321 (lv_at hl 1 rfl) ?_
      refine lv_if_ne (tgt := 1338) hx hb dL_law_1323 (by decide) (fun c_25 => absurd rfl c_25) (fun c_25 => ?_)
      refine lv_aload_n hx hb dL_law_1326 rfl (lv_at hl 5 rfl) ?_
      refine lv_iconst (v := 0) hx hb dL_law_1327 (by decide) ?_
      refine va_lald hx hb hK hP 14 5 rfl rfl (by unfold vp_in; decide +kernel) dL_law_1328 ?_
      refine lv_iload hx hb dL_law_1329 (lv_at hl 0 rfl) ?_
      refine lv_i2l hx hb dL_law_1331 rfl ?_
      refine W.lcmp hx hb dL_law_1332 ?_
      refine lv_if_eq (tgt := 1338) hx hb dL_law_1333 (by decide) (fun c_26 => ?_) (fun c_26 => absurd (z_cmp (hu.trans (by rw [hr2]))) c_26)
      refine lv_goto (tgt := 3288) hx hb dL_law_1338 (by decide) ?_
      exact law_tail hfl C0 hA hA2 hS (lv_sub hl [2, 7] rfl) (Nat.le_of_ble_eq_true rfl) (Nat.le_of_ble_eq_true rfl)
    · exact absurd hφ hψ
  · refine lv_istore (lv' := [(6, .int 1), (0, .ref b), (1, .ref x0), (2, .ref y0), (3, .ref o1), (4, .ref o2), (5, .int 0)]) hx hb dL_law_1290 hl (by decide) rfl (fun ls hl => ?_)
    refine lv_aload_n hx hb dL_law_1292 rfl (lv_at hl 3 rfl) ?_
    refine lv_aload_n hx hb dL_law_1293 rfl (lv_at hl 1 rfl) ?_
    refine lv_iload hx hb dL_law_1294 (lv_at hl 6 rfl) ?_
    refine lv_iconst (v := 1) hx hb dL_law_1296 (by decide) ?_
    refine lv_iadd hx hb dL_law_1297 ?_
    refine lv_topi (fun f_27 ef_27 => ?_)
    obtain rfl : f_27 = 1 := ef_27.trans (by decide)
    refine va_sld hx hb hX hbl hbA hS (by unfold vp_in; decide +kernel) dL_law_1298 ?_
    refine lv_topi (fun f_28 ef_28 => ?_)
    obtain rfl : f_28 = xs 1 := ef_28
    refine lv_aload_n hx hb dL_law_1299 rfl (lv_at hl 1 rfl) ?_
    refine lv_iload hx hb dL_law_1300 (lv_at hl 6 rfl) ?_
    refine lv_iconst (v := 2) hx hb dL_law_1302 (by decide) ?_
    refine lv_iadd hx hb dL_law_1303 ?_
    refine lv_topi (fun f_29 ef_29 => ?_)
    obtain rfl : f_29 = 2 := ef_29.trans (by decide)
    refine va_sld hx hb hX hbl hbA hS (by unfold vp_in; decide +kernel) dL_law_1304 ?_
    refine lv_topi (fun f_30 ef_30 => ?_)
    obtain rfl : f_30 = xs 2 := ef_30
    have hPc := hP.sub (ws' := [(y0, .inr (18, [.int 0, .ref l1, .ref l2, .ref l3, .ref l4, .ref l5, .ref l6, .int 0, .int 3, .int 12, .ref m1, .ref m2, .ref m3, .ref m4, .ref m5, .ref m6])), (l4, .inr (3, [.int 0, .ref z, .int 0]))]) [8, 12] rfl
    have hKc := hK.sub (tys' := []) [] rfl
    have hDc := hD.sub (ws' := [(y0, .inr (18, [.int 0, .ref l1, .ref l2, .ref l3, .ref l4, .ref l5, .ref l6, .int 0, .int 3, .int 12, .ref m1, .ref m2, .ref m3, .ref m4, .ref m5, .ref m6])), (l4, .inr (3, [.int 0, .ref z, .int 0]))]) [8, 12] (by decide) rfl
    have hFc := va_free (wc := [(y0, .inr (18, [.int 0, .ref l1, .ref l2, .ref l3, .ref l4, .ref l5, .ref l6, .int 0, .int 3, .int 12, .ref m1, .ref m2, .ref m3, .ref m4, .ref m5, .ref m6])), (l4, .inr (3, [.int 0, .ref z, .int 0]))]) hD hS hA [8, 12] rfl
    refine va_calli (va_runV (As := [.int (xs 1), .int (xs 2)]) (rest := []) ⟨hx, hb, hml, hown, hts⟩ (k_X14_document l G z y0 0 l1 l2 l3 l4 l5 l6 3 12 m1 m2 m3 m4 m5 m6 0 ((xs 1)) ((xs 2)) H_6.size ) (cwV 2 hts (lw_goodApp (lw_4 q1497 q1498 q1499 q7) q1500) rfl rfl rfl (by decide +kernel) ⟨Nat.le_of_ble_eq_true rfl, Nat.le_of_ble_eq_true rfl⟩) ⟨PW.blind, va_recv hK hP (ci := 18) (q0 := 8) rfl rfl, PW.of hPc hKc hDc hG hS hFc [.ref y0, .int (xs 1), .int (xs 2)]⟩ rfl rfl hl.1 rfl (lv_room (Nat.le_of_ble_eq_true rfl)) dL_law_1305 ⟨Nat.le_of_ble_eq_true rfl, Nat.le_of_ble_eq_true rfl⟩) hS (fun q _ h => hFc q h) hFc (fun r_32 u t_34 H_31 locs ht hvm hw_33 hB hz1 hk1 hS => ?_)
    obtain ⟨th1_35, hf_36, hB⟩ := hB
    obtain ⟨hP, hD, hK⟩ := QW.join (wr := [(a1, .inr (3, [.int 0, .ref z, .int 0])), (a2, .inr (3, [.int 0, .ref z, .int 0])), (a3, .inr (3, [.int 0, .ref z, .int 0])), (a5, .inr (3, [.int 0, .ref z, .int 0])), (a6, .inr (10, [.ref b1, .ref b2, .ref b3, .int 0])), (b1, .inl (cyA, 400, .inl (nI))), (b2, .inl (cyJ, 512, .inl (fun _ => 0))), (b3, .inl (cyT, 400, .inl (fun _ => 0))), (l1, .inr (3, [.int 0, .ref z, .int 0])), (l2, .inr (3, [.int 0, .ref z, .int 0])), (l3, .inr (3, [.int 0, .ref z, .int 0])), (l5, .inr (3, [.int 0, .ref z, .int 0])), (l6, .inr (3, [.int 0, .ref z, .int 0])), (o2, .inl (cyD, 1, .inr (.inr (.inr (.inl (fun _ => 0)))))), (o1, .inl (cyL, 1, .inr (.inl (u_5))))]) (w1 := [(y0, .inr (18, [.int th1_35, .ref l1, .ref l2, .ref l3, .ref l4, .ref l5, .ref l6, .int 0, .int 3, .int 12, .ref m1, .ref m2, .ref m3, .ref m4, .ref m5, .ref m6]))]) hP hD hK [8, 12] [0, 1, 2, 3, 4, 5, 6, 7, 9, 10, 11, 13, 14, 15, 16] rfl rfl (by decide) (by decide) hk1 hFc ht hvm hB
    have hP : va_P G vwCl ([(a1, .inr (3, [.int 0, .ref z, .int 0])), (a2, .inr (3, [.int 0, .ref z, .int 0])), (a3, .inr (3, [.int 0, .ref z, .int 0])), (a5, .inr (3, [.int 0, .ref z, .int 0])), (a6, .inr (10, [.ref b1, .ref b2, .ref b3, .int 0])), (b1, .inl (cyA, 400, .inl (nI))), (b2, .inl (cyJ, 512, .inl (fun _ => 0))), (b3, .inl (cyT, 400, .inl (fun _ => 0))), (l1, .inr (3, [.int 0, .ref z, .int 0])), (l2, .inr (3, [.int 0, .ref z, .int 0])), (l3, .inr (3, [.int 0, .ref z, .int 0])), (l5, .inr (3, [.int 0, .ref z, .int 0])), (l6, .inr (3, [.int 0, .ref z, .int 0])), (o2, .inl (cyD, 1, .inr (.inr (.inr (.inl (fun _ => 0)))))), (o1, .inl (cyL, 1, .inr (.inl (u_5)))), (y0, .inr (18, [.int th1_35, .ref l1, .ref l2, .ref l3, .ref l4, .ref l5, .ref l6, .int 0, .int 3, .int 12, .ref m1, .ref m2, .ref m3, .ref m4, .ref m5, .ref m6]))]) H_31 := hP
    have hD : va_D A ([(a1, .inr (3, [.int 0, .ref z, .int 0])), (a2, .inr (3, [.int 0, .ref z, .int 0])), (a3, .inr (3, [.int 0, .ref z, .int 0])), (a5, .inr (3, [.int 0, .ref z, .int 0])), (a6, .inr (10, [.ref b1, .ref b2, .ref b3, .int 0])), (b1, .inl (cyA, 400, .inl (nI))), (b2, .inl (cyJ, 512, .inl (fun _ => 0))), (b3, .inl (cyT, 400, .inl (fun _ => 0))), (l1, .inr (3, [.int 0, .ref z, .int 0])), (l2, .inr (3, [.int 0, .ref z, .int 0])), (l3, .inr (3, [.int 0, .ref z, .int 0])), (l5, .inr (3, [.int 0, .ref z, .int 0])), (l6, .inr (3, [.int 0, .ref z, .int 0])), (o2, .inl (cyD, 1, .inr (.inr (.inr (.inl (fun _ => 0)))))), (o1, .inl (cyL, 1, .inr (.inl (u_5)))), (y0, .inr (18, [.int th1_35, .ref l1, .ref l2, .ref l3, .ref l4, .ref l5, .ref l6, .int 0, .int 3, .int 12, .ref m1, .ref m2, .ref m3, .ref m4, .ref m5, .ref m6]))]) := hD
    have hK : va_K G vwCl [(cyA, .int), (cyJ, .int), (cyT, .int), (cyO, .array .int), (cyI, .int), (cyL, .long), (cyD, .double), (cyL, .long)] s := hK
    refine W.widen (k := 147) (n := 4048) (Nat.le_of_ble_eq_true rfl) (Nat.le_of_ble_eq_true rfl) ?_
    rcases hf_36 with ⟨hψ, rfl⟩ | ⟨hψ, rfl⟩
    · exact absurd hψ hφ
    · refine lv_istore (lv' := [(7, .int r_32), (6, .int 1), (0, .ref b), (1, .ref x0), (2, .ref y0), (3, .ref o1), (4, .ref o2), (5, .int 0)]) hx hb dL_law_1308 hl (by decide) rfl (fun ls hl => ?_)
      refine lv_aload_n hx hb dL_law_1310 rfl (lv_at hl 4 rfl) ?_
      have hPc := hP.sub (ws' := [(y0, .inr (18, [.int 1, .ref l1, .ref l2, .ref l3, .ref l4, .ref l5, .ref l6, .int 0, .int 3, .int 12, .ref m1, .ref m2, .ref m3, .ref m4, .ref m5, .ref m6]))]) [15] rfl
      have hKc := hK.sub (tys' := []) [] rfl
      refine va_calli (va_runV (As := []) (rest := []) ⟨hx, hb, hml, hown, hts⟩ (k_X14_thrown l G z y0 1 l1 l2 l3 l4 l5 l6 3 12 m1 m2 m3 m4 m5 m6 H_31.size ) (cwV 0 hts (lw_goodApp (lw_4 q1236 q1237 q1238 q7) q1239) rfl rfl rfl (by decide +kernel) ⟨Nat.le_of_ble_eq_true rfl, Nat.le_of_ble_eq_true rfl⟩) ⟨PR.blind, va_recv hK hP (ci := 18) (q0 := 15) rfl rfl, PR.of hPc hKc hG hS hA [.ref y0]⟩ rfl rfl hl.1 rfl (lv_room (Nat.le_of_ble_eq_true rfl)) dL_law_1311 ⟨Nat.le_of_ble_eq_true rfl, Nat.le_of_ble_eq_true rfl⟩) hS (fun q h9 h => zN.not h9 h) (fun q h => hA q (Nat.le_trans hS.1 h)) (fun r_38 u t_40 H_37 locs ht hvm hw_39 hB hz1 hk1 hS => ?_)
      have hP := hP.grown hk1
      refine W.widen (k := 147) (n := 4048) (Nat.le_of_ble_eq_true rfl) (Nat.le_of_ble_eq_true rfl) ?_
      obtain rfl : 1 = r_38 := hw_39.symm
      refine lv_iload hx hb dL_law_1314 (lv_at hl 1 rfl) ?_
      refine lv_icmp_eq (tgt := 1321) hx hb dL_law_1316 (by decide) (fun c_41 => ?_) (fun c_41 => absurd rfl c_41)
      refine lv_iload hx hb dL_law_1321 (lv_at hl 1 rfl) ?_
      refine lv_if_ne (tgt := 1338) hx hb dL_law_1323 (by decide) (fun c_42 => ?_) (fun c_42 => absurd c_42 (by decide))
      refine lv_goto (tgt := 3288) hx hb dL_law_1338 (by decide) ?_
      exact law_tail hfl C0 hA hA2 hS (lv_sub hl [2, 7] rfl) (Nat.le_of_ble_eq_true rfl) (Nat.le_of_ble_eq_true rfl)
set_option maxHeartbeats 8000000 in
set_option maxRecDepth 100000 in
/-- script value 14 -/
theorem law_case_14 {p : Program} {l : Launch} {e : Env} {s : State} {m : MethodId} {below : List Frame} {meth : Method} {c : Code} {b : Nat} {xs : Nat → Int32} (hfl : l.stackTraces = false) (C0 : lw_At p s m meth c b 7 xs) {A : Nat → Prop} (hA : ∀ q : Nat, s.heap.size ≤ q → A q) (hA2 : ∀ q : Nat, A q → s.heap.size ≤ q) (G : va_G) (z : Nat) (hG : zG z A s s.heap) (x0 : Nat) (y0 : Nat) (o1 : Nat) (o2 : Nat) (cyL : ClassId) (cyD : ClassId) (a1 : Nat) (a2 : Nat) (a3 : Nat) (a4 : Nat) (a5 : Nat) (a6 : Nat) (a7 : Nat) (a8 : Nat) (b1 : Nat) (b2 : Nat) (b3 : Nat) (cyA : ClassId) (cyJ : ClassId) (cyT : ClassId) (d1 : Nat) (d2 : Nat) (d3 : Nat) (d4 : Nat) (cyO : ClassId) (fS : Nat → Option Nat) (cyI : ClassId) (r0 : Nat) (l1 : Nat) (l2 : Nat) (l3 : Nat) (l4 : Nat) (l5 : Nat) (l6 : Nat) (m1 : Nat) (m2 : Nat) (m3 : Nat) (m4 : Nat) (m5 : Nat) (m6 : Nat) (hf0 : fS 0 = some r0) {H : Heap} {locs : List Loc} (hP : va_P G vwCl ([(x0, .inr (12, [.ref a1, .ref a2, .ref a3, .ref a4, .ref a5, .ref a6, .ref a7, .ref a8, .int 3, .int 0])), (a1, .inr (3, [.int 0, .ref z, .int 0])), (a2, .inr (3, [.int 0, .ref z, .int 0])), (a3, .inr (3, [.int 0, .ref z, .int 0])), (a4, .inr (3, [.int 0, .ref z, .int 0])), (a5, .inr (3, [.int 0, .ref z, .int 0])), (a6, .inr (10, [.ref b1, .ref b2, .ref b3, .int 0])), (b1, .inl (cyA, 400, .inl (nI))), (b2, .inl (cyJ, 512, .inl (fun _ => 0))), (b3, .inl (cyT, 400, .inl (fun _ => 0))), (a7, .inr (4, [.ref d1, .ref d2, .ref d3, .ref d4, .int 0, .int 12])), (d4, .inl (cyO, 20, .inr (.inr (.inr (.inr (fS)))))), (r0, .inl (cyI, 20, .inl (fun _ => 0))), (y0, .inr (18, [.int 0, .ref l1, .ref l2, .ref l3, .ref l4, .ref l5, .ref l6, .int 0, .int 3, .int 12, .ref m1, .ref m2, .ref m3, .ref m4, .ref m5, .ref m6])), (l1, .inr (3, [.int 0, .ref z, .int 0])), (l2, .inr (3, [.int 0, .ref z, .int 0])), (l3, .inr (3, [.int 0, .ref z, .int 0])), (l4, .inr (3, [.int 0, .ref z, .int 0])), (l5, .inr (3, [.int 0, .ref z, .int 0])), (l6, .inr (3, [.int 0, .ref z, .int 0])), (o1, .inl (cyL, 1, .inr (.inl (fun _ => 0)))), (o2, .inl (cyD, 1, .inr (.inr (.inr (.inl (fun _ => 0))))))]) H) (hD : va_D A ([(x0, .inr (12, [.ref a1, .ref a2, .ref a3, .ref a4, .ref a5, .ref a6, .ref a7, .ref a8, .int 3, .int 0])), (a1, .inr (3, [.int 0, .ref z, .int 0])), (a2, .inr (3, [.int 0, .ref z, .int 0])), (a3, .inr (3, [.int 0, .ref z, .int 0])), (a4, .inr (3, [.int 0, .ref z, .int 0])), (a5, .inr (3, [.int 0, .ref z, .int 0])), (a6, .inr (10, [.ref b1, .ref b2, .ref b3, .int 0])), (b1, .inl (cyA, 400, .inl (nI))), (b2, .inl (cyJ, 512, .inl (fun _ => 0))), (b3, .inl (cyT, 400, .inl (fun _ => 0))), (a7, .inr (4, [.ref d1, .ref d2, .ref d3, .ref d4, .int 0, .int 12])), (d4, .inl (cyO, 20, .inr (.inr (.inr (.inr (fS)))))), (r0, .inl (cyI, 20, .inl (fun _ => 0))), (y0, .inr (18, [.int 0, .ref l1, .ref l2, .ref l3, .ref l4, .ref l5, .ref l6, .int 0, .int 3, .int 12, .ref m1, .ref m2, .ref m3, .ref m4, .ref m5, .ref m6])), (l1, .inr (3, [.int 0, .ref z, .int 0])), (l2, .inr (3, [.int 0, .ref z, .int 0])), (l3, .inr (3, [.int 0, .ref z, .int 0])), (l4, .inr (3, [.int 0, .ref z, .int 0])), (l5, .inr (3, [.int 0, .ref z, .int 0])), (l6, .inr (3, [.int 0, .ref z, .int 0])), (o1, .inl (cyL, 1, .inr (.inl (fun _ => 0)))), (o2, .inl (cyD, 1, .inr (.inr (.inr (.inl (fun _ => 0))))))])) (hK : va_K G vwCl [(cyA, .int), (cyJ, .int), (cyT, .int), (cyO, .array .int), (cyI, .int), (cyL, .long), (cyD, .double)] s) (hS : va_S A s.heap H locs) {ls : Array Slot} (hl : lv_has ls 9 [(0, .ref b), (1, .ref x0), (2, .ref y0), (3, .ref o1), (4, .ref o2), (5, .int 0)]) : W p l e room_1 s m #[Value.ref b] below meth c H locs 135 2991 (lw_Z below #[Value.ref b] s) (F0 m 1341 ls []) := by
  have C9 := C0
  obtain ⟨hx, hb, hr, hml, hown, hts0, hX, hbl, hlocks, hgv⟩ := id C0
  have hg := lw_sub_good hts0
  have hts : ∀ w ∈ (lw_hd :: lw_good), w.before #[Value.ref b] s = true := fun w h => (List.mem_cons.mp h).elim (fun e9 => e9 ▸ hg _ q0) (hg w)
  have hbA : ¬ A b := fun h => Nat.not_le.mpr hbl (hA2 b h)
  refine lv_aload_n hx hb dL_law_1341 rfl (lv_at hl 1 rfl) ?_
  refine lv_aload_n hx hb dL_law_1342 rfl (lv_at hl 0 rfl) ?_
  refine lv_iload hx hb dL_law_1343 (lv_at hl 5 rfl) ?_
  refine lv_iconst (v := 1) hx hb dL_law_1345 (by decide) ?_
  refine lv_iadd hx hb dL_law_1346 ?_
  refine lv_topi (fun f_1 ef_1 => ?_)
  obtain rfl : f_1 = 1 := ef_1.trans (by decide)
  refine va_sld hx hb hX hbl hbA hS (by unfold vp_in; decide +kernel) dL_law_1347 ?_
  refine lv_topi (fun f_2 ef_2 => ?_)
  obtain rfl : f_2 = xs 1 := ef_2
  refine lv_aload_n hx hb dL_law_1348 rfl (lv_at hl 0 rfl) ?_
  refine lv_iload hx hb dL_law_1349 (lv_at hl 5 rfl) ?_
  refine lv_iconst (v := 2) hx hb dL_law_1351 (by decide) ?_
  refine lv_iadd hx hb dL_law_1352 ?_
  refine lv_topi (fun f_3 ef_3 => ?_)
  obtain rfl : f_3 = 2 := ef_3.trans (by decide)
  refine va_sld hx hb hX hbl hbA hS (by unfold vp_in; decide +kernel) dL_law_1353 ?_
  refine lv_topi (fun f_4 ef_4 => ?_)
  obtain rfl : f_4 = xs 2 := ef_4
  refine lv_aload_n hx hb dL_law_1354 rfl (lv_at hl 0 rfl) ?_
  refine lv_iload hx hb dL_law_1355 (lv_at hl 5 rfl) ?_
  refine lv_iconst (v := 3) hx hb dL_law_1357 (by decide) ?_
  refine lv_iadd hx hb dL_law_1358 ?_
  refine lv_topi (fun f_5 ef_5 => ?_)
  obtain rfl : f_5 = 3 := ef_5.trans (by decide)
  refine va_sld hx hb hX hbl hbA hS (by unfold vp_in; decide +kernel) dL_law_1359 ?_
  refine lv_topi (fun f_6 ef_6 => ?_)
  obtain rfl : f_6 = xs 3 := ef_6
  refine lv_aload_n hx hb dL_law_1360 rfl (lv_at hl 3 rfl) ?_
  have hPc := hP.sub (ws' := [(x0, .inr (12, [.ref a1, .ref a2, .ref a3, .ref a4, .ref a5, .ref a6, .ref a7, .ref a8, .int 3, .int 0])), (a4, .inr (3, [.int 0, .ref z, .int 0])), (o1, .inl (cyL, 1, .inr (.inl (fun _ => 0))))]) [0, 4, 20] rfl
  have hKc := hK.sub (tys' := [(cyL, .long)]) [5] rfl
  have hDc := hD.sub (ws' := [(x0, .inr (12, [.ref a1, .ref a2, .ref a3, .ref a4, .ref a5, .ref a6, .ref a7, .ref a8, .int 3, .int 0])), (a4, .inr (3, [.int 0, .ref z, .int 0])), (o1, .inl (cyL, 1, .inr (.inl (fun _ => 0))))]) [0, 4, 20] (by decide) rfl
  have hFc := va_free (wc := [(x0, .inr (12, [.ref a1, .ref a2, .ref a3, .ref a4, .ref a5, .ref a6, .ref a7, .ref a8, .int 3, .int 0])), (a4, .inr (3, [.int 0, .ref z, .int 0])), (o1, .inl (cyL, 1, .inr (.inl (fun _ => 0))))]) hD hS hA [0, 4, 20] rfl
  refine va_calli (vx_runSW (As := [.ref x0, .int (xs 1), .int (xs 2), .int (xs 3), .ref o1]) (rest := []) ⟨hx, hb, hml, hown, hts⟩ (k_L_use l hfl G z x0 a1 a2 a3 a4 a5 a6 a7 a8 3 0 0 z ((xs 1)) ((xs 2)) ((xs 3)) o1 cyL (fun _ => 0) H.size ) (vx_cwSW 5 hts (lw_goodApp (lw_3 q853 q854 q0) q855) rfl rfl rfl (by decide +kernel) ⟨Nat.le_of_ble_eq_true rfl, Nat.le_of_ble_eq_true rfl⟩) ⟨PW.blind, PW.of hPc hKc hDc hG hS hFc [.ref x0, .int (xs 1), .int (xs 2), .int (xs 3), .ref o1]⟩ rfl rfl hl.1 rfl (lv_room (Nat.le_of_ble_eq_true rfl)) dL_law_1361 ⟨Nat.le_of_ble_eq_true rfl, Nat.le_of_ble_eq_true rfl⟩) hS (fun q _ h => hFc q h) hFc (fun r_8 u t_10 H_7 locs ht hvm hw_9 hB hz1 hk1 hS => ?_)
  obtain ⟨hP, hD, hK⟩ := QW.join (wr := [(a1, .inr (3, [.int 0, .ref z, .int 0])), (a2, .inr (3, [.int 0, .ref z, .int 0])), (a3, .inr (3, [.int 0, .ref z, .int 0])), (a5, .inr (3, [.int 0, .ref z, .int 0])), (a6, .inr (10, [.ref b1, .ref b2, .ref b3, .int 0])), (b1, .inl (cyA, 400, .inl (nI))), (b2, .inl (cyJ, 512, .inl (fun _ => 0))), (b3, .inl (cyT, 400, .inl (fun _ => 0))), (a7, .inr (4, [.ref d1, .ref d2, .ref d3, .ref d4, .int 0, .int 12])), (d4, .inl (cyO, 20, .inr (.inr (.inr (.inr (fS)))))), (r0, .inl (cyI, 20, .inl (fun _ => 0))), (y0, .inr (18, [.int 0, .ref l1, .ref l2, .ref l3, .ref l4, .ref l5, .ref l6, .int 0, .int 3, .int 12, .ref m1, .ref m2, .ref m3, .ref m4, .ref m5, .ref m6])), (l1, .inr (3, [.int 0, .ref z, .int 0])), (l2, .inr (3, [.int 0, .ref z, .int 0])), (l3, .inr (3, [.int 0, .ref z, .int 0])), (l4, .inr (3, [.int 0, .ref z, .int 0])), (l5, .inr (3, [.int 0, .ref z, .int 0])), (l6, .inr (3, [.int 0, .ref z, .int 0])), (o2, .inl (cyD, 1, .inr (.inr (.inr (.inl (fun _ => 0))))))]) (w1 := [(o1, .inl (cyL, 1, .inr (.inl ((fun _ => 0)))))]) hP hD hK [0, 4, 20] [1, 2, 3, 5, 6, 7, 8, 9, 10, 11, 12, 13, 14, 15, 16, 17, 18, 19, 21] rfl rfl (by decide) (by decide) hk1 hFc ht hvm hB
  have hP : va_P G vwCl ([(a1, .inr (3, [.int 0, .ref z, .int 0])), (a2, .inr (3, [.int 0, .ref z, .int 0])), (a3, .inr (3, [.int 0, .ref z, .int 0])), (a5, .inr (3, [.int 0, .ref z, .int 0])), (a6, .inr (10, [.ref b1, .ref b2, .ref b3, .int 0])), (b1, .inl (cyA, 400, .inl (nI))), (b2, .inl (cyJ, 512, .inl (fun _ => 0))), (b3, .inl (cyT, 400, .inl (fun _ => 0))), (a7, .inr (4, [.ref d1, .ref d2, .ref d3, .ref d4, .int 0, .int 12])), (d4, .inl (cyO, 20, .inr (.inr (.inr (.inr (fS)))))), (r0, .inl (cyI, 20, .inl (fun _ => 0))), (y0, .inr (18, [.int 0, .ref l1, .ref l2, .ref l3, .ref l4, .ref l5, .ref l6, .int 0, .int 3, .int 12, .ref m1, .ref m2, .ref m3, .ref m4, .ref m5, .ref m6])), (l1, .inr (3, [.int 0, .ref z, .int 0])), (l2, .inr (3, [.int 0, .ref z, .int 0])), (l3, .inr (3, [.int 0, .ref z, .int 0])), (l4, .inr (3, [.int 0, .ref z, .int 0])), (l5, .inr (3, [.int 0, .ref z, .int 0])), (l6, .inr (3, [.int 0, .ref z, .int 0])), (o2, .inl (cyD, 1, .inr (.inr (.inr (.inl (fun _ => 0)))))), (o1, .inl (cyL, 1, .inr (.inl ((fun _ => 0)))))]) H_7 := hP
  have hD : va_D A ([(a1, .inr (3, [.int 0, .ref z, .int 0])), (a2, .inr (3, [.int 0, .ref z, .int 0])), (a3, .inr (3, [.int 0, .ref z, .int 0])), (a5, .inr (3, [.int 0, .ref z, .int 0])), (a6, .inr (10, [.ref b1, .ref b2, .ref b3, .int 0])), (b1, .inl (cyA, 400, .inl (nI))), (b2, .inl (cyJ, 512, .inl (fun _ => 0))), (b3, .inl (cyT, 400, .inl (fun _ => 0))), (a7, .inr (4, [.ref d1, .ref d2, .ref d3, .ref d4, .int 0, .int 12])), (d4, .inl (cyO, 20, .inr (.inr (.inr (.inr (fS)))))), (r0, .inl (cyI, 20, .inl (fun _ => 0))), (y0, .inr (18, [.int 0, .ref l1, .ref l2, .ref l3, .ref l4, .ref l5, .ref l6, .int 0, .int 3, .int 12, .ref m1, .ref m2, .ref m3, .ref m4, .ref m5, .ref m6])), (l1, .inr (3, [.int 0, .ref z, .int 0])), (l2, .inr (3, [.int 0, .ref z, .int 0])), (l3, .inr (3, [.int 0, .ref z, .int 0])), (l4, .inr (3, [.int 0, .ref z, .int 0])), (l5, .inr (3, [.int 0, .ref z, .int 0])), (l6, .inr (3, [.int 0, .ref z, .int 0])), (o2, .inl (cyD, 1, .inr (.inr (.inr (.inl (fun _ => 0)))))), (o1, .inl (cyL, 1, .inr (.inl ((fun _ => 0)))))]) := hD
  have hK : va_K G vwCl [(cyA, .int), (cyJ, .int), (cyT, .int), (cyO, .array .int), (cyI, .int), (cyL, .long), (cyD, .double), (cyL, .long)] s := hK
  refine W.widen (k := 136) (n := 2997) (Nat.le_of_ble_eq_true rfl) (Nat.le_of_ble_eq_true rfl) ?_
  obtain rfl : 1 = r_8 := hw_9.symm
  refine lv_istore (lv' := [(6, .int 1), (0, .ref b), (1, .ref x0), (2, .ref y0), (3, .ref o1), (4, .ref o2), (5, .int 0)]) hx hb dL_law_1364 hl (by decide) rfl (fun ls hl => ?_)
  refine lv_aload_n hx hb dL_law_1366 rfl (lv_at hl 3 rfl) ?_
  refine lv_aload_n hx hb dL_law_1367 rfl (lv_at hl 1 rfl) ?_
  refine lv_iload hx hb dL_law_1368 (lv_at hl 6 rfl) ?_
  refine lv_iconst (v := 1) hx hb dL_law_1370 (by decide) ?_
  refine lv_iadd hx hb dL_law_1371 ?_
  refine lv_topi (fun f_11 ef_11 => ?_)
  obtain rfl : f_11 = 1 := ef_11.trans (by decide)
  refine va_sld hx hb hX hbl hbA hS (by unfold vp_in; decide +kernel) dL_law_1372 ?_
  refine lv_topi (fun f_12 ef_12 => ?_)
  obtain rfl : f_12 = xs 1 := ef_12
  refine lv_aload_n hx hb dL_law_1373 rfl (lv_at hl 1 rfl) ?_
  refine lv_iload hx hb dL_law_1374 (lv_at hl 6 rfl) ?_
  refine lv_iconst (v := 2) hx hb dL_law_1376 (by decide) ?_
  refine lv_iadd hx hb dL_law_1377 ?_
  refine lv_topi (fun f_13 ef_13 => ?_)
  obtain rfl : f_13 = 2 := ef_13.trans (by decide)
  refine va_sld hx hb hX hbl hbA hS (by unfold vp_in; decide +kernel) dL_law_1378 ?_
  refine lv_topi (fun f_14 ef_14 => ?_)
  obtain rfl : f_14 = xs 2 := ef_14
  refine lv_aload_n hx hb dL_law_1379 rfl (lv_at hl 1 rfl) ?_
  refine lv_iload hx hb dL_law_1380 (lv_at hl 6 rfl) ?_
  refine lv_iconst (v := 3) hx hb dL_law_1382 (by decide) ?_
  refine lv_iadd hx hb dL_law_1383 ?_
  refine lv_topi (fun f_15 ef_15 => ?_)
  obtain rfl : f_15 = 3 := ef_15.trans (by decide)
  refine va_sld hx hb hX hbl hbA hS (by unfold vp_in; decide +kernel) dL_law_1384 ?_
  refine lv_topi (fun f_16 ef_16 => ?_)
  obtain rfl : f_16 = xs 3 := ef_16
  have hPc := hP.sub (ws' := [(y0, .inr (18, [.int 0, .ref l1, .ref l2, .ref l3, .ref l4, .ref l5, .ref l6, .int 0, .int 3, .int 12, .ref m1, .ref m2, .ref m3, .ref m4, .ref m5, .ref m6])), (l3, .inr (3, [.int 0, .ref z, .int 0])), (l4, .inr (3, [.int 0, .ref z, .int 0]))]) [11, 14, 15] rfl
  have hKc := hK.sub (tys' := []) [] rfl
  have hDc := hD.sub (ws' := [(y0, .inr (18, [.int 0, .ref l1, .ref l2, .ref l3, .ref l4, .ref l5, .ref l6, .int 0, .int 3, .int 12, .ref m1, .ref m2, .ref m3, .ref m4, .ref m5, .ref m6])), (l3, .inr (3, [.int 0, .ref z, .int 0])), (l4, .inr (3, [.int 0, .ref z, .int 0]))]) [11, 14, 15] (by decide) rfl
  have hFc := va_free (wc := [(y0, .inr (18, [.int 0, .ref l1, .ref l2, .ref l3, .ref l4, .ref l5, .ref l6, .int 0, .int 3, .int 12, .ref m1, .ref m2, .ref m3, .ref m4, .ref m5, .ref m6])), (l3, .inr (3, [.int 0, .ref z, .int 0])), (l4, .inr (3, [.int 0, .ref z, .int 0]))]) hD hS hA [11, 14, 15] rfl
  refine va_calli (va_runV (As := [.int (xs 1), .int (xs 2), .int (xs 3)]) (rest := []) ⟨hx, hb, hml, hown, hts⟩ (k_X14_use l G z y0 0 l1 l2 l3 l4 l5 l6 3 12 m1 m2 m3 m4 m5 m6 0 z 0 z ((xs 1)) ((xs 2)) ((xs 3)) H_7.size ) (cwV 3 hts (lw_goodApp (lw_4 q1532 q1533 q1534 q7) q1535) rfl rfl rfl (by decide +kernel) ⟨Nat.le_of_ble_eq_true rfl, Nat.le_of_ble_eq_true rfl⟩) ⟨PW.blind, va_recv hK hP (ci := 18) (q0 := 11) rfl rfl, PW.of hPc hKc hDc hG hS hFc [.ref y0, .int (xs 1), .int (xs 2), .int (xs 3)]⟩ rfl rfl hl.1 rfl (lv_room (Nat.le_of_ble_eq_true rfl)) dL_law_1385 ⟨Nat.le_of_ble_eq_true rfl, Nat.le_of_ble_eq_true rfl⟩) hS (fun q _ h => hFc q h) hFc (fun r_18 u t_20 H_17 locs ht hvm hw_19 hB hz1 hk1 hS => ?_)
  obtain ⟨hP, hD, hK⟩ := QW.join (wr := [(a1, .inr (3, [.int 0, .ref z, .int 0])), (a2, .inr (3, [.int 0, .ref z, .int 0])), (a3, .inr (3, [.int 0, .ref z, .int 0])), (a5, .inr (3, [.int 0, .ref z, .int 0])), (a6, .inr (10, [.ref b1, .ref b2, .ref b3, .int 0])), (b1, .inl (cyA, 400, .inl (nI))), (b2, .inl (cyJ, 512, .inl (fun _ => 0))), (b3, .inl (cyT, 400, .inl (fun _ => 0))), (a7, .inr (4, [.ref d1, .ref d2, .ref d3, .ref d4, .int 0, .int 12])), (d4, .inl (cyO, 20, .inr (.inr (.inr (.inr (fS)))))), (r0, .inl (cyI, 20, .inl (fun _ => 0))), (l1, .inr (3, [.int 0, .ref z, .int 0])), (l2, .inr (3, [.int 0, .ref z, .int 0])), (l5, .inr (3, [.int 0, .ref z, .int 0])), (l6, .inr (3, [.int 0, .ref z, .int 0])), (o2, .inl (cyD, 1, .inr (.inr (.inr (.inl (fun _ => 0)))))), (o1, .inl (cyL, 1, .inr (.inl ((fun _ => 0)))))]) (w1 := [(y0, .inr (18, [.int 1, .ref l1, .ref l2, .ref l3, .ref l4, .ref l5, .ref l6, .int 0, .int 3, .int 12, .ref m1, .ref m2, .ref m3, .ref m4, .ref m5, .ref m6]))]) hP hD hK [11, 14, 15] [0, 1, 2, 3, 4, 5, 6, 7, 8, 9, 10, 12, 13, 16, 17, 18, 19] rfl rfl (by decide) (by decide) hk1 hFc ht hvm hB
  have hP : va_P G vwCl ([(a1, .inr (3, [.int 0, .ref z, .int 0])), (a2, .inr (3, [.int 0, .ref z, .int 0])), (a3, .inr (3, [.int 0, .ref z, .int 0])), (a5, .inr (3, [.int 0, .ref z, .int 0])), (a6, .inr (10, [.ref b1, .ref b2, .ref b3, .int 0])), (b1, .inl (cyA, 400, .inl (nI))), (b2, .inl (cyJ, 512, .inl (fun _ => 0))), (b3, .inl (cyT, 400, .inl (fun _ => 0))), (a7, .inr (4, [.ref d1, .ref d2, .ref d3, .ref d4, .int 0, .int 12])), (d4, .inl (cyO, 20, .inr (.inr (.inr (.inr (fS)))))), (r0, .inl (cyI, 20, .inl (fun _ => 0))), (l1, .inr (3, [.int 0, .ref z, .int 0])), (l2, .inr (3, [.int 0, .ref z, .int 0])), (l5, .inr (3, [.int 0, .ref z, .int 0])), (l6, .inr (3, [.int 0, .ref z, .int 0])), (o2, .inl (cyD, 1, .inr (.inr (.inr (.inl (fun _ => 0)))))), (o1, .inl (cyL, 1, .inr (.inl ((fun _ => 0))))), (y0, .inr (18, [.int 1, .ref l1, .ref l2, .ref l3, .ref l4, .ref l5, .ref l6, .int 0, .int 3, .int 12, .ref m1, .ref m2, .ref m3, .ref m4, .ref m5, .ref m6]))]) H_17 := hP
  have hD : va_D A ([(a1, .inr (3, [.int 0, .ref z, .int 0])), (a2, .inr (3, [.int 0, .ref z, .int 0])), (a3, .inr (3, [.int 0, .ref z, .int 0])), (a5, .inr (3, [.int 0, .ref z, .int 0])), (a6, .inr (10, [.ref b1, .ref b2, .ref b3, .int 0])), (b1, .inl (cyA, 400, .inl (nI))), (b2, .inl (cyJ, 512, .inl (fun _ => 0))), (b3, .inl (cyT, 400, .inl (fun _ => 0))), (a7, .inr (4, [.ref d1, .ref d2, .ref d3, .ref d4, .int 0, .int 12])), (d4, .inl (cyO, 20, .inr (.inr (.inr (.inr (fS)))))), (r0, .inl (cyI, 20, .inl (fun _ => 0))), (l1, .inr (3, [.int 0, .ref z, .int 0])), (l2, .inr (3, [.int 0, .ref z, .int 0])), (l5, .inr (3, [.int 0, .ref z, .int 0])), (l6, .inr (3, [.int 0, .ref z, .int 0])), (o2, .inl (cyD, 1, .inr (.inr (.inr (.inl (fun _ => 0)))))), (o1, .inl (cyL, 1, .inr (.inl ((fun _ => 0))))), (y0, .inr (18, [.int 1, .ref l1, .ref l2, .ref l3, .ref l4, .ref l5, .ref l6, .int 0, .int 3, .int 12, .ref m1, .ref m2, .ref m3, .ref m4, .ref m5, .ref m6]))]) := hD
  have hK : va_K G vwCl [(cyA, .int), (cyJ, .int), (cyT, .int), (cyO, .array .int), (cyI, .int), (cyL, .long), (cyD, .double), (cyL, .long)] s := hK
  refine W.widen (k := 136) (n := 2997) (Nat.le_of_ble_eq_true rfl) (Nat.le_of_ble_eq_true rfl) ?_
  refine lv_istore (lv' := [(7, .int r_18), (6, .int 1), (0, .ref b), (1, .ref x0), (2, .ref y0), (3, .ref o1), (4, .ref o2), (5, .int 0)]) hx hb dL_law_1388 hl (by decide) rfl (fun ls hl => ?_)
  refine lv_aload_n hx hb dL_law_1390 rfl (lv_at hl 4 rfl) ?_
  have hPc := hP.sub (ws' := [(y0, .inr (18, [.int 1, .ref l1, .ref l2, .ref l3, .ref l4, .ref l5, .ref l6, .int 0, .int 3, .int 12, .ref m1, .ref m2, .ref m3, .ref m4, .ref m5, .ref m6]))]) [17] rfl
  have hKc := hK.sub (tys' := []) [] rfl
  refine va_calli (va_runV (As := []) (rest := []) ⟨hx, hb, hml, hown, hts⟩ (k_X14_thrown l G z y0 1 l1 l2 l3 l4 l5 l6 3 12 m1 m2 m3 m4 m5 m6 H_17.size ) (cwV 0 hts (lw_goodApp (lw_4 q1236 q1237 q1238 q7) q1239) rfl rfl rfl (by decide +kernel) ⟨Nat.le_of_ble_eq_true rfl, Nat.le_of_ble_eq_true rfl⟩) ⟨PR.blind, va_recv hK hP (ci := 18) (q0 := 17) rfl rfl, PR.of hPc hKc hG hS hA [.ref y0]⟩ rfl rfl hl.1 rfl (lv_room (Nat.le_of_ble_eq_true rfl)) dL_law_1391 ⟨Nat.le_of_ble_eq_true rfl, Nat.le_of_ble_eq_true rfl⟩) hS (fun q h9 h => zN.not h9 h) (fun q h => hA q (Nat.le_trans hS.1 h)) (fun r_22 u t_24 H_21 locs ht hvm hw_23 hB hz1 hk1 hS => ?_)
  have hP := hP.grown hk1
  refine W.widen (k := 136) (n := 2997) (Nat.le_of_ble_eq_true rfl) (Nat.le_of_ble_eq_true rfl) ?_
  obtain rfl : 1 = r_22 := hw_23.symm
  refine lv_iload hx hb dL_law_1394 (lv_at hl 1 rfl) ?_
  refine lv_icmp_eq (tgt := 1401) hx hb dL_law_1396 (by decide) (fun c_25 => ?_) (fun c_25 => absurd rfl c_25)
  refine lv_iload hx hb dL_law_1401 (lv_at hl 1 rfl) ?_
  refine lv_if_ne (tgt := 1418) hx hb dL_law_1403 (by decide) (fun c_26 => ?_) (fun c_26 => absurd c_26 (by decide))
  refine lv_goto (tgt := 3288) hx hb dL_law_1418 (by decide) ?_
  exact law_tail hfl C0 hA hA2 hS (lv_sub hl [2, 7] rfl) (Nat.le_of_ble_eq_true rfl) (Nat.le_of_ble_eq_true rfl)