theorem q1001 : Cond.codeWith yL_distance method_27_code 5 (Option.some Jvm.ClassFile.FieldType.int) [((0 : Nat), (10 : Nat), (13 : Nat), (21 : Nat)), ((0 : Nat), (10 : Nat), (17 : Nat), (13 : Nat))] ∈ lw_good := lw_in (i := 1001) (by decide +kernel) (by decide +kernel)
theorem q1002 : Cond.methodLink "WatermarkmillLaw" 102 yX8_distance ∈ lw_good := lw_in (i := 1002) (by decide +kernel) (by decide +kernel)
theorem q1003 : Cond.instanceMethod yX8_distance ∈ lw_good := lw_in (i := 1003) (by decide +kernel) (by decide +kernel)
theorem q1004 : Cond.selects "Watermarkmill" yX8_distance yX8_distance ∈ lw_good := lw_in (i := 1004) (by decide +kernel) (by decide +kernel)
theorem q1013 : Cond.codeWith yL_compare method_28_code 5 (Option.some Jvm.ClassFile.FieldType.int) [((0 : Nat), (10 : Nat), (13 : Nat), (21 : Nat))] ∈ lw_good := lw_in (i := 1013) (by decide +kernel) (by decide +kernel)
theorem q1014 : Cond.methodLink "WatermarkmillLaw" 105 yX8_compare ∈ lw_good := lw_in (i := 1014) (by decide +kernel) (by decide +kernel)
theorem q1015 : Cond.instanceMethod yX8_compare ∈ lw_good := lw_in (i := 1015) (by decide +kernel) (by decide +kernel)
theorem q1016 : Cond.selects "Watermarkmill" yX8_compare yX8_compare ∈ lw_good := lw_in (i := 1016) (by decide +kernel) (by decide +kernel)
theorem q1020 : Cond.codeWith yL_evidence method_29_code 5 (Option.some Jvm.ClassFile.FieldType.int) [((0 : Nat), (10 : Nat), (13 : Nat), (21 : Nat))] ∈ lw_good := lw_in (i := 1020) (by decide +kernel) (by decide +kernel)
theorem q1021 : Cond.methodLink "WatermarkmillLaw" 109 yX8_evidence ∈ lw_good := lw_in (i := 1021) (by decide +kernel) (by decide +kernel)
theorem q1022 : Cond.instanceMethod yX8_evidence ∈ lw_good := lw_in (i := 1022) (by decide +kernel) (by decide +kernel)
theorem q1023 : Cond.selects "Watermarkmill" yX8_evidence yX8_evidence ∈ lw_good := lw_in (i := 1023) (by decide +kernel) (by decide +kernel)
theorem q1027 : Cond.codeWith yL_merge method_30_code 7 (Option.some Jvm.ClassFile.FieldType.int) [((0 : Nat), (21 : Nat), (24 : Nat), (13 : Nat))] ∈ lw_good := lw_in (i := 1027) (by decide +kernel) (by decide +kernel)
theorem q1028 : Cond.methodLink "WatermarkmillLaw" 112 yX8_merge ∈ lw_good := lw_in (i := 1028) (by decide +kernel) (by decide +kernel)
theorem q1029 : Cond.instanceMethod yX8_merge ∈ lw_good := lw_in (i := 1029) (by decide +kernel) (by decide +kernel)
theorem q1030 : Cond.selects "Watermarkmill" yX8_merge yX8_merge ∈ lw_good := lw_in (i := 1030) (by decide +kernel) (by decide +kernel)
theorem q1043 : Cond.codeWith yL_unmerge method_31_code 3 (Option.some Jvm.ClassFile.FieldType.int) [((0 : Nat), (8 : Nat), (11 : Nat), (50 : Nat))] ∈ lw_good := lw_in (i := 1043) (by decide +kernel) (by decide +kernel)
theorem q1044 : Cond.methodLink "WatermarkmillLaw" 115 yX8_unmerge ∈ lw_good := lw_in (i := 1044) (by decide +kernel) (by decide +kernel)
theorem q1045 : Cond.instanceMethod yX8_unmerge ∈ lw_good := lw_in (i := 1045) (by decide +kernel) (by decide +kernel)
theorem q1046 : Cond.selects "Watermarkmill" yX8_unmerge yX8_unmerge ∈ lw_good := lw_in (i := 1046) (by decide +kernel) (by decide +kernel)
theorem q1055 : Cond.codeWith yL_entry method_32_code 5 (Option.some Jvm.ClassFile.FieldType.int) [((0 : Nat), (10 : Nat), (13 : Nat), (13 : Nat))] ∈ lw_good := lw_in (i := 1055) (by decide +kernel) (by decide +kernel)
theorem q1056 : Cond.methodLink "WatermarkmillLaw" 119 yX8_entry ∈ lw_good := lw_in (i := 1056) (by decide +kernel) (by decide +kernel)
theorem q1057 : Cond.instanceMethod yX8_entry ∈ lw_good := lw_in (i := 1057) (by decide +kernel) (by decide +kernel)
theorem q1058 : Cond.selects "Watermarkmill" yX8_entry yX8_entry ∈ lw_good := lw_in (i := 1058) (by decide +kernel) (by decide +kernel)
theorem q1063 : Cond.codeWith yL_claim method_33_code 6 (Option.some Jvm.ClassFile.FieldType.int) [((0 : Nat), (12 : Nat), (15 : Nat), (21 : Nat)), ((0 : Nat), (12 : Nat), (19 : Nat), (13 : Nat)), ((0 : Nat), (12 : Nat), (23 : Nat), (27 : Nat)), ((0 : Nat), (12 : Nat), (27 : Nat), (15 : Nat))] ∈ lw_good := lw_in (i := 1063) (by decide +kernel) (by decide +kernel)
theorem q1064 : Cond.methodLink "WatermarkmillLaw" 122 yX8_claim ∈ lw_good := lw_in (i := 1064) (by decide +kernel) (by decide +kernel)
theorem q1065 : Cond.instanceMethod yX8_claim ∈ lw_good := lw_in (i := 1065) (by decide +kernel) (by decide +kernel)
theorem q1066 : Cond.selects "Watermarkmill" yX8_claim yX8_claim ∈ lw_good := lw_in (i := 1066) (by decide +kernel) (by decide +kernel)
theorem q1079 : Cond.codeWith yL_unclaim method_34_code 6 (Option.some Jvm.ClassFile.FieldType.int) [((0 : Nat), (12 : Nat), (15 : Nat), (21 : Nat)), ((0 : Nat), (12 : Nat), (19 : Nat), (50 : Nat))] ∈ lw_good := lw_in (i := 1079) (by decide +kernel) (by decide +kernel)
theorem q1080 : Cond.methodLink "WatermarkmillLaw" 125 yX8_unclaim ∈ lw_good := lw_in (i := 1080) (by decide +kernel) (by decide +kernel)
theorem q1081 : Cond.instanceMethod yX8_unclaim ∈ lw_good := lw_in (i := 1081) (by decide +kernel) (by decide +kernel)
theorem q1082 : Cond.selects "Watermarkmill" yX8_unclaim yX8_unclaim ∈ lw_good := lw_in (i := 1082) (by decide +kernel) (by decide +kernel)
theorem q1091 : Cond.codeWith yL_date method_35_code 5 (Option.some Jvm.ClassFile.FieldType.int) [((0 : Nat), (10 : Nat), (13 : Nat), (21 : Nat)), ((0 : Nat), (10 : Nat), (17 : Nat), (13 : Nat))] ∈ lw_good := lw_in (i := 1091) (by decide +kernel) (by decide +kernel)
theorem q1092 : Cond.methodLink "WatermarkmillLaw" 128 yX8_date ∈ lw_good := lw_in (i := 1092) (by decide +kernel) (by decide +kernel)
theorem q1093 : Cond.instanceMethod yX8_date ∈ lw_good := lw_in (i := 1093) (by decide +kernel) (by decide +kernel)
theorem q1094 : Cond.selects "Watermarkmill" yX8_date yX8_date ∈ lw_good := lw_in (i := 1094) (by decide +kernel) (by decide +kernel)
theorem q1098 : Cond.codeWith yL_setAge method_36_code 4 (Option.some Jvm.ClassFile.FieldType.int) [((0 : Nat), (9 : Nat), (12 : Nat), (13 : Nat))] ∈ lw_good := lw_in (i := 1098) (by decide +kernel) (by decide +kernel)
theorem q1099 : Cond.methodLink "WatermarkmillLaw" 131 yX8_setAge ∈ lw_good := lw_in (i := 1099) (by decide +kernel) (by decide +kernel)
theorem q1100 : Cond.instanceMethod yX8_setAge ∈ lw_good := lw_in (i := 1100) (by decide +kernel) (by decide +kernel)
theorem q1101 : Cond.selects "Watermarkmill" yX8_setAge yX8_setAge ∈ lw_good := lw_in (i := 1101) (by decide +kernel) (by decide +kernel)
theorem q1105 : Cond.codeWith yL_year method_37_code 5 (Option.some Jvm.ClassFile.FieldType.int) [((0 : Nat), (10 : Nat), (13 : Nat), (21 : Nat)), ((0 : Nat), (10 : Nat), (17 : Nat), (27 : Nat))] ∈ lw_good := lw_in (i := 1105) (by decide +kernel) (by decide +kernel)
theorem q1106 : Cond.methodLink "WatermarkmillLaw" 134 yX8_year ∈ lw_good := lw_in (i := 1106) (by decide +kernel) (by decide +kernel)
theorem q1107 : Cond.instanceMethod yX8_year ∈ lw_good := lw_in (i := 1107) (by decide +kernel) (by decide +kernel)
theorem q1108 : Cond.selects "Watermarkmill" yX8_year yX8_year ∈ lw_good := lw_in (i := 1108) (by decide +kernel) (by decide +kernel)
theorem q1117 : Cond.codeWith yL_ground method_38_code 5 (Option.some Jvm.ClassFile.FieldType.int) [((0 : Nat), (10 : Nat), (13 : Nat), (21 : Nat)), ((0 : Nat), (10 : Nat), (17 : Nat), (27 : Nat)), ((0 : Nat), (10 : Nat), (21 : Nat), (50 : Nat))] ∈ lw_good := lw_in (i := 1117) (by decide +kernel) (by decide +kernel)
theorem q1118 : Cond.methodLink "WatermarkmillLaw" 138 yX8_ground ∈ lw_good := lw_in (i := 1118) (by decide +kernel) (by decide +kernel)
theorem q1119 : Cond.instanceMethod yX8_ground ∈ lw_good := lw_in (i := 1119) (by decide +kernel) (by decide +kernel)
theorem q1120 : Cond.selects "Watermarkmill" yX8_ground yX8_ground ∈ lw_good := lw_in (i := 1120) (by decide +kernel) (by decide +kernel)
theorem q1125 : Cond.codeWith yL_culprit method_39_code 3 (Option.some Jvm.ClassFile.FieldType.int) [((0 : Nat), (8 : Nat), (11 : Nat), (27 : Nat)), ((0 : Nat), (8 : Nat), (14 : Nat), (50 : Nat))] ∈ lw_good := lw_in (i := 1125) (by decide +kernel) (by decide +kernel)
theorem q1126 : Cond.methodLink "WatermarkmillLaw" 141 yX8_culprit ∈ lw_good := lw_in (i := 1126) (by decide +kernel) (by decide +kernel)
theorem q1127 : Cond.instanceMethod yX8_culprit ∈ lw_good := lw_in (i := 1127) (by decide +kernel) (by decide +kernel)
theorem q1128 : Cond.selects "Watermarkmill" yX8_culprit yX8_culprit ∈ lw_good := lw_in (i := 1128) (by decide +kernel) (by decide +kernel)
theorem q1134 : Cond.codeWith yL_forged method_40_code 5 (Option.some Jvm.ClassFile.FieldType.int) [((0 : Nat), (10 : Nat), (13 : Nat), (21 : Nat)), ((0 : Nat), (10 : Nat), (17 : Nat), (13 : Nat)), ((0 : Nat), (10 : Nat), (21 : Nat), (27 : Nat))] ∈ lw_good := lw_in (i := 1134) (by decide +kernel) (by decide +kernel)
theorem q1135 : Cond.methodLink "WatermarkmillLaw" 144 yX8_forged ∈ lw_good := lw_in (i := 1135) (by decide +kernel) (by decide +kernel)
theorem q1136 : Cond.instanceMethod yX8_forged ∈ lw_good := lw_in (i := 1136) (by decide +kernel) (by decide +kernel)
theorem q1137 : Cond.selects "Watermarkmill" yX8_forged yX8_forged ∈ lw_good := lw_in (i := 1137) (by decide +kernel) (by decide +kernel)
theorem q1141 : Cond.codeWith yL_years method_41_code 3 (Option.some Jvm.ClassFile.FieldType.int) [((0 : Nat), (7 : Nat), (10 : Nat), (27 : Nat))] ∈ lw_good := lw_in (i := 1141) (by decide +kernel) (by decide +kernel)
theorem q1142 : Cond.methodLink "WatermarkmillLaw" 147 yX8_years ∈ lw_good := lw_in (i := 1142) (by decide +kernel) (by decide +kernel)
theorem q1143 : Cond.instanceMethod yX8_years ∈ lw_good := lw_in (i := 1143) (by decide +kernel) (by decide +kernel)
theorem q1144 : Cond.selects "Watermarkmill" yX8_years yX8_years ∈ lw_good := lw_in (i := 1144) (by decide +kernel) (by decide +kernel)
theorem q1148 : Cond.codeWith yL_usedShare method_42_code 3 (Option.some Jvm.ClassFile.FieldType.int) [((0 : Nat), (8 : Nat), (11 : Nat), (155 : Nat))] ∈ lw_good := lw_in (i := 1148) (by decide +kernel) (by decide +kernel)
theorem q1149 : Cond.classLink "WatermarkmillLaw" 155 "java/lang/ArithmeticException" ∈ lw_good := lw_in (i := 1149) (by decide +kernel) (by decide +kernel)
theorem q1163 : Cond.methodLink "WatermarkmillLaw" 151 yX8_usedShare ∈ lw_good := lw_in (i := 1163) (by decide +kernel) (by decide +kernel)
theorem q1164 : Cond.instanceMethod yX8_usedShare ∈ lw_good := lw_in (i := 1164) (by decide +kernel) (by decide +kernel)
theorem q1165 : Cond.selects "Watermarkmill" yX8_usedShare yX8_usedShare ∈ lw_good := lw_in (i := 1165) (by decide +kernel) (by decide +kernel)
theorem q1172 : Cond.codeWith yL_meanAge method_43_code 3 (Option.some Jvm.ClassFile.FieldType.int) [((0 : Nat), (7 : Nat), (10 : Nat), (50 : Nat))] ∈ lw_good := lw_in (i := 1172) (by decide +kernel) (by decide +kernel)
theorem q1173 : Cond.methodLink "WatermarkmillLaw" 157 yX8_meanAge ∈ lw_good := lw_in (i := 1173) (by decide +kernel) (by decide +kernel)
theorem q1174 : Cond.instanceMethod yX8_meanAge ∈ lw_good := lw_in (i := 1174) (by decide +kernel) (by decide +kernel)
theorem q1175 : Cond.selects "Watermarkmill" yX8_meanAge yX8_meanAge ∈ lw_good := lw_in (i := 1175) (by decide +kernel) (by decide +kernel)
theorem q301 : Cond.codeWith yL_mould method_3_code 9 (Option.some Jvm.ClassFile.FieldType.int) [((0 : Nat), (18 : Nat), (21 : Nat), (13 : Nat)), ((0 : Nat), (18 : Nat), (25 : Nat), (15 : Nat))] ∈ lw_good := lw_in (i := 301) (by decide +kernel) (by decide +kernel)
theorem q302 : Cond.classLink "WatermarkmillLaw" 13 "java/lang/IllegalArgumentException" ∈ lw_good := lw_in (i := 302) (by decide +kernel) (by decide +kernel)
theorem q304 : Cond.methodLink "WatermarkmillLaw" 7 yX8_mould ∈ lw_good := lw_in (i := 304) (by decide +kernel) (by decide +kernel)
theorem q305 : Cond.instanceMethod yX8_mould ∈ lw_good := lw_in (i := 305) (by decide +kernel) (by decide +kernel)
theorem q306 : Cond.selects "Watermarkmill" yX8_mould yX8_mould ∈ lw_good := lw_in (i := 306) (by decide +kernel) (by decide +kernel)
theorem q517 : Cond.codeWith yL_copy method_4_code 5 (Option.some Jvm.ClassFile.FieldType.int) [((0 : Nat), (10 : Nat), (13 : Nat), (21 : Nat)), ((0 : Nat), (10 : Nat), (17 : Nat), (13 : Nat)), ((0 : Nat), (10 : Nat), (21 : Nat), (15 : Nat))] ∈ lw_good := lw_in (i := 517) (by decide +kernel) (by decide +kernel)
theorem q518 : Cond.classLink "WatermarkmillLaw" 21 "java/lang/IndexOutOfBoundsException" ∈ lw_good := lw_in (i := 518) (by decide +kernel) (by decide +kernel)
theorem q542 : Cond.methodLink "WatermarkmillLaw" 17 yX8_copy ∈ lw_good := lw_in (i := 542) (by decide +kernel) (by decide +kernel)
theorem q543 : Cond.instanceMethod yX8_copy ∈ lw_good := lw_in (i := 543) (by decide +kernel) (by decide +kernel)
theorem q544 : Cond.selects "Watermarkmill" yX8_copy yX8_copy ∈ lw_good := lw_in (i := 544) (by decide +kernel) (by decide +kernel)
theorem q565 : Cond.codeWith yL_twin method_5_code 5 (Option.some Jvm.ClassFile.FieldType.int) [((0 : Nat), (17 : Nat), (20 : Nat), (21 : Nat)), ((0 : Nat), (17 : Nat), (24 : Nat), (13 : Nat)), ((0 : Nat), (17 : Nat), (28 : Nat), (27 : Nat))] ∈ lw_good := lw_in (i := 565) (by decide +kernel) (by decide +kernel)
theorem q566 : Cond.classLink "WatermarkmillLaw" 27 "java/lang/UnsupportedOperationException" ∈ lw_good := lw_in (i := 566) (by decide +kernel) (by decide +kernel)
theorem q567 : Cond.methodLink "WatermarkmillLaw" 23 yX8_twin ∈ lw_good := lw_in (i := 567) (by decide +kernel) (by decide +kernel)
theorem q568 : Cond.instanceMethod yX8_twin ∈ lw_good := lw_in (i := 568) (by decide +kernel) (by decide +kernel)
theorem q569 : Cond.selects "Watermarkmill" yX8_twin yX8_twin ∈ lw_good := lw_in (i := 569) (by decide +kernel) (by decide +kernel)
theorem q590 : Cond.codeWith yL_damage method_6_code 7 (Option.some Jvm.ClassFile.FieldType.int) [((0 : Nat), (14 : Nat), (17 : Nat), (21 : Nat)), ((0 : Nat), (14 : Nat), (21 : Nat), (13 : Nat)), ((0 : Nat), (14 : Nat), (25 : Nat), (27 : Nat))] ∈ lw_good := lw_in (i := 590) (by decide +kernel) (by decide +kernel)
theorem q591 : Cond.methodLink "WatermarkmillLaw" 29 yX8_damage ∈ lw_good := lw_in (i := 591) (by decide +kernel) (by decide +kernel)
theorem q592 : Cond.instanceMethod yX8_damage ∈ lw_good := lw_in (i := 592) (by decide +kernel) (by decide +kernel)
theorem q593 : Cond.selects "Watermarkmill" yX8_damage yX8_damage ∈ lw_good := lw_in (i := 593) (by decide +kernel) (by decide +kernel)
theorem q618 : Cond.codeWith yL_retire method_7_code 5 (Option.some Jvm.ClassFile.FieldType.int) [((0 : Nat), (10 : Nat), (13 : Nat), (21 : Nat)), ((0 : Nat), (10 : Nat), (17 : Nat), (13 : Nat)), ((0 : Nat), (10 : Nat), (21 : Nat), (27 : Nat))] ∈ lw_good := lw_in (i := 618) (by decide +kernel) (by decide +kernel)
theorem q619 : Cond.methodLink "WatermarkmillLaw" 33 yX8_retire ∈ lw_good := lw_in (i := 619) (by decide +kernel) (by decide +kernel)
theorem q620 : Cond.instanceMethod yX8_retire ∈ lw_good := lw_in (i := 620) (by decide +kernel) (by decide +kernel)
theorem q621 : Cond.selects "Watermarkmill" yX8_retire yX8_retire ∈ lw_good := lw_in (i := 621) (by decide +kernel) (by decide +kernel)
theorem q627 : Cond.codeWith yL_sell method_8_code 6 (Option.some Jvm.ClassFile.FieldType.int) [((0 : Nat), (12 : Nat), (15 : Nat), (21 : Nat)), ((0 : Nat), (12 : Nat), (19 : Nat), (13 : Nat)), ((0 : Nat), (12 : Nat), (23 : Nat), (27 : Nat))] ∈ lw_good := lw_in (i := 627) (by decide +kernel) (by decide +kernel)
theorem q628 : Cond.methodLink "WatermarkmillLaw" 36 yX8_sell ∈ lw_good := lw_in (i := 628) (by decide +kernel) (by decide +kernel)
theorem q629 : Cond.instanceMethod yX8_sell ∈ lw_good := lw_in (i := 629) (by decide +kernel) (by decide +kernel)
theorem q630 : Cond.selects "Watermarkmill" yX8_sell yX8_sell ∈ lw_good := lw_in (i := 630) (by decide +kernel) (by decide +kernel)
theorem q662 : Cond.codeWith yL_owner method_9_code 5 (Option.some Jvm.ClassFile.FieldType.int) [((0 : Nat), (10 : Nat), (13 : Nat), (21 : Nat)), ((0 : Nat), (10 : Nat), (17 : Nat), (13 : Nat))] ∈ lw_good := lw_in (i := 662) (by decide +kernel) (by decide +kernel)
theorem q663 : Cond.methodLink "WatermarkmillLaw" 40 yX8_owner ∈ lw_good := lw_in (i := 663) (by decide +kernel) (by decide +kernel)
theorem q664 : Cond.instanceMethod yX8_owner ∈ lw_good := lw_in (i := 664) (by decide +kernel) (by decide +kernel)
theorem q665 : Cond.selects "Watermarkmill" yX8_owner yX8_owner ∈ lw_good := lw_in (i := 665) (by decide +kernel) (by decide +kernel)
theorem q669 : Cond.codeWith yL_state method_10_code 5 (Option.some Jvm.ClassFile.FieldType.int) [((0 : Nat), (10 : Nat), (13 : Nat), (21 : Nat)), ((0 : Nat), (10 : Nat), (17 : Nat), (13 : Nat))] ∈ lw_good := lw_in (i := 669) (by decide +kernel) (by decide +kernel)
theorem q670 : Cond.methodLink "WatermarkmillLaw" 43 yX8_state ∈ lw_good := lw_in (i := 670) (by decide +kernel) (by decide +kernel)
theorem q671 : Cond.instanceMethod yX8_state ∈ lw_good := lw_in (i := 671) (by decide +kernel) (by decide +kernel)
theorem q672 : Cond.selects "Watermarkmill" yX8_state yX8_state ∈ lw_good := lw_in (i := 672) (by decide +kernel) (by decide +kernel)
theorem q677 : Cond.codeWith yL_wire method_11_code 6 (Option.some Jvm.ClassFile.FieldType.int) [((0 : Nat), (12 : Nat), (15 : Nat), (21 : Nat)), ((0 : Nat), (12 : Nat), (19 : Nat), (13 : Nat)), ((0 : Nat), (12 : Nat), (23 : Nat), (50 : Nat))] ∈ lw_good := lw_in (i := 677) (by decide +kernel) (by decide +kernel)
theorem q678 : Cond.classLink "WatermarkmillLaw" 50 "java/util/NoSuchElementException" ∈ lw_good := lw_in (i := 678) (by decide +kernel) (by decide +kernel)
theorem q679 : Cond.methodLink "WatermarkmillLaw" 46 yX8_wire ∈ lw_good := lw_in (i := 679) (by decide +kernel) (by decide +kernel)
theorem q680 : Cond.instanceMethod yX8_wire ∈ lw_good := lw_in (i := 680) (by decide +kernel) (by decide +kernel)
theorem q681 : Cond.selects "Watermarkmill" yX8_wire yX8_wire ∈ lw_good := lw_in (i := 681) (by decide +kernel) (by decide +kernel)
theorem q701 : Cond.codeWith yL_make method_12_code 7 (Option.some Jvm.ClassFile.FieldType.int) [((0 : Nat), (14 : Nat), (17 : Nat), (21 : Nat)), ((0 : Nat), (14 : Nat), (21 : Nat), (13 : Nat)), ((0 : Nat), (14 : Nat), (25 : Nat), (27 : Nat)), ((0 : Nat), (14 : Nat), (29 : Nat), (15 : Nat))] ∈ lw_good := lw_in (i := 701) (by decide +kernel) (by decide +kernel)
theorem q702 : Cond.methodLink "WatermarkmillLaw" 52 yX8_make ∈ lw_good := lw_in (i := 702) (by decide +kernel) (by decide +kernel)
theorem q703 : Cond.instanceMethod yX8_make ∈ lw_good := lw_in (i := 703) (by decide +kernel) (by decide +kernel)
theorem q704 : Cond.selects "Watermarkmill" yX8_make yX8_make ∈ lw_good := lw_in (i := 704) (by decide +kernel) (by decide +kernel)
theorem q732 : Cond.codeWith yL_ream method_13_code 4 (Option.some Jvm.ClassFile.FieldType.int) [((0 : Nat), (9 : Nat), (12 : Nat), (13 : Nat)), ((0 : Nat), (9 : Nat), (15 : Nat), (15 : Nat))] ∈ lw_good := lw_in (i := 732) (by decide +kernel) (by decide +kernel)
theorem q733 : Cond.methodLink "WatermarkmillLaw" 56 yX8_ream ∈ lw_good := lw_in (i := 733) (by decide +kernel) (by decide +kernel)
theorem q734 : Cond.instanceMethod yX8_ream ∈ lw_good := lw_in (i := 734) (by decide +kernel) (by decide +kernel)
theorem q735 : Cond.selects "Watermarkmill" yX8_ream yX8_ream ∈ lw_good := lw_in (i := 735) (by decide +kernel) (by decide +kernel)
theorem q757 : Cond.codeWith yL_put method_14_code 6 (Option.some Jvm.ClassFile.FieldType.int) [((0 : Nat), (12 : Nat), (15 : Nat), (21 : Nat)), ((0 : Nat), (12 : Nat), (19 : Nat), (13 : Nat)), ((0 : Nat), (12 : Nat), (23 : Nat), (50 : Nat)), ((0 : Nat), (12 : Nat), (27 : Nat), (15 : Nat))] ∈ lw_good := lw_in (i := 757) (by decide +kernel) (by decide +kernel)
theorem q758 : Cond.methodLink "WatermarkmillLaw" 60 yX8_put ∈ lw_good := lw_in (i := 758) (by decide +kernel) (by decide +kernel)
theorem q759 : Cond.instanceMethod yX8_put ∈ lw_good := lw_in (i := 759) (by decide +kernel) (by decide +kernel)
theorem q760 : Cond.selects "Watermarkmill" yX8_put yX8_put ∈ lw_good := lw_in (i := 760) (by decide +kernel) (by decide +kernel)
theorem q789 : Cond.codeWith yL_tariff method_15_code 4 (Option.some Jvm.ClassFile.FieldType.int) [((0 : Nat), (9 : Nat), (12 : Nat), (21 : Nat))] ∈ lw_good := lw_in (i := 789) (by decide +kernel) (by decide +kernel)
theorem q790 : Cond.methodLink "WatermarkmillLaw" 63 yX8_tariff ∈ lw_good := lw_in (i := 790) (by decide +kernel) (by decide +kernel)
theorem q791 : Cond.instanceMethod yX8_tariff ∈ lw_good := lw_in (i := 791) (by decide +kernel) (by decide +kernel)
theorem q792 : Cond.selects "Watermarkmill" yX8_tariff yX8_tariff ∈ lw_good := lw_in (i := 792) (by decide +kernel) (by decide +kernel)
theorem q799 : Cond.codeWith yL_document method_16_code 5 (Option.some Jvm.ClassFile.FieldType.int) [((0 : Nat), (10 : Nat), (13 : Nat), (13 : Nat)), ((0 : Nat), (10 : Nat), (17 : Nat), (15 : Nat))] ∈ lw_good := lw_in (i := 799) (by decide +kernel) (by decide +kernel)
theorem q800 : Cond.methodLink "WatermarkmillLaw" 66 yX8_document ∈ lw_good := lw_in (i := 800) (by decide +kernel) (by decide +kernel)
theorem q801 : Cond.instanceMethod yX8_document ∈ lw_good := lw_in (i := 801) (by decide +kernel) (by decide +kernel)
theorem q802 : Cond.selects "Watermarkmill" yX8_document yX8_document ∈ lw_good := lw_in (i := 802) (by decide +kernel) (by decide +kernel)
theorem q855 : Cond.codeWith yL_use method_17_code 6 (Option.some Jvm.ClassFile.FieldType.int) [((0 : Nat), (12 : Nat), (15 : Nat), (21 : Nat)), ((0 : Nat), (12 : Nat), (19 : Nat), (13 : Nat)), ((0 : Nat), (12 : Nat), (23 : Nat), (50 : Nat)), ((0 : Nat), (12 : Nat), (27 : Nat), (27 : Nat)), ((0 : Nat), (12 : Nat), (31 : Nat), (15 : Nat))] ∈ lw_good := lw_in (i := 855) (by decide +kernel) (by decide +kernel)
theorem q856 : Cond.methodLink "WatermarkmillLaw" 69 yX8_use ∈ lw_good := lw_in (i := 856) (by decide +kernel) (by decide +kernel)
theorem q857 : Cond.instanceMethod yX8_use ∈ lw_good := lw_in (i := 857) (by decide +kernel) (by decide +kernel)
theorem q858 : Cond.selects "Watermarkmill" yX8_use yX8_use ∈ lw_good := lw_in (i := 858) (by decide +kernel) (by decide +kernel)
theorem q881 : Cond.codeWith yL_cancel method_18_code 7 (Option.some Jvm.ClassFile.FieldType.int) [((0 : Nat), (21 : Nat), (24 : Nat), (21 : Nat)), ((0 : Nat), (21 : Nat), (28 : Nat), (50 : Nat)), ((0 : Nat), (21 : Nat), (32 : Nat), (27 : Nat))] ∈ lw_good := lw_in (i := 881) (by decide +kernel) (by decide +kernel)
theorem q882 : Cond.methodLink "WatermarkmillLaw" 72 yX8_cancel ∈ lw_good := lw_in (i := 882) (by decide +kernel) (by decide +kernel)
theorem q883 : Cond.instanceMethod yX8_cancel ∈ lw_good := lw_in (i := 883) (by decide +kernel) (by decide +kernel)
theorem q884 : Cond.selects "Watermarkmill" yX8_cancel yX8_cancel ∈ lw_good := lw_in (i := 884) (by decide +kernel) (by decide +kernel)
theorem q902 : Cond.codeWith yL_cancels method_19_code 5 (Option.some Jvm.ClassFile.FieldType.int) [((0 : Nat), (10 : Nat), (13 : Nat), (21 : Nat)), ((0 : Nat), (10 : Nat), (17 : Nat), (50 : Nat))] ∈ lw_good := lw_in (i := 902) (by decide +kernel) (by decide +kernel)
theorem q903 : Cond.methodLink "WatermarkmillLaw" 76 yX8_cancels ∈ lw_good := lw_in (i := 903) (by decide +kernel) (by decide +kernel)
theorem q904 : Cond.instanceMethod yX8_cancels ∈ lw_good := lw_in (i := 904) (by decide +kernel) (by decide +kernel)
theorem q905 : Cond.selects "Watermarkmill" yX8_cancels yX8_cancels ∈ lw_good := lw_in (i := 905) (by decide +kernel) (by decide +kernel)
theorem q921 : Cond.codeWith yL_leafOf method_20_code 6 (Option.some Jvm.ClassFile.FieldType.int) [((0 : Nat), (12 : Nat), (15 : Nat), (21 : Nat)), ((0 : Nat), (12 : Nat), (19 : Nat), (50 : Nat))] ∈ lw_good := lw_in (i := 921) (by decide +kernel) (by decide +kernel)
theorem q922 : Cond.methodLink "WatermarkmillLaw" 79 yX8_leafOf ∈ lw_good := lw_in (i := 922) (by decide +kernel) (by decide +kernel)
theorem q923 : Cond.instanceMethod yX8_leafOf ∈ lw_good := lw_in (i := 923) (by decide +kernel) (by decide +kernel)
theorem q924 : Cond.selects "Watermarkmill" yX8_leafOf yX8_leafOf ∈ lw_good := lw_in (i := 924) (by decide +kernel) (by decide +kernel)
theorem q928 : Cond.codeWith yL_markIn method_21_code 5 (Option.some Jvm.ClassFile.FieldType.int) [((0 : Nat), (10 : Nat), (13 : Nat), (21 : Nat)), ((0 : Nat), (10 : Nat), (17 : Nat), (50 : Nat))] ∈ lw_good := lw_in (i := 928) (by decide +kernel) (by decide +kernel)
theorem q929 : Cond.methodLink "WatermarkmillLaw" 82 yX8_markIn ∈ lw_good := lw_in (i := 929) (by decide +kernel) (by decide +kernel)
theorem q930 : Cond.instanceMethod yX8_markIn ∈ lw_good := lw_in (i := 930) (by decide +kernel) (by decide +kernel)
theorem q931 : Cond.selects "Watermarkmill" yX8_markIn yX8_markIn ∈ lw_good := lw_in (i := 931) (by decide +kernel) (by decide +kernel)
theorem q935 : Cond.codeWith yL_conjugate method_22_code 5 (Option.some Jvm.ClassFile.FieldType.int) [((0 : Nat), (10 : Nat), (13 : Nat), (21 : Nat)), ((0 : Nat), (10 : Nat), (17 : Nat), (50 : Nat))] ∈ lw_good := lw_in (i := 935) (by decide +kernel) (by decide +kernel)
theorem q936 : Cond.methodLink "WatermarkmillLaw" 85 yX8_conjugate ∈ lw_good := lw_in (i := 936) (by decide +kernel) (by decide +kernel)
theorem q937 : Cond.instanceMethod yX8_conjugate ∈ lw_good := lw_in (i := 937) (by decide +kernel) (by decide +kernel)
theorem q938 : Cond.selects "Watermarkmill" yX8_conjugate yX8_conjugate ∈ lw_good := lw_in (i := 938) (by decide +kernel) (by decide +kernel)
theorem q943 : Cond.codeWith yL_run method_23_code 5 (Option.some Jvm.ClassFile.FieldType.int) [((0 : Nat), (10 : Nat), (13 : Nat), (21 : Nat))] ∈ lw_good := lw_in (i := 943) (by decide +kernel) (by decide +kernel)
theorem q944 : Cond.methodLink "WatermarkmillLaw" 88 yX8_run ∈ lw_good := lw_in (i := 944) (by decide +kernel) (by decide +kernel)
theorem q945 : Cond.instanceMethod yX8_run ∈ lw_good := lw_in (i := 945) (by decide +kernel) (by decide +kernel)
theorem q946 : Cond.selects "Watermarkmill" yX8_run yX8_run ∈ lw_good := lw_in (i := 946) (by decide +kernel) (by decide +kernel)
theorem q959 : Cond.codeWith yL_wash method_24_code 4 (Option.some Jvm.ClassFile.FieldType.int) [((0 : Nat), (16 : Nat), (19 : Nat), (21 : Nat))] ∈ lw_good := lw_in (i := 959) (by decide +kernel) (by decide +kernel)
theorem q960 : Cond.methodLink "WatermarkmillLaw" 91 yX8_wash ∈ lw_good := lw_in (i := 960) (by decide +kernel) (by decide +kernel)
theorem q961 : Cond.instanceMethod yX8_wash ∈ lw_good := lw_in (i := 961) (by decide +kernel) (by decide +kernel)
theorem q962 : Cond.selects "Watermarkmill" yX8_wash yX8_wash ∈ lw_good := lw_in (i := 962) (by decide +kernel) (by decide +kernel)
theorem q966 : Cond.codeWith yL_image method_25_code 7 (Option.some Jvm.ClassFile.FieldType.int) [((0 : Nat), (14 : Nat), (17 : Nat), (21 : Nat)), ((0 : Nat), (14 : Nat), (21 : Nat), (13 : Nat)), ((0 : Nat), (14 : Nat), (25 : Nat), (50 : Nat)), ((0 : Nat), (14 : Nat), (29 : Nat), (15 : Nat))] ∈ lw_good := lw_in (i := 966) (by decide +kernel) (by decide +kernel)
theorem q967 : Cond.methodLink "WatermarkmillLaw" 95 yX8_image ∈ lw_good := lw_in (i := 967) (by decide +kernel) (by decide +kernel)
theorem q968 : Cond.instanceMethod yX8_image ∈ lw_good := lw_in (i := 968) (by decide +kernel) (by decide +kernel)
theorem q969 : Cond.selects "Watermarkmill" yX8_image yX8_image ∈ lw_good := lw_in (i := 969) (by decide +kernel) (by decide +kernel)
theorem q994 : Cond.codeWith yL_setTolerance method_26_code 4 (Option.some Jvm.ClassFile.FieldType.int) [((0 : Nat), (9 : Nat), (12 : Nat), (13 : Nat))] ∈ lw_good := lw_in (i := 994) (by decide +kernel) (by decide +kernel)
theorem q995 : Cond.methodLink "WatermarkmillLaw" 99 yX8_setTolerance ∈ lw_good := lw_in (i := 995) (by decide +kernel) (by decide +kernel)
theorem q996 : Cond.instanceMethod yX8_setTolerance ∈ lw_good := lw_in (i := 996) (by decide +kernel) (by decide +kernel)
theorem q997 : Cond.selects "Watermarkmill" yX8_setTolerance yX8_setTolerance ∈ lw_good := lw_in (i := 997) (by decide +kernel) (by decide +kernel)
theorem qf1161 : Cond.castable "java/lang/ArithmeticException" "java/lang/ArithmeticException" ∈ lw_face := lw_fin (i := 1161) (by decide +kernel) (by decide +kernel)
theorem qf313 : Cond.castable "java/lang/IllegalArgumentException" "java/lang/IllegalArgumentException" ∈ lw_face := lw_fin (i := 313) (by decide +kernel) (by decide +kernel)
theorem qf552 : Cond.castable "java/lang/IndexOutOfBoundsException" "java/lang/IndexOutOfBoundsException" ∈ lw_face := lw_fin (i := 552) (by decide +kernel) (by decide +kernel)
theorem qf574 : Cond.castable "java/lang/UnsupportedOperationException" "java/lang/UnsupportedOperationException" ∈ lw_face := lw_fin (i := 574) (by decide +kernel) (by decide +kernel)
theorem qf685 : Cond.castable "java/util/NoSuchElementException" "java/util/NoSuchElementException" ∈ lw_face := lw_fin (i := 685) (by decide +kernel) (by decide +kernel)
theorem dL_cancel_0 : decode cL_cancel 0 = .ok (.aload 5, 2) := by decide +kernel
theorem dL_cancel_2 : decode cL_cancel 2 = .ok (.iconst 0, 1) := by decide +kernel
theorem dL_cancel_24 : decode cL_cancel 24 = .ok (.astore 6, 2) := by decide +kernel
theorem dL_cancel_26 : decode cL_cancel 26 = .ok (.iconst 1, 1) := by decide +kernel
theorem dL_cancel_27 : decode cL_cancel 27 = .ok (.ireturn, 1) := by decide +kernel
theorem dL_cancel_3 : decode cL_cancel 3 = .ok (.aload_n 0, 1) := by decide +kernel
theorem dL_cancel_4 : decode cL_cancel 4 = .ok (.iload_n 1, 1) := by decide +kernel
theorem dL_cancel_5 : decode cL_cancel 5 = .ok (.iload_n 2, 1) := by decide +kernel
theorem dL_cancel_6 : decode cL_cancel 6 = .ok (.iload_n 3, 1) := by decide +kernel
theorem dL_cancel_7 : decode cL_cancel 7 = .ok (.iload 4, 2) := by decide +kernel
theorem dL_cancel_9 : decode cL_cancel 9 = .ok (.invokevirtual 72, 3) := by decide +kernel
theorem dL_cancels_0 : decode cL_cancels 0 = .ok (.aload_n 3, 1) := by decide +kernel
theorem dL_cancels_1 : decode cL_cancels 1 = .ok (.iconst 0, 1) := by decide +kernel
theorem dL_cancels_13 : decode cL_cancels 13 = .ok (.astore 4, 2) := by decide +kernel
theorem dL_cancels_15 : decode cL_cancels 15 = .ok (.iconst 1, 1) := by decide +kernel
theorem dL_cancels_16 : decode cL_cancels 16 = .ok (.ireturn, 1) := by decide +kernel
theorem dL_cancels_2 : decode cL_cancels 2 = .ok (.aload_n 0, 1) := by decide +kernel
theorem dL_cancels_3 : decode cL_cancels 3 = .ok (.iload_n 1, 1) := by decide +kernel
theorem dL_cancels_4 : decode cL_cancels 4 = .ok (.iload_n 2, 1) := by decide +kernel
theorem dL_cancels_5 : decode cL_cancels 5 = .ok (.invokevirtual 76, 3) := by decide +kernel
theorem dL_claim_0 : decode cL_claim 0 = .ok (.aload 4, 2) := by decide +kernel
theorem dL_claim_15 : decode cL_claim 15 = .ok (.astore 5, 2) := by decide +kernel
theorem dL_claim_17 : decode cL_claim 17 = .ok (.iconst 1, 1) := by decide +kernel
theorem dL_claim_18 : decode cL_claim 18 = .ok (.ireturn, 1) := by decide +kernel
theorem dL_claim_2 : decode cL_claim 2 = .ok (.iconst 0, 1) := by decide +kernel
theorem dL_claim_3 : decode cL_claim 3 = .ok (.aload_n 0, 1) := by decide +kernel
theorem dL_claim_4 : decode cL_claim 4 = .ok (.iload_n 1, 1) := by decide +kernel
theorem dL_claim_5 : decode cL_claim 5 = .ok (.iload_n 2, 1) := by decide +kernel
theorem dL_claim_6 : decode cL_claim 6 = .ok (.iload_n 3, 1) := by decide +kernel
theorem dL_claim_7 : decode cL_claim 7 = .ok (.invokevirtual 122, 3) := by decide +kernel
theorem dL_compare_0 : decode cL_compare 0 = .ok (.aload_n 3, 1) := by decide +kernel
theorem dL_compare_1 : decode cL_compare 1 = .ok (.iconst 0, 1) := by decide +kernel
theorem dL_compare_13 : decode cL_compare 13 = .ok (.astore 4, 2) := by decide +kernel
theorem dL_compare_15 : decode cL_compare 15 = .ok (.iconst 1, 1) := by decide +kernel
theorem dL_compare_16 : decode cL_compare 16 = .ok (.ireturn, 1) := by decide +kernel
theorem dL_compare_2 : decode cL_compare 2 = .ok (.aload_n 0, 1) := by decide +kernel
theorem dL_compare_3 : decode cL_compare 3 = .ok (.iload_n 1, 1) := by decide +kernel
theorem dL_compare_4 : decode cL_compare 4 = .ok (.iload_n 2, 1) := by decide +kernel
theorem dL_compare_5 : decode cL_compare 5 = .ok (.invokevirtual 105, 3) := by decide +kernel
theorem dL_conjugate_0 : decode cL_conjugate 0 = .ok (.aload_n 3, 1) := by decide +kernel
theorem dL_conjugate_1 : decode cL_conjugate 1 = .ok (.iconst 0, 1) := by decide +kernel
theorem dL_conjugate_13 : decode cL_conjugate 13 = .ok (.astore 4, 2) := by decide +kernel
theorem dL_conjugate_15 : decode cL_conjugate 15 = .ok (.iconst 1, 1) := by decide +kernel
theorem dL_conjugate_16 : decode cL_conjugate 16 = .ok (.ireturn, 1) := by decide +kernel
theorem dL_conjugate_2 : decode cL_conjugate 2 = .ok (.aload_n 0, 1) := by decide +kernel
theorem dL_conjugate_3 : decode cL_conjugate 3 = .ok (.iload_n 1, 1) := by decide +kernel
theorem dL_conjugate_4 : decode cL_conjugate 4 = .ok (.iload_n 2, 1) := by decide +kernel
theorem dL_conjugate_5 : decode cL_conjugate 5 = .ok (.invokevirtual 85, 3) := by decide +kernel
theorem dL_copy_0 : decode cL_copy 0 = .ok (.aload_n 3, 1) := by decide +kernel
theorem dL_copy_1 : decode cL_copy 1 = .ok (.iconst 0, 1) := by decide +kernel
theorem dL_copy_13 : decode cL_copy 13 = .ok (.astore 4, 2) := by decide +kernel
theorem dL_copy_15 : decode cL_copy 15 = .ok (.iconst 1, 1) := by decide +kernel
theorem dL_copy_16 : decode cL_copy 16 = .ok (.ireturn, 1) := by decide +kernel
theorem dL_copy_2 : decode cL_copy 2 = .ok (.aload_n 0, 1) := by decide +kernel
theorem dL_copy_3 : decode cL_copy 3 = .ok (.iload_n 1, 1) := by decide +kernel
theorem dL_copy_4 : decode cL_copy 4 = .ok (.iload_n 2, 1) := by decide +kernel
theorem dL_copy_5 : decode cL_copy 5 = .ok (.invokevirtual 17, 3) := by decide +kernel
theorem dL_culprit_0 : decode cL_culprit 0 = .ok (.aload_n 1, 1) := by decide +kernel
theorem dL_culprit_1 : decode cL_culprit 1 = .ok (.iconst 0, 1) := by decide +kernel
theorem dL_culprit_11 : decode cL_culprit 11 = .ok (.astore_n 2, 1) := by decide +kernel
theorem dL_culprit_12 : decode cL_culprit 12 = .ok (.iconst 1, 1) := by decide +kernel
theorem dL_culprit_13 : decode cL_culprit 13 = .ok (.ireturn, 1) := by decide +kernel
theorem dL_culprit_2 : decode cL_culprit 2 = .ok (.aload_n 0, 1) := by decide +kernel
theorem dL_culprit_3 : decode cL_culprit 3 = .ok (.invokevirtual 141, 3) := by decide +kernel
theorem dL_damage_0 : decode cL_damage 0 = .ok (.aload 5, 2) := by decide +kernel
theorem dL_damage_17 : decode cL_damage 17 = .ok (.astore 6, 2) := by decide +kernel
theorem dL_damage_19 : decode cL_damage 19 = .ok (.iconst 1, 1) := by decide +kernel
theorem dL_damage_2 : decode cL_damage 2 = .ok (.iconst 0, 1) := by decide +kernel
theorem dL_damage_20 : decode cL_damage 20 = .ok (.ireturn, 1) := by decide +kernel
theorem dL_damage_3 : decode cL_damage 3 = .ok (.aload_n 0, 1) := by decide +kernel
theorem dL_damage_4 : decode cL_damage 4 = .ok (.iload_n 1, 1) := by decide +kernel
theorem dL_damage_5 : decode cL_damage 5 = .ok (.iload_n 2, 1) := by decide +kernel
theorem dL_damage_6 : decode cL_damage 6 = .ok (.iload_n 3, 1) := by decide +kernel
theorem dL_damage_7 : decode cL_damage 7 = .ok (.iload 4, 2) := by decide +kernel
theorem dL_damage_9 : decode cL_damage 9 = .ok (.invokevirtual 29, 3) := by decide +kernel
theorem dL_date_0 : decode cL_date 0 = .ok (.aload_n 3, 1) := by decide +kernel
theorem dL_date_1 : decode cL_date 1 = .ok (.iconst 0, 1) := by decide +kernel
theorem dL_date_13 : decode cL_date 13 = .ok (.astore 4, 2) := by decide +kernel
theorem dL_date_15 : decode cL_date 15 = .ok (.iconst 1, 1) := by decide +kernel
theorem dL_date_16 : decode cL_date 16 = .ok (.ireturn, 1) := by decide +kernel
theorem dL_date_2 : decode cL_date 2 = .ok (.aload_n 0, 1) := by decide +kernel
theorem dL_date_3 : decode cL_date 3 = .ok (.iload_n 1, 1) := by decide +kernel
theorem dL_date_4 : decode cL_date 4 = .ok (.iload_n 2, 1) := by decide +kernel
theorem dL_date_5 : decode cL_date 5 = .ok (.invokevirtual 128, 3) := by decide +kernel
theorem dL_distance_0 : decode cL_distance 0 = .ok (.aload_n 3, 1) := by decide +kernel
theorem dL_distance_1 : decode cL_distance 1 = .ok (.iconst 0, 1) := by decide +kernel
theorem dL_distance_13 : decode cL_distance 13 = .ok (.astore 4, 2) := by decide +kernel
theorem dL_distance_15 : decode cL_distance 15 = .ok (.iconst 1, 1) := by decide +kernel
theorem dL_distance_16 : decode cL_distance 16 = .ok (.ireturn, 1) := by decide +kernel
theorem dL_distance_2 : decode cL_distance 2 = .ok (.aload_n 0, 1) := by decide +kernel
theorem dL_distance_3 : decode cL_distance 3 = .ok (.iload_n 1, 1) := by decide +kernel
theorem dL_distance_4 : decode cL_distance 4 = .ok (.iload_n 2, 1) := by decide +kernel
theorem dL_distance_5 : decode cL_distance 5 = .ok (.invokevirtual 102, 3) := by decide +kernel
theorem dL_document_0 : decode cL_document 0 = .ok (.aload_n 3, 1) := by decide +kernel
theorem dL_document_1 : decode cL_document 1 = .ok (.iconst 0, 1) := by decide +kernel
theorem dL_document_10 : decode cL_document 10 = .ok (.goto 11, 3) := by decide +kernel
theorem dL_document_13 : decode cL_document 13 = .ok (.astore 4, 2) := by decide +kernel
theorem dL_document_15 : decode cL_document 15 = .ok (.iconst 1, 1) := by decide +kernel
theorem dL_document_16 : decode cL_document 16 = .ok (.ireturn, 1) := by decide +kernel
theorem dL_document_2 : decode cL_document 2 = .ok (.aload_n 0, 1) := by decide +kernel
theorem dL_document_21 : decode cL_document 21 = .ok (.iconst 0, 1) := by decide +kernel
theorem dL_document_22 : decode cL_document 22 = .ok (.ireturn, 1) := by decide +kernel
theorem dL_document_3 : decode cL_document 3 = .ok (.iload_n 1, 1) := by decide +kernel
theorem dL_document_4 : decode cL_document 4 = .ok (.iload_n 2, 1) := by decide +kernel
theorem dL_document_5 : decode cL_document 5 = .ok (.invokevirtual 66, 3) := by decide +kernel
theorem dL_document_8 : decode cL_document 8 = .ok (.i2l, 1) := by decide +kernel
theorem dL_document_9 : decode cL_document 9 = .ok (.lastore, 1) := by decide +kernel
theorem dL_entry_0 : decode cL_entry 0 = .ok (.aload_n 3, 1) := by decide +kernel
theorem dL_entry_1 : decode cL_entry 1 = .ok (.iconst 0, 1) := by decide +kernel
theorem dL_entry_10 : decode cL_entry 10 = .ok (.goto 7, 3) := by decide +kernel
theorem dL_entry_13 : decode cL_entry 13 = .ok (.astore 4, 2) := by decide +kernel
theorem dL_entry_15 : decode cL_entry 15 = .ok (.iconst 1, 1) := by decide +kernel
theorem dL_entry_16 : decode cL_entry 16 = .ok (.ireturn, 1) := by decide +kernel
theorem dL_entry_17 : decode cL_entry 17 = .ok (.iconst 0, 1) := by decide +kernel
theorem dL_entry_18 : decode cL_entry 18 = .ok (.ireturn, 1) := by decide +kernel
theorem dL_entry_2 : decode cL_entry 2 = .ok (.aload_n 0, 1) := by decide +kernel
theorem dL_entry_3 : decode cL_entry 3 = .ok (.iload_n 1, 1) := by decide +kernel
theorem dL_entry_4 : decode cL_entry 4 = .ok (.iload_n 2, 1) := by decide +kernel
theorem dL_entry_5 : decode cL_entry 5 = .ok (.invokevirtual 119, 3) := by decide +kernel
theorem dL_entry_8 : decode cL_entry 8 = .ok (.i2l, 1) := by decide +kernel
theorem dL_entry_9 : decode cL_entry 9 = .ok (.lastore, 1) := by decide +kernel
theorem dL_evidence_0 : decode cL_evidence 0 = .ok (.aload_n 3, 1) := by decide +kernel
theorem dL_evidence_1 : decode cL_evidence 1 = .ok (.iconst 0, 1) := by decide +kernel
theorem dL_evidence_13 : decode cL_evidence 13 = .ok (.astore 4, 2) := by decide +kernel
theorem dL_evidence_15 : decode cL_evidence 15 = .ok (.iconst 1, 1) := by decide +kernel
theorem dL_evidence_16 : decode cL_evidence 16 = .ok (.ireturn, 1) := by decide +kernel
theorem dL_evidence_2 : decode cL_evidence 2 = .ok (.aload_n 0, 1) := by decide +kernel
theorem dL_evidence_3 : decode cL_evidence 3 = .ok (.iload_n 1, 1) := by decide +kernel
theorem dL_evidence_4 : decode cL_evidence 4 = .ok (.iload_n 2, 1) := by decide +kernel
theorem dL_evidence_5 : decode cL_evidence 5 = .ok (.invokevirtual 109, 3) := by decide +kernel
theorem dL_forged_0 : decode cL_forged 0 = .ok (.aload_n 3, 1) := by decide +kernel
theorem dL_forged_1 : decode cL_forged 1 = .ok (.iconst 0, 1) := by decide +kernel
theorem dL_forged_13 : decode cL_forged 13 = .ok (.astore 4, 2) := by decide +kernel
theorem dL_forged_15 : decode cL_forged 15 = .ok (.iconst 1, 1) := by decide +kernel
theorem dL_forged_16 : decode cL_forged 16 = .ok (.ireturn, 1) := by decide +kernel
theorem dL_forged_2 : decode cL_forged 2 = .ok (.aload_n 0, 1) := by decide +kernel
theorem dL_forged_3 : decode cL_forged 3 = .ok (.iload_n 1, 1) := by decide +kernel
theorem dL_forged_4 : decode cL_forged 4 = .ok (.iload_n 2, 1) := by decide +kernel
theorem dL_forged_5 : decode cL_forged 5 = .ok (.invokevirtual 144, 3) := by decide +kernel
theorem dL_ground_0 : decode cL_ground 0 = .ok (.aload_n 3, 1) := by decide +kernel
theorem dL_ground_1 : decode cL_ground 1 = .ok (.iconst 0, 1) := by decide +kernel
theorem dL_ground_13 : decode cL_ground 13 = .ok (.astore 4, 2) := by decide +kernel
theorem dL_ground_15 : decode cL_ground 15 = .ok (.iconst 1, 1) := by decide +kernel
theorem dL_ground_16 : decode cL_ground 16 = .ok (.ireturn, 1) := by decide +kernel
theorem dL_ground_2 : decode cL_ground 2 = .ok (.aload_n 0, 1) := by decide +kernel
theorem dL_ground_3 : decode cL_ground 3 = .ok (.iload_n 1, 1) := by decide +kernel
theorem dL_ground_4 : decode cL_ground 4 = .ok (.iload_n 2, 1) := by decide +kernel
theorem dL_ground_5 : decode cL_ground 5 = .ok (.invokevirtual 138, 3) := by decide +kernel
theorem dL_image_0 : decode cL_image 0 = .ok (.aload 5, 2) := by decide +kernel
theorem dL_image_17 : decode cL_image 17 = .ok (.astore 6, 2) := by decide +kernel
theorem dL_image_19 : decode cL_image 19 = .ok (.iconst 1, 1) := by decide +kernel
theorem dL_image_2 : decode cL_image 2 = .ok (.iconst 0, 1) := by decide +kernel
theorem dL_image_20 : decode cL_image 20 = .ok (.ireturn, 1) := by decide +kernel
theorem dL_image_3 : decode cL_image 3 = .ok (.aload_n 0, 1) := by decide +kernel
theorem dL_image_4 : decode cL_image 4 = .ok (.iload_n 1, 1) := by decide +kernel
theorem dL_image_5 : decode cL_image 5 = .ok (.iload_n 2, 1) := by decide +kernel
theorem dL_image_6 : decode cL_image 6 = .ok (.iload_n 3, 1) := by decide +kernel
theorem dL_image_7 : decode cL_image 7 = .ok (.iload 4, 2) := by decide +kernel
theorem dL_image_9 : decode cL_image 9 = .ok (.invokevirtual 95, 3) := by decide +kernel
theorem dL_leafOf_0 : decode cL_leafOf 0 = .ok (.aload 4, 2) := by decide +kernel
theorem dL_leafOf_15 : decode cL_leafOf 15 = .ok (.astore 5, 2) := by decide +kernel
theorem dL_leafOf_17 : decode cL_leafOf 17 = .ok (.iconst 1, 1) := by decide +kernel
theorem dL_leafOf_18 : decode cL_leafOf 18 = .ok (.ireturn, 1) := by decide +kernel
theorem dL_leafOf_2 : decode cL_leafOf 2 = .ok (.iconst 0, 1) := by decide +kernel
theorem dL_leafOf_3 : decode cL_leafOf 3 = .ok (.aload_n 0, 1) := by decide +kernel
theorem dL_leafOf_4 : decode cL_leafOf 4 = .ok (.iload_n 1, 1) := by decide +kernel
theorem dL_leafOf_5 : decode cL_leafOf 5 = .ok (.iload_n 2, 1) := by decide +kernel
theorem dL_leafOf_6 : decode cL_leafOf 6 = .ok (.iload_n 3, 1) := by decide +kernel
theorem dL_leafOf_7 : decode cL_leafOf 7 = .ok (.invokevirtual 79, 3) := by decide +kernel
theorem dL_make_0 : decode cL_make 0 = .ok (.aload 5, 2) := by decide +kernel
theorem dL_make_17 : decode cL_make 17 = .ok (.astore 6, 2) := by decide +kernel
theorem dL_make_19 : decode cL_make 19 = .ok (.iconst 1, 1) := by decide +kernel
theorem dL_make_2 : decode cL_make 2 = .ok (.iconst 0, 1) := by decide +kernel
theorem dL_make_20 : decode cL_make 20 = .ok (.ireturn, 1) := by decide +kernel
theorem dL_make_3 : decode cL_make 3 = .ok (.aload_n 0, 1) := by decide +kernel
theorem dL_make_4 : decode cL_make 4 = .ok (.iload_n 1, 1) := by decide +kernel
theorem dL_make_5 : decode cL_make 5 = .ok (.iload_n 2, 1) := by decide +kernel
theorem dL_make_6 : decode cL_make 6 = .ok (.iload_n 3, 1) := by decide +kernel
theorem dL_make_7 : decode cL_make 7 = .ok (.iload 4, 2) := by decide +kernel
theorem dL_make_9 : decode cL_make 9 = .ok (.invokevirtual 52, 3) := by decide +kernel
theorem dL_markIn_0 : decode cL_markIn 0 = .ok (.aload_n 3, 1) := by decide +kernel
theorem dL_markIn_1 : decode cL_markIn 1 = .ok (.iconst 0, 1) := by decide +kernel
theorem dL_markIn_13 : decode cL_markIn 13 = .ok (.astore 4, 2) := by decide +kernel
theorem dL_markIn_15 : decode cL_markIn 15 = .ok (.iconst 1, 1) := by decide +kernel
theorem dL_markIn_16 : decode cL_markIn 16 = .ok (.ireturn, 1) := by decide +kernel
theorem dL_markIn_2 : decode cL_markIn 2 = .ok (.aload_n 0, 1) := by decide +kernel
theorem dL_markIn_3 : decode cL_markIn 3 = .ok (.iload_n 1, 1) := by decide +kernel
theorem dL_markIn_4 : decode cL_markIn 4 = .ok (.iload_n 2, 1) := by decide +kernel
theorem dL_markIn_5 : decode cL_markIn 5 = .ok (.invokevirtual 82, 3) := by decide +kernel
theorem dL_meanAge_0 : decode cL_meanAge 0 = .ok (.aload_n 1, 1) := by decide +kernel
theorem dL_meanAge_1 : decode cL_meanAge 1 = .ok (.iconst 0, 1) := by decide +kernel
theorem dL_meanAge_10 : decode cL_meanAge 10 = .ok (.astore_n 2, 1) := by decide +kernel
theorem dL_meanAge_11 : decode cL_meanAge 11 = .ok (.iconst 1, 1) := by decide +kernel
theorem dL_meanAge_12 : decode cL_meanAge 12 = .ok (.ireturn, 1) := by decide +kernel
theorem dL_meanAge_2 : decode cL_meanAge 2 = .ok (.aload_n 0, 1) := by decide +kernel
theorem dL_meanAge_3 : decode cL_meanAge 3 = .ok (.invokevirtual 157, 3) := by decide +kernel
theorem dL_merge_0 : decode cL_merge 0 = .ok (.aload 5, 2) := by decide +kernel
theorem dL_merge_12 : decode cL_merge 12 = .ok (.ifCond .eq 7, 3) := by decide +kernel
theorem dL_merge_15 : decode cL_merge 15 = .ok (.lconst 1, 1) := by decide +kernel
theorem dL_merge_16 : decode cL_merge 16 = .ok (.goto 4, 3) := by decide +kernel
theorem dL_merge_19 : decode cL_merge 19 = .ok (.lconst 0, 1) := by decide +kernel
theorem dL_merge_2 : decode cL_merge 2 = .ok (.iconst 0, 1) := by decide +kernel
theorem dL_merge_20 : decode cL_merge 20 = .ok (.lastore, 1) := by decide +kernel
theorem dL_merge_21 : decode cL_merge 21 = .ok (.goto 7, 3) := by decide +kernel
theorem dL_merge_24 : decode cL_merge 24 = .ok (.astore 6, 2) := by decide +kernel
theorem dL_merge_26 : decode cL_merge 26 = .ok (.iconst 1, 1) := by decide +kernel
theorem dL_merge_27 : decode cL_merge 27 = .ok (.ireturn, 1) := by decide +kernel
theorem dL_merge_28 : decode cL_merge 28 = .ok (.iconst 0, 1) := by decide +kernel
theorem dL_merge_29 : decode cL_merge 29 = .ok (.ireturn, 1) := by decide +kernel
theorem dL_merge_3 : decode cL_merge 3 = .ok (.aload_n 0, 1) := by decide +kernel
theorem dL_merge_4 : decode cL_merge 4 = .ok (.iload_n 1, 1) := by decide +kernel
theorem dL_merge_5 : decode cL_merge 5 = .ok (.iload_n 2, 1) := by decide +kernel
theorem dL_merge_6 : decode cL_merge 6 = .ok (.iload_n 3, 1) := by decide +kernel
theorem dL_merge_7 : decode cL_merge 7 = .ok (.iload 4, 2) := by decide +kernel
theorem dL_merge_9 : decode cL_merge 9 = .ok (.invokevirtual 112, 3) := by decide +kernel
theorem dL_mould_0 : decode cL_mould 0 = .ok (.aload 7, 2) := by decide +kernel
theorem dL_mould_11 : decode cL_mould 11 = .ok (.iload 6, 2) := by decide +kernel
theorem dL_mould_13 : decode cL_mould 13 = .ok (.invokevirtual 7, 3) := by decide +kernel
theorem dL_mould_16 : decode cL_mould 16 = .ok (.i2l, 1) := by decide +kernel
theorem dL_mould_17 : decode cL_mould 17 = .ok (.lastore, 1) := by decide +kernel
theorem dL_mould_18 : decode cL_mould 18 = .ok (.goto 11, 3) := by decide +kernel
theorem dL_mould_2 : decode cL_mould 2 = .ok (.iconst 0, 1) := by decide +kernel
theorem dL_mould_21 : decode cL_mould 21 = .ok (.astore 8, 2) := by decide +kernel
theorem dL_mould_23 : decode cL_mould 23 = .ok (.iconst 1, 1) := by decide +kernel
theorem dL_mould_24 : decode cL_mould 24 = .ok (.ireturn, 1) := by decide +kernel
theorem dL_mould_29 : decode cL_mould 29 = .ok (.iconst 0, 1) := by decide +kernel
theorem dL_mould_3 : decode cL_mould 3 = .ok (.aload_n 0, 1) := by decide +kernel
theorem dL_mould_30 : decode cL_mould 30 = .ok (.ireturn, 1) := by decide +kernel
theorem dL_mould_4 : decode cL_mould 4 = .ok (.iload_n 1, 1) := by decide +kernel
theorem dL_mould_5 : decode cL_mould 5 = .ok (.iload_n 2, 1) := by decide +kernel
theorem dL_mould_6 : decode cL_mould 6 = .ok (.iload_n 3, 1) := by decide +kernel
theorem dL_mould_7 : decode cL_mould 7 = .ok (.iload 4, 2) := by decide +kernel
theorem dL_mould_9 : decode cL_mould 9 = .ok (.iload 5, 2) := by decide +kernel
theorem dL_owner_0 : decode cL_owner 0 = .ok (.aload_n 3, 1) := by decide +kernel
theorem dL_owner_1 : decode cL_owner 1 = .ok (.iconst 0, 1) := by decide +kernel
theorem dL_owner_13 : decode cL_owner 13 = .ok (.astore 4, 2) := by decide +kernel
theorem dL_owner_15 : decode cL_owner 15 = .ok (.iconst 1, 1) := by decide +kernel
theorem dL_owner_16 : decode cL_owner 16 = .ok (.ireturn, 1) := by decide +kernel
theorem dL_owner_2 : decode cL_owner 2 = .ok (.aload_n 0, 1) := by decide +kernel
theorem dL_owner_3 : decode cL_owner 3 = .ok (.iload_n 1, 1) := by decide +kernel
theorem dL_owner_4 : decode cL_owner 4 = .ok (.iload_n 2, 1) := by decide +kernel
theorem dL_owner_5 : decode cL_owner 5 = .ok (.invokevirtual 40, 3) := by decide +kernel
theorem dL_put_0 : decode cL_put 0 = .ok (.aload 4, 2) := by decide +kernel
theorem dL_put_15 : decode cL_put 15 = .ok (.astore 5, 2) := by decide +kernel
theorem dL_put_17 : decode cL_put 17 = .ok (.iconst 1, 1) := by decide +kernel
theorem dL_put_18 : decode cL_put 18 = .ok (.ireturn, 1) := by decide +kernel
theorem dL_put_2 : decode cL_put 2 = .ok (.iconst 0, 1) := by decide +kernel
theorem dL_put_3 : decode cL_put 3 = .ok (.aload_n 0, 1) := by decide +kernel
theorem dL_put_4 : decode cL_put 4 = .ok (.iload_n 1, 1) := by decide +kernel
theorem dL_put_5 : decode cL_put 5 = .ok (.iload_n 2, 1) := by decide +kernel
theorem dL_put_6 : decode cL_put 6 = .ok (.iload_n 3, 1) := by decide +kernel
theorem dL_put_7 : decode cL_put 7 = .ok (.invokevirtual 60, 3) := by decide +kernel
theorem dL_ream_0 : decode cL_ream 0 = .ok (.aload_n 2, 1) := by decide +kernel
theorem dL_ream_1 : decode cL_ream 1 = .ok (.iconst 0, 1) := by decide +kernel
theorem dL_ream_12 : decode cL_ream 12 = .ok (.astore_n 3, 1) := by decide +kernel
theorem dL_ream_13 : decode cL_ream 13 = .ok (.iconst 1, 1) := by decide +kernel
theorem dL_ream_14 : decode cL_ream 14 = .ok (.ireturn, 1) := by decide +kernel
theorem dL_ream_18 : decode cL_ream 18 = .ok (.iconst 0, 1) := by decide +kernel
theorem dL_ream_19 : decode cL_ream 19 = .ok (.ireturn, 1) := by decide +kernel
theorem dL_ream_2 : decode cL_ream 2 = .ok (.aload_n 0, 1) := by decide +kernel
theorem dL_ream_3 : decode cL_ream 3 = .ok (.iload_n 1, 1) := by decide +kernel
theorem dL_ream_4 : decode cL_ream 4 = .ok (.invokevirtual 56, 3) := by decide +kernel
theorem dL_ream_7 : decode cL_ream 7 = .ok (.i2l, 1) := by decide +kernel
theorem dL_ream_8 : decode cL_ream 8 = .ok (.lastore, 1) := by decide +kernel
theorem dL_ream_9 : decode cL_ream 9 = .ok (.goto 9, 3) := by decide +kernel
theorem dL_retire_0 : decode cL_retire 0 = .ok (.aload_n 3, 1) := by decide +kernel
theorem dL_retire_1 : decode cL_retire 1 = .ok (.iconst 0, 1) := by decide +kernel
theorem dL_retire_13 : decode cL_retire 13 = .ok (.astore 4, 2) := by decide +kernel
theorem dL_retire_15 : decode cL_retire 15 = .ok (.iconst 1, 1) := by decide +kernel
theorem dL_retire_16 : decode cL_retire 16 = .ok (.ireturn, 1) := by decide +kernel
theorem dL_retire_2 : decode cL_retire 2 = .ok (.aload_n 0, 1) := by decide +kernel
theorem dL_retire_3 : decode cL_retire 3 = .ok (.iload_n 1, 1) := by decide +kernel
theorem dL_retire_4 : decode cL_retire 4 = .ok (.iload_n 2, 1) := by decide +kernel
theorem dL_retire_5 : decode cL_retire 5 = .ok (.invokevirtual 33, 3) := by decide +kernel
theorem dL_run_0 : decode cL_run 0 = .ok (.aload_n 3, 1) := by decide +kernel
theorem dL_run_1 : decode cL_run 1 = .ok (.iconst 0, 1) := by decide +kernel
theorem dL_run_13 : decode cL_run 13 = .ok (.astore 4, 2) := by decide +kernel
theorem dL_run_15 : decode cL_run 15 = .ok (.iconst 1, 1) := by decide +kernel
theorem dL_run_16 : decode cL_run 16 = .ok (.ireturn, 1) := by decide +kernel
theorem dL_run_2 : decode cL_run 2 = .ok (.aload_n 0, 1) := by decide +kernel
theorem dL_run_3 : decode cL_run 3 = .ok (.iload_n 1, 1) := by decide +kernel
theorem dL_run_4 : decode cL_run 4 = .ok (.iload_n 2, 1) := by decide +kernel
theorem dL_run_5 : decode cL_run 5 = .ok (.invokevirtual 88, 3) := by decide +kernel
theorem dL_sell_0 : decode cL_sell 0 = .ok (.aload 4, 2) := by decide +kernel
theorem dL_sell_15 : decode cL_sell 15 = .ok (.astore 5, 2) := by decide +kernel
theorem dL_sell_17 : decode cL_sell 17 = .ok (.iconst 1, 1) := by decide +kernel
theorem dL_sell_18 : decode cL_sell 18 = .ok (.ireturn, 1) := by decide +kernel
theorem dL_sell_2 : decode cL_sell 2 = .ok (.iconst 0, 1) := by decide +kernel
theorem dL_sell_3 : decode cL_sell 3 = .ok (.aload_n 0, 1) := by decide +kernel
theorem dL_sell_4 : decode cL_sell 4 = .ok (.iload_n 1, 1) := by decide +kernel
theorem dL_sell_5 : decode cL_sell 5 = .ok (.iload_n 2, 1) := by decide +kernel
theorem dL_sell_6 : decode cL_sell 6 = .ok (.iload_n 3, 1) := by decide +kernel
theorem dL_sell_7 : decode cL_sell 7 = .ok (.invokevirtual 36, 3) := by decide +kernel
theorem dL_setAge_0 : decode cL_setAge 0 = .ok (.aload_n 2, 1) := by decide +kernel
theorem dL_setAge_1 : decode cL_setAge 1 = .ok (.iconst 0, 1) := by decide +kernel
theorem dL_setAge_12 : decode cL_setAge 12 = .ok (.astore_n 3, 1) := by decide +kernel
theorem dL_setAge_13 : decode cL_setAge 13 = .ok (.iconst 1, 1) := by decide +kernel
theorem dL_setAge_14 : decode cL_setAge 14 = .ok (.ireturn, 1) := by decide +kernel
theorem dL_setAge_15 : decode cL_setAge 15 = .ok (.iconst 0, 1) := by decide +kernel
theorem dL_setAge_16 : decode cL_setAge 16 = .ok (.ireturn, 1) := by decide +kernel
theorem dL_setAge_2 : decode cL_setAge 2 = .ok (.aload_n 0, 1) := by decide +kernel
theorem dL_setAge_3 : decode cL_setAge 3 = .ok (.iload_n 1, 1) := by decide +kernel
theorem dL_setAge_4 : decode cL_setAge 4 = .ok (.invokevirtual 131, 3) := by decide +kernel
theorem dL_setAge_7 : decode cL_setAge 7 = .ok (.i2l, 1) := by decide +kernel
theorem dL_setAge_8 : decode cL_setAge 8 = .ok (.lastore, 1) := by decide +kernel
theorem dL_setAge_9 : decode cL_setAge 9 = .ok (.goto 6, 3) := by decide +kernel
theorem dL_setTolerance_0 : decode cL_setTolerance 0 = .ok (.aload_n 2, 1) := by decide +kernel
theorem dL_setTolerance_1 : decode cL_setTolerance 1 = .ok (.iconst 0, 1) := by decide +kernel
theorem dL_setTolerance_12 : decode cL_setTolerance 12 = .ok (.astore_n 3, 1) := by decide +kernel
theorem dL_setTolerance_13 : decode cL_setTolerance 13 = .ok (.iconst 1, 1) := by decide +kernel
theorem dL_setTolerance_14 : decode cL_setTolerance 14 = .ok (.ireturn, 1) := by decide +kernel
theorem dL_setTolerance_15 : decode cL_setTolerance 15 = .ok (.iconst 0, 1) := by decide +kernel
theorem dL_setTolerance_16 : decode cL_setTolerance 16 = .ok (.ireturn, 1) := by decide +kernel
theorem dL_setTolerance_2 : decode cL_setTolerance 2 = .ok (.aload_n 0, 1) := by decide +kernel
theorem dL_setTolerance_3 : decode cL_setTolerance 3 = .ok (.iload_n 1, 1) := by decide +kernel
theorem dL_setTolerance_4 : decode cL_setTolerance 4 = .ok (.invokevirtual 99, 3) := by decide +kernel
theorem dL_setTolerance_7 : decode cL_setTolerance 7 = .ok (.i2l, 1) := by decide +kernel
theorem dL_setTolerance_8 : decode cL_setTolerance 8 = .ok (.lastore, 1) := by decide +kernel
theorem dL_setTolerance_9 : decode cL_setTolerance 9 = .ok (.goto 6, 3) := by decide +kernel
theorem dL_state_0 : decode cL_state 0 = .ok (.aload_n 3, 1) := by decide +kernel
theorem dL_state_1 : decode cL_state 1 = .ok (.iconst 0, 1) := by decide +kernel
theorem dL_state_13 : decode cL_state 13 = .ok (.astore 4, 2) := by decide +kernel
theorem dL_state_15 : decode cL_state 15 = .ok (.iconst 1, 1) := by decide +kernel
theorem dL_state_16 : decode cL_state 16 = .ok (.ireturn, 1) := by decide +kernel
theorem dL_state_2 : decode cL_state 2 = .ok (.aload_n 0, 1) := by decide +kernel
theorem dL_state_3 : decode cL_state 3 = .ok (.iload_n 1, 1) := by decide +kernel
theorem dL_state_4 : decode cL_state 4 = .ok (.iload_n 2, 1) := by decide +kernel
theorem dL_state_5 : decode cL_state 5 = .ok (.invokevirtual 43, 3) := by decide +kernel
theorem dL_tariff_0 : decode cL_tariff 0 = .ok (.aload_n 2, 1) := by decide +kernel
theorem dL_tariff_1 : decode cL_tariff 1 = .ok (.iconst 0, 1) := by decide +kernel
theorem dL_tariff_12 : decode cL_tariff 12 = .ok (.astore_n 3, 1) := by decide +kernel
theorem dL_tariff_13 : decode cL_tariff 13 = .ok (.iconst 1, 1) := by decide +kernel
theorem dL_tariff_14 : decode cL_tariff 14 = .ok (.ireturn, 1) := by decide +kernel
theorem dL_tariff_2 : decode cL_tariff 2 = .ok (.aload_n 0, 1) := by decide +kernel
theorem dL_tariff_3 : decode cL_tariff 3 = .ok (.iload_n 1, 1) := by decide +kernel
theorem dL_tariff_4 : decode cL_tariff 4 = .ok (.invokevirtual 63, 3) := by decide +kernel
theorem dL_twin_0 : decode cL_twin 0 = .ok (.aload_n 3, 1) := by decide +kernel
theorem dL_twin_1 : decode cL_twin 1 = .ok (.iconst 0, 1) := by decide +kernel
theorem dL_twin_2 : decode cL_twin 2 = .ok (.aload_n 0, 1) := by decide +kernel
theorem dL_twin_20 : decode cL_twin 20 = .ok (.astore 4, 2) := by decide +kernel
theorem dL_twin_22 : decode cL_twin 22 = .ok (.iconst 1, 1) := by decide +kernel
theorem dL_twin_23 : decode cL_twin 23 = .ok (.ireturn, 1) := by decide +kernel
theorem dL_twin_3 : decode cL_twin 3 = .ok (.iload_n 1, 1) := by decide +kernel
theorem dL_twin_4 : decode cL_twin 4 = .ok (.iload_n 2, 1) := by decide +kernel
theorem dL_twin_5 : decode cL_twin 5 = .ok (.invokevirtual 23, 3) := by decide +kernel
theorem dL_unclaim_0 : decode cL_unclaim 0 = .ok (.aload 4, 2) := by decide +kernel
theorem dL_unclaim_15 : decode cL_unclaim 15 = .ok (.astore 5, 2) := by decide +kernel
theorem dL_unclaim_17 : decode cL_unclaim 17 = .ok (.iconst 1, 1) := by decide +kernel
theorem dL_unclaim_18 : decode cL_unclaim 18 = .ok (.ireturn, 1) := by decide +kernel
theorem dL_unclaim_2 : decode cL_unclaim 2 = .ok (.iconst 0, 1) := by decide +kernel
theorem dL_unclaim_3 : decode cL_unclaim 3 = .ok (.aload_n 0, 1) := by decide +kernel
theorem dL_unclaim_4 : decode cL_unclaim 4 = .ok (.iload_n 1, 1) := by decide +kernel
theorem dL_unclaim_5 : decode cL_unclaim 5 = .ok (.iload_n 2, 1) := by decide +kernel
theorem dL_unclaim_6 : decode cL_unclaim 6 = .ok (.iload_n 3, 1) := by decide +kernel
theorem dL_unclaim_7 : decode cL_unclaim 7 = .ok (.invokevirtual 125, 3) := by decide +kernel
theorem dL_unmerge_0 : decode cL_unmerge 0 = .ok (.aload_n 1, 1) := by decide +kernel
theorem dL_unmerge_1 : decode cL_unmerge 1 = .ok (.iconst 0, 1) := by decide +kernel
theorem dL_unmerge_11 : decode cL_unmerge 11 = .ok (.astore_n 2, 1) := by decide +kernel
theorem dL_unmerge_12 : decode cL_unmerge 12 = .ok (.iconst 1, 1) := by decide +kernel
theorem dL_unmerge_13 : decode cL_unmerge 13 = .ok (.ireturn, 1) := by decide +kernel
theorem dL_unmerge_2 : decode cL_unmerge 2 = .ok (.aload_n 0, 1) := by decide +kernel
theorem dL_unmerge_3 : decode cL_unmerge 3 = .ok (.invokevirtual 115, 3) := by decide +kernel
theorem dL_use_0 : decode cL_use 0 = .ok (.aload 4, 2) := by decide +kernel
theorem dL_use_15 : decode cL_use 15 = .ok (.astore 5, 2) := by decide +kernel
theorem dL_use_17 : decode cL_use 17 = .ok (.iconst 1, 1) := by decide +kernel
theorem dL_use_18 : decode cL_use 18 = .ok (.ireturn, 1) := by decide +kernel
theorem dL_use_2 : decode cL_use 2 = .ok (.iconst 0, 1) := by decide +kernel
theorem dL_use_3 : decode cL_use 3 = .ok (.aload_n 0, 1) := by decide +kernel
theorem dL_use_4 : decode cL_use 4 = .ok (.iload_n 1, 1) := by decide +kernel
theorem dL_use_5 : decode cL_use 5 = .ok (.iload_n 2, 1) := by decide +kernel
theorem dL_use_6 : decode cL_use 6 = .ok (.iload_n 3, 1) := by decide +kernel
theorem dL_use_7 : decode cL_use 7 = .ok (.invokevirtual 69, 3) := by decide +kernel
theorem dL_usedShare_0 : decode cL_usedShare 0 = .ok (.aload_n 1, 1) := by decide +kernel
theorem dL_usedShare_1 : decode cL_usedShare 1 = .ok (.iconst 0, 1) := by decide +kernel
theorem dL_usedShare_11 : decode cL_usedShare 11 = .ok (.astore_n 2, 1) := by decide +kernel
theorem dL_usedShare_12 : decode cL_usedShare 12 = .ok (.iconst 1, 1) := by decide +kernel
theorem dL_usedShare_13 : decode cL_usedShare 13 = .ok (.ireturn, 1) := by decide +kernel
theorem dL_usedShare_2 : decode cL_usedShare 2 = .ok (.aload_n 0, 1) := by decide +kernel
theorem dL_usedShare_3 : decode cL_usedShare 3 = .ok (.invokevirtual 151, 3) := by decide +kernel
theorem dL_wash_0 : decode cL_wash 0 = .ok (.aload_n 2, 1) := by decide +kernel
theorem dL_wash_1 : decode cL_wash 1 = .ok (.iconst 0, 1) := by decide +kernel
theorem dL_wash_19 : decode cL_wash 19 = .ok (.astore_n 3, 1) := by decide +kernel
theorem dL_wash_2 : decode cL_wash 2 = .ok (.aload_n 0, 1) := by decide +kernel
theorem dL_wash_20 : decode cL_wash 20 = .ok (.iconst 1, 1) := by decide +kernel
theorem dL_wash_21 : decode cL_wash 21 = .ok (.ireturn, 1) := by decide +kernel
theorem dL_wash_3 : decode cL_wash 3 = .ok (.iload_n 1, 1) := by decide +kernel
theorem dL_wash_4 : decode cL_wash 4 = .ok (.invokevirtual 91, 3) := by decide +kernel
theorem dL_wire_0 : decode cL_wire 0 = .ok (.aload 4, 2) := by decide +kernel
theorem dL_wire_15 : decode cL_wire 15 = .ok (.astore 5, 2) := by decide +kernel
theorem dL_wire_17 : decode cL_wire 17 = .ok (.iconst 1, 1) := by decide +kernel
theorem dL_wire_18 : decode cL_wire 18 = .ok (.ireturn, 1) := by decide +kernel
theorem dL_wire_2 : decode cL_wire 2 = .ok (.iconst 0, 1) := by decide +kernel
theorem dL_wire_3 : decode cL_wire 3 = .ok (.aload_n 0, 1) := by decide +kernel
theorem dL_wire_4 : decode cL_wire 4 = .ok (.iload_n 1, 1) := by decide +kernel
theorem dL_wire_5 : decode cL_wire 5 = .ok (.iload_n 2, 1) := by decide +kernel
theorem dL_wire_6 : decode cL_wire 6 = .ok (.iload_n 3, 1) := by decide +kernel
theorem dL_wire_7 : decode cL_wire 7 = .ok (.invokevirtual 46, 3) := by decide +kernel
theorem dL_year_0 : decode cL_year 0 = .ok (.aload_n 3, 1) := by decide +kernel
theorem dL_year_1 : decode cL_year 1 = .ok (.iconst 0, 1) := by decide +kernel
theorem dL_year_13 : decode cL_year 13 = .ok (.astore 4, 2) := by decide +kernel
theorem dL_year_15 : decode cL_year 15 = .ok (.iconst 1, 1) := by decide +kernel
theorem dL_year_16 : decode cL_year 16 = .ok (.ireturn, 1) := by decide +kernel
theorem dL_year_2 : decode cL_year 2 = .ok (.aload_n 0, 1) := by decide +kernel
theorem dL_year_3 : decode cL_year 3 = .ok (.iload_n 1, 1) := by decide +kernel
theorem dL_year_4 : decode cL_year 4 = .ok (.iload_n 2, 1) := by decide +kernel
theorem dL_year_5 : decode cL_year 5 = .ok (.invokevirtual 134, 3) := by decide +kernel
theorem dL_years_0 : decode cL_years 0 = .ok (.aload_n 1, 1) := by decide +kernel
theorem dL_years_1 : decode cL_years 1 = .ok (.iconst 0, 1) := by decide +kernel
theorem dL_years_10 : decode cL_years 10 = .ok (.astore_n 2, 1) := by decide +kernel
theorem dL_years_11 : decode cL_years 11 = .ok (.iconst 1, 1) := by decide +kernel
theorem dL_years_12 : decode cL_years 12 = .ok (.ireturn, 1) := by decide +kernel
theorem dL_years_13 : decode cL_years 13 = .ok (.iconst 0, 1) := by decide +kernel
theorem dL_years_14 : decode cL_years 14 = .ok (.ireturn, 1) := by decide +kernel
theorem dL_years_2 : decode cL_years 2 = .ok (.aload_n 0, 1) := by decide +kernel
theorem dL_years_3 : decode cL_years 3 = .ok (.invokevirtual 147, 3) := by decide +kernel
theorem dL_years_6 : decode cL_years 6 = .ok (.lastore, 1) := by decide +kernel
theorem dL_years_7 : decode cL_years 7 = .ok (.goto 6, 3) := by decide +kernel
theorem z_updL0 {f : Nat → Int64} {v : Int64} : vp_updL f (0 : Int32).toNatClampNeg v 0 = v := by
  show vp_updL f 0 v 0 = v
  simp [vp_updL]
theorem z_ite2 {P : Prop} [Decidable P] {r : Int32} (h : r = if P then 0 else 1) : (P ∧ r = 0) ∨ (¬ P ∧ r = 1) := by
  by_cases hp : P
  · exact Or.inl ⟨hp, h.trans (if_pos hp)⟩
  · exact Or.inr ⟨hp, h.trans (if_neg hp)⟩
abbrev wz_L_mould : List Cond := .codeWith yL_mould cL_mould 9 (Option.some Jvm.ClassFile.FieldType.int) [((0 : Nat), (18 : Nat), (21 : Nat), (13 : Nat)), ((0 : Nat), (18 : Nat), (25 : Nat), (15 : Nat))] :: lw_good
set_option maxHeartbeats 4000000 in
set_option maxRecDepth 100000 in
/-- the law on mould of a fresh object -/
theorem k_L_mould (l : Launch) (hfl : l.stackTraces = false) (G : va_G) (z : Nat) (h0 : Nat) (a1 : Nat) (a2 : Nat) (a3 : Nat) (a4 : Nat) (a5 : Nat) (a6 : Nat) (a7 : Nat) (a8 : Nat) (tol : Int32) (sal : Int32) (c0 : Int32) (p0 : Int32) (p1 : Int32) (p2 : Int32) (p3 : Int32) (p4 : Int32) (p5 : Int32) (o0 : Nat) (cyL : ClassId) (fo : Nat → Int64) (sz : Nat)  : Met l yL_mould wz_L_mould ({ frames := 8, cells := 13, slots := 115, locals := 130 }) (va_Pc [.ref h0, .int p0, .int p1, .int p2, .int p3, .int p4, .int p5, .ref o0] (PW G z [(h0, .inr (12, [.ref a1, .ref a2, .ref a3, .ref a4, .ref a5, .ref a6, .ref a7, .ref a8, .int tol, .int sal])), (a1, .inr (3, [.int c0, .ref z, .int 0])), (o0, .inl (cyL, 1, .inr (.inl (fo))))] [(cyL, .long)] sz)) (va_Qi (fun (r : Int32) (u : Nat → Int64) => (okM p0 p1 p2 p3 p4 p5 ∧ r = 0 ∧ u 0 = (0 : Int32).toInt64) ∨ (¬ okM p0 p1 p2 p3 p4 p5 ∧ r = 1)) (fun (u : Nat → Int64) (t : State) => QW G [(o0, .inl (cyL, 1, .inr (.inl (u))))] [(cyL, .long)] (va_A [(h0, .inr (12, [.ref a1, .ref a2, .ref a3, .ref a4, .ref a5, .ref a6, .ref a7, .ref a8, .int tol, .int sal])), (a1, .inr (3, [.int c0, .ref z, .int 0])), (o0, .inl (cyL, 1, .inr (.inl (fo))))] sz) t) (va_A [(h0, .inr (12, [.ref a1, .ref a2, .ref a3, .ref a4, .ref a5, .ref a6, .ref a7, .ref a8, .int tol, .int sal])), (a1, .inr (3, [.int c0, .ref z, .int 0])), (o0, .inl (cyL, 1, .inr (.inl (fo))))] sz)) 13 115 (va_A [(h0, .inr (12, [.ref a1, .ref a2, .ref a3, .ref a4, .ref a5, .ref a6, .ref a7, .ref a8, .int tol, .int sal])), (a1, .inr (3, [.int c0, .ref z, .int 0])), (o0, .inl (cyL, 1, .inr (.inl (fo))))] sz) := by
  refine va_MetW (cc := cL_mould) (maxL := 9) (ret := (Option.some Jvm.ClassFile.FieldType.int)) (hh := [((0 : Nat), (18 : Nat), (21 : Nat), (13 : Nat)), ((0 : Nat), (18 : Nat), (25 : Nat), (15 : Nat))]) (by decide) rfl ?_
  intro p e s m args below meth c s₁ B hml hv
  obtain ⟨rfl, rfl, hP, hK, hD0, hG⟩ := hv
  have hx := B.exec
  have hb := B.bytes
  have hr := B.returns
  have hts := atoms_spec (ws := wz_L_mould) B.pre
  have htab := vx_table (x := yL_mould) B (hts _ List.mem_cons_self)
  have hg : ∀ w ∈ lw_good, w.before _ s = true := fun w h => hts w (List.mem_cons_of_mem _ h)
  have hown : s.vm.findClass RL = some m.cls := findClass_of_methodNamed B.named
  have hlocks := B.notSynchronized
  have hD := hD0.self (sz := s.heap.size)
  generalize hAe : va_A [(h0, .inr (12, [.ref a1, .ref a2, .ref a3, .ref a4, .ref a5, .ref a6, .ref a7, .ref a8, .int tol, .int sal])), (a1, .inr (3, [.int c0, .ref z, .int 0])), (o0, .inl (cyL, 1, .inr (.inl (fo))))] s.heap.size = A at hD hG ⊢
  have hA : ∀ q : Nat, s.heap.size ≤ q → A q := fun q h => by rw [← hAe]; exact Or.inr h
  have hS : va_S A s.heap s.heap [] := va_S.rf
  have hl := lv_entry ([.ref h0, .int p0, .int p1, .int p2, .int p3, .int p4, .int p5, .ref o0]) (n := 9) (Nat.le_of_ble_eq_true rfl)
  rw [lg_entry_eq]
  generalize (lg_sl ([.ref h0, .int p0, .int p1, .int p2, .int p3, .int p4, .int p5, .ref o0]) ++ List.replicate (9 - (lg_sl ([.ref h0, .int p0, .int p1, .int p2, .int p3, .int p4, .int p5, .ref o0])).length) Slot.unset).toArray = ls at hl ⊢
  have hl : lv_has ls 9 [(0, .ref h0), (1, .int p0), (2, .int p1), (3, .int p2), (4, .int p3), (5, .int p4), (6, .int p5), (7, .ref o0)] := hl
  refine lv_aload hx hb dL_mould_0 (lv_at hl 7 rfl) ?_
  refine lv_iconst (v := 0) hx hb dL_mould_2 (by decide) ?_
  refine lv_aload_n hx hb dL_mould_3 rfl (lv_at hl 0 rfl) ?_
  refine lv_iload_n hx hb dL_mould_4 rfl (lv_at hl 1 rfl) ?_
  refine lv_iload_n hx hb dL_mould_5 rfl (lv_at hl 2 rfl) ?_
  refine lv_iload_n hx hb dL_mould_6 rfl (lv_at hl 3 rfl) ?_
  refine lv_iload hx hb dL_mould_7 (lv_at hl 4 rfl) ?_
  refine lv_iload hx hb dL_mould_9 (lv_at hl 5 rfl) ?_
  refine lv_iload hx hb dL_mould_11 (lv_at hl 6 rfl) ?_
  have hPc := hP.sub (ws' := [(h0, .inr (12, [.ref a1, .ref a2, .ref a3, .ref a4, .ref a5, .ref a6, .ref a7, .ref a8, .int tol, .int sal])), (a1, .inr (3, [.int c0, .ref z, .int 0]))]) [0, 1] rfl
  have hKc := hK.sub (tys' := []) [] rfl
  have hDc := hD.sub (ws' := [(h0, .inr (12, [.ref a1, .ref a2, .ref a3, .ref a4, .ref a5, .ref a6, .ref a7, .ref a8, .int tol, .int sal])), (a1, .inr (3, [.int c0, .ref z, .int 0]))]) [0, 1] (by decide) rfl
  have hFc := va_free (wc := [(h0, .inr (12, [.ref a1, .ref a2, .ref a3, .ref a4, .ref a5, .ref a6, .ref a7, .ref a8, .int tol, .int sal])), (a1, .inr (3, [.int c0, .ref z, .int 0]))]) hD hS hA [0, 1] rfl
  refine vx_calli (vx_runV (As := [.int p0, .int p1, .int p2, .int p3, .int p4, .int p5]) (rest := [.int 0, .ref o0]) ⟨hx, hb, hml, hown, hts⟩ (k_X8_mould l hfl G z h0 a1 a2 a3 a4 a5 a6 a7 a8 tol sal c0 p0 p1 p2 p3 p4 p5 s.heap.size ) (cwV 6 hts (lw_goodApp (lw_4 q304 q305 q306 q1) q307) rfl rfl rfl (by decide +kernel) ⟨Nat.le_of_ble_eq_true rfl, Nat.le_of_ble_eq_true rfl⟩) ⟨PW.blind, va_recv hK hP (ci := 12) (q0 := 0) rfl rfl, PW.of hPc hKc hDc hG hS hFc [.ref h0, .int p0, .int p1, .int p2, .int p3, .int p4, .int p5]⟩ rfl rfl hl.1 rfl (lv_room (Nat.le_of_ble_eq_true rfl)) dL_mould_13 ⟨Nat.le_of_ble_eq_true rfl, Nat.le_of_ble_eq_true rfl⟩) hS (fun q _ h => hFc q h) hFc (fun q _ h => hFc q h) (fun E ce q9 ux t_4 H_1 locs ht hvm px_5 hE hz1 hk1 hS hq9 hv9 hcl9 => ?_) (fun r_2 u t_4 H_1 locs ht hvm hw_3 hB hz1 hk1 hS => ?_)
  · subst hE
    obtain ⟨hP, hD, hK⟩ := QW.join (wr := [(o0, .inl (cyL, 1, .inr (.inl (fo))))]) (w1 := []) (ty1 := []) hP hD hK [0, 1] [2] rfl rfl (by decide) (by decide) hk1 hFc ht hvm (QW.nil hK hvm)
    have hP : va_P G vwCl ([(o0, .inl (cyL, 1, .inr (.inl (fo))))]) H_1 := hP
    have hD : va_D A ([(o0, .inl (cyL, 1, .inr (.inl (fo))))]) := hD
    have hK : va_K G vwCl [(cyL, .long)] s := hK
    refine vx_widen (k := 13) (n := 115) (Nat.le_of_ble_eq_true rfl) (Nat.le_of_ble_eq_true rfl) ?_
    refine vx_catch (name := "java/lang/IllegalArgumentException") hown [] ⟨0, 18, 21, 13⟩ [⟨0, 18, 25, 15⟩] (htab.trans rfl) (fun z9 h9 => absurd h9 List.not_mem_nil) (by decide) (by decide) (hg _ q302) (va_Nw.use rfl (hG.2.2.2.2.1 _ qf313)) hq9 hv9 hcl9 ?_
    refine lv_astore (lv' := [(8, .ref q9), (0, .ref h0), (1, .int p0), (2, .int p1), (3, .int p2), (4, .int p3), (5, .int p4), (6, .int p5), (7, .ref o0)]) hx hb dL_mould_21 hl (by decide) rfl (fun ls hl => ?_)
    refine lv_iconst (v := 1) hx hb dL_mould_23 (by decide) ?_
    refine W.widen (k := 13) (n := 115) (Nat.le_of_ble_eq_true rfl) (Nat.le_of_ble_eq_true rfl) ?_
    have hP9 := hP.sub (ws' := [(o0, .inl (cyL, 1, .inr (.inl (fo))))]) [0] rfl
    have hD9 := hD.sub (ws' := [(o0, .inl (cyL, 1, .inr (.inl (fo))))]) [0] (by decide) rfl
    have hK9 := hK.sub (tys' := [(cyL, .long)]) [0] rfl
    exact W.iret (v := 1) hx hb hr (fun t ht hW => ⟨⟨1, fo, rfl, Or.inr ⟨px_5, rfl⟩, QW.of hP9 hK9 hD9 ht hW.alike⟩, hS.F ht⟩) hS.2.2 dL_mould_24
  obtain ⟨hP, hD, hK⟩ := QW.join (wr := [(o0, .inl (cyL, 1, .inr (.inl (fo))))]) (w1 := []) hP hD hK [0, 1] [2] rfl rfl (by decide) (by decide) hk1 hFc ht hvm hB
  have hP : va_P G vwCl ([(o0, .inl (cyL, 1, .inr (.inl (fo))))]) H_1 := hP
  have hD : va_D A ([(o0, .inl (cyL, 1, .inr (.inl (fo))))]) := hD
  have hK : va_K G vwCl [(cyL, .long)] s := hK
  refine W.widen (k := 13) (n := 115) (Nat.le_of_ble_eq_true rfl) (Nat.le_of_ble_eq_true rfl) ?_
  obtain ⟨he9, hphi9⟩ := hw_3
  refine lv_i2l hx hb dL_mould_16 rfl ?_
  refine va_last hx hb hK hP hD hS 0 0 rfl rfl (by unfold vp_in; decide +kernel) dL_mould_17 (fun H_6 locs hP hD hS => ?_)
  have hP : va_P G vwCl ([(o0, .inl (cyL, 1, .inr (.inl (vp_updL (fo) (0 : Int32).toNatClampNeg ((r_2).toInt64)))))]) H_6 := hP
  have hD : va_D A ([(o0, .inl (cyL, 1, .inr (.inl (vp_updL (fo) (0 : Int32).toNatClampNeg ((r_2).toInt64)))))]) := hD
  refine lv_goto (tgt := 29) hx hb dL_mould_18 (by decide) ?_
  refine lv_iconst (v := 0) hx hb dL_mould_29 (by decide) ?_
  refine W.widen (k := 13) (n := 115) (Nat.le_of_ble_eq_true rfl) (Nat.le_of_ble_eq_true rfl) ?_
  have hP9 := hP.sub (ws' := [(o0, .inl (cyL, 1, .inr (.inl ((vp_updL (fo) (0 : Int32).toNatClampNeg ((r_2).toInt64))))))]) [0] rfl
  have hD9 := hD.sub (ws' := [(o0, .inl (cyL, 1, .inr (.inl ((vp_updL (fo) (0 : Int32).toNatClampNeg ((r_2).toInt64))))))]) [0] (by decide) rfl
  have hK9 := hK.sub (tys' := [(cyL, .long)]) [0] rfl
  exact W.iret (v := 0) hx hb hr (fun t ht hW => ⟨⟨0, vp_updL (fo) (0 : Int32).toNatClampNeg ((r_2).toInt64), rfl, Or.inl ⟨hphi9, rfl, z_updL0.trans (by rw [he9])⟩, QW.of hP9 hK9 hD9 ht hW.alike⟩, hS.F ht⟩) hS.2.2 dL_mould_30

abbrev wz_L_copy : List Cond := .codeWith yL_copy cL_copy 5 (Option.some Jvm.ClassFile.FieldType.int) [((0 : Nat), (10 : Nat), (13 : Nat), (21 : Nat)), ((0 : Nat), (10 : Nat), (17 : Nat), (13 : Nat)), ((0 : Nat), (10 : Nat), (21 : Nat), (15 : Nat))] :: lw_good
set_option maxHeartbeats 4000000 in
set_option maxRecDepth 100000 in
/-- the law on copy of a fresh object: it throws -/
theorem k_L_copy (l : Launch) (hfl : l.stackTraces = false) (G : va_G) (z : Nat) (h0 : Nat) (a1 : Nat) (a2 : Nat) (a3 : Nat) (a4 : Nat) (a5 : Nat) (a6 : Nat) (a7 : Nat) (a8 : Nat) (tol : Int32) (sal : Int32) (c0 : Int32) (e0 : Nat) (p0 : Int32) (p1 : Int32) (o0 : Nat) (cyL : ClassId) (fo : Nat → Int64) (sz : Nat)  : Met l yL_copy wz_L_copy ({ frames := 8, cells := 1, slots := 6, locals := 126 }) (va_Pc [.ref h0, .int p0, .int p1, .ref o0] (PW G z [(h0, .inr (12, [.ref a1, .ref a2, .ref a3, .ref a4, .ref a5, .ref a6, .ref a7, .ref a8, .int tol, .int sal])), (a1, .inr (3, [.int c0, .ref e0, .int 0])), (o0, .inl (cyL, 1, .inr (.inl (fo))))] [(cyL, .long)] sz)) (va_Qi (fun (r : Int32) (_ : Unit) => r = 1) (fun (_ : Unit) (t : State) => QW G [(o0, .inl (cyL, 1, .inr (.inl (fo))))] [(cyL, .long)] (va_A [(h0, .inr (12, [.ref a1, .ref a2, .ref a3, .ref a4, .ref a5, .ref a6, .ref a7, .ref a8, .int tol, .int sal])), (a1, .inr (3, [.int c0, .ref e0, .int 0])), (o0, .inl (cyL, 1, .inr (.inl (fo))))] sz) t) (va_A [(h0, .inr (12, [.ref a1, .ref a2, .ref a3, .ref a4, .ref a5, .ref a6, .ref a7, .ref a8, .int tol, .int sal])), (a1, .inr (3, [.int c0, .ref e0, .int 0])), (o0, .inl (cyL, 1, .inr (.inl (fo))))] sz)) 1 6 (va_A [(h0, .inr (12, [.ref a1, .ref a2, .ref a3, .ref a4, .ref a5, .ref a6, .ref a7, .ref a8, .int tol, .int sal])), (a1, .inr (3, [.int c0, .ref e0, .int 0])), (o0, .inl (cyL, 1, .inr (.inl (fo))))] sz) := by
  refine va_MetW (cc := cL_copy) (maxL := 5) (ret := (Option.some Jvm.ClassFile.FieldType.int)) (hh := [((0 : Nat), (10 : Nat), (13 : Nat), (21 : Nat)), ((0 : Nat), (10 : Nat), (17 : Nat), (13 : Nat)), ((0 : Nat), (10 : Nat), (21 : Nat), (15 : Nat))]) (by decide) rfl ?_
  intro p e s m args below meth c s₁ B hml hv
  obtain ⟨rfl, rfl, hP, hK, hD0, hG⟩ := hv
  have hx := B.exec
  have hb := B.bytes
  have hr := B.returns
  have hts := atoms_spec (ws := wz_L_copy) B.pre
  have htab := vx_table (x := yL_copy) B (hts _ List.mem_cons_self)
  have hg : ∀ w ∈ lw_good, w.before _ s = true := fun w h => hts w (List.mem_cons_of_mem _ h)
  have hown : s.vm.findClass RL = some m.cls := findClass_of_methodNamed B.named
  have hlocks := B.notSynchronized
  have hD := hD0.self (sz := s.heap.size)
  generalize hAe : va_A [(h0, .inr (12, [.ref a1, .ref a2, .ref a3, .ref a4, .ref a5, .ref a6, .ref a7, .ref a8, .int tol, .int sal])), (a1, .inr (3, [.int c0, .ref e0, .int 0])), (o0, .inl (cyL, 1, .inr (.inl (fo))))] s.heap.size = A at hD hG ⊢
  have hA : ∀ q : Nat, s.heap.size ≤ q → A q := fun q h => by rw [← hAe]; exact Or.inr h
  have hS : va_S A s.heap s.heap [] := va_S.rf
  have hl := lv_entry ([.ref h0, .int p0, .int p1, .ref o0]) (n := 5) (Nat.le_of_ble_eq_true rfl)
  rw [lg_entry_eq]
  generalize (lg_sl ([.ref h0, .int p0, .int p1, .ref o0]) ++ List.replicate (5 - (lg_sl ([.ref h0, .int p0, .int p1, .ref o0])).length) Slot.unset).toArray = ls at hl ⊢
  have hl : lv_has ls 5 [(0, .ref h0), (1, .int p0), (2, .int p1), (3, .ref o0)] := hl
  refine lv_aload_n hx hb dL_copy_0 rfl (lv_at hl 3 rfl) ?_
  refine lv_iconst (v := 0) hx hb dL_copy_1 (by decide) ?_
  refine lv_aload_n hx hb dL_copy_2 rfl (lv_at hl 0 rfl) ?_
  refine lv_iload_n hx hb dL_copy_3 rfl (lv_at hl 1 rfl) ?_
  refine lv_iload_n hx hb dL_copy_4 rfl (lv_at hl 2 rfl) ?_
  have hPc := hP.sub (ws' := [(h0, .inr (12, [.ref a1, .ref a2, .ref a3, .ref a4, .ref a5, .ref a6, .ref a7, .ref a8, .int tol, .int sal])), (a1, .inr (3, [.int c0, .ref e0, .int 0]))]) [0, 1] rfl
  have hKc := hK.sub (tys' := []) [] rfl
  refine vx_calli (vx_runV (As := [.int p0, .int p1]) (rest := [.int 0, .ref o0]) ⟨hx, hb, hml, hown, hts⟩ (k_X8_copy l hfl G z h0 a1 a2 a3 a4 a5 a6 a7 a8 tol sal c0 e0 p0 p1 s.heap.size ) (cwV 2 hts (lw_goodApp (lw_4 q542 q543 q544 q1) q545) rfl rfl rfl (by decide +kernel) ⟨Nat.le_of_ble_eq_true rfl, Nat.le_of_ble_eq_true rfl⟩) ⟨PR.blind, va_recv hK hP (ci := 12) (q0 := 0) rfl rfl, PR.of hPc hKc hG hS hA [.ref h0, .int p0, .int p1]⟩ rfl rfl hl.1 rfl (lv_room (Nat.le_of_ble_eq_true rfl)) dL_copy_5 ⟨Nat.le_of_ble_eq_true rfl, Nat.le_of_ble_eq_true rfl⟩) hS (fun q h9 h => zN.not h9 h) (fun q h => hA q (Nat.le_trans hS.1 h)) (fun q h9 h => zN.not h9 h) (fun E ce q9 ux t_4 H_1 locs ht hvm px_5 hE hz1 hk1 hS hq9 hv9 hcl9 => ?_) (fun r_2 u t_4 H_1 locs ht hvm hw_3 hB hz1 hk1 hS => ?_)
  · subst hE
    have hP := hP.grown hk1
    refine vx_widen (k := 1) (n := 6) (Nat.le_of_ble_eq_true rfl) (Nat.le_of_ble_eq_true rfl) ?_
    refine vx_catch (name := "java/lang/IndexOutOfBoundsException") hown [] ⟨0, 10, 13, 21⟩ [⟨0, 10, 17, 13⟩, ⟨0, 10, 21, 15⟩] (htab.trans rfl) (fun z9 h9 => absurd h9 List.not_mem_nil) (by decide) (by decide) (hg _ q518) (va_Nw.use rfl (hG.2.2.2.2.1 _ qf552)) hq9 hv9 hcl9 ?_
    refine lv_astore (lv' := [(4, .ref q9), (0, .ref h0), (1, .int p0), (2, .int p1), (3, .ref o0)]) hx hb dL_copy_13 hl (by decide) rfl (fun ls hl => ?_)
    refine lv_iconst (v := 1) hx hb dL_copy_15 (by decide) ?_
    refine W.widen (k := 1) (n := 6) (Nat.le_of_ble_eq_true rfl) (Nat.le_of_ble_eq_true rfl) ?_
    have hP9 := hP.sub (ws' := [(o0, .inl (cyL, 1, .inr (.inl (fo))))]) [2] rfl
    have hD9 := hD.sub (ws' := [(o0, .inl (cyL, 1, .inr (.inl (fo))))]) [2] (by decide) rfl
    have hK9 := hK.sub (tys' := [(cyL, .long)]) [0] rfl
    exact W.iret (v := 1) hx hb hr (fun t ht hW => ⟨⟨1, (), rfl, rfl, QW.of hP9 hK9 hD9 ht hW.alike⟩, hS.F ht⟩) hS.2.2 dL_copy_16
  exact hw_3.elim

abbrev wz_L_twin : List Cond := .codeWith yL_twin cL_twin 5 (Option.some Jvm.ClassFile.FieldType.int) [((0 : Nat), (17 : Nat), (20 : Nat), (21 : Nat)), ((0 : Nat), (17 : Nat), (24 : Nat), (13 : Nat)), ((0 : Nat), (17 : Nat), (28 : Nat), (27 : Nat))] :: lw_good
set_option maxHeartbeats 4000000 in
set_option maxRecDepth 100000 in
/-- the law on twin of a fresh object: it throws -/
theorem k_L_twin (l : Launch) (hfl : l.stackTraces = false) (G : va_G) (z : Nat) (h0 : Nat) (a1 : Nat) (a2 : Nat) (a3 : Nat) (a4 : Nat) (a5 : Nat) (a6 : Nat) (a7 : Nat) (a8 : Nat) (tol : Int32) (sal : Int32) (c0 : Int32) (e0 : Nat) (p0 : Int32) (p1 : Int32) (o0 : Nat) (cyL : ClassId) (fo : Nat → Int64) (sz : Nat)  : Met l yL_twin wz_L_twin ({ frames := 8, cells := 1, slots := 6, locals := 128 }) (va_Pc [.ref h0, .int p0, .int p1, .ref o0] (PW G z [(h0, .inr (12, [.ref a1, .ref a2, .ref a3, .ref a4, .ref a5, .ref a6, .ref a7, .ref a8, .int tol, .int sal])), (a1, .inr (3, [.int c0, .ref e0, .int 0])), (o0, .inl (cyL, 1, .inr (.inl (fo))))] [(cyL, .long)] sz)) (va_Qi (fun (r : Int32) (_ : Unit) => r = 1) (fun (_ : Unit) (t : State) => QW G [(o0, .inl (cyL, 1, .inr (.inl (fo))))] [(cyL, .long)] (va_A [(h0, .inr (12, [.ref a1, .ref a2, .ref a3, .ref a4, .ref a5, .ref a6, .ref a7, .ref a8, .int tol, .int sal])), (a1, .inr (3, [.int c0, .ref e0, .int 0])), (o0, .inl (cyL, 1, .inr (.inl (fo))))] sz) t) (va_A [(h0, .inr (12, [.ref a1, .ref a2, .ref a3, .ref a4, .ref a5, .ref a6, .ref a7, .ref a8, .int tol, .int sal])), (a1, .inr (3, [.int c0, .ref e0, .int 0])), (o0, .inl (cyL, 1, .inr (.inl (fo))))] sz)) 1 6 (va_A [(h0, .inr (12, [.ref a1, .ref a2, .ref a3, .ref a4, .ref a5, .ref a6, .ref a7, .ref a8, .int tol, .int sal])), (a1, .inr (3, [.int c0, .ref e0, .int 0])), (o0, .inl (cyL, 1, .inr (.inl (fo))))] sz) := by
  refine va_MetW (cc := cL_twin) (maxL := 5) (ret := (Option.some Jvm.ClassFile.FieldType.int)) (hh := [((0 : Nat), (17 : Nat), (20 : Nat), (21 : Nat)), ((0 : Nat), (17 : Nat), (24 : Nat), (13 : Nat)), ((0 : Nat), (17 : Nat), (28 : Nat), (27 : Nat))]) (by decide) rfl ?_
  intro p e s m args below meth c s₁ B hml hv
  obtain ⟨rfl, rfl, hP, hK, hD0, hG⟩ := hv
  have hx := B.exec
  have hb := B.bytes
  have hr := B.returns
  have hts := atoms_spec (ws := wz_L_twin) B.pre
  have htab := vx_table (x := yL_twin) B (hts _ List.mem_cons_self)
  have hg : ∀ w ∈ lw_good, w.before _ s = true := fun w h => hts w (List.mem_cons_of_mem _ h)
  have hown : s.vm.findClass RL = some m.cls := findClass_of_methodNamed B.named
  have hlocks := B.notSynchronized
  have hD := hD0.self (sz := s.heap.size)
  generalize hAe : va_A [(h0, .inr (12, [.ref a1, .ref a2, .ref a3, .ref a4, .ref a5, .ref a6, .ref a7, .ref a8, .int tol, .int sal])), (a1, .inr (3, [.int c0, .ref e0, .int 0])), (o0, .inl (cyL, 1, .inr (.inl (fo))))] s.heap.size = A at hD hG ⊢
  have hA : ∀ q : Nat, s.heap.size ≤ q → A q := fun q h => by rw [← hAe]; exact Or.inr h
  have hS : va_S A s.heap s.heap [] := va_S.rf
  have hl := lv_entry ([.ref h0, .int p0, .int p1, .ref o0]) (n := 5) (Nat.le_of_ble_eq_true rfl)
  rw [lg_entry_eq]
  generalize (lg_sl ([.ref h0, .int p0, .int p1, .ref o0]) ++ List.replicate (5 - (lg_sl ([.ref h0, .int p0, .int p1, .ref o0])).length) Slot.unset).toArray = ls at hl ⊢
  have hl : lv_has ls 5 [(0, .ref h0), (1, .int p0), (2, .int p1), (3, .ref o0)] := hl
  refine lv_aload_n hx hb dL_twin_0 rfl (lv_at hl 3 rfl) ?_
  refine lv_iconst (v := 0) hx hb dL_twin_1 (by decide) ?_
  refine lv_aload_n hx hb dL_twin_2 rfl (lv_at hl 0 rfl) ?_
  refine lv_iload_n hx hb dL_twin_3 rfl (lv_at hl 1 rfl) ?_
  refine lv_iload_n hx hb dL_twin_4 rfl (lv_at hl 2 rfl) ?_
  have hPc := hP.sub (ws' := [(h0, .inr (12, [.ref a1, .ref a2, .ref a3, .ref a4, .ref a5, .ref a6, .ref a7, .ref a8, .int tol, .int sal])), (a1, .inr (3, [.int c0, .ref e0, .int 0]))]) [0, 1] rfl
  have hKc := hK.sub (tys' := []) [] rfl
  refine vx_calli (vx_runV (As := [.int p0, .int p1]) (rest := [.int 0, .ref o0]) ⟨hx, hb, hml, hown, hts⟩ (k_X8_twin l hfl G z h0 a1 a2 a3 a4 a5 a6 a7 a8 tol sal c0 e0 p0 p1 s.heap.size ) (cwV 2 hts (lw_goodApp (lw_4 q567 q568 q569 q1) q570) rfl rfl rfl (by decide +kernel) ⟨Nat.le_of_ble_eq_true rfl, Nat.le_of_ble_eq_true rfl⟩) ⟨PR.blind, va_recv hK hP (ci := 12) (q0 := 0) rfl rfl, PR.of hPc hKc hG hS hA [.ref h0, .int p0, .int p1]⟩ rfl rfl hl.1 rfl (lv_room (Nat.le_of_ble_eq_true rfl)) dL_twin_5 ⟨Nat.le_of_ble_eq_true rfl, Nat.le_of_ble_eq_true rfl⟩) hS (fun q h9 h => zN.not h9 h) (fun q h => hA q (Nat.le_trans hS.1 h)) (fun q h9 h => zN.not h9 h) (fun E ce q9 ux t_4 H_1 locs ht hvm px_5 hE hz1 hk1 hS hq9 hv9 hcl9 => ?_) (fun r_2 u t_4 H_1 locs ht hvm hw_3 hB hz1 hk1 hS => ?_)
  · subst hE
    have hP := hP.grown hk1
    refine vx_widen (k := 1) (n := 6) (Nat.le_of_ble_eq_true rfl) (Nat.le_of_ble_eq_true rfl) ?_
    refine vx_catch (name := "java/lang/IndexOutOfBoundsException") hown [] ⟨0, 17, 20, 21⟩ [⟨0, 17, 24, 13⟩, ⟨0, 17, 28, 27⟩] (htab.trans rfl) (fun z9 h9 => absurd h9 List.not_mem_nil) (by decide) (by decide) (hg _ q518) (va_Nw.use rfl (hG.2.2.2.2.1 _ qf552)) hq9 hv9 hcl9 ?_
    refine lv_astore (lv' := [(4, .ref q9), (0, .ref h0), (1, .int p0), (2, .int p1), (3, .ref o0)]) hx hb dL_twin_20 hl (by decide) rfl (fun ls hl => ?_)
    refine lv_iconst (v := 1) hx hb dL_twin_22 (by decide) ?_
    refine W.widen (k := 1) (n := 6) (Nat.le_of_ble_eq_true rfl) (Nat.le_of_ble_eq_true rfl) ?_
    have hP9 := hP.sub (ws' := [(o0, .inl (cyL, 1, .inr (.inl (fo))))]) [2] rfl
    have hD9 := hD.sub (ws' := [(o0, .inl (cyL, 1, .inr (.inl (fo))))]) [2] (by decide) rfl
    have hK9 := hK.sub (tys' := [(cyL, .long)]) [0] rfl
    exact W.iret (v := 1) hx hb hr (fun t ht hW => ⟨⟨1, (), rfl, rfl, QW.of hP9 hK9 hD9 ht hW.alike⟩, hS.F ht⟩) hS.2.2 dL_twin_23
  exact hw_3.elim

abbrev wz_L_damage : List Cond := .codeWith yL_damage cL_damage 7 (Option.some Jvm.ClassFile.FieldType.int) [((0 : Nat), (14 : Nat), (17 : Nat), (21 : Nat)), ((0 : Nat), (14 : Nat), (21 : Nat), (13 : Nat)), ((0 : Nat), (14 : Nat), (25 : Nat), (27 : Nat))] :: lw_good
set_option maxHeartbeats 4000000 in
set_option maxRecDepth 100000 in
/-- the law on damage of a fresh object: it throws -/
theorem k_L_damage (l : Launch) (hfl : l.stackTraces = false) (G : va_G) (z : Nat) (h0 : Nat) (a1 : Nat) (a2 : Nat) (a3 : Nat) (a4 : Nat) (a5 : Nat) (a6 : Nat) (a7 : Nat) (a8 : Nat) (tol : Int32) (sal : Int32) (c0 : Int32) (e0 : Nat) (p0 : Int32) (p1 : Int32) (p2 : Int32) (p3 : Int32) (o0 : Nat) (cyL : ClassId) (fo : Nat → Int64) (sz : Nat)  : Met l yL_damage wz_L_damage ({ frames := 8, cells := 1, slots := 6, locals := 129 }) (va_Pc [.ref h0, .int p0, .int p1, .int p2, .int p3, .ref o0] (PW G z [(h0, .inr (12, [.ref a1, .ref a2, .ref a3, .ref a4, .ref a5, .ref a6, .ref a7, .ref a8, .int tol, .int sal])), (a1, .inr (3, [.int c0, .ref e0, .int 0])), (o0, .inl (cyL, 1, .inr (.inl (fo))))] [(cyL, .long)] sz)) (va_Qi (fun (r : Int32) (_ : Unit) => r = 1) (fun (_ : Unit) (t : State) => QW G [(o0, .inl (cyL, 1, .inr (.inl (fo))))] [(cyL, .long)] (va_A [(h0, .inr (12, [.ref a1, .ref a2, .ref a3, .ref a4, .ref a5, .ref a6, .ref a7, .ref a8, .int tol, .int sal])), (a1, .inr (3, [.int c0, .ref e0, .int 0])), (o0, .inl (cyL, 1, .inr (.inl (fo))))] sz) t) (va_A [(h0, .inr (12, [.ref a1, .ref a2, .ref a3, .ref a4, .ref a5, .ref a6, .ref a7, .ref a8, .int tol, .int sal])), (a1, .inr (3, [.int c0, .ref e0, .int 0])), (o0, .inl (cyL, 1, .inr (.inl (fo))))] sz)) 1 6 (va_A [(h0, .inr (12, [.ref a1, .ref a2, .ref a3, .ref a4, .ref a5, .ref a6, .ref a7, .ref a8, .int tol, .int sal])), (a1, .inr (3, [.int c0, .ref e0, .int 0])), (o0, .inl (cyL, 1, .inr (.inl (fo))))] sz) := by
  refine va_MetW (cc := cL_damage) (maxL := 7) (ret := (Option.some Jvm.ClassFile.FieldType.int)) (hh := [((0 : Nat), (14 : Nat), (17 : Nat), (21 : Nat)), ((0 : Nat), (14 : Nat), (21 : Nat), (13 : Nat)), ((0 : Nat), (14 : Nat), (25 : Nat), (27 : Nat))]) (by decide) rfl ?_
  intro p e s m args below meth c s₁ B hml hv
  obtain ⟨rfl, rfl, hP, hK, hD0, hG⟩ := hv
  have hx := B.exec
  have hb := B.bytes
  have hr := B.returns
  have hts := atoms_spec (ws := wz_L_damage) B.pre
  have htab := vx_table (x := yL_damage) B (hts _ List.mem_cons_self)
  have hg : ∀ w ∈ lw_good, w.before _ s = true := fun w h => hts w (List.mem_cons_of_mem _ h)
  have hown : s.vm.findClass RL = some m.cls := findClass_of_methodNamed B.named
  have hlocks := B.notSynchronized
  have hD := hD0.self (sz := s.heap.size)
  generalize hAe : va_A [(h0, .inr (12, [.ref a1, .ref a2, .ref a3, .ref a4, .ref a5, .ref a6, .ref a7, .ref a8, .int tol, .int sal])), (a1, .inr (3, [.int c0, .ref e0, .int 0])), (o0, .inl (cyL, 1, .inr (.inl (fo))))] s.heap.size = A at hD hG ⊢
  have hA : ∀ q : Nat, s.heap.size ≤ q → A q := fun q h => by rw [← hAe]; exact Or.inr h
  have hS : va_S A s.heap s.heap [] := va_S.rf
  have hl := lv_entry ([.ref h0, .int p0, .int p1, .int p2, .int p3, .ref o0]) (n := 7) (Nat.le_of_ble_eq_true rfl)
  rw [lg_entry_eq]
  generalize (lg_sl ([.ref h0, .int p0, .int p1, .int p2, .int p3, .ref o0]) ++ List.replicate (7 - (lg_sl ([.ref h0, .int p0, .int p1, .int p2, .int p3, .ref o0])).length) Slot.unset).toArray = ls at hl ⊢
  have hl : lv_has ls 7 [(0, .ref h0), (1, .int p0), (2, .int p1), (3, .int p2), (4, .int p3), (5, .ref o0)] := hl
  refine lv_aload hx hb dL_damage_0 (lv_at hl 5 rfl) ?_
  refine lv_iconst (v := 0) hx hb dL_damage_2 (by decide) ?_
  refine lv_aload_n hx hb dL_damage_3 rfl (lv_at hl 0 rfl) ?_
  refine lv_iload_n hx hb dL_damage_4 rfl (lv_at hl 1 rfl) ?_
  refine lv_iload_n hx hb dL_damage_5 rfl (lv_at hl 2 rfl) ?_
  refine lv_iload_n hx hb dL_damage_6 rfl (lv_at hl 3 rfl) ?_
  refine lv_iload hx hb dL_damage_7 (lv_at hl 4 rfl) ?_
  have hPc := hP.sub (ws' := [(h0, .inr (12, [.ref a1, .ref a2, .ref a3, .ref a4, .ref a5, .ref a6, .ref a7, .ref a8, .int tol, .int sal])), (a1, .inr (3, [.int c0, .ref e0, .int 0]))]) [0, 1] rfl
  have hKc := hK.sub (tys' := []) [] rfl
  refine vx_calli (vx_runV (As := [.int p0, .int p1, .int p2, .int p3]) (rest := [.int 0, .ref o0]) ⟨hx, hb, hml, hown, hts⟩ (k_X8_damage l hfl G z h0 a1 a2 a3 a4 a5 a6 a7 a8 tol sal c0 e0 p0 p1 p2 p3 s.heap.size ) (cwV 4 hts (lw_goodApp (lw_4 q591 q592 q593 q1) q594) rfl rfl rfl (by decide +kernel) ⟨Nat.le_of_ble_eq_true rfl, Nat.le_of_ble_eq_true rfl⟩) ⟨PR.blind, va_recv hK hP (ci := 12) (q0 := 0) rfl rfl, PR.of hPc hKc hG hS hA [.ref h0, .int p0, .int p1, .int p2, .int p3]⟩ rfl rfl hl.1 rfl (lv_room (Nat.le_of_ble_eq_true rfl)) dL_damage_9 ⟨Nat.le_of_ble_eq_true rfl, Nat.le_of_ble_eq_true rfl⟩) hS (fun q h9 h => zN.not h9 h) (fun q h => hA q (Nat.le_trans hS.1 h)) (fun q h9 h => zN.not h9 h) (fun E ce q9 ux t_4 H_1 locs ht hvm px_5 hE hz1 hk1 hS hq9 hv9 hcl9 => ?_) (fun r_2 u t_4 H_1 locs ht hvm hw_3 hB hz1 hk1 hS => ?_)
  · subst hE
    have hP := hP.grown hk1
    refine vx_widen (k := 1) (n := 6) (Nat.le_of_ble_eq_true rfl) (Nat.le_of_ble_eq_true rfl) ?_
    refine vx_catch (name := "java/lang/IndexOutOfBoundsException") hown [] ⟨0, 14, 17, 21⟩ [⟨0, 14, 21, 13⟩, ⟨0, 14, 25, 27⟩] (htab.trans rfl) (fun z9 h9 => absurd h9 List.not_mem_nil) (by decide) (by decide) (hg _ q518) (va_Nw.use rfl (hG.2.2.2.2.1 _ qf552)) hq9 hv9 hcl9 ?_
    refine lv_astore (lv' := [(6, .ref q9), (0, .ref h0), (1, .int p0), (2, .int p1), (3, .int p2), (4, .int p3), (5, .ref o0)]) hx hb dL_damage_17 hl (by decide) rfl (fun ls hl => ?_)
    refine lv_iconst (v := 1) hx hb dL_damage_19 (by decide) ?_
    refine W.widen (k := 1) (n := 6) (Nat.le_of_ble_eq_true rfl) (Nat.le_of_ble_eq_true rfl) ?_
    have hP9 := hP.sub (ws' := [(o0, .inl (cyL, 1, .inr (.inl (fo))))]) [2] rfl
    have hD9 := hD.sub (ws' := [(o0, .inl (cyL, 1, .inr (.inl (fo))))]) [2] (by decide) rfl
    have hK9 := hK.sub (tys' := [(cyL, .long)]) [0] rfl
    exact W.iret (v := 1) hx hb hr (fun t ht hW => ⟨⟨1, (), rfl, rfl, QW.of hP9 hK9 hD9 ht hW.alike⟩, hS.F ht⟩) hS.2.2 dL_damage_20
  exact hw_3.elim

abbrev wz_L_retire : List Cond := .codeWith yL_retire cL_retire 5 (Option.some Jvm.ClassFile.FieldType.int) [((0 : Nat), (10 : Nat), (13 : Nat), (21 : Nat)), ((0 : Nat), (10 : Nat), (17 : Nat), (13 : Nat)), ((0 : Nat), (10 : Nat), (21 : Nat), (27 : Nat))] :: lw_good
set_option maxHeartbeats 4000000 in
set_option maxRecDepth 100000 in
/-- the law on retire of a fresh object: it throws -/
theorem k_L_retire (l : Launch) (hfl : l.stackTraces = false) (G : va_G) (z : Nat) (h0 : Nat) (a1 : Nat) (a2 : Nat) (a3 : Nat) (a4 : Nat) (a5 : Nat) (a6 : Nat) (a7 : Nat) (a8 : Nat) (tol : Int32) (sal : Int32) (c0 : Int32) (e0 : Nat) (p0 : Int32) (p1 : Int32) (o0 : Nat) (cyL : ClassId) (fo : Nat → Int64) (sz : Nat)  : Met l yL_retire wz_L_retire ({ frames := 8, cells := 1, slots := 6, locals := 126 }) (va_Pc [.ref h0, .int p0, .int p1, .ref o0] (PW G z [(h0, .inr (12, [.ref a1, .ref a2, .ref a3, .ref a4, .ref a5, .ref a6, .ref a7, .ref a8, .int tol, .int sal])), (a1, .inr (3, [.int c0, .ref e0, .int 0])), (o0, .inl (cyL, 1, .inr (.inl (fo))))] [(cyL, .long)] sz)) (va_Qi (fun (r : Int32) (_ : Unit) => r = 1) (fun (_ : Unit) (t : State) => QW G [(o0, .inl (cyL, 1, .inr (.inl (fo))))] [(cyL, .long)] (va_A [(h0, .inr (12, [.ref a1, .ref a2, .ref a3, .ref a4, .ref a5, .ref a6, .ref a7, .ref a8, .int tol, .int sal])), (a1, .inr (3, [.int c0, .ref e0, .int 0])), (o0, .inl (cyL, 1, .inr (.inl (fo))))] sz) t) (va_A [(h0, .inr (12, [.ref a1, .ref a2, .ref a3, .ref a4, .ref a5, .ref a6, .ref a7, .ref a8, .int tol, .int sal])), (a1, .inr (3, [.int c0, .ref e0, .int 0])), (o0, .inl (cyL, 1, .inr (.inl (fo))))] sz)) 1 6 (va_A [(h0, .inr (12, [.ref a1, .ref a2, .ref a3, .ref a4, .ref a5, .ref a6, .ref a7, .ref a8, .int tol, .int sal])), (a1, .inr (3, [.int c0, .ref e0, .int 0])), (o0, .inl (cyL, 1, .inr (.inl (fo))))] sz) := by
  refine va_MetW (cc := cL_retire) (maxL := 5) (ret := (Option.some Jvm.ClassFile.FieldType.int)) (hh := [((0 : Nat), (10 : Nat), (13 : Nat), (21 : Nat)), ((0 : Nat), (10 : Nat), (17 : Nat), (13 : Nat)), ((0 : Nat), (10 : Nat), (21 : Nat), (27 : Nat))]) (by decide) rfl ?_
  intro p e s m args below meth c s₁ B hml hv
  obtain ⟨rfl, rfl, hP, hK, hD0, hG⟩ := hv
  have hx := B.exec
  have hb := B.bytes
  have hr := B.returns
  have hts := atoms_spec (ws := wz_L_retire) B.pre
  have htab := vx_table (x := yL_retire) B (hts _ List.mem_cons_self)
  have hg : ∀ w ∈ lw_good, w.before _ s = true := fun w h => hts w (List.mem_cons_of_mem _ h)
  have hown : s.vm.findClass RL = some m.cls := findClass_of_methodNamed B.named
  have hlocks := B.notSynchronized
  have hD := hD0.self (sz := s.heap.size)
  generalize hAe : va_A [(h0, .inr (12, [.ref a1, .ref a2, .ref a3, .ref a4, .ref a5, .ref a6, .ref a7, .ref a8, .int tol, .int sal])), (a1, .inr (3, [.int c0, .ref e0, .int 0])), (o0, .inl (cyL, 1, .inr (.inl (fo))))] s.heap.size = A at hD hG ⊢
  have hA : ∀ q : Nat, s.heap.size ≤ q → A q := fun q h => by rw [← hAe]; exact Or.inr h
  have hS : va_S A s.heap s.heap [] := va_S.rf
  have hl := lv_entry ([.ref h0, .int p0, .int p1, .ref o0]) (n := 5) (Nat.le_of_ble_eq_true rfl)
  rw [lg_entry_eq]
  generalize (lg_sl ([.ref h0, .int p0, .int p1, .ref o0]) ++ List.replicate (5 - (lg_sl ([.ref h0, .int p0, .int p1, .ref o0])).length) Slot.unset).toArray = ls at hl ⊢
  have hl : lv_has ls 5 [(0, .ref h0), (1, .int p0), (2, .int p1), (3, .ref o0)] := hl
  refine lv_aload_n hx hb dL_retire_0 rfl (lv_at hl 3 rfl) ?_
  refine lv_iconst (v := 0) hx hb dL_retire_1 (by decide) ?_
  refine lv_aload_n hx hb dL_retire_2 rfl (lv_at hl 0 rfl) ?_
  refine lv_iload_n hx hb dL_retire_3 rfl (lv_at hl 1 rfl) ?_
  refine lv_iload_n hx hb dL_retire_4 rfl (lv_at hl 2 rfl) ?_
  have hPc := hP.sub (ws' := [(h0, .inr (12, [.ref a1, .ref a2, .ref a3, .ref a4, .ref a5, .ref a6, .ref a7, .ref a8, .int tol, .int sal])), (a1, .inr (3, [.int c0, .ref e0, .int 0]))]) [0, 1] rfl
  have hKc := hK.sub (tys' := []) [] rfl
  refine vx_calli (vx_runV (As := [.int p0, .int p1]) (rest := [.int 0, .ref o0]) ⟨hx, hb, hml, hown, hts⟩ (k_X8_retire l hfl G z h0 a1 a2 a3 a4 a5 a6 a7 a8 tol sal c0 e0 p0 p1 s.heap.size ) (cwV 2 hts (lw_goodApp (lw_4 q619 q620 q621 q1) q622) rfl rfl rfl (by decide +kernel) ⟨Nat.le_of_ble_eq_true rfl, Nat.le_of_ble_eq_true rfl⟩) ⟨PR.blind, va_recv hK hP (ci := 12) (q0 := 0) rfl rfl, PR.of hPc hKc hG hS hA [.ref h0, .int p0, .int p1]⟩ rfl rfl hl.1 rfl (lv_room (Nat.le_of_ble_eq_true rfl)) dL_retire_5 ⟨Nat.le_of_ble_eq_true rfl, Nat.le_of_ble_eq_true rfl⟩) hS (fun q h9 h => zN.not h9 h) (fun q h => hA q (Nat.le_trans hS.1 h)) (fun q h9 h => zN.not h9 h) (fun E ce q9 ux t_4 H_1 locs ht hvm px_5 hE hz1 hk1 hS hq9 hv9 hcl9 => ?_) (fun r_2 u t_4 H_1 locs ht hvm hw_3 hB hz1 hk1 hS => ?_)
  · subst hE
    have hP := hP.grown hk1
    refine vx_widen (k := 1) (n := 6) (Nat.le_of_ble_eq_true rfl) (Nat.le_of_ble_eq_true rfl) ?_
    refine vx_catch (name := "java/lang/IndexOutOfBoundsException") hown [] ⟨0, 10, 13, 21⟩ [⟨0, 10, 17, 13⟩, ⟨0, 10, 21, 27⟩] (htab.trans rfl) (fun z9 h9 => absurd h9 List.not_mem_nil) (by decide) (by decide) (hg _ q518) (va_Nw.use rfl (hG.2.2.2.2.1 _ qf552)) hq9 hv9 hcl9 ?_
    refine lv_astore (lv' := [(4, .ref q9), (0, .ref h0), (1, .int p0), (2, .int p1), (3, .ref o0)]) hx hb dL_retire_13 hl (by decide) rfl (fun ls hl => ?_)
    refine lv_iconst (v := 1) hx hb dL_retire_15 (by decide) ?_
    refine W.widen (k := 1) (n := 6) (Nat.le_of_ble_eq_true rfl) (Nat.le_of_ble_eq_true rfl) ?_
    have hP9 := hP.sub (ws' := [(o0, .inl (cyL, 1, .inr (.inl (fo))))]) [2] rfl
    have hD9 := hD.sub (ws' := [(o0, .inl (cyL, 1, .inr (.inl (fo))))]) [2] (by decide) rfl
    have hK9 := hK.sub (tys' := [(cyL, .long)]) [0] rfl
    exact W.iret (v := 1) hx hb hr (fun t ht hW => ⟨⟨1, (), rfl, rfl, QW.of hP9 hK9 hD9 ht hW.alike⟩, hS.F ht⟩) hS.2.2 dL_retire_16
  exact hw_3.elim

abbrev wz_L_sell : List Cond := .codeWith yL_sell cL_sell 6 (Option.some Jvm.ClassFile.FieldType.int) [((0 : Nat), (12 : Nat), (15 : Nat), (21 : Nat)), ((0 : Nat), (12 : Nat), (19 : Nat), (13 : Nat)), ((0 : Nat), (12 : Nat), (23 : Nat), (27 : Nat))] :: lw_good
set_option maxHeartbeats 4000000 in
set_option maxRecDepth 100000 in
/-- the law on sell of a fresh object: it throws -/
theorem k_L_sell (l : Launch) (hfl : l.stackTraces = false) (G : va_G) (z : Nat) (h0 : Nat) (a1 : Nat) (a2 : Nat) (a3 : Nat) (a4 : Nat) (a5 : Nat) (a6 : Nat) (a7 : Nat) (a8 : Nat) (tol : Int32) (sal : Int32) (c0 : Int32) (e0 : Nat) (p0 : Int32) (p1 : Int32) (p2 : Int32) (o0 : Nat) (cyL : ClassId) (fo : Nat → Int64) (sz : Nat)  : Met l yL_sell wz_L_sell ({ frames := 8, cells := 1, slots := 6, locals := 128 }) (va_Pc [.ref h0, .int p0, .int p1, .int p2, .ref o0] (PW G z [(h0, .inr (12, [.ref a1, .ref a2, .ref a3, .ref a4, .ref a5, .ref a6, .ref a7, .ref a8, .int tol, .int sal])), (a1, .inr (3, [.int c0, .ref e0, .int 0])), (o0, .inl (cyL, 1, .inr (.inl (fo))))] [(cyL, .long)] sz)) (va_Qi (fun (r : Int32) (_ : Unit) => r = 1) (fun (_ : Unit) (t : State) => QW G [(o0, .inl (cyL, 1, .inr (.inl (fo))))] [(cyL, .long)] (va_A [(h0, .inr (12, [.ref a1, .ref a2, .ref a3, .ref a4, .ref a5, .ref a6, .ref a7, .ref a8, .int tol, .int sal])), (a1, .inr (3, [.int c0, .ref e0, .int 0])), (o0, .inl (cyL, 1, .inr (.inl (fo))))] sz) t) (va_A [(h0, .inr (12, [.ref a1, .ref a2, .ref a3, .ref a4, .ref a5, .ref a6, .ref a7, .ref a8, .int tol, .int sal])), (a1, .inr (3, [.int c0, .ref e0, .int 0])), (o0, .inl (cyL, 1, .inr (.inl (fo))))] sz)) 1 6 (va_A [(h0, .inr (12, [.ref a1, .ref a2, .ref a3, .ref a4, .ref a5, .ref a6, .ref a7, .ref a8, .int tol, .int sal])), (a1, .inr (3, [.int c0, .ref e0, .int 0])), (o0, .inl (cyL, 1, .inr (.inl (fo))))] sz) := by
  refine va_MetW (cc := cL_sell) (maxL := 6) (ret := (Option.some Jvm.ClassFile.FieldType.int)) (hh := [((0 : Nat), (12 : Nat), (15 : Nat), (21 : Nat)), ((0 : Nat), (12 : Nat), (19 : Nat), (13 : Nat)), ((0 : Nat), (12 : Nat), (23 : Nat), (27 : Nat))]) (by decide) rfl ?_
  intro p e s m args below meth c s₁ B hml hv
  obtain ⟨rfl, rfl, hP, hK, hD0, hG⟩ := hv
  have hx := B.exec
  have hb := B.bytes
  have hr := B.returns
  have hts := atoms_spec (ws := wz_L_sell) B.pre
  have htab := vx_table (x := yL_sell) B (hts _ List.mem_cons_self)
  have hg : ∀ w ∈ lw_good, w.before _ s = true := fun w h => hts w (List.mem_cons_of_mem _ h)
  have hown : s.vm.findClass RL = some m.cls := findClass_of_methodNamed B.named
  have hlocks := B.notSynchronized
  have hD := hD0.self (sz := s.heap.size)
  generalize hAe : va_A [(h0, .inr (12, [.ref a1, .ref a2, .ref a3, .ref a4, .ref a5, .ref a6, .ref a7, .ref a8, .int tol, .int sal])), (a1, .inr (3, [.int c0, .ref e0, .int 0])), (o0, .inl (cyL, 1, .inr (.inl (fo))))] s.heap.size = A at hD hG ⊢
  have hA : ∀ q : Nat, s.heap.size ≤ q → A q := fun q h => by rw [← hAe]; exact Or.inr h
  have hS : va_S A s.heap s.heap [] := va_S.rf
  have hl := lv_entry ([.ref h0, .int p0, .int p1, .int p2, .ref o0]) (n := 6) (Nat.le_of_ble_eq_true rfl)
  rw [lg_entry_eq]
  generalize (lg_sl ([.ref h0, .int p0, .int p1, .int p2, .ref o0]) ++ List.replicate (6 - (lg_sl ([.ref h0, .int p0, .int p1, .int p2, .ref o0])).length) Slot.unset).toArray = ls at hl ⊢
  have hl : lv_has ls 6 [(0, .ref h0), (1, .int p0), (2, .int p1), (3, .int p2), (4, .ref o0)] := hl
  refine lv_aload hx hb dL_sell_0 (lv_at hl 4 rfl) ?_
  refine lv_iconst (v := 0) hx hb dL_sell_2 (by decide) ?_
  refine lv_aload_n hx hb dL_sell_3 rfl (lv_at hl 0 rfl) ?_
  refine lv_iload_n hx hb dL_sell_4 rfl (lv_at hl 1 rfl) ?_
  refine lv_iload_n hx hb dL_sell_5 rfl (lv_at hl 2 rfl) ?_
  refine lv_iload_n hx hb dL_sell_6 rfl (lv_at hl 3 rfl) ?_
  have hPc := hP.sub (ws' := [(h0, .inr (12, [.ref a1, .ref a2, .ref a3, .ref a4, .ref a5, .ref a6, .ref a7, .ref a8, .int tol, .int sal])), (a1, .inr (3, [.int c0, .ref e0, .int 0]))]) [0, 1] rfl
  have hKc := hK.sub (tys' := []) [] rfl
  refine vx_calli (vx_runV (As := [.int p0, .int p1, .int p2]) (rest := [.int 0, .ref o0]) ⟨hx, hb, hml, hown, hts⟩ (k_X8_sell l hfl G z h0 a1 a2 a3 a4 a5 a6 a7 a8 tol sal c0 e0 p0 p1 p2 s.heap.size ) (cwV 3 hts (lw_goodApp (lw_4 q628 q629 q630 q1) q631) rfl rfl rfl (by decide +kernel) ⟨Nat.le_of_ble_eq_true rfl, Nat.le_of_ble_eq_true rfl⟩) ⟨PR.blind, va_recv hK hP (ci := 12) (q0 := 0) rfl rfl, PR.of hPc hKc hG hS hA [.ref h0, .int p0, .int p1, .int p2]⟩ rfl rfl hl.1 rfl (lv_room (Nat.le_of_ble_eq_true rfl)) dL_sell_7 ⟨Nat.le_of_ble_eq_true rfl, Nat.le_of_ble_eq_true rfl⟩) hS (fun q h9 h => zN.not h9 h) (fun q h => hA q (Nat.le_trans hS.1 h)) (fun q h9 h => zN.not h9 h) (fun E ce q9 ux t_4 H_1 locs ht hvm px_5 hE hz1 hk1 hS hq9 hv9 hcl9 => ?_) (fun r_2 u t_4 H_1 locs ht hvm hw_3 hB hz1 hk1 hS => ?_)
  · subst hE
    have hP := hP.grown hk1
    refine vx_widen (k := 1) (n := 6) (Nat.le_of_ble_eq_true rfl) (Nat.le_of_ble_eq_true rfl) ?_
    refine vx_catch (name := "java/lang/IndexOutOfBoundsException") hown [] ⟨0, 12, 15, 21⟩ [⟨0, 12, 19, 13⟩, ⟨0, 12, 23, 27⟩] (htab.trans rfl) (fun z9 h9 => absurd h9 List.not_mem_nil) (by decide) (by decide) (hg _ q518) (va_Nw.use rfl (hG.2.2.2.2.1 _ qf552)) hq9 hv9 hcl9 ?_
    refine lv_astore (lv' := [(5, .ref q9), (0, .ref h0), (1, .int p0), (2, .int p1), (3, .int p2), (4, .ref o0)]) hx hb dL_sell_15 hl (by decide) rfl (fun ls hl => ?_)
    refine lv_iconst (v := 1) hx hb dL_sell_17 (by decide) ?_
    refine W.widen (k := 1) (n := 6) (Nat.le_of_ble_eq_true rfl) (Nat.le_of_ble_eq_true rfl) ?_
    have hP9 := hP.sub (ws' := [(o0, .inl (cyL, 1, .inr (.inl (fo))))]) [2] rfl
    have hD9 := hD.sub (ws' := [(o0, .inl (cyL, 1, .inr (.inl (fo))))]) [2] (by decide) rfl
    have hK9 := hK.sub (tys' := [(cyL, .long)]) [0] rfl
    exact W.iret (v := 1) hx hb hr (fun t ht hW => ⟨⟨1, (), rfl, rfl, QW.of hP9 hK9 hD9 ht hW.alike⟩, hS.F ht⟩) hS.2.2 dL_sell_18
  exact hw_3.elim

abbrev wz_L_owner : List Cond := .codeWith yL_owner cL_owner 5 (Option.some Jvm.ClassFile.FieldType.int) [((0 : Nat), (10 : Nat), (13 : Nat), (21 : Nat)), ((0 : Nat), (10 : Nat), (17 : Nat), (13 : Nat))] :: lw_good
set_option maxHeartbeats 4000000 in
set_option maxRecDepth 100000 in
/-- the law on owner of a fresh object: it throws -/
theorem k_L_owner (l : Launch) (hfl : l.stackTraces = false) (G : va_G) (z : Nat) (h0 : Nat) (a1 : Nat) (a2 : Nat) (a3 : Nat) (a4 : Nat) (a5 : Nat) (a6 : Nat) (a7 : Nat) (a8 : Nat) (tol : Int32) (sal : Int32) (c0 : Int32) (e0 : Nat) (p0 : Int32) (p1 : Int32) (o0 : Nat) (cyL : ClassId) (fo : Nat → Int64) (sz : Nat)  : Met l yL_owner wz_L_owner ({ frames := 8, cells := 1, slots := 6, locals := 126 }) (va_Pc [.ref h0, .int p0, .int p1, .ref o0] (PW G z [(h0, .inr (12, [.ref a1, .ref a2, .ref a3, .ref a4, .ref a5, .ref a6, .ref a7, .ref a8, .int tol, .int sal])), (a1, .inr (3, [.int c0, .ref e0, .int 0])), (o0, .inl (cyL, 1, .inr (.inl (fo))))] [(cyL, .long)] sz)) (va_Qi (fun (r : Int32) (_ : Unit) => r = 1) (fun (_ : Unit) (t : State) => QW G [(o0, .inl (cyL, 1, .inr (.inl (fo))))] [(cyL, .long)] (va_A [(h0, .inr (12, [.ref a1, .ref a2, .ref a3, .ref a4, .ref a5, .ref a6, .ref a7, .ref a8, .int tol, .int sal])), (a1, .inr (3, [.int c0, .ref e0, .int 0])), (o0, .inl (cyL, 1, .inr (.inl (fo))))] sz) t) (va_A [(h0, .inr (12, [.ref a1, .ref a2, .ref a3, .ref a4, .ref a5, .ref a6, .ref a7, .ref a8, .int tol, .int sal])), (a1, .inr (3, [.int c0, .ref e0, .int 0])), (o0, .inl (cyL, 1, .inr (.inl (fo))))] sz)) 1 6 (va_A [(h0, .inr (12, [.ref a1, .ref a2, .ref a3, .ref a4, .ref a5, .ref a6, .ref a7, .ref a8, .int tol, .int sal])), (a1, .inr (3, [.int c0, .ref e0, .int 0])), (o0, .inl (cyL, 1, .inr (.inl (fo))))] sz) := by
  refine va_MetW (cc := cL_owner) (maxL := 5) (ret := (Option.some Jvm.ClassFile.FieldType.int)) (hh := [((0 : Nat), (10 : Nat), (13 : Nat), (21 : Nat)), ((0 : Nat), (10 : Nat), (17 : Nat), (13 : Nat))]) (by decide) rfl ?_
  intro p e s m args below meth c s₁ B hml hv
  obtain ⟨rfl, rfl, hP, hK, hD0, hG⟩ := hv
  have hx := B.exec
  have hb := B.bytes
  have hr := B.returns
  have hts := atoms_spec (ws := wz_L_owner) B.pre
  have htab := vx_table (x := yL_owner) B (hts _ List.mem_cons_self)
  have hg : ∀ w ∈ lw_good, w.before _ s = true := fun w h => hts w (List.mem_cons_of_mem _ h)
  have hown : s.vm.findClass RL = some m.cls := findClass_of_methodNamed B.named
  have hlocks := B.notSynchronized
  have hD := hD0.self (sz := s.heap.size)
  generalize hAe : va_A [(h0, .inr (12, [.ref a1, .ref a2, .ref a3, .ref a4, .ref a5, .ref a6, .ref a7, .ref a8, .int tol, .int sal])), (a1, .inr (3, [.int c0, .ref e0, .int 0])), (o0, .inl (cyL, 1, .inr (.inl (fo))))] s.heap.size = A at hD hG ⊢
  have hA : ∀ q : Nat, s.heap.size ≤ q → A q := fun q h => by rw [← hAe]; exact Or.inr h
  have hS : va_S A s.heap s.heap [] := va_S.rf
  have hl := lv_entry ([.ref h0, .int p0, .int p1, .ref o0]) (n := 5) (Nat.le_of_ble_eq_true rfl)
  rw [lg_entry_eq]
  generalize (lg_sl ([.ref h0, .int p0, .int p1, .ref o0]) ++ List.replicate (5 - (lg_sl ([.ref h0, .int p0, .int p1, .ref o0])).length) Slot.unset).toArray = ls at hl ⊢
  have hl : lv_has ls 5 [(0, .ref h0), (1, .int p0), (2, .int p1), (3, .ref o0)] := hl
  refine lv_aload_n hx hb dL_owner_0 rfl (lv_at hl 3 rfl) ?_
  refine lv_iconst (v := 0) hx hb dL_owner_1 (by decide) ?_
  refine lv_aload_n hx hb dL_owner_2 rfl (lv_at hl 0 rfl) ?_
  refine lv_iload_n hx hb dL_owner_3 rfl (lv_at hl 1 rfl) ?_
  refine lv_iload_n hx hb dL_owner_4 rfl (lv_at hl 2 rfl) ?_
  have hPc := hP.sub (ws' := [(h0, .inr (12, [.ref a1, .ref a2, .ref a3, .ref a4, .ref a5, .ref a6, .ref a7, .ref a8, .int tol, .int sal])), (a1, .inr (3, [.int c0, .ref e0, .int 0]))]) [0, 1] rfl
  have hKc := hK.sub (tys' := []) [] rfl
  refine vx_calli (vx_runV (As := [.int p0, .int p1]) (rest := [.int 0, .ref o0]) ⟨hx, hb, hml, hown, hts⟩ (k_X8_owner l hfl G z h0 a1 a2 a3 a4 a5 a6 a7 a8 tol sal c0 e0 p0 p1 s.heap.size ) (cwV 2 hts (lw_goodApp (lw_4 q663 q664 q665 q1) q666) rfl rfl rfl (by decide +kernel) ⟨Nat.le_of_ble_eq_true rfl, Nat.le_of_ble_eq_true rfl⟩) ⟨PR.blind, va_recv hK hP (ci := 12) (q0 := 0) rfl rfl, PR.of hPc hKc hG hS hA [.ref h0, .int p0, .int p1]⟩ rfl rfl hl.1 rfl (lv_room (Nat.le_of_ble_eq_true rfl)) dL_owner_5 ⟨Nat.le_of_ble_eq_true rfl, Nat.le_of_ble_eq_true rfl⟩) hS (fun q h9 h => zN.not h9 h) (fun q h => hA q (Nat.le_trans hS.1 h)) (fun q h9 h => zN.not h9 h) (fun E ce q9 ux t_4 H_1 locs ht hvm px_5 hE hz1 hk1 hS hq9 hv9 hcl9 => ?_) (fun r_2 u t_4 H_1 locs ht hvm hw_3 hB hz1 hk1 hS => ?_)
  · subst hE
    have hP := hP.grown hk1
    refine vx_widen (k := 1) (n := 6) (Nat.le_of_ble_eq_true rfl) (Nat.le_of_ble_eq_true rfl) ?_
    refine vx_catch (name := "java/lang/IndexOutOfBoundsException") hown [] ⟨0, 10, 13, 21⟩ [⟨0, 10, 17, 13⟩] (htab.trans rfl) (fun z9 h9 => absurd h9 List.not_mem_nil) (by decide) (by decide) (hg _ q518) (va_Nw.use rfl (hG.2.2.2.2.1 _ qf552)) hq9 hv9 hcl9 ?_
    refine lv_astore (lv' := [(4, .ref q9), (0, .ref h0), (1, .int p0), (2, .int p1), (3, .ref o0)]) hx hb dL_owner_13 hl (by decide) rfl (fun ls hl => ?_)
    refine lv_iconst (v := 1) hx hb dL_owner_15 (by decide) ?_
    refine W.widen (k := 1) (n := 6) (Nat.le_of_ble_eq_true rfl) (Nat.le_of_ble_eq_true rfl) ?_
    have hP9 := hP.sub (ws' := [(o0, .inl (cyL, 1, .inr (.inl (fo))))]) [2] rfl
    have hD9 := hD.sub (ws' := [(o0, .inl (cyL, 1, .inr (.inl (fo))))]) [2] (by decide) rfl
    have hK9 := hK.sub (tys' := [(cyL, .long)]) [0] rfl
    exact W.iret (v := 1) hx hb hr (fun t ht hW => ⟨⟨1, (), rfl, rfl, QW.of hP9 hK9 hD9 ht hW.alike⟩, hS.F ht⟩) hS.2.2 dL_owner_16
  exact hw_3.elim

abbrev wz_L_state : List Cond := .codeWith yL_state cL_state 5 (Option.some Jvm.ClassFile.FieldType.int) [((0 : Nat), (10 : Nat), (13 : Nat), (21 : Nat)), ((0 : Nat), (10 : Nat), (17 : Nat), (13 : Nat))] :: lw_good
set_option maxHeartbeats 4000000 in
set_option maxRecDepth 100000 in
/-- the law on state of a fresh object: it throws -/
theorem k_L_state (l : Launch) (hfl : l.stackTraces = false) (G : va_G) (z : Nat) (h0 : Nat) (a1 : Nat) (a2 : Nat) (a3 : Nat) (a4 : Nat) (a5 : Nat) (a6 : Nat) (a7 : Nat) (a8 : Nat) (tol : Int32) (sal : Int32) (c0 : Int32) (e0 : Nat) (p0 : Int32) (p1 : Int32) (o0 : Nat) (cyL : ClassId) (fo : Nat → Int64) (sz : Nat)  : Met l yL_state wz_L_state ({ frames := 8, cells := 1, slots := 6, locals := 126 }) (va_Pc [.ref h0, .int p0, .int p1, .ref o0] (PW G z [(h0, .inr (12, [.ref a1, .ref a2, .ref a3, .ref a4, .ref a5, .ref a6, .ref a7, .ref a8, .int tol, .int sal])), (a1, .inr (3, [.int c0, .ref e0, .int 0])), (o0, .inl (cyL, 1, .inr (.inl (fo))))] [(cyL, .long)] sz)) (va_Qi (fun (r : Int32) (_ : Unit) => r = 1) (fun (_ : Unit) (t : State) => QW G [(o0, .inl (cyL, 1, .inr (.inl (fo))))] [(cyL, .long)] (va_A [(h0, .inr (12, [.ref a1, .ref a2, .ref a3, .ref a4, .ref a5, .ref a6, .ref a7, .ref a8, .int tol, .int sal])), (a1, .inr (3, [.int c0, .ref e0, .int 0])), (o0, .inl (cyL, 1, .inr (.inl (fo))))] sz) t) (va_A [(h0, .inr (12, [.ref a1, .ref a2, .ref a3, .ref a4, .ref a5, .ref a6, .ref a7, .ref a8, .int tol, .int sal])), (a1, .inr (3, [.int c0, .ref e0, .int 0])), (o0, .inl (cyL, 1, .inr (.inl (fo))))] sz)) 1 6 (va_A [(h0, .inr (12, [.ref a1, .ref a2, .ref a3, .ref a4, .ref a5, .ref a6, .ref a7, .ref a8, .int tol, .int sal])), (a1, .inr (3, [.int c0, .ref e0, .int 0])), (o0, .inl (cyL, 1, .inr (.inl (fo))))] sz) := by
  refine va_MetW (cc := cL_state) (maxL := 5) (ret := (Option.some Jvm.ClassFile.FieldType.int)) (hh := [((0 : Nat), (10 : Nat), (13 : Nat), (21 : Nat)), ((0 : Nat), (10 : Nat), (17 : Nat), (13 : Nat))]) (by decide) rfl ?_
  intro p e s m args below meth c s₁ B hml hv
  obtain ⟨rfl, rfl, hP, hK, hD0, hG⟩ := hv
  have hx := B.exec
  have hb := B.bytes
  have hr := B.returns
  have hts := atoms_spec (ws := wz_L_state) B.pre
  have htab := vx_table (x := yL_state) B (hts _ List.mem_cons_self)
  have hg : ∀ w ∈ lw_good, w.before _ s = true := fun w h => hts w (List.mem_cons_of_mem _ h)
  have hown : s.vm.findClass RL = some m.cls := findClass_of_methodNamed B.named
  have hlocks := B.notSynchronized
  have hD := hD0.self (sz := s.heap.size)
  generalize hAe : va_A [(h0, .inr (12, [.ref a1, .ref a2, .ref a3, .ref a4, .ref a5, .ref a6, .ref a7, .ref a8, .int tol, .int sal])), (a1, .inr (3, [.int c0, .ref e0, .int 0])), (o0, .inl (cyL, 1, .inr (.inl (fo))))] s.heap.size = A at hD hG ⊢
  have hA : ∀ q : Nat, s.heap.size ≤ q → A q := fun q h => by rw [← hAe]; exact Or.inr h
  have hS : va_S A s.heap s.heap [] := va_S.rf
  have hl := lv_entry ([.ref h0, .int p0, .int p1, .ref o0]) (n := 5) (Nat.le_of_ble_eq_true rfl)
  rw [lg_entry_eq]
  generalize (lg_sl ([.ref h0, .int p0, .int p1, .ref o0]) ++ List.replicate (5 - (lg_sl ([.ref h0, .int p0, .int p1, .ref o0])).length) Slot.unset).toArray = ls at hl ⊢
  have hl : lv_has ls 5 [(0, .ref h0), (1, .int p0), (2, .int p1), (3, .ref o0)] := hl
  refine lv_aload_n hx hb dL_state_0 rfl (lv_at hl 3 rfl) ?_
  refine lv_iconst (v := 0) hx hb dL_state_1 (by decide) ?_
  refine lv_aload_n hx hb dL_state_2 rfl (lv_at hl 0 rfl) ?_
  refine lv_iload_n hx hb dL_state_3 rfl (lv_at hl 1 rfl) ?_
  refine lv_iload_n hx hb dL_state_4 rfl (lv_at hl 2 rfl) ?_
  have hPc := hP.sub (ws' := [(h0, .inr (12, [.ref a1, .ref a2, .ref a3, .ref a4, .ref a5, .ref a6, .ref a7, .ref a8, .int tol, .int sal])), (a1, .inr (3, [.int c0, .ref e0, .int 0]))]) [0, 1] rfl
  have hKc := hK.sub (tys' := []) [] rfl
  refine vx_calli (vx_runV (As := [.int p0, .int p1]) (rest := [.int 0, .ref o0]) ⟨hx, hb, hml, hown, hts⟩ (k_X8_state l hfl G z h0 a1 a2 a3 a4 a5 a6 a7 a8 tol sal c0 e0 p0 p1 s.heap.size ) (cwV 2 hts (lw_goodApp (lw_4 q670 q671 q672 q1) q673) rfl rfl rfl (by decide +kernel) ⟨Nat.le_of_ble_eq_true rfl, Nat.le_of_ble_eq_true rfl⟩) ⟨PR.blind, va_recv hK hP (ci := 12) (q0 := 0) rfl rfl, PR.of hPc hKc hG hS hA [.ref h0, .int p0, .int p1]⟩ rfl rfl hl.1 rfl (lv_room (Nat.le_of_ble_eq_true rfl)) dL_state_5 ⟨Nat.le_of_ble_eq_true rfl, Nat.le_of_ble_eq_true rfl⟩) hS (fun q h9 h => zN.not h9 h) (fun q h => hA q (Nat.le_trans hS.1 h)) (fun q h9 h => zN.not h9 h) (fun E ce q9 ux t_4 H_1 locs ht hvm px_5 hE hz1 hk1 hS hq9 hv9 hcl9 => ?_) (fun r_2 u t_4 H_1 locs ht hvm hw_3 hB hz1 hk1 hS => ?_)
  · subst hE
    have hP := hP.grown hk1
    refine vx_widen (k := 1) (n := 6) (Nat.le_of_ble_eq_true rfl) (Nat.le_of_ble_eq_true rfl) ?_
    refine vx_catch (name := "java/lang/IndexOutOfBoundsException") hown [] ⟨0, 10, 13, 21⟩ [⟨0, 10, 17, 13⟩] (htab.trans rfl) (fun z9 h9 => absurd h9 List.not_mem_nil) (by decide) (by decide) (hg _ q518) (va_Nw.use rfl (hG.2.2.2.2.1 _ qf552)) hq9 hv9 hcl9 ?_
    refine lv_astore (lv' := [(4, .ref q9), (0, .ref h0), (1, .int p0), (2, .int p1), (3, .ref o0)]) hx hb dL_state_13 hl (by decide) rfl (fun ls hl => ?_)
    refine lv_iconst (v := 1) hx hb dL_state_15 (by decide) ?_
    refine W.widen (k := 1) (n := 6) (Nat.le_of_ble_eq_true rfl) (Nat.le_of_ble_eq_true rfl) ?_
    have hP9 := hP.sub (ws' := [(o0, .inl (cyL, 1, .inr (.inl (fo))))]) [2] rfl
    have hD9 := hD.sub (ws' := [(o0, .inl (cyL, 1, .inr (.inl (fo))))]) [2] (by decide) rfl
    have hK9 := hK.sub (tys' := [(cyL, .long)]) [0] rfl
    exact W.iret (v := 1) hx hb hr (fun t ht hW => ⟨⟨1, (), rfl, rfl, QW.of hP9 hK9 hD9 ht hW.alike⟩, hS.F ht⟩) hS.2.2 dL_state_16
  exact hw_3.elim

abbrev wz_L_wire : List Cond := .codeWith yL_wire cL_wire 6 (Option.some Jvm.ClassFile.FieldType.int) [((0 : Nat), (12 : Nat), (15 : Nat), (21 : Nat)), ((0 : Nat), (12 : Nat), (19 : Nat), (13 : Nat)), ((0 : Nat), (12 : Nat), (23 : Nat), (50 : Nat))] :: lw_good
set_option maxHeartbeats 4000000 in
set_option maxRecDepth 100000 in
/-- the law on wire of a fresh object: it throws -/
theorem k_L_wire (l : Launch) (hfl : l.stackTraces = false) (G : va_G) (z : Nat) (h0 : Nat) (a1 : Nat) (a2 : Nat) (a3 : Nat) (a4 : Nat) (a5 : Nat) (a6 : Nat) (a7 : Nat) (a8 : Nat) (tol : Int32) (sal : Int32) (c0 : Int32) (e0 : Nat) (p0 : Int32) (p1 : Int32) (p2 : Int32) (o0 : Nat) (cyL : ClassId) (fo : Nat → Int64) (sz : Nat)  : Met l yL_wire wz_L_wire ({ frames := 8, cells := 1, slots := 6, locals := 128 }) (va_Pc [.ref h0, .int p0, .int p1, .int p2, .ref o0] (PW G z [(h0, .inr (12, [.ref a1, .ref a2, .ref a3, .ref a4, .ref a5, .ref a6, .ref a7, .ref a8, .int tol, .int sal])), (a1, .inr (3, [.int c0, .ref e0, .int 0])), (o0, .inl (cyL, 1, .inr (.inl (fo))))] [(cyL, .long)] sz)) (va_Qi (fun (r : Int32) (_ : Unit) => r = 1) (fun (_ : Unit) (t : State) => QW G [(o0, .inl (cyL, 1, .inr (.inl (fo))))] [(cyL, .long)] (va_A [(h0, .inr (12, [.ref a1, .ref a2, .ref a3, .ref a4, .ref a5, .ref a6, .ref a7, .ref a8, .int tol, .int sal])), (a1, .inr (3, [.int c0, .ref e0, .int 0])), (o0, .inl (cyL, 1, .inr (.inl (fo))))] sz) t) (va_A [(h0, .inr (12, [.ref a1, .ref a2, .ref a3, .ref a4, .ref a5, .ref a6, .ref a7, .ref a8, .int tol, .int sal])), (a1, .inr (3, [.int c0, .ref e0, .int 0])), (o0, .inl (cyL, 1, .inr (.inl (fo))))] sz)) 1 6 (va_A [(h0, .inr (12, [.ref a1, .ref a2, .ref a3, .ref a4, .ref a5, .ref a6, .ref a7, .ref a8, .int tol, .int sal])), (a1, .inr (3, [.int c0, .ref e0, .int 0])), (o0, .inl (cyL, 1, .inr (.inl (fo))))] sz) := by
  refine va_MetW (cc := cL_wire) (maxL := 6) (ret := (Option.some Jvm.ClassFile.FieldType.int)) (hh := [((0 : Nat), (12 : Nat), (15 : Nat), (21 : Nat)), ((0 : Nat), (12 : Nat), (19 : Nat), (13 : Nat)), ((0 : Nat), (12 : Nat), (23 : Nat), (50 : Nat))]) (by decide) rfl ?_
  intro p e s m args below meth c s₁ B hml hv
  obtain ⟨rfl, rfl, hP, hK, hD0, hG⟩ := hv
  have hx := B.exec
  have hb := B.bytes
  have hr := B.returns
  have hts := atoms_spec (ws := wz_L_wire) B.pre
  have htab := vx_table (x := yL_wire) B (hts _ List.mem_cons_self)
  have hg : ∀ w ∈ lw_good, w.before _ s = true := fun w h => hts w (List.mem_cons_of_mem _ h)
  have hown : s.vm.findClass RL = some m.cls := findClass_of_methodNamed B.named
  have hlocks := B.notSynchronized
  have hD := hD0.self (sz := s.heap.size)
  generalize hAe : va_A [(h0, .inr (12, [.ref a1, .ref a2, .ref a3, .ref a4, .ref a5, .ref a6, .ref a7, .ref a8, .int tol, .int sal])), (a1, .inr (3, [.int c0, .ref e0, .int 0])), (o0, .inl (cyL, 1, .inr (.inl (fo))))] s.heap.size = A at hD hG ⊢
  have hA : ∀ q : Nat, s.heap.size ≤ q → A q := fun q h => by rw [← hAe]; exact Or.inr h
  have hS : va_S A s.heap s.heap [] := va_S.rf
  have hl := lv_entry ([.ref h0, .int p0, .int p1, .int p2, .ref o0]) (n := 6) (Nat.le_of_ble_eq_true rfl)
  rw [lg_entry_eq]
  generalize (lg_sl ([.ref h0, .int p0, .int p1, .int p2, .ref o0]) ++ List.replicate (6 - (lg_sl ([.ref h0, .int p0, .int p1, .int p2, .ref o0])).length) Slot.unset).toArray = ls at hl ⊢
  have hl : lv_has ls 6 [(0, .ref h0), (1, .int p0), (2, .int p1), (3, .int p2), (4, .ref o0)] := hl
  refine lv_aload hx hb dL_wire_0 (lv_at hl 4 rfl) ?_
  refine lv_iconst (v := 0) hx hb dL_wire_2 (by decide) ?_
  refine lv_aload_n hx hb dL_wire_3 rfl (lv_at hl 0 rfl) ?_
  refine lv_iload_n hx hb dL_wire_4 rfl (lv_at hl 1 rfl) ?_
  refine lv_iload_n hx hb dL_wire_5 rfl (lv_at hl 2 rfl) ?_
  refine lv_iload_n hx hb dL_wire_6 rfl (lv_at hl 3 rfl) ?_
  have hPc := hP.sub (ws' := [(h0, .inr (12, [.ref a1, .ref a2, .ref a3, .ref a4, .ref a5, .ref a6, .ref a7, .ref a8, .int tol, .int sal])), (a1, .inr (3, [.int c0, .ref e0, .int 0]))]) [0, 1] rfl
  have hKc := hK.sub (tys' := []) [] rfl
  refine vx_calli (vx_runV (As := [.int p0, .int p1, .int p2]) (rest := [.int 0, .ref o0]) ⟨hx, hb, hml, hown, hts⟩ (k_X8_wire l hfl G z h0 a1 a2 a3 a4 a5 a6 a7 a8 tol sal c0 e0 p0 p1 p2 s.heap.size ) (cwV 3 hts (lw_goodApp (lw_4 q679 q680 q681 q1) q682) rfl rfl rfl (by decide +kernel) ⟨Nat.le_of_ble_eq_true rfl, Nat.le_of_ble_eq_true rfl⟩) ⟨PR.blind, va_recv hK hP (ci := 12) (q0 := 0) rfl rfl, PR.of hPc hKc hG hS hA [.ref h0, .int p0, .int p1, .int p2]⟩ rfl rfl hl.1 rfl (lv_room (Nat.le_of_ble_eq_true rfl)) dL_wire_7 ⟨Nat.le_of_ble_eq_true rfl, Nat.le_of_ble_eq_true rfl⟩) hS (fun q h9 h => zN.not h9 h) (fun q h => hA q (Nat.le_trans hS.1 h)) (fun q h9 h => zN.not h9 h) (fun E ce q9 ux t_4 H_1 locs ht hvm px_5 hE hz1 hk1 hS hq9 hv9 hcl9 => ?_) (fun r_2 u t_4 H_1 locs ht hvm hw_3 hB hz1 hk1 hS => ?_)
  · subst hE
    have hP := hP.grown hk1
    refine vx_widen (k := 1) (n := 6) (Nat.le_of_ble_eq_true rfl) (Nat.le_of_ble_eq_true rfl) ?_
    refine vx_catch (name := "java/lang/IndexOutOfBoundsException") hown [] ⟨0, 12, 15, 21⟩ [⟨0, 12, 19, 13⟩, ⟨0, 12, 23, 50⟩] (htab.trans rfl) (fun z9 h9 => absurd h9 List.not_mem_nil) (by decide) (by decide) (hg _ q518) (va_Nw.use rfl (hG.2.2.2.2.1 _ qf552)) hq9 hv9 hcl9 ?_
    refine lv_astore (lv' := [(5, .ref q9), (0, .ref h0), (1, .int p0), (2, .int p1), (3, .int p2), (4, .ref o0)]) hx hb dL_wire_15 hl (by decide) rfl (fun ls hl => ?_)
    refine lv_iconst (v := 1) hx hb dL_wire_17 (by decide) ?_
    refine W.widen (k := 1) (n := 6) (Nat.le_of_ble_eq_true rfl) (Nat.le_of_ble_eq_true rfl) ?_
    have hP9 := hP.sub (ws' := [(o0, .inl (cyL, 1, .inr (.inl (fo))))]) [2] rfl
    have hD9 := hD.sub (ws' := [(o0, .inl (cyL, 1, .inr (.inl (fo))))]) [2] (by decide) rfl
    have hK9 := hK.sub (tys' := [(cyL, .long)]) [0] rfl
    exact W.iret (v := 1) hx hb hr (fun t ht hW => ⟨⟨1, (), rfl, rfl, QW.of hP9 hK9 hD9 ht hW.alike⟩, hS.F ht⟩) hS.2.2 dL_wire_18
  exact hw_3.elim

abbrev wz_L_make : List Cond := .codeWith yL_make cL_make 7 (Option.some Jvm.ClassFile.FieldType.int) [((0 : Nat), (14 : Nat), (17 : Nat), (21 : Nat)), ((0 : Nat), (14 : Nat), (21 : Nat), (13 : Nat)), ((0 : Nat), (14 : Nat), (25 : Nat), (27 : Nat)), ((0 : Nat), (14 : Nat), (29 : Nat), (15 : Nat))] :: lw_good
set_option maxHeartbeats 4000000 in
set_option maxRecDepth 100000 in
/-- the law on make of a fresh object: it throws -/
theorem k_L_make (l : Launch) (hfl : l.stackTraces = false) (G : va_G) (z : Nat) (h0 : Nat) (a1 : Nat) (a2 : Nat) (a3 : Nat) (a4 : Nat) (a5 : Nat) (a6 : Nat) (a7 : Nat) (a8 : Nat) (tol : Int32) (sal : Int32) (c0 : Int32) (e0 : Nat) (p0 : Int32) (p1 : Int32) (p2 : Int32) (p3 : Int32) (o0 : Nat) (cyL : ClassId) (fo : Nat → Int64) (sz : Nat)  : Met l yL_make wz_L_make ({ frames := 8, cells := 1, slots := 6, locals := 130 }) (va_Pc [.ref h0, .int p0, .int p1, .int p2, .int p3, .ref o0] (PW G z [(h0, .inr (12, [.ref a1, .ref a2, .ref a3, .ref a4, .ref a5, .ref a6, .ref a7, .ref a8, .int tol, .int sal])), (a1, .inr (3, [.int c0, .ref e0, .int 0])), (o0, .inl (cyL, 1, .inr (.inl (fo))))] [(cyL, .long)] sz)) (va_Qi (fun (r : Int32) (_ : Unit) => r = 1) (fun (_ : Unit) (t : State) => QW G [(o0, .inl (cyL, 1, .inr (.inl (fo))))] [(cyL, .long)] (va_A [(h0, .inr (12, [.ref a1, .ref a2, .ref a3, .ref a4, .ref a5, .ref a6, .ref a7, .ref a8, .int tol, .int sal])), (a1, .inr (3, [.int c0, .ref e0, .int 0])), (o0, .inl (cyL, 1, .inr (.inl (fo))))] sz) t) (va_A [(h0, .inr (12, [.ref a1, .ref a2, .ref a3, .ref a4, .ref a5, .ref a6, .ref a7, .ref a8, .int tol, .int sal])), (a1, .inr (3, [.int c0, .ref e0, .int 0])), (o0, .inl (cyL, 1, .inr (.inl (fo))))] sz)) 1 6 (va_A [(h0, .inr (12, [.ref a1, .ref a2, .ref a3, .ref a4, .ref a5, .ref a6, .ref a7, .ref a8, .int tol, .int sal])), (a1, .inr (3, [.int c0, .ref e0, .int 0])), (o0, .inl (cyL, 1, .inr (.inl (fo))))] sz) := by
  refine va_MetW (cc := cL_make) (maxL := 7) (ret := (Option.some Jvm.ClassFile.FieldType.int)) (hh := [((0 : Nat), (14 : Nat), (17 : Nat), (21 : Nat)), ((0 : Nat), (14 : Nat), (21 : Nat), (13 : Nat)), ((0 : Nat), (14 : Nat), (25 : Nat), (27 : Nat)), ((0 : Nat), (14 : Nat), (29 : Nat), (15 : Nat))]) (by decide) rfl ?_
  intro p e s m args below meth c s₁ B hml hv
  obtain ⟨rfl, rfl, hP, hK, hD0, hG⟩ := hv
  have hx := B.exec
  have hb := B.bytes
  have hr := B.returns
  have hts := atoms_spec (ws := wz_L_make) B.pre
  have htab := vx_table (x := yL_make) B (hts _ List.mem_cons_self)
  have hg : ∀ w ∈ lw_good, w.before _ s = true := fun w h => hts w (List.mem_cons_of_mem _ h)
  have hown : s.vm.findClass RL = some m.cls := findClass_of_methodNamed B.named
  have hlocks := B.notSynchronized
  have hD := hD0.self (sz := s.heap.size)
  generalize hAe : va_A [(h0, .inr (12, [.ref a1, .ref a2, .ref a3, .ref a4, .ref a5, .ref a6, .ref a7, .ref a8, .int tol, .int sal])), (a1, .inr (3, [.int c0, .ref e0, .int 0])), (o0, .inl (cyL, 1, .inr (.inl (fo))))] s.heap.size = A at hD hG ⊢
  have hA : ∀ q : Nat, s.heap.size ≤ q → A q := fun q h => by rw [← hAe]; exact Or.inr h
  have hS : va_S A s.heap s.heap [] := va_S.rf
  have hl := lv_entry ([.ref h0, .int p0, .int p1, .int p2, .int p3, .ref o0]) (n := 7) (Nat.le_of_ble_eq_true rfl)
  rw [lg_entry_eq]
  generalize (lg_sl ([.ref h0, .int p0, .int p1, .int p2, .int p3, .ref o0]) ++ List.replicate (7 - (lg_sl ([.ref h0, .int p0, .int p1, .int p2, .int p3, .ref o0])).length) Slot.unset).toArray = ls at hl ⊢
  have hl : lv_has ls 7 [(0, .ref h0), (1, .int p0), (2, .int p1), (3, .int p2), (4, .int p3), (5, .ref o0)] := hl
  refine lv_aload hx hb dL_make_0 (lv_at hl 5 rfl) ?_
  refine lv_iconst (v := 0) hx hb dL_make_2 (by decide) ?_
  refine lv_aload_n hx hb dL_make_3 rfl (lv_at hl 0 rfl) ?_
  refine lv_iload_n hx hb dL_make_4 rfl (lv_at hl 1 rfl) ?_
  refine lv_iload_n hx hb dL_make_5 rfl (lv_at hl 2 rfl) ?_
  refine lv_iload_n hx hb dL_make_6 rfl (lv_at hl 3 rfl) ?_
  refine lv_iload hx hb dL_make_7 (lv_at hl 4 rfl) ?_
  have hPc := hP.sub (ws' := [(h0, .inr (12, [.ref a1, .ref a2, .ref a3, .ref a4, .ref a5, .ref a6, .ref a7, .ref a8, .int tol, .int sal])), (a1, .inr (3, [.int c0, .ref e0, .int 0]))]) [0, 1] rfl
  have hKc := hK.sub (tys' := []) [] rfl
  refine vx_calli (vx_runV (As := [.int p0, .int p1, .int p2, .int p3]) (rest := [.int 0, .ref o0]) ⟨hx, hb, hml, hown, hts⟩ (k_X8_make l hfl G z h0 a1 a2 a3 a4 a5 a6 a7 a8 tol sal c0 e0 p0 p1 p2 p3 s.heap.size ) (cwV 4 hts (lw_goodApp (lw_4 q702 q703 q704 q1) q705) rfl rfl rfl (by decide +kernel) ⟨Nat.le_of_ble_eq_true rfl, Nat.le_of_ble_eq_true rfl⟩) ⟨PR.blind, va_recv hK hP (ci := 12) (q0 := 0) rfl rfl, PR.of hPc hKc hG hS hA [.ref h0, .int p0, .int p1, .int p2, .int p3]⟩ rfl rfl hl.1 rfl (lv_room (Nat.le_of_ble_eq_true rfl)) dL_make_9 ⟨Nat.le_of_ble_eq_true rfl, Nat.le_of_ble_eq_true rfl⟩) hS (fun q h9 h => zN.not h9 h) (fun q h => hA q (Nat.le_trans hS.1 h)) (fun q h9 h => zN.not h9 h) (fun E ce q9 ux t_4 H_1 locs ht hvm px_5 hE hz1 hk1 hS hq9 hv9 hcl9 => ?_) (fun r_2 u t_4 H_1 locs ht hvm hw_3 hB hz1 hk1 hS => ?_)
  · subst hE
    have hP := hP.grown hk1
    refine vx_widen (k := 1) (n := 6) (Nat.le_of_ble_eq_true rfl) (Nat.le_of_ble_eq_true rfl) ?_
    refine vx_catch (name := "java/lang/IndexOutOfBoundsException") hown [] ⟨0, 14, 17, 21⟩ [⟨0, 14, 21, 13⟩, ⟨0, 14, 25, 27⟩, ⟨0, 14, 29, 15⟩] (htab.trans rfl) (fun z9 h9 => absurd h9 List.not_mem_nil) (by decide) (by decide) (hg _ q518) (va_Nw.use rfl (hG.2.2.2.2.1 _ qf552)) hq9 hv9 hcl9 ?_
    refine lv_astore (lv' := [(6, .ref q9), (0, .ref h0), (1, .int p0), (2, .int p1), (3, .int p2), (4, .int p3), (5, .ref o0)]) hx hb dL_make_17 hl (by decide) rfl (fun ls hl => ?_)
    refine lv_iconst (v := 1) hx hb dL_make_19 (by decide) ?_
    refine W.widen (k := 1) (n := 6) (Nat.le_of_ble_eq_true rfl) (Nat.le_of_ble_eq_true rfl) ?_
    have hP9 := hP.sub (ws' := [(o0, .inl (cyL, 1, .inr (.inl (fo))))]) [2] rfl
    have hD9 := hD.sub (ws' := [(o0, .inl (cyL, 1, .inr (.inl (fo))))]) [2] (by decide) rfl
    have hK9 := hK.sub (tys' := [(cyL, .long)]) [0] rfl
    exact W.iret (v := 1) hx hb hr (fun t ht hW => ⟨⟨1, (), rfl, rfl, QW.of hP9 hK9 hD9 ht hW.alike⟩, hS.F ht⟩) hS.2.2 dL_make_20
  exact hw_3.elim

abbrev wz_L_ream : List Cond := .codeWith yL_ream cL_ream 4 (Option.some Jvm.ClassFile.FieldType.int) [((0 : Nat), (9 : Nat), (12 : Nat), (13 : Nat)), ((0 : Nat), (9 : Nat), (15 : Nat), (15 : Nat))] :: lw_good
set_option maxHeartbeats 4000000 in
set_option maxRecDepth 100000 in
/-- the law on ream of a fresh object -/
theorem k_L_ream (l : Launch) (hfl : l.stackTraces = false) (G : va_G) (z : Nat) (h0 : Nat) (a1 : Nat) (a2 : Nat) (a3 : Nat) (a4 : Nat) (a5 : Nat) (a6 : Nat) (a7 : Nat) (a8 : Nat) (tol : Int32) (sal : Int32) (c0 : Int32) (p0 : Int32) (o0 : Nat) (cyL : ClassId) (fo : Nat → Int64) (sz : Nat)  : Met l yL_ream wz_L_ream ({ frames := 8, cells := 5, slots := 1025, locals := 125 }) (va_Pc [.ref h0, .int p0, .ref o0] (PW G z [(h0, .inr (12, [.ref a1, .ref a2, .ref a3, .ref a4, .ref a5, .ref a6, .ref a7, .ref a8, .int tol, .int sal])), (a3, .inr (3, [.int c0, .ref z, .int 0])), (o0, .inl (cyL, 1, .inr (.inl (fo))))] [(cyL, .long)] sz)) (va_Qi (fun (r : Int32) (u : Nat → Int64) => (okR p0 ∧ r = 0 ∧ u 0 = (0 : Int32).toInt64) ∨ (¬ okR p0 ∧ r = 1)) (fun (u : Nat → Int64) (t : State) => QW G [(o0, .inl (cyL, 1, .inr (.inl (u))))] [(cyL, .long)] (va_A [(h0, .inr (12, [.ref a1, .ref a2, .ref a3, .ref a4, .ref a5, .ref a6, .ref a7, .ref a8, .int tol, .int sal])), (a3, .inr (3, [.int c0, .ref z, .int 0])), (o0, .inl (cyL, 1, .inr (.inl (fo))))] sz) t) (va_A [(h0, .inr (12, [.ref a1, .ref a2, .ref a3, .ref a4, .ref a5, .ref a6, .ref a7, .ref a8, .int tol, .int sal])), (a3, .inr (3, [.int c0, .ref z, .int 0])), (o0, .inl (cyL, 1, .inr (.inl (fo))))] sz)) 5 1025 (va_A [(h0, .inr (12, [.ref a1, .ref a2, .ref a3, .ref a4, .ref a5, .ref a6, .ref a7, .ref a8, .int tol, .int sal])), (a3, .inr (3, [.int c0, .ref z, .int 0])), (o0, .inl (cyL, 1, .inr (.inl (fo))))] sz) := by
  refine va_MetW (cc := cL_ream) (maxL := 4) (ret := (Option.some Jvm.ClassFile.FieldType.int)) (hh := [((0 : Nat), (9 : Nat), (12 : Nat), (13 : Nat)), ((0 : Nat), (9 : Nat), (15 : Nat), (15 : Nat))]) (by decide) rfl ?_
  intro p e s m args below meth c s₁ B hml hv
  obtain ⟨rfl, rfl, hP, hK, hD0, hG⟩ := hv
  have hx := B.exec
  have hb := B.bytes
  have hr := B.returns
  have hts := atoms_spec (ws := wz_L_ream) B.pre
  have htab := vx_table (x := yL_ream) B (hts _ List.mem_cons_self)
  have hg : ∀ w ∈ lw_good, w.before _ s = true := fun w h => hts w (List.mem_cons_of_mem _ h)
  have hown : s.vm.findClass RL = some m.cls := findClass_of_methodNamed B.named
  have hlocks := B.notSynchronized
  have hD := hD0.self (sz := s.heap.size)
  generalize hAe : va_A [(h0, .inr (12, [.ref a1, .ref a2, .ref a3, .ref a4, .ref a5, .ref a6, .ref a7, .ref a8, .int tol, .int sal])), (a3, .inr (3, [.int c0, .ref z, .int 0])), (o0, .inl (cyL, 1, .inr (.inl (fo))))] s.heap.size = A at hD hG ⊢
  have hA : ∀ q : Nat, s.heap.size ≤ q → A q := fun q h => by rw [← hAe]; exact Or.inr h
  have hS : va_S A s.heap s.heap [] := va_S.rf
  have hl := lv_entry ([.ref h0, .int p0, .ref o0]) (n := 4) (Nat.le_of_ble_eq_true rfl)
  rw [lg_entry_eq]
  generalize (lg_sl ([.ref h0, .int p0, .ref o0]) ++ List.replicate (4 - (lg_sl ([.ref h0, .int p0, .ref o0])).length) Slot.unset).toArray = ls at hl ⊢
  have hl : lv_has ls 4 [(0, .ref h0), (1, .int p0), (2, .ref o0)] := hl
  refine lv_aload_n hx hb dL_ream_0 rfl (lv_at hl 2 rfl) ?_
  refine lv_iconst (v := 0) hx hb dL_ream_1 (by decide) ?_
  refine lv_aload_n hx hb dL_ream_2 rfl (lv_at hl 0 rfl) ?_
  refine lv_iload_n hx hb dL_ream_3 rfl (lv_at hl 1 rfl) ?_
  have hPc := hP.sub (ws' := [(h0, .inr (12, [.ref a1, .ref a2, .ref a3, .ref a4, .ref a5, .ref a6, .ref a7, .ref a8, .int tol, .int sal])), (a3, .inr (3, [.int c0, .ref z, .int 0]))]) [0, 1] rfl
  have hKc := hK.sub (tys' := []) [] rfl
  have hDc := hD.sub (ws' := [(h0, .inr (12, [.ref a1, .ref a2, .ref a3, .ref a4, .ref a5, .ref a6, .ref a7, .ref a8, .int tol, .int sal])), (a3, .inr (3, [.int c0, .ref z, .int 0]))]) [0, 1] (by decide) rfl
  have hFc := va_free (wc := [(h0, .inr (12, [.ref a1, .ref a2, .ref a3, .ref a4, .ref a5, .ref a6, .ref a7, .ref a8, .int tol, .int sal])), (a3, .inr (3, [.int c0, .ref z, .int 0]))]) hD hS hA [0, 1] rfl
  refine vx_calli (vx_runV (As := [.int p0]) (rest := [.int 0, .ref o0]) ⟨hx, hb, hml, hown, hts⟩ (k_X8_ream l hfl G z h0 a1 a2 a3 a4 a5 a6 a7 a8 tol sal c0 p0 s.heap.size ) (cwV 1 hts (lw_goodApp (lw_4 q733 q734 q735 q1) q736) rfl rfl rfl (by decide +kernel) ⟨Nat.le_of_ble_eq_true rfl, Nat.le_of_ble_eq_true rfl⟩) ⟨PW.blind, va_recv hK hP (ci := 12) (q0 := 0) rfl rfl, PW.of hPc hKc hDc hG hS hFc [.ref h0, .int p0]⟩ rfl rfl hl.1 rfl (lv_room (Nat.le_of_ble_eq_true rfl)) dL_ream_4 ⟨Nat.le_of_ble_eq_true rfl, Nat.le_of_ble_eq_true rfl⟩) hS (fun q _ h => hFc q h) hFc (fun q _ h => hFc q h) (fun E ce q9 ux t_4 H_1 locs ht hvm px_5 hE hz1 hk1 hS hq9 hv9 hcl9 => ?_) (fun r_2 u t_4 H_1 locs ht hvm hw_3 hB hz1 hk1 hS => ?_)
  · subst hE
    obtain ⟨hP, hD, hK⟩ := QW.join (wr := [(o0, .inl (cyL, 1, .inr (.inl (fo))))]) (w1 := []) (ty1 := []) hP hD hK [0, 1] [2] rfl rfl (by decide) (by decide) hk1 hFc ht hvm (QW.nil hK hvm)
    have hP : va_P G vwCl ([(o0, .inl (cyL, 1, .inr (.inl (fo))))]) H_1 := hP
    have hD : va_D A ([(o0, .inl (cyL, 1, .inr (.inl (fo))))]) := hD
    have hK : va_K G vwCl [(cyL, .long)] s := hK
    refine vx_widen (k := 5) (n := 1025) (Nat.le_of_ble_eq_true rfl) (Nat.le_of_ble_eq_true rfl) ?_
    refine vx_catch (name := "java/lang/IllegalArgumentException") hown [] ⟨0, 9, 12, 13⟩ [⟨0, 9, 15, 15⟩] (htab.trans rfl) (fun z9 h9 => absurd h9 List.not_mem_nil) (by decide) (by decide) (hg _ q302) (va_Nw.use rfl (hG.2.2.2.2.1 _ qf313)) hq9 hv9 hcl9 ?_
    refine lv_astore_n (lv' := [(3, .ref q9), (0, .ref h0), (1, .int p0), (2, .ref o0)]) hx hb dL_ream_12 rfl hl (by decide) rfl (fun ls hl => ?_)
    refine lv_iconst (v := 1) hx hb dL_ream_13 (by decide) ?_
    refine W.widen (k := 5) (n := 1025) (Nat.le_of_ble_eq_true rfl) (Nat.le_of_ble_eq_true rfl) ?_
    have hP9 := hP.sub (ws' := [(o0, .inl (cyL, 1, .inr (.inl (fo))))]) [0] rfl
    have hD9 := hD.sub (ws' := [(o0, .inl (cyL, 1, .inr (.inl (fo))))]) [0] (by decide) rfl
    have hK9 := hK.sub (tys' := [(cyL, .long)]) [0] rfl
    exact W.iret (v := 1) hx hb hr (fun t ht hW => ⟨⟨1, fo, rfl, Or.inr ⟨px_5, rfl⟩, QW.of hP9 hK9 hD9 ht hW.alike⟩, hS.F ht⟩) hS.2.2 dL_ream_14
  obtain ⟨hP, hD, hK⟩ := QW.join (wr := [(o0, .inl (cyL, 1, .inr (.inl (fo))))]) (w1 := []) hP hD hK [0, 1] [2] rfl rfl (by decide) (by decide) hk1 hFc ht hvm hB
  have hP : va_P G vwCl ([(o0, .inl (cyL, 1, .inr (.inl (fo))))]) H_1 := hP
  have hD : va_D A ([(o0, .inl (cyL, 1, .inr (.inl (fo))))]) := hD
  have hK : va_K G vwCl [(cyL, .long)] s := hK
  refine W.widen (k := 5) (n := 1025) (Nat.le_of_ble_eq_true rfl) (Nat.le_of_ble_eq_true rfl) ?_
  obtain ⟨he9, hphi9⟩ := hw_3
  refine lv_i2l hx hb dL_ream_7 rfl ?_
  refine va_last hx hb hK hP hD hS 0 0 rfl rfl (by unfold vp_in; decide +kernel) dL_ream_8 (fun H_6 locs hP hD hS => ?_)
  have hP : va_P G vwCl ([(o0, .inl (cyL, 1, .inr (.inl (vp_updL (fo) (0 : Int32).toNatClampNeg ((r_2).toInt64)))))]) H_6 := hP
  have hD : va_D A ([(o0, .inl (cyL, 1, .inr (.inl (vp_updL (fo) (0 : Int32).toNatClampNeg ((r_2).toInt64)))))]) := hD
  refine lv_goto (tgt := 18) hx hb dL_ream_9 (by decide) ?_
  refine lv_iconst (v := 0) hx hb dL_ream_18 (by decide) ?_
  refine W.widen (k := 5) (n := 1025) (Nat.le_of_ble_eq_true rfl) (Nat.le_of_ble_eq_true rfl) ?_
  have hP9 := hP.sub (ws' := [(o0, .inl (cyL, 1, .inr (.inl ((vp_updL (fo) (0 : Int32).toNatClampNeg ((r_2).toInt64))))))]) [0] rfl
  have hD9 := hD.sub (ws' := [(o0, .inl (cyL, 1, .inr (.inl ((vp_updL (fo) (0 : Int32).toNatClampNeg ((r_2).toInt64))))))]) [0] (by decide) rfl
  have hK9 := hK.sub (tys' := [(cyL, .long)]) [0] rfl
  exact W.iret (v := 0) hx hb hr (fun t ht hW => ⟨⟨0, vp_updL (fo) (0 : Int32).toNatClampNeg ((r_2).toInt64), rfl, Or.inl ⟨hphi9, rfl, z_updL0.trans (by rw [he9])⟩, QW.of hP9 hK9 hD9 ht hW.alike⟩, hS.F ht⟩) hS.2.2 dL_ream_19

abbrev wz_L_put : List Cond := .codeWith yL_put cL_put 6 (Option.some Jvm.ClassFile.FieldType.int) [((0 : Nat), (12 : Nat), (15 : Nat), (21 : Nat)), ((0 : Nat), (12 : Nat), (19 : Nat), (13 : Nat)), ((0 : Nat), (12 : Nat), (23 : Nat), (50 : Nat)), ((0 : Nat), (12 : Nat), (27 : Nat), (15 : Nat))] :: lw_good
set_option maxHeartbeats 4000000 in
set_option maxRecDepth 100000 in
/-- the law on put of a fresh object: it throws -/
theorem k_L_put (l : Launch) (hfl : l.stackTraces = false) (G : va_G) (z : Nat) (h0 : Nat) (a1 : Nat) (a2 : Nat) (a3 : Nat) (a4 : Nat) (a5 : Nat) (a6 : Nat) (a7 : Nat) (a8 : Nat) (tol : Int32) (sal : Int32) (c0 : Int32) (e0 : Nat) (p0 : Int32) (p1 : Int32) (p2 : Int32) (o0 : Nat) (cyL : ClassId) (fo : Nat → Int64) (sz : Nat)  : Met l yL_put wz_L_put ({ frames := 8, cells := 1, slots := 6, locals := 129 }) (va_Pc [.ref h0, .int p0, .int p1, .int p2, .ref o0] (PW G z [(h0, .inr (12, [.ref a1, .ref a2, .ref a3, .ref a4, .ref a5, .ref a6, .ref a7, .ref a8, .int tol, .int sal])), (a3, .inr (3, [.int c0, .ref e0, .int 0])), (o0, .inl (cyL, 1, .inr (.inl (fo))))] [(cyL, .long)] sz)) (va_Qi (fun (r : Int32) (_ : Unit) => r = 1) (fun (_ : Unit) (t : State) => QW G [(o0, .inl (cyL, 1, .inr (.inl (fo))))] [(cyL, .long)] (va_A [(h0, .inr (12, [.ref a1, .ref a2, .ref a3, .ref a4, .ref a5, .ref a6, .ref a7, .ref a8, .int tol, .int sal])), (a3, .inr (3, [.int c0, .ref e0, .int 0])), (o0, .inl (cyL, 1, .inr (.inl (fo))))] sz) t) (va_A [(h0, .inr (12, [.ref a1, .ref a2, .ref a3, .ref a4, .ref a5, .ref a6, .ref a7, .ref a8, .int tol, .int sal])), (a3, .inr (3, [.int c0, .ref e0, .int 0])), (o0, .inl (cyL, 1, .inr (.inl (fo))))] sz)) 1 6 (va_A [(h0, .inr (12, [.ref a1, .ref a2, .ref a3, .ref a4, .ref a5, .ref a6, .ref a7, .ref a8, .int tol, .int sal])), (a3, .inr (3, [.int c0, .ref e0, .int 0])), (o0, .inl (cyL, 1, .inr (.inl (fo))))] sz) := by
  refine va_MetW (cc := cL_put) (maxL := 6) (ret := (Option.some Jvm.ClassFile.FieldType.int)) (hh := [((0 : Nat), (12 : Nat), (15 : Nat), (21 : Nat)), ((0 : Nat), (12 : Nat), (19 : Nat), (13 : Nat)), ((0 : Nat), (12 : Nat), (23 : Nat), (50 : Nat)), ((0 : Nat), (12 : Nat), (27 : Nat), (15 : Nat))]) (by decide) rfl ?_
  intro p e s m args below meth c s₁ B hml hv
  obtain ⟨rfl, rfl, hP, hK, hD0, hG⟩ := hv
  have hx := B.exec
  have hb := B.bytes
  have hr := B.returns
  have hts := atoms_spec (ws := wz_L_put) B.pre
  have htab := vx_table (x := yL_put) B (hts _ List.mem_cons_self)
  have hg : ∀ w ∈ lw_good, w.before _ s = true := fun w h => hts w (List.mem_cons_of_mem _ h)
  have hown : s.vm.findClass RL = some m.cls := findClass_of_methodNamed B.named
  have hlocks := B.notSynchronized
  have hD := hD0.self (sz := s.heap.size)
  generalize hAe : va_A [(h0, .inr (12, [.ref a1, .ref a2, .ref a3, .ref a4, .ref a5, .ref a6, .ref a7, .ref a8, .int tol, .int sal])), (a3, .inr (3, [.int c0, .ref e0, .int 0])), (o0, .inl (cyL, 1, .inr (.inl (fo))))] s.heap.size = A at hD hG ⊢
  have hA : ∀ q : Nat, s.heap.size ≤ q → A q := fun q h => by rw [← hAe]; exact Or.inr h
  have hS : va_S A s.heap s.heap [] := va_S.rf
  have hl := lv_entry ([.ref h0, .int p0, .int p1, .int p2, .ref o0]) (n := 6) (Nat.le_of_ble_eq_true rfl)
  rw [lg_entry_eq]
  generalize (lg_sl ([.ref h0, .int p0, .int p1, .int p2, .ref o0]) ++ List.replicate (6 - (lg_sl ([.ref h0, .int p0, .int p1, .int p2, .ref o0])).length) Slot.unset).toArray = ls at hl ⊢
  have hl : lv_has ls 6 [(0, .ref h0), (1, .int p0), (2, .int p1), (3, .int p2), (4, .ref o0)] := hl
  refine lv_aload hx hb dL_put_0 (lv_at hl 4 rfl) ?_
  refine lv_iconst (v := 0) hx hb dL_put_2 (by decide) ?_
  refine lv_aload_n hx hb dL_put_3 rfl (lv_at hl 0 rfl) ?_
  refine lv_iload_n hx hb dL_put_4 rfl (lv_at hl 1 rfl) ?_
  refine lv_iload_n hx hb dL_put_5 rfl (lv_at hl 2 rfl) ?_
  refine lv_iload_n hx hb dL_put_6 rfl (lv_at hl 3 rfl) ?_
  have hPc := hP.sub (ws' := [(h0, .inr (12, [.ref a1, .ref a2, .ref a3, .ref a4, .ref a5, .ref a6, .ref a7, .ref a8, .int tol, .int sal])), (a3, .inr (3, [.int c0, .ref e0, .int 0]))]) [0, 1] rfl
  have hKc := hK.sub (tys' := []) [] rfl
  refine vx_calli (vx_runV (As := [.int p0, .int p1, .int p2]) (rest := [.int 0, .ref o0]) ⟨hx, hb, hml, hown, hts⟩ (k_X8_put l hfl G z h0 a1 a2 a3 a4 a5 a6 a7 a8 tol sal c0 e0 p0 p1 p2 s.heap.size ) (cwV 3 hts (lw_goodApp (lw_4 q758 q759 q760 q1) q761) rfl rfl rfl (by decide +kernel) ⟨Nat.le_of_ble_eq_true rfl, Nat.le_of_ble_eq_true rfl⟩) ⟨PR.blind, va_recv hK hP (ci := 12) (q0 := 0) rfl rfl, PR.of hPc hKc hG hS hA [.ref h0, .int p0, .int p1, .int p2]⟩ rfl rfl hl.1 rfl (lv_room (Nat.le_of_ble_eq_true rfl)) dL_put_7 ⟨Nat.le_of_ble_eq_true rfl, Nat.le_of_ble_eq_true rfl⟩) hS (fun q h9 h => zN.not h9 h) (fun q h => hA q (Nat.le_trans hS.1 h)) (fun q h9 h => zN.not h9 h) (fun E ce q9 ux t_4 H_1 locs ht hvm px_5 hE hz1 hk1 hS hq9 hv9 hcl9 => ?_) (fun r_2 u t_4 H_1 locs ht hvm hw_3 hB hz1 hk1 hS => ?_)
  · subst hE
    have hP := hP.grown hk1
    refine vx_widen (k := 1) (n := 6) (Nat.le_of_ble_eq_true rfl) (Nat.le_of_ble_eq_true rfl) ?_
    refine vx_catch (name := "java/lang/IndexOutOfBoundsException") hown [] ⟨0, 12, 15, 21⟩ [⟨0, 12, 19, 13⟩, ⟨0, 12, 23, 50⟩, ⟨0, 12, 27, 15⟩] (htab.trans rfl) (fun z9 h9 => absurd h9 List.not_mem_nil) (by decide) (by decide) (hg _ q518) (va_Nw.use rfl (hG.2.2.2.2.1 _ qf552)) hq9 hv9 hcl9 ?_
    refine lv_astore (lv' := [(5, .ref q9), (0, .ref h0), (1, .int p0), (2, .int p1), (3, .int p2), (4, .ref o0)]) hx hb dL_put_15 hl (by decide) rfl (fun ls hl => ?_)
    refine lv_iconst (v := 1) hx hb dL_put_17 (by decide) ?_
    refine W.widen (k := 1) (n := 6) (Nat.le_of_ble_eq_true rfl) (Nat.le_of_ble_eq_true rfl) ?_
    have hP9 := hP.sub (ws' := [(o0, .inl (cyL, 1, .inr (.inl (fo))))]) [2] rfl
    have hD9 := hD.sub (ws' := [(o0, .inl (cyL, 1, .inr (.inl (fo))))]) [2] (by decide) rfl
    have hK9 := hK.sub (tys' := [(cyL, .long)]) [0] rfl
    exact W.iret (v := 1) hx hb hr (fun t ht hW => ⟨⟨1, (), rfl, rfl, QW.of hP9 hK9 hD9 ht hW.alike⟩, hS.F ht⟩) hS.2.2 dL_put_18
  exact hw_3.elim

abbrev wz_L_tariff : List Cond := .codeWith yL_tariff cL_tariff 4 (Option.some Jvm.ClassFile.FieldType.int) [((0 : Nat), (9 : Nat), (12 : Nat), (21 : Nat))] :: lw_good
set_option maxHeartbeats 4000000 in
set_option maxRecDepth 100000 in
/-- the law on tariff of a fresh object: it throws -/
theorem k_L_tariff (l : Launch) (hfl : l.stackTraces = false) (G : va_G) (z : Nat) (h0 : Nat) (a1 : Nat) (a2 : Nat) (a3 : Nat) (a4 : Nat) (a5 : Nat) (a6 : Nat) (a7 : Nat) (a8 : Nat) (tol : Int32) (sal : Int32) (c0 : Int32) (e0 : Nat) (p0 : Int32) (o0 : Nat) (cyL : ClassId) (fo : Nat → Int64) (sz : Nat)  : Met l yL_tariff wz_L_tariff ({ frames := 8, cells := 1, slots := 6, locals := 128 }) (va_Pc [.ref h0, .int p0, .ref o0] (PW G z [(h0, .inr (12, [.ref a1, .ref a2, .ref a3, .ref a4, .ref a5, .ref a6, .ref a7, .ref a8, .int tol, .int sal])), (a3, .inr (3, [.int c0, .ref e0, .int 0])), (o0, .inl (cyL, 1, .inr (.inl (fo))))] [(cyL, .long)] sz)) (va_Qi (fun (r : Int32) (_ : Unit) => r = 1) (fun (_ : Unit) (t : State) => QW G [(o0, .inl (cyL, 1, .inr (.inl (fo))))] [(cyL, .long)] (va_A [(h0, .inr (12, [.ref a1, .ref a2, .ref a3, .ref a4, .ref a5, .ref a6, .ref a7, .ref a8, .int tol, .int sal])), (a3, .inr (3, [.int c0, .ref e0, .int 0])), (o0, .inl (cyL, 1, .inr (.inl (fo))))] sz) t) (va_A [(h0, .inr (12, [.ref a1, .ref a2, .ref a3, .ref a4, .ref a5, .ref a6, .ref a7, .ref a8, .int tol, .int sal])), (a3, .inr (3, [.int c0, .ref e0, .int 0])), (o0, .inl (cyL, 1, .inr (.inl (fo))))] sz)) 1 6 (va_A [(h0, .inr (12, [.ref a1, .ref a2, .ref a3, .ref a4, .ref a5, .ref a6, .ref a7, .ref a8, .int tol, .int sal])), (a3, .inr (3, [.int c0, .ref e0, .int 0])), (o0, .inl (cyL, 1, .inr (.inl (fo))))] sz) := by
  refine va_MetW (cc := cL_tariff) (maxL := 4) (ret := (Option.some Jvm.ClassFile.FieldType.int)) (hh := [((0 : Nat), (9 : Nat), (12 : Nat), (21 : Nat))]) (by decide) rfl ?_
  intro p e s m args below meth c s₁ B hml hv
  obtain ⟨rfl, rfl, hP, hK, hD0, hG⟩ := hv
  have hx := B.exec
  have hb := B.bytes
  have hr := B.returns
  have hts := atoms_spec (ws := wz_L_tariff) B.pre
  have htab := vx_table (x := yL_tariff) B (hts _ List.mem_cons_self)
  have hg : ∀ w ∈ lw_good, w.before _ s = true := fun w h => hts w (List.mem_cons_of_mem _ h)
  have hown : s.vm.findClass RL = some m.cls := findClass_of_methodNamed B.named
  have hlocks := B.notSynchronized
  have hD := hD0.self (sz := s.heap.size)
  generalize hAe : va_A [(h0, .inr (12, [.ref a1, .ref a2, .ref a3, .ref a4, .ref a5, .ref a6, .ref a7, .ref a8, .int tol, .int sal])), (a3, .inr (3, [.int c0, .ref e0, .int 0])), (o0, .inl (cyL, 1, .inr (.inl (fo))))] s.heap.size = A at hD hG ⊢
  have hA : ∀ q : Nat, s.heap.size ≤ q → A q := fun q h => by rw [← hAe]; exact Or.inr h
  have hS : va_S A s.heap s.heap [] := va_S.rf
  have hl := lv_entry ([.ref h0, .int p0, .ref o0]) (n := 4) (Nat.le_of_ble_eq_true rfl)
  rw [lg_entry_eq]
  generalize (lg_sl ([.ref h0, .int p0, .ref o0]) ++ List.replicate (4 - (lg_sl ([.ref h0, .int p0, .ref o0])).length) Slot.unset).toArray = ls at hl ⊢
  have hl : lv_has ls 4 [(0, .ref h0), (1, .int p0), (2, .ref o0)] := hl
  refine lv_aload_n hx hb dL_tariff_0 rfl (lv_at hl 2 rfl) ?_
  refine lv_iconst (v := 0) hx hb dL_tariff_1 (by decide) ?_
  refine lv_aload_n hx hb dL_tariff_2 rfl (lv_at hl 0 rfl) ?_
  refine lv_iload_n hx hb dL_tariff_3 rfl (lv_at hl 1 rfl) ?_
  have hPc := hP.sub (ws' := [(h0, .inr (12, [.ref a1, .ref a2, .ref a3, .ref a4, .ref a5, .ref a6, .ref a7, .ref a8, .int tol, .int sal])), (a3, .inr (3, [.int c0, .ref e0, .int 0]))]) [0, 1] rfl
  have hKc := hK.sub (tys' := []) [] rfl
  refine vx_calli (vx_runV (As := [.int p0]) (rest := [.int 0, .ref o0]) ⟨hx, hb, hml, hown, hts⟩ (k_X8_tariff l hfl G z h0 a1 a2 a3 a4 a5 a6 a7 a8 tol sal c0 e0 p0 s.heap.size ) (cwV 1 hts (lw_goodApp (lw_4 q790 q791 q792 q1) q793) rfl rfl rfl (by decide +kernel) ⟨Nat.le_of_ble_eq_true rfl, Nat.le_of_ble_eq_true rfl⟩) ⟨PR.blind, va_recv hK hP (ci := 12) (q0 := 0) rfl rfl, PR.of hPc hKc hG hS hA [.ref h0, .int p0]⟩ rfl rfl hl.1 rfl (lv_room (Nat.le_of_ble_eq_true rfl)) dL_tariff_4 ⟨Nat.le_of_ble_eq_true rfl, Nat.le_of_ble_eq_true rfl⟩) hS (fun q h9 h => zN.not h9 h) (fun q h => hA q (Nat.le_trans hS.1 h)) (fun q h9 h => zN.not h9 h) (fun E ce q9 ux t_4 H_1 locs ht hvm px_5 hE hz1 hk1 hS hq9 hv9 hcl9 => ?_) (fun r_2 u t_4 H_1 locs ht hvm hw_3 hB hz1 hk1 hS => ?_)
  · subst hE
    have hP := hP.grown hk1
    refine vx_widen (k := 1) (n := 6) (Nat.le_of_ble_eq_true rfl) (Nat.le_of_ble_eq_true rfl) ?_
    refine vx_catch (name := "java/lang/IndexOutOfBoundsException") hown [] ⟨0, 9, 12, 21⟩ [] (htab.trans rfl) (fun z9 h9 => absurd h9 List.not_mem_nil) (by decide) (by decide) (hg _ q518) (va_Nw.use rfl (hG.2.2.2.2.1 _ qf552)) hq9 hv9 hcl9 ?_
    refine lv_astore_n (lv' := [(3, .ref q9), (0, .ref h0), (1, .int p0), (2, .ref o0)]) hx hb dL_tariff_12 rfl hl (by decide) rfl (fun ls hl => ?_)
    refine lv_iconst (v := 1) hx hb dL_tariff_13 (by decide) ?_
    refine W.widen (k := 1) (n := 6) (Nat.le_of_ble_eq_true rfl) (Nat.le_of_ble_eq_true rfl) ?_
    have hP9 := hP.sub (ws' := [(o0, .inl (cyL, 1, .inr (.inl (fo))))]) [2] rfl
    have hD9 := hD.sub (ws' := [(o0, .inl (cyL, 1, .inr (.inl (fo))))]) [2] (by decide) rfl
    have hK9 := hK.sub (tys' := [(cyL, .long)]) [0] rfl
    exact W.iret (v := 1) hx hb hr (fun t ht hW => ⟨⟨1, (), rfl, rfl, QW.of hP9 hK9 hD9 ht hW.alike⟩, hS.F ht⟩) hS.2.2 dL_tariff_14
  exact hw_3.elim

abbrev wz_L_document : List Cond := .codeWith yL_document cL_document 5 (Option.some Jvm.ClassFile.FieldType.int) [((0 : Nat), (10 : Nat), (13 : Nat), (13 : Nat)), ((0 : Nat), (10 : Nat), (17 : Nat), (15 : Nat))] :: lw_good
set_option maxHeartbeats 4000000 in
set_option maxRecDepth 100000 in
/-- the law on document of a fresh object -/
theorem k_L_document (l : Launch) (hfl : l.stackTraces = false) (G : va_G) (z : Nat) (h0 : Nat) (a1 : Nat) (a2 : Nat) (a3 : Nat) (a4 : Nat) (a5 : Nat) (a6 : Nat) (a7 : Nat) (a8 : Nat) (tol : Int32) (sal : Int32) (c0 : Int32) (d1 : Nat) (d2 : Nat) (d3 : Nat) (d4 : Nat) (ag : Int32) (cyO : ClassId) (fS : Nat → Option Nat) (cyI : ClassId) (fR : Nat → Int32) (r0 : Nat) (p0 : Int32) (p1 : Int32) (o0 : Nat) (cyL : ClassId) (fo : Nat → Int64) (sz : Nat) (hfS : fS 0 = some r0) : Met l yL_document wz_L_document ({ frames := 9, cells := 8, slots := 1035, locals := 146 }) (va_Pc [.ref h0, .int p0, .int p1, .ref o0] (PW G z [(h0, .inr (12, [.ref a1, .ref a2, .ref a3, .ref a4, .ref a5, .ref a6, .ref a7, .ref a8, .int tol, .int sal])), (a4, .inr (3, [.int c0, .ref z, .int 0])), (a7, .inr (4, [.ref d1, .ref d2, .ref d3, .ref d4, .int 0, .int ag])), (d4, .inl (cyO, 20, .inr (.inr (.inr (.inr (fS)))))), (r0, .inl (cyI, 20, .inl (fR))), (o0, .inl (cyL, 1, .inr (.inl (fo))))] [(cyO, .array .int), (cyI, .int), (cyL, .long)] sz)) (va_Qi (fun (r : Int32) (u : Nat → Int64) => (okD p0 p1 ∧ r = 0 ∧ u 0 = (0 : Int32).toInt64) ∨ (¬ okD p0 p1 ∧ r = 1)) (fun (u : Nat → Int64) (t : State) => QW G [(o0, .inl (cyL, 1, .inr (.inl (u))))] [(cyL, .long)] (va_A [(h0, .inr (12, [.ref a1, .ref a2, .ref a3, .ref a4, .ref a5, .ref a6, .ref a7, .ref a8, .int tol, .int sal])), (a4, .inr (3, [.int c0, .ref z, .int 0])), (a7, .inr (4, [.ref d1, .ref d2, .ref d3, .ref d4, .int 0, .int ag])), (d4, .inl (cyO, 20, .inr (.inr (.inr (.inr (fS)))))), (r0, .inl (cyI, 20, .inl (fR))), (o0, .inl (cyL, 1, .inr (.inl (fo))))] sz) t) (va_A [(h0, .inr (12, [.ref a1, .ref a2, .ref a3, .ref a4, .ref a5, .ref a6, .ref a7, .ref a8, .int tol, .int sal])), (a4, .inr (3, [.int c0, .ref z, .int 0])), (a7, .inr (4, [.ref d1, .ref d2, .ref d3, .ref d4, .int 0, .int ag])), (d4, .inl (cyO, 20, .inr (.inr (.inr (.inr (fS)))))), (r0, .inl (cyI, 20, .inl (fR))), (o0, .inl (cyL, 1, .inr (.inl (fo))))] sz)) 8 1035 (va_A [(h0, .inr (12, [.ref a1, .ref a2, .ref a3, .ref a4, .ref a5, .ref a6, .ref a7, .ref a8, .int tol, .int sal])), (a4, .inr (3, [.int c0, .ref z, .int 0])), (a7, .inr (4, [.ref d1, .ref d2, .ref d3, .ref d4, .int 0, .int ag])), (d4, .inl (cyO, 20, .inr (.inr (.inr (.inr (fS)))))), (r0, .inl (cyI, 20, .inl (fR))), (o0, .inl (cyL, 1, .inr (.inl (fo))))] sz) := by
  refine va_MetW (cc := cL_document) (maxL := 5) (ret := (Option.some Jvm.ClassFile.FieldType.int)) (hh := [((0 : Nat), (10 : Nat), (13 : Nat), (13 : Nat)), ((0 : Nat), (10 : Nat), (17 : Nat), (15 : Nat))]) (by decide) rfl ?_
  intro p e s m args below meth c s₁ B hml hv
  obtain ⟨rfl, rfl, hP, hK, hD0, hG⟩ := hv
  have hx := B.exec
  have hb := B.bytes
  have hr := B.returns
  have hts := atoms_spec (ws := wz_L_document) B.pre
  have htab := vx_table (x := yL_document) B (hts _ List.mem_cons_self)
  have hg : ∀ w ∈ lw_good, w.before _ s = true := fun w h => hts w (List.mem_cons_of_mem _ h)
  have hown : s.vm.findClass RL = some m.cls := findClass_of_methodNamed B.named
  have hlocks := B.notSynchronized
  have hD := hD0.self (sz := s.heap.size)
  generalize hAe : va_A [(h0, .inr (12, [.ref a1, .ref a2, .ref a3, .ref a4, .ref a5, .ref a6, .ref a7, .ref a8, .int tol, .int sal])), (a4, .inr (3, [.int c0, .ref z, .int 0])), (a7, .inr (4, [.ref d1, .ref d2, .ref d3, .ref d4, .int 0, .int ag])), (d4, .inl (cyO, 20, .inr (.inr (.inr (.inr (fS)))))), (r0, .inl (cyI, 20, .inl (fR))), (o0, .inl (cyL, 1, .inr (.inl (fo))))] s.heap.size = A at hD hG ⊢
  have hA : ∀ q : Nat, s.heap.size ≤ q → A q := fun q h => by rw [← hAe]; exact Or.inr h
  have hS : va_S A s.heap s.heap [] := va_S.rf
  have hl := lv_entry ([.ref h0, .int p0, .int p1, .ref o0]) (n := 5) (Nat.le_of_ble_eq_true rfl)
  rw [lg_entry_eq]
  generalize (lg_sl ([.ref h0, .int p0, .int p1, .ref o0]) ++ List.replicate (5 - (lg_sl ([.ref h0, .int p0, .int p1, .ref o0])).length) Slot.unset).toArray = ls at hl ⊢
  have hl : lv_has ls 5 [(0, .ref h0), (1, .int p0), (2, .int p1), (3, .ref o0)] := hl
  refine lv_aload_n hx hb dL_document_0 rfl (lv_at hl 3 rfl) ?_
  refine lv_iconst (v := 0) hx hb dL_document_1 (by decide) ?_
  refine lv_aload_n hx hb dL_document_2 rfl (lv_at hl 0 rfl) ?_
  refine lv_iload_n hx hb dL_document_3 rfl (lv_at hl 1 rfl) ?_
  refine lv_iload_n hx hb dL_document_4 rfl (lv_at hl 2 rfl) ?_
  have hPc := hP.sub (ws' := [(h0, .inr (12, [.ref a1, .ref a2, .ref a3, .ref a4, .ref a5, .ref a6, .ref a7, .ref a8, .int tol, .int sal])), (a4, .inr (3, [.int c0, .ref z, .int 0])), (a7, .inr (4, [.ref d1, .ref d2, .ref d3, .ref d4, .int 0, .int ag])), (d4, .inl (cyO, 20, .inr (.inr (.inr (.inr (fS)))))), (r0, .inl (cyI, 20, .inl (fR)))]) [0, 1, 2, 3, 4] rfl
  have hKc := hK.sub (tys' := [(cyO, .array .int), (cyI, .int)]) [0, 1] rfl
  have hDc := hD.sub (ws' := [(h0, .inr (12, [.ref a1, .ref a2, .ref a3, .ref a4, .ref a5, .ref a6, .ref a7, .ref a8, .int tol, .int sal])), (a4, .inr (3, [.int c0, .ref z, .int 0])), (a7, .inr (4, [.ref d1, .ref d2, .ref d3, .ref d4, .int 0, .int ag])), (d4, .inl (cyO, 20, .inr (.inr (.inr (.inr (fS)))))), (r0, .inl (cyI, 20, .inl (fR)))]) [0, 1, 2, 3, 4] (by decide) rfl
  have hFc := va_free (wc := [(h0, .inr (12, [.ref a1, .ref a2, .ref a3, .ref a4, .ref a5, .ref a6, .ref a7, .ref a8, .int tol, .int sal])), (a4, .inr (3, [.int c0, .ref z, .int 0])), (a7, .inr (4, [.ref d1, .ref d2, .ref d3, .ref d4, .int 0, .int ag])), (d4, .inl (cyO, 20, .inr (.inr (.inr (.inr (fS)))))), (r0, .inl (cyI, 20, .inl (fR)))]) hD hS hA [0, 1, 2, 3, 4] rfl
  refine vx_calli (vx_runV (As := [.int p0, .int p1]) (rest := [.int 0, .ref o0]) ⟨hx, hb, hml, hown, hts⟩ (k_X8_document l hfl G z h0 a1 a2 a3 a4 a5 a6 a7 a8 tol sal c0 d1 d2 d3 d4 ag cyO fS cyI fR r0 p0 p1 s.heap.size hfS) (cwV 2 hts (lw_goodApp (lw_4 q800 q801 q802 q1) q803) rfl rfl rfl (by decide +kernel) ⟨Nat.le_of_ble_eq_true rfl, Nat.le_of_ble_eq_true rfl⟩) ⟨PW.blind, va_recv hK hP (ci := 12) (q0 := 0) rfl rfl, PW.of hPc hKc hDc hG hS hFc [.ref h0, .int p0, .int p1]⟩ rfl rfl hl.1 rfl (lv_room (Nat.le_of_ble_eq_true rfl)) dL_document_5 ⟨Nat.le_of_ble_eq_true rfl, Nat.le_of_ble_eq_true rfl⟩) hS (fun q _ h => hFc q h) hFc (fun q _ h => hFc q h) (fun E ce q9 ux t_4 H_1 locs ht hvm px_5 hE hz1 hk1 hS hq9 hv9 hcl9 => ?_) (fun r_2 u t_4 H_1 locs ht hvm hw_3 hB hz1 hk1 hS => ?_)
  · subst hE
    obtain ⟨hP, hD, hK⟩ := QW.join (wr := [(o0, .inl (cyL, 1, .inr (.inl (fo))))]) (w1 := []) (ty1 := []) hP hD hK [0, 1, 2, 3, 4] [5] rfl rfl (by decide) (by decide) hk1 hFc ht hvm (QW.nil hK hvm)
    have hP : va_P G vwCl ([(o0, .inl (cyL, 1, .inr (.inl (fo))))]) H_1 := hP
    have hD : va_D A ([(o0, .inl (cyL, 1, .inr (.inl (fo))))]) := hD
    have hK : va_K G vwCl [(cyO, .array .int), (cyI, .int), (cyL, .long)] s := hK
    refine vx_widen (k := 8) (n := 1035) (Nat.le_of_ble_eq_true rfl) (Nat.le_of_ble_eq_true rfl) ?_
    refine vx_catch (name := "java/lang/IllegalArgumentException") hown [] ⟨0, 10, 13, 13⟩ [⟨0, 10, 17, 15⟩] (htab.trans rfl) (fun z9 h9 => absurd h9 List.not_mem_nil) (by decide) (by decide) (hg _ q302) (va_Nw.use rfl (hG.2.2.2.2.1 _ qf313)) hq9 hv9 hcl9 ?_
    refine lv_astore (lv' := [(4, .ref q9), (0, .ref h0), (1, .int p0), (2, .int p1), (3, .ref o0)]) hx hb dL_document_13 hl (by decide) rfl (fun ls hl => ?_)
    refine lv_iconst (v := 1) hx hb dL_document_15 (by decide) ?_
    refine W.widen (k := 8) (n := 1035) (Nat.le_of_ble_eq_true rfl) (Nat.le_of_ble_eq_true rfl) ?_
    have hP9 := hP.sub (ws' := [(o0, .inl (cyL, 1, .inr (.inl (fo))))]) [0] rfl
    have hD9 := hD.sub (ws' := [(o0, .inl (cyL, 1, .inr (.inl (fo))))]) [0] (by decide) rfl
    have hK9 := hK.sub (tys' := [(cyL, .long)]) [2] rfl
    exact W.iret (v := 1) hx hb hr (fun t ht hW => ⟨⟨1, fo, rfl, Or.inr ⟨px_5, rfl⟩, QW.of hP9 hK9 hD9 ht hW.alike⟩, hS.F ht⟩) hS.2.2 dL_document_16
  obtain ⟨hP, hD, hK⟩ := QW.join (wr := [(o0, .inl (cyL, 1, .inr (.inl (fo))))]) (w1 := []) hP hD hK [0, 1, 2, 3, 4] [5] rfl rfl (by decide) (by decide) hk1 hFc ht hvm hB
  have hP : va_P G vwCl ([(o0, .inl (cyL, 1, .inr (.inl (fo))))]) H_1 := hP
  have hD : va_D A ([(o0, .inl (cyL, 1, .inr (.inl (fo))))]) := hD
  have hK : va_K G vwCl [(cyO, .array .int), (cyI, .int), (cyL, .long)] s := hK
  refine W.widen (k := 8) (n := 1035) (Nat.le_of_ble_eq_true rfl) (Nat.le_of_ble_eq_true rfl) ?_
  obtain ⟨he9, hphi9⟩ := hw_3
  refine lv_i2l hx hb dL_document_8 rfl ?_
  refine va_last hx hb hK hP hD hS 0 2 rfl rfl (by unfold vp_in; decide +kernel) dL_document_9 (fun H_6 locs hP hD hS => ?_)
  have hP : va_P G vwCl ([(o0, .inl (cyL, 1, .inr (.inl (vp_updL (fo) (0 : Int32).toNatClampNeg ((r_2).toInt64)))))]) H_6 := hP
  have hD : va_D A ([(o0, .inl (cyL, 1, .inr (.inl (vp_updL (fo) (0 : Int32).toNatClampNeg ((r_2).toInt64)))))]) := hD
  refine lv_goto (tgt := 21) hx hb dL_document_10 (by decide) ?_
  refine lv_iconst (v := 0) hx hb dL_document_21 (by decide) ?_
  refine W.widen (k := 8) (n := 1035) (Nat.le_of_ble_eq_true rfl) (Nat.le_of_ble_eq_true rfl) ?_
  have hP9 := hP.sub (ws' := [(o0, .inl (cyL, 1, .inr (.inl ((vp_updL (fo) (0 : Int32).toNatClampNeg ((r_2).toInt64))))))]) [0] rfl
  have hD9 := hD.sub (ws' := [(o0, .inl (cyL, 1, .inr (.inl ((vp_updL (fo) (0 : Int32).toNatClampNeg ((r_2).toInt64))))))]) [0] (by decide) rfl
  have hK9 := hK.sub (tys' := [(cyL, .long)]) [2] rfl
  exact W.iret (v := 0) hx hb hr (fun t ht hW => ⟨⟨0, vp_updL (fo) (0 : Int32).toNatClampNeg ((r_2).toInt64), rfl, Or.inl ⟨hphi9, rfl, z_updL0.trans (by rw [he9])⟩, QW.of hP9 hK9 hD9 ht hW.alike⟩, hS.F ht⟩) hS.2.2 dL_document_22

abbrev wz_L_use : List Cond := .codeWith yL_use cL_use 6 (Option.some Jvm.ClassFile.FieldType.int) [((0 : Nat), (12 : Nat), (15 : Nat), (21 : Nat)), ((0 : Nat), (12 : Nat), (19 : Nat), (13 : Nat)), ((0 : Nat), (12 : Nat), (23 : Nat), (50 : Nat)), ((0 : Nat), (12 : Nat), (27 : Nat), (27 : Nat)), ((0 : Nat), (12 : Nat), (31 : Nat), (15 : Nat))] :: lw_good
set_option maxHeartbeats 4000000 in
set_option maxRecDepth 100000 in
/-- the law on use of a fresh object: it throws -/
theorem k_L_use (l : Launch) (hfl : l.stackTraces = false) (G : va_G) (z : Nat) (h0 : Nat) (a1 : Nat) (a2 : Nat) (a3 : Nat) (a4 : Nat) (a5 : Nat) (a6 : Nat) (a7 : Nat) (a8 : Nat) (tol : Int32) (sal : Int32) (c0 : Int32) (e0 : Nat) (p0 : Int32) (p1 : Int32) (p2 : Int32) (o0 : Nat) (cyL : ClassId) (fo : Nat → Int64) (sz : Nat)  : Met l yL_use wz_L_use ({ frames := 8, cells := 1, slots := 6, locals := 129 }) (va_Pc [.ref h0, .int p0, .int p1, .int p2, .ref o0] (PW G z [(h0, .inr (12, [.ref a1, .ref a2, .ref a3, .ref a4, .ref a5, .ref a6, .ref a7, .ref a8, .int tol, .int sal])), (a4, .inr (3, [.int c0, .ref e0, .int 0])), (o0, .inl (cyL, 1, .inr (.inl (fo))))] [(cyL, .long)] sz)) (va_Qi (fun (r : Int32) (_ : Unit) => r = 1) (fun (_ : Unit) (t : State) => QW G [(o0, .inl (cyL, 1, .inr (.inl (fo))))] [(cyL, .long)] (va_A [(h0, .inr (12, [.ref a1, .ref a2, .ref a3, .ref a4, .ref a5, .ref a6, .ref a7, .ref a8, .int tol, .int sal])), (a4, .inr (3, [.int c0, .ref e0, .int 0])), (o0, .inl (cyL, 1, .inr (.inl (fo))))] sz) t) (va_A [(h0, .inr (12, [.ref a1, .ref a2, .ref a3, .ref a4, .ref a5, .ref a6, .ref a7, .ref a8, .int tol, .int sal])), (a4, .inr (3, [.int c0, .ref e0, .int 0])), (o0, .inl (cyL, 1, .inr (.inl (fo))))] sz)) 1 6 (va_A [(h0, .inr (12, [.ref a1, .ref a2, .ref a3, .ref a4, .ref a5, .ref a6, .ref a7, .ref a8, .int tol, .int sal])), (a4, .inr (3, [.int c0, .ref e0, .int 0])), (o0, .inl (cyL, 1, .inr (.inl (fo))))] sz) := by
  refine va_MetW (cc := cL_use) (maxL := 6) (ret := (Option.some Jvm.ClassFile.FieldType.int)) (hh := [((0 : Nat), (12 : Nat), (15 : Nat), (21 : Nat)), ((0 : Nat), (12 : Nat), (19 : Nat), (13 : Nat)), ((0 : Nat), (12 : Nat), (23 : Nat), (50 : Nat)), ((0 : Nat), (12 : Nat), (27 : Nat), (27 : Nat)), ((0 : Nat), (12 : Nat), (31 : Nat), (15 : Nat))]) (by decide) rfl ?_
  intro p e s m args below meth c s₁ B hml hv
  obtain ⟨rfl, rfl, hP, hK, hD0, hG⟩ := hv
  have hx := B.exec
  have hb := B.bytes
  have hr := B.returns
  have hts := atoms_spec (ws := wz_L_use) B.pre
  have htab := vx_table (x := yL_use) B (hts _ List.mem_cons_self)
  have hg : ∀ w ∈ lw_good, w.before _ s = true := fun w h => hts w (List.mem_cons_of_mem _ h)
  have hown : s.vm.findClass RL = some m.cls := findClass_of_methodNamed B.named
  have hlocks := B.notSynchronized
  have hD := hD0.self (sz := s.heap.size)
  generalize hAe : va_A [(h0, .inr (12, [.ref a1, .ref a2, .ref a3, .ref a4, .ref a5, .ref a6, .ref a7, .ref a8, .int tol, .int sal])), (a4, .inr (3, [.int c0, .ref e0, .int 0])), (o0, .inl (cyL, 1, .inr (.inl (fo))))] s.heap.size = A at hD hG ⊢
  have hA : ∀ q : Nat, s.heap.size ≤ q → A q := fun q h => by rw [← hAe]; exact Or.inr h
  have hS : va_S A s.heap s.heap [] := va_S.rf
  have hl := lv_entry ([.ref h0, .int p0, .int p1, .int p2, .ref o0]) (n := 6) (Nat.le_of_ble_eq_true rfl)
  rw [lg_entry_eq]
  generalize (lg_sl ([.ref h0, .int p0, .int p1, .int p2, .ref o0]) ++ List.replicate (6 - (lg_sl ([.ref h0, .int p0, .int p1, .int p2, .ref o0])).length) Slot.unset).toArray = ls at hl ⊢
  have hl : lv_has ls 6 [(0, .ref h0), (1, .int p0), (2, .int p1), (3, .int p2), (4, .ref o0)] := hl
  refine lv_aload hx hb dL_use_0 (lv_at hl 4 rfl) ?_
  refine lv_iconst (v := 0) hx hb dL_use_2 (by decide) ?_
  refine lv_aload_n hx hb dL_use_3 rfl (lv_at hl 0 rfl) ?_
  refine lv_iload_n hx hb dL_use_4 rfl (lv_at hl 1 rfl) ?_
  refine lv_iload_n hx hb dL_use_5 rfl (lv_at hl 2 rfl) ?_
  refine lv_iload_n hx hb dL_use_6 rfl (lv_at hl 3 rfl) ?_
  have hPc := hP.sub (ws' := [(h0, .inr (12, [.ref a1, .ref a2, .ref a3, .ref a4, .ref a5, .ref a6, .ref a7, .ref a8, .int tol, .int sal])), (a4, .inr (3, [.int c0, .ref e0, .int 0]))]) [0, 1] rfl
  have hKc := hK.sub (tys' := []) [] rfl
  refine vx_calli (vx_runV (As := [.int p0, .int p1, .int p2]) (rest := [.int 0, .ref o0]) ⟨hx, hb, hml, hown, hts⟩ (k_X8_use l hfl G z h0 a1 a2 a3 a4 a5 a6 a7 a8 tol sal c0 e0 p0 p1 p2 s.heap.size ) (cwV 3 hts (lw_goodApp (lw_4 q856 q857 q858 q1) q859) rfl rfl rfl (by decide +kernel) ⟨Nat.le_of_ble_eq_true rfl, Nat.le_of_ble_eq_true rfl⟩) ⟨PR.blind, va_recv hK hP (ci := 12) (q0 := 0) rfl rfl, PR.of hPc hKc hG hS hA [.ref h0, .int p0, .int p1, .int p2]⟩ rfl rfl hl.1 rfl (lv_room (Nat.le_of_ble_eq_true rfl)) dL_use_7 ⟨Nat.le_of_ble_eq_true rfl, Nat.le_of_ble_eq_true rfl⟩) hS (fun q h9 h => zN.not h9 h) (fun q h => hA q (Nat.le_trans hS.1 h)) (fun q h9 h => zN.not h9 h) (fun E ce q9 ux t_4 H_1 locs ht hvm px_5 hE hz1 hk1 hS hq9 hv9 hcl9 => ?_) (fun r_2 u t_4 H_1 locs ht hvm hw_3 hB hz1 hk1 hS => ?_)
  · subst hE
    have hP := hP.grown hk1
    refine vx_widen (k := 1) (n := 6) (Nat.le_of_ble_eq_true rfl) (Nat.le_of_ble_eq_true rfl) ?_
    refine vx_catch (name := "java/lang/IndexOutOfBoundsException") hown [] ⟨0, 12, 15, 21⟩ [⟨0, 12, 19, 13⟩, ⟨0, 12, 23, 50⟩, ⟨0, 12, 27, 27⟩, ⟨0, 12, 31, 15⟩] (htab.trans rfl) (fun z9 h9 => absurd h9 List.not_mem_nil) (by decide) (by decide) (hg _ q518) (va_Nw.use rfl (hG.2.2.2.2.1 _ qf552)) hq9 hv9 hcl9 ?_
    refine lv_astore (lv' := [(5, .ref q9), (0, .ref h0), (1, .int p0), (2, .int p1), (3, .int p2), (4, .ref o0)]) hx hb dL_use_15 hl (by decide) rfl (fun ls hl => ?_)
    refine lv_iconst (v := 1) hx hb dL_use_17 (by decide) ?_
    refine W.widen (k := 1) (n := 6) (Nat.le_of_ble_eq_true rfl) (Nat.le_of_ble_eq_true rfl) ?_
    have hP9 := hP.sub (ws' := [(o0, .inl (cyL, 1, .inr (.inl (fo))))]) [2] rfl
    have hD9 := hD.sub (ws' := [(o0, .inl (cyL, 1, .inr (.inl (fo))))]) [2] (by decide) rfl
    have hK9 := hK.sub (tys' := [(cyL, .long)]) [0] rfl
    exact W.iret (v := 1) hx hb hr (fun t ht hW => ⟨⟨1, (), rfl, rfl, QW.of hP9 hK9 hD9 ht hW.alike⟩, hS.F ht⟩) hS.2.2 dL_use_18
  exact hw_3.elim

abbrev wz_L_cancel : List Cond := .codeWith yL_cancel cL_cancel 7 (Option.some Jvm.ClassFile.FieldType.int) [((0 : Nat), (21 : Nat), (24 : Nat), (21 : Nat)), ((0 : Nat), (21 : Nat), (28 : Nat), (50 : Nat)), ((0 : Nat), (21 : Nat), (32 : Nat), (27 : Nat))] :: lw_good
set_option maxHeartbeats 4000000 in
set_option maxRecDepth 100000 in
/-- the law on cancel of a fresh object: it throws -/
theorem k_L_cancel (l : Launch) (hfl : l.stackTraces = false) (G : va_G) (z : Nat) (h0 : Nat) (a1 : Nat) (a2 : Nat) (a3 : Nat) (a4 : Nat) (a5 : Nat) (a6 : Nat) (a7 : Nat) (a8 : Nat) (tol : Int32) (sal : Int32) (c0 : Int32) (e0 : Nat) (p0 : Int32) (p1 : Int32) (p2 : Int32) (p3 : Int32) (o0 : Nat) (cyL : ClassId) (fo : Nat → Int64) (sz : Nat)  : Met l yL_cancel wz_L_cancel ({ frames := 8, cells := 1, slots := 6, locals := 128 }) (va_Pc [.ref h0, .int p0, .int p1, .int p2, .int p3, .ref o0] (PW G z [(h0, .inr (12, [.ref a1, .ref a2, .ref a3, .ref a4, .ref a5, .ref a6, .ref a7, .ref a8, .int tol, .int sal])), (a4, .inr (3, [.int c0, .ref e0, .int 0])), (o0, .inl (cyL, 1, .inr (.inl (fo))))] [(cyL, .long)] sz)) (va_Qi (fun (r : Int32) (_ : Unit) => r = 1) (fun (_ : Unit) (t : State) => QW G [(o0, .inl (cyL, 1, .inr (.inl (fo))))] [(cyL, .long)] (va_A [(h0, .inr (12, [.ref a1, .ref a2, .ref a3, .ref a4, .ref a5, .ref a6, .ref a7, .ref a8, .int tol, .int sal])), (a4, .inr (3, [.int c0, .ref e0, .int 0])), (o0, .inl (cyL, 1, .inr (.inl (fo))))] sz) t) (va_A [(h0, .inr (12, [.ref a1, .ref a2, .ref a3, .ref a4, .ref a5, .ref a6, .ref a7, .ref a8, .int tol, .int sal])), (a4, .inr (3, [.int c0, .ref e0, .int 0])), (o0, .inl (cyL, 1, .inr (.inl (fo))))] sz)) 1 6 (va_A [(h0, .inr (12, [.ref a1, .ref a2, .ref a3, .ref a4, .ref a5, .ref a6, .ref a7, .ref a8, .int tol, .int sal])), (a4, .inr (3, [.int c0, .ref e0, .int 0])), (o0, .inl (cyL, 1, .inr (.inl (fo))))] sz) := by
  refine va_MetW (cc := cL_cancel) (maxL := 7) (ret := (Option.some Jvm.ClassFile.FieldType.int)) (hh := [((0 : Nat), (21 : Nat), (24 : Nat), (21 : Nat)), ((0 : Nat), (21 : Nat), (28 : Nat), (50 : Nat)), ((0 : Nat), (21 : Nat), (32 : Nat), (27 : Nat))]) (by decide) rfl ?_
  intro p e s m args below meth c s₁ B hml hv
  obtain ⟨rfl, rfl, hP, hK, hD0, hG⟩ := hv
  have hx := B.exec
  have hb := B.bytes
  have hr := B.returns
  have hts := atoms_spec (ws := wz_L_cancel) B.pre
  have htab := vx_table (x := yL_cancel) B (hts _ List.mem_cons_self)
  have hg : ∀ w ∈ lw_good, w.before _ s = true := fun w h => hts w (List.mem_cons_of_mem _ h)
  have hown : s.vm.findClass RL = some m.cls := findClass_of_methodNamed B.named
  have hlocks := B.notSynchronized
  have hD := hD0.self (sz := s.heap.size)
  generalize hAe : va_A [(h0, .inr (12, [.ref a1, .ref a2, .ref a3, .ref a4, .ref a5, .ref a6, .ref a7, .ref a8, .int tol, .int sal])), (a4, .inr (3, [.int c0, .ref e0, .int 0])), (o0, .inl (cyL, 1, .inr (.inl (fo))))] s.heap.size = A at hD hG ⊢
  have hA : ∀ q : Nat, s.heap.size ≤ q → A q := fun q h => by rw [← hAe]; exact Or.inr h
  have hS : va_S A s.heap s.heap [] := va_S.rf
  have hl := lv_entry ([.ref h0, .int p0, .int p1, .int p2, .int p3, .ref o0]) (n := 7) (Nat.le_of_ble_eq_true rfl)
  rw [lg_entry_eq]
  generalize (lg_sl ([.ref h0, .int p0, .int p1, .int p2, .int p3, .ref o0]) ++ List.replicate (7 - (lg_sl ([.ref h0, .int p0, .int p1, .int p2, .int p3, .ref o0])).length) Slot.unset).toArray = ls at hl ⊢
  have hl : lv_has ls 7 [(0, .ref h0), (1, .int p0), (2, .int p1), (3, .int p2), (4, .int p3), (5, .ref o0)] := hl
  refine lv_aload hx hb dL_cancel_0 (lv_at hl 5 rfl) ?_
  refine lv_iconst (v := 0) hx hb dL_cancel_2 (by decide) ?_
  refine lv_aload_n hx hb dL_cancel_3 rfl (lv_at hl 0 rfl) ?_
  refine lv_iload_n hx hb dL_cancel_4 rfl (lv_at hl 1 rfl) ?_
  refine lv_iload_n hx hb dL_cancel_5 rfl (lv_at hl 2 rfl) ?_
  refine lv_iload_n hx hb dL_cancel_6 rfl (lv_at hl 3 rfl) ?_
  refine lv_iload hx hb dL_cancel_7 (lv_at hl 4 rfl) ?_
  have hPc := hP.sub (ws' := [(h0, .inr (12, [.ref a1, .ref a2, .ref a3, .ref a4, .ref a5, .ref a6, .ref a7, .ref a8, .int tol, .int sal])), (a4, .inr (3, [.int c0, .ref e0, .int 0]))]) [0, 1] rfl
  have hKc := hK.sub (tys' := []) [] rfl
  refine vx_calli (vx_runV (As := [.int p0, .int p1, .int p2, .int p3]) (rest := [.int 0, .ref o0]) ⟨hx, hb, hml, hown, hts⟩ (k_X8_cancel l hfl G z h0 a1 a2 a3 a4 a5 a6 a7 a8 tol sal c0 e0 p0 p1 p2 p3 s.heap.size ) (cwV 4 hts (lw_goodApp (lw_4 q882 q883 q884 q1) q885) rfl rfl rfl (by decide +kernel) ⟨Nat.le_of_ble_eq_true rfl, Nat.le_of_ble_eq_true rfl⟩) ⟨PR.blind, va_recv hK hP (ci := 12) (q0 := 0) rfl rfl, PR.of hPc hKc hG hS hA [.ref h0, .int p0, .int p1, .int p2, .int p3]⟩ rfl rfl hl.1 rfl (lv_room (Nat.le_of_ble_eq_true rfl)) dL_cancel_9 ⟨Nat.le_of_ble_eq_true rfl, Nat.le_of_ble_eq_true rfl⟩) hS (fun q h9 h => zN.not h9 h) (fun q h => hA q (Nat.le_trans hS.1 h)) (fun q h9 h => zN.not h9 h) (fun E ce q9 ux t_4 H_1 locs ht hvm px_5 hE hz1 hk1 hS hq9 hv9 hcl9 => ?_) (fun r_2 u t_4 H_1 locs ht hvm hw_3 hB hz1 hk1 hS => ?_)
  · subst hE
    have hP := hP.grown hk1
    refine vx_widen (k := 1) (n := 6) (Nat.le_of_ble_eq_true rfl) (Nat.le_of_ble_eq_true rfl) ?_
    refine vx_catch (name := "java/lang/IndexOutOfBoundsException") hown [] ⟨0, 21, 24, 21⟩ [⟨0, 21, 28, 50⟩, ⟨0, 21, 32, 27⟩] (htab.trans rfl) (fun z9 h9 => absurd h9 List.not_mem_nil) (by decide) (by decide) (hg _ q518) (va_Nw.use rfl (hG.2.2.2.2.1 _ qf552)) hq9 hv9 hcl9 ?_
    refine lv_astore (lv' := [(6, .ref q9), (0, .ref h0), (1, .int p0), (2, .int p1), (3, .int p2), (4, .int p3), (5, .ref o0)]) hx hb dL_cancel_24 hl (by decide) rfl (fun ls hl => ?_)
    refine lv_iconst (v := 1) hx hb dL_cancel_26 (by decide) ?_
    refine W.widen (k := 1) (n := 6) (Nat.le_of_ble_eq_true rfl) (Nat.le_of_ble_eq_true rfl) ?_
    have hP9 := hP.sub (ws' := [(o0, .inl (cyL, 1, .inr (.inl (fo))))]) [2] rfl
    have hD9 := hD.sub (ws' := [(o0, .inl (cyL, 1, .inr (.inl (fo))))]) [2] (by decide) rfl
    have hK9 := hK.sub (tys' := [(cyL, .long)]) [0] rfl
    exact W.iret (v := 1) hx hb hr (fun t ht hW => ⟨⟨1, (), rfl, rfl, QW.of hP9 hK9 hD9 ht hW.alike⟩, hS.F ht⟩) hS.2.2 dL_cancel_27
  exact hw_3.elim

abbrev wz_L_cancels : List Cond := .codeWith yL_cancels cL_cancels 5 (Option.some Jvm.ClassFile.FieldType.int) [((0 : Nat), (10 : Nat), (13 : Nat), (21 : Nat)), ((0 : Nat), (10 : Nat), (17 : Nat), (50 : Nat))] :: lw_good
set_option maxHeartbeats 4000000 in
set_option maxRecDepth 100000 in
/-- the law on cancels of a fresh object: it throws -/
theorem k_L_cancels (l : Launch) (hfl : l.stackTraces = false) (G : va_G) (z : Nat) (h0 : Nat) (a1 : Nat) (a2 : Nat) (a3 : Nat) (a4 : Nat) (a5 : Nat) (a6 : Nat) (a7 : Nat) (a8 : Nat) (tol : Int32) (sal : Int32) (c0 : Int32) (e0 : Nat) (p0 : Int32) (p1 : Int32) (o0 : Nat) (cyL : ClassId) (fo : Nat → Int64) (sz : Nat)  : Met l yL_cancels wz_L_cancels ({ frames := 8, cells := 1, slots := 6, locals := 128 }) (va_Pc [.ref h0, .int p0, .int p1, .ref o0] (PW G z [(h0, .inr (12, [.ref a1, .ref a2, .ref a3, .ref a4, .ref a5, .ref a6, .ref a7, .ref a8, .int tol, .int sal])), (a4, .inr (3, [.int c0, .ref e0, .int 0])), (o0, .inl (cyL, 1, .inr (.inl (fo))))] [(cyL, .long)] sz)) (va_Qi (fun (r : Int32) (_ : Unit) => r = 1) (fun (_ : Unit) (t : State) => QW G [(o0, .inl (cyL, 1, .inr (.inl (fo))))] [(cyL, .long)] (va_A [(h0, .inr (12, [.ref a1, .ref a2, .ref a3, .ref a4, .ref a5, .ref a6, .ref a7, .ref a8, .int tol, .int sal])), (a4, .inr (3, [.int c0, .ref e0, .int 0])), (o0, .inl (cyL, 1, .inr (.inl (fo))))] sz) t) (va_A [(h0, .inr (12, [.ref a1, .ref a2, .ref a3, .ref a4, .ref a5, .ref a6, .ref a7, .ref a8, .int tol, .int sal])), (a4, .inr (3, [.int c0, .ref e0, .int 0])), (o0, .inl (cyL, 1, .inr (.inl (fo))))] sz)) 1 6 (va_A [(h0, .inr (12, [.ref a1, .ref a2, .ref a3, .ref a4, .ref a5, .ref a6, .ref a7, .ref a8, .int tol, .int sal])), (a4, .inr (3, [.int c0, .ref e0, .int 0])), (o0, .inl (cyL, 1, .inr (.inl (fo))))] sz) := by
  refine va_MetW (cc := cL_cancels) (maxL := 5) (ret := (Option.some Jvm.ClassFile.FieldType.int)) (hh := [((0 : Nat), (10 : Nat), (13 : Nat), (21 : Nat)), ((0 : Nat), (10 : Nat), (17 : Nat), (50 : Nat))]) (by decide) rfl ?_
  intro p e s m args below meth c s₁ B hml hv
  obtain ⟨rfl, rfl, hP, hK, hD0, hG⟩ := hv
  have hx := B.exec
  have hb := B.bytes
  have hr := B.returns
  have hts := atoms_spec (ws := wz_L_cancels) B.pre
  have htab := vx_table (x := yL_cancels) B (hts _ List.mem_cons_self)
  have hg : ∀ w ∈ lw_good, w.before _ s = true := fun w h => hts w (List.mem_cons_of_mem _ h)
  have hown : s.vm.findClass RL = some m.cls := findClass_of_methodNamed B.named
  have hlocks := B.notSynchronized
  have hD := hD0.self (sz := s.heap.size)
  generalize hAe : va_A [(h0, .inr (12, [.ref a1, .ref a2, .ref a3, .ref a4, .ref a5, .ref a6, .ref a7, .ref a8, .int tol, .int sal])), (a4, .inr (3, [.int c0, .ref e0, .int 0])), (o0, .inl (cyL, 1, .inr (.inl (fo))))] s.heap.size = A at hD hG ⊢
  have hA : ∀ q : Nat, s.heap.size ≤ q → A q := fun q h => by rw [← hAe]; exact Or.inr h
  have hS : va_S A s.heap s.heap [] := va_S.rf
  have hl := lv_entry ([.ref h0, .int p0, .int p1, .ref o0]) (n := 5) (Nat.le_of_ble_eq_true rfl)
  rw [lg_entry_eq]
  generalize (lg_sl ([.ref h0, .int p0, .int p1, .ref o0]) ++ List.replicate (5 - (lg_sl ([.ref h0, .int p0, .int p1, .ref o0])).length) Slot.unset).toArray = ls at hl ⊢
  have hl : lv_has ls 5 [(0, .ref h0), (1, .int p0), (2, .int p1), (3, .ref o0)] := hl
  refine lv_aload_n hx hb dL_cancels_0 rfl (lv_at hl 3 rfl) ?_
  refine lv_iconst (v := 0) hx hb dL_cancels_1 (by decide) ?_
  refine lv_aload_n hx hb dL_cancels_2 rfl (lv_at hl 0 rfl) ?_
  refine lv_iload_n hx hb dL_cancels_3 rfl (lv_at hl 1 rfl) ?_
  refine lv_iload_n hx hb dL_cancels_4 rfl (lv_at hl 2 rfl) ?_
  have hPc := hP.sub (ws' := [(h0, .inr (12, [.ref a1, .ref a2, .ref a3, .ref a4, .ref a5, .ref a6, .ref a7, .ref a8, .int tol, .int sal])), (a4, .inr (3, [.int c0, .ref e0, .int 0]))]) [0, 1] rfl
  have hKc := hK.sub (tys' := []) [] rfl
  refine vx_calli (vx_runV (As := [.int p0, .int p1]) (rest := [.int 0, .ref o0]) ⟨hx, hb, hml, hown, hts⟩ (k_X8_cancels l hfl G z h0 a1 a2 a3 a4 a5 a6 a7 a8 tol sal c0 e0 p0 p1 s.heap.size ) (cwV 2 hts (lw_goodApp (lw_4 q903 q904 q905 q1) q906) rfl rfl rfl (by decide +kernel) ⟨Nat.le_of_ble_eq_true rfl, Nat.le_of_ble_eq_true rfl⟩) ⟨PR.blind, va_recv hK hP (ci := 12) (q0 := 0) rfl rfl, PR.of hPc hKc hG hS hA [.ref h0, .int p0, .int p1]⟩ rfl rfl hl.1 rfl (lv_room (Nat.le_of_ble_eq_true rfl)) dL_cancels_5 ⟨Nat.le_of_ble_eq_true rfl, Nat.le_of_ble_eq_true rfl⟩) hS (fun q h9 h => zN.not h9 h) (fun q h => hA q (Nat.le_trans hS.1 h)) (fun q h9 h => zN.not h9 h) (fun E ce q9 ux t_4 H_1 locs ht hvm px_5 hE hz1 hk1 hS hq9 hv9 hcl9 => ?_) (fun r_2 u t_4 H_1 locs ht hvm hw_3 hB hz1 hk1 hS => ?_)
  · subst hE
    have hP := hP.grown hk1
    refine vx_widen (k := 1) (n := 6) (Nat.le_of_ble_eq_true rfl) (Nat.le_of_ble_eq_true rfl) ?_
    refine vx_catch (name := "java/lang/IndexOutOfBoundsException") hown [] ⟨0, 10, 13, 21⟩ [⟨0, 10, 17, 50⟩] (htab.trans rfl) (fun z9 h9 => absurd h9 List.not_mem_nil) (by decide) (by decide) (hg _ q518) (va_Nw.use rfl (hG.2.2.2.2.1 _ qf552)) hq9 hv9 hcl9 ?_
    refine lv_astore (lv' := [(4, .ref q9), (0, .ref h0), (1, .int p0), (2, .int p1), (3, .ref o0)]) hx hb dL_cancels_13 hl (by decide) rfl (fun ls hl => ?_)
    refine lv_iconst (v := 1) hx hb dL_cancels_15 (by decide) ?_
    refine W.widen (k := 1) (n := 6) (Nat.le_of_ble_eq_true rfl) (Nat.le_of_ble_eq_true rfl) ?_
    have hP9 := hP.sub (ws' := [(o0, .inl (cyL, 1, .inr (.inl (fo))))]) [2] rfl
    have hD9 := hD.sub (ws' := [(o0, .inl (cyL, 1, .inr (.inl (fo))))]) [2] (by decide) rfl
    have hK9 := hK.sub (tys' := [(cyL, .long)]) [0] rfl
    exact W.iret (v := 1) hx hb hr (fun t ht hW => ⟨⟨1, (), rfl, rfl, QW.of hP9 hK9 hD9 ht hW.alike⟩, hS.F ht⟩) hS.2.2 dL_cancels_16
  exact hw_3.elim

abbrev wz_L_leafOf : List Cond := .codeWith yL_leafOf cL_leafOf 6 (Option.some Jvm.ClassFile.FieldType.int) [((0 : Nat), (12 : Nat), (15 : Nat), (21 : Nat)), ((0 : Nat), (12 : Nat), (19 : Nat), (50 : Nat))] :: lw_good
set_option maxHeartbeats 4000000 in
set_option maxRecDepth 100000 in
/-- the law on leafOf of a fresh object: it throws -/
theorem k_L_leafOf (l : Launch) (hfl : l.stackTraces = false) (G : va_G) (z : Nat) (h0 : Nat) (a1 : Nat) (a2 : Nat) (a3 : Nat) (a4 : Nat) (a5 : Nat) (a6 : Nat) (a7 : Nat) (a8 : Nat) (tol : Int32) (sal : Int32) (c0 : Int32) (e0 : Nat) (p0 : Int32) (p1 : Int32) (p2 : Int32) (o0 : Nat) (cyL : ClassId) (fo : Nat → Int64) (sz : Nat)  : Met l yL_leafOf wz_L_leafOf ({ frames := 8, cells := 1, slots := 6, locals := 127 }) (va_Pc [.ref h0, .int p0, .int p1, .int p2, .ref o0] (PW G z [(h0, .inr (12, [.ref a1, .ref a2, .ref a3, .ref a4, .ref a5, .ref a6, .ref a7, .ref a8, .int tol, .int sal])), (a4, .inr (3, [.int c0, .ref e0, .int 0])), (o0, .inl (cyL, 1, .inr (.inl (fo))))] [(cyL, .long)] sz)) (va_Qi (fun (r : Int32) (_ : Unit) => r = 1) (fun (_ : Unit) (t : State) => QW G [(o0, .inl (cyL, 1, .inr (.inl (fo))))] [(cyL, .long)] (va_A [(h0, .inr (12, [.ref a1, .ref a2, .ref a3, .ref a4, .ref a5, .ref a6, .ref a7, .ref a8, .int tol, .int sal])), (a4, .inr (3, [.int c0, .ref e0, .int 0])), (o0, .inl (cyL, 1, .inr (.inl (fo))))] sz) t) (va_A [(h0, .inr (12, [.ref a1, .ref a2, .ref a3, .ref a4, .ref a5, .ref a6, .ref a7, .ref a8, .int tol, .int sal])), (a4, .inr (3, [.int c0, .ref e0, .int 0])), (o0, .inl (cyL, 1, .inr (.inl (fo))))] sz)) 1 6 (va_A [(h0, .inr (12, [.ref a1, .ref a2, .ref a3, .ref a4, .ref a5, .ref a6, .ref a7, .ref a8, .int tol, .int sal])), (a4, .inr (3, [.int c0, .ref e0, .int 0])), (o0, .inl (cyL, 1, .inr (.inl (fo))))] sz) := by
  refine va_MetW (cc := cL_leafOf) (maxL := 6) (ret := (Option.some Jvm.ClassFile.FieldType.int)) (hh := [((0 : Nat), (12 : Nat), (15 : Nat), (21 : Nat)), ((0 : Nat), (12 : Nat), (19 : Nat), (50 : Nat))]) (by decide) rfl ?_
  intro p e s m args below meth c s₁ B hml hv
  obtain ⟨rfl, rfl, hP, hK, hD0, hG⟩ := hv
  have hx := B.exec
  have hb := B.bytes
  have hr := B.returns
  have hts := atoms_spec (ws := wz_L_leafOf) B.pre
  have htab := vx_table (x := yL_leafOf) B (hts _ List.mem_cons_self)
  have hg : ∀ w ∈ lw_good, w.before _ s = true := fun w h => hts w (List.mem_cons_of_mem _ h)
  have hown : s.vm.findClass RL = some m.cls := findClass_of_methodNamed B.named
  have hlocks := B.notSynchronized
  have hD := hD0.self (sz := s.heap.size)
  generalize hAe : va_A [(h0, .inr (12, [.ref a1, .ref a2, .ref a3, .ref a4, .ref a5, .ref a6, .ref a7, .ref a8, .int tol, .int sal])), (a4, .inr (3, [.int c0, .ref e0, .int 0])), (o0, .inl (cyL, 1, .inr (.inl (fo))))] s.heap.size = A at hD hG ⊢
  have hA : ∀ q : Nat, s.heap.size ≤ q → A q := fun q h => by rw [← hAe]; exact Or.inr h
  have hS : va_S A s.heap s.heap [] := va_S.rf
  have hl := lv_entry ([.ref h0, .int p0, .int p1, .int p2, .ref o0]) (n := 6) (Nat.le_of_ble_eq_true rfl)
  rw [lg_entry_eq]
  generalize (lg_sl ([.ref h0, .int p0, .int p1, .int p2, .ref o0]) ++ List.replicate (6 - (lg_sl ([.ref h0, .int p0, .int p1, .int p2, .ref o0])).length) Slot.unset).toArray = ls at hl ⊢
  have hl : lv_has ls 6 [(0, .ref h0), (1, .int p0), (2, .int p1), (3, .int p2), (4, .ref o0)] := hl
  refine lv_aload hx hb dL_leafOf_0 (lv_at hl 4 rfl) ?_
  refine lv_iconst (v := 0) hx hb dL_leafOf_2 (by decide) ?_
  refine lv_aload_n hx hb dL_leafOf_3 rfl (lv_at hl 0 rfl) ?_
  refine lv_iload_n hx hb dL_leafOf_4 rfl (lv_at hl 1 rfl) ?_
  refine lv_iload_n hx hb dL_leafOf_5 rfl (lv_at hl 2 rfl) ?_
  refine lv_iload_n hx hb dL_leafOf_6 rfl (lv_at hl 3 rfl) ?_
  have hPc := hP.sub (ws' := [(h0, .inr (12, [.ref a1, .ref a2, .ref a3, .ref a4, .ref a5, .ref a6, .ref a7, .ref a8, .int tol, .int sal])), (a4, .inr (3, [.int c0, .ref e0, .int 0]))]) [0, 1] rfl
  have hKc := hK.sub (tys' := []) [] rfl
  refine vx_calli (vx_runV (As := [.int p0, .int p1, .int p2]) (rest := [.int 0, .ref o0]) ⟨hx, hb, hml, hown, hts⟩ (k_X8_leafOf l hfl G z h0 a1 a2 a3 a4 a5 a6 a7 a8 tol sal c0 e0 p0 p1 p2 s.heap.size ) (cwV 3 hts (lw_goodApp (lw_4 q922 q923 q924 q1) q925) rfl rfl rfl (by decide +kernel) ⟨Nat.le_of_ble_eq_true rfl, Nat.le_of_ble_eq_true rfl⟩) ⟨PR.blind, va_recv hK hP (ci := 12) (q0 := 0) rfl rfl, PR.of hPc hKc hG hS hA [.ref h0, .int p0, .int p1, .int p2]⟩ rfl rfl hl.1 rfl (lv_room (Nat.le_of_ble_eq_true rfl)) dL_leafOf_7 ⟨Nat.le_of_ble_eq_true rfl, Nat.le_of_ble_eq_true rfl⟩) hS (fun q h9 h => zN.not h9 h) (fun q h => hA q (Nat.le_trans hS.1 h)) (fun q h9 h => zN.not h9 h) (fun E ce q9 ux t_4 H_1 locs ht hvm px_5 hE hz1 hk1 hS hq9 hv9 hcl9 => ?_) (fun r_2 u t_4 H_1 locs ht hvm hw_3 hB hz1 hk1 hS => ?_)
  · subst hE
    have hP := hP.grown hk1
    refine vx_widen (k := 1) (n := 6) (Nat.le_of_ble_eq_true rfl) (Nat.le_of_ble_eq_true rfl) ?_
    refine vx_catch (name := "java/lang/IndexOutOfBoundsException") hown [] ⟨0, 12, 15, 21⟩ [⟨0, 12, 19, 50⟩] (htab.trans rfl) (fun z9 h9 => absurd h9 List.not_mem_nil) (by decide) (by decide) (hg _ q518) (va_Nw.use rfl (hG.2.2.2.2.1 _ qf552)) hq9 hv9 hcl9 ?_
    refine lv_astore (lv' := [(5, .ref q9), (0, .ref h0), (1, .int p0), (2, .int p1), (3, .int p2), (4, .ref o0)]) hx hb dL_leafOf_15 hl (by decide) rfl (fun ls hl => ?_)
    refine lv_iconst (v := 1) hx hb dL_leafOf_17 (by decide) ?_
    refine W.widen (k := 1) (n := 6) (Nat.le_of_ble_eq_true rfl) (Nat.le_of_ble_eq_true rfl) ?_
    have hP9 := hP.sub (ws' := [(o0, .inl (cyL, 1, .inr (.inl (fo))))]) [2] rfl
    have hD9 := hD.sub (ws' := [(o0, .inl (cyL, 1, .inr (.inl (fo))))]) [2] (by decide) rfl
    have hK9 := hK.sub (tys' := [(cyL, .long)]) [0] rfl
    exact W.iret (v := 1) hx hb hr (fun t ht hW => ⟨⟨1, (), rfl, rfl, QW.of hP9 hK9 hD9 ht hW.alike⟩, hS.F ht⟩) hS.2.2 dL_leafOf_18
  exact hw_3.elim

abbrev wz_L_markIn : List Cond := .codeWith yL_markIn cL_markIn 5 (Option.some Jvm.ClassFile.FieldType.int) [((0 : Nat), (10 : Nat), (13 : Nat), (21 : Nat)), ((0 : Nat), (10 : Nat), (17 : Nat), (50 : Nat))] :: lw_good
set_option maxHeartbeats 4000000 in
set_option maxRecDepth 100000 in
/-- the law on markIn of a fresh object: it throws -/
theorem k_L_markIn (l : Launch) (hfl : l.stackTraces = false) (G : va_G) (z : Nat) (h0 : Nat) (a1 : Nat) (a2 : Nat) (a3 : Nat) (a4 : Nat) (a5 : Nat) (a6 : Nat) (a7 : Nat) (a8 : Nat) (tol : Int32) (sal : Int32) (c0 : Int32) (e0 : Nat) (p0 : Int32) (p1 : Int32) (o0 : Nat) (cyL : ClassId) (fo : Nat → Int64) (sz : Nat)  : Met l yL_markIn wz_L_markIn ({ frames := 8, cells := 1, slots := 6, locals := 126 }) (va_Pc [.ref h0, .int p0, .int p1, .ref o0] (PW G z [(h0, .inr (12, [.ref a1, .ref a2, .ref a3, .ref a4, .ref a5, .ref a6, .ref a7, .ref a8, .int tol, .int sal])), (a4, .inr (3, [.int c0, .ref e0, .int 0])), (o0, .inl (cyL, 1, .inr (.inl (fo))))] [(cyL, .long)] sz)) (va_Qi (fun (r : Int32) (_ : Unit) => r = 1) (fun (_ : Unit) (t : State) => QW G [(o0, .inl (cyL, 1, .inr (.inl (fo))))] [(cyL, .long)] (va_A [(h0, .inr (12, [.ref a1, .ref a2, .ref a3, .ref a4, .ref a5, .ref a6, .ref a7, .ref a8, .int tol, .int sal])), (a4, .inr (3, [.int c0, .ref e0, .int 0])), (o0, .inl (cyL, 1, .inr (.inl (fo))))] sz) t) (va_A [(h0, .inr (12, [.ref a1, .ref a2, .ref a3, .ref a4, .ref a5, .ref a6, .ref a7, .ref a8, .int tol, .int sal])), (a4, .inr (3, [.int c0, .ref e0, .int 0])), (o0, .inl (cyL, 1, .inr (.inl (fo))))] sz)) 1 6 (va_A [(h0, .inr (12, [.ref a1, .ref a2, .ref a3, .ref a4, .ref a5, .ref a6, .ref a7, .ref a8, .int tol, .int sal])), (a4, .inr (3, [.int c0, .ref e0, .int 0])), (o0, .inl (cyL, 1, .inr (.inl (fo))))] sz) := by
  refine va_MetW (cc := cL_markIn) (maxL := 5) (ret := (Option.some Jvm.ClassFile.FieldType.int)) (hh := [((0 : Nat), (10 : Nat), (13 : Nat), (21 : Nat)), ((0 : Nat), (10 : Nat), (17 : Nat), (50 : Nat))]) (by decide) rfl ?_
  intro p e s m args below meth c s₁ B hml hv
  obtain ⟨rfl, rfl, hP, hK, hD0, hG⟩ := hv
  have hx := B.exec
  have hb := B.bytes
  have hr := B.returns
  have hts := atoms_spec (ws := wz_L_markIn) B.pre
  have htab := vx_table (x := yL_markIn) B (hts _ List.mem_cons_self)
  have hg : ∀ w ∈ lw_good, w.before _ s = true := fun w h => hts w (List.mem_cons_of_mem _ h)
  have hown : s.vm.findClass RL = some m.cls := findClass_of_methodNamed B.named
  have hlocks := B.notSynchronized
  have hD := hD0.self (sz := s.heap.size)
  generalize hAe : va_A [(h0, .inr (12, [.ref a1, .ref a2, .ref a3, .ref a4, .ref a5, .ref a6, .ref a7, .ref a8, .int tol, .int sal])), (a4, .inr (3, [.int c0, .ref e0, .int 0])), (o0, .inl (cyL, 1, .inr (.inl (fo))))] s.heap.size = A at hD hG ⊢
  have hA : ∀ q : Nat, s.heap.size ≤ q → A q := fun q h => by rw [← hAe]; exact Or.inr h
  have hS : va_S A s.heap s.heap [] := va_S.rf
  have hl := lv_entry ([.ref h0, .int p0, .int p1, .ref o0]) (n := 5) (Nat.le_of_ble_eq_true rfl)
  rw [lg_entry_eq]
  generalize (lg_sl ([.ref h0, .int p0, .int p1, .ref o0]) ++ List.replicate (5 - (lg_sl ([.ref h0, .int p0, .int p1, .ref o0])).length) Slot.unset).toArray = ls at hl ⊢
  have hl : lv_has ls 5 [(0, .ref h0), (1, .int p0), (2, .int p1), (3, .ref o0)] := hl
  refine lv_aload_n hx hb dL_markIn_0 rfl (lv_at hl 3 rfl) ?_
  refine lv_iconst (v := 0) hx hb dL_markIn_1 (by decide) ?_
  refine lv_aload_n hx hb dL_markIn_2 rfl (lv_at hl 0 rfl) ?_
  refine lv_iload_n hx hb dL_markIn_3 rfl (lv_at hl 1 rfl) ?_
  refine lv_iload_n hx hb dL_markIn_4 rfl (lv_at hl 2 rfl) ?_
  have hPc := hP.sub (ws' := [(h0, .inr (12, [.ref a1, .ref a2, .ref a3, .ref a4, .ref a5, .ref a6, .ref a7, .ref a8, .int tol, .int sal])), (a4, .inr (3, [.int c0, .ref e0, .int 0]))]) [0, 1] rfl
  have hKc := hK.sub (tys' := []) [] rfl
  refine vx_calli (vx_runV (As := [.int p0, .int p1]) (rest := [.int 0, .ref o0]) ⟨hx, hb, hml, hown, hts⟩ (k_X8_markIn l hfl G z h0 a1 a2 a3 a4 a5 a6 a7 a8 tol sal c0 e0 p0 p1 s.heap.size ) (cwV 2 hts (lw_goodApp (lw_4 q929 q930 q931 q1) q932) rfl rfl rfl (by decide +kernel) ⟨Nat.le_of_ble_eq_true rfl, Nat.le_of_ble_eq_true rfl⟩) ⟨PR.blind, va_recv hK hP (ci := 12) (q0 := 0) rfl rfl, PR.of hPc hKc hG hS hA [.ref h0, .int p0, .int p1]⟩ rfl rfl hl.1 rfl (lv_room (Nat.le_of_ble_eq_true rfl)) dL_markIn_5 ⟨Nat.le_of_ble_eq_true rfl, Nat.le_of_ble_eq_true rfl⟩) hS (fun q h9 h => zN.not h9 h) (fun q h => hA q (Nat.le_trans hS.1 h)) (fun q h9 h => zN.not h9 h) (fun E ce q9 ux t_4 H_1 locs ht hvm px_5 hE hz1 hk1 hS hq9 hv9 hcl9 => ?_) (fun r_2 u t_4 H_1 locs ht hvm hw_3 hB hz1 hk1 hS => ?_)
  · subst hE
    have hP := hP.grown hk1
    refine vx_widen (k := 1) (n := 6) (Nat.le_of_ble_eq_true rfl) (Nat.le_of_ble_eq_true rfl) ?_
    refine vx_catch (name := "java/lang/IndexOutOfBoundsException") hown [] ⟨0, 10, 13, 21⟩ [⟨0, 10, 17, 50⟩] (htab.trans rfl) (fun z9 h9 => absurd h9 List.not_mem_nil) (by decide) (by decide) (hg _ q518) (va_Nw.use rfl (hG.2.2.2.2.1 _ qf552)) hq9 hv9 hcl9 ?_
    refine lv_astore (lv' := [(4, .ref q9), (0, .ref h0), (1, .int p0), (2, .int p1), (3, .ref o0)]) hx hb dL_markIn_13 hl (by decide) rfl (fun ls hl => ?_)
    refine lv_iconst (v := 1) hx hb dL_markIn_15 (by decide) ?_
    refine W.widen (k := 1) (n := 6) (Nat.le_of_ble_eq_true rfl) (Nat.le_of_ble_eq_true rfl) ?_
    have hP9 := hP.sub (ws' := [(o0, .inl (cyL, 1, .inr (.inl (fo))))]) [2] rfl
    have hD9 := hD.sub (ws' := [(o0, .inl (cyL, 1, .inr (.inl (fo))))]) [2] (by decide) rfl
    have hK9 := hK.sub (tys' := [(cyL, .long)]) [0] rfl
    exact W.iret (v := 1) hx hb hr (fun t ht hW => ⟨⟨1, (), rfl, rfl, QW.of hP9 hK9 hD9 ht hW.alike⟩, hS.F ht⟩) hS.2.2 dL_markIn_16
  exact hw_3.elim

abbrev wz_L_conjugate : List Cond := .codeWith yL_conjugate cL_conjugate 5 (Option.some Jvm.ClassFile.FieldType.int) [((0 : Nat), (10 : Nat), (13 : Nat), (21 : Nat)), ((0 : Nat), (10 : Nat), (17 : Nat), (50 : Nat))] :: lw_good
set_option maxHeartbeats 4000000 in
set_option maxRecDepth 100000 in
/-- the law on conjugate of a fresh object: it throws -/
theorem k_L_conjugate (l : Launch) (hfl : l.stackTraces = false) (G : va_G) (z : Nat) (h0 : Nat) (a1 : Nat) (a2 : Nat) (a3 : Nat) (a4 : Nat) (a5 : Nat) (a6 : Nat) (a7 : Nat) (a8 : Nat) (tol : Int32) (sal : Int32) (c0 : Int32) (e0 : Nat) (p0 : Int32) (p1 : Int32) (o0 : Nat) (cyL : ClassId) (fo : Nat → Int64) (sz : Nat)  : Met l yL_conjugate wz_L_conjugate ({ frames := 8, cells := 1, slots := 6, locals := 126 }) (va_Pc [.ref h0, .int p0, .int p1, .ref o0] (PW G z [(h0, .inr (12, [.ref a1, .ref a2, .ref a3, .ref a4, .ref a5, .ref a6, .ref a7, .ref a8, .int tol, .int sal])), (a4, .inr (3, [.int c0, .ref e0, .int 0])), (o0, .inl (cyL, 1, .inr (.inl (fo))))] [(cyL, .long)] sz)) (va_Qi (fun (r : Int32) (_ : Unit) => r = 1) (fun (_ : Unit) (t : State) => QW G [(o0, .inl (cyL, 1, .inr (.inl (fo))))] [(cyL, .long)] (va_A [(h0, .inr (12, [.ref a1, .ref a2, .ref a3, .ref a4, .ref a5, .ref a6, .ref a7, .ref a8, .int tol, .int sal])), (a4, .inr (3, [.int c0, .ref e0, .int 0])), (o0, .inl (cyL, 1, .inr (.inl (fo))))] sz) t) (va_A [(h0, .inr (12, [.ref a1, .ref a2, .ref a3, .ref a4, .ref a5, .ref a6, .ref a7, .ref a8, .int tol, .int sal])), (a4, .inr (3, [.int c0, .ref e0, .int 0])), (o0, .inl (cyL, 1, .inr (.inl (fo))))] sz)) 1 6 (va_A [(h0, .inr (12, [.ref a1, .ref a2, .ref a3, .ref a4, .ref a5, .ref a6, .ref a7, .ref a8, .int tol, .int sal])), (a4, .inr (3, [.int c0, .ref e0, .int 0])), (o0, .inl (cyL, 1, .inr (.inl (fo))))] sz) := by
  refine va_MetW (cc := cL_conjugate) (maxL := 5) (ret := (Option.some Jvm.ClassFile.FieldType.int)) (hh := [((0 : Nat), (10 : Nat), (13 : Nat), (21 : Nat)), ((0 : Nat), (10 : Nat), (17 : Nat), (50 : Nat))]) (by decide) rfl ?_
  intro p e s m args below meth c s₁ B hml hv
  obtain ⟨rfl, rfl, hP, hK, hD0, hG⟩ := hv
  have hx := B.exec
  have hb := B.bytes
  have hr := B.returns
  have hts := atoms_spec (ws := wz_L_conjugate) B.pre
  have htab := vx_table (x := yL_conjugate) B (hts _ List.mem_cons_self)
  have hg : ∀ w ∈ lw_good, w.before _ s = true := fun w h => hts w (List.mem_cons_of_mem _ h)
  have hown : s.vm.findClass RL = some m.cls := findClass_of_methodNamed B.named
  have hlocks := B.notSynchronized
  have hD := hD0.self (sz := s.heap.size)
  generalize hAe : va_A [(h0, .inr (12, [.ref a1, .ref a2, .ref a3, .ref a4, .ref a5, .ref a6, .ref a7, .ref a8, .int tol, .int sal])), (a4, .inr (3, [.int c0, .ref e0, .int 0])), (o0, .inl (cyL, 1, .inr (.inl (fo))))] s.heap.size = A at hD hG ⊢
  have hA : ∀ q : Nat, s.heap.size ≤ q → A q := fun q h => by rw [← hAe]; exact Or.inr h
  have hS : va_S A s.heap s.heap [] := va_S.rf
  have hl := lv_entry ([.ref h0, .int p0, .int p1, .ref o0]) (n := 5) (Nat.le_of_ble_eq_true rfl)
  rw [lg_entry_eq]
  generalize (lg_sl ([.ref h0, .int p0, .int p1, .ref o0]) ++ List.replicate (5 - (lg_sl ([.ref h0, .int p0, .int p1, .ref o0])).length) Slot.unset).toArray = ls at hl ⊢
  have hl : lv_has ls 5 [(0, .ref h0), (1, .int p0), (2, .int p1), (3, .ref o0)] := hl
  refine lv_aload_n hx hb dL_conjugate_0 rfl (lv_at hl 3 rfl) ?_
  refine lv_iconst (v := 0) hx hb dL_conjugate_1 (by decide) ?_
  refine lv_aload_n hx hb dL_conjugate_2 rfl (lv_at hl 0 rfl) ?_
  refine lv_iload_n hx hb dL_conjugate_3 rfl (lv_at hl 1 rfl) ?_
  refine lv_iload_n hx hb dL_conjugate_4 rfl (lv_at hl 2 rfl) ?_
  have hPc := hP.sub (ws' := [(h0, .inr (12, [.ref a1, .ref a2, .ref a3, .ref a4, .ref a5, .ref a6, .ref a7, .ref a8, .int tol, .int sal])), (a4, .inr (3, [.int c0, .ref e0, .int 0]))]) [0, 1] rfl
  have hKc := hK.sub (tys' := []) [] rfl
  refine vx_calli (vx_runV (As := [.int p0, .int p1]) (rest := [.int 0, .ref o0]) ⟨hx, hb, hml, hown, hts⟩ (k_X8_conjugate l hfl G z h0 a1 a2 a3 a4 a5 a6 a7 a8 tol sal c0 e0 p0 p1 s.heap.size ) (cwV 2 hts (lw_goodApp (lw_4 q936 q937 q938 q1) q939) rfl rfl rfl (by decide +kernel) ⟨Nat.le_of_ble_eq_true rfl, Nat.le_of_ble_eq_true rfl⟩) ⟨PR.blind, va_recv hK hP (ci := 12) (q0 := 0) rfl rfl, PR.of hPc hKc hG hS hA [.ref h0, .int p0, .int p1]⟩ rfl rfl hl.1 rfl (lv_room (Nat.le_of_ble_eq_true rfl)) dL_conjugate_5 ⟨Nat.le_of_ble_eq_true rfl, Nat.le_of_ble_eq_true rfl⟩) hS (fun q h9 h => zN.not h9 h) (fun q h => hA q (Nat.le_trans hS.1 h)) (fun q h9 h => zN.not h9 h) (fun E ce q9 ux t_4 H_1 locs ht hvm px_5 hE hz1 hk1 hS hq9 hv9 hcl9 => ?_) (fun r_2 u t_4 H_1 locs ht hvm hw_3 hB hz1 hk1 hS => ?_)
  · subst hE
    have hP := hP.grown hk1
    refine vx_widen (k := 1) (n := 6) (Nat.le_of_ble_eq_true rfl) (Nat.le_of_ble_eq_true rfl) ?_
    refine vx_catch (name := "java/lang/IndexOutOfBoundsException") hown [] ⟨0, 10, 13, 21⟩ [⟨0, 10, 17, 50⟩] (htab.trans rfl) (fun z9 h9 => absurd h9 List.not_mem_nil) (by decide) (by decide) (hg _ q518) (va_Nw.use rfl (hG.2.2.2.2.1 _ qf552)) hq9 hv9 hcl9 ?_
    refine lv_astore (lv' := [(4, .ref q9), (0, .ref h0), (1, .int p0), (2, .int p1), (3, .ref o0)]) hx hb dL_conjugate_13 hl (by decide) rfl (fun ls hl => ?_)
    refine lv_iconst (v := 1) hx hb dL_conjugate_15 (by decide) ?_
    refine W.widen (k := 1) (n := 6) (Nat.le_of_ble_eq_true rfl) (Nat.le_of_ble_eq_true rfl) ?_
    have hP9 := hP.sub (ws' := [(o0, .inl (cyL, 1, .inr (.inl (fo))))]) [2] rfl
    have hD9 := hD.sub (ws' := [(o0, .inl (cyL, 1, .inr (.inl (fo))))]) [2] (by decide) rfl
    have hK9 := hK.sub (tys' := [(cyL, .long)]) [0] rfl
    exact W.iret (v := 1) hx hb hr (fun t ht hW => ⟨⟨1, (), rfl, rfl, QW.of hP9 hK9 hD9 ht hW.alike⟩, hS.F ht⟩) hS.2.2 dL_conjugate_16
  exact hw_3.elim

abbrev wz_L_run : List Cond := .codeWith yL_run cL_run 5 (Option.some Jvm.ClassFile.FieldType.int) [((0 : Nat), (10 : Nat), (13 : Nat), (21 : Nat))] :: lw_good
set_option maxHeartbeats 4000000 in
set_option maxRecDepth 100000 in
/-- the law on run of a fresh object: it throws -/
theorem k_L_run (l : Launch) (hfl : l.stackTraces = false) (G : va_G) (z : Nat) (h0 : Nat) (a1 : Nat) (a2 : Nat) (a3 : Nat) (a4 : Nat) (a5 : Nat) (a6 : Nat) (a7 : Nat) (a8 : Nat) (tol : Int32) (sal : Int32) (c0 : Int32) (e0 : Nat) (p0 : Int32) (p1 : Int32) (o0 : Nat) (cyL : ClassId) (fo : Nat → Int64) (sz : Nat)  : Met l yL_run wz_L_run ({ frames := 8, cells := 1, slots := 6, locals := 129 }) (va_Pc [.ref h0, .int p0, .int p1, .ref o0] (PW G z [(h0, .inr (12, [.ref a1, .ref a2, .ref a3, .ref a4, .ref a5, .ref a6, .ref a7, .ref a8, .int tol, .int sal])), (a4, .inr (3, [.int c0, .ref e0, .int 0])), (o0, .inl (cyL, 1, .inr (.inl (fo))))] [(cyL, .long)] sz)) (va_Qi (fun (r : Int32) (_ : Unit) => r = 1) (fun (_ : Unit) (t : State) => QW G [(o0, .inl (cyL, 1, .inr (.inl (fo))))] [(cyL, .long)] (va_A [(h0, .inr (12, [.ref a1, .ref a2, .ref a3, .ref a4, .ref a5, .ref a6, .ref a7, .ref a8, .int tol, .int sal])), (a4, .inr (3, [.int c0, .ref e0, .int 0])), (o0, .inl (cyL, 1, .inr (.inl (fo))))] sz) t) (va_A [(h0, .inr (12, [.ref a1, .ref a2, .ref a3, .ref a4, .ref a5, .ref a6, .ref a7, .ref a8, .int tol, .int sal])), (a4, .inr (3, [.int c0, .ref e0, .int 0])), (o0, .inl (cyL, 1, .inr (.inl (fo))))] sz)) 1 6 (va_A [(h0, .inr (12, [.ref a1, .ref a2, .ref a3, .ref a4, .ref a5, .ref a6, .ref a7, .ref a8, .int tol, .int sal])), (a4, .inr (3, [.int c0, .ref e0, .int 0])), (o0, .inl (cyL, 1, .inr (.inl (fo))))] sz) := by
  refine va_MetW (cc := cL_run) (maxL := 5) (ret := (Option.some Jvm.ClassFile.FieldType.int)) (hh := [((0 : Nat), (10 : Nat), (13 : Nat), (21 : Nat))]) (by decide) rfl ?_
  intro p e s m args below meth c s₁ B hml hv
  obtain ⟨rfl, rfl, hP, hK, hD0, hG⟩ := hv
  have hx := B.exec
  have hb := B.bytes
  have hr := B.returns
  have hts := atoms_spec (ws := wz_L_run) B.pre
  have htab := vx_table (x := yL_run) B (hts _ List.mem_cons_self)
  have hg : ∀ w ∈ lw_good, w.before _ s = true := fun w h => hts w (List.mem_cons_of_mem _ h)
  have hown : s.vm.findClass RL = some m.cls := findClass_of_methodNamed B.named
  have hlocks := B.notSynchronized
  have hD := hD0.self (sz := s.heap.size)
  generalize hAe : va_A [(h0, .inr (12, [.ref a1, .ref a2, .ref a3, .ref a4, .ref a5, .ref a6, .ref a7, .ref a8, .int tol, .int sal])), (a4, .inr (3, [.int c0, .ref e0, .int 0])), (o0, .inl (cyL, 1, .inr (.inl (fo))))] s.heap.size = A at hD hG ⊢
  have hA : ∀ q : Nat, s.heap.size ≤ q → A q := fun q h => by rw [← hAe]; exact Or.inr h
  have hS : va_S A s.heap s.heap [] := va_S.rf
  have hl := lv_entry ([.ref h0, .int p0, .int p1, .ref o0]) (n := 5) (Nat.le_of_ble_eq_true rfl)
  rw [lg_entry_eq]
  generalize (lg_sl ([.ref h0, .int p0, .int p1, .ref o0]) ++ List.replicate (5 - (lg_sl ([.ref h0, .int p0, .int p1, .ref o0])).length) Slot.unset).toArray = ls at hl ⊢
  have hl : lv_has ls 5 [(0, .ref h0), (1, .int p0), (2, .int p1), (3, .ref o0)] := hl
  refine lv_aload_n hx hb dL_run_0 rfl (lv_at hl 3 rfl) ?_
  refine lv_iconst (v := 0) hx hb dL_run_1 (by decide) ?_
  refine lv_aload_n hx hb dL_run_2 rfl (lv_at hl 0 rfl) ?_
  refine lv_iload_n hx hb dL_run_3 rfl (lv_at hl 1 rfl) ?_
  refine lv_iload_n hx hb dL_run_4 rfl (lv_at hl 2 rfl) ?_
  have hPc := hP.sub (ws' := [(h0, .inr (12, [.ref a1, .ref a2, .ref a3, .ref a4, .ref a5, .ref a6, .ref a7, .ref a8, .int tol, .int sal])), (a4, .inr (3, [.int c0, .ref e0, .int 0]))]) [0, 1] rfl
  have hKc := hK.sub (tys' := []) [] rfl
  refine vx_calli (vx_runV (As := [.int p0, .int p1]) (rest := [.int 0, .ref o0]) ⟨hx, hb, hml, hown, hts⟩ (k_X8_run l hfl G z h0 a1 a2 a3 a4 a5 a6 a7 a8 tol sal c0 e0 p0 p1 s.heap.size ) (cwV 2 hts (lw_goodApp (lw_4 q944 q945 q946 q1) q947) rfl rfl rfl (by decide +kernel) ⟨Nat.le_of_ble_eq_true rfl, Nat.le_of_ble_eq_true rfl⟩) ⟨PR.blind, va_recv hK hP (ci := 12) (q0 := 0) rfl rfl, PR.of hPc hKc hG hS hA [.ref h0, .int p0, .int p1]⟩ rfl rfl hl.1 rfl (lv_room (Nat.le_of_ble_eq_true rfl)) dL_run_5 ⟨Nat.le_of_ble_eq_true rfl, Nat.le_of_ble_eq_true rfl⟩) hS (fun q h9 h => zN.not h9 h) (fun q h => hA q (Nat.le_trans hS.1 h)) (fun q h9 h => zN.not h9 h) (fun E ce q9 ux t_4 H_1 locs ht hvm px_5 hE hz1 hk1 hS hq9 hv9 hcl9 => ?_) (fun r_2 u t_4 H_1 locs ht hvm hw_3 hB hz1 hk1 hS => ?_)
  · subst hE
    have hP := hP.grown hk1
    refine vx_widen (k := 1) (n := 6) (Nat.le_of_ble_eq_true rfl) (Nat.le_of_ble_eq_true rfl) ?_
    refine vx_catch (name := "java/lang/IndexOutOfBoundsException") hown [] ⟨0, 10, 13, 21⟩ [] (htab.trans rfl) (fun z9 h9 => absurd h9 List.not_mem_nil) (by decide) (by decide) (hg _ q518) (va_Nw.use rfl (hG.2.2.2.2.1 _ qf552)) hq9 hv9 hcl9 ?_
    refine lv_astore (lv' := [(4, .ref q9), (0, .ref h0), (1, .int p0), (2, .int p1), (3, .ref o0)]) hx hb dL_run_13 hl (by decide) rfl (fun ls hl => ?_)
    refine lv_iconst (v := 1) hx hb dL_run_15 (by decide) ?_
    refine W.widen (k := 1) (n := 6) (Nat.le_of_ble_eq_true rfl) (Nat.le_of_ble_eq_true rfl) ?_
    have hP9 := hP.sub (ws' := [(o0, .inl (cyL, 1, .inr (.inl (fo))))]) [2] rfl
    have hD9 := hD.sub (ws' := [(o0, .inl (cyL, 1, .inr (.inl (fo))))]) [2] (by decide) rfl
    have hK9 := hK.sub (tys' := [(cyL, .long)]) [0] rfl
    exact W.iret (v := 1) hx hb hr (fun t ht hW => ⟨⟨1, (), rfl, rfl, QW.of hP9 hK9 hD9 ht hW.alike⟩, hS.F ht⟩) hS.2.2 dL_run_16
  exact hw_3.elim

abbrev wz_L_wash : List Cond := .codeWith yL_wash cL_wash 4 (Option.some Jvm.ClassFile.FieldType.int) [((0 : Nat), (16 : Nat), (19 : Nat), (21 : Nat))] :: lw_good
set_option maxHeartbeats 4000000 in
set_option maxRecDepth 100000 in
/-- the law on wash of a fresh object: it throws -/
theorem k_L_wash (l : Launch) (hfl : l.stackTraces = false) (G : va_G) (z : Nat) (h0 : Nat) (a1 : Nat) (a2 : Nat) (a3 : Nat) (a4 : Nat) (a5 : Nat) (a6 : Nat) (a7 : Nat) (a8 : Nat) (tol : Int32) (sal : Int32) (c0 : Int32) (e0 : Nat) (p0 : Int32) (o0 : Nat) (cyL : ClassId) (fo : Nat → Int64) (sz : Nat)  : Met l yL_wash wz_L_wash ({ frames := 8, cells := 1, slots := 6, locals := 126 }) (va_Pc [.ref h0, .int p0, .ref o0] (PW G z [(h0, .inr (12, [.ref a1, .ref a2, .ref a3, .ref a4, .ref a5, .ref a6, .ref a7, .ref a8, .int tol, .int sal])), (a4, .inr (3, [.int c0, .ref e0, .int 0])), (o0, .inl (cyL, 1, .inr (.inl (fo))))] [(cyL, .long)] sz)) (va_Qi (fun (r : Int32) (_ : Unit) => r = 1) (fun (_ : Unit) (t : State) => QW G [(o0, .inl (cyL, 1, .inr (.inl (fo))))] [(cyL, .long)] (va_A [(h0, .inr (12, [.ref a1, .ref a2, .ref a3, .ref a4, .ref a5, .ref a6, .ref a7, .ref a8, .int tol, .int sal])), (a4, .inr (3, [.int c0, .ref e0, .int 0])), (o0, .inl (cyL, 1, .inr (.inl (fo))))] sz) t) (va_A [(h0, .inr (12, [.ref a1, .ref a2, .ref a3, .ref a4, .ref a5, .ref a6, .ref a7, .ref a8, .int tol, .int sal])), (a4, .inr (3, [.int c0, .ref e0, .int 0])), (o0, .inl (cyL, 1, .inr (.inl (fo))))] sz)) 1 6 (va_A [(h0, .inr (12, [.ref a1, .ref a2, .ref a3, .ref a4, .ref a5, .ref a6, .ref a7, .ref a8, .int tol, .int sal])), (a4, .inr (3, [.int c0, .ref e0, .int 0])), (o0, .inl (cyL, 1, .inr (.inl (fo))))] sz) := by
  refine va_MetW (cc := cL_wash) (maxL := 4) (ret := (Option.some Jvm.ClassFile.FieldType.int)) (hh := [((0 : Nat), (16 : Nat), (19 : Nat), (21 : Nat))]) (by decide) rfl ?_
  intro p e s m args below meth c s₁ B hml hv
  obtain ⟨rfl, rfl, hP, hK, hD0, hG⟩ := hv
  have hx := B.exec
  have hb := B.bytes
  have hr := B.returns
  have hts := atoms_spec (ws := wz_L_wash) B.pre
  have htab := vx_table (x := yL_wash) B (hts _ List.mem_cons_self)
  have hg : ∀ w ∈ lw_good, w.before _ s = true := fun w h => hts w (List.mem_cons_of_mem _ h)
  have hown : s.vm.findClass RL = some m.cls := findClass_of_methodNamed B.named
  have hlocks := B.notSynchronized
  have hD := hD0.self (sz := s.heap.size)
  generalize hAe : va_A [(h0, .inr (12, [.ref a1, .ref a2, .ref a3, .ref a4, .ref a5, .ref a6, .ref a7, .ref a8, .int tol, .int sal])), (a4, .inr (3, [.int c0, .ref e0, .int 0])), (o0, .inl (cyL, 1, .inr (.inl (fo))))] s.heap.size = A at hD hG ⊢
  have hA : ∀ q : Nat, s.heap.size ≤ q → A q := fun q h => by rw [← hAe]; exact Or.inr h
  have hS : va_S A s.heap s.heap [] := va_S.rf
  have hl := lv_entry ([.ref h0, .int p0, .ref o0]) (n := 4) (Nat.le_of_ble_eq_true rfl)
  rw [lg_entry_eq]
  generalize (lg_sl ([.ref h0, .int p0, .ref o0]) ++ List.replicate (4 - (lg_sl ([.ref h0, .int p0, .ref o0])).length) Slot.unset).toArray = ls at hl ⊢
  have hl : lv_has ls 4 [(0, .ref h0), (1, .int p0), (2, .ref o0)] := hl
  refine lv_aload_n hx hb dL_wash_0 rfl (lv_at hl 2 rfl) ?_
  refine lv_iconst (v := 0) hx hb dL_wash_1 (by decide) ?_
  refine lv_aload_n hx hb dL_wash_2 rfl (lv_at hl 0 rfl) ?_
  refine lv_iload_n hx hb dL_wash_3 rfl (lv_at hl 1 rfl) ?_
  have hPc := hP.sub (ws' := [(h0, .inr (12, [.ref a1, .ref a2, .ref a3, .ref a4, .ref a5, .ref a6, .ref a7, .ref a8, .int tol, .int sal])), (a4, .inr (3, [.int c0, .ref e0, .int 0]))]) [0, 1] rfl
  have hKc := hK.sub (tys' := []) [] rfl
  refine vx_calli (vx_runV (As := [.int p0]) (rest := [.int 0, .ref o0]) ⟨hx, hb, hml, hown, hts⟩ (k_X8_wash l hfl G z h0 a1 a2 a3 a4 a5 a6 a7 a8 tol sal c0 e0 p0 s.heap.size ) (cwV 1 hts (lw_goodApp (lw_4 q960 q961 q962 q1) q963) rfl rfl rfl (by decide +kernel) ⟨Nat.le_of_ble_eq_true rfl, Nat.le_of_ble_eq_true rfl⟩) ⟨PR.blind, va_recv hK hP (ci := 12) (q0 := 0) rfl rfl, PR.of hPc hKc hG hS hA [.ref h0, .int p0]⟩ rfl rfl hl.1 rfl (lv_room (Nat.le_of_ble_eq_true rfl)) dL_wash_4 ⟨Nat.le_of_ble_eq_true rfl, Nat.le_of_ble_eq_true rfl⟩) hS (fun q h9 h => zN.not h9 h) (fun q h => hA q (Nat.le_trans hS.1 h)) (fun q h9 h => zN.not h9 h) (fun E ce q9 ux t_4 H_1 locs ht hvm px_5 hE hz1 hk1 hS hq9 hv9 hcl9 => ?_) (fun r_2 u t_4 H_1 locs ht hvm hw_3 hB hz1 hk1 hS => ?_)
  · subst hE
    have hP := hP.grown hk1
    refine vx_widen (k := 1) (n := 6) (Nat.le_of_ble_eq_true rfl) (Nat.le_of_ble_eq_true rfl) ?_
    refine vx_catch (name := "java/lang/IndexOutOfBoundsException") hown [] ⟨0, 16, 19, 21⟩ [] (htab.trans rfl) (fun z9 h9 => absurd h9 List.not_mem_nil) (by decide) (by decide) (hg _ q518) (va_Nw.use rfl (hG.2.2.2.2.1 _ qf552)) hq9 hv9 hcl9 ?_
    refine lv_astore_n (lv' := [(3, .ref q9), (0, .ref h0), (1, .int p0), (2, .ref o0)]) hx hb dL_wash_19 rfl hl (by decide) rfl (fun ls hl => ?_)
    refine lv_iconst (v := 1) hx hb dL_wash_20 (by decide) ?_
    refine W.widen (k := 1) (n := 6) (Nat.le_of_ble_eq_true rfl) (Nat.le_of_ble_eq_true rfl) ?_
    have hP9 := hP.sub (ws' := [(o0, .inl (cyL, 1, .inr (.inl (fo))))]) [2] rfl
    have hD9 := hD.sub (ws' := [(o0, .inl (cyL, 1, .inr (.inl (fo))))]) [2] (by decide) rfl
    have hK9 := hK.sub (tys' := [(cyL, .long)]) [0] rfl
    exact W.iret (v := 1) hx hb hr (fun t ht hW => ⟨⟨1, (), rfl, rfl, QW.of hP9 hK9 hD9 ht hW.alike⟩, hS.F ht⟩) hS.2.2 dL_wash_21
  exact hw_3.elim

abbrev wz_L_image : List Cond := .codeWith yL_image cL_image 7 (Option.some Jvm.ClassFile.FieldType.int) [((0 : Nat), (14 : Nat), (17 : Nat), (21 : Nat)), ((0 : Nat), (14 : Nat), (21 : Nat), (13 : Nat)), ((0 : Nat), (14 : Nat), (25 : Nat), (50 : Nat)), ((0 : Nat), (14 : Nat), (29 : Nat), (15 : Nat))] :: lw_good
set_option maxHeartbeats 4000000 in
set_option maxRecDepth 100000 in
/-- the law on image of a fresh object: it throws -/
theorem k_L_image (l : Launch) (hfl : l.stackTraces = false) (G : va_G) (z : Nat) (h0 : Nat) (a1 : Nat) (a2 : Nat) (a3 : Nat) (a4 : Nat) (a5 : Nat) (a6 : Nat) (a7 : Nat) (a8 : Nat) (tol : Int32) (sal : Int32) (c0 : Int32) (e0 : Nat) (p0 : Int32) (p1 : Int32) (p2 : Int32) (p3 : Int32) (o0 : Nat) (cyL : ClassId) (fo : Nat → Int64) (sz : Nat)  : Met l yL_image wz_L_image ({ frames := 8, cells := 1, slots := 6, locals := 134 }) (va_Pc [.ref h0, .int p0, .int p1, .int p2, .int p3, .ref o0] (PW G z [(h0, .inr (12, [.ref a1, .ref a2, .ref a3, .ref a4, .ref a5, .ref a6, .ref a7, .ref a8, .int tol, .int sal])), (a4, .inr (3, [.int c0, .ref e0, .int 0])), (o0, .inl (cyL, 1, .inr (.inl (fo))))] [(cyL, .long)] sz)) (va_Qi (fun (r : Int32) (_ : Unit) => r = 1) (fun (_ : Unit) (t : State) => QW G [(o0, .inl (cyL, 1, .inr (.inl (fo))))] [(cyL, .long)] (va_A [(h0, .inr (12, [.ref a1, .ref a2, .ref a3, .ref a4, .ref a5, .ref a6, .ref a7, .ref a8, .int tol, .int sal])), (a4, .inr (3, [.int c0, .ref e0, .int 0])), (o0, .inl (cyL, 1, .inr (.inl (fo))))] sz) t) (va_A [(h0, .inr (12, [.ref a1, .ref a2, .ref a3, .ref a4, .ref a5, .ref a6, .ref a7, .ref a8, .int tol, .int sal])), (a4, .inr (3, [.int c0, .ref e0, .int 0])), (o0, .inl (cyL, 1, .inr (.inl (fo))))] sz)) 1 6 (va_A [(h0, .inr (12, [.ref a1, .ref a2, .ref a3, .ref a4, .ref a5, .ref a6, .ref a7, .ref a8, .int tol, .int sal])), (a4, .inr (3, [.int c0, .ref e0, .int 0])), (o0, .inl (cyL, 1, .inr (.inl (fo))))] sz) := by
  refine va_MetW (cc := cL_image) (maxL := 7) (ret := (Option.some Jvm.ClassFile.FieldType.int)) (hh := [((0 : Nat), (14 : Nat), (17 : Nat), (21 : Nat)), ((0 : Nat), (14 : Nat), (21 : Nat), (13 : Nat)), ((0 : Nat), (14 : Nat), (25 : Nat), (50 : Nat)), ((0 : Nat), (14 : Nat), (29 : Nat), (15 : Nat))]) (by decide) rfl ?_
  intro p e s m args below meth c s₁ B hml hv
  obtain ⟨rfl, rfl, hP, hK, hD0, hG⟩ := hv
  have hx := B.exec
  have hb := B.bytes
  have hr := B.returns
  have hts := atoms_spec (ws := wz_L_image) B.pre
  have htab := vx_table (x := yL_image) B (hts _ List.mem_cons_self)
  have hg : ∀ w ∈ lw_good, w.before _ s = true := fun w h => hts w (List.mem_cons_of_mem _ h)
  have hown : s.vm.findClass RL = some m.cls := findClass_of_methodNamed B.named
  have hlocks := B.notSynchronized
  have hD := hD0.self (sz := s.heap.size)
  generalize hAe : va_A [(h0, .inr (12, [.ref a1, .ref a2, .ref a3, .ref a4, .ref a5, .ref a6, .ref a7, .ref a8, .int tol, .int sal])), (a4, .inr (3, [.int c0, .ref e0, .int 0])), (o0, .inl (cyL, 1, .inr (.inl (fo))))] s.heap.size = A at hD hG ⊢
  have hA : ∀ q : Nat, s.heap.size ≤ q → A q := fun q h => by rw [← hAe]; exact Or.inr h
  have hS : va_S A s.heap s.heap [] := va_S.rf
  have hl := lv_entry ([.ref h0, .int p0, .int p1, .int p2, .int p3, .ref o0]) (n := 7) (Nat.le_of_ble_eq_true rfl)
  rw [lg_entry_eq]
  generalize (lg_sl ([.ref h0, .int p0, .int p1, .int p2, .int p3, .ref o0]) ++ List.replicate (7 - (lg_sl ([.ref h0, .int p0, .int p1, .int p2, .int p3, .ref o0])).length) Slot.unset).toArray = ls at hl ⊢
  have hl : lv_has ls 7 [(0, .ref h0), (1, .int p0), (2, .int p1), (3, .int p2), (4, .int p3), (5, .ref o0)] := hl
  refine lv_aload hx hb dL_image_0 (lv_at hl 5 rfl) ?_
  refine lv_iconst (v := 0) hx hb dL_image_2 (by decide) ?_
  refine lv_aload_n hx hb dL_image_3 rfl (lv_at hl 0 rfl) ?_
  refine lv_iload_n hx hb dL_image_4 rfl (lv_at hl 1 rfl) ?_
  refine lv_iload_n hx hb dL_image_5 rfl (lv_at hl 2 rfl) ?_
  refine lv_iload_n hx hb dL_image_6 rfl (lv_at hl 3 rfl) ?_
  refine lv_iload hx hb dL_image_7 (lv_at hl 4 rfl) ?_
  have hPc := hP.sub (ws' := [(h0, .inr (12, [.ref a1, .ref a2, .ref a3, .ref a4, .ref a5, .ref a6, .ref a7, .ref a8, .int tol, .int sal])), (a4, .inr (3, [.int c0, .ref e0, .int 0]))]) [0, 1] rfl
  have hKc := hK.sub (tys' := []) [] rfl
  refine vx_calli (vx_runV (As := [.int p0, .int p1, .int p2, .int p3]) (rest := [.int 0, .ref o0]) ⟨hx, hb, hml, hown, hts⟩ (k_X8_image l hfl G z h0 a1 a2 a3 a4 a5 a6 a7 a8 tol sal c0 e0 p0 p1 p2 p3 s.heap.size ) (cwV 4 hts (lw_goodApp (lw_4 q967 q968 q969 q1) q970) rfl rfl rfl (by decide +kernel) ⟨Nat.le_of_ble_eq_true rfl, Nat.le_of_ble_eq_true rfl⟩) ⟨PR.blind, va_recv hK hP (ci := 12) (q0 := 0) rfl rfl, PR.of hPc hKc hG hS hA [.ref h0, .int p0, .int p1, .int p2, .int p3]⟩ rfl rfl hl.1 rfl (lv_room (Nat.le_of_ble_eq_true rfl)) dL_image_9 ⟨Nat.le_of_ble_eq_true rfl, Nat.le_of_ble_eq_true rfl⟩) hS (fun q h9 h => zN.not h9 h) (fun q h => hA q (Nat.le_trans hS.1 h)) (fun q h9 h => zN.not h9 h) (fun E ce q9 ux t_4 H_1 locs ht hvm px_5 hE hz1 hk1 hS hq9 hv9 hcl9 => ?_) (fun r_2 u t_4 H_1 locs ht hvm hw_3 hB hz1 hk1 hS => ?_)
  · subst hE
    have hP := hP.grown hk1
    refine vx_widen (k := 1) (n := 6) (Nat.le_of_ble_eq_true rfl) (Nat.le_of_ble_eq_true rfl) ?_
    refine vx_catch (name := "java/lang/IndexOutOfBoundsException") hown [] ⟨0, 14, 17, 21⟩ [⟨0, 14, 21, 13⟩, ⟨0, 14, 25, 50⟩, ⟨0, 14, 29, 15⟩] (htab.trans rfl) (fun z9 h9 => absurd h9 List.not_mem_nil) (by decide) (by decide) (hg _ q518) (va_Nw.use rfl (hG.2.2.2.2.1 _ qf552)) hq9 hv9 hcl9 ?_
    refine lv_astore (lv' := [(6, .ref q9), (0, .ref h0), (1, .int p0), (2, .int p1), (3, .int p2), (4, .int p3), (5, .ref o0)]) hx hb dL_image_17 hl (by decide) rfl (fun ls hl => ?_)
    refine lv_iconst (v := 1) hx hb dL_image_19 (by decide) ?_
    refine W.widen (k := 1) (n := 6) (Nat.le_of_ble_eq_true rfl) (Nat.le_of_ble_eq_true rfl) ?_
    have hP9 := hP.sub (ws' := [(o0, .inl (cyL, 1, .inr (.inl (fo))))]) [2] rfl
    have hD9 := hD.sub (ws' := [(o0, .inl (cyL, 1, .inr (.inl (fo))))]) [2] (by decide) rfl
    have hK9 := hK.sub (tys' := [(cyL, .long)]) [0] rfl
    exact W.iret (v := 1) hx hb hr (fun t ht hW => ⟨⟨1, (), rfl, rfl, QW.of hP9 hK9 hD9 ht hW.alike⟩, hS.F ht⟩) hS.2.2 dL_image_20
  exact hw_3.elim

abbrev wz_L_setTolerance : List Cond := .codeWith yL_setTolerance cL_setTolerance 4 (Option.some Jvm.ClassFile.FieldType.int) [((0 : Nat), (9 : Nat), (12 : Nat), (13 : Nat))] :: lw_good
set_option maxHeartbeats 4000000 in
set_option maxRecDepth 100000 in
/-- the law on setTolerance of a fresh object -/
theorem k_L_setTolerance (l : Launch) (hfl : l.stackTraces = false) (G : va_G) (z : Nat) (h0 : Nat) (a1 : Nat) (a2 : Nat) (a3 : Nat) (a4 : Nat) (a5 : Nat) (a6 : Nat) (a7 : Nat) (a8 : Nat) (tol : Int32) (sal : Int32) (p0 : Int32) (o0 : Nat) (cyL : ClassId) (fo : Nat → Int64) (sz : Nat)  : Met l yL_setTolerance wz_L_setTolerance ({ frames := 8, cells := 1, slots := 6, locals := 126 }) (va_Pc [.ref h0, .int p0, .ref o0] (PW G z [(h0, .inr (12, [.ref a1, .ref a2, .ref a3, .ref a4, .ref a5, .ref a6, .ref a7, .ref a8, .int tol, .int sal])), (o0, .inl (cyL, 1, .inr (.inl (fo))))] [(cyL, .long)] sz)) (va_Qi (fun (r : Int32) (u : Nat → Int64) => ((0 ≤ p0 ∧ p0 ≤ 50) ∧ r = 0 ∧ u 0 = tol.toInt64) ∨ (¬ (0 ≤ p0 ∧ p0 ≤ 50) ∧ r = 1)) (fun (u : Nat → Int64) (t : State) => QW G [(o0, .inl (cyL, 1, .inr (.inl (u))))] [(cyL, .long)] (va_A [(h0, .inr (12, [.ref a1, .ref a2, .ref a3, .ref a4, .ref a5, .ref a6, .ref a7, .ref a8, .int tol, .int sal])), (o0, .inl (cyL, 1, .inr (.inl (fo))))] sz) t) (va_A [(h0, .inr (12, [.ref a1, .ref a2, .ref a3, .ref a4, .ref a5, .ref a6, .ref a7, .ref a8, .int tol, .int sal])), (o0, .inl (cyL, 1, .inr (.inl (fo))))] sz)) 1 6 (va_A [(h0, .inr (12, [.ref a1, .ref a2, .ref a3, .ref a4, .ref a5, .ref a6, .ref a7, .ref a8, .int tol, .int sal])), (o0, .inl (cyL, 1, .inr (.inl (fo))))] sz) := by
  refine va_MetW (cc := cL_setTolerance) (maxL := 4) (ret := (Option.some Jvm.ClassFile.FieldType.int)) (hh := [((0 : Nat), (9 : Nat), (12 : Nat), (13 : Nat))]) (by decide) rfl ?_
  intro p e s m args below meth c s₁ B hml hv
  obtain ⟨rfl, rfl, hP, hK, hD0, hG⟩ := hv
  have hx := B.exec
  have hb := B.bytes
  have hr := B.returns
  have hts := atoms_spec (ws := wz_L_setTolerance) B.pre
  have htab := vx_table (x := yL_setTolerance) B (hts _ List.mem_cons_self)
  have hg : ∀ w ∈ lw_good, w.before _ s = true := fun w h => hts w (List.mem_cons_of_mem _ h)
  have hown : s.vm.findClass RL = some m.cls := findClass_of_methodNamed B.named
  have hlocks := B.notSynchronized
  have hD := hD0.self (sz := s.heap.size)
  generalize hAe : va_A [(h0, .inr (12, [.ref a1, .ref a2, .ref a3, .ref a4, .ref a5, .ref a6, .ref a7, .ref a8, .int tol, .int sal])), (o0, .inl (cyL, 1, .inr (.inl (fo))))] s.heap.size = A at hD hG ⊢
  have hA : ∀ q : Nat, s.heap.size ≤ q → A q := fun q h => by rw [← hAe]; exact Or.inr h
  have hS : va_S A s.heap s.heap [] := va_S.rf
  have hl := lv_entry ([.ref h0, .int p0, .ref o0]) (n := 4) (Nat.le_of_ble_eq_true rfl)
  rw [lg_entry_eq]
  generalize (lg_sl ([.ref h0, .int p0, .ref o0]) ++ List.replicate (4 - (lg_sl ([.ref h0, .int p0, .ref o0])).length) Slot.unset).toArray = ls at hl ⊢
  have hl : lv_has ls 4 [(0, .ref h0), (1, .int p0), (2, .ref o0)] := hl
  refine lv_aload_n hx hb dL_setTolerance_0 rfl (lv_at hl 2 rfl) ?_
  refine lv_iconst (v := 0) hx hb dL_setTolerance_1 (by decide) ?_
  refine lv_aload_n hx hb dL_setTolerance_2 rfl (lv_at hl 0 rfl) ?_
  refine lv_iload_n hx hb dL_setTolerance_3 rfl (lv_at hl 1 rfl) ?_
  have hPc := hP.sub (ws' := [(h0, .inr (12, [.ref a1, .ref a2, .ref a3, .ref a4, .ref a5, .ref a6, .ref a7, .ref a8, .int tol, .int sal]))]) [0] rfl
  have hKc := hK.sub (tys' := []) [] rfl
  have hDc := hD.sub (ws' := [(h0, .inr (12, [.ref a1, .ref a2, .ref a3, .ref a4, .ref a5, .ref a6, .ref a7, .ref a8, .int tol, .int sal]))]) [0] (by decide) rfl
  have hFc := va_free (wc := [(h0, .inr (12, [.ref a1, .ref a2, .ref a3, .ref a4, .ref a5, .ref a6, .ref a7, .ref a8, .int tol, .int sal]))]) hD hS hA [0] rfl
  refine vx_calli (vx_runV (As := [.int p0]) (rest := [.int 0, .ref o0]) ⟨hx, hb, hml, hown, hts⟩ (k_X8_setTolerance l hfl G z h0 a1 a2 a3 a4 a5 a6 a7 a8 tol sal p0 s.heap.size ) (cwV 1 hts (lw_goodApp (lw_4 q995 q996 q997 q1) q998) rfl rfl rfl (by decide +kernel) ⟨Nat.le_of_ble_eq_true rfl, Nat.le_of_ble_eq_true rfl⟩) ⟨PW.blind, va_recv hK hP (ci := 12) (q0 := 0) rfl rfl, PW.of hPc hKc hDc hG hS hFc [.ref h0, .int p0]⟩ rfl rfl hl.1 rfl (lv_room (Nat.le_of_ble_eq_true rfl)) dL_setTolerance_4 ⟨Nat.le_of_ble_eq_true rfl, Nat.le_of_ble_eq_true rfl⟩) hS (fun q _ h => hFc q h) hFc (fun q _ h => hFc q h) (fun E ce q9 ux t_4 H_1 locs ht hvm px_5 hE hz1 hk1 hS hq9 hv9 hcl9 => ?_) (fun r_2 u t_4 H_1 locs ht hvm hw_3 hB hz1 hk1 hS => ?_)
  · subst hE
    obtain ⟨hP, hD, hK⟩ := QW.join (wr := [(o0, .inl (cyL, 1, .inr (.inl (fo))))]) (w1 := []) (ty1 := []) hP hD hK [0] [1] rfl rfl (by decide) (by decide) hk1 hFc ht hvm (QW.nil hK hvm)
    have hP : va_P G vwCl ([(o0, .inl (cyL, 1, .inr (.inl (fo))))]) H_1 := hP
    have hD : va_D A ([(o0, .inl (cyL, 1, .inr (.inl (fo))))]) := hD
    have hK : va_K G vwCl [(cyL, .long)] s := hK
    refine vx_widen (k := 1) (n := 6) (Nat.le_of_ble_eq_true rfl) (Nat.le_of_ble_eq_true rfl) ?_
    refine vx_catch (name := "java/lang/IllegalArgumentException") hown [] ⟨0, 9, 12, 13⟩ [] (htab.trans rfl) (fun z9 h9 => absurd h9 List.not_mem_nil) (by decide) (by decide) (hg _ q302) (va_Nw.use rfl (hG.2.2.2.2.1 _ qf313)) hq9 hv9 hcl9 ?_
    refine lv_astore_n (lv' := [(3, .ref q9), (0, .ref h0), (1, .int p0), (2, .ref o0)]) hx hb dL_setTolerance_12 rfl hl (by decide) rfl (fun ls hl => ?_)
    refine lv_iconst (v := 1) hx hb dL_setTolerance_13 (by decide) ?_
    refine W.widen (k := 1) (n := 6) (Nat.le_of_ble_eq_true rfl) (Nat.le_of_ble_eq_true rfl) ?_
    have hP9 := hP.sub (ws' := [(o0, .inl (cyL, 1, .inr (.inl (fo))))]) [0] rfl
    have hD9 := hD.sub (ws' := [(o0, .inl (cyL, 1, .inr (.inl (fo))))]) [0] (by decide) rfl
    have hK9 := hK.sub (tys' := [(cyL, .long)]) [0] rfl
    exact W.iret (v := 1) hx hb hr (fun t ht hW => ⟨⟨1, fo, rfl, Or.inr ⟨px_5, rfl⟩, QW.of hP9 hK9 hD9 ht hW.alike⟩, hS.F ht⟩) hS.2.2 dL_setTolerance_14
  obtain ⟨hP, hD, hK⟩ := QW.join (wr := [(o0, .inl (cyL, 1, .inr (.inl (fo))))]) (w1 := []) hP hD hK [0] [1] rfl rfl (by decide) (by decide) hk1 hFc ht hvm hB
  have hP : va_P G vwCl ([(o0, .inl (cyL, 1, .inr (.inl (fo))))]) H_1 := hP
  have hD : va_D A ([(o0, .inl (cyL, 1, .inr (.inl (fo))))]) := hD
  have hK : va_K G vwCl [(cyL, .long)] s := hK
  refine W.widen (k := 1) (n := 6) (Nat.le_of_ble_eq_true rfl) (Nat.le_of_ble_eq_true rfl) ?_
  obtain ⟨he9, hphi9⟩ := hw_3
  refine lv_i2l hx hb dL_setTolerance_7 rfl ?_
  refine va_last hx hb hK hP hD hS 0 0 rfl rfl (by unfold vp_in; decide +kernel) dL_setTolerance_8 (fun H_6 locs hP hD hS => ?_)
  have hP : va_P G vwCl ([(o0, .inl (cyL, 1, .inr (.inl (vp_updL (fo) (0 : Int32).toNatClampNeg ((r_2).toInt64)))))]) H_6 := hP
  have hD : va_D A ([(o0, .inl (cyL, 1, .inr (.inl (vp_updL (fo) (0 : Int32).toNatClampNeg ((r_2).toInt64)))))]) := hD
  refine lv_goto (tgt := 15) hx hb dL_setTolerance_9 (by decide) ?_
  refine lv_iconst (v := 0) hx hb dL_setTolerance_15 (by decide) ?_
  refine W.widen (k := 1) (n := 6) (Nat.le_of_ble_eq_true rfl) (Nat.le_of_ble_eq_true rfl) ?_
  have hP9 := hP.sub (ws' := [(o0, .inl (cyL, 1, .inr (.inl ((vp_updL (fo) (0 : Int32).toNatClampNeg ((r_2).toInt64))))))]) [0] rfl
  have hD9 := hD.sub (ws' := [(o0, .inl (cyL, 1, .inr (.inl ((vp_updL (fo) (0 : Int32).toNatClampNeg ((r_2).toInt64))))))]) [0] (by decide) rfl
  have hK9 := hK.sub (tys' := [(cyL, .long)]) [0] rfl
  exact W.iret (v := 0) hx hb hr (fun t ht hW => ⟨⟨0, vp_updL (fo) (0 : Int32).toNatClampNeg ((r_2).toInt64), rfl, Or.inl ⟨hphi9, rfl, z_updL0.trans (by rw [he9])⟩, QW.of hP9 hK9 hD9 ht hW.alike⟩, hS.F ht⟩) hS.2.2 dL_setTolerance_16

abbrev wz_L_distance : List Cond := .codeWith yL_distance cL_distance 5 (Option.some Jvm.ClassFile.FieldType.int) [((0 : Nat), (10 : Nat), (13 : Nat), (21 : Nat)), ((0 : Nat), (10 : Nat), (17 : Nat), (13 : Nat))] :: lw_good
set_option maxHeartbeats 4000000 in
set_option maxRecDepth 100000 in
/-- the law on distance of a fresh object: it throws -/
theorem k_L_distance (l : Launch) (hfl : l.stackTraces = false) (G : va_G) (z : Nat) (h0 : Nat) (a1 : Nat) (a2 : Nat) (a3 : Nat) (a4 : Nat) (a5 : Nat) (a6 : Nat) (a7 : Nat) (a8 : Nat) (tol : Int32) (sal : Int32) (c0 : Int32) (e0 : Nat) (p0 : Int32) (p1 : Int32) (o0 : Nat) (cyL : ClassId) (fo : Nat → Int64) (sz : Nat)  : Met l yL_distance wz_L_distance ({ frames := 8, cells := 1, slots := 6, locals := 126 }) (va_Pc [.ref h0, .int p0, .int p1, .ref o0] (PW G z [(h0, .inr (12, [.ref a1, .ref a2, .ref a3, .ref a4, .ref a5, .ref a6, .ref a7, .ref a8, .int tol, .int sal])), (a5, .inr (3, [.int c0, .ref e0, .int 0])), (o0, .inl (cyL, 1, .inr (.inl (fo))))] [(cyL, .long)] sz)) (va_Qi (fun (r : Int32) (_ : Unit) => r = 1) (fun (_ : Unit) (t : State) => QW G [(o0, .inl (cyL, 1, .inr (.inl (fo))))] [(cyL, .long)] (va_A [(h0, .inr (12, [.ref a1, .ref a2, .ref a3, .ref a4, .ref a5, .ref a6, .ref a7, .ref a8, .int tol, .int sal])), (a5, .inr (3, [.int c0, .ref e0, .int 0])), (o0, .inl (cyL, 1, .inr (.inl (fo))))] sz) t) (va_A [(h0, .inr (12, [.ref a1, .ref a2, .ref a3, .ref a4, .ref a5, .ref a6, .ref a7, .ref a8, .int tol, .int sal])), (a5, .inr (3, [.int c0, .ref e0, .int 0])), (o0, .inl (cyL, 1, .inr (.inl (fo))))] sz)) 1 6 (va_A [(h0, .inr (12, [.ref a1, .ref a2, .ref a3, .ref a4, .ref a5, .ref a6, .ref a7, .ref a8, .int tol, .int sal])), (a5, .inr (3, [.int c0, .ref e0, .int 0])), (o0, .inl (cyL, 1, .inr (.inl (fo))))] sz) := by
  refine va_MetW (cc := cL_distance) (maxL := 5) (ret := (Option.some Jvm.ClassFile.FieldType.int)) (hh := [((0 : Nat), (10 : Nat), (13 : Nat), (21 : Nat)), ((0 : Nat), (10 : Nat), (17 : Nat), (13 : Nat))]) (by decide) rfl ?_
  intro p e s m args below meth c s₁ B hml hv
  obtain ⟨rfl, rfl, hP, hK, hD0, hG⟩ := hv
  have hx := B.exec
  have hb := B.bytes
  have hr := B.returns
  have hts := atoms_spec (ws := wz_L_distance) B.pre
  have htab := vx_table (x := yL_distance) B (hts _ List.mem_cons_self)
  have hg : ∀ w ∈ lw_good, w.before _ s = true := fun w h => hts w (List.mem_cons_of_mem _ h)
  have hown : s.vm.findClass RL = some m.cls := findClass_of_methodNamed B.named
  have hlocks := B.notSynchronized
  have hD := hD0.self (sz := s.heap.size)
  generalize hAe : va_A [(h0, .inr (12, [.ref a1, .ref a2, .ref a3, .ref a4, .ref a5, .ref a6, .ref a7, .ref a8, .int tol, .int sal])), (a5, .inr (3, [.int c0, .ref e0, .int 0])), (o0, .inl (cyL, 1, .inr (.inl (fo))))] s.heap.size = A at hD hG ⊢
  have hA : ∀ q : Nat, s.heap.size ≤ q → A q := fun q h => by rw [← hAe]; exact Or.inr h
  have hS : va_S A s.heap s.heap [] := va_S.rf
  have hl := lv_entry ([.ref h0, .int p0, .int p1, .ref o0]) (n := 5) (Nat.le_of_ble_eq_true rfl)
  rw [lg_entry_eq]
  generalize (lg_sl ([.ref h0, .int p0, .int p1, .ref o0]) ++ List.replicate (5 - (lg_sl ([.ref h0, .int p0, .int p1, .ref o0])).length) Slot.unset).toArray = ls at hl ⊢
  have hl : lv_has ls 5 [(0, .ref h0), (1, .int p0), (2, .int p1), (3, .ref o0)] := hl
  refine lv_aload_n hx hb dL_distance_0 rfl (lv_at hl 3 rfl) ?_
  refine lv_iconst (v := 0) hx hb dL_distance_1 (by decide) ?_
  refine lv_aload_n hx hb dL_distance_2 rfl (lv_at hl 0 rfl) ?_
  refine lv_iload_n hx hb dL_distance_3 rfl (lv_at hl 1 rfl) ?_
  refine lv_iload_n hx hb dL_distance_4 rfl (lv_at hl 2 rfl) ?_
  have hPc := hP.sub (ws' := [(h0, .inr (12, [.ref a1, .ref a2, .ref a3, .ref a4, .ref a5, .ref a6, .ref a7, .ref a8, .int tol, .int sal])), (a5, .inr (3, [.int c0, .ref e0, .int 0]))]) [0, 1] rfl
  have hKc := hK.sub (tys' := []) [] rfl
  refine vx_calli (vx_runV (As := [.int p0, .int p1]) (rest := [.int 0, .ref o0]) ⟨hx, hb, hml, hown, hts⟩ (k_X8_distance l hfl G z h0 a1 a2 a3 a4 a5 a6 a7 a8 tol sal c0 e0 p0 p1 s.heap.size ) (cwV 2 hts (lw_goodApp (lw_4 q1002 q1003 q1004 q1) q1005) rfl rfl rfl (by decide +kernel) ⟨Nat.le_of_ble_eq_true rfl, Nat.le_of_ble_eq_true rfl⟩) ⟨PR.blind, va_recv hK hP (ci := 12) (q0 := 0) rfl rfl, PR.of hPc hKc hG hS hA [.ref h0, .int p0, .int p1]⟩ rfl rfl hl.1 rfl (lv_room (Nat.le_of_ble_eq_true rfl)) dL_distance_5 ⟨Nat.le_of_ble_eq_true rfl, Nat.le_of_ble_eq_true rfl⟩) hS (fun q h9 h => zN.not h9 h) (fun q h => hA q (Nat.le_trans hS.1 h)) (fun q h9 h => zN.not h9 h) (fun E ce q9 ux t_4 H_1 locs ht hvm px_5 hE hz1 hk1 hS hq9 hv9 hcl9 => ?_) (fun r_2 u t_4 H_1 locs ht hvm hw_3 hB hz1 hk1 hS => ?_)
  · subst hE
    have hP := hP.grown hk1
    refine vx_widen (k := 1) (n := 6) (Nat.le_of_ble_eq_true rfl) (Nat.le_of_ble_eq_true rfl) ?_
    refine vx_catch (name := "java/lang/IndexOutOfBoundsException") hown [] ⟨0, 10, 13, 21⟩ [⟨0, 10, 17, 13⟩] (htab.trans rfl) (fun z9 h9 => absurd h9 List.not_mem_nil) (by decide) (by decide) (hg _ q518) (va_Nw.use rfl (hG.2.2.2.2.1 _ qf552)) hq9 hv9 hcl9 ?_
    refine lv_astore (lv' := [(4, .ref q9), (0, .ref h0), (1, .int p0), (2, .int p1), (3, .ref o0)]) hx hb dL_distance_13 hl (by decide) rfl (fun ls hl => ?_)
    refine lv_iconst (v := 1) hx hb dL_distance_15 (by decide) ?_
    refine W.widen (k := 1) (n := 6) (Nat.le_of_ble_eq_true rfl) (Nat.le_of_ble_eq_true rfl) ?_
    have hP9 := hP.sub (ws' := [(o0, .inl (cyL, 1, .inr (.inl (fo))))]) [2] rfl
    have hD9 := hD.sub (ws' := [(o0, .inl (cyL, 1, .inr (.inl (fo))))]) [2] (by decide) rfl
    have hK9 := hK.sub (tys' := [(cyL, .long)]) [0] rfl
    exact W.iret (v := 1) hx hb hr (fun t ht hW => ⟨⟨1, (), rfl, rfl, QW.of hP9 hK9 hD9 ht hW.alike⟩, hS.F ht⟩) hS.2.2 dL_distance_16
  exact hw_3.elim

abbrev wz_L_compare : List Cond := .codeWith yL_compare cL_compare 5 (Option.some Jvm.ClassFile.FieldType.int) [((0 : Nat), (10 : Nat), (13 : Nat), (21 : Nat))] :: lw_good
set_option maxHeartbeats 4000000 in
set_option maxRecDepth 100000 in
/-- the law on compare of a fresh object: it throws -/
theorem k_L_compare (l : Launch) (hfl : l.stackTraces = false) (G : va_G) (z : Nat) (h0 : Nat) (a1 : Nat) (a2 : Nat) (a3 : Nat) (a4 : Nat) (a5 : Nat) (a6 : Nat) (a7 : Nat) (a8 : Nat) (tol : Int32) (sal : Int32) (c0 : Int32) (e0 : Nat) (p0 : Int32) (p1 : Int32) (o0 : Nat) (cyL : ClassId) (fo : Nat → Int64) (sz : Nat)  : Met l yL_compare wz_L_compare ({ frames := 8, cells := 1, slots := 6, locals := 125 }) (va_Pc [.ref h0, .int p0, .int p1, .ref o0] (PW G z [(h0, .inr (12, [.ref a1, .ref a2, .ref a3, .ref a4, .ref a5, .ref a6, .ref a7, .ref a8, .int tol, .int sal])), (a5, .inr (3, [.int c0, .ref e0, .int 0])), (o0, .inl (cyL, 1, .inr (.inl (fo))))] [(cyL, .long)] sz)) (va_Qi (fun (r : Int32) (_ : Unit) => r = 1) (fun (_ : Unit) (t : State) => QW G [(o0, .inl (cyL, 1, .inr (.inl (fo))))] [(cyL, .long)] (va_A [(h0, .inr (12, [.ref a1, .ref a2, .ref a3, .ref a4, .ref a5, .ref a6, .ref a7, .ref a8, .int tol, .int sal])), (a5, .inr (3, [.int c0, .ref e0, .int 0])), (o0, .inl (cyL, 1, .inr (.inl (fo))))] sz) t) (va_A [(h0, .inr (12, [.ref a1, .ref a2, .ref a3, .ref a4, .ref a5, .ref a6, .ref a7, .ref a8, .int tol, .int sal])), (a5, .inr (3, [.int c0, .ref e0, .int 0])), (o0, .inl (cyL, 1, .inr (.inl (fo))))] sz)) 1 6 (va_A [(h0, .inr (12, [.ref a1, .ref a2, .ref a3, .ref a4, .ref a5, .ref a6, .ref a7, .ref a8, .int tol, .int sal])), (a5, .inr (3, [.int c0, .ref e0, .int 0])), (o0, .inl (cyL, 1, .inr (.inl (fo))))] sz) := by
  refine va_MetW (cc := cL_compare) (maxL := 5) (ret := (Option.some Jvm.ClassFile.FieldType.int)) (hh := [((0 : Nat), (10 : Nat), (13 : Nat), (21 : Nat))]) (by decide) rfl ?_
  intro p e s m args below meth c s₁ B hml hv
  obtain ⟨rfl, rfl, hP, hK, hD0, hG⟩ := hv
  have hx := B.exec
  have hb := B.bytes
  have hr := B.returns
  have hts := atoms_spec (ws := wz_L_compare) B.pre
  have htab := vx_table (x := yL_compare) B (hts _ List.mem_cons_self)
  have hg : ∀ w ∈ lw_good, w.before _ s = true := fun w h => hts w (List.mem_cons_of_mem _ h)
  have hown : s.vm.findClass RL = some m.cls := findClass_of_methodNamed B.named
  have hlocks := B.notSynchronized
  have hD := hD0.self (sz := s.heap.size)
  generalize hAe : va_A [(h0, .inr (12, [.ref a1, .ref a2, .ref a3, .ref a4, .ref a5, .ref a6, .ref a7, .ref a8, .int tol, .int sal])), (a5, .inr (3, [.int c0, .ref e0, .int 0])), (o0, .inl (cyL, 1, .inr (.inl (fo))))] s.heap.size = A at hD hG ⊢
  have hA : ∀ q : Nat, s.heap.size ≤ q → A q := fun q h => by rw [← hAe]; exact Or.inr h
  have hS : va_S A s.heap s.heap [] := va_S.rf
  have hl := lv_entry ([.ref h0, .int p0, .int p1, .ref o0]) (n := 5) (Nat.le_of_ble_eq_true rfl)
  rw [lg_entry_eq]
  generalize (lg_sl ([.ref h0, .int p0, .int p1, .ref o0]) ++ List.replicate (5 - (lg_sl ([.ref h0, .int p0, .int p1, .ref o0])).length) Slot.unset).toArray = ls at hl ⊢
  have hl : lv_has ls 5 [(0, .ref h0), (1, .int p0), (2, .int p1), (3, .ref o0)] := hl
  refine lv_aload_n hx hb dL_compare_0 rfl (lv_at hl 3 rfl) ?_
  refine lv_iconst (v := 0) hx hb dL_compare_1 (by decide) ?_
  refine lv_aload_n hx hb dL_compare_2 rfl (lv_at hl 0 rfl) ?_
  refine lv_iload_n hx hb dL_compare_3 rfl (lv_at hl 1 rfl) ?_
  refine lv_iload_n hx hb dL_compare_4 rfl (lv_at hl 2 rfl) ?_
  have hPc := hP.sub (ws' := [(h0, .inr (12, [.ref a1, .ref a2, .ref a3, .ref a4, .ref a5, .ref a6, .ref a7, .ref a8, .int tol, .int sal])), (a5, .inr (3, [.int c0, .ref e0, .int 0]))]) [0, 1] rfl
  have hKc := hK.sub (tys' := []) [] rfl
  refine vx_calli (vx_runV (As := [.int p0, .int p1]) (rest := [.int 0, .ref o0]) ⟨hx, hb, hml, hown, hts⟩ (k_X8_compare l hfl G z h0 a1 a2 a3 a4 a5 a6 a7 a8 tol sal c0 e0 p0 p1 s.heap.size ) (cwV 2 hts (lw_goodApp (lw_4 q1014 q1015 q1016 q1) q1017) rfl rfl rfl (by decide +kernel) ⟨Nat.le_of_ble_eq_true rfl, Nat.le_of_ble_eq_true rfl⟩) ⟨PR.blind, va_recv hK hP (ci := 12) (q0 := 0) rfl rfl, PR.of hPc hKc hG hS hA [.ref h0, .int p0, .int p1]⟩ rfl rfl hl.1 rfl (lv_room (Nat.le_of_ble_eq_true rfl)) dL_compare_5 ⟨Nat.le_of_ble_eq_true rfl, Nat.le_of_ble_eq_true rfl⟩) hS (fun q h9 h => zN.not h9 h) (fun q h => hA q (Nat.le_trans hS.1 h)) (fun q h9 h => zN.not h9 h) (fun E ce q9 ux t_4 H_1 locs ht hvm px_5 hE hz1 hk1 hS hq9 hv9 hcl9 => ?_) (fun r_2 u t_4 H_1 locs ht hvm hw_3 hB hz1 hk1 hS => ?_)
  · subst hE
    have hP := hP.grown hk1
    refine vx_widen (k := 1) (n := 6) (Nat.le_of_ble_eq_true rfl) (Nat.le_of_ble_eq_true rfl) ?_
    refine vx_catch (name := "java/lang/IndexOutOfBoundsException") hown [] ⟨0, 10, 13, 21⟩ [] (htab.trans rfl) (fun z9 h9 => absurd h9 List.not_mem_nil) (by decide) (by decide) (hg _ q518) (va_Nw.use rfl (hG.2.2.2.2.1 _ qf552)) hq9 hv9 hcl9 ?_
    refine lv_astore (lv' := [(4, .ref q9), (0, .ref h0), (1, .int p0), (2, .int p1), (3, .ref o0)]) hx hb dL_compare_13 hl (by decide) rfl (fun ls hl => ?_)
    refine lv_iconst (v := 1) hx hb dL_compare_15 (by decide) ?_
    refine W.widen (k := 1) (n := 6) (Nat.le_of_ble_eq_true rfl) (Nat.le_of_ble_eq_true rfl) ?_
    have hP9 := hP.sub (ws' := [(o0, .inl (cyL, 1, .inr (.inl (fo))))]) [2] rfl
    have hD9 := hD.sub (ws' := [(o0, .inl (cyL, 1, .inr (.inl (fo))))]) [2] (by decide) rfl
    have hK9 := hK.sub (tys' := [(cyL, .long)]) [0] rfl
    exact W.iret (v := 1) hx hb hr (fun t ht hW => ⟨⟨1, (), rfl, rfl, QW.of hP9 hK9 hD9 ht hW.alike⟩, hS.F ht⟩) hS.2.2 dL_compare_16
  exact hw_3.elim

abbrev wz_L_evidence : List Cond := .codeWith yL_evidence cL_evidence 5 (Option.some Jvm.ClassFile.FieldType.int) [((0 : Nat), (10 : Nat), (13 : Nat), (21 : Nat))] :: lw_good
set_option maxHeartbeats 4000000 in
set_option maxRecDepth 100000 in
/-- the law on evidence of a fresh object: it throws -/
theorem k_L_evidence (l : Launch) (hfl : l.stackTraces = false) (G : va_G) (z : Nat) (h0 : Nat) (a1 : Nat) (a2 : Nat) (a3 : Nat) (a4 : Nat) (a5 : Nat) (a6 : Nat) (a7 : Nat) (a8 : Nat) (tol : Int32) (sal : Int32) (c0 : Int32) (e0 : Nat) (p0 : Int32) (p1 : Int32) (o0 : Nat) (cyL : ClassId) (fo : Nat → Int64) (sz : Nat)  : Met l yL_evidence wz_L_evidence ({ frames := 8, cells := 1, slots := 6, locals := 127 }) (va_Pc [.ref h0, .int p0, .int p1, .ref o0] (PW G z [(h0, .inr (12, [.ref a1, .ref a2, .ref a3, .ref a4, .ref a5, .ref a6, .ref a7, .ref a8, .int tol, .int sal])), (a5, .inr (3, [.int c0, .ref e0, .int 0])), (o0, .inl (cyL, 1, .inr (.inl (fo))))] [(cyL, .long)] sz)) (va_Qi (fun (r : Int32) (_ : Unit) => r = 1) (fun (_ : Unit) (t : State) => QW G [(o0, .inl (cyL, 1, .inr (.inl (fo))))] [(cyL, .long)] (va_A [(h0, .inr (12, [.ref a1, .ref a2, .ref a3, .ref a4, .ref a5, .ref a6, .ref a7, .ref a8, .int tol, .int sal])), (a5, .inr (3, [.int c0, .ref e0, .int 0])), (o0, .inl (cyL, 1, .inr (.inl (fo))))] sz) t) (va_A [(h0, .inr (12, [.ref a1, .ref a2, .ref a3, .ref a4, .ref a5, .ref a6, .ref a7, .ref a8, .int tol, .int sal])), (a5, .inr (3, [.int c0, .ref e0, .int 0])), (o0, .inl (cyL, 1, .inr (.inl (fo))))] sz)) 1 6 (va_A [(h0, .inr (12, [.ref a1, .ref a2, .ref a3, .ref a4, .ref a5, .ref a6, .ref a7, .ref a8, .int tol, .int sal])), (a5, .inr (3, [.int c0, .ref e0, .int 0])), (o0, .inl (cyL, 1, .inr (.inl (fo))))] sz) := by
  refine va_MetW (cc := cL_evidence) (maxL := 5) (ret := (Option.some Jvm.ClassFile.FieldType.int)) (hh := [((0 : Nat), (10 : Nat), (13 : Nat), (21 : Nat))]) (by decide) rfl ?_
  intro p e s m args below meth c s₁ B hml hv
  obtain ⟨rfl, rfl, hP, hK, hD0, hG⟩ := hv
  have hx := B.exec
  have hb := B.bytes
  have hr := B.returns
  have hts := atoms_spec (ws := wz_L_evidence) B.pre
  have htab := vx_table (x := yL_evidence) B (hts _ List.mem_cons_self)
  have hg : ∀ w ∈ lw_good, w.before _ s = true := fun w h => hts w (List.mem_cons_of_mem _ h)
  have hown : s.vm.findClass RL = some m.cls := findClass_of_methodNamed B.named
  have hlocks := B.notSynchronized
  have hD := hD0.self (sz := s.heap.size)
  generalize hAe : va_A [(h0, .inr (12, [.ref a1, .ref a2, .ref a3, .ref a4, .ref a5, .ref a6, .ref a7, .ref a8, .int tol, .int sal])), (a5, .inr (3, [.int c0, .ref e0, .int 0])), (o0, .inl (cyL, 1, .inr (.inl (fo))))] s.heap.size = A at hD hG ⊢
  have hA : ∀ q : Nat, s.heap.size ≤ q → A q := fun q h => by rw [← hAe]; exact Or.inr h
  have hS : va_S A s.heap s.heap [] := va_S.rf
  have hl := lv_entry ([.ref h0, .int p0, .int p1, .ref o0]) (n := 5) (Nat.le_of_ble_eq_true rfl)
  rw [lg_entry_eq]
  generalize (lg_sl ([.ref h0, .int p0, .int p1, .ref o0]) ++ List.replicate (5 - (lg_sl ([.ref h0, .int p0, .int p1, .ref o0])).length) Slot.unset).toArray = ls at hl ⊢
  have hl : lv_has ls 5 [(0, .ref h0), (1, .int p0), (2, .int p1), (3, .ref o0)] := hl
  refine lv_aload_n hx hb dL_evidence_0 rfl (lv_at hl 3 rfl) ?_
  refine lv_iconst (v := 0) hx hb dL_evidence_1 (by decide) ?_
  refine lv_aload_n hx hb dL_evidence_2 rfl (lv_at hl 0 rfl) ?_
  refine lv_iload_n hx hb dL_evidence_3 rfl (lv_at hl 1 rfl) ?_
  refine lv_iload_n hx hb dL_evidence_4 rfl (lv_at hl 2 rfl) ?_
  have hPc := hP.sub (ws' := [(h0, .inr (12, [.ref a1, .ref a2, .ref a3, .ref a4, .ref a5, .ref a6, .ref a7, .ref a8, .int tol, .int sal])), (a5, .inr (3, [.int c0, .ref e0, .int 0]))]) [0, 1] rfl
  have hKc := hK.sub (tys' := []) [] rfl
  refine vx_calli (vx_runV (As := [.int p0, .int p1]) (rest := [.int 0, .ref o0]) ⟨hx, hb, hml, hown, hts⟩ (k_X8_evidence l hfl G z h0 a1 a2 a3 a4 a5 a6 a7 a8 tol sal c0 e0 p0 p1 s.heap.size ) (cwV 2 hts (lw_goodApp (lw_4 q1021 q1022 q1023 q1) q1024) rfl rfl rfl (by decide +kernel) ⟨Nat.le_of_ble_eq_true rfl, Nat.le_of_ble_eq_true rfl⟩) ⟨PR.blind, va_recv hK hP (ci := 12) (q0 := 0) rfl rfl, PR.of hPc hKc hG hS hA [.ref h0, .int p0, .int p1]⟩ rfl rfl hl.1 rfl (lv_room (Nat.le_of_ble_eq_true rfl)) dL_evidence_5 ⟨Nat.le_of_ble_eq_true rfl, Nat.le_of_ble_eq_true rfl⟩) hS (fun q h9 h => zN.not h9 h) (fun q h => hA q (Nat.le_trans hS.1 h)) (fun q h9 h => zN.not h9 h) (fun E ce q9 ux t_4 H_1 locs ht hvm px_5 hE hz1 hk1 hS hq9 hv9 hcl9 => ?_) (fun r_2 u t_4 H_1 locs ht hvm hw_3 hB hz1 hk1 hS => ?_)
  · subst hE
    have hP := hP.grown hk1
    refine vx_widen (k := 1) (n := 6) (Nat.le_of_ble_eq_true rfl) (Nat.le_of_ble_eq_true rfl) ?_
    refine vx_catch (name := "java/lang/IndexOutOfBoundsException") hown [] ⟨0, 10, 13, 21⟩ [] (htab.trans rfl) (fun z9 h9 => absurd h9 List.not_mem_nil) (by decide) (by decide) (hg _ q518) (va_Nw.use rfl (hG.2.2.2.2.1 _ qf552)) hq9 hv9 hcl9 ?_
    refine lv_astore (lv' := [(4, .ref q9), (0, .ref h0), (1, .int p0), (2, .int p1), (3, .ref o0)]) hx hb dL_evidence_13 hl (by decide) rfl (fun ls hl => ?_)
    refine lv_iconst (v := 1) hx hb dL_evidence_15 (by decide) ?_
    refine W.widen (k := 1) (n := 6) (Nat.le_of_ble_eq_true rfl) (Nat.le_of_ble_eq_true rfl) ?_
    have hP9 := hP.sub (ws' := [(o0, .inl (cyL, 1, .inr (.inl (fo))))]) [2] rfl
    have hD9 := hD.sub (ws' := [(o0, .inl (cyL, 1, .inr (.inl (fo))))]) [2] (by decide) rfl
    have hK9 := hK.sub (tys' := [(cyL, .long)]) [0] rfl
    exact W.iret (v := 1) hx hb hr (fun t ht hW => ⟨⟨1, (), rfl, rfl, QW.of hP9 hK9 hD9 ht hW.alike⟩, hS.F ht⟩) hS.2.2 dL_evidence_16
  exact hw_3.elim

abbrev wz_L_merge : List Cond := .codeWith yL_merge cL_merge 7 (Option.some Jvm.ClassFile.FieldType.int) [((0 : Nat), (21 : Nat), (24 : Nat), (13 : Nat))] :: lw_good
set_option maxHeartbeats 4000000 in
set_option maxRecDepth 100000 in
/-- the law on merge of a fresh object -/
theorem k_L_merge (l : Launch) (hfl : l.stackTraces = false) (G : va_G) (z : Nat) (h0 : Nat) (a1 : Nat) (a2 : Nat) (a3 : Nat) (a4 : Nat) (a5 : Nat) (a6 : Nat) (a7 : Nat) (a8 : Nat) (tol : Int32) (sal : Int32) (b1 : Nat) (b2 : Nat) (b3 : Nat) (cyA : ClassId) (cyJ : ClassId) (fL : Nat → Int32) (p0 : Int32) (p1 : Int32) (p2 : Int32) (p3 : Int32) (o0 : Nat) (cyL : ClassId) (fo : Nat → Int64) (sz : Nat)  : Met l yL_merge wz_L_merge ({ frames := 9, cells := 4, slots := 24, locals := 149 }) (va_Pc [.ref h0, .int p0, .int p1, .int p2, .int p3, .ref o0] (PW G z [(h0, .inr (12, [.ref a1, .ref a2, .ref a3, .ref a4, .ref a5, .ref a6, .ref a7, .ref a8, .int tol, .int sal])), (a6, .inr (10, [.ref b1, .ref b2, .ref b3, .int 0])), (b1, .inl (cyA, 400, .inl (nI))), (b2, .inl (cyJ, 512, .inl (fL))), (o0, .inl (cyL, 1, .inr (.inl (fo))))] [(cyA, .int), (cyJ, .int), (cyL, .long)] sz)) (va_Qi (fun (r : Int32) (u : Nat → Int64) => ((okE p0 p1 ∧ okE p2 p3) ∧ r = 0 ∧ u 0 = (if 100 * p0 + p1 = 100 * p2 + p3 then (0 : Int64) else 1)) ∨ (¬ (okE p0 p1 ∧ okE p2 p3) ∧ r = 1)) (fun (u : Nat → Int64) (t : State) => QW G [(o0, .inl (cyL, 1, .inr (.inl (u))))] [(cyL, .long)] (va_A [(h0, .inr (12, [.ref a1, .ref a2, .ref a3, .ref a4, .ref a5, .ref a6, .ref a7, .ref a8, .int tol, .int sal])), (a6, .inr (10, [.ref b1, .ref b2, .ref b3, .int 0])), (b1, .inl (cyA, 400, .inl (nI))), (b2, .inl (cyJ, 512, .inl (fL))), (o0, .inl (cyL, 1, .inr (.inl (fo))))] sz) t) (va_A [(h0, .inr (12, [.ref a1, .ref a2, .ref a3, .ref a4, .ref a5, .ref a6, .ref a7, .ref a8, .int tol, .int sal])), (a6, .inr (10, [.ref b1, .ref b2, .ref b3, .int 0])), (b1, .inl (cyA, 400, .inl (nI))), (b2, .inl (cyJ, 512, .inl (fL))), (o0, .inl (cyL, 1, .inr (.inl (fo))))] sz)) 4 24 (va_A [(h0, .inr (12, [.ref a1, .ref a2, .ref a3, .ref a4, .ref a5, .ref a6, .ref a7, .ref a8, .int tol, .int sal])), (a6, .inr (10, [.ref b1, .ref b2, .ref b3, .int 0])), (b1, .inl (cyA, 400, .inl (nI))), (b2, .inl (cyJ, 512, .inl (fL))), (o0, .inl (cyL, 1, .inr (.inl (fo))))] sz) := by
  refine va_MetW (cc := cL_merge) (maxL := 7) (ret := (Option.some Jvm.ClassFile.FieldType.int)) (hh := [((0 : Nat), (21 : Nat), (24 : Nat), (13 : Nat))]) (by decide) rfl ?_
  intro p e s m args below meth c s₁ B hml hv
  obtain ⟨rfl, rfl, hP, hK, hD0, hG⟩ := hv
  have hx := B.exec
  have hb := B.bytes
  have hr := B.returns
  have hts := atoms_spec (ws := wz_L_merge) B.pre
  have htab := vx_table (x := yL_merge) B (hts _ List.mem_cons_self)
  have hg : ∀ w ∈ lw_good, w.before _ s = true := fun w h => hts w (List.mem_cons_of_mem _ h)
  have hown : s.vm.findClass RL = some m.cls := findClass_of_methodNamed B.named
  have hlocks := B.notSynchronized
  have hD := hD0.self (sz := s.heap.size)
  generalize hAe : va_A [(h0, .inr (12, [.ref a1, .ref a2, .ref a3, .ref a4, .ref a5, .ref a6, .ref a7, .ref a8, .int tol, .int sal])), (a6, .inr (10, [.ref b1, .ref b2, .ref b3, .int 0])), (b1, .inl (cyA, 400, .inl (nI))), (b2, .inl (cyJ, 512, .inl (fL))), (o0, .inl (cyL, 1, .inr (.inl (fo))))] s.heap.size = A at hD hG ⊢
  have hA : ∀ q : Nat, s.heap.size ≤ q → A q := fun q h => by rw [← hAe]; exact Or.inr h
  have hS : va_S A s.heap s.heap [] := va_S.rf
  have hl := lv_entry ([.ref h0, .int p0, .int p1, .int p2, .int p3, .ref o0]) (n := 7) (Nat.le_of_ble_eq_true rfl)
  rw [lg_entry_eq]
  generalize (lg_sl ([.ref h0, .int p0, .int p1, .int p2, .int p3, .ref o0]) ++ List.replicate (7 - (lg_sl ([.ref h0, .int p0, .int p1, .int p2, .int p3, .ref o0])).length) Slot.unset).toArray = ls at hl ⊢
  have hl : lv_has ls 7 [(0, .ref h0), (1, .int p0), (2, .int p1), (3, .int p2), (4, .int p3), (5, .ref o0)] := hl
  refine lv_aload hx hb dL_merge_0 (lv_at hl 5 rfl) ?_
  refine lv_iconst (v := 0) hx hb dL_merge_2 (by decide) ?_
  refine lv_aload_n hx hb dL_merge_3 rfl (lv_at hl 0 rfl) ?_
  refine lv_iload_n hx hb dL_merge_4 rfl (lv_at hl 1 rfl) ?_
  refine lv_iload_n hx hb dL_merge_5 rfl (lv_at hl 2 rfl) ?_
  refine lv_iload_n hx hb dL_merge_6 rfl (lv_at hl 3 rfl) ?_
  refine lv_iload hx hb dL_merge_7 (lv_at hl 4 rfl) ?_
  have hPc := hP.sub (ws' := [(h0, .inr (12, [.ref a1, .ref a2, .ref a3, .ref a4, .ref a5, .ref a6, .ref a7, .ref a8, .int tol, .int sal])), (a6, .inr (10, [.ref b1, .ref b2, .ref b3, .int 0])), (b1, .inl (cyA, 400, .inl (nI))), (b2, .inl (cyJ, 512, .inl (fL)))]) [0, 1, 2, 3] rfl
  have hKc := hK.sub (tys' := [(cyA, .int), (cyJ, .int)]) [0, 1] rfl
  have hDc := hD.sub (ws' := [(h0, .inr (12, [.ref a1, .ref a2, .ref a3, .ref a4, .ref a5, .ref a6, .ref a7, .ref a8, .int tol, .int sal])), (a6, .inr (10, [.ref b1, .ref b2, .ref b3, .int 0])), (b1, .inl (cyA, 400, .inl (nI))), (b2, .inl (cyJ, 512, .inl (fL)))]) [0, 1, 2, 3] (by decide) rfl
  have hFc := va_free (wc := [(h0, .inr (12, [.ref a1, .ref a2, .ref a3, .ref a4, .ref a5, .ref a6, .ref a7, .ref a8, .int tol, .int sal])), (a6, .inr (10, [.ref b1, .ref b2, .ref b3, .int 0])), (b1, .inl (cyA, 400, .inl (nI))), (b2, .inl (cyJ, 512, .inl (fL)))]) hD hS hA [0, 1, 2, 3] rfl
  refine vx_calli (vx_runV (As := [.int p0, .int p1, .int p2, .int p3]) (rest := [.int 0, .ref o0]) ⟨hx, hb, hml, hown, hts⟩ (k_X8_merge l hfl G z h0 a1 a2 a3 a4 a5 a6 a7 a8 tol sal b1 b2 b3 cyA cyJ fL p0 p1 p2 p3 s.heap.size ) (cwV 4 hts (lw_goodApp (lw_4 q1028 q1029 q1030 q1) q1031) rfl rfl rfl (by decide +kernel) ⟨Nat.le_of_ble_eq_true rfl, Nat.le_of_ble_eq_true rfl⟩) ⟨PW.blind, va_recv hK hP (ci := 12) (q0 := 0) rfl rfl, PW.of hPc hKc hDc hG hS hFc [.ref h0, .int p0, .int p1, .int p2, .int p3]⟩ rfl rfl hl.1 rfl (lv_room (Nat.le_of_ble_eq_true rfl)) dL_merge_9 ⟨Nat.le_of_ble_eq_true rfl, Nat.le_of_ble_eq_true rfl⟩) hS (fun q _ h => hFc q h) hFc (fun q _ h => hFc q h) (fun E ce q9 ux t_4 H_1 locs ht hvm px_5 hE hz1 hk1 hS hq9 hv9 hcl9 => ?_) (fun r_2 u t_4 H_1 locs ht hvm hw_3 hB hz1 hk1 hS => ?_)
  · subst hE
    obtain ⟨hP, hD, hK⟩ := QW.join (wr := [(o0, .inl (cyL, 1, .inr (.inl (fo))))]) (w1 := []) (ty1 := []) hP hD hK [0, 1, 2, 3] [4] rfl rfl (by decide) (by decide) hk1 hFc ht hvm (QW.nil hK hvm)
    have hP : va_P G vwCl ([(o0, .inl (cyL, 1, .inr (.inl (fo))))]) H_1 := hP
    have hD : va_D A ([(o0, .inl (cyL, 1, .inr (.inl (fo))))]) := hD
    have hK : va_K G vwCl [(cyA, .int), (cyJ, .int), (cyL, .long)] s := hK
    refine vx_widen (k := 4) (n := 24) (Nat.le_of_ble_eq_true rfl) (Nat.le_of_ble_eq_true rfl) ?_
    refine vx_catch (name := "java/lang/IllegalArgumentException") hown [] ⟨0, 21, 24, 13⟩ [] (htab.trans rfl) (fun z9 h9 => absurd h9 List.not_mem_nil) (by decide) (by decide) (hg _ q302) (va_Nw.use rfl (hG.2.2.2.2.1 _ qf313)) hq9 hv9 hcl9 ?_
    refine lv_astore (lv' := [(6, .ref q9), (0, .ref h0), (1, .int p0), (2, .int p1), (3, .int p2), (4, .int p3), (5, .ref o0)]) hx hb dL_merge_24 hl (by decide) rfl (fun ls hl => ?_)
    refine lv_iconst (v := 1) hx hb dL_merge_26 (by decide) ?_
    refine W.widen (k := 4) (n := 24) (Nat.le_of_ble_eq_true rfl) (Nat.le_of_ble_eq_true rfl) ?_
    have hP9 := hP.sub (ws' := [(o0, .inl (cyL, 1, .inr (.inl (fo))))]) [0] rfl
    have hD9 := hD.sub (ws' := [(o0, .inl (cyL, 1, .inr (.inl (fo))))]) [0] (by decide) rfl
    have hK9 := hK.sub (tys' := [(cyL, .long)]) [2] rfl
    exact W.iret (v := 1) hx hb hr (fun t ht hW => ⟨⟨1, fo, rfl, Or.inr ⟨px_5, rfl⟩, QW.of hP9 hK9 hD9 ht hW.alike⟩, hS.F ht⟩) hS.2.2 dL_merge_27
  obtain ⟨hP, hD, hK⟩ := QW.join (wr := [(o0, .inl (cyL, 1, .inr (.inl (fo))))]) (w1 := []) hP hD hK [0, 1, 2, 3] [4] rfl rfl (by decide) (by decide) hk1 hFc ht hvm hB
  have hP : va_P G vwCl ([(o0, .inl (cyL, 1, .inr (.inl (fo))))]) H_1 := hP
  have hD : va_D A ([(o0, .inl (cyL, 1, .inr (.inl (fo))))]) := hD
  have hK : va_K G vwCl [(cyA, .int), (cyJ, .int), (cyL, .long)] s := hK
  refine W.widen (k := 4) (n := 24) (Nat.le_of_ble_eq_true rfl) (Nat.le_of_ble_eq_true rfl) ?_
  obtain ⟨he9, hphi9⟩ := hw_3
  rcases z_ite2 he9 with ⟨hc9, rfl⟩ | ⟨hc9, rfl⟩
  · refine lv_if_eq (tgt := 19) hx hb dL_merge_12 (by decide) (fun c_6 => ?_) (fun c_6 => absurd rfl c_6)
    refine lv_lconst (v := 0) hx hb dL_merge_19 (by decide) ?_
    refine va_last hx hb hK hP hD hS 0 2 rfl rfl (by unfold vp_in; decide +kernel) dL_merge_20 (fun H_7 locs hP hD hS => ?_)
    have hP : va_P G vwCl ([(o0, .inl (cyL, 1, .inr (.inl (vp_updL (fo) (0 : Int32).toNatClampNeg (0)))))]) H_7 := hP
    have hD : va_D A ([(o0, .inl (cyL, 1, .inr (.inl (vp_updL (fo) (0 : Int32).toNatClampNeg (0)))))]) := hD
    refine lv_goto (tgt := 28) hx hb dL_merge_21 (by decide) ?_
    refine lv_iconst (v := 0) hx hb dL_merge_28 (by decide) ?_
    refine W.widen (k := 4) (n := 24) (Nat.le_of_ble_eq_true rfl) (Nat.le_of_ble_eq_true rfl) ?_
    have hP9 := hP.sub (ws' := [(o0, .inl (cyL, 1, .inr (.inl ((vp_updL (fo) (0 : Int32).toNatClampNeg (0))))))]) [0] rfl
    have hD9 := hD.sub (ws' := [(o0, .inl (cyL, 1, .inr (.inl ((vp_updL (fo) (0 : Int32).toNatClampNeg (0))))))]) [0] (by decide) rfl
    have hK9 := hK.sub (tys' := [(cyL, .long)]) [2] rfl
    exact W.iret (v := 0) hx hb hr (fun t ht hW => ⟨⟨0, vp_updL (fo) (0 : Int32).toNatClampNeg (0), rfl, Or.inl ⟨hphi9, rfl, z_updL0.trans (if_pos hc9).symm⟩, QW.of hP9 hK9 hD9 ht hW.alike⟩, hS.F ht⟩) hS.2.2 dL_merge_29
  · refine lv_if_eq (tgt := 19) hx hb dL_merge_12 (by decide) (fun c_8 => absurd c_8 (by decide)) (fun c_8 => ?_)
    refine lv_lconst (v := 1) hx hb dL_merge_15 (by decide) ?_
    refine lv_goto (tgt := 20) hx hb dL_merge_16 (by decide) ?_
    refine va_last hx hb hK hP hD hS 0 2 rfl rfl (by unfold vp_in; decide +kernel) dL_merge_20 (fun H_9 locs hP hD hS => ?_)
    have hP : va_P G vwCl ([(o0, .inl (cyL, 1, .inr (.inl (vp_updL (fo) (0 : Int32).toNatClampNeg (1)))))]) H_9 := hP
    have hD : va_D A ([(o0, .inl (cyL, 1, .inr (.inl (vp_updL (fo) (0 : Int32).toNatClampNeg (1)))))]) := hD
    refine lv_goto (tgt := 28) hx hb dL_merge_21 (by decide) ?_
    refine lv_iconst (v := 0) hx hb dL_merge_28 (by decide) ?_
    refine W.widen (k := 4) (n := 24) (Nat.le_of_ble_eq_true rfl) (Nat.le_of_ble_eq_true rfl) ?_
    have hP9 := hP.sub (ws' := [(o0, .inl (cyL, 1, .inr (.inl ((vp_updL (fo) (0 : Int32).toNatClampNeg (1))))))]) [0] rfl
    have hD9 := hD.sub (ws' := [(o0, .inl (cyL, 1, .inr (.inl ((vp_updL (fo) (0 : Int32).toNatClampNeg (1))))))]) [0] (by decide) rfl
    have hK9 := hK.sub (tys' := [(cyL, .long)]) [2] rfl
    exact W.iret (v := 0) hx hb hr (fun t ht hW => ⟨⟨0, vp_updL (fo) (0 : Int32).toNatClampNeg (1), rfl, Or.inl ⟨hphi9, rfl, z_updL0.trans (if_neg hc9).symm⟩, QW.of hP9 hK9 hD9 ht hW.alike⟩, hS.F ht⟩) hS.2.2 dL_merge_29

abbrev wz_L_unmerge : List Cond := .codeWith yL_unmerge cL_unmerge 3 (Option.some Jvm.ClassFile.FieldType.int) [((0 : Nat), (8 : Nat), (11 : Nat), (50 : Nat))] :: lw_good
set_option maxHeartbeats 4000000 in
set_option maxRecDepth 100000 in
/-- the law on unmerge of a fresh object: it throws -/
theorem k_L_unmerge (l : Launch) (hfl : l.stackTraces = false) (G : va_G) (z : Nat) (h0 : Nat) (a1 : Nat) (a2 : Nat) (a3 : Nat) (a4 : Nat) (a5 : Nat) (a6 : Nat) (a7 : Nat) (a8 : Nat) (tol : Int32) (sal : Int32) (b1 : Nat) (b2 : Nat) (b3 : Nat) (o0 : Nat) (cyL : ClassId) (fo : Nat → Int64) (sz : Nat)  : Met l yL_unmerge wz_L_unmerge ({ frames := 7, cells := 1, slots := 6, locals := 102 }) (va_Pc [.ref h0, .ref o0] (PW G z [(h0, .inr (12, [.ref a1, .ref a2, .ref a3, .ref a4, .ref a5, .ref a6, .ref a7, .ref a8, .int tol, .int sal])), (a6, .inr (10, [.ref b1, .ref b2, .ref b3, .int 0])), (o0, .inl (cyL, 1, .inr (.inl (fo))))] [(cyL, .long)] sz)) (va_Qi (fun (r : Int32) (_ : Unit) => r = 1) (fun (_ : Unit) (t : State) => QW G [(o0, .inl (cyL, 1, .inr (.inl (fo))))] [(cyL, .long)] (va_A [(h0, .inr (12, [.ref a1, .ref a2, .ref a3, .ref a4, .ref a5, .ref a6, .ref a7, .ref a8, .int tol, .int sal])), (a6, .inr (10, [.ref b1, .ref b2, .ref b3, .int 0])), (o0, .inl (cyL, 1, .inr (.inl (fo))))] sz) t) (va_A [(h0, .inr (12, [.ref a1, .ref a2, .ref a3, .ref a4, .ref a5, .ref a6, .ref a7, .ref a8, .int tol, .int sal])), (a6, .inr (10, [.ref b1, .ref b2, .ref b3, .int 0])), (o0, .inl (cyL, 1, .inr (.inl (fo))))] sz)) 1 6 (va_A [(h0, .inr (12, [.ref a1, .ref a2, .ref a3, .ref a4, .ref a5, .ref a6, .ref a7, .ref a8, .int tol, .int sal])), (a6, .inr (10, [.ref b1, .ref b2, .ref b3, .int 0])), (o0, .inl (cyL, 1, .inr (.inl (fo))))] sz) := by
  refine va_MetW (cc := cL_unmerge) (maxL := 3) (ret := (Option.some Jvm.ClassFile.FieldType.int)) (hh := [((0 : Nat), (8 : Nat), (11 : Nat), (50 : Nat))]) (by decide) rfl ?_
  intro p e s m args below meth c s₁ B hml hv
  obtain ⟨rfl, rfl, hP, hK, hD0, hG⟩ := hv
  have hx := B.exec
  have hb := B.bytes
  have hr := B.returns
  have hts := atoms_spec (ws := wz_L_unmerge) B.pre
  have htab := vx_table (x := yL_unmerge) B (hts _ List.mem_cons_self)
  have hg : ∀ w ∈ lw_good, w.before _ s = true := fun w h => hts w (List.mem_cons_of_mem _ h)
  have hown : s.vm.findClass RL = some m.cls := findClass_of_methodNamed B.named
  have hlocks := B.notSynchronized
  have hD := hD0.self (sz := s.heap.size)
  generalize hAe : va_A [(h0, .inr (12, [.ref a1, .ref a2, .ref a3, .ref a4, .ref a5, .ref a6, .ref a7, .ref a8, .int tol, .int sal])), (a6, .inr (10, [.ref b1, .ref b2, .ref b3, .int 0])), (o0, .inl (cyL, 1, .inr (.inl (fo))))] s.heap.size = A at hD hG ⊢
  have hA : ∀ q : Nat, s.heap.size ≤ q → A q := fun q h => by rw [← hAe]; exact Or.inr h
  have hS : va_S A s.heap s.heap [] := va_S.rf
  have hl := lv_entry ([.ref h0, .ref o0]) (n := 3) (Nat.le_of_ble_eq_true rfl)
  rw [lg_entry_eq]
  generalize (lg_sl ([.ref h0, .ref o0]) ++ List.replicate (3 - (lg_sl ([.ref h0, .ref o0])).length) Slot.unset).toArray = ls at hl ⊢
  have hl : lv_has ls 3 [(0, .ref h0), (1, .ref o0)] := hl
  refine lv_aload_n hx hb dL_unmerge_0 rfl (lv_at hl 1 rfl) ?_
  refine lv_iconst (v := 0) hx hb dL_unmerge_1 (by decide) ?_
  refine lv_aload_n hx hb dL_unmerge_2 rfl (lv_at hl 0 rfl) ?_
  have hPc := hP.sub (ws' := [(h0, .inr (12, [.ref a1, .ref a2, .ref a3, .ref a4, .ref a5, .ref a6, .ref a7, .ref a8, .int tol, .int sal])), (a6, .inr (10, [.ref b1, .ref b2, .ref b3, .int 0]))]) [0, 1] rfl
  have hKc := hK.sub (tys' := []) [] rfl
  refine vx_calli (vx_runV (As := []) (rest := [.int 0, .ref o0]) ⟨hx, hb, hml, hown, hts⟩ (k_X8_unmerge l hfl G z h0 a1 a2 a3 a4 a5 a6 a7 a8 tol sal b1 b2 b3 s.heap.size ) (cwV 0 hts (lw_goodApp (lw_4 q1044 q1045 q1046 q1) q1047) rfl rfl rfl (by decide +kernel) ⟨Nat.le_of_ble_eq_true rfl, Nat.le_of_ble_eq_true rfl⟩) ⟨PR.blind, va_recv hK hP (ci := 12) (q0 := 0) rfl rfl, PR.of hPc hKc hG hS hA [.ref h0]⟩ rfl rfl hl.1 rfl (lv_room (Nat.le_of_ble_eq_true rfl)) dL_unmerge_3 ⟨Nat.le_of_ble_eq_true rfl, Nat.le_of_ble_eq_true rfl⟩) hS (fun q h9 h => zN.not h9 h) (fun q h => hA q (Nat.le_trans hS.1 h)) (fun q h9 h => zN.not h9 h) (fun E ce q9 ux t_4 H_1 locs ht hvm px_5 hE hz1 hk1 hS hq9 hv9 hcl9 => ?_) (fun r_2 u t_4 H_1 locs ht hvm hw_3 hB hz1 hk1 hS => ?_)
  · subst hE
    have hP := hP.grown hk1
    refine vx_widen (k := 1) (n := 6) (Nat.le_of_ble_eq_true rfl) (Nat.le_of_ble_eq_true rfl) ?_
    refine vx_catch (name := "java/util/NoSuchElementException") hown [] ⟨0, 8, 11, 50⟩ [] (htab.trans rfl) (fun z9 h9 => absurd h9 List.not_mem_nil) (by decide) (by decide) (hg _ q678) (va_Nw.use rfl (hG.2.2.2.2.1 _ qf685)) hq9 hv9 hcl9 ?_
    refine lv_astore_n (lv' := [(2, .ref q9), (0, .ref h0), (1, .ref o0)]) hx hb dL_unmerge_11 rfl hl (by decide) rfl (fun ls hl => ?_)
    refine lv_iconst (v := 1) hx hb dL_unmerge_12 (by decide) ?_
    refine W.widen (k := 1) (n := 6) (Nat.le_of_ble_eq_true rfl) (Nat.le_of_ble_eq_true rfl) ?_
    have hP9 := hP.sub (ws' := [(o0, .inl (cyL, 1, .inr (.inl (fo))))]) [2] rfl
    have hD9 := hD.sub (ws' := [(o0, .inl (cyL, 1, .inr (.inl (fo))))]) [2] (by decide) rfl
    have hK9 := hK.sub (tys' := [(cyL, .long)]) [0] rfl
    exact W.iret (v := 1) hx hb hr (fun t ht hW => ⟨⟨1, (), rfl, rfl, QW.of hP9 hK9 hD9 ht hW.alike⟩, hS.F ht⟩) hS.2.2 dL_unmerge_13
  exact hw_3.elim

abbrev wz_L_entry : List Cond := .codeWith yL_entry cL_entry 5 (Option.some Jvm.ClassFile.FieldType.int) [((0 : Nat), (10 : Nat), (13 : Nat), (13 : Nat))] :: lw_good
set_option maxHeartbeats 4000000 in
set_option maxRecDepth 100000 in
/-- the law on entry of a fresh object -/
theorem k_L_entry (l : Launch) (hfl : l.stackTraces = false) (G : va_G) (z : Nat) (h0 : Nat) (a1 : Nat) (a2 : Nat) (a3 : Nat) (a4 : Nat) (a5 : Nat) (a6 : Nat) (a7 : Nat) (a8 : Nat) (tol : Int32) (sal : Int32) (b1 : Nat) (b2 : Nat) (b3 : Nat) (cyA : ClassId) (p0 : Int32) (p1 : Int32) (o0 : Nat) (cyL : ClassId) (fo : Nat → Int64) (sz : Nat)  : Met l yL_entry wz_L_entry ({ frames := 9, cells := 2, slots := 12, locals := 147 }) (va_Pc [.ref h0, .int p0, .int p1, .ref o0] (PW G z [(h0, .inr (12, [.ref a1, .ref a2, .ref a3, .ref a4, .ref a5, .ref a6, .ref a7, .ref a8, .int tol, .int sal])), (a6, .inr (10, [.ref b1, .ref b2, .ref b3, .int 0])), (b1, .inl (cyA, 400, .inl (nI))), (o0, .inl (cyL, 1, .inr (.inl (fo))))] [(cyA, .int), (cyL, .long)] sz)) (va_Qi (fun (r : Int32) (u : Nat → Int64) => (okE p0 p1 ∧ r = 0 ∧ u 0 = (100 * p0 + p1).toInt64) ∨ (¬ okE p0 p1 ∧ r = 1)) (fun (u : Nat → Int64) (t : State) => QW G [(o0, .inl (cyL, 1, .inr (.inl (u))))] [(cyL, .long)] (va_A [(h0, .inr (12, [.ref a1, .ref a2, .ref a3, .ref a4, .ref a5, .ref a6, .ref a7, .ref a8, .int tol, .int sal])), (a6, .inr (10, [.ref b1, .ref b2, .ref b3, .int 0])), (b1, .inl (cyA, 400, .inl (nI))), (o0, .inl (cyL, 1, .inr (.inl (fo))))] sz) t) (va_A [(h0, .inr (12, [.ref a1, .ref a2, .ref a3, .ref a4, .ref a5, .ref a6, .ref a7, .ref a8, .int tol, .int sal])), (a6, .inr (10, [.ref b1, .ref b2, .ref b3, .int 0])), (b1, .inl (cyA, 400, .inl (nI))), (o0, .inl (cyL, 1, .inr (.inl (fo))))] sz)) 2 12 (va_A [(h0, .inr (12, [.ref a1, .ref a2, .ref a3, .ref a4, .ref a5, .ref a6, .ref a7, .ref a8, .int tol, .int sal])), (a6, .inr (10, [.ref b1, .ref b2, .ref b3, .int 0])), (b1, .inl (cyA, 400, .inl (nI))), (o0, .inl (cyL, 1, .inr (.inl (fo))))] sz) := by
  refine va_MetW (cc := cL_entry) (maxL := 5) (ret := (Option.some Jvm.ClassFile.FieldType.int)) (hh := [((0 : Nat), (10 : Nat), (13 : Nat), (13 : Nat))]) (by decide) rfl ?_
  intro p e s m args below meth c s₁ B hml hv
  obtain ⟨rfl, rfl, hP, hK, hD0, hG⟩ := hv
  have hx := B.exec
  have hb := B.bytes
  have hr := B.returns
  have hts := atoms_spec (ws := wz_L_entry) B.pre
  have htab := vx_table (x := yL_entry) B (hts _ List.mem_cons_self)
  have hg : ∀ w ∈ lw_good, w.before _ s = true := fun w h => hts w (List.mem_cons_of_mem _ h)
  have hown : s.vm.findClass RL = some m.cls := findClass_of_methodNamed B.named
  have hlocks := B.notSynchronized
  have hD := hD0.self (sz := s.heap.size)
  generalize hAe : va_A [(h0, .inr (12, [.ref a1, .ref a2, .ref a3, .ref a4, .ref a5, .ref a6, .ref a7, .ref a8, .int tol, .int sal])), (a6, .inr (10, [.ref b1, .ref b2, .ref b3, .int 0])), (b1, .inl (cyA, 400, .inl (nI))), (o0, .inl (cyL, 1, .inr (.inl (fo))))] s.heap.size = A at hD hG ⊢
  have hA : ∀ q : Nat, s.heap.size ≤ q → A q := fun q h => by rw [← hAe]; exact Or.inr h
  have hS : va_S A s.heap s.heap [] := va_S.rf
  have hl := lv_entry ([.ref h0, .int p0, .int p1, .ref o0]) (n := 5) (Nat.le_of_ble_eq_true rfl)
  rw [lg_entry_eq]
  generalize (lg_sl ([.ref h0, .int p0, .int p1, .ref o0]) ++ List.replicate (5 - (lg_sl ([.ref h0, .int p0, .int p1, .ref o0])).length) Slot.unset).toArray = ls at hl ⊢
  have hl : lv_has ls 5 [(0, .ref h0), (1, .int p0), (2, .int p1), (3, .ref o0)] := hl
  refine lv_aload_n hx hb dL_entry_0 rfl (lv_at hl 3 rfl) ?_
  refine lv_iconst (v := 0) hx hb dL_entry_1 (by decide) ?_
  refine lv_aload_n hx hb dL_entry_2 rfl (lv_at hl 0 rfl) ?_
  refine lv_iload_n hx hb dL_entry_3 rfl (lv_at hl 1 rfl) ?_
  refine lv_iload_n hx hb dL_entry_4 rfl (lv_at hl 2 rfl) ?_
  have hPc := hP.sub (ws' := [(h0, .inr (12, [.ref a1, .ref a2, .ref a3, .ref a4, .ref a5, .ref a6, .ref a7, .ref a8, .int tol, .int sal])), (a6, .inr (10, [.ref b1, .ref b2, .ref b3, .int 0])), (b1, .inl (cyA, 400, .inl (nI)))]) [0, 1, 2] rfl
  have hKc := hK.sub (tys' := [(cyA, .int)]) [0] rfl
  refine vx_calli (vx_runV (As := [.int p0, .int p1]) (rest := [.int 0, .ref o0]) ⟨hx, hb, hml, hown, hts⟩ (k_X8_entry l hfl G z h0 a1 a2 a3 a4 a5 a6 a7 a8 tol sal b1 b2 b3 cyA p0 p1 s.heap.size ) (cwV 2 hts (lw_goodApp (lw_4 q1056 q1057 q1058 q1) q1059) rfl rfl rfl (by decide +kernel) ⟨Nat.le_of_ble_eq_true rfl, Nat.le_of_ble_eq_true rfl⟩) ⟨PR.blind, va_recv hK hP (ci := 12) (q0 := 0) rfl rfl, PR.of hPc hKc hG hS hA [.ref h0, .int p0, .int p1]⟩ rfl rfl hl.1 rfl (lv_room (Nat.le_of_ble_eq_true rfl)) dL_entry_5 ⟨Nat.le_of_ble_eq_true rfl, Nat.le_of_ble_eq_true rfl⟩) hS (fun q h9 h => zN.not h9 h) (fun q h => hA q (Nat.le_trans hS.1 h)) (fun q h9 h => zN.not h9 h) (fun E ce q9 ux t_4 H_1 locs ht hvm px_5 hE hz1 hk1 hS hq9 hv9 hcl9 => ?_) (fun r_2 u t_4 H_1 locs ht hvm hw_3 hB hz1 hk1 hS => ?_)
  · subst hE
    have hP := hP.grown hk1
    refine vx_widen (k := 2) (n := 12) (Nat.le_of_ble_eq_true rfl) (Nat.le_of_ble_eq_true rfl) ?_
    refine vx_catch (name := "java/lang/IllegalArgumentException") hown [] ⟨0, 10, 13, 13⟩ [] (htab.trans rfl) (fun z9 h9 => absurd h9 List.not_mem_nil) (by decide) (by decide) (hg _ q302) (va_Nw.use rfl (hG.2.2.2.2.1 _ qf313)) hq9 hv9 hcl9 ?_
    refine lv_astore (lv' := [(4, .ref q9), (0, .ref h0), (1, .int p0), (2, .int p1), (3, .ref o0)]) hx hb dL_entry_13 hl (by decide) rfl (fun ls hl => ?_)
    refine lv_iconst (v := 1) hx hb dL_entry_15 (by decide) ?_
    refine W.widen (k := 2) (n := 12) (Nat.le_of_ble_eq_true rfl) (Nat.le_of_ble_eq_true rfl) ?_
    have hP9 := hP.sub (ws' := [(o0, .inl (cyL, 1, .inr (.inl (fo))))]) [3] rfl
    have hD9 := hD.sub (ws' := [(o0, .inl (cyL, 1, .inr (.inl (fo))))]) [3] (by decide) rfl
    have hK9 := hK.sub (tys' := [(cyL, .long)]) [1] rfl
    exact W.iret (v := 1) hx hb hr (fun t ht hW => ⟨⟨1, fo, rfl, Or.inr ⟨px_5, rfl⟩, QW.of hP9 hK9 hD9 ht hW.alike⟩, hS.F ht⟩) hS.2.2 dL_entry_16
  have hP := hP.grown hk1
  refine W.widen (k := 2) (n := 12) (Nat.le_of_ble_eq_true rfl) (Nat.le_of_ble_eq_true rfl) ?_
  obtain ⟨he9, hphi9⟩ := hw_3
  refine lv_i2l hx hb dL_entry_8 rfl ?_
  refine va_last hx hb hK hP hD hS 3 1 rfl rfl (by unfold vp_in; decide +kernel) dL_entry_9 (fun H_6 locs hP hD hS => ?_)
  have hP : va_P G vwCl ([(h0, .inr (12, [.ref a1, .ref a2, .ref a3, .ref a4, .ref a5, .ref a6, .ref a7, .ref a8, .int tol, .int sal])), (a6, .inr (10, [.ref b1, .ref b2, .ref b3, .int 0])), (b1, .inl (cyA, 400, .inl (nI))), (o0, .inl (cyL, 1, .inr (.inl (vp_updL (fo) (0 : Int32).toNatClampNeg ((r_2).toInt64)))))]) H_6 := hP
  have hD : va_D A ([(h0, .inr (12, [.ref a1, .ref a2, .ref a3, .ref a4, .ref a5, .ref a6, .ref a7, .ref a8, .int tol, .int sal])), (a6, .inr (10, [.ref b1, .ref b2, .ref b3, .int 0])), (b1, .inl (cyA, 400, .inl (nI))), (o0, .inl (cyL, 1, .inr (.inl (vp_updL (fo) (0 : Int32).toNatClampNeg ((r_2).toInt64)))))]) := hD
  refine lv_goto (tgt := 17) hx hb dL_entry_10 (by decide) ?_
  refine lv_iconst (v := 0) hx hb dL_entry_17 (by decide) ?_
  refine W.widen (k := 2) (n := 12) (Nat.le_of_ble_eq_true rfl) (Nat.le_of_ble_eq_true rfl) ?_
  have hP9 := hP.sub (ws' := [(o0, .inl (cyL, 1, .inr (.inl ((vp_updL (fo) (0 : Int32).toNatClampNeg ((r_2).toInt64))))))]) [3] rfl
  have hD9 := hD.sub (ws' := [(o0, .inl (cyL, 1, .inr (.inl ((vp_updL (fo) (0 : Int32).toNatClampNeg ((r_2).toInt64))))))]) [3] (by decide) rfl
  have hK9 := hK.sub (tys' := [(cyL, .long)]) [1] rfl
  exact W.iret (v := 0) hx hb hr (fun t ht hW => ⟨⟨0, vp_updL (fo) (0 : Int32).toNatClampNeg ((r_2).toInt64), rfl, Or.inl ⟨hphi9, rfl, z_updL0.trans (by rw [he9])⟩, QW.of hP9 hK9 hD9 ht hW.alike⟩, hS.F ht⟩) hS.2.2 dL_entry_18

abbrev wz_L_claim : List Cond := .codeWith yL_claim cL_claim 6 (Option.some Jvm.ClassFile.FieldType.int) [((0 : Nat), (12 : Nat), (15 : Nat), (21 : Nat)), ((0 : Nat), (12 : Nat), (19 : Nat), (13 : Nat)), ((0 : Nat), (12 : Nat), (23 : Nat), (27 : Nat)), ((0 : Nat), (12 : Nat), (27 : Nat), (15 : Nat))] :: lw_good
set_option maxHeartbeats 4000000 in
set_option maxRecDepth 100000 in
/-- the law on claim of a fresh object: it throws -/
theorem k_L_claim (l : Launch) (hfl : l.stackTraces = false) (G : va_G) (z : Nat) (h0 : Nat) (a1 : Nat) (a2 : Nat) (a3 : Nat) (a4 : Nat) (a5 : Nat) (a6 : Nat) (a7 : Nat) (a8 : Nat) (tol : Int32) (sal : Int32) (c0 : Int32) (e0 : Nat) (p0 : Int32) (p1 : Int32) (p2 : Int32) (o0 : Nat) (cyL : ClassId) (fo : Nat → Int64) (sz : Nat)  : Met l yL_claim wz_L_claim ({ frames := 8, cells := 1, slots := 6, locals := 126 }) (va_Pc [.ref h0, .int p0, .int p1, .int p2, .ref o0] (PW G z [(h0, .inr (12, [.ref a1, .ref a2, .ref a3, .ref a4, .ref a5, .ref a6, .ref a7, .ref a8, .int tol, .int sal])), (a4, .inr (3, [.int c0, .ref e0, .int 0])), (o0, .inl (cyL, 1, .inr (.inl (fo))))] [(cyL, .long)] sz)) (va_Qi (fun (r : Int32) (_ : Unit) => r = 1) (fun (_ : Unit) (t : State) => QW G [(o0, .inl (cyL, 1, .inr (.inl (fo))))] [(cyL, .long)] (va_A [(h0, .inr (12, [.ref a1, .ref a2, .ref a3, .ref a4, .ref a5, .ref a6, .ref a7, .ref a8, .int tol, .int sal])), (a4, .inr (3, [.int c0, .ref e0, .int 0])), (o0, .inl (cyL, 1, .inr (.inl (fo))))] sz) t) (va_A [(h0, .inr (12, [.ref a1, .ref a2, .ref a3, .ref a4, .ref a5, .ref a6, .ref a7, .ref a8, .int tol, .int sal])), (a4, .inr (3, [.int c0, .ref e0, .int 0])), (o0, .inl (cyL, 1, .inr (.inl (fo))))] sz)) 1 6 (va_A [(h0, .inr (12, [.ref a1, .ref a2, .ref a3, .ref a4, .ref a5, .ref a6, .ref a7, .ref a8, .int tol, .int sal])), (a4, .inr (3, [.int c0, .ref e0, .int 0])), (o0, .inl (cyL, 1, .inr (.inl (fo))))] sz) := by
  refine va_MetW (cc := cL_claim) (maxL := 6) (ret := (Option.some Jvm.ClassFile.FieldType.int)) (hh := [((0 : Nat), (12 : Nat), (15 : Nat), (21 : Nat)), ((0 : Nat), (12 : Nat), (19 : Nat), (13 : Nat)), ((0 : Nat), (12 : Nat), (23 : Nat), (27 : Nat)), ((0 : Nat), (12 : Nat), (27 : Nat), (15 : Nat))]) (by decide) rfl ?_
  intro p e s m args below meth c s₁ B hml hv
  obtain ⟨rfl, rfl, hP, hK, hD0, hG⟩ := hv
  have hx := B.exec
  have hb := B.bytes
  have hr := B.returns
  have hts := atoms_spec (ws := wz_L_claim) B.pre
  have htab := vx_table (x := yL_claim) B (hts _ List.mem_cons_self)
  have hg : ∀ w ∈ lw_good, w.before _ s = true := fun w h => hts w (List.mem_cons_of_mem _ h)
  have hown : s.vm.findClass RL = some m.cls := findClass_of_methodNamed B.named
  have hlocks := B.notSynchronized
  have hD := hD0.self (sz := s.heap.size)
  generalize hAe : va_A [(h0, .inr (12, [.ref a1, .ref a2, .ref a3, .ref a4, .ref a5, .ref a6, .ref a7, .ref a8, .int tol, .int sal])), (a4, .inr (3, [.int c0, .ref e0, .int 0])), (o0, .inl (cyL, 1, .inr (.inl (fo))))] s.heap.size = A at hD hG ⊢
  have hA : ∀ q : Nat, s.heap.size ≤ q → A q := fun q h => by rw [← hAe]; exact Or.inr h
  have hS : va_S A s.heap s.heap [] := va_S.rf
  have hl := lv_entry ([.ref h0, .int p0, .int p1, .int p2, .ref o0]) (n := 6) (Nat.le_of_ble_eq_true rfl)
  rw [lg_entry_eq]
  generalize (lg_sl ([.ref h0, .int p0, .int p1, .int p2, .ref o0]) ++ List.replicate (6 - (lg_sl ([.ref h0, .int p0, .int p1, .int p2, .ref o0])).length) Slot.unset).toArray = ls at hl ⊢
  have hl : lv_has ls 6 [(0, .ref h0), (1, .int p0), (2, .int p1), (3, .int p2), (4, .ref o0)] := hl
  refine lv_aload hx hb dL_claim_0 (lv_at hl 4 rfl) ?_
  refine lv_iconst (v := 0) hx hb dL_claim_2 (by decide) ?_
  refine lv_aload_n hx hb dL_claim_3 rfl (lv_at hl 0 rfl) ?_
  refine lv_iload_n hx hb dL_claim_4 rfl (lv_at hl 1 rfl) ?_
  refine lv_iload_n hx hb dL_claim_5 rfl (lv_at hl 2 rfl) ?_
  refine lv_iload_n hx hb dL_claim_6 rfl (lv_at hl 3 rfl) ?_
  have hPc := hP.sub (ws' := [(h0, .inr (12, [.ref a1, .ref a2, .ref a3, .ref a4, .ref a5, .ref a6, .ref a7, .ref a8, .int tol, .int sal])), (a4, .inr (3, [.int c0, .ref e0, .int 0]))]) [0, 1] rfl
  have hKc := hK.sub (tys' := []) [] rfl
  refine vx_calli (vx_runV (As := [.int p0, .int p1, .int p2]) (rest := [.int 0, .ref o0]) ⟨hx, hb, hml, hown, hts⟩ (k_X8_claim l hfl G z h0 a1 a2 a3 a4 a5 a6 a7 a8 tol sal c0 e0 p0 p1 p2 s.heap.size ) (cwV 3 hts (lw_goodApp (lw_4 q1064 q1065 q1066 q1) q1067) rfl rfl rfl (by decide +kernel) ⟨Nat.le_of_ble_eq_true rfl, Nat.le_of_ble_eq_true rfl⟩) ⟨PR.blind, va_recv hK hP (ci := 12) (q0 := 0) rfl rfl, PR.of hPc hKc hG hS hA [.ref h0, .int p0, .int p1, .int p2]⟩ rfl rfl hl.1 rfl (lv_room (Nat.le_of_ble_eq_true rfl)) dL_claim_7 ⟨Nat.le_of_ble_eq_true rfl, Nat.le_of_ble_eq_true rfl⟩) hS (fun q h9 h => zN.not h9 h) (fun q h => hA q (Nat.le_trans hS.1 h)) (fun q h9 h => zN.not h9 h) (fun E ce q9 ux t_4 H_1 locs ht hvm px_5 hE hz1 hk1 hS hq9 hv9 hcl9 => ?_) (fun r_2 u t_4 H_1 locs ht hvm hw_3 hB hz1 hk1 hS => ?_)
  · subst hE
    have hP := hP.grown hk1
    refine vx_widen (k := 1) (n := 6) (Nat.le_of_ble_eq_true rfl) (Nat.le_of_ble_eq_true rfl) ?_
    refine vx_catch (name := "java/lang/IndexOutOfBoundsException") hown [] ⟨0, 12, 15, 21⟩ [⟨0, 12, 19, 13⟩, ⟨0, 12, 23, 27⟩, ⟨0, 12, 27, 15⟩] (htab.trans rfl) (fun z9 h9 => absurd h9 List.not_mem_nil) (by decide) (by decide) (hg _ q518) (va_Nw.use rfl (hG.2.2.2.2.1 _ qf552)) hq9 hv9 hcl9 ?_
    refine lv_astore (lv' := [(5, .ref q9), (0, .ref h0), (1, .int p0), (2, .int p1), (3, .int p2), (4, .ref o0)]) hx hb dL_claim_15 hl (by decide) rfl (fun ls hl => ?_)
    refine lv_iconst (v := 1) hx hb dL_claim_17 (by decide) ?_
    refine W.widen (k := 1) (n := 6) (Nat.le_of_ble_eq_true rfl) (Nat.le_of_ble_eq_true rfl) ?_
    have hP9 := hP.sub (ws' := [(o0, .inl (cyL, 1, .inr (.inl (fo))))]) [2] rfl
    have hD9 := hD.sub (ws' := [(o0, .inl (cyL, 1, .inr (.inl (fo))))]) [2] (by decide) rfl
    have hK9 := hK.sub (tys' := [(cyL, .long)]) [0] rfl
    exact W.iret (v := 1) hx hb hr (fun t ht hW => ⟨⟨1, (), rfl, rfl, QW.of hP9 hK9 hD9 ht hW.alike⟩, hS.F ht⟩) hS.2.2 dL_claim_18
  exact hw_3.elim

abbrev wz_L_unclaim : List Cond := .codeWith yL_unclaim cL_unclaim 6 (Option.some Jvm.ClassFile.FieldType.int) [((0 : Nat), (12 : Nat), (15 : Nat), (21 : Nat)), ((0 : Nat), (12 : Nat), (19 : Nat), (50 : Nat))] :: lw_good
set_option maxHeartbeats 4000000 in
set_option maxRecDepth 100000 in
/-- the law on unclaim of a fresh object: it throws -/
theorem k_L_unclaim (l : Launch) (hfl : l.stackTraces = false) (G : va_G) (z : Nat) (h0 : Nat) (a1 : Nat) (a2 : Nat) (a3 : Nat) (a4 : Nat) (a5 : Nat) (a6 : Nat) (a7 : Nat) (a8 : Nat) (tol : Int32) (sal : Int32) (c0 : Int32) (e0 : Nat) (p0 : Int32) (p1 : Int32) (p2 : Int32) (o0 : Nat) (cyL : ClassId) (fo : Nat → Int64) (sz : Nat)  : Met l yL_unclaim wz_L_unclaim ({ frames := 8, cells := 1, slots := 6, locals := 126 }) (va_Pc [.ref h0, .int p0, .int p1, .int p2, .ref o0] (PW G z [(h0, .inr (12, [.ref a1, .ref a2, .ref a3, .ref a4, .ref a5, .ref a6, .ref a7, .ref a8, .int tol, .int sal])), (a4, .inr (3, [.int c0, .ref e0, .int 0])), (o0, .inl (cyL, 1, .inr (.inl (fo))))] [(cyL, .long)] sz)) (va_Qi (fun (r : Int32) (_ : Unit) => r = 1) (fun (_ : Unit) (t : State) => QW G [(o0, .inl (cyL, 1, .inr (.inl (fo))))] [(cyL, .long)] (va_A [(h0, .inr (12, [.ref a1, .ref a2, .ref a3, .ref a4, .ref a5, .ref a6, .ref a7, .ref a8, .int tol, .int sal])), (a4, .inr (3, [.int c0, .ref e0, .int 0])), (o0, .inl (cyL, 1, .inr (.inl (fo))))] sz) t) (va_A [(h0, .inr (12, [.ref a1, .ref a2, .ref a3, .ref a4, .ref a5, .ref a6, .ref a7, .ref a8, .int tol, .int sal])), (a4, .inr (3, [.int c0, .ref e0, .int 0])), (o0, .inl (cyL, 1, .inr (.inl (fo))))] sz)) 1 6 (va_A [(h0, .inr (12, [.ref a1, .ref a2, .ref a3, .ref a4, .ref a5, .ref a6, .ref a7, .ref a8, .int tol, .int sal])), (a4, .inr (3, [.int c0, .ref e0, .int 0])), (o0, .inl (cyL, 1, .inr (.inl (fo))))] sz) := by
  refine va_MetW (cc := cL_unclaim) (maxL := 6) (ret := (Option.some Jvm.ClassFile.FieldType.int)) (hh := [((0 : Nat), (12 : Nat), (15 : Nat), (21 : Nat)), ((0 : Nat), (12 : Nat), (19 : Nat), (50 : Nat))]) (by decide) rfl ?_
  intro p e s m args below meth c s₁ B hml hv
  obtain ⟨rfl, rfl, hP, hK, hD0, hG⟩ := hv
  have hx := B.exec
  have hb := B.bytes
  have hr := B.returns
  have hts := atoms_spec (ws := wz_L_unclaim) B.pre
  have htab := vx_table (x := yL_unclaim) B (hts _ List.mem_cons_self)
  have hg : ∀ w ∈ lw_good, w.before _ s = true := fun w h => hts w (List.mem_cons_of_mem _ h)
  have hown : s.vm.findClass RL = some m.cls := findClass_of_methodNamed B.named
  have hlocks := B.notSynchronized
  have hD := hD0.self (sz := s.heap.size)
  generalize hAe : va_A [(h0, .inr (12, [.ref a1, .ref a2, .ref a3, .ref a4, .ref a5, .ref a6, .ref a7, .ref a8, .int tol, .int sal])), (a4, .inr (3, [.int c0, .ref e0, .int 0])), (o0, .inl (cyL, 1, .inr (.inl (fo))))] s.heap.size = A at hD hG ⊢
  have hA : ∀ q : Nat, s.heap.size ≤ q → A q := fun q h => by rw [← hAe]; exact Or.inr h
  have hS : va_S A s.heap s.heap [] := va_S.rf
  have hl := lv_entry ([.ref h0, .int p0, .int p1, .int p2, .ref o0]) (n := 6) (Nat.le_of_ble_eq_true rfl)
  rw [lg_entry_eq]
  generalize (lg_sl ([.ref h0, .int p0, .int p1, .int p2, .ref o0]) ++ List.replicate (6 - (lg_sl ([.ref h0, .int p0, .int p1, .int p2, .ref o0])).length) Slot.unset).toArray = ls at hl ⊢
  have hl : lv_has ls 6 [(0, .ref h0), (1, .int p0), (2, .int p1), (3, .int p2), (4, .ref o0)] := hl
  refine lv_aload hx hb dL_unclaim_0 (lv_at hl 4 rfl) ?_
  refine lv_iconst (v := 0) hx hb dL_unclaim_2 (by decide) ?_
  refine lv_aload_n hx hb dL_unclaim_3 rfl (lv_at hl 0 rfl) ?_
  refine lv_iload_n hx hb dL_unclaim_4 rfl (lv_at hl 1 rfl) ?_
  refine lv_iload_n hx hb dL_unclaim_5 rfl (lv_at hl 2 rfl) ?_
  refine lv_iload_n hx hb dL_unclaim_6 rfl (lv_at hl 3 rfl) ?_
  have hPc := hP.sub (ws' := [(h0, .inr (12, [.ref a1, .ref a2, .ref a3, .ref a4, .ref a5, .ref a6, .ref a7, .ref a8, .int tol, .int sal])), (a4, .inr (3, [.int c0, .ref e0, .int 0]))]) [0, 1] rfl
  have hKc := hK.sub (tys' := []) [] rfl
  refine vx_calli (vx_runV (As := [.int p0, .int p1, .int p2]) (rest := [.int 0, .ref o0]) ⟨hx, hb, hml, hown, hts⟩ (k_X8_unclaim l hfl G z h0 a1 a2 a3 a4 a5 a6 a7 a8 tol sal c0 e0 p0 p1 p2 s.heap.size ) (cwV 3 hts (lw_goodApp (lw_4 q1080 q1081 q1082 q1) q1083) rfl rfl rfl (by decide +kernel) ⟨Nat.le_of_ble_eq_true rfl, Nat.le_of_ble_eq_true rfl⟩) ⟨PR.blind, va_recv hK hP (ci := 12) (q0 := 0) rfl rfl, PR.of hPc hKc hG hS hA [.ref h0, .int p0, .int p1, .int p2]⟩ rfl rfl hl.1 rfl (lv_room (Nat.le_of_ble_eq_true rfl)) dL_unclaim_7 ⟨Nat.le_of_ble_eq_true rfl, Nat.le_of_ble_eq_true rfl⟩) hS (fun q h9 h => zN.not h9 h) (fun q h => hA q (Nat.le_trans hS.1 h)) (fun q h9 h => zN.not h9 h) (fun E ce q9 ux t_4 H_1 locs ht hvm px_5 hE hz1 hk1 hS hq9 hv9 hcl9 => ?_) (fun r_2 u t_4 H_1 locs ht hvm hw_3 hB hz1 hk1 hS => ?_)
  · subst hE
    have hP := hP.grown hk1
    refine vx_widen (k := 1) (n := 6) (Nat.le_of_ble_eq_true rfl) (Nat.le_of_ble_eq_true rfl) ?_
    refine vx_catch (name := "java/lang/IndexOutOfBoundsException") hown [] ⟨0, 12, 15, 21⟩ [⟨0, 12, 19, 50⟩] (htab.trans rfl) (fun z9 h9 => absurd h9 List.not_mem_nil) (by decide) (by decide) (hg _ q518) (va_Nw.use rfl (hG.2.2.2.2.1 _ qf552)) hq9 hv9 hcl9 ?_
    refine lv_astore (lv' := [(5, .ref q9), (0, .ref h0), (1, .int p0), (2, .int p1), (3, .int p2), (4, .ref o0)]) hx hb dL_unclaim_15 hl (by decide) rfl (fun ls hl => ?_)
    refine lv_iconst (v := 1) hx hb dL_unclaim_17 (by decide) ?_
    refine W.widen (k := 1) (n := 6) (Nat.le_of_ble_eq_true rfl) (Nat.le_of_ble_eq_true rfl) ?_
    have hP9 := hP.sub (ws' := [(o0, .inl (cyL, 1, .inr (.inl (fo))))]) [2] rfl
    have hD9 := hD.sub (ws' := [(o0, .inl (cyL, 1, .inr (.inl (fo))))]) [2] (by decide) rfl
    have hK9 := hK.sub (tys' := [(cyL, .long)]) [0] rfl
    exact W.iret (v := 1) hx hb hr (fun t ht hW => ⟨⟨1, (), rfl, rfl, QW.of hP9 hK9 hD9 ht hW.alike⟩, hS.F ht⟩) hS.2.2 dL_unclaim_18
  exact hw_3.elim

abbrev wz_L_date : List Cond := .codeWith yL_date cL_date 5 (Option.some Jvm.ClassFile.FieldType.int) [((0 : Nat), (10 : Nat), (13 : Nat), (21 : Nat)), ((0 : Nat), (10 : Nat), (17 : Nat), (13 : Nat))] :: lw_good
set_option maxHeartbeats 4000000 in
set_option maxRecDepth 100000 in
/-- the law on date of a fresh object: it throws -/
theorem k_L_date (l : Launch) (hfl : l.stackTraces = false) (G : va_G) (z : Nat) (h0 : Nat) (a1 : Nat) (a2 : Nat) (a3 : Nat) (a4 : Nat) (a5 : Nat) (a6 : Nat) (a7 : Nat) (a8 : Nat) (tol : Int32) (sal : Int32) (c0 : Int32) (e0 : Nat) (p0 : Int32) (p1 : Int32) (o0 : Nat) (cyL : ClassId) (fo : Nat → Int64) (sz : Nat)  : Met l yL_date wz_L_date ({ frames := 8, cells := 1, slots := 6, locals := 126 }) (va_Pc [.ref h0, .int p0, .int p1, .ref o0] (PW G z [(h0, .inr (12, [.ref a1, .ref a2, .ref a3, .ref a4, .ref a5, .ref a6, .ref a7, .ref a8, .int tol, .int sal])), (a4, .inr (3, [.int c0, .ref e0, .int 0])), (o0, .inl (cyL, 1, .inr (.inl (fo))))] [(cyL, .long)] sz)) (va_Qi (fun (r : Int32) (_ : Unit) => r = 1) (fun (_ : Unit) (t : State) => QW G [(o0, .inl (cyL, 1, .inr (.inl (fo))))] [(cyL, .long)] (va_A [(h0, .inr (12, [.ref a1, .ref a2, .ref a3, .ref a4, .ref a5, .ref a6, .ref a7, .ref a8, .int tol, .int sal])), (a4, .inr (3, [.int c0, .ref e0, .int 0])), (o0, .inl (cyL, 1, .inr (.inl (fo))))] sz) t) (va_A [(h0, .inr (12, [.ref a1, .ref a2, .ref a3, .ref a4, .ref a5, .ref a6, .ref a7, .ref a8, .int tol, .int sal])), (a4, .inr (3, [.int c0, .ref e0, .int 0])), (o0, .inl (cyL, 1, .inr (.inl (fo))))] sz)) 1 6 (va_A [(h0, .inr (12, [.ref a1, .ref a2, .ref a3, .ref a4, .ref a5, .ref a6, .ref a7, .ref a8, .int tol, .int sal])), (a4, .inr (3, [.int c0, .ref e0, .int 0])), (o0, .inl (cyL, 1, .inr (.inl (fo))))] sz) := by
  refine va_MetW (cc := cL_date) (maxL := 5) (ret := (Option.some Jvm.ClassFile.FieldType.int)) (hh := [((0 : Nat), (10 : Nat), (13 : Nat), (21 : Nat)), ((0 : Nat), (10 : Nat), (17 : Nat), (13 : Nat))]) (by decide) rfl ?_
  intro p e s m args below meth c s₁ B hml hv
  obtain ⟨rfl, rfl, hP, hK, hD0, hG⟩ := hv
  have hx := B.exec
  have hb := B.bytes
  have hr := B.returns
  have hts := atoms_spec (ws := wz_L_date) B.pre
  have htab := vx_table (x := yL_date) B (hts _ List.mem_cons_self)
  have hg : ∀ w ∈ lw_good, w.before _ s = true := fun w h => hts w (List.mem_cons_of_mem _ h)
  have hown : s.vm.findClass RL = some m.cls := findClass_of_methodNamed B.named
  have hlocks := B.notSynchronized
  have hD := hD0.self (sz := s.heap.size)
  generalize hAe : va_A [(h0, .inr (12, [.ref a1, .ref a2, .ref a3, .ref a4, .ref a5, .ref a6, .ref a7, .ref a8, .int tol, .int sal])), (a4, .inr (3, [.int c0, .ref e0, .int 0])), (o0, .inl (cyL, 1, .inr (.inl (fo))))] s.heap.size = A at hD hG ⊢
  have hA : ∀ q : Nat, s.heap.size ≤ q → A q := fun q h => by rw [← hAe]; exact Or.inr h
  have hS : va_S A s.heap s.heap [] := va_S.rf
  have hl := lv_entry ([.ref h0, .int p0, .int p1, .ref o0]) (n := 5) (Nat.le_of_ble_eq_true rfl)
  rw [lg_entry_eq]
  generalize (lg_sl ([.ref h0, .int p0, .int p1, .ref o0]) ++ List.replicate (5 - (lg_sl ([.ref h0, .int p0, .int p1, .ref o0])).length) Slot.unset).toArray = ls at hl ⊢
  have hl : lv_has ls 5 [(0, .ref h0), (1, .int p0), (2, .int p1), (3, .ref o0)] := hl
  refine lv_aload_n hx hb dL_date_0 rfl (lv_at hl 3 rfl) ?_
  refine lv_iconst (v := 0) hx hb dL_date_1 (by decide) ?_
  refine lv_aload_n hx hb dL_date_2 rfl (lv_at hl 0 rfl) ?_
  refine lv_iload_n hx hb dL_date_3 rfl (lv_at hl 1 rfl) ?_
  refine lv_iload_n hx hb dL_date_4 rfl (lv_at hl 2 rfl) ?_
  have hPc := hP.sub (ws' := [(h0, .inr (12, [.ref a1, .ref a2, .ref a3, .ref a4, .ref a5, .ref a6, .ref a7, .ref a8, .int tol, .int sal])), (a4, .inr (3, [.int c0, .ref e0, .int 0]))]) [0, 1] rfl
  have hKc := hK.sub (tys' := []) [] rfl
  refine vx_calli (vx_runV (As := [.int p0, .int p1]) (rest := [.int 0, .ref o0]) ⟨hx, hb, hml, hown, hts⟩ (k_X8_date l hfl G z h0 a1 a2 a3 a4 a5 a6 a7 a8 tol sal c0 e0 p0 p1 s.heap.size ) (cwV 2 hts (lw_goodApp (lw_4 q1092 q1093 q1094 q1) q1095) rfl rfl rfl (by decide +kernel) ⟨Nat.le_of_ble_eq_true rfl, Nat.le_of_ble_eq_true rfl⟩) ⟨PR.blind, va_recv hK hP (ci := 12) (q0 := 0) rfl rfl, PR.of hPc hKc hG hS hA [.ref h0, .int p0, .int p1]⟩ rfl rfl hl.1 rfl (lv_room (Nat.le_of_ble_eq_true rfl)) dL_date_5 ⟨Nat.le_of_ble_eq_true rfl, Nat.le_of_ble_eq_true rfl⟩) hS (fun q h9 h => zN.not h9 h) (fun q h => hA q (Nat.le_trans hS.1 h)) (fun q h9 h => zN.not h9 h) (fun E ce q9 ux t_4 H_1 locs ht hvm px_5 hE hz1 hk1 hS hq9 hv9 hcl9 => ?_) (fun r_2 u t_4 H_1 locs ht hvm hw_3 hB hz1 hk1 hS => ?_)
  · subst hE
    have hP := hP.grown hk1
    refine vx_widen (k := 1) (n := 6) (Nat.le_of_ble_eq_true rfl) (Nat.le_of_ble_eq_true rfl) ?_
    refine vx_catch (name := "java/lang/IndexOutOfBoundsException") hown [] ⟨0, 10, 13, 21⟩ [⟨0, 10, 17, 13⟩] (htab.trans rfl) (fun z9 h9 => absurd h9 List.not_mem_nil) (by decide) (by decide) (hg _ q518) (va_Nw.use rfl (hG.2.2.2.2.1 _ qf552)) hq9 hv9 hcl9 ?_
    refine lv_astore (lv' := [(4, .ref q9), (0, .ref h0), (1, .int p0), (2, .int p1), (3, .ref o0)]) hx hb dL_date_13 hl (by decide) rfl (fun ls hl => ?_)
    refine lv_iconst (v := 1) hx hb dL_date_15 (by decide) ?_
    refine W.widen (k := 1) (n := 6) (Nat.le_of_ble_eq_true rfl) (Nat.le_of_ble_eq_true rfl) ?_
    have hP9 := hP.sub (ws' := [(o0, .inl (cyL, 1, .inr (.inl (fo))))]) [2] rfl
    have hD9 := hD.sub (ws' := [(o0, .inl (cyL, 1, .inr (.inl (fo))))]) [2] (by decide) rfl
    have hK9 := hK.sub (tys' := [(cyL, .long)]) [0] rfl
    exact W.iret (v := 1) hx hb hr (fun t ht hW => ⟨⟨1, (), rfl, rfl, QW.of hP9 hK9 hD9 ht hW.alike⟩, hS.F ht⟩) hS.2.2 dL_date_16
  exact hw_3.elim

abbrev wz_L_setAge : List Cond := .codeWith yL_setAge cL_setAge 4 (Option.some Jvm.ClassFile.FieldType.int) [((0 : Nat), (9 : Nat), (12 : Nat), (13 : Nat))] :: lw_good
set_option maxHeartbeats 4000000 in
set_option maxRecDepth 100000 in
/-- the law on setAge of a fresh object -/
theorem k_L_setAge (l : Launch) (hfl : l.stackTraces = false) (G : va_G) (z : Nat) (h0 : Nat) (a1 : Nat) (a2 : Nat) (a3 : Nat) (a4 : Nat) (a5 : Nat) (a6 : Nat) (a7 : Nat) (a8 : Nat) (tol : Int32) (sal : Int32) (d1 : Nat) (d2 : Nat) (d3 : Nat) (d4 : Nat) (ag : Int32) (p0 : Int32) (o0 : Nat) (cyL : ClassId) (fo : Nat → Int64) (sz : Nat)  : Met l yL_setAge wz_L_setAge ({ frames := 8, cells := 1, slots := 6, locals := 126 }) (va_Pc [.ref h0, .int p0, .ref o0] (PW G z [(h0, .inr (12, [.ref a1, .ref a2, .ref a3, .ref a4, .ref a5, .ref a6, .ref a7, .ref a8, .int tol, .int sal])), (a7, .inr (4, [.ref d1, .ref d2, .ref d3, .ref d4, .int 0, .int ag])), (o0, .inl (cyL, 1, .inr (.inl (fo))))] [(cyL, .long)] sz)) (va_Qi (fun (r : Int32) (u : Nat → Int64) => ((0 ≤ p0 ∧ p0 ≤ 100) ∧ r = 0 ∧ u 0 = ag.toInt64) ∨ (¬ (0 ≤ p0 ∧ p0 ≤ 100) ∧ r = 1)) (fun (u : Nat → Int64) (t : State) => QW G [(o0, .inl (cyL, 1, .inr (.inl (u))))] [(cyL, .long)] (va_A [(h0, .inr (12, [.ref a1, .ref a2, .ref a3, .ref a4, .ref a5, .ref a6, .ref a7, .ref a8, .int tol, .int sal])), (a7, .inr (4, [.ref d1, .ref d2, .ref d3, .ref d4, .int 0, .int ag])), (o0, .inl (cyL, 1, .inr (.inl (fo))))] sz) t) (va_A [(h0, .inr (12, [.ref a1, .ref a2, .ref a3, .ref a4, .ref a5, .ref a6, .ref a7, .ref a8, .int tol, .int sal])), (a7, .inr (4, [.ref d1, .ref d2, .ref d3, .ref d4, .int 0, .int ag])), (o0, .inl (cyL, 1, .inr (.inl (fo))))] sz)) 1 6 (va_A [(h0, .inr (12, [.ref a1, .ref a2, .ref a3, .ref a4, .ref a5, .ref a6, .ref a7, .ref a8, .int tol, .int sal])), (a7, .inr (4, [.ref d1, .ref d2, .ref d3, .ref d4, .int 0, .int ag])), (o0, .inl (cyL, 1, .inr (.inl (fo))))] sz) := by
  refine va_MetW (cc := cL_setAge) (maxL := 4) (ret := (Option.some Jvm.ClassFile.FieldType.int)) (hh := [((0 : Nat), (9 : Nat), (12 : Nat), (13 : Nat))]) (by decide) rfl ?_
  intro p e s m args below meth c s₁ B hml hv
  obtain ⟨rfl, rfl, hP, hK, hD0, hG⟩ := hv
  have hx := B.exec
  have hb := B.bytes
  have hr := B.returns
  have hts := atoms_spec (ws := wz_L_setAge) B.pre
  have htab := vx_table (x := yL_setAge) B (hts _ List.mem_cons_self)
  have hg : ∀ w ∈ lw_good, w.before _ s = true := fun w h => hts w (List.mem_cons_of_mem _ h)
  have hown : s.vm.findClass RL = some m.cls := findClass_of_methodNamed B.named
  have hlocks := B.notSynchronized
  have hD := hD0.self (sz := s.heap.size)
  generalize hAe : va_A [(h0, .inr (12, [.ref a1, .ref a2, .ref a3, .ref a4, .ref a5, .ref a6, .ref a7, .ref a8, .int tol, .int sal])), (a7, .inr (4, [.ref d1, .ref d2, .ref d3, .ref d4, .int 0, .int ag])), (o0, .inl (cyL, 1, .inr (.inl (fo))))] s.heap.size = A at hD hG ⊢
  have hA : ∀ q : Nat, s.heap.size ≤ q → A q := fun q h => by rw [← hAe]; exact Or.inr h
  have hS : va_S A s.heap s.heap [] := va_S.rf
  have hl := lv_entry ([.ref h0, .int p0, .ref o0]) (n := 4) (Nat.le_of_ble_eq_true rfl)
  rw [lg_entry_eq]
  generalize (lg_sl ([.ref h0, .int p0, .ref o0]) ++ List.replicate (4 - (lg_sl ([.ref h0, .int p0, .ref o0])).length) Slot.unset).toArray = ls at hl ⊢
  have hl : lv_has ls 4 [(0, .ref h0), (1, .int p0), (2, .ref o0)] := hl
  refine lv_aload_n hx hb dL_setAge_0 rfl (lv_at hl 2 rfl) ?_
  refine lv_iconst (v := 0) hx hb dL_setAge_1 (by decide) ?_
  refine lv_aload_n hx hb dL_setAge_2 rfl (lv_at hl 0 rfl) ?_
  refine lv_iload_n hx hb dL_setAge_3 rfl (lv_at hl 1 rfl) ?_
  have hPc := hP.sub (ws' := [(h0, .inr (12, [.ref a1, .ref a2, .ref a3, .ref a4, .ref a5, .ref a6, .ref a7, .ref a8, .int tol, .int sal])), (a7, .inr (4, [.ref d1, .ref d2, .ref d3, .ref d4, .int 0, .int ag]))]) [0, 1] rfl
  have hKc := hK.sub (tys' := []) [] rfl
  have hDc := hD.sub (ws' := [(h0, .inr (12, [.ref a1, .ref a2, .ref a3, .ref a4, .ref a5, .ref a6, .ref a7, .ref a8, .int tol, .int sal])), (a7, .inr (4, [.ref d1, .ref d2, .ref d3, .ref d4, .int 0, .int ag]))]) [0, 1] (by decide) rfl
  have hFc := va_free (wc := [(h0, .inr (12, [.ref a1, .ref a2, .ref a3, .ref a4, .ref a5, .ref a6, .ref a7, .ref a8, .int tol, .int sal])), (a7, .inr (4, [.ref d1, .ref d2, .ref d3, .ref d4, .int 0, .int ag]))]) hD hS hA [0, 1] rfl
  refine vx_calli (vx_runV (As := [.int p0]) (rest := [.int 0, .ref o0]) ⟨hx, hb, hml, hown, hts⟩ (k_X8_setAge l hfl G z h0 a1 a2 a3 a4 a5 a6 a7 a8 tol sal d1 d2 d3 d4 ag p0 s.heap.size ) (cwV 1 hts (lw_goodApp (lw_4 q1099 q1100 q1101 q1) q1102) rfl rfl rfl (by decide +kernel) ⟨Nat.le_of_ble_eq_true rfl, Nat.le_of_ble_eq_true rfl⟩) ⟨PW.blind, va_recv hK hP (ci := 12) (q0 := 0) rfl rfl, PW.of hPc hKc hDc hG hS hFc [.ref h0, .int p0]⟩ rfl rfl hl.1 rfl (lv_room (Nat.le_of_ble_eq_true rfl)) dL_setAge_4 ⟨Nat.le_of_ble_eq_true rfl, Nat.le_of_ble_eq_true rfl⟩) hS (fun q _ h => hFc q h) hFc (fun q _ h => hFc q h) (fun E ce q9 ux t_4 H_1 locs ht hvm px_5 hE hz1 hk1 hS hq9 hv9 hcl9 => ?_) (fun r_2 u t_4 H_1 locs ht hvm hw_3 hB hz1 hk1 hS => ?_)
  · subst hE
    obtain ⟨hP, hD, hK⟩ := QW.join (wr := [(o0, .inl (cyL, 1, .inr (.inl (fo))))]) (w1 := []) (ty1 := []) hP hD hK [0, 1] [2] rfl rfl (by decide) (by decide) hk1 hFc ht hvm (QW.nil hK hvm)
    have hP : va_P G vwCl ([(o0, .inl (cyL, 1, .inr (.inl (fo))))]) H_1 := hP
    have hD : va_D A ([(o0, .inl (cyL, 1, .inr (.inl (fo))))]) := hD
    have hK : va_K G vwCl [(cyL, .long)] s := hK
    refine vx_widen (k := 1) (n := 6) (Nat.le_of_ble_eq_true rfl) (Nat.le_of_ble_eq_true rfl) ?_
    refine vx_catch (name := "java/lang/IllegalArgumentException") hown [] ⟨0, 9, 12, 13⟩ [] (htab.trans rfl) (fun z9 h9 => absurd h9 List.not_mem_nil) (by decide) (by decide) (hg _ q302) (va_Nw.use rfl (hG.2.2.2.2.1 _ qf313)) hq9 hv9 hcl9 ?_
    refine lv_astore_n (lv' := [(3, .ref q9), (0, .ref h0), (1, .int p0), (2, .ref o0)]) hx hb dL_setAge_12 rfl hl (by decide) rfl (fun ls hl => ?_)
    refine lv_iconst (v := 1) hx hb dL_setAge_13 (by decide) ?_
    refine W.widen (k := 1) (n := 6) (Nat.le_of_ble_eq_true rfl) (Nat.le_of_ble_eq_true rfl) ?_
    have hP9 := hP.sub (ws' := [(o0, .inl (cyL, 1, .inr (.inl (fo))))]) [0] rfl
    have hD9 := hD.sub (ws' := [(o0, .inl (cyL, 1, .inr (.inl (fo))))]) [0] (by decide) rfl
    have hK9 := hK.sub (tys' := [(cyL, .long)]) [0] rfl
    exact W.iret (v := 1) hx hb hr (fun t ht hW => ⟨⟨1, fo, rfl, Or.inr ⟨px_5, rfl⟩, QW.of hP9 hK9 hD9 ht hW.alike⟩, hS.F ht⟩) hS.2.2 dL_setAge_14
  obtain ⟨hP, hD, hK⟩ := QW.join (wr := [(o0, .inl (cyL, 1, .inr (.inl (fo))))]) (w1 := []) hP hD hK [0, 1] [2] rfl rfl (by decide) (by decide) hk1 hFc ht hvm hB
  have hP : va_P G vwCl ([(o0, .inl (cyL, 1, .inr (.inl (fo))))]) H_1 := hP
  have hD : va_D A ([(o0, .inl (cyL, 1, .inr (.inl (fo))))]) := hD
  have hK : va_K G vwCl [(cyL, .long)] s := hK
  refine W.widen (k := 1) (n := 6) (Nat.le_of_ble_eq_true rfl) (Nat.le_of_ble_eq_true rfl) ?_
  obtain ⟨he9, hphi9⟩ := hw_3
  refine lv_i2l hx hb dL_setAge_7 rfl ?_
  refine va_last hx hb hK hP hD hS 0 0 rfl rfl (by unfold vp_in; decide +kernel) dL_setAge_8 (fun H_6 locs hP hD hS => ?_)
  have hP : va_P G vwCl ([(o0, .inl (cyL, 1, .inr (.inl (vp_updL (fo) (0 : Int32).toNatClampNeg ((r_2).toInt64)))))]) H_6 := hP
  have hD : va_D A ([(o0, .inl (cyL, 1, .inr (.inl (vp_updL (fo) (0 : Int32).toNatClampNeg ((r_2).toInt64)))))]) := hD
  refine lv_goto (tgt := 15) hx hb dL_setAge_9 (by decide) ?_
  refine lv_iconst (v := 0) hx hb dL_setAge_15 (by decide) ?_
  refine W.widen (k := 1) (n := 6) (Nat.le_of_ble_eq_true rfl) (Nat.le_of_ble_eq_true rfl) ?_
  have hP9 := hP.sub (ws' := [(o0, .inl (cyL, 1, .inr (.inl ((vp_updL (fo) (0 : Int32).toNatClampNeg ((r_2).toInt64))))))]) [0] rfl
  have hD9 := hD.sub (ws' := [(o0, .inl (cyL, 1, .inr (.inl ((vp_updL (fo) (0 : Int32).toNatClampNeg ((r_2).toInt64))))))]) [0] (by decide) rfl
  have hK9 := hK.sub (tys' := [(cyL, .long)]) [0] rfl
  exact W.iret (v := 0) hx hb hr (fun t ht hW => ⟨⟨0, vp_updL (fo) (0 : Int32).toNatClampNeg ((r_2).toInt64), rfl, Or.inl ⟨hphi9, rfl, z_updL0.trans (by rw [he9])⟩, QW.of hP9 hK9 hD9 ht hW.alike⟩, hS.F ht⟩) hS.2.2 dL_setAge_16

abbrev wz_L_year : List Cond := .codeWith yL_year cL_year 5 (Option.some Jvm.ClassFile.FieldType.int) [((0 : Nat), (10 : Nat), (13 : Nat), (21 : Nat)), ((0 : Nat), (10 : Nat), (17 : Nat), (27 : Nat))] :: lw_good
set_option maxHeartbeats 4000000 in
set_option maxRecDepth 100000 in
/-- the law on year of a fresh object: it throws -/
theorem k_L_year (l : Launch) (hfl : l.stackTraces = false) (G : va_G) (z : Nat) (h0 : Nat) (a1 : Nat) (a2 : Nat) (a3 : Nat) (a4 : Nat) (a5 : Nat) (a6 : Nat) (a7 : Nat) (a8 : Nat) (tol : Int32) (sal : Int32) (c0 : Int32) (e0 : Nat) (p0 : Int32) (p1 : Int32) (o0 : Nat) (cyL : ClassId) (fo : Nat → Int64) (sz : Nat)  : Met l yL_year wz_L_year ({ frames := 8, cells := 1, slots := 6, locals := 125 }) (va_Pc [.ref h0, .int p0, .int p1, .ref o0] (PW G z [(h0, .inr (12, [.ref a1, .ref a2, .ref a3, .ref a4, .ref a5, .ref a6, .ref a7, .ref a8, .int tol, .int sal])), (a4, .inr (3, [.int c0, .ref e0, .int 0])), (o0, .inl (cyL, 1, .inr (.inl (fo))))] [(cyL, .long)] sz)) (va_Qi (fun (r : Int32) (_ : Unit) => r = 1) (fun (_ : Unit) (t : State) => QW G [(o0, .inl (cyL, 1, .inr (.inl (fo))))] [(cyL, .long)] (va_A [(h0, .inr (12, [.ref a1, .ref a2, .ref a3, .ref a4, .ref a5, .ref a6, .ref a7, .ref a8, .int tol, .int sal])), (a4, .inr (3, [.int c0, .ref e0, .int 0])), (o0, .inl (cyL, 1, .inr (.inl (fo))))] sz) t) (va_A [(h0, .inr (12, [.ref a1, .ref a2, .ref a3, .ref a4, .ref a5, .ref a6, .ref a7, .ref a8, .int tol, .int sal])), (a4, .inr (3, [.int c0, .ref e0, .int 0])), (o0, .inl (cyL, 1, .inr (.inl (fo))))] sz)) 1 6 (va_A [(h0, .inr (12, [.ref a1, .ref a2, .ref a3, .ref a4, .ref a5, .ref a6, .ref a7, .ref a8, .int tol, .int sal])), (a4, .inr (3, [.int c0, .ref e0, .int 0])), (o0, .inl (cyL, 1, .inr (.inl (fo))))] sz) := by
  refine va_MetW (cc := cL_year) (maxL := 5) (ret := (Option.some Jvm.ClassFile.FieldType.int)) (hh := [((0 : Nat), (10 : Nat), (13 : Nat), (21 : Nat)), ((0 : Nat), (10 : Nat), (17 : Nat), (27 : Nat))]) (by decide) rfl ?_
  intro p e s m args below meth c s₁ B hml hv
  obtain ⟨rfl, rfl, hP, hK, hD0, hG⟩ := hv
  have hx := B.exec
  have hb := B.bytes
  have hr := B.returns
  have hts := atoms_spec (ws := wz_L_year) B.pre
  have htab := vx_table (x := yL_year) B (hts _ List.mem_cons_self)
  have hg : ∀ w ∈ lw_good, w.before _ s = true := fun w h => hts w (List.mem_cons_of_mem _ h)
  have hown : s.vm.findClass RL = some m.cls := findClass_of_methodNamed B.named
  have hlocks := B.notSynchronized
  have hD := hD0.self (sz := s.heap.size)
  generalize hAe : va_A [(h0, .inr (12, [.ref a1, .ref a2, .ref a3, .ref a4, .ref a5, .ref a6, .ref a7, .ref a8, .int tol, .int sal])), (a4, .inr (3, [.int c0, .ref e0, .int 0])), (o0, .inl (cyL, 1, .inr (.inl (fo))))] s.heap.size = A at hD hG ⊢
  have hA : ∀ q : Nat, s.heap.size ≤ q → A q := fun q h => by rw [← hAe]; exact Or.inr h
  have hS : va_S A s.heap s.heap [] := va_S.rf
  have hl := lv_entry ([.ref h0, .int p0, .int p1, .ref o0]) (n := 5) (Nat.le_of_ble_eq_true rfl)
  rw [lg_entry_eq]
  generalize (lg_sl ([.ref h0, .int p0, .int p1, .ref o0]) ++ List.replicate (5 - (lg_sl ([.ref h0, .int p0, .int p1, .ref o0])).length) Slot.unset).toArray = ls at hl ⊢
  have hl : lv_has ls 5 [(0, .ref h0), (1, .int p0), (2, .int p1), (3, .ref o0)] := hl
  refine lv_aload_n hx hb dL_year_0 rfl (lv_at hl 3 rfl) ?_
  refine lv_iconst (v := 0) hx hb dL_year_1 (by decide) ?_
  refine lv_aload_n hx hb dL_year_2 rfl (lv_at hl 0 rfl) ?_
  refine lv_iload_n hx hb dL_year_3 rfl (lv_at hl 1 rfl) ?_
  refine lv_iload_n hx hb dL_year_4 rfl (lv_at hl 2 rfl) ?_
  have hPc := hP.sub (ws' := [(h0, .inr (12, [.ref a1, .ref a2, .ref a3, .ref a4, .ref a5, .ref a6, .ref a7, .ref a8, .int tol, .int sal])), (a4, .inr (3, [.int c0, .ref e0, .int 0]))]) [0, 1] rfl
  have hKc := hK.sub (tys' := []) [] rfl
  refine vx_calli (vx_runV (As := [.int p0, .int p1]) (rest := [.int 0, .ref o0]) ⟨hx, hb, hml, hown, hts⟩ (k_X8_year l hfl G z h0 a1 a2 a3 a4 a5 a6 a7 a8 tol sal c0 e0 p0 p1 s.heap.size ) (cwV 2 hts (lw_goodApp (lw_4 q1106 q1107 q1108 q1) q1109) rfl rfl rfl (by decide +kernel) ⟨Nat.le_of_ble_eq_true rfl, Nat.le_of_ble_eq_true rfl⟩) ⟨PR.blind, va_recv hK hP (ci := 12) (q0 := 0) rfl rfl, PR.of hPc hKc hG hS hA [.ref h0, .int p0, .int p1]⟩ rfl rfl hl.1 rfl (lv_room (Nat.le_of_ble_eq_true rfl)) dL_year_5 ⟨Nat.le_of_ble_eq_true rfl, Nat.le_of_ble_eq_true rfl⟩) hS (fun q h9 h => zN.not h9 h) (fun q h => hA q (Nat.le_trans hS.1 h)) (fun q h9 h => zN.not h9 h) (fun E ce q9 ux t_4 H_1 locs ht hvm px_5 hE hz1 hk1 hS hq9 hv9 hcl9 => ?_) (fun r_2 u t_4 H_1 locs ht hvm hw_3 hB hz1 hk1 hS => ?_)
  · subst hE
    have hP := hP.grown hk1
    refine vx_widen (k := 1) (n := 6) (Nat.le_of_ble_eq_true rfl) (Nat.le_of_ble_eq_true rfl) ?_
    refine vx_catch (name := "java/lang/IndexOutOfBoundsException") hown [] ⟨0, 10, 13, 21⟩ [⟨0, 10, 17, 27⟩] (htab.trans rfl) (fun z9 h9 => absurd h9 List.not_mem_nil) (by decide) (by decide) (hg _ q518) (va_Nw.use rfl (hG.2.2.2.2.1 _ qf552)) hq9 hv9 hcl9 ?_
    refine lv_astore (lv' := [(4, .ref q9), (0, .ref h0), (1, .int p0), (2, .int p1), (3, .ref o0)]) hx hb dL_year_13 hl (by decide) rfl (fun ls hl => ?_)
    refine lv_iconst (v := 1) hx hb dL_year_15 (by decide) ?_
    refine W.widen (k := 1) (n := 6) (Nat.le_of_ble_eq_true rfl) (Nat.le_of_ble_eq_true rfl) ?_
    have hP9 := hP.sub (ws' := [(o0, .inl (cyL, 1, .inr (.inl (fo))))]) [2] rfl
    have hD9 := hD.sub (ws' := [(o0, .inl (cyL, 1, .inr (.inl (fo))))]) [2] (by decide) rfl
    have hK9 := hK.sub (tys' := [(cyL, .long)]) [0] rfl
    exact W.iret (v := 1) hx hb hr (fun t ht hW => ⟨⟨1, (), rfl, rfl, QW.of hP9 hK9 hD9 ht hW.alike⟩, hS.F ht⟩) hS.2.2 dL_year_16
  exact hw_3.elim

abbrev wz_L_ground : List Cond := .codeWith yL_ground cL_ground 5 (Option.some Jvm.ClassFile.FieldType.int) [((0 : Nat), (10 : Nat), (13 : Nat), (21 : Nat)), ((0 : Nat), (10 : Nat), (17 : Nat), (27 : Nat)), ((0 : Nat), (10 : Nat), (21 : Nat), (50 : Nat))] :: lw_good
set_option maxHeartbeats 4000000 in
set_option maxRecDepth 100000 in
/-- the law on ground of a fresh object: it throws -/
theorem k_L_ground (l : Launch) (hfl : l.stackTraces = false) (G : va_G) (z : Nat) (h0 : Nat) (a1 : Nat) (a2 : Nat) (a3 : Nat) (a4 : Nat) (a5 : Nat) (a6 : Nat) (a7 : Nat) (a8 : Nat) (tol : Int32) (sal : Int32) (c0 : Int32) (e0 : Nat) (p0 : Int32) (p1 : Int32) (o0 : Nat) (cyL : ClassId) (fo : Nat → Int64) (sz : Nat)  : Met l yL_ground wz_L_ground ({ frames := 8, cells := 1, slots := 6, locals := 127 }) (va_Pc [.ref h0, .int p0, .int p1, .ref o0] (PW G z [(h0, .inr (12, [.ref a1, .ref a2, .ref a3, .ref a4, .ref a5, .ref a6, .ref a7, .ref a8, .int tol, .int sal])), (a4, .inr (3, [.int c0, .ref e0, .int 0])), (o0, .inl (cyL, 1, .inr (.inl (fo))))] [(cyL, .long)] sz)) (va_Qi (fun (r : Int32) (_ : Unit) => r = 1) (fun (_ : Unit) (t : State) => QW G [(o0, .inl (cyL, 1, .inr (.inl (fo))))] [(cyL, .long)] (va_A [(h0, .inr (12, [.ref a1, .ref a2, .ref a3, .ref a4, .ref a5, .ref a6, .ref a7, .ref a8, .int tol, .int sal])), (a4, .inr (3, [.int c0, .ref e0, .int 0])), (o0, .inl (cyL, 1, .inr (.inl (fo))))] sz) t) (va_A [(h0, .inr (12, [.ref a1, .ref a2, .ref a3, .ref a4, .ref a5, .ref a6, .ref a7, .ref a8, .int tol, .int sal])), (a4, .inr (3, [.int c0, .ref e0, .int 0])), (o0, .inl (cyL, 1, .inr (.inl (fo))))] sz)) 1 6 (va_A [(h0, .inr (12, [.ref a1, .ref a2, .ref a3, .ref a4, .ref a5, .ref a6, .ref a7, .ref a8, .int tol, .int sal])), (a4, .inr (3, [.int c0, .ref e0, .int 0])), (o0, .inl (cyL, 1, .inr (.inl (fo))))] sz) := by
  refine va_MetW (cc := cL_ground) (maxL := 5) (ret := (Option.some Jvm.ClassFile.FieldType.int)) (hh := [((0 : Nat), (10 : Nat), (13 : Nat), (21 : Nat)), ((0 : Nat), (10 : Nat), (17 : Nat), (27 : Nat)), ((0 : Nat), (10 : Nat), (21 : Nat), (50 : Nat))]) (by decide) rfl ?_
  intro p e s m args below meth c s₁ B hml hv
  obtain ⟨rfl, rfl, hP, hK, hD0, hG⟩ := hv
  have hx := B.exec
  have hb := B.bytes
  have hr := B.returns
  have hts := atoms_spec (ws := wz_L_ground) B.pre
  have htab := vx_table (x := yL_ground) B (hts _ List.mem_cons_self)
  have hg : ∀ w ∈ lw_good, w.before _ s = true := fun w h => hts w (List.mem_cons_of_mem _ h)
  have hown : s.vm.findClass RL = some m.cls := findClass_of_methodNamed B.named
  have hlocks := B.notSynchronized
  have hD := hD0.self (sz := s.heap.size)
  generalize hAe : va_A [(h0, .inr (12, [.ref a1, .ref a2, .ref a3, .ref a4, .ref a5, .ref a6, .ref a7, .ref a8, .int tol, .int sal])), (a4, .inr (3, [.int c0, .ref e0, .int 0])), (o0, .inl (cyL, 1, .inr (.inl (fo))))] s.heap.size = A at hD hG ⊢
  have hA : ∀ q : Nat, s.heap.size ≤ q → A q := fun q h => by rw [← hAe]; exact Or.inr h
  have hS : va_S A s.heap s.heap [] := va_S.rf
  have hl := lv_entry ([.ref h0, .int p0, .int p1, .ref o0]) (n := 5) (Nat.le_of_ble_eq_true rfl)
  rw [lg_entry_eq]
  generalize (lg_sl ([.ref h0, .int p0, .int p1, .ref o0]) ++ List.replicate (5 - (lg_sl ([.ref h0, .int p0, .int p1, .ref o0])).length) Slot.unset).toArray = ls at hl ⊢
  have hl : lv_has ls 5 [(0, .ref h0), (1, .int p0), (2, .int p1), (3, .ref o0)] := hl
  refine lv_aload_n hx hb dL_ground_0 rfl (lv_at hl 3 rfl) ?_
  refine lv_iconst (v := 0) hx hb dL_ground_1 (by decide) ?_
  refine lv_aload_n hx hb dL_ground_2 rfl (lv_at hl 0 rfl) ?_
  refine lv_iload_n hx hb dL_ground_3 rfl (lv_at hl 1 rfl) ?_
  refine lv_iload_n hx hb dL_ground_4 rfl (lv_at hl 2 rfl) ?_
  have hPc := hP.sub (ws' := [(h0, .inr (12, [.ref a1, .ref a2, .ref a3, .ref a4, .ref a5, .ref a6, .ref a7, .ref a8, .int tol, .int sal])), (a4, .inr (3, [.int c0, .ref e0, .int 0]))]) [0, 1] rfl
  have hKc := hK.sub (tys' := []) [] rfl
  refine vx_calli (vx_runV (As := [.int p0, .int p1]) (rest := [.int 0, .ref o0]) ⟨hx, hb, hml, hown, hts⟩ (k_X8_ground l hfl G z h0 a1 a2 a3 a4 a5 a6 a7 a8 tol sal c0 e0 p0 p1 s.heap.size ) (cwV 2 hts (lw_goodApp (lw_4 q1118 q1119 q1120 q1) q1121) rfl rfl rfl (by decide +kernel) ⟨Nat.le_of_ble_eq_true rfl, Nat.le_of_ble_eq_true rfl⟩) ⟨PR.blind, va_recv hK hP (ci := 12) (q0 := 0) rfl rfl, PR.of hPc hKc hG hS hA [.ref h0, .int p0, .int p1]⟩ rfl rfl hl.1 rfl (lv_room (Nat.le_of_ble_eq_true rfl)) dL_ground_5 ⟨Nat.le_of_ble_eq_true rfl, Nat.le_of_ble_eq_true rfl⟩) hS (fun q h9 h => zN.not h9 h) (fun q h => hA q (Nat.le_trans hS.1 h)) (fun q h9 h => zN.not h9 h) (fun E ce q9 ux t_4 H_1 locs ht hvm px_5 hE hz1 hk1 hS hq9 hv9 hcl9 => ?_) (fun r_2 u t_4 H_1 locs ht hvm hw_3 hB hz1 hk1 hS => ?_)
  · subst hE
    have hP := hP.grown hk1
    refine vx_widen (k := 1) (n := 6) (Nat.le_of_ble_eq_true rfl) (Nat.le_of_ble_eq_true rfl) ?_
    refine vx_catch (name := "java/lang/IndexOutOfBoundsException") hown [] ⟨0, 10, 13, 21⟩ [⟨0, 10, 17, 27⟩, ⟨0, 10, 21, 50⟩] (htab.trans rfl) (fun z9 h9 => absurd h9 List.not_mem_nil) (by decide) (by decide) (hg _ q518) (va_Nw.use rfl (hG.2.2.2.2.1 _ qf552)) hq9 hv9 hcl9 ?_
    refine lv_astore (lv' := [(4, .ref q9), (0, .ref h0), (1, .int p0), (2, .int p1), (3, .ref o0)]) hx hb dL_ground_13 hl (by decide) rfl (fun ls hl => ?_)
    refine lv_iconst (v := 1) hx hb dL_ground_15 (by decide) ?_
    refine W.widen (k := 1) (n := 6) (Nat.le_of_ble_eq_true rfl) (Nat.le_of_ble_eq_true rfl) ?_
    have hP9 := hP.sub (ws' := [(o0, .inl (cyL, 1, .inr (.inl (fo))))]) [2] rfl
    have hD9 := hD.sub (ws' := [(o0, .inl (cyL, 1, .inr (.inl (fo))))]) [2] (by decide) rfl
    have hK9 := hK.sub (tys' := [(cyL, .long)]) [0] rfl
    exact W.iret (v := 1) hx hb hr (fun t ht hW => ⟨⟨1, (), rfl, rfl, QW.of hP9 hK9 hD9 ht hW.alike⟩, hS.F ht⟩) hS.2.2 dL_ground_16
  exact hw_3.elim

abbrev wz_L_culprit : List Cond := .codeWith yL_culprit cL_culprit 3 (Option.some Jvm.ClassFile.FieldType.int) [((0 : Nat), (8 : Nat), (11 : Nat), (27 : Nat)), ((0 : Nat), (8 : Nat), (14 : Nat), (50 : Nat))] :: lw_good
set_option maxHeartbeats 4000000 in
set_option maxRecDepth 100000 in
/-- the law on culprit of a fresh object: it throws -/
theorem k_L_culprit (l : Launch) (hfl : l.stackTraces = false) (G : va_G) (z : Nat) (h0 : Nat) (a1 : Nat) (a2 : Nat) (a3 : Nat) (a4 : Nat) (a5 : Nat) (a6 : Nat) (a7 : Nat) (a8 : Nat) (tol : Int32) (sal : Int32) (d1 : Nat) (d2 : Nat) (d3 : Nat) (d4 : Nat) (ag : Int32) (o0 : Nat) (cyL : ClassId) (fo : Nat → Int64) (sz : Nat)  : Met l yL_culprit wz_L_culprit ({ frames := 7, cells := 1, slots := 6, locals := 103 }) (va_Pc [.ref h0, .ref o0] (PW G z [(h0, .inr (12, [.ref a1, .ref a2, .ref a3, .ref a4, .ref a5, .ref a6, .ref a7, .ref a8, .int tol, .int sal])), (a7, .inr (4, [.ref d1, .ref d2, .ref d3, .ref d4, .int 0, .int ag])), (o0, .inl (cyL, 1, .inr (.inl (fo))))] [(cyL, .long)] sz)) (va_Qi (fun (r : Int32) (_ : Unit) => r = 1) (fun (_ : Unit) (t : State) => QW G [(o0, .inl (cyL, 1, .inr (.inl (fo))))] [(cyL, .long)] (va_A [(h0, .inr (12, [.ref a1, .ref a2, .ref a3, .ref a4, .ref a5, .ref a6, .ref a7, .ref a8, .int tol, .int sal])), (a7, .inr (4, [.ref d1, .ref d2, .ref d3, .ref d4, .int 0, .int ag])), (o0, .inl (cyL, 1, .inr (.inl (fo))))] sz) t) (va_A [(h0, .inr (12, [.ref a1, .ref a2, .ref a3, .ref a4, .ref a5, .ref a6, .ref a7, .ref a8, .int tol, .int sal])), (a7, .inr (4, [.ref d1, .ref d2, .ref d3, .ref d4, .int 0, .int ag])), (o0, .inl (cyL, 1, .inr (.inl (fo))))] sz)) 1 6 (va_A [(h0, .inr (12, [.ref a1, .ref a2, .ref a3, .ref a4, .ref a5, .ref a6, .ref a7, .ref a8, .int tol, .int sal])), (a7, .inr (4, [.ref d1, .ref d2, .ref d3, .ref d4, .int 0, .int ag])), (o0, .inl (cyL, 1, .inr (.inl (fo))))] sz) := by
  refine va_MetW (cc := cL_culprit) (maxL := 3) (ret := (Option.some Jvm.ClassFile.FieldType.int)) (hh := [((0 : Nat), (8 : Nat), (11 : Nat), (27 : Nat)), ((0 : Nat), (8 : Nat), (14 : Nat), (50 : Nat))]) (by decide) rfl ?_
  intro p e s m args below meth c s₁ B hml hv
  obtain ⟨rfl, rfl, hP, hK, hD0, hG⟩ := hv
  have hx := B.exec
  have hb := B.bytes
  have hr := B.returns
  have hts := atoms_spec (ws := wz_L_culprit) B.pre
  have htab := vx_table (x := yL_culprit) B (hts _ List.mem_cons_self)
  have hg : ∀ w ∈ lw_good, w.before _ s = true := fun w h => hts w (List.mem_cons_of_mem _ h)
  have hown : s.vm.findClass RL = some m.cls := findClass_of_methodNamed B.named
  have hlocks := B.notSynchronized
  have hD := hD0.self (sz := s.heap.size)
  generalize hAe : va_A [(h0, .inr (12, [.ref a1, .ref a2, .ref a3, .ref a4, .ref a5, .ref a6, .ref a7, .ref a8, .int tol, .int sal])), (a7, .inr (4, [.ref d1, .ref d2, .ref d3, .ref d4, .int 0, .int ag])), (o0, .inl (cyL, 1, .inr (.inl (fo))))] s.heap.size = A at hD hG ⊢
  have hA : ∀ q : Nat, s.heap.size ≤ q → A q := fun q h => by rw [← hAe]; exact Or.inr h
  have hS : va_S A s.heap s.heap [] := va_S.rf
  have hl := lv_entry ([.ref h0, .ref o0]) (n := 3) (Nat.le_of_ble_eq_true rfl)
  rw [lg_entry_eq]
  generalize (lg_sl ([.ref h0, .ref o0]) ++ List.replicate (3 - (lg_sl ([.ref h0, .ref o0])).length) Slot.unset).toArray = ls at hl ⊢
  have hl : lv_has ls 3 [(0, .ref h0), (1, .ref o0)] := hl
  refine lv_aload_n hx hb dL_culprit_0 rfl (lv_at hl 1 rfl) ?_
  refine lv_iconst (v := 0) hx hb dL_culprit_1 (by decide) ?_
  refine lv_aload_n hx hb dL_culprit_2 rfl (lv_at hl 0 rfl) ?_
  have hPc := hP.sub (ws' := [(h0, .inr (12, [.ref a1, .ref a2, .ref a3, .ref a4, .ref a5, .ref a6, .ref a7, .ref a8, .int tol, .int sal])), (a7, .inr (4, [.ref d1, .ref d2, .ref d3, .ref d4, .int 0, .int ag]))]) [0, 1] rfl
  have hKc := hK.sub (tys' := []) [] rfl
  refine vx_calli (vx_runV (As := []) (rest := [.int 0, .ref o0]) ⟨hx, hb, hml, hown, hts⟩ (k_X8_culprit l hfl G z h0 a1 a2 a3 a4 a5 a6 a7 a8 tol sal d1 d2 d3 d4 ag s.heap.size ) (cwV 0 hts (lw_goodApp (lw_4 q1126 q1127 q1128 q1) q1129) rfl rfl rfl (by decide +kernel) ⟨Nat.le_of_ble_eq_true rfl, Nat.le_of_ble_eq_true rfl⟩) ⟨PR.blind, va_recv hK hP (ci := 12) (q0 := 0) rfl rfl, PR.of hPc hKc hG hS hA [.ref h0]⟩ rfl rfl hl.1 rfl (lv_room (Nat.le_of_ble_eq_true rfl)) dL_culprit_3 ⟨Nat.le_of_ble_eq_true rfl, Nat.le_of_ble_eq_true rfl⟩) hS (fun q h9 h => zN.not h9 h) (fun q h => hA q (Nat.le_trans hS.1 h)) (fun q h9 h => zN.not h9 h) (fun E ce q9 ux t_4 H_1 locs ht hvm px_5 hE hz1 hk1 hS hq9 hv9 hcl9 => ?_) (fun r_2 u t_4 H_1 locs ht hvm hw_3 hB hz1 hk1 hS => ?_)
  · subst hE
    have hP := hP.grown hk1
    refine vx_widen (k := 1) (n := 6) (Nat.le_of_ble_eq_true rfl) (Nat.le_of_ble_eq_true rfl) ?_
    refine vx_catch (name := "java/lang/UnsupportedOperationException") hown [] ⟨0, 8, 11, 27⟩ [⟨0, 8, 14, 50⟩] (htab.trans rfl) (fun z9 h9 => absurd h9 List.not_mem_nil) (by decide) (by decide) (hg _ q566) (va_Nw.use rfl (hG.2.2.2.2.1 _ qf574)) hq9 hv9 hcl9 ?_
    refine lv_astore_n (lv' := [(2, .ref q9), (0, .ref h0), (1, .ref o0)]) hx hb dL_culprit_11 rfl hl (by decide) rfl (fun ls hl => ?_)
    refine lv_iconst (v := 1) hx hb dL_culprit_12 (by decide) ?_
    refine W.widen (k := 1) (n := 6) (Nat.le_of_ble_eq_true rfl) (Nat.le_of_ble_eq_true rfl) ?_
    have hP9 := hP.sub (ws' := [(o0, .inl (cyL, 1, .inr (.inl (fo))))]) [2] rfl
    have hD9 := hD.sub (ws' := [(o0, .inl (cyL, 1, .inr (.inl (fo))))]) [2] (by decide) rfl
    have hK9 := hK.sub (tys' := [(cyL, .long)]) [0] rfl
    exact W.iret (v := 1) hx hb hr (fun t ht hW => ⟨⟨1, (), rfl, rfl, QW.of hP9 hK9 hD9 ht hW.alike⟩, hS.F ht⟩) hS.2.2 dL_culprit_13
  exact hw_3.elim

abbrev wz_L_forged : List Cond := .codeWith yL_forged cL_forged 5 (Option.some Jvm.ClassFile.FieldType.int) [((0 : Nat), (10 : Nat), (13 : Nat), (21 : Nat)), ((0 : Nat), (10 : Nat), (17 : Nat), (13 : Nat)), ((0 : Nat), (10 : Nat), (21 : Nat), (27 : Nat))] :: lw_good
set_option maxHeartbeats 4000000 in
set_option maxRecDepth 100000 in
/-- the law on forged of a fresh object: it throws -/
theorem k_L_forged (l : Launch) (hfl : l.stackTraces = false) (G : va_G) (z : Nat) (h0 : Nat) (a1 : Nat) (a2 : Nat) (a3 : Nat) (a4 : Nat) (a5 : Nat) (a6 : Nat) (a7 : Nat) (a8 : Nat) (tol : Int32) (sal : Int32) (c0 : Int32) (e0 : Nat) (p0 : Int32) (p1 : Int32) (o0 : Nat) (cyL : ClassId) (fo : Nat → Int64) (sz : Nat)  : Met l yL_forged wz_L_forged ({ frames := 8, cells := 1, slots := 6, locals := 125 }) (va_Pc [.ref h0, .int p0, .int p1, .ref o0] (PW G z [(h0, .inr (12, [.ref a1, .ref a2, .ref a3, .ref a4, .ref a5, .ref a6, .ref a7, .ref a8, .int tol, .int sal])), (a4, .inr (3, [.int c0, .ref e0, .int 0])), (o0, .inl (cyL, 1, .inr (.inl (fo))))] [(cyL, .long)] sz)) (va_Qi (fun (r : Int32) (_ : Unit) => r = 1) (fun (_ : Unit) (t : State) => QW G [(o0, .inl (cyL, 1, .inr (.inl (fo))))] [(cyL, .long)] (va_A [(h0, .inr (12, [.ref a1, .ref a2, .ref a3, .ref a4, .ref a5, .ref a6, .ref a7, .ref a8, .int tol, .int sal])), (a4, .inr (3, [.int c0, .ref e0, .int 0])), (o0, .inl (cyL, 1, .inr (.inl (fo))))] sz) t) (va_A [(h0, .inr (12, [.ref a1, .ref a2, .ref a3, .ref a4, .ref a5, .ref a6, .ref a7, .ref a8, .int tol, .int sal])), (a4, .inr (3, [.int c0, .ref e0, .int 0])), (o0, .inl (cyL, 1, .inr (.inl (fo))))] sz)) 1 6 (va_A [(h0, .inr (12, [.ref a1, .ref a2, .ref a3, .ref a4, .ref a5, .ref a6, .ref a7, .ref a8, .int tol, .int sal])), (a4, .inr (3, [.int c0, .ref e0, .int 0])), (o0, .inl (cyL, 1, .inr (.inl (fo))))] sz) := by
  refine va_MetW (cc := cL_forged) (maxL := 5) (ret := (Option.some Jvm.ClassFile.FieldType.int)) (hh := [((0 : Nat), (10 : Nat), (13 : Nat), (21 : Nat)), ((0 : Nat), (10 : Nat), (17 : Nat), (13 : Nat)), ((0 : Nat), (10 : Nat), (21 : Nat), (27 : Nat))]) (by decide) rfl ?_
  intro p e s m args below meth c s₁ B hml hv
  obtain ⟨rfl, rfl, hP, hK, hD0, hG⟩ := hv
  have hx := B.exec
  have hb := B.bytes
  have hr := B.returns
  have hts := atoms_spec (ws := wz_L_forged) B.pre
  have htab := vx_table (x := yL_forged) B (hts _ List.mem_cons_self)
  have hg : ∀ w ∈ lw_good, w.before _ s = true := fun w h => hts w (List.mem_cons_of_mem _ h)
  have hown : s.vm.findClass RL = some m.cls := findClass_of_methodNamed B.named
  have hlocks := B.notSynchronized
  have hD := hD0.self (sz := s.heap.size)
  generalize hAe : va_A [(h0, .inr (12, [.ref a1, .ref a2, .ref a3, .ref a4, .ref a5, .ref a6, .ref a7, .ref a8, .int tol, .int sal])), (a4, .inr (3, [.int c0, .ref e0, .int 0])), (o0, .inl (cyL, 1, .inr (.inl (fo))))] s.heap.size = A at hD hG ⊢
  have hA : ∀ q : Nat, s.heap.size ≤ q → A q := fun q h => by rw [← hAe]; exact Or.inr h
  have hS : va_S A s.heap s.heap [] := va_S.rf
  have hl := lv_entry ([.ref h0, .int p0, .int p1, .ref o0]) (n := 5) (Nat.le_of_ble_eq_true rfl)
  rw [lg_entry_eq]
  generalize (lg_sl ([.ref h0, .int p0, .int p1, .ref o0]) ++ List.replicate (5 - (lg_sl ([.ref h0, .int p0, .int p1, .ref o0])).length) Slot.unset).toArray = ls at hl ⊢
  have hl : lv_has ls 5 [(0, .ref h0), (1, .int p0), (2, .int p1), (3, .ref o0)] := hl
  refine lv_aload_n hx hb dL_forged_0 rfl (lv_at hl 3 rfl) ?_
  refine lv_iconst (v := 0) hx hb dL_forged_1 (by decide) ?_
  refine lv_aload_n hx hb dL_forged_2 rfl (lv_at hl 0 rfl) ?_
  refine lv_iload_n hx hb dL_forged_3 rfl (lv_at hl 1 rfl) ?_
  refine lv_iload_n hx hb dL_forged_4 rfl (lv_at hl 2 rfl) ?_
  have hPc := hP.sub (ws' := [(h0, .inr (12, [.ref a1, .ref a2, .ref a3, .ref a4, .ref a5, .ref a6, .ref a7, .ref a8, .int tol, .int sal])), (a4, .inr (3, [.int c0, .ref e0, .int 0]))]) [0, 1] rfl
  have hKc := hK.sub (tys' := []) [] rfl
  refine vx_calli (vx_runV (As := [.int p0, .int p1]) (rest := [.int 0, .ref o0]) ⟨hx, hb, hml, hown, hts⟩ (k_X8_forged l hfl G z h0 a1 a2 a3 a4 a5 a6 a7 a8 tol sal c0 e0 p0 p1 s.heap.size ) (cwV 2 hts (lw_goodApp (lw_4 q1135 q1136 q1137 q1) q1138) rfl rfl rfl (by decide +kernel) ⟨Nat.le_of_ble_eq_true rfl, Nat.le_of_ble_eq_true rfl⟩) ⟨PR.blind, va_recv hK hP (ci := 12) (q0 := 0) rfl rfl, PR.of hPc hKc hG hS hA [.ref h0, .int p0, .int p1]⟩ rfl rfl hl.1 rfl (lv_room (Nat.le_of_ble_eq_true rfl)) dL_forged_5 ⟨Nat.le_of_ble_eq_true rfl, Nat.le_of_ble_eq_true rfl⟩) hS (fun q h9 h => zN.not h9 h) (fun q h => hA q (Nat.le_trans hS.1 h)) (fun q h9 h => zN.not h9 h) (fun E ce q9 ux t_4 H_1 locs ht hvm px_5 hE hz1 hk1 hS hq9 hv9 hcl9 => ?_) (fun r_2 u t_4 H_1 locs ht hvm hw_3 hB hz1 hk1 hS => ?_)
  · subst hE
    have hP := hP.grown hk1
    refine vx_widen (k := 1) (n := 6) (Nat.le_of_ble_eq_true rfl) (Nat.le_of_ble_eq_true rfl) ?_
    refine vx_catch (name := "java/lang/IndexOutOfBoundsException") hown [] ⟨0, 10, 13, 21⟩ [⟨0, 10, 17, 13⟩, ⟨0, 10, 21, 27⟩] (htab.trans rfl) (fun z9 h9 => absurd h9 List.not_mem_nil) (by decide) (by decide) (hg _ q518) (va_Nw.use rfl (hG.2.2.2.2.1 _ qf552)) hq9 hv9 hcl9 ?_
    refine lv_astore (lv' := [(4, .ref q9), (0, .ref h0), (1, .int p0), (2, .int p1), (3, .ref o0)]) hx hb dL_forged_13 hl (by decide) rfl (fun ls hl => ?_)
    refine lv_iconst (v := 1) hx hb dL_forged_15 (by decide) ?_
    refine W.widen (k := 1) (n := 6) (Nat.le_of_ble_eq_true rfl) (Nat.le_of_ble_eq_true rfl) ?_
    have hP9 := hP.sub (ws' := [(o0, .inl (cyL, 1, .inr (.inl (fo))))]) [2] rfl
    have hD9 := hD.sub (ws' := [(o0, .inl (cyL, 1, .inr (.inl (fo))))]) [2] (by decide) rfl
    have hK9 := hK.sub (tys' := [(cyL, .long)]) [0] rfl
    exact W.iret (v := 1) hx hb hr (fun t ht hW => ⟨⟨1, (), rfl, rfl, QW.of hP9 hK9 hD9 ht hW.alike⟩, hS.F ht⟩) hS.2.2 dL_forged_16
  exact hw_3.elim

abbrev wz_L_years : List Cond := .codeWith yL_years cL_years 3 (Option.some Jvm.ClassFile.FieldType.int) [((0 : Nat), (7 : Nat), (10 : Nat), (27 : Nat))] :: lw_good
set_option maxHeartbeats 4000000 in
set_option maxRecDepth 100000 in
/-- the law on years of a fresh object -/
theorem k_L_years (l : Launch) (hfl : l.stackTraces = false) (G : va_G) (z : Nat) (h0 : Nat) (a1 : Nat) (a2 : Nat) (a3 : Nat) (a4 : Nat) (a5 : Nat) (a6 : Nat) (a7 : Nat) (a8 : Nat) (tol : Int32) (sal : Int32) (d1 : Nat) (d2 : Nat) (d3 : Nat) (d4 : Nat) (ag : Int32) (c0 : Int32) (e0 : Nat) (o0 : Nat) (cyL : ClassId) (fo : Nat → Int64) (sz : Nat)  : Met l yL_years wz_L_years ({ frames := 3, cells := 0, slots := 0, locals := 68 }) (va_Pc [.ref h0, .ref o0] (PW G z [(h0, .inr (12, [.ref a1, .ref a2, .ref a3, .ref a4, .ref a5, .ref a6, .ref a7, .ref a8, .int tol, .int sal])), (a7, .inr (4, [.ref d1, .ref d2, .ref d3, .ref d4, .int 0, .int ag])), (a4, .inr (3, [.int c0, .ref e0, .int 0])), (o0, .inl (cyL, 1, .inr (.inl (fo))))] [(cyL, .long)] sz)) (va_Qi (fun (r : Int32) (u : Nat → Int64) => r = 0 ∧ u 0 = 0) (fun (u : Nat → Int64) (t : State) => QW G [(o0, .inl (cyL, 1, .inr (.inl (u))))] [(cyL, .long)] (va_A [(h0, .inr (12, [.ref a1, .ref a2, .ref a3, .ref a4, .ref a5, .ref a6, .ref a7, .ref a8, .int tol, .int sal])), (a7, .inr (4, [.ref d1, .ref d2, .ref d3, .ref d4, .int 0, .int ag])), (a4, .inr (3, [.int c0, .ref e0, .int 0])), (o0, .inl (cyL, 1, .inr (.inl (fo))))] sz) t) (va_A [(h0, .inr (12, [.ref a1, .ref a2, .ref a3, .ref a4, .ref a5, .ref a6, .ref a7, .ref a8, .int tol, .int sal])), (a7, .inr (4, [.ref d1, .ref d2, .ref d3, .ref d4, .int 0, .int ag])), (a4, .inr (3, [.int c0, .ref e0, .int 0])), (o0, .inl (cyL, 1, .inr (.inl (fo))))] sz)) 0 0 (va_A [(h0, .inr (12, [.ref a1, .ref a2, .ref a3, .ref a4, .ref a5, .ref a6, .ref a7, .ref a8, .int tol, .int sal])), (a7, .inr (4, [.ref d1, .ref d2, .ref d3, .ref d4, .int 0, .int ag])), (a4, .inr (3, [.int c0, .ref e0, .int 0])), (o0, .inl (cyL, 1, .inr (.inl (fo))))] sz) := by
  refine va_MetW (cc := cL_years) (maxL := 3) (ret := (Option.some Jvm.ClassFile.FieldType.int)) (hh := [((0 : Nat), (7 : Nat), (10 : Nat), (27 : Nat))]) (by decide) rfl ?_
  intro p e s m args below meth c s₁ B hml hv
  obtain ⟨rfl, rfl, hP, hK, hD0, hG⟩ := hv
  have hx := B.exec
  have hb := B.bytes
  have hr := B.returns
  have hts := atoms_spec (ws := wz_L_years) B.pre
  have htab := vx_table (x := yL_years) B (hts _ List.mem_cons_self)
  have hg : ∀ w ∈ lw_good, w.before _ s = true := fun w h => hts w (List.mem_cons_of_mem _ h)
  have hown : s.vm.findClass RL = some m.cls := findClass_of_methodNamed B.named
  have hlocks := B.notSynchronized
  have hD := hD0.self (sz := s.heap.size)
  generalize hAe : va_A [(h0, .inr (12, [.ref a1, .ref a2, .ref a3, .ref a4, .ref a5, .ref a6, .ref a7, .ref a8, .int tol, .int sal])), (a7, .inr (4, [.ref d1, .ref d2, .ref d3, .ref d4, .int 0, .int ag])), (a4, .inr (3, [.int c0, .ref e0, .int 0])), (o0, .inl (cyL, 1, .inr (.inl (fo))))] s.heap.size = A at hD hG ⊢
  have hA : ∀ q : Nat, s.heap.size ≤ q → A q := fun q h => by rw [← hAe]; exact Or.inr h
  have hS : va_S A s.heap s.heap [] := va_S.rf
  have hl := lv_entry ([.ref h0, .ref o0]) (n := 3) (Nat.le_of_ble_eq_true rfl)
  rw [lg_entry_eq]
  generalize (lg_sl ([.ref h0, .ref o0]) ++ List.replicate (3 - (lg_sl ([.ref h0, .ref o0])).length) Slot.unset).toArray = ls at hl ⊢
  have hl : lv_has ls 3 [(0, .ref h0), (1, .ref o0)] := hl
  refine lv_aload_n hx hb dL_years_0 rfl (lv_at hl 1 rfl) ?_
  refine lv_iconst (v := 0) hx hb dL_years_1 (by decide) ?_
  refine lv_aload_n hx hb dL_years_2 rfl (lv_at hl 0 rfl) ?_
  have hPc := hP.sub (ws' := [(h0, .inr (12, [.ref a1, .ref a2, .ref a3, .ref a4, .ref a5, .ref a6, .ref a7, .ref a8, .int tol, .int sal])), (a7, .inr (4, [.ref d1, .ref d2, .ref d3, .ref d4, .int 0, .int ag])), (a4, .inr (3, [.int c0, .ref e0, .int 0]))]) [0, 1, 2] rfl
  have hKc := hK.sub (tys' := []) [] rfl
  refine vx_calll (vx_runV (As := []) (rest := [.int 0, .ref o0]) ⟨hx, hb, hml, hown, hts⟩ (k_X8_years l hfl G z h0 a1 a2 a3 a4 a5 a6 a7 a8 tol sal d1 d2 d3 d4 ag c0 e0 s.heap.size ) (cwV 0 hts (lw_goodApp (lw_4 q1142 q1143 q1144 q1) q1145) rfl rfl rfl (by decide +kernel) ⟨Nat.le_of_ble_eq_true rfl, Nat.le_of_ble_eq_true rfl⟩) ⟨PR.blind, va_recv hK hP (ci := 12) (q0 := 0) rfl rfl, PR.of hPc hKc hG hS hA [.ref h0]⟩ rfl rfl hl.1 rfl (lv_room (Nat.le_of_ble_eq_true rfl)) dL_years_3 ⟨Nat.le_of_ble_eq_true rfl, Nat.le_of_ble_eq_true rfl⟩) hS (fun q h9 h => zN.not h9 h) (fun q h => hA q (Nat.le_trans hS.1 h)) (fun q h9 h => zN.not h9 h) (fun E ce q9 ux t_4 H_1 locs ht hvm px_5 hE hz1 hk1 hS hq9 hv9 hcl9 => ?_) (fun r_2 u t_4 H_1 locs ht hvm hw_3 hB hz1 hk1 hS => ?_)
  · subst hE
    have hP := hP.grown hk1
    refine vx_widen (k := 0) (n := 0) (Nat.le_of_ble_eq_true rfl) (Nat.le_of_ble_eq_true rfl) ?_
    refine vx_catch (name := "java/lang/UnsupportedOperationException") hown [] ⟨0, 7, 10, 27⟩ [] (htab.trans rfl) (fun z9 h9 => absurd h9 List.not_mem_nil) (by decide) (by decide) (hg _ q566) (va_Nw.use rfl (hG.2.2.2.2.1 _ qf574)) hq9 hv9 hcl9 ?_
    refine lv_astore_n (lv' := [(2, .ref q9), (0, .ref h0), (1, .ref o0)]) hx hb dL_years_10 rfl hl (by decide) rfl (fun ls hl => ?_)
    refine lv_iconst (v := 1) hx hb dL_years_11 (by decide) ?_
    refine W.widen (k := 0) (n := 0) (Nat.le_of_ble_eq_true rfl) (Nat.le_of_ble_eq_true rfl) ?_
    have hP9 := hP.sub (ws' := [(o0, .inl (cyL, 1, .inr (.inl (fo))))]) [3] rfl
    have hD9 := hD.sub (ws' := [(o0, .inl (cyL, 1, .inr (.inl (fo))))]) [3] (by decide) rfl
    have hK9 := hK.sub (tys' := [(cyL, .long)]) [0] rfl
    exact W.iret (v := 1) hx hb hr (fun t ht hW => ⟨⟨1, fo, rfl, px_5.elim, QW.of hP9 hK9 hD9 ht hW.alike⟩, hS.F ht⟩) hS.2.2 dL_years_12
  have hP := hP.grown hk1
  refine W.widen (k := 0) (n := 0) (Nat.le_of_ble_eq_true rfl) (Nat.le_of_ble_eq_true rfl) ?_
  have he9 := hw_3
  refine va_last hx hb hK hP hD hS 3 0 rfl rfl (by unfold vp_in; decide +kernel) dL_years_6 (fun H_6 locs hP hD hS => ?_)
  have hP : va_P G vwCl ([(h0, .inr (12, [.ref a1, .ref a2, .ref a3, .ref a4, .ref a5, .ref a6, .ref a7, .ref a8, .int tol, .int sal])), (a7, .inr (4, [.ref d1, .ref d2, .ref d3, .ref d4, .int 0, .int ag])), (a4, .inr (3, [.int c0, .ref e0, .int 0])), (o0, .inl (cyL, 1, .inr (.inl (vp_updL (fo) (0 : Int32).toNatClampNeg (r_2)))))]) H_6 := hP
  have hD : va_D A ([(h0, .inr (12, [.ref a1, .ref a2, .ref a3, .ref a4, .ref a5, .ref a6, .ref a7, .ref a8, .int tol, .int sal])), (a7, .inr (4, [.ref d1, .ref d2, .ref d3, .ref d4, .int 0, .int ag])), (a4, .inr (3, [.int c0, .ref e0, .int 0])), (o0, .inl (cyL, 1, .inr (.inl (vp_updL (fo) (0 : Int32).toNatClampNeg (r_2)))))]) := hD
  refine lv_goto (tgt := 13) hx hb dL_years_7 (by decide) ?_
  refine lv_iconst (v := 0) hx hb dL_years_13 (by decide) ?_
  refine W.widen (k := 0) (n := 0) (Nat.le_of_ble_eq_true rfl) (Nat.le_of_ble_eq_true rfl) ?_
  have hP9 := hP.sub (ws' := [(o0, .inl (cyL, 1, .inr (.inl ((vp_updL (fo) (0 : Int32).toNatClampNeg (r_2))))))]) [3] rfl
  have hD9 := hD.sub (ws' := [(o0, .inl (cyL, 1, .inr (.inl ((vp_updL (fo) (0 : Int32).toNatClampNeg (r_2))))))]) [3] (by decide) rfl
  have hK9 := hK.sub (tys' := [(cyL, .long)]) [0] rfl
  exact W.iret (v := 0) hx hb hr (fun t ht hW => ⟨⟨0, vp_updL (fo) (0 : Int32).toNatClampNeg (r_2), rfl, ⟨rfl, z_updL0.trans he9⟩, QW.of hP9 hK9 hD9 ht hW.alike⟩, hS.F ht⟩) hS.2.2 dL_years_14

abbrev wz_L_usedShare : List Cond := .codeWith yL_usedShare cL_usedShare 3 (Option.some Jvm.ClassFile.FieldType.int) [((0 : Nat), (8 : Nat), (11 : Nat), (155 : Nat))] :: lw_good
set_option maxHeartbeats 4000000 in
set_option maxRecDepth 100000 in
/-- the law on usedShare of a fresh object: it throws -/
theorem k_L_usedShare (l : Launch) (hfl : l.stackTraces = false) (G : va_G) (z : Nat) (h0 : Nat) (a1 : Nat) (a2 : Nat) (a3 : Nat) (a4 : Nat) (a5 : Nat) (a6 : Nat) (a7 : Nat) (a8 : Nat) (tol : Int32) (sal : Int32) (c0 : Int32) (e0 : Nat) (o0 : Nat) (cyL : ClassId) (fd : Nat → UInt64) (sz : Nat)  : Met l yL_usedShare wz_L_usedShare ({ frames := 7, cells := 1, slots := 6, locals := 103 }) (va_Pc [.ref h0, .ref o0] (PW G z [(h0, .inr (12, [.ref a1, .ref a2, .ref a3, .ref a4, .ref a5, .ref a6, .ref a7, .ref a8, .int tol, .int sal])), (a2, .inr (3, [.int c0, .ref e0, .int 0])), (o0, .inl (cyL, 1, .inr (.inr (.inr (.inl (fd))))))] [(cyL, .double)] sz)) (va_Qi (fun (r : Int32) (_ : Unit) => r = 1) (fun (_ : Unit) (t : State) => QW G [(o0, .inl (cyL, 1, .inr (.inr (.inr (.inl (fd))))))] [(cyL, .double)] (va_A [(h0, .inr (12, [.ref a1, .ref a2, .ref a3, .ref a4, .ref a5, .ref a6, .ref a7, .ref a8, .int tol, .int sal])), (a2, .inr (3, [.int c0, .ref e0, .int 0])), (o0, .inl (cyL, 1, .inr (.inr (.inr (.inl (fd))))))] sz) t) (va_A [(h0, .inr (12, [.ref a1, .ref a2, .ref a3, .ref a4, .ref a5, .ref a6, .ref a7, .ref a8, .int tol, .int sal])), (a2, .inr (3, [.int c0, .ref e0, .int 0])), (o0, .inl (cyL, 1, .inr (.inr (.inr (.inl (fd))))))] sz)) 1 6 (va_A [(h0, .inr (12, [.ref a1, .ref a2, .ref a3, .ref a4, .ref a5, .ref a6, .ref a7, .ref a8, .int tol, .int sal])), (a2, .inr (3, [.int c0, .ref e0, .int 0])), (o0, .inl (cyL, 1, .inr (.inr (.inr (.inl (fd))))))] sz) := by
  refine va_MetW (cc := cL_usedShare) (maxL := 3) (ret := (Option.some Jvm.ClassFile.FieldType.int)) (hh := [((0 : Nat), (8 : Nat), (11 : Nat), (155 : Nat))]) (by decide) rfl ?_
  intro p e s m args below meth c s₁ B hml hv
  obtain ⟨rfl, rfl, hP, hK, hD0, hG⟩ := hv
  have hx := B.exec
  have hb := B.bytes
  have hr := B.returns
  have hts := atoms_spec (ws := wz_L_usedShare) B.pre
  have htab := vx_table (x := yL_usedShare) B (hts _ List.mem_cons_self)
  have hg : ∀ w ∈ lw_good, w.before _ s = true := fun w h => hts w (List.mem_cons_of_mem _ h)
  have hown : s.vm.findClass RL = some m.cls := findClass_of_methodNamed B.named
  have hlocks := B.notSynchronized
  have hD := hD0.self (sz := s.heap.size)
  generalize hAe : va_A [(h0, .inr (12, [.ref a1, .ref a2, .ref a3, .ref a4, .ref a5, .ref a6, .ref a7, .ref a8, .int tol, .int sal])), (a2, .inr (3, [.int c0, .ref e0, .int 0])), (o0, .inl (cyL, 1, .inr (.inr (.inr (.inl (fd))))))] s.heap.size = A at hD hG ⊢
  have hA : ∀ q : Nat, s.heap.size ≤ q → A q := fun q h => by rw [← hAe]; exact Or.inr h
  have hS : va_S A s.heap s.heap [] := va_S.rf
  have hl := lv_entry ([.ref h0, .ref o0]) (n := 3) (Nat.le_of_ble_eq_true rfl)
  rw [lg_entry_eq]
  generalize (lg_sl ([.ref h0, .ref o0]) ++ List.replicate (3 - (lg_sl ([.ref h0, .ref o0])).length) Slot.unset).toArray = ls at hl ⊢
  have hl : lv_has ls 3 [(0, .ref h0), (1, .ref o0)] := hl
  refine lv_aload_n hx hb dL_usedShare_0 rfl (lv_at hl 1 rfl) ?_
  refine lv_iconst (v := 0) hx hb dL_usedShare_1 (by decide) ?_
  refine lv_aload_n hx hb dL_usedShare_2 rfl (lv_at hl 0 rfl) ?_
  have hPc := hP.sub (ws' := [(h0, .inr (12, [.ref a1, .ref a2, .ref a3, .ref a4, .ref a5, .ref a6, .ref a7, .ref a8, .int tol, .int sal])), (a2, .inr (3, [.int c0, .ref e0, .int 0]))]) [0, 1] rfl
  have hKc := hK.sub (tys' := []) [] rfl
  refine vx_callf (vx_runV (As := []) (rest := [.int 0, .ref o0]) ⟨hx, hb, hml, hown, hts⟩ (k_X8_usedShare l hfl G z h0 a1 a2 a3 a4 a5 a6 a7 a8 tol sal c0 e0 s.heap.size ) (cwV 0 hts (lw_goodApp (lw_4 q1163 q1164 q1165 q1) q1166) rfl rfl rfl (by decide +kernel) ⟨Nat.le_of_ble_eq_true rfl, Nat.le_of_ble_eq_true rfl⟩) ⟨PR.blind, va_recv hK hP (ci := 12) (q0 := 0) rfl rfl, PR.of hPc hKc hG hS hA [.ref h0]⟩ rfl rfl hl.1 rfl (lv_room (Nat.le_of_ble_eq_true rfl)) dL_usedShare_3 ⟨Nat.le_of_ble_eq_true rfl, Nat.le_of_ble_eq_true rfl⟩) hS (fun q h9 h => zN.not h9 h) (fun q h => hA q (Nat.le_trans hS.1 h)) (fun q h9 h => zN.not h9 h) (fun E ce q9 ux t_4 H_1 locs ht hvm px_5 hE hz1 hk1 hS hq9 hv9 hcl9 => ?_) (fun r_2 u t_4 H_1 locs ht hvm hw_3 hB hz1 hk1 hS => ?_)
  · subst hE
    have hP := hP.grown hk1
    refine vx_widen (k := 1) (n := 6) (Nat.le_of_ble_eq_true rfl) (Nat.le_of_ble_eq_true rfl) ?_
    refine vx_catch (name := "java/lang/ArithmeticException") hown [] ⟨0, 8, 11, 155⟩ [] (htab.trans rfl) (fun z9 h9 => absurd h9 List.not_mem_nil) (by decide) (by decide) (hg _ q1149) (va_Nw.use rfl (hG.2.2.2.2.1 _ qf1161)) hq9 hv9 hcl9 ?_
    refine lv_astore_n (lv' := [(2, .ref q9), (0, .ref h0), (1, .ref o0)]) hx hb dL_usedShare_11 rfl hl (by decide) rfl (fun ls hl => ?_)
    refine lv_iconst (v := 1) hx hb dL_usedShare_12 (by decide) ?_
    refine W.widen (k := 1) (n := 6) (Nat.le_of_ble_eq_true rfl) (Nat.le_of_ble_eq_true rfl) ?_
    have hP9 := hP.sub (ws' := [(o0, .inl (cyL, 1, .inr (.inr (.inr (.inl (fd))))))]) [2] rfl
    have hD9 := hD.sub (ws' := [(o0, .inl (cyL, 1, .inr (.inr (.inr (.inl (fd))))))]) [2] (by decide) rfl
    have hK9 := hK.sub (tys' := [(cyL, .double)]) [0] rfl
    exact W.iret (v := 1) hx hb hr (fun t ht hW => ⟨⟨1, (), rfl, rfl, QW.of hP9 hK9 hD9 ht hW.alike⟩, hS.F ht⟩) hS.2.2 dL_usedShare_13
  exact hw_3.elim

abbrev wz_L_meanAge : List Cond := .codeWith yL_meanAge cL_meanAge 3 (Option.some Jvm.ClassFile.FieldType.int) [((0 : Nat), (7 : Nat), (10 : Nat), (50 : Nat))] :: lw_good
set_option maxHeartbeats 4000000 in
set_option maxRecDepth 100000 in
/-- the law on meanAge of a fresh object: it throws -/
theorem k_L_meanAge (l : Launch) (hfl : l.stackTraces = false) (G : va_G) (z : Nat) (h0 : Nat) (a1 : Nat) (a2 : Nat) (a3 : Nat) (a4 : Nat) (a5 : Nat) (a6 : Nat) (a7 : Nat) (a8 : Nat) (tol : Int32) (sal : Int32) (c0 : Int32) (e0 : Nat) (o0 : Nat) (cyL : ClassId) (fd : Nat → UInt64) (sz : Nat)  : Met l yL_meanAge wz_L_meanAge ({ frames := 7, cells := 1, slots := 6, locals := 107 }) (va_Pc [.ref h0, .ref o0] (PW G z [(h0, .inr (12, [.ref a1, .ref a2, .ref a3, .ref a4, .ref a5, .ref a6, .ref a7, .ref a8, .int tol, .int sal])), (a4, .inr (3, [.int c0, .ref e0, .int 0])), (o0, .inl (cyL, 1, .inr (.inr (.inr (.inl (fd))))))] [(cyL, .double)] sz)) (va_Qi (fun (r : Int32) (_ : Unit) => r = 1) (fun (_ : Unit) (t : State) => QW G [(o0, .inl (cyL, 1, .inr (.inr (.inr (.inl (fd))))))] [(cyL, .double)] (va_A [(h0, .inr (12, [.ref a1, .ref a2, .ref a3, .ref a4, .ref a5, .ref a6, .ref a7, .ref a8, .int tol, .int sal])), (a4, .inr (3, [.int c0, .ref e0, .int 0])), (o0, .inl (cyL, 1, .inr (.inr (.inr (.inl (fd))))))] sz) t) (va_A [(h0, .inr (12, [.ref a1, .ref a2, .ref a3, .ref a4, .ref a5, .ref a6, .ref a7, .ref a8, .int tol, .int sal])), (a4, .inr (3, [.int c0, .ref e0, .int 0])), (o0, .inl (cyL, 1, .inr (.inr (.inr (.inl (fd))))))] sz)) 1 6 (va_A [(h0, .inr (12, [.ref a1, .ref a2, .ref a3, .ref a4, .ref a5, .ref a6, .ref a7, .ref a8, .int tol, .int sal])), (a4, .inr (3, [.int c0, .ref e0, .int 0])), (o0, .inl (cyL, 1, .inr (.inr (.inr (.inl (fd))))))] sz) := by
  refine va_MetW (cc := cL_meanAge) (maxL := 3) (ret := (Option.some Jvm.ClassFile.FieldType.int)) (hh := [((0 : Nat), (7 : Nat), (10 : Nat), (50 : Nat))]) (by decide) rfl ?_
  intro p e s m args below meth c s₁ B hml hv
  obtain ⟨rfl, rfl, hP, hK, hD0, hG⟩ := hv
  have hx := B.exec
  have hb := B.bytes
  have hr := B.returns
  have hts := atoms_spec (ws := wz_L_meanAge) B.pre
  have htab := vx_table (x := yL_meanAge) B (hts _ List.mem_cons_self)
  have hg : ∀ w ∈ lw_good, w.before _ s = true := fun w h => hts w (List.mem_cons_of_mem _ h)
  have hown : s.vm.findClass RL = some m.cls := findClass_of_methodNamed B.named
  have hlocks := B.notSynchronized
  have hD := hD0.self (sz := s.heap.size)
  generalize hAe : va_A [(h0, .inr (12, [.ref a1, .ref a2, .ref a3, .ref a4, .ref a5, .ref a6, .ref a7, .ref a8, .int tol, .int sal])), (a4, .inr (3, [.int c0, .ref e0, .int 0])), (o0, .inl (cyL, 1, .inr (.inr (.inr (.inl (fd))))))] s.heap.size = A at hD hG ⊢
  have hA : ∀ q : Nat, s.heap.size ≤ q → A q := fun q h => by rw [← hAe]; exact Or.inr h
  have hS : va_S A s.heap s.heap [] := va_S.rf
  have hl := lv_entry ([.ref h0, .ref o0]) (n := 3) (Nat.le_of_ble_eq_true rfl)
  rw [lg_entry_eq]
  generalize (lg_sl ([.ref h0, .ref o0]) ++ List.replicate (3 - (lg_sl ([.ref h0, .ref o0])).length) Slot.unset).toArray = ls at hl ⊢
  have hl : lv_has ls 3 [(0, .ref h0), (1, .ref o0)] := hl
  refine lv_aload_n hx hb dL_meanAge_0 rfl (lv_at hl 1 rfl) ?_
  refine lv_iconst (v := 0) hx hb dL_meanAge_1 (by decide) ?_
  refine lv_aload_n hx hb dL_meanAge_2 rfl (lv_at hl 0 rfl) ?_
  have hPc := hP.sub (ws' := [(h0, .inr (12, [.ref a1, .ref a2, .ref a3, .ref a4, .ref a5, .ref a6, .ref a7, .ref a8, .int tol, .int sal])), (a4, .inr (3, [.int c0, .ref e0, .int 0]))]) [0, 1] rfl
  have hKc := hK.sub (tys' := []) [] rfl
  refine vx_calld (vx_runV (As := []) (rest := [.int 0, .ref o0]) ⟨hx, hb, hml, hown, hts⟩ (k_X8_meanAge l hfl G z h0 a1 a2 a3 a4 a5 a6 a7 a8 tol sal c0 e0 s.heap.size ) (cwV 0 hts (lw_goodApp (lw_4 q1173 q1174 q1175 q1) q1176) rfl rfl rfl (by decide +kernel) ⟨Nat.le_of_ble_eq_true rfl, Nat.le_of_ble_eq_true rfl⟩) ⟨PR.blind, va_recv hK hP (ci := 12) (q0 := 0) rfl rfl, PR.of hPc hKc hG hS hA [.ref h0]⟩ rfl rfl hl.1 rfl (lv_room (Nat.le_of_ble_eq_true rfl)) dL_meanAge_3 ⟨Nat.le_of_ble_eq_true rfl, Nat.le_of_ble_eq_true rfl⟩) hS (fun q h9 h => zN.not h9 h) (fun q h => hA q (Nat.le_trans hS.1 h)) (fun q h9 h => zN.not h9 h) (fun E ce q9 ux t_4 H_1 locs ht hvm px_5 hE hz1 hk1 hS hq9 hv9 hcl9 => ?_) (fun r_2 u t_4 H_1 locs ht hvm hw_3 hB hz1 hk1 hS => ?_)
  · subst hE
    have hP := hP.grown hk1
    refine vx_widen (k := 1) (n := 6) (Nat.le_of_ble_eq_true rfl) (Nat.le_of_ble_eq_true rfl) ?_
    refine vx_catch (name := "java/util/NoSuchElementException") hown [] ⟨0, 7, 10, 50⟩ [] (htab.trans rfl) (fun z9 h9 => absurd h9 List.not_mem_nil) (by decide) (by decide) (hg _ q678) (va_Nw.use rfl (hG.2.2.2.2.1 _ qf685)) hq9 hv9 hcl9 ?_
    refine lv_astore_n (lv' := [(2, .ref q9), (0, .ref h0), (1, .ref o0)]) hx hb dL_meanAge_10 rfl hl (by decide) rfl (fun ls hl => ?_)
    refine lv_iconst (v := 1) hx hb dL_meanAge_11 (by decide) ?_
    refine W.widen (k := 1) (n := 6) (Nat.le_of_ble_eq_true rfl) (Nat.le_of_ble_eq_true rfl) ?_
    have hP9 := hP.sub (ws' := [(o0, .inl (cyL, 1, .inr (.inr (.inr (.inl (fd))))))]) [2] rfl
    have hD9 := hD.sub (ws' := [(o0, .inl (cyL, 1, .inr (.inr (.inr (.inl (fd))))))]) [2] (by decide) rfl
    have hK9 := hK.sub (tys' := [(cyL, .double)]) [0] rfl
    exact W.iret (v := 1) hx hb hr (fun t ht hW => ⟨⟨1, (), rfl, rfl, QW.of hP9 hK9 hD9 ht hW.alike⟩, hS.F ht⟩) hS.2.2 dL_meanAge_12
  exact hw_3.elim
