theorem in_X14 : ∀ w ∈ u_ws RX14 TX14 16, w ∈ lw_good := by decide +kernel
theorem q1187 : Cond.fieldLink "WatermarkmillModel" 59 "WatermarkmillModel" "thrown" "I" ∈ lw_good := lw_in (i := 1187) (by decide +kernel) (by decide +kernel)
theorem q1188 : Cond.fieldLink "WatermarkmillModel" 10 "WatermarkmillModel" "moulds" "Ljava/util/ArrayList;" ∈ lw_good := lw_in (i := 1188) (by decide +kernel) (by decide +kernel)
theorem q1190 : Cond.fieldLink "WatermarkmillModel" 19 "WatermarkmillModel" "reams" "Ljava/util/ArrayList;" ∈ lw_good := lw_in (i := 1190) (by decide +kernel) (by decide +kernel)
theorem q1191 : Cond.fieldLink "WatermarkmillModel" 22 "WatermarkmillModel" "documents" "Ljava/util/ArrayList;" ∈ lw_good := lw_in (i := 1191) (by decide +kernel) (by decide +kernel)
theorem q1192 : Cond.fieldLink "WatermarkmillModel" 25 "WatermarkmillModel" "images" "Ljava/util/ArrayList;" ∈ lw_good := lw_in (i := 1192) (by decide +kernel) (by decide +kernel)
theorem q1239 : Cond.code yX14_thrown prog_11_method_2_code 1 (Option.some Jvm.ClassFile.FieldType.int) ∈ lw_good := lw_in (i := 1239) (by decide +kernel) (by decide +kernel)
theorem q1244 : Cond.methodLink "WatermarkmillModel" 62 yX14_in ∈ lw_good := lw_in (i := 1244) (by decide +kernel) (by decide +kernel)
theorem q1245 : Cond.static yX14_in ∈ lw_good := lw_in (i := 1245) (by decide +kernel) (by decide +kernel)
theorem q1246 : Cond.code yX14_in prog_11_method_4_code 3 (Option.some Jvm.ClassFile.FieldType.boolean) ∈ lw_good := lw_in (i := 1246) (by decide +kernel) (by decide +kernel)
theorem q1247 : Cond.methodLink "WatermarkmillModel" 66 yJx4a65c_size_8abf5 ∈ lw_good := lw_in (i := 1247) (by decide +kernel) (by decide +kernel)
theorem q1248 : Cond.methodLink "WatermarkmillModel" 74 yX14_fails ∈ lw_good := lw_in (i := 1248) (by decide +kernel) (by decide +kernel)
theorem q1250 : Cond.instanceMethod yX14_fails ∈ lw_good := lw_in (i := 1250) (by decide +kernel) (by decide +kernel)
theorem q1251 : Cond.code yX14_fails prog_11_method_3_code 2 (Option.some Jvm.ClassFile.FieldType.boolean) ∈ lw_good := lw_in (i := 1251) (by decide +kernel) (by decide +kernel)
theorem q1300 : Cond.code yX14_copy prog_11_method_11_code 5 (Option.some Jvm.ClassFile.FieldType.int) ∈ lw_good := lw_in (i := 1300) (by decide +kernel) (by decide +kernel)
theorem q1301 : Cond.methodLink "WatermarkmillModel" 89 yX14_failsMould ∈ lw_good := lw_in (i := 1301) (by decide +kernel) (by decide +kernel)
theorem q1303 : Cond.instanceMethod yX14_failsMould ∈ lw_good := lw_in (i := 1303) (by decide +kernel) (by decide +kernel)
theorem q1304 : Cond.code yX14_failsMould prog_11_method_8_code 2 (Option.some Jvm.ClassFile.FieldType.boolean) ∈ lw_good := lw_in (i := 1304) (by decide +kernel) (by decide +kernel)
theorem q1305 : Cond.methodLink "WatermarkmillModel" 70 yX14_isMould ∈ lw_good := lw_in (i := 1305) (by decide +kernel) (by decide +kernel)
theorem q1307 : Cond.instanceMethod yX14_isMould ∈ lw_good := lw_in (i := 1307) (by decide +kernel) (by decide +kernel)
theorem q1308 : Cond.code yX14_isMould prog_11_method_6_code 2 (Option.some Jvm.ClassFile.FieldType.boolean) ∈ lw_good := lw_in (i := 1308) (by decide +kernel) (by decide +kernel)
theorem q1320 : Cond.code yX14_twin prog_11_method_12_code 6 (Option.some Jvm.ClassFile.FieldType.boolean) ∈ lw_good := lw_in (i := 1320) (by decide +kernel) (by decide +kernel)
theorem q1324 : Cond.code yX14_damage prog_11_method_14_code 8 (Option.some Jvm.ClassFile.FieldType.int) ∈ lw_good := lw_in (i := 1324) (by decide +kernel) (by decide +kernel)
theorem q1327 : Cond.code yX14_isYear prog_11_method_5_code 1 (Option.some Jvm.ClassFile.FieldType.boolean) ∈ lw_good := lw_in (i := 1327) (by decide +kernel) (by decide +kernel)
theorem q1340 : Cond.code yX14_retire prog_11_method_15_code 4 (Option.some Jvm.ClassFile.FieldType.int) ∈ lw_good := lw_in (i := 1340) (by decide +kernel) (by decide +kernel)
theorem q1344 : Cond.code yX14_sell prog_11_method_16_code 8 (Option.some Jvm.ClassFile.FieldType.int) ∈ lw_good := lw_in (i := 1344) (by decide +kernel) (by decide +kernel)
theorem q1413 : Cond.code yX14_owner prog_11_method_17_code 3 (Option.some Jvm.ClassFile.FieldType.int) ∈ lw_good := lw_in (i := 1413) (by decide +kernel) (by decide +kernel)
theorem q1417 : Cond.code yX14_state prog_11_method_18_code 3 (Option.some Jvm.ClassFile.FieldType.int) ∈ lw_good := lw_in (i := 1417) (by decide +kernel) (by decide +kernel)
theorem q1425 : Cond.code yX14_wire prog_11_method_20_code 4 (Option.some Jvm.ClassFile.FieldType.char) ∈ lw_good := lw_in (i := 1425) (by decide +kernel) (by decide +kernel)
theorem q1432 : Cond.code yX14_make prog_11_method_21_code 11 (Option.some Jvm.ClassFile.FieldType.int) ∈ lw_good := lw_in (i := 1432) (by decide +kernel) (by decide +kernel)
theorem q1478 : Cond.code yX14_put prog_11_method_23_code 8 (Option.some Jvm.ClassFile.FieldType.int) ∈ lw_good := lw_in (i := 1478) (by decide +kernel) (by decide +kernel)
theorem q1491 : Cond.code yX14_tariff prog_11_method_24_code 5 (Option.some Jvm.ClassFile.FieldType.int) ∈ lw_good := lw_in (i := 1491) (by decide +kernel) (by decide +kernel)
theorem q1535 : Cond.code yX14_use prog_11_method_26_code 9 (Option.some Jvm.ClassFile.FieldType.int) ∈ lw_good := lw_in (i := 1535) (by decide +kernel) (by decide +kernel)
theorem q1536 : Cond.methodLink "WatermarkmillModel" 77 yX14_isDocument ∈ lw_good := lw_in (i := 1536) (by decide +kernel) (by decide +kernel)
theorem q1538 : Cond.instanceMethod yX14_isDocument ∈ lw_good := lw_in (i := 1538) (by decide +kernel) (by decide +kernel)
theorem q1539 : Cond.code yX14_isDocument prog_11_method_7_code 2 (Option.some Jvm.ClassFile.FieldType.boolean) ∈ lw_good := lw_in (i := 1539) (by decide +kernel) (by decide +kernel)
theorem q1543 : Cond.code yX14_cancel prog_11_method_29_code 6 (Option.some Jvm.ClassFile.FieldType.boolean) ∈ lw_good := lw_in (i := 1543) (by decide +kernel) (by decide +kernel)
theorem q1544 : Cond.methodLink "WatermarkmillModel" 199 yX14_failsDocument ∈ lw_good := lw_in (i := 1544) (by decide +kernel) (by decide +kernel)
theorem q1546 : Cond.instanceMethod yX14_failsDocument ∈ lw_good := lw_in (i := 1546) (by decide +kernel) (by decide +kernel)
theorem q1547 : Cond.code yX14_failsDocument prog_11_method_9_code 2 (Option.some Jvm.ClassFile.FieldType.boolean) ∈ lw_good := lw_in (i := 1547) (by decide +kernel) (by decide +kernel)
theorem q1564 : Cond.code yX14_cancels prog_11_method_31_code 7 (Option.some Jvm.ClassFile.FieldType.int) ∈ lw_good := lw_in (i := 1564) (by decide +kernel) (by decide +kernel)
theorem q1571 : Cond.code yX14_leafOf prog_11_method_32_code 4 (Option.some Jvm.ClassFile.FieldType.int) ∈ lw_good := lw_in (i := 1571) (by decide +kernel) (by decide +kernel)
theorem q1575 : Cond.code yX14_markIn prog_11_method_33_code 5 (Option.some Jvm.ClassFile.FieldType.int) ∈ lw_good := lw_in (i := 1575) (by decide +kernel) (by decide +kernel)
theorem q1579 : Cond.code yX14_conjugate prog_11_method_34_code 3 (Option.some Jvm.ClassFile.FieldType.int) ∈ lw_good := lw_in (i := 1579) (by decide +kernel) (by decide +kernel)
theorem q1583 : Cond.code yX14_run prog_11_method_35_code 9 (Option.some Jvm.ClassFile.FieldType.int) ∈ lw_good := lw_in (i := 1583) (by decide +kernel) (by decide +kernel)
theorem q1588 : Cond.code yX14_wash prog_11_method_36_code 3 (Option.some Jvm.ClassFile.FieldType.boolean) ∈ lw_good := lw_in (i := 1588) (by decide +kernel) (by decide +kernel)
theorem q1592 : Cond.code yX14_image prog_11_method_37_code 10 (Option.some Jvm.ClassFile.FieldType.int) ∈ lw_good := lw_in (i := 1592) (by decide +kernel) (by decide +kernel)
theorem q1619 : Cond.code yX14_distance prog_11_method_39_code 3 (Option.some Jvm.ClassFile.FieldType.int) ∈ lw_good := lw_in (i := 1619) (by decide +kernel) (by decide +kernel)
theorem q1623 : Cond.code yX14_compare_ prog_11_method_42_code 3 (Option.some Jvm.ClassFile.FieldType.char) ∈ lw_good := lw_in (i := 1623) (by decide +kernel) (by decide +kernel)
theorem q1624 : Cond.methodLink "WatermarkmillModel" 238 yX14_areImages ∈ lw_good := lw_in (i := 1624) (by decide +kernel) (by decide +kernel)
theorem q1626 : Cond.instanceMethod yX14_areImages ∈ lw_good := lw_in (i := 1626) (by decide +kernel) (by decide +kernel)
theorem q1627 : Cond.code yX14_areImages prog_11_method_40_code 3 (Option.some Jvm.ClassFile.FieldType.boolean) ∈ lw_good := lw_in (i := 1627) (by decide +kernel) (by decide +kernel)
theorem q1636 : Cond.code yX14_evidence prog_11_method_43_code 7 (Option.some Jvm.ClassFile.FieldType.int) ∈ lw_good := lw_in (i := 1636) (by decide +kernel) (by decide +kernel)
theorem q1668 : Cond.code yX14_claim prog_11_method_52_code 6 (Option.some Jvm.ClassFile.FieldType.int) ∈ lw_good := lw_in (i := 1668) (by decide +kernel) (by decide +kernel)
theorem q1675 : Cond.code yX14_unclaim prog_11_method_53_code 6 (Option.some Jvm.ClassFile.FieldType.int) ∈ lw_good := lw_in (i := 1675) (by decide +kernel) (by decide +kernel)
theorem q1679 : Cond.code yX14_date prog_11_method_54_code 4 (Option.some Jvm.ClassFile.FieldType.int) ∈ lw_good := lw_in (i := 1679) (by decide +kernel) (by decide +kernel)
theorem q1703 : Cond.code yX14_year prog_11_method_61_code 3 (Option.some Jvm.ClassFile.FieldType.int) ∈ lw_good := lw_in (i := 1703) (by decide +kernel) (by decide +kernel)
theorem q1711 : Cond.code yX14_ground prog_11_method_62_code 7 (Option.some Jvm.ClassFile.FieldType.int) ∈ lw_good := lw_in (i := 1711) (by decide +kernel) (by decide +kernel)
theorem q1719 : Cond.code yX14_forged prog_11_method_64_code 3 (Option.some Jvm.ClassFile.FieldType.char) ∈ lw_good := lw_in (i := 1719) (by decide +kernel) (by decide +kernel)
theorem q7 : Cond.initialized "WatermarkmillModel" ∈ lw_good := lw_in (i := 7) (by decide +kernel) (by decide +kernel)
theorem qs23 : Cond.selects "WatermarkmillModel" yX14_fails yX14_fails ∈ lw_good := lw_inS (i := 23) (by decide +kernel) (by decide +kernel)
theorem qs24 : Cond.selects "WatermarkmillModel" yX14_failsMould yX14_failsMould ∈ lw_good := lw_inS (i := 24) (by decide +kernel) (by decide +kernel)
theorem qs25 : Cond.selects "WatermarkmillModel" yX14_isMould yX14_isMould ∈ lw_good := lw_inS (i := 25) (by decide +kernel) (by decide +kernel)
theorem qs27 : Cond.selects "WatermarkmillModel" yX14_isDocument yX14_isDocument ∈ lw_good := lw_inS (i := 27) (by decide +kernel) (by decide +kernel)
theorem qs28 : Cond.selects "WatermarkmillModel" yX14_failsDocument yX14_failsDocument ∈ lw_good := lw_inS (i := 28) (by decide +kernel) (by decide +kernel)
theorem qs31 : Cond.selects "WatermarkmillModel" yX14_areImages yX14_areImages ∈ lw_good := lw_inS (i := 31) (by decide +kernel) (by decide +kernel)
theorem dX14_areImages_0 : decode cX14_areImages 0 = .ok (.iload_n 1, 1) := by decide +kernel
theorem dX14_areImages_1 : decode cX14_areImages 1 = .ok (.iconst 0, 1) := by decide +kernel
theorem dX14_areImages_10 : decode cX14_areImages 10 = .ok (.isub, 1) := by decide +kernel
theorem dX14_areImages_11 : decode cX14_areImages 11 = .ok (.invokestatic 62, 3) := by decide +kernel
theorem dX14_areImages_14 : decode cX14_areImages 14 = .ok (.ifCond .eq 24, 3) := by decide +kernel
theorem dX14_areImages_2 : decode cX14_areImages 2 = .ok (.aload_n 0, 1) := by decide +kernel
theorem dX14_areImages_3 : decode cX14_areImages 3 = .ok (.getfield 25, 3) := by decide +kernel
theorem dX14_areImages_38 : decode cX14_areImages 38 = .ok (.iconst 0, 1) := by decide +kernel
theorem dX14_areImages_39 : decode cX14_areImages 39 = .ok (.ireturn, 1) := by decide +kernel
theorem dX14_areImages_6 : decode cX14_areImages 6 = .ok (.invokevirtual 66, 3) := by decide +kernel
theorem dX14_areImages_9 : decode cX14_areImages 9 = .ok (.iconst 1, 1) := by decide +kernel
theorem dX14_cancel_0 : decode cX14_cancel 0 = .ok (.aload_n 0, 1) := by decide +kernel
theorem dX14_cancel_1 : decode cX14_cancel 1 = .ok (.iload_n 1, 1) := by decide +kernel
theorem dX14_cancel_2 : decode cX14_cancel 2 = .ok (.invokevirtual 199, 3) := by decide +kernel
theorem dX14_cancel_5 : decode cX14_cancel 5 = .ok (.ifCond .ne 53, 3) := by decide +kernel
theorem dX14_cancel_58 : decode cX14_cancel 58 = .ok (.iconst 0, 1) := by decide +kernel
theorem dX14_cancel_59 : decode cX14_cancel 59 = .ok (.ireturn, 1) := by decide +kernel
theorem dX14_cancels_0 : decode cX14_cancels 0 = .ok (.aload_n 0, 1) := by decide +kernel
theorem dX14_cancels_1 : decode cX14_cancels 1 = .ok (.iload_n 1, 1) := by decide +kernel
theorem dX14_cancels_2 : decode cX14_cancels 2 = .ok (.invokevirtual 199, 3) := by decide +kernel
theorem dX14_cancels_29 : decode cX14_cancels 29 = .ok (.iconst 0, 1) := by decide +kernel
theorem dX14_cancels_30 : decode cX14_cancels 30 = .ok (.ireturn, 1) := by decide +kernel
theorem dX14_cancels_5 : decode cX14_cancels 5 = .ok (.ifCond .ne 24, 3) := by decide +kernel
theorem dX14_claim_0 : decode cX14_claim 0 = .ok (.aload_n 0, 1) := by decide +kernel
theorem dX14_claim_1 : decode cX14_claim 1 = .ok (.aload_n 0, 1) := by decide +kernel
theorem dX14_claim_2 : decode cX14_claim 2 = .ok (.iload_n 1, 1) := by decide +kernel
theorem dX14_claim_21 : decode cX14_claim 21 = .ok (.iconst 1, 1) := by decide +kernel
theorem dX14_claim_22 : decode cX14_claim 22 = .ok (.invokevirtual 74, 3) := by decide +kernel
theorem dX14_claim_25 : decode cX14_claim 25 = .ok (.ifCond .ne 25, 3) := by decide +kernel
theorem dX14_claim_3 : decode cX14_claim 3 = .ok (.invokevirtual 77, 3) := by decide +kernel
theorem dX14_claim_50 : decode cX14_claim 50 = .ok (.iconst 0, 1) := by decide +kernel
theorem dX14_claim_51 : decode cX14_claim 51 = .ok (.ireturn, 1) := by decide +kernel
theorem dX14_claim_6 : decode cX14_claim 6 = .ok (.ifCond .eq 15, 3) := by decide +kernel
theorem dX14_compare__0 : decode cX14_compare_ 0 = .ok (.aload_n 0, 1) := by decide +kernel
theorem dX14_compare__1 : decode cX14_compare_ 1 = .ok (.aload_n 0, 1) := by decide +kernel
theorem dX14_compare__14 : decode cX14_compare_ 14 = .ok (.iconst 1, 1) := by decide +kernel
theorem dX14_compare__15 : decode cX14_compare_ 15 = .ok (.invokevirtual 74, 3) := by decide +kernel
theorem dX14_compare__18 : decode cX14_compare_ 18 = .ok (.ifCond .eq 7, 3) := by decide +kernel
theorem dX14_compare__2 : decode cX14_compare_ 2 = .ok (.iload_n 1, 1) := by decide +kernel
theorem dX14_compare__21 : decode cX14_compare_ 21 = .ok (.iconst 0, 1) := by decide +kernel
theorem dX14_compare__22 : decode cX14_compare_ 22 = .ok (.goto 29, 3) := by decide +kernel
theorem dX14_compare__3 : decode cX14_compare_ 3 = .ok (.iload_n 2, 1) := by decide +kernel
theorem dX14_compare__4 : decode cX14_compare_ 4 = .ok (.invokevirtual 238, 3) := by decide +kernel
theorem dX14_compare__51 : decode cX14_compare_ 51 = .ok (.ireturn, 1) := by decide +kernel
theorem dX14_compare__7 : decode cX14_compare_ 7 = .ok (.ifCond .eq 7, 3) := by decide +kernel
theorem dX14_conjugate_0 : decode cX14_conjugate 0 = .ok (.aload_n 0, 1) := by decide +kernel
theorem dX14_conjugate_1 : decode cX14_conjugate 1 = .ok (.iload_n 1, 1) := by decide +kernel
theorem dX14_conjugate_2 : decode cX14_conjugate 2 = .ok (.invokevirtual 199, 3) := by decide +kernel
theorem dX14_conjugate_47 : decode cX14_conjugate 47 = .ok (.iconst 0, 1) := by decide +kernel
theorem dX14_conjugate_48 : decode cX14_conjugate 48 = .ok (.ireturn, 1) := by decide +kernel
theorem dX14_conjugate_5 : decode cX14_conjugate 5 = .ok (.ifCond .ne 42, 3) := by decide +kernel
theorem dX14_copy_0 : decode cX14_copy 0 = .ok (.aload_n 0, 1) := by decide +kernel
theorem dX14_copy_1 : decode cX14_copy 1 = .ok (.iload_n 1, 1) := by decide +kernel
theorem dX14_copy_2 : decode cX14_copy 2 = .ok (.invokevirtual 89, 3) := by decide +kernel
theorem dX14_copy_45 : decode cX14_copy 45 = .ok (.iconst 0, 1) := by decide +kernel
theorem dX14_copy_46 : decode cX14_copy 46 = .ok (.ireturn, 1) := by decide +kernel
theorem dX14_copy_5 : decode cX14_copy 5 = .ok (.ifCond .ne 40, 3) := by decide +kernel
theorem dX14_damage_0 : decode cX14_damage 0 = .ok (.aload_n 0, 1) := by decide +kernel
theorem dX14_damage_1 : decode cX14_damage 1 = .ok (.iload_n 1, 1) := by decide +kernel
theorem dX14_damage_2 : decode cX14_damage 2 = .ok (.invokevirtual 89, 3) := by decide +kernel
theorem dX14_damage_38 : decode cX14_damage 38 = .ok (.iconst 0, 1) := by decide +kernel
theorem dX14_damage_39 : decode cX14_damage 39 = .ok (.ireturn, 1) := by decide +kernel
theorem dX14_damage_5 : decode cX14_damage 5 = .ok (.ifCond .ne 33, 3) := by decide +kernel
theorem dX14_date_0 : decode cX14_date 0 = .ok (.aload_n 0, 1) := by decide +kernel
theorem dX14_date_1 : decode cX14_date 1 = .ok (.iload_n 1, 1) := by decide +kernel
theorem dX14_date_2 : decode cX14_date 2 = .ok (.invokevirtual 199, 3) := by decide +kernel
theorem dX14_date_31 : decode cX14_date 31 = .ok (.iconst 0, 1) := by decide +kernel
theorem dX14_date_32 : decode cX14_date 32 = .ok (.ireturn, 1) := by decide +kernel
theorem dX14_date_5 : decode cX14_date 5 = .ok (.ifCond .ne 26, 3) := by decide +kernel
theorem dX14_distance_0 : decode cX14_distance 0 = .ok (.aload_n 0, 1) := by decide +kernel
theorem dX14_distance_1 : decode cX14_distance 1 = .ok (.iload_n 1, 1) := by decide +kernel
theorem dX14_distance_10 : decode cX14_distance 10 = .ok (.iconst 1, 1) := by decide +kernel
theorem dX14_distance_11 : decode cX14_distance 11 = .ok (.isub, 1) := by decide +kernel
theorem dX14_distance_12 : decode cX14_distance 12 = .ok (.invokestatic 62, 3) := by decide +kernel
theorem dX14_distance_15 : decode cX14_distance 15 = .ok (.ifCond .eq 7, 3) := by decide +kernel
theorem dX14_distance_2 : decode cX14_distance 2 = .ok (.iconst 0, 1) := by decide +kernel
theorem dX14_distance_22 : decode cX14_distance 22 = .ok (.iconst 1, 1) := by decide +kernel
theorem dX14_distance_23 : decode cX14_distance 23 = .ok (.invokevirtual 74, 3) := by decide +kernel
theorem dX14_distance_26 : decode cX14_distance 26 = .ok (.ifCond .ne 24, 3) := by decide +kernel
theorem dX14_distance_3 : decode cX14_distance 3 = .ok (.aload_n 0, 1) := by decide +kernel
theorem dX14_distance_4 : decode cX14_distance 4 = .ok (.getfield 25, 3) := by decide +kernel
theorem dX14_distance_50 : decode cX14_distance 50 = .ok (.iconst 0, 1) := by decide +kernel
theorem dX14_distance_51 : decode cX14_distance 51 = .ok (.ireturn, 1) := by decide +kernel
theorem dX14_distance_7 : decode cX14_distance 7 = .ok (.invokevirtual 66, 3) := by decide +kernel
theorem dX14_evidence_0 : decode cX14_evidence 0 = .ok (.aload_n 0, 1) := by decide +kernel
theorem dX14_evidence_1 : decode cX14_evidence 1 = .ok (.aload_n 0, 1) := by decide +kernel
theorem dX14_evidence_14 : decode cX14_evidence 14 = .ok (.iconst 1, 1) := by decide +kernel
theorem dX14_evidence_15 : decode cX14_evidence 15 = .ok (.invokevirtual 74, 3) := by decide +kernel
theorem dX14_evidence_18 : decode cX14_evidence 18 = .ok (.ifCond .eq 5, 3) := by decide +kernel
theorem dX14_evidence_2 : decode cX14_evidence 2 = .ok (.iload_n 1, 1) := by decide +kernel
theorem dX14_evidence_21 : decode cX14_evidence 21 = .ok (.iconst 0, 1) := by decide +kernel
theorem dX14_evidence_22 : decode cX14_evidence 22 = .ok (.ireturn, 1) := by decide +kernel
theorem dX14_evidence_3 : decode cX14_evidence 3 = .ok (.iload_n 2, 1) := by decide +kernel
theorem dX14_evidence_4 : decode cX14_evidence 4 = .ok (.invokevirtual 238, 3) := by decide +kernel
theorem dX14_evidence_7 : decode cX14_evidence 7 = .ok (.ifCond .eq 7, 3) := by decide +kernel
theorem dX14_failsDocument_0 : decode cX14_failsDocument 0 = .ok (.aload_n 0, 1) := by decide +kernel
theorem dX14_failsDocument_1 : decode cX14_failsDocument 1 = .ok (.aload_n 0, 1) := by decide +kernel
theorem dX14_failsDocument_13 : decode cX14_failsDocument 13 = .ok (.iconst 1, 1) := by decide +kernel
theorem dX14_failsDocument_14 : decode cX14_failsDocument 14 = .ok (.invokevirtual 74, 3) := by decide +kernel
theorem dX14_failsDocument_17 : decode cX14_failsDocument 17 = .ok (.ireturn, 1) := by decide +kernel
theorem dX14_failsDocument_2 : decode cX14_failsDocument 2 = .ok (.iload_n 1, 1) := by decide +kernel
theorem dX14_failsDocument_3 : decode cX14_failsDocument 3 = .ok (.invokevirtual 77, 3) := by decide +kernel
theorem dX14_failsDocument_6 : decode cX14_failsDocument 6 = .ok (.ifCond .eq 7, 3) := by decide +kernel
theorem dX14_failsMould_0 : decode cX14_failsMould 0 = .ok (.aload_n 0, 1) := by decide +kernel
theorem dX14_failsMould_1 : decode cX14_failsMould 1 = .ok (.aload_n 0, 1) := by decide +kernel
theorem dX14_failsMould_13 : decode cX14_failsMould 13 = .ok (.iconst 1, 1) := by decide +kernel
theorem dX14_failsMould_14 : decode cX14_failsMould 14 = .ok (.invokevirtual 74, 3) := by decide +kernel
theorem dX14_failsMould_17 : decode cX14_failsMould 17 = .ok (.ireturn, 1) := by decide +kernel
theorem dX14_failsMould_2 : decode cX14_failsMould 2 = .ok (.iload_n 1, 1) := by decide +kernel
theorem dX14_failsMould_3 : decode cX14_failsMould 3 = .ok (.invokevirtual 70, 3) := by decide +kernel
theorem dX14_failsMould_6 : decode cX14_failsMould 6 = .ok (.ifCond .eq 7, 3) := by decide +kernel
theorem dX14_fails_0 : decode cX14_fails 0 = .ok (.aload_n 0, 1) := by decide +kernel
theorem dX14_fails_1 : decode cX14_fails 1 = .ok (.iload_n 1, 1) := by decide +kernel
theorem dX14_fails_10 : decode cX14_fails 10 = .ok (.goto 4, 3) := by decide +kernel
theorem dX14_fails_13 : decode cX14_fails 13 = .ok (.iconst 0, 1) := by decide +kernel
theorem dX14_fails_14 : decode cX14_fails 14 = .ok (.ireturn, 1) := by decide +kernel
theorem dX14_fails_2 : decode cX14_fails 2 = .ok (.putfield 59, 3) := by decide +kernel
theorem dX14_fails_5 : decode cX14_fails 5 = .ok (.iload_n 1, 1) := by decide +kernel
theorem dX14_fails_6 : decode cX14_fails 6 = .ok (.ifCond .le 7, 3) := by decide +kernel
theorem dX14_fails_9 : decode cX14_fails 9 = .ok (.iconst 1, 1) := by decide +kernel
theorem dX14_forged_0 : decode cX14_forged 0 = .ok (.aload_n 0, 1) := by decide +kernel
theorem dX14_forged_1 : decode cX14_forged 1 = .ok (.iload_n 1, 1) := by decide +kernel
theorem dX14_forged_2 : decode cX14_forged 2 = .ok (.invokevirtual 199, 3) := by decide +kernel
theorem dX14_forged_39 : decode cX14_forged 39 = .ok (.iconst 0, 1) := by decide +kernel
theorem dX14_forged_40 : decode cX14_forged 40 = .ok (.ireturn, 1) := by decide +kernel
theorem dX14_forged_5 : decode cX14_forged 5 = .ok (.ifCond .ne 34, 3) := by decide +kernel
theorem dX14_ground_0 : decode cX14_ground 0 = .ok (.aload_n 0, 1) := by decide +kernel
theorem dX14_ground_1 : decode cX14_ground 1 = .ok (.iload_n 1, 1) := by decide +kernel
theorem dX14_ground_2 : decode cX14_ground 2 = .ok (.invokevirtual 199, 3) := by decide +kernel
theorem dX14_ground_28 : decode cX14_ground 28 = .ok (.iconst 0, 1) := by decide +kernel
theorem dX14_ground_29 : decode cX14_ground 29 = .ok (.ireturn, 1) := by decide +kernel
theorem dX14_ground_5 : decode cX14_ground 5 = .ok (.ifCond .ne 23, 3) := by decide +kernel
theorem dX14_image_0 : decode cX14_image 0 = .ok (.aload_n 0, 1) := by decide +kernel
theorem dX14_image_1 : decode cX14_image 1 = .ok (.iload_n 1, 1) := by decide +kernel
theorem dX14_image_2 : decode cX14_image 2 = .ok (.invokevirtual 199, 3) := by decide +kernel
theorem dX14_image_5 : decode cX14_image 5 = .ok (.ifCond .ne 67, 3) := by decide +kernel
theorem dX14_image_72 : decode cX14_image 72 = .ok (.iconst 0, 1) := by decide +kernel
theorem dX14_image_73 : decode cX14_image 73 = .ok (.ireturn, 1) := by decide +kernel
theorem dX14_in_0 : decode cX14_in 0 = .ok (.iload_n 0, 1) := by decide +kernel
theorem dX14_in_1 : decode cX14_in 1 = .ok (.iload_n 1, 1) := by decide +kernel
theorem dX14_in_10 : decode cX14_in 10 = .ok (.iconst 1, 1) := by decide +kernel
theorem dX14_in_11 : decode cX14_in 11 = .ok (.goto 4, 3) := by decide +kernel
theorem dX14_in_14 : decode cX14_in 14 = .ok (.iconst 0, 1) := by decide +kernel
theorem dX14_in_15 : decode cX14_in 15 = .ok (.ireturn, 1) := by decide +kernel
theorem dX14_in_2 : decode cX14_in 2 = .ok (.if_icmp .lt 12, 3) := by decide +kernel
theorem dX14_in_5 : decode cX14_in 5 = .ok (.iload_n 0, 1) := by decide +kernel
theorem dX14_in_6 : decode cX14_in 6 = .ok (.iload_n 2, 1) := by decide +kernel
theorem dX14_in_7 : decode cX14_in 7 = .ok (.if_icmp .gt 7, 3) := by decide +kernel
theorem dX14_isDocument_0 : decode cX14_isDocument 0 = .ok (.iload_n 1, 1) := by decide +kernel
theorem dX14_isDocument_1 : decode cX14_isDocument 1 = .ok (.iconst 0, 1) := by decide +kernel
theorem dX14_isDocument_10 : decode cX14_isDocument 10 = .ok (.isub, 1) := by decide +kernel
theorem dX14_isDocument_11 : decode cX14_isDocument 11 = .ok (.invokestatic 62, 3) := by decide +kernel
theorem dX14_isDocument_14 : decode cX14_isDocument 14 = .ok (.ireturn, 1) := by decide +kernel
theorem dX14_isDocument_2 : decode cX14_isDocument 2 = .ok (.aload_n 0, 1) := by decide +kernel
theorem dX14_isDocument_3 : decode cX14_isDocument 3 = .ok (.getfield 22, 3) := by decide +kernel
theorem dX14_isDocument_6 : decode cX14_isDocument 6 = .ok (.invokevirtual 66, 3) := by decide +kernel
theorem dX14_isDocument_9 : decode cX14_isDocument 9 = .ok (.iconst 1, 1) := by decide +kernel
theorem dX14_isMould_0 : decode cX14_isMould 0 = .ok (.iload_n 1, 1) := by decide +kernel
theorem dX14_isMould_1 : decode cX14_isMould 1 = .ok (.iconst 0, 1) := by decide +kernel
theorem dX14_isMould_10 : decode cX14_isMould 10 = .ok (.isub, 1) := by decide +kernel
theorem dX14_isMould_11 : decode cX14_isMould 11 = .ok (.invokestatic 62, 3) := by decide +kernel
theorem dX14_isMould_14 : decode cX14_isMould 14 = .ok (.ireturn, 1) := by decide +kernel
theorem dX14_isMould_2 : decode cX14_isMould 2 = .ok (.aload_n 0, 1) := by decide +kernel
theorem dX14_isMould_3 : decode cX14_isMould 3 = .ok (.getfield 10, 3) := by decide +kernel
theorem dX14_isMould_6 : decode cX14_isMould 6 = .ok (.invokevirtual 66, 3) := by decide +kernel
theorem dX14_isMould_9 : decode cX14_isMould 9 = .ok (.iconst 1, 1) := by decide +kernel
theorem dX14_isYear_0 : decode cX14_isYear 0 = .ok (.iload_n 0, 1) := by decide +kernel
theorem dX14_isYear_1 : decode cX14_isYear 1 = .ok (.sipush 1400, 3) := by decide +kernel
theorem dX14_isYear_10 : decode cX14_isYear 10 = .ok (.ireturn, 1) := by decide +kernel
theorem dX14_isYear_4 : decode cX14_isYear 4 = .ok (.sipush 1900, 3) := by decide +kernel
theorem dX14_isYear_7 : decode cX14_isYear 7 = .ok (.invokestatic 62, 3) := by decide +kernel
theorem dX14_leafOf_0 : decode cX14_leafOf 0 = .ok (.aload_n 0, 1) := by decide +kernel
theorem dX14_leafOf_1 : decode cX14_leafOf 1 = .ok (.iload_n 1, 1) := by decide +kernel
theorem dX14_leafOf_2 : decode cX14_leafOf 2 = .ok (.invokevirtual 199, 3) := by decide +kernel
theorem dX14_leafOf_38 : decode cX14_leafOf 38 = .ok (.iconst 0, 1) := by decide +kernel
theorem dX14_leafOf_39 : decode cX14_leafOf 39 = .ok (.ireturn, 1) := by decide +kernel
theorem dX14_leafOf_5 : decode cX14_leafOf 5 = .ok (.ifCond .ne 33, 3) := by decide +kernel
theorem dX14_make_0 : decode cX14_make 0 = .ok (.aload_n 0, 1) := by decide +kernel
theorem dX14_make_1 : decode cX14_make 1 = .ok (.iload_n 1, 1) := by decide +kernel
theorem dX14_make_2 : decode cX14_make 2 = .ok (.invokevirtual 89, 3) := by decide +kernel
theorem dX14_make_39 : decode cX14_make 39 = .ok (.iconst 0, 1) := by decide +kernel
theorem dX14_make_40 : decode cX14_make 40 = .ok (.ireturn, 1) := by decide +kernel
theorem dX14_make_5 : decode cX14_make 5 = .ok (.ifCond .ne 34, 3) := by decide +kernel
theorem dX14_markIn_0 : decode cX14_markIn 0 = .ok (.aload_n 0, 1) := by decide +kernel
theorem dX14_markIn_1 : decode cX14_markIn 1 = .ok (.iload_n 1, 1) := by decide +kernel
theorem dX14_markIn_2 : decode cX14_markIn 2 = .ok (.invokevirtual 199, 3) := by decide +kernel
theorem dX14_markIn_29 : decode cX14_markIn 29 = .ok (.iconst 0, 1) := by decide +kernel
theorem dX14_markIn_30 : decode cX14_markIn 30 = .ok (.ireturn, 1) := by decide +kernel
theorem dX14_markIn_5 : decode cX14_markIn 5 = .ok (.ifCond .ne 24, 3) := by decide +kernel
theorem dX14_owner_0 : decode cX14_owner 0 = .ok (.aload_n 0, 1) := by decide +kernel
theorem dX14_owner_1 : decode cX14_owner 1 = .ok (.iload_n 1, 1) := by decide +kernel
theorem dX14_owner_2 : decode cX14_owner 2 = .ok (.invokevirtual 89, 3) := by decide +kernel
theorem dX14_owner_27 : decode cX14_owner 27 = .ok (.iconst 0, 1) := by decide +kernel
theorem dX14_owner_28 : decode cX14_owner 28 = .ok (.goto 18, 3) := by decide +kernel
theorem dX14_owner_46 : decode cX14_owner 46 = .ok (.ireturn, 1) := by decide +kernel
theorem dX14_owner_5 : decode cX14_owner 5 = .ok (.ifCond .ne 22, 3) := by decide +kernel
theorem dX14_put_0 : decode cX14_put 0 = .ok (.aload_n 0, 1) := by decide +kernel
theorem dX14_put_1 : decode cX14_put 1 = .ok (.iload_n 1, 1) := by decide +kernel
theorem dX14_put_10 : decode cX14_put 10 = .ok (.iconst 1, 1) := by decide +kernel
theorem dX14_put_11 : decode cX14_put 11 = .ok (.isub, 1) := by decide +kernel
theorem dX14_put_12 : decode cX14_put 12 = .ok (.invokestatic 62, 3) := by decide +kernel
theorem dX14_put_15 : decode cX14_put 15 = .ok (.ifCond .eq 24, 3) := by decide +kernel
theorem dX14_put_2 : decode cX14_put 2 = .ok (.iconst 0, 1) := by decide +kernel
theorem dX14_put_3 : decode cX14_put 3 = .ok (.aload_n 0, 1) := by decide +kernel
theorem dX14_put_39 : decode cX14_put 39 = .ok (.iconst 1, 1) := by decide +kernel
theorem dX14_put_4 : decode cX14_put 4 = .ok (.getfield 19, 3) := by decide +kernel
theorem dX14_put_40 : decode cX14_put 40 = .ok (.invokevirtual 74, 3) := by decide +kernel
theorem dX14_put_43 : decode cX14_put 43 = .ok (.ifCond .eq 5, 3) := by decide +kernel
theorem dX14_put_46 : decode cX14_put 46 = .ok (.iconst 0, 1) := by decide +kernel
theorem dX14_put_47 : decode cX14_put 47 = .ok (.ireturn, 1) := by decide +kernel
theorem dX14_put_7 : decode cX14_put 7 = .ok (.invokevirtual 66, 3) := by decide +kernel
theorem dX14_retire_0 : decode cX14_retire 0 = .ok (.aload_n 0, 1) := by decide +kernel
theorem dX14_retire_1 : decode cX14_retire 1 = .ok (.iload_n 1, 1) := by decide +kernel
theorem dX14_retire_2 : decode cX14_retire 2 = .ok (.invokevirtual 89, 3) := by decide +kernel
theorem dX14_retire_27 : decode cX14_retire 27 = .ok (.iconst 0, 1) := by decide +kernel
theorem dX14_retire_28 : decode cX14_retire 28 = .ok (.ireturn, 1) := by decide +kernel
theorem dX14_retire_5 : decode cX14_retire 5 = .ok (.ifCond .ne 22, 3) := by decide +kernel
theorem dX14_run_0 : decode cX14_run 0 = .ok (.aload_n 0, 1) := by decide +kernel
theorem dX14_run_1 : decode cX14_run 1 = .ok (.aload_n 0, 1) := by decide +kernel
theorem dX14_run_2 : decode cX14_run 2 = .ok (.iload_n 1, 1) := by decide +kernel
theorem dX14_run_21 : decode cX14_run 21 = .ok (.iconst 1, 1) := by decide +kernel
theorem dX14_run_22 : decode cX14_run 22 = .ok (.invokevirtual 74, 3) := by decide +kernel
theorem dX14_run_25 : decode cX14_run 25 = .ok (.ifCond .eq 5, 3) := by decide +kernel
theorem dX14_run_28 : decode cX14_run 28 = .ok (.iconst 0, 1) := by decide +kernel
theorem dX14_run_29 : decode cX14_run 29 = .ok (.ireturn, 1) := by decide +kernel
theorem dX14_run_3 : decode cX14_run 3 = .ok (.invokevirtual 77, 3) := by decide +kernel
theorem dX14_run_6 : decode cX14_run 6 = .ok (.ifCond .eq 15, 3) := by decide +kernel
theorem dX14_sell_0 : decode cX14_sell 0 = .ok (.aload_n 0, 1) := by decide +kernel
theorem dX14_sell_1 : decode cX14_sell 1 = .ok (.iload_n 1, 1) := by decide +kernel
theorem dX14_sell_2 : decode cX14_sell 2 = .ok (.invokevirtual 89, 3) := by decide +kernel
theorem dX14_sell_36 : decode cX14_sell 36 = .ok (.iconst 0, 1) := by decide +kernel
theorem dX14_sell_37 : decode cX14_sell 37 = .ok (.ireturn, 1) := by decide +kernel
theorem dX14_sell_5 : decode cX14_sell 5 = .ok (.ifCond .ne 31, 3) := by decide +kernel
theorem dX14_state_0 : decode cX14_state 0 = .ok (.aload_n 0, 1) := by decide +kernel
theorem dX14_state_1 : decode cX14_state 1 = .ok (.iload_n 1, 1) := by decide +kernel
theorem dX14_state_2 : decode cX14_state 2 = .ok (.invokevirtual 89, 3) := by decide +kernel
theorem dX14_state_27 : decode cX14_state 27 = .ok (.iconst 0, 1) := by decide +kernel
theorem dX14_state_28 : decode cX14_state 28 = .ok (.goto 18, 3) := by decide +kernel
theorem dX14_state_46 : decode cX14_state 46 = .ok (.ireturn, 1) := by decide +kernel
theorem dX14_state_5 : decode cX14_state 5 = .ok (.ifCond .ne 22, 3) := by decide +kernel
theorem dX14_tariff_0 : decode cX14_tariff 0 = .ok (.aload_n 0, 1) := by decide +kernel
theorem dX14_tariff_1 : decode cX14_tariff 1 = .ok (.iload_n 1, 1) := by decide +kernel
theorem dX14_tariff_10 : decode cX14_tariff 10 = .ok (.iconst 1, 1) := by decide +kernel
theorem dX14_tariff_11 : decode cX14_tariff 11 = .ok (.isub, 1) := by decide +kernel
theorem dX14_tariff_12 : decode cX14_tariff 12 = .ok (.invokestatic 62, 3) := by decide +kernel
theorem dX14_tariff_15 : decode cX14_tariff 15 = .ok (.ifCond .eq 7, 3) := by decide +kernel
theorem dX14_tariff_2 : decode cX14_tariff 2 = .ok (.iconst 0, 1) := by decide +kernel
theorem dX14_tariff_22 : decode cX14_tariff 22 = .ok (.iconst 1, 1) := by decide +kernel
theorem dX14_tariff_23 : decode cX14_tariff 23 = .ok (.invokevirtual 74, 3) := by decide +kernel
theorem dX14_tariff_26 : decode cX14_tariff 26 = .ok (.ifCond .eq 5, 3) := by decide +kernel
theorem dX14_tariff_29 : decode cX14_tariff 29 = .ok (.iconst 0, 1) := by decide +kernel
theorem dX14_tariff_3 : decode cX14_tariff 3 = .ok (.aload_n 0, 1) := by decide +kernel
theorem dX14_tariff_30 : decode cX14_tariff 30 = .ok (.ireturn, 1) := by decide +kernel
theorem dX14_tariff_4 : decode cX14_tariff 4 = .ok (.getfield 19, 3) := by decide +kernel
theorem dX14_tariff_7 : decode cX14_tariff 7 = .ok (.invokevirtual 66, 3) := by decide +kernel
theorem dX14_thrown_0 : decode cX14_thrown 0 = .ok (.aload_n 0, 1) := by decide +kernel
theorem dX14_thrown_1 : decode cX14_thrown 1 = .ok (.getfield 59, 3) := by decide +kernel
theorem dX14_thrown_4 : decode cX14_thrown 4 = .ok (.ireturn, 1) := by decide +kernel
theorem dX14_twin_0 : decode cX14_twin 0 = .ok (.aload_n 0, 1) := by decide +kernel
theorem dX14_twin_1 : decode cX14_twin 1 = .ok (.aload_n 0, 1) := by decide +kernel
theorem dX14_twin_2 : decode cX14_twin 2 = .ok (.iload_n 1, 1) := by decide +kernel
theorem dX14_twin_21 : decode cX14_twin 21 = .ok (.iconst 1, 1) := by decide +kernel
theorem dX14_twin_22 : decode cX14_twin 22 = .ok (.invokevirtual 74, 3) := by decide +kernel
theorem dX14_twin_25 : decode cX14_twin 25 = .ok (.ifCond .ne 20, 3) := by decide +kernel
theorem dX14_twin_3 : decode cX14_twin 3 = .ok (.invokevirtual 70, 3) := by decide +kernel
theorem dX14_twin_45 : decode cX14_twin 45 = .ok (.iconst 0, 1) := by decide +kernel
theorem dX14_twin_46 : decode cX14_twin 46 = .ok (.ireturn, 1) := by decide +kernel
theorem dX14_twin_6 : decode cX14_twin 6 = .ok (.ifCond .eq 15, 3) := by decide +kernel
theorem dX14_unclaim_0 : decode cX14_unclaim 0 = .ok (.aload_n 0, 1) := by decide +kernel
theorem dX14_unclaim_1 : decode cX14_unclaim 1 = .ok (.aload_n 0, 1) := by decide +kernel
theorem dX14_unclaim_2 : decode cX14_unclaim 2 = .ok (.iload_n 1, 1) := by decide +kernel
theorem dX14_unclaim_21 : decode cX14_unclaim 21 = .ok (.iconst 1, 1) := by decide +kernel
theorem dX14_unclaim_22 : decode cX14_unclaim 22 = .ok (.invokevirtual 74, 3) := by decide +kernel
theorem dX14_unclaim_25 : decode cX14_unclaim 25 = .ok (.ifCond .ne 35, 3) := by decide +kernel
theorem dX14_unclaim_3 : decode cX14_unclaim 3 = .ok (.invokevirtual 77, 3) := by decide +kernel
theorem dX14_unclaim_6 : decode cX14_unclaim 6 = .ok (.ifCond .eq 15, 3) := by decide +kernel
theorem dX14_unclaim_60 : decode cX14_unclaim 60 = .ok (.iconst 0, 1) := by decide +kernel
theorem dX14_unclaim_61 : decode cX14_unclaim 61 = .ok (.ireturn, 1) := by decide +kernel
theorem dX14_use_0 : decode cX14_use 0 = .ok (.aload_n 0, 1) := by decide +kernel
theorem dX14_use_1 : decode cX14_use 1 = .ok (.aload_n 0, 1) := by decide +kernel
theorem dX14_use_2 : decode cX14_use 2 = .ok (.iload_n 1, 1) := by decide +kernel
theorem dX14_use_3 : decode cX14_use 3 = .ok (.invokevirtual 77, 3) := by decide +kernel
theorem dX14_use_30 : decode cX14_use 30 = .ok (.iconst 1, 1) := by decide +kernel
theorem dX14_use_31 : decode cX14_use 31 = .ok (.invokevirtual 74, 3) := by decide +kernel
theorem dX14_use_34 : decode cX14_use 34 = .ok (.ifCond .ne 25, 3) := by decide +kernel
theorem dX14_use_59 : decode cX14_use 59 = .ok (.iconst 0, 1) := by decide +kernel
theorem dX14_use_6 : decode cX14_use 6 = .ok (.ifCond .eq 24, 3) := by decide +kernel
theorem dX14_use_60 : decode cX14_use 60 = .ok (.ireturn, 1) := by decide +kernel
theorem dX14_wash_0 : decode cX14_wash 0 = .ok (.aload_n 0, 1) := by decide +kernel
theorem dX14_wash_1 : decode cX14_wash 1 = .ok (.iload_n 1, 1) := by decide +kernel
theorem dX14_wash_2 : decode cX14_wash 2 = .ok (.invokevirtual 199, 3) := by decide +kernel
theorem dX14_wash_5 : decode cX14_wash 5 = .ok (.ifCond .eq 5, 3) := by decide +kernel
theorem dX14_wash_8 : decode cX14_wash 8 = .ok (.iconst 0, 1) := by decide +kernel
theorem dX14_wash_9 : decode cX14_wash 9 = .ok (.ireturn, 1) := by decide +kernel
theorem dX14_wire_0 : decode cX14_wire 0 = .ok (.aload_n 0, 1) := by decide +kernel
theorem dX14_wire_1 : decode cX14_wire 1 = .ok (.iload_n 1, 1) := by decide +kernel
theorem dX14_wire_2 : decode cX14_wire 2 = .ok (.invokevirtual 89, 3) := by decide +kernel
theorem dX14_wire_5 : decode cX14_wire 5 = .ok (.ifCond .ne 54, 3) := by decide +kernel
theorem dX14_wire_59 : decode cX14_wire 59 = .ok (.iconst 0, 1) := by decide +kernel
theorem dX14_wire_60 : decode cX14_wire 60 = .ok (.ireturn, 1) := by decide +kernel
theorem dX14_year_0 : decode cX14_year 0 = .ok (.aload_n 0, 1) := by decide +kernel
theorem dX14_year_1 : decode cX14_year 1 = .ok (.iload_n 1, 1) := by decide +kernel
theorem dX14_year_2 : decode cX14_year 2 = .ok (.invokevirtual 199, 3) := by decide +kernel
theorem dX14_year_28 : decode cX14_year 28 = .ok (.iconst 0, 1) := by decide +kernel
theorem dX14_year_29 : decode cX14_year 29 = .ok (.goto 9, 3) := by decide +kernel
theorem dX14_year_38 : decode cX14_year 38 = .ok (.ireturn, 1) := by decide +kernel
theorem dX14_year_5 : decode cX14_year 5 = .ok (.ifCond .ne 23, 3) := by decide +kernel
theorem z_ite {P : Prop} [Decidable P] {r : Int32} (h : r = if P then 1 else 0) : (P ∧ r = 1) ∨ (¬ P ∧ r = 0) := by
  by_cases hp : P
  · exact Or.inl ⟨hp, h.trans (if_pos hp)⟩
  · exact Or.inr ⟨hp, h.trans (if_neg hp)⟩
theorem nI_mulk {a k : Nat} : nI a * nI k = nI (a * k) := (Int32.ofNat_mul a k).symm
theorem z_any {G : va_G} {s : State} {H : Heap} {ws : va_W} {tys : List (ClassId × FieldType)} {a : Nat} {cA : ClassId} {x : vp_A} (hK : va_K G vwCl tys s) (hP : va_P G vwCl ws H) (q0 t0 : Nat) (ha : ws[q0]? = some (a, .inl (cA, x))) (ht : tys[t0]? = some (cA, .int)) (hc : va_Nw (.castable "[I" "java/lang/Object") s) : va_Any "java/lang/Object" s H a := by
  have hc2 : (Cond.castable "[I" "java/lang/Object").before #[] s = true := hc
  obtain ⟨c3, c4, h3, h4, hasg⟩ := Cond.castable_spec hc2
  have hn : s.vm.findClass "[I" = some cA := va_nm_int (hK.2 t0 _ ht).2
  cases Option.some.inj (h3.symm.trans hn)
  refine ⟨_, hP q0 _ ha, ?_, ?_, fun comp hcomp => ?_⟩
  · obtain ⟨n, f⟩ := x
    rcases f with f | f | f | f | f <;> rfl
  · obtain ⟨k, hk, -⟩ := Vm.findClass_spec hn
    obtain ⟨n, f⟩ := x
    rcases f with f | f | f | f | f <;> exact ⟨k, hk⟩
  · cases Option.some.inj (h4.symm.trans hcomp)
    obtain ⟨n, f⟩ := x
    rcases f with f | f | f | f | f <;> exact hasg
abbrev wz_X14_thrown : List Cond := .code yX14_thrown cX14_thrown 1 (Option.some Jvm.ClassFile.FieldType.int) :: lw_good
set_option maxHeartbeats 4000000 in
set_option maxRecDepth 100000 in
/-- thrown() -/
theorem k_X14_thrown (l : Launch) (G : va_G) (z : Nat) (h0 : Nat) (th : Int32) (l1 : Nat) (l2 : Nat) (l3 : Nat) (l4 : Nat) (l5 : Nat) (l6 : Nat) (tol : Int32) (ag : Int32) (m1 : Nat) (m2 : Nat) (m3 : Nat) (m4 : Nat) (m5 : Nat) (m6 : Nat) (sz : Nat)  : Met l yX14_thrown wz_X14_thrown ({ frames := 0, cells := 0, slots := 0, locals := 0 }) (va_Pc [.ref h0] (PR G z [(h0, .inr (18, [.int th, .ref l1, .ref l2, .ref l3, .ref l4, .ref l5, .ref l6, .int 0, .int tol, .int ag, .ref m1, .ref m2, .ref m3, .ref m4, .ref m5, .ref m6]))] [] sz)) (va_Qi (fun (r : Int32) (_ : Unit) => r = th) (fun (_ : Unit) (_ : State) => True) (zN sz)) 0 0 (zN sz) := by
  refine Met.ofW (cc := cX14_thrown) (maxL := 1) (ret := (Option.some Jvm.ClassFile.FieldType.int)) (by decide) rfl ?_
  intro p e s m args below meth c s₁ B hml hv
  obtain ⟨rfl, rfl, hP, hK, hG⟩ := hv
  have hx := B.exec
  have hb := B.bytes
  have hr := B.returns
  have hts := atoms_spec (ws := wz_X14_thrown) B.pre
  have hg : ∀ w ∈ lw_good, w.before _ s = true := fun w h => hts w (List.mem_cons_of_mem _ h)
  have hown : s.vm.findClass RX14 = some m.cls := findClass_of_methodNamed B.named
  have hlocks := B.notSynchronized
  have hA : ∀ q : Nat, s.heap.size ≤ q → zN s.heap.size q := fun _ h => h
  have hS : va_S (zN s.heap.size) s.heap s.heap [] := va_S.rf
  have hl := lv_entry ([.ref h0]) (n := 1) (Nat.le_of_ble_eq_true rfl)
  rw [lg_entry_eq]
  generalize (lg_sl ([.ref h0]) ++ List.replicate (1 - (lg_sl ([.ref h0])).length) Slot.unset).toArray = ls at hl ⊢
  have hl : lv_has ls 1 [(0, .ref h0)] := hl
  refine lv_aload_n hx hb dX14_thrown_0 rfl (lv_at hl 0 rfl) ?_
  refine va_get (D := G) (ci := 18) (v := .int th) (C := RX14) (T := TX14) (N := 16) hx hb hg in_X14 hown hK hP 0 rfl rfl 0 (by decide) (hg _ q1187) (fun _ h9 => h9) rfl dX14_thrown_1 ?_
  refine W.widen (k := 0) (n := 0) (Nat.le_of_ble_eq_true rfl) (Nat.le_of_ble_eq_true rfl) ?_
  exact W.iret (v := th) hx hb hr (fun t ht hW => ⟨⟨th, (), rfl, rfl, trivial⟩, hS.F ht⟩) hS.2.2 dX14_thrown_4

abbrev wz_X14_fails : List Cond := .code yX14_fails cX14_fails 2 (Option.some Jvm.ClassFile.FieldType.boolean) :: lw_good
set_option maxHeartbeats 4000000 in
set_option maxRecDepth 100000 in
/-- fails(0) -/
theorem k_X14_fails_0 (l : Launch) (G : va_G) (z : Nat) (h0 : Nat) (th : Int32) (l1 : Nat) (l2 : Nat) (l3 : Nat) (l4 : Nat) (l5 : Nat) (l6 : Nat) (tol : Int32) (ag : Int32) (m1 : Nat) (m2 : Nat) (m3 : Nat) (m4 : Nat) (m5 : Nat) (m6 : Nat) (sz : Nat)  : Met l yX14_fails wz_X14_fails ({ frames := 0, cells := 0, slots := 0, locals := 0 }) (va_Pc [.ref h0, .int 0] (PW G z [(h0, .inr (18, [.int th, .ref l1, .ref l2, .ref l3, .ref l4, .ref l5, .ref l6, .int 0, .int tol, .int ag, .ref m1, .ref m2, .ref m3, .ref m4, .ref m5, .ref m6]))] [] sz)) (va_Qi (fun (r : Int32) (_ : Unit) => r = 0) (fun (_ : Unit) (t : State) => QW G [(h0, .inr (18, [.int 0, .ref l1, .ref l2, .ref l3, .ref l4, .ref l5, .ref l6, .int 0, .int tol, .int ag, .ref m1, .ref m2, .ref m3, .ref m4, .ref m5, .ref m6]))] [] (va_A [(h0, .inr (18, [.int th, .ref l1, .ref l2, .ref l3, .ref l4, .ref l5, .ref l6, .int 0, .int tol, .int ag, .ref m1, .ref m2, .ref m3, .ref m4, .ref m5, .ref m6]))] sz) t) (va_A [(h0, .inr (18, [.int th, .ref l1, .ref l2, .ref l3, .ref l4, .ref l5, .ref l6, .int 0, .int tol, .int ag, .ref m1, .ref m2, .ref m3, .ref m4, .ref m5, .ref m6]))] sz)) 0 0 (va_A [(h0, .inr (18, [.int th, .ref l1, .ref l2, .ref l3, .ref l4, .ref l5, .ref l6, .int 0, .int tol, .int ag, .ref m1, .ref m2, .ref m3, .ref m4, .ref m5, .ref m6]))] sz) := by
  refine Met.ofW (cc := cX14_fails) (maxL := 2) (ret := (Option.some Jvm.ClassFile.FieldType.boolean)) (by decide) rfl ?_
  intro p e s m args below meth c s₁ B hml hv
  obtain ⟨rfl, rfl, hP, hK, hD0, hG⟩ := hv
  have hx := B.exec
  have hb := B.bytes
  have hr := B.returns
  have hts := atoms_spec (ws := wz_X14_fails) B.pre
  have hg : ∀ w ∈ lw_good, w.before _ s = true := fun w h => hts w (List.mem_cons_of_mem _ h)
  have hown : s.vm.findClass RX14 = some m.cls := findClass_of_methodNamed B.named
  have hlocks := B.notSynchronized
  have hD := hD0.self (sz := s.heap.size)
  generalize hAe : va_A [(h0, .inr (18, [.int th, .ref l1, .ref l2, .ref l3, .ref l4, .ref l5, .ref l6, .int 0, .int tol, .int ag, .ref m1, .ref m2, .ref m3, .ref m4, .ref m5, .ref m6]))] s.heap.size = A at hD hG ⊢
  have hA : ∀ q : Nat, s.heap.size ≤ q → A q := fun q h => by rw [← hAe]; exact Or.inr h
  have hS : va_S A s.heap s.heap [] := va_S.rf
  have hl := lv_entry ([.ref h0, .int 0]) (n := 2) (Nat.le_of_ble_eq_true rfl)
  rw [lg_entry_eq]
  generalize (lg_sl ([.ref h0, .int 0]) ++ List.replicate (2 - (lg_sl ([.ref h0, .int 0])).length) Slot.unset).toArray = ls at hl ⊢
  have hl : lv_has ls 2 [(0, .ref h0), (1, .int 0)] := hl
  refine lv_aload_n hx hb dX14_fails_0 rfl (lv_at hl 0 rfl) ?_
  refine lv_iload_n hx hb dX14_fails_1 rfl (lv_at hl 1 rfl) ?_
  refine va_put (D := G) (ci := 18) (v := .int 0) (ty := .int) (C := RX14) (T := TX14) (N := 16) hx hb hg in_X14 tyX14 tyX14_ok nmX14 hown hK hP hD hS 0 rfl rfl 0 (by decide) (hg _ q1187) (fun _ h9 => h9) rfl (by decide +kernel) rfl rfl (Nat.le_of_ble_eq_true rfl) dX14_fails_2 (fun H_1 locs hP hD hS => ?_)
  have hP : va_P G vwCl ([(h0, .inr (18, [.int 0, .ref l1, .ref l2, .ref l3, .ref l4, .ref l5, .ref l6, .int 0, .int tol, .int ag, .ref m1, .ref m2, .ref m3, .ref m4, .ref m5, .ref m6]))]) H_1 := hP
  have hD : va_D A ([(h0, .inr (18, [.int 0, .ref l1, .ref l2, .ref l3, .ref l4, .ref l5, .ref l6, .int 0, .int tol, .int ag, .ref m1, .ref m2, .ref m3, .ref m4, .ref m5, .ref m6]))]) := hD
  refine lv_iload_n hx hb dX14_fails_5 rfl (lv_at hl 1 rfl) ?_
  refine lv_if_le (tgt := 13) hx hb dX14_fails_6 (by decide) (fun c_2 => ?_) (fun c_2 => absurd (by decide) c_2)
  refine lv_iconst (v := 0) hx hb dX14_fails_13 (by decide) ?_
  refine W.widen (k := 0) (n := 0) (Nat.le_of_ble_eq_true rfl) (Nat.le_of_ble_eq_true rfl) ?_
  have hP9 := hP.sub (ws' := [(h0, .inr (18, [.int 0, .ref l1, .ref l2, .ref l3, .ref l4, .ref l5, .ref l6, .int 0, .int tol, .int ag, .ref m1, .ref m2, .ref m3, .ref m4, .ref m5, .ref m6]))]) [0] rfl
  have hD9 := hD.sub (ws' := [(h0, .inr (18, [.int 0, .ref l1, .ref l2, .ref l3, .ref l4, .ref l5, .ref l6, .int 0, .int tol, .int ag, .ref m1, .ref m2, .ref m3, .ref m4, .ref m5, .ref m6]))]) [0] (by decide) rfl
  have hK9 := hK.sub (tys' := []) [] rfl
  exact W.zret (v := 0) hx hb hr rfl (fun t ht hW => ⟨⟨0, (), rfl, rfl, QW.of hP9 hK9 hD9 ht hW.alike⟩, hS.F ht⟩) hS.2.2 dX14_fails_14

set_option maxHeartbeats 4000000 in
set_option maxRecDepth 100000 in
/-- fails(p0), p0 > 0 -/
theorem k_X14_fails_1 (l : Launch) (G : va_G) (z : Nat) (h0 : Nat) (th : Int32) (l1 : Nat) (l2 : Nat) (l3 : Nat) (l4 : Nat) (l5 : Nat) (l6 : Nat) (tol : Int32) (ag : Int32) (m1 : Nat) (m2 : Nat) (m3 : Nat) (m4 : Nat) (m5 : Nat) (m6 : Nat) (p0 : Int32) (sz : Nat) (hp : 0 < p0) : Met l yX14_fails wz_X14_fails ({ frames := 0, cells := 0, slots := 0, locals := 0 }) (va_Pc [.ref h0, .int p0] (PW G z [(h0, .inr (18, [.int th, .ref l1, .ref l2, .ref l3, .ref l4, .ref l5, .ref l6, .int 0, .int tol, .int ag, .ref m1, .ref m2, .ref m3, .ref m4, .ref m5, .ref m6]))] [] sz)) (va_Qi (fun (r : Int32) (_ : Unit) => r = 1) (fun (_ : Unit) (t : State) => QW G [(h0, .inr (18, [.int p0, .ref l1, .ref l2, .ref l3, .ref l4, .ref l5, .ref l6, .int 0, .int tol, .int ag, .ref m1, .ref m2, .ref m3, .ref m4, .ref m5, .ref m6]))] [] (va_A [(h0, .inr (18, [.int th, .ref l1, .ref l2, .ref l3, .ref l4, .ref l5, .ref l6, .int 0, .int tol, .int ag, .ref m1, .ref m2, .ref m3, .ref m4, .ref m5, .ref m6]))] sz) t) (va_A [(h0, .inr (18, [.int th, .ref l1, .ref l2, .ref l3, .ref l4, .ref l5, .ref l6, .int 0, .int tol, .int ag, .ref m1, .ref m2, .ref m3, .ref m4, .ref m5, .ref m6]))] sz)) 0 0 (va_A [(h0, .inr (18, [.int th, .ref l1, .ref l2, .ref l3, .ref l4, .ref l5, .ref l6, .int 0, .int tol, .int ag, .ref m1, .ref m2, .ref m3, .ref m4, .ref m5, .ref m6]))] sz) := by
  refine Met.ofW (cc := cX14_fails) (maxL := 2) (ret := (Option.some Jvm.ClassFile.FieldType.boolean)) (by decide) rfl ?_
  intro p e s m args below meth c s₁ B hml hv
  obtain ⟨rfl, rfl, hP, hK, hD0, hG⟩ := hv
  have hx := B.exec
  have hb := B.bytes
  have hr := B.returns
  have hts := atoms_spec (ws := wz_X14_fails) B.pre
  have hg : ∀ w ∈ lw_good, w.before _ s = true := fun w h => hts w (List.mem_cons_of_mem _ h)
  have hown : s.vm.findClass RX14 = some m.cls := findClass_of_methodNamed B.named
  have hlocks := B.notSynchronized
  have hD := hD0.self (sz := s.heap.size)
  generalize hAe : va_A [(h0, .inr (18, [.int th, .ref l1, .ref l2, .ref l3, .ref l4, .ref l5, .ref l6, .int 0, .int tol, .int ag, .ref m1, .ref m2, .ref m3, .ref m4, .ref m5, .ref m6]))] s.heap.size = A at hD hG ⊢
  have hA : ∀ q : Nat, s.heap.size ≤ q → A q := fun q h => by rw [← hAe]; exact Or.inr h
  have hS : va_S A s.heap s.heap [] := va_S.rf
  have hl := lv_entry ([.ref h0, .int p0]) (n := 2) (Nat.le_of_ble_eq_true rfl)
  rw [lg_entry_eq]
  generalize (lg_sl ([.ref h0, .int p0]) ++ List.replicate (2 - (lg_sl ([.ref h0, .int p0])).length) Slot.unset).toArray = ls at hl ⊢
  have hl : lv_has ls 2 [(0, .ref h0), (1, .int p0)] := hl
  refine lv_aload_n hx hb dX14_fails_0 rfl (lv_at hl 0 rfl) ?_
  refine lv_iload_n hx hb dX14_fails_1 rfl (lv_at hl 1 rfl) ?_
  refine va_put (D := G) (ci := 18) (v := .int p0) (ty := .int) (C := RX14) (T := TX14) (N := 16) hx hb hg in_X14 tyX14 tyX14_ok nmX14 hown hK hP hD hS 0 rfl rfl 0 (by decide) (hg _ q1187) (fun _ h9 => h9) rfl (by decide +kernel) rfl rfl (Nat.le_of_ble_eq_true rfl) dX14_fails_2 (fun H_1 locs hP hD hS => ?_)
  have hP : va_P G vwCl ([(h0, .inr (18, [.int p0, .ref l1, .ref l2, .ref l3, .ref l4, .ref l5, .ref l6, .int 0, .int tol, .int ag, .ref m1, .ref m2, .ref m3, .ref m4, .ref m5, .ref m6]))]) H_1 := hP
  have hD : va_D A ([(h0, .inr (18, [.int p0, .ref l1, .ref l2, .ref l3, .ref l4, .ref l5, .ref l6, .int 0, .int tol, .int ag, .ref m1, .ref m2, .ref m3, .ref m4, .ref m5, .ref m6]))]) := hD
  refine lv_iload_n hx hb dX14_fails_5 rfl (lv_at hl 1 rfl) ?_
  refine lv_if_le (tgt := 13) hx hb dX14_fails_6 (by decide) (fun c_2 => absurd c_2 (Int32.not_le.mpr hp)) (fun c_2 => ?_)
  refine lv_iconst (v := 1) hx hb dX14_fails_9 (by decide) ?_
  refine lv_goto (tgt := 14) hx hb dX14_fails_10 (by decide) ?_
  refine W.widen (k := 0) (n := 0) (Nat.le_of_ble_eq_true rfl) (Nat.le_of_ble_eq_true rfl) ?_
  have hP9 := hP.sub (ws' := [(h0, .inr (18, [.int p0, .ref l1, .ref l2, .ref l3, .ref l4, .ref l5, .ref l6, .int 0, .int tol, .int ag, .ref m1, .ref m2, .ref m3, .ref m4, .ref m5, .ref m6]))]) [0] rfl
  have hD9 := hD.sub (ws' := [(h0, .inr (18, [.int p0, .ref l1, .ref l2, .ref l3, .ref l4, .ref l5, .ref l6, .int 0, .int tol, .int ag, .ref m1, .ref m2, .ref m3, .ref m4, .ref m5, .ref m6]))]) [0] (by decide) rfl
  have hK9 := hK.sub (tys' := []) [] rfl
  exact W.zret (v := 1) hx hb hr rfl (fun t ht hW => ⟨⟨1, (), rfl, rfl, QW.of hP9 hK9 hD9 ht hW.alike⟩, hS.F ht⟩) hS.2.2 dX14_fails_14

abbrev wz_X14_in : List Cond := .code yX14_in cX14_in 3 (Option.some Jvm.ClassFile.FieldType.boolean) :: lw_good
set_option maxHeartbeats 4000000 in
set_option maxRecDepth 100000 in
/-- in(v, least, most) -/
theorem k_X14_in (l : Launch) (G : va_G) (z : Nat) (p0 : Int32) (p1 : Int32) (p2 : Int32) (sz : Nat)  : Met l yX14_in wz_X14_in ({ frames := 0, cells := 0, slots := 0, locals := 0 }) (va_Pc [.int p0, .int p1, .int p2] (PR G z [] [] sz)) (va_Qi (fun (r : Int32) (_ : Unit) => r = if p1 ≤ p0 ∧ p0 ≤ p2 then 1 else 0) (fun (_ : Unit) (_ : State) => True) (zN sz)) 0 0 (zN sz) := by
  refine Met.ofW (cc := cX14_in) (maxL := 3) (ret := (Option.some Jvm.ClassFile.FieldType.boolean)) (by decide) rfl ?_
  intro p e s m args below meth c s₁ B hml hv
  obtain ⟨rfl, rfl, hP, hK, hG⟩ := hv
  have hx := B.exec
  have hb := B.bytes
  have hr := B.returns
  have hts := atoms_spec (ws := wz_X14_in) B.pre
  have hg : ∀ w ∈ lw_good, w.before _ s = true := fun w h => hts w (List.mem_cons_of_mem _ h)
  have hown : s.vm.findClass RX14 = some m.cls := findClass_of_methodNamed B.named
  have hlocks := B.notSynchronized
  have hA : ∀ q : Nat, s.heap.size ≤ q → zN s.heap.size q := fun _ h => h
  have hS : va_S (zN s.heap.size) s.heap s.heap [] := va_S.rf
  have hl := lv_entry ([.int p0, .int p1, .int p2]) (n := 3) (Nat.le_of_ble_eq_true rfl)
  rw [lg_entry_eq]
  generalize (lg_sl ([.int p0, .int p1, .int p2]) ++ List.replicate (3 - (lg_sl ([.int p0, .int p1, .int p2])).length) Slot.unset).toArray = ls at hl ⊢
  have hl : lv_has ls 3 [(0, .int p0), (1, .int p1), (2, .int p2)] := hl
  refine lv_iload_n hx hb dX14_in_0 rfl (lv_at hl 0 rfl) ?_
  refine lv_iload_n hx hb dX14_in_1 rfl (lv_at hl 1 rfl) ?_
  refine lv_icmp_lt (tgt := 14) hx hb dX14_in_2 (by decide) (fun c_1 => ?_) (fun c_1 => ?_)
  · refine lv_iconst (v := 0) hx hb dX14_in_14 (by decide) ?_
    refine W.widen (k := 0) (n := 0) (Nat.le_of_ble_eq_true rfl) (Nat.le_of_ble_eq_true rfl) ?_
    exact W.zret (v := 0) hx hb hr rfl (fun t ht hW => ⟨⟨0, (), rfl, (if_neg (fun h => absurd c_1 (Int32.not_lt.mpr h.1))).symm, trivial⟩, hS.F ht⟩) hS.2.2 dX14_in_15
  · refine lv_iload_n hx hb dX14_in_5 rfl (lv_at hl 0 rfl) ?_
    refine lv_iload_n hx hb dX14_in_6 rfl (lv_at hl 2 rfl) ?_
    refine lv_icmp_gt (tgt := 14) hx hb dX14_in_7 (by decide) (fun c_2 => ?_) (fun c_2 => ?_)
    · refine lv_iconst (v := 0) hx hb dX14_in_14 (by decide) ?_
      refine W.widen (k := 0) (n := 0) (Nat.le_of_ble_eq_true rfl) (Nat.le_of_ble_eq_true rfl) ?_
      exact W.zret (v := 0) hx hb hr rfl (fun t ht hW => ⟨⟨0, (), rfl, (if_neg (fun h => absurd c_2 (Int32.not_lt.mpr h.2))).symm, trivial⟩, hS.F ht⟩) hS.2.2 dX14_in_15
    · refine lv_iconst (v := 1) hx hb dX14_in_10 (by decide) ?_
      refine lv_goto (tgt := 15) hx hb dX14_in_11 (by decide) ?_
      refine W.widen (k := 0) (n := 0) (Nat.le_of_ble_eq_true rfl) (Nat.le_of_ble_eq_true rfl) ?_
      exact W.zret (v := 1) hx hb hr rfl (fun t ht hW => ⟨⟨1, (), rfl, (if_pos ⟨Int32.not_lt.mp c_1, Int32.not_lt.mp c_2⟩).symm, trivial⟩, hS.F ht⟩) hS.2.2 dX14_in_15

theorem z_empty {x : Int32} (h1 : ¬ x < 0) (h2 : ¬ -1 < x) : False := by
  have a := Int32.le_iff_toInt_le.mp (Int32.not_lt.mp h1)
  have b := Int32.le_iff_toInt_le.mp (Int32.not_lt.mp h2)
  have e0 : (0 : Int32).toInt = 0 := rfl
  have e1 : (-1 : Int32).toInt = -1 := by decide
  rw [e0] at a
  rw [e1] at b
  omega
set_option maxHeartbeats 4000000 in
set_option maxRecDepth 100000 in
/-- in(v, 0, -1) -/
theorem k_X14_in_e (l : Launch) (G : va_G) (z : Nat) (p0 : Int32) (sz : Nat)  : Met l yX14_in wz_X14_in ({ frames := 0, cells := 0, slots := 0, locals := 0 }) (va_Pc [.int p0, .int 0, .int (-1)] (PR G z [] [] sz)) (va_Qi (fun (r : Int32) (_ : Unit) => r = 0) (fun (_ : Unit) (_ : State) => True) (zN sz)) 0 0 (zN sz) := by
  refine Met.ofW (cc := cX14_in) (maxL := 3) (ret := (Option.some Jvm.ClassFile.FieldType.boolean)) (by decide) rfl ?_
  intro p e s m args below meth c s₁ B hml hv
  obtain ⟨rfl, rfl, hP, hK, hG⟩ := hv
  have hx := B.exec
  have hb := B.bytes
  have hr := B.returns
  have hts := atoms_spec (ws := wz_X14_in) B.pre
  have hg : ∀ w ∈ lw_good, w.before _ s = true := fun w h => hts w (List.mem_cons_of_mem _ h)
  have hown : s.vm.findClass RX14 = some m.cls := findClass_of_methodNamed B.named
  have hlocks := B.notSynchronized
  have hA : ∀ q : Nat, s.heap.size ≤ q → zN s.heap.size q := fun _ h => h
  have hS : va_S (zN s.heap.size) s.heap s.heap [] := va_S.rf
  have hl := lv_entry ([.int p0, .int 0, .int (-1)]) (n := 3) (Nat.le_of_ble_eq_true rfl)
  rw [lg_entry_eq]
  generalize (lg_sl ([.int p0, .int 0, .int (-1)]) ++ List.replicate (3 - (lg_sl ([.int p0, .int 0, .int (-1)])).length) Slot.unset).toArray = ls at hl ⊢
  have hl : lv_has ls 3 [(0, .int p0), (1, .int 0), (2, .int (-1))] := hl
  refine lv_iload_n hx hb dX14_in_0 rfl (lv_at hl 0 rfl) ?_
  refine lv_iload_n hx hb dX14_in_1 rfl (lv_at hl 1 rfl) ?_
  refine lv_icmp_lt (tgt := 14) hx hb dX14_in_2 (by decide) (fun c_1 => ?_) (fun c_1 => ?_)
  · refine lv_iconst (v := 0) hx hb dX14_in_14 (by decide) ?_
    refine W.widen (k := 0) (n := 0) (Nat.le_of_ble_eq_true rfl) (Nat.le_of_ble_eq_true rfl) ?_
    exact W.zret (v := 0) hx hb hr rfl (fun t ht hW => ⟨⟨0, (), rfl, rfl, trivial⟩, hS.F ht⟩) hS.2.2 dX14_in_15
  · refine lv_iload_n hx hb dX14_in_5 rfl (lv_at hl 0 rfl) ?_
    refine lv_iload_n hx hb dX14_in_6 rfl (lv_at hl 2 rfl) ?_
    refine lv_icmp_gt (tgt := 14) hx hb dX14_in_7 (by decide) (fun c_2 => ?_) (fun c_2 => (z_empty c_1 c_2).elim)
    refine lv_iconst (v := 0) hx hb dX14_in_14 (by decide) ?_
    refine W.widen (k := 0) (n := 0) (Nat.le_of_ble_eq_true rfl) (Nat.le_of_ble_eq_true rfl) ?_
    exact W.zret (v := 0) hx hb hr rfl (fun t ht hW => ⟨⟨0, (), rfl, rfl, trivial⟩, hS.F ht⟩) hS.2.2 dX14_in_15

abbrev wz_X14_isYear : List Cond := .code yX14_isYear cX14_isYear 1 (Option.some Jvm.ClassFile.FieldType.boolean) :: lw_good
set_option maxHeartbeats 4000000 in
set_option maxRecDepth 100000 in
/-- isYear -/
theorem k_X14_isYear (l : Launch) (G : va_G) (z : Nat) (p0 : Int32) (sz : Nat)  : Met l yX14_isYear wz_X14_isYear ({ frames := 1, cells := 0, slots := 0, locals := 22 }) (va_Pc [.int p0] (PR G z [] [] sz)) (va_Qi (fun (r : Int32) (_ : Unit) => r = if 1400 ≤ p0 ∧ p0 ≤ 1900 then 1 else 0) (fun (_ : Unit) (_ : State) => True) (zN sz)) 0 0 (zN sz) := by
  refine Met.ofW (cc := cX14_isYear) (maxL := 1) (ret := (Option.some Jvm.ClassFile.FieldType.boolean)) (by decide) rfl ?_
  intro p e s m args below meth c s₁ B hml hv
  obtain ⟨rfl, rfl, hP, hK, hG⟩ := hv
  have hx := B.exec
  have hb := B.bytes
  have hr := B.returns
  have hts := atoms_spec (ws := wz_X14_isYear) B.pre
  have hg : ∀ w ∈ lw_good, w.before _ s = true := fun w h => hts w (List.mem_cons_of_mem _ h)
  have hown : s.vm.findClass RX14 = some m.cls := findClass_of_methodNamed B.named
  have hlocks := B.notSynchronized
  have hA : ∀ q : Nat, s.heap.size ≤ q → zN s.heap.size q := fun _ h => h
  have hS : va_S (zN s.heap.size) s.heap s.heap [] := va_S.rf
  have hl := lv_entry ([.int p0]) (n := 1) (Nat.le_of_ble_eq_true rfl)
  rw [lg_entry_eq]
  generalize (lg_sl ([.int p0]) ++ List.replicate (1 - (lg_sl ([.int p0])).length) Slot.unset).toArray = ls at hl ⊢
  have hl : lv_has ls 1 [(0, .int p0)] := hl
  refine lv_iload_n hx hb dX14_isYear_0 rfl (lv_at hl 0 rfl) ?_
  refine lv_sipush (v := 1400) hx hb dX14_isYear_1 (by decide) ?_
  refine lv_sipush (v := 1900) hx hb dX14_isYear_4 (by decide) ?_
  have hPc := hP.sub (ws' := []) [] rfl
  have hKc := hK.sub (tys' := []) [] rfl
  refine va_calli (va_runS (As := [.int p0, .int 1400, .int 1900]) (rest := []) ⟨hx, hb, hml, hown, hts⟩ (k_X14_in l G z p0 1400 1900 s.heap.size ) (va_cwS 3 hts (lw_goodApp (lw_3 q1244 q1245 q7) q1246) rfl rfl rfl (by decide +kernel) ⟨Nat.le_of_ble_eq_true rfl, Nat.le_of_ble_eq_true rfl⟩) ⟨PR.blind, PR.of hPc hKc hG hS hA [.int p0, .int 1400, .int 1900]⟩ rfl rfl hl.1 rfl (lv_room (Nat.le_of_ble_eq_true rfl)) dX14_isYear_7 ⟨Nat.le_of_ble_eq_true rfl, Nat.le_of_ble_eq_true rfl⟩) hS (fun q h9 h => zN.not h9 h) (fun q h => hA q (Nat.le_trans hS.1 h)) (fun r_2 u t_4 H_1 locs ht hvm hw_3 hB hz1 hk1 hS => ?_)
  have hP := hP.grown hk1
  refine W.widen (k := 0) (n := 0) (Nat.le_of_ble_eq_true rfl) (Nat.le_of_ble_eq_true rfl) ?_
  refine W.widen (k := 0) (n := 0) (Nat.le_of_ble_eq_true rfl) (Nat.le_of_ble_eq_true rfl) ?_
  exact W.zret (v := r_2) hx hb hr (by rw [hw_3]; split <;> rfl) (fun t ht hW => ⟨⟨r_2, (), rfl, hw_3, trivial⟩, hS.F ht⟩) hS.2.2 dX14_isYear_10

abbrev wz_X14_isMould : List Cond := .code yX14_isMould cX14_isMould 2 (Option.some Jvm.ClassFile.FieldType.boolean) :: lw_good
set_option maxHeartbeats 4000000 in
set_option maxRecDepth 100000 in
theorem k_X14_isMould (l : Launch) (G : va_G) (z : Nat) (h0 : Nat) (th : Int32) (l1 : Nat) (l2 : Nat) (l3 : Nat) (l4 : Nat) (l5 : Nat) (l6 : Nat) (tol : Int32) (ag : Int32) (m1 : Nat) (m2 : Nat) (m3 : Nat) (m4 : Nat) (m5 : Nat) (m6 : Nat) (c1 : Int32) (e1 : Nat) (p0 : Int32) (sz : Nat)  : Met l yX14_isMould wz_X14_isMould ({ frames := 1, cells := 0, slots := 0, locals := 22 }) (va_Pc [.ref h0, .int p0] (PR G z [(h0, .inr (18, [.int th, .ref l1, .ref l2, .ref l3, .ref l4, .ref l5, .ref l6, .int 0, .int tol, .int ag, .ref m1, .ref m2, .ref m3, .ref m4, .ref m5, .ref m6])), (l1, .inr (3, [.int c1, .ref e1, .int 0]))] [] sz)) (va_Qi (fun (r : Int32) (_ : Unit) => r = 0) (fun (_ : Unit) (_ : State) => True) (zN sz)) 0 0 (zN sz) := by
  refine Met.ofW (cc := cX14_isMould) (maxL := 2) (ret := (Option.some Jvm.ClassFile.FieldType.boolean)) (by decide) rfl ?_
  intro p e s m args below meth c s₁ B hml hv
  obtain ⟨rfl, rfl, hP, hK, hG⟩ := hv
  have hx := B.exec
  have hb := B.bytes
  have hr := B.returns
  have hts := atoms_spec (ws := wz_X14_isMould) B.pre
  have hg : ∀ w ∈ lw_good, w.before _ s = true := fun w h => hts w (List.mem_cons_of_mem _ h)
  have hown : s.vm.findClass RX14 = some m.cls := findClass_of_methodNamed B.named
  have hlocks := B.notSynchronized
  have hA : ∀ q : Nat, s.heap.size ≤ q → zN s.heap.size q := fun _ h => h
  have hS : va_S (zN s.heap.size) s.heap s.heap [] := va_S.rf
  have hl := lv_entry ([.ref h0, .int p0]) (n := 2) (Nat.le_of_ble_eq_true rfl)
  rw [lg_entry_eq]
  generalize (lg_sl ([.ref h0, .int p0]) ++ List.replicate (2 - (lg_sl ([.ref h0, .int p0])).length) Slot.unset).toArray = ls at hl ⊢
  have hl : lv_has ls 2 [(0, .ref h0), (1, .int p0)] := hl
  refine lv_iload_n hx hb dX14_isMould_0 rfl (lv_at hl 1 rfl) ?_
  refine lv_iconst (v := 0) hx hb dX14_isMould_1 (by decide) ?_
  refine lv_aload_n hx hb dX14_isMould_2 rfl (lv_at hl 0 rfl) ?_
  refine va_get (D := G) (ci := 18) (v := .ref l1) (C := RX14) (T := TX14) (N := 16) hx hb hg in_X14 hown hK hP 0 rfl rfl 1 (by decide) (hg _ q1188) (fun _ h9 => h9) rfl dX14_isMould_3 ?_
  have hPc := hP.sub (ws' := [(l1, .inr (3, [.int c1, .ref e1, .int 0]))]) [1] rfl
  have hKc := hK.sub (tys' := []) [] rfl
  refine va_calli (va_runV (As := []) (rest := [.int 0, .int p0]) ⟨hx, hb, hml, hown, hts⟩ (k_Jx4a65c_size_8abf5 l G z l1 c1 e1 0 s.heap.size ) (cwV 0 hts (lw_goodApp (lw_4 q1247 q161 q162 q4) q163) rfl rfl rfl (by decide +kernel) ⟨Nat.le_of_ble_eq_true rfl, Nat.le_of_ble_eq_true rfl⟩) ⟨PR.blind, va_recv hK hP (ci := 3) (q0 := 1) rfl rfl, PR.of hPc hKc hG hS hA [.ref l1]⟩ rfl rfl hl.1 rfl (lv_room (Nat.le_of_ble_eq_true rfl)) dX14_isMould_6 ⟨Nat.le_of_ble_eq_true rfl, Nat.le_of_ble_eq_true rfl⟩) hS (fun q h9 h => zN.not h9 h) (fun q h => hA q (Nat.le_trans hS.1 h)) (fun r_2 u t_4 H_1 locs ht hvm hw_3 hB hz1 hk1 hS => ?_)
  have hP := hP.grown hk1
  refine W.widen (k := 0) (n := 0) (Nat.le_of_ble_eq_true rfl) (Nat.le_of_ble_eq_true rfl) ?_
  obtain rfl : 0 = r_2 := hw_3.symm
  refine lv_iconst (v := 1) hx hb dX14_isMould_9 (by decide) ?_
  refine lv_isub hx hb dX14_isMould_10 ?_
  refine lv_topi (fun f_5 ef_5 => ?_)
  obtain rfl : f_5 = -1 := ef_5.trans (by decide)
  have hPc := hP.sub (ws' := []) [] rfl
  have hKc := hK.sub (tys' := []) [] rfl
  refine va_calli (va_runS (As := [.int p0, .int 0, .int (-1)]) (rest := []) ⟨hx, hb, hml, hown, hts⟩ (k_X14_in_e l G z p0 H_1.size ) (va_cwS 3 hts (lw_goodApp (lw_3 q1244 q1245 q7) q1246) rfl rfl rfl (by decide +kernel) ⟨Nat.le_of_ble_eq_true rfl, Nat.le_of_ble_eq_true rfl⟩) ⟨PR.blind, PR.of hPc hKc hG hS hA [.int p0, .int 0, .int (-1)]⟩ rfl rfl hl.1 rfl (lv_room (Nat.le_of_ble_eq_true rfl)) dX14_isMould_11 ⟨Nat.le_of_ble_eq_true rfl, Nat.le_of_ble_eq_true rfl⟩) hS (fun q h9 h => zN.not h9 h) (fun q h => hA q (Nat.le_trans hS.1 h)) (fun r_7 u t_9 H_6 locs ht hvm hw_8 hB hz1 hk1 hS => ?_)
  have hP := hP.grown hk1
  refine W.widen (k := 0) (n := 0) (Nat.le_of_ble_eq_true rfl) (Nat.le_of_ble_eq_true rfl) ?_
  obtain rfl : 0 = r_7 := hw_8.symm
  refine W.widen (k := 0) (n := 0) (Nat.le_of_ble_eq_true rfl) (Nat.le_of_ble_eq_true rfl) ?_
  exact W.zret (v := 0) hx hb hr rfl (fun t ht hW => ⟨⟨0, (), rfl, rfl, trivial⟩, hS.F ht⟩) hS.2.2 dX14_isMould_14

abbrev wz_X14_isDocument : List Cond := .code yX14_isDocument cX14_isDocument 2 (Option.some Jvm.ClassFile.FieldType.boolean) :: lw_good
set_option maxHeartbeats 4000000 in
set_option maxRecDepth 100000 in
theorem k_X14_isDocument (l : Launch) (G : va_G) (z : Nat) (h0 : Nat) (th : Int32) (l1 : Nat) (l2 : Nat) (l3 : Nat) (l4 : Nat) (l5 : Nat) (l6 : Nat) (tol : Int32) (ag : Int32) (m1 : Nat) (m2 : Nat) (m3 : Nat) (m4 : Nat) (m5 : Nat) (m6 : Nat) (c4 : Int32) (e4 : Nat) (p0 : Int32) (sz : Nat)  : Met l yX14_isDocument wz_X14_isDocument ({ frames := 1, cells := 0, slots := 0, locals := 22 }) (va_Pc [.ref h0, .int p0] (PR G z [(h0, .inr (18, [.int th, .ref l1, .ref l2, .ref l3, .ref l4, .ref l5, .ref l6, .int 0, .int tol, .int ag, .ref m1, .ref m2, .ref m3, .ref m4, .ref m5, .ref m6])), (l4, .inr (3, [.int c4, .ref e4, .int 0]))] [] sz)) (va_Qi (fun (r : Int32) (_ : Unit) => r = 0) (fun (_ : Unit) (_ : State) => True) (zN sz)) 0 0 (zN sz) := by
  refine Met.ofW (cc := cX14_isDocument) (maxL := 2) (ret := (Option.some Jvm.ClassFile.FieldType.boolean)) (by decide) rfl ?_
  intro p e s m args below meth c s₁ B hml hv
  obtain ⟨rfl, rfl, hP, hK, hG⟩ := hv
  have hx := B.exec
  have hb := B.bytes
  have hr := B.returns
  have hts := atoms_spec (ws := wz_X14_isDocument) B.pre
  have hg : ∀ w ∈ lw_good, w.before _ s = true := fun w h => hts w (List.mem_cons_of_mem _ h)
  have hown : s.vm.findClass RX14 = some m.cls := findClass_of_methodNamed B.named
  have hlocks := B.notSynchronized
  have hA : ∀ q : Nat, s.heap.size ≤ q → zN s.heap.size q := fun _ h => h
  have hS : va_S (zN s.heap.size) s.heap s.heap [] := va_S.rf
  have hl := lv_entry ([.ref h0, .int p0]) (n := 2) (Nat.le_of_ble_eq_true rfl)
  rw [lg_entry_eq]
  generalize (lg_sl ([.ref h0, .int p0]) ++ List.replicate (2 - (lg_sl ([.ref h0, .int p0])).length) Slot.unset).toArray = ls at hl ⊢
  have hl : lv_has ls 2 [(0, .ref h0), (1, .int p0)] := hl
  refine lv_iload_n hx hb dX14_isDocument_0 rfl (lv_at hl 1 rfl) ?_
  refine lv_iconst (v := 0) hx hb dX14_isDocument_1 (by decide) ?_
  refine lv_aload_n hx hb dX14_isDocument_2 rfl (lv_at hl 0 rfl) ?_
  refine va_get (D := G) (ci := 18) (v := .ref l4) (C := RX14) (T := TX14) (N := 16) hx hb hg in_X14 hown hK hP 0 rfl rfl 4 (by decide) (hg _ q1191) (fun _ h9 => h9) rfl dX14_isDocument_3 ?_
  have hPc := hP.sub (ws' := [(l4, .inr (3, [.int c4, .ref e4, .int 0]))]) [1] rfl
  have hKc := hK.sub (tys' := []) [] rfl
  refine va_calli (va_runV (As := []) (rest := [.int 0, .int p0]) ⟨hx, hb, hml, hown, hts⟩ (k_Jx4a65c_size_8abf5 l G z l4 c4 e4 0 s.heap.size ) (cwV 0 hts (lw_goodApp (lw_4 q1247 q161 q162 q4) q163) rfl rfl rfl (by decide +kernel) ⟨Nat.le_of_ble_eq_true rfl, Nat.le_of_ble_eq_true rfl⟩) ⟨PR.blind, va_recv hK hP (ci := 3) (q0 := 1) rfl rfl, PR.of hPc hKc hG hS hA [.ref l4]⟩ rfl rfl hl.1 rfl (lv_room (Nat.le_of_ble_eq_true rfl)) dX14_isDocument_6 ⟨Nat.le_of_ble_eq_true rfl, Nat.le_of_ble_eq_true rfl⟩) hS (fun q h9 h => zN.not h9 h) (fun q h => hA q (Nat.le_trans hS.1 h)) (fun r_2 u t_4 H_1 locs ht hvm hw_3 hB hz1 hk1 hS => ?_)
  have hP := hP.grown hk1
  refine W.widen (k := 0) (n := 0) (Nat.le_of_ble_eq_true rfl) (Nat.le_of_ble_eq_true rfl) ?_
  obtain rfl : 0 = r_2 := hw_3.symm
  refine lv_iconst (v := 1) hx hb dX14_isDocument_9 (by decide) ?_
  refine lv_isub hx hb dX14_isDocument_10 ?_
  refine lv_topi (fun f_5 ef_5 => ?_)
  obtain rfl : f_5 = -1 := ef_5.trans (by decide)
  have hPc := hP.sub (ws' := []) [] rfl
  have hKc := hK.sub (tys' := []) [] rfl
  refine va_calli (va_runS (As := [.int p0, .int 0, .int (-1)]) (rest := []) ⟨hx, hb, hml, hown, hts⟩ (k_X14_in_e l G z p0 H_1.size ) (va_cwS 3 hts (lw_goodApp (lw_3 q1244 q1245 q7) q1246) rfl rfl rfl (by decide +kernel) ⟨Nat.le_of_ble_eq_true rfl, Nat.le_of_ble_eq_true rfl⟩) ⟨PR.blind, PR.of hPc hKc hG hS hA [.int p0, .int 0, .int (-1)]⟩ rfl rfl hl.1 rfl (lv_room (Nat.le_of_ble_eq_true rfl)) dX14_isDocument_11 ⟨Nat.le_of_ble_eq_true rfl, Nat.le_of_ble_eq_true rfl⟩) hS (fun q h9 h => zN.not h9 h) (fun q h => hA q (Nat.le_trans hS.1 h)) (fun r_7 u t_9 H_6 locs ht hvm hw_8 hB hz1 hk1 hS => ?_)
  have hP := hP.grown hk1
  refine W.widen (k := 0) (n := 0) (Nat.le_of_ble_eq_true rfl) (Nat.le_of_ble_eq_true rfl) ?_
  obtain rfl : 0 = r_7 := hw_8.symm
  refine W.widen (k := 0) (n := 0) (Nat.le_of_ble_eq_true rfl) (Nat.le_of_ble_eq_true rfl) ?_
  exact W.zret (v := 0) hx hb hr rfl (fun t ht hW => ⟨⟨0, (), rfl, rfl, trivial⟩, hS.F ht⟩) hS.2.2 dX14_isDocument_14

abbrev wz_X14_failsMould : List Cond := .code yX14_failsMould cX14_failsMould 2 (Option.some Jvm.ClassFile.FieldType.boolean) :: lw_good
set_option maxHeartbeats 4000000 in
set_option maxRecDepth 100000 in
theorem k_X14_failsMould (l : Launch) (G : va_G) (z : Nat) (h0 : Nat) (th : Int32) (l1 : Nat) (l2 : Nat) (l3 : Nat) (l4 : Nat) (l5 : Nat) (l6 : Nat) (tol : Int32) (ag : Int32) (m1 : Nat) (m2 : Nat) (m3 : Nat) (m4 : Nat) (m5 : Nat) (m6 : Nat) (c1 : Int32) (e1 : Nat) (p0 : Int32) (sz : Nat)  : Met l yX14_failsMould wz_X14_failsMould ({ frames := 2, cells := 0, slots := 0, locals := 43 }) (va_Pc [.ref h0, .int p0] (PW G z [(h0, .inr (18, [.int th, .ref l1, .ref l2, .ref l3, .ref l4, .ref l5, .ref l6, .int 0, .int tol, .int ag, .ref m1, .ref m2, .ref m3, .ref m4, .ref m5, .ref m6])), (l1, .inr (3, [.int c1, .ref e1, .int 0]))] [] sz)) (va_Qi (fun (r : Int32) (_ : Unit) => r = 1) (fun (_ : Unit) (t : State) => QW G [(h0, .inr (18, [.int 1, .ref l1, .ref l2, .ref l3, .ref l4, .ref l5, .ref l6, .int 0, .int tol, .int ag, .ref m1, .ref m2, .ref m3, .ref m4, .ref m5, .ref m6])), (l1, .inr (3, [.int c1, .ref e1, .int 0]))] [] (va_A [(h0, .inr (18, [.int th, .ref l1, .ref l2, .ref l3, .ref l4, .ref l5, .ref l6, .int 0, .int tol, .int ag, .ref m1, .ref m2, .ref m3, .ref m4, .ref m5, .ref m6])), (l1, .inr (3, [.int c1, .ref e1, .int 0]))] sz) t) (va_A [(h0, .inr (18, [.int th, .ref l1, .ref l2, .ref l3, .ref l4, .ref l5, .ref l6, .int 0, .int tol, .int ag, .ref m1, .ref m2, .ref m3, .ref m4, .ref m5, .ref m6])), (l1, .inr (3, [.int c1, .ref e1, .int 0]))] sz)) 0 0 (va_A [(h0, .inr (18, [.int th, .ref l1, .ref l2, .ref l3, .ref l4, .ref l5, .ref l6, .int 0, .int tol, .int ag, .ref m1, .ref m2, .ref m3, .ref m4, .ref m5, .ref m6])), (l1, .inr (3, [.int c1, .ref e1, .int 0]))] sz) := by
  refine Met.ofW (cc := cX14_failsMould) (maxL := 2) (ret := (Option.some Jvm.ClassFile.FieldType.boolean)) (by decide) rfl ?_
  intro p e s m args below meth c s₁ B hml hv
  obtain ⟨rfl, rfl, hP, hK, hD0, hG⟩ := hv
  have hx := B.exec
  have hb := B.bytes
  have hr := B.returns
  have hts := atoms_spec (ws := wz_X14_failsMould) B.pre
  have hg : ∀ w ∈ lw_good, w.before _ s = true := fun w h => hts w (List.mem_cons_of_mem _ h)
  have hown : s.vm.findClass RX14 = some m.cls := findClass_of_methodNamed B.named
  have hlocks := B.notSynchronized
  have hD := hD0.self (sz := s.heap.size)
  generalize hAe : va_A [(h0, .inr (18, [.int th, .ref l1, .ref l2, .ref l3, .ref l4, .ref l5, .ref l6, .int 0, .int tol, .int ag, .ref m1, .ref m2, .ref m3, .ref m4, .ref m5, .ref m6])), (l1, .inr (3, [.int c1, .ref e1, .int 0]))] s.heap.size = A at hD hG ⊢
  have hA : ∀ q : Nat, s.heap.size ≤ q → A q := fun q h => by rw [← hAe]; exact Or.inr h
  have hS : va_S A s.heap s.heap [] := va_S.rf
  have hl := lv_entry ([.ref h0, .int p0]) (n := 2) (Nat.le_of_ble_eq_true rfl)
  rw [lg_entry_eq]
  generalize (lg_sl ([.ref h0, .int p0]) ++ List.replicate (2 - (lg_sl ([.ref h0, .int p0])).length) Slot.unset).toArray = ls at hl ⊢
  have hl : lv_has ls 2 [(0, .ref h0), (1, .int p0)] := hl
  refine lv_aload_n hx hb dX14_failsMould_0 rfl (lv_at hl 0 rfl) ?_
  refine lv_aload_n hx hb dX14_failsMould_1 rfl (lv_at hl 0 rfl) ?_
  refine lv_iload_n hx hb dX14_failsMould_2 rfl (lv_at hl 1 rfl) ?_
  have hPc := hP.sub (ws' := [(h0, .inr (18, [.int th, .ref l1, .ref l2, .ref l3, .ref l4, .ref l5, .ref l6, .int 0, .int tol, .int ag, .ref m1, .ref m2, .ref m3, .ref m4, .ref m5, .ref m6])), (l1, .inr (3, [.int c1, .ref e1, .int 0]))]) [0, 1] rfl
  have hKc := hK.sub (tys' := []) [] rfl
  refine va_calli (va_runV (As := [.int p0]) (rest := [.ref h0]) ⟨hx, hb, hml, hown, hts⟩ (k_X14_isMould l G z h0 th l1 l2 l3 l4 l5 l6 tol ag m1 m2 m3 m4 m5 m6 c1 e1 p0 s.heap.size ) (cwV 1 hts (lw_goodApp (lw_4 q1305 q1307 qs25 q7) q1308) rfl rfl rfl (by decide +kernel) ⟨Nat.le_of_ble_eq_true rfl, Nat.le_of_ble_eq_true rfl⟩) ⟨PR.blind, va_recv hK hP (ci := 18) (q0 := 0) rfl rfl, PR.of hPc hKc hG hS hA [.ref h0, .int p0]⟩ rfl rfl hl.1 rfl (lv_room (Nat.le_of_ble_eq_true rfl)) dX14_failsMould_3 ⟨Nat.le_of_ble_eq_true rfl, Nat.le_of_ble_eq_true rfl⟩) hS (fun q h9 h => zN.not h9 h) (fun q h => hA q (Nat.le_trans hS.1 h)) (fun r_2 u t_4 H_1 locs ht hvm hw_3 hB hz1 hk1 hS => ?_)
  have hP := hP.grown hk1
  refine W.widen (k := 0) (n := 0) (Nat.le_of_ble_eq_true rfl) (Nat.le_of_ble_eq_true rfl) ?_
  obtain rfl : 0 = r_2 := hw_3.symm
  refine lv_if_eq (tgt := 13) hx hb dX14_failsMould_6 (by decide) (fun c_5 => ?_) (fun c_5 => absurd rfl c_5)
  refine lv_iconst (v := 1) hx hb dX14_failsMould_13 (by decide) ?_
  have hPc := hP.sub (ws' := [(h0, .inr (18, [.int th, .ref l1, .ref l2, .ref l3, .ref l4, .ref l5, .ref l6, .int 0, .int tol, .int ag, .ref m1, .ref m2, .ref m3, .ref m4, .ref m5, .ref m6]))]) [0] rfl
  have hKc := hK.sub (tys' := []) [] rfl
  have hDc := hD.sub (ws' := [(h0, .inr (18, [.int th, .ref l1, .ref l2, .ref l3, .ref l4, .ref l5, .ref l6, .int 0, .int tol, .int ag, .ref m1, .ref m2, .ref m3, .ref m4, .ref m5, .ref m6]))]) [0] (by decide) rfl
  have hFc := va_free (wc := [(h0, .inr (18, [.int th, .ref l1, .ref l2, .ref l3, .ref l4, .ref l5, .ref l6, .int 0, .int tol, .int ag, .ref m1, .ref m2, .ref m3, .ref m4, .ref m5, .ref m6]))]) hD hS hA [0] rfl
  refine va_calli (va_runV (As := [.int 1]) (rest := []) ⟨hx, hb, hml, hown, hts⟩ (k_X14_fails_1 l G z h0 th l1 l2 l3 l4 l5 l6 tol ag m1 m2 m3 m4 m5 m6 1 H_1.size (by decide)) (cwV 1 hts (lw_goodApp (lw_4 q1248 q1250 qs23 q7) q1251) rfl rfl rfl (by decide +kernel) ⟨Nat.le_of_ble_eq_true rfl, Nat.le_of_ble_eq_true rfl⟩) ⟨PW.blind, va_recv hK hP (ci := 18) (q0 := 0) rfl rfl, PW.of hPc hKc hDc hG hS hFc [.ref h0, .int 1]⟩ rfl rfl hl.1 rfl (lv_room (Nat.le_of_ble_eq_true rfl)) dX14_failsMould_14 ⟨Nat.le_of_ble_eq_true rfl, Nat.le_of_ble_eq_true rfl⟩) hS (fun q _ h => hFc q h) hFc (fun r_7 u t_9 H_6 locs ht hvm hw_8 hB hz1 hk1 hS => ?_)
  obtain ⟨hP, hD, hK⟩ := QW.join (wr := [(l1, .inr (3, [.int c1, .ref e1, .int 0]))]) (w1 := [(h0, .inr (18, [.int 1, .ref l1, .ref l2, .ref l3, .ref l4, .ref l5, .ref l6, .int 0, .int tol, .int ag, .ref m1, .ref m2, .ref m3, .ref m4, .ref m5, .ref m6]))]) hP hD hK [0] [1] rfl rfl (by decide) (by decide) hk1 hFc ht hvm hB
  have hP : va_P G vwCl ([(l1, .inr (3, [.int c1, .ref e1, .int 0])), (h0, .inr (18, [.int 1, .ref l1, .ref l2, .ref l3, .ref l4, .ref l5, .ref l6, .int 0, .int tol, .int ag, .ref m1, .ref m2, .ref m3, .ref m4, .ref m5, .ref m6]))]) H_6 := hP
  have hD : va_D A ([(l1, .inr (3, [.int c1, .ref e1, .int 0])), (h0, .inr (18, [.int 1, .ref l1, .ref l2, .ref l3, .ref l4, .ref l5, .ref l6, .int 0, .int tol, .int ag, .ref m1, .ref m2, .ref m3, .ref m4, .ref m5, .ref m6]))]) := hD
  have hK : va_K G vwCl [] s := hK
  refine W.widen (k := 0) (n := 0) (Nat.le_of_ble_eq_true rfl) (Nat.le_of_ble_eq_true rfl) ?_
  obtain rfl : 1 = r_7 := hw_8.symm
  refine W.widen (k := 0) (n := 0) (Nat.le_of_ble_eq_true rfl) (Nat.le_of_ble_eq_true rfl) ?_
  have hP9 := hP.sub (ws' := [(h0, .inr (18, [.int 1, .ref l1, .ref l2, .ref l3, .ref l4, .ref l5, .ref l6, .int 0, .int tol, .int ag, .ref m1, .ref m2, .ref m3, .ref m4, .ref m5, .ref m6])), (l1, .inr (3, [.int c1, .ref e1, .int 0]))]) [1, 0] rfl
  have hD9 := hD.sub (ws' := [(h0, .inr (18, [.int 1, .ref l1, .ref l2, .ref l3, .ref l4, .ref l5, .ref l6, .int 0, .int tol, .int ag, .ref m1, .ref m2, .ref m3, .ref m4, .ref m5, .ref m6])), (l1, .inr (3, [.int c1, .ref e1, .int 0]))]) [1, 0] (by decide) rfl
  have hK9 := hK.sub (tys' := []) [] rfl
  exact W.zret (v := 1) hx hb hr rfl (fun t ht hW => ⟨⟨1, (), rfl, rfl, QW.of hP9 hK9 hD9 ht hW.alike⟩, hS.F ht⟩) hS.2.2 dX14_failsMould_17

abbrev wz_X14_failsDocument : List Cond := .code yX14_failsDocument cX14_failsDocument 2 (Option.some Jvm.ClassFile.FieldType.boolean) :: lw_good
set_option maxHeartbeats 4000000 in
set_option maxRecDepth 100000 in
theorem k_X14_failsDocument (l : Launch) (G : va_G) (z : Nat) (h0 : Nat) (th : Int32) (l1 : Nat) (l2 : Nat) (l3 : Nat) (l4 : Nat) (l5 : Nat) (l6 : Nat) (tol : Int32) (ag : Int32) (m1 : Nat) (m2 : Nat) (m3 : Nat) (m4 : Nat) (m5 : Nat) (m6 : Nat) (c4 : Int32) (e4 : Nat) (p0 : Int32) (sz : Nat)  : Met l yX14_failsDocument wz_X14_failsDocument ({ frames := 2, cells := 0, slots := 0, locals := 43 }) (va_Pc [.ref h0, .int p0] (PW G z [(h0, .inr (18, [.int th, .ref l1, .ref l2, .ref l3, .ref l4, .ref l5, .ref l6, .int 0, .int tol, .int ag, .ref m1, .ref m2, .ref m3, .ref m4, .ref m5, .ref m6])), (l4, .inr (3, [.int c4, .ref e4, .int 0]))] [] sz)) (va_Qi (fun (r : Int32) (_ : Unit) => r = 1) (fun (_ : Unit) (t : State) => QW G [(h0, .inr (18, [.int 1, .ref l1, .ref l2, .ref l3, .ref l4, .ref l5, .ref l6, .int 0, .int tol, .int ag, .ref m1, .ref m2, .ref m3, .ref m4, .ref m5, .ref m6])), (l4, .inr (3, [.int c4, .ref e4, .int 0]))] [] (va_A [(h0, .inr (18, [.int th, .ref l1, .ref l2, .ref l3, .ref l4, .ref l5, .ref l6, .int 0, .int tol, .int ag, .ref m1, .ref m2, .ref m3, .ref m4, .ref m5, .ref m6])), (l4, .inr (3, [.int c4, .ref e4, .int 0]))] sz) t) (va_A [(h0, .inr (18, [.int th, .ref l1, .ref l2, .ref l3, .ref l4, .ref l5, .ref l6, .int 0, .int tol, .int ag, .ref m1, .ref m2, .ref m3, .ref m4, .ref m5, .ref m6])), (l4, .inr (3, [.int c4, .ref e4, .int 0]))] sz)) 0 0 (va_A [(h0, .inr (18, [.int th, .ref l1, .ref l2, .ref l3, .ref l4, .ref l5, .ref l6, .int 0, .int tol, .int ag, .ref m1, .ref m2, .ref m3, .ref m4, .ref m5, .ref m6])), (l4, .inr (3, [.int c4, .ref e4, .int 0]))] sz) := by
  refine Met.ofW (cc := cX14_failsDocument) (maxL := 2) (ret := (Option.some Jvm.ClassFile.FieldType.boolean)) (by decide) rfl ?_
  intro p e s m args below meth c s₁ B hml hv
  obtain ⟨rfl, rfl, hP, hK, hD0, hG⟩ := hv
  have hx := B.exec
  have hb := B.bytes
  have hr := B.returns
  have hts := atoms_spec (ws := wz_X14_failsDocument) B.pre
  have hg : ∀ w ∈ lw_good, w.before _ s = true := fun w h => hts w (List.mem_cons_of_mem _ h)
  have hown : s.vm.findClass RX14 = some m.cls := findClass_of_methodNamed B.named
  have hlocks := B.notSynchronized
  have hD := hD0.self (sz := s.heap.size)
  generalize hAe : va_A [(h0, .inr (18, [.int th, .ref l1, .ref l2, .ref l3, .ref l4, .ref l5, .ref l6, .int 0, .int tol, .int ag, .ref m1, .ref m2, .ref m3, .ref m4, .ref m5, .ref m6])), (l4, .inr (3, [.int c4, .ref e4, .int 0]))] s.heap.size = A at hD hG ⊢
  have hA : ∀ q : Nat, s.heap.size ≤ q → A q := fun q h => by rw [← hAe]; exact Or.inr h
  have hS : va_S A s.heap s.heap [] := va_S.rf
  have hl := lv_entry ([.ref h0, .int p0]) (n := 2) (Nat.le_of_ble_eq_true rfl)
  rw [lg_entry_eq]
  generalize (lg_sl ([.ref h0, .int p0]) ++ List.replicate (2 - (lg_sl ([.ref h0, .int p0])).length) Slot.unset).toArray = ls at hl ⊢
  have hl : lv_has ls 2 [(0, .ref h0), (1, .int p0)] := hl
  refine lv_aload_n hx hb dX14_failsDocument_0 rfl (lv_at hl 0 rfl) ?_
  refine lv_aload_n hx hb dX14_failsDocument_1 rfl (lv_at hl 0 rfl) ?_
  refine lv_iload_n hx hb dX14_failsDocument_2 rfl (lv_at hl 1 rfl) ?_
  have hPc := hP.sub (ws' := [(h0, .inr (18, [.int th, .ref l1, .ref l2, .ref l3, .ref l4, .ref l5, .ref l6, .int 0, .int tol, .int ag, .ref m1, .ref m2, .ref m3, .ref m4, .ref m5, .ref m6])), (l4, .inr (3, [.int c4, .ref e4, .int 0]))]) [0, 1] rfl
  have hKc := hK.sub (tys' := []) [] rfl
  refine va_calli (va_runV (As := [.int p0]) (rest := [.ref h0]) ⟨hx, hb, hml, hown, hts⟩ (k_X14_isDocument l G z h0 th l1 l2 l3 l4 l5 l6 tol ag m1 m2 m3 m4 m5 m6 c4 e4 p0 s.heap.size ) (cwV 1 hts (lw_goodApp (lw_4 q1536 q1538 qs27 q7) q1539) rfl rfl rfl (by decide +kernel) ⟨Nat.le_of_ble_eq_true rfl, Nat.le_of_ble_eq_true rfl⟩) ⟨PR.blind, va_recv hK hP (ci := 18) (q0 := 0) rfl rfl, PR.of hPc hKc hG hS hA [.ref h0, .int p0]⟩ rfl rfl hl.1 rfl (lv_room (Nat.le_of_ble_eq_true rfl)) dX14_failsDocument_3 ⟨Nat.le_of_ble_eq_true rfl, Nat.le_of_ble_eq_true rfl⟩) hS (fun q h9 h => zN.not h9 h) (fun q h => hA q (Nat.le_trans hS.1 h)) (fun r_2 u t_4 H_1 locs ht hvm hw_3 hB hz1 hk1 hS => ?_)
  have hP := hP.grown hk1
  refine W.widen (k := 0) (n := 0) (Nat.le_of_ble_eq_true rfl) (Nat.le_of_ble_eq_true rfl) ?_
  obtain rfl : 0 = r_2 := hw_3.symm
  refine lv_if_eq (tgt := 13) hx hb dX14_failsDocument_6 (by decide) (fun c_5 => ?_) (fun c_5 => absurd rfl c_5)
  refine lv_iconst (v := 1) hx hb dX14_failsDocument_13 (by decide) ?_
  have hPc := hP.sub (ws' := [(h0, .inr (18, [.int th, .ref l1, .ref l2, .ref l3, .ref l4, .ref l5, .ref l6, .int 0, .int tol, .int ag, .ref m1, .ref m2, .ref m3, .ref m4, .ref m5, .ref m6]))]) [0] rfl
  have hKc := hK.sub (tys' := []) [] rfl
  have hDc := hD.sub (ws' := [(h0, .inr (18, [.int th, .ref l1, .ref l2, .ref l3, .ref l4, .ref l5, .ref l6, .int 0, .int tol, .int ag, .ref m1, .ref m2, .ref m3, .ref m4, .ref m5, .ref m6]))]) [0] (by decide) rfl
  have hFc := va_free (wc := [(h0, .inr (18, [.int th, .ref l1, .ref l2, .ref l3, .ref l4, .ref l5, .ref l6, .int 0, .int tol, .int ag, .ref m1, .ref m2, .ref m3, .ref m4, .ref m5, .ref m6]))]) hD hS hA [0] rfl
  refine va_calli (va_runV (As := [.int 1]) (rest := []) ⟨hx, hb, hml, hown, hts⟩ (k_X14_fails_1 l G z h0 th l1 l2 l3 l4 l5 l6 tol ag m1 m2 m3 m4 m5 m6 1 H_1.size (by decide)) (cwV 1 hts (lw_goodApp (lw_4 q1248 q1250 qs23 q7) q1251) rfl rfl rfl (by decide +kernel) ⟨Nat.le_of_ble_eq_true rfl, Nat.le_of_ble_eq_true rfl⟩) ⟨PW.blind, va_recv hK hP (ci := 18) (q0 := 0) rfl rfl, PW.of hPc hKc hDc hG hS hFc [.ref h0, .int 1]⟩ rfl rfl hl.1 rfl (lv_room (Nat.le_of_ble_eq_true rfl)) dX14_failsDocument_14 ⟨Nat.le_of_ble_eq_true rfl, Nat.le_of_ble_eq_true rfl⟩) hS (fun q _ h => hFc q h) hFc (fun r_7 u t_9 H_6 locs ht hvm hw_8 hB hz1 hk1 hS => ?_)
  obtain ⟨hP, hD, hK⟩ := QW.join (wr := [(l4, .inr (3, [.int c4, .ref e4, .int 0]))]) (w1 := [(h0, .inr (18, [.int 1, .ref l1, .ref l2, .ref l3, .ref l4, .ref l5, .ref l6, .int 0, .int tol, .int ag, .ref m1, .ref m2, .ref m3, .ref m4, .ref m5, .ref m6]))]) hP hD hK [0] [1] rfl rfl (by decide) (by decide) hk1 hFc ht hvm hB
  have hP : va_P G vwCl ([(l4, .inr (3, [.int c4, .ref e4, .int 0])), (h0, .inr (18, [.int 1, .ref l1, .ref l2, .ref l3, .ref l4, .ref l5, .ref l6, .int 0, .int tol, .int ag, .ref m1, .ref m2, .ref m3, .ref m4, .ref m5, .ref m6]))]) H_6 := hP
  have hD : va_D A ([(l4, .inr (3, [.int c4, .ref e4, .int 0])), (h0, .inr (18, [.int 1, .ref l1, .ref l2, .ref l3, .ref l4, .ref l5, .ref l6, .int 0, .int tol, .int ag, .ref m1, .ref m2, .ref m3, .ref m4, .ref m5, .ref m6]))]) := hD
  have hK : va_K G vwCl [] s := hK
  refine W.widen (k := 0) (n := 0) (Nat.le_of_ble_eq_true rfl) (Nat.le_of_ble_eq_true rfl) ?_
  obtain rfl : 1 = r_7 := hw_8.symm
  refine W.widen (k := 0) (n := 0) (Nat.le_of_ble_eq_true rfl) (Nat.le_of_ble_eq_true rfl) ?_
  have hP9 := hP.sub (ws' := [(h0, .inr (18, [.int 1, .ref l1, .ref l2, .ref l3, .ref l4, .ref l5, .ref l6, .int 0, .int tol, .int ag, .ref m1, .ref m2, .ref m3, .ref m4, .ref m5, .ref m6])), (l4, .inr (3, [.int c4, .ref e4, .int 0]))]) [1, 0] rfl
  have hD9 := hD.sub (ws' := [(h0, .inr (18, [.int 1, .ref l1, .ref l2, .ref l3, .ref l4, .ref l5, .ref l6, .int 0, .int tol, .int ag, .ref m1, .ref m2, .ref m3, .ref m4, .ref m5, .ref m6])), (l4, .inr (3, [.int c4, .ref e4, .int 0]))]) [1, 0] (by decide) rfl
  have hK9 := hK.sub (tys' := []) [] rfl
  exact W.zret (v := 1) hx hb hr rfl (fun t ht hW => ⟨⟨1, (), rfl, rfl, QW.of hP9 hK9 hD9 ht hW.alike⟩, hS.F ht⟩) hS.2.2 dX14_failsDocument_17

abbrev wz_X14_areImages : List Cond := .code yX14_areImages cX14_areImages 3 (Option.some Jvm.ClassFile.FieldType.boolean) :: lw_good
set_option maxHeartbeats 4000000 in
set_option maxRecDepth 100000 in
theorem k_X14_areImages (l : Launch) (G : va_G) (z : Nat) (h0 : Nat) (th : Int32) (l1 : Nat) (l2 : Nat) (l3 : Nat) (l4 : Nat) (l5 : Nat) (l6 : Nat) (tol : Int32) (ag : Int32) (m1 : Nat) (m2 : Nat) (m3 : Nat) (m4 : Nat) (m5 : Nat) (m6 : Nat) (c5 : Int32) (e5 : Nat) (p0 : Int32) (p1 : Int32) (sz : Nat)  : Met l yX14_areImages wz_X14_areImages ({ frames := 1, cells := 0, slots := 0, locals := 22 }) (va_Pc [.ref h0, .int p0, .int p1] (PR G z [(h0, .inr (18, [.int th, .ref l1, .ref l2, .ref l3, .ref l4, .ref l5, .ref l6, .int 0, .int tol, .int ag, .ref m1, .ref m2, .ref m3, .ref m4, .ref m5, .ref m6])), (l5, .inr (3, [.int c5, .ref e5, .int 0]))] [] sz)) (va_Qi (fun (r : Int32) (_ : Unit) => r = 0) (fun (_ : Unit) (_ : State) => True) (zN sz)) 0 0 (zN sz) := by
  refine Met.ofW (cc := cX14_areImages) (maxL := 3) (ret := (Option.some Jvm.ClassFile.FieldType.boolean)) (by decide) rfl ?_
  intro p e s m args below meth c s₁ B hml hv
  obtain ⟨rfl, rfl, hP, hK, hG⟩ := hv
  have hx := B.exec
  have hb := B.bytes
  have hr := B.returns
  have hts := atoms_spec (ws := wz_X14_areImages) B.pre
  have hg : ∀ w ∈ lw_good, w.before _ s = true := fun w h => hts w (List.mem_cons_of_mem _ h)
  have hown : s.vm.findClass RX14 = some m.cls := findClass_of_methodNamed B.named
  have hlocks := B.notSynchronized
  have hA : ∀ q : Nat, s.heap.size ≤ q → zN s.heap.size q := fun _ h => h
  have hS : va_S (zN s.heap.size) s.heap s.heap [] := va_S.rf
  have hl := lv_entry ([.ref h0, .int p0, .int p1]) (n := 3) (Nat.le_of_ble_eq_true rfl)
  rw [lg_entry_eq]
  generalize (lg_sl ([.ref h0, .int p0, .int p1]) ++ List.replicate (3 - (lg_sl ([.ref h0, .int p0, .int p1])).length) Slot.unset).toArray = ls at hl ⊢
  have hl : lv_has ls 3 [(0, .ref h0), (1, .int p0), (2, .int p1)] := hl
  refine lv_iload_n hx hb dX14_areImages_0 rfl (lv_at hl 1 rfl) ?_
  refine lv_iconst (v := 0) hx hb dX14_areImages_1 (by decide) ?_
  refine lv_aload_n hx hb dX14_areImages_2 rfl (lv_at hl 0 rfl) ?_
  refine va_get (D := G) (ci := 18) (v := .ref l5) (C := RX14) (T := TX14) (N := 16) hx hb hg in_X14 hown hK hP 0 rfl rfl 5 (by decide) (hg _ q1192) (fun _ h9 => h9) rfl dX14_areImages_3 ?_
  have hPc := hP.sub (ws' := [(l5, .inr (3, [.int c5, .ref e5, .int 0]))]) [1] rfl
  have hKc := hK.sub (tys' := []) [] rfl
  refine va_calli (va_runV (As := []) (rest := [.int 0, .int p0]) ⟨hx, hb, hml, hown, hts⟩ (k_Jx4a65c_size_8abf5 l G z l5 c5 e5 0 s.heap.size ) (cwV 0 hts (lw_goodApp (lw_4 q1247 q161 q162 q4) q163) rfl rfl rfl (by decide +kernel) ⟨Nat.le_of_ble_eq_true rfl, Nat.le_of_ble_eq_true rfl⟩) ⟨PR.blind, va_recv hK hP (ci := 3) (q0 := 1) rfl rfl, PR.of hPc hKc hG hS hA [.ref l5]⟩ rfl rfl hl.1 rfl (lv_room (Nat.le_of_ble_eq_true rfl)) dX14_areImages_6 ⟨Nat.le_of_ble_eq_true rfl, Nat.le_of_ble_eq_true rfl⟩) hS (fun q h9 h => zN.not h9 h) (fun q h => hA q (Nat.le_trans hS.1 h)) (fun r_2 u t_4 H_1 locs ht hvm hw_3 hB hz1 hk1 hS => ?_)
  have hP := hP.grown hk1
  refine W.widen (k := 0) (n := 0) (Nat.le_of_ble_eq_true rfl) (Nat.le_of_ble_eq_true rfl) ?_
  obtain rfl : 0 = r_2 := hw_3.symm
  refine lv_iconst (v := 1) hx hb dX14_areImages_9 (by decide) ?_
  refine lv_isub hx hb dX14_areImages_10 ?_
  refine lv_topi (fun f_5 ef_5 => ?_)
  obtain rfl : f_5 = -1 := ef_5.trans (by decide)
  have hPc := hP.sub (ws' := []) [] rfl
  have hKc := hK.sub (tys' := []) [] rfl
  refine va_calli (va_runS (As := [.int p0, .int 0, .int (-1)]) (rest := []) ⟨hx, hb, hml, hown, hts⟩ (k_X14_in_e l G z p0 H_1.size ) (va_cwS 3 hts (lw_goodApp (lw_3 q1244 q1245 q7) q1246) rfl rfl rfl (by decide +kernel) ⟨Nat.le_of_ble_eq_true rfl, Nat.le_of_ble_eq_true rfl⟩) ⟨PR.blind, PR.of hPc hKc hG hS hA [.int p0, .int 0, .int (-1)]⟩ rfl rfl hl.1 rfl (lv_room (Nat.le_of_ble_eq_true rfl)) dX14_areImages_11 ⟨Nat.le_of_ble_eq_true rfl, Nat.le_of_ble_eq_true rfl⟩) hS (fun q h9 h => zN.not h9 h) (fun q h => hA q (Nat.le_trans hS.1 h)) (fun r_7 u t_9 H_6 locs ht hvm hw_8 hB hz1 hk1 hS => ?_)
  have hP := hP.grown hk1
  refine W.widen (k := 0) (n := 0) (Nat.le_of_ble_eq_true rfl) (Nat.le_of_ble_eq_true rfl) ?_
  obtain rfl : 0 = r_7 := hw_8.symm
  refine lv_if_eq (tgt := 38) hx hb dX14_areImages_14 (by decide) (fun c_10 => ?_) (fun c_10 => absurd rfl c_10)
  refine lv_iconst (v := 0) hx hb dX14_areImages_38 (by decide) ?_
  refine W.widen (k := 0) (n := 0) (Nat.le_of_ble_eq_true rfl) (Nat.le_of_ble_eq_true rfl) ?_
  exact W.zret (v := 0) hx hb hr rfl (fun t ht hW => ⟨⟨0, (), rfl, rfl, trivial⟩, hS.F ht⟩) hS.2.2 dX14_areImages_39

abbrev wz_X14_copy : List Cond := .code yX14_copy cX14_copy 5 (Option.some Jvm.ClassFile.FieldType.int) :: lw_good
set_option maxHeartbeats 4000000 in
set_option maxRecDepth 100000 in
/-- copy (reference): there is none of it yet -/
theorem k_X14_copy (l : Launch) (G : va_G) (z : Nat) (h0 : Nat) (th : Int32) (l1 : Nat) (l2 : Nat) (l3 : Nat) (l4 : Nat) (l5 : Nat) (l6 : Nat) (tol : Int32) (ag : Int32) (m1 : Nat) (m2 : Nat) (m3 : Nat) (m4 : Nat) (m5 : Nat) (m6 : Nat) (c1 : Int32) (e1 : Nat) (p0 : Int32) (p1 : Int32) (sz : Nat)  : Met l yX14_copy wz_X14_copy ({ frames := 3, cells := 0, slots := 0, locals := 64 }) (va_Pc [.ref h0, .int p0, .int p1] (PW G z [(h0, .inr (18, [.int th, .ref l1, .ref l2, .ref l3, .ref l4, .ref l5, .ref l6, .int 0, .int tol, .int ag, .ref m1, .ref m2, .ref m3, .ref m4, .ref m5, .ref m6])), (l1, .inr (3, [.int c1, .ref e1, .int 0]))] [] sz)) (va_Qi (fun (r : Int32) (_ : Unit) => True) (fun (_ : Unit) (t : State) => QW G [(h0, .inr (18, [.int 1, .ref l1, .ref l2, .ref l3, .ref l4, .ref l5, .ref l6, .int 0, .int tol, .int ag, .ref m1, .ref m2, .ref m3, .ref m4, .ref m5, .ref m6]))] [] (va_A [(h0, .inr (18, [.int th, .ref l1, .ref l2, .ref l3, .ref l4, .ref l5, .ref l6, .int 0, .int tol, .int ag, .ref m1, .ref m2, .ref m3, .ref m4, .ref m5, .ref m6])), (l1, .inr (3, [.int c1, .ref e1, .int 0]))] sz) t) (va_A [(h0, .inr (18, [.int th, .ref l1, .ref l2, .ref l3, .ref l4, .ref l5, .ref l6, .int 0, .int tol, .int ag, .ref m1, .ref m2, .ref m3, .ref m4, .ref m5, .ref m6])), (l1, .inr (3, [.int c1, .ref e1, .int 0]))] sz)) 0 0 (va_A [(h0, .inr (18, [.int th, .ref l1, .ref l2, .ref l3, .ref l4, .ref l5, .ref l6, .int 0, .int tol, .int ag, .ref m1, .ref m2, .ref m3, .ref m4, .ref m5, .ref m6])), (l1, .inr (3, [.int c1, .ref e1, .int 0]))] sz) := by
  refine Met.ofW (cc := cX14_copy) (maxL := 5) (ret := (Option.some Jvm.ClassFile.FieldType.int)) (by decide) rfl ?_
  intro p e s m args below meth c s₁ B hml hv
  obtain ⟨rfl, rfl, hP, hK, hD0, hG⟩ := hv
  have hx := B.exec
  have hb := B.bytes
  have hr := B.returns
  have hts := atoms_spec (ws := wz_X14_copy) B.pre
  have hg : ∀ w ∈ lw_good, w.before _ s = true := fun w h => hts w (List.mem_cons_of_mem _ h)
  have hown : s.vm.findClass RX14 = some m.cls := findClass_of_methodNamed B.named
  have hlocks := B.notSynchronized
  have hD := hD0.self (sz := s.heap.size)
  generalize hAe : va_A [(h0, .inr (18, [.int th, .ref l1, .ref l2, .ref l3, .ref l4, .ref l5, .ref l6, .int 0, .int tol, .int ag, .ref m1, .ref m2, .ref m3, .ref m4, .ref m5, .ref m6])), (l1, .inr (3, [.int c1, .ref e1, .int 0]))] s.heap.size = A at hD hG ⊢
  have hA : ∀ q : Nat, s.heap.size ≤ q → A q := fun q h => by rw [← hAe]; exact Or.inr h
  have hS : va_S A s.heap s.heap [] := va_S.rf
  have hl := lv_entry ([.ref h0, .int p0, .int p1]) (n := 5) (Nat.le_of_ble_eq_true rfl)
  rw [lg_entry_eq]
  generalize (lg_sl ([.ref h0, .int p0, .int p1]) ++ List.replicate (5 - (lg_sl ([.ref h0, .int p0, .int p1])).length) Slot.unset).toArray = ls at hl ⊢
  have hl : lv_has ls 5 [(0, .ref h0), (1, .int p0), (2, .int p1)] := hl
  refine lv_aload_n hx hb dX14_copy_0 rfl (lv_at hl 0 rfl) ?_
  refine lv_iload_n hx hb dX14_copy_1 rfl (lv_at hl 1 rfl) ?_
  have hPc := hP.sub (ws' := [(h0, .inr (18, [.int th, .ref l1, .ref l2, .ref l3, .ref l4, .ref l5, .ref l6, .int 0, .int tol, .int ag, .ref m1, .ref m2, .ref m3, .ref m4, .ref m5, .ref m6])), (l1, .inr (3, [.int c1, .ref e1, .int 0]))]) [0, 1] rfl
  have hKc := hK.sub (tys' := []) [] rfl
  have hDc := hD.sub (ws' := [(h0, .inr (18, [.int th, .ref l1, .ref l2, .ref l3, .ref l4, .ref l5, .ref l6, .int 0, .int tol, .int ag, .ref m1, .ref m2, .ref m3, .ref m4, .ref m5, .ref m6])), (l1, .inr (3, [.int c1, .ref e1, .int 0]))]) [0, 1] (by decide) rfl
  have hFc := va_free (wc := [(h0, .inr (18, [.int th, .ref l1, .ref l2, .ref l3, .ref l4, .ref l5, .ref l6, .int 0, .int tol, .int ag, .ref m1, .ref m2, .ref m3, .ref m4, .ref m5, .ref m6])), (l1, .inr (3, [.int c1, .ref e1, .int 0]))]) hD hS hA [0, 1] rfl
  refine va_calli (va_runV (As := [.int p0]) (rest := []) ⟨hx, hb, hml, hown, hts⟩ (k_X14_failsMould l G z h0 th l1 l2 l3 l4 l5 l6 tol ag m1 m2 m3 m4 m5 m6 c1 e1 p0 s.heap.size ) (cwV 1 hts (lw_goodApp (lw_4 q1301 q1303 qs24 q7) q1304) rfl rfl rfl (by decide +kernel) ⟨Nat.le_of_ble_eq_true rfl, Nat.le_of_ble_eq_true rfl⟩) ⟨PW.blind, va_recv hK hP (ci := 18) (q0 := 0) rfl rfl, PW.of hPc hKc hDc hG hS hFc [.ref h0, .int p0]⟩ rfl rfl hl.1 rfl (lv_room (Nat.le_of_ble_eq_true rfl)) dX14_copy_2 ⟨Nat.le_of_ble_eq_true rfl, Nat.le_of_ble_eq_true rfl⟩) hS (fun q _ h => hFc q h) hFc (fun r_2 u t_4 H_1 locs ht hvm hw_3 hB hz1 hk1 hS => ?_)
  obtain ⟨hP, hD, hK⟩ := QW.join (wr := []) (w1 := [(h0, .inr (18, [.int 1, .ref l1, .ref l2, .ref l3, .ref l4, .ref l5, .ref l6, .int 0, .int tol, .int ag, .ref m1, .ref m2, .ref m3, .ref m4, .ref m5, .ref m6])), (l1, .inr (3, [.int c1, .ref e1, .int 0]))]) hP hD hK [0, 1] [] rfl rfl (by decide) (by decide) hk1 hFc ht hvm hB
  have hP : va_P G vwCl ([(h0, .inr (18, [.int 1, .ref l1, .ref l2, .ref l3, .ref l4, .ref l5, .ref l6, .int 0, .int tol, .int ag, .ref m1, .ref m2, .ref m3, .ref m4, .ref m5, .ref m6])), (l1, .inr (3, [.int c1, .ref e1, .int 0]))]) H_1 := hP
  have hD : va_D A ([(h0, .inr (18, [.int 1, .ref l1, .ref l2, .ref l3, .ref l4, .ref l5, .ref l6, .int 0, .int tol, .int ag, .ref m1, .ref m2, .ref m3, .ref m4, .ref m5, .ref m6])), (l1, .inr (3, [.int c1, .ref e1, .int 0]))]) := hD
  have hK : va_K G vwCl [] s := hK
  refine W.widen (k := 0) (n := 0) (Nat.le_of_ble_eq_true rfl) (Nat.le_of_ble_eq_true rfl) ?_
  obtain rfl : 1 = r_2 := hw_3.symm
  refine lv_if_ne (tgt := 45) hx hb dX14_copy_5 (by decide) (fun c_5 => ?_) (fun c_5 => absurd c_5 (by decide))
  refine lv_iconst (v := 0) hx hb dX14_copy_45 (by decide) ?_
  refine W.widen (k := 0) (n := 0) (Nat.le_of_ble_eq_true rfl) (Nat.le_of_ble_eq_true rfl) ?_
  have hP9 := hP.sub (ws' := [(h0, .inr (18, [.int 1, .ref l1, .ref l2, .ref l3, .ref l4, .ref l5, .ref l6, .int 0, .int tol, .int ag, .ref m1, .ref m2, .ref m3, .ref m4, .ref m5, .ref m6]))]) [0] rfl
  have hD9 := hD.sub (ws' := [(h0, .inr (18, [.int 1, .ref l1, .ref l2, .ref l3, .ref l4, .ref l5, .ref l6, .int 0, .int tol, .int ag, .ref m1, .ref m2, .ref m3, .ref m4, .ref m5, .ref m6]))]) [0] (by decide) rfl
  have hK9 := hK.sub (tys' := []) [] rfl
  exact W.iret (v := 0) hx hb hr (fun t ht hW => ⟨⟨0, (), rfl, trivial, QW.of hP9 hK9 hD9 ht hW.alike⟩, hS.F ht⟩) hS.2.2 dX14_copy_46

abbrev wz_X14_twin : List Cond := .code yX14_twin cX14_twin 6 (Option.some Jvm.ClassFile.FieldType.boolean) :: lw_good
set_option maxHeartbeats 4000000 in
set_option maxRecDepth 100000 in
/-- twin (reference): there is none of it yet -/
theorem k_X14_twin (l : Launch) (G : va_G) (z : Nat) (h0 : Nat) (th : Int32) (l1 : Nat) (l2 : Nat) (l3 : Nat) (l4 : Nat) (l5 : Nat) (l6 : Nat) (tol : Int32) (ag : Int32) (m1 : Nat) (m2 : Nat) (m3 : Nat) (m4 : Nat) (m5 : Nat) (m6 : Nat) (c1 : Int32) (e1 : Nat) (p0 : Int32) (p1 : Int32) (sz : Nat)  : Met l yX14_twin wz_X14_twin ({ frames := 2, cells := 0, slots := 0, locals := 43 }) (va_Pc [.ref h0, .int p0, .int p1] (PW G z [(h0, .inr (18, [.int th, .ref l1, .ref l2, .ref l3, .ref l4, .ref l5, .ref l6, .int 0, .int tol, .int ag, .ref m1, .ref m2, .ref m3, .ref m4, .ref m5, .ref m6])), (l1, .inr (3, [.int c1, .ref e1, .int 0]))] [] sz)) (va_Qi (fun (r : Int32) (_ : Unit) => True) (fun (_ : Unit) (t : State) => QW G [(h0, .inr (18, [.int 1, .ref l1, .ref l2, .ref l3, .ref l4, .ref l5, .ref l6, .int 0, .int tol, .int ag, .ref m1, .ref m2, .ref m3, .ref m4, .ref m5, .ref m6]))] [] (va_A [(h0, .inr (18, [.int th, .ref l1, .ref l2, .ref l3, .ref l4, .ref l5, .ref l6, .int 0, .int tol, .int ag, .ref m1, .ref m2, .ref m3, .ref m4, .ref m5, .ref m6])), (l1, .inr (3, [.int c1, .ref e1, .int 0]))] sz) t) (va_A [(h0, .inr (18, [.int th, .ref l1, .ref l2, .ref l3, .ref l4, .ref l5, .ref l6, .int 0, .int tol, .int ag, .ref m1, .ref m2, .ref m3, .ref m4, .ref m5, .ref m6])), (l1, .inr (3, [.int c1, .ref e1, .int 0]))] sz)) 0 0 (va_A [(h0, .inr (18, [.int th, .ref l1, .ref l2, .ref l3, .ref l4, .ref l5, .ref l6, .int 0, .int tol, .int ag, .ref m1, .ref m2, .ref m3, .ref m4, .ref m5, .ref m6])), (l1, .inr (3, [.int c1, .ref e1, .int 0]))] sz) := by
  refine Met.ofW (cc := cX14_twin) (maxL := 6) (ret := (Option.some Jvm.ClassFile.FieldType.boolean)) (by decide) rfl ?_
  intro p e s m args below meth c s₁ B hml hv
  obtain ⟨rfl, rfl, hP, hK, hD0, hG⟩ := hv
  have hx := B.exec
  have hb := B.bytes
  have hr := B.returns
  have hts := atoms_spec (ws := wz_X14_twin) B.pre
  have hg : ∀ w ∈ lw_good, w.before _ s = true := fun w h => hts w (List.mem_cons_of_mem _ h)
  have hown : s.vm.findClass RX14 = some m.cls := findClass_of_methodNamed B.named
  have hlocks := B.notSynchronized
  have hD := hD0.self (sz := s.heap.size)
  generalize hAe : va_A [(h0, .inr (18, [.int th, .ref l1, .ref l2, .ref l3, .ref l4, .ref l5, .ref l6, .int 0, .int tol, .int ag, .ref m1, .ref m2, .ref m3, .ref m4, .ref m5, .ref m6])), (l1, .inr (3, [.int c1, .ref e1, .int 0]))] s.heap.size = A at hD hG ⊢
  have hA : ∀ q : Nat, s.heap.size ≤ q → A q := fun q h => by rw [← hAe]; exact Or.inr h
  have hS : va_S A s.heap s.heap [] := va_S.rf
  have hl := lv_entry ([.ref h0, .int p0, .int p1]) (n := 6) (Nat.le_of_ble_eq_true rfl)
  rw [lg_entry_eq]
  generalize (lg_sl ([.ref h0, .int p0, .int p1]) ++ List.replicate (6 - (lg_sl ([.ref h0, .int p0, .int p1])).length) Slot.unset).toArray = ls at hl ⊢
  have hl : lv_has ls 6 [(0, .ref h0), (1, .int p0), (2, .int p1)] := hl
  refine lv_aload_n hx hb dX14_twin_0 rfl (lv_at hl 0 rfl) ?_
  refine lv_aload_n hx hb dX14_twin_1 rfl (lv_at hl 0 rfl) ?_
  refine lv_iload_n hx hb dX14_twin_2 rfl (lv_at hl 1 rfl) ?_
  have hPc := hP.sub (ws' := [(h0, .inr (18, [.int th, .ref l1, .ref l2, .ref l3, .ref l4, .ref l5, .ref l6, .int 0, .int tol, .int ag, .ref m1, .ref m2, .ref m3, .ref m4, .ref m5, .ref m6])), (l1, .inr (3, [.int c1, .ref e1, .int 0]))]) [0, 1] rfl
  have hKc := hK.sub (tys' := []) [] rfl
  refine va_calli (va_runV (As := [.int p0]) (rest := [.ref h0]) ⟨hx, hb, hml, hown, hts⟩ (k_X14_isMould l G z h0 th l1 l2 l3 l4 l5 l6 tol ag m1 m2 m3 m4 m5 m6 c1 e1 p0 s.heap.size ) (cwV 1 hts (lw_goodApp (lw_4 q1305 q1307 qs25 q7) q1308) rfl rfl rfl (by decide +kernel) ⟨Nat.le_of_ble_eq_true rfl, Nat.le_of_ble_eq_true rfl⟩) ⟨PR.blind, va_recv hK hP (ci := 18) (q0 := 0) rfl rfl, PR.of hPc hKc hG hS hA [.ref h0, .int p0]⟩ rfl rfl hl.1 rfl (lv_room (Nat.le_of_ble_eq_true rfl)) dX14_twin_3 ⟨Nat.le_of_ble_eq_true rfl, Nat.le_of_ble_eq_true rfl⟩) hS (fun q h9 h => zN.not h9 h) (fun q h => hA q (Nat.le_trans hS.1 h)) (fun r_2 u t_4 H_1 locs ht hvm hw_3 hB hz1 hk1 hS => ?_)
  have hP := hP.grown hk1
  refine W.widen (k := 0) (n := 0) (Nat.le_of_ble_eq_true rfl) (Nat.le_of_ble_eq_true rfl) ?_
  obtain rfl : 0 = r_2 := hw_3.symm
  refine lv_if_eq (tgt := 21) hx hb dX14_twin_6 (by decide) (fun c_5 => ?_) (fun c_5 => absurd rfl c_5)
  refine lv_iconst (v := 1) hx hb dX14_twin_21 (by decide) ?_
  have hPc := hP.sub (ws' := [(h0, .inr (18, [.int th, .ref l1, .ref l2, .ref l3, .ref l4, .ref l5, .ref l6, .int 0, .int tol, .int ag, .ref m1, .ref m2, .ref m3, .ref m4, .ref m5, .ref m6]))]) [0] rfl
  have hKc := hK.sub (tys' := []) [] rfl
  have hDc := hD.sub (ws' := [(h0, .inr (18, [.int th, .ref l1, .ref l2, .ref l3, .ref l4, .ref l5, .ref l6, .int 0, .int tol, .int ag, .ref m1, .ref m2, .ref m3, .ref m4, .ref m5, .ref m6]))]) [0] (by decide) rfl
  have hFc := va_free (wc := [(h0, .inr (18, [.int th, .ref l1, .ref l2, .ref l3, .ref l4, .ref l5, .ref l6, .int 0, .int tol, .int ag, .ref m1, .ref m2, .ref m3, .ref m4, .ref m5, .ref m6]))]) hD hS hA [0] rfl
  refine va_calli (va_runV (As := [.int 1]) (rest := []) ⟨hx, hb, hml, hown, hts⟩ (k_X14_fails_1 l G z h0 th l1 l2 l3 l4 l5 l6 tol ag m1 m2 m3 m4 m5 m6 1 H_1.size (by decide)) (cwV 1 hts (lw_goodApp (lw_4 q1248 q1250 qs23 q7) q1251) rfl rfl rfl (by decide +kernel) ⟨Nat.le_of_ble_eq_true rfl, Nat.le_of_ble_eq_true rfl⟩) ⟨PW.blind, va_recv hK hP (ci := 18) (q0 := 0) rfl rfl, PW.of hPc hKc hDc hG hS hFc [.ref h0, .int 1]⟩ rfl rfl hl.1 rfl (lv_room (Nat.le_of_ble_eq_true rfl)) dX14_twin_22 ⟨Nat.le_of_ble_eq_true rfl, Nat.le_of_ble_eq_true rfl⟩) hS (fun q _ h => hFc q h) hFc (fun r_7 u t_9 H_6 locs ht hvm hw_8 hB hz1 hk1 hS => ?_)
  obtain ⟨hP, hD, hK⟩ := QW.join (wr := [(l1, .inr (3, [.int c1, .ref e1, .int 0]))]) (w1 := [(h0, .inr (18, [.int 1, .ref l1, .ref l2, .ref l3, .ref l4, .ref l5, .ref l6, .int 0, .int tol, .int ag, .ref m1, .ref m2, .ref m3, .ref m4, .ref m5, .ref m6]))]) hP hD hK [0] [1] rfl rfl (by decide) (by decide) hk1 hFc ht hvm hB
  have hP : va_P G vwCl ([(l1, .inr (3, [.int c1, .ref e1, .int 0])), (h0, .inr (18, [.int 1, .ref l1, .ref l2, .ref l3, .ref l4, .ref l5, .ref l6, .int 0, .int tol, .int ag, .ref m1, .ref m2, .ref m3, .ref m4, .ref m5, .ref m6]))]) H_6 := hP
  have hD : va_D A ([(l1, .inr (3, [.int c1, .ref e1, .int 0])), (h0, .inr (18, [.int 1, .ref l1, .ref l2, .ref l3, .ref l4, .ref l5, .ref l6, .int 0, .int tol, .int ag, .ref m1, .ref m2, .ref m3, .ref m4, .ref m5, .ref m6]))]) := hD
  have hK : va_K G vwCl [] s := hK
  refine W.widen (k := 0) (n := 0) (Nat.le_of_ble_eq_true rfl) (Nat.le_of_ble_eq_true rfl) ?_
  obtain rfl : 1 = r_7 := hw_8.symm
  refine lv_if_ne (tgt := 45) hx hb dX14_twin_25 (by decide) (fun c_10 => ?_) (fun c_10 => absurd c_10 (by decide))
  refine lv_iconst (v := 0) hx hb dX14_twin_45 (by decide) ?_
  refine W.widen (k := 0) (n := 0) (Nat.le_of_ble_eq_true rfl) (Nat.le_of_ble_eq_true rfl) ?_
  have hP9 := hP.sub (ws' := [(h0, .inr (18, [.int 1, .ref l1, .ref l2, .ref l3, .ref l4, .ref l5, .ref l6, .int 0, .int tol, .int ag, .ref m1, .ref m2, .ref m3, .ref m4, .ref m5, .ref m6]))]) [1] rfl
  have hD9 := hD.sub (ws' := [(h0, .inr (18, [.int 1, .ref l1, .ref l2, .ref l3, .ref l4, .ref l5, .ref l6, .int 0, .int tol, .int ag, .ref m1, .ref m2, .ref m3, .ref m4, .ref m5, .ref m6]))]) [1] (by decide) rfl
  have hK9 := hK.sub (tys' := []) [] rfl
  exact W.zret (v := 0) hx hb hr rfl (fun t ht hW => ⟨⟨0, (), rfl, trivial, QW.of hP9 hK9 hD9 ht hW.alike⟩, hS.F ht⟩) hS.2.2 dX14_twin_46

abbrev wz_X14_damage : List Cond := .code yX14_damage cX14_damage 8 (Option.some Jvm.ClassFile.FieldType.int) :: lw_good
set_option maxHeartbeats 4000000 in
set_option maxRecDepth 100000 in
/-- damage (reference): there is none of it yet -/
theorem k_X14_damage (l : Launch) (G : va_G) (z : Nat) (h0 : Nat) (th : Int32) (l1 : Nat) (l2 : Nat) (l3 : Nat) (l4 : Nat) (l5 : Nat) (l6 : Nat) (tol : Int32) (ag : Int32) (m1 : Nat) (m2 : Nat) (m3 : Nat) (m4 : Nat) (m5 : Nat) (m6 : Nat) (c1 : Int32) (e1 : Nat) (p0 : Int32) (p1 : Int32) (p2 : Int32) (p3 : Int32) (sz : Nat)  : Met l yX14_damage wz_X14_damage ({ frames := 3, cells := 0, slots := 0, locals := 64 }) (va_Pc [.ref h0, .int p0, .int p1, .int p2, .int p3] (PW G z [(h0, .inr (18, [.int th, .ref l1, .ref l2, .ref l3, .ref l4, .ref l5, .ref l6, .int 0, .int tol, .int ag, .ref m1, .ref m2, .ref m3, .ref m4, .ref m5, .ref m6])), (l1, .inr (3, [.int c1, .ref e1, .int 0]))] [] sz)) (va_Qi (fun (r : Int32) (_ : Unit) => True) (fun (_ : Unit) (t : State) => QW G [(h0, .inr (18, [.int 1, .ref l1, .ref l2, .ref l3, .ref l4, .ref l5, .ref l6, .int 0, .int tol, .int ag, .ref m1, .ref m2, .ref m3, .ref m4, .ref m5, .ref m6]))] [] (va_A [(h0, .inr (18, [.int th, .ref l1, .ref l2, .ref l3, .ref l4, .ref l5, .ref l6, .int 0, .int tol, .int ag, .ref m1, .ref m2, .ref m3, .ref m4, .ref m5, .ref m6])), (l1, .inr (3, [.int c1, .ref e1, .int 0]))] sz) t) (va_A [(h0, .inr (18, [.int th, .ref l1, .ref l2, .ref l3, .ref l4, .ref l5, .ref l6, .int 0, .int tol, .int ag, .ref m1, .ref m2, .ref m3, .ref m4, .ref m5, .ref m6])), (l1, .inr (3, [.int c1, .ref e1, .int 0]))] sz)) 0 0 (va_A [(h0, .inr (18, [.int th, .ref l1, .ref l2, .ref l3, .ref l4, .ref l5, .ref l6, .int 0, .int tol, .int ag, .ref m1, .ref m2, .ref m3, .ref m4, .ref m5, .ref m6])), (l1, .inr (3, [.int c1, .ref e1, .int 0]))] sz) := by
  refine Met.ofW (cc := cX14_damage) (maxL := 8) (ret := (Option.some Jvm.ClassFile.FieldType.int)) (by decide) rfl ?_
  intro p e s m args below meth c s₁ B hml hv
  obtain ⟨rfl, rfl, hP, hK, hD0, hG⟩ := hv
  have hx := B.exec
  have hb := B.bytes
  have hr := B.returns
  have hts := atoms_spec (ws := wz_X14_damage) B.pre
  have hg : ∀ w ∈ lw_good, w.before _ s = true := fun w h => hts w (List.mem_cons_of_mem _ h)
  have hown : s.vm.findClass RX14 = some m.cls := findClass_of_methodNamed B.named
  have hlocks := B.notSynchronized
  have hD := hD0.self (sz := s.heap.size)
  generalize hAe : va_A [(h0, .inr (18, [.int th, .ref l1, .ref l2, .ref l3, .ref l4, .ref l5, .ref l6, .int 0, .int tol, .int ag, .ref m1, .ref m2, .ref m3, .ref m4, .ref m5, .ref m6])), (l1, .inr (3, [.int c1, .ref e1, .int 0]))] s.heap.size = A at hD hG ⊢
  have hA : ∀ q : Nat, s.heap.size ≤ q → A q := fun q h => by rw [← hAe]; exact Or.inr h
  have hS : va_S A s.heap s.heap [] := va_S.rf
  have hl := lv_entry ([.ref h0, .int p0, .int p1, .int p2, .int p3]) (n := 8) (Nat.le_of_ble_eq_true rfl)
  rw [lg_entry_eq]
  generalize (lg_sl ([.ref h0, .int p0, .int p1, .int p2, .int p3]) ++ List.replicate (8 - (lg_sl ([.ref h0, .int p0, .int p1, .int p2, .int p3])).length) Slot.unset).toArray = ls at hl ⊢
  have hl : lv_has ls 8 [(0, .ref h0), (1, .int p0), (2, .int p1), (3, .int p2), (4, .int p3)] := hl
  refine lv_aload_n hx hb dX14_damage_0 rfl (lv_at hl 0 rfl) ?_
  refine lv_iload_n hx hb dX14_damage_1 rfl (lv_at hl 1 rfl) ?_
  have hPc := hP.sub (ws' := [(h0, .inr (18, [.int th, .ref l1, .ref l2, .ref l3, .ref l4, .ref l5, .ref l6, .int 0, .int tol, .int ag, .ref m1, .ref m2, .ref m3, .ref m4, .ref m5, .ref m6])), (l1, .inr (3, [.int c1, .ref e1, .int 0]))]) [0, 1] rfl
  have hKc := hK.sub (tys' := []) [] rfl
  have hDc := hD.sub (ws' := [(h0, .inr (18, [.int th, .ref l1, .ref l2, .ref l3, .ref l4, .ref l5, .ref l6, .int 0, .int tol, .int ag, .ref m1, .ref m2, .ref m3, .ref m4, .ref m5, .ref m6])), (l1, .inr (3, [.int c1, .ref e1, .int 0]))]) [0, 1] (by decide) rfl
  have hFc := va_free (wc := [(h0, .inr (18, [.int th, .ref l1, .ref l2, .ref l3, .ref l4, .ref l5, .ref l6, .int 0, .int tol, .int ag, .ref m1, .ref m2, .ref m3, .ref m4, .ref m5, .ref m6])), (l1, .inr (3, [.int c1, .ref e1, .int 0]))]) hD hS hA [0, 1] rfl
  refine va_calli (va_runV (As := [.int p0]) (rest := []) ⟨hx, hb, hml, hown, hts⟩ (k_X14_failsMould l G z h0 th l1 l2 l3 l4 l5 l6 tol ag m1 m2 m3 m4 m5 m6 c1 e1 p0 s.heap.size ) (cwV 1 hts (lw_goodApp (lw_4 q1301 q1303 qs24 q7) q1304) rfl rfl rfl (by decide +kernel) ⟨Nat.le_of_ble_eq_true rfl, Nat.le_of_ble_eq_true rfl⟩) ⟨PW.blind, va_recv hK hP (ci := 18) (q0 := 0) rfl rfl, PW.of hPc hKc hDc hG hS hFc [.ref h0, .int p0]⟩ rfl rfl hl.1 rfl (lv_room (Nat.le_of_ble_eq_true rfl)) dX14_damage_2 ⟨Nat.le_of_ble_eq_true rfl, Nat.le_of_ble_eq_true rfl⟩) hS (fun q _ h => hFc q h) hFc (fun r_2 u t_4 H_1 locs ht hvm hw_3 hB hz1 hk1 hS => ?_)
  obtain ⟨hP, hD, hK⟩ := QW.join (wr := []) (w1 := [(h0, .inr (18, [.int 1, .ref l1, .ref l2, .ref l3, .ref l4, .ref l5, .ref l6, .int 0, .int tol, .int ag, .ref m1, .ref m2, .ref m3, .ref m4, .ref m5, .ref m6])), (l1, .inr (3, [.int c1, .ref e1, .int 0]))]) hP hD hK [0, 1] [] rfl rfl (by decide) (by decide) hk1 hFc ht hvm hB
  have hP : va_P G vwCl ([(h0, .inr (18, [.int 1, .ref l1, .ref l2, .ref l3, .ref l4, .ref l5, .ref l6, .int 0, .int tol, .int ag, .ref m1, .ref m2, .ref m3, .ref m4, .ref m5, .ref m6])), (l1, .inr (3, [.int c1, .ref e1, .int 0]))]) H_1 := hP
  have hD : va_D A ([(h0, .inr (18, [.int 1, .ref l1, .ref l2, .ref l3, .ref l4, .ref l5, .ref l6, .int 0, .int tol, .int ag, .ref m1, .ref m2, .ref m3, .ref m4, .ref m5, .ref m6])), (l1, .inr (3, [.int c1, .ref e1, .int 0]))]) := hD
  have hK : va_K G vwCl [] s := hK
  refine W.widen (k := 0) (n := 0) (Nat.le_of_ble_eq_true rfl) (Nat.le_of_ble_eq_true rfl) ?_
  obtain rfl : 1 = r_2 := hw_3.symm
  refine lv_if_ne (tgt := 38) hx hb dX14_damage_5 (by decide) (fun c_5 => ?_) (fun c_5 => absurd c_5 (by decide))
  refine lv_iconst (v := 0) hx hb dX14_damage_38 (by decide) ?_
  refine W.widen (k := 0) (n := 0) (Nat.le_of_ble_eq_true rfl) (Nat.le_of_ble_eq_true rfl) ?_
  have hP9 := hP.sub (ws' := [(h0, .inr (18, [.int 1, .ref l1, .ref l2, .ref l3, .ref l4, .ref l5, .ref l6, .int 0, .int tol, .int ag, .ref m1, .ref m2, .ref m3, .ref m4, .ref m5, .ref m6]))]) [0] rfl
  have hD9 := hD.sub (ws' := [(h0, .inr (18, [.int 1, .ref l1, .ref l2, .ref l3, .ref l4, .ref l5, .ref l6, .int 0, .int tol, .int ag, .ref m1, .ref m2, .ref m3, .ref m4, .ref m5, .ref m6]))]) [0] (by decide) rfl
  have hK9 := hK.sub (tys' := []) [] rfl
  exact W.iret (v := 0) hx hb hr (fun t ht hW => ⟨⟨0, (), rfl, trivial, QW.of hP9 hK9 hD9 ht hW.alike⟩, hS.F ht⟩) hS.2.2 dX14_damage_39

abbrev wz_X14_retire : List Cond := .code yX14_retire cX14_retire 4 (Option.some Jvm.ClassFile.FieldType.int) :: lw_good
set_option maxHeartbeats 4000000 in
set_option maxRecDepth 100000 in
/-- retire (reference): there is none of it yet -/
theorem k_X14_retire (l : Launch) (G : va_G) (z : Nat) (h0 : Nat) (th : Int32) (l1 : Nat) (l2 : Nat) (l3 : Nat) (l4 : Nat) (l5 : Nat) (l6 : Nat) (tol : Int32) (ag : Int32) (m1 : Nat) (m2 : Nat) (m3 : Nat) (m4 : Nat) (m5 : Nat) (m6 : Nat) (c1 : Int32) (e1 : Nat) (p0 : Int32) (p1 : Int32) (sz : Nat)  : Met l yX14_retire wz_X14_retire ({ frames := 3, cells := 0, slots := 0, locals := 64 }) (va_Pc [.ref h0, .int p0, .int p1] (PW G z [(h0, .inr (18, [.int th, .ref l1, .ref l2, .ref l3, .ref l4, .ref l5, .ref l6, .int 0, .int tol, .int ag, .ref m1, .ref m2, .ref m3, .ref m4, .ref m5, .ref m6])), (l1, .inr (3, [.int c1, .ref e1, .int 0]))] [] sz)) (va_Qi (fun (r : Int32) (_ : Unit) => True) (fun (_ : Unit) (t : State) => QW G [(h0, .inr (18, [.int 1, .ref l1, .ref l2, .ref l3, .ref l4, .ref l5, .ref l6, .int 0, .int tol, .int ag, .ref m1, .ref m2, .ref m3, .ref m4, .ref m5, .ref m6]))] [] (va_A [(h0, .inr (18, [.int th, .ref l1, .ref l2, .ref l3, .ref l4, .ref l5, .ref l6, .int 0, .int tol, .int ag, .ref m1, .ref m2, .ref m3, .ref m4, .ref m5, .ref m6])), (l1, .inr (3, [.int c1, .ref e1, .int 0]))] sz) t) (va_A [(h0, .inr (18, [.int th, .ref l1, .ref l2, .ref l3, .ref l4, .ref l5, .ref l6, .int 0, .int tol, .int ag, .ref m1, .ref m2, .ref m3, .ref m4, .ref m5, .ref m6])), (l1, .inr (3, [.int c1, .ref e1, .int 0]))] sz)) 0 0 (va_A [(h0, .inr (18, [.int th, .ref l1, .ref l2, .ref l3, .ref l4, .ref l5, .ref l6, .int 0, .int tol, .int ag, .ref m1, .ref m2, .ref m3, .ref m4, .ref m5, .ref m6])), (l1, .inr (3, [.int c1, .ref e1, .int 0]))] sz) := by
  refine Met.ofW (cc := cX14_retire) (maxL := 4) (ret := (Option.some Jvm.ClassFile.FieldType.int)) (by decide) rfl ?_
  intro p e s m args below meth c s₁ B hml hv
  obtain ⟨rfl, rfl, hP, hK, hD0, hG⟩ := hv
  have hx := B.exec
  have hb := B.bytes
  have hr := B.returns
  have hts := atoms_spec (ws := wz_X14_retire) B.pre
  have hg : ∀ w ∈ lw_good, w.before _ s = true := fun w h => hts w (List.mem_cons_of_mem _ h)
  have hown : s.vm.findClass RX14 = some m.cls := findClass_of_methodNamed B.named
  have hlocks := B.notSynchronized
  have hD := hD0.self (sz := s.heap.size)
  generalize hAe : va_A [(h0, .inr (18, [.int th, .ref l1, .ref l2, .ref l3, .ref l4, .ref l5, .ref l6, .int 0, .int tol, .int ag, .ref m1, .ref m2, .ref m3, .ref m4, .ref m5, .ref m6])), (l1, .inr (3, [.int c1, .ref e1, .int 0]))] s.heap.size = A at hD hG ⊢
  have hA : ∀ q : Nat, s.heap.size ≤ q → A q := fun q h => by rw [← hAe]; exact Or.inr h
  have hS : va_S A s.heap s.heap [] := va_S.rf
  have hl := lv_entry ([.ref h0, .int p0, .int p1]) (n := 4) (Nat.le_of_ble_eq_true rfl)
  rw [lg_entry_eq]
  generalize (lg_sl ([.ref h0, .int p0, .int p1]) ++ List.replicate (4 - (lg_sl ([.ref h0, .int p0, .int p1])).length) Slot.unset).toArray = ls at hl ⊢
  have hl : lv_has ls 4 [(0, .ref h0), (1, .int p0), (2, .int p1)] := hl
  refine lv_aload_n hx hb dX14_retire_0 rfl (lv_at hl 0 rfl) ?_
  refine lv_iload_n hx hb dX14_retire_1 rfl (lv_at hl 1 rfl) ?_
  have hPc := hP.sub (ws' := [(h0, .inr (18, [.int th, .ref l1, .ref l2, .ref l3, .ref l4, .ref l5, .ref l6, .int 0, .int tol, .int ag, .ref m1, .ref m2, .ref m3, .ref m4, .ref m5, .ref m6])), (l1, .inr (3, [.int c1, .ref e1, .int 0]))]) [0, 1] rfl
  have hKc := hK.sub (tys' := []) [] rfl
  have hDc := hD.sub (ws' := [(h0, .inr (18, [.int th, .ref l1, .ref l2, .ref l3, .ref l4, .ref l5, .ref l6, .int 0, .int tol, .int ag, .ref m1, .ref m2, .ref m3, .ref m4, .ref m5, .ref m6])), (l1, .inr (3, [.int c1, .ref e1, .int 0]))]) [0, 1] (by decide) rfl
  have hFc := va_free (wc := [(h0, .inr (18, [.int th, .ref l1, .ref l2, .ref l3, .ref l4, .ref l5, .ref l6, .int 0, .int tol, .int ag, .ref m1, .ref m2, .ref m3, .ref m4, .ref m5, .ref m6])), (l1, .inr (3, [.int c1, .ref e1, .int 0]))]) hD hS hA [0, 1] rfl
  refine va_calli (va_runV (As := [.int p0]) (rest := []) ⟨hx, hb, hml, hown, hts⟩ (k_X14_failsMould l G z h0 th l1 l2 l3 l4 l5 l6 tol ag m1 m2 m3 m4 m5 m6 c1 e1 p0 s.heap.size ) (cwV 1 hts (lw_goodApp (lw_4 q1301 q1303 qs24 q7) q1304) rfl rfl rfl (by decide +kernel) ⟨Nat.le_of_ble_eq_true rfl, Nat.le_of_ble_eq_true rfl⟩) ⟨PW.blind, va_recv hK hP (ci := 18) (q0 := 0) rfl rfl, PW.of hPc hKc hDc hG hS hFc [.ref h0, .int p0]⟩ rfl rfl hl.1 rfl (lv_room (Nat.le_of_ble_eq_true rfl)) dX14_retire_2 ⟨Nat.le_of_ble_eq_true rfl, Nat.le_of_ble_eq_true rfl⟩) hS (fun q _ h => hFc q h) hFc (fun r_2 u t_4 H_1 locs ht hvm hw_3 hB hz1 hk1 hS => ?_)
  obtain ⟨hP, hD, hK⟩ := QW.join (wr := []) (w1 := [(h0, .inr (18, [.int 1, .ref l1, .ref l2, .ref l3, .ref l4, .ref l5, .ref l6, .int 0, .int tol, .int ag, .ref m1, .ref m2, .ref m3, .ref m4, .ref m5, .ref m6])), (l1, .inr (3, [.int c1, .ref e1, .int 0]))]) hP hD hK [0, 1] [] rfl rfl (by decide) (by decide) hk1 hFc ht hvm hB
  have hP : va_P G vwCl ([(h0, .inr (18, [.int 1, .ref l1, .ref l2, .ref l3, .ref l4, .ref l5, .ref l6, .int 0, .int tol, .int ag, .ref m1, .ref m2, .ref m3, .ref m4, .ref m5, .ref m6])), (l1, .inr (3, [.int c1, .ref e1, .int 0]))]) H_1 := hP
  have hD : va_D A ([(h0, .inr (18, [.int 1, .ref l1, .ref l2, .ref l3, .ref l4, .ref l5, .ref l6, .int 0, .int tol, .int ag, .ref m1, .ref m2, .ref m3, .ref m4, .ref m5, .ref m6])), (l1, .inr (3, [.int c1, .ref e1, .int 0]))]) := hD
  have hK : va_K G vwCl [] s := hK
  refine W.widen (k := 0) (n := 0) (Nat.le_of_ble_eq_true rfl) (Nat.le_of_ble_eq_true rfl) ?_
  obtain rfl : 1 = r_2 := hw_3.symm
  refine lv_if_ne (tgt := 27) hx hb dX14_retire_5 (by decide) (fun c_5 => ?_) (fun c_5 => absurd c_5 (by decide))
  refine lv_iconst (v := 0) hx hb dX14_retire_27 (by decide) ?_
  refine W.widen (k := 0) (n := 0) (Nat.le_of_ble_eq_true rfl) (Nat.le_of_ble_eq_true rfl) ?_
  have hP9 := hP.sub (ws' := [(h0, .inr (18, [.int 1, .ref l1, .ref l2, .ref l3, .ref l4, .ref l5, .ref l6, .int 0, .int tol, .int ag, .ref m1, .ref m2, .ref m3, .ref m4, .ref m5, .ref m6]))]) [0] rfl
  have hD9 := hD.sub (ws' := [(h0, .inr (18, [.int 1, .ref l1, .ref l2, .ref l3, .ref l4, .ref l5, .ref l6, .int 0, .int tol, .int ag, .ref m1, .ref m2, .ref m3, .ref m4, .ref m5, .ref m6]))]) [0] (by decide) rfl
  have hK9 := hK.sub (tys' := []) [] rfl
  exact W.iret (v := 0) hx hb hr (fun t ht hW => ⟨⟨0, (), rfl, trivial, QW.of hP9 hK9 hD9 ht hW.alike⟩, hS.F ht⟩) hS.2.2 dX14_retire_28

abbrev wz_X14_sell : List Cond := .code yX14_sell cX14_sell 8 (Option.some Jvm.ClassFile.FieldType.int) :: lw_good
set_option maxHeartbeats 4000000 in
set_option maxRecDepth 100000 in
/-- sell (reference): there is none of it yet -/
theorem k_X14_sell (l : Launch) (G : va_G) (z : Nat) (h0 : Nat) (th : Int32) (l1 : Nat) (l2 : Nat) (l3 : Nat) (l4 : Nat) (l5 : Nat) (l6 : Nat) (tol : Int32) (ag : Int32) (m1 : Nat) (m2 : Nat) (m3 : Nat) (m4 : Nat) (m5 : Nat) (m6 : Nat) (c1 : Int32) (e1 : Nat) (p0 : Int32) (p1 : Int32) (p2 : Int32) (sz : Nat)  : Met l yX14_sell wz_X14_sell ({ frames := 3, cells := 0, slots := 0, locals := 64 }) (va_Pc [.ref h0, .int p0, .int p1, .int p2] (PW G z [(h0, .inr (18, [.int th, .ref l1, .ref l2, .ref l3, .ref l4, .ref l5, .ref l6, .int 0, .int tol, .int ag, .ref m1, .ref m2, .ref m3, .ref m4, .ref m5, .ref m6])), (l1, .inr (3, [.int c1, .ref e1, .int 0]))] [] sz)) (va_Qi (fun (r : Int32) (_ : Unit) => True) (fun (_ : Unit) (t : State) => QW G [(h0, .inr (18, [.int 1, .ref l1, .ref l2, .ref l3, .ref l4, .ref l5, .ref l6, .int 0, .int tol, .int ag, .ref m1, .ref m2, .ref m3, .ref m4, .ref m5, .ref m6]))] [] (va_A [(h0, .inr (18, [.int th, .ref l1, .ref l2, .ref l3, .ref l4, .ref l5, .ref l6, .int 0, .int tol, .int ag, .ref m1, .ref m2, .ref m3, .ref m4, .ref m5, .ref m6])), (l1, .inr (3, [.int c1, .ref e1, .int 0]))] sz) t) (va_A [(h0, .inr (18, [.int th, .ref l1, .ref l2, .ref l3, .ref l4, .ref l5, .ref l6, .int 0, .int tol, .int ag, .ref m1, .ref m2, .ref m3, .ref m4, .ref m5, .ref m6])), (l1, .inr (3, [.int c1, .ref e1, .int 0]))] sz)) 0 0 (va_A [(h0, .inr (18, [.int th, .ref l1, .ref l2, .ref l3, .ref l4, .ref l5, .ref l6, .int 0, .int tol, .int ag, .ref m1, .ref m2, .ref m3, .ref m4, .ref m5, .ref m6])), (l1, .inr (3, [.int c1, .ref e1, .int 0]))] sz) := by
  refine Met.ofW (cc := cX14_sell) (maxL := 8) (ret := (Option.some Jvm.ClassFile.FieldType.int)) (by decide) rfl ?_
  intro p e s m args below meth c s₁ B hml hv
  obtain ⟨rfl, rfl, hP, hK, hD0, hG⟩ := hv
  have hx := B.exec
  have hb := B.bytes
  have hr := B.returns
  have hts := atoms_spec (ws := wz_X14_sell) B.pre
  have hg : ∀ w ∈ lw_good, w.before _ s = true := fun w h => hts w (List.mem_cons_of_mem _ h)
  have hown : s.vm.findClass RX14 = some m.cls := findClass_of_methodNamed B.named
  have hlocks := B.notSynchronized
  have hD := hD0.self (sz := s.heap.size)
  generalize hAe : va_A [(h0, .inr (18, [.int th, .ref l1, .ref l2, .ref l3, .ref l4, .ref l5, .ref l6, .int 0, .int tol, .int ag, .ref m1, .ref m2, .ref m3, .ref m4, .ref m5, .ref m6])), (l1, .inr (3, [.int c1, .ref e1, .int 0]))] s.heap.size = A at hD hG ⊢
  have hA : ∀ q : Nat, s.heap.size ≤ q → A q := fun q h => by rw [← hAe]; exact Or.inr h
  have hS : va_S A s.heap s.heap [] := va_S.rf
  have hl := lv_entry ([.ref h0, .int p0, .int p1, .int p2]) (n := 8) (Nat.le_of_ble_eq_true rfl)
  rw [lg_entry_eq]
  generalize (lg_sl ([.ref h0, .int p0, .int p1, .int p2]) ++ List.replicate (8 - (lg_sl ([.ref h0, .int p0, .int p1, .int p2])).length) Slot.unset).toArray = ls at hl ⊢
  have hl : lv_has ls 8 [(0, .ref h0), (1, .int p0), (2, .int p1), (3, .int p2)] := hl
  refine lv_aload_n hx hb dX14_sell_0 rfl (lv_at hl 0 rfl) ?_
  refine lv_iload_n hx hb dX14_sell_1 rfl (lv_at hl 1 rfl) ?_
  have hPc := hP.sub (ws' := [(h0, .inr (18, [.int th, .ref l1, .ref l2, .ref l3, .ref l4, .ref l5, .ref l6, .int 0, .int tol, .int ag, .ref m1, .ref m2, .ref m3, .ref m4, .ref m5, .ref m6])), (l1, .inr (3, [.int c1, .ref e1, .int 0]))]) [0, 1] rfl
  have hKc := hK.sub (tys' := []) [] rfl
  have hDc := hD.sub (ws' := [(h0, .inr (18, [.int th, .ref l1, .ref l2, .ref l3, .ref l4, .ref l5, .ref l6, .int 0, .int tol, .int ag, .ref m1, .ref m2, .ref m3, .ref m4, .ref m5, .ref m6])), (l1, .inr (3, [.int c1, .ref e1, .int 0]))]) [0, 1] (by decide) rfl
  have hFc := va_free (wc := [(h0, .inr (18, [.int th, .ref l1, .ref l2, .ref l3, .ref l4, .ref l5, .ref l6, .int 0, .int tol, .int ag, .ref m1, .ref m2, .ref m3, .ref m4, .ref m5, .ref m6])), (l1, .inr (3, [.int c1, .ref e1, .int 0]))]) hD hS hA [0, 1] rfl
  refine va_calli (va_runV (As := [.int p0]) (rest := []) ⟨hx, hb, hml, hown, hts⟩ (k_X14_failsMould l G z h0 th l1 l2 l3 l4 l5 l6 tol ag m1 m2 m3 m4 m5 m6 c1 e1 p0 s.heap.size ) (cwV 1 hts (lw_goodApp (lw_4 q1301 q1303 qs24 q7) q1304) rfl rfl rfl (by decide +kernel) ⟨Nat.le_of_ble_eq_true rfl, Nat.le_of_ble_eq_true rfl⟩) ⟨PW.blind, va_recv hK hP (ci := 18) (q0 := 0) rfl rfl, PW.of hPc hKc hDc hG hS hFc [.ref h0, .int p0]⟩ rfl rfl hl.1 rfl (lv_room (Nat.le_of_ble_eq_true rfl)) dX14_sell_2 ⟨Nat.le_of_ble_eq_true rfl, Nat.le_of_ble_eq_true rfl⟩) hS (fun q _ h => hFc q h) hFc (fun r_2 u t_4 H_1 locs ht hvm hw_3 hB hz1 hk1 hS => ?_)
  obtain ⟨hP, hD, hK⟩ := QW.join (wr := []) (w1 := [(h0, .inr (18, [.int 1, .ref l1, .ref l2, .ref l3, .ref l4, .ref l5, .ref l6, .int 0, .int tol, .int ag, .ref m1, .ref m2, .ref m3, .ref m4, .ref m5, .ref m6])), (l1, .inr (3, [.int c1, .ref e1, .int 0]))]) hP hD hK [0, 1] [] rfl rfl (by decide) (by decide) hk1 hFc ht hvm hB
  have hP : va_P G vwCl ([(h0, .inr (18, [.int 1, .ref l1, .ref l2, .ref l3, .ref l4, .ref l5, .ref l6, .int 0, .int tol, .int ag, .ref m1, .ref m2, .ref m3, .ref m4, .ref m5, .ref m6])), (l1, .inr (3, [.int c1, .ref e1, .int 0]))]) H_1 := hP
  have hD : va_D A ([(h0, .inr (18, [.int 1, .ref l1, .ref l2, .ref l3, .ref l4, .ref l5, .ref l6, .int 0, .int tol, .int ag, .ref m1, .ref m2, .ref m3, .ref m4, .ref m5, .ref m6])), (l1, .inr (3, [.int c1, .ref e1, .int 0]))]) := hD
  have hK : va_K G vwCl [] s := hK
  refine W.widen (k := 0) (n := 0) (Nat.le_of_ble_eq_true rfl) (Nat.le_of_ble_eq_true rfl) ?_
  obtain rfl : 1 = r_2 := hw_3.symm
  refine lv_if_ne (tgt := 36) hx hb dX14_sell_5 (by decide) (fun c_5 => ?_) (fun c_5 => absurd c_5 (by decide))
  refine lv_iconst (v := 0) hx hb dX14_sell_36 (by decide) ?_
  refine W.widen (k := 0) (n := 0) (Nat.le_of_ble_eq_true rfl) (Nat.le_of_ble_eq_true rfl) ?_
  have hP9 := hP.sub (ws' := [(h0, .inr (18, [.int 1, .ref l1, .ref l2, .ref l3, .ref l4, .ref l5, .ref l6, .int 0, .int tol, .int ag, .ref m1, .ref m2, .ref m3, .ref m4, .ref m5, .ref m6]))]) [0] rfl
  have hD9 := hD.sub (ws' := [(h0, .inr (18, [.int 1, .ref l1, .ref l2, .ref l3, .ref l4, .ref l5, .ref l6, .int 0, .int tol, .int ag, .ref m1, .ref m2, .ref m3, .ref m4, .ref m5, .ref m6]))]) [0] (by decide) rfl
  have hK9 := hK.sub (tys' := []) [] rfl
  exact W.iret (v := 0) hx hb hr (fun t ht hW => ⟨⟨0, (), rfl, trivial, QW.of hP9 hK9 hD9 ht hW.alike⟩, hS.F ht⟩) hS.2.2 dX14_sell_37

abbrev wz_X14_owner : List Cond := .code yX14_owner cX14_owner 3 (Option.some Jvm.ClassFile.FieldType.int) :: lw_good
set_option maxHeartbeats 4000000 in
set_option maxRecDepth 100000 in
/-- owner (reference): there is none of it yet -/
theorem k_X14_owner (l : Launch) (G : va_G) (z : Nat) (h0 : Nat) (th : Int32) (l1 : Nat) (l2 : Nat) (l3 : Nat) (l4 : Nat) (l5 : Nat) (l6 : Nat) (tol : Int32) (ag : Int32) (m1 : Nat) (m2 : Nat) (m3 : Nat) (m4 : Nat) (m5 : Nat) (m6 : Nat) (c1 : Int32) (e1 : Nat) (p0 : Int32) (p1 : Int32) (sz : Nat)  : Met l yX14_owner wz_X14_owner ({ frames := 3, cells := 0, slots := 0, locals := 64 }) (va_Pc [.ref h0, .int p0, .int p1] (PW G z [(h0, .inr (18, [.int th, .ref l1, .ref l2, .ref l3, .ref l4, .ref l5, .ref l6, .int 0, .int tol, .int ag, .ref m1, .ref m2, .ref m3, .ref m4, .ref m5, .ref m6])), (l1, .inr (3, [.int c1, .ref e1, .int 0]))] [] sz)) (va_Qi (fun (r : Int32) (_ : Unit) => True) (fun (_ : Unit) (t : State) => QW G [(h0, .inr (18, [.int 1, .ref l1, .ref l2, .ref l3, .ref l4, .ref l5, .ref l6, .int 0, .int tol, .int ag, .ref m1, .ref m2, .ref m3, .ref m4, .ref m5, .ref m6]))] [] (va_A [(h0, .inr (18, [.int th, .ref l1, .ref l2, .ref l3, .ref l4, .ref l5, .ref l6, .int 0, .int tol, .int ag, .ref m1, .ref m2, .ref m3, .ref m4, .ref m5, .ref m6])), (l1, .inr (3, [.int c1, .ref e1, .int 0]))] sz) t) (va_A [(h0, .inr (18, [.int th, .ref l1, .ref l2, .ref l3, .ref l4, .ref l5, .ref l6, .int 0, .int tol, .int ag, .ref m1, .ref m2, .ref m3, .ref m4, .ref m5, .ref m6])), (l1, .inr (3, [.int c1, .ref e1, .int 0]))] sz)) 0 0 (va_A [(h0, .inr (18, [.int th, .ref l1, .ref l2, .ref l3, .ref l4, .ref l5, .ref l6, .int 0, .int tol, .int ag, .ref m1, .ref m2, .ref m3, .ref m4, .ref m5, .ref m6])), (l1, .inr (3, [.int c1, .ref e1, .int 0]))] sz) := by
  refine Met.ofW (cc := cX14_owner) (maxL := 3) (ret := (Option.some Jvm.ClassFile.FieldType.int)) (by decide) rfl ?_
  intro p e s m args below meth c s₁ B hml hv
  obtain ⟨rfl, rfl, hP, hK, hD0, hG⟩ := hv
  have hx := B.exec
  have hb := B.bytes
  have hr := B.returns
  have hts := atoms_spec (ws := wz_X14_owner) B.pre
  have hg : ∀ w ∈ lw_good, w.before _ s = true := fun w h => hts w (List.mem_cons_of_mem _ h)
  have hown : s.vm.findClass RX14 = some m.cls := findClass_of_methodNamed B.named
  have hlocks := B.notSynchronized
  have hD := hD0.self (sz := s.heap.size)
  generalize hAe : va_A [(h0, .inr (18, [.int th, .ref l1, .ref l2, .ref l3, .ref l4, .ref l5, .ref l6, .int 0, .int tol, .int ag, .ref m1, .ref m2, .ref m3, .ref m4, .ref m5, .ref m6])), (l1, .inr (3, [.int c1, .ref e1, .int 0]))] s.heap.size = A at hD hG ⊢
  have hA : ∀ q : Nat, s.heap.size ≤ q → A q := fun q h => by rw [← hAe]; exact Or.inr h
  have hS : va_S A s.heap s.heap [] := va_S.rf
  have hl := lv_entry ([.ref h0, .int p0, .int p1]) (n := 3) (Nat.le_of_ble_eq_true rfl)
  rw [lg_entry_eq]
  generalize (lg_sl ([.ref h0, .int p0, .int p1]) ++ List.replicate (3 - (lg_sl ([.ref h0, .int p0, .int p1])).length) Slot.unset).toArray = ls at hl ⊢
  have hl : lv_has ls 3 [(0, .ref h0), (1, .int p0), (2, .int p1)] := hl
  refine lv_aload_n hx hb dX14_owner_0 rfl (lv_at hl 0 rfl) ?_
  refine lv_iload_n hx hb dX14_owner_1 rfl (lv_at hl 1 rfl) ?_
  have hPc := hP.sub (ws' := [(h0, .inr (18, [.int th, .ref l1, .ref l2, .ref l3, .ref l4, .ref l5, .ref l6, .int 0, .int tol, .int ag, .ref m1, .ref m2, .ref m3, .ref m4, .ref m5, .ref m6])), (l1, .inr (3, [.int c1, .ref e1, .int 0]))]) [0, 1] rfl
  have hKc := hK.sub (tys' := []) [] rfl
  have hDc := hD.sub (ws' := [(h0, .inr (18, [.int th, .ref l1, .ref l2, .ref l3, .ref l4, .ref l5, .ref l6, .int 0, .int tol, .int ag, .ref m1, .ref m2, .ref m3, .ref m4, .ref m5, .ref m6])), (l1, .inr (3, [.int c1, .ref e1, .int 0]))]) [0, 1] (by decide) rfl
  have hFc := va_free (wc := [(h0, .inr (18, [.int th, .ref l1, .ref l2, .ref l3, .ref l4, .ref l5, .ref l6, .int 0, .int tol, .int ag, .ref m1, .ref m2, .ref m3, .ref m4, .ref m5, .ref m6])), (l1, .inr (3, [.int c1, .ref e1, .int 0]))]) hD hS hA [0, 1] rfl
  refine va_calli (va_runV (As := [.int p0]) (rest := []) ⟨hx, hb, hml, hown, hts⟩ (k_X14_failsMould l G z h0 th l1 l2 l3 l4 l5 l6 tol ag m1 m2 m3 m4 m5 m6 c1 e1 p0 s.heap.size ) (cwV 1 hts (lw_goodApp (lw_4 q1301 q1303 qs24 q7) q1304) rfl rfl rfl (by decide +kernel) ⟨Nat.le_of_ble_eq_true rfl, Nat.le_of_ble_eq_true rfl⟩) ⟨PW.blind, va_recv hK hP (ci := 18) (q0 := 0) rfl rfl, PW.of hPc hKc hDc hG hS hFc [.ref h0, .int p0]⟩ rfl rfl hl.1 rfl (lv_room (Nat.le_of_ble_eq_true rfl)) dX14_owner_2 ⟨Nat.le_of_ble_eq_true rfl, Nat.le_of_ble_eq_true rfl⟩) hS (fun q _ h => hFc q h) hFc (fun r_2 u t_4 H_1 locs ht hvm hw_3 hB hz1 hk1 hS => ?_)
  obtain ⟨hP, hD, hK⟩ := QW.join (wr := []) (w1 := [(h0, .inr (18, [.int 1, .ref l1, .ref l2, .ref l3, .ref l4, .ref l5, .ref l6, .int 0, .int tol, .int ag, .ref m1, .ref m2, .ref m3, .ref m4, .ref m5, .ref m6])), (l1, .inr (3, [.int c1, .ref e1, .int 0]))]) hP hD hK [0, 1] [] rfl rfl (by decide) (by decide) hk1 hFc ht hvm hB
  have hP : va_P G vwCl ([(h0, .inr (18, [.int 1, .ref l1, .ref l2, .ref l3, .ref l4, .ref l5, .ref l6, .int 0, .int tol, .int ag, .ref m1, .ref m2, .ref m3, .ref m4, .ref m5, .ref m6])), (l1, .inr (3, [.int c1, .ref e1, .int 0]))]) H_1 := hP
  have hD : va_D A ([(h0, .inr (18, [.int 1, .ref l1, .ref l2, .ref l3, .ref l4, .ref l5, .ref l6, .int 0, .int tol, .int ag, .ref m1, .ref m2, .ref m3, .ref m4, .ref m5, .ref m6])), (l1, .inr (3, [.int c1, .ref e1, .int 0]))]) := hD
  have hK : va_K G vwCl [] s := hK
  refine W.widen (k := 0) (n := 0) (Nat.le_of_ble_eq_true rfl) (Nat.le_of_ble_eq_true rfl) ?_
  obtain rfl : 1 = r_2 := hw_3.symm
  refine lv_if_ne (tgt := 27) hx hb dX14_owner_5 (by decide) (fun c_5 => ?_) (fun c_5 => absurd c_5 (by decide))
  refine lv_iconst (v := 0) hx hb dX14_owner_27 (by decide) ?_
  refine lv_goto (tgt := 46) hx hb dX14_owner_28 (by decide) ?_
  refine W.widen (k := 0) (n := 0) (Nat.le_of_ble_eq_true rfl) (Nat.le_of_ble_eq_true rfl) ?_
  have hP9 := hP.sub (ws' := [(h0, .inr (18, [.int 1, .ref l1, .ref l2, .ref l3, .ref l4, .ref l5, .ref l6, .int 0, .int tol, .int ag, .ref m1, .ref m2, .ref m3, .ref m4, .ref m5, .ref m6]))]) [0] rfl
  have hD9 := hD.sub (ws' := [(h0, .inr (18, [.int 1, .ref l1, .ref l2, .ref l3, .ref l4, .ref l5, .ref l6, .int 0, .int tol, .int ag, .ref m1, .ref m2, .ref m3, .ref m4, .ref m5, .ref m6]))]) [0] (by decide) rfl
  have hK9 := hK.sub (tys' := []) [] rfl
  exact W.iret (v := 0) hx hb hr (fun t ht hW => ⟨⟨0, (), rfl, trivial, QW.of hP9 hK9 hD9 ht hW.alike⟩, hS.F ht⟩) hS.2.2 dX14_owner_46

abbrev wz_X14_state : List Cond := .code yX14_state cX14_state 3 (Option.some Jvm.ClassFile.FieldType.int) :: lw_good
set_option maxHeartbeats 4000000 in
set_option maxRecDepth 100000 in
/-- state (reference): there is none of it yet -/
theorem k_X14_state (l : Launch) (G : va_G) (z : Nat) (h0 : Nat) (th : Int32) (l1 : Nat) (l2 : Nat) (l3 : Nat) (l4 : Nat) (l5 : Nat) (l6 : Nat) (tol : Int32) (ag : Int32) (m1 : Nat) (m2 : Nat) (m3 : Nat) (m4 : Nat) (m5 : Nat) (m6 : Nat) (c1 : Int32) (e1 : Nat) (p0 : Int32) (p1 : Int32) (sz : Nat)  : Met l yX14_state wz_X14_state ({ frames := 3, cells := 0, slots := 0, locals := 64 }) (va_Pc [.ref h0, .int p0, .int p1] (PW G z [(h0, .inr (18, [.int th, .ref l1, .ref l2, .ref l3, .ref l4, .ref l5, .ref l6, .int 0, .int tol, .int ag, .ref m1, .ref m2, .ref m3, .ref m4, .ref m5, .ref m6])), (l1, .inr (3, [.int c1, .ref e1, .int 0]))] [] sz)) (va_Qi (fun (r : Int32) (_ : Unit) => True) (fun (_ : Unit) (t : State) => QW G [(h0, .inr (18, [.int 1, .ref l1, .ref l2, .ref l3, .ref l4, .ref l5, .ref l6, .int 0, .int tol, .int ag, .ref m1, .ref m2, .ref m3, .ref m4, .ref m5, .ref m6]))] [] (va_A [(h0, .inr (18, [.int th, .ref l1, .ref l2, .ref l3, .ref l4, .ref l5, .ref l6, .int 0, .int tol, .int ag, .ref m1, .ref m2, .ref m3, .ref m4, .ref m5, .ref m6])), (l1, .inr (3, [.int c1, .ref e1, .int 0]))] sz) t) (va_A [(h0, .inr (18, [.int th, .ref l1, .ref l2, .ref l3, .ref l4, .ref l5, .ref l6, .int 0, .int tol, .int ag, .ref m1, .ref m2, .ref m3, .ref m4, .ref m5, .ref m6])), (l1, .inr (3, [.int c1, .ref e1, .int 0]))] sz)) 0 0 (va_A [(h0, .inr (18, [.int th, .ref l1, .ref l2, .ref l3, .ref l4, .ref l5, .ref l6, .int 0, .int tol, .int ag, .ref m1, .ref m2, .ref m3, .ref m4, .ref m5, .ref m6])), (l1, .inr (3, [.int c1, .ref e1, .int 0]))] sz) := by
  refine Met.ofW (cc := cX14_state) (maxL := 3) (ret := (Option.some Jvm.ClassFile.FieldType.int)) (by decide) rfl ?_
  intro p e s m args below meth c s₁ B hml hv
  obtain ⟨rfl, rfl, hP, hK, hD0, hG⟩ := hv
  have hx := B.exec
  have hb := B.bytes
  have hr := B.returns
  have hts := atoms_spec (ws := wz_X14_state) B.pre
  have hg : ∀ w ∈ lw_good, w.before _ s = true := fun w h => hts w (List.mem_cons_of_mem _ h)
  have hown : s.vm.findClass RX14 = some m.cls := findClass_of_methodNamed B.named
  have hlocks := B.notSynchronized
  have hD := hD0.self (sz := s.heap.size)
  generalize hAe : va_A [(h0, .inr (18, [.int th, .ref l1, .ref l2, .ref l3, .ref l4, .ref l5, .ref l6, .int 0, .int tol, .int ag, .ref m1, .ref m2, .ref m3, .ref m4, .ref m5, .ref m6])), (l1, .inr (3, [.int c1, .ref e1, .int 0]))] s.heap.size = A at hD hG ⊢
  have hA : ∀ q : Nat, s.heap.size ≤ q → A q := fun q h => by rw [← hAe]; exact Or.inr h
  have hS : va_S A s.heap s.heap [] := va_S.rf
  have hl := lv_entry ([.ref h0, .int p0, .int p1]) (n := 3) (Nat.le_of_ble_eq_true rfl)
  rw [lg_entry_eq]
  generalize (lg_sl ([.ref h0, .int p0, .int p1]) ++ List.replicate (3 - (lg_sl ([.ref h0, .int p0, .int p1])).length) Slot.unset).toArray = ls at hl ⊢
  have hl : lv_has ls 3 [(0, .ref h0), (1, .int p0), (2, .int p1)] := hl
  refine lv_aload_n hx hb dX14_state_0 rfl (lv_at hl 0 rfl) ?_
  refine lv_iload_n hx hb dX14_state_1 rfl (lv_at hl 1 rfl) ?_
  have hPc := hP.sub (ws' := [(h0, .inr (18, [.int th, .ref l1, .ref l2, .ref l3, .ref l4, .ref l5, .ref l6, .int 0, .int tol, .int ag, .ref m1, .ref m2, .ref m3, .ref m4, .ref m5, .ref m6])), (l1, .inr (3, [.int c1, .ref e1, .int 0]))]) [0, 1] rfl
  have hKc := hK.sub (tys' := []) [] rfl
  have hDc := hD.sub (ws' := [(h0, .inr (18, [.int th, .ref l1, .ref l2, .ref l3, .ref l4, .ref l5, .ref l6, .int 0, .int tol, .int ag, .ref m1, .ref m2, .ref m3, .ref m4, .ref m5, .ref m6])), (l1, .inr (3, [.int c1, .ref e1, .int 0]))]) [0, 1] (by decide) rfl
  have hFc := va_free (wc := [(h0, .inr (18, [.int th, .ref l1, .ref l2, .ref l3, .ref l4, .ref l5, .ref l6, .int 0, .int tol, .int ag, .ref m1, .ref m2, .ref m3, .ref m4, .ref m5, .ref m6])), (l1, .inr (3, [.int c1, .ref e1, .int 0]))]) hD hS hA [0, 1] rfl
  refine va_calli (va_runV (As := [.int p0]) (rest := []) ⟨hx, hb, hml, hown, hts⟩ (k_X14_failsMould l G z h0 th l1 l2 l3 l4 l5 l6 tol ag m1 m2 m3 m4 m5 m6 c1 e1 p0 s.heap.size ) (cwV 1 hts (lw_goodApp (lw_4 q1301 q1303 qs24 q7) q1304) rfl rfl rfl (by decide +kernel) ⟨Nat.le_of_ble_eq_true rfl, Nat.le_of_ble_eq_true rfl⟩) ⟨PW.blind, va_recv hK hP (ci := 18) (q0 := 0) rfl rfl, PW.of hPc hKc hDc hG hS hFc [.ref h0, .int p0]⟩ rfl rfl hl.1 rfl (lv_room (Nat.le_of_ble_eq_true rfl)) dX14_state_2 ⟨Nat.le_of_ble_eq_true rfl, Nat.le_of_ble_eq_true rfl⟩) hS (fun q _ h => hFc q h) hFc (fun r_2 u t_4 H_1 locs ht hvm hw_3 hB hz1 hk1 hS => ?_)
  obtain ⟨hP, hD, hK⟩ := QW.join (wr := []) (w1 := [(h0, .inr (18, [.int 1, .ref l1, .ref l2, .ref l3, .ref l4, .ref l5, .ref l6, .int 0, .int tol, .int ag, .ref m1, .ref m2, .ref m3, .ref m4, .ref m5, .ref m6])), (l1, .inr (3, [.int c1, .ref e1, .int 0]))]) hP hD hK [0, 1] [] rfl rfl (by decide) (by decide) hk1 hFc ht hvm hB
  have hP : va_P G vwCl ([(h0, .inr (18, [.int 1, .ref l1, .ref l2, .ref l3, .ref l4, .ref l5, .ref l6, .int 0, .int tol, .int ag, .ref m1, .ref m2, .ref m3, .ref m4, .ref m5, .ref m6])), (l1, .inr (3, [.int c1, .ref e1, .int 0]))]) H_1 := hP
  have hD : va_D A ([(h0, .inr (18, [.int 1, .ref l1, .ref l2, .ref l3, .ref l4, .ref l5, .ref l6, .int 0, .int tol, .int ag, .ref m1, .ref m2, .ref m3, .ref m4, .ref m5, .ref m6])), (l1, .inr (3, [.int c1, .ref e1, .int 0]))]) := hD
  have hK : va_K G vwCl [] s := hK
  refine W.widen (k := 0) (n := 0) (Nat.le_of_ble_eq_true rfl) (Nat.le_of_ble_eq_true rfl) ?_
  obtain rfl : 1 = r_2 := hw_3.symm
  refine lv_if_ne (tgt := 27) hx hb dX14_state_5 (by decide) (fun c_5 => ?_) (fun c_5 => absurd c_5 (by decide))
  refine lv_iconst (v := 0) hx hb dX14_state_27 (by decide) ?_
  refine lv_goto (tgt := 46) hx hb dX14_state_28 (by decide) ?_
  refine W.widen (k := 0) (n := 0) (Nat.le_of_ble_eq_true rfl) (Nat.le_of_ble_eq_true rfl) ?_
  have hP9 := hP.sub (ws' := [(h0, .inr (18, [.int 1, .ref l1, .ref l2, .ref l3, .ref l4, .ref l5, .ref l6, .int 0, .int tol, .int ag, .ref m1, .ref m2, .ref m3, .ref m4, .ref m5, .ref m6]))]) [0] rfl
  have hD9 := hD.sub (ws' := [(h0, .inr (18, [.int 1, .ref l1, .ref l2, .ref l3, .ref l4, .ref l5, .ref l6, .int 0, .int tol, .int ag, .ref m1, .ref m2, .ref m3, .ref m4, .ref m5, .ref m6]))]) [0] (by decide) rfl
  have hK9 := hK.sub (tys' := []) [] rfl
  exact W.iret (v := 0) hx hb hr (fun t ht hW => ⟨⟨0, (), rfl, trivial, QW.of hP9 hK9 hD9 ht hW.alike⟩, hS.F ht⟩) hS.2.2 dX14_state_46

abbrev wz_X14_wire : List Cond := .code yX14_wire cX14_wire 4 (Option.some Jvm.ClassFile.FieldType.char) :: lw_good
set_option maxHeartbeats 4000000 in
set_option maxRecDepth 100000 in
/-- wire (reference): there is none of it yet -/
theorem k_X14_wire (l : Launch) (G : va_G) (z : Nat) (h0 : Nat) (th : Int32) (l1 : Nat) (l2 : Nat) (l3 : Nat) (l4 : Nat) (l5 : Nat) (l6 : Nat) (tol : Int32) (ag : Int32) (m1 : Nat) (m2 : Nat) (m3 : Nat) (m4 : Nat) (m5 : Nat) (m6 : Nat) (c1 : Int32) (e1 : Nat) (p0 : Int32) (p1 : Int32) (p2 : Int32) (sz : Nat)  : Met l yX14_wire wz_X14_wire ({ frames := 3, cells := 0, slots := 0, locals := 64 }) (va_Pc [.ref h0, .int p0, .int p1, .int p2] (PW G z [(h0, .inr (18, [.int th, .ref l1, .ref l2, .ref l3, .ref l4, .ref l5, .ref l6, .int 0, .int tol, .int ag, .ref m1, .ref m2, .ref m3, .ref m4, .ref m5, .ref m6])), (l1, .inr (3, [.int c1, .ref e1, .int 0]))] [] sz)) (va_Qi (fun (r : Int32) (_ : Unit) => True) (fun (_ : Unit) (t : State) => QW G [(h0, .inr (18, [.int 1, .ref l1, .ref l2, .ref l3, .ref l4, .ref l5, .ref l6, .int 0, .int tol, .int ag, .ref m1, .ref m2, .ref m3, .ref m4, .ref m5, .ref m6]))] [] (va_A [(h0, .inr (18, [.int th, .ref l1, .ref l2, .ref l3, .ref l4, .ref l5, .ref l6, .int 0, .int tol, .int ag, .ref m1, .ref m2, .ref m3, .ref m4, .ref m5, .ref m6])), (l1, .inr (3, [.int c1, .ref e1, .int 0]))] sz) t) (va_A [(h0, .inr (18, [.int th, .ref l1, .ref l2, .ref l3, .ref l4, .ref l5, .ref l6, .int 0, .int tol, .int ag, .ref m1, .ref m2, .ref m3, .ref m4, .ref m5, .ref m6])), (l1, .inr (3, [.int c1, .ref e1, .int 0]))] sz)) 0 0 (va_A [(h0, .inr (18, [.int th, .ref l1, .ref l2, .ref l3, .ref l4, .ref l5, .ref l6, .int 0, .int tol, .int ag, .ref m1, .ref m2, .ref m3, .ref m4, .ref m5, .ref m6])), (l1, .inr (3, [.int c1, .ref e1, .int 0]))] sz) := by
  refine Met.ofW (cc := cX14_wire) (maxL := 4) (ret := (Option.some Jvm.ClassFile.FieldType.char)) (by decide) rfl ?_
  intro p e s m args below meth c s₁ B hml hv
  obtain ⟨rfl, rfl, hP, hK, hD0, hG⟩ := hv
  have hx := B.exec
  have hb := B.bytes
  have hr := B.returns
  have hts := atoms_spec (ws := wz_X14_wire) B.pre
  have hg : ∀ w ∈ lw_good, w.before _ s = true := fun w h => hts w (List.mem_cons_of_mem _ h)
  have hown : s.vm.findClass RX14 = some m.cls := findClass_of_methodNamed B.named
  have hlocks := B.notSynchronized
  have hD := hD0.self (sz := s.heap.size)
  generalize hAe : va_A [(h0, .inr (18, [.int th, .ref l1, .ref l2, .ref l3, .ref l4, .ref l5, .ref l6, .int 0, .int tol, .int ag, .ref m1, .ref m2, .ref m3, .ref m4, .ref m5, .ref m6])), (l1, .inr (3, [.int c1, .ref e1, .int 0]))] s.heap.size = A at hD hG ⊢
  have hA : ∀ q : Nat, s.heap.size ≤ q → A q := fun q h => by rw [← hAe]; exact Or.inr h
  have hS : va_S A s.heap s.heap [] := va_S.rf
  have hl := lv_entry ([.ref h0, .int p0, .int p1, .int p2]) (n := 4) (Nat.le_of_ble_eq_true rfl)
  rw [lg_entry_eq]
  generalize (lg_sl ([.ref h0, .int p0, .int p1, .int p2]) ++ List.replicate (4 - (lg_sl ([.ref h0, .int p0, .int p1, .int p2])).length) Slot.unset).toArray = ls at hl ⊢
  have hl : lv_has ls 4 [(0, .ref h0), (1, .int p0), (2, .int p1), (3, .int p2)] := hl
  refine lv_aload_n hx hb dX14_wire_0 rfl (lv_at hl 0 rfl) ?_
  refine lv_iload_n hx hb dX14_wire_1 rfl (lv_at hl 1 rfl) ?_
  have hPc := hP.sub (ws' := [(h0, .inr (18, [.int th, .ref l1, .ref l2, .ref l3, .ref l4, .ref l5, .ref l6, .int 0, .int tol, .int ag, .ref m1, .ref m2, .ref m3, .ref m4, .ref m5, .ref m6])), (l1, .inr (3, [.int c1, .ref e1, .int 0]))]) [0, 1] rfl
  have hKc := hK.sub (tys' := []) [] rfl
  have hDc := hD.sub (ws' := [(h0, .inr (18, [.int th, .ref l1, .ref l2, .ref l3, .ref l4, .ref l5, .ref l6, .int 0, .int tol, .int ag, .ref m1, .ref m2, .ref m3, .ref m4, .ref m5, .ref m6])), (l1, .inr (3, [.int c1, .ref e1, .int 0]))]) [0, 1] (by decide) rfl
  have hFc := va_free (wc := [(h0, .inr (18, [.int th, .ref l1, .ref l2, .ref l3, .ref l4, .ref l5, .ref l6, .int 0, .int tol, .int ag, .ref m1, .ref m2, .ref m3, .ref m4, .ref m5, .ref m6])), (l1, .inr (3, [.int c1, .ref e1, .int 0]))]) hD hS hA [0, 1] rfl
  refine va_calli (va_runV (As := [.int p0]) (rest := []) ⟨hx, hb, hml, hown, hts⟩ (k_X14_failsMould l G z h0 th l1 l2 l3 l4 l5 l6 tol ag m1 m2 m3 m4 m5 m6 c1 e1 p0 s.heap.size ) (cwV 1 hts (lw_goodApp (lw_4 q1301 q1303 qs24 q7) q1304) rfl rfl rfl (by decide +kernel) ⟨Nat.le_of_ble_eq_true rfl, Nat.le_of_ble_eq_true rfl⟩) ⟨PW.blind, va_recv hK hP (ci := 18) (q0 := 0) rfl rfl, PW.of hPc hKc hDc hG hS hFc [.ref h0, .int p0]⟩ rfl rfl hl.1 rfl (lv_room (Nat.le_of_ble_eq_true rfl)) dX14_wire_2 ⟨Nat.le_of_ble_eq_true rfl, Nat.le_of_ble_eq_true rfl⟩) hS (fun q _ h => hFc q h) hFc (fun r_2 u t_4 H_1 locs ht hvm hw_3 hB hz1 hk1 hS => ?_)
  obtain ⟨hP, hD, hK⟩ := QW.join (wr := []) (w1 := [(h0, .inr (18, [.int 1, .ref l1, .ref l2, .ref l3, .ref l4, .ref l5, .ref l6, .int 0, .int tol, .int ag, .ref m1, .ref m2, .ref m3, .ref m4, .ref m5, .ref m6])), (l1, .inr (3, [.int c1, .ref e1, .int 0]))]) hP hD hK [0, 1] [] rfl rfl (by decide) (by decide) hk1 hFc ht hvm hB
  have hP : va_P G vwCl ([(h0, .inr (18, [.int 1, .ref l1, .ref l2, .ref l3, .ref l4, .ref l5, .ref l6, .int 0, .int tol, .int ag, .ref m1, .ref m2, .ref m3, .ref m4, .ref m5, .ref m6])), (l1, .inr (3, [.int c1, .ref e1, .int 0]))]) H_1 := hP
  have hD : va_D A ([(h0, .inr (18, [.int 1, .ref l1, .ref l2, .ref l3, .ref l4, .ref l5, .ref l6, .int 0, .int tol, .int ag, .ref m1, .ref m2, .ref m3, .ref m4, .ref m5, .ref m6])), (l1, .inr (3, [.int c1, .ref e1, .int 0]))]) := hD
  have hK : va_K G vwCl [] s := hK
  refine W.widen (k := 0) (n := 0) (Nat.le_of_ble_eq_true rfl) (Nat.le_of_ble_eq_true rfl) ?_
  obtain rfl : 1 = r_2 := hw_3.symm
  refine lv_if_ne (tgt := 59) hx hb dX14_wire_5 (by decide) (fun c_5 => ?_) (fun c_5 => absurd c_5 (by decide))
  refine lv_iconst (v := 0) hx hb dX14_wire_59 (by decide) ?_
  refine W.widen (k := 0) (n := 0) (Nat.le_of_ble_eq_true rfl) (Nat.le_of_ble_eq_true rfl) ?_
  have hP9 := hP.sub (ws' := [(h0, .inr (18, [.int 1, .ref l1, .ref l2, .ref l3, .ref l4, .ref l5, .ref l6, .int 0, .int tol, .int ag, .ref m1, .ref m2, .ref m3, .ref m4, .ref m5, .ref m6]))]) [0] rfl
  have hD9 := hD.sub (ws' := [(h0, .inr (18, [.int 1, .ref l1, .ref l2, .ref l3, .ref l4, .ref l5, .ref l6, .int 0, .int tol, .int ag, .ref m1, .ref m2, .ref m3, .ref m4, .ref m5, .ref m6]))]) [0] (by decide) rfl
  have hK9 := hK.sub (tys' := []) [] rfl
  exact W.zret (v := 0) hx hb hr rfl (fun t ht hW => ⟨⟨0, (), rfl, trivial, QW.of hP9 hK9 hD9 ht hW.alike⟩, hS.F ht⟩) hS.2.2 dX14_wire_60

abbrev wz_X14_make : List Cond := .code yX14_make cX14_make 11 (Option.some Jvm.ClassFile.FieldType.int) :: lw_good
set_option maxHeartbeats 4000000 in
set_option maxRecDepth 100000 in
/-- make (reference): there is none of it yet -/
theorem k_X14_make (l : Launch) (G : va_G) (z : Nat) (h0 : Nat) (th : Int32) (l1 : Nat) (l2 : Nat) (l3 : Nat) (l4 : Nat) (l5 : Nat) (l6 : Nat) (tol : Int32) (ag : Int32) (m1 : Nat) (m2 : Nat) (m3 : Nat) (m4 : Nat) (m5 : Nat) (m6 : Nat) (c1 : Int32) (e1 : Nat) (p0 : Int32) (p1 : Int32) (p2 : Int32) (p3 : Int32) (sz : Nat)  : Met l yX14_make wz_X14_make ({ frames := 3, cells := 0, slots := 0, locals := 64 }) (va_Pc [.ref h0, .int p0, .int p1, .int p2, .int p3] (PW G z [(h0, .inr (18, [.int th, .ref l1, .ref l2, .ref l3, .ref l4, .ref l5, .ref l6, .int 0, .int tol, .int ag, .ref m1, .ref m2, .ref m3, .ref m4, .ref m5, .ref m6])), (l1, .inr (3, [.int c1, .ref e1, .int 0]))] [] sz)) (va_Qi (fun (r : Int32) (_ : Unit) => True) (fun (_ : Unit) (t : State) => QW G [(h0, .inr (18, [.int 1, .ref l1, .ref l2, .ref l3, .ref l4, .ref l5, .ref l6, .int 0, .int tol, .int ag, .ref m1, .ref m2, .ref m3, .ref m4, .ref m5, .ref m6]))] [] (va_A [(h0, .inr (18, [.int th, .ref l1, .ref l2, .ref l3, .ref l4, .ref l5, .ref l6, .int 0, .int tol, .int ag, .ref m1, .ref m2, .ref m3, .ref m4, .ref m5, .ref m6])), (l1, .inr (3, [.int c1, .ref e1, .int 0]))] sz) t) (va_A [(h0, .inr (18, [.int th, .ref l1, .ref l2, .ref l3, .ref l4, .ref l5, .ref l6, .int 0, .int tol, .int ag, .ref m1, .ref m2, .ref m3, .ref m4, .ref m5, .ref m6])), (l1, .inr (3, [.int c1, .ref e1, .int 0]))] sz)) 0 0 (va_A [(h0, .inr (18, [.int th, .ref l1, .ref l2, .ref l3, .ref l4, .ref l5, .ref l6, .int 0, .int tol, .int ag, .ref m1, .ref m2, .ref m3, .ref m4, .ref m5, .ref m6])), (l1, .inr (3, [.int c1, .ref e1, .int 0]))] sz) := by
  refine Met.ofW (cc := cX14_make) (maxL := 11) (ret := (Option.some Jvm.ClassFile.FieldType.int)) (by decide) rfl ?_
  intro p e s m args below meth c s₁ B hml hv
  obtain ⟨rfl, rfl, hP, hK, hD0, hG⟩ := hv
  have hx := B.exec
  have hb := B.bytes
  have hr := B.returns
  have hts := atoms_spec (ws := wz_X14_make) B.pre
  have hg : ∀ w ∈ lw_good, w.before _ s = true := fun w h => hts w (List.mem_cons_of_mem _ h)
  have hown : s.vm.findClass RX14 = some m.cls := findClass_of_methodNamed B.named
  have hlocks := B.notSynchronized
  have hD := hD0.self (sz := s.heap.size)
  generalize hAe : va_A [(h0, .inr (18, [.int th, .ref l1, .ref l2, .ref l3, .ref l4, .ref l5, .ref l6, .int 0, .int tol, .int ag, .ref m1, .ref m2, .ref m3, .ref m4, .ref m5, .ref m6])), (l1, .inr (3, [.int c1, .ref e1, .int 0]))] s.heap.size = A at hD hG ⊢
  have hA : ∀ q : Nat, s.heap.size ≤ q → A q := fun q h => by rw [← hAe]; exact Or.inr h
  have hS : va_S A s.heap s.heap [] := va_S.rf
  have hl := lv_entry ([.ref h0, .int p0, .int p1, .int p2, .int p3]) (n := 11) (Nat.le_of_ble_eq_true rfl)
  rw [lg_entry_eq]
  generalize (lg_sl ([.ref h0, .int p0, .int p1, .int p2, .int p3]) ++ List.replicate (11 - (lg_sl ([.ref h0, .int p0, .int p1, .int p2, .int p3])).length) Slot.unset).toArray = ls at hl ⊢
  have hl : lv_has ls 11 [(0, .ref h0), (1, .int p0), (2, .int p1), (3, .int p2), (4, .int p3)] := hl
  refine lv_aload_n hx hb dX14_make_0 rfl (lv_at hl 0 rfl) ?_
  refine lv_iload_n hx hb dX14_make_1 rfl (lv_at hl 1 rfl) ?_
  have hPc := hP.sub (ws' := [(h0, .inr (18, [.int th, .ref l1, .ref l2, .ref l3, .ref l4, .ref l5, .ref l6, .int 0, .int tol, .int ag, .ref m1, .ref m2, .ref m3, .ref m4, .ref m5, .ref m6])), (l1, .inr (3, [.int c1, .ref e1, .int 0]))]) [0, 1] rfl
  have hKc := hK.sub (tys' := []) [] rfl
  have hDc := hD.sub (ws' := [(h0, .inr (18, [.int th, .ref l1, .ref l2, .ref l3, .ref l4, .ref l5, .ref l6, .int 0, .int tol, .int ag, .ref m1, .ref m2, .ref m3, .ref m4, .ref m5, .ref m6])), (l1, .inr (3, [.int c1, .ref e1, .int 0]))]) [0, 1] (by decide) rfl
  have hFc := va_free (wc := [(h0, .inr (18, [.int th, .ref l1, .ref l2, .ref l3, .ref l4, .ref l5, .ref l6, .int 0, .int tol, .int ag, .ref m1, .ref m2, .ref m3, .ref m4, .ref m5, .ref m6])), (l1, .inr (3, [.int c1, .ref e1, .int 0]))]) hD hS hA [0, 1] rfl
  refine va_calli (va_runV (As := [.int p0]) (rest := []) ⟨hx, hb, hml, hown, hts⟩ (k_X14_failsMould l G z h0 th l1 l2 l3 l4 l5 l6 tol ag m1 m2 m3 m4 m5 m6 c1 e1 p0 s.heap.size ) (cwV 1 hts (lw_goodApp (lw_4 q1301 q1303 qs24 q7) q1304) rfl rfl rfl (by decide +kernel) ⟨Nat.le_of_ble_eq_true rfl, Nat.le_of_ble_eq_true rfl⟩) ⟨PW.blind, va_recv hK hP (ci := 18) (q0 := 0) rfl rfl, PW.of hPc hKc hDc hG hS hFc [.ref h0, .int p0]⟩ rfl rfl hl.1 rfl (lv_room (Nat.le_of_ble_eq_true rfl)) dX14_make_2 ⟨Nat.le_of_ble_eq_true rfl, Nat.le_of_ble_eq_true rfl⟩) hS (fun q _ h => hFc q h) hFc (fun r_2 u t_4 H_1 locs ht hvm hw_3 hB hz1 hk1 hS => ?_)
  obtain ⟨hP, hD, hK⟩ := QW.join (wr := []) (w1 := [(h0, .inr (18, [.int 1, .ref l1, .ref l2, .ref l3, .ref l4, .ref l5, .ref l6, .int 0, .int tol, .int ag, .ref m1, .ref m2, .ref m3, .ref m4, .ref m5, .ref m6])), (l1, .inr (3, [.int c1, .ref e1, .int 0]))]) hP hD hK [0, 1] [] rfl rfl (by decide) (by decide) hk1 hFc ht hvm hB
  have hP : va_P G vwCl ([(h0, .inr (18, [.int 1, .ref l1, .ref l2, .ref l3, .ref l4, .ref l5, .ref l6, .int 0, .int tol, .int ag, .ref m1, .ref m2, .ref m3, .ref m4, .ref m5, .ref m6])), (l1, .inr (3, [.int c1, .ref e1, .int 0]))]) H_1 := hP
  have hD : va_D A ([(h0, .inr (18, [.int 1, .ref l1, .ref l2, .ref l3, .ref l4, .ref l5, .ref l6, .int 0, .int tol, .int ag, .ref m1, .ref m2, .ref m3, .ref m4, .ref m5, .ref m6])), (l1, .inr (3, [.int c1, .ref e1, .int 0]))]) := hD
  have hK : va_K G vwCl [] s := hK
  refine W.widen (k := 0) (n := 0) (Nat.le_of_ble_eq_true rfl) (Nat.le_of_ble_eq_true rfl) ?_
  obtain rfl : 1 = r_2 := hw_3.symm
  refine lv_if_ne (tgt := 39) hx hb dX14_make_5 (by decide) (fun c_5 => ?_) (fun c_5 => absurd c_5 (by decide))
  refine lv_iconst (v := 0) hx hb dX14_make_39 (by decide) ?_
  refine W.widen (k := 0) (n := 0) (Nat.le_of_ble_eq_true rfl) (Nat.le_of_ble_eq_true rfl) ?_
  have hP9 := hP.sub (ws' := [(h0, .inr (18, [.int 1, .ref l1, .ref l2, .ref l3, .ref l4, .ref l5, .ref l6, .int 0, .int tol, .int ag, .ref m1, .ref m2, .ref m3, .ref m4, .ref m5, .ref m6]))]) [0] rfl
  have hD9 := hD.sub (ws' := [(h0, .inr (18, [.int 1, .ref l1, .ref l2, .ref l3, .ref l4, .ref l5, .ref l6, .int 0, .int tol, .int ag, .ref m1, .ref m2, .ref m3, .ref m4, .ref m5, .ref m6]))]) [0] (by decide) rfl
  have hK9 := hK.sub (tys' := []) [] rfl
  exact W.iret (v := 0) hx hb hr (fun t ht hW => ⟨⟨0, (), rfl, trivial, QW.of hP9 hK9 hD9 ht hW.alike⟩, hS.F ht⟩) hS.2.2 dX14_make_40

abbrev wz_X14_put : List Cond := .code yX14_put cX14_put 8 (Option.some Jvm.ClassFile.FieldType.int) :: lw_good
set_option maxHeartbeats 4000000 in
set_option maxRecDepth 100000 in
/-- put (reference): there is none of it yet -/
theorem k_X14_put (l : Launch) (G : va_G) (z : Nat) (h0 : Nat) (th : Int32) (l1 : Nat) (l2 : Nat) (l3 : Nat) (l4 : Nat) (l5 : Nat) (l6 : Nat) (tol : Int32) (ag : Int32) (m1 : Nat) (m2 : Nat) (m3 : Nat) (m4 : Nat) (m5 : Nat) (m6 : Nat) (c2 : Int32) (e2 : Nat) (c3 : Int32) (e3 : Nat) (p0 : Int32) (p1 : Int32) (p2 : Int32) (sz : Nat)  : Met l yX14_put wz_X14_put ({ frames := 1, cells := 0, slots := 0, locals := 22 }) (va_Pc [.ref h0, .int p0, .int p1, .int p2] (PW G z [(h0, .inr (18, [.int th, .ref l1, .ref l2, .ref l3, .ref l4, .ref l5, .ref l6, .int 0, .int tol, .int ag, .ref m1, .ref m2, .ref m3, .ref m4, .ref m5, .ref m6])), (l2, .inr (3, [.int c2, .ref e2, .int 0])), (l3, .inr (3, [.int c3, .ref e3, .int 0]))] [] sz)) (va_Qi (fun (r : Int32) (_ : Unit) => True) (fun (_ : Unit) (t : State) => QW G [(h0, .inr (18, [.int 1, .ref l1, .ref l2, .ref l3, .ref l4, .ref l5, .ref l6, .int 0, .int tol, .int ag, .ref m1, .ref m2, .ref m3, .ref m4, .ref m5, .ref m6]))] [] (va_A [(h0, .inr (18, [.int th, .ref l1, .ref l2, .ref l3, .ref l4, .ref l5, .ref l6, .int 0, .int tol, .int ag, .ref m1, .ref m2, .ref m3, .ref m4, .ref m5, .ref m6])), (l2, .inr (3, [.int c2, .ref e2, .int 0])), (l3, .inr (3, [.int c3, .ref e3, .int 0]))] sz) t) (va_A [(h0, .inr (18, [.int th, .ref l1, .ref l2, .ref l3, .ref l4, .ref l5, .ref l6, .int 0, .int tol, .int ag, .ref m1, .ref m2, .ref m3, .ref m4, .ref m5, .ref m6])), (l2, .inr (3, [.int c2, .ref e2, .int 0])), (l3, .inr (3, [.int c3, .ref e3, .int 0]))] sz)) 0 0 (va_A [(h0, .inr (18, [.int th, .ref l1, .ref l2, .ref l3, .ref l4, .ref l5, .ref l6, .int 0, .int tol, .int ag, .ref m1, .ref m2, .ref m3, .ref m4, .ref m5, .ref m6])), (l2, .inr (3, [.int c2, .ref e2, .int 0])), (l3, .inr (3, [.int c3, .ref e3, .int 0]))] sz) := by
  refine Met.ofW (cc := cX14_put) (maxL := 8) (ret := (Option.some Jvm.ClassFile.FieldType.int)) (by decide) rfl ?_
  intro p e s m args below meth c s₁ B hml hv
  obtain ⟨rfl, rfl, hP, hK, hD0, hG⟩ := hv
  have hx := B.exec
  have hb := B.bytes
  have hr := B.returns
  have hts := atoms_spec (ws := wz_X14_put) B.pre
  have hg : ∀ w ∈ lw_good, w.before _ s = true := fun w h => hts w (List.mem_cons_of_mem _ h)
  have hown : s.vm.findClass RX14 = some m.cls := findClass_of_methodNamed B.named
  have hlocks := B.notSynchronized
  have hD := hD0.self (sz := s.heap.size)
  generalize hAe : va_A [(h0, .inr (18, [.int th, .ref l1, .ref l2, .ref l3, .ref l4, .ref l5, .ref l6, .int 0, .int tol, .int ag, .ref m1, .ref m2, .ref m3, .ref m4, .ref m5, .ref m6])), (l2, .inr (3, [.int c2, .ref e2, .int 0])), (l3, .inr (3, [.int c3, .ref e3, .int 0]))] s.heap.size = A at hD hG ⊢
  have hA : ∀ q : Nat, s.heap.size ≤ q → A q := fun q h => by rw [← hAe]; exact Or.inr h
  have hS : va_S A s.heap s.heap [] := va_S.rf
  have hl := lv_entry ([.ref h0, .int p0, .int p1, .int p2]) (n := 8) (Nat.le_of_ble_eq_true rfl)
  rw [lg_entry_eq]
  generalize (lg_sl ([.ref h0, .int p0, .int p1, .int p2]) ++ List.replicate (8 - (lg_sl ([.ref h0, .int p0, .int p1, .int p2])).length) Slot.unset).toArray = ls at hl ⊢
  have hl : lv_has ls 8 [(0, .ref h0), (1, .int p0), (2, .int p1), (3, .int p2)] := hl
  refine lv_aload_n hx hb dX14_put_0 rfl (lv_at hl 0 rfl) ?_
  refine lv_iload_n hx hb dX14_put_1 rfl (lv_at hl 1 rfl) ?_
  refine lv_iconst (v := 0) hx hb dX14_put_2 (by decide) ?_
  refine lv_aload_n hx hb dX14_put_3 rfl (lv_at hl 0 rfl) ?_
  refine va_get (D := G) (ci := 18) (v := .ref l3) (C := RX14) (T := TX14) (N := 16) hx hb hg in_X14 hown hK hP 0 rfl rfl 3 (by decide) (hg _ q1190) (fun _ h9 => h9) rfl dX14_put_4 ?_
  have hPc := hP.sub (ws' := [(l3, .inr (3, [.int c3, .ref e3, .int 0]))]) [2] rfl
  have hKc := hK.sub (tys' := []) [] rfl
  refine va_calli (va_runV (As := []) (rest := [.int 0, .int p0, .ref h0]) ⟨hx, hb, hml, hown, hts⟩ (k_Jx4a65c_size_8abf5 l G z l3 c3 e3 0 s.heap.size ) (cwV 0 hts (lw_goodApp (lw_4 q1247 q161 q162 q4) q163) rfl rfl rfl (by decide +kernel) ⟨Nat.le_of_ble_eq_true rfl, Nat.le_of_ble_eq_true rfl⟩) ⟨PR.blind, va_recv hK hP (ci := 3) (q0 := 2) rfl rfl, PR.of hPc hKc hG hS hA [.ref l3]⟩ rfl rfl hl.1 rfl (lv_room (Nat.le_of_ble_eq_true rfl)) dX14_put_7 ⟨Nat.le_of_ble_eq_true rfl, Nat.le_of_ble_eq_true rfl⟩) hS (fun q h9 h => zN.not h9 h) (fun q h => hA q (Nat.le_trans hS.1 h)) (fun r_2 u t_4 H_1 locs ht hvm hw_3 hB hz1 hk1 hS => ?_)
  have hP := hP.grown hk1
  refine W.widen (k := 0) (n := 0) (Nat.le_of_ble_eq_true rfl) (Nat.le_of_ble_eq_true rfl) ?_
  obtain rfl : 0 = r_2 := hw_3.symm
  refine lv_iconst (v := 1) hx hb dX14_put_10 (by decide) ?_
  refine lv_isub hx hb dX14_put_11 ?_
  refine lv_topi (fun f_5 ef_5 => ?_)
  obtain rfl : f_5 = -1 := ef_5.trans (by decide)
  have hPc := hP.sub (ws' := []) [] rfl
  have hKc := hK.sub (tys' := []) [] rfl
  refine va_calli (va_runS (As := [.int p0, .int 0, .int (-1)]) (rest := [.ref h0]) ⟨hx, hb, hml, hown, hts⟩ (k_X14_in_e l G z p0 H_1.size ) (va_cwS 3 hts (lw_goodApp (lw_3 q1244 q1245 q7) q1246) rfl rfl rfl (by decide +kernel) ⟨Nat.le_of_ble_eq_true rfl, Nat.le_of_ble_eq_true rfl⟩) ⟨PR.blind, PR.of hPc hKc hG hS hA [.int p0, .int 0, .int (-1)]⟩ rfl rfl hl.1 rfl (lv_room (Nat.le_of_ble_eq_true rfl)) dX14_put_12 ⟨Nat.le_of_ble_eq_true rfl, Nat.le_of_ble_eq_true rfl⟩) hS (fun q h9 h => zN.not h9 h) (fun q h => hA q (Nat.le_trans hS.1 h)) (fun r_7 u t_9 H_6 locs ht hvm hw_8 hB hz1 hk1 hS => ?_)
  have hP := hP.grown hk1
  refine W.widen (k := 0) (n := 0) (Nat.le_of_ble_eq_true rfl) (Nat.le_of_ble_eq_true rfl) ?_
  obtain rfl : 0 = r_7 := hw_8.symm
  refine lv_if_eq (tgt := 39) hx hb dX14_put_15 (by decide) (fun c_10 => ?_) (fun c_10 => absurd rfl c_10)
  refine lv_iconst (v := 1) hx hb dX14_put_39 (by decide) ?_
  have hPc := hP.sub (ws' := [(h0, .inr (18, [.int th, .ref l1, .ref l2, .ref l3, .ref l4, .ref l5, .ref l6, .int 0, .int tol, .int ag, .ref m1, .ref m2, .ref m3, .ref m4, .ref m5, .ref m6]))]) [0] rfl
  have hKc := hK.sub (tys' := []) [] rfl
  have hDc := hD.sub (ws' := [(h0, .inr (18, [.int th, .ref l1, .ref l2, .ref l3, .ref l4, .ref l5, .ref l6, .int 0, .int tol, .int ag, .ref m1, .ref m2, .ref m3, .ref m4, .ref m5, .ref m6]))]) [0] (by decide) rfl
  have hFc := va_free (wc := [(h0, .inr (18, [.int th, .ref l1, .ref l2, .ref l3, .ref l4, .ref l5, .ref l6, .int 0, .int tol, .int ag, .ref m1, .ref m2, .ref m3, .ref m4, .ref m5, .ref m6]))]) hD hS hA [0] rfl
  refine va_calli (va_runV (As := [.int 1]) (rest := []) ⟨hx, hb, hml, hown, hts⟩ (k_X14_fails_1 l G z h0 th l1 l2 l3 l4 l5 l6 tol ag m1 m2 m3 m4 m5 m6 1 H_6.size (by decide)) (cwV 1 hts (lw_goodApp (lw_4 q1248 q1250 qs23 q7) q1251) rfl rfl rfl (by decide +kernel) ⟨Nat.le_of_ble_eq_true rfl, Nat.le_of_ble_eq_true rfl⟩) ⟨PW.blind, va_recv hK hP (ci := 18) (q0 := 0) rfl rfl, PW.of hPc hKc hDc hG hS hFc [.ref h0, .int 1]⟩ rfl rfl hl.1 rfl (lv_room (Nat.le_of_ble_eq_true rfl)) dX14_put_40 ⟨Nat.le_of_ble_eq_true rfl, Nat.le_of_ble_eq_true rfl⟩) hS (fun q _ h => hFc q h) hFc (fun r_12 u t_14 H_11 locs ht hvm hw_13 hB hz1 hk1 hS => ?_)
  obtain ⟨hP, hD, hK⟩ := QW.join (wr := [(l2, .inr (3, [.int c2, .ref e2, .int 0])), (l3, .inr (3, [.int c3, .ref e3, .int 0]))]) (w1 := [(h0, .inr (18, [.int 1, .ref l1, .ref l2, .ref l3, .ref l4, .ref l5, .ref l6, .int 0, .int tol, .int ag, .ref m1, .ref m2, .ref m3, .ref m4, .ref m5, .ref m6]))]) hP hD hK [0] [1, 2] rfl rfl (by decide) (by decide) hk1 hFc ht hvm hB
  have hP : va_P G vwCl ([(l2, .inr (3, [.int c2, .ref e2, .int 0])), (l3, .inr (3, [.int c3, .ref e3, .int 0])), (h0, .inr (18, [.int 1, .ref l1, .ref l2, .ref l3, .ref l4, .ref l5, .ref l6, .int 0, .int tol, .int ag, .ref m1, .ref m2, .ref m3, .ref m4, .ref m5, .ref m6]))]) H_11 := hP
  have hD : va_D A ([(l2, .inr (3, [.int c2, .ref e2, .int 0])), (l3, .inr (3, [.int c3, .ref e3, .int 0])), (h0, .inr (18, [.int 1, .ref l1, .ref l2, .ref l3, .ref l4, .ref l5, .ref l6, .int 0, .int tol, .int ag, .ref m1, .ref m2, .ref m3, .ref m4, .ref m5, .ref m6]))]) := hD
  have hK : va_K G vwCl [] s := hK
  refine W.widen (k := 0) (n := 0) (Nat.le_of_ble_eq_true rfl) (Nat.le_of_ble_eq_true rfl) ?_
  obtain rfl : 1 = r_12 := hw_13.symm
  refine lv_if_eq (tgt := 48) hx hb dX14_put_43 (by decide) (fun c_15 => absurd c_15 (by decide)) (fun c_15 => ?_)
  refine lv_iconst (v := 0) hx hb dX14_put_46 (by decide) ?_
  refine W.widen (k := 0) (n := 0) (Nat.le_of_ble_eq_true rfl) (Nat.le_of_ble_eq_true rfl) ?_
  have hP9 := hP.sub (ws' := [(h0, .inr (18, [.int 1, .ref l1, .ref l2, .ref l3, .ref l4, .ref l5, .ref l6, .int 0, .int tol, .int ag, .ref m1, .ref m2, .ref m3, .ref m4, .ref m5, .ref m6]))]) [2] rfl
  have hD9 := hD.sub (ws' := [(h0, .inr (18, [.int 1, .ref l1, .ref l2, .ref l3, .ref l4, .ref l5, .ref l6, .int 0, .int tol, .int ag, .ref m1, .ref m2, .ref m3, .ref m4, .ref m5, .ref m6]))]) [2] (by decide) rfl
  have hK9 := hK.sub (tys' := []) [] rfl
  exact W.iret (v := 0) hx hb hr (fun t ht hW => ⟨⟨0, (), rfl, trivial, QW.of hP9 hK9 hD9 ht hW.alike⟩, hS.F ht⟩) hS.2.2 dX14_put_47

abbrev wz_X14_tariff : List Cond := .code yX14_tariff cX14_tariff 5 (Option.some Jvm.ClassFile.FieldType.int) :: lw_good
set_option maxHeartbeats 4000000 in
set_option maxRecDepth 100000 in
/-- tariff (reference): there is none of it yet -/
theorem k_X14_tariff (l : Launch) (G : va_G) (z : Nat) (h0 : Nat) (th : Int32) (l1 : Nat) (l2 : Nat) (l3 : Nat) (l4 : Nat) (l5 : Nat) (l6 : Nat) (tol : Int32) (ag : Int32) (m1 : Nat) (m2 : Nat) (m3 : Nat) (m4 : Nat) (m5 : Nat) (m6 : Nat) (c3 : Int32) (e3 : Nat) (p0 : Int32) (sz : Nat)  : Met l yX14_tariff wz_X14_tariff ({ frames := 1, cells := 0, slots := 0, locals := 22 }) (va_Pc [.ref h0, .int p0] (PW G z [(h0, .inr (18, [.int th, .ref l1, .ref l2, .ref l3, .ref l4, .ref l5, .ref l6, .int 0, .int tol, .int ag, .ref m1, .ref m2, .ref m3, .ref m4, .ref m5, .ref m6])), (l3, .inr (3, [.int c3, .ref e3, .int 0]))] [] sz)) (va_Qi (fun (r : Int32) (_ : Unit) => True) (fun (_ : Unit) (t : State) => QW G [(h0, .inr (18, [.int 1, .ref l1, .ref l2, .ref l3, .ref l4, .ref l5, .ref l6, .int 0, .int tol, .int ag, .ref m1, .ref m2, .ref m3, .ref m4, .ref m5, .ref m6]))] [] (va_A [(h0, .inr (18, [.int th, .ref l1, .ref l2, .ref l3, .ref l4, .ref l5, .ref l6, .int 0, .int tol, .int ag, .ref m1, .ref m2, .ref m3, .ref m4, .ref m5, .ref m6])), (l3, .inr (3, [.int c3, .ref e3, .int 0]))] sz) t) (va_A [(h0, .inr (18, [.int th, .ref l1, .ref l2, .ref l3, .ref l4, .ref l5, .ref l6, .int 0, .int tol, .int ag, .ref m1, .ref m2, .ref m3, .ref m4, .ref m5, .ref m6])), (l3, .inr (3, [.int c3, .ref e3, .int 0]))] sz)) 0 0 (va_A [(h0, .inr (18, [.int th, .ref l1, .ref l2, .ref l3, .ref l4, .ref l5, .ref l6, .int 0, .int tol, .int ag, .ref m1, .ref m2, .ref m3, .ref m4, .ref m5, .ref m6])), (l3, .inr (3, [.int c3, .ref e3, .int 0]))] sz) := by
  refine Met.ofW (cc := cX14_tariff) (maxL := 5) (ret := (Option.some Jvm.ClassFile.FieldType.int)) (by decide) rfl ?_
  intro p e s m args below meth c s₁ B hml hv
  obtain ⟨rfl, rfl, hP, hK, hD0, hG⟩ := hv
  have hx := B.exec
  have hb := B.bytes
  have hr := B.returns
  have hts := atoms_spec (ws := wz_X14_tariff) B.pre
  have hg : ∀ w ∈ lw_good, w.before _ s = true := fun w h => hts w (List.mem_cons_of_mem _ h)
  have hown : s.vm.findClass RX14 = some m.cls := findClass_of_methodNamed B.named
  have hlocks := B.notSynchronized
  have hD := hD0.self (sz := s.heap.size)
  generalize hAe : va_A [(h0, .inr (18, [.int th, .ref l1, .ref l2, .ref l3, .ref l4, .ref l5, .ref l6, .int 0, .int tol, .int ag, .ref m1, .ref m2, .ref m3, .ref m4, .ref m5, .ref m6])), (l3, .inr (3, [.int c3, .ref e3, .int 0]))] s.heap.size = A at hD hG ⊢
  have hA : ∀ q : Nat, s.heap.size ≤ q → A q := fun q h => by rw [← hAe]; exact Or.inr h
  have hS : va_S A s.heap s.heap [] := va_S.rf
  have hl := lv_entry ([.ref h0, .int p0]) (n := 5) (Nat.le_of_ble_eq_true rfl)
  rw [lg_entry_eq]
  generalize (lg_sl ([.ref h0, .int p0]) ++ List.replicate (5 - (lg_sl ([.ref h0, .int p0])).length) Slot.unset).toArray = ls at hl ⊢
  have hl : lv_has ls 5 [(0, .ref h0), (1, .int p0)] := hl
  refine lv_aload_n hx hb dX14_tariff_0 rfl (lv_at hl 0 rfl) ?_
  refine lv_iload_n hx hb dX14_tariff_1 rfl (lv_at hl 1 rfl) ?_
  refine lv_iconst (v := 0) hx hb dX14_tariff_2 (by decide) ?_
  refine lv_aload_n hx hb dX14_tariff_3 rfl (lv_at hl 0 rfl) ?_
  refine va_get (D := G) (ci := 18) (v := .ref l3) (C := RX14) (T := TX14) (N := 16) hx hb hg in_X14 hown hK hP 0 rfl rfl 3 (by decide) (hg _ q1190) (fun _ h9 => h9) rfl dX14_tariff_4 ?_
  have hPc := hP.sub (ws' := [(l3, .inr (3, [.int c3, .ref e3, .int 0]))]) [1] rfl
  have hKc := hK.sub (tys' := []) [] rfl
  refine va_calli (va_runV (As := []) (rest := [.int 0, .int p0, .ref h0]) ⟨hx, hb, hml, hown, hts⟩ (k_Jx4a65c_size_8abf5 l G z l3 c3 e3 0 s.heap.size ) (cwV 0 hts (lw_goodApp (lw_4 q1247 q161 q162 q4) q163) rfl rfl rfl (by decide +kernel) ⟨Nat.le_of_ble_eq_true rfl, Nat.le_of_ble_eq_true rfl⟩) ⟨PR.blind, va_recv hK hP (ci := 3) (q0 := 1) rfl rfl, PR.of hPc hKc hG hS hA [.ref l3]⟩ rfl rfl hl.1 rfl (lv_room (Nat.le_of_ble_eq_true rfl)) dX14_tariff_7 ⟨Nat.le_of_ble_eq_true rfl, Nat.le_of_ble_eq_true rfl⟩) hS (fun q h9 h => zN.not h9 h) (fun q h => hA q (Nat.le_trans hS.1 h)) (fun r_2 u t_4 H_1 locs ht hvm hw_3 hB hz1 hk1 hS => ?_)
  have hP := hP.grown hk1
  refine W.widen (k := 0) (n := 0) (Nat.le_of_ble_eq_true rfl) (Nat.le_of_ble_eq_true rfl) ?_
  obtain rfl : 0 = r_2 := hw_3.symm
  refine lv_iconst (v := 1) hx hb dX14_tariff_10 (by decide) ?_
  refine lv_isub hx hb dX14_tariff_11 ?_
  refine lv_topi (fun f_5 ef_5 => ?_)
  obtain rfl : f_5 = -1 := ef_5.trans (by decide)
  have hPc := hP.sub (ws' := []) [] rfl
  have hKc := hK.sub (tys' := []) [] rfl
  refine va_calli (va_runS (As := [.int p0, .int 0, .int (-1)]) (rest := [.ref h0]) ⟨hx, hb, hml, hown, hts⟩ (k_X14_in_e l G z p0 H_1.size ) (va_cwS 3 hts (lw_goodApp (lw_3 q1244 q1245 q7) q1246) rfl rfl rfl (by decide +kernel) ⟨Nat.le_of_ble_eq_true rfl, Nat.le_of_ble_eq_true rfl⟩) ⟨PR.blind, PR.of hPc hKc hG hS hA [.int p0, .int 0, .int (-1)]⟩ rfl rfl hl.1 rfl (lv_room (Nat.le_of_ble_eq_true rfl)) dX14_tariff_12 ⟨Nat.le_of_ble_eq_true rfl, Nat.le_of_ble_eq_true rfl⟩) hS (fun q h9 h => zN.not h9 h) (fun q h => hA q (Nat.le_trans hS.1 h)) (fun r_7 u t_9 H_6 locs ht hvm hw_8 hB hz1 hk1 hS => ?_)
  have hP := hP.grown hk1
  refine W.widen (k := 0) (n := 0) (Nat.le_of_ble_eq_true rfl) (Nat.le_of_ble_eq_true rfl) ?_
  obtain rfl : 0 = r_7 := hw_8.symm
  refine lv_if_eq (tgt := 22) hx hb dX14_tariff_15 (by decide) (fun c_10 => ?_) (fun c_10 => absurd rfl c_10)
  refine lv_iconst (v := 1) hx hb dX14_tariff_22 (by decide) ?_
  have hPc := hP.sub (ws' := [(h0, .inr (18, [.int th, .ref l1, .ref l2, .ref l3, .ref l4, .ref l5, .ref l6, .int 0, .int tol, .int ag, .ref m1, .ref m2, .ref m3, .ref m4, .ref m5, .ref m6]))]) [0] rfl
  have hKc := hK.sub (tys' := []) [] rfl
  have hDc := hD.sub (ws' := [(h0, .inr (18, [.int th, .ref l1, .ref l2, .ref l3, .ref l4, .ref l5, .ref l6, .int 0, .int tol, .int ag, .ref m1, .ref m2, .ref m3, .ref m4, .ref m5, .ref m6]))]) [0] (by decide) rfl
  have hFc := va_free (wc := [(h0, .inr (18, [.int th, .ref l1, .ref l2, .ref l3, .ref l4, .ref l5, .ref l6, .int 0, .int tol, .int ag, .ref m1, .ref m2, .ref m3, .ref m4, .ref m5, .ref m6]))]) hD hS hA [0] rfl
  refine va_calli (va_runV (As := [.int 1]) (rest := []) ⟨hx, hb, hml, hown, hts⟩ (k_X14_fails_1 l G z h0 th l1 l2 l3 l4 l5 l6 tol ag m1 m2 m3 m4 m5 m6 1 H_6.size (by decide)) (cwV 1 hts (lw_goodApp (lw_4 q1248 q1250 qs23 q7) q1251) rfl rfl rfl (by decide +kernel) ⟨Nat.le_of_ble_eq_true rfl, Nat.le_of_ble_eq_true rfl⟩) ⟨PW.blind, va_recv hK hP (ci := 18) (q0 := 0) rfl rfl, PW.of hPc hKc hDc hG hS hFc [.ref h0, .int 1]⟩ rfl rfl hl.1 rfl (lv_room (Nat.le_of_ble_eq_true rfl)) dX14_tariff_23 ⟨Nat.le_of_ble_eq_true rfl, Nat.le_of_ble_eq_true rfl⟩) hS (fun q _ h => hFc q h) hFc (fun r_12 u t_14 H_11 locs ht hvm hw_13 hB hz1 hk1 hS => ?_)
  obtain ⟨hP, hD, hK⟩ := QW.join (wr := [(l3, .inr (3, [.int c3, .ref e3, .int 0]))]) (w1 := [(h0, .inr (18, [.int 1, .ref l1, .ref l2, .ref l3, .ref l4, .ref l5, .ref l6, .int 0, .int tol, .int ag, .ref m1, .ref m2, .ref m3, .ref m4, .ref m5, .ref m6]))]) hP hD hK [0] [1] rfl rfl (by decide) (by decide) hk1 hFc ht hvm hB
  have hP : va_P G vwCl ([(l3, .inr (3, [.int c3, .ref e3, .int 0])), (h0, .inr (18, [.int 1, .ref l1, .ref l2, .ref l3, .ref l4, .ref l5, .ref l6, .int 0, .int tol, .int ag, .ref m1, .ref m2, .ref m3, .ref m4, .ref m5, .ref m6]))]) H_11 := hP
  have hD : va_D A ([(l3, .inr (3, [.int c3, .ref e3, .int 0])), (h0, .inr (18, [.int 1, .ref l1, .ref l2, .ref l3, .ref l4, .ref l5, .ref l6, .int 0, .int tol, .int ag, .ref m1, .ref m2, .ref m3, .ref m4, .ref m5, .ref m6]))]) := hD
  have hK : va_K G vwCl [] s := hK
  refine W.widen (k := 0) (n := 0) (Nat.le_of_ble_eq_true rfl) (Nat.le_of_ble_eq_true rfl) ?_
  obtain rfl : 1 = r_12 := hw_13.symm
  refine lv_if_eq (tgt := 31) hx hb dX14_tariff_26 (by decide) (fun c_15 => absurd c_15 (by decide)) (fun c_15 => ?_)
  refine lv_iconst (v := 0) hx hb dX14_tariff_29 (by decide) ?_
  refine W.widen (k := 0) (n := 0) (Nat.le_of_ble_eq_true rfl) (Nat.le_of_ble_eq_true rfl) ?_
  have hP9 := hP.sub (ws' := [(h0, .inr (18, [.int 1, .ref l1, .ref l2, .ref l3, .ref l4, .ref l5, .ref l6, .int 0, .int tol, .int ag, .ref m1, .ref m2, .ref m3, .ref m4, .ref m5, .ref m6]))]) [1] rfl
  have hD9 := hD.sub (ws' := [(h0, .inr (18, [.int 1, .ref l1, .ref l2, .ref l3, .ref l4, .ref l5, .ref l6, .int 0, .int tol, .int ag, .ref m1, .ref m2, .ref m3, .ref m4, .ref m5, .ref m6]))]) [1] (by decide) rfl
  have hK9 := hK.sub (tys' := []) [] rfl
  exact W.iret (v := 0) hx hb hr (fun t ht hW => ⟨⟨0, (), rfl, trivial, QW.of hP9 hK9 hD9 ht hW.alike⟩, hS.F ht⟩) hS.2.2 dX14_tariff_30

abbrev wz_X14_use : List Cond := .code yX14_use cX14_use 9 (Option.some Jvm.ClassFile.FieldType.int) :: lw_good
set_option maxHeartbeats 4000000 in
set_option maxRecDepth 100000 in
/-- use (reference): there is none of it yet -/
theorem k_X14_use (l : Launch) (G : va_G) (z : Nat) (h0 : Nat) (th : Int32) (l1 : Nat) (l2 : Nat) (l3 : Nat) (l4 : Nat) (l5 : Nat) (l6 : Nat) (tol : Int32) (ag : Int32) (m1 : Nat) (m2 : Nat) (m3 : Nat) (m4 : Nat) (m5 : Nat) (m6 : Nat) (c3 : Int32) (e3 : Nat) (c4 : Int32) (e4 : Nat) (p0 : Int32) (p1 : Int32) (p2 : Int32) (sz : Nat)  : Met l yX14_use wz_X14_use ({ frames := 2, cells := 0, slots := 0, locals := 43 }) (va_Pc [.ref h0, .int p0, .int p1, .int p2] (PW G z [(h0, .inr (18, [.int th, .ref l1, .ref l2, .ref l3, .ref l4, .ref l5, .ref l6, .int 0, .int tol, .int ag, .ref m1, .ref m2, .ref m3, .ref m4, .ref m5, .ref m6])), (l3, .inr (3, [.int c3, .ref e3, .int 0])), (l4, .inr (3, [.int c4, .ref e4, .int 0]))] [] sz)) (va_Qi (fun (r : Int32) (_ : Unit) => True) (fun (_ : Unit) (t : State) => QW G [(h0, .inr (18, [.int 1, .ref l1, .ref l2, .ref l3, .ref l4, .ref l5, .ref l6, .int 0, .int tol, .int ag, .ref m1, .ref m2, .ref m3, .ref m4, .ref m5, .ref m6]))] [] (va_A [(h0, .inr (18, [.int th, .ref l1, .ref l2, .ref l3, .ref l4, .ref l5, .ref l6, .int 0, .int tol, .int ag, .ref m1, .ref m2, .ref m3, .ref m4, .ref m5, .ref m6])), (l3, .inr (3, [.int c3, .ref e3, .int 0])), (l4, .inr (3, [.int c4, .ref e4, .int 0]))] sz) t) (va_A [(h0, .inr (18, [.int th, .ref l1, .ref l2, .ref l3, .ref l4, .ref l5, .ref l6, .int 0, .int tol, .int ag, .ref m1, .ref m2, .ref m3, .ref m4, .ref m5, .ref m6])), (l3, .inr (3, [.int c3, .ref e3, .int 0])), (l4, .inr (3, [.int c4, .ref e4, .int 0]))] sz)) 0 0 (va_A [(h0, .inr (18, [.int th, .ref l1, .ref l2, .ref l3, .ref l4, .ref l5, .ref l6, .int 0, .int tol, .int ag, .ref m1, .ref m2, .ref m3, .ref m4, .ref m5, .ref m6])), (l3, .inr (3, [.int c3, .ref e3, .int 0])), (l4, .inr (3, [.int c4, .ref e4, .int 0]))] sz) := by
  refine Met.ofW (cc := cX14_use) (maxL := 9) (ret := (Option.some Jvm.ClassFile.FieldType.int)) (by decide) rfl ?_
  intro p e s m args below meth c s₁ B hml hv
  obtain ⟨rfl, rfl, hP, hK, hD0, hG⟩ := hv
  have hx := B.exec
  have hb := B.bytes
  have hr := B.returns
  have hts := atoms_spec (ws := wz_X14_use) B.pre
  have hg : ∀ w ∈ lw_good, w.before _ s = true := fun w h => hts w (List.mem_cons_of_mem _ h)
  have hown : s.vm.findClass RX14 = some m.cls := findClass_of_methodNamed B.named
  have hlocks := B.notSynchronized
  have hD := hD0.self (sz := s.heap.size)
  generalize hAe : va_A [(h0, .inr (18, [.int th, .ref l1, .ref l2, .ref l3, .ref l4, .ref l5, .ref l6, .int 0, .int tol, .int ag, .ref m1, .ref m2, .ref m3, .ref m4, .ref m5, .ref m6])), (l3, .inr (3, [.int c3, .ref e3, .int 0])), (l4, .inr (3, [.int c4, .ref e4, .int 0]))] s.heap.size = A at hD hG ⊢
  have hA : ∀ q : Nat, s.heap.size ≤ q → A q := fun q h => by rw [← hAe]; exact Or.inr h
  have hS : va_S A s.heap s.heap [] := va_S.rf
  have hl := lv_entry ([.ref h0, .int p0, .int p1, .int p2]) (n := 9) (Nat.le_of_ble_eq_true rfl)
  rw [lg_entry_eq]
  generalize (lg_sl ([.ref h0, .int p0, .int p1, .int p2]) ++ List.replicate (9 - (lg_sl ([.ref h0, .int p0, .int p1, .int p2])).length) Slot.unset).toArray = ls at hl ⊢
  have hl : lv_has ls 9 [(0, .ref h0), (1, .int p0), (2, .int p1), (3, .int p2)] := hl
  refine lv_aload_n hx hb dX14_use_0 rfl (lv_at hl 0 rfl) ?_
  refine lv_aload_n hx hb dX14_use_1 rfl (lv_at hl 0 rfl) ?_
  refine lv_iload_n hx hb dX14_use_2 rfl (lv_at hl 1 rfl) ?_
  have hPc := hP.sub (ws' := [(h0, .inr (18, [.int th, .ref l1, .ref l2, .ref l3, .ref l4, .ref l5, .ref l6, .int 0, .int tol, .int ag, .ref m1, .ref m2, .ref m3, .ref m4, .ref m5, .ref m6])), (l4, .inr (3, [.int c4, .ref e4, .int 0]))]) [0, 2] rfl
  have hKc := hK.sub (tys' := []) [] rfl
  refine va_calli (va_runV (As := [.int p0]) (rest := [.ref h0]) ⟨hx, hb, hml, hown, hts⟩ (k_X14_isDocument l G z h0 th l1 l2 l3 l4 l5 l6 tol ag m1 m2 m3 m4 m5 m6 c4 e4 p0 s.heap.size ) (cwV 1 hts (lw_goodApp (lw_4 q1536 q1538 qs27 q7) q1539) rfl rfl rfl (by decide +kernel) ⟨Nat.le_of_ble_eq_true rfl, Nat.le_of_ble_eq_true rfl⟩) ⟨PR.blind, va_recv hK hP (ci := 18) (q0 := 0) rfl rfl, PR.of hPc hKc hG hS hA [.ref h0, .int p0]⟩ rfl rfl hl.1 rfl (lv_room (Nat.le_of_ble_eq_true rfl)) dX14_use_3 ⟨Nat.le_of_ble_eq_true rfl, Nat.le_of_ble_eq_true rfl⟩) hS (fun q h9 h => zN.not h9 h) (fun q h => hA q (Nat.le_trans hS.1 h)) (fun r_2 u t_4 H_1 locs ht hvm hw_3 hB hz1 hk1 hS => ?_)
  have hP := hP.grown hk1
  refine W.widen (k := 0) (n := 0) (Nat.le_of_ble_eq_true rfl) (Nat.le_of_ble_eq_true rfl) ?_
  obtain rfl : 0 = r_2 := hw_3.symm
  refine lv_if_eq (tgt := 30) hx hb dX14_use_6 (by decide) (fun c_5 => ?_) (fun c_5 => absurd rfl c_5)
  refine lv_iconst (v := 1) hx hb dX14_use_30 (by decide) ?_
  have hPc := hP.sub (ws' := [(h0, .inr (18, [.int th, .ref l1, .ref l2, .ref l3, .ref l4, .ref l5, .ref l6, .int 0, .int tol, .int ag, .ref m1, .ref m2, .ref m3, .ref m4, .ref m5, .ref m6]))]) [0] rfl
  have hKc := hK.sub (tys' := []) [] rfl
  have hDc := hD.sub (ws' := [(h0, .inr (18, [.int th, .ref l1, .ref l2, .ref l3, .ref l4, .ref l5, .ref l6, .int 0, .int tol, .int ag, .ref m1, .ref m2, .ref m3, .ref m4, .ref m5, .ref m6]))]) [0] (by decide) rfl
  have hFc := va_free (wc := [(h0, .inr (18, [.int th, .ref l1, .ref l2, .ref l3, .ref l4, .ref l5, .ref l6, .int 0, .int tol, .int ag, .ref m1, .ref m2, .ref m3, .ref m4, .ref m5, .ref m6]))]) hD hS hA [0] rfl
  refine va_calli (va_runV (As := [.int 1]) (rest := []) ⟨hx, hb, hml, hown, hts⟩ (k_X14_fails_1 l G z h0 th l1 l2 l3 l4 l5 l6 tol ag m1 m2 m3 m4 m5 m6 1 H_1.size (by decide)) (cwV 1 hts (lw_goodApp (lw_4 q1248 q1250 qs23 q7) q1251) rfl rfl rfl (by decide +kernel) ⟨Nat.le_of_ble_eq_true rfl, Nat.le_of_ble_eq_true rfl⟩) ⟨PW.blind, va_recv hK hP (ci := 18) (q0 := 0) rfl rfl, PW.of hPc hKc hDc hG hS hFc [.ref h0, .int 1]⟩ rfl rfl hl.1 rfl (lv_room (Nat.le_of_ble_eq_true rfl)) dX14_use_31 ⟨Nat.le_of_ble_eq_true rfl, Nat.le_of_ble_eq_true rfl⟩) hS (fun q _ h => hFc q h) hFc (fun r_7 u t_9 H_6 locs ht hvm hw_8 hB hz1 hk1 hS => ?_)
  obtain ⟨hP, hD, hK⟩ := QW.join (wr := [(l3, .inr (3, [.int c3, .ref e3, .int 0])), (l4, .inr (3, [.int c4, .ref e4, .int 0]))]) (w1 := [(h0, .inr (18, [.int 1, .ref l1, .ref l2, .ref l3, .ref l4, .ref l5, .ref l6, .int 0, .int tol, .int ag, .ref m1, .ref m2, .ref m3, .ref m4, .ref m5, .ref m6]))]) hP hD hK [0] [1, 2] rfl rfl (by decide) (by decide) hk1 hFc ht hvm hB
  have hP : va_P G vwCl ([(l3, .inr (3, [.int c3, .ref e3, .int 0])), (l4, .inr (3, [.int c4, .ref e4, .int 0])), (h0, .inr (18, [.int 1, .ref l1, .ref l2, .ref l3, .ref l4, .ref l5, .ref l6, .int 0, .int tol, .int ag, .ref m1, .ref m2, .ref m3, .ref m4, .ref m5, .ref m6]))]) H_6 := hP
  have hD : va_D A ([(l3, .inr (3, [.int c3, .ref e3, .int 0])), (l4, .inr (3, [.int c4, .ref e4, .int 0])), (h0, .inr (18, [.int 1, .ref l1, .ref l2, .ref l3, .ref l4, .ref l5, .ref l6, .int 0, .int tol, .int ag, .ref m1, .ref m2, .ref m3, .ref m4, .ref m5, .ref m6]))]) := hD
  have hK : va_K G vwCl [] s := hK
  refine W.widen (k := 0) (n := 0) (Nat.le_of_ble_eq_true rfl) (Nat.le_of_ble_eq_true rfl) ?_
  obtain rfl : 1 = r_7 := hw_8.symm
  refine lv_if_ne (tgt := 59) hx hb dX14_use_34 (by decide) (fun c_10 => ?_) (fun c_10 => absurd c_10 (by decide))
  refine lv_iconst (v := 0) hx hb dX14_use_59 (by decide) ?_
  refine W.widen (k := 0) (n := 0) (Nat.le_of_ble_eq_true rfl) (Nat.le_of_ble_eq_true rfl) ?_
  have hP9 := hP.sub (ws' := [(h0, .inr (18, [.int 1, .ref l1, .ref l2, .ref l3, .ref l4, .ref l5, .ref l6, .int 0, .int tol, .int ag, .ref m1, .ref m2, .ref m3, .ref m4, .ref m5, .ref m6]))]) [2] rfl
  have hD9 := hD.sub (ws' := [(h0, .inr (18, [.int 1, .ref l1, .ref l2, .ref l3, .ref l4, .ref l5, .ref l6, .int 0, .int tol, .int ag, .ref m1, .ref m2, .ref m3, .ref m4, .ref m5, .ref m6]))]) [2] (by decide) rfl
  have hK9 := hK.sub (tys' := []) [] rfl
  exact W.iret (v := 0) hx hb hr (fun t ht hW => ⟨⟨0, (), rfl, trivial, QW.of hP9 hK9 hD9 ht hW.alike⟩, hS.F ht⟩) hS.2.2 dX14_use_60

abbrev wz_X14_cancel : List Cond := .code yX14_cancel cX14_cancel 6 (Option.some Jvm.ClassFile.FieldType.boolean) :: lw_good
set_option maxHeartbeats 4000000 in
set_option maxRecDepth 100000 in
/-- cancel (reference): there is none of it yet -/
theorem k_X14_cancel (l : Launch) (G : va_G) (z : Nat) (h0 : Nat) (th : Int32) (l1 : Nat) (l2 : Nat) (l3 : Nat) (l4 : Nat) (l5 : Nat) (l6 : Nat) (tol : Int32) (ag : Int32) (m1 : Nat) (m2 : Nat) (m3 : Nat) (m4 : Nat) (m5 : Nat) (m6 : Nat) (c4 : Int32) (e4 : Nat) (p0 : Int32) (p1 : Int32) (p2 : Int32) (p3 : Int32) (sz : Nat)  : Met l yX14_cancel wz_X14_cancel ({ frames := 3, cells := 0, slots := 0, locals := 64 }) (va_Pc [.ref h0, .int p0, .int p1, .int p2, .int p3] (PW G z [(h0, .inr (18, [.int th, .ref l1, .ref l2, .ref l3, .ref l4, .ref l5, .ref l6, .int 0, .int tol, .int ag, .ref m1, .ref m2, .ref m3, .ref m4, .ref m5, .ref m6])), (l4, .inr (3, [.int c4, .ref e4, .int 0]))] [] sz)) (va_Qi (fun (r : Int32) (_ : Unit) => True) (fun (_ : Unit) (t : State) => QW G [(h0, .inr (18, [.int 1, .ref l1, .ref l2, .ref l3, .ref l4, .ref l5, .ref l6, .int 0, .int tol, .int ag, .ref m1, .ref m2, .ref m3, .ref m4, .ref m5, .ref m6]))] [] (va_A [(h0, .inr (18, [.int th, .ref l1, .ref l2, .ref l3, .ref l4, .ref l5, .ref l6, .int 0, .int tol, .int ag, .ref m1, .ref m2, .ref m3, .ref m4, .ref m5, .ref m6])), (l4, .inr (3, [.int c4, .ref e4, .int 0]))] sz) t) (va_A [(h0, .inr (18, [.int th, .ref l1, .ref l2, .ref l3, .ref l4, .ref l5, .ref l6, .int 0, .int tol, .int ag, .ref m1, .ref m2, .ref m3, .ref m4, .ref m5, .ref m6])), (l4, .inr (3, [.int c4, .ref e4, .int 0]))] sz)) 0 0 (va_A [(h0, .inr (18, [.int th, .ref l1, .ref l2, .ref l3, .ref l4, .ref l5, .ref l6, .int 0, .int tol, .int ag, .ref m1, .ref m2, .ref m3, .ref m4, .ref m5, .ref m6])), (l4, .inr (3, [.int c4, .ref e4, .int 0]))] sz) := by
  refine Met.ofW (cc := cX14_cancel) (maxL := 6) (ret := (Option.some Jvm.ClassFile.FieldType.boolean)) (by decide) rfl ?_
  intro p e s m args below meth c s₁ B hml hv
  obtain ⟨rfl, rfl, hP, hK, hD0, hG⟩ := hv
  have hx := B.exec
  have hb := B.bytes
  have hr := B.returns
  have hts := atoms_spec (ws := wz_X14_cancel) B.pre
  have hg : ∀ w ∈ lw_good, w.before _ s = true := fun w h => hts w (List.mem_cons_of_mem _ h)
  have hown : s.vm.findClass RX14 = some m.cls := findClass_of_methodNamed B.named
  have hlocks := B.notSynchronized
  have hD := hD0.self (sz := s.heap.size)
  generalize hAe : va_A [(h0, .inr (18, [.int th, .ref l1, .ref l2, .ref l3, .ref l4, .ref l5, .ref l6, .int 0, .int tol, .int ag, .ref m1, .ref m2, .ref m3, .ref m4, .ref m5, .ref m6])), (l4, .inr (3, [.int c4, .ref e4, .int 0]))] s.heap.size = A at hD hG ⊢
  have hA : ∀ q : Nat, s.heap.size ≤ q → A q := fun q h => by rw [← hAe]; exact Or.inr h
  have hS : va_S A s.heap s.heap [] := va_S.rf
  have hl := lv_entry ([.ref h0, .int p0, .int p1, .int p2, .int p3]) (n := 6) (Nat.le_of_ble_eq_true rfl)
  rw [lg_entry_eq]
  generalize (lg_sl ([.ref h0, .int p0, .int p1, .int p2, .int p3]) ++ List.replicate (6 - (lg_sl ([.ref h0, .int p0, .int p1, .int p2, .int p3])).length) Slot.unset).toArray = ls at hl ⊢
  have hl : lv_has ls 6 [(0, .ref h0), (1, .int p0), (2, .int p1), (3, .int p2), (4, .int p3)] := hl
  refine lv_aload_n hx hb dX14_cancel_0 rfl (lv_at hl 0 rfl) ?_
  refine lv_iload_n hx hb dX14_cancel_1 rfl (lv_at hl 1 rfl) ?_
  have hPc := hP.sub (ws' := [(h0, .inr (18, [.int th, .ref l1, .ref l2, .ref l3, .ref l4, .ref l5, .ref l6, .int 0, .int tol, .int ag, .ref m1, .ref m2, .ref m3, .ref m4, .ref m5, .ref m6])), (l4, .inr (3, [.int c4, .ref e4, .int 0]))]) [0, 1] rfl
  have hKc := hK.sub (tys' := []) [] rfl
  have hDc := hD.sub (ws' := [(h0, .inr (18, [.int th, .ref l1, .ref l2, .ref l3, .ref l4, .ref l5, .ref l6, .int 0, .int tol, .int ag, .ref m1, .ref m2, .ref m3, .ref m4, .ref m5, .ref m6])), (l4, .inr (3, [.int c4, .ref e4, .int 0]))]) [0, 1] (by decide) rfl
  have hFc := va_free (wc := [(h0, .inr (18, [.int th, .ref l1, .ref l2, .ref l3, .ref l4, .ref l5, .ref l6, .int 0, .int tol, .int ag, .ref m1, .ref m2, .ref m3, .ref m4, .ref m5, .ref m6])), (l4, .inr (3, [.int c4, .ref e4, .int 0]))]) hD hS hA [0, 1] rfl
  refine va_calli (va_runV (As := [.int p0]) (rest := []) ⟨hx, hb, hml, hown, hts⟩ (k_X14_failsDocument l G z h0 th l1 l2 l3 l4 l5 l6 tol ag m1 m2 m3 m4 m5 m6 c4 e4 p0 s.heap.size ) (cwV 1 hts (lw_goodApp (lw_4 q1544 q1546 qs28 q7) q1547) rfl rfl rfl (by decide +kernel) ⟨Nat.le_of_ble_eq_true rfl, Nat.le_of_ble_eq_true rfl⟩) ⟨PW.blind, va_recv hK hP (ci := 18) (q0 := 0) rfl rfl, PW.of hPc hKc hDc hG hS hFc [.ref h0, .int p0]⟩ rfl rfl hl.1 rfl (lv_room (Nat.le_of_ble_eq_true rfl)) dX14_cancel_2 ⟨Nat.le_of_ble_eq_true rfl, Nat.le_of_ble_eq_true rfl⟩) hS (fun q _ h => hFc q h) hFc (fun r_2 u t_4 H_1 locs ht hvm hw_3 hB hz1 hk1 hS => ?_)
  obtain ⟨hP, hD, hK⟩ := QW.join (wr := []) (w1 := [(h0, .inr (18, [.int 1, .ref l1, .ref l2, .ref l3, .ref l4, .ref l5, .ref l6, .int 0, .int tol, .int ag, .ref m1, .ref m2, .ref m3, .ref m4, .ref m5, .ref m6])), (l4, .inr (3, [.int c4, .ref e4, .int 0]))]) hP hD hK [0, 1] [] rfl rfl (by decide) (by decide) hk1 hFc ht hvm hB
  have hP : va_P G vwCl ([(h0, .inr (18, [.int 1, .ref l1, .ref l2, .ref l3, .ref l4, .ref l5, .ref l6, .int 0, .int tol, .int ag, .ref m1, .ref m2, .ref m3, .ref m4, .ref m5, .ref m6])), (l4, .inr (3, [.int c4, .ref e4, .int 0]))]) H_1 := hP
  have hD : va_D A ([(h0, .inr (18, [.int 1, .ref l1, .ref l2, .ref l3, .ref l4, .ref l5, .ref l6, .int 0, .int tol, .int ag, .ref m1, .ref m2, .ref m3, .ref m4, .ref m5, .ref m6])), (l4, .inr (3, [.int c4, .ref e4, .int 0]))]) := hD
  have hK : va_K G vwCl [] s := hK
  refine W.widen (k := 0) (n := 0) (Nat.le_of_ble_eq_true rfl) (Nat.le_of_ble_eq_true rfl) ?_
  obtain rfl : 1 = r_2 := hw_3.symm
  refine lv_if_ne (tgt := 58) hx hb dX14_cancel_5 (by decide) (fun c_5 => ?_) (fun c_5 => absurd c_5 (by decide))
  refine lv_iconst (v := 0) hx hb dX14_cancel_58 (by decide) ?_
  refine W.widen (k := 0) (n := 0) (Nat.le_of_ble_eq_true rfl) (Nat.le_of_ble_eq_true rfl) ?_
  have hP9 := hP.sub (ws' := [(h0, .inr (18, [.int 1, .ref l1, .ref l2, .ref l3, .ref l4, .ref l5, .ref l6, .int 0, .int tol, .int ag, .ref m1, .ref m2, .ref m3, .ref m4, .ref m5, .ref m6]))]) [0] rfl
  have hD9 := hD.sub (ws' := [(h0, .inr (18, [.int 1, .ref l1, .ref l2, .ref l3, .ref l4, .ref l5, .ref l6, .int 0, .int tol, .int ag, .ref m1, .ref m2, .ref m3, .ref m4, .ref m5, .ref m6]))]) [0] (by decide) rfl
  have hK9 := hK.sub (tys' := []) [] rfl
  exact W.zret (v := 0) hx hb hr rfl (fun t ht hW => ⟨⟨0, (), rfl, trivial, QW.of hP9 hK9 hD9 ht hW.alike⟩, hS.F ht⟩) hS.2.2 dX14_cancel_59

abbrev wz_X14_cancels : List Cond := .code yX14_cancels cX14_cancels 7 (Option.some Jvm.ClassFile.FieldType.int) :: lw_good
set_option maxHeartbeats 4000000 in
set_option maxRecDepth 100000 in
/-- cancels (reference): there is none of it yet -/
theorem k_X14_cancels (l : Launch) (G : va_G) (z : Nat) (h0 : Nat) (th : Int32) (l1 : Nat) (l2 : Nat) (l3 : Nat) (l4 : Nat) (l5 : Nat) (l6 : Nat) (tol : Int32) (ag : Int32) (m1 : Nat) (m2 : Nat) (m3 : Nat) (m4 : Nat) (m5 : Nat) (m6 : Nat) (c4 : Int32) (e4 : Nat) (p0 : Int32) (p1 : Int32) (sz : Nat)  : Met l yX14_cancels wz_X14_cancels ({ frames := 3, cells := 0, slots := 0, locals := 64 }) (va_Pc [.ref h0, .int p0, .int p1] (PW G z [(h0, .inr (18, [.int th, .ref l1, .ref l2, .ref l3, .ref l4, .ref l5, .ref l6, .int 0, .int tol, .int ag, .ref m1, .ref m2, .ref m3, .ref m4, .ref m5, .ref m6])), (l4, .inr (3, [.int c4, .ref e4, .int 0]))] [] sz)) (va_Qi (fun (r : Int32) (_ : Unit) => True) (fun (_ : Unit) (t : State) => QW G [(h0, .inr (18, [.int 1, .ref l1, .ref l2, .ref l3, .ref l4, .ref l5, .ref l6, .int 0, .int tol, .int ag, .ref m1, .ref m2, .ref m3, .ref m4, .ref m5, .ref m6]))] [] (va_A [(h0, .inr (18, [.int th, .ref l1, .ref l2, .ref l3, .ref l4, .ref l5, .ref l6, .int 0, .int tol, .int ag, .ref m1, .ref m2, .ref m3, .ref m4, .ref m5, .ref m6])), (l4, .inr (3, [.int c4, .ref e4, .int 0]))] sz) t) (va_A [(h0, .inr (18, [.int th, .ref l1, .ref l2, .ref l3, .ref l4, .ref l5, .ref l6, .int 0, .int tol, .int ag, .ref m1, .ref m2, .ref m3, .ref m4, .ref m5, .ref m6])), (l4, .inr (3, [.int c4, .ref e4, .int 0]))] sz)) 0 0 (va_A [(h0, .inr (18, [.int th, .ref l1, .ref l2, .ref l3, .ref l4, .ref l5, .ref l6, .int 0, .int tol, .int ag, .ref m1, .ref m2, .ref m3, .ref m4, .ref m5, .ref m6])), (l4, .inr (3, [.int c4, .ref e4, .int 0]))] sz) := by
  refine Met.ofW (cc := cX14_cancels) (maxL := 7) (ret := (Option.some Jvm.ClassFile.FieldType.int)) (by decide) rfl ?_
  intro p e s m args below meth c s₁ B hml hv
  obtain ⟨rfl, rfl, hP, hK, hD0, hG⟩ := hv
  have hx := B.exec
  have hb := B.bytes
  have hr := B.returns
  have hts := atoms_spec (ws := wz_X14_cancels) B.pre
  have hg : ∀ w ∈ lw_good, w.before _ s = true := fun w h => hts w (List.mem_cons_of_mem _ h)
  have hown : s.vm.findClass RX14 = some m.cls := findClass_of_methodNamed B.named
  have hlocks := B.notSynchronized
  have hD := hD0.self (sz := s.heap.size)
  generalize hAe : va_A [(h0, .inr (18, [.int th, .ref l1, .ref l2, .ref l3, .ref l4, .ref l5, .ref l6, .int 0, .int tol, .int ag, .ref m1, .ref m2, .ref m3, .ref m4, .ref m5, .ref m6])), (l4, .inr (3, [.int c4, .ref e4, .int 0]))] s.heap.size = A at hD hG ⊢
  have hA : ∀ q : Nat, s.heap.size ≤ q → A q := fun q h => by rw [← hAe]; exact Or.inr h
  have hS : va_S A s.heap s.heap [] := va_S.rf
  have hl := lv_entry ([.ref h0, .int p0, .int p1]) (n := 7) (Nat.le_of_ble_eq_true rfl)
  rw [lg_entry_eq]
  generalize (lg_sl ([.ref h0, .int p0, .int p1]) ++ List.replicate (7 - (lg_sl ([.ref h0, .int p0, .int p1])).length) Slot.unset).toArray = ls at hl ⊢
  have hl : lv_has ls 7 [(0, .ref h0), (1, .int p0), (2, .int p1)] := hl
  refine lv_aload_n hx hb dX14_cancels_0 rfl (lv_at hl 0 rfl) ?_
  refine lv_iload_n hx hb dX14_cancels_1 rfl (lv_at hl 1 rfl) ?_
  have hPc := hP.sub (ws' := [(h0, .inr (18, [.int th, .ref l1, .ref l2, .ref l3, .ref l4, .ref l5, .ref l6, .int 0, .int tol, .int ag, .ref m1, .ref m2, .ref m3, .ref m4, .ref m5, .ref m6])), (l4, .inr (3, [.int c4, .ref e4, .int 0]))]) [0, 1] rfl
  have hKc := hK.sub (tys' := []) [] rfl
  have hDc := hD.sub (ws' := [(h0, .inr (18, [.int th, .ref l1, .ref l2, .ref l3, .ref l4, .ref l5, .ref l6, .int 0, .int tol, .int ag, .ref m1, .ref m2, .ref m3, .ref m4, .ref m5, .ref m6])), (l4, .inr (3, [.int c4, .ref e4, .int 0]))]) [0, 1] (by decide) rfl
  have hFc := va_free (wc := [(h0, .inr (18, [.int th, .ref l1, .ref l2, .ref l3, .ref l4, .ref l5, .ref l6, .int 0, .int tol, .int ag, .ref m1, .ref m2, .ref m3, .ref m4, .ref m5, .ref m6])), (l4, .inr (3, [.int c4, .ref e4, .int 0]))]) hD hS hA [0, 1] rfl
  refine va_calli (va_runV (As := [.int p0]) (rest := []) ⟨hx, hb, hml, hown, hts⟩ (k_X14_failsDocument l G z h0 th l1 l2 l3 l4 l5 l6 tol ag m1 m2 m3 m4 m5 m6 c4 e4 p0 s.heap.size ) (cwV 1 hts (lw_goodApp (lw_4 q1544 q1546 qs28 q7) q1547) rfl rfl rfl (by decide +kernel) ⟨Nat.le_of_ble_eq_true rfl, Nat.le_of_ble_eq_true rfl⟩) ⟨PW.blind, va_recv hK hP (ci := 18) (q0 := 0) rfl rfl, PW.of hPc hKc hDc hG hS hFc [.ref h0, .int p0]⟩ rfl rfl hl.1 rfl (lv_room (Nat.le_of_ble_eq_true rfl)) dX14_cancels_2 ⟨Nat.le_of_ble_eq_true rfl, Nat.le_of_ble_eq_true rfl⟩) hS (fun q _ h => hFc q h) hFc (fun r_2 u t_4 H_1 locs ht hvm hw_3 hB hz1 hk1 hS => ?_)
  obtain ⟨hP, hD, hK⟩ := QW.join (wr := []) (w1 := [(h0, .inr (18, [.int 1, .ref l1, .ref l2, .ref l3, .ref l4, .ref l5, .ref l6, .int 0, .int tol, .int ag, .ref m1, .ref m2, .ref m3, .ref m4, .ref m5, .ref m6])), (l4, .inr (3, [.int c4, .ref e4, .int 0]))]) hP hD hK [0, 1] [] rfl rfl (by decide) (by decide) hk1 hFc ht hvm hB
  have hP : va_P G vwCl ([(h0, .inr (18, [.int 1, .ref l1, .ref l2, .ref l3, .ref l4, .ref l5, .ref l6, .int 0, .int tol, .int ag, .ref m1, .ref m2, .ref m3, .ref m4, .ref m5, .ref m6])), (l4, .inr (3, [.int c4, .ref e4, .int 0]))]) H_1 := hP
  have hD : va_D A ([(h0, .inr (18, [.int 1, .ref l1, .ref l2, .ref l3, .ref l4, .ref l5, .ref l6, .int 0, .int tol, .int ag, .ref m1, .ref m2, .ref m3, .ref m4, .ref m5, .ref m6])), (l4, .inr (3, [.int c4, .ref e4, .int 0]))]) := hD
  have hK : va_K G vwCl [] s := hK
  refine W.widen (k := 0) (n := 0) (Nat.le_of_ble_eq_true rfl) (Nat.le_of_ble_eq_true rfl) ?_
  obtain rfl : 1 = r_2 := hw_3.symm
  refine lv_if_ne (tgt := 29) hx hb dX14_cancels_5 (by decide) (fun c_5 => ?_) (fun c_5 => absurd c_5 (by decide))
  refine lv_iconst (v := 0) hx hb dX14_cancels_29 (by decide) ?_
  refine W.widen (k := 0) (n := 0) (Nat.le_of_ble_eq_true rfl) (Nat.le_of_ble_eq_true rfl) ?_
  have hP9 := hP.sub (ws' := [(h0, .inr (18, [.int 1, .ref l1, .ref l2, .ref l3, .ref l4, .ref l5, .ref l6, .int 0, .int tol, .int ag, .ref m1, .ref m2, .ref m3, .ref m4, .ref m5, .ref m6]))]) [0] rfl
  have hD9 := hD.sub (ws' := [(h0, .inr (18, [.int 1, .ref l1, .ref l2, .ref l3, .ref l4, .ref l5, .ref l6, .int 0, .int tol, .int ag, .ref m1, .ref m2, .ref m3, .ref m4, .ref m5, .ref m6]))]) [0] (by decide) rfl
  have hK9 := hK.sub (tys' := []) [] rfl
  exact W.iret (v := 0) hx hb hr (fun t ht hW => ⟨⟨0, (), rfl, trivial, QW.of hP9 hK9 hD9 ht hW.alike⟩, hS.F ht⟩) hS.2.2 dX14_cancels_30

abbrev wz_X14_leafOf : List Cond := .code yX14_leafOf cX14_leafOf 4 (Option.some Jvm.ClassFile.FieldType.int) :: lw_good
set_option maxHeartbeats 4000000 in
set_option maxRecDepth 100000 in
/-- leafOf (reference): there is none of it yet -/
theorem k_X14_leafOf (l : Launch) (G : va_G) (z : Nat) (h0 : Nat) (th : Int32) (l1 : Nat) (l2 : Nat) (l3 : Nat) (l4 : Nat) (l5 : Nat) (l6 : Nat) (tol : Int32) (ag : Int32) (m1 : Nat) (m2 : Nat) (m3 : Nat) (m4 : Nat) (m5 : Nat) (m6 : Nat) (c4 : Int32) (e4 : Nat) (p0 : Int32) (p1 : Int32) (p2 : Int32) (sz : Nat)  : Met l yX14_leafOf wz_X14_leafOf ({ frames := 3, cells := 0, slots := 0, locals := 64 }) (va_Pc [.ref h0, .int p0, .int p1, .int p2] (PW G z [(h0, .inr (18, [.int th, .ref l1, .ref l2, .ref l3, .ref l4, .ref l5, .ref l6, .int 0, .int tol, .int ag, .ref m1, .ref m2, .ref m3, .ref m4, .ref m5, .ref m6])), (l4, .inr (3, [.int c4, .ref e4, .int 0]))] [] sz)) (va_Qi (fun (r : Int32) (_ : Unit) => True) (fun (_ : Unit) (t : State) => QW G [(h0, .inr (18, [.int 1, .ref l1, .ref l2, .ref l3, .ref l4, .ref l5, .ref l6, .int 0, .int tol, .int ag, .ref m1, .ref m2, .ref m3, .ref m4, .ref m5, .ref m6]))] [] (va_A [(h0, .inr (18, [.int th, .ref l1, .ref l2, .ref l3, .ref l4, .ref l5, .ref l6, .int 0, .int tol, .int ag, .ref m1, .ref m2, .ref m3, .ref m4, .ref m5, .ref m6])), (l4, .inr (3, [.int c4, .ref e4, .int 0]))] sz) t) (va_A [(h0, .inr (18, [.int th, .ref l1, .ref l2, .ref l3, .ref l4, .ref l5, .ref l6, .int 0, .int tol, .int ag, .ref m1, .ref m2, .ref m3, .ref m4, .ref m5, .ref m6])), (l4, .inr (3, [.int c4, .ref e4, .int 0]))] sz)) 0 0 (va_A [(h0, .inr (18, [.int th, .ref l1, .ref l2, .ref l3, .ref l4, .ref l5, .ref l6, .int 0, .int tol, .int ag, .ref m1, .ref m2, .ref m3, .ref m4, .ref m5, .ref m6])), (l4, .inr (3, [.int c4, .ref e4, .int 0]))] sz) := by
  refine Met.ofW (cc := cX14_leafOf) (maxL := 4) (ret := (Option.some Jvm.ClassFile.FieldType.int)) (by decide) rfl ?_
  intro p e s m args below meth c s₁ B hml hv
  obtain ⟨rfl, rfl, hP, hK, hD0, hG⟩ := hv
  have hx := B.exec
  have hb := B.bytes
  have hr := B.returns
  have hts := atoms_spec (ws := wz_X14_leafOf) B.pre
  have hg : ∀ w ∈ lw_good, w.before _ s = true := fun w h => hts w (List.mem_cons_of_mem _ h)
  have hown : s.vm.findClass RX14 = some m.cls := findClass_of_methodNamed B.named
  have hlocks := B.notSynchronized
  have hD := hD0.self (sz := s.heap.size)
  generalize hAe : va_A [(h0, .inr (18, [.int th, .ref l1, .ref l2, .ref l3, .ref l4, .ref l5, .ref l6, .int 0, .int tol, .int ag, .ref m1, .ref m2, .ref m3, .ref m4, .ref m5, .ref m6])), (l4, .inr (3, [.int c4, .ref e4, .int 0]))] s.heap.size = A at hD hG ⊢
  have hA : ∀ q : Nat, s.heap.size ≤ q → A q := fun q h => by rw [← hAe]; exact Or.inr h
  have hS : va_S A s.heap s.heap [] := va_S.rf
  have hl := lv_entry ([.ref h0, .int p0, .int p1, .int p2]) (n := 4) (Nat.le_of_ble_eq_true rfl)
  rw [lg_entry_eq]
  generalize (lg_sl ([.ref h0, .int p0, .int p1, .int p2]) ++ List.replicate (4 - (lg_sl ([.ref h0, .int p0, .int p1, .int p2])).length) Slot.unset).toArray = ls at hl ⊢
  have hl : lv_has ls 4 [(0, .ref h0), (1, .int p0), (2, .int p1), (3, .int p2)] := hl
  refine lv_aload_n hx hb dX14_leafOf_0 rfl (lv_at hl 0 rfl) ?_
  refine lv_iload_n hx hb dX14_leafOf_1 rfl (lv_at hl 1 rfl) ?_
  have hPc := hP.sub (ws' := [(h0, .inr (18, [.int th, .ref l1, .ref l2, .ref l3, .ref l4, .ref l5, .ref l6, .int 0, .int tol, .int ag, .ref m1, .ref m2, .ref m3, .ref m4, .ref m5, .ref m6])), (l4, .inr (3, [.int c4, .ref e4, .int 0]))]) [0, 1] rfl
  have hKc := hK.sub (tys' := []) [] rfl
  have hDc := hD.sub (ws' := [(h0, .inr (18, [.int th, .ref l1, .ref l2, .ref l3, .ref l4, .ref l5, .ref l6, .int 0, .int tol, .int ag, .ref m1, .ref m2, .ref m3, .ref m4, .ref m5, .ref m6])), (l4, .inr (3, [.int c4, .ref e4, .int 0]))]) [0, 1] (by decide) rfl
  have hFc := va_free (wc := [(h0, .inr (18, [.int th, .ref l1, .ref l2, .ref l3, .ref l4, .ref l5, .ref l6, .int 0, .int tol, .int ag, .ref m1, .ref m2, .ref m3, .ref m4, .ref m5, .ref m6])), (l4, .inr (3, [.int c4, .ref e4, .int 0]))]) hD hS hA [0, 1] rfl
  refine va_calli (va_runV (As := [.int p0]) (rest := []) ⟨hx, hb, hml, hown, hts⟩ (k_X14_failsDocument l G z h0 th l1 l2 l3 l4 l5 l6 tol ag m1 m2 m3 m4 m5 m6 c4 e4 p0 s.heap.size ) (cwV 1 hts (lw_goodApp (lw_4 q1544 q1546 qs28 q7) q1547) rfl rfl rfl (by decide +kernel) ⟨Nat.le_of_ble_eq_true rfl, Nat.le_of_ble_eq_true rfl⟩) ⟨PW.blind, va_recv hK hP (ci := 18) (q0 := 0) rfl rfl, PW.of hPc hKc hDc hG hS hFc [.ref h0, .int p0]⟩ rfl rfl hl.1 rfl (lv_room (Nat.le_of_ble_eq_true rfl)) dX14_leafOf_2 ⟨Nat.le_of_ble_eq_true rfl, Nat.le_of_ble_eq_true rfl⟩) hS (fun q _ h => hFc q h) hFc (fun r_2 u t_4 H_1 locs ht hvm hw_3 hB hz1 hk1 hS => ?_)
  obtain ⟨hP, hD, hK⟩ := QW.join (wr := []) (w1 := [(h0, .inr (18, [.int 1, .ref l1, .ref l2, .ref l3, .ref l4, .ref l5, .ref l6, .int 0, .int tol, .int ag, .ref m1, .ref m2, .ref m3, .ref m4, .ref m5, .ref m6])), (l4, .inr (3, [.int c4, .ref e4, .int 0]))]) hP hD hK [0, 1] [] rfl rfl (by decide) (by decide) hk1 hFc ht hvm hB
  have hP : va_P G vwCl ([(h0, .inr (18, [.int 1, .ref l1, .ref l2, .ref l3, .ref l4, .ref l5, .ref l6, .int 0, .int tol, .int ag, .ref m1, .ref m2, .ref m3, .ref m4, .ref m5, .ref m6])), (l4, .inr (3, [.int c4, .ref e4, .int 0]))]) H_1 := hP
  have hD : va_D A ([(h0, .inr (18, [.int 1, .ref l1, .ref l2, .ref l3, .ref l4, .ref l5, .ref l6, .int 0, .int tol, .int ag, .ref m1, .ref m2, .ref m3, .ref m4, .ref m5, .ref m6])), (l4, .inr (3, [.int c4, .ref e4, .int 0]))]) := hD
  have hK : va_K G vwCl [] s := hK
  refine W.widen (k := 0) (n := 0) (Nat.le_of_ble_eq_true rfl) (Nat.le_of_ble_eq_true rfl) ?_
  obtain rfl : 1 = r_2 := hw_3.symm
  refine lv_if_ne (tgt := 38) hx hb dX14_leafOf_5 (by decide) (fun c_5 => ?_) (fun c_5 => absurd c_5 (by decide))
  refine lv_iconst (v := 0) hx hb dX14_leafOf_38 (by decide) ?_
  refine W.widen (k := 0) (n := 0) (Nat.le_of_ble_eq_true rfl) (Nat.le_of_ble_eq_true rfl) ?_
  have hP9 := hP.sub (ws' := [(h0, .inr (18, [.int 1, .ref l1, .ref l2, .ref l3, .ref l4, .ref l5, .ref l6, .int 0, .int tol, .int ag, .ref m1, .ref m2, .ref m3, .ref m4, .ref m5, .ref m6]))]) [0] rfl
  have hD9 := hD.sub (ws' := [(h0, .inr (18, [.int 1, .ref l1, .ref l2, .ref l3, .ref l4, .ref l5, .ref l6, .int 0, .int tol, .int ag, .ref m1, .ref m2, .ref m3, .ref m4, .ref m5, .ref m6]))]) [0] (by decide) rfl
  have hK9 := hK.sub (tys' := []) [] rfl
  exact W.iret (v := 0) hx hb hr (fun t ht hW => ⟨⟨0, (), rfl, trivial, QW.of hP9 hK9 hD9 ht hW.alike⟩, hS.F ht⟩) hS.2.2 dX14_leafOf_39

abbrev wz_X14_markIn : List Cond := .code yX14_markIn cX14_markIn 5 (Option.some Jvm.ClassFile.FieldType.int) :: lw_good
set_option maxHeartbeats 4000000 in
set_option maxRecDepth 100000 in
/-- markIn (reference): there is none of it yet -/
theorem k_X14_markIn (l : Launch) (G : va_G) (z : Nat) (h0 : Nat) (th : Int32) (l1 : Nat) (l2 : Nat) (l3 : Nat) (l4 : Nat) (l5 : Nat) (l6 : Nat) (tol : Int32) (ag : Int32) (m1 : Nat) (m2 : Nat) (m3 : Nat) (m4 : Nat) (m5 : Nat) (m6 : Nat) (c4 : Int32) (e4 : Nat) (p0 : Int32) (p1 : Int32) (sz : Nat)  : Met l yX14_markIn wz_X14_markIn ({ frames := 3, cells := 0, slots := 0, locals := 64 }) (va_Pc [.ref h0, .int p0, .int p1] (PW G z [(h0, .inr (18, [.int th, .ref l1, .ref l2, .ref l3, .ref l4, .ref l5, .ref l6, .int 0, .int tol, .int ag, .ref m1, .ref m2, .ref m3, .ref m4, .ref m5, .ref m6])), (l4, .inr (3, [.int c4, .ref e4, .int 0]))] [] sz)) (va_Qi (fun (r : Int32) (_ : Unit) => True) (fun (_ : Unit) (t : State) => QW G [(h0, .inr (18, [.int 1, .ref l1, .ref l2, .ref l3, .ref l4, .ref l5, .ref l6, .int 0, .int tol, .int ag, .ref m1, .ref m2, .ref m3, .ref m4, .ref m5, .ref m6]))] [] (va_A [(h0, .inr (18, [.int th, .ref l1, .ref l2, .ref l3, .ref l4, .ref l5, .ref l6, .int 0, .int tol, .int ag, .ref m1, .ref m2, .ref m3, .ref m4, .ref m5, .ref m6])), (l4, .inr (3, [.int c4, .ref e4, .int 0]))] sz) t) (va_A [(h0, .inr (18, [.int th, .ref l1, .ref l2, .ref l3, .ref l4, .ref l5, .ref l6, .int 0, .int tol, .int ag, .ref m1, .ref m2, .ref m3, .ref m4, .ref m5, .ref m6])), (l4, .inr (3, [.int c4, .ref e4, .int 0]))] sz)) 0 0 (va_A [(h0, .inr (18, [.int th, .ref l1, .ref l2, .ref l3, .ref l4, .ref l5, .ref l6, .int 0, .int tol, .int ag, .ref m1, .ref m2, .ref m3, .ref m4, .ref m5, .ref m6])), (l4, .inr (3, [.int c4, .ref e4, .int 0]))] sz) := by
  refine Met.ofW (cc := cX14_markIn) (maxL := 5) (ret := (Option.some Jvm.ClassFile.FieldType.int)) (by decide) rfl ?_
  intro p e s m args below meth c s₁ B hml hv
  obtain ⟨rfl, rfl, hP, hK, hD0, hG⟩ := hv
  have hx := B.exec
  have hb := B.bytes
  have hr := B.returns
  have hts := atoms_spec (ws := wz_X14_markIn) B.pre
  have hg : ∀ w ∈ lw_good, w.before _ s = true := fun w h => hts w (List.mem_cons_of_mem _ h)
  have hown : s.vm.findClass RX14 = some m.cls := findClass_of_methodNamed B.named
  have hlocks := B.notSynchronized
  have hD := hD0.self (sz := s.heap.size)
  generalize hAe : va_A [(h0, .inr (18, [.int th, .ref l1, .ref l2, .ref l3, .ref l4, .ref l5, .ref l6, .int 0, .int tol, .int ag, .ref m1, .ref m2, .ref m3, .ref m4, .ref m5, .ref m6])), (l4, .inr (3, [.int c4, .ref e4, .int 0]))] s.heap.size = A at hD hG ⊢
  have hA : ∀ q : Nat, s.heap.size ≤ q → A q := fun q h => by rw [← hAe]; exact Or.inr h
  have hS : va_S A s.heap s.heap [] := va_S.rf
  have hl := lv_entry ([.ref h0, .int p0, .int p1]) (n := 5) (Nat.le_of_ble_eq_true rfl)
  rw [lg_entry_eq]
  generalize (lg_sl ([.ref h0, .int p0, .int p1]) ++ List.replicate (5 - (lg_sl ([.ref h0, .int p0, .int p1])).length) Slot.unset).toArray = ls at hl ⊢
  have hl : lv_has ls 5 [(0, .ref h0), (1, .int p0), (2, .int p1)] := hl
  refine lv_aload_n hx hb dX14_markIn_0 rfl (lv_at hl 0 rfl) ?_
  refine lv_iload_n hx hb dX14_markIn_1 rfl (lv_at hl 1 rfl) ?_
  have hPc := hP.sub (ws' := [(h0, .inr (18, [.int th, .ref l1, .ref l2, .ref l3, .ref l4, .ref l5, .ref l6, .int 0, .int tol, .int ag, .ref m1, .ref m2, .ref m3, .ref m4, .ref m5, .ref m6])), (l4, .inr (3, [.int c4, .ref e4, .int 0]))]) [0, 1] rfl
  have hKc := hK.sub (tys' := []) [] rfl
  have hDc := hD.sub (ws' := [(h0, .inr (18, [.int th, .ref l1, .ref l2, .ref l3, .ref l4, .ref l5, .ref l6, .int 0, .int tol, .int ag, .ref m1, .ref m2, .ref m3, .ref m4, .ref m5, .ref m6])), (l4, .inr (3, [.int c4, .ref e4, .int 0]))]) [0, 1] (by decide) rfl
  have hFc := va_free (wc := [(h0, .inr (18, [.int th, .ref l1, .ref l2, .ref l3, .ref l4, .ref l5, .ref l6, .int 0, .int tol, .int ag, .ref m1, .ref m2, .ref m3, .ref m4, .ref m5, .ref m6])), (l4, .inr (3, [.int c4, .ref e4, .int 0]))]) hD hS hA [0, 1] rfl
  refine va_calli (va_runV (As := [.int p0]) (rest := []) ⟨hx, hb, hml, hown, hts⟩ (k_X14_failsDocument l G z h0 th l1 l2 l3 l4 l5 l6 tol ag m1 m2 m3 m4 m5 m6 c4 e4 p0 s.heap.size ) (cwV 1 hts (lw_goodApp (lw_4 q1544 q1546 qs28 q7) q1547) rfl rfl rfl (by decide +kernel) ⟨Nat.le_of_ble_eq_true rfl, Nat.le_of_ble_eq_true rfl⟩) ⟨PW.blind, va_recv hK hP (ci := 18) (q0 := 0) rfl rfl, PW.of hPc hKc hDc hG hS hFc [.ref h0, .int p0]⟩ rfl rfl hl.1 rfl (lv_room (Nat.le_of_ble_eq_true rfl)) dX14_markIn_2 ⟨Nat.le_of_ble_eq_true rfl, Nat.le_of_ble_eq_true rfl⟩) hS (fun q _ h => hFc q h) hFc (fun r_2 u t_4 H_1 locs ht hvm hw_3 hB hz1 hk1 hS => ?_)
  obtain ⟨hP, hD, hK⟩ := QW.join (wr := []) (w1 := [(h0, .inr (18, [.int 1, .ref l1, .ref l2, .ref l3, .ref l4, .ref l5, .ref l6, .int 0, .int tol, .int ag, .ref m1, .ref m2, .ref m3, .ref m4, .ref m5, .ref m6])), (l4, .inr (3, [.int c4, .ref e4, .int 0]))]) hP hD hK [0, 1] [] rfl rfl (by decide) (by decide) hk1 hFc ht hvm hB
  have hP : va_P G vwCl ([(h0, .inr (18, [.int 1, .ref l1, .ref l2, .ref l3, .ref l4, .ref l5, .ref l6, .int 0, .int tol, .int ag, .ref m1, .ref m2, .ref m3, .ref m4, .ref m5, .ref m6])), (l4, .inr (3, [.int c4, .ref e4, .int 0]))]) H_1 := hP
  have hD : va_D A ([(h0, .inr (18, [.int 1, .ref l1, .ref l2, .ref l3, .ref l4, .ref l5, .ref l6, .int 0, .int tol, .int ag, .ref m1, .ref m2, .ref m3, .ref m4, .ref m5, .ref m6])), (l4, .inr (3, [.int c4, .ref e4, .int 0]))]) := hD
  have hK : va_K G vwCl [] s := hK
  refine W.widen (k := 0) (n := 0) (Nat.le_of_ble_eq_true rfl) (Nat.le_of_ble_eq_true rfl) ?_
  obtain rfl : 1 = r_2 := hw_3.symm
  refine lv_if_ne (tgt := 29) hx hb dX14_markIn_5 (by decide) (fun c_5 => ?_) (fun c_5 => absurd c_5 (by decide))
  refine lv_iconst (v := 0) hx hb dX14_markIn_29 (by decide) ?_
  refine W.widen (k := 0) (n := 0) (Nat.le_of_ble_eq_true rfl) (Nat.le_of_ble_eq_true rfl) ?_
  have hP9 := hP.sub (ws' := [(h0, .inr (18, [.int 1, .ref l1, .ref l2, .ref l3, .ref l4, .ref l5, .ref l6, .int 0, .int tol, .int ag, .ref m1, .ref m2, .ref m3, .ref m4, .ref m5, .ref m6]))]) [0] rfl
  have hD9 := hD.sub (ws' := [(h0, .inr (18, [.int 1, .ref l1, .ref l2, .ref l3, .ref l4, .ref l5, .ref l6, .int 0, .int tol, .int ag, .ref m1, .ref m2, .ref m3, .ref m4, .ref m5, .ref m6]))]) [0] (by decide) rfl
  have hK9 := hK.sub (tys' := []) [] rfl
  exact W.iret (v := 0) hx hb hr (fun t ht hW => ⟨⟨0, (), rfl, trivial, QW.of hP9 hK9 hD9 ht hW.alike⟩, hS.F ht⟩) hS.2.2 dX14_markIn_30

abbrev wz_X14_conjugate : List Cond := .code yX14_conjugate cX14_conjugate 3 (Option.some Jvm.ClassFile.FieldType.int) :: lw_good
set_option maxHeartbeats 4000000 in
set_option maxRecDepth 100000 in
/-- conjugate (reference): there is none of it yet -/
theorem k_X14_conjugate (l : Launch) (G : va_G) (z : Nat) (h0 : Nat) (th : Int32) (l1 : Nat) (l2 : Nat) (l3 : Nat) (l4 : Nat) (l5 : Nat) (l6 : Nat) (tol : Int32) (ag : Int32) (m1 : Nat) (m2 : Nat) (m3 : Nat) (m4 : Nat) (m5 : Nat) (m6 : Nat) (c4 : Int32) (e4 : Nat) (p0 : Int32) (p1 : Int32) (sz : Nat)  : Met l yX14_conjugate wz_X14_conjugate ({ frames := 3, cells := 0, slots := 0, locals := 64 }) (va_Pc [.ref h0, .int p0, .int p1] (PW G z [(h0, .inr (18, [.int th, .ref l1, .ref l2, .ref l3, .ref l4, .ref l5, .ref l6, .int 0, .int tol, .int ag, .ref m1, .ref m2, .ref m3, .ref m4, .ref m5, .ref m6])), (l4, .inr (3, [.int c4, .ref e4, .int 0]))] [] sz)) (va_Qi (fun (r : Int32) (_ : Unit) => True) (fun (_ : Unit) (t : State) => QW G [(h0, .inr (18, [.int 1, .ref l1, .ref l2, .ref l3, .ref l4, .ref l5, .ref l6, .int 0, .int tol, .int ag, .ref m1, .ref m2, .ref m3, .ref m4, .ref m5, .ref m6]))] [] (va_A [(h0, .inr (18, [.int th, .ref l1, .ref l2, .ref l3, .ref l4, .ref l5, .ref l6, .int 0, .int tol, .int ag, .ref m1, .ref m2, .ref m3, .ref m4, .ref m5, .ref m6])), (l4, .inr (3, [.int c4, .ref e4, .int 0]))] sz) t) (va_A [(h0, .inr (18, [.int th, .ref l1, .ref l2, .ref l3, .ref l4, .ref l5, .ref l6, .int 0, .int tol, .int ag, .ref m1, .ref m2, .ref m3, .ref m4, .ref m5, .ref m6])), (l4, .inr (3, [.int c4, .ref e4, .int 0]))] sz)) 0 0 (va_A [(h0, .inr (18, [.int th, .ref l1, .ref l2, .ref l3, .ref l4, .ref l5, .ref l6, .int 0, .int tol, .int ag, .ref m1, .ref m2, .ref m3, .ref m4, .ref m5, .ref m6])), (l4, .inr (3, [.int c4, .ref e4, .int 0]))] sz) := by
  refine Met.ofW (cc := cX14_conjugate) (maxL := 3) (ret := (Option.some Jvm.ClassFile.FieldType.int)) (by decide) rfl ?_
  intro p e s m args below meth c s₁ B hml hv
  obtain ⟨rfl, rfl, hP, hK, hD0, hG⟩ := hv
  have hx := B.exec
  have hb := B.bytes
  have hr := B.returns
  have hts := atoms_spec (ws := wz_X14_conjugate) B.pre
  have hg : ∀ w ∈ lw_good, w.before _ s = true := fun w h => hts w (List.mem_cons_of_mem _ h)
  have hown : s.vm.findClass RX14 = some m.cls := findClass_of_methodNamed B.named
  have hlocks := B.notSynchronized
  have hD := hD0.self (sz := s.heap.size)
  generalize hAe : va_A [(h0, .inr (18, [.int th, .ref l1, .ref l2, .ref l3, .ref l4, .ref l5, .ref l6, .int 0, .int tol, .int ag, .ref m1, .ref m2, .ref m3, .ref m4, .ref m5, .ref m6])), (l4, .inr (3, [.int c4, .ref e4, .int 0]))] s.heap.size = A at hD hG ⊢
  have hA : ∀ q : Nat, s.heap.size ≤ q → A q := fun q h => by rw [← hAe]; exact Or.inr h
  have hS : va_S A s.heap s.heap [] := va_S.rf
  have hl := lv_entry ([.ref h0, .int p0, .int p1]) (n := 3) (Nat.le_of_ble_eq_true rfl)
  rw [lg_entry_eq]
  generalize (lg_sl ([.ref h0, .int p0, .int p1]) ++ List.replicate (3 - (lg_sl ([.ref h0, .int p0, .int p1])).length) Slot.unset).toArray = ls at hl ⊢
  have hl : lv_has ls 3 [(0, .ref h0), (1, .int p0), (2, .int p1)] := hl
  refine lv_aload_n hx hb dX14_conjugate_0 rfl (lv_at hl 0 rfl) ?_
  refine lv_iload_n hx hb dX14_conjugate_1 rfl (lv_at hl 1 rfl) ?_
  have hPc := hP.sub (ws' := [(h0, .inr (18, [.int th, .ref l1, .ref l2, .ref l3, .ref l4, .ref l5, .ref l6, .int 0, .int tol, .int ag, .ref m1, .ref m2, .ref m3, .ref m4, .ref m5, .ref m6])), (l4, .inr (3, [.int c4, .ref e4, .int 0]))]) [0, 1] rfl
  have hKc := hK.sub (tys' := []) [] rfl
  have hDc := hD.sub (ws' := [(h0, .inr (18, [.int th, .ref l1, .ref l2, .ref l3, .ref l4, .ref l5, .ref l6, .int 0, .int tol, .int ag, .ref m1, .ref m2, .ref m3, .ref m4, .ref m5, .ref m6])), (l4, .inr (3, [.int c4, .ref e4, .int 0]))]) [0, 1] (by decide) rfl
  have hFc := va_free (wc := [(h0, .inr (18, [.int th, .ref l1, .ref l2, .ref l3, .ref l4, .ref l5, .ref l6, .int 0, .int tol, .int ag, .ref m1, .ref m2, .ref m3, .ref m4, .ref m5, .ref m6])), (l4, .inr (3, [.int c4, .ref e4, .int 0]))]) hD hS hA [0, 1] rfl
  refine va_calli (va_runV (As := [.int p0]) (rest := []) ⟨hx, hb, hml, hown, hts⟩ (k_X14_failsDocument l G z h0 th l1 l2 l3 l4 l5 l6 tol ag m1 m2 m3 m4 m5 m6 c4 e4 p0 s.heap.size ) (cwV 1 hts (lw_goodApp (lw_4 q1544 q1546 qs28 q7) q1547) rfl rfl rfl (by decide +kernel) ⟨Nat.le_of_ble_eq_true rfl, Nat.le_of_ble_eq_true rfl⟩) ⟨PW.blind, va_recv hK hP (ci := 18) (q0 := 0) rfl rfl, PW.of hPc hKc hDc hG hS hFc [.ref h0, .int p0]⟩ rfl rfl hl.1 rfl (lv_room (Nat.le_of_ble_eq_true rfl)) dX14_conjugate_2 ⟨Nat.le_of_ble_eq_true rfl, Nat.le_of_ble_eq_true rfl⟩) hS (fun q _ h => hFc q h) hFc (fun r_2 u t_4 H_1 locs ht hvm hw_3 hB hz1 hk1 hS => ?_)
  obtain ⟨hP, hD, hK⟩ := QW.join (wr := []) (w1 := [(h0, .inr (18, [.int 1, .ref l1, .ref l2, .ref l3, .ref l4, .ref l5, .ref l6, .int 0, .int tol, .int ag, .ref m1, .ref m2, .ref m3, .ref m4, .ref m5, .ref m6])), (l4, .inr (3, [.int c4, .ref e4, .int 0]))]) hP hD hK [0, 1] [] rfl rfl (by decide) (by decide) hk1 hFc ht hvm hB
  have hP : va_P G vwCl ([(h0, .inr (18, [.int 1, .ref l1, .ref l2, .ref l3, .ref l4, .ref l5, .ref l6, .int 0, .int tol, .int ag, .ref m1, .ref m2, .ref m3, .ref m4, .ref m5, .ref m6])), (l4, .inr (3, [.int c4, .ref e4, .int 0]))]) H_1 := hP
  have hD : va_D A ([(h0, .inr (18, [.int 1, .ref l1, .ref l2, .ref l3, .ref l4, .ref l5, .ref l6, .int 0, .int tol, .int ag, .ref m1, .ref m2, .ref m3, .ref m4, .ref m5, .ref m6])), (l4, .inr (3, [.int c4, .ref e4, .int 0]))]) := hD
  have hK : va_K G vwCl [] s := hK
  refine W.widen (k := 0) (n := 0) (Nat.le_of_ble_eq_true rfl) (Nat.le_of_ble_eq_true rfl) ?_
  obtain rfl : 1 = r_2 := hw_3.symm
  refine lv_if_ne (tgt := 47) hx hb dX14_conjugate_5 (by decide) (fun c_5 => ?_) (fun c_5 => absurd c_5 (by decide))
  refine lv_iconst (v := 0) hx hb dX14_conjugate_47 (by decide) ?_
  refine W.widen (k := 0) (n := 0) (Nat.le_of_ble_eq_true rfl) (Nat.le_of_ble_eq_true rfl) ?_
  have hP9 := hP.sub (ws' := [(h0, .inr (18, [.int 1, .ref l1, .ref l2, .ref l3, .ref l4, .ref l5, .ref l6, .int 0, .int tol, .int ag, .ref m1, .ref m2, .ref m3, .ref m4, .ref m5, .ref m6]))]) [0] rfl
  have hD9 := hD.sub (ws' := [(h0, .inr (18, [.int 1, .ref l1, .ref l2, .ref l3, .ref l4, .ref l5, .ref l6, .int 0, .int tol, .int ag, .ref m1, .ref m2, .ref m3, .ref m4, .ref m5, .ref m6]))]) [0] (by decide) rfl
  have hK9 := hK.sub (tys' := []) [] rfl
  exact W.iret (v := 0) hx hb hr (fun t ht hW => ⟨⟨0, (), rfl, trivial, QW.of hP9 hK9 hD9 ht hW.alike⟩, hS.F ht⟩) hS.2.2 dX14_conjugate_48

abbrev wz_X14_run : List Cond := .code yX14_run cX14_run 9 (Option.some Jvm.ClassFile.FieldType.int) :: lw_good
set_option maxHeartbeats 4000000 in
set_option maxRecDepth 100000 in
/-- run (reference): there is none of it yet -/
theorem k_X14_run (l : Launch) (G : va_G) (z : Nat) (h0 : Nat) (th : Int32) (l1 : Nat) (l2 : Nat) (l3 : Nat) (l4 : Nat) (l5 : Nat) (l6 : Nat) (tol : Int32) (ag : Int32) (m1 : Nat) (m2 : Nat) (m3 : Nat) (m4 : Nat) (m5 : Nat) (m6 : Nat) (c4 : Int32) (e4 : Nat) (p0 : Int32) (p1 : Int32) (sz : Nat)  : Met l yX14_run wz_X14_run ({ frames := 2, cells := 0, slots := 0, locals := 43 }) (va_Pc [.ref h0, .int p0, .int p1] (PW G z [(h0, .inr (18, [.int th, .ref l1, .ref l2, .ref l3, .ref l4, .ref l5, .ref l6, .int 0, .int tol, .int ag, .ref m1, .ref m2, .ref m3, .ref m4, .ref m5, .ref m6])), (l4, .inr (3, [.int c4, .ref e4, .int 0]))] [] sz)) (va_Qi (fun (r : Int32) (_ : Unit) => True) (fun (_ : Unit) (t : State) => QW G [(h0, .inr (18, [.int 1, .ref l1, .ref l2, .ref l3, .ref l4, .ref l5, .ref l6, .int 0, .int tol, .int ag, .ref m1, .ref m2, .ref m3, .ref m4, .ref m5, .ref m6]))] [] (va_A [(h0, .inr (18, [.int th, .ref l1, .ref l2, .ref l3, .ref l4, .ref l5, .ref l6, .int 0, .int tol, .int ag, .ref m1, .ref m2, .ref m3, .ref m4, .ref m5, .ref m6])), (l4, .inr (3, [.int c4, .ref e4, .int 0]))] sz) t) (va_A [(h0, .inr (18, [.int th, .ref l1, .ref l2, .ref l3, .ref l4, .ref l5, .ref l6, .int 0, .int tol, .int ag, .ref m1, .ref m2, .ref m3, .ref m4, .ref m5, .ref m6])), (l4, .inr (3, [.int c4, .ref e4, .int 0]))] sz)) 0 0 (va_A [(h0, .inr (18, [.int th, .ref l1, .ref l2, .ref l3, .ref l4, .ref l5, .ref l6, .int 0, .int tol, .int ag, .ref m1, .ref m2, .ref m3, .ref m4, .ref m5, .ref m6])), (l4, .inr (3, [.int c4, .ref e4, .int 0]))] sz) := by
  refine Met.ofW (cc := cX14_run) (maxL := 9) (ret := (Option.some Jvm.ClassFile.FieldType.int)) (by decide) rfl ?_
  intro p e s m args below meth c s₁ B hml hv
  obtain ⟨rfl, rfl, hP, hK, hD0, hG⟩ := hv
  have hx := B.exec
  have hb := B.bytes
  have hr := B.returns
  have hts := atoms_spec (ws := wz_X14_run) B.pre
  have hg : ∀ w ∈ lw_good, w.before _ s = true := fun w h => hts w (List.mem_cons_of_mem _ h)
  have hown : s.vm.findClass RX14 = some m.cls := findClass_of_methodNamed B.named
  have hlocks := B.notSynchronized
  have hD := hD0.self (sz := s.heap.size)
  generalize hAe : va_A [(h0, .inr (18, [.int th, .ref l1, .ref l2, .ref l3, .ref l4, .ref l5, .ref l6, .int 0, .int tol, .int ag, .ref m1, .ref m2, .ref m3, .ref m4, .ref m5, .ref m6])), (l4, .inr (3, [.int c4, .ref e4, .int 0]))] s.heap.size = A at hD hG ⊢
  have hA : ∀ q : Nat, s.heap.size ≤ q → A q := fun q h => by rw [← hAe]; exact Or.inr h
  have hS : va_S A s.heap s.heap [] := va_S.rf
  have hl := lv_entry ([.ref h0, .int p0, .int p1]) (n := 9) (Nat.le_of_ble_eq_true rfl)
  rw [lg_entry_eq]
  generalize (lg_sl ([.ref h0, .int p0, .int p1]) ++ List.replicate (9 - (lg_sl ([.ref h0, .int p0, .int p1])).length) Slot.unset).toArray = ls at hl ⊢
  have hl : lv_has ls 9 [(0, .ref h0), (1, .int p0), (2, .int p1)] := hl
  refine lv_aload_n hx hb dX14_run_0 rfl (lv_at hl 0 rfl) ?_
  refine lv_aload_n hx hb dX14_run_1 rfl (lv_at hl 0 rfl) ?_
  refine lv_iload_n hx hb dX14_run_2 rfl (lv_at hl 1 rfl) ?_
  have hPc := hP.sub (ws' := [(h0, .inr (18, [.int th, .ref l1, .ref l2, .ref l3, .ref l4, .ref l5, .ref l6, .int 0, .int tol, .int ag, .ref m1, .ref m2, .ref m3, .ref m4, .ref m5, .ref m6])), (l4, .inr (3, [.int c4, .ref e4, .int 0]))]) [0, 1] rfl
  have hKc := hK.sub (tys' := []) [] rfl
  refine va_calli (va_runV (As := [.int p0]) (rest := [.ref h0]) ⟨hx, hb, hml, hown, hts⟩ (k_X14_isDocument l G z h0 th l1 l2 l3 l4 l5 l6 tol ag m1 m2 m3 m4 m5 m6 c4 e4 p0 s.heap.size ) (cwV 1 hts (lw_goodApp (lw_4 q1536 q1538 qs27 q7) q1539) rfl rfl rfl (by decide +kernel) ⟨Nat.le_of_ble_eq_true rfl, Nat.le_of_ble_eq_true rfl⟩) ⟨PR.blind, va_recv hK hP (ci := 18) (q0 := 0) rfl rfl, PR.of hPc hKc hG hS hA [.ref h0, .int p0]⟩ rfl rfl hl.1 rfl (lv_room (Nat.le_of_ble_eq_true rfl)) dX14_run_3 ⟨Nat.le_of_ble_eq_true rfl, Nat.le_of_ble_eq_true rfl⟩) hS (fun q h9 h => zN.not h9 h) (fun q h => hA q (Nat.le_trans hS.1 h)) (fun r_2 u t_4 H_1 locs ht hvm hw_3 hB hz1 hk1 hS => ?_)
  have hP := hP.grown hk1
  refine W.widen (k := 0) (n := 0) (Nat.le_of_ble_eq_true rfl) (Nat.le_of_ble_eq_true rfl) ?_
  obtain rfl : 0 = r_2 := hw_3.symm
  refine lv_if_eq (tgt := 21) hx hb dX14_run_6 (by decide) (fun c_5 => ?_) (fun c_5 => absurd rfl c_5)
  refine lv_iconst (v := 1) hx hb dX14_run_21 (by decide) ?_
  have hPc := hP.sub (ws' := [(h0, .inr (18, [.int th, .ref l1, .ref l2, .ref l3, .ref l4, .ref l5, .ref l6, .int 0, .int tol, .int ag, .ref m1, .ref m2, .ref m3, .ref m4, .ref m5, .ref m6]))]) [0] rfl
  have hKc := hK.sub (tys' := []) [] rfl
  have hDc := hD.sub (ws' := [(h0, .inr (18, [.int th, .ref l1, .ref l2, .ref l3, .ref l4, .ref l5, .ref l6, .int 0, .int tol, .int ag, .ref m1, .ref m2, .ref m3, .ref m4, .ref m5, .ref m6]))]) [0] (by decide) rfl
  have hFc := va_free (wc := [(h0, .inr (18, [.int th, .ref l1, .ref l2, .ref l3, .ref l4, .ref l5, .ref l6, .int 0, .int tol, .int ag, .ref m1, .ref m2, .ref m3, .ref m4, .ref m5, .ref m6]))]) hD hS hA [0] rfl
  refine va_calli (va_runV (As := [.int 1]) (rest := []) ⟨hx, hb, hml, hown, hts⟩ (k_X14_fails_1 l G z h0 th l1 l2 l3 l4 l5 l6 tol ag m1 m2 m3 m4 m5 m6 1 H_1.size (by decide)) (cwV 1 hts (lw_goodApp (lw_4 q1248 q1250 qs23 q7) q1251) rfl rfl rfl (by decide +kernel) ⟨Nat.le_of_ble_eq_true rfl, Nat.le_of_ble_eq_true rfl⟩) ⟨PW.blind, va_recv hK hP (ci := 18) (q0 := 0) rfl rfl, PW.of hPc hKc hDc hG hS hFc [.ref h0, .int 1]⟩ rfl rfl hl.1 rfl (lv_room (Nat.le_of_ble_eq_true rfl)) dX14_run_22 ⟨Nat.le_of_ble_eq_true rfl, Nat.le_of_ble_eq_true rfl⟩) hS (fun q _ h => hFc q h) hFc (fun r_7 u t_9 H_6 locs ht hvm hw_8 hB hz1 hk1 hS => ?_)
  obtain ⟨hP, hD, hK⟩ := QW.join (wr := [(l4, .inr (3, [.int c4, .ref e4, .int 0]))]) (w1 := [(h0, .inr (18, [.int 1, .ref l1, .ref l2, .ref l3, .ref l4, .ref l5, .ref l6, .int 0, .int tol, .int ag, .ref m1, .ref m2, .ref m3, .ref m4, .ref m5, .ref m6]))]) hP hD hK [0] [1] rfl rfl (by decide) (by decide) hk1 hFc ht hvm hB
  have hP : va_P G vwCl ([(l4, .inr (3, [.int c4, .ref e4, .int 0])), (h0, .inr (18, [.int 1, .ref l1, .ref l2, .ref l3, .ref l4, .ref l5, .ref l6, .int 0, .int tol, .int ag, .ref m1, .ref m2, .ref m3, .ref m4, .ref m5, .ref m6]))]) H_6 := hP
  have hD : va_D A ([(l4, .inr (3, [.int c4, .ref e4, .int 0])), (h0, .inr (18, [.int 1, .ref l1, .ref l2, .ref l3, .ref l4, .ref l5, .ref l6, .int 0, .int tol, .int ag, .ref m1, .ref m2, .ref m3, .ref m4, .ref m5, .ref m6]))]) := hD
  have hK : va_K G vwCl [] s := hK
  refine W.widen (k := 0) (n := 0) (Nat.le_of_ble_eq_true rfl) (Nat.le_of_ble_eq_true rfl) ?_
  obtain rfl : 1 = r_7 := hw_8.symm
  refine lv_if_eq (tgt := 30) hx hb dX14_run_25 (by decide) (fun c_10 => absurd c_10 (by decide)) (fun c_10 => ?_)
  refine lv_iconst (v := 0) hx hb dX14_run_28 (by decide) ?_
  refine W.widen (k := 0) (n := 0) (Nat.le_of_ble_eq_true rfl) (Nat.le_of_ble_eq_true rfl) ?_
  have hP9 := hP.sub (ws' := [(h0, .inr (18, [.int 1, .ref l1, .ref l2, .ref l3, .ref l4, .ref l5, .ref l6, .int 0, .int tol, .int ag, .ref m1, .ref m2, .ref m3, .ref m4, .ref m5, .ref m6]))]) [1] rfl
  have hD9 := hD.sub (ws' := [(h0, .inr (18, [.int 1, .ref l1, .ref l2, .ref l3, .ref l4, .ref l5, .ref l6, .int 0, .int tol, .int ag, .ref m1, .ref m2, .ref m3, .ref m4, .ref m5, .ref m6]))]) [1] (by decide) rfl
  have hK9 := hK.sub (tys' := []) [] rfl
  exact W.iret (v := 0) hx hb hr (fun t ht hW => ⟨⟨0, (), rfl, trivial, QW.of hP9 hK9 hD9 ht hW.alike⟩, hS.F ht⟩) hS.2.2 dX14_run_29

abbrev wz_X14_wash : List Cond := .code yX14_wash cX14_wash 3 (Option.some Jvm.ClassFile.FieldType.boolean) :: lw_good
set_option maxHeartbeats 4000000 in
set_option maxRecDepth 100000 in
/-- wash (reference): there is none of it yet -/
theorem k_X14_wash (l : Launch) (G : va_G) (z : Nat) (h0 : Nat) (th : Int32) (l1 : Nat) (l2 : Nat) (l3 : Nat) (l4 : Nat) (l5 : Nat) (l6 : Nat) (tol : Int32) (ag : Int32) (m1 : Nat) (m2 : Nat) (m3 : Nat) (m4 : Nat) (m5 : Nat) (m6 : Nat) (c4 : Int32) (e4 : Nat) (p0 : Int32) (sz : Nat)  : Met l yX14_wash wz_X14_wash ({ frames := 3, cells := 0, slots := 0, locals := 64 }) (va_Pc [.ref h0, .int p0] (PW G z [(h0, .inr (18, [.int th, .ref l1, .ref l2, .ref l3, .ref l4, .ref l5, .ref l6, .int 0, .int tol, .int ag, .ref m1, .ref m2, .ref m3, .ref m4, .ref m5, .ref m6])), (l4, .inr (3, [.int c4, .ref e4, .int 0]))] [] sz)) (va_Qi (fun (r : Int32) (_ : Unit) => True) (fun (_ : Unit) (t : State) => QW G [(h0, .inr (18, [.int 1, .ref l1, .ref l2, .ref l3, .ref l4, .ref l5, .ref l6, .int 0, .int tol, .int ag, .ref m1, .ref m2, .ref m3, .ref m4, .ref m5, .ref m6]))] [] (va_A [(h0, .inr (18, [.int th, .ref l1, .ref l2, .ref l3, .ref l4, .ref l5, .ref l6, .int 0, .int tol, .int ag, .ref m1, .ref m2, .ref m3, .ref m4, .ref m5, .ref m6])), (l4, .inr (3, [.int c4, .ref e4, .int 0]))] sz) t) (va_A [(h0, .inr (18, [.int th, .ref l1, .ref l2, .ref l3, .ref l4, .ref l5, .ref l6, .int 0, .int tol, .int ag, .ref m1, .ref m2, .ref m3, .ref m4, .ref m5, .ref m6])), (l4, .inr (3, [.int c4, .ref e4, .int 0]))] sz)) 0 0 (va_A [(h0, .inr (18, [.int th, .ref l1, .ref l2, .ref l3, .ref l4, .ref l5, .ref l6, .int 0, .int tol, .int ag, .ref m1, .ref m2, .ref m3, .ref m4, .ref m5, .ref m6])), (l4, .inr (3, [.int c4, .ref e4, .int 0]))] sz) := by
  refine Met.ofW (cc := cX14_wash) (maxL := 3) (ret := (Option.some Jvm.ClassFile.FieldType.boolean)) (by decide) rfl ?_
  intro p e s m args below meth c s₁ B hml hv
  obtain ⟨rfl, rfl, hP, hK, hD0, hG⟩ := hv
  have hx := B.exec
  have hb := B.bytes
  have hr := B.returns
  have hts := atoms_spec (ws := wz_X14_wash) B.pre
  have hg : ∀ w ∈ lw_good, w.before _ s = true := fun w h => hts w (List.mem_cons_of_mem _ h)
  have hown : s.vm.findClass RX14 = some m.cls := findClass_of_methodNamed B.named
  have hlocks := B.notSynchronized
  have hD := hD0.self (sz := s.heap.size)
  generalize hAe : va_A [(h0, .inr (18, [.int th, .ref l1, .ref l2, .ref l3, .ref l4, .ref l5, .ref l6, .int 0, .int tol, .int ag, .ref m1, .ref m2, .ref m3, .ref m4, .ref m5, .ref m6])), (l4, .inr (3, [.int c4, .ref e4, .int 0]))] s.heap.size = A at hD hG ⊢
  have hA : ∀ q : Nat, s.heap.size ≤ q → A q := fun q h => by rw [← hAe]; exact Or.inr h
  have hS : va_S A s.heap s.heap [] := va_S.rf
  have hl := lv_entry ([.ref h0, .int p0]) (n := 3) (Nat.le_of_ble_eq_true rfl)
  rw [lg_entry_eq]
  generalize (lg_sl ([.ref h0, .int p0]) ++ List.replicate (3 - (lg_sl ([.ref h0, .int p0])).length) Slot.unset).toArray = ls at hl ⊢
  have hl : lv_has ls 3 [(0, .ref h0), (1, .int p0)] := hl
  refine lv_aload_n hx hb dX14_wash_0 rfl (lv_at hl 0 rfl) ?_
  refine lv_iload_n hx hb dX14_wash_1 rfl (lv_at hl 1 rfl) ?_
  have hPc := hP.sub (ws' := [(h0, .inr (18, [.int th, .ref l1, .ref l2, .ref l3, .ref l4, .ref l5, .ref l6, .int 0, .int tol, .int ag, .ref m1, .ref m2, .ref m3, .ref m4, .ref m5, .ref m6])), (l4, .inr (3, [.int c4, .ref e4, .int 0]))]) [0, 1] rfl
  have hKc := hK.sub (tys' := []) [] rfl
  have hDc := hD.sub (ws' := [(h0, .inr (18, [.int th, .ref l1, .ref l2, .ref l3, .ref l4, .ref l5, .ref l6, .int 0, .int tol, .int ag, .ref m1, .ref m2, .ref m3, .ref m4, .ref m5, .ref m6])), (l4, .inr (3, [.int c4, .ref e4, .int 0]))]) [0, 1] (by decide) rfl
  have hFc := va_free (wc := [(h0, .inr (18, [.int th, .ref l1, .ref l2, .ref l3, .ref l4, .ref l5, .ref l6, .int 0, .int tol, .int ag, .ref m1, .ref m2, .ref m3, .ref m4, .ref m5, .ref m6])), (l4, .inr (3, [.int c4, .ref e4, .int 0]))]) hD hS hA [0, 1] rfl
  refine va_calli (va_runV (As := [.int p0]) (rest := []) ⟨hx, hb, hml, hown, hts⟩ (k_X14_failsDocument l G z h0 th l1 l2 l3 l4 l5 l6 tol ag m1 m2 m3 m4 m5 m6 c4 e4 p0 s.heap.size ) (cwV 1 hts (lw_goodApp (lw_4 q1544 q1546 qs28 q7) q1547) rfl rfl rfl (by decide +kernel) ⟨Nat.le_of_ble_eq_true rfl, Nat.le_of_ble_eq_true rfl⟩) ⟨PW.blind, va_recv hK hP (ci := 18) (q0 := 0) rfl rfl, PW.of hPc hKc hDc hG hS hFc [.ref h0, .int p0]⟩ rfl rfl hl.1 rfl (lv_room (Nat.le_of_ble_eq_true rfl)) dX14_wash_2 ⟨Nat.le_of_ble_eq_true rfl, Nat.le_of_ble_eq_true rfl⟩) hS (fun q _ h => hFc q h) hFc (fun r_2 u t_4 H_1 locs ht hvm hw_3 hB hz1 hk1 hS => ?_)
  obtain ⟨hP, hD, hK⟩ := QW.join (wr := []) (w1 := [(h0, .inr (18, [.int 1, .ref l1, .ref l2, .ref l3, .ref l4, .ref l5, .ref l6, .int 0, .int tol, .int ag, .ref m1, .ref m2, .ref m3, .ref m4, .ref m5, .ref m6])), (l4, .inr (3, [.int c4, .ref e4, .int 0]))]) hP hD hK [0, 1] [] rfl rfl (by decide) (by decide) hk1 hFc ht hvm hB
  have hP : va_P G vwCl ([(h0, .inr (18, [.int 1, .ref l1, .ref l2, .ref l3, .ref l4, .ref l5, .ref l6, .int 0, .int tol, .int ag, .ref m1, .ref m2, .ref m3, .ref m4, .ref m5, .ref m6])), (l4, .inr (3, [.int c4, .ref e4, .int 0]))]) H_1 := hP
  have hD : va_D A ([(h0, .inr (18, [.int 1, .ref l1, .ref l2, .ref l3, .ref l4, .ref l5, .ref l6, .int 0, .int tol, .int ag, .ref m1, .ref m2, .ref m3, .ref m4, .ref m5, .ref m6])), (l4, .inr (3, [.int c4, .ref e4, .int 0]))]) := hD
  have hK : va_K G vwCl [] s := hK
  refine W.widen (k := 0) (n := 0) (Nat.le_of_ble_eq_true rfl) (Nat.le_of_ble_eq_true rfl) ?_
  obtain rfl : 1 = r_2 := hw_3.symm
  refine lv_if_eq (tgt := 10) hx hb dX14_wash_5 (by decide) (fun c_5 => absurd c_5 (by decide)) (fun c_5 => ?_)
  refine lv_iconst (v := 0) hx hb dX14_wash_8 (by decide) ?_
  refine W.widen (k := 0) (n := 0) (Nat.le_of_ble_eq_true rfl) (Nat.le_of_ble_eq_true rfl) ?_
  have hP9 := hP.sub (ws' := [(h0, .inr (18, [.int 1, .ref l1, .ref l2, .ref l3, .ref l4, .ref l5, .ref l6, .int 0, .int tol, .int ag, .ref m1, .ref m2, .ref m3, .ref m4, .ref m5, .ref m6]))]) [0] rfl
  have hD9 := hD.sub (ws' := [(h0, .inr (18, [.int 1, .ref l1, .ref l2, .ref l3, .ref l4, .ref l5, .ref l6, .int 0, .int tol, .int ag, .ref m1, .ref m2, .ref m3, .ref m4, .ref m5, .ref m6]))]) [0] (by decide) rfl
  have hK9 := hK.sub (tys' := []) [] rfl
  exact W.zret (v := 0) hx hb hr rfl (fun t ht hW => ⟨⟨0, (), rfl, trivial, QW.of hP9 hK9 hD9 ht hW.alike⟩, hS.F ht⟩) hS.2.2 dX14_wash_9

abbrev wz_X14_image : List Cond := .code yX14_image cX14_image 10 (Option.some Jvm.ClassFile.FieldType.int) :: lw_good
set_option maxHeartbeats 4000000 in
set_option maxRecDepth 100000 in
/-- image (reference): there is none of it yet -/
theorem k_X14_image (l : Launch) (G : va_G) (z : Nat) (h0 : Nat) (th : Int32) (l1 : Nat) (l2 : Nat) (l3 : Nat) (l4 : Nat) (l5 : Nat) (l6 : Nat) (tol : Int32) (ag : Int32) (m1 : Nat) (m2 : Nat) (m3 : Nat) (m4 : Nat) (m5 : Nat) (m6 : Nat) (c4 : Int32) (e4 : Nat) (p0 : Int32) (p1 : Int32) (p2 : Int32) (p3 : Int32) (sz : Nat)  : Met l yX14_image wz_X14_image ({ frames := 3, cells := 0, slots := 0, locals := 64 }) (va_Pc [.ref h0, .int p0, .int p1, .int p2, .int p3] (PW G z [(h0, .inr (18, [.int th, .ref l1, .ref l2, .ref l3, .ref l4, .ref l5, .ref l6, .int 0, .int tol, .int ag, .ref m1, .ref m2, .ref m3, .ref m4, .ref m5, .ref m6])), (l4, .inr (3, [.int c4, .ref e4, .int 0]))] [] sz)) (va_Qi (fun (r : Int32) (_ : Unit) => True) (fun (_ : Unit) (t : State) => QW G [(h0, .inr (18, [.int 1, .ref l1, .ref l2, .ref l3, .ref l4, .ref l5, .ref l6, .int 0, .int tol, .int ag, .ref m1, .ref m2, .ref m3, .ref m4, .ref m5, .ref m6]))] [] (va_A [(h0, .inr (18, [.int th, .ref l1, .ref l2, .ref l3, .ref l4, .ref l5, .ref l6, .int 0, .int tol, .int ag, .ref m1, .ref m2, .ref m3, .ref m4, .ref m5, .ref m6])), (l4, .inr (3, [.int c4, .ref e4, .int 0]))] sz) t) (va_A [(h0, .inr (18, [.int th, .ref l1, .ref l2, .ref l3, .ref l4, .ref l5, .ref l6, .int 0, .int tol, .int ag, .ref m1, .ref m2, .ref m3, .ref m4, .ref m5, .ref m6])), (l4, .inr (3, [.int c4, .ref e4, .int 0]))] sz)) 0 0 (va_A [(h0, .inr (18, [.int th, .ref l1, .ref l2, .ref l3, .ref l4, .ref l5, .ref l6, .int 0, .int tol, .int ag, .ref m1, .ref m2, .ref m3, .ref m4, .ref m5, .ref m6])), (l4, .inr (3, [.int c4, .ref e4, .int 0]))] sz) := by
  refine Met.ofW (cc := cX14_image) (maxL := 10) (ret := (Option.some Jvm.ClassFile.FieldType.int)) (by decide) rfl ?_
  intro p e s m args below meth c s₁ B hml hv
  obtain ⟨rfl, rfl, hP, hK, hD0, hG⟩ := hv
  have hx := B.exec
  have hb := B.bytes
  have hr := B.returns
  have hts := atoms_spec (ws := wz_X14_image) B.pre
  have hg : ∀ w ∈ lw_good, w.before _ s = true := fun w h => hts w (List.mem_cons_of_mem _ h)
  have hown : s.vm.findClass RX14 = some m.cls := findClass_of_methodNamed B.named
  have hlocks := B.notSynchronized
  have hD := hD0.self (sz := s.heap.size)
  generalize hAe : va_A [(h0, .inr (18, [.int th, .ref l1, .ref l2, .ref l3, .ref l4, .ref l5, .ref l6, .int 0, .int tol, .int ag, .ref m1, .ref m2, .ref m3, .ref m4, .ref m5, .ref m6])), (l4, .inr (3, [.int c4, .ref e4, .int 0]))] s.heap.size = A at hD hG ⊢
  have hA : ∀ q : Nat, s.heap.size ≤ q → A q := fun q h => by rw [← hAe]; exact Or.inr h
  have hS : va_S A s.heap s.heap [] := va_S.rf
  have hl := lv_entry ([.ref h0, .int p0, .int p1, .int p2, .int p3]) (n := 10) (Nat.le_of_ble_eq_true rfl)
  rw [lg_entry_eq]
  generalize (lg_sl ([.ref h0, .int p0, .int p1, .int p2, .int p3]) ++ List.replicate (10 - (lg_sl ([.ref h0, .int p0, .int p1, .int p2, .int p3])).length) Slot.unset).toArray = ls at hl ⊢
  have hl : lv_has ls 10 [(0, .ref h0), (1, .int p0), (2, .int p1), (3, .int p2), (4, .int p3)] := hl
  refine lv_aload_n hx hb dX14_image_0 rfl (lv_at hl 0 rfl) ?_
  refine lv_iload_n hx hb dX14_image_1 rfl (lv_at hl 1 rfl) ?_
  have hPc := hP.sub (ws' := [(h0, .inr (18, [.int th, .ref l1, .ref l2, .ref l3, .ref l4, .ref l5, .ref l6, .int 0, .int tol, .int ag, .ref m1, .ref m2, .ref m3, .ref m4, .ref m5, .ref m6])), (l4, .inr (3, [.int c4, .ref e4, .int 0]))]) [0, 1] rfl
  have hKc := hK.sub (tys' := []) [] rfl
  have hDc := hD.sub (ws' := [(h0, .inr (18, [.int th, .ref l1, .ref l2, .ref l3, .ref l4, .ref l5, .ref l6, .int 0, .int tol, .int ag, .ref m1, .ref m2, .ref m3, .ref m4, .ref m5, .ref m6])), (l4, .inr (3, [.int c4, .ref e4, .int 0]))]) [0, 1] (by decide) rfl
  have hFc := va_free (wc := [(h0, .inr (18, [.int th, .ref l1, .ref l2, .ref l3, .ref l4, .ref l5, .ref l6, .int 0, .int tol, .int ag, .ref m1, .ref m2, .ref m3, .ref m4, .ref m5, .ref m6])), (l4, .inr (3, [.int c4, .ref e4, .int 0]))]) hD hS hA [0, 1] rfl
  refine va_calli (va_runV (As := [.int p0]) (rest := []) ⟨hx, hb, hml, hown, hts⟩ (k_X14_failsDocument l G z h0 th l1 l2 l3 l4 l5 l6 tol ag m1 m2 m3 m4 m5 m6 c4 e4 p0 s.heap.size ) (cwV 1 hts (lw_goodApp (lw_4 q1544 q1546 qs28 q7) q1547) rfl rfl rfl (by decide +kernel) ⟨Nat.le_of_ble_eq_true rfl, Nat.le_of_ble_eq_true rfl⟩) ⟨PW.blind, va_recv hK hP (ci := 18) (q0 := 0) rfl rfl, PW.of hPc hKc hDc hG hS hFc [.ref h0, .int p0]⟩ rfl rfl hl.1 rfl (lv_room (Nat.le_of_ble_eq_true rfl)) dX14_image_2 ⟨Nat.le_of_ble_eq_true rfl, Nat.le_of_ble_eq_true rfl⟩) hS (fun q _ h => hFc q h) hFc (fun r_2 u t_4 H_1 locs ht hvm hw_3 hB hz1 hk1 hS => ?_)
  obtain ⟨hP, hD, hK⟩ := QW.join (wr := []) (w1 := [(h0, .inr (18, [.int 1, .ref l1, .ref l2, .ref l3, .ref l4, .ref l5, .ref l6, .int 0, .int tol, .int ag, .ref m1, .ref m2, .ref m3, .ref m4, .ref m5, .ref m6])), (l4, .inr (3, [.int c4, .ref e4, .int 0]))]) hP hD hK [0, 1] [] rfl rfl (by decide) (by decide) hk1 hFc ht hvm hB
  have hP : va_P G vwCl ([(h0, .inr (18, [.int 1, .ref l1, .ref l2, .ref l3, .ref l4, .ref l5, .ref l6, .int 0, .int tol, .int ag, .ref m1, .ref m2, .ref m3, .ref m4, .ref m5, .ref m6])), (l4, .inr (3, [.int c4, .ref e4, .int 0]))]) H_1 := hP
  have hD : va_D A ([(h0, .inr (18, [.int 1, .ref l1, .ref l2, .ref l3, .ref l4, .ref l5, .ref l6, .int 0, .int tol, .int ag, .ref m1, .ref m2, .ref m3, .ref m4, .ref m5, .ref m6])), (l4, .inr (3, [.int c4, .ref e4, .int 0]))]) := hD
  have hK : va_K G vwCl [] s := hK
  refine W.widen (k := 0) (n := 0) (Nat.le_of_ble_eq_true rfl) (Nat.le_of_ble_eq_true rfl) ?_
  obtain rfl : 1 = r_2 := hw_3.symm
  refine lv_if_ne (tgt := 72) hx hb dX14_image_5 (by decide) (fun c_5 => ?_) (fun c_5 => absurd c_5 (by decide))
  refine lv_iconst (v := 0) hx hb dX14_image_72 (by decide) ?_
  refine W.widen (k := 0) (n := 0) (Nat.le_of_ble_eq_true rfl) (Nat.le_of_ble_eq_true rfl) ?_
  have hP9 := hP.sub (ws' := [(h0, .inr (18, [.int 1, .ref l1, .ref l2, .ref l3, .ref l4, .ref l5, .ref l6, .int 0, .int tol, .int ag, .ref m1, .ref m2, .ref m3, .ref m4, .ref m5, .ref m6]))]) [0] rfl
  have hD9 := hD.sub (ws' := [(h0, .inr (18, [.int 1, .ref l1, .ref l2, .ref l3, .ref l4, .ref l5, .ref l6, .int 0, .int tol, .int ag, .ref m1, .ref m2, .ref m3, .ref m4, .ref m5, .ref m6]))]) [0] (by decide) rfl
  have hK9 := hK.sub (tys' := []) [] rfl
  exact W.iret (v := 0) hx hb hr (fun t ht hW => ⟨⟨0, (), rfl, trivial, QW.of hP9 hK9 hD9 ht hW.alike⟩, hS.F ht⟩) hS.2.2 dX14_image_73

abbrev wz_X14_date : List Cond := .code yX14_date cX14_date 4 (Option.some Jvm.ClassFile.FieldType.int) :: lw_good
set_option maxHeartbeats 4000000 in
set_option maxRecDepth 100000 in
/-- date (reference): there is none of it yet -/
theorem k_X14_date (l : Launch) (G : va_G) (z : Nat) (h0 : Nat) (th : Int32) (l1 : Nat) (l2 : Nat) (l3 : Nat) (l4 : Nat) (l5 : Nat) (l6 : Nat) (tol : Int32) (ag : Int32) (m1 : Nat) (m2 : Nat) (m3 : Nat) (m4 : Nat) (m5 : Nat) (m6 : Nat) (c4 : Int32) (e4 : Nat) (p0 : Int32) (p1 : Int32) (sz : Nat)  : Met l yX14_date wz_X14_date ({ frames := 3, cells := 0, slots := 0, locals := 64 }) (va_Pc [.ref h0, .int p0, .int p1] (PW G z [(h0, .inr (18, [.int th, .ref l1, .ref l2, .ref l3, .ref l4, .ref l5, .ref l6, .int 0, .int tol, .int ag, .ref m1, .ref m2, .ref m3, .ref m4, .ref m5, .ref m6])), (l4, .inr (3, [.int c4, .ref e4, .int 0]))] [] sz)) (va_Qi (fun (r : Int32) (_ : Unit) => True) (fun (_ : Unit) (t : State) => QW G [(h0, .inr (18, [.int 1, .ref l1, .ref l2, .ref l3, .ref l4, .ref l5, .ref l6, .int 0, .int tol, .int ag, .ref m1, .ref m2, .ref m3, .ref m4, .ref m5, .ref m6]))] [] (va_A [(h0, .inr (18, [.int th, .ref l1, .ref l2, .ref l3, .ref l4, .ref l5, .ref l6, .int 0, .int tol, .int ag, .ref m1, .ref m2, .ref m3, .ref m4, .ref m5, .ref m6])), (l4, .inr (3, [.int c4, .ref e4, .int 0]))] sz) t) (va_A [(h0, .inr (18, [.int th, .ref l1, .ref l2, .ref l3, .ref l4, .ref l5, .ref l6, .int 0, .int tol, .int ag, .ref m1, .ref m2, .ref m3, .ref m4, .ref m5, .ref m6])), (l4, .inr (3, [.int c4, .ref e4, .int 0]))] sz)) 0 0 (va_A [(h0, .inr (18, [.int th, .ref l1, .ref l2, .ref l3, .ref l4, .ref l5, .ref l6, .int 0, .int tol, .int ag, .ref m1, .ref m2, .ref m3, .ref m4, .ref m5, .ref m6])), (l4, .inr (3, [.int c4, .ref e4, .int 0]))] sz) := by
  refine Met.ofW (cc := cX14_date) (maxL := 4) (ret := (Option.some Jvm.ClassFile.FieldType.int)) (by decide) rfl ?_
  intro p e s m args below meth c s₁ B hml hv
  obtain ⟨rfl, rfl, hP, hK, hD0, hG⟩ := hv
  have hx := B.exec
  have hb := B.bytes
  have hr := B.returns
  have hts := atoms_spec (ws := wz_X14_date) B.pre
  have hg : ∀ w ∈ lw_good, w.before _ s = true := fun w h => hts w (List.mem_cons_of_mem _ h)
  have hown : s.vm.findClass RX14 = some m.cls := findClass_of_methodNamed B.named
  have hlocks := B.notSynchronized
  have hD := hD0.self (sz := s.heap.size)
  generalize hAe : va_A [(h0, .inr (18, [.int th, .ref l1, .ref l2, .ref l3, .ref l4, .ref l5, .ref l6, .int 0, .int tol, .int ag, .ref m1, .ref m2, .ref m3, .ref m4, .ref m5, .ref m6])), (l4, .inr (3, [.int c4, .ref e4, .int 0]))] s.heap.size = A at hD hG ⊢
  have hA : ∀ q : Nat, s.heap.size ≤ q → A q := fun q h => by rw [← hAe]; exact Or.inr h
  have hS : va_S A s.heap s.heap [] := va_S.rf
  have hl := lv_entry ([.ref h0, .int p0, .int p1]) (n := 4) (Nat.le_of_ble_eq_true rfl)
  rw [lg_entry_eq]
  generalize (lg_sl ([.ref h0, .int p0, .int p1]) ++ List.replicate (4 - (lg_sl ([.ref h0, .int p0, .int p1])).length) Slot.unset).toArray = ls at hl ⊢
  have hl : lv_has ls 4 [(0, .ref h0), (1, .int p0), (2, .int p1)] := hl
  refine lv_aload_n hx hb dX14_date_0 rfl (lv_at hl 0 rfl) ?_
  refine lv_iload_n hx hb dX14_date_1 rfl (lv_at hl 1 rfl) ?_
  have hPc := hP.sub (ws' := [(h0, .inr (18, [.int th, .ref l1, .ref l2, .ref l3, .ref l4, .ref l5, .ref l6, .int 0, .int tol, .int ag, .ref m1, .ref m2, .ref m3, .ref m4, .ref m5, .ref m6])), (l4, .inr (3, [.int c4, .ref e4, .int 0]))]) [0, 1] rfl
  have hKc := hK.sub (tys' := []) [] rfl
  have hDc := hD.sub (ws' := [(h0, .inr (18, [.int th, .ref l1, .ref l2, .ref l3, .ref l4, .ref l5, .ref l6, .int 0, .int tol, .int ag, .ref m1, .ref m2, .ref m3, .ref m4, .ref m5, .ref m6])), (l4, .inr (3, [.int c4, .ref e4, .int 0]))]) [0, 1] (by decide) rfl
  have hFc := va_free (wc := [(h0, .inr (18, [.int th, .ref l1, .ref l2, .ref l3, .ref l4, .ref l5, .ref l6, .int 0, .int tol, .int ag, .ref m1, .ref m2, .ref m3, .ref m4, .ref m5, .ref m6])), (l4, .inr (3, [.int c4, .ref e4, .int 0]))]) hD hS hA [0, 1] rfl
  refine va_calli (va_runV (As := [.int p0]) (rest := []) ⟨hx, hb, hml, hown, hts⟩ (k_X14_failsDocument l G z h0 th l1 l2 l3 l4 l5 l6 tol ag m1 m2 m3 m4 m5 m6 c4 e4 p0 s.heap.size ) (cwV 1 hts (lw_goodApp (lw_4 q1544 q1546 qs28 q7) q1547) rfl rfl rfl (by decide +kernel) ⟨Nat.le_of_ble_eq_true rfl, Nat.le_of_ble_eq_true rfl⟩) ⟨PW.blind, va_recv hK hP (ci := 18) (q0 := 0) rfl rfl, PW.of hPc hKc hDc hG hS hFc [.ref h0, .int p0]⟩ rfl rfl hl.1 rfl (lv_room (Nat.le_of_ble_eq_true rfl)) dX14_date_2 ⟨Nat.le_of_ble_eq_true rfl, Nat.le_of_ble_eq_true rfl⟩) hS (fun q _ h => hFc q h) hFc (fun r_2 u t_4 H_1 locs ht hvm hw_3 hB hz1 hk1 hS => ?_)
  obtain ⟨hP, hD, hK⟩ := QW.join (wr := []) (w1 := [(h0, .inr (18, [.int 1, .ref l1, .ref l2, .ref l3, .ref l4, .ref l5, .ref l6, .int 0, .int tol, .int ag, .ref m1, .ref m2, .ref m3, .ref m4, .ref m5, .ref m6])), (l4, .inr (3, [.int c4, .ref e4, .int 0]))]) hP hD hK [0, 1] [] rfl rfl (by decide) (by decide) hk1 hFc ht hvm hB
  have hP : va_P G vwCl ([(h0, .inr (18, [.int 1, .ref l1, .ref l2, .ref l3, .ref l4, .ref l5, .ref l6, .int 0, .int tol, .int ag, .ref m1, .ref m2, .ref m3, .ref m4, .ref m5, .ref m6])), (l4, .inr (3, [.int c4, .ref e4, .int 0]))]) H_1 := hP
  have hD : va_D A ([(h0, .inr (18, [.int 1, .ref l1, .ref l2, .ref l3, .ref l4, .ref l5, .ref l6, .int 0, .int tol, .int ag, .ref m1, .ref m2, .ref m3, .ref m4, .ref m5, .ref m6])), (l4, .inr (3, [.int c4, .ref e4, .int 0]))]) := hD
  have hK : va_K G vwCl [] s := hK
  refine W.widen (k := 0) (n := 0) (Nat.le_of_ble_eq_true rfl) (Nat.le_of_ble_eq_true rfl) ?_
  obtain rfl : 1 = r_2 := hw_3.symm
  refine lv_if_ne (tgt := 31) hx hb dX14_date_5 (by decide) (fun c_5 => ?_) (fun c_5 => absurd c_5 (by decide))
  refine lv_iconst (v := 0) hx hb dX14_date_31 (by decide) ?_
  refine W.widen (k := 0) (n := 0) (Nat.le_of_ble_eq_true rfl) (Nat.le_of_ble_eq_true rfl) ?_
  have hP9 := hP.sub (ws' := [(h0, .inr (18, [.int 1, .ref l1, .ref l2, .ref l3, .ref l4, .ref l5, .ref l6, .int 0, .int tol, .int ag, .ref m1, .ref m2, .ref m3, .ref m4, .ref m5, .ref m6]))]) [0] rfl
  have hD9 := hD.sub (ws' := [(h0, .inr (18, [.int 1, .ref l1, .ref l2, .ref l3, .ref l4, .ref l5, .ref l6, .int 0, .int tol, .int ag, .ref m1, .ref m2, .ref m3, .ref m4, .ref m5, .ref m6]))]) [0] (by decide) rfl
  have hK9 := hK.sub (tys' := []) [] rfl
  exact W.iret (v := 0) hx hb hr (fun t ht hW => ⟨⟨0, (), rfl, trivial, QW.of hP9 hK9 hD9 ht hW.alike⟩, hS.F ht⟩) hS.2.2 dX14_date_32

abbrev wz_X14_year : List Cond := .code yX14_year cX14_year 3 (Option.some Jvm.ClassFile.FieldType.int) :: lw_good
set_option maxHeartbeats 4000000 in
set_option maxRecDepth 100000 in
/-- year (reference): there is none of it yet -/
theorem k_X14_year (l : Launch) (G : va_G) (z : Nat) (h0 : Nat) (th : Int32) (l1 : Nat) (l2 : Nat) (l3 : Nat) (l4 : Nat) (l5 : Nat) (l6 : Nat) (tol : Int32) (ag : Int32) (m1 : Nat) (m2 : Nat) (m3 : Nat) (m4 : Nat) (m5 : Nat) (m6 : Nat) (c4 : Int32) (e4 : Nat) (p0 : Int32) (p1 : Int32) (sz : Nat)  : Met l yX14_year wz_X14_year ({ frames := 3, cells := 0, slots := 0, locals := 64 }) (va_Pc [.ref h0, .int p0, .int p1] (PW G z [(h0, .inr (18, [.int th, .ref l1, .ref l2, .ref l3, .ref l4, .ref l5, .ref l6, .int 0, .int tol, .int ag, .ref m1, .ref m2, .ref m3, .ref m4, .ref m5, .ref m6])), (l4, .inr (3, [.int c4, .ref e4, .int 0]))] [] sz)) (va_Qi (fun (r : Int32) (_ : Unit) => True) (fun (_ : Unit) (t : State) => QW G [(h0, .inr (18, [.int 1, .ref l1, .ref l2, .ref l3, .ref l4, .ref l5, .ref l6, .int 0, .int tol, .int ag, .ref m1, .ref m2, .ref m3, .ref m4, .ref m5, .ref m6]))] [] (va_A [(h0, .inr (18, [.int th, .ref l1, .ref l2, .ref l3, .ref l4, .ref l5, .ref l6, .int 0, .int tol, .int ag, .ref m1, .ref m2, .ref m3, .ref m4, .ref m5, .ref m6])), (l4, .inr (3, [.int c4, .ref e4, .int 0]))] sz) t) (va_A [(h0, .inr (18, [.int th, .ref l1, .ref l2, .ref l3, .ref l4, .ref l5, .ref l6, .int 0, .int tol, .int ag, .ref m1, .ref m2, .ref m3, .ref m4, .ref m5, .ref m6])), (l4, .inr (3, [.int c4, .ref e4, .int 0]))] sz)) 0 0 (va_A [(h0, .inr (18, [.int th, .ref l1, .ref l2, .ref l3, .ref l4, .ref l5, .ref l6, .int 0, .int tol, .int ag, .ref m1, .ref m2, .ref m3, .ref m4, .ref m5, .ref m6])), (l4, .inr (3, [.int c4, .ref e4, .int 0]))] sz) := by
  refine Met.ofW (cc := cX14_year) (maxL := 3) (ret := (Option.some Jvm.ClassFile.FieldType.int)) (by decide) rfl ?_
  intro p e s m args below meth c s₁ B hml hv
  obtain ⟨rfl, rfl, hP, hK, hD0, hG⟩ := hv
  have hx := B.exec
  have hb := B.bytes
  have hr := B.returns
  have hts := atoms_spec (ws := wz_X14_year) B.pre
  have hg : ∀ w ∈ lw_good, w.before _ s = true := fun w h => hts w (List.mem_cons_of_mem _ h)
  have hown : s.vm.findClass RX14 = some m.cls := findClass_of_methodNamed B.named
  have hlocks := B.notSynchronized
  have hD := hD0.self (sz := s.heap.size)
  generalize hAe : va_A [(h0, .inr (18, [.int th, .ref l1, .ref l2, .ref l3, .ref l4, .ref l5, .ref l6, .int 0, .int tol, .int ag, .ref m1, .ref m2, .ref m3, .ref m4, .ref m5, .ref m6])), (l4, .inr (3, [.int c4, .ref e4, .int 0]))] s.heap.size = A at hD hG ⊢
  have hA : ∀ q : Nat, s.heap.size ≤ q → A q := fun q h => by rw [← hAe]; exact Or.inr h
  have hS : va_S A s.heap s.heap [] := va_S.rf
  have hl := lv_entry ([.ref h0, .int p0, .int p1]) (n := 3) (Nat.le_of_ble_eq_true rfl)
  rw [lg_entry_eq]
  generalize (lg_sl ([.ref h0, .int p0, .int p1]) ++ List.replicate (3 - (lg_sl ([.ref h0, .int p0, .int p1])).length) Slot.unset).toArray = ls at hl ⊢
  have hl : lv_has ls 3 [(0, .ref h0), (1, .int p0), (2, .int p1)] := hl
  refine lv_aload_n hx hb dX14_year_0 rfl (lv_at hl 0 rfl) ?_
  refine lv_iload_n hx hb dX14_year_1 rfl (lv_at hl 1 rfl) ?_
  have hPc := hP.sub (ws' := [(h0, .inr (18, [.int th, .ref l1, .ref l2, .ref l3, .ref l4, .ref l5, .ref l6, .int 0, .int tol, .int ag, .ref m1, .ref m2, .ref m3, .ref m4, .ref m5, .ref m6])), (l4, .inr (3, [.int c4, .ref e4, .int 0]))]) [0, 1] rfl
  have hKc := hK.sub (tys' := []) [] rfl
  have hDc := hD.sub (ws' := [(h0, .inr (18, [.int th, .ref l1, .ref l2, .ref l3, .ref l4, .ref l5, .ref l6, .int 0, .int tol, .int ag, .ref m1, .ref m2, .ref m3, .ref m4, .ref m5, .ref m6])), (l4, .inr (3, [.int c4, .ref e4, .int 0]))]) [0, 1] (by decide) rfl
  have hFc := va_free (wc := [(h0, .inr (18, [.int th, .ref l1, .ref l2, .ref l3, .ref l4, .ref l5, .ref l6, .int 0, .int tol, .int ag, .ref m1, .ref m2, .ref m3, .ref m4, .ref m5, .ref m6])), (l4, .inr (3, [.int c4, .ref e4, .int 0]))]) hD hS hA [0, 1] rfl
  refine va_calli (va_runV (As := [.int p0]) (rest := []) ⟨hx, hb, hml, hown, hts⟩ (k_X14_failsDocument l G z h0 th l1 l2 l3 l4 l5 l6 tol ag m1 m2 m3 m4 m5 m6 c4 e4 p0 s.heap.size ) (cwV 1 hts (lw_goodApp (lw_4 q1544 q1546 qs28 q7) q1547) rfl rfl rfl (by decide +kernel) ⟨Nat.le_of_ble_eq_true rfl, Nat.le_of_ble_eq_true rfl⟩) ⟨PW.blind, va_recv hK hP (ci := 18) (q0 := 0) rfl rfl, PW.of hPc hKc hDc hG hS hFc [.ref h0, .int p0]⟩ rfl rfl hl.1 rfl (lv_room (Nat.le_of_ble_eq_true rfl)) dX14_year_2 ⟨Nat.le_of_ble_eq_true rfl, Nat.le_of_ble_eq_true rfl⟩) hS (fun q _ h => hFc q h) hFc (fun r_2 u t_4 H_1 locs ht hvm hw_3 hB hz1 hk1 hS => ?_)
  obtain ⟨hP, hD, hK⟩ := QW.join (wr := []) (w1 := [(h0, .inr (18, [.int 1, .ref l1, .ref l2, .ref l3, .ref l4, .ref l5, .ref l6, .int 0, .int tol, .int ag, .ref m1, .ref m2, .ref m3, .ref m4, .ref m5, .ref m6])), (l4, .inr (3, [.int c4, .ref e4, .int 0]))]) hP hD hK [0, 1] [] rfl rfl (by decide) (by decide) hk1 hFc ht hvm hB
  have hP : va_P G vwCl ([(h0, .inr (18, [.int 1, .ref l1, .ref l2, .ref l3, .ref l4, .ref l5, .ref l6, .int 0, .int tol, .int ag, .ref m1, .ref m2, .ref m3, .ref m4, .ref m5, .ref m6])), (l4, .inr (3, [.int c4, .ref e4, .int 0]))]) H_1 := hP
  have hD : va_D A ([(h0, .inr (18, [.int 1, .ref l1, .ref l2, .ref l3, .ref l4, .ref l5, .ref l6, .int 0, .int tol, .int ag, .ref m1, .ref m2, .ref m3, .ref m4, .ref m5, .ref m6])), (l4, .inr (3, [.int c4, .ref e4, .int 0]))]) := hD
  have hK : va_K G vwCl [] s := hK
  refine W.widen (k := 0) (n := 0) (Nat.le_of_ble_eq_true rfl) (Nat.le_of_ble_eq_true rfl) ?_
  obtain rfl : 1 = r_2 := hw_3.symm
  refine lv_if_ne (tgt := 28) hx hb dX14_year_5 (by decide) (fun c_5 => ?_) (fun c_5 => absurd c_5 (by decide))
  refine lv_iconst (v := 0) hx hb dX14_year_28 (by decide) ?_
  refine lv_goto (tgt := 38) hx hb dX14_year_29 (by decide) ?_
  refine W.widen (k := 0) (n := 0) (Nat.le_of_ble_eq_true rfl) (Nat.le_of_ble_eq_true rfl) ?_
  have hP9 := hP.sub (ws' := [(h0, .inr (18, [.int 1, .ref l1, .ref l2, .ref l3, .ref l4, .ref l5, .ref l6, .int 0, .int tol, .int ag, .ref m1, .ref m2, .ref m3, .ref m4, .ref m5, .ref m6]))]) [0] rfl
  have hD9 := hD.sub (ws' := [(h0, .inr (18, [.int 1, .ref l1, .ref l2, .ref l3, .ref l4, .ref l5, .ref l6, .int 0, .int tol, .int ag, .ref m1, .ref m2, .ref m3, .ref m4, .ref m5, .ref m6]))]) [0] (by decide) rfl
  have hK9 := hK.sub (tys' := []) [] rfl
  exact W.iret (v := 0) hx hb hr (fun t ht hW => ⟨⟨0, (), rfl, trivial, QW.of hP9 hK9 hD9 ht hW.alike⟩, hS.F ht⟩) hS.2.2 dX14_year_38

abbrev wz_X14_ground : List Cond := .code yX14_ground cX14_ground 7 (Option.some Jvm.ClassFile.FieldType.int) :: lw_good
set_option maxHeartbeats 4000000 in
set_option maxRecDepth 100000 in
/-- ground (reference): there is none of it yet -/
theorem k_X14_ground (l : Launch) (G : va_G) (z : Nat) (h0 : Nat) (th : Int32) (l1 : Nat) (l2 : Nat) (l3 : Nat) (l4 : Nat) (l5 : Nat) (l6 : Nat) (tol : Int32) (ag : Int32) (m1 : Nat) (m2 : Nat) (m3 : Nat) (m4 : Nat) (m5 : Nat) (m6 : Nat) (c4 : Int32) (e4 : Nat) (p0 : Int32) (p1 : Int32) (sz : Nat)  : Met l yX14_ground wz_X14_ground ({ frames := 3, cells := 0, slots := 0, locals := 64 }) (va_Pc [.ref h0, .int p0, .int p1] (PW G z [(h0, .inr (18, [.int th, .ref l1, .ref l2, .ref l3, .ref l4, .ref l5, .ref l6, .int 0, .int tol, .int ag, .ref m1, .ref m2, .ref m3, .ref m4, .ref m5, .ref m6])), (l4, .inr (3, [.int c4, .ref e4, .int 0]))] [] sz)) (va_Qi (fun (r : Int32) (_ : Unit) => True) (fun (_ : Unit) (t : State) => QW G [(h0, .inr (18, [.int 1, .ref l1, .ref l2, .ref l3, .ref l4, .ref l5, .ref l6, .int 0, .int tol, .int ag, .ref m1, .ref m2, .ref m3, .ref m4, .ref m5, .ref m6]))] [] (va_A [(h0, .inr (18, [.int th, .ref l1, .ref l2, .ref l3, .ref l4, .ref l5, .ref l6, .int 0, .int tol, .int ag, .ref m1, .ref m2, .ref m3, .ref m4, .ref m5, .ref m6])), (l4, .inr (3, [.int c4, .ref e4, .int 0]))] sz) t) (va_A [(h0, .inr (18, [.int th, .ref l1, .ref l2, .ref l3, .ref l4, .ref l5, .ref l6, .int 0, .int tol, .int ag, .ref m1, .ref m2, .ref m3, .ref m4, .ref m5, .ref m6])), (l4, .inr (3, [.int c4, .ref e4, .int 0]))] sz)) 0 0 (va_A [(h0, .inr (18, [.int th, .ref l1, .ref l2, .ref l3, .ref l4, .ref l5, .ref l6, .int 0, .int tol, .int ag, .ref m1, .ref m2, .ref m3, .ref m4, .ref m5, .ref m6])), (l4, .inr (3, [.int c4, .ref e4, .int 0]))] sz) := by
  refine Met.ofW (cc := cX14_ground) (maxL := 7) (ret := (Option.some Jvm.ClassFile.FieldType.int)) (by decide) rfl ?_
  intro p e s m args below meth c s₁ B hml hv
  obtain ⟨rfl, rfl, hP, hK, hD0, hG⟩ := hv
  have hx := B.exec
  have hb := B.bytes
  have hr := B.returns
  have hts := atoms_spec (ws := wz_X14_ground) B.pre
  have hg : ∀ w ∈ lw_good, w.before _ s = true := fun w h => hts w (List.mem_cons_of_mem _ h)
  have hown : s.vm.findClass RX14 = some m.cls := findClass_of_methodNamed B.named
  have hlocks := B.notSynchronized
  have hD := hD0.self (sz := s.heap.size)
  generalize hAe : va_A [(h0, .inr (18, [.int th, .ref l1, .ref l2, .ref l3, .ref l4, .ref l5, .ref l6, .int 0, .int tol, .int ag, .ref m1, .ref m2, .ref m3, .ref m4, .ref m5, .ref m6])), (l4, .inr (3, [.int c4, .ref e4, .int 0]))] s.heap.size = A at hD hG ⊢
  have hA : ∀ q : Nat, s.heap.size ≤ q → A q := fun q h => by rw [← hAe]; exact Or.inr h
  have hS : va_S A s.heap s.heap [] := va_S.rf
  have hl := lv_entry ([.ref h0, .int p0, .int p1]) (n := 7) (Nat.le_of_ble_eq_true rfl)
  rw [lg_entry_eq]
  generalize (lg_sl ([.ref h0, .int p0, .int p1]) ++ List.replicate (7 - (lg_sl ([.ref h0, .int p0, .int p1])).length) Slot.unset).toArray = ls at hl ⊢
  have hl : lv_has ls 7 [(0, .ref h0), (1, .int p0), (2, .int p1)] := hl
  refine lv_aload_n hx hb dX14_ground_0 rfl (lv_at hl 0 rfl) ?_
  refine lv_iload_n hx hb dX14_ground_1 rfl (lv_at hl 1 rfl) ?_
  have hPc := hP.sub (ws' := [(h0, .inr (18, [.int th, .ref l1, .ref l2, .ref l3, .ref l4, .ref l5, .ref l6, .int 0, .int tol, .int ag, .ref m1, .ref m2, .ref m3, .ref m4, .ref m5, .ref m6])), (l4, .inr (3, [.int c4, .ref e4, .int 0]))]) [0, 1] rfl
  have hKc := hK.sub (tys' := []) [] rfl
  have hDc := hD.sub (ws' := [(h0, .inr (18, [.int th, .ref l1, .ref l2, .ref l3, .ref l4, .ref l5, .ref l6, .int 0, .int tol, .int ag, .ref m1, .ref m2, .ref m3, .ref m4, .ref m5, .ref m6])), (l4, .inr (3, [.int c4, .ref e4, .int 0]))]) [0, 1] (by decide) rfl
  have hFc := va_free (wc := [(h0, .inr (18, [.int th, .ref l1, .ref l2, .ref l3, .ref l4, .ref l5, .ref l6, .int 0, .int tol, .int ag, .ref m1, .ref m2, .ref m3, .ref m4, .ref m5, .ref m6])), (l4, .inr (3, [.int c4, .ref e4, .int 0]))]) hD hS hA [0, 1] rfl
  refine va_calli (va_runV (As := [.int p0]) (rest := []) ⟨hx, hb, hml, hown, hts⟩ (k_X14_failsDocument l G z h0 th l1 l2 l3 l4 l5 l6 tol ag m1 m2 m3 m4 m5 m6 c4 e4 p0 s.heap.size ) (cwV 1 hts (lw_goodApp (lw_4 q1544 q1546 qs28 q7) q1547) rfl rfl rfl (by decide +kernel) ⟨Nat.le_of_ble_eq_true rfl, Nat.le_of_ble_eq_true rfl⟩) ⟨PW.blind, va_recv hK hP (ci := 18) (q0 := 0) rfl rfl, PW.of hPc hKc hDc hG hS hFc [.ref h0, .int p0]⟩ rfl rfl hl.1 rfl (lv_room (Nat.le_of_ble_eq_true rfl)) dX14_ground_2 ⟨Nat.le_of_ble_eq_true rfl, Nat.le_of_ble_eq_true rfl⟩) hS (fun q _ h => hFc q h) hFc (fun r_2 u t_4 H_1 locs ht hvm hw_3 hB hz1 hk1 hS => ?_)
  obtain ⟨hP, hD, hK⟩ := QW.join (wr := []) (w1 := [(h0, .inr (18, [.int 1, .ref l1, .ref l2, .ref l3, .ref l4, .ref l5, .ref l6, .int 0, .int tol, .int ag, .ref m1, .ref m2, .ref m3, .ref m4, .ref m5, .ref m6])), (l4, .inr (3, [.int c4, .ref e4, .int 0]))]) hP hD hK [0, 1] [] rfl rfl (by decide) (by decide) hk1 hFc ht hvm hB
  have hP : va_P G vwCl ([(h0, .inr (18, [.int 1, .ref l1, .ref l2, .ref l3, .ref l4, .ref l5, .ref l6, .int 0, .int tol, .int ag, .ref m1, .ref m2, .ref m3, .ref m4, .ref m5, .ref m6])), (l4, .inr (3, [.int c4, .ref e4, .int 0]))]) H_1 := hP
  have hD : va_D A ([(h0, .inr (18, [.int 1, .ref l1, .ref l2, .ref l3, .ref l4, .ref l5, .ref l6, .int 0, .int tol, .int ag, .ref m1, .ref m2, .ref m3, .ref m4, .ref m5, .ref m6])), (l4, .inr (3, [.int c4, .ref e4, .int 0]))]) := hD
  have hK : va_K G vwCl [] s := hK
  refine W.widen (k := 0) (n := 0) (Nat.le_of_ble_eq_true rfl) (Nat.le_of_ble_eq_true rfl) ?_
  obtain rfl : 1 = r_2 := hw_3.symm
  refine lv_if_ne (tgt := 28) hx hb dX14_ground_5 (by decide) (fun c_5 => ?_) (fun c_5 => absurd c_5 (by decide))
  refine lv_iconst (v := 0) hx hb dX14_ground_28 (by decide) ?_
  refine W.widen (k := 0) (n := 0) (Nat.le_of_ble_eq_true rfl) (Nat.le_of_ble_eq_true rfl) ?_
  have hP9 := hP.sub (ws' := [(h0, .inr (18, [.int 1, .ref l1, .ref l2, .ref l3, .ref l4, .ref l5, .ref l6, .int 0, .int tol, .int ag, .ref m1, .ref m2, .ref m3, .ref m4, .ref m5, .ref m6]))]) [0] rfl
  have hD9 := hD.sub (ws' := [(h0, .inr (18, [.int 1, .ref l1, .ref l2, .ref l3, .ref l4, .ref l5, .ref l6, .int 0, .int tol, .int ag, .ref m1, .ref m2, .ref m3, .ref m4, .ref m5, .ref m6]))]) [0] (by decide) rfl
  have hK9 := hK.sub (tys' := []) [] rfl
  exact W.iret (v := 0) hx hb hr (fun t ht hW => ⟨⟨0, (), rfl, trivial, QW.of hP9 hK9 hD9 ht hW.alike⟩, hS.F ht⟩) hS.2.2 dX14_ground_29

abbrev wz_X14_forged : List Cond := .code yX14_forged cX14_forged 3 (Option.some Jvm.ClassFile.FieldType.char) :: lw_good
set_option maxHeartbeats 4000000 in
set_option maxRecDepth 100000 in
/-- forged (reference): there is none of it yet -/
theorem k_X14_forged (l : Launch) (G : va_G) (z : Nat) (h0 : Nat) (th : Int32) (l1 : Nat) (l2 : Nat) (l3 : Nat) (l4 : Nat) (l5 : Nat) (l6 : Nat) (tol : Int32) (ag : Int32) (m1 : Nat) (m2 : Nat) (m3 : Nat) (m4 : Nat) (m5 : Nat) (m6 : Nat) (c4 : Int32) (e4 : Nat) (p0 : Int32) (p1 : Int32) (sz : Nat)  : Met l yX14_forged wz_X14_forged ({ frames := 3, cells := 0, slots := 0, locals := 64 }) (va_Pc [.ref h0, .int p0, .int p1] (PW G z [(h0, .inr (18, [.int th, .ref l1, .ref l2, .ref l3, .ref l4, .ref l5, .ref l6, .int 0, .int tol, .int ag, .ref m1, .ref m2, .ref m3, .ref m4, .ref m5, .ref m6])), (l4, .inr (3, [.int c4, .ref e4, .int 0]))] [] sz)) (va_Qi (fun (r : Int32) (_ : Unit) => True) (fun (_ : Unit) (t : State) => QW G [(h0, .inr (18, [.int 1, .ref l1, .ref l2, .ref l3, .ref l4, .ref l5, .ref l6, .int 0, .int tol, .int ag, .ref m1, .ref m2, .ref m3, .ref m4, .ref m5, .ref m6]))] [] (va_A [(h0, .inr (18, [.int th, .ref l1, .ref l2, .ref l3, .ref l4, .ref l5, .ref l6, .int 0, .int tol, .int ag, .ref m1, .ref m2, .ref m3, .ref m4, .ref m5, .ref m6])), (l4, .inr (3, [.int c4, .ref e4, .int 0]))] sz) t) (va_A [(h0, .inr (18, [.int th, .ref l1, .ref l2, .ref l3, .ref l4, .ref l5, .ref l6, .int 0, .int tol, .int ag, .ref m1, .ref m2, .ref m3, .ref m4, .ref m5, .ref m6])), (l4, .inr (3, [.int c4, .ref e4, .int 0]))] sz)) 0 0 (va_A [(h0, .inr (18, [.int th, .ref l1, .ref l2, .ref l3, .ref l4, .ref l5, .ref l6, .int 0, .int tol, .int ag, .ref m1, .ref m2, .ref m3, .ref m4, .ref m5, .ref m6])), (l4, .inr (3, [.int c4, .ref e4, .int 0]))] sz) := by
  refine Met.ofW (cc := cX14_forged) (maxL := 3) (ret := (Option.some Jvm.ClassFile.FieldType.char)) (by decide) rfl ?_
  intro p e s m args below meth c s₁ B hml hv
  obtain ⟨rfl, rfl, hP, hK, hD0, hG⟩ := hv
  have hx := B.exec
  have hb := B.bytes
  have hr := B.returns
  have hts := atoms_spec (ws := wz_X14_forged) B.pre
  have hg : ∀ w ∈ lw_good, w.before _ s = true := fun w h => hts w (List.mem_cons_of_mem _ h)
  have hown : s.vm.findClass RX14 = some m.cls := findClass_of_methodNamed B.named
  have hlocks := B.notSynchronized
  have hD := hD0.self (sz := s.heap.size)
  generalize hAe : va_A [(h0, .inr (18, [.int th, .ref l1, .ref l2, .ref l3, .ref l4, .ref l5, .ref l6, .int 0, .int tol, .int ag, .ref m1, .ref m2, .ref m3, .ref m4, .ref m5, .ref m6])), (l4, .inr (3, [.int c4, .ref e4, .int 0]))] s.heap.size = A at hD hG ⊢
  have hA : ∀ q : Nat, s.heap.size ≤ q → A q := fun q h => by rw [← hAe]; exact Or.inr h
  have hS : va_S A s.heap s.heap [] := va_S.rf
  have hl := lv_entry ([.ref h0, .int p0, .int p1]) (n := 3) (Nat.le_of_ble_eq_true rfl)
  rw [lg_entry_eq]
  generalize (lg_sl ([.ref h0, .int p0, .int p1]) ++ List.replicate (3 - (lg_sl ([.ref h0, .int p0, .int p1])).length) Slot.unset).toArray = ls at hl ⊢
  have hl : lv_has ls 3 [(0, .ref h0), (1, .int p0), (2, .int p1)] := hl
  refine lv_aload_n hx hb dX14_forged_0 rfl (lv_at hl 0 rfl) ?_
  refine lv_iload_n hx hb dX14_forged_1 rfl (lv_at hl 1 rfl) ?_
  have hPc := hP.sub (ws' := [(h0, .inr (18, [.int th, .ref l1, .ref l2, .ref l3, .ref l4, .ref l5, .ref l6, .int 0, .int tol, .int ag, .ref m1, .ref m2, .ref m3, .ref m4, .ref m5, .ref m6])), (l4, .inr (3, [.int c4, .ref e4, .int 0]))]) [0, 1] rfl
  have hKc := hK.sub (tys' := []) [] rfl
  have hDc := hD.sub (ws' := [(h0, .inr (18, [.int th, .ref l1, .ref l2, .ref l3, .ref l4, .ref l5, .ref l6, .int 0, .int tol, .int ag, .ref m1, .ref m2, .ref m3, .ref m4, .ref m5, .ref m6])), (l4, .inr (3, [.int c4, .ref e4, .int 0]))]) [0, 1] (by decide) rfl
  have hFc := va_free (wc := [(h0, .inr (18, [.int th, .ref l1, .ref l2, .ref l3, .ref l4, .ref l5, .ref l6, .int 0, .int tol, .int ag, .ref m1, .ref m2, .ref m3, .ref m4, .ref m5, .ref m6])), (l4, .inr (3, [.int c4, .ref e4, .int 0]))]) hD hS hA [0, 1] rfl
  refine va_calli (va_runV (As := [.int p0]) (rest := []) ⟨hx, hb, hml, hown, hts⟩ (k_X14_failsDocument l G z h0 th l1 l2 l3 l4 l5 l6 tol ag m1 m2 m3 m4 m5 m6 c4 e4 p0 s.heap.size ) (cwV 1 hts (lw_goodApp (lw_4 q1544 q1546 qs28 q7) q1547) rfl rfl rfl (by decide +kernel) ⟨Nat.le_of_ble_eq_true rfl, Nat.le_of_ble_eq_true rfl⟩) ⟨PW.blind, va_recv hK hP (ci := 18) (q0 := 0) rfl rfl, PW.of hPc hKc hDc hG hS hFc [.ref h0, .int p0]⟩ rfl rfl hl.1 rfl (lv_room (Nat.le_of_ble_eq_true rfl)) dX14_forged_2 ⟨Nat.le_of_ble_eq_true rfl, Nat.le_of_ble_eq_true rfl⟩) hS (fun q _ h => hFc q h) hFc (fun r_2 u t_4 H_1 locs ht hvm hw_3 hB hz1 hk1 hS => ?_)
  obtain ⟨hP, hD, hK⟩ := QW.join (wr := []) (w1 := [(h0, .inr (18, [.int 1, .ref l1, .ref l2, .ref l3, .ref l4, .ref l5, .ref l6, .int 0, .int tol, .int ag, .ref m1, .ref m2, .ref m3, .ref m4, .ref m5, .ref m6])), (l4, .inr (3, [.int c4, .ref e4, .int 0]))]) hP hD hK [0, 1] [] rfl rfl (by decide) (by decide) hk1 hFc ht hvm hB
  have hP : va_P G vwCl ([(h0, .inr (18, [.int 1, .ref l1, .ref l2, .ref l3, .ref l4, .ref l5, .ref l6, .int 0, .int tol, .int ag, .ref m1, .ref m2, .ref m3, .ref m4, .ref m5, .ref m6])), (l4, .inr (3, [.int c4, .ref e4, .int 0]))]) H_1 := hP
  have hD : va_D A ([(h0, .inr (18, [.int 1, .ref l1, .ref l2, .ref l3, .ref l4, .ref l5, .ref l6, .int 0, .int tol, .int ag, .ref m1, .ref m2, .ref m3, .ref m4, .ref m5, .ref m6])), (l4, .inr (3, [.int c4, .ref e4, .int 0]))]) := hD
  have hK : va_K G vwCl [] s := hK
  refine W.widen (k := 0) (n := 0) (Nat.le_of_ble_eq_true rfl) (Nat.le_of_ble_eq_true rfl) ?_
  obtain rfl : 1 = r_2 := hw_3.symm
  refine lv_if_ne (tgt := 39) hx hb dX14_forged_5 (by decide) (fun c_5 => ?_) (fun c_5 => absurd c_5 (by decide))
  refine lv_iconst (v := 0) hx hb dX14_forged_39 (by decide) ?_
  refine W.widen (k := 0) (n := 0) (Nat.le_of_ble_eq_true rfl) (Nat.le_of_ble_eq_true rfl) ?_
  have hP9 := hP.sub (ws' := [(h0, .inr (18, [.int 1, .ref l1, .ref l2, .ref l3, .ref l4, .ref l5, .ref l6, .int 0, .int tol, .int ag, .ref m1, .ref m2, .ref m3, .ref m4, .ref m5, .ref m6]))]) [0] rfl
  have hD9 := hD.sub (ws' := [(h0, .inr (18, [.int 1, .ref l1, .ref l2, .ref l3, .ref l4, .ref l5, .ref l6, .int 0, .int tol, .int ag, .ref m1, .ref m2, .ref m3, .ref m4, .ref m5, .ref m6]))]) [0] (by decide) rfl
  have hK9 := hK.sub (tys' := []) [] rfl
  exact W.zret (v := 0) hx hb hr rfl (fun t ht hW => ⟨⟨0, (), rfl, trivial, QW.of hP9 hK9 hD9 ht hW.alike⟩, hS.F ht⟩) hS.2.2 dX14_forged_40

abbrev wz_X14_claim : List Cond := .code yX14_claim cX14_claim 6 (Option.some Jvm.ClassFile.FieldType.int) :: lw_good
set_option maxHeartbeats 4000000 in
set_option maxRecDepth 100000 in
/-- claim (reference): there is none of it yet -/
theorem k_X14_claim (l : Launch) (G : va_G) (z : Nat) (h0 : Nat) (th : Int32) (l1 : Nat) (l2 : Nat) (l3 : Nat) (l4 : Nat) (l5 : Nat) (l6 : Nat) (tol : Int32) (ag : Int32) (m1 : Nat) (m2 : Nat) (m3 : Nat) (m4 : Nat) (m5 : Nat) (m6 : Nat) (c1 : Int32) (e1 : Nat) (c4 : Int32) (e4 : Nat) (p0 : Int32) (p1 : Int32) (p2 : Int32) (sz : Nat)  : Met l yX14_claim wz_X14_claim ({ frames := 2, cells := 0, slots := 0, locals := 43 }) (va_Pc [.ref h0, .int p0, .int p1, .int p2] (PW G z [(h0, .inr (18, [.int th, .ref l1, .ref l2, .ref l3, .ref l4, .ref l5, .ref l6, .int 0, .int tol, .int ag, .ref m1, .ref m2, .ref m3, .ref m4, .ref m5, .ref m6])), (l1, .inr (3, [.int c1, .ref e1, .int 0])), (l4, .inr (3, [.int c4, .ref e4, .int 0]))] [] sz)) (va_Qi (fun (r : Int32) (_ : Unit) => True) (fun (_ : Unit) (t : State) => QW G [(h0, .inr (18, [.int 1, .ref l1, .ref l2, .ref l3, .ref l4, .ref l5, .ref l6, .int 0, .int tol, .int ag, .ref m1, .ref m2, .ref m3, .ref m4, .ref m5, .ref m6]))] [] (va_A [(h0, .inr (18, [.int th, .ref l1, .ref l2, .ref l3, .ref l4, .ref l5, .ref l6, .int 0, .int tol, .int ag, .ref m1, .ref m2, .ref m3, .ref m4, .ref m5, .ref m6])), (l1, .inr (3, [.int c1, .ref e1, .int 0])), (l4, .inr (3, [.int c4, .ref e4, .int 0]))] sz) t) (va_A [(h0, .inr (18, [.int th, .ref l1, .ref l2, .ref l3, .ref l4, .ref l5, .ref l6, .int 0, .int tol, .int ag, .ref m1, .ref m2, .ref m3, .ref m4, .ref m5, .ref m6])), (l1, .inr (3, [.int c1, .ref e1, .int 0])), (l4, .inr (3, [.int c4, .ref e4, .int 0]))] sz)) 0 0 (va_A [(h0, .inr (18, [.int th, .ref l1, .ref l2, .ref l3, .ref l4, .ref l5, .ref l6, .int 0, .int tol, .int ag, .ref m1, .ref m2, .ref m3, .ref m4, .ref m5, .ref m6])), (l1, .inr (3, [.int c1, .ref e1, .int 0])), (l4, .inr (3, [.int c4, .ref e4, .int 0]))] sz) := by
  refine Met.ofW (cc := cX14_claim) (maxL := 6) (ret := (Option.some Jvm.ClassFile.FieldType.int)) (by decide) rfl ?_
  intro p e s m args below meth c s₁ B hml hv
  obtain ⟨rfl, rfl, hP, hK, hD0, hG⟩ := hv
  have hx := B.exec
  have hb := B.bytes
  have hr := B.returns
  have hts := atoms_spec (ws := wz_X14_claim) B.pre
  have hg : ∀ w ∈ lw_good, w.before _ s = true := fun w h => hts w (List.mem_cons_of_mem _ h)
  have hown : s.vm.findClass RX14 = some m.cls := findClass_of_methodNamed B.named
  have hlocks := B.notSynchronized
  have hD := hD0.self (sz := s.heap.size)
  generalize hAe : va_A [(h0, .inr (18, [.int th, .ref l1, .ref l2, .ref l3, .ref l4, .ref l5, .ref l6, .int 0, .int tol, .int ag, .ref m1, .ref m2, .ref m3, .ref m4, .ref m5, .ref m6])), (l1, .inr (3, [.int c1, .ref e1, .int 0])), (l4, .inr (3, [.int c4, .ref e4, .int 0]))] s.heap.size = A at hD hG ⊢
  have hA : ∀ q : Nat, s.heap.size ≤ q → A q := fun q h => by rw [← hAe]; exact Or.inr h
  have hS : va_S A s.heap s.heap [] := va_S.rf
  have hl := lv_entry ([.ref h0, .int p0, .int p1, .int p2]) (n := 6) (Nat.le_of_ble_eq_true rfl)
  rw [lg_entry_eq]
  generalize (lg_sl ([.ref h0, .int p0, .int p1, .int p2]) ++ List.replicate (6 - (lg_sl ([.ref h0, .int p0, .int p1, .int p2])).length) Slot.unset).toArray = ls at hl ⊢
  have hl : lv_has ls 6 [(0, .ref h0), (1, .int p0), (2, .int p1), (3, .int p2)] := hl
  refine lv_aload_n hx hb dX14_claim_0 rfl (lv_at hl 0 rfl) ?_
  refine lv_aload_n hx hb dX14_claim_1 rfl (lv_at hl 0 rfl) ?_
  refine lv_iload_n hx hb dX14_claim_2 rfl (lv_at hl 1 rfl) ?_
  have hPc := hP.sub (ws' := [(h0, .inr (18, [.int th, .ref l1, .ref l2, .ref l3, .ref l4, .ref l5, .ref l6, .int 0, .int tol, .int ag, .ref m1, .ref m2, .ref m3, .ref m4, .ref m5, .ref m6])), (l4, .inr (3, [.int c4, .ref e4, .int 0]))]) [0, 2] rfl
  have hKc := hK.sub (tys' := []) [] rfl
  refine va_calli (va_runV (As := [.int p0]) (rest := [.ref h0]) ⟨hx, hb, hml, hown, hts⟩ (k_X14_isDocument l G z h0 th l1 l2 l3 l4 l5 l6 tol ag m1 m2 m3 m4 m5 m6 c4 e4 p0 s.heap.size ) (cwV 1 hts (lw_goodApp (lw_4 q1536 q1538 qs27 q7) q1539) rfl rfl rfl (by decide +kernel) ⟨Nat.le_of_ble_eq_true rfl, Nat.le_of_ble_eq_true rfl⟩) ⟨PR.blind, va_recv hK hP (ci := 18) (q0 := 0) rfl rfl, PR.of hPc hKc hG hS hA [.ref h0, .int p0]⟩ rfl rfl hl.1 rfl (lv_room (Nat.le_of_ble_eq_true rfl)) dX14_claim_3 ⟨Nat.le_of_ble_eq_true rfl, Nat.le_of_ble_eq_true rfl⟩) hS (fun q h9 h => zN.not h9 h) (fun q h => hA q (Nat.le_trans hS.1 h)) (fun r_2 u t_4 H_1 locs ht hvm hw_3 hB hz1 hk1 hS => ?_)
  have hP := hP.grown hk1
  refine W.widen (k := 0) (n := 0) (Nat.le_of_ble_eq_true rfl) (Nat.le_of_ble_eq_true rfl) ?_
  obtain rfl : 0 = r_2 := hw_3.symm
  refine lv_if_eq (tgt := 21) hx hb dX14_claim_6 (by decide) (fun c_5 => ?_) (fun c_5 => absurd rfl c_5)
  refine lv_iconst (v := 1) hx hb dX14_claim_21 (by decide) ?_
  have hPc := hP.sub (ws' := [(h0, .inr (18, [.int th, .ref l1, .ref l2, .ref l3, .ref l4, .ref l5, .ref l6, .int 0, .int tol, .int ag, .ref m1, .ref m2, .ref m3, .ref m4, .ref m5, .ref m6]))]) [0] rfl
  have hKc := hK.sub (tys' := []) [] rfl
  have hDc := hD.sub (ws' := [(h0, .inr (18, [.int th, .ref l1, .ref l2, .ref l3, .ref l4, .ref l5, .ref l6, .int 0, .int tol, .int ag, .ref m1, .ref m2, .ref m3, .ref m4, .ref m5, .ref m6]))]) [0] (by decide) rfl
  have hFc := va_free (wc := [(h0, .inr (18, [.int th, .ref l1, .ref l2, .ref l3, .ref l4, .ref l5, .ref l6, .int 0, .int tol, .int ag, .ref m1, .ref m2, .ref m3, .ref m4, .ref m5, .ref m6]))]) hD hS hA [0] rfl
  refine va_calli (va_runV (As := [.int 1]) (rest := []) ⟨hx, hb, hml, hown, hts⟩ (k_X14_fails_1 l G z h0 th l1 l2 l3 l4 l5 l6 tol ag m1 m2 m3 m4 m5 m6 1 H_1.size (by decide)) (cwV 1 hts (lw_goodApp (lw_4 q1248 q1250 qs23 q7) q1251) rfl rfl rfl (by decide +kernel) ⟨Nat.le_of_ble_eq_true rfl, Nat.le_of_ble_eq_true rfl⟩) ⟨PW.blind, va_recv hK hP (ci := 18) (q0 := 0) rfl rfl, PW.of hPc hKc hDc hG hS hFc [.ref h0, .int 1]⟩ rfl rfl hl.1 rfl (lv_room (Nat.le_of_ble_eq_true rfl)) dX14_claim_22 ⟨Nat.le_of_ble_eq_true rfl, Nat.le_of_ble_eq_true rfl⟩) hS (fun q _ h => hFc q h) hFc (fun r_7 u t_9 H_6 locs ht hvm hw_8 hB hz1 hk1 hS => ?_)
  obtain ⟨hP, hD, hK⟩ := QW.join (wr := [(l1, .inr (3, [.int c1, .ref e1, .int 0])), (l4, .inr (3, [.int c4, .ref e4, .int 0]))]) (w1 := [(h0, .inr (18, [.int 1, .ref l1, .ref l2, .ref l3, .ref l4, .ref l5, .ref l6, .int 0, .int tol, .int ag, .ref m1, .ref m2, .ref m3, .ref m4, .ref m5, .ref m6]))]) hP hD hK [0] [1, 2] rfl rfl (by decide) (by decide) hk1 hFc ht hvm hB
  have hP : va_P G vwCl ([(l1, .inr (3, [.int c1, .ref e1, .int 0])), (l4, .inr (3, [.int c4, .ref e4, .int 0])), (h0, .inr (18, [.int 1, .ref l1, .ref l2, .ref l3, .ref l4, .ref l5, .ref l6, .int 0, .int tol, .int ag, .ref m1, .ref m2, .ref m3, .ref m4, .ref m5, .ref m6]))]) H_6 := hP
  have hD : va_D A ([(l1, .inr (3, [.int c1, .ref e1, .int 0])), (l4, .inr (3, [.int c4, .ref e4, .int 0])), (h0, .inr (18, [.int 1, .ref l1, .ref l2, .ref l3, .ref l4, .ref l5, .ref l6, .int 0, .int tol, .int ag, .ref m1, .ref m2, .ref m3, .ref m4, .ref m5, .ref m6]))]) := hD
  have hK : va_K G vwCl [] s := hK
  refine W.widen (k := 0) (n := 0) (Nat.le_of_ble_eq_true rfl) (Nat.le_of_ble_eq_true rfl) ?_
  obtain rfl : 1 = r_7 := hw_8.symm
  refine lv_if_ne (tgt := 50) hx hb dX14_claim_25 (by decide) (fun c_10 => ?_) (fun c_10 => absurd c_10 (by decide))
  refine lv_iconst (v := 0) hx hb dX14_claim_50 (by decide) ?_
  refine W.widen (k := 0) (n := 0) (Nat.le_of_ble_eq_true rfl) (Nat.le_of_ble_eq_true rfl) ?_
  have hP9 := hP.sub (ws' := [(h0, .inr (18, [.int 1, .ref l1, .ref l2, .ref l3, .ref l4, .ref l5, .ref l6, .int 0, .int tol, .int ag, .ref m1, .ref m2, .ref m3, .ref m4, .ref m5, .ref m6]))]) [2] rfl
  have hD9 := hD.sub (ws' := [(h0, .inr (18, [.int 1, .ref l1, .ref l2, .ref l3, .ref l4, .ref l5, .ref l6, .int 0, .int tol, .int ag, .ref m1, .ref m2, .ref m3, .ref m4, .ref m5, .ref m6]))]) [2] (by decide) rfl
  have hK9 := hK.sub (tys' := []) [] rfl
  exact W.iret (v := 0) hx hb hr (fun t ht hW => ⟨⟨0, (), rfl, trivial, QW.of hP9 hK9 hD9 ht hW.alike⟩, hS.F ht⟩) hS.2.2 dX14_claim_51

abbrev wz_X14_unclaim : List Cond := .code yX14_unclaim cX14_unclaim 6 (Option.some Jvm.ClassFile.FieldType.int) :: lw_good
set_option maxHeartbeats 4000000 in
set_option maxRecDepth 100000 in
/-- unclaim (reference): there is none of it yet -/
theorem k_X14_unclaim (l : Launch) (G : va_G) (z : Nat) (h0 : Nat) (th : Int32) (l1 : Nat) (l2 : Nat) (l3 : Nat) (l4 : Nat) (l5 : Nat) (l6 : Nat) (tol : Int32) (ag : Int32) (m1 : Nat) (m2 : Nat) (m3 : Nat) (m4 : Nat) (m5 : Nat) (m6 : Nat) (c1 : Int32) (e1 : Nat) (c4 : Int32) (e4 : Nat) (p0 : Int32) (p1 : Int32) (p2 : Int32) (sz : Nat)  : Met l yX14_unclaim wz_X14_unclaim ({ frames := 2, cells := 0, slots := 0, locals := 43 }) (va_Pc [.ref h0, .int p0, .int p1, .int p2] (PW G z [(h0, .inr (18, [.int th, .ref l1, .ref l2, .ref l3, .ref l4, .ref l5, .ref l6, .int 0, .int tol, .int ag, .ref m1, .ref m2, .ref m3, .ref m4, .ref m5, .ref m6])), (l1, .inr (3, [.int c1, .ref e1, .int 0])), (l4, .inr (3, [.int c4, .ref e4, .int 0]))] [] sz)) (va_Qi (fun (r : Int32) (_ : Unit) => True) (fun (_ : Unit) (t : State) => QW G [(h0, .inr (18, [.int 1, .ref l1, .ref l2, .ref l3, .ref l4, .ref l5, .ref l6, .int 0, .int tol, .int ag, .ref m1, .ref m2, .ref m3, .ref m4, .ref m5, .ref m6]))] [] (va_A [(h0, .inr (18, [.int th, .ref l1, .ref l2, .ref l3, .ref l4, .ref l5, .ref l6, .int 0, .int tol, .int ag, .ref m1, .ref m2, .ref m3, .ref m4, .ref m5, .ref m6])), (l1, .inr (3, [.int c1, .ref e1, .int 0])), (l4, .inr (3, [.int c4, .ref e4, .int 0]))] sz) t) (va_A [(h0, .inr (18, [.int th, .ref l1, .ref l2, .ref l3, .ref l4, .ref l5, .ref l6, .int 0, .int tol, .int ag, .ref m1, .ref m2, .ref m3, .ref m4, .ref m5, .ref m6])), (l1, .inr (3, [.int c1, .ref e1, .int 0])), (l4, .inr (3, [.int c4, .ref e4, .int 0]))] sz)) 0 0 (va_A [(h0, .inr (18, [.int th, .ref l1, .ref l2, .ref l3, .ref l4, .ref l5, .ref l6, .int 0, .int tol, .int ag, .ref m1, .ref m2, .ref m3, .ref m4, .ref m5, .ref m6])), (l1, .inr (3, [.int c1, .ref e1, .int 0])), (l4, .inr (3, [.int c4, .ref e4, .int 0]))] sz) := by
  refine Met.ofW (cc := cX14_unclaim) (maxL := 6) (ret := (Option.some Jvm.ClassFile.FieldType.int)) (by decide) rfl ?_
  intro p e s m args below meth c s₁ B hml hv
  obtain ⟨rfl, rfl, hP, hK, hD0, hG⟩ := hv
  have hx := B.exec
  have hb := B.bytes
  have hr := B.returns
  have hts := atoms_spec (ws := wz_X14_unclaim) B.pre
  have hg : ∀ w ∈ lw_good, w.before _ s = true := fun w h => hts w (List.mem_cons_of_mem _ h)
  have hown : s.vm.findClass RX14 = some m.cls := findClass_of_methodNamed B.named
  have hlocks := B.notSynchronized
  have hD := hD0.self (sz := s.heap.size)
  generalize hAe : va_A [(h0, .inr (18, [.int th, .ref l1, .ref l2, .ref l3, .ref l4, .ref l5, .ref l6, .int 0, .int tol, .int ag, .ref m1, .ref m2, .ref m3, .ref m4, .ref m5, .ref m6])), (l1, .inr (3, [.int c1, .ref e1, .int 0])), (l4, .inr (3, [.int c4, .ref e4, .int 0]))] s.heap.size = A at hD hG ⊢
  have hA : ∀ q : Nat, s.heap.size ≤ q → A q := fun q h => by rw [← hAe]; exact Or.inr h
  have hS : va_S A s.heap s.heap [] := va_S.rf
  have hl := lv_entry ([.ref h0, .int p0, .int p1, .int p2]) (n := 6) (Nat.le_of_ble_eq_true rfl)
  rw [lg_entry_eq]
  generalize (lg_sl ([.ref h0, .int p0, .int p1, .int p2]) ++ List.replicate (6 - (lg_sl ([.ref h0, .int p0, .int p1, .int p2])).length) Slot.unset).toArray = ls at hl ⊢
  have hl : lv_has ls 6 [(0, .ref h0), (1, .int p0), (2, .int p1), (3, .int p2)] := hl
  refine lv_aload_n hx hb dX14_unclaim_0 rfl (lv_at hl 0 rfl) ?_
  refine lv_aload_n hx hb dX14_unclaim_1 rfl (lv_at hl 0 rfl) ?_
  refine lv_iload_n hx hb dX14_unclaim_2 rfl (lv_at hl 1 rfl) ?_
  have hPc := hP.sub (ws' := [(h0, .inr (18, [.int th, .ref l1, .ref l2, .ref l3, .ref l4, .ref l5, .ref l6, .int 0, .int tol, .int ag, .ref m1, .ref m2, .ref m3, .ref m4, .ref m5, .ref m6])), (l4, .inr (3, [.int c4, .ref e4, .int 0]))]) [0, 2] rfl
  have hKc := hK.sub (tys' := []) [] rfl
  refine va_calli (va_runV (As := [.int p0]) (rest := [.ref h0]) ⟨hx, hb, hml, hown, hts⟩ (k_X14_isDocument l G z h0 th l1 l2 l3 l4 l5 l6 tol ag m1 m2 m3 m4 m5 m6 c4 e4 p0 s.heap.size ) (cwV 1 hts (lw_goodApp (lw_4 q1536 q1538 qs27 q7) q1539) rfl rfl rfl (by decide +kernel) ⟨Nat.le_of_ble_eq_true rfl, Nat.le_of_ble_eq_true rfl⟩) ⟨PR.blind, va_recv hK hP (ci := 18) (q0 := 0) rfl rfl, PR.of hPc hKc hG hS hA [.ref h0, .int p0]⟩ rfl rfl hl.1 rfl (lv_room (Nat.le_of_ble_eq_true rfl)) dX14_unclaim_3 ⟨Nat.le_of_ble_eq_true rfl, Nat.le_of_ble_eq_true rfl⟩) hS (fun q h9 h => zN.not h9 h) (fun q h => hA q (Nat.le_trans hS.1 h)) (fun r_2 u t_4 H_1 locs ht hvm hw_3 hB hz1 hk1 hS => ?_)
  have hP := hP.grown hk1
  refine W.widen (k := 0) (n := 0) (Nat.le_of_ble_eq_true rfl) (Nat.le_of_ble_eq_true rfl) ?_
  obtain rfl : 0 = r_2 := hw_3.symm
  refine lv_if_eq (tgt := 21) hx hb dX14_unclaim_6 (by decide) (fun c_5 => ?_) (fun c_5 => absurd rfl c_5)
  refine lv_iconst (v := 1) hx hb dX14_unclaim_21 (by decide) ?_
  have hPc := hP.sub (ws' := [(h0, .inr (18, [.int th, .ref l1, .ref l2, .ref l3, .ref l4, .ref l5, .ref l6, .int 0, .int tol, .int ag, .ref m1, .ref m2, .ref m3, .ref m4, .ref m5, .ref m6]))]) [0] rfl
  have hKc := hK.sub (tys' := []) [] rfl
  have hDc := hD.sub (ws' := [(h0, .inr (18, [.int th, .ref l1, .ref l2, .ref l3, .ref l4, .ref l5, .ref l6, .int 0, .int tol, .int ag, .ref m1, .ref m2, .ref m3, .ref m4, .ref m5, .ref m6]))]) [0] (by decide) rfl
  have hFc := va_free (wc := [(h0, .inr (18, [.int th, .ref l1, .ref l2, .ref l3, .ref l4, .ref l5, .ref l6, .int 0, .int tol, .int ag, .ref m1, .ref m2, .ref m3, .ref m4, .ref m5, .ref m6]))]) hD hS hA [0] rfl
  refine va_calli (va_runV (As := [.int 1]) (rest := []) ⟨hx, hb, hml, hown, hts⟩ (k_X14_fails_1 l G z h0 th l1 l2 l3 l4 l5 l6 tol ag m1 m2 m3 m4 m5 m6 1 H_1.size (by decide)) (cwV 1 hts (lw_goodApp (lw_4 q1248 q1250 qs23 q7) q1251) rfl rfl rfl (by decide +kernel) ⟨Nat.le_of_ble_eq_true rfl, Nat.le_of_ble_eq_true rfl⟩) ⟨PW.blind, va_recv hK hP (ci := 18) (q0 := 0) rfl rfl, PW.of hPc hKc hDc hG hS hFc [.ref h0, .int 1]⟩ rfl rfl hl.1 rfl (lv_room (Nat.le_of_ble_eq_true rfl)) dX14_unclaim_22 ⟨Nat.le_of_ble_eq_true rfl, Nat.le_of_ble_eq_true rfl⟩) hS (fun q _ h => hFc q h) hFc (fun r_7 u t_9 H_6 locs ht hvm hw_8 hB hz1 hk1 hS => ?_)
  obtain ⟨hP, hD, hK⟩ := QW.join (wr := [(l1, .inr (3, [.int c1, .ref e1, .int 0])), (l4, .inr (3, [.int c4, .ref e4, .int 0]))]) (w1 := [(h0, .inr (18, [.int 1, .ref l1, .ref l2, .ref l3, .ref l4, .ref l5, .ref l6, .int 0, .int tol, .int ag, .ref m1, .ref m2, .ref m3, .ref m4, .ref m5, .ref m6]))]) hP hD hK [0] [1, 2] rfl rfl (by decide) (by decide) hk1 hFc ht hvm hB
  have hP : va_P G vwCl ([(l1, .inr (3, [.int c1, .ref e1, .int 0])), (l4, .inr (3, [.int c4, .ref e4, .int 0])), (h0, .inr (18, [.int 1, .ref l1, .ref l2, .ref l3, .ref l4, .ref l5, .ref l6, .int 0, .int tol, .int ag, .ref m1, .ref m2, .ref m3, .ref m4, .ref m5, .ref m6]))]) H_6 := hP
  have hD : va_D A ([(l1, .inr (3, [.int c1, .ref e1, .int 0])), (l4, .inr (3, [.int c4, .ref e4, .int 0])), (h0, .inr (18, [.int 1, .ref l1, .ref l2, .ref l3, .ref l4, .ref l5, .ref l6, .int 0, .int tol, .int ag, .ref m1, .ref m2, .ref m3, .ref m4, .ref m5, .ref m6]))]) := hD
  have hK : va_K G vwCl [] s := hK
  refine W.widen (k := 0) (n := 0) (Nat.le_of_ble_eq_true rfl) (Nat.le_of_ble_eq_true rfl) ?_
  obtain rfl : 1 = r_7 := hw_8.symm
  refine lv_if_ne (tgt := 60) hx hb dX14_unclaim_25 (by decide) (fun c_10 => ?_) (fun c_10 => absurd c_10 (by decide))
  refine lv_iconst (v := 0) hx hb dX14_unclaim_60 (by decide) ?_
  refine W.widen (k := 0) (n := 0) (Nat.le_of_ble_eq_true rfl) (Nat.le_of_ble_eq_true rfl) ?_
  have hP9 := hP.sub (ws' := [(h0, .inr (18, [.int 1, .ref l1, .ref l2, .ref l3, .ref l4, .ref l5, .ref l6, .int 0, .int tol, .int ag, .ref m1, .ref m2, .ref m3, .ref m4, .ref m5, .ref m6]))]) [2] rfl
  have hD9 := hD.sub (ws' := [(h0, .inr (18, [.int 1, .ref l1, .ref l2, .ref l3, .ref l4, .ref l5, .ref l6, .int 0, .int tol, .int ag, .ref m1, .ref m2, .ref m3, .ref m4, .ref m5, .ref m6]))]) [2] (by decide) rfl
  have hK9 := hK.sub (tys' := []) [] rfl
  exact W.iret (v := 0) hx hb hr (fun t ht hW => ⟨⟨0, (), rfl, trivial, QW.of hP9 hK9 hD9 ht hW.alike⟩, hS.F ht⟩) hS.2.2 dX14_unclaim_61

abbrev wz_X14_distance : List Cond := .code yX14_distance cX14_distance 3 (Option.some Jvm.ClassFile.FieldType.int) :: lw_good
set_option maxHeartbeats 4000000 in
set_option maxRecDepth 100000 in
/-- distance (reference): there is none of it yet -/
theorem k_X14_distance (l : Launch) (G : va_G) (z : Nat) (h0 : Nat) (th : Int32) (l1 : Nat) (l2 : Nat) (l3 : Nat) (l4 : Nat) (l5 : Nat) (l6 : Nat) (tol : Int32) (ag : Int32) (m1 : Nat) (m2 : Nat) (m3 : Nat) (m4 : Nat) (m5 : Nat) (m6 : Nat) (c5 : Int32) (e5 : Nat) (p0 : Int32) (p1 : Int32) (sz : Nat)  : Met l yX14_distance wz_X14_distance ({ frames := 1, cells := 0, slots := 0, locals := 22 }) (va_Pc [.ref h0, .int p0, .int p1] (PW G z [(h0, .inr (18, [.int th, .ref l1, .ref l2, .ref l3, .ref l4, .ref l5, .ref l6, .int 0, .int tol, .int ag, .ref m1, .ref m2, .ref m3, .ref m4, .ref m5, .ref m6])), (l5, .inr (3, [.int c5, .ref e5, .int 0]))] [] sz)) (va_Qi (fun (r : Int32) (_ : Unit) => True) (fun (_ : Unit) (t : State) => QW G [(h0, .inr (18, [.int 1, .ref l1, .ref l2, .ref l3, .ref l4, .ref l5, .ref l6, .int 0, .int tol, .int ag, .ref m1, .ref m2, .ref m3, .ref m4, .ref m5, .ref m6]))] [] (va_A [(h0, .inr (18, [.int th, .ref l1, .ref l2, .ref l3, .ref l4, .ref l5, .ref l6, .int 0, .int tol, .int ag, .ref m1, .ref m2, .ref m3, .ref m4, .ref m5, .ref m6])), (l5, .inr (3, [.int c5, .ref e5, .int 0]))] sz) t) (va_A [(h0, .inr (18, [.int th, .ref l1, .ref l2, .ref l3, .ref l4, .ref l5, .ref l6, .int 0, .int tol, .int ag, .ref m1, .ref m2, .ref m3, .ref m4, .ref m5, .ref m6])), (l5, .inr (3, [.int c5, .ref e5, .int 0]))] sz)) 0 0 (va_A [(h0, .inr (18, [.int th, .ref l1, .ref l2, .ref l3, .ref l4, .ref l5, .ref l6, .int 0, .int tol, .int ag, .ref m1, .ref m2, .ref m3, .ref m4, .ref m5, .ref m6])), (l5, .inr (3, [.int c5, .ref e5, .int 0]))] sz) := by
  refine Met.ofW (cc := cX14_distance) (maxL := 3) (ret := (Option.some Jvm.ClassFile.FieldType.int)) (by decide) rfl ?_
  intro p e s m args below meth c s₁ B hml hv
  obtain ⟨rfl, rfl, hP, hK, hD0, hG⟩ := hv
  have hx := B.exec
  have hb := B.bytes
  have hr := B.returns
  have hts := atoms_spec (ws := wz_X14_distance) B.pre
  have hg : ∀ w ∈ lw_good, w.before _ s = true := fun w h => hts w (List.mem_cons_of_mem _ h)
  have hown : s.vm.findClass RX14 = some m.cls := findClass_of_methodNamed B.named
  have hlocks := B.notSynchronized
  have hD := hD0.self (sz := s.heap.size)
  generalize hAe : va_A [(h0, .inr (18, [.int th, .ref l1, .ref l2, .ref l3, .ref l4, .ref l5, .ref l6, .int 0, .int tol, .int ag, .ref m1, .ref m2, .ref m3, .ref m4, .ref m5, .ref m6])), (l5, .inr (3, [.int c5, .ref e5, .int 0]))] s.heap.size = A at hD hG ⊢
  have hA : ∀ q : Nat, s.heap.size ≤ q → A q := fun q h => by rw [← hAe]; exact Or.inr h
  have hS : va_S A s.heap s.heap [] := va_S.rf
  have hl := lv_entry ([.ref h0, .int p0, .int p1]) (n := 3) (Nat.le_of_ble_eq_true rfl)
  rw [lg_entry_eq]
  generalize (lg_sl ([.ref h0, .int p0, .int p1]) ++ List.replicate (3 - (lg_sl ([.ref h0, .int p0, .int p1])).length) Slot.unset).toArray = ls at hl ⊢
  have hl : lv_has ls 3 [(0, .ref h0), (1, .int p0), (2, .int p1)] := hl
  refine lv_aload_n hx hb dX14_distance_0 rfl (lv_at hl 0 rfl) ?_
  refine lv_iload_n hx hb dX14_distance_1 rfl (lv_at hl 1 rfl) ?_
  refine lv_iconst (v := 0) hx hb dX14_distance_2 (by decide) ?_
  refine lv_aload_n hx hb dX14_distance_3 rfl (lv_at hl 0 rfl) ?_
  refine va_get (D := G) (ci := 18) (v := .ref l5) (C := RX14) (T := TX14) (N := 16) hx hb hg in_X14 hown hK hP 0 rfl rfl 5 (by decide) (hg _ q1192) (fun _ h9 => h9) rfl dX14_distance_4 ?_
  have hPc := hP.sub (ws' := [(l5, .inr (3, [.int c5, .ref e5, .int 0]))]) [1] rfl
  have hKc := hK.sub (tys' := []) [] rfl
  refine va_calli (va_runV (As := []) (rest := [.int 0, .int p0, .ref h0]) ⟨hx, hb, hml, hown, hts⟩ (k_Jx4a65c_size_8abf5 l G z l5 c5 e5 0 s.heap.size ) (cwV 0 hts (lw_goodApp (lw_4 q1247 q161 q162 q4) q163) rfl rfl rfl (by decide +kernel) ⟨Nat.le_of_ble_eq_true rfl, Nat.le_of_ble_eq_true rfl⟩) ⟨PR.blind, va_recv hK hP (ci := 3) (q0 := 1) rfl rfl, PR.of hPc hKc hG hS hA [.ref l5]⟩ rfl rfl hl.1 rfl (lv_room (Nat.le_of_ble_eq_true rfl)) dX14_distance_7 ⟨Nat.le_of_ble_eq_true rfl, Nat.le_of_ble_eq_true rfl⟩) hS (fun q h9 h => zN.not h9 h) (fun q h => hA q (Nat.le_trans hS.1 h)) (fun r_2 u t_4 H_1 locs ht hvm hw_3 hB hz1 hk1 hS => ?_)
  have hP := hP.grown hk1
  refine W.widen (k := 0) (n := 0) (Nat.le_of_ble_eq_true rfl) (Nat.le_of_ble_eq_true rfl) ?_
  obtain rfl : 0 = r_2 := hw_3.symm
  refine lv_iconst (v := 1) hx hb dX14_distance_10 (by decide) ?_
  refine lv_isub hx hb dX14_distance_11 ?_
  refine lv_topi (fun f_5 ef_5 => ?_)
  obtain rfl : f_5 = -1 := ef_5.trans (by decide)
  have hPc := hP.sub (ws' := []) [] rfl
  have hKc := hK.sub (tys' := []) [] rfl
  refine va_calli (va_runS (As := [.int p0, .int 0, .int (-1)]) (rest := [.ref h0]) ⟨hx, hb, hml, hown, hts⟩ (k_X14_in_e l G z p0 H_1.size ) (va_cwS 3 hts (lw_goodApp (lw_3 q1244 q1245 q7) q1246) rfl rfl rfl (by decide +kernel) ⟨Nat.le_of_ble_eq_true rfl, Nat.le_of_ble_eq_true rfl⟩) ⟨PR.blind, PR.of hPc hKc hG hS hA [.int p0, .int 0, .int (-1)]⟩ rfl rfl hl.1 rfl (lv_room (Nat.le_of_ble_eq_true rfl)) dX14_distance_12 ⟨Nat.le_of_ble_eq_true rfl, Nat.le_of_ble_eq_true rfl⟩) hS (fun q h9 h => zN.not h9 h) (fun q h => hA q (Nat.le_trans hS.1 h)) (fun r_7 u t_9 H_6 locs ht hvm hw_8 hB hz1 hk1 hS => ?_)
  have hP := hP.grown hk1
  refine W.widen (k := 0) (n := 0) (Nat.le_of_ble_eq_true rfl) (Nat.le_of_ble_eq_true rfl) ?_
  obtain rfl : 0 = r_7 := hw_8.symm
  refine lv_if_eq (tgt := 22) hx hb dX14_distance_15 (by decide) (fun c_10 => ?_) (fun c_10 => absurd rfl c_10)
  refine lv_iconst (v := 1) hx hb dX14_distance_22 (by decide) ?_
  have hPc := hP.sub (ws' := [(h0, .inr (18, [.int th, .ref l1, .ref l2, .ref l3, .ref l4, .ref l5, .ref l6, .int 0, .int tol, .int ag, .ref m1, .ref m2, .ref m3, .ref m4, .ref m5, .ref m6]))]) [0] rfl
  have hKc := hK.sub (tys' := []) [] rfl
  have hDc := hD.sub (ws' := [(h0, .inr (18, [.int th, .ref l1, .ref l2, .ref l3, .ref l4, .ref l5, .ref l6, .int 0, .int tol, .int ag, .ref m1, .ref m2, .ref m3, .ref m4, .ref m5, .ref m6]))]) [0] (by decide) rfl
  have hFc := va_free (wc := [(h0, .inr (18, [.int th, .ref l1, .ref l2, .ref l3, .ref l4, .ref l5, .ref l6, .int 0, .int tol, .int ag, .ref m1, .ref m2, .ref m3, .ref m4, .ref m5, .ref m6]))]) hD hS hA [0] rfl
  refine va_calli (va_runV (As := [.int 1]) (rest := []) ⟨hx, hb, hml, hown, hts⟩ (k_X14_fails_1 l G z h0 th l1 l2 l3 l4 l5 l6 tol ag m1 m2 m3 m4 m5 m6 1 H_6.size (by decide)) (cwV 1 hts (lw_goodApp (lw_4 q1248 q1250 qs23 q7) q1251) rfl rfl rfl (by decide +kernel) ⟨Nat.le_of_ble_eq_true rfl, Nat.le_of_ble_eq_true rfl⟩) ⟨PW.blind, va_recv hK hP (ci := 18) (q0 := 0) rfl rfl, PW.of hPc hKc hDc hG hS hFc [.ref h0, .int 1]⟩ rfl rfl hl.1 rfl (lv_room (Nat.le_of_ble_eq_true rfl)) dX14_distance_23 ⟨Nat.le_of_ble_eq_true rfl, Nat.le_of_ble_eq_true rfl⟩) hS (fun q _ h => hFc q h) hFc (fun r_12 u t_14 H_11 locs ht hvm hw_13 hB hz1 hk1 hS => ?_)
  obtain ⟨hP, hD, hK⟩ := QW.join (wr := [(l5, .inr (3, [.int c5, .ref e5, .int 0]))]) (w1 := [(h0, .inr (18, [.int 1, .ref l1, .ref l2, .ref l3, .ref l4, .ref l5, .ref l6, .int 0, .int tol, .int ag, .ref m1, .ref m2, .ref m3, .ref m4, .ref m5, .ref m6]))]) hP hD hK [0] [1] rfl rfl (by decide) (by decide) hk1 hFc ht hvm hB
  have hP : va_P G vwCl ([(l5, .inr (3, [.int c5, .ref e5, .int 0])), (h0, .inr (18, [.int 1, .ref l1, .ref l2, .ref l3, .ref l4, .ref l5, .ref l6, .int 0, .int tol, .int ag, .ref m1, .ref m2, .ref m3, .ref m4, .ref m5, .ref m6]))]) H_11 := hP
  have hD : va_D A ([(l5, .inr (3, [.int c5, .ref e5, .int 0])), (h0, .inr (18, [.int 1, .ref l1, .ref l2, .ref l3, .ref l4, .ref l5, .ref l6, .int 0, .int tol, .int ag, .ref m1, .ref m2, .ref m3, .ref m4, .ref m5, .ref m6]))]) := hD
  have hK : va_K G vwCl [] s := hK
  refine W.widen (k := 0) (n := 0) (Nat.le_of_ble_eq_true rfl) (Nat.le_of_ble_eq_true rfl) ?_
  obtain rfl : 1 = r_12 := hw_13.symm
  refine lv_if_ne (tgt := 50) hx hb dX14_distance_26 (by decide) (fun c_15 => ?_) (fun c_15 => absurd c_15 (by decide))
  refine lv_iconst (v := 0) hx hb dX14_distance_50 (by decide) ?_
  refine W.widen (k := 0) (n := 0) (Nat.le_of_ble_eq_true rfl) (Nat.le_of_ble_eq_true rfl) ?_
  have hP9 := hP.sub (ws' := [(h0, .inr (18, [.int 1, .ref l1, .ref l2, .ref l3, .ref l4, .ref l5, .ref l6, .int 0, .int tol, .int ag, .ref m1, .ref m2, .ref m3, .ref m4, .ref m5, .ref m6]))]) [1] rfl
  have hD9 := hD.sub (ws' := [(h0, .inr (18, [.int 1, .ref l1, .ref l2, .ref l3, .ref l4, .ref l5, .ref l6, .int 0, .int tol, .int ag, .ref m1, .ref m2, .ref m3, .ref m4, .ref m5, .ref m6]))]) [1] (by decide) rfl
  have hK9 := hK.sub (tys' := []) [] rfl
  exact W.iret (v := 0) hx hb hr (fun t ht hW => ⟨⟨0, (), rfl, trivial, QW.of hP9 hK9 hD9 ht hW.alike⟩, hS.F ht⟩) hS.2.2 dX14_distance_51

abbrev wz_X14_evidence : List Cond := .code yX14_evidence cX14_evidence 7 (Option.some Jvm.ClassFile.FieldType.int) :: lw_good
set_option maxHeartbeats 4000000 in
set_option maxRecDepth 100000 in
/-- evidence (reference): there is none of it yet -/
theorem k_X14_evidence (l : Launch) (G : va_G) (z : Nat) (h0 : Nat) (th : Int32) (l1 : Nat) (l2 : Nat) (l3 : Nat) (l4 : Nat) (l5 : Nat) (l6 : Nat) (tol : Int32) (ag : Int32) (m1 : Nat) (m2 : Nat) (m3 : Nat) (m4 : Nat) (m5 : Nat) (m6 : Nat) (c5 : Int32) (e5 : Nat) (p0 : Int32) (p1 : Int32) (sz : Nat)  : Met l yX14_evidence wz_X14_evidence ({ frames := 2, cells := 0, slots := 0, locals := 44 }) (va_Pc [.ref h0, .int p0, .int p1] (PW G z [(h0, .inr (18, [.int th, .ref l1, .ref l2, .ref l3, .ref l4, .ref l5, .ref l6, .int 0, .int tol, .int ag, .ref m1, .ref m2, .ref m3, .ref m4, .ref m5, .ref m6])), (l5, .inr (3, [.int c5, .ref e5, .int 0]))] [] sz)) (va_Qi (fun (r : Int32) (_ : Unit) => True) (fun (_ : Unit) (t : State) => QW G [(h0, .inr (18, [.int 1, .ref l1, .ref l2, .ref l3, .ref l4, .ref l5, .ref l6, .int 0, .int tol, .int ag, .ref m1, .ref m2, .ref m3, .ref m4, .ref m5, .ref m6]))] [] (va_A [(h0, .inr (18, [.int th, .ref l1, .ref l2, .ref l3, .ref l4, .ref l5, .ref l6, .int 0, .int tol, .int ag, .ref m1, .ref m2, .ref m3, .ref m4, .ref m5, .ref m6])), (l5, .inr (3, [.int c5, .ref e5, .int 0]))] sz) t) (va_A [(h0, .inr (18, [.int th, .ref l1, .ref l2, .ref l3, .ref l4, .ref l5, .ref l6, .int 0, .int tol, .int ag, .ref m1, .ref m2, .ref m3, .ref m4, .ref m5, .ref m6])), (l5, .inr (3, [.int c5, .ref e5, .int 0]))] sz)) 0 0 (va_A [(h0, .inr (18, [.int th, .ref l1, .ref l2, .ref l3, .ref l4, .ref l5, .ref l6, .int 0, .int tol, .int ag, .ref m1, .ref m2, .ref m3, .ref m4, .ref m5, .ref m6])), (l5, .inr (3, [.int c5, .ref e5, .int 0]))] sz) := by
  refine Met.ofW (cc := cX14_evidence) (maxL := 7) (ret := (Option.some Jvm.ClassFile.FieldType.int)) (by decide) rfl ?_
  intro p e s m args below meth c s₁ B hml hv
  obtain ⟨rfl, rfl, hP, hK, hD0, hG⟩ := hv
  have hx := B.exec
  have hb := B.bytes
  have hr := B.returns
  have hts := atoms_spec (ws := wz_X14_evidence) B.pre
  have hg : ∀ w ∈ lw_good, w.before _ s = true := fun w h => hts w (List.mem_cons_of_mem _ h)
  have hown : s.vm.findClass RX14 = some m.cls := findClass_of_methodNamed B.named
  have hlocks := B.notSynchronized
  have hD := hD0.self (sz := s.heap.size)
  generalize hAe : va_A [(h0, .inr (18, [.int th, .ref l1, .ref l2, .ref l3, .ref l4, .ref l5, .ref l6, .int 0, .int tol, .int ag, .ref m1, .ref m2, .ref m3, .ref m4, .ref m5, .ref m6])), (l5, .inr (3, [.int c5, .ref e5, .int 0]))] s.heap.size = A at hD hG ⊢
  have hA : ∀ q : Nat, s.heap.size ≤ q → A q := fun q h => by rw [← hAe]; exact Or.inr h
  have hS : va_S A s.heap s.heap [] := va_S.rf
  have hl := lv_entry ([.ref h0, .int p0, .int p1]) (n := 7) (Nat.le_of_ble_eq_true rfl)
  rw [lg_entry_eq]
  generalize (lg_sl ([.ref h0, .int p0, .int p1]) ++ List.replicate (7 - (lg_sl ([.ref h0, .int p0, .int p1])).length) Slot.unset).toArray = ls at hl ⊢
  have hl : lv_has ls 7 [(0, .ref h0), (1, .int p0), (2, .int p1)] := hl
  refine lv_aload_n hx hb dX14_evidence_0 rfl (lv_at hl 0 rfl) ?_
  refine lv_aload_n hx hb dX14_evidence_1 rfl (lv_at hl 0 rfl) ?_
  refine lv_iload_n hx hb dX14_evidence_2 rfl (lv_at hl 1 rfl) ?_
  refine lv_iload_n hx hb dX14_evidence_3 rfl (lv_at hl 2 rfl) ?_
  have hPc := hP.sub (ws' := [(h0, .inr (18, [.int th, .ref l1, .ref l2, .ref l3, .ref l4, .ref l5, .ref l6, .int 0, .int tol, .int ag, .ref m1, .ref m2, .ref m3, .ref m4, .ref m5, .ref m6])), (l5, .inr (3, [.int c5, .ref e5, .int 0]))]) [0, 1] rfl
  have hKc := hK.sub (tys' := []) [] rfl
  refine va_calli (va_runV (As := [.int p0, .int p1]) (rest := [.ref h0]) ⟨hx, hb, hml, hown, hts⟩ (k_X14_areImages l G z h0 th l1 l2 l3 l4 l5 l6 tol ag m1 m2 m3 m4 m5 m6 c5 e5 p0 p1 s.heap.size ) (cwV 2 hts (lw_goodApp (lw_4 q1624 q1626 qs31 q7) q1627) rfl rfl rfl (by decide +kernel) ⟨Nat.le_of_ble_eq_true rfl, Nat.le_of_ble_eq_true rfl⟩) ⟨PR.blind, va_recv hK hP (ci := 18) (q0 := 0) rfl rfl, PR.of hPc hKc hG hS hA [.ref h0, .int p0, .int p1]⟩ rfl rfl hl.1 rfl (lv_room (Nat.le_of_ble_eq_true rfl)) dX14_evidence_4 ⟨Nat.le_of_ble_eq_true rfl, Nat.le_of_ble_eq_true rfl⟩) hS (fun q h9 h => zN.not h9 h) (fun q h => hA q (Nat.le_trans hS.1 h)) (fun r_2 u t_4 H_1 locs ht hvm hw_3 hB hz1 hk1 hS => ?_)
  have hP := hP.grown hk1
  refine W.widen (k := 0) (n := 0) (Nat.le_of_ble_eq_true rfl) (Nat.le_of_ble_eq_true rfl) ?_
  obtain rfl : 0 = r_2 := hw_3.symm
  refine lv_if_eq (tgt := 14) hx hb dX14_evidence_7 (by decide) (fun c_5 => ?_) (fun c_5 => absurd rfl c_5)
  refine lv_iconst (v := 1) hx hb dX14_evidence_14 (by decide) ?_
  have hPc := hP.sub (ws' := [(h0, .inr (18, [.int th, .ref l1, .ref l2, .ref l3, .ref l4, .ref l5, .ref l6, .int 0, .int tol, .int ag, .ref m1, .ref m2, .ref m3, .ref m4, .ref m5, .ref m6]))]) [0] rfl
  have hKc := hK.sub (tys' := []) [] rfl
  have hDc := hD.sub (ws' := [(h0, .inr (18, [.int th, .ref l1, .ref l2, .ref l3, .ref l4, .ref l5, .ref l6, .int 0, .int tol, .int ag, .ref m1, .ref m2, .ref m3, .ref m4, .ref m5, .ref m6]))]) [0] (by decide) rfl
  have hFc := va_free (wc := [(h0, .inr (18, [.int th, .ref l1, .ref l2, .ref l3, .ref l4, .ref l5, .ref l6, .int 0, .int tol, .int ag, .ref m1, .ref m2, .ref m3, .ref m4, .ref m5, .ref m6]))]) hD hS hA [0] rfl
  refine va_calli (va_runV (As := [.int 1]) (rest := []) ⟨hx, hb, hml, hown, hts⟩ (k_X14_fails_1 l G z h0 th l1 l2 l3 l4 l5 l6 tol ag m1 m2 m3 m4 m5 m6 1 H_1.size (by decide)) (cwV 1 hts (lw_goodApp (lw_4 q1248 q1250 qs23 q7) q1251) rfl rfl rfl (by decide +kernel) ⟨Nat.le_of_ble_eq_true rfl, Nat.le_of_ble_eq_true rfl⟩) ⟨PW.blind, va_recv hK hP (ci := 18) (q0 := 0) rfl rfl, PW.of hPc hKc hDc hG hS hFc [.ref h0, .int 1]⟩ rfl rfl hl.1 rfl (lv_room (Nat.le_of_ble_eq_true rfl)) dX14_evidence_15 ⟨Nat.le_of_ble_eq_true rfl, Nat.le_of_ble_eq_true rfl⟩) hS (fun q _ h => hFc q h) hFc (fun r_7 u t_9 H_6 locs ht hvm hw_8 hB hz1 hk1 hS => ?_)
  obtain ⟨hP, hD, hK⟩ := QW.join (wr := [(l5, .inr (3, [.int c5, .ref e5, .int 0]))]) (w1 := [(h0, .inr (18, [.int 1, .ref l1, .ref l2, .ref l3, .ref l4, .ref l5, .ref l6, .int 0, .int tol, .int ag, .ref m1, .ref m2, .ref m3, .ref m4, .ref m5, .ref m6]))]) hP hD hK [0] [1] rfl rfl (by decide) (by decide) hk1 hFc ht hvm hB
  have hP : va_P G vwCl ([(l5, .inr (3, [.int c5, .ref e5, .int 0])), (h0, .inr (18, [.int 1, .ref l1, .ref l2, .ref l3, .ref l4, .ref l5, .ref l6, .int 0, .int tol, .int ag, .ref m1, .ref m2, .ref m3, .ref m4, .ref m5, .ref m6]))]) H_6 := hP
  have hD : va_D A ([(l5, .inr (3, [.int c5, .ref e5, .int 0])), (h0, .inr (18, [.int 1, .ref l1, .ref l2, .ref l3, .ref l4, .ref l5, .ref l6, .int 0, .int tol, .int ag, .ref m1, .ref m2, .ref m3, .ref m4, .ref m5, .ref m6]))]) := hD
  have hK : va_K G vwCl [] s := hK
  refine W.widen (k := 0) (n := 0) (Nat.le_of_ble_eq_true rfl) (Nat.le_of_ble_eq_true rfl) ?_
  obtain rfl : 1 = r_7 := hw_8.symm
  refine lv_if_eq (tgt := 23) hx hb dX14_evidence_18 (by decide) (fun c_10 => absurd c_10 (by decide)) (fun c_10 => ?_)
  refine lv_iconst (v := 0) hx hb dX14_evidence_21 (by decide) ?_
  refine W.widen (k := 0) (n := 0) (Nat.le_of_ble_eq_true rfl) (Nat.le_of_ble_eq_true rfl) ?_
  have hP9 := hP.sub (ws' := [(h0, .inr (18, [.int 1, .ref l1, .ref l2, .ref l3, .ref l4, .ref l5, .ref l6, .int 0, .int tol, .int ag, .ref m1, .ref m2, .ref m3, .ref m4, .ref m5, .ref m6]))]) [1] rfl
  have hD9 := hD.sub (ws' := [(h0, .inr (18, [.int 1, .ref l1, .ref l2, .ref l3, .ref l4, .ref l5, .ref l6, .int 0, .int tol, .int ag, .ref m1, .ref m2, .ref m3, .ref m4, .ref m5, .ref m6]))]) [1] (by decide) rfl
  have hK9 := hK.sub (tys' := []) [] rfl
  exact W.iret (v := 0) hx hb hr (fun t ht hW => ⟨⟨0, (), rfl, trivial, QW.of hP9 hK9 hD9 ht hW.alike⟩, hS.F ht⟩) hS.2.2 dX14_evidence_22

abbrev wz_X14_compare_ : List Cond := .code yX14_compare_ cX14_compare_ 3 (Option.some Jvm.ClassFile.FieldType.char) :: lw_good
set_option maxHeartbeats 4000000 in
set_option maxRecDepth 100000 in
/-- compare (reference): there is none of it yet -/
theorem k_X14_compare_ (l : Launch) (G : va_G) (z : Nat) (h0 : Nat) (th : Int32) (l1 : Nat) (l2 : Nat) (l3 : Nat) (l4 : Nat) (l5 : Nat) (l6 : Nat) (tol : Int32) (ag : Int32) (m1 : Nat) (m2 : Nat) (m3 : Nat) (m4 : Nat) (m5 : Nat) (m6 : Nat) (c5 : Int32) (e5 : Nat) (p0 : Int32) (p1 : Int32) (sz : Nat)  : Met l yX14_compare_ wz_X14_compare_ ({ frames := 2, cells := 0, slots := 0, locals := 44 }) (va_Pc [.ref h0, .int p0, .int p1] (PW G z [(h0, .inr (18, [.int th, .ref l1, .ref l2, .ref l3, .ref l4, .ref l5, .ref l6, .int 0, .int tol, .int ag, .ref m1, .ref m2, .ref m3, .ref m4, .ref m5, .ref m6])), (l5, .inr (3, [.int c5, .ref e5, .int 0]))] [] sz)) (va_Qi (fun (r : Int32) (_ : Unit) => True) (fun (_ : Unit) (t : State) => QW G [(h0, .inr (18, [.int 1, .ref l1, .ref l2, .ref l3, .ref l4, .ref l5, .ref l6, .int 0, .int tol, .int ag, .ref m1, .ref m2, .ref m3, .ref m4, .ref m5, .ref m6]))] [] (va_A [(h0, .inr (18, [.int th, .ref l1, .ref l2, .ref l3, .ref l4, .ref l5, .ref l6, .int 0, .int tol, .int ag, .ref m1, .ref m2, .ref m3, .ref m4, .ref m5, .ref m6])), (l5, .inr (3, [.int c5, .ref e5, .int 0]))] sz) t) (va_A [(h0, .inr (18, [.int th, .ref l1, .ref l2, .ref l3, .ref l4, .ref l5, .ref l6, .int 0, .int tol, .int ag, .ref m1, .ref m2, .ref m3, .ref m4, .ref m5, .ref m6])), (l5, .inr (3, [.int c5, .ref e5, .int 0]))] sz)) 0 0 (va_A [(h0, .inr (18, [.int th, .ref l1, .ref l2, .ref l3, .ref l4, .ref l5, .ref l6, .int 0, .int tol, .int ag, .ref m1, .ref m2, .ref m3, .ref m4, .ref m5, .ref m6])), (l5, .inr (3, [.int c5, .ref e5, .int 0]))] sz) := by
  refine Met.ofW (cc := cX14_compare_) (maxL := 3) (ret := (Option.some Jvm.ClassFile.FieldType.char)) (by decide) rfl ?_
  intro p e s m args below meth c s₁ B hml hv
  obtain ⟨rfl, rfl, hP, hK, hD0, hG⟩ := hv
  have hx := B.exec
  have hb := B.bytes
  have hr := B.returns
  have hts := atoms_spec (ws := wz_X14_compare_) B.pre
  have hg : ∀ w ∈ lw_good, w.before _ s = true := fun w h => hts w (List.mem_cons_of_mem _ h)
  have hown : s.vm.findClass RX14 = some m.cls := findClass_of_methodNamed B.named
  have hlocks := B.notSynchronized
  have hD := hD0.self (sz := s.heap.size)
  generalize hAe : va_A [(h0, .inr (18, [.int th, .ref l1, .ref l2, .ref l3, .ref l4, .ref l5, .ref l6, .int 0, .int tol, .int ag, .ref m1, .ref m2, .ref m3, .ref m4, .ref m5, .ref m6])), (l5, .inr (3, [.int c5, .ref e5, .int 0]))] s.heap.size = A at hD hG ⊢
  have hA : ∀ q : Nat, s.heap.size ≤ q → A q := fun q h => by rw [← hAe]; exact Or.inr h
  have hS : va_S A s.heap s.heap [] := va_S.rf
  have hl := lv_entry ([.ref h0, .int p0, .int p1]) (n := 3) (Nat.le_of_ble_eq_true rfl)
  rw [lg_entry_eq]
  generalize (lg_sl ([.ref h0, .int p0, .int p1]) ++ List.replicate (3 - (lg_sl ([.ref h0, .int p0, .int p1])).length) Slot.unset).toArray = ls at hl ⊢
  have hl : lv_has ls 3 [(0, .ref h0), (1, .int p0), (2, .int p1)] := hl
  refine lv_aload_n hx hb dX14_compare__0 rfl (lv_at hl 0 rfl) ?_
  refine lv_aload_n hx hb dX14_compare__1 rfl (lv_at hl 0 rfl) ?_
  refine lv_iload_n hx hb dX14_compare__2 rfl (lv_at hl 1 rfl) ?_
  refine lv_iload_n hx hb dX14_compare__3 rfl (lv_at hl 2 rfl) ?_
  have hPc := hP.sub (ws' := [(h0, .inr (18, [.int th, .ref l1, .ref l2, .ref l3, .ref l4, .ref l5, .ref l6, .int 0, .int tol, .int ag, .ref m1, .ref m2, .ref m3, .ref m4, .ref m5, .ref m6])), (l5, .inr (3, [.int c5, .ref e5, .int 0]))]) [0, 1] rfl
  have hKc := hK.sub (tys' := []) [] rfl
  refine va_calli (va_runV (As := [.int p0, .int p1]) (rest := [.ref h0]) ⟨hx, hb, hml, hown, hts⟩ (k_X14_areImages l G z h0 th l1 l2 l3 l4 l5 l6 tol ag m1 m2 m3 m4 m5 m6 c5 e5 p0 p1 s.heap.size ) (cwV 2 hts (lw_goodApp (lw_4 q1624 q1626 qs31 q7) q1627) rfl rfl rfl (by decide +kernel) ⟨Nat.le_of_ble_eq_true rfl, Nat.le_of_ble_eq_true rfl⟩) ⟨PR.blind, va_recv hK hP (ci := 18) (q0 := 0) rfl rfl, PR.of hPc hKc hG hS hA [.ref h0, .int p0, .int p1]⟩ rfl rfl hl.1 rfl (lv_room (Nat.le_of_ble_eq_true rfl)) dX14_compare__4 ⟨Nat.le_of_ble_eq_true rfl, Nat.le_of_ble_eq_true rfl⟩) hS (fun q h9 h => zN.not h9 h) (fun q h => hA q (Nat.le_trans hS.1 h)) (fun r_2 u t_4 H_1 locs ht hvm hw_3 hB hz1 hk1 hS => ?_)
  have hP := hP.grown hk1
  refine W.widen (k := 0) (n := 0) (Nat.le_of_ble_eq_true rfl) (Nat.le_of_ble_eq_true rfl) ?_
  obtain rfl : 0 = r_2 := hw_3.symm
  refine lv_if_eq (tgt := 14) hx hb dX14_compare__7 (by decide) (fun c_5 => ?_) (fun c_5 => absurd rfl c_5)
  refine lv_iconst (v := 1) hx hb dX14_compare__14 (by decide) ?_
  have hPc := hP.sub (ws' := [(h0, .inr (18, [.int th, .ref l1, .ref l2, .ref l3, .ref l4, .ref l5, .ref l6, .int 0, .int tol, .int ag, .ref m1, .ref m2, .ref m3, .ref m4, .ref m5, .ref m6]))]) [0] rfl
  have hKc := hK.sub (tys' := []) [] rfl
  have hDc := hD.sub (ws' := [(h0, .inr (18, [.int th, .ref l1, .ref l2, .ref l3, .ref l4, .ref l5, .ref l6, .int 0, .int tol, .int ag, .ref m1, .ref m2, .ref m3, .ref m4, .ref m5, .ref m6]))]) [0] (by decide) rfl
  have hFc := va_free (wc := [(h0, .inr (18, [.int th, .ref l1, .ref l2, .ref l3, .ref l4, .ref l5, .ref l6, .int 0, .int tol, .int ag, .ref m1, .ref m2, .ref m3, .ref m4, .ref m5, .ref m6]))]) hD hS hA [0] rfl
  refine va_calli (va_runV (As := [.int 1]) (rest := []) ⟨hx, hb, hml, hown, hts⟩ (k_X14_fails_1 l G z h0 th l1 l2 l3 l4 l5 l6 tol ag m1 m2 m3 m4 m5 m6 1 H_1.size (by decide)) (cwV 1 hts (lw_goodApp (lw_4 q1248 q1250 qs23 q7) q1251) rfl rfl rfl (by decide +kernel) ⟨Nat.le_of_ble_eq_true rfl, Nat.le_of_ble_eq_true rfl⟩) ⟨PW.blind, va_recv hK hP (ci := 18) (q0 := 0) rfl rfl, PW.of hPc hKc hDc hG hS hFc [.ref h0, .int 1]⟩ rfl rfl hl.1 rfl (lv_room (Nat.le_of_ble_eq_true rfl)) dX14_compare__15 ⟨Nat.le_of_ble_eq_true rfl, Nat.le_of_ble_eq_true rfl⟩) hS (fun q _ h => hFc q h) hFc (fun r_7 u t_9 H_6 locs ht hvm hw_8 hB hz1 hk1 hS => ?_)
  obtain ⟨hP, hD, hK⟩ := QW.join (wr := [(l5, .inr (3, [.int c5, .ref e5, .int 0]))]) (w1 := [(h0, .inr (18, [.int 1, .ref l1, .ref l2, .ref l3, .ref l4, .ref l5, .ref l6, .int 0, .int tol, .int ag, .ref m1, .ref m2, .ref m3, .ref m4, .ref m5, .ref m6]))]) hP hD hK [0] [1] rfl rfl (by decide) (by decide) hk1 hFc ht hvm hB
  have hP : va_P G vwCl ([(l5, .inr (3, [.int c5, .ref e5, .int 0])), (h0, .inr (18, [.int 1, .ref l1, .ref l2, .ref l3, .ref l4, .ref l5, .ref l6, .int 0, .int tol, .int ag, .ref m1, .ref m2, .ref m3, .ref m4, .ref m5, .ref m6]))]) H_6 := hP
  have hD : va_D A ([(l5, .inr (3, [.int c5, .ref e5, .int 0])), (h0, .inr (18, [.int 1, .ref l1, .ref l2, .ref l3, .ref l4, .ref l5, .ref l6, .int 0, .int tol, .int ag, .ref m1, .ref m2, .ref m3, .ref m4, .ref m5, .ref m6]))]) := hD
  have hK : va_K G vwCl [] s := hK
  refine W.widen (k := 0) (n := 0) (Nat.le_of_ble_eq_true rfl) (Nat.le_of_ble_eq_true rfl) ?_
  obtain rfl : 1 = r_7 := hw_8.symm
  refine lv_if_eq (tgt := 25) hx hb dX14_compare__18 (by decide) (fun c_10 => absurd c_10 (by decide)) (fun c_10 => ?_)
  refine lv_iconst (v := 0) hx hb dX14_compare__21 (by decide) ?_
  refine lv_goto (tgt := 51) hx hb dX14_compare__22 (by decide) ?_
  refine W.widen (k := 0) (n := 0) (Nat.le_of_ble_eq_true rfl) (Nat.le_of_ble_eq_true rfl) ?_
  have hP9 := hP.sub (ws' := [(h0, .inr (18, [.int 1, .ref l1, .ref l2, .ref l3, .ref l4, .ref l5, .ref l6, .int 0, .int tol, .int ag, .ref m1, .ref m2, .ref m3, .ref m4, .ref m5, .ref m6]))]) [1] rfl
  have hD9 := hD.sub (ws' := [(h0, .inr (18, [.int 1, .ref l1, .ref l2, .ref l3, .ref l4, .ref l5, .ref l6, .int 0, .int tol, .int ag, .ref m1, .ref m2, .ref m3, .ref m4, .ref m5, .ref m6]))]) [1] (by decide) rfl
  have hK9 := hK.sub (tys' := []) [] rfl
  exact W.zret (v := 0) hx hb hr rfl (fun t ht hW => ⟨⟨0, (), rfl, trivial, QW.of hP9 hK9 hD9 ht hW.alike⟩, hS.F ht⟩) hS.2.2 dX14_compare__51
