theorem in_X0 : ∀ w ∈ u_ws RX0 TX0 6, w ∈ lw_good := by decide +kernel
theorem in_X6 : ∀ w ∈ u_ws RX6 TX6 4, w ∈ lw_good := by decide +kernel
theorem q1047 : Cond.code yX8_unmerge prog_1_method_31_code 1 (Option.some Jvm.ClassFile.FieldType.int) ∈ lw_good := lw_in (i := 1047) (by decide +kernel) (by decide +kernel)
theorem q109 : Cond.fieldLink "Watermarkmill$Dating" 26 "Watermarkmill$Dating" "documents" "I" ∈ lw_good := lw_in (i := 109) (by decide +kernel) (by decide +kernel)
theorem q1102 : Cond.code yX8_setAge prog_1_method_37_code 3 (Option.some Jvm.ClassFile.FieldType.int) ∈ lw_good := lw_in (i := 1102) (by decide +kernel) (by decide +kernel)
theorem q111 : Cond.fieldLink "Watermarkmill" 339 "Watermarkmill$Dating" "age" "I" ∈ lw_good := lw_in (i := 111) (by decide +kernel) (by decide +kernel)
theorem q1110 : Cond.methodLink "Watermarkmill" 345 yX8_checkFits ∈ lw_good := lw_in (i := 1110) (by decide +kernel) (by decide +kernel)
theorem q1112 : Cond.instanceMethod yX8_checkFits ∈ lw_good := lw_in (i := 1112) (by decide +kernel) (by decide +kernel)
theorem q1113 : Cond.code yX8_checkFits prog_1_method_59_code 2 (Option.none : Option Jvm.ClassFile.FieldType) ∈ lw_good := lw_in (i := 1113) (by decide +kernel) (by decide +kernel)
theorem q1129 : Cond.code yX8_culprit prog_1_method_41_code 2 (Option.some Jvm.ClassFile.FieldType.int) ∈ lw_good := lw_in (i := 1129) (by decide +kernel) (by decide +kernel)
theorem q1145 : Cond.code yX8_years prog_1_method_43_code 6 (Option.some Jvm.ClassFile.FieldType.long) ∈ lw_good := lw_in (i := 1145) (by decide +kernel) (by decide +kernel)
theorem q1166 : Cond.code yX8_usedShare prog_1_method_44_code 2 (Option.some Jvm.ClassFile.FieldType.float) ∈ lw_good := lw_in (i := 1166) (by decide +kernel) (by decide +kernel)
theorem q1167 : Cond.classLink "Watermarkmill" 361 "java/lang/ArithmeticException" ∈ lw_good := lw_in (i := 1167) (by decide +kernel) (by decide +kernel)
theorem q1176 : Cond.code yX8_meanAge prog_1_method_45_code 6 (Option.some Jvm.ClassFile.FieldType.double) ∈ lw_good := lw_in (i := 1176) (by decide +kernel) (by decide +kernel)
theorem q12 : Cond.initialized "java/lang/IllegalStateException" ∈ lw_good := lw_in (i := 12) (by decide +kernel) (by decide +kernel)
theorem q130 : Cond.fieldLink "Watermarkmill" 31 "Watermarkmill" "repertory" "LWatermarkmill$Repertory;" ∈ lw_good := lw_in (i := 130) (by decide +kernel) (by decide +kernel)
theorem q131 : Cond.fieldLink "Watermarkmill" 38 "Watermarkmill" "dating" "LWatermarkmill$Dating;" ∈ lw_good := lw_in (i := 131) (by decide +kernel) (by decide +kernel)
theorem q133 : Cond.fieldLink "Watermarkmill" 46 "Watermarkmill" "tolerance" "I" ∈ lw_good := lw_in (i := 133) (by decide +kernel) (by decide +kernel)
theorem q159 : Cond.code yX8_groups prog_1_method_29_code 4 (Option.some Jvm.ClassFile.FieldType.int) ∈ lw_good := lw_in (i := 159) (by decide +kernel) (by decide +kernel)
theorem q220 : Cond.code yX8_fits prog_1_method_38_code 1 (Option.some Jvm.ClassFile.FieldType.boolean) ∈ lw_good := lw_in (i := 220) (by decide +kernel) (by decide +kernel)
theorem q221 : Cond.methodLink "Watermarkmill" 342 yX0_fitsWithout ∈ lw_good := lw_in (i := 221) (by decide +kernel) (by decide +kernel)
theorem q222 : Cond.instanceMethod yX0_fitsWithout ∈ lw_good := lw_in (i := 222) (by decide +kernel) (by decide +kernel)
theorem q223 : Cond.selects "Watermarkmill$Dating" yX0_fitsWithout yX0_fitsWithout ∈ lw_good := lw_in (i := 223) (by decide +kernel) (by decide +kernel)
theorem q224 : Cond.code yX0_fitsWithout prog_2_method_9_code 3 (Option.some Jvm.ClassFile.FieldType.boolean) ∈ lw_good := lw_in (i := 224) (by decide +kernel) (by decide +kernel)
theorem q24 : Cond.initialized "java/lang/UnsupportedOperationException" ∈ lw_good := lw_in (i := 24) (by decide +kernel) (by decide +kernel)
theorem q250 : Cond.code yX8_isSound prog_1_method_46_code 1 (Option.some Jvm.ClassFile.FieldType.boolean) ∈ lw_good := lw_in (i := 250) (by decide +kernel) (by decide +kernel)
theorem q251 : Cond.methodLink "Watermarkmill" 371 yX8_sheetsInLots ∈ lw_good := lw_in (i := 251) (by decide +kernel) (by decide +kernel)
theorem q253 : Cond.instanceMethod yX8_sheetsInLots ∈ lw_good := lw_in (i := 253) (by decide +kernel) (by decide +kernel)
theorem q254 : Cond.code yX8_sheetsInLots prog_1_method_71_code 3 (Option.some Jvm.ClassFile.FieldType.int) ∈ lw_good := lw_in (i := 254) (by decide +kernel) (by decide +kernel)
theorem q260 : Cond.methodLink "Watermarkmill" 374 yX8_sheetsInReams ∈ lw_good := lw_in (i := 260) (by decide +kernel) (by decide +kernel)
theorem q262 : Cond.instanceMethod yX8_sheetsInReams ∈ lw_good := lw_in (i := 262) (by decide +kernel) (by decide +kernel)
theorem q263 : Cond.code yX8_sheetsInReams prog_1_method_72_code 3 (Option.some Jvm.ClassFile.FieldType.int) ∈ lw_good := lw_in (i := 263) (by decide +kernel) (by decide +kernel)
theorem q265 : Cond.methodLink "Watermarkmill" 366 yX8_sheetsInDocuments ∈ lw_good := lw_in (i := 265) (by decide +kernel) (by decide +kernel)
theorem q267 : Cond.instanceMethod yX8_sheetsInDocuments ∈ lw_good := lw_in (i := 267) (by decide +kernel) (by decide +kernel)
theorem q268 : Cond.code yX8_sheetsInDocuments prog_1_method_73_code 3 (Option.some Jvm.ClassFile.FieldType.int) ∈ lw_good := lw_in (i := 268) (by decide +kernel) (by decide +kernel)
theorem q27 : Cond.initialized "java/util/NoSuchElementException" ∈ lw_good := lw_in (i := 27) (by decide +kernel) (by decide +kernel)
theorem q270 : Cond.methodLink "Watermarkmill" 358 yX8_sheetsMade ∈ lw_good := lw_in (i := 270) (by decide +kernel) (by decide +kernel)
theorem q272 : Cond.instanceMethod yX8_sheetsMade ∈ lw_good := lw_in (i := 272) (by decide +kernel) (by decide +kernel)
theorem q273 : Cond.code yX8_sheetsMade prog_1_method_70_code 3 (Option.some Jvm.ClassFile.FieldType.int) ∈ lw_good := lw_in (i := 273) (by decide +kernel) (by decide +kernel)
theorem q274 : Cond.methodLink "Watermarkmill" 377 yX8_isDamageKept ∈ lw_good := lw_in (i := 274) (by decide +kernel) (by decide +kernel)
theorem q276 : Cond.instanceMethod yX8_isDamageKept ∈ lw_good := lw_in (i := 276) (by decide +kernel) (by decide +kernel)
theorem q277 : Cond.code yX8_isDamageKept prog_1_method_74_code 2 (Option.some Jvm.ClassFile.FieldType.boolean) ∈ lw_good := lw_in (i := 277) (by decide +kernel) (by decide +kernel)
theorem q287 : Cond.methodLink "Watermarkmill" 381 yX8_isPaperInTime ∈ lw_good := lw_in (i := 287) (by decide +kernel) (by decide +kernel)
theorem q289 : Cond.instanceMethod yX8_isPaperInTime ∈ lw_good := lw_in (i := 289) (by decide +kernel) (by decide +kernel)
theorem q290 : Cond.code yX8_isPaperInTime prog_1_method_75_code 4 (Option.some Jvm.ClassFile.FieldType.boolean) ∈ lw_good := lw_in (i := 290) (by decide +kernel) (by decide +kernel)
theorem q294 : Cond.methodLink "Watermarkmill" 384 yX8_isDatedAsTold ∈ lw_good := lw_in (i := 294) (by decide +kernel) (by decide +kernel)
theorem q296 : Cond.instanceMethod yX8_isDatedAsTold ∈ lw_good := lw_in (i := 296) (by decide +kernel) (by decide +kernel)
theorem q297 : Cond.code yX8_isDatedAsTold prog_1_method_76_code 3 (Option.some Jvm.ClassFile.FieldType.boolean) ∈ lw_good := lw_in (i := 297) (by decide +kernel) (by decide +kernel)
theorem q36 : Cond.initialized "java/lang/ArithmeticException" ∈ lw_good := lw_in (i := 36) (by decide +kernel) (by decide +kernel)
theorem q385 : Cond.code yX8_checkRoom prog_1_method_55_code 2 (Option.none : Option Jvm.ClassFile.FieldType) ∈ lw_good := lw_in (i := 385) (by decide +kernel) (by decide +kernel)
theorem q386 : Cond.classLink "Watermarkmill" 402 "java/lang/IllegalStateException" ∈ lw_good := lw_in (i := 386) (by decide +kernel) (by decide +kernel)
theorem q572 : Cond.classLink "Watermarkmill" 94 "java/lang/UnsupportedOperationException" ∈ lw_good := lw_in (i := 572) (by decide +kernel) (by decide +kernel)
theorem q6 : Cond.initialized "Watermarkmill$Dating" ∈ lw_good := lw_in (i := 6) (by decide +kernel) (by decide +kernel)
theorem q683 : Cond.classLink "Watermarkmill" 148 "java/util/NoSuchElementException" ∈ lw_good := lw_in (i := 683) (by decide +kernel) (by decide +kernel)
theorem q84 : Cond.fieldLink "Watermarkmill" 305 "Watermarkmill$Repertory" "mergings" "I" ∈ lw_good := lw_in (i := 84) (by decide +kernel) (by decide +kernel)
theorem q998 : Cond.code yX8_setTolerance prog_1_method_25_code 3 (Option.some Jvm.ClassFile.FieldType.int) ∈ lw_good := lw_in (i := 998) (by decide +kernel) (by decide +kernel)
theorem qs22 : Cond.selects "Watermarkmill" yX8_checkFits yX8_checkFits ∈ lw_good := lw_inS (i := 22) (by decide +kernel) (by decide +kernel)
theorem qs3 : Cond.selects "Watermarkmill" yX8_sheetsInLots yX8_sheetsInLots ∈ lw_good := lw_inS (i := 3) (by decide +kernel) (by decide +kernel)
theorem qs4 : Cond.selects "Watermarkmill" yX8_sheetsInReams yX8_sheetsInReams ∈ lw_good := lw_inS (i := 4) (by decide +kernel) (by decide +kernel)
theorem qs5 : Cond.selects "Watermarkmill" yX8_sheetsInDocuments yX8_sheetsInDocuments ∈ lw_good := lw_inS (i := 5) (by decide +kernel) (by decide +kernel)
theorem qs6 : Cond.selects "Watermarkmill" yX8_sheetsMade yX8_sheetsMade ∈ lw_good := lw_inS (i := 6) (by decide +kernel) (by decide +kernel)
theorem qs7 : Cond.selects "Watermarkmill" yX8_isDamageKept yX8_isDamageKept ∈ lw_good := lw_inS (i := 7) (by decide +kernel) (by decide +kernel)
theorem qs8 : Cond.selects "Watermarkmill" yX8_isPaperInTime yX8_isPaperInTime ∈ lw_good := lw_inS (i := 8) (by decide +kernel) (by decide +kernel)
theorem qs9 : Cond.selects "Watermarkmill" yX8_isDatedAsTold yX8_isDatedAsTold ∈ lw_good := lw_inS (i := 9) (by decide +kernel) (by decide +kernel)
theorem qstr1048 : Cond.stringRef "Watermarkmill" 308 "no merging is left" ∈ tables_1 := List.mem_of_getElem? (i := 1048) (by decide +kernel)
theorem qstr1130 : Cond.stringRef "Watermarkmill" 354 "all fits" ∈ tables_1 := List.mem_of_getElem? (i := 1130) (by decide +kernel)
theorem qstr1168 : Cond.stringRef "Watermarkmill" 363 "no sheet was made" ∈ tables_1 := List.mem_of_getElem? (i := 1168) (by decide +kernel)
theorem qstr1177 : Cond.stringRef "Watermarkmill" 369 "no sheet was used" ∈ tables_1 := List.mem_of_getElem? (i := 1177) (by decide +kernel)
theorem qstr395 : Cond.stringRef "Watermarkmill" 404 "there is no room for more" ∈ tables_1 := List.mem_of_getElem? (i := 395) (by decide +kernel)
theorem zat_X8_365 : ∀ w ∈ vx_atS RX8 365 "java/lang/ArithmeticException" zNm, w ∈ lw_good ∨ w ∈ lw_face := zat (by decide +kernel) (by decide +kernel)
theorem zat_X8_406 : ∀ w ∈ vx_atS RX8 406 "java/lang/IllegalStateException" zNm, w ∈ lw_good ∨ w ∈ lw_face := zat (by decide +kernel) (by decide +kernel)
theorem zat_X8_98 : ∀ w ∈ vx_atS RX8 98 "java/lang/UnsupportedOperationException" zNm, w ∈ lw_good ∨ w ∈ lw_face := zat (by decide +kernel) (by decide +kernel)
theorem zgo_X8_365_361 : ∀ w ∈ Cond.classLink RX8 361 "java/lang/ArithmeticException" :: Cond.initialized "java/lang/ArithmeticException" :: vx_atS RX8 365 "java/lang/ArithmeticException" zNm, vx_ot w = true := by decide +kernel
theorem zgo_X8_406_402 : ∀ w ∈ Cond.classLink RX8 402 "java/lang/IllegalStateException" :: Cond.initialized "java/lang/IllegalStateException" :: vx_atS RX8 406 "java/lang/IllegalStateException" zNm, vx_ot w = true := by decide +kernel
theorem zgo_X8_98_94 : ∀ w ∈ Cond.classLink RX8 94 "java/lang/UnsupportedOperationException" :: Cond.initialized "java/lang/UnsupportedOperationException" :: vx_atS RX8 98 "java/lang/UnsupportedOperationException" zNm, vx_ot w = true := by decide +kernel
theorem dX0_fitsWithout_0 : decode cX0_fitsWithout 0 = .ok (.iconst 0, 1) := by decide +kernel
theorem dX0_fitsWithout_1 : decode cX0_fitsWithout 1 = .ok (.istore_n 2, 1) := by decide +kernel
theorem dX0_fitsWithout_2 : decode cX0_fitsWithout 2 = .ok (.iload_n 2, 1) := by decide +kernel
theorem dX0_fitsWithout_3 : decode cX0_fitsWithout 3 = .ok (.aload_n 0, 1) := by decide +kernel
theorem dX0_fitsWithout_4 : decode cX0_fitsWithout 4 = .ok (.getfield 26, 3) := by decide +kernel
theorem dX0_fitsWithout_43 : decode cX0_fitsWithout 43 = .ok (.iconst 1, 1) := by decide +kernel
theorem dX0_fitsWithout_44 : decode cX0_fitsWithout 44 = .ok (.ireturn, 1) := by decide +kernel
theorem dX0_fitsWithout_7 : decode cX0_fitsWithout 7 = .ok (.if_icmp .ge 36, 3) := by decide +kernel
theorem dX8_checkFits_0 : decode cX8_checkFits 0 = .ok (.aload_n 0, 1) := by decide +kernel
theorem dX8_checkFits_1 : decode cX8_checkFits 1 = .ok (.getfield 38, 3) := by decide +kernel
theorem dX8_checkFits_22 : decode cX8_checkFits 22 = .ok (.return_, 1) := by decide +kernel
theorem dX8_checkFits_4 : decode cX8_checkFits 4 = .ok (.iload_n 1, 1) := by decide +kernel
theorem dX8_checkFits_5 : decode cX8_checkFits 5 = .ok (.invokevirtual 342, 3) := by decide +kernel
theorem dX8_checkFits_8 : decode cX8_checkFits 8 = .ok (.ifCond .ne 14, 3) := by decide +kernel
theorem dX8_checkRoom_0 : decode cX8_checkRoom 0 = .ok (.iload_n 0, 1) := by decide +kernel
theorem dX8_checkRoom_1 : decode cX8_checkRoom 1 = .ok (.iload_n 1, 1) := by decide +kernel
theorem dX8_checkRoom_12 : decode cX8_checkRoom 12 = .ok (.invokespecial 406, 3) := by decide +kernel
theorem dX8_checkRoom_15 : decode cX8_checkRoom 15 = .ok (.athrow, 1) := by decide +kernel
theorem dX8_checkRoom_16 : decode cX8_checkRoom 16 = .ok (.return_, 1) := by decide +kernel
theorem dX8_checkRoom_2 : decode cX8_checkRoom 2 = .ok (.if_icmp .le 14, 3) := by decide +kernel
theorem dX8_checkRoom_5 : decode cX8_checkRoom 5 = .ok (.new 402, 3) := by decide +kernel
theorem dX8_checkRoom_8 : decode cX8_checkRoom 8 = .ok (.dup, 1) := by decide +kernel
theorem dX8_checkRoom_9 : decode cX8_checkRoom 9 = .ok (.ldc_w 404, 3) := by decide +kernel
theorem dX8_culprit_0 : decode cX8_culprit 0 = .ok (.aload_n 0, 1) := by decide +kernel
theorem dX8_culprit_1 : decode cX8_culprit 1 = .ok (.getfield 38, 3) := by decide +kernel
theorem dX8_culprit_11 : decode cX8_culprit 11 = .ok (.new 94, 3) := by decide +kernel
theorem dX8_culprit_14 : decode cX8_culprit 14 = .ok (.dup, 1) := by decide +kernel
theorem dX8_culprit_15 : decode cX8_culprit 15 = .ok (.ldc_w 354, 3) := by decide +kernel
theorem dX8_culprit_18 : decode cX8_culprit 18 = .ok (.invokespecial 98, 3) := by decide +kernel
theorem dX8_culprit_21 : decode cX8_culprit 21 = .ok (.athrow, 1) := by decide +kernel
theorem dX8_culprit_4 : decode cX8_culprit 4 = .ok (.iconst (-1), 1) := by decide +kernel
theorem dX8_culprit_5 : decode cX8_culprit 5 = .ok (.invokevirtual 342, 3) := by decide +kernel
theorem dX8_culprit_8 : decode cX8_culprit 8 = .ok (.ifCond .eq 14, 3) := by decide +kernel
theorem dX8_fits_0 : decode cX8_fits 0 = .ok (.aload_n 0, 1) := by decide +kernel
theorem dX8_fits_1 : decode cX8_fits 1 = .ok (.getfield 38, 3) := by decide +kernel
theorem dX8_fits_4 : decode cX8_fits 4 = .ok (.iconst (-1), 1) := by decide +kernel
theorem dX8_fits_5 : decode cX8_fits 5 = .ok (.invokevirtual 342, 3) := by decide +kernel
theorem dX8_fits_8 : decode cX8_fits 8 = .ok (.ireturn, 1) := by decide +kernel
theorem dX8_groups_0 : decode cX8_groups 0 = .ok (.aload_n 0, 1) := by decide +kernel
theorem dX8_groups_1 : decode cX8_groups 1 = .ok (.getfield 25, 3) := by decide +kernel
theorem dX8_groups_10 : decode cX8_groups 10 = .ok (.iload_n 2, 1) := by decide +kernel
theorem dX8_groups_11 : decode cX8_groups 11 = .ok (.aload_n 0, 1) := by decide +kernel
theorem dX8_groups_12 : decode cX8_groups 12 = .ok (.getfield 25, 3) := by decide +kernel
theorem dX8_groups_137 : decode cX8_groups 137 = .ok (.iload_n 1, 1) := by decide +kernel
theorem dX8_groups_138 : decode cX8_groups 138 = .ok (.ireturn, 1) := by decide +kernel
theorem dX8_groups_15 : decode cX8_groups 15 = .ok (.invokevirtual 57, 3) := by decide +kernel
theorem dX8_groups_18 : decode cX8_groups 18 = .ok (.if_icmp .ge 16, 3) := by decide +kernel
theorem dX8_groups_34 : decode cX8_groups 34 = .ok (.iconst 0, 1) := by decide +kernel
theorem dX8_groups_35 : decode cX8_groups 35 = .ok (.istore_n 2, 1) := by decide +kernel
theorem dX8_groups_36 : decode cX8_groups 36 = .ok (.iload_n 2, 1) := by decide +kernel
theorem dX8_groups_37 : decode cX8_groups 37 = .ok (.aload_n 0, 1) := by decide +kernel
theorem dX8_groups_38 : decode cX8_groups 38 = .ok (.getfield 25, 3) := by decide +kernel
theorem dX8_groups_4 : decode cX8_groups 4 = .ok (.invokevirtual 57, 3) := by decide +kernel
theorem dX8_groups_41 : decode cX8_groups 41 = .ok (.invokevirtual 57, 3) := by decide +kernel
theorem dX8_groups_44 : decode cX8_groups 44 = .ok (.if_icmp .ge 93, 3) := by decide +kernel
theorem dX8_groups_7 : decode cX8_groups 7 = .ok (.istore_n 1, 1) := by decide +kernel
theorem dX8_groups_8 : decode cX8_groups 8 = .ok (.iconst 0, 1) := by decide +kernel
theorem dX8_groups_9 : decode cX8_groups 9 = .ok (.istore_n 2, 1) := by decide +kernel
theorem dX8_isDamageKept_0 : decode cX8_isDamageKept 0 = .ok (.iconst 0, 1) := by decide +kernel
theorem dX8_isDamageKept_1 : decode cX8_isDamageKept 1 = .ok (.istore_n 1, 1) := by decide +kernel
theorem dX8_isDamageKept_10 : decode cX8_isDamageKept 10 = .ok (.if_icmp .ge 28, 3) := by decide +kernel
theorem dX8_isDamageKept_2 : decode cX8_isDamageKept 2 = .ok (.iload_n 1, 1) := by decide +kernel
theorem dX8_isDamageKept_3 : decode cX8_isDamageKept 3 = .ok (.aload_n 0, 1) := by decide +kernel
theorem dX8_isDamageKept_38 : decode cX8_isDamageKept 38 = .ok (.iconst 1, 1) := by decide +kernel
theorem dX8_isDamageKept_39 : decode cX8_isDamageKept 39 = .ok (.ireturn, 1) := by decide +kernel
theorem dX8_isDamageKept_4 : decode cX8_isDamageKept 4 = .ok (.getfield 12, 3) := by decide +kernel
theorem dX8_isDamageKept_7 : decode cX8_isDamageKept 7 = .ok (.invokevirtual 57, 3) := by decide +kernel
theorem dX8_isDatedAsTold_0 : decode cX8_isDatedAsTold 0 = .ok (.aload_n 0, 1) := by decide +kernel
theorem dX8_isDatedAsTold_1 : decode cX8_isDatedAsTold 1 = .ok (.getfield 38, 3) := by decide +kernel
theorem dX8_isDatedAsTold_13 : decode cX8_isDatedAsTold 13 = .ok (.iconst 0, 1) := by decide +kernel
theorem dX8_isDatedAsTold_14 : decode cX8_isDatedAsTold 14 = .ok (.istore_n 1, 1) := by decide +kernel
theorem dX8_isDatedAsTold_15 : decode cX8_isDatedAsTold 15 = .ok (.iload_n 1, 1) := by decide +kernel
theorem dX8_isDatedAsTold_16 : decode cX8_isDatedAsTold 16 = .ok (.aload_n 0, 1) := by decide +kernel
theorem dX8_isDatedAsTold_17 : decode cX8_isDatedAsTold 17 = .ok (.getfield 22, 3) := by decide +kernel
theorem dX8_isDatedAsTold_20 : decode cX8_isDatedAsTold 20 = .ok (.invokevirtual 57, 3) := by decide +kernel
theorem dX8_isDatedAsTold_23 : decode cX8_isDatedAsTold 23 = .ok (.if_icmp .ge 53, 3) := by decide +kernel
theorem dX8_isDatedAsTold_4 : decode cX8_isDatedAsTold 4 = .ok (.iconst (-1), 1) := by decide +kernel
theorem dX8_isDatedAsTold_5 : decode cX8_isDatedAsTold 5 = .ok (.invokevirtual 342, 3) := by decide +kernel
theorem dX8_isDatedAsTold_76 : decode cX8_isDatedAsTold 76 = .ok (.iconst 1, 1) := by decide +kernel
theorem dX8_isDatedAsTold_77 : decode cX8_isDatedAsTold 77 = .ok (.ireturn, 1) := by decide +kernel
theorem dX8_isDatedAsTold_8 : decode cX8_isDatedAsTold 8 = .ok (.ifCond .ne 5, 3) := by decide +kernel
theorem dX8_isPaperInTime_0 : decode cX8_isPaperInTime 0 = .ok (.iconst 0, 1) := by decide +kernel
theorem dX8_isPaperInTime_1 : decode cX8_isPaperInTime 1 = .ok (.istore_n 1, 1) := by decide +kernel
theorem dX8_isPaperInTime_10 : decode cX8_isPaperInTime 10 = .ok (.if_icmp .ge 55, 3) := by decide +kernel
theorem dX8_isPaperInTime_2 : decode cX8_isPaperInTime 2 = .ok (.iload_n 1, 1) := by decide +kernel
theorem dX8_isPaperInTime_3 : decode cX8_isPaperInTime 3 = .ok (.aload_n 0, 1) := by decide +kernel
theorem dX8_isPaperInTime_4 : decode cX8_isPaperInTime 4 = .ok (.getfield 22, 3) := by decide +kernel
theorem dX8_isPaperInTime_65 : decode cX8_isPaperInTime 65 = .ok (.iconst 1, 1) := by decide +kernel
theorem dX8_isPaperInTime_66 : decode cX8_isPaperInTime 66 = .ok (.ireturn, 1) := by decide +kernel
theorem dX8_isPaperInTime_7 : decode cX8_isPaperInTime 7 = .ok (.invokevirtual 57, 3) := by decide +kernel
theorem dX8_isSound_0 : decode cX8_isSound 0 = .ok (.aload_n 0, 1) := by decide +kernel
theorem dX8_isSound_1 : decode cX8_isSound 1 = .ok (.invokevirtual 371, 3) := by decide +kernel
theorem dX8_isSound_10 : decode cX8_isSound 10 = .ok (.invokevirtual 366, 3) := by decide +kernel
theorem dX8_isSound_13 : decode cX8_isSound 13 = .ok (.iadd, 1) := by decide +kernel
theorem dX8_isSound_14 : decode cX8_isSound 14 = .ok (.aload_n 0, 1) := by decide +kernel
theorem dX8_isSound_15 : decode cX8_isSound 15 = .ok (.invokevirtual 358, 3) := by decide +kernel
theorem dX8_isSound_18 : decode cX8_isSound 18 = .ok (.if_icmp .ne 28, 3) := by decide +kernel
theorem dX8_isSound_21 : decode cX8_isSound 21 = .ok (.aload_n 0, 1) := by decide +kernel
theorem dX8_isSound_22 : decode cX8_isSound 22 = .ok (.invokevirtual 377, 3) := by decide +kernel
theorem dX8_isSound_25 : decode cX8_isSound 25 = .ok (.ifCond .eq 21, 3) := by decide +kernel
theorem dX8_isSound_28 : decode cX8_isSound 28 = .ok (.aload_n 0, 1) := by decide +kernel
theorem dX8_isSound_29 : decode cX8_isSound 29 = .ok (.invokevirtual 381, 3) := by decide +kernel
theorem dX8_isSound_32 : decode cX8_isSound 32 = .ok (.ifCond .eq 14, 3) := by decide +kernel
theorem dX8_isSound_35 : decode cX8_isSound 35 = .ok (.aload_n 0, 1) := by decide +kernel
theorem dX8_isSound_36 : decode cX8_isSound 36 = .ok (.invokevirtual 384, 3) := by decide +kernel
theorem dX8_isSound_39 : decode cX8_isSound 39 = .ok (.ifCond .eq 7, 3) := by decide +kernel
theorem dX8_isSound_4 : decode cX8_isSound 4 = .ok (.aload_n 0, 1) := by decide +kernel
theorem dX8_isSound_42 : decode cX8_isSound 42 = .ok (.iconst 1, 1) := by decide +kernel
theorem dX8_isSound_43 : decode cX8_isSound 43 = .ok (.goto 4, 3) := by decide +kernel
theorem dX8_isSound_47 : decode cX8_isSound 47 = .ok (.ireturn, 1) := by decide +kernel
theorem dX8_isSound_5 : decode cX8_isSound 5 = .ok (.invokevirtual 374, 3) := by decide +kernel
theorem dX8_isSound_8 : decode cX8_isSound 8 = .ok (.iadd, 1) := by decide +kernel
theorem dX8_isSound_9 : decode cX8_isSound 9 = .ok (.aload_n 0, 1) := by decide +kernel
theorem dX8_meanAge_0 : decode cX8_meanAge 0 = .ok (.aload_n 0, 1) := by decide +kernel
theorem dX8_meanAge_1 : decode cX8_meanAge 1 = .ok (.invokevirtual 366, 3) := by decide +kernel
theorem dX8_meanAge_12 : decode cX8_meanAge 12 = .ok (.dup, 1) := by decide +kernel
theorem dX8_meanAge_13 : decode cX8_meanAge 13 = .ok (.ldc_w 369, 3) := by decide +kernel
theorem dX8_meanAge_16 : decode cX8_meanAge 16 = .ok (.invokespecial 152, 3) := by decide +kernel
theorem dX8_meanAge_19 : decode cX8_meanAge 19 = .ok (.athrow, 1) := by decide +kernel
theorem dX8_meanAge_4 : decode cX8_meanAge 4 = .ok (.istore_n 1, 1) := by decide +kernel
theorem dX8_meanAge_5 : decode cX8_meanAge 5 = .ok (.iload_n 1, 1) := by decide +kernel
theorem dX8_meanAge_6 : decode cX8_meanAge 6 = .ok (.ifCond .ne 14, 3) := by decide +kernel
theorem dX8_meanAge_9 : decode cX8_meanAge 9 = .ok (.new 148, 3) := by decide +kernel
theorem dX8_setAge_0 : decode cX8_setAge 0 = .ok (.iload_n 1, 1) := by decide +kernel
theorem dX8_setAge_1 : decode cX8_setAge 1 = .ok (.iconst 0, 1) := by decide +kernel
theorem dX8_setAge_11 : decode cX8_setAge 11 = .ok (.getfield 339, 3) := by decide +kernel
theorem dX8_setAge_14 : decode cX8_setAge 14 = .ok (.istore_n 2, 1) := by decide +kernel
theorem dX8_setAge_15 : decode cX8_setAge 15 = .ok (.aload_n 0, 1) := by decide +kernel
theorem dX8_setAge_16 : decode cX8_setAge 16 = .ok (.getfield 38, 3) := by decide +kernel
theorem dX8_setAge_19 : decode cX8_setAge 19 = .ok (.iload_n 1, 1) := by decide +kernel
theorem dX8_setAge_2 : decode cX8_setAge 2 = .ok (.bipush 100, 2) := by decide +kernel
theorem dX8_setAge_20 : decode cX8_setAge 20 = .ok (.putfield 339, 3) := by decide +kernel
theorem dX8_setAge_23 : decode cX8_setAge 23 = .ok (.iload_n 2, 1) := by decide +kernel
theorem dX8_setAge_24 : decode cX8_setAge 24 = .ok (.ireturn, 1) := by decide +kernel
theorem dX8_setAge_4 : decode cX8_setAge 4 = .ok (.invokestatic 53, 3) := by decide +kernel
theorem dX8_setAge_7 : decode cX8_setAge 7 = .ok (.aload_n 0, 1) := by decide +kernel
theorem dX8_setAge_8 : decode cX8_setAge 8 = .ok (.getfield 38, 3) := by decide +kernel
theorem dX8_setTolerance_0 : decode cX8_setTolerance 0 = .ok (.iload_n 1, 1) := by decide +kernel
theorem dX8_setTolerance_1 : decode cX8_setTolerance 1 = .ok (.iconst 0, 1) := by decide +kernel
theorem dX8_setTolerance_11 : decode cX8_setTolerance 11 = .ok (.istore_n 2, 1) := by decide +kernel
theorem dX8_setTolerance_12 : decode cX8_setTolerance 12 = .ok (.aload_n 0, 1) := by decide +kernel
theorem dX8_setTolerance_13 : decode cX8_setTolerance 13 = .ok (.iload_n 1, 1) := by decide +kernel
theorem dX8_setTolerance_14 : decode cX8_setTolerance 14 = .ok (.putfield 46, 3) := by decide +kernel
theorem dX8_setTolerance_17 : decode cX8_setTolerance 17 = .ok (.iload_n 2, 1) := by decide +kernel
theorem dX8_setTolerance_18 : decode cX8_setTolerance 18 = .ok (.ireturn, 1) := by decide +kernel
theorem dX8_setTolerance_2 : decode cX8_setTolerance 2 = .ok (.bipush 50, 2) := by decide +kernel
theorem dX8_setTolerance_4 : decode cX8_setTolerance 4 = .ok (.invokestatic 53, 3) := by decide +kernel
theorem dX8_setTolerance_7 : decode cX8_setTolerance 7 = .ok (.aload_n 0, 1) := by decide +kernel
theorem dX8_setTolerance_8 : decode cX8_setTolerance 8 = .ok (.getfield 46, 3) := by decide +kernel
theorem dX8_sheetsInDocuments_0 : decode cX8_sheetsInDocuments 0 = .ok (.iconst 0, 1) := by decide +kernel
theorem dX8_sheetsInDocuments_1 : decode cX8_sheetsInDocuments 1 = .ok (.istore_n 1, 1) := by decide +kernel
theorem dX8_sheetsInDocuments_12 : decode cX8_sheetsInDocuments 12 = .ok (.if_icmp .ge 26, 3) := by decide +kernel
theorem dX8_sheetsInDocuments_2 : decode cX8_sheetsInDocuments 2 = .ok (.iconst 0, 1) := by decide +kernel
theorem dX8_sheetsInDocuments_3 : decode cX8_sheetsInDocuments 3 = .ok (.istore_n 2, 1) := by decide +kernel
theorem dX8_sheetsInDocuments_38 : decode cX8_sheetsInDocuments 38 = .ok (.iload_n 1, 1) := by decide +kernel
theorem dX8_sheetsInDocuments_39 : decode cX8_sheetsInDocuments 39 = .ok (.ireturn, 1) := by decide +kernel
theorem dX8_sheetsInDocuments_4 : decode cX8_sheetsInDocuments 4 = .ok (.iload_n 2, 1) := by decide +kernel
theorem dX8_sheetsInDocuments_5 : decode cX8_sheetsInDocuments 5 = .ok (.aload_n 0, 1) := by decide +kernel
theorem dX8_sheetsInDocuments_6 : decode cX8_sheetsInDocuments 6 = .ok (.getfield 22, 3) := by decide +kernel
theorem dX8_sheetsInDocuments_9 : decode cX8_sheetsInDocuments 9 = .ok (.invokevirtual 57, 3) := by decide +kernel
theorem dX8_sheetsInLots_0 : decode cX8_sheetsInLots 0 = .ok (.iconst 0, 1) := by decide +kernel
theorem dX8_sheetsInLots_1 : decode cX8_sheetsInLots 1 = .ok (.istore_n 1, 1) := by decide +kernel
theorem dX8_sheetsInLots_12 : decode cX8_sheetsInLots 12 = .ok (.if_icmp .ge 26, 3) := by decide +kernel
theorem dX8_sheetsInLots_2 : decode cX8_sheetsInLots 2 = .ok (.iconst 0, 1) := by decide +kernel
theorem dX8_sheetsInLots_3 : decode cX8_sheetsInLots 3 = .ok (.istore_n 2, 1) := by decide +kernel
theorem dX8_sheetsInLots_38 : decode cX8_sheetsInLots 38 = .ok (.iload_n 1, 1) := by decide +kernel
theorem dX8_sheetsInLots_39 : decode cX8_sheetsInLots 39 = .ok (.ireturn, 1) := by decide +kernel
theorem dX8_sheetsInLots_4 : decode cX8_sheetsInLots 4 = .ok (.iload_n 2, 1) := by decide +kernel
theorem dX8_sheetsInLots_5 : decode cX8_sheetsInLots 5 = .ok (.aload_n 0, 1) := by decide +kernel
theorem dX8_sheetsInLots_6 : decode cX8_sheetsInLots 6 = .ok (.getfield 16, 3) := by decide +kernel
theorem dX8_sheetsInLots_9 : decode cX8_sheetsInLots 9 = .ok (.invokevirtual 57, 3) := by decide +kernel
theorem dX8_sheetsInReams_0 : decode cX8_sheetsInReams 0 = .ok (.iconst 0, 1) := by decide +kernel
theorem dX8_sheetsInReams_1 : decode cX8_sheetsInReams 1 = .ok (.istore_n 1, 1) := by decide +kernel
theorem dX8_sheetsInReams_12 : decode cX8_sheetsInReams 12 = .ok (.if_icmp .ge 26, 3) := by decide +kernel
theorem dX8_sheetsInReams_2 : decode cX8_sheetsInReams 2 = .ok (.iconst 0, 1) := by decide +kernel
theorem dX8_sheetsInReams_3 : decode cX8_sheetsInReams 3 = .ok (.istore_n 2, 1) := by decide +kernel
theorem dX8_sheetsInReams_38 : decode cX8_sheetsInReams 38 = .ok (.iload_n 1, 1) := by decide +kernel
theorem dX8_sheetsInReams_39 : decode cX8_sheetsInReams 39 = .ok (.ireturn, 1) := by decide +kernel
theorem dX8_sheetsInReams_4 : decode cX8_sheetsInReams 4 = .ok (.iload_n 2, 1) := by decide +kernel
theorem dX8_sheetsInReams_5 : decode cX8_sheetsInReams 5 = .ok (.aload_n 0, 1) := by decide +kernel
theorem dX8_sheetsInReams_6 : decode cX8_sheetsInReams 6 = .ok (.getfield 19, 3) := by decide +kernel
theorem dX8_sheetsInReams_9 : decode cX8_sheetsInReams 9 = .ok (.invokevirtual 57, 3) := by decide +kernel
theorem dX8_sheetsMade_0 : decode cX8_sheetsMade 0 = .ok (.iconst 0, 1) := by decide +kernel
theorem dX8_sheetsMade_1 : decode cX8_sheetsMade 1 = .ok (.istore_n 1, 1) := by decide +kernel
theorem dX8_sheetsMade_12 : decode cX8_sheetsMade 12 = .ok (.if_icmp .ge 26, 3) := by decide +kernel
theorem dX8_sheetsMade_2 : decode cX8_sheetsMade 2 = .ok (.iconst 0, 1) := by decide +kernel
theorem dX8_sheetsMade_3 : decode cX8_sheetsMade 3 = .ok (.istore_n 2, 1) := by decide +kernel
theorem dX8_sheetsMade_38 : decode cX8_sheetsMade 38 = .ok (.iload_n 1, 1) := by decide +kernel
theorem dX8_sheetsMade_39 : decode cX8_sheetsMade 39 = .ok (.ireturn, 1) := by decide +kernel
theorem dX8_sheetsMade_4 : decode cX8_sheetsMade 4 = .ok (.iload_n 2, 1) := by decide +kernel
theorem dX8_sheetsMade_5 : decode cX8_sheetsMade 5 = .ok (.aload_n 0, 1) := by decide +kernel
theorem dX8_sheetsMade_6 : decode cX8_sheetsMade 6 = .ok (.getfield 16, 3) := by decide +kernel
theorem dX8_sheetsMade_9 : decode cX8_sheetsMade 9 = .ok (.invokevirtual 57, 3) := by decide +kernel
theorem dX8_unmerge_0 : decode cX8_unmerge 0 = .ok (.aload_n 0, 1) := by decide +kernel
theorem dX8_unmerge_1 : decode cX8_unmerge 1 = .ok (.getfield 31, 3) := by decide +kernel
theorem dX8_unmerge_10 : decode cX8_unmerge 10 = .ok (.new 148, 3) := by decide +kernel
theorem dX8_unmerge_13 : decode cX8_unmerge 13 = .ok (.dup, 1) := by decide +kernel
theorem dX8_unmerge_14 : decode cX8_unmerge 14 = .ok (.ldc_w 308, 3) := by decide +kernel
theorem dX8_unmerge_17 : decode cX8_unmerge 17 = .ok (.invokespecial 152, 3) := by decide +kernel
theorem dX8_unmerge_20 : decode cX8_unmerge 20 = .ok (.athrow, 1) := by decide +kernel
theorem dX8_unmerge_4 : decode cX8_unmerge 4 = .ok (.getfield 305, 3) := by decide +kernel
theorem dX8_unmerge_7 : decode cX8_unmerge 7 = .ok (.ifCond .ne 14, 3) := by decide +kernel
theorem dX8_usedShare_0 : decode cX8_usedShare 0 = .ok (.aload_n 0, 1) := by decide +kernel
theorem dX8_usedShare_1 : decode cX8_usedShare 1 = .ok (.invokevirtual 358, 3) := by decide +kernel
theorem dX8_usedShare_12 : decode cX8_usedShare 12 = .ok (.dup, 1) := by decide +kernel
theorem dX8_usedShare_13 : decode cX8_usedShare 13 = .ok (.ldc_w 363, 3) := by decide +kernel
theorem dX8_usedShare_16 : decode cX8_usedShare 16 = .ok (.invokespecial 365, 3) := by decide +kernel
theorem dX8_usedShare_19 : decode cX8_usedShare 19 = .ok (.athrow, 1) := by decide +kernel
theorem dX8_usedShare_4 : decode cX8_usedShare 4 = .ok (.istore_n 1, 1) := by decide +kernel
theorem dX8_usedShare_5 : decode cX8_usedShare 5 = .ok (.iload_n 1, 1) := by decide +kernel
theorem dX8_usedShare_6 : decode cX8_usedShare 6 = .ok (.ifCond .ne 14, 3) := by decide +kernel
theorem dX8_usedShare_9 : decode cX8_usedShare 9 = .ok (.new 361, 3) := by decide +kernel
theorem dX8_years_0 : decode cX8_years 0 = .ok (.aload_n 0, 1) := by decide +kernel
theorem dX8_years_1 : decode cX8_years 1 = .ok (.iconst (-1), 1) := by decide +kernel
theorem dX8_years_10 : decode cX8_years 10 = .ok (.aload_n 0, 1) := by decide +kernel
theorem dX8_years_11 : decode cX8_years 11 = .ok (.getfield 22, 3) := by decide +kernel
theorem dX8_years_14 : decode cX8_years 14 = .ok (.invokevirtual 57, 3) := by decide +kernel
theorem dX8_years_17 : decode cX8_years 17 = .ok (.if_icmp .ge 44, 3) := by decide +kernel
theorem dX8_years_2 : decode cX8_years 2 = .ok (.invokevirtual 345, 3) := by decide +kernel
theorem dX8_years_5 : decode cX8_years 5 = .ok (.lconst 0, 1) := by decide +kernel
theorem dX8_years_6 : decode cX8_years 6 = .ok (.lstore_n 1, 1) := by decide +kernel
theorem dX8_years_61 : decode cX8_years 61 = .ok (.lload_n 1, 1) := by decide +kernel
theorem dX8_years_62 : decode cX8_years 62 = .ok (.lreturn, 1) := by decide +kernel
theorem dX8_years_7 : decode cX8_years 7 = .ok (.iconst 0, 1) := by decide +kernel
theorem dX8_years_8 : decode cX8_years 8 = .ok (.istore_n 3, 1) := by decide +kernel
theorem dX8_years_9 : decode cX8_years 9 = .ok (.iload_n 3, 1) := by decide +kernel
abbrev wz_X8_checkRoom : List Cond := .code yX8_checkRoom cX8_checkRoom 2 none :: lw_good
set_option maxHeartbeats 4000000 in
set_option maxRecDepth 100000 in
/-- checkRoom -/
theorem k_X8_checkRoom (l : Launch) (hfl : l.stackTraces = false) (G : va_G) (z : Nat) (p0 : Int32) (p1 : Int32) (sz : Nat)  : vx_Met l yX8_checkRoom wz_X8_checkRoom ({ frames := 6, cells := 1, slots := 6, locals := 82 }) (va_Pc [.int p0, .int p1] (PR G z [] [] sz)) (va_Qv (fun (_ : Unit) => p0 ≤ p1) (fun (_ : Unit) (_ : State) => True) (zN sz)) (zX (¬ p0 ≤ p1) "java/lang/IllegalStateException" (zN sz)) 1 6 (zN sz) := by
  refine vx_ofW (cc := cX8_checkRoom) (maxL := 2) (ret := none) (by decide) rfl ?_
  intro p e s m args below meth c s₁ B hml htab hv
  obtain ⟨rfl, rfl, hP, hK, hG⟩ := hv
  have hx := B.exec
  have hb := B.bytes
  have hr := B.returns
  have hts := atoms_spec (ws := wz_X8_checkRoom) B.pre
  have hg : ∀ w ∈ lw_good, w.before _ s = true := fun w h => hts w (List.mem_cons_of_mem _ h)
  have hown : s.vm.findClass RX8 = some m.cls := findClass_of_methodNamed B.named
  have hlocks := B.notSynchronized
  have hA : ∀ q : Nat, s.heap.size ≤ q → zN s.heap.size q := fun _ h => h
  have hS : va_S (zN s.heap.size) s.heap s.heap [] := va_S.rf
  have hl := lv_entry ([.int p0, .int p1]) (n := 2) (Nat.le_of_ble_eq_true rfl)
  rw [lg_entry_eq]
  generalize (lg_sl ([.int p0, .int p1]) ++ List.replicate (2 - (lg_sl ([.int p0, .int p1])).length) Slot.unset).toArray = ls at hl ⊢
  have hl : lv_has ls 2 [(0, .int p0), (1, .int p1)] := hl
  refine lv_iload_n hx hb dX8_checkRoom_0 rfl (lv_at hl 0 rfl) ?_
  refine lv_iload_n hx hb dX8_checkRoom_1 rfl (lv_at hl 1 rfl) ?_
  refine lv_icmp_le (tgt := 16) hx hb dX8_checkRoom_2 (by decide) (fun c_1 => ?_) (fun c_1 => ?_)
  · refine W.widen (k := 1) (n := 6) (Nat.le_of_ble_eq_true rfl) (Nat.le_of_ble_eq_true rfl) ?_
    refine vx_ret ?_
    exact W.vret hx hb hr (fun t ht hW => ⟨⟨(), rfl, c_1, trivial⟩, hS.F ht⟩) hS.2.2 dX8_checkRoom_16
  · obtain ⟨sa9, hsa9⟩ := hG.2.2.2.2.2.1 _ _ _ qstr395
    exact vx_throwSW (names := zNm) hx hb hfl hown (by decide +kernel) (by decide +kernel) (hg _ q386) (hg _ q12) hsa9 (zat_at zat_X8_406 hg hG.2.2.2.2.1) zgo_X8_406_402 hG.1 hG.2.1 hS (by rw [hml]; exact hl.1) dX8_checkRoom_5 dX8_checkRoom_8 dX8_checkRoom_9 dX8_checkRoom_12 dX8_checkRoom_15 (fun x9 h9 => (htab x9 h9).elim) (Nat.le_of_ble_eq_true rfl) (Nat.le_of_ble_eq_true rfl) (Nat.le_of_ble_eq_true rfl) (Nat.le_of_ble_eq_true rfl) hlocks (fun t9 _ h1 h2 => zX.grown c_1 hS h1 h2) hS.2.2 (Nat.le_of_ble_eq_true rfl) (Nat.le_of_ble_eq_true rfl)

abbrev wz_X8_setTolerance : List Cond := .code yX8_setTolerance cX8_setTolerance 3 (Option.some Jvm.ClassFile.FieldType.int) :: lw_good
set_option maxHeartbeats 4000000 in
set_option maxRecDepth 100000 in
/-- setTolerance -/
theorem k_X8_setTolerance (l : Launch) (hfl : l.stackTraces = false) (G : va_G) (z : Nat) (h0 : Nat) (a1 : Nat) (a2 : Nat) (a3 : Nat) (a4 : Nat) (a5 : Nat) (a6 : Nat) (a7 : Nat) (a8 : Nat) (tol : Int32) (sal : Int32) (p0 : Int32) (sz : Nat)  : vx_Met l yX8_setTolerance wz_X8_setTolerance ({ frames := 7, cells := 1, slots := 6, locals := 104 }) (va_Pc [.ref h0, .int p0] (PW G z [(h0, .inr (12, [.ref a1, .ref a2, .ref a3, .ref a4, .ref a5, .ref a6, .ref a7, .ref a8, .int tol, .int sal]))] [] sz)) (va_Qi (fun (r : Int32) (_ : Unit) => r = tol ∧ (0 ≤ p0 ∧ p0 ≤ 50)) (fun (_ : Unit) (t : State) => QW G [] [] (va_A [(h0, .inr (12, [.ref a1, .ref a2, .ref a3, .ref a4, .ref a5, .ref a6, .ref a7, .ref a8, .int tol, .int sal]))] sz) t) (va_A [(h0, .inr (12, [.ref a1, .ref a2, .ref a3, .ref a4, .ref a5, .ref a6, .ref a7, .ref a8, .int tol, .int sal]))] sz)) (zX (¬ (0 ≤ p0 ∧ p0 ≤ 50)) "java/lang/IllegalArgumentException" (va_A [(h0, .inr (12, [.ref a1, .ref a2, .ref a3, .ref a4, .ref a5, .ref a6, .ref a7, .ref a8, .int tol, .int sal]))] sz)) 1 6 (va_A [(h0, .inr (12, [.ref a1, .ref a2, .ref a3, .ref a4, .ref a5, .ref a6, .ref a7, .ref a8, .int tol, .int sal]))] sz) := by
  refine vx_ofW (cc := cX8_setTolerance) (maxL := 3) (ret := (Option.some Jvm.ClassFile.FieldType.int)) (by decide) rfl ?_
  intro p e s m args below meth c s₁ B hml htab hv
  obtain ⟨rfl, rfl, hP, hK, hD0, hG⟩ := hv
  have hx := B.exec
  have hb := B.bytes
  have hr := B.returns
  have hts := atoms_spec (ws := wz_X8_setTolerance) B.pre
  have hg : ∀ w ∈ lw_good, w.before _ s = true := fun w h => hts w (List.mem_cons_of_mem _ h)
  have hown : s.vm.findClass RX8 = some m.cls := findClass_of_methodNamed B.named
  have hlocks := B.notSynchronized
  have hD := hD0.self (sz := s.heap.size)
  generalize hAe : va_A [(h0, .inr (12, [.ref a1, .ref a2, .ref a3, .ref a4, .ref a5, .ref a6, .ref a7, .ref a8, .int tol, .int sal]))] s.heap.size = A at hD hG ⊢
  have hA : ∀ q : Nat, s.heap.size ≤ q → A q := fun q h => by rw [← hAe]; exact Or.inr h
  have hS : va_S A s.heap s.heap [] := va_S.rf
  have hl := lv_entry ([.ref h0, .int p0]) (n := 3) (Nat.le_of_ble_eq_true rfl)
  rw [lg_entry_eq]
  generalize (lg_sl ([.ref h0, .int p0]) ++ List.replicate (3 - (lg_sl ([.ref h0, .int p0])).length) Slot.unset).toArray = ls at hl ⊢
  have hl : lv_has ls 3 [(0, .ref h0), (1, .int p0)] := hl
  refine lv_iload_n hx hb dX8_setTolerance_0 rfl (lv_at hl 1 rfl) ?_
  refine lv_iconst (v := 0) hx hb dX8_setTolerance_1 (by decide) ?_
  refine lv_bipush (v := 50) hx hb dX8_setTolerance_2 (by decide) ?_
  have hPc := hP.sub (ws' := []) [] rfl
  have hKc := hK.sub (tys' := []) [] rfl
  refine vx_callv (vx_runS (As := [.int p0, .int 0, .int 50]) (rest := []) ⟨hx, hb, hml, hown, hts⟩ (k_X8_checkRange l hfl G z p0 0 50 s.heap.size ) (va_cwS 3 hts (lw_goodApp (lw_3 q308 q309 q1) q310) rfl rfl rfl (by decide +kernel) ⟨Nat.le_of_ble_eq_true rfl, Nat.le_of_ble_eq_true rfl⟩) ⟨PR.blind, PR.of hPc hKc hG hS hA [.int p0, .int 0, .int 50]⟩ rfl rfl hl.1 rfl (lv_room (Nat.le_of_ble_eq_true rfl)) dX8_setTolerance_4 ⟨Nat.le_of_ble_eq_true rfl, Nat.le_of_ble_eq_true rfl⟩) hS (fun q h9 h => zN.not h9 h) (fun q h => hA q (Nat.le_trans hS.1 h)) (fun q h9 h => zN.not h9 h) (fun E ce q9 ux t_4 H_1 locs ht hvm px_5 hE hz1 hk1 hS hq9 hv9 hcl9 => ?_) (fun u t_4 H_1 locs ht hvm hw_3 hB hz1 hk1 hS => ?_)
  · exact vx_out (fun x9 h9 => (htab x9 h9).elim) hlocks hq9 hv9 hcl9 (fun t2 ht2 hal2 => zX.same px_5 hE hS ht2) hS.2.2 (Nat.le_of_ble_eq_true rfl) (Nat.le_of_ble_eq_true rfl)
  have hP := hP.grown hk1
  refine W.widen (k := 1) (n := 6) (Nat.le_of_ble_eq_true rfl) (Nat.le_of_ble_eq_true rfl) ?_
  refine lv_aload_n hx hb dX8_setTolerance_7 rfl (lv_at hl 0 rfl) ?_
  refine va_get (D := G) (ci := 12) (v := .int tol) (C := RX8) (T := TX8) (N := 10) hx hb hg in_X8 hown hK hP 0 rfl rfl 8 (by decide) (hg _ q133) (fun _ h9 => h9) rfl dX8_setTolerance_8 ?_
  refine lv_istore_n (lv' := [(2, .int tol), (0, .ref h0), (1, .int p0)]) hx hb dX8_setTolerance_11 rfl hl (by decide) rfl (fun ls hl => ?_)
  refine lv_aload_n hx hb dX8_setTolerance_12 rfl (lv_at hl 1 rfl) ?_
  refine lv_iload_n hx hb dX8_setTolerance_13 rfl (lv_at hl 2 rfl) ?_
  refine va_put (D := G) (ci := 12) (v := .int p0) (ty := .int) (C := RX8) (T := TX8) (N := 10) hx hb hg in_X8 tyX8 tyX8_ok nmX8 hown hK hP hD hS 0 rfl rfl 8 (by decide) (hg _ q133) (fun _ h9 => h9) rfl (by decide +kernel) rfl rfl (Nat.le_of_ble_eq_true rfl) dX8_setTolerance_14 (fun H_6 locs hP hD hS => ?_)
  have hP : va_P G vwCl ([(h0, .inr (12, [.ref a1, .ref a2, .ref a3, .ref a4, .ref a5, .ref a6, .ref a7, .ref a8, .int p0, .int sal]))]) H_6 := hP
  have hD : va_D A ([(h0, .inr (12, [.ref a1, .ref a2, .ref a3, .ref a4, .ref a5, .ref a6, .ref a7, .ref a8, .int p0, .int sal]))]) := hD
  refine lv_iload_n hx hb dX8_setTolerance_17 rfl (lv_at hl 0 rfl) ?_
  refine W.widen (k := 1) (n := 6) (Nat.le_of_ble_eq_true rfl) (Nat.le_of_ble_eq_true rfl) ?_
  refine vx_ret ?_
  have hP9 := hP.sub (ws' := []) [] rfl
  have hD9 := hD.sub (ws' := []) [] (by decide) rfl
  have hK9 := hK.sub (tys' := []) [] rfl
  exact W.iret (v := tol) hx hb hr (fun t ht hW => ⟨⟨tol, (), rfl, ⟨rfl, hw_3⟩, QW.of hP9 hK9 hD9 ht hW.alike⟩, hS.F ht⟩) hS.2.2 dX8_setTolerance_18

abbrev wz_X8_setAge : List Cond := .code yX8_setAge cX8_setAge 3 (Option.some Jvm.ClassFile.FieldType.int) :: lw_good
set_option maxHeartbeats 4000000 in
set_option maxRecDepth 100000 in
/-- setAge -/
theorem k_X8_setAge (l : Launch) (hfl : l.stackTraces = false) (G : va_G) (z : Nat) (h0 : Nat) (a1 : Nat) (a2 : Nat) (a3 : Nat) (a4 : Nat) (a5 : Nat) (a6 : Nat) (a7 : Nat) (a8 : Nat) (tol : Int32) (sal : Int32) (d1 : Nat) (d2 : Nat) (d3 : Nat) (d4 : Nat) (ag : Int32) (p0 : Int32) (sz : Nat)  : vx_Met l yX8_setAge wz_X8_setAge ({ frames := 7, cells := 1, slots := 6, locals := 104 }) (va_Pc [.ref h0, .int p0] (PW G z [(h0, .inr (12, [.ref a1, .ref a2, .ref a3, .ref a4, .ref a5, .ref a6, .ref a7, .ref a8, .int tol, .int sal])), (a7, .inr (4, [.ref d1, .ref d2, .ref d3, .ref d4, .int 0, .int ag]))] [] sz)) (va_Qi (fun (r : Int32) (_ : Unit) => r = ag ∧ (0 ≤ p0 ∧ p0 ≤ 100)) (fun (_ : Unit) (t : State) => QW G [] [] (va_A [(h0, .inr (12, [.ref a1, .ref a2, .ref a3, .ref a4, .ref a5, .ref a6, .ref a7, .ref a8, .int tol, .int sal])), (a7, .inr (4, [.ref d1, .ref d2, .ref d3, .ref d4, .int 0, .int ag]))] sz) t) (va_A [(h0, .inr (12, [.ref a1, .ref a2, .ref a3, .ref a4, .ref a5, .ref a6, .ref a7, .ref a8, .int tol, .int sal])), (a7, .inr (4, [.ref d1, .ref d2, .ref d3, .ref d4, .int 0, .int ag]))] sz)) (zX (¬ (0 ≤ p0 ∧ p0 ≤ 100)) "java/lang/IllegalArgumentException" (va_A [(h0, .inr (12, [.ref a1, .ref a2, .ref a3, .ref a4, .ref a5, .ref a6, .ref a7, .ref a8, .int tol, .int sal])), (a7, .inr (4, [.ref d1, .ref d2, .ref d3, .ref d4, .int 0, .int ag]))] sz)) 1 6 (va_A [(h0, .inr (12, [.ref a1, .ref a2, .ref a3, .ref a4, .ref a5, .ref a6, .ref a7, .ref a8, .int tol, .int sal])), (a7, .inr (4, [.ref d1, .ref d2, .ref d3, .ref d4, .int 0, .int ag]))] sz) := by
  refine vx_ofW (cc := cX8_setAge) (maxL := 3) (ret := (Option.some Jvm.ClassFile.FieldType.int)) (by decide) rfl ?_
  intro p e s m args below meth c s₁ B hml htab hv
  obtain ⟨rfl, rfl, hP, hK, hD0, hG⟩ := hv
  have hx := B.exec
  have hb := B.bytes
  have hr := B.returns
  have hts := atoms_spec (ws := wz_X8_setAge) B.pre
  have hg : ∀ w ∈ lw_good, w.before _ s = true := fun w h => hts w (List.mem_cons_of_mem _ h)
  have hown : s.vm.findClass RX8 = some m.cls := findClass_of_methodNamed B.named
  have hlocks := B.notSynchronized
  have hD := hD0.self (sz := s.heap.size)
  generalize hAe : va_A [(h0, .inr (12, [.ref a1, .ref a2, .ref a3, .ref a4, .ref a5, .ref a6, .ref a7, .ref a8, .int tol, .int sal])), (a7, .inr (4, [.ref d1, .ref d2, .ref d3, .ref d4, .int 0, .int ag]))] s.heap.size = A at hD hG ⊢
  have hA : ∀ q : Nat, s.heap.size ≤ q → A q := fun q h => by rw [← hAe]; exact Or.inr h
  have hS : va_S A s.heap s.heap [] := va_S.rf
  have hl := lv_entry ([.ref h0, .int p0]) (n := 3) (Nat.le_of_ble_eq_true rfl)
  rw [lg_entry_eq]
  generalize (lg_sl ([.ref h0, .int p0]) ++ List.replicate (3 - (lg_sl ([.ref h0, .int p0])).length) Slot.unset).toArray = ls at hl ⊢
  have hl : lv_has ls 3 [(0, .ref h0), (1, .int p0)] := hl
  refine lv_iload_n hx hb dX8_setAge_0 rfl (lv_at hl 1 rfl) ?_
  refine lv_iconst (v := 0) hx hb dX8_setAge_1 (by decide) ?_
  refine lv_bipush (v := 100) hx hb dX8_setAge_2 (by decide) ?_
  have hPc := hP.sub (ws' := []) [] rfl
  have hKc := hK.sub (tys' := []) [] rfl
  refine vx_callv (vx_runS (As := [.int p0, .int 0, .int 100]) (rest := []) ⟨hx, hb, hml, hown, hts⟩ (k_X8_checkRange l hfl G z p0 0 100 s.heap.size ) (va_cwS 3 hts (lw_goodApp (lw_3 q308 q309 q1) q310) rfl rfl rfl (by decide +kernel) ⟨Nat.le_of_ble_eq_true rfl, Nat.le_of_ble_eq_true rfl⟩) ⟨PR.blind, PR.of hPc hKc hG hS hA [.int p0, .int 0, .int 100]⟩ rfl rfl hl.1 rfl (lv_room (Nat.le_of_ble_eq_true rfl)) dX8_setAge_4 ⟨Nat.le_of_ble_eq_true rfl, Nat.le_of_ble_eq_true rfl⟩) hS (fun q h9 h => zN.not h9 h) (fun q h => hA q (Nat.le_trans hS.1 h)) (fun q h9 h => zN.not h9 h) (fun E ce q9 ux t_4 H_1 locs ht hvm px_5 hE hz1 hk1 hS hq9 hv9 hcl9 => ?_) (fun u t_4 H_1 locs ht hvm hw_3 hB hz1 hk1 hS => ?_)
  · exact vx_out (fun x9 h9 => (htab x9 h9).elim) hlocks hq9 hv9 hcl9 (fun t2 ht2 hal2 => zX.same px_5 hE hS ht2) hS.2.2 (Nat.le_of_ble_eq_true rfl) (Nat.le_of_ble_eq_true rfl)
  have hP := hP.grown hk1
  refine W.widen (k := 1) (n := 6) (Nat.le_of_ble_eq_true rfl) (Nat.le_of_ble_eq_true rfl) ?_
  refine lv_aload_n hx hb dX8_setAge_7 rfl (lv_at hl 0 rfl) ?_
  refine va_get (D := G) (ci := 12) (v := .ref a7) (C := RX8) (T := TX8) (N := 10) hx hb hg in_X8 hown hK hP 0 rfl rfl 6 (by decide) (hg _ q131) (fun _ h9 => h9) rfl dX8_setAge_8 ?_
  refine va_get (D := G) (ci := 4) (v := .int ag) (C := RX0) (T := TX0) (N := 6) hx hb hg in_X0 hown hK hP 1 rfl rfl 5 (by decide) (hg _ q111) (fun _ h9 => h9) rfl dX8_setAge_11 ?_
  refine lv_istore_n (lv' := [(2, .int ag), (0, .ref h0), (1, .int p0)]) hx hb dX8_setAge_14 rfl hl (by decide) rfl (fun ls hl => ?_)
  refine lv_aload_n hx hb dX8_setAge_15 rfl (lv_at hl 1 rfl) ?_
  refine va_get (D := G) (ci := 12) (v := .ref a7) (C := RX8) (T := TX8) (N := 10) hx hb hg in_X8 hown hK hP 0 rfl rfl 6 (by decide) (hg _ q131) (fun _ h9 => h9) rfl dX8_setAge_16 ?_
  refine lv_iload_n hx hb dX8_setAge_19 rfl (lv_at hl 2 rfl) ?_
  refine va_put (D := G) (ci := 4) (v := .int p0) (ty := .int) (C := RX0) (T := TX0) (N := 6) hx hb hg in_X0 tyX0 tyX0_ok nmX0 hown hK hP hD hS 1 rfl rfl 5 (by decide) (hg _ q111) (fun _ h9 => h9) rfl (by decide +kernel) rfl rfl (Nat.le_of_ble_eq_true rfl) dX8_setAge_20 (fun H_6 locs hP hD hS => ?_)
  have hP : va_P G vwCl ([(h0, .inr (12, [.ref a1, .ref a2, .ref a3, .ref a4, .ref a5, .ref a6, .ref a7, .ref a8, .int tol, .int sal])), (a7, .inr (4, [.ref d1, .ref d2, .ref d3, .ref d4, .int 0, .int p0]))]) H_6 := hP
  have hD : va_D A ([(h0, .inr (12, [.ref a1, .ref a2, .ref a3, .ref a4, .ref a5, .ref a6, .ref a7, .ref a8, .int tol, .int sal])), (a7, .inr (4, [.ref d1, .ref d2, .ref d3, .ref d4, .int 0, .int p0]))]) := hD
  refine lv_iload_n hx hb dX8_setAge_23 rfl (lv_at hl 0 rfl) ?_
  refine W.widen (k := 1) (n := 6) (Nat.le_of_ble_eq_true rfl) (Nat.le_of_ble_eq_true rfl) ?_
  refine vx_ret ?_
  have hP9 := hP.sub (ws' := []) [] rfl
  have hD9 := hD.sub (ws' := []) [] (by decide) rfl
  have hK9 := hK.sub (tys' := []) [] rfl
  exact W.iret (v := ag) hx hb hr (fun t ht hW => ⟨⟨ag, (), rfl, ⟨rfl, hw_3⟩, QW.of hP9 hK9 hD9 ht hW.alike⟩, hS.F ht⟩) hS.2.2 dX8_setAge_24

abbrev wz_X8_groups : List Cond := .code yX8_groups cX8_groups 4 (Option.some Jvm.ClassFile.FieldType.int) :: lw_good
set_option maxHeartbeats 4000000 in
set_option maxRecDepth 100000 in
/-- groups of no images -/
theorem k_X8_groups (l : Launch) (G : va_G) (z : Nat) (h0 : Nat) (a1 : Nat) (a2 : Nat) (a3 : Nat) (a4 : Nat) (a5 : Nat) (a6 : Nat) (a7 : Nat) (a8 : Nat) (tol : Int32) (sal : Int32) (c0 : Int32) (e0 : Nat) (sz : Nat)  : Met l yX8_groups wz_X8_groups ({ frames := 1, cells := 0, slots := 0, locals := 20 }) (va_Pc [.ref h0] (PR G z [(h0, .inr (12, [.ref a1, .ref a2, .ref a3, .ref a4, .ref a5, .ref a6, .ref a7, .ref a8, .int tol, .int sal])), (a5, .inr (3, [.int c0, .ref e0, .int 0]))] [] sz)) (va_Qi (fun (r : Int32) (_ : Unit) => r = 0) (fun (_ : Unit) (_ : State) => True) (zN sz)) 0 0 (zN sz) := by
  refine Met.ofW (cc := cX8_groups) (maxL := 4) (ret := (Option.some Jvm.ClassFile.FieldType.int)) (by decide) rfl ?_
  intro p e s m args below meth c s₁ B hml hv
  obtain ⟨rfl, rfl, hP, hK, hG⟩ := hv
  have hx := B.exec
  have hb := B.bytes
  have hr := B.returns
  have hts := atoms_spec (ws := wz_X8_groups) B.pre
  have hg : ∀ w ∈ lw_good, w.before _ s = true := fun w h => hts w (List.mem_cons_of_mem _ h)
  have hown : s.vm.findClass RX8 = some m.cls := findClass_of_methodNamed B.named
  have hlocks := B.notSynchronized
  have hA : ∀ q : Nat, s.heap.size ≤ q → zN s.heap.size q := fun _ h => h
  have hS : va_S (zN s.heap.size) s.heap s.heap [] := va_S.rf
  have hl := lv_entry ([.ref h0]) (n := 4) (Nat.le_of_ble_eq_true rfl)
  rw [lg_entry_eq]
  generalize (lg_sl ([.ref h0]) ++ List.replicate (4 - (lg_sl ([.ref h0])).length) Slot.unset).toArray = ls at hl ⊢
  have hl : lv_has ls 4 [(0, .ref h0)] := hl
  refine lv_aload_n hx hb dX8_groups_0 rfl (lv_at hl 0 rfl) ?_
  refine va_get (D := G) (ci := 12) (v := .ref a5) (C := RX8) (T := TX8) (N := 10) hx hb hg in_X8 hown hK hP 0 rfl rfl 4 (by decide) (hg _ q129) (fun _ h9 => h9) rfl dX8_groups_1 ?_
  have hPc := hP.sub (ws' := [(a5, .inr (3, [.int c0, .ref e0, .int 0]))]) [1] rfl
  have hKc := hK.sub (tys' := []) [] rfl
  refine va_calli (va_runV (As := []) (rest := []) ⟨hx, hb, hml, hown, hts⟩ (k_Jx4a65c_size_8abf5 l G z a5 c0 e0 0 s.heap.size ) (cwV 0 hts (lw_goodApp (lw_4 q160 q161 q162 q4) q163) rfl rfl rfl (by decide +kernel) ⟨Nat.le_of_ble_eq_true rfl, Nat.le_of_ble_eq_true rfl⟩) ⟨PR.blind, va_recv hK hP (ci := 3) (q0 := 1) rfl rfl, PR.of hPc hKc hG hS hA [.ref a5]⟩ rfl rfl hl.1 rfl (lv_room (Nat.le_of_ble_eq_true rfl)) dX8_groups_4 ⟨Nat.le_of_ble_eq_true rfl, Nat.le_of_ble_eq_true rfl⟩) hS (fun q h9 h => zN.not h9 h) (fun q h => hA q (Nat.le_trans hS.1 h)) (fun r_2 u t_4 H_1 locs ht hvm hw_3 hB hz1 hk1 hS => ?_)
  have hP := hP.grown hk1
  refine W.widen (k := 0) (n := 0) (Nat.le_of_ble_eq_true rfl) (Nat.le_of_ble_eq_true rfl) ?_
  obtain rfl : 0 = r_2 := hw_3.symm
  refine lv_istore_n (lv' := [(1, .int 0), (0, .ref h0)]) hx hb dX8_groups_7 rfl hl (by decide) rfl (fun ls hl => ?_)
  refine lv_iconst (v := 0) hx hb dX8_groups_8 (by decide) ?_
  refine lv_istore_n (lv' := [(2, .int 0), (1, .int 0), (0, .ref h0)]) hx hb dX8_groups_9 rfl hl (by decide) rfl (fun ls hl => ?_)
  refine lv_iload_n hx hb dX8_groups_10 rfl (lv_at hl 0 rfl) ?_
  refine lv_aload_n hx hb dX8_groups_11 rfl (lv_at hl 2 rfl) ?_
  refine va_get (D := G) (ci := 12) (v := .ref a5) (C := RX8) (T := TX8) (N := 10) hx hb hg in_X8 hown hK hP 0 rfl rfl 4 (by decide) (hg _ q129) (fun _ h9 => h9) rfl dX8_groups_12 ?_
  have hPc := hP.sub (ws' := [(a5, .inr (3, [.int c0, .ref e0, .int 0]))]) [1] rfl
  have hKc := hK.sub (tys' := []) [] rfl
  refine va_calli (va_runV (As := []) (rest := [.int 0]) ⟨hx, hb, hml, hown, hts⟩ (k_Jx4a65c_size_8abf5 l G z a5 c0 e0 0 H_1.size ) (cwV 0 hts (lw_goodApp (lw_4 q160 q161 q162 q4) q163) rfl rfl rfl (by decide +kernel) ⟨Nat.le_of_ble_eq_true rfl, Nat.le_of_ble_eq_true rfl⟩) ⟨PR.blind, va_recv hK hP (ci := 3) (q0 := 1) rfl rfl, PR.of hPc hKc hG hS hA [.ref a5]⟩ rfl rfl hl.1 rfl (lv_room (Nat.le_of_ble_eq_true rfl)) dX8_groups_15 ⟨Nat.le_of_ble_eq_true rfl, Nat.le_of_ble_eq_true rfl⟩) hS (fun q h9 h => zN.not h9 h) (fun q h => hA q (Nat.le_trans hS.1 h)) (fun r_6 u t_8 H_5 locs ht hvm hw_7 hB hz1 hk1 hS => ?_)
  have hP := hP.grown hk1
  refine W.widen (k := 0) (n := 0) (Nat.le_of_ble_eq_true rfl) (Nat.le_of_ble_eq_true rfl) ?_
  obtain rfl : 0 = r_6 := hw_7.symm
  refine lv_icmp_ge (tgt := 34) hx hb dX8_groups_18 (by decide) (fun c_9 => ?_) (fun c_9 => absurd (by decide) c_9)
  refine lv_iconst (v := 0) hx hb dX8_groups_34 (by decide) ?_
  refine lv_istore_n (lv' := [(2, .int 0), (1, .int 0), (0, .ref h0)]) hx hb dX8_groups_35 rfl hl (by decide) rfl (fun ls hl => ?_)
  refine lv_iload_n hx hb dX8_groups_36 rfl (lv_at hl 0 rfl) ?_
  refine lv_aload_n hx hb dX8_groups_37 rfl (lv_at hl 2 rfl) ?_
  refine va_get (D := G) (ci := 12) (v := .ref a5) (C := RX8) (T := TX8) (N := 10) hx hb hg in_X8 hown hK hP 0 rfl rfl 4 (by decide) (hg _ q129) (fun _ h9 => h9) rfl dX8_groups_38 ?_
  have hPc := hP.sub (ws' := [(a5, .inr (3, [.int c0, .ref e0, .int 0]))]) [1] rfl
  have hKc := hK.sub (tys' := []) [] rfl
  refine va_calli (va_runV (As := []) (rest := [.int 0]) ⟨hx, hb, hml, hown, hts⟩ (k_Jx4a65c_size_8abf5 l G z a5 c0 e0 0 H_5.size ) (cwV 0 hts (lw_goodApp (lw_4 q160 q161 q162 q4) q163) rfl rfl rfl (by decide +kernel) ⟨Nat.le_of_ble_eq_true rfl, Nat.le_of_ble_eq_true rfl⟩) ⟨PR.blind, va_recv hK hP (ci := 3) (q0 := 1) rfl rfl, PR.of hPc hKc hG hS hA [.ref a5]⟩ rfl rfl hl.1 rfl (lv_room (Nat.le_of_ble_eq_true rfl)) dX8_groups_41 ⟨Nat.le_of_ble_eq_true rfl, Nat.le_of_ble_eq_true rfl⟩) hS (fun q h9 h => zN.not h9 h) (fun q h => hA q (Nat.le_trans hS.1 h)) (fun r_11 u t_13 H_10 locs ht hvm hw_12 hB hz1 hk1 hS => ?_)
  have hP := hP.grown hk1
  refine W.widen (k := 0) (n := 0) (Nat.le_of_ble_eq_true rfl) (Nat.le_of_ble_eq_true rfl) ?_
  obtain rfl : 0 = r_11 := hw_12.symm
  refine lv_icmp_ge (tgt := 137) hx hb dX8_groups_44 (by decide) (fun c_14 => ?_) (fun c_14 => absurd (by decide) c_14)
  refine lv_iload_n hx hb dX8_groups_137 rfl (lv_at hl 1 rfl) ?_
  refine W.widen (k := 0) (n := 0) (Nat.le_of_ble_eq_true rfl) (Nat.le_of_ble_eq_true rfl) ?_
  exact W.iret (v := 0) hx hb hr (fun t ht hW => ⟨⟨0, (), rfl, rfl, trivial⟩, hS.F ht⟩) hS.2.2 dX8_groups_138

abbrev wz_X0_fitsWithout : List Cond := .code yX0_fitsWithout cX0_fitsWithout 3 (Option.some Jvm.ClassFile.FieldType.boolean) :: lw_good
set_option maxHeartbeats 4000000 in
set_option maxRecDepth 100000 in
/-- fitsWithout: no documents -/
theorem k_X0_fitsWithout (l : Launch) (G : va_G) (z : Nat) (h0 : Nat) (d1 : Nat) (d2 : Nat) (d3 : Nat) (d4 : Nat) (ag : Int32) (p0 : Int32) (sz : Nat)  : Met l yX0_fitsWithout wz_X0_fitsWithout ({ frames := 0, cells := 0, slots := 0, locals := 0 }) (va_Pc [.ref h0, .int p0] (PR G z [(h0, .inr (4, [.ref d1, .ref d2, .ref d3, .ref d4, .int 0, .int ag]))] [] sz)) (va_Qi (fun (r : Int32) (_ : Unit) => r = 1) (fun (_ : Unit) (_ : State) => True) (zN sz)) 0 0 (zN sz) := by
  refine Met.ofW (cc := cX0_fitsWithout) (maxL := 3) (ret := (Option.some Jvm.ClassFile.FieldType.boolean)) (by decide) rfl ?_
  intro p e s m args below meth c s₁ B hml hv
  obtain ⟨rfl, rfl, hP, hK, hG⟩ := hv
  have hx := B.exec
  have hb := B.bytes
  have hr := B.returns
  have hts := atoms_spec (ws := wz_X0_fitsWithout) B.pre
  have hg : ∀ w ∈ lw_good, w.before _ s = true := fun w h => hts w (List.mem_cons_of_mem _ h)
  have hown : s.vm.findClass RX0 = some m.cls := findClass_of_methodNamed B.named
  have hlocks := B.notSynchronized
  have hA : ∀ q : Nat, s.heap.size ≤ q → zN s.heap.size q := fun _ h => h
  have hS : va_S (zN s.heap.size) s.heap s.heap [] := va_S.rf
  have hl := lv_entry ([.ref h0, .int p0]) (n := 3) (Nat.le_of_ble_eq_true rfl)
  rw [lg_entry_eq]
  generalize (lg_sl ([.ref h0, .int p0]) ++ List.replicate (3 - (lg_sl ([.ref h0, .int p0])).length) Slot.unset).toArray = ls at hl ⊢
  have hl : lv_has ls 3 [(0, .ref h0), (1, .int p0)] := hl
  refine lv_iconst (v := 0) hx hb dX0_fitsWithout_0 (by decide) ?_
  refine lv_istore_n (lv' := [(2, .int 0), (0, .ref h0), (1, .int p0)]) hx hb dX0_fitsWithout_1 rfl hl (by decide) rfl (fun ls hl => ?_)
  refine lv_iload_n hx hb dX0_fitsWithout_2 rfl (lv_at hl 0 rfl) ?_
  refine lv_aload_n hx hb dX0_fitsWithout_3 rfl (lv_at hl 1 rfl) ?_
  refine va_get (D := G) (ci := 4) (v := .int 0) (C := RX0) (T := TX0) (N := 6) hx hb hg in_X0 hown hK hP 0 rfl rfl 4 (by decide) (hg _ q109) (fun _ h9 => h9) rfl dX0_fitsWithout_4 ?_
  refine lv_icmp_ge (tgt := 43) hx hb dX0_fitsWithout_7 (by decide) (fun c_1 => ?_) (fun c_1 => absurd (by decide) c_1)
  refine lv_iconst (v := 1) hx hb dX0_fitsWithout_43 (by decide) ?_
  refine W.widen (k := 0) (n := 0) (Nat.le_of_ble_eq_true rfl) (Nat.le_of_ble_eq_true rfl) ?_
  exact W.zret (v := 1) hx hb hr rfl (fun t ht hW => ⟨⟨1, (), rfl, rfl, trivial⟩, hS.F ht⟩) hS.2.2 dX0_fitsWithout_44

abbrev wz_X8_fits : List Cond := .code yX8_fits cX8_fits 1 (Option.some Jvm.ClassFile.FieldType.boolean) :: lw_good
set_option maxHeartbeats 4000000 in
set_option maxRecDepth 100000 in
/-- fits -/
theorem k_X8_fits (l : Launch) (G : va_G) (z : Nat) (h0 : Nat) (a1 : Nat) (a2 : Nat) (a3 : Nat) (a4 : Nat) (a5 : Nat) (a6 : Nat) (a7 : Nat) (a8 : Nat) (tol : Int32) (sal : Int32) (d1 : Nat) (d2 : Nat) (d3 : Nat) (d4 : Nat) (ag : Int32) (sz : Nat)  : Met l yX8_fits wz_X8_fits ({ frames := 1, cells := 0, slots := 0, locals := 22 }) (va_Pc [.ref h0] (PR G z [(h0, .inr (12, [.ref a1, .ref a2, .ref a3, .ref a4, .ref a5, .ref a6, .ref a7, .ref a8, .int tol, .int sal])), (a7, .inr (4, [.ref d1, .ref d2, .ref d3, .ref d4, .int 0, .int ag]))] [] sz)) (va_Qi (fun (r : Int32) (_ : Unit) => r = 1) (fun (_ : Unit) (_ : State) => True) (zN sz)) 0 0 (zN sz) := by
  refine Met.ofW (cc := cX8_fits) (maxL := 1) (ret := (Option.some Jvm.ClassFile.FieldType.boolean)) (by decide) rfl ?_
  intro p e s m args below meth c s₁ B hml hv
  obtain ⟨rfl, rfl, hP, hK, hG⟩ := hv
  have hx := B.exec
  have hb := B.bytes
  have hr := B.returns
  have hts := atoms_spec (ws := wz_X8_fits) B.pre
  have hg : ∀ w ∈ lw_good, w.before _ s = true := fun w h => hts w (List.mem_cons_of_mem _ h)
  have hown : s.vm.findClass RX8 = some m.cls := findClass_of_methodNamed B.named
  have hlocks := B.notSynchronized
  have hA : ∀ q : Nat, s.heap.size ≤ q → zN s.heap.size q := fun _ h => h
  have hS : va_S (zN s.heap.size) s.heap s.heap [] := va_S.rf
  have hl := lv_entry ([.ref h0]) (n := 1) (Nat.le_of_ble_eq_true rfl)
  rw [lg_entry_eq]
  generalize (lg_sl ([.ref h0]) ++ List.replicate (1 - (lg_sl ([.ref h0])).length) Slot.unset).toArray = ls at hl ⊢
  have hl : lv_has ls 1 [(0, .ref h0)] := hl
  refine lv_aload_n hx hb dX8_fits_0 rfl (lv_at hl 0 rfl) ?_
  refine va_get (D := G) (ci := 12) (v := .ref a7) (C := RX8) (T := TX8) (N := 10) hx hb hg in_X8 hown hK hP 0 rfl rfl 6 (by decide) (hg _ q131) (fun _ h9 => h9) rfl dX8_fits_1 ?_
  refine lv_iconst (v := (-1)) hx hb dX8_fits_4 (by decide) ?_
  have hPc := hP.sub (ws' := [(a7, .inr (4, [.ref d1, .ref d2, .ref d3, .ref d4, .int 0, .int ag]))]) [1] rfl
  have hKc := hK.sub (tys' := []) [] rfl
  refine va_calli (va_runV (As := [.int (-1)]) (rest := []) ⟨hx, hb, hml, hown, hts⟩ (k_X0_fitsWithout l G z a7 d1 d2 d3 d4 ag ((-1)) s.heap.size ) (cwV 1 hts (lw_goodApp (lw_4 q221 q222 q223 q6) q224) rfl rfl rfl (by decide +kernel) ⟨Nat.le_of_ble_eq_true rfl, Nat.le_of_ble_eq_true rfl⟩) ⟨PR.blind, va_recv hK hP (ci := 4) (q0 := 1) rfl rfl, PR.of hPc hKc hG hS hA [.ref a7, .int (-1)]⟩ rfl rfl hl.1 rfl (lv_room (Nat.le_of_ble_eq_true rfl)) dX8_fits_5 ⟨Nat.le_of_ble_eq_true rfl, Nat.le_of_ble_eq_true rfl⟩) hS (fun q h9 h => zN.not h9 h) (fun q h => hA q (Nat.le_trans hS.1 h)) (fun r_2 u t_4 H_1 locs ht hvm hw_3 hB hz1 hk1 hS => ?_)
  have hP := hP.grown hk1
  refine W.widen (k := 0) (n := 0) (Nat.le_of_ble_eq_true rfl) (Nat.le_of_ble_eq_true rfl) ?_
  obtain rfl : 1 = r_2 := hw_3.symm
  refine W.widen (k := 0) (n := 0) (Nat.le_of_ble_eq_true rfl) (Nat.le_of_ble_eq_true rfl) ?_
  exact W.zret (v := 1) hx hb hr rfl (fun t ht hW => ⟨⟨1, (), rfl, rfl, trivial⟩, hS.F ht⟩) hS.2.2 dX8_fits_8

abbrev wz_X8_culprit : List Cond := .code yX8_culprit cX8_culprit 2 (Option.some Jvm.ClassFile.FieldType.int) :: lw_good
set_option maxHeartbeats 4000000 in
set_option maxRecDepth 100000 in
/-- culprit: all fits -/
theorem k_X8_culprit (l : Launch) (hfl : l.stackTraces = false) (G : va_G) (z : Nat) (h0 : Nat) (a1 : Nat) (a2 : Nat) (a3 : Nat) (a4 : Nat) (a5 : Nat) (a6 : Nat) (a7 : Nat) (a8 : Nat) (tol : Int32) (sal : Int32) (d1 : Nat) (d2 : Nat) (d3 : Nat) (d4 : Nat) (ag : Int32) (sz : Nat)  : vx_Met l yX8_culprit wz_X8_culprit ({ frames := 6, cells := 1, slots := 6, locals := 82 }) (va_Pc [.ref h0] (PR G z [(h0, .inr (12, [.ref a1, .ref a2, .ref a3, .ref a4, .ref a5, .ref a6, .ref a7, .ref a8, .int tol, .int sal])), (a7, .inr (4, [.ref d1, .ref d2, .ref d3, .ref d4, .int 0, .int ag]))] [] sz)) (va_Qi (fun (r : Int32) (_ : Unit) => False) (fun (_ : Unit) (_ : State) => True) (zN sz)) (zX (True) "java/lang/UnsupportedOperationException" (zN sz)) 1 6 (zN sz) := by
  refine vx_ofW (cc := cX8_culprit) (maxL := 2) (ret := (Option.some Jvm.ClassFile.FieldType.int)) (by decide) rfl ?_
  intro p e s m args below meth c s₁ B hml htab hv
  obtain ⟨rfl, rfl, hP, hK, hG⟩ := hv
  have hx := B.exec
  have hb := B.bytes
  have hr := B.returns
  have hts := atoms_spec (ws := wz_X8_culprit) B.pre
  have hg : ∀ w ∈ lw_good, w.before _ s = true := fun w h => hts w (List.mem_cons_of_mem _ h)
  have hown : s.vm.findClass RX8 = some m.cls := findClass_of_methodNamed B.named
  have hlocks := B.notSynchronized
  have hA : ∀ q : Nat, s.heap.size ≤ q → zN s.heap.size q := fun _ h => h
  have hS : va_S (zN s.heap.size) s.heap s.heap [] := va_S.rf
  have hl := lv_entry ([.ref h0]) (n := 2) (Nat.le_of_ble_eq_true rfl)
  rw [lg_entry_eq]
  generalize (lg_sl ([.ref h0]) ++ List.replicate (2 - (lg_sl ([.ref h0])).length) Slot.unset).toArray = ls at hl ⊢
  have hl : lv_has ls 2 [(0, .ref h0)] := hl
  refine lv_aload_n hx hb dX8_culprit_0 rfl (lv_at hl 0 rfl) ?_
  refine va_get (D := G) (ci := 12) (v := .ref a7) (C := RX8) (T := TX8) (N := 10) hx hb hg in_X8 hown hK hP 0 rfl rfl 6 (by decide) (hg _ q131) (fun _ h9 => h9) rfl dX8_culprit_1 ?_
  refine lv_iconst (v := (-1)) hx hb dX8_culprit_4 (by decide) ?_
  have hPc := hP.sub (ws' := [(a7, .inr (4, [.ref d1, .ref d2, .ref d3, .ref d4, .int 0, .int ag]))]) [1] rfl
  have hKc := hK.sub (tys' := []) [] rfl
  refine va_calli (va_runV (As := [.int (-1)]) (rest := []) ⟨hx, hb, hml, hown, hts⟩ (k_X0_fitsWithout l G z a7 d1 d2 d3 d4 ag ((-1)) s.heap.size ) (cwV 1 hts (lw_goodApp (lw_4 q221 q222 q223 q6) q224) rfl rfl rfl (by decide +kernel) ⟨Nat.le_of_ble_eq_true rfl, Nat.le_of_ble_eq_true rfl⟩) ⟨PR.blind, va_recv hK hP (ci := 4) (q0 := 1) rfl rfl, PR.of hPc hKc hG hS hA [.ref a7, .int (-1)]⟩ rfl rfl hl.1 rfl (lv_room (Nat.le_of_ble_eq_true rfl)) dX8_culprit_5 ⟨Nat.le_of_ble_eq_true rfl, Nat.le_of_ble_eq_true rfl⟩) hS (fun q h9 h => zN.not h9 h) (fun q h => hA q (Nat.le_trans hS.1 h)) (fun r_2 u t_4 H_1 locs ht hvm hw_3 hB hz1 hk1 hS => ?_)
  have hP := hP.grown hk1
  refine W.widen (k := 0) (n := 0) (Nat.le_of_ble_eq_true rfl) (Nat.le_of_ble_eq_true rfl) ?_
  obtain rfl : 1 = r_2 := hw_3.symm
  refine lv_if_eq (tgt := 22) hx hb dX8_culprit_8 (by decide) (fun c_5 => absurd c_5 (by decide)) (fun c_5 => ?_)
  obtain ⟨sa9, hsa9⟩ := hG.2.2.2.2.2.1 _ _ _ qstr1130
  exact vx_throwSW (names := zNm) hx hb hfl hown (by decide +kernel) (by decide +kernel) (hg _ q572) (hg _ q24) hsa9 (zat_at zat_X8_98 hg hG.2.2.2.2.1) zgo_X8_98_94 hG.1 hG.2.1 hS (by rw [hml]; exact hl.1) dX8_culprit_11 dX8_culprit_14 dX8_culprit_15 dX8_culprit_18 dX8_culprit_21 (fun x9 h9 => (htab x9 h9).elim) (Nat.le_of_ble_eq_true rfl) (Nat.le_of_ble_eq_true rfl) (Nat.le_of_ble_eq_true rfl) (Nat.le_of_ble_eq_true rfl) hlocks (fun t9 _ h1 h2 => zX.grown trivial hS h1 h2) hS.2.2 (Nat.le_of_ble_eq_true rfl) (Nat.le_of_ble_eq_true rfl)

abbrev wz_X8_checkFits : List Cond := .code yX8_checkFits cX8_checkFits 2 none :: lw_good
set_option maxHeartbeats 4000000 in
set_option maxRecDepth 100000 in
/-- checkFits: no documents -/
theorem k_X8_checkFits (l : Launch) (hfl : l.stackTraces = false) (G : va_G) (z : Nat) (h0 : Nat) (a1 : Nat) (a2 : Nat) (a3 : Nat) (a4 : Nat) (a5 : Nat) (a6 : Nat) (a7 : Nat) (a8 : Nat) (tol : Int32) (sal : Int32) (d1 : Nat) (d2 : Nat) (d3 : Nat) (d4 : Nat) (ag : Int32) (p0 : Int32) (sz : Nat)  : vx_Met l yX8_checkFits wz_X8_checkFits ({ frames := 1, cells := 0, slots := 0, locals := 22 }) (va_Pc [.ref h0, .int p0] (PR G z [(h0, .inr (12, [.ref a1, .ref a2, .ref a3, .ref a4, .ref a5, .ref a6, .ref a7, .ref a8, .int tol, .int sal])), (a7, .inr (4, [.ref d1, .ref d2, .ref d3, .ref d4, .int 0, .int ag]))] [] sz)) (va_Qv (fun (_ : Unit) => True) (fun (_ : Unit) (_ : State) => True) (zN sz)) (zX (False) "java/lang/UnsupportedOperationException" (zN sz)) 0 0 (zN sz) := by
  refine vx_ofW (cc := cX8_checkFits) (maxL := 2) (ret := none) (by decide) rfl ?_
  intro p e s m args below meth c s₁ B hml htab hv
  obtain ⟨rfl, rfl, hP, hK, hG⟩ := hv
  have hx := B.exec
  have hb := B.bytes
  have hr := B.returns
  have hts := atoms_spec (ws := wz_X8_checkFits) B.pre
  have hg : ∀ w ∈ lw_good, w.before _ s = true := fun w h => hts w (List.mem_cons_of_mem _ h)
  have hown : s.vm.findClass RX8 = some m.cls := findClass_of_methodNamed B.named
  have hlocks := B.notSynchronized
  have hA : ∀ q : Nat, s.heap.size ≤ q → zN s.heap.size q := fun _ h => h
  have hS : va_S (zN s.heap.size) s.heap s.heap [] := va_S.rf
  have hl := lv_entry ([.ref h0, .int p0]) (n := 2) (Nat.le_of_ble_eq_true rfl)
  rw [lg_entry_eq]
  generalize (lg_sl ([.ref h0, .int p0]) ++ List.replicate (2 - (lg_sl ([.ref h0, .int p0])).length) Slot.unset).toArray = ls at hl ⊢
  have hl : lv_has ls 2 [(0, .ref h0), (1, .int p0)] := hl
  refine lv_aload_n hx hb dX8_checkFits_0 rfl (lv_at hl 0 rfl) ?_
  refine va_get (D := G) (ci := 12) (v := .ref a7) (C := RX8) (T := TX8) (N := 10) hx hb hg in_X8 hown hK hP 0 rfl rfl 6 (by decide) (hg _ q131) (fun _ h9 => h9) rfl dX8_checkFits_1 ?_
  refine lv_iload_n hx hb dX8_checkFits_4 rfl (lv_at hl 1 rfl) ?_
  have hPc := hP.sub (ws' := [(a7, .inr (4, [.ref d1, .ref d2, .ref d3, .ref d4, .int 0, .int ag]))]) [1] rfl
  have hKc := hK.sub (tys' := []) [] rfl
  refine va_calli (va_runV (As := [.int p0]) (rest := []) ⟨hx, hb, hml, hown, hts⟩ (k_X0_fitsWithout l G z a7 d1 d2 d3 d4 ag p0 s.heap.size ) (cwV 1 hts (lw_goodApp (lw_4 q221 q222 q223 q6) q224) rfl rfl rfl (by decide +kernel) ⟨Nat.le_of_ble_eq_true rfl, Nat.le_of_ble_eq_true rfl⟩) ⟨PR.blind, va_recv hK hP (ci := 4) (q0 := 1) rfl rfl, PR.of hPc hKc hG hS hA [.ref a7, .int p0]⟩ rfl rfl hl.1 rfl (lv_room (Nat.le_of_ble_eq_true rfl)) dX8_checkFits_5 ⟨Nat.le_of_ble_eq_true rfl, Nat.le_of_ble_eq_true rfl⟩) hS (fun q h9 h => zN.not h9 h) (fun q h => hA q (Nat.le_trans hS.1 h)) (fun r_2 u t_4 H_1 locs ht hvm hw_3 hB hz1 hk1 hS => ?_)
  have hP := hP.grown hk1
  refine W.widen (k := 0) (n := 0) (Nat.le_of_ble_eq_true rfl) (Nat.le_of_ble_eq_true rfl) ?_
  obtain rfl : 1 = r_2 := hw_3.symm
  refine lv_if_ne (tgt := 22) hx hb dX8_checkFits_8 (by decide) (fun c_5 => ?_) (fun c_5 => absurd c_5 (by decide))
  refine W.widen (k := 0) (n := 0) (Nat.le_of_ble_eq_true rfl) (Nat.le_of_ble_eq_true rfl) ?_
  refine vx_ret ?_
  exact W.vret hx hb hr (fun t ht hW => ⟨⟨(), rfl, trivial, trivial⟩, hS.F ht⟩) hS.2.2 dX8_checkFits_22

abbrev wz_X8_years : List Cond := .code yX8_years cX8_years 6 (Option.some Jvm.ClassFile.FieldType.long) :: lw_good
set_option maxHeartbeats 4000000 in
set_option maxRecDepth 100000 in
/-- years: no documents -/
theorem k_X8_years (l : Launch) (hfl : l.stackTraces = false) (G : va_G) (z : Nat) (h0 : Nat) (a1 : Nat) (a2 : Nat) (a3 : Nat) (a4 : Nat) (a5 : Nat) (a6 : Nat) (a7 : Nat) (a8 : Nat) (tol : Int32) (sal : Int32) (d1 : Nat) (d2 : Nat) (d3 : Nat) (d4 : Nat) (ag : Int32) (c0 : Int32) (e0 : Nat) (sz : Nat)  : vx_Met l yX8_years wz_X8_years ({ frames := 2, cells := 0, slots := 0, locals := 43 }) (va_Pc [.ref h0] (PR G z [(h0, .inr (12, [.ref a1, .ref a2, .ref a3, .ref a4, .ref a5, .ref a6, .ref a7, .ref a8, .int tol, .int sal])), (a7, .inr (4, [.ref d1, .ref d2, .ref d3, .ref d4, .int 0, .int ag])), (a4, .inr (3, [.int c0, .ref e0, .int 0]))] [] sz)) (va_Ql (fun (r : Int64) (_ : Unit) => r = 0) (fun (_ : Unit) (_ : State) => True) (zN sz)) (zX (False) "java/lang/UnsupportedOperationException" (zN sz)) 0 0 (zN sz) := by
  refine vx_ofW (cc := cX8_years) (maxL := 6) (ret := (Option.some Jvm.ClassFile.FieldType.long)) (by decide) rfl ?_
  intro p e s m args below meth c s₁ B hml htab hv
  obtain ⟨rfl, rfl, hP, hK, hG⟩ := hv
  have hx := B.exec
  have hb := B.bytes
  have hr := B.returns
  have hts := atoms_spec (ws := wz_X8_years) B.pre
  have hg : ∀ w ∈ lw_good, w.before _ s = true := fun w h => hts w (List.mem_cons_of_mem _ h)
  have hown : s.vm.findClass RX8 = some m.cls := findClass_of_methodNamed B.named
  have hlocks := B.notSynchronized
  have hA : ∀ q : Nat, s.heap.size ≤ q → zN s.heap.size q := fun _ h => h
  have hS : va_S (zN s.heap.size) s.heap s.heap [] := va_S.rf
  have hl := lv_entry ([.ref h0]) (n := 6) (Nat.le_of_ble_eq_true rfl)
  rw [lg_entry_eq]
  generalize (lg_sl ([.ref h0]) ++ List.replicate (6 - (lg_sl ([.ref h0])).length) Slot.unset).toArray = ls at hl ⊢
  have hl : lv_has ls 6 [(0, .ref h0)] := hl
  refine lv_aload_n hx hb dX8_years_0 rfl (lv_at hl 0 rfl) ?_
  refine lv_iconst (v := (-1)) hx hb dX8_years_1 (by decide) ?_
  have hPc := hP.sub (ws' := [(h0, .inr (12, [.ref a1, .ref a2, .ref a3, .ref a4, .ref a5, .ref a6, .ref a7, .ref a8, .int tol, .int sal])), (a7, .inr (4, [.ref d1, .ref d2, .ref d3, .ref d4, .int 0, .int ag]))]) [0, 1] rfl
  have hKc := hK.sub (tys' := []) [] rfl
  refine vx_callv (vx_runV (As := [.int (-1)]) (rest := []) ⟨hx, hb, hml, hown, hts⟩ (k_X8_checkFits l hfl G z h0 a1 a2 a3 a4 a5 a6 a7 a8 tol sal d1 d2 d3 d4 ag ((-1)) s.heap.size ) (cwV 1 hts (lw_goodApp (lw_4 q1110 q1112 qs22 q1) q1113) rfl rfl rfl (by decide +kernel) ⟨Nat.le_of_ble_eq_true rfl, Nat.le_of_ble_eq_true rfl⟩) ⟨PR.blind, va_recv hK hP (ci := 12) (q0 := 0) rfl rfl, PR.of hPc hKc hG hS hA [.ref h0, .int (-1)]⟩ rfl rfl hl.1 rfl (lv_room (Nat.le_of_ble_eq_true rfl)) dX8_years_2 ⟨Nat.le_of_ble_eq_true rfl, Nat.le_of_ble_eq_true rfl⟩) hS (fun q h9 h => zN.not h9 h) (fun q h => hA q (Nat.le_trans hS.1 h)) (fun q h9 h => zN.not h9 h) (fun E ce q9 ux t_4 H_1 locs ht hvm px_5 hE hz1 hk1 hS hq9 hv9 hcl9 => ?_) (fun u t_4 H_1 locs ht hvm hw_3 hB hz1 hk1 hS => ?_)
  · exact px_5.elim
  have hP := hP.grown hk1
  refine W.widen (k := 0) (n := 0) (Nat.le_of_ble_eq_true rfl) (Nat.le_of_ble_eq_true rfl) ?_
  refine lv_lconst (v := 0) hx hb dX8_years_5 (by decide) ?_
  refine lv_lstore_n (lv' := [(1, .long 0), (0, .ref h0)]) hx hb dX8_years_6 rfl hl (by decide) rfl (fun ls hl => ?_)
  refine lv_iconst (v := 0) hx hb dX8_years_7 (by decide) ?_
  refine lv_istore_n (lv' := [(3, .int 0), (1, .long 0), (0, .ref h0)]) hx hb dX8_years_8 rfl hl (by decide) rfl (fun ls hl => ?_)
  refine lv_iload_n hx hb dX8_years_9 rfl (lv_at hl 0 rfl) ?_
  refine lv_aload_n hx hb dX8_years_10 rfl (lv_at hl 2 rfl) ?_
  refine va_get (D := G) (ci := 12) (v := .ref a4) (C := RX8) (T := TX8) (N := 10) hx hb hg in_X8 hown hK hP 0 rfl rfl 3 (by decide) (hg _ q128) (fun _ h9 => h9) rfl dX8_years_11 ?_
  have hPc := hP.sub (ws' := [(a4, .inr (3, [.int c0, .ref e0, .int 0]))]) [2] rfl
  have hKc := hK.sub (tys' := []) [] rfl
  refine va_calli (va_runV (As := []) (rest := [.int 0]) ⟨hx, hb, hml, hown, hts⟩ (k_Jx4a65c_size_8abf5 l G z a4 c0 e0 0 H_1.size ) (cwV 0 hts (lw_goodApp (lw_4 q160 q161 q162 q4) q163) rfl rfl rfl (by decide +kernel) ⟨Nat.le_of_ble_eq_true rfl, Nat.le_of_ble_eq_true rfl⟩) ⟨PR.blind, va_recv hK hP (ci := 3) (q0 := 2) rfl rfl, PR.of hPc hKc hG hS hA [.ref a4]⟩ rfl rfl hl.1 rfl (lv_room (Nat.le_of_ble_eq_true rfl)) dX8_years_14 ⟨Nat.le_of_ble_eq_true rfl, Nat.le_of_ble_eq_true rfl⟩) hS (fun q h9 h => zN.not h9 h) (fun q h => hA q (Nat.le_trans hS.1 h)) (fun r_7 u t_9 H_6 locs ht hvm hw_8 hB hz1 hk1 hS => ?_)
  have hP := hP.grown hk1
  refine W.widen (k := 0) (n := 0) (Nat.le_of_ble_eq_true rfl) (Nat.le_of_ble_eq_true rfl) ?_
  obtain rfl : 0 = r_7 := hw_8.symm
  refine lv_icmp_ge (tgt := 61) hx hb dX8_years_17 (by decide) (fun c_10 => ?_) (fun c_10 => absurd (by decide) c_10)
  refine lv_lload_n hx hb dX8_years_61 rfl (lv_at hl 1 rfl) ?_
  refine W.widen (k := 0) (n := 0) (Nat.le_of_ble_eq_true rfl) (Nat.le_of_ble_eq_true rfl) ?_
  refine vx_ret ?_
  exact W.lret (v := 0) hx hb hr (fun t ht hW => ⟨⟨0, (), rfl, rfl, trivial⟩, hS.F ht⟩) hS.2.2 dX8_years_62

abbrev wz_X8_sheetsMade : List Cond := .code yX8_sheetsMade cX8_sheetsMade 3 (Option.some Jvm.ClassFile.FieldType.int) :: lw_good
set_option maxHeartbeats 4000000 in
set_option maxRecDepth 100000 in
/-- sheetsMade -/
theorem k_X8_sheetsMade (l : Launch) (G : va_G) (z : Nat) (h0 : Nat) (a1 : Nat) (a2 : Nat) (a3 : Nat) (a4 : Nat) (a5 : Nat) (a6 : Nat) (a7 : Nat) (a8 : Nat) (tol : Int32) (sal : Int32) (c0 : Int32) (e0 : Nat) (sz : Nat)  : Met l yX8_sheetsMade wz_X8_sheetsMade ({ frames := 1, cells := 0, slots := 0, locals := 20 }) (va_Pc [.ref h0] (PR G z [(h0, .inr (12, [.ref a1, .ref a2, .ref a3, .ref a4, .ref a5, .ref a6, .ref a7, .ref a8, .int tol, .int sal])), (a2, .inr (3, [.int c0, .ref e0, .int 0]))] [] sz)) (va_Qi (fun (r : Int32) (_ : Unit) => r = 0) (fun (_ : Unit) (_ : State) => True) (zN sz)) 0 0 (zN sz) := by
  refine Met.ofW (cc := cX8_sheetsMade) (maxL := 3) (ret := (Option.some Jvm.ClassFile.FieldType.int)) (by decide) rfl ?_
  intro p e s m args below meth c s₁ B hml hv
  obtain ⟨rfl, rfl, hP, hK, hG⟩ := hv
  have hx := B.exec
  have hb := B.bytes
  have hr := B.returns
  have hts := atoms_spec (ws := wz_X8_sheetsMade) B.pre
  have hg : ∀ w ∈ lw_good, w.before _ s = true := fun w h => hts w (List.mem_cons_of_mem _ h)
  have hown : s.vm.findClass RX8 = some m.cls := findClass_of_methodNamed B.named
  have hlocks := B.notSynchronized
  have hA : ∀ q : Nat, s.heap.size ≤ q → zN s.heap.size q := fun _ h => h
  have hS : va_S (zN s.heap.size) s.heap s.heap [] := va_S.rf
  have hl := lv_entry ([.ref h0]) (n := 3) (Nat.le_of_ble_eq_true rfl)
  rw [lg_entry_eq]
  generalize (lg_sl ([.ref h0]) ++ List.replicate (3 - (lg_sl ([.ref h0])).length) Slot.unset).toArray = ls at hl ⊢
  have hl : lv_has ls 3 [(0, .ref h0)] := hl
  refine lv_iconst (v := 0) hx hb dX8_sheetsMade_0 (by decide) ?_
  refine lv_istore_n (lv' := [(1, .int 0), (0, .ref h0)]) hx hb dX8_sheetsMade_1 rfl hl (by decide) rfl (fun ls hl => ?_)
  refine lv_iconst (v := 0) hx hb dX8_sheetsMade_2 (by decide) ?_
  refine lv_istore_n (lv' := [(2, .int 0), (1, .int 0), (0, .ref h0)]) hx hb dX8_sheetsMade_3 rfl hl (by decide) rfl (fun ls hl => ?_)
  refine lv_iload_n hx hb dX8_sheetsMade_4 rfl (lv_at hl 0 rfl) ?_
  refine lv_aload_n hx hb dX8_sheetsMade_5 rfl (lv_at hl 2 rfl) ?_
  refine va_get (D := G) (ci := 12) (v := .ref a2) (C := RX8) (T := TX8) (N := 10) hx hb hg in_X8 hown hK hP 0 rfl rfl 1 (by decide) (hg _ q126) (fun _ h9 => h9) rfl dX8_sheetsMade_6 ?_
  have hPc := hP.sub (ws' := [(a2, .inr (3, [.int c0, .ref e0, .int 0]))]) [1] rfl
  have hKc := hK.sub (tys' := []) [] rfl
  refine va_calli (va_runV (As := []) (rest := [.int 0]) ⟨hx, hb, hml, hown, hts⟩ (k_Jx4a65c_size_8abf5 l G z a2 c0 e0 0 s.heap.size ) (cwV 0 hts (lw_goodApp (lw_4 q160 q161 q162 q4) q163) rfl rfl rfl (by decide +kernel) ⟨Nat.le_of_ble_eq_true rfl, Nat.le_of_ble_eq_true rfl⟩) ⟨PR.blind, va_recv hK hP (ci := 3) (q0 := 1) rfl rfl, PR.of hPc hKc hG hS hA [.ref a2]⟩ rfl rfl hl.1 rfl (lv_room (Nat.le_of_ble_eq_true rfl)) dX8_sheetsMade_9 ⟨Nat.le_of_ble_eq_true rfl, Nat.le_of_ble_eq_true rfl⟩) hS (fun q h9 h => zN.not h9 h) (fun q h => hA q (Nat.le_trans hS.1 h)) (fun r_2 u t_4 H_1 locs ht hvm hw_3 hB hz1 hk1 hS => ?_)
  have hP := hP.grown hk1
  refine W.widen (k := 0) (n := 0) (Nat.le_of_ble_eq_true rfl) (Nat.le_of_ble_eq_true rfl) ?_
  obtain rfl : 0 = r_2 := hw_3.symm
  refine lv_icmp_ge (tgt := 38) hx hb dX8_sheetsMade_12 (by decide) (fun c_5 => ?_) (fun c_5 => absurd (by decide) c_5)
  refine lv_iload_n hx hb dX8_sheetsMade_38 rfl (lv_at hl 1 rfl) ?_
  refine W.widen (k := 0) (n := 0) (Nat.le_of_ble_eq_true rfl) (Nat.le_of_ble_eq_true rfl) ?_
  exact W.iret (v := 0) hx hb hr (fun t ht hW => ⟨⟨0, (), rfl, rfl, trivial⟩, hS.F ht⟩) hS.2.2 dX8_sheetsMade_39

abbrev wz_X8_sheetsInLots : List Cond := .code yX8_sheetsInLots cX8_sheetsInLots 3 (Option.some Jvm.ClassFile.FieldType.int) :: lw_good
set_option maxHeartbeats 4000000 in
set_option maxRecDepth 100000 in
/-- sheetsInLots -/
theorem k_X8_sheetsInLots (l : Launch) (G : va_G) (z : Nat) (h0 : Nat) (a1 : Nat) (a2 : Nat) (a3 : Nat) (a4 : Nat) (a5 : Nat) (a6 : Nat) (a7 : Nat) (a8 : Nat) (tol : Int32) (sal : Int32) (c0 : Int32) (e0 : Nat) (sz : Nat)  : Met l yX8_sheetsInLots wz_X8_sheetsInLots ({ frames := 1, cells := 0, slots := 0, locals := 20 }) (va_Pc [.ref h0] (PR G z [(h0, .inr (12, [.ref a1, .ref a2, .ref a3, .ref a4, .ref a5, .ref a6, .ref a7, .ref a8, .int tol, .int sal])), (a2, .inr (3, [.int c0, .ref e0, .int 0]))] [] sz)) (va_Qi (fun (r : Int32) (_ : Unit) => r = 0) (fun (_ : Unit) (_ : State) => True) (zN sz)) 0 0 (zN sz) := by
  refine Met.ofW (cc := cX8_sheetsInLots) (maxL := 3) (ret := (Option.some Jvm.ClassFile.FieldType.int)) (by decide) rfl ?_
  intro p e s m args below meth c s₁ B hml hv
  obtain ⟨rfl, rfl, hP, hK, hG⟩ := hv
  have hx := B.exec
  have hb := B.bytes
  have hr := B.returns
  have hts := atoms_spec (ws := wz_X8_sheetsInLots) B.pre
  have hg : ∀ w ∈ lw_good, w.before _ s = true := fun w h => hts w (List.mem_cons_of_mem _ h)
  have hown : s.vm.findClass RX8 = some m.cls := findClass_of_methodNamed B.named
  have hlocks := B.notSynchronized
  have hA : ∀ q : Nat, s.heap.size ≤ q → zN s.heap.size q := fun _ h => h
  have hS : va_S (zN s.heap.size) s.heap s.heap [] := va_S.rf
  have hl := lv_entry ([.ref h0]) (n := 3) (Nat.le_of_ble_eq_true rfl)
  rw [lg_entry_eq]
  generalize (lg_sl ([.ref h0]) ++ List.replicate (3 - (lg_sl ([.ref h0])).length) Slot.unset).toArray = ls at hl ⊢
  have hl : lv_has ls 3 [(0, .ref h0)] := hl
  refine lv_iconst (v := 0) hx hb dX8_sheetsInLots_0 (by decide) ?_
  refine lv_istore_n (lv' := [(1, .int 0), (0, .ref h0)]) hx hb dX8_sheetsInLots_1 rfl hl (by decide) rfl (fun ls hl => ?_)
  refine lv_iconst (v := 0) hx hb dX8_sheetsInLots_2 (by decide) ?_
  refine lv_istore_n (lv' := [(2, .int 0), (1, .int 0), (0, .ref h0)]) hx hb dX8_sheetsInLots_3 rfl hl (by decide) rfl (fun ls hl => ?_)
  refine lv_iload_n hx hb dX8_sheetsInLots_4 rfl (lv_at hl 0 rfl) ?_
  refine lv_aload_n hx hb dX8_sheetsInLots_5 rfl (lv_at hl 2 rfl) ?_
  refine va_get (D := G) (ci := 12) (v := .ref a2) (C := RX8) (T := TX8) (N := 10) hx hb hg in_X8 hown hK hP 0 rfl rfl 1 (by decide) (hg _ q126) (fun _ h9 => h9) rfl dX8_sheetsInLots_6 ?_
  have hPc := hP.sub (ws' := [(a2, .inr (3, [.int c0, .ref e0, .int 0]))]) [1] rfl
  have hKc := hK.sub (tys' := []) [] rfl
  refine va_calli (va_runV (As := []) (rest := [.int 0]) ⟨hx, hb, hml, hown, hts⟩ (k_Jx4a65c_size_8abf5 l G z a2 c0 e0 0 s.heap.size ) (cwV 0 hts (lw_goodApp (lw_4 q160 q161 q162 q4) q163) rfl rfl rfl (by decide +kernel) ⟨Nat.le_of_ble_eq_true rfl, Nat.le_of_ble_eq_true rfl⟩) ⟨PR.blind, va_recv hK hP (ci := 3) (q0 := 1) rfl rfl, PR.of hPc hKc hG hS hA [.ref a2]⟩ rfl rfl hl.1 rfl (lv_room (Nat.le_of_ble_eq_true rfl)) dX8_sheetsInLots_9 ⟨Nat.le_of_ble_eq_true rfl, Nat.le_of_ble_eq_true rfl⟩) hS (fun q h9 h => zN.not h9 h) (fun q h => hA q (Nat.le_trans hS.1 h)) (fun r_2 u t_4 H_1 locs ht hvm hw_3 hB hz1 hk1 hS => ?_)
  have hP := hP.grown hk1
  refine W.widen (k := 0) (n := 0) (Nat.le_of_ble_eq_true rfl) (Nat.le_of_ble_eq_true rfl) ?_
  obtain rfl : 0 = r_2 := hw_3.symm
  refine lv_icmp_ge (tgt := 38) hx hb dX8_sheetsInLots_12 (by decide) (fun c_5 => ?_) (fun c_5 => absurd (by decide) c_5)
  refine lv_iload_n hx hb dX8_sheetsInLots_38 rfl (lv_at hl 1 rfl) ?_
  refine W.widen (k := 0) (n := 0) (Nat.le_of_ble_eq_true rfl) (Nat.le_of_ble_eq_true rfl) ?_
  exact W.iret (v := 0) hx hb hr (fun t ht hW => ⟨⟨0, (), rfl, rfl, trivial⟩, hS.F ht⟩) hS.2.2 dX8_sheetsInLots_39

abbrev wz_X8_sheetsInReams : List Cond := .code yX8_sheetsInReams cX8_sheetsInReams 3 (Option.some Jvm.ClassFile.FieldType.int) :: lw_good
set_option maxHeartbeats 4000000 in
set_option maxRecDepth 100000 in
/-- sheetsInReams -/
theorem k_X8_sheetsInReams (l : Launch) (G : va_G) (z : Nat) (h0 : Nat) (a1 : Nat) (a2 : Nat) (a3 : Nat) (a4 : Nat) (a5 : Nat) (a6 : Nat) (a7 : Nat) (a8 : Nat) (tol : Int32) (sal : Int32) (c0 : Int32) (e0 : Nat) (sz : Nat)  : Met l yX8_sheetsInReams wz_X8_sheetsInReams ({ frames := 1, cells := 0, slots := 0, locals := 20 }) (va_Pc [.ref h0] (PR G z [(h0, .inr (12, [.ref a1, .ref a2, .ref a3, .ref a4, .ref a5, .ref a6, .ref a7, .ref a8, .int tol, .int sal])), (a3, .inr (3, [.int c0, .ref e0, .int 0]))] [] sz)) (va_Qi (fun (r : Int32) (_ : Unit) => r = 0) (fun (_ : Unit) (_ : State) => True) (zN sz)) 0 0 (zN sz) := by
  refine Met.ofW (cc := cX8_sheetsInReams) (maxL := 3) (ret := (Option.some Jvm.ClassFile.FieldType.int)) (by decide) rfl ?_
  intro p e s m args below meth c s₁ B hml hv
  obtain ⟨rfl, rfl, hP, hK, hG⟩ := hv
  have hx := B.exec
  have hb := B.bytes
  have hr := B.returns
  have hts := atoms_spec (ws := wz_X8_sheetsInReams) B.pre
  have hg : ∀ w ∈ lw_good, w.before _ s = true := fun w h => hts w (List.mem_cons_of_mem _ h)
  have hown : s.vm.findClass RX8 = some m.cls := findClass_of_methodNamed B.named
  have hlocks := B.notSynchronized
  have hA : ∀ q : Nat, s.heap.size ≤ q → zN s.heap.size q := fun _ h => h
  have hS : va_S (zN s.heap.size) s.heap s.heap [] := va_S.rf
  have hl := lv_entry ([.ref h0]) (n := 3) (Nat.le_of_ble_eq_true rfl)
  rw [lg_entry_eq]
  generalize (lg_sl ([.ref h0]) ++ List.replicate (3 - (lg_sl ([.ref h0])).length) Slot.unset).toArray = ls at hl ⊢
  have hl : lv_has ls 3 [(0, .ref h0)] := hl
  refine lv_iconst (v := 0) hx hb dX8_sheetsInReams_0 (by decide) ?_
  refine lv_istore_n (lv' := [(1, .int 0), (0, .ref h0)]) hx hb dX8_sheetsInReams_1 rfl hl (by decide) rfl (fun ls hl => ?_)
  refine lv_iconst (v := 0) hx hb dX8_sheetsInReams_2 (by decide) ?_
  refine lv_istore_n (lv' := [(2, .int 0), (1, .int 0), (0, .ref h0)]) hx hb dX8_sheetsInReams_3 rfl hl (by decide) rfl (fun ls hl => ?_)
  refine lv_iload_n hx hb dX8_sheetsInReams_4 rfl (lv_at hl 0 rfl) ?_
  refine lv_aload_n hx hb dX8_sheetsInReams_5 rfl (lv_at hl 2 rfl) ?_
  refine va_get (D := G) (ci := 12) (v := .ref a3) (C := RX8) (T := TX8) (N := 10) hx hb hg in_X8 hown hK hP 0 rfl rfl 2 (by decide) (hg _ q127) (fun _ h9 => h9) rfl dX8_sheetsInReams_6 ?_
  have hPc := hP.sub (ws' := [(a3, .inr (3, [.int c0, .ref e0, .int 0]))]) [1] rfl
  have hKc := hK.sub (tys' := []) [] rfl
  refine va_calli (va_runV (As := []) (rest := [.int 0]) ⟨hx, hb, hml, hown, hts⟩ (k_Jx4a65c_size_8abf5 l G z a3 c0 e0 0 s.heap.size ) (cwV 0 hts (lw_goodApp (lw_4 q160 q161 q162 q4) q163) rfl rfl rfl (by decide +kernel) ⟨Nat.le_of_ble_eq_true rfl, Nat.le_of_ble_eq_true rfl⟩) ⟨PR.blind, va_recv hK hP (ci := 3) (q0 := 1) rfl rfl, PR.of hPc hKc hG hS hA [.ref a3]⟩ rfl rfl hl.1 rfl (lv_room (Nat.le_of_ble_eq_true rfl)) dX8_sheetsInReams_9 ⟨Nat.le_of_ble_eq_true rfl, Nat.le_of_ble_eq_true rfl⟩) hS (fun q h9 h => zN.not h9 h) (fun q h => hA q (Nat.le_trans hS.1 h)) (fun r_2 u t_4 H_1 locs ht hvm hw_3 hB hz1 hk1 hS => ?_)
  have hP := hP.grown hk1
  refine W.widen (k := 0) (n := 0) (Nat.le_of_ble_eq_true rfl) (Nat.le_of_ble_eq_true rfl) ?_
  obtain rfl : 0 = r_2 := hw_3.symm
  refine lv_icmp_ge (tgt := 38) hx hb dX8_sheetsInReams_12 (by decide) (fun c_5 => ?_) (fun c_5 => absurd (by decide) c_5)
  refine lv_iload_n hx hb dX8_sheetsInReams_38 rfl (lv_at hl 1 rfl) ?_
  refine W.widen (k := 0) (n := 0) (Nat.le_of_ble_eq_true rfl) (Nat.le_of_ble_eq_true rfl) ?_
  exact W.iret (v := 0) hx hb hr (fun t ht hW => ⟨⟨0, (), rfl, rfl, trivial⟩, hS.F ht⟩) hS.2.2 dX8_sheetsInReams_39

abbrev wz_X8_sheetsInDocuments : List Cond := .code yX8_sheetsInDocuments cX8_sheetsInDocuments 3 (Option.some Jvm.ClassFile.FieldType.int) :: lw_good
set_option maxHeartbeats 4000000 in
set_option maxRecDepth 100000 in
/-- sheetsInDocuments -/
theorem k_X8_sheetsInDocuments (l : Launch) (G : va_G) (z : Nat) (h0 : Nat) (a1 : Nat) (a2 : Nat) (a3 : Nat) (a4 : Nat) (a5 : Nat) (a6 : Nat) (a7 : Nat) (a8 : Nat) (tol : Int32) (sal : Int32) (c0 : Int32) (e0 : Nat) (sz : Nat)  : Met l yX8_sheetsInDocuments wz_X8_sheetsInDocuments ({ frames := 1, cells := 0, slots := 0, locals := 20 }) (va_Pc [.ref h0] (PR G z [(h0, .inr (12, [.ref a1, .ref a2, .ref a3, .ref a4, .ref a5, .ref a6, .ref a7, .ref a8, .int tol, .int sal])), (a4, .inr (3, [.int c0, .ref e0, .int 0]))] [] sz)) (va_Qi (fun (r : Int32) (_ : Unit) => r = 0) (fun (_ : Unit) (_ : State) => True) (zN sz)) 0 0 (zN sz) := by
  refine Met.ofW (cc := cX8_sheetsInDocuments) (maxL := 3) (ret := (Option.some Jvm.ClassFile.FieldType.int)) (by decide) rfl ?_
  intro p e s m args below meth c s₁ B hml hv
  obtain ⟨rfl, rfl, hP, hK, hG⟩ := hv
  have hx := B.exec
  have hb := B.bytes
  have hr := B.returns
  have hts := atoms_spec (ws := wz_X8_sheetsInDocuments) B.pre
  have hg : ∀ w ∈ lw_good, w.before _ s = true := fun w h => hts w (List.mem_cons_of_mem _ h)
  have hown : s.vm.findClass RX8 = some m.cls := findClass_of_methodNamed B.named
  have hlocks := B.notSynchronized
  have hA : ∀ q : Nat, s.heap.size ≤ q → zN s.heap.size q := fun _ h => h
  have hS : va_S (zN s.heap.size) s.heap s.heap [] := va_S.rf
  have hl := lv_entry ([.ref h0]) (n := 3) (Nat.le_of_ble_eq_true rfl)
  rw [lg_entry_eq]
  generalize (lg_sl ([.ref h0]) ++ List.replicate (3 - (lg_sl ([.ref h0])).length) Slot.unset).toArray = ls at hl ⊢
  have hl : lv_has ls 3 [(0, .ref h0)] := hl
  refine lv_iconst (v := 0) hx hb dX8_sheetsInDocuments_0 (by decide) ?_
  refine lv_istore_n (lv' := [(1, .int 0), (0, .ref h0)]) hx hb dX8_sheetsInDocuments_1 rfl hl (by decide) rfl (fun ls hl => ?_)
  refine lv_iconst (v := 0) hx hb dX8_sheetsInDocuments_2 (by decide) ?_
  refine lv_istore_n (lv' := [(2, .int 0), (1, .int 0), (0, .ref h0)]) hx hb dX8_sheetsInDocuments_3 rfl hl (by decide) rfl (fun ls hl => ?_)
  refine lv_iload_n hx hb dX8_sheetsInDocuments_4 rfl (lv_at hl 0 rfl) ?_
  refine lv_aload_n hx hb dX8_sheetsInDocuments_5 rfl (lv_at hl 2 rfl) ?_
  refine va_get (D := G) (ci := 12) (v := .ref a4) (C := RX8) (T := TX8) (N := 10) hx hb hg in_X8 hown hK hP 0 rfl rfl 3 (by decide) (hg _ q128) (fun _ h9 => h9) rfl dX8_sheetsInDocuments_6 ?_
  have hPc := hP.sub (ws' := [(a4, .inr (3, [.int c0, .ref e0, .int 0]))]) [1] rfl
  have hKc := hK.sub (tys' := []) [] rfl
  refine va_calli (va_runV (As := []) (rest := [.int 0]) ⟨hx, hb, hml, hown, hts⟩ (k_Jx4a65c_size_8abf5 l G z a4 c0 e0 0 s.heap.size ) (cwV 0 hts (lw_goodApp (lw_4 q160 q161 q162 q4) q163) rfl rfl rfl (by decide +kernel) ⟨Nat.le_of_ble_eq_true rfl, Nat.le_of_ble_eq_true rfl⟩) ⟨PR.blind, va_recv hK hP (ci := 3) (q0 := 1) rfl rfl, PR.of hPc hKc hG hS hA [.ref a4]⟩ rfl rfl hl.1 rfl (lv_room (Nat.le_of_ble_eq_true rfl)) dX8_sheetsInDocuments_9 ⟨Nat.le_of_ble_eq_true rfl, Nat.le_of_ble_eq_true rfl⟩) hS (fun q h9 h => zN.not h9 h) (fun q h => hA q (Nat.le_trans hS.1 h)) (fun r_2 u t_4 H_1 locs ht hvm hw_3 hB hz1 hk1 hS => ?_)
  have hP := hP.grown hk1
  refine W.widen (k := 0) (n := 0) (Nat.le_of_ble_eq_true rfl) (Nat.le_of_ble_eq_true rfl) ?_
  obtain rfl : 0 = r_2 := hw_3.symm
  refine lv_icmp_ge (tgt := 38) hx hb dX8_sheetsInDocuments_12 (by decide) (fun c_5 => ?_) (fun c_5 => absurd (by decide) c_5)
  refine lv_iload_n hx hb dX8_sheetsInDocuments_38 rfl (lv_at hl 1 rfl) ?_
  refine W.widen (k := 0) (n := 0) (Nat.le_of_ble_eq_true rfl) (Nat.le_of_ble_eq_true rfl) ?_
  exact W.iret (v := 0) hx hb hr (fun t ht hW => ⟨⟨0, (), rfl, rfl, trivial⟩, hS.F ht⟩) hS.2.2 dX8_sheetsInDocuments_39

abbrev wz_X8_usedShare : List Cond := .code yX8_usedShare cX8_usedShare 2 (Option.some Jvm.ClassFile.FieldType.float) :: lw_good
set_option maxHeartbeats 4000000 in
set_option maxRecDepth 100000 in
/-- usedShare: none made -/
theorem k_X8_usedShare (l : Launch) (hfl : l.stackTraces = false) (G : va_G) (z : Nat) (h0 : Nat) (a1 : Nat) (a2 : Nat) (a3 : Nat) (a4 : Nat) (a5 : Nat) (a6 : Nat) (a7 : Nat) (a8 : Nat) (tol : Int32) (sal : Int32) (c0 : Int32) (e0 : Nat) (sz : Nat)  : vx_Met l yX8_usedShare wz_X8_usedShare ({ frames := 6, cells := 1, slots := 6, locals := 82 }) (va_Pc [.ref h0] (PR G z [(h0, .inr (12, [.ref a1, .ref a2, .ref a3, .ref a4, .ref a5, .ref a6, .ref a7, .ref a8, .int tol, .int sal])), (a2, .inr (3, [.int c0, .ref e0, .int 0]))] [] sz)) (va_Qf (fun (r : UInt32) (_ : Unit) => False) (fun (_ : Unit) (_ : State) => True) (zN sz)) (zX (True) "java/lang/ArithmeticException" (zN sz)) 1 6 (zN sz) := by
  refine vx_ofW (cc := cX8_usedShare) (maxL := 2) (ret := (Option.some Jvm.ClassFile.FieldType.float)) (by decide) rfl ?_
  intro p e s m args below meth c s₁ B hml htab hv
  obtain ⟨rfl, rfl, hP, hK, hG⟩ := hv
  have hx := B.exec
  have hb := B.bytes
  have hr := B.returns
  have hts := atoms_spec (ws := wz_X8_usedShare) B.pre
  have hg : ∀ w ∈ lw_good, w.before _ s = true := fun w h => hts w (List.mem_cons_of_mem _ h)
  have hown : s.vm.findClass RX8 = some m.cls := findClass_of_methodNamed B.named
  have hlocks := B.notSynchronized
  have hA : ∀ q : Nat, s.heap.size ≤ q → zN s.heap.size q := fun _ h => h
  have hS : va_S (zN s.heap.size) s.heap s.heap [] := va_S.rf
  have hl := lv_entry ([.ref h0]) (n := 2) (Nat.le_of_ble_eq_true rfl)
  rw [lg_entry_eq]
  generalize (lg_sl ([.ref h0]) ++ List.replicate (2 - (lg_sl ([.ref h0])).length) Slot.unset).toArray = ls at hl ⊢
  have hl : lv_has ls 2 [(0, .ref h0)] := hl
  refine lv_aload_n hx hb dX8_usedShare_0 rfl (lv_at hl 0 rfl) ?_
  have hPc := hP.sub (ws' := [(h0, .inr (12, [.ref a1, .ref a2, .ref a3, .ref a4, .ref a5, .ref a6, .ref a7, .ref a8, .int tol, .int sal])), (a2, .inr (3, [.int c0, .ref e0, .int 0]))]) [0, 1] rfl
  have hKc := hK.sub (tys' := []) [] rfl
  refine va_calli (va_runV (As := []) (rest := []) ⟨hx, hb, hml, hown, hts⟩ (k_X8_sheetsMade l G z h0 a1 a2 a3 a4 a5 a6 a7 a8 tol sal c0 e0 s.heap.size ) (cwV 0 hts (lw_goodApp (lw_4 q270 q272 qs6 q1) q273) rfl rfl rfl (by decide +kernel) ⟨Nat.le_of_ble_eq_true rfl, Nat.le_of_ble_eq_true rfl⟩) ⟨PR.blind, va_recv hK hP (ci := 12) (q0 := 0) rfl rfl, PR.of hPc hKc hG hS hA [.ref h0]⟩ rfl rfl hl.1 rfl (lv_room (Nat.le_of_ble_eq_true rfl)) dX8_usedShare_1 ⟨Nat.le_of_ble_eq_true rfl, Nat.le_of_ble_eq_true rfl⟩) hS (fun q h9 h => zN.not h9 h) (fun q h => hA q (Nat.le_trans hS.1 h)) (fun r_2 u t_4 H_1 locs ht hvm hw_3 hB hz1 hk1 hS => ?_)
  have hP := hP.grown hk1
  refine W.widen (k := 0) (n := 0) (Nat.le_of_ble_eq_true rfl) (Nat.le_of_ble_eq_true rfl) ?_
  obtain rfl : 0 = r_2 := hw_3.symm
  refine lv_istore_n (lv' := [(1, .int 0), (0, .ref h0)]) hx hb dX8_usedShare_4 rfl hl (by decide) rfl (fun ls hl => ?_)
  refine lv_iload_n hx hb dX8_usedShare_5 rfl (lv_at hl 0 rfl) ?_
  refine lv_if_ne (tgt := 20) hx hb dX8_usedShare_6 (by decide) (fun c_5 => absurd rfl c_5) (fun c_5 => ?_)
  obtain ⟨sa9, hsa9⟩ := hG.2.2.2.2.2.1 _ _ _ qstr1168
  exact vx_throwSW (names := zNm) hx hb hfl hown (by decide +kernel) (by decide +kernel) (hg _ q1167) (hg _ q36) hsa9 (zat_at zat_X8_365 hg hG.2.2.2.2.1) zgo_X8_365_361 hG.1 hG.2.1 hS (by rw [hml]; exact hl.1) dX8_usedShare_9 dX8_usedShare_12 dX8_usedShare_13 dX8_usedShare_16 dX8_usedShare_19 (fun x9 h9 => (htab x9 h9).elim) (Nat.le_of_ble_eq_true rfl) (Nat.le_of_ble_eq_true rfl) (Nat.le_of_ble_eq_true rfl) (Nat.le_of_ble_eq_true rfl) hlocks (fun t9 _ h1 h2 => zX.grown trivial hS h1 h2) hS.2.2 (Nat.le_of_ble_eq_true rfl) (Nat.le_of_ble_eq_true rfl)

abbrev wz_X8_meanAge : List Cond := .code yX8_meanAge cX8_meanAge 6 (Option.some Jvm.ClassFile.FieldType.double) :: lw_good
set_option maxHeartbeats 4000000 in
set_option maxRecDepth 100000 in
/-- meanAge: none used -/
theorem k_X8_meanAge (l : Launch) (hfl : l.stackTraces = false) (G : va_G) (z : Nat) (h0 : Nat) (a1 : Nat) (a2 : Nat) (a3 : Nat) (a4 : Nat) (a5 : Nat) (a6 : Nat) (a7 : Nat) (a8 : Nat) (tol : Int32) (sal : Int32) (c0 : Int32) (e0 : Nat) (sz : Nat)  : vx_Met l yX8_meanAge wz_X8_meanAge ({ frames := 6, cells := 1, slots := 6, locals := 82 }) (va_Pc [.ref h0] (PR G z [(h0, .inr (12, [.ref a1, .ref a2, .ref a3, .ref a4, .ref a5, .ref a6, .ref a7, .ref a8, .int tol, .int sal])), (a4, .inr (3, [.int c0, .ref e0, .int 0]))] [] sz)) (va_Qd (fun (r : UInt64) (_ : Unit) => False) (fun (_ : Unit) (_ : State) => True) (zN sz)) (zX (True) "java/util/NoSuchElementException" (zN sz)) 1 6 (zN sz) := by
  refine vx_ofW (cc := cX8_meanAge) (maxL := 6) (ret := (Option.some Jvm.ClassFile.FieldType.double)) (by decide) rfl ?_
  intro p e s m args below meth c s₁ B hml htab hv
  obtain ⟨rfl, rfl, hP, hK, hG⟩ := hv
  have hx := B.exec
  have hb := B.bytes
  have hr := B.returns
  have hts := atoms_spec (ws := wz_X8_meanAge) B.pre
  have hg : ∀ w ∈ lw_good, w.before _ s = true := fun w h => hts w (List.mem_cons_of_mem _ h)
  have hown : s.vm.findClass RX8 = some m.cls := findClass_of_methodNamed B.named
  have hlocks := B.notSynchronized
  have hA : ∀ q : Nat, s.heap.size ≤ q → zN s.heap.size q := fun _ h => h
  have hS : va_S (zN s.heap.size) s.heap s.heap [] := va_S.rf
  have hl := lv_entry ([.ref h0]) (n := 6) (Nat.le_of_ble_eq_true rfl)
  rw [lg_entry_eq]
  generalize (lg_sl ([.ref h0]) ++ List.replicate (6 - (lg_sl ([.ref h0])).length) Slot.unset).toArray = ls at hl ⊢
  have hl : lv_has ls 6 [(0, .ref h0)] := hl
  refine lv_aload_n hx hb dX8_meanAge_0 rfl (lv_at hl 0 rfl) ?_
  have hPc := hP.sub (ws' := [(h0, .inr (12, [.ref a1, .ref a2, .ref a3, .ref a4, .ref a5, .ref a6, .ref a7, .ref a8, .int tol, .int sal])), (a4, .inr (3, [.int c0, .ref e0, .int 0]))]) [0, 1] rfl
  have hKc := hK.sub (tys' := []) [] rfl
  refine va_calli (va_runV (As := []) (rest := []) ⟨hx, hb, hml, hown, hts⟩ (k_X8_sheetsInDocuments l G z h0 a1 a2 a3 a4 a5 a6 a7 a8 tol sal c0 e0 s.heap.size ) (cwV 0 hts (lw_goodApp (lw_4 q265 q267 qs5 q1) q268) rfl rfl rfl (by decide +kernel) ⟨Nat.le_of_ble_eq_true rfl, Nat.le_of_ble_eq_true rfl⟩) ⟨PR.blind, va_recv hK hP (ci := 12) (q0 := 0) rfl rfl, PR.of hPc hKc hG hS hA [.ref h0]⟩ rfl rfl hl.1 rfl (lv_room (Nat.le_of_ble_eq_true rfl)) dX8_meanAge_1 ⟨Nat.le_of_ble_eq_true rfl, Nat.le_of_ble_eq_true rfl⟩) hS (fun q h9 h => zN.not h9 h) (fun q h => hA q (Nat.le_trans hS.1 h)) (fun r_2 u t_4 H_1 locs ht hvm hw_3 hB hz1 hk1 hS => ?_)
  have hP := hP.grown hk1
  refine W.widen (k := 0) (n := 0) (Nat.le_of_ble_eq_true rfl) (Nat.le_of_ble_eq_true rfl) ?_
  obtain rfl : 0 = r_2 := hw_3.symm
  refine lv_istore_n (lv' := [(1, .int 0), (0, .ref h0)]) hx hb dX8_meanAge_4 rfl hl (by decide) rfl (fun ls hl => ?_)
  refine lv_iload_n hx hb dX8_meanAge_5 rfl (lv_at hl 0 rfl) ?_
  refine lv_if_ne (tgt := 20) hx hb dX8_meanAge_6 (by decide) (fun c_5 => absurd rfl c_5) (fun c_5 => ?_)
  obtain ⟨sa9, hsa9⟩ := hG.2.2.2.2.2.1 _ _ _ qstr1177
  exact z_throwSXW (names := zNm) hx hb hfl zrx_0 zrx_1 zrx_2 zrx_5 hown (by decide +kernel) (by decide +kernel) (hg _ q683) (hg _ q27) hsa9 (zatX_at zatX_NSE hg hG.2.2.2.2.1) zgoX_NSE hG.1 hG.2.1 hS (by rw [hml]; exact hl.1) dX8_meanAge_9 dX8_meanAge_12 dX8_meanAge_13 dX8_meanAge_16 dX8_meanAge_19 (fun x9 h9 => (htab x9 h9).elim) (Nat.le_of_ble_eq_true rfl) (Nat.le_of_ble_eq_true rfl) (Nat.le_of_ble_eq_true rfl) (Nat.le_of_ble_eq_true rfl) hlocks (fun t9 _ h1 h2 => zX.grown trivial hS h1 h2) hS.2.2 (Nat.le_of_ble_eq_true rfl) (Nat.le_of_ble_eq_true rfl)

abbrev wz_X8_isDamageKept : List Cond := .code yX8_isDamageKept cX8_isDamageKept 2 (Option.some Jvm.ClassFile.FieldType.boolean) :: lw_good
set_option maxHeartbeats 4000000 in
set_option maxRecDepth 100000 in
theorem k_X8_isDamageKept (l : Launch) (G : va_G) (z : Nat) (h0 : Nat) (a1 : Nat) (a2 : Nat) (a3 : Nat) (a4 : Nat) (a5 : Nat) (a6 : Nat) (a7 : Nat) (a8 : Nat) (tol : Int32) (sal : Int32) (c0 : Int32) (e0 : Nat) (sz : Nat)  : Met l yX8_isDamageKept wz_X8_isDamageKept ({ frames := 1, cells := 0, slots := 0, locals := 20 }) (va_Pc [.ref h0] (PR G z [(h0, .inr (12, [.ref a1, .ref a2, .ref a3, .ref a4, .ref a5, .ref a6, .ref a7, .ref a8, .int tol, .int sal])), (a1, .inr (3, [.int c0, .ref e0, .int 0]))] [] sz)) (va_Qi (fun (r : Int32) (_ : Unit) => r = 1) (fun (_ : Unit) (_ : State) => True) (zN sz)) 0 0 (zN sz) := by
  refine Met.ofW (cc := cX8_isDamageKept) (maxL := 2) (ret := (Option.some Jvm.ClassFile.FieldType.boolean)) (by decide) rfl ?_
  intro p e s m args below meth c s₁ B hml hv
  obtain ⟨rfl, rfl, hP, hK, hG⟩ := hv
  have hx := B.exec
  have hb := B.bytes
  have hr := B.returns
  have hts := atoms_spec (ws := wz_X8_isDamageKept) B.pre
  have hg : ∀ w ∈ lw_good, w.before _ s = true := fun w h => hts w (List.mem_cons_of_mem _ h)
  have hown : s.vm.findClass RX8 = some m.cls := findClass_of_methodNamed B.named
  have hlocks := B.notSynchronized
  have hA : ∀ q : Nat, s.heap.size ≤ q → zN s.heap.size q := fun _ h => h
  have hS : va_S (zN s.heap.size) s.heap s.heap [] := va_S.rf
  have hl := lv_entry ([.ref h0]) (n := 2) (Nat.le_of_ble_eq_true rfl)
  rw [lg_entry_eq]
  generalize (lg_sl ([.ref h0]) ++ List.replicate (2 - (lg_sl ([.ref h0])).length) Slot.unset).toArray = ls at hl ⊢
  have hl : lv_has ls 2 [(0, .ref h0)] := hl
  refine lv_iconst (v := 0) hx hb dX8_isDamageKept_0 (by decide) ?_
  refine lv_istore_n (lv' := [(1, .int 0), (0, .ref h0)]) hx hb dX8_isDamageKept_1 rfl hl (by decide) rfl (fun ls hl => ?_)
  refine lv_iload_n hx hb dX8_isDamageKept_2 rfl (lv_at hl 0 rfl) ?_
  refine lv_aload_n hx hb dX8_isDamageKept_3 rfl (lv_at hl 1 rfl) ?_
  refine va_get (D := G) (ci := 12) (v := .ref a1) (C := RX8) (T := TX8) (N := 10) hx hb hg in_X8 hown hK hP 0 rfl rfl 0 (by decide) (hg _ q125) (fun _ h9 => h9) rfl dX8_isDamageKept_4 ?_
  have hPc := hP.sub (ws' := [(a1, .inr (3, [.int c0, .ref e0, .int 0]))]) [1] rfl
  have hKc := hK.sub (tys' := []) [] rfl
  refine va_calli (va_runV (As := []) (rest := [.int 0]) ⟨hx, hb, hml, hown, hts⟩ (k_Jx4a65c_size_8abf5 l G z a1 c0 e0 0 s.heap.size ) (cwV 0 hts (lw_goodApp (lw_4 q160 q161 q162 q4) q163) rfl rfl rfl (by decide +kernel) ⟨Nat.le_of_ble_eq_true rfl, Nat.le_of_ble_eq_true rfl⟩) ⟨PR.blind, va_recv hK hP (ci := 3) (q0 := 1) rfl rfl, PR.of hPc hKc hG hS hA [.ref a1]⟩ rfl rfl hl.1 rfl (lv_room (Nat.le_of_ble_eq_true rfl)) dX8_isDamageKept_7 ⟨Nat.le_of_ble_eq_true rfl, Nat.le_of_ble_eq_true rfl⟩) hS (fun q h9 h => zN.not h9 h) (fun q h => hA q (Nat.le_trans hS.1 h)) (fun r_2 u t_4 H_1 locs ht hvm hw_3 hB hz1 hk1 hS => ?_)
  have hP := hP.grown hk1
  refine W.widen (k := 0) (n := 0) (Nat.le_of_ble_eq_true rfl) (Nat.le_of_ble_eq_true rfl) ?_
  obtain rfl : 0 = r_2 := hw_3.symm
  refine lv_icmp_ge (tgt := 38) hx hb dX8_isDamageKept_10 (by decide) (fun c_5 => ?_) (fun c_5 => absurd (by decide) c_5)
  refine lv_iconst (v := 1) hx hb dX8_isDamageKept_38 (by decide) ?_
  refine W.widen (k := 0) (n := 0) (Nat.le_of_ble_eq_true rfl) (Nat.le_of_ble_eq_true rfl) ?_
  exact W.zret (v := 1) hx hb hr rfl (fun t ht hW => ⟨⟨1, (), rfl, rfl, trivial⟩, hS.F ht⟩) hS.2.2 dX8_isDamageKept_39

abbrev wz_X8_isPaperInTime : List Cond := .code yX8_isPaperInTime cX8_isPaperInTime 4 (Option.some Jvm.ClassFile.FieldType.boolean) :: lw_good
set_option maxHeartbeats 4000000 in
set_option maxRecDepth 100000 in
theorem k_X8_isPaperInTime (l : Launch) (G : va_G) (z : Nat) (h0 : Nat) (a1 : Nat) (a2 : Nat) (a3 : Nat) (a4 : Nat) (a5 : Nat) (a6 : Nat) (a7 : Nat) (a8 : Nat) (tol : Int32) (sal : Int32) (c0 : Int32) (e0 : Nat) (sz : Nat)  : Met l yX8_isPaperInTime wz_X8_isPaperInTime ({ frames := 1, cells := 0, slots := 0, locals := 20 }) (va_Pc [.ref h0] (PR G z [(h0, .inr (12, [.ref a1, .ref a2, .ref a3, .ref a4, .ref a5, .ref a6, .ref a7, .ref a8, .int tol, .int sal])), (a4, .inr (3, [.int c0, .ref e0, .int 0]))] [] sz)) (va_Qi (fun (r : Int32) (_ : Unit) => r = 1) (fun (_ : Unit) (_ : State) => True) (zN sz)) 0 0 (zN sz) := by
  refine Met.ofW (cc := cX8_isPaperInTime) (maxL := 4) (ret := (Option.some Jvm.ClassFile.FieldType.boolean)) (by decide) rfl ?_
  intro p e s m args below meth c s₁ B hml hv
  obtain ⟨rfl, rfl, hP, hK, hG⟩ := hv
  have hx := B.exec
  have hb := B.bytes
  have hr := B.returns
  have hts := atoms_spec (ws := wz_X8_isPaperInTime) B.pre
  have hg : ∀ w ∈ lw_good, w.before _ s = true := fun w h => hts w (List.mem_cons_of_mem _ h)
  have hown : s.vm.findClass RX8 = some m.cls := findClass_of_methodNamed B.named
  have hlocks := B.notSynchronized
  have hA : ∀ q : Nat, s.heap.size ≤ q → zN s.heap.size q := fun _ h => h
  have hS : va_S (zN s.heap.size) s.heap s.heap [] := va_S.rf
  have hl := lv_entry ([.ref h0]) (n := 4) (Nat.le_of_ble_eq_true rfl)
  rw [lg_entry_eq]
  generalize (lg_sl ([.ref h0]) ++ List.replicate (4 - (lg_sl ([.ref h0])).length) Slot.unset).toArray = ls at hl ⊢
  have hl : lv_has ls 4 [(0, .ref h0)] := hl
  refine lv_iconst (v := 0) hx hb dX8_isPaperInTime_0 (by decide) ?_
  refine lv_istore_n (lv' := [(1, .int 0), (0, .ref h0)]) hx hb dX8_isPaperInTime_1 rfl hl (by decide) rfl (fun ls hl => ?_)
  refine lv_iload_n hx hb dX8_isPaperInTime_2 rfl (lv_at hl 0 rfl) ?_
  refine lv_aload_n hx hb dX8_isPaperInTime_3 rfl (lv_at hl 1 rfl) ?_
  refine va_get (D := G) (ci := 12) (v := .ref a4) (C := RX8) (T := TX8) (N := 10) hx hb hg in_X8 hown hK hP 0 rfl rfl 3 (by decide) (hg _ q128) (fun _ h9 => h9) rfl dX8_isPaperInTime_4 ?_
  have hPc := hP.sub (ws' := [(a4, .inr (3, [.int c0, .ref e0, .int 0]))]) [1] rfl
  have hKc := hK.sub (tys' := []) [] rfl
  refine va_calli (va_runV (As := []) (rest := [.int 0]) ⟨hx, hb, hml, hown, hts⟩ (k_Jx4a65c_size_8abf5 l G z a4 c0 e0 0 s.heap.size ) (cwV 0 hts (lw_goodApp (lw_4 q160 q161 q162 q4) q163) rfl rfl rfl (by decide +kernel) ⟨Nat.le_of_ble_eq_true rfl, Nat.le_of_ble_eq_true rfl⟩) ⟨PR.blind, va_recv hK hP (ci := 3) (q0 := 1) rfl rfl, PR.of hPc hKc hG hS hA [.ref a4]⟩ rfl rfl hl.1 rfl (lv_room (Nat.le_of_ble_eq_true rfl)) dX8_isPaperInTime_7 ⟨Nat.le_of_ble_eq_true rfl, Nat.le_of_ble_eq_true rfl⟩) hS (fun q h9 h => zN.not h9 h) (fun q h => hA q (Nat.le_trans hS.1 h)) (fun r_2 u t_4 H_1 locs ht hvm hw_3 hB hz1 hk1 hS => ?_)
  have hP := hP.grown hk1
  refine W.widen (k := 0) (n := 0) (Nat.le_of_ble_eq_true rfl) (Nat.le_of_ble_eq_true rfl) ?_
  obtain rfl : 0 = r_2 := hw_3.symm
  refine lv_icmp_ge (tgt := 65) hx hb dX8_isPaperInTime_10 (by decide) (fun c_5 => ?_) (fun c_5 => absurd (by decide) c_5)
  refine lv_iconst (v := 1) hx hb dX8_isPaperInTime_65 (by decide) ?_
  refine W.widen (k := 0) (n := 0) (Nat.le_of_ble_eq_true rfl) (Nat.le_of_ble_eq_true rfl) ?_
  exact W.zret (v := 1) hx hb hr rfl (fun t ht hW => ⟨⟨1, (), rfl, rfl, trivial⟩, hS.F ht⟩) hS.2.2 dX8_isPaperInTime_66

abbrev wz_X8_isDatedAsTold : List Cond := .code yX8_isDatedAsTold cX8_isDatedAsTold 3 (Option.some Jvm.ClassFile.FieldType.boolean) :: lw_good
set_option maxHeartbeats 4000000 in
set_option maxRecDepth 100000 in
theorem k_X8_isDatedAsTold (l : Launch) (G : va_G) (z : Nat) (h0 : Nat) (a1 : Nat) (a2 : Nat) (a3 : Nat) (a4 : Nat) (a5 : Nat) (a6 : Nat) (a7 : Nat) (a8 : Nat) (tol : Int32) (sal : Int32) (d1 : Nat) (d2 : Nat) (d3 : Nat) (d4 : Nat) (ag : Int32) (c0 : Int32) (e0 : Nat) (sz : Nat)  : Met l yX8_isDatedAsTold wz_X8_isDatedAsTold ({ frames := 1, cells := 0, slots := 0, locals := 22 }) (va_Pc [.ref h0] (PR G z [(h0, .inr (12, [.ref a1, .ref a2, .ref a3, .ref a4, .ref a5, .ref a6, .ref a7, .ref a8, .int tol, .int sal])), (a7, .inr (4, [.ref d1, .ref d2, .ref d3, .ref d4, .int 0, .int ag])), (a4, .inr (3, [.int c0, .ref e0, .int 0]))] [] sz)) (va_Qi (fun (r : Int32) (_ : Unit) => r = 1) (fun (_ : Unit) (_ : State) => True) (zN sz)) 0 0 (zN sz) := by
  refine Met.ofW (cc := cX8_isDatedAsTold) (maxL := 3) (ret := (Option.some Jvm.ClassFile.FieldType.boolean)) (by decide) rfl ?_
  intro p e s m args below meth c s₁ B hml hv
  obtain ⟨rfl, rfl, hP, hK, hG⟩ := hv
  have hx := B.exec
  have hb := B.bytes
  have hr := B.returns
  have hts := atoms_spec (ws := wz_X8_isDatedAsTold) B.pre
  have hg : ∀ w ∈ lw_good, w.before _ s = true := fun w h => hts w (List.mem_cons_of_mem _ h)
  have hown : s.vm.findClass RX8 = some m.cls := findClass_of_methodNamed B.named
  have hlocks := B.notSynchronized
  have hA : ∀ q : Nat, s.heap.size ≤ q → zN s.heap.size q := fun _ h => h
  have hS : va_S (zN s.heap.size) s.heap s.heap [] := va_S.rf
  have hl := lv_entry ([.ref h0]) (n := 3) (Nat.le_of_ble_eq_true rfl)
  rw [lg_entry_eq]
  generalize (lg_sl ([.ref h0]) ++ List.replicate (3 - (lg_sl ([.ref h0])).length) Slot.unset).toArray = ls at hl ⊢
  have hl : lv_has ls 3 [(0, .ref h0)] := hl
  refine lv_aload_n hx hb dX8_isDatedAsTold_0 rfl (lv_at hl 0 rfl) ?_
  refine va_get (D := G) (ci := 12) (v := .ref a7) (C := RX8) (T := TX8) (N := 10) hx hb hg in_X8 hown hK hP 0 rfl rfl 6 (by decide) (hg _ q131) (fun _ h9 => h9) rfl dX8_isDatedAsTold_1 ?_
  refine lv_iconst (v := (-1)) hx hb dX8_isDatedAsTold_4 (by decide) ?_
  have hPc := hP.sub (ws' := [(a7, .inr (4, [.ref d1, .ref d2, .ref d3, .ref d4, .int 0, .int ag]))]) [1] rfl
  have hKc := hK.sub (tys' := []) [] rfl
  refine va_calli (va_runV (As := [.int (-1)]) (rest := []) ⟨hx, hb, hml, hown, hts⟩ (k_X0_fitsWithout l G z a7 d1 d2 d3 d4 ag ((-1)) s.heap.size ) (cwV 1 hts (lw_goodApp (lw_4 q221 q222 q223 q6) q224) rfl rfl rfl (by decide +kernel) ⟨Nat.le_of_ble_eq_true rfl, Nat.le_of_ble_eq_true rfl⟩) ⟨PR.blind, va_recv hK hP (ci := 4) (q0 := 1) rfl rfl, PR.of hPc hKc hG hS hA [.ref a7, .int (-1)]⟩ rfl rfl hl.1 rfl (lv_room (Nat.le_of_ble_eq_true rfl)) dX8_isDatedAsTold_5 ⟨Nat.le_of_ble_eq_true rfl, Nat.le_of_ble_eq_true rfl⟩) hS (fun q h9 h => zN.not h9 h) (fun q h => hA q (Nat.le_trans hS.1 h)) (fun r_2 u t_4 H_1 locs ht hvm hw_3 hB hz1 hk1 hS => ?_)
  have hP := hP.grown hk1
  refine W.widen (k := 0) (n := 0) (Nat.le_of_ble_eq_true rfl) (Nat.le_of_ble_eq_true rfl) ?_
  obtain rfl : 1 = r_2 := hw_3.symm
  refine lv_if_ne (tgt := 13) hx hb dX8_isDatedAsTold_8 (by decide) (fun c_5 => ?_) (fun c_5 => absurd c_5 (by decide))
  refine lv_iconst (v := 0) hx hb dX8_isDatedAsTold_13 (by decide) ?_
  refine lv_istore_n (lv' := [(1, .int 0), (0, .ref h0)]) hx hb dX8_isDatedAsTold_14 rfl hl (by decide) rfl (fun ls hl => ?_)
  refine lv_iload_n hx hb dX8_isDatedAsTold_15 rfl (lv_at hl 0 rfl) ?_
  refine lv_aload_n hx hb dX8_isDatedAsTold_16 rfl (lv_at hl 1 rfl) ?_
  refine va_get (D := G) (ci := 12) (v := .ref a4) (C := RX8) (T := TX8) (N := 10) hx hb hg in_X8 hown hK hP 0 rfl rfl 3 (by decide) (hg _ q128) (fun _ h9 => h9) rfl dX8_isDatedAsTold_17 ?_
  have hPc := hP.sub (ws' := [(a4, .inr (3, [.int c0, .ref e0, .int 0]))]) [2] rfl
  have hKc := hK.sub (tys' := []) [] rfl
  refine va_calli (va_runV (As := []) (rest := [.int 0]) ⟨hx, hb, hml, hown, hts⟩ (k_Jx4a65c_size_8abf5 l G z a4 c0 e0 0 H_1.size ) (cwV 0 hts (lw_goodApp (lw_4 q160 q161 q162 q4) q163) rfl rfl rfl (by decide +kernel) ⟨Nat.le_of_ble_eq_true rfl, Nat.le_of_ble_eq_true rfl⟩) ⟨PR.blind, va_recv hK hP (ci := 3) (q0 := 2) rfl rfl, PR.of hPc hKc hG hS hA [.ref a4]⟩ rfl rfl hl.1 rfl (lv_room (Nat.le_of_ble_eq_true rfl)) dX8_isDatedAsTold_20 ⟨Nat.le_of_ble_eq_true rfl, Nat.le_of_ble_eq_true rfl⟩) hS (fun q h9 h => zN.not h9 h) (fun q h => hA q (Nat.le_trans hS.1 h)) (fun r_7 u t_9 H_6 locs ht hvm hw_8 hB hz1 hk1 hS => ?_)
  have hP := hP.grown hk1
  refine W.widen (k := 0) (n := 0) (Nat.le_of_ble_eq_true rfl) (Nat.le_of_ble_eq_true rfl) ?_
  obtain rfl : 0 = r_7 := hw_8.symm
  refine lv_icmp_ge (tgt := 76) hx hb dX8_isDatedAsTold_23 (by decide) (fun c_10 => ?_) (fun c_10 => absurd (by decide) c_10)
  refine lv_iconst (v := 1) hx hb dX8_isDatedAsTold_76 (by decide) ?_
  refine W.widen (k := 0) (n := 0) (Nat.le_of_ble_eq_true rfl) (Nat.le_of_ble_eq_true rfl) ?_
  exact W.zret (v := 1) hx hb hr rfl (fun t ht hW => ⟨⟨1, (), rfl, rfl, trivial⟩, hS.F ht⟩) hS.2.2 dX8_isDatedAsTold_77

abbrev wz_X8_isSound : List Cond := .code yX8_isSound cX8_isSound 1 (Option.some Jvm.ClassFile.FieldType.boolean) :: lw_good
set_option maxHeartbeats 4000000 in
set_option maxRecDepth 100000 in
/-- isSound -/
theorem k_X8_isSound (l : Launch) (G : va_G) (z : Nat) (h0 : Nat) (a1 : Nat) (a2 : Nat) (a3 : Nat) (a4 : Nat) (a5 : Nat) (a6 : Nat) (a7 : Nat) (a8 : Nat) (tol : Int32) (sal : Int32) (d1 : Nat) (d2 : Nat) (d3 : Nat) (d4 : Nat) (ag : Int32) (c1 : Int32) (e1 : Nat) (c2 : Int32) (e2 : Nat) (c3 : Int32) (e3 : Nat) (c4 : Int32) (e4 : Nat) (sz : Nat)  : Met l yX8_isSound wz_X8_isSound ({ frames := 2, cells := 0, slots := 0, locals := 44 }) (va_Pc [.ref h0] (PR G z [(h0, .inr (12, [.ref a1, .ref a2, .ref a3, .ref a4, .ref a5, .ref a6, .ref a7, .ref a8, .int tol, .int sal])), (a7, .inr (4, [.ref d1, .ref d2, .ref d3, .ref d4, .int 0, .int ag])), (a1, .inr (3, [.int c1, .ref e1, .int 0])), (a2, .inr (3, [.int c2, .ref e2, .int 0])), (a3, .inr (3, [.int c3, .ref e3, .int 0])), (a4, .inr (3, [.int c4, .ref e4, .int 0]))] [] sz)) (va_Qi (fun (r : Int32) (_ : Unit) => r = 1) (fun (_ : Unit) (_ : State) => True) (zN sz)) 0 0 (zN sz) := by
  refine Met.ofW (cc := cX8_isSound) (maxL := 1) (ret := (Option.some Jvm.ClassFile.FieldType.boolean)) (by decide) rfl ?_
  intro p e s m args below meth c s₁ B hml hv
  obtain ⟨rfl, rfl, hP, hK, hG⟩ := hv
  have hx := B.exec
  have hb := B.bytes
  have hr := B.returns
  have hts := atoms_spec (ws := wz_X8_isSound) B.pre
  have hg : ∀ w ∈ lw_good, w.before _ s = true := fun w h => hts w (List.mem_cons_of_mem _ h)
  have hown : s.vm.findClass RX8 = some m.cls := findClass_of_methodNamed B.named
  have hlocks := B.notSynchronized
  have hA : ∀ q : Nat, s.heap.size ≤ q → zN s.heap.size q := fun _ h => h
  have hS : va_S (zN s.heap.size) s.heap s.heap [] := va_S.rf
  have hl := lv_entry ([.ref h0]) (n := 1) (Nat.le_of_ble_eq_true rfl)
  rw [lg_entry_eq]
  generalize (lg_sl ([.ref h0]) ++ List.replicate (1 - (lg_sl ([.ref h0])).length) Slot.unset).toArray = ls at hl ⊢
  have hl : lv_has ls 1 [(0, .ref h0)] := hl
  refine lv_aload_n hx hb dX8_isSound_0 rfl (lv_at hl 0 rfl) ?_
  have hPc := hP.sub (ws' := [(h0, .inr (12, [.ref a1, .ref a2, .ref a3, .ref a4, .ref a5, .ref a6, .ref a7, .ref a8, .int tol, .int sal])), (a2, .inr (3, [.int c2, .ref e2, .int 0]))]) [0, 3] rfl
  have hKc := hK.sub (tys' := []) [] rfl
  refine va_calli (va_runV (As := []) (rest := []) ⟨hx, hb, hml, hown, hts⟩ (k_X8_sheetsInLots l G z h0 a1 a2 a3 a4 a5 a6 a7 a8 tol sal c2 e2 s.heap.size ) (cwV 0 hts (lw_goodApp (lw_4 q251 q253 qs3 q1) q254) rfl rfl rfl (by decide +kernel) ⟨Nat.le_of_ble_eq_true rfl, Nat.le_of_ble_eq_true rfl⟩) ⟨PR.blind, va_recv hK hP (ci := 12) (q0 := 0) rfl rfl, PR.of hPc hKc hG hS hA [.ref h0]⟩ rfl rfl hl.1 rfl (lv_room (Nat.le_of_ble_eq_true rfl)) dX8_isSound_1 ⟨Nat.le_of_ble_eq_true rfl, Nat.le_of_ble_eq_true rfl⟩) hS (fun q h9 h => zN.not h9 h) (fun q h => hA q (Nat.le_trans hS.1 h)) (fun r_2 u t_4 H_1 locs ht hvm hw_3 hB hz1 hk1 hS => ?_)
  have hP := hP.grown hk1
  refine W.widen (k := 0) (n := 0) (Nat.le_of_ble_eq_true rfl) (Nat.le_of_ble_eq_true rfl) ?_
  obtain rfl : 0 = r_2 := hw_3.symm
  refine lv_aload_n hx hb dX8_isSound_4 rfl (lv_at hl 0 rfl) ?_
  have hPc := hP.sub (ws' := [(h0, .inr (12, [.ref a1, .ref a2, .ref a3, .ref a4, .ref a5, .ref a6, .ref a7, .ref a8, .int tol, .int sal])), (a3, .inr (3, [.int c3, .ref e3, .int 0]))]) [0, 4] rfl
  have hKc := hK.sub (tys' := []) [] rfl
  refine va_calli (va_runV (As := []) (rest := [.int 0]) ⟨hx, hb, hml, hown, hts⟩ (k_X8_sheetsInReams l G z h0 a1 a2 a3 a4 a5 a6 a7 a8 tol sal c3 e3 H_1.size ) (cwV 0 hts (lw_goodApp (lw_4 q260 q262 qs4 q1) q263) rfl rfl rfl (by decide +kernel) ⟨Nat.le_of_ble_eq_true rfl, Nat.le_of_ble_eq_true rfl⟩) ⟨PR.blind, va_recv hK hP (ci := 12) (q0 := 0) rfl rfl, PR.of hPc hKc hG hS hA [.ref h0]⟩ rfl rfl hl.1 rfl (lv_room (Nat.le_of_ble_eq_true rfl)) dX8_isSound_5 ⟨Nat.le_of_ble_eq_true rfl, Nat.le_of_ble_eq_true rfl⟩) hS (fun q h9 h => zN.not h9 h) (fun q h => hA q (Nat.le_trans hS.1 h)) (fun r_6 u t_8 H_5 locs ht hvm hw_7 hB hz1 hk1 hS => ?_)
  have hP := hP.grown hk1
  refine W.widen (k := 0) (n := 0) (Nat.le_of_ble_eq_true rfl) (Nat.le_of_ble_eq_true rfl) ?_
  obtain rfl : 0 = r_6 := hw_7.symm
  refine lv_iadd hx hb dX8_isSound_8 ?_
  refine lv_topi (fun f_9 ef_9 => ?_)
  obtain rfl : f_9 = 0 := ef_9.trans (by decide)
  refine lv_aload_n hx hb dX8_isSound_9 rfl (lv_at hl 0 rfl) ?_
  have hPc := hP.sub (ws' := [(h0, .inr (12, [.ref a1, .ref a2, .ref a3, .ref a4, .ref a5, .ref a6, .ref a7, .ref a8, .int tol, .int sal])), (a4, .inr (3, [.int c4, .ref e4, .int 0]))]) [0, 5] rfl
  have hKc := hK.sub (tys' := []) [] rfl
  refine va_calli (va_runV (As := []) (rest := [.int 0]) ⟨hx, hb, hml, hown, hts⟩ (k_X8_sheetsInDocuments l G z h0 a1 a2 a3 a4 a5 a6 a7 a8 tol sal c4 e4 H_5.size ) (cwV 0 hts (lw_goodApp (lw_4 q265 q267 qs5 q1) q268) rfl rfl rfl (by decide +kernel) ⟨Nat.le_of_ble_eq_true rfl, Nat.le_of_ble_eq_true rfl⟩) ⟨PR.blind, va_recv hK hP (ci := 12) (q0 := 0) rfl rfl, PR.of hPc hKc hG hS hA [.ref h0]⟩ rfl rfl hl.1 rfl (lv_room (Nat.le_of_ble_eq_true rfl)) dX8_isSound_10 ⟨Nat.le_of_ble_eq_true rfl, Nat.le_of_ble_eq_true rfl⟩) hS (fun q h9 h => zN.not h9 h) (fun q h => hA q (Nat.le_trans hS.1 h)) (fun r_11 u t_13 H_10 locs ht hvm hw_12 hB hz1 hk1 hS => ?_)
  have hP := hP.grown hk1
  refine W.widen (k := 0) (n := 0) (Nat.le_of_ble_eq_true rfl) (Nat.le_of_ble_eq_true rfl) ?_
  obtain rfl : 0 = r_11 := hw_12.symm
  refine lv_iadd hx hb dX8_isSound_13 ?_
  refine lv_topi (fun f_14 ef_14 => ?_)
  obtain rfl : f_14 = 0 := ef_14.trans (by decide)
  refine lv_aload_n hx hb dX8_isSound_14 rfl (lv_at hl 0 rfl) ?_
  have hPc := hP.sub (ws' := [(h0, .inr (12, [.ref a1, .ref a2, .ref a3, .ref a4, .ref a5, .ref a6, .ref a7, .ref a8, .int tol, .int sal])), (a2, .inr (3, [.int c2, .ref e2, .int 0]))]) [0, 3] rfl
  have hKc := hK.sub (tys' := []) [] rfl
  refine va_calli (va_runV (As := []) (rest := [.int 0]) ⟨hx, hb, hml, hown, hts⟩ (k_X8_sheetsMade l G z h0 a1 a2 a3 a4 a5 a6 a7 a8 tol sal c2 e2 H_10.size ) (cwV 0 hts (lw_goodApp (lw_4 q270 q272 qs6 q1) q273) rfl rfl rfl (by decide +kernel) ⟨Nat.le_of_ble_eq_true rfl, Nat.le_of_ble_eq_true rfl⟩) ⟨PR.blind, va_recv hK hP (ci := 12) (q0 := 0) rfl rfl, PR.of hPc hKc hG hS hA [.ref h0]⟩ rfl rfl hl.1 rfl (lv_room (Nat.le_of_ble_eq_true rfl)) dX8_isSound_15 ⟨Nat.le_of_ble_eq_true rfl, Nat.le_of_ble_eq_true rfl⟩) hS (fun q h9 h => zN.not h9 h) (fun q h => hA q (Nat.le_trans hS.1 h)) (fun r_16 u t_18 H_15 locs ht hvm hw_17 hB hz1 hk1 hS => ?_)
  have hP := hP.grown hk1
  refine W.widen (k := 0) (n := 0) (Nat.le_of_ble_eq_true rfl) (Nat.le_of_ble_eq_true rfl) ?_
  obtain rfl : 0 = r_16 := hw_17.symm
  refine lv_icmp_ne (tgt := 46) hx hb dX8_isSound_18 (by decide) (fun c_19 => absurd rfl c_19) (fun c_19 => ?_)
  refine lv_aload_n hx hb dX8_isSound_21 rfl (lv_at hl 0 rfl) ?_
  have hPc := hP.sub (ws' := [(h0, .inr (12, [.ref a1, .ref a2, .ref a3, .ref a4, .ref a5, .ref a6, .ref a7, .ref a8, .int tol, .int sal])), (a1, .inr (3, [.int c1, .ref e1, .int 0]))]) [0, 2] rfl
  have hKc := hK.sub (tys' := []) [] rfl
  refine va_calli (va_runV (As := []) (rest := []) ⟨hx, hb, hml, hown, hts⟩ (k_X8_isDamageKept l G z h0 a1 a2 a3 a4 a5 a6 a7 a8 tol sal c1 e1 H_15.size ) (cwV 0 hts (lw_goodApp (lw_4 q274 q276 qs7 q1) q277) rfl rfl rfl (by decide +kernel) ⟨Nat.le_of_ble_eq_true rfl, Nat.le_of_ble_eq_true rfl⟩) ⟨PR.blind, va_recv hK hP (ci := 12) (q0 := 0) rfl rfl, PR.of hPc hKc hG hS hA [.ref h0]⟩ rfl rfl hl.1 rfl (lv_room (Nat.le_of_ble_eq_true rfl)) dX8_isSound_22 ⟨Nat.le_of_ble_eq_true rfl, Nat.le_of_ble_eq_true rfl⟩) hS (fun q h9 h => zN.not h9 h) (fun q h => hA q (Nat.le_trans hS.1 h)) (fun r_21 u t_23 H_20 locs ht hvm hw_22 hB hz1 hk1 hS => ?_)
  have hP := hP.grown hk1
  refine W.widen (k := 0) (n := 0) (Nat.le_of_ble_eq_true rfl) (Nat.le_of_ble_eq_true rfl) ?_
  obtain rfl : 1 = r_21 := hw_22.symm
  refine lv_if_eq (tgt := 46) hx hb dX8_isSound_25 (by decide) (fun c_24 => absurd c_24 (by decide)) (fun c_24 => ?_)
  refine lv_aload_n hx hb dX8_isSound_28 rfl (lv_at hl 0 rfl) ?_
  have hPc := hP.sub (ws' := [(h0, .inr (12, [.ref a1, .ref a2, .ref a3, .ref a4, .ref a5, .ref a6, .ref a7, .ref a8, .int tol, .int sal])), (a4, .inr (3, [.int c4, .ref e4, .int 0]))]) [0, 5] rfl
  have hKc := hK.sub (tys' := []) [] rfl
  refine va_calli (va_runV (As := []) (rest := []) ⟨hx, hb, hml, hown, hts⟩ (k_X8_isPaperInTime l G z h0 a1 a2 a3 a4 a5 a6 a7 a8 tol sal c4 e4 H_20.size ) (cwV 0 hts (lw_goodApp (lw_4 q287 q289 qs8 q1) q290) rfl rfl rfl (by decide +kernel) ⟨Nat.le_of_ble_eq_true rfl, Nat.le_of_ble_eq_true rfl⟩) ⟨PR.blind, va_recv hK hP (ci := 12) (q0 := 0) rfl rfl, PR.of hPc hKc hG hS hA [.ref h0]⟩ rfl rfl hl.1 rfl (lv_room (Nat.le_of_ble_eq_true rfl)) dX8_isSound_29 ⟨Nat.le_of_ble_eq_true rfl, Nat.le_of_ble_eq_true rfl⟩) hS (fun q h9 h => zN.not h9 h) (fun q h => hA q (Nat.le_trans hS.1 h)) (fun r_26 u t_28 H_25 locs ht hvm hw_27 hB hz1 hk1 hS => ?_)
  have hP := hP.grown hk1
  refine W.widen (k := 0) (n := 0) (Nat.le_of_ble_eq_true rfl) (Nat.le_of_ble_eq_true rfl) ?_
  obtain rfl : 1 = r_26 := hw_27.symm
  refine lv_if_eq (tgt := 46) hx hb dX8_isSound_32 (by decide) (fun c_29 => absurd c_29 (by decide)) (fun c_29 => ?_)
  refine lv_aload_n hx hb dX8_isSound_35 rfl (lv_at hl 0 rfl) ?_
  have hPc := hP.sub (ws' := [(h0, .inr (12, [.ref a1, .ref a2, .ref a3, .ref a4, .ref a5, .ref a6, .ref a7, .ref a8, .int tol, .int sal])), (a7, .inr (4, [.ref d1, .ref d2, .ref d3, .ref d4, .int 0, .int ag])), (a4, .inr (3, [.int c4, .ref e4, .int 0]))]) [0, 1, 5] rfl
  have hKc := hK.sub (tys' := []) [] rfl
  refine va_calli (va_runV (As := []) (rest := []) ⟨hx, hb, hml, hown, hts⟩ (k_X8_isDatedAsTold l G z h0 a1 a2 a3 a4 a5 a6 a7 a8 tol sal d1 d2 d3 d4 ag c4 e4 H_25.size ) (cwV 0 hts (lw_goodApp (lw_4 q294 q296 qs9 q1) q297) rfl rfl rfl (by decide +kernel) ⟨Nat.le_of_ble_eq_true rfl, Nat.le_of_ble_eq_true rfl⟩) ⟨PR.blind, va_recv hK hP (ci := 12) (q0 := 0) rfl rfl, PR.of hPc hKc hG hS hA [.ref h0]⟩ rfl rfl hl.1 rfl (lv_room (Nat.le_of_ble_eq_true rfl)) dX8_isSound_36 ⟨Nat.le_of_ble_eq_true rfl, Nat.le_of_ble_eq_true rfl⟩) hS (fun q h9 h => zN.not h9 h) (fun q h => hA q (Nat.le_trans hS.1 h)) (fun r_31 u t_33 H_30 locs ht hvm hw_32 hB hz1 hk1 hS => ?_)
  have hP := hP.grown hk1
  refine W.widen (k := 0) (n := 0) (Nat.le_of_ble_eq_true rfl) (Nat.le_of_ble_eq_true rfl) ?_
  obtain rfl : 1 = r_31 := hw_32.symm
  refine lv_if_eq (tgt := 46) hx hb dX8_isSound_39 (by decide) (fun c_34 => absurd c_34 (by decide)) (fun c_34 => ?_)
  refine lv_iconst (v := 1) hx hb dX8_isSound_42 (by decide) ?_
  refine lv_goto (tgt := 47) hx hb dX8_isSound_43 (by decide) ?_
  refine W.widen (k := 0) (n := 0) (Nat.le_of_ble_eq_true rfl) (Nat.le_of_ble_eq_true rfl) ?_
  exact W.zret (v := 1) hx hb hr rfl (fun t ht hW => ⟨⟨1, (), rfl, rfl, trivial⟩, hS.F ht⟩) hS.2.2 dX8_isSound_47

abbrev wz_X8_unmerge : List Cond := .code yX8_unmerge cX8_unmerge 1 (Option.some Jvm.ClassFile.FieldType.int) :: lw_good
set_option maxHeartbeats 4000000 in
set_option maxRecDepth 100000 in
/-- unmerge: none left -/
theorem k_X8_unmerge (l : Launch) (hfl : l.stackTraces = false) (G : va_G) (z : Nat) (h0 : Nat) (a1 : Nat) (a2 : Nat) (a3 : Nat) (a4 : Nat) (a5 : Nat) (a6 : Nat) (a7 : Nat) (a8 : Nat) (tol : Int32) (sal : Int32) (b1 : Nat) (b2 : Nat) (b3 : Nat) (sz : Nat)  : vx_Met l yX8_unmerge wz_X8_unmerge ({ frames := 6, cells := 1, slots := 6, locals := 82 }) (va_Pc [.ref h0] (PR G z [(h0, .inr (12, [.ref a1, .ref a2, .ref a3, .ref a4, .ref a5, .ref a6, .ref a7, .ref a8, .int tol, .int sal])), (a6, .inr (10, [.ref b1, .ref b2, .ref b3, .int 0]))] [] sz)) (va_Qi (fun (r : Int32) (_ : Unit) => False) (fun (_ : Unit) (_ : State) => True) (zN sz)) (zX (True) "java/util/NoSuchElementException" (zN sz)) 1 6 (zN sz) := by
  refine vx_ofW (cc := cX8_unmerge) (maxL := 1) (ret := (Option.some Jvm.ClassFile.FieldType.int)) (by decide) rfl ?_
  intro p e s m args below meth c s₁ B hml htab hv
  obtain ⟨rfl, rfl, hP, hK, hG⟩ := hv
  have hx := B.exec
  have hb := B.bytes
  have hr := B.returns
  have hts := atoms_spec (ws := wz_X8_unmerge) B.pre
  have hg : ∀ w ∈ lw_good, w.before _ s = true := fun w h => hts w (List.mem_cons_of_mem _ h)
  have hown : s.vm.findClass RX8 = some m.cls := findClass_of_methodNamed B.named
  have hlocks := B.notSynchronized
  have hA : ∀ q : Nat, s.heap.size ≤ q → zN s.heap.size q := fun _ h => h
  have hS : va_S (zN s.heap.size) s.heap s.heap [] := va_S.rf
  have hl := lv_entry ([.ref h0]) (n := 1) (Nat.le_of_ble_eq_true rfl)
  rw [lg_entry_eq]
  generalize (lg_sl ([.ref h0]) ++ List.replicate (1 - (lg_sl ([.ref h0])).length) Slot.unset).toArray = ls at hl ⊢
  have hl : lv_has ls 1 [(0, .ref h0)] := hl
  refine lv_aload_n hx hb dX8_unmerge_0 rfl (lv_at hl 0 rfl) ?_
  refine va_get (D := G) (ci := 12) (v := .ref a6) (C := RX8) (T := TX8) (N := 10) hx hb hg in_X8 hown hK hP 0 rfl rfl 5 (by decide) (hg _ q130) (fun _ h9 => h9) rfl dX8_unmerge_1 ?_
  refine va_get (D := G) (ci := 10) (v := .int 0) (C := RX6) (T := TX6) (N := 4) hx hb hg in_X6 hown hK hP 1 rfl rfl 3 (by decide) (hg _ q84) (fun _ h9 => h9) rfl dX8_unmerge_4 ?_
  refine lv_if_ne (tgt := 21) hx hb dX8_unmerge_7 (by decide) (fun c_1 => absurd rfl c_1) (fun c_1 => ?_)
  obtain ⟨sa9, hsa9⟩ := hG.2.2.2.2.2.1 _ _ _ qstr1048
  exact z_throwSXW (names := zNm) hx hb hfl zrx_0 zrx_1 zrx_2 zrx_5 hown (by decide +kernel) (by decide +kernel) (hg _ q683) (hg _ q27) hsa9 (zatX_at zatX_NSE hg hG.2.2.2.2.1) zgoX_NSE hG.1 hG.2.1 hS (by rw [hml]; exact hl.1) dX8_unmerge_10 dX8_unmerge_13 dX8_unmerge_14 dX8_unmerge_17 dX8_unmerge_20 (fun x9 h9 => (htab x9 h9).elim) (Nat.le_of_ble_eq_true rfl) (Nat.le_of_ble_eq_true rfl) (Nat.le_of_ble_eq_true rfl) (Nat.le_of_ble_eq_true rfl) hlocks (fun t9 _ h1 h2 => zX.grown trivial hS h1 h2) hS.2.2 (Nat.le_of_ble_eq_true rfl) (Nat.le_of_ble_eq_true rfl)
