theorem in_X11 : ∀ w ∈ u_ws RX11 TX11 9, w ∈ lw_good := by decide +kernel
theorem in_X12 : ∀ w ∈ u_ws RX12 TX12 2, w ∈ lw_good := by decide +kernel
theorem in_X9 : ∀ w ∈ u_ws RX9 TX9 6, w ∈ lw_good := by decide +kernel
theorem q1193 : Cond.fieldLink "WatermarkmillModel" 28 "WatermarkmillModel" "merges" "Ljava/util/ArrayList;" ∈ lw_good := lw_in (i := 1193) (by decide +kernel) (by decide +kernel)
theorem q1194 : Cond.fieldLink "WatermarkmillModel" 153 "WatermarkmillModel" "made" "I" ∈ lw_good := lw_in (i := 1194) (by decide +kernel) (by decide +kernel)
theorem q1195 : Cond.fieldLink "WatermarkmillModel" 31 "WatermarkmillModel" "tolerance" "I" ∈ lw_good := lw_in (i := 1195) (by decide +kernel) (by decide +kernel)
theorem q1196 : Cond.fieldLink "WatermarkmillModel" 35 "WatermarkmillModel" "age" "I" ∈ lw_good := lw_in (i := 1196) (by decide +kernel) (by decide +kernel)
theorem q1243 : Cond.code yX14_mould prog_11_method_10_code 9 (Option.some Jvm.ClassFile.FieldType.int) ∈ lw_good := lw_in (i := 1243) (by decide +kernel) (by decide +kernel)
theorem q1252 : Cond.classLink "WatermarkmillModel" 80 "WatermarkmillModel$Mould" ∈ lw_good := lw_in (i := 1252) (by decide +kernel) (by decide +kernel)
theorem q1253 : Cond.instantiable "WatermarkmillModel$Mould" 9 ∈ lw_good := lw_in (i := 1253) (by decide +kernel) (by decide +kernel)
theorem q1254 : Cond.methodLink "WatermarkmillModel" 82 yX11_init ∈ lw_good := lw_in (i := 1254) (by decide +kernel) (by decide +kernel)
theorem q1255 : Cond.instanceMethod yX11_init ∈ lw_good := lw_in (i := 1255) (by decide +kernel) (by decide +kernel)
theorem q1256 : Cond.code yX11_init prog_14_method_1_code 5 (Option.none : Option Jvm.ClassFile.FieldType) ∈ lw_good := lw_in (i := 1256) (by decide +kernel) (by decide +kernel)
theorem q1257 : Cond.methodLink "WatermarkmillModel$Mould" 3 ⟨"java/lang/Object", "<init>", "()V"⟩ ∈ lw_good := lw_in (i := 1257) (by decide +kernel) (by decide +kernel)
theorem q1258 : Cond.classLink "WatermarkmillModel$Mould" 21 "java/util/ArrayList" ∈ lw_good := lw_in (i := 1258) (by decide +kernel) (by decide +kernel)
theorem q1259 : Cond.methodLink "WatermarkmillModel$Mould" 23 yJx4a65c_init_da8c8 ∈ lw_good := lw_in (i := 1259) (by decide +kernel) (by decide +kernel)
theorem q1260 : Cond.fieldLink "WatermarkmillModel$Mould" 31 "WatermarkmillModel$Mould" "number" "I" ∈ lw_good := lw_in (i := 1260) (by decide +kernel) (by decide +kernel)
theorem q1262 : Cond.fieldLink "WatermarkmillModel$Mould" 34 "WatermarkmillModel$Mould" "mill" "I" ∈ lw_good := lw_in (i := 1262) (by decide +kernel) (by decide +kernel)
theorem q1263 : Cond.fieldLink "WatermarkmillModel$Mould" 37 "WatermarkmillModel$Mould" "mark" "I" ∈ lw_good := lw_in (i := 1263) (by decide +kernel) (by decide +kernel)
theorem q1265 : Cond.fieldLink "WatermarkmillModel$Mould" 40 "WatermarkmillModel$Mould" "distances" "[I" ∈ lw_good := lw_in (i := 1265) (by decide +kernel) (by decide +kernel)
theorem q1267 : Cond.fieldLink "WatermarkmillModel$Mould" 9 "WatermarkmillModel$Mould" "twin" "I" ∈ lw_good := lw_in (i := 1267) (by decide +kernel) (by decide +kernel)
theorem q1269 : Cond.fieldLink "WatermarkmillModel$Mould" 15 "WatermarkmillModel$Mould" "retired" "I" ∈ lw_good := lw_in (i := 1269) (by decide +kernel) (by decide +kernel)
theorem q1271 : Cond.fieldLink "WatermarkmillModel$Mould" 18 "WatermarkmillModel$Mould" "latest" "I" ∈ lw_good := lw_in (i := 1271) (by decide +kernel) (by decide +kernel)
theorem q1273 : Cond.fieldLink "WatermarkmillModel$Mould" 24 "WatermarkmillModel$Mould" "damages" "Ljava/util/ArrayList;" ∈ lw_good := lw_in (i := 1273) (by decide +kernel) (by decide +kernel)
theorem q1275 : Cond.fieldLink "WatermarkmillModel$Mould" 28 "WatermarkmillModel$Mould" "sales" "Ljava/util/ArrayList;" ∈ lw_good := lw_in (i := 1275) (by decide +kernel) (by decide +kernel)
theorem q1296 : Cond.methodLink "WatermarkmillModel" 85 yJx4a65c_add_9ea2d ∈ lw_good := lw_in (i := 1296) (by decide +kernel) (by decide +kernel)
theorem q1325 : Cond.methodLink "WatermarkmillModel" 116 yX14_isYear ∈ lw_good := lw_in (i := 1325) (by decide +kernel) (by decide +kernel)
theorem q1326 : Cond.static yX14_isYear ∈ lw_good := lw_in (i := 1326) (by decide +kernel) (by decide +kernel)
theorem q1345 : Cond.methodLink "WatermarkmillModel" 133 yJx4a65c_isEmpty_aae02 ∈ lw_good := lw_in (i := 1345) (by decide +kernel) (by decide +kernel)
theorem q1346 : Cond.instanceMethod yJx4a65c_isEmpty_aae02 ∈ lw_good := lw_in (i := 1346) (by decide +kernel) (by decide +kernel)
theorem q1347 : Cond.selects "java/util/ArrayList" yJx4a65c_isEmpty_aae02 yJx4a65c_isEmpty_aae02 ∈ lw_good := lw_in (i := 1347) (by decide +kernel) (by decide +kernel)
theorem q1354 : Cond.instanceMethod yJx4a65c_iterator_32c93 ∈ lw_good := lw_in (i := 1354) (by decide +kernel) (by decide +kernel)
theorem q1355 : Cond.selects "java/util/ArrayList" yJx4a65c_iterator_32c93 yJx4a65c_iterator_32c93 ∈ lw_good := lw_in (i := 1355) (by decide +kernel) (by decide +kernel)
theorem q1381 : Cond.selects "java/util/ArrayList$Itr" ⟨"java/util/Iterator", "hasNext", "()Z"⟩ yJx35411_hasNext_aae02 ∈ lw_good := lw_in (i := 1381) (by decide +kernel) (by decide +kernel)
theorem q1383 : Cond.instanceMethod yJx35411_hasNext_aae02 ∈ lw_good := lw_in (i := 1383) (by decide +kernel) (by decide +kernel)
theorem q1457 : Cond.code yX14_ream prog_11_method_22_code 3 (Option.some Jvm.ClassFile.FieldType.int) ∈ lw_good := lw_in (i := 1457) (by decide +kernel) (by decide +kernel)
theorem q1458 : Cond.classLink "WatermarkmillModel" 156 "WatermarkmillModel$Ream" ∈ lw_good := lw_in (i := 1458) (by decide +kernel) (by decide +kernel)
theorem q1459 : Cond.instantiable "WatermarkmillModel$Ream" 2 ∈ lw_good := lw_in (i := 1459) (by decide +kernel) (by decide +kernel)
theorem q1460 : Cond.methodLink "WatermarkmillModel" 158 yX12_init ∈ lw_good := lw_in (i := 1460) (by decide +kernel) (by decide +kernel)
theorem q1461 : Cond.instanceMethod yX12_init ∈ lw_good := lw_in (i := 1461) (by decide +kernel) (by decide +kernel)
theorem q1462 : Cond.code yX12_init prog_15_method_1_code 2 (Option.none : Option Jvm.ClassFile.FieldType) ∈ lw_good := lw_in (i := 1462) (by decide +kernel) (by decide +kernel)
theorem q1463 : Cond.methodLink "WatermarkmillModel$Ream" 1 ⟨"java/lang/Object", "<init>", "()V"⟩ ∈ lw_good := lw_in (i := 1463) (by decide +kernel) (by decide +kernel)
theorem q1464 : Cond.classLink "WatermarkmillModel$Ream" 7 "java/util/ArrayList" ∈ lw_good := lw_in (i := 1464) (by decide +kernel) (by decide +kernel)
theorem q1465 : Cond.methodLink "WatermarkmillModel$Ream" 9 yJx4a65c_init_da8c8 ∈ lw_good := lw_in (i := 1465) (by decide +kernel) (by decide +kernel)
theorem q1466 : Cond.fieldLink "WatermarkmillModel$Ream" 16 "WatermarkmillModel$Ream" "mill" "I" ∈ lw_good := lw_in (i := 1466) (by decide +kernel) (by decide +kernel)
theorem q1468 : Cond.fieldLink "WatermarkmillModel$Ream" 10 "WatermarkmillModel$Ream" "sheets" "Ljava/util/ArrayList;" ∈ lw_good := lw_in (i := 1468) (by decide +kernel) (by decide +kernel)
theorem q1492 : Cond.methodLink "WatermarkmillModel" 167 yJx4a65c_iterator_32c93 ∈ lw_good := lw_in (i := 1492) (by decide +kernel) (by decide +kernel)
theorem q1494 : Cond.methodLink "WatermarkmillModel" 171 ⟨"java/util/Iterator", "hasNext", "()Z"⟩ ∈ lw_good := lw_in (i := 1494) (by decide +kernel) (by decide +kernel)
theorem q1500 : Cond.code yX14_document prog_11_method_25_code 4 (Option.some Jvm.ClassFile.FieldType.int) ∈ lw_good := lw_in (i := 1500) (by decide +kernel) (by decide +kernel)
theorem q1501 : Cond.classLink "WatermarkmillModel" 189 "WatermarkmillModel$Document" ∈ lw_good := lw_in (i := 1501) (by decide +kernel) (by decide +kernel)
theorem q1502 : Cond.instantiable "WatermarkmillModel$Document" 6 ∈ lw_good := lw_in (i := 1502) (by decide +kernel) (by decide +kernel)
theorem q1503 : Cond.methodLink "WatermarkmillModel" 191 yX9_init ∈ lw_good := lw_in (i := 1503) (by decide +kernel) (by decide +kernel)
theorem q1504 : Cond.instanceMethod yX9_init ∈ lw_good := lw_in (i := 1504) (by decide +kernel) (by decide +kernel)
theorem q1505 : Cond.code yX9_init prog_12_method_1_code 3 (Option.none : Option Jvm.ClassFile.FieldType) ∈ lw_good := lw_in (i := 1505) (by decide +kernel) (by decide +kernel)
theorem q1506 : Cond.methodLink "WatermarkmillModel$Document" 1 ⟨"java/lang/Object", "<init>", "()V"⟩ ∈ lw_good := lw_in (i := 1506) (by decide +kernel) (by decide +kernel)
theorem q1507 : Cond.classLink "WatermarkmillModel$Document" 7 "java/util/ArrayList" ∈ lw_good := lw_in (i := 1507) (by decide +kernel) (by decide +kernel)
theorem q1508 : Cond.methodLink "WatermarkmillModel$Document" 9 yJx4a65c_init_da8c8 ∈ lw_good := lw_in (i := 1508) (by decide +kernel) (by decide +kernel)
theorem q1509 : Cond.fieldLink "WatermarkmillModel$Document" 19 "WatermarkmillModel$Document" "year" "I" ∈ lw_good := lw_in (i := 1509) (by decide +kernel) (by decide +kernel)
theorem q1511 : Cond.fieldLink "WatermarkmillModel$Document" 23 "WatermarkmillModel$Document" "leaves" "I" ∈ lw_good := lw_in (i := 1511) (by decide +kernel) (by decide +kernel)
theorem q1513 : Cond.fieldLink "WatermarkmillModel$Document" 10 "WatermarkmillModel$Document" "sheets" "Ljava/util/ArrayList;" ∈ lw_good := lw_in (i := 1513) (by decide +kernel) (by decide +kernel)
theorem q1516 : Cond.fieldLink "WatermarkmillModel$Document" 16 "WatermarkmillModel$Document" "claims" "Ljava/util/ArrayList;" ∈ lw_good := lw_in (i := 1516) (by decide +kernel) (by decide +kernel)
theorem q1615 : Cond.code yX14_setTolerance prog_11_method_38_code 3 (Option.some Jvm.ClassFile.FieldType.int) ∈ lw_good := lw_in (i := 1615) (by decide +kernel) (by decide +kernel)
theorem q1640 : Cond.code yX14_groups prog_11_method_44_code 6 (Option.some Jvm.ClassFile.FieldType.int) ∈ lw_good := lw_in (i := 1640) (by decide +kernel) (by decide +kernel)
theorem q1656 : Cond.code yX14_unmerge prog_11_method_48_code 2 (Option.some Jvm.ClassFile.FieldType.int) ∈ lw_good := lw_in (i := 1656) (by decide +kernel) (by decide +kernel)
theorem q1683 : Cond.code yX14_setAge prog_11_method_55_code 3 (Option.some Jvm.ClassFile.FieldType.int) ∈ lw_good := lw_in (i := 1683) (by decide +kernel) (by decide +kernel)
theorem q1687 : Cond.code yX14_fits prog_11_method_59_code 1 (Option.some Jvm.ClassFile.FieldType.boolean) ∈ lw_good := lw_in (i := 1687) (by decide +kernel) (by decide +kernel)
theorem q1688 : Cond.methodLink "WatermarkmillModel" 272 yX14_find_ ∈ lw_good := lw_in (i := 1688) (by decide +kernel) (by decide +kernel)
theorem q1690 : Cond.instanceMethod yX14_find_ ∈ lw_good := lw_in (i := 1690) (by decide +kernel) (by decide +kernel)
theorem q1691 : Cond.code yX14_find_ prog_11_method_56_code 5 (Option.some Jvm.ClassFile.FieldType.boolean) ∈ lw_good := lw_in (i := 1691) (by decide +kernel) (by decide +kernel)
theorem q1692 : Cond.methodLink "WatermarkmillModel" 266 yX14_gather ∈ lw_good := lw_in (i := 1692) (by decide +kernel) (by decide +kernel)
theorem q1694 : Cond.instanceMethod yX14_gather ∈ lw_good := lw_in (i := 1694) (by decide +kernel) (by decide +kernel)
theorem q1695 : Cond.code yX14_gather prog_11_method_57_code 6 (Option.none : Option Jvm.ClassFile.FieldType) ∈ lw_good := lw_in (i := 1695) (by decide +kernel) (by decide +kernel)
theorem q1715 : Cond.code yX14_culprit prog_11_method_63_code 3 (Option.some Jvm.ClassFile.FieldType.int) ∈ lw_good := lw_in (i := 1715) (by decide +kernel) (by decide +kernel)
theorem q1723 : Cond.code yX14_years prog_11_method_65_code 4 (Option.some Jvm.ClassFile.FieldType.long) ∈ lw_good := lw_in (i := 1723) (by decide +kernel) (by decide +kernel)
theorem q1727 : Cond.code yX14_usedShare prog_11_method_67_code 1 (Option.some Jvm.ClassFile.FieldType.float) ∈ lw_good := lw_in (i := 1727) (by decide +kernel) (by decide +kernel)
theorem q1728 : Cond.methodLink "WatermarkmillModel" 278 yX14_used ∈ lw_good := lw_in (i := 1728) (by decide +kernel) (by decide +kernel)
theorem q1730 : Cond.instanceMethod yX14_used ∈ lw_good := lw_in (i := 1730) (by decide +kernel) (by decide +kernel)
theorem q1731 : Cond.code yX14_used prog_11_method_66_code 4 (Option.some Jvm.ClassFile.FieldType.int) ∈ lw_good := lw_in (i := 1731) (by decide +kernel) (by decide +kernel)
theorem q1735 : Cond.code yX14_meanAge prog_11_method_68_code 6 (Option.some Jvm.ClassFile.FieldType.double) ∈ lw_good := lw_in (i := 1735) (by decide +kernel) (by decide +kernel)
theorem q1739 : Cond.code yX14_isSound prog_11_method_69_code 1 (Option.some Jvm.ClassFile.FieldType.boolean) ∈ lw_good := lw_in (i := 1739) (by decide +kernel) (by decide +kernel)
theorem q18 : Cond.initialized "WatermarkmillModel$Mould" ∈ lw_good := lw_in (i := 18) (by decide +kernel) (by decide +kernel)
theorem q31 : Cond.initialized "WatermarkmillModel$Ream" ∈ lw_good := lw_in (i := 31) (by decide +kernel) (by decide +kernel)
theorem q33 : Cond.initialized "WatermarkmillModel$Document" ∈ lw_good := lw_in (i := 33) (by decide +kernel) (by decide +kernel)
theorem q46 : Cond.instantiable "java/util/ArrayList" 3 ∈ lw_good := lw_in (i := 46) (by decide +kernel) (by decide +kernel)
theorem q48 : Cond.instanceMethod yJx4a65c_init_da8c8 ∈ lw_good := lw_in (i := 48) (by decide +kernel) (by decide +kernel)
theorem qf1378 : Cond.interfaceMethod "java/util/Iterator" "java/util/Iterator" "hasNext" "()Z" ∈ lw_face := lw_fin (i := 1378) (by decide +kernel) (by decide +kernel)
theorem qf1379 : Cond.declares ⟨"java/util/Iterator", "hasNext", "()Z"⟩ ∈ lw_face := lw_fin (i := 1379) (by decide +kernel) (by decide +kernel)
theorem qf1380 : Cond.castable "java/util/ArrayList$Itr" "java/util/Iterator" ∈ lw_face := lw_fin (i := 1380) (by decide +kernel) (by decide +kernel)
theorem qf1382 : Cond.unhidden "java/util/ArrayList$Itr" "hasNext" "()Z" ∈ lw_face := lw_fin (i := 1382) (by decide +kernel) (by decide +kernel)
theorem qf1384 : Cond.publicMethod yJx35411_hasNext_aae02 ∈ lw_face := lw_fin (i := 1384) (by decide +kernel) (by decide +kernel)
theorem qf1753 : Cond.castable "WatermarkmillModel$Mould" "java/lang/Object" ∈ lw_face := lw_fin (i := 1753) (by decide +kernel) (by decide +kernel)
theorem qf1762 : Cond.castable "WatermarkmillModel$Ream" "java/lang/Object" ∈ lw_face := lw_fin (i := 1762) (by decide +kernel) (by decide +kernel)
theorem qf1764 : Cond.castable "WatermarkmillModel$Document" "java/lang/Object" ∈ lw_face := lw_fin (i := 1764) (by decide +kernel) (by decide +kernel)
theorem qf1773 : Cond.castable "[I" "java/lang/Object" ∈ lw_face := lw_fin (i := 1773) (by decide +kernel) (by decide +kernel)
theorem qs34 : Cond.selects "WatermarkmillModel" yX14_find_ yX14_find_ ∈ lw_good := lw_inS (i := 34) (by decide +kernel) (by decide +kernel)
theorem qs35 : Cond.selects "WatermarkmillModel" yX14_gather yX14_gather ∈ lw_good := lw_inS (i := 35) (by decide +kernel) (by decide +kernel)
theorem qs38 : Cond.selects "WatermarkmillModel" yX14_used yX14_used ∈ lw_good := lw_inS (i := 38) (by decide +kernel) (by decide +kernel)
theorem dX11_init_0 : decode cX11_init 0 = .ok (.aload_n 0, 1) := by decide +kernel
theorem dX11_init_1 : decode cX11_init 1 = .ok (.invokespecial 3, 3) := by decide +kernel
theorem dX11_init_10 : decode cX11_init 10 = .ok (.iconst (-1), 1) := by decide +kernel
theorem dX11_init_11 : decode cX11_init 11 = .ok (.putfield 15, 3) := by decide +kernel
theorem dX11_init_14 : decode cX11_init 14 = .ok (.aload_n 0, 1) := by decide +kernel
theorem dX11_init_15 : decode cX11_init 15 = .ok (.iconst (-1), 1) := by decide +kernel
theorem dX11_init_16 : decode cX11_init 16 = .ok (.putfield 18, 3) := by decide +kernel
theorem dX11_init_19 : decode cX11_init 19 = .ok (.aload_n 0, 1) := by decide +kernel
theorem dX11_init_20 : decode cX11_init 20 = .ok (.new 21, 3) := by decide +kernel
theorem dX11_init_23 : decode cX11_init 23 = .ok (.dup, 1) := by decide +kernel
theorem dX11_init_24 : decode cX11_init 24 = .ok (.invokespecial 23, 3) := by decide +kernel
theorem dX11_init_27 : decode cX11_init 27 = .ok (.putfield 24, 3) := by decide +kernel
theorem dX11_init_30 : decode cX11_init 30 = .ok (.aload_n 0, 1) := by decide +kernel
theorem dX11_init_31 : decode cX11_init 31 = .ok (.new 21, 3) := by decide +kernel
theorem dX11_init_34 : decode cX11_init 34 = .ok (.dup, 1) := by decide +kernel
theorem dX11_init_35 : decode cX11_init 35 = .ok (.invokespecial 23, 3) := by decide +kernel
theorem dX11_init_38 : decode cX11_init 38 = .ok (.putfield 28, 3) := by decide +kernel
theorem dX11_init_4 : decode cX11_init 4 = .ok (.aload_n 0, 1) := by decide +kernel
theorem dX11_init_41 : decode cX11_init 41 = .ok (.aload_n 0, 1) := by decide +kernel
theorem dX11_init_42 : decode cX11_init 42 = .ok (.iload_n 1, 1) := by decide +kernel
theorem dX11_init_43 : decode cX11_init 43 = .ok (.putfield 31, 3) := by decide +kernel
theorem dX11_init_46 : decode cX11_init 46 = .ok (.aload_n 0, 1) := by decide +kernel
theorem dX11_init_47 : decode cX11_init 47 = .ok (.iload_n 2, 1) := by decide +kernel
theorem dX11_init_48 : decode cX11_init 48 = .ok (.putfield 34, 3) := by decide +kernel
theorem dX11_init_5 : decode cX11_init 5 = .ok (.iconst (-1), 1) := by decide +kernel
theorem dX11_init_51 : decode cX11_init 51 = .ok (.aload_n 0, 1) := by decide +kernel
theorem dX11_init_52 : decode cX11_init 52 = .ok (.iload_n 3, 1) := by decide +kernel
theorem dX11_init_53 : decode cX11_init 53 = .ok (.putfield 37, 3) := by decide +kernel
theorem dX11_init_56 : decode cX11_init 56 = .ok (.aload_n 0, 1) := by decide +kernel
theorem dX11_init_57 : decode cX11_init 57 = .ok (.aload 4, 2) := by decide +kernel
theorem dX11_init_59 : decode cX11_init 59 = .ok (.putfield 40, 3) := by decide +kernel
theorem dX11_init_6 : decode cX11_init 6 = .ok (.putfield 9, 3) := by decide +kernel
theorem dX11_init_62 : decode cX11_init 62 = .ok (.return_, 1) := by decide +kernel
theorem dX11_init_9 : decode cX11_init 9 = .ok (.aload_n 0, 1) := by decide +kernel
theorem dX12_init_0 : decode cX12_init 0 = .ok (.aload_n 0, 1) := by decide +kernel
theorem dX12_init_1 : decode cX12_init 1 = .ok (.invokespecial 1, 3) := by decide +kernel
theorem dX12_init_12 : decode cX12_init 12 = .ok (.putfield 10, 3) := by decide +kernel
theorem dX12_init_15 : decode cX12_init 15 = .ok (.aload_n 0, 1) := by decide +kernel
theorem dX12_init_16 : decode cX12_init 16 = .ok (.iload_n 1, 1) := by decide +kernel
theorem dX12_init_17 : decode cX12_init 17 = .ok (.putfield 16, 3) := by decide +kernel
theorem dX12_init_20 : decode cX12_init 20 = .ok (.return_, 1) := by decide +kernel
theorem dX12_init_4 : decode cX12_init 4 = .ok (.aload_n 0, 1) := by decide +kernel
theorem dX12_init_5 : decode cX12_init 5 = .ok (.new 7, 3) := by decide +kernel
theorem dX12_init_8 : decode cX12_init 8 = .ok (.dup, 1) := by decide +kernel
theorem dX12_init_9 : decode cX12_init 9 = .ok (.invokespecial 9, 3) := by decide +kernel
theorem dX14_culprit_0 : decode cX14_culprit 0 = .ok (.aload_n 0, 1) := by decide +kernel
theorem dX14_culprit_1 : decode cX14_culprit 1 = .ok (.aload_n 0, 1) := by decide +kernel
theorem dX14_culprit_10 : decode cX14_culprit 10 = .ok (.goto 4, 3) := by decide +kernel
theorem dX14_culprit_14 : decode cX14_culprit 14 = .ok (.invokevirtual 74, 3) := by decide +kernel
theorem dX14_culprit_17 : decode cX14_culprit 17 = .ok (.ifCond .eq 5, 3) := by decide +kernel
theorem dX14_culprit_2 : decode cX14_culprit 2 = .ok (.iconst (-1), 1) := by decide +kernel
theorem dX14_culprit_20 : decode cX14_culprit 20 = .ok (.iconst 0, 1) := by decide +kernel
theorem dX14_culprit_21 : decode cX14_culprit 21 = .ok (.ireturn, 1) := by decide +kernel
theorem dX14_culprit_3 : decode cX14_culprit 3 = .ok (.invokevirtual 272, 3) := by decide +kernel
theorem dX14_culprit_6 : decode cX14_culprit 6 = .ok (.ifCond .eq 7, 3) := by decide +kernel
theorem dX14_culprit_9 : decode cX14_culprit 9 = .ok (.iconst 1, 1) := by decide +kernel
theorem dX14_document_0 : decode cX14_document 0 = .ok (.aload_n 0, 1) := by decide +kernel
theorem dX14_document_1 : decode cX14_document 1 = .ok (.iload_n 1, 1) := by decide +kernel
theorem dX14_document_10 : decode cX14_document 10 = .ok (.iconst 3, 1) := by decide +kernel
theorem dX14_document_11 : decode cX14_document 11 = .ok (.invokestatic 62, 3) := by decide +kernel
theorem dX14_document_14 : decode cX14_document 14 = .ok (.ifCond .ne 7, 3) := by decide +kernel
theorem dX14_document_17 : decode cX14_document 17 = .ok (.iconst 1, 1) := by decide +kernel
theorem dX14_document_18 : decode cX14_document 18 = .ok (.goto 20, 3) := by decide +kernel
theorem dX14_document_2 : decode cX14_document 2 = .ok (.invokestatic 116, 3) := by decide +kernel
theorem dX14_document_21 : decode cX14_document 21 = .ok (.aload_n 0, 1) := by decide +kernel
theorem dX14_document_22 : decode cX14_document 22 = .ok (.getfield 22, 3) := by decide +kernel
theorem dX14_document_25 : decode cX14_document 25 = .ok (.invokevirtual 66, 3) := by decide +kernel
theorem dX14_document_28 : decode cX14_document 28 = .ok (.bipush 20, 2) := by decide +kernel
theorem dX14_document_30 : decode cX14_document 30 = .ok (.if_icmp .ne 7, 3) := by decide +kernel
theorem dX14_document_37 : decode cX14_document 37 = .ok (.iconst 0, 1) := by decide +kernel
theorem dX14_document_38 : decode cX14_document 38 = .ok (.invokevirtual 74, 3) := by decide +kernel
theorem dX14_document_41 : decode cX14_document 41 = .ok (.ifCond .eq 5, 3) := by decide +kernel
theorem dX14_document_44 : decode cX14_document 44 = .ok (.iconst 0, 1) := by decide +kernel
theorem dX14_document_45 : decode cX14_document 45 = .ok (.ireturn, 1) := by decide +kernel
theorem dX14_document_46 : decode cX14_document 46 = .ok (.aload_n 0, 1) := by decide +kernel
theorem dX14_document_47 : decode cX14_document 47 = .ok (.getfield 22, 3) := by decide +kernel
theorem dX14_document_5 : decode cX14_document 5 = .ok (.ifCond .eq 12, 3) := by decide +kernel
theorem dX14_document_50 : decode cX14_document 50 = .ok (.new 189, 3) := by decide +kernel
theorem dX14_document_53 : decode cX14_document 53 = .ok (.dup, 1) := by decide +kernel
theorem dX14_document_54 : decode cX14_document 54 = .ok (.iload_n 1, 1) := by decide +kernel
theorem dX14_document_55 : decode cX14_document 55 = .ok (.iload_n 2, 1) := by decide +kernel
theorem dX14_document_56 : decode cX14_document 56 = .ok (.invokespecial 191, 3) := by decide +kernel
theorem dX14_document_59 : decode cX14_document 59 = .ok (.invokevirtual 85, 3) := by decide +kernel
theorem dX14_document_62 : decode cX14_document 62 = .ok (.istore_n 3, 1) := by decide +kernel
theorem dX14_document_63 : decode cX14_document 63 = .ok (.aload_n 0, 1) := by decide +kernel
theorem dX14_document_64 : decode cX14_document 64 = .ok (.getfield 22, 3) := by decide +kernel
theorem dX14_document_67 : decode cX14_document 67 = .ok (.invokevirtual 66, 3) := by decide +kernel
theorem dX14_document_70 : decode cX14_document 70 = .ok (.iconst 1, 1) := by decide +kernel
theorem dX14_document_71 : decode cX14_document 71 = .ok (.isub, 1) := by decide +kernel
theorem dX14_document_72 : decode cX14_document 72 = .ok (.ireturn, 1) := by decide +kernel
theorem dX14_document_8 : decode cX14_document 8 = .ok (.iload_n 2, 1) := by decide +kernel
theorem dX14_document_9 : decode cX14_document 9 = .ok (.iconst 0, 1) := by decide +kernel
theorem dX14_find__0 : decode cX14_find_ 0 = .ok (.iconst 0, 1) := by decide +kernel
theorem dX14_find__1 : decode cX14_find_ 1 = .ok (.istore_n 2, 1) := by decide +kernel
theorem dX14_find__10 : decode cX14_find_ 10 = .ok (.if_icmp .ge 137, 3) := by decide +kernel
theorem dX14_find__147 : decode cX14_find_ 147 = .ok (.iconst 1, 1) := by decide +kernel
theorem dX14_find__148 : decode cX14_find_ 148 = .ok (.istore_n 2, 1) := by decide +kernel
theorem dX14_find__149 : decode cX14_find_ 149 = .ok (.iconst 1, 1) := by decide +kernel
theorem dX14_find__150 : decode cX14_find_ 150 = .ok (.istore_n 3, 1) := by decide +kernel
theorem dX14_find__151 : decode cX14_find_ 151 = .ok (.iload_n 2, 1) := by decide +kernel
theorem dX14_find__152 : decode cX14_find_ 152 = .ok (.ifCond .eq 83, 3) := by decide +kernel
theorem dX14_find__155 : decode cX14_find_ 155 = .ok (.iload_n 3, 1) := by decide +kernel
theorem dX14_find__156 : decode cX14_find_ 156 = .ok (.ifCond .eq 79, 3) := by decide +kernel
theorem dX14_find__159 : decode cX14_find_ 159 = .ok (.aload_n 0, 1) := by decide +kernel
theorem dX14_find__160 : decode cX14_find_ 160 = .ok (.invokevirtual 266, 3) := by decide +kernel
theorem dX14_find__163 : decode cX14_find_ 163 = .ok (.iconst 0, 1) := by decide +kernel
theorem dX14_find__164 : decode cX14_find_ 164 = .ok (.istore_n 2, 1) := by decide +kernel
theorem dX14_find__165 : decode cX14_find_ 165 = .ok (.iconst 0, 1) := by decide +kernel
theorem dX14_find__166 : decode cX14_find_ 166 = .ok (.istore 4, 2) := by decide +kernel
theorem dX14_find__168 : decode cX14_find_ 168 = .ok (.iload 4, 2) := by decide +kernel
theorem dX14_find__170 : decode cX14_find_ 170 = .ok (.aload_n 0, 1) := by decide +kernel
theorem dX14_find__171 : decode cX14_find_ 171 = .ok (.getfield 22, 3) := by decide +kernel
theorem dX14_find__174 : decode cX14_find_ 174 = .ok (.invokevirtual 66, 3) := by decide +kernel
theorem dX14_find__177 : decode cX14_find_ 177 = .ok (.if_icmp .ge 55, 3) := by decide +kernel
theorem dX14_find__2 : decode cX14_find_ 2 = .ok (.iload_n 2, 1) := by decide +kernel
theorem dX14_find__232 : decode cX14_find_ 232 = .ok (.goto (-81), 3) := by decide +kernel
theorem dX14_find__235 : decode cX14_find_ 235 = .ok (.iload_n 3, 1) := by decide +kernel
theorem dX14_find__236 : decode cX14_find_ 236 = .ok (.ireturn, 1) := by decide +kernel
theorem dX14_find__3 : decode cX14_find_ 3 = .ok (.aload_n 0, 1) := by decide +kernel
theorem dX14_find__4 : decode cX14_find_ 4 = .ok (.getfield 22, 3) := by decide +kernel
theorem dX14_find__7 : decode cX14_find_ 7 = .ok (.invokevirtual 66, 3) := by decide +kernel
theorem dX14_fits_0 : decode cX14_fits 0 = .ok (.aload_n 0, 1) := by decide +kernel
theorem dX14_fits_1 : decode cX14_fits 1 = .ok (.iconst 0, 1) := by decide +kernel
theorem dX14_fits_10 : decode cX14_fits 10 = .ok (.ireturn, 1) := by decide +kernel
theorem dX14_fits_2 : decode cX14_fits 2 = .ok (.putfield 59, 3) := by decide +kernel
theorem dX14_fits_5 : decode cX14_fits 5 = .ok (.aload_n 0, 1) := by decide +kernel
theorem dX14_fits_6 : decode cX14_fits 6 = .ok (.iconst (-1), 1) := by decide +kernel
theorem dX14_fits_7 : decode cX14_fits 7 = .ok (.invokevirtual 272, 3) := by decide +kernel
theorem dX14_gather_0 : decode cX14_gather 0 = .ok (.iconst 0, 1) := by decide +kernel
theorem dX14_gather_1 : decode cX14_gather 1 = .ok (.istore_n 1, 1) := by decide +kernel
theorem dX14_gather_10 : decode cX14_gather 10 = .ok (.if_icmp .ge 45, 3) := by decide +kernel
theorem dX14_gather_2 : decode cX14_gather 2 = .ok (.iload_n 1, 1) := by decide +kernel
theorem dX14_gather_251 : decode cX14_gather 251 = .ok (.return_, 1) := by decide +kernel
theorem dX14_gather_3 : decode cX14_gather 3 = .ok (.aload_n 0, 1) := by decide +kernel
theorem dX14_gather_4 : decode cX14_gather 4 = .ok (.getfield 10, 3) := by decide +kernel
theorem dX14_gather_55 : decode cX14_gather 55 = .ok (.iconst 0, 1) := by decide +kernel
theorem dX14_gather_56 : decode cX14_gather 56 = .ok (.istore_n 1, 1) := by decide +kernel
theorem dX14_gather_57 : decode cX14_gather 57 = .ok (.iload_n 1, 1) := by decide +kernel
theorem dX14_gather_58 : decode cX14_gather 58 = .ok (.aload_n 0, 1) := by decide +kernel
theorem dX14_gather_59 : decode cX14_gather 59 = .ok (.getfield 22, 3) := by decide +kernel
theorem dX14_gather_62 : decode cX14_gather 62 = .ok (.invokevirtual 66, 3) := by decide +kernel
theorem dX14_gather_65 : decode cX14_gather 65 = .ok (.if_icmp .ge 186, 3) := by decide +kernel
theorem dX14_gather_7 : decode cX14_gather 7 = .ok (.invokevirtual 66, 3) := by decide +kernel
theorem dX14_groups_0 : decode cX14_groups 0 = .ok (.aload_n 0, 1) := by decide +kernel
theorem dX14_groups_1 : decode cX14_groups 1 = .ok (.iconst 0, 1) := by decide +kernel
theorem dX14_groups_12 : decode cX14_groups 12 = .ok (.istore_n 1, 1) := by decide +kernel
theorem dX14_groups_123 : decode cX14_groups 123 = .ok (.iconst 0, 1) := by decide +kernel
theorem dX14_groups_124 : decode cX14_groups 124 = .ok (.istore_n 3, 1) := by decide +kernel
theorem dX14_groups_125 : decode cX14_groups 125 = .ok (.iconst 0, 1) := by decide +kernel
theorem dX14_groups_126 : decode cX14_groups 126 = .ok (.istore 4, 2) := by decide +kernel
theorem dX14_groups_128 : decode cX14_groups 128 = .ok (.iload 4, 2) := by decide +kernel
theorem dX14_groups_13 : decode cX14_groups 13 = .ok (.iload_n 1, 1) := by decide +kernel
theorem dX14_groups_130 : decode cX14_groups 130 = .ok (.iload_n 1, 1) := by decide +kernel
theorem dX14_groups_131 : decode cX14_groups 131 = .ok (.if_icmp .ge 26, 3) := by decide +kernel
theorem dX14_groups_14 : decode cX14_groups 14 = .ok (.newarray .int, 2) := by decide +kernel
theorem dX14_groups_157 : decode cX14_groups 157 = .ok (.iload_n 3, 1) := by decide +kernel
theorem dX14_groups_158 : decode cX14_groups 158 = .ok (.ireturn, 1) := by decide +kernel
theorem dX14_groups_16 : decode cX14_groups 16 = .ok (.astore_n 2, 1) := by decide +kernel
theorem dX14_groups_17 : decode cX14_groups 17 = .ok (.iconst 0, 1) := by decide +kernel
theorem dX14_groups_18 : decode cX14_groups 18 = .ok (.istore_n 3, 1) := by decide +kernel
theorem dX14_groups_19 : decode cX14_groups 19 = .ok (.iload_n 3, 1) := by decide +kernel
theorem dX14_groups_2 : decode cX14_groups 2 = .ok (.putfield 59, 3) := by decide +kernel
theorem dX14_groups_20 : decode cX14_groups 20 = .ok (.iload_n 1, 1) := by decide +kernel
theorem dX14_groups_21 : decode cX14_groups 21 = .ok (.if_icmp .ge 13, 3) := by decide +kernel
theorem dX14_groups_34 : decode cX14_groups 34 = .ok (.iconst 0, 1) := by decide +kernel
theorem dX14_groups_35 : decode cX14_groups 35 = .ok (.istore_n 3, 1) := by decide +kernel
theorem dX14_groups_36 : decode cX14_groups 36 = .ok (.iload_n 3, 1) := by decide +kernel
theorem dX14_groups_37 : decode cX14_groups 37 = .ok (.iload_n 1, 1) := by decide +kernel
theorem dX14_groups_38 : decode cX14_groups 38 = .ok (.if_icmp .ge 85, 3) := by decide +kernel
theorem dX14_groups_5 : decode cX14_groups 5 = .ok (.aload_n 0, 1) := by decide +kernel
theorem dX14_groups_6 : decode cX14_groups 6 = .ok (.getfield 25, 3) := by decide +kernel
theorem dX14_groups_9 : decode cX14_groups 9 = .ok (.invokevirtual 66, 3) := by decide +kernel
theorem dX14_isSound_0 : decode cX14_isSound 0 = .ok (.aload_n 0, 1) := by decide +kernel
theorem dX14_isSound_1 : decode cX14_isSound 1 = .ok (.iconst 0, 1) := by decide +kernel
theorem dX14_isSound_2 : decode cX14_isSound 2 = .ok (.putfield 59, 3) := by decide +kernel
theorem dX14_isSound_5 : decode cX14_isSound 5 = .ok (.iconst 1, 1) := by decide +kernel
theorem dX14_isSound_6 : decode cX14_isSound 6 = .ok (.ireturn, 1) := by decide +kernel
theorem dX14_meanAge_0 : decode cX14_meanAge 0 = .ok (.iconst 0, 1) := by decide +kernel
theorem dX14_meanAge_1 : decode cX14_meanAge 1 = .ok (.istore_n 1, 1) := by decide +kernel
theorem dX14_meanAge_10 : decode cX14_meanAge 10 = .ok (.aload_n 2, 1) := by decide +kernel
theorem dX14_meanAge_11 : decode cX14_meanAge 11 = .ok (.invokeinterface 171 1, 5) := by decide +kernel
theorem dX14_meanAge_110 : decode cX14_meanAge 110 = .ok (.dreturn, 1) := by decide +kernel
theorem dX14_meanAge_16 : decode cX14_meanAge 16 = .ok (.ifCond .eq 63, 3) := by decide +kernel
theorem dX14_meanAge_2 : decode cX14_meanAge 2 = .ok (.aload_n 0, 1) := by decide +kernel
theorem dX14_meanAge_3 : decode cX14_meanAge 3 = .ok (.getfield 22, 3) := by decide +kernel
theorem dX14_meanAge_6 : decode cX14_meanAge 6 = .ok (.invokevirtual 167, 3) := by decide +kernel
theorem dX14_meanAge_79 : decode cX14_meanAge 79 = .ok (.aload_n 0, 1) := by decide +kernel
theorem dX14_meanAge_80 : decode cX14_meanAge 80 = .ok (.aload_n 0, 1) := by decide +kernel
theorem dX14_meanAge_81 : decode cX14_meanAge 81 = .ok (.invokevirtual 278, 3) := by decide +kernel
theorem dX14_meanAge_84 : decode cX14_meanAge 84 = .ok (.ifCond .ne 7, 3) := by decide +kernel
theorem dX14_meanAge_87 : decode cX14_meanAge 87 = .ok (.iconst 1, 1) := by decide +kernel
theorem dX14_meanAge_88 : decode cX14_meanAge 88 = .ok (.goto 4, 3) := by decide +kernel
theorem dX14_meanAge_9 : decode cX14_meanAge 9 = .ok (.astore_n 2, 1) := by decide +kernel
theorem dX14_meanAge_92 : decode cX14_meanAge 92 = .ok (.invokevirtual 74, 3) := by decide +kernel
theorem dX14_meanAge_95 : decode cX14_meanAge 95 = .ok (.ifCond .eq 7, 3) := by decide +kernel
theorem dX14_meanAge_98 : decode cX14_meanAge 98 = .ok (.dconst 0, 1) := by decide +kernel
theorem dX14_meanAge_99 : decode cX14_meanAge 99 = .ok (.goto 11, 3) := by decide +kernel
theorem dX14_mould_0 : decode cX14_mould 0 = .ok (.iload_n 1, 1) := by decide +kernel
theorem dX14_mould_1 : decode cX14_mould 1 = .ok (.iconst 0, 1) := by decide +kernel
theorem dX14_mould_10 : decode cX14_mould 10 = .ok (.iconst 0, 1) := by decide +kernel
theorem dX14_mould_103 : decode cX14_mould 103 = .ok (.iconst 0, 1) := by decide +kernel
theorem dX14_mould_104 : decode cX14_mould 104 = .ok (.invokevirtual 74, 3) := by decide +kernel
theorem dX14_mould_107 : decode cX14_mould 107 = .ok (.ifCond .eq 5, 3) := by decide +kernel
theorem dX14_mould_11 : decode cX14_mould 11 = .ok (.bipush 99, 2) := by decide +kernel
theorem dX14_mould_110 : decode cX14_mould 110 = .ok (.iconst 0, 1) := by decide +kernel
theorem dX14_mould_111 : decode cX14_mould 111 = .ok (.ireturn, 1) := by decide +kernel
theorem dX14_mould_112 : decode cX14_mould 112 = .ok (.aload_n 0, 1) := by decide +kernel
theorem dX14_mould_113 : decode cX14_mould 113 = .ok (.getfield 10, 3) := by decide +kernel
theorem dX14_mould_116 : decode cX14_mould 116 = .ok (.new 80, 3) := by decide +kernel
theorem dX14_mould_119 : decode cX14_mould 119 = .ok (.dup, 1) := by decide +kernel
theorem dX14_mould_120 : decode cX14_mould 120 = .ok (.aload_n 0, 1) := by decide +kernel
theorem dX14_mould_121 : decode cX14_mould 121 = .ok (.getfield 10, 3) := by decide +kernel
theorem dX14_mould_124 : decode cX14_mould 124 = .ok (.invokevirtual 66, 3) := by decide +kernel
theorem dX14_mould_127 : decode cX14_mould 127 = .ok (.iload_n 1, 1) := by decide +kernel
theorem dX14_mould_128 : decode cX14_mould 128 = .ok (.iload_n 2, 1) := by decide +kernel
theorem dX14_mould_129 : decode cX14_mould 129 = .ok (.iconst 4, 1) := by decide +kernel
theorem dX14_mould_13 : decode cX14_mould 13 = .ok (.invokestatic 62, 3) := by decide +kernel
theorem dX14_mould_130 : decode cX14_mould 130 = .ok (.newarray .int, 2) := by decide +kernel
theorem dX14_mould_132 : decode cX14_mould 132 = .ok (.dup, 1) := by decide +kernel
theorem dX14_mould_133 : decode cX14_mould 133 = .ok (.iconst 0, 1) := by decide +kernel
theorem dX14_mould_134 : decode cX14_mould 134 = .ok (.iload_n 3, 1) := by decide +kernel
theorem dX14_mould_135 : decode cX14_mould 135 = .ok (.iastore, 1) := by decide +kernel
theorem dX14_mould_136 : decode cX14_mould 136 = .ok (.dup, 1) := by decide +kernel
theorem dX14_mould_137 : decode cX14_mould 137 = .ok (.iconst 1, 1) := by decide +kernel
theorem dX14_mould_138 : decode cX14_mould 138 = .ok (.iload 4, 2) := by decide +kernel
theorem dX14_mould_140 : decode cX14_mould 140 = .ok (.iastore, 1) := by decide +kernel
theorem dX14_mould_141 : decode cX14_mould 141 = .ok (.dup, 1) := by decide +kernel
theorem dX14_mould_142 : decode cX14_mould 142 = .ok (.iconst 2, 1) := by decide +kernel
theorem dX14_mould_143 : decode cX14_mould 143 = .ok (.iload 5, 2) := by decide +kernel
theorem dX14_mould_145 : decode cX14_mould 145 = .ok (.iastore, 1) := by decide +kernel
theorem dX14_mould_146 : decode cX14_mould 146 = .ok (.dup, 1) := by decide +kernel
theorem dX14_mould_147 : decode cX14_mould 147 = .ok (.iconst 3, 1) := by decide +kernel
theorem dX14_mould_148 : decode cX14_mould 148 = .ok (.iload 6, 2) := by decide +kernel
theorem dX14_mould_150 : decode cX14_mould 150 = .ok (.iastore, 1) := by decide +kernel
theorem dX14_mould_151 : decode cX14_mould 151 = .ok (.invokespecial 82, 3) := by decide +kernel
theorem dX14_mould_154 : decode cX14_mould 154 = .ok (.invokevirtual 85, 3) := by decide +kernel
theorem dX14_mould_157 : decode cX14_mould 157 = .ok (.istore 8, 2) := by decide +kernel
theorem dX14_mould_159 : decode cX14_mould 159 = .ok (.aload_n 0, 1) := by decide +kernel
theorem dX14_mould_16 : decode cX14_mould 16 = .ok (.ifCond .eq 58, 3) := by decide +kernel
theorem dX14_mould_160 : decode cX14_mould 160 = .ok (.getfield 10, 3) := by decide +kernel
theorem dX14_mould_163 : decode cX14_mould 163 = .ok (.invokevirtual 66, 3) := by decide +kernel
theorem dX14_mould_166 : decode cX14_mould 166 = .ok (.iconst 1, 1) := by decide +kernel
theorem dX14_mould_167 : decode cX14_mould 167 = .ok (.isub, 1) := by decide +kernel
theorem dX14_mould_168 : decode cX14_mould 168 = .ok (.ireturn, 1) := by decide +kernel
theorem dX14_mould_19 : decode cX14_mould 19 = .ok (.iload_n 3, 1) := by decide +kernel
theorem dX14_mould_2 : decode cX14_mould 2 = .ok (.iconst 4, 1) := by decide +kernel
theorem dX14_mould_20 : decode cX14_mould 20 = .ok (.bipush 100, 2) := by decide +kernel
theorem dX14_mould_22 : decode cX14_mould 22 = .ok (.sipush 400, 3) := by decide +kernel
theorem dX14_mould_25 : decode cX14_mould 25 = .ok (.invokestatic 62, 3) := by decide +kernel
theorem dX14_mould_28 : decode cX14_mould 28 = .ok (.ifCond .eq 46, 3) := by decide +kernel
theorem dX14_mould_3 : decode cX14_mould 3 = .ok (.invokestatic 62, 3) := by decide +kernel
theorem dX14_mould_31 : decode cX14_mould 31 = .ok (.iload 4, 2) := by decide +kernel
theorem dX14_mould_33 : decode cX14_mould 33 = .ok (.bipush 100, 2) := by decide +kernel
theorem dX14_mould_35 : decode cX14_mould 35 = .ok (.sipush 400, 3) := by decide +kernel
theorem dX14_mould_38 : decode cX14_mould 38 = .ok (.invokestatic 62, 3) := by decide +kernel
theorem dX14_mould_41 : decode cX14_mould 41 = .ok (.ifCond .eq 33, 3) := by decide +kernel
theorem dX14_mould_44 : decode cX14_mould 44 = .ok (.iload 5, 2) := by decide +kernel
theorem dX14_mould_46 : decode cX14_mould 46 = .ok (.bipush 100, 2) := by decide +kernel
theorem dX14_mould_48 : decode cX14_mould 48 = .ok (.sipush 400, 3) := by decide +kernel
theorem dX14_mould_51 : decode cX14_mould 51 = .ok (.invokestatic 62, 3) := by decide +kernel
theorem dX14_mould_54 : decode cX14_mould 54 = .ok (.ifCond .eq 20, 3) := by decide +kernel
theorem dX14_mould_57 : decode cX14_mould 57 = .ok (.iload 6, 2) := by decide +kernel
theorem dX14_mould_59 : decode cX14_mould 59 = .ok (.bipush 100, 2) := by decide +kernel
theorem dX14_mould_6 : decode cX14_mould 6 = .ok (.ifCond .eq 68, 3) := by decide +kernel
theorem dX14_mould_61 : decode cX14_mould 61 = .ok (.sipush 400, 3) := by decide +kernel
theorem dX14_mould_64 : decode cX14_mould 64 = .ok (.invokestatic 62, 3) := by decide +kernel
theorem dX14_mould_67 : decode cX14_mould 67 = .ok (.ifCond .eq 7, 3) := by decide +kernel
theorem dX14_mould_70 : decode cX14_mould 70 = .ok (.iconst 1, 1) := by decide +kernel
theorem dX14_mould_71 : decode cX14_mould 71 = .ok (.goto 4, 3) := by decide +kernel
theorem dX14_mould_74 : decode cX14_mould 74 = .ok (.iconst 0, 1) := by decide +kernel
theorem dX14_mould_75 : decode cX14_mould 75 = .ok (.istore 7, 2) := by decide +kernel
theorem dX14_mould_77 : decode cX14_mould 77 = .ok (.aload_n 0, 1) := by decide +kernel
theorem dX14_mould_78 : decode cX14_mould 78 = .ok (.iload 7, 2) := by decide +kernel
theorem dX14_mould_80 : decode cX14_mould 80 = .ok (.ifCond .ne 7, 3) := by decide +kernel
theorem dX14_mould_83 : decode cX14_mould 83 = .ok (.iconst 1, 1) := by decide +kernel
theorem dX14_mould_84 : decode cX14_mould 84 = .ok (.goto 20, 3) := by decide +kernel
theorem dX14_mould_87 : decode cX14_mould 87 = .ok (.aload_n 0, 1) := by decide +kernel
theorem dX14_mould_88 : decode cX14_mould 88 = .ok (.getfield 10, 3) := by decide +kernel
theorem dX14_mould_9 : decode cX14_mould 9 = .ok (.iload_n 2, 1) := by decide +kernel
theorem dX14_mould_91 : decode cX14_mould 91 = .ok (.invokevirtual 66, 3) := by decide +kernel
theorem dX14_mould_94 : decode cX14_mould 94 = .ok (.bipush 12, 2) := by decide +kernel
theorem dX14_mould_96 : decode cX14_mould 96 = .ok (.if_icmp .ne 7, 3) := by decide +kernel
theorem dX14_ream_0 : decode cX14_ream 0 = .ok (.aload_n 0, 1) := by decide +kernel
theorem dX14_ream_1 : decode cX14_ream 1 = .ok (.iload_n 1, 1) := by decide +kernel
theorem dX14_ream_10 : decode cX14_ream 10 = .ok (.iconst 1, 1) := by decide +kernel
theorem dX14_ream_11 : decode cX14_ream 11 = .ok (.goto 20, 3) := by decide +kernel
theorem dX14_ream_14 : decode cX14_ream 14 = .ok (.aload_n 0, 1) := by decide +kernel
theorem dX14_ream_15 : decode cX14_ream 15 = .ok (.getfield 19, 3) := by decide +kernel
theorem dX14_ream_18 : decode cX14_ream 18 = .ok (.invokevirtual 66, 3) := by decide +kernel
theorem dX14_ream_2 : decode cX14_ream 2 = .ok (.iconst 0, 1) := by decide +kernel
theorem dX14_ream_21 : decode cX14_ream 21 = .ok (.bipush 20, 2) := by decide +kernel
theorem dX14_ream_23 : decode cX14_ream 23 = .ok (.if_icmp .ne 7, 3) := by decide +kernel
theorem dX14_ream_3 : decode cX14_ream 3 = .ok (.iconst 4, 1) := by decide +kernel
theorem dX14_ream_30 : decode cX14_ream 30 = .ok (.iconst 0, 1) := by decide +kernel
theorem dX14_ream_31 : decode cX14_ream 31 = .ok (.invokevirtual 74, 3) := by decide +kernel
theorem dX14_ream_34 : decode cX14_ream 34 = .ok (.ifCond .eq 5, 3) := by decide +kernel
theorem dX14_ream_37 : decode cX14_ream 37 = .ok (.iconst 0, 1) := by decide +kernel
theorem dX14_ream_38 : decode cX14_ream 38 = .ok (.ireturn, 1) := by decide +kernel
theorem dX14_ream_39 : decode cX14_ream 39 = .ok (.aload_n 0, 1) := by decide +kernel
theorem dX14_ream_4 : decode cX14_ream 4 = .ok (.invokestatic 62, 3) := by decide +kernel
theorem dX14_ream_40 : decode cX14_ream 40 = .ok (.getfield 19, 3) := by decide +kernel
theorem dX14_ream_43 : decode cX14_ream 43 = .ok (.new 156, 3) := by decide +kernel
theorem dX14_ream_46 : decode cX14_ream 46 = .ok (.dup, 1) := by decide +kernel
theorem dX14_ream_47 : decode cX14_ream 47 = .ok (.iload_n 1, 1) := by decide +kernel
theorem dX14_ream_48 : decode cX14_ream 48 = .ok (.invokespecial 158, 3) := by decide +kernel
theorem dX14_ream_51 : decode cX14_ream 51 = .ok (.invokevirtual 85, 3) := by decide +kernel
theorem dX14_ream_54 : decode cX14_ream 54 = .ok (.istore_n 2, 1) := by decide +kernel
theorem dX14_ream_55 : decode cX14_ream 55 = .ok (.aload_n 0, 1) := by decide +kernel
theorem dX14_ream_56 : decode cX14_ream 56 = .ok (.getfield 19, 3) := by decide +kernel
theorem dX14_ream_59 : decode cX14_ream 59 = .ok (.invokevirtual 66, 3) := by decide +kernel
theorem dX14_ream_62 : decode cX14_ream 62 = .ok (.iconst 1, 1) := by decide +kernel
theorem dX14_ream_63 : decode cX14_ream 63 = .ok (.isub, 1) := by decide +kernel
theorem dX14_ream_64 : decode cX14_ream 64 = .ok (.ireturn, 1) := by decide +kernel
theorem dX14_ream_7 : decode cX14_ream 7 = .ok (.ifCond .ne 7, 3) := by decide +kernel
theorem dX14_setAge_0 : decode cX14_setAge 0 = .ok (.aload_n 0, 1) := by decide +kernel
theorem dX14_setAge_1 : decode cX14_setAge 1 = .ok (.iload_n 1, 1) := by decide +kernel
theorem dX14_setAge_11 : decode cX14_setAge 11 = .ok (.iconst 0, 1) := by decide +kernel
theorem dX14_setAge_12 : decode cX14_setAge 12 = .ok (.goto 4, 3) := by decide +kernel
theorem dX14_setAge_15 : decode cX14_setAge 15 = .ok (.iconst 1, 1) := by decide +kernel
theorem dX14_setAge_16 : decode cX14_setAge 16 = .ok (.invokevirtual 74, 3) := by decide +kernel
theorem dX14_setAge_19 : decode cX14_setAge 19 = .ok (.ifCond .eq 5, 3) := by decide +kernel
theorem dX14_setAge_2 : decode cX14_setAge 2 = .ok (.iconst 0, 1) := by decide +kernel
theorem dX14_setAge_22 : decode cX14_setAge 22 = .ok (.iconst 0, 1) := by decide +kernel
theorem dX14_setAge_23 : decode cX14_setAge 23 = .ok (.ireturn, 1) := by decide +kernel
theorem dX14_setAge_24 : decode cX14_setAge 24 = .ok (.aload_n 0, 1) := by decide +kernel
theorem dX14_setAge_25 : decode cX14_setAge 25 = .ok (.getfield 35, 3) := by decide +kernel
theorem dX14_setAge_28 : decode cX14_setAge 28 = .ok (.istore_n 2, 1) := by decide +kernel
theorem dX14_setAge_29 : decode cX14_setAge 29 = .ok (.aload_n 0, 1) := by decide +kernel
theorem dX14_setAge_3 : decode cX14_setAge 3 = .ok (.bipush 100, 2) := by decide +kernel
theorem dX14_setAge_30 : decode cX14_setAge 30 = .ok (.iload_n 1, 1) := by decide +kernel
theorem dX14_setAge_31 : decode cX14_setAge 31 = .ok (.putfield 35, 3) := by decide +kernel
theorem dX14_setAge_34 : decode cX14_setAge 34 = .ok (.iload_n 2, 1) := by decide +kernel
theorem dX14_setAge_35 : decode cX14_setAge 35 = .ok (.ireturn, 1) := by decide +kernel
theorem dX14_setAge_5 : decode cX14_setAge 5 = .ok (.invokestatic 62, 3) := by decide +kernel
theorem dX14_setAge_8 : decode cX14_setAge 8 = .ok (.ifCond .eq 7, 3) := by decide +kernel
theorem dX14_setTolerance_0 : decode cX14_setTolerance 0 = .ok (.aload_n 0, 1) := by decide +kernel
theorem dX14_setTolerance_1 : decode cX14_setTolerance 1 = .ok (.iload_n 1, 1) := by decide +kernel
theorem dX14_setTolerance_11 : decode cX14_setTolerance 11 = .ok (.iconst 0, 1) := by decide +kernel
theorem dX14_setTolerance_12 : decode cX14_setTolerance 12 = .ok (.goto 4, 3) := by decide +kernel
theorem dX14_setTolerance_15 : decode cX14_setTolerance 15 = .ok (.iconst 1, 1) := by decide +kernel
theorem dX14_setTolerance_16 : decode cX14_setTolerance 16 = .ok (.invokevirtual 74, 3) := by decide +kernel
theorem dX14_setTolerance_19 : decode cX14_setTolerance 19 = .ok (.ifCond .eq 5, 3) := by decide +kernel
theorem dX14_setTolerance_2 : decode cX14_setTolerance 2 = .ok (.iconst 0, 1) := by decide +kernel
theorem dX14_setTolerance_22 : decode cX14_setTolerance 22 = .ok (.iconst 0, 1) := by decide +kernel
theorem dX14_setTolerance_23 : decode cX14_setTolerance 23 = .ok (.ireturn, 1) := by decide +kernel
theorem dX14_setTolerance_24 : decode cX14_setTolerance 24 = .ok (.aload_n 0, 1) := by decide +kernel
theorem dX14_setTolerance_25 : decode cX14_setTolerance 25 = .ok (.getfield 31, 3) := by decide +kernel
theorem dX14_setTolerance_28 : decode cX14_setTolerance 28 = .ok (.istore_n 2, 1) := by decide +kernel
theorem dX14_setTolerance_29 : decode cX14_setTolerance 29 = .ok (.aload_n 0, 1) := by decide +kernel
theorem dX14_setTolerance_3 : decode cX14_setTolerance 3 = .ok (.bipush 50, 2) := by decide +kernel
theorem dX14_setTolerance_30 : decode cX14_setTolerance 30 = .ok (.iload_n 1, 1) := by decide +kernel
theorem dX14_setTolerance_31 : decode cX14_setTolerance 31 = .ok (.putfield 31, 3) := by decide +kernel
theorem dX14_setTolerance_34 : decode cX14_setTolerance 34 = .ok (.iload_n 2, 1) := by decide +kernel
theorem dX14_setTolerance_35 : decode cX14_setTolerance 35 = .ok (.ireturn, 1) := by decide +kernel
theorem dX14_setTolerance_5 : decode cX14_setTolerance 5 = .ok (.invokestatic 62, 3) := by decide +kernel
theorem dX14_setTolerance_8 : decode cX14_setTolerance 8 = .ok (.ifCond .eq 7, 3) := by decide +kernel
theorem dX14_unmerge_0 : decode cX14_unmerge 0 = .ok (.aload_n 0, 1) := by decide +kernel
theorem dX14_unmerge_1 : decode cX14_unmerge 1 = .ok (.aload_n 0, 1) := by decide +kernel
theorem dX14_unmerge_11 : decode cX14_unmerge 11 = .ok (.iconst 1, 1) := by decide +kernel
theorem dX14_unmerge_12 : decode cX14_unmerge 12 = .ok (.goto 4, 3) := by decide +kernel
theorem dX14_unmerge_16 : decode cX14_unmerge 16 = .ok (.invokevirtual 74, 3) := by decide +kernel
theorem dX14_unmerge_19 : decode cX14_unmerge 19 = .ok (.ifCond .eq 5, 3) := by decide +kernel
theorem dX14_unmerge_2 : decode cX14_unmerge 2 = .ok (.getfield 28, 3) := by decide +kernel
theorem dX14_unmerge_22 : decode cX14_unmerge 22 = .ok (.iconst 0, 1) := by decide +kernel
theorem dX14_unmerge_23 : decode cX14_unmerge 23 = .ok (.ireturn, 1) := by decide +kernel
theorem dX14_unmerge_5 : decode cX14_unmerge 5 = .ok (.invokevirtual 133, 3) := by decide +kernel
theorem dX14_unmerge_8 : decode cX14_unmerge 8 = .ok (.ifCond .eq 7, 3) := by decide +kernel
theorem dX14_usedShare_0 : decode cX14_usedShare 0 = .ok (.aload_n 0, 1) := by decide +kernel
theorem dX14_usedShare_1 : decode cX14_usedShare 1 = .ok (.aload_n 0, 1) := by decide +kernel
theorem dX14_usedShare_13 : decode cX14_usedShare 13 = .ok (.invokevirtual 74, 3) := by decide +kernel
theorem dX14_usedShare_16 : decode cX14_usedShare 16 = .ok (.ifCond .eq 7, 3) := by decide +kernel
theorem dX14_usedShare_19 : decode cX14_usedShare 19 = .ok (.fconst 0, 1) := by decide +kernel
theorem dX14_usedShare_2 : decode cX14_usedShare 2 = .ok (.getfield 153, 3) := by decide +kernel
theorem dX14_usedShare_20 : decode cX14_usedShare 20 = .ok (.goto 14, 3) := by decide +kernel
theorem dX14_usedShare_34 : decode cX14_usedShare 34 = .ok (.freturn, 1) := by decide +kernel
theorem dX14_usedShare_5 : decode cX14_usedShare 5 = .ok (.ifCond .ne 7, 3) := by decide +kernel
theorem dX14_usedShare_8 : decode cX14_usedShare 8 = .ok (.iconst 1, 1) := by decide +kernel
theorem dX14_usedShare_9 : decode cX14_usedShare 9 = .ok (.goto 4, 3) := by decide +kernel
theorem dX14_used_0 : decode cX14_used 0 = .ok (.iconst 0, 1) := by decide +kernel
theorem dX14_used_1 : decode cX14_used 1 = .ok (.istore_n 1, 1) := by decide +kernel
theorem dX14_used_10 : decode cX14_used 10 = .ok (.aload_n 2, 1) := by decide +kernel
theorem dX14_used_11 : decode cX14_used 11 = .ok (.invokeinterface 171 1, 5) := by decide +kernel
theorem dX14_used_16 : decode cX14_used 16 = .ok (.ifCond .eq 26, 3) := by decide +kernel
theorem dX14_used_2 : decode cX14_used 2 = .ok (.aload_n 0, 1) := by decide +kernel
theorem dX14_used_3 : decode cX14_used 3 = .ok (.getfield 22, 3) := by decide +kernel
theorem dX14_used_42 : decode cX14_used 42 = .ok (.iload_n 1, 1) := by decide +kernel
theorem dX14_used_43 : decode cX14_used 43 = .ok (.ireturn, 1) := by decide +kernel
theorem dX14_used_6 : decode cX14_used 6 = .ok (.invokevirtual 167, 3) := by decide +kernel
theorem dX14_used_9 : decode cX14_used 9 = .ok (.astore_n 2, 1) := by decide +kernel
theorem dX14_years_0 : decode cX14_years 0 = .ok (.aload_n 0, 1) := by decide +kernel
theorem dX14_years_1 : decode cX14_years 1 = .ok (.aload_n 0, 1) := by decide +kernel
theorem dX14_years_10 : decode cX14_years 10 = .ok (.goto 4, 3) := by decide +kernel
theorem dX14_years_14 : decode cX14_years 14 = .ok (.invokevirtual 74, 3) := by decide +kernel
theorem dX14_years_17 : decode cX14_years 17 = .ok (.ifCond .eq 5, 3) := by decide +kernel
theorem dX14_years_2 : decode cX14_years 2 = .ok (.iconst (-1), 1) := by decide +kernel
theorem dX14_years_22 : decode cX14_years 22 = .ok (.lconst 0, 1) := by decide +kernel
theorem dX14_years_23 : decode cX14_years 23 = .ok (.lstore_n 1, 1) := by decide +kernel
theorem dX14_years_24 : decode cX14_years 24 = .ok (.iconst 0, 1) := by decide +kernel
theorem dX14_years_25 : decode cX14_years 25 = .ok (.istore_n 3, 1) := by decide +kernel
theorem dX14_years_26 : decode cX14_years 26 = .ok (.iload_n 3, 1) := by decide +kernel
theorem dX14_years_27 : decode cX14_years 27 = .ok (.aload_n 0, 1) := by decide +kernel
theorem dX14_years_28 : decode cX14_years 28 = .ok (.getfield 22, 3) := by decide +kernel
theorem dX14_years_3 : decode cX14_years 3 = .ok (.invokevirtual 272, 3) := by decide +kernel
theorem dX14_years_31 : decode cX14_years 31 = .ok (.invokevirtual 66, 3) := by decide +kernel
theorem dX14_years_34 : decode cX14_years 34 = .ok (.if_icmp .ge 28, 3) := by decide +kernel
theorem dX14_years_6 : decode cX14_years 6 = .ok (.ifCond .eq 7, 3) := by decide +kernel
theorem dX14_years_62 : decode cX14_years 62 = .ok (.lload_n 1, 1) := by decide +kernel
theorem dX14_years_63 : decode cX14_years 63 = .ok (.lreturn, 1) := by decide +kernel
theorem dX14_years_9 : decode cX14_years 9 = .ok (.iconst 0, 1) := by decide +kernel
theorem dX9_init_0 : decode cX9_init 0 = .ok (.aload_n 0, 1) := by decide +kernel
theorem dX9_init_1 : decode cX9_init 1 = .ok (.invokespecial 1, 3) := by decide +kernel
theorem dX9_init_12 : decode cX9_init 12 = .ok (.putfield 10, 3) := by decide +kernel
theorem dX9_init_15 : decode cX9_init 15 = .ok (.aload_n 0, 1) := by decide +kernel
theorem dX9_init_16 : decode cX9_init 16 = .ok (.new 7, 3) := by decide +kernel
theorem dX9_init_19 : decode cX9_init 19 = .ok (.dup, 1) := by decide +kernel
theorem dX9_init_20 : decode cX9_init 20 = .ok (.invokespecial 9, 3) := by decide +kernel
theorem dX9_init_23 : decode cX9_init 23 = .ok (.putfield 16, 3) := by decide +kernel
theorem dX9_init_26 : decode cX9_init 26 = .ok (.aload_n 0, 1) := by decide +kernel
theorem dX9_init_27 : decode cX9_init 27 = .ok (.iload_n 1, 1) := by decide +kernel
theorem dX9_init_28 : decode cX9_init 28 = .ok (.putfield 19, 3) := by decide +kernel
theorem dX9_init_31 : decode cX9_init 31 = .ok (.aload_n 0, 1) := by decide +kernel
theorem dX9_init_32 : decode cX9_init 32 = .ok (.iconst 1, 1) := by decide +kernel
theorem dX9_init_33 : decode cX9_init 33 = .ok (.iload_n 2, 1) := by decide +kernel
theorem dX9_init_34 : decode cX9_init 34 = .ok (.ishl, 1) := by decide +kernel
theorem dX9_init_35 : decode cX9_init 35 = .ok (.putfield 23, 3) := by decide +kernel
theorem dX9_init_38 : decode cX9_init 38 = .ok (.return_, 1) := by decide +kernel
theorem dX9_init_4 : decode cX9_init 4 = .ok (.aload_n 0, 1) := by decide +kernel
theorem dX9_init_5 : decode cX9_init 5 = .ok (.new 7, 3) := by decide +kernel
theorem dX9_init_8 : decode cX9_init 8 = .ok (.dup, 1) := by decide +kernel
theorem dX9_init_9 : decode cX9_init 9 = .ok (.invokespecial 9, 3) := by decide +kernel
set_option maxHeartbeats 4000000 in
set_option maxRecDepth 100000 in
/-- add(int[], empty, 0) -/
theorem k_Jx4a65c_add_72be8_a (l : Launch) (G : va_G) (z : Nat) (h0 : Nat) (c0 : Int32) (v : Nat) (cyE : ClassId) (nE : Nat) (fE : Nat → Int32) (sz : Nat)  : Met l yJx4a65c_add_72be8 wz_Jx4a65c_add_72be8 ({ frames := 3, cells := 1, slots := 10, locals := 57 }) (va_Pc [.ref h0, .ref v, .ref z, .int 0] (PW G z [(h0, .inr (3, [.int c0, .ref z, .int 0])), (v, .inl (cyE, nE, .inl (fE)))] [(cyE, .int)] sz)) (va_Qv (fun (_ : Unit) => True) (fun (_ : Unit) (t : State) => ∃ (qa : Nat), QW G [(h0, .inr (3, [.int c0, .ref qa, .int 1]))] [] (va_A [(h0, .inr (3, [.int c0, .ref z, .int 0])), (v, .inl (cyE, nE, .inl (fE)))] sz) t) (va_A [(h0, .inr (3, [.int c0, .ref z, .int 0])), (v, .inl (cyE, nE, .inl (fE)))] sz)) 1 10 (va_A [(h0, .inr (3, [.int c0, .ref z, .int 0])), (v, .inl (cyE, nE, .inl (fE)))] sz) := by
  refine va_MetF (cc := cJx4a65c_add_72be8) (maxL := 4) (ret := none) (by decide) rfl ?_
  intro p e s m args below meth c s₁ B hml hv
  obtain ⟨rfl, rfl, hP, hK, hD0, hG⟩ := hv
  have hx := B.exec
  have hb := B.bytes
  have hr := B.returns
  have hts := atoms_spec (ws := wz_Jx4a65c_add_72be8) B.pre
  have hg : ∀ w ∈ lw_good, w.before _ s = true := fun w h => hts w (List.mem_cons_of_mem _ h)
  have hown : s.vm.findClass RJx4a65c = some m.cls := findClass_of_methodNamed B.named
  have hlocks := B.notSynchronized
  have hD := hD0.self (sz := s.heap.size)
  generalize hAe : va_A [(h0, .inr (3, [.int c0, .ref z, .int 0])), (v, .inl (cyE, nE, .inl (fE)))] s.heap.size = A at hD hG ⊢
  have hA : ∀ q : Nat, s.heap.size ≤ q → A q := fun q h => by rw [← hAe]; exact Or.inr h
  have hS : va_S A s.heap s.heap [] := va_S.rf
  have hl := lv_entry ([.ref h0, .ref v, .ref z, .int 0]) (n := 4) (Nat.le_of_ble_eq_true rfl)
  rw [lg_entry_eq]
  generalize (lg_sl ([.ref h0, .ref v, .ref z, .int 0]) ++ List.replicate (4 - (lg_sl ([.ref h0, .ref v, .ref z, .int 0])).length) Slot.unset).toArray = ls at hl ⊢
  have hl : lv_has ls 4 [(0, .ref h0), (1, .ref v), (2, .ref z), (3, .int 0)] := hl
  refine lv_iload_n hx hb dJx4a65c_add_72be8_0 rfl (lv_at hl 3 rfl) ?_
  refine lv_aload_n hx hb dJx4a65c_add_72be8_1 rfl (lv_at hl 2 rfl) ?_
  refine va_tlen (v := 0) hx hb hG.2.2.2.1 hS rfl dJx4a65c_add_72be8_2 ?_
  refine lv_icmp_ne (tgt := 11) hx hb dJx4a65c_add_72be8_3 (by decide) (fun c_1 => absurd rfl c_1) (fun c_1 => ?_)
  refine lv_aload_n hx hb dJx4a65c_add_72be8_6 rfl (lv_at hl 0 rfl) ?_
  have hPc := hP.sub (ws' := [(h0, .inr (3, [.int c0, .ref z, .int 0]))]) [0] rfl
  have hKc := hK.sub (tys' := []) [] rfl
  have hDc := hD.sub (ws' := [(h0, .inr (3, [.int c0, .ref z, .int 0]))]) [0] (by decide) rfl
  have hFc := va_free (wc := [(h0, .inr (3, [.int c0, .ref z, .int 0]))]) hD hS hA [0] rfl
  refine va_callr (va_runV (As := []) (rest := []) ⟨hx, hb, hml, hown, hts⟩ (k_Jx4a65c_grow_d5877 l G z h0 c0 s.heap.size ) (cwV 0 hts (lw_goodApp (lw_4 q456 q458 qs12 q4) q459) rfl rfl rfl (by decide +kernel) ⟨Nat.le_of_ble_eq_true rfl, Nat.le_of_ble_eq_true rfl⟩) ⟨PW.blind, va_recv hK hP (ci := 3) (q0 := 0) rfl rfl, PW.of hPc hKc hDc hG hS hFc [.ref h0]⟩ rfl rfl hl.1 rfl (lv_room (Nat.le_of_ble_eq_true rfl)) dJx4a65c_add_72be8_7 ⟨Nat.le_of_ble_eq_true rfl, Nat.le_of_ble_eq_true rfl⟩) hS (fun q _ h => hFc q h) hFc (fun u r_3 t_5 H_2 locs ht hvm hw_4 hB hz1 hk1 hS => ?_)
  obtain ⟨cy_6, hB⟩ := hB
  obtain ⟨hP, hD, hK⟩ := QW.join (wr := [(v, .inl (cyE, nE, .inl (fE)))]) (w1 := [(h0, .inr (3, [.int c0, .ref r_3, .int 0])), (r_3, .inl (cy_6, 10, .inr (.inr (.inr (.inr (fun _ => none))))))]) hP hD hK [0] [1] rfl rfl (by decide) (by decide) hk1 hFc ht hvm hB
  have hP : va_P G vwCl ([(v, .inl (cyE, nE, .inl (fE))), (h0, .inr (3, [.int c0, .ref r_3, .int 0])), (r_3, .inl (cy_6, 10, .inr (.inr (.inr (.inr (fun _ => none))))))]) H_2 := hP
  have hD : va_D A ([(v, .inl (cyE, nE, .inl (fE))), (h0, .inr (3, [.int c0, .ref r_3, .int 0])), (r_3, .inl (cy_6, 10, .inr (.inr (.inr (.inr (fun _ => none))))))]) := hD
  have hK : va_K G vwCl [(cyE, .int), (cy_6, .object "java/lang/Object")] s := hK
  refine W.widen (k := 1) (n := 10) (Nat.le_of_ble_eq_true rfl) (Nat.le_of_ble_eq_true rfl) ?_
  refine lv_astore_n (lv' := [(2, .ref r_3), (0, .ref h0), (1, .ref v), (3, .int 0)]) hx hb dJx4a65c_add_72be8_10 rfl hl (by decide) rfl (fun ls hl => ?_)
  refine lv_aload_n hx hb dJx4a65c_add_72be8_11 rfl (lv_at hl 0 rfl) ?_
  refine lv_iload_n hx hb dJx4a65c_add_72be8_12 rfl (lv_at hl 3 rfl) ?_
  refine lv_aload_n hx hb dJx4a65c_add_72be8_13 rfl (lv_at hl 2 rfl) ?_
  refine va_astqM hx hb hK hP hD hS 2 1 rfl rfl (z_any hK hP 0 0 rfl rfl (hG.2.2.2.2.1 _ qf1773)) (by unfold vp_in; decide +kernel) dJx4a65c_add_72be8_14 (fun H_7 locs hP hD hS => ?_)
  have hP : va_P G vwCl ([(v, .inl (cyE, nE, .inl (fE))), (h0, .inr (3, [.int c0, .ref r_3, .int 0])), (r_3, .inl (cy_6, 10, .inr (.inr (.inr (.inr (va_up (fun _ => none) (0 : Int32).toNatClampNeg (some v)))))))]) H_7 := hP
  have hD : va_D A ([(v, .inl (cyE, nE, .inl (fE))), (h0, .inr (3, [.int c0, .ref r_3, .int 0])), (r_3, .inl (cy_6, 10, .inr (.inr (.inr (.inr (va_up (fun _ => none) (0 : Int32).toNatClampNeg (some v)))))))]) := hD
  refine lv_aload_n hx hb dJx4a65c_add_72be8_15 rfl (lv_at hl 1 rfl) ?_
  refine lv_iload_n hx hb dJx4a65c_add_72be8_16 rfl (lv_at hl 3 rfl) ?_
  refine lv_iconst (v := 1) hx hb dJx4a65c_add_72be8_17 (by decide) ?_
  refine lv_iadd hx hb dJx4a65c_add_72be8_18 ?_
  refine lv_topi (fun f_8 ef_8 => ?_)
  obtain rfl : f_8 = 1 := ef_8.trans (by decide)
  refine va_put (D := G) (ci := 3) (v := .int 1) (ty := .int) (C := RJx4a65c) (T := TJx4a65c) (N := 3) hx hb hg in_Jx4a65c tyJx4a65c tyJx4a65c_ok nmJx4a65c hown hK hP hD hS 1 rfl rfl 2 (by decide) (hg _ q62) (fun _ h9 => h9) rfl (by decide +kernel) rfl rfl (Nat.le_of_ble_eq_true rfl) dJx4a65c_add_72be8_19 (fun H_9 locs hP hD hS => ?_)
  have hP : va_P G vwCl ([(v, .inl (cyE, nE, .inl (fE))), (h0, .inr (3, [.int c0, .ref r_3, .int 1])), (r_3, .inl (cy_6, 10, .inr (.inr (.inr (.inr (va_up (fun _ => none) (0 : Int32).toNatClampNeg (some v)))))))]) H_9 := hP
  have hD : va_D A ([(v, .inl (cyE, nE, .inl (fE))), (h0, .inr (3, [.int c0, .ref r_3, .int 1])), (r_3, .inl (cy_6, 10, .inr (.inr (.inr (.inr (va_up (fun _ => none) (0 : Int32).toNatClampNeg (some v)))))))]) := hD
  refine W.widen (k := 1) (n := 10) (Nat.le_of_ble_eq_true rfl) (Nat.le_of_ble_eq_true rfl) ?_
  have hP9 := hP.sub (ws' := [(h0, .inr (3, [.int c0, .ref r_3, .int 1]))]) [1] rfl
  have hD9 := hD.sub (ws' := [(h0, .inr (3, [.int c0, .ref r_3, .int 1]))]) [1] (by decide) rfl
  have hK9 := hK.sub (tys' := []) [] rfl
  exact W.vret hx hb hr (fun t ht hW => ⟨⟨(), rfl, trivial, ⟨r_3, QW.of hP9 hK9 hD9 ht hW.alike⟩⟩, hS.F ht⟩) hS.2.2 dJx4a65c_add_72be8_22

set_option maxHeartbeats 4000000 in
set_option maxRecDepth 100000 in
/-- add(int[]) to an empty list -/
theorem k_Jx4a65c_add_9ea2d_a (l : Launch) (G : va_G) (z : Nat) (h0 : Nat) (c0 : Int32) (v : Nat) (cyE : ClassId) (nE : Nat) (fE : Nat → Int32) (sz : Nat)  : Met l yJx4a65c_add_9ea2d wz_Jx4a65c_add_9ea2d ({ frames := 4, cells := 1, slots := 10, locals := 80 }) (va_Pc [.ref h0, .ref v] (PW G z [(h0, .inr (3, [.int c0, .ref z, .int 0])), (v, .inl (cyE, nE, .inl (fE)))] [(cyE, .int)] sz)) (va_Qi (fun (r : Int32) (_ : Unit) => r = 1) (fun (_ : Unit) (t : State) => ∃ (c1 : Int32), ∃ (qa : Nat), QW G [(h0, .inr (3, [.int c1, .ref qa, .int 1]))] [] (va_A [(h0, .inr (3, [.int c0, .ref z, .int 0])), (v, .inl (cyE, nE, .inl (fE)))] sz) t) (va_A [(h0, .inr (3, [.int c0, .ref z, .int 0])), (v, .inl (cyE, nE, .inl (fE)))] sz)) 1 10 (va_A [(h0, .inr (3, [.int c0, .ref z, .int 0])), (v, .inl (cyE, nE, .inl (fE)))] sz) := by
  refine va_MetF (cc := cJx4a65c_add_9ea2d) (maxL := 2) (ret := (Option.some Jvm.ClassFile.FieldType.boolean)) (by decide) rfl ?_
  intro p e s m args below meth c s₁ B hml hv
  obtain ⟨rfl, rfl, hP, hK, hD0, hG⟩ := hv
  have hx := B.exec
  have hb := B.bytes
  have hr := B.returns
  have hts := atoms_spec (ws := wz_Jx4a65c_add_9ea2d) B.pre
  have hg : ∀ w ∈ lw_good, w.before _ s = true := fun w h => hts w (List.mem_cons_of_mem _ h)
  have hown : s.vm.findClass RJx4a65c = some m.cls := findClass_of_methodNamed B.named
  have hlocks := B.notSynchronized
  have hD := hD0.self (sz := s.heap.size)
  generalize hAe : va_A [(h0, .inr (3, [.int c0, .ref z, .int 0])), (v, .inl (cyE, nE, .inl (fE)))] s.heap.size = A at hD hG ⊢
  have hA : ∀ q : Nat, s.heap.size ≤ q → A q := fun q h => by rw [← hAe]; exact Or.inr h
  have hS : va_S A s.heap s.heap [] := va_S.rf
  have hl := lv_entry ([.ref h0, .ref v]) (n := 2) (Nat.le_of_ble_eq_true rfl)
  rw [lg_entry_eq]
  generalize (lg_sl ([.ref h0, .ref v]) ++ List.replicate (2 - (lg_sl ([.ref h0, .ref v])).length) Slot.unset).toArray = ls at hl ⊢
  have hl : lv_has ls 2 [(0, .ref h0), (1, .ref v)] := hl
  refine lv_aload_n hx hb dJx4a65c_add_9ea2d_0 rfl (lv_at hl 0 rfl) ?_
  refine lv_dup hx hb dJx4a65c_add_9ea2d_1 rfl ?_
  refine va_get (D := G) (ci := 3) (v := .int c0) (C := RJx4a65c) (T := TJx4a65c) (N := 3) hx hb hg in_Jx4a65c hown hK hP 0 rfl rfl 0 (by decide) (hg _ q66) (fun x9 h9 => u_same (hg _ q65) x9 h9) rfl dJx4a65c_add_9ea2d_2 ?_
  refine lv_iconst (v := 1) hx hb dJx4a65c_add_9ea2d_5 (by decide) ?_
  refine lv_iadd hx hb dJx4a65c_add_9ea2d_6 ?_
  refine lv_topi (fun f_1 ef_1 => ?_)
  refine va_put (D := G) (ci := 3) (v := .int f_1) (ty := .int) (C := RJx4a65c) (T := TJx4a65c) (N := 3) hx hb hg in_Jx4a65c tyJx4a65c tyJx4a65c_ok nmJx4a65c hown hK hP hD hS 0 rfl rfl 0 (by decide) (hg _ q66) (fun x9 h9 => u_same (hg _ q65) x9 h9) rfl (by decide +kernel) rfl rfl (Nat.le_of_ble_eq_true rfl) dJx4a65c_add_9ea2d_7 (fun H_2 locs hP hD hS => ?_)
  have hP : va_P G vwCl ([(h0, .inr (3, [.int f_1, .ref z, .int 0])), (v, .inl (cyE, nE, .inl (fE)))]) H_2 := hP
  have hD : va_D A ([(h0, .inr (3, [.int f_1, .ref z, .int 0])), (v, .inl (cyE, nE, .inl (fE)))]) := hD
  refine lv_aload_n hx hb dJx4a65c_add_9ea2d_10 rfl (lv_at hl 0 rfl) ?_
  refine lv_aload_n hx hb dJx4a65c_add_9ea2d_11 rfl (lv_at hl 1 rfl) ?_
  refine lv_aload_n hx hb dJx4a65c_add_9ea2d_12 rfl (lv_at hl 0 rfl) ?_
  refine va_get (D := G) (ci := 3) (v := .ref z) (C := RJx4a65c) (T := TJx4a65c) (N := 3) hx hb hg in_Jx4a65c hown hK hP 0 rfl rfl 1 (by decide) (hg _ q59) (fun _ h9 => h9) rfl dJx4a65c_add_9ea2d_13 ?_
  refine lv_aload_n hx hb dJx4a65c_add_9ea2d_16 rfl (lv_at hl 0 rfl) ?_
  refine va_get (D := G) (ci := 3) (v := .int 0) (C := RJx4a65c) (T := TJx4a65c) (N := 3) hx hb hg in_Jx4a65c hown hK hP 0 rfl rfl 2 (by decide) (hg _ q62) (fun _ h9 => h9) rfl dJx4a65c_add_9ea2d_17 ?_
  have hPc := hP.sub (ws' := [(h0, .inr (3, [.int f_1, .ref z, .int 0])), (v, .inl (cyE, nE, .inl (fE)))]) [0, 1] rfl
  have hKc := hK.sub (tys' := [(cyE, .int)]) [0] rfl
  have hDc := hD.sub (ws' := [(h0, .inr (3, [.int f_1, .ref z, .int 0])), (v, .inl (cyE, nE, .inl (fE)))]) [0, 1] (by decide) rfl
  have hFc := va_free (wc := [(h0, .inr (3, [.int f_1, .ref z, .int 0])), (v, .inl (cyE, nE, .inl (fE)))]) hD hS hA [0, 1] rfl
  refine va_callv (va_runV (As := [.ref v, .ref z, .int 0]) (rest := []) ⟨hx, hb, hml, hown, hts⟩ (k_Jx4a65c_add_72be8_a l G z h0 f_1 v cyE nE fE H_2.size ) (cwV 3 hts (lw_goodApp (lw_4 q452 q454 qs11 q4) q455) rfl rfl rfl (by decide +kernel) ⟨Nat.le_of_ble_eq_true rfl, Nat.le_of_ble_eq_true rfl⟩) ⟨PW.blind, va_recv hK hP (ci := 3) (q0 := 0) rfl rfl, PW.of hPc hKc hDc hG hS hFc [.ref h0, .ref v, .ref z, .int 0]⟩ rfl rfl hl.1 rfl (lv_room (Nat.le_of_ble_eq_true rfl)) dJx4a65c_add_9ea2d_20 ⟨Nat.le_of_ble_eq_true rfl, Nat.le_of_ble_eq_true rfl⟩) hS (fun q _ h => hFc q h) hFc (fun u t_6 H_3 locs ht hvm hw_5 hB hz1 hk1 hS => ?_)
  obtain ⟨qa_7, hB⟩ := hB
  obtain ⟨hP, hD, hK⟩ := QW.join (wr := []) (w1 := [(h0, .inr (3, [.int f_1, .ref qa_7, .int 1]))]) hP hD hK [0, 1] [] rfl rfl (by decide) (by decide) hk1 hFc ht hvm hB
  have hP : va_P G vwCl ([(h0, .inr (3, [.int f_1, .ref qa_7, .int 1]))]) H_3 := hP
  have hD : va_D A ([(h0, .inr (3, [.int f_1, .ref qa_7, .int 1]))]) := hD
  have hK : va_K G vwCl [(cyE, .int)] s := hK
  refine W.widen (k := 1) (n := 10) (Nat.le_of_ble_eq_true rfl) (Nat.le_of_ble_eq_true rfl) ?_
  refine lv_iconst (v := 1) hx hb dJx4a65c_add_9ea2d_23 (by decide) ?_
  refine W.widen (k := 1) (n := 10) (Nat.le_of_ble_eq_true rfl) (Nat.le_of_ble_eq_true rfl) ?_
  have hP9 := hP.sub (ws' := [(h0, .inr (3, [.int f_1, .ref qa_7, .int 1]))]) [0] rfl
  have hD9 := hD.sub (ws' := [(h0, .inr (3, [.int f_1, .ref qa_7, .int 1]))]) [0] (by decide) rfl
  have hK9 := hK.sub (tys' := []) [] rfl
  exact W.zret (v := 1) hx hb hr rfl (fun t ht hW => ⟨⟨1, (), rfl, rfl, ⟨f_1, qa_7, QW.of hP9 hK9 hD9 ht hW.alike⟩⟩, hS.F ht⟩) hS.2.2 dJx4a65c_add_9ea2d_24

abbrev wz_X11_init : List Cond := .code yX11_init cX11_init 5 none :: lw_good
set_option maxHeartbeats 4000000 in
set_option maxRecDepth 100000 in
/-- X11 <init> -/
theorem k_X11_init (l : Launch) (G : va_G) (z : Nat) (h0 : Nat) (p0 : Int32) (p1 : Int32) (p2 : Int32) (dd : Nat) (sz : Nat)  : Met l yX11_init wz_X11_init ({ frames := 4, cells := 2, slots := 6, locals := 80 }) (va_Pc [.ref h0, .int p0, .int p1, .int p2, .ref dd] (PW G z [(h0, .inr (15, [.int 0, .int 0, .int 0, .null, .int 0, .int 0, .int 0, .null, .null]))] [] sz)) (va_Qv (fun (_ : Unit) => True) (fun (_ : Unit) (t : State) => ∃ (fsx : List Value), QW G [(h0, .inr (15, fsx))] [] (va_A [(h0, .inr (15, [.int 0, .int 0, .int 0, .null, .int 0, .int 0, .int 0, .null, .null]))] sz) t) (va_A [(h0, .inr (15, [.int 0, .int 0, .int 0, .null, .int 0, .int 0, .int 0, .null, .null]))] sz)) 2 6 (va_A [(h0, .inr (15, [.int 0, .int 0, .int 0, .null, .int 0, .int 0, .int 0, .null, .null]))] sz) := by
  refine Met.ofW (cc := cX11_init) (maxL := 5) (ret := none) (by decide) rfl ?_
  intro p e s m args below meth c s₁ B hml hv
  obtain ⟨rfl, rfl, hP, hK, hD0, hG⟩ := hv
  have hx := B.exec
  have hb := B.bytes
  have hr := B.returns
  have hts := atoms_spec (ws := wz_X11_init) B.pre
  have hg : ∀ w ∈ lw_good, w.before _ s = true := fun w h => hts w (List.mem_cons_of_mem _ h)
  have hown : s.vm.findClass RX11 = some m.cls := findClass_of_methodNamed B.named
  have hlocks := B.notSynchronized
  have hin : meth.name = "<init>" := (name_of_methodNamed B.named B.method).1
  have hD := hD0.self (sz := s.heap.size)
  generalize hAe : va_A [(h0, .inr (15, [.int 0, .int 0, .int 0, .null, .int 0, .int 0, .int 0, .null, .null]))] s.heap.size = A at hD hG ⊢
  have hA : ∀ q : Nat, s.heap.size ≤ q → A q := fun q h => by rw [← hAe]; exact Or.inr h
  have hS : va_S A s.heap s.heap [] := va_S.rf
  have hl := lv_entry ([.ref h0, .int p0, .int p1, .int p2, .ref dd]) (n := 5) (Nat.le_of_ble_eq_true rfl)
  rw [lg_entry_eq]
  generalize (lg_sl ([.ref h0, .int p0, .int p1, .int p2, .ref dd]) ++ List.replicate (5 - (lg_sl ([.ref h0, .int p0, .int p1, .int p2, .ref dd])).length) Slot.unset).toArray = ls at hl ⊢
  have hl : lv_has ls 5 [(0, .ref h0), (1, .int p0), (2, .int p1), (3, .int p2), (4, .ref dd)] := hl
  refine lv_aload_n hx hb dX11_init_0 rfl (lv_at hl 0 rfl) ?_
  refine W.objInit hx hb hown (hg _ q1257) (hg _ q43) (hg _ q44) rfl (by rw [hml]; exact hl.1) rfl dX11_init_1 (Nat.le_of_ble_eq_true rfl) (Nat.le_of_ble_eq_true rfl) ?_
  refine W.eq (g2 := F0 m 4 ls []) rfl ?_
  refine lv_aload_n hx hb dX11_init_4 rfl (lv_at hl 0 rfl) ?_
  refine lv_iconst (v := (-1)) hx hb dX11_init_5 (by decide) ?_
  refine va_put (D := G) (ci := 15) (v := .int (-1)) (ty := .int) (C := RX11) (T := TX11) (N := 9) hx hb hg in_X11 tyX11 tyX11_ok nmX11 hown hK hP hD hS 0 rfl rfl 4 (by decide) (hg _ q1267) (fun _ h9 => h9) rfl (by decide +kernel) rfl rfl (Nat.le_of_ble_eq_true rfl) dX11_init_6 (fun H_1 locs hP hD hS => ?_)
  have hP : va_P G vwCl ([(h0, .inr (15, [.int 0, .int 0, .int 0, .null, .int (-1), .int 0, .int 0, .null, .null]))]) H_1 := hP
  have hD : va_D A ([(h0, .inr (15, [.int 0, .int 0, .int 0, .null, .int (-1), .int 0, .int 0, .null, .null]))]) := hD
  refine lv_aload_n hx hb dX11_init_9 rfl (lv_at hl 0 rfl) ?_
  refine lv_iconst (v := (-1)) hx hb dX11_init_10 (by decide) ?_
  refine va_put (D := G) (ci := 15) (v := .int (-1)) (ty := .int) (C := RX11) (T := TX11) (N := 9) hx hb hg in_X11 tyX11 tyX11_ok nmX11 hown hK hP hD hS 0 rfl rfl 5 (by decide) (hg _ q1269) (fun _ h9 => h9) rfl (by decide +kernel) rfl rfl (Nat.le_of_ble_eq_true rfl) dX11_init_11 (fun H_2 locs hP hD hS => ?_)
  have hP : va_P G vwCl ([(h0, .inr (15, [.int 0, .int 0, .int 0, .null, .int (-1), .int (-1), .int 0, .null, .null]))]) H_2 := hP
  have hD : va_D A ([(h0, .inr (15, [.int 0, .int 0, .int 0, .null, .int (-1), .int (-1), .int 0, .null, .null]))]) := hD
  refine lv_aload_n hx hb dX11_init_14 rfl (lv_at hl 0 rfl) ?_
  refine lv_iconst (v := (-1)) hx hb dX11_init_15 (by decide) ?_
  refine va_put (D := G) (ci := 15) (v := .int (-1)) (ty := .int) (C := RX11) (T := TX11) (N := 9) hx hb hg in_X11 tyX11 tyX11_ok nmX11 hown hK hP hD hS 0 rfl rfl 6 (by decide) (hg _ q1271) (fun _ h9 => h9) rfl (by decide +kernel) rfl rfl (Nat.le_of_ble_eq_true rfl) dX11_init_16 (fun H_3 locs hP hD hS => ?_)
  have hP : va_P G vwCl ([(h0, .inr (15, [.int 0, .int 0, .int 0, .null, .int (-1), .int (-1), .int (-1), .null, .null]))]) H_3 := hP
  have hD : va_D A ([(h0, .inr (15, [.int 0, .int 0, .int 0, .null, .int (-1), .int (-1), .int (-1), .null, .null]))]) := hD
  refine lv_aload_n hx hb dX11_init_19 rfl (lv_at hl 0 rfl) ?_
  refine va_new (ci := 3) (fs := [.int 0, .null, .int 0]) (C := RJx4a65c) (T := TJx4a65c) (N := 3) hx hb hg in_Jx4a65c tyJx4a65c tyJx4a65c_ok hown (hg _ q1258) (hg _ q46) (hg _ q4) hK hP hD hS hA rfl (fun j hj => by rcases (show j = 0 ∨ j = 1 ∨ j = 2 by omega) with rfl | rfl | rfl <;> rfl) (Nat.le_of_ble_eq_true rfl) (Nat.le_of_ble_eq_true rfl) dX11_init_20 (fun o_4 H_5 hP hD hS => ?_)
  have hP : va_P G vwCl ([(h0, .inr (15, [.int 0, .int 0, .int 0, .null, .int (-1), .int (-1), .int (-1), .null, .null])), (o_4, .inr (3, [.int 0, .null, .int 0]))]) H_5 := hP
  have hD : va_D A ([(h0, .inr (15, [.int 0, .int 0, .int 0, .null, .int (-1), .int (-1), .int (-1), .null, .null])), (o_4, .inr (3, [.int 0, .null, .int 0]))]) := hD
  refine W.widen (k := 1) (n := 3) (Nat.le_of_ble_eq_true rfl) (Nat.le_of_ble_eq_true rfl) ?_
  refine lv_dup hx hb dX11_init_23 rfl ?_
  have hPc := hP.sub (ws' := [(o_4, .inr (3, [.int 0, .null, .int 0]))]) [1] rfl
  have hKc := hK.sub (tys' := []) [] rfl
  have hDc := hD.sub (ws' := [(o_4, .inr (3, [.int 0, .null, .int 0]))]) [1] (by decide) rfl
  have hFc := va_free (wc := [(o_4, .inr (3, [.int 0, .null, .int 0]))]) hD hS hA [1] rfl
  refine va_callv (va_runI (As := []) (rest := [.ref o_4, .ref h0]) ⟨hx, hb, hml, hown, hts⟩ (k_Jx4a65c_init_da8c8 l G z o_4 0 .null (.int 0) H_5.size ) (cwI 0 hts (lw_goodAll q49) rfl rfl rfl (hg _ q4) (hg _ q1259) (hg _ q48) rfl (by decide +kernel) ⟨Nat.le_of_ble_eq_true rfl, Nat.le_of_ble_eq_true rfl⟩) ⟨PW.blind, PW.of hPc hKc hDc hG hS hFc [.ref o_4]⟩ rfl rfl hl.1 rfl (lv_room (Nat.le_of_ble_eq_true rfl)) dX11_init_24 ⟨Nat.le_of_ble_eq_true rfl, Nat.le_of_ble_eq_true rfl⟩) hS (fun q _ h => hFc q h) hFc (fun u t_9 H_6 locs ht hvm hw_8 hB hz1 hk1 hS => ?_)
  obtain ⟨hP, hD, hK⟩ := QW.join (wr := [(h0, .inr (15, [.int 0, .int 0, .int 0, .null, .int (-1), .int (-1), .int (-1), .null, .null]))]) (w1 := [(o_4, .inr (3, [.int 0, .ref z, (.int 0)]))]) hP hD hK [1] [0] rfl rfl (by decide) (by decide) hk1 hFc ht hvm hB
  have hP : va_P G vwCl ([(h0, .inr (15, [.int 0, .int 0, .int 0, .null, .int (-1), .int (-1), .int (-1), .null, .null])), (o_4, .inr (3, [.int 0, .ref z, (.int 0)]))]) H_6 := hP
  have hD : va_D A ([(h0, .inr (15, [.int 0, .int 0, .int 0, .null, .int (-1), .int (-1), .int (-1), .null, .null])), (o_4, .inr (3, [.int 0, .ref z, (.int 0)]))]) := hD
  have hK : va_K G vwCl [] s := hK
  refine W.widen (k := 1) (n := 3) (Nat.le_of_ble_eq_true rfl) (Nat.le_of_ble_eq_true rfl) ?_
  refine va_putF (D := G) (ci := 15) (v := .ref o_4) (ty := .object "java/util/ArrayList") (C := RX11) (T := TX11) (N := 9) hx hb hg in_X11 tyX11 tyX11_ok nmX11 hown hK hP hD hS 0 rfl rfl 7 (by decide) (hg _ q1273) (fun _ h9 => h9) rfl hin rfl (by decide +kernel) rfl rfl (Nat.le_of_ble_eq_true rfl) dX11_init_27 (fun H_10 locs hP hD hS => ?_)
  have hP : va_P G vwCl ([(h0, .inr (15, [.int 0, .int 0, .int 0, .null, .int (-1), .int (-1), .int (-1), .ref o_4, .null])), (o_4, .inr (3, [.int 0, .ref z, (.int 0)]))]) H_10 := hP
  have hD : va_D A ([(h0, .inr (15, [.int 0, .int 0, .int 0, .null, .int (-1), .int (-1), .int (-1), .ref o_4, .null])), (o_4, .inr (3, [.int 0, .ref z, (.int 0)]))]) := hD
  refine lv_aload_n hx hb dX11_init_30 rfl (lv_at hl 0 rfl) ?_
  refine va_new (ci := 3) (fs := [.int 0, .null, .int 0]) (C := RJx4a65c) (T := TJx4a65c) (N := 3) hx hb hg in_Jx4a65c tyJx4a65c tyJx4a65c_ok hown (hg _ q1258) (hg _ q46) (hg _ q4) hK hP hD hS hA rfl (fun j hj => by rcases (show j = 0 ∨ j = 1 ∨ j = 2 by omega) with rfl | rfl | rfl <;> rfl) (Nat.le_of_ble_eq_true rfl) (Nat.le_of_ble_eq_true rfl) dX11_init_31 (fun o_11 H_12 hP hD hS => ?_)
  have hP : va_P G vwCl ([(h0, .inr (15, [.int 0, .int 0, .int 0, .null, .int (-1), .int (-1), .int (-1), .ref o_4, .null])), (o_4, .inr (3, [.int 0, .ref z, (.int 0)])), (o_11, .inr (3, [.int 0, .null, .int 0]))]) H_12 := hP
  have hD : va_D A ([(h0, .inr (15, [.int 0, .int 0, .int 0, .null, .int (-1), .int (-1), .int (-1), .ref o_4, .null])), (o_4, .inr (3, [.int 0, .ref z, (.int 0)])), (o_11, .inr (3, [.int 0, .null, .int 0]))]) := hD
  refine W.widen (k := 2) (n := 6) (Nat.le_of_ble_eq_true rfl) (Nat.le_of_ble_eq_true rfl) ?_
  refine lv_dup hx hb dX11_init_34 rfl ?_
  have hPc := hP.sub (ws' := [(o_11, .inr (3, [.int 0, .null, .int 0]))]) [2] rfl
  have hKc := hK.sub (tys' := []) [] rfl
  have hDc := hD.sub (ws' := [(o_11, .inr (3, [.int 0, .null, .int 0]))]) [2] (by decide) rfl
  have hFc := va_free (wc := [(o_11, .inr (3, [.int 0, .null, .int 0]))]) hD hS hA [2] rfl
  refine va_callv (va_runI (As := []) (rest := [.ref o_11, .ref h0]) ⟨hx, hb, hml, hown, hts⟩ (k_Jx4a65c_init_da8c8 l G z o_11 0 .null (.int 0) H_12.size ) (cwI 0 hts (lw_goodAll q49) rfl rfl rfl (hg _ q4) (hg _ q1259) (hg _ q48) rfl (by decide +kernel) ⟨Nat.le_of_ble_eq_true rfl, Nat.le_of_ble_eq_true rfl⟩) ⟨PW.blind, PW.of hPc hKc hDc hG hS hFc [.ref o_11]⟩ rfl rfl hl.1 rfl (lv_room (Nat.le_of_ble_eq_true rfl)) dX11_init_35 ⟨Nat.le_of_ble_eq_true rfl, Nat.le_of_ble_eq_true rfl⟩) hS (fun q _ h => hFc q h) hFc (fun u t_16 H_13 locs ht hvm hw_15 hB hz1 hk1 hS => ?_)
  obtain ⟨hP, hD, hK⟩ := QW.join (wr := [(h0, .inr (15, [.int 0, .int 0, .int 0, .null, .int (-1), .int (-1), .int (-1), .ref o_4, .null])), (o_4, .inr (3, [.int 0, .ref z, (.int 0)]))]) (w1 := [(o_11, .inr (3, [.int 0, .ref z, (.int 0)]))]) hP hD hK [2] [0, 1] rfl rfl (by decide) (by decide) hk1 hFc ht hvm hB
  have hP : va_P G vwCl ([(h0, .inr (15, [.int 0, .int 0, .int 0, .null, .int (-1), .int (-1), .int (-1), .ref o_4, .null])), (o_4, .inr (3, [.int 0, .ref z, (.int 0)])), (o_11, .inr (3, [.int 0, .ref z, (.int 0)]))]) H_13 := hP
  have hD : va_D A ([(h0, .inr (15, [.int 0, .int 0, .int 0, .null, .int (-1), .int (-1), .int (-1), .ref o_4, .null])), (o_4, .inr (3, [.int 0, .ref z, (.int 0)])), (o_11, .inr (3, [.int 0, .ref z, (.int 0)]))]) := hD
  have hK : va_K G vwCl [] s := hK
  refine W.widen (k := 2) (n := 6) (Nat.le_of_ble_eq_true rfl) (Nat.le_of_ble_eq_true rfl) ?_
  refine va_putF (D := G) (ci := 15) (v := .ref o_11) (ty := .object "java/util/ArrayList") (C := RX11) (T := TX11) (N := 9) hx hb hg in_X11 tyX11 tyX11_ok nmX11 hown hK hP hD hS 0 rfl rfl 8 (by decide) (hg _ q1275) (fun _ h9 => h9) rfl hin rfl (by decide +kernel) rfl rfl (Nat.le_of_ble_eq_true rfl) dX11_init_38 (fun H_17 locs hP hD hS => ?_)
  have hP : va_P G vwCl ([(h0, .inr (15, [.int 0, .int 0, .int 0, .null, .int (-1), .int (-1), .int (-1), .ref o_4, .ref o_11])), (o_4, .inr (3, [.int 0, .ref z, (.int 0)])), (o_11, .inr (3, [.int 0, .ref z, (.int 0)]))]) H_17 := hP
  have hD : va_D A ([(h0, .inr (15, [.int 0, .int 0, .int 0, .null, .int (-1), .int (-1), .int (-1), .ref o_4, .ref o_11])), (o_4, .inr (3, [.int 0, .ref z, (.int 0)])), (o_11, .inr (3, [.int 0, .ref z, (.int 0)]))]) := hD
  refine lv_aload_n hx hb dX11_init_41 rfl (lv_at hl 0 rfl) ?_
  refine lv_iload_n hx hb dX11_init_42 rfl (lv_at hl 1 rfl) ?_
  refine va_putF (D := G) (ci := 15) (v := .int p0) (ty := .int) (C := RX11) (T := TX11) (N := 9) hx hb hg in_X11 tyX11 tyX11_ok nmX11 hown hK hP hD hS 0 rfl rfl 0 (by decide) (hg _ q1260) (fun _ h9 => h9) rfl hin rfl (by decide +kernel) rfl rfl (Nat.le_of_ble_eq_true rfl) dX11_init_43 (fun H_18 locs hP hD hS => ?_)
  have hP : va_P G vwCl ([(h0, .inr (15, [.int p0, .int 0, .int 0, .null, .int (-1), .int (-1), .int (-1), .ref o_4, .ref o_11])), (o_4, .inr (3, [.int 0, .ref z, (.int 0)])), (o_11, .inr (3, [.int 0, .ref z, (.int 0)]))]) H_18 := hP
  have hD : va_D A ([(h0, .inr (15, [.int p0, .int 0, .int 0, .null, .int (-1), .int (-1), .int (-1), .ref o_4, .ref o_11])), (o_4, .inr (3, [.int 0, .ref z, (.int 0)])), (o_11, .inr (3, [.int 0, .ref z, (.int 0)]))]) := hD
  refine lv_aload_n hx hb dX11_init_46 rfl (lv_at hl 0 rfl) ?_
  refine lv_iload_n hx hb dX11_init_47 rfl (lv_at hl 2 rfl) ?_
  refine va_putF (D := G) (ci := 15) (v := .int p1) (ty := .int) (C := RX11) (T := TX11) (N := 9) hx hb hg in_X11 tyX11 tyX11_ok nmX11 hown hK hP hD hS 0 rfl rfl 1 (by decide) (hg _ q1262) (fun _ h9 => h9) rfl hin rfl (by decide +kernel) rfl rfl (Nat.le_of_ble_eq_true rfl) dX11_init_48 (fun H_19 locs hP hD hS => ?_)
  have hP : va_P G vwCl ([(h0, .inr (15, [.int p0, .int p1, .int 0, .null, .int (-1), .int (-1), .int (-1), .ref o_4, .ref o_11])), (o_4, .inr (3, [.int 0, .ref z, (.int 0)])), (o_11, .inr (3, [.int 0, .ref z, (.int 0)]))]) H_19 := hP
  have hD : va_D A ([(h0, .inr (15, [.int p0, .int p1, .int 0, .null, .int (-1), .int (-1), .int (-1), .ref o_4, .ref o_11])), (o_4, .inr (3, [.int 0, .ref z, (.int 0)])), (o_11, .inr (3, [.int 0, .ref z, (.int 0)]))]) := hD
  refine lv_aload_n hx hb dX11_init_51 rfl (lv_at hl 0 rfl) ?_
  refine lv_iload_n hx hb dX11_init_52 rfl (lv_at hl 3 rfl) ?_
  refine va_putF (D := G) (ci := 15) (v := .int p2) (ty := .int) (C := RX11) (T := TX11) (N := 9) hx hb hg in_X11 tyX11 tyX11_ok nmX11 hown hK hP hD hS 0 rfl rfl 2 (by decide) (hg _ q1263) (fun _ h9 => h9) rfl hin rfl (by decide +kernel) rfl rfl (Nat.le_of_ble_eq_true rfl) dX11_init_53 (fun H_20 locs hP hD hS => ?_)
  have hP : va_P G vwCl ([(h0, .inr (15, [.int p0, .int p1, .int p2, .null, .int (-1), .int (-1), .int (-1), .ref o_4, .ref o_11])), (o_4, .inr (3, [.int 0, .ref z, (.int 0)])), (o_11, .inr (3, [.int 0, .ref z, (.int 0)]))]) H_20 := hP
  have hD : va_D A ([(h0, .inr (15, [.int p0, .int p1, .int p2, .null, .int (-1), .int (-1), .int (-1), .ref o_4, .ref o_11])), (o_4, .inr (3, [.int 0, .ref z, (.int 0)])), (o_11, .inr (3, [.int 0, .ref z, (.int 0)]))]) := hD
  refine lv_aload_n hx hb dX11_init_56 rfl (lv_at hl 0 rfl) ?_
  refine lv_aload hx hb dX11_init_57 (lv_at hl 4 rfl) ?_
  refine va_putF (D := G) (ci := 15) (v := .ref dd) (ty := .array (.int)) (C := RX11) (T := TX11) (N := 9) hx hb hg in_X11 tyX11 tyX11_ok nmX11 hown hK hP hD hS 0 rfl rfl 3 (by decide) (hg _ q1265) (fun _ h9 => h9) rfl hin rfl (by decide +kernel) rfl rfl (Nat.le_of_ble_eq_true rfl) dX11_init_59 (fun H_21 locs hP hD hS => ?_)
  have hP : va_P G vwCl ([(h0, .inr (15, [.int p0, .int p1, .int p2, .ref dd, .int (-1), .int (-1), .int (-1), .ref o_4, .ref o_11])), (o_4, .inr (3, [.int 0, .ref z, (.int 0)])), (o_11, .inr (3, [.int 0, .ref z, (.int 0)]))]) H_21 := hP
  have hD : va_D A ([(h0, .inr (15, [.int p0, .int p1, .int p2, .ref dd, .int (-1), .int (-1), .int (-1), .ref o_4, .ref o_11])), (o_4, .inr (3, [.int 0, .ref z, (.int 0)])), (o_11, .inr (3, [.int 0, .ref z, (.int 0)]))]) := hD
  refine W.widen (k := 2) (n := 6) (Nat.le_of_ble_eq_true rfl) (Nat.le_of_ble_eq_true rfl) ?_
  have hP9 := hP.sub (ws' := [(h0, .inr (15, ([.int p0, .int p1, .int p2, .ref dd, .int (-1), .int (-1), .int (-1), .ref o_4, .ref o_11])))]) [0] rfl
  have hD9 := hD.sub (ws' := [(h0, .inr (15, ([.int p0, .int p1, .int p2, .ref dd, .int (-1), .int (-1), .int (-1), .ref o_4, .ref o_11])))]) [0] (by decide) rfl
  have hK9 := hK.sub (tys' := []) [] rfl
  exact W.vret hx hb hr (fun t ht hW => ⟨⟨(), rfl, trivial, ⟨[.int p0, .int p1, .int p2, .ref dd, .int (-1), .int (-1), .int (-1), .ref o_4, .ref o_11], QW.of hP9 hK9 hD9 ht hW.alike⟩⟩, hS.F ht⟩) hS.2.2 dX11_init_62

abbrev wz_X12_init : List Cond := .code yX12_init cX12_init 2 none :: lw_good
set_option maxHeartbeats 4000000 in
set_option maxRecDepth 100000 in
/-- X12 <init> -/
theorem k_X12_init (l : Launch) (G : va_G) (z : Nat) (h0 : Nat) (p0 : Int32) (sz : Nat)  : Met l yX12_init wz_X12_init ({ frames := 4, cells := 1, slots := 3, locals := 80 }) (va_Pc [.ref h0, .int p0] (PW G z [(h0, .inr (16, [.int 0, .null]))] [] sz)) (va_Qv (fun (_ : Unit) => True) (fun (_ : Unit) (t : State) => ∃ (fsx : List Value), QW G [(h0, .inr (16, fsx))] [] (va_A [(h0, .inr (16, [.int 0, .null]))] sz) t) (va_A [(h0, .inr (16, [.int 0, .null]))] sz)) 1 3 (va_A [(h0, .inr (16, [.int 0, .null]))] sz) := by
  refine Met.ofW (cc := cX12_init) (maxL := 2) (ret := none) (by decide) rfl ?_
  intro p e s m args below meth c s₁ B hml hv
  obtain ⟨rfl, rfl, hP, hK, hD0, hG⟩ := hv
  have hx := B.exec
  have hb := B.bytes
  have hr := B.returns
  have hts := atoms_spec (ws := wz_X12_init) B.pre
  have hg : ∀ w ∈ lw_good, w.before _ s = true := fun w h => hts w (List.mem_cons_of_mem _ h)
  have hown : s.vm.findClass RX12 = some m.cls := findClass_of_methodNamed B.named
  have hlocks := B.notSynchronized
  have hin : meth.name = "<init>" := (name_of_methodNamed B.named B.method).1
  have hD := hD0.self (sz := s.heap.size)
  generalize hAe : va_A [(h0, .inr (16, [.int 0, .null]))] s.heap.size = A at hD hG ⊢
  have hA : ∀ q : Nat, s.heap.size ≤ q → A q := fun q h => by rw [← hAe]; exact Or.inr h
  have hS : va_S A s.heap s.heap [] := va_S.rf
  have hl := lv_entry ([.ref h0, .int p0]) (n := 2) (Nat.le_of_ble_eq_true rfl)
  rw [lg_entry_eq]
  generalize (lg_sl ([.ref h0, .int p0]) ++ List.replicate (2 - (lg_sl ([.ref h0, .int p0])).length) Slot.unset).toArray = ls at hl ⊢
  have hl : lv_has ls 2 [(0, .ref h0), (1, .int p0)] := hl
  refine lv_aload_n hx hb dX12_init_0 rfl (lv_at hl 0 rfl) ?_
  refine W.objInit hx hb hown (hg _ q1463) (hg _ q43) (hg _ q44) rfl (by rw [hml]; exact hl.1) rfl dX12_init_1 (Nat.le_of_ble_eq_true rfl) (Nat.le_of_ble_eq_true rfl) ?_
  refine W.eq (g2 := F0 m 4 ls []) rfl ?_
  refine lv_aload_n hx hb dX12_init_4 rfl (lv_at hl 0 rfl) ?_
  refine va_new (ci := 3) (fs := [.int 0, .null, .int 0]) (C := RJx4a65c) (T := TJx4a65c) (N := 3) hx hb hg in_Jx4a65c tyJx4a65c tyJx4a65c_ok hown (hg _ q1464) (hg _ q46) (hg _ q4) hK hP hD hS hA rfl (fun j hj => by rcases (show j = 0 ∨ j = 1 ∨ j = 2 by omega) with rfl | rfl | rfl <;> rfl) (Nat.le_of_ble_eq_true rfl) (Nat.le_of_ble_eq_true rfl) dX12_init_5 (fun o_1 H_2 hP hD hS => ?_)
  have hP : va_P G vwCl ([(h0, .inr (16, [.int 0, .null])), (o_1, .inr (3, [.int 0, .null, .int 0]))]) H_2 := hP
  have hD : va_D A ([(h0, .inr (16, [.int 0, .null])), (o_1, .inr (3, [.int 0, .null, .int 0]))]) := hD
  refine W.widen (k := 1) (n := 3) (Nat.le_of_ble_eq_true rfl) (Nat.le_of_ble_eq_true rfl) ?_
  refine lv_dup hx hb dX12_init_8 rfl ?_
  have hPc := hP.sub (ws' := [(o_1, .inr (3, [.int 0, .null, .int 0]))]) [1] rfl
  have hKc := hK.sub (tys' := []) [] rfl
  have hDc := hD.sub (ws' := [(o_1, .inr (3, [.int 0, .null, .int 0]))]) [1] (by decide) rfl
  have hFc := va_free (wc := [(o_1, .inr (3, [.int 0, .null, .int 0]))]) hD hS hA [1] rfl
  refine va_callv (va_runI (As := []) (rest := [.ref o_1, .ref h0]) ⟨hx, hb, hml, hown, hts⟩ (k_Jx4a65c_init_da8c8 l G z o_1 0 .null (.int 0) H_2.size ) (cwI 0 hts (lw_goodAll q49) rfl rfl rfl (hg _ q4) (hg _ q1465) (hg _ q48) rfl (by decide +kernel) ⟨Nat.le_of_ble_eq_true rfl, Nat.le_of_ble_eq_true rfl⟩) ⟨PW.blind, PW.of hPc hKc hDc hG hS hFc [.ref o_1]⟩ rfl rfl hl.1 rfl (lv_room (Nat.le_of_ble_eq_true rfl)) dX12_init_9 ⟨Nat.le_of_ble_eq_true rfl, Nat.le_of_ble_eq_true rfl⟩) hS (fun q _ h => hFc q h) hFc (fun u t_6 H_3 locs ht hvm hw_5 hB hz1 hk1 hS => ?_)
  obtain ⟨hP, hD, hK⟩ := QW.join (wr := [(h0, .inr (16, [.int 0, .null]))]) (w1 := [(o_1, .inr (3, [.int 0, .ref z, (.int 0)]))]) hP hD hK [1] [0] rfl rfl (by decide) (by decide) hk1 hFc ht hvm hB
  have hP : va_P G vwCl ([(h0, .inr (16, [.int 0, .null])), (o_1, .inr (3, [.int 0, .ref z, (.int 0)]))]) H_3 := hP
  have hD : va_D A ([(h0, .inr (16, [.int 0, .null])), (o_1, .inr (3, [.int 0, .ref z, (.int 0)]))]) := hD
  have hK : va_K G vwCl [] s := hK
  refine W.widen (k := 1) (n := 3) (Nat.le_of_ble_eq_true rfl) (Nat.le_of_ble_eq_true rfl) ?_
  refine va_putF (D := G) (ci := 16) (v := .ref o_1) (ty := .object "java/util/ArrayList") (C := RX12) (T := TX12) (N := 2) hx hb hg in_X12 tyX12 tyX12_ok nmX12 hown hK hP hD hS 0 rfl rfl 1 (by decide) (hg _ q1468) (fun _ h9 => h9) rfl hin rfl (by decide +kernel) rfl rfl (Nat.le_of_ble_eq_true rfl) dX12_init_12 (fun H_7 locs hP hD hS => ?_)
  have hP : va_P G vwCl ([(h0, .inr (16, [.int 0, .ref o_1])), (o_1, .inr (3, [.int 0, .ref z, (.int 0)]))]) H_7 := hP
  have hD : va_D A ([(h0, .inr (16, [.int 0, .ref o_1])), (o_1, .inr (3, [.int 0, .ref z, (.int 0)]))]) := hD
  refine lv_aload_n hx hb dX12_init_15 rfl (lv_at hl 0 rfl) ?_
  refine lv_iload_n hx hb dX12_init_16 rfl (lv_at hl 1 rfl) ?_
  refine va_putF (D := G) (ci := 16) (v := .int p0) (ty := .int) (C := RX12) (T := TX12) (N := 2) hx hb hg in_X12 tyX12 tyX12_ok nmX12 hown hK hP hD hS 0 rfl rfl 0 (by decide) (hg _ q1466) (fun _ h9 => h9) rfl hin rfl (by decide +kernel) rfl rfl (Nat.le_of_ble_eq_true rfl) dX12_init_17 (fun H_8 locs hP hD hS => ?_)
  have hP : va_P G vwCl ([(h0, .inr (16, [.int p0, .ref o_1])), (o_1, .inr (3, [.int 0, .ref z, (.int 0)]))]) H_8 := hP
  have hD : va_D A ([(h0, .inr (16, [.int p0, .ref o_1])), (o_1, .inr (3, [.int 0, .ref z, (.int 0)]))]) := hD
  refine W.widen (k := 1) (n := 3) (Nat.le_of_ble_eq_true rfl) (Nat.le_of_ble_eq_true rfl) ?_
  have hP9 := hP.sub (ws' := [(h0, .inr (16, ([.int p0, .ref o_1])))]) [0] rfl
  have hD9 := hD.sub (ws' := [(h0, .inr (16, ([.int p0, .ref o_1])))]) [0] (by decide) rfl
  have hK9 := hK.sub (tys' := []) [] rfl
  exact W.vret hx hb hr (fun t ht hW => ⟨⟨(), rfl, trivial, ⟨[.int p0, .ref o_1], QW.of hP9 hK9 hD9 ht hW.alike⟩⟩, hS.F ht⟩) hS.2.2 dX12_init_20

abbrev wz_X9_init : List Cond := .code yX9_init cX9_init 3 none :: lw_good
set_option maxHeartbeats 4000000 in
set_option maxRecDepth 100000 in
/-- X9 <init> -/
theorem k_X9_init (l : Launch) (G : va_G) (z : Nat) (h0 : Nat) (p0 : Int32) (p1 : Int32) (sz : Nat)  : Met l yX9_init wz_X9_init ({ frames := 4, cells := 2, slots := 6, locals := 80 }) (va_Pc [.ref h0, .int p0, .int p1] (PW G z [(h0, .inr (13, [.int 0, .int 0, .null, .int 0, .null, .int 0]))] [] sz)) (va_Qv (fun (_ : Unit) => True) (fun (_ : Unit) (t : State) => ∃ (fsx : List Value), QW G [(h0, .inr (13, fsx))] [] (va_A [(h0, .inr (13, [.int 0, .int 0, .null, .int 0, .null, .int 0]))] sz) t) (va_A [(h0, .inr (13, [.int 0, .int 0, .null, .int 0, .null, .int 0]))] sz)) 2 6 (va_A [(h0, .inr (13, [.int 0, .int 0, .null, .int 0, .null, .int 0]))] sz) := by
  refine Met.ofW (cc := cX9_init) (maxL := 3) (ret := none) (by decide) rfl ?_
  intro p e s m args below meth c s₁ B hml hv
  obtain ⟨rfl, rfl, hP, hK, hD0, hG⟩ := hv
  have hx := B.exec
  have hb := B.bytes
  have hr := B.returns
  have hts := atoms_spec (ws := wz_X9_init) B.pre
  have hg : ∀ w ∈ lw_good, w.before _ s = true := fun w h => hts w (List.mem_cons_of_mem _ h)
  have hown : s.vm.findClass RX9 = some m.cls := findClass_of_methodNamed B.named
  have hlocks := B.notSynchronized
  have hin : meth.name = "<init>" := (name_of_methodNamed B.named B.method).1
  have hD := hD0.self (sz := s.heap.size)
  generalize hAe : va_A [(h0, .inr (13, [.int 0, .int 0, .null, .int 0, .null, .int 0]))] s.heap.size = A at hD hG ⊢
  have hA : ∀ q : Nat, s.heap.size ≤ q → A q := fun q h => by rw [← hAe]; exact Or.inr h
  have hS : va_S A s.heap s.heap [] := va_S.rf
  have hl := lv_entry ([.ref h0, .int p0, .int p1]) (n := 3) (Nat.le_of_ble_eq_true rfl)
  rw [lg_entry_eq]
  generalize (lg_sl ([.ref h0, .int p0, .int p1]) ++ List.replicate (3 - (lg_sl ([.ref h0, .int p0, .int p1])).length) Slot.unset).toArray = ls at hl ⊢
  have hl : lv_has ls 3 [(0, .ref h0), (1, .int p0), (2, .int p1)] := hl
  refine lv_aload_n hx hb dX9_init_0 rfl (lv_at hl 0 rfl) ?_
  refine W.objInit hx hb hown (hg _ q1506) (hg _ q43) (hg _ q44) rfl (by rw [hml]; exact hl.1) rfl dX9_init_1 (Nat.le_of_ble_eq_true rfl) (Nat.le_of_ble_eq_true rfl) ?_
  refine W.eq (g2 := F0 m 4 ls []) rfl ?_
  refine lv_aload_n hx hb dX9_init_4 rfl (lv_at hl 0 rfl) ?_
  refine va_new (ci := 3) (fs := [.int 0, .null, .int 0]) (C := RJx4a65c) (T := TJx4a65c) (N := 3) hx hb hg in_Jx4a65c tyJx4a65c tyJx4a65c_ok hown (hg _ q1507) (hg _ q46) (hg _ q4) hK hP hD hS hA rfl (fun j hj => by rcases (show j = 0 ∨ j = 1 ∨ j = 2 by omega) with rfl | rfl | rfl <;> rfl) (Nat.le_of_ble_eq_true rfl) (Nat.le_of_ble_eq_true rfl) dX9_init_5 (fun o_1 H_2 hP hD hS => ?_)
  have hP : va_P G vwCl ([(h0, .inr (13, [.int 0, .int 0, .null, .int 0, .null, .int 0])), (o_1, .inr (3, [.int 0, .null, .int 0]))]) H_2 := hP
  have hD : va_D A ([(h0, .inr (13, [.int 0, .int 0, .null, .int 0, .null, .int 0])), (o_1, .inr (3, [.int 0, .null, .int 0]))]) := hD
  refine W.widen (k := 1) (n := 3) (Nat.le_of_ble_eq_true rfl) (Nat.le_of_ble_eq_true rfl) ?_
  refine lv_dup hx hb dX9_init_8 rfl ?_
  have hPc := hP.sub (ws' := [(o_1, .inr (3, [.int 0, .null, .int 0]))]) [1] rfl
  have hKc := hK.sub (tys' := []) [] rfl
  have hDc := hD.sub (ws' := [(o_1, .inr (3, [.int 0, .null, .int 0]))]) [1] (by decide) rfl
  have hFc := va_free (wc := [(o_1, .inr (3, [.int 0, .null, .int 0]))]) hD hS hA [1] rfl
  refine va_callv (va_runI (As := []) (rest := [.ref o_1, .ref h0]) ⟨hx, hb, hml, hown, hts⟩ (k_Jx4a65c_init_da8c8 l G z o_1 0 .null (.int 0) H_2.size ) (cwI 0 hts (lw_goodAll q49) rfl rfl rfl (hg _ q4) (hg _ q1508) (hg _ q48) rfl (by decide +kernel) ⟨Nat.le_of_ble_eq_true rfl, Nat.le_of_ble_eq_true rfl⟩) ⟨PW.blind, PW.of hPc hKc hDc hG hS hFc [.ref o_1]⟩ rfl rfl hl.1 rfl (lv_room (Nat.le_of_ble_eq_true rfl)) dX9_init_9 ⟨Nat.le_of_ble_eq_true rfl, Nat.le_of_ble_eq_true rfl⟩) hS (fun q _ h => hFc q h) hFc (fun u t_6 H_3 locs ht hvm hw_5 hB hz1 hk1 hS => ?_)
  obtain ⟨hP, hD, hK⟩ := QW.join (wr := [(h0, .inr (13, [.int 0, .int 0, .null, .int 0, .null, .int 0]))]) (w1 := [(o_1, .inr (3, [.int 0, .ref z, (.int 0)]))]) hP hD hK [1] [0] rfl rfl (by decide) (by decide) hk1 hFc ht hvm hB
  have hP : va_P G vwCl ([(h0, .inr (13, [.int 0, .int 0, .null, .int 0, .null, .int 0])), (o_1, .inr (3, [.int 0, .ref z, (.int 0)]))]) H_3 := hP
  have hD : va_D A ([(h0, .inr (13, [.int 0, .int 0, .null, .int 0, .null, .int 0])), (o_1, .inr (3, [.int 0, .ref z, (.int 0)]))]) := hD
  have hK : va_K G vwCl [] s := hK
  refine W.widen (k := 1) (n := 3) (Nat.le_of_ble_eq_true rfl) (Nat.le_of_ble_eq_true rfl) ?_
  refine va_putF (D := G) (ci := 13) (v := .ref o_1) (ty := .object "java/util/ArrayList") (C := RX9) (T := TX9) (N := 6) hx hb hg in_X9 tyX9 tyX9_ok nmX9 hown hK hP hD hS 0 rfl rfl 2 (by decide) (hg _ q1513) (fun _ h9 => h9) rfl hin rfl (by decide +kernel) rfl rfl (Nat.le_of_ble_eq_true rfl) dX9_init_12 (fun H_7 locs hP hD hS => ?_)
  have hP : va_P G vwCl ([(h0, .inr (13, [.int 0, .int 0, .ref o_1, .int 0, .null, .int 0])), (o_1, .inr (3, [.int 0, .ref z, (.int 0)]))]) H_7 := hP
  have hD : va_D A ([(h0, .inr (13, [.int 0, .int 0, .ref o_1, .int 0, .null, .int 0])), (o_1, .inr (3, [.int 0, .ref z, (.int 0)]))]) := hD
  refine lv_aload_n hx hb dX9_init_15 rfl (lv_at hl 0 rfl) ?_
  refine va_new (ci := 3) (fs := [.int 0, .null, .int 0]) (C := RJx4a65c) (T := TJx4a65c) (N := 3) hx hb hg in_Jx4a65c tyJx4a65c tyJx4a65c_ok hown (hg _ q1507) (hg _ q46) (hg _ q4) hK hP hD hS hA rfl (fun j hj => by rcases (show j = 0 ∨ j = 1 ∨ j = 2 by omega) with rfl | rfl | rfl <;> rfl) (Nat.le_of_ble_eq_true rfl) (Nat.le_of_ble_eq_true rfl) dX9_init_16 (fun o_8 H_9 hP hD hS => ?_)
  have hP : va_P G vwCl ([(h0, .inr (13, [.int 0, .int 0, .ref o_1, .int 0, .null, .int 0])), (o_1, .inr (3, [.int 0, .ref z, (.int 0)])), (o_8, .inr (3, [.int 0, .null, .int 0]))]) H_9 := hP
  have hD : va_D A ([(h0, .inr (13, [.int 0, .int 0, .ref o_1, .int 0, .null, .int 0])), (o_1, .inr (3, [.int 0, .ref z, (.int 0)])), (o_8, .inr (3, [.int 0, .null, .int 0]))]) := hD
  refine W.widen (k := 2) (n := 6) (Nat.le_of_ble_eq_true rfl) (Nat.le_of_ble_eq_true rfl) ?_
  refine lv_dup hx hb dX9_init_19 rfl ?_
  have hPc := hP.sub (ws' := [(o_8, .inr (3, [.int 0, .null, .int 0]))]) [2] rfl
  have hKc := hK.sub (tys' := []) [] rfl
  have hDc := hD.sub (ws' := [(o_8, .inr (3, [.int 0, .null, .int 0]))]) [2] (by decide) rfl
  have hFc := va_free (wc := [(o_8, .inr (3, [.int 0, .null, .int 0]))]) hD hS hA [2] rfl
  refine va_callv (va_runI (As := []) (rest := [.ref o_8, .ref h0]) ⟨hx, hb, hml, hown, hts⟩ (k_Jx4a65c_init_da8c8 l G z o_8 0 .null (.int 0) H_9.size ) (cwI 0 hts (lw_goodAll q49) rfl rfl rfl (hg _ q4) (hg _ q1508) (hg _ q48) rfl (by decide +kernel) ⟨Nat.le_of_ble_eq_true rfl, Nat.le_of_ble_eq_true rfl⟩) ⟨PW.blind, PW.of hPc hKc hDc hG hS hFc [.ref o_8]⟩ rfl rfl hl.1 rfl (lv_room (Nat.le_of_ble_eq_true rfl)) dX9_init_20 ⟨Nat.le_of_ble_eq_true rfl, Nat.le_of_ble_eq_true rfl⟩) hS (fun q _ h => hFc q h) hFc (fun u t_13 H_10 locs ht hvm hw_12 hB hz1 hk1 hS => ?_)
  obtain ⟨hP, hD, hK⟩ := QW.join (wr := [(h0, .inr (13, [.int 0, .int 0, .ref o_1, .int 0, .null, .int 0])), (o_1, .inr (3, [.int 0, .ref z, (.int 0)]))]) (w1 := [(o_8, .inr (3, [.int 0, .ref z, (.int 0)]))]) hP hD hK [2] [0, 1] rfl rfl (by decide) (by decide) hk1 hFc ht hvm hB
  have hP : va_P G vwCl ([(h0, .inr (13, [.int 0, .int 0, .ref o_1, .int 0, .null, .int 0])), (o_1, .inr (3, [.int 0, .ref z, (.int 0)])), (o_8, .inr (3, [.int 0, .ref z, (.int 0)]))]) H_10 := hP
  have hD : va_D A ([(h0, .inr (13, [.int 0, .int 0, .ref o_1, .int 0, .null, .int 0])), (o_1, .inr (3, [.int 0, .ref z, (.int 0)])), (o_8, .inr (3, [.int 0, .ref z, (.int 0)]))]) := hD
  have hK : va_K G vwCl [] s := hK
  refine W.widen (k := 2) (n := 6) (Nat.le_of_ble_eq_true rfl) (Nat.le_of_ble_eq_true rfl) ?_
  refine va_putF (D := G) (ci := 13) (v := .ref o_8) (ty := .object "java/util/ArrayList") (C := RX9) (T := TX9) (N := 6) hx hb hg in_X9 tyX9 tyX9_ok nmX9 hown hK hP hD hS 0 rfl rfl 4 (by decide) (hg _ q1516) (fun _ h9 => h9) rfl hin rfl (by decide +kernel) rfl rfl (Nat.le_of_ble_eq_true rfl) dX9_init_23 (fun H_14 locs hP hD hS => ?_)
  have hP : va_P G vwCl ([(h0, .inr (13, [.int 0, .int 0, .ref o_1, .int 0, .ref o_8, .int 0])), (o_1, .inr (3, [.int 0, .ref z, (.int 0)])), (o_8, .inr (3, [.int 0, .ref z, (.int 0)]))]) H_14 := hP
  have hD : va_D A ([(h0, .inr (13, [.int 0, .int 0, .ref o_1, .int 0, .ref o_8, .int 0])), (o_1, .inr (3, [.int 0, .ref z, (.int 0)])), (o_8, .inr (3, [.int 0, .ref z, (.int 0)]))]) := hD
  refine lv_aload_n hx hb dX9_init_26 rfl (lv_at hl 0 rfl) ?_
  refine lv_iload_n hx hb dX9_init_27 rfl (lv_at hl 1 rfl) ?_
  refine va_putF (D := G) (ci := 13) (v := .int p0) (ty := .int) (C := RX9) (T := TX9) (N := 6) hx hb hg in_X9 tyX9 tyX9_ok nmX9 hown hK hP hD hS 0 rfl rfl 0 (by decide) (hg _ q1509) (fun _ h9 => h9) rfl hin rfl (by decide +kernel) rfl rfl (Nat.le_of_ble_eq_true rfl) dX9_init_28 (fun H_15 locs hP hD hS => ?_)
  have hP : va_P G vwCl ([(h0, .inr (13, [.int p0, .int 0, .ref o_1, .int 0, .ref o_8, .int 0])), (o_1, .inr (3, [.int 0, .ref z, (.int 0)])), (o_8, .inr (3, [.int 0, .ref z, (.int 0)]))]) H_15 := hP
  have hD : va_D A ([(h0, .inr (13, [.int p0, .int 0, .ref o_1, .int 0, .ref o_8, .int 0])), (o_1, .inr (3, [.int 0, .ref z, (.int 0)])), (o_8, .inr (3, [.int 0, .ref z, (.int 0)]))]) := hD
  refine lv_aload_n hx hb dX9_init_31 rfl (lv_at hl 0 rfl) ?_
  refine lv_iconst (v := 1) hx hb dX9_init_32 (by decide) ?_
  refine lv_iload_n hx hb dX9_init_33 rfl (lv_at hl 2 rfl) ?_
  refine lv_ishl hx hb dX9_init_34 ?_
  refine lv_topi (fun f_16 ef_16 => ?_)
  refine va_putF (D := G) (ci := 13) (v := .int f_16) (ty := .int) (C := RX9) (T := TX9) (N := 6) hx hb hg in_X9 tyX9 tyX9_ok nmX9 hown hK hP hD hS 0 rfl rfl 1 (by decide) (hg _ q1511) (fun _ h9 => h9) rfl hin rfl (by decide +kernel) rfl rfl (Nat.le_of_ble_eq_true rfl) dX9_init_35 (fun H_17 locs hP hD hS => ?_)
  have hP : va_P G vwCl ([(h0, .inr (13, [.int p0, .int f_16, .ref o_1, .int 0, .ref o_8, .int 0])), (o_1, .inr (3, [.int 0, .ref z, (.int 0)])), (o_8, .inr (3, [.int 0, .ref z, (.int 0)]))]) H_17 := hP
  have hD : va_D A ([(h0, .inr (13, [.int p0, .int f_16, .ref o_1, .int 0, .ref o_8, .int 0])), (o_1, .inr (3, [.int 0, .ref z, (.int 0)])), (o_8, .inr (3, [.int 0, .ref z, (.int 0)]))]) := hD
  refine W.widen (k := 2) (n := 6) (Nat.le_of_ble_eq_true rfl) (Nat.le_of_ble_eq_true rfl) ?_
  have hP9 := hP.sub (ws' := [(h0, .inr (13, ([.int p0, .int f_16, .ref o_1, .int 0, .ref o_8, .int 0])))]) [0] rfl
  have hD9 := hD.sub (ws' := [(h0, .inr (13, ([.int p0, .int f_16, .ref o_1, .int 0, .ref o_8, .int 0])))]) [0] (by decide) rfl
  have hK9 := hK.sub (tys' := []) [] rfl
  exact W.vret hx hb hr (fun t ht hW => ⟨⟨(), rfl, trivial, ⟨[.int p0, .int f_16, .ref o_1, .int 0, .ref o_8, .int 0], QW.of hP9 hK9 hD9 ht hW.alike⟩⟩, hS.F ht⟩) hS.2.2 dX9_init_38

abbrev wz_X14_mould : List Cond := .code yX14_mould cX14_mould 9 (Option.some Jvm.ClassFile.FieldType.int) :: lw_good
set_option maxHeartbeats 4000000 in
set_option maxRecDepth 100000 in
/-- mould (reference): the first one -/
theorem k_X14_mould (l : Launch) (G : va_G) (z : Nat) (h0 : Nat) (th : Int32) (l1 : Nat) (l2 : Nat) (l3 : Nat) (l4 : Nat) (l5 : Nat) (l6 : Nat) (tol : Int32) (ag : Int32) (m1 : Nat) (m2 : Nat) (m3 : Nat) (m4 : Nat) (m5 : Nat) (m6 : Nat) (c1 : Int32) (p0 : Int32) (p1 : Int32) (p2 : Int32) (p3 : Int32) (p4 : Int32) (p5 : Int32) (sz : Nat)  : Met l yX14_mould wz_X14_mould ({ frames := 5, cells := 5, slots := 29, locals := 104 }) (va_Pc [.ref h0, .int p0, .int p1, .int p2, .int p3, .int p4, .int p5] (PW G z [(h0, .inr (18, [.int th, .ref l1, .ref l2, .ref l3, .ref l4, .ref l5, .ref l6, .int 0, .int tol, .int ag, .ref m1, .ref m2, .ref m3, .ref m4, .ref m5, .ref m6])), (l1, .inr (3, [.int c1, .ref z, .int 0]))] [] sz)) (va_Qi (fun (r : Int32) (_ : Unit) => okM p0 p1 p2 p3 p4 p5 → r = 0) (fun (_ : Unit) (t : State) => ∃ (th1 : Int32), ((okM p0 p1 p2 p3 p4 p5 ∧ th1 = 0) ∨ (¬ (okM p0 p1 p2 p3 p4 p5) ∧ th1 = 1)) ∧ QW G [(h0, .inr (18, [.int th1, .ref l1, .ref l2, .ref l3, .ref l4, .ref l5, .ref l6, .int 0, .int tol, .int ag, .ref m1, .ref m2, .ref m3, .ref m4, .ref m5, .ref m6]))] [] (va_A [(h0, .inr (18, [.int th, .ref l1, .ref l2, .ref l3, .ref l4, .ref l5, .ref l6, .int 0, .int tol, .int ag, .ref m1, .ref m2, .ref m3, .ref m4, .ref m5, .ref m6])), (l1, .inr (3, [.int c1, .ref z, .int 0]))] sz) t) (va_A [(h0, .inr (18, [.int th, .ref l1, .ref l2, .ref l3, .ref l4, .ref l5, .ref l6, .int 0, .int tol, .int ag, .ref m1, .ref m2, .ref m3, .ref m4, .ref m5, .ref m6])), (l1, .inr (3, [.int c1, .ref z, .int 0]))] sz)) 5 29 (va_A [(h0, .inr (18, [.int th, .ref l1, .ref l2, .ref l3, .ref l4, .ref l5, .ref l6, .int 0, .int tol, .int ag, .ref m1, .ref m2, .ref m3, .ref m4, .ref m5, .ref m6])), (l1, .inr (3, [.int c1, .ref z, .int 0]))] sz) := by
  refine Met.ofW (cc := cX14_mould) (maxL := 9) (ret := (Option.some Jvm.ClassFile.FieldType.int)) (by decide) rfl ?_
  intro p e s m args below meth c s₁ B hml hv
  obtain ⟨rfl, rfl, hP, hK, hD0, hG⟩ := hv
  have hx := B.exec
  have hb := B.bytes
  have hr := B.returns
  have hts := atoms_spec (ws := wz_X14_mould) B.pre
  have hg : ∀ w ∈ lw_good, w.before _ s = true := fun w h => hts w (List.mem_cons_of_mem _ h)
  have hown : s.vm.findClass RX14 = some m.cls := findClass_of_methodNamed B.named
  have hlocks := B.notSynchronized
  have hD := hD0.self (sz := s.heap.size)
  generalize hAe : va_A [(h0, .inr (18, [.int th, .ref l1, .ref l2, .ref l3, .ref l4, .ref l5, .ref l6, .int 0, .int tol, .int ag, .ref m1, .ref m2, .ref m3, .ref m4, .ref m5, .ref m6])), (l1, .inr (3, [.int c1, .ref z, .int 0]))] s.heap.size = A at hD hG ⊢
  have hA : ∀ q : Nat, s.heap.size ≤ q → A q := fun q h => by rw [← hAe]; exact Or.inr h
  have hS : va_S A s.heap s.heap [] := va_S.rf
  have hl := lv_entry ([.ref h0, .int p0, .int p1, .int p2, .int p3, .int p4, .int p5]) (n := 9) (Nat.le_of_ble_eq_true rfl)
  rw [lg_entry_eq]
  generalize (lg_sl ([.ref h0, .int p0, .int p1, .int p2, .int p3, .int p4, .int p5]) ++ List.replicate (9 - (lg_sl ([.ref h0, .int p0, .int p1, .int p2, .int p3, .int p4, .int p5])).length) Slot.unset).toArray = ls at hl ⊢
  have hl : lv_has ls 9 [(0, .ref h0), (1, .int p0), (2, .int p1), (3, .int p2), (4, .int p3), (5, .int p4), (6, .int p5)] := hl
  refine lv_iload_n hx hb dX14_mould_0 rfl (lv_at hl 1 rfl) ?_
  refine lv_iconst (v := 0) hx hb dX14_mould_1 (by decide) ?_
  refine lv_iconst (v := 4) hx hb dX14_mould_2 (by decide) ?_
  have hPc := hP.sub (ws' := []) [] rfl
  have hKc := hK.sub (tys' := []) [] rfl
  refine va_calli (va_runS (As := [.int p0, .int 0, .int 4]) (rest := []) ⟨hx, hb, hml, hown, hts⟩ (k_X14_in l G z p0 0 4 s.heap.size ) (va_cwS 3 hts (lw_goodApp (lw_3 q1244 q1245 q7) q1246) rfl rfl rfl (by decide +kernel) ⟨Nat.le_of_ble_eq_true rfl, Nat.le_of_ble_eq_true rfl⟩) ⟨PR.blind, PR.of hPc hKc hG hS hA [.int p0, .int 0, .int 4]⟩ rfl rfl hl.1 rfl (lv_room (Nat.le_of_ble_eq_true rfl)) dX14_mould_3 ⟨Nat.le_of_ble_eq_true rfl, Nat.le_of_ble_eq_true rfl⟩) hS (fun q h9 h => zN.not h9 h) (fun q h => hA q (Nat.le_trans hS.1 h)) (fun r_2 u t_4 H_1 locs ht hvm hw_3 hB hz1 hk1 hS => ?_)
  have hP := hP.grown hk1
  refine W.widen (k := 0) (n := 0) (Nat.le_of_ble_eq_true rfl) (Nat.le_of_ble_eq_true rfl) ?_
  rcases z_ite hw_3 with ⟨hc_5, rfl⟩ | ⟨hc_5, rfl⟩
  · refine lv_if_eq (tgt := 74) hx hb dX14_mould_6 (by decide) (fun c_6 => absurd c_6 (by decide)) (fun c_6 => ?_)
    refine lv_iload_n hx hb dX14_mould_9 rfl (lv_at hl 2 rfl) ?_
    refine lv_iconst (v := 0) hx hb dX14_mould_10 (by decide) ?_
    refine lv_bipush (v := 99) hx hb dX14_mould_11 (by decide) ?_
    have hPc := hP.sub (ws' := []) [] rfl
    have hKc := hK.sub (tys' := []) [] rfl
    refine va_calli (va_runS (As := [.int p1, .int 0, .int 99]) (rest := []) ⟨hx, hb, hml, hown, hts⟩ (k_X14_in l G z p1 0 99 H_1.size ) (va_cwS 3 hts (lw_goodApp (lw_3 q1244 q1245 q7) q1246) rfl rfl rfl (by decide +kernel) ⟨Nat.le_of_ble_eq_true rfl, Nat.le_of_ble_eq_true rfl⟩) ⟨PR.blind, PR.of hPc hKc hG hS hA [.int p1, .int 0, .int 99]⟩ rfl rfl hl.1 rfl (lv_room (Nat.le_of_ble_eq_true rfl)) dX14_mould_13 ⟨Nat.le_of_ble_eq_true rfl, Nat.le_of_ble_eq_true rfl⟩) hS (fun q h9 h => zN.not h9 h) (fun q h => hA q (Nat.le_trans hS.1 h)) (fun r_8 u t_10 H_7 locs ht hvm hw_9 hB hz1 hk1 hS => ?_)
    have hP := hP.grown hk1
    refine W.widen (k := 0) (n := 0) (Nat.le_of_ble_eq_true rfl) (Nat.le_of_ble_eq_true rfl) ?_
    rcases z_ite hw_9 with ⟨hc_11, rfl⟩ | ⟨hc_11, rfl⟩
    · refine lv_if_eq (tgt := 74) hx hb dX14_mould_16 (by decide) (fun c_12 => absurd c_12 (by decide)) (fun c_12 => ?_)
      refine lv_iload_n hx hb dX14_mould_19 rfl (lv_at hl 3 rfl) ?_
      refine lv_bipush (v := 100) hx hb dX14_mould_20 (by decide) ?_
      refine lv_sipush (v := 400) hx hb dX14_mould_22 (by decide) ?_
      have hPc := hP.sub (ws' := []) [] rfl
      have hKc := hK.sub (tys' := []) [] rfl
      refine va_calli (va_runS (As := [.int p2, .int 100, .int 400]) (rest := []) ⟨hx, hb, hml, hown, hts⟩ (k_X14_in l G z p2 100 400 H_7.size ) (va_cwS 3 hts (lw_goodApp (lw_3 q1244 q1245 q7) q1246) rfl rfl rfl (by decide +kernel) ⟨Nat.le_of_ble_eq_true rfl, Nat.le_of_ble_eq_true rfl⟩) ⟨PR.blind, PR.of hPc hKc hG hS hA [.int p2, .int 100, .int 400]⟩ rfl rfl hl.1 rfl (lv_room (Nat.le_of_ble_eq_true rfl)) dX14_mould_25 ⟨Nat.le_of_ble_eq_true rfl, Nat.le_of_ble_eq_true rfl⟩) hS (fun q h9 h => zN.not h9 h) (fun q h => hA q (Nat.le_trans hS.1 h)) (fun r_14 u t_16 H_13 locs ht hvm hw_15 hB hz1 hk1 hS => ?_)
      have hP := hP.grown hk1
      refine W.widen (k := 0) (n := 0) (Nat.le_of_ble_eq_true rfl) (Nat.le_of_ble_eq_true rfl) ?_
      rcases z_ite hw_15 with ⟨hc_17, rfl⟩ | ⟨hc_17, rfl⟩
      · refine lv_if_eq (tgt := 74) hx hb dX14_mould_28 (by decide) (fun c_18 => absurd c_18 (by decide)) (fun c_18 => ?_)
        refine lv_iload hx hb dX14_mould_31 (lv_at hl 4 rfl) ?_
        refine lv_bipush (v := 100) hx hb dX14_mould_33 (by decide) ?_
        refine lv_sipush (v := 400) hx hb dX14_mould_35 (by decide) ?_
        have hPc := hP.sub (ws' := []) [] rfl
        have hKc := hK.sub (tys' := []) [] rfl
        refine va_calli (va_runS (As := [.int p3, .int 100, .int 400]) (rest := []) ⟨hx, hb, hml, hown, hts⟩ (k_X14_in l G z p3 100 400 H_13.size ) (va_cwS 3 hts (lw_goodApp (lw_3 q1244 q1245 q7) q1246) rfl rfl rfl (by decide +kernel) ⟨Nat.le_of_ble_eq_true rfl, Nat.le_of_ble_eq_true rfl⟩) ⟨PR.blind, PR.of hPc hKc hG hS hA [.int p3, .int 100, .int 400]⟩ rfl rfl hl.1 rfl (lv_room (Nat.le_of_ble_eq_true rfl)) dX14_mould_38 ⟨Nat.le_of_ble_eq_true rfl, Nat.le_of_ble_eq_true rfl⟩) hS (fun q h9 h => zN.not h9 h) (fun q h => hA q (Nat.le_trans hS.1 h)) (fun r_20 u t_22 H_19 locs ht hvm hw_21 hB hz1 hk1 hS => ?_)
        have hP := hP.grown hk1
        refine W.widen (k := 0) (n := 0) (Nat.le_of_ble_eq_true rfl) (Nat.le_of_ble_eq_true rfl) ?_
        rcases z_ite hw_21 with ⟨hc_23, rfl⟩ | ⟨hc_23, rfl⟩
        · refine lv_if_eq (tgt := 74) hx hb dX14_mould_41 (by decide) (fun c_24 => absurd c_24 (by decide)) (fun c_24 => ?_)
          refine lv_iload hx hb dX14_mould_44 (lv_at hl 5 rfl) ?_
          refine lv_bipush (v := 100) hx hb dX14_mould_46 (by decide) ?_
          refine lv_sipush (v := 400) hx hb dX14_mould_48 (by decide) ?_
          have hPc := hP.sub (ws' := []) [] rfl
          have hKc := hK.sub (tys' := []) [] rfl
          refine va_calli (va_runS (As := [.int p4, .int 100, .int 400]) (rest := []) ⟨hx, hb, hml, hown, hts⟩ (k_X14_in l G z p4 100 400 H_19.size ) (va_cwS 3 hts (lw_goodApp (lw_3 q1244 q1245 q7) q1246) rfl rfl rfl (by decide +kernel) ⟨Nat.le_of_ble_eq_true rfl, Nat.le_of_ble_eq_true rfl⟩) ⟨PR.blind, PR.of hPc hKc hG hS hA [.int p4, .int 100, .int 400]⟩ rfl rfl hl.1 rfl (lv_room (Nat.le_of_ble_eq_true rfl)) dX14_mould_51 ⟨Nat.le_of_ble_eq_true rfl, Nat.le_of_ble_eq_true rfl⟩) hS (fun q h9 h => zN.not h9 h) (fun q h => hA q (Nat.le_trans hS.1 h)) (fun r_26 u t_28 H_25 locs ht hvm hw_27 hB hz1 hk1 hS => ?_)
          have hP := hP.grown hk1
          refine W.widen (k := 0) (n := 0) (Nat.le_of_ble_eq_true rfl) (Nat.le_of_ble_eq_true rfl) ?_
          rcases z_ite hw_27 with ⟨hc_29, rfl⟩ | ⟨hc_29, rfl⟩
          · refine lv_if_eq (tgt := 74) hx hb dX14_mould_54 (by decide) (fun c_30 => absurd c_30 (by decide)) (fun c_30 => ?_)
            refine lv_iload hx hb dX14_mould_57 (lv_at hl 6 rfl) ?_
            refine lv_bipush (v := 100) hx hb dX14_mould_59 (by decide) ?_
            refine lv_sipush (v := 400) hx hb dX14_mould_61 (by decide) ?_
            have hPc := hP.sub (ws' := []) [] rfl
            have hKc := hK.sub (tys' := []) [] rfl
            refine va_calli (va_runS (As := [.int p5, .int 100, .int 400]) (rest := []) ⟨hx, hb, hml, hown, hts⟩ (k_X14_in l G z p5 100 400 H_25.size ) (va_cwS 3 hts (lw_goodApp (lw_3 q1244 q1245 q7) q1246) rfl rfl rfl (by decide +kernel) ⟨Nat.le_of_ble_eq_true rfl, Nat.le_of_ble_eq_true rfl⟩) ⟨PR.blind, PR.of hPc hKc hG hS hA [.int p5, .int 100, .int 400]⟩ rfl rfl hl.1 rfl (lv_room (Nat.le_of_ble_eq_true rfl)) dX14_mould_64 ⟨Nat.le_of_ble_eq_true rfl, Nat.le_of_ble_eq_true rfl⟩) hS (fun q h9 h => zN.not h9 h) (fun q h => hA q (Nat.le_trans hS.1 h)) (fun r_32 u t_34 H_31 locs ht hvm hw_33 hB hz1 hk1 hS => ?_)
            have hP := hP.grown hk1
            refine W.widen (k := 0) (n := 0) (Nat.le_of_ble_eq_true rfl) (Nat.le_of_ble_eq_true rfl) ?_
            rcases z_ite hw_33 with ⟨hc_35, rfl⟩ | ⟨hc_35, rfl⟩
            · refine lv_if_eq (tgt := 74) hx hb dX14_mould_67 (by decide) (fun c_36 => absurd c_36 (by decide)) (fun c_36 => ?_)
              refine lv_iconst (v := 1) hx hb dX14_mould_70 (by decide) ?_
              refine lv_goto (tgt := 75) hx hb dX14_mould_71 (by decide) ?_
              refine lv_istore (lv' := [(7, .int 1), (0, .ref h0), (1, .int p0), (2, .int p1), (3, .int p2), (4, .int p3), (5, .int p4), (6, .int p5)]) hx hb dX14_mould_75 hl (by decide) rfl (fun ls hl => ?_)
              refine lv_aload_n hx hb dX14_mould_77 rfl (lv_at hl 1 rfl) ?_
              refine lv_iload hx hb dX14_mould_78 (lv_at hl 0 rfl) ?_
              refine lv_if_ne (tgt := 87) hx hb dX14_mould_80 (by decide) (fun c_37 => ?_) (fun c_37 => absurd c_37 (by decide))
              refine lv_aload_n hx hb dX14_mould_87 rfl (lv_at hl 1 rfl) ?_
              refine va_get (D := G) (ci := 18) (v := .ref l1) (C := RX14) (T := TX14) (N := 16) hx hb hg in_X14 hown hK hP 0 rfl rfl 1 (by decide) (hg _ q1188) (fun _ h9 => h9) rfl dX14_mould_88 ?_
              have hPc := hP.sub (ws' := [(l1, .inr (3, [.int c1, .ref z, .int 0]))]) [1] rfl
              have hKc := hK.sub (tys' := []) [] rfl
              refine va_calli (va_runV (As := []) (rest := [.ref h0]) ⟨hx, hb, hml, hown, hts⟩ (k_Jx4a65c_size_8abf5 l G z l1 c1 z 0 H_31.size ) (cwV 0 hts (lw_goodApp (lw_4 q1247 q161 q162 q4) q163) rfl rfl rfl (by decide +kernel) ⟨Nat.le_of_ble_eq_true rfl, Nat.le_of_ble_eq_true rfl⟩) ⟨PR.blind, va_recv hK hP (ci := 3) (q0 := 1) rfl rfl, PR.of hPc hKc hG hS hA [.ref l1]⟩ rfl rfl hl.1 rfl (lv_room (Nat.le_of_ble_eq_true rfl)) dX14_mould_91 ⟨Nat.le_of_ble_eq_true rfl, Nat.le_of_ble_eq_true rfl⟩) hS (fun q h9 h => zN.not h9 h) (fun q h => hA q (Nat.le_trans hS.1 h)) (fun r_39 u t_41 H_38 locs ht hvm hw_40 hB hz1 hk1 hS => ?_)
              have hP := hP.grown hk1
              refine W.widen (k := 0) (n := 0) (Nat.le_of_ble_eq_true rfl) (Nat.le_of_ble_eq_true rfl) ?_
              obtain rfl : 0 = r_39 := hw_40.symm
              refine lv_bipush (v := 12) hx hb dX14_mould_94 (by decide) ?_
              refine lv_icmp_ne (tgt := 103) hx hb dX14_mould_96 (by decide) (fun c_42 => ?_) (fun c_42 => absurd c_42 (by decide))
              refine lv_iconst (v := 0) hx hb dX14_mould_103 (by decide) ?_
              have hPc := hP.sub (ws' := [(h0, .inr (18, [.int th, .ref l1, .ref l2, .ref l3, .ref l4, .ref l5, .ref l6, .int 0, .int tol, .int ag, .ref m1, .ref m2, .ref m3, .ref m4, .ref m5, .ref m6]))]) [0] rfl
              have hKc := hK.sub (tys' := []) [] rfl
              have hDc := hD.sub (ws' := [(h0, .inr (18, [.int th, .ref l1, .ref l2, .ref l3, .ref l4, .ref l5, .ref l6, .int 0, .int tol, .int ag, .ref m1, .ref m2, .ref m3, .ref m4, .ref m5, .ref m6]))]) [0] (by decide) rfl
              have hFc := va_free (wc := [(h0, .inr (18, [.int th, .ref l1, .ref l2, .ref l3, .ref l4, .ref l5, .ref l6, .int 0, .int tol, .int ag, .ref m1, .ref m2, .ref m3, .ref m4, .ref m5, .ref m6]))]) hD hS hA [0] rfl
              refine va_calli (va_runV (As := [.int 0]) (rest := []) ⟨hx, hb, hml, hown, hts⟩ (k_X14_fails_0 l G z h0 th l1 l2 l3 l4 l5 l6 tol ag m1 m2 m3 m4 m5 m6 H_38.size ) (cwV 1 hts (lw_goodApp (lw_4 q1248 q1250 qs23 q7) q1251) rfl rfl rfl (by decide +kernel) ⟨Nat.le_of_ble_eq_true rfl, Nat.le_of_ble_eq_true rfl⟩) ⟨PW.blind, va_recv hK hP (ci := 18) (q0 := 0) rfl rfl, PW.of hPc hKc hDc hG hS hFc [.ref h0, .int 0]⟩ rfl rfl hl.1 rfl (lv_room (Nat.le_of_ble_eq_true rfl)) dX14_mould_104 ⟨Nat.le_of_ble_eq_true rfl, Nat.le_of_ble_eq_true rfl⟩) hS (fun q _ h => hFc q h) hFc (fun r_44 u t_46 H_43 locs ht hvm hw_45 hB hz1 hk1 hS => ?_)
              obtain ⟨hP, hD, hK⟩ := QW.join (wr := [(l1, .inr (3, [.int c1, .ref z, .int 0]))]) (w1 := [(h0, .inr (18, [.int 0, .ref l1, .ref l2, .ref l3, .ref l4, .ref l5, .ref l6, .int 0, .int tol, .int ag, .ref m1, .ref m2, .ref m3, .ref m4, .ref m5, .ref m6]))]) hP hD hK [0] [1] rfl rfl (by decide) (by decide) hk1 hFc ht hvm hB
              have hP : va_P G vwCl ([(l1, .inr (3, [.int c1, .ref z, .int 0])), (h0, .inr (18, [.int 0, .ref l1, .ref l2, .ref l3, .ref l4, .ref l5, .ref l6, .int 0, .int tol, .int ag, .ref m1, .ref m2, .ref m3, .ref m4, .ref m5, .ref m6]))]) H_43 := hP
              have hD : va_D A ([(l1, .inr (3, [.int c1, .ref z, .int 0])), (h0, .inr (18, [.int 0, .ref l1, .ref l2, .ref l3, .ref l4, .ref l5, .ref l6, .int 0, .int tol, .int ag, .ref m1, .ref m2, .ref m3, .ref m4, .ref m5, .ref m6]))]) := hD
              have hK : va_K G vwCl [] s := hK
              refine W.widen (k := 0) (n := 0) (Nat.le_of_ble_eq_true rfl) (Nat.le_of_ble_eq_true rfl) ?_
              obtain rfl : 0 = r_44 := hw_45.symm
              refine lv_if_eq (tgt := 112) hx hb dX14_mould_107 (by decide) (fun c_47 => ?_) (fun c_47 => absurd rfl c_47)
              refine lv_aload_n hx hb dX14_mould_112 rfl (lv_at hl 1 rfl) ?_
              refine va_get (D := G) (ci := 18) (v := .ref l1) (C := RX14) (T := TX14) (N := 16) hx hb hg in_X14 hown hK hP 1 rfl rfl 1 (by decide) (hg _ q1188) (fun _ h9 => h9) rfl dX14_mould_113 ?_
              refine va_new (ci := 15) (fs := [.int 0, .int 0, .int 0, .null, .int 0, .int 0, .int 0, .null, .null]) (C := RX11) (T := TX11) (N := 9) hx hb hg in_X11 tyX11 tyX11_ok hown (hg _ q1252) (hg _ q1253) (hg _ q18) hK hP hD hS hA rfl (fun j hj => by rcases (show j = 0 ∨ j = 1 ∨ j = 2 ∨ j = 3 ∨ j = 4 ∨ j = 5 ∨ j = 6 ∨ j = 7 ∨ j = 8 by omega) with rfl | rfl | rfl | rfl | rfl | rfl | rfl | rfl | rfl <;> rfl) (Nat.le_of_ble_eq_true rfl) (Nat.le_of_ble_eq_true rfl) dX14_mould_116 (fun o_48 H_49 hP hD hS => ?_)
              have hP : va_P G vwCl ([(l1, .inr (3, [.int c1, .ref z, .int 0])), (h0, .inr (18, [.int 0, .ref l1, .ref l2, .ref l3, .ref l4, .ref l5, .ref l6, .int 0, .int tol, .int ag, .ref m1, .ref m2, .ref m3, .ref m4, .ref m5, .ref m6])), (o_48, .inr (15, [.int 0, .int 0, .int 0, .null, .int 0, .int 0, .int 0, .null, .null]))]) H_49 := hP
              have hD : va_D A ([(l1, .inr (3, [.int c1, .ref z, .int 0])), (h0, .inr (18, [.int 0, .ref l1, .ref l2, .ref l3, .ref l4, .ref l5, .ref l6, .int 0, .int tol, .int ag, .ref m1, .ref m2, .ref m3, .ref m4, .ref m5, .ref m6])), (o_48, .inr (15, [.int 0, .int 0, .int 0, .null, .int 0, .int 0, .int 0, .null, .null]))]) := hD
              refine W.widen (k := 1) (n := 9) (Nat.le_of_ble_eq_true rfl) (Nat.le_of_ble_eq_true rfl) ?_
              refine lv_dup hx hb dX14_mould_119 rfl ?_
              refine lv_aload_n hx hb dX14_mould_120 rfl (lv_at hl 1 rfl) ?_
              refine va_get (D := G) (ci := 18) (v := .ref l1) (C := RX14) (T := TX14) (N := 16) hx hb hg in_X14 hown hK hP 1 rfl rfl 1 (by decide) (hg _ q1188) (fun _ h9 => h9) rfl dX14_mould_121 ?_
              have hPc := hP.sub (ws' := [(l1, .inr (3, [.int c1, .ref z, .int 0]))]) [0] rfl
              have hKc := hK.sub (tys' := []) [] rfl
              refine va_calli (va_runV (As := []) (rest := [.ref o_48, .ref o_48, .ref l1]) ⟨hx, hb, hml, hown, hts⟩ (k_Jx4a65c_size_8abf5 l G z l1 c1 z 0 H_49.size ) (cwV 0 hts (lw_goodApp (lw_4 q1247 q161 q162 q4) q163) rfl rfl rfl (by decide +kernel) ⟨Nat.le_of_ble_eq_true rfl, Nat.le_of_ble_eq_true rfl⟩) ⟨PR.blind, va_recv hK hP (ci := 3) (q0 := 0) rfl rfl, PR.of hPc hKc hG hS hA [.ref l1]⟩ rfl rfl hl.1 rfl (lv_room (Nat.le_of_ble_eq_true rfl)) dX14_mould_124 ⟨Nat.le_of_ble_eq_true rfl, Nat.le_of_ble_eq_true rfl⟩) hS (fun q h9 h => zN.not h9 h) (fun q h => hA q (Nat.le_trans hS.1 h)) (fun r_51 u t_53 H_50 locs ht hvm hw_52 hB hz1 hk1 hS => ?_)
              have hP := hP.grown hk1
              refine W.widen (k := 1) (n := 9) (Nat.le_of_ble_eq_true rfl) (Nat.le_of_ble_eq_true rfl) ?_
              obtain rfl : 0 = r_51 := hw_52.symm
              refine lv_iload_n hx hb dX14_mould_127 rfl (lv_at hl 2 rfl) ?_
              refine lv_iload_n hx hb dX14_mould_128 rfl (lv_at hl 3 rfl) ?_
              refine lv_iconst (v := 4) hx hb dX14_mould_129 (by decide) ?_
              refine va_newa (atype := .int) (ty := .int) (a0 := (4, .inl (fun _ => 0))) (N' := 4) hx hb (hg _ q94) rfl hK hP hD hS hA (fun _ => rfl) (by decide) (by decide +kernel) (Nat.le_of_ble_eq_true rfl) (Nat.le_of_ble_eq_true rfl) (Nat.le_of_ble_eq_true rfl) dX14_mould_130 (fun o_55 cy_54 H_56 hK hP hD hS => ?_)
              have hP : va_P G vwCl ([(l1, .inr (3, [.int c1, .ref z, .int 0])), (h0, .inr (18, [.int 0, .ref l1, .ref l2, .ref l3, .ref l4, .ref l5, .ref l6, .int 0, .int tol, .int ag, .ref m1, .ref m2, .ref m3, .ref m4, .ref m5, .ref m6])), (o_48, .inr (15, [.int 0, .int 0, .int 0, .null, .int 0, .int 0, .int 0, .null, .null])), (o_55, .inl (cy_54, 4, .inl (fun _ => 0)))]) H_56 := hP
              have hD : va_D A ([(l1, .inr (3, [.int c1, .ref z, .int 0])), (h0, .inr (18, [.int 0, .ref l1, .ref l2, .ref l3, .ref l4, .ref l5, .ref l6, .int 0, .int tol, .int ag, .ref m1, .ref m2, .ref m3, .ref m4, .ref m5, .ref m6])), (o_48, .inr (15, [.int 0, .int 0, .int 0, .null, .int 0, .int 0, .int 0, .null, .null])), (o_55, .inl (cy_54, 4, .inl (fun _ => 0)))]) := hD
              have hK : va_K G vwCl [(cy_54, .int)] s := hK
              refine W.widen (k := 2) (n := 13) (Nat.le_of_ble_eq_true rfl) (Nat.le_of_ble_eq_true rfl) ?_
              refine lv_dup hx hb dX14_mould_132 rfl ?_
              refine lv_iconst (v := 0) hx hb dX14_mould_133 (by decide) ?_
              refine lv_iload_n hx hb dX14_mould_134 rfl (lv_at hl 4 rfl) ?_
              refine va_iast hx hb hK hP hD hS 3 0 rfl rfl (by unfold vp_in; decide +kernel) dX14_mould_135 (fun H_57 locs hP hD hS => ?_)
              have hP : va_P G vwCl ([(l1, .inr (3, [.int c1, .ref z, .int 0])), (h0, .inr (18, [.int 0, .ref l1, .ref l2, .ref l3, .ref l4, .ref l5, .ref l6, .int 0, .int tol, .int ag, .ref m1, .ref m2, .ref m3, .ref m4, .ref m5, .ref m6])), (o_48, .inr (15, [.int 0, .int 0, .int 0, .null, .int 0, .int 0, .int 0, .null, .null])), (o_55, .inl (cy_54, 4, .inl (upd (fun _ => 0) (0 : Int32).toNatClampNeg (p2))))]) H_57 := hP
              have hD : va_D A ([(l1, .inr (3, [.int c1, .ref z, .int 0])), (h0, .inr (18, [.int 0, .ref l1, .ref l2, .ref l3, .ref l4, .ref l5, .ref l6, .int 0, .int tol, .int ag, .ref m1, .ref m2, .ref m3, .ref m4, .ref m5, .ref m6])), (o_48, .inr (15, [.int 0, .int 0, .int 0, .null, .int 0, .int 0, .int 0, .null, .null])), (o_55, .inl (cy_54, 4, .inl (upd (fun _ => 0) (0 : Int32).toNatClampNeg (p2))))]) := hD
              refine lv_dup hx hb dX14_mould_136 rfl ?_
              refine lv_iconst (v := 1) hx hb dX14_mould_137 (by decide) ?_
              refine lv_iload hx hb dX14_mould_138 (lv_at hl 5 rfl) ?_
              refine va_iast hx hb hK hP hD hS 3 0 rfl rfl (by unfold vp_in; decide +kernel) dX14_mould_140 (fun H_58 locs hP hD hS => ?_)
              have hP : va_P G vwCl ([(l1, .inr (3, [.int c1, .ref z, .int 0])), (h0, .inr (18, [.int 0, .ref l1, .ref l2, .ref l3, .ref l4, .ref l5, .ref l6, .int 0, .int tol, .int ag, .ref m1, .ref m2, .ref m3, .ref m4, .ref m5, .ref m6])), (o_48, .inr (15, [.int 0, .int 0, .int 0, .null, .int 0, .int 0, .int 0, .null, .null])), (o_55, .inl (cy_54, 4, .inl (upd (upd (fun _ => 0) (0 : Int32).toNatClampNeg (p2)) (1 : Int32).toNatClampNeg (p3))))]) H_58 := hP
              have hD : va_D A ([(l1, .inr (3, [.int c1, .ref z, .int 0])), (h0, .inr (18, [.int 0, .ref l1, .ref l2, .ref l3, .ref l4, .ref l5, .ref l6, .int 0, .int tol, .int ag, .ref m1, .ref m2, .ref m3, .ref m4, .ref m5, .ref m6])), (o_48, .inr (15, [.int 0, .int 0, .int 0, .null, .int 0, .int 0, .int 0, .null, .null])), (o_55, .inl (cy_54, 4, .inl (upd (upd (fun _ => 0) (0 : Int32).toNatClampNeg (p2)) (1 : Int32).toNatClampNeg (p3))))]) := hD
              refine lv_dup hx hb dX14_mould_141 rfl ?_
              refine lv_iconst (v := 2) hx hb dX14_mould_142 (by decide) ?_
              refine lv_iload hx hb dX14_mould_143 (lv_at hl 6 rfl) ?_
              refine va_iast hx hb hK hP hD hS 3 0 rfl rfl (by unfold vp_in; decide +kernel) dX14_mould_145 (fun H_59 locs hP hD hS => ?_)
              have hP : va_P G vwCl ([(l1, .inr (3, [.int c1, .ref z, .int 0])), (h0, .inr (18, [.int 0, .ref l1, .ref l2, .ref l3, .ref l4, .ref l5, .ref l6, .int 0, .int tol, .int ag, .ref m1, .ref m2, .ref m3, .ref m4, .ref m5, .ref m6])), (o_48, .inr (15, [.int 0, .int 0, .int 0, .null, .int 0, .int 0, .int 0, .null, .null])), (o_55, .inl (cy_54, 4, .inl (upd (upd (upd (fun _ => 0) (0 : Int32).toNatClampNeg (p2)) (1 : Int32).toNatClampNeg (p3)) (2 : Int32).toNatClampNeg (p4))))]) H_59 := hP
              have hD : va_D A ([(l1, .inr (3, [.int c1, .ref z, .int 0])), (h0, .inr (18, [.int 0, .ref l1, .ref l2, .ref l3, .ref l4, .ref l5, .ref l6, .int 0, .int tol, .int ag, .ref m1, .ref m2, .ref m3, .ref m4, .ref m5, .ref m6])), (o_48, .inr (15, [.int 0, .int 0, .int 0, .null, .int 0, .int 0, .int 0, .null, .null])), (o_55, .inl (cy_54, 4, .inl (upd (upd (upd (fun _ => 0) (0 : Int32).toNatClampNeg (p2)) (1 : Int32).toNatClampNeg (p3)) (2 : Int32).toNatClampNeg (p4))))]) := hD
              refine lv_dup hx hb dX14_mould_146 rfl ?_
              refine lv_iconst (v := 3) hx hb dX14_mould_147 (by decide) ?_
              refine lv_iload hx hb dX14_mould_148 (lv_at hl 7 rfl) ?_
              refine va_iast hx hb hK hP hD hS 3 0 rfl rfl (by unfold vp_in; decide +kernel) dX14_mould_150 (fun H_60 locs hP hD hS => ?_)
              have hP : va_P G vwCl ([(l1, .inr (3, [.int c1, .ref z, .int 0])), (h0, .inr (18, [.int 0, .ref l1, .ref l2, .ref l3, .ref l4, .ref l5, .ref l6, .int 0, .int tol, .int ag, .ref m1, .ref m2, .ref m3, .ref m4, .ref m5, .ref m6])), (o_48, .inr (15, [.int 0, .int 0, .int 0, .null, .int 0, .int 0, .int 0, .null, .null])), (o_55, .inl (cy_54, 4, .inl (upd (upd (upd (upd (fun _ => 0) (0 : Int32).toNatClampNeg (p2)) (1 : Int32).toNatClampNeg (p3)) (2 : Int32).toNatClampNeg (p4)) (3 : Int32).toNatClampNeg (p5))))]) H_60 := hP
              have hD : va_D A ([(l1, .inr (3, [.int c1, .ref z, .int 0])), (h0, .inr (18, [.int 0, .ref l1, .ref l2, .ref l3, .ref l4, .ref l5, .ref l6, .int 0, .int tol, .int ag, .ref m1, .ref m2, .ref m3, .ref m4, .ref m5, .ref m6])), (o_48, .inr (15, [.int 0, .int 0, .int 0, .null, .int 0, .int 0, .int 0, .null, .null])), (o_55, .inl (cy_54, 4, .inl (upd (upd (upd (upd (fun _ => 0) (0 : Int32).toNatClampNeg (p2)) (1 : Int32).toNatClampNeg (p3)) (2 : Int32).toNatClampNeg (p4)) (3 : Int32).toNatClampNeg (p5))))]) := hD
              have hPc := hP.sub (ws' := [(o_48, .inr (15, [.int 0, .int 0, .int 0, .null, .int 0, .int 0, .int 0, .null, .null]))]) [2] rfl
              have hKc := hK.sub (tys' := []) [] rfl
              have hDc := hD.sub (ws' := [(o_48, .inr (15, [.int 0, .int 0, .int 0, .null, .int 0, .int 0, .int 0, .null, .null]))]) [2] (by decide) rfl
              have hFc := va_free (wc := [(o_48, .inr (15, [.int 0, .int 0, .int 0, .null, .int 0, .int 0, .int 0, .null, .null]))]) hD hS hA [2] rfl
              refine va_callv (va_runI (As := [.int 0, .int p0, .int p1, .ref o_55]) (rest := [.ref o_48, .ref l1]) ⟨hx, hb, hml, hown, hts⟩ (k_X11_init l G z o_48 0 p0 p1 o_55 H_60.size ) (cwI 4 hts (lw_goodAll q1256) rfl rfl rfl (hg _ q18) (hg _ q1254) (hg _ q1255) rfl (by decide +kernel) ⟨Nat.le_of_ble_eq_true rfl, Nat.le_of_ble_eq_true rfl⟩) ⟨PW.blind, PW.of hPc hKc hDc hG hS hFc [.ref o_48, .int 0, .int p0, .int p1, .ref o_55]⟩ rfl rfl hl.1 rfl (lv_room (Nat.le_of_ble_eq_true rfl)) dX14_mould_151 ⟨Nat.le_of_ble_eq_true rfl, Nat.le_of_ble_eq_true rfl⟩) hS (fun q _ h => hFc q h) hFc (fun u t_64 H_61 locs ht hvm hw_63 hB hz1 hk1 hS => ?_)
              obtain ⟨fsx_65, hB⟩ := hB
              obtain ⟨hP, hD, hK⟩ := QW.join (wr := [(l1, .inr (3, [.int c1, .ref z, .int 0])), (h0, .inr (18, [.int 0, .ref l1, .ref l2, .ref l3, .ref l4, .ref l5, .ref l6, .int 0, .int tol, .int ag, .ref m1, .ref m2, .ref m3, .ref m4, .ref m5, .ref m6])), (o_55, .inl (cy_54, 4, .inl (upd (upd (upd (upd (fun _ => 0) (0 : Int32).toNatClampNeg (p2)) (1 : Int32).toNatClampNeg (p3)) (2 : Int32).toNatClampNeg (p4)) (3 : Int32).toNatClampNeg (p5))))]) (w1 := [(o_48, .inr (15, fsx_65))]) hP hD hK [2] [0, 1, 3] rfl rfl (by decide) (by decide) hk1 hFc ht hvm hB
              have hP : va_P G vwCl ([(l1, .inr (3, [.int c1, .ref z, .int 0])), (h0, .inr (18, [.int 0, .ref l1, .ref l2, .ref l3, .ref l4, .ref l5, .ref l6, .int 0, .int tol, .int ag, .ref m1, .ref m2, .ref m3, .ref m4, .ref m5, .ref m6])), (o_55, .inl (cy_54, 4, .inl (upd (upd (upd (upd (fun _ => 0) (0 : Int32).toNatClampNeg (p2)) (1 : Int32).toNatClampNeg (p3)) (2 : Int32).toNatClampNeg (p4)) (3 : Int32).toNatClampNeg (p5)))), (o_48, .inr (15, fsx_65))]) H_61 := hP
              have hD : va_D A ([(l1, .inr (3, [.int c1, .ref z, .int 0])), (h0, .inr (18, [.int 0, .ref l1, .ref l2, .ref l3, .ref l4, .ref l5, .ref l6, .int 0, .int tol, .int ag, .ref m1, .ref m2, .ref m3, .ref m4, .ref m5, .ref m6])), (o_55, .inl (cy_54, 4, .inl (upd (upd (upd (upd (fun _ => 0) (0 : Int32).toNatClampNeg (p2)) (1 : Int32).toNatClampNeg (p3)) (2 : Int32).toNatClampNeg (p4)) (3 : Int32).toNatClampNeg (p5)))), (o_48, .inr (15, fsx_65))]) := hD
              have hK : va_K G vwCl [(cy_54, .int)] s := hK
              refine W.widen (k := 4) (n := 19) (Nat.le_of_ble_eq_true rfl) (Nat.le_of_ble_eq_true rfl) ?_
              have hPc := hP.sub (ws' := [(l1, .inr (3, [.int c1, .ref z, .int 0])), (o_48, .inr (15, fsx_65))]) [0, 3] rfl
              have hKc := hK.sub (tys' := []) [] rfl
              have hDc := hD.sub (ws' := [(l1, .inr (3, [.int c1, .ref z, .int 0])), (o_48, .inr (15, fsx_65))]) [0, 3] (by decide) rfl
              have hFc := va_free (wc := [(l1, .inr (3, [.int c1, .ref z, .int 0])), (o_48, .inr (15, fsx_65))]) hD hS hA [0, 3] rfl
              refine va_calli (va_runV (As := [.ref o_48]) (rest := []) ⟨hx, hb, hml, hown, hts⟩ (k_Jx4a65c_add_9ea2d l G z l1 c1 o_48 15 ((RX11, TX11, 9)) fsx_65 H_61.size rfl qf1753) (cwV 1 hts (lw_goodApp (lw_4 q1296 q449 q450 q4) q451) rfl rfl rfl (by decide +kernel) ⟨Nat.le_of_ble_eq_true rfl, Nat.le_of_ble_eq_true rfl⟩) ⟨PW.blind, va_recv hK hP (ci := 3) (q0 := 0) rfl rfl, PW.of hPc hKc hDc hG hS hFc [.ref l1, .ref o_48]⟩ rfl rfl hl.1 rfl (lv_room (Nat.le_of_ble_eq_true rfl)) dX14_mould_154 ⟨Nat.le_of_ble_eq_true rfl, Nat.le_of_ble_eq_true rfl⟩) hS (fun q _ h => hFc q h) hFc (fun r_67 u t_69 H_66 locs ht hvm hw_68 hB hz1 hk1 hS => ?_)
              obtain ⟨c1_70, qa_71, hB⟩ := hB
              obtain ⟨hP, hD, hK⟩ := QW.join (wr := [(h0, .inr (18, [.int 0, .ref l1, .ref l2, .ref l3, .ref l4, .ref l5, .ref l6, .int 0, .int tol, .int ag, .ref m1, .ref m2, .ref m3, .ref m4, .ref m5, .ref m6])), (o_55, .inl (cy_54, 4, .inl (upd (upd (upd (upd (fun _ => 0) (0 : Int32).toNatClampNeg (p2)) (1 : Int32).toNatClampNeg (p3)) (2 : Int32).toNatClampNeg (p4)) (3 : Int32).toNatClampNeg (p5))))]) (w1 := [(l1, .inr (3, [.int c1_70, .ref qa_71, .int 1])), (o_48, .inr (15, fsx_65))]) hP hD hK [0, 3] [1, 2] rfl rfl (by decide) (by decide) hk1 hFc ht hvm hB
              have hP : va_P G vwCl ([(h0, .inr (18, [.int 0, .ref l1, .ref l2, .ref l3, .ref l4, .ref l5, .ref l6, .int 0, .int tol, .int ag, .ref m1, .ref m2, .ref m3, .ref m4, .ref m5, .ref m6])), (o_55, .inl (cy_54, 4, .inl (upd (upd (upd (upd (fun _ => 0) (0 : Int32).toNatClampNeg (p2)) (1 : Int32).toNatClampNeg (p3)) (2 : Int32).toNatClampNeg (p4)) (3 : Int32).toNatClampNeg (p5)))), (l1, .inr (3, [.int c1_70, .ref qa_71, .int 1])), (o_48, .inr (15, fsx_65))]) H_66 := hP
              have hD : va_D A ([(h0, .inr (18, [.int 0, .ref l1, .ref l2, .ref l3, .ref l4, .ref l5, .ref l6, .int 0, .int tol, .int ag, .ref m1, .ref m2, .ref m3, .ref m4, .ref m5, .ref m6])), (o_55, .inl (cy_54, 4, .inl (upd (upd (upd (upd (fun _ => 0) (0 : Int32).toNatClampNeg (p2)) (1 : Int32).toNatClampNeg (p3)) (2 : Int32).toNatClampNeg (p4)) (3 : Int32).toNatClampNeg (p5)))), (l1, .inr (3, [.int c1_70, .ref qa_71, .int 1])), (o_48, .inr (15, fsx_65))]) := hD
              have hK : va_K G vwCl [(cy_54, .int)] s := hK
              refine W.widen (k := 5) (n := 29) (Nat.le_of_ble_eq_true rfl) (Nat.le_of_ble_eq_true rfl) ?_
              obtain rfl : 1 = r_67 := hw_68.symm
              refine lv_istore (lv' := [(8, .int 1), (7, .int 1), (0, .ref h0), (1, .int p0), (2, .int p1), (3, .int p2), (4, .int p3), (5, .int p4), (6, .int p5)]) hx hb dX14_mould_157 hl (by decide) rfl (fun ls hl => ?_)
              refine lv_aload_n hx hb dX14_mould_159 rfl (lv_at hl 2 rfl) ?_
              refine va_get (D := G) (ci := 18) (v := .ref l1) (C := RX14) (T := TX14) (N := 16) hx hb hg in_X14 hown hK hP 0 rfl rfl 1 (by decide) (hg _ q1188) (fun _ h9 => h9) rfl dX14_mould_160 ?_
              have hPc := hP.sub (ws' := [(l1, .inr (3, [.int c1_70, .ref qa_71, .int 1]))]) [2] rfl
              have hKc := hK.sub (tys' := []) [] rfl
              refine va_calli (va_runV (As := []) (rest := []) ⟨hx, hb, hml, hown, hts⟩ (k_Jx4a65c_size_8abf5 l G z l1 c1_70 qa_71 1 H_66.size ) (cwV 0 hts (lw_goodApp (lw_4 q1247 q161 q162 q4) q163) rfl rfl rfl (by decide +kernel) ⟨Nat.le_of_ble_eq_true rfl, Nat.le_of_ble_eq_true rfl⟩) ⟨PR.blind, va_recv hK hP (ci := 3) (q0 := 2) rfl rfl, PR.of hPc hKc hG hS hA [.ref l1]⟩ rfl rfl hl.1 rfl (lv_room (Nat.le_of_ble_eq_true rfl)) dX14_mould_163 ⟨Nat.le_of_ble_eq_true rfl, Nat.le_of_ble_eq_true rfl⟩) hS (fun q h9 h => zN.not h9 h) (fun q h => hA q (Nat.le_trans hS.1 h)) (fun r_73 u t_75 H_72 locs ht hvm hw_74 hB hz1 hk1 hS => ?_)
              have hP := hP.grown hk1
              refine W.widen (k := 5) (n := 29) (Nat.le_of_ble_eq_true rfl) (Nat.le_of_ble_eq_true rfl) ?_
              obtain rfl : 1 = r_73 := hw_74.symm
              refine lv_iconst (v := 1) hx hb dX14_mould_166 (by decide) ?_
              refine lv_isub hx hb dX14_mould_167 ?_
              refine lv_topi (fun f_76 ef_76 => ?_)
              obtain rfl : f_76 = 0 := ef_76.trans (by decide)
              refine W.widen (k := 5) (n := 29) (Nat.le_of_ble_eq_true rfl) (Nat.le_of_ble_eq_true rfl) ?_
              have hP9 := hP.sub (ws' := [(h0, .inr (18, [.int 0, .ref l1, .ref l2, .ref l3, .ref l4, .ref l5, .ref l6, .int 0, .int tol, .int ag, .ref m1, .ref m2, .ref m3, .ref m4, .ref m5, .ref m6]))]) [0] rfl
              have hD9 := hD.sub (ws' := [(h0, .inr (18, [.int 0, .ref l1, .ref l2, .ref l3, .ref l4, .ref l5, .ref l6, .int 0, .int tol, .int ag, .ref m1, .ref m2, .ref m3, .ref m4, .ref m5, .ref m6]))]) [0] (by decide) rfl
              have hK9 := hK.sub (tys' := []) [] rfl
              exact W.iret (v := 0) hx hb hr (fun t ht hW => ⟨⟨0, (), rfl, fun _ => rfl, ⟨0, Or.inl ⟨⟨hc_5, hc_11, hc_17, hc_23, hc_29, hc_35⟩, rfl⟩, QW.of hP9 hK9 hD9 ht hW.alike⟩⟩, hS.F ht⟩) hS.2.2 dX14_mould_168
            · refine lv_if_eq (tgt := 74) hx hb dX14_mould_67 (by decide) (fun c_77 => ?_) (fun c_77 => absurd rfl c_77)
              refine lv_iconst (v := 0) hx hb dX14_mould_74 (by decide) ?_
              refine lv_istore (lv' := [(7, .int 0), (0, .ref h0), (1, .int p0), (2, .int p1), (3, .int p2), (4, .int p3), (5, .int p4), (6, .int p5)]) hx hb dX14_mould_75 hl (by decide) rfl (fun ls hl => ?_)
              refine lv_aload_n hx hb dX14_mould_77 rfl (lv_at hl 1 rfl) ?_
              refine lv_iload hx hb dX14_mould_78 (lv_at hl 0 rfl) ?_
              refine lv_if_ne (tgt := 87) hx hb dX14_mould_80 (by decide) (fun c_78 => absurd rfl c_78) (fun c_78 => ?_)
              refine lv_iconst (v := 1) hx hb dX14_mould_83 (by decide) ?_
              refine lv_goto (tgt := 104) hx hb dX14_mould_84 (by decide) ?_
              have hPc := hP.sub (ws' := [(h0, .inr (18, [.int th, .ref l1, .ref l2, .ref l3, .ref l4, .ref l5, .ref l6, .int 0, .int tol, .int ag, .ref m1, .ref m2, .ref m3, .ref m4, .ref m5, .ref m6]))]) [0] rfl
              have hKc := hK.sub (tys' := []) [] rfl
              have hDc := hD.sub (ws' := [(h0, .inr (18, [.int th, .ref l1, .ref l2, .ref l3, .ref l4, .ref l5, .ref l6, .int 0, .int tol, .int ag, .ref m1, .ref m2, .ref m3, .ref m4, .ref m5, .ref m6]))]) [0] (by decide) rfl
              have hFc := va_free (wc := [(h0, .inr (18, [.int th, .ref l1, .ref l2, .ref l3, .ref l4, .ref l5, .ref l6, .int 0, .int tol, .int ag, .ref m1, .ref m2, .ref m3, .ref m4, .ref m5, .ref m6]))]) hD hS hA [0] rfl
              refine va_calli (va_runV (As := [.int 1]) (rest := []) ⟨hx, hb, hml, hown, hts⟩ (k_X14_fails_1 l G z h0 th l1 l2 l3 l4 l5 l6 tol ag m1 m2 m3 m4 m5 m6 1 H_31.size (by decide)) (cwV 1 hts (lw_goodApp (lw_4 q1248 q1250 qs23 q7) q1251) rfl rfl rfl (by decide +kernel) ⟨Nat.le_of_ble_eq_true rfl, Nat.le_of_ble_eq_true rfl⟩) ⟨PW.blind, va_recv hK hP (ci := 18) (q0 := 0) rfl rfl, PW.of hPc hKc hDc hG hS hFc [.ref h0, .int 1]⟩ rfl rfl hl.1 rfl (lv_room (Nat.le_of_ble_eq_true rfl)) dX14_mould_104 ⟨Nat.le_of_ble_eq_true rfl, Nat.le_of_ble_eq_true rfl⟩) hS (fun q _ h => hFc q h) hFc (fun r_80 u t_82 H_79 locs ht hvm hw_81 hB hz1 hk1 hS => ?_)
              obtain ⟨hP, hD, hK⟩ := QW.join (wr := [(l1, .inr (3, [.int c1, .ref z, .int 0]))]) (w1 := [(h0, .inr (18, [.int 1, .ref l1, .ref l2, .ref l3, .ref l4, .ref l5, .ref l6, .int 0, .int tol, .int ag, .ref m1, .ref m2, .ref m3, .ref m4, .ref m5, .ref m6]))]) hP hD hK [0] [1] rfl rfl (by decide) (by decide) hk1 hFc ht hvm hB
              have hP : va_P G vwCl ([(l1, .inr (3, [.int c1, .ref z, .int 0])), (h0, .inr (18, [.int 1, .ref l1, .ref l2, .ref l3, .ref l4, .ref l5, .ref l6, .int 0, .int tol, .int ag, .ref m1, .ref m2, .ref m3, .ref m4, .ref m5, .ref m6]))]) H_79 := hP
              have hD : va_D A ([(l1, .inr (3, [.int c1, .ref z, .int 0])), (h0, .inr (18, [.int 1, .ref l1, .ref l2, .ref l3, .ref l4, .ref l5, .ref l6, .int 0, .int tol, .int ag, .ref m1, .ref m2, .ref m3, .ref m4, .ref m5, .ref m6]))]) := hD
              have hK : va_K G vwCl [] s := hK
              refine W.widen (k := 0) (n := 0) (Nat.le_of_ble_eq_true rfl) (Nat.le_of_ble_eq_true rfl) ?_
              obtain rfl : 1 = r_80 := hw_81.symm
              refine lv_if_eq (tgt := 112) hx hb dX14_mould_107 (by decide) (fun c_83 => absurd c_83 (by decide)) (fun c_83 => ?_)
              refine lv_iconst (v := 0) hx hb dX14_mould_110 (by decide) ?_
              refine W.widen (k := 5) (n := 29) (Nat.le_of_ble_eq_true rfl) (Nat.le_of_ble_eq_true rfl) ?_
              have hP9 := hP.sub (ws' := [(h0, .inr (18, [.int 1, .ref l1, .ref l2, .ref l3, .ref l4, .ref l5, .ref l6, .int 0, .int tol, .int ag, .ref m1, .ref m2, .ref m3, .ref m4, .ref m5, .ref m6]))]) [1] rfl
              have hD9 := hD.sub (ws' := [(h0, .inr (18, [.int 1, .ref l1, .ref l2, .ref l3, .ref l4, .ref l5, .ref l6, .int 0, .int tol, .int ag, .ref m1, .ref m2, .ref m3, .ref m4, .ref m5, .ref m6]))]) [1] (by decide) rfl
              have hK9 := hK.sub (tys' := []) [] rfl
              exact W.iret (v := 0) hx hb hr (fun t ht hW => ⟨⟨0, (), rfl, fun h9 => (hc_35 (h9.2.2.2.2.2)).elim, ⟨1, Or.inr ⟨fun h9 => hc_35 (h9.2.2.2.2.2), rfl⟩, QW.of hP9 hK9 hD9 ht hW.alike⟩⟩, hS.F ht⟩) hS.2.2 dX14_mould_111
          · refine lv_if_eq (tgt := 74) hx hb dX14_mould_54 (by decide) (fun c_84 => ?_) (fun c_84 => absurd rfl c_84)
            refine lv_iconst (v := 0) hx hb dX14_mould_74 (by decide) ?_
            refine lv_istore (lv' := [(7, .int 0), (0, .ref h0), (1, .int p0), (2, .int p1), (3, .int p2), (4, .int p3), (5, .int p4), (6, .int p5)]) hx hb dX14_mould_75 hl (by decide) rfl (fun ls hl => ?_)
            refine lv_aload_n hx hb dX14_mould_77 rfl (lv_at hl 1 rfl) ?_
            refine lv_iload hx hb dX14_mould_78 (lv_at hl 0 rfl) ?_
            refine lv_if_ne (tgt := 87) hx hb dX14_mould_80 (by decide) (fun c_85 => absurd rfl c_85) (fun c_85 => ?_)
            refine lv_iconst (v := 1) hx hb dX14_mould_83 (by decide) ?_
            refine lv_goto (tgt := 104) hx hb dX14_mould_84 (by decide) ?_
            have hPc := hP.sub (ws' := [(h0, .inr (18, [.int th, .ref l1, .ref l2, .ref l3, .ref l4, .ref l5, .ref l6, .int 0, .int tol, .int ag, .ref m1, .ref m2, .ref m3, .ref m4, .ref m5, .ref m6]))]) [0] rfl
            have hKc := hK.sub (tys' := []) [] rfl
            have hDc := hD.sub (ws' := [(h0, .inr (18, [.int th, .ref l1, .ref l2, .ref l3, .ref l4, .ref l5, .ref l6, .int 0, .int tol, .int ag, .ref m1, .ref m2, .ref m3, .ref m4, .ref m5, .ref m6]))]) [0] (by decide) rfl
            have hFc := va_free (wc := [(h0, .inr (18, [.int th, .ref l1, .ref l2, .ref l3, .ref l4, .ref l5, .ref l6, .int 0, .int tol, .int ag, .ref m1, .ref m2, .ref m3, .ref m4, .ref m5, .ref m6]))]) hD hS hA [0] rfl
            refine va_calli (va_runV (As := [.int 1]) (rest := []) ⟨hx, hb, hml, hown, hts⟩ (k_X14_fails_1 l G z h0 th l1 l2 l3 l4 l5 l6 tol ag m1 m2 m3 m4 m5 m6 1 H_25.size (by decide)) (cwV 1 hts (lw_goodApp (lw_4 q1248 q1250 qs23 q7) q1251) rfl rfl rfl (by decide +kernel) ⟨Nat.le_of_ble_eq_true rfl, Nat.le_of_ble_eq_true rfl⟩) ⟨PW.blind, va_recv hK hP (ci := 18) (q0 := 0) rfl rfl, PW.of hPc hKc hDc hG hS hFc [.ref h0, .int 1]⟩ rfl rfl hl.1 rfl (lv_room (Nat.le_of_ble_eq_true rfl)) dX14_mould_104 ⟨Nat.le_of_ble_eq_true rfl, Nat.le_of_ble_eq_true rfl⟩) hS (fun q _ h => hFc q h) hFc (fun r_87 u t_89 H_86 locs ht hvm hw_88 hB hz1 hk1 hS => ?_)
            obtain ⟨hP, hD, hK⟩ := QW.join (wr := [(l1, .inr (3, [.int c1, .ref z, .int 0]))]) (w1 := [(h0, .inr (18, [.int 1, .ref l1, .ref l2, .ref l3, .ref l4, .ref l5, .ref l6, .int 0, .int tol, .int ag, .ref m1, .ref m2, .ref m3, .ref m4, .ref m5, .ref m6]))]) hP hD hK [0] [1] rfl rfl (by decide) (by decide) hk1 hFc ht hvm hB
            have hP : va_P G vwCl ([(l1, .inr (3, [.int c1, .ref z, .int 0])), (h0, .inr (18, [.int 1, .ref l1, .ref l2, .ref l3, .ref l4, .ref l5, .ref l6, .int 0, .int tol, .int ag, .ref m1, .ref m2, .ref m3, .ref m4, .ref m5, .ref m6]))]) H_86 := hP
            have hD : va_D A ([(l1, .inr (3, [.int c1, .ref z, .int 0])), (h0, .inr (18, [.int 1, .ref l1, .ref l2, .ref l3, .ref l4, .ref l5, .ref l6, .int 0, .int tol, .int ag, .ref m1, .ref m2, .ref m3, .ref m4, .ref m5, .ref m6]))]) := hD
            have hK : va_K G vwCl [] s := hK
            refine W.widen (k := 0) (n := 0) (Nat.le_of_ble_eq_true rfl) (Nat.le_of_ble_eq_true rfl) ?_
            obtain rfl : 1 = r_87 := hw_88.symm
            refine lv_if_eq (tgt := 112) hx hb dX14_mould_107 (by decide) (fun c_90 => absurd c_90 (by decide)) (fun c_90 => ?_)
            refine lv_iconst (v := 0) hx hb dX14_mould_110 (by decide) ?_
            refine W.widen (k := 5) (n := 29) (Nat.le_of_ble_eq_true rfl) (Nat.le_of_ble_eq_true rfl) ?_
            have hP9 := hP.sub (ws' := [(h0, .inr (18, [.int 1, .ref l1, .ref l2, .ref l3, .ref l4, .ref l5, .ref l6, .int 0, .int tol, .int ag, .ref m1, .ref m2, .ref m3, .ref m4, .ref m5, .ref m6]))]) [1] rfl
            have hD9 := hD.sub (ws' := [(h0, .inr (18, [.int 1, .ref l1, .ref l2, .ref l3, .ref l4, .ref l5, .ref l6, .int 0, .int tol, .int ag, .ref m1, .ref m2, .ref m3, .ref m4, .ref m5, .ref m6]))]) [1] (by decide) rfl
            have hK9 := hK.sub (tys' := []) [] rfl
            exact W.iret (v := 0) hx hb hr (fun t ht hW => ⟨⟨0, (), rfl, fun h9 => (hc_29 (h9.2.2.2.2.1)).elim, ⟨1, Or.inr ⟨fun h9 => hc_29 (h9.2.2.2.2.1), rfl⟩, QW.of hP9 hK9 hD9 ht hW.alike⟩⟩, hS.F ht⟩) hS.2.2 dX14_mould_111
        · refine lv_if_eq (tgt := 74) hx hb dX14_mould_41 (by decide) (fun c_91 => ?_) (fun c_91 => absurd rfl c_91)
          refine lv_iconst (v := 0) hx hb dX14_mould_74 (by decide) ?_
          refine lv_istore (lv' := [(7, .int 0), (0, .ref h0), (1, .int p0), (2, .int p1), (3, .int p2), (4, .int p3), (5, .int p4), (6, .int p5)]) hx hb dX14_mould_75 hl (by decide) rfl (fun ls hl => ?_)
          refine lv_aload_n hx hb dX14_mould_77 rfl (lv_at hl 1 rfl) ?_
          refine lv_iload hx hb dX14_mould_78 (lv_at hl 0 rfl) ?_
          refine lv_if_ne (tgt := 87) hx hb dX14_mould_80 (by decide) (fun c_92 => absurd rfl c_92) (fun c_92 => ?_)
          refine lv_iconst (v := 1) hx hb dX14_mould_83 (by decide) ?_
          refine lv_goto (tgt := 104) hx hb dX14_mould_84 (by decide) ?_
          have hPc := hP.sub (ws' := [(h0, .inr (18, [.int th, .ref l1, .ref l2, .ref l3, .ref l4, .ref l5, .ref l6, .int 0, .int tol, .int ag, .ref m1, .ref m2, .ref m3, .ref m4, .ref m5, .ref m6]))]) [0] rfl
          have hKc := hK.sub (tys' := []) [] rfl
          have hDc := hD.sub (ws' := [(h0, .inr (18, [.int th, .ref l1, .ref l2, .ref l3, .ref l4, .ref l5, .ref l6, .int 0, .int tol, .int ag, .ref m1, .ref m2, .ref m3, .ref m4, .ref m5, .ref m6]))]) [0] (by decide) rfl
          have hFc := va_free (wc := [(h0, .inr (18, [.int th, .ref l1, .ref l2, .ref l3, .ref l4, .ref l5, .ref l6, .int 0, .int tol, .int ag, .ref m1, .ref m2, .ref m3, .ref m4, .ref m5, .ref m6]))]) hD hS hA [0] rfl
          refine va_calli (va_runV (As := [.int 1]) (rest := []) ⟨hx, hb, hml, hown, hts⟩ (k_X14_fails_1 l G z h0 th l1 l2 l3 l4 l5 l6 tol ag m1 m2 m3 m4 m5 m6 1 H_19.size (by decide)) (cwV 1 hts (lw_goodApp (lw_4 q1248 q1250 qs23 q7) q1251) rfl rfl rfl (by decide +kernel) ⟨Nat.le_of_ble_eq_true rfl, Nat.le_of_ble_eq_true rfl⟩) ⟨PW.blind, va_recv hK hP (ci := 18) (q0 := 0) rfl rfl, PW.of hPc hKc hDc hG hS hFc [.ref h0, .int 1]⟩ rfl rfl hl.1 rfl (lv_room (Nat.le_of_ble_eq_true rfl)) dX14_mould_104 ⟨Nat.le_of_ble_eq_true rfl, Nat.le_of_ble_eq_true rfl⟩) hS (fun q _ h => hFc q h) hFc (fun r_94 u t_96 H_93 locs ht hvm hw_95 hB hz1 hk1 hS => ?_)
          obtain ⟨hP, hD, hK⟩ := QW.join (wr := [(l1, .inr (3, [.int c1, .ref z, .int 0]))]) (w1 := [(h0, .inr (18, [.int 1, .ref l1, .ref l2, .ref l3, .ref l4, .ref l5, .ref l6, .int 0, .int tol, .int ag, .ref m1, .ref m2, .ref m3, .ref m4, .ref m5, .ref m6]))]) hP hD hK [0] [1] rfl rfl (by decide) (by decide) hk1 hFc ht hvm hB
          have hP : va_P G vwCl ([(l1, .inr (3, [.int c1, .ref z, .int 0])), (h0, .inr (18, [.int 1, .ref l1, .ref l2, .ref l3, .ref l4, .ref l5, .ref l6, .int 0, .int tol, .int ag, .ref m1, .ref m2, .ref m3, .ref m4, .ref m5, .ref m6]))]) H_93 := hP
          have hD : va_D A ([(l1, .inr (3, [.int c1, .ref z, .int 0])), (h0, .inr (18, [.int 1, .ref l1, .ref l2, .ref l3, .ref l4, .ref l5, .ref l6, .int 0, .int tol, .int ag, .ref m1, .ref m2, .ref m3, .ref m4, .ref m5, .ref m6]))]) := hD
          have hK : va_K G vwCl [] s := hK
          refine W.widen (k := 0) (n := 0) (Nat.le_of_ble_eq_true rfl) (Nat.le_of_ble_eq_true rfl) ?_
          obtain rfl : 1 = r_94 := hw_95.symm
          refine lv_if_eq (tgt := 112) hx hb dX14_mould_107 (by decide) (fun c_97 => absurd c_97 (by decide)) (fun c_97 => ?_)
          refine lv_iconst (v := 0) hx hb dX14_mould_110 (by decide) ?_
          refine W.widen (k := 5) (n := 29) (Nat.le_of_ble_eq_true rfl) (Nat.le_of_ble_eq_true rfl) ?_
          have hP9 := hP.sub (ws' := [(h0, .inr (18, [.int 1, .ref l1, .ref l2, .ref l3, .ref l4, .ref l5, .ref l6, .int 0, .int tol, .int ag, .ref m1, .ref m2, .ref m3, .ref m4, .ref m5, .ref m6]))]) [1] rfl
          have hD9 := hD.sub (ws' := [(h0, .inr (18, [.int 1, .ref l1, .ref l2, .ref l3, .ref l4, .ref l5, .ref l6, .int 0, .int tol, .int ag, .ref m1, .ref m2, .ref m3, .ref m4, .ref m5, .ref m6]))]) [1] (by decide) rfl
          have hK9 := hK.sub (tys' := []) [] rfl
          exact W.iret (v := 0) hx hb hr (fun t ht hW => ⟨⟨0, (), rfl, fun h9 => (hc_23 (h9.2.2.2.1)).elim, ⟨1, Or.inr ⟨fun h9 => hc_23 (h9.2.2.2.1), rfl⟩, QW.of hP9 hK9 hD9 ht hW.alike⟩⟩, hS.F ht⟩) hS.2.2 dX14_mould_111
      · refine lv_if_eq (tgt := 74) hx hb dX14_mould_28 (by decide) (fun c_98 => ?_) (fun c_98 => absurd rfl c_98)
        refine lv_iconst (v := 0) hx hb dX14_mould_74 (by decide) ?_
        refine lv_istore (lv' := [(7, .int 0), (0, .ref h0), (1, .int p0), (2, .int p1), (3, .int p2), (4, .int p3), (5, .int p4), (6, .int p5)]) hx hb dX14_mould_75 hl (by decide) rfl (fun ls hl => ?_)
        refine lv_aload_n hx hb dX14_mould_77 rfl (lv_at hl 1 rfl) ?_
        refine lv_iload hx hb dX14_mould_78 (lv_at hl 0 rfl) ?_
        refine lv_if_ne (tgt := 87) hx hb dX14_mould_80 (by decide) (fun c_99 => absurd rfl c_99) (fun c_99 => ?_)
        refine lv_iconst (v := 1) hx hb dX14_mould_83 (by decide) ?_
        refine lv_goto (tgt := 104) hx hb dX14_mould_84 (by decide) ?_
        have hPc := hP.sub (ws' := [(h0, .inr (18, [.int th, .ref l1, .ref l2, .ref l3, .ref l4, .ref l5, .ref l6, .int 0, .int tol, .int ag, .ref m1, .ref m2, .ref m3, .ref m4, .ref m5, .ref m6]))]) [0] rfl
        have hKc := hK.sub (tys' := []) [] rfl
        have hDc := hD.sub (ws' := [(h0, .inr (18, [.int th, .ref l1, .ref l2, .ref l3, .ref l4, .ref l5, .ref l6, .int 0, .int tol, .int ag, .ref m1, .ref m2, .ref m3, .ref m4, .ref m5, .ref m6]))]) [0] (by decide) rfl
        have hFc := va_free (wc := [(h0, .inr (18, [.int th, .ref l1, .ref l2, .ref l3, .ref l4, .ref l5, .ref l6, .int 0, .int tol, .int ag, .ref m1, .ref m2, .ref m3, .ref m4, .ref m5, .ref m6]))]) hD hS hA [0] rfl
        refine va_calli (va_runV (As := [.int 1]) (rest := []) ⟨hx, hb, hml, hown, hts⟩ (k_X14_fails_1 l G z h0 th l1 l2 l3 l4 l5 l6 tol ag m1 m2 m3 m4 m5 m6 1 H_13.size (by decide)) (cwV 1 hts (lw_goodApp (lw_4 q1248 q1250 qs23 q7) q1251) rfl rfl rfl (by decide +kernel) ⟨Nat.le_of_ble_eq_true rfl, Nat.le_of_ble_eq_true rfl⟩) ⟨PW.blind, va_recv hK hP (ci := 18) (q0 := 0) rfl rfl, PW.of hPc hKc hDc hG hS hFc [.ref h0, .int 1]⟩ rfl rfl hl.1 rfl (lv_room (Nat.le_of_ble_eq_true rfl)) dX14_mould_104 ⟨Nat.le_of_ble_eq_true rfl, Nat.le_of_ble_eq_true rfl⟩) hS (fun q _ h => hFc q h) hFc (fun r_101 u t_103 H_100 locs ht hvm hw_102 hB hz1 hk1 hS => ?_)
        obtain ⟨hP, hD, hK⟩ := QW.join (wr := [(l1, .inr (3, [.int c1, .ref z, .int 0]))]) (w1 := [(h0, .inr (18, [.int 1, .ref l1, .ref l2, .ref l3, .ref l4, .ref l5, .ref l6, .int 0, .int tol, .int ag, .ref m1, .ref m2, .ref m3, .ref m4, .ref m5, .ref m6]))]) hP hD hK [0] [1] rfl rfl (by decide) (by decide) hk1 hFc ht hvm hB
        have hP : va_P G vwCl ([(l1, .inr (3, [.int c1, .ref z, .int 0])), (h0, .inr (18, [.int 1, .ref l1, .ref l2, .ref l3, .ref l4, .ref l5, .ref l6, .int 0, .int tol, .int ag, .ref m1, .ref m2, .ref m3, .ref m4, .ref m5, .ref m6]))]) H_100 := hP
        have hD : va_D A ([(l1, .inr (3, [.int c1, .ref z, .int 0])), (h0, .inr (18, [.int 1, .ref l1, .ref l2, .ref l3, .ref l4, .ref l5, .ref l6, .int 0, .int tol, .int ag, .ref m1, .ref m2, .ref m3, .ref m4, .ref m5, .ref m6]))]) := hD
        have hK : va_K G vwCl [] s := hK
        refine W.widen (k := 0) (n := 0) (Nat.le_of_ble_eq_true rfl) (Nat.le_of_ble_eq_true rfl) ?_
        obtain rfl : 1 = r_101 := hw_102.symm
        refine lv_if_eq (tgt := 112) hx hb dX14_mould_107 (by decide) (fun c_104 => absurd c_104 (by decide)) (fun c_104 => ?_)
        refine lv_iconst (v := 0) hx hb dX14_mould_110 (by decide) ?_
        refine W.widen (k := 5) (n := 29) (Nat.le_of_ble_eq_true rfl) (Nat.le_of_ble_eq_true rfl) ?_
        have hP9 := hP.sub (ws' := [(h0, .inr (18, [.int 1, .ref l1, .ref l2, .ref l3, .ref l4, .ref l5, .ref l6, .int 0, .int tol, .int ag, .ref m1, .ref m2, .ref m3, .ref m4, .ref m5, .ref m6]))]) [1] rfl
        have hD9 := hD.sub (ws' := [(h0, .inr (18, [.int 1, .ref l1, .ref l2, .ref l3, .ref l4, .ref l5, .ref l6, .int 0, .int tol, .int ag, .ref m1, .ref m2, .ref m3, .ref m4, .ref m5, .ref m6]))]) [1] (by decide) rfl
        have hK9 := hK.sub (tys' := []) [] rfl
        exact W.iret (v := 0) hx hb hr (fun t ht hW => ⟨⟨0, (), rfl, fun h9 => (hc_17 (h9.2.2.1)).elim, ⟨1, Or.inr ⟨fun h9 => hc_17 (h9.2.2.1), rfl⟩, QW.of hP9 hK9 hD9 ht hW.alike⟩⟩, hS.F ht⟩) hS.2.2 dX14_mould_111
    · refine lv_if_eq (tgt := 74) hx hb dX14_mould_16 (by decide) (fun c_105 => ?_) (fun c_105 => absurd rfl c_105)
      refine lv_iconst (v := 0) hx hb dX14_mould_74 (by decide) ?_
      refine lv_istore (lv' := [(7, .int 0), (0, .ref h0), (1, .int p0), (2, .int p1), (3, .int p2), (4, .int p3), (5, .int p4), (6, .int p5)]) hx hb dX14_mould_75 hl (by decide) rfl (fun ls hl => ?_)
      refine lv_aload_n hx hb dX14_mould_77 rfl (lv_at hl 1 rfl) ?_
      refine lv_iload hx hb dX14_mould_78 (lv_at hl 0 rfl) ?_
      refine lv_if_ne (tgt := 87) hx hb dX14_mould_80 (by decide) (fun c_106 => absurd rfl c_106) (fun c_106 => ?_)
      refine lv_iconst (v := 1) hx hb dX14_mould_83 (by decide) ?_
      refine lv_goto (tgt := 104) hx hb dX14_mould_84 (by decide) ?_
      have hPc := hP.sub (ws' := [(h0, .inr (18, [.int th, .ref l1, .ref l2, .ref l3, .ref l4, .ref l5, .ref l6, .int 0, .int tol, .int ag, .ref m1, .ref m2, .ref m3, .ref m4, .ref m5, .ref m6]))]) [0] rfl
      have hKc := hK.sub (tys' := []) [] rfl
      have hDc := hD.sub (ws' := [(h0, .inr (18, [.int th, .ref l1, .ref l2, .ref l3, .ref l4, .ref l5, .ref l6, .int 0, .int tol, .int ag, .ref m1, .ref m2, .ref m3, .ref m4, .ref m5, .ref m6]))]) [0] (by decide) rfl
      have hFc := va_free (wc := [(h0, .inr (18, [.int th, .ref l1, .ref l2, .ref l3, .ref l4, .ref l5, .ref l6, .int 0, .int tol, .int ag, .ref m1, .ref m2, .ref m3, .ref m4, .ref m5, .ref m6]))]) hD hS hA [0] rfl
      refine va_calli (va_runV (As := [.int 1]) (rest := []) ⟨hx, hb, hml, hown, hts⟩ (k_X14_fails_1 l G z h0 th l1 l2 l3 l4 l5 l6 tol ag m1 m2 m3 m4 m5 m6 1 H_7.size (by decide)) (cwV 1 hts (lw_goodApp (lw_4 q1248 q1250 qs23 q7) q1251) rfl rfl rfl (by decide +kernel) ⟨Nat.le_of_ble_eq_true rfl, Nat.le_of_ble_eq_true rfl⟩) ⟨PW.blind, va_recv hK hP (ci := 18) (q0 := 0) rfl rfl, PW.of hPc hKc hDc hG hS hFc [.ref h0, .int 1]⟩ rfl rfl hl.1 rfl (lv_room (Nat.le_of_ble_eq_true rfl)) dX14_mould_104 ⟨Nat.le_of_ble_eq_true rfl, Nat.le_of_ble_eq_true rfl⟩) hS (fun q _ h => hFc q h) hFc (fun r_108 u t_110 H_107 locs ht hvm hw_109 hB hz1 hk1 hS => ?_)
      obtain ⟨hP, hD, hK⟩ := QW.join (wr := [(l1, .inr (3, [.int c1, .ref z, .int 0]))]) (w1 := [(h0, .inr (18, [.int 1, .ref l1, .ref l2, .ref l3, .ref l4, .ref l5, .ref l6, .int 0, .int tol, .int ag, .ref m1, .ref m2, .ref m3, .ref m4, .ref m5, .ref m6]))]) hP hD hK [0] [1] rfl rfl (by decide) (by decide) hk1 hFc ht hvm hB
      have hP : va_P G vwCl ([(l1, .inr (3, [.int c1, .ref z, .int 0])), (h0, .inr (18, [.int 1, .ref l1, .ref l2, .ref l3, .ref l4, .ref l5, .ref l6, .int 0, .int tol, .int ag, .ref m1, .ref m2, .ref m3, .ref m4, .ref m5, .ref m6]))]) H_107 := hP
      have hD : va_D A ([(l1, .inr (3, [.int c1, .ref z, .int 0])), (h0, .inr (18, [.int 1, .ref l1, .ref l2, .ref l3, .ref l4, .ref l5, .ref l6, .int 0, .int tol, .int ag, .ref m1, .ref m2, .ref m3, .ref m4, .ref m5, .ref m6]))]) := hD
      have hK : va_K G vwCl [] s := hK
      refine W.widen (k := 0) (n := 0) (Nat.le_of_ble_eq_true rfl) (Nat.le_of_ble_eq_true rfl) ?_
      obtain rfl : 1 = r_108 := hw_109.symm
      refine lv_if_eq (tgt := 112) hx hb dX14_mould_107 (by decide) (fun c_111 => absurd c_111 (by decide)) (fun c_111 => ?_)
      refine lv_iconst (v := 0) hx hb dX14_mould_110 (by decide) ?_
      refine W.widen (k := 5) (n := 29) (Nat.le_of_ble_eq_true rfl) (Nat.le_of_ble_eq_true rfl) ?_
      have hP9 := hP.sub (ws' := [(h0, .inr (18, [.int 1, .ref l1, .ref l2, .ref l3, .ref l4, .ref l5, .ref l6, .int 0, .int tol, .int ag, .ref m1, .ref m2, .ref m3, .ref m4, .ref m5, .ref m6]))]) [1] rfl
      have hD9 := hD.sub (ws' := [(h0, .inr (18, [.int 1, .ref l1, .ref l2, .ref l3, .ref l4, .ref l5, .ref l6, .int 0, .int tol, .int ag, .ref m1, .ref m2, .ref m3, .ref m4, .ref m5, .ref m6]))]) [1] (by decide) rfl
      have hK9 := hK.sub (tys' := []) [] rfl
      exact W.iret (v := 0) hx hb hr (fun t ht hW => ⟨⟨0, (), rfl, fun h9 => (hc_11 (h9.2.1)).elim, ⟨1, Or.inr ⟨fun h9 => hc_11 (h9.2.1), rfl⟩, QW.of hP9 hK9 hD9 ht hW.alike⟩⟩, hS.F ht⟩) hS.2.2 dX14_mould_111
  · refine lv_if_eq (tgt := 74) hx hb dX14_mould_6 (by decide) (fun c_112 => ?_) (fun c_112 => absurd rfl c_112)
    refine lv_iconst (v := 0) hx hb dX14_mould_74 (by decide) ?_
    refine lv_istore (lv' := [(7, .int 0), (0, .ref h0), (1, .int p0), (2, .int p1), (3, .int p2), (4, .int p3), (5, .int p4), (6, .int p5)]) hx hb dX14_mould_75 hl (by decide) rfl (fun ls hl => ?_)
    refine lv_aload_n hx hb dX14_mould_77 rfl (lv_at hl 1 rfl) ?_
    refine lv_iload hx hb dX14_mould_78 (lv_at hl 0 rfl) ?_
    refine lv_if_ne (tgt := 87) hx hb dX14_mould_80 (by decide) (fun c_113 => absurd rfl c_113) (fun c_113 => ?_)
    refine lv_iconst (v := 1) hx hb dX14_mould_83 (by decide) ?_
    refine lv_goto (tgt := 104) hx hb dX14_mould_84 (by decide) ?_
    have hPc := hP.sub (ws' := [(h0, .inr (18, [.int th, .ref l1, .ref l2, .ref l3, .ref l4, .ref l5, .ref l6, .int 0, .int tol, .int ag, .ref m1, .ref m2, .ref m3, .ref m4, .ref m5, .ref m6]))]) [0] rfl
    have hKc := hK.sub (tys' := []) [] rfl
    have hDc := hD.sub (ws' := [(h0, .inr (18, [.int th, .ref l1, .ref l2, .ref l3, .ref l4, .ref l5, .ref l6, .int 0, .int tol, .int ag, .ref m1, .ref m2, .ref m3, .ref m4, .ref m5, .ref m6]))]) [0] (by decide) rfl
    have hFc := va_free (wc := [(h0, .inr (18, [.int th, .ref l1, .ref l2, .ref l3, .ref l4, .ref l5, .ref l6, .int 0, .int tol, .int ag, .ref m1, .ref m2, .ref m3, .ref m4, .ref m5, .ref m6]))]) hD hS hA [0] rfl
    refine va_calli (va_runV (As := [.int 1]) (rest := []) ⟨hx, hb, hml, hown, hts⟩ (k_X14_fails_1 l G z h0 th l1 l2 l3 l4 l5 l6 tol ag m1 m2 m3 m4 m5 m6 1 H_1.size (by decide)) (cwV 1 hts (lw_goodApp (lw_4 q1248 q1250 qs23 q7) q1251) rfl rfl rfl (by decide +kernel) ⟨Nat.le_of_ble_eq_true rfl, Nat.le_of_ble_eq_true rfl⟩) ⟨PW.blind, va_recv hK hP (ci := 18) (q0 := 0) rfl rfl, PW.of hPc hKc hDc hG hS hFc [.ref h0, .int 1]⟩ rfl rfl hl.1 rfl (lv_room (Nat.le_of_ble_eq_true rfl)) dX14_mould_104 ⟨Nat.le_of_ble_eq_true rfl, Nat.le_of_ble_eq_true rfl⟩) hS (fun q _ h => hFc q h) hFc (fun r_115 u t_117 H_114 locs ht hvm hw_116 hB hz1 hk1 hS => ?_)
    obtain ⟨hP, hD, hK⟩ := QW.join (wr := [(l1, .inr (3, [.int c1, .ref z, .int 0]))]) (w1 := [(h0, .inr (18, [.int 1, .ref l1, .ref l2, .ref l3, .ref l4, .ref l5, .ref l6, .int 0, .int tol, .int ag, .ref m1, .ref m2, .ref m3, .ref m4, .ref m5, .ref m6]))]) hP hD hK [0] [1] rfl rfl (by decide) (by decide) hk1 hFc ht hvm hB
    have hP : va_P G vwCl ([(l1, .inr (3, [.int c1, .ref z, .int 0])), (h0, .inr (18, [.int 1, .ref l1, .ref l2, .ref l3, .ref l4, .ref l5, .ref l6, .int 0, .int tol, .int ag, .ref m1, .ref m2, .ref m3, .ref m4, .ref m5, .ref m6]))]) H_114 := hP
    have hD : va_D A ([(l1, .inr (3, [.int c1, .ref z, .int 0])), (h0, .inr (18, [.int 1, .ref l1, .ref l2, .ref l3, .ref l4, .ref l5, .ref l6, .int 0, .int tol, .int ag, .ref m1, .ref m2, .ref m3, .ref m4, .ref m5, .ref m6]))]) := hD
    have hK : va_K G vwCl [] s := hK
    refine W.widen (k := 0) (n := 0) (Nat.le_of_ble_eq_true rfl) (Nat.le_of_ble_eq_true rfl) ?_
    obtain rfl : 1 = r_115 := hw_116.symm
    refine lv_if_eq (tgt := 112) hx hb dX14_mould_107 (by decide) (fun c_118 => absurd c_118 (by decide)) (fun c_118 => ?_)
    refine lv_iconst (v := 0) hx hb dX14_mould_110 (by decide) ?_
    refine W.widen (k := 5) (n := 29) (Nat.le_of_ble_eq_true rfl) (Nat.le_of_ble_eq_true rfl) ?_
    have hP9 := hP.sub (ws' := [(h0, .inr (18, [.int 1, .ref l1, .ref l2, .ref l3, .ref l4, .ref l5, .ref l6, .int 0, .int tol, .int ag, .ref m1, .ref m2, .ref m3, .ref m4, .ref m5, .ref m6]))]) [1] rfl
    have hD9 := hD.sub (ws' := [(h0, .inr (18, [.int 1, .ref l1, .ref l2, .ref l3, .ref l4, .ref l5, .ref l6, .int 0, .int tol, .int ag, .ref m1, .ref m2, .ref m3, .ref m4, .ref m5, .ref m6]))]) [1] (by decide) rfl
    have hK9 := hK.sub (tys' := []) [] rfl
    exact W.iret (v := 0) hx hb hr (fun t ht hW => ⟨⟨0, (), rfl, fun h9 => (hc_5 (h9.1)).elim, ⟨1, Or.inr ⟨fun h9 => hc_5 (h9.1), rfl⟩, QW.of hP9 hK9 hD9 ht hW.alike⟩⟩, hS.F ht⟩) hS.2.2 dX14_mould_111

abbrev wz_X14_ream : List Cond := .code yX14_ream cX14_ream 3 (Option.some Jvm.ClassFile.FieldType.int) :: lw_good
set_option maxHeartbeats 4000000 in
set_option maxRecDepth 100000 in
/-- ream (reference): the first one -/
theorem k_X14_ream (l : Launch) (G : va_G) (z : Nat) (h0 : Nat) (th : Int32) (l1 : Nat) (l2 : Nat) (l3 : Nat) (l4 : Nat) (l5 : Nat) (l6 : Nat) (tol : Int32) (ag : Int32) (m1 : Nat) (m2 : Nat) (m3 : Nat) (m4 : Nat) (m5 : Nat) (m6 : Nat) (c3 : Int32) (p0 : Int32) (sz : Nat)  : Met l yX14_ream wz_X14_ream ({ frames := 5, cells := 3, slots := 15, locals := 101 }) (va_Pc [.ref h0, .int p0] (PW G z [(h0, .inr (18, [.int th, .ref l1, .ref l2, .ref l3, .ref l4, .ref l5, .ref l6, .int 0, .int tol, .int ag, .ref m1, .ref m2, .ref m3, .ref m4, .ref m5, .ref m6])), (l3, .inr (3, [.int c3, .ref z, .int 0]))] [] sz)) (va_Qi (fun (r : Int32) (_ : Unit) => okR p0 → r = 0) (fun (_ : Unit) (t : State) => ∃ (th1 : Int32), ((okR p0 ∧ th1 = 0) ∨ (¬ (okR p0) ∧ th1 = 1)) ∧ QW G [(h0, .inr (18, [.int th1, .ref l1, .ref l2, .ref l3, .ref l4, .ref l5, .ref l6, .int 0, .int tol, .int ag, .ref m1, .ref m2, .ref m3, .ref m4, .ref m5, .ref m6]))] [] (va_A [(h0, .inr (18, [.int th, .ref l1, .ref l2, .ref l3, .ref l4, .ref l5, .ref l6, .int 0, .int tol, .int ag, .ref m1, .ref m2, .ref m3, .ref m4, .ref m5, .ref m6])), (l3, .inr (3, [.int c3, .ref z, .int 0]))] sz) t) (va_A [(h0, .inr (18, [.int th, .ref l1, .ref l2, .ref l3, .ref l4, .ref l5, .ref l6, .int 0, .int tol, .int ag, .ref m1, .ref m2, .ref m3, .ref m4, .ref m5, .ref m6])), (l3, .inr (3, [.int c3, .ref z, .int 0]))] sz)) 3 15 (va_A [(h0, .inr (18, [.int th, .ref l1, .ref l2, .ref l3, .ref l4, .ref l5, .ref l6, .int 0, .int tol, .int ag, .ref m1, .ref m2, .ref m3, .ref m4, .ref m5, .ref m6])), (l3, .inr (3, [.int c3, .ref z, .int 0]))] sz) := by
  refine Met.ofW (cc := cX14_ream) (maxL := 3) (ret := (Option.some Jvm.ClassFile.FieldType.int)) (by decide) rfl ?_
  intro p e s m args below meth c s₁ B hml hv
  obtain ⟨rfl, rfl, hP, hK, hD0, hG⟩ := hv
  have hx := B.exec
  have hb := B.bytes
  have hr := B.returns
  have hts := atoms_spec (ws := wz_X14_ream) B.pre
  have hg : ∀ w ∈ lw_good, w.before _ s = true := fun w h => hts w (List.mem_cons_of_mem _ h)
  have hown : s.vm.findClass RX14 = some m.cls := findClass_of_methodNamed B.named
  have hlocks := B.notSynchronized
  have hD := hD0.self (sz := s.heap.size)
  generalize hAe : va_A [(h0, .inr (18, [.int th, .ref l1, .ref l2, .ref l3, .ref l4, .ref l5, .ref l6, .int 0, .int tol, .int ag, .ref m1, .ref m2, .ref m3, .ref m4, .ref m5, .ref m6])), (l3, .inr (3, [.int c3, .ref z, .int 0]))] s.heap.size = A at hD hG ⊢
  have hA : ∀ q : Nat, s.heap.size ≤ q → A q := fun q h => by rw [← hAe]; exact Or.inr h
  have hS : va_S A s.heap s.heap [] := va_S.rf
  have hl := lv_entry ([.ref h0, .int p0]) (n := 3) (Nat.le_of_ble_eq_true rfl)
  rw [lg_entry_eq]
  generalize (lg_sl ([.ref h0, .int p0]) ++ List.replicate (3 - (lg_sl ([.ref h0, .int p0])).length) Slot.unset).toArray = ls at hl ⊢
  have hl : lv_has ls 3 [(0, .ref h0), (1, .int p0)] := hl
  refine lv_aload_n hx hb dX14_ream_0 rfl (lv_at hl 0 rfl) ?_
  refine lv_iload_n hx hb dX14_ream_1 rfl (lv_at hl 1 rfl) ?_
  refine lv_iconst (v := 0) hx hb dX14_ream_2 (by decide) ?_
  refine lv_iconst (v := 4) hx hb dX14_ream_3 (by decide) ?_
  have hPc := hP.sub (ws' := []) [] rfl
  have hKc := hK.sub (tys' := []) [] rfl
  refine va_calli (va_runS (As := [.int p0, .int 0, .int 4]) (rest := [.ref h0]) ⟨hx, hb, hml, hown, hts⟩ (k_X14_in l G z p0 0 4 s.heap.size ) (va_cwS 3 hts (lw_goodApp (lw_3 q1244 q1245 q7) q1246) rfl rfl rfl (by decide +kernel) ⟨Nat.le_of_ble_eq_true rfl, Nat.le_of_ble_eq_true rfl⟩) ⟨PR.blind, PR.of hPc hKc hG hS hA [.int p0, .int 0, .int 4]⟩ rfl rfl hl.1 rfl (lv_room (Nat.le_of_ble_eq_true rfl)) dX14_ream_4 ⟨Nat.le_of_ble_eq_true rfl, Nat.le_of_ble_eq_true rfl⟩) hS (fun q h9 h => zN.not h9 h) (fun q h => hA q (Nat.le_trans hS.1 h)) (fun r_2 u t_4 H_1 locs ht hvm hw_3 hB hz1 hk1 hS => ?_)
  have hP := hP.grown hk1
  refine W.widen (k := 0) (n := 0) (Nat.le_of_ble_eq_true rfl) (Nat.le_of_ble_eq_true rfl) ?_
  rcases z_ite hw_3 with ⟨hc_5, rfl⟩ | ⟨hc_5, rfl⟩
  · refine lv_if_ne (tgt := 14) hx hb dX14_ream_7 (by decide) (fun c_6 => ?_) (fun c_6 => absurd c_6 (by decide))
    refine lv_aload_n hx hb dX14_ream_14 rfl (lv_at hl 0 rfl) ?_
    refine va_get (D := G) (ci := 18) (v := .ref l3) (C := RX14) (T := TX14) (N := 16) hx hb hg in_X14 hown hK hP 0 rfl rfl 3 (by decide) (hg _ q1190) (fun _ h9 => h9) rfl dX14_ream_15 ?_
    have hPc := hP.sub (ws' := [(l3, .inr (3, [.int c3, .ref z, .int 0]))]) [1] rfl
    have hKc := hK.sub (tys' := []) [] rfl
    refine va_calli (va_runV (As := []) (rest := [.ref h0]) ⟨hx, hb, hml, hown, hts⟩ (k_Jx4a65c_size_8abf5 l G z l3 c3 z 0 H_1.size ) (cwV 0 hts (lw_goodApp (lw_4 q1247 q161 q162 q4) q163) rfl rfl rfl (by decide +kernel) ⟨Nat.le_of_ble_eq_true rfl, Nat.le_of_ble_eq_true rfl⟩) ⟨PR.blind, va_recv hK hP (ci := 3) (q0 := 1) rfl rfl, PR.of hPc hKc hG hS hA [.ref l3]⟩ rfl rfl hl.1 rfl (lv_room (Nat.le_of_ble_eq_true rfl)) dX14_ream_18 ⟨Nat.le_of_ble_eq_true rfl, Nat.le_of_ble_eq_true rfl⟩) hS (fun q h9 h => zN.not h9 h) (fun q h => hA q (Nat.le_trans hS.1 h)) (fun r_8 u t_10 H_7 locs ht hvm hw_9 hB hz1 hk1 hS => ?_)
    have hP := hP.grown hk1
    refine W.widen (k := 0) (n := 0) (Nat.le_of_ble_eq_true rfl) (Nat.le_of_ble_eq_true rfl) ?_
    obtain rfl : 0 = r_8 := hw_9.symm
    refine lv_bipush (v := 20) hx hb dX14_ream_21 (by decide) ?_
    refine lv_icmp_ne (tgt := 30) hx hb dX14_ream_23 (by decide) (fun c_11 => ?_) (fun c_11 => absurd c_11 (by decide))
    refine lv_iconst (v := 0) hx hb dX14_ream_30 (by decide) ?_
    have hPc := hP.sub (ws' := [(h0, .inr (18, [.int th, .ref l1, .ref l2, .ref l3, .ref l4, .ref l5, .ref l6, .int 0, .int tol, .int ag, .ref m1, .ref m2, .ref m3, .ref m4, .ref m5, .ref m6]))]) [0] rfl
    have hKc := hK.sub (tys' := []) [] rfl
    have hDc := hD.sub (ws' := [(h0, .inr (18, [.int th, .ref l1, .ref l2, .ref l3, .ref l4, .ref l5, .ref l6, .int 0, .int tol, .int ag, .ref m1, .ref m2, .ref m3, .ref m4, .ref m5, .ref m6]))]) [0] (by decide) rfl
    have hFc := va_free (wc := [(h0, .inr (18, [.int th, .ref l1, .ref l2, .ref l3, .ref l4, .ref l5, .ref l6, .int 0, .int tol, .int ag, .ref m1, .ref m2, .ref m3, .ref m4, .ref m5, .ref m6]))]) hD hS hA [0] rfl
    refine va_calli (va_runV (As := [.int 0]) (rest := []) ⟨hx, hb, hml, hown, hts⟩ (k_X14_fails_0 l G z h0 th l1 l2 l3 l4 l5 l6 tol ag m1 m2 m3 m4 m5 m6 H_7.size ) (cwV 1 hts (lw_goodApp (lw_4 q1248 q1250 qs23 q7) q1251) rfl rfl rfl (by decide +kernel) ⟨Nat.le_of_ble_eq_true rfl, Nat.le_of_ble_eq_true rfl⟩) ⟨PW.blind, va_recv hK hP (ci := 18) (q0 := 0) rfl rfl, PW.of hPc hKc hDc hG hS hFc [.ref h0, .int 0]⟩ rfl rfl hl.1 rfl (lv_room (Nat.le_of_ble_eq_true rfl)) dX14_ream_31 ⟨Nat.le_of_ble_eq_true rfl, Nat.le_of_ble_eq_true rfl⟩) hS (fun q _ h => hFc q h) hFc (fun r_13 u t_15 H_12 locs ht hvm hw_14 hB hz1 hk1 hS => ?_)
    obtain ⟨hP, hD, hK⟩ := QW.join (wr := [(l3, .inr (3, [.int c3, .ref z, .int 0]))]) (w1 := [(h0, .inr (18, [.int 0, .ref l1, .ref l2, .ref l3, .ref l4, .ref l5, .ref l6, .int 0, .int tol, .int ag, .ref m1, .ref m2, .ref m3, .ref m4, .ref m5, .ref m6]))]) hP hD hK [0] [1] rfl rfl (by decide) (by decide) hk1 hFc ht hvm hB
    have hP : va_P G vwCl ([(l3, .inr (3, [.int c3, .ref z, .int 0])), (h0, .inr (18, [.int 0, .ref l1, .ref l2, .ref l3, .ref l4, .ref l5, .ref l6, .int 0, .int tol, .int ag, .ref m1, .ref m2, .ref m3, .ref m4, .ref m5, .ref m6]))]) H_12 := hP
    have hD : va_D A ([(l3, .inr (3, [.int c3, .ref z, .int 0])), (h0, .inr (18, [.int 0, .ref l1, .ref l2, .ref l3, .ref l4, .ref l5, .ref l6, .int 0, .int tol, .int ag, .ref m1, .ref m2, .ref m3, .ref m4, .ref m5, .ref m6]))]) := hD
    have hK : va_K G vwCl [] s := hK
    refine W.widen (k := 0) (n := 0) (Nat.le_of_ble_eq_true rfl) (Nat.le_of_ble_eq_true rfl) ?_
    obtain rfl : 0 = r_13 := hw_14.symm
    refine lv_if_eq (tgt := 39) hx hb dX14_ream_34 (by decide) (fun c_16 => ?_) (fun c_16 => absurd rfl c_16)
    refine lv_aload_n hx hb dX14_ream_39 rfl (lv_at hl 0 rfl) ?_
    refine va_get (D := G) (ci := 18) (v := .ref l3) (C := RX14) (T := TX14) (N := 16) hx hb hg in_X14 hown hK hP 1 rfl rfl 3 (by decide) (hg _ q1190) (fun _ h9 => h9) rfl dX14_ream_40 ?_
    refine va_new (ci := 16) (fs := [.int 0, .null]) (C := RX12) (T := TX12) (N := 2) hx hb hg in_X12 tyX12 tyX12_ok hown (hg _ q1458) (hg _ q1459) (hg _ q31) hK hP hD hS hA rfl (fun j hj => by rcases (show j = 0 ∨ j = 1 by omega) with rfl | rfl <;> rfl) (Nat.le_of_ble_eq_true rfl) (Nat.le_of_ble_eq_true rfl) dX14_ream_43 (fun o_17 H_18 hP hD hS => ?_)
    have hP : va_P G vwCl ([(l3, .inr (3, [.int c3, .ref z, .int 0])), (h0, .inr (18, [.int 0, .ref l1, .ref l2, .ref l3, .ref l4, .ref l5, .ref l6, .int 0, .int tol, .int ag, .ref m1, .ref m2, .ref m3, .ref m4, .ref m5, .ref m6])), (o_17, .inr (16, [.int 0, .null]))]) H_18 := hP
    have hD : va_D A ([(l3, .inr (3, [.int c3, .ref z, .int 0])), (h0, .inr (18, [.int 0, .ref l1, .ref l2, .ref l3, .ref l4, .ref l5, .ref l6, .int 0, .int tol, .int ag, .ref m1, .ref m2, .ref m3, .ref m4, .ref m5, .ref m6])), (o_17, .inr (16, [.int 0, .null]))]) := hD
    refine W.widen (k := 1) (n := 2) (Nat.le_of_ble_eq_true rfl) (Nat.le_of_ble_eq_true rfl) ?_
    refine lv_dup hx hb dX14_ream_46 rfl ?_
    refine lv_iload_n hx hb dX14_ream_47 rfl (lv_at hl 1 rfl) ?_
    have hPc := hP.sub (ws' := [(o_17, .inr (16, [.int 0, .null]))]) [2] rfl
    have hKc := hK.sub (tys' := []) [] rfl
    have hDc := hD.sub (ws' := [(o_17, .inr (16, [.int 0, .null]))]) [2] (by decide) rfl
    have hFc := va_free (wc := [(o_17, .inr (16, [.int 0, .null]))]) hD hS hA [2] rfl
    refine va_callv (va_runI (As := [.int p0]) (rest := [.ref o_17, .ref l3]) ⟨hx, hb, hml, hown, hts⟩ (k_X12_init l G z o_17 p0 H_18.size ) (cwI 1 hts (lw_goodAll q1462) rfl rfl rfl (hg _ q31) (hg _ q1460) (hg _ q1461) rfl (by decide +kernel) ⟨Nat.le_of_ble_eq_true rfl, Nat.le_of_ble_eq_true rfl⟩) ⟨PW.blind, PW.of hPc hKc hDc hG hS hFc [.ref o_17, .int p0]⟩ rfl rfl hl.1 rfl (lv_room (Nat.le_of_ble_eq_true rfl)) dX14_ream_48 ⟨Nat.le_of_ble_eq_true rfl, Nat.le_of_ble_eq_true rfl⟩) hS (fun q _ h => hFc q h) hFc (fun u t_22 H_19 locs ht hvm hw_21 hB hz1 hk1 hS => ?_)
    obtain ⟨fsx_23, hB⟩ := hB
    obtain ⟨hP, hD, hK⟩ := QW.join (wr := [(l3, .inr (3, [.int c3, .ref z, .int 0])), (h0, .inr (18, [.int 0, .ref l1, .ref l2, .ref l3, .ref l4, .ref l5, .ref l6, .int 0, .int tol, .int ag, .ref m1, .ref m2, .ref m3, .ref m4, .ref m5, .ref m6]))]) (w1 := [(o_17, .inr (16, fsx_23))]) hP hD hK [2] [0, 1] rfl rfl (by decide) (by decide) hk1 hFc ht hvm hB
    have hP : va_P G vwCl ([(l3, .inr (3, [.int c3, .ref z, .int 0])), (h0, .inr (18, [.int 0, .ref l1, .ref l2, .ref l3, .ref l4, .ref l5, .ref l6, .int 0, .int tol, .int ag, .ref m1, .ref m2, .ref m3, .ref m4, .ref m5, .ref m6])), (o_17, .inr (16, fsx_23))]) H_19 := hP
    have hD : va_D A ([(l3, .inr (3, [.int c3, .ref z, .int 0])), (h0, .inr (18, [.int 0, .ref l1, .ref l2, .ref l3, .ref l4, .ref l5, .ref l6, .int 0, .int tol, .int ag, .ref m1, .ref m2, .ref m3, .ref m4, .ref m5, .ref m6])), (o_17, .inr (16, fsx_23))]) := hD
    have hK : va_K G vwCl [] s := hK
    refine W.widen (k := 2) (n := 5) (Nat.le_of_ble_eq_true rfl) (Nat.le_of_ble_eq_true rfl) ?_
    have hPc := hP.sub (ws' := [(l3, .inr (3, [.int c3, .ref z, .int 0])), (o_17, .inr (16, fsx_23))]) [0, 2] rfl
    have hKc := hK.sub (tys' := []) [] rfl
    have hDc := hD.sub (ws' := [(l3, .inr (3, [.int c3, .ref z, .int 0])), (o_17, .inr (16, fsx_23))]) [0, 2] (by decide) rfl
    have hFc := va_free (wc := [(l3, .inr (3, [.int c3, .ref z, .int 0])), (o_17, .inr (16, fsx_23))]) hD hS hA [0, 2] rfl
    refine va_calli (va_runV (As := [.ref o_17]) (rest := []) ⟨hx, hb, hml, hown, hts⟩ (k_Jx4a65c_add_9ea2d l G z l3 c3 o_17 16 ((RX12, TX12, 2)) fsx_23 H_19.size rfl qf1762) (cwV 1 hts (lw_goodApp (lw_4 q1296 q449 q450 q4) q451) rfl rfl rfl (by decide +kernel) ⟨Nat.le_of_ble_eq_true rfl, Nat.le_of_ble_eq_true rfl⟩) ⟨PW.blind, va_recv hK hP (ci := 3) (q0 := 0) rfl rfl, PW.of hPc hKc hDc hG hS hFc [.ref l3, .ref o_17]⟩ rfl rfl hl.1 rfl (lv_room (Nat.le_of_ble_eq_true rfl)) dX14_ream_51 ⟨Nat.le_of_ble_eq_true rfl, Nat.le_of_ble_eq_true rfl⟩) hS (fun q _ h => hFc q h) hFc (fun r_25 u t_27 H_24 locs ht hvm hw_26 hB hz1 hk1 hS => ?_)
    obtain ⟨c1_28, qa_29, hB⟩ := hB
    obtain ⟨hP, hD, hK⟩ := QW.join (wr := [(h0, .inr (18, [.int 0, .ref l1, .ref l2, .ref l3, .ref l4, .ref l5, .ref l6, .int 0, .int tol, .int ag, .ref m1, .ref m2, .ref m3, .ref m4, .ref m5, .ref m6]))]) (w1 := [(l3, .inr (3, [.int c1_28, .ref qa_29, .int 1])), (o_17, .inr (16, fsx_23))]) hP hD hK [0, 2] [1] rfl rfl (by decide) (by decide) hk1 hFc ht hvm hB
    have hP : va_P G vwCl ([(h0, .inr (18, [.int 0, .ref l1, .ref l2, .ref l3, .ref l4, .ref l5, .ref l6, .int 0, .int tol, .int ag, .ref m1, .ref m2, .ref m3, .ref m4, .ref m5, .ref m6])), (l3, .inr (3, [.int c1_28, .ref qa_29, .int 1])), (o_17, .inr (16, fsx_23))]) H_24 := hP
    have hD : va_D A ([(h0, .inr (18, [.int 0, .ref l1, .ref l2, .ref l3, .ref l4, .ref l5, .ref l6, .int 0, .int tol, .int ag, .ref m1, .ref m2, .ref m3, .ref m4, .ref m5, .ref m6])), (l3, .inr (3, [.int c1_28, .ref qa_29, .int 1])), (o_17, .inr (16, fsx_23))]) := hD
    have hK : va_K G vwCl [] s := hK
    refine W.widen (k := 3) (n := 15) (Nat.le_of_ble_eq_true rfl) (Nat.le_of_ble_eq_true rfl) ?_
    obtain rfl : 1 = r_25 := hw_26.symm
    refine lv_istore_n (lv' := [(2, .int 1), (0, .ref h0), (1, .int p0)]) hx hb dX14_ream_54 rfl hl (by decide) rfl (fun ls hl => ?_)
    refine lv_aload_n hx hb dX14_ream_55 rfl (lv_at hl 1 rfl) ?_
    refine va_get (D := G) (ci := 18) (v := .ref l3) (C := RX14) (T := TX14) (N := 16) hx hb hg in_X14 hown hK hP 0 rfl rfl 3 (by decide) (hg _ q1190) (fun _ h9 => h9) rfl dX14_ream_56 ?_
    have hPc := hP.sub (ws' := [(l3, .inr (3, [.int c1_28, .ref qa_29, .int 1]))]) [1] rfl
    have hKc := hK.sub (tys' := []) [] rfl
    refine va_calli (va_runV (As := []) (rest := []) ⟨hx, hb, hml, hown, hts⟩ (k_Jx4a65c_size_8abf5 l G z l3 c1_28 qa_29 1 H_24.size ) (cwV 0 hts (lw_goodApp (lw_4 q1247 q161 q162 q4) q163) rfl rfl rfl (by decide +kernel) ⟨Nat.le_of_ble_eq_true rfl, Nat.le_of_ble_eq_true rfl⟩) ⟨PR.blind, va_recv hK hP (ci := 3) (q0 := 1) rfl rfl, PR.of hPc hKc hG hS hA [.ref l3]⟩ rfl rfl hl.1 rfl (lv_room (Nat.le_of_ble_eq_true rfl)) dX14_ream_59 ⟨Nat.le_of_ble_eq_true rfl, Nat.le_of_ble_eq_true rfl⟩) hS (fun q h9 h => zN.not h9 h) (fun q h => hA q (Nat.le_trans hS.1 h)) (fun r_31 u t_33 H_30 locs ht hvm hw_32 hB hz1 hk1 hS => ?_)
    have hP := hP.grown hk1
    refine W.widen (k := 3) (n := 15) (Nat.le_of_ble_eq_true rfl) (Nat.le_of_ble_eq_true rfl) ?_
    obtain rfl : 1 = r_31 := hw_32.symm
    refine lv_iconst (v := 1) hx hb dX14_ream_62 (by decide) ?_
    refine lv_isub hx hb dX14_ream_63 ?_
    refine lv_topi (fun f_34 ef_34 => ?_)
    obtain rfl : f_34 = 0 := ef_34.trans (by decide)
    refine W.widen (k := 3) (n := 15) (Nat.le_of_ble_eq_true rfl) (Nat.le_of_ble_eq_true rfl) ?_
    have hP9 := hP.sub (ws' := [(h0, .inr (18, [.int 0, .ref l1, .ref l2, .ref l3, .ref l4, .ref l5, .ref l6, .int 0, .int tol, .int ag, .ref m1, .ref m2, .ref m3, .ref m4, .ref m5, .ref m6]))]) [0] rfl
    have hD9 := hD.sub (ws' := [(h0, .inr (18, [.int 0, .ref l1, .ref l2, .ref l3, .ref l4, .ref l5, .ref l6, .int 0, .int tol, .int ag, .ref m1, .ref m2, .ref m3, .ref m4, .ref m5, .ref m6]))]) [0] (by decide) rfl
    have hK9 := hK.sub (tys' := []) [] rfl
    exact W.iret (v := 0) hx hb hr (fun t ht hW => ⟨⟨0, (), rfl, fun _ => rfl, ⟨0, Or.inl ⟨hc_5, rfl⟩, QW.of hP9 hK9 hD9 ht hW.alike⟩⟩, hS.F ht⟩) hS.2.2 dX14_ream_64
  · refine lv_if_ne (tgt := 14) hx hb dX14_ream_7 (by decide) (fun c_35 => absurd rfl c_35) (fun c_35 => ?_)
    refine lv_iconst (v := 1) hx hb dX14_ream_10 (by decide) ?_
    refine lv_goto (tgt := 31) hx hb dX14_ream_11 (by decide) ?_
    have hPc := hP.sub (ws' := [(h0, .inr (18, [.int th, .ref l1, .ref l2, .ref l3, .ref l4, .ref l5, .ref l6, .int 0, .int tol, .int ag, .ref m1, .ref m2, .ref m3, .ref m4, .ref m5, .ref m6]))]) [0] rfl
    have hKc := hK.sub (tys' := []) [] rfl
    have hDc := hD.sub (ws' := [(h0, .inr (18, [.int th, .ref l1, .ref l2, .ref l3, .ref l4, .ref l5, .ref l6, .int 0, .int tol, .int ag, .ref m1, .ref m2, .ref m3, .ref m4, .ref m5, .ref m6]))]) [0] (by decide) rfl
    have hFc := va_free (wc := [(h0, .inr (18, [.int th, .ref l1, .ref l2, .ref l3, .ref l4, .ref l5, .ref l6, .int 0, .int tol, .int ag, .ref m1, .ref m2, .ref m3, .ref m4, .ref m5, .ref m6]))]) hD hS hA [0] rfl
    refine va_calli (va_runV (As := [.int 1]) (rest := []) ⟨hx, hb, hml, hown, hts⟩ (k_X14_fails_1 l G z h0 th l1 l2 l3 l4 l5 l6 tol ag m1 m2 m3 m4 m5 m6 1 H_1.size (by decide)) (cwV 1 hts (lw_goodApp (lw_4 q1248 q1250 qs23 q7) q1251) rfl rfl rfl (by decide +kernel) ⟨Nat.le_of_ble_eq_true rfl, Nat.le_of_ble_eq_true rfl⟩) ⟨PW.blind, va_recv hK hP (ci := 18) (q0 := 0) rfl rfl, PW.of hPc hKc hDc hG hS hFc [.ref h0, .int 1]⟩ rfl rfl hl.1 rfl (lv_room (Nat.le_of_ble_eq_true rfl)) dX14_ream_31 ⟨Nat.le_of_ble_eq_true rfl, Nat.le_of_ble_eq_true rfl⟩) hS (fun q _ h => hFc q h) hFc (fun r_37 u t_39 H_36 locs ht hvm hw_38 hB hz1 hk1 hS => ?_)
    obtain ⟨hP, hD, hK⟩ := QW.join (wr := [(l3, .inr (3, [.int c3, .ref z, .int 0]))]) (w1 := [(h0, .inr (18, [.int 1, .ref l1, .ref l2, .ref l3, .ref l4, .ref l5, .ref l6, .int 0, .int tol, .int ag, .ref m1, .ref m2, .ref m3, .ref m4, .ref m5, .ref m6]))]) hP hD hK [0] [1] rfl rfl (by decide) (by decide) hk1 hFc ht hvm hB
    have hP : va_P G vwCl ([(l3, .inr (3, [.int c3, .ref z, .int 0])), (h0, .inr (18, [.int 1, .ref l1, .ref l2, .ref l3, .ref l4, .ref l5, .ref l6, .int 0, .int tol, .int ag, .ref m1, .ref m2, .ref m3, .ref m4, .ref m5, .ref m6]))]) H_36 := hP
    have hD : va_D A ([(l3, .inr (3, [.int c3, .ref z, .int 0])), (h0, .inr (18, [.int 1, .ref l1, .ref l2, .ref l3, .ref l4, .ref l5, .ref l6, .int 0, .int tol, .int ag, .ref m1, .ref m2, .ref m3, .ref m4, .ref m5, .ref m6]))]) := hD
    have hK : va_K G vwCl [] s := hK
    refine W.widen (k := 0) (n := 0) (Nat.le_of_ble_eq_true rfl) (Nat.le_of_ble_eq_true rfl) ?_
    obtain rfl : 1 = r_37 := hw_38.symm
    refine lv_if_eq (tgt := 39) hx hb dX14_ream_34 (by decide) (fun c_40 => absurd c_40 (by decide)) (fun c_40 => ?_)
    refine lv_iconst (v := 0) hx hb dX14_ream_37 (by decide) ?_
    refine W.widen (k := 3) (n := 15) (Nat.le_of_ble_eq_true rfl) (Nat.le_of_ble_eq_true rfl) ?_
    have hP9 := hP.sub (ws' := [(h0, .inr (18, [.int 1, .ref l1, .ref l2, .ref l3, .ref l4, .ref l5, .ref l6, .int 0, .int tol, .int ag, .ref m1, .ref m2, .ref m3, .ref m4, .ref m5, .ref m6]))]) [1] rfl
    have hD9 := hD.sub (ws' := [(h0, .inr (18, [.int 1, .ref l1, .ref l2, .ref l3, .ref l4, .ref l5, .ref l6, .int 0, .int tol, .int ag, .ref m1, .ref m2, .ref m3, .ref m4, .ref m5, .ref m6]))]) [1] (by decide) rfl
    have hK9 := hK.sub (tys' := []) [] rfl
    exact W.iret (v := 0) hx hb hr (fun t ht hW => ⟨⟨0, (), rfl, fun h9 => (hc_5 (h9)).elim, ⟨1, Or.inr ⟨fun h9 => hc_5 (h9), rfl⟩, QW.of hP9 hK9 hD9 ht hW.alike⟩⟩, hS.F ht⟩) hS.2.2 dX14_ream_38

abbrev wz_X14_document : List Cond := .code yX14_document cX14_document 4 (Option.some Jvm.ClassFile.FieldType.int) :: lw_good
set_option maxHeartbeats 4000000 in
set_option maxRecDepth 100000 in
/-- document (reference): the first one -/
theorem k_X14_document (l : Launch) (G : va_G) (z : Nat) (h0 : Nat) (th : Int32) (l1 : Nat) (l2 : Nat) (l3 : Nat) (l4 : Nat) (l5 : Nat) (l6 : Nat) (tol : Int32) (ag : Int32) (m1 : Nat) (m2 : Nat) (m3 : Nat) (m4 : Nat) (m5 : Nat) (m6 : Nat) (c4 : Int32) (p0 : Int32) (p1 : Int32) (sz : Nat)  : Met l yX14_document wz_X14_document ({ frames := 5, cells := 4, slots := 22, locals := 102 }) (va_Pc [.ref h0, .int p0, .int p1] (PW G z [(h0, .inr (18, [.int th, .ref l1, .ref l2, .ref l3, .ref l4, .ref l5, .ref l6, .int 0, .int tol, .int ag, .ref m1, .ref m2, .ref m3, .ref m4, .ref m5, .ref m6])), (l4, .inr (3, [.int c4, .ref z, .int 0]))] [] sz)) (va_Qi (fun (r : Int32) (_ : Unit) => okD p0 p1 → r = 0) (fun (_ : Unit) (t : State) => ∃ (th1 : Int32), ((okD p0 p1 ∧ th1 = 0) ∨ (¬ (okD p0 p1) ∧ th1 = 1)) ∧ QW G [(h0, .inr (18, [.int th1, .ref l1, .ref l2, .ref l3, .ref l4, .ref l5, .ref l6, .int 0, .int tol, .int ag, .ref m1, .ref m2, .ref m3, .ref m4, .ref m5, .ref m6]))] [] (va_A [(h0, .inr (18, [.int th, .ref l1, .ref l2, .ref l3, .ref l4, .ref l5, .ref l6, .int 0, .int tol, .int ag, .ref m1, .ref m2, .ref m3, .ref m4, .ref m5, .ref m6])), (l4, .inr (3, [.int c4, .ref z, .int 0]))] sz) t) (va_A [(h0, .inr (18, [.int th, .ref l1, .ref l2, .ref l3, .ref l4, .ref l5, .ref l6, .int 0, .int tol, .int ag, .ref m1, .ref m2, .ref m3, .ref m4, .ref m5, .ref m6])), (l4, .inr (3, [.int c4, .ref z, .int 0]))] sz)) 4 22 (va_A [(h0, .inr (18, [.int th, .ref l1, .ref l2, .ref l3, .ref l4, .ref l5, .ref l6, .int 0, .int tol, .int ag, .ref m1, .ref m2, .ref m3, .ref m4, .ref m5, .ref m6])), (l4, .inr (3, [.int c4, .ref z, .int 0]))] sz) := by
  refine Met.ofW (cc := cX14_document) (maxL := 4) (ret := (Option.some Jvm.ClassFile.FieldType.int)) (by decide) rfl ?_
  intro p e s m args below meth c s₁ B hml hv
  obtain ⟨rfl, rfl, hP, hK, hD0, hG⟩ := hv
  have hx := B.exec
  have hb := B.bytes
  have hr := B.returns
  have hts := atoms_spec (ws := wz_X14_document) B.pre
  have hg : ∀ w ∈ lw_good, w.before _ s = true := fun w h => hts w (List.mem_cons_of_mem _ h)
  have hown : s.vm.findClass RX14 = some m.cls := findClass_of_methodNamed B.named
  have hlocks := B.notSynchronized
  have hD := hD0.self (sz := s.heap.size)
  generalize hAe : va_A [(h0, .inr (18, [.int th, .ref l1, .ref l2, .ref l3, .ref l4, .ref l5, .ref l6, .int 0, .int tol, .int ag, .ref m1, .ref m2, .ref m3, .ref m4, .ref m5, .ref m6])), (l4, .inr (3, [.int c4, .ref z, .int 0]))] s.heap.size = A at hD hG ⊢
  have hA : ∀ q : Nat, s.heap.size ≤ q → A q := fun q h => by rw [← hAe]; exact Or.inr h
  have hS : va_S A s.heap s.heap [] := va_S.rf
  have hl := lv_entry ([.ref h0, .int p0, .int p1]) (n := 4) (Nat.le_of_ble_eq_true rfl)
  rw [lg_entry_eq]
  generalize (lg_sl ([.ref h0, .int p0, .int p1]) ++ List.replicate (4 - (lg_sl ([.ref h0, .int p0, .int p1])).length) Slot.unset).toArray = ls at hl ⊢
  have hl : lv_has ls 4 [(0, .ref h0), (1, .int p0), (2, .int p1)] := hl
  refine lv_aload_n hx hb dX14_document_0 rfl (lv_at hl 0 rfl) ?_
  refine lv_iload_n hx hb dX14_document_1 rfl (lv_at hl 1 rfl) ?_
  have hPc := hP.sub (ws' := []) [] rfl
  have hKc := hK.sub (tys' := []) [] rfl
  refine va_calli (va_runS (As := [.int p0]) (rest := [.ref h0]) ⟨hx, hb, hml, hown, hts⟩ (k_X14_isYear l G z p0 s.heap.size ) (va_cwS 1 hts (lw_goodApp (lw_3 q1325 q1326 q7) q1327) rfl rfl rfl (by decide +kernel) ⟨Nat.le_of_ble_eq_true rfl, Nat.le_of_ble_eq_true rfl⟩) ⟨PR.blind, PR.of hPc hKc hG hS hA [.int p0]⟩ rfl rfl hl.1 rfl (lv_room (Nat.le_of_ble_eq_true rfl)) dX14_document_2 ⟨Nat.le_of_ble_eq_true rfl, Nat.le_of_ble_eq_true rfl⟩) hS (fun q h9 h => zN.not h9 h) (fun q h => hA q (Nat.le_trans hS.1 h)) (fun r_2 u t_4 H_1 locs ht hvm hw_3 hB hz1 hk1 hS => ?_)
  have hP := hP.grown hk1
  refine W.widen (k := 0) (n := 0) (Nat.le_of_ble_eq_true rfl) (Nat.le_of_ble_eq_true rfl) ?_
  rcases z_ite hw_3 with ⟨hc_5, rfl⟩ | ⟨hc_5, rfl⟩
  · refine lv_if_eq (tgt := 17) hx hb dX14_document_5 (by decide) (fun c_6 => absurd c_6 (by decide)) (fun c_6 => ?_)
    refine lv_iload_n hx hb dX14_document_8 rfl (lv_at hl 2 rfl) ?_
    refine lv_iconst (v := 0) hx hb dX14_document_9 (by decide) ?_
    refine lv_iconst (v := 3) hx hb dX14_document_10 (by decide) ?_
    have hPc := hP.sub (ws' := []) [] rfl
    have hKc := hK.sub (tys' := []) [] rfl
    refine va_calli (va_runS (As := [.int p1, .int 0, .int 3]) (rest := [.ref h0]) ⟨hx, hb, hml, hown, hts⟩ (k_X14_in l G z p1 0 3 H_1.size ) (va_cwS 3 hts (lw_goodApp (lw_3 q1244 q1245 q7) q1246) rfl rfl rfl (by decide +kernel) ⟨Nat.le_of_ble_eq_true rfl, Nat.le_of_ble_eq_true rfl⟩) ⟨PR.blind, PR.of hPc hKc hG hS hA [.int p1, .int 0, .int 3]⟩ rfl rfl hl.1 rfl (lv_room (Nat.le_of_ble_eq_true rfl)) dX14_document_11 ⟨Nat.le_of_ble_eq_true rfl, Nat.le_of_ble_eq_true rfl⟩) hS (fun q h9 h => zN.not h9 h) (fun q h => hA q (Nat.le_trans hS.1 h)) (fun r_8 u t_10 H_7 locs ht hvm hw_9 hB hz1 hk1 hS => ?_)
    have hP := hP.grown hk1
    refine W.widen (k := 0) (n := 0) (Nat.le_of_ble_eq_true rfl) (Nat.le_of_ble_eq_true rfl) ?_
    rcases z_ite hw_9 with ⟨hc_11, rfl⟩ | ⟨hc_11, rfl⟩
    · refine lv_if_ne (tgt := 21) hx hb dX14_document_14 (by decide) (fun c_12 => ?_) (fun c_12 => absurd c_12 (by decide))
      refine lv_aload_n hx hb dX14_document_21 rfl (lv_at hl 0 rfl) ?_
      refine va_get (D := G) (ci := 18) (v := .ref l4) (C := RX14) (T := TX14) (N := 16) hx hb hg in_X14 hown hK hP 0 rfl rfl 4 (by decide) (hg _ q1191) (fun _ h9 => h9) rfl dX14_document_22 ?_
      have hPc := hP.sub (ws' := [(l4, .inr (3, [.int c4, .ref z, .int 0]))]) [1] rfl
      have hKc := hK.sub (tys' := []) [] rfl
      refine va_calli (va_runV (As := []) (rest := [.ref h0]) ⟨hx, hb, hml, hown, hts⟩ (k_Jx4a65c_size_8abf5 l G z l4 c4 z 0 H_7.size ) (cwV 0 hts (lw_goodApp (lw_4 q1247 q161 q162 q4) q163) rfl rfl rfl (by decide +kernel) ⟨Nat.le_of_ble_eq_true rfl, Nat.le_of_ble_eq_true rfl⟩) ⟨PR.blind, va_recv hK hP (ci := 3) (q0 := 1) rfl rfl, PR.of hPc hKc hG hS hA [.ref l4]⟩ rfl rfl hl.1 rfl (lv_room (Nat.le_of_ble_eq_true rfl)) dX14_document_25 ⟨Nat.le_of_ble_eq_true rfl, Nat.le_of_ble_eq_true rfl⟩) hS (fun q h9 h => zN.not h9 h) (fun q h => hA q (Nat.le_trans hS.1 h)) (fun r_14 u t_16 H_13 locs ht hvm hw_15 hB hz1 hk1 hS => ?_)
      have hP := hP.grown hk1
      refine W.widen (k := 0) (n := 0) (Nat.le_of_ble_eq_true rfl) (Nat.le_of_ble_eq_true rfl) ?_
      obtain rfl : 0 = r_14 := hw_15.symm
      refine lv_bipush (v := 20) hx hb dX14_document_28 (by decide) ?_
      refine lv_icmp_ne (tgt := 37) hx hb dX14_document_30 (by decide) (fun c_17 => ?_) (fun c_17 => absurd c_17 (by decide))
      refine lv_iconst (v := 0) hx hb dX14_document_37 (by decide) ?_
      have hPc := hP.sub (ws' := [(h0, .inr (18, [.int th, .ref l1, .ref l2, .ref l3, .ref l4, .ref l5, .ref l6, .int 0, .int tol, .int ag, .ref m1, .ref m2, .ref m3, .ref m4, .ref m5, .ref m6]))]) [0] rfl
      have hKc := hK.sub (tys' := []) [] rfl
      have hDc := hD.sub (ws' := [(h0, .inr (18, [.int th, .ref l1, .ref l2, .ref l3, .ref l4, .ref l5, .ref l6, .int 0, .int tol, .int ag, .ref m1, .ref m2, .ref m3, .ref m4, .ref m5, .ref m6]))]) [0] (by decide) rfl
      have hFc := va_free (wc := [(h0, .inr (18, [.int th, .ref l1, .ref l2, .ref l3, .ref l4, .ref l5, .ref l6, .int 0, .int tol, .int ag, .ref m1, .ref m2, .ref m3, .ref m4, .ref m5, .ref m6]))]) hD hS hA [0] rfl
      refine va_calli (va_runV (As := [.int 0]) (rest := []) ⟨hx, hb, hml, hown, hts⟩ (k_X14_fails_0 l G z h0 th l1 l2 l3 l4 l5 l6 tol ag m1 m2 m3 m4 m5 m6 H_13.size ) (cwV 1 hts (lw_goodApp (lw_4 q1248 q1250 qs23 q7) q1251) rfl rfl rfl (by decide +kernel) ⟨Nat.le_of_ble_eq_true rfl, Nat.le_of_ble_eq_true rfl⟩) ⟨PW.blind, va_recv hK hP (ci := 18) (q0 := 0) rfl rfl, PW.of hPc hKc hDc hG hS hFc [.ref h0, .int 0]⟩ rfl rfl hl.1 rfl (lv_room (Nat.le_of_ble_eq_true rfl)) dX14_document_38 ⟨Nat.le_of_ble_eq_true rfl, Nat.le_of_ble_eq_true rfl⟩) hS (fun q _ h => hFc q h) hFc (fun r_19 u t_21 H_18 locs ht hvm hw_20 hB hz1 hk1 hS => ?_)
      obtain ⟨hP, hD, hK⟩ := QW.join (wr := [(l4, .inr (3, [.int c4, .ref z, .int 0]))]) (w1 := [(h0, .inr (18, [.int 0, .ref l1, .ref l2, .ref l3, .ref l4, .ref l5, .ref l6, .int 0, .int tol, .int ag, .ref m1, .ref m2, .ref m3, .ref m4, .ref m5, .ref m6]))]) hP hD hK [0] [1] rfl rfl (by decide) (by decide) hk1 hFc ht hvm hB
      have hP : va_P G vwCl ([(l4, .inr (3, [.int c4, .ref z, .int 0])), (h0, .inr (18, [.int 0, .ref l1, .ref l2, .ref l3, .ref l4, .ref l5, .ref l6, .int 0, .int tol, .int ag, .ref m1, .ref m2, .ref m3, .ref m4, .ref m5, .ref m6]))]) H_18 := hP
      have hD : va_D A ([(l4, .inr (3, [.int c4, .ref z, .int 0])), (h0, .inr (18, [.int 0, .ref l1, .ref l2, .ref l3, .ref l4, .ref l5, .ref l6, .int 0, .int tol, .int ag, .ref m1, .ref m2, .ref m3, .ref m4, .ref m5, .ref m6]))]) := hD
      have hK : va_K G vwCl [] s := hK
      refine W.widen (k := 0) (n := 0) (Nat.le_of_ble_eq_true rfl) (Nat.le_of_ble_eq_true rfl) ?_
      obtain rfl : 0 = r_19 := hw_20.symm
      refine lv_if_eq (tgt := 46) hx hb dX14_document_41 (by decide) (fun c_22 => ?_) (fun c_22 => absurd rfl c_22)
      refine lv_aload_n hx hb dX14_document_46 rfl (lv_at hl 0 rfl) ?_
      refine va_get (D := G) (ci := 18) (v := .ref l4) (C := RX14) (T := TX14) (N := 16) hx hb hg in_X14 hown hK hP 1 rfl rfl 4 (by decide) (hg _ q1191) (fun _ h9 => h9) rfl dX14_document_47 ?_
      refine va_new (ci := 13) (fs := [.int 0, .int 0, .null, .int 0, .null, .int 0]) (C := RX9) (T := TX9) (N := 6) hx hb hg in_X9 tyX9 tyX9_ok hown (hg _ q1501) (hg _ q1502) (hg _ q33) hK hP hD hS hA rfl (fun j hj => by rcases (show j = 0 ∨ j = 1 ∨ j = 2 ∨ j = 3 ∨ j = 4 ∨ j = 5 by omega) with rfl | rfl | rfl | rfl | rfl | rfl <;> rfl) (Nat.le_of_ble_eq_true rfl) (Nat.le_of_ble_eq_true rfl) dX14_document_50 (fun o_23 H_24 hP hD hS => ?_)
      have hP : va_P G vwCl ([(l4, .inr (3, [.int c4, .ref z, .int 0])), (h0, .inr (18, [.int 0, .ref l1, .ref l2, .ref l3, .ref l4, .ref l5, .ref l6, .int 0, .int tol, .int ag, .ref m1, .ref m2, .ref m3, .ref m4, .ref m5, .ref m6])), (o_23, .inr (13, [.int 0, .int 0, .null, .int 0, .null, .int 0]))]) H_24 := hP
      have hD : va_D A ([(l4, .inr (3, [.int c4, .ref z, .int 0])), (h0, .inr (18, [.int 0, .ref l1, .ref l2, .ref l3, .ref l4, .ref l5, .ref l6, .int 0, .int tol, .int ag, .ref m1, .ref m2, .ref m3, .ref m4, .ref m5, .ref m6])), (o_23, .inr (13, [.int 0, .int 0, .null, .int 0, .null, .int 0]))]) := hD
      refine W.widen (k := 1) (n := 6) (Nat.le_of_ble_eq_true rfl) (Nat.le_of_ble_eq_true rfl) ?_
      refine lv_dup hx hb dX14_document_53 rfl ?_
      refine lv_iload_n hx hb dX14_document_54 rfl (lv_at hl 1 rfl) ?_
      refine lv_iload_n hx hb dX14_document_55 rfl (lv_at hl 2 rfl) ?_
      have hPc := hP.sub (ws' := [(o_23, .inr (13, [.int 0, .int 0, .null, .int 0, .null, .int 0]))]) [2] rfl
      have hKc := hK.sub (tys' := []) [] rfl
      have hDc := hD.sub (ws' := [(o_23, .inr (13, [.int 0, .int 0, .null, .int 0, .null, .int 0]))]) [2] (by decide) rfl
      have hFc := va_free (wc := [(o_23, .inr (13, [.int 0, .int 0, .null, .int 0, .null, .int 0]))]) hD hS hA [2] rfl
      refine va_callv (va_runI (As := [.int p0, .int p1]) (rest := [.ref o_23, .ref l4]) ⟨hx, hb, hml, hown, hts⟩ (k_X9_init l G z o_23 p0 p1 H_24.size ) (cwI 2 hts (lw_goodAll q1505) rfl rfl rfl (hg _ q33) (hg _ q1503) (hg _ q1504) rfl (by decide +kernel) ⟨Nat.le_of_ble_eq_true rfl, Nat.le_of_ble_eq_true rfl⟩) ⟨PW.blind, PW.of hPc hKc hDc hG hS hFc [.ref o_23, .int p0, .int p1]⟩ rfl rfl hl.1 rfl (lv_room (Nat.le_of_ble_eq_true rfl)) dX14_document_56 ⟨Nat.le_of_ble_eq_true rfl, Nat.le_of_ble_eq_true rfl⟩) hS (fun q _ h => hFc q h) hFc (fun u t_28 H_25 locs ht hvm hw_27 hB hz1 hk1 hS => ?_)
      obtain ⟨fsx_29, hB⟩ := hB
      obtain ⟨hP, hD, hK⟩ := QW.join (wr := [(l4, .inr (3, [.int c4, .ref z, .int 0])), (h0, .inr (18, [.int 0, .ref l1, .ref l2, .ref l3, .ref l4, .ref l5, .ref l6, .int 0, .int tol, .int ag, .ref m1, .ref m2, .ref m3, .ref m4, .ref m5, .ref m6]))]) (w1 := [(o_23, .inr (13, fsx_29))]) hP hD hK [2] [0, 1] rfl rfl (by decide) (by decide) hk1 hFc ht hvm hB
      have hP : va_P G vwCl ([(l4, .inr (3, [.int c4, .ref z, .int 0])), (h0, .inr (18, [.int 0, .ref l1, .ref l2, .ref l3, .ref l4, .ref l5, .ref l6, .int 0, .int tol, .int ag, .ref m1, .ref m2, .ref m3, .ref m4, .ref m5, .ref m6])), (o_23, .inr (13, fsx_29))]) H_25 := hP
      have hD : va_D A ([(l4, .inr (3, [.int c4, .ref z, .int 0])), (h0, .inr (18, [.int 0, .ref l1, .ref l2, .ref l3, .ref l4, .ref l5, .ref l6, .int 0, .int tol, .int ag, .ref m1, .ref m2, .ref m3, .ref m4, .ref m5, .ref m6])), (o_23, .inr (13, fsx_29))]) := hD
      have hK : va_K G vwCl [] s := hK
      refine W.widen (k := 3) (n := 12) (Nat.le_of_ble_eq_true rfl) (Nat.le_of_ble_eq_true rfl) ?_
      have hPc := hP.sub (ws' := [(l4, .inr (3, [.int c4, .ref z, .int 0])), (o_23, .inr (13, fsx_29))]) [0, 2] rfl
      have hKc := hK.sub (tys' := []) [] rfl
      have hDc := hD.sub (ws' := [(l4, .inr (3, [.int c4, .ref z, .int 0])), (o_23, .inr (13, fsx_29))]) [0, 2] (by decide) rfl
      have hFc := va_free (wc := [(l4, .inr (3, [.int c4, .ref z, .int 0])), (o_23, .inr (13, fsx_29))]) hD hS hA [0, 2] rfl
      refine va_calli (va_runV (As := [.ref o_23]) (rest := []) ⟨hx, hb, hml, hown, hts⟩ (k_Jx4a65c_add_9ea2d l G z l4 c4 o_23 13 ((RX9, TX9, 6)) fsx_29 H_25.size rfl qf1764) (cwV 1 hts (lw_goodApp (lw_4 q1296 q449 q450 q4) q451) rfl rfl rfl (by decide +kernel) ⟨Nat.le_of_ble_eq_true rfl, Nat.le_of_ble_eq_true rfl⟩) ⟨PW.blind, va_recv hK hP (ci := 3) (q0 := 0) rfl rfl, PW.of hPc hKc hDc hG hS hFc [.ref l4, .ref o_23]⟩ rfl rfl hl.1 rfl (lv_room (Nat.le_of_ble_eq_true rfl)) dX14_document_59 ⟨Nat.le_of_ble_eq_true rfl, Nat.le_of_ble_eq_true rfl⟩) hS (fun q _ h => hFc q h) hFc (fun r_31 u t_33 H_30 locs ht hvm hw_32 hB hz1 hk1 hS => ?_)
      obtain ⟨c1_34, qa_35, hB⟩ := hB
      obtain ⟨hP, hD, hK⟩ := QW.join (wr := [(h0, .inr (18, [.int 0, .ref l1, .ref l2, .ref l3, .ref l4, .ref l5, .ref l6, .int 0, .int tol, .int ag, .ref m1, .ref m2, .ref m3, .ref m4, .ref m5, .ref m6]))]) (w1 := [(l4, .inr (3, [.int c1_34, .ref qa_35, .int 1])), (o_23, .inr (13, fsx_29))]) hP hD hK [0, 2] [1] rfl rfl (by decide) (by decide) hk1 hFc ht hvm hB
      have hP : va_P G vwCl ([(h0, .inr (18, [.int 0, .ref l1, .ref l2, .ref l3, .ref l4, .ref l5, .ref l6, .int 0, .int tol, .int ag, .ref m1, .ref m2, .ref m3, .ref m4, .ref m5, .ref m6])), (l4, .inr (3, [.int c1_34, .ref qa_35, .int 1])), (o_23, .inr (13, fsx_29))]) H_30 := hP
      have hD : va_D A ([(h0, .inr (18, [.int 0, .ref l1, .ref l2, .ref l3, .ref l4, .ref l5, .ref l6, .int 0, .int tol, .int ag, .ref m1, .ref m2, .ref m3, .ref m4, .ref m5, .ref m6])), (l4, .inr (3, [.int c1_34, .ref qa_35, .int 1])), (o_23, .inr (13, fsx_29))]) := hD
      have hK : va_K G vwCl [] s := hK
      refine W.widen (k := 4) (n := 22) (Nat.le_of_ble_eq_true rfl) (Nat.le_of_ble_eq_true rfl) ?_
      obtain rfl : 1 = r_31 := hw_32.symm
      refine lv_istore_n (lv' := [(3, .int 1), (0, .ref h0), (1, .int p0), (2, .int p1)]) hx hb dX14_document_62 rfl hl (by decide) rfl (fun ls hl => ?_)
      refine lv_aload_n hx hb dX14_document_63 rfl (lv_at hl 1 rfl) ?_
      refine va_get (D := G) (ci := 18) (v := .ref l4) (C := RX14) (T := TX14) (N := 16) hx hb hg in_X14 hown hK hP 0 rfl rfl 4 (by decide) (hg _ q1191) (fun _ h9 => h9) rfl dX14_document_64 ?_
      have hPc := hP.sub (ws' := [(l4, .inr (3, [.int c1_34, .ref qa_35, .int 1]))]) [1] rfl
      have hKc := hK.sub (tys' := []) [] rfl
      refine va_calli (va_runV (As := []) (rest := []) ⟨hx, hb, hml, hown, hts⟩ (k_Jx4a65c_size_8abf5 l G z l4 c1_34 qa_35 1 H_30.size ) (cwV 0 hts (lw_goodApp (lw_4 q1247 q161 q162 q4) q163) rfl rfl rfl (by decide +kernel) ⟨Nat.le_of_ble_eq_true rfl, Nat.le_of_ble_eq_true rfl⟩) ⟨PR.blind, va_recv hK hP (ci := 3) (q0 := 1) rfl rfl, PR.of hPc hKc hG hS hA [.ref l4]⟩ rfl rfl hl.1 rfl (lv_room (Nat.le_of_ble_eq_true rfl)) dX14_document_67 ⟨Nat.le_of_ble_eq_true rfl, Nat.le_of_ble_eq_true rfl⟩) hS (fun q h9 h => zN.not h9 h) (fun q h => hA q (Nat.le_trans hS.1 h)) (fun r_37 u t_39 H_36 locs ht hvm hw_38 hB hz1 hk1 hS => ?_)
      have hP := hP.grown hk1
      refine W.widen (k := 4) (n := 22) (Nat.le_of_ble_eq_true rfl) (Nat.le_of_ble_eq_true rfl) ?_
      obtain rfl : 1 = r_37 := hw_38.symm
      refine lv_iconst (v := 1) hx hb dX14_document_70 (by decide) ?_
      refine lv_isub hx hb dX14_document_71 ?_
      refine lv_topi (fun f_40 ef_40 => ?_)
      obtain rfl : f_40 = 0 := ef_40.trans (by decide)
      refine W.widen (k := 4) (n := 22) (Nat.le_of_ble_eq_true rfl) (Nat.le_of_ble_eq_true rfl) ?_
      have hP9 := hP.sub (ws' := [(h0, .inr (18, [.int 0, .ref l1, .ref l2, .ref l3, .ref l4, .ref l5, .ref l6, .int 0, .int tol, .int ag, .ref m1, .ref m2, .ref m3, .ref m4, .ref m5, .ref m6]))]) [0] rfl
      have hD9 := hD.sub (ws' := [(h0, .inr (18, [.int 0, .ref l1, .ref l2, .ref l3, .ref l4, .ref l5, .ref l6, .int 0, .int tol, .int ag, .ref m1, .ref m2, .ref m3, .ref m4, .ref m5, .ref m6]))]) [0] (by decide) rfl
      have hK9 := hK.sub (tys' := []) [] rfl
      exact W.iret (v := 0) hx hb hr (fun t ht hW => ⟨⟨0, (), rfl, fun _ => rfl, ⟨0, Or.inl ⟨⟨hc_5, hc_11⟩, rfl⟩, QW.of hP9 hK9 hD9 ht hW.alike⟩⟩, hS.F ht⟩) hS.2.2 dX14_document_72
    · refine lv_if_ne (tgt := 21) hx hb dX14_document_14 (by decide) (fun c_41 => absurd rfl c_41) (fun c_41 => ?_)
      refine lv_iconst (v := 1) hx hb dX14_document_17 (by decide) ?_
      refine lv_goto (tgt := 38) hx hb dX14_document_18 (by decide) ?_
      have hPc := hP.sub (ws' := [(h0, .inr (18, [.int th, .ref l1, .ref l2, .ref l3, .ref l4, .ref l5, .ref l6, .int 0, .int tol, .int ag, .ref m1, .ref m2, .ref m3, .ref m4, .ref m5, .ref m6]))]) [0] rfl
      have hKc := hK.sub (tys' := []) [] rfl
      have hDc := hD.sub (ws' := [(h0, .inr (18, [.int th, .ref l1, .ref l2, .ref l3, .ref l4, .ref l5, .ref l6, .int 0, .int tol, .int ag, .ref m1, .ref m2, .ref m3, .ref m4, .ref m5, .ref m6]))]) [0] (by decide) rfl
      have hFc := va_free (wc := [(h0, .inr (18, [.int th, .ref l1, .ref l2, .ref l3, .ref l4, .ref l5, .ref l6, .int 0, .int tol, .int ag, .ref m1, .ref m2, .ref m3, .ref m4, .ref m5, .ref m6]))]) hD hS hA [0] rfl
      refine va_calli (va_runV (As := [.int 1]) (rest := []) ⟨hx, hb, hml, hown, hts⟩ (k_X14_fails_1 l G z h0 th l1 l2 l3 l4 l5 l6 tol ag m1 m2 m3 m4 m5 m6 1 H_7.size (by decide)) (cwV 1 hts (lw_goodApp (lw_4 q1248 q1250 qs23 q7) q1251) rfl rfl rfl (by decide +kernel) ⟨Nat.le_of_ble_eq_true rfl, Nat.le_of_ble_eq_true rfl⟩) ⟨PW.blind, va_recv hK hP (ci := 18) (q0 := 0) rfl rfl, PW.of hPc hKc hDc hG hS hFc [.ref h0, .int 1]⟩ rfl rfl hl.1 rfl (lv_room (Nat.le_of_ble_eq_true rfl)) dX14_document_38 ⟨Nat.le_of_ble_eq_true rfl, Nat.le_of_ble_eq_true rfl⟩) hS (fun q _ h => hFc q h) hFc (fun r_43 u t_45 H_42 locs ht hvm hw_44 hB hz1 hk1 hS => ?_)
      obtain ⟨hP, hD, hK⟩ := QW.join (wr := [(l4, .inr (3, [.int c4, .ref z, .int 0]))]) (w1 := [(h0, .inr (18, [.int 1, .ref l1, .ref l2, .ref l3, .ref l4, .ref l5, .ref l6, .int 0, .int tol, .int ag, .ref m1, .ref m2, .ref m3, .ref m4, .ref m5, .ref m6]))]) hP hD hK [0] [1] rfl rfl (by decide) (by decide) hk1 hFc ht hvm hB
      have hP : va_P G vwCl ([(l4, .inr (3, [.int c4, .ref z, .int 0])), (h0, .inr (18, [.int 1, .ref l1, .ref l2, .ref l3, .ref l4, .ref l5, .ref l6, .int 0, .int tol, .int ag, .ref m1, .ref m2, .ref m3, .ref m4, .ref m5, .ref m6]))]) H_42 := hP
      have hD : va_D A ([(l4, .inr (3, [.int c4, .ref z, .int 0])), (h0, .inr (18, [.int 1, .ref l1, .ref l2, .ref l3, .ref l4, .ref l5, .ref l6, .int 0, .int tol, .int ag, .ref m1, .ref m2, .ref m3, .ref m4, .ref m5, .ref m6]))]) := hD
      have hK : va_K G vwCl [] s := hK
      refine W.widen (k := 0) (n := 0) (Nat.le_of_ble_eq_true rfl) (Nat.le_of_ble_eq_true rfl) ?_
      obtain rfl : 1 = r_43 := hw_44.symm
      refine lv_if_eq (tgt := 46) hx hb dX14_document_41 (by decide) (fun c_46 => absurd c_46 (by decide)) (fun c_46 => ?_)
      refine lv_iconst (v := 0) hx hb dX14_document_44 (by decide) ?_
      refine W.widen (k := 4) (n := 22) (Nat.le_of_ble_eq_true rfl) (Nat.le_of_ble_eq_true rfl) ?_
      have hP9 := hP.sub (ws' := [(h0, .inr (18, [.int 1, .ref l1, .ref l2, .ref l3, .ref l4, .ref l5, .ref l6, .int 0, .int tol, .int ag, .ref m1, .ref m2, .ref m3, .ref m4, .ref m5, .ref m6]))]) [1] rfl
      have hD9 := hD.sub (ws' := [(h0, .inr (18, [.int 1, .ref l1, .ref l2, .ref l3, .ref l4, .ref l5, .ref l6, .int 0, .int tol, .int ag, .ref m1, .ref m2, .ref m3, .ref m4, .ref m5, .ref m6]))]) [1] (by decide) rfl
      have hK9 := hK.sub (tys' := []) [] rfl
      exact W.iret (v := 0) hx hb hr (fun t ht hW => ⟨⟨0, (), rfl, fun h9 => (hc_11 (h9.2)).elim, ⟨1, Or.inr ⟨fun h9 => hc_11 (h9.2), rfl⟩, QW.of hP9 hK9 hD9 ht hW.alike⟩⟩, hS.F ht⟩) hS.2.2 dX14_document_45
  · refine lv_if_eq (tgt := 17) hx hb dX14_document_5 (by decide) (fun c_47 => ?_) (fun c_47 => absurd rfl c_47)
    refine lv_iconst (v := 1) hx hb dX14_document_17 (by decide) ?_
    refine lv_goto (tgt := 38) hx hb dX14_document_18 (by decide) ?_
    have hPc := hP.sub (ws' := [(h0, .inr (18, [.int th, .ref l1, .ref l2, .ref l3, .ref l4, .ref l5, .ref l6, .int 0, .int tol, .int ag, .ref m1, .ref m2, .ref m3, .ref m4, .ref m5, .ref m6]))]) [0] rfl
    have hKc := hK.sub (tys' := []) [] rfl
    have hDc := hD.sub (ws' := [(h0, .inr (18, [.int th, .ref l1, .ref l2, .ref l3, .ref l4, .ref l5, .ref l6, .int 0, .int tol, .int ag, .ref m1, .ref m2, .ref m3, .ref m4, .ref m5, .ref m6]))]) [0] (by decide) rfl
    have hFc := va_free (wc := [(h0, .inr (18, [.int th, .ref l1, .ref l2, .ref l3, .ref l4, .ref l5, .ref l6, .int 0, .int tol, .int ag, .ref m1, .ref m2, .ref m3, .ref m4, .ref m5, .ref m6]))]) hD hS hA [0] rfl
    refine va_calli (va_runV (As := [.int 1]) (rest := []) ⟨hx, hb, hml, hown, hts⟩ (k_X14_fails_1 l G z h0 th l1 l2 l3 l4 l5 l6 tol ag m1 m2 m3 m4 m5 m6 1 H_1.size (by decide)) (cwV 1 hts (lw_goodApp (lw_4 q1248 q1250 qs23 q7) q1251) rfl rfl rfl (by decide +kernel) ⟨Nat.le_of_ble_eq_true rfl, Nat.le_of_ble_eq_true rfl⟩) ⟨PW.blind, va_recv hK hP (ci := 18) (q0 := 0) rfl rfl, PW.of hPc hKc hDc hG hS hFc [.ref h0, .int 1]⟩ rfl rfl hl.1 rfl (lv_room (Nat.le_of_ble_eq_true rfl)) dX14_document_38 ⟨Nat.le_of_ble_eq_true rfl, Nat.le_of_ble_eq_true rfl⟩) hS (fun q _ h => hFc q h) hFc (fun r_49 u t_51 H_48 locs ht hvm hw_50 hB hz1 hk1 hS => ?_)
    obtain ⟨hP, hD, hK⟩ := QW.join (wr := [(l4, .inr (3, [.int c4, .ref z, .int 0]))]) (w1 := [(h0, .inr (18, [.int 1, .ref l1, .ref l2, .ref l3, .ref l4, .ref l5, .ref l6, .int 0, .int tol, .int ag, .ref m1, .ref m2, .ref m3, .ref m4, .ref m5, .ref m6]))]) hP hD hK [0] [1] rfl rfl (by decide) (by decide) hk1 hFc ht hvm hB
    have hP : va_P G vwCl ([(l4, .inr (3, [.int c4, .ref z, .int 0])), (h0, .inr (18, [.int 1, .ref l1, .ref l2, .ref l3, .ref l4, .ref l5, .ref l6, .int 0, .int tol, .int ag, .ref m1, .ref m2, .ref m3, .ref m4, .ref m5, .ref m6]))]) H_48 := hP
    have hD : va_D A ([(l4, .inr (3, [.int c4, .ref z, .int 0])), (h0, .inr (18, [.int 1, .ref l1, .ref l2, .ref l3, .ref l4, .ref l5, .ref l6, .int 0, .int tol, .int ag, .ref m1, .ref m2, .ref m3, .ref m4, .ref m5, .ref m6]))]) := hD
    have hK : va_K G vwCl [] s := hK
    refine W.widen (k := 0) (n := 0) (Nat.le_of_ble_eq_true rfl) (Nat.le_of_ble_eq_true rfl) ?_
    obtain rfl : 1 = r_49 := hw_50.symm
    refine lv_if_eq (tgt := 46) hx hb dX14_document_41 (by decide) (fun c_52 => absurd c_52 (by decide)) (fun c_52 => ?_)
    refine lv_iconst (v := 0) hx hb dX14_document_44 (by decide) ?_
    refine W.widen (k := 4) (n := 22) (Nat.le_of_ble_eq_true rfl) (Nat.le_of_ble_eq_true rfl) ?_
    have hP9 := hP.sub (ws' := [(h0, .inr (18, [.int 1, .ref l1, .ref l2, .ref l3, .ref l4, .ref l5, .ref l6, .int 0, .int tol, .int ag, .ref m1, .ref m2, .ref m3, .ref m4, .ref m5, .ref m6]))]) [1] rfl
    have hD9 := hD.sub (ws' := [(h0, .inr (18, [.int 1, .ref l1, .ref l2, .ref l3, .ref l4, .ref l5, .ref l6, .int 0, .int tol, .int ag, .ref m1, .ref m2, .ref m3, .ref m4, .ref m5, .ref m6]))]) [1] (by decide) rfl
    have hK9 := hK.sub (tys' := []) [] rfl
    exact W.iret (v := 0) hx hb hr (fun t ht hW => ⟨⟨0, (), rfl, fun h9 => (hc_5 (h9.1)).elim, ⟨1, Or.inr ⟨fun h9 => hc_5 (h9.1), rfl⟩, QW.of hP9 hK9 hD9 ht hW.alike⟩⟩, hS.F ht⟩) hS.2.2 dX14_document_45

abbrev wz_X14_setTolerance : List Cond := .code yX14_setTolerance cX14_setTolerance 3 (Option.some Jvm.ClassFile.FieldType.int) :: lw_good
set_option maxHeartbeats 4000000 in
set_option maxRecDepth 100000 in
/-- setTolerance (reference) -/
theorem k_X14_setTolerance (l : Launch) (G : va_G) (z : Nat) (h0 : Nat) (th : Int32) (l1 : Nat) (l2 : Nat) (l3 : Nat) (l4 : Nat) (l5 : Nat) (l6 : Nat) (tol : Int32) (ag : Int32) (m1 : Nat) (m2 : Nat) (m3 : Nat) (m4 : Nat) (m5 : Nat) (m6 : Nat) (p0 : Int32) (sz : Nat)  : Met l yX14_setTolerance wz_X14_setTolerance ({ frames := 1, cells := 0, slots := 0, locals := 22 }) (va_Pc [.ref h0, .int p0] (PW G z [(h0, .inr (18, [.int th, .ref l1, .ref l2, .ref l3, .ref l4, .ref l5, .ref l6, .int 0, .int tol, .int ag, .ref m1, .ref m2, .ref m3, .ref m4, .ref m5, .ref m6]))] [] sz)) (va_Qi (fun (r : Int32) (_ : Unit) => (0 ≤ p0 ∧ p0 ≤ 50) → r = tol) (fun (_ : Unit) (t : State) => ∃ (th1 : Int32), ∃ (tl1 : Int32), (((0 ≤ p0 ∧ p0 ≤ 50) ∧ th1 = 0) ∨ (¬ ((0 ≤ p0 ∧ p0 ≤ 50)) ∧ th1 = 1)) ∧ QW G [(h0, .inr (18, [.int th1, .ref l1, .ref l2, .ref l3, .ref l4, .ref l5, .ref l6, .int 0, .int tl1, .int ag, .ref m1, .ref m2, .ref m3, .ref m4, .ref m5, .ref m6]))] [] (va_A [(h0, .inr (18, [.int th, .ref l1, .ref l2, .ref l3, .ref l4, .ref l5, .ref l6, .int 0, .int tol, .int ag, .ref m1, .ref m2, .ref m3, .ref m4, .ref m5, .ref m6]))] sz) t) (va_A [(h0, .inr (18, [.int th, .ref l1, .ref l2, .ref l3, .ref l4, .ref l5, .ref l6, .int 0, .int tol, .int ag, .ref m1, .ref m2, .ref m3, .ref m4, .ref m5, .ref m6]))] sz)) 0 0 (va_A [(h0, .inr (18, [.int th, .ref l1, .ref l2, .ref l3, .ref l4, .ref l5, .ref l6, .int 0, .int tol, .int ag, .ref m1, .ref m2, .ref m3, .ref m4, .ref m5, .ref m6]))] sz) := by
  refine Met.ofW (cc := cX14_setTolerance) (maxL := 3) (ret := (Option.some Jvm.ClassFile.FieldType.int)) (by decide) rfl ?_
  intro p e s m args below meth c s₁ B hml hv
  obtain ⟨rfl, rfl, hP, hK, hD0, hG⟩ := hv
  have hx := B.exec
  have hb := B.bytes
  have hr := B.returns
  have hts := atoms_spec (ws := wz_X14_setTolerance) B.pre
  have hg : ∀ w ∈ lw_good, w.before _ s = true := fun w h => hts w (List.mem_cons_of_mem _ h)
  have hown : s.vm.findClass RX14 = some m.cls := findClass_of_methodNamed B.named
  have hlocks := B.notSynchronized
  have hD := hD0.self (sz := s.heap.size)
  generalize hAe : va_A [(h0, .inr (18, [.int th, .ref l1, .ref l2, .ref l3, .ref l4, .ref l5, .ref l6, .int 0, .int tol, .int ag, .ref m1, .ref m2, .ref m3, .ref m4, .ref m5, .ref m6]))] s.heap.size = A at hD hG ⊢
  have hA : ∀ q : Nat, s.heap.size ≤ q → A q := fun q h => by rw [← hAe]; exact Or.inr h
  have hS : va_S A s.heap s.heap [] := va_S.rf
  have hl := lv_entry ([.ref h0, .int p0]) (n := 3) (Nat.le_of_ble_eq_true rfl)
  rw [lg_entry_eq]
  generalize (lg_sl ([.ref h0, .int p0]) ++ List.replicate (3 - (lg_sl ([.ref h0, .int p0])).length) Slot.unset).toArray = ls at hl ⊢
  have hl : lv_has ls 3 [(0, .ref h0), (1, .int p0)] := hl
  refine lv_aload_n hx hb dX14_setTolerance_0 rfl (lv_at hl 0 rfl) ?_
  refine lv_iload_n hx hb dX14_setTolerance_1 rfl (lv_at hl 1 rfl) ?_
  refine lv_iconst (v := 0) hx hb dX14_setTolerance_2 (by decide) ?_
  refine lv_bipush (v := 50) hx hb dX14_setTolerance_3 (by decide) ?_
  have hPc := hP.sub (ws' := []) [] rfl
  have hKc := hK.sub (tys' := []) [] rfl
  refine va_calli (va_runS (As := [.int p0, .int 0, .int 50]) (rest := [.ref h0]) ⟨hx, hb, hml, hown, hts⟩ (k_X14_in l G z p0 0 50 s.heap.size ) (va_cwS 3 hts (lw_goodApp (lw_3 q1244 q1245 q7) q1246) rfl rfl rfl (by decide +kernel) ⟨Nat.le_of_ble_eq_true rfl, Nat.le_of_ble_eq_true rfl⟩) ⟨PR.blind, PR.of hPc hKc hG hS hA [.int p0, .int 0, .int 50]⟩ rfl rfl hl.1 rfl (lv_room (Nat.le_of_ble_eq_true rfl)) dX14_setTolerance_5 ⟨Nat.le_of_ble_eq_true rfl, Nat.le_of_ble_eq_true rfl⟩) hS (fun q h9 h => zN.not h9 h) (fun q h => hA q (Nat.le_trans hS.1 h)) (fun r_2 u t_4 H_1 locs ht hvm hw_3 hB hz1 hk1 hS => ?_)
  have hP := hP.grown hk1
  refine W.widen (k := 0) (n := 0) (Nat.le_of_ble_eq_true rfl) (Nat.le_of_ble_eq_true rfl) ?_
  rcases z_ite hw_3 with ⟨hc_5, rfl⟩ | ⟨hc_5, rfl⟩
  · refine lv_if_eq (tgt := 15) hx hb dX14_setTolerance_8 (by decide) (fun c_6 => absurd c_6 (by decide)) (fun c_6 => ?_)
    refine lv_iconst (v := 0) hx hb dX14_setTolerance_11 (by decide) ?_
    refine lv_goto (tgt := 16) hx hb dX14_setTolerance_12 (by decide) ?_
    have hPc := hP.sub (ws' := [(h0, .inr (18, [.int th, .ref l1, .ref l2, .ref l3, .ref l4, .ref l5, .ref l6, .int 0, .int tol, .int ag, .ref m1, .ref m2, .ref m3, .ref m4, .ref m5, .ref m6]))]) [0] rfl
    have hKc := hK.sub (tys' := []) [] rfl
    have hDc := hD.sub (ws' := [(h0, .inr (18, [.int th, .ref l1, .ref l2, .ref l3, .ref l4, .ref l5, .ref l6, .int 0, .int tol, .int ag, .ref m1, .ref m2, .ref m3, .ref m4, .ref m5, .ref m6]))]) [0] (by decide) rfl
    have hFc := va_free (wc := [(h0, .inr (18, [.int th, .ref l1, .ref l2, .ref l3, .ref l4, .ref l5, .ref l6, .int 0, .int tol, .int ag, .ref m1, .ref m2, .ref m3, .ref m4, .ref m5, .ref m6]))]) hD hS hA [0] rfl
    refine va_calli (va_runV (As := [.int 0]) (rest := []) ⟨hx, hb, hml, hown, hts⟩ (k_X14_fails_0 l G z h0 th l1 l2 l3 l4 l5 l6 tol ag m1 m2 m3 m4 m5 m6 H_1.size ) (cwV 1 hts (lw_goodApp (lw_4 q1248 q1250 qs23 q7) q1251) rfl rfl rfl (by decide +kernel) ⟨Nat.le_of_ble_eq_true rfl, Nat.le_of_ble_eq_true rfl⟩) ⟨PW.blind, va_recv hK hP (ci := 18) (q0 := 0) rfl rfl, PW.of hPc hKc hDc hG hS hFc [.ref h0, .int 0]⟩ rfl rfl hl.1 rfl (lv_room (Nat.le_of_ble_eq_true rfl)) dX14_setTolerance_16 ⟨Nat.le_of_ble_eq_true rfl, Nat.le_of_ble_eq_true rfl⟩) hS (fun q _ h => hFc q h) hFc (fun r_8 u t_10 H_7 locs ht hvm hw_9 hB hz1 hk1 hS => ?_)
    obtain ⟨hP, hD, hK⟩ := QW.join (wr := []) (w1 := [(h0, .inr (18, [.int 0, .ref l1, .ref l2, .ref l3, .ref l4, .ref l5, .ref l6, .int 0, .int tol, .int ag, .ref m1, .ref m2, .ref m3, .ref m4, .ref m5, .ref m6]))]) hP hD hK [0] [] rfl rfl (by decide) (by decide) hk1 hFc ht hvm hB
    have hP : va_P G vwCl ([(h0, .inr (18, [.int 0, .ref l1, .ref l2, .ref l3, .ref l4, .ref l5, .ref l6, .int 0, .int tol, .int ag, .ref m1, .ref m2, .ref m3, .ref m4, .ref m5, .ref m6]))]) H_7 := hP
    have hD : va_D A ([(h0, .inr (18, [.int 0, .ref l1, .ref l2, .ref l3, .ref l4, .ref l5, .ref l6, .int 0, .int tol, .int ag, .ref m1, .ref m2, .ref m3, .ref m4, .ref m5, .ref m6]))]) := hD
    have hK : va_K G vwCl [] s := hK
    refine W.widen (k := 0) (n := 0) (Nat.le_of_ble_eq_true rfl) (Nat.le_of_ble_eq_true rfl) ?_
    obtain rfl : 0 = r_8 := hw_9.symm
    refine lv_if_eq (tgt := 24) hx hb dX14_setTolerance_19 (by decide) (fun c_11 => ?_) (fun c_11 => absurd rfl c_11)
    refine lv_aload_n hx hb dX14_setTolerance_24 rfl (lv_at hl 0 rfl) ?_
    refine va_get (D := G) (ci := 18) (v := .int tol) (C := RX14) (T := TX14) (N := 16) hx hb hg in_X14 hown hK hP 0 rfl rfl 8 (by decide) (hg _ q1195) (fun _ h9 => h9) rfl dX14_setTolerance_25 ?_
    refine lv_istore_n (lv' := [(2, .int tol), (0, .ref h0), (1, .int p0)]) hx hb dX14_setTolerance_28 rfl hl (by decide) rfl (fun ls hl => ?_)
    refine lv_aload_n hx hb dX14_setTolerance_29 rfl (lv_at hl 1 rfl) ?_
    refine lv_iload_n hx hb dX14_setTolerance_30 rfl (lv_at hl 2 rfl) ?_
    refine va_put (D := G) (ci := 18) (v := .int p0) (ty := .int) (C := RX14) (T := TX14) (N := 16) hx hb hg in_X14 tyX14 tyX14_ok nmX14 hown hK hP hD hS 0 rfl rfl 8 (by decide) (hg _ q1195) (fun _ h9 => h9) rfl (by decide +kernel) rfl rfl (Nat.le_of_ble_eq_true rfl) dX14_setTolerance_31 (fun H_12 locs hP hD hS => ?_)
    have hP : va_P G vwCl ([(h0, .inr (18, [.int 0, .ref l1, .ref l2, .ref l3, .ref l4, .ref l5, .ref l6, .int 0, .int p0, .int ag, .ref m1, .ref m2, .ref m3, .ref m4, .ref m5, .ref m6]))]) H_12 := hP
    have hD : va_D A ([(h0, .inr (18, [.int 0, .ref l1, .ref l2, .ref l3, .ref l4, .ref l5, .ref l6, .int 0, .int p0, .int ag, .ref m1, .ref m2, .ref m3, .ref m4, .ref m5, .ref m6]))]) := hD
    refine lv_iload_n hx hb dX14_setTolerance_34 rfl (lv_at hl 0 rfl) ?_
    refine W.widen (k := 0) (n := 0) (Nat.le_of_ble_eq_true rfl) (Nat.le_of_ble_eq_true rfl) ?_
    have hP9 := hP.sub (ws' := [(h0, .inr (18, [.int 0, .ref l1, .ref l2, .ref l3, .ref l4, .ref l5, .ref l6, .int 0, .int p0, .int ag, .ref m1, .ref m2, .ref m3, .ref m4, .ref m5, .ref m6]))]) [0] rfl
    have hD9 := hD.sub (ws' := [(h0, .inr (18, [.int 0, .ref l1, .ref l2, .ref l3, .ref l4, .ref l5, .ref l6, .int 0, .int p0, .int ag, .ref m1, .ref m2, .ref m3, .ref m4, .ref m5, .ref m6]))]) [0] (by decide) rfl
    have hK9 := hK.sub (tys' := []) [] rfl
    exact W.iret (v := tol) hx hb hr (fun t ht hW => ⟨⟨tol, (), rfl, fun _ => rfl, ⟨0, p0, Or.inl ⟨hc_5, rfl⟩, QW.of hP9 hK9 hD9 ht hW.alike⟩⟩, hS.F ht⟩) hS.2.2 dX14_setTolerance_35
  · refine lv_if_eq (tgt := 15) hx hb dX14_setTolerance_8 (by decide) (fun c_13 => ?_) (fun c_13 => absurd rfl c_13)
    refine lv_iconst (v := 1) hx hb dX14_setTolerance_15 (by decide) ?_
    have hPc := hP.sub (ws' := [(h0, .inr (18, [.int th, .ref l1, .ref l2, .ref l3, .ref l4, .ref l5, .ref l6, .int 0, .int tol, .int ag, .ref m1, .ref m2, .ref m3, .ref m4, .ref m5, .ref m6]))]) [0] rfl
    have hKc := hK.sub (tys' := []) [] rfl
    have hDc := hD.sub (ws' := [(h0, .inr (18, [.int th, .ref l1, .ref l2, .ref l3, .ref l4, .ref l5, .ref l6, .int 0, .int tol, .int ag, .ref m1, .ref m2, .ref m3, .ref m4, .ref m5, .ref m6]))]) [0] (by decide) rfl
    have hFc := va_free (wc := [(h0, .inr (18, [.int th, .ref l1, .ref l2, .ref l3, .ref l4, .ref l5, .ref l6, .int 0, .int tol, .int ag, .ref m1, .ref m2, .ref m3, .ref m4, .ref m5, .ref m6]))]) hD hS hA [0] rfl
    refine va_calli (va_runV (As := [.int 1]) (rest := []) ⟨hx, hb, hml, hown, hts⟩ (k_X14_fails_1 l G z h0 th l1 l2 l3 l4 l5 l6 tol ag m1 m2 m3 m4 m5 m6 1 H_1.size (by decide)) (cwV 1 hts (lw_goodApp (lw_4 q1248 q1250 qs23 q7) q1251) rfl rfl rfl (by decide +kernel) ⟨Nat.le_of_ble_eq_true rfl, Nat.le_of_ble_eq_true rfl⟩) ⟨PW.blind, va_recv hK hP (ci := 18) (q0 := 0) rfl rfl, PW.of hPc hKc hDc hG hS hFc [.ref h0, .int 1]⟩ rfl rfl hl.1 rfl (lv_room (Nat.le_of_ble_eq_true rfl)) dX14_setTolerance_16 ⟨Nat.le_of_ble_eq_true rfl, Nat.le_of_ble_eq_true rfl⟩) hS (fun q _ h => hFc q h) hFc (fun r_15 u t_17 H_14 locs ht hvm hw_16 hB hz1 hk1 hS => ?_)
    obtain ⟨hP, hD, hK⟩ := QW.join (wr := []) (w1 := [(h0, .inr (18, [.int 1, .ref l1, .ref l2, .ref l3, .ref l4, .ref l5, .ref l6, .int 0, .int tol, .int ag, .ref m1, .ref m2, .ref m3, .ref m4, .ref m5, .ref m6]))]) hP hD hK [0] [] rfl rfl (by decide) (by decide) hk1 hFc ht hvm hB
    have hP : va_P G vwCl ([(h0, .inr (18, [.int 1, .ref l1, .ref l2, .ref l3, .ref l4, .ref l5, .ref l6, .int 0, .int tol, .int ag, .ref m1, .ref m2, .ref m3, .ref m4, .ref m5, .ref m6]))]) H_14 := hP
    have hD : va_D A ([(h0, .inr (18, [.int 1, .ref l1, .ref l2, .ref l3, .ref l4, .ref l5, .ref l6, .int 0, .int tol, .int ag, .ref m1, .ref m2, .ref m3, .ref m4, .ref m5, .ref m6]))]) := hD
    have hK : va_K G vwCl [] s := hK
    refine W.widen (k := 0) (n := 0) (Nat.le_of_ble_eq_true rfl) (Nat.le_of_ble_eq_true rfl) ?_
    obtain rfl : 1 = r_15 := hw_16.symm
    refine lv_if_eq (tgt := 24) hx hb dX14_setTolerance_19 (by decide) (fun c_18 => absurd c_18 (by decide)) (fun c_18 => ?_)
    refine lv_iconst (v := 0) hx hb dX14_setTolerance_22 (by decide) ?_
    refine W.widen (k := 0) (n := 0) (Nat.le_of_ble_eq_true rfl) (Nat.le_of_ble_eq_true rfl) ?_
    have hP9 := hP.sub (ws' := [(h0, .inr (18, [.int 1, .ref l1, .ref l2, .ref l3, .ref l4, .ref l5, .ref l6, .int 0, .int tol, .int ag, .ref m1, .ref m2, .ref m3, .ref m4, .ref m5, .ref m6]))]) [0] rfl
    have hD9 := hD.sub (ws' := [(h0, .inr (18, [.int 1, .ref l1, .ref l2, .ref l3, .ref l4, .ref l5, .ref l6, .int 0, .int tol, .int ag, .ref m1, .ref m2, .ref m3, .ref m4, .ref m5, .ref m6]))]) [0] (by decide) rfl
    have hK9 := hK.sub (tys' := []) [] rfl
    exact W.iret (v := 0) hx hb hr (fun t ht hW => ⟨⟨0, (), rfl, fun h9 => (hc_5 (h9)).elim, ⟨1, tol, Or.inr ⟨fun h9 => hc_5 (h9), rfl⟩, QW.of hP9 hK9 hD9 ht hW.alike⟩⟩, hS.F ht⟩) hS.2.2 dX14_setTolerance_23

abbrev wz_X14_setAge : List Cond := .code yX14_setAge cX14_setAge 3 (Option.some Jvm.ClassFile.FieldType.int) :: lw_good
set_option maxHeartbeats 4000000 in
set_option maxRecDepth 100000 in
/-- setAge (reference) -/
theorem k_X14_setAge (l : Launch) (G : va_G) (z : Nat) (h0 : Nat) (th : Int32) (l1 : Nat) (l2 : Nat) (l3 : Nat) (l4 : Nat) (l5 : Nat) (l6 : Nat) (tol : Int32) (ag : Int32) (m1 : Nat) (m2 : Nat) (m3 : Nat) (m4 : Nat) (m5 : Nat) (m6 : Nat) (p0 : Int32) (sz : Nat)  : Met l yX14_setAge wz_X14_setAge ({ frames := 1, cells := 0, slots := 0, locals := 22 }) (va_Pc [.ref h0, .int p0] (PW G z [(h0, .inr (18, [.int th, .ref l1, .ref l2, .ref l3, .ref l4, .ref l5, .ref l6, .int 0, .int tol, .int ag, .ref m1, .ref m2, .ref m3, .ref m4, .ref m5, .ref m6]))] [] sz)) (va_Qi (fun (r : Int32) (_ : Unit) => (0 ≤ p0 ∧ p0 ≤ 100) → r = ag) (fun (_ : Unit) (t : State) => ∃ (th1 : Int32), ∃ (ag1 : Int32), (((0 ≤ p0 ∧ p0 ≤ 100) ∧ th1 = 0) ∨ (¬ ((0 ≤ p0 ∧ p0 ≤ 100)) ∧ th1 = 1)) ∧ QW G [(h0, .inr (18, [.int th1, .ref l1, .ref l2, .ref l3, .ref l4, .ref l5, .ref l6, .int 0, .int tol, .int ag1, .ref m1, .ref m2, .ref m3, .ref m4, .ref m5, .ref m6]))] [] (va_A [(h0, .inr (18, [.int th, .ref l1, .ref l2, .ref l3, .ref l4, .ref l5, .ref l6, .int 0, .int tol, .int ag, .ref m1, .ref m2, .ref m3, .ref m4, .ref m5, .ref m6]))] sz) t) (va_A [(h0, .inr (18, [.int th, .ref l1, .ref l2, .ref l3, .ref l4, .ref l5, .ref l6, .int 0, .int tol, .int ag, .ref m1, .ref m2, .ref m3, .ref m4, .ref m5, .ref m6]))] sz)) 0 0 (va_A [(h0, .inr (18, [.int th, .ref l1, .ref l2, .ref l3, .ref l4, .ref l5, .ref l6, .int 0, .int tol, .int ag, .ref m1, .ref m2, .ref m3, .ref m4, .ref m5, .ref m6]))] sz) := by
  refine Met.ofW (cc := cX14_setAge) (maxL := 3) (ret := (Option.some Jvm.ClassFile.FieldType.int)) (by decide) rfl ?_
  intro p e s m args below meth c s₁ B hml hv
  obtain ⟨rfl, rfl, hP, hK, hD0, hG⟩ := hv
  have hx := B.exec
  have hb := B.bytes
  have hr := B.returns
  have hts := atoms_spec (ws := wz_X14_setAge) B.pre
  have hg : ∀ w ∈ lw_good, w.before _ s = true := fun w h => hts w (List.mem_cons_of_mem _ h)
  have hown : s.vm.findClass RX14 = some m.cls := findClass_of_methodNamed B.named
  have hlocks := B.notSynchronized
  have hD := hD0.self (sz := s.heap.size)
  generalize hAe : va_A [(h0, .inr (18, [.int th, .ref l1, .ref l2, .ref l3, .ref l4, .ref l5, .ref l6, .int 0, .int tol, .int ag, .ref m1, .ref m2, .ref m3, .ref m4, .ref m5, .ref m6]))] s.heap.size = A at hD hG ⊢
  have hA : ∀ q : Nat, s.heap.size ≤ q → A q := fun q h => by rw [← hAe]; exact Or.inr h
  have hS : va_S A s.heap s.heap [] := va_S.rf
  have hl := lv_entry ([.ref h0, .int p0]) (n := 3) (Nat.le_of_ble_eq_true rfl)
  rw [lg_entry_eq]
  generalize (lg_sl ([.ref h0, .int p0]) ++ List.replicate (3 - (lg_sl ([.ref h0, .int p0])).length) Slot.unset).toArray = ls at hl ⊢
  have hl : lv_has ls 3 [(0, .ref h0), (1, .int p0)] := hl
  refine lv_aload_n hx hb dX14_setAge_0 rfl (lv_at hl 0 rfl) ?_
  refine lv_iload_n hx hb dX14_setAge_1 rfl (lv_at hl 1 rfl) ?_
  refine lv_iconst (v := 0) hx hb dX14_setAge_2 (by decide) ?_
  refine lv_bipush (v := 100) hx hb dX14_setAge_3 (by decide) ?_
  have hPc := hP.sub (ws' := []) [] rfl
  have hKc := hK.sub (tys' := []) [] rfl
  refine va_calli (va_runS (As := [.int p0, .int 0, .int 100]) (rest := [.ref h0]) ⟨hx, hb, hml, hown, hts⟩ (k_X14_in l G z p0 0 100 s.heap.size ) (va_cwS 3 hts (lw_goodApp (lw_3 q1244 q1245 q7) q1246) rfl rfl rfl (by decide +kernel) ⟨Nat.le_of_ble_eq_true rfl, Nat.le_of_ble_eq_true rfl⟩) ⟨PR.blind, PR.of hPc hKc hG hS hA [.int p0, .int 0, .int 100]⟩ rfl rfl hl.1 rfl (lv_room (Nat.le_of_ble_eq_true rfl)) dX14_setAge_5 ⟨Nat.le_of_ble_eq_true rfl, Nat.le_of_ble_eq_true rfl⟩) hS (fun q h9 h => zN.not h9 h) (fun q h => hA q (Nat.le_trans hS.1 h)) (fun r_2 u t_4 H_1 locs ht hvm hw_3 hB hz1 hk1 hS => ?_)
  have hP := hP.grown hk1
  refine W.widen (k := 0) (n := 0) (Nat.le_of_ble_eq_true rfl) (Nat.le_of_ble_eq_true rfl) ?_
  rcases z_ite hw_3 with ⟨hc_5, rfl⟩ | ⟨hc_5, rfl⟩
  · refine lv_if_eq (tgt := 15) hx hb dX14_setAge_8 (by decide) (fun c_6 => absurd c_6 (by decide)) (fun c_6 => ?_)
    refine lv_iconst (v := 0) hx hb dX14_setAge_11 (by decide) ?_
    refine lv_goto (tgt := 16) hx hb dX14_setAge_12 (by decide) ?_
    have hPc := hP.sub (ws' := [(h0, .inr (18, [.int th, .ref l1, .ref l2, .ref l3, .ref l4, .ref l5, .ref l6, .int 0, .int tol, .int ag, .ref m1, .ref m2, .ref m3, .ref m4, .ref m5, .ref m6]))]) [0] rfl
    have hKc := hK.sub (tys' := []) [] rfl
    have hDc := hD.sub (ws' := [(h0, .inr (18, [.int th, .ref l1, .ref l2, .ref l3, .ref l4, .ref l5, .ref l6, .int 0, .int tol, .int ag, .ref m1, .ref m2, .ref m3, .ref m4, .ref m5, .ref m6]))]) [0] (by decide) rfl
    have hFc := va_free (wc := [(h0, .inr (18, [.int th, .ref l1, .ref l2, .ref l3, .ref l4, .ref l5, .ref l6, .int 0, .int tol, .int ag, .ref m1, .ref m2, .ref m3, .ref m4, .ref m5, .ref m6]))]) hD hS hA [0] rfl
    refine va_calli (va_runV (As := [.int 0]) (rest := []) ⟨hx, hb, hml, hown, hts⟩ (k_X14_fails_0 l G z h0 th l1 l2 l3 l4 l5 l6 tol ag m1 m2 m3 m4 m5 m6 H_1.size ) (cwV 1 hts (lw_goodApp (lw_4 q1248 q1250 qs23 q7) q1251) rfl rfl rfl (by decide +kernel) ⟨Nat.le_of_ble_eq_true rfl, Nat.le_of_ble_eq_true rfl⟩) ⟨PW.blind, va_recv hK hP (ci := 18) (q0 := 0) rfl rfl, PW.of hPc hKc hDc hG hS hFc [.ref h0, .int 0]⟩ rfl rfl hl.1 rfl (lv_room (Nat.le_of_ble_eq_true rfl)) dX14_setAge_16 ⟨Nat.le_of_ble_eq_true rfl, Nat.le_of_ble_eq_true rfl⟩) hS (fun q _ h => hFc q h) hFc (fun r_8 u t_10 H_7 locs ht hvm hw_9 hB hz1 hk1 hS => ?_)
    obtain ⟨hP, hD, hK⟩ := QW.join (wr := []) (w1 := [(h0, .inr (18, [.int 0, .ref l1, .ref l2, .ref l3, .ref l4, .ref l5, .ref l6, .int 0, .int tol, .int ag, .ref m1, .ref m2, .ref m3, .ref m4, .ref m5, .ref m6]))]) hP hD hK [0] [] rfl rfl (by decide) (by decide) hk1 hFc ht hvm hB
    have hP : va_P G vwCl ([(h0, .inr (18, [.int 0, .ref l1, .ref l2, .ref l3, .ref l4, .ref l5, .ref l6, .int 0, .int tol, .int ag, .ref m1, .ref m2, .ref m3, .ref m4, .ref m5, .ref m6]))]) H_7 := hP
    have hD : va_D A ([(h0, .inr (18, [.int 0, .ref l1, .ref l2, .ref l3, .ref l4, .ref l5, .ref l6, .int 0, .int tol, .int ag, .ref m1, .ref m2, .ref m3, .ref m4, .ref m5, .ref m6]))]) := hD
    have hK : va_K G vwCl [] s := hK
    refine W.widen (k := 0) (n := 0) (Nat.le_of_ble_eq_true rfl) (Nat.le_of_ble_eq_true rfl) ?_
    obtain rfl : 0 = r_8 := hw_9.symm
    refine lv_if_eq (tgt := 24) hx hb dX14_setAge_19 (by decide) (fun c_11 => ?_) (fun c_11 => absurd rfl c_11)
    refine lv_aload_n hx hb dX14_setAge_24 rfl (lv_at hl 0 rfl) ?_
    refine va_get (D := G) (ci := 18) (v := .int ag) (C := RX14) (T := TX14) (N := 16) hx hb hg in_X14 hown hK hP 0 rfl rfl 9 (by decide) (hg _ q1196) (fun _ h9 => h9) rfl dX14_setAge_25 ?_
    refine lv_istore_n (lv' := [(2, .int ag), (0, .ref h0), (1, .int p0)]) hx hb dX14_setAge_28 rfl hl (by decide) rfl (fun ls hl => ?_)
    refine lv_aload_n hx hb dX14_setAge_29 rfl (lv_at hl 1 rfl) ?_
    refine lv_iload_n hx hb dX14_setAge_30 rfl (lv_at hl 2 rfl) ?_
    refine va_put (D := G) (ci := 18) (v := .int p0) (ty := .int) (C := RX14) (T := TX14) (N := 16) hx hb hg in_X14 tyX14 tyX14_ok nmX14 hown hK hP hD hS 0 rfl rfl 9 (by decide) (hg _ q1196) (fun _ h9 => h9) rfl (by decide +kernel) rfl rfl (Nat.le_of_ble_eq_true rfl) dX14_setAge_31 (fun H_12 locs hP hD hS => ?_)
    have hP : va_P G vwCl ([(h0, .inr (18, [.int 0, .ref l1, .ref l2, .ref l3, .ref l4, .ref l5, .ref l6, .int 0, .int tol, .int p0, .ref m1, .ref m2, .ref m3, .ref m4, .ref m5, .ref m6]))]) H_12 := hP
    have hD : va_D A ([(h0, .inr (18, [.int 0, .ref l1, .ref l2, .ref l3, .ref l4, .ref l5, .ref l6, .int 0, .int tol, .int p0, .ref m1, .ref m2, .ref m3, .ref m4, .ref m5, .ref m6]))]) := hD
    refine lv_iload_n hx hb dX14_setAge_34 rfl (lv_at hl 0 rfl) ?_
    refine W.widen (k := 0) (n := 0) (Nat.le_of_ble_eq_true rfl) (Nat.le_of_ble_eq_true rfl) ?_
    have hP9 := hP.sub (ws' := [(h0, .inr (18, [.int 0, .ref l1, .ref l2, .ref l3, .ref l4, .ref l5, .ref l6, .int 0, .int tol, .int p0, .ref m1, .ref m2, .ref m3, .ref m4, .ref m5, .ref m6]))]) [0] rfl
    have hD9 := hD.sub (ws' := [(h0, .inr (18, [.int 0, .ref l1, .ref l2, .ref l3, .ref l4, .ref l5, .ref l6, .int 0, .int tol, .int p0, .ref m1, .ref m2, .ref m3, .ref m4, .ref m5, .ref m6]))]) [0] (by decide) rfl
    have hK9 := hK.sub (tys' := []) [] rfl
    exact W.iret (v := ag) hx hb hr (fun t ht hW => ⟨⟨ag, (), rfl, fun _ => rfl, ⟨0, p0, Or.inl ⟨hc_5, rfl⟩, QW.of hP9 hK9 hD9 ht hW.alike⟩⟩, hS.F ht⟩) hS.2.2 dX14_setAge_35
  · refine lv_if_eq (tgt := 15) hx hb dX14_setAge_8 (by decide) (fun c_13 => ?_) (fun c_13 => absurd rfl c_13)
    refine lv_iconst (v := 1) hx hb dX14_setAge_15 (by decide) ?_
    have hPc := hP.sub (ws' := [(h0, .inr (18, [.int th, .ref l1, .ref l2, .ref l3, .ref l4, .ref l5, .ref l6, .int 0, .int tol, .int ag, .ref m1, .ref m2, .ref m3, .ref m4, .ref m5, .ref m6]))]) [0] rfl
    have hKc := hK.sub (tys' := []) [] rfl
    have hDc := hD.sub (ws' := [(h0, .inr (18, [.int th, .ref l1, .ref l2, .ref l3, .ref l4, .ref l5, .ref l6, .int 0, .int tol, .int ag, .ref m1, .ref m2, .ref m3, .ref m4, .ref m5, .ref m6]))]) [0] (by decide) rfl
    have hFc := va_free (wc := [(h0, .inr (18, [.int th, .ref l1, .ref l2, .ref l3, .ref l4, .ref l5, .ref l6, .int 0, .int tol, .int ag, .ref m1, .ref m2, .ref m3, .ref m4, .ref m5, .ref m6]))]) hD hS hA [0] rfl
    refine va_calli (va_runV (As := [.int 1]) (rest := []) ⟨hx, hb, hml, hown, hts⟩ (k_X14_fails_1 l G z h0 th l1 l2 l3 l4 l5 l6 tol ag m1 m2 m3 m4 m5 m6 1 H_1.size (by decide)) (cwV 1 hts (lw_goodApp (lw_4 q1248 q1250 qs23 q7) q1251) rfl rfl rfl (by decide +kernel) ⟨Nat.le_of_ble_eq_true rfl, Nat.le_of_ble_eq_true rfl⟩) ⟨PW.blind, va_recv hK hP (ci := 18) (q0 := 0) rfl rfl, PW.of hPc hKc hDc hG hS hFc [.ref h0, .int 1]⟩ rfl rfl hl.1 rfl (lv_room (Nat.le_of_ble_eq_true rfl)) dX14_setAge_16 ⟨Nat.le_of_ble_eq_true rfl, Nat.le_of_ble_eq_true rfl⟩) hS (fun q _ h => hFc q h) hFc (fun r_15 u t_17 H_14 locs ht hvm hw_16 hB hz1 hk1 hS => ?_)
    obtain ⟨hP, hD, hK⟩ := QW.join (wr := []) (w1 := [(h0, .inr (18, [.int 1, .ref l1, .ref l2, .ref l3, .ref l4, .ref l5, .ref l6, .int 0, .int tol, .int ag, .ref m1, .ref m2, .ref m3, .ref m4, .ref m5, .ref m6]))]) hP hD hK [0] [] rfl rfl (by decide) (by decide) hk1 hFc ht hvm hB
    have hP : va_P G vwCl ([(h0, .inr (18, [.int 1, .ref l1, .ref l2, .ref l3, .ref l4, .ref l5, .ref l6, .int 0, .int tol, .int ag, .ref m1, .ref m2, .ref m3, .ref m4, .ref m5, .ref m6]))]) H_14 := hP
    have hD : va_D A ([(h0, .inr (18, [.int 1, .ref l1, .ref l2, .ref l3, .ref l4, .ref l5, .ref l6, .int 0, .int tol, .int ag, .ref m1, .ref m2, .ref m3, .ref m4, .ref m5, .ref m6]))]) := hD
    have hK : va_K G vwCl [] s := hK
    refine W.widen (k := 0) (n := 0) (Nat.le_of_ble_eq_true rfl) (Nat.le_of_ble_eq_true rfl) ?_
    obtain rfl : 1 = r_15 := hw_16.symm
    refine lv_if_eq (tgt := 24) hx hb dX14_setAge_19 (by decide) (fun c_18 => absurd c_18 (by decide)) (fun c_18 => ?_)
    refine lv_iconst (v := 0) hx hb dX14_setAge_22 (by decide) ?_
    refine W.widen (k := 0) (n := 0) (Nat.le_of_ble_eq_true rfl) (Nat.le_of_ble_eq_true rfl) ?_
    have hP9 := hP.sub (ws' := [(h0, .inr (18, [.int 1, .ref l1, .ref l2, .ref l3, .ref l4, .ref l5, .ref l6, .int 0, .int tol, .int ag, .ref m1, .ref m2, .ref m3, .ref m4, .ref m5, .ref m6]))]) [0] rfl
    have hD9 := hD.sub (ws' := [(h0, .inr (18, [.int 1, .ref l1, .ref l2, .ref l3, .ref l4, .ref l5, .ref l6, .int 0, .int tol, .int ag, .ref m1, .ref m2, .ref m3, .ref m4, .ref m5, .ref m6]))]) [0] (by decide) rfl
    have hK9 := hK.sub (tys' := []) [] rfl
    exact W.iret (v := 0) hx hb hr (fun t ht hW => ⟨⟨0, (), rfl, fun h9 => (hc_5 (h9)).elim, ⟨1, ag, Or.inr ⟨fun h9 => hc_5 (h9), rfl⟩, QW.of hP9 hK9 hD9 ht hW.alike⟩⟩, hS.F ht⟩) hS.2.2 dX14_setAge_23

abbrev wz_X14_groups : List Cond := .code yX14_groups cX14_groups 6 (Option.some Jvm.ClassFile.FieldType.int) :: lw_good
set_option maxHeartbeats 4000000 in
set_option maxRecDepth 100000 in
/-- groups (reference) -/
theorem k_X14_groups (l : Launch) (G : va_G) (z : Nat) (h0 : Nat) (th : Int32) (l1 : Nat) (l2 : Nat) (l3 : Nat) (l4 : Nat) (l5 : Nat) (l6 : Nat) (tol : Int32) (ag : Int32) (m1 : Nat) (m2 : Nat) (m3 : Nat) (m4 : Nat) (m5 : Nat) (m6 : Nat) (c5 : Int32) (e5 : Nat) (sz : Nat)  : Met l yX14_groups wz_X14_groups ({ frames := 1, cells := 1, slots := 0, locals := 20 }) (va_Pc [.ref h0] (PW G z [(h0, .inr (18, [.int th, .ref l1, .ref l2, .ref l3, .ref l4, .ref l5, .ref l6, .int 0, .int tol, .int ag, .ref m1, .ref m2, .ref m3, .ref m4, .ref m5, .ref m6])), (l5, .inr (3, [.int c5, .ref e5, .int 0]))] [] sz)) (va_Qi (fun (r : Int32) (_ : Unit) => r = 0) (fun (_ : Unit) (t : State) => QW G [(h0, .inr (18, [.int 0, .ref l1, .ref l2, .ref l3, .ref l4, .ref l5, .ref l6, .int 0, .int tol, .int ag, .ref m1, .ref m2, .ref m3, .ref m4, .ref m5, .ref m6]))] [] (va_A [(h0, .inr (18, [.int th, .ref l1, .ref l2, .ref l3, .ref l4, .ref l5, .ref l6, .int 0, .int tol, .int ag, .ref m1, .ref m2, .ref m3, .ref m4, .ref m5, .ref m6])), (l5, .inr (3, [.int c5, .ref e5, .int 0]))] sz) t) (va_A [(h0, .inr (18, [.int th, .ref l1, .ref l2, .ref l3, .ref l4, .ref l5, .ref l6, .int 0, .int tol, .int ag, .ref m1, .ref m2, .ref m3, .ref m4, .ref m5, .ref m6])), (l5, .inr (3, [.int c5, .ref e5, .int 0]))] sz)) 1 0 (va_A [(h0, .inr (18, [.int th, .ref l1, .ref l2, .ref l3, .ref l4, .ref l5, .ref l6, .int 0, .int tol, .int ag, .ref m1, .ref m2, .ref m3, .ref m4, .ref m5, .ref m6])), (l5, .inr (3, [.int c5, .ref e5, .int 0]))] sz) := by
  refine Met.ofW (cc := cX14_groups) (maxL := 6) (ret := (Option.some Jvm.ClassFile.FieldType.int)) (by decide) rfl ?_
  intro p e s m args below meth c s₁ B hml hv
  obtain ⟨rfl, rfl, hP, hK, hD0, hG⟩ := hv
  have hx := B.exec
  have hb := B.bytes
  have hr := B.returns
  have hts := atoms_spec (ws := wz_X14_groups) B.pre
  have hg : ∀ w ∈ lw_good, w.before _ s = true := fun w h => hts w (List.mem_cons_of_mem _ h)
  have hown : s.vm.findClass RX14 = some m.cls := findClass_of_methodNamed B.named
  have hlocks := B.notSynchronized
  have hD := hD0.self (sz := s.heap.size)
  generalize hAe : va_A [(h0, .inr (18, [.int th, .ref l1, .ref l2, .ref l3, .ref l4, .ref l5, .ref l6, .int 0, .int tol, .int ag, .ref m1, .ref m2, .ref m3, .ref m4, .ref m5, .ref m6])), (l5, .inr (3, [.int c5, .ref e5, .int 0]))] s.heap.size = A at hD hG ⊢
  have hA : ∀ q : Nat, s.heap.size ≤ q → A q := fun q h => by rw [← hAe]; exact Or.inr h
  have hS : va_S A s.heap s.heap [] := va_S.rf
  have hl := lv_entry ([.ref h0]) (n := 6) (Nat.le_of_ble_eq_true rfl)
  rw [lg_entry_eq]
  generalize (lg_sl ([.ref h0]) ++ List.replicate (6 - (lg_sl ([.ref h0])).length) Slot.unset).toArray = ls at hl ⊢
  have hl : lv_has ls 6 [(0, .ref h0)] := hl
  refine lv_aload_n hx hb dX14_groups_0 rfl (lv_at hl 0 rfl) ?_
  refine lv_iconst (v := 0) hx hb dX14_groups_1 (by decide) ?_
  refine va_put (D := G) (ci := 18) (v := .int 0) (ty := .int) (C := RX14) (T := TX14) (N := 16) hx hb hg in_X14 tyX14 tyX14_ok nmX14 hown hK hP hD hS 0 rfl rfl 0 (by decide) (hg _ q1187) (fun _ h9 => h9) rfl (by decide +kernel) rfl rfl (Nat.le_of_ble_eq_true rfl) dX14_groups_2 (fun H_1 locs hP hD hS => ?_)
  have hP : va_P G vwCl ([(h0, .inr (18, [.int 0, .ref l1, .ref l2, .ref l3, .ref l4, .ref l5, .ref l6, .int 0, .int tol, .int ag, .ref m1, .ref m2, .ref m3, .ref m4, .ref m5, .ref m6])), (l5, .inr (3, [.int c5, .ref e5, .int 0]))]) H_1 := hP
  have hD : va_D A ([(h0, .inr (18, [.int 0, .ref l1, .ref l2, .ref l3, .ref l4, .ref l5, .ref l6, .int 0, .int tol, .int ag, .ref m1, .ref m2, .ref m3, .ref m4, .ref m5, .ref m6])), (l5, .inr (3, [.int c5, .ref e5, .int 0]))]) := hD
  refine lv_aload_n hx hb dX14_groups_5 rfl (lv_at hl 0 rfl) ?_
  refine va_get (D := G) (ci := 18) (v := .ref l5) (C := RX14) (T := TX14) (N := 16) hx hb hg in_X14 hown hK hP 0 rfl rfl 5 (by decide) (hg _ q1192) (fun _ h9 => h9) rfl dX14_groups_6 ?_
  have hPc := hP.sub (ws' := [(l5, .inr (3, [.int c5, .ref e5, .int 0]))]) [1] rfl
  have hKc := hK.sub (tys' := []) [] rfl
  refine va_calli (va_runV (As := []) (rest := []) ⟨hx, hb, hml, hown, hts⟩ (k_Jx4a65c_size_8abf5 l G z l5 c5 e5 0 H_1.size ) (cwV 0 hts (lw_goodApp (lw_4 q1247 q161 q162 q4) q163) rfl rfl rfl (by decide +kernel) ⟨Nat.le_of_ble_eq_true rfl, Nat.le_of_ble_eq_true rfl⟩) ⟨PR.blind, va_recv hK hP (ci := 3) (q0 := 1) rfl rfl, PR.of hPc hKc hG hS hA [.ref l5]⟩ rfl rfl hl.1 rfl (lv_room (Nat.le_of_ble_eq_true rfl)) dX14_groups_9 ⟨Nat.le_of_ble_eq_true rfl, Nat.le_of_ble_eq_true rfl⟩) hS (fun q h9 h => zN.not h9 h) (fun q h => hA q (Nat.le_trans hS.1 h)) (fun r_3 u t_5 H_2 locs ht hvm hw_4 hB hz1 hk1 hS => ?_)
  have hP := hP.grown hk1
  refine W.widen (k := 0) (n := 0) (Nat.le_of_ble_eq_true rfl) (Nat.le_of_ble_eq_true rfl) ?_
  obtain rfl : 0 = r_3 := hw_4.symm
  refine lv_istore_n (lv' := [(1, .int 0), (0, .ref h0)]) hx hb dX14_groups_12 rfl hl (by decide) rfl (fun ls hl => ?_)
  refine lv_iload_n hx hb dX14_groups_13 rfl (lv_at hl 0 rfl) ?_
  refine va_newa (atype := .int) (ty := .int) (a0 := (0, .inl (fun _ => 0))) (N' := 0) hx hb (hg _ q94) rfl hK hP hD hS hA (fun _ => rfl) (by decide) (by decide +kernel) (Nat.le_of_ble_eq_true rfl) (Nat.le_of_ble_eq_true rfl) (Nat.le_of_ble_eq_true rfl) dX14_groups_14 (fun o_7 cy_6 H_8 hK hP hD hS => ?_)
  have hP : va_P G vwCl ([(h0, .inr (18, [.int 0, .ref l1, .ref l2, .ref l3, .ref l4, .ref l5, .ref l6, .int 0, .int tol, .int ag, .ref m1, .ref m2, .ref m3, .ref m4, .ref m5, .ref m6])), (l5, .inr (3, [.int c5, .ref e5, .int 0])), (o_7, .inl (cy_6, 0, .inl (fun _ => 0)))]) H_8 := hP
  have hD : va_D A ([(h0, .inr (18, [.int 0, .ref l1, .ref l2, .ref l3, .ref l4, .ref l5, .ref l6, .int 0, .int tol, .int ag, .ref m1, .ref m2, .ref m3, .ref m4, .ref m5, .ref m6])), (l5, .inr (3, [.int c5, .ref e5, .int 0])), (o_7, .inl (cy_6, 0, .inl (fun _ => 0)))]) := hD
  have hK : va_K G vwCl [(cy_6, .int)] s := hK
  refine W.widen (k := 1) (n := 0) (Nat.le_of_ble_eq_true rfl) (Nat.le_of_ble_eq_true rfl) ?_
  refine lv_astore_n (lv' := [(2, .ref o_7), (1, .int 0), (0, .ref h0)]) hx hb dX14_groups_16 rfl hl (by decide) rfl (fun ls hl => ?_)
  refine lv_iconst (v := 0) hx hb dX14_groups_17 (by decide) ?_
  refine lv_istore_n (lv' := [(3, .int 0), (2, .ref o_7), (1, .int 0), (0, .ref h0)]) hx hb dX14_groups_18 rfl hl (by decide) rfl (fun ls hl => ?_)
  refine lv_iload_n hx hb dX14_groups_19 rfl (lv_at hl 0 rfl) ?_
  refine lv_iload_n hx hb dX14_groups_20 rfl (lv_at hl 2 rfl) ?_
  refine lv_icmp_ge (tgt := 34) hx hb dX14_groups_21 (by decide) (fun c_9 => ?_) (fun c_9 => absurd (by decide) c_9)
  refine lv_iconst (v := 0) hx hb dX14_groups_34 (by decide) ?_
  refine lv_istore_n (lv' := [(3, .int 0), (2, .ref o_7), (1, .int 0), (0, .ref h0)]) hx hb dX14_groups_35 rfl hl (by decide) rfl (fun ls hl => ?_)
  refine lv_iload_n hx hb dX14_groups_36 rfl (lv_at hl 0 rfl) ?_
  refine lv_iload_n hx hb dX14_groups_37 rfl (lv_at hl 2 rfl) ?_
  refine lv_icmp_ge (tgt := 123) hx hb dX14_groups_38 (by decide) (fun c_10 => ?_) (fun c_10 => absurd (by decide) c_10)
  refine lv_iconst (v := 0) hx hb dX14_groups_123 (by decide) ?_
  refine lv_istore_n (lv' := [(3, .int 0), (2, .ref o_7), (1, .int 0), (0, .ref h0)]) hx hb dX14_groups_124 rfl hl (by decide) rfl (fun ls hl => ?_)
  refine lv_iconst (v := 0) hx hb dX14_groups_125 (by decide) ?_
  refine lv_istore (lv' := [(4, .int 0), (3, .int 0), (2, .ref o_7), (1, .int 0), (0, .ref h0)]) hx hb dX14_groups_126 hl (by decide) rfl (fun ls hl => ?_)
  refine lv_iload hx hb dX14_groups_128 (lv_at hl 0 rfl) ?_
  refine lv_iload_n hx hb dX14_groups_130 rfl (lv_at hl 3 rfl) ?_
  refine lv_icmp_ge (tgt := 157) hx hb dX14_groups_131 (by decide) (fun c_11 => ?_) (fun c_11 => absurd (by decide) c_11)
  refine lv_iload_n hx hb dX14_groups_157 rfl (lv_at hl 1 rfl) ?_
  refine W.widen (k := 1) (n := 0) (Nat.le_of_ble_eq_true rfl) (Nat.le_of_ble_eq_true rfl) ?_
  have hP9 := hP.sub (ws' := [(h0, .inr (18, [.int 0, .ref l1, .ref l2, .ref l3, .ref l4, .ref l5, .ref l6, .int 0, .int tol, .int ag, .ref m1, .ref m2, .ref m3, .ref m4, .ref m5, .ref m6]))]) [0] rfl
  have hD9 := hD.sub (ws' := [(h0, .inr (18, [.int 0, .ref l1, .ref l2, .ref l3, .ref l4, .ref l5, .ref l6, .int 0, .int tol, .int ag, .ref m1, .ref m2, .ref m3, .ref m4, .ref m5, .ref m6]))]) [0] (by decide) rfl
  have hK9 := hK.sub (tys' := []) [] rfl
  exact W.iret (v := 0) hx hb hr (fun t ht hW => ⟨⟨0, (), rfl, rfl, QW.of hP9 hK9 hD9 ht hW.alike⟩, hS.F ht⟩) hS.2.2 dX14_groups_158

abbrev wz_X14_gather : List Cond := .code yX14_gather cX14_gather 6 none :: lw_good
set_option maxHeartbeats 4000000 in
set_option maxRecDepth 100000 in
theorem k_X14_gather (l : Launch) (G : va_G) (z : Nat) (h0 : Nat) (th : Int32) (l1 : Nat) (l2 : Nat) (l3 : Nat) (l4 : Nat) (l5 : Nat) (l6 : Nat) (tol : Int32) (ag : Int32) (m1 : Nat) (m2 : Nat) (m3 : Nat) (m4 : Nat) (m5 : Nat) (m6 : Nat) (c1 : Int32) (e1 : Nat) (c4 : Int32) (e4 : Nat) (sz : Nat)  : Met l yX14_gather wz_X14_gather ({ frames := 1, cells := 0, slots := 0, locals := 20 }) (va_Pc [.ref h0] (PR G z [(h0, .inr (18, [.int th, .ref l1, .ref l2, .ref l3, .ref l4, .ref l5, .ref l6, .int 0, .int tol, .int ag, .ref m1, .ref m2, .ref m3, .ref m4, .ref m5, .ref m6])), (l1, .inr (3, [.int c1, .ref e1, .int 0])), (l4, .inr (3, [.int c4, .ref e4, .int 0]))] [] sz)) (va_Qv (fun (_ : Unit) => True) (fun (_ : Unit) (_ : State) => True) (zN sz)) 0 0 (zN sz) := by
  refine Met.ofW (cc := cX14_gather) (maxL := 6) (ret := none) (by decide) rfl ?_
  intro p e s m args below meth c s₁ B hml hv
  obtain ⟨rfl, rfl, hP, hK, hG⟩ := hv
  have hx := B.exec
  have hb := B.bytes
  have hr := B.returns
  have hts := atoms_spec (ws := wz_X14_gather) B.pre
  have hg : ∀ w ∈ lw_good, w.before _ s = true := fun w h => hts w (List.mem_cons_of_mem _ h)
  have hown : s.vm.findClass RX14 = some m.cls := findClass_of_methodNamed B.named
  have hlocks := B.notSynchronized
  have hA : ∀ q : Nat, s.heap.size ≤ q → zN s.heap.size q := fun _ h => h
  have hS : va_S (zN s.heap.size) s.heap s.heap [] := va_S.rf
  have hl := lv_entry ([.ref h0]) (n := 6) (Nat.le_of_ble_eq_true rfl)
  rw [lg_entry_eq]
  generalize (lg_sl ([.ref h0]) ++ List.replicate (6 - (lg_sl ([.ref h0])).length) Slot.unset).toArray = ls at hl ⊢
  have hl : lv_has ls 6 [(0, .ref h0)] := hl
  refine lv_iconst (v := 0) hx hb dX14_gather_0 (by decide) ?_
  refine lv_istore_n (lv' := [(1, .int 0), (0, .ref h0)]) hx hb dX14_gather_1 rfl hl (by decide) rfl (fun ls hl => ?_)
  refine lv_iload_n hx hb dX14_gather_2 rfl (lv_at hl 0 rfl) ?_
  refine lv_aload_n hx hb dX14_gather_3 rfl (lv_at hl 1 rfl) ?_
  refine va_get (D := G) (ci := 18) (v := .ref l1) (C := RX14) (T := TX14) (N := 16) hx hb hg in_X14 hown hK hP 0 rfl rfl 1 (by decide) (hg _ q1188) (fun _ h9 => h9) rfl dX14_gather_4 ?_
  have hPc := hP.sub (ws' := [(l1, .inr (3, [.int c1, .ref e1, .int 0]))]) [1] rfl
  have hKc := hK.sub (tys' := []) [] rfl
  refine va_calli (va_runV (As := []) (rest := [.int 0]) ⟨hx, hb, hml, hown, hts⟩ (k_Jx4a65c_size_8abf5 l G z l1 c1 e1 0 s.heap.size ) (cwV 0 hts (lw_goodApp (lw_4 q1247 q161 q162 q4) q163) rfl rfl rfl (by decide +kernel) ⟨Nat.le_of_ble_eq_true rfl, Nat.le_of_ble_eq_true rfl⟩) ⟨PR.blind, va_recv hK hP (ci := 3) (q0 := 1) rfl rfl, PR.of hPc hKc hG hS hA [.ref l1]⟩ rfl rfl hl.1 rfl (lv_room (Nat.le_of_ble_eq_true rfl)) dX14_gather_7 ⟨Nat.le_of_ble_eq_true rfl, Nat.le_of_ble_eq_true rfl⟩) hS (fun q h9 h => zN.not h9 h) (fun q h => hA q (Nat.le_trans hS.1 h)) (fun r_2 u t_4 H_1 locs ht hvm hw_3 hB hz1 hk1 hS => ?_)
  have hP := hP.grown hk1
  refine W.widen (k := 0) (n := 0) (Nat.le_of_ble_eq_true rfl) (Nat.le_of_ble_eq_true rfl) ?_
  obtain rfl : 0 = r_2 := hw_3.symm
  refine lv_icmp_ge (tgt := 55) hx hb dX14_gather_10 (by decide) (fun c_5 => ?_) (fun c_5 => absurd (by decide) c_5)
  refine lv_iconst (v := 0) hx hb dX14_gather_55 (by decide) ?_
  refine lv_istore_n (lv' := [(1, .int 0), (0, .ref h0)]) hx hb dX14_gather_56 rfl hl (by decide) rfl (fun ls hl => ?_)
  refine lv_iload_n hx hb dX14_gather_57 rfl (lv_at hl 0 rfl) ?_
  refine lv_aload_n hx hb dX14_gather_58 rfl (lv_at hl 1 rfl) ?_
  refine va_get (D := G) (ci := 18) (v := .ref l4) (C := RX14) (T := TX14) (N := 16) hx hb hg in_X14 hown hK hP 0 rfl rfl 4 (by decide) (hg _ q1191) (fun _ h9 => h9) rfl dX14_gather_59 ?_
  have hPc := hP.sub (ws' := [(l4, .inr (3, [.int c4, .ref e4, .int 0]))]) [2] rfl
  have hKc := hK.sub (tys' := []) [] rfl
  refine va_calli (va_runV (As := []) (rest := [.int 0]) ⟨hx, hb, hml, hown, hts⟩ (k_Jx4a65c_size_8abf5 l G z l4 c4 e4 0 H_1.size ) (cwV 0 hts (lw_goodApp (lw_4 q1247 q161 q162 q4) q163) rfl rfl rfl (by decide +kernel) ⟨Nat.le_of_ble_eq_true rfl, Nat.le_of_ble_eq_true rfl⟩) ⟨PR.blind, va_recv hK hP (ci := 3) (q0 := 2) rfl rfl, PR.of hPc hKc hG hS hA [.ref l4]⟩ rfl rfl hl.1 rfl (lv_room (Nat.le_of_ble_eq_true rfl)) dX14_gather_62 ⟨Nat.le_of_ble_eq_true rfl, Nat.le_of_ble_eq_true rfl⟩) hS (fun q h9 h => zN.not h9 h) (fun q h => hA q (Nat.le_trans hS.1 h)) (fun r_7 u t_9 H_6 locs ht hvm hw_8 hB hz1 hk1 hS => ?_)
  have hP := hP.grown hk1
  refine W.widen (k := 0) (n := 0) (Nat.le_of_ble_eq_true rfl) (Nat.le_of_ble_eq_true rfl) ?_
  obtain rfl : 0 = r_7 := hw_8.symm
  refine lv_icmp_ge (tgt := 251) hx hb dX14_gather_65 (by decide) (fun c_10 => ?_) (fun c_10 => absurd (by decide) c_10)
  refine W.widen (k := 0) (n := 0) (Nat.le_of_ble_eq_true rfl) (Nat.le_of_ble_eq_true rfl) ?_
  exact W.vret hx hb hr (fun t ht hW => ⟨⟨(), rfl, trivial, trivial⟩, hS.F ht⟩) hS.2.2 dX14_gather_251

abbrev wz_X14_find_ : List Cond := .code yX14_find_ cX14_find_ 5 (Option.some Jvm.ClassFile.FieldType.boolean) :: lw_good
set_option maxHeartbeats 4000000 in
set_option maxRecDepth 100000 in
/-- find(aside) of no documents -/
theorem k_X14_find_ (l : Launch) (G : va_G) (z : Nat) (h0 : Nat) (th : Int32) (l1 : Nat) (l2 : Nat) (l3 : Nat) (l4 : Nat) (l5 : Nat) (l6 : Nat) (tol : Int32) (ag : Int32) (m1 : Nat) (m2 : Nat) (m3 : Nat) (m4 : Nat) (m5 : Nat) (m6 : Nat) (c1 : Int32) (e1 : Nat) (c4 : Int32) (e4 : Nat) (p0 : Int32) (sz : Nat)  : Met l yX14_find_ wz_X14_find_ ({ frames := 2, cells := 0, slots := 0, locals := 45 }) (va_Pc [.ref h0, .int p0] (PR G z [(h0, .inr (18, [.int th, .ref l1, .ref l2, .ref l3, .ref l4, .ref l5, .ref l6, .int 0, .int tol, .int ag, .ref m1, .ref m2, .ref m3, .ref m4, .ref m5, .ref m6])), (l1, .inr (3, [.int c1, .ref e1, .int 0])), (l4, .inr (3, [.int c4, .ref e4, .int 0]))] [] sz)) (va_Qi (fun (r : Int32) (_ : Unit) => r = 1) (fun (_ : Unit) (_ : State) => True) (zN sz)) 0 0 (zN sz) := by
  refine Met.ofW (cc := cX14_find_) (maxL := 5) (ret := (Option.some Jvm.ClassFile.FieldType.boolean)) (by decide) rfl ?_
  intro p e s m args below meth c s₁ B hml hv
  obtain ⟨rfl, rfl, hP, hK, hG⟩ := hv
  have hx := B.exec
  have hb := B.bytes
  have hr := B.returns
  have hts := atoms_spec (ws := wz_X14_find_) B.pre
  have hg : ∀ w ∈ lw_good, w.before _ s = true := fun w h => hts w (List.mem_cons_of_mem _ h)
  have hown : s.vm.findClass RX14 = some m.cls := findClass_of_methodNamed B.named
  have hlocks := B.notSynchronized
  have hA : ∀ q : Nat, s.heap.size ≤ q → zN s.heap.size q := fun _ h => h
  have hS : va_S (zN s.heap.size) s.heap s.heap [] := va_S.rf
  have hl := lv_entry ([.ref h0, .int p0]) (n := 5) (Nat.le_of_ble_eq_true rfl)
  rw [lg_entry_eq]
  generalize (lg_sl ([.ref h0, .int p0]) ++ List.replicate (5 - (lg_sl ([.ref h0, .int p0])).length) Slot.unset).toArray = ls at hl ⊢
  have hl : lv_has ls 5 [(0, .ref h0), (1, .int p0)] := hl
  refine lv_iconst (v := 0) hx hb dX14_find__0 (by decide) ?_
  refine lv_istore_n (lv' := [(2, .int 0), (0, .ref h0), (1, .int p0)]) hx hb dX14_find__1 rfl hl (by decide) rfl (fun ls hl => ?_)
  refine lv_iload_n hx hb dX14_find__2 rfl (lv_at hl 0 rfl) ?_
  refine lv_aload_n hx hb dX14_find__3 rfl (lv_at hl 1 rfl) ?_
  refine va_get (D := G) (ci := 18) (v := .ref l4) (C := RX14) (T := TX14) (N := 16) hx hb hg in_X14 hown hK hP 0 rfl rfl 4 (by decide) (hg _ q1191) (fun _ h9 => h9) rfl dX14_find__4 ?_
  have hPc := hP.sub (ws' := [(l4, .inr (3, [.int c4, .ref e4, .int 0]))]) [2] rfl
  have hKc := hK.sub (tys' := []) [] rfl
  refine va_calli (va_runV (As := []) (rest := [.int 0]) ⟨hx, hb, hml, hown, hts⟩ (k_Jx4a65c_size_8abf5 l G z l4 c4 e4 0 s.heap.size ) (cwV 0 hts (lw_goodApp (lw_4 q1247 q161 q162 q4) q163) rfl rfl rfl (by decide +kernel) ⟨Nat.le_of_ble_eq_true rfl, Nat.le_of_ble_eq_true rfl⟩) ⟨PR.blind, va_recv hK hP (ci := 3) (q0 := 2) rfl rfl, PR.of hPc hKc hG hS hA [.ref l4]⟩ rfl rfl hl.1 rfl (lv_room (Nat.le_of_ble_eq_true rfl)) dX14_find__7 ⟨Nat.le_of_ble_eq_true rfl, Nat.le_of_ble_eq_true rfl⟩) hS (fun q h9 h => zN.not h9 h) (fun q h => hA q (Nat.le_trans hS.1 h)) (fun r_2 u t_4 H_1 locs ht hvm hw_3 hB hz1 hk1 hS => ?_)
  have hP := hP.grown hk1
  refine W.widen (k := 0) (n := 0) (Nat.le_of_ble_eq_true rfl) (Nat.le_of_ble_eq_true rfl) ?_
  obtain rfl : 0 = r_2 := hw_3.symm
  refine lv_icmp_ge (tgt := 147) hx hb dX14_find__10 (by decide) (fun c_5 => ?_) (fun c_5 => absurd (by decide) c_5)
  refine lv_iconst (v := 1) hx hb dX14_find__147 (by decide) ?_
  refine lv_istore_n (lv' := [(2, .int 1), (0, .ref h0), (1, .int p0)]) hx hb dX14_find__148 rfl hl (by decide) rfl (fun ls hl => ?_)
  refine lv_iconst (v := 1) hx hb dX14_find__149 (by decide) ?_
  refine lv_istore_n (lv' := [(3, .int 1), (2, .int 1), (0, .ref h0), (1, .int p0)]) hx hb dX14_find__150 rfl hl (by decide) rfl (fun ls hl => ?_)
  refine lv_iload_n hx hb dX14_find__151 rfl (lv_at hl 1 rfl) ?_
  refine lv_if_eq (tgt := 235) hx hb dX14_find__152 (by decide) (fun c_6 => absurd c_6 (by decide)) (fun c_6 => ?_)
  refine lv_iload_n hx hb dX14_find__155 rfl (lv_at hl 0 rfl) ?_
  refine lv_if_eq (tgt := 235) hx hb dX14_find__156 (by decide) (fun c_7 => absurd c_7 (by decide)) (fun c_7 => ?_)
  refine lv_aload_n hx hb dX14_find__159 rfl (lv_at hl 2 rfl) ?_
  have hPc := hP.sub (ws' := [(h0, .inr (18, [.int th, .ref l1, .ref l2, .ref l3, .ref l4, .ref l5, .ref l6, .int 0, .int tol, .int ag, .ref m1, .ref m2, .ref m3, .ref m4, .ref m5, .ref m6])), (l1, .inr (3, [.int c1, .ref e1, .int 0])), (l4, .inr (3, [.int c4, .ref e4, .int 0]))]) [0, 1, 2] rfl
  have hKc := hK.sub (tys' := []) [] rfl
  refine va_callv (va_runV (As := []) (rest := []) ⟨hx, hb, hml, hown, hts⟩ (k_X14_gather l G z h0 th l1 l2 l3 l4 l5 l6 tol ag m1 m2 m3 m4 m5 m6 c1 e1 c4 e4 H_1.size ) (cwV 0 hts (lw_goodApp (lw_4 q1692 q1694 qs35 q7) q1695) rfl rfl rfl (by decide +kernel) ⟨Nat.le_of_ble_eq_true rfl, Nat.le_of_ble_eq_true rfl⟩) ⟨PR.blind, va_recv hK hP (ci := 18) (q0 := 0) rfl rfl, PR.of hPc hKc hG hS hA [.ref h0]⟩ rfl rfl hl.1 rfl (lv_room (Nat.le_of_ble_eq_true rfl)) dX14_find__160 ⟨Nat.le_of_ble_eq_true rfl, Nat.le_of_ble_eq_true rfl⟩) hS (fun q h9 h => zN.not h9 h) (fun q h => hA q (Nat.le_trans hS.1 h)) (fun u t_11 H_8 locs ht hvm hw_10 hB hz1 hk1 hS => ?_)
  have hP := hP.grown hk1
  refine W.widen (k := 0) (n := 0) (Nat.le_of_ble_eq_true rfl) (Nat.le_of_ble_eq_true rfl) ?_
  refine lv_iconst (v := 0) hx hb dX14_find__163 (by decide) ?_
  refine lv_istore_n (lv' := [(2, .int 0), (3, .int 1), (0, .ref h0), (1, .int p0)]) hx hb dX14_find__164 rfl hl (by decide) rfl (fun ls hl => ?_)
  refine lv_iconst (v := 0) hx hb dX14_find__165 (by decide) ?_
  refine lv_istore (lv' := [(4, .int 0), (2, .int 0), (3, .int 1), (0, .ref h0), (1, .int p0)]) hx hb dX14_find__166 hl (by decide) rfl (fun ls hl => ?_)
  refine lv_iload hx hb dX14_find__168 (lv_at hl 0 rfl) ?_
  refine lv_aload_n hx hb dX14_find__170 rfl (lv_at hl 3 rfl) ?_
  refine va_get (D := G) (ci := 18) (v := .ref l4) (C := RX14) (T := TX14) (N := 16) hx hb hg in_X14 hown hK hP 0 rfl rfl 4 (by decide) (hg _ q1191) (fun _ h9 => h9) rfl dX14_find__171 ?_
  have hPc := hP.sub (ws' := [(l4, .inr (3, [.int c4, .ref e4, .int 0]))]) [2] rfl
  have hKc := hK.sub (tys' := []) [] rfl
  refine va_calli (va_runV (As := []) (rest := [.int 0]) ⟨hx, hb, hml, hown, hts⟩ (k_Jx4a65c_size_8abf5 l G z l4 c4 e4 0 H_8.size ) (cwV 0 hts (lw_goodApp (lw_4 q1247 q161 q162 q4) q163) rfl rfl rfl (by decide +kernel) ⟨Nat.le_of_ble_eq_true rfl, Nat.le_of_ble_eq_true rfl⟩) ⟨PR.blind, va_recv hK hP (ci := 3) (q0 := 2) rfl rfl, PR.of hPc hKc hG hS hA [.ref l4]⟩ rfl rfl hl.1 rfl (lv_room (Nat.le_of_ble_eq_true rfl)) dX14_find__174 ⟨Nat.le_of_ble_eq_true rfl, Nat.le_of_ble_eq_true rfl⟩) hS (fun q h9 h => zN.not h9 h) (fun q h => hA q (Nat.le_trans hS.1 h)) (fun r_13 u t_15 H_12 locs ht hvm hw_14 hB hz1 hk1 hS => ?_)
  have hP := hP.grown hk1
  refine W.widen (k := 0) (n := 0) (Nat.le_of_ble_eq_true rfl) (Nat.le_of_ble_eq_true rfl) ?_
  obtain rfl : 0 = r_13 := hw_14.symm
  refine lv_icmp_ge (tgt := 232) hx hb dX14_find__177 (by decide) (fun c_16 => ?_) (fun c_16 => absurd (by decide) c_16)
  refine lv_goto (tgt := 151) hx hb dX14_find__232 (by decide) ?_
  refine lv_iload_n hx hb dX14_find__151 rfl (lv_at hl 1 rfl) ?_
  refine lv_if_eq (tgt := 235) hx hb dX14_find__152 (by decide) (fun c_17 => ?_) (fun c_17 => absurd rfl c_17)
  refine lv_iload_n hx hb dX14_find__235 rfl (lv_at hl 2 rfl) ?_
  refine W.widen (k := 0) (n := 0) (Nat.le_of_ble_eq_true rfl) (Nat.le_of_ble_eq_true rfl) ?_
  exact W.zret (v := 1) hx hb hr rfl (fun t ht hW => ⟨⟨1, (), rfl, rfl, trivial⟩, hS.F ht⟩) hS.2.2 dX14_find__236

abbrev wz_X14_fits : List Cond := .code yX14_fits cX14_fits 1 (Option.some Jvm.ClassFile.FieldType.boolean) :: lw_good
set_option maxHeartbeats 4000000 in
set_option maxRecDepth 100000 in
theorem k_X14_fits (l : Launch) (G : va_G) (z : Nat) (h0 : Nat) (th : Int32) (l1 : Nat) (l2 : Nat) (l3 : Nat) (l4 : Nat) (l5 : Nat) (l6 : Nat) (tol : Int32) (ag : Int32) (m1 : Nat) (m2 : Nat) (m3 : Nat) (m4 : Nat) (m5 : Nat) (m6 : Nat) (c1 : Int32) (e1 : Nat) (c4 : Int32) (e4 : Nat) (sz : Nat)  : Met l yX14_fits wz_X14_fits ({ frames := 3, cells := 0, slots := 0, locals := 69 }) (va_Pc [.ref h0] (PW G z [(h0, .inr (18, [.int th, .ref l1, .ref l2, .ref l3, .ref l4, .ref l5, .ref l6, .int 0, .int tol, .int ag, .ref m1, .ref m2, .ref m3, .ref m4, .ref m5, .ref m6])), (l1, .inr (3, [.int c1, .ref e1, .int 0])), (l4, .inr (3, [.int c4, .ref e4, .int 0]))] [] sz)) (va_Qi (fun (r : Int32) (_ : Unit) => r = 1) (fun (_ : Unit) (t : State) => QW G [(h0, .inr (18, [.int 0, .ref l1, .ref l2, .ref l3, .ref l4, .ref l5, .ref l6, .int 0, .int tol, .int ag, .ref m1, .ref m2, .ref m3, .ref m4, .ref m5, .ref m6]))] [] (va_A [(h0, .inr (18, [.int th, .ref l1, .ref l2, .ref l3, .ref l4, .ref l5, .ref l6, .int 0, .int tol, .int ag, .ref m1, .ref m2, .ref m3, .ref m4, .ref m5, .ref m6])), (l1, .inr (3, [.int c1, .ref e1, .int 0])), (l4, .inr (3, [.int c4, .ref e4, .int 0]))] sz) t) (va_A [(h0, .inr (18, [.int th, .ref l1, .ref l2, .ref l3, .ref l4, .ref l5, .ref l6, .int 0, .int tol, .int ag, .ref m1, .ref m2, .ref m3, .ref m4, .ref m5, .ref m6])), (l1, .inr (3, [.int c1, .ref e1, .int 0])), (l4, .inr (3, [.int c4, .ref e4, .int 0]))] sz)) 0 0 (va_A [(h0, .inr (18, [.int th, .ref l1, .ref l2, .ref l3, .ref l4, .ref l5, .ref l6, .int 0, .int tol, .int ag, .ref m1, .ref m2, .ref m3, .ref m4, .ref m5, .ref m6])), (l1, .inr (3, [.int c1, .ref e1, .int 0])), (l4, .inr (3, [.int c4, .ref e4, .int 0]))] sz) := by
  refine Met.ofW (cc := cX14_fits) (maxL := 1) (ret := (Option.some Jvm.ClassFile.FieldType.boolean)) (by decide) rfl ?_
  intro p e s m args below meth c s₁ B hml hv
  obtain ⟨rfl, rfl, hP, hK, hD0, hG⟩ := hv
  have hx := B.exec
  have hb := B.bytes
  have hr := B.returns
  have hts := atoms_spec (ws := wz_X14_fits) B.pre
  have hg : ∀ w ∈ lw_good, w.before _ s = true := fun w h => hts w (List.mem_cons_of_mem _ h)
  have hown : s.vm.findClass RX14 = some m.cls := findClass_of_methodNamed B.named
  have hlocks := B.notSynchronized
  have hD := hD0.self (sz := s.heap.size)
  generalize hAe : va_A [(h0, .inr (18, [.int th, .ref l1, .ref l2, .ref l3, .ref l4, .ref l5, .ref l6, .int 0, .int tol, .int ag, .ref m1, .ref m2, .ref m3, .ref m4, .ref m5, .ref m6])), (l1, .inr (3, [.int c1, .ref e1, .int 0])), (l4, .inr (3, [.int c4, .ref e4, .int 0]))] s.heap.size = A at hD hG ⊢
  have hA : ∀ q : Nat, s.heap.size ≤ q → A q := fun q h => by rw [← hAe]; exact Or.inr h
  have hS : va_S A s.heap s.heap [] := va_S.rf
  have hl := lv_entry ([.ref h0]) (n := 1) (Nat.le_of_ble_eq_true rfl)
  rw [lg_entry_eq]
  generalize (lg_sl ([.ref h0]) ++ List.replicate (1 - (lg_sl ([.ref h0])).length) Slot.unset).toArray = ls at hl ⊢
  have hl : lv_has ls 1 [(0, .ref h0)] := hl
  refine lv_aload_n hx hb dX14_fits_0 rfl (lv_at hl 0 rfl) ?_
  refine lv_iconst (v := 0) hx hb dX14_fits_1 (by decide) ?_
  refine va_put (D := G) (ci := 18) (v := .int 0) (ty := .int) (C := RX14) (T := TX14) (N := 16) hx hb hg in_X14 tyX14 tyX14_ok nmX14 hown hK hP hD hS 0 rfl rfl 0 (by decide) (hg _ q1187) (fun _ h9 => h9) rfl (by decide +kernel) rfl rfl (Nat.le_of_ble_eq_true rfl) dX14_fits_2 (fun H_1 locs hP hD hS => ?_)
  have hP : va_P G vwCl ([(h0, .inr (18, [.int 0, .ref l1, .ref l2, .ref l3, .ref l4, .ref l5, .ref l6, .int 0, .int tol, .int ag, .ref m1, .ref m2, .ref m3, .ref m4, .ref m5, .ref m6])), (l1, .inr (3, [.int c1, .ref e1, .int 0])), (l4, .inr (3, [.int c4, .ref e4, .int 0]))]) H_1 := hP
  have hD : va_D A ([(h0, .inr (18, [.int 0, .ref l1, .ref l2, .ref l3, .ref l4, .ref l5, .ref l6, .int 0, .int tol, .int ag, .ref m1, .ref m2, .ref m3, .ref m4, .ref m5, .ref m6])), (l1, .inr (3, [.int c1, .ref e1, .int 0])), (l4, .inr (3, [.int c4, .ref e4, .int 0]))]) := hD
  refine lv_aload_n hx hb dX14_fits_5 rfl (lv_at hl 0 rfl) ?_
  refine lv_iconst (v := (-1)) hx hb dX14_fits_6 (by decide) ?_
  have hPc := hP.sub (ws' := [(h0, .inr (18, [.int 0, .ref l1, .ref l2, .ref l3, .ref l4, .ref l5, .ref l6, .int 0, .int tol, .int ag, .ref m1, .ref m2, .ref m3, .ref m4, .ref m5, .ref m6])), (l1, .inr (3, [.int c1, .ref e1, .int 0])), (l4, .inr (3, [.int c4, .ref e4, .int 0]))]) [0, 1, 2] rfl
  have hKc := hK.sub (tys' := []) [] rfl
  refine va_calli (va_runV (As := [.int (-1)]) (rest := []) ⟨hx, hb, hml, hown, hts⟩ (k_X14_find_ l G z h0 0 l1 l2 l3 l4 l5 l6 tol ag m1 m2 m3 m4 m5 m6 c1 e1 c4 e4 ((-1)) H_1.size ) (cwV 1 hts (lw_goodApp (lw_4 q1688 q1690 qs34 q7) q1691) rfl rfl rfl (by decide +kernel) ⟨Nat.le_of_ble_eq_true rfl, Nat.le_of_ble_eq_true rfl⟩) ⟨PR.blind, va_recv hK hP (ci := 18) (q0 := 0) rfl rfl, PR.of hPc hKc hG hS hA [.ref h0, .int (-1)]⟩ rfl rfl hl.1 rfl (lv_room (Nat.le_of_ble_eq_true rfl)) dX14_fits_7 ⟨Nat.le_of_ble_eq_true rfl, Nat.le_of_ble_eq_true rfl⟩) hS (fun q h9 h => zN.not h9 h) (fun q h => hA q (Nat.le_trans hS.1 h)) (fun r_3 u t_5 H_2 locs ht hvm hw_4 hB hz1 hk1 hS => ?_)
  have hP := hP.grown hk1
  refine W.widen (k := 0) (n := 0) (Nat.le_of_ble_eq_true rfl) (Nat.le_of_ble_eq_true rfl) ?_
  obtain rfl : 1 = r_3 := hw_4.symm
  refine W.widen (k := 0) (n := 0) (Nat.le_of_ble_eq_true rfl) (Nat.le_of_ble_eq_true rfl) ?_
  have hP9 := hP.sub (ws' := [(h0, .inr (18, [.int 0, .ref l1, .ref l2, .ref l3, .ref l4, .ref l5, .ref l6, .int 0, .int tol, .int ag, .ref m1, .ref m2, .ref m3, .ref m4, .ref m5, .ref m6]))]) [0] rfl
  have hD9 := hD.sub (ws' := [(h0, .inr (18, [.int 0, .ref l1, .ref l2, .ref l3, .ref l4, .ref l5, .ref l6, .int 0, .int tol, .int ag, .ref m1, .ref m2, .ref m3, .ref m4, .ref m5, .ref m6]))]) [0] (by decide) rfl
  have hK9 := hK.sub (tys' := []) [] rfl
  exact W.zret (v := 1) hx hb hr rfl (fun t ht hW => ⟨⟨1, (), rfl, rfl, QW.of hP9 hK9 hD9 ht hW.alike⟩, hS.F ht⟩) hS.2.2 dX14_fits_10

abbrev wz_X14_culprit : List Cond := .code yX14_culprit cX14_culprit 3 (Option.some Jvm.ClassFile.FieldType.int) :: lw_good
set_option maxHeartbeats 4000000 in
set_option maxRecDepth 100000 in
theorem k_X14_culprit (l : Launch) (G : va_G) (z : Nat) (h0 : Nat) (th : Int32) (l1 : Nat) (l2 : Nat) (l3 : Nat) (l4 : Nat) (l5 : Nat) (l6 : Nat) (tol : Int32) (ag : Int32) (m1 : Nat) (m2 : Nat) (m3 : Nat) (m4 : Nat) (m5 : Nat) (m6 : Nat) (c1 : Int32) (e1 : Nat) (c4 : Int32) (e4 : Nat) (sz : Nat)  : Met l yX14_culprit wz_X14_culprit ({ frames := 3, cells := 0, slots := 0, locals := 69 }) (va_Pc [.ref h0] (PW G z [(h0, .inr (18, [.int th, .ref l1, .ref l2, .ref l3, .ref l4, .ref l5, .ref l6, .int 0, .int tol, .int ag, .ref m1, .ref m2, .ref m3, .ref m4, .ref m5, .ref m6])), (l1, .inr (3, [.int c1, .ref e1, .int 0])), (l4, .inr (3, [.int c4, .ref e4, .int 0]))] [] sz)) (va_Qi (fun (r : Int32) (_ : Unit) => True) (fun (_ : Unit) (t : State) => QW G [(h0, .inr (18, [.int 1, .ref l1, .ref l2, .ref l3, .ref l4, .ref l5, .ref l6, .int 0, .int tol, .int ag, .ref m1, .ref m2, .ref m3, .ref m4, .ref m5, .ref m6]))] [] (va_A [(h0, .inr (18, [.int th, .ref l1, .ref l2, .ref l3, .ref l4, .ref l5, .ref l6, .int 0, .int tol, .int ag, .ref m1, .ref m2, .ref m3, .ref m4, .ref m5, .ref m6])), (l1, .inr (3, [.int c1, .ref e1, .int 0])), (l4, .inr (3, [.int c4, .ref e4, .int 0]))] sz) t) (va_A [(h0, .inr (18, [.int th, .ref l1, .ref l2, .ref l3, .ref l4, .ref l5, .ref l6, .int 0, .int tol, .int ag, .ref m1, .ref m2, .ref m3, .ref m4, .ref m5, .ref m6])), (l1, .inr (3, [.int c1, .ref e1, .int 0])), (l4, .inr (3, [.int c4, .ref e4, .int 0]))] sz)) 0 0 (va_A [(h0, .inr (18, [.int th, .ref l1, .ref l2, .ref l3, .ref l4, .ref l5, .ref l6, .int 0, .int tol, .int ag, .ref m1, .ref m2, .ref m3, .ref m4, .ref m5, .ref m6])), (l1, .inr (3, [.int c1, .ref e1, .int 0])), (l4, .inr (3, [.int c4, .ref e4, .int 0]))] sz) := by
  refine Met.ofW (cc := cX14_culprit) (maxL := 3) (ret := (Option.some Jvm.ClassFile.FieldType.int)) (by decide) rfl ?_
  intro p e s m args below meth c s₁ B hml hv
  obtain ⟨rfl, rfl, hP, hK, hD0, hG⟩ := hv
  have hx := B.exec
  have hb := B.bytes
  have hr := B.returns
  have hts := atoms_spec (ws := wz_X14_culprit) B.pre
  have hg : ∀ w ∈ lw_good, w.before _ s = true := fun w h => hts w (List.mem_cons_of_mem _ h)
  have hown : s.vm.findClass RX14 = some m.cls := findClass_of_methodNamed B.named
  have hlocks := B.notSynchronized
  have hD := hD0.self (sz := s.heap.size)
  generalize hAe : va_A [(h0, .inr (18, [.int th, .ref l1, .ref l2, .ref l3, .ref l4, .ref l5, .ref l6, .int 0, .int tol, .int ag, .ref m1, .ref m2, .ref m3, .ref m4, .ref m5, .ref m6])), (l1, .inr (3, [.int c1, .ref e1, .int 0])), (l4, .inr (3, [.int c4, .ref e4, .int 0]))] s.heap.size = A at hD hG ⊢
  have hA : ∀ q : Nat, s.heap.size ≤ q → A q := fun q h => by rw [← hAe]; exact Or.inr h
  have hS : va_S A s.heap s.heap [] := va_S.rf
  have hl := lv_entry ([.ref h0]) (n := 3) (Nat.le_of_ble_eq_true rfl)
  rw [lg_entry_eq]
  generalize (lg_sl ([.ref h0]) ++ List.replicate (3 - (lg_sl ([.ref h0])).length) Slot.unset).toArray = ls at hl ⊢
  have hl : lv_has ls 3 [(0, .ref h0)] := hl
  refine lv_aload_n hx hb dX14_culprit_0 rfl (lv_at hl 0 rfl) ?_
  refine lv_aload_n hx hb dX14_culprit_1 rfl (lv_at hl 0 rfl) ?_
  refine lv_iconst (v := (-1)) hx hb dX14_culprit_2 (by decide) ?_
  have hPc := hP.sub (ws' := [(h0, .inr (18, [.int th, .ref l1, .ref l2, .ref l3, .ref l4, .ref l5, .ref l6, .int 0, .int tol, .int ag, .ref m1, .ref m2, .ref m3, .ref m4, .ref m5, .ref m6])), (l1, .inr (3, [.int c1, .ref e1, .int 0])), (l4, .inr (3, [.int c4, .ref e4, .int 0]))]) [0, 1, 2] rfl
  have hKc := hK.sub (tys' := []) [] rfl
  refine va_calli (va_runV (As := [.int (-1)]) (rest := [.ref h0]) ⟨hx, hb, hml, hown, hts⟩ (k_X14_find_ l G z h0 th l1 l2 l3 l4 l5 l6 tol ag m1 m2 m3 m4 m5 m6 c1 e1 c4 e4 ((-1)) s.heap.size ) (cwV 1 hts (lw_goodApp (lw_4 q1688 q1690 qs34 q7) q1691) rfl rfl rfl (by decide +kernel) ⟨Nat.le_of_ble_eq_true rfl, Nat.le_of_ble_eq_true rfl⟩) ⟨PR.blind, va_recv hK hP (ci := 18) (q0 := 0) rfl rfl, PR.of hPc hKc hG hS hA [.ref h0, .int (-1)]⟩ rfl rfl hl.1 rfl (lv_room (Nat.le_of_ble_eq_true rfl)) dX14_culprit_3 ⟨Nat.le_of_ble_eq_true rfl, Nat.le_of_ble_eq_true rfl⟩) hS (fun q h9 h => zN.not h9 h) (fun q h => hA q (Nat.le_trans hS.1 h)) (fun r_2 u t_4 H_1 locs ht hvm hw_3 hB hz1 hk1 hS => ?_)
  have hP := hP.grown hk1
  refine W.widen (k := 0) (n := 0) (Nat.le_of_ble_eq_true rfl) (Nat.le_of_ble_eq_true rfl) ?_
  obtain rfl : 1 = r_2 := hw_3.symm
  refine lv_if_eq (tgt := 13) hx hb dX14_culprit_6 (by decide) (fun c_5 => absurd c_5 (by decide)) (fun c_5 => ?_)
  refine lv_iconst (v := 1) hx hb dX14_culprit_9 (by decide) ?_
  refine lv_goto (tgt := 14) hx hb dX14_culprit_10 (by decide) ?_
  have hPc := hP.sub (ws' := [(h0, .inr (18, [.int th, .ref l1, .ref l2, .ref l3, .ref l4, .ref l5, .ref l6, .int 0, .int tol, .int ag, .ref m1, .ref m2, .ref m3, .ref m4, .ref m5, .ref m6]))]) [0] rfl
  have hKc := hK.sub (tys' := []) [] rfl
  have hDc := hD.sub (ws' := [(h0, .inr (18, [.int th, .ref l1, .ref l2, .ref l3, .ref l4, .ref l5, .ref l6, .int 0, .int tol, .int ag, .ref m1, .ref m2, .ref m3, .ref m4, .ref m5, .ref m6]))]) [0] (by decide) rfl
  have hFc := va_free (wc := [(h0, .inr (18, [.int th, .ref l1, .ref l2, .ref l3, .ref l4, .ref l5, .ref l6, .int 0, .int tol, .int ag, .ref m1, .ref m2, .ref m3, .ref m4, .ref m5, .ref m6]))]) hD hS hA [0] rfl
  refine va_calli (va_runV (As := [.int 1]) (rest := []) ⟨hx, hb, hml, hown, hts⟩ (k_X14_fails_1 l G z h0 th l1 l2 l3 l4 l5 l6 tol ag m1 m2 m3 m4 m5 m6 1 H_1.size (by decide)) (cwV 1 hts (lw_goodApp (lw_4 q1248 q1250 qs23 q7) q1251) rfl rfl rfl (by decide +kernel) ⟨Nat.le_of_ble_eq_true rfl, Nat.le_of_ble_eq_true rfl⟩) ⟨PW.blind, va_recv hK hP (ci := 18) (q0 := 0) rfl rfl, PW.of hPc hKc hDc hG hS hFc [.ref h0, .int 1]⟩ rfl rfl hl.1 rfl (lv_room (Nat.le_of_ble_eq_true rfl)) dX14_culprit_14 ⟨Nat.le_of_ble_eq_true rfl, Nat.le_of_ble_eq_true rfl⟩) hS (fun q _ h => hFc q h) hFc (fun r_7 u t_9 H_6 locs ht hvm hw_8 hB hz1 hk1 hS => ?_)
  obtain ⟨hP, hD, hK⟩ := QW.join (wr := [(l1, .inr (3, [.int c1, .ref e1, .int 0])), (l4, .inr (3, [.int c4, .ref e4, .int 0]))]) (w1 := [(h0, .inr (18, [.int 1, .ref l1, .ref l2, .ref l3, .ref l4, .ref l5, .ref l6, .int 0, .int tol, .int ag, .ref m1, .ref m2, .ref m3, .ref m4, .ref m5, .ref m6]))]) hP hD hK [0] [1, 2] rfl rfl (by decide) (by decide) hk1 hFc ht hvm hB
  have hP : va_P G vwCl ([(l1, .inr (3, [.int c1, .ref e1, .int 0])), (l4, .inr (3, [.int c4, .ref e4, .int 0])), (h0, .inr (18, [.int 1, .ref l1, .ref l2, .ref l3, .ref l4, .ref l5, .ref l6, .int 0, .int tol, .int ag, .ref m1, .ref m2, .ref m3, .ref m4, .ref m5, .ref m6]))]) H_6 := hP
  have hD : va_D A ([(l1, .inr (3, [.int c1, .ref e1, .int 0])), (l4, .inr (3, [.int c4, .ref e4, .int 0])), (h0, .inr (18, [.int 1, .ref l1, .ref l2, .ref l3, .ref l4, .ref l5, .ref l6, .int 0, .int tol, .int ag, .ref m1, .ref m2, .ref m3, .ref m4, .ref m5, .ref m6]))]) := hD
  have hK : va_K G vwCl [] s := hK
  refine W.widen (k := 0) (n := 0) (Nat.le_of_ble_eq_true rfl) (Nat.le_of_ble_eq_true rfl) ?_
  obtain rfl : 1 = r_7 := hw_8.symm
  refine lv_if_eq (tgt := 22) hx hb dX14_culprit_17 (by decide) (fun c_10 => absurd c_10 (by decide)) (fun c_10 => ?_)
  refine lv_iconst (v := 0) hx hb dX14_culprit_20 (by decide) ?_
  refine W.widen (k := 0) (n := 0) (Nat.le_of_ble_eq_true rfl) (Nat.le_of_ble_eq_true rfl) ?_
  have hP9 := hP.sub (ws' := [(h0, .inr (18, [.int 1, .ref l1, .ref l2, .ref l3, .ref l4, .ref l5, .ref l6, .int 0, .int tol, .int ag, .ref m1, .ref m2, .ref m3, .ref m4, .ref m5, .ref m6]))]) [2] rfl
  have hD9 := hD.sub (ws' := [(h0, .inr (18, [.int 1, .ref l1, .ref l2, .ref l3, .ref l4, .ref l5, .ref l6, .int 0, .int tol, .int ag, .ref m1, .ref m2, .ref m3, .ref m4, .ref m5, .ref m6]))]) [2] (by decide) rfl
  have hK9 := hK.sub (tys' := []) [] rfl
  exact W.iret (v := 0) hx hb hr (fun t ht hW => ⟨⟨0, (), rfl, trivial, QW.of hP9 hK9 hD9 ht hW.alike⟩, hS.F ht⟩) hS.2.2 dX14_culprit_21

abbrev wz_X14_years : List Cond := .code yX14_years cX14_years 4 (Option.some Jvm.ClassFile.FieldType.long) :: lw_good
set_option maxHeartbeats 4000000 in
set_option maxRecDepth 100000 in
theorem k_X14_years (l : Launch) (G : va_G) (z : Nat) (h0 : Nat) (th : Int32) (l1 : Nat) (l2 : Nat) (l3 : Nat) (l4 : Nat) (l5 : Nat) (l6 : Nat) (tol : Int32) (ag : Int32) (m1 : Nat) (m2 : Nat) (m3 : Nat) (m4 : Nat) (m5 : Nat) (m6 : Nat) (c1 : Int32) (e1 : Nat) (c4 : Int32) (e4 : Nat) (sz : Nat)  : Met l yX14_years wz_X14_years ({ frames := 3, cells := 0, slots := 0, locals := 69 }) (va_Pc [.ref h0] (PW G z [(h0, .inr (18, [.int th, .ref l1, .ref l2, .ref l3, .ref l4, .ref l5, .ref l6, .int 0, .int tol, .int ag, .ref m1, .ref m2, .ref m3, .ref m4, .ref m5, .ref m6])), (l1, .inr (3, [.int c1, .ref e1, .int 0])), (l4, .inr (3, [.int c4, .ref e4, .int 0]))] [] sz)) (va_Ql (fun (r : Int64) (_ : Unit) => r = 0) (fun (_ : Unit) (t : State) => QW G [(h0, .inr (18, [.int 0, .ref l1, .ref l2, .ref l3, .ref l4, .ref l5, .ref l6, .int 0, .int tol, .int ag, .ref m1, .ref m2, .ref m3, .ref m4, .ref m5, .ref m6]))] [] (va_A [(h0, .inr (18, [.int th, .ref l1, .ref l2, .ref l3, .ref l4, .ref l5, .ref l6, .int 0, .int tol, .int ag, .ref m1, .ref m2, .ref m3, .ref m4, .ref m5, .ref m6])), (l1, .inr (3, [.int c1, .ref e1, .int 0])), (l4, .inr (3, [.int c4, .ref e4, .int 0]))] sz) t) (va_A [(h0, .inr (18, [.int th, .ref l1, .ref l2, .ref l3, .ref l4, .ref l5, .ref l6, .int 0, .int tol, .int ag, .ref m1, .ref m2, .ref m3, .ref m4, .ref m5, .ref m6])), (l1, .inr (3, [.int c1, .ref e1, .int 0])), (l4, .inr (3, [.int c4, .ref e4, .int 0]))] sz)) 0 0 (va_A [(h0, .inr (18, [.int th, .ref l1, .ref l2, .ref l3, .ref l4, .ref l5, .ref l6, .int 0, .int tol, .int ag, .ref m1, .ref m2, .ref m3, .ref m4, .ref m5, .ref m6])), (l1, .inr (3, [.int c1, .ref e1, .int 0])), (l4, .inr (3, [.int c4, .ref e4, .int 0]))] sz) := by
  refine Met.ofW (cc := cX14_years) (maxL := 4) (ret := (Option.some Jvm.ClassFile.FieldType.long)) (by decide) rfl ?_
  intro p e s m args below meth c s₁ B hml hv
  obtain ⟨rfl, rfl, hP, hK, hD0, hG⟩ := hv
  have hx := B.exec
  have hb := B.bytes
  have hr := B.returns
  have hts := atoms_spec (ws := wz_X14_years) B.pre
  have hg : ∀ w ∈ lw_good, w.before _ s = true := fun w h => hts w (List.mem_cons_of_mem _ h)
  have hown : s.vm.findClass RX14 = some m.cls := findClass_of_methodNamed B.named
  have hlocks := B.notSynchronized
  have hD := hD0.self (sz := s.heap.size)
  generalize hAe : va_A [(h0, .inr (18, [.int th, .ref l1, .ref l2, .ref l3, .ref l4, .ref l5, .ref l6, .int 0, .int tol, .int ag, .ref m1, .ref m2, .ref m3, .ref m4, .ref m5, .ref m6])), (l1, .inr (3, [.int c1, .ref e1, .int 0])), (l4, .inr (3, [.int c4, .ref e4, .int 0]))] s.heap.size = A at hD hG ⊢
  have hA : ∀ q : Nat, s.heap.size ≤ q → A q := fun q h => by rw [← hAe]; exact Or.inr h
  have hS : va_S A s.heap s.heap [] := va_S.rf
  have hl := lv_entry ([.ref h0]) (n := 4) (Nat.le_of_ble_eq_true rfl)
  rw [lg_entry_eq]
  generalize (lg_sl ([.ref h0]) ++ List.replicate (4 - (lg_sl ([.ref h0])).length) Slot.unset).toArray = ls at hl ⊢
  have hl : lv_has ls 4 [(0, .ref h0)] := hl
  refine lv_aload_n hx hb dX14_years_0 rfl (lv_at hl 0 rfl) ?_
  refine lv_aload_n hx hb dX14_years_1 rfl (lv_at hl 0 rfl) ?_
  refine lv_iconst (v := (-1)) hx hb dX14_years_2 (by decide) ?_
  have hPc := hP.sub (ws' := [(h0, .inr (18, [.int th, .ref l1, .ref l2, .ref l3, .ref l4, .ref l5, .ref l6, .int 0, .int tol, .int ag, .ref m1, .ref m2, .ref m3, .ref m4, .ref m5, .ref m6])), (l1, .inr (3, [.int c1, .ref e1, .int 0])), (l4, .inr (3, [.int c4, .ref e4, .int 0]))]) [0, 1, 2] rfl
  have hKc := hK.sub (tys' := []) [] rfl
  refine va_calli (va_runV (As := [.int (-1)]) (rest := [.ref h0]) ⟨hx, hb, hml, hown, hts⟩ (k_X14_find_ l G z h0 th l1 l2 l3 l4 l5 l6 tol ag m1 m2 m3 m4 m5 m6 c1 e1 c4 e4 ((-1)) s.heap.size ) (cwV 1 hts (lw_goodApp (lw_4 q1688 q1690 qs34 q7) q1691) rfl rfl rfl (by decide +kernel) ⟨Nat.le_of_ble_eq_true rfl, Nat.le_of_ble_eq_true rfl⟩) ⟨PR.blind, va_recv hK hP (ci := 18) (q0 := 0) rfl rfl, PR.of hPc hKc hG hS hA [.ref h0, .int (-1)]⟩ rfl rfl hl.1 rfl (lv_room (Nat.le_of_ble_eq_true rfl)) dX14_years_3 ⟨Nat.le_of_ble_eq_true rfl, Nat.le_of_ble_eq_true rfl⟩) hS (fun q h9 h => zN.not h9 h) (fun q h => hA q (Nat.le_trans hS.1 h)) (fun r_2 u t_4 H_1 locs ht hvm hw_3 hB hz1 hk1 hS => ?_)
  have hP := hP.grown hk1
  refine W.widen (k := 0) (n := 0) (Nat.le_of_ble_eq_true rfl) (Nat.le_of_ble_eq_true rfl) ?_
  obtain rfl : 1 = r_2 := hw_3.symm
  refine lv_if_eq (tgt := 13) hx hb dX14_years_6 (by decide) (fun c_5 => absurd c_5 (by decide)) (fun c_5 => ?_)
  refine lv_iconst (v := 0) hx hb dX14_years_9 (by decide) ?_
  refine lv_goto (tgt := 14) hx hb dX14_years_10 (by decide) ?_
  have hPc := hP.sub (ws' := [(h0, .inr (18, [.int th, .ref l1, .ref l2, .ref l3, .ref l4, .ref l5, .ref l6, .int 0, .int tol, .int ag, .ref m1, .ref m2, .ref m3, .ref m4, .ref m5, .ref m6]))]) [0] rfl
  have hKc := hK.sub (tys' := []) [] rfl
  have hDc := hD.sub (ws' := [(h0, .inr (18, [.int th, .ref l1, .ref l2, .ref l3, .ref l4, .ref l5, .ref l6, .int 0, .int tol, .int ag, .ref m1, .ref m2, .ref m3, .ref m4, .ref m5, .ref m6]))]) [0] (by decide) rfl
  have hFc := va_free (wc := [(h0, .inr (18, [.int th, .ref l1, .ref l2, .ref l3, .ref l4, .ref l5, .ref l6, .int 0, .int tol, .int ag, .ref m1, .ref m2, .ref m3, .ref m4, .ref m5, .ref m6]))]) hD hS hA [0] rfl
  refine va_calli (va_runV (As := [.int 0]) (rest := []) ⟨hx, hb, hml, hown, hts⟩ (k_X14_fails_0 l G z h0 th l1 l2 l3 l4 l5 l6 tol ag m1 m2 m3 m4 m5 m6 H_1.size ) (cwV 1 hts (lw_goodApp (lw_4 q1248 q1250 qs23 q7) q1251) rfl rfl rfl (by decide +kernel) ⟨Nat.le_of_ble_eq_true rfl, Nat.le_of_ble_eq_true rfl⟩) ⟨PW.blind, va_recv hK hP (ci := 18) (q0 := 0) rfl rfl, PW.of hPc hKc hDc hG hS hFc [.ref h0, .int 0]⟩ rfl rfl hl.1 rfl (lv_room (Nat.le_of_ble_eq_true rfl)) dX14_years_14 ⟨Nat.le_of_ble_eq_true rfl, Nat.le_of_ble_eq_true rfl⟩) hS (fun q _ h => hFc q h) hFc (fun r_7 u t_9 H_6 locs ht hvm hw_8 hB hz1 hk1 hS => ?_)
  obtain ⟨hP, hD, hK⟩ := QW.join (wr := [(l1, .inr (3, [.int c1, .ref e1, .int 0])), (l4, .inr (3, [.int c4, .ref e4, .int 0]))]) (w1 := [(h0, .inr (18, [.int 0, .ref l1, .ref l2, .ref l3, .ref l4, .ref l5, .ref l6, .int 0, .int tol, .int ag, .ref m1, .ref m2, .ref m3, .ref m4, .ref m5, .ref m6]))]) hP hD hK [0] [1, 2] rfl rfl (by decide) (by decide) hk1 hFc ht hvm hB
  have hP : va_P G vwCl ([(l1, .inr (3, [.int c1, .ref e1, .int 0])), (l4, .inr (3, [.int c4, .ref e4, .int 0])), (h0, .inr (18, [.int 0, .ref l1, .ref l2, .ref l3, .ref l4, .ref l5, .ref l6, .int 0, .int tol, .int ag, .ref m1, .ref m2, .ref m3, .ref m4, .ref m5, .ref m6]))]) H_6 := hP
  have hD : va_D A ([(l1, .inr (3, [.int c1, .ref e1, .int 0])), (l4, .inr (3, [.int c4, .ref e4, .int 0])), (h0, .inr (18, [.int 0, .ref l1, .ref l2, .ref l3, .ref l4, .ref l5, .ref l6, .int 0, .int tol, .int ag, .ref m1, .ref m2, .ref m3, .ref m4, .ref m5, .ref m6]))]) := hD
  have hK : va_K G vwCl [] s := hK
  refine W.widen (k := 0) (n := 0) (Nat.le_of_ble_eq_true rfl) (Nat.le_of_ble_eq_true rfl) ?_
  obtain rfl : 0 = r_7 := hw_8.symm
  refine lv_if_eq (tgt := 22) hx hb dX14_years_17 (by decide) (fun c_10 => ?_) (fun c_10 => absurd rfl c_10)
  refine lv_lconst (v := 0) hx hb dX14_years_22 (by decide) ?_
  refine lv_lstore_n (lv' := [(1, .long 0), (0, .ref h0)]) hx hb dX14_years_23 rfl hl (by decide) rfl (fun ls hl => ?_)
  refine lv_iconst (v := 0) hx hb dX14_years_24 (by decide) ?_
  refine lv_istore_n (lv' := [(3, .int 0), (1, .long 0), (0, .ref h0)]) hx hb dX14_years_25 rfl hl (by decide) rfl (fun ls hl => ?_)
  refine lv_iload_n hx hb dX14_years_26 rfl (lv_at hl 0 rfl) ?_
  refine lv_aload_n hx hb dX14_years_27 rfl (lv_at hl 2 rfl) ?_
  refine va_get (D := G) (ci := 18) (v := .ref l4) (C := RX14) (T := TX14) (N := 16) hx hb hg in_X14 hown hK hP 2 rfl rfl 4 (by decide) (hg _ q1191) (fun _ h9 => h9) rfl dX14_years_28 ?_
  have hPc := hP.sub (ws' := [(l4, .inr (3, [.int c4, .ref e4, .int 0]))]) [1] rfl
  have hKc := hK.sub (tys' := []) [] rfl
  refine va_calli (va_runV (As := []) (rest := [.int 0]) ⟨hx, hb, hml, hown, hts⟩ (k_Jx4a65c_size_8abf5 l G z l4 c4 e4 0 H_6.size ) (cwV 0 hts (lw_goodApp (lw_4 q1247 q161 q162 q4) q163) rfl rfl rfl (by decide +kernel) ⟨Nat.le_of_ble_eq_true rfl, Nat.le_of_ble_eq_true rfl⟩) ⟨PR.blind, va_recv hK hP (ci := 3) (q0 := 1) rfl rfl, PR.of hPc hKc hG hS hA [.ref l4]⟩ rfl rfl hl.1 rfl (lv_room (Nat.le_of_ble_eq_true rfl)) dX14_years_31 ⟨Nat.le_of_ble_eq_true rfl, Nat.le_of_ble_eq_true rfl⟩) hS (fun q h9 h => zN.not h9 h) (fun q h => hA q (Nat.le_trans hS.1 h)) (fun r_12 u t_14 H_11 locs ht hvm hw_13 hB hz1 hk1 hS => ?_)
  have hP := hP.grown hk1
  refine W.widen (k := 0) (n := 0) (Nat.le_of_ble_eq_true rfl) (Nat.le_of_ble_eq_true rfl) ?_
  obtain rfl : 0 = r_12 := hw_13.symm
  refine lv_icmp_ge (tgt := 62) hx hb dX14_years_34 (by decide) (fun c_15 => ?_) (fun c_15 => absurd (by decide) c_15)
  refine lv_lload_n hx hb dX14_years_62 rfl (lv_at hl 1 rfl) ?_
  refine W.widen (k := 0) (n := 0) (Nat.le_of_ble_eq_true rfl) (Nat.le_of_ble_eq_true rfl) ?_
  have hP9 := hP.sub (ws' := [(h0, .inr (18, [.int 0, .ref l1, .ref l2, .ref l3, .ref l4, .ref l5, .ref l6, .int 0, .int tol, .int ag, .ref m1, .ref m2, .ref m3, .ref m4, .ref m5, .ref m6]))]) [2] rfl
  have hD9 := hD.sub (ws' := [(h0, .inr (18, [.int 0, .ref l1, .ref l2, .ref l3, .ref l4, .ref l5, .ref l6, .int 0, .int tol, .int ag, .ref m1, .ref m2, .ref m3, .ref m4, .ref m5, .ref m6]))]) [2] (by decide) rfl
  have hK9 := hK.sub (tys' := []) [] rfl
  exact W.lret (v := 0) hx hb hr (fun t ht hW => ⟨⟨0, (), rfl, rfl, QW.of hP9 hK9 hD9 ht hW.alike⟩, hS.F ht⟩) hS.2.2 dX14_years_63

abbrev wz_X14_used : List Cond := .code yX14_used cX14_used 4 (Option.some Jvm.ClassFile.FieldType.int) :: lw_good
set_option maxHeartbeats 4000000 in
set_option maxRecDepth 100000 in
theorem k_X14_used (l : Launch) (G : va_G) (z : Nat) (h0 : Nat) (th : Int32) (l1 : Nat) (l2 : Nat) (l3 : Nat) (l4 : Nat) (l5 : Nat) (l6 : Nat) (tol : Int32) (ag : Int32) (m1 : Nat) (m2 : Nat) (m3 : Nat) (m4 : Nat) (m5 : Nat) (m6 : Nat) (c4 : Int32) (e4 : Nat) (sz : Nat)  : Met l yX14_used wz_X14_used ({ frames := 3, cells := 1, slots := 4, locals := 61 }) (va_Pc [.ref h0] (PW G z [(h0, .inr (18, [.int th, .ref l1, .ref l2, .ref l3, .ref l4, .ref l5, .ref l6, .int 0, .int tol, .int ag, .ref m1, .ref m2, .ref m3, .ref m4, .ref m5, .ref m6])), (l4, .inr (3, [.int c4, .ref e4, .int 0]))] [] sz)) (va_Qi (fun (r : Int32) (_ : Unit) => r = 0) (fun (_ : Unit) (t : State) => QW G [(h0, .inr (18, [.int th, .ref l1, .ref l2, .ref l3, .ref l4, .ref l5, .ref l6, .int 0, .int tol, .int ag, .ref m1, .ref m2, .ref m3, .ref m4, .ref m5, .ref m6])), (l4, .inr (3, [.int c4, .ref e4, .int 0]))] [] (va_A [(h0, .inr (18, [.int th, .ref l1, .ref l2, .ref l3, .ref l4, .ref l5, .ref l6, .int 0, .int tol, .int ag, .ref m1, .ref m2, .ref m3, .ref m4, .ref m5, .ref m6])), (l4, .inr (3, [.int c4, .ref e4, .int 0]))] sz) t) (va_A [(h0, .inr (18, [.int th, .ref l1, .ref l2, .ref l3, .ref l4, .ref l5, .ref l6, .int 0, .int tol, .int ag, .ref m1, .ref m2, .ref m3, .ref m4, .ref m5, .ref m6])), (l4, .inr (3, [.int c4, .ref e4, .int 0]))] sz)) 1 4 (va_A [(h0, .inr (18, [.int th, .ref l1, .ref l2, .ref l3, .ref l4, .ref l5, .ref l6, .int 0, .int tol, .int ag, .ref m1, .ref m2, .ref m3, .ref m4, .ref m5, .ref m6])), (l4, .inr (3, [.int c4, .ref e4, .int 0]))] sz) := by
  refine Met.ofW (cc := cX14_used) (maxL := 4) (ret := (Option.some Jvm.ClassFile.FieldType.int)) (by decide) rfl ?_
  intro p e s m args below meth c s₁ B hml hv
  obtain ⟨rfl, rfl, hP, hK, hD0, hG⟩ := hv
  have hx := B.exec
  have hb := B.bytes
  have hr := B.returns
  have hts := atoms_spec (ws := wz_X14_used) B.pre
  have hg : ∀ w ∈ lw_good, w.before _ s = true := fun w h => hts w (List.mem_cons_of_mem _ h)
  have hown : s.vm.findClass RX14 = some m.cls := findClass_of_methodNamed B.named
  have hlocks := B.notSynchronized
  have hD := hD0.self (sz := s.heap.size)
  generalize hAe : va_A [(h0, .inr (18, [.int th, .ref l1, .ref l2, .ref l3, .ref l4, .ref l5, .ref l6, .int 0, .int tol, .int ag, .ref m1, .ref m2, .ref m3, .ref m4, .ref m5, .ref m6])), (l4, .inr (3, [.int c4, .ref e4, .int 0]))] s.heap.size = A at hD hG ⊢
  have hA : ∀ q : Nat, s.heap.size ≤ q → A q := fun q h => by rw [← hAe]; exact Or.inr h
  have hS : va_S A s.heap s.heap [] := va_S.rf
  have hl := lv_entry ([.ref h0]) (n := 4) (Nat.le_of_ble_eq_true rfl)
  rw [lg_entry_eq]
  generalize (lg_sl ([.ref h0]) ++ List.replicate (4 - (lg_sl ([.ref h0])).length) Slot.unset).toArray = ls at hl ⊢
  have hl : lv_has ls 4 [(0, .ref h0)] := hl
  refine lv_iconst (v := 0) hx hb dX14_used_0 (by decide) ?_
  refine lv_istore_n (lv' := [(1, .int 0), (0, .ref h0)]) hx hb dX14_used_1 rfl hl (by decide) rfl (fun ls hl => ?_)
  refine lv_aload_n hx hb dX14_used_2 rfl (lv_at hl 1 rfl) ?_
  refine va_get (D := G) (ci := 18) (v := .ref l4) (C := RX14) (T := TX14) (N := 16) hx hb hg in_X14 hown hK hP 0 rfl rfl 4 (by decide) (hg _ q1191) (fun _ h9 => h9) rfl dX14_used_3 ?_
  have hPc := hP.sub (ws' := [(l4, .inr (3, [.int c4, .ref e4, .int 0]))]) [1] rfl
  have hKc := hK.sub (tys' := []) [] rfl
  have hDc := hD.sub (ws' := [(l4, .inr (3, [.int c4, .ref e4, .int 0]))]) [1] (by decide) rfl
  have hFc := va_free (wc := [(l4, .inr (3, [.int c4, .ref e4, .int 0]))]) hD hS hA [1] rfl
  refine va_callr (va_runV (As := []) (rest := []) ⟨hx, hb, hml, hown, hts⟩ (k_Jx4a65c_iterator_32c93 l G z l4 c4 e4 0 s.heap.size ) (cwV 0 hts (lw_goodApp (lw_4 q1492 q1354 q1355 q4) q1356) rfl rfl rfl (by decide +kernel) ⟨Nat.le_of_ble_eq_true rfl, Nat.le_of_ble_eq_true rfl⟩) ⟨PW.blind, va_recv hK hP (ci := 3) (q0 := 1) rfl rfl, PW.of hPc hKc hDc hG hS hFc [.ref l4]⟩ rfl rfl hl.1 rfl (lv_room (Nat.le_of_ble_eq_true rfl)) dX14_used_6 ⟨Nat.le_of_ble_eq_true rfl, Nat.le_of_ble_eq_true rfl⟩) hS (fun q _ h => hFc q h) hFc (fun u r_2 t_4 H_1 locs ht hvm hw_3 hB hz1 hk1 hS => ?_)
  obtain ⟨hP, hD, hK⟩ := QW.join (wr := [(h0, .inr (18, [.int th, .ref l1, .ref l2, .ref l3, .ref l4, .ref l5, .ref l6, .int 0, .int tol, .int ag, .ref m1, .ref m2, .ref m3, .ref m4, .ref m5, .ref m6]))]) (w1 := [(l4, .inr (3, [.int c4, .ref e4, .int 0])), (r_2, .inr (2, [.int 0, .int (-1), .int c4, .ref l4]))]) hP hD hK [1] [0] rfl rfl (by decide) (by decide) hk1 hFc ht hvm hB
  have hP : va_P G vwCl ([(h0, .inr (18, [.int th, .ref l1, .ref l2, .ref l3, .ref l4, .ref l5, .ref l6, .int 0, .int tol, .int ag, .ref m1, .ref m2, .ref m3, .ref m4, .ref m5, .ref m6])), (l4, .inr (3, [.int c4, .ref e4, .int 0])), (r_2, .inr (2, [.int 0, .int (-1), .int c4, .ref l4]))]) H_1 := hP
  have hD : va_D A ([(h0, .inr (18, [.int th, .ref l1, .ref l2, .ref l3, .ref l4, .ref l5, .ref l6, .int 0, .int tol, .int ag, .ref m1, .ref m2, .ref m3, .ref m4, .ref m5, .ref m6])), (l4, .inr (3, [.int c4, .ref e4, .int 0])), (r_2, .inr (2, [.int 0, .int (-1), .int c4, .ref l4]))]) := hD
  have hK : va_K G vwCl [] s := hK
  refine W.widen (k := 1) (n := 4) (Nat.le_of_ble_eq_true rfl) (Nat.le_of_ble_eq_true rfl) ?_
  refine lv_astore_n (lv' := [(2, .ref r_2), (1, .int 0), (0, .ref h0)]) hx hb dX14_used_9 rfl hl (by decide) rfl (fun ls hl => ?_)
  refine lv_aload_n hx hb dX14_used_10 rfl (lv_at hl 0 rfl) ?_
  have hPc := hP.sub (ws' := [(r_2, .inr (2, [.int 0, .int (-1), .int c4, .ref l4])), (l4, .inr (3, [.int c4, .ref e4, .int 0]))]) [2, 1] rfl
  have hKc := hK.sub (tys' := []) [] rfl
  refine va_callFi (va_runF (As := []) (rest := []) (hK.1 2 _ rfl).2 ⟨hx, hb, hml, hown, hts⟩ (k_Jx35411_hasNext_aae02 l G z r_2 (.int (-1)) (.int c4) l4 c4 e4 H_1.size ) (va_cwF 0 hts (lw_goodApp (lw_4 q1494 q1381 q1383 q26) q1385) rfl rfl rfl ⟨hG.2.2.2.2.1 _ qf1379, hG.2.2.2.2.1 _ qf1378, hG.2.2.2.2.1 _ qf1384, hG.2.2.2.2.1 _ qf1382, hG.2.2.2.2.1 _ qf1380⟩ (by decide +kernel) ⟨Nat.le_of_ble_eq_true rfl, Nat.le_of_ble_eq_true rfl⟩) ⟨PR.blind, va_recv hK hP (ci := 2) (q0 := 2) rfl rfl, PR.of hPc hKc hG hS hA [.ref r_2]⟩ rfl rfl hl.1 rfl (lv_room (Nat.le_of_ble_eq_true rfl)) dX14_used_11 ⟨Nat.le_of_ble_eq_true rfl, Nat.le_of_ble_eq_true rfl⟩) hS (fun q h9 h => zN.not h9 h) (fun q h => hA q (Nat.le_trans hS.1 h)) (fun r_6 u t_8 H_5 locs ht hvm hw_7 hB hz1 hk1 hS => ?_)
  have hP := hP.grown hk1
  refine W.widen (k := 1) (n := 4) (Nat.le_of_ble_eq_true rfl) (Nat.le_of_ble_eq_true rfl) ?_
  obtain rfl : 0 = r_6 := hw_7.symm
  refine lv_if_eq (tgt := 42) hx hb dX14_used_16 (by decide) (fun c_9 => ?_) (fun c_9 => absurd rfl c_9)
  refine lv_iload_n hx hb dX14_used_42 rfl (lv_at hl 1 rfl) ?_
  refine W.widen (k := 1) (n := 4) (Nat.le_of_ble_eq_true rfl) (Nat.le_of_ble_eq_true rfl) ?_
  have hP9 := hP.sub (ws' := [(h0, .inr (18, [.int th, .ref l1, .ref l2, .ref l3, .ref l4, .ref l5, .ref l6, .int 0, .int tol, .int ag, .ref m1, .ref m2, .ref m3, .ref m4, .ref m5, .ref m6])), (l4, .inr (3, [.int c4, .ref e4, .int 0]))]) [0, 1] rfl
  have hD9 := hD.sub (ws' := [(h0, .inr (18, [.int th, .ref l1, .ref l2, .ref l3, .ref l4, .ref l5, .ref l6, .int 0, .int tol, .int ag, .ref m1, .ref m2, .ref m3, .ref m4, .ref m5, .ref m6])), (l4, .inr (3, [.int c4, .ref e4, .int 0]))]) [0, 1] (by decide) rfl
  have hK9 := hK.sub (tys' := []) [] rfl
  exact W.iret (v := 0) hx hb hr (fun t ht hW => ⟨⟨0, (), rfl, rfl, QW.of hP9 hK9 hD9 ht hW.alike⟩, hS.F ht⟩) hS.2.2 dX14_used_43

abbrev wz_X14_usedShare : List Cond := .code yX14_usedShare cX14_usedShare 1 (Option.some Jvm.ClassFile.FieldType.float) :: lw_good
set_option maxHeartbeats 4000000 in
set_option maxRecDepth 100000 in
theorem k_X14_usedShare (l : Launch) (G : va_G) (z : Nat) (h0 : Nat) (th : Int32) (l1 : Nat) (l2 : Nat) (l3 : Nat) (l4 : Nat) (l5 : Nat) (l6 : Nat) (tol : Int32) (ag : Int32) (m1 : Nat) (m2 : Nat) (m3 : Nat) (m4 : Nat) (m5 : Nat) (m6 : Nat) (sz : Nat)  : Met l yX14_usedShare wz_X14_usedShare ({ frames := 1, cells := 0, slots := 0, locals := 21 }) (va_Pc [.ref h0] (PW G z [(h0, .inr (18, [.int th, .ref l1, .ref l2, .ref l3, .ref l4, .ref l5, .ref l6, .int 0, .int tol, .int ag, .ref m1, .ref m2, .ref m3, .ref m4, .ref m5, .ref m6]))] [] sz)) (va_Qf (fun (r : UInt32) (_ : Unit) => True) (fun (_ : Unit) (t : State) => QW G [(h0, .inr (18, [.int 1, .ref l1, .ref l2, .ref l3, .ref l4, .ref l5, .ref l6, .int 0, .int tol, .int ag, .ref m1, .ref m2, .ref m3, .ref m4, .ref m5, .ref m6]))] [] (va_A [(h0, .inr (18, [.int th, .ref l1, .ref l2, .ref l3, .ref l4, .ref l5, .ref l6, .int 0, .int tol, .int ag, .ref m1, .ref m2, .ref m3, .ref m4, .ref m5, .ref m6]))] sz) t) (va_A [(h0, .inr (18, [.int th, .ref l1, .ref l2, .ref l3, .ref l4, .ref l5, .ref l6, .int 0, .int tol, .int ag, .ref m1, .ref m2, .ref m3, .ref m4, .ref m5, .ref m6]))] sz)) 0 0 (va_A [(h0, .inr (18, [.int th, .ref l1, .ref l2, .ref l3, .ref l4, .ref l5, .ref l6, .int 0, .int tol, .int ag, .ref m1, .ref m2, .ref m3, .ref m4, .ref m5, .ref m6]))] sz) := by
  refine Met.ofW (cc := cX14_usedShare) (maxL := 1) (ret := (Option.some Jvm.ClassFile.FieldType.float)) (by decide) rfl ?_
  intro p e s m args below meth c s₁ B hml hv
  obtain ⟨rfl, rfl, hP, hK, hD0, hG⟩ := hv
  have hx := B.exec
  have hb := B.bytes
  have hr := B.returns
  have hts := atoms_spec (ws := wz_X14_usedShare) B.pre
  have hg : ∀ w ∈ lw_good, w.before _ s = true := fun w h => hts w (List.mem_cons_of_mem _ h)
  have hown : s.vm.findClass RX14 = some m.cls := findClass_of_methodNamed B.named
  have hlocks := B.notSynchronized
  have hD := hD0.self (sz := s.heap.size)
  generalize hAe : va_A [(h0, .inr (18, [.int th, .ref l1, .ref l2, .ref l3, .ref l4, .ref l5, .ref l6, .int 0, .int tol, .int ag, .ref m1, .ref m2, .ref m3, .ref m4, .ref m5, .ref m6]))] s.heap.size = A at hD hG ⊢
  have hA : ∀ q : Nat, s.heap.size ≤ q → A q := fun q h => by rw [← hAe]; exact Or.inr h
  have hS : va_S A s.heap s.heap [] := va_S.rf
  have hl := lv_entry ([.ref h0]) (n := 1) (Nat.le_of_ble_eq_true rfl)
  rw [lg_entry_eq]
  generalize (lg_sl ([.ref h0]) ++ List.replicate (1 - (lg_sl ([.ref h0])).length) Slot.unset).toArray = ls at hl ⊢
  have hl : lv_has ls 1 [(0, .ref h0)] := hl
  refine lv_aload_n hx hb dX14_usedShare_0 rfl (lv_at hl 0 rfl) ?_
  refine lv_aload_n hx hb dX14_usedShare_1 rfl (lv_at hl 0 rfl) ?_
  refine va_get (D := G) (ci := 18) (v := .int 0) (C := RX14) (T := TX14) (N := 16) hx hb hg in_X14 hown hK hP 0 rfl rfl 7 (by decide) (hg _ q1194) (fun _ h9 => h9) rfl dX14_usedShare_2 ?_
  refine lv_if_ne (tgt := 12) hx hb dX14_usedShare_5 (by decide) (fun c_1 => absurd rfl c_1) (fun c_1 => ?_)
  refine lv_iconst (v := 1) hx hb dX14_usedShare_8 (by decide) ?_
  refine lv_goto (tgt := 13) hx hb dX14_usedShare_9 (by decide) ?_
  have hPc := hP.sub (ws' := [(h0, .inr (18, [.int th, .ref l1, .ref l2, .ref l3, .ref l4, .ref l5, .ref l6, .int 0, .int tol, .int ag, .ref m1, .ref m2, .ref m3, .ref m4, .ref m5, .ref m6]))]) [0] rfl
  have hKc := hK.sub (tys' := []) [] rfl
  have hDc := hD.sub (ws' := [(h0, .inr (18, [.int th, .ref l1, .ref l2, .ref l3, .ref l4, .ref l5, .ref l6, .int 0, .int tol, .int ag, .ref m1, .ref m2, .ref m3, .ref m4, .ref m5, .ref m6]))]) [0] (by decide) rfl
  have hFc := va_free (wc := [(h0, .inr (18, [.int th, .ref l1, .ref l2, .ref l3, .ref l4, .ref l5, .ref l6, .int 0, .int tol, .int ag, .ref m1, .ref m2, .ref m3, .ref m4, .ref m5, .ref m6]))]) hD hS hA [0] rfl
  refine va_calli (va_runV (As := [.int 1]) (rest := []) ⟨hx, hb, hml, hown, hts⟩ (k_X14_fails_1 l G z h0 th l1 l2 l3 l4 l5 l6 tol ag m1 m2 m3 m4 m5 m6 1 s.heap.size (by decide)) (cwV 1 hts (lw_goodApp (lw_4 q1248 q1250 qs23 q7) q1251) rfl rfl rfl (by decide +kernel) ⟨Nat.le_of_ble_eq_true rfl, Nat.le_of_ble_eq_true rfl⟩) ⟨PW.blind, va_recv hK hP (ci := 18) (q0 := 0) rfl rfl, PW.of hPc hKc hDc hG hS hFc [.ref h0, .int 1]⟩ rfl rfl hl.1 rfl (lv_room (Nat.le_of_ble_eq_true rfl)) dX14_usedShare_13 ⟨Nat.le_of_ble_eq_true rfl, Nat.le_of_ble_eq_true rfl⟩) hS (fun q _ h => hFc q h) hFc (fun r_3 u t_5 H_2 locs ht hvm hw_4 hB hz1 hk1 hS => ?_)
  obtain ⟨hP, hD, hK⟩ := QW.join (wr := []) (w1 := [(h0, .inr (18, [.int 1, .ref l1, .ref l2, .ref l3, .ref l4, .ref l5, .ref l6, .int 0, .int tol, .int ag, .ref m1, .ref m2, .ref m3, .ref m4, .ref m5, .ref m6]))]) hP hD hK [0] [] rfl rfl (by decide) (by decide) hk1 hFc ht hvm hB
  have hP : va_P G vwCl ([(h0, .inr (18, [.int 1, .ref l1, .ref l2, .ref l3, .ref l4, .ref l5, .ref l6, .int 0, .int tol, .int ag, .ref m1, .ref m2, .ref m3, .ref m4, .ref m5, .ref m6]))]) H_2 := hP
  have hD : va_D A ([(h0, .inr (18, [.int 1, .ref l1, .ref l2, .ref l3, .ref l4, .ref l5, .ref l6, .int 0, .int tol, .int ag, .ref m1, .ref m2, .ref m3, .ref m4, .ref m5, .ref m6]))]) := hD
  have hK : va_K G vwCl [] s := hK
  refine W.widen (k := 0) (n := 0) (Nat.le_of_ble_eq_true rfl) (Nat.le_of_ble_eq_true rfl) ?_
  obtain rfl : 1 = r_3 := hw_4.symm
  refine lv_if_eq (tgt := 23) hx hb dX14_usedShare_16 (by decide) (fun c_6 => absurd c_6 (by decide)) (fun c_6 => ?_)
  refine lv_fconst0 hx hb dX14_usedShare_19 ?_
  refine lv_goto (tgt := 34) hx hb dX14_usedShare_20 (by decide) ?_
  refine W.widen (k := 0) (n := 0) (Nat.le_of_ble_eq_true rfl) (Nat.le_of_ble_eq_true rfl) ?_
  have hP9 := hP.sub (ws' := [(h0, .inr (18, [.int 1, .ref l1, .ref l2, .ref l3, .ref l4, .ref l5, .ref l6, .int 0, .int tol, .int ag, .ref m1, .ref m2, .ref m3, .ref m4, .ref m5, .ref m6]))]) [0] rfl
  have hD9 := hD.sub (ws' := [(h0, .inr (18, [.int 1, .ref l1, .ref l2, .ref l3, .ref l4, .ref l5, .ref l6, .int 0, .int tol, .int ag, .ref m1, .ref m2, .ref m3, .ref m4, .ref m5, .ref m6]))]) [0] (by decide) rfl
  have hK9 := hK.sub (tys' := []) [] rfl
  exact W.fret (v := FP.fconst0) hx hb hr (fun t ht hW => ⟨⟨FP.fconst0, (), rfl, trivial, QW.of hP9 hK9 hD9 ht hW.alike⟩, hS.F ht⟩) hS.2.2 dX14_usedShare_34

abbrev wz_X14_meanAge : List Cond := .code yX14_meanAge cX14_meanAge 6 (Option.some Jvm.ClassFile.FieldType.double) :: lw_good
set_option maxHeartbeats 4000000 in
set_option maxRecDepth 100000 in
theorem k_X14_meanAge (l : Launch) (G : va_G) (z : Nat) (h0 : Nat) (th : Int32) (l1 : Nat) (l2 : Nat) (l3 : Nat) (l4 : Nat) (l5 : Nat) (l6 : Nat) (tol : Int32) (ag : Int32) (m1 : Nat) (m2 : Nat) (m3 : Nat) (m4 : Nat) (m5 : Nat) (m6 : Nat) (c4 : Int32) (e4 : Nat) (sz : Nat)  : Met l yX14_meanAge wz_X14_meanAge ({ frames := 4, cells := 2, slots := 8, locals := 84 }) (va_Pc [.ref h0] (PW G z [(h0, .inr (18, [.int th, .ref l1, .ref l2, .ref l3, .ref l4, .ref l5, .ref l6, .int 0, .int tol, .int ag, .ref m1, .ref m2, .ref m3, .ref m4, .ref m5, .ref m6])), (l4, .inr (3, [.int c4, .ref e4, .int 0]))] [] sz)) (va_Qd (fun (r : UInt64) (_ : Unit) => True) (fun (_ : Unit) (t : State) => QW G [(h0, .inr (18, [.int 1, .ref l1, .ref l2, .ref l3, .ref l4, .ref l5, .ref l6, .int 0, .int tol, .int ag, .ref m1, .ref m2, .ref m3, .ref m4, .ref m5, .ref m6]))] [] (va_A [(h0, .inr (18, [.int th, .ref l1, .ref l2, .ref l3, .ref l4, .ref l5, .ref l6, .int 0, .int tol, .int ag, .ref m1, .ref m2, .ref m3, .ref m4, .ref m5, .ref m6])), (l4, .inr (3, [.int c4, .ref e4, .int 0]))] sz) t) (va_A [(h0, .inr (18, [.int th, .ref l1, .ref l2, .ref l3, .ref l4, .ref l5, .ref l6, .int 0, .int tol, .int ag, .ref m1, .ref m2, .ref m3, .ref m4, .ref m5, .ref m6])), (l4, .inr (3, [.int c4, .ref e4, .int 0]))] sz)) 2 8 (va_A [(h0, .inr (18, [.int th, .ref l1, .ref l2, .ref l3, .ref l4, .ref l5, .ref l6, .int 0, .int tol, .int ag, .ref m1, .ref m2, .ref m3, .ref m4, .ref m5, .ref m6])), (l4, .inr (3, [.int c4, .ref e4, .int 0]))] sz) := by
  refine Met.ofW (cc := cX14_meanAge) (maxL := 6) (ret := (Option.some Jvm.ClassFile.FieldType.double)) (by decide) rfl ?_
  intro p e s m args below meth c s₁ B hml hv
  obtain ⟨rfl, rfl, hP, hK, hD0, hG⟩ := hv
  have hx := B.exec
  have hb := B.bytes
  have hr := B.returns
  have hts := atoms_spec (ws := wz_X14_meanAge) B.pre
  have hg : ∀ w ∈ lw_good, w.before _ s = true := fun w h => hts w (List.mem_cons_of_mem _ h)
  have hown : s.vm.findClass RX14 = some m.cls := findClass_of_methodNamed B.named
  have hlocks := B.notSynchronized
  have hD := hD0.self (sz := s.heap.size)
  generalize hAe : va_A [(h0, .inr (18, [.int th, .ref l1, .ref l2, .ref l3, .ref l4, .ref l5, .ref l6, .int 0, .int tol, .int ag, .ref m1, .ref m2, .ref m3, .ref m4, .ref m5, .ref m6])), (l4, .inr (3, [.int c4, .ref e4, .int 0]))] s.heap.size = A at hD hG ⊢
  have hA : ∀ q : Nat, s.heap.size ≤ q → A q := fun q h => by rw [← hAe]; exact Or.inr h
  have hS : va_S A s.heap s.heap [] := va_S.rf
  have hl := lv_entry ([.ref h0]) (n := 6) (Nat.le_of_ble_eq_true rfl)
  rw [lg_entry_eq]
  generalize (lg_sl ([.ref h0]) ++ List.replicate (6 - (lg_sl ([.ref h0])).length) Slot.unset).toArray = ls at hl ⊢
  have hl : lv_has ls 6 [(0, .ref h0)] := hl
  refine lv_iconst (v := 0) hx hb dX14_meanAge_0 (by decide) ?_
  refine lv_istore_n (lv' := [(1, .int 0), (0, .ref h0)]) hx hb dX14_meanAge_1 rfl hl (by decide) rfl (fun ls hl => ?_)
  refine lv_aload_n hx hb dX14_meanAge_2 rfl (lv_at hl 1 rfl) ?_
  refine va_get (D := G) (ci := 18) (v := .ref l4) (C := RX14) (T := TX14) (N := 16) hx hb hg in_X14 hown hK hP 0 rfl rfl 4 (by decide) (hg _ q1191) (fun _ h9 => h9) rfl dX14_meanAge_3 ?_
  have hPc := hP.sub (ws' := [(l4, .inr (3, [.int c4, .ref e4, .int 0]))]) [1] rfl
  have hKc := hK.sub (tys' := []) [] rfl
  have hDc := hD.sub (ws' := [(l4, .inr (3, [.int c4, .ref e4, .int 0]))]) [1] (by decide) rfl
  have hFc := va_free (wc := [(l4, .inr (3, [.int c4, .ref e4, .int 0]))]) hD hS hA [1] rfl
  refine va_callr (va_runV (As := []) (rest := []) ⟨hx, hb, hml, hown, hts⟩ (k_Jx4a65c_iterator_32c93 l G z l4 c4 e4 0 s.heap.size ) (cwV 0 hts (lw_goodApp (lw_4 q1492 q1354 q1355 q4) q1356) rfl rfl rfl (by decide +kernel) ⟨Nat.le_of_ble_eq_true rfl, Nat.le_of_ble_eq_true rfl⟩) ⟨PW.blind, va_recv hK hP (ci := 3) (q0 := 1) rfl rfl, PW.of hPc hKc hDc hG hS hFc [.ref l4]⟩ rfl rfl hl.1 rfl (lv_room (Nat.le_of_ble_eq_true rfl)) dX14_meanAge_6 ⟨Nat.le_of_ble_eq_true rfl, Nat.le_of_ble_eq_true rfl⟩) hS (fun q _ h => hFc q h) hFc (fun u r_2 t_4 H_1 locs ht hvm hw_3 hB hz1 hk1 hS => ?_)
  obtain ⟨hP, hD, hK⟩ := QW.join (wr := [(h0, .inr (18, [.int th, .ref l1, .ref l2, .ref l3, .ref l4, .ref l5, .ref l6, .int 0, .int tol, .int ag, .ref m1, .ref m2, .ref m3, .ref m4, .ref m5, .ref m6]))]) (w1 := [(l4, .inr (3, [.int c4, .ref e4, .int 0])), (r_2, .inr (2, [.int 0, .int (-1), .int c4, .ref l4]))]) hP hD hK [1] [0] rfl rfl (by decide) (by decide) hk1 hFc ht hvm hB
  have hP : va_P G vwCl ([(h0, .inr (18, [.int th, .ref l1, .ref l2, .ref l3, .ref l4, .ref l5, .ref l6, .int 0, .int tol, .int ag, .ref m1, .ref m2, .ref m3, .ref m4, .ref m5, .ref m6])), (l4, .inr (3, [.int c4, .ref e4, .int 0])), (r_2, .inr (2, [.int 0, .int (-1), .int c4, .ref l4]))]) H_1 := hP
  have hD : va_D A ([(h0, .inr (18, [.int th, .ref l1, .ref l2, .ref l3, .ref l4, .ref l5, .ref l6, .int 0, .int tol, .int ag, .ref m1, .ref m2, .ref m3, .ref m4, .ref m5, .ref m6])), (l4, .inr (3, [.int c4, .ref e4, .int 0])), (r_2, .inr (2, [.int 0, .int (-1), .int c4, .ref l4]))]) := hD
  have hK : va_K G vwCl [] s := hK
  refine W.widen (k := 1) (n := 4) (Nat.le_of_ble_eq_true rfl) (Nat.le_of_ble_eq_true rfl) ?_
  refine lv_astore_n (lv' := [(2, .ref r_2), (1, .int 0), (0, .ref h0)]) hx hb dX14_meanAge_9 rfl hl (by decide) rfl (fun ls hl => ?_)
  refine lv_aload_n hx hb dX14_meanAge_10 rfl (lv_at hl 0 rfl) ?_
  have hPc := hP.sub (ws' := [(r_2, .inr (2, [.int 0, .int (-1), .int c4, .ref l4])), (l4, .inr (3, [.int c4, .ref e4, .int 0]))]) [2, 1] rfl
  have hKc := hK.sub (tys' := []) [] rfl
  refine va_callFi (va_runF (As := []) (rest := []) (hK.1 2 _ rfl).2 ⟨hx, hb, hml, hown, hts⟩ (k_Jx35411_hasNext_aae02 l G z r_2 (.int (-1)) (.int c4) l4 c4 e4 H_1.size ) (va_cwF 0 hts (lw_goodApp (lw_4 q1494 q1381 q1383 q26) q1385) rfl rfl rfl ⟨hG.2.2.2.2.1 _ qf1379, hG.2.2.2.2.1 _ qf1378, hG.2.2.2.2.1 _ qf1384, hG.2.2.2.2.1 _ qf1382, hG.2.2.2.2.1 _ qf1380⟩ (by decide +kernel) ⟨Nat.le_of_ble_eq_true rfl, Nat.le_of_ble_eq_true rfl⟩) ⟨PR.blind, va_recv hK hP (ci := 2) (q0 := 2) rfl rfl, PR.of hPc hKc hG hS hA [.ref r_2]⟩ rfl rfl hl.1 rfl (lv_room (Nat.le_of_ble_eq_true rfl)) dX14_meanAge_11 ⟨Nat.le_of_ble_eq_true rfl, Nat.le_of_ble_eq_true rfl⟩) hS (fun q h9 h => zN.not h9 h) (fun q h => hA q (Nat.le_trans hS.1 h)) (fun r_6 u t_8 H_5 locs ht hvm hw_7 hB hz1 hk1 hS => ?_)
  have hP := hP.grown hk1
  refine W.widen (k := 1) (n := 4) (Nat.le_of_ble_eq_true rfl) (Nat.le_of_ble_eq_true rfl) ?_
  obtain rfl : 0 = r_6 := hw_7.symm
  refine lv_if_eq (tgt := 79) hx hb dX14_meanAge_16 (by decide) (fun c_9 => ?_) (fun c_9 => absurd rfl c_9)
  refine lv_aload_n hx hb dX14_meanAge_79 rfl (lv_at hl 2 rfl) ?_
  refine lv_aload_n hx hb dX14_meanAge_80 rfl (lv_at hl 2 rfl) ?_
  have hPc := hP.sub (ws' := [(h0, .inr (18, [.int th, .ref l1, .ref l2, .ref l3, .ref l4, .ref l5, .ref l6, .int 0, .int tol, .int ag, .ref m1, .ref m2, .ref m3, .ref m4, .ref m5, .ref m6])), (l4, .inr (3, [.int c4, .ref e4, .int 0]))]) [0, 1] rfl
  have hKc := hK.sub (tys' := []) [] rfl
  have hDc := hD.sub (ws' := [(h0, .inr (18, [.int th, .ref l1, .ref l2, .ref l3, .ref l4, .ref l5, .ref l6, .int 0, .int tol, .int ag, .ref m1, .ref m2, .ref m3, .ref m4, .ref m5, .ref m6])), (l4, .inr (3, [.int c4, .ref e4, .int 0]))]) [0, 1] (by decide) rfl
  have hFc := va_free (wc := [(h0, .inr (18, [.int th, .ref l1, .ref l2, .ref l3, .ref l4, .ref l5, .ref l6, .int 0, .int tol, .int ag, .ref m1, .ref m2, .ref m3, .ref m4, .ref m5, .ref m6])), (l4, .inr (3, [.int c4, .ref e4, .int 0]))]) hD hS hA [0, 1] rfl
  refine va_calli (va_runV (As := []) (rest := [.ref h0]) ⟨hx, hb, hml, hown, hts⟩ (k_X14_used l G z h0 th l1 l2 l3 l4 l5 l6 tol ag m1 m2 m3 m4 m5 m6 c4 e4 H_5.size ) (cwV 0 hts (lw_goodApp (lw_4 q1728 q1730 qs38 q7) q1731) rfl rfl rfl (by decide +kernel) ⟨Nat.le_of_ble_eq_true rfl, Nat.le_of_ble_eq_true rfl⟩) ⟨PW.blind, va_recv hK hP (ci := 18) (q0 := 0) rfl rfl, PW.of hPc hKc hDc hG hS hFc [.ref h0]⟩ rfl rfl hl.1 rfl (lv_room (Nat.le_of_ble_eq_true rfl)) dX14_meanAge_81 ⟨Nat.le_of_ble_eq_true rfl, Nat.le_of_ble_eq_true rfl⟩) hS (fun q _ h => hFc q h) hFc (fun r_11 u t_13 H_10 locs ht hvm hw_12 hB hz1 hk1 hS => ?_)
  obtain ⟨hP, hD, hK⟩ := QW.join (wr := [(r_2, .inr (2, [.int 0, .int (-1), .int c4, .ref l4]))]) (w1 := [(h0, .inr (18, [.int th, .ref l1, .ref l2, .ref l3, .ref l4, .ref l5, .ref l6, .int 0, .int tol, .int ag, .ref m1, .ref m2, .ref m3, .ref m4, .ref m5, .ref m6])), (l4, .inr (3, [.int c4, .ref e4, .int 0]))]) hP hD hK [0, 1] [2] rfl rfl (by decide) (by decide) hk1 hFc ht hvm hB
  have hP : va_P G vwCl ([(r_2, .inr (2, [.int 0, .int (-1), .int c4, .ref l4])), (h0, .inr (18, [.int th, .ref l1, .ref l2, .ref l3, .ref l4, .ref l5, .ref l6, .int 0, .int tol, .int ag, .ref m1, .ref m2, .ref m3, .ref m4, .ref m5, .ref m6])), (l4, .inr (3, [.int c4, .ref e4, .int 0]))]) H_10 := hP
  have hD : va_D A ([(r_2, .inr (2, [.int 0, .int (-1), .int c4, .ref l4])), (h0, .inr (18, [.int th, .ref l1, .ref l2, .ref l3, .ref l4, .ref l5, .ref l6, .int 0, .int tol, .int ag, .ref m1, .ref m2, .ref m3, .ref m4, .ref m5, .ref m6])), (l4, .inr (3, [.int c4, .ref e4, .int 0]))]) := hD
  have hK : va_K G vwCl [] s := hK
  refine W.widen (k := 2) (n := 8) (Nat.le_of_ble_eq_true rfl) (Nat.le_of_ble_eq_true rfl) ?_
  obtain rfl : 0 = r_11 := hw_12.symm
  refine lv_if_ne (tgt := 91) hx hb dX14_meanAge_84 (by decide) (fun c_14 => absurd rfl c_14) (fun c_14 => ?_)
  refine lv_iconst (v := 1) hx hb dX14_meanAge_87 (by decide) ?_
  refine lv_goto (tgt := 92) hx hb dX14_meanAge_88 (by decide) ?_
  have hPc := hP.sub (ws' := [(h0, .inr (18, [.int th, .ref l1, .ref l2, .ref l3, .ref l4, .ref l5, .ref l6, .int 0, .int tol, .int ag, .ref m1, .ref m2, .ref m3, .ref m4, .ref m5, .ref m6]))]) [1] rfl
  have hKc := hK.sub (tys' := []) [] rfl
  have hDc := hD.sub (ws' := [(h0, .inr (18, [.int th, .ref l1, .ref l2, .ref l3, .ref l4, .ref l5, .ref l6, .int 0, .int tol, .int ag, .ref m1, .ref m2, .ref m3, .ref m4, .ref m5, .ref m6]))]) [1] (by decide) rfl
  have hFc := va_free (wc := [(h0, .inr (18, [.int th, .ref l1, .ref l2, .ref l3, .ref l4, .ref l5, .ref l6, .int 0, .int tol, .int ag, .ref m1, .ref m2, .ref m3, .ref m4, .ref m5, .ref m6]))]) hD hS hA [1] rfl
  refine va_calli (va_runV (As := [.int 1]) (rest := []) ⟨hx, hb, hml, hown, hts⟩ (k_X14_fails_1 l G z h0 th l1 l2 l3 l4 l5 l6 tol ag m1 m2 m3 m4 m5 m6 1 H_10.size (by decide)) (cwV 1 hts (lw_goodApp (lw_4 q1248 q1250 qs23 q7) q1251) rfl rfl rfl (by decide +kernel) ⟨Nat.le_of_ble_eq_true rfl, Nat.le_of_ble_eq_true rfl⟩) ⟨PW.blind, va_recv hK hP (ci := 18) (q0 := 1) rfl rfl, PW.of hPc hKc hDc hG hS hFc [.ref h0, .int 1]⟩ rfl rfl hl.1 rfl (lv_room (Nat.le_of_ble_eq_true rfl)) dX14_meanAge_92 ⟨Nat.le_of_ble_eq_true rfl, Nat.le_of_ble_eq_true rfl⟩) hS (fun q _ h => hFc q h) hFc (fun r_16 u t_18 H_15 locs ht hvm hw_17 hB hz1 hk1 hS => ?_)
  obtain ⟨hP, hD, hK⟩ := QW.join (wr := [(r_2, .inr (2, [.int 0, .int (-1), .int c4, .ref l4])), (l4, .inr (3, [.int c4, .ref e4, .int 0]))]) (w1 := [(h0, .inr (18, [.int 1, .ref l1, .ref l2, .ref l3, .ref l4, .ref l5, .ref l6, .int 0, .int tol, .int ag, .ref m1, .ref m2, .ref m3, .ref m4, .ref m5, .ref m6]))]) hP hD hK [1] [0, 2] rfl rfl (by decide) (by decide) hk1 hFc ht hvm hB
  have hP : va_P G vwCl ([(r_2, .inr (2, [.int 0, .int (-1), .int c4, .ref l4])), (l4, .inr (3, [.int c4, .ref e4, .int 0])), (h0, .inr (18, [.int 1, .ref l1, .ref l2, .ref l3, .ref l4, .ref l5, .ref l6, .int 0, .int tol, .int ag, .ref m1, .ref m2, .ref m3, .ref m4, .ref m5, .ref m6]))]) H_15 := hP
  have hD : va_D A ([(r_2, .inr (2, [.int 0, .int (-1), .int c4, .ref l4])), (l4, .inr (3, [.int c4, .ref e4, .int 0])), (h0, .inr (18, [.int 1, .ref l1, .ref l2, .ref l3, .ref l4, .ref l5, .ref l6, .int 0, .int tol, .int ag, .ref m1, .ref m2, .ref m3, .ref m4, .ref m5, .ref m6]))]) := hD
  have hK : va_K G vwCl [] s := hK
  refine W.widen (k := 2) (n := 8) (Nat.le_of_ble_eq_true rfl) (Nat.le_of_ble_eq_true rfl) ?_
  obtain rfl : 1 = r_16 := hw_17.symm
  refine lv_if_eq (tgt := 102) hx hb dX14_meanAge_95 (by decide) (fun c_19 => absurd c_19 (by decide)) (fun c_19 => ?_)
  refine lv_dconst0 hx hb dX14_meanAge_98 ?_
  refine lv_goto (tgt := 110) hx hb dX14_meanAge_99 (by decide) ?_
  refine W.widen (k := 2) (n := 8) (Nat.le_of_ble_eq_true rfl) (Nat.le_of_ble_eq_true rfl) ?_
  have hP9 := hP.sub (ws' := [(h0, .inr (18, [.int 1, .ref l1, .ref l2, .ref l3, .ref l4, .ref l5, .ref l6, .int 0, .int tol, .int ag, .ref m1, .ref m2, .ref m3, .ref m4, .ref m5, .ref m6]))]) [2] rfl
  have hD9 := hD.sub (ws' := [(h0, .inr (18, [.int 1, .ref l1, .ref l2, .ref l3, .ref l4, .ref l5, .ref l6, .int 0, .int tol, .int ag, .ref m1, .ref m2, .ref m3, .ref m4, .ref m5, .ref m6]))]) [2] (by decide) rfl
  have hK9 := hK.sub (tys' := []) [] rfl
  exact W.dret (v := FP.dconst0) hx hb hr (fun t ht hW => ⟨⟨FP.dconst0, (), rfl, trivial, QW.of hP9 hK9 hD9 ht hW.alike⟩, hS.F ht⟩) hS.2.2 dX14_meanAge_110

abbrev wz_X14_isSound : List Cond := .code yX14_isSound cX14_isSound 1 (Option.some Jvm.ClassFile.FieldType.boolean) :: lw_good
set_option maxHeartbeats 4000000 in
set_option maxRecDepth 100000 in
theorem k_X14_isSound (l : Launch) (G : va_G) (z : Nat) (h0 : Nat) (th : Int32) (l1 : Nat) (l2 : Nat) (l3 : Nat) (l4 : Nat) (l5 : Nat) (l6 : Nat) (tol : Int32) (ag : Int32) (m1 : Nat) (m2 : Nat) (m3 : Nat) (m4 : Nat) (m5 : Nat) (m6 : Nat) (sz : Nat)  : Met l yX14_isSound wz_X14_isSound ({ frames := 0, cells := 0, slots := 0, locals := 0 }) (va_Pc [.ref h0] (PW G z [(h0, .inr (18, [.int th, .ref l1, .ref l2, .ref l3, .ref l4, .ref l5, .ref l6, .int 0, .int tol, .int ag, .ref m1, .ref m2, .ref m3, .ref m4, .ref m5, .ref m6]))] [] sz)) (va_Qi (fun (r : Int32) (_ : Unit) => r = 1) (fun (_ : Unit) (t : State) => QW G [(h0, .inr (18, [.int 0, .ref l1, .ref l2, .ref l3, .ref l4, .ref l5, .ref l6, .int 0, .int tol, .int ag, .ref m1, .ref m2, .ref m3, .ref m4, .ref m5, .ref m6]))] [] (va_A [(h0, .inr (18, [.int th, .ref l1, .ref l2, .ref l3, .ref l4, .ref l5, .ref l6, .int 0, .int tol, .int ag, .ref m1, .ref m2, .ref m3, .ref m4, .ref m5, .ref m6]))] sz) t) (va_A [(h0, .inr (18, [.int th, .ref l1, .ref l2, .ref l3, .ref l4, .ref l5, .ref l6, .int 0, .int tol, .int ag, .ref m1, .ref m2, .ref m3, .ref m4, .ref m5, .ref m6]))] sz)) 0 0 (va_A [(h0, .inr (18, [.int th, .ref l1, .ref l2, .ref l3, .ref l4, .ref l5, .ref l6, .int 0, .int tol, .int ag, .ref m1, .ref m2, .ref m3, .ref m4, .ref m5, .ref m6]))] sz) := by
  refine Met.ofW (cc := cX14_isSound) (maxL := 1) (ret := (Option.some Jvm.ClassFile.FieldType.boolean)) (by decide) rfl ?_
  intro p e s m args below meth c s₁ B hml hv
  obtain ⟨rfl, rfl, hP, hK, hD0, hG⟩ := hv
  have hx := B.exec
  have hb := B.bytes
  have hr := B.returns
  have hts := atoms_spec (ws := wz_X14_isSound) B.pre
  have hg : ∀ w ∈ lw_good, w.before _ s = true := fun w h => hts w (List.mem_cons_of_mem _ h)
  have hown : s.vm.findClass RX14 = some m.cls := findClass_of_methodNamed B.named
  have hlocks := B.notSynchronized
  have hD := hD0.self (sz := s.heap.size)
  generalize hAe : va_A [(h0, .inr (18, [.int th, .ref l1, .ref l2, .ref l3, .ref l4, .ref l5, .ref l6, .int 0, .int tol, .int ag, .ref m1, .ref m2, .ref m3, .ref m4, .ref m5, .ref m6]))] s.heap.size = A at hD hG ⊢
  have hA : ∀ q : Nat, s.heap.size ≤ q → A q := fun q h => by rw [← hAe]; exact Or.inr h
  have hS : va_S A s.heap s.heap [] := va_S.rf
  have hl := lv_entry ([.ref h0]) (n := 1) (Nat.le_of_ble_eq_true rfl)
  rw [lg_entry_eq]
  generalize (lg_sl ([.ref h0]) ++ List.replicate (1 - (lg_sl ([.ref h0])).length) Slot.unset).toArray = ls at hl ⊢
  have hl : lv_has ls 1 [(0, .ref h0)] := hl
  refine lv_aload_n hx hb dX14_isSound_0 rfl (lv_at hl 0 rfl) ?_
  refine lv_iconst (v := 0) hx hb dX14_isSound_1 (by decide) ?_
  refine va_put (D := G) (ci := 18) (v := .int 0) (ty := .int) (C := RX14) (T := TX14) (N := 16) hx hb hg in_X14 tyX14 tyX14_ok nmX14 hown hK hP hD hS 0 rfl rfl 0 (by decide) (hg _ q1187) (fun _ h9 => h9) rfl (by decide +kernel) rfl rfl (Nat.le_of_ble_eq_true rfl) dX14_isSound_2 (fun H_1 locs hP hD hS => ?_)
  have hP : va_P G vwCl ([(h0, .inr (18, [.int 0, .ref l1, .ref l2, .ref l3, .ref l4, .ref l5, .ref l6, .int 0, .int tol, .int ag, .ref m1, .ref m2, .ref m3, .ref m4, .ref m5, .ref m6]))]) H_1 := hP
  have hD : va_D A ([(h0, .inr (18, [.int 0, .ref l1, .ref l2, .ref l3, .ref l4, .ref l5, .ref l6, .int 0, .int tol, .int ag, .ref m1, .ref m2, .ref m3, .ref m4, .ref m5, .ref m6]))]) := hD
  refine lv_iconst (v := 1) hx hb dX14_isSound_5 (by decide) ?_
  refine W.widen (k := 0) (n := 0) (Nat.le_of_ble_eq_true rfl) (Nat.le_of_ble_eq_true rfl) ?_
  have hP9 := hP.sub (ws' := [(h0, .inr (18, [.int 0, .ref l1, .ref l2, .ref l3, .ref l4, .ref l5, .ref l6, .int 0, .int tol, .int ag, .ref m1, .ref m2, .ref m3, .ref m4, .ref m5, .ref m6]))]) [0] rfl
  have hD9 := hD.sub (ws' := [(h0, .inr (18, [.int 0, .ref l1, .ref l2, .ref l3, .ref l4, .ref l5, .ref l6, .int 0, .int tol, .int ag, .ref m1, .ref m2, .ref m3, .ref m4, .ref m5, .ref m6]))]) [0] (by decide) rfl
  have hK9 := hK.sub (tys' := []) [] rfl
  exact W.zret (v := 1) hx hb hr rfl (fun t ht hW => ⟨⟨1, (), rfl, rfl, QW.of hP9 hK9 hD9 ht hW.alike⟩, hS.F ht⟩) hS.2.2 dX14_isSound_6

abbrev wz_X14_unmerge : List Cond := .code yX14_unmerge cX14_unmerge 2 (Option.some Jvm.ClassFile.FieldType.int) :: lw_good
set_option maxHeartbeats 4000000 in
set_option maxRecDepth 100000 in
theorem k_X14_unmerge (l : Launch) (G : va_G) (z : Nat) (h0 : Nat) (th : Int32) (l1 : Nat) (l2 : Nat) (l3 : Nat) (l4 : Nat) (l5 : Nat) (l6 : Nat) (tol : Int32) (ag : Int32) (m1 : Nat) (m2 : Nat) (m3 : Nat) (m4 : Nat) (m5 : Nat) (m6 : Nat) (c6 : Int32) (e6 : Nat) (sz : Nat)  : Met l yX14_unmerge wz_X14_unmerge ({ frames := 1, cells := 0, slots := 0, locals := 21 }) (va_Pc [.ref h0] (PW G z [(h0, .inr (18, [.int th, .ref l1, .ref l2, .ref l3, .ref l4, .ref l5, .ref l6, .int 0, .int tol, .int ag, .ref m1, .ref m2, .ref m3, .ref m4, .ref m5, .ref m6])), (l6, .inr (3, [.int c6, .ref e6, .int 0]))] [] sz)) (va_Qi (fun (r : Int32) (_ : Unit) => True) (fun (_ : Unit) (t : State) => QW G [(h0, .inr (18, [.int 1, .ref l1, .ref l2, .ref l3, .ref l4, .ref l5, .ref l6, .int 0, .int tol, .int ag, .ref m1, .ref m2, .ref m3, .ref m4, .ref m5, .ref m6]))] [] (va_A [(h0, .inr (18, [.int th, .ref l1, .ref l2, .ref l3, .ref l4, .ref l5, .ref l6, .int 0, .int tol, .int ag, .ref m1, .ref m2, .ref m3, .ref m4, .ref m5, .ref m6])), (l6, .inr (3, [.int c6, .ref e6, .int 0]))] sz) t) (va_A [(h0, .inr (18, [.int th, .ref l1, .ref l2, .ref l3, .ref l4, .ref l5, .ref l6, .int 0, .int tol, .int ag, .ref m1, .ref m2, .ref m3, .ref m4, .ref m5, .ref m6])), (l6, .inr (3, [.int c6, .ref e6, .int 0]))] sz)) 0 0 (va_A [(h0, .inr (18, [.int th, .ref l1, .ref l2, .ref l3, .ref l4, .ref l5, .ref l6, .int 0, .int tol, .int ag, .ref m1, .ref m2, .ref m3, .ref m4, .ref m5, .ref m6])), (l6, .inr (3, [.int c6, .ref e6, .int 0]))] sz) := by
  refine Met.ofW (cc := cX14_unmerge) (maxL := 2) (ret := (Option.some Jvm.ClassFile.FieldType.int)) (by decide) rfl ?_
  intro p e s m args below meth c s₁ B hml hv
  obtain ⟨rfl, rfl, hP, hK, hD0, hG⟩ := hv
  have hx := B.exec
  have hb := B.bytes
  have hr := B.returns
  have hts := atoms_spec (ws := wz_X14_unmerge) B.pre
  have hg : ∀ w ∈ lw_good, w.before _ s = true := fun w h => hts w (List.mem_cons_of_mem _ h)
  have hown : s.vm.findClass RX14 = some m.cls := findClass_of_methodNamed B.named
  have hlocks := B.notSynchronized
  have hD := hD0.self (sz := s.heap.size)
  generalize hAe : va_A [(h0, .inr (18, [.int th, .ref l1, .ref l2, .ref l3, .ref l4, .ref l5, .ref l6, .int 0, .int tol, .int ag, .ref m1, .ref m2, .ref m3, .ref m4, .ref m5, .ref m6])), (l6, .inr (3, [.int c6, .ref e6, .int 0]))] s.heap.size = A at hD hG ⊢
  have hA : ∀ q : Nat, s.heap.size ≤ q → A q := fun q h => by rw [← hAe]; exact Or.inr h
  have hS : va_S A s.heap s.heap [] := va_S.rf
  have hl := lv_entry ([.ref h0]) (n := 2) (Nat.le_of_ble_eq_true rfl)
  rw [lg_entry_eq]
  generalize (lg_sl ([.ref h0]) ++ List.replicate (2 - (lg_sl ([.ref h0])).length) Slot.unset).toArray = ls at hl ⊢
  have hl : lv_has ls 2 [(0, .ref h0)] := hl
  refine lv_aload_n hx hb dX14_unmerge_0 rfl (lv_at hl 0 rfl) ?_
  refine lv_aload_n hx hb dX14_unmerge_1 rfl (lv_at hl 0 rfl) ?_
  refine va_get (D := G) (ci := 18) (v := .ref l6) (C := RX14) (T := TX14) (N := 16) hx hb hg in_X14 hown hK hP 0 rfl rfl 6 (by decide) (hg _ q1193) (fun _ h9 => h9) rfl dX14_unmerge_2 ?_
  have hPc := hP.sub (ws' := [(l6, .inr (3, [.int c6, .ref e6, .int 0]))]) [1] rfl
  have hKc := hK.sub (tys' := []) [] rfl
  refine va_calli (va_runV (As := []) (rest := [.ref h0]) ⟨hx, hb, hml, hown, hts⟩ (k_Jx4a65c_isEmpty_aae02 l G z l6 c6 e6 s.heap.size ) (cwV 0 hts (lw_goodApp (lw_4 q1345 q1346 q1347 q4) q1348) rfl rfl rfl (by decide +kernel) ⟨Nat.le_of_ble_eq_true rfl, Nat.le_of_ble_eq_true rfl⟩) ⟨PR.blind, va_recv hK hP (ci := 3) (q0 := 1) rfl rfl, PR.of hPc hKc hG hS hA [.ref l6]⟩ rfl rfl hl.1 rfl (lv_room (Nat.le_of_ble_eq_true rfl)) dX14_unmerge_5 ⟨Nat.le_of_ble_eq_true rfl, Nat.le_of_ble_eq_true rfl⟩) hS (fun q h9 h => zN.not h9 h) (fun q h => hA q (Nat.le_trans hS.1 h)) (fun r_2 u t_4 H_1 locs ht hvm hw_3 hB hz1 hk1 hS => ?_)
  have hP := hP.grown hk1
  refine W.widen (k := 0) (n := 0) (Nat.le_of_ble_eq_true rfl) (Nat.le_of_ble_eq_true rfl) ?_
  obtain rfl : 1 = r_2 := hw_3.symm
  refine lv_if_eq (tgt := 15) hx hb dX14_unmerge_8 (by decide) (fun c_5 => absurd c_5 (by decide)) (fun c_5 => ?_)
  refine lv_iconst (v := 1) hx hb dX14_unmerge_11 (by decide) ?_
  refine lv_goto (tgt := 16) hx hb dX14_unmerge_12 (by decide) ?_
  have hPc := hP.sub (ws' := [(h0, .inr (18, [.int th, .ref l1, .ref l2, .ref l3, .ref l4, .ref l5, .ref l6, .int 0, .int tol, .int ag, .ref m1, .ref m2, .ref m3, .ref m4, .ref m5, .ref m6]))]) [0] rfl
  have hKc := hK.sub (tys' := []) [] rfl
  have hDc := hD.sub (ws' := [(h0, .inr (18, [.int th, .ref l1, .ref l2, .ref l3, .ref l4, .ref l5, .ref l6, .int 0, .int tol, .int ag, .ref m1, .ref m2, .ref m3, .ref m4, .ref m5, .ref m6]))]) [0] (by decide) rfl
  have hFc := va_free (wc := [(h0, .inr (18, [.int th, .ref l1, .ref l2, .ref l3, .ref l4, .ref l5, .ref l6, .int 0, .int tol, .int ag, .ref m1, .ref m2, .ref m3, .ref m4, .ref m5, .ref m6]))]) hD hS hA [0] rfl
  refine va_calli (va_runV (As := [.int 1]) (rest := []) ⟨hx, hb, hml, hown, hts⟩ (k_X14_fails_1 l G z h0 th l1 l2 l3 l4 l5 l6 tol ag m1 m2 m3 m4 m5 m6 1 H_1.size (by decide)) (cwV 1 hts (lw_goodApp (lw_4 q1248 q1250 qs23 q7) q1251) rfl rfl rfl (by decide +kernel) ⟨Nat.le_of_ble_eq_true rfl, Nat.le_of_ble_eq_true rfl⟩) ⟨PW.blind, va_recv hK hP (ci := 18) (q0 := 0) rfl rfl, PW.of hPc hKc hDc hG hS hFc [.ref h0, .int 1]⟩ rfl rfl hl.1 rfl (lv_room (Nat.le_of_ble_eq_true rfl)) dX14_unmerge_16 ⟨Nat.le_of_ble_eq_true rfl, Nat.le_of_ble_eq_true rfl⟩) hS (fun q _ h => hFc q h) hFc (fun r_7 u t_9 H_6 locs ht hvm hw_8 hB hz1 hk1 hS => ?_)
  obtain ⟨hP, hD, hK⟩ := QW.join (wr := [(l6, .inr (3, [.int c6, .ref e6, .int 0]))]) (w1 := [(h0, .inr (18, [.int 1, .ref l1, .ref l2, .ref l3, .ref l4, .ref l5, .ref l6, .int 0, .int tol, .int ag, .ref m1, .ref m2, .ref m3, .ref m4, .ref m5, .ref m6]))]) hP hD hK [0] [1] rfl rfl (by decide) (by decide) hk1 hFc ht hvm hB
  have hP : va_P G vwCl ([(l6, .inr (3, [.int c6, .ref e6, .int 0])), (h0, .inr (18, [.int 1, .ref l1, .ref l2, .ref l3, .ref l4, .ref l5, .ref l6, .int 0, .int tol, .int ag, .ref m1, .ref m2, .ref m3, .ref m4, .ref m5, .ref m6]))]) H_6 := hP
  have hD : va_D A ([(l6, .inr (3, [.int c6, .ref e6, .int 0])), (h0, .inr (18, [.int 1, .ref l1, .ref l2, .ref l3, .ref l4, .ref l5, .ref l6, .int 0, .int tol, .int ag, .ref m1, .ref m2, .ref m3, .ref m4, .ref m5, .ref m6]))]) := hD
  have hK : va_K G vwCl [] s := hK
  refine W.widen (k := 0) (n := 0) (Nat.le_of_ble_eq_true rfl) (Nat.le_of_ble_eq_true rfl) ?_
  obtain rfl : 1 = r_7 := hw_8.symm
  refine lv_if_eq (tgt := 24) hx hb dX14_unmerge_19 (by decide) (fun c_10 => absurd c_10 (by decide)) (fun c_10 => ?_)
  refine lv_iconst (v := 0) hx hb dX14_unmerge_22 (by decide) ?_
  refine W.widen (k := 0) (n := 0) (Nat.le_of_ble_eq_true rfl) (Nat.le_of_ble_eq_true rfl) ?_
  have hP9 := hP.sub (ws' := [(h0, .inr (18, [.int 1, .ref l1, .ref l2, .ref l3, .ref l4, .ref l5, .ref l6, .int 0, .int tol, .int ag, .ref m1, .ref m2, .ref m3, .ref m4, .ref m5, .ref m6]))]) [1] rfl
  have hD9 := hD.sub (ws' := [(h0, .inr (18, [.int 1, .ref l1, .ref l2, .ref l3, .ref l4, .ref l5, .ref l6, .int 0, .int tol, .int ag, .ref m1, .ref m2, .ref m3, .ref m4, .ref m5, .ref m6]))]) [1] (by decide) rfl
  have hK9 := hK.sub (tys' := []) [] rfl
  exact W.iret (v := 0) hx hb hr (fun t ht hW => ⟨⟨0, (), rfl, trivial, QW.of hP9 hK9 hD9 ht hW.alike⟩, hS.F ht⟩) hS.2.2 dX14_unmerge_23
