theorem in_Jx35411 : ∀ w ∈ u_ws RJx35411 TJx35411 4, w ∈ lw_good := by decide +kernel
theorem mmax_c : Cond.code Lib.Math.max.name Lib.Math.max.code 2 (some .int) ∈ lw_good := lw_in (i := 246) (by decide +kernel) (by decide +kernel)
theorem mmax_lJx4a65c79 : Cond.methodLink "java/util/ArrayList" 79 Lib.Math.max.name ∈ lw_good := lw_in (i := 513) (by decide +kernel) (by decide +kernel)
theorem mmax_s : Cond.static Lib.Math.max.name ∈ lw_good := lw_in (i := 245) (by decide +kernel) (by decide +kernel)
theorem q1348 : Cond.code yJx4a65c_isEmpty_aae02 prog_34_method_9_code 1 (Option.some Jvm.ClassFile.FieldType.boolean) ∈ lw_good := lw_in (i := 1348) (by decide +kernel) (by decide +kernel)
theorem q1356 : Cond.code yJx4a65c_iterator_32c93 prog_34_method_55_code 1 (Option.some (Jvm.ClassFile.FieldType.object "java/util/Iterator")) ∈ lw_good := lw_in (i := 1356) (by decide +kernel) (by decide +kernel)
theorem q1357 : Cond.classLink "java/util/ArrayList" 267 "java/util/ArrayList$Itr" ∈ lw_good := lw_in (i := 1357) (by decide +kernel) (by decide +kernel)
theorem q1358 : Cond.instantiable "java/util/ArrayList$Itr" 4 ∈ lw_good := lw_in (i := 1358) (by decide +kernel) (by decide +kernel)
theorem q1359 : Cond.methodLink "java/util/ArrayList" 269 yJx35411_init_45d68 ∈ lw_good := lw_in (i := 1359) (by decide +kernel) (by decide +kernel)
theorem q1360 : Cond.instanceMethod yJx35411_init_45d68 ∈ lw_good := lw_in (i := 1360) (by decide +kernel) (by decide +kernel)
theorem q1361 : Cond.code yJx35411_init_45d68 prog_35_method_1_code 2 (Option.none : Option Jvm.ClassFile.FieldType) ∈ lw_good := lw_in (i := 1361) (by decide +kernel) (by decide +kernel)
theorem q1362 : Cond.methodLink "java/util/ArrayList$Itr" 7 ⟨"java/lang/Object", "<init>", "()V"⟩ ∈ lw_good := lw_in (i := 1362) (by decide +kernel) (by decide +kernel)
theorem q1363 : Cond.fieldLink "java/util/ArrayList$Itr" 25 "java/util/ArrayList$Itr" "cursor" "I" ∈ lw_good := lw_in (i := 1363) (by decide +kernel) (by decide +kernel)
theorem q1364 : Cond.fieldLink "java/util/ArrayList$Itr" 13 "java/util/ArrayList$Itr" "lastRet" "I" ∈ lw_good := lw_in (i := 1364) (by decide +kernel) (by decide +kernel)
theorem q1365 : Cond.fieldLink "java/util/ArrayList$Itr" 22 "java/util/ArrayList$Itr" "expectedModCount" "I" ∈ lw_good := lw_in (i := 1365) (by decide +kernel) (by decide +kernel)
theorem q1366 : Cond.fieldLink "java/util/ArrayList$Itr" 1 "java/util/ArrayList$Itr" "this$0" "Ljava/util/ArrayList;" ∈ lw_good := lw_in (i := 1366) (by decide +kernel) (by decide +kernel)
theorem q1385 : Cond.code yJx35411_hasNext_aae02 prog_35_method_2_code 1 (Option.some Jvm.ClassFile.FieldType.boolean) ∈ lw_good := lw_in (i := 1385) (by decide +kernel) (by decide +kernel)
theorem q15 : Cond.initialized "java/lang/Math" ∈ lw_good := lw_in (i := 15) (by decide +kernel) (by decide +kernel)
theorem q2 : Cond.initialized "java/util/AbstractCollection" ∈ lw_good := lw_in (i := 2) (by decide +kernel) (by decide +kernel)
theorem q26 : Cond.initialized "java/util/ArrayList$Itr" ∈ lw_good := lw_in (i := 26) (by decide +kernel) (by decide +kernel)
theorem q3 : Cond.initialized "java/util/AbstractList" ∈ lw_good := lw_in (i := 3) (by decide +kernel) (by decide +kernel)
theorem q43 : Cond.instanceMethod ⟨"java/lang/Object", "<init>", "()V"⟩ ∈ lw_good := lw_in (i := 43) (by decide +kernel) (by decide +kernel)
theorem q44 : Cond.code ⟨"java/lang/Object", "<init>", "()V"⟩ object_method_1_code 1 (Option.none : Option Jvm.ClassFile.FieldType) ∈ lw_good := lw_in (i := 44) (by decide +kernel) (by decide +kernel)
theorem q451 : Cond.code yJx4a65c_add_9ea2d prog_34_method_25_code 2 (Option.some Jvm.ClassFile.FieldType.boolean) ∈ lw_good := lw_in (i := 451) (by decide +kernel) (by decide +kernel)
theorem q452 : Cond.methodLink "java/util/ArrayList" 131 yJx4a65c_add_72be8 ∈ lw_good := lw_in (i := 452) (by decide +kernel) (by decide +kernel)
theorem q454 : Cond.instanceMethod yJx4a65c_add_72be8 ∈ lw_good := lw_in (i := 454) (by decide +kernel) (by decide +kernel)
theorem q455 : Cond.code yJx4a65c_add_72be8 prog_34_method_24_code 4 (Option.none : Option Jvm.ClassFile.FieldType) ∈ lw_good := lw_in (i := 455) (by decide +kernel) (by decide +kernel)
theorem q456 : Cond.methodLink "java/util/ArrayList" 129 yJx4a65c_grow_d5877 ∈ lw_good := lw_in (i := 456) (by decide +kernel) (by decide +kernel)
theorem q458 : Cond.instanceMethod yJx4a65c_grow_d5877 ∈ lw_good := lw_in (i := 458) (by decide +kernel) (by decide +kernel)
theorem q459 : Cond.code yJx4a65c_grow_d5877 prog_34_method_7_code 1 (Option.some (Jvm.ClassFile.FieldType.array (Jvm.ClassFile.FieldType.object "java/lang/Object"))) ∈ lw_good := lw_in (i := 459) (by decide +kernel) (by decide +kernel)
theorem q460 : Cond.methodLink "java/util/ArrayList" 69 yJx4a65c_grow_92f84 ∈ lw_good := lw_in (i := 460) (by decide +kernel) (by decide +kernel)
theorem q462 : Cond.instanceMethod yJx4a65c_grow_92f84 ∈ lw_good := lw_in (i := 462) (by decide +kernel) (by decide +kernel)
theorem q463 : Cond.code yJx4a65c_grow_92f84 prog_34_method_6_code 4 (Option.some (Jvm.ClassFile.FieldType.array (Jvm.ClassFile.FieldType.object "java/lang/Object"))) ∈ lw_good := lw_in (i := 463) (by decide +kernel) (by decide +kernel)
theorem q49 : Cond.code yJx4a65c_init_da8c8 prog_34_method_2_code 1 (Option.none : Option Jvm.ClassFile.FieldType) ∈ lw_good := lw_in (i := 49) (by decide +kernel) (by decide +kernel)
theorem q50 : Cond.methodLink "java/util/ArrayList" 1 yJxc12de_init_da8c8 ∈ lw_good := lw_in (i := 50) (by decide +kernel) (by decide +kernel)
theorem q51 : Cond.instanceMethod yJxc12de_init_da8c8 ∈ lw_good := lw_in (i := 51) (by decide +kernel) (by decide +kernel)
theorem q514 : Cond.classLink "java/util/ArrayList" 7 "java/lang/Object" ∈ lw_good := lw_in (i := 514) (by decide +kernel) (by decide +kernel)
theorem q52 : Cond.code yJxc12de_init_da8c8 prog_33_method_1_code 1 (Option.none : Option Jvm.ClassFile.FieldType) ∈ lw_good := lw_in (i := 52) (by decide +kernel) (by decide +kernel)
theorem q53 : Cond.methodLink "java/util/AbstractList" 1 yJxa1e45_init_da8c8 ∈ lw_good := lw_in (i := 53) (by decide +kernel) (by decide +kernel)
theorem q54 : Cond.instanceMethod yJxa1e45_init_da8c8 ∈ lw_good := lw_in (i := 54) (by decide +kernel) (by decide +kernel)
theorem q55 : Cond.code yJxa1e45_init_da8c8 prog_32_method_1_code 1 (Option.none : Option Jvm.ClassFile.FieldType) ∈ lw_good := lw_in (i := 55) (by decide +kernel) (by decide +kernel)
theorem q56 : Cond.methodLink "java/util/AbstractCollection" 1 ⟨"java/lang/Object", "<init>", "()V"⟩ ∈ lw_good := lw_in (i := 56) (by decide +kernel) (by decide +kernel)
theorem q57 : Cond.fieldLink "java/util/ArrayList" 39 "java/util/ArrayList" "DEFAULTCAPACITY_EMPTY_ELEMENTDATA" "[Ljava/lang/Object;" ∈ lw_good := lw_in (i := 57) (by decide +kernel) (by decide +kernel)
theorem q59 : Cond.fieldLink "java/util/ArrayList" 9 "java/util/ArrayList" "elementData" "[Ljava/lang/Object;" ∈ lw_good := lw_in (i := 59) (by decide +kernel) (by decide +kernel)
theorem q63 : Cond.fieldLink "java/util/AbstractList" 7 "java/util/AbstractList" "modCount" "I" ∈ lw_good := lw_in (i := 63) (by decide +kernel) (by decide +kernel)
theorem q64 : Cond.fieldLink "java/util/ArrayList$Itr" 17 "java/util/ArrayList" "modCount" "I" ∈ lw_good := lw_in (i := 64) (by decide +kernel) (by decide +kernel)
theorem q65 : Cond.sameField "java/util/ArrayList" "java/util/AbstractList" "modCount" "I" ∈ lw_good := lw_in (i := 65) (by decide +kernel) (by decide +kernel)
theorem q66 : Cond.fieldLink "java/util/ArrayList" 63 "java/util/ArrayList" "modCount" "I" ∈ lw_good := lw_in (i := 66) (by decide +kernel) (by decide +kernel)
theorem qf61 : Cond.fieldLinkNest "java/util/ArrayList$Itr" 28 "java/util/ArrayList" "size" "I" "java/util/ArrayList" ∈ lw_face := lw_fin (i := 61) (by decide +kernel) (by decide +kernel)
theorem qs11 : Cond.selects "java/util/ArrayList" yJx4a65c_add_72be8 yJx4a65c_add_72be8 ∈ lw_good := lw_inS (i := 11) (by decide +kernel) (by decide +kernel)
theorem qs12 : Cond.selects "java/util/ArrayList" yJx4a65c_grow_d5877 yJx4a65c_grow_d5877 ∈ lw_good := lw_inS (i := 12) (by decide +kernel) (by decide +kernel)
theorem qs13 : Cond.selects "java/util/ArrayList" yJx4a65c_grow_92f84 yJx4a65c_grow_92f84 ∈ lw_good := lw_inS (i := 13) (by decide +kernel) (by decide +kernel)
theorem dJx35411_hasNext_aae02_0 : decode cJx35411_hasNext_aae02 0 = .ok (.aload_n 0, 1) := by decide +kernel
theorem dJx35411_hasNext_aae02_1 : decode cJx35411_hasNext_aae02 1 = .ok (.getfield 25, 3) := by decide +kernel
theorem dJx35411_hasNext_aae02_11 : decode cJx35411_hasNext_aae02 11 = .ok (.if_icmp .eq 7, 3) := by decide +kernel
theorem dJx35411_hasNext_aae02_18 : decode cJx35411_hasNext_aae02 18 = .ok (.iconst 0, 1) := by decide +kernel
theorem dJx35411_hasNext_aae02_19 : decode cJx35411_hasNext_aae02 19 = .ok (.ireturn, 1) := by decide +kernel
theorem dJx35411_hasNext_aae02_4 : decode cJx35411_hasNext_aae02 4 = .ok (.aload_n 0, 1) := by decide +kernel
theorem dJx35411_hasNext_aae02_5 : decode cJx35411_hasNext_aae02 5 = .ok (.getfield 1, 3) := by decide +kernel
theorem dJx35411_hasNext_aae02_8 : decode cJx35411_hasNext_aae02 8 = .ok (.getfield 28, 3) := by decide +kernel
theorem dJx35411_init_45d68_0 : decode cJx35411_init_45d68 0 = .ok (.aload_n 0, 1) := by decide +kernel
theorem dJx35411_init_45d68_1 : decode cJx35411_init_45d68 1 = .ok (.aload_n 1, 1) := by decide +kernel
theorem dJx35411_init_45d68_10 : decode cJx35411_init_45d68 10 = .ok (.iconst (-1), 1) := by decide +kernel
theorem dJx35411_init_45d68_11 : decode cJx35411_init_45d68 11 = .ok (.putfield 13, 3) := by decide +kernel
theorem dJx35411_init_45d68_14 : decode cJx35411_init_45d68 14 = .ok (.aload_n 0, 1) := by decide +kernel
theorem dJx35411_init_45d68_15 : decode cJx35411_init_45d68 15 = .ok (.aload_n 0, 1) := by decide +kernel
theorem dJx35411_init_45d68_16 : decode cJx35411_init_45d68 16 = .ok (.getfield 1, 3) := by decide +kernel
theorem dJx35411_init_45d68_19 : decode cJx35411_init_45d68 19 = .ok (.getfield 17, 3) := by decide +kernel
theorem dJx35411_init_45d68_2 : decode cJx35411_init_45d68 2 = .ok (.putfield 1, 3) := by decide +kernel
theorem dJx35411_init_45d68_22 : decode cJx35411_init_45d68 22 = .ok (.putfield 22, 3) := by decide +kernel
theorem dJx35411_init_45d68_25 : decode cJx35411_init_45d68 25 = .ok (.return_, 1) := by decide +kernel
theorem dJx35411_init_45d68_5 : decode cJx35411_init_45d68 5 = .ok (.aload_n 0, 1) := by decide +kernel
theorem dJx35411_init_45d68_6 : decode cJx35411_init_45d68 6 = .ok (.invokespecial 7, 3) := by decide +kernel
theorem dJx35411_init_45d68_9 : decode cJx35411_init_45d68 9 = .ok (.aload_n 0, 1) := by decide +kernel
theorem dJx4a65c_add_72be8_0 : decode cJx4a65c_add_72be8 0 = .ok (.iload_n 3, 1) := by decide +kernel
theorem dJx4a65c_add_72be8_1 : decode cJx4a65c_add_72be8 1 = .ok (.aload_n 2, 1) := by decide +kernel
theorem dJx4a65c_add_72be8_10 : decode cJx4a65c_add_72be8 10 = .ok (.astore_n 2, 1) := by decide +kernel
theorem dJx4a65c_add_72be8_11 : decode cJx4a65c_add_72be8 11 = .ok (.aload_n 2, 1) := by decide +kernel
theorem dJx4a65c_add_72be8_12 : decode cJx4a65c_add_72be8 12 = .ok (.iload_n 3, 1) := by decide +kernel
theorem dJx4a65c_add_72be8_13 : decode cJx4a65c_add_72be8 13 = .ok (.aload_n 1, 1) := by decide +kernel
theorem dJx4a65c_add_72be8_14 : decode cJx4a65c_add_72be8 14 = .ok (.aastore, 1) := by decide +kernel
theorem dJx4a65c_add_72be8_15 : decode cJx4a65c_add_72be8 15 = .ok (.aload_n 0, 1) := by decide +kernel
theorem dJx4a65c_add_72be8_16 : decode cJx4a65c_add_72be8 16 = .ok (.iload_n 3, 1) := by decide +kernel
theorem dJx4a65c_add_72be8_17 : decode cJx4a65c_add_72be8 17 = .ok (.iconst 1, 1) := by decide +kernel
theorem dJx4a65c_add_72be8_18 : decode cJx4a65c_add_72be8 18 = .ok (.iadd, 1) := by decide +kernel
theorem dJx4a65c_add_72be8_19 : decode cJx4a65c_add_72be8 19 = .ok (.putfield 48, 3) := by decide +kernel
theorem dJx4a65c_add_72be8_2 : decode cJx4a65c_add_72be8 2 = .ok (.arraylength, 1) := by decide +kernel
theorem dJx4a65c_add_72be8_22 : decode cJx4a65c_add_72be8 22 = .ok (.return_, 1) := by decide +kernel
theorem dJx4a65c_add_72be8_3 : decode cJx4a65c_add_72be8 3 = .ok (.if_icmp .ne 8, 3) := by decide +kernel
theorem dJx4a65c_add_72be8_6 : decode cJx4a65c_add_72be8 6 = .ok (.aload_n 0, 1) := by decide +kernel
theorem dJx4a65c_add_72be8_7 : decode cJx4a65c_add_72be8 7 = .ok (.invokevirtual 129, 3) := by decide +kernel
theorem dJx4a65c_add_9ea2d_0 : decode cJx4a65c_add_9ea2d 0 = .ok (.aload_n 0, 1) := by decide +kernel
theorem dJx4a65c_add_9ea2d_1 : decode cJx4a65c_add_9ea2d 1 = .ok (.dup, 1) := by decide +kernel
theorem dJx4a65c_add_9ea2d_10 : decode cJx4a65c_add_9ea2d 10 = .ok (.aload_n 0, 1) := by decide +kernel
theorem dJx4a65c_add_9ea2d_11 : decode cJx4a65c_add_9ea2d 11 = .ok (.aload_n 1, 1) := by decide +kernel
theorem dJx4a65c_add_9ea2d_12 : decode cJx4a65c_add_9ea2d 12 = .ok (.aload_n 0, 1) := by decide +kernel
theorem dJx4a65c_add_9ea2d_13 : decode cJx4a65c_add_9ea2d 13 = .ok (.getfield 9, 3) := by decide +kernel
theorem dJx4a65c_add_9ea2d_16 : decode cJx4a65c_add_9ea2d 16 = .ok (.aload_n 0, 1) := by decide +kernel
theorem dJx4a65c_add_9ea2d_17 : decode cJx4a65c_add_9ea2d 17 = .ok (.getfield 48, 3) := by decide +kernel
theorem dJx4a65c_add_9ea2d_2 : decode cJx4a65c_add_9ea2d 2 = .ok (.getfield 63, 3) := by decide +kernel
theorem dJx4a65c_add_9ea2d_20 : decode cJx4a65c_add_9ea2d 20 = .ok (.invokevirtual 131, 3) := by decide +kernel
theorem dJx4a65c_add_9ea2d_23 : decode cJx4a65c_add_9ea2d 23 = .ok (.iconst 1, 1) := by decide +kernel
theorem dJx4a65c_add_9ea2d_24 : decode cJx4a65c_add_9ea2d 24 = .ok (.ireturn, 1) := by decide +kernel
theorem dJx4a65c_add_9ea2d_5 : decode cJx4a65c_add_9ea2d 5 = .ok (.iconst 1, 1) := by decide +kernel
theorem dJx4a65c_add_9ea2d_6 : decode cJx4a65c_add_9ea2d 6 = .ok (.iadd, 1) := by decide +kernel
theorem dJx4a65c_add_9ea2d_7 : decode cJx4a65c_add_9ea2d 7 = .ok (.putfield 63, 3) := by decide +kernel
theorem dJx4a65c_grow_92f84_0 : decode cJx4a65c_grow_92f84 0 = .ok (.aload_n 0, 1) := by decide +kernel
theorem dJx4a65c_grow_92f84_1 : decode cJx4a65c_grow_92f84 1 = .ok (.getfield 9, 3) := by decide +kernel
theorem dJx4a65c_grow_92f84_10 : decode cJx4a65c_grow_92f84 10 = .ok (.aload_n 0, 1) := by decide +kernel
theorem dJx4a65c_grow_92f84_11 : decode cJx4a65c_grow_92f84 11 = .ok (.getfield 9, 3) := by decide +kernel
theorem dJx4a65c_grow_92f84_14 : decode cJx4a65c_grow_92f84 14 = .ok (.getstatic 39, 3) := by decide +kernel
theorem dJx4a65c_grow_92f84_17 : decode cJx4a65c_grow_92f84 17 = .ok (.if_acmp .eq 28, 3) := by decide +kernel
theorem dJx4a65c_grow_92f84_4 : decode cJx4a65c_grow_92f84 4 = .ok (.arraylength, 1) := by decide +kernel
theorem dJx4a65c_grow_92f84_45 : decode cJx4a65c_grow_92f84 45 = .ok (.aload_n 0, 1) := by decide +kernel
theorem dJx4a65c_grow_92f84_46 : decode cJx4a65c_grow_92f84 46 = .ok (.bipush 10, 2) := by decide +kernel
theorem dJx4a65c_grow_92f84_48 : decode cJx4a65c_grow_92f84 48 = .ok (.iload_n 1, 1) := by decide +kernel
theorem dJx4a65c_grow_92f84_49 : decode cJx4a65c_grow_92f84 49 = .ok (.invokestatic 79, 3) := by decide +kernel
theorem dJx4a65c_grow_92f84_5 : decode cJx4a65c_grow_92f84 5 = .ok (.istore_n 2, 1) := by decide +kernel
theorem dJx4a65c_grow_92f84_52 : decode cJx4a65c_grow_92f84 52 = .ok (.anewarray 7, 3) := by decide +kernel
theorem dJx4a65c_grow_92f84_55 : decode cJx4a65c_grow_92f84 55 = .ok (.dup_x1, 1) := by decide +kernel
theorem dJx4a65c_grow_92f84_56 : decode cJx4a65c_grow_92f84 56 = .ok (.putfield 9, 3) := by decide +kernel
theorem dJx4a65c_grow_92f84_59 : decode cJx4a65c_grow_92f84 59 = .ok (.areturn, 1) := by decide +kernel
theorem dJx4a65c_grow_92f84_6 : decode cJx4a65c_grow_92f84 6 = .ok (.iload_n 2, 1) := by decide +kernel
theorem dJx4a65c_grow_92f84_7 : decode cJx4a65c_grow_92f84 7 = .ok (.ifCond .gt 13, 3) := by decide +kernel
theorem dJx4a65c_grow_d5877_0 : decode cJx4a65c_grow_d5877 0 = .ok (.aload_n 0, 1) := by decide +kernel
theorem dJx4a65c_grow_d5877_1 : decode cJx4a65c_grow_d5877 1 = .ok (.aload_n 0, 1) := by decide +kernel
theorem dJx4a65c_grow_d5877_10 : decode cJx4a65c_grow_d5877 10 = .ok (.areturn, 1) := by decide +kernel
theorem dJx4a65c_grow_d5877_2 : decode cJx4a65c_grow_d5877 2 = .ok (.getfield 48, 3) := by decide +kernel
theorem dJx4a65c_grow_d5877_5 : decode cJx4a65c_grow_d5877 5 = .ok (.iconst 1, 1) := by decide +kernel
theorem dJx4a65c_grow_d5877_6 : decode cJx4a65c_grow_d5877 6 = .ok (.iadd, 1) := by decide +kernel
theorem dJx4a65c_grow_d5877_7 : decode cJx4a65c_grow_d5877 7 = .ok (.invokevirtual 69, 3) := by decide +kernel
theorem dJx4a65c_init_da8c8_0 : decode cJx4a65c_init_da8c8 0 = .ok (.aload_n 0, 1) := by decide +kernel
theorem dJx4a65c_init_da8c8_1 : decode cJx4a65c_init_da8c8 1 = .ok (.invokespecial 1, 3) := by decide +kernel
theorem dJx4a65c_init_da8c8_11 : decode cJx4a65c_init_da8c8 11 = .ok (.return_, 1) := by decide +kernel
theorem dJx4a65c_init_da8c8_4 : decode cJx4a65c_init_da8c8 4 = .ok (.aload_n 0, 1) := by decide +kernel
theorem dJx4a65c_init_da8c8_5 : decode cJx4a65c_init_da8c8 5 = .ok (.getstatic 39, 3) := by decide +kernel
theorem dJx4a65c_init_da8c8_8 : decode cJx4a65c_init_da8c8 8 = .ok (.putfield 9, 3) := by decide +kernel
theorem dJx4a65c_isEmpty_aae02_0 : decode cJx4a65c_isEmpty_aae02 0 = .ok (.aload_n 0, 1) := by decide +kernel
theorem dJx4a65c_isEmpty_aae02_1 : decode cJx4a65c_isEmpty_aae02 1 = .ok (.getfield 48, 3) := by decide +kernel
theorem dJx4a65c_isEmpty_aae02_12 : decode cJx4a65c_isEmpty_aae02 12 = .ok (.ireturn, 1) := by decide +kernel
theorem dJx4a65c_isEmpty_aae02_4 : decode cJx4a65c_isEmpty_aae02 4 = .ok (.ifCond .ne 7, 3) := by decide +kernel
theorem dJx4a65c_isEmpty_aae02_7 : decode cJx4a65c_isEmpty_aae02 7 = .ok (.iconst 1, 1) := by decide +kernel
theorem dJx4a65c_isEmpty_aae02_8 : decode cJx4a65c_isEmpty_aae02 8 = .ok (.goto 4, 3) := by decide +kernel
theorem dJx4a65c_iterator_32c93_0 : decode cJx4a65c_iterator_32c93 0 = .ok (.new 267, 3) := by decide +kernel
theorem dJx4a65c_iterator_32c93_3 : decode cJx4a65c_iterator_32c93 3 = .ok (.dup, 1) := by decide +kernel
theorem dJx4a65c_iterator_32c93_4 : decode cJx4a65c_iterator_32c93 4 = .ok (.aload_n 0, 1) := by decide +kernel
theorem dJx4a65c_iterator_32c93_5 : decode cJx4a65c_iterator_32c93 5 = .ok (.invokespecial 269, 3) := by decide +kernel
theorem dJx4a65c_iterator_32c93_8 : decode cJx4a65c_iterator_32c93 8 = .ok (.areturn, 1) := by decide +kernel
theorem dJxa1e45_init_da8c8_0 : decode cJxa1e45_init_da8c8 0 = .ok (.aload_n 0, 1) := by decide +kernel
theorem dJxa1e45_init_da8c8_1 : decode cJxa1e45_init_da8c8 1 = .ok (.invokespecial 1, 3) := by decide +kernel
theorem dJxa1e45_init_da8c8_4 : decode cJxa1e45_init_da8c8 4 = .ok (.return_, 1) := by decide +kernel
theorem dJxc12de_init_da8c8_0 : decode cJxc12de_init_da8c8 0 = .ok (.aload_n 0, 1) := by decide +kernel
theorem dJxc12de_init_da8c8_1 : decode cJxc12de_init_da8c8 1 = .ok (.invokespecial 1, 3) := by decide +kernel
theorem dJxc12de_init_da8c8_4 : decode cJxc12de_init_da8c8 4 = .ok (.aload_n 0, 1) := by decide +kernel
theorem dJxc12de_init_da8c8_5 : decode cJxc12de_init_da8c8 5 = .ok (.iconst 0, 1) := by decide +kernel
theorem dJxc12de_init_da8c8_6 : decode cJxc12de_init_da8c8 6 = .ok (.putfield 7, 3) := by decide +kernel
theorem dJxc12de_init_da8c8_9 : decode cJxc12de_init_da8c8 9 = .ok (.return_, 1) := by decide +kernel
abbrev wz_Jxa1e45_init_da8c8 : List Cond := .code yJxa1e45_init_da8c8 cJxa1e45_init_da8c8 1 none :: lw_good
set_option maxHeartbeats 4000000 in
set_option maxRecDepth 100000 in
/-- AbstractCollection() -/
theorem k_Jxa1e45_init_da8c8 (l : Launch) (G : va_G) (z : Nat) (h0 : Nat) (sz : Nat)  : Met l yJxa1e45_init_da8c8 wz_Jxa1e45_init_da8c8 ({ frames := 1, cells := 0, slots := 0, locals := 20 }) (va_Pc [.ref h0] (PR G z [] [] sz)) (va_Qv (fun (_ : Unit) => True) (fun (_ : Unit) (_ : State) => True) (zN sz)) 0 0 (zN sz) := by
  refine va_MetF (cc := cJxa1e45_init_da8c8) (maxL := 1) (ret := none) (by decide) rfl ?_
  intro p e s m args below meth c s₁ B hml hv
  obtain ⟨rfl, rfl, hP, hK, hG⟩ := hv
  have hx := B.exec
  have hb := B.bytes
  have hr := B.returns
  have hts := atoms_spec (ws := wz_Jxa1e45_init_da8c8) B.pre
  have hg : ∀ w ∈ lw_good, w.before _ s = true := fun w h => hts w (List.mem_cons_of_mem _ h)
  have hown : s.vm.findClass RJxa1e45 = some m.cls := findClass_of_methodNamed B.named
  have hlocks := B.notSynchronized
  have hin : meth.name = "<init>" := (name_of_methodNamed B.named B.method).1
  have hA : ∀ q : Nat, s.heap.size ≤ q → zN s.heap.size q := fun _ h => h
  have hS : va_S (zN s.heap.size) s.heap s.heap [] := va_S.rf
  have hl := lv_entry ([.ref h0]) (n := 1) (Nat.le_of_ble_eq_true rfl)
  rw [lg_entry_eq]
  generalize (lg_sl ([.ref h0]) ++ List.replicate (1 - (lg_sl ([.ref h0])).length) Slot.unset).toArray = ls at hl ⊢
  have hl : lv_has ls 1 [(0, .ref h0)] := hl
  refine lv_aload_n hx hb dJxa1e45_init_da8c8_0 rfl (lv_at hl 0 rfl) ?_
  refine W.objInit hx hb hown (hg _ q56) (hg _ q43) (hg _ q44) rfl (by rw [hml]; exact hl.1) rfl dJxa1e45_init_da8c8_1 (Nat.le_of_ble_eq_true rfl) (Nat.le_of_ble_eq_true rfl) ?_
  refine W.eq (g2 := F0 m 4 ls []) rfl ?_
  refine W.widen (k := 0) (n := 0) (Nat.le_of_ble_eq_true rfl) (Nat.le_of_ble_eq_true rfl) ?_
  exact W.vret hx hb hr (fun t ht hW => ⟨⟨(), rfl, trivial, trivial⟩, hS.F ht⟩) hS.2.2 dJxa1e45_init_da8c8_4

abbrev wz_Jxc12de_init_da8c8 : List Cond := .code yJxc12de_init_da8c8 cJxc12de_init_da8c8 1 none :: lw_good
set_option maxHeartbeats 4000000 in
set_option maxRecDepth 100000 in
/-- AbstractList() -/
theorem k_Jxc12de_init_da8c8 (l : Launch) (G : va_G) (z : Nat) (h0 : Nat) (c0 : Int32) (x1 : Value) (x2 : Value) (sz : Nat)  : Met l yJxc12de_init_da8c8 wz_Jxc12de_init_da8c8 ({ frames := 2, cells := 0, slots := 0, locals := 40 }) (va_Pc [.ref h0] (PW G z [(h0, .inr (3, [.int c0, x1, x2]))] [] sz)) (va_Qv (fun (_ : Unit) => True) (fun (_ : Unit) (t : State) => QW G [(h0, .inr (3, [.int 0, x1, x2]))] [] (va_A [(h0, .inr (3, [.int c0, x1, x2]))] sz) t) (va_A [(h0, .inr (3, [.int c0, x1, x2]))] sz)) 0 0 (va_A [(h0, .inr (3, [.int c0, x1, x2]))] sz) := by
  refine va_MetF (cc := cJxc12de_init_da8c8) (maxL := 1) (ret := none) (by decide) rfl ?_
  intro p e s m args below meth c s₁ B hml hv
  obtain ⟨rfl, rfl, hP, hK, hD0, hG⟩ := hv
  have hx := B.exec
  have hb := B.bytes
  have hr := B.returns
  have hts := atoms_spec (ws := wz_Jxc12de_init_da8c8) B.pre
  have hg : ∀ w ∈ lw_good, w.before _ s = true := fun w h => hts w (List.mem_cons_of_mem _ h)
  have hown : s.vm.findClass RJxc12de = some m.cls := findClass_of_methodNamed B.named
  have hlocks := B.notSynchronized
  have hin : meth.name = "<init>" := (name_of_methodNamed B.named B.method).1
  have hD := hD0.self (sz := s.heap.size)
  generalize hAe : va_A [(h0, .inr (3, [.int c0, x1, x2]))] s.heap.size = A at hD hG ⊢
  have hA : ∀ q : Nat, s.heap.size ≤ q → A q := fun q h => by rw [← hAe]; exact Or.inr h
  have hS : va_S A s.heap s.heap [] := va_S.rf
  have hl := lv_entry ([.ref h0]) (n := 1) (Nat.le_of_ble_eq_true rfl)
  rw [lg_entry_eq]
  generalize (lg_sl ([.ref h0]) ++ List.replicate (1 - (lg_sl ([.ref h0])).length) Slot.unset).toArray = ls at hl ⊢
  have hl : lv_has ls 1 [(0, .ref h0)] := hl
  refine lv_aload_n hx hb dJxc12de_init_da8c8_0 rfl (lv_at hl 0 rfl) ?_
  have hPc := hP.sub (ws' := []) [] rfl
  have hKc := hK.sub (tys' := []) [] rfl
  refine va_callv (va_runI (As := []) (rest := []) ⟨hx, hb, hml, hown, hts⟩ (k_Jxa1e45_init_da8c8 l G z h0 s.heap.size ) (cwI 0 hts (lw_goodAll q55) rfl rfl rfl (hg _ q2) (hg _ q53) (hg _ q54) rfl (by decide +kernel) ⟨Nat.le_of_ble_eq_true rfl, Nat.le_of_ble_eq_true rfl⟩) ⟨PR.blind, PR.of hPc hKc hG hS hA [.ref h0]⟩ rfl rfl hl.1 rfl (lv_room (Nat.le_of_ble_eq_true rfl)) dJxc12de_init_da8c8_1 ⟨Nat.le_of_ble_eq_true rfl, Nat.le_of_ble_eq_true rfl⟩) hS (fun q h9 h => zN.not h9 h) (fun q h => hA q (Nat.le_trans hS.1 h)) (fun u t_4 H_1 locs ht hvm hw_3 hB hz1 hk1 hS => ?_)
  have hP := hP.grown hk1
  refine W.widen (k := 0) (n := 0) (Nat.le_of_ble_eq_true rfl) (Nat.le_of_ble_eq_true rfl) ?_
  refine lv_aload_n hx hb dJxc12de_init_da8c8_4 rfl (lv_at hl 0 rfl) ?_
  refine lv_iconst (v := 0) hx hb dJxc12de_init_da8c8_5 (by decide) ?_
  refine va_put (D := G) (ci := 3) (v := .int 0) (ty := .int) (C := RJx4a65c) (T := TJx4a65c) (N := 3) hx hb hg in_Jx4a65c tyJx4a65c tyJx4a65c_ok nmJx4a65c hown hK hP hD hS 0 rfl rfl 0 (by decide) (hg _ q63) (fun _ h9 => h9) rfl (by decide +kernel) rfl rfl (Nat.le_of_ble_eq_true rfl) dJxc12de_init_da8c8_6 (fun H_5 locs hP hD hS => ?_)
  have hP : va_P G vwCl ([(h0, .inr (3, [.int 0, x1, x2]))]) H_5 := hP
  have hD : va_D A ([(h0, .inr (3, [.int 0, x1, x2]))]) := hD
  refine W.widen (k := 0) (n := 0) (Nat.le_of_ble_eq_true rfl) (Nat.le_of_ble_eq_true rfl) ?_
  have hP9 := hP.sub (ws' := [(h0, .inr (3, [.int 0, x1, x2]))]) [0] rfl
  have hD9 := hD.sub (ws' := [(h0, .inr (3, [.int 0, x1, x2]))]) [0] (by decide) rfl
  have hK9 := hK.sub (tys' := []) [] rfl
  exact W.vret hx hb hr (fun t ht hW => ⟨⟨(), rfl, trivial, QW.of hP9 hK9 hD9 ht hW.alike⟩, hS.F ht⟩) hS.2.2 dJxc12de_init_da8c8_9

abbrev wz_Jx4a65c_init_da8c8 : List Cond := .code yJx4a65c_init_da8c8 cJx4a65c_init_da8c8 1 none :: lw_good
set_option maxHeartbeats 4000000 in
set_option maxRecDepth 100000 in
/-- ArrayList() -/
theorem k_Jx4a65c_init_da8c8 (l : Launch) (G : va_G) (z : Nat) (h0 : Nat) (c0 : Int32) (x1 : Value) (x2 : Value) (sz : Nat)  : Met l yJx4a65c_init_da8c8 wz_Jx4a65c_init_da8c8 ({ frames := 3, cells := 0, slots := 0, locals := 60 }) (va_Pc [.ref h0] (PW G z [(h0, .inr (3, [.int c0, x1, x2]))] [] sz)) (va_Qv (fun (_ : Unit) => True) (fun (_ : Unit) (t : State) => QW G [(h0, .inr (3, [.int 0, .ref z, x2]))] [] (va_A [(h0, .inr (3, [.int c0, x1, x2]))] sz) t) (va_A [(h0, .inr (3, [.int c0, x1, x2]))] sz)) 0 0 (va_A [(h0, .inr (3, [.int c0, x1, x2]))] sz) := by
  refine va_MetF (cc := cJx4a65c_init_da8c8) (maxL := 1) (ret := none) (by decide) rfl ?_
  intro p e s m args below meth c s₁ B hml hv
  obtain ⟨rfl, rfl, hP, hK, hD0, hG⟩ := hv
  have hx := B.exec
  have hb := B.bytes
  have hr := B.returns
  have hts := atoms_spec (ws := wz_Jx4a65c_init_da8c8) B.pre
  have hg : ∀ w ∈ lw_good, w.before _ s = true := fun w h => hts w (List.mem_cons_of_mem _ h)
  have hown : s.vm.findClass RJx4a65c = some m.cls := findClass_of_methodNamed B.named
  have hlocks := B.notSynchronized
  have hin : meth.name = "<init>" := (name_of_methodNamed B.named B.method).1
  have hD := hD0.self (sz := s.heap.size)
  generalize hAe : va_A [(h0, .inr (3, [.int c0, x1, x2]))] s.heap.size = A at hD hG ⊢
  have hA : ∀ q : Nat, s.heap.size ≤ q → A q := fun q h => by rw [← hAe]; exact Or.inr h
  have hS : va_S A s.heap s.heap [] := va_S.rf
  have hl := lv_entry ([.ref h0]) (n := 1) (Nat.le_of_ble_eq_true rfl)
  rw [lg_entry_eq]
  generalize (lg_sl ([.ref h0]) ++ List.replicate (1 - (lg_sl ([.ref h0])).length) Slot.unset).toArray = ls at hl ⊢
  have hl : lv_has ls 1 [(0, .ref h0)] := hl
  refine lv_aload_n hx hb dJx4a65c_init_da8c8_0 rfl (lv_at hl 0 rfl) ?_
  have hPc := hP.sub (ws' := [(h0, .inr (3, [.int c0, x1, x2]))]) [0] rfl
  have hKc := hK.sub (tys' := []) [] rfl
  have hDc := hD.sub (ws' := [(h0, .inr (3, [.int c0, x1, x2]))]) [0] (by decide) rfl
  have hFc := va_free (wc := [(h0, .inr (3, [.int c0, x1, x2]))]) hD hS hA [0] rfl
  refine va_callv (va_runI (As := []) (rest := []) ⟨hx, hb, hml, hown, hts⟩ (k_Jxc12de_init_da8c8 l G z h0 c0 x1 x2 s.heap.size ) (cwI 0 hts (lw_goodAll q52) rfl rfl rfl (hg _ q3) (hg _ q50) (hg _ q51) rfl (by decide +kernel) ⟨Nat.le_of_ble_eq_true rfl, Nat.le_of_ble_eq_true rfl⟩) ⟨PW.blind, PW.of hPc hKc hDc hG hS hFc [.ref h0]⟩ rfl rfl hl.1 rfl (lv_room (Nat.le_of_ble_eq_true rfl)) dJx4a65c_init_da8c8_1 ⟨Nat.le_of_ble_eq_true rfl, Nat.le_of_ble_eq_true rfl⟩) hS (fun q _ h => hFc q h) hFc (fun u t_4 H_1 locs ht hvm hw_3 hB hz1 hk1 hS => ?_)
  obtain ⟨hP, hD, hK⟩ := QW.join (wr := []) (w1 := [(h0, .inr (3, [.int 0, x1, x2]))]) hP hD hK [0] [] rfl rfl (by decide) (by decide) hk1 hFc ht hvm hB
  have hP : va_P G vwCl ([(h0, .inr (3, [.int 0, x1, x2]))]) H_1 := hP
  have hD : va_D A ([(h0, .inr (3, [.int 0, x1, x2]))]) := hD
  have hK : va_K G vwCl [] s := hK
  refine W.widen (k := 0) (n := 0) (Nat.le_of_ble_eq_true rfl) (Nat.le_of_ble_eq_true rfl) ?_
  refine lv_aload_n hx hb dJx4a65c_init_da8c8_4 rfl (lv_at hl 0 rfl) ?_
  refine va_gets hx hb hG.2.2.1 hS hown (hg _ q57) (fun _ h9 => h9) dJx4a65c_init_da8c8_5 ?_
  refine va_put (D := G) (ci := 3) (v := .ref z) (ty := .array (.object "java/lang/Object")) (C := RJx4a65c) (T := TJx4a65c) (N := 3) hx hb hg in_Jx4a65c tyJx4a65c tyJx4a65c_ok nmJx4a65c hown hK hP hD hS 0 rfl rfl 1 (by decide) (hg _ q59) (fun _ h9 => h9) rfl (by decide +kernel) rfl rfl (Nat.le_of_ble_eq_true rfl) dJx4a65c_init_da8c8_8 (fun H_5 locs hP hD hS => ?_)
  have hP : va_P G vwCl ([(h0, .inr (3, [.int 0, .ref z, x2]))]) H_5 := hP
  have hD : va_D A ([(h0, .inr (3, [.int 0, .ref z, x2]))]) := hD
  refine W.widen (k := 0) (n := 0) (Nat.le_of_ble_eq_true rfl) (Nat.le_of_ble_eq_true rfl) ?_
  have hP9 := hP.sub (ws' := [(h0, .inr (3, [.int 0, .ref z, x2]))]) [0] rfl
  have hD9 := hD.sub (ws' := [(h0, .inr (3, [.int 0, .ref z, x2]))]) [0] (by decide) rfl
  have hK9 := hK.sub (tys' := []) [] rfl
  exact W.vret hx hb hr (fun t ht hW => ⟨⟨(), rfl, trivial, QW.of hP9 hK9 hD9 ht hW.alike⟩, hS.F ht⟩) hS.2.2 dJx4a65c_init_da8c8_11

abbrev wz_Jx4a65c_grow_92f84 : List Cond := .code yJx4a65c_grow_92f84 cJx4a65c_grow_92f84 4 (Option.some (Jvm.ClassFile.FieldType.array (Jvm.ClassFile.FieldType.object "java/lang/Object"))) :: lw_good
set_option maxHeartbeats 4000000 in
set_option maxRecDepth 100000 in
/-- grow(1) of an empty list -/
theorem k_Jx4a65c_grow_92f84 (l : Launch) (G : va_G) (z : Nat) (h0 : Nat) (c0 : Int32) (x2 : Value) (sz : Nat)  : Met l yJx4a65c_grow_92f84 wz_Jx4a65c_grow_92f84 ({ frames := 1, cells := 1, slots := 10, locals := 14 }) (va_Pc [.ref h0, .int 1] (PW G z [(h0, .inr (3, [.int c0, .ref z, x2]))] [] sz)) (va_Qr (fun (_ : Unit) => True) (fun (_ : Unit) (ra : Nat) (t : State) => ∃ (cy : ClassId), QW G [(h0, .inr (3, [.int c0, .ref ra, x2])), (ra, .inl (cy, 10, .inr (.inr (.inr (.inr (fun _ => none))))))] [(cy, .object "java/lang/Object")] (va_A [(h0, .inr (3, [.int c0, .ref z, x2]))] sz) t) (va_A [(h0, .inr (3, [.int c0, .ref z, x2]))] sz)) 1 10 (va_A [(h0, .inr (3, [.int c0, .ref z, x2]))] sz) := by
  refine va_MetF (cc := cJx4a65c_grow_92f84) (maxL := 4) (ret := (Option.some (Jvm.ClassFile.FieldType.array (Jvm.ClassFile.FieldType.object "java/lang/Object")))) (by decide) rfl ?_
  intro p e s m args below meth c s₁ B hml hv
  obtain ⟨rfl, rfl, hP, hK, hD0, hG⟩ := hv
  have hx := B.exec
  have hb := B.bytes
  have hr := B.returns
  have hts := atoms_spec (ws := wz_Jx4a65c_grow_92f84) B.pre
  have hg : ∀ w ∈ lw_good, w.before _ s = true := fun w h => hts w (List.mem_cons_of_mem _ h)
  have hown : s.vm.findClass RJx4a65c = some m.cls := findClass_of_methodNamed B.named
  have hlocks := B.notSynchronized
  have hD := hD0.self (sz := s.heap.size)
  generalize hAe : va_A [(h0, .inr (3, [.int c0, .ref z, x2]))] s.heap.size = A at hD hG ⊢
  have hA : ∀ q : Nat, s.heap.size ≤ q → A q := fun q h => by rw [← hAe]; exact Or.inr h
  have hS : va_S A s.heap s.heap [] := va_S.rf
  have hl := lv_entry ([.ref h0, .int 1]) (n := 4) (Nat.le_of_ble_eq_true rfl)
  rw [lg_entry_eq]
  generalize (lg_sl ([.ref h0, .int 1]) ++ List.replicate (4 - (lg_sl ([.ref h0, .int 1])).length) Slot.unset).toArray = ls at hl ⊢
  have hl : lv_has ls 4 [(0, .ref h0), (1, .int 1)] := hl
  refine lv_aload_n hx hb dJx4a65c_grow_92f84_0 rfl (lv_at hl 0 rfl) ?_
  refine va_get (D := G) (ci := 3) (v := .ref z) (C := RJx4a65c) (T := TJx4a65c) (N := 3) hx hb hg in_Jx4a65c hown hK hP 0 rfl rfl 1 (by decide) (hg _ q59) (fun _ h9 => h9) rfl dJx4a65c_grow_92f84_1 ?_
  refine va_tlen (v := 0) hx hb hG.2.2.2.1 hS rfl dJx4a65c_grow_92f84_4 ?_
  refine lv_istore_n (lv' := [(2, .int 0), (0, .ref h0), (1, .int 1)]) hx hb dJx4a65c_grow_92f84_5 rfl hl (by decide) rfl (fun ls hl => ?_)
  refine lv_iload_n hx hb dJx4a65c_grow_92f84_6 rfl (lv_at hl 0 rfl) ?_
  refine lv_if_gt (tgt := 20) hx hb dJx4a65c_grow_92f84_7 (by decide) (fun c_1 => absurd c_1 (by decide)) (fun c_1 => ?_)
  refine lv_aload_n hx hb dJx4a65c_grow_92f84_10 rfl (lv_at hl 1 rfl) ?_
  refine va_get (D := G) (ci := 3) (v := .ref z) (C := RJx4a65c) (T := TJx4a65c) (N := 3) hx hb hg in_Jx4a65c hown hK hP 0 rfl rfl 1 (by decide) (hg _ q59) (fun _ h9 => h9) rfl dJx4a65c_grow_92f84_11 ?_
  refine va_gets hx hb hG.2.2.1 hS hown (hg _ q57) (fun _ h9 => h9) dJx4a65c_grow_92f84_14 ?_
  refine lv_acmp_eq (rx := some z) (ry := some z) (tgt := 45) hx hb dJx4a65c_grow_92f84_17 (by decide) (fun c_2 => ?_) (fun c_2 => absurd rfl c_2)
  refine lv_aload_n hx hb dJx4a65c_grow_92f84_45 rfl (lv_at hl 1 rfl) ?_
  refine lv_bipush (v := 10) hx hb dJx4a65c_grow_92f84_46 (by decide) ?_
  refine lv_iload_n hx hb dJx4a65c_grow_92f84_48 rfl (lv_at hl 2 rfl) ?_
  refine va_mmax hx hb (by rw [hml]; exact hl.1.symm) hown (hg _ mmax_lJx4a65c79) (hg _ mmax_s) (hg _ q15) (hg _ mmax_c) (Nat.le_of_ble_eq_true rfl) (Nat.le_of_ble_eq_true rfl) (Nat.le_of_ble_eq_true rfl) (Nat.le_of_ble_eq_true rfl) dJx4a65c_grow_92f84_49 ?_
  refine lv_topi (fun f_3 ef_3 => ?_)
  obtain rfl : f_3 = 10 := ef_3.trans (by decide)
  refine va_newq hx hb hown (hg _ q514) hG.2.2.2.2.2.2.1 hK hP hD hS hA (N' := 10) (by decide) (by decide +kernel) (Nat.le_of_ble_eq_true rfl) (Nat.le_of_ble_eq_true rfl) (Nat.le_of_ble_eq_true rfl) dJx4a65c_grow_92f84_52 (fun o_5 cy_4 H_6 hK hP hD hS => ?_)
  have hP : va_P G vwCl ([(h0, .inr (3, [.int c0, .ref z, x2])), (o_5, .inl (cy_4, 10, .inr (.inr (.inr (.inr (fun _ => none))))))]) H_6 := hP
  have hD : va_D A ([(h0, .inr (3, [.int c0, .ref z, x2])), (o_5, .inl (cy_4, 10, .inr (.inr (.inr (.inr (fun _ => none))))))]) := hD
  have hK : va_K G vwCl [(cy_4, .object "java/lang/Object")] s := hK
  refine W.widen (k := 1) (n := 10) (Nat.le_of_ble_eq_true rfl) (Nat.le_of_ble_eq_true rfl) ?_
  refine lv_dup_x1 hx hb dJx4a65c_grow_92f84_55 rfl rfl ?_
  refine va_put (D := G) (ci := 3) (v := .ref o_5) (ty := .array (.object "java/lang/Object")) (C := RJx4a65c) (T := TJx4a65c) (N := 3) hx hb hg in_Jx4a65c tyJx4a65c tyJx4a65c_ok nmJx4a65c hown hK hP hD hS 0 rfl rfl 1 (by decide) (hg _ q59) (fun _ h9 => h9) rfl (by decide +kernel) rfl rfl (Nat.le_of_ble_eq_true rfl) dJx4a65c_grow_92f84_56 (fun H_7 locs hP hD hS => ?_)
  have hP : va_P G vwCl ([(h0, .inr (3, [.int c0, .ref o_5, x2])), (o_5, .inl (cy_4, 10, .inr (.inr (.inr (.inr (fun _ => none))))))]) H_7 := hP
  have hD : va_D A ([(h0, .inr (3, [.int c0, .ref o_5, x2])), (o_5, .inl (cy_4, 10, .inr (.inr (.inr (.inr (fun _ => none))))))]) := hD
  refine W.widen (k := 1) (n := 10) (Nat.le_of_ble_eq_true rfl) (Nat.le_of_ble_eq_true rfl) ?_
  have hP9 := hP.sub (ws' := [(h0, .inr (3, [.int c0, .ref o_5, x2])), (o_5, .inl (cy_4, 10, .inr (.inr (.inr (.inr (fun _ => none))))))]) [0, 1] rfl
  have hD9 := hD.sub (ws' := [(h0, .inr (3, [.int c0, .ref o_5, x2])), (o_5, .inl (cy_4, 10, .inr (.inr (.inr (.inr (fun _ => none))))))]) [0, 1] (by decide) rfl
  have hK9 := hK.sub (tys' := [(cy_4, .object "java/lang/Object")]) [0] rfl
  exact W.aret (v := .ref o_5) hx hb hr (Or.inr ⟨_, rfl⟩) (Or.inr ⟨_, rfl⟩) (fun t ht hW => ⟨⟨(), o_5, rfl, trivial, ⟨cy_4, QW.of hP9 hK9 hD9 ht hW.alike⟩⟩, hS.F ht⟩) hS.2.2 dJx4a65c_grow_92f84_59

abbrev wz_Jx4a65c_grow_d5877 : List Cond := .code yJx4a65c_grow_d5877 cJx4a65c_grow_d5877 1 (Option.some (Jvm.ClassFile.FieldType.array (Jvm.ClassFile.FieldType.object "java/lang/Object"))) :: lw_good
set_option maxHeartbeats 4000000 in
set_option maxRecDepth 100000 in
/-- grow() of an empty list -/
theorem k_Jx4a65c_grow_d5877 (l : Launch) (G : va_G) (z : Nat) (h0 : Nat) (c0 : Int32) (sz : Nat)  : Met l yJx4a65c_grow_d5877 wz_Jx4a65c_grow_d5877 ({ frames := 2, cells := 1, slots := 10, locals := 37 }) (va_Pc [.ref h0] (PW G z [(h0, .inr (3, [.int c0, .ref z, .int 0]))] [] sz)) (va_Qr (fun (_ : Unit) => True) (fun (_ : Unit) (ra : Nat) (t : State) => ∃ (cy : ClassId), QW G [(h0, .inr (3, [.int c0, .ref ra, .int 0])), (ra, .inl (cy, 10, .inr (.inr (.inr (.inr (fun _ => none))))))] [(cy, .object "java/lang/Object")] (va_A [(h0, .inr (3, [.int c0, .ref z, .int 0]))] sz) t) (va_A [(h0, .inr (3, [.int c0, .ref z, .int 0]))] sz)) 1 10 (va_A [(h0, .inr (3, [.int c0, .ref z, .int 0]))] sz) := by
  refine va_MetF (cc := cJx4a65c_grow_d5877) (maxL := 1) (ret := (Option.some (Jvm.ClassFile.FieldType.array (Jvm.ClassFile.FieldType.object "java/lang/Object")))) (by decide) rfl ?_
  intro p e s m args below meth c s₁ B hml hv
  obtain ⟨rfl, rfl, hP, hK, hD0, hG⟩ := hv
  have hx := B.exec
  have hb := B.bytes
  have hr := B.returns
  have hts := atoms_spec (ws := wz_Jx4a65c_grow_d5877) B.pre
  have hg : ∀ w ∈ lw_good, w.before _ s = true := fun w h => hts w (List.mem_cons_of_mem _ h)
  have hown : s.vm.findClass RJx4a65c = some m.cls := findClass_of_methodNamed B.named
  have hlocks := B.notSynchronized
  have hD := hD0.self (sz := s.heap.size)
  generalize hAe : va_A [(h0, .inr (3, [.int c0, .ref z, .int 0]))] s.heap.size = A at hD hG ⊢
  have hA : ∀ q : Nat, s.heap.size ≤ q → A q := fun q h => by rw [← hAe]; exact Or.inr h
  have hS : va_S A s.heap s.heap [] := va_S.rf
  have hl := lv_entry ([.ref h0]) (n := 1) (Nat.le_of_ble_eq_true rfl)
  rw [lg_entry_eq]
  generalize (lg_sl ([.ref h0]) ++ List.replicate (1 - (lg_sl ([.ref h0])).length) Slot.unset).toArray = ls at hl ⊢
  have hl : lv_has ls 1 [(0, .ref h0)] := hl
  refine lv_aload_n hx hb dJx4a65c_grow_d5877_0 rfl (lv_at hl 0 rfl) ?_
  refine lv_aload_n hx hb dJx4a65c_grow_d5877_1 rfl (lv_at hl 0 rfl) ?_
  refine va_get (D := G) (ci := 3) (v := .int 0) (C := RJx4a65c) (T := TJx4a65c) (N := 3) hx hb hg in_Jx4a65c hown hK hP 0 rfl rfl 2 (by decide) (hg _ q62) (fun _ h9 => h9) rfl dJx4a65c_grow_d5877_2 ?_
  refine lv_iconst (v := 1) hx hb dJx4a65c_grow_d5877_5 (by decide) ?_
  refine lv_iadd hx hb dJx4a65c_grow_d5877_6 ?_
  refine lv_topi (fun f_1 ef_1 => ?_)
  obtain rfl : f_1 = 1 := ef_1.trans (by decide)
  have hPc := hP.sub (ws' := [(h0, .inr (3, [.int c0, .ref z, .int 0]))]) [0] rfl
  have hKc := hK.sub (tys' := []) [] rfl
  have hDc := hD.sub (ws' := [(h0, .inr (3, [.int c0, .ref z, .int 0]))]) [0] (by decide) rfl
  have hFc := va_free (wc := [(h0, .inr (3, [.int c0, .ref z, .int 0]))]) hD hS hA [0] rfl
  refine va_callr (va_runV (As := [.int 1]) (rest := []) ⟨hx, hb, hml, hown, hts⟩ (k_Jx4a65c_grow_92f84 l G z h0 c0 (.int 0) s.heap.size ) (cwV 1 hts (lw_goodApp (lw_4 q460 q462 qs13 q4) q463) rfl rfl rfl (by decide +kernel) ⟨Nat.le_of_ble_eq_true rfl, Nat.le_of_ble_eq_true rfl⟩) ⟨PW.blind, va_recv hK hP (ci := 3) (q0 := 0) rfl rfl, PW.of hPc hKc hDc hG hS hFc [.ref h0, .int 1]⟩ rfl rfl hl.1 rfl (lv_room (Nat.le_of_ble_eq_true rfl)) dJx4a65c_grow_d5877_7 ⟨Nat.le_of_ble_eq_true rfl, Nat.le_of_ble_eq_true rfl⟩) hS (fun q _ h => hFc q h) hFc (fun u r_3 t_5 H_2 locs ht hvm hw_4 hB hz1 hk1 hS => ?_)
  obtain ⟨cy_6, hB⟩ := hB
  obtain ⟨hP, hD, hK⟩ := QW.join (wr := []) (w1 := [(h0, .inr (3, [.int c0, .ref r_3, (.int 0)])), (r_3, .inl (cy_6, 10, .inr (.inr (.inr (.inr (fun _ => none))))))]) hP hD hK [0] [] rfl rfl (by decide) (by decide) hk1 hFc ht hvm hB
  have hP : va_P G vwCl ([(h0, .inr (3, [.int c0, .ref r_3, (.int 0)])), (r_3, .inl (cy_6, 10, .inr (.inr (.inr (.inr (fun _ => none))))))]) H_2 := hP
  have hD : va_D A ([(h0, .inr (3, [.int c0, .ref r_3, (.int 0)])), (r_3, .inl (cy_6, 10, .inr (.inr (.inr (.inr (fun _ => none))))))]) := hD
  have hK : va_K G vwCl [(cy_6, .object "java/lang/Object")] s := hK
  refine W.widen (k := 1) (n := 10) (Nat.le_of_ble_eq_true rfl) (Nat.le_of_ble_eq_true rfl) ?_
  refine W.widen (k := 1) (n := 10) (Nat.le_of_ble_eq_true rfl) (Nat.le_of_ble_eq_true rfl) ?_
  have hP9 := hP.sub (ws' := [(h0, .inr (3, [.int c0, .ref r_3, .int 0])), (r_3, .inl (cy_6, 10, .inr (.inr (.inr (.inr (fun _ => none))))))]) [0, 1] rfl
  have hD9 := hD.sub (ws' := [(h0, .inr (3, [.int c0, .ref r_3, .int 0])), (r_3, .inl (cy_6, 10, .inr (.inr (.inr (.inr (fun _ => none))))))]) [0, 1] (by decide) rfl
  have hK9 := hK.sub (tys' := [(cy_6, .object "java/lang/Object")]) [0] rfl
  exact W.aret (v := .ref r_3) hx hb hr (Or.inr ⟨_, rfl⟩) (Or.inr ⟨_, rfl⟩) (fun t ht hW => ⟨⟨(), r_3, rfl, trivial, ⟨cy_6, QW.of hP9 hK9 hD9 ht hW.alike⟩⟩, hS.F ht⟩) hS.2.2 dJx4a65c_grow_d5877_10

abbrev wz_Jx4a65c_add_72be8 : List Cond := .code yJx4a65c_add_72be8 cJx4a65c_add_72be8 4 none :: lw_good
set_option maxHeartbeats 4000000 in
set_option maxRecDepth 100000 in
/-- add(e, empty, 0) -/
theorem k_Jx4a65c_add_72be8 (l : Launch) (G : va_G) (z : Nat) (h0 : Nat) (c0 : Int32) (v : Nat) (ci : Nat) (rc : vw_C) (fs : List Value) (sz : Nat) (hc9 : vwCl[ci]? = some rc) (hca9 : Cond.castable rc.1 "java/lang/Object" ∈ lw_face) : Met l yJx4a65c_add_72be8 wz_Jx4a65c_add_72be8 ({ frames := 3, cells := 1, slots := 10, locals := 57 }) (va_Pc [.ref h0, .ref v, .ref z, .int 0] (PW G z [(h0, .inr (3, [.int c0, .ref z, .int 0])), (v, .inr (ci, fs))] [] sz)) (va_Qv (fun (_ : Unit) => True) (fun (_ : Unit) (t : State) => ∃ (qa : Nat), QW G [(h0, .inr (3, [.int c0, .ref qa, .int 1])), (v, .inr (ci, fs))] [] (va_A [(h0, .inr (3, [.int c0, .ref z, .int 0])), (v, .inr (ci, fs))] sz) t) (va_A [(h0, .inr (3, [.int c0, .ref z, .int 0])), (v, .inr (ci, fs))] sz)) 1 10 (va_A [(h0, .inr (3, [.int c0, .ref z, .int 0])), (v, .inr (ci, fs))] sz) := by
  refine va_MetF (cc := cJx4a65c_add_72be8) (maxL := 4) (ret := none) (by decide) rfl ?_
  intro p e s m args below meth c s₁ B hml hv
  obtain ⟨rfl, rfl, hP, hK, hD0, hG⟩ := hv
  have hx := B.exec
  have hb := B.bytes
  have hr := B.returns
  have hts := atoms_spec (ws := wz_Jx4a65c_add_72be8) B.pre
  have hg : ∀ w ∈ lw_good, w.before _ s = true := fun w h => hts w (List.mem_cons_of_mem _ h)
  have hown : s.vm.findClass RJx4a65c = some m.cls := findClass_of_methodNamed B.named
  have hlocks := B.notSynchronized
  have hD := hD0.self (sz := s.heap.size)
  generalize hAe : va_A [(h0, .inr (3, [.int c0, .ref z, .int 0])), (v, .inr (ci, fs))] s.heap.size = A at hD hG ⊢
  have hA : ∀ q : Nat, s.heap.size ≤ q → A q := fun q h => by rw [← hAe]; exact Or.inr h
  have hS : va_S A s.heap s.heap [] := va_S.rf
  have hl := lv_entry ([.ref h0, .ref v, .ref z, .int 0]) (n := 4) (Nat.le_of_ble_eq_true rfl)
  rw [lg_entry_eq]
  generalize (lg_sl ([.ref h0, .ref v, .ref z, .int 0]) ++ List.replicate (4 - (lg_sl ([.ref h0, .ref v, .ref z, .int 0])).length) Slot.unset).toArray = ls at hl ⊢
  have hl : lv_has ls 4 [(0, .ref h0), (1, .ref v), (2, .ref z), (3, .int 0)] := hl
  refine lv_iload_n hx hb dJx4a65c_add_72be8_0 rfl (lv_at hl 3 rfl) ?_
  refine lv_aload_n hx hb dJx4a65c_add_72be8_1 rfl (lv_at hl 2 rfl) ?_
  refine va_tlen (v := 0) hx hb hG.2.2.2.1 hS rfl dJx4a65c_add_72be8_2 ?_
  refine lv_icmp_ne (tgt := 11) hx hb dJx4a65c_add_72be8_3 (by decide) (fun c_1 => absurd rfl c_1) (fun c_1 => ?_)
  refine lv_aload_n hx hb dJx4a65c_add_72be8_6 rfl (lv_at hl 0 rfl) ?_
  have hPc := hP.sub (ws' := [(h0, .inr (3, [.int c0, .ref z, .int 0]))]) [0] rfl
  have hKc := hK.sub (tys' := []) [] rfl
  have hDc := hD.sub (ws' := [(h0, .inr (3, [.int c0, .ref z, .int 0]))]) [0] (by decide) rfl
  have hFc := va_free (wc := [(h0, .inr (3, [.int c0, .ref z, .int 0]))]) hD hS hA [0] rfl
  refine va_callr (va_runV (As := []) (rest := []) ⟨hx, hb, hml, hown, hts⟩ (k_Jx4a65c_grow_d5877 l G z h0 c0 s.heap.size ) (cwV 0 hts (lw_goodApp (lw_4 q456 q458 qs12 q4) q459) rfl rfl rfl (by decide +kernel) ⟨Nat.le_of_ble_eq_true rfl, Nat.le_of_ble_eq_true rfl⟩) ⟨PW.blind, va_recv hK hP (ci := 3) (q0 := 0) rfl rfl, PW.of hPc hKc hDc hG hS hFc [.ref h0]⟩ rfl rfl hl.1 rfl (lv_room (Nat.le_of_ble_eq_true rfl)) dJx4a65c_add_72be8_7 ⟨Nat.le_of_ble_eq_true rfl, Nat.le_of_ble_eq_true rfl⟩) hS (fun q _ h => hFc q h) hFc (fun u r_3 t_5 H_2 locs ht hvm hw_4 hB hz1 hk1 hS => ?_)
  obtain ⟨cy_6, hB⟩ := hB
  obtain ⟨hP, hD, hK⟩ := QW.join (wr := [(v, .inr (ci, fs))]) (w1 := [(h0, .inr (3, [.int c0, .ref r_3, .int 0])), (r_3, .inl (cy_6, 10, .inr (.inr (.inr (.inr (fun _ => none))))))]) hP hD hK [0] [1] rfl rfl (by decide) (by decide) hk1 hFc ht hvm hB
  have hP : va_P G vwCl ([(v, .inr (ci, fs)), (h0, .inr (3, [.int c0, .ref r_3, .int 0])), (r_3, .inl (cy_6, 10, .inr (.inr (.inr (.inr (fun _ => none))))))]) H_2 := hP
  have hD : va_D A ([(v, .inr (ci, fs)), (h0, .inr (3, [.int c0, .ref r_3, .int 0])), (r_3, .inl (cy_6, 10, .inr (.inr (.inr (.inr (fun _ => none))))))]) := hD
  have hK : va_K G vwCl [(cy_6, .object "java/lang/Object")] s := hK
  refine W.widen (k := 1) (n := 10) (Nat.le_of_ble_eq_true rfl) (Nat.le_of_ble_eq_true rfl) ?_
  refine lv_astore_n (lv' := [(2, .ref r_3), (0, .ref h0), (1, .ref v), (3, .int 0)]) hx hb dJx4a65c_add_72be8_10 rfl hl (by decide) rfl (fun ls hl => ?_)
  refine lv_aload_n hx hb dJx4a65c_add_72be8_11 rfl (lv_at hl 0 rfl) ?_
  refine lv_iload_n hx hb dJx4a65c_add_72be8_12 rfl (lv_at hl 3 rfl) ?_
  refine lv_aload_n hx hb dJx4a65c_add_72be8_13 rfl (lv_at hl 2 rfl) ?_
  refine va_astqO hx hb hK hP hD hS 2 0 0 ci rfl rfl (hG.2.2.2.2.1 _ hca9) rfl hc9 (by unfold vp_in; decide +kernel) dJx4a65c_add_72be8_14 (fun H_7 locs hP hD hS => ?_)
  have hP : va_P G vwCl ([(v, .inr (ci, fs)), (h0, .inr (3, [.int c0, .ref r_3, .int 0])), (r_3, .inl (cy_6, 10, .inr (.inr (.inr (.inr (va_up (fun _ => none) (0 : Int32).toNatClampNeg (some v)))))))]) H_7 := hP
  have hD : va_D A ([(v, .inr (ci, fs)), (h0, .inr (3, [.int c0, .ref r_3, .int 0])), (r_3, .inl (cy_6, 10, .inr (.inr (.inr (.inr (va_up (fun _ => none) (0 : Int32).toNatClampNeg (some v)))))))]) := hD
  refine lv_aload_n hx hb dJx4a65c_add_72be8_15 rfl (lv_at hl 1 rfl) ?_
  refine lv_iload_n hx hb dJx4a65c_add_72be8_16 rfl (lv_at hl 3 rfl) ?_
  refine lv_iconst (v := 1) hx hb dJx4a65c_add_72be8_17 (by decide) ?_
  refine lv_iadd hx hb dJx4a65c_add_72be8_18 ?_
  refine lv_topi (fun f_8 ef_8 => ?_)
  obtain rfl : f_8 = 1 := ef_8.trans (by decide)
  refine va_put (D := G) (ci := 3) (v := .int 1) (ty := .int) (C := RJx4a65c) (T := TJx4a65c) (N := 3) hx hb hg in_Jx4a65c tyJx4a65c tyJx4a65c_ok nmJx4a65c hown hK hP hD hS 1 rfl rfl 2 (by decide) (hg _ q62) (fun _ h9 => h9) rfl (by decide +kernel) rfl rfl (Nat.le_of_ble_eq_true rfl) dJx4a65c_add_72be8_19 (fun H_9 locs hP hD hS => ?_)
  have hP : va_P G vwCl ([(v, .inr (ci, fs)), (h0, .inr (3, [.int c0, .ref r_3, .int 1])), (r_3, .inl (cy_6, 10, .inr (.inr (.inr (.inr (va_up (fun _ => none) (0 : Int32).toNatClampNeg (some v)))))))]) H_9 := hP
  have hD : va_D A ([(v, .inr (ci, fs)), (h0, .inr (3, [.int c0, .ref r_3, .int 1])), (r_3, .inl (cy_6, 10, .inr (.inr (.inr (.inr (va_up (fun _ => none) (0 : Int32).toNatClampNeg (some v)))))))]) := hD
  refine W.widen (k := 1) (n := 10) (Nat.le_of_ble_eq_true rfl) (Nat.le_of_ble_eq_true rfl) ?_
  have hP9 := hP.sub (ws' := [(h0, .inr (3, [.int c0, .ref r_3, .int 1])), (v, .inr (ci, fs))]) [1, 0] rfl
  have hD9 := hD.sub (ws' := [(h0, .inr (3, [.int c0, .ref r_3, .int 1])), (v, .inr (ci, fs))]) [1, 0] (by decide) rfl
  have hK9 := hK.sub (tys' := []) [] rfl
  exact W.vret hx hb hr (fun t ht hW => ⟨⟨(), rfl, trivial, ⟨r_3, QW.of hP9 hK9 hD9 ht hW.alike⟩⟩, hS.F ht⟩) hS.2.2 dJx4a65c_add_72be8_22

abbrev wz_Jx4a65c_add_9ea2d : List Cond := .code yJx4a65c_add_9ea2d cJx4a65c_add_9ea2d 2 (Option.some Jvm.ClassFile.FieldType.boolean) :: lw_good
set_option maxHeartbeats 4000000 in
set_option maxRecDepth 100000 in
/-- add(e) to an empty list -/
theorem k_Jx4a65c_add_9ea2d (l : Launch) (G : va_G) (z : Nat) (h0 : Nat) (c0 : Int32) (v : Nat) (ci : Nat) (rc : vw_C) (fs : List Value) (sz : Nat) (hc9 : vwCl[ci]? = some rc) (hca9 : Cond.castable rc.1 "java/lang/Object" ∈ lw_face) : Met l yJx4a65c_add_9ea2d wz_Jx4a65c_add_9ea2d ({ frames := 4, cells := 1, slots := 10, locals := 80 }) (va_Pc [.ref h0, .ref v] (PW G z [(h0, .inr (3, [.int c0, .ref z, .int 0])), (v, .inr (ci, fs))] [] sz)) (va_Qi (fun (r : Int32) (_ : Unit) => r = 1) (fun (_ : Unit) (t : State) => ∃ (c1 : Int32), ∃ (qa : Nat), QW G [(h0, .inr (3, [.int c1, .ref qa, .int 1])), (v, .inr (ci, fs))] [] (va_A [(h0, .inr (3, [.int c0, .ref z, .int 0])), (v, .inr (ci, fs))] sz) t) (va_A [(h0, .inr (3, [.int c0, .ref z, .int 0])), (v, .inr (ci, fs))] sz)) 1 10 (va_A [(h0, .inr (3, [.int c0, .ref z, .int 0])), (v, .inr (ci, fs))] sz) := by
  refine va_MetF (cc := cJx4a65c_add_9ea2d) (maxL := 2) (ret := (Option.some Jvm.ClassFile.FieldType.boolean)) (by decide) rfl ?_
  intro p e s m args below meth c s₁ B hml hv
  obtain ⟨rfl, rfl, hP, hK, hD0, hG⟩ := hv
  have hx := B.exec
  have hb := B.bytes
  have hr := B.returns
  have hts := atoms_spec (ws := wz_Jx4a65c_add_9ea2d) B.pre
  have hg : ∀ w ∈ lw_good, w.before _ s = true := fun w h => hts w (List.mem_cons_of_mem _ h)
  have hown : s.vm.findClass RJx4a65c = some m.cls := findClass_of_methodNamed B.named
  have hlocks := B.notSynchronized
  have hD := hD0.self (sz := s.heap.size)
  generalize hAe : va_A [(h0, .inr (3, [.int c0, .ref z, .int 0])), (v, .inr (ci, fs))] s.heap.size = A at hD hG ⊢
  have hA : ∀ q : Nat, s.heap.size ≤ q → A q := fun q h => by rw [← hAe]; exact Or.inr h
  have hS : va_S A s.heap s.heap [] := va_S.rf
  have hl := lv_entry ([.ref h0, .ref v]) (n := 2) (Nat.le_of_ble_eq_true rfl)
  rw [lg_entry_eq]
  generalize (lg_sl ([.ref h0, .ref v]) ++ List.replicate (2 - (lg_sl ([.ref h0, .ref v])).length) Slot.unset).toArray = ls at hl ⊢
  have hl : lv_has ls 2 [(0, .ref h0), (1, .ref v)] := hl
  refine lv_aload_n hx hb dJx4a65c_add_9ea2d_0 rfl (lv_at hl 0 rfl) ?_
  refine lv_dup hx hb dJx4a65c_add_9ea2d_1 rfl ?_
  refine va_get (D := G) (ci := 3) (v := .int c0) (C := RJx4a65c) (T := TJx4a65c) (N := 3) hx hb hg in_Jx4a65c hown hK hP 0 rfl rfl 0 (by decide) (hg _ q66) (fun x9 h9 => u_same (hg _ q65) x9 h9) rfl dJx4a65c_add_9ea2d_2 ?_
  refine lv_iconst (v := 1) hx hb dJx4a65c_add_9ea2d_5 (by decide) ?_
  refine lv_iadd hx hb dJx4a65c_add_9ea2d_6 ?_
  refine lv_topi (fun f_1 ef_1 => ?_)
  refine va_put (D := G) (ci := 3) (v := .int f_1) (ty := .int) (C := RJx4a65c) (T := TJx4a65c) (N := 3) hx hb hg in_Jx4a65c tyJx4a65c tyJx4a65c_ok nmJx4a65c hown hK hP hD hS 0 rfl rfl 0 (by decide) (hg _ q66) (fun x9 h9 => u_same (hg _ q65) x9 h9) rfl (by decide +kernel) rfl rfl (Nat.le_of_ble_eq_true rfl) dJx4a65c_add_9ea2d_7 (fun H_2 locs hP hD hS => ?_)
  have hP : va_P G vwCl ([(h0, .inr (3, [.int f_1, .ref z, .int 0])), (v, .inr (ci, fs))]) H_2 := hP
  have hD : va_D A ([(h0, .inr (3, [.int f_1, .ref z, .int 0])), (v, .inr (ci, fs))]) := hD
  refine lv_aload_n hx hb dJx4a65c_add_9ea2d_10 rfl (lv_at hl 0 rfl) ?_
  refine lv_aload_n hx hb dJx4a65c_add_9ea2d_11 rfl (lv_at hl 1 rfl) ?_
  refine lv_aload_n hx hb dJx4a65c_add_9ea2d_12 rfl (lv_at hl 0 rfl) ?_
  refine va_get (D := G) (ci := 3) (v := .ref z) (C := RJx4a65c) (T := TJx4a65c) (N := 3) hx hb hg in_Jx4a65c hown hK hP 0 rfl rfl 1 (by decide) (hg _ q59) (fun _ h9 => h9) rfl dJx4a65c_add_9ea2d_13 ?_
  refine lv_aload_n hx hb dJx4a65c_add_9ea2d_16 rfl (lv_at hl 0 rfl) ?_
  refine va_get (D := G) (ci := 3) (v := .int 0) (C := RJx4a65c) (T := TJx4a65c) (N := 3) hx hb hg in_Jx4a65c hown hK hP 0 rfl rfl 2 (by decide) (hg _ q62) (fun _ h9 => h9) rfl dJx4a65c_add_9ea2d_17 ?_
  have hPc := hP.sub (ws' := [(h0, .inr (3, [.int f_1, .ref z, .int 0])), (v, .inr (ci, fs))]) [0, 1] rfl
  have hKc := hK.sub (tys' := []) [] rfl
  have hDc := hD.sub (ws' := [(h0, .inr (3, [.int f_1, .ref z, .int 0])), (v, .inr (ci, fs))]) [0, 1] (by decide) rfl
  have hFc := va_free (wc := [(h0, .inr (3, [.int f_1, .ref z, .int 0])), (v, .inr (ci, fs))]) hD hS hA [0, 1] rfl
  refine va_callv (va_runV (As := [.ref v, .ref z, .int 0]) (rest := []) ⟨hx, hb, hml, hown, hts⟩ (k_Jx4a65c_add_72be8 l G z h0 f_1 v ci rc fs H_2.size hc9 hca9) (cwV 3 hts (lw_goodApp (lw_4 q452 q454 qs11 q4) q455) rfl rfl rfl (by decide +kernel) ⟨Nat.le_of_ble_eq_true rfl, Nat.le_of_ble_eq_true rfl⟩) ⟨PW.blind, va_recv hK hP (ci := 3) (q0 := 0) rfl rfl, PW.of hPc hKc hDc hG hS hFc [.ref h0, .ref v, .ref z, .int 0]⟩ rfl rfl hl.1 rfl (lv_room (Nat.le_of_ble_eq_true rfl)) dJx4a65c_add_9ea2d_20 ⟨Nat.le_of_ble_eq_true rfl, Nat.le_of_ble_eq_true rfl⟩) hS (fun q _ h => hFc q h) hFc (fun u t_6 H_3 locs ht hvm hw_5 hB hz1 hk1 hS => ?_)
  obtain ⟨qa_7, hB⟩ := hB
  obtain ⟨hP, hD, hK⟩ := QW.join (wr := []) (w1 := [(h0, .inr (3, [.int f_1, .ref qa_7, .int 1])), (v, .inr (ci, fs))]) hP hD hK [0, 1] [] rfl rfl (by decide) (by decide) hk1 hFc ht hvm hB
  have hP : va_P G vwCl ([(h0, .inr (3, [.int f_1, .ref qa_7, .int 1])), (v, .inr (ci, fs))]) H_3 := hP
  have hD : va_D A ([(h0, .inr (3, [.int f_1, .ref qa_7, .int 1])), (v, .inr (ci, fs))]) := hD
  have hK : va_K G vwCl [] s := hK
  refine W.widen (k := 1) (n := 10) (Nat.le_of_ble_eq_true rfl) (Nat.le_of_ble_eq_true rfl) ?_
  refine lv_iconst (v := 1) hx hb dJx4a65c_add_9ea2d_23 (by decide) ?_
  refine W.widen (k := 1) (n := 10) (Nat.le_of_ble_eq_true rfl) (Nat.le_of_ble_eq_true rfl) ?_
  have hP9 := hP.sub (ws' := [(h0, .inr (3, [.int f_1, .ref qa_7, .int 1])), (v, .inr (ci, fs))]) [0, 1] rfl
  have hD9 := hD.sub (ws' := [(h0, .inr (3, [.int f_1, .ref qa_7, .int 1])), (v, .inr (ci, fs))]) [0, 1] (by decide) rfl
  have hK9 := hK.sub (tys' := []) [] rfl
  exact W.zret (v := 1) hx hb hr rfl (fun t ht hW => ⟨⟨1, (), rfl, rfl, ⟨f_1, qa_7, QW.of hP9 hK9 hD9 ht hW.alike⟩⟩, hS.F ht⟩) hS.2.2 dJx4a65c_add_9ea2d_24

abbrev wz_Jx35411_init_45d68 : List Cond := .code yJx35411_init_45d68 cJx35411_init_45d68 2 none :: lw_good
set_option maxHeartbeats 4000000 in
set_option maxRecDepth 100000 in
/-- Itr(list) -/
theorem k_Jx35411_init_45d68 (l : Launch) (G : va_G) (z : Nat) (h0 : Nat) (x1 : Value) (x2 : Value) (x3 : Value) (h1 : Nat) (c0 : Int32) (e0 : Nat) (n0 : Int32) (sz : Nat)  : Met l yJx35411_init_45d68 wz_Jx35411_init_45d68 ({ frames := 1, cells := 0, slots := 0, locals := 20 }) (va_Pc [.ref h0, .ref h1] (PW G z [(h0, .inr (2, [.int 0, x1, x2, x3])), (h1, .inr (3, [.int c0, .ref e0, .int n0]))] [] sz)) (va_Qv (fun (_ : Unit) => True) (fun (_ : Unit) (t : State) => QW G [(h0, .inr (2, [.int 0, .int (-1), .int c0, .ref h1])), (h1, .inr (3, [.int c0, .ref e0, .int n0]))] [] (va_A [(h0, .inr (2, [.int 0, x1, x2, x3])), (h1, .inr (3, [.int c0, .ref e0, .int n0]))] sz) t) (va_A [(h0, .inr (2, [.int 0, x1, x2, x3])), (h1, .inr (3, [.int c0, .ref e0, .int n0]))] sz)) 0 0 (va_A [(h0, .inr (2, [.int 0, x1, x2, x3])), (h1, .inr (3, [.int c0, .ref e0, .int n0]))] sz) := by
  refine va_MetF (cc := cJx35411_init_45d68) (maxL := 2) (ret := none) (by decide) rfl ?_
  intro p e s m args below meth c s₁ B hml hv
  obtain ⟨rfl, rfl, hP, hK, hD0, hG⟩ := hv
  have hx := B.exec
  have hb := B.bytes
  have hr := B.returns
  have hts := atoms_spec (ws := wz_Jx35411_init_45d68) B.pre
  have hg : ∀ w ∈ lw_good, w.before _ s = true := fun w h => hts w (List.mem_cons_of_mem _ h)
  have hown : s.vm.findClass RJx35411 = some m.cls := findClass_of_methodNamed B.named
  have hlocks := B.notSynchronized
  have hin : meth.name = "<init>" := (name_of_methodNamed B.named B.method).1
  have hD := hD0.self (sz := s.heap.size)
  generalize hAe : va_A [(h0, .inr (2, [.int 0, x1, x2, x3])), (h1, .inr (3, [.int c0, .ref e0, .int n0]))] s.heap.size = A at hD hG ⊢
  have hA : ∀ q : Nat, s.heap.size ≤ q → A q := fun q h => by rw [← hAe]; exact Or.inr h
  have hS : va_S A s.heap s.heap [] := va_S.rf
  have hl := lv_entry ([.ref h0, .ref h1]) (n := 2) (Nat.le_of_ble_eq_true rfl)
  rw [lg_entry_eq]
  generalize (lg_sl ([.ref h0, .ref h1]) ++ List.replicate (2 - (lg_sl ([.ref h0, .ref h1])).length) Slot.unset).toArray = ls at hl ⊢
  have hl : lv_has ls 2 [(0, .ref h0), (1, .ref h1)] := hl
  refine lv_aload_n hx hb dJx35411_init_45d68_0 rfl (lv_at hl 0 rfl) ?_
  refine lv_aload_n hx hb dJx35411_init_45d68_1 rfl (lv_at hl 1 rfl) ?_
  refine va_putF (D := G) (ci := 2) (v := .ref h1) (ty := .object "java/util/ArrayList") (C := RJx35411) (T := TJx35411) (N := 4) hx hb hg in_Jx35411 tyJx35411 tyJx35411_ok nmJx35411 hown hK hP hD hS 0 rfl rfl 3 (by decide) (hg _ q1366) (fun _ h9 => h9) rfl hin rfl (by decide +kernel) rfl rfl (Nat.le_of_ble_eq_true rfl) dJx35411_init_45d68_2 (fun H_1 locs hP hD hS => ?_)
  have hP : va_P G vwCl ([(h0, .inr (2, [.int 0, x1, x2, .ref h1])), (h1, .inr (3, [.int c0, .ref e0, .int n0]))]) H_1 := hP
  have hD : va_D A ([(h0, .inr (2, [.int 0, x1, x2, .ref h1])), (h1, .inr (3, [.int c0, .ref e0, .int n0]))]) := hD
  refine lv_aload_n hx hb dJx35411_init_45d68_5 rfl (lv_at hl 0 rfl) ?_
  refine W.objInit hx hb hown (hg _ q1362) (hg _ q43) (hg _ q44) rfl (by rw [hml]; exact hl.1) rfl dJx35411_init_45d68_6 (Nat.le_of_ble_eq_true rfl) (Nat.le_of_ble_eq_true rfl) ?_
  refine W.eq (g2 := F0 m 9 ls []) rfl ?_
  refine lv_aload_n hx hb dJx35411_init_45d68_9 rfl (lv_at hl 0 rfl) ?_
  refine lv_iconst (v := (-1)) hx hb dJx35411_init_45d68_10 (by decide) ?_
  refine va_put (D := G) (ci := 2) (v := .int (-1)) (ty := .int) (C := RJx35411) (T := TJx35411) (N := 4) hx hb hg in_Jx35411 tyJx35411 tyJx35411_ok nmJx35411 hown hK hP hD hS 0 rfl rfl 1 (by decide) (hg _ q1364) (fun _ h9 => h9) rfl (by decide +kernel) rfl rfl (Nat.le_of_ble_eq_true rfl) dJx35411_init_45d68_11 (fun H_2 locs hP hD hS => ?_)
  have hP : va_P G vwCl ([(h0, .inr (2, [.int 0, .int (-1), x2, .ref h1])), (h1, .inr (3, [.int c0, .ref e0, .int n0]))]) H_2 := hP
  have hD : va_D A ([(h0, .inr (2, [.int 0, .int (-1), x2, .ref h1])), (h1, .inr (3, [.int c0, .ref e0, .int n0]))]) := hD
  refine lv_aload_n hx hb dJx35411_init_45d68_14 rfl (lv_at hl 0 rfl) ?_
  refine lv_aload_n hx hb dJx35411_init_45d68_15 rfl (lv_at hl 0 rfl) ?_
  refine va_get (D := G) (ci := 2) (v := .ref h1) (C := RJx35411) (T := TJx35411) (N := 4) hx hb hg in_Jx35411 hown hK hP 0 rfl rfl 3 (by decide) (hg _ q1366) (fun _ h9 => h9) rfl dJx35411_init_45d68_16 ?_
  refine va_get (D := G) (ci := 3) (v := .int c0) (C := RJx4a65c) (T := TJx4a65c) (N := 3) hx hb hg in_Jx4a65c hown hK hP 1 rfl rfl 0 (by decide) (hg _ q64) (fun x9 h9 => u_same (hg _ q65) x9 h9) rfl dJx35411_init_45d68_19 ?_
  refine va_put (D := G) (ci := 2) (v := .int c0) (ty := .int) (C := RJx35411) (T := TJx35411) (N := 4) hx hb hg in_Jx35411 tyJx35411 tyJx35411_ok nmJx35411 hown hK hP hD hS 0 rfl rfl 2 (by decide) (hg _ q1365) (fun _ h9 => h9) rfl (by decide +kernel) rfl rfl (Nat.le_of_ble_eq_true rfl) dJx35411_init_45d68_22 (fun H_3 locs hP hD hS => ?_)
  have hP : va_P G vwCl ([(h0, .inr (2, [.int 0, .int (-1), .int c0, .ref h1])), (h1, .inr (3, [.int c0, .ref e0, .int n0]))]) H_3 := hP
  have hD : va_D A ([(h0, .inr (2, [.int 0, .int (-1), .int c0, .ref h1])), (h1, .inr (3, [.int c0, .ref e0, .int n0]))]) := hD
  refine W.widen (k := 0) (n := 0) (Nat.le_of_ble_eq_true rfl) (Nat.le_of_ble_eq_true rfl) ?_
  have hP9 := hP.sub (ws' := [(h0, .inr (2, [.int 0, .int (-1), .int c0, .ref h1])), (h1, .inr (3, [.int c0, .ref e0, .int n0]))]) [0, 1] rfl
  have hD9 := hD.sub (ws' := [(h0, .inr (2, [.int 0, .int (-1), .int c0, .ref h1])), (h1, .inr (3, [.int c0, .ref e0, .int n0]))]) [0, 1] (by decide) rfl
  have hK9 := hK.sub (tys' := []) [] rfl
  exact W.vret hx hb hr (fun t ht hW => ⟨⟨(), rfl, trivial, QW.of hP9 hK9 hD9 ht hW.alike⟩, hS.F ht⟩) hS.2.2 dJx35411_init_45d68_25

abbrev wz_Jx4a65c_iterator_32c93 : List Cond := .code yJx4a65c_iterator_32c93 cJx4a65c_iterator_32c93 1 (Option.some (Jvm.ClassFile.FieldType.object "java/util/Iterator")) :: lw_good
set_option maxHeartbeats 4000000 in
set_option maxRecDepth 100000 in
/-- iterator() -/
theorem k_Jx4a65c_iterator_32c93 (l : Launch) (G : va_G) (z : Nat) (h0 : Nat) (c0 : Int32) (e0 : Nat) (n0 : Int32) (sz : Nat)  : Met l yJx4a65c_iterator_32c93 wz_Jx4a65c_iterator_32c93 ({ frames := 2, cells := 1, slots := 4, locals := 41 }) (va_Pc [.ref h0] (PW G z [(h0, .inr (3, [.int c0, .ref e0, .int n0]))] [] sz)) (va_Qr (fun (_ : Unit) => True) (fun (_ : Unit) (ra : Nat) (t : State) => QW G [(h0, .inr (3, [.int c0, .ref e0, .int n0])), (ra, .inr (2, [.int 0, .int (-1), .int c0, .ref h0]))] [] (va_A [(h0, .inr (3, [.int c0, .ref e0, .int n0]))] sz) t) (va_A [(h0, .inr (3, [.int c0, .ref e0, .int n0]))] sz)) 1 4 (va_A [(h0, .inr (3, [.int c0, .ref e0, .int n0]))] sz) := by
  refine va_MetF (cc := cJx4a65c_iterator_32c93) (maxL := 1) (ret := (Option.some (Jvm.ClassFile.FieldType.object "java/util/Iterator"))) (by decide) rfl ?_
  intro p e s m args below meth c s₁ B hml hv
  obtain ⟨rfl, rfl, hP, hK, hD0, hG⟩ := hv
  have hx := B.exec
  have hb := B.bytes
  have hr := B.returns
  have hts := atoms_spec (ws := wz_Jx4a65c_iterator_32c93) B.pre
  have hg : ∀ w ∈ lw_good, w.before _ s = true := fun w h => hts w (List.mem_cons_of_mem _ h)
  have hown : s.vm.findClass RJx4a65c = some m.cls := findClass_of_methodNamed B.named
  have hlocks := B.notSynchronized
  have hD := hD0.self (sz := s.heap.size)
  generalize hAe : va_A [(h0, .inr (3, [.int c0, .ref e0, .int n0]))] s.heap.size = A at hD hG ⊢
  have hA : ∀ q : Nat, s.heap.size ≤ q → A q := fun q h => by rw [← hAe]; exact Or.inr h
  have hS : va_S A s.heap s.heap [] := va_S.rf
  have hl := lv_entry ([.ref h0]) (n := 1) (Nat.le_of_ble_eq_true rfl)
  rw [lg_entry_eq]
  generalize (lg_sl ([.ref h0]) ++ List.replicate (1 - (lg_sl ([.ref h0])).length) Slot.unset).toArray = ls at hl ⊢
  have hl : lv_has ls 1 [(0, .ref h0)] := hl
  refine va_new (ci := 2) (fs := [.int 0, .int 0, .int 0, .null]) (C := RJx35411) (T := TJx35411) (N := 4) hx hb hg in_Jx35411 tyJx35411 tyJx35411_ok hown (hg _ q1357) (hg _ q1358) (hg _ q26) hK hP hD hS hA rfl (fun j hj => by rcases (show j = 0 ∨ j = 1 ∨ j = 2 ∨ j = 3 by omega) with rfl | rfl | rfl | rfl <;> rfl) (Nat.le_of_ble_eq_true rfl) (Nat.le_of_ble_eq_true rfl) dJx4a65c_iterator_32c93_0 (fun o_1 H_2 hP hD hS => ?_)
  have hP : va_P G vwCl ([(h0, .inr (3, [.int c0, .ref e0, .int n0])), (o_1, .inr (2, [.int 0, .int 0, .int 0, .null]))]) H_2 := hP
  have hD : va_D A ([(h0, .inr (3, [.int c0, .ref e0, .int n0])), (o_1, .inr (2, [.int 0, .int 0, .int 0, .null]))]) := hD
  refine W.widen (k := 1) (n := 4) (Nat.le_of_ble_eq_true rfl) (Nat.le_of_ble_eq_true rfl) ?_
  refine lv_dup hx hb dJx4a65c_iterator_32c93_3 rfl ?_
  refine lv_aload_n hx hb dJx4a65c_iterator_32c93_4 rfl (lv_at hl 0 rfl) ?_
  have hPc := hP.sub (ws' := [(o_1, .inr (2, [.int 0, .int 0, .int 0, .null])), (h0, .inr (3, [.int c0, .ref e0, .int n0]))]) [1, 0] rfl
  have hKc := hK.sub (tys' := []) [] rfl
  have hDc := hD.sub (ws' := [(o_1, .inr (2, [.int 0, .int 0, .int 0, .null])), (h0, .inr (3, [.int c0, .ref e0, .int n0]))]) [1, 0] (by decide) rfl
  have hFc := va_free (wc := [(o_1, .inr (2, [.int 0, .int 0, .int 0, .null])), (h0, .inr (3, [.int c0, .ref e0, .int n0]))]) hD hS hA [1, 0] rfl
  refine va_callv (va_runI (As := [.ref h0]) (rest := [.ref o_1]) ⟨hx, hb, hml, hown, hts⟩ (k_Jx35411_init_45d68 l G z o_1 (.int 0) (.int 0) .null h0 c0 e0 n0 H_2.size ) (cwI 1 hts (lw_goodAll q1361) rfl rfl rfl (hg _ q26) (hg _ q1359) (hg _ q1360) rfl (by decide +kernel) ⟨Nat.le_of_ble_eq_true rfl, Nat.le_of_ble_eq_true rfl⟩) ⟨PW.blind, PW.of hPc hKc hDc hG hS hFc [.ref o_1, .ref h0]⟩ rfl rfl hl.1 rfl (lv_room (Nat.le_of_ble_eq_true rfl)) dJx4a65c_iterator_32c93_5 ⟨Nat.le_of_ble_eq_true rfl, Nat.le_of_ble_eq_true rfl⟩) hS (fun q _ h => hFc q h) hFc (fun u t_6 H_3 locs ht hvm hw_5 hB hz1 hk1 hS => ?_)
  obtain ⟨hP, hD, hK⟩ := QW.join (wr := []) (w1 := [(o_1, .inr (2, [.int 0, .int (-1), .int c0, .ref h0])), (h0, .inr (3, [.int c0, .ref e0, .int n0]))]) hP hD hK [1, 0] [] rfl rfl (by decide) (by decide) hk1 hFc ht hvm hB
  have hP : va_P G vwCl ([(o_1, .inr (2, [.int 0, .int (-1), .int c0, .ref h0])), (h0, .inr (3, [.int c0, .ref e0, .int n0]))]) H_3 := hP
  have hD : va_D A ([(o_1, .inr (2, [.int 0, .int (-1), .int c0, .ref h0])), (h0, .inr (3, [.int c0, .ref e0, .int n0]))]) := hD
  have hK : va_K G vwCl [] s := hK
  refine W.widen (k := 1) (n := 4) (Nat.le_of_ble_eq_true rfl) (Nat.le_of_ble_eq_true rfl) ?_
  refine W.widen (k := 1) (n := 4) (Nat.le_of_ble_eq_true rfl) (Nat.le_of_ble_eq_true rfl) ?_
  have hP9 := hP.sub (ws' := [(h0, .inr (3, [.int c0, .ref e0, .int n0])), (o_1, .inr (2, [.int 0, .int (-1), .int c0, .ref h0]))]) [1, 0] rfl
  have hD9 := hD.sub (ws' := [(h0, .inr (3, [.int c0, .ref e0, .int n0])), (o_1, .inr (2, [.int 0, .int (-1), .int c0, .ref h0]))]) [1, 0] (by decide) rfl
  have hK9 := hK.sub (tys' := []) [] rfl
  exact W.aret (v := .ref o_1) hx hb hr (Or.inl ⟨_, rfl⟩) (Or.inr ⟨_, rfl⟩) (fun t ht hW => ⟨⟨(), o_1, rfl, trivial, QW.of hP9 hK9 hD9 ht hW.alike⟩, hS.F ht⟩) hS.2.2 dJx4a65c_iterator_32c93_8

abbrev wz_Jx35411_hasNext_aae02 : List Cond := .code yJx35411_hasNext_aae02 cJx35411_hasNext_aae02 1 (Option.some Jvm.ClassFile.FieldType.boolean) :: lw_good
set_option maxHeartbeats 4000000 in
set_option maxRecDepth 100000 in
/-- hasNext() of an empty list -/
theorem k_Jx35411_hasNext_aae02 (l : Launch) (G : va_G) (z : Nat) (h0 : Nat) (x1 : Value) (x2 : Value) (h1 : Nat) (c0 : Int32) (e0 : Nat) (sz : Nat)  : Met l yJx35411_hasNext_aae02 wz_Jx35411_hasNext_aae02 ({ frames := 0, cells := 0, slots := 0, locals := 0 }) (va_Pc [.ref h0] (PR G z [(h0, .inr (2, [.int 0, x1, x2, .ref h1])), (h1, .inr (3, [.int c0, .ref e0, .int 0]))] [] sz)) (va_Qi (fun (r : Int32) (_ : Unit) => r = 0) (fun (_ : Unit) (_ : State) => True) (zN sz)) 0 0 (zN sz) := by
  refine va_MetF (cc := cJx35411_hasNext_aae02) (maxL := 1) (ret := (Option.some Jvm.ClassFile.FieldType.boolean)) (by decide) rfl ?_
  intro p e s m args below meth c s₁ B hml hv
  obtain ⟨rfl, rfl, hP, hK, hG⟩ := hv
  have hx := B.exec
  have hb := B.bytes
  have hr := B.returns
  have hts := atoms_spec (ws := wz_Jx35411_hasNext_aae02) B.pre
  have hg : ∀ w ∈ lw_good, w.before _ s = true := fun w h => hts w (List.mem_cons_of_mem _ h)
  have hown : s.vm.findClass RJx35411 = some m.cls := findClass_of_methodNamed B.named
  have hlocks := B.notSynchronized
  have hA : ∀ q : Nat, s.heap.size ≤ q → zN s.heap.size q := fun _ h => h
  have hS : va_S (zN s.heap.size) s.heap s.heap [] := va_S.rf
  have hl := lv_entry ([.ref h0]) (n := 1) (Nat.le_of_ble_eq_true rfl)
  rw [lg_entry_eq]
  generalize (lg_sl ([.ref h0]) ++ List.replicate (1 - (lg_sl ([.ref h0])).length) Slot.unset).toArray = ls at hl ⊢
  have hl : lv_has ls 1 [(0, .ref h0)] := hl
  refine lv_aload_n hx hb dJx35411_hasNext_aae02_0 rfl (lv_at hl 0 rfl) ?_
  refine va_get (D := G) (ci := 2) (v := .int 0) (C := RJx35411) (T := TJx35411) (N := 4) hx hb hg in_Jx35411 hown hK hP 0 rfl rfl 0 (by decide) (hg _ q1363) (fun _ h9 => h9) rfl dJx35411_hasNext_aae02_1 ?_
  refine lv_aload_n hx hb dJx35411_hasNext_aae02_4 rfl (lv_at hl 0 rfl) ?_
  refine va_get (D := G) (ci := 2) (v := .ref h1) (C := RJx35411) (T := TJx35411) (N := 4) hx hb hg in_Jx35411 hown hK hP 0 rfl rfl 3 (by decide) (hg _ q1366) (fun _ h9 => h9) rfl dJx35411_hasNext_aae02_5 ?_
  refine va_getN (D := G) (ci := 3) (v := .int 0) (C := RJx4a65c) (T := TJx4a65c) (N := 3) hx hb hg in_Jx4a65c hown hK hP 1 rfl rfl 2 (by decide) (va_Nw.use rfl (hG.2.2.2.2.1 _ qf61)) (fun _ h9 => h9) rfl dJx35411_hasNext_aae02_8 ?_
  refine lv_icmp_eq (tgt := 18) hx hb dJx35411_hasNext_aae02_11 (by decide) (fun c_1 => ?_) (fun c_1 => absurd rfl c_1)
  refine lv_iconst (v := 0) hx hb dJx35411_hasNext_aae02_18 (by decide) ?_
  refine W.widen (k := 0) (n := 0) (Nat.le_of_ble_eq_true rfl) (Nat.le_of_ble_eq_true rfl) ?_
  exact W.zret (v := 0) hx hb hr rfl (fun t ht hW => ⟨⟨0, (), rfl, rfl, trivial⟩, hS.F ht⟩) hS.2.2 dJx35411_hasNext_aae02_19

abbrev wz_Jx4a65c_isEmpty_aae02 : List Cond := .code yJx4a65c_isEmpty_aae02 cJx4a65c_isEmpty_aae02 1 (Option.some Jvm.ClassFile.FieldType.boolean) :: lw_good
set_option maxHeartbeats 4000000 in
set_option maxRecDepth 100000 in
/-- isEmpty() of an empty list -/
theorem k_Jx4a65c_isEmpty_aae02 (l : Launch) (G : va_G) (z : Nat) (h0 : Nat) (c0 : Int32) (e0 : Nat) (sz : Nat)  : Met l yJx4a65c_isEmpty_aae02 wz_Jx4a65c_isEmpty_aae02 ({ frames := 0, cells := 0, slots := 0, locals := 0 }) (va_Pc [.ref h0] (PR G z [(h0, .inr (3, [.int c0, .ref e0, .int 0]))] [] sz)) (va_Qi (fun (r : Int32) (_ : Unit) => r = 1) (fun (_ : Unit) (_ : State) => True) (zN sz)) 0 0 (zN sz) := by
  refine va_MetF (cc := cJx4a65c_isEmpty_aae02) (maxL := 1) (ret := (Option.some Jvm.ClassFile.FieldType.boolean)) (by decide) rfl ?_
  intro p e s m args below meth c s₁ B hml hv
  obtain ⟨rfl, rfl, hP, hK, hG⟩ := hv
  have hx := B.exec
  have hb := B.bytes
  have hr := B.returns
  have hts := atoms_spec (ws := wz_Jx4a65c_isEmpty_aae02) B.pre
  have hg : ∀ w ∈ lw_good, w.before _ s = true := fun w h => hts w (List.mem_cons_of_mem _ h)
  have hown : s.vm.findClass RJx4a65c = some m.cls := findClass_of_methodNamed B.named
  have hlocks := B.notSynchronized
  have hA : ∀ q : Nat, s.heap.size ≤ q → zN s.heap.size q := fun _ h => h
  have hS : va_S (zN s.heap.size) s.heap s.heap [] := va_S.rf
  have hl := lv_entry ([.ref h0]) (n := 1) (Nat.le_of_ble_eq_true rfl)
  rw [lg_entry_eq]
  generalize (lg_sl ([.ref h0]) ++ List.replicate (1 - (lg_sl ([.ref h0])).length) Slot.unset).toArray = ls at hl ⊢
  have hl : lv_has ls 1 [(0, .ref h0)] := hl
  refine lv_aload_n hx hb dJx4a65c_isEmpty_aae02_0 rfl (lv_at hl 0 rfl) ?_
  refine va_get (D := G) (ci := 3) (v := .int 0) (C := RJx4a65c) (T := TJx4a65c) (N := 3) hx hb hg in_Jx4a65c hown hK hP 0 rfl rfl 2 (by decide) (hg _ q62) (fun _ h9 => h9) rfl dJx4a65c_isEmpty_aae02_1 ?_
  refine lv_if_ne (tgt := 11) hx hb dJx4a65c_isEmpty_aae02_4 (by decide) (fun c_1 => absurd rfl c_1) (fun c_1 => ?_)
  refine lv_iconst (v := 1) hx hb dJx4a65c_isEmpty_aae02_7 (by decide) ?_
  refine lv_goto (tgt := 12) hx hb dJx4a65c_isEmpty_aae02_8 (by decide) ?_
  refine W.widen (k := 0) (n := 0) (Nat.le_of_ble_eq_true rfl) (Nat.le_of_ble_eq_true rfl) ?_
  exact W.zret (v := 1) hx hb hr rfl (fun t ht hW => ⟨⟨1, (), rfl, rfl, trivial⟩, hS.F ht⟩) hS.2.2 dJx4a65c_isEmpty_aae02_12
