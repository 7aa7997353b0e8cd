theorem q100 : Cond.methodLink "Watermarkmill$Dating" 3 ⟨"java/lang/Object", "<init>", "()V"⟩ ∈ lw_good := lw_in (i := 100) (by decide +kernel) (by decide +kernel)
theorem q101 : Cond.classLink "Watermarkmill$Dating" 18 "[[I" ∈ lw_good := lw_in (i := 101) (by decide +kernel) (by decide +kernel)
theorem q103 : Cond.fieldLink "Watermarkmill$Dating" 9 "Watermarkmill$Dating" "dates" "[I" ∈ lw_good := lw_in (i := 103) (by decide +kernel) (by decide +kernel)
theorem q105 : Cond.fieldLink "Watermarkmill$Dating" 15 "Watermarkmill$Dating" "stocks" "[I" ∈ lw_good := lw_in (i := 105) (by decide +kernel) (by decide +kernel)
theorem q107 : Cond.fieldLink "Watermarkmill$Dating" 20 "Watermarkmill$Dating" "claims" "[[I" ∈ lw_good := lw_in (i := 107) (by decide +kernel) (by decide +kernel)
theorem q110 : Cond.fieldLink "Watermarkmill$Dating" 30 "Watermarkmill$Dating" "age" "I" ∈ lw_good := lw_in (i := 110) (by decide +kernel) (by decide +kernel)
theorem q1182 : Cond.code yX14_init prog_11_method_1_code 1 (Option.none : Option Jvm.ClassFile.FieldType) ∈ lw_good := lw_in (i := 1182) (by decide +kernel) (by decide +kernel)
theorem q1183 : Cond.methodLink "WatermarkmillModel" 1 ⟨"java/lang/Object", "<init>", "()V"⟩ ∈ lw_good := lw_in (i := 1183) (by decide +kernel) (by decide +kernel)
theorem q1184 : Cond.classLink "WatermarkmillModel" 7 "java/util/ArrayList" ∈ lw_good := lw_in (i := 1184) (by decide +kernel) (by decide +kernel)
theorem q1185 : Cond.methodLink "WatermarkmillModel" 9 yJx4a65c_init_da8c8 ∈ lw_good := lw_in (i := 1185) (by decide +kernel) (by decide +kernel)
theorem q1186 : Cond.classLink "WatermarkmillModel" 45 "[[I" ∈ lw_good := lw_in (i := 1186) (by decide +kernel) (by decide +kernel)
theorem q1189 : Cond.fieldLink "WatermarkmillModel" 16 "WatermarkmillModel" "lots" "Ljava/util/ArrayList;" ∈ lw_good := lw_in (i := 1189) (by decide +kernel) (by decide +kernel)
theorem q1197 : Cond.fieldLink "WatermarkmillModel" 38 "WatermarkmillModel" "firsts" "[I" ∈ lw_good := lw_in (i := 1197) (by decide +kernel) (by decide +kernel)
theorem q1198 : Cond.fieldLink "WatermarkmillModel" 42 "WatermarkmillModel" "lasts" "[I" ∈ lw_good := lw_in (i := 1198) (by decide +kernel) (by decide +kernel)
theorem q1199 : Cond.fieldLink "WatermarkmillModel" 47 "WatermarkmillModel" "madeFirst" "[[I" ∈ lw_good := lw_in (i := 1199) (by decide +kernel) (by decide +kernel)
theorem q1200 : Cond.fieldLink "WatermarkmillModel" 50 "WatermarkmillModel" "madeLast" "[[I" ∈ lw_good := lw_in (i := 1200) (by decide +kernel) (by decide +kernel)
theorem q1201 : Cond.fieldLink "WatermarkmillModel" 53 "WatermarkmillModel" "stateFirst" "[[I" ∈ lw_good := lw_in (i := 1201) (by decide +kernel) (by decide +kernel)
theorem q1202 : Cond.fieldLink "WatermarkmillModel" 56 "WatermarkmillModel" "stateLast" "[[I" ∈ lw_good := lw_in (i := 1202) (by decide +kernel) (by decide +kernel)
theorem q132 : Cond.fieldLink "Watermarkmill" 42 "Watermarkmill" "groupOfImage" "[I" ∈ lw_good := lw_in (i := 132) (by decide +kernel) (by decide +kernel)
theorem q134 : Cond.fieldLink "Watermarkmill" 50 "Watermarkmill" "sales" "I" ∈ lw_good := lw_in (i := 134) (by decide +kernel) (by decide +kernel)
theorem q41 : Cond.code yX8_init prog_1_method_1_code 1 (Option.none : Option Jvm.ClassFile.FieldType) ∈ lw_good := lw_in (i := 41) (by decide +kernel) (by decide +kernel)
theorem q42 : Cond.methodLink "Watermarkmill" 3 ⟨"java/lang/Object", "<init>", "()V"⟩ ∈ lw_good := lw_in (i := 42) (by decide +kernel) (by decide +kernel)
theorem q45 : Cond.classLink "Watermarkmill" 9 "java/util/ArrayList" ∈ lw_good := lw_in (i := 45) (by decide +kernel) (by decide +kernel)
theorem q47 : Cond.methodLink "Watermarkmill" 11 yJx4a65c_init_da8c8 ∈ lw_good := lw_in (i := 47) (by decide +kernel) (by decide +kernel)
theorem q74 : Cond.classLink "Watermarkmill" 28 "Watermarkmill$Repertory" ∈ lw_good := lw_in (i := 74) (by decide +kernel) (by decide +kernel)
theorem q75 : Cond.instantiable "Watermarkmill$Repertory" 4 ∈ lw_good := lw_in (i := 75) (by decide +kernel) (by decide +kernel)
theorem q76 : Cond.methodLink "Watermarkmill" 30 yX6_init ∈ lw_good := lw_in (i := 76) (by decide +kernel) (by decide +kernel)
theorem q77 : Cond.instanceMethod yX6_init ∈ lw_good := lw_in (i := 77) (by decide +kernel) (by decide +kernel)
theorem q78 : Cond.code yX6_init prog_8_method_1_code 2 (Option.none : Option Jvm.ClassFile.FieldType) ∈ lw_good := lw_in (i := 78) (by decide +kernel) (by decide +kernel)
theorem q79 : Cond.methodLink "Watermarkmill$Repertory" 3 ⟨"java/lang/Object", "<init>", "()V"⟩ ∈ lw_good := lw_in (i := 79) (by decide +kernel) (by decide +kernel)
theorem q95 : Cond.classLink "Watermarkmill" 35 "Watermarkmill$Dating" ∈ lw_good := lw_in (i := 95) (by decide +kernel) (by decide +kernel)
theorem q96 : Cond.instantiable "Watermarkmill$Dating" 6 ∈ lw_good := lw_in (i := 96) (by decide +kernel) (by decide +kernel)
theorem q98 : Cond.instanceMethod yX0_init ∈ lw_good := lw_in (i := 98) (by decide +kernel) (by decide +kernel)
theorem q99 : Cond.code yX0_init prog_2_method_1_code 1 (Option.none : Option Jvm.ClassFile.FieldType) ∈ lw_good := lw_in (i := 99) (by decide +kernel) (by decide +kernel)
theorem qf97 : Cond.methodLinkNest "Watermarkmill" 37 yX0_init "Watermarkmill" ∈ lw_face := lw_fin (i := 97) (by decide +kernel) (by decide +kernel)
theorem dX0_init_0 : decode cX0_init 0 = .ok (.aload_n 0, 1) := by decide +kernel
theorem dX0_init_1 : decode cX0_init 1 = .ok (.invokespecial 3, 3) := by decide +kernel
theorem dX0_init_12 : decode cX0_init 12 = .ok (.aload_n 0, 1) := by decide +kernel
theorem dX0_init_13 : decode cX0_init 13 = .ok (.bipush 20, 2) := by decide +kernel
theorem dX0_init_15 : decode cX0_init 15 = .ok (.newarray .int, 2) := by decide +kernel
theorem dX0_init_17 : decode cX0_init 17 = .ok (.putfield 15, 3) := by decide +kernel
theorem dX0_init_20 : decode cX0_init 20 = .ok (.aload_n 0, 1) := by decide +kernel
theorem dX0_init_21 : decode cX0_init 21 = .ok (.bipush 20, 2) := by decide +kernel
theorem dX0_init_23 : decode cX0_init 23 = .ok (.bipush 12, 2) := by decide +kernel
theorem dX0_init_25 : decode cX0_init 25 = .ok (.multianewarray 18 2, 4) := by decide +kernel
theorem dX0_init_29 : decode cX0_init 29 = .ok (.putfield 20, 3) := by decide +kernel
theorem dX0_init_32 : decode cX0_init 32 = .ok (.aload_n 0, 1) := by decide +kernel
theorem dX0_init_33 : decode cX0_init 33 = .ok (.bipush 20, 2) := by decide +kernel
theorem dX0_init_35 : decode cX0_init 35 = .ok (.bipush 20, 2) := by decide +kernel
theorem dX0_init_37 : decode cX0_init 37 = .ok (.multianewarray 18 2, 4) := by decide +kernel
theorem dX0_init_4 : decode cX0_init 4 = .ok (.aload_n 0, 1) := by decide +kernel
theorem dX0_init_41 : decode cX0_init 41 = .ok (.putfield 23, 3) := by decide +kernel
theorem dX0_init_44 : decode cX0_init 44 = .ok (.aload_n 0, 1) := by decide +kernel
theorem dX0_init_45 : decode cX0_init 45 = .ok (.iconst 0, 1) := by decide +kernel
theorem dX0_init_46 : decode cX0_init 46 = .ok (.putfield 26, 3) := by decide +kernel
theorem dX0_init_49 : decode cX0_init 49 = .ok (.aload_n 0, 1) := by decide +kernel
theorem dX0_init_5 : decode cX0_init 5 = .ok (.bipush 20, 2) := by decide +kernel
theorem dX0_init_50 : decode cX0_init 50 = .ok (.bipush 12, 2) := by decide +kernel
theorem dX0_init_52 : decode cX0_init 52 = .ok (.putfield 30, 3) := by decide +kernel
theorem dX0_init_55 : decode cX0_init 55 = .ok (.return_, 1) := by decide +kernel
theorem dX0_init_7 : decode cX0_init 7 = .ok (.newarray .int, 2) := by decide +kernel
theorem dX0_init_9 : decode cX0_init 9 = .ok (.putfield 9, 3) := by decide +kernel
theorem dX14_init_0 : decode cX14_init 0 = .ok (.aload_n 0, 1) := by decide +kernel
theorem dX14_init_1 : decode cX14_init 1 = .ok (.invokespecial 1, 3) := by decide +kernel
theorem dX14_init_100 : decode cX14_init 100 = .ok (.bipush 6, 2) := by decide +kernel
theorem dX14_init_102 : decode cX14_init 102 = .ok (.multianewarray 45 2, 4) := by decide +kernel
theorem dX14_init_106 : decode cX14_init 106 = .ok (.putfield 47, 3) := by decide +kernel
theorem dX14_init_109 : decode cX14_init 109 = .ok (.aload_n 0, 1) := by decide +kernel
theorem dX14_init_110 : decode cX14_init 110 = .ok (.bipush 20, 2) := by decide +kernel
theorem dX14_init_112 : decode cX14_init 112 = .ok (.bipush 6, 2) := by decide +kernel
theorem dX14_init_114 : decode cX14_init 114 = .ok (.multianewarray 45 2, 4) := by decide +kernel
theorem dX14_init_118 : decode cX14_init 118 = .ok (.putfield 50, 3) := by decide +kernel
theorem dX14_init_12 : decode cX14_init 12 = .ok (.putfield 10, 3) := by decide +kernel
theorem dX14_init_121 : decode cX14_init 121 = .ok (.aload_n 0, 1) := by decide +kernel
theorem dX14_init_122 : decode cX14_init 122 = .ok (.bipush 12, 2) := by decide +kernel
theorem dX14_init_124 : decode cX14_init 124 = .ok (.bipush 21, 2) := by decide +kernel
theorem dX14_init_126 : decode cX14_init 126 = .ok (.multianewarray 45 2, 4) := by decide +kernel
theorem dX14_init_130 : decode cX14_init 130 = .ok (.putfield 53, 3) := by decide +kernel
theorem dX14_init_133 : decode cX14_init 133 = .ok (.aload_n 0, 1) := by decide +kernel
theorem dX14_init_134 : decode cX14_init 134 = .ok (.bipush 12, 2) := by decide +kernel
theorem dX14_init_136 : decode cX14_init 136 = .ok (.bipush 21, 2) := by decide +kernel
theorem dX14_init_138 : decode cX14_init 138 = .ok (.multianewarray 45 2, 4) := by decide +kernel
theorem dX14_init_142 : decode cX14_init 142 = .ok (.putfield 56, 3) := by decide +kernel
theorem dX14_init_145 : decode cX14_init 145 = .ok (.return_, 1) := by decide +kernel
theorem dX14_init_15 : decode cX14_init 15 = .ok (.aload_n 0, 1) := by decide +kernel
theorem dX14_init_16 : decode cX14_init 16 = .ok (.new 7, 3) := by decide +kernel
theorem dX14_init_19 : decode cX14_init 19 = .ok (.dup, 1) := by decide +kernel
theorem dX14_init_20 : decode cX14_init 20 = .ok (.invokespecial 9, 3) := by decide +kernel
theorem dX14_init_23 : decode cX14_init 23 = .ok (.putfield 16, 3) := by decide +kernel
theorem dX14_init_26 : decode cX14_init 26 = .ok (.aload_n 0, 1) := by decide +kernel
theorem dX14_init_27 : decode cX14_init 27 = .ok (.new 7, 3) := by decide +kernel
theorem dX14_init_30 : decode cX14_init 30 = .ok (.dup, 1) := by decide +kernel
theorem dX14_init_31 : decode cX14_init 31 = .ok (.invokespecial 9, 3) := by decide +kernel
theorem dX14_init_34 : decode cX14_init 34 = .ok (.putfield 19, 3) := by decide +kernel
theorem dX14_init_37 : decode cX14_init 37 = .ok (.aload_n 0, 1) := by decide +kernel
theorem dX14_init_38 : decode cX14_init 38 = .ok (.new 7, 3) := by decide +kernel
theorem dX14_init_4 : decode cX14_init 4 = .ok (.aload_n 0, 1) := by decide +kernel
theorem dX14_init_41 : decode cX14_init 41 = .ok (.dup, 1) := by decide +kernel
theorem dX14_init_42 : decode cX14_init 42 = .ok (.invokespecial 9, 3) := by decide +kernel
theorem dX14_init_45 : decode cX14_init 45 = .ok (.putfield 22, 3) := by decide +kernel
theorem dX14_init_48 : decode cX14_init 48 = .ok (.aload_n 0, 1) := by decide +kernel
theorem dX14_init_49 : decode cX14_init 49 = .ok (.new 7, 3) := by decide +kernel
theorem dX14_init_5 : decode cX14_init 5 = .ok (.new 7, 3) := by decide +kernel
theorem dX14_init_52 : decode cX14_init 52 = .ok (.dup, 1) := by decide +kernel
theorem dX14_init_53 : decode cX14_init 53 = .ok (.invokespecial 9, 3) := by decide +kernel
theorem dX14_init_56 : decode cX14_init 56 = .ok (.putfield 25, 3) := by decide +kernel
theorem dX14_init_59 : decode cX14_init 59 = .ok (.aload_n 0, 1) := by decide +kernel
theorem dX14_init_60 : decode cX14_init 60 = .ok (.new 7, 3) := by decide +kernel
theorem dX14_init_63 : decode cX14_init 63 = .ok (.dup, 1) := by decide +kernel
theorem dX14_init_64 : decode cX14_init 64 = .ok (.invokespecial 9, 3) := by decide +kernel
theorem dX14_init_67 : decode cX14_init 67 = .ok (.putfield 28, 3) := by decide +kernel
theorem dX14_init_70 : decode cX14_init 70 = .ok (.aload_n 0, 1) := by decide +kernel
theorem dX14_init_71 : decode cX14_init 71 = .ok (.iconst 3, 1) := by decide +kernel
theorem dX14_init_72 : decode cX14_init 72 = .ok (.putfield 31, 3) := by decide +kernel
theorem dX14_init_75 : decode cX14_init 75 = .ok (.aload_n 0, 1) := by decide +kernel
theorem dX14_init_76 : decode cX14_init 76 = .ok (.bipush 12, 2) := by decide +kernel
theorem dX14_init_78 : decode cX14_init 78 = .ok (.putfield 35, 3) := by decide +kernel
theorem dX14_init_8 : decode cX14_init 8 = .ok (.dup, 1) := by decide +kernel
theorem dX14_init_81 : decode cX14_init 81 = .ok (.aload_n 0, 1) := by decide +kernel
theorem dX14_init_82 : decode cX14_init 82 = .ok (.bipush 20, 2) := by decide +kernel
theorem dX14_init_84 : decode cX14_init 84 = .ok (.newarray .int, 2) := by decide +kernel
theorem dX14_init_86 : decode cX14_init 86 = .ok (.putfield 38, 3) := by decide +kernel
theorem dX14_init_89 : decode cX14_init 89 = .ok (.aload_n 0, 1) := by decide +kernel
theorem dX14_init_9 : decode cX14_init 9 = .ok (.invokespecial 9, 3) := by decide +kernel
theorem dX14_init_90 : decode cX14_init 90 = .ok (.bipush 20, 2) := by decide +kernel
theorem dX14_init_92 : decode cX14_init 92 = .ok (.newarray .int, 2) := by decide +kernel
theorem dX14_init_94 : decode cX14_init 94 = .ok (.putfield 42, 3) := by decide +kernel
theorem dX14_init_97 : decode cX14_init 97 = .ok (.aload_n 0, 1) := by decide +kernel
theorem dX14_init_98 : decode cX14_init 98 = .ok (.bipush 20, 2) := by decide +kernel
theorem dX6_init_0 : decode cX6_init 0 = .ok (.aload_n 0, 1) := by decide +kernel
theorem dX6_init_1 : decode cX6_init 1 = .ok (.invokespecial 3, 3) := by decide +kernel
theorem dX6_init_10 : decode cX6_init 10 = .ok (.putfield 9, 3) := by decide +kernel
theorem dX6_init_13 : decode cX6_init 13 = .ok (.aload_n 0, 1) := by decide +kernel
theorem dX6_init_14 : decode cX6_init 14 = .ok (.sipush 512, 3) := by decide +kernel
theorem dX6_init_17 : decode cX6_init 17 = .ok (.newarray .int, 2) := by decide +kernel
theorem dX6_init_19 : decode cX6_init 19 = .ok (.putfield 15, 3) := by decide +kernel
theorem dX6_init_22 : decode cX6_init 22 = .ok (.aload_n 0, 1) := by decide +kernel
theorem dX6_init_23 : decode cX6_init 23 = .ok (.sipush 400, 3) := by decide +kernel
theorem dX6_init_26 : decode cX6_init 26 = .ok (.newarray .int, 2) := by decide +kernel
theorem dX6_init_28 : decode cX6_init 28 = .ok (.putfield 18, 3) := by decide +kernel
theorem dX6_init_31 : decode cX6_init 31 = .ok (.aload_n 0, 1) := by decide +kernel
theorem dX6_init_32 : decode cX6_init 32 = .ok (.iconst 0, 1) := by decide +kernel
theorem dX6_init_33 : decode cX6_init 33 = .ok (.putfield 21, 3) := by decide +kernel
theorem dX6_init_36 : decode cX6_init 36 = .ok (.iconst 0, 1) := by decide +kernel
theorem dX6_init_37 : decode cX6_init 37 = .ok (.istore_n 1, 1) := by decide +kernel
theorem dX6_init_38 : decode cX6_init 38 = .ok (.iload_n 1, 1) := by decide +kernel
theorem dX6_init_39 : decode cX6_init 39 = .ok (.sipush 400, 3) := by decide +kernel
theorem dX6_init_4 : decode cX6_init 4 = .ok (.aload_n 0, 1) := by decide +kernel
theorem dX6_init_42 : decode cX6_init 42 = .ok (.if_icmp .ge 16, 3) := by decide +kernel
theorem dX6_init_45 : decode cX6_init 45 = .ok (.aload_n 0, 1) := by decide +kernel
theorem dX6_init_46 : decode cX6_init 46 = .ok (.getfield 9, 3) := by decide +kernel
theorem dX6_init_49 : decode cX6_init 49 = .ok (.iload_n 1, 1) := by decide +kernel
theorem dX6_init_5 : decode cX6_init 5 = .ok (.sipush 400, 3) := by decide +kernel
theorem dX6_init_50 : decode cX6_init 50 = .ok (.iload_n 1, 1) := by decide +kernel
theorem dX6_init_51 : decode cX6_init 51 = .ok (.iastore, 1) := by decide +kernel
theorem dX6_init_52 : decode cX6_init 52 = .ok (.iinc 1 1, 3) := by decide +kernel
theorem dX6_init_55 : decode cX6_init 55 = .ok (.goto (-17), 3) := by decide +kernel
theorem dX6_init_58 : decode cX6_init 58 = .ok (.return_, 1) := by decide +kernel
theorem dX6_init_8 : decode cX6_init 8 = .ok (.newarray .int, 2) := by decide +kernel
theorem dX8_init_0 : decode cX8_init 0 = .ok (.aload_n 0, 1) := by decide +kernel
theorem dX8_init_1 : decode cX8_init 1 = .ok (.invokespecial 3, 3) := by decide +kernel
theorem dX8_init_12 : decode cX8_init 12 = .ok (.putfield 12, 3) := by decide +kernel
theorem dX8_init_15 : decode cX8_init 15 = .ok (.aload_n 0, 1) := by decide +kernel
theorem dX8_init_16 : decode cX8_init 16 = .ok (.new 9, 3) := by decide +kernel
theorem dX8_init_19 : decode cX8_init 19 = .ok (.dup, 1) := by decide +kernel
theorem dX8_init_20 : decode cX8_init 20 = .ok (.invokespecial 11, 3) := by decide +kernel
theorem dX8_init_23 : decode cX8_init 23 = .ok (.putfield 16, 3) := by decide +kernel
theorem dX8_init_26 : decode cX8_init 26 = .ok (.aload_n 0, 1) := by decide +kernel
theorem dX8_init_27 : decode cX8_init 27 = .ok (.new 9, 3) := by decide +kernel
theorem dX8_init_30 : decode cX8_init 30 = .ok (.dup, 1) := by decide +kernel
theorem dX8_init_31 : decode cX8_init 31 = .ok (.invokespecial 11, 3) := by decide +kernel
theorem dX8_init_34 : decode cX8_init 34 = .ok (.putfield 19, 3) := by decide +kernel
theorem dX8_init_37 : decode cX8_init 37 = .ok (.aload_n 0, 1) := by decide +kernel
theorem dX8_init_38 : decode cX8_init 38 = .ok (.new 9, 3) := by decide +kernel
theorem dX8_init_4 : decode cX8_init 4 = .ok (.aload_n 0, 1) := by decide +kernel
theorem dX8_init_41 : decode cX8_init 41 = .ok (.dup, 1) := by decide +kernel
theorem dX8_init_42 : decode cX8_init 42 = .ok (.invokespecial 11, 3) := by decide +kernel
theorem dX8_init_45 : decode cX8_init 45 = .ok (.putfield 22, 3) := by decide +kernel
theorem dX8_init_48 : decode cX8_init 48 = .ok (.aload_n 0, 1) := by decide +kernel
theorem dX8_init_49 : decode cX8_init 49 = .ok (.new 9, 3) := by decide +kernel
theorem dX8_init_5 : decode cX8_init 5 = .ok (.new 9, 3) := by decide +kernel
theorem dX8_init_52 : decode cX8_init 52 = .ok (.dup, 1) := by decide +kernel
theorem dX8_init_53 : decode cX8_init 53 = .ok (.invokespecial 11, 3) := by decide +kernel
theorem dX8_init_56 : decode cX8_init 56 = .ok (.putfield 25, 3) := by decide +kernel
theorem dX8_init_59 : decode cX8_init 59 = .ok (.aload_n 0, 1) := by decide +kernel
theorem dX8_init_60 : decode cX8_init 60 = .ok (.new 28, 3) := by decide +kernel
theorem dX8_init_63 : decode cX8_init 63 = .ok (.dup, 1) := by decide +kernel
theorem dX8_init_64 : decode cX8_init 64 = .ok (.invokespecial 30, 3) := by decide +kernel
theorem dX8_init_67 : decode cX8_init 67 = .ok (.putfield 31, 3) := by decide +kernel
theorem dX8_init_70 : decode cX8_init 70 = .ok (.aload_n 0, 1) := by decide +kernel
theorem dX8_init_71 : decode cX8_init 71 = .ok (.new 35, 3) := by decide +kernel
theorem dX8_init_74 : decode cX8_init 74 = .ok (.dup, 1) := by decide +kernel
theorem dX8_init_75 : decode cX8_init 75 = .ok (.invokespecial 37, 3) := by decide +kernel
theorem dX8_init_78 : decode cX8_init 78 = .ok (.putfield 38, 3) := by decide +kernel
theorem dX8_init_8 : decode cX8_init 8 = .ok (.dup, 1) := by decide +kernel
theorem dX8_init_81 : decode cX8_init 81 = .ok (.aload_n 0, 1) := by decide +kernel
theorem dX8_init_82 : decode cX8_init 82 = .ok (.bipush 40, 2) := by decide +kernel
theorem dX8_init_84 : decode cX8_init 84 = .ok (.newarray .int, 2) := by decide +kernel
theorem dX8_init_86 : decode cX8_init 86 = .ok (.putfield 42, 3) := by decide +kernel
theorem dX8_init_89 : decode cX8_init 89 = .ok (.aload_n 0, 1) := by decide +kernel
theorem dX8_init_9 : decode cX8_init 9 = .ok (.invokespecial 11, 3) := by decide +kernel
theorem dX8_init_90 : decode cX8_init 90 = .ok (.iconst 3, 1) := by decide +kernel
theorem dX8_init_91 : decode cX8_init 91 = .ok (.putfield 46, 3) := by decide +kernel
theorem dX8_init_94 : decode cX8_init 94 = .ok (.aload_n 0, 1) := by decide +kernel
theorem dX8_init_95 : decode cX8_init 95 = .ok (.iconst 0, 1) := by decide +kernel
theorem dX8_init_96 : decode cX8_init 96 = .ok (.putfield 50, 3) := by decide +kernel
theorem dX8_init_99 : decode cX8_init 99 = .ok (.return_, 1) := by decide +kernel
theorem z_row {G : va_G} {A : Nat → Prop} {X : va_W} {L : List Nat} {f : Nat → va_E} {H : Heap} (hP : va_P G vwCl (X ++ va_pl L f) H) (hD : va_D A (X ++ va_pl L f)) {a : Nat} (ha : a ∈ L) {e : va_E} (he : f a = e) : va_P G vwCl (X ++ [(a, e)]) H ∧ va_D A (X ++ [(a, e)]) := by
  obtain ⟨n, hn⟩ := List.mem_iff_getElem?.mp ha
  have hk : (X ++ va_pl L f)[X.length + n]? = some (a, e) := by
    rw [List.getElem?_append_right (Nat.le_add_right _ _), Nat.add_sub_cancel_left]
    unfold va_pl
    rw [List.getElem?_map, hn]
    show some (a, f a) = some (a, e)
    rw [he]
  have key : ∀ (i : Nat) (q : Nat × va_E), (X ++ [(a, e)])[i]? = some q → (i < X.length ∧ (X ++ va_pl L f)[i]? = some q) ∨ (i = X.length ∧ q = (a, e)) := by
    intro i q hq
    rcases Nat.lt_or_ge i X.length with h | h
    · rw [List.getElem?_append_left h] at hq
      exact Or.inl ⟨h, by rw [List.getElem?_append_left h]; exact hq⟩
    · rw [List.getElem?_append_right h] at hq
      rcases Nat.eq_zero_or_pos (i - X.length) with h0 | h0
      · rw [h0] at hq
        exact Or.inr ⟨by omega, (Option.some.inj hq).symm⟩
      · rw [List.getElem?_eq_none (by show 1 ≤ _; omega)] at hq
        cases hq
  refine ⟨fun i q hq => ?_, fun i j p q hp hq hpq => ?_, fun i q hq => ?_⟩
  · rcases key i q hq with ⟨-, h⟩ | ⟨-, rfl⟩
    · exact hP i q h
    · exact hP _ _ hk
  · rcases key i p hp with ⟨hi, h1⟩ | ⟨hi, rfl⟩ <;> rcases key j q hq with ⟨hj, h2⟩ | ⟨hj, rfl⟩
    · exact hD.1 i j p q h1 h2 hpq
    · have := hD.1 i _ p _ h1 hk hpq
      omega
    · have := hD.1 _ j _ q hk h2 hpq
      omega
    · omega
  · rcases key i q hq with ⟨-, h⟩ | ⟨-, rfl⟩
    · exact hD.2 i q h
    · exact hD.2 _ _ hk
abbrev wz_X0_init : List Cond := .code yX0_init cX0_init 1 none :: lw_good
set_option maxHeartbeats 4000000 in
set_option maxRecDepth 100000 in
/-- Dating() -/
theorem k_X0_init (l : Launch) (G : va_G) (z : Nat) (h0 : Nat) (sz : Nat)  : Met l yX0_init wz_X0_init ({ frames := 1, cells := 44, slots := 720, locals := 20 }) (va_Pc [.ref h0] (PW G z [(h0, .inr (4, [.null, .null, .null, .null, .int 0, .int 0]))] [] sz)) (va_Qv (fun (_ : Unit) => True) (fun (_ : Unit) (t : State) => ∃ (d1 : Nat), ∃ (d2 : Nat), ∃ (d3 : Nat), ∃ (d4 : Nat), ∃ (cyO : ClassId), ∃ (fS : Nat → Option Nat), ∃ (cyI : ClassId), ∃ (r0 : Nat), (fS 0 = some r0) ∧ QW G [(h0, .inr (4, [.ref d1, .ref d2, .ref d3, .ref d4, .int 0, .int 12])), (d4, .inl (cyO, 20, .inr (.inr (.inr (.inr (fS)))))), (r0, .inl (cyI, 20, .inl (fun _ => 0)))] [(cyO, .array .int), (cyI, .int)] (va_A [(h0, .inr (4, [.null, .null, .null, .null, .int 0, .int 0]))] sz) t) (va_A [(h0, .inr (4, [.null, .null, .null, .null, .int 0, .int 0]))] sz)) 44 720 (va_A [(h0, .inr (4, [.null, .null, .null, .null, .int 0, .int 0]))] sz) := by
  refine Met.ofW (cc := cX0_init) (maxL := 1) (ret := none) (by decide) rfl ?_
  intro p e s m args below meth c s₁ B hml hv
  obtain ⟨rfl, rfl, hP, hK, hD0, hG⟩ := hv
  have hx := B.exec
  have hb := B.bytes
  have hr := B.returns
  have hts := atoms_spec (ws := wz_X0_init) B.pre
  have hg : ∀ w ∈ lw_good, w.before _ s = true := fun w h => hts w (List.mem_cons_of_mem _ h)
  have hown : s.vm.findClass RX0 = some m.cls := findClass_of_methodNamed B.named
  have hlocks := B.notSynchronized
  have hin : meth.name = "<init>" := (name_of_methodNamed B.named B.method).1
  have hD := hD0.self (sz := s.heap.size)
  generalize hAe : va_A [(h0, .inr (4, [.null, .null, .null, .null, .int 0, .int 0]))] s.heap.size = A at hD hG ⊢
  have hA : ∀ q : Nat, s.heap.size ≤ q → A q := fun q h => by rw [← hAe]; exact Or.inr h
  have hS : va_S A s.heap s.heap [] := va_S.rf
  have hl := lv_entry ([.ref h0]) (n := 1) (Nat.le_of_ble_eq_true rfl)
  rw [lg_entry_eq]
  generalize (lg_sl ([.ref h0]) ++ List.replicate (1 - (lg_sl ([.ref h0])).length) Slot.unset).toArray = ls at hl ⊢
  have hl : lv_has ls 1 [(0, .ref h0)] := hl
  refine lv_aload_n hx hb dX0_init_0 rfl (lv_at hl 0 rfl) ?_
  refine W.objInit hx hb hown (hg _ q100) (hg _ q43) (hg _ q44) rfl (by rw [hml]; exact hl.1) rfl dX0_init_1 (Nat.le_of_ble_eq_true rfl) (Nat.le_of_ble_eq_true rfl) ?_
  refine W.eq (g2 := F0 m 4 ls []) rfl ?_
  refine lv_aload_n hx hb dX0_init_4 rfl (lv_at hl 0 rfl) ?_
  refine lv_bipush (v := 20) hx hb dX0_init_5 (by decide) ?_
  refine va_newa (atype := .int) (ty := .int) (a0 := (20, .inl (fun _ => 0))) (N' := 20) hx hb (hg _ q94) rfl hK hP hD hS hA (fun _ => rfl) (by decide) (by decide +kernel) (Nat.le_of_ble_eq_true rfl) (Nat.le_of_ble_eq_true rfl) (Nat.le_of_ble_eq_true rfl) dX0_init_7 (fun o_2 cy_1 H_3 hK hP hD hS => ?_)
  have hP : va_P G vwCl ([(h0, .inr (4, [.null, .null, .null, .null, .int 0, .int 0])), (o_2, .inl (cy_1, 20, .inl (fun _ => 0)))]) H_3 := hP
  have hD : va_D A ([(h0, .inr (4, [.null, .null, .null, .null, .int 0, .int 0])), (o_2, .inl (cy_1, 20, .inl (fun _ => 0)))]) := hD
  have hK : va_K G vwCl [(cy_1, .int)] s := hK
  refine W.widen (k := 1) (n := 20) (Nat.le_of_ble_eq_true rfl) (Nat.le_of_ble_eq_true rfl) ?_
  refine va_putF (D := G) (ci := 4) (v := .ref o_2) (ty := .array (.int)) (C := RX0) (T := TX0) (N := 6) hx hb hg in_X0 tyX0 tyX0_ok nmX0 hown hK hP hD hS 0 rfl rfl 0 (by decide) (hg _ q103) (fun _ h9 => h9) rfl hin rfl (by decide +kernel) rfl rfl (Nat.le_of_ble_eq_true rfl) dX0_init_9 (fun H_4 locs hP hD hS => ?_)
  have hP : va_P G vwCl ([(h0, .inr (4, [.ref o_2, .null, .null, .null, .int 0, .int 0])), (o_2, .inl (cy_1, 20, .inl (fun _ => 0)))]) H_4 := hP
  have hD : va_D A ([(h0, .inr (4, [.ref o_2, .null, .null, .null, .int 0, .int 0])), (o_2, .inl (cy_1, 20, .inl (fun _ => 0)))]) := hD
  refine lv_aload_n hx hb dX0_init_12 rfl (lv_at hl 0 rfl) ?_
  refine lv_bipush (v := 20) hx hb dX0_init_13 (by decide) ?_
  refine va_newa (atype := .int) (ty := .int) (a0 := (20, .inl (fun _ => 0))) (N' := 20) hx hb (hg _ q94) rfl hK hP hD hS hA (fun _ => rfl) (by decide) (by decide +kernel) (Nat.le_of_ble_eq_true rfl) (Nat.le_of_ble_eq_true rfl) (Nat.le_of_ble_eq_true rfl) dX0_init_15 (fun o_6 cy_5 H_7 hK hP hD hS => ?_)
  have hP : va_P G vwCl ([(h0, .inr (4, [.ref o_2, .null, .null, .null, .int 0, .int 0])), (o_2, .inl (cy_1, 20, .inl (fun _ => 0))), (o_6, .inl (cy_5, 20, .inl (fun _ => 0)))]) H_7 := hP
  have hD : va_D A ([(h0, .inr (4, [.ref o_2, .null, .null, .null, .int 0, .int 0])), (o_2, .inl (cy_1, 20, .inl (fun _ => 0))), (o_6, .inl (cy_5, 20, .inl (fun _ => 0)))]) := hD
  have hK : va_K G vwCl [(cy_1, .int), (cy_5, .int)] s := hK
  refine W.widen (k := 2) (n := 40) (Nat.le_of_ble_eq_true rfl) (Nat.le_of_ble_eq_true rfl) ?_
  refine va_putF (D := G) (ci := 4) (v := .ref o_6) (ty := .array (.int)) (C := RX0) (T := TX0) (N := 6) hx hb hg in_X0 tyX0 tyX0_ok nmX0 hown hK hP hD hS 0 rfl rfl 1 (by decide) (hg _ q105) (fun _ h9 => h9) rfl hin rfl (by decide +kernel) rfl rfl (Nat.le_of_ble_eq_true rfl) dX0_init_17 (fun H_8 locs hP hD hS => ?_)
  have hP : va_P G vwCl ([(h0, .inr (4, [.ref o_2, .ref o_6, .null, .null, .int 0, .int 0])), (o_2, .inl (cy_1, 20, .inl (fun _ => 0))), (o_6, .inl (cy_5, 20, .inl (fun _ => 0)))]) H_8 := hP
  have hD : va_D A ([(h0, .inr (4, [.ref o_2, .ref o_6, .null, .null, .int 0, .int 0])), (o_2, .inl (cy_1, 20, .inl (fun _ => 0))), (o_6, .inl (cy_5, 20, .inl (fun _ => 0)))]) := hD
  refine lv_aload_n hx hb dX0_init_20 rfl (lv_at hl 0 rfl) ?_
  refine lv_bipush (v := 20) hx hb dX0_init_21 (by decide) ?_
  refine lv_bipush (v := 12) hx hb dX0_init_23 (by decide) ?_
  refine va_mna (X := [(h0, .inr (4, [.ref o_2, .ref o_6, .null, .null, .int 0, .int 0])), (o_2, .inl (cy_1, 20, .inl (fun _ => 0))), (o_6, .inl (cy_5, 20, .inl (fun _ => 0)))]) (L := []) (f := fun _ => .inr (0, [])) (ty := .int) (cy := cy_1) (N' := 20) (K' := 12) (z := (12, .inl (fun _ => 0))) hx hb hown (by rw [show ("[" ++ (FieldType.array .int).toString) = "[[I" from by decide +kernel]; exact hg _ q101) hG.2.2.2.2.2.2.2.2 (hg _ q94) (by rw [show (FieldType.array .int).toString = "[I" from by decide +kernel]; exact va_nm_int (hK.2 0 _ rfl).2) hK (by rw [show va_pl [] (fun _ => (.inr (0, []) : va_E)) = [] from rfl, List.append_nil]; exact hP) (by rw [show va_pl [] (fun _ => (.inr (0, []) : va_E)) = [] from rfl, List.append_nil]; exact hD) hS hA (by decide) (by decide) (by decide +kernel) (by decide +kernel) (by decide) (by decide +kernel) (by decide) rfl rfl (Nat.le_of_ble_eq_true rfl) (Nat.le_of_ble_eq_true rfl) (fun c9 => by show ({ cls := c9, slots := Array.replicate _ (.int 0), vm := .none } : Cell) = _; rw [arrV_new]; rfl) dX0_init_25 (fun o_9 rr_10 cy_11 H_12 hinj hnot hK hP hD hS => ?_)
  have hP := hP.sub (ws' := [(h0, .inr (4, [.ref o_2, .ref o_6, .null, .null, .int 0, .int 0])), (o_2, .inl (cy_1, 20, .inl (fun _ => 0))), (o_6, .inl (cy_5, 20, .inl (fun _ => 0))), (o_9, .inl (cy_11, 20, .inr (.inr (.inr (.inr (fun i => if i < 20 then some (rr_10 i) else none))))))]) [0, 1, 2, 3] rfl
  have hD := hD.sub (ws' := [(h0, .inr (4, [.ref o_2, .ref o_6, .null, .null, .int 0, .int 0])), (o_2, .inl (cy_1, 20, .inl (fun _ => 0))), (o_6, .inl (cy_5, 20, .inl (fun _ => 0))), (o_9, .inl (cy_11, 20, .inr (.inr (.inr (.inr (fun i => if i < 20 then some (rr_10 i) else none))))))]) [0, 1, 2, 3] (by decide) rfl
  have hP : va_P G vwCl ([(h0, .inr (4, [.ref o_2, .ref o_6, .null, .null, .int 0, .int 0])), (o_2, .inl (cy_1, 20, .inl (fun _ => 0))), (o_6, .inl (cy_5, 20, .inl (fun _ => 0))), (o_9, .inl (cy_11, 20, .inr (.inr (.inr (.inr (fun i => if i < 20 then some (rr_10 i) else none))))))]) H_12 := hP
  have hD : va_D A ([(h0, .inr (4, [.ref o_2, .ref o_6, .null, .null, .int 0, .int 0])), (o_2, .inl (cy_1, 20, .inl (fun _ => 0))), (o_6, .inl (cy_5, 20, .inl (fun _ => 0))), (o_9, .inl (cy_11, 20, .inr (.inr (.inr (.inr (fun i => if i < 20 then some (rr_10 i) else none))))))]) := hD
  have hK : va_K G vwCl [(cy_1, .int), (cy_5, .int), (cy_11, .array .int)] s := hK
  refine W.widen (k := 23) (n := 300) (Nat.le_of_ble_eq_true rfl) (Nat.le_of_ble_eq_true rfl) ?_
  refine va_putF (D := G) (ci := 4) (v := .ref o_9) (ty := .array (.array (.int))) (C := RX0) (T := TX0) (N := 6) hx hb hg in_X0 tyX0 tyX0_ok nmX0 hown hK hP hD hS 0 rfl rfl 2 (by decide) (hg _ q107) (fun _ h9 => h9) rfl hin rfl (by decide +kernel) rfl rfl (Nat.le_of_ble_eq_true rfl) dX0_init_29 (fun H_13 locs hP hD hS => ?_)
  have hP : va_P G vwCl ([(h0, .inr (4, [.ref o_2, .ref o_6, .ref o_9, .null, .int 0, .int 0])), (o_2, .inl (cy_1, 20, .inl (fun _ => 0))), (o_6, .inl (cy_5, 20, .inl (fun _ => 0))), (o_9, .inl (cy_11, 20, .inr (.inr (.inr (.inr (fun i => if i < 20 then some (rr_10 i) else none))))))]) H_13 := hP
  have hD : va_D A ([(h0, .inr (4, [.ref o_2, .ref o_6, .ref o_9, .null, .int 0, .int 0])), (o_2, .inl (cy_1, 20, .inl (fun _ => 0))), (o_6, .inl (cy_5, 20, .inl (fun _ => 0))), (o_9, .inl (cy_11, 20, .inr (.inr (.inr (.inr (fun i => if i < 20 then some (rr_10 i) else none))))))]) := hD
  refine lv_aload_n hx hb dX0_init_32 rfl (lv_at hl 0 rfl) ?_
  refine lv_bipush (v := 20) hx hb dX0_init_33 (by decide) ?_
  refine lv_bipush (v := 20) hx hb dX0_init_35 (by decide) ?_
  refine va_mna (X := [(h0, .inr (4, [.ref o_2, .ref o_6, .ref o_9, .null, .int 0, .int 0])), (o_2, .inl (cy_1, 20, .inl (fun _ => 0))), (o_6, .inl (cy_5, 20, .inl (fun _ => 0))), (o_9, .inl (cy_11, 20, .inr (.inr (.inr (.inr (fun i => if i < 20 then some (rr_10 i) else none))))))]) (L := []) (f := fun _ => .inr (0, [])) (ty := .int) (cy := cy_1) (N' := 20) (K' := 20) (z := (20, .inl (fun _ => 0))) hx hb hown (by rw [show ("[" ++ (FieldType.array .int).toString) = "[[I" from by decide +kernel]; exact hg _ q101) hG.2.2.2.2.2.2.2.2 (hg _ q94) (by rw [show (FieldType.array .int).toString = "[I" from by decide +kernel]; exact va_nm_int (hK.2 0 _ rfl).2) hK (by rw [show va_pl [] (fun _ => (.inr (0, []) : va_E)) = [] from rfl, List.append_nil]; exact hP) (by rw [show va_pl [] (fun _ => (.inr (0, []) : va_E)) = [] from rfl, List.append_nil]; exact hD) hS hA (by decide) (by decide) (by decide +kernel) (by decide +kernel) (by decide) (by decide +kernel) (by decide) rfl rfl (Nat.le_of_ble_eq_true rfl) (Nat.le_of_ble_eq_true rfl) (fun c9 => by show ({ cls := c9, slots := Array.replicate _ (.int 0), vm := .none } : Cell) = _; rw [arrV_new]; rfl) dX0_init_37 (fun o_14 rr_15 cy_16 H_17 hinj hnot hK hP hD hS => ?_)
  obtain ⟨hP, hD⟩ := z_row (X := [(h0, .inr (4, [.ref o_2, .ref o_6, .ref o_9, .null, .int 0, .int 0])), (o_2, .inl (cy_1, 20, .inl (fun _ => 0))), (o_6, .inl (cy_5, 20, .inl (fun _ => 0))), (o_9, .inl (cy_11, 20, .inr (.inr (.inr (.inr (fun i => if i < 20 then some (rr_10 i) else none)))))), (o_14, .inl (cy_16, 20, .inr (.inr (.inr (.inr (fun i => if i < 20 then some (rr_15 i) else none))))))]) hP hD (a := rr_15 0) (List.mem_append_right _ (List.mem_map.mpr ⟨0, List.mem_range.mpr (by decide), rfl⟩)) (vr_up_in (List.mem_map.mpr ⟨0, List.mem_range.mpr (by decide), rfl⟩))
  have hf0 : (fun (i : Nat) => if i < 20 then some (rr_15 i) else none) 0 = some (rr_15 0) := if_pos (by decide)
  generalize rr_15 0 = rw0 at hP hD hf0
  have hP : va_P G vwCl ([(h0, .inr (4, [.ref o_2, .ref o_6, .ref o_9, .null, .int 0, .int 0])), (o_2, .inl (cy_1, 20, .inl (fun _ => 0))), (o_6, .inl (cy_5, 20, .inl (fun _ => 0))), (o_9, .inl (cy_11, 20, .inr (.inr (.inr (.inr (fun i => if i < 20 then some (rr_10 i) else none)))))), (o_14, .inl (cy_16, 20, .inr (.inr (.inr (.inr (fun i => if i < 20 then some (rr_15 i) else none)))))), (rw0, .inl (cy_1, 20, .inl (fun _ => 0)))]) H_17 := hP
  have hD : va_D A ([(h0, .inr (4, [.ref o_2, .ref o_6, .ref o_9, .null, .int 0, .int 0])), (o_2, .inl (cy_1, 20, .inl (fun _ => 0))), (o_6, .inl (cy_5, 20, .inl (fun _ => 0))), (o_9, .inl (cy_11, 20, .inr (.inr (.inr (.inr (fun i => if i < 20 then some (rr_10 i) else none)))))), (o_14, .inl (cy_16, 20, .inr (.inr (.inr (.inr (fun i => if i < 20 then some (rr_15 i) else none)))))), (rw0, .inl (cy_1, 20, .inl (fun _ => 0)))]) := hD
  have hK : va_K G vwCl [(cy_1, .int), (cy_5, .int), (cy_11, .array .int), (cy_16, .array .int)] s := hK
  refine W.widen (k := 44) (n := 720) (Nat.le_of_ble_eq_true rfl) (Nat.le_of_ble_eq_true rfl) ?_
  refine va_putF (D := G) (ci := 4) (v := .ref o_14) (ty := .array (.array (.int))) (C := RX0) (T := TX0) (N := 6) hx hb hg in_X0 tyX0 tyX0_ok nmX0 hown hK hP hD hS 0 rfl rfl 3 (by decide) (hg _ q108) (fun _ h9 => h9) rfl hin rfl (by decide +kernel) rfl rfl (Nat.le_of_ble_eq_true rfl) dX0_init_41 (fun H_18 locs hP hD hS => ?_)
  have hP : va_P G vwCl ([(h0, .inr (4, [.ref o_2, .ref o_6, .ref o_9, .ref o_14, .int 0, .int 0])), (o_2, .inl (cy_1, 20, .inl (fun _ => 0))), (o_6, .inl (cy_5, 20, .inl (fun _ => 0))), (o_9, .inl (cy_11, 20, .inr (.inr (.inr (.inr (fun i => if i < 20 then some (rr_10 i) else none)))))), (o_14, .inl (cy_16, 20, .inr (.inr (.inr (.inr (fun i => if i < 20 then some (rr_15 i) else none)))))), (rw0, .inl (cy_1, 20, .inl (fun _ => 0)))]) H_18 := hP
  have hD : va_D A ([(h0, .inr (4, [.ref o_2, .ref o_6, .ref o_9, .ref o_14, .int 0, .int 0])), (o_2, .inl (cy_1, 20, .inl (fun _ => 0))), (o_6, .inl (cy_5, 20, .inl (fun _ => 0))), (o_9, .inl (cy_11, 20, .inr (.inr (.inr (.inr (fun i => if i < 20 then some (rr_10 i) else none)))))), (o_14, .inl (cy_16, 20, .inr (.inr (.inr (.inr (fun i => if i < 20 then some (rr_15 i) else none)))))), (rw0, .inl (cy_1, 20, .inl (fun _ => 0)))]) := hD
  refine lv_aload_n hx hb dX0_init_44 rfl (lv_at hl 0 rfl) ?_
  refine lv_iconst (v := 0) hx hb dX0_init_45 (by decide) ?_
  refine va_put (D := G) (ci := 4) (v := .int 0) (ty := .int) (C := RX0) (T := TX0) (N := 6) hx hb hg in_X0 tyX0 tyX0_ok nmX0 hown hK hP hD hS 0 rfl rfl 4 (by decide) (hg _ q109) (fun _ h9 => h9) rfl (by decide +kernel) rfl rfl (Nat.le_of_ble_eq_true rfl) dX0_init_46 (fun H_19 locs hP hD hS => ?_)
  have hP : va_P G vwCl ([(h0, .inr (4, [.ref o_2, .ref o_6, .ref o_9, .ref o_14, .int 0, .int 0])), (o_2, .inl (cy_1, 20, .inl (fun _ => 0))), (o_6, .inl (cy_5, 20, .inl (fun _ => 0))), (o_9, .inl (cy_11, 20, .inr (.inr (.inr (.inr (fun i => if i < 20 then some (rr_10 i) else none)))))), (o_14, .inl (cy_16, 20, .inr (.inr (.inr (.inr (fun i => if i < 20 then some (rr_15 i) else none)))))), (rw0, .inl (cy_1, 20, .inl (fun _ => 0)))]) H_19 := hP
  have hD : va_D A ([(h0, .inr (4, [.ref o_2, .ref o_6, .ref o_9, .ref o_14, .int 0, .int 0])), (o_2, .inl (cy_1, 20, .inl (fun _ => 0))), (o_6, .inl (cy_5, 20, .inl (fun _ => 0))), (o_9, .inl (cy_11, 20, .inr (.inr (.inr (.inr (fun i => if i < 20 then some (rr_10 i) else none)))))), (o_14, .inl (cy_16, 20, .inr (.inr (.inr (.inr (fun i => if i < 20 then some (rr_15 i) else none)))))), (rw0, .inl (cy_1, 20, .inl (fun _ => 0)))]) := hD
  refine lv_aload_n hx hb dX0_init_49 rfl (lv_at hl 0 rfl) ?_
  refine lv_bipush (v := 12) hx hb dX0_init_50 (by decide) ?_
  refine va_put (D := G) (ci := 4) (v := .int 12) (ty := .int) (C := RX0) (T := TX0) (N := 6) hx hb hg in_X0 tyX0 tyX0_ok nmX0 hown hK hP hD hS 0 rfl rfl 5 (by decide) (hg _ q110) (fun _ h9 => h9) rfl (by decide +kernel) rfl rfl (Nat.le_of_ble_eq_true rfl) dX0_init_52 (fun H_20 locs hP hD hS => ?_)
  have hP : va_P G vwCl ([(h0, .inr (4, [.ref o_2, .ref o_6, .ref o_9, .ref o_14, .int 0, .int 12])), (o_2, .inl (cy_1, 20, .inl (fun _ => 0))), (o_6, .inl (cy_5, 20, .inl (fun _ => 0))), (o_9, .inl (cy_11, 20, .inr (.inr (.inr (.inr (fun i => if i < 20 then some (rr_10 i) else none)))))), (o_14, .inl (cy_16, 20, .inr (.inr (.inr (.inr (fun i => if i < 20 then some (rr_15 i) else none)))))), (rw0, .inl (cy_1, 20, .inl (fun _ => 0)))]) H_20 := hP
  have hD : va_D A ([(h0, .inr (4, [.ref o_2, .ref o_6, .ref o_9, .ref o_14, .int 0, .int 12])), (o_2, .inl (cy_1, 20, .inl (fun _ => 0))), (o_6, .inl (cy_5, 20, .inl (fun _ => 0))), (o_9, .inl (cy_11, 20, .inr (.inr (.inr (.inr (fun i => if i < 20 then some (rr_10 i) else none)))))), (o_14, .inl (cy_16, 20, .inr (.inr (.inr (.inr (fun i => if i < 20 then some (rr_15 i) else none)))))), (rw0, .inl (cy_1, 20, .inl (fun _ => 0)))]) := hD
  refine W.widen (k := 44) (n := 720) (Nat.le_of_ble_eq_true rfl) (Nat.le_of_ble_eq_true rfl) ?_
  have hP9 := hP.sub (ws' := [(h0, .inr (4, [.ref o_2, .ref o_6, .ref o_9, .ref o_14, .int 0, .int 12])), (o_14, .inl (cy_16, 20, .inr (.inr (.inr (.inr ((fun i => if i < 20 then some (rr_15 i) else none))))))), (rw0, .inl (cy_1, 20, .inl (fun _ => 0)))]) [0, 4, 5] rfl
  have hD9 := hD.sub (ws' := [(h0, .inr (4, [.ref o_2, .ref o_6, .ref o_9, .ref o_14, .int 0, .int 12])), (o_14, .inl (cy_16, 20, .inr (.inr (.inr (.inr ((fun i => if i < 20 then some (rr_15 i) else none))))))), (rw0, .inl (cy_1, 20, .inl (fun _ => 0)))]) [0, 4, 5] (by decide) rfl
  have hK9 := hK.sub (tys' := [(cy_16, .array .int), (cy_1, .int)]) [3, 0] rfl
  exact W.vret hx hb hr (fun t ht hW => ⟨⟨(), rfl, trivial, ⟨o_2, o_6, o_9, o_14, cy_16, fun i => if i < 20 then some (rr_15 i) else none, cy_1, rw0, hf0, QW.of hP9 hK9 hD9 ht hW.alike⟩⟩, hS.F ht⟩) hS.2.2 dX0_init_55

abbrev wz_X6_init : List Cond := .code yX6_init cX6_init 2 none :: lw_good
set_option maxHeartbeats 4000000 in
set_option maxRecDepth 100000 in
/-- Repertory() -/
theorem k_X6_init (l : Launch) (G : va_G) (z : Nat) (h0 : Nat) (sz : Nat)  : Met l yX6_init wz_X6_init ({ frames := 1, cells := 3, slots := 1312, locals := 20 }) (va_Pc [.ref h0] (PW G z [(h0, .inr (10, [.null, .null, .null, .int 0]))] [] sz)) (va_Qv (fun (_ : Unit) => True) (fun (_ : Unit) (t : State) => ∃ (b1 : Nat), ∃ (b2 : Nat), ∃ (b3 : Nat), ∃ (cyA : ClassId), ∃ (cyJ : ClassId), ∃ (cyT : ClassId), QW G [(h0, .inr (10, [.ref b1, .ref b2, .ref b3, .int 0])), (b1, .inl (cyA, 400, .inl (nI))), (b2, .inl (cyJ, 512, .inl (fun _ => 0))), (b3, .inl (cyT, 400, .inl (fun _ => 0)))] [(cyA, .int), (cyJ, .int), (cyT, .int)] (va_A [(h0, .inr (10, [.null, .null, .null, .int 0]))] sz) t) (va_A [(h0, .inr (10, [.null, .null, .null, .int 0]))] sz)) 3 1312 (va_A [(h0, .inr (10, [.null, .null, .null, .int 0]))] sz) := by
  refine Met.ofW (cc := cX6_init) (maxL := 2) (ret := none) (by decide) rfl ?_
  intro p e s m args below meth c s₁ B hml hv
  obtain ⟨rfl, rfl, hP, hK, hD0, hG⟩ := hv
  have hx := B.exec
  have hb := B.bytes
  have hr := B.returns
  have hts := atoms_spec (ws := wz_X6_init) B.pre
  have hg : ∀ w ∈ lw_good, w.before _ s = true := fun w h => hts w (List.mem_cons_of_mem _ h)
  have hown : s.vm.findClass RX6 = some m.cls := findClass_of_methodNamed B.named
  have hlocks := B.notSynchronized
  have hin : meth.name = "<init>" := (name_of_methodNamed B.named B.method).1
  have hD := hD0.self (sz := s.heap.size)
  generalize hAe : va_A [(h0, .inr (10, [.null, .null, .null, .int 0]))] s.heap.size = A at hD hG ⊢
  have hA : ∀ q : Nat, s.heap.size ≤ q → A q := fun q h => by rw [← hAe]; exact Or.inr h
  have hS : va_S A s.heap s.heap [] := va_S.rf
  have hl := lv_entry ([.ref h0]) (n := 2) (Nat.le_of_ble_eq_true rfl)
  rw [lg_entry_eq]
  generalize (lg_sl ([.ref h0]) ++ List.replicate (2 - (lg_sl ([.ref h0])).length) Slot.unset).toArray = ls at hl ⊢
  have hl : lv_has ls 2 [(0, .ref h0)] := hl
  refine lv_aload_n hx hb dX6_init_0 rfl (lv_at hl 0 rfl) ?_
  refine W.objInit hx hb hown (hg _ q79) (hg _ q43) (hg _ q44) rfl (by rw [hml]; exact hl.1) rfl dX6_init_1 (Nat.le_of_ble_eq_true rfl) (Nat.le_of_ble_eq_true rfl) ?_
  refine W.eq (g2 := F0 m 4 ls []) rfl ?_
  refine lv_aload_n hx hb dX6_init_4 rfl (lv_at hl 0 rfl) ?_
  refine lv_sipush (v := 400) hx hb dX6_init_5 (by decide) ?_
  refine va_newa (atype := .int) (ty := .int) (a0 := (400, .inl (fun _ => 0))) (N' := 400) hx hb (hg _ q94) rfl hK hP hD hS hA (fun _ => rfl) (by decide) (by decide +kernel) (Nat.le_of_ble_eq_true rfl) (Nat.le_of_ble_eq_true rfl) (Nat.le_of_ble_eq_true rfl) dX6_init_8 (fun o_2 cy_1 H_3 hK hP hD hS => ?_)
  have hP : va_P G vwCl ([(h0, .inr (10, [.null, .null, .null, .int 0])), (o_2, .inl (cy_1, 400, .inl (fun _ => 0)))]) H_3 := hP
  have hD : va_D A ([(h0, .inr (10, [.null, .null, .null, .int 0])), (o_2, .inl (cy_1, 400, .inl (fun _ => 0)))]) := hD
  have hK : va_K G vwCl [(cy_1, .int)] s := hK
  refine W.widen (k := 1) (n := 400) (Nat.le_of_ble_eq_true rfl) (Nat.le_of_ble_eq_true rfl) ?_
  refine va_putF (D := G) (ci := 10) (v := .ref o_2) (ty := .array (.int)) (C := RX6) (T := TX6) (N := 4) hx hb hg in_X6 tyX6 tyX6_ok nmX6 hown hK hP hD hS 0 rfl rfl 0 (by decide) (hg _ q80) (fun _ h9 => h9) rfl hin rfl (by decide +kernel) rfl rfl (Nat.le_of_ble_eq_true rfl) dX6_init_10 (fun H_4 locs hP hD hS => ?_)
  have hP : va_P G vwCl ([(h0, .inr (10, [.ref o_2, .null, .null, .int 0])), (o_2, .inl (cy_1, 400, .inl (fun _ => 0)))]) H_4 := hP
  have hD : va_D A ([(h0, .inr (10, [.ref o_2, .null, .null, .int 0])), (o_2, .inl (cy_1, 400, .inl (fun _ => 0)))]) := hD
  refine lv_aload_n hx hb dX6_init_13 rfl (lv_at hl 0 rfl) ?_
  refine lv_sipush (v := 512) hx hb dX6_init_14 (by decide) ?_
  refine va_newa (atype := .int) (ty := .int) (a0 := (512, .inl (fun _ => 0))) (N' := 512) hx hb (hg _ q94) rfl hK hP hD hS hA (fun _ => rfl) (by decide) (by decide +kernel) (Nat.le_of_ble_eq_true rfl) (Nat.le_of_ble_eq_true rfl) (Nat.le_of_ble_eq_true rfl) dX6_init_17 (fun o_6 cy_5 H_7 hK hP hD hS => ?_)
  have hP : va_P G vwCl ([(h0, .inr (10, [.ref o_2, .null, .null, .int 0])), (o_2, .inl (cy_1, 400, .inl (fun _ => 0))), (o_6, .inl (cy_5, 512, .inl (fun _ => 0)))]) H_7 := hP
  have hD : va_D A ([(h0, .inr (10, [.ref o_2, .null, .null, .int 0])), (o_2, .inl (cy_1, 400, .inl (fun _ => 0))), (o_6, .inl (cy_5, 512, .inl (fun _ => 0)))]) := hD
  have hK : va_K G vwCl [(cy_1, .int), (cy_5, .int)] s := hK
  refine W.widen (k := 2) (n := 912) (Nat.le_of_ble_eq_true rfl) (Nat.le_of_ble_eq_true rfl) ?_
  refine va_putF (D := G) (ci := 10) (v := .ref o_6) (ty := .array (.int)) (C := RX6) (T := TX6) (N := 4) hx hb hg in_X6 tyX6 tyX6_ok nmX6 hown hK hP hD hS 0 rfl rfl 1 (by decide) (hg _ q81) (fun _ h9 => h9) rfl hin rfl (by decide +kernel) rfl rfl (Nat.le_of_ble_eq_true rfl) dX6_init_19 (fun H_8 locs hP hD hS => ?_)
  have hP : va_P G vwCl ([(h0, .inr (10, [.ref o_2, .ref o_6, .null, .int 0])), (o_2, .inl (cy_1, 400, .inl (fun _ => 0))), (o_6, .inl (cy_5, 512, .inl (fun _ => 0)))]) H_8 := hP
  have hD : va_D A ([(h0, .inr (10, [.ref o_2, .ref o_6, .null, .int 0])), (o_2, .inl (cy_1, 400, .inl (fun _ => 0))), (o_6, .inl (cy_5, 512, .inl (fun _ => 0)))]) := hD
  refine lv_aload_n hx hb dX6_init_22 rfl (lv_at hl 0 rfl) ?_
  refine lv_sipush (v := 400) hx hb dX6_init_23 (by decide) ?_
  refine va_newa (atype := .int) (ty := .int) (a0 := (400, .inl (fun _ => 0))) (N' := 400) hx hb (hg _ q94) rfl hK hP hD hS hA (fun _ => rfl) (by decide) (by decide +kernel) (Nat.le_of_ble_eq_true rfl) (Nat.le_of_ble_eq_true rfl) (Nat.le_of_ble_eq_true rfl) dX6_init_26 (fun o_10 cy_9 H_11 hK hP hD hS => ?_)
  have hP : va_P G vwCl ([(h0, .inr (10, [.ref o_2, .ref o_6, .null, .int 0])), (o_2, .inl (cy_1, 400, .inl (fun _ => 0))), (o_6, .inl (cy_5, 512, .inl (fun _ => 0))), (o_10, .inl (cy_9, 400, .inl (fun _ => 0)))]) H_11 := hP
  have hD : va_D A ([(h0, .inr (10, [.ref o_2, .ref o_6, .null, .int 0])), (o_2, .inl (cy_1, 400, .inl (fun _ => 0))), (o_6, .inl (cy_5, 512, .inl (fun _ => 0))), (o_10, .inl (cy_9, 400, .inl (fun _ => 0)))]) := hD
  have hK : va_K G vwCl [(cy_1, .int), (cy_5, .int), (cy_9, .int)] s := hK
  refine W.widen (k := 3) (n := 1312) (Nat.le_of_ble_eq_true rfl) (Nat.le_of_ble_eq_true rfl) ?_
  refine va_putF (D := G) (ci := 10) (v := .ref o_10) (ty := .array (.int)) (C := RX6) (T := TX6) (N := 4) hx hb hg in_X6 tyX6 tyX6_ok nmX6 hown hK hP hD hS 0 rfl rfl 2 (by decide) (hg _ q82) (fun _ h9 => h9) rfl hin rfl (by decide +kernel) rfl rfl (Nat.le_of_ble_eq_true rfl) dX6_init_28 (fun H_12 locs hP hD hS => ?_)
  have hP : va_P G vwCl ([(h0, .inr (10, [.ref o_2, .ref o_6, .ref o_10, .int 0])), (o_2, .inl (cy_1, 400, .inl (fun _ => 0))), (o_6, .inl (cy_5, 512, .inl (fun _ => 0))), (o_10, .inl (cy_9, 400, .inl (fun _ => 0)))]) H_12 := hP
  have hD : va_D A ([(h0, .inr (10, [.ref o_2, .ref o_6, .ref o_10, .int 0])), (o_2, .inl (cy_1, 400, .inl (fun _ => 0))), (o_6, .inl (cy_5, 512, .inl (fun _ => 0))), (o_10, .inl (cy_9, 400, .inl (fun _ => 0)))]) := hD
  refine lv_aload_n hx hb dX6_init_31 rfl (lv_at hl 0 rfl) ?_
  refine lv_iconst (v := 0) hx hb dX6_init_32 (by decide) ?_
  refine va_put (D := G) (ci := 10) (v := .int 0) (ty := .int) (C := RX6) (T := TX6) (N := 4) hx hb hg in_X6 tyX6 tyX6_ok nmX6 hown hK hP hD hS 0 rfl rfl 3 (by decide) (hg _ q83) (fun _ h9 => h9) rfl (by decide +kernel) rfl rfl (Nat.le_of_ble_eq_true rfl) dX6_init_33 (fun H_13 locs hP hD hS => ?_)
  have hP : va_P G vwCl ([(h0, .inr (10, [.ref o_2, .ref o_6, .ref o_10, .int 0])), (o_2, .inl (cy_1, 400, .inl (fun _ => 0))), (o_6, .inl (cy_5, 512, .inl (fun _ => 0))), (o_10, .inl (cy_9, 400, .inl (fun _ => 0)))]) H_13 := hP
  have hD : va_D A ([(h0, .inr (10, [.ref o_2, .ref o_6, .ref o_10, .int 0])), (o_2, .inl (cy_1, 400, .inl (fun _ => 0))), (o_6, .inl (cy_5, 512, .inl (fun _ => 0))), (o_10, .inl (cy_9, 400, .inl (fun _ => 0)))]) := hD
  refine lv_iconst (v := 0) hx hb dX6_init_36 (by decide) ?_
  refine lv_istore_n (lv' := [(1, .int 0), (0, .ref h0)]) hx hb dX6_init_37 rfl hl (by decide) rfl (fun ls hl => ?_)
  refine z_loop (P := fun (n : Nat) (x : Nat × (Nat → Int32)) (H : Heap) (locs : List Loc) (ls : Array Slot) => ∃ (i : Nat) (g : Nat → Int32), x = (i, g) ∧ (i ≤ 400 ∧ 401 ≤ i + n ∧ (∀ j, j < i → g j = nI j)) ∧ va_P G vwCl ([(h0, .inr (10, [.ref o_2, .ref o_6, .ref o_10, .int 0])), (o_2, .inl (cy_1, 400, .inl (g))), (o_6, .inl (cy_5, 512, .inl (fun _ => 0))), (o_10, .inl (cy_9, 400, .inl (fun _ => 0)))]) H ∧ va_D A ([(h0, .inr (10, [.ref o_2, .ref o_6, .ref o_10, .int 0])), (o_2, .inl (cy_1, 400, .inl (g))), (o_6, .inl (cy_5, 512, .inl (fun _ => 0))), (o_10, .inl (cy_9, 400, .inl (fun _ => 0)))]) ∧ va_S (A) s.heap H locs ∧ lv_has ls 2 [(1, .int (nI i)), (0, .ref h0)]) ?_ ?_ (401) ((0, fun _ => 0)) _ _ _ ⟨0, fun _ => 0, rfl, ⟨by omega, by omega, fun j h => absurd h (Nat.not_lt_zero j)⟩, hP, hD, hS, lv_sub hl [0, 1] rfl⟩
  · rintro x H locs ls ⟨i, g, rfl, ⟨hi1, hi2, hi3⟩, -⟩
    omega
  · rintro n ih38 x H locs ls ⟨i, g, rfl, ⟨hi1, hi2, hi3⟩, hP, hD, hS, hl⟩
    refine lv_iload_n hx hb dX6_init_38 rfl (lv_at hl 0 rfl) ?_
    refine lv_sipush (v := 400) hx hb dX6_init_39 (by decide) ?_
    refine lv_icmp_ge (tgt := 58) hx hb dX6_init_42 (by decide) (fun c_14 => ?_) (fun c_14 => ?_)
    · have hge : 400 ≤ i := (nI_leI (a := 400) (by omega) (by omega)).mp c_14
      have hP := z_cong hP 1 rfl (g := nI) (fun j h => hi3 j (by omega))
      have hD := hD.set (p := 1) rfl (e := .inl (cy_1, 400, .inl nI))
      have hP : va_P G vwCl ([(h0, .inr (10, [.ref o_2, .ref o_6, .ref o_10, .int 0])), (o_2, .inl (cy_1, 400, .inl (nI))), (o_6, .inl (cy_5, 512, .inl (fun _ => 0))), (o_10, .inl (cy_9, 400, .inl (fun _ => 0)))]) H := hP
      have hD : va_D A ([(h0, .inr (10, [.ref o_2, .ref o_6, .ref o_10, .int 0])), (o_2, .inl (cy_1, 400, .inl (nI))), (o_6, .inl (cy_5, 512, .inl (fun _ => 0))), (o_10, .inl (cy_9, 400, .inl (fun _ => 0)))]) := hD
      refine W.widen (k := 3) (n := 1312) (Nat.le_of_ble_eq_true rfl) (Nat.le_of_ble_eq_true rfl) ?_
      have hP9 := hP.sub (ws' := [(h0, .inr (10, [.ref o_2, .ref o_6, .ref o_10, .int 0])), (o_2, .inl (cy_1, 400, .inl (nI))), (o_6, .inl (cy_5, 512, .inl (fun _ => 0))), (o_10, .inl (cy_9, 400, .inl (fun _ => 0)))]) [0, 1, 2, 3] rfl
      have hD9 := hD.sub (ws' := [(h0, .inr (10, [.ref o_2, .ref o_6, .ref o_10, .int 0])), (o_2, .inl (cy_1, 400, .inl (nI))), (o_6, .inl (cy_5, 512, .inl (fun _ => 0))), (o_10, .inl (cy_9, 400, .inl (fun _ => 0)))]) [0, 1, 2, 3] (by decide) rfl
      have hK9 := hK.sub (tys' := [(cy_1, .int), (cy_5, .int), (cy_9, .int)]) [0, 1, 2] rfl
      exact W.vret hx hb hr (fun t ht hW => ⟨⟨(), rfl, trivial, ⟨o_2, o_6, o_10, cy_1, cy_5, cy_9, QW.of hP9 hK9 hD9 ht hW.alike⟩⟩, hS.F ht⟩) hS.2.2 dX6_init_58
    · have hlt : i < 400 := by
        rcases Nat.lt_or_ge i (400) with q | q
        · exact q
        · exact absurd (nI_le (a := 400) q (by omega)) c_14
      refine lv_aload_n hx hb dX6_init_45 rfl (lv_at hl 1 rfl) ?_
      refine va_get (D := G) (ci := 10) (v := .ref o_2) (C := RX6) (T := TX6) (N := 4) hx hb hg in_X6 hown hK hP 0 rfl rfl 0 (by decide) (hg _ q80) (fun _ h9 => h9) rfl dX6_init_46 ?_
      refine lv_iload_n hx hb dX6_init_49 rfl (lv_at hl 0 rfl) ?_
      refine lv_iload_n hx hb dX6_init_50 rfl (lv_at hl 0 rfl) ?_
      refine va_iast hx hb hK hP hD hS 1 0 rfl rfl (vp_in_nI hlt (by decide)) dX6_init_51 (fun H_15 locs hP hD hS => ?_)
      have hP : va_P G vwCl ([(h0, .inr (10, [.ref o_2, .ref o_6, .ref o_10, .int 0])), (o_2, .inl (cy_1, 400, .inl (upd (g) ((nI i) : Int32).toNatClampNeg ((nI i))))), (o_6, .inl (cy_5, 512, .inl (fun _ => 0))), (o_10, .inl (cy_9, 400, .inl (fun _ => 0)))]) H_15 := hP
      have hD : va_D A ([(h0, .inr (10, [.ref o_2, .ref o_6, .ref o_10, .int 0])), (o_2, .inl (cy_1, 400, .inl (upd (g) ((nI i) : Int32).toNatClampNeg ((nI i))))), (o_6, .inl (cy_5, 512, .inl (fun _ => 0))), (o_10, .inl (cy_9, 400, .inl (fun _ => 0)))]) := hD
      refine lv_iinc (v := (nI (i + 1))) (lv' := [(1, .int (nI (i + 1))), (0, .ref h0)]) hx hb dX6_init_52 hl (k := 0) rfl (nI_1 _) (by decide) rfl (fun ls hl => ?_)
      refine lv_goto (tgt := 38) hx hb dX6_init_55 (by decide) ?_
      exact ih38 ((i + 1, upd g (nI i).toNatClampNeg (nI i))) _ _ _ ⟨i + 1, upd g (nI i).toNatClampNeg (nI i), rfl, ⟨by omega, by omega, fun j h => by rw [nI_clamp (by omega)]; exact (Nat.lt_succ_iff_lt_or_eq.mp h).elim (fun h => by rw [z_upd_ne (by omega)]; exact hi3 j h) (fun h => by rw [h]; exact z_upd_same)⟩, hP, hD, hS, lv_sub hl [0, 1] rfl⟩

abbrev wz_X8_init : List Cond := .code yX8_init cX8_init 1 none :: lw_good
set_option maxHeartbeats 4000000 in
set_option maxRecDepth 100000 in
/-- Watermarkmill() -/
theorem k_X8_init (l : Launch) (G : va_G) (z : Nat) (h0 : Nat) (sz : Nat)  : Met l yX8_init wz_X8_init ({ frames := 4, cells := 55, slots := 2097, locals := 80 }) (va_Pc [.ref h0] (PW G z [(h0, .inr (12, [.null, .null, .null, .null, .null, .null, .null, .null, .int 0, .int 0]))] [] sz)) (va_Qv (fun (_ : Unit) => True) (fun (_ : Unit) (t : State) => ∃ (a1 : Nat), ∃ (a2 : Nat), ∃ (a3 : Nat), ∃ (a4 : Nat), ∃ (a5 : Nat), ∃ (a6 : Nat), ∃ (a7 : Nat), ∃ (a8 : Nat), ∃ (b1 : Nat), ∃ (b2 : Nat), ∃ (b3 : Nat), ∃ (cyA : ClassId), ∃ (cyJ : ClassId), ∃ (cyT : ClassId), ∃ (d1 : Nat), ∃ (d2 : Nat), ∃ (d3 : Nat), ∃ (d4 : Nat), ∃ (cyO : ClassId), ∃ (fS : Nat → Option Nat), ∃ (cyI : ClassId), ∃ (r0 : Nat), (fS 0 = some r0) ∧ QW G [(h0, .inr (12, [.ref a1, .ref a2, .ref a3, .ref a4, .ref a5, .ref a6, .ref a7, .ref a8, .int 3, .int 0])), (a1, .inr (3, [.int 0, .ref z, .int 0])), (a2, .inr (3, [.int 0, .ref z, .int 0])), (a3, .inr (3, [.int 0, .ref z, .int 0])), (a4, .inr (3, [.int 0, .ref z, .int 0])), (a5, .inr (3, [.int 0, .ref z, .int 0])), (a6, .inr (10, [.ref b1, .ref b2, .ref b3, .int 0])), (b1, .inl (cyA, 400, .inl (nI))), (b2, .inl (cyJ, 512, .inl (fun _ => 0))), (b3, .inl (cyT, 400, .inl (fun _ => 0))), (a7, .inr (4, [.ref d1, .ref d2, .ref d3, .ref d4, .int 0, .int 12])), (d4, .inl (cyO, 20, .inr (.inr (.inr (.inr (fS)))))), (r0, .inl (cyI, 20, .inl (fun _ => 0)))] [(cyA, .int), (cyJ, .int), (cyT, .int), (cyO, .array .int), (cyI, .int)] (va_A [(h0, .inr (12, [.null, .null, .null, .null, .null, .null, .null, .null, .int 0, .int 0]))] sz) t) (va_A [(h0, .inr (12, [.null, .null, .null, .null, .null, .null, .null, .null, .int 0, .int 0]))] sz)) 55 2097 (va_A [(h0, .inr (12, [.null, .null, .null, .null, .null, .null, .null, .null, .int 0, .int 0]))] sz) := by
  refine Met.ofW (cc := cX8_init) (maxL := 1) (ret := none) (by decide) rfl ?_
  intro p e s m args below meth c s₁ B hml hv
  obtain ⟨rfl, rfl, hP, hK, hD0, hG⟩ := hv
  have hx := B.exec
  have hb := B.bytes
  have hr := B.returns
  have hts := atoms_spec (ws := wz_X8_init) B.pre
  have hg : ∀ w ∈ lw_good, w.before _ s = true := fun w h => hts w (List.mem_cons_of_mem _ h)
  have hown : s.vm.findClass RX8 = some m.cls := findClass_of_methodNamed B.named
  have hlocks := B.notSynchronized
  have hin : meth.name = "<init>" := (name_of_methodNamed B.named B.method).1
  have hD := hD0.self (sz := s.heap.size)
  generalize hAe : va_A [(h0, .inr (12, [.null, .null, .null, .null, .null, .null, .null, .null, .int 0, .int 0]))] s.heap.size = A at hD hG ⊢
  have hA : ∀ q : Nat, s.heap.size ≤ q → A q := fun q h => by rw [← hAe]; exact Or.inr h
  have hS : va_S A s.heap s.heap [] := va_S.rf
  have hl := lv_entry ([.ref h0]) (n := 1) (Nat.le_of_ble_eq_true rfl)
  rw [lg_entry_eq]
  generalize (lg_sl ([.ref h0]) ++ List.replicate (1 - (lg_sl ([.ref h0])).length) Slot.unset).toArray = ls at hl ⊢
  have hl : lv_has ls 1 [(0, .ref h0)] := hl
  refine lv_aload_n hx hb dX8_init_0 rfl (lv_at hl 0 rfl) ?_
  refine W.objInit hx hb hown (hg _ q42) (hg _ q43) (hg _ q44) rfl (by rw [hml]; exact hl.1) rfl dX8_init_1 (Nat.le_of_ble_eq_true rfl) (Nat.le_of_ble_eq_true rfl) ?_
  refine W.eq (g2 := F0 m 4 ls []) rfl ?_
  refine lv_aload_n hx hb dX8_init_4 rfl (lv_at hl 0 rfl) ?_
  refine va_new (ci := 3) (fs := [.int 0, .null, .int 0]) (C := RJx4a65c) (T := TJx4a65c) (N := 3) hx hb hg in_Jx4a65c tyJx4a65c tyJx4a65c_ok hown (hg _ q45) (hg _ q46) (hg _ q4) hK hP hD hS hA rfl (fun j hj => by rcases (show j = 0 ∨ j = 1 ∨ j = 2 by omega) with rfl | rfl | rfl <;> rfl) (Nat.le_of_ble_eq_true rfl) (Nat.le_of_ble_eq_true rfl) dX8_init_5 (fun o_1 H_2 hP hD hS => ?_)
  have hP : va_P G vwCl ([(h0, .inr (12, [.null, .null, .null, .null, .null, .null, .null, .null, .int 0, .int 0])), (o_1, .inr (3, [.int 0, .null, .int 0]))]) H_2 := hP
  have hD : va_D A ([(h0, .inr (12, [.null, .null, .null, .null, .null, .null, .null, .null, .int 0, .int 0])), (o_1, .inr (3, [.int 0, .null, .int 0]))]) := hD
  refine W.widen (k := 1) (n := 3) (Nat.le_of_ble_eq_true rfl) (Nat.le_of_ble_eq_true rfl) ?_
  refine lv_dup hx hb dX8_init_8 rfl ?_
  have hPc := hP.sub (ws' := [(o_1, .inr (3, [.int 0, .null, .int 0]))]) [1] rfl
  have hKc := hK.sub (tys' := []) [] rfl
  have hDc := hD.sub (ws' := [(o_1, .inr (3, [.int 0, .null, .int 0]))]) [1] (by decide) rfl
  have hFc := va_free (wc := [(o_1, .inr (3, [.int 0, .null, .int 0]))]) hD hS hA [1] rfl
  refine va_callv (va_runI (As := []) (rest := [.ref o_1, .ref h0]) ⟨hx, hb, hml, hown, hts⟩ (k_Jx4a65c_init_da8c8 l G z o_1 0 .null (.int 0) H_2.size ) (cwI 0 hts (lw_goodAll q49) rfl rfl rfl (hg _ q4) (hg _ q47) (hg _ q48) rfl (by decide +kernel) ⟨Nat.le_of_ble_eq_true rfl, Nat.le_of_ble_eq_true rfl⟩) ⟨PW.blind, PW.of hPc hKc hDc hG hS hFc [.ref o_1]⟩ rfl rfl hl.1 rfl (lv_room (Nat.le_of_ble_eq_true rfl)) dX8_init_9 ⟨Nat.le_of_ble_eq_true rfl, Nat.le_of_ble_eq_true rfl⟩) hS (fun q _ h => hFc q h) hFc (fun u t_6 H_3 locs ht hvm hw_5 hB hz1 hk1 hS => ?_)
  obtain ⟨hP, hD, hK⟩ := QW.join (wr := [(h0, .inr (12, [.null, .null, .null, .null, .null, .null, .null, .null, .int 0, .int 0]))]) (w1 := [(o_1, .inr (3, [.int 0, .ref z, (.int 0)]))]) hP hD hK [1] [0] rfl rfl (by decide) (by decide) hk1 hFc ht hvm hB
  have hP : va_P G vwCl ([(h0, .inr (12, [.null, .null, .null, .null, .null, .null, .null, .null, .int 0, .int 0])), (o_1, .inr (3, [.int 0, .ref z, (.int 0)]))]) H_3 := hP
  have hD : va_D A ([(h0, .inr (12, [.null, .null, .null, .null, .null, .null, .null, .null, .int 0, .int 0])), (o_1, .inr (3, [.int 0, .ref z, (.int 0)]))]) := hD
  have hK : va_K G vwCl [] s := hK
  refine W.widen (k := 1) (n := 3) (Nat.le_of_ble_eq_true rfl) (Nat.le_of_ble_eq_true rfl) ?_
  refine va_putF (D := G) (ci := 12) (v := .ref o_1) (ty := .object "java/util/ArrayList") (C := RX8) (T := TX8) (N := 10) hx hb hg in_X8 tyX8 tyX8_ok nmX8 hown hK hP hD hS 0 rfl rfl 0 (by decide) (hg _ q125) (fun _ h9 => h9) rfl hin rfl (by decide +kernel) rfl rfl (Nat.le_of_ble_eq_true rfl) dX8_init_12 (fun H_7 locs hP hD hS => ?_)
  have hP : va_P G vwCl ([(h0, .inr (12, [.ref o_1, .null, .null, .null, .null, .null, .null, .null, .int 0, .int 0])), (o_1, .inr (3, [.int 0, .ref z, (.int 0)]))]) H_7 := hP
  have hD : va_D A ([(h0, .inr (12, [.ref o_1, .null, .null, .null, .null, .null, .null, .null, .int 0, .int 0])), (o_1, .inr (3, [.int 0, .ref z, (.int 0)]))]) := hD
  refine lv_aload_n hx hb dX8_init_15 rfl (lv_at hl 0 rfl) ?_
  refine va_new (ci := 3) (fs := [.int 0, .null, .int 0]) (C := RJx4a65c) (T := TJx4a65c) (N := 3) hx hb hg in_Jx4a65c tyJx4a65c tyJx4a65c_ok hown (hg _ q45) (hg _ q46) (hg _ q4) hK hP hD hS hA rfl (fun j hj => by rcases (show j = 0 ∨ j = 1 ∨ j = 2 by omega) with rfl | rfl | rfl <;> rfl) (Nat.le_of_ble_eq_true rfl) (Nat.le_of_ble_eq_true rfl) dX8_init_16 (fun o_8 H_9 hP hD hS => ?_)
  have hP : va_P G vwCl ([(h0, .inr (12, [.ref o_1, .null, .null, .null, .null, .null, .null, .null, .int 0, .int 0])), (o_1, .inr (3, [.int 0, .ref z, (.int 0)])), (o_8, .inr (3, [.int 0, .null, .int 0]))]) H_9 := hP
  have hD : va_D A ([(h0, .inr (12, [.ref o_1, .null, .null, .null, .null, .null, .null, .null, .int 0, .int 0])), (o_1, .inr (3, [.int 0, .ref z, (.int 0)])), (o_8, .inr (3, [.int 0, .null, .int 0]))]) := hD
  refine W.widen (k := 2) (n := 6) (Nat.le_of_ble_eq_true rfl) (Nat.le_of_ble_eq_true rfl) ?_
  refine lv_dup hx hb dX8_init_19 rfl ?_
  have hPc := hP.sub (ws' := [(o_8, .inr (3, [.int 0, .null, .int 0]))]) [2] rfl
  have hKc := hK.sub (tys' := []) [] rfl
  have hDc := hD.sub (ws' := [(o_8, .inr (3, [.int 0, .null, .int 0]))]) [2] (by decide) rfl
  have hFc := va_free (wc := [(o_8, .inr (3, [.int 0, .null, .int 0]))]) hD hS hA [2] rfl
  refine va_callv (va_runI (As := []) (rest := [.ref o_8, .ref h0]) ⟨hx, hb, hml, hown, hts⟩ (k_Jx4a65c_init_da8c8 l G z o_8 0 .null (.int 0) H_9.size ) (cwI 0 hts (lw_goodAll q49) rfl rfl rfl (hg _ q4) (hg _ q47) (hg _ q48) rfl (by decide +kernel) ⟨Nat.le_of_ble_eq_true rfl, Nat.le_of_ble_eq_true rfl⟩) ⟨PW.blind, PW.of hPc hKc hDc hG hS hFc [.ref o_8]⟩ rfl rfl hl.1 rfl (lv_room (Nat.le_of_ble_eq_true rfl)) dX8_init_20 ⟨Nat.le_of_ble_eq_true rfl, Nat.le_of_ble_eq_true rfl⟩) hS (fun q _ h => hFc q h) hFc (fun u t_13 H_10 locs ht hvm hw_12 hB hz1 hk1 hS => ?_)
  obtain ⟨hP, hD, hK⟩ := QW.join (wr := [(h0, .inr (12, [.ref o_1, .null, .null, .null, .null, .null, .null, .null, .int 0, .int 0])), (o_1, .inr (3, [.int 0, .ref z, (.int 0)]))]) (w1 := [(o_8, .inr (3, [.int 0, .ref z, (.int 0)]))]) hP hD hK [2] [0, 1] rfl rfl (by decide) (by decide) hk1 hFc ht hvm hB
  have hP : va_P G vwCl ([(h0, .inr (12, [.ref o_1, .null, .null, .null, .null, .null, .null, .null, .int 0, .int 0])), (o_1, .inr (3, [.int 0, .ref z, (.int 0)])), (o_8, .inr (3, [.int 0, .ref z, (.int 0)]))]) H_10 := hP
  have hD : va_D A ([(h0, .inr (12, [.ref o_1, .null, .null, .null, .null, .null, .null, .null, .int 0, .int 0])), (o_1, .inr (3, [.int 0, .ref z, (.int 0)])), (o_8, .inr (3, [.int 0, .ref z, (.int 0)]))]) := hD
  have hK : va_K G vwCl [] s := hK
  refine W.widen (k := 2) (n := 6) (Nat.le_of_ble_eq_true rfl) (Nat.le_of_ble_eq_true rfl) ?_
  refine va_putF (D := G) (ci := 12) (v := .ref o_8) (ty := .object "java/util/ArrayList") (C := RX8) (T := TX8) (N := 10) hx hb hg in_X8 tyX8 tyX8_ok nmX8 hown hK hP hD hS 0 rfl rfl 1 (by decide) (hg _ q126) (fun _ h9 => h9) rfl hin rfl (by decide +kernel) rfl rfl (Nat.le_of_ble_eq_true rfl) dX8_init_23 (fun H_14 locs hP hD hS => ?_)
  have hP : va_P G vwCl ([(h0, .inr (12, [.ref o_1, .ref o_8, .null, .null, .null, .null, .null, .null, .int 0, .int 0])), (o_1, .inr (3, [.int 0, .ref z, (.int 0)])), (o_8, .inr (3, [.int 0, .ref z, (.int 0)]))]) H_14 := hP
  have hD : va_D A ([(h0, .inr (12, [.ref o_1, .ref o_8, .null, .null, .null, .null, .null, .null, .int 0, .int 0])), (o_1, .inr (3, [.int 0, .ref z, (.int 0)])), (o_8, .inr (3, [.int 0, .ref z, (.int 0)]))]) := hD
  refine lv_aload_n hx hb dX8_init_26 rfl (lv_at hl 0 rfl) ?_
  refine va_new (ci := 3) (fs := [.int 0, .null, .int 0]) (C := RJx4a65c) (T := TJx4a65c) (N := 3) hx hb hg in_Jx4a65c tyJx4a65c tyJx4a65c_ok hown (hg _ q45) (hg _ q46) (hg _ q4) hK hP hD hS hA rfl (fun j hj => by rcases (show j = 0 ∨ j = 1 ∨ j = 2 by omega) with rfl | rfl | rfl <;> rfl) (Nat.le_of_ble_eq_true rfl) (Nat.le_of_ble_eq_true rfl) dX8_init_27 (fun o_15 H_16 hP hD hS => ?_)
  have hP : va_P G vwCl ([(h0, .inr (12, [.ref o_1, .ref o_8, .null, .null, .null, .null, .null, .null, .int 0, .int 0])), (o_1, .inr (3, [.int 0, .ref z, (.int 0)])), (o_8, .inr (3, [.int 0, .ref z, (.int 0)])), (o_15, .inr (3, [.int 0, .null, .int 0]))]) H_16 := hP
  have hD : va_D A ([(h0, .inr (12, [.ref o_1, .ref o_8, .null, .null, .null, .null, .null, .null, .int 0, .int 0])), (o_1, .inr (3, [.int 0, .ref z, (.int 0)])), (o_8, .inr (3, [.int 0, .ref z, (.int 0)])), (o_15, .inr (3, [.int 0, .null, .int 0]))]) := hD
  refine W.widen (k := 3) (n := 9) (Nat.le_of_ble_eq_true rfl) (Nat.le_of_ble_eq_true rfl) ?_
  refine lv_dup hx hb dX8_init_30 rfl ?_
  have hPc := hP.sub (ws' := [(o_15, .inr (3, [.int 0, .null, .int 0]))]) [3] rfl
  have hKc := hK.sub (tys' := []) [] rfl
  have hDc := hD.sub (ws' := [(o_15, .inr (3, [.int 0, .null, .int 0]))]) [3] (by decide) rfl
  have hFc := va_free (wc := [(o_15, .inr (3, [.int 0, .null, .int 0]))]) hD hS hA [3] rfl
  refine va_callv (va_runI (As := []) (rest := [.ref o_15, .ref h0]) ⟨hx, hb, hml, hown, hts⟩ (k_Jx4a65c_init_da8c8 l G z o_15 0 .null (.int 0) H_16.size ) (cwI 0 hts (lw_goodAll q49) rfl rfl rfl (hg _ q4) (hg _ q47) (hg _ q48) rfl (by decide +kernel) ⟨Nat.le_of_ble_eq_true rfl, Nat.le_of_ble_eq_true rfl⟩) ⟨PW.blind, PW.of hPc hKc hDc hG hS hFc [.ref o_15]⟩ rfl rfl hl.1 rfl (lv_room (Nat.le_of_ble_eq_true rfl)) dX8_init_31 ⟨Nat.le_of_ble_eq_true rfl, Nat.le_of_ble_eq_true rfl⟩) hS (fun q _ h => hFc q h) hFc (fun u t_20 H_17 locs ht hvm hw_19 hB hz1 hk1 hS => ?_)
  obtain ⟨hP, hD, hK⟩ := QW.join (wr := [(h0, .inr (12, [.ref o_1, .ref o_8, .null, .null, .null, .null, .null, .null, .int 0, .int 0])), (o_1, .inr (3, [.int 0, .ref z, (.int 0)])), (o_8, .inr (3, [.int 0, .ref z, (.int 0)]))]) (w1 := [(o_15, .inr (3, [.int 0, .ref z, (.int 0)]))]) hP hD hK [3] [0, 1, 2] rfl rfl (by decide) (by decide) hk1 hFc ht hvm hB
  have hP : va_P G vwCl ([(h0, .inr (12, [.ref o_1, .ref o_8, .null, .null, .null, .null, .null, .null, .int 0, .int 0])), (o_1, .inr (3, [.int 0, .ref z, (.int 0)])), (o_8, .inr (3, [.int 0, .ref z, (.int 0)])), (o_15, .inr (3, [.int 0, .ref z, (.int 0)]))]) H_17 := hP
  have hD : va_D A ([(h0, .inr (12, [.ref o_1, .ref o_8, .null, .null, .null, .null, .null, .null, .int 0, .int 0])), (o_1, .inr (3, [.int 0, .ref z, (.int 0)])), (o_8, .inr (3, [.int 0, .ref z, (.int 0)])), (o_15, .inr (3, [.int 0, .ref z, (.int 0)]))]) := hD
  have hK : va_K G vwCl [] s := hK
  refine W.widen (k := 3) (n := 9) (Nat.le_of_ble_eq_true rfl) (Nat.le_of_ble_eq_true rfl) ?_
  refine va_putF (D := G) (ci := 12) (v := .ref o_15) (ty := .object "java/util/ArrayList") (C := RX8) (T := TX8) (N := 10) hx hb hg in_X8 tyX8 tyX8_ok nmX8 hown hK hP hD hS 0 rfl rfl 2 (by decide) (hg _ q127) (fun _ h9 => h9) rfl hin rfl (by decide +kernel) rfl rfl (Nat.le_of_ble_eq_true rfl) dX8_init_34 (fun H_21 locs hP hD hS => ?_)
  have hP : va_P G vwCl ([(h0, .inr (12, [.ref o_1, .ref o_8, .ref o_15, .null, .null, .null, .null, .null, .int 0, .int 0])), (o_1, .inr (3, [.int 0, .ref z, (.int 0)])), (o_8, .inr (3, [.int 0, .ref z, (.int 0)])), (o_15, .inr (3, [.int 0, .ref z, (.int 0)]))]) H_21 := hP
  have hD : va_D A ([(h0, .inr (12, [.ref o_1, .ref o_8, .ref o_15, .null, .null, .null, .null, .null, .int 0, .int 0])), (o_1, .inr (3, [.int 0, .ref z, (.int 0)])), (o_8, .inr (3, [.int 0, .ref z, (.int 0)])), (o_15, .inr (3, [.int 0, .ref z, (.int 0)]))]) := hD
  refine lv_aload_n hx hb dX8_init_37 rfl (lv_at hl 0 rfl) ?_
  refine va_new (ci := 3) (fs := [.int 0, .null, .int 0]) (C := RJx4a65c) (T := TJx4a65c) (N := 3) hx hb hg in_Jx4a65c tyJx4a65c tyJx4a65c_ok hown (hg _ q45) (hg _ q46) (hg _ q4) hK hP hD hS hA rfl (fun j hj => by rcases (show j = 0 ∨ j = 1 ∨ j = 2 by omega) with rfl | rfl | rfl <;> rfl) (Nat.le_of_ble_eq_true rfl) (Nat.le_of_ble_eq_true rfl) dX8_init_38 (fun o_22 H_23 hP hD hS => ?_)
  have hP : va_P G vwCl ([(h0, .inr (12, [.ref o_1, .ref o_8, .ref o_15, .null, .null, .null, .null, .null, .int 0, .int 0])), (o_1, .inr (3, [.int 0, .ref z, (.int 0)])), (o_8, .inr (3, [.int 0, .ref z, (.int 0)])), (o_15, .inr (3, [.int 0, .ref z, (.int 0)])), (o_22, .inr (3, [.int 0, .null, .int 0]))]) H_23 := hP
  have hD : va_D A ([(h0, .inr (12, [.ref o_1, .ref o_8, .ref o_15, .null, .null, .null, .null, .null, .int 0, .int 0])), (o_1, .inr (3, [.int 0, .ref z, (.int 0)])), (o_8, .inr (3, [.int 0, .ref z, (.int 0)])), (o_15, .inr (3, [.int 0, .ref z, (.int 0)])), (o_22, .inr (3, [.int 0, .null, .int 0]))]) := hD
  refine W.widen (k := 4) (n := 12) (Nat.le_of_ble_eq_true rfl) (Nat.le_of_ble_eq_true rfl) ?_
  refine lv_dup hx hb dX8_init_41 rfl ?_
  have hPc := hP.sub (ws' := [(o_22, .inr (3, [.int 0, .null, .int 0]))]) [4] rfl
  have hKc := hK.sub (tys' := []) [] rfl
  have hDc := hD.sub (ws' := [(o_22, .inr (3, [.int 0, .null, .int 0]))]) [4] (by decide) rfl
  have hFc := va_free (wc := [(o_22, .inr (3, [.int 0, .null, .int 0]))]) hD hS hA [4] rfl
  refine va_callv (va_runI (As := []) (rest := [.ref o_22, .ref h0]) ⟨hx, hb, hml, hown, hts⟩ (k_Jx4a65c_init_da8c8 l G z o_22 0 .null (.int 0) H_23.size ) (cwI 0 hts (lw_goodAll q49) rfl rfl rfl (hg _ q4) (hg _ q47) (hg _ q48) rfl (by decide +kernel) ⟨Nat.le_of_ble_eq_true rfl, Nat.le_of_ble_eq_true rfl⟩) ⟨PW.blind, PW.of hPc hKc hDc hG hS hFc [.ref o_22]⟩ rfl rfl hl.1 rfl (lv_room (Nat.le_of_ble_eq_true rfl)) dX8_init_42 ⟨Nat.le_of_ble_eq_true rfl, Nat.le_of_ble_eq_true rfl⟩) hS (fun q _ h => hFc q h) hFc (fun u t_27 H_24 locs ht hvm hw_26 hB hz1 hk1 hS => ?_)
  obtain ⟨hP, hD, hK⟩ := QW.join (wr := [(h0, .inr (12, [.ref o_1, .ref o_8, .ref o_15, .null, .null, .null, .null, .null, .int 0, .int 0])), (o_1, .inr (3, [.int 0, .ref z, (.int 0)])), (o_8, .inr (3, [.int 0, .ref z, (.int 0)])), (o_15, .inr (3, [.int 0, .ref z, (.int 0)]))]) (w1 := [(o_22, .inr (3, [.int 0, .ref z, (.int 0)]))]) hP hD hK [4] [0, 1, 2, 3] rfl rfl (by decide) (by decide) hk1 hFc ht hvm hB
  have hP : va_P G vwCl ([(h0, .inr (12, [.ref o_1, .ref o_8, .ref o_15, .null, .null, .null, .null, .null, .int 0, .int 0])), (o_1, .inr (3, [.int 0, .ref z, (.int 0)])), (o_8, .inr (3, [.int 0, .ref z, (.int 0)])), (o_15, .inr (3, [.int 0, .ref z, (.int 0)])), (o_22, .inr (3, [.int 0, .ref z, (.int 0)]))]) H_24 := hP
  have hD : va_D A ([(h0, .inr (12, [.ref o_1, .ref o_8, .ref o_15, .null, .null, .null, .null, .null, .int 0, .int 0])), (o_1, .inr (3, [.int 0, .ref z, (.int 0)])), (o_8, .inr (3, [.int 0, .ref z, (.int 0)])), (o_15, .inr (3, [.int 0, .ref z, (.int 0)])), (o_22, .inr (3, [.int 0, .ref z, (.int 0)]))]) := hD
  have hK : va_K G vwCl [] s := hK
  refine W.widen (k := 4) (n := 12) (Nat.le_of_ble_eq_true rfl) (Nat.le_of_ble_eq_true rfl) ?_
  refine va_putF (D := G) (ci := 12) (v := .ref o_22) (ty := .object "java/util/ArrayList") (C := RX8) (T := TX8) (N := 10) hx hb hg in_X8 tyX8 tyX8_ok nmX8 hown hK hP hD hS 0 rfl rfl 3 (by decide) (hg _ q128) (fun _ h9 => h9) rfl hin rfl (by decide +kernel) rfl rfl (Nat.le_of_ble_eq_true rfl) dX8_init_45 (fun H_28 locs hP hD hS => ?_)
  have hP : va_P G vwCl ([(h0, .inr (12, [.ref o_1, .ref o_8, .ref o_15, .ref o_22, .null, .null, .null, .null, .int 0, .int 0])), (o_1, .inr (3, [.int 0, .ref z, (.int 0)])), (o_8, .inr (3, [.int 0, .ref z, (.int 0)])), (o_15, .inr (3, [.int 0, .ref z, (.int 0)])), (o_22, .inr (3, [.int 0, .ref z, (.int 0)]))]) H_28 := hP
  have hD : va_D A ([(h0, .inr (12, [.ref o_1, .ref o_8, .ref o_15, .ref o_22, .null, .null, .null, .null, .int 0, .int 0])), (o_1, .inr (3, [.int 0, .ref z, (.int 0)])), (o_8, .inr (3, [.int 0, .ref z, (.int 0)])), (o_15, .inr (3, [.int 0, .ref z, (.int 0)])), (o_22, .inr (3, [.int 0, .ref z, (.int 0)]))]) := hD
  refine lv_aload_n hx hb dX8_init_48 rfl (lv_at hl 0 rfl) ?_
  refine va_new (ci := 3) (fs := [.int 0, .null, .int 0]) (C := RJx4a65c) (T := TJx4a65c) (N := 3) hx hb hg in_Jx4a65c tyJx4a65c tyJx4a65c_ok hown (hg _ q45) (hg _ q46) (hg _ q4) hK hP hD hS hA rfl (fun j hj => by rcases (show j = 0 ∨ j = 1 ∨ j = 2 by omega) with rfl | rfl | rfl <;> rfl) (Nat.le_of_ble_eq_true rfl) (Nat.le_of_ble_eq_true rfl) dX8_init_49 (fun o_29 H_30 hP hD hS => ?_)
  have hP : va_P G vwCl ([(h0, .inr (12, [.ref o_1, .ref o_8, .ref o_15, .ref o_22, .null, .null, .null, .null, .int 0, .int 0])), (o_1, .inr (3, [.int 0, .ref z, (.int 0)])), (o_8, .inr (3, [.int 0, .ref z, (.int 0)])), (o_15, .inr (3, [.int 0, .ref z, (.int 0)])), (o_22, .inr (3, [.int 0, .ref z, (.int 0)])), (o_29, .inr (3, [.int 0, .null, .int 0]))]) H_30 := hP
  have hD : va_D A ([(h0, .inr (12, [.ref o_1, .ref o_8, .ref o_15, .ref o_22, .null, .null, .null, .null, .int 0, .int 0])), (o_1, .inr (3, [.int 0, .ref z, (.int 0)])), (o_8, .inr (3, [.int 0, .ref z, (.int 0)])), (o_15, .inr (3, [.int 0, .ref z, (.int 0)])), (o_22, .inr (3, [.int 0, .ref z, (.int 0)])), (o_29, .inr (3, [.int 0, .null, .int 0]))]) := hD
  refine W.widen (k := 5) (n := 15) (Nat.le_of_ble_eq_true rfl) (Nat.le_of_ble_eq_true rfl) ?_
  refine lv_dup hx hb dX8_init_52 rfl ?_
  have hPc := hP.sub (ws' := [(o_29, .inr (3, [.int 0, .null, .int 0]))]) [5] rfl
  have hKc := hK.sub (tys' := []) [] rfl
  have hDc := hD.sub (ws' := [(o_29, .inr (3, [.int 0, .null, .int 0]))]) [5] (by decide) rfl
  have hFc := va_free (wc := [(o_29, .inr (3, [.int 0, .null, .int 0]))]) hD hS hA [5] rfl
  refine va_callv (va_runI (As := []) (rest := [.ref o_29, .ref h0]) ⟨hx, hb, hml, hown, hts⟩ (k_Jx4a65c_init_da8c8 l G z o_29 0 .null (.int 0) H_30.size ) (cwI 0 hts (lw_goodAll q49) rfl rfl rfl (hg _ q4) (hg _ q47) (hg _ q48) rfl (by decide +kernel) ⟨Nat.le_of_ble_eq_true rfl, Nat.le_of_ble_eq_true rfl⟩) ⟨PW.blind, PW.of hPc hKc hDc hG hS hFc [.ref o_29]⟩ rfl rfl hl.1 rfl (lv_room (Nat.le_of_ble_eq_true rfl)) dX8_init_53 ⟨Nat.le_of_ble_eq_true rfl, Nat.le_of_ble_eq_true rfl⟩) hS (fun q _ h => hFc q h) hFc (fun u t_34 H_31 locs ht hvm hw_33 hB hz1 hk1 hS => ?_)
  obtain ⟨hP, hD, hK⟩ := QW.join (wr := [(h0, .inr (12, [.ref o_1, .ref o_8, .ref o_15, .ref o_22, .null, .null, .null, .null, .int 0, .int 0])), (o_1, .inr (3, [.int 0, .ref z, (.int 0)])), (o_8, .inr (3, [.int 0, .ref z, (.int 0)])), (o_15, .inr (3, [.int 0, .ref z, (.int 0)])), (o_22, .inr (3, [.int 0, .ref z, (.int 0)]))]) (w1 := [(o_29, .inr (3, [.int 0, .ref z, (.int 0)]))]) hP hD hK [5] [0, 1, 2, 3, 4] rfl rfl (by decide) (by decide) hk1 hFc ht hvm hB
  have hP : va_P G vwCl ([(h0, .inr (12, [.ref o_1, .ref o_8, .ref o_15, .ref o_22, .null, .null, .null, .null, .int 0, .int 0])), (o_1, .inr (3, [.int 0, .ref z, (.int 0)])), (o_8, .inr (3, [.int 0, .ref z, (.int 0)])), (o_15, .inr (3, [.int 0, .ref z, (.int 0)])), (o_22, .inr (3, [.int 0, .ref z, (.int 0)])), (o_29, .inr (3, [.int 0, .ref z, (.int 0)]))]) H_31 := hP
  have hD : va_D A ([(h0, .inr (12, [.ref o_1, .ref o_8, .ref o_15, .ref o_22, .null, .null, .null, .null, .int 0, .int 0])), (o_1, .inr (3, [.int 0, .ref z, (.int 0)])), (o_8, .inr (3, [.int 0, .ref z, (.int 0)])), (o_15, .inr (3, [.int 0, .ref z, (.int 0)])), (o_22, .inr (3, [.int 0, .ref z, (.int 0)])), (o_29, .inr (3, [.int 0, .ref z, (.int 0)]))]) := hD
  have hK : va_K G vwCl [] s := hK
  refine W.widen (k := 5) (n := 15) (Nat.le_of_ble_eq_true rfl) (Nat.le_of_ble_eq_true rfl) ?_
  refine va_putF (D := G) (ci := 12) (v := .ref o_29) (ty := .object "java/util/ArrayList") (C := RX8) (T := TX8) (N := 10) hx hb hg in_X8 tyX8 tyX8_ok nmX8 hown hK hP hD hS 0 rfl rfl 4 (by decide) (hg _ q129) (fun _ h9 => h9) rfl hin rfl (by decide +kernel) rfl rfl (Nat.le_of_ble_eq_true rfl) dX8_init_56 (fun H_35 locs hP hD hS => ?_)
  have hP : va_P G vwCl ([(h0, .inr (12, [.ref o_1, .ref o_8, .ref o_15, .ref o_22, .ref o_29, .null, .null, .null, .int 0, .int 0])), (o_1, .inr (3, [.int 0, .ref z, (.int 0)])), (o_8, .inr (3, [.int 0, .ref z, (.int 0)])), (o_15, .inr (3, [.int 0, .ref z, (.int 0)])), (o_22, .inr (3, [.int 0, .ref z, (.int 0)])), (o_29, .inr (3, [.int 0, .ref z, (.int 0)]))]) H_35 := hP
  have hD : va_D A ([(h0, .inr (12, [.ref o_1, .ref o_8, .ref o_15, .ref o_22, .ref o_29, .null, .null, .null, .int 0, .int 0])), (o_1, .inr (3, [.int 0, .ref z, (.int 0)])), (o_8, .inr (3, [.int 0, .ref z, (.int 0)])), (o_15, .inr (3, [.int 0, .ref z, (.int 0)])), (o_22, .inr (3, [.int 0, .ref z, (.int 0)])), (o_29, .inr (3, [.int 0, .ref z, (.int 0)]))]) := hD
  refine lv_aload_n hx hb dX8_init_59 rfl (lv_at hl 0 rfl) ?_
  refine va_new (ci := 10) (fs := [.null, .null, .null, .int 0]) (C := RX6) (T := TX6) (N := 4) hx hb hg in_X6 tyX6 tyX6_ok hown (hg _ q74) (hg _ q75) (hg _ q5) hK hP hD hS hA rfl (fun j hj => by rcases (show j = 0 ∨ j = 1 ∨ j = 2 ∨ j = 3 by omega) with rfl | rfl | rfl | rfl <;> rfl) (Nat.le_of_ble_eq_true rfl) (Nat.le_of_ble_eq_true rfl) dX8_init_60 (fun o_36 H_37 hP hD hS => ?_)
  have hP : va_P G vwCl ([(h0, .inr (12, [.ref o_1, .ref o_8, .ref o_15, .ref o_22, .ref o_29, .null, .null, .null, .int 0, .int 0])), (o_1, .inr (3, [.int 0, .ref z, (.int 0)])), (o_8, .inr (3, [.int 0, .ref z, (.int 0)])), (o_15, .inr (3, [.int 0, .ref z, (.int 0)])), (o_22, .inr (3, [.int 0, .ref z, (.int 0)])), (o_29, .inr (3, [.int 0, .ref z, (.int 0)])), (o_36, .inr (10, [.null, .null, .null, .int 0]))]) H_37 := hP
  have hD : va_D A ([(h0, .inr (12, [.ref o_1, .ref o_8, .ref o_15, .ref o_22, .ref o_29, .null, .null, .null, .int 0, .int 0])), (o_1, .inr (3, [.int 0, .ref z, (.int 0)])), (o_8, .inr (3, [.int 0, .ref z, (.int 0)])), (o_15, .inr (3, [.int 0, .ref z, (.int 0)])), (o_22, .inr (3, [.int 0, .ref z, (.int 0)])), (o_29, .inr (3, [.int 0, .ref z, (.int 0)])), (o_36, .inr (10, [.null, .null, .null, .int 0]))]) := hD
  refine W.widen (k := 6) (n := 19) (Nat.le_of_ble_eq_true rfl) (Nat.le_of_ble_eq_true rfl) ?_
  refine lv_dup hx hb dX8_init_63 rfl ?_
  have hPc := hP.sub (ws' := [(o_36, .inr (10, [.null, .null, .null, .int 0]))]) [6] rfl
  have hKc := hK.sub (tys' := []) [] rfl
  have hDc := hD.sub (ws' := [(o_36, .inr (10, [.null, .null, .null, .int 0]))]) [6] (by decide) rfl
  have hFc := va_free (wc := [(o_36, .inr (10, [.null, .null, .null, .int 0]))]) hD hS hA [6] rfl
  refine va_callv (va_runI (As := []) (rest := [.ref o_36, .ref h0]) ⟨hx, hb, hml, hown, hts⟩ (k_X6_init l G z o_36 H_37.size ) (cwI 0 hts (lw_goodAll q78) rfl rfl rfl (hg _ q5) (hg _ q76) (hg _ q77) rfl (by decide +kernel) ⟨Nat.le_of_ble_eq_true rfl, Nat.le_of_ble_eq_true rfl⟩) ⟨PW.blind, PW.of hPc hKc hDc hG hS hFc [.ref o_36]⟩ rfl rfl hl.1 rfl (lv_room (Nat.le_of_ble_eq_true rfl)) dX8_init_64 ⟨Nat.le_of_ble_eq_true rfl, Nat.le_of_ble_eq_true rfl⟩) hS (fun q _ h => hFc q h) hFc (fun u t_41 H_38 locs ht hvm hw_40 hB hz1 hk1 hS => ?_)
  obtain ⟨b1_42, b2_43, b3_44, cyA_45, cyJ_46, cyT_47, hB⟩ := hB
  obtain ⟨hP, hD, hK⟩ := QW.join (wr := [(h0, .inr (12, [.ref o_1, .ref o_8, .ref o_15, .ref o_22, .ref o_29, .null, .null, .null, .int 0, .int 0])), (o_1, .inr (3, [.int 0, .ref z, (.int 0)])), (o_8, .inr (3, [.int 0, .ref z, (.int 0)])), (o_15, .inr (3, [.int 0, .ref z, (.int 0)])), (o_22, .inr (3, [.int 0, .ref z, (.int 0)])), (o_29, .inr (3, [.int 0, .ref z, (.int 0)]))]) (w1 := [(o_36, .inr (10, [.ref b1_42, .ref b2_43, .ref b3_44, .int 0])), (b1_42, .inl (cyA_45, 400, .inl (nI))), (b2_43, .inl (cyJ_46, 512, .inl (fun _ => 0))), (b3_44, .inl (cyT_47, 400, .inl (fun _ => 0)))]) hP hD hK [6] [0, 1, 2, 3, 4, 5] rfl rfl (by decide) (by decide) hk1 hFc ht hvm hB
  have hP : va_P G vwCl ([(h0, .inr (12, [.ref o_1, .ref o_8, .ref o_15, .ref o_22, .ref o_29, .null, .null, .null, .int 0, .int 0])), (o_1, .inr (3, [.int 0, .ref z, (.int 0)])), (o_8, .inr (3, [.int 0, .ref z, (.int 0)])), (o_15, .inr (3, [.int 0, .ref z, (.int 0)])), (o_22, .inr (3, [.int 0, .ref z, (.int 0)])), (o_29, .inr (3, [.int 0, .ref z, (.int 0)])), (o_36, .inr (10, [.ref b1_42, .ref b2_43, .ref b3_44, .int 0])), (b1_42, .inl (cyA_45, 400, .inl (nI))), (b2_43, .inl (cyJ_46, 512, .inl (fun _ => 0))), (b3_44, .inl (cyT_47, 400, .inl (fun _ => 0)))]) H_38 := hP
  have hD : va_D A ([(h0, .inr (12, [.ref o_1, .ref o_8, .ref o_15, .ref o_22, .ref o_29, .null, .null, .null, .int 0, .int 0])), (o_1, .inr (3, [.int 0, .ref z, (.int 0)])), (o_8, .inr (3, [.int 0, .ref z, (.int 0)])), (o_15, .inr (3, [.int 0, .ref z, (.int 0)])), (o_22, .inr (3, [.int 0, .ref z, (.int 0)])), (o_29, .inr (3, [.int 0, .ref z, (.int 0)])), (o_36, .inr (10, [.ref b1_42, .ref b2_43, .ref b3_44, .int 0])), (b1_42, .inl (cyA_45, 400, .inl (nI))), (b2_43, .inl (cyJ_46, 512, .inl (fun _ => 0))), (b3_44, .inl (cyT_47, 400, .inl (fun _ => 0)))]) := hD
  have hK : va_K G vwCl [(cyA_45, .int), (cyJ_46, .int), (cyT_47, .int)] s := hK
  refine W.widen (k := 9) (n := 1331) (Nat.le_of_ble_eq_true rfl) (Nat.le_of_ble_eq_true rfl) ?_
  refine va_putF (D := G) (ci := 12) (v := .ref o_36) (ty := .object "Watermarkmill$Repertory") (C := RX8) (T := TX8) (N := 10) hx hb hg in_X8 tyX8 tyX8_ok nmX8 hown hK hP hD hS 0 rfl rfl 5 (by decide) (hg _ q130) (fun _ h9 => h9) rfl hin rfl (by decide +kernel) rfl rfl (Nat.le_of_ble_eq_true rfl) dX8_init_67 (fun H_48 locs hP hD hS => ?_)
  have hP : va_P G vwCl ([(h0, .inr (12, [.ref o_1, .ref o_8, .ref o_15, .ref o_22, .ref o_29, .ref o_36, .null, .null, .int 0, .int 0])), (o_1, .inr (3, [.int 0, .ref z, (.int 0)])), (o_8, .inr (3, [.int 0, .ref z, (.int 0)])), (o_15, .inr (3, [.int 0, .ref z, (.int 0)])), (o_22, .inr (3, [.int 0, .ref z, (.int 0)])), (o_29, .inr (3, [.int 0, .ref z, (.int 0)])), (o_36, .inr (10, [.ref b1_42, .ref b2_43, .ref b3_44, .int 0])), (b1_42, .inl (cyA_45, 400, .inl (nI))), (b2_43, .inl (cyJ_46, 512, .inl (fun _ => 0))), (b3_44, .inl (cyT_47, 400, .inl (fun _ => 0)))]) H_48 := hP
  have hD : va_D A ([(h0, .inr (12, [.ref o_1, .ref o_8, .ref o_15, .ref o_22, .ref o_29, .ref o_36, .null, .null, .int 0, .int 0])), (o_1, .inr (3, [.int 0, .ref z, (.int 0)])), (o_8, .inr (3, [.int 0, .ref z, (.int 0)])), (o_15, .inr (3, [.int 0, .ref z, (.int 0)])), (o_22, .inr (3, [.int 0, .ref z, (.int 0)])), (o_29, .inr (3, [.int 0, .ref z, (.int 0)])), (o_36, .inr (10, [.ref b1_42, .ref b2_43, .ref b3_44, .int 0])), (b1_42, .inl (cyA_45, 400, .inl (nI))), (b2_43, .inl (cyJ_46, 512, .inl (fun _ => 0))), (b3_44, .inl (cyT_47, 400, .inl (fun _ => 0)))]) := hD
  refine lv_aload_n hx hb dX8_init_70 rfl (lv_at hl 0 rfl) ?_
  refine va_new (ci := 4) (fs := [.null, .null, .null, .null, .int 0, .int 0]) (C := RX0) (T := TX0) (N := 6) hx hb hg in_X0 tyX0 tyX0_ok hown (hg _ q95) (hg _ q96) (hg _ q6) hK hP hD hS hA rfl (fun j hj => by rcases (show j = 0 ∨ j = 1 ∨ j = 2 ∨ j = 3 ∨ j = 4 ∨ j = 5 by omega) with rfl | rfl | rfl | rfl | rfl | rfl <;> rfl) (Nat.le_of_ble_eq_true rfl) (Nat.le_of_ble_eq_true rfl) dX8_init_71 (fun o_49 H_50 hP hD hS => ?_)
  have hP : va_P G vwCl ([(h0, .inr (12, [.ref o_1, .ref o_8, .ref o_15, .ref o_22, .ref o_29, .ref o_36, .null, .null, .int 0, .int 0])), (o_1, .inr (3, [.int 0, .ref z, (.int 0)])), (o_8, .inr (3, [.int 0, .ref z, (.int 0)])), (o_15, .inr (3, [.int 0, .ref z, (.int 0)])), (o_22, .inr (3, [.int 0, .ref z, (.int 0)])), (o_29, .inr (3, [.int 0, .ref z, (.int 0)])), (o_36, .inr (10, [.ref b1_42, .ref b2_43, .ref b3_44, .int 0])), (b1_42, .inl (cyA_45, 400, .inl (nI))), (b2_43, .inl (cyJ_46, 512, .inl (fun _ => 0))), (b3_44, .inl (cyT_47, 400, .inl (fun _ => 0))), (o_49, .inr (4, [.null, .null, .null, .null, .int 0, .int 0]))]) H_50 := hP
  have hD : va_D A ([(h0, .inr (12, [.ref o_1, .ref o_8, .ref o_15, .ref o_22, .ref o_29, .ref o_36, .null, .null, .int 0, .int 0])), (o_1, .inr (3, [.int 0, .ref z, (.int 0)])), (o_8, .inr (3, [.int 0, .ref z, (.int 0)])), (o_15, .inr (3, [.int 0, .ref z, (.int 0)])), (o_22, .inr (3, [.int 0, .ref z, (.int 0)])), (o_29, .inr (3, [.int 0, .ref z, (.int 0)])), (o_36, .inr (10, [.ref b1_42, .ref b2_43, .ref b3_44, .int 0])), (b1_42, .inl (cyA_45, 400, .inl (nI))), (b2_43, .inl (cyJ_46, 512, .inl (fun _ => 0))), (b3_44, .inl (cyT_47, 400, .inl (fun _ => 0))), (o_49, .inr (4, [.null, .null, .null, .null, .int 0, .int 0]))]) := hD
  refine W.widen (k := 10) (n := 1337) (Nat.le_of_ble_eq_true rfl) (Nat.le_of_ble_eq_true rfl) ?_
  refine lv_dup hx hb dX8_init_74 rfl ?_
  have hPc := hP.sub (ws' := [(o_49, .inr (4, [.null, .null, .null, .null, .int 0, .int 0]))]) [10] rfl
  have hKc := hK.sub (tys' := []) [] rfl
  have hDc := hD.sub (ws' := [(o_49, .inr (4, [.null, .null, .null, .null, .int 0, .int 0]))]) [10] (by decide) rfl
  have hFc := va_free (wc := [(o_49, .inr (4, [.null, .null, .null, .null, .int 0, .int 0]))]) hD hS hA [10] rfl
  refine va_callv (va_runIN (As := []) (rest := [.ref o_49, .ref h0]) ⟨hx, hb, hml, hown, hts⟩ (k_X0_init l G z o_49 H_50.size ) ⟨va_cnB 0 hts (lw_goodAll q99) rfl rfl rfl (hG.2.2.2.2.1 _ qf97) (hg _ q6) (by decide +kernel) ⟨Nat.le_of_ble_eq_true rfl, Nat.le_of_ble_eq_true rfl⟩, rfl, hg _ q98⟩ ⟨PW.blind, PW.of hPc hKc hDc hG hS hFc [.ref o_49]⟩ rfl rfl hl.1 rfl (lv_room (Nat.le_of_ble_eq_true rfl)) dX8_init_75 ⟨Nat.le_of_ble_eq_true rfl, Nat.le_of_ble_eq_true rfl⟩) hS (fun q _ h => hFc q h) hFc (fun u t_54 H_51 locs ht hvm hw_53 hB hz1 hk1 hS => ?_)
  obtain ⟨d1_55, d2_56, d3_57, d4_58, cyO_59, fS_60, cyI_61, r0_62, hf_63, hB⟩ := hB
  obtain ⟨hP, hD, hK⟩ := QW.join (wr := [(h0, .inr (12, [.ref o_1, .ref o_8, .ref o_15, .ref o_22, .ref o_29, .ref o_36, .null, .null, .int 0, .int 0])), (o_1, .inr (3, [.int 0, .ref z, (.int 0)])), (o_8, .inr (3, [.int 0, .ref z, (.int 0)])), (o_15, .inr (3, [.int 0, .ref z, (.int 0)])), (o_22, .inr (3, [.int 0, .ref z, (.int 0)])), (o_29, .inr (3, [.int 0, .ref z, (.int 0)])), (o_36, .inr (10, [.ref b1_42, .ref b2_43, .ref b3_44, .int 0])), (b1_42, .inl (cyA_45, 400, .inl (nI))), (b2_43, .inl (cyJ_46, 512, .inl (fun _ => 0))), (b3_44, .inl (cyT_47, 400, .inl (fun _ => 0)))]) (w1 := [(o_49, .inr (4, [.ref d1_55, .ref d2_56, .ref d3_57, .ref d4_58, .int 0, .int 12])), (d4_58, .inl (cyO_59, 20, .inr (.inr (.inr (.inr (fS_60)))))), (r0_62, .inl (cyI_61, 20, .inl (fun _ => 0)))]) hP hD hK [10] [0, 1, 2, 3, 4, 5, 6, 7, 8, 9] rfl rfl (by decide) (by decide) hk1 hFc ht hvm hB
  have hP : va_P G vwCl ([(h0, .inr (12, [.ref o_1, .ref o_8, .ref o_15, .ref o_22, .ref o_29, .ref o_36, .null, .null, .int 0, .int 0])), (o_1, .inr (3, [.int 0, .ref z, (.int 0)])), (o_8, .inr (3, [.int 0, .ref z, (.int 0)])), (o_15, .inr (3, [.int 0, .ref z, (.int 0)])), (o_22, .inr (3, [.int 0, .ref z, (.int 0)])), (o_29, .inr (3, [.int 0, .ref z, (.int 0)])), (o_36, .inr (10, [.ref b1_42, .ref b2_43, .ref b3_44, .int 0])), (b1_42, .inl (cyA_45, 400, .inl (nI))), (b2_43, .inl (cyJ_46, 512, .inl (fun _ => 0))), (b3_44, .inl (cyT_47, 400, .inl (fun _ => 0))), (o_49, .inr (4, [.ref d1_55, .ref d2_56, .ref d3_57, .ref d4_58, .int 0, .int 12])), (d4_58, .inl (cyO_59, 20, .inr (.inr (.inr (.inr (fS_60)))))), (r0_62, .inl (cyI_61, 20, .inl (fun _ => 0)))]) H_51 := hP
  have hD : va_D A ([(h0, .inr (12, [.ref o_1, .ref o_8, .ref o_15, .ref o_22, .ref o_29, .ref o_36, .null, .null, .int 0, .int 0])), (o_1, .inr (3, [.int 0, .ref z, (.int 0)])), (o_8, .inr (3, [.int 0, .ref z, (.int 0)])), (o_15, .inr (3, [.int 0, .ref z, (.int 0)])), (o_22, .inr (3, [.int 0, .ref z, (.int 0)])), (o_29, .inr (3, [.int 0, .ref z, (.int 0)])), (o_36, .inr (10, [.ref b1_42, .ref b2_43, .ref b3_44, .int 0])), (b1_42, .inl (cyA_45, 400, .inl (nI))), (b2_43, .inl (cyJ_46, 512, .inl (fun _ => 0))), (b3_44, .inl (cyT_47, 400, .inl (fun _ => 0))), (o_49, .inr (4, [.ref d1_55, .ref d2_56, .ref d3_57, .ref d4_58, .int 0, .int 12])), (d4_58, .inl (cyO_59, 20, .inr (.inr (.inr (.inr (fS_60)))))), (r0_62, .inl (cyI_61, 20, .inl (fun _ => 0)))]) := hD
  have hK : va_K G vwCl [(cyA_45, .int), (cyJ_46, .int), (cyT_47, .int), (cyO_59, .array .int), (cyI_61, .int)] s := hK
  refine W.widen (k := 54) (n := 2057) (Nat.le_of_ble_eq_true rfl) (Nat.le_of_ble_eq_true rfl) ?_
  refine va_putF (D := G) (ci := 12) (v := .ref o_49) (ty := .object "Watermarkmill$Dating") (C := RX8) (T := TX8) (N := 10) hx hb hg in_X8 tyX8 tyX8_ok nmX8 hown hK hP hD hS 0 rfl rfl 6 (by decide) (hg _ q131) (fun _ h9 => h9) rfl hin rfl (by decide +kernel) rfl rfl (Nat.le_of_ble_eq_true rfl) dX8_init_78 (fun H_64 locs hP hD hS => ?_)
  have hP : va_P G vwCl ([(h0, .inr (12, [.ref o_1, .ref o_8, .ref o_15, .ref o_22, .ref o_29, .ref o_36, .ref o_49, .null, .int 0, .int 0])), (o_1, .inr (3, [.int 0, .ref z, (.int 0)])), (o_8, .inr (3, [.int 0, .ref z, (.int 0)])), (o_15, .inr (3, [.int 0, .ref z, (.int 0)])), (o_22, .inr (3, [.int 0, .ref z, (.int 0)])), (o_29, .inr (3, [.int 0, .ref z, (.int 0)])), (o_36, .inr (10, [.ref b1_42, .ref b2_43, .ref b3_44, .int 0])), (b1_42, .inl (cyA_45, 400, .inl (nI))), (b2_43, .inl (cyJ_46, 512, .inl (fun _ => 0))), (b3_44, .inl (cyT_47, 400, .inl (fun _ => 0))), (o_49, .inr (4, [.ref d1_55, .ref d2_56, .ref d3_57, .ref d4_58, .int 0, .int 12])), (d4_58, .inl (cyO_59, 20, .inr (.inr (.inr (.inr (fS_60)))))), (r0_62, .inl (cyI_61, 20, .inl (fun _ => 0)))]) H_64 := hP
  have hD : va_D A ([(h0, .inr (12, [.ref o_1, .ref o_8, .ref o_15, .ref o_22, .ref o_29, .ref o_36, .ref o_49, .null, .int 0, .int 0])), (o_1, .inr (3, [.int 0, .ref z, (.int 0)])), (o_8, .inr (3, [.int 0, .ref z, (.int 0)])), (o_15, .inr (3, [.int 0, .ref z, (.int 0)])), (o_22, .inr (3, [.int 0, .ref z, (.int 0)])), (o_29, .inr (3, [.int 0, .ref z, (.int 0)])), (o_36, .inr (10, [.ref b1_42, .ref b2_43, .ref b3_44, .int 0])), (b1_42, .inl (cyA_45, 400, .inl (nI))), (b2_43, .inl (cyJ_46, 512, .inl (fun _ => 0))), (b3_44, .inl (cyT_47, 400, .inl (fun _ => 0))), (o_49, .inr (4, [.ref d1_55, .ref d2_56, .ref d3_57, .ref d4_58, .int 0, .int 12])), (d4_58, .inl (cyO_59, 20, .inr (.inr (.inr (.inr (fS_60)))))), (r0_62, .inl (cyI_61, 20, .inl (fun _ => 0)))]) := hD
  refine lv_aload_n hx hb dX8_init_81 rfl (lv_at hl 0 rfl) ?_
  refine lv_bipush (v := 40) hx hb dX8_init_82 (by decide) ?_
  refine va_newa (atype := .int) (ty := .int) (a0 := (40, .inl (fun _ => 0))) (N' := 40) hx hb (hg _ q94) rfl hK hP hD hS hA (fun _ => rfl) (by decide) (by decide +kernel) (Nat.le_of_ble_eq_true rfl) (Nat.le_of_ble_eq_true rfl) (Nat.le_of_ble_eq_true rfl) dX8_init_84 (fun o_66 cy_65 H_67 hK hP hD hS => ?_)
  have hP : va_P G vwCl ([(h0, .inr (12, [.ref o_1, .ref o_8, .ref o_15, .ref o_22, .ref o_29, .ref o_36, .ref o_49, .null, .int 0, .int 0])), (o_1, .inr (3, [.int 0, .ref z, (.int 0)])), (o_8, .inr (3, [.int 0, .ref z, (.int 0)])), (o_15, .inr (3, [.int 0, .ref z, (.int 0)])), (o_22, .inr (3, [.int 0, .ref z, (.int 0)])), (o_29, .inr (3, [.int 0, .ref z, (.int 0)])), (o_36, .inr (10, [.ref b1_42, .ref b2_43, .ref b3_44, .int 0])), (b1_42, .inl (cyA_45, 400, .inl (nI))), (b2_43, .inl (cyJ_46, 512, .inl (fun _ => 0))), (b3_44, .inl (cyT_47, 400, .inl (fun _ => 0))), (o_49, .inr (4, [.ref d1_55, .ref d2_56, .ref d3_57, .ref d4_58, .int 0, .int 12])), (d4_58, .inl (cyO_59, 20, .inr (.inr (.inr (.inr (fS_60)))))), (r0_62, .inl (cyI_61, 20, .inl (fun _ => 0))), (o_66, .inl (cy_65, 40, .inl (fun _ => 0)))]) H_67 := hP
  have hD : va_D A ([(h0, .inr (12, [.ref o_1, .ref o_8, .ref o_15, .ref o_22, .ref o_29, .ref o_36, .ref o_49, .null, .int 0, .int 0])), (o_1, .inr (3, [.int 0, .ref z, (.int 0)])), (o_8, .inr (3, [.int 0, .ref z, (.int 0)])), (o_15, .inr (3, [.int 0, .ref z, (.int 0)])), (o_22, .inr (3, [.int 0, .ref z, (.int 0)])), (o_29, .inr (3, [.int 0, .ref z, (.int 0)])), (o_36, .inr (10, [.ref b1_42, .ref b2_43, .ref b3_44, .int 0])), (b1_42, .inl (cyA_45, 400, .inl (nI))), (b2_43, .inl (cyJ_46, 512, .inl (fun _ => 0))), (b3_44, .inl (cyT_47, 400, .inl (fun _ => 0))), (o_49, .inr (4, [.ref d1_55, .ref d2_56, .ref d3_57, .ref d4_58, .int 0, .int 12])), (d4_58, .inl (cyO_59, 20, .inr (.inr (.inr (.inr (fS_60)))))), (r0_62, .inl (cyI_61, 20, .inl (fun _ => 0))), (o_66, .inl (cy_65, 40, .inl (fun _ => 0)))]) := hD
  have hK : va_K G vwCl [(cyA_45, .int), (cyJ_46, .int), (cyT_47, .int), (cyO_59, .array .int), (cyI_61, .int), (cy_65, .int)] s := hK
  refine W.widen (k := 55) (n := 2097) (Nat.le_of_ble_eq_true rfl) (Nat.le_of_ble_eq_true rfl) ?_
  refine va_putF (D := G) (ci := 12) (v := .ref o_66) (ty := .array (.int)) (C := RX8) (T := TX8) (N := 10) hx hb hg in_X8 tyX8 tyX8_ok nmX8 hown hK hP hD hS 0 rfl rfl 7 (by decide) (hg _ q132) (fun _ h9 => h9) rfl hin rfl (by decide +kernel) rfl rfl (Nat.le_of_ble_eq_true rfl) dX8_init_86 (fun H_68 locs hP hD hS => ?_)
  have hP : va_P G vwCl ([(h0, .inr (12, [.ref o_1, .ref o_8, .ref o_15, .ref o_22, .ref o_29, .ref o_36, .ref o_49, .ref o_66, .int 0, .int 0])), (o_1, .inr (3, [.int 0, .ref z, (.int 0)])), (o_8, .inr (3, [.int 0, .ref z, (.int 0)])), (o_15, .inr (3, [.int 0, .ref z, (.int 0)])), (o_22, .inr (3, [.int 0, .ref z, (.int 0)])), (o_29, .inr (3, [.int 0, .ref z, (.int 0)])), (o_36, .inr (10, [.ref b1_42, .ref b2_43, .ref b3_44, .int 0])), (b1_42, .inl (cyA_45, 400, .inl (nI))), (b2_43, .inl (cyJ_46, 512, .inl (fun _ => 0))), (b3_44, .inl (cyT_47, 400, .inl (fun _ => 0))), (o_49, .inr (4, [.ref d1_55, .ref d2_56, .ref d3_57, .ref d4_58, .int 0, .int 12])), (d4_58, .inl (cyO_59, 20, .inr (.inr (.inr (.inr (fS_60)))))), (r0_62, .inl (cyI_61, 20, .inl (fun _ => 0))), (o_66, .inl (cy_65, 40, .inl (fun _ => 0)))]) H_68 := hP
  have hD : va_D A ([(h0, .inr (12, [.ref o_1, .ref o_8, .ref o_15, .ref o_22, .ref o_29, .ref o_36, .ref o_49, .ref o_66, .int 0, .int 0])), (o_1, .inr (3, [.int 0, .ref z, (.int 0)])), (o_8, .inr (3, [.int 0, .ref z, (.int 0)])), (o_15, .inr (3, [.int 0, .ref z, (.int 0)])), (o_22, .inr (3, [.int 0, .ref z, (.int 0)])), (o_29, .inr (3, [.int 0, .ref z, (.int 0)])), (o_36, .inr (10, [.ref b1_42, .ref b2_43, .ref b3_44, .int 0])), (b1_42, .inl (cyA_45, 400, .inl (nI))), (b2_43, .inl (cyJ_46, 512, .inl (fun _ => 0))), (b3_44, .inl (cyT_47, 400, .inl (fun _ => 0))), (o_49, .inr (4, [.ref d1_55, .ref d2_56, .ref d3_57, .ref d4_58, .int 0, .int 12])), (d4_58, .inl (cyO_59, 20, .inr (.inr (.inr (.inr (fS_60)))))), (r0_62, .inl (cyI_61, 20, .inl (fun _ => 0))), (o_66, .inl (cy_65, 40, .inl (fun _ => 0)))]) := hD
  refine lv_aload_n hx hb dX8_init_89 rfl (lv_at hl 0 rfl) ?_
  refine lv_iconst (v := 3) hx hb dX8_init_90 (by decide) ?_
  refine va_put (D := G) (ci := 12) (v := .int 3) (ty := .int) (C := RX8) (T := TX8) (N := 10) hx hb hg in_X8 tyX8 tyX8_ok nmX8 hown hK hP hD hS 0 rfl rfl 8 (by decide) (hg _ q133) (fun _ h9 => h9) rfl (by decide +kernel) rfl rfl (Nat.le_of_ble_eq_true rfl) dX8_init_91 (fun H_69 locs hP hD hS => ?_)
  have hP : va_P G vwCl ([(h0, .inr (12, [.ref o_1, .ref o_8, .ref o_15, .ref o_22, .ref o_29, .ref o_36, .ref o_49, .ref o_66, .int 3, .int 0])), (o_1, .inr (3, [.int 0, .ref z, (.int 0)])), (o_8, .inr (3, [.int 0, .ref z, (.int 0)])), (o_15, .inr (3, [.int 0, .ref z, (.int 0)])), (o_22, .inr (3, [.int 0, .ref z, (.int 0)])), (o_29, .inr (3, [.int 0, .ref z, (.int 0)])), (o_36, .inr (10, [.ref b1_42, .ref b2_43, .ref b3_44, .int 0])), (b1_42, .inl (cyA_45, 400, .inl (nI))), (b2_43, .inl (cyJ_46, 512, .inl (fun _ => 0))), (b3_44, .inl (cyT_47, 400, .inl (fun _ => 0))), (o_49, .inr (4, [.ref d1_55, .ref d2_56, .ref d3_57, .ref d4_58, .int 0, .int 12])), (d4_58, .inl (cyO_59, 20, .inr (.inr (.inr (.inr (fS_60)))))), (r0_62, .inl (cyI_61, 20, .inl (fun _ => 0))), (o_66, .inl (cy_65, 40, .inl (fun _ => 0)))]) H_69 := hP
  have hD : va_D A ([(h0, .inr (12, [.ref o_1, .ref o_8, .ref o_15, .ref o_22, .ref o_29, .ref o_36, .ref o_49, .ref o_66, .int 3, .int 0])), (o_1, .inr (3, [.int 0, .ref z, (.int 0)])), (o_8, .inr (3, [.int 0, .ref z, (.int 0)])), (o_15, .inr (3, [.int 0, .ref z, (.int 0)])), (o_22, .inr (3, [.int 0, .ref z, (.int 0)])), (o_29, .inr (3, [.int 0, .ref z, (.int 0)])), (o_36, .inr (10, [.ref b1_42, .ref b2_43, .ref b3_44, .int 0])), (b1_42, .inl (cyA_45, 400, .inl (nI))), (b2_43, .inl (cyJ_46, 512, .inl (fun _ => 0))), (b3_44, .inl (cyT_47, 400, .inl (fun _ => 0))), (o_49, .inr (4, [.ref d1_55, .ref d2_56, .ref d3_57, .ref d4_58, .int 0, .int 12])), (d4_58, .inl (cyO_59, 20, .inr (.inr (.inr (.inr (fS_60)))))), (r0_62, .inl (cyI_61, 20, .inl (fun _ => 0))), (o_66, .inl (cy_65, 40, .inl (fun _ => 0)))]) := hD
  refine lv_aload_n hx hb dX8_init_94 rfl (lv_at hl 0 rfl) ?_
  refine lv_iconst (v := 0) hx hb dX8_init_95 (by decide) ?_
  refine va_put (D := G) (ci := 12) (v := .int 0) (ty := .int) (C := RX8) (T := TX8) (N := 10) hx hb hg in_X8 tyX8 tyX8_ok nmX8 hown hK hP hD hS 0 rfl rfl 9 (by decide) (hg _ q134) (fun _ h9 => h9) rfl (by decide +kernel) rfl rfl (Nat.le_of_ble_eq_true rfl) dX8_init_96 (fun H_70 locs hP hD hS => ?_)
  have hP : va_P G vwCl ([(h0, .inr (12, [.ref o_1, .ref o_8, .ref o_15, .ref o_22, .ref o_29, .ref o_36, .ref o_49, .ref o_66, .int 3, .int 0])), (o_1, .inr (3, [.int 0, .ref z, (.int 0)])), (o_8, .inr (3, [.int 0, .ref z, (.int 0)])), (o_15, .inr (3, [.int 0, .ref z, (.int 0)])), (o_22, .inr (3, [.int 0, .ref z, (.int 0)])), (o_29, .inr (3, [.int 0, .ref z, (.int 0)])), (o_36, .inr (10, [.ref b1_42, .ref b2_43, .ref b3_44, .int 0])), (b1_42, .inl (cyA_45, 400, .inl (nI))), (b2_43, .inl (cyJ_46, 512, .inl (fun _ => 0))), (b3_44, .inl (cyT_47, 400, .inl (fun _ => 0))), (o_49, .inr (4, [.ref d1_55, .ref d2_56, .ref d3_57, .ref d4_58, .int 0, .int 12])), (d4_58, .inl (cyO_59, 20, .inr (.inr (.inr (.inr (fS_60)))))), (r0_62, .inl (cyI_61, 20, .inl (fun _ => 0))), (o_66, .inl (cy_65, 40, .inl (fun _ => 0)))]) H_70 := hP
  have hD : va_D A ([(h0, .inr (12, [.ref o_1, .ref o_8, .ref o_15, .ref o_22, .ref o_29, .ref o_36, .ref o_49, .ref o_66, .int 3, .int 0])), (o_1, .inr (3, [.int 0, .ref z, (.int 0)])), (o_8, .inr (3, [.int 0, .ref z, (.int 0)])), (o_15, .inr (3, [.int 0, .ref z, (.int 0)])), (o_22, .inr (3, [.int 0, .ref z, (.int 0)])), (o_29, .inr (3, [.int 0, .ref z, (.int 0)])), (o_36, .inr (10, [.ref b1_42, .ref b2_43, .ref b3_44, .int 0])), (b1_42, .inl (cyA_45, 400, .inl (nI))), (b2_43, .inl (cyJ_46, 512, .inl (fun _ => 0))), (b3_44, .inl (cyT_47, 400, .inl (fun _ => 0))), (o_49, .inr (4, [.ref d1_55, .ref d2_56, .ref d3_57, .ref d4_58, .int 0, .int 12])), (d4_58, .inl (cyO_59, 20, .inr (.inr (.inr (.inr (fS_60)))))), (r0_62, .inl (cyI_61, 20, .inl (fun _ => 0))), (o_66, .inl (cy_65, 40, .inl (fun _ => 0)))]) := hD
  refine W.widen (k := 55) (n := 2097) (Nat.le_of_ble_eq_true rfl) (Nat.le_of_ble_eq_true rfl) ?_
  have hP9 := hP.sub (ws' := [(h0, .inr (12, [.ref o_1, .ref o_8, .ref o_15, .ref o_22, .ref o_29, .ref o_36, .ref o_49, .ref o_66, .int 3, .int 0])), (o_1, .inr (3, [.int 0, .ref z, .int 0])), (o_8, .inr (3, [.int 0, .ref z, .int 0])), (o_15, .inr (3, [.int 0, .ref z, .int 0])), (o_22, .inr (3, [.int 0, .ref z, .int 0])), (o_29, .inr (3, [.int 0, .ref z, .int 0])), (o_36, .inr (10, [.ref b1_42, .ref b2_43, .ref b3_44, .int 0])), (b1_42, .inl (cyA_45, 400, .inl (nI))), (b2_43, .inl (cyJ_46, 512, .inl (fun _ => 0))), (b3_44, .inl (cyT_47, 400, .inl (fun _ => 0))), (o_49, .inr (4, [.ref d1_55, .ref d2_56, .ref d3_57, .ref d4_58, .int 0, .int 12])), (d4_58, .inl (cyO_59, 20, .inr (.inr (.inr (.inr (fS_60)))))), (r0_62, .inl (cyI_61, 20, .inl (fun _ => 0)))]) [0, 1, 2, 3, 4, 5, 6, 7, 8, 9, 10, 11, 12] rfl
  have hD9 := hD.sub (ws' := [(h0, .inr (12, [.ref o_1, .ref o_8, .ref o_15, .ref o_22, .ref o_29, .ref o_36, .ref o_49, .ref o_66, .int 3, .int 0])), (o_1, .inr (3, [.int 0, .ref z, .int 0])), (o_8, .inr (3, [.int 0, .ref z, .int 0])), (o_15, .inr (3, [.int 0, .ref z, .int 0])), (o_22, .inr (3, [.int 0, .ref z, .int 0])), (o_29, .inr (3, [.int 0, .ref z, .int 0])), (o_36, .inr (10, [.ref b1_42, .ref b2_43, .ref b3_44, .int 0])), (b1_42, .inl (cyA_45, 400, .inl (nI))), (b2_43, .inl (cyJ_46, 512, .inl (fun _ => 0))), (b3_44, .inl (cyT_47, 400, .inl (fun _ => 0))), (o_49, .inr (4, [.ref d1_55, .ref d2_56, .ref d3_57, .ref d4_58, .int 0, .int 12])), (d4_58, .inl (cyO_59, 20, .inr (.inr (.inr (.inr (fS_60)))))), (r0_62, .inl (cyI_61, 20, .inl (fun _ => 0)))]) [0, 1, 2, 3, 4, 5, 6, 7, 8, 9, 10, 11, 12] (by decide) rfl
  have hK9 := hK.sub (tys' := [(cyA_45, .int), (cyJ_46, .int), (cyT_47, .int), (cyO_59, .array .int), (cyI_61, .int)]) [0, 1, 2, 3, 4] rfl
  exact W.vret hx hb hr (fun t ht hW => ⟨⟨(), rfl, trivial, ⟨o_1, o_8, o_15, o_22, o_29, o_36, o_49, o_66, b1_42, b2_43, b3_44, cyA_45, cyJ_46, cyT_47, d1_55, d2_56, d3_57, d4_58, cyO_59, fS_60, cyI_61, r0_62, hf_63, QW.of hP9 hK9 hD9 ht hW.alike⟩⟩, hS.F ht⟩) hS.2.2 dX8_init_99

abbrev wz_X14_init : List Cond := .code yX14_init cX14_init 1 none :: lw_good
set_option maxHeartbeats 4000000 in
set_option maxRecDepth 100000 in
/-- WatermarkmillModel() -/
theorem k_X14_init (l : Launch) (G : va_G) (z : Nat) (h0 : Nat) (sz : Nat)  : Met l yX14_init wz_X14_init ({ frames := 4, cells := 76, slots := 866, locals := 80 }) (va_Pc [.ref h0] (PW G z [(h0, .inr (18, [.int 0, .null, .null, .null, .null, .null, .null, .int 0, .int 0, .int 0, .null, .null, .null, .null, .null, .null]))] [] sz)) (va_Qv (fun (_ : Unit) => True) (fun (_ : Unit) (t : State) => ∃ (l1 : Nat), ∃ (l2 : Nat), ∃ (l3 : Nat), ∃ (l4 : Nat), ∃ (l5 : Nat), ∃ (l6 : Nat), ∃ (m1 : Nat), ∃ (m2 : Nat), ∃ (m3 : Nat), ∃ (m4 : Nat), ∃ (m5 : Nat), ∃ (m6 : Nat), QW G [(h0, .inr (18, [.int 0, .ref l1, .ref l2, .ref l3, .ref l4, .ref l5, .ref l6, .int 0, .int 3, .int 12, .ref m1, .ref m2, .ref m3, .ref m4, .ref m5, .ref m6])), (l1, .inr (3, [.int 0, .ref z, .int 0])), (l2, .inr (3, [.int 0, .ref z, .int 0])), (l3, .inr (3, [.int 0, .ref z, .int 0])), (l4, .inr (3, [.int 0, .ref z, .int 0])), (l5, .inr (3, [.int 0, .ref z, .int 0])), (l6, .inr (3, [.int 0, .ref z, .int 0]))] [] (va_A [(h0, .inr (18, [.int 0, .null, .null, .null, .null, .null, .null, .int 0, .int 0, .int 0, .null, .null, .null, .null, .null, .null]))] sz) t) (va_A [(h0, .inr (18, [.int 0, .null, .null, .null, .null, .null, .null, .int 0, .int 0, .int 0, .null, .null, .null, .null, .null, .null]))] sz)) 76 866 (va_A [(h0, .inr (18, [.int 0, .null, .null, .null, .null, .null, .null, .int 0, .int 0, .int 0, .null, .null, .null, .null, .null, .null]))] sz) := by
  refine Met.ofW (cc := cX14_init) (maxL := 1) (ret := none) (by decide) rfl ?_
  intro p e s m args below meth c s₁ B hml hv
  obtain ⟨rfl, rfl, hP, hK, hD0, hG⟩ := hv
  have hx := B.exec
  have hb := B.bytes
  have hr := B.returns
  have hts := atoms_spec (ws := wz_X14_init) B.pre
  have hg : ∀ w ∈ lw_good, w.before _ s = true := fun w h => hts w (List.mem_cons_of_mem _ h)
  have hown : s.vm.findClass RX14 = some m.cls := findClass_of_methodNamed B.named
  have hlocks := B.notSynchronized
  have hin : meth.name = "<init>" := (name_of_methodNamed B.named B.method).1
  have hD := hD0.self (sz := s.heap.size)
  generalize hAe : va_A [(h0, .inr (18, [.int 0, .null, .null, .null, .null, .null, .null, .int 0, .int 0, .int 0, .null, .null, .null, .null, .null, .null]))] s.heap.size = A at hD hG ⊢
  have hA : ∀ q : Nat, s.heap.size ≤ q → A q := fun q h => by rw [← hAe]; exact Or.inr h
  have hS : va_S A s.heap s.heap [] := va_S.rf
  have hl := lv_entry ([.ref h0]) (n := 1) (Nat.le_of_ble_eq_true rfl)
  rw [lg_entry_eq]
  generalize (lg_sl ([.ref h0]) ++ List.replicate (1 - (lg_sl ([.ref h0])).length) Slot.unset).toArray = ls at hl ⊢
  have hl : lv_has ls 1 [(0, .ref h0)] := hl
  refine lv_aload_n hx hb dX14_init_0 rfl (lv_at hl 0 rfl) ?_
  refine W.objInit hx hb hown (hg _ q1183) (hg _ q43) (hg _ q44) rfl (by rw [hml]; exact hl.1) rfl dX14_init_1 (Nat.le_of_ble_eq_true rfl) (Nat.le_of_ble_eq_true rfl) ?_
  refine W.eq (g2 := F0 m 4 ls []) rfl ?_
  refine lv_aload_n hx hb dX14_init_4 rfl (lv_at hl 0 rfl) ?_
  refine va_new (ci := 3) (fs := [.int 0, .null, .int 0]) (C := RJx4a65c) (T := TJx4a65c) (N := 3) hx hb hg in_Jx4a65c tyJx4a65c tyJx4a65c_ok hown (hg _ q1184) (hg _ q46) (hg _ q4) hK hP hD hS hA rfl (fun j hj => by rcases (show j = 0 ∨ j = 1 ∨ j = 2 by omega) with rfl | rfl | rfl <;> rfl) (Nat.le_of_ble_eq_true rfl) (Nat.le_of_ble_eq_true rfl) dX14_init_5 (fun o_1 H_2 hP hD hS => ?_)
  have hP : va_P G vwCl ([(h0, .inr (18, [.int 0, .null, .null, .null, .null, .null, .null, .int 0, .int 0, .int 0, .null, .null, .null, .null, .null, .null])), (o_1, .inr (3, [.int 0, .null, .int 0]))]) H_2 := hP
  have hD : va_D A ([(h0, .inr (18, [.int 0, .null, .null, .null, .null, .null, .null, .int 0, .int 0, .int 0, .null, .null, .null, .null, .null, .null])), (o_1, .inr (3, [.int 0, .null, .int 0]))]) := hD
  refine W.widen (k := 1) (n := 3) (Nat.le_of_ble_eq_true rfl) (Nat.le_of_ble_eq_true rfl) ?_
  refine lv_dup hx hb dX14_init_8 rfl ?_
  have hPc := hP.sub (ws' := [(o_1, .inr (3, [.int 0, .null, .int 0]))]) [1] rfl
  have hKc := hK.sub (tys' := []) [] rfl
  have hDc := hD.sub (ws' := [(o_1, .inr (3, [.int 0, .null, .int 0]))]) [1] (by decide) rfl
  have hFc := va_free (wc := [(o_1, .inr (3, [.int 0, .null, .int 0]))]) hD hS hA [1] rfl
  refine va_callv (va_runI (As := []) (rest := [.ref o_1, .ref h0]) ⟨hx, hb, hml, hown, hts⟩ (k_Jx4a65c_init_da8c8 l G z o_1 0 .null (.int 0) H_2.size ) (cwI 0 hts (lw_goodAll q49) rfl rfl rfl (hg _ q4) (hg _ q1185) (hg _ q48) rfl (by decide +kernel) ⟨Nat.le_of_ble_eq_true rfl, Nat.le_of_ble_eq_true rfl⟩) ⟨PW.blind, PW.of hPc hKc hDc hG hS hFc [.ref o_1]⟩ rfl rfl hl.1 rfl (lv_room (Nat.le_of_ble_eq_true rfl)) dX14_init_9 ⟨Nat.le_of_ble_eq_true rfl, Nat.le_of_ble_eq_true rfl⟩) hS (fun q _ h => hFc q h) hFc (fun u t_6 H_3 locs ht hvm hw_5 hB hz1 hk1 hS => ?_)
  obtain ⟨hP, hD, hK⟩ := QW.join (wr := [(h0, .inr (18, [.int 0, .null, .null, .null, .null, .null, .null, .int 0, .int 0, .int 0, .null, .null, .null, .null, .null, .null]))]) (w1 := [(o_1, .inr (3, [.int 0, .ref z, (.int 0)]))]) hP hD hK [1] [0] rfl rfl (by decide) (by decide) hk1 hFc ht hvm hB
  have hP : va_P G vwCl ([(h0, .inr (18, [.int 0, .null, .null, .null, .null, .null, .null, .int 0, .int 0, .int 0, .null, .null, .null, .null, .null, .null])), (o_1, .inr (3, [.int 0, .ref z, (.int 0)]))]) H_3 := hP
  have hD : va_D A ([(h0, .inr (18, [.int 0, .null, .null, .null, .null, .null, .null, .int 0, .int 0, .int 0, .null, .null, .null, .null, .null, .null])), (o_1, .inr (3, [.int 0, .ref z, (.int 0)]))]) := hD
  have hK : va_K G vwCl [] s := hK
  refine W.widen (k := 1) (n := 3) (Nat.le_of_ble_eq_true rfl) (Nat.le_of_ble_eq_true rfl) ?_
  refine va_putF (D := G) (ci := 18) (v := .ref o_1) (ty := .object "java/util/ArrayList") (C := RX14) (T := TX14) (N := 16) hx hb hg in_X14 tyX14 tyX14_ok nmX14 hown hK hP hD hS 0 rfl rfl 1 (by decide) (hg _ q1188) (fun _ h9 => h9) rfl hin rfl (by decide +kernel) rfl rfl (Nat.le_of_ble_eq_true rfl) dX14_init_12 (fun H_7 locs hP hD hS => ?_)
  have hP : va_P G vwCl ([(h0, .inr (18, [.int 0, .ref o_1, .null, .null, .null, .null, .null, .int 0, .int 0, .int 0, .null, .null, .null, .null, .null, .null])), (o_1, .inr (3, [.int 0, .ref z, (.int 0)]))]) H_7 := hP
  have hD : va_D A ([(h0, .inr (18, [.int 0, .ref o_1, .null, .null, .null, .null, .null, .int 0, .int 0, .int 0, .null, .null, .null, .null, .null, .null])), (o_1, .inr (3, [.int 0, .ref z, (.int 0)]))]) := hD
  refine lv_aload_n hx hb dX14_init_15 rfl (lv_at hl 0 rfl) ?_
  refine va_new (ci := 3) (fs := [.int 0, .null, .int 0]) (C := RJx4a65c) (T := TJx4a65c) (N := 3) hx hb hg in_Jx4a65c tyJx4a65c tyJx4a65c_ok hown (hg _ q1184) (hg _ q46) (hg _ q4) hK hP hD hS hA rfl (fun j hj => by rcases (show j = 0 ∨ j = 1 ∨ j = 2 by omega) with rfl | rfl | rfl <;> rfl) (Nat.le_of_ble_eq_true rfl) (Nat.le_of_ble_eq_true rfl) dX14_init_16 (fun o_8 H_9 hP hD hS => ?_)
  have hP : va_P G vwCl ([(h0, .inr (18, [.int 0, .ref o_1, .null, .null, .null, .null, .null, .int 0, .int 0, .int 0, .null, .null, .null, .null, .null, .null])), (o_1, .inr (3, [.int 0, .ref z, (.int 0)])), (o_8, .inr (3, [.int 0, .null, .int 0]))]) H_9 := hP
  have hD : va_D A ([(h0, .inr (18, [.int 0, .ref o_1, .null, .null, .null, .null, .null, .int 0, .int 0, .int 0, .null, .null, .null, .null, .null, .null])), (o_1, .inr (3, [.int 0, .ref z, (.int 0)])), (o_8, .inr (3, [.int 0, .null, .int 0]))]) := hD
  refine W.widen (k := 2) (n := 6) (Nat.le_of_ble_eq_true rfl) (Nat.le_of_ble_eq_true rfl) ?_
  refine lv_dup hx hb dX14_init_19 rfl ?_
  have hPc := hP.sub (ws' := [(o_8, .inr (3, [.int 0, .null, .int 0]))]) [2] rfl
  have hKc := hK.sub (tys' := []) [] rfl
  have hDc := hD.sub (ws' := [(o_8, .inr (3, [.int 0, .null, .int 0]))]) [2] (by decide) rfl
  have hFc := va_free (wc := [(o_8, .inr (3, [.int 0, .null, .int 0]))]) hD hS hA [2] rfl
  refine va_callv (va_runI (As := []) (rest := [.ref o_8, .ref h0]) ⟨hx, hb, hml, hown, hts⟩ (k_Jx4a65c_init_da8c8 l G z o_8 0 .null (.int 0) H_9.size ) (cwI 0 hts (lw_goodAll q49) rfl rfl rfl (hg _ q4) (hg _ q1185) (hg _ q48) rfl (by decide +kernel) ⟨Nat.le_of_ble_eq_true rfl, Nat.le_of_ble_eq_true rfl⟩) ⟨PW.blind, PW.of hPc hKc hDc hG hS hFc [.ref o_8]⟩ rfl rfl hl.1 rfl (lv_room (Nat.le_of_ble_eq_true rfl)) dX14_init_20 ⟨Nat.le_of_ble_eq_true rfl, Nat.le_of_ble_eq_true rfl⟩) hS (fun q _ h => hFc q h) hFc (fun u t_13 H_10 locs ht hvm hw_12 hB hz1 hk1 hS => ?_)
  obtain ⟨hP, hD, hK⟩ := QW.join (wr := [(h0, .inr (18, [.int 0, .ref o_1, .null, .null, .null, .null, .null, .int 0, .int 0, .int 0, .null, .null, .null, .null, .null, .null])), (o_1, .inr (3, [.int 0, .ref z, (.int 0)]))]) (w1 := [(o_8, .inr (3, [.int 0, .ref z, (.int 0)]))]) hP hD hK [2] [0, 1] rfl rfl (by decide) (by decide) hk1 hFc ht hvm hB
  have hP : va_P G vwCl ([(h0, .inr (18, [.int 0, .ref o_1, .null, .null, .null, .null, .null, .int 0, .int 0, .int 0, .null, .null, .null, .null, .null, .null])), (o_1, .inr (3, [.int 0, .ref z, (.int 0)])), (o_8, .inr (3, [.int 0, .ref z, (.int 0)]))]) H_10 := hP
  have hD : va_D A ([(h0, .inr (18, [.int 0, .ref o_1, .null, .null, .null, .null, .null, .int 0, .int 0, .int 0, .null, .null, .null, .null, .null, .null])), (o_1, .inr (3, [.int 0, .ref z, (.int 0)])), (o_8, .inr (3, [.int 0, .ref z, (.int 0)]))]) := hD
  have hK : va_K G vwCl [] s := hK
  refine W.widen (k := 2) (n := 6) (Nat.le_of_ble_eq_true rfl) (Nat.le_of_ble_eq_true rfl) ?_
  refine va_putF (D := G) (ci := 18) (v := .ref o_8) (ty := .object "java/util/ArrayList") (C := RX14) (T := TX14) (N := 16) hx hb hg in_X14 tyX14 tyX14_ok nmX14 hown hK hP hD hS 0 rfl rfl 2 (by decide) (hg _ q1189) (fun _ h9 => h9) rfl hin rfl (by decide +kernel) rfl rfl (Nat.le_of_ble_eq_true rfl) dX14_init_23 (fun H_14 locs hP hD hS => ?_)
  have hP : va_P G vwCl ([(h0, .inr (18, [.int 0, .ref o_1, .ref o_8, .null, .null, .null, .null, .int 0, .int 0, .int 0, .null, .null, .null, .null, .null, .null])), (o_1, .inr (3, [.int 0, .ref z, (.int 0)])), (o_8, .inr (3, [.int 0, .ref z, (.int 0)]))]) H_14 := hP
  have hD : va_D A ([(h0, .inr (18, [.int 0, .ref o_1, .ref o_8, .null, .null, .null, .null, .int 0, .int 0, .int 0, .null, .null, .null, .null, .null, .null])), (o_1, .inr (3, [.int 0, .ref z, (.int 0)])), (o_8, .inr (3, [.int 0, .ref z, (.int 0)]))]) := hD
  refine lv_aload_n hx hb dX14_init_26 rfl (lv_at hl 0 rfl) ?_
  refine va_new (ci := 3) (fs := [.int 0, .null, .int 0]) (C := RJx4a65c) (T := TJx4a65c) (N := 3) hx hb hg in_Jx4a65c tyJx4a65c tyJx4a65c_ok hown (hg _ q1184) (hg _ q46) (hg _ q4) hK hP hD hS hA rfl (fun j hj => by rcases (show j = 0 ∨ j = 1 ∨ j = 2 by omega) with rfl | rfl | rfl <;> rfl) (Nat.le_of_ble_eq_true rfl) (Nat.le_of_ble_eq_true rfl) dX14_init_27 (fun o_15 H_16 hP hD hS => ?_)
  have hP : va_P G vwCl ([(h0, .inr (18, [.int 0, .ref o_1, .ref o_8, .null, .null, .null, .null, .int 0, .int 0, .int 0, .null, .null, .null, .null, .null, .null])), (o_1, .inr (3, [.int 0, .ref z, (.int 0)])), (o_8, .inr (3, [.int 0, .ref z, (.int 0)])), (o_15, .inr (3, [.int 0, .null, .int 0]))]) H_16 := hP
  have hD : va_D A ([(h0, .inr (18, [.int 0, .ref o_1, .ref o_8, .null, .null, .null, .null, .int 0, .int 0, .int 0, .null, .null, .null, .null, .null, .null])), (o_1, .inr (3, [.int 0, .ref z, (.int 0)])), (o_8, .inr (3, [.int 0, .ref z, (.int 0)])), (o_15, .inr (3, [.int 0, .null, .int 0]))]) := hD
  refine W.widen (k := 3) (n := 9) (Nat.le_of_ble_eq_true rfl) (Nat.le_of_ble_eq_true rfl) ?_
  refine lv_dup hx hb dX14_init_30 rfl ?_
  have hPc := hP.sub (ws' := [(o_15, .inr (3, [.int 0, .null, .int 0]))]) [3] rfl
  have hKc := hK.sub (tys' := []) [] rfl
  have hDc := hD.sub (ws' := [(o_15, .inr (3, [.int 0, .null, .int 0]))]) [3] (by decide) rfl
  have hFc := va_free (wc := [(o_15, .inr (3, [.int 0, .null, .int 0]))]) hD hS hA [3] rfl
  refine va_callv (va_runI (As := []) (rest := [.ref o_15, .ref h0]) ⟨hx, hb, hml, hown, hts⟩ (k_Jx4a65c_init_da8c8 l G z o_15 0 .null (.int 0) H_16.size ) (cwI 0 hts (lw_goodAll q49) rfl rfl rfl (hg _ q4) (hg _ q1185) (hg _ q48) rfl (by decide +kernel) ⟨Nat.le_of_ble_eq_true rfl, Nat.le_of_ble_eq_true rfl⟩) ⟨PW.blind, PW.of hPc hKc hDc hG hS hFc [.ref o_15]⟩ rfl rfl hl.1 rfl (lv_room (Nat.le_of_ble_eq_true rfl)) dX14_init_31 ⟨Nat.le_of_ble_eq_true rfl, Nat.le_of_ble_eq_true rfl⟩) hS (fun q _ h => hFc q h) hFc (fun u t_20 H_17 locs ht hvm hw_19 hB hz1 hk1 hS => ?_)
  obtain ⟨hP, hD, hK⟩ := QW.join (wr := [(h0, .inr (18, [.int 0, .ref o_1, .ref o_8, .null, .null, .null, .null, .int 0, .int 0, .int 0, .null, .null, .null, .null, .null, .null])), (o_1, .inr (3, [.int 0, .ref z, (.int 0)])), (o_8, .inr (3, [.int 0, .ref z, (.int 0)]))]) (w1 := [(o_15, .inr (3, [.int 0, .ref z, (.int 0)]))]) hP hD hK [3] [0, 1, 2] rfl rfl (by decide) (by decide) hk1 hFc ht hvm hB
  have hP : va_P G vwCl ([(h0, .inr (18, [.int 0, .ref o_1, .ref o_8, .null, .null, .null, .null, .int 0, .int 0, .int 0, .null, .null, .null, .null, .null, .null])), (o_1, .inr (3, [.int 0, .ref z, (.int 0)])), (o_8, .inr (3, [.int 0, .ref z, (.int 0)])), (o_15, .inr (3, [.int 0, .ref z, (.int 0)]))]) H_17 := hP
  have hD : va_D A ([(h0, .inr (18, [.int 0, .ref o_1, .ref o_8, .null, .null, .null, .null, .int 0, .int 0, .int 0, .null, .null, .null, .null, .null, .null])), (o_1, .inr (3, [.int 0, .ref z, (.int 0)])), (o_8, .inr (3, [.int 0, .ref z, (.int 0)])), (o_15, .inr (3, [.int 0, .ref z, (.int 0)]))]) := hD
  have hK : va_K G vwCl [] s := hK
  refine W.widen (k := 3) (n := 9) (Nat.le_of_ble_eq_true rfl) (Nat.le_of_ble_eq_true rfl) ?_
  refine va_putF (D := G) (ci := 18) (v := .ref o_15) (ty := .object "java/util/ArrayList") (C := RX14) (T := TX14) (N := 16) hx hb hg in_X14 tyX14 tyX14_ok nmX14 hown hK hP hD hS 0 rfl rfl 3 (by decide) (hg _ q1190) (fun _ h9 => h9) rfl hin rfl (by decide +kernel) rfl rfl (Nat.le_of_ble_eq_true rfl) dX14_init_34 (fun H_21 locs hP hD hS => ?_)
  have hP : va_P G vwCl ([(h0, .inr (18, [.int 0, .ref o_1, .ref o_8, .ref o_15, .null, .null, .null, .int 0, .int 0, .int 0, .null, .null, .null, .null, .null, .null])), (o_1, .inr (3, [.int 0, .ref z, (.int 0)])), (o_8, .inr (3, [.int 0, .ref z, (.int 0)])), (o_15, .inr (3, [.int 0, .ref z, (.int 0)]))]) H_21 := hP
  have hD : va_D A ([(h0, .inr (18, [.int 0, .ref o_1, .ref o_8, .ref o_15, .null, .null, .null, .int 0, .int 0, .int 0, .null, .null, .null, .null, .null, .null])), (o_1, .inr (3, [.int 0, .ref z, (.int 0)])), (o_8, .inr (3, [.int 0, .ref z, (.int 0)])), (o_15, .inr (3, [.int 0, .ref z, (.int 0)]))]) := hD
  refine lv_aload_n hx hb dX14_init_37 rfl (lv_at hl 0 rfl) ?_
  refine va_new (ci := 3) (fs := [.int 0, .null, .int 0]) (C := RJx4a65c) (T := TJx4a65c) (N := 3) hx hb hg in_Jx4a65c tyJx4a65c tyJx4a65c_ok hown (hg _ q1184) (hg _ q46) (hg _ q4) hK hP hD hS hA rfl (fun j hj => by rcases (show j = 0 ∨ j = 1 ∨ j = 2 by omega) with rfl | rfl | rfl <;> rfl) (Nat.le_of_ble_eq_true rfl) (Nat.le_of_ble_eq_true rfl) dX14_init_38 (fun o_22 H_23 hP hD hS => ?_)
  have hP : va_P G vwCl ([(h0, .inr (18, [.int 0, .ref o_1, .ref o_8, .ref o_15, .null, .null, .null, .int 0, .int 0, .int 0, .null, .null, .null, .null, .null, .null])), (o_1, .inr (3, [.int 0, .ref z, (.int 0)])), (o_8, .inr (3, [.int 0, .ref z, (.int 0)])), (o_15, .inr (3, [.int 0, .ref z, (.int 0)])), (o_22, .inr (3, [.int 0, .null, .int 0]))]) H_23 := hP
  have hD : va_D A ([(h0, .inr (18, [.int 0, .ref o_1, .ref o_8, .ref o_15, .null, .null, .null, .int 0, .int 0, .int 0, .null, .null, .null, .null, .null, .null])), (o_1, .inr (3, [.int 0, .ref z, (.int 0)])), (o_8, .inr (3, [.int 0, .ref z, (.int 0)])), (o_15, .inr (3, [.int 0, .ref z, (.int 0)])), (o_22, .inr (3, [.int 0, .null, .int 0]))]) := hD
  refine W.widen (k := 4) (n := 12) (Nat.le_of_ble_eq_true rfl) (Nat.le_of_ble_eq_true rfl) ?_
  refine lv_dup hx hb dX14_init_41 rfl ?_
  have hPc := hP.sub (ws' := [(o_22, .inr (3, [.int 0, .null, .int 0]))]) [4] rfl
  have hKc := hK.sub (tys' := []) [] rfl
  have hDc := hD.sub (ws' := [(o_22, .inr (3, [.int 0, .null, .int 0]))]) [4] (by decide) rfl
  have hFc := va_free (wc := [(o_22, .inr (3, [.int 0, .null, .int 0]))]) hD hS hA [4] rfl
  refine va_callv (va_runI (As := []) (rest := [.ref o_22, .ref h0]) ⟨hx, hb, hml, hown, hts⟩ (k_Jx4a65c_init_da8c8 l G z o_22 0 .null (.int 0) H_23.size ) (cwI 0 hts (lw_goodAll q49) rfl rfl rfl (hg _ q4) (hg _ q1185) (hg _ q48) rfl (by decide +kernel) ⟨Nat.le_of_ble_eq_true rfl, Nat.le_of_ble_eq_true rfl⟩) ⟨PW.blind, PW.of hPc hKc hDc hG hS hFc [.ref o_22]⟩ rfl rfl hl.1 rfl (lv_room (Nat.le_of_ble_eq_true rfl)) dX14_init_42 ⟨Nat.le_of_ble_eq_true rfl, Nat.le_of_ble_eq_true rfl⟩) hS (fun q _ h => hFc q h) hFc (fun u t_27 H_24 locs ht hvm hw_26 hB hz1 hk1 hS => ?_)
  obtain ⟨hP, hD, hK⟩ := QW.join (wr := [(h0, .inr (18, [.int 0, .ref o_1, .ref o_8, .ref o_15, .null, .null, .null, .int 0, .int 0, .int 0, .null, .null, .null, .null, .null, .null])), (o_1, .inr (3, [.int 0, .ref z, (.int 0)])), (o_8, .inr (3, [.int 0, .ref z, (.int 0)])), (o_15, .inr (3, [.int 0, .ref z, (.int 0)]))]) (w1 := [(o_22, .inr (3, [.int 0, .ref z, (.int 0)]))]) hP hD hK [4] [0, 1, 2, 3] rfl rfl (by decide) (by decide) hk1 hFc ht hvm hB
  have hP : va_P G vwCl ([(h0, .inr (18, [.int 0, .ref o_1, .ref o_8, .ref o_15, .null, .null, .null, .int 0, .int 0, .int 0, .null, .null, .null, .null, .null, .null])), (o_1, .inr (3, [.int 0, .ref z, (.int 0)])), (o_8, .inr (3, [.int 0, .ref z, (.int 0)])), (o_15, .inr (3, [.int 0, .ref z, (.int 0)])), (o_22, .inr (3, [.int 0, .ref z, (.int 0)]))]) H_24 := hP
  have hD : va_D A ([(h0, .inr (18, [.int 0, .ref o_1, .ref o_8, .ref o_15, .null, .null, .null, .int 0, .int 0, .int 0, .null, .null, .null, .null, .null, .null])), (o_1, .inr (3, [.int 0, .ref z, (.int 0)])), (o_8, .inr (3, [.int 0, .ref z, (.int 0)])), (o_15, .inr (3, [.int 0, .ref z, (.int 0)])), (o_22, .inr (3, [.int 0, .ref z, (.int 0)]))]) := hD
  have hK : va_K G vwCl [] s := hK
  refine W.widen (k := 4) (n := 12) (Nat.le_of_ble_eq_true rfl) (Nat.le_of_ble_eq_true rfl) ?_
  refine va_putF (D := G) (ci := 18) (v := .ref o_22) (ty := .object "java/util/ArrayList") (C := RX14) (T := TX14) (N := 16) hx hb hg in_X14 tyX14 tyX14_ok nmX14 hown hK hP hD hS 0 rfl rfl 4 (by decide) (hg _ q1191) (fun _ h9 => h9) rfl hin rfl (by decide +kernel) rfl rfl (Nat.le_of_ble_eq_true rfl) dX14_init_45 (fun H_28 locs hP hD hS => ?_)
  have hP : va_P G vwCl ([(h0, .inr (18, [.int 0, .ref o_1, .ref o_8, .ref o_15, .ref o_22, .null, .null, .int 0, .int 0, .int 0, .null, .null, .null, .null, .null, .null])), (o_1, .inr (3, [.int 0, .ref z, (.int 0)])), (o_8, .inr (3, [.int 0, .ref z, (.int 0)])), (o_15, .inr (3, [.int 0, .ref z, (.int 0)])), (o_22, .inr (3, [.int 0, .ref z, (.int 0)]))]) H_28 := hP
  have hD : va_D A ([(h0, .inr (18, [.int 0, .ref o_1, .ref o_8, .ref o_15, .ref o_22, .null, .null, .int 0, .int 0, .int 0, .null, .null, .null, .null, .null, .null])), (o_1, .inr (3, [.int 0, .ref z, (.int 0)])), (o_8, .inr (3, [.int 0, .ref z, (.int 0)])), (o_15, .inr (3, [.int 0, .ref z, (.int 0)])), (o_22, .inr (3, [.int 0, .ref z, (.int 0)]))]) := hD
  refine lv_aload_n hx hb dX14_init_48 rfl (lv_at hl 0 rfl) ?_
  refine va_new (ci := 3) (fs := [.int 0, .null, .int 0]) (C := RJx4a65c) (T := TJx4a65c) (N := 3) hx hb hg in_Jx4a65c tyJx4a65c tyJx4a65c_ok hown (hg _ q1184) (hg _ q46) (hg _ q4) hK hP hD hS hA rfl (fun j hj => by rcases (show j = 0 ∨ j = 1 ∨ j = 2 by omega) with rfl | rfl | rfl <;> rfl) (Nat.le_of_ble_eq_true rfl) (Nat.le_of_ble_eq_true rfl) dX14_init_49 (fun o_29 H_30 hP hD hS => ?_)
  have hP : va_P G vwCl ([(h0, .inr (18, [.int 0, .ref o_1, .ref o_8, .ref o_15, .ref o_22, .null, .null, .int 0, .int 0, .int 0, .null, .null, .null, .null, .null, .null])), (o_1, .inr (3, [.int 0, .ref z, (.int 0)])), (o_8, .inr (3, [.int 0, .ref z, (.int 0)])), (o_15, .inr (3, [.int 0, .ref z, (.int 0)])), (o_22, .inr (3, [.int 0, .ref z, (.int 0)])), (o_29, .inr (3, [.int 0, .null, .int 0]))]) H_30 := hP
  have hD : va_D A ([(h0, .inr (18, [.int 0, .ref o_1, .ref o_8, .ref o_15, .ref o_22, .null, .null, .int 0, .int 0, .int 0, .null, .null, .null, .null, .null, .null])), (o_1, .inr (3, [.int 0, .ref z, (.int 0)])), (o_8, .inr (3, [.int 0, .ref z, (.int 0)])), (o_15, .inr (3, [.int 0, .ref z, (.int 0)])), (o_22, .inr (3, [.int 0, .ref z, (.int 0)])), (o_29, .inr (3, [.int 0, .null, .int 0]))]) := hD
  refine W.widen (k := 5) (n := 15) (Nat.le_of_ble_eq_true rfl) (Nat.le_of_ble_eq_true rfl) ?_
  refine lv_dup hx hb dX14_init_52 rfl ?_
  have hPc := hP.sub (ws' := [(o_29, .inr (3, [.int 0, .null, .int 0]))]) [5] rfl
  have hKc := hK.sub (tys' := []) [] rfl
  have hDc := hD.sub (ws' := [(o_29, .inr (3, [.int 0, .null, .int 0]))]) [5] (by decide) rfl
  have hFc := va_free (wc := [(o_29, .inr (3, [.int 0, .null, .int 0]))]) hD hS hA [5] rfl
  refine va_callv (va_runI (As := []) (rest := [.ref o_29, .ref h0]) ⟨hx, hb, hml, hown, hts⟩ (k_Jx4a65c_init_da8c8 l G z o_29 0 .null (.int 0) H_30.size ) (cwI 0 hts (lw_goodAll q49) rfl rfl rfl (hg _ q4) (hg _ q1185) (hg _ q48) rfl (by decide +kernel) ⟨Nat.le_of_ble_eq_true rfl, Nat.le_of_ble_eq_true rfl⟩) ⟨PW.blind, PW.of hPc hKc hDc hG hS hFc [.ref o_29]⟩ rfl rfl hl.1 rfl (lv_room (Nat.le_of_ble_eq_true rfl)) dX14_init_53 ⟨Nat.le_of_ble_eq_true rfl, Nat.le_of_ble_eq_true rfl⟩) hS (fun q _ h => hFc q h) hFc (fun u t_34 H_31 locs ht hvm hw_33 hB hz1 hk1 hS => ?_)
  obtain ⟨hP, hD, hK⟩ := QW.join (wr := [(h0, .inr (18, [.int 0, .ref o_1, .ref o_8, .ref o_15, .ref o_22, .null, .null, .int 0, .int 0, .int 0, .null, .null, .null, .null, .null, .null])), (o_1, .inr (3, [.int 0, .ref z, (.int 0)])), (o_8, .inr (3, [.int 0, .ref z, (.int 0)])), (o_15, .inr (3, [.int 0, .ref z, (.int 0)])), (o_22, .inr (3, [.int 0, .ref z, (.int 0)]))]) (w1 := [(o_29, .inr (3, [.int 0, .ref z, (.int 0)]))]) hP hD hK [5] [0, 1, 2, 3, 4] rfl rfl (by decide) (by decide) hk1 hFc ht hvm hB
  have hP : va_P G vwCl ([(h0, .inr (18, [.int 0, .ref o_1, .ref o_8, .ref o_15, .ref o_22, .null, .null, .int 0, .int 0, .int 0, .null, .null, .null, .null, .null, .null])), (o_1, .inr (3, [.int 0, .ref z, (.int 0)])), (o_8, .inr (3, [.int 0, .ref z, (.int 0)])), (o_15, .inr (3, [.int 0, .ref z, (.int 0)])), (o_22, .inr (3, [.int 0, .ref z, (.int 0)])), (o_29, .inr (3, [.int 0, .ref z, (.int 0)]))]) H_31 := hP
  have hD : va_D A ([(h0, .inr (18, [.int 0, .ref o_1, .ref o_8, .ref o_15, .ref o_22, .null, .null, .int 0, .int 0, .int 0, .null, .null, .null, .null, .null, .null])), (o_1, .inr (3, [.int 0, .ref z, (.int 0)])), (o_8, .inr (3, [.int 0, .ref z, (.int 0)])), (o_15, .inr (3, [.int 0, .ref z, (.int 0)])), (o_22, .inr (3, [.int 0, .ref z, (.int 0)])), (o_29, .inr (3, [.int 0, .ref z, (.int 0)]))]) := hD
  have hK : va_K G vwCl [] s := hK
  refine W.widen (k := 5) (n := 15) (Nat.le_of_ble_eq_true rfl) (Nat.le_of_ble_eq_true rfl) ?_
  refine va_putF (D := G) (ci := 18) (v := .ref o_29) (ty := .object "java/util/ArrayList") (C := RX14) (T := TX14) (N := 16) hx hb hg in_X14 tyX14 tyX14_ok nmX14 hown hK hP hD hS 0 rfl rfl 5 (by decide) (hg _ q1192) (fun _ h9 => h9) rfl hin rfl (by decide +kernel) rfl rfl (Nat.le_of_ble_eq_true rfl) dX14_init_56 (fun H_35 locs hP hD hS => ?_)
  have hP : va_P G vwCl ([(h0, .inr (18, [.int 0, .ref o_1, .ref o_8, .ref o_15, .ref o_22, .ref o_29, .null, .int 0, .int 0, .int 0, .null, .null, .null, .null, .null, .null])), (o_1, .inr (3, [.int 0, .ref z, (.int 0)])), (o_8, .inr (3, [.int 0, .ref z, (.int 0)])), (o_15, .inr (3, [.int 0, .ref z, (.int 0)])), (o_22, .inr (3, [.int 0, .ref z, (.int 0)])), (o_29, .inr (3, [.int 0, .ref z, (.int 0)]))]) H_35 := hP
  have hD : va_D A ([(h0, .inr (18, [.int 0, .ref o_1, .ref o_8, .ref o_15, .ref o_22, .ref o_29, .null, .int 0, .int 0, .int 0, .null, .null, .null, .null, .null, .null])), (o_1, .inr (3, [.int 0, .ref z, (.int 0)])), (o_8, .inr (3, [.int 0, .ref z, (.int 0)])), (o_15, .inr (3, [.int 0, .ref z, (.int 0)])), (o_22, .inr (3, [.int 0, .ref z, (.int 0)])), (o_29, .inr (3, [.int 0, .ref z, (.int 0)]))]) := hD
  refine lv_aload_n hx hb dX14_init_59 rfl (lv_at hl 0 rfl) ?_
  refine va_new (ci := 3) (fs := [.int 0, .null, .int 0]) (C := RJx4a65c) (T := TJx4a65c) (N := 3) hx hb hg in_Jx4a65c tyJx4a65c tyJx4a65c_ok hown (hg _ q1184) (hg _ q46) (hg _ q4) hK hP hD hS hA rfl (fun j hj => by rcases (show j = 0 ∨ j = 1 ∨ j = 2 by omega) with rfl | rfl | rfl <;> rfl) (Nat.le_of_ble_eq_true rfl) (Nat.le_of_ble_eq_true rfl) dX14_init_60 (fun o_36 H_37 hP hD hS => ?_)
  have hP : va_P G vwCl ([(h0, .inr (18, [.int 0, .ref o_1, .ref o_8, .ref o_15, .ref o_22, .ref o_29, .null, .int 0, .int 0, .int 0, .null, .null, .null, .null, .null, .null])), (o_1, .inr (3, [.int 0, .ref z, (.int 0)])), (o_8, .inr (3, [.int 0, .ref z, (.int 0)])), (o_15, .inr (3, [.int 0, .ref z, (.int 0)])), (o_22, .inr (3, [.int 0, .ref z, (.int 0)])), (o_29, .inr (3, [.int 0, .ref z, (.int 0)])), (o_36, .inr (3, [.int 0, .null, .int 0]))]) H_37 := hP
  have hD : va_D A ([(h0, .inr (18, [.int 0, .ref o_1, .ref o_8, .ref o_15, .ref o_22, .ref o_29, .null, .int 0, .int 0, .int 0, .null, .null, .null, .null, .null, .null])), (o_1, .inr (3, [.int 0, .ref z, (.int 0)])), (o_8, .inr (3, [.int 0, .ref z, (.int 0)])), (o_15, .inr (3, [.int 0, .ref z, (.int 0)])), (o_22, .inr (3, [.int 0, .ref z, (.int 0)])), (o_29, .inr (3, [.int 0, .ref z, (.int 0)])), (o_36, .inr (3, [.int 0, .null, .int 0]))]) := hD
  refine W.widen (k := 6) (n := 18) (Nat.le_of_ble_eq_true rfl) (Nat.le_of_ble_eq_true rfl) ?_
  refine lv_dup hx hb dX14_init_63 rfl ?_
  have hPc := hP.sub (ws' := [(o_36, .inr (3, [.int 0, .null, .int 0]))]) [6] rfl
  have hKc := hK.sub (tys' := []) [] rfl
  have hDc := hD.sub (ws' := [(o_36, .inr (3, [.int 0, .null, .int 0]))]) [6] (by decide) rfl
  have hFc := va_free (wc := [(o_36, .inr (3, [.int 0, .null, .int 0]))]) hD hS hA [6] rfl
  refine va_callv (va_runI (As := []) (rest := [.ref o_36, .ref h0]) ⟨hx, hb, hml, hown, hts⟩ (k_Jx4a65c_init_da8c8 l G z o_36 0 .null (.int 0) H_37.size ) (cwI 0 hts (lw_goodAll q49) rfl rfl rfl (hg _ q4) (hg _ q1185) (hg _ q48) rfl (by decide +kernel) ⟨Nat.le_of_ble_eq_true rfl, Nat.le_of_ble_eq_true rfl⟩) ⟨PW.blind, PW.of hPc hKc hDc hG hS hFc [.ref o_36]⟩ rfl rfl hl.1 rfl (lv_room (Nat.le_of_ble_eq_true rfl)) dX14_init_64 ⟨Nat.le_of_ble_eq_true rfl, Nat.le_of_ble_eq_true rfl⟩) hS (fun q _ h => hFc q h) hFc (fun u t_41 H_38 locs ht hvm hw_40 hB hz1 hk1 hS => ?_)
  obtain ⟨hP, hD, hK⟩ := QW.join (wr := [(h0, .inr (18, [.int 0, .ref o_1, .ref o_8, .ref o_15, .ref o_22, .ref o_29, .null, .int 0, .int 0, .int 0, .null, .null, .null, .null, .null, .null])), (o_1, .inr (3, [.int 0, .ref z, (.int 0)])), (o_8, .inr (3, [.int 0, .ref z, (.int 0)])), (o_15, .inr (3, [.int 0, .ref z, (.int 0)])), (o_22, .inr (3, [.int 0, .ref z, (.int 0)])), (o_29, .inr (3, [.int 0, .ref z, (.int 0)]))]) (w1 := [(o_36, .inr (3, [.int 0, .ref z, (.int 0)]))]) hP hD hK [6] [0, 1, 2, 3, 4, 5] rfl rfl (by decide) (by decide) hk1 hFc ht hvm hB
  have hP : va_P G vwCl ([(h0, .inr (18, [.int 0, .ref o_1, .ref o_8, .ref o_15, .ref o_22, .ref o_29, .null, .int 0, .int 0, .int 0, .null, .null, .null, .null, .null, .null])), (o_1, .inr (3, [.int 0, .ref z, (.int 0)])), (o_8, .inr (3, [.int 0, .ref z, (.int 0)])), (o_15, .inr (3, [.int 0, .ref z, (.int 0)])), (o_22, .inr (3, [.int 0, .ref z, (.int 0)])), (o_29, .inr (3, [.int 0, .ref z, (.int 0)])), (o_36, .inr (3, [.int 0, .ref z, (.int 0)]))]) H_38 := hP
  have hD : va_D A ([(h0, .inr (18, [.int 0, .ref o_1, .ref o_8, .ref o_15, .ref o_22, .ref o_29, .null, .int 0, .int 0, .int 0, .null, .null, .null, .null, .null, .null])), (o_1, .inr (3, [.int 0, .ref z, (.int 0)])), (o_8, .inr (3, [.int 0, .ref z, (.int 0)])), (o_15, .inr (3, [.int 0, .ref z, (.int 0)])), (o_22, .inr (3, [.int 0, .ref z, (.int 0)])), (o_29, .inr (3, [.int 0, .ref z, (.int 0)])), (o_36, .inr (3, [.int 0, .ref z, (.int 0)]))]) := hD
  have hK : va_K G vwCl [] s := hK
  refine W.widen (k := 6) (n := 18) (Nat.le_of_ble_eq_true rfl) (Nat.le_of_ble_eq_true rfl) ?_
  refine va_putF (D := G) (ci := 18) (v := .ref o_36) (ty := .object "java/util/ArrayList") (C := RX14) (T := TX14) (N := 16) hx hb hg in_X14 tyX14 tyX14_ok nmX14 hown hK hP hD hS 0 rfl rfl 6 (by decide) (hg _ q1193) (fun _ h9 => h9) rfl hin rfl (by decide +kernel) rfl rfl (Nat.le_of_ble_eq_true rfl) dX14_init_67 (fun H_42 locs hP hD hS => ?_)
  have hP : va_P G vwCl ([(h0, .inr (18, [.int 0, .ref o_1, .ref o_8, .ref o_15, .ref o_22, .ref o_29, .ref o_36, .int 0, .int 0, .int 0, .null, .null, .null, .null, .null, .null])), (o_1, .inr (3, [.int 0, .ref z, (.int 0)])), (o_8, .inr (3, [.int 0, .ref z, (.int 0)])), (o_15, .inr (3, [.int 0, .ref z, (.int 0)])), (o_22, .inr (3, [.int 0, .ref z, (.int 0)])), (o_29, .inr (3, [.int 0, .ref z, (.int 0)])), (o_36, .inr (3, [.int 0, .ref z, (.int 0)]))]) H_42 := hP
  have hD : va_D A ([(h0, .inr (18, [.int 0, .ref o_1, .ref o_8, .ref o_15, .ref o_22, .ref o_29, .ref o_36, .int 0, .int 0, .int 0, .null, .null, .null, .null, .null, .null])), (o_1, .inr (3, [.int 0, .ref z, (.int 0)])), (o_8, .inr (3, [.int 0, .ref z, (.int 0)])), (o_15, .inr (3, [.int 0, .ref z, (.int 0)])), (o_22, .inr (3, [.int 0, .ref z, (.int 0)])), (o_29, .inr (3, [.int 0, .ref z, (.int 0)])), (o_36, .inr (3, [.int 0, .ref z, (.int 0)]))]) := hD
  refine lv_aload_n hx hb dX14_init_70 rfl (lv_at hl 0 rfl) ?_
  refine lv_iconst (v := 3) hx hb dX14_init_71 (by decide) ?_
  refine va_put (D := G) (ci := 18) (v := .int 3) (ty := .int) (C := RX14) (T := TX14) (N := 16) hx hb hg in_X14 tyX14 tyX14_ok nmX14 hown hK hP hD hS 0 rfl rfl 8 (by decide) (hg _ q1195) (fun _ h9 => h9) rfl (by decide +kernel) rfl rfl (Nat.le_of_ble_eq_true rfl) dX14_init_72 (fun H_43 locs hP hD hS => ?_)
  have hP : va_P G vwCl ([(h0, .inr (18, [.int 0, .ref o_1, .ref o_8, .ref o_15, .ref o_22, .ref o_29, .ref o_36, .int 0, .int 3, .int 0, .null, .null, .null, .null, .null, .null])), (o_1, .inr (3, [.int 0, .ref z, (.int 0)])), (o_8, .inr (3, [.int 0, .ref z, (.int 0)])), (o_15, .inr (3, [.int 0, .ref z, (.int 0)])), (o_22, .inr (3, [.int 0, .ref z, (.int 0)])), (o_29, .inr (3, [.int 0, .ref z, (.int 0)])), (o_36, .inr (3, [.int 0, .ref z, (.int 0)]))]) H_43 := hP
  have hD : va_D A ([(h0, .inr (18, [.int 0, .ref o_1, .ref o_8, .ref o_15, .ref o_22, .ref o_29, .ref o_36, .int 0, .int 3, .int 0, .null, .null, .null, .null, .null, .null])), (o_1, .inr (3, [.int 0, .ref z, (.int 0)])), (o_8, .inr (3, [.int 0, .ref z, (.int 0)])), (o_15, .inr (3, [.int 0, .ref z, (.int 0)])), (o_22, .inr (3, [.int 0, .ref z, (.int 0)])), (o_29, .inr (3, [.int 0, .ref z, (.int 0)])), (o_36, .inr (3, [.int 0, .ref z, (.int 0)]))]) := hD
  refine lv_aload_n hx hb dX14_init_75 rfl (lv_at hl 0 rfl) ?_
  refine lv_bipush (v := 12) hx hb dX14_init_76 (by decide) ?_
  refine va_put (D := G) (ci := 18) (v := .int 12) (ty := .int) (C := RX14) (T := TX14) (N := 16) hx hb hg in_X14 tyX14 tyX14_ok nmX14 hown hK hP hD hS 0 rfl rfl 9 (by decide) (hg _ q1196) (fun _ h9 => h9) rfl (by decide +kernel) rfl rfl (Nat.le_of_ble_eq_true rfl) dX14_init_78 (fun H_44 locs hP hD hS => ?_)
  have hP : va_P G vwCl ([(h0, .inr (18, [.int 0, .ref o_1, .ref o_8, .ref o_15, .ref o_22, .ref o_29, .ref o_36, .int 0, .int 3, .int 12, .null, .null, .null, .null, .null, .null])), (o_1, .inr (3, [.int 0, .ref z, (.int 0)])), (o_8, .inr (3, [.int 0, .ref z, (.int 0)])), (o_15, .inr (3, [.int 0, .ref z, (.int 0)])), (o_22, .inr (3, [.int 0, .ref z, (.int 0)])), (o_29, .inr (3, [.int 0, .ref z, (.int 0)])), (o_36, .inr (3, [.int 0, .ref z, (.int 0)]))]) H_44 := hP
  have hD : va_D A ([(h0, .inr (18, [.int 0, .ref o_1, .ref o_8, .ref o_15, .ref o_22, .ref o_29, .ref o_36, .int 0, .int 3, .int 12, .null, .null, .null, .null, .null, .null])), (o_1, .inr (3, [.int 0, .ref z, (.int 0)])), (o_8, .inr (3, [.int 0, .ref z, (.int 0)])), (o_15, .inr (3, [.int 0, .ref z, (.int 0)])), (o_22, .inr (3, [.int 0, .ref z, (.int 0)])), (o_29, .inr (3, [.int 0, .ref z, (.int 0)])), (o_36, .inr (3, [.int 0, .ref z, (.int 0)]))]) := hD
  refine lv_aload_n hx hb dX14_init_81 rfl (lv_at hl 0 rfl) ?_
  refine lv_bipush (v := 20) hx hb dX14_init_82 (by decide) ?_
  refine va_newa (atype := .int) (ty := .int) (a0 := (20, .inl (fun _ => 0))) (N' := 20) hx hb (hg _ q94) rfl hK hP hD hS hA (fun _ => rfl) (by decide) (by decide +kernel) (Nat.le_of_ble_eq_true rfl) (Nat.le_of_ble_eq_true rfl) (Nat.le_of_ble_eq_true rfl) dX14_init_84 (fun o_46 cy_45 H_47 hK hP hD hS => ?_)
  have hP : va_P G vwCl ([(h0, .inr (18, [.int 0, .ref o_1, .ref o_8, .ref o_15, .ref o_22, .ref o_29, .ref o_36, .int 0, .int 3, .int 12, .null, .null, .null, .null, .null, .null])), (o_1, .inr (3, [.int 0, .ref z, (.int 0)])), (o_8, .inr (3, [.int 0, .ref z, (.int 0)])), (o_15, .inr (3, [.int 0, .ref z, (.int 0)])), (o_22, .inr (3, [.int 0, .ref z, (.int 0)])), (o_29, .inr (3, [.int 0, .ref z, (.int 0)])), (o_36, .inr (3, [.int 0, .ref z, (.int 0)])), (o_46, .inl (cy_45, 20, .inl (fun _ => 0)))]) H_47 := hP
  have hD : va_D A ([(h0, .inr (18, [.int 0, .ref o_1, .ref o_8, .ref o_15, .ref o_22, .ref o_29, .ref o_36, .int 0, .int 3, .int 12, .null, .null, .null, .null, .null, .null])), (o_1, .inr (3, [.int 0, .ref z, (.int 0)])), (o_8, .inr (3, [.int 0, .ref z, (.int 0)])), (o_15, .inr (3, [.int 0, .ref z, (.int 0)])), (o_22, .inr (3, [.int 0, .ref z, (.int 0)])), (o_29, .inr (3, [.int 0, .ref z, (.int 0)])), (o_36, .inr (3, [.int 0, .ref z, (.int 0)])), (o_46, .inl (cy_45, 20, .inl (fun _ => 0)))]) := hD
  have hK : va_K G vwCl [(cy_45, .int)] s := hK
  refine W.widen (k := 7) (n := 38) (Nat.le_of_ble_eq_true rfl) (Nat.le_of_ble_eq_true rfl) ?_
  refine va_putF (D := G) (ci := 18) (v := .ref o_46) (ty := .array (.int)) (C := RX14) (T := TX14) (N := 16) hx hb hg in_X14 tyX14 tyX14_ok nmX14 hown hK hP hD hS 0 rfl rfl 10 (by decide) (hg _ q1197) (fun _ h9 => h9) rfl hin rfl (by decide +kernel) rfl rfl (Nat.le_of_ble_eq_true rfl) dX14_init_86 (fun H_48 locs hP hD hS => ?_)
  have hP : va_P G vwCl ([(h0, .inr (18, [.int 0, .ref o_1, .ref o_8, .ref o_15, .ref o_22, .ref o_29, .ref o_36, .int 0, .int 3, .int 12, .ref o_46, .null, .null, .null, .null, .null])), (o_1, .inr (3, [.int 0, .ref z, (.int 0)])), (o_8, .inr (3, [.int 0, .ref z, (.int 0)])), (o_15, .inr (3, [.int 0, .ref z, (.int 0)])), (o_22, .inr (3, [.int 0, .ref z, (.int 0)])), (o_29, .inr (3, [.int 0, .ref z, (.int 0)])), (o_36, .inr (3, [.int 0, .ref z, (.int 0)])), (o_46, .inl (cy_45, 20, .inl (fun _ => 0)))]) H_48 := hP
  have hD : va_D A ([(h0, .inr (18, [.int 0, .ref o_1, .ref o_8, .ref o_15, .ref o_22, .ref o_29, .ref o_36, .int 0, .int 3, .int 12, .ref o_46, .null, .null, .null, .null, .null])), (o_1, .inr (3, [.int 0, .ref z, (.int 0)])), (o_8, .inr (3, [.int 0, .ref z, (.int 0)])), (o_15, .inr (3, [.int 0, .ref z, (.int 0)])), (o_22, .inr (3, [.int 0, .ref z, (.int 0)])), (o_29, .inr (3, [.int 0, .ref z, (.int 0)])), (o_36, .inr (3, [.int 0, .ref z, (.int 0)])), (o_46, .inl (cy_45, 20, .inl (fun _ => 0)))]) := hD
  refine lv_aload_n hx hb dX14_init_89 rfl (lv_at hl 0 rfl) ?_
  refine lv_bipush (v := 20) hx hb dX14_init_90 (by decide) ?_
  refine va_newa (atype := .int) (ty := .int) (a0 := (20, .inl (fun _ => 0))) (N' := 20) hx hb (hg _ q94) rfl hK hP hD hS hA (fun _ => rfl) (by decide) (by decide +kernel) (Nat.le_of_ble_eq_true rfl) (Nat.le_of_ble_eq_true rfl) (Nat.le_of_ble_eq_true rfl) dX14_init_92 (fun o_50 cy_49 H_51 hK hP hD hS => ?_)
  have hP : va_P G vwCl ([(h0, .inr (18, [.int 0, .ref o_1, .ref o_8, .ref o_15, .ref o_22, .ref o_29, .ref o_36, .int 0, .int 3, .int 12, .ref o_46, .null, .null, .null, .null, .null])), (o_1, .inr (3, [.int 0, .ref z, (.int 0)])), (o_8, .inr (3, [.int 0, .ref z, (.int 0)])), (o_15, .inr (3, [.int 0, .ref z, (.int 0)])), (o_22, .inr (3, [.int 0, .ref z, (.int 0)])), (o_29, .inr (3, [.int 0, .ref z, (.int 0)])), (o_36, .inr (3, [.int 0, .ref z, (.int 0)])), (o_46, .inl (cy_45, 20, .inl (fun _ => 0))), (o_50, .inl (cy_49, 20, .inl (fun _ => 0)))]) H_51 := hP
  have hD : va_D A ([(h0, .inr (18, [.int 0, .ref o_1, .ref o_8, .ref o_15, .ref o_22, .ref o_29, .ref o_36, .int 0, .int 3, .int 12, .ref o_46, .null, .null, .null, .null, .null])), (o_1, .inr (3, [.int 0, .ref z, (.int 0)])), (o_8, .inr (3, [.int 0, .ref z, (.int 0)])), (o_15, .inr (3, [.int 0, .ref z, (.int 0)])), (o_22, .inr (3, [.int 0, .ref z, (.int 0)])), (o_29, .inr (3, [.int 0, .ref z, (.int 0)])), (o_36, .inr (3, [.int 0, .ref z, (.int 0)])), (o_46, .inl (cy_45, 20, .inl (fun _ => 0))), (o_50, .inl (cy_49, 20, .inl (fun _ => 0)))]) := hD
  have hK : va_K G vwCl [(cy_45, .int), (cy_49, .int)] s := hK
  refine W.widen (k := 8) (n := 58) (Nat.le_of_ble_eq_true rfl) (Nat.le_of_ble_eq_true rfl) ?_
  refine va_putF (D := G) (ci := 18) (v := .ref o_50) (ty := .array (.int)) (C := RX14) (T := TX14) (N := 16) hx hb hg in_X14 tyX14 tyX14_ok nmX14 hown hK hP hD hS 0 rfl rfl 11 (by decide) (hg _ q1198) (fun _ h9 => h9) rfl hin rfl (by decide +kernel) rfl rfl (Nat.le_of_ble_eq_true rfl) dX14_init_94 (fun H_52 locs hP hD hS => ?_)
  have hP : va_P G vwCl ([(h0, .inr (18, [.int 0, .ref o_1, .ref o_8, .ref o_15, .ref o_22, .ref o_29, .ref o_36, .int 0, .int 3, .int 12, .ref o_46, .ref o_50, .null, .null, .null, .null])), (o_1, .inr (3, [.int 0, .ref z, (.int 0)])), (o_8, .inr (3, [.int 0, .ref z, (.int 0)])), (o_15, .inr (3, [.int 0, .ref z, (.int 0)])), (o_22, .inr (3, [.int 0, .ref z, (.int 0)])), (o_29, .inr (3, [.int 0, .ref z, (.int 0)])), (o_36, .inr (3, [.int 0, .ref z, (.int 0)])), (o_46, .inl (cy_45, 20, .inl (fun _ => 0))), (o_50, .inl (cy_49, 20, .inl (fun _ => 0)))]) H_52 := hP
  have hD : va_D A ([(h0, .inr (18, [.int 0, .ref o_1, .ref o_8, .ref o_15, .ref o_22, .ref o_29, .ref o_36, .int 0, .int 3, .int 12, .ref o_46, .ref o_50, .null, .null, .null, .null])), (o_1, .inr (3, [.int 0, .ref z, (.int 0)])), (o_8, .inr (3, [.int 0, .ref z, (.int 0)])), (o_15, .inr (3, [.int 0, .ref z, (.int 0)])), (o_22, .inr (3, [.int 0, .ref z, (.int 0)])), (o_29, .inr (3, [.int 0, .ref z, (.int 0)])), (o_36, .inr (3, [.int 0, .ref z, (.int 0)])), (o_46, .inl (cy_45, 20, .inl (fun _ => 0))), (o_50, .inl (cy_49, 20, .inl (fun _ => 0)))]) := hD
  refine lv_aload_n hx hb dX14_init_97 rfl (lv_at hl 0 rfl) ?_
  refine lv_bipush (v := 20) hx hb dX14_init_98 (by decide) ?_
  refine lv_bipush (v := 6) hx hb dX14_init_100 (by decide) ?_
  refine va_mna (X := [(h0, .inr (18, [.int 0, .ref o_1, .ref o_8, .ref o_15, .ref o_22, .ref o_29, .ref o_36, .int 0, .int 3, .int 12, .ref o_46, .ref o_50, .null, .null, .null, .null])), (o_1, .inr (3, [.int 0, .ref z, (.int 0)])), (o_8, .inr (3, [.int 0, .ref z, (.int 0)])), (o_15, .inr (3, [.int 0, .ref z, (.int 0)])), (o_22, .inr (3, [.int 0, .ref z, (.int 0)])), (o_29, .inr (3, [.int 0, .ref z, (.int 0)])), (o_36, .inr (3, [.int 0, .ref z, (.int 0)])), (o_46, .inl (cy_45, 20, .inl (fun _ => 0))), (o_50, .inl (cy_49, 20, .inl (fun _ => 0)))]) (L := []) (f := fun _ => .inr (0, [])) (ty := .int) (cy := cy_45) (N' := 20) (K' := 6) (z := (6, .inl (fun _ => 0))) hx hb hown (by rw [show ("[" ++ (FieldType.array .int).toString) = "[[I" from by decide +kernel]; exact hg _ q1186) hG.2.2.2.2.2.2.2.2 (hg _ q94) (by rw [show (FieldType.array .int).toString = "[I" from by decide +kernel]; exact va_nm_int (hK.2 0 _ rfl).2) hK (by rw [show va_pl [] (fun _ => (.inr (0, []) : va_E)) = [] from rfl, List.append_nil]; exact hP) (by rw [show va_pl [] (fun _ => (.inr (0, []) : va_E)) = [] from rfl, List.append_nil]; exact hD) hS hA (by decide) (by decide) (by decide +kernel) (by decide +kernel) (by decide) (by decide +kernel) (by decide) rfl rfl (Nat.le_of_ble_eq_true rfl) (Nat.le_of_ble_eq_true rfl) (fun c9 => by show ({ cls := c9, slots := Array.replicate _ (.int 0), vm := .none } : Cell) = _; rw [arrV_new]; rfl) dX14_init_102 (fun o_53 rr_54 cy_55 H_56 hinj hnot hK hP hD hS => ?_)
  have hP := hP.sub (ws' := [(h0, .inr (18, [.int 0, .ref o_1, .ref o_8, .ref o_15, .ref o_22, .ref o_29, .ref o_36, .int 0, .int 3, .int 12, .ref o_46, .ref o_50, .null, .null, .null, .null])), (o_1, .inr (3, [.int 0, .ref z, (.int 0)])), (o_8, .inr (3, [.int 0, .ref z, (.int 0)])), (o_15, .inr (3, [.int 0, .ref z, (.int 0)])), (o_22, .inr (3, [.int 0, .ref z, (.int 0)])), (o_29, .inr (3, [.int 0, .ref z, (.int 0)])), (o_36, .inr (3, [.int 0, .ref z, (.int 0)])), (o_46, .inl (cy_45, 20, .inl (fun _ => 0))), (o_50, .inl (cy_49, 20, .inl (fun _ => 0))), (o_53, .inl (cy_55, 20, .inr (.inr (.inr (.inr (fun i => if i < 20 then some (rr_54 i) else none))))))]) [0, 1, 2, 3, 4, 5, 6, 7, 8, 9] rfl
  have hD := hD.sub (ws' := [(h0, .inr (18, [.int 0, .ref o_1, .ref o_8, .ref o_15, .ref o_22, .ref o_29, .ref o_36, .int 0, .int 3, .int 12, .ref o_46, .ref o_50, .null, .null, .null, .null])), (o_1, .inr (3, [.int 0, .ref z, (.int 0)])), (o_8, .inr (3, [.int 0, .ref z, (.int 0)])), (o_15, .inr (3, [.int 0, .ref z, (.int 0)])), (o_22, .inr (3, [.int 0, .ref z, (.int 0)])), (o_29, .inr (3, [.int 0, .ref z, (.int 0)])), (o_36, .inr (3, [.int 0, .ref z, (.int 0)])), (o_46, .inl (cy_45, 20, .inl (fun _ => 0))), (o_50, .inl (cy_49, 20, .inl (fun _ => 0))), (o_53, .inl (cy_55, 20, .inr (.inr (.inr (.inr (fun i => if i < 20 then some (rr_54 i) else none))))))]) [0, 1, 2, 3, 4, 5, 6, 7, 8, 9] (by decide) rfl
  have hP : va_P G vwCl ([(h0, .inr (18, [.int 0, .ref o_1, .ref o_8, .ref o_15, .ref o_22, .ref o_29, .ref o_36, .int 0, .int 3, .int 12, .ref o_46, .ref o_50, .null, .null, .null, .null])), (o_1, .inr (3, [.int 0, .ref z, (.int 0)])), (o_8, .inr (3, [.int 0, .ref z, (.int 0)])), (o_15, .inr (3, [.int 0, .ref z, (.int 0)])), (o_22, .inr (3, [.int 0, .ref z, (.int 0)])), (o_29, .inr (3, [.int 0, .ref z, (.int 0)])), (o_36, .inr (3, [.int 0, .ref z, (.int 0)])), (o_46, .inl (cy_45, 20, .inl (fun _ => 0))), (o_50, .inl (cy_49, 20, .inl (fun _ => 0))), (o_53, .inl (cy_55, 20, .inr (.inr (.inr (.inr (fun i => if i < 20 then some (rr_54 i) else none))))))]) H_56 := hP
  have hD : va_D A ([(h0, .inr (18, [.int 0, .ref o_1, .ref o_8, .ref o_15, .ref o_22, .ref o_29, .ref o_36, .int 0, .int 3, .int 12, .ref o_46, .ref o_50, .null, .null, .null, .null])), (o_1, .inr (3, [.int 0, .ref z, (.int 0)])), (o_8, .inr (3, [.int 0, .ref z, (.int 0)])), (o_15, .inr (3, [.int 0, .ref z, (.int 0)])), (o_22, .inr (3, [.int 0, .ref z, (.int 0)])), (o_29, .inr (3, [.int 0, .ref z, (.int 0)])), (o_36, .inr (3, [.int 0, .ref z, (.int 0)])), (o_46, .inl (cy_45, 20, .inl (fun _ => 0))), (o_50, .inl (cy_49, 20, .inl (fun _ => 0))), (o_53, .inl (cy_55, 20, .inr (.inr (.inr (.inr (fun i => if i < 20 then some (rr_54 i) else none))))))]) := hD
  have hK : va_K G vwCl [(cy_45, .int), (cy_49, .int), (cy_55, .array .int)] s := hK
  refine W.widen (k := 29) (n := 198) (Nat.le_of_ble_eq_true rfl) (Nat.le_of_ble_eq_true rfl) ?_
  refine va_putF (D := G) (ci := 18) (v := .ref o_53) (ty := .array (.array (.int))) (C := RX14) (T := TX14) (N := 16) hx hb hg in_X14 tyX14 tyX14_ok nmX14 hown hK hP hD hS 0 rfl rfl 12 (by decide) (hg _ q1199) (fun _ h9 => h9) rfl hin rfl (by decide +kernel) rfl rfl (Nat.le_of_ble_eq_true rfl) dX14_init_106 (fun H_57 locs hP hD hS => ?_)
  have hP : va_P G vwCl ([(h0, .inr (18, [.int 0, .ref o_1, .ref o_8, .ref o_15, .ref o_22, .ref o_29, .ref o_36, .int 0, .int 3, .int 12, .ref o_46, .ref o_50, .ref o_53, .null, .null, .null])), (o_1, .inr (3, [.int 0, .ref z, (.int 0)])), (o_8, .inr (3, [.int 0, .ref z, (.int 0)])), (o_15, .inr (3, [.int 0, .ref z, (.int 0)])), (o_22, .inr (3, [.int 0, .ref z, (.int 0)])), (o_29, .inr (3, [.int 0, .ref z, (.int 0)])), (o_36, .inr (3, [.int 0, .ref z, (.int 0)])), (o_46, .inl (cy_45, 20, .inl (fun _ => 0))), (o_50, .inl (cy_49, 20, .inl (fun _ => 0))), (o_53, .inl (cy_55, 20, .inr (.inr (.inr (.inr (fun i => if i < 20 then some (rr_54 i) else none))))))]) H_57 := hP
  have hD : va_D A ([(h0, .inr (18, [.int 0, .ref o_1, .ref o_8, .ref o_15, .ref o_22, .ref o_29, .ref o_36, .int 0, .int 3, .int 12, .ref o_46, .ref o_50, .ref o_53, .null, .null, .null])), (o_1, .inr (3, [.int 0, .ref z, (.int 0)])), (o_8, .inr (3, [.int 0, .ref z, (.int 0)])), (o_15, .inr (3, [.int 0, .ref z, (.int 0)])), (o_22, .inr (3, [.int 0, .ref z, (.int 0)])), (o_29, .inr (3, [.int 0, .ref z, (.int 0)])), (o_36, .inr (3, [.int 0, .ref z, (.int 0)])), (o_46, .inl (cy_45, 20, .inl (fun _ => 0))), (o_50, .inl (cy_49, 20, .inl (fun _ => 0))), (o_53, .inl (cy_55, 20, .inr (.inr (.inr (.inr (fun i => if i < 20 then some (rr_54 i) else none))))))]) := hD
  refine lv_aload_n hx hb dX14_init_109 rfl (lv_at hl 0 rfl) ?_
  refine lv_bipush (v := 20) hx hb dX14_init_110 (by decide) ?_
  refine lv_bipush (v := 6) hx hb dX14_init_112 (by decide) ?_
  refine va_mna (X := [(h0, .inr (18, [.int 0, .ref o_1, .ref o_8, .ref o_15, .ref o_22, .ref o_29, .ref o_36, .int 0, .int 3, .int 12, .ref o_46, .ref o_50, .ref o_53, .null, .null, .null])), (o_1, .inr (3, [.int 0, .ref z, (.int 0)])), (o_8, .inr (3, [.int 0, .ref z, (.int 0)])), (o_15, .inr (3, [.int 0, .ref z, (.int 0)])), (o_22, .inr (3, [.int 0, .ref z, (.int 0)])), (o_29, .inr (3, [.int 0, .ref z, (.int 0)])), (o_36, .inr (3, [.int 0, .ref z, (.int 0)])), (o_46, .inl (cy_45, 20, .inl (fun _ => 0))), (o_50, .inl (cy_49, 20, .inl (fun _ => 0))), (o_53, .inl (cy_55, 20, .inr (.inr (.inr (.inr (fun i => if i < 20 then some (rr_54 i) else none))))))]) (L := []) (f := fun _ => .inr (0, [])) (ty := .int) (cy := cy_45) (N' := 20) (K' := 6) (z := (6, .inl (fun _ => 0))) hx hb hown (by rw [show ("[" ++ (FieldType.array .int).toString) = "[[I" from by decide +kernel]; exact hg _ q1186) hG.2.2.2.2.2.2.2.2 (hg _ q94) (by rw [show (FieldType.array .int).toString = "[I" from by decide +kernel]; exact va_nm_int (hK.2 0 _ rfl).2) hK (by rw [show va_pl [] (fun _ => (.inr (0, []) : va_E)) = [] from rfl, List.append_nil]; exact hP) (by rw [show va_pl [] (fun _ => (.inr (0, []) : va_E)) = [] from rfl, List.append_nil]; exact hD) hS hA (by decide) (by decide) (by decide +kernel) (by decide +kernel) (by decide) (by decide +kernel) (by decide) rfl rfl (Nat.le_of_ble_eq_true rfl) (Nat.le_of_ble_eq_true rfl) (fun c9 => by show ({ cls := c9, slots := Array.replicate _ (.int 0), vm := .none } : Cell) = _; rw [arrV_new]; rfl) dX14_init_114 (fun o_58 rr_59 cy_60 H_61 hinj hnot hK hP hD hS => ?_)
  have hP := hP.sub (ws' := [(h0, .inr (18, [.int 0, .ref o_1, .ref o_8, .ref o_15, .ref o_22, .ref o_29, .ref o_36, .int 0, .int 3, .int 12, .ref o_46, .ref o_50, .ref o_53, .null, .null, .null])), (o_1, .inr (3, [.int 0, .ref z, (.int 0)])), (o_8, .inr (3, [.int 0, .ref z, (.int 0)])), (o_15, .inr (3, [.int 0, .ref z, (.int 0)])), (o_22, .inr (3, [.int 0, .ref z, (.int 0)])), (o_29, .inr (3, [.int 0, .ref z, (.int 0)])), (o_36, .inr (3, [.int 0, .ref z, (.int 0)])), (o_46, .inl (cy_45, 20, .inl (fun _ => 0))), (o_50, .inl (cy_49, 20, .inl (fun _ => 0))), (o_53, .inl (cy_55, 20, .inr (.inr (.inr (.inr (fun i => if i < 20 then some (rr_54 i) else none)))))), (o_58, .inl (cy_60, 20, .inr (.inr (.inr (.inr (fun i => if i < 20 then some (rr_59 i) else none))))))]) [0, 1, 2, 3, 4, 5, 6, 7, 8, 9, 10] rfl
  have hD := hD.sub (ws' := [(h0, .inr (18, [.int 0, .ref o_1, .ref o_8, .ref o_15, .ref o_22, .ref o_29, .ref o_36, .int 0, .int 3, .int 12, .ref o_46, .ref o_50, .ref o_53, .null, .null, .null])), (o_1, .inr (3, [.int 0, .ref z, (.int 0)])), (o_8, .inr (3, [.int 0, .ref z, (.int 0)])), (o_15, .inr (3, [.int 0, .ref z, (.int 0)])), (o_22, .inr (3, [.int 0, .ref z, (.int 0)])), (o_29, .inr (3, [.int 0, .ref z, (.int 0)])), (o_36, .inr (3, [.int 0, .ref z, (.int 0)])), (o_46, .inl (cy_45, 20, .inl (fun _ => 0))), (o_50, .inl (cy_49, 20, .inl (fun _ => 0))), (o_53, .inl (cy_55, 20, .inr (.inr (.inr (.inr (fun i => if i < 20 then some (rr_54 i) else none)))))), (o_58, .inl (cy_60, 20, .inr (.inr (.inr (.inr (fun i => if i < 20 then some (rr_59 i) else none))))))]) [0, 1, 2, 3, 4, 5, 6, 7, 8, 9, 10] (by decide) rfl
  have hP : va_P G vwCl ([(h0, .inr (18, [.int 0, .ref o_1, .ref o_8, .ref o_15, .ref o_22, .ref o_29, .ref o_36, .int 0, .int 3, .int 12, .ref o_46, .ref o_50, .ref o_53, .null, .null, .null])), (o_1, .inr (3, [.int 0, .ref z, (.int 0)])), (o_8, .inr (3, [.int 0, .ref z, (.int 0)])), (o_15, .inr (3, [.int 0, .ref z, (.int 0)])), (o_22, .inr (3, [.int 0, .ref z, (.int 0)])), (o_29, .inr (3, [.int 0, .ref z, (.int 0)])), (o_36, .inr (3, [.int 0, .ref z, (.int 0)])), (o_46, .inl (cy_45, 20, .inl (fun _ => 0))), (o_50, .inl (cy_49, 20, .inl (fun _ => 0))), (o_53, .inl (cy_55, 20, .inr (.inr (.inr (.inr (fun i => if i < 20 then some (rr_54 i) else none)))))), (o_58, .inl (cy_60, 20, .inr (.inr (.inr (.inr (fun i => if i < 20 then some (rr_59 i) else none))))))]) H_61 := hP
  have hD : va_D A ([(h0, .inr (18, [.int 0, .ref o_1, .ref o_8, .ref o_15, .ref o_22, .ref o_29, .ref o_36, .int 0, .int 3, .int 12, .ref o_46, .ref o_50, .ref o_53, .null, .null, .null])), (o_1, .inr (3, [.int 0, .ref z, (.int 0)])), (o_8, .inr (3, [.int 0, .ref z, (.int 0)])), (o_15, .inr (3, [.int 0, .ref z, (.int 0)])), (o_22, .inr (3, [.int 0, .ref z, (.int 0)])), (o_29, .inr (3, [.int 0, .ref z, (.int 0)])), (o_36, .inr (3, [.int 0, .ref z, (.int 0)])), (o_46, .inl (cy_45, 20, .inl (fun _ => 0))), (o_50, .inl (cy_49, 20, .inl (fun _ => 0))), (o_53, .inl (cy_55, 20, .inr (.inr (.inr (.inr (fun i => if i < 20 then some (rr_54 i) else none)))))), (o_58, .inl (cy_60, 20, .inr (.inr (.inr (.inr (fun i => if i < 20 then some (rr_59 i) else none))))))]) := hD
  have hK : va_K G vwCl [(cy_45, .int), (cy_49, .int), (cy_55, .array .int), (cy_60, .array .int)] s := hK
  refine W.widen (k := 50) (n := 338) (Nat.le_of_ble_eq_true rfl) (Nat.le_of_ble_eq_true rfl) ?_
  refine va_putF (D := G) (ci := 18) (v := .ref o_58) (ty := .array (.array (.int))) (C := RX14) (T := TX14) (N := 16) hx hb hg in_X14 tyX14 tyX14_ok nmX14 hown hK hP hD hS 0 rfl rfl 13 (by decide) (hg _ q1200) (fun _ h9 => h9) rfl hin rfl (by decide +kernel) rfl rfl (Nat.le_of_ble_eq_true rfl) dX14_init_118 (fun H_62 locs hP hD hS => ?_)
  have hP : va_P G vwCl ([(h0, .inr (18, [.int 0, .ref o_1, .ref o_8, .ref o_15, .ref o_22, .ref o_29, .ref o_36, .int 0, .int 3, .int 12, .ref o_46, .ref o_50, .ref o_53, .ref o_58, .null, .null])), (o_1, .inr (3, [.int 0, .ref z, (.int 0)])), (o_8, .inr (3, [.int 0, .ref z, (.int 0)])), (o_15, .inr (3, [.int 0, .ref z, (.int 0)])), (o_22, .inr (3, [.int 0, .ref z, (.int 0)])), (o_29, .inr (3, [.int 0, .ref z, (.int 0)])), (o_36, .inr (3, [.int 0, .ref z, (.int 0)])), (o_46, .inl (cy_45, 20, .inl (fun _ => 0))), (o_50, .inl (cy_49, 20, .inl (fun _ => 0))), (o_53, .inl (cy_55, 20, .inr (.inr (.inr (.inr (fun i => if i < 20 then some (rr_54 i) else none)))))), (o_58, .inl (cy_60, 20, .inr (.inr (.inr (.inr (fun i => if i < 20 then some (rr_59 i) else none))))))]) H_62 := hP
  have hD : va_D A ([(h0, .inr (18, [.int 0, .ref o_1, .ref o_8, .ref o_15, .ref o_22, .ref o_29, .ref o_36, .int 0, .int 3, .int 12, .ref o_46, .ref o_50, .ref o_53, .ref o_58, .null, .null])), (o_1, .inr (3, [.int 0, .ref z, (.int 0)])), (o_8, .inr (3, [.int 0, .ref z, (.int 0)])), (o_15, .inr (3, [.int 0, .ref z, (.int 0)])), (o_22, .inr (3, [.int 0, .ref z, (.int 0)])), (o_29, .inr (3, [.int 0, .ref z, (.int 0)])), (o_36, .inr (3, [.int 0, .ref z, (.int 0)])), (o_46, .inl (cy_45, 20, .inl (fun _ => 0))), (o_50, .inl (cy_49, 20, .inl (fun _ => 0))), (o_53, .inl (cy_55, 20, .inr (.inr (.inr (.inr (fun i => if i < 20 then some (rr_54 i) else none)))))), (o_58, .inl (cy_60, 20, .inr (.inr (.inr (.inr (fun i => if i < 20 then some (rr_59 i) else none))))))]) := hD
  refine lv_aload_n hx hb dX14_init_121 rfl (lv_at hl 0 rfl) ?_
  refine lv_bipush (v := 12) hx hb dX14_init_122 (by decide) ?_
  refine lv_bipush (v := 21) hx hb dX14_init_124 (by decide) ?_
  refine va_mna (X := [(h0, .inr (18, [.int 0, .ref o_1, .ref o_8, .ref o_15, .ref o_22, .ref o_29, .ref o_36, .int 0, .int 3, .int 12, .ref o_46, .ref o_50, .ref o_53, .ref o_58, .null, .null])), (o_1, .inr (3, [.int 0, .ref z, (.int 0)])), (o_8, .inr (3, [.int 0, .ref z, (.int 0)])), (o_15, .inr (3, [.int 0, .ref z, (.int 0)])), (o_22, .inr (3, [.int 0, .ref z, (.int 0)])), (o_29, .inr (3, [.int 0, .ref z, (.int 0)])), (o_36, .inr (3, [.int 0, .ref z, (.int 0)])), (o_46, .inl (cy_45, 20, .inl (fun _ => 0))), (o_50, .inl (cy_49, 20, .inl (fun _ => 0))), (o_53, .inl (cy_55, 20, .inr (.inr (.inr (.inr (fun i => if i < 20 then some (rr_54 i) else none)))))), (o_58, .inl (cy_60, 20, .inr (.inr (.inr (.inr (fun i => if i < 20 then some (rr_59 i) else none))))))]) (L := []) (f := fun _ => .inr (0, [])) (ty := .int) (cy := cy_45) (N' := 12) (K' := 21) (z := (21, .inl (fun _ => 0))) hx hb hown (by rw [show ("[" ++ (FieldType.array .int).toString) = "[[I" from by decide +kernel]; exact hg _ q1186) hG.2.2.2.2.2.2.2.2 (hg _ q94) (by rw [show (FieldType.array .int).toString = "[I" from by decide +kernel]; exact va_nm_int (hK.2 0 _ rfl).2) hK (by rw [show va_pl [] (fun _ => (.inr (0, []) : va_E)) = [] from rfl, List.append_nil]; exact hP) (by rw [show va_pl [] (fun _ => (.inr (0, []) : va_E)) = [] from rfl, List.append_nil]; exact hD) hS hA (by decide) (by decide) (by decide +kernel) (by decide +kernel) (by decide) (by decide +kernel) (by decide) rfl rfl (Nat.le_of_ble_eq_true rfl) (Nat.le_of_ble_eq_true rfl) (fun c9 => by show ({ cls := c9, slots := Array.replicate _ (.int 0), vm := .none } : Cell) = _; rw [arrV_new]; rfl) dX14_init_126 (fun o_63 rr_64 cy_65 H_66 hinj hnot hK hP hD hS => ?_)
  have hP := hP.sub (ws' := [(h0, .inr (18, [.int 0, .ref o_1, .ref o_8, .ref o_15, .ref o_22, .ref o_29, .ref o_36, .int 0, .int 3, .int 12, .ref o_46, .ref o_50, .ref o_53, .ref o_58, .null, .null])), (o_1, .inr (3, [.int 0, .ref z, (.int 0)])), (o_8, .inr (3, [.int 0, .ref z, (.int 0)])), (o_15, .inr (3, [.int 0, .ref z, (.int 0)])), (o_22, .inr (3, [.int 0, .ref z, (.int 0)])), (o_29, .inr (3, [.int 0, .ref z, (.int 0)])), (o_36, .inr (3, [.int 0, .ref z, (.int 0)])), (o_46, .inl (cy_45, 20, .inl (fun _ => 0))), (o_50, .inl (cy_49, 20, .inl (fun _ => 0))), (o_53, .inl (cy_55, 20, .inr (.inr (.inr (.inr (fun i => if i < 20 then some (rr_54 i) else none)))))), (o_58, .inl (cy_60, 20, .inr (.inr (.inr (.inr (fun i => if i < 20 then some (rr_59 i) else none)))))), (o_63, .inl (cy_65, 12, .inr (.inr (.inr (.inr (fun i => if i < 12 then some (rr_64 i) else none))))))]) [0, 1, 2, 3, 4, 5, 6, 7, 8, 9, 10, 11] rfl
  have hD := hD.sub (ws' := [(h0, .inr (18, [.int 0, .ref o_1, .ref o_8, .ref o_15, .ref o_22, .ref o_29, .ref o_36, .int 0, .int 3, .int 12, .ref o_46, .ref o_50, .ref o_53, .ref o_58, .null, .null])), (o_1, .inr (3, [.int 0, .ref z, (.int 0)])), (o_8, .inr (3, [.int 0, .ref z, (.int 0)])), (o_15, .inr (3, [.int 0, .ref z, (.int 0)])), (o_22, .inr (3, [.int 0, .ref z, (.int 0)])), (o_29, .inr (3, [.int 0, .ref z, (.int 0)])), (o_36, .inr (3, [.int 0, .ref z, (.int 0)])), (o_46, .inl (cy_45, 20, .inl (fun _ => 0))), (o_50, .inl (cy_49, 20, .inl (fun _ => 0))), (o_53, .inl (cy_55, 20, .inr (.inr (.inr (.inr (fun i => if i < 20 then some (rr_54 i) else none)))))), (o_58, .inl (cy_60, 20, .inr (.inr (.inr (.inr (fun i => if i < 20 then some (rr_59 i) else none)))))), (o_63, .inl (cy_65, 12, .inr (.inr (.inr (.inr (fun i => if i < 12 then some (rr_64 i) else none))))))]) [0, 1, 2, 3, 4, 5, 6, 7, 8, 9, 10, 11] (by decide) rfl
  have hP : va_P G vwCl ([(h0, .inr (18, [.int 0, .ref o_1, .ref o_8, .ref o_15, .ref o_22, .ref o_29, .ref o_36, .int 0, .int 3, .int 12, .ref o_46, .ref o_50, .ref o_53, .ref o_58, .null, .null])), (o_1, .inr (3, [.int 0, .ref z, (.int 0)])), (o_8, .inr (3, [.int 0, .ref z, (.int 0)])), (o_15, .inr (3, [.int 0, .ref z, (.int 0)])), (o_22, .inr (3, [.int 0, .ref z, (.int 0)])), (o_29, .inr (3, [.int 0, .ref z, (.int 0)])), (o_36, .inr (3, [.int 0, .ref z, (.int 0)])), (o_46, .inl (cy_45, 20, .inl (fun _ => 0))), (o_50, .inl (cy_49, 20, .inl (fun _ => 0))), (o_53, .inl (cy_55, 20, .inr (.inr (.inr (.inr (fun i => if i < 20 then some (rr_54 i) else none)))))), (o_58, .inl (cy_60, 20, .inr (.inr (.inr (.inr (fun i => if i < 20 then some (rr_59 i) else none)))))), (o_63, .inl (cy_65, 12, .inr (.inr (.inr (.inr (fun i => if i < 12 then some (rr_64 i) else none))))))]) H_66 := hP
  have hD : va_D A ([(h0, .inr (18, [.int 0, .ref o_1, .ref o_8, .ref o_15, .ref o_22, .ref o_29, .ref o_36, .int 0, .int 3, .int 12, .ref o_46, .ref o_50, .ref o_53, .ref o_58, .null, .null])), (o_1, .inr (3, [.int 0, .ref z, (.int 0)])), (o_8, .inr (3, [.int 0, .ref z, (.int 0)])), (o_15, .inr (3, [.int 0, .ref z, (.int 0)])), (o_22, .inr (3, [.int 0, .ref z, (.int 0)])), (o_29, .inr (3, [.int 0, .ref z, (.int 0)])), (o_36, .inr (3, [.int 0, .ref z, (.int 0)])), (o_46, .inl (cy_45, 20, .inl (fun _ => 0))), (o_50, .inl (cy_49, 20, .inl (fun _ => 0))), (o_53, .inl (cy_55, 20, .inr (.inr (.inr (.inr (fun i => if i < 20 then some (rr_54 i) else none)))))), (o_58, .inl (cy_60, 20, .inr (.inr (.inr (.inr (fun i => if i < 20 then some (rr_59 i) else none)))))), (o_63, .inl (cy_65, 12, .inr (.inr (.inr (.inr (fun i => if i < 12 then some (rr_64 i) else none))))))]) := hD
  have hK : va_K G vwCl [(cy_45, .int), (cy_49, .int), (cy_55, .array .int), (cy_60, .array .int), (cy_65, .array .int)] s := hK
  refine W.widen (k := 63) (n := 602) (Nat.le_of_ble_eq_true rfl) (Nat.le_of_ble_eq_true rfl) ?_
  refine va_putF (D := G) (ci := 18) (v := .ref o_63) (ty := .array (.array (.int))) (C := RX14) (T := TX14) (N := 16) hx hb hg in_X14 tyX14 tyX14_ok nmX14 hown hK hP hD hS 0 rfl rfl 14 (by decide) (hg _ q1201) (fun _ h9 => h9) rfl hin rfl (by decide +kernel) rfl rfl (Nat.le_of_ble_eq_true rfl) dX14_init_130 (fun H_67 locs hP hD hS => ?_)
  have hP : va_P G vwCl ([(h0, .inr (18, [.int 0, .ref o_1, .ref o_8, .ref o_15, .ref o_22, .ref o_29, .ref o_36, .int 0, .int 3, .int 12, .ref o_46, .ref o_50, .ref o_53, .ref o_58, .ref o_63, .null])), (o_1, .inr (3, [.int 0, .ref z, (.int 0)])), (o_8, .inr (3, [.int 0, .ref z, (.int 0)])), (o_15, .inr (3, [.int 0, .ref z, (.int 0)])), (o_22, .inr (3, [.int 0, .ref z, (.int 0)])), (o_29, .inr (3, [.int 0, .ref z, (.int 0)])), (o_36, .inr (3, [.int 0, .ref z, (.int 0)])), (o_46, .inl (cy_45, 20, .inl (fun _ => 0))), (o_50, .inl (cy_49, 20, .inl (fun _ => 0))), (o_53, .inl (cy_55, 20, .inr (.inr (.inr (.inr (fun i => if i < 20 then some (rr_54 i) else none)))))), (o_58, .inl (cy_60, 20, .inr (.inr (.inr (.inr (fun i => if i < 20 then some (rr_59 i) else none)))))), (o_63, .inl (cy_65, 12, .inr (.inr (.inr (.inr (fun i => if i < 12 then some (rr_64 i) else none))))))]) H_67 := hP
  have hD : va_D A ([(h0, .inr (18, [.int 0, .ref o_1, .ref o_8, .ref o_15, .ref o_22, .ref o_29, .ref o_36, .int 0, .int 3, .int 12, .ref o_46, .ref o_50, .ref o_53, .ref o_58, .ref o_63, .null])), (o_1, .inr (3, [.int 0, .ref z, (.int 0)])), (o_8, .inr (3, [.int 0, .ref z, (.int 0)])), (o_15, .inr (3, [.int 0, .ref z, (.int 0)])), (o_22, .inr (3, [.int 0, .ref z, (.int 0)])), (o_29, .inr (3, [.int 0, .ref z, (.int 0)])), (o_36, .inr (3, [.int 0, .ref z, (.int 0)])), (o_46, .inl (cy_45, 20, .inl (fun _ => 0))), (o_50, .inl (cy_49, 20, .inl (fun _ => 0))), (o_53, .inl (cy_55, 20, .inr (.inr (.inr (.inr (fun i => if i < 20 then some (rr_54 i) else none)))))), (o_58, .inl (cy_60, 20, .inr (.inr (.inr (.inr (fun i => if i < 20 then some (rr_59 i) else none)))))), (o_63, .inl (cy_65, 12, .inr (.inr (.inr (.inr (fun i => if i < 12 then some (rr_64 i) else none))))))]) := hD
  refine lv_aload_n hx hb dX14_init_133 rfl (lv_at hl 0 rfl) ?_
  refine lv_bipush (v := 12) hx hb dX14_init_134 (by decide) ?_
  refine lv_bipush (v := 21) hx hb dX14_init_136 (by decide) ?_
  refine va_mna (X := [(h0, .inr (18, [.int 0, .ref o_1, .ref o_8, .ref o_15, .ref o_22, .ref o_29, .ref o_36, .int 0, .int 3, .int 12, .ref o_46, .ref o_50, .ref o_53, .ref o_58, .ref o_63, .null])), (o_1, .inr (3, [.int 0, .ref z, (.int 0)])), (o_8, .inr (3, [.int 0, .ref z, (.int 0)])), (o_15, .inr (3, [.int 0, .ref z, (.int 0)])), (o_22, .inr (3, [.int 0, .ref z, (.int 0)])), (o_29, .inr (3, [.int 0, .ref z, (.int 0)])), (o_36, .inr (3, [.int 0, .ref z, (.int 0)])), (o_46, .inl (cy_45, 20, .inl (fun _ => 0))), (o_50, .inl (cy_49, 20, .inl (fun _ => 0))), (o_53, .inl (cy_55, 20, .inr (.inr (.inr (.inr (fun i => if i < 20 then some (rr_54 i) else none)))))), (o_58, .inl (cy_60, 20, .inr (.inr (.inr (.inr (fun i => if i < 20 then some (rr_59 i) else none)))))), (o_63, .inl (cy_65, 12, .inr (.inr (.inr (.inr (fun i => if i < 12 then some (rr_64 i) else none))))))]) (L := []) (f := fun _ => .inr (0, [])) (ty := .int) (cy := cy_45) (N' := 12) (K' := 21) (z := (21, .inl (fun _ => 0))) hx hb hown (by rw [show ("[" ++ (FieldType.array .int).toString) = "[[I" from by decide +kernel]; exact hg _ q1186) hG.2.2.2.2.2.2.2.2 (hg _ q94) (by rw [show (FieldType.array .int).toString = "[I" from by decide +kernel]; exact va_nm_int (hK.2 0 _ rfl).2) hK (by rw [show va_pl [] (fun _ => (.inr (0, []) : va_E)) = [] from rfl, List.append_nil]; exact hP) (by rw [show va_pl [] (fun _ => (.inr (0, []) : va_E)) = [] from rfl, List.append_nil]; exact hD) hS hA (by decide) (by decide) (by decide +kernel) (by decide +kernel) (by decide) (by decide +kernel) (by decide) rfl rfl (Nat.le_of_ble_eq_true rfl) (Nat.le_of_ble_eq_true rfl) (fun c9 => by show ({ cls := c9, slots := Array.replicate _ (.int 0), vm := .none } : Cell) = _; rw [arrV_new]; rfl) dX14_init_138 (fun o_68 rr_69 cy_70 H_71 hinj hnot hK hP hD hS => ?_)
  have hP := hP.sub (ws' := [(h0, .inr (18, [.int 0, .ref o_1, .ref o_8, .ref o_15, .ref o_22, .ref o_29, .ref o_36, .int 0, .int 3, .int 12, .ref o_46, .ref o_50, .ref o_53, .ref o_58, .ref o_63, .null])), (o_1, .inr (3, [.int 0, .ref z, (.int 0)])), (o_8, .inr (3, [.int 0, .ref z, (.int 0)])), (o_15, .inr (3, [.int 0, .ref z, (.int 0)])), (o_22, .inr (3, [.int 0, .ref z, (.int 0)])), (o_29, .inr (3, [.int 0, .ref z, (.int 0)])), (o_36, .inr (3, [.int 0, .ref z, (.int 0)])), (o_46, .inl (cy_45, 20, .inl (fun _ => 0))), (o_50, .inl (cy_49, 20, .inl (fun _ => 0))), (o_53, .inl (cy_55, 20, .inr (.inr (.inr (.inr (fun i => if i < 20 then some (rr_54 i) else none)))))), (o_58, .inl (cy_60, 20, .inr (.inr (.inr (.inr (fun i => if i < 20 then some (rr_59 i) else none)))))), (o_63, .inl (cy_65, 12, .inr (.inr (.inr (.inr (fun i => if i < 12 then some (rr_64 i) else none)))))), (o_68, .inl (cy_70, 12, .inr (.inr (.inr (.inr (fun i => if i < 12 then some (rr_69 i) else none))))))]) [0, 1, 2, 3, 4, 5, 6, 7, 8, 9, 10, 11, 12] rfl
  have hD := hD.sub (ws' := [(h0, .inr (18, [.int 0, .ref o_1, .ref o_8, .ref o_15, .ref o_22, .ref o_29, .ref o_36, .int 0, .int 3, .int 12, .ref o_46, .ref o_50, .ref o_53, .ref o_58, .ref o_63, .null])), (o_1, .inr (3, [.int 0, .ref z, (.int 0)])), (o_8, .inr (3, [.int 0, .ref z, (.int 0)])), (o_15, .inr (3, [.int 0, .ref z, (.int 0)])), (o_22, .inr (3, [.int 0, .ref z, (.int 0)])), (o_29, .inr (3, [.int 0, .ref z, (.int 0)])), (o_36, .inr (3, [.int 0, .ref z, (.int 0)])), (o_46, .inl (cy_45, 20, .inl (fun _ => 0))), (o_50, .inl (cy_49, 20, .inl (fun _ => 0))), (o_53, .inl (cy_55, 20, .inr (.inr (.inr (.inr (fun i => if i < 20 then some (rr_54 i) else none)))))), (o_58, .inl (cy_60, 20, .inr (.inr (.inr (.inr (fun i => if i < 20 then some (rr_59 i) else none)))))), (o_63, .inl (cy_65, 12, .inr (.inr (.inr (.inr (fun i => if i < 12 then some (rr_64 i) else none)))))), (o_68, .inl (cy_70, 12, .inr (.inr (.inr (.inr (fun i => if i < 12 then some (rr_69 i) else none))))))]) [0, 1, 2, 3, 4, 5, 6, 7, 8, 9, 10, 11, 12] (by decide) rfl
  have hP : va_P G vwCl ([(h0, .inr (18, [.int 0, .ref o_1, .ref o_8, .ref o_15, .ref o_22, .ref o_29, .ref o_36, .int 0, .int 3, .int 12, .ref o_46, .ref o_50, .ref o_53, .ref o_58, .ref o_63, .null])), (o_1, .inr (3, [.int 0, .ref z, (.int 0)])), (o_8, .inr (3, [.int 0, .ref z, (.int 0)])), (o_15, .inr (3, [.int 0, .ref z, (.int 0)])), (o_22, .inr (3, [.int 0, .ref z, (.int 0)])), (o_29, .inr (3, [.int 0, .ref z, (.int 0)])), (o_36, .inr (3, [.int 0, .ref z, (.int 0)])), (o_46, .inl (cy_45, 20, .inl (fun _ => 0))), (o_50, .inl (cy_49, 20, .inl (fun _ => 0))), (o_53, .inl (cy_55, 20, .inr (.inr (.inr (.inr (fun i => if i < 20 then some (rr_54 i) else none)))))), (o_58, .inl (cy_60, 20, .inr (.inr (.inr (.inr (fun i => if i < 20 then some (rr_59 i) else none)))))), (o_63, .inl (cy_65, 12, .inr (.inr (.inr (.inr (fun i => if i < 12 then some (rr_64 i) else none)))))), (o_68, .inl (cy_70, 12, .inr (.inr (.inr (.inr (fun i => if i < 12 then some (rr_69 i) else none))))))]) H_71 := hP
  have hD : va_D A ([(h0, .inr (18, [.int 0, .ref o_1, .ref o_8, .ref o_15, .ref o_22, .ref o_29, .ref o_36, .int 0, .int 3, .int 12, .ref o_46, .ref o_50, .ref o_53, .ref o_58, .ref o_63, .null])), (o_1, .inr (3, [.int 0, .ref z, (.int 0)])), (o_8, .inr (3, [.int 0, .ref z, (.int 0)])), (o_15, .inr (3, [.int 0, .ref z, (.int 0)])), (o_22, .inr (3, [.int 0, .ref z, (.int 0)])), (o_29, .inr (3, [.int 0, .ref z, (.int 0)])), (o_36, .inr (3, [.int 0, .ref z, (.int 0)])), (o_46, .inl (cy_45, 20, .inl (fun _ => 0))), (o_50, .inl (cy_49, 20, .inl (fun _ => 0))), (o_53, .inl (cy_55, 20, .inr (.inr (.inr (.inr (fun i => if i < 20 then some (rr_54 i) else none)))))), (o_58, .inl (cy_60, 20, .inr (.inr (.inr (.inr (fun i => if i < 20 then some (rr_59 i) else none)))))), (o_63, .inl (cy_65, 12, .inr (.inr (.inr (.inr (fun i => if i < 12 then some (rr_64 i) else none)))))), (o_68, .inl (cy_70, 12, .inr (.inr (.inr (.inr (fun i => if i < 12 then some (rr_69 i) else none))))))]) := hD
  have hK : va_K G vwCl [(cy_45, .int), (cy_49, .int), (cy_55, .array .int), (cy_60, .array .int), (cy_65, .array .int), (cy_70, .array .int)] s := hK
  refine W.widen (k := 76) (n := 866) (Nat.le_of_ble_eq_true rfl) (Nat.le_of_ble_eq_true rfl) ?_
  refine va_putF (D := G) (ci := 18) (v := .ref o_68) (ty := .array (.array (.int))) (C := RX14) (T := TX14) (N := 16) hx hb hg in_X14 tyX14 tyX14_ok nmX14 hown hK hP hD hS 0 rfl rfl 15 (by decide) (hg _ q1202) (fun _ h9 => h9) rfl hin rfl (by decide +kernel) rfl rfl (Nat.le_of_ble_eq_true rfl) dX14_init_142 (fun H_72 locs hP hD hS => ?_)
  have hP : va_P G vwCl ([(h0, .inr (18, [.int 0, .ref o_1, .ref o_8, .ref o_15, .ref o_22, .ref o_29, .ref o_36, .int 0, .int 3, .int 12, .ref o_46, .ref o_50, .ref o_53, .ref o_58, .ref o_63, .ref o_68])), (o_1, .inr (3, [.int 0, .ref z, (.int 0)])), (o_8, .inr (3, [.int 0, .ref z, (.int 0)])), (o_15, .inr (3, [.int 0, .ref z, (.int 0)])), (o_22, .inr (3, [.int 0, .ref z, (.int 0)])), (o_29, .inr (3, [.int 0, .ref z, (.int 0)])), (o_36, .inr (3, [.int 0, .ref z, (.int 0)])), (o_46, .inl (cy_45, 20, .inl (fun _ => 0))), (o_50, .inl (cy_49, 20, .inl (fun _ => 0))), (o_53, .inl (cy_55, 20, .inr (.inr (.inr (.inr (fun i => if i < 20 then some (rr_54 i) else none)))))), (o_58, .inl (cy_60, 20, .inr (.inr (.inr (.inr (fun i => if i < 20 then some (rr_59 i) else none)))))), (o_63, .inl (cy_65, 12, .inr (.inr (.inr (.inr (fun i => if i < 12 then some (rr_64 i) else none)))))), (o_68, .inl (cy_70, 12, .inr (.inr (.inr (.inr (fun i => if i < 12 then some (rr_69 i) else none))))))]) H_72 := hP
  have hD : va_D A ([(h0, .inr (18, [.int 0, .ref o_1, .ref o_8, .ref o_15, .ref o_22, .ref o_29, .ref o_36, .int 0, .int 3, .int 12, .ref o_46, .ref o_50, .ref o_53, .ref o_58, .ref o_63, .ref o_68])), (o_1, .inr (3, [.int 0, .ref z, (.int 0)])), (o_8, .inr (3, [.int 0, .ref z, (.int 0)])), (o_15, .inr (3, [.int 0, .ref z, (.int 0)])), (o_22, .inr (3, [.int 0, .ref z, (.int 0)])), (o_29, .inr (3, [.int 0, .ref z, (.int 0)])), (o_36, .inr (3, [.int 0, .ref z, (.int 0)])), (o_46, .inl (cy_45, 20, .inl (fun _ => 0))), (o_50, .inl (cy_49, 20, .inl (fun _ => 0))), (o_53, .inl (cy_55, 20, .inr (.inr (.inr (.inr (fun i => if i < 20 then some (rr_54 i) else none)))))), (o_58, .inl (cy_60, 20, .inr (.inr (.inr (.inr (fun i => if i < 20 then some (rr_59 i) else none)))))), (o_63, .inl (cy_65, 12, .inr (.inr (.inr (.inr (fun i => if i < 12 then some (rr_64 i) else none)))))), (o_68, .inl (cy_70, 12, .inr (.inr (.inr (.inr (fun i => if i < 12 then some (rr_69 i) else none))))))]) := hD
  refine W.widen (k := 76) (n := 866) (Nat.le_of_ble_eq_true rfl) (Nat.le_of_ble_eq_true rfl) ?_
  have hP9 := hP.sub (ws' := [(h0, .inr (18, [.int 0, .ref o_1, .ref o_8, .ref o_15, .ref o_22, .ref o_29, .ref o_36, .int 0, .int 3, .int 12, .ref o_46, .ref o_50, .ref o_53, .ref o_58, .ref o_63, .ref o_68])), (o_1, .inr (3, [.int 0, .ref z, .int 0])), (o_8, .inr (3, [.int 0, .ref z, .int 0])), (o_15, .inr (3, [.int 0, .ref z, .int 0])), (o_22, .inr (3, [.int 0, .ref z, .int 0])), (o_29, .inr (3, [.int 0, .ref z, .int 0])), (o_36, .inr (3, [.int 0, .ref z, .int 0]))]) [0, 1, 2, 3, 4, 5, 6] rfl
  have hD9 := hD.sub (ws' := [(h0, .inr (18, [.int 0, .ref o_1, .ref o_8, .ref o_15, .ref o_22, .ref o_29, .ref o_36, .int 0, .int 3, .int 12, .ref o_46, .ref o_50, .ref o_53, .ref o_58, .ref o_63, .ref o_68])), (o_1, .inr (3, [.int 0, .ref z, .int 0])), (o_8, .inr (3, [.int 0, .ref z, .int 0])), (o_15, .inr (3, [.int 0, .ref z, .int 0])), (o_22, .inr (3, [.int 0, .ref z, .int 0])), (o_29, .inr (3, [.int 0, .ref z, .int 0])), (o_36, .inr (3, [.int 0, .ref z, .int 0]))]) [0, 1, 2, 3, 4, 5, 6] (by decide) rfl
  have hK9 := hK.sub (tys' := []) [] rfl
  exact W.vret hx hb hr (fun t ht hW => ⟨⟨(), rfl, trivial, ⟨o_1, o_8, o_15, o_22, o_29, o_36, o_46, o_50, o_53, o_58, o_63, o_68, QW.of hP9 hK9 hD9 ht hW.alike⟩⟩, hS.F ht⟩) hS.2.2 dX14_init_145
