theorem mmax_lX629 : Cond.methodLink "Watermarkmill$Repertory" 29 Lib.Math.max.name ∈ lw_good := lw_in (i := 1039) (by decide +kernel) (by decide +kernel)
theorem mmin_lX635 : Cond.methodLink "Watermarkmill$Repertory" 35 Lib.Math.min.name ∈ lw_good := lw_in (i := 1040) (by decide +kernel) (by decide +kernel)
theorem q1031 : Cond.code yX8_merge prog_1_method_30_code 5 (Option.some Jvm.ClassFile.FieldType.boolean) ∈ lw_good := lw_in (i := 1031) (by decide +kernel) (by decide +kernel)
theorem q1032 : Cond.methodLink "Watermarkmill" 298 yX8_checkEntry ∈ lw_good := lw_in (i := 1032) (by decide +kernel) (by decide +kernel)
theorem q1033 : Cond.static yX8_checkEntry ∈ lw_good := lw_in (i := 1033) (by decide +kernel) (by decide +kernel)
theorem q1035 : Cond.methodLink "Watermarkmill" 301 yX6_join ∈ lw_good := lw_in (i := 1035) (by decide +kernel) (by decide +kernel)
theorem q1036 : Cond.instanceMethod yX6_join ∈ lw_good := lw_in (i := 1036) (by decide +kernel) (by decide +kernel)
theorem q1037 : Cond.selects "Watermarkmill$Repertory" yX6_join yX6_join ∈ lw_good := lw_in (i := 1037) (by decide +kernel) (by decide +kernel)
theorem q1038 : Cond.code yX6_join prog_8_method_3_code 6 (Option.some Jvm.ClassFile.FieldType.boolean) ∈ lw_good := lw_in (i := 1038) (by decide +kernel) (by decide +kernel)
theorem q1059 : Cond.code yX8_entry prog_1_method_32_code 3 (Option.some Jvm.ClassFile.FieldType.int) ∈ lw_good := lw_in (i := 1059) (by decide +kernel) (by decide +kernel)
theorem q1060 : Cond.methodLink "Watermarkmill" 313 yX6_lowestOf ∈ lw_good := lw_in (i := 1060) (by decide +kernel) (by decide +kernel)
theorem q16 : Cond.initialized "java/util/Arrays" ∈ lw_good := lw_in (i := 16) (by decide +kernel) (by decide +kernel)
theorem q205 : Cond.code yX8_clashes prog_1_method_33_code 3 (Option.some Jvm.ClassFile.FieldType.int) ∈ lw_good := lw_in (i := 205) (by decide +kernel) (by decide +kernel)
theorem q206 : Cond.methodLink "Watermarkmill" 316 yX6_clashesAmong ∈ lw_good := lw_in (i := 206) (by decide +kernel) (by decide +kernel)
theorem q207 : Cond.instanceMethod yX6_clashesAmong ∈ lw_good := lw_in (i := 207) (by decide +kernel) (by decide +kernel)
theorem q208 : Cond.selects "Watermarkmill$Repertory" yX6_clashesAmong yX6_clashesAmong ∈ lw_good := lw_in (i := 208) (by decide +kernel) (by decide +kernel)
theorem q209 : Cond.code yX6_clashesAmong prog_8_method_5_code 6 (Option.some Jvm.ClassFile.FieldType.int) ∈ lw_good := lw_in (i := 209) (by decide +kernel) (by decide +kernel)
theorem q210 : Cond.methodLink "Watermarkmill$Repertory" 38 yJ7_fill_53178 ∈ lw_good := lw_in (i := 210) (by decide +kernel) (by decide +kernel)
theorem q211 : Cond.static yJ7_fill_53178 ∈ lw_good := lw_in (i := 211) (by decide +kernel) (by decide +kernel)
theorem q212 : Cond.code yJ7_fill_53178 prog_36_method_103_code 4 (Option.none : Option Jvm.ClassFile.FieldType) ∈ lw_good := lw_in (i := 212) (by decide +kernel) (by decide +kernel)
theorem q213 : Cond.methodLink "Watermarkmill$Repertory" 25 yX6_lowestOf ∈ lw_good := lw_in (i := 213) (by decide +kernel) (by decide +kernel)
theorem q214 : Cond.instanceMethod yX6_lowestOf ∈ lw_good := lw_in (i := 214) (by decide +kernel) (by decide +kernel)
theorem q215 : Cond.selects "Watermarkmill$Repertory" yX6_lowestOf yX6_lowestOf ∈ lw_good := lw_in (i := 215) (by decide +kernel) (by decide +kernel)
theorem q216 : Cond.code yX6_lowestOf prog_8_method_2_code 4 (Option.some Jvm.ClassFile.FieldType.int) ∈ lw_good := lw_in (i := 216) (by decide +kernel) (by decide +kernel)
theorem q5 : Cond.initialized "Watermarkmill$Repertory" ∈ lw_good := lw_in (i := 5) (by decide +kernel) (by decide +kernel)
theorem q80 : Cond.fieldLink "Watermarkmill$Repertory" 9 "Watermarkmill$Repertory" "above" "[I" ∈ lw_good := lw_in (i := 80) (by decide +kernel) (by decide +kernel)
theorem q81 : Cond.fieldLink "Watermarkmill$Repertory" 15 "Watermarkmill$Repertory" "linked" "[I" ∈ lw_good := lw_in (i := 81) (by decide +kernel) (by decide +kernel)
theorem q82 : Cond.fieldLink "Watermarkmill$Repertory" 18 "Watermarkmill$Repertory" "tally" "[I" ∈ lw_good := lw_in (i := 82) (by decide +kernel) (by decide +kernel)
theorem q83 : Cond.fieldLink "Watermarkmill$Repertory" 21 "Watermarkmill$Repertory" "mergings" "I" ∈ lw_good := lw_in (i := 83) (by decide +kernel) (by decide +kernel)
theorem dJ7_fill_53178_0 : decode cJ7_fill_53178 0 = .ok (.iconst 0, 1) := by decide +kernel
theorem dJ7_fill_53178_1 : decode cJ7_fill_53178 1 = .ok (.istore_n 2, 1) := by decide +kernel
theorem dJ7_fill_53178_10 : decode cJ7_fill_53178 10 = .ok (.aload_n 0, 1) := by decide +kernel
theorem dJ7_fill_53178_11 : decode cJ7_fill_53178 11 = .ok (.iload_n 2, 1) := by decide +kernel
theorem dJ7_fill_53178_12 : decode cJ7_fill_53178 12 = .ok (.iload_n 1, 1) := by decide +kernel
theorem dJ7_fill_53178_13 : decode cJ7_fill_53178 13 = .ok (.iastore, 1) := by decide +kernel
theorem dJ7_fill_53178_14 : decode cJ7_fill_53178 14 = .ok (.iinc 2 1, 3) := by decide +kernel
theorem dJ7_fill_53178_17 : decode cJ7_fill_53178 17 = .ok (.goto (-12), 3) := by decide +kernel
theorem dJ7_fill_53178_2 : decode cJ7_fill_53178 2 = .ok (.aload_n 0, 1) := by decide +kernel
theorem dJ7_fill_53178_20 : decode cJ7_fill_53178 20 = .ok (.return_, 1) := by decide +kernel
theorem dJ7_fill_53178_3 : decode cJ7_fill_53178 3 = .ok (.arraylength, 1) := by decide +kernel
theorem dJ7_fill_53178_4 : decode cJ7_fill_53178 4 = .ok (.istore_n 3, 1) := by decide +kernel
theorem dJ7_fill_53178_5 : decode cJ7_fill_53178 5 = .ok (.iload_n 2, 1) := by decide +kernel
theorem dJ7_fill_53178_6 : decode cJ7_fill_53178 6 = .ok (.iload_n 3, 1) := by decide +kernel
theorem dJ7_fill_53178_7 : decode cJ7_fill_53178 7 = .ok (.if_icmp .ge 13, 3) := by decide +kernel
theorem dX6_clashesAmong_0 : decode cX6_clashesAmong 0 = .ok (.aload_n 0, 1) := by decide +kernel
theorem dX6_clashesAmong_1 : decode cX6_clashesAmong 1 = .ok (.getfield 18, 3) := by decide +kernel
theorem dX6_clashesAmong_10 : decode cX6_clashesAmong 10 = .ok (.iload_n 1, 1) := by decide +kernel
theorem dX6_clashesAmong_11 : decode cX6_clashesAmong 11 = .ok (.istore 4, 2) := by decide +kernel
theorem dX6_clashesAmong_13 : decode cX6_clashesAmong 13 = .ok (.iload 4, 2) := by decide +kernel
theorem dX6_clashesAmong_15 : decode cX6_clashesAmong 15 = .ok (.iload_n 2, 1) := by decide +kernel
theorem dX6_clashesAmong_16 : decode cX6_clashesAmong 16 = .ok (.if_icmp .ge 62, 3) := by decide +kernel
theorem dX6_clashesAmong_19 : decode cX6_clashesAmong 19 = .ok (.aload_n 0, 1) := by decide +kernel
theorem dX6_clashesAmong_20 : decode cX6_clashesAmong 20 = .ok (.iload 4, 2) := by decide +kernel
theorem dX6_clashesAmong_22 : decode cX6_clashesAmong 22 = .ok (.invokevirtual 25, 3) := by decide +kernel
theorem dX6_clashesAmong_25 : decode cX6_clashesAmong 25 = .ok (.istore 5, 2) := by decide +kernel
theorem dX6_clashesAmong_27 : decode cX6_clashesAmong 27 = .ok (.aload_n 0, 1) := by decide +kernel
theorem dX6_clashesAmong_28 : decode cX6_clashesAmong 28 = .ok (.getfield 18, 3) := by decide +kernel
theorem dX6_clashesAmong_31 : decode cX6_clashesAmong 31 = .ok (.iload 5, 2) := by decide +kernel
theorem dX6_clashesAmong_33 : decode cX6_clashesAmong 33 = .ok (.dup2, 1) := by decide +kernel
theorem dX6_clashesAmong_34 : decode cX6_clashesAmong 34 = .ok (.iaload, 1) := by decide +kernel
theorem dX6_clashesAmong_35 : decode cX6_clashesAmong 35 = .ok (.iconst 1, 1) := by decide +kernel
theorem dX6_clashesAmong_36 : decode cX6_clashesAmong 36 = .ok (.iadd, 1) := by decide +kernel
theorem dX6_clashesAmong_37 : decode cX6_clashesAmong 37 = .ok (.iastore, 1) := by decide +kernel
theorem dX6_clashesAmong_38 : decode cX6_clashesAmong 38 = .ok (.iload_n 3, 1) := by decide +kernel
theorem dX6_clashesAmong_39 : decode cX6_clashesAmong 39 = .ok (.aload_n 0, 1) := by decide +kernel
theorem dX6_clashesAmong_4 : decode cX6_clashesAmong 4 = .ok (.iconst 0, 1) := by decide +kernel
theorem dX6_clashesAmong_40 : decode cX6_clashesAmong 40 = .ok (.getfield 18, 3) := by decide +kernel
theorem dX6_clashesAmong_43 : decode cX6_clashesAmong 43 = .ok (.iload 5, 2) := by decide +kernel
theorem dX6_clashesAmong_45 : decode cX6_clashesAmong 45 = .ok (.iaload, 1) := by decide +kernel
theorem dX6_clashesAmong_46 : decode cX6_clashesAmong 46 = .ok (.iconst 1, 1) := by decide +kernel
theorem dX6_clashesAmong_47 : decode cX6_clashesAmong 47 = .ok (.if_icmp .ne 7, 3) := by decide +kernel
theorem dX6_clashesAmong_5 : decode cX6_clashesAmong 5 = .ok (.invokestatic 38, 3) := by decide +kernel
theorem dX6_clashesAmong_50 : decode cX6_clashesAmong 50 = .ok (.iconst 0, 1) := by decide +kernel
theorem dX6_clashesAmong_51 : decode cX6_clashesAmong 51 = .ok (.goto 19, 3) := by decide +kernel
theorem dX6_clashesAmong_70 : decode cX6_clashesAmong 70 = .ok (.iadd, 1) := by decide +kernel
theorem dX6_clashesAmong_71 : decode cX6_clashesAmong 71 = .ok (.istore_n 3, 1) := by decide +kernel
theorem dX6_clashesAmong_72 : decode cX6_clashesAmong 72 = .ok (.iinc 4 1, 3) := by decide +kernel
theorem dX6_clashesAmong_75 : decode cX6_clashesAmong 75 = .ok (.goto (-62), 3) := by decide +kernel
theorem dX6_clashesAmong_78 : decode cX6_clashesAmong 78 = .ok (.iload_n 3, 1) := by decide +kernel
theorem dX6_clashesAmong_79 : decode cX6_clashesAmong 79 = .ok (.ireturn, 1) := by decide +kernel
theorem dX6_clashesAmong_8 : decode cX6_clashesAmong 8 = .ok (.iconst 0, 1) := by decide +kernel
theorem dX6_clashesAmong_9 : decode cX6_clashesAmong 9 = .ok (.istore_n 3, 1) := by decide +kernel
theorem dX6_join_0 : decode cX6_join 0 = .ok (.aload_n 0, 1) := by decide +kernel
theorem dX6_join_1 : decode cX6_join 1 = .ok (.iload_n 1, 1) := by decide +kernel
theorem dX6_join_11 : decode cX6_join 11 = .ok (.istore 4, 2) := by decide +kernel
theorem dX6_join_13 : decode cX6_join 13 = .ok (.aload_n 0, 1) := by decide +kernel
theorem dX6_join_14 : decode cX6_join 14 = .ok (.getfield 21, 3) := by decide +kernel
theorem dX6_join_17 : decode cX6_join 17 = .ok (.sipush 512, 3) := by decide +kernel
theorem dX6_join_2 : decode cX6_join 2 = .ok (.invokevirtual 25, 3) := by decide +kernel
theorem dX6_join_20 : decode cX6_join 20 = .ok (.if_icmp .ge 61, 3) := by decide +kernel
theorem dX6_join_23 : decode cX6_join 23 = .ok (.iload_n 3, 1) := by decide +kernel
theorem dX6_join_24 : decode cX6_join 24 = .ok (.iload 4, 2) := by decide +kernel
theorem dX6_join_26 : decode cX6_join 26 = .ok (.if_icmp .ne 7, 3) := by decide +kernel
theorem dX6_join_29 : decode cX6_join 29 = .ok (.iconst (-1), 1) := by decide +kernel
theorem dX6_join_30 : decode cX6_join 30 = .ok (.goto 9, 3) := by decide +kernel
theorem dX6_join_33 : decode cX6_join 33 = .ok (.iload_n 3, 1) := by decide +kernel
theorem dX6_join_34 : decode cX6_join 34 = .ok (.iload 4, 2) := by decide +kernel
theorem dX6_join_36 : decode cX6_join 36 = .ok (.invokestatic 29, 3) := by decide +kernel
theorem dX6_join_39 : decode cX6_join 39 = .ok (.istore 5, 2) := by decide +kernel
theorem dX6_join_41 : decode cX6_join 41 = .ok (.iload 5, 2) := by decide +kernel
theorem dX6_join_43 : decode cX6_join 43 = .ok (.iconst (-1), 1) := by decide +kernel
theorem dX6_join_44 : decode cX6_join 44 = .ok (.if_icmp .eq 16, 3) := by decide +kernel
theorem dX6_join_47 : decode cX6_join 47 = .ok (.aload_n 0, 1) := by decide +kernel
theorem dX6_join_48 : decode cX6_join 48 = .ok (.getfield 9, 3) := by decide +kernel
theorem dX6_join_5 : decode cX6_join 5 = .ok (.istore_n 3, 1) := by decide +kernel
theorem dX6_join_51 : decode cX6_join 51 = .ok (.iload 5, 2) := by decide +kernel
theorem dX6_join_53 : decode cX6_join 53 = .ok (.iload_n 3, 1) := by decide +kernel
theorem dX6_join_54 : decode cX6_join 54 = .ok (.iload 4, 2) := by decide +kernel
theorem dX6_join_56 : decode cX6_join 56 = .ok (.invokestatic 35, 3) := by decide +kernel
theorem dX6_join_59 : decode cX6_join 59 = .ok (.iastore, 1) := by decide +kernel
theorem dX6_join_6 : decode cX6_join 6 = .ok (.aload_n 0, 1) := by decide +kernel
theorem dX6_join_60 : decode cX6_join 60 = .ok (.aload_n 0, 1) := by decide +kernel
theorem dX6_join_61 : decode cX6_join 61 = .ok (.getfield 15, 3) := by decide +kernel
theorem dX6_join_64 : decode cX6_join 64 = .ok (.aload_n 0, 1) := by decide +kernel
theorem dX6_join_65 : decode cX6_join 65 = .ok (.getfield 21, 3) := by decide +kernel
theorem dX6_join_68 : decode cX6_join 68 = .ok (.iload 5, 2) := by decide +kernel
theorem dX6_join_7 : decode cX6_join 7 = .ok (.iload_n 2, 1) := by decide +kernel
theorem dX6_join_70 : decode cX6_join 70 = .ok (.iastore, 1) := by decide +kernel
theorem dX6_join_71 : decode cX6_join 71 = .ok (.aload_n 0, 1) := by decide +kernel
theorem dX6_join_72 : decode cX6_join 72 = .ok (.dup, 1) := by decide +kernel
theorem dX6_join_73 : decode cX6_join 73 = .ok (.getfield 21, 3) := by decide +kernel
theorem dX6_join_76 : decode cX6_join 76 = .ok (.iconst 1, 1) := by decide +kernel
theorem dX6_join_77 : decode cX6_join 77 = .ok (.iadd, 1) := by decide +kernel
theorem dX6_join_78 : decode cX6_join 78 = .ok (.putfield 21, 3) := by decide +kernel
theorem dX6_join_8 : decode cX6_join 8 = .ok (.invokevirtual 25, 3) := by decide +kernel
theorem dX6_join_81 : decode cX6_join 81 = .ok (.iload_n 3, 1) := by decide +kernel
theorem dX6_join_82 : decode cX6_join 82 = .ok (.iload 4, 2) := by decide +kernel
theorem dX6_join_84 : decode cX6_join 84 = .ok (.if_icmp .eq 7, 3) := by decide +kernel
theorem dX6_join_87 : decode cX6_join 87 = .ok (.iconst 1, 1) := by decide +kernel
theorem dX6_join_88 : decode cX6_join 88 = .ok (.goto 4, 3) := by decide +kernel
theorem dX6_join_91 : decode cX6_join 91 = .ok (.iconst 0, 1) := by decide +kernel
theorem dX6_join_92 : decode cX6_join 92 = .ok (.ireturn, 1) := by decide +kernel
theorem dX6_lowestOf_0 : decode cX6_lowestOf 0 = .ok (.iload_n 1, 1) := by decide +kernel
theorem dX6_lowestOf_1 : decode cX6_lowestOf 1 = .ok (.istore_n 2, 1) := by decide +kernel
theorem dX6_lowestOf_11 : decode cX6_lowestOf 11 = .ok (.aload_n 0, 1) := by decide +kernel
theorem dX6_lowestOf_12 : decode cX6_lowestOf 12 = .ok (.getfield 9, 3) := by decide +kernel
theorem dX6_lowestOf_15 : decode cX6_lowestOf 15 = .ok (.iload_n 2, 1) := by decide +kernel
theorem dX6_lowestOf_16 : decode cX6_lowestOf 16 = .ok (.iaload, 1) := by decide +kernel
theorem dX6_lowestOf_17 : decode cX6_lowestOf 17 = .ok (.iload_n 2, 1) := by decide +kernel
theorem dX6_lowestOf_18 : decode cX6_lowestOf 18 = .ok (.if_icmp .eq 16, 3) := by decide +kernel
theorem dX6_lowestOf_2 : decode cX6_lowestOf 2 = .ok (.iconst 0, 1) := by decide +kernel
theorem dX6_lowestOf_3 : decode cX6_lowestOf 3 = .ok (.istore_n 3, 1) := by decide +kernel
theorem dX6_lowestOf_34 : decode cX6_lowestOf 34 = .ok (.iload_n 2, 1) := by decide +kernel
theorem dX6_lowestOf_35 : decode cX6_lowestOf 35 = .ok (.ireturn, 1) := by decide +kernel
theorem dX6_lowestOf_4 : decode cX6_lowestOf 4 = .ok (.iload_n 3, 1) := by decide +kernel
theorem dX6_lowestOf_5 : decode cX6_lowestOf 5 = .ok (.sipush 400, 3) := by decide +kernel
theorem dX6_lowestOf_8 : decode cX6_lowestOf 8 = .ok (.if_icmp .ge 26, 3) := by decide +kernel
theorem dX8_clashes_0 : decode cX8_clashes 0 = .ok (.iconst 0, 1) := by decide +kernel
theorem dX8_clashes_1 : decode cX8_clashes 1 = .ok (.istore_n 1, 1) := by decide +kernel
theorem dX8_clashes_10 : decode cX8_clashes 10 = .ok (.aload_n 0, 1) := by decide +kernel
theorem dX8_clashes_11 : decode cX8_clashes 11 = .ok (.getfield 31, 3) := by decide +kernel
theorem dX8_clashes_14 : decode cX8_clashes 14 = .ok (.bipush 100, 2) := by decide +kernel
theorem dX8_clashes_16 : decode cX8_clashes 16 = .ok (.iload_n 2, 1) := by decide +kernel
theorem dX8_clashes_17 : decode cX8_clashes 17 = .ok (.imul, 1) := by decide +kernel
theorem dX8_clashes_18 : decode cX8_clashes 18 = .ok (.bipush 100, 2) := by decide +kernel
theorem dX8_clashes_2 : decode cX8_clashes 2 = .ok (.iconst 0, 1) := by decide +kernel
theorem dX8_clashes_20 : decode cX8_clashes 20 = .ok (.iload_n 2, 1) := by decide +kernel
theorem dX8_clashes_21 : decode cX8_clashes 21 = .ok (.imul, 1) := by decide +kernel
theorem dX8_clashes_22 : decode cX8_clashes 22 = .ok (.bipush 100, 2) := by decide +kernel
theorem dX8_clashes_24 : decode cX8_clashes 24 = .ok (.iadd, 1) := by decide +kernel
theorem dX8_clashes_25 : decode cX8_clashes 25 = .ok (.invokevirtual 316, 3) := by decide +kernel
theorem dX8_clashes_28 : decode cX8_clashes 28 = .ok (.iadd, 1) := by decide +kernel
theorem dX8_clashes_29 : decode cX8_clashes 29 = .ok (.istore_n 1, 1) := by decide +kernel
theorem dX8_clashes_3 : decode cX8_clashes 3 = .ok (.istore_n 2, 1) := by decide +kernel
theorem dX8_clashes_30 : decode cX8_clashes 30 = .ok (.iinc 2 1, 3) := by decide +kernel
theorem dX8_clashes_33 : decode cX8_clashes 33 = .ok (.goto (-29), 3) := by decide +kernel
theorem dX8_clashes_36 : decode cX8_clashes 36 = .ok (.iload_n 1, 1) := by decide +kernel
theorem dX8_clashes_37 : decode cX8_clashes 37 = .ok (.ireturn, 1) := by decide +kernel
theorem dX8_clashes_4 : decode cX8_clashes 4 = .ok (.iload_n 2, 1) := by decide +kernel
theorem dX8_clashes_5 : decode cX8_clashes 5 = .ok (.iconst 3, 1) := by decide +kernel
theorem dX8_clashes_6 : decode cX8_clashes 6 = .ok (.if_icmp .gt 30, 3) := by decide +kernel
theorem dX8_clashes_9 : decode cX8_clashes 9 = .ok (.iload_n 1, 1) := by decide +kernel
theorem dX8_entry_0 : decode cX8_entry 0 = .ok (.iload_n 1, 1) := by decide +kernel
theorem dX8_entry_1 : decode cX8_entry 1 = .ok (.iload_n 2, 1) := by decide +kernel
theorem dX8_entry_11 : decode cX8_entry 11 = .ok (.iload_n 1, 1) := by decide +kernel
theorem dX8_entry_12 : decode cX8_entry 12 = .ok (.imul, 1) := by decide +kernel
theorem dX8_entry_13 : decode cX8_entry 13 = .ok (.iload_n 2, 1) := by decide +kernel
theorem dX8_entry_14 : decode cX8_entry 14 = .ok (.iadd, 1) := by decide +kernel
theorem dX8_entry_15 : decode cX8_entry 15 = .ok (.invokevirtual 313, 3) := by decide +kernel
theorem dX8_entry_18 : decode cX8_entry 18 = .ok (.ireturn, 1) := by decide +kernel
theorem dX8_entry_2 : decode cX8_entry 2 = .ok (.invokestatic 298, 3) := by decide +kernel
theorem dX8_entry_5 : decode cX8_entry 5 = .ok (.aload_n 0, 1) := by decide +kernel
theorem dX8_entry_6 : decode cX8_entry 6 = .ok (.getfield 31, 3) := by decide +kernel
theorem dX8_entry_9 : decode cX8_entry 9 = .ok (.bipush 100, 2) := by decide +kernel
theorem dX8_merge_0 : decode cX8_merge 0 = .ok (.iload_n 1, 1) := by decide +kernel
theorem dX8_merge_1 : decode cX8_merge 1 = .ok (.iload_n 2, 1) := by decide +kernel
theorem dX8_merge_11 : decode cX8_merge 11 = .ok (.aload_n 0, 1) := by decide +kernel
theorem dX8_merge_12 : decode cX8_merge 12 = .ok (.getfield 31, 3) := by decide +kernel
theorem dX8_merge_15 : decode cX8_merge 15 = .ok (.bipush 100, 2) := by decide +kernel
theorem dX8_merge_17 : decode cX8_merge 17 = .ok (.iload_n 1, 1) := by decide +kernel
theorem dX8_merge_18 : decode cX8_merge 18 = .ok (.imul, 1) := by decide +kernel
theorem dX8_merge_19 : decode cX8_merge 19 = .ok (.iload_n 2, 1) := by decide +kernel
theorem dX8_merge_2 : decode cX8_merge 2 = .ok (.invokestatic 298, 3) := by decide +kernel
theorem dX8_merge_20 : decode cX8_merge 20 = .ok (.iadd, 1) := by decide +kernel
theorem dX8_merge_21 : decode cX8_merge 21 = .ok (.bipush 100, 2) := by decide +kernel
theorem dX8_merge_23 : decode cX8_merge 23 = .ok (.iload_n 3, 1) := by decide +kernel
theorem dX8_merge_24 : decode cX8_merge 24 = .ok (.imul, 1) := by decide +kernel
theorem dX8_merge_25 : decode cX8_merge 25 = .ok (.iload 4, 2) := by decide +kernel
theorem dX8_merge_27 : decode cX8_merge 27 = .ok (.iadd, 1) := by decide +kernel
theorem dX8_merge_28 : decode cX8_merge 28 = .ok (.invokevirtual 301, 3) := by decide +kernel
theorem dX8_merge_31 : decode cX8_merge 31 = .ok (.ireturn, 1) := by decide +kernel
theorem dX8_merge_5 : decode cX8_merge 5 = .ok (.iload_n 3, 1) := by decide +kernel
theorem dX8_merge_6 : decode cX8_merge 6 = .ok (.iload 4, 2) := by decide +kernel
theorem dX8_merge_8 : decode cX8_merge 8 = .ok (.invokestatic 298, 3) := by decide +kernel
abbrev wz_X6_lowestOf : List Cond := .code yX6_lowestOf cX6_lowestOf 4 (Option.some Jvm.ClassFile.FieldType.int) :: lw_good
set_option maxHeartbeats 4000000 in
set_option maxRecDepth 100000 in
/-- lowestOf: nothing is merged -/
theorem k_X6_lowestOf (l : Launch) (G : va_G) (z : Nat) (h0 : Nat) (b1 : Nat) (b2 : Nat) (b3 : Nat) (cyA : ClassId) (p0 : Int32) (sz : Nat) (he : vp_in p0 400) : Met l yX6_lowestOf wz_X6_lowestOf ({ frames := 0, cells := 0, slots := 0, locals := 0 }) (va_Pc [.ref h0, .int p0] (PR G z [(h0, .inr (10, [.ref b1, .ref b2, .ref b3, .int 0])), (b1, .inl (cyA, 400, .inl (nI)))] [(cyA, .int)] sz)) (va_Qi (fun (r : Int32) (_ : Unit) => r = p0) (fun (_ : Unit) (_ : State) => True) (zN sz)) 0 0 (zN sz) := by
  refine Met.ofW (cc := cX6_lowestOf) (maxL := 4) (ret := (Option.some Jvm.ClassFile.FieldType.int)) (by decide) rfl ?_
  intro p e s m args below meth c s₁ B hml hv
  obtain ⟨rfl, rfl, hP, hK, hG⟩ := hv
  have hx := B.exec
  have hb := B.bytes
  have hr := B.returns
  have hts := atoms_spec (ws := wz_X6_lowestOf) B.pre
  have hg : ∀ w ∈ lw_good, w.before _ s = true := fun w h => hts w (List.mem_cons_of_mem _ h)
  have hown : s.vm.findClass RX6 = some m.cls := findClass_of_methodNamed B.named
  have hlocks := B.notSynchronized
  have hA : ∀ q : Nat, s.heap.size ≤ q → zN s.heap.size q := fun _ h => h
  have hS : va_S (zN s.heap.size) s.heap s.heap [] := va_S.rf
  have hl := lv_entry ([.ref h0, .int p0]) (n := 4) (Nat.le_of_ble_eq_true rfl)
  rw [lg_entry_eq]
  generalize (lg_sl ([.ref h0, .int p0]) ++ List.replicate (4 - (lg_sl ([.ref h0, .int p0])).length) Slot.unset).toArray = ls at hl ⊢
  have hl : lv_has ls 4 [(0, .ref h0), (1, .int p0)] := hl
  refine lv_iload_n hx hb dX6_lowestOf_0 rfl (lv_at hl 1 rfl) ?_
  refine lv_istore_n (lv' := [(2, .int p0), (0, .ref h0), (1, .int p0)]) hx hb dX6_lowestOf_1 rfl hl (by decide) rfl (fun ls hl => ?_)
  refine lv_iconst (v := 0) hx hb dX6_lowestOf_2 (by decide) ?_
  refine lv_istore_n (lv' := [(3, .int 0), (2, .int p0), (0, .ref h0), (1, .int p0)]) hx hb dX6_lowestOf_3 rfl hl (by decide) rfl (fun ls hl => ?_)
  refine lv_iload_n hx hb dX6_lowestOf_4 rfl (lv_at hl 0 rfl) ?_
  refine lv_sipush (v := 400) hx hb dX6_lowestOf_5 (by decide) ?_
  refine lv_icmp_ge (tgt := 34) hx hb dX6_lowestOf_8 (by decide) (fun c_1 => absurd c_1 (by decide)) (fun c_1 => ?_)
  refine lv_aload_n hx hb dX6_lowestOf_11 rfl (lv_at hl 2 rfl) ?_
  refine va_get (D := G) (ci := 10) (v := .ref b1) (C := RX6) (T := TX6) (N := 4) hx hb hg in_X6 hown hK hP 0 rfl rfl 0 (by decide) (hg _ q80) (fun _ h9 => h9) rfl dX6_lowestOf_12 ?_
  refine lv_iload_n hx hb dX6_lowestOf_15 rfl (lv_at hl 1 rfl) ?_
  refine va_iald hx hb hK hP 1 0 rfl rfl he dX6_lowestOf_16 ?_
  refine lv_topi (fun f_2 ef_2 => ?_)
  refine lv_iload_n hx hb dX6_lowestOf_17 rfl (lv_at hl 1 rfl) ?_
  refine lv_icmp_eq (tgt := 34) hx hb dX6_lowestOf_18 (by decide) (fun c_3 => ?_) (fun c_3 => absurd (ef_2.trans (z_id he (by decide))) c_3)
  refine lv_iload_n hx hb dX6_lowestOf_34 rfl (lv_at hl 1 rfl) ?_
  refine W.widen (k := 0) (n := 0) (Nat.le_of_ble_eq_true rfl) (Nat.le_of_ble_eq_true rfl) ?_
  exact W.iret (v := p0) hx hb hr (fun t ht hW => ⟨⟨p0, (), rfl, rfl, trivial⟩, hS.F ht⟩) hS.2.2 dX6_lowestOf_35

abbrev wz_X6_join : List Cond := .code yX6_join cX6_join 6 (Option.some Jvm.ClassFile.FieldType.boolean) :: lw_good
set_option maxHeartbeats 4000000 in
set_option maxRecDepth 100000 in
/-- join: the first merging -/
theorem k_X6_join (l : Launch) (G : va_G) (z : Nat) (h0 : Nat) (b1 : Nat) (b2 : Nat) (b3 : Nat) (cyA : ClassId) (cyJ : ClassId) (fL : Nat → Int32) (p0 : Int32) (p1 : Int32) (sz : Nat) (he0 : vp_in p0 400) (he1 : vp_in p1 400) : Met l yX6_join wz_X6_join ({ frames := 1, cells := 0, slots := 0, locals := 23 }) (va_Pc [.ref h0, .int p0, .int p1] (PW G z [(h0, .inr (10, [.ref b1, .ref b2, .ref b3, .int 0])), (b1, .inl (cyA, 400, .inl (nI))), (b2, .inl (cyJ, 512, .inl (fL)))] [(cyA, .int), (cyJ, .int)] sz)) (va_Qi (fun (r : Int32) (_ : Unit) => r = if p0 = p1 then 0 else 1) (fun (_ : Unit) (t : State) => QW G [] [] (va_A [(h0, .inr (10, [.ref b1, .ref b2, .ref b3, .int 0])), (b1, .inl (cyA, 400, .inl (nI))), (b2, .inl (cyJ, 512, .inl (fL)))] sz) t) (va_A [(h0, .inr (10, [.ref b1, .ref b2, .ref b3, .int 0])), (b1, .inl (cyA, 400, .inl (nI))), (b2, .inl (cyJ, 512, .inl (fL)))] sz)) 0 0 (va_A [(h0, .inr (10, [.ref b1, .ref b2, .ref b3, .int 0])), (b1, .inl (cyA, 400, .inl (nI))), (b2, .inl (cyJ, 512, .inl (fL)))] sz) := by
  refine Met.ofW (cc := cX6_join) (maxL := 6) (ret := (Option.some Jvm.ClassFile.FieldType.boolean)) (by decide) rfl ?_
  intro p e s m args below meth c s₁ B hml hv
  obtain ⟨rfl, rfl, hP, hK, hD0, hG⟩ := hv
  have hx := B.exec
  have hb := B.bytes
  have hr := B.returns
  have hts := atoms_spec (ws := wz_X6_join) B.pre
  have hg : ∀ w ∈ lw_good, w.before _ s = true := fun w h => hts w (List.mem_cons_of_mem _ h)
  have hown : s.vm.findClass RX6 = some m.cls := findClass_of_methodNamed B.named
  have hlocks := B.notSynchronized
  have hD := hD0.self (sz := s.heap.size)
  generalize hAe : va_A [(h0, .inr (10, [.ref b1, .ref b2, .ref b3, .int 0])), (b1, .inl (cyA, 400, .inl (nI))), (b2, .inl (cyJ, 512, .inl (fL)))] s.heap.size = A at hD hG ⊢
  have hA : ∀ q : Nat, s.heap.size ≤ q → A q := fun q h => by rw [← hAe]; exact Or.inr h
  have hS : va_S A s.heap s.heap [] := va_S.rf
  have hl := lv_entry ([.ref h0, .int p0, .int p1]) (n := 6) (Nat.le_of_ble_eq_true rfl)
  rw [lg_entry_eq]
  generalize (lg_sl ([.ref h0, .int p0, .int p1]) ++ List.replicate (6 - (lg_sl ([.ref h0, .int p0, .int p1])).length) Slot.unset).toArray = ls at hl ⊢
  have hl : lv_has ls 6 [(0, .ref h0), (1, .int p0), (2, .int p1)] := hl
  refine lv_aload_n hx hb dX6_join_0 rfl (lv_at hl 0 rfl) ?_
  refine lv_iload_n hx hb dX6_join_1 rfl (lv_at hl 1 rfl) ?_
  have hPc := hP.sub (ws' := [(h0, .inr (10, [.ref b1, .ref b2, .ref b3, .int 0])), (b1, .inl (cyA, 400, .inl (nI)))]) [0, 1] rfl
  have hKc := hK.sub (tys' := [(cyA, .int)]) [0] rfl
  refine va_calli (va_runV (As := [.int p0]) (rest := []) ⟨hx, hb, hml, hown, hts⟩ (k_X6_lowestOf l G z h0 b1 b2 b3 cyA p0 s.heap.size he0) (cwV 1 hts (lw_goodApp (lw_4 q213 q214 q215 q5) q216) rfl rfl rfl (by decide +kernel) ⟨Nat.le_of_ble_eq_true rfl, Nat.le_of_ble_eq_true rfl⟩) ⟨PR.blind, va_recv hK hP (ci := 10) (q0 := 0) rfl rfl, PR.of hPc hKc hG hS hA [.ref h0, .int p0]⟩ rfl rfl hl.1 rfl (lv_room (Nat.le_of_ble_eq_true rfl)) dX6_join_2 ⟨Nat.le_of_ble_eq_true rfl, Nat.le_of_ble_eq_true rfl⟩) hS (fun q h9 h => zN.not h9 h) (fun q h => hA q (Nat.le_trans hS.1 h)) (fun r_2 u t_4 H_1 locs ht hvm hw_3 hB hz1 hk1 hS => ?_)
  have hP := hP.grown hk1
  refine W.widen (k := 0) (n := 0) (Nat.le_of_ble_eq_true rfl) (Nat.le_of_ble_eq_true rfl) ?_
  obtain rfl : p0 = r_2 := hw_3.symm
  refine lv_istore_n (lv' := [(3, .int p0), (0, .ref h0), (1, .int p0), (2, .int p1)]) hx hb dX6_join_5 rfl hl (by decide) rfl (fun ls hl => ?_)
  refine lv_aload_n hx hb dX6_join_6 rfl (lv_at hl 1 rfl) ?_
  refine lv_iload_n hx hb dX6_join_7 rfl (lv_at hl 3 rfl) ?_
  have hPc := hP.sub (ws' := [(h0, .inr (10, [.ref b1, .ref b2, .ref b3, .int 0])), (b1, .inl (cyA, 400, .inl (nI)))]) [0, 1] rfl
  have hKc := hK.sub (tys' := [(cyA, .int)]) [0] rfl
  refine va_calli (va_runV (As := [.int p1]) (rest := []) ⟨hx, hb, hml, hown, hts⟩ (k_X6_lowestOf l G z h0 b1 b2 b3 cyA p1 H_1.size he1) (cwV 1 hts (lw_goodApp (lw_4 q213 q214 q215 q5) q216) rfl rfl rfl (by decide +kernel) ⟨Nat.le_of_ble_eq_true rfl, Nat.le_of_ble_eq_true rfl⟩) ⟨PR.blind, va_recv hK hP (ci := 10) (q0 := 0) rfl rfl, PR.of hPc hKc hG hS hA [.ref h0, .int p1]⟩ rfl rfl hl.1 rfl (lv_room (Nat.le_of_ble_eq_true rfl)) dX6_join_8 ⟨Nat.le_of_ble_eq_true rfl, Nat.le_of_ble_eq_true rfl⟩) hS (fun q h9 h => zN.not h9 h) (fun q h => hA q (Nat.le_trans hS.1 h)) (fun r_6 u t_8 H_5 locs ht hvm hw_7 hB hz1 hk1 hS => ?_)
  have hP := hP.grown hk1
  refine W.widen (k := 0) (n := 0) (Nat.le_of_ble_eq_true rfl) (Nat.le_of_ble_eq_true rfl) ?_
  obtain rfl : p1 = r_6 := hw_7.symm
  refine lv_istore (lv' := [(4, .int p1), (3, .int p0), (0, .ref h0), (1, .int p0), (2, .int p1)]) hx hb dX6_join_11 hl (by decide) rfl (fun ls hl => ?_)
  refine lv_aload_n hx hb dX6_join_13 rfl (lv_at hl 2 rfl) ?_
  refine va_get (D := G) (ci := 10) (v := .int 0) (C := RX6) (T := TX6) (N := 4) hx hb hg in_X6 hown hK hP 0 rfl rfl 3 (by decide) (hg _ q83) (fun _ h9 => h9) rfl dX6_join_14 ?_
  refine lv_sipush (v := 512) hx hb dX6_join_17 (by decide) ?_
  refine lv_icmp_ge (tgt := 81) hx hb dX6_join_20 (by decide) (fun c_9 => absurd c_9 (by decide)) (fun c_9 => ?_)
  refine lv_iload_n hx hb dX6_join_23 rfl (lv_at hl 1 rfl) ?_
  refine lv_iload hx hb dX6_join_24 (lv_at hl 0 rfl) ?_
  refine lv_icmp_ne (tgt := 33) hx hb dX6_join_26 (by decide) (fun c_10 => ?_) (fun c_10 => ?_)
  · refine lv_iload_n hx hb dX6_join_33 rfl (lv_at hl 1 rfl) ?_
    refine lv_iload hx hb dX6_join_34 (lv_at hl 0 rfl) ?_
    refine va_mmax hx hb (by rw [hml]; exact hl.1.symm) hown (hg _ mmax_lX629) (hg _ mmax_s) (hg _ q15) (hg _ mmax_c) (Nat.le_of_ble_eq_true rfl) (Nat.le_of_ble_eq_true rfl) (Nat.le_of_ble_eq_true rfl) (Nat.le_of_ble_eq_true rfl) dX6_join_36 ?_
    refine lv_topi (fun f_11 ef_11 => ?_)
    refine lv_istore (lv' := [(5, .int f_11), (4, .int p1), (3, .int p0), (0, .ref h0), (1, .int p0), (2, .int p1)]) hx hb dX6_join_39 hl (by decide) rfl (fun ls hl => ?_)
    refine lv_iload hx hb dX6_join_41 (lv_at hl 0 rfl) ?_
    refine lv_iconst (v := (-1)) hx hb dX6_join_43 (by decide) ?_
    refine lv_icmp_eq (tgt := 60) hx hb dX6_join_44 (by decide) (fun c_12 => (z_not_neg (ef_11 ▸ z_max_in he0 he1) c_12).elim) (fun c_12 => ?_)
    refine lv_aload_n hx hb dX6_join_47 rfl (lv_at hl 3 rfl) ?_
    refine va_get (D := G) (ci := 10) (v := .ref b1) (C := RX6) (T := TX6) (N := 4) hx hb hg in_X6 hown hK hP 0 rfl rfl 0 (by decide) (hg _ q80) (fun _ h9 => h9) rfl dX6_join_48 ?_
    refine lv_iload hx hb dX6_join_51 (lv_at hl 0 rfl) ?_
    refine lv_iload_n hx hb dX6_join_53 rfl (lv_at hl 2 rfl) ?_
    refine lv_iload hx hb dX6_join_54 (lv_at hl 1 rfl) ?_
    refine va_mmin hx hb (by rw [hml]; exact hl.1.symm) hown (hg _ mmin_lX635) (hg _ mmin_s) (hg _ q15) (hg _ mmin_c) (Nat.le_of_ble_eq_true rfl) (Nat.le_of_ble_eq_true rfl) (Nat.le_of_ble_eq_true rfl) (Nat.le_of_ble_eq_true rfl) dX6_join_56 ?_
    refine lv_topi (fun f_13 ef_13 => ?_)
    refine va_iast hx hb hK hP hD hS 1 0 rfl rfl (ef_11 ▸ z_max_in he0 he1) dX6_join_59 (fun H_14 locs hP hD hS => ?_)
    have hP : va_P G vwCl ([(h0, .inr (10, [.ref b1, .ref b2, .ref b3, .int 0])), (b1, .inl (cyA, 400, .inl (upd (nI) (f_11 : Int32).toNatClampNeg (f_13)))), (b2, .inl (cyJ, 512, .inl (fL)))]) H_14 := hP
    have hD : va_D A ([(h0, .inr (10, [.ref b1, .ref b2, .ref b3, .int 0])), (b1, .inl (cyA, 400, .inl (upd (nI) (f_11 : Int32).toNatClampNeg (f_13)))), (b2, .inl (cyJ, 512, .inl (fL)))]) := hD
    refine lv_aload_n hx hb dX6_join_60 rfl (lv_at hl 3 rfl) ?_
    refine va_get (D := G) (ci := 10) (v := .ref b2) (C := RX6) (T := TX6) (N := 4) hx hb hg in_X6 hown hK hP 0 rfl rfl 1 (by decide) (hg _ q81) (fun _ h9 => h9) rfl dX6_join_61 ?_
    refine lv_aload_n hx hb dX6_join_64 rfl (lv_at hl 3 rfl) ?_
    refine va_get (D := G) (ci := 10) (v := .int 0) (C := RX6) (T := TX6) (N := 4) hx hb hg in_X6 hown hK hP 0 rfl rfl 3 (by decide) (hg _ q83) (fun _ h9 => h9) rfl dX6_join_65 ?_
    refine lv_iload hx hb dX6_join_68 (lv_at hl 0 rfl) ?_
    refine va_iast hx hb hK hP hD hS 2 1 rfl rfl (by unfold vp_in; decide +kernel) dX6_join_70 (fun H_15 locs hP hD hS => ?_)
    have hP : va_P G vwCl ([(h0, .inr (10, [.ref b1, .ref b2, .ref b3, .int 0])), (b1, .inl (cyA, 400, .inl (upd (nI) (f_11 : Int32).toNatClampNeg (f_13)))), (b2, .inl (cyJ, 512, .inl (upd (fL) (0 : Int32).toNatClampNeg (f_11))))]) H_15 := hP
    have hD : va_D A ([(h0, .inr (10, [.ref b1, .ref b2, .ref b3, .int 0])), (b1, .inl (cyA, 400, .inl (upd (nI) (f_11 : Int32).toNatClampNeg (f_13)))), (b2, .inl (cyJ, 512, .inl (upd (fL) (0 : Int32).toNatClampNeg (f_11))))]) := hD
    refine lv_aload_n hx hb dX6_join_71 rfl (lv_at hl 3 rfl) ?_
    refine lv_dup hx hb dX6_join_72 rfl ?_
    refine va_get (D := G) (ci := 10) (v := .int 0) (C := RX6) (T := TX6) (N := 4) hx hb hg in_X6 hown hK hP 0 rfl rfl 3 (by decide) (hg _ q83) (fun _ h9 => h9) rfl dX6_join_73 ?_
    refine lv_iconst (v := 1) hx hb dX6_join_76 (by decide) ?_
    refine lv_iadd hx hb dX6_join_77 ?_
    refine lv_topi (fun f_16 ef_16 => ?_)
    obtain rfl : f_16 = 1 := ef_16.trans (by decide)
    refine va_put (D := G) (ci := 10) (v := .int 1) (ty := .int) (C := RX6) (T := TX6) (N := 4) hx hb hg in_X6 tyX6 tyX6_ok nmX6 hown hK hP hD hS 0 rfl rfl 3 (by decide) (hg _ q83) (fun _ h9 => h9) rfl (by decide +kernel) rfl rfl (Nat.le_of_ble_eq_true rfl) dX6_join_78 (fun H_17 locs hP hD hS => ?_)
    have hP : va_P G vwCl ([(h0, .inr (10, [.ref b1, .ref b2, .ref b3, .int 1])), (b1, .inl (cyA, 400, .inl (upd (nI) (f_11 : Int32).toNatClampNeg (f_13)))), (b2, .inl (cyJ, 512, .inl (upd (fL) (0 : Int32).toNatClampNeg (f_11))))]) H_17 := hP
    have hD : va_D A ([(h0, .inr (10, [.ref b1, .ref b2, .ref b3, .int 1])), (b1, .inl (cyA, 400, .inl (upd (nI) (f_11 : Int32).toNatClampNeg (f_13)))), (b2, .inl (cyJ, 512, .inl (upd (fL) (0 : Int32).toNatClampNeg (f_11))))]) := hD
    refine lv_iload_n hx hb dX6_join_81 rfl (lv_at hl 2 rfl) ?_
    refine lv_iload hx hb dX6_join_82 (lv_at hl 1 rfl) ?_
    refine lv_icmp_eq (tgt := 91) hx hb dX6_join_84 (by decide) (fun c_18 => absurd c_18 c_10) (fun c_18 => ?_)
    refine lv_iconst (v := 1) hx hb dX6_join_87 (by decide) ?_
    refine lv_goto (tgt := 92) hx hb dX6_join_88 (by decide) ?_
    refine W.widen (k := 0) (n := 0) (Nat.le_of_ble_eq_true rfl) (Nat.le_of_ble_eq_true rfl) ?_
    have hP9 := hP.sub (ws' := []) [] rfl
    have hD9 := hD.sub (ws' := []) [] (by decide) rfl
    have hK9 := hK.sub (tys' := []) [] rfl
    exact W.zret (v := 1) hx hb hr rfl (fun t ht hW => ⟨⟨1, (), rfl, (if_neg c_10).symm, QW.of hP9 hK9 hD9 ht hW.alike⟩, hS.F ht⟩) hS.2.2 dX6_join_92
  · refine lv_iconst (v := (-1)) hx hb dX6_join_29 (by decide) ?_
    refine lv_goto (tgt := 39) hx hb dX6_join_30 (by decide) ?_
    refine lv_istore (lv' := [(5, .int (-1)), (4, .int p1), (3, .int p0), (0, .ref h0), (1, .int p0), (2, .int p1)]) hx hb dX6_join_39 hl (by decide) rfl (fun ls hl => ?_)
    refine lv_iload hx hb dX6_join_41 (lv_at hl 0 rfl) ?_
    refine lv_iconst (v := (-1)) hx hb dX6_join_43 (by decide) ?_
    refine lv_icmp_eq (tgt := 60) hx hb dX6_join_44 (by decide) (fun c_19 => ?_) (fun c_19 => absurd rfl c_19)
    refine lv_aload_n hx hb dX6_join_60 rfl (lv_at hl 3 rfl) ?_
    refine va_get (D := G) (ci := 10) (v := .ref b2) (C := RX6) (T := TX6) (N := 4) hx hb hg in_X6 hown hK hP 0 rfl rfl 1 (by decide) (hg _ q81) (fun _ h9 => h9) rfl dX6_join_61 ?_
    refine lv_aload_n hx hb dX6_join_64 rfl (lv_at hl 3 rfl) ?_
    refine va_get (D := G) (ci := 10) (v := .int 0) (C := RX6) (T := TX6) (N := 4) hx hb hg in_X6 hown hK hP 0 rfl rfl 3 (by decide) (hg _ q83) (fun _ h9 => h9) rfl dX6_join_65 ?_
    refine lv_iload hx hb dX6_join_68 (lv_at hl 0 rfl) ?_
    refine va_iast hx hb hK hP hD hS 2 1 rfl rfl (by unfold vp_in; decide +kernel) dX6_join_70 (fun H_20 locs hP hD hS => ?_)
    have hP : va_P G vwCl ([(h0, .inr (10, [.ref b1, .ref b2, .ref b3, .int 0])), (b1, .inl (cyA, 400, .inl (nI))), (b2, .inl (cyJ, 512, .inl (upd (fL) (0 : Int32).toNatClampNeg ((-1)))))]) H_20 := hP
    have hD : va_D A ([(h0, .inr (10, [.ref b1, .ref b2, .ref b3, .int 0])), (b1, .inl (cyA, 400, .inl (nI))), (b2, .inl (cyJ, 512, .inl (upd (fL) (0 : Int32).toNatClampNeg ((-1)))))]) := hD
    refine lv_aload_n hx hb dX6_join_71 rfl (lv_at hl 3 rfl) ?_
    refine lv_dup hx hb dX6_join_72 rfl ?_
    refine va_get (D := G) (ci := 10) (v := .int 0) (C := RX6) (T := TX6) (N := 4) hx hb hg in_X6 hown hK hP 0 rfl rfl 3 (by decide) (hg _ q83) (fun _ h9 => h9) rfl dX6_join_73 ?_
    refine lv_iconst (v := 1) hx hb dX6_join_76 (by decide) ?_
    refine lv_iadd hx hb dX6_join_77 ?_
    refine lv_topi (fun f_21 ef_21 => ?_)
    obtain rfl : f_21 = 1 := ef_21.trans (by decide)
    refine va_put (D := G) (ci := 10) (v := .int 1) (ty := .int) (C := RX6) (T := TX6) (N := 4) hx hb hg in_X6 tyX6 tyX6_ok nmX6 hown hK hP hD hS 0 rfl rfl 3 (by decide) (hg _ q83) (fun _ h9 => h9) rfl (by decide +kernel) rfl rfl (Nat.le_of_ble_eq_true rfl) dX6_join_78 (fun H_22 locs hP hD hS => ?_)
    have hP : va_P G vwCl ([(h0, .inr (10, [.ref b1, .ref b2, .ref b3, .int 1])), (b1, .inl (cyA, 400, .inl (nI))), (b2, .inl (cyJ, 512, .inl (upd (fL) (0 : Int32).toNatClampNeg ((-1)))))]) H_22 := hP
    have hD : va_D A ([(h0, .inr (10, [.ref b1, .ref b2, .ref b3, .int 1])), (b1, .inl (cyA, 400, .inl (nI))), (b2, .inl (cyJ, 512, .inl (upd (fL) (0 : Int32).toNatClampNeg ((-1)))))]) := hD
    refine lv_iload_n hx hb dX6_join_81 rfl (lv_at hl 2 rfl) ?_
    refine lv_iload hx hb dX6_join_82 (lv_at hl 1 rfl) ?_
    refine lv_icmp_eq (tgt := 91) hx hb dX6_join_84 (by decide) (fun c_23 => ?_) (fun c_23 => absurd c_10 c_23)
    refine lv_iconst (v := 0) hx hb dX6_join_91 (by decide) ?_
    refine W.widen (k := 0) (n := 0) (Nat.le_of_ble_eq_true rfl) (Nat.le_of_ble_eq_true rfl) ?_
    have hP9 := hP.sub (ws' := []) [] rfl
    have hD9 := hD.sub (ws' := []) [] (by decide) rfl
    have hK9 := hK.sub (tys' := []) [] rfl
    exact W.zret (v := 0) hx hb hr rfl (fun t ht hW => ⟨⟨0, (), rfl, (if_pos c_10).symm, QW.of hP9 hK9 hD9 ht hW.alike⟩, hS.F ht⟩) hS.2.2 dX6_join_92

theorem z_ent {p0 p1 : Int32} (h : okE p0 p1) : vp_in (100 * p0 + p1) 400 := by
  obtain ⟨⟨a, b⟩, c, d⟩ := h
  have a := Int32.le_iff_toInt_le.mp a
  have b := Int32.le_iff_toInt_le.mp b
  have c := Int32.le_iff_toInt_le.mp c
  have d := Int32.le_iff_toInt_le.mp d
  have e0 : (0 : Int32).toInt = 0 := rfl
  have e3 : (3 : Int32).toInt = 3 := rfl
  have e9 : (99 : Int32).toInt = 99 := rfl
  have eh : (100 : Int32).toInt = 100 := rfl
  rw [e0] at a c
  rw [e3] at b
  rw [e9] at d
  have k : (100 * p0 + p1).toInt = 100 * p0.toInt + p1.toInt := by
    rw [Int32.toInt_add, Int32.toInt_mul, eh]
    have : (100 * p0.toInt).bmod (2 ^ 32) = 100 * p0.toInt := Int.bmod_eq_of_le (by omega) (by omega)
    rw [this]
    exact Int.bmod_eq_of_le (by omega) (by omega)
  rw [vp_in_iff, k]
  omega
abbrev wz_X8_entry : List Cond := .code yX8_entry cX8_entry 3 (Option.some Jvm.ClassFile.FieldType.int) :: lw_good
set_option maxHeartbeats 4000000 in
set_option maxRecDepth 100000 in
/-- entry: nothing is merged -/
theorem k_X8_entry (l : Launch) (hfl : l.stackTraces = false) (G : va_G) (z : Nat) (h0 : Nat) (a1 : Nat) (a2 : Nat) (a3 : Nat) (a4 : Nat) (a5 : Nat) (a6 : Nat) (a7 : Nat) (a8 : Nat) (tol : Int32) (sal : Int32) (b1 : Nat) (b2 : Nat) (b3 : Nat) (cyA : ClassId) (p0 : Int32) (p1 : Int32) (sz : Nat)  : vx_Met l yX8_entry wz_X8_entry ({ frames := 8, cells := 2, slots := 12, locals := 125 }) (va_Pc [.ref h0, .int p0, .int p1] (PR G z [(h0, .inr (12, [.ref a1, .ref a2, .ref a3, .ref a4, .ref a5, .ref a6, .ref a7, .ref a8, .int tol, .int sal])), (a6, .inr (10, [.ref b1, .ref b2, .ref b3, .int 0])), (b1, .inl (cyA, 400, .inl (nI)))] [(cyA, .int)] sz)) (va_Qi (fun (r : Int32) (_ : Unit) => r = 100 * p0 + p1 ∧ okE p0 p1) (fun (_ : Unit) (_ : State) => True) (zN sz)) (zX (¬ okE p0 p1) "java/lang/IllegalArgumentException" (zN sz)) 2 12 (zN sz) := by
  refine vx_ofW (cc := cX8_entry) (maxL := 3) (ret := (Option.some Jvm.ClassFile.FieldType.int)) (by decide) rfl ?_
  intro p e s m args below meth c s₁ B hml htab hv
  obtain ⟨rfl, rfl, hP, hK, hG⟩ := hv
  have hx := B.exec
  have hb := B.bytes
  have hr := B.returns
  have hts := atoms_spec (ws := wz_X8_entry) B.pre
  have hg : ∀ w ∈ lw_good, w.before _ s = true := fun w h => hts w (List.mem_cons_of_mem _ h)
  have hown : s.vm.findClass RX8 = some m.cls := findClass_of_methodNamed B.named
  have hlocks := B.notSynchronized
  have hA : ∀ q : Nat, s.heap.size ≤ q → zN s.heap.size q := fun _ h => h
  have hS : va_S (zN s.heap.size) s.heap s.heap [] := va_S.rf
  have hl := lv_entry ([.ref h0, .int p0, .int p1]) (n := 3) (Nat.le_of_ble_eq_true rfl)
  rw [lg_entry_eq]
  generalize (lg_sl ([.ref h0, .int p0, .int p1]) ++ List.replicate (3 - (lg_sl ([.ref h0, .int p0, .int p1])).length) Slot.unset).toArray = ls at hl ⊢
  have hl : lv_has ls 3 [(0, .ref h0), (1, .int p0), (2, .int p1)] := hl
  refine lv_iload_n hx hb dX8_entry_0 rfl (lv_at hl 1 rfl) ?_
  refine lv_iload_n hx hb dX8_entry_1 rfl (lv_at hl 2 rfl) ?_
  have hPc := hP.sub (ws' := []) [] rfl
  have hKc := hK.sub (tys' := []) [] rfl
  refine vx_callv (vx_runS (As := [.int p0, .int p1]) (rest := []) ⟨hx, hb, hml, hown, hts⟩ (k_X8_checkEntry l hfl G z p0 p1 s.heap.size ) (va_cwS 2 hts (lw_goodApp (lw_3 q1032 q1033 q1) q1034) rfl rfl rfl (by decide +kernel) ⟨Nat.le_of_ble_eq_true rfl, Nat.le_of_ble_eq_true rfl⟩) ⟨PR.blind, PR.of hPc hKc hG hS hA [.int p0, .int p1]⟩ rfl rfl hl.1 rfl (lv_room (Nat.le_of_ble_eq_true rfl)) dX8_entry_2 ⟨Nat.le_of_ble_eq_true rfl, Nat.le_of_ble_eq_true rfl⟩) hS (fun q h9 h => zN.not h9 h) (fun q h => hA q (Nat.le_trans hS.1 h)) (fun q h9 h => zN.not h9 h) (fun E ce q9 ux t_4 H_1 locs ht hvm px_5 hE hz1 hk1 hS hq9 hv9 hcl9 => ?_) (fun u t_4 H_1 locs ht hvm hw_3 hB hz1 hk1 hS => ?_)
  · exact vx_out (fun x9 h9 => (htab x9 h9).elim) hlocks hq9 hv9 hcl9 (fun t2 ht2 hal2 => zX.same px_5 hE hS ht2) hS.2.2 (Nat.le_of_ble_eq_true rfl) (Nat.le_of_ble_eq_true rfl)
  have hP := hP.grown hk1
  refine W.widen (k := 2) (n := 12) (Nat.le_of_ble_eq_true rfl) (Nat.le_of_ble_eq_true rfl) ?_
  refine lv_aload_n hx hb dX8_entry_5 rfl (lv_at hl 0 rfl) ?_
  refine va_get (D := G) (ci := 12) (v := .ref a6) (C := RX8) (T := TX8) (N := 10) hx hb hg in_X8 hown hK hP 0 rfl rfl 5 (by decide) (hg _ q130) (fun _ h9 => h9) rfl dX8_entry_6 ?_
  refine lv_bipush (v := 100) hx hb dX8_entry_9 (by decide) ?_
  refine lv_iload_n hx hb dX8_entry_11 rfl (lv_at hl 1 rfl) ?_
  refine lv_imul hx hb dX8_entry_12 ?_
  refine lv_topi (fun f_6 ef_6 => ?_)
  refine lv_iload_n hx hb dX8_entry_13 rfl (lv_at hl 2 rfl) ?_
  refine lv_iadd hx hb dX8_entry_14 ?_
  refine lv_topi (fun f_7 ef_7 => ?_)
  have hPc := hP.sub (ws' := [(a6, .inr (10, [.ref b1, .ref b2, .ref b3, .int 0])), (b1, .inl (cyA, 400, .inl (nI)))]) [1, 2] rfl
  have hKc := hK.sub (tys' := [(cyA, .int)]) [0] rfl
  refine va_calli (va_runV (As := [.int f_7]) (rest := []) ⟨hx, hb, hml, hown, hts⟩ (k_X6_lowestOf l G z a6 b1 b2 b3 cyA f_7 H_1.size (by rw [ef_7, ef_6]; exact z_ent hw_3)) (cwV 1 hts (lw_goodApp (lw_4 q1060 q214 q215 q5) q216) rfl rfl rfl (by decide +kernel) ⟨Nat.le_of_ble_eq_true rfl, Nat.le_of_ble_eq_true rfl⟩) ⟨PR.blind, va_recv hK hP (ci := 10) (q0 := 1) rfl rfl, PR.of hPc hKc hG hS hA [.ref a6, .int f_7]⟩ rfl rfl hl.1 rfl (lv_room (Nat.le_of_ble_eq_true rfl)) dX8_entry_15 ⟨Nat.le_of_ble_eq_true rfl, Nat.le_of_ble_eq_true rfl⟩) hS (fun q h9 h => zN.not h9 h) (fun q h => hA q (Nat.le_trans hS.1 h)) (fun r_9 u t_11 H_8 locs ht hvm hw_10 hB hz1 hk1 hS => ?_)
  have hP := hP.grown hk1
  refine W.widen (k := 2) (n := 12) (Nat.le_of_ble_eq_true rfl) (Nat.le_of_ble_eq_true rfl) ?_
  obtain rfl : f_7 = r_9 := hw_10.symm
  refine W.widen (k := 2) (n := 12) (Nat.le_of_ble_eq_true rfl) (Nat.le_of_ble_eq_true rfl) ?_
  refine vx_ret ?_
  exact W.iret (v := f_7) hx hb hr (fun t ht hW => ⟨⟨f_7, (), rfl, ⟨by rw [ef_7, ef_6], hw_3⟩, trivial⟩, hS.F ht⟩) hS.2.2 dX8_entry_18

abbrev wz_X8_merge : List Cond := .code yX8_merge cX8_merge 5 (Option.some Jvm.ClassFile.FieldType.boolean) :: lw_good
set_option maxHeartbeats 4000000 in
set_option maxRecDepth 100000 in
/-- merge: the first one -/
theorem k_X8_merge (l : Launch) (hfl : l.stackTraces = false) (G : va_G) (z : Nat) (h0 : Nat) (a1 : Nat) (a2 : Nat) (a3 : Nat) (a4 : Nat) (a5 : Nat) (a6 : Nat) (a7 : Nat) (a8 : Nat) (tol : Int32) (sal : Int32) (b1 : Nat) (b2 : Nat) (b3 : Nat) (cyA : ClassId) (cyJ : ClassId) (fL : Nat → Int32) (p0 : Int32) (p1 : Int32) (p2 : Int32) (p3 : Int32) (sz : Nat)  : vx_Met l yX8_merge wz_X8_merge ({ frames := 8, cells := 4, slots := 24, locals := 125 }) (va_Pc [.ref h0, .int p0, .int p1, .int p2, .int p3] (PW G z [(h0, .inr (12, [.ref a1, .ref a2, .ref a3, .ref a4, .ref a5, .ref a6, .ref a7, .ref a8, .int tol, .int sal])), (a6, .inr (10, [.ref b1, .ref b2, .ref b3, .int 0])), (b1, .inl (cyA, 400, .inl (nI))), (b2, .inl (cyJ, 512, .inl (fL)))] [(cyA, .int), (cyJ, .int)] sz)) (va_Qi (fun (r : Int32) (_ : Unit) => (r = if 100 * p0 + p1 = 100 * p2 + p3 then 0 else 1) ∧ okE p0 p1 ∧ okE p2 p3) (fun (_ : Unit) (t : State) => QW G [] [] (va_A [(h0, .inr (12, [.ref a1, .ref a2, .ref a3, .ref a4, .ref a5, .ref a6, .ref a7, .ref a8, .int tol, .int sal])), (a6, .inr (10, [.ref b1, .ref b2, .ref b3, .int 0])), (b1, .inl (cyA, 400, .inl (nI))), (b2, .inl (cyJ, 512, .inl (fL)))] sz) t) (va_A [(h0, .inr (12, [.ref a1, .ref a2, .ref a3, .ref a4, .ref a5, .ref a6, .ref a7, .ref a8, .int tol, .int sal])), (a6, .inr (10, [.ref b1, .ref b2, .ref b3, .int 0])), (b1, .inl (cyA, 400, .inl (nI))), (b2, .inl (cyJ, 512, .inl (fL)))] sz)) (zX (¬ (okE p0 p1 ∧ okE p2 p3)) "java/lang/IllegalArgumentException" (va_A [(h0, .inr (12, [.ref a1, .ref a2, .ref a3, .ref a4, .ref a5, .ref a6, .ref a7, .ref a8, .int tol, .int sal])), (a6, .inr (10, [.ref b1, .ref b2, .ref b3, .int 0])), (b1, .inl (cyA, 400, .inl (nI))), (b2, .inl (cyJ, 512, .inl (fL)))] sz)) 4 24 (va_A [(h0, .inr (12, [.ref a1, .ref a2, .ref a3, .ref a4, .ref a5, .ref a6, .ref a7, .ref a8, .int tol, .int sal])), (a6, .inr (10, [.ref b1, .ref b2, .ref b3, .int 0])), (b1, .inl (cyA, 400, .inl (nI))), (b2, .inl (cyJ, 512, .inl (fL)))] sz) := by
  refine vx_ofW (cc := cX8_merge) (maxL := 5) (ret := (Option.some Jvm.ClassFile.FieldType.boolean)) (by decide) rfl ?_
  intro p e s m args below meth c s₁ B hml htab hv
  obtain ⟨rfl, rfl, hP, hK, hD0, hG⟩ := hv
  have hx := B.exec
  have hb := B.bytes
  have hr := B.returns
  have hts := atoms_spec (ws := wz_X8_merge) B.pre
  have hg : ∀ w ∈ lw_good, w.before _ s = true := fun w h => hts w (List.mem_cons_of_mem _ h)
  have hown : s.vm.findClass RX8 = some m.cls := findClass_of_methodNamed B.named
  have hlocks := B.notSynchronized
  have hD := hD0.self (sz := s.heap.size)
  generalize hAe : va_A [(h0, .inr (12, [.ref a1, .ref a2, .ref a3, .ref a4, .ref a5, .ref a6, .ref a7, .ref a8, .int tol, .int sal])), (a6, .inr (10, [.ref b1, .ref b2, .ref b3, .int 0])), (b1, .inl (cyA, 400, .inl (nI))), (b2, .inl (cyJ, 512, .inl (fL)))] s.heap.size = A at hD hG ⊢
  have hA : ∀ q : Nat, s.heap.size ≤ q → A q := fun q h => by rw [← hAe]; exact Or.inr h
  have hS : va_S A s.heap s.heap [] := va_S.rf
  have hl := lv_entry ([.ref h0, .int p0, .int p1, .int p2, .int p3]) (n := 5) (Nat.le_of_ble_eq_true rfl)
  rw [lg_entry_eq]
  generalize (lg_sl ([.ref h0, .int p0, .int p1, .int p2, .int p3]) ++ List.replicate (5 - (lg_sl ([.ref h0, .int p0, .int p1, .int p2, .int p3])).length) Slot.unset).toArray = ls at hl ⊢
  have hl : lv_has ls 5 [(0, .ref h0), (1, .int p0), (2, .int p1), (3, .int p2), (4, .int p3)] := hl
  refine lv_iload_n hx hb dX8_merge_0 rfl (lv_at hl 1 rfl) ?_
  refine lv_iload_n hx hb dX8_merge_1 rfl (lv_at hl 2 rfl) ?_
  have hPc := hP.sub (ws' := []) [] rfl
  have hKc := hK.sub (tys' := []) [] rfl
  refine vx_callv (vx_runS (As := [.int p0, .int p1]) (rest := []) ⟨hx, hb, hml, hown, hts⟩ (k_X8_checkEntry l hfl G z p0 p1 s.heap.size ) (va_cwS 2 hts (lw_goodApp (lw_3 q1032 q1033 q1) q1034) rfl rfl rfl (by decide +kernel) ⟨Nat.le_of_ble_eq_true rfl, Nat.le_of_ble_eq_true rfl⟩) ⟨PR.blind, PR.of hPc hKc hG hS hA [.int p0, .int p1]⟩ rfl rfl hl.1 rfl (lv_room (Nat.le_of_ble_eq_true rfl)) dX8_merge_2 ⟨Nat.le_of_ble_eq_true rfl, Nat.le_of_ble_eq_true rfl⟩) hS (fun q h9 h => zN.not h9 h) (fun q h => hA q (Nat.le_trans hS.1 h)) (fun q h9 h => zN.not h9 h) (fun E ce q9 ux t_4 H_1 locs ht hvm px_5 hE hz1 hk1 hS hq9 hv9 hcl9 => ?_) (fun u t_4 H_1 locs ht hvm hw_3 hB hz1 hk1 hS => ?_)
  · exact vx_out (fun x9 h9 => (htab x9 h9).elim) hlocks hq9 hv9 hcl9 (fun t2 ht2 hal2 => zX.same (fun h9 => px_5 h9.1) hE hS ht2) hS.2.2 (Nat.le_of_ble_eq_true rfl) (Nat.le_of_ble_eq_true rfl)
  have hP := hP.grown hk1
  refine W.widen (k := 2) (n := 12) (Nat.le_of_ble_eq_true rfl) (Nat.le_of_ble_eq_true rfl) ?_
  refine lv_iload_n hx hb dX8_merge_5 rfl (lv_at hl 3 rfl) ?_
  refine lv_iload hx hb dX8_merge_6 (lv_at hl 4 rfl) ?_
  have hPc := hP.sub (ws' := []) [] rfl
  have hKc := hK.sub (tys' := []) [] rfl
  refine vx_callv (vx_runS (As := [.int p2, .int p3]) (rest := []) ⟨hx, hb, hml, hown, hts⟩ (k_X8_checkEntry l hfl G z p2 p3 H_1.size ) (va_cwS 2 hts (lw_goodApp (lw_3 q1032 q1033 q1) q1034) rfl rfl rfl (by decide +kernel) ⟨Nat.le_of_ble_eq_true rfl, Nat.le_of_ble_eq_true rfl⟩) ⟨PR.blind, PR.of hPc hKc hG hS hA [.int p2, .int p3]⟩ rfl rfl hl.1 rfl (lv_room (Nat.le_of_ble_eq_true rfl)) dX8_merge_8 ⟨Nat.le_of_ble_eq_true rfl, Nat.le_of_ble_eq_true rfl⟩) hS (fun q h9 h => zN.not h9 h) (fun q h => hA q (Nat.le_trans hS.1 h)) (fun q h9 h => zN.not h9 h) (fun E ce q9 ux t_9 H_6 locs ht hvm px_10 hE hz1 hk1 hS hq9 hv9 hcl9 => ?_) (fun u t_9 H_6 locs ht hvm hw_8 hB hz1 hk1 hS => ?_)
  · exact vx_out (fun x9 h9 => (htab x9 h9).elim) hlocks hq9 hv9 hcl9 (fun t2 ht2 hal2 => zX.same (fun h9 => px_10 h9.2) hE hS ht2) hS.2.2 (Nat.le_of_ble_eq_true rfl) (Nat.le_of_ble_eq_true rfl)
  have hP := hP.grown hk1
  refine W.widen (k := 4) (n := 24) (Nat.le_of_ble_eq_true rfl) (Nat.le_of_ble_eq_true rfl) ?_
  refine lv_aload_n hx hb dX8_merge_11 rfl (lv_at hl 0 rfl) ?_
  refine va_get (D := G) (ci := 12) (v := .ref a6) (C := RX8) (T := TX8) (N := 10) hx hb hg in_X8 hown hK hP 0 rfl rfl 5 (by decide) (hg _ q130) (fun _ h9 => h9) rfl dX8_merge_12 ?_
  refine lv_bipush (v := 100) hx hb dX8_merge_15 (by decide) ?_
  refine lv_iload_n hx hb dX8_merge_17 rfl (lv_at hl 1 rfl) ?_
  refine lv_imul hx hb dX8_merge_18 ?_
  refine lv_topi (fun f_11 ef_11 => ?_)
  refine lv_iload_n hx hb dX8_merge_19 rfl (lv_at hl 2 rfl) ?_
  refine lv_iadd hx hb dX8_merge_20 ?_
  refine lv_topi (fun f_12 ef_12 => ?_)
  refine lv_bipush (v := 100) hx hb dX8_merge_21 (by decide) ?_
  refine lv_iload_n hx hb dX8_merge_23 rfl (lv_at hl 3 rfl) ?_
  refine lv_imul hx hb dX8_merge_24 ?_
  refine lv_topi (fun f_13 ef_13 => ?_)
  refine lv_iload hx hb dX8_merge_25 (lv_at hl 4 rfl) ?_
  refine lv_iadd hx hb dX8_merge_27 ?_
  refine lv_topi (fun f_14 ef_14 => ?_)
  have hPc := hP.sub (ws' := [(a6, .inr (10, [.ref b1, .ref b2, .ref b3, .int 0])), (b1, .inl (cyA, 400, .inl (nI))), (b2, .inl (cyJ, 512, .inl (fL)))]) [1, 2, 3] rfl
  have hKc := hK.sub (tys' := [(cyA, .int), (cyJ, .int)]) [0, 1] rfl
  have hDc := hD.sub (ws' := [(a6, .inr (10, [.ref b1, .ref b2, .ref b3, .int 0])), (b1, .inl (cyA, 400, .inl (nI))), (b2, .inl (cyJ, 512, .inl (fL)))]) [1, 2, 3] (by decide) rfl
  have hFc := va_free (wc := [(a6, .inr (10, [.ref b1, .ref b2, .ref b3, .int 0])), (b1, .inl (cyA, 400, .inl (nI))), (b2, .inl (cyJ, 512, .inl (fL)))]) hD hS hA [1, 2, 3] rfl
  refine va_calli (va_runV (As := [.int f_12, .int f_14]) (rest := []) ⟨hx, hb, hml, hown, hts⟩ (k_X6_join l G z a6 b1 b2 b3 cyA cyJ fL f_12 f_14 H_6.size (by rw [ef_12, ef_11]; exact z_ent hw_3) (by rw [ef_14, ef_13]; exact z_ent hw_8)) (cwV 2 hts (lw_goodApp (lw_4 q1035 q1036 q1037 q5) q1038) rfl rfl rfl (by decide +kernel) ⟨Nat.le_of_ble_eq_true rfl, Nat.le_of_ble_eq_true rfl⟩) ⟨PW.blind, va_recv hK hP (ci := 10) (q0 := 1) rfl rfl, PW.of hPc hKc hDc hG hS hFc [.ref a6, .int f_12, .int f_14]⟩ rfl rfl hl.1 rfl (lv_room (Nat.le_of_ble_eq_true rfl)) dX8_merge_28 ⟨Nat.le_of_ble_eq_true rfl, Nat.le_of_ble_eq_true rfl⟩) hS (fun q _ h => hFc q h) hFc (fun r_16 u t_18 H_15 locs ht hvm hw_17 hB hz1 hk1 hS => ?_)
  obtain ⟨hP, hD, hK⟩ := QW.join (wr := [(h0, .inr (12, [.ref a1, .ref a2, .ref a3, .ref a4, .ref a5, .ref a6, .ref a7, .ref a8, .int tol, .int sal]))]) (w1 := []) hP hD hK [1, 2, 3] [0] rfl rfl (by decide) (by decide) hk1 hFc ht hvm hB
  have hP : va_P G vwCl ([(h0, .inr (12, [.ref a1, .ref a2, .ref a3, .ref a4, .ref a5, .ref a6, .ref a7, .ref a8, .int tol, .int sal]))]) H_15 := hP
  have hD : va_D A ([(h0, .inr (12, [.ref a1, .ref a2, .ref a3, .ref a4, .ref a5, .ref a6, .ref a7, .ref a8, .int tol, .int sal]))]) := hD
  have hK : va_K G vwCl [(cyA, .int), (cyJ, .int)] s := hK
  refine W.widen (k := 4) (n := 24) (Nat.le_of_ble_eq_true rfl) (Nat.le_of_ble_eq_true rfl) ?_
  refine W.widen (k := 4) (n := 24) (Nat.le_of_ble_eq_true rfl) (Nat.le_of_ble_eq_true rfl) ?_
  refine vx_ret ?_
  have hP9 := hP.sub (ws' := []) [] rfl
  have hD9 := hD.sub (ws' := []) [] (by decide) rfl
  have hK9 := hK.sub (tys' := []) [] rfl
  exact W.zret (v := r_16) hx hb hr (by rw [hw_17]; split <;> rfl) (fun t ht hW => ⟨⟨r_16, (), rfl, ⟨by rw [hw_17, ef_12, ef_11, ef_14, ef_13], hw_3, hw_8⟩, QW.of hP9 hK9 hD9 ht hW.alike⟩, hS.F ht⟩) hS.2.2 dX8_merge_31

abbrev wz_J7_fill_53178 : List Cond := .code yJ7_fill_53178 cJ7_fill_53178 4 none :: lw_good
set_option maxHeartbeats 4000000 in
set_option maxRecDepth 100000 in
/-- Arrays.fill(tally, 0) -/
theorem k_J7_fill_53178 (l : Launch) (G : va_G) (z : Nat) (b3 : Nat) (cyT : ClassId) (fT : Nat → Int32) (sz : Nat)  : Met l yJ7_fill_53178 wz_J7_fill_53178 ({ frames := 0, cells := 0, slots := 0, locals := 0 }) (va_Pc [.ref b3, .int 0] (PW G z [(b3, .inl (cyT, 400, .inl (fT)))] [(cyT, .int)] sz)) (va_Qv (fun (_ : Unit) => True) (fun (_ : Unit) (t : State) => ∃ (gT : Nat → Int32), (∀ j, j < 400 → gT j = 0) ∧ QW G [(b3, .inl (cyT, 400, .inl (gT)))] [(cyT, .int)] (va_A [(b3, .inl (cyT, 400, .inl (fT)))] sz) t) (va_A [(b3, .inl (cyT, 400, .inl (fT)))] sz)) 0 0 (va_A [(b3, .inl (cyT, 400, .inl (fT)))] sz) := by
  refine va_MetF (cc := cJ7_fill_53178) (maxL := 4) (ret := none) (by decide) rfl ?_
  intro p e s m args below meth c s₁ B hml hv
  obtain ⟨rfl, rfl, hP, hK, hD0, hG⟩ := hv
  have hx := B.exec
  have hb := B.bytes
  have hr := B.returns
  have hts := atoms_spec (ws := wz_J7_fill_53178) B.pre
  have hg : ∀ w ∈ lw_good, w.before _ s = true := fun w h => hts w (List.mem_cons_of_mem _ h)
  have hown : s.vm.findClass RJ7 = some m.cls := findClass_of_methodNamed B.named
  have hlocks := B.notSynchronized
  have hD := hD0.self (sz := s.heap.size)
  generalize hAe : va_A [(b3, .inl (cyT, 400, .inl (fT)))] s.heap.size = A at hD hG ⊢
  have hA : ∀ q : Nat, s.heap.size ≤ q → A q := fun q h => by rw [← hAe]; exact Or.inr h
  have hS : va_S A s.heap s.heap [] := va_S.rf
  have hl := lv_entry ([.ref b3, .int 0]) (n := 4) (Nat.le_of_ble_eq_true rfl)
  rw [lg_entry_eq]
  generalize (lg_sl ([.ref b3, .int 0]) ++ List.replicate (4 - (lg_sl ([.ref b3, .int 0])).length) Slot.unset).toArray = ls at hl ⊢
  have hl : lv_has ls 4 [(0, .ref b3), (1, .int 0)] := hl
  refine lv_iconst (v := 0) hx hb dJ7_fill_53178_0 (by decide) ?_
  refine lv_istore_n (lv' := [(2, .int 0), (0, .ref b3), (1, .int 0)]) hx hb dJ7_fill_53178_1 rfl hl (by decide) rfl (fun ls hl => ?_)
  refine lv_aload_n hx hb dJ7_fill_53178_2 rfl (lv_at hl 1 rfl) ?_
  refine va_alen (v := 400) hx hb hK hP 0 0 rfl rfl rfl dJ7_fill_53178_3 ?_
  refine lv_istore_n (lv' := [(3, .int 400), (2, .int 0), (0, .ref b3), (1, .int 0)]) hx hb dJ7_fill_53178_4 rfl hl (by decide) rfl (fun ls hl => ?_)
  refine z_loop (P := fun (n : Nat) (x : Nat × (Nat → Int32)) (H : Heap) (locs : List Loc) (ls : Array Slot) => ∃ (i : Nat) (g : Nat → Int32), x = (i, g) ∧ (i ≤ 400 ∧ 401 ≤ i + n ∧ (∀ j, j < i → g j = 0)) ∧ va_P G vwCl ([(b3, .inl (cyT, 400, .inl (g)))]) H ∧ va_D A ([(b3, .inl (cyT, 400, .inl (g)))]) ∧ va_S (A) s.heap H locs ∧ lv_has ls 4 [(3, .int 400), (2, .int (nI i)), (0, .ref b3), (1, .int 0)]) ?_ ?_ (401) ((0, fT)) _ _ _ ⟨0, fT, rfl, ⟨by omega, by omega, fun j h => absurd h (Nat.not_lt_zero j)⟩, hP, hD, hS, lv_sub hl [0, 1, 2, 3] rfl⟩
  · rintro x H locs ls ⟨i, g, rfl, ⟨hi1, hi2, hi3⟩, -⟩
    omega
  · rintro n ih5 x H locs ls ⟨i, g, rfl, ⟨hi1, hi2, hi3⟩, hP, hD, hS, hl⟩
    refine lv_iload_n hx hb dJ7_fill_53178_5 rfl (lv_at hl 1 rfl) ?_
    refine lv_iload_n hx hb dJ7_fill_53178_6 rfl (lv_at hl 0 rfl) ?_
    refine lv_icmp_ge (tgt := 20) hx hb dJ7_fill_53178_7 (by decide) (fun c_1 => ?_) (fun c_1 => ?_)
    · have hge : 400 ≤ i := (nI_leI (a := 400) (by omega) (by omega)).mp c_1
      refine W.widen (k := 0) (n := 0) (Nat.le_of_ble_eq_true rfl) (Nat.le_of_ble_eq_true rfl) ?_
      have hP9 := hP.sub (ws' := [(b3, .inl (cyT, 400, .inl (g)))]) [0] rfl
      have hD9 := hD.sub (ws' := [(b3, .inl (cyT, 400, .inl (g)))]) [0] (by decide) rfl
      have hK9 := hK.sub (tys' := [(cyT, .int)]) [0] rfl
      exact W.vret hx hb hr (fun t ht hW => ⟨⟨(), rfl, trivial, ⟨g, fun j h => hi3 j (by omega), QW.of hP9 hK9 hD9 ht hW.alike⟩⟩, hS.F ht⟩) hS.2.2 dJ7_fill_53178_20
    · have hlt : i < 400 := by
        rcases Nat.lt_or_ge i (400) with q | q
        · exact q
        · exact absurd (nI_le (a := 400) q (by omega)) c_1
      refine lv_aload_n hx hb dJ7_fill_53178_10 rfl (lv_at hl 2 rfl) ?_
      refine lv_iload_n hx hb dJ7_fill_53178_11 rfl (lv_at hl 1 rfl) ?_
      refine lv_iload_n hx hb dJ7_fill_53178_12 rfl (lv_at hl 3 rfl) ?_
      refine va_iast hx hb hK hP hD hS 0 0 rfl rfl (vp_in_nI hlt (by decide)) dJ7_fill_53178_13 (fun H_2 locs hP hD hS => ?_)
      have hP : va_P G vwCl ([(b3, .inl (cyT, 400, .inl (upd (g) ((nI i) : Int32).toNatClampNeg (0))))]) H_2 := hP
      have hD : va_D A ([(b3, .inl (cyT, 400, .inl (upd (g) ((nI i) : Int32).toNatClampNeg (0))))]) := hD
      refine lv_iinc (v := (nI (i + 1))) (lv' := [(2, .int (nI (i + 1))), (3, .int 400), (0, .ref b3), (1, .int 0)]) hx hb dJ7_fill_53178_14 hl (k := 1) rfl (nI_1 _) (by decide) rfl (fun ls hl => ?_)
      refine lv_goto (tgt := 5) hx hb dJ7_fill_53178_17 (by decide) ?_
      exact ih5 ((i + 1, upd g (nI i).toNatClampNeg 0)) _ _ _ ⟨i + 1, upd g (nI i).toNatClampNeg 0, rfl, ⟨by omega, by omega, fun j h => by rw [nI_clamp (by omega)]; exact (Nat.lt_succ_iff_lt_or_eq.mp h).elim (fun h => by rw [z_upd_ne (by omega)]; exact hi3 j h) (fun h => by rw [h]; exact z_upd_same)⟩, hP, hD, hS, lv_sub hl [1, 0, 2, 3] rfl⟩

abbrev wz_X6_clashesAmong : List Cond := .code yX6_clashesAmong cX6_clashesAmong 6 (Option.some Jvm.ClassFile.FieldType.int) :: lw_good
set_option maxHeartbeats 4000000 in
set_option maxRecDepth 100000 in
/-- clashesAmong: nothing is merged -/
theorem k_X6_clashesAmong (l : Launch) (G : va_G) (z : Nat) (h0 : Nat) (b1 : Nat) (b2 : Nat) (b3 : Nat) (cyA : ClassId) (cyT : ClassId) (fT : Nat → Int32) (p0 : Int32) (p1 : Int32) (a : Nat) (sz : Nat) (ha : a + 100 ≤ 400) (h0e : p0 = nI a) (h1e : p1 = nI (a + 100)) : Met l yX6_clashesAmong wz_X6_clashesAmong ({ frames := 1, cells := 0, slots := 0, locals := 23 }) (va_Pc [.ref h0, .int p0, .int p1] (PW G z [(h0, .inr (10, [.ref b1, .ref b2, .ref b3, .int 0])), (b1, .inl (cyA, 400, .inl (nI))), (b3, .inl (cyT, 400, .inl (fT)))] [(cyA, .int), (cyT, .int)] sz)) (va_Qi (fun (r : Int32) (_ : Unit) => r = 0) (fun (_ : Unit) (t : State) => ∃ (gT : Nat → Int32), QW G [(h0, .inr (10, [.ref b1, .ref b2, .ref b3, .int 0])), (b1, .inl (cyA, 400, .inl (nI))), (b3, .inl (cyT, 400, .inl (gT)))] [(cyA, .int), (cyT, .int)] (va_A [(h0, .inr (10, [.ref b1, .ref b2, .ref b3, .int 0])), (b1, .inl (cyA, 400, .inl (nI))), (b3, .inl (cyT, 400, .inl (fT)))] sz) t) (va_A [(h0, .inr (10, [.ref b1, .ref b2, .ref b3, .int 0])), (b1, .inl (cyA, 400, .inl (nI))), (b3, .inl (cyT, 400, .inl (fT)))] sz)) 0 0 (va_A [(h0, .inr (10, [.ref b1, .ref b2, .ref b3, .int 0])), (b1, .inl (cyA, 400, .inl (nI))), (b3, .inl (cyT, 400, .inl (fT)))] sz) := by
  refine Met.ofW (cc := cX6_clashesAmong) (maxL := 6) (ret := (Option.some Jvm.ClassFile.FieldType.int)) (by decide) rfl ?_
  intro p e s m args below meth c s₁ B hml hv
  obtain ⟨rfl, rfl, hP, hK, hD0, hG⟩ := hv
  have hx := B.exec
  have hb := B.bytes
  have hr := B.returns
  have hts := atoms_spec (ws := wz_X6_clashesAmong) B.pre
  have hg : ∀ w ∈ lw_good, w.before _ s = true := fun w h => hts w (List.mem_cons_of_mem _ h)
  have hown : s.vm.findClass RX6 = some m.cls := findClass_of_methodNamed B.named
  have hlocks := B.notSynchronized
  have hD := hD0.self (sz := s.heap.size)
  generalize hAe : va_A [(h0, .inr (10, [.ref b1, .ref b2, .ref b3, .int 0])), (b1, .inl (cyA, 400, .inl (nI))), (b3, .inl (cyT, 400, .inl (fT)))] s.heap.size = A at hD hG ⊢
  have hA : ∀ q : Nat, s.heap.size ≤ q → A q := fun q h => by rw [← hAe]; exact Or.inr h
  have hS : va_S A s.heap s.heap [] := va_S.rf
  have hl := lv_entry ([.ref h0, .int p0, .int p1]) (n := 6) (Nat.le_of_ble_eq_true rfl)
  rw [lg_entry_eq]
  generalize (lg_sl ([.ref h0, .int p0, .int p1]) ++ List.replicate (6 - (lg_sl ([.ref h0, .int p0, .int p1])).length) Slot.unset).toArray = ls at hl ⊢
  have hl : lv_has ls 6 [(0, .ref h0), (1, .int p0), (2, .int p1)] := hl
  refine lv_aload_n hx hb dX6_clashesAmong_0 rfl (lv_at hl 0 rfl) ?_
  refine va_get (D := G) (ci := 10) (v := .ref b3) (C := RX6) (T := TX6) (N := 4) hx hb hg in_X6 hown hK hP 0 rfl rfl 2 (by decide) (hg _ q82) (fun _ h9 => h9) rfl dX6_clashesAmong_1 ?_
  refine lv_iconst (v := 0) hx hb dX6_clashesAmong_4 (by decide) ?_
  have hPc := hP.sub (ws' := [(b3, .inl (cyT, 400, .inl (fT)))]) [2] rfl
  have hKc := hK.sub (tys' := [(cyT, .int)]) [1] rfl
  have hDc := hD.sub (ws' := [(b3, .inl (cyT, 400, .inl (fT)))]) [2] (by decide) rfl
  have hFc := va_free (wc := [(b3, .inl (cyT, 400, .inl (fT)))]) hD hS hA [2] rfl
  refine va_callv (va_runS (As := [.ref b3, .int 0]) (rest := []) ⟨hx, hb, hml, hown, hts⟩ (k_J7_fill_53178 l G z b3 cyT fT s.heap.size ) (va_cwS 2 hts (lw_goodApp (lw_3 q210 q211 q16) q212) rfl rfl rfl (by decide +kernel) ⟨Nat.le_of_ble_eq_true rfl, Nat.le_of_ble_eq_true rfl⟩) ⟨PW.blind, PW.of hPc hKc hDc hG hS hFc [.ref b3, .int 0]⟩ rfl rfl hl.1 rfl (lv_room (Nat.le_of_ble_eq_true rfl)) dX6_clashesAmong_5 ⟨Nat.le_of_ble_eq_true rfl, Nat.le_of_ble_eq_true rfl⟩) hS (fun q _ h => hFc q h) hFc (fun u t_4 H_1 locs ht hvm hw_3 hB hz1 hk1 hS => ?_)
  obtain ⟨gT_5, hf_6, hB⟩ := hB
  obtain ⟨hP, hD, hK⟩ := QW.join (wr := [(h0, .inr (10, [.ref b1, .ref b2, .ref b3, .int 0])), (b1, .inl (cyA, 400, .inl (nI)))]) (w1 := [(b3, .inl (cyT, 400, .inl (gT_5)))]) hP hD hK [2] [0, 1] rfl rfl (by decide) (by decide) hk1 hFc ht hvm hB
  have hP : va_P G vwCl ([(h0, .inr (10, [.ref b1, .ref b2, .ref b3, .int 0])), (b1, .inl (cyA, 400, .inl (nI))), (b3, .inl (cyT, 400, .inl (gT_5)))]) H_1 := hP
  have hD : va_D A ([(h0, .inr (10, [.ref b1, .ref b2, .ref b3, .int 0])), (b1, .inl (cyA, 400, .inl (nI))), (b3, .inl (cyT, 400, .inl (gT_5)))]) := hD
  have hK : va_K G vwCl [(cyA, .int), (cyT, .int), (cyT, .int)] s := hK
  refine W.widen (k := 0) (n := 0) (Nat.le_of_ble_eq_true rfl) (Nat.le_of_ble_eq_true rfl) ?_
  have hT0 := hf_6
  subst h0e
  subst h1e
  refine lv_iconst (v := 0) hx hb dX6_clashesAmong_8 (by decide) ?_
  refine lv_istore_n (lv' := [(3, .int 0), (0, .ref h0), (1, .int (nI a)), (2, .int (nI (a + 100)))]) hx hb dX6_clashesAmong_9 rfl hl (by decide) rfl (fun ls hl => ?_)
  refine lv_iload_n hx hb dX6_clashesAmong_10 rfl (lv_at hl 2 rfl) ?_
  refine lv_istore (lv' := [(4, .int (nI a)), (3, .int 0), (0, .ref h0), (1, .int (nI a)), (2, .int (nI (a + 100)))]) hx hb dX6_clashesAmong_11 hl (by decide) rfl (fun ls hl => ?_)
  refine z_loop (P := fun (n : Nat) (x : Nat × (Nat → Int32)) (H : Heap) (locs : List Loc) (ls : Array Slot) => ∃ (i : Nat) (g : Nat → Int32), x = (i, g) ∧ (i ≤ a + 100 ∧ a + 101 ≤ i + n ∧ (∀ j, i ≤ j → j < 400 → g j = 0)) ∧ va_P G vwCl ([(h0, .inr (10, [.ref b1, .ref b2, .ref b3, .int 0])), (b1, .inl (cyA, 400, .inl (nI))), (b3, .inl (cyT, 400, .inl (g)))]) H ∧ va_D A ([(h0, .inr (10, [.ref b1, .ref b2, .ref b3, .int 0])), (b1, .inl (cyA, 400, .inl (nI))), (b3, .inl (cyT, 400, .inl (g)))]) ∧ va_S (A) s.heap H locs ∧ lv_has ls 6 [(4, .int (nI i)), (3, .int 0), (0, .ref h0), (1, .int (nI a)), (2, .int (nI (a + 100)))]) ?_ ?_ (101) ((a, gT_5)) _ _ _ ⟨a, gT_5, rfl, ⟨by omega, by omega, fun j _ h => hT0 j h⟩, hP, hD, hS, lv_sub hl [0, 1, 2, 3, 4] rfl⟩
  · rintro x H locs ls ⟨i, g, rfl, ⟨hi1, hi2, hi3⟩, -⟩
    omega
  · rintro n ih13 x H locs ls ⟨i, g, rfl, ⟨hi1, hi2, hi3⟩, hP, hD, hS, hl⟩
    refine lv_iload hx hb dX6_clashesAmong_13 (lv_at hl 0 rfl) ?_
    refine lv_iload_n hx hb dX6_clashesAmong_15 rfl (lv_at hl 4 rfl) ?_
    refine lv_icmp_ge (tgt := 78) hx hb dX6_clashesAmong_16 (by decide) (fun c_7 => ?_) (fun c_7 => ?_)
    · refine lv_iload_n hx hb dX6_clashesAmong_78 rfl (lv_at hl 1 rfl) ?_
      refine W.widen (k := 0) (n := 0) (Nat.le_of_ble_eq_true rfl) (Nat.le_of_ble_eq_true rfl) ?_
      have hP9 := hP.sub (ws' := [(h0, .inr (10, [.ref b1, .ref b2, .ref b3, .int 0])), (b1, .inl (cyA, 400, .inl (nI))), (b3, .inl (cyT, 400, .inl (g)))]) [0, 1, 2] rfl
      have hD9 := hD.sub (ws' := [(h0, .inr (10, [.ref b1, .ref b2, .ref b3, .int 0])), (b1, .inl (cyA, 400, .inl (nI))), (b3, .inl (cyT, 400, .inl (g)))]) [0, 1, 2] (by decide) rfl
      have hK9 := hK.sub (tys' := [(cyA, .int), (cyT, .int)]) [0, 1] rfl
      exact W.iret (v := 0) hx hb hr (fun t ht hW => ⟨⟨0, (), rfl, rfl, ⟨g, QW.of hP9 hK9 hD9 ht hW.alike⟩⟩, hS.F ht⟩) hS.2.2 dX6_clashesAmong_79
    · have hlt : i < a + 100 := by
        rcases Nat.lt_or_ge i (a + 100) with q | q
        · exact q
        · exact absurd (nI_le (a := a + 100) q (by omega)) c_7
      have hin : vp_in (nI i) 400 := vp_in_nI (by omega) (by decide)
      refine lv_aload_n hx hb dX6_clashesAmong_19 rfl (lv_at hl 2 rfl) ?_
      refine lv_iload hx hb dX6_clashesAmong_20 (lv_at hl 0 rfl) ?_
      have hPc := hP.sub (ws' := [(h0, .inr (10, [.ref b1, .ref b2, .ref b3, .int 0])), (b1, .inl (cyA, 400, .inl (nI)))]) [0, 1] rfl
      have hKc := hK.sub (tys' := [(cyA, .int)]) [0] rfl
      refine va_calli (va_runV (As := [.int (nI i)]) (rest := []) ⟨hx, hb, hml, hown, hts⟩ (k_X6_lowestOf l G z h0 b1 b2 b3 cyA ((nI i)) H.size hin) (cwV 1 hts (lw_goodApp (lw_4 q213 q214 q215 q5) q216) rfl rfl rfl (by decide +kernel) ⟨Nat.le_of_ble_eq_true rfl, Nat.le_of_ble_eq_true rfl⟩) ⟨PR.blind, va_recv hK hP (ci := 10) (q0 := 0) rfl rfl, PR.of hPc hKc hG hS hA [.ref h0, .int (nI i)]⟩ rfl rfl hl.1 rfl (lv_room (Nat.le_of_ble_eq_true rfl)) dX6_clashesAmong_22 ⟨Nat.le_of_ble_eq_true rfl, Nat.le_of_ble_eq_true rfl⟩) hS (fun q h9 h => zN.not h9 h) (fun q h => hA q (Nat.le_trans hS.1 h)) (fun r_9 u t_11 H_8 locs ht hvm hw_10 hB hz1 hk1 hS => ?_)
      have hP := hP.grown hk1
      refine W.widen (k := 0) (n := 0) (Nat.le_of_ble_eq_true rfl) (Nat.le_of_ble_eq_true rfl) ?_
      obtain rfl : (nI i) = r_9 := hw_10.symm
      refine lv_istore (lv' := [(5, .int (nI i)), (4, .int (nI i)), (3, .int 0), (0, .ref h0), (1, .int (nI a)), (2, .int (nI (a + 100)))]) hx hb dX6_clashesAmong_25 hl (by decide) rfl (fun ls hl => ?_)
      refine lv_aload_n hx hb dX6_clashesAmong_27 rfl (lv_at hl 3 rfl) ?_
      refine va_get (D := G) (ci := 10) (v := .ref b3) (C := RX6) (T := TX6) (N := 4) hx hb hg in_X6 hown hK hP 0 rfl rfl 2 (by decide) (hg _ q82) (fun _ h9 => h9) rfl dX6_clashesAmong_28 ?_
      refine lv_iload hx hb dX6_clashesAmong_31 (lv_at hl 0 rfl) ?_
      refine lv_dup2_11 hx hb dX6_clashesAmong_33 rfl rfl ?_
      refine va_iald hx hb hK hP 2 1 rfl rfl hin dX6_clashesAmong_34 ?_
      refine lv_topi (fun f_12 ef_12 => ?_)
      obtain rfl : f_12 = 0 := (ef_12.trans (by rw [nI_clamp (by omega)]; exact hi3 i (Nat.le_refl i) (by omega)))
      refine lv_iconst (v := 1) hx hb dX6_clashesAmong_35 (by decide) ?_
      refine lv_iadd hx hb dX6_clashesAmong_36 ?_
      refine lv_topi (fun f_13 ef_13 => ?_)
      obtain rfl : f_13 = 1 := ef_13.trans (by decide)
      refine va_iast hx hb hK hP hD hS 2 1 rfl rfl hin dX6_clashesAmong_37 (fun H_14 locs hP hD hS => ?_)
      have hP : va_P G vwCl ([(h0, .inr (10, [.ref b1, .ref b2, .ref b3, .int 0])), (b1, .inl (cyA, 400, .inl (nI))), (b3, .inl (cyT, 400, .inl (upd (g) ((nI i) : Int32).toNatClampNeg (1))))]) H_14 := hP
      have hD : va_D A ([(h0, .inr (10, [.ref b1, .ref b2, .ref b3, .int 0])), (b1, .inl (cyA, 400, .inl (nI))), (b3, .inl (cyT, 400, .inl (upd (g) ((nI i) : Int32).toNatClampNeg (1))))]) := hD
      refine lv_iload_n hx hb dX6_clashesAmong_38 rfl (lv_at hl 2 rfl) ?_
      refine lv_aload_n hx hb dX6_clashesAmong_39 rfl (lv_at hl 3 rfl) ?_
      refine va_get (D := G) (ci := 10) (v := .ref b3) (C := RX6) (T := TX6) (N := 4) hx hb hg in_X6 hown hK hP 0 rfl rfl 2 (by decide) (hg _ q82) (fun _ h9 => h9) rfl dX6_clashesAmong_40 ?_
      refine lv_iload hx hb dX6_clashesAmong_43 (lv_at hl 0 rfl) ?_
      refine va_iald hx hb hK hP 2 1 rfl rfl hin dX6_clashesAmong_45 ?_
      refine lv_topi (fun f_15 ef_15 => ?_)
      obtain rfl : f_15 = 1 := (ef_15.trans z_upd_same)
      refine lv_iconst (v := 1) hx hb dX6_clashesAmong_46 (by decide) ?_
      refine lv_icmp_ne (tgt := 54) hx hb dX6_clashesAmong_47 (by decide) (fun c_16 => absurd rfl c_16) (fun c_16 => ?_)
      refine lv_iconst (v := 0) hx hb dX6_clashesAmong_50 (by decide) ?_
      refine lv_goto (tgt := 70) hx hb dX6_clashesAmong_51 (by decide) ?_
      refine lv_iadd hx hb dX6_clashesAmong_70 ?_
      refine lv_topi (fun f_17 ef_17 => ?_)
      obtain rfl : f_17 = 0 := ef_17.trans (by decide)
      refine lv_istore_n (lv' := [(3, .int 0), (5, .int (nI i)), (4, .int (nI i)), (0, .ref h0), (1, .int (nI a)), (2, .int (nI (a + 100)))]) hx hb dX6_clashesAmong_71 rfl hl (by decide) rfl (fun ls hl => ?_)
      refine lv_iinc (v := (nI (i + 1))) (lv' := [(4, .int (nI (i + 1))), (3, .int 0), (5, .int (nI i)), (0, .ref h0), (1, .int (nI a)), (2, .int (nI (a + 100)))]) hx hb dX6_clashesAmong_72 hl (k := 2) rfl (nI_1 _) (by decide) rfl (fun ls hl => ?_)
      refine lv_goto (tgt := 13) hx hb dX6_clashesAmong_75 (by decide) ?_
      exact ih13 ((i + 1, upd g (nI i).toNatClampNeg 1)) _ _ _ ⟨i + 1, upd g (nI i).toNatClampNeg 1, rfl, ⟨by omega, by omega, fun j h h2 => by rw [nI_clamp (by omega), z_upd_ne (by omega)]; exact hi3 j (by omega) h2⟩, hP, hD, hS, lv_sub hl [0, 1, 3, 4, 5] rfl⟩

abbrev wz_X8_clashes : List Cond := .code yX8_clashes cX8_clashes 3 (Option.some Jvm.ClassFile.FieldType.int) :: lw_good
set_option maxHeartbeats 4000000 in
set_option maxRecDepth 100000 in
/-- clashes: nothing is merged -/
theorem k_X8_clashes (l : Launch) (G : va_G) (z : Nat) (h0 : Nat) (a1 : Nat) (a2 : Nat) (a3 : Nat) (a4 : Nat) (a5 : Nat) (a6 : Nat) (a7 : Nat) (a8 : Nat) (tol : Int32) (sal : Int32) (b1 : Nat) (b2 : Nat) (b3 : Nat) (cyA : ClassId) (cyT : ClassId) (fT : Nat → Int32) (sz : Nat)  : Met l yX8_clashes wz_X8_clashes ({ frames := 2, cells := 0, slots := 0, locals := 48 }) (va_Pc [.ref h0] (PW G z [(h0, .inr (12, [.ref a1, .ref a2, .ref a3, .ref a4, .ref a5, .ref a6, .ref a7, .ref a8, .int tol, .int sal])), (a6, .inr (10, [.ref b1, .ref b2, .ref b3, .int 0])), (b1, .inl (cyA, 400, .inl (nI))), (b3, .inl (cyT, 400, .inl (fT)))] [(cyA, .int), (cyT, .int)] sz)) (va_Qi (fun (r : Int32) (_ : Unit) => r = 0) (fun (_ : Unit) (t : State) => QW G [] [] (va_A [(h0, .inr (12, [.ref a1, .ref a2, .ref a3, .ref a4, .ref a5, .ref a6, .ref a7, .ref a8, .int tol, .int sal])), (a6, .inr (10, [.ref b1, .ref b2, .ref b3, .int 0])), (b1, .inl (cyA, 400, .inl (nI))), (b3, .inl (cyT, 400, .inl (fT)))] sz) t) (va_A [(h0, .inr (12, [.ref a1, .ref a2, .ref a3, .ref a4, .ref a5, .ref a6, .ref a7, .ref a8, .int tol, .int sal])), (a6, .inr (10, [.ref b1, .ref b2, .ref b3, .int 0])), (b1, .inl (cyA, 400, .inl (nI))), (b3, .inl (cyT, 400, .inl (fT)))] sz)) 0 0 (va_A [(h0, .inr (12, [.ref a1, .ref a2, .ref a3, .ref a4, .ref a5, .ref a6, .ref a7, .ref a8, .int tol, .int sal])), (a6, .inr (10, [.ref b1, .ref b2, .ref b3, .int 0])), (b1, .inl (cyA, 400, .inl (nI))), (b3, .inl (cyT, 400, .inl (fT)))] sz) := by
  refine Met.ofW (cc := cX8_clashes) (maxL := 3) (ret := (Option.some Jvm.ClassFile.FieldType.int)) (by decide) rfl ?_
  intro p e s m args below meth c s₁ B hml hv
  obtain ⟨rfl, rfl, hP, hK, hD0, hG⟩ := hv
  have hx := B.exec
  have hb := B.bytes
  have hr := B.returns
  have hts := atoms_spec (ws := wz_X8_clashes) B.pre
  have hg : ∀ w ∈ lw_good, w.before _ s = true := fun w h => hts w (List.mem_cons_of_mem _ h)
  have hown : s.vm.findClass RX8 = some m.cls := findClass_of_methodNamed B.named
  have hlocks := B.notSynchronized
  have hD := hD0.self (sz := s.heap.size)
  generalize hAe : va_A [(h0, .inr (12, [.ref a1, .ref a2, .ref a3, .ref a4, .ref a5, .ref a6, .ref a7, .ref a8, .int tol, .int sal])), (a6, .inr (10, [.ref b1, .ref b2, .ref b3, .int 0])), (b1, .inl (cyA, 400, .inl (nI))), (b3, .inl (cyT, 400, .inl (fT)))] s.heap.size = A at hD hG ⊢
  have hA : ∀ q : Nat, s.heap.size ≤ q → A q := fun q h => by rw [← hAe]; exact Or.inr h
  have hS : va_S A s.heap s.heap [] := va_S.rf
  have hl := lv_entry ([.ref h0]) (n := 3) (Nat.le_of_ble_eq_true rfl)
  rw [lg_entry_eq]
  generalize (lg_sl ([.ref h0]) ++ List.replicate (3 - (lg_sl ([.ref h0])).length) Slot.unset).toArray = ls at hl ⊢
  have hl : lv_has ls 3 [(0, .ref h0)] := hl
  refine lv_iconst (v := 0) hx hb dX8_clashes_0 (by decide) ?_
  refine lv_istore_n (lv' := [(1, .int 0), (0, .ref h0)]) hx hb dX8_clashes_1 rfl hl (by decide) rfl (fun ls hl => ?_)
  refine lv_iconst (v := 0) hx hb dX8_clashes_2 (by decide) ?_
  refine lv_istore_n (lv' := [(2, .int 0), (1, .int 0), (0, .ref h0)]) hx hb dX8_clashes_3 rfl hl (by decide) rfl (fun ls hl => ?_)
  refine lv_iload_n hx hb dX8_clashes_4 rfl (lv_at hl 0 rfl) ?_
  refine lv_iconst (v := 3) hx hb dX8_clashes_5 (by decide) ?_
  refine lv_icmp_gt (tgt := 36) hx hb dX8_clashes_6 (by decide) (fun c_1 => absurd c_1 (by decide)) (fun c_1 => ?_)
  refine lv_iload_n hx hb dX8_clashes_9 rfl (lv_at hl 1 rfl) ?_
  refine lv_aload_n hx hb dX8_clashes_10 rfl (lv_at hl 2 rfl) ?_
  refine va_get (D := G) (ci := 12) (v := .ref a6) (C := RX8) (T := TX8) (N := 10) hx hb hg in_X8 hown hK hP 0 rfl rfl 5 (by decide) (hg _ q130) (fun _ h9 => h9) rfl dX8_clashes_11 ?_
  refine lv_bipush (v := 100) hx hb dX8_clashes_14 (by decide) ?_
  refine lv_iload_n hx hb dX8_clashes_16 rfl (lv_at hl 0 rfl) ?_
  refine lv_imul hx hb dX8_clashes_17 ?_
  refine lv_topi (fun f_2 ef_2 => ?_)
  obtain rfl : f_2 = 0 := ef_2.trans (by decide)
  refine lv_bipush (v := 100) hx hb dX8_clashes_18 (by decide) ?_
  refine lv_iload_n hx hb dX8_clashes_20 rfl (lv_at hl 0 rfl) ?_
  refine lv_imul hx hb dX8_clashes_21 ?_
  refine lv_topi (fun f_3 ef_3 => ?_)
  obtain rfl : f_3 = 0 := ef_3.trans (by decide)
  refine lv_bipush (v := 100) hx hb dX8_clashes_22 (by decide) ?_
  refine lv_iadd hx hb dX8_clashes_24 ?_
  refine lv_topi (fun f_4 ef_4 => ?_)
  obtain rfl : f_4 = 100 := ef_4.trans (by decide)
  have hPc := hP.sub (ws' := [(a6, .inr (10, [.ref b1, .ref b2, .ref b3, .int 0])), (b1, .inl (cyA, 400, .inl (nI))), (b3, .inl (cyT, 400, .inl (fT)))]) [1, 2, 3] rfl
  have hKc := hK.sub (tys' := [(cyA, .int), (cyT, .int)]) [0, 1] rfl
  have hDc := hD.sub (ws' := [(a6, .inr (10, [.ref b1, .ref b2, .ref b3, .int 0])), (b1, .inl (cyA, 400, .inl (nI))), (b3, .inl (cyT, 400, .inl (fT)))]) [1, 2, 3] (by decide) rfl
  have hFc := va_free (wc := [(a6, .inr (10, [.ref b1, .ref b2, .ref b3, .int 0])), (b1, .inl (cyA, 400, .inl (nI))), (b3, .inl (cyT, 400, .inl (fT)))]) hD hS hA [1, 2, 3] rfl
  refine va_calli (va_runV (As := [.int 0, .int 100]) (rest := [.int 0]) ⟨hx, hb, hml, hown, hts⟩ (k_X6_clashesAmong l G z a6 b1 b2 b3 cyA cyT fT 0 100 0 s.heap.size (by decide) rfl rfl) (cwV 2 hts (lw_goodApp (lw_4 q206 q207 q208 q5) q209) rfl rfl rfl (by decide +kernel) ⟨Nat.le_of_ble_eq_true rfl, Nat.le_of_ble_eq_true rfl⟩) ⟨PW.blind, va_recv hK hP (ci := 10) (q0 := 1) rfl rfl, PW.of hPc hKc hDc hG hS hFc [.ref a6, .int 0, .int 100]⟩ rfl rfl hl.1 rfl (lv_room (Nat.le_of_ble_eq_true rfl)) dX8_clashes_25 ⟨Nat.le_of_ble_eq_true rfl, Nat.le_of_ble_eq_true rfl⟩) hS (fun q _ h => hFc q h) hFc (fun r_6 u t_8 H_5 locs ht hvm hw_7 hB hz1 hk1 hS => ?_)
  obtain ⟨gT_9, hB⟩ := hB
  obtain ⟨hP, hD, hK⟩ := QW.join (wr := [(h0, .inr (12, [.ref a1, .ref a2, .ref a3, .ref a4, .ref a5, .ref a6, .ref a7, .ref a8, .int tol, .int sal]))]) (w1 := [(a6, .inr (10, [.ref b1, .ref b2, .ref b3, .int 0])), (b1, .inl (cyA, 400, .inl (nI))), (b3, .inl (cyT, 400, .inl (gT_9)))]) hP hD hK [1, 2, 3] [0] rfl rfl (by decide) (by decide) hk1 hFc ht hvm hB
  have hP : va_P G vwCl ([(h0, .inr (12, [.ref a1, .ref a2, .ref a3, .ref a4, .ref a5, .ref a6, .ref a7, .ref a8, .int tol, .int sal])), (a6, .inr (10, [.ref b1, .ref b2, .ref b3, .int 0])), (b1, .inl (cyA, 400, .inl (nI))), (b3, .inl (cyT, 400, .inl (gT_9)))]) H_5 := hP
  have hD : va_D A ([(h0, .inr (12, [.ref a1, .ref a2, .ref a3, .ref a4, .ref a5, .ref a6, .ref a7, .ref a8, .int tol, .int sal])), (a6, .inr (10, [.ref b1, .ref b2, .ref b3, .int 0])), (b1, .inl (cyA, 400, .inl (nI))), (b3, .inl (cyT, 400, .inl (gT_9)))]) := hD
  have hK : va_K G vwCl [(cyA, .int), (cyT, .int), (cyA, .int), (cyT, .int)] s := hK
  refine W.widen (k := 0) (n := 0) (Nat.le_of_ble_eq_true rfl) (Nat.le_of_ble_eq_true rfl) ?_
  obtain rfl : 0 = r_6 := hw_7.symm
  refine lv_iadd hx hb dX8_clashes_28 ?_
  refine lv_topi (fun f_10 ef_10 => ?_)
  obtain rfl : f_10 = 0 := ef_10.trans (by decide)
  refine lv_istore_n (lv' := [(1, .int 0), (2, .int 0), (0, .ref h0)]) hx hb dX8_clashes_29 rfl hl (by decide) rfl (fun ls hl => ?_)
  refine lv_iinc (v := 1) (lv' := [(2, .int 1), (1, .int 0), (0, .ref h0)]) hx hb dX8_clashes_30 hl (k := 1) rfl rfl (by decide) rfl (fun ls hl => ?_)
  refine lv_goto (tgt := 4) hx hb dX8_clashes_33 (by decide) ?_
  refine lv_iload_n hx hb dX8_clashes_4 rfl (lv_at hl 0 rfl) ?_
  refine lv_iconst (v := 3) hx hb dX8_clashes_5 (by decide) ?_
  refine lv_icmp_gt (tgt := 36) hx hb dX8_clashes_6 (by decide) (fun c_11 => absurd c_11 (by decide)) (fun c_11 => ?_)
  refine lv_iload_n hx hb dX8_clashes_9 rfl (lv_at hl 1 rfl) ?_
  refine lv_aload_n hx hb dX8_clashes_10 rfl (lv_at hl 2 rfl) ?_
  refine va_get (D := G) (ci := 12) (v := .ref a6) (C := RX8) (T := TX8) (N := 10) hx hb hg in_X8 hown hK hP 0 rfl rfl 5 (by decide) (hg _ q130) (fun _ h9 => h9) rfl dX8_clashes_11 ?_
  refine lv_bipush (v := 100) hx hb dX8_clashes_14 (by decide) ?_
  refine lv_iload_n hx hb dX8_clashes_16 rfl (lv_at hl 0 rfl) ?_
  refine lv_imul hx hb dX8_clashes_17 ?_
  refine lv_topi (fun f_12 ef_12 => ?_)
  obtain rfl : f_12 = 100 := ef_12.trans (by decide)
  refine lv_bipush (v := 100) hx hb dX8_clashes_18 (by decide) ?_
  refine lv_iload_n hx hb dX8_clashes_20 rfl (lv_at hl 0 rfl) ?_
  refine lv_imul hx hb dX8_clashes_21 ?_
  refine lv_topi (fun f_13 ef_13 => ?_)
  obtain rfl : f_13 = 100 := ef_13.trans (by decide)
  refine lv_bipush (v := 100) hx hb dX8_clashes_22 (by decide) ?_
  refine lv_iadd hx hb dX8_clashes_24 ?_
  refine lv_topi (fun f_14 ef_14 => ?_)
  obtain rfl : f_14 = 200 := ef_14.trans (by decide)
  have hPc := hP.sub (ws' := [(a6, .inr (10, [.ref b1, .ref b2, .ref b3, .int 0])), (b1, .inl (cyA, 400, .inl (nI))), (b3, .inl (cyT, 400, .inl (gT_9)))]) [1, 2, 3] rfl
  have hKc := hK.sub (tys' := [(cyA, .int), (cyT, .int)]) [0, 1] rfl
  have hDc := hD.sub (ws' := [(a6, .inr (10, [.ref b1, .ref b2, .ref b3, .int 0])), (b1, .inl (cyA, 400, .inl (nI))), (b3, .inl (cyT, 400, .inl (gT_9)))]) [1, 2, 3] (by decide) rfl
  have hFc := va_free (wc := [(a6, .inr (10, [.ref b1, .ref b2, .ref b3, .int 0])), (b1, .inl (cyA, 400, .inl (nI))), (b3, .inl (cyT, 400, .inl (gT_9)))]) hD hS hA [1, 2, 3] rfl
  refine va_calli (va_runV (As := [.int 100, .int 200]) (rest := [.int 0]) ⟨hx, hb, hml, hown, hts⟩ (k_X6_clashesAmong l G z a6 b1 b2 b3 cyA cyT gT_9 100 200 100 H_5.size (by decide) rfl rfl) (cwV 2 hts (lw_goodApp (lw_4 q206 q207 q208 q5) q209) rfl rfl rfl (by decide +kernel) ⟨Nat.le_of_ble_eq_true rfl, Nat.le_of_ble_eq_true rfl⟩) ⟨PW.blind, va_recv hK hP (ci := 10) (q0 := 1) rfl rfl, PW.of hPc hKc hDc hG hS hFc [.ref a6, .int 100, .int 200]⟩ rfl rfl hl.1 rfl (lv_room (Nat.le_of_ble_eq_true rfl)) dX8_clashes_25 ⟨Nat.le_of_ble_eq_true rfl, Nat.le_of_ble_eq_true rfl⟩) hS (fun q _ h => hFc q h) hFc (fun r_16 u t_18 H_15 locs ht hvm hw_17 hB hz1 hk1 hS => ?_)
  obtain ⟨gT_19, hB⟩ := hB
  obtain ⟨hP, hD, hK⟩ := QW.join (wr := [(h0, .inr (12, [.ref a1, .ref a2, .ref a3, .ref a4, .ref a5, .ref a6, .ref a7, .ref a8, .int tol, .int sal]))]) (w1 := [(a6, .inr (10, [.ref b1, .ref b2, .ref b3, .int 0])), (b1, .inl (cyA, 400, .inl (nI))), (b3, .inl (cyT, 400, .inl (gT_19)))]) hP hD hK [1, 2, 3] [0] rfl rfl (by decide) (by decide) hk1 hFc ht hvm hB
  have hP : va_P G vwCl ([(h0, .inr (12, [.ref a1, .ref a2, .ref a3, .ref a4, .ref a5, .ref a6, .ref a7, .ref a8, .int tol, .int sal])), (a6, .inr (10, [.ref b1, .ref b2, .ref b3, .int 0])), (b1, .inl (cyA, 400, .inl (nI))), (b3, .inl (cyT, 400, .inl (gT_19)))]) H_15 := hP
  have hD : va_D A ([(h0, .inr (12, [.ref a1, .ref a2, .ref a3, .ref a4, .ref a5, .ref a6, .ref a7, .ref a8, .int tol, .int sal])), (a6, .inr (10, [.ref b1, .ref b2, .ref b3, .int 0])), (b1, .inl (cyA, 400, .inl (nI))), (b3, .inl (cyT, 400, .inl (gT_19)))]) := hD
  have hK : va_K G vwCl [(cyA, .int), (cyT, .int), (cyA, .int), (cyT, .int), (cyA, .int), (cyT, .int)] s := hK
  refine W.widen (k := 0) (n := 0) (Nat.le_of_ble_eq_true rfl) (Nat.le_of_ble_eq_true rfl) ?_
  obtain rfl : 0 = r_16 := hw_17.symm
  refine lv_iadd hx hb dX8_clashes_28 ?_
  refine lv_topi (fun f_20 ef_20 => ?_)
  obtain rfl : f_20 = 0 := ef_20.trans (by decide)
  refine lv_istore_n (lv' := [(1, .int 0), (2, .int 1), (0, .ref h0)]) hx hb dX8_clashes_29 rfl hl (by decide) rfl (fun ls hl => ?_)
  refine lv_iinc (v := 2) (lv' := [(2, .int 2), (1, .int 0), (0, .ref h0)]) hx hb dX8_clashes_30 hl (k := 1) rfl rfl (by decide) rfl (fun ls hl => ?_)
  refine lv_goto (tgt := 4) hx hb dX8_clashes_33 (by decide) ?_
  refine lv_iload_n hx hb dX8_clashes_4 rfl (lv_at hl 0 rfl) ?_
  refine lv_iconst (v := 3) hx hb dX8_clashes_5 (by decide) ?_
  refine lv_icmp_gt (tgt := 36) hx hb dX8_clashes_6 (by decide) (fun c_21 => absurd c_21 (by decide)) (fun c_21 => ?_)
  refine lv_iload_n hx hb dX8_clashes_9 rfl (lv_at hl 1 rfl) ?_
  refine lv_aload_n hx hb dX8_clashes_10 rfl (lv_at hl 2 rfl) ?_
  refine va_get (D := G) (ci := 12) (v := .ref a6) (C := RX8) (T := TX8) (N := 10) hx hb hg in_X8 hown hK hP 0 rfl rfl 5 (by decide) (hg _ q130) (fun _ h9 => h9) rfl dX8_clashes_11 ?_
  refine lv_bipush (v := 100) hx hb dX8_clashes_14 (by decide) ?_
  refine lv_iload_n hx hb dX8_clashes_16 rfl (lv_at hl 0 rfl) ?_
  refine lv_imul hx hb dX8_clashes_17 ?_
  refine lv_topi (fun f_22 ef_22 => ?_)
  obtain rfl : f_22 = 200 := ef_22.trans (by decide)
  refine lv_bipush (v := 100) hx hb dX8_clashes_18 (by decide) ?_
  refine lv_iload_n hx hb dX8_clashes_20 rfl (lv_at hl 0 rfl) ?_
  refine lv_imul hx hb dX8_clashes_21 ?_
  refine lv_topi (fun f_23 ef_23 => ?_)
  obtain rfl : f_23 = 200 := ef_23.trans (by decide)
  refine lv_bipush (v := 100) hx hb dX8_clashes_22 (by decide) ?_
  refine lv_iadd hx hb dX8_clashes_24 ?_
  refine lv_topi (fun f_24 ef_24 => ?_)
  obtain rfl : f_24 = 300 := ef_24.trans (by decide)
  have hPc := hP.sub (ws' := [(a6, .inr (10, [.ref b1, .ref b2, .ref b3, .int 0])), (b1, .inl (cyA, 400, .inl (nI))), (b3, .inl (cyT, 400, .inl (gT_19)))]) [1, 2, 3] rfl
  have hKc := hK.sub (tys' := [(cyA, .int), (cyT, .int)]) [0, 1] rfl
  have hDc := hD.sub (ws' := [(a6, .inr (10, [.ref b1, .ref b2, .ref b3, .int 0])), (b1, .inl (cyA, 400, .inl (nI))), (b3, .inl (cyT, 400, .inl (gT_19)))]) [1, 2, 3] (by decide) rfl
  have hFc := va_free (wc := [(a6, .inr (10, [.ref b1, .ref b2, .ref b3, .int 0])), (b1, .inl (cyA, 400, .inl (nI))), (b3, .inl (cyT, 400, .inl (gT_19)))]) hD hS hA [1, 2, 3] rfl
  refine va_calli (va_runV (As := [.int 200, .int 300]) (rest := [.int 0]) ⟨hx, hb, hml, hown, hts⟩ (k_X6_clashesAmong l G z a6 b1 b2 b3 cyA cyT gT_19 200 300 200 H_15.size (by decide) rfl rfl) (cwV 2 hts (lw_goodApp (lw_4 q206 q207 q208 q5) q209) rfl rfl rfl (by decide +kernel) ⟨Nat.le_of_ble_eq_true rfl, Nat.le_of_ble_eq_true rfl⟩) ⟨PW.blind, va_recv hK hP (ci := 10) (q0 := 1) rfl rfl, PW.of hPc hKc hDc hG hS hFc [.ref a6, .int 200, .int 300]⟩ rfl rfl hl.1 rfl (lv_room (Nat.le_of_ble_eq_true rfl)) dX8_clashes_25 ⟨Nat.le_of_ble_eq_true rfl, Nat.le_of_ble_eq_true rfl⟩) hS (fun q _ h => hFc q h) hFc (fun r_26 u t_28 H_25 locs ht hvm hw_27 hB hz1 hk1 hS => ?_)
  obtain ⟨gT_29, hB⟩ := hB
  obtain ⟨hP, hD, hK⟩ := QW.join (wr := [(h0, .inr (12, [.ref a1, .ref a2, .ref a3, .ref a4, .ref a5, .ref a6, .ref a7, .ref a8, .int tol, .int sal]))]) (w1 := [(a6, .inr (10, [.ref b1, .ref b2, .ref b3, .int 0])), (b1, .inl (cyA, 400, .inl (nI))), (b3, .inl (cyT, 400, .inl (gT_29)))]) hP hD hK [1, 2, 3] [0] rfl rfl (by decide) (by decide) hk1 hFc ht hvm hB
  have hP : va_P G vwCl ([(h0, .inr (12, [.ref a1, .ref a2, .ref a3, .ref a4, .ref a5, .ref a6, .ref a7, .ref a8, .int tol, .int sal])), (a6, .inr (10, [.ref b1, .ref b2, .ref b3, .int 0])), (b1, .inl (cyA, 400, .inl (nI))), (b3, .inl (cyT, 400, .inl (gT_29)))]) H_25 := hP
  have hD : va_D A ([(h0, .inr (12, [.ref a1, .ref a2, .ref a3, .ref a4, .ref a5, .ref a6, .ref a7, .ref a8, .int tol, .int sal])), (a6, .inr (10, [.ref b1, .ref b2, .ref b3, .int 0])), (b1, .inl (cyA, 400, .inl (nI))), (b3, .inl (cyT, 400, .inl (gT_29)))]) := hD
  have hK : va_K G vwCl [(cyA, .int), (cyT, .int), (cyA, .int), (cyT, .int), (cyA, .int), (cyT, .int), (cyA, .int), (cyT, .int)] s := hK
  refine W.widen (k := 0) (n := 0) (Nat.le_of_ble_eq_true rfl) (Nat.le_of_ble_eq_true rfl) ?_
  obtain rfl : 0 = r_26 := hw_27.symm
  refine lv_iadd hx hb dX8_clashes_28 ?_
  refine lv_topi (fun f_30 ef_30 => ?_)
  obtain rfl : f_30 = 0 := ef_30.trans (by decide)
  refine lv_istore_n (lv' := [(1, .int 0), (2, .int 2), (0, .ref h0)]) hx hb dX8_clashes_29 rfl hl (by decide) rfl (fun ls hl => ?_)
  refine lv_iinc (v := 3) (lv' := [(2, .int 3), (1, .int 0), (0, .ref h0)]) hx hb dX8_clashes_30 hl (k := 1) rfl rfl (by decide) rfl (fun ls hl => ?_)
  refine lv_goto (tgt := 4) hx hb dX8_clashes_33 (by decide) ?_
  refine lv_iload_n hx hb dX8_clashes_4 rfl (lv_at hl 0 rfl) ?_
  refine lv_iconst (v := 3) hx hb dX8_clashes_5 (by decide) ?_
  refine lv_icmp_gt (tgt := 36) hx hb dX8_clashes_6 (by decide) (fun c_31 => absurd c_31 (by decide)) (fun c_31 => ?_)
  refine lv_iload_n hx hb dX8_clashes_9 rfl (lv_at hl 1 rfl) ?_
  refine lv_aload_n hx hb dX8_clashes_10 rfl (lv_at hl 2 rfl) ?_
  refine va_get (D := G) (ci := 12) (v := .ref a6) (C := RX8) (T := TX8) (N := 10) hx hb hg in_X8 hown hK hP 0 rfl rfl 5 (by decide) (hg _ q130) (fun _ h9 => h9) rfl dX8_clashes_11 ?_
  refine lv_bipush (v := 100) hx hb dX8_clashes_14 (by decide) ?_
  refine lv_iload_n hx hb dX8_clashes_16 rfl (lv_at hl 0 rfl) ?_
  refine lv_imul hx hb dX8_clashes_17 ?_
  refine lv_topi (fun f_32 ef_32 => ?_)
  obtain rfl : f_32 = 300 := ef_32.trans (by decide)
  refine lv_bipush (v := 100) hx hb dX8_clashes_18 (by decide) ?_
  refine lv_iload_n hx hb dX8_clashes_20 rfl (lv_at hl 0 rfl) ?_
  refine lv_imul hx hb dX8_clashes_21 ?_
  refine lv_topi (fun f_33 ef_33 => ?_)
  obtain rfl : f_33 = 300 := ef_33.trans (by decide)
  refine lv_bipush (v := 100) hx hb dX8_clashes_22 (by decide) ?_
  refine lv_iadd hx hb dX8_clashes_24 ?_
  refine lv_topi (fun f_34 ef_34 => ?_)
  obtain rfl : f_34 = 400 := ef_34.trans (by decide)
  have hPc := hP.sub (ws' := [(a6, .inr (10, [.ref b1, .ref b2, .ref b3, .int 0])), (b1, .inl (cyA, 400, .inl (nI))), (b3, .inl (cyT, 400, .inl (gT_29)))]) [1, 2, 3] rfl
  have hKc := hK.sub (tys' := [(cyA, .int), (cyT, .int)]) [0, 1] rfl
  have hDc := hD.sub (ws' := [(a6, .inr (10, [.ref b1, .ref b2, .ref b3, .int 0])), (b1, .inl (cyA, 400, .inl (nI))), (b3, .inl (cyT, 400, .inl (gT_29)))]) [1, 2, 3] (by decide) rfl
  have hFc := va_free (wc := [(a6, .inr (10, [.ref b1, .ref b2, .ref b3, .int 0])), (b1, .inl (cyA, 400, .inl (nI))), (b3, .inl (cyT, 400, .inl (gT_29)))]) hD hS hA [1, 2, 3] rfl
  refine va_calli (va_runV (As := [.int 300, .int 400]) (rest := [.int 0]) ⟨hx, hb, hml, hown, hts⟩ (k_X6_clashesAmong l G z a6 b1 b2 b3 cyA cyT gT_29 300 400 300 H_25.size (by decide) rfl rfl) (cwV 2 hts (lw_goodApp (lw_4 q206 q207 q208 q5) q209) rfl rfl rfl (by decide +kernel) ⟨Nat.le_of_ble_eq_true rfl, Nat.le_of_ble_eq_true rfl⟩) ⟨PW.blind, va_recv hK hP (ci := 10) (q0 := 1) rfl rfl, PW.of hPc hKc hDc hG hS hFc [.ref a6, .int 300, .int 400]⟩ rfl rfl hl.1 rfl (lv_room (Nat.le_of_ble_eq_true rfl)) dX8_clashes_25 ⟨Nat.le_of_ble_eq_true rfl, Nat.le_of_ble_eq_true rfl⟩) hS (fun q _ h => hFc q h) hFc (fun r_36 u t_38 H_35 locs ht hvm hw_37 hB hz1 hk1 hS => ?_)
  obtain ⟨gT_39, hB⟩ := hB
  obtain ⟨hP, hD, hK⟩ := QW.join (wr := [(h0, .inr (12, [.ref a1, .ref a2, .ref a3, .ref a4, .ref a5, .ref a6, .ref a7, .ref a8, .int tol, .int sal]))]) (w1 := [(a6, .inr (10, [.ref b1, .ref b2, .ref b3, .int 0])), (b1, .inl (cyA, 400, .inl (nI))), (b3, .inl (cyT, 400, .inl (gT_39)))]) hP hD hK [1, 2, 3] [0] rfl rfl (by decide) (by decide) hk1 hFc ht hvm hB
  have hP : va_P G vwCl ([(h0, .inr (12, [.ref a1, .ref a2, .ref a3, .ref a4, .ref a5, .ref a6, .ref a7, .ref a8, .int tol, .int sal])), (a6, .inr (10, [.ref b1, .ref b2, .ref b3, .int 0])), (b1, .inl (cyA, 400, .inl (nI))), (b3, .inl (cyT, 400, .inl (gT_39)))]) H_35 := hP
  have hD : va_D A ([(h0, .inr (12, [.ref a1, .ref a2, .ref a3, .ref a4, .ref a5, .ref a6, .ref a7, .ref a8, .int tol, .int sal])), (a6, .inr (10, [.ref b1, .ref b2, .ref b3, .int 0])), (b1, .inl (cyA, 400, .inl (nI))), (b3, .inl (cyT, 400, .inl (gT_39)))]) := hD
  have hK : va_K G vwCl [(cyA, .int), (cyT, .int), (cyA, .int), (cyT, .int), (cyA, .int), (cyT, .int), (cyA, .int), (cyT, .int), (cyA, .int), (cyT, .int)] s := hK
  refine W.widen (k := 0) (n := 0) (Nat.le_of_ble_eq_true rfl) (Nat.le_of_ble_eq_true rfl) ?_
  obtain rfl : 0 = r_36 := hw_37.symm
  refine lv_iadd hx hb dX8_clashes_28 ?_
  refine lv_topi (fun f_40 ef_40 => ?_)
  obtain rfl : f_40 = 0 := ef_40.trans (by decide)
  refine lv_istore_n (lv' := [(1, .int 0), (2, .int 3), (0, .ref h0)]) hx hb dX8_clashes_29 rfl hl (by decide) rfl (fun ls hl => ?_)
  refine lv_iinc (v := 4) (lv' := [(2, .int 4), (1, .int 0), (0, .ref h0)]) hx hb dX8_clashes_30 hl (k := 1) rfl rfl (by decide) rfl (fun ls hl => ?_)
  refine lv_goto (tgt := 4) hx hb dX8_clashes_33 (by decide) ?_
  refine lv_iload_n hx hb dX8_clashes_4 rfl (lv_at hl 0 rfl) ?_
  refine lv_iconst (v := 3) hx hb dX8_clashes_5 (by decide) ?_
  refine lv_icmp_gt (tgt := 36) hx hb dX8_clashes_6 (by decide) (fun c_41 => ?_) (fun c_41 => absurd (by decide) c_41)
  refine lv_iload_n hx hb dX8_clashes_36 rfl (lv_at hl 1 rfl) ?_
  refine W.widen (k := 0) (n := 0) (Nat.le_of_ble_eq_true rfl) (Nat.le_of_ble_eq_true rfl) ?_
  have hP9 := hP.sub (ws' := []) [] rfl
  have hD9 := hD.sub (ws' := []) [] (by decide) rfl
  have hK9 := hK.sub (tys' := []) [] rfl
  exact W.iret (v := 0) hx hb hr (fun t ht hW => ⟨⟨0, (), rfl, rfl, QW.of hP9 hK9 hD9 ht hW.alike⟩, hS.F ht⟩) hS.2.2 dX8_clashes_37
