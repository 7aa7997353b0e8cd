theorem in_X1 : ∀ w ∈ u_ws RX1 TX1 7, w ∈ lw_good := by decide +kernel
theorem in_X4 : ∀ w ∈ u_ws RX4 TX4 11, w ∈ lw_good := by decide +kernel
theorem in_X5 : ∀ w ∈ u_ws RX5 TX5 3, w ∈ lw_good := by decide +kernel
theorem mmin_c : Cond.code Lib.Math.min.name Lib.Math.min.code 2 (some .int) ∈ lw_good := lw_in (i := 239) (by decide +kernel) (by decide +kernel)
theorem mmin_lX044 : Cond.methodLink "Watermarkmill$Dating" 44 Lib.Math.min.name ∈ lw_good := lw_in (i := 237) (by decide +kernel) (by decide +kernel)
theorem mmin_s : Cond.static Lib.Math.min.name ∈ lw_good := lw_in (i := 238) (by decide +kernel) (by decide +kernel)
theorem q1034 : Cond.code yX8_checkEntry prog_1_method_54_code 2 (Option.none : Option Jvm.ClassFile.FieldType) ∈ lw_good := lw_in (i := 1034) (by decide +kernel) (by decide +kernel)
theorem q108 : Cond.fieldLink "Watermarkmill$Dating" 23 "Watermarkmill$Dating" "steps" "[[I" ∈ lw_good := lw_in (i := 108) (by decide +kernel) (by decide +kernel)
theorem q13 : Cond.initialized "Watermarkmill$Mould" ∈ lw_good := lw_in (i := 13) (by decide +kernel) (by decide +kernel)
theorem q264 : Cond.classLink "Watermarkmill" 165 "Watermarkmill$Ream" ∈ lw_good := lw_in (i := 264) (by decide +kernel) (by decide +kernel)
theorem q269 : Cond.classLink "Watermarkmill" 203 "Watermarkmill$Document" ∈ lw_good := lw_in (i := 269) (by decide +kernel) (by decide +kernel)
theorem q278 : Cond.classLink "Watermarkmill" 65 "Watermarkmill$Mould" ∈ lw_good := lw_in (i := 278) (by decide +kernel) (by decide +kernel)
theorem q30 : Cond.initialized "Watermarkmill$Ream" ∈ lw_good := lw_in (i := 30) (by decide +kernel) (by decide +kernel)
theorem q307 : Cond.code yX8_mould prog_1_method_2_code 7 (Option.some Jvm.ClassFile.FieldType.int) ∈ lw_good := lw_in (i := 307) (by decide +kernel) (by decide +kernel)
theorem q32 : Cond.initialized "Watermarkmill$Document" ∈ lw_good := lw_in (i := 32) (by decide +kernel) (by decide +kernel)
theorem q383 : Cond.methodLink "Watermarkmill" 61 yX8_checkRoom ∈ lw_good := lw_in (i := 383) (by decide +kernel) (by decide +kernel)
theorem q384 : Cond.static yX8_checkRoom ∈ lw_good := lw_in (i := 384) (by decide +kernel) (by decide +kernel)
theorem q402 : Cond.instantiable "Watermarkmill$Mould" 11 ∈ lw_good := lw_in (i := 402) (by decide +kernel) (by decide +kernel)
theorem q403 : Cond.methodLink "Watermarkmill" 67 yX4_init ∈ lw_good := lw_in (i := 403) (by decide +kernel) (by decide +kernel)
theorem q404 : Cond.instanceMethod yX4_init ∈ lw_good := lw_in (i := 404) (by decide +kernel) (by decide +kernel)
theorem q405 : Cond.code yX4_init prog_6_method_1_code 4 (Option.none : Option Jvm.ClassFile.FieldType) ∈ lw_good := lw_in (i := 405) (by decide +kernel) (by decide +kernel)
theorem q406 : Cond.methodLink "Watermarkmill$Mould" 3 ⟨"java/lang/Object", "<init>", "()V"⟩ ∈ lw_good := lw_in (i := 406) (by decide +kernel) (by decide +kernel)
theorem q407 : Cond.fieldLink "Watermarkmill$Mould" 38 "Watermarkmill$Mould" "mill" "I" ∈ lw_good := lw_in (i := 407) (by decide +kernel) (by decide +kernel)
theorem q408 : Cond.fieldLink "Watermarkmill$Mould" 41 "Watermarkmill$Mould" "mark" "I" ∈ lw_good := lw_in (i := 408) (by decide +kernel) (by decide +kernel)
theorem q410 : Cond.fieldLink "Watermarkmill$Mould" 44 "Watermarkmill$Mould" "distances" "[I" ∈ lw_good := lw_in (i := 410) (by decide +kernel) (by decide +kernel)
theorem q412 : Cond.fieldLink "Watermarkmill$Mould" 9 "Watermarkmill$Mould" "damagedWires" "[I" ∈ lw_good := lw_in (i := 412) (by decide +kernel) (by decide +kernel)
theorem q413 : Cond.fieldLink "Watermarkmill$Mould" 15 "Watermarkmill$Mould" "damageKinds" "[I" ∈ lw_good := lw_in (i := 413) (by decide +kernel) (by decide +kernel)
theorem q414 : Cond.fieldLink "Watermarkmill$Mould" 18 "Watermarkmill$Mould" "damageYears" "[I" ∈ lw_good := lw_in (i := 414) (by decide +kernel) (by decide +kernel)
theorem q415 : Cond.fieldLink "Watermarkmill$Mould" 21 "Watermarkmill$Mould" "damages" "I" ∈ lw_good := lw_in (i := 415) (by decide +kernel) (by decide +kernel)
theorem q417 : Cond.fieldLink "Watermarkmill$Mould" 25 "Watermarkmill$Mould" "twin" "I" ∈ lw_good := lw_in (i := 417) (by decide +kernel) (by decide +kernel)
theorem q419 : Cond.fieldLink "Watermarkmill$Mould" 28 "Watermarkmill$Mould" "retired" "I" ∈ lw_good := lw_in (i := 419) (by decide +kernel) (by decide +kernel)
theorem q421 : Cond.fieldLink "Watermarkmill$Mould" 31 "Watermarkmill$Mould" "lastUse" "I" ∈ lw_good := lw_in (i := 421) (by decide +kernel) (by decide +kernel)
theorem q423 : Cond.fieldLink "Watermarkmill$Mould" 34 "Watermarkmill$Mould" "lastSale" "LWatermarkmill$Sale;" ∈ lw_good := lw_in (i := 423) (by decide +kernel) (by decide +kernel)
theorem q448 : Cond.methodLink "Watermarkmill" 70 yJx4a65c_add_9ea2d ∈ lw_good := lw_in (i := 448) (by decide +kernel) (by decide +kernel)
theorem q449 : Cond.instanceMethod yJx4a65c_add_9ea2d ∈ lw_good := lw_in (i := 449) (by decide +kernel) (by decide +kernel)
theorem q450 : Cond.selects "java/util/ArrayList" yJx4a65c_add_9ea2d yJx4a65c_add_9ea2d ∈ lw_good := lw_in (i := 450) (by decide +kernel) (by decide +kernel)
theorem q595 : Cond.methodLink "Watermarkmill" 99 yX8_checkYear ∈ lw_good := lw_in (i := 595) (by decide +kernel) (by decide +kernel)
theorem q596 : Cond.static yX8_checkYear ∈ lw_good := lw_in (i := 596) (by decide +kernel) (by decide +kernel)
theorem q736 : Cond.code yX8_ream prog_1_method_12_code 2 (Option.some Jvm.ClassFile.FieldType.int) ∈ lw_good := lw_in (i := 736) (by decide +kernel) (by decide +kernel)
theorem q737 : Cond.instantiable "Watermarkmill$Ream" 3 ∈ lw_good := lw_in (i := 737) (by decide +kernel) (by decide +kernel)
theorem q738 : Cond.methodLink "Watermarkmill" 167 yX5_init ∈ lw_good := lw_in (i := 738) (by decide +kernel) (by decide +kernel)
theorem q739 : Cond.instanceMethod yX5_init ∈ lw_good := lw_in (i := 739) (by decide +kernel) (by decide +kernel)
theorem q740 : Cond.code yX5_init prog_7_method_1_code 2 (Option.none : Option Jvm.ClassFile.FieldType) ∈ lw_good := lw_in (i := 740) (by decide +kernel) (by decide +kernel)
theorem q741 : Cond.methodLink "Watermarkmill$Ream" 3 ⟨"java/lang/Object", "<init>", "()V"⟩ ∈ lw_good := lw_in (i := 741) (by decide +kernel) (by decide +kernel)
theorem q742 : Cond.fieldLink "Watermarkmill$Ream" 19 "Watermarkmill$Ream" "mill" "I" ∈ lw_good := lw_in (i := 742) (by decide +kernel) (by decide +kernel)
theorem q744 : Cond.fieldLink "Watermarkmill$Ream" 9 "Watermarkmill$Ream" "sheets" "[I" ∈ lw_good := lw_in (i := 744) (by decide +kernel) (by decide +kernel)
theorem q746 : Cond.fieldLink "Watermarkmill$Ream" 15 "Watermarkmill$Ream" "count" "I" ∈ lw_good := lw_in (i := 746) (by decide +kernel) (by decide +kernel)
theorem q803 : Cond.code yX8_document prog_1_method_15_code 3 (Option.some Jvm.ClassFile.FieldType.int) ∈ lw_good := lw_in (i := 803) (by decide +kernel) (by decide +kernel)
theorem q804 : Cond.instantiable "Watermarkmill$Document" 7 ∈ lw_good := lw_in (i := 804) (by decide +kernel) (by decide +kernel)
theorem q805 : Cond.methodLink "Watermarkmill" 205 yX1_init ∈ lw_good := lw_in (i := 805) (by decide +kernel) (by decide +kernel)
theorem q806 : Cond.instanceMethod yX1_init ∈ lw_good := lw_in (i := 806) (by decide +kernel) (by decide +kernel)
theorem q807 : Cond.code yX1_init prog_3_method_1_code 3 (Option.none : Option Jvm.ClassFile.FieldType) ∈ lw_good := lw_in (i := 807) (by decide +kernel) (by decide +kernel)
theorem q808 : Cond.methodLink "Watermarkmill$Document" 3 ⟨"java/lang/Object", "<init>", "()V"⟩ ∈ lw_good := lw_in (i := 808) (by decide +kernel) (by decide +kernel)
theorem q809 : Cond.fieldLink "Watermarkmill$Document" 26 "Watermarkmill$Document" "year" "I" ∈ lw_good := lw_in (i := 809) (by decide +kernel) (by decide +kernel)
theorem q811 : Cond.fieldLink "Watermarkmill$Document" 29 "Watermarkmill$Document" "leaves" "I" ∈ lw_good := lw_in (i := 811) (by decide +kernel) (by decide +kernel)
theorem q813 : Cond.fieldLink "Watermarkmill$Document" 9 "Watermarkmill$Document" "sheets" "[I" ∈ lw_good := lw_in (i := 813) (by decide +kernel) (by decide +kernel)
theorem q815 : Cond.fieldLink "Watermarkmill$Document" 15 "Watermarkmill$Document" "stocks" "[I" ∈ lw_good := lw_in (i := 815) (by decide +kernel) (by decide +kernel)
theorem q817 : Cond.fieldLink "Watermarkmill$Document" 32 "Watermarkmill$Document" "sources" "[I" ∈ lw_good := lw_in (i := 817) (by decide +kernel) (by decide +kernel)
theorem q818 : Cond.fieldLink "Watermarkmill$Document" 18 "Watermarkmill$Document" "count" "I" ∈ lw_good := lw_in (i := 818) (by decide +kernel) (by decide +kernel)
theorem q820 : Cond.fieldLink "Watermarkmill$Document" 22 "Watermarkmill$Document" "isWashed" "Z" ∈ lw_good := lw_in (i := 820) (by decide +kernel) (by decide +kernel)
theorem q837 : Cond.methodLink "Watermarkmill" 207 yX0_addDocument ∈ lw_good := lw_in (i := 837) (by decide +kernel) (by decide +kernel)
theorem q838 : Cond.instanceMethod yX0_addDocument ∈ lw_good := lw_in (i := 838) (by decide +kernel) (by decide +kernel)
theorem q839 : Cond.selects "Watermarkmill$Dating" yX0_addDocument yX0_addDocument ∈ lw_good := lw_in (i := 839) (by decide +kernel) (by decide +kernel)
theorem q840 : Cond.code yX0_addDocument prog_2_method_2_code 1 (Option.none : Option Jvm.ClassFile.FieldType) ∈ lw_good := lw_in (i := 840) (by decide +kernel) (by decide +kernel)
theorem q841 : Cond.methodLink "Watermarkmill$Dating" 33 yX0_tellSteps ∈ lw_good := lw_in (i := 841) (by decide +kernel) (by decide +kernel)
theorem q842 : Cond.instanceMethod yX0_tellSteps ∈ lw_good := lw_in (i := 842) (by decide +kernel) (by decide +kernel)
theorem q843 : Cond.selects "Watermarkmill$Dating" yX0_tellSteps yX0_tellSteps ∈ lw_good := lw_in (i := 843) (by decide +kernel) (by decide +kernel)
theorem q844 : Cond.code yX0_tellSteps prog_2_method_6_code 3 (Option.none : Option Jvm.ClassFile.FieldType) ∈ lw_good := lw_in (i := 844) (by decide +kernel) (by decide +kernel)
theorem q849 : Cond.methodLink "Watermarkmill$Dating" 40 yX0_shortenSteps ∈ lw_good := lw_in (i := 849) (by decide +kernel) (by decide +kernel)
theorem q850 : Cond.instanceMethod yX0_shortenSteps ∈ lw_good := lw_in (i := 850) (by decide +kernel) (by decide +kernel)
theorem q851 : Cond.selects "Watermarkmill$Dating" yX0_shortenSteps yX0_shortenSteps ∈ lw_good := lw_in (i := 851) (by decide +kernel) (by decide +kernel)
theorem q852 : Cond.code yX0_shortenSteps prog_2_method_7_code 4 (Option.none : Option Jvm.ClassFile.FieldType) ∈ lw_good := lw_in (i := 852) (by decide +kernel) (by decide +kernel)
theorem q94 : Cond.arrayClass Jvm.ClassFile.FieldType.int ∈ lw_good := lw_in (i := 94) (by decide +kernel) (by decide +kernel)
theorem qf1752 : Cond.castable "Watermarkmill$Mould" "java/lang/Object" ∈ lw_face := lw_fin (i := 1752) (by decide +kernel) (by decide +kernel)
theorem qf1761 : Cond.castable "Watermarkmill$Ream" "java/lang/Object" ∈ lw_face := lw_fin (i := 1761) (by decide +kernel) (by decide +kernel)
theorem qf1763 : Cond.castable "Watermarkmill$Document" "java/lang/Object" ∈ lw_face := lw_fin (i := 1763) (by decide +kernel) (by decide +kernel)
theorem dX0_addDocument_0 : decode cX0_addDocument 0 = .ok (.aload_n 0, 1) := by decide +kernel
theorem dX0_addDocument_1 : decode cX0_addDocument 1 = .ok (.getfield 26, 3) := by decide +kernel
theorem dX0_addDocument_10 : decode cX0_addDocument 10 = .ok (.dup, 1) := by decide +kernel
theorem dX0_addDocument_11 : decode cX0_addDocument 11 = .ok (.getfield 26, 3) := by decide +kernel
theorem dX0_addDocument_14 : decode cX0_addDocument 14 = .ok (.iconst 1, 1) := by decide +kernel
theorem dX0_addDocument_15 : decode cX0_addDocument 15 = .ok (.iadd, 1) := by decide +kernel
theorem dX0_addDocument_16 : decode cX0_addDocument 16 = .ok (.putfield 26, 3) := by decide +kernel
theorem dX0_addDocument_19 : decode cX0_addDocument 19 = .ok (.aload_n 0, 1) := by decide +kernel
theorem dX0_addDocument_20 : decode cX0_addDocument 20 = .ok (.invokevirtual 33, 3) := by decide +kernel
theorem dX0_addDocument_23 : decode cX0_addDocument 23 = .ok (.return_, 1) := by decide +kernel
theorem dX0_addDocument_4 : decode cX0_addDocument 4 = .ok (.bipush 20, 2) := by decide +kernel
theorem dX0_addDocument_6 : decode cX0_addDocument 6 = .ok (.if_icmp .ge 17, 3) := by decide +kernel
theorem dX0_addDocument_9 : decode cX0_addDocument 9 = .ok (.aload_n 0, 1) := by decide +kernel
theorem dX0_shortenSteps_0 : decode cX0_shortenSteps 0 = .ok (.iconst 0, 1) := by decide +kernel
theorem dX0_shortenSteps_1 : decode cX0_shortenSteps 1 = .ok (.istore_n 3, 1) := by decide +kernel
theorem dX0_shortenSteps_10 : decode cX0_shortenSteps 10 = .ok (.aload_n 0, 1) := by decide +kernel
theorem dX0_shortenSteps_11 : decode cX0_shortenSteps 11 = .ok (.getfield 23, 3) := by decide +kernel
theorem dX0_shortenSteps_14 : decode cX0_shortenSteps 14 = .ok (.iload_n 1, 1) := by decide +kernel
theorem dX0_shortenSteps_15 : decode cX0_shortenSteps 15 = .ok (.aaload, 1) := by decide +kernel
theorem dX0_shortenSteps_16 : decode cX0_shortenSteps 16 = .ok (.iload_n 3, 1) := by decide +kernel
theorem dX0_shortenSteps_17 : decode cX0_shortenSteps 17 = .ok (.aload_n 0, 1) := by decide +kernel
theorem dX0_shortenSteps_18 : decode cX0_shortenSteps 18 = .ok (.getfield 23, 3) := by decide +kernel
theorem dX0_shortenSteps_2 : decode cX0_shortenSteps 2 = .ok (.iload_n 3, 1) := by decide +kernel
theorem dX0_shortenSteps_21 : decode cX0_shortenSteps 21 = .ok (.iload_n 1, 1) := by decide +kernel
theorem dX0_shortenSteps_22 : decode cX0_shortenSteps 22 = .ok (.aaload, 1) := by decide +kernel
theorem dX0_shortenSteps_23 : decode cX0_shortenSteps 23 = .ok (.iload_n 3, 1) := by decide +kernel
theorem dX0_shortenSteps_24 : decode cX0_shortenSteps 24 = .ok (.iaload, 1) := by decide +kernel
theorem dX0_shortenSteps_25 : decode cX0_shortenSteps 25 = .ok (.aload_n 0, 1) := by decide +kernel
theorem dX0_shortenSteps_26 : decode cX0_shortenSteps 26 = .ok (.getfield 23, 3) := by decide +kernel
theorem dX0_shortenSteps_29 : decode cX0_shortenSteps 29 = .ok (.iload_n 1, 1) := by decide +kernel
theorem dX0_shortenSteps_3 : decode cX0_shortenSteps 3 = .ok (.aload_n 0, 1) := by decide +kernel
theorem dX0_shortenSteps_30 : decode cX0_shortenSteps 30 = .ok (.aaload, 1) := by decide +kernel
theorem dX0_shortenSteps_31 : decode cX0_shortenSteps 31 = .ok (.iload_n 2, 1) := by decide +kernel
theorem dX0_shortenSteps_32 : decode cX0_shortenSteps 32 = .ok (.iaload, 1) := by decide +kernel
theorem dX0_shortenSteps_33 : decode cX0_shortenSteps 33 = .ok (.aload_n 0, 1) := by decide +kernel
theorem dX0_shortenSteps_34 : decode cX0_shortenSteps 34 = .ok (.getfield 23, 3) := by decide +kernel
theorem dX0_shortenSteps_37 : decode cX0_shortenSteps 37 = .ok (.iload_n 2, 1) := by decide +kernel
theorem dX0_shortenSteps_38 : decode cX0_shortenSteps 38 = .ok (.aaload, 1) := by decide +kernel
theorem dX0_shortenSteps_39 : decode cX0_shortenSteps 39 = .ok (.iload_n 3, 1) := by decide +kernel
theorem dX0_shortenSteps_4 : decode cX0_shortenSteps 4 = .ok (.getfield 26, 3) := by decide +kernel
theorem dX0_shortenSteps_40 : decode cX0_shortenSteps 40 = .ok (.iaload, 1) := by decide +kernel
theorem dX0_shortenSteps_41 : decode cX0_shortenSteps 41 = .ok (.iadd, 1) := by decide +kernel
theorem dX0_shortenSteps_42 : decode cX0_shortenSteps 42 = .ok (.invokestatic 44, 3) := by decide +kernel
theorem dX0_shortenSteps_45 : decode cX0_shortenSteps 45 = .ok (.iastore, 1) := by decide +kernel
theorem dX0_shortenSteps_46 : decode cX0_shortenSteps 46 = .ok (.iinc 3 1, 3) := by decide +kernel
theorem dX0_shortenSteps_49 : decode cX0_shortenSteps 49 = .ok (.goto (-47), 3) := by decide +kernel
theorem dX0_shortenSteps_52 : decode cX0_shortenSteps 52 = .ok (.return_, 1) := by decide +kernel
theorem dX0_shortenSteps_7 : decode cX0_shortenSteps 7 = .ok (.if_icmp .ge 45, 3) := by decide +kernel
theorem dX0_tellSteps_0 : decode cX0_tellSteps 0 = .ok (.iconst 0, 1) := by decide +kernel
theorem dX0_tellSteps_1 : decode cX0_tellSteps 1 = .ok (.istore_n 1, 1) := by decide +kernel
theorem dX0_tellSteps_10 : decode cX0_tellSteps 10 = .ok (.iconst 0, 1) := by decide +kernel
theorem dX0_tellSteps_100 : decode cX0_tellSteps 100 = .ok (.iload_n 2, 1) := by decide +kernel
theorem dX0_tellSteps_101 : decode cX0_tellSteps 101 = .ok (.iload_n 1, 1) := by decide +kernel
theorem dX0_tellSteps_102 : decode cX0_tellSteps 102 = .ok (.invokevirtual 40, 3) := by decide +kernel
theorem dX0_tellSteps_105 : decode cX0_tellSteps 105 = .ok (.iinc 2 1, 3) := by decide +kernel
theorem dX0_tellSteps_108 : decode cX0_tellSteps 108 = .ok (.goto (-31), 3) := by decide +kernel
theorem dX0_tellSteps_11 : decode cX0_tellSteps 11 = .ok (.istore_n 2, 1) := by decide +kernel
theorem dX0_tellSteps_111 : decode cX0_tellSteps 111 = .ok (.iinc 1 1, 3) := by decide +kernel
theorem dX0_tellSteps_114 : decode cX0_tellSteps 114 = .ok (.goto (-47), 3) := by decide +kernel
theorem dX0_tellSteps_117 : decode cX0_tellSteps 117 = .ok (.return_, 1) := by decide +kernel
theorem dX0_tellSteps_12 : decode cX0_tellSteps 12 = .ok (.iload_n 2, 1) := by decide +kernel
theorem dX0_tellSteps_13 : decode cX0_tellSteps 13 = .ok (.aload_n 0, 1) := by decide +kernel
theorem dX0_tellSteps_14 : decode cX0_tellSteps 14 = .ok (.getfield 26, 3) := by decide +kernel
theorem dX0_tellSteps_17 : decode cX0_tellSteps 17 = .ok (.if_icmp .ge 42, 3) := by decide +kernel
theorem dX0_tellSteps_2 : decode cX0_tellSteps 2 = .ok (.iload_n 1, 1) := by decide +kernel
theorem dX0_tellSteps_20 : decode cX0_tellSteps 20 = .ok (.aload_n 0, 1) := by decide +kernel
theorem dX0_tellSteps_21 : decode cX0_tellSteps 21 = .ok (.getfield 23, 3) := by decide +kernel
theorem dX0_tellSteps_24 : decode cX0_tellSteps 24 = .ok (.iload_n 1, 1) := by decide +kernel
theorem dX0_tellSteps_25 : decode cX0_tellSteps 25 = .ok (.aaload, 1) := by decide +kernel
theorem dX0_tellSteps_26 : decode cX0_tellSteps 26 = .ok (.iload_n 2, 1) := by decide +kernel
theorem dX0_tellSteps_27 : decode cX0_tellSteps 27 = .ok (.iload_n 1, 1) := by decide +kernel
theorem dX0_tellSteps_28 : decode cX0_tellSteps 28 = .ok (.iload_n 2, 1) := by decide +kernel
theorem dX0_tellSteps_29 : decode cX0_tellSteps 29 = .ok (.if_icmp .ne 7, 3) := by decide +kernel
theorem dX0_tellSteps_3 : decode cX0_tellSteps 3 = .ok (.aload_n 0, 1) := by decide +kernel
theorem dX0_tellSteps_32 : decode cX0_tellSteps 32 = .ok (.iconst 0, 1) := by decide +kernel
theorem dX0_tellSteps_33 : decode cX0_tellSteps 33 = .ok (.goto 19, 3) := by decide +kernel
theorem dX0_tellSteps_4 : decode cX0_tellSteps 4 = .ok (.getfield 26, 3) := by decide +kernel
theorem dX0_tellSteps_52 : decode cX0_tellSteps 52 = .ok (.iastore, 1) := by decide +kernel
theorem dX0_tellSteps_53 : decode cX0_tellSteps 53 = .ok (.iinc 2 1, 3) := by decide +kernel
theorem dX0_tellSteps_56 : decode cX0_tellSteps 56 = .ok (.goto (-44), 3) := by decide +kernel
theorem dX0_tellSteps_59 : decode cX0_tellSteps 59 = .ok (.iinc 1 1, 3) := by decide +kernel
theorem dX0_tellSteps_62 : decode cX0_tellSteps 62 = .ok (.goto (-60), 3) := by decide +kernel
theorem dX0_tellSteps_65 : decode cX0_tellSteps 65 = .ok (.iconst 0, 1) := by decide +kernel
theorem dX0_tellSteps_66 : decode cX0_tellSteps 66 = .ok (.istore_n 1, 1) := by decide +kernel
theorem dX0_tellSteps_67 : decode cX0_tellSteps 67 = .ok (.iload_n 1, 1) := by decide +kernel
theorem dX0_tellSteps_68 : decode cX0_tellSteps 68 = .ok (.aload_n 0, 1) := by decide +kernel
theorem dX0_tellSteps_69 : decode cX0_tellSteps 69 = .ok (.getfield 26, 3) := by decide +kernel
theorem dX0_tellSteps_7 : decode cX0_tellSteps 7 = .ok (.if_icmp .ge 58, 3) := by decide +kernel
theorem dX0_tellSteps_72 : decode cX0_tellSteps 72 = .ok (.if_icmp .ge 45, 3) := by decide +kernel
theorem dX0_tellSteps_75 : decode cX0_tellSteps 75 = .ok (.iconst 0, 1) := by decide +kernel
theorem dX0_tellSteps_76 : decode cX0_tellSteps 76 = .ok (.istore_n 2, 1) := by decide +kernel
theorem dX0_tellSteps_77 : decode cX0_tellSteps 77 = .ok (.iload_n 2, 1) := by decide +kernel
theorem dX0_tellSteps_78 : decode cX0_tellSteps 78 = .ok (.aload_n 0, 1) := by decide +kernel
theorem dX0_tellSteps_79 : decode cX0_tellSteps 79 = .ok (.getfield 26, 3) := by decide +kernel
theorem dX0_tellSteps_82 : decode cX0_tellSteps 82 = .ok (.if_icmp .ge 29, 3) := by decide +kernel
theorem dX0_tellSteps_85 : decode cX0_tellSteps 85 = .ok (.aload_n 0, 1) := by decide +kernel
theorem dX0_tellSteps_86 : decode cX0_tellSteps 86 = .ok (.getfield 23, 3) := by decide +kernel
theorem dX0_tellSteps_89 : decode cX0_tellSteps 89 = .ok (.iload_n 2, 1) := by decide +kernel
theorem dX0_tellSteps_90 : decode cX0_tellSteps 90 = .ok (.aaload, 1) := by decide +kernel
theorem dX0_tellSteps_91 : decode cX0_tellSteps 91 = .ok (.iload_n 1, 1) := by decide +kernel
theorem dX0_tellSteps_92 : decode cX0_tellSteps 92 = .ok (.iaload, 1) := by decide +kernel
theorem dX0_tellSteps_93 : decode cX0_tellSteps 93 = .ok (.sipush 1000, 3) := by decide +kernel
theorem dX0_tellSteps_96 : decode cX0_tellSteps 96 = .ok (.if_icmp .ge 9, 3) := by decide +kernel
theorem dX0_tellSteps_99 : decode cX0_tellSteps 99 = .ok (.aload_n 0, 1) := by decide +kernel
theorem dX1_init_0 : decode cX1_init 0 = .ok (.aload_n 0, 1) := by decide +kernel
theorem dX1_init_1 : decode cX1_init 1 = .ok (.invokespecial 3, 3) := by decide +kernel
theorem dX1_init_12 : decode cX1_init 12 = .ok (.aload_n 0, 1) := by decide +kernel
theorem dX1_init_13 : decode cX1_init 13 = .ok (.bipush 100, 2) := by decide +kernel
theorem dX1_init_15 : decode cX1_init 15 = .ok (.newarray .int, 2) := by decide +kernel
theorem dX1_init_17 : decode cX1_init 17 = .ok (.putfield 15, 3) := by decide +kernel
theorem dX1_init_20 : decode cX1_init 20 = .ok (.aload_n 0, 1) := by decide +kernel
theorem dX1_init_21 : decode cX1_init 21 = .ok (.iconst 0, 1) := by decide +kernel
theorem dX1_init_22 : decode cX1_init 22 = .ok (.putfield 18, 3) := by decide +kernel
theorem dX1_init_25 : decode cX1_init 25 = .ok (.aload_n 0, 1) := by decide +kernel
theorem dX1_init_26 : decode cX1_init 26 = .ok (.iconst 0, 1) := by decide +kernel
theorem dX1_init_27 : decode cX1_init 27 = .ok (.putfield 22, 3) := by decide +kernel
theorem dX1_init_30 : decode cX1_init 30 = .ok (.aload_n 0, 1) := by decide +kernel
theorem dX1_init_31 : decode cX1_init 31 = .ok (.iload_n 1, 1) := by decide +kernel
theorem dX1_init_32 : decode cX1_init 32 = .ok (.putfield 26, 3) := by decide +kernel
theorem dX1_init_35 : decode cX1_init 35 = .ok (.aload_n 0, 1) := by decide +kernel
theorem dX1_init_36 : decode cX1_init 36 = .ok (.iload_n 2, 1) := by decide +kernel
theorem dX1_init_37 : decode cX1_init 37 = .ok (.putfield 29, 3) := by decide +kernel
theorem dX1_init_4 : decode cX1_init 4 = .ok (.aload_n 0, 1) := by decide +kernel
theorem dX1_init_40 : decode cX1_init 40 = .ok (.aload_n 0, 1) := by decide +kernel
theorem dX1_init_41 : decode cX1_init 41 = .ok (.bipush 100, 2) := by decide +kernel
theorem dX1_init_43 : decode cX1_init 43 = .ok (.iload_n 2, 1) := by decide +kernel
theorem dX1_init_44 : decode cX1_init 44 = .ok (.imul, 1) := by decide +kernel
theorem dX1_init_45 : decode cX1_init 45 = .ok (.newarray .int, 2) := by decide +kernel
theorem dX1_init_47 : decode cX1_init 47 = .ok (.putfield 32, 3) := by decide +kernel
theorem dX1_init_5 : decode cX1_init 5 = .ok (.bipush 100, 2) := by decide +kernel
theorem dX1_init_50 : decode cX1_init 50 = .ok (.return_, 1) := by decide +kernel
theorem dX1_init_7 : decode cX1_init 7 = .ok (.newarray .int, 2) := by decide +kernel
theorem dX1_init_9 : decode cX1_init 9 = .ok (.putfield 9, 3) := by decide +kernel
theorem dX4_init_0 : decode cX4_init 0 = .ok (.aload_n 0, 1) := by decide +kernel
theorem dX4_init_1 : decode cX4_init 1 = .ok (.invokespecial 3, 3) := by decide +kernel
theorem dX4_init_12 : decode cX4_init 12 = .ok (.aload_n 0, 1) := by decide +kernel
theorem dX4_init_13 : decode cX4_init 13 = .ok (.bipush 16, 2) := by decide +kernel
theorem dX4_init_15 : decode cX4_init 15 = .ok (.newarray .int, 2) := by decide +kernel
theorem dX4_init_17 : decode cX4_init 17 = .ok (.putfield 15, 3) := by decide +kernel
theorem dX4_init_20 : decode cX4_init 20 = .ok (.aload_n 0, 1) := by decide +kernel
theorem dX4_init_21 : decode cX4_init 21 = .ok (.bipush 16, 2) := by decide +kernel
theorem dX4_init_23 : decode cX4_init 23 = .ok (.newarray .int, 2) := by decide +kernel
theorem dX4_init_25 : decode cX4_init 25 = .ok (.putfield 18, 3) := by decide +kernel
theorem dX4_init_28 : decode cX4_init 28 = .ok (.aload_n 0, 1) := by decide +kernel
theorem dX4_init_29 : decode cX4_init 29 = .ok (.iconst 0, 1) := by decide +kernel
theorem dX4_init_30 : decode cX4_init 30 = .ok (.putfield 21, 3) := by decide +kernel
theorem dX4_init_33 : decode cX4_init 33 = .ok (.aload_n 0, 1) := by decide +kernel
theorem dX4_init_34 : decode cX4_init 34 = .ok (.iconst (-1), 1) := by decide +kernel
theorem dX4_init_35 : decode cX4_init 35 = .ok (.putfield 25, 3) := by decide +kernel
theorem dX4_init_38 : decode cX4_init 38 = .ok (.aload_n 0, 1) := by decide +kernel
theorem dX4_init_39 : decode cX4_init 39 = .ok (.iconst 0, 1) := by decide +kernel
theorem dX4_init_4 : decode cX4_init 4 = .ok (.aload_n 0, 1) := by decide +kernel
theorem dX4_init_40 : decode cX4_init 40 = .ok (.putfield 28, 3) := by decide +kernel
theorem dX4_init_43 : decode cX4_init 43 = .ok (.aload_n 0, 1) := by decide +kernel
theorem dX4_init_44 : decode cX4_init 44 = .ok (.iconst 0, 1) := by decide +kernel
theorem dX4_init_45 : decode cX4_init 45 = .ok (.putfield 31, 3) := by decide +kernel
theorem dX4_init_48 : decode cX4_init 48 = .ok (.aload_n 0, 1) := by decide +kernel
theorem dX4_init_49 : decode cX4_init 49 = .ok (.aconst_null, 1) := by decide +kernel
theorem dX4_init_5 : decode cX4_init 5 = .ok (.bipush 16, 2) := by decide +kernel
theorem dX4_init_50 : decode cX4_init 50 = .ok (.putfield 34, 3) := by decide +kernel
theorem dX4_init_53 : decode cX4_init 53 = .ok (.aload_n 0, 1) := by decide +kernel
theorem dX4_init_54 : decode cX4_init 54 = .ok (.iload_n 1, 1) := by decide +kernel
theorem dX4_init_55 : decode cX4_init 55 = .ok (.putfield 38, 3) := by decide +kernel
theorem dX4_init_58 : decode cX4_init 58 = .ok (.aload_n 0, 1) := by decide +kernel
theorem dX4_init_59 : decode cX4_init 59 = .ok (.iload_n 2, 1) := by decide +kernel
theorem dX4_init_60 : decode cX4_init 60 = .ok (.putfield 41, 3) := by decide +kernel
theorem dX4_init_63 : decode cX4_init 63 = .ok (.aload_n 0, 1) := by decide +kernel
theorem dX4_init_64 : decode cX4_init 64 = .ok (.aload_n 3, 1) := by decide +kernel
theorem dX4_init_65 : decode cX4_init 65 = .ok (.putfield 44, 3) := by decide +kernel
theorem dX4_init_68 : decode cX4_init 68 = .ok (.return_, 1) := by decide +kernel
theorem dX4_init_7 : decode cX4_init 7 = .ok (.newarray .int, 2) := by decide +kernel
theorem dX4_init_9 : decode cX4_init 9 = .ok (.putfield 9, 3) := by decide +kernel
theorem dX5_init_0 : decode cX5_init 0 = .ok (.aload_n 0, 1) := by decide +kernel
theorem dX5_init_1 : decode cX5_init 1 = .ok (.invokespecial 3, 3) := by decide +kernel
theorem dX5_init_10 : decode cX5_init 10 = .ok (.putfield 9, 3) := by decide +kernel
theorem dX5_init_13 : decode cX5_init 13 = .ok (.aload_n 0, 1) := by decide +kernel
theorem dX5_init_14 : decode cX5_init 14 = .ok (.iconst 0, 1) := by decide +kernel
theorem dX5_init_15 : decode cX5_init 15 = .ok (.putfield 15, 3) := by decide +kernel
theorem dX5_init_18 : decode cX5_init 18 = .ok (.aload_n 0, 1) := by decide +kernel
theorem dX5_init_19 : decode cX5_init 19 = .ok (.iload_n 1, 1) := by decide +kernel
theorem dX5_init_20 : decode cX5_init 20 = .ok (.putfield 19, 3) := by decide +kernel
theorem dX5_init_23 : decode cX5_init 23 = .ok (.return_, 1) := by decide +kernel
theorem dX5_init_4 : decode cX5_init 4 = .ok (.aload_n 0, 1) := by decide +kernel
theorem dX5_init_5 : decode cX5_init 5 = .ok (.sipush 1000, 3) := by decide +kernel
theorem dX5_init_8 : decode cX5_init 8 = .ok (.newarray .int, 2) := by decide +kernel
theorem dX8_checkEntry_0 : decode cX8_checkEntry 0 = .ok (.iload_n 0, 1) := by decide +kernel
theorem dX8_checkEntry_1 : decode cX8_checkEntry 1 = .ok (.iconst 0, 1) := by decide +kernel
theorem dX8_checkEntry_10 : decode cX8_checkEntry 10 = .ok (.invokestatic 53, 3) := by decide +kernel
theorem dX8_checkEntry_13 : decode cX8_checkEntry 13 = .ok (.return_, 1) := by decide +kernel
theorem dX8_checkEntry_2 : decode cX8_checkEntry 2 = .ok (.iconst 3, 1) := by decide +kernel
theorem dX8_checkEntry_3 : decode cX8_checkEntry 3 = .ok (.invokestatic 53, 3) := by decide +kernel
theorem dX8_checkEntry_6 : decode cX8_checkEntry 6 = .ok (.iload_n 1, 1) := by decide +kernel
theorem dX8_checkEntry_7 : decode cX8_checkEntry 7 = .ok (.iconst 0, 1) := by decide +kernel
theorem dX8_checkEntry_8 : decode cX8_checkEntry 8 = .ok (.bipush 99, 2) := by decide +kernel
theorem dX8_document_0 : decode cX8_document 0 = .ok (.iload_n 1, 1) := by decide +kernel
theorem dX8_document_1 : decode cX8_document 1 = .ok (.invokestatic 99, 3) := by decide +kernel
theorem dX8_document_10 : decode cX8_document 10 = .ok (.aload_n 0, 1) := by decide +kernel
theorem dX8_document_11 : decode cX8_document 11 = .ok (.getfield 22, 3) := by decide +kernel
theorem dX8_document_14 : decode cX8_document 14 = .ok (.invokevirtual 57, 3) := by decide +kernel
theorem dX8_document_17 : decode cX8_document 17 = .ok (.iconst 1, 1) := by decide +kernel
theorem dX8_document_18 : decode cX8_document 18 = .ok (.iadd, 1) := by decide +kernel
theorem dX8_document_19 : decode cX8_document 19 = .ok (.bipush 20, 2) := by decide +kernel
theorem dX8_document_21 : decode cX8_document 21 = .ok (.invokestatic 61, 3) := by decide +kernel
theorem dX8_document_24 : decode cX8_document 24 = .ok (.aload_n 0, 1) := by decide +kernel
theorem dX8_document_25 : decode cX8_document 25 = .ok (.getfield 22, 3) := by decide +kernel
theorem dX8_document_28 : decode cX8_document 28 = .ok (.new 203, 3) := by decide +kernel
theorem dX8_document_31 : decode cX8_document 31 = .ok (.dup, 1) := by decide +kernel
theorem dX8_document_32 : decode cX8_document 32 = .ok (.iload_n 1, 1) := by decide +kernel
theorem dX8_document_33 : decode cX8_document 33 = .ok (.iconst 1, 1) := by decide +kernel
theorem dX8_document_34 : decode cX8_document 34 = .ok (.iload_n 2, 1) := by decide +kernel
theorem dX8_document_35 : decode cX8_document 35 = .ok (.ishl, 1) := by decide +kernel
theorem dX8_document_36 : decode cX8_document 36 = .ok (.invokespecial 205, 3) := by decide +kernel
theorem dX8_document_39 : decode cX8_document 39 = .ok (.invokevirtual 70, 3) := by decide +kernel
theorem dX8_document_4 : decode cX8_document 4 = .ok (.iload_n 2, 1) := by decide +kernel
theorem dX8_document_42 : decode cX8_document 42 = .ok (.pop, 1) := by decide +kernel
theorem dX8_document_43 : decode cX8_document 43 = .ok (.aload_n 0, 1) := by decide +kernel
theorem dX8_document_44 : decode cX8_document 44 = .ok (.getfield 38, 3) := by decide +kernel
theorem dX8_document_47 : decode cX8_document 47 = .ok (.invokevirtual 207, 3) := by decide +kernel
theorem dX8_document_5 : decode cX8_document 5 = .ok (.iconst 0, 1) := by decide +kernel
theorem dX8_document_50 : decode cX8_document 50 = .ok (.aload_n 0, 1) := by decide +kernel
theorem dX8_document_51 : decode cX8_document 51 = .ok (.getfield 22, 3) := by decide +kernel
theorem dX8_document_54 : decode cX8_document 54 = .ok (.invokevirtual 57, 3) := by decide +kernel
theorem dX8_document_57 : decode cX8_document 57 = .ok (.iconst 1, 1) := by decide +kernel
theorem dX8_document_58 : decode cX8_document 58 = .ok (.isub, 1) := by decide +kernel
theorem dX8_document_59 : decode cX8_document 59 = .ok (.ireturn, 1) := by decide +kernel
theorem dX8_document_6 : decode cX8_document 6 = .ok (.iconst 3, 1) := by decide +kernel
theorem dX8_document_7 : decode cX8_document 7 = .ok (.invokestatic 53, 3) := by decide +kernel
theorem dX8_mould_0 : decode cX8_mould 0 = .ok (.iload_n 1, 1) := by decide +kernel
theorem dX8_mould_1 : decode cX8_mould 1 = .ok (.iconst 0, 1) := by decide +kernel
theorem dX8_mould_10 : decode cX8_mould 10 = .ok (.invokestatic 53, 3) := by decide +kernel
theorem dX8_mould_101 : decode cX8_mould 101 = .ok (.invokevirtual 70, 3) := by decide +kernel
theorem dX8_mould_104 : decode cX8_mould 104 = .ok (.pop, 1) := by decide +kernel
theorem dX8_mould_105 : decode cX8_mould 105 = .ok (.aload_n 0, 1) := by decide +kernel
theorem dX8_mould_106 : decode cX8_mould 106 = .ok (.getfield 12, 3) := by decide +kernel
theorem dX8_mould_109 : decode cX8_mould 109 = .ok (.invokevirtual 57, 3) := by decide +kernel
theorem dX8_mould_112 : decode cX8_mould 112 = .ok (.iconst 1, 1) := by decide +kernel
theorem dX8_mould_113 : decode cX8_mould 113 = .ok (.isub, 1) := by decide +kernel
theorem dX8_mould_114 : decode cX8_mould 114 = .ok (.ireturn, 1) := by decide +kernel
theorem dX8_mould_13 : decode cX8_mould 13 = .ok (.iload_n 3, 1) := by decide +kernel
theorem dX8_mould_14 : decode cX8_mould 14 = .ok (.bipush 100, 2) := by decide +kernel
theorem dX8_mould_16 : decode cX8_mould 16 = .ok (.sipush 400, 3) := by decide +kernel
theorem dX8_mould_19 : decode cX8_mould 19 = .ok (.invokestatic 53, 3) := by decide +kernel
theorem dX8_mould_2 : decode cX8_mould 2 = .ok (.iconst 4, 1) := by decide +kernel
theorem dX8_mould_22 : decode cX8_mould 22 = .ok (.iload 4, 2) := by decide +kernel
theorem dX8_mould_24 : decode cX8_mould 24 = .ok (.bipush 100, 2) := by decide +kernel
theorem dX8_mould_26 : decode cX8_mould 26 = .ok (.sipush 400, 3) := by decide +kernel
theorem dX8_mould_29 : decode cX8_mould 29 = .ok (.invokestatic 53, 3) := by decide +kernel
theorem dX8_mould_3 : decode cX8_mould 3 = .ok (.invokestatic 53, 3) := by decide +kernel
theorem dX8_mould_32 : decode cX8_mould 32 = .ok (.iload 5, 2) := by decide +kernel
theorem dX8_mould_34 : decode cX8_mould 34 = .ok (.bipush 100, 2) := by decide +kernel
theorem dX8_mould_36 : decode cX8_mould 36 = .ok (.sipush 400, 3) := by decide +kernel
theorem dX8_mould_39 : decode cX8_mould 39 = .ok (.invokestatic 53, 3) := by decide +kernel
theorem dX8_mould_42 : decode cX8_mould 42 = .ok (.iload 6, 2) := by decide +kernel
theorem dX8_mould_44 : decode cX8_mould 44 = .ok (.bipush 100, 2) := by decide +kernel
theorem dX8_mould_46 : decode cX8_mould 46 = .ok (.sipush 400, 3) := by decide +kernel
theorem dX8_mould_49 : decode cX8_mould 49 = .ok (.invokestatic 53, 3) := by decide +kernel
theorem dX8_mould_52 : decode cX8_mould 52 = .ok (.aload_n 0, 1) := by decide +kernel
theorem dX8_mould_53 : decode cX8_mould 53 = .ok (.getfield 12, 3) := by decide +kernel
theorem dX8_mould_56 : decode cX8_mould 56 = .ok (.invokevirtual 57, 3) := by decide +kernel
theorem dX8_mould_59 : decode cX8_mould 59 = .ok (.iconst 1, 1) := by decide +kernel
theorem dX8_mould_6 : decode cX8_mould 6 = .ok (.iload_n 2, 1) := by decide +kernel
theorem dX8_mould_60 : decode cX8_mould 60 = .ok (.iadd, 1) := by decide +kernel
theorem dX8_mould_61 : decode cX8_mould 61 = .ok (.bipush 12, 2) := by decide +kernel
theorem dX8_mould_63 : decode cX8_mould 63 = .ok (.invokestatic 61, 3) := by decide +kernel
theorem dX8_mould_66 : decode cX8_mould 66 = .ok (.aload_n 0, 1) := by decide +kernel
theorem dX8_mould_67 : decode cX8_mould 67 = .ok (.getfield 12, 3) := by decide +kernel
theorem dX8_mould_7 : decode cX8_mould 7 = .ok (.iconst 0, 1) := by decide +kernel
theorem dX8_mould_70 : decode cX8_mould 70 = .ok (.new 65, 3) := by decide +kernel
theorem dX8_mould_73 : decode cX8_mould 73 = .ok (.dup, 1) := by decide +kernel
theorem dX8_mould_74 : decode cX8_mould 74 = .ok (.iload_n 1, 1) := by decide +kernel
theorem dX8_mould_75 : decode cX8_mould 75 = .ok (.iload_n 2, 1) := by decide +kernel
theorem dX8_mould_76 : decode cX8_mould 76 = .ok (.iconst 4, 1) := by decide +kernel
theorem dX8_mould_77 : decode cX8_mould 77 = .ok (.newarray .int, 2) := by decide +kernel
theorem dX8_mould_79 : decode cX8_mould 79 = .ok (.dup, 1) := by decide +kernel
theorem dX8_mould_8 : decode cX8_mould 8 = .ok (.bipush 99, 2) := by decide +kernel
theorem dX8_mould_80 : decode cX8_mould 80 = .ok (.iconst 0, 1) := by decide +kernel
theorem dX8_mould_81 : decode cX8_mould 81 = .ok (.iload_n 3, 1) := by decide +kernel
theorem dX8_mould_82 : decode cX8_mould 82 = .ok (.iastore, 1) := by decide +kernel
theorem dX8_mould_83 : decode cX8_mould 83 = .ok (.dup, 1) := by decide +kernel
theorem dX8_mould_84 : decode cX8_mould 84 = .ok (.iconst 1, 1) := by decide +kernel
theorem dX8_mould_85 : decode cX8_mould 85 = .ok (.iload 4, 2) := by decide +kernel
theorem dX8_mould_87 : decode cX8_mould 87 = .ok (.iastore, 1) := by decide +kernel
theorem dX8_mould_88 : decode cX8_mould 88 = .ok (.dup, 1) := by decide +kernel
theorem dX8_mould_89 : decode cX8_mould 89 = .ok (.iconst 2, 1) := by decide +kernel
theorem dX8_mould_90 : decode cX8_mould 90 = .ok (.iload 5, 2) := by decide +kernel
theorem dX8_mould_92 : decode cX8_mould 92 = .ok (.iastore, 1) := by decide +kernel
theorem dX8_mould_93 : decode cX8_mould 93 = .ok (.dup, 1) := by decide +kernel
theorem dX8_mould_94 : decode cX8_mould 94 = .ok (.iconst 3, 1) := by decide +kernel
theorem dX8_mould_95 : decode cX8_mould 95 = .ok (.iload 6, 2) := by decide +kernel
theorem dX8_mould_97 : decode cX8_mould 97 = .ok (.iastore, 1) := by decide +kernel
theorem dX8_mould_98 : decode cX8_mould 98 = .ok (.invokespecial 67, 3) := by decide +kernel
theorem dX8_ream_0 : decode cX8_ream 0 = .ok (.iload_n 1, 1) := by decide +kernel
theorem dX8_ream_1 : decode cX8_ream 1 = .ok (.iconst 0, 1) := by decide +kernel
theorem dX8_ream_10 : decode cX8_ream 10 = .ok (.invokevirtual 57, 3) := by decide +kernel
theorem dX8_ream_13 : decode cX8_ream 13 = .ok (.iconst 1, 1) := by decide +kernel
theorem dX8_ream_14 : decode cX8_ream 14 = .ok (.iadd, 1) := by decide +kernel
theorem dX8_ream_15 : decode cX8_ream 15 = .ok (.bipush 20, 2) := by decide +kernel
theorem dX8_ream_17 : decode cX8_ream 17 = .ok (.invokestatic 61, 3) := by decide +kernel
theorem dX8_ream_2 : decode cX8_ream 2 = .ok (.iconst 4, 1) := by decide +kernel
theorem dX8_ream_20 : decode cX8_ream 20 = .ok (.aload_n 0, 1) := by decide +kernel
theorem dX8_ream_21 : decode cX8_ream 21 = .ok (.getfield 19, 3) := by decide +kernel
theorem dX8_ream_24 : decode cX8_ream 24 = .ok (.new 165, 3) := by decide +kernel
theorem dX8_ream_27 : decode cX8_ream 27 = .ok (.dup, 1) := by decide +kernel
theorem dX8_ream_28 : decode cX8_ream 28 = .ok (.iload_n 1, 1) := by decide +kernel
theorem dX8_ream_29 : decode cX8_ream 29 = .ok (.invokespecial 167, 3) := by decide +kernel
theorem dX8_ream_3 : decode cX8_ream 3 = .ok (.invokestatic 53, 3) := by decide +kernel
theorem dX8_ream_32 : decode cX8_ream 32 = .ok (.invokevirtual 70, 3) := by decide +kernel
theorem dX8_ream_35 : decode cX8_ream 35 = .ok (.pop, 1) := by decide +kernel
theorem dX8_ream_36 : decode cX8_ream 36 = .ok (.aload_n 0, 1) := by decide +kernel
theorem dX8_ream_37 : decode cX8_ream 37 = .ok (.getfield 19, 3) := by decide +kernel
theorem dX8_ream_40 : decode cX8_ream 40 = .ok (.invokevirtual 57, 3) := by decide +kernel
theorem dX8_ream_43 : decode cX8_ream 43 = .ok (.iconst 1, 1) := by decide +kernel
theorem dX8_ream_44 : decode cX8_ream 44 = .ok (.isub, 1) := by decide +kernel
theorem dX8_ream_45 : decode cX8_ream 45 = .ok (.ireturn, 1) := by decide +kernel
theorem dX8_ream_6 : decode cX8_ream 6 = .ok (.aload_n 0, 1) := by decide +kernel
theorem dX8_ream_7 : decode cX8_ream 7 = .ok (.getfield 19, 3) := by decide +kernel
def okM (p0 p1 p2 p3 p4 p5 : Int32) : Prop := (0 ≤ p0 ∧ p0 ≤ 4) ∧ (0 ≤ p1 ∧ p1 ≤ 99) ∧ (100 ≤ p2 ∧ p2 ≤ 400) ∧ (100 ≤ p3 ∧ p3 ≤ 400) ∧ (100 ≤ p4 ∧ p4 ≤ 400) ∧ (100 ≤ p5 ∧ p5 ≤ 400)
def okR (p0 : Int32) : Prop := 0 ≤ p0 ∧ p0 ≤ 4
def okD (p0 p1 : Int32) : Prop := (1400 ≤ p0 ∧ p0 ≤ 1900) ∧ (0 ≤ p1 ∧ p1 ≤ 3)
def okE (p0 p1 : Int32) : Prop := (0 ≤ p0 ∧ p0 ≤ 3) ∧ (0 ≤ p1 ∧ p1 ≤ 99)
abbrev wz_X4_init : List Cond := .code yX4_init cX4_init 4 none :: lw_good
set_option maxHeartbeats 4000000 in
set_option maxRecDepth 100000 in
/-- Mould(..) -/
theorem k_X4_init (l : Launch) (G : va_G) (z : Nat) (h0 : Nat) (p0 : Int32) (p1 : Int32) (dd : Nat) (sz : Nat)  : Met l yX4_init wz_X4_init ({ frames := 1, cells := 3, slots := 48, locals := 20 }) (va_Pc [.ref h0, .int p0, .int p1, .ref dd] (PW G z [(h0, .inr (8, [.int 0, .int 0, .null, .null, .null, .null, .int 0, .int 0, .int 0, .int 0, .null]))] [] sz)) (va_Qv (fun (_ : Unit) => True) (fun (_ : Unit) (t : State) => ∃ (fsx : List Value), QW G [(h0, .inr (8, fsx))] [] (va_A [(h0, .inr (8, [.int 0, .int 0, .null, .null, .null, .null, .int 0, .int 0, .int 0, .int 0, .null]))] sz) t) (va_A [(h0, .inr (8, [.int 0, .int 0, .null, .null, .null, .null, .int 0, .int 0, .int 0, .int 0, .null]))] sz)) 3 48 (va_A [(h0, .inr (8, [.int 0, .int 0, .null, .null, .null, .null, .int 0, .int 0, .int 0, .int 0, .null]))] sz) := by
  refine Met.ofW (cc := cX4_init) (maxL := 4) (ret := none) (by decide) rfl ?_
  intro p e s m args below meth c s₁ B hml hv
  obtain ⟨rfl, rfl, hP, hK, hD0, hG⟩ := hv
  have hx := B.exec
  have hb := B.bytes
  have hr := B.returns
  have hts := atoms_spec (ws := wz_X4_init) B.pre
  have hg : ∀ w ∈ lw_good, w.before _ s = true := fun w h => hts w (List.mem_cons_of_mem _ h)
  have hown : s.vm.findClass RX4 = some m.cls := findClass_of_methodNamed B.named
  have hlocks := B.notSynchronized
  have hin : meth.name = "<init>" := (name_of_methodNamed B.named B.method).1
  have hD := hD0.self (sz := s.heap.size)
  generalize hAe : va_A [(h0, .inr (8, [.int 0, .int 0, .null, .null, .null, .null, .int 0, .int 0, .int 0, .int 0, .null]))] s.heap.size = A at hD hG ⊢
  have hA : ∀ q : Nat, s.heap.size ≤ q → A q := fun q h => by rw [← hAe]; exact Or.inr h
  have hS : va_S A s.heap s.heap [] := va_S.rf
  have hl := lv_entry ([.ref h0, .int p0, .int p1, .ref dd]) (n := 4) (Nat.le_of_ble_eq_true rfl)
  rw [lg_entry_eq]
  generalize (lg_sl ([.ref h0, .int p0, .int p1, .ref dd]) ++ List.replicate (4 - (lg_sl ([.ref h0, .int p0, .int p1, .ref dd])).length) Slot.unset).toArray = ls at hl ⊢
  have hl : lv_has ls 4 [(0, .ref h0), (1, .int p0), (2, .int p1), (3, .ref dd)] := hl
  refine lv_aload_n hx hb dX4_init_0 rfl (lv_at hl 0 rfl) ?_
  refine W.objInit hx hb hown (hg _ q406) (hg _ q43) (hg _ q44) rfl (by rw [hml]; exact hl.1) rfl dX4_init_1 (Nat.le_of_ble_eq_true rfl) (Nat.le_of_ble_eq_true rfl) ?_
  refine W.eq (g2 := F0 m 4 ls []) rfl ?_
  refine lv_aload_n hx hb dX4_init_4 rfl (lv_at hl 0 rfl) ?_
  refine lv_bipush (v := 16) hx hb dX4_init_5 (by decide) ?_
  refine va_newa (atype := .int) (ty := .int) (a0 := (16, .inl (fun _ => 0))) (N' := 16) hx hb (hg _ q94) rfl hK hP hD hS hA (fun _ => rfl) (by decide) (by decide +kernel) (Nat.le_of_ble_eq_true rfl) (Nat.le_of_ble_eq_true rfl) (Nat.le_of_ble_eq_true rfl) dX4_init_7 (fun o_2 cy_1 H_3 hK hP hD hS => ?_)
  have hP : va_P G vwCl ([(h0, .inr (8, [.int 0, .int 0, .null, .null, .null, .null, .int 0, .int 0, .int 0, .int 0, .null])), (o_2, .inl (cy_1, 16, .inl (fun _ => 0)))]) H_3 := hP
  have hD : va_D A ([(h0, .inr (8, [.int 0, .int 0, .null, .null, .null, .null, .int 0, .int 0, .int 0, .int 0, .null])), (o_2, .inl (cy_1, 16, .inl (fun _ => 0)))]) := hD
  have hK : va_K G vwCl [(cy_1, .int)] s := hK
  refine W.widen (k := 1) (n := 16) (Nat.le_of_ble_eq_true rfl) (Nat.le_of_ble_eq_true rfl) ?_
  refine va_putF (D := G) (ci := 8) (v := .ref o_2) (ty := .array (.int)) (C := RX4) (T := TX4) (N := 11) hx hb hg in_X4 tyX4 tyX4_ok nmX4 hown hK hP hD hS 0 rfl rfl 3 (by decide) (hg _ q412) (fun _ h9 => h9) rfl hin rfl (by decide +kernel) rfl rfl (Nat.le_of_ble_eq_true rfl) dX4_init_9 (fun H_4 locs hP hD hS => ?_)
  have hP : va_P G vwCl ([(h0, .inr (8, [.int 0, .int 0, .null, .ref o_2, .null, .null, .int 0, .int 0, .int 0, .int 0, .null])), (o_2, .inl (cy_1, 16, .inl (fun _ => 0)))]) H_4 := hP
  have hD : va_D A ([(h0, .inr (8, [.int 0, .int 0, .null, .ref o_2, .null, .null, .int 0, .int 0, .int 0, .int 0, .null])), (o_2, .inl (cy_1, 16, .inl (fun _ => 0)))]) := hD
  refine lv_aload_n hx hb dX4_init_12 rfl (lv_at hl 0 rfl) ?_
  refine lv_bipush (v := 16) hx hb dX4_init_13 (by decide) ?_
  refine va_newa (atype := .int) (ty := .int) (a0 := (16, .inl (fun _ => 0))) (N' := 16) hx hb (hg _ q94) rfl hK hP hD hS hA (fun _ => rfl) (by decide) (by decide +kernel) (Nat.le_of_ble_eq_true rfl) (Nat.le_of_ble_eq_true rfl) (Nat.le_of_ble_eq_true rfl) dX4_init_15 (fun o_6 cy_5 H_7 hK hP hD hS => ?_)
  have hP : va_P G vwCl ([(h0, .inr (8, [.int 0, .int 0, .null, .ref o_2, .null, .null, .int 0, .int 0, .int 0, .int 0, .null])), (o_2, .inl (cy_1, 16, .inl (fun _ => 0))), (o_6, .inl (cy_5, 16, .inl (fun _ => 0)))]) H_7 := hP
  have hD : va_D A ([(h0, .inr (8, [.int 0, .int 0, .null, .ref o_2, .null, .null, .int 0, .int 0, .int 0, .int 0, .null])), (o_2, .inl (cy_1, 16, .inl (fun _ => 0))), (o_6, .inl (cy_5, 16, .inl (fun _ => 0)))]) := hD
  have hK : va_K G vwCl [(cy_1, .int), (cy_5, .int)] s := hK
  refine W.widen (k := 2) (n := 32) (Nat.le_of_ble_eq_true rfl) (Nat.le_of_ble_eq_true rfl) ?_
  refine va_putF (D := G) (ci := 8) (v := .ref o_6) (ty := .array (.int)) (C := RX4) (T := TX4) (N := 11) hx hb hg in_X4 tyX4 tyX4_ok nmX4 hown hK hP hD hS 0 rfl rfl 4 (by decide) (hg _ q413) (fun _ h9 => h9) rfl hin rfl (by decide +kernel) rfl rfl (Nat.le_of_ble_eq_true rfl) dX4_init_17 (fun H_8 locs hP hD hS => ?_)
  have hP : va_P G vwCl ([(h0, .inr (8, [.int 0, .int 0, .null, .ref o_2, .ref o_6, .null, .int 0, .int 0, .int 0, .int 0, .null])), (o_2, .inl (cy_1, 16, .inl (fun _ => 0))), (o_6, .inl (cy_5, 16, .inl (fun _ => 0)))]) H_8 := hP
  have hD : va_D A ([(h0, .inr (8, [.int 0, .int 0, .null, .ref o_2, .ref o_6, .null, .int 0, .int 0, .int 0, .int 0, .null])), (o_2, .inl (cy_1, 16, .inl (fun _ => 0))), (o_6, .inl (cy_5, 16, .inl (fun _ => 0)))]) := hD
  refine lv_aload_n hx hb dX4_init_20 rfl (lv_at hl 0 rfl) ?_
  refine lv_bipush (v := 16) hx hb dX4_init_21 (by decide) ?_
  refine va_newa (atype := .int) (ty := .int) (a0 := (16, .inl (fun _ => 0))) (N' := 16) hx hb (hg _ q94) rfl hK hP hD hS hA (fun _ => rfl) (by decide) (by decide +kernel) (Nat.le_of_ble_eq_true rfl) (Nat.le_of_ble_eq_true rfl) (Nat.le_of_ble_eq_true rfl) dX4_init_23 (fun o_10 cy_9 H_11 hK hP hD hS => ?_)
  have hP : va_P G vwCl ([(h0, .inr (8, [.int 0, .int 0, .null, .ref o_2, .ref o_6, .null, .int 0, .int 0, .int 0, .int 0, .null])), (o_2, .inl (cy_1, 16, .inl (fun _ => 0))), (o_6, .inl (cy_5, 16, .inl (fun _ => 0))), (o_10, .inl (cy_9, 16, .inl (fun _ => 0)))]) H_11 := hP
  have hD : va_D A ([(h0, .inr (8, [.int 0, .int 0, .null, .ref o_2, .ref o_6, .null, .int 0, .int 0, .int 0, .int 0, .null])), (o_2, .inl (cy_1, 16, .inl (fun _ => 0))), (o_6, .inl (cy_5, 16, .inl (fun _ => 0))), (o_10, .inl (cy_9, 16, .inl (fun _ => 0)))]) := hD
  have hK : va_K G vwCl [(cy_1, .int), (cy_5, .int), (cy_9, .int)] s := hK
  refine W.widen (k := 3) (n := 48) (Nat.le_of_ble_eq_true rfl) (Nat.le_of_ble_eq_true rfl) ?_
  refine va_putF (D := G) (ci := 8) (v := .ref o_10) (ty := .array (.int)) (C := RX4) (T := TX4) (N := 11) hx hb hg in_X4 tyX4 tyX4_ok nmX4 hown hK hP hD hS 0 rfl rfl 5 (by decide) (hg _ q414) (fun _ h9 => h9) rfl hin rfl (by decide +kernel) rfl rfl (Nat.le_of_ble_eq_true rfl) dX4_init_25 (fun H_12 locs hP hD hS => ?_)
  have hP : va_P G vwCl ([(h0, .inr (8, [.int 0, .int 0, .null, .ref o_2, .ref o_6, .ref o_10, .int 0, .int 0, .int 0, .int 0, .null])), (o_2, .inl (cy_1, 16, .inl (fun _ => 0))), (o_6, .inl (cy_5, 16, .inl (fun _ => 0))), (o_10, .inl (cy_9, 16, .inl (fun _ => 0)))]) H_12 := hP
  have hD : va_D A ([(h0, .inr (8, [.int 0, .int 0, .null, .ref o_2, .ref o_6, .ref o_10, .int 0, .int 0, .int 0, .int 0, .null])), (o_2, .inl (cy_1, 16, .inl (fun _ => 0))), (o_6, .inl (cy_5, 16, .inl (fun _ => 0))), (o_10, .inl (cy_9, 16, .inl (fun _ => 0)))]) := hD
  refine lv_aload_n hx hb dX4_init_28 rfl (lv_at hl 0 rfl) ?_
  refine lv_iconst (v := 0) hx hb dX4_init_29 (by decide) ?_
  refine va_put (D := G) (ci := 8) (v := .int 0) (ty := .int) (C := RX4) (T := TX4) (N := 11) hx hb hg in_X4 tyX4 tyX4_ok nmX4 hown hK hP hD hS 0 rfl rfl 6 (by decide) (hg _ q415) (fun _ h9 => h9) rfl (by decide +kernel) rfl rfl (Nat.le_of_ble_eq_true rfl) dX4_init_30 (fun H_13 locs hP hD hS => ?_)
  have hP : va_P G vwCl ([(h0, .inr (8, [.int 0, .int 0, .null, .ref o_2, .ref o_6, .ref o_10, .int 0, .int 0, .int 0, .int 0, .null])), (o_2, .inl (cy_1, 16, .inl (fun _ => 0))), (o_6, .inl (cy_5, 16, .inl (fun _ => 0))), (o_10, .inl (cy_9, 16, .inl (fun _ => 0)))]) H_13 := hP
  have hD : va_D A ([(h0, .inr (8, [.int 0, .int 0, .null, .ref o_2, .ref o_6, .ref o_10, .int 0, .int 0, .int 0, .int 0, .null])), (o_2, .inl (cy_1, 16, .inl (fun _ => 0))), (o_6, .inl (cy_5, 16, .inl (fun _ => 0))), (o_10, .inl (cy_9, 16, .inl (fun _ => 0)))]) := hD
  refine lv_aload_n hx hb dX4_init_33 rfl (lv_at hl 0 rfl) ?_
  refine lv_iconst (v := (-1)) hx hb dX4_init_34 (by decide) ?_
  refine va_put (D := G) (ci := 8) (v := .int (-1)) (ty := .int) (C := RX4) (T := TX4) (N := 11) hx hb hg in_X4 tyX4 tyX4_ok nmX4 hown hK hP hD hS 0 rfl rfl 7 (by decide) (hg _ q417) (fun _ h9 => h9) rfl (by decide +kernel) rfl rfl (Nat.le_of_ble_eq_true rfl) dX4_init_35 (fun H_14 locs hP hD hS => ?_)
  have hP : va_P G vwCl ([(h0, .inr (8, [.int 0, .int 0, .null, .ref o_2, .ref o_6, .ref o_10, .int 0, .int (-1), .int 0, .int 0, .null])), (o_2, .inl (cy_1, 16, .inl (fun _ => 0))), (o_6, .inl (cy_5, 16, .inl (fun _ => 0))), (o_10, .inl (cy_9, 16, .inl (fun _ => 0)))]) H_14 := hP
  have hD : va_D A ([(h0, .inr (8, [.int 0, .int 0, .null, .ref o_2, .ref o_6, .ref o_10, .int 0, .int (-1), .int 0, .int 0, .null])), (o_2, .inl (cy_1, 16, .inl (fun _ => 0))), (o_6, .inl (cy_5, 16, .inl (fun _ => 0))), (o_10, .inl (cy_9, 16, .inl (fun _ => 0)))]) := hD
  refine lv_aload_n hx hb dX4_init_38 rfl (lv_at hl 0 rfl) ?_
  refine lv_iconst (v := 0) hx hb dX4_init_39 (by decide) ?_
  refine va_put (D := G) (ci := 8) (v := .int 0) (ty := .int) (C := RX4) (T := TX4) (N := 11) hx hb hg in_X4 tyX4 tyX4_ok nmX4 hown hK hP hD hS 0 rfl rfl 8 (by decide) (hg _ q419) (fun _ h9 => h9) rfl (by decide +kernel) rfl rfl (Nat.le_of_ble_eq_true rfl) dX4_init_40 (fun H_15 locs hP hD hS => ?_)
  have hP : va_P G vwCl ([(h0, .inr (8, [.int 0, .int 0, .null, .ref o_2, .ref o_6, .ref o_10, .int 0, .int (-1), .int 0, .int 0, .null])), (o_2, .inl (cy_1, 16, .inl (fun _ => 0))), (o_6, .inl (cy_5, 16, .inl (fun _ => 0))), (o_10, .inl (cy_9, 16, .inl (fun _ => 0)))]) H_15 := hP
  have hD : va_D A ([(h0, .inr (8, [.int 0, .int 0, .null, .ref o_2, .ref o_6, .ref o_10, .int 0, .int (-1), .int 0, .int 0, .null])), (o_2, .inl (cy_1, 16, .inl (fun _ => 0))), (o_6, .inl (cy_5, 16, .inl (fun _ => 0))), (o_10, .inl (cy_9, 16, .inl (fun _ => 0)))]) := hD
  refine lv_aload_n hx hb dX4_init_43 rfl (lv_at hl 0 rfl) ?_
  refine lv_iconst (v := 0) hx hb dX4_init_44 (by decide) ?_
  refine va_put (D := G) (ci := 8) (v := .int 0) (ty := .int) (C := RX4) (T := TX4) (N := 11) hx hb hg in_X4 tyX4 tyX4_ok nmX4 hown hK hP hD hS 0 rfl rfl 9 (by decide) (hg _ q421) (fun _ h9 => h9) rfl (by decide +kernel) rfl rfl (Nat.le_of_ble_eq_true rfl) dX4_init_45 (fun H_16 locs hP hD hS => ?_)
  have hP : va_P G vwCl ([(h0, .inr (8, [.int 0, .int 0, .null, .ref o_2, .ref o_6, .ref o_10, .int 0, .int (-1), .int 0, .int 0, .null])), (o_2, .inl (cy_1, 16, .inl (fun _ => 0))), (o_6, .inl (cy_5, 16, .inl (fun _ => 0))), (o_10, .inl (cy_9, 16, .inl (fun _ => 0)))]) H_16 := hP
  have hD : va_D A ([(h0, .inr (8, [.int 0, .int 0, .null, .ref o_2, .ref o_6, .ref o_10, .int 0, .int (-1), .int 0, .int 0, .null])), (o_2, .inl (cy_1, 16, .inl (fun _ => 0))), (o_6, .inl (cy_5, 16, .inl (fun _ => 0))), (o_10, .inl (cy_9, 16, .inl (fun _ => 0)))]) := hD
  refine lv_aload_n hx hb dX4_init_48 rfl (lv_at hl 0 rfl) ?_
  refine lv_null hx hb dX4_init_49 ?_
  refine va_put (D := G) (ci := 8) (v := .null) (ty := .object "Watermarkmill$Sale") (C := RX4) (T := TX4) (N := 11) hx hb hg in_X4 tyX4 tyX4_ok nmX4 hown hK hP hD hS 0 rfl rfl 10 (by decide) (hg _ q423) (fun _ h9 => h9) rfl (by decide +kernel) rfl rfl (Nat.le_of_ble_eq_true rfl) dX4_init_50 (fun H_17 locs hP hD hS => ?_)
  have hP : va_P G vwCl ([(h0, .inr (8, [.int 0, .int 0, .null, .ref o_2, .ref o_6, .ref o_10, .int 0, .int (-1), .int 0, .int 0, .null])), (o_2, .inl (cy_1, 16, .inl (fun _ => 0))), (o_6, .inl (cy_5, 16, .inl (fun _ => 0))), (o_10, .inl (cy_9, 16, .inl (fun _ => 0)))]) H_17 := hP
  have hD : va_D A ([(h0, .inr (8, [.int 0, .int 0, .null, .ref o_2, .ref o_6, .ref o_10, .int 0, .int (-1), .int 0, .int 0, .null])), (o_2, .inl (cy_1, 16, .inl (fun _ => 0))), (o_6, .inl (cy_5, 16, .inl (fun _ => 0))), (o_10, .inl (cy_9, 16, .inl (fun _ => 0)))]) := hD
  refine lv_aload_n hx hb dX4_init_53 rfl (lv_at hl 0 rfl) ?_
  refine lv_iload_n hx hb dX4_init_54 rfl (lv_at hl 1 rfl) ?_
  refine va_putF (D := G) (ci := 8) (v := .int p0) (ty := .int) (C := RX4) (T := TX4) (N := 11) hx hb hg in_X4 tyX4 tyX4_ok nmX4 hown hK hP hD hS 0 rfl rfl 0 (by decide) (hg _ q407) (fun _ h9 => h9) rfl hin rfl (by decide +kernel) rfl rfl (Nat.le_of_ble_eq_true rfl) dX4_init_55 (fun H_18 locs hP hD hS => ?_)
  have hP : va_P G vwCl ([(h0, .inr (8, [.int p0, .int 0, .null, .ref o_2, .ref o_6, .ref o_10, .int 0, .int (-1), .int 0, .int 0, .null])), (o_2, .inl (cy_1, 16, .inl (fun _ => 0))), (o_6, .inl (cy_5, 16, .inl (fun _ => 0))), (o_10, .inl (cy_9, 16, .inl (fun _ => 0)))]) H_18 := hP
  have hD : va_D A ([(h0, .inr (8, [.int p0, .int 0, .null, .ref o_2, .ref o_6, .ref o_10, .int 0, .int (-1), .int 0, .int 0, .null])), (o_2, .inl (cy_1, 16, .inl (fun _ => 0))), (o_6, .inl (cy_5, 16, .inl (fun _ => 0))), (o_10, .inl (cy_9, 16, .inl (fun _ => 0)))]) := hD
  refine lv_aload_n hx hb dX4_init_58 rfl (lv_at hl 0 rfl) ?_
  refine lv_iload_n hx hb dX4_init_59 rfl (lv_at hl 2 rfl) ?_
  refine va_putF (D := G) (ci := 8) (v := .int p1) (ty := .int) (C := RX4) (T := TX4) (N := 11) hx hb hg in_X4 tyX4 tyX4_ok nmX4 hown hK hP hD hS 0 rfl rfl 1 (by decide) (hg _ q408) (fun _ h9 => h9) rfl hin rfl (by decide +kernel) rfl rfl (Nat.le_of_ble_eq_true rfl) dX4_init_60 (fun H_19 locs hP hD hS => ?_)
  have hP : va_P G vwCl ([(h0, .inr (8, [.int p0, .int p1, .null, .ref o_2, .ref o_6, .ref o_10, .int 0, .int (-1), .int 0, .int 0, .null])), (o_2, .inl (cy_1, 16, .inl (fun _ => 0))), (o_6, .inl (cy_5, 16, .inl (fun _ => 0))), (o_10, .inl (cy_9, 16, .inl (fun _ => 0)))]) H_19 := hP
  have hD : va_D A ([(h0, .inr (8, [.int p0, .int p1, .null, .ref o_2, .ref o_6, .ref o_10, .int 0, .int (-1), .int 0, .int 0, .null])), (o_2, .inl (cy_1, 16, .inl (fun _ => 0))), (o_6, .inl (cy_5, 16, .inl (fun _ => 0))), (o_10, .inl (cy_9, 16, .inl (fun _ => 0)))]) := hD
  refine lv_aload_n hx hb dX4_init_63 rfl (lv_at hl 0 rfl) ?_
  refine lv_aload_n hx hb dX4_init_64 rfl (lv_at hl 3 rfl) ?_
  refine va_putF (D := G) (ci := 8) (v := .ref dd) (ty := .array (.int)) (C := RX4) (T := TX4) (N := 11) hx hb hg in_X4 tyX4 tyX4_ok nmX4 hown hK hP hD hS 0 rfl rfl 2 (by decide) (hg _ q410) (fun _ h9 => h9) rfl hin rfl (by decide +kernel) rfl rfl (Nat.le_of_ble_eq_true rfl) dX4_init_65 (fun H_20 locs hP hD hS => ?_)
  have hP : va_P G vwCl ([(h0, .inr (8, [.int p0, .int p1, .ref dd, .ref o_2, .ref o_6, .ref o_10, .int 0, .int (-1), .int 0, .int 0, .null])), (o_2, .inl (cy_1, 16, .inl (fun _ => 0))), (o_6, .inl (cy_5, 16, .inl (fun _ => 0))), (o_10, .inl (cy_9, 16, .inl (fun _ => 0)))]) H_20 := hP
  have hD : va_D A ([(h0, .inr (8, [.int p0, .int p1, .ref dd, .ref o_2, .ref o_6, .ref o_10, .int 0, .int (-1), .int 0, .int 0, .null])), (o_2, .inl (cy_1, 16, .inl (fun _ => 0))), (o_6, .inl (cy_5, 16, .inl (fun _ => 0))), (o_10, .inl (cy_9, 16, .inl (fun _ => 0)))]) := hD
  refine W.widen (k := 3) (n := 48) (Nat.le_of_ble_eq_true rfl) (Nat.le_of_ble_eq_true rfl) ?_
  have hP9 := hP.sub (ws' := [(h0, .inr (8, ([.int p0, .int p1, .ref dd, .ref o_2, .ref o_6, .ref o_10, .int 0, .int (-1), .int 0, .int 0, .null])))]) [0] rfl
  have hD9 := hD.sub (ws' := [(h0, .inr (8, ([.int p0, .int p1, .ref dd, .ref o_2, .ref o_6, .ref o_10, .int 0, .int (-1), .int 0, .int 0, .null])))]) [0] (by decide) rfl
  have hK9 := hK.sub (tys' := []) [] rfl
  exact W.vret hx hb hr (fun t ht hW => ⟨⟨(), rfl, trivial, ⟨[.int p0, .int p1, .ref dd, .ref o_2, .ref o_6, .ref o_10, .int 0, .int (-1), .int 0, .int 0, .null], QW.of hP9 hK9 hD9 ht hW.alike⟩⟩, hS.F ht⟩) hS.2.2 dX4_init_68

abbrev wz_X5_init : List Cond := .code yX5_init cX5_init 2 none :: lw_good
set_option maxHeartbeats 4000000 in
set_option maxRecDepth 100000 in
/-- Ream(..) -/
theorem k_X5_init (l : Launch) (G : va_G) (z : Nat) (h0 : Nat) (p0 : Int32) (sz : Nat)  : Met l yX5_init wz_X5_init ({ frames := 1, cells := 1, slots := 1000, locals := 20 }) (va_Pc [.ref h0, .int p0] (PW G z [(h0, .inr (9, [.int 0, .null, .int 0]))] [] sz)) (va_Qv (fun (_ : Unit) => True) (fun (_ : Unit) (t : State) => ∃ (fsx : List Value), QW G [(h0, .inr (9, fsx))] [] (va_A [(h0, .inr (9, [.int 0, .null, .int 0]))] sz) t) (va_A [(h0, .inr (9, [.int 0, .null, .int 0]))] sz)) 1 1000 (va_A [(h0, .inr (9, [.int 0, .null, .int 0]))] sz) := by
  refine Met.ofW (cc := cX5_init) (maxL := 2) (ret := none) (by decide) rfl ?_
  intro p e s m args below meth c s₁ B hml hv
  obtain ⟨rfl, rfl, hP, hK, hD0, hG⟩ := hv
  have hx := B.exec
  have hb := B.bytes
  have hr := B.returns
  have hts := atoms_spec (ws := wz_X5_init) B.pre
  have hg : ∀ w ∈ lw_good, w.before _ s = true := fun w h => hts w (List.mem_cons_of_mem _ h)
  have hown : s.vm.findClass RX5 = some m.cls := findClass_of_methodNamed B.named
  have hlocks := B.notSynchronized
  have hin : meth.name = "<init>" := (name_of_methodNamed B.named B.method).1
  have hD := hD0.self (sz := s.heap.size)
  generalize hAe : va_A [(h0, .inr (9, [.int 0, .null, .int 0]))] s.heap.size = A at hD hG ⊢
  have hA : ∀ q : Nat, s.heap.size ≤ q → A q := fun q h => by rw [← hAe]; exact Or.inr h
  have hS : va_S A s.heap s.heap [] := va_S.rf
  have hl := lv_entry ([.ref h0, .int p0]) (n := 2) (Nat.le_of_ble_eq_true rfl)
  rw [lg_entry_eq]
  generalize (lg_sl ([.ref h0, .int p0]) ++ List.replicate (2 - (lg_sl ([.ref h0, .int p0])).length) Slot.unset).toArray = ls at hl ⊢
  have hl : lv_has ls 2 [(0, .ref h0), (1, .int p0)] := hl
  refine lv_aload_n hx hb dX5_init_0 rfl (lv_at hl 0 rfl) ?_
  refine W.objInit hx hb hown (hg _ q741) (hg _ q43) (hg _ q44) rfl (by rw [hml]; exact hl.1) rfl dX5_init_1 (Nat.le_of_ble_eq_true rfl) (Nat.le_of_ble_eq_true rfl) ?_
  refine W.eq (g2 := F0 m 4 ls []) rfl ?_
  refine lv_aload_n hx hb dX5_init_4 rfl (lv_at hl 0 rfl) ?_
  refine lv_sipush (v := 1000) hx hb dX5_init_5 (by decide) ?_
  refine va_newa (atype := .int) (ty := .int) (a0 := (1000, .inl (fun _ => 0))) (N' := 1000) hx hb (hg _ q94) rfl hK hP hD hS hA (fun _ => rfl) (by decide) (by decide +kernel) (Nat.le_of_ble_eq_true rfl) (Nat.le_of_ble_eq_true rfl) (Nat.le_of_ble_eq_true rfl) dX5_init_8 (fun o_2 cy_1 H_3 hK hP hD hS => ?_)
  have hP : va_P G vwCl ([(h0, .inr (9, [.int 0, .null, .int 0])), (o_2, .inl (cy_1, 1000, .inl (fun _ => 0)))]) H_3 := hP
  have hD : va_D A ([(h0, .inr (9, [.int 0, .null, .int 0])), (o_2, .inl (cy_1, 1000, .inl (fun _ => 0)))]) := hD
  have hK : va_K G vwCl [(cy_1, .int)] s := hK
  refine W.widen (k := 1) (n := 1000) (Nat.le_of_ble_eq_true rfl) (Nat.le_of_ble_eq_true rfl) ?_
  refine va_putF (D := G) (ci := 9) (v := .ref o_2) (ty := .array (.int)) (C := RX5) (T := TX5) (N := 3) hx hb hg in_X5 tyX5 tyX5_ok nmX5 hown hK hP hD hS 0 rfl rfl 1 (by decide) (hg _ q744) (fun _ h9 => h9) rfl hin rfl (by decide +kernel) rfl rfl (Nat.le_of_ble_eq_true rfl) dX5_init_10 (fun H_4 locs hP hD hS => ?_)
  have hP : va_P G vwCl ([(h0, .inr (9, [.int 0, .ref o_2, .int 0])), (o_2, .inl (cy_1, 1000, .inl (fun _ => 0)))]) H_4 := hP
  have hD : va_D A ([(h0, .inr (9, [.int 0, .ref o_2, .int 0])), (o_2, .inl (cy_1, 1000, .inl (fun _ => 0)))]) := hD
  refine lv_aload_n hx hb dX5_init_13 rfl (lv_at hl 0 rfl) ?_
  refine lv_iconst (v := 0) hx hb dX5_init_14 (by decide) ?_
  refine va_put (D := G) (ci := 9) (v := .int 0) (ty := .int) (C := RX5) (T := TX5) (N := 3) hx hb hg in_X5 tyX5 tyX5_ok nmX5 hown hK hP hD hS 0 rfl rfl 2 (by decide) (hg _ q746) (fun _ h9 => h9) rfl (by decide +kernel) rfl rfl (Nat.le_of_ble_eq_true rfl) dX5_init_15 (fun H_5 locs hP hD hS => ?_)
  have hP : va_P G vwCl ([(h0, .inr (9, [.int 0, .ref o_2, .int 0])), (o_2, .inl (cy_1, 1000, .inl (fun _ => 0)))]) H_5 := hP
  have hD : va_D A ([(h0, .inr (9, [.int 0, .ref o_2, .int 0])), (o_2, .inl (cy_1, 1000, .inl (fun _ => 0)))]) := hD
  refine lv_aload_n hx hb dX5_init_18 rfl (lv_at hl 0 rfl) ?_
  refine lv_iload_n hx hb dX5_init_19 rfl (lv_at hl 1 rfl) ?_
  refine va_putF (D := G) (ci := 9) (v := .int p0) (ty := .int) (C := RX5) (T := TX5) (N := 3) hx hb hg in_X5 tyX5 tyX5_ok nmX5 hown hK hP hD hS 0 rfl rfl 0 (by decide) (hg _ q742) (fun _ h9 => h9) rfl hin rfl (by decide +kernel) rfl rfl (Nat.le_of_ble_eq_true rfl) dX5_init_20 (fun H_6 locs hP hD hS => ?_)
  have hP : va_P G vwCl ([(h0, .inr (9, [.int p0, .ref o_2, .int 0])), (o_2, .inl (cy_1, 1000, .inl (fun _ => 0)))]) H_6 := hP
  have hD : va_D A ([(h0, .inr (9, [.int p0, .ref o_2, .int 0])), (o_2, .inl (cy_1, 1000, .inl (fun _ => 0)))]) := hD
  refine W.widen (k := 1) (n := 1000) (Nat.le_of_ble_eq_true rfl) (Nat.le_of_ble_eq_true rfl) ?_
  have hP9 := hP.sub (ws' := [(h0, .inr (9, ([.int p0, .ref o_2, .int 0])))]) [0] rfl
  have hD9 := hD.sub (ws' := [(h0, .inr (9, ([.int p0, .ref o_2, .int 0])))]) [0] (by decide) rfl
  have hK9 := hK.sub (tys' := []) [] rfl
  exact W.vret hx hb hr (fun t ht hW => ⟨⟨(), rfl, trivial, ⟨[.int p0, .ref o_2, .int 0], QW.of hP9 hK9 hD9 ht hW.alike⟩⟩, hS.F ht⟩) hS.2.2 dX5_init_23

abbrev wz_X1_init : List Cond := .code yX1_init cX1_init 3 none :: lw_good
set_option maxHeartbeats 4000000 in
set_option maxRecDepth 100000 in
/-- Document(.., 1) -/
theorem k_X1_init_1 (l : Launch) (G : va_G) (z : Nat) (h0 : Nat) (p0 : Int32) (sz : Nat)  : Met l yX1_init wz_X1_init ({ frames := 1, cells := 3, slots := 300, locals := 20 }) (va_Pc [.ref h0, .int p0, .int 1] (PW G z [(h0, .inr (5, [.int 0, .int 0, .null, .null, .null, .int 0, .int 0]))] [] sz)) (va_Qv (fun (_ : Unit) => True) (fun (_ : Unit) (t : State) => ∃ (fsx : List Value), QW G [(h0, .inr (5, fsx))] [] (va_A [(h0, .inr (5, [.int 0, .int 0, .null, .null, .null, .int 0, .int 0]))] sz) t) (va_A [(h0, .inr (5, [.int 0, .int 0, .null, .null, .null, .int 0, .int 0]))] sz)) 3 300 (va_A [(h0, .inr (5, [.int 0, .int 0, .null, .null, .null, .int 0, .int 0]))] sz) := by
  refine Met.ofW (cc := cX1_init) (maxL := 3) (ret := none) (by decide) rfl ?_
  intro p e s m args below meth c s₁ B hml hv
  obtain ⟨rfl, rfl, hP, hK, hD0, hG⟩ := hv
  have hx := B.exec
  have hb := B.bytes
  have hr := B.returns
  have hts := atoms_spec (ws := wz_X1_init) B.pre
  have hg : ∀ w ∈ lw_good, w.before _ s = true := fun w h => hts w (List.mem_cons_of_mem _ h)
  have hown : s.vm.findClass RX1 = some m.cls := findClass_of_methodNamed B.named
  have hlocks := B.notSynchronized
  have hin : meth.name = "<init>" := (name_of_methodNamed B.named B.method).1
  have hD := hD0.self (sz := s.heap.size)
  generalize hAe : va_A [(h0, .inr (5, [.int 0, .int 0, .null, .null, .null, .int 0, .int 0]))] s.heap.size = A at hD hG ⊢
  have hA : ∀ q : Nat, s.heap.size ≤ q → A q := fun q h => by rw [← hAe]; exact Or.inr h
  have hS : va_S A s.heap s.heap [] := va_S.rf
  have hl := lv_entry ([.ref h0, .int p0, .int 1]) (n := 3) (Nat.le_of_ble_eq_true rfl)
  rw [lg_entry_eq]
  generalize (lg_sl ([.ref h0, .int p0, .int 1]) ++ List.replicate (3 - (lg_sl ([.ref h0, .int p0, .int 1])).length) Slot.unset).toArray = ls at hl ⊢
  have hl : lv_has ls 3 [(0, .ref h0), (1, .int p0), (2, .int 1)] := hl
  refine lv_aload_n hx hb dX1_init_0 rfl (lv_at hl 0 rfl) ?_
  refine W.objInit hx hb hown (hg _ q808) (hg _ q43) (hg _ q44) rfl (by rw [hml]; exact hl.1) rfl dX1_init_1 (Nat.le_of_ble_eq_true rfl) (Nat.le_of_ble_eq_true rfl) ?_
  refine W.eq (g2 := F0 m 4 ls []) rfl ?_
  refine lv_aload_n hx hb dX1_init_4 rfl (lv_at hl 0 rfl) ?_
  refine lv_bipush (v := 100) hx hb dX1_init_5 (by decide) ?_
  refine va_newa (atype := .int) (ty := .int) (a0 := (100, .inl (fun _ => 0))) (N' := 100) hx hb (hg _ q94) rfl hK hP hD hS hA (fun _ => rfl) (by decide) (by decide +kernel) (Nat.le_of_ble_eq_true rfl) (Nat.le_of_ble_eq_true rfl) (Nat.le_of_ble_eq_true rfl) dX1_init_7 (fun o_2 cy_1 H_3 hK hP hD hS => ?_)
  have hP : va_P G vwCl ([(h0, .inr (5, [.int 0, .int 0, .null, .null, .null, .int 0, .int 0])), (o_2, .inl (cy_1, 100, .inl (fun _ => 0)))]) H_3 := hP
  have hD : va_D A ([(h0, .inr (5, [.int 0, .int 0, .null, .null, .null, .int 0, .int 0])), (o_2, .inl (cy_1, 100, .inl (fun _ => 0)))]) := hD
  have hK : va_K G vwCl [(cy_1, .int)] s := hK
  refine W.widen (k := 1) (n := 100) (Nat.le_of_ble_eq_true rfl) (Nat.le_of_ble_eq_true rfl) ?_
  refine va_putF (D := G) (ci := 5) (v := .ref o_2) (ty := .array (.int)) (C := RX1) (T := TX1) (N := 7) hx hb hg in_X1 tyX1 tyX1_ok nmX1 hown hK hP hD hS 0 rfl rfl 2 (by decide) (hg _ q813) (fun _ h9 => h9) rfl hin rfl (by decide +kernel) rfl rfl (Nat.le_of_ble_eq_true rfl) dX1_init_9 (fun H_4 locs hP hD hS => ?_)
  have hP : va_P G vwCl ([(h0, .inr (5, [.int 0, .int 0, .ref o_2, .null, .null, .int 0, .int 0])), (o_2, .inl (cy_1, 100, .inl (fun _ => 0)))]) H_4 := hP
  have hD : va_D A ([(h0, .inr (5, [.int 0, .int 0, .ref o_2, .null, .null, .int 0, .int 0])), (o_2, .inl (cy_1, 100, .inl (fun _ => 0)))]) := hD
  refine lv_aload_n hx hb dX1_init_12 rfl (lv_at hl 0 rfl) ?_
  refine lv_bipush (v := 100) hx hb dX1_init_13 (by decide) ?_
  refine va_newa (atype := .int) (ty := .int) (a0 := (100, .inl (fun _ => 0))) (N' := 100) hx hb (hg _ q94) rfl hK hP hD hS hA (fun _ => rfl) (by decide) (by decide +kernel) (Nat.le_of_ble_eq_true rfl) (Nat.le_of_ble_eq_true rfl) (Nat.le_of_ble_eq_true rfl) dX1_init_15 (fun o_6 cy_5 H_7 hK hP hD hS => ?_)
  have hP : va_P G vwCl ([(h0, .inr (5, [.int 0, .int 0, .ref o_2, .null, .null, .int 0, .int 0])), (o_2, .inl (cy_1, 100, .inl (fun _ => 0))), (o_6, .inl (cy_5, 100, .inl (fun _ => 0)))]) H_7 := hP
  have hD : va_D A ([(h0, .inr (5, [.int 0, .int 0, .ref o_2, .null, .null, .int 0, .int 0])), (o_2, .inl (cy_1, 100, .inl (fun _ => 0))), (o_6, .inl (cy_5, 100, .inl (fun _ => 0)))]) := hD
  have hK : va_K G vwCl [(cy_1, .int), (cy_5, .int)] s := hK
  refine W.widen (k := 2) (n := 200) (Nat.le_of_ble_eq_true rfl) (Nat.le_of_ble_eq_true rfl) ?_
  refine va_putF (D := G) (ci := 5) (v := .ref o_6) (ty := .array (.int)) (C := RX1) (T := TX1) (N := 7) hx hb hg in_X1 tyX1 tyX1_ok nmX1 hown hK hP hD hS 0 rfl rfl 3 (by decide) (hg _ q815) (fun _ h9 => h9) rfl hin rfl (by decide +kernel) rfl rfl (Nat.le_of_ble_eq_true rfl) dX1_init_17 (fun H_8 locs hP hD hS => ?_)
  have hP : va_P G vwCl ([(h0, .inr (5, [.int 0, .int 0, .ref o_2, .ref o_6, .null, .int 0, .int 0])), (o_2, .inl (cy_1, 100, .inl (fun _ => 0))), (o_6, .inl (cy_5, 100, .inl (fun _ => 0)))]) H_8 := hP
  have hD : va_D A ([(h0, .inr (5, [.int 0, .int 0, .ref o_2, .ref o_6, .null, .int 0, .int 0])), (o_2, .inl (cy_1, 100, .inl (fun _ => 0))), (o_6, .inl (cy_5, 100, .inl (fun _ => 0)))]) := hD
  refine lv_aload_n hx hb dX1_init_20 rfl (lv_at hl 0 rfl) ?_
  refine lv_iconst (v := 0) hx hb dX1_init_21 (by decide) ?_
  refine va_put (D := G) (ci := 5) (v := .int 0) (ty := .int) (C := RX1) (T := TX1) (N := 7) hx hb hg in_X1 tyX1 tyX1_ok nmX1 hown hK hP hD hS 0 rfl rfl 5 (by decide) (hg _ q818) (fun _ h9 => h9) rfl (by decide +kernel) rfl rfl (Nat.le_of_ble_eq_true rfl) dX1_init_22 (fun H_9 locs hP hD hS => ?_)
  have hP : va_P G vwCl ([(h0, .inr (5, [.int 0, .int 0, .ref o_2, .ref o_6, .null, .int 0, .int 0])), (o_2, .inl (cy_1, 100, .inl (fun _ => 0))), (o_6, .inl (cy_5, 100, .inl (fun _ => 0)))]) H_9 := hP
  have hD : va_D A ([(h0, .inr (5, [.int 0, .int 0, .ref o_2, .ref o_6, .null, .int 0, .int 0])), (o_2, .inl (cy_1, 100, .inl (fun _ => 0))), (o_6, .inl (cy_5, 100, .inl (fun _ => 0)))]) := hD
  refine lv_aload_n hx hb dX1_init_25 rfl (lv_at hl 0 rfl) ?_
  refine lv_iconst (v := 0) hx hb dX1_init_26 (by decide) ?_
  refine va_put (D := G) (ci := 5) (v := .int 0) (ty := .boolean) (C := RX1) (T := TX1) (N := 7) hx hb hg in_X1 tyX1 tyX1_ok nmX1 hown hK hP hD hS 0 rfl rfl 6 (by decide) (hg _ q820) (fun _ h9 => h9) rfl (by decide +kernel) rfl rfl (Nat.le_of_ble_eq_true rfl) dX1_init_27 (fun H_10 locs hP hD hS => ?_)
  have hP : va_P G vwCl ([(h0, .inr (5, [.int 0, .int 0, .ref o_2, .ref o_6, .null, .int 0, .int 0])), (o_2, .inl (cy_1, 100, .inl (fun _ => 0))), (o_6, .inl (cy_5, 100, .inl (fun _ => 0)))]) H_10 := hP
  have hD : va_D A ([(h0, .inr (5, [.int 0, .int 0, .ref o_2, .ref o_6, .null, .int 0, .int 0])), (o_2, .inl (cy_1, 100, .inl (fun _ => 0))), (o_6, .inl (cy_5, 100, .inl (fun _ => 0)))]) := hD
  refine lv_aload_n hx hb dX1_init_30 rfl (lv_at hl 0 rfl) ?_
  refine lv_iload_n hx hb dX1_init_31 rfl (lv_at hl 1 rfl) ?_
  refine va_putF (D := G) (ci := 5) (v := .int p0) (ty := .int) (C := RX1) (T := TX1) (N := 7) hx hb hg in_X1 tyX1 tyX1_ok nmX1 hown hK hP hD hS 0 rfl rfl 0 (by decide) (hg _ q809) (fun _ h9 => h9) rfl hin rfl (by decide +kernel) rfl rfl (Nat.le_of_ble_eq_true rfl) dX1_init_32 (fun H_11 locs hP hD hS => ?_)
  have hP : va_P G vwCl ([(h0, .inr (5, [.int p0, .int 0, .ref o_2, .ref o_6, .null, .int 0, .int 0])), (o_2, .inl (cy_1, 100, .inl (fun _ => 0))), (o_6, .inl (cy_5, 100, .inl (fun _ => 0)))]) H_11 := hP
  have hD : va_D A ([(h0, .inr (5, [.int p0, .int 0, .ref o_2, .ref o_6, .null, .int 0, .int 0])), (o_2, .inl (cy_1, 100, .inl (fun _ => 0))), (o_6, .inl (cy_5, 100, .inl (fun _ => 0)))]) := hD
  refine lv_aload_n hx hb dX1_init_35 rfl (lv_at hl 0 rfl) ?_
  refine lv_iload_n hx hb dX1_init_36 rfl (lv_at hl 2 rfl) ?_
  refine va_putF (D := G) (ci := 5) (v := .int 1) (ty := .int) (C := RX1) (T := TX1) (N := 7) hx hb hg in_X1 tyX1 tyX1_ok nmX1 hown hK hP hD hS 0 rfl rfl 1 (by decide) (hg _ q811) (fun _ h9 => h9) rfl hin rfl (by decide +kernel) rfl rfl (Nat.le_of_ble_eq_true rfl) dX1_init_37 (fun H_12 locs hP hD hS => ?_)
  have hP : va_P G vwCl ([(h0, .inr (5, [.int p0, .int 1, .ref o_2, .ref o_6, .null, .int 0, .int 0])), (o_2, .inl (cy_1, 100, .inl (fun _ => 0))), (o_6, .inl (cy_5, 100, .inl (fun _ => 0)))]) H_12 := hP
  have hD : va_D A ([(h0, .inr (5, [.int p0, .int 1, .ref o_2, .ref o_6, .null, .int 0, .int 0])), (o_2, .inl (cy_1, 100, .inl (fun _ => 0))), (o_6, .inl (cy_5, 100, .inl (fun _ => 0)))]) := hD
  refine lv_aload_n hx hb dX1_init_40 rfl (lv_at hl 0 rfl) ?_
  refine lv_bipush (v := 100) hx hb dX1_init_41 (by decide) ?_
  refine lv_iload_n hx hb dX1_init_43 rfl (lv_at hl 2 rfl) ?_
  refine lv_imul hx hb dX1_init_44 ?_
  refine lv_topi (fun f_13 ef_13 => ?_)
  obtain rfl : f_13 = 100 := ef_13.trans (by decide)
  refine va_newa (atype := .int) (ty := .int) (a0 := (100, .inl (fun _ => 0))) (N' := 100) hx hb (hg _ q94) rfl hK hP hD hS hA (fun _ => rfl) (by decide) (by decide +kernel) (Nat.le_of_ble_eq_true rfl) (Nat.le_of_ble_eq_true rfl) (Nat.le_of_ble_eq_true rfl) dX1_init_45 (fun o_15 cy_14 H_16 hK hP hD hS => ?_)
  have hP : va_P G vwCl ([(h0, .inr (5, [.int p0, .int 1, .ref o_2, .ref o_6, .null, .int 0, .int 0])), (o_2, .inl (cy_1, 100, .inl (fun _ => 0))), (o_6, .inl (cy_5, 100, .inl (fun _ => 0))), (o_15, .inl (cy_14, 100, .inl (fun _ => 0)))]) H_16 := hP
  have hD : va_D A ([(h0, .inr (5, [.int p0, .int 1, .ref o_2, .ref o_6, .null, .int 0, .int 0])), (o_2, .inl (cy_1, 100, .inl (fun _ => 0))), (o_6, .inl (cy_5, 100, .inl (fun _ => 0))), (o_15, .inl (cy_14, 100, .inl (fun _ => 0)))]) := hD
  have hK : va_K G vwCl [(cy_1, .int), (cy_5, .int), (cy_14, .int)] s := hK
  refine W.widen (k := 3) (n := 300) (Nat.le_of_ble_eq_true rfl) (Nat.le_of_ble_eq_true rfl) ?_
  refine va_putF (D := G) (ci := 5) (v := .ref o_15) (ty := .array (.int)) (C := RX1) (T := TX1) (N := 7) hx hb hg in_X1 tyX1 tyX1_ok nmX1 hown hK hP hD hS 0 rfl rfl 4 (by decide) (hg _ q817) (fun _ h9 => h9) rfl hin rfl (by decide +kernel) rfl rfl (Nat.le_of_ble_eq_true rfl) dX1_init_47 (fun H_17 locs hP hD hS => ?_)
  have hP : va_P G vwCl ([(h0, .inr (5, [.int p0, .int 1, .ref o_2, .ref o_6, .ref o_15, .int 0, .int 0])), (o_2, .inl (cy_1, 100, .inl (fun _ => 0))), (o_6, .inl (cy_5, 100, .inl (fun _ => 0))), (o_15, .inl (cy_14, 100, .inl (fun _ => 0)))]) H_17 := hP
  have hD : va_D A ([(h0, .inr (5, [.int p0, .int 1, .ref o_2, .ref o_6, .ref o_15, .int 0, .int 0])), (o_2, .inl (cy_1, 100, .inl (fun _ => 0))), (o_6, .inl (cy_5, 100, .inl (fun _ => 0))), (o_15, .inl (cy_14, 100, .inl (fun _ => 0)))]) := hD
  refine W.widen (k := 3) (n := 300) (Nat.le_of_ble_eq_true rfl) (Nat.le_of_ble_eq_true rfl) ?_
  have hP9 := hP.sub (ws' := [(h0, .inr (5, ([.int p0, .int 1, .ref o_2, .ref o_6, .ref o_15, .int 0, .int 0])))]) [0] rfl
  have hD9 := hD.sub (ws' := [(h0, .inr (5, ([.int p0, .int 1, .ref o_2, .ref o_6, .ref o_15, .int 0, .int 0])))]) [0] (by decide) rfl
  have hK9 := hK.sub (tys' := []) [] rfl
  exact W.vret hx hb hr (fun t ht hW => ⟨⟨(), rfl, trivial, ⟨[.int p0, .int 1, .ref o_2, .ref o_6, .ref o_15, .int 0, .int 0], QW.of hP9 hK9 hD9 ht hW.alike⟩⟩, hS.F ht⟩) hS.2.2 dX1_init_50

set_option maxHeartbeats 4000000 in
set_option maxRecDepth 100000 in
/-- Document(.., 2) -/
theorem k_X1_init_2 (l : Launch) (G : va_G) (z : Nat) (h0 : Nat) (p0 : Int32) (sz : Nat)  : Met l yX1_init wz_X1_init ({ frames := 1, cells := 3, slots := 400, locals := 20 }) (va_Pc [.ref h0, .int p0, .int 2] (PW G z [(h0, .inr (5, [.int 0, .int 0, .null, .null, .null, .int 0, .int 0]))] [] sz)) (va_Qv (fun (_ : Unit) => True) (fun (_ : Unit) (t : State) => ∃ (fsx : List Value), QW G [(h0, .inr (5, fsx))] [] (va_A [(h0, .inr (5, [.int 0, .int 0, .null, .null, .null, .int 0, .int 0]))] sz) t) (va_A [(h0, .inr (5, [.int 0, .int 0, .null, .null, .null, .int 0, .int 0]))] sz)) 3 400 (va_A [(h0, .inr (5, [.int 0, .int 0, .null, .null, .null, .int 0, .int 0]))] sz) := by
  refine Met.ofW (cc := cX1_init) (maxL := 3) (ret := none) (by decide) rfl ?_
  intro p e s m args below meth c s₁ B hml hv
  obtain ⟨rfl, rfl, hP, hK, hD0, hG⟩ := hv
  have hx := B.exec
  have hb := B.bytes
  have hr := B.returns
  have hts := atoms_spec (ws := wz_X1_init) B.pre
  have hg : ∀ w ∈ lw_good, w.before _ s = true := fun w h => hts w (List.mem_cons_of_mem _ h)
  have hown : s.vm.findClass RX1 = some m.cls := findClass_of_methodNamed B.named
  have hlocks := B.notSynchronized
  have hin : meth.name = "<init>" := (name_of_methodNamed B.named B.method).1
  have hD := hD0.self (sz := s.heap.size)
  generalize hAe : va_A [(h0, .inr (5, [.int 0, .int 0, .null, .null, .null, .int 0, .int 0]))] s.heap.size = A at hD hG ⊢
  have hA : ∀ q : Nat, s.heap.size ≤ q → A q := fun q h => by rw [← hAe]; exact Or.inr h
  have hS : va_S A s.heap s.heap [] := va_S.rf
  have hl := lv_entry ([.ref h0, .int p0, .int 2]) (n := 3) (Nat.le_of_ble_eq_true rfl)
  rw [lg_entry_eq]
  generalize (lg_sl ([.ref h0, .int p0, .int 2]) ++ List.replicate (3 - (lg_sl ([.ref h0, .int p0, .int 2])).length) Slot.unset).toArray = ls at hl ⊢
  have hl : lv_has ls 3 [(0, .ref h0), (1, .int p0), (2, .int 2)] := hl
  refine lv_aload_n hx hb dX1_init_0 rfl (lv_at hl 0 rfl) ?_
  refine W.objInit hx hb hown (hg _ q808) (hg _ q43) (hg _ q44) rfl (by rw [hml]; exact hl.1) rfl dX1_init_1 (Nat.le_of_ble_eq_true rfl) (Nat.le_of_ble_eq_true rfl) ?_
  refine W.eq (g2 := F0 m 4 ls []) rfl ?_
  refine lv_aload_n hx hb dX1_init_4 rfl (lv_at hl 0 rfl) ?_
  refine lv_bipush (v := 100) hx hb dX1_init_5 (by decide) ?_
  refine va_newa (atype := .int) (ty := .int) (a0 := (100, .inl (fun _ => 0))) (N' := 100) hx hb (hg _ q94) rfl hK hP hD hS hA (fun _ => rfl) (by decide) (by decide +kernel) (Nat.le_of_ble_eq_true rfl) (Nat.le_of_ble_eq_true rfl) (Nat.le_of_ble_eq_true rfl) dX1_init_7 (fun o_2 cy_1 H_3 hK hP hD hS => ?_)
  have hP : va_P G vwCl ([(h0, .inr (5, [.int 0, .int 0, .null, .null, .null, .int 0, .int 0])), (o_2, .inl (cy_1, 100, .inl (fun _ => 0)))]) H_3 := hP
  have hD : va_D A ([(h0, .inr (5, [.int 0, .int 0, .null, .null, .null, .int 0, .int 0])), (o_2, .inl (cy_1, 100, .inl (fun _ => 0)))]) := hD
  have hK : va_K G vwCl [(cy_1, .int)] s := hK
  refine W.widen (k := 1) (n := 100) (Nat.le_of_ble_eq_true rfl) (Nat.le_of_ble_eq_true rfl) ?_
  refine va_putF (D := G) (ci := 5) (v := .ref o_2) (ty := .array (.int)) (C := RX1) (T := TX1) (N := 7) hx hb hg in_X1 tyX1 tyX1_ok nmX1 hown hK hP hD hS 0 rfl rfl 2 (by decide) (hg _ q813) (fun _ h9 => h9) rfl hin rfl (by decide +kernel) rfl rfl (Nat.le_of_ble_eq_true rfl) dX1_init_9 (fun H_4 locs hP hD hS => ?_)
  have hP : va_P G vwCl ([(h0, .inr (5, [.int 0, .int 0, .ref o_2, .null, .null, .int 0, .int 0])), (o_2, .inl (cy_1, 100, .inl (fun _ => 0)))]) H_4 := hP
  have hD : va_D A ([(h0, .inr (5, [.int 0, .int 0, .ref o_2, .null, .null, .int 0, .int 0])), (o_2, .inl (cy_1, 100, .inl (fun _ => 0)))]) := hD
  refine lv_aload_n hx hb dX1_init_12 rfl (lv_at hl 0 rfl) ?_
  refine lv_bipush (v := 100) hx hb dX1_init_13 (by decide) ?_
  refine va_newa (atype := .int) (ty := .int) (a0 := (100, .inl (fun _ => 0))) (N' := 100) hx hb (hg _ q94) rfl hK hP hD hS hA (fun _ => rfl) (by decide) (by decide +kernel) (Nat.le_of_ble_eq_true rfl) (Nat.le_of_ble_eq_true rfl) (Nat.le_of_ble_eq_true rfl) dX1_init_15 (fun o_6 cy_5 H_7 hK hP hD hS => ?_)
  have hP : va_P G vwCl ([(h0, .inr (5, [.int 0, .int 0, .ref o_2, .null, .null, .int 0, .int 0])), (o_2, .inl (cy_1, 100, .inl (fun _ => 0))), (o_6, .inl (cy_5, 100, .inl (fun _ => 0)))]) H_7 := hP
  have hD : va_D A ([(h0, .inr (5, [.int 0, .int 0, .ref o_2, .null, .null, .int 0, .int 0])), (o_2, .inl (cy_1, 100, .inl (fun _ => 0))), (o_6, .inl (cy_5, 100, .inl (fun _ => 0)))]) := hD
  have hK : va_K G vwCl [(cy_1, .int), (cy_5, .int)] s := hK
  refine W.widen (k := 2) (n := 200) (Nat.le_of_ble_eq_true rfl) (Nat.le_of_ble_eq_true rfl) ?_
  refine va_putF (D := G) (ci := 5) (v := .ref o_6) (ty := .array (.int)) (C := RX1) (T := TX1) (N := 7) hx hb hg in_X1 tyX1 tyX1_ok nmX1 hown hK hP hD hS 0 rfl rfl 3 (by decide) (hg _ q815) (fun _ h9 => h9) rfl hin rfl (by decide +kernel) rfl rfl (Nat.le_of_ble_eq_true rfl) dX1_init_17 (fun H_8 locs hP hD hS => ?_)
  have hP : va_P G vwCl ([(h0, .inr (5, [.int 0, .int 0, .ref o_2, .ref o_6, .null, .int 0, .int 0])), (o_2, .inl (cy_1, 100, .inl (fun _ => 0))), (o_6, .inl (cy_5, 100, .inl (fun _ => 0)))]) H_8 := hP
  have hD : va_D A ([(h0, .inr (5, [.int 0, .int 0, .ref o_2, .ref o_6, .null, .int 0, .int 0])), (o_2, .inl (cy_1, 100, .inl (fun _ => 0))), (o_6, .inl (cy_5, 100, .inl (fun _ => 0)))]) := hD
  refine lv_aload_n hx hb dX1_init_20 rfl (lv_at hl 0 rfl) ?_
  refine lv_iconst (v := 0) hx hb dX1_init_21 (by decide) ?_
  refine va_put (D := G) (ci := 5) (v := .int 0) (ty := .int) (C := RX1) (T := TX1) (N := 7) hx hb hg in_X1 tyX1 tyX1_ok nmX1 hown hK hP hD hS 0 rfl rfl 5 (by decide) (hg _ q818) (fun _ h9 => h9) rfl (by decide +kernel) rfl rfl (Nat.le_of_ble_eq_true rfl) dX1_init_22 (fun H_9 locs hP hD hS => ?_)
  have hP : va_P G vwCl ([(h0, .inr (5, [.int 0, .int 0, .ref o_2, .ref o_6, .null, .int 0, .int 0])), (o_2, .inl (cy_1, 100, .inl (fun _ => 0))), (o_6, .inl (cy_5, 100, .inl (fun _ => 0)))]) H_9 := hP
  have hD : va_D A ([(h0, .inr (5, [.int 0, .int 0, .ref o_2, .ref o_6, .null, .int 0, .int 0])), (o_2, .inl (cy_1, 100, .inl (fun _ => 0))), (o_6, .inl (cy_5, 100, .inl (fun _ => 0)))]) := hD
  refine lv_aload_n hx hb dX1_init_25 rfl (lv_at hl 0 rfl) ?_
  refine lv_iconst (v := 0) hx hb dX1_init_26 (by decide) ?_
  refine va_put (D := G) (ci := 5) (v := .int 0) (ty := .boolean) (C := RX1) (T := TX1) (N := 7) hx hb hg in_X1 tyX1 tyX1_ok nmX1 hown hK hP hD hS 0 rfl rfl 6 (by decide) (hg _ q820) (fun _ h9 => h9) rfl (by decide +kernel) rfl rfl (Nat.le_of_ble_eq_true rfl) dX1_init_27 (fun H_10 locs hP hD hS => ?_)
  have hP : va_P G vwCl ([(h0, .inr (5, [.int 0, .int 0, .ref o_2, .ref o_6, .null, .int 0, .int 0])), (o_2, .inl (cy_1, 100, .inl (fun _ => 0))), (o_6, .inl (cy_5, 100, .inl (fun _ => 0)))]) H_10 := hP
  have hD : va_D A ([(h0, .inr (5, [.int 0, .int 0, .ref o_2, .ref o_6, .null, .int 0, .int 0])), (o_2, .inl (cy_1, 100, .inl (fun _ => 0))), (o_6, .inl (cy_5, 100, .inl (fun _ => 0)))]) := hD
  refine lv_aload_n hx hb dX1_init_30 rfl (lv_at hl 0 rfl) ?_
  refine lv_iload_n hx hb dX1_init_31 rfl (lv_at hl 1 rfl) ?_
  refine va_putF (D := G) (ci := 5) (v := .int p0) (ty := .int) (C := RX1) (T := TX1) (N := 7) hx hb hg in_X1 tyX1 tyX1_ok nmX1 hown hK hP hD hS 0 rfl rfl 0 (by decide) (hg _ q809) (fun _ h9 => h9) rfl hin rfl (by decide +kernel) rfl rfl (Nat.le_of_ble_eq_true rfl) dX1_init_32 (fun H_11 locs hP hD hS => ?_)
  have hP : va_P G vwCl ([(h0, .inr (5, [.int p0, .int 0, .ref o_2, .ref o_6, .null, .int 0, .int 0])), (o_2, .inl (cy_1, 100, .inl (fun _ => 0))), (o_6, .inl (cy_5, 100, .inl (fun _ => 0)))]) H_11 := hP
  have hD : va_D A ([(h0, .inr (5, [.int p0, .int 0, .ref o_2, .ref o_6, .null, .int 0, .int 0])), (o_2, .inl (cy_1, 100, .inl (fun _ => 0))), (o_6, .inl (cy_5, 100, .inl (fun _ => 0)))]) := hD
  refine lv_aload_n hx hb dX1_init_35 rfl (lv_at hl 0 rfl) ?_
  refine lv_iload_n hx hb dX1_init_36 rfl (lv_at hl 2 rfl) ?_
  refine va_putF (D := G) (ci := 5) (v := .int 2) (ty := .int) (C := RX1) (T := TX1) (N := 7) hx hb hg in_X1 tyX1 tyX1_ok nmX1 hown hK hP hD hS 0 rfl rfl 1 (by decide) (hg _ q811) (fun _ h9 => h9) rfl hin rfl (by decide +kernel) rfl rfl (Nat.le_of_ble_eq_true rfl) dX1_init_37 (fun H_12 locs hP hD hS => ?_)
  have hP : va_P G vwCl ([(h0, .inr (5, [.int p0, .int 2, .ref o_2, .ref o_6, .null, .int 0, .int 0])), (o_2, .inl (cy_1, 100, .inl (fun _ => 0))), (o_6, .inl (cy_5, 100, .inl (fun _ => 0)))]) H_12 := hP
  have hD : va_D A ([(h0, .inr (5, [.int p0, .int 2, .ref o_2, .ref o_6, .null, .int 0, .int 0])), (o_2, .inl (cy_1, 100, .inl (fun _ => 0))), (o_6, .inl (cy_5, 100, .inl (fun _ => 0)))]) := hD
  refine lv_aload_n hx hb dX1_init_40 rfl (lv_at hl 0 rfl) ?_
  refine lv_bipush (v := 100) hx hb dX1_init_41 (by decide) ?_
  refine lv_iload_n hx hb dX1_init_43 rfl (lv_at hl 2 rfl) ?_
  refine lv_imul hx hb dX1_init_44 ?_
  refine lv_topi (fun f_13 ef_13 => ?_)
  obtain rfl : f_13 = 200 := ef_13.trans (by decide)
  refine va_newa (atype := .int) (ty := .int) (a0 := (200, .inl (fun _ => 0))) (N' := 200) hx hb (hg _ q94) rfl hK hP hD hS hA (fun _ => rfl) (by decide) (by decide +kernel) (Nat.le_of_ble_eq_true rfl) (Nat.le_of_ble_eq_true rfl) (Nat.le_of_ble_eq_true rfl) dX1_init_45 (fun o_15 cy_14 H_16 hK hP hD hS => ?_)
  have hP : va_P G vwCl ([(h0, .inr (5, [.int p0, .int 2, .ref o_2, .ref o_6, .null, .int 0, .int 0])), (o_2, .inl (cy_1, 100, .inl (fun _ => 0))), (o_6, .inl (cy_5, 100, .inl (fun _ => 0))), (o_15, .inl (cy_14, 200, .inl (fun _ => 0)))]) H_16 := hP
  have hD : va_D A ([(h0, .inr (5, [.int p0, .int 2, .ref o_2, .ref o_6, .null, .int 0, .int 0])), (o_2, .inl (cy_1, 100, .inl (fun _ => 0))), (o_6, .inl (cy_5, 100, .inl (fun _ => 0))), (o_15, .inl (cy_14, 200, .inl (fun _ => 0)))]) := hD
  have hK : va_K G vwCl [(cy_1, .int), (cy_5, .int), (cy_14, .int)] s := hK
  refine W.widen (k := 3) (n := 400) (Nat.le_of_ble_eq_true rfl) (Nat.le_of_ble_eq_true rfl) ?_
  refine va_putF (D := G) (ci := 5) (v := .ref o_15) (ty := .array (.int)) (C := RX1) (T := TX1) (N := 7) hx hb hg in_X1 tyX1 tyX1_ok nmX1 hown hK hP hD hS 0 rfl rfl 4 (by decide) (hg _ q817) (fun _ h9 => h9) rfl hin rfl (by decide +kernel) rfl rfl (Nat.le_of_ble_eq_true rfl) dX1_init_47 (fun H_17 locs hP hD hS => ?_)
  have hP : va_P G vwCl ([(h0, .inr (5, [.int p0, .int 2, .ref o_2, .ref o_6, .ref o_15, .int 0, .int 0])), (o_2, .inl (cy_1, 100, .inl (fun _ => 0))), (o_6, .inl (cy_5, 100, .inl (fun _ => 0))), (o_15, .inl (cy_14, 200, .inl (fun _ => 0)))]) H_17 := hP
  have hD : va_D A ([(h0, .inr (5, [.int p0, .int 2, .ref o_2, .ref o_6, .ref o_15, .int 0, .int 0])), (o_2, .inl (cy_1, 100, .inl (fun _ => 0))), (o_6, .inl (cy_5, 100, .inl (fun _ => 0))), (o_15, .inl (cy_14, 200, .inl (fun _ => 0)))]) := hD
  refine W.widen (k := 3) (n := 400) (Nat.le_of_ble_eq_true rfl) (Nat.le_of_ble_eq_true rfl) ?_
  have hP9 := hP.sub (ws' := [(h0, .inr (5, ([.int p0, .int 2, .ref o_2, .ref o_6, .ref o_15, .int 0, .int 0])))]) [0] rfl
  have hD9 := hD.sub (ws' := [(h0, .inr (5, ([.int p0, .int 2, .ref o_2, .ref o_6, .ref o_15, .int 0, .int 0])))]) [0] (by decide) rfl
  have hK9 := hK.sub (tys' := []) [] rfl
  exact W.vret hx hb hr (fun t ht hW => ⟨⟨(), rfl, trivial, ⟨[.int p0, .int 2, .ref o_2, .ref o_6, .ref o_15, .int 0, .int 0], QW.of hP9 hK9 hD9 ht hW.alike⟩⟩, hS.F ht⟩) hS.2.2 dX1_init_50

set_option maxHeartbeats 4000000 in
set_option maxRecDepth 100000 in
/-- Document(.., 4) -/
theorem k_X1_init_4 (l : Launch) (G : va_G) (z : Nat) (h0 : Nat) (p0 : Int32) (sz : Nat)  : Met l yX1_init wz_X1_init ({ frames := 1, cells := 3, slots := 600, locals := 20 }) (va_Pc [.ref h0, .int p0, .int 4] (PW G z [(h0, .inr (5, [.int 0, .int 0, .null, .null, .null, .int 0, .int 0]))] [] sz)) (va_Qv (fun (_ : Unit) => True) (fun (_ : Unit) (t : State) => ∃ (fsx : List Value), QW G [(h0, .inr (5, fsx))] [] (va_A [(h0, .inr (5, [.int 0, .int 0, .null, .null, .null, .int 0, .int 0]))] sz) t) (va_A [(h0, .inr (5, [.int 0, .int 0, .null, .null, .null, .int 0, .int 0]))] sz)) 3 600 (va_A [(h0, .inr (5, [.int 0, .int 0, .null, .null, .null, .int 0, .int 0]))] sz) := by
  refine Met.ofW (cc := cX1_init) (maxL := 3) (ret := none) (by decide) rfl ?_
  intro p e s m args below meth c s₁ B hml hv
  obtain ⟨rfl, rfl, hP, hK, hD0, hG⟩ := hv
  have hx := B.exec
  have hb := B.bytes
  have hr := B.returns
  have hts := atoms_spec (ws := wz_X1_init) B.pre
  have hg : ∀ w ∈ lw_good, w.before _ s = true := fun w h => hts w (List.mem_cons_of_mem _ h)
  have hown : s.vm.findClass RX1 = some m.cls := findClass_of_methodNamed B.named
  have hlocks := B.notSynchronized
  have hin : meth.name = "<init>" := (name_of_methodNamed B.named B.method).1
  have hD := hD0.self (sz := s.heap.size)
  generalize hAe : va_A [(h0, .inr (5, [.int 0, .int 0, .null, .null, .null, .int 0, .int 0]))] s.heap.size = A at hD hG ⊢
  have hA : ∀ q : Nat, s.heap.size ≤ q → A q := fun q h => by rw [← hAe]; exact Or.inr h
  have hS : va_S A s.heap s.heap [] := va_S.rf
  have hl := lv_entry ([.ref h0, .int p0, .int 4]) (n := 3) (Nat.le_of_ble_eq_true rfl)
  rw [lg_entry_eq]
  generalize (lg_sl ([.ref h0, .int p0, .int 4]) ++ List.replicate (3 - (lg_sl ([.ref h0, .int p0, .int 4])).length) Slot.unset).toArray = ls at hl ⊢
  have hl : lv_has ls 3 [(0, .ref h0), (1, .int p0), (2, .int 4)] := hl
  refine lv_aload_n hx hb dX1_init_0 rfl (lv_at hl 0 rfl) ?_
  refine W.objInit hx hb hown (hg _ q808) (hg _ q43) (hg _ q44) rfl (by rw [hml]; exact hl.1) rfl dX1_init_1 (Nat.le_of_ble_eq_true rfl) (Nat.le_of_ble_eq_true rfl) ?_
  refine W.eq (g2 := F0 m 4 ls []) rfl ?_
  refine lv_aload_n hx hb dX1_init_4 rfl (lv_at hl 0 rfl) ?_
  refine lv_bipush (v := 100) hx hb dX1_init_5 (by decide) ?_
  refine va_newa (atype := .int) (ty := .int) (a0 := (100, .inl (fun _ => 0))) (N' := 100) hx hb (hg _ q94) rfl hK hP hD hS hA (fun _ => rfl) (by decide) (by decide +kernel) (Nat.le_of_ble_eq_true rfl) (Nat.le_of_ble_eq_true rfl) (Nat.le_of_ble_eq_true rfl) dX1_init_7 (fun o_2 cy_1 H_3 hK hP hD hS => ?_)
  have hP : va_P G vwCl ([(h0, .inr (5, [.int 0, .int 0, .null, .null, .null, .int 0, .int 0])), (o_2, .inl (cy_1, 100, .inl (fun _ => 0)))]) H_3 := hP
  have hD : va_D A ([(h0, .inr (5, [.int 0, .int 0, .null, .null, .null, .int 0, .int 0])), (o_2, .inl (cy_1, 100, .inl (fun _ => 0)))]) := hD
  have hK : va_K G vwCl [(cy_1, .int)] s := hK
  refine W.widen (k := 1) (n := 100) (Nat.le_of_ble_eq_true rfl) (Nat.le_of_ble_eq_true rfl) ?_
  refine va_putF (D := G) (ci := 5) (v := .ref o_2) (ty := .array (.int)) (C := RX1) (T := TX1) (N := 7) hx hb hg in_X1 tyX1 tyX1_ok nmX1 hown hK hP hD hS 0 rfl rfl 2 (by decide) (hg _ q813) (fun _ h9 => h9) rfl hin rfl (by decide +kernel) rfl rfl (Nat.le_of_ble_eq_true rfl) dX1_init_9 (fun H_4 locs hP hD hS => ?_)
  have hP : va_P G vwCl ([(h0, .inr (5, [.int 0, .int 0, .ref o_2, .null, .null, .int 0, .int 0])), (o_2, .inl (cy_1, 100, .inl (fun _ => 0)))]) H_4 := hP
  have hD : va_D A ([(h0, .inr (5, [.int 0, .int 0, .ref o_2, .null, .null, .int 0, .int 0])), (o_2, .inl (cy_1, 100, .inl (fun _ => 0)))]) := hD
  refine lv_aload_n hx hb dX1_init_12 rfl (lv_at hl 0 rfl) ?_
  refine lv_bipush (v := 100) hx hb dX1_init_13 (by decide) ?_
  refine va_newa (atype := .int) (ty := .int) (a0 := (100, .inl (fun _ => 0))) (N' := 100) hx hb (hg _ q94) rfl hK hP hD hS hA (fun _ => rfl) (by decide) (by decide +kernel) (Nat.le_of_ble_eq_true rfl) (Nat.le_of_ble_eq_true rfl) (Nat.le_of_ble_eq_true rfl) dX1_init_15 (fun o_6 cy_5 H_7 hK hP hD hS => ?_)
  have hP : va_P G vwCl ([(h0, .inr (5, [.int 0, .int 0, .ref o_2, .null, .null, .int 0, .int 0])), (o_2, .inl (cy_1, 100, .inl (fun _ => 0))), (o_6, .inl (cy_5, 100, .inl (fun _ => 0)))]) H_7 := hP
  have hD : va_D A ([(h0, .inr (5, [.int 0, .int 0, .ref o_2, .null, .null, .int 0, .int 0])), (o_2, .inl (cy_1, 100, .inl (fun _ => 0))), (o_6, .inl (cy_5, 100, .inl (fun _ => 0)))]) := hD
  have hK : va_K G vwCl [(cy_1, .int), (cy_5, .int)] s := hK
  refine W.widen (k := 2) (n := 200) (Nat.le_of_ble_eq_true rfl) (Nat.le_of_ble_eq_true rfl) ?_
  refine va_putF (D := G) (ci := 5) (v := .ref o_6) (ty := .array (.int)) (C := RX1) (T := TX1) (N := 7) hx hb hg in_X1 tyX1 tyX1_ok nmX1 hown hK hP hD hS 0 rfl rfl 3 (by decide) (hg _ q815) (fun _ h9 => h9) rfl hin rfl (by decide +kernel) rfl rfl (Nat.le_of_ble_eq_true rfl) dX1_init_17 (fun H_8 locs hP hD hS => ?_)
  have hP : va_P G vwCl ([(h0, .inr (5, [.int 0, .int 0, .ref o_2, .ref o_6, .null, .int 0, .int 0])), (o_2, .inl (cy_1, 100, .inl (fun _ => 0))), (o_6, .inl (cy_5, 100, .inl (fun _ => 0)))]) H_8 := hP
  have hD : va_D A ([(h0, .inr (5, [.int 0, .int 0, .ref o_2, .ref o_6, .null, .int 0, .int 0])), (o_2, .inl (cy_1, 100, .inl (fun _ => 0))), (o_6, .inl (cy_5, 100, .inl (fun _ => 0)))]) := hD
  refine lv_aload_n hx hb dX1_init_20 rfl (lv_at hl 0 rfl) ?_
  refine lv_iconst (v := 0) hx hb dX1_init_21 (by decide) ?_
  refine va_put (D := G) (ci := 5) (v := .int 0) (ty := .int) (C := RX1) (T := TX1) (N := 7) hx hb hg in_X1 tyX1 tyX1_ok nmX1 hown hK hP hD hS 0 rfl rfl 5 (by decide) (hg _ q818) (fun _ h9 => h9) rfl (by decide +kernel) rfl rfl (Nat.le_of_ble_eq_true rfl) dX1_init_22 (fun H_9 locs hP hD hS => ?_)
  have hP : va_P G vwCl ([(h0, .inr (5, [.int 0, .int 0, .ref o_2, .ref o_6, .null, .int 0, .int 0])), (o_2, .inl (cy_1, 100, .inl (fun _ => 0))), (o_6, .inl (cy_5, 100, .inl (fun _ => 0)))]) H_9 := hP
  have hD : va_D A ([(h0, .inr (5, [.int 0, .int 0, .ref o_2, .ref o_6, .null, .int 0, .int 0])), (o_2, .inl (cy_1, 100, .inl (fun _ => 0))), (o_6, .inl (cy_5, 100, .inl (fun _ => 0)))]) := hD
  refine lv_aload_n hx hb dX1_init_25 rfl (lv_at hl 0 rfl) ?_
  refine lv_iconst (v := 0) hx hb dX1_init_26 (by decide) ?_
  refine va_put (D := G) (ci := 5) (v := .int 0) (ty := .boolean) (C := RX1) (T := TX1) (N := 7) hx hb hg in_X1 tyX1 tyX1_ok nmX1 hown hK hP hD hS 0 rfl rfl 6 (by decide) (hg _ q820) (fun _ h9 => h9) rfl (by decide +kernel) rfl rfl (Nat.le_of_ble_eq_true rfl) dX1_init_27 (fun H_10 locs hP hD hS => ?_)
  have hP : va_P G vwCl ([(h0, .inr (5, [.int 0, .int 0, .ref o_2, .ref o_6, .null, .int 0, .int 0])), (o_2, .inl (cy_1, 100, .inl (fun _ => 0))), (o_6, .inl (cy_5, 100, .inl (fun _ => 0)))]) H_10 := hP
  have hD : va_D A ([(h0, .inr (5, [.int 0, .int 0, .ref o_2, .ref o_6, .null, .int 0, .int 0])), (o_2, .inl (cy_1, 100, .inl (fun _ => 0))), (o_6, .inl (cy_5, 100, .inl (fun _ => 0)))]) := hD
  refine lv_aload_n hx hb dX1_init_30 rfl (lv_at hl 0 rfl) ?_
  refine lv_iload_n hx hb dX1_init_31 rfl (lv_at hl 1 rfl) ?_
  refine va_putF (D := G) (ci := 5) (v := .int p0) (ty := .int) (C := RX1) (T := TX1) (N := 7) hx hb hg in_X1 tyX1 tyX1_ok nmX1 hown hK hP hD hS 0 rfl rfl 0 (by decide) (hg _ q809) (fun _ h9 => h9) rfl hin rfl (by decide +kernel) rfl rfl (Nat.le_of_ble_eq_true rfl) dX1_init_32 (fun H_11 locs hP hD hS => ?_)
  have hP : va_P G vwCl ([(h0, .inr (5, [.int p0, .int 0, .ref o_2, .ref o_6, .null, .int 0, .int 0])), (o_2, .inl (cy_1, 100, .inl (fun _ => 0))), (o_6, .inl (cy_5, 100, .inl (fun _ => 0)))]) H_11 := hP
  have hD : va_D A ([(h0, .inr (5, [.int p0, .int 0, .ref o_2, .ref o_6, .null, .int 0, .int 0])), (o_2, .inl (cy_1, 100, .inl (fun _ => 0))), (o_6, .inl (cy_5, 100, .inl (fun _ => 0)))]) := hD
  refine lv_aload_n hx hb dX1_init_35 rfl (lv_at hl 0 rfl) ?_
  refine lv_iload_n hx hb dX1_init_36 rfl (lv_at hl 2 rfl) ?_
  refine va_putF (D := G) (ci := 5) (v := .int 4) (ty := .int) (C := RX1) (T := TX1) (N := 7) hx hb hg in_X1 tyX1 tyX1_ok nmX1 hown hK hP hD hS 0 rfl rfl 1 (by decide) (hg _ q811) (fun _ h9 => h9) rfl hin rfl (by decide +kernel) rfl rfl (Nat.le_of_ble_eq_true rfl) dX1_init_37 (fun H_12 locs hP hD hS => ?_)
  have hP : va_P G vwCl ([(h0, .inr (5, [.int p0, .int 4, .ref o_2, .ref o_6, .null, .int 0, .int 0])), (o_2, .inl (cy_1, 100, .inl (fun _ => 0))), (o_6, .inl (cy_5, 100, .inl (fun _ => 0)))]) H_12 := hP
  have hD : va_D A ([(h0, .inr (5, [.int p0, .int 4, .ref o_2, .ref o_6, .null, .int 0, .int 0])), (o_2, .inl (cy_1, 100, .inl (fun _ => 0))), (o_6, .inl (cy_5, 100, .inl (fun _ => 0)))]) := hD
  refine lv_aload_n hx hb dX1_init_40 rfl (lv_at hl 0 rfl) ?_
  refine lv_bipush (v := 100) hx hb dX1_init_41 (by decide) ?_
  refine lv_iload_n hx hb dX1_init_43 rfl (lv_at hl 2 rfl) ?_
  refine lv_imul hx hb dX1_init_44 ?_
  refine lv_topi (fun f_13 ef_13 => ?_)
  obtain rfl : f_13 = 400 := ef_13.trans (by decide)
  refine va_newa (atype := .int) (ty := .int) (a0 := (400, .inl (fun _ => 0))) (N' := 400) hx hb (hg _ q94) rfl hK hP hD hS hA (fun _ => rfl) (by decide) (by decide +kernel) (Nat.le_of_ble_eq_true rfl) (Nat.le_of_ble_eq_true rfl) (Nat.le_of_ble_eq_true rfl) dX1_init_45 (fun o_15 cy_14 H_16 hK hP hD hS => ?_)
  have hP : va_P G vwCl ([(h0, .inr (5, [.int p0, .int 4, .ref o_2, .ref o_6, .null, .int 0, .int 0])), (o_2, .inl (cy_1, 100, .inl (fun _ => 0))), (o_6, .inl (cy_5, 100, .inl (fun _ => 0))), (o_15, .inl (cy_14, 400, .inl (fun _ => 0)))]) H_16 := hP
  have hD : va_D A ([(h0, .inr (5, [.int p0, .int 4, .ref o_2, .ref o_6, .null, .int 0, .int 0])), (o_2, .inl (cy_1, 100, .inl (fun _ => 0))), (o_6, .inl (cy_5, 100, .inl (fun _ => 0))), (o_15, .inl (cy_14, 400, .inl (fun _ => 0)))]) := hD
  have hK : va_K G vwCl [(cy_1, .int), (cy_5, .int), (cy_14, .int)] s := hK
  refine W.widen (k := 3) (n := 600) (Nat.le_of_ble_eq_true rfl) (Nat.le_of_ble_eq_true rfl) ?_
  refine va_putF (D := G) (ci := 5) (v := .ref o_15) (ty := .array (.int)) (C := RX1) (T := TX1) (N := 7) hx hb hg in_X1 tyX1 tyX1_ok nmX1 hown hK hP hD hS 0 rfl rfl 4 (by decide) (hg _ q817) (fun _ h9 => h9) rfl hin rfl (by decide +kernel) rfl rfl (Nat.le_of_ble_eq_true rfl) dX1_init_47 (fun H_17 locs hP hD hS => ?_)
  have hP : va_P G vwCl ([(h0, .inr (5, [.int p0, .int 4, .ref o_2, .ref o_6, .ref o_15, .int 0, .int 0])), (o_2, .inl (cy_1, 100, .inl (fun _ => 0))), (o_6, .inl (cy_5, 100, .inl (fun _ => 0))), (o_15, .inl (cy_14, 400, .inl (fun _ => 0)))]) H_17 := hP
  have hD : va_D A ([(h0, .inr (5, [.int p0, .int 4, .ref o_2, .ref o_6, .ref o_15, .int 0, .int 0])), (o_2, .inl (cy_1, 100, .inl (fun _ => 0))), (o_6, .inl (cy_5, 100, .inl (fun _ => 0))), (o_15, .inl (cy_14, 400, .inl (fun _ => 0)))]) := hD
  refine W.widen (k := 3) (n := 600) (Nat.le_of_ble_eq_true rfl) (Nat.le_of_ble_eq_true rfl) ?_
  have hP9 := hP.sub (ws' := [(h0, .inr (5, ([.int p0, .int 4, .ref o_2, .ref o_6, .ref o_15, .int 0, .int 0])))]) [0] rfl
  have hD9 := hD.sub (ws' := [(h0, .inr (5, ([.int p0, .int 4, .ref o_2, .ref o_6, .ref o_15, .int 0, .int 0])))]) [0] (by decide) rfl
  have hK9 := hK.sub (tys' := []) [] rfl
  exact W.vret hx hb hr (fun t ht hW => ⟨⟨(), rfl, trivial, ⟨[.int p0, .int 4, .ref o_2, .ref o_6, .ref o_15, .int 0, .int 0], QW.of hP9 hK9 hD9 ht hW.alike⟩⟩, hS.F ht⟩) hS.2.2 dX1_init_50

set_option maxHeartbeats 4000000 in
set_option maxRecDepth 100000 in
/-- Document(.., 8) -/
theorem k_X1_init_8 (l : Launch) (G : va_G) (z : Nat) (h0 : Nat) (p0 : Int32) (sz : Nat)  : Met l yX1_init wz_X1_init ({ frames := 1, cells := 3, slots := 1000, locals := 20 }) (va_Pc [.ref h0, .int p0, .int 8] (PW G z [(h0, .inr (5, [.int 0, .int 0, .null, .null, .null, .int 0, .int 0]))] [] sz)) (va_Qv (fun (_ : Unit) => True) (fun (_ : Unit) (t : State) => ∃ (fsx : List Value), QW G [(h0, .inr (5, fsx))] [] (va_A [(h0, .inr (5, [.int 0, .int 0, .null, .null, .null, .int 0, .int 0]))] sz) t) (va_A [(h0, .inr (5, [.int 0, .int 0, .null, .null, .null, .int 0, .int 0]))] sz)) 3 1000 (va_A [(h0, .inr (5, [.int 0, .int 0, .null, .null, .null, .int 0, .int 0]))] sz) := by
  refine Met.ofW (cc := cX1_init) (maxL := 3) (ret := none) (by decide) rfl ?_
  intro p e s m args below meth c s₁ B hml hv
  obtain ⟨rfl, rfl, hP, hK, hD0, hG⟩ := hv
  have hx := B.exec
  have hb := B.bytes
  have hr := B.returns
  have hts := atoms_spec (ws := wz_X1_init) B.pre
  have hg : ∀ w ∈ lw_good, w.before _ s = true := fun w h => hts w (List.mem_cons_of_mem _ h)
  have hown : s.vm.findClass RX1 = some m.cls := findClass_of_methodNamed B.named
  have hlocks := B.notSynchronized
  have hin : meth.name = "<init>" := (name_of_methodNamed B.named B.method).1
  have hD := hD0.self (sz := s.heap.size)
  generalize hAe : va_A [(h0, .inr (5, [.int 0, .int 0, .null, .null, .null, .int 0, .int 0]))] s.heap.size = A at hD hG ⊢
  have hA : ∀ q : Nat, s.heap.size ≤ q → A q := fun q h => by rw [← hAe]; exact Or.inr h
  have hS : va_S A s.heap s.heap [] := va_S.rf
  have hl := lv_entry ([.ref h0, .int p0, .int 8]) (n := 3) (Nat.le_of_ble_eq_true rfl)
  rw [lg_entry_eq]
  generalize (lg_sl ([.ref h0, .int p0, .int 8]) ++ List.replicate (3 - (lg_sl ([.ref h0, .int p0, .int 8])).length) Slot.unset).toArray = ls at hl ⊢
  have hl : lv_has ls 3 [(0, .ref h0), (1, .int p0), (2, .int 8)] := hl
  refine lv_aload_n hx hb dX1_init_0 rfl (lv_at hl 0 rfl) ?_
  refine W.objInit hx hb hown (hg _ q808) (hg _ q43) (hg _ q44) rfl (by rw [hml]; exact hl.1) rfl dX1_init_1 (Nat.le_of_ble_eq_true rfl) (Nat.le_of_ble_eq_true rfl) ?_
  refine W.eq (g2 := F0 m 4 ls []) rfl ?_
  refine lv_aload_n hx hb dX1_init_4 rfl (lv_at hl 0 rfl) ?_
  refine lv_bipush (v := 100) hx hb dX1_init_5 (by decide) ?_
  refine va_newa (atype := .int) (ty := .int) (a0 := (100, .inl (fun _ => 0))) (N' := 100) hx hb (hg _ q94) rfl hK hP hD hS hA (fun _ => rfl) (by decide) (by decide +kernel) (Nat.le_of_ble_eq_true rfl) (Nat.le_of_ble_eq_true rfl) (Nat.le_of_ble_eq_true rfl) dX1_init_7 (fun o_2 cy_1 H_3 hK hP hD hS => ?_)
  have hP : va_P G vwCl ([(h0, .inr (5, [.int 0, .int 0, .null, .null, .null, .int 0, .int 0])), (o_2, .inl (cy_1, 100, .inl (fun _ => 0)))]) H_3 := hP
  have hD : va_D A ([(h0, .inr (5, [.int 0, .int 0, .null, .null, .null, .int 0, .int 0])), (o_2, .inl (cy_1, 100, .inl (fun _ => 0)))]) := hD
  have hK : va_K G vwCl [(cy_1, .int)] s := hK
  refine W.widen (k := 1) (n := 100) (Nat.le_of_ble_eq_true rfl) (Nat.le_of_ble_eq_true rfl) ?_
  refine va_putF (D := G) (ci := 5) (v := .ref o_2) (ty := .array (.int)) (C := RX1) (T := TX1) (N := 7) hx hb hg in_X1 tyX1 tyX1_ok nmX1 hown hK hP hD hS 0 rfl rfl 2 (by decide) (hg _ q813) (fun _ h9 => h9) rfl hin rfl (by decide +kernel) rfl rfl (Nat.le_of_ble_eq_true rfl) dX1_init_9 (fun H_4 locs hP hD hS => ?_)
  have hP : va_P G vwCl ([(h0, .inr (5, [.int 0, .int 0, .ref o_2, .null, .null, .int 0, .int 0])), (o_2, .inl (cy_1, 100, .inl (fun _ => 0)))]) H_4 := hP
  have hD : va_D A ([(h0, .inr (5, [.int 0, .int 0, .ref o_2, .null, .null, .int 0, .int 0])), (o_2, .inl (cy_1, 100, .inl (fun _ => 0)))]) := hD
  refine lv_aload_n hx hb dX1_init_12 rfl (lv_at hl 0 rfl) ?_
  refine lv_bipush (v := 100) hx hb dX1_init_13 (by decide) ?_
  refine va_newa (atype := .int) (ty := .int) (a0 := (100, .inl (fun _ => 0))) (N' := 100) hx hb (hg _ q94) rfl hK hP hD hS hA (fun _ => rfl) (by decide) (by decide +kernel) (Nat.le_of_ble_eq_true rfl) (Nat.le_of_ble_eq_true rfl) (Nat.le_of_ble_eq_true rfl) dX1_init_15 (fun o_6 cy_5 H_7 hK hP hD hS => ?_)
  have hP : va_P G vwCl ([(h0, .inr (5, [.int 0, .int 0, .ref o_2, .null, .null, .int 0, .int 0])), (o_2, .inl (cy_1, 100, .inl (fun _ => 0))), (o_6, .inl (cy_5, 100, .inl (fun _ => 0)))]) H_7 := hP
  have hD : va_D A ([(h0, .inr (5, [.int 0, .int 0, .ref o_2, .null, .null, .int 0, .int 0])), (o_2, .inl (cy_1, 100, .inl (fun _ => 0))), (o_6, .inl (cy_5, 100, .inl (fun _ => 0)))]) := hD
  have hK : va_K G vwCl [(cy_1, .int), (cy_5, .int)] s := hK
  refine W.widen (k := 2) (n := 200) (Nat.le_of_ble_eq_true rfl) (Nat.le_of_ble_eq_true rfl) ?_
  refine va_putF (D := G) (ci := 5) (v := .ref o_6) (ty := .array (.int)) (C := RX1) (T := TX1) (N := 7) hx hb hg in_X1 tyX1 tyX1_ok nmX1 hown hK hP hD hS 0 rfl rfl 3 (by decide) (hg _ q815) (fun _ h9 => h9) rfl hin rfl (by decide +kernel) rfl rfl (Nat.le_of_ble_eq_true rfl) dX1_init_17 (fun H_8 locs hP hD hS => ?_)
  have hP : va_P G vwCl ([(h0, .inr (5, [.int 0, .int 0, .ref o_2, .ref o_6, .null, .int 0, .int 0])), (o_2, .inl (cy_1, 100, .inl (fun _ => 0))), (o_6, .inl (cy_5, 100, .inl (fun _ => 0)))]) H_8 := hP
  have hD : va_D A ([(h0, .inr (5, [.int 0, .int 0, .ref o_2, .ref o_6, .null, .int 0, .int 0])), (o_2, .inl (cy_1, 100, .inl (fun _ => 0))), (o_6, .inl (cy_5, 100, .inl (fun _ => 0)))]) := hD
  refine lv_aload_n hx hb dX1_init_20 rfl (lv_at hl 0 rfl) ?_
  refine lv_iconst (v := 0) hx hb dX1_init_21 (by decide) ?_
  refine va_put (D := G) (ci := 5) (v := .int 0) (ty := .int) (C := RX1) (T := TX1) (N := 7) hx hb hg in_X1 tyX1 tyX1_ok nmX1 hown hK hP hD hS 0 rfl rfl 5 (by decide) (hg _ q818) (fun _ h9 => h9) rfl (by decide +kernel) rfl rfl (Nat.le_of_ble_eq_true rfl) dX1_init_22 (fun H_9 locs hP hD hS => ?_)
  have hP : va_P G vwCl ([(h0, .inr (5, [.int 0, .int 0, .ref o_2, .ref o_6, .null, .int 0, .int 0])), (o_2, .inl (cy_1, 100, .inl (fun _ => 0))), (o_6, .inl (cy_5, 100, .inl (fun _ => 0)))]) H_9 := hP
  have hD : va_D A ([(h0, .inr (5, [.int 0, .int 0, .ref o_2, .ref o_6, .null, .int 0, .int 0])), (o_2, .inl (cy_1, 100, .inl (fun _ => 0))), (o_6, .inl (cy_5, 100, .inl (fun _ => 0)))]) := hD
  refine lv_aload_n hx hb dX1_init_25 rfl (lv_at hl 0 rfl) ?_
  refine lv_iconst (v := 0) hx hb dX1_init_26 (by decide) ?_
  refine va_put (D := G) (ci := 5) (v := .int 0) (ty := .boolean) (C := RX1) (T := TX1) (N := 7) hx hb hg in_X1 tyX1 tyX1_ok nmX1 hown hK hP hD hS 0 rfl rfl 6 (by decide) (hg _ q820) (fun _ h9 => h9) rfl (by decide +kernel) rfl rfl (Nat.le_of_ble_eq_true rfl) dX1_init_27 (fun H_10 locs hP hD hS => ?_)
  have hP : va_P G vwCl ([(h0, .inr (5, [.int 0, .int 0, .ref o_2, .ref o_6, .null, .int 0, .int 0])), (o_2, .inl (cy_1, 100, .inl (fun _ => 0))), (o_6, .inl (cy_5, 100, .inl (fun _ => 0)))]) H_10 := hP
  have hD : va_D A ([(h0, .inr (5, [.int 0, .int 0, .ref o_2, .ref o_6, .null, .int 0, .int 0])), (o_2, .inl (cy_1, 100, .inl (fun _ => 0))), (o_6, .inl (cy_5, 100, .inl (fun _ => 0)))]) := hD
  refine lv_aload_n hx hb dX1_init_30 rfl (lv_at hl 0 rfl) ?_
  refine lv_iload_n hx hb dX1_init_31 rfl (lv_at hl 1 rfl) ?_
  refine va_putF (D := G) (ci := 5) (v := .int p0) (ty := .int) (C := RX1) (T := TX1) (N := 7) hx hb hg in_X1 tyX1 tyX1_ok nmX1 hown hK hP hD hS 0 rfl rfl 0 (by decide) (hg _ q809) (fun _ h9 => h9) rfl hin rfl (by decide +kernel) rfl rfl (Nat.le_of_ble_eq_true rfl) dX1_init_32 (fun H_11 locs hP hD hS => ?_)
  have hP : va_P G vwCl ([(h0, .inr (5, [.int p0, .int 0, .ref o_2, .ref o_6, .null, .int 0, .int 0])), (o_2, .inl (cy_1, 100, .inl (fun _ => 0))), (o_6, .inl (cy_5, 100, .inl (fun _ => 0)))]) H_11 := hP
  have hD : va_D A ([(h0, .inr (5, [.int p0, .int 0, .ref o_2, .ref o_6, .null, .int 0, .int 0])), (o_2, .inl (cy_1, 100, .inl (fun _ => 0))), (o_6, .inl (cy_5, 100, .inl (fun _ => 0)))]) := hD
  refine lv_aload_n hx hb dX1_init_35 rfl (lv_at hl 0 rfl) ?_
  refine lv_iload_n hx hb dX1_init_36 rfl (lv_at hl 2 rfl) ?_
  refine va_putF (D := G) (ci := 5) (v := .int 8) (ty := .int) (C := RX1) (T := TX1) (N := 7) hx hb hg in_X1 tyX1 tyX1_ok nmX1 hown hK hP hD hS 0 rfl rfl 1 (by decide) (hg _ q811) (fun _ h9 => h9) rfl hin rfl (by decide +kernel) rfl rfl (Nat.le_of_ble_eq_true rfl) dX1_init_37 (fun H_12 locs hP hD hS => ?_)
  have hP : va_P G vwCl ([(h0, .inr (5, [.int p0, .int 8, .ref o_2, .ref o_6, .null, .int 0, .int 0])), (o_2, .inl (cy_1, 100, .inl (fun _ => 0))), (o_6, .inl (cy_5, 100, .inl (fun _ => 0)))]) H_12 := hP
  have hD : va_D A ([(h0, .inr (5, [.int p0, .int 8, .ref o_2, .ref o_6, .null, .int 0, .int 0])), (o_2, .inl (cy_1, 100, .inl (fun _ => 0))), (o_6, .inl (cy_5, 100, .inl (fun _ => 0)))]) := hD
  refine lv_aload_n hx hb dX1_init_40 rfl (lv_at hl 0 rfl) ?_
  refine lv_bipush (v := 100) hx hb dX1_init_41 (by decide) ?_
  refine lv_iload_n hx hb dX1_init_43 rfl (lv_at hl 2 rfl) ?_
  refine lv_imul hx hb dX1_init_44 ?_
  refine lv_topi (fun f_13 ef_13 => ?_)
  obtain rfl : f_13 = 800 := ef_13.trans (by decide)
  refine va_newa (atype := .int) (ty := .int) (a0 := (800, .inl (fun _ => 0))) (N' := 800) hx hb (hg _ q94) rfl hK hP hD hS hA (fun _ => rfl) (by decide) (by decide +kernel) (Nat.le_of_ble_eq_true rfl) (Nat.le_of_ble_eq_true rfl) (Nat.le_of_ble_eq_true rfl) dX1_init_45 (fun o_15 cy_14 H_16 hK hP hD hS => ?_)
  have hP : va_P G vwCl ([(h0, .inr (5, [.int p0, .int 8, .ref o_2, .ref o_6, .null, .int 0, .int 0])), (o_2, .inl (cy_1, 100, .inl (fun _ => 0))), (o_6, .inl (cy_5, 100, .inl (fun _ => 0))), (o_15, .inl (cy_14, 800, .inl (fun _ => 0)))]) H_16 := hP
  have hD : va_D A ([(h0, .inr (5, [.int p0, .int 8, .ref o_2, .ref o_6, .null, .int 0, .int 0])), (o_2, .inl (cy_1, 100, .inl (fun _ => 0))), (o_6, .inl (cy_5, 100, .inl (fun _ => 0))), (o_15, .inl (cy_14, 800, .inl (fun _ => 0)))]) := hD
  have hK : va_K G vwCl [(cy_1, .int), (cy_5, .int), (cy_14, .int)] s := hK
  refine W.widen (k := 3) (n := 1000) (Nat.le_of_ble_eq_true rfl) (Nat.le_of_ble_eq_true rfl) ?_
  refine va_putF (D := G) (ci := 5) (v := .ref o_15) (ty := .array (.int)) (C := RX1) (T := TX1) (N := 7) hx hb hg in_X1 tyX1 tyX1_ok nmX1 hown hK hP hD hS 0 rfl rfl 4 (by decide) (hg _ q817) (fun _ h9 => h9) rfl hin rfl (by decide +kernel) rfl rfl (Nat.le_of_ble_eq_true rfl) dX1_init_47 (fun H_17 locs hP hD hS => ?_)
  have hP : va_P G vwCl ([(h0, .inr (5, [.int p0, .int 8, .ref o_2, .ref o_6, .ref o_15, .int 0, .int 0])), (o_2, .inl (cy_1, 100, .inl (fun _ => 0))), (o_6, .inl (cy_5, 100, .inl (fun _ => 0))), (o_15, .inl (cy_14, 800, .inl (fun _ => 0)))]) H_17 := hP
  have hD : va_D A ([(h0, .inr (5, [.int p0, .int 8, .ref o_2, .ref o_6, .ref o_15, .int 0, .int 0])), (o_2, .inl (cy_1, 100, .inl (fun _ => 0))), (o_6, .inl (cy_5, 100, .inl (fun _ => 0))), (o_15, .inl (cy_14, 800, .inl (fun _ => 0)))]) := hD
  refine W.widen (k := 3) (n := 1000) (Nat.le_of_ble_eq_true rfl) (Nat.le_of_ble_eq_true rfl) ?_
  have hP9 := hP.sub (ws' := [(h0, .inr (5, ([.int p0, .int 8, .ref o_2, .ref o_6, .ref o_15, .int 0, .int 0])))]) [0] rfl
  have hD9 := hD.sub (ws' := [(h0, .inr (5, ([.int p0, .int 8, .ref o_2, .ref o_6, .ref o_15, .int 0, .int 0])))]) [0] (by decide) rfl
  have hK9 := hK.sub (tys' := []) [] rfl
  exact W.vret hx hb hr (fun t ht hW => ⟨⟨(), rfl, trivial, ⟨[.int p0, .int 8, .ref o_2, .ref o_6, .ref o_15, .int 0, .int 0], QW.of hP9 hK9 hD9 ht hW.alike⟩⟩, hS.F ht⟩) hS.2.2 dX1_init_50

abbrev wz_X0_shortenSteps : List Cond := .code yX0_shortenSteps cX0_shortenSteps 4 none :: lw_good
set_option maxHeartbeats 4000000 in
set_option maxRecDepth 100000 in
/-- shortenSteps(0, 0) of one document -/
theorem k_X0_shortenSteps (l : Launch) (G : va_G) (z : Nat) (h0 : Nat) (d1 : Nat) (d2 : Nat) (d3 : Nat) (d4 : Nat) (ag : Int32) (cyO : ClassId) (fS : Nat → Option Nat) (cyI : ClassId) (fR : Nat → Int32) (r0 : Nat) (sz : Nat) (hfS : fS 0 = some r0) (hfR : fR 0 = 0) : Met l yX0_shortenSteps wz_X0_shortenSteps ({ frames := 1, cells := 0, slots := 0, locals := 15 }) (va_Pc [.ref h0, .int 0, .int 0] (PW G z [(h0, .inr (4, [.ref d1, .ref d2, .ref d3, .ref d4, .int 1, .int ag])), (d4, .inl (cyO, 20, .inr (.inr (.inr (.inr (fS)))))), (r0, .inl (cyI, 20, .inl (fR)))] [(cyO, .array .int), (cyI, .int)] sz)) (va_Qv (fun (_ : Unit) => True) (fun (_ : Unit) (t : State) => ∃ (gR : Nat → Int32), QW G [(h0, .inr (4, [.ref d1, .ref d2, .ref d3, .ref d4, .int 1, .int ag])), (d4, .inl (cyO, 20, .inr (.inr (.inr (.inr (fS)))))), (r0, .inl (cyI, 20, .inl (gR)))] [(cyO, .array .int), (cyI, .int)] (va_A [(h0, .inr (4, [.ref d1, .ref d2, .ref d3, .ref d4, .int 1, .int ag])), (d4, .inl (cyO, 20, .inr (.inr (.inr (.inr (fS)))))), (r0, .inl (cyI, 20, .inl (fR)))] sz) t) (va_A [(h0, .inr (4, [.ref d1, .ref d2, .ref d3, .ref d4, .int 1, .int ag])), (d4, .inl (cyO, 20, .inr (.inr (.inr (.inr (fS)))))), (r0, .inl (cyI, 20, .inl (fR)))] sz)) 0 0 (va_A [(h0, .inr (4, [.ref d1, .ref d2, .ref d3, .ref d4, .int 1, .int ag])), (d4, .inl (cyO, 20, .inr (.inr (.inr (.inr (fS)))))), (r0, .inl (cyI, 20, .inl (fR)))] sz) := by
  refine Met.ofW (cc := cX0_shortenSteps) (maxL := 4) (ret := none) (by decide) rfl ?_
  intro p e s m args below meth c s₁ B hml hv
  obtain ⟨rfl, rfl, hP, hK, hD0, hG⟩ := hv
  have hx := B.exec
  have hb := B.bytes
  have hr := B.returns
  have hts := atoms_spec (ws := wz_X0_shortenSteps) B.pre
  have hg : ∀ w ∈ lw_good, w.before _ s = true := fun w h => hts w (List.mem_cons_of_mem _ h)
  have hown : s.vm.findClass RX0 = some m.cls := findClass_of_methodNamed B.named
  have hlocks := B.notSynchronized
  have hD := hD0.self (sz := s.heap.size)
  generalize hAe : va_A [(h0, .inr (4, [.ref d1, .ref d2, .ref d3, .ref d4, .int 1, .int ag])), (d4, .inl (cyO, 20, .inr (.inr (.inr (.inr (fS)))))), (r0, .inl (cyI, 20, .inl (fR)))] s.heap.size = A at hD hG ⊢
  have hA : ∀ q : Nat, s.heap.size ≤ q → A q := fun q h => by rw [← hAe]; exact Or.inr h
  have hS : va_S A s.heap s.heap [] := va_S.rf
  have hl := lv_entry ([.ref h0, .int 0, .int 0]) (n := 4) (Nat.le_of_ble_eq_true rfl)
  rw [lg_entry_eq]
  generalize (lg_sl ([.ref h0, .int 0, .int 0]) ++ List.replicate (4 - (lg_sl ([.ref h0, .int 0, .int 0])).length) Slot.unset).toArray = ls at hl ⊢
  have hl : lv_has ls 4 [(0, .ref h0), (1, .int 0), (2, .int 0)] := hl
  refine lv_iconst (v := 0) hx hb dX0_shortenSteps_0 (by decide) ?_
  refine lv_istore_n (lv' := [(3, .int 0), (0, .ref h0), (1, .int 0), (2, .int 0)]) hx hb dX0_shortenSteps_1 rfl hl (by decide) rfl (fun ls hl => ?_)
  refine lv_iload_n hx hb dX0_shortenSteps_2 rfl (lv_at hl 0 rfl) ?_
  refine lv_aload_n hx hb dX0_shortenSteps_3 rfl (lv_at hl 1 rfl) ?_
  refine va_get (D := G) (ci := 4) (v := .int 1) (C := RX0) (T := TX0) (N := 6) hx hb hg in_X0 hown hK hP 0 rfl rfl 4 (by decide) (hg _ q109) (fun _ h9 => h9) rfl dX0_shortenSteps_4 ?_
  refine lv_icmp_ge (tgt := 52) hx hb dX0_shortenSteps_7 (by decide) (fun c_1 => absurd c_1 (by decide)) (fun c_1 => ?_)
  refine lv_aload_n hx hb dX0_shortenSteps_10 rfl (lv_at hl 1 rfl) ?_
  refine va_get (D := G) (ci := 4) (v := .ref d4) (C := RX0) (T := TX0) (N := 6) hx hb hg in_X0 hown hK hP 0 rfl rfl 3 (by decide) (hg _ q108) (fun _ h9 => h9) rfl dX0_shortenSteps_11 ?_
  refine lv_iload_n hx hb dX0_shortenSteps_14 rfl (lv_at hl 2 rfl) ?_
  refine z_aldA hx hb hK hP 1 0 rfl rfl (by unfold vp_in; decide +kernel) (r := r0) hfS dX0_shortenSteps_15 ?_
  refine lv_iload_n hx hb dX0_shortenSteps_16 rfl (lv_at hl 0 rfl) ?_
  refine lv_aload_n hx hb dX0_shortenSteps_17 rfl (lv_at hl 1 rfl) ?_
  refine va_get (D := G) (ci := 4) (v := .ref d4) (C := RX0) (T := TX0) (N := 6) hx hb hg in_X0 hown hK hP 0 rfl rfl 3 (by decide) (hg _ q108) (fun _ h9 => h9) rfl dX0_shortenSteps_18 ?_
  refine lv_iload_n hx hb dX0_shortenSteps_21 rfl (lv_at hl 2 rfl) ?_
  refine z_aldA hx hb hK hP 1 0 rfl rfl (by unfold vp_in; decide +kernel) (r := r0) hfS dX0_shortenSteps_22 ?_
  refine lv_iload_n hx hb dX0_shortenSteps_23 rfl (lv_at hl 0 rfl) ?_
  refine va_iald hx hb hK hP 2 1 rfl rfl (by unfold vp_in; decide +kernel) dX0_shortenSteps_24 ?_
  refine lv_topi (fun f_2 ef_2 => ?_)
  obtain rfl : f_2 = 0 := ef_2.trans hfR
  refine lv_aload_n hx hb dX0_shortenSteps_25 rfl (lv_at hl 1 rfl) ?_
  refine va_get (D := G) (ci := 4) (v := .ref d4) (C := RX0) (T := TX0) (N := 6) hx hb hg in_X0 hown hK hP 0 rfl rfl 3 (by decide) (hg _ q108) (fun _ h9 => h9) rfl dX0_shortenSteps_26 ?_
  refine lv_iload_n hx hb dX0_shortenSteps_29 rfl (lv_at hl 2 rfl) ?_
  refine z_aldA hx hb hK hP 1 0 rfl rfl (by unfold vp_in; decide +kernel) (r := r0) hfS dX0_shortenSteps_30 ?_
  refine lv_iload_n hx hb dX0_shortenSteps_31 rfl (lv_at hl 3 rfl) ?_
  refine va_iald hx hb hK hP 2 1 rfl rfl (by unfold vp_in; decide +kernel) dX0_shortenSteps_32 ?_
  refine lv_topi (fun f_3 ef_3 => ?_)
  obtain rfl : f_3 = 0 := ef_3.trans hfR
  refine lv_aload_n hx hb dX0_shortenSteps_33 rfl (lv_at hl 1 rfl) ?_
  refine va_get (D := G) (ci := 4) (v := .ref d4) (C := RX0) (T := TX0) (N := 6) hx hb hg in_X0 hown hK hP 0 rfl rfl 3 (by decide) (hg _ q108) (fun _ h9 => h9) rfl dX0_shortenSteps_34 ?_
  refine lv_iload_n hx hb dX0_shortenSteps_37 rfl (lv_at hl 3 rfl) ?_
  refine z_aldA hx hb hK hP 1 0 rfl rfl (by unfold vp_in; decide +kernel) (r := r0) hfS dX0_shortenSteps_38 ?_
  refine lv_iload_n hx hb dX0_shortenSteps_39 rfl (lv_at hl 0 rfl) ?_
  refine va_iald hx hb hK hP 2 1 rfl rfl (by unfold vp_in; decide +kernel) dX0_shortenSteps_40 ?_
  refine lv_topi (fun f_4 ef_4 => ?_)
  obtain rfl : f_4 = 0 := ef_4.trans hfR
  refine lv_iadd hx hb dX0_shortenSteps_41 ?_
  refine lv_topi (fun f_5 ef_5 => ?_)
  obtain rfl : f_5 = 0 := ef_5.trans (by decide)
  refine va_mmin hx hb (by rw [hml]; exact hl.1.symm) hown (hg _ mmin_lX044) (hg _ mmin_s) (hg _ q15) (hg _ mmin_c) (Nat.le_of_ble_eq_true rfl) (Nat.le_of_ble_eq_true rfl) (Nat.le_of_ble_eq_true rfl) (Nat.le_of_ble_eq_true rfl) dX0_shortenSteps_42 ?_
  refine lv_topi (fun f_6 ef_6 => ?_)
  obtain rfl : f_6 = 0 := ef_6.trans (by decide)
  refine va_iast hx hb hK hP hD hS 2 1 rfl rfl (by unfold vp_in; decide +kernel) dX0_shortenSteps_45 (fun H_7 locs hP hD hS => ?_)
  have hP : va_P G vwCl ([(h0, .inr (4, [.ref d1, .ref d2, .ref d3, .ref d4, .int 1, .int ag])), (d4, .inl (cyO, 20, .inr (.inr (.inr (.inr (fS)))))), (r0, .inl (cyI, 20, .inl (upd (fR) (0 : Int32).toNatClampNeg (0))))]) H_7 := hP
  have hD : va_D A ([(h0, .inr (4, [.ref d1, .ref d2, .ref d3, .ref d4, .int 1, .int ag])), (d4, .inl (cyO, 20, .inr (.inr (.inr (.inr (fS)))))), (r0, .inl (cyI, 20, .inl (upd (fR) (0 : Int32).toNatClampNeg (0))))]) := hD
  refine lv_iinc (v := 1) (lv' := [(3, .int 1), (0, .ref h0), (1, .int 0), (2, .int 0)]) hx hb dX0_shortenSteps_46 hl (k := 0) rfl rfl (by decide) rfl (fun ls hl => ?_)
  refine lv_goto (tgt := 2) hx hb dX0_shortenSteps_49 (by decide) ?_
  refine lv_iload_n hx hb dX0_shortenSteps_2 rfl (lv_at hl 0 rfl) ?_
  refine lv_aload_n hx hb dX0_shortenSteps_3 rfl (lv_at hl 1 rfl) ?_
  refine va_get (D := G) (ci := 4) (v := .int 1) (C := RX0) (T := TX0) (N := 6) hx hb hg in_X0 hown hK hP 0 rfl rfl 4 (by decide) (hg _ q109) (fun _ h9 => h9) rfl dX0_shortenSteps_4 ?_
  refine lv_icmp_ge (tgt := 52) hx hb dX0_shortenSteps_7 (by decide) (fun c_8 => ?_) (fun c_8 => absurd (by decide) c_8)
  refine W.widen (k := 0) (n := 0) (Nat.le_of_ble_eq_true rfl) (Nat.le_of_ble_eq_true rfl) ?_
  have hP9 := hP.sub (ws' := [(h0, .inr (4, [.ref d1, .ref d2, .ref d3, .ref d4, .int 1, .int ag])), (d4, .inl (cyO, 20, .inr (.inr (.inr (.inr (fS)))))), (r0, .inl (cyI, 20, .inl ((upd (fR) (0 : Int32).toNatClampNeg (0)))))]) [0, 1, 2] rfl
  have hD9 := hD.sub (ws' := [(h0, .inr (4, [.ref d1, .ref d2, .ref d3, .ref d4, .int 1, .int ag])), (d4, .inl (cyO, 20, .inr (.inr (.inr (.inr (fS)))))), (r0, .inl (cyI, 20, .inl ((upd (fR) (0 : Int32).toNatClampNeg (0)))))]) [0, 1, 2] (by decide) rfl
  have hK9 := hK.sub (tys' := [(cyO, .array .int), (cyI, .int)]) [0, 1] rfl
  exact W.vret hx hb hr (fun t ht hW => ⟨⟨(), rfl, trivial, ⟨upd (fR) (0 : Int32).toNatClampNeg (0), QW.of hP9 hK9 hD9 ht hW.alike⟩⟩, hS.F ht⟩) hS.2.2 dX0_shortenSteps_52

abbrev wz_X0_tellSteps : List Cond := .code yX0_tellSteps cX0_tellSteps 3 none :: lw_good
set_option maxHeartbeats 4000000 in
set_option maxRecDepth 100000 in
/-- tellSteps of one document -/
theorem k_X0_tellSteps (l : Launch) (G : va_G) (z : Nat) (h0 : Nat) (d1 : Nat) (d2 : Nat) (d3 : Nat) (d4 : Nat) (ag : Int32) (cyO : ClassId) (fS : Nat → Option Nat) (cyI : ClassId) (fR : Nat → Int32) (r0 : Nat) (sz : Nat) (hfS : fS 0 = some r0) : Met l yX0_tellSteps wz_X0_tellSteps ({ frames := 2, cells := 0, slots := 0, locals := 38 }) (va_Pc [.ref h0] (PW G z [(h0, .inr (4, [.ref d1, .ref d2, .ref d3, .ref d4, .int 1, .int ag])), (d4, .inl (cyO, 20, .inr (.inr (.inr (.inr (fS)))))), (r0, .inl (cyI, 20, .inl (fR)))] [(cyO, .array .int), (cyI, .int)] sz)) (va_Qv (fun (_ : Unit) => True) (fun (_ : Unit) (t : State) => ∃ (gR : Nat → Int32), QW G [(h0, .inr (4, [.ref d1, .ref d2, .ref d3, .ref d4, .int 1, .int ag])), (d4, .inl (cyO, 20, .inr (.inr (.inr (.inr (fS)))))), (r0, .inl (cyI, 20, .inl (gR)))] [(cyO, .array .int), (cyI, .int)] (va_A [(h0, .inr (4, [.ref d1, .ref d2, .ref d3, .ref d4, .int 1, .int ag])), (d4, .inl (cyO, 20, .inr (.inr (.inr (.inr (fS)))))), (r0, .inl (cyI, 20, .inl (fR)))] sz) t) (va_A [(h0, .inr (4, [.ref d1, .ref d2, .ref d3, .ref d4, .int 1, .int ag])), (d4, .inl (cyO, 20, .inr (.inr (.inr (.inr (fS)))))), (r0, .inl (cyI, 20, .inl (fR)))] sz)) 0 0 (va_A [(h0, .inr (4, [.ref d1, .ref d2, .ref d3, .ref d4, .int 1, .int ag])), (d4, .inl (cyO, 20, .inr (.inr (.inr (.inr (fS)))))), (r0, .inl (cyI, 20, .inl (fR)))] sz) := by
  refine Met.ofW (cc := cX0_tellSteps) (maxL := 3) (ret := none) (by decide) rfl ?_
  intro p e s m args below meth c s₁ B hml hv
  obtain ⟨rfl, rfl, hP, hK, hD0, hG⟩ := hv
  have hx := B.exec
  have hb := B.bytes
  have hr := B.returns
  have hts := atoms_spec (ws := wz_X0_tellSteps) B.pre
  have hg : ∀ w ∈ lw_good, w.before _ s = true := fun w h => hts w (List.mem_cons_of_mem _ h)
  have hown : s.vm.findClass RX0 = some m.cls := findClass_of_methodNamed B.named
  have hlocks := B.notSynchronized
  have hD := hD0.self (sz := s.heap.size)
  generalize hAe : va_A [(h0, .inr (4, [.ref d1, .ref d2, .ref d3, .ref d4, .int 1, .int ag])), (d4, .inl (cyO, 20, .inr (.inr (.inr (.inr (fS)))))), (r0, .inl (cyI, 20, .inl (fR)))] s.heap.size = A at hD hG ⊢
  have hA : ∀ q : Nat, s.heap.size ≤ q → A q := fun q h => by rw [← hAe]; exact Or.inr h
  have hS : va_S A s.heap s.heap [] := va_S.rf
  have hl := lv_entry ([.ref h0]) (n := 3) (Nat.le_of_ble_eq_true rfl)
  rw [lg_entry_eq]
  generalize (lg_sl ([.ref h0]) ++ List.replicate (3 - (lg_sl ([.ref h0])).length) Slot.unset).toArray = ls at hl ⊢
  have hl : lv_has ls 3 [(0, .ref h0)] := hl
  refine lv_iconst (v := 0) hx hb dX0_tellSteps_0 (by decide) ?_
  refine lv_istore_n (lv' := [(1, .int 0), (0, .ref h0)]) hx hb dX0_tellSteps_1 rfl hl (by decide) rfl (fun ls hl => ?_)
  refine lv_iload_n hx hb dX0_tellSteps_2 rfl (lv_at hl 0 rfl) ?_
  refine lv_aload_n hx hb dX0_tellSteps_3 rfl (lv_at hl 1 rfl) ?_
  refine va_get (D := G) (ci := 4) (v := .int 1) (C := RX0) (T := TX0) (N := 6) hx hb hg in_X0 hown hK hP 0 rfl rfl 4 (by decide) (hg _ q109) (fun _ h9 => h9) rfl dX0_tellSteps_4 ?_
  refine lv_icmp_ge (tgt := 65) hx hb dX0_tellSteps_7 (by decide) (fun c_1 => absurd c_1 (by decide)) (fun c_1 => ?_)
  refine lv_iconst (v := 0) hx hb dX0_tellSteps_10 (by decide) ?_
  refine lv_istore_n (lv' := [(2, .int 0), (1, .int 0), (0, .ref h0)]) hx hb dX0_tellSteps_11 rfl hl (by decide) rfl (fun ls hl => ?_)
  refine lv_iload_n hx hb dX0_tellSteps_12 rfl (lv_at hl 0 rfl) ?_
  refine lv_aload_n hx hb dX0_tellSteps_13 rfl (lv_at hl 2 rfl) ?_
  refine va_get (D := G) (ci := 4) (v := .int 1) (C := RX0) (T := TX0) (N := 6) hx hb hg in_X0 hown hK hP 0 rfl rfl 4 (by decide) (hg _ q109) (fun _ h9 => h9) rfl dX0_tellSteps_14 ?_
  refine lv_icmp_ge (tgt := 59) hx hb dX0_tellSteps_17 (by decide) (fun c_2 => absurd c_2 (by decide)) (fun c_2 => ?_)
  refine lv_aload_n hx hb dX0_tellSteps_20 rfl (lv_at hl 2 rfl) ?_
  refine va_get (D := G) (ci := 4) (v := .ref d4) (C := RX0) (T := TX0) (N := 6) hx hb hg in_X0 hown hK hP 0 rfl rfl 3 (by decide) (hg _ q108) (fun _ h9 => h9) rfl dX0_tellSteps_21 ?_
  refine lv_iload_n hx hb dX0_tellSteps_24 rfl (lv_at hl 1 rfl) ?_
  refine z_aldA hx hb hK hP 1 0 rfl rfl (by unfold vp_in; decide +kernel) (r := r0) hfS dX0_tellSteps_25 ?_
  refine lv_iload_n hx hb dX0_tellSteps_26 rfl (lv_at hl 0 rfl) ?_
  refine lv_iload_n hx hb dX0_tellSteps_27 rfl (lv_at hl 1 rfl) ?_
  refine lv_iload_n hx hb dX0_tellSteps_28 rfl (lv_at hl 0 rfl) ?_
  refine lv_icmp_ne (tgt := 36) hx hb dX0_tellSteps_29 (by decide) (fun c_3 => absurd rfl c_3) (fun c_3 => ?_)
  refine lv_iconst (v := 0) hx hb dX0_tellSteps_32 (by decide) ?_
  refine lv_goto (tgt := 52) hx hb dX0_tellSteps_33 (by decide) ?_
  refine va_iast hx hb hK hP hD hS 2 1 rfl rfl (by unfold vp_in; decide +kernel) dX0_tellSteps_52 (fun H_4 locs hP hD hS => ?_)
  have hP : va_P G vwCl ([(h0, .inr (4, [.ref d1, .ref d2, .ref d3, .ref d4, .int 1, .int ag])), (d4, .inl (cyO, 20, .inr (.inr (.inr (.inr (fS)))))), (r0, .inl (cyI, 20, .inl (upd (fR) (0 : Int32).toNatClampNeg (0))))]) H_4 := hP
  have hD : va_D A ([(h0, .inr (4, [.ref d1, .ref d2, .ref d3, .ref d4, .int 1, .int ag])), (d4, .inl (cyO, 20, .inr (.inr (.inr (.inr (fS)))))), (r0, .inl (cyI, 20, .inl (upd (fR) (0 : Int32).toNatClampNeg (0))))]) := hD
  refine lv_iinc (v := 1) (lv' := [(2, .int 1), (1, .int 0), (0, .ref h0)]) hx hb dX0_tellSteps_53 hl (k := 0) rfl rfl (by decide) rfl (fun ls hl => ?_)
  refine lv_goto (tgt := 12) hx hb dX0_tellSteps_56 (by decide) ?_
  refine lv_iload_n hx hb dX0_tellSteps_12 rfl (lv_at hl 0 rfl) ?_
  refine lv_aload_n hx hb dX0_tellSteps_13 rfl (lv_at hl 2 rfl) ?_
  refine va_get (D := G) (ci := 4) (v := .int 1) (C := RX0) (T := TX0) (N := 6) hx hb hg in_X0 hown hK hP 0 rfl rfl 4 (by decide) (hg _ q109) (fun _ h9 => h9) rfl dX0_tellSteps_14 ?_
  refine lv_icmp_ge (tgt := 59) hx hb dX0_tellSteps_17 (by decide) (fun c_5 => ?_) (fun c_5 => absurd (by decide) c_5)
  refine lv_iinc (v := 1) (lv' := [(1, .int 1), (2, .int 1), (0, .ref h0)]) hx hb dX0_tellSteps_59 hl (k := 1) rfl rfl (by decide) rfl (fun ls hl => ?_)
  refine lv_goto (tgt := 2) hx hb dX0_tellSteps_62 (by decide) ?_
  refine lv_iload_n hx hb dX0_tellSteps_2 rfl (lv_at hl 0 rfl) ?_
  refine lv_aload_n hx hb dX0_tellSteps_3 rfl (lv_at hl 2 rfl) ?_
  refine va_get (D := G) (ci := 4) (v := .int 1) (C := RX0) (T := TX0) (N := 6) hx hb hg in_X0 hown hK hP 0 rfl rfl 4 (by decide) (hg _ q109) (fun _ h9 => h9) rfl dX0_tellSteps_4 ?_
  refine lv_icmp_ge (tgt := 65) hx hb dX0_tellSteps_7 (by decide) (fun c_6 => ?_) (fun c_6 => absurd (by decide) c_6)
  refine lv_iconst (v := 0) hx hb dX0_tellSteps_65 (by decide) ?_
  refine lv_istore_n (lv' := [(1, .int 0), (2, .int 1), (0, .ref h0)]) hx hb dX0_tellSteps_66 rfl hl (by decide) rfl (fun ls hl => ?_)
  refine lv_iload_n hx hb dX0_tellSteps_67 rfl (lv_at hl 0 rfl) ?_
  refine lv_aload_n hx hb dX0_tellSteps_68 rfl (lv_at hl 2 rfl) ?_
  refine va_get (D := G) (ci := 4) (v := .int 1) (C := RX0) (T := TX0) (N := 6) hx hb hg in_X0 hown hK hP 0 rfl rfl 4 (by decide) (hg _ q109) (fun _ h9 => h9) rfl dX0_tellSteps_69 ?_
  refine lv_icmp_ge (tgt := 117) hx hb dX0_tellSteps_72 (by decide) (fun c_7 => absurd c_7 (by decide)) (fun c_7 => ?_)
  refine lv_iconst (v := 0) hx hb dX0_tellSteps_75 (by decide) ?_
  refine lv_istore_n (lv' := [(2, .int 0), (1, .int 0), (0, .ref h0)]) hx hb dX0_tellSteps_76 rfl hl (by decide) rfl (fun ls hl => ?_)
  refine lv_iload_n hx hb dX0_tellSteps_77 rfl (lv_at hl 0 rfl) ?_
  refine lv_aload_n hx hb dX0_tellSteps_78 rfl (lv_at hl 2 rfl) ?_
  refine va_get (D := G) (ci := 4) (v := .int 1) (C := RX0) (T := TX0) (N := 6) hx hb hg in_X0 hown hK hP 0 rfl rfl 4 (by decide) (hg _ q109) (fun _ h9 => h9) rfl dX0_tellSteps_79 ?_
  refine lv_icmp_ge (tgt := 111) hx hb dX0_tellSteps_82 (by decide) (fun c_8 => absurd c_8 (by decide)) (fun c_8 => ?_)
  refine lv_aload_n hx hb dX0_tellSteps_85 rfl (lv_at hl 2 rfl) ?_
  refine va_get (D := G) (ci := 4) (v := .ref d4) (C := RX0) (T := TX0) (N := 6) hx hb hg in_X0 hown hK hP 0 rfl rfl 3 (by decide) (hg _ q108) (fun _ h9 => h9) rfl dX0_tellSteps_86 ?_
  refine lv_iload_n hx hb dX0_tellSteps_89 rfl (lv_at hl 0 rfl) ?_
  refine z_aldA hx hb hK hP 1 0 rfl rfl (by unfold vp_in; decide +kernel) (r := r0) hfS dX0_tellSteps_90 ?_
  refine lv_iload_n hx hb dX0_tellSteps_91 rfl (lv_at hl 1 rfl) ?_
  refine va_iald hx hb hK hP 2 1 rfl rfl (by unfold vp_in; decide +kernel) dX0_tellSteps_92 ?_
  refine lv_topi (fun f_9 ef_9 => ?_)
  obtain rfl : f_9 = 0 := ef_9.trans z_upd_same
  refine lv_sipush (v := 1000) hx hb dX0_tellSteps_93 (by decide) ?_
  refine lv_icmp_ge (tgt := 105) hx hb dX0_tellSteps_96 (by decide) (fun c_10 => absurd c_10 (by decide)) (fun c_10 => ?_)
  refine lv_aload_n hx hb dX0_tellSteps_99 rfl (lv_at hl 2 rfl) ?_
  refine lv_iload_n hx hb dX0_tellSteps_100 rfl (lv_at hl 0 rfl) ?_
  refine lv_iload_n hx hb dX0_tellSteps_101 rfl (lv_at hl 1 rfl) ?_
  have hPc := hP.sub (ws' := [(h0, .inr (4, [.ref d1, .ref d2, .ref d3, .ref d4, .int 1, .int ag])), (d4, .inl (cyO, 20, .inr (.inr (.inr (.inr (fS)))))), (r0, .inl (cyI, 20, .inl (upd (fR) (0 : Int32).toNatClampNeg (0))))]) [0, 1, 2] rfl
  have hKc := hK.sub (tys' := [(cyO, .array .int), (cyI, .int)]) [0, 1] rfl
  have hDc := hD.sub (ws' := [(h0, .inr (4, [.ref d1, .ref d2, .ref d3, .ref d4, .int 1, .int ag])), (d4, .inl (cyO, 20, .inr (.inr (.inr (.inr (fS)))))), (r0, .inl (cyI, 20, .inl (upd (fR) (0 : Int32).toNatClampNeg (0))))]) [0, 1, 2] (by decide) rfl
  have hFc := va_free (wc := [(h0, .inr (4, [.ref d1, .ref d2, .ref d3, .ref d4, .int 1, .int ag])), (d4, .inl (cyO, 20, .inr (.inr (.inr (.inr (fS)))))), (r0, .inl (cyI, 20, .inl (upd (fR) (0 : Int32).toNatClampNeg (0))))]) hD hS hA [0, 1, 2] rfl
  refine va_callv (va_runV (As := [.int 0, .int 0]) (rest := []) ⟨hx, hb, hml, hown, hts⟩ (k_X0_shortenSteps l G z h0 d1 d2 d3 d4 ag cyO fS cyI (upd (fR) (0 : Int32).toNatClampNeg (0)) r0 H_4.size hfS z_upd_same) (cwV 2 hts (lw_goodApp (lw_4 q849 q850 q851 q6) q852) rfl rfl rfl (by decide +kernel) ⟨Nat.le_of_ble_eq_true rfl, Nat.le_of_ble_eq_true rfl⟩) ⟨PW.blind, va_recv hK hP (ci := 4) (q0 := 0) rfl rfl, PW.of hPc hKc hDc hG hS hFc [.ref h0, .int 0, .int 0]⟩ rfl rfl hl.1 rfl (lv_room (Nat.le_of_ble_eq_true rfl)) dX0_tellSteps_102 ⟨Nat.le_of_ble_eq_true rfl, Nat.le_of_ble_eq_true rfl⟩) hS (fun q _ h => hFc q h) hFc (fun u t_14 H_11 locs ht hvm hw_13 hB hz1 hk1 hS => ?_)
  obtain ⟨gR_15, hB⟩ := hB
  obtain ⟨hP, hD, hK⟩ := QW.join (wr := []) (w1 := [(h0, .inr (4, [.ref d1, .ref d2, .ref d3, .ref d4, .int 1, .int ag])), (d4, .inl (cyO, 20, .inr (.inr (.inr (.inr (fS)))))), (r0, .inl (cyI, 20, .inl (gR_15)))]) hP hD hK [0, 1, 2] [] rfl rfl (by decide) (by decide) hk1 hFc ht hvm hB
  have hP : va_P G vwCl ([(h0, .inr (4, [.ref d1, .ref d2, .ref d3, .ref d4, .int 1, .int ag])), (d4, .inl (cyO, 20, .inr (.inr (.inr (.inr (fS)))))), (r0, .inl (cyI, 20, .inl (gR_15)))]) H_11 := hP
  have hD : va_D A ([(h0, .inr (4, [.ref d1, .ref d2, .ref d3, .ref d4, .int 1, .int ag])), (d4, .inl (cyO, 20, .inr (.inr (.inr (.inr (fS)))))), (r0, .inl (cyI, 20, .inl (gR_15)))]) := hD
  have hK : va_K G vwCl [(cyO, .array .int), (cyI, .int), (cyO, .array .int), (cyI, .int)] s := hK
  refine W.widen (k := 0) (n := 0) (Nat.le_of_ble_eq_true rfl) (Nat.le_of_ble_eq_true rfl) ?_
  refine lv_iinc (v := 1) (lv' := [(2, .int 1), (1, .int 0), (0, .ref h0)]) hx hb dX0_tellSteps_105 hl (k := 0) rfl rfl (by decide) rfl (fun ls hl => ?_)
  refine lv_goto (tgt := 77) hx hb dX0_tellSteps_108 (by decide) ?_
  refine lv_iload_n hx hb dX0_tellSteps_77 rfl (lv_at hl 0 rfl) ?_
  refine lv_aload_n hx hb dX0_tellSteps_78 rfl (lv_at hl 2 rfl) ?_
  refine va_get (D := G) (ci := 4) (v := .int 1) (C := RX0) (T := TX0) (N := 6) hx hb hg in_X0 hown hK hP 0 rfl rfl 4 (by decide) (hg _ q109) (fun _ h9 => h9) rfl dX0_tellSteps_79 ?_
  refine lv_icmp_ge (tgt := 111) hx hb dX0_tellSteps_82 (by decide) (fun c_16 => ?_) (fun c_16 => absurd (by decide) c_16)
  refine lv_iinc (v := 1) (lv' := [(1, .int 1), (2, .int 1), (0, .ref h0)]) hx hb dX0_tellSteps_111 hl (k := 1) rfl rfl (by decide) rfl (fun ls hl => ?_)
  refine lv_goto (tgt := 67) hx hb dX0_tellSteps_114 (by decide) ?_
  refine lv_iload_n hx hb dX0_tellSteps_67 rfl (lv_at hl 0 rfl) ?_
  refine lv_aload_n hx hb dX0_tellSteps_68 rfl (lv_at hl 2 rfl) ?_
  refine va_get (D := G) (ci := 4) (v := .int 1) (C := RX0) (T := TX0) (N := 6) hx hb hg in_X0 hown hK hP 0 rfl rfl 4 (by decide) (hg _ q109) (fun _ h9 => h9) rfl dX0_tellSteps_69 ?_
  refine lv_icmp_ge (tgt := 117) hx hb dX0_tellSteps_72 (by decide) (fun c_17 => ?_) (fun c_17 => absurd (by decide) c_17)
  refine W.widen (k := 0) (n := 0) (Nat.le_of_ble_eq_true rfl) (Nat.le_of_ble_eq_true rfl) ?_
  have hP9 := hP.sub (ws' := [(h0, .inr (4, [.ref d1, .ref d2, .ref d3, .ref d4, .int 1, .int ag])), (d4, .inl (cyO, 20, .inr (.inr (.inr (.inr (fS)))))), (r0, .inl (cyI, 20, .inl (gR_15)))]) [0, 1, 2] rfl
  have hD9 := hD.sub (ws' := [(h0, .inr (4, [.ref d1, .ref d2, .ref d3, .ref d4, .int 1, .int ag])), (d4, .inl (cyO, 20, .inr (.inr (.inr (.inr (fS)))))), (r0, .inl (cyI, 20, .inl (gR_15)))]) [0, 1, 2] (by decide) rfl
  have hK9 := hK.sub (tys' := [(cyO, .array .int), (cyI, .int)]) [0, 1] rfl
  exact W.vret hx hb hr (fun t ht hW => ⟨⟨(), rfl, trivial, ⟨gR_15, QW.of hP9 hK9 hD9 ht hW.alike⟩⟩, hS.F ht⟩) hS.2.2 dX0_tellSteps_117

abbrev wz_X0_addDocument : List Cond := .code yX0_addDocument cX0_addDocument 1 none :: lw_good
set_option maxHeartbeats 4000000 in
set_option maxRecDepth 100000 in
/-- addDocument: the first one -/
theorem k_X0_addDocument (l : Launch) (G : va_G) (z : Nat) (h0 : Nat) (d1 : Nat) (d2 : Nat) (d3 : Nat) (d4 : Nat) (ag : Int32) (cyO : ClassId) (fS : Nat → Option Nat) (cyI : ClassId) (fR : Nat → Int32) (r0 : Nat) (sz : Nat) (hfS : fS 0 = some r0) : Met l yX0_addDocument wz_X0_addDocument ({ frames := 3, cells := 0, slots := 0, locals := 60 }) (va_Pc [.ref h0] (PW G z [(h0, .inr (4, [.ref d1, .ref d2, .ref d3, .ref d4, .int 0, .int ag])), (d4, .inl (cyO, 20, .inr (.inr (.inr (.inr (fS)))))), (r0, .inl (cyI, 20, .inl (fR)))] [(cyO, .array .int), (cyI, .int)] sz)) (va_Qv (fun (_ : Unit) => True) (fun (_ : Unit) (t : State) => QW G [] [] (va_A [(h0, .inr (4, [.ref d1, .ref d2, .ref d3, .ref d4, .int 0, .int ag])), (d4, .inl (cyO, 20, .inr (.inr (.inr (.inr (fS)))))), (r0, .inl (cyI, 20, .inl (fR)))] sz) t) (va_A [(h0, .inr (4, [.ref d1, .ref d2, .ref d3, .ref d4, .int 0, .int ag])), (d4, .inl (cyO, 20, .inr (.inr (.inr (.inr (fS)))))), (r0, .inl (cyI, 20, .inl (fR)))] sz)) 0 0 (va_A [(h0, .inr (4, [.ref d1, .ref d2, .ref d3, .ref d4, .int 0, .int ag])), (d4, .inl (cyO, 20, .inr (.inr (.inr (.inr (fS)))))), (r0, .inl (cyI, 20, .inl (fR)))] sz) := by
  refine Met.ofW (cc := cX0_addDocument) (maxL := 1) (ret := none) (by decide) rfl ?_
  intro p e s m args below meth c s₁ B hml hv
  obtain ⟨rfl, rfl, hP, hK, hD0, hG⟩ := hv
  have hx := B.exec
  have hb := B.bytes
  have hr := B.returns
  have hts := atoms_spec (ws := wz_X0_addDocument) B.pre
  have hg : ∀ w ∈ lw_good, w.before _ s = true := fun w h => hts w (List.mem_cons_of_mem _ h)
  have hown : s.vm.findClass RX0 = some m.cls := findClass_of_methodNamed B.named
  have hlocks := B.notSynchronized
  have hD := hD0.self (sz := s.heap.size)
  generalize hAe : va_A [(h0, .inr (4, [.ref d1, .ref d2, .ref d3, .ref d4, .int 0, .int ag])), (d4, .inl (cyO, 20, .inr (.inr (.inr (.inr (fS)))))), (r0, .inl (cyI, 20, .inl (fR)))] s.heap.size = A at hD hG ⊢
  have hA : ∀ q : Nat, s.heap.size ≤ q → A q := fun q h => by rw [← hAe]; exact Or.inr h
  have hS : va_S A s.heap s.heap [] := va_S.rf
  have hl := lv_entry ([.ref h0]) (n := 1) (Nat.le_of_ble_eq_true rfl)
  rw [lg_entry_eq]
  generalize (lg_sl ([.ref h0]) ++ List.replicate (1 - (lg_sl ([.ref h0])).length) Slot.unset).toArray = ls at hl ⊢
  have hl : lv_has ls 1 [(0, .ref h0)] := hl
  refine lv_aload_n hx hb dX0_addDocument_0 rfl (lv_at hl 0 rfl) ?_
  refine va_get (D := G) (ci := 4) (v := .int 0) (C := RX0) (T := TX0) (N := 6) hx hb hg in_X0 hown hK hP 0 rfl rfl 4 (by decide) (hg _ q109) (fun _ h9 => h9) rfl dX0_addDocument_1 ?_
  refine lv_bipush (v := 20) hx hb dX0_addDocument_4 (by decide) ?_
  refine lv_icmp_ge (tgt := 23) hx hb dX0_addDocument_6 (by decide) (fun c_1 => absurd c_1 (by decide)) (fun c_1 => ?_)
  refine lv_aload_n hx hb dX0_addDocument_9 rfl (lv_at hl 0 rfl) ?_
  refine lv_dup hx hb dX0_addDocument_10 rfl ?_
  refine va_get (D := G) (ci := 4) (v := .int 0) (C := RX0) (T := TX0) (N := 6) hx hb hg in_X0 hown hK hP 0 rfl rfl 4 (by decide) (hg _ q109) (fun _ h9 => h9) rfl dX0_addDocument_11 ?_
  refine lv_iconst (v := 1) hx hb dX0_addDocument_14 (by decide) ?_
  refine lv_iadd hx hb dX0_addDocument_15 ?_
  refine lv_topi (fun f_2 ef_2 => ?_)
  obtain rfl : f_2 = 1 := ef_2.trans (by decide)
  refine va_put (D := G) (ci := 4) (v := .int 1) (ty := .int) (C := RX0) (T := TX0) (N := 6) hx hb hg in_X0 tyX0 tyX0_ok nmX0 hown hK hP hD hS 0 rfl rfl 4 (by decide) (hg _ q109) (fun _ h9 => h9) rfl (by decide +kernel) rfl rfl (Nat.le_of_ble_eq_true rfl) dX0_addDocument_16 (fun H_3 locs hP hD hS => ?_)
  have hP : va_P G vwCl ([(h0, .inr (4, [.ref d1, .ref d2, .ref d3, .ref d4, .int 1, .int ag])), (d4, .inl (cyO, 20, .inr (.inr (.inr (.inr (fS)))))), (r0, .inl (cyI, 20, .inl (fR)))]) H_3 := hP
  have hD : va_D A ([(h0, .inr (4, [.ref d1, .ref d2, .ref d3, .ref d4, .int 1, .int ag])), (d4, .inl (cyO, 20, .inr (.inr (.inr (.inr (fS)))))), (r0, .inl (cyI, 20, .inl (fR)))]) := hD
  refine lv_aload_n hx hb dX0_addDocument_19 rfl (lv_at hl 0 rfl) ?_
  have hPc := hP.sub (ws' := [(h0, .inr (4, [.ref d1, .ref d2, .ref d3, .ref d4, .int 1, .int ag])), (d4, .inl (cyO, 20, .inr (.inr (.inr (.inr (fS)))))), (r0, .inl (cyI, 20, .inl (fR)))]) [0, 1, 2] rfl
  have hKc := hK.sub (tys' := [(cyO, .array .int), (cyI, .int)]) [0, 1] rfl
  have hDc := hD.sub (ws' := [(h0, .inr (4, [.ref d1, .ref d2, .ref d3, .ref d4, .int 1, .int ag])), (d4, .inl (cyO, 20, .inr (.inr (.inr (.inr (fS)))))), (r0, .inl (cyI, 20, .inl (fR)))]) [0, 1, 2] (by decide) rfl
  have hFc := va_free (wc := [(h0, .inr (4, [.ref d1, .ref d2, .ref d3, .ref d4, .int 1, .int ag])), (d4, .inl (cyO, 20, .inr (.inr (.inr (.inr (fS)))))), (r0, .inl (cyI, 20, .inl (fR)))]) hD hS hA [0, 1, 2] rfl
  refine va_callv (va_runV (As := []) (rest := []) ⟨hx, hb, hml, hown, hts⟩ (k_X0_tellSteps l G z h0 d1 d2 d3 d4 ag cyO fS cyI fR r0 H_3.size hfS) (cwV 0 hts (lw_goodApp (lw_4 q841 q842 q843 q6) q844) rfl rfl rfl (by decide +kernel) ⟨Nat.le_of_ble_eq_true rfl, Nat.le_of_ble_eq_true rfl⟩) ⟨PW.blind, va_recv hK hP (ci := 4) (q0 := 0) rfl rfl, PW.of hPc hKc hDc hG hS hFc [.ref h0]⟩ rfl rfl hl.1 rfl (lv_room (Nat.le_of_ble_eq_true rfl)) dX0_addDocument_20 ⟨Nat.le_of_ble_eq_true rfl, Nat.le_of_ble_eq_true rfl⟩) hS (fun q _ h => hFc q h) hFc (fun u t_7 H_4 locs ht hvm hw_6 hB hz1 hk1 hS => ?_)
  obtain ⟨gR_8, hB⟩ := hB
  obtain ⟨hP, hD, hK⟩ := QW.join (wr := []) (w1 := [(h0, .inr (4, [.ref d1, .ref d2, .ref d3, .ref d4, .int 1, .int ag])), (d4, .inl (cyO, 20, .inr (.inr (.inr (.inr (fS)))))), (r0, .inl (cyI, 20, .inl (gR_8)))]) hP hD hK [0, 1, 2] [] rfl rfl (by decide) (by decide) hk1 hFc ht hvm hB
  have hP : va_P G vwCl ([(h0, .inr (4, [.ref d1, .ref d2, .ref d3, .ref d4, .int 1, .int ag])), (d4, .inl (cyO, 20, .inr (.inr (.inr (.inr (fS)))))), (r0, .inl (cyI, 20, .inl (gR_8)))]) H_4 := hP
  have hD : va_D A ([(h0, .inr (4, [.ref d1, .ref d2, .ref d3, .ref d4, .int 1, .int ag])), (d4, .inl (cyO, 20, .inr (.inr (.inr (.inr (fS)))))), (r0, .inl (cyI, 20, .inl (gR_8)))]) := hD
  have hK : va_K G vwCl [(cyO, .array .int), (cyI, .int), (cyO, .array .int), (cyI, .int)] s := hK
  refine W.widen (k := 0) (n := 0) (Nat.le_of_ble_eq_true rfl) (Nat.le_of_ble_eq_true rfl) ?_
  refine W.widen (k := 0) (n := 0) (Nat.le_of_ble_eq_true rfl) (Nat.le_of_ble_eq_true rfl) ?_
  have hP9 := hP.sub (ws' := []) [] rfl
  have hD9 := hD.sub (ws' := []) [] (by decide) rfl
  have hK9 := hK.sub (tys' := []) [] rfl
  exact W.vret hx hb hr (fun t ht hW => ⟨⟨(), rfl, trivial, QW.of hP9 hK9 hD9 ht hW.alike⟩, hS.F ht⟩) hS.2.2 dX0_addDocument_23

abbrev wz_X8_mould : List Cond := .code yX8_mould cX8_mould 7 (Option.some Jvm.ClassFile.FieldType.int) :: lw_good
set_option maxHeartbeats 4000000 in
set_option maxRecDepth 100000 in
/-- mould: the first one -/
theorem k_X8_mould (l : Launch) (hfl : l.stackTraces = false) (G : va_G) (z : Nat) (h0 : Nat) (a1 : Nat) (a2 : Nat) (a3 : Nat) (a4 : Nat) (a5 : Nat) (a6 : Nat) (a7 : Nat) (a8 : Nat) (tol : Int32) (sal : Int32) (c0 : Int32) (p0 : Int32) (p1 : Int32) (p2 : Int32) (p3 : Int32) (p4 : Int32) (p5 : Int32) (sz : Nat)  : vx_Met l yX8_mould wz_X8_mould ({ frames := 7, cells := 13, slots := 115, locals := 104 }) (va_Pc [.ref h0, .int p0, .int p1, .int p2, .int p3, .int p4, .int p5] (PW G z [(h0, .inr (12, [.ref a1, .ref a2, .ref a3, .ref a4, .ref a5, .ref a6, .ref a7, .ref a8, .int tol, .int sal])), (a1, .inr (3, [.int c0, .ref z, .int 0]))] [] sz)) (va_Qi (fun (r : Int32) (_ : Unit) => r = 0 ∧ okM p0 p1 p2 p3 p4 p5) (fun (_ : Unit) (t : State) => QW G [] [] (va_A [(h0, .inr (12, [.ref a1, .ref a2, .ref a3, .ref a4, .ref a5, .ref a6, .ref a7, .ref a8, .int tol, .int sal])), (a1, .inr (3, [.int c0, .ref z, .int 0]))] sz) t) (va_A [(h0, .inr (12, [.ref a1, .ref a2, .ref a3, .ref a4, .ref a5, .ref a6, .ref a7, .ref a8, .int tol, .int sal])), (a1, .inr (3, [.int c0, .ref z, .int 0]))] sz)) (zX (¬ okM p0 p1 p2 p3 p4 p5) "java/lang/IllegalArgumentException" (va_A [(h0, .inr (12, [.ref a1, .ref a2, .ref a3, .ref a4, .ref a5, .ref a6, .ref a7, .ref a8, .int tol, .int sal])), (a1, .inr (3, [.int c0, .ref z, .int 0]))] sz)) 13 115 (va_A [(h0, .inr (12, [.ref a1, .ref a2, .ref a3, .ref a4, .ref a5, .ref a6, .ref a7, .ref a8, .int tol, .int sal])), (a1, .inr (3, [.int c0, .ref z, .int 0]))] sz) := by
  refine vx_ofW (cc := cX8_mould) (maxL := 7) (ret := (Option.some Jvm.ClassFile.FieldType.int)) (by decide) rfl ?_
  intro p e s m args below meth c s₁ B hml htab hv
  obtain ⟨rfl, rfl, hP, hK, hD0, hG⟩ := hv
  have hx := B.exec
  have hb := B.bytes
  have hr := B.returns
  have hts := atoms_spec (ws := wz_X8_mould) B.pre
  have hg : ∀ w ∈ lw_good, w.before _ s = true := fun w h => hts w (List.mem_cons_of_mem _ h)
  have hown : s.vm.findClass RX8 = some m.cls := findClass_of_methodNamed B.named
  have hlocks := B.notSynchronized
  have hD := hD0.self (sz := s.heap.size)
  generalize hAe : va_A [(h0, .inr (12, [.ref a1, .ref a2, .ref a3, .ref a4, .ref a5, .ref a6, .ref a7, .ref a8, .int tol, .int sal])), (a1, .inr (3, [.int c0, .ref z, .int 0]))] s.heap.size = A at hD hG ⊢
  have hA : ∀ q : Nat, s.heap.size ≤ q → A q := fun q h => by rw [← hAe]; exact Or.inr h
  have hS : va_S A s.heap s.heap [] := va_S.rf
  have hl := lv_entry ([.ref h0, .int p0, .int p1, .int p2, .int p3, .int p4, .int p5]) (n := 7) (Nat.le_of_ble_eq_true rfl)
  rw [lg_entry_eq]
  generalize (lg_sl ([.ref h0, .int p0, .int p1, .int p2, .int p3, .int p4, .int p5]) ++ List.replicate (7 - (lg_sl ([.ref h0, .int p0, .int p1, .int p2, .int p3, .int p4, .int p5])).length) Slot.unset).toArray = ls at hl ⊢
  have hl : lv_has ls 7 [(0, .ref h0), (1, .int p0), (2, .int p1), (3, .int p2), (4, .int p3), (5, .int p4), (6, .int p5)] := hl
  refine lv_iload_n hx hb dX8_mould_0 rfl (lv_at hl 1 rfl) ?_
  refine lv_iconst (v := 0) hx hb dX8_mould_1 (by decide) ?_
  refine lv_iconst (v := 4) hx hb dX8_mould_2 (by decide) ?_
  have hPc := hP.sub (ws' := []) [] rfl
  have hKc := hK.sub (tys' := []) [] rfl
  refine vx_callv (vx_runS (As := [.int p0, .int 0, .int 4]) (rest := []) ⟨hx, hb, hml, hown, hts⟩ (k_X8_checkRange l hfl G z p0 0 4 s.heap.size ) (va_cwS 3 hts (lw_goodApp (lw_3 q308 q309 q1) q310) rfl rfl rfl (by decide +kernel) ⟨Nat.le_of_ble_eq_true rfl, Nat.le_of_ble_eq_true rfl⟩) ⟨PR.blind, PR.of hPc hKc hG hS hA [.int p0, .int 0, .int 4]⟩ rfl rfl hl.1 rfl (lv_room (Nat.le_of_ble_eq_true rfl)) dX8_mould_3 ⟨Nat.le_of_ble_eq_true rfl, Nat.le_of_ble_eq_true rfl⟩) hS (fun q h9 h => zN.not h9 h) (fun q h => hA q (Nat.le_trans hS.1 h)) (fun q h9 h => zN.not h9 h) (fun E ce q9 ux t_4 H_1 locs ht hvm px_5 hE hz1 hk1 hS hq9 hv9 hcl9 => ?_) (fun u t_4 H_1 locs ht hvm hw_3 hB hz1 hk1 hS => ?_)
  · exact vx_out (fun x9 h9 => (htab x9 h9).elim) hlocks hq9 hv9 hcl9 (fun t2 ht2 hal2 => zX.same (fun h9 => px_5 h9.1) hE hS ht2) hS.2.2 (Nat.le_of_ble_eq_true rfl) (Nat.le_of_ble_eq_true rfl)
  have hP := hP.grown hk1
  refine W.widen (k := 1) (n := 6) (Nat.le_of_ble_eq_true rfl) (Nat.le_of_ble_eq_true rfl) ?_
  refine lv_iload_n hx hb dX8_mould_6 rfl (lv_at hl 2 rfl) ?_
  refine lv_iconst (v := 0) hx hb dX8_mould_7 (by decide) ?_
  refine lv_bipush (v := 99) hx hb dX8_mould_8 (by decide) ?_
  have hPc := hP.sub (ws' := []) [] rfl
  have hKc := hK.sub (tys' := []) [] rfl
  refine vx_callv (vx_runS (As := [.int p1, .int 0, .int 99]) (rest := []) ⟨hx, hb, hml, hown, hts⟩ (k_X8_checkRange l hfl G z p1 0 99 H_1.size ) (va_cwS 3 hts (lw_goodApp (lw_3 q308 q309 q1) q310) rfl rfl rfl (by decide +kernel) ⟨Nat.le_of_ble_eq_true rfl, Nat.le_of_ble_eq_true rfl⟩) ⟨PR.blind, PR.of hPc hKc hG hS hA [.int p1, .int 0, .int 99]⟩ rfl rfl hl.1 rfl (lv_room (Nat.le_of_ble_eq_true rfl)) dX8_mould_10 ⟨Nat.le_of_ble_eq_true rfl, Nat.le_of_ble_eq_true rfl⟩) hS (fun q h9 h => zN.not h9 h) (fun q h => hA q (Nat.le_trans hS.1 h)) (fun q h9 h => zN.not h9 h) (fun E ce q9 ux t_9 H_6 locs ht hvm px_10 hE hz1 hk1 hS hq9 hv9 hcl9 => ?_) (fun u t_9 H_6 locs ht hvm hw_8 hB hz1 hk1 hS => ?_)
  · exact vx_out (fun x9 h9 => (htab x9 h9).elim) hlocks hq9 hv9 hcl9 (fun t2 ht2 hal2 => zX.same (fun h9 => px_10 h9.2.1) hE hS ht2) hS.2.2 (Nat.le_of_ble_eq_true rfl) (Nat.le_of_ble_eq_true rfl)
  have hP := hP.grown hk1
  refine W.widen (k := 2) (n := 12) (Nat.le_of_ble_eq_true rfl) (Nat.le_of_ble_eq_true rfl) ?_
  refine lv_iload_n hx hb dX8_mould_13 rfl (lv_at hl 3 rfl) ?_
  refine lv_bipush (v := 100) hx hb dX8_mould_14 (by decide) ?_
  refine lv_sipush (v := 400) hx hb dX8_mould_16 (by decide) ?_
  have hPc := hP.sub (ws' := []) [] rfl
  have hKc := hK.sub (tys' := []) [] rfl
  refine vx_callv (vx_runS (As := [.int p2, .int 100, .int 400]) (rest := []) ⟨hx, hb, hml, hown, hts⟩ (k_X8_checkRange l hfl G z p2 100 400 H_6.size ) (va_cwS 3 hts (lw_goodApp (lw_3 q308 q309 q1) q310) rfl rfl rfl (by decide +kernel) ⟨Nat.le_of_ble_eq_true rfl, Nat.le_of_ble_eq_true rfl⟩) ⟨PR.blind, PR.of hPc hKc hG hS hA [.int p2, .int 100, .int 400]⟩ rfl rfl hl.1 rfl (lv_room (Nat.le_of_ble_eq_true rfl)) dX8_mould_19 ⟨Nat.le_of_ble_eq_true rfl, Nat.le_of_ble_eq_true rfl⟩) hS (fun q h9 h => zN.not h9 h) (fun q h => hA q (Nat.le_trans hS.1 h)) (fun q h9 h => zN.not h9 h) (fun E ce q9 ux t_14 H_11 locs ht hvm px_15 hE hz1 hk1 hS hq9 hv9 hcl9 => ?_) (fun u t_14 H_11 locs ht hvm hw_13 hB hz1 hk1 hS => ?_)
  · exact vx_out (fun x9 h9 => (htab x9 h9).elim) hlocks hq9 hv9 hcl9 (fun t2 ht2 hal2 => zX.same (fun h9 => px_15 h9.2.2.1) hE hS ht2) hS.2.2 (Nat.le_of_ble_eq_true rfl) (Nat.le_of_ble_eq_true rfl)
  have hP := hP.grown hk1
  refine W.widen (k := 3) (n := 18) (Nat.le_of_ble_eq_true rfl) (Nat.le_of_ble_eq_true rfl) ?_
  refine lv_iload hx hb dX8_mould_22 (lv_at hl 4 rfl) ?_
  refine lv_bipush (v := 100) hx hb dX8_mould_24 (by decide) ?_
  refine lv_sipush (v := 400) hx hb dX8_mould_26 (by decide) ?_
  have hPc := hP.sub (ws' := []) [] rfl
  have hKc := hK.sub (tys' := []) [] rfl
  refine vx_callv (vx_runS (As := [.int p3, .int 100, .int 400]) (rest := []) ⟨hx, hb, hml, hown, hts⟩ (k_X8_checkRange l hfl G z p3 100 400 H_11.size ) (va_cwS 3 hts (lw_goodApp (lw_3 q308 q309 q1) q310) rfl rfl rfl (by decide +kernel) ⟨Nat.le_of_ble_eq_true rfl, Nat.le_of_ble_eq_true rfl⟩) ⟨PR.blind, PR.of hPc hKc hG hS hA [.int p3, .int 100, .int 400]⟩ rfl rfl hl.1 rfl (lv_room (Nat.le_of_ble_eq_true rfl)) dX8_mould_29 ⟨Nat.le_of_ble_eq_true rfl, Nat.le_of_ble_eq_true rfl⟩) hS (fun q h9 h => zN.not h9 h) (fun q h => hA q (Nat.le_trans hS.1 h)) (fun q h9 h => zN.not h9 h) (fun E ce q9 ux t_19 H_16 locs ht hvm px_20 hE hz1 hk1 hS hq9 hv9 hcl9 => ?_) (fun u t_19 H_16 locs ht hvm hw_18 hB hz1 hk1 hS => ?_)
  · exact vx_out (fun x9 h9 => (htab x9 h9).elim) hlocks hq9 hv9 hcl9 (fun t2 ht2 hal2 => zX.same (fun h9 => px_20 h9.2.2.2.1) hE hS ht2) hS.2.2 (Nat.le_of_ble_eq_true rfl) (Nat.le_of_ble_eq_true rfl)
  have hP := hP.grown hk1
  refine W.widen (k := 4) (n := 24) (Nat.le_of_ble_eq_true rfl) (Nat.le_of_ble_eq_true rfl) ?_
  refine lv_iload hx hb dX8_mould_32 (lv_at hl 5 rfl) ?_
  refine lv_bipush (v := 100) hx hb dX8_mould_34 (by decide) ?_
  refine lv_sipush (v := 400) hx hb dX8_mould_36 (by decide) ?_
  have hPc := hP.sub (ws' := []) [] rfl
  have hKc := hK.sub (tys' := []) [] rfl
  refine vx_callv (vx_runS (As := [.int p4, .int 100, .int 400]) (rest := []) ⟨hx, hb, hml, hown, hts⟩ (k_X8_checkRange l hfl G z p4 100 400 H_16.size ) (va_cwS 3 hts (lw_goodApp (lw_3 q308 q309 q1) q310) rfl rfl rfl (by decide +kernel) ⟨Nat.le_of_ble_eq_true rfl, Nat.le_of_ble_eq_true rfl⟩) ⟨PR.blind, PR.of hPc hKc hG hS hA [.int p4, .int 100, .int 400]⟩ rfl rfl hl.1 rfl (lv_room (Nat.le_of_ble_eq_true rfl)) dX8_mould_39 ⟨Nat.le_of_ble_eq_true rfl, Nat.le_of_ble_eq_true rfl⟩) hS (fun q h9 h => zN.not h9 h) (fun q h => hA q (Nat.le_trans hS.1 h)) (fun q h9 h => zN.not h9 h) (fun E ce q9 ux t_24 H_21 locs ht hvm px_25 hE hz1 hk1 hS hq9 hv9 hcl9 => ?_) (fun u t_24 H_21 locs ht hvm hw_23 hB hz1 hk1 hS => ?_)
  · exact vx_out (fun x9 h9 => (htab x9 h9).elim) hlocks hq9 hv9 hcl9 (fun t2 ht2 hal2 => zX.same (fun h9 => px_25 h9.2.2.2.2.1) hE hS ht2) hS.2.2 (Nat.le_of_ble_eq_true rfl) (Nat.le_of_ble_eq_true rfl)
  have hP := hP.grown hk1
  refine W.widen (k := 5) (n := 30) (Nat.le_of_ble_eq_true rfl) (Nat.le_of_ble_eq_true rfl) ?_
  refine lv_iload hx hb dX8_mould_42 (lv_at hl 6 rfl) ?_
  refine lv_bipush (v := 100) hx hb dX8_mould_44 (by decide) ?_
  refine lv_sipush (v := 400) hx hb dX8_mould_46 (by decide) ?_
  have hPc := hP.sub (ws' := []) [] rfl
  have hKc := hK.sub (tys' := []) [] rfl
  refine vx_callv (vx_runS (As := [.int p5, .int 100, .int 400]) (rest := []) ⟨hx, hb, hml, hown, hts⟩ (k_X8_checkRange l hfl G z p5 100 400 H_21.size ) (va_cwS 3 hts (lw_goodApp (lw_3 q308 q309 q1) q310) rfl rfl rfl (by decide +kernel) ⟨Nat.le_of_ble_eq_true rfl, Nat.le_of_ble_eq_true rfl⟩) ⟨PR.blind, PR.of hPc hKc hG hS hA [.int p5, .int 100, .int 400]⟩ rfl rfl hl.1 rfl (lv_room (Nat.le_of_ble_eq_true rfl)) dX8_mould_49 ⟨Nat.le_of_ble_eq_true rfl, Nat.le_of_ble_eq_true rfl⟩) hS (fun q h9 h => zN.not h9 h) (fun q h => hA q (Nat.le_trans hS.1 h)) (fun q h9 h => zN.not h9 h) (fun E ce q9 ux t_29 H_26 locs ht hvm px_30 hE hz1 hk1 hS hq9 hv9 hcl9 => ?_) (fun u t_29 H_26 locs ht hvm hw_28 hB hz1 hk1 hS => ?_)
  · exact vx_out (fun x9 h9 => (htab x9 h9).elim) hlocks hq9 hv9 hcl9 (fun t2 ht2 hal2 => zX.same (fun h9 => px_30 h9.2.2.2.2.2) hE hS ht2) hS.2.2 (Nat.le_of_ble_eq_true rfl) (Nat.le_of_ble_eq_true rfl)
  have hP := hP.grown hk1
  refine W.widen (k := 6) (n := 36) (Nat.le_of_ble_eq_true rfl) (Nat.le_of_ble_eq_true rfl) ?_
  refine lv_aload_n hx hb dX8_mould_52 rfl (lv_at hl 0 rfl) ?_
  refine va_get (D := G) (ci := 12) (v := .ref a1) (C := RX8) (T := TX8) (N := 10) hx hb hg in_X8 hown hK hP 0 rfl rfl 0 (by decide) (hg _ q125) (fun _ h9 => h9) rfl dX8_mould_53 ?_
  have hPc := hP.sub (ws' := [(a1, .inr (3, [.int c0, .ref z, .int 0]))]) [1] rfl
  have hKc := hK.sub (tys' := []) [] rfl
  refine va_calli (va_runV (As := []) (rest := []) ⟨hx, hb, hml, hown, hts⟩ (k_Jx4a65c_size_8abf5 l G z a1 c0 z 0 H_26.size ) (cwV 0 hts (lw_goodApp (lw_4 q160 q161 q162 q4) q163) rfl rfl rfl (by decide +kernel) ⟨Nat.le_of_ble_eq_true rfl, Nat.le_of_ble_eq_true rfl⟩) ⟨PR.blind, va_recv hK hP (ci := 3) (q0 := 1) rfl rfl, PR.of hPc hKc hG hS hA [.ref a1]⟩ rfl rfl hl.1 rfl (lv_room (Nat.le_of_ble_eq_true rfl)) dX8_mould_56 ⟨Nat.le_of_ble_eq_true rfl, Nat.le_of_ble_eq_true rfl⟩) hS (fun q h9 h => zN.not h9 h) (fun q h => hA q (Nat.le_trans hS.1 h)) (fun r_32 u t_34 H_31 locs ht hvm hw_33 hB hz1 hk1 hS => ?_)
  have hP := hP.grown hk1
  refine W.widen (k := 6) (n := 36) (Nat.le_of_ble_eq_true rfl) (Nat.le_of_ble_eq_true rfl) ?_
  obtain rfl : 0 = r_32 := hw_33.symm
  refine lv_iconst (v := 1) hx hb dX8_mould_59 (by decide) ?_
  refine lv_iadd hx hb dX8_mould_60 ?_
  refine lv_topi (fun f_35 ef_35 => ?_)
  obtain rfl : f_35 = 1 := ef_35.trans (by decide)
  refine lv_bipush (v := 12) hx hb dX8_mould_61 (by decide) ?_
  have hPc := hP.sub (ws' := []) [] rfl
  have hKc := hK.sub (tys' := []) [] rfl
  refine vx_callv (vx_runS (As := [.int 1, .int 12]) (rest := []) ⟨hx, hb, hml, hown, hts⟩ (k_X8_checkRoom l hfl G z 1 12 H_31.size ) (va_cwS 2 hts (lw_goodApp (lw_3 q383 q384 q1) q385) rfl rfl rfl (by decide +kernel) ⟨Nat.le_of_ble_eq_true rfl, Nat.le_of_ble_eq_true rfl⟩) ⟨PR.blind, PR.of hPc hKc hG hS hA [.int 1, .int 12]⟩ rfl rfl hl.1 rfl (lv_room (Nat.le_of_ble_eq_true rfl)) dX8_mould_63 ⟨Nat.le_of_ble_eq_true rfl, Nat.le_of_ble_eq_true rfl⟩) hS (fun q h9 h => zN.not h9 h) (fun q h => hA q (Nat.le_trans hS.1 h)) (fun q h9 h => zN.not h9 h) (fun E ce q9 ux t_39 H_36 locs ht hvm px_40 hE hz1 hk1 hS hq9 hv9 hcl9 => ?_) (fun u t_39 H_36 locs ht hvm hw_38 hB hz1 hk1 hS => ?_)
  · exact absurd (by decide) px_40
  have hP := hP.grown hk1
  refine W.widen (k := 7) (n := 42) (Nat.le_of_ble_eq_true rfl) (Nat.le_of_ble_eq_true rfl) ?_
  refine lv_aload_n hx hb dX8_mould_66 rfl (lv_at hl 0 rfl) ?_
  refine va_get (D := G) (ci := 12) (v := .ref a1) (C := RX8) (T := TX8) (N := 10) hx hb hg in_X8 hown hK hP 0 rfl rfl 0 (by decide) (hg _ q125) (fun _ h9 => h9) rfl dX8_mould_67 ?_
  refine va_new (ci := 8) (fs := [.int 0, .int 0, .null, .null, .null, .null, .int 0, .int 0, .int 0, .int 0, .null]) (C := RX4) (T := TX4) (N := 11) hx hb hg in_X4 tyX4 tyX4_ok hown (hg _ q278) (hg _ q402) (hg _ q13) hK hP hD hS hA rfl (fun j hj => by rcases (show j = 0 ∨ j = 1 ∨ j = 2 ∨ j = 3 ∨ j = 4 ∨ j = 5 ∨ j = 6 ∨ j = 7 ∨ j = 8 ∨ j = 9 ∨ j = 10 by omega) with rfl | rfl | rfl | rfl | rfl | rfl | rfl | rfl | rfl | rfl | rfl <;> rfl) (Nat.le_of_ble_eq_true rfl) (Nat.le_of_ble_eq_true rfl) dX8_mould_70 (fun o_41 H_42 hP hD hS => ?_)
  have hP : va_P G vwCl ([(h0, .inr (12, [.ref a1, .ref a2, .ref a3, .ref a4, .ref a5, .ref a6, .ref a7, .ref a8, .int tol, .int sal])), (a1, .inr (3, [.int c0, .ref z, .int 0])), (o_41, .inr (8, [.int 0, .int 0, .null, .null, .null, .null, .int 0, .int 0, .int 0, .int 0, .null]))]) H_42 := hP
  have hD : va_D A ([(h0, .inr (12, [.ref a1, .ref a2, .ref a3, .ref a4, .ref a5, .ref a6, .ref a7, .ref a8, .int tol, .int sal])), (a1, .inr (3, [.int c0, .ref z, .int 0])), (o_41, .inr (8, [.int 0, .int 0, .null, .null, .null, .null, .int 0, .int 0, .int 0, .int 0, .null]))]) := hD
  refine W.widen (k := 8) (n := 53) (Nat.le_of_ble_eq_true rfl) (Nat.le_of_ble_eq_true rfl) ?_
  refine lv_dup hx hb dX8_mould_73 rfl ?_
  refine lv_iload_n hx hb dX8_mould_74 rfl (lv_at hl 1 rfl) ?_
  refine lv_iload_n hx hb dX8_mould_75 rfl (lv_at hl 2 rfl) ?_
  refine lv_iconst (v := 4) hx hb dX8_mould_76 (by decide) ?_
  refine va_newa (atype := .int) (ty := .int) (a0 := (4, .inl (fun _ => 0))) (N' := 4) hx hb (hg _ q94) rfl hK hP hD hS hA (fun _ => rfl) (by decide) (by decide +kernel) (Nat.le_of_ble_eq_true rfl) (Nat.le_of_ble_eq_true rfl) (Nat.le_of_ble_eq_true rfl) dX8_mould_77 (fun o_44 cy_43 H_45 hK hP hD hS => ?_)
  have hP : va_P G vwCl ([(h0, .inr (12, [.ref a1, .ref a2, .ref a3, .ref a4, .ref a5, .ref a6, .ref a7, .ref a8, .int tol, .int sal])), (a1, .inr (3, [.int c0, .ref z, .int 0])), (o_41, .inr (8, [.int 0, .int 0, .null, .null, .null, .null, .int 0, .int 0, .int 0, .int 0, .null])), (o_44, .inl (cy_43, 4, .inl (fun _ => 0)))]) H_45 := hP
  have hD : va_D A ([(h0, .inr (12, [.ref a1, .ref a2, .ref a3, .ref a4, .ref a5, .ref a6, .ref a7, .ref a8, .int tol, .int sal])), (a1, .inr (3, [.int c0, .ref z, .int 0])), (o_41, .inr (8, [.int 0, .int 0, .null, .null, .null, .null, .int 0, .int 0, .int 0, .int 0, .null])), (o_44, .inl (cy_43, 4, .inl (fun _ => 0)))]) := hD
  have hK : va_K G vwCl [(cy_43, .int)] s := hK
  refine W.widen (k := 9) (n := 57) (Nat.le_of_ble_eq_true rfl) (Nat.le_of_ble_eq_true rfl) ?_
  refine lv_dup hx hb dX8_mould_79 rfl ?_
  refine lv_iconst (v := 0) hx hb dX8_mould_80 (by decide) ?_
  refine lv_iload_n hx hb dX8_mould_81 rfl (lv_at hl 3 rfl) ?_
  refine va_iast hx hb hK hP hD hS 3 0 rfl rfl (by unfold vp_in; decide +kernel) dX8_mould_82 (fun H_46 locs hP hD hS => ?_)
  have hP : va_P G vwCl ([(h0, .inr (12, [.ref a1, .ref a2, .ref a3, .ref a4, .ref a5, .ref a6, .ref a7, .ref a8, .int tol, .int sal])), (a1, .inr (3, [.int c0, .ref z, .int 0])), (o_41, .inr (8, [.int 0, .int 0, .null, .null, .null, .null, .int 0, .int 0, .int 0, .int 0, .null])), (o_44, .inl (cy_43, 4, .inl (upd (fun _ => 0) (0 : Int32).toNatClampNeg (p2))))]) H_46 := hP
  have hD : va_D A ([(h0, .inr (12, [.ref a1, .ref a2, .ref a3, .ref a4, .ref a5, .ref a6, .ref a7, .ref a8, .int tol, .int sal])), (a1, .inr (3, [.int c0, .ref z, .int 0])), (o_41, .inr (8, [.int 0, .int 0, .null, .null, .null, .null, .int 0, .int 0, .int 0, .int 0, .null])), (o_44, .inl (cy_43, 4, .inl (upd (fun _ => 0) (0 : Int32).toNatClampNeg (p2))))]) := hD
  refine lv_dup hx hb dX8_mould_83 rfl ?_
  refine lv_iconst (v := 1) hx hb dX8_mould_84 (by decide) ?_
  refine lv_iload hx hb dX8_mould_85 (lv_at hl 4 rfl) ?_
  refine va_iast hx hb hK hP hD hS 3 0 rfl rfl (by unfold vp_in; decide +kernel) dX8_mould_87 (fun H_47 locs hP hD hS => ?_)
  have hP : va_P G vwCl ([(h0, .inr (12, [.ref a1, .ref a2, .ref a3, .ref a4, .ref a5, .ref a6, .ref a7, .ref a8, .int tol, .int sal])), (a1, .inr (3, [.int c0, .ref z, .int 0])), (o_41, .inr (8, [.int 0, .int 0, .null, .null, .null, .null, .int 0, .int 0, .int 0, .int 0, .null])), (o_44, .inl (cy_43, 4, .inl (upd (upd (fun _ => 0) (0 : Int32).toNatClampNeg (p2)) (1 : Int32).toNatClampNeg (p3))))]) H_47 := hP
  have hD : va_D A ([(h0, .inr (12, [.ref a1, .ref a2, .ref a3, .ref a4, .ref a5, .ref a6, .ref a7, .ref a8, .int tol, .int sal])), (a1, .inr (3, [.int c0, .ref z, .int 0])), (o_41, .inr (8, [.int 0, .int 0, .null, .null, .null, .null, .int 0, .int 0, .int 0, .int 0, .null])), (o_44, .inl (cy_43, 4, .inl (upd (upd (fun _ => 0) (0 : Int32).toNatClampNeg (p2)) (1 : Int32).toNatClampNeg (p3))))]) := hD
  refine lv_dup hx hb dX8_mould_88 rfl ?_
  refine lv_iconst (v := 2) hx hb dX8_mould_89 (by decide) ?_
  refine lv_iload hx hb dX8_mould_90 (lv_at hl 5 rfl) ?_
  refine va_iast hx hb hK hP hD hS 3 0 rfl rfl (by unfold vp_in; decide +kernel) dX8_mould_92 (fun H_48 locs hP hD hS => ?_)
  have hP : va_P G vwCl ([(h0, .inr (12, [.ref a1, .ref a2, .ref a3, .ref a4, .ref a5, .ref a6, .ref a7, .ref a8, .int tol, .int sal])), (a1, .inr (3, [.int c0, .ref z, .int 0])), (o_41, .inr (8, [.int 0, .int 0, .null, .null, .null, .null, .int 0, .int 0, .int 0, .int 0, .null])), (o_44, .inl (cy_43, 4, .inl (upd (upd (upd (fun _ => 0) (0 : Int32).toNatClampNeg (p2)) (1 : Int32).toNatClampNeg (p3)) (2 : Int32).toNatClampNeg (p4))))]) H_48 := hP
  have hD : va_D A ([(h0, .inr (12, [.ref a1, .ref a2, .ref a3, .ref a4, .ref a5, .ref a6, .ref a7, .ref a8, .int tol, .int sal])), (a1, .inr (3, [.int c0, .ref z, .int 0])), (o_41, .inr (8, [.int 0, .int 0, .null, .null, .null, .null, .int 0, .int 0, .int 0, .int 0, .null])), (o_44, .inl (cy_43, 4, .inl (upd (upd (upd (fun _ => 0) (0 : Int32).toNatClampNeg (p2)) (1 : Int32).toNatClampNeg (p3)) (2 : Int32).toNatClampNeg (p4))))]) := hD
  refine lv_dup hx hb dX8_mould_93 rfl ?_
  refine lv_iconst (v := 3) hx hb dX8_mould_94 (by decide) ?_
  refine lv_iload hx hb dX8_mould_95 (lv_at hl 6 rfl) ?_
  refine va_iast hx hb hK hP hD hS 3 0 rfl rfl (by unfold vp_in; decide +kernel) dX8_mould_97 (fun H_49 locs hP hD hS => ?_)
  have hP : va_P G vwCl ([(h0, .inr (12, [.ref a1, .ref a2, .ref a3, .ref a4, .ref a5, .ref a6, .ref a7, .ref a8, .int tol, .int sal])), (a1, .inr (3, [.int c0, .ref z, .int 0])), (o_41, .inr (8, [.int 0, .int 0, .null, .null, .null, .null, .int 0, .int 0, .int 0, .int 0, .null])), (o_44, .inl (cy_43, 4, .inl (upd (upd (upd (upd (fun _ => 0) (0 : Int32).toNatClampNeg (p2)) (1 : Int32).toNatClampNeg (p3)) (2 : Int32).toNatClampNeg (p4)) (3 : Int32).toNatClampNeg (p5))))]) H_49 := hP
  have hD : va_D A ([(h0, .inr (12, [.ref a1, .ref a2, .ref a3, .ref a4, .ref a5, .ref a6, .ref a7, .ref a8, .int tol, .int sal])), (a1, .inr (3, [.int c0, .ref z, .int 0])), (o_41, .inr (8, [.int 0, .int 0, .null, .null, .null, .null, .int 0, .int 0, .int 0, .int 0, .null])), (o_44, .inl (cy_43, 4, .inl (upd (upd (upd (upd (fun _ => 0) (0 : Int32).toNatClampNeg (p2)) (1 : Int32).toNatClampNeg (p3)) (2 : Int32).toNatClampNeg (p4)) (3 : Int32).toNatClampNeg (p5))))]) := hD
  have hPc := hP.sub (ws' := [(o_41, .inr (8, [.int 0, .int 0, .null, .null, .null, .null, .int 0, .int 0, .int 0, .int 0, .null]))]) [2] rfl
  have hKc := hK.sub (tys' := []) [] rfl
  have hDc := hD.sub (ws' := [(o_41, .inr (8, [.int 0, .int 0, .null, .null, .null, .null, .int 0, .int 0, .int 0, .int 0, .null]))]) [2] (by decide) rfl
  have hFc := va_free (wc := [(o_41, .inr (8, [.int 0, .int 0, .null, .null, .null, .null, .int 0, .int 0, .int 0, .int 0, .null]))]) hD hS hA [2] rfl
  refine va_callv (va_runI (As := [.int p0, .int p1, .ref o_44]) (rest := [.ref o_41, .ref a1]) ⟨hx, hb, hml, hown, hts⟩ (k_X4_init l G z o_41 p0 p1 o_44 H_49.size ) (cwI 3 hts (lw_goodAll q405) rfl rfl rfl (hg _ q13) (hg _ q403) (hg _ q404) rfl (by decide +kernel) ⟨Nat.le_of_ble_eq_true rfl, Nat.le_of_ble_eq_true rfl⟩) ⟨PW.blind, PW.of hPc hKc hDc hG hS hFc [.ref o_41, .int p0, .int p1, .ref o_44]⟩ rfl rfl hl.1 rfl (lv_room (Nat.le_of_ble_eq_true rfl)) dX8_mould_98 ⟨Nat.le_of_ble_eq_true rfl, Nat.le_of_ble_eq_true rfl⟩) hS (fun q _ h => hFc q h) hFc (fun u t_53 H_50 locs ht hvm hw_52 hB hz1 hk1 hS => ?_)
  obtain ⟨fsx_54, hB⟩ := hB
  obtain ⟨hP, hD, hK⟩ := QW.join (wr := [(h0, .inr (12, [.ref a1, .ref a2, .ref a3, .ref a4, .ref a5, .ref a6, .ref a7, .ref a8, .int tol, .int sal])), (a1, .inr (3, [.int c0, .ref z, .int 0])), (o_44, .inl (cy_43, 4, .inl (upd (upd (upd (upd (fun _ => 0) (0 : Int32).toNatClampNeg (p2)) (1 : Int32).toNatClampNeg (p3)) (2 : Int32).toNatClampNeg (p4)) (3 : Int32).toNatClampNeg (p5))))]) (w1 := [(o_41, .inr (8, fsx_54))]) hP hD hK [2] [0, 1, 3] rfl rfl (by decide) (by decide) hk1 hFc ht hvm hB
  have hP : va_P G vwCl ([(h0, .inr (12, [.ref a1, .ref a2, .ref a3, .ref a4, .ref a5, .ref a6, .ref a7, .ref a8, .int tol, .int sal])), (a1, .inr (3, [.int c0, .ref z, .int 0])), (o_44, .inl (cy_43, 4, .inl (upd (upd (upd (upd (fun _ => 0) (0 : Int32).toNatClampNeg (p2)) (1 : Int32).toNatClampNeg (p3)) (2 : Int32).toNatClampNeg (p4)) (3 : Int32).toNatClampNeg (p5)))), (o_41, .inr (8, fsx_54))]) H_50 := hP
  have hD : va_D A ([(h0, .inr (12, [.ref a1, .ref a2, .ref a3, .ref a4, .ref a5, .ref a6, .ref a7, .ref a8, .int tol, .int sal])), (a1, .inr (3, [.int c0, .ref z, .int 0])), (o_44, .inl (cy_43, 4, .inl (upd (upd (upd (upd (fun _ => 0) (0 : Int32).toNatClampNeg (p2)) (1 : Int32).toNatClampNeg (p3)) (2 : Int32).toNatClampNeg (p4)) (3 : Int32).toNatClampNeg (p5)))), (o_41, .inr (8, fsx_54))]) := hD
  have hK : va_K G vwCl [(cy_43, .int)] s := hK
  refine W.widen (k := 12) (n := 105) (Nat.le_of_ble_eq_true rfl) (Nat.le_of_ble_eq_true rfl) ?_
  have hPc := hP.sub (ws' := [(a1, .inr (3, [.int c0, .ref z, .int 0])), (o_41, .inr (8, fsx_54))]) [1, 3] rfl
  have hKc := hK.sub (tys' := []) [] rfl
  have hDc := hD.sub (ws' := [(a1, .inr (3, [.int c0, .ref z, .int 0])), (o_41, .inr (8, fsx_54))]) [1, 3] (by decide) rfl
  have hFc := va_free (wc := [(a1, .inr (3, [.int c0, .ref z, .int 0])), (o_41, .inr (8, fsx_54))]) hD hS hA [1, 3] rfl
  refine va_calli (va_runV (As := [.ref o_41]) (rest := []) ⟨hx, hb, hml, hown, hts⟩ (k_Jx4a65c_add_9ea2d l G z a1 c0 o_41 8 ((RX4, TX4, 11)) fsx_54 H_50.size rfl qf1752) (cwV 1 hts (lw_goodApp (lw_4 q448 q449 q450 q4) q451) rfl rfl rfl (by decide +kernel) ⟨Nat.le_of_ble_eq_true rfl, Nat.le_of_ble_eq_true rfl⟩) ⟨PW.blind, va_recv hK hP (ci := 3) (q0 := 1) rfl rfl, PW.of hPc hKc hDc hG hS hFc [.ref a1, .ref o_41]⟩ rfl rfl hl.1 rfl (lv_room (Nat.le_of_ble_eq_true rfl)) dX8_mould_101 ⟨Nat.le_of_ble_eq_true rfl, Nat.le_of_ble_eq_true rfl⟩) hS (fun q _ h => hFc q h) hFc (fun r_56 u t_58 H_55 locs ht hvm hw_57 hB hz1 hk1 hS => ?_)
  obtain ⟨c1_59, qa_60, hB⟩ := hB
  obtain ⟨hP, hD, hK⟩ := QW.join (wr := [(h0, .inr (12, [.ref a1, .ref a2, .ref a3, .ref a4, .ref a5, .ref a6, .ref a7, .ref a8, .int tol, .int sal])), (o_44, .inl (cy_43, 4, .inl (upd (upd (upd (upd (fun _ => 0) (0 : Int32).toNatClampNeg (p2)) (1 : Int32).toNatClampNeg (p3)) (2 : Int32).toNatClampNeg (p4)) (3 : Int32).toNatClampNeg (p5))))]) (w1 := [(a1, .inr (3, [.int c1_59, .ref qa_60, .int 1])), (o_41, .inr (8, fsx_54))]) hP hD hK [1, 3] [0, 2] rfl rfl (by decide) (by decide) hk1 hFc ht hvm hB
  have hP : va_P G vwCl ([(h0, .inr (12, [.ref a1, .ref a2, .ref a3, .ref a4, .ref a5, .ref a6, .ref a7, .ref a8, .int tol, .int sal])), (o_44, .inl (cy_43, 4, .inl (upd (upd (upd (upd (fun _ => 0) (0 : Int32).toNatClampNeg (p2)) (1 : Int32).toNatClampNeg (p3)) (2 : Int32).toNatClampNeg (p4)) (3 : Int32).toNatClampNeg (p5)))), (a1, .inr (3, [.int c1_59, .ref qa_60, .int 1])), (o_41, .inr (8, fsx_54))]) H_55 := hP
  have hD : va_D A ([(h0, .inr (12, [.ref a1, .ref a2, .ref a3, .ref a4, .ref a5, .ref a6, .ref a7, .ref a8, .int tol, .int sal])), (o_44, .inl (cy_43, 4, .inl (upd (upd (upd (upd (fun _ => 0) (0 : Int32).toNatClampNeg (p2)) (1 : Int32).toNatClampNeg (p3)) (2 : Int32).toNatClampNeg (p4)) (3 : Int32).toNatClampNeg (p5)))), (a1, .inr (3, [.int c1_59, .ref qa_60, .int 1])), (o_41, .inr (8, fsx_54))]) := hD
  have hK : va_K G vwCl [(cy_43, .int)] s := hK
  refine W.widen (k := 13) (n := 115) (Nat.le_of_ble_eq_true rfl) (Nat.le_of_ble_eq_true rfl) ?_
  obtain rfl : 1 = r_56 := hw_57.symm
  refine lv_pop hx hb dX8_mould_104 rfl ?_
  refine lv_aload_n hx hb dX8_mould_105 rfl (lv_at hl 0 rfl) ?_
  refine va_get (D := G) (ci := 12) (v := .ref a1) (C := RX8) (T := TX8) (N := 10) hx hb hg in_X8 hown hK hP 0 rfl rfl 0 (by decide) (hg _ q125) (fun _ h9 => h9) rfl dX8_mould_106 ?_
  have hPc := hP.sub (ws' := [(a1, .inr (3, [.int c1_59, .ref qa_60, .int 1]))]) [2] rfl
  have hKc := hK.sub (tys' := []) [] rfl
  refine va_calli (va_runV (As := []) (rest := []) ⟨hx, hb, hml, hown, hts⟩ (k_Jx4a65c_size_8abf5 l G z a1 c1_59 qa_60 1 H_55.size ) (cwV 0 hts (lw_goodApp (lw_4 q160 q161 q162 q4) q163) rfl rfl rfl (by decide +kernel) ⟨Nat.le_of_ble_eq_true rfl, Nat.le_of_ble_eq_true rfl⟩) ⟨PR.blind, va_recv hK hP (ci := 3) (q0 := 2) rfl rfl, PR.of hPc hKc hG hS hA [.ref a1]⟩ rfl rfl hl.1 rfl (lv_room (Nat.le_of_ble_eq_true rfl)) dX8_mould_109 ⟨Nat.le_of_ble_eq_true rfl, Nat.le_of_ble_eq_true rfl⟩) hS (fun q h9 h => zN.not h9 h) (fun q h => hA q (Nat.le_trans hS.1 h)) (fun r_62 u t_64 H_61 locs ht hvm hw_63 hB hz1 hk1 hS => ?_)
  have hP := hP.grown hk1
  refine W.widen (k := 13) (n := 115) (Nat.le_of_ble_eq_true rfl) (Nat.le_of_ble_eq_true rfl) ?_
  obtain rfl : 1 = r_62 := hw_63.symm
  refine lv_iconst (v := 1) hx hb dX8_mould_112 (by decide) ?_
  refine lv_isub hx hb dX8_mould_113 ?_
  refine lv_topi (fun f_65 ef_65 => ?_)
  obtain rfl : f_65 = 0 := ef_65.trans (by decide)
  refine W.widen (k := 13) (n := 115) (Nat.le_of_ble_eq_true rfl) (Nat.le_of_ble_eq_true rfl) ?_
  refine vx_ret ?_
  have hP9 := hP.sub (ws' := []) [] rfl
  have hD9 := hD.sub (ws' := []) [] (by decide) rfl
  have hK9 := hK.sub (tys' := []) [] rfl
  exact W.iret (v := 0) hx hb hr (fun t ht hW => ⟨⟨0, (), rfl, ⟨rfl, hw_3, hw_8, hw_13, hw_18, hw_23, hw_28⟩, QW.of hP9 hK9 hD9 ht hW.alike⟩, hS.F ht⟩) hS.2.2 dX8_mould_114

abbrev wz_X8_ream : List Cond := .code yX8_ream cX8_ream 2 (Option.some Jvm.ClassFile.FieldType.int) :: lw_good
set_option maxHeartbeats 4000000 in
set_option maxRecDepth 100000 in
/-- ream: the first one -/
theorem k_X8_ream (l : Launch) (hfl : l.stackTraces = false) (G : va_G) (z : Nat) (h0 : Nat) (a1 : Nat) (a2 : Nat) (a3 : Nat) (a4 : Nat) (a5 : Nat) (a6 : Nat) (a7 : Nat) (a8 : Nat) (tol : Int32) (sal : Int32) (c0 : Int32) (p0 : Int32) (sz : Nat)  : vx_Met l yX8_ream wz_X8_ream ({ frames := 7, cells := 5, slots := 1025, locals := 104 }) (va_Pc [.ref h0, .int p0] (PW G z [(h0, .inr (12, [.ref a1, .ref a2, .ref a3, .ref a4, .ref a5, .ref a6, .ref a7, .ref a8, .int tol, .int sal])), (a3, .inr (3, [.int c0, .ref z, .int 0]))] [] sz)) (va_Qi (fun (r : Int32) (_ : Unit) => r = 0 ∧ okR p0) (fun (_ : Unit) (t : State) => QW G [] [] (va_A [(h0, .inr (12, [.ref a1, .ref a2, .ref a3, .ref a4, .ref a5, .ref a6, .ref a7, .ref a8, .int tol, .int sal])), (a3, .inr (3, [.int c0, .ref z, .int 0]))] sz) t) (va_A [(h0, .inr (12, [.ref a1, .ref a2, .ref a3, .ref a4, .ref a5, .ref a6, .ref a7, .ref a8, .int tol, .int sal])), (a3, .inr (3, [.int c0, .ref z, .int 0]))] sz)) (zX (¬ okR p0) "java/lang/IllegalArgumentException" (va_A [(h0, .inr (12, [.ref a1, .ref a2, .ref a3, .ref a4, .ref a5, .ref a6, .ref a7, .ref a8, .int tol, .int sal])), (a3, .inr (3, [.int c0, .ref z, .int 0]))] sz)) 5 1025 (va_A [(h0, .inr (12, [.ref a1, .ref a2, .ref a3, .ref a4, .ref a5, .ref a6, .ref a7, .ref a8, .int tol, .int sal])), (a3, .inr (3, [.int c0, .ref z, .int 0]))] sz) := by
  refine vx_ofW (cc := cX8_ream) (maxL := 2) (ret := (Option.some Jvm.ClassFile.FieldType.int)) (by decide) rfl ?_
  intro p e s m args below meth c s₁ B hml htab hv
  obtain ⟨rfl, rfl, hP, hK, hD0, hG⟩ := hv
  have hx := B.exec
  have hb := B.bytes
  have hr := B.returns
  have hts := atoms_spec (ws := wz_X8_ream) B.pre
  have hg : ∀ w ∈ lw_good, w.before _ s = true := fun w h => hts w (List.mem_cons_of_mem _ h)
  have hown : s.vm.findClass RX8 = some m.cls := findClass_of_methodNamed B.named
  have hlocks := B.notSynchronized
  have hD := hD0.self (sz := s.heap.size)
  generalize hAe : va_A [(h0, .inr (12, [.ref a1, .ref a2, .ref a3, .ref a4, .ref a5, .ref a6, .ref a7, .ref a8, .int tol, .int sal])), (a3, .inr (3, [.int c0, .ref z, .int 0]))] s.heap.size = A at hD hG ⊢
  have hA : ∀ q : Nat, s.heap.size ≤ q → A q := fun q h => by rw [← hAe]; exact Or.inr h
  have hS : va_S A s.heap s.heap [] := va_S.rf
  have hl := lv_entry ([.ref h0, .int p0]) (n := 2) (Nat.le_of_ble_eq_true rfl)
  rw [lg_entry_eq]
  generalize (lg_sl ([.ref h0, .int p0]) ++ List.replicate (2 - (lg_sl ([.ref h0, .int p0])).length) Slot.unset).toArray = ls at hl ⊢
  have hl : lv_has ls 2 [(0, .ref h0), (1, .int p0)] := hl
  refine lv_iload_n hx hb dX8_ream_0 rfl (lv_at hl 1 rfl) ?_
  refine lv_iconst (v := 0) hx hb dX8_ream_1 (by decide) ?_
  refine lv_iconst (v := 4) hx hb dX8_ream_2 (by decide) ?_
  have hPc := hP.sub (ws' := []) [] rfl
  have hKc := hK.sub (tys' := []) [] rfl
  refine vx_callv (vx_runS (As := [.int p0, .int 0, .int 4]) (rest := []) ⟨hx, hb, hml, hown, hts⟩ (k_X8_checkRange l hfl G z p0 0 4 s.heap.size ) (va_cwS 3 hts (lw_goodApp (lw_3 q308 q309 q1) q310) rfl rfl rfl (by decide +kernel) ⟨Nat.le_of_ble_eq_true rfl, Nat.le_of_ble_eq_true rfl⟩) ⟨PR.blind, PR.of hPc hKc hG hS hA [.int p0, .int 0, .int 4]⟩ rfl rfl hl.1 rfl (lv_room (Nat.le_of_ble_eq_true rfl)) dX8_ream_3 ⟨Nat.le_of_ble_eq_true rfl, Nat.le_of_ble_eq_true rfl⟩) hS (fun q h9 h => zN.not h9 h) (fun q h => hA q (Nat.le_trans hS.1 h)) (fun q h9 h => zN.not h9 h) (fun E ce q9 ux t_4 H_1 locs ht hvm px_5 hE hz1 hk1 hS hq9 hv9 hcl9 => ?_) (fun u t_4 H_1 locs ht hvm hw_3 hB hz1 hk1 hS => ?_)
  · exact vx_out (fun x9 h9 => (htab x9 h9).elim) hlocks hq9 hv9 hcl9 (fun t2 ht2 hal2 => zX.same px_5 hE hS ht2) hS.2.2 (Nat.le_of_ble_eq_true rfl) (Nat.le_of_ble_eq_true rfl)
  have hP := hP.grown hk1
  refine W.widen (k := 1) (n := 6) (Nat.le_of_ble_eq_true rfl) (Nat.le_of_ble_eq_true rfl) ?_
  refine lv_aload_n hx hb dX8_ream_6 rfl (lv_at hl 0 rfl) ?_
  refine va_get (D := G) (ci := 12) (v := .ref a3) (C := RX8) (T := TX8) (N := 10) hx hb hg in_X8 hown hK hP 0 rfl rfl 2 (by decide) (hg _ q127) (fun _ h9 => h9) rfl dX8_ream_7 ?_
  have hPc := hP.sub (ws' := [(a3, .inr (3, [.int c0, .ref z, .int 0]))]) [1] rfl
  have hKc := hK.sub (tys' := []) [] rfl
  refine va_calli (va_runV (As := []) (rest := []) ⟨hx, hb, hml, hown, hts⟩ (k_Jx4a65c_size_8abf5 l G z a3 c0 z 0 H_1.size ) (cwV 0 hts (lw_goodApp (lw_4 q160 q161 q162 q4) q163) rfl rfl rfl (by decide +kernel) ⟨Nat.le_of_ble_eq_true rfl, Nat.le_of_ble_eq_true rfl⟩) ⟨PR.blind, va_recv hK hP (ci := 3) (q0 := 1) rfl rfl, PR.of hPc hKc hG hS hA [.ref a3]⟩ rfl rfl hl.1 rfl (lv_room (Nat.le_of_ble_eq_true rfl)) dX8_ream_10 ⟨Nat.le_of_ble_eq_true rfl, Nat.le_of_ble_eq_true rfl⟩) hS (fun q h9 h => zN.not h9 h) (fun q h => hA q (Nat.le_trans hS.1 h)) (fun r_7 u t_9 H_6 locs ht hvm hw_8 hB hz1 hk1 hS => ?_)
  have hP := hP.grown hk1
  refine W.widen (k := 1) (n := 6) (Nat.le_of_ble_eq_true rfl) (Nat.le_of_ble_eq_true rfl) ?_
  obtain rfl : 0 = r_7 := hw_8.symm
  refine lv_iconst (v := 1) hx hb dX8_ream_13 (by decide) ?_
  refine lv_iadd hx hb dX8_ream_14 ?_
  refine lv_topi (fun f_10 ef_10 => ?_)
  obtain rfl : f_10 = 1 := ef_10.trans (by decide)
  refine lv_bipush (v := 20) hx hb dX8_ream_15 (by decide) ?_
  have hPc := hP.sub (ws' := []) [] rfl
  have hKc := hK.sub (tys' := []) [] rfl
  refine vx_callv (vx_runS (As := [.int 1, .int 20]) (rest := []) ⟨hx, hb, hml, hown, hts⟩ (k_X8_checkRoom l hfl G z 1 20 H_6.size ) (va_cwS 2 hts (lw_goodApp (lw_3 q383 q384 q1) q385) rfl rfl rfl (by decide +kernel) ⟨Nat.le_of_ble_eq_true rfl, Nat.le_of_ble_eq_true rfl⟩) ⟨PR.blind, PR.of hPc hKc hG hS hA [.int 1, .int 20]⟩ rfl rfl hl.1 rfl (lv_room (Nat.le_of_ble_eq_true rfl)) dX8_ream_17 ⟨Nat.le_of_ble_eq_true rfl, Nat.le_of_ble_eq_true rfl⟩) hS (fun q h9 h => zN.not h9 h) (fun q h => hA q (Nat.le_trans hS.1 h)) (fun q h9 h => zN.not h9 h) (fun E ce q9 ux t_14 H_11 locs ht hvm px_15 hE hz1 hk1 hS hq9 hv9 hcl9 => ?_) (fun u t_14 H_11 locs ht hvm hw_13 hB hz1 hk1 hS => ?_)
  · exact absurd (by decide) px_15
  have hP := hP.grown hk1
  refine W.widen (k := 2) (n := 12) (Nat.le_of_ble_eq_true rfl) (Nat.le_of_ble_eq_true rfl) ?_
  refine lv_aload_n hx hb dX8_ream_20 rfl (lv_at hl 0 rfl) ?_
  refine va_get (D := G) (ci := 12) (v := .ref a3) (C := RX8) (T := TX8) (N := 10) hx hb hg in_X8 hown hK hP 0 rfl rfl 2 (by decide) (hg _ q127) (fun _ h9 => h9) rfl dX8_ream_21 ?_
  refine va_new (ci := 9) (fs := [.int 0, .null, .int 0]) (C := RX5) (T := TX5) (N := 3) hx hb hg in_X5 tyX5 tyX5_ok hown (hg _ q264) (hg _ q737) (hg _ q30) hK hP hD hS hA rfl (fun j hj => by rcases (show j = 0 ∨ j = 1 ∨ j = 2 by omega) with rfl | rfl | rfl <;> rfl) (Nat.le_of_ble_eq_true rfl) (Nat.le_of_ble_eq_true rfl) dX8_ream_24 (fun o_16 H_17 hP hD hS => ?_)
  have hP : va_P G vwCl ([(h0, .inr (12, [.ref a1, .ref a2, .ref a3, .ref a4, .ref a5, .ref a6, .ref a7, .ref a8, .int tol, .int sal])), (a3, .inr (3, [.int c0, .ref z, .int 0])), (o_16, .inr (9, [.int 0, .null, .int 0]))]) H_17 := hP
  have hD : va_D A ([(h0, .inr (12, [.ref a1, .ref a2, .ref a3, .ref a4, .ref a5, .ref a6, .ref a7, .ref a8, .int tol, .int sal])), (a3, .inr (3, [.int c0, .ref z, .int 0])), (o_16, .inr (9, [.int 0, .null, .int 0]))]) := hD
  refine W.widen (k := 3) (n := 15) (Nat.le_of_ble_eq_true rfl) (Nat.le_of_ble_eq_true rfl) ?_
  refine lv_dup hx hb dX8_ream_27 rfl ?_
  refine lv_iload_n hx hb dX8_ream_28 rfl (lv_at hl 1 rfl) ?_
  have hPc := hP.sub (ws' := [(o_16, .inr (9, [.int 0, .null, .int 0]))]) [2] rfl
  have hKc := hK.sub (tys' := []) [] rfl
  have hDc := hD.sub (ws' := [(o_16, .inr (9, [.int 0, .null, .int 0]))]) [2] (by decide) rfl
  have hFc := va_free (wc := [(o_16, .inr (9, [.int 0, .null, .int 0]))]) hD hS hA [2] rfl
  refine va_callv (va_runI (As := [.int p0]) (rest := [.ref o_16, .ref a3]) ⟨hx, hb, hml, hown, hts⟩ (k_X5_init l G z o_16 p0 H_17.size ) (cwI 1 hts (lw_goodAll q740) rfl rfl rfl (hg _ q30) (hg _ q738) (hg _ q739) rfl (by decide +kernel) ⟨Nat.le_of_ble_eq_true rfl, Nat.le_of_ble_eq_true rfl⟩) ⟨PW.blind, PW.of hPc hKc hDc hG hS hFc [.ref o_16, .int p0]⟩ rfl rfl hl.1 rfl (lv_room (Nat.le_of_ble_eq_true rfl)) dX8_ream_29 ⟨Nat.le_of_ble_eq_true rfl, Nat.le_of_ble_eq_true rfl⟩) hS (fun q _ h => hFc q h) hFc (fun u t_21 H_18 locs ht hvm hw_20 hB hz1 hk1 hS => ?_)
  obtain ⟨fsx_22, hB⟩ := hB
  obtain ⟨hP, hD, hK⟩ := QW.join (wr := [(h0, .inr (12, [.ref a1, .ref a2, .ref a3, .ref a4, .ref a5, .ref a6, .ref a7, .ref a8, .int tol, .int sal])), (a3, .inr (3, [.int c0, .ref z, .int 0]))]) (w1 := [(o_16, .inr (9, fsx_22))]) hP hD hK [2] [0, 1] rfl rfl (by decide) (by decide) hk1 hFc ht hvm hB
  have hP : va_P G vwCl ([(h0, .inr (12, [.ref a1, .ref a2, .ref a3, .ref a4, .ref a5, .ref a6, .ref a7, .ref a8, .int tol, .int sal])), (a3, .inr (3, [.int c0, .ref z, .int 0])), (o_16, .inr (9, fsx_22))]) H_18 := hP
  have hD : va_D A ([(h0, .inr (12, [.ref a1, .ref a2, .ref a3, .ref a4, .ref a5, .ref a6, .ref a7, .ref a8, .int tol, .int sal])), (a3, .inr (3, [.int c0, .ref z, .int 0])), (o_16, .inr (9, fsx_22))]) := hD
  have hK : va_K G vwCl [] s := hK
  refine W.widen (k := 4) (n := 1015) (Nat.le_of_ble_eq_true rfl) (Nat.le_of_ble_eq_true rfl) ?_
  have hPc := hP.sub (ws' := [(a3, .inr (3, [.int c0, .ref z, .int 0])), (o_16, .inr (9, fsx_22))]) [1, 2] rfl
  have hKc := hK.sub (tys' := []) [] rfl
  have hDc := hD.sub (ws' := [(a3, .inr (3, [.int c0, .ref z, .int 0])), (o_16, .inr (9, fsx_22))]) [1, 2] (by decide) rfl
  have hFc := va_free (wc := [(a3, .inr (3, [.int c0, .ref z, .int 0])), (o_16, .inr (9, fsx_22))]) hD hS hA [1, 2] rfl
  refine va_calli (va_runV (As := [.ref o_16]) (rest := []) ⟨hx, hb, hml, hown, hts⟩ (k_Jx4a65c_add_9ea2d l G z a3 c0 o_16 9 ((RX5, TX5, 3)) fsx_22 H_18.size rfl qf1761) (cwV 1 hts (lw_goodApp (lw_4 q448 q449 q450 q4) q451) rfl rfl rfl (by decide +kernel) ⟨Nat.le_of_ble_eq_true rfl, Nat.le_of_ble_eq_true rfl⟩) ⟨PW.blind, va_recv hK hP (ci := 3) (q0 := 1) rfl rfl, PW.of hPc hKc hDc hG hS hFc [.ref a3, .ref o_16]⟩ rfl rfl hl.1 rfl (lv_room (Nat.le_of_ble_eq_true rfl)) dX8_ream_32 ⟨Nat.le_of_ble_eq_true rfl, Nat.le_of_ble_eq_true rfl⟩) hS (fun q _ h => hFc q h) hFc (fun r_24 u t_26 H_23 locs ht hvm hw_25 hB hz1 hk1 hS => ?_)
  obtain ⟨c1_27, qa_28, hB⟩ := hB
  obtain ⟨hP, hD, hK⟩ := QW.join (wr := [(h0, .inr (12, [.ref a1, .ref a2, .ref a3, .ref a4, .ref a5, .ref a6, .ref a7, .ref a8, .int tol, .int sal]))]) (w1 := [(a3, .inr (3, [.int c1_27, .ref qa_28, .int 1])), (o_16, .inr (9, fsx_22))]) hP hD hK [1, 2] [0] rfl rfl (by decide) (by decide) hk1 hFc ht hvm hB
  have hP : va_P G vwCl ([(h0, .inr (12, [.ref a1, .ref a2, .ref a3, .ref a4, .ref a5, .ref a6, .ref a7, .ref a8, .int tol, .int sal])), (a3, .inr (3, [.int c1_27, .ref qa_28, .int 1])), (o_16, .inr (9, fsx_22))]) H_23 := hP
  have hD : va_D A ([(h0, .inr (12, [.ref a1, .ref a2, .ref a3, .ref a4, .ref a5, .ref a6, .ref a7, .ref a8, .int tol, .int sal])), (a3, .inr (3, [.int c1_27, .ref qa_28, .int 1])), (o_16, .inr (9, fsx_22))]) := hD
  have hK : va_K G vwCl [] s := hK
  refine W.widen (k := 5) (n := 1025) (Nat.le_of_ble_eq_true rfl) (Nat.le_of_ble_eq_true rfl) ?_
  obtain rfl : 1 = r_24 := hw_25.symm
  refine lv_pop hx hb dX8_ream_35 rfl ?_
  refine lv_aload_n hx hb dX8_ream_36 rfl (lv_at hl 0 rfl) ?_
  refine va_get (D := G) (ci := 12) (v := .ref a3) (C := RX8) (T := TX8) (N := 10) hx hb hg in_X8 hown hK hP 0 rfl rfl 2 (by decide) (hg _ q127) (fun _ h9 => h9) rfl dX8_ream_37 ?_
  have hPc := hP.sub (ws' := [(a3, .inr (3, [.int c1_27, .ref qa_28, .int 1]))]) [1] rfl
  have hKc := hK.sub (tys' := []) [] rfl
  refine va_calli (va_runV (As := []) (rest := []) ⟨hx, hb, hml, hown, hts⟩ (k_Jx4a65c_size_8abf5 l G z a3 c1_27 qa_28 1 H_23.size ) (cwV 0 hts (lw_goodApp (lw_4 q160 q161 q162 q4) q163) rfl rfl rfl (by decide +kernel) ⟨Nat.le_of_ble_eq_true rfl, Nat.le_of_ble_eq_true rfl⟩) ⟨PR.blind, va_recv hK hP (ci := 3) (q0 := 1) rfl rfl, PR.of hPc hKc hG hS hA [.ref a3]⟩ rfl rfl hl.1 rfl (lv_room (Nat.le_of_ble_eq_true rfl)) dX8_ream_40 ⟨Nat.le_of_ble_eq_true rfl, Nat.le_of_ble_eq_true rfl⟩) hS (fun q h9 h => zN.not h9 h) (fun q h => hA q (Nat.le_trans hS.1 h)) (fun r_30 u t_32 H_29 locs ht hvm hw_31 hB hz1 hk1 hS => ?_)
  have hP := hP.grown hk1
  refine W.widen (k := 5) (n := 1025) (Nat.le_of_ble_eq_true rfl) (Nat.le_of_ble_eq_true rfl) ?_
  obtain rfl : 1 = r_30 := hw_31.symm
  refine lv_iconst (v := 1) hx hb dX8_ream_43 (by decide) ?_
  refine lv_isub hx hb dX8_ream_44 ?_
  refine lv_topi (fun f_33 ef_33 => ?_)
  obtain rfl : f_33 = 0 := ef_33.trans (by decide)
  refine W.widen (k := 5) (n := 1025) (Nat.le_of_ble_eq_true rfl) (Nat.le_of_ble_eq_true rfl) ?_
  refine vx_ret ?_
  have hP9 := hP.sub (ws' := []) [] rfl
  have hD9 := hD.sub (ws' := []) [] (by decide) rfl
  have hK9 := hK.sub (tys' := []) [] rfl
  exact W.iret (v := 0) hx hb hr (fun t ht hW => ⟨⟨0, (), rfl, ⟨rfl, hw_3⟩, QW.of hP9 hK9 hD9 ht hW.alike⟩, hS.F ht⟩) hS.2.2 dX8_ream_45

theorem z_03 {x : Int32} (h1 : 0 ≤ x) (h2 : x ≤ 3) : x = 0 ∨ x = 1 ∨ x = 2 ∨ x = 3 := by
  have a := Int32.le_iff_toInt_le.mp h1
  have b := Int32.le_iff_toInt_le.mp h2
  have e0 : (0 : Int32).toInt = 0 := rfl
  have e3 : (3 : Int32).toInt = 3 := rfl
  rw [e0] at a
  rw [e3] at b
  have k : x.toInt = 0 ∨ x.toInt = 1 ∨ x.toInt = 2 ∨ x.toInt = 3 := by omega
  rcases k with k | k | k | k
  · exact Or.inl (Int32.toInt_inj.mp (k.trans rfl))
  · exact Or.inr (Or.inl (Int32.toInt_inj.mp (k.trans rfl)))
  · exact Or.inr (Or.inr (Or.inl (Int32.toInt_inj.mp (k.trans rfl))))
  · exact Or.inr (Or.inr (Or.inr (Int32.toInt_inj.mp (k.trans rfl))))
abbrev wz_X8_document : List Cond := .code yX8_document cX8_document 3 (Option.some Jvm.ClassFile.FieldType.int) :: lw_good
set_option maxHeartbeats 4000000 in
set_option maxRecDepth 100000 in
/-- document: the first one -/
theorem k_X8_document (l : Launch) (hfl : l.stackTraces = false) (G : va_G) (z : Nat) (h0 : Nat) (a1 : Nat) (a2 : Nat) (a3 : Nat) (a4 : Nat) (a5 : Nat) (a6 : Nat) (a7 : Nat) (a8 : Nat) (tol : Int32) (sal : Int32) (c0 : Int32) (d1 : Nat) (d2 : Nat) (d3 : Nat) (d4 : Nat) (ag : Int32) (cyO : ClassId) (fS : Nat → Option Nat) (cyI : ClassId) (fR : Nat → Int32) (r0 : Nat) (p0 : Int32) (p1 : Int32) (sz : Nat) (hfS : fS 0 = some r0) : vx_Met l yX8_document wz_X8_document ({ frames := 8, cells := 8, slots := 1035, locals := 124 }) (va_Pc [.ref h0, .int p0, .int p1] (PW G z [(h0, .inr (12, [.ref a1, .ref a2, .ref a3, .ref a4, .ref a5, .ref a6, .ref a7, .ref a8, .int tol, .int sal])), (a4, .inr (3, [.int c0, .ref z, .int 0])), (a7, .inr (4, [.ref d1, .ref d2, .ref d3, .ref d4, .int 0, .int ag])), (d4, .inl (cyO, 20, .inr (.inr (.inr (.inr (fS)))))), (r0, .inl (cyI, 20, .inl (fR)))] [(cyO, .array .int), (cyI, .int)] sz)) (va_Qi (fun (r : Int32) (_ : Unit) => r = 0 ∧ okD p0 p1) (fun (_ : Unit) (t : State) => QW G [] [] (va_A [(h0, .inr (12, [.ref a1, .ref a2, .ref a3, .ref a4, .ref a5, .ref a6, .ref a7, .ref a8, .int tol, .int sal])), (a4, .inr (3, [.int c0, .ref z, .int 0])), (a7, .inr (4, [.ref d1, .ref d2, .ref d3, .ref d4, .int 0, .int ag])), (d4, .inl (cyO, 20, .inr (.inr (.inr (.inr (fS)))))), (r0, .inl (cyI, 20, .inl (fR)))] sz) t) (va_A [(h0, .inr (12, [.ref a1, .ref a2, .ref a3, .ref a4, .ref a5, .ref a6, .ref a7, .ref a8, .int tol, .int sal])), (a4, .inr (3, [.int c0, .ref z, .int 0])), (a7, .inr (4, [.ref d1, .ref d2, .ref d3, .ref d4, .int 0, .int ag])), (d4, .inl (cyO, 20, .inr (.inr (.inr (.inr (fS)))))), (r0, .inl (cyI, 20, .inl (fR)))] sz)) (zX (¬ okD p0 p1) "java/lang/IllegalArgumentException" (va_A [(h0, .inr (12, [.ref a1, .ref a2, .ref a3, .ref a4, .ref a5, .ref a6, .ref a7, .ref a8, .int tol, .int sal])), (a4, .inr (3, [.int c0, .ref z, .int 0])), (a7, .inr (4, [.ref d1, .ref d2, .ref d3, .ref d4, .int 0, .int ag])), (d4, .inl (cyO, 20, .inr (.inr (.inr (.inr (fS)))))), (r0, .inl (cyI, 20, .inl (fR)))] sz)) 8 1035 (va_A [(h0, .inr (12, [.ref a1, .ref a2, .ref a3, .ref a4, .ref a5, .ref a6, .ref a7, .ref a8, .int tol, .int sal])), (a4, .inr (3, [.int c0, .ref z, .int 0])), (a7, .inr (4, [.ref d1, .ref d2, .ref d3, .ref d4, .int 0, .int ag])), (d4, .inl (cyO, 20, .inr (.inr (.inr (.inr (fS)))))), (r0, .inl (cyI, 20, .inl (fR)))] sz) := by
  refine vx_ofW (cc := cX8_document) (maxL := 3) (ret := (Option.some Jvm.ClassFile.FieldType.int)) (by decide) rfl ?_
  intro p e s m args below meth c s₁ B hml htab hv
  obtain ⟨rfl, rfl, hP, hK, hD0, hG⟩ := hv
  have hx := B.exec
  have hb := B.bytes
  have hr := B.returns
  have hts := atoms_spec (ws := wz_X8_document) B.pre
  have hg : ∀ w ∈ lw_good, w.before _ s = true := fun w h => hts w (List.mem_cons_of_mem _ h)
  have hown : s.vm.findClass RX8 = some m.cls := findClass_of_methodNamed B.named
  have hlocks := B.notSynchronized
  have hD := hD0.self (sz := s.heap.size)
  generalize hAe : va_A [(h0, .inr (12, [.ref a1, .ref a2, .ref a3, .ref a4, .ref a5, .ref a6, .ref a7, .ref a8, .int tol, .int sal])), (a4, .inr (3, [.int c0, .ref z, .int 0])), (a7, .inr (4, [.ref d1, .ref d2, .ref d3, .ref d4, .int 0, .int ag])), (d4, .inl (cyO, 20, .inr (.inr (.inr (.inr (fS)))))), (r0, .inl (cyI, 20, .inl (fR)))] s.heap.size = A at hD hG ⊢
  have hA : ∀ q : Nat, s.heap.size ≤ q → A q := fun q h => by rw [← hAe]; exact Or.inr h
  have hS : va_S A s.heap s.heap [] := va_S.rf
  have hl := lv_entry ([.ref h0, .int p0, .int p1]) (n := 3) (Nat.le_of_ble_eq_true rfl)
  rw [lg_entry_eq]
  generalize (lg_sl ([.ref h0, .int p0, .int p1]) ++ List.replicate (3 - (lg_sl ([.ref h0, .int p0, .int p1])).length) Slot.unset).toArray = ls at hl ⊢
  have hl : lv_has ls 3 [(0, .ref h0), (1, .int p0), (2, .int p1)] := hl
  refine lv_iload_n hx hb dX8_document_0 rfl (lv_at hl 1 rfl) ?_
  have hPc := hP.sub (ws' := []) [] rfl
  have hKc := hK.sub (tys' := []) [] rfl
  refine vx_callv (vx_runS (As := [.int p0]) (rest := []) ⟨hx, hb, hml, hown, hts⟩ (k_X8_checkYear l hfl G z p0 s.heap.size ) (va_cwS 1 hts (lw_goodApp (lw_3 q595 q596 q1) q597) rfl rfl rfl (by decide +kernel) ⟨Nat.le_of_ble_eq_true rfl, Nat.le_of_ble_eq_true rfl⟩) ⟨PR.blind, PR.of hPc hKc hG hS hA [.int p0]⟩ rfl rfl hl.1 rfl (lv_room (Nat.le_of_ble_eq_true rfl)) dX8_document_1 ⟨Nat.le_of_ble_eq_true rfl, Nat.le_of_ble_eq_true rfl⟩) hS (fun q h9 h => zN.not h9 h) (fun q h => hA q (Nat.le_trans hS.1 h)) (fun q h9 h => zN.not h9 h) (fun E ce q9 ux t_4 H_1 locs ht hvm px_5 hE hz1 hk1 hS hq9 hv9 hcl9 => ?_) (fun u t_4 H_1 locs ht hvm hw_3 hB hz1 hk1 hS => ?_)
  · exact vx_out (fun x9 h9 => (htab x9 h9).elim) hlocks hq9 hv9 hcl9 (fun t2 ht2 hal2 => zX.same (fun h9 => px_5 h9.1) hE hS ht2) hS.2.2 (Nat.le_of_ble_eq_true rfl) (Nat.le_of_ble_eq_true rfl)
  have hP := hP.grown hk1
  refine W.widen (k := 1) (n := 6) (Nat.le_of_ble_eq_true rfl) (Nat.le_of_ble_eq_true rfl) ?_
  refine lv_iload_n hx hb dX8_document_4 rfl (lv_at hl 2 rfl) ?_
  refine lv_iconst (v := 0) hx hb dX8_document_5 (by decide) ?_
  refine lv_iconst (v := 3) hx hb dX8_document_6 (by decide) ?_
  have hPc := hP.sub (ws' := []) [] rfl
  have hKc := hK.sub (tys' := []) [] rfl
  refine vx_callv (vx_runS (As := [.int p1, .int 0, .int 3]) (rest := []) ⟨hx, hb, hml, hown, hts⟩ (k_X8_checkRange l hfl G z p1 0 3 H_1.size ) (va_cwS 3 hts (lw_goodApp (lw_3 q308 q309 q1) q310) rfl rfl rfl (by decide +kernel) ⟨Nat.le_of_ble_eq_true rfl, Nat.le_of_ble_eq_true rfl⟩) ⟨PR.blind, PR.of hPc hKc hG hS hA [.int p1, .int 0, .int 3]⟩ rfl rfl hl.1 rfl (lv_room (Nat.le_of_ble_eq_true rfl)) dX8_document_7 ⟨Nat.le_of_ble_eq_true rfl, Nat.le_of_ble_eq_true rfl⟩) hS (fun q h9 h => zN.not h9 h) (fun q h => hA q (Nat.le_trans hS.1 h)) (fun q h9 h => zN.not h9 h) (fun E ce q9 ux t_9 H_6 locs ht hvm px_10 hE hz1 hk1 hS hq9 hv9 hcl9 => ?_) (fun u t_9 H_6 locs ht hvm hw_8 hB hz1 hk1 hS => ?_)
  · exact vx_out (fun x9 h9 => (htab x9 h9).elim) hlocks hq9 hv9 hcl9 (fun t2 ht2 hal2 => zX.same (fun h9 => px_10 h9.2) hE hS ht2) hS.2.2 (Nat.le_of_ble_eq_true rfl) (Nat.le_of_ble_eq_true rfl)
  have hP := hP.grown hk1
  refine W.widen (k := 2) (n := 12) (Nat.le_of_ble_eq_true rfl) (Nat.le_of_ble_eq_true rfl) ?_
  refine lv_aload_n hx hb dX8_document_10 rfl (lv_at hl 0 rfl) ?_
  refine va_get (D := G) (ci := 12) (v := .ref a4) (C := RX8) (T := TX8) (N := 10) hx hb hg in_X8 hown hK hP 0 rfl rfl 3 (by decide) (hg _ q128) (fun _ h9 => h9) rfl dX8_document_11 ?_
  have hPc := hP.sub (ws' := [(a4, .inr (3, [.int c0, .ref z, .int 0]))]) [1] rfl
  have hKc := hK.sub (tys' := []) [] rfl
  refine va_calli (va_runV (As := []) (rest := []) ⟨hx, hb, hml, hown, hts⟩ (k_Jx4a65c_size_8abf5 l G z a4 c0 z 0 H_6.size ) (cwV 0 hts (lw_goodApp (lw_4 q160 q161 q162 q4) q163) rfl rfl rfl (by decide +kernel) ⟨Nat.le_of_ble_eq_true rfl, Nat.le_of_ble_eq_true rfl⟩) ⟨PR.blind, va_recv hK hP (ci := 3) (q0 := 1) rfl rfl, PR.of hPc hKc hG hS hA [.ref a4]⟩ rfl rfl hl.1 rfl (lv_room (Nat.le_of_ble_eq_true rfl)) dX8_document_14 ⟨Nat.le_of_ble_eq_true rfl, Nat.le_of_ble_eq_true rfl⟩) hS (fun q h9 h => zN.not h9 h) (fun q h => hA q (Nat.le_trans hS.1 h)) (fun r_12 u t_14 H_11 locs ht hvm hw_13 hB hz1 hk1 hS => ?_)
  have hP := hP.grown hk1
  refine W.widen (k := 2) (n := 12) (Nat.le_of_ble_eq_true rfl) (Nat.le_of_ble_eq_true rfl) ?_
  obtain rfl : 0 = r_12 := hw_13.symm
  refine lv_iconst (v := 1) hx hb dX8_document_17 (by decide) ?_
  refine lv_iadd hx hb dX8_document_18 ?_
  refine lv_topi (fun f_15 ef_15 => ?_)
  obtain rfl : f_15 = 1 := ef_15.trans (by decide)
  refine lv_bipush (v := 20) hx hb dX8_document_19 (by decide) ?_
  have hPc := hP.sub (ws' := []) [] rfl
  have hKc := hK.sub (tys' := []) [] rfl
  refine vx_callv (vx_runS (As := [.int 1, .int 20]) (rest := []) ⟨hx, hb, hml, hown, hts⟩ (k_X8_checkRoom l hfl G z 1 20 H_11.size ) (va_cwS 2 hts (lw_goodApp (lw_3 q383 q384 q1) q385) rfl rfl rfl (by decide +kernel) ⟨Nat.le_of_ble_eq_true rfl, Nat.le_of_ble_eq_true rfl⟩) ⟨PR.blind, PR.of hPc hKc hG hS hA [.int 1, .int 20]⟩ rfl rfl hl.1 rfl (lv_room (Nat.le_of_ble_eq_true rfl)) dX8_document_21 ⟨Nat.le_of_ble_eq_true rfl, Nat.le_of_ble_eq_true rfl⟩) hS (fun q h9 h => zN.not h9 h) (fun q h => hA q (Nat.le_trans hS.1 h)) (fun q h9 h => zN.not h9 h) (fun E ce q9 ux t_19 H_16 locs ht hvm px_20 hE hz1 hk1 hS hq9 hv9 hcl9 => ?_) (fun u t_19 H_16 locs ht hvm hw_18 hB hz1 hk1 hS => ?_)
  · exact absurd (by decide) px_20
  have hP := hP.grown hk1
  refine W.widen (k := 3) (n := 18) (Nat.le_of_ble_eq_true rfl) (Nat.le_of_ble_eq_true rfl) ?_
  refine lv_aload_n hx hb dX8_document_24 rfl (lv_at hl 0 rfl) ?_
  refine va_get (D := G) (ci := 12) (v := .ref a4) (C := RX8) (T := TX8) (N := 10) hx hb hg in_X8 hown hK hP 0 rfl rfl 3 (by decide) (hg _ q128) (fun _ h9 => h9) rfl dX8_document_25 ?_
  refine va_new (ci := 5) (fs := [.int 0, .int 0, .null, .null, .null, .int 0, .int 0]) (C := RX1) (T := TX1) (N := 7) hx hb hg in_X1 tyX1 tyX1_ok hown (hg _ q269) (hg _ q804) (hg _ q32) hK hP hD hS hA rfl (fun j hj => by rcases (show j = 0 ∨ j = 1 ∨ j = 2 ∨ j = 3 ∨ j = 4 ∨ j = 5 ∨ j = 6 by omega) with rfl | rfl | rfl | rfl | rfl | rfl | rfl <;> rfl) (Nat.le_of_ble_eq_true rfl) (Nat.le_of_ble_eq_true rfl) dX8_document_28 (fun o_21 H_22 hP hD hS => ?_)
  have hP : va_P G vwCl ([(h0, .inr (12, [.ref a1, .ref a2, .ref a3, .ref a4, .ref a5, .ref a6, .ref a7, .ref a8, .int tol, .int sal])), (a4, .inr (3, [.int c0, .ref z, .int 0])), (a7, .inr (4, [.ref d1, .ref d2, .ref d3, .ref d4, .int 0, .int ag])), (d4, .inl (cyO, 20, .inr (.inr (.inr (.inr (fS)))))), (r0, .inl (cyI, 20, .inl (fR))), (o_21, .inr (5, [.int 0, .int 0, .null, .null, .null, .int 0, .int 0]))]) H_22 := hP
  have hD : va_D A ([(h0, .inr (12, [.ref a1, .ref a2, .ref a3, .ref a4, .ref a5, .ref a6, .ref a7, .ref a8, .int tol, .int sal])), (a4, .inr (3, [.int c0, .ref z, .int 0])), (a7, .inr (4, [.ref d1, .ref d2, .ref d3, .ref d4, .int 0, .int ag])), (d4, .inl (cyO, 20, .inr (.inr (.inr (.inr (fS)))))), (r0, .inl (cyI, 20, .inl (fR))), (o_21, .inr (5, [.int 0, .int 0, .null, .null, .null, .int 0, .int 0]))]) := hD
  refine W.widen (k := 4) (n := 25) (Nat.le_of_ble_eq_true rfl) (Nat.le_of_ble_eq_true rfl) ?_
  refine lv_dup hx hb dX8_document_31 rfl ?_
  rcases z_03 hw_8.1 hw_8.2 with rfl | rfl | rfl | rfl
  · refine lv_iload_n hx hb dX8_document_32 rfl (lv_at hl 1 rfl) ?_
    refine lv_iconst (v := 1) hx hb dX8_document_33 (by decide) ?_
    refine lv_iload_n hx hb dX8_document_34 rfl (lv_at hl 2 rfl) ?_
    refine lv_ishl hx hb dX8_document_35 ?_
    refine lv_topi (fun f_23 ef_23 => ?_)
    obtain rfl : f_23 = 1 := ef_23.trans (by decide)
    have hPc := hP.sub (ws' := [(o_21, .inr (5, [.int 0, .int 0, .null, .null, .null, .int 0, .int 0]))]) [5] rfl
    have hKc := hK.sub (tys' := []) [] rfl
    have hDc := hD.sub (ws' := [(o_21, .inr (5, [.int 0, .int 0, .null, .null, .null, .int 0, .int 0]))]) [5] (by decide) rfl
    have hFc := va_free (wc := [(o_21, .inr (5, [.int 0, .int 0, .null, .null, .null, .int 0, .int 0]))]) hD hS hA [5] rfl
    refine va_callv (va_runI (As := [.int p0, .int 1]) (rest := [.ref o_21, .ref a4]) ⟨hx, hb, hml, hown, hts⟩ (k_X1_init_1 l G z o_21 p0 H_22.size ) (cwI 2 hts (lw_goodAll q807) rfl rfl rfl (hg _ q32) (hg _ q805) (hg _ q806) rfl (by decide +kernel) ⟨Nat.le_of_ble_eq_true rfl, Nat.le_of_ble_eq_true rfl⟩) ⟨PW.blind, PW.of hPc hKc hDc hG hS hFc [.ref o_21, .int p0, .int 1]⟩ rfl rfl hl.1 rfl (lv_room (Nat.le_of_ble_eq_true rfl)) dX8_document_36 ⟨Nat.le_of_ble_eq_true rfl, Nat.le_of_ble_eq_true rfl⟩) hS (fun q _ h => hFc q h) hFc (fun u t_27 H_24 locs ht hvm hw_26 hB hz1 hk1 hS => ?_)
    obtain ⟨fsx_28, hB⟩ := hB
    obtain ⟨hP, hD, hK⟩ := QW.join (wr := [(h0, .inr (12, [.ref a1, .ref a2, .ref a3, .ref a4, .ref a5, .ref a6, .ref a7, .ref a8, .int tol, .int sal])), (a4, .inr (3, [.int c0, .ref z, .int 0])), (a7, .inr (4, [.ref d1, .ref d2, .ref d3, .ref d4, .int 0, .int ag])), (d4, .inl (cyO, 20, .inr (.inr (.inr (.inr (fS)))))), (r0, .inl (cyI, 20, .inl (fR)))]) (w1 := [(o_21, .inr (5, fsx_28))]) hP hD hK [5] [0, 1, 2, 3, 4] rfl rfl (by decide) (by decide) hk1 hFc ht hvm hB
    have hP : va_P G vwCl ([(h0, .inr (12, [.ref a1, .ref a2, .ref a3, .ref a4, .ref a5, .ref a6, .ref a7, .ref a8, .int tol, .int sal])), (a4, .inr (3, [.int c0, .ref z, .int 0])), (a7, .inr (4, [.ref d1, .ref d2, .ref d3, .ref d4, .int 0, .int ag])), (d4, .inl (cyO, 20, .inr (.inr (.inr (.inr (fS)))))), (r0, .inl (cyI, 20, .inl (fR))), (o_21, .inr (5, fsx_28))]) H_24 := hP
    have hD : va_D A ([(h0, .inr (12, [.ref a1, .ref a2, .ref a3, .ref a4, .ref a5, .ref a6, .ref a7, .ref a8, .int tol, .int sal])), (a4, .inr (3, [.int c0, .ref z, .int 0])), (a7, .inr (4, [.ref d1, .ref d2, .ref d3, .ref d4, .int 0, .int ag])), (d4, .inl (cyO, 20, .inr (.inr (.inr (.inr (fS)))))), (r0, .inl (cyI, 20, .inl (fR))), (o_21, .inr (5, fsx_28))]) := hD
    have hK : va_K G vwCl [(cyO, .array .int), (cyI, .int)] s := hK
    refine W.widen (k := 7) (n := 325) (Nat.le_of_ble_eq_true rfl) (Nat.le_of_ble_eq_true rfl) ?_
    have hPc := hP.sub (ws' := [(a4, .inr (3, [.int c0, .ref z, .int 0])), (o_21, .inr (5, fsx_28))]) [1, 5] rfl
    have hKc := hK.sub (tys' := []) [] rfl
    have hDc := hD.sub (ws' := [(a4, .inr (3, [.int c0, .ref z, .int 0])), (o_21, .inr (5, fsx_28))]) [1, 5] (by decide) rfl
    have hFc := va_free (wc := [(a4, .inr (3, [.int c0, .ref z, .int 0])), (o_21, .inr (5, fsx_28))]) hD hS hA [1, 5] rfl
    refine va_calli (va_runV (As := [.ref o_21]) (rest := []) ⟨hx, hb, hml, hown, hts⟩ (k_Jx4a65c_add_9ea2d l G z a4 c0 o_21 5 ((RX1, TX1, 7)) fsx_28 H_24.size rfl qf1763) (cwV 1 hts (lw_goodApp (lw_4 q448 q449 q450 q4) q451) rfl rfl rfl (by decide +kernel) ⟨Nat.le_of_ble_eq_true rfl, Nat.le_of_ble_eq_true rfl⟩) ⟨PW.blind, va_recv hK hP (ci := 3) (q0 := 1) rfl rfl, PW.of hPc hKc hDc hG hS hFc [.ref a4, .ref o_21]⟩ rfl rfl hl.1 rfl (lv_room (Nat.le_of_ble_eq_true rfl)) dX8_document_39 ⟨Nat.le_of_ble_eq_true rfl, Nat.le_of_ble_eq_true rfl⟩) hS (fun q _ h => hFc q h) hFc (fun r_30 u t_32 H_29 locs ht hvm hw_31 hB hz1 hk1 hS => ?_)
    obtain ⟨c1_33, qa_34, hB⟩ := hB
    obtain ⟨hP, hD, hK⟩ := QW.join (wr := [(h0, .inr (12, [.ref a1, .ref a2, .ref a3, .ref a4, .ref a5, .ref a6, .ref a7, .ref a8, .int tol, .int sal])), (a7, .inr (4, [.ref d1, .ref d2, .ref d3, .ref d4, .int 0, .int ag])), (d4, .inl (cyO, 20, .inr (.inr (.inr (.inr (fS)))))), (r0, .inl (cyI, 20, .inl (fR)))]) (w1 := [(a4, .inr (3, [.int c1_33, .ref qa_34, .int 1])), (o_21, .inr (5, fsx_28))]) hP hD hK [1, 5] [0, 2, 3, 4] rfl rfl (by decide) (by decide) hk1 hFc ht hvm hB
    have hP : va_P G vwCl ([(h0, .inr (12, [.ref a1, .ref a2, .ref a3, .ref a4, .ref a5, .ref a6, .ref a7, .ref a8, .int tol, .int sal])), (a7, .inr (4, [.ref d1, .ref d2, .ref d3, .ref d4, .int 0, .int ag])), (d4, .inl (cyO, 20, .inr (.inr (.inr (.inr (fS)))))), (r0, .inl (cyI, 20, .inl (fR))), (a4, .inr (3, [.int c1_33, .ref qa_34, .int 1])), (o_21, .inr (5, fsx_28))]) H_29 := hP
    have hD : va_D A ([(h0, .inr (12, [.ref a1, .ref a2, .ref a3, .ref a4, .ref a5, .ref a6, .ref a7, .ref a8, .int tol, .int sal])), (a7, .inr (4, [.ref d1, .ref d2, .ref d3, .ref d4, .int 0, .int ag])), (d4, .inl (cyO, 20, .inr (.inr (.inr (.inr (fS)))))), (r0, .inl (cyI, 20, .inl (fR))), (a4, .inr (3, [.int c1_33, .ref qa_34, .int 1])), (o_21, .inr (5, fsx_28))]) := hD
    have hK : va_K G vwCl [(cyO, .array .int), (cyI, .int)] s := hK
    refine W.widen (k := 8) (n := 335) (Nat.le_of_ble_eq_true rfl) (Nat.le_of_ble_eq_true rfl) ?_
    obtain rfl : 1 = r_30 := hw_31.symm
    refine lv_pop hx hb dX8_document_42 rfl ?_
    refine lv_aload_n hx hb dX8_document_43 rfl (lv_at hl 0 rfl) ?_
    refine va_get (D := G) (ci := 12) (v := .ref a7) (C := RX8) (T := TX8) (N := 10) hx hb hg in_X8 hown hK hP 0 rfl rfl 6 (by decide) (hg _ q131) (fun _ h9 => h9) rfl dX8_document_44 ?_
    have hPc := hP.sub (ws' := [(a7, .inr (4, [.ref d1, .ref d2, .ref d3, .ref d4, .int 0, .int ag])), (d4, .inl (cyO, 20, .inr (.inr (.inr (.inr (fS)))))), (r0, .inl (cyI, 20, .inl (fR)))]) [1, 2, 3] rfl
    have hKc := hK.sub (tys' := [(cyO, .array .int), (cyI, .int)]) [0, 1] rfl
    have hDc := hD.sub (ws' := [(a7, .inr (4, [.ref d1, .ref d2, .ref d3, .ref d4, .int 0, .int ag])), (d4, .inl (cyO, 20, .inr (.inr (.inr (.inr (fS)))))), (r0, .inl (cyI, 20, .inl (fR)))]) [1, 2, 3] (by decide) rfl
    have hFc := va_free (wc := [(a7, .inr (4, [.ref d1, .ref d2, .ref d3, .ref d4, .int 0, .int ag])), (d4, .inl (cyO, 20, .inr (.inr (.inr (.inr (fS)))))), (r0, .inl (cyI, 20, .inl (fR)))]) hD hS hA [1, 2, 3] rfl
    refine va_callv (va_runV (As := []) (rest := []) ⟨hx, hb, hml, hown, hts⟩ (k_X0_addDocument l G z a7 d1 d2 d3 d4 ag cyO fS cyI fR r0 H_29.size hfS) (cwV 0 hts (lw_goodApp (lw_4 q837 q838 q839 q6) q840) rfl rfl rfl (by decide +kernel) ⟨Nat.le_of_ble_eq_true rfl, Nat.le_of_ble_eq_true rfl⟩) ⟨PW.blind, va_recv hK hP (ci := 4) (q0 := 1) rfl rfl, PW.of hPc hKc hDc hG hS hFc [.ref a7]⟩ rfl rfl hl.1 rfl (lv_room (Nat.le_of_ble_eq_true rfl)) dX8_document_47 ⟨Nat.le_of_ble_eq_true rfl, Nat.le_of_ble_eq_true rfl⟩) hS (fun q _ h => hFc q h) hFc (fun u t_38 H_35 locs ht hvm hw_37 hB hz1 hk1 hS => ?_)
    obtain ⟨hP, hD, hK⟩ := QW.join (wr := [(h0, .inr (12, [.ref a1, .ref a2, .ref a3, .ref a4, .ref a5, .ref a6, .ref a7, .ref a8, .int tol, .int sal])), (a4, .inr (3, [.int c1_33, .ref qa_34, .int 1])), (o_21, .inr (5, fsx_28))]) (w1 := []) hP hD hK [1, 2, 3] [0, 4, 5] rfl rfl (by decide) (by decide) hk1 hFc ht hvm hB
    have hP : va_P G vwCl ([(h0, .inr (12, [.ref a1, .ref a2, .ref a3, .ref a4, .ref a5, .ref a6, .ref a7, .ref a8, .int tol, .int sal])), (a4, .inr (3, [.int c1_33, .ref qa_34, .int 1])), (o_21, .inr (5, fsx_28))]) H_35 := hP
    have hD : va_D A ([(h0, .inr (12, [.ref a1, .ref a2, .ref a3, .ref a4, .ref a5, .ref a6, .ref a7, .ref a8, .int tol, .int sal])), (a4, .inr (3, [.int c1_33, .ref qa_34, .int 1])), (o_21, .inr (5, fsx_28))]) := hD
    have hK : va_K G vwCl [(cyO, .array .int), (cyI, .int)] s := hK
    refine W.widen (k := 8) (n := 335) (Nat.le_of_ble_eq_true rfl) (Nat.le_of_ble_eq_true rfl) ?_
    refine lv_aload_n hx hb dX8_document_50 rfl (lv_at hl 0 rfl) ?_
    refine va_get (D := G) (ci := 12) (v := .ref a4) (C := RX8) (T := TX8) (N := 10) hx hb hg in_X8 hown hK hP 0 rfl rfl 3 (by decide) (hg _ q128) (fun _ h9 => h9) rfl dX8_document_51 ?_
    have hPc := hP.sub (ws' := [(a4, .inr (3, [.int c1_33, .ref qa_34, .int 1]))]) [1] rfl
    have hKc := hK.sub (tys' := []) [] rfl
    refine va_calli (va_runV (As := []) (rest := []) ⟨hx, hb, hml, hown, hts⟩ (k_Jx4a65c_size_8abf5 l G z a4 c1_33 qa_34 1 H_35.size ) (cwV 0 hts (lw_goodApp (lw_4 q160 q161 q162 q4) q163) rfl rfl rfl (by decide +kernel) ⟨Nat.le_of_ble_eq_true rfl, Nat.le_of_ble_eq_true rfl⟩) ⟨PR.blind, va_recv hK hP (ci := 3) (q0 := 1) rfl rfl, PR.of hPc hKc hG hS hA [.ref a4]⟩ rfl rfl hl.1 rfl (lv_room (Nat.le_of_ble_eq_true rfl)) dX8_document_54 ⟨Nat.le_of_ble_eq_true rfl, Nat.le_of_ble_eq_true rfl⟩) hS (fun q h9 h => zN.not h9 h) (fun q h => hA q (Nat.le_trans hS.1 h)) (fun r_40 u t_42 H_39 locs ht hvm hw_41 hB hz1 hk1 hS => ?_)
    have hP := hP.grown hk1
    refine W.widen (k := 8) (n := 335) (Nat.le_of_ble_eq_true rfl) (Nat.le_of_ble_eq_true rfl) ?_
    obtain rfl : 1 = r_40 := hw_41.symm
    refine lv_iconst (v := 1) hx hb dX8_document_57 (by decide) ?_
    refine lv_isub hx hb dX8_document_58 ?_
    refine lv_topi (fun f_43 ef_43 => ?_)
    obtain rfl : f_43 = 0 := ef_43.trans (by decide)
    refine W.widen (k := 8) (n := 1035) (Nat.le_of_ble_eq_true rfl) (Nat.le_of_ble_eq_true rfl) ?_
    refine vx_ret ?_
    have hP9 := hP.sub (ws' := []) [] rfl
    have hD9 := hD.sub (ws' := []) [] (by decide) rfl
    have hK9 := hK.sub (tys' := []) [] rfl
    exact W.iret (v := 0) hx hb hr (fun t ht hW => ⟨⟨0, (), rfl, ⟨rfl, hw_3, hw_8⟩, QW.of hP9 hK9 hD9 ht hW.alike⟩, hS.F ht⟩) hS.2.2 dX8_document_59
  · refine lv_iload_n hx hb dX8_document_32 rfl (lv_at hl 1 rfl) ?_
    refine lv_iconst (v := 1) hx hb dX8_document_33 (by decide) ?_
    refine lv_iload_n hx hb dX8_document_34 rfl (lv_at hl 2 rfl) ?_
    refine lv_ishl hx hb dX8_document_35 ?_
    refine lv_topi (fun f_44 ef_44 => ?_)
    obtain rfl : f_44 = 2 := ef_44.trans (by decide)
    have hPc := hP.sub (ws' := [(o_21, .inr (5, [.int 0, .int 0, .null, .null, .null, .int 0, .int 0]))]) [5] rfl
    have hKc := hK.sub (tys' := []) [] rfl
    have hDc := hD.sub (ws' := [(o_21, .inr (5, [.int 0, .int 0, .null, .null, .null, .int 0, .int 0]))]) [5] (by decide) rfl
    have hFc := va_free (wc := [(o_21, .inr (5, [.int 0, .int 0, .null, .null, .null, .int 0, .int 0]))]) hD hS hA [5] rfl
    refine va_callv (va_runI (As := [.int p0, .int 2]) (rest := [.ref o_21, .ref a4]) ⟨hx, hb, hml, hown, hts⟩ (k_X1_init_2 l G z o_21 p0 H_22.size ) (cwI 2 hts (lw_goodAll q807) rfl rfl rfl (hg _ q32) (hg _ q805) (hg _ q806) rfl (by decide +kernel) ⟨Nat.le_of_ble_eq_true rfl, Nat.le_of_ble_eq_true rfl⟩) ⟨PW.blind, PW.of hPc hKc hDc hG hS hFc [.ref o_21, .int p0, .int 2]⟩ rfl rfl hl.1 rfl (lv_room (Nat.le_of_ble_eq_true rfl)) dX8_document_36 ⟨Nat.le_of_ble_eq_true rfl, Nat.le_of_ble_eq_true rfl⟩) hS (fun q _ h => hFc q h) hFc (fun u t_48 H_45 locs ht hvm hw_47 hB hz1 hk1 hS => ?_)
    obtain ⟨fsx_49, hB⟩ := hB
    obtain ⟨hP, hD, hK⟩ := QW.join (wr := [(h0, .inr (12, [.ref a1, .ref a2, .ref a3, .ref a4, .ref a5, .ref a6, .ref a7, .ref a8, .int tol, .int sal])), (a4, .inr (3, [.int c0, .ref z, .int 0])), (a7, .inr (4, [.ref d1, .ref d2, .ref d3, .ref d4, .int 0, .int ag])), (d4, .inl (cyO, 20, .inr (.inr (.inr (.inr (fS)))))), (r0, .inl (cyI, 20, .inl (fR)))]) (w1 := [(o_21, .inr (5, fsx_49))]) hP hD hK [5] [0, 1, 2, 3, 4] rfl rfl (by decide) (by decide) hk1 hFc ht hvm hB
    have hP : va_P G vwCl ([(h0, .inr (12, [.ref a1, .ref a2, .ref a3, .ref a4, .ref a5, .ref a6, .ref a7, .ref a8, .int tol, .int sal])), (a4, .inr (3, [.int c0, .ref z, .int 0])), (a7, .inr (4, [.ref d1, .ref d2, .ref d3, .ref d4, .int 0, .int ag])), (d4, .inl (cyO, 20, .inr (.inr (.inr (.inr (fS)))))), (r0, .inl (cyI, 20, .inl (fR))), (o_21, .inr (5, fsx_49))]) H_45 := hP
    have hD : va_D A ([(h0, .inr (12, [.ref a1, .ref a2, .ref a3, .ref a4, .ref a5, .ref a6, .ref a7, .ref a8, .int tol, .int sal])), (a4, .inr (3, [.int c0, .ref z, .int 0])), (a7, .inr (4, [.ref d1, .ref d2, .ref d3, .ref d4, .int 0, .int ag])), (d4, .inl (cyO, 20, .inr (.inr (.inr (.inr (fS)))))), (r0, .inl (cyI, 20, .inl (fR))), (o_21, .inr (5, fsx_49))]) := hD
    have hK : va_K G vwCl [(cyO, .array .int), (cyI, .int)] s := hK
    refine W.widen (k := 7) (n := 425) (Nat.le_of_ble_eq_true rfl) (Nat.le_of_ble_eq_true rfl) ?_
    have hPc := hP.sub (ws' := [(a4, .inr (3, [.int c0, .ref z, .int 0])), (o_21, .inr (5, fsx_49))]) [1, 5] rfl
    have hKc := hK.sub (tys' := []) [] rfl
    have hDc := hD.sub (ws' := [(a4, .inr (3, [.int c0, .ref z, .int 0])), (o_21, .inr (5, fsx_49))]) [1, 5] (by decide) rfl
    have hFc := va_free (wc := [(a4, .inr (3, [.int c0, .ref z, .int 0])), (o_21, .inr (5, fsx_49))]) hD hS hA [1, 5] rfl
    refine va_calli (va_runV (As := [.ref o_21]) (rest := []) ⟨hx, hb, hml, hown, hts⟩ (k_Jx4a65c_add_9ea2d l G z a4 c0 o_21 5 ((RX1, TX1, 7)) fsx_49 H_45.size rfl qf1763) (cwV 1 hts (lw_goodApp (lw_4 q448 q449 q450 q4) q451) rfl rfl rfl (by decide +kernel) ⟨Nat.le_of_ble_eq_true rfl, Nat.le_of_ble_eq_true rfl⟩) ⟨PW.blind, va_recv hK hP (ci := 3) (q0 := 1) rfl rfl, PW.of hPc hKc hDc hG hS hFc [.ref a4, .ref o_21]⟩ rfl rfl hl.1 rfl (lv_room (Nat.le_of_ble_eq_true rfl)) dX8_document_39 ⟨Nat.le_of_ble_eq_true rfl, Nat.le_of_ble_eq_true rfl⟩) hS (fun q _ h => hFc q h) hFc (fun r_51 u t_53 H_50 locs ht hvm hw_52 hB hz1 hk1 hS => ?_)
    obtain ⟨c1_54, qa_55, hB⟩ := hB
    obtain ⟨hP, hD, hK⟩ := QW.join (wr := [(h0, .inr (12, [.ref a1, .ref a2, .ref a3, .ref a4, .ref a5, .ref a6, .ref a7, .ref a8, .int tol, .int sal])), (a7, .inr (4, [.ref d1, .ref d2, .ref d3, .ref d4, .int 0, .int ag])), (d4, .inl (cyO, 20, .inr (.inr (.inr (.inr (fS)))))), (r0, .inl (cyI, 20, .inl (fR)))]) (w1 := [(a4, .inr (3, [.int c1_54, .ref qa_55, .int 1])), (o_21, .inr (5, fsx_49))]) hP hD hK [1, 5] [0, 2, 3, 4] rfl rfl (by decide) (by decide) hk1 hFc ht hvm hB
    have hP : va_P G vwCl ([(h0, .inr (12, [.ref a1, .ref a2, .ref a3, .ref a4, .ref a5, .ref a6, .ref a7, .ref a8, .int tol, .int sal])), (a7, .inr (4, [.ref d1, .ref d2, .ref d3, .ref d4, .int 0, .int ag])), (d4, .inl (cyO, 20, .inr (.inr (.inr (.inr (fS)))))), (r0, .inl (cyI, 20, .inl (fR))), (a4, .inr (3, [.int c1_54, .ref qa_55, .int 1])), (o_21, .inr (5, fsx_49))]) H_50 := hP
    have hD : va_D A ([(h0, .inr (12, [.ref a1, .ref a2, .ref a3, .ref a4, .ref a5, .ref a6, .ref a7, .ref a8, .int tol, .int sal])), (a7, .inr (4, [.ref d1, .ref d2, .ref d3, .ref d4, .int 0, .int ag])), (d4, .inl (cyO, 20, .inr (.inr (.inr (.inr (fS)))))), (r0, .inl (cyI, 20, .inl (fR))), (a4, .inr (3, [.int c1_54, .ref qa_55, .int 1])), (o_21, .inr (5, fsx_49))]) := hD
    have hK : va_K G vwCl [(cyO, .array .int), (cyI, .int)] s := hK
    refine W.widen (k := 8) (n := 435) (Nat.le_of_ble_eq_true rfl) (Nat.le_of_ble_eq_true rfl) ?_
    obtain rfl : 1 = r_51 := hw_52.symm
    refine lv_pop hx hb dX8_document_42 rfl ?_
    refine lv_aload_n hx hb dX8_document_43 rfl (lv_at hl 0 rfl) ?_
    refine va_get (D := G) (ci := 12) (v := .ref a7) (C := RX8) (T := TX8) (N := 10) hx hb hg in_X8 hown hK hP 0 rfl rfl 6 (by decide) (hg _ q131) (fun _ h9 => h9) rfl dX8_document_44 ?_
    have hPc := hP.sub (ws' := [(a7, .inr (4, [.ref d1, .ref d2, .ref d3, .ref d4, .int 0, .int ag])), (d4, .inl (cyO, 20, .inr (.inr (.inr (.inr (fS)))))), (r0, .inl (cyI, 20, .inl (fR)))]) [1, 2, 3] rfl
    have hKc := hK.sub (tys' := [(cyO, .array .int), (cyI, .int)]) [0, 1] rfl
    have hDc := hD.sub (ws' := [(a7, .inr (4, [.ref d1, .ref d2, .ref d3, .ref d4, .int 0, .int ag])), (d4, .inl (cyO, 20, .inr (.inr (.inr (.inr (fS)))))), (r0, .inl (cyI, 20, .inl (fR)))]) [1, 2, 3] (by decide) rfl
    have hFc := va_free (wc := [(a7, .inr (4, [.ref d1, .ref d2, .ref d3, .ref d4, .int 0, .int ag])), (d4, .inl (cyO, 20, .inr (.inr (.inr (.inr (fS)))))), (r0, .inl (cyI, 20, .inl (fR)))]) hD hS hA [1, 2, 3] rfl
    refine va_callv (va_runV (As := []) (rest := []) ⟨hx, hb, hml, hown, hts⟩ (k_X0_addDocument l G z a7 d1 d2 d3 d4 ag cyO fS cyI fR r0 H_50.size hfS) (cwV 0 hts (lw_goodApp (lw_4 q837 q838 q839 q6) q840) rfl rfl rfl (by decide +kernel) ⟨Nat.le_of_ble_eq_true rfl, Nat.le_of_ble_eq_true rfl⟩) ⟨PW.blind, va_recv hK hP (ci := 4) (q0 := 1) rfl rfl, PW.of hPc hKc hDc hG hS hFc [.ref a7]⟩ rfl rfl hl.1 rfl (lv_room (Nat.le_of_ble_eq_true rfl)) dX8_document_47 ⟨Nat.le_of_ble_eq_true rfl, Nat.le_of_ble_eq_true rfl⟩) hS (fun q _ h => hFc q h) hFc (fun u t_59 H_56 locs ht hvm hw_58 hB hz1 hk1 hS => ?_)
    obtain ⟨hP, hD, hK⟩ := QW.join (wr := [(h0, .inr (12, [.ref a1, .ref a2, .ref a3, .ref a4, .ref a5, .ref a6, .ref a7, .ref a8, .int tol, .int sal])), (a4, .inr (3, [.int c1_54, .ref qa_55, .int 1])), (o_21, .inr (5, fsx_49))]) (w1 := []) hP hD hK [1, 2, 3] [0, 4, 5] rfl rfl (by decide) (by decide) hk1 hFc ht hvm hB
    have hP : va_P G vwCl ([(h0, .inr (12, [.ref a1, .ref a2, .ref a3, .ref a4, .ref a5, .ref a6, .ref a7, .ref a8, .int tol, .int sal])), (a4, .inr (3, [.int c1_54, .ref qa_55, .int 1])), (o_21, .inr (5, fsx_49))]) H_56 := hP
    have hD : va_D A ([(h0, .inr (12, [.ref a1, .ref a2, .ref a3, .ref a4, .ref a5, .ref a6, .ref a7, .ref a8, .int tol, .int sal])), (a4, .inr (3, [.int c1_54, .ref qa_55, .int 1])), (o_21, .inr (5, fsx_49))]) := hD
    have hK : va_K G vwCl [(cyO, .array .int), (cyI, .int)] s := hK
    refine W.widen (k := 8) (n := 435) (Nat.le_of_ble_eq_true rfl) (Nat.le_of_ble_eq_true rfl) ?_
    refine lv_aload_n hx hb dX8_document_50 rfl (lv_at hl 0 rfl) ?_
    refine va_get (D := G) (ci := 12) (v := .ref a4) (C := RX8) (T := TX8) (N := 10) hx hb hg in_X8 hown hK hP 0 rfl rfl 3 (by decide) (hg _ q128) (fun _ h9 => h9) rfl dX8_document_51 ?_
    have hPc := hP.sub (ws' := [(a4, .inr (3, [.int c1_54, .ref qa_55, .int 1]))]) [1] rfl
    have hKc := hK.sub (tys' := []) [] rfl
    refine va_calli (va_runV (As := []) (rest := []) ⟨hx, hb, hml, hown, hts⟩ (k_Jx4a65c_size_8abf5 l G z a4 c1_54 qa_55 1 H_56.size ) (cwV 0 hts (lw_goodApp (lw_4 q160 q161 q162 q4) q163) rfl rfl rfl (by decide +kernel) ⟨Nat.le_of_ble_eq_true rfl, Nat.le_of_ble_eq_true rfl⟩) ⟨PR.blind, va_recv hK hP (ci := 3) (q0 := 1) rfl rfl, PR.of hPc hKc hG hS hA [.ref a4]⟩ rfl rfl hl.1 rfl (lv_room (Nat.le_of_ble_eq_true rfl)) dX8_document_54 ⟨Nat.le_of_ble_eq_true rfl, Nat.le_of_ble_eq_true rfl⟩) hS (fun q h9 h => zN.not h9 h) (fun q h => hA q (Nat.le_trans hS.1 h)) (fun r_61 u t_63 H_60 locs ht hvm hw_62 hB hz1 hk1 hS => ?_)
    have hP := hP.grown hk1
    refine W.widen (k := 8) (n := 435) (Nat.le_of_ble_eq_true rfl) (Nat.le_of_ble_eq_true rfl) ?_
    obtain rfl : 1 = r_61 := hw_62.symm
    refine lv_iconst (v := 1) hx hb dX8_document_57 (by decide) ?_
    refine lv_isub hx hb dX8_document_58 ?_
    refine lv_topi (fun f_64 ef_64 => ?_)
    obtain rfl : f_64 = 0 := ef_64.trans (by decide)
    refine W.widen (k := 8) (n := 1035) (Nat.le_of_ble_eq_true rfl) (Nat.le_of_ble_eq_true rfl) ?_
    refine vx_ret ?_
    have hP9 := hP.sub (ws' := []) [] rfl
    have hD9 := hD.sub (ws' := []) [] (by decide) rfl
    have hK9 := hK.sub (tys' := []) [] rfl
    exact W.iret (v := 0) hx hb hr (fun t ht hW => ⟨⟨0, (), rfl, ⟨rfl, hw_3, hw_8⟩, QW.of hP9 hK9 hD9 ht hW.alike⟩, hS.F ht⟩) hS.2.2 dX8_document_59
  · refine lv_iload_n hx hb dX8_document_32 rfl (lv_at hl 1 rfl) ?_
    refine lv_iconst (v := 1) hx hb dX8_document_33 (by decide) ?_
    refine lv_iload_n hx hb dX8_document_34 rfl (lv_at hl 2 rfl) ?_
    refine lv_ishl hx hb dX8_document_35 ?_
    refine lv_topi (fun f_65 ef_65 => ?_)
    obtain rfl : f_65 = 4 := ef_65.trans (by decide)
    have hPc := hP.sub (ws' := [(o_21, .inr (5, [.int 0, .int 0, .null, .null, .null, .int 0, .int 0]))]) [5] rfl
    have hKc := hK.sub (tys' := []) [] rfl
    have hDc := hD.sub (ws' := [(o_21, .inr (5, [.int 0, .int 0, .null, .null, .null, .int 0, .int 0]))]) [5] (by decide) rfl
    have hFc := va_free (wc := [(o_21, .inr (5, [.int 0, .int 0, .null, .null, .null, .int 0, .int 0]))]) hD hS hA [5] rfl
    refine va_callv (va_runI (As := [.int p0, .int 4]) (rest := [.ref o_21, .ref a4]) ⟨hx, hb, hml, hown, hts⟩ (k_X1_init_4 l G z o_21 p0 H_22.size ) (cwI 2 hts (lw_goodAll q807) rfl rfl rfl (hg _ q32) (hg _ q805) (hg _ q806) rfl (by decide +kernel) ⟨Nat.le_of_ble_eq_true rfl, Nat.le_of_ble_eq_true rfl⟩) ⟨PW.blind, PW.of hPc hKc hDc hG hS hFc [.ref o_21, .int p0, .int 4]⟩ rfl rfl hl.1 rfl (lv_room (Nat.le_of_ble_eq_true rfl)) dX8_document_36 ⟨Nat.le_of_ble_eq_true rfl, Nat.le_of_ble_eq_true rfl⟩) hS (fun q _ h => hFc q h) hFc (fun u t_69 H_66 locs ht hvm hw_68 hB hz1 hk1 hS => ?_)
    obtain ⟨fsx_70, hB⟩ := hB
    obtain ⟨hP, hD, hK⟩ := QW.join (wr := [(h0, .inr (12, [.ref a1, .ref a2, .ref a3, .ref a4, .ref a5, .ref a6, .ref a7, .ref a8, .int tol, .int sal])), (a4, .inr (3, [.int c0, .ref z, .int 0])), (a7, .inr (4, [.ref d1, .ref d2, .ref d3, .ref d4, .int 0, .int ag])), (d4, .inl (cyO, 20, .inr (.inr (.inr (.inr (fS)))))), (r0, .inl (cyI, 20, .inl (fR)))]) (w1 := [(o_21, .inr (5, fsx_70))]) hP hD hK [5] [0, 1, 2, 3, 4] rfl rfl (by decide) (by decide) hk1 hFc ht hvm hB
    have hP : va_P G vwCl ([(h0, .inr (12, [.ref a1, .ref a2, .ref a3, .ref a4, .ref a5, .ref a6, .ref a7, .ref a8, .int tol, .int sal])), (a4, .inr (3, [.int c0, .ref z, .int 0])), (a7, .inr (4, [.ref d1, .ref d2, .ref d3, .ref d4, .int 0, .int ag])), (d4, .inl (cyO, 20, .inr (.inr (.inr (.inr (fS)))))), (r0, .inl (cyI, 20, .inl (fR))), (o_21, .inr (5, fsx_70))]) H_66 := hP
    have hD : va_D A ([(h0, .inr (12, [.ref a1, .ref a2, .ref a3, .ref a4, .ref a5, .ref a6, .ref a7, .ref a8, .int tol, .int sal])), (a4, .inr (3, [.int c0, .ref z, .int 0])), (a7, .inr (4, [.ref d1, .ref d2, .ref d3, .ref d4, .int 0, .int ag])), (d4, .inl (cyO, 20, .inr (.inr (.inr (.inr (fS)))))), (r0, .inl (cyI, 20, .inl (fR))), (o_21, .inr (5, fsx_70))]) := hD
    have hK : va_K G vwCl [(cyO, .array .int), (cyI, .int)] s := hK
    refine W.widen (k := 7) (n := 625) (Nat.le_of_ble_eq_true rfl) (Nat.le_of_ble_eq_true rfl) ?_
    have hPc := hP.sub (ws' := [(a4, .inr (3, [.int c0, .ref z, .int 0])), (o_21, .inr (5, fsx_70))]) [1, 5] rfl
    have hKc := hK.sub (tys' := []) [] rfl
    have hDc := hD.sub (ws' := [(a4, .inr (3, [.int c0, .ref z, .int 0])), (o_21, .inr (5, fsx_70))]) [1, 5] (by decide) rfl
    have hFc := va_free (wc := [(a4, .inr (3, [.int c0, .ref z, .int 0])), (o_21, .inr (5, fsx_70))]) hD hS hA [1, 5] rfl
    refine va_calli (va_runV (As := [.ref o_21]) (rest := []) ⟨hx, hb, hml, hown, hts⟩ (k_Jx4a65c_add_9ea2d l G z a4 c0 o_21 5 ((RX1, TX1, 7)) fsx_70 H_66.size rfl qf1763) (cwV 1 hts (lw_goodApp (lw_4 q448 q449 q450 q4) q451) rfl rfl rfl (by decide +kernel) ⟨Nat.le_of_ble_eq_true rfl, Nat.le_of_ble_eq_true rfl⟩) ⟨PW.blind, va_recv hK hP (ci := 3) (q0 := 1) rfl rfl, PW.of hPc hKc hDc hG hS hFc [.ref a4, .ref o_21]⟩ rfl rfl hl.1 rfl (lv_room (Nat.le_of_ble_eq_true rfl)) dX8_document_39 ⟨Nat.le_of_ble_eq_true rfl, Nat.le_of_ble_eq_true rfl⟩) hS (fun q _ h => hFc q h) hFc (fun r_72 u t_74 H_71 locs ht hvm hw_73 hB hz1 hk1 hS => ?_)
    obtain ⟨c1_75, qa_76, hB⟩ := hB
    obtain ⟨hP, hD, hK⟩ := QW.join (wr := [(h0, .inr (12, [.ref a1, .ref a2, .ref a3, .ref a4, .ref a5, .ref a6, .ref a7, .ref a8, .int tol, .int sal])), (a7, .inr (4, [.ref d1, .ref d2, .ref d3, .ref d4, .int 0, .int ag])), (d4, .inl (cyO, 20, .inr (.inr (.inr (.inr (fS)))))), (r0, .inl (cyI, 20, .inl (fR)))]) (w1 := [(a4, .inr (3, [.int c1_75, .ref qa_76, .int 1])), (o_21, .inr (5, fsx_70))]) hP hD hK [1, 5] [0, 2, 3, 4] rfl rfl (by decide) (by decide) hk1 hFc ht hvm hB
    have hP : va_P G vwCl ([(h0, .inr (12, [.ref a1, .ref a2, .ref a3, .ref a4, .ref a5, .ref a6, .ref a7, .ref a8, .int tol, .int sal])), (a7, .inr (4, [.ref d1, .ref d2, .ref d3, .ref d4, .int 0, .int ag])), (d4, .inl (cyO, 20, .inr (.inr (.inr (.inr (fS)))))), (r0, .inl (cyI, 20, .inl (fR))), (a4, .inr (3, [.int c1_75, .ref qa_76, .int 1])), (o_21, .inr (5, fsx_70))]) H_71 := hP
    have hD : va_D A ([(h0, .inr (12, [.ref a1, .ref a2, .ref a3, .ref a4, .ref a5, .ref a6, .ref a7, .ref a8, .int tol, .int sal])), (a7, .inr (4, [.ref d1, .ref d2, .ref d3, .ref d4, .int 0, .int ag])), (d4, .inl (cyO, 20, .inr (.inr (.inr (.inr (fS)))))), (r0, .inl (cyI, 20, .inl (fR))), (a4, .inr (3, [.int c1_75, .ref qa_76, .int 1])), (o_21, .inr (5, fsx_70))]) := hD
    have hK : va_K G vwCl [(cyO, .array .int), (cyI, .int)] s := hK
    refine W.widen (k := 8) (n := 635) (Nat.le_of_ble_eq_true rfl) (Nat.le_of_ble_eq_true rfl) ?_
    obtain rfl : 1 = r_72 := hw_73.symm
    refine lv_pop hx hb dX8_document_42 rfl ?_
    refine lv_aload_n hx hb dX8_document_43 rfl (lv_at hl 0 rfl) ?_
    refine va_get (D := G) (ci := 12) (v := .ref a7) (C := RX8) (T := TX8) (N := 10) hx hb hg in_X8 hown hK hP 0 rfl rfl 6 (by decide) (hg _ q131) (fun _ h9 => h9) rfl dX8_document_44 ?_
    have hPc := hP.sub (ws' := [(a7, .inr (4, [.ref d1, .ref d2, .ref d3, .ref d4, .int 0, .int ag])), (d4, .inl (cyO, 20, .inr (.inr (.inr (.inr (fS)))))), (r0, .inl (cyI, 20, .inl (fR)))]) [1, 2, 3] rfl
    have hKc := hK.sub (tys' := [(cyO, .array .int), (cyI, .int)]) [0, 1] rfl
    have hDc := hD.sub (ws' := [(a7, .inr (4, [.ref d1, .ref d2, .ref d3, .ref d4, .int 0, .int ag])), (d4, .inl (cyO, 20, .inr (.inr (.inr (.inr (fS)))))), (r0, .inl (cyI, 20, .inl (fR)))]) [1, 2, 3] (by decide) rfl
    have hFc := va_free (wc := [(a7, .inr (4, [.ref d1, .ref d2, .ref d3, .ref d4, .int 0, .int ag])), (d4, .inl (cyO, 20, .inr (.inr (.inr (.inr (fS)))))), (r0, .inl (cyI, 20, .inl (fR)))]) hD hS hA [1, 2, 3] rfl
    refine va_callv (va_runV (As := []) (rest := []) ⟨hx, hb, hml, hown, hts⟩ (k_X0_addDocument l G z a7 d1 d2 d3 d4 ag cyO fS cyI fR r0 H_71.size hfS) (cwV 0 hts (lw_goodApp (lw_4 q837 q838 q839 q6) q840) rfl rfl rfl (by decide +kernel) ⟨Nat.le_of_ble_eq_true rfl, Nat.le_of_ble_eq_true rfl⟩) ⟨PW.blind, va_recv hK hP (ci := 4) (q0 := 1) rfl rfl, PW.of hPc hKc hDc hG hS hFc [.ref a7]⟩ rfl rfl hl.1 rfl (lv_room (Nat.le_of_ble_eq_true rfl)) dX8_document_47 ⟨Nat.le_of_ble_eq_true rfl, Nat.le_of_ble_eq_true rfl⟩) hS (fun q _ h => hFc q h) hFc (fun u t_80 H_77 locs ht hvm hw_79 hB hz1 hk1 hS => ?_)
    obtain ⟨hP, hD, hK⟩ := QW.join (wr := [(h0, .inr (12, [.ref a1, .ref a2, .ref a3, .ref a4, .ref a5, .ref a6, .ref a7, .ref a8, .int tol, .int sal])), (a4, .inr (3, [.int c1_75, .ref qa_76, .int 1])), (o_21, .inr (5, fsx_70))]) (w1 := []) hP hD hK [1, 2, 3] [0, 4, 5] rfl rfl (by decide) (by decide) hk1 hFc ht hvm hB
    have hP : va_P G vwCl ([(h0, .inr (12, [.ref a1, .ref a2, .ref a3, .ref a4, .ref a5, .ref a6, .ref a7, .ref a8, .int tol, .int sal])), (a4, .inr (3, [.int c1_75, .ref qa_76, .int 1])), (o_21, .inr (5, fsx_70))]) H_77 := hP
    have hD : va_D A ([(h0, .inr (12, [.ref a1, .ref a2, .ref a3, .ref a4, .ref a5, .ref a6, .ref a7, .ref a8, .int tol, .int sal])), (a4, .inr (3, [.int c1_75, .ref qa_76, .int 1])), (o_21, .inr (5, fsx_70))]) := hD
    have hK : va_K G vwCl [(cyO, .array .int), (cyI, .int)] s := hK
    refine W.widen (k := 8) (n := 635) (Nat.le_of_ble_eq_true rfl) (Nat.le_of_ble_eq_true rfl) ?_
    refine lv_aload_n hx hb dX8_document_50 rfl (lv_at hl 0 rfl) ?_
    refine va_get (D := G) (ci := 12) (v := .ref a4) (C := RX8) (T := TX8) (N := 10) hx hb hg in_X8 hown hK hP 0 rfl rfl 3 (by decide) (hg _ q128) (fun _ h9 => h9) rfl dX8_document_51 ?_
    have hPc := hP.sub (ws' := [(a4, .inr (3, [.int c1_75, .ref qa_76, .int 1]))]) [1] rfl
    have hKc := hK.sub (tys' := []) [] rfl
    refine va_calli (va_runV (As := []) (rest := []) ⟨hx, hb, hml, hown, hts⟩ (k_Jx4a65c_size_8abf5 l G z a4 c1_75 qa_76 1 H_77.size ) (cwV 0 hts (lw_goodApp (lw_4 q160 q161 q162 q4) q163) rfl rfl rfl (by decide +kernel) ⟨Nat.le_of_ble_eq_true rfl, Nat.le_of_ble_eq_true rfl⟩) ⟨PR.blind, va_recv hK hP (ci := 3) (q0 := 1) rfl rfl, PR.of hPc hKc hG hS hA [.ref a4]⟩ rfl rfl hl.1 rfl (lv_room (Nat.le_of_ble_eq_true rfl)) dX8_document_54 ⟨Nat.le_of_ble_eq_true rfl, Nat.le_of_ble_eq_true rfl⟩) hS (fun q h9 h => zN.not h9 h) (fun q h => hA q (Nat.le_trans hS.1 h)) (fun r_82 u t_84 H_81 locs ht hvm hw_83 hB hz1 hk1 hS => ?_)
    have hP := hP.grown hk1
    refine W.widen (k := 8) (n := 635) (Nat.le_of_ble_eq_true rfl) (Nat.le_of_ble_eq_true rfl) ?_
    obtain rfl : 1 = r_82 := hw_83.symm
    refine lv_iconst (v := 1) hx hb dX8_document_57 (by decide) ?_
    refine lv_isub hx hb dX8_document_58 ?_
    refine lv_topi (fun f_85 ef_85 => ?_)
    obtain rfl : f_85 = 0 := ef_85.trans (by decide)
    refine W.widen (k := 8) (n := 1035) (Nat.le_of_ble_eq_true rfl) (Nat.le_of_ble_eq_true rfl) ?_
    refine vx_ret ?_
    have hP9 := hP.sub (ws' := []) [] rfl
    have hD9 := hD.sub (ws' := []) [] (by decide) rfl
    have hK9 := hK.sub (tys' := []) [] rfl
    exact W.iret (v := 0) hx hb hr (fun t ht hW => ⟨⟨0, (), rfl, ⟨rfl, hw_3, hw_8⟩, QW.of hP9 hK9 hD9 ht hW.alike⟩, hS.F ht⟩) hS.2.2 dX8_document_59
  · refine lv_iload_n hx hb dX8_document_32 rfl (lv_at hl 1 rfl) ?_
    refine lv_iconst (v := 1) hx hb dX8_document_33 (by decide) ?_
    refine lv_iload_n hx hb dX8_document_34 rfl (lv_at hl 2 rfl) ?_
    refine lv_ishl hx hb dX8_document_35 ?_
    refine lv_topi (fun f_86 ef_86 => ?_)
    obtain rfl : f_86 = 8 := ef_86.trans (by decide)
    have hPc := hP.sub (ws' := [(o_21, .inr (5, [.int 0, .int 0, .null, .null, .null, .int 0, .int 0]))]) [5] rfl
    have hKc := hK.sub (tys' := []) [] rfl
    have hDc := hD.sub (ws' := [(o_21, .inr (5, [.int 0, .int 0, .null, .null, .null, .int 0, .int 0]))]) [5] (by decide) rfl
    have hFc := va_free (wc := [(o_21, .inr (5, [.int 0, .int 0, .null, .null, .null, .int 0, .int 0]))]) hD hS hA [5] rfl
    refine va_callv (va_runI (As := [.int p0, .int 8]) (rest := [.ref o_21, .ref a4]) ⟨hx, hb, hml, hown, hts⟩ (k_X1_init_8 l G z o_21 p0 H_22.size ) (cwI 2 hts (lw_goodAll q807) rfl rfl rfl (hg _ q32) (hg _ q805) (hg _ q806) rfl (by decide +kernel) ⟨Nat.le_of_ble_eq_true rfl, Nat.le_of_ble_eq_true rfl⟩) ⟨PW.blind, PW.of hPc hKc hDc hG hS hFc [.ref o_21, .int p0, .int 8]⟩ rfl rfl hl.1 rfl (lv_room (Nat.le_of_ble_eq_true rfl)) dX8_document_36 ⟨Nat.le_of_ble_eq_true rfl, Nat.le_of_ble_eq_true rfl⟩) hS (fun q _ h => hFc q h) hFc (fun u t_90 H_87 locs ht hvm hw_89 hB hz1 hk1 hS => ?_)
    obtain ⟨fsx_91, hB⟩ := hB
    obtain ⟨hP, hD, hK⟩ := QW.join (wr := [(h0, .inr (12, [.ref a1, .ref a2, .ref a3, .ref a4, .ref a5, .ref a6, .ref a7, .ref a8, .int tol, .int sal])), (a4, .inr (3, [.int c0, .ref z, .int 0])), (a7, .inr (4, [.ref d1, .ref d2, .ref d3, .ref d4, .int 0, .int ag])), (d4, .inl (cyO, 20, .inr (.inr (.inr (.inr (fS)))))), (r0, .inl (cyI, 20, .inl (fR)))]) (w1 := [(o_21, .inr (5, fsx_91))]) hP hD hK [5] [0, 1, 2, 3, 4] rfl rfl (by decide) (by decide) hk1 hFc ht hvm hB
    have hP : va_P G vwCl ([(h0, .inr (12, [.ref a1, .ref a2, .ref a3, .ref a4, .ref a5, .ref a6, .ref a7, .ref a8, .int tol, .int sal])), (a4, .inr (3, [.int c0, .ref z, .int 0])), (a7, .inr (4, [.ref d1, .ref d2, .ref d3, .ref d4, .int 0, .int ag])), (d4, .inl (cyO, 20, .inr (.inr (.inr (.inr (fS)))))), (r0, .inl (cyI, 20, .inl (fR))), (o_21, .inr (5, fsx_91))]) H_87 := hP
    have hD : va_D A ([(h0, .inr (12, [.ref a1, .ref a2, .ref a3, .ref a4, .ref a5, .ref a6, .ref a7, .ref a8, .int tol, .int sal])), (a4, .inr (3, [.int c0, .ref z, .int 0])), (a7, .inr (4, [.ref d1, .ref d2, .ref d3, .ref d4, .int 0, .int ag])), (d4, .inl (cyO, 20, .inr (.inr (.inr (.inr (fS)))))), (r0, .inl (cyI, 20, .inl (fR))), (o_21, .inr (5, fsx_91))]) := hD
    have hK : va_K G vwCl [(cyO, .array .int), (cyI, .int)] s := hK
    refine W.widen (k := 7) (n := 1025) (Nat.le_of_ble_eq_true rfl) (Nat.le_of_ble_eq_true rfl) ?_
    have hPc := hP.sub (ws' := [(a4, .inr (3, [.int c0, .ref z, .int 0])), (o_21, .inr (5, fsx_91))]) [1, 5] rfl
    have hKc := hK.sub (tys' := []) [] rfl
    have hDc := hD.sub (ws' := [(a4, .inr (3, [.int c0, .ref z, .int 0])), (o_21, .inr (5, fsx_91))]) [1, 5] (by decide) rfl
    have hFc := va_free (wc := [(a4, .inr (3, [.int c0, .ref z, .int 0])), (o_21, .inr (5, fsx_91))]) hD hS hA [1, 5] rfl
    refine va_calli (va_runV (As := [.ref o_21]) (rest := []) ⟨hx, hb, hml, hown, hts⟩ (k_Jx4a65c_add_9ea2d l G z a4 c0 o_21 5 ((RX1, TX1, 7)) fsx_91 H_87.size rfl qf1763) (cwV 1 hts (lw_goodApp (lw_4 q448 q449 q450 q4) q451) rfl rfl rfl (by decide +kernel) ⟨Nat.le_of_ble_eq_true rfl, Nat.le_of_ble_eq_true rfl⟩) ⟨PW.blind, va_recv hK hP (ci := 3) (q0 := 1) rfl rfl, PW.of hPc hKc hDc hG hS hFc [.ref a4, .ref o_21]⟩ rfl rfl hl.1 rfl (lv_room (Nat.le_of_ble_eq_true rfl)) dX8_document_39 ⟨Nat.le_of_ble_eq_true rfl, Nat.le_of_ble_eq_true rfl⟩) hS (fun q _ h => hFc q h) hFc (fun r_93 u t_95 H_92 locs ht hvm hw_94 hB hz1 hk1 hS => ?_)
    obtain ⟨c1_96, qa_97, hB⟩ := hB
    obtain ⟨hP, hD, hK⟩ := QW.join (wr := [(h0, .inr (12, [.ref a1, .ref a2, .ref a3, .ref a4, .ref a5, .ref a6, .ref a7, .ref a8, .int tol, .int sal])), (a7, .inr (4, [.ref d1, .ref d2, .ref d3, .ref d4, .int 0, .int ag])), (d4, .inl (cyO, 20, .inr (.inr (.inr (.inr (fS)))))), (r0, .inl (cyI, 20, .inl (fR)))]) (w1 := [(a4, .inr (3, [.int c1_96, .ref qa_97, .int 1])), (o_21, .inr (5, fsx_91))]) hP hD hK [1, 5] [0, 2, 3, 4] rfl rfl (by decide) (by decide) hk1 hFc ht hvm hB
    have hP : va_P G vwCl ([(h0, .inr (12, [.ref a1, .ref a2, .ref a3, .ref a4, .ref a5, .ref a6, .ref a7, .ref a8, .int tol, .int sal])), (a7, .inr (4, [.ref d1, .ref d2, .ref d3, .ref d4, .int 0, .int ag])), (d4, .inl (cyO, 20, .inr (.inr (.inr (.inr (fS)))))), (r0, .inl (cyI, 20, .inl (fR))), (a4, .inr (3, [.int c1_96, .ref qa_97, .int 1])), (o_21, .inr (5, fsx_91))]) H_92 := hP
    have hD : va_D A ([(h0, .inr (12, [.ref a1, .ref a2, .ref a3, .ref a4, .ref a5, .ref a6, .ref a7, .ref a8, .int tol, .int sal])), (a7, .inr (4, [.ref d1, .ref d2, .ref d3, .ref d4, .int 0, .int ag])), (d4, .inl (cyO, 20, .inr (.inr (.inr (.inr (fS)))))), (r0, .inl (cyI, 20, .inl (fR))), (a4, .inr (3, [.int c1_96, .ref qa_97, .int 1])), (o_21, .inr (5, fsx_91))]) := hD
    have hK : va_K G vwCl [(cyO, .array .int), (cyI, .int)] s := hK
    refine W.widen (k := 8) (n := 1035) (Nat.le_of_ble_eq_true rfl) (Nat.le_of_ble_eq_true rfl) ?_
    obtain rfl : 1 = r_93 := hw_94.symm
    refine lv_pop hx hb dX8_document_42 rfl ?_
    refine lv_aload_n hx hb dX8_document_43 rfl (lv_at hl 0 rfl) ?_
    refine va_get (D := G) (ci := 12) (v := .ref a7) (C := RX8) (T := TX8) (N := 10) hx hb hg in_X8 hown hK hP 0 rfl rfl 6 (by decide) (hg _ q131) (fun _ h9 => h9) rfl dX8_document_44 ?_
    have hPc := hP.sub (ws' := [(a7, .inr (4, [.ref d1, .ref d2, .ref d3, .ref d4, .int 0, .int ag])), (d4, .inl (cyO, 20, .inr (.inr (.inr (.inr (fS)))))), (r0, .inl (cyI, 20, .inl (fR)))]) [1, 2, 3] rfl
    have hKc := hK.sub (tys' := [(cyO, .array .int), (cyI, .int)]) [0, 1] rfl
    have hDc := hD.sub (ws' := [(a7, .inr (4, [.ref d1, .ref d2, .ref d3, .ref d4, .int 0, .int ag])), (d4, .inl (cyO, 20, .inr (.inr (.inr (.inr (fS)))))), (r0, .inl (cyI, 20, .inl (fR)))]) [1, 2, 3] (by decide) rfl
    have hFc := va_free (wc := [(a7, .inr (4, [.ref d1, .ref d2, .ref d3, .ref d4, .int 0, .int ag])), (d4, .inl (cyO, 20, .inr (.inr (.inr (.inr (fS)))))), (r0, .inl (cyI, 20, .inl (fR)))]) hD hS hA [1, 2, 3] rfl
    refine va_callv (va_runV (As := []) (rest := []) ⟨hx, hb, hml, hown, hts⟩ (k_X0_addDocument l G z a7 d1 d2 d3 d4 ag cyO fS cyI fR r0 H_92.size hfS) (cwV 0 hts (lw_goodApp (lw_4 q837 q838 q839 q6) q840) rfl rfl rfl (by decide +kernel) ⟨Nat.le_of_ble_eq_true rfl, Nat.le_of_ble_eq_true rfl⟩) ⟨PW.blind, va_recv hK hP (ci := 4) (q0 := 1) rfl rfl, PW.of hPc hKc hDc hG hS hFc [.ref a7]⟩ rfl rfl hl.1 rfl (lv_room (Nat.le_of_ble_eq_true rfl)) dX8_document_47 ⟨Nat.le_of_ble_eq_true rfl, Nat.le_of_ble_eq_true rfl⟩) hS (fun q _ h => hFc q h) hFc (fun u t_101 H_98 locs ht hvm hw_100 hB hz1 hk1 hS => ?_)
    obtain ⟨hP, hD, hK⟩ := QW.join (wr := [(h0, .inr (12, [.ref a1, .ref a2, .ref a3, .ref a4, .ref a5, .ref a6, .ref a7, .ref a8, .int tol, .int sal])), (a4, .inr (3, [.int c1_96, .ref qa_97, .int 1])), (o_21, .inr (5, fsx_91))]) (w1 := []) hP hD hK [1, 2, 3] [0, 4, 5] rfl rfl (by decide) (by decide) hk1 hFc ht hvm hB
    have hP : va_P G vwCl ([(h0, .inr (12, [.ref a1, .ref a2, .ref a3, .ref a4, .ref a5, .ref a6, .ref a7, .ref a8, .int tol, .int sal])), (a4, .inr (3, [.int c1_96, .ref qa_97, .int 1])), (o_21, .inr (5, fsx_91))]) H_98 := hP
    have hD : va_D A ([(h0, .inr (12, [.ref a1, .ref a2, .ref a3, .ref a4, .ref a5, .ref a6, .ref a7, .ref a8, .int tol, .int sal])), (a4, .inr (3, [.int c1_96, .ref qa_97, .int 1])), (o_21, .inr (5, fsx_91))]) := hD
    have hK : va_K G vwCl [(cyO, .array .int), (cyI, .int)] s := hK
    refine W.widen (k := 8) (n := 1035) (Nat.le_of_ble_eq_true rfl) (Nat.le_of_ble_eq_true rfl) ?_
    refine lv_aload_n hx hb dX8_document_50 rfl (lv_at hl 0 rfl) ?_
    refine va_get (D := G) (ci := 12) (v := .ref a4) (C := RX8) (T := TX8) (N := 10) hx hb hg in_X8 hown hK hP 0 rfl rfl 3 (by decide) (hg _ q128) (fun _ h9 => h9) rfl dX8_document_51 ?_
    have hPc := hP.sub (ws' := [(a4, .inr (3, [.int c1_96, .ref qa_97, .int 1]))]) [1] rfl
    have hKc := hK.sub (tys' := []) [] rfl
    refine va_calli (va_runV (As := []) (rest := []) ⟨hx, hb, hml, hown, hts⟩ (k_Jx4a65c_size_8abf5 l G z a4 c1_96 qa_97 1 H_98.size ) (cwV 0 hts (lw_goodApp (lw_4 q160 q161 q162 q4) q163) rfl rfl rfl (by decide +kernel) ⟨Nat.le_of_ble_eq_true rfl, Nat.le_of_ble_eq_true rfl⟩) ⟨PR.blind, va_recv hK hP (ci := 3) (q0 := 1) rfl rfl, PR.of hPc hKc hG hS hA [.ref a4]⟩ rfl rfl hl.1 rfl (lv_room (Nat.le_of_ble_eq_true rfl)) dX8_document_54 ⟨Nat.le_of_ble_eq_true rfl, Nat.le_of_ble_eq_true rfl⟩) hS (fun q h9 h => zN.not h9 h) (fun q h => hA q (Nat.le_trans hS.1 h)) (fun r_103 u t_105 H_102 locs ht hvm hw_104 hB hz1 hk1 hS => ?_)
    have hP := hP.grown hk1
    refine W.widen (k := 8) (n := 1035) (Nat.le_of_ble_eq_true rfl) (Nat.le_of_ble_eq_true rfl) ?_
    obtain rfl : 1 = r_103 := hw_104.symm
    refine lv_iconst (v := 1) hx hb dX8_document_57 (by decide) ?_
    refine lv_isub hx hb dX8_document_58 ?_
    refine lv_topi (fun f_106 ef_106 => ?_)
    obtain rfl : f_106 = 0 := ef_106.trans (by decide)
    refine W.widen (k := 8) (n := 1035) (Nat.le_of_ble_eq_true rfl) (Nat.le_of_ble_eq_true rfl) ?_
    refine vx_ret ?_
    have hP9 := hP.sub (ws' := []) [] rfl
    have hD9 := hD.sub (ws' := []) [] (by decide) rfl
    have hK9 := hK.sub (tys' := []) [] rfl
    exact W.iret (v := 0) hx hb hr (fun t ht hW => ⟨⟨0, (), rfl, ⟨rfl, hw_3, hw_8⟩, QW.of hP9 hK9 hD9 ht hW.alike⟩, hS.F ht⟩) hS.2.2 dX8_document_59

abbrev wz_X8_checkEntry : List Cond := .code yX8_checkEntry cX8_checkEntry 2 none :: lw_good
set_option maxHeartbeats 4000000 in
set_option maxRecDepth 100000 in
/-- checkEntry -/
theorem k_X8_checkEntry (l : Launch) (hfl : l.stackTraces = false) (G : va_G) (z : Nat) (p0 : Int32) (p1 : Int32) (sz : Nat)  : vx_Met l yX8_checkEntry wz_X8_checkEntry ({ frames := 7, cells := 2, slots := 12, locals := 104 }) (va_Pc [.int p0, .int p1] (PR G z [] [] sz)) (va_Qv (fun (_ : Unit) => okE p0 p1) (fun (_ : Unit) (_ : State) => True) (zN sz)) (zX (¬ okE p0 p1) "java/lang/IllegalArgumentException" (zN sz)) 2 12 (zN sz) := by
  refine vx_ofW (cc := cX8_checkEntry) (maxL := 2) (ret := none) (by decide) rfl ?_
  intro p e s m args below meth c s₁ B hml htab hv
  obtain ⟨rfl, rfl, hP, hK, hG⟩ := hv
  have hx := B.exec
  have hb := B.bytes
  have hr := B.returns
  have hts := atoms_spec (ws := wz_X8_checkEntry) B.pre
  have hg : ∀ w ∈ lw_good, w.before _ s = true := fun w h => hts w (List.mem_cons_of_mem _ h)
  have hown : s.vm.findClass RX8 = some m.cls := findClass_of_methodNamed B.named
  have hlocks := B.notSynchronized
  have hA : ∀ q : Nat, s.heap.size ≤ q → zN s.heap.size q := fun _ h => h
  have hS : va_S (zN s.heap.size) s.heap s.heap [] := va_S.rf
  have hl := lv_entry ([.int p0, .int p1]) (n := 2) (Nat.le_of_ble_eq_true rfl)
  rw [lg_entry_eq]
  generalize (lg_sl ([.int p0, .int p1]) ++ List.replicate (2 - (lg_sl ([.int p0, .int p1])).length) Slot.unset).toArray = ls at hl ⊢
  have hl : lv_has ls 2 [(0, .int p0), (1, .int p1)] := hl
  refine lv_iload_n hx hb dX8_checkEntry_0 rfl (lv_at hl 0 rfl) ?_
  refine lv_iconst (v := 0) hx hb dX8_checkEntry_1 (by decide) ?_
  refine lv_iconst (v := 3) hx hb dX8_checkEntry_2 (by decide) ?_
  have hPc := hP.sub (ws' := []) [] rfl
  have hKc := hK.sub (tys' := []) [] rfl
  refine vx_callv (vx_runS (As := [.int p0, .int 0, .int 3]) (rest := []) ⟨hx, hb, hml, hown, hts⟩ (k_X8_checkRange l hfl G z p0 0 3 s.heap.size ) (va_cwS 3 hts (lw_goodApp (lw_3 q308 q309 q1) q310) rfl rfl rfl (by decide +kernel) ⟨Nat.le_of_ble_eq_true rfl, Nat.le_of_ble_eq_true rfl⟩) ⟨PR.blind, PR.of hPc hKc hG hS hA [.int p0, .int 0, .int 3]⟩ rfl rfl hl.1 rfl (lv_room (Nat.le_of_ble_eq_true rfl)) dX8_checkEntry_3 ⟨Nat.le_of_ble_eq_true rfl, Nat.le_of_ble_eq_true rfl⟩) hS (fun q h9 h => zN.not h9 h) (fun q h => hA q (Nat.le_trans hS.1 h)) (fun q h9 h => zN.not h9 h) (fun E ce q9 ux t_4 H_1 locs ht hvm px_5 hE hz1 hk1 hS hq9 hv9 hcl9 => ?_) (fun u t_4 H_1 locs ht hvm hw_3 hB hz1 hk1 hS => ?_)
  · exact vx_out (fun x9 h9 => (htab x9 h9).elim) hlocks hq9 hv9 hcl9 (fun t2 ht2 hal2 => zX.same (fun h9 => px_5 h9.1) hE hS ht2) hS.2.2 (Nat.le_of_ble_eq_true rfl) (Nat.le_of_ble_eq_true rfl)
  have hP := hP.grown hk1
  refine W.widen (k := 1) (n := 6) (Nat.le_of_ble_eq_true rfl) (Nat.le_of_ble_eq_true rfl) ?_
  refine lv_iload_n hx hb dX8_checkEntry_6 rfl (lv_at hl 1 rfl) ?_
  refine lv_iconst (v := 0) hx hb dX8_checkEntry_7 (by decide) ?_
  refine lv_bipush (v := 99) hx hb dX8_checkEntry_8 (by decide) ?_
  have hPc := hP.sub (ws' := []) [] rfl
  have hKc := hK.sub (tys' := []) [] rfl
  refine vx_callv (vx_runS (As := [.int p1, .int 0, .int 99]) (rest := []) ⟨hx, hb, hml, hown, hts⟩ (k_X8_checkRange l hfl G z p1 0 99 H_1.size ) (va_cwS 3 hts (lw_goodApp (lw_3 q308 q309 q1) q310) rfl rfl rfl (by decide +kernel) ⟨Nat.le_of_ble_eq_true rfl, Nat.le_of_ble_eq_true rfl⟩) ⟨PR.blind, PR.of hPc hKc hG hS hA [.int p1, .int 0, .int 99]⟩ rfl rfl hl.1 rfl (lv_room (Nat.le_of_ble_eq_true rfl)) dX8_checkEntry_10 ⟨Nat.le_of_ble_eq_true rfl, Nat.le_of_ble_eq_true rfl⟩) hS (fun q h9 h => zN.not h9 h) (fun q h => hA q (Nat.le_trans hS.1 h)) (fun q h9 h => zN.not h9 h) (fun E ce q9 ux t_9 H_6 locs ht hvm px_10 hE hz1 hk1 hS hq9 hv9 hcl9 => ?_) (fun u t_9 H_6 locs ht hvm hw_8 hB hz1 hk1 hS => ?_)
  · exact vx_out (fun x9 h9 => (htab x9 h9).elim) hlocks hq9 hv9 hcl9 (fun t2 ht2 hal2 => zX.same (fun h9 => px_10 h9.2) hE hS ht2) hS.2.2 (Nat.le_of_ble_eq_true rfl) (Nat.le_of_ble_eq_true rfl)
  have hP := hP.grown hk1
  refine W.widen (k := 2) (n := 12) (Nat.le_of_ble_eq_true rfl) (Nat.le_of_ble_eq_true rfl) ?_
  refine W.widen (k := 2) (n := 12) (Nat.le_of_ble_eq_true rfl) (Nat.le_of_ble_eq_true rfl) ?_
  refine vx_ret ?_
  exact W.vret hx hb hr (fun t ht hW => ⟨⟨(), rfl, ⟨hw_3, hw_8⟩, trivial⟩, hS.F ht⟩) hS.2.2 dX8_checkEntry_13
