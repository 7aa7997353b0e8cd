theorem q1648 : Cond.code yX14_merge prog_11_method_47_code 9 (Option.some Jvm.ClassFile.FieldType.boolean) ∈ lw_good := lw_in (i := 1648) (by decide +kernel) (by decide +kernel)
theorem q1649 : Cond.methodLink "WatermarkmillModel" 252 yX14_repertory ∈ lw_good := lw_in (i := 1649) (by decide +kernel) (by decide +kernel)
theorem q1651 : Cond.instanceMethod yX14_repertory ∈ lw_good := lw_in (i := 1651) (by decide +kernel) (by decide +kernel)
theorem q1652 : Cond.code yX14_repertory prog_11_method_46_code 4 (Option.some (Jvm.ClassFile.FieldType.array Jvm.ClassFile.FieldType.int)) ∈ lw_good := lw_in (i := 1652) (by decide +kernel) (by decide +kernel)
theorem q1660 : Cond.code yX14_entry prog_11_method_49_code 3 (Option.some Jvm.ClassFile.FieldType.int) ∈ lw_good := lw_in (i := 1660) (by decide +kernel) (by decide +kernel)
theorem q1664 : Cond.code yX14_clashes prog_11_method_50_code 6 (Option.some Jvm.ClassFile.FieldType.int) ∈ lw_good := lw_in (i := 1664) (by decide +kernel) (by decide +kernel)
theorem qs33 : Cond.selects "WatermarkmillModel" yX14_repertory yX14_repertory ∈ lw_good := lw_inS (i := 33) (by decide +kernel) (by decide +kernel)
theorem dX14_clashes_0 : decode cX14_clashes 0 = .ok (.aload_n 0, 1) := by decide +kernel
theorem dX14_clashes_1 : decode cX14_clashes 1 = .ok (.iconst 0, 1) := by decide +kernel
theorem dX14_clashes_10 : decode cX14_clashes 10 = .ok (.iconst 0, 1) := by decide +kernel
theorem dX14_clashes_101 : decode cX14_clashes 101 = .ok (.iload_n 2, 1) := by decide +kernel
theorem dX14_clashes_102 : decode cX14_clashes 102 = .ok (.ireturn, 1) := by decide +kernel
theorem dX14_clashes_11 : decode cX14_clashes 11 = .ok (.istore_n 2, 1) := by decide +kernel
theorem dX14_clashes_12 : decode cX14_clashes 12 = .ok (.iconst 0, 1) := by decide +kernel
theorem dX14_clashes_13 : decode cX14_clashes 13 = .ok (.istore_n 3, 1) := by decide +kernel
theorem dX14_clashes_14 : decode cX14_clashes 14 = .ok (.iload_n 3, 1) := by decide +kernel
theorem dX14_clashes_15 : decode cX14_clashes 15 = .ok (.sipush 400, 3) := by decide +kernel
theorem dX14_clashes_18 : decode cX14_clashes 18 = .ok (.if_icmp .ge 83, 3) := by decide +kernel
theorem dX14_clashes_2 : decode cX14_clashes 2 = .ok (.putfield 59, 3) := by decide +kernel
theorem dX14_clashes_21 : decode cX14_clashes 21 = .ok (.iconst 0, 1) := by decide +kernel
theorem dX14_clashes_22 : decode cX14_clashes 22 = .ok (.istore 4, 2) := by decide +kernel
theorem dX14_clashes_24 : decode cX14_clashes 24 = .ok (.iload_n 3, 1) := by decide +kernel
theorem dX14_clashes_25 : decode cX14_clashes 25 = .ok (.bipush 100, 2) := by decide +kernel
theorem dX14_clashes_27 : decode cX14_clashes 27 = .ok (.idiv, 1) := by decide +kernel
theorem dX14_clashes_28 : decode cX14_clashes 28 = .ok (.bipush 100, 2) := by decide +kernel
theorem dX14_clashes_30 : decode cX14_clashes 30 = .ok (.imul, 1) := by decide +kernel
theorem dX14_clashes_31 : decode cX14_clashes 31 = .ok (.istore 5, 2) := by decide +kernel
theorem dX14_clashes_33 : decode cX14_clashes 33 = .ok (.iload 5, 2) := by decide +kernel
theorem dX14_clashes_35 : decode cX14_clashes 35 = .ok (.iload_n 3, 1) := by decide +kernel
theorem dX14_clashes_36 : decode cX14_clashes 36 = .ok (.bipush 100, 2) := by decide +kernel
theorem dX14_clashes_38 : decode cX14_clashes 38 = .ok (.idiv, 1) := by decide +kernel
theorem dX14_clashes_39 : decode cX14_clashes 39 = .ok (.bipush 100, 2) := by decide +kernel
theorem dX14_clashes_41 : decode cX14_clashes 41 = .ok (.imul, 1) := by decide +kernel
theorem dX14_clashes_42 : decode cX14_clashes 42 = .ok (.bipush 100, 2) := by decide +kernel
theorem dX14_clashes_44 : decode cX14_clashes 44 = .ok (.iadd, 1) := by decide +kernel
theorem dX14_clashes_45 : decode cX14_clashes 45 = .ok (.if_icmp .ge 37, 3) := by decide +kernel
theorem dX14_clashes_48 : decode cX14_clashes 48 = .ok (.iload 4, 2) := by decide +kernel
theorem dX14_clashes_5 : decode cX14_clashes 5 = .ok (.aload_n 0, 1) := by decide +kernel
theorem dX14_clashes_50 : decode cX14_clashes 50 = .ok (.ifCond .ne 19, 3) := by decide +kernel
theorem dX14_clashes_53 : decode cX14_clashes 53 = .ok (.iload 5, 2) := by decide +kernel
theorem dX14_clashes_55 : decode cX14_clashes 55 = .ok (.iload_n 3, 1) := by decide +kernel
theorem dX14_clashes_56 : decode cX14_clashes 56 = .ok (.if_icmp .eq 17, 3) := by decide +kernel
theorem dX14_clashes_59 : decode cX14_clashes 59 = .ok (.aload_n 1, 1) := by decide +kernel
theorem dX14_clashes_6 : decode cX14_clashes 6 = .ok (.invokevirtual 252, 3) := by decide +kernel
theorem dX14_clashes_60 : decode cX14_clashes 60 = .ok (.iload_n 3, 1) := by decide +kernel
theorem dX14_clashes_61 : decode cX14_clashes 61 = .ok (.iaload, 1) := by decide +kernel
theorem dX14_clashes_62 : decode cX14_clashes 62 = .ok (.aload_n 1, 1) := by decide +kernel
theorem dX14_clashes_63 : decode cX14_clashes 63 = .ok (.iload 5, 2) := by decide +kernel
theorem dX14_clashes_65 : decode cX14_clashes 65 = .ok (.iaload, 1) := by decide +kernel
theorem dX14_clashes_66 : decode cX14_clashes 66 = .ok (.if_icmp .ne 7, 3) := by decide +kernel
theorem dX14_clashes_73 : decode cX14_clashes 73 = .ok (.iconst 0, 1) := by decide +kernel
theorem dX14_clashes_74 : decode cX14_clashes 74 = .ok (.istore 4, 2) := by decide +kernel
theorem dX14_clashes_76 : decode cX14_clashes 76 = .ok (.iinc 5 1, 3) := by decide +kernel
theorem dX14_clashes_79 : decode cX14_clashes 79 = .ok (.goto (-46), 3) := by decide +kernel
theorem dX14_clashes_82 : decode cX14_clashes 82 = .ok (.iload_n 2, 1) := by decide +kernel
theorem dX14_clashes_83 : decode cX14_clashes 83 = .ok (.iload 4, 2) := by decide +kernel
theorem dX14_clashes_85 : decode cX14_clashes 85 = .ok (.ifCond .eq 7, 3) := by decide +kernel
theorem dX14_clashes_9 : decode cX14_clashes 9 = .ok (.astore_n 1, 1) := by decide +kernel
theorem dX14_clashes_92 : decode cX14_clashes 92 = .ok (.iconst 0, 1) := by decide +kernel
theorem dX14_clashes_93 : decode cX14_clashes 93 = .ok (.iadd, 1) := by decide +kernel
theorem dX14_clashes_94 : decode cX14_clashes 94 = .ok (.istore_n 2, 1) := by decide +kernel
theorem dX14_clashes_95 : decode cX14_clashes 95 = .ok (.iinc 3 1, 3) := by decide +kernel
theorem dX14_clashes_98 : decode cX14_clashes 98 = .ok (.goto (-84), 3) := by decide +kernel
theorem dX14_entry_0 : decode cX14_entry 0 = .ok (.aload_n 0, 1) := by decide +kernel
theorem dX14_entry_1 : decode cX14_entry 1 = .ok (.iload_n 1, 1) := by decide +kernel
theorem dX14_entry_10 : decode cX14_entry 10 = .ok (.iload_n 2, 1) := by decide +kernel
theorem dX14_entry_11 : decode cX14_entry 11 = .ok (.iconst 0, 1) := by decide +kernel
theorem dX14_entry_12 : decode cX14_entry 12 = .ok (.bipush 99, 2) := by decide +kernel
theorem dX14_entry_14 : decode cX14_entry 14 = .ok (.invokestatic 62, 3) := by decide +kernel
theorem dX14_entry_17 : decode cX14_entry 17 = .ok (.ifCond .eq 7, 3) := by decide +kernel
theorem dX14_entry_2 : decode cX14_entry 2 = .ok (.iconst 0, 1) := by decide +kernel
theorem dX14_entry_20 : decode cX14_entry 20 = .ok (.iconst 0, 1) := by decide +kernel
theorem dX14_entry_21 : decode cX14_entry 21 = .ok (.goto 4, 3) := by decide +kernel
theorem dX14_entry_24 : decode cX14_entry 24 = .ok (.iconst 1, 1) := by decide +kernel
theorem dX14_entry_25 : decode cX14_entry 25 = .ok (.invokevirtual 74, 3) := by decide +kernel
theorem dX14_entry_28 : decode cX14_entry 28 = .ok (.ifCond .eq 7, 3) := by decide +kernel
theorem dX14_entry_3 : decode cX14_entry 3 = .ok (.iconst 3, 1) := by decide +kernel
theorem dX14_entry_31 : decode cX14_entry 31 = .ok (.iconst 0, 1) := by decide +kernel
theorem dX14_entry_32 : decode cX14_entry 32 = .ok (.goto 14, 3) := by decide +kernel
theorem dX14_entry_35 : decode cX14_entry 35 = .ok (.aload_n 0, 1) := by decide +kernel
theorem dX14_entry_36 : decode cX14_entry 36 = .ok (.invokevirtual 252, 3) := by decide +kernel
theorem dX14_entry_39 : decode cX14_entry 39 = .ok (.bipush 100, 2) := by decide +kernel
theorem dX14_entry_4 : decode cX14_entry 4 = .ok (.invokestatic 62, 3) := by decide +kernel
theorem dX14_entry_41 : decode cX14_entry 41 = .ok (.iload_n 1, 1) := by decide +kernel
theorem dX14_entry_42 : decode cX14_entry 42 = .ok (.imul, 1) := by decide +kernel
theorem dX14_entry_43 : decode cX14_entry 43 = .ok (.iload_n 2, 1) := by decide +kernel
theorem dX14_entry_44 : decode cX14_entry 44 = .ok (.iadd, 1) := by decide +kernel
theorem dX14_entry_45 : decode cX14_entry 45 = .ok (.iaload, 1) := by decide +kernel
theorem dX14_entry_46 : decode cX14_entry 46 = .ok (.ireturn, 1) := by decide +kernel
theorem dX14_entry_7 : decode cX14_entry 7 = .ok (.ifCond .eq 17, 3) := by decide +kernel
theorem dX14_merge_0 : decode cX14_merge 0 = .ok (.aload_n 0, 1) := by decide +kernel
theorem dX14_merge_1 : decode cX14_merge 1 = .ok (.iload_n 1, 1) := by decide +kernel
theorem dX14_merge_10 : decode cX14_merge 10 = .ok (.iload_n 3, 1) := by decide +kernel
theorem dX14_merge_100 : decode cX14_merge 100 = .ok (.iload 5, 2) := by decide +kernel
theorem dX14_merge_102 : decode cX14_merge 102 = .ok (.iaload, 1) := by decide +kernel
theorem dX14_merge_103 : decode cX14_merge 103 = .ok (.aload 7, 2) := by decide +kernel
theorem dX14_merge_105 : decode cX14_merge 105 = .ok (.iload 6, 2) := by decide +kernel
theorem dX14_merge_107 : decode cX14_merge 107 = .ok (.iaload, 1) := by decide +kernel
theorem dX14_merge_108 : decode cX14_merge 108 = .ok (.if_icmp .eq 7, 3) := by decide +kernel
theorem dX14_merge_11 : decode cX14_merge 11 = .ok (.iconst 0, 1) := by decide +kernel
theorem dX14_merge_111 : decode cX14_merge 111 = .ok (.iconst 1, 1) := by decide +kernel
theorem dX14_merge_112 : decode cX14_merge 112 = .ok (.goto 4, 3) := by decide +kernel
theorem dX14_merge_115 : decode cX14_merge 115 = .ok (.iconst 0, 1) := by decide +kernel
theorem dX14_merge_116 : decode cX14_merge 116 = .ok (.ireturn, 1) := by decide +kernel
theorem dX14_merge_12 : decode cX14_merge 12 = .ok (.iconst 3, 1) := by decide +kernel
theorem dX14_merge_13 : decode cX14_merge 13 = .ok (.invokestatic 62, 3) := by decide +kernel
theorem dX14_merge_16 : decode cX14_merge 16 = .ok (.ifCond .eq 28, 3) := by decide +kernel
theorem dX14_merge_19 : decode cX14_merge 19 = .ok (.iload_n 2, 1) := by decide +kernel
theorem dX14_merge_2 : decode cX14_merge 2 = .ok (.iconst 0, 1) := by decide +kernel
theorem dX14_merge_20 : decode cX14_merge 20 = .ok (.iconst 0, 1) := by decide +kernel
theorem dX14_merge_21 : decode cX14_merge 21 = .ok (.bipush 99, 2) := by decide +kernel
theorem dX14_merge_23 : decode cX14_merge 23 = .ok (.invokestatic 62, 3) := by decide +kernel
theorem dX14_merge_26 : decode cX14_merge 26 = .ok (.ifCond .eq 18, 3) := by decide +kernel
theorem dX14_merge_29 : decode cX14_merge 29 = .ok (.iload 4, 2) := by decide +kernel
theorem dX14_merge_3 : decode cX14_merge 3 = .ok (.iconst 3, 1) := by decide +kernel
theorem dX14_merge_31 : decode cX14_merge 31 = .ok (.iconst 0, 1) := by decide +kernel
theorem dX14_merge_32 : decode cX14_merge 32 = .ok (.bipush 99, 2) := by decide +kernel
theorem dX14_merge_34 : decode cX14_merge 34 = .ok (.invokestatic 62, 3) := by decide +kernel
theorem dX14_merge_37 : decode cX14_merge 37 = .ok (.ifCond .eq 7, 3) := by decide +kernel
theorem dX14_merge_4 : decode cX14_merge 4 = .ok (.invokestatic 62, 3) := by decide +kernel
theorem dX14_merge_40 : decode cX14_merge 40 = .ok (.iconst 0, 1) := by decide +kernel
theorem dX14_merge_41 : decode cX14_merge 41 = .ok (.goto 4, 3) := by decide +kernel
theorem dX14_merge_44 : decode cX14_merge 44 = .ok (.iconst 1, 1) := by decide +kernel
theorem dX14_merge_45 : decode cX14_merge 45 = .ok (.invokevirtual 74, 3) := by decide +kernel
theorem dX14_merge_48 : decode cX14_merge 48 = .ok (.ifCond .eq 5, 3) := by decide +kernel
theorem dX14_merge_51 : decode cX14_merge 51 = .ok (.iconst 0, 1) := by decide +kernel
theorem dX14_merge_52 : decode cX14_merge 52 = .ok (.ireturn, 1) := by decide +kernel
theorem dX14_merge_53 : decode cX14_merge 53 = .ok (.bipush 100, 2) := by decide +kernel
theorem dX14_merge_55 : decode cX14_merge 55 = .ok (.iload_n 1, 1) := by decide +kernel
theorem dX14_merge_56 : decode cX14_merge 56 = .ok (.imul, 1) := by decide +kernel
theorem dX14_merge_57 : decode cX14_merge 57 = .ok (.iload_n 2, 1) := by decide +kernel
theorem dX14_merge_58 : decode cX14_merge 58 = .ok (.iadd, 1) := by decide +kernel
theorem dX14_merge_59 : decode cX14_merge 59 = .ok (.istore 5, 2) := by decide +kernel
theorem dX14_merge_61 : decode cX14_merge 61 = .ok (.bipush 100, 2) := by decide +kernel
theorem dX14_merge_63 : decode cX14_merge 63 = .ok (.iload_n 3, 1) := by decide +kernel
theorem dX14_merge_64 : decode cX14_merge 64 = .ok (.imul, 1) := by decide +kernel
theorem dX14_merge_65 : decode cX14_merge 65 = .ok (.iload 4, 2) := by decide +kernel
theorem dX14_merge_67 : decode cX14_merge 67 = .ok (.iadd, 1) := by decide +kernel
theorem dX14_merge_68 : decode cX14_merge 68 = .ok (.istore 6, 2) := by decide +kernel
theorem dX14_merge_7 : decode cX14_merge 7 = .ok (.ifCond .eq 37, 3) := by decide +kernel
theorem dX14_merge_70 : decode cX14_merge 70 = .ok (.aload_n 0, 1) := by decide +kernel
theorem dX14_merge_71 : decode cX14_merge 71 = .ok (.invokevirtual 252, 3) := by decide +kernel
theorem dX14_merge_74 : decode cX14_merge 74 = .ok (.astore 7, 2) := by decide +kernel
theorem dX14_merge_76 : decode cX14_merge 76 = .ok (.aload_n 0, 1) := by decide +kernel
theorem dX14_merge_77 : decode cX14_merge 77 = .ok (.getfield 28, 3) := by decide +kernel
theorem dX14_merge_80 : decode cX14_merge 80 = .ok (.iconst 2, 1) := by decide +kernel
theorem dX14_merge_81 : decode cX14_merge 81 = .ok (.newarray .int, 2) := by decide +kernel
theorem dX14_merge_83 : decode cX14_merge 83 = .ok (.dup, 1) := by decide +kernel
theorem dX14_merge_84 : decode cX14_merge 84 = .ok (.iconst 0, 1) := by decide +kernel
theorem dX14_merge_85 : decode cX14_merge 85 = .ok (.iload 5, 2) := by decide +kernel
theorem dX14_merge_87 : decode cX14_merge 87 = .ok (.iastore, 1) := by decide +kernel
theorem dX14_merge_88 : decode cX14_merge 88 = .ok (.dup, 1) := by decide +kernel
theorem dX14_merge_89 : decode cX14_merge 89 = .ok (.iconst 1, 1) := by decide +kernel
theorem dX14_merge_90 : decode cX14_merge 90 = .ok (.iload 6, 2) := by decide +kernel
theorem dX14_merge_92 : decode cX14_merge 92 = .ok (.iastore, 1) := by decide +kernel
theorem dX14_merge_93 : decode cX14_merge 93 = .ok (.invokevirtual 85, 3) := by decide +kernel
theorem dX14_merge_96 : decode cX14_merge 96 = .ok (.istore 8, 2) := by decide +kernel
theorem dX14_merge_98 : decode cX14_merge 98 = .ok (.aload 7, 2) := by decide +kernel
theorem dX14_repertory_0 : decode cX14_repertory 0 = .ok (.sipush 400, 3) := by decide +kernel
theorem dX14_repertory_12 : decode cX14_repertory 12 = .ok (.if_icmp .ge 13, 3) := by decide +kernel
theorem dX14_repertory_15 : decode cX14_repertory 15 = .ok (.aload_n 1, 1) := by decide +kernel
theorem dX14_repertory_16 : decode cX14_repertory 16 = .ok (.iload_n 2, 1) := by decide +kernel
theorem dX14_repertory_17 : decode cX14_repertory 17 = .ok (.iload_n 2, 1) := by decide +kernel
theorem dX14_repertory_18 : decode cX14_repertory 18 = .ok (.iastore, 1) := by decide +kernel
theorem dX14_repertory_19 : decode cX14_repertory 19 = .ok (.iinc 2 1, 3) := by decide +kernel
theorem dX14_repertory_22 : decode cX14_repertory 22 = .ok (.goto (-14), 3) := by decide +kernel
theorem dX14_repertory_25 : decode cX14_repertory 25 = .ok (.aload_n 0, 1) := by decide +kernel
theorem dX14_repertory_26 : decode cX14_repertory 26 = .ok (.getfield 28, 3) := by decide +kernel
theorem dX14_repertory_29 : decode cX14_repertory 29 = .ok (.invokevirtual 167, 3) := by decide +kernel
theorem dX14_repertory_3 : decode cX14_repertory 3 = .ok (.newarray .int, 2) := by decide +kernel
theorem dX14_repertory_32 : decode cX14_repertory 32 = .ok (.astore_n 2, 1) := by decide +kernel
theorem dX14_repertory_33 : decode cX14_repertory 33 = .ok (.aload_n 2, 1) := by decide +kernel
theorem dX14_repertory_34 : decode cX14_repertory 34 = .ok (.invokeinterface 171 1, 5) := by decide +kernel
theorem dX14_repertory_39 : decode cX14_repertory 39 = .ok (.ifCond .eq 30, 3) := by decide +kernel
theorem dX14_repertory_5 : decode cX14_repertory 5 = .ok (.astore_n 1, 1) := by decide +kernel
theorem dX14_repertory_6 : decode cX14_repertory 6 = .ok (.iconst 0, 1) := by decide +kernel
theorem dX14_repertory_69 : decode cX14_repertory 69 = .ok (.aload_n 1, 1) := by decide +kernel
theorem dX14_repertory_7 : decode cX14_repertory 7 = .ok (.istore_n 2, 1) := by decide +kernel
theorem dX14_repertory_70 : decode cX14_repertory 70 = .ok (.areturn, 1) := by decide +kernel
theorem dX14_repertory_8 : decode cX14_repertory 8 = .ok (.iload_n 2, 1) := by decide +kernel
theorem dX14_repertory_9 : decode cX14_repertory 9 = .ok (.sipush 400, 3) := by decide +kernel
theorem z_lt {x : Int32} {n : Nat} (h : vp_in x n) : x.toNatClampNeg < n := Nat.not_le.mp fun q => h (Or.inr q)
theorem z_rep {g : Nat → Int32} {x : Int32} (h : ∀ j, j < 400 → g j = nI j) (hx : vp_in x 400) : g x.toNatClampNeg = x := (h _ (z_lt hx)).trans (z_id hx (by decide))
theorem z_arr {cA : ClassId} {n : Nat} {f g : Nat → Int32} (h : ∀ j, j < n → f j = g j) : vp_cell cA (n, .inl f) = vp_cell cA (n, .inl g) := by
  show arrV cA n (fun j => .int (f j)) = arrV cA n (fun j => .int (g j))
  refine congrArg (fun s => ({ cls := cA, slots := s, vm := .none } : Cell)) (Array.ext_getElem? fun i => ?_)
  by_cases hi : i < n
  · exact (arrV_read cA (fun j => Value.int (f j)) hi).trans (by rw [h i hi]; exact (arrV_read cA (fun j => Value.int (g j)) hi).symm)
  · have e1 : ((arrV cA n (fun j => Value.int (f j))).slots)[i]? = none := Array.getElem?_eq_none (by rw [arrV_size]; omega)
    have e2 : ((arrV cA n (fun j => Value.int (g j))).slots)[i]? = none := Array.getElem?_eq_none (by rw [arrV_size]; omega)
    exact e1.trans e2.symm
theorem z_cong {G : va_G} {ws : va_W} {H : Heap} {a : Nat} {cA : ClassId} {n : Nat} {f g : Nat → Int32} (hP : va_P G vwCl ws H) (k : Nat) (hk : ws[k]? = some (a, .inl (cA, n, .inl f))) (h : ∀ j, j < n → f j = g j) : va_P G vwCl (ws.set k (a, .inl (cA, n, .inl g))) H := by
  intro i q hq
  rw [List.getElem?_set] at hq
  by_cases e : k = i
  · subst e
    rw [if_pos rfl] at hq
    split at hq
    · cases hq
      have := hP k _ hk
      show H[a]? = some (vp_cell cA (n, .inl g))
      rw [← z_arr h]
      exact this
    · cases hq
  · rw [if_neg e] at hq
    exact hP i q hq
abbrev wz_X14_repertory : List Cond := .code yX14_repertory cX14_repertory 4 (Option.some (Jvm.ClassFile.FieldType.array Jvm.ClassFile.FieldType.int)) :: lw_good
set_option maxHeartbeats 4000000 in
set_option maxRecDepth 100000 in
/-- repertory() with no mergings -/
theorem k_X14_repertory (l : Launch) (G : va_G) (z : Nat) (h0 : Nat) (th : Int32) (l1 : Nat) (l2 : Nat) (l3 : Nat) (l4 : Nat) (l5 : Nat) (l6 : Nat) (tol : Int32) (ag : Int32) (m1 : Nat) (m2 : Nat) (m3 : Nat) (m4 : Nat) (m5 : Nat) (m6 : Nat) (c6 : Int32) (e6 : Nat) (sz : Nat)  : Met l yX14_repertory wz_X14_repertory ({ frames := 3, cells := 2, slots := 404, locals := 61 }) (va_Pc [.ref h0] (PW G z [(h0, .inr (18, [.int th, .ref l1, .ref l2, .ref l3, .ref l4, .ref l5, .ref l6, .int 0, .int tol, .int ag, .ref m1, .ref m2, .ref m3, .ref m4, .ref m5, .ref m6])), (l6, .inr (3, [.int c6, .ref e6, .int 0]))] [] sz)) (va_Qr (fun (_ : Unit) => True) (fun (_ : Unit) (ra : Nat) (t : State) => ∃ (cyO : ClassId), ∃ (gO : Nat → Int32), (∀ j, j < 400 → gO j = nI j) ∧ QW G [(h0, .inr (18, [.int th, .ref l1, .ref l2, .ref l3, .ref l4, .ref l5, .ref l6, .int 0, .int tol, .int ag, .ref m1, .ref m2, .ref m3, .ref m4, .ref m5, .ref m6])), (l6, .inr (3, [.int c6, .ref e6, .int 0])), (ra, .inl (cyO, 400, .inl (gO)))] [(cyO, .int)] (va_A [(h0, .inr (18, [.int th, .ref l1, .ref l2, .ref l3, .ref l4, .ref l5, .ref l6, .int 0, .int tol, .int ag, .ref m1, .ref m2, .ref m3, .ref m4, .ref m5, .ref m6])), (l6, .inr (3, [.int c6, .ref e6, .int 0]))] sz) t) (va_A [(h0, .inr (18, [.int th, .ref l1, .ref l2, .ref l3, .ref l4, .ref l5, .ref l6, .int 0, .int tol, .int ag, .ref m1, .ref m2, .ref m3, .ref m4, .ref m5, .ref m6])), (l6, .inr (3, [.int c6, .ref e6, .int 0]))] sz)) 2 404 (va_A [(h0, .inr (18, [.int th, .ref l1, .ref l2, .ref l3, .ref l4, .ref l5, .ref l6, .int 0, .int tol, .int ag, .ref m1, .ref m2, .ref m3, .ref m4, .ref m5, .ref m6])), (l6, .inr (3, [.int c6, .ref e6, .int 0]))] sz) := by
  refine Met.ofW (cc := cX14_repertory) (maxL := 4) (ret := (Option.some (Jvm.ClassFile.FieldType.array Jvm.ClassFile.FieldType.int))) (by decide) rfl ?_
  intro p e s m args below meth c s₁ B hml hv
  obtain ⟨rfl, rfl, hP, hK, hD0, hG⟩ := hv
  have hx := B.exec
  have hb := B.bytes
  have hr := B.returns
  have hts := atoms_spec (ws := wz_X14_repertory) B.pre
  have hg : ∀ w ∈ lw_good, w.before _ s = true := fun w h => hts w (List.mem_cons_of_mem _ h)
  have hown : s.vm.findClass RX14 = some m.cls := findClass_of_methodNamed B.named
  have hlocks := B.notSynchronized
  have hD := hD0.self (sz := s.heap.size)
  generalize hAe : va_A [(h0, .inr (18, [.int th, .ref l1, .ref l2, .ref l3, .ref l4, .ref l5, .ref l6, .int 0, .int tol, .int ag, .ref m1, .ref m2, .ref m3, .ref m4, .ref m5, .ref m6])), (l6, .inr (3, [.int c6, .ref e6, .int 0]))] s.heap.size = A at hD hG ⊢
  have hA : ∀ q : Nat, s.heap.size ≤ q → A q := fun q h => by rw [← hAe]; exact Or.inr h
  have hS : va_S A s.heap s.heap [] := va_S.rf
  have hl := lv_entry ([.ref h0]) (n := 4) (Nat.le_of_ble_eq_true rfl)
  rw [lg_entry_eq]
  generalize (lg_sl ([.ref h0]) ++ List.replicate (4 - (lg_sl ([.ref h0])).length) Slot.unset).toArray = ls at hl ⊢
  have hl : lv_has ls 4 [(0, .ref h0)] := hl
  refine lv_sipush (v := 400) hx hb dX14_repertory_0 (by decide) ?_
  refine va_newa (atype := .int) (ty := .int) (a0 := (400, .inl (fun _ => 0))) (N' := 400) hx hb (hg _ q94) rfl hK hP hD hS hA (fun _ => rfl) (by decide) (by decide +kernel) (Nat.le_of_ble_eq_true rfl) (Nat.le_of_ble_eq_true rfl) (Nat.le_of_ble_eq_true rfl) dX14_repertory_3 (fun o_2 cy_1 H_3 hK hP hD hS => ?_)
  have hP : va_P G vwCl ([(h0, .inr (18, [.int th, .ref l1, .ref l2, .ref l3, .ref l4, .ref l5, .ref l6, .int 0, .int tol, .int ag, .ref m1, .ref m2, .ref m3, .ref m4, .ref m5, .ref m6])), (l6, .inr (3, [.int c6, .ref e6, .int 0])), (o_2, .inl (cy_1, 400, .inl (fun _ => 0)))]) H_3 := hP
  have hD : va_D A ([(h0, .inr (18, [.int th, .ref l1, .ref l2, .ref l3, .ref l4, .ref l5, .ref l6, .int 0, .int tol, .int ag, .ref m1, .ref m2, .ref m3, .ref m4, .ref m5, .ref m6])), (l6, .inr (3, [.int c6, .ref e6, .int 0])), (o_2, .inl (cy_1, 400, .inl (fun _ => 0)))]) := hD
  have hK : va_K G vwCl [(cy_1, .int)] s := hK
  refine W.widen (k := 1) (n := 400) (Nat.le_of_ble_eq_true rfl) (Nat.le_of_ble_eq_true rfl) ?_
  refine lv_astore_n (lv' := [(1, .ref o_2), (0, .ref h0)]) hx hb dX14_repertory_5 rfl hl (by decide) rfl (fun ls hl => ?_)
  refine lv_iconst (v := 0) hx hb dX14_repertory_6 (by decide) ?_
  refine lv_istore_n (lv' := [(2, .int 0), (1, .ref o_2), (0, .ref h0)]) hx hb dX14_repertory_7 rfl hl (by decide) rfl (fun ls hl => ?_)
  refine z_loop (P := fun (n : Nat) (x : Nat × (Nat → Int32)) (H : Heap) (locs : List Loc) (ls : Array Slot) => ∃ (i : Nat) (g : Nat → Int32), x = (i, g) ∧ (i ≤ 400 ∧ 401 ≤ i + n ∧ (∀ j, j < i → g j = nI j)) ∧ va_P G vwCl ([(h0, .inr (18, [.int th, .ref l1, .ref l2, .ref l3, .ref l4, .ref l5, .ref l6, .int 0, .int tol, .int ag, .ref m1, .ref m2, .ref m3, .ref m4, .ref m5, .ref m6])), (l6, .inr (3, [.int c6, .ref e6, .int 0])), (o_2, .inl (cy_1, 400, .inl (g)))]) H ∧ va_D A ([(h0, .inr (18, [.int th, .ref l1, .ref l2, .ref l3, .ref l4, .ref l5, .ref l6, .int 0, .int tol, .int ag, .ref m1, .ref m2, .ref m3, .ref m4, .ref m5, .ref m6])), (l6, .inr (3, [.int c6, .ref e6, .int 0])), (o_2, .inl (cy_1, 400, .inl (g)))]) ∧ va_S (A) s.heap H locs ∧ lv_has ls 4 [(2, .int (nI i)), (1, .ref o_2), (0, .ref h0)]) ?_ ?_ (401) ((0, fun _ => 0)) _ _ _ ⟨0, fun _ => 0, rfl, ⟨by omega, by omega, fun j h => absurd h (Nat.not_lt_zero j)⟩, hP, hD, hS, lv_sub hl [0, 1, 2] rfl⟩
  · rintro x H locs ls ⟨i, g, rfl, ⟨hi1, hi2, hi3⟩, -⟩
    omega
  · rintro n ih8 x H locs ls ⟨i, g, rfl, ⟨hi1, hi2, hi3⟩, hP, hD, hS, hl⟩
    refine lv_iload_n hx hb dX14_repertory_8 rfl (lv_at hl 0 rfl) ?_
    refine lv_sipush (v := 400) hx hb dX14_repertory_9 (by decide) ?_
    refine lv_icmp_ge (tgt := 25) hx hb dX14_repertory_12 (by decide) (fun c_4 => ?_) (fun c_4 => ?_)
    · have hge : 400 ≤ i := (nI_leI (a := 400) (by omega) (by omega)).mp c_4
      refine lv_aload_n hx hb dX14_repertory_25 rfl (lv_at hl 2 rfl) ?_
      refine va_get (D := G) (ci := 18) (v := .ref l6) (C := RX14) (T := TX14) (N := 16) hx hb hg in_X14 hown hK hP 0 rfl rfl 6 (by decide) (hg _ q1193) (fun _ h9 => h9) rfl dX14_repertory_26 ?_
      have hPc := hP.sub (ws' := [(l6, .inr (3, [.int c6, .ref e6, .int 0]))]) [1] rfl
      have hKc := hK.sub (tys' := []) [] rfl
      have hDc := hD.sub (ws' := [(l6, .inr (3, [.int c6, .ref e6, .int 0]))]) [1] (by decide) rfl
      have hFc := va_free (wc := [(l6, .inr (3, [.int c6, .ref e6, .int 0]))]) hD hS hA [1] rfl
      refine va_callr (va_runV (As := []) (rest := []) ⟨hx, hb, hml, hown, hts⟩ (k_Jx4a65c_iterator_32c93 l G z l6 c6 e6 0 H.size ) (cwV 0 hts (lw_goodApp (lw_4 q1492 q1354 q1355 q4) q1356) rfl rfl rfl (by decide +kernel) ⟨Nat.le_of_ble_eq_true rfl, Nat.le_of_ble_eq_true rfl⟩) ⟨PW.blind, va_recv hK hP (ci := 3) (q0 := 1) rfl rfl, PW.of hPc hKc hDc hG hS hFc [.ref l6]⟩ rfl rfl hl.1 rfl (lv_room (Nat.le_of_ble_eq_true rfl)) dX14_repertory_29 ⟨Nat.le_of_ble_eq_true rfl, Nat.le_of_ble_eq_true rfl⟩) hS (fun q _ h => hFc q h) hFc (fun u r_6 t_8 H_5 locs ht hvm hw_7 hB hz1 hk1 hS => ?_)
      obtain ⟨hP, hD, hK⟩ := QW.join (wr := [(h0, .inr (18, [.int th, .ref l1, .ref l2, .ref l3, .ref l4, .ref l5, .ref l6, .int 0, .int tol, .int ag, .ref m1, .ref m2, .ref m3, .ref m4, .ref m5, .ref m6])), (o_2, .inl (cy_1, 400, .inl (g)))]) (w1 := [(l6, .inr (3, [.int c6, .ref e6, .int 0])), (r_6, .inr (2, [.int 0, .int (-1), .int c6, .ref l6]))]) hP hD hK [1] [0, 2] rfl rfl (by decide) (by decide) hk1 hFc ht hvm hB
      have hP : va_P G vwCl ([(h0, .inr (18, [.int th, .ref l1, .ref l2, .ref l3, .ref l4, .ref l5, .ref l6, .int 0, .int tol, .int ag, .ref m1, .ref m2, .ref m3, .ref m4, .ref m5, .ref m6])), (o_2, .inl (cy_1, 400, .inl (g))), (l6, .inr (3, [.int c6, .ref e6, .int 0])), (r_6, .inr (2, [.int 0, .int (-1), .int c6, .ref l6]))]) H_5 := hP
      have hD : va_D A ([(h0, .inr (18, [.int th, .ref l1, .ref l2, .ref l3, .ref l4, .ref l5, .ref l6, .int 0, .int tol, .int ag, .ref m1, .ref m2, .ref m3, .ref m4, .ref m5, .ref m6])), (o_2, .inl (cy_1, 400, .inl (g))), (l6, .inr (3, [.int c6, .ref e6, .int 0])), (r_6, .inr (2, [.int 0, .int (-1), .int c6, .ref l6]))]) := hD
      have hK : va_K G vwCl [(cy_1, .int)] s := hK
      refine W.widen (k := 2) (n := 404) (Nat.le_of_ble_eq_true rfl) (Nat.le_of_ble_eq_true rfl) ?_
      refine lv_astore_n (lv' := [(2, .ref r_6), (1, .ref o_2), (0, .ref h0)]) hx hb dX14_repertory_32 rfl hl (by decide) rfl (fun ls hl => ?_)
      refine lv_aload_n hx hb dX14_repertory_33 rfl (lv_at hl 0 rfl) ?_
      have hPc := hP.sub (ws' := [(r_6, .inr (2, [.int 0, .int (-1), .int c6, .ref l6])), (l6, .inr (3, [.int c6, .ref e6, .int 0]))]) [3, 2] rfl
      have hKc := hK.sub (tys' := []) [] rfl
      refine va_callFi (va_runF (As := []) (rest := []) (hK.1 2 _ rfl).2 ⟨hx, hb, hml, hown, hts⟩ (k_Jx35411_hasNext_aae02 l G z r_6 (.int (-1)) (.int c6) l6 c6 e6 H_5.size ) (va_cwF 0 hts (lw_goodApp (lw_4 q1494 q1381 q1383 q26) q1385) rfl rfl rfl ⟨hG.2.2.2.2.1 _ qf1379, hG.2.2.2.2.1 _ qf1378, hG.2.2.2.2.1 _ qf1384, hG.2.2.2.2.1 _ qf1382, hG.2.2.2.2.1 _ qf1380⟩ (by decide +kernel) ⟨Nat.le_of_ble_eq_true rfl, Nat.le_of_ble_eq_true rfl⟩) ⟨PR.blind, va_recv hK hP (ci := 2) (q0 := 3) rfl rfl, PR.of hPc hKc hG hS hA [.ref r_6]⟩ rfl rfl hl.1 rfl (lv_room (Nat.le_of_ble_eq_true rfl)) dX14_repertory_34 ⟨Nat.le_of_ble_eq_true rfl, Nat.le_of_ble_eq_true rfl⟩) hS (fun q h9 h => zN.not h9 h) (fun q h => hA q (Nat.le_trans hS.1 h)) (fun r_10 u t_12 H_9 locs ht hvm hw_11 hB hz1 hk1 hS => ?_)
      have hP := hP.grown hk1
      refine W.widen (k := 2) (n := 404) (Nat.le_of_ble_eq_true rfl) (Nat.le_of_ble_eq_true rfl) ?_
      obtain rfl : 0 = r_10 := hw_11.symm
      refine lv_if_eq (tgt := 69) hx hb dX14_repertory_39 (by decide) (fun c_13 => ?_) (fun c_13 => absurd rfl c_13)
      refine lv_aload_n hx hb dX14_repertory_69 rfl (lv_at hl 1 rfl) ?_
      refine W.widen (k := 2) (n := 404) (Nat.le_of_ble_eq_true rfl) (Nat.le_of_ble_eq_true rfl) ?_
      have hP9 := hP.sub (ws' := [(h0, .inr (18, [.int th, .ref l1, .ref l2, .ref l3, .ref l4, .ref l5, .ref l6, .int 0, .int tol, .int ag, .ref m1, .ref m2, .ref m3, .ref m4, .ref m5, .ref m6])), (l6, .inr (3, [.int c6, .ref e6, .int 0])), (o_2, .inl (cy_1, 400, .inl (g)))]) [0, 2, 1] rfl
      have hD9 := hD.sub (ws' := [(h0, .inr (18, [.int th, .ref l1, .ref l2, .ref l3, .ref l4, .ref l5, .ref l6, .int 0, .int tol, .int ag, .ref m1, .ref m2, .ref m3, .ref m4, .ref m5, .ref m6])), (l6, .inr (3, [.int c6, .ref e6, .int 0])), (o_2, .inl (cy_1, 400, .inl (g)))]) [0, 2, 1] (by decide) rfl
      have hK9 := hK.sub (tys' := [(cy_1, .int)]) [0] rfl
      exact W.aret (v := .ref o_2) hx hb hr (Or.inr ⟨_, rfl⟩) (Or.inr ⟨_, rfl⟩) (fun t ht hW => ⟨⟨(), o_2, rfl, trivial, ⟨cy_1, g, fun j h => hi3 j (by omega), QW.of hP9 hK9 hD9 ht hW.alike⟩⟩, hS.F ht⟩) hS.2.2 dX14_repertory_70
    · have hlt : i < 400 := by
        rcases Nat.lt_or_ge i (400) with q | q
        · exact q
        · exact absurd (nI_le (a := 400) q (by omega)) c_4
      refine lv_aload_n hx hb dX14_repertory_15 rfl (lv_at hl 1 rfl) ?_
      refine lv_iload_n hx hb dX14_repertory_16 rfl (lv_at hl 0 rfl) ?_
      refine lv_iload_n hx hb dX14_repertory_17 rfl (lv_at hl 0 rfl) ?_
      refine va_iast hx hb hK hP hD hS 2 0 rfl rfl (vp_in_nI hlt (by decide)) dX14_repertory_18 (fun H_14 locs hP hD hS => ?_)
      have hP : va_P G vwCl ([(h0, .inr (18, [.int th, .ref l1, .ref l2, .ref l3, .ref l4, .ref l5, .ref l6, .int 0, .int tol, .int ag, .ref m1, .ref m2, .ref m3, .ref m4, .ref m5, .ref m6])), (l6, .inr (3, [.int c6, .ref e6, .int 0])), (o_2, .inl (cy_1, 400, .inl (upd (g) ((nI i) : Int32).toNatClampNeg ((nI i)))))]) H_14 := hP
      have hD : va_D A ([(h0, .inr (18, [.int th, .ref l1, .ref l2, .ref l3, .ref l4, .ref l5, .ref l6, .int 0, .int tol, .int ag, .ref m1, .ref m2, .ref m3, .ref m4, .ref m5, .ref m6])), (l6, .inr (3, [.int c6, .ref e6, .int 0])), (o_2, .inl (cy_1, 400, .inl (upd (g) ((nI i) : Int32).toNatClampNeg ((nI i)))))]) := hD
      refine lv_iinc (v := (nI (i + 1))) (lv' := [(2, .int (nI (i + 1))), (1, .ref o_2), (0, .ref h0)]) hx hb dX14_repertory_19 hl (k := 0) rfl (nI_1 _) (by decide) rfl (fun ls hl => ?_)
      refine lv_goto (tgt := 8) hx hb dX14_repertory_22 (by decide) ?_
      exact ih8 ((i + 1, upd g (nI i).toNatClampNeg (nI i))) _ _ _ ⟨i + 1, upd g (nI i).toNatClampNeg (nI i), rfl, ⟨by omega, by omega, fun j h => by rw [nI_clamp (by omega)]; exact (Nat.lt_succ_iff_lt_or_eq.mp h).elim (fun h => by rw [z_upd_ne (by omega)]; exact hi3 j h) (fun h => by rw [h]; exact z_upd_same)⟩, hP, hD, hS, lv_sub hl [0, 1, 2] rfl⟩

abbrev wz_X14_entry : List Cond := .code yX14_entry cX14_entry 3 (Option.some Jvm.ClassFile.FieldType.int) :: lw_good
set_option maxHeartbeats 4000000 in
set_option maxRecDepth 100000 in
/-- entry (reference) -/
theorem k_X14_entry (l : Launch) (G : va_G) (z : Nat) (h0 : Nat) (th : Int32) (l1 : Nat) (l2 : Nat) (l3 : Nat) (l4 : Nat) (l5 : Nat) (l6 : Nat) (tol : Int32) (ag : Int32) (m1 : Nat) (m2 : Nat) (m3 : Nat) (m4 : Nat) (m5 : Nat) (m6 : Nat) (c6 : Int32) (e6 : Nat) (p0 : Int32) (p1 : Int32) (sz : Nat)  : Met l yX14_entry wz_X14_entry ({ frames := 4, cells := 2, slots := 404, locals := 84 }) (va_Pc [.ref h0, .int p0, .int p1] (PW G z [(h0, .inr (18, [.int th, .ref l1, .ref l2, .ref l3, .ref l4, .ref l5, .ref l6, .int 0, .int tol, .int ag, .ref m1, .ref m2, .ref m3, .ref m4, .ref m5, .ref m6])), (l6, .inr (3, [.int c6, .ref e6, .int 0]))] [] sz)) (va_Qi (fun (r : Int32) (_ : Unit) => okE p0 p1 → r = 100 * p0 + p1) (fun (_ : Unit) (t : State) => ∃ (th1 : Int32), ((okE p0 p1 ∧ th1 = 0) ∨ (¬ (okE p0 p1) ∧ th1 = 1)) ∧ QW G [(h0, .inr (18, [.int th1, .ref l1, .ref l2, .ref l3, .ref l4, .ref l5, .ref l6, .int 0, .int tol, .int ag, .ref m1, .ref m2, .ref m3, .ref m4, .ref m5, .ref m6]))] [] (va_A [(h0, .inr (18, [.int th, .ref l1, .ref l2, .ref l3, .ref l4, .ref l5, .ref l6, .int 0, .int tol, .int ag, .ref m1, .ref m2, .ref m3, .ref m4, .ref m5, .ref m6])), (l6, .inr (3, [.int c6, .ref e6, .int 0]))] sz) t) (va_A [(h0, .inr (18, [.int th, .ref l1, .ref l2, .ref l3, .ref l4, .ref l5, .ref l6, .int 0, .int tol, .int ag, .ref m1, .ref m2, .ref m3, .ref m4, .ref m5, .ref m6])), (l6, .inr (3, [.int c6, .ref e6, .int 0]))] sz)) 2 404 (va_A [(h0, .inr (18, [.int th, .ref l1, .ref l2, .ref l3, .ref l4, .ref l5, .ref l6, .int 0, .int tol, .int ag, .ref m1, .ref m2, .ref m3, .ref m4, .ref m5, .ref m6])), (l6, .inr (3, [.int c6, .ref e6, .int 0]))] sz) := by
  refine Met.ofW (cc := cX14_entry) (maxL := 3) (ret := (Option.some Jvm.ClassFile.FieldType.int)) (by decide) rfl ?_
  intro p e s m args below meth c s₁ B hml hv
  obtain ⟨rfl, rfl, hP, hK, hD0, hG⟩ := hv
  have hx := B.exec
  have hb := B.bytes
  have hr := B.returns
  have hts := atoms_spec (ws := wz_X14_entry) B.pre
  have hg : ∀ w ∈ lw_good, w.before _ s = true := fun w h => hts w (List.mem_cons_of_mem _ h)
  have hown : s.vm.findClass RX14 = some m.cls := findClass_of_methodNamed B.named
  have hlocks := B.notSynchronized
  have hD := hD0.self (sz := s.heap.size)
  generalize hAe : va_A [(h0, .inr (18, [.int th, .ref l1, .ref l2, .ref l3, .ref l4, .ref l5, .ref l6, .int 0, .int tol, .int ag, .ref m1, .ref m2, .ref m3, .ref m4, .ref m5, .ref m6])), (l6, .inr (3, [.int c6, .ref e6, .int 0]))] s.heap.size = A at hD hG ⊢
  have hA : ∀ q : Nat, s.heap.size ≤ q → A q := fun q h => by rw [← hAe]; exact Or.inr h
  have hS : va_S A s.heap s.heap [] := va_S.rf
  have hl := lv_entry ([.ref h0, .int p0, .int p1]) (n := 3) (Nat.le_of_ble_eq_true rfl)
  rw [lg_entry_eq]
  generalize (lg_sl ([.ref h0, .int p0, .int p1]) ++ List.replicate (3 - (lg_sl ([.ref h0, .int p0, .int p1])).length) Slot.unset).toArray = ls at hl ⊢
  have hl : lv_has ls 3 [(0, .ref h0), (1, .int p0), (2, .int p1)] := hl
  refine lv_aload_n hx hb dX14_entry_0 rfl (lv_at hl 0 rfl) ?_
  refine lv_iload_n hx hb dX14_entry_1 rfl (lv_at hl 1 rfl) ?_
  refine lv_iconst (v := 0) hx hb dX14_entry_2 (by decide) ?_
  refine lv_iconst (v := 3) hx hb dX14_entry_3 (by decide) ?_
  have hPc := hP.sub (ws' := []) [] rfl
  have hKc := hK.sub (tys' := []) [] rfl
  refine va_calli (va_runS (As := [.int p0, .int 0, .int 3]) (rest := [.ref h0]) ⟨hx, hb, hml, hown, hts⟩ (k_X14_in l G z p0 0 3 s.heap.size ) (va_cwS 3 hts (lw_goodApp (lw_3 q1244 q1245 q7) q1246) rfl rfl rfl (by decide +kernel) ⟨Nat.le_of_ble_eq_true rfl, Nat.le_of_ble_eq_true rfl⟩) ⟨PR.blind, PR.of hPc hKc hG hS hA [.int p0, .int 0, .int 3]⟩ rfl rfl hl.1 rfl (lv_room (Nat.le_of_ble_eq_true rfl)) dX14_entry_4 ⟨Nat.le_of_ble_eq_true rfl, Nat.le_of_ble_eq_true rfl⟩) hS (fun q h9 h => zN.not h9 h) (fun q h => hA q (Nat.le_trans hS.1 h)) (fun r_2 u t_4 H_1 locs ht hvm hw_3 hB hz1 hk1 hS => ?_)
  have hP := hP.grown hk1
  refine W.widen (k := 0) (n := 0) (Nat.le_of_ble_eq_true rfl) (Nat.le_of_ble_eq_true rfl) ?_
  rcases z_ite hw_3 with ⟨hc_5, rfl⟩ | ⟨hc_5, rfl⟩
  · refine lv_if_eq (tgt := 24) hx hb dX14_entry_7 (by decide) (fun c_6 => absurd c_6 (by decide)) (fun c_6 => ?_)
    refine lv_iload_n hx hb dX14_entry_10 rfl (lv_at hl 2 rfl) ?_
    refine lv_iconst (v := 0) hx hb dX14_entry_11 (by decide) ?_
    refine lv_bipush (v := 99) hx hb dX14_entry_12 (by decide) ?_
    have hPc := hP.sub (ws' := []) [] rfl
    have hKc := hK.sub (tys' := []) [] rfl
    refine va_calli (va_runS (As := [.int p1, .int 0, .int 99]) (rest := [.ref h0]) ⟨hx, hb, hml, hown, hts⟩ (k_X14_in l G z p1 0 99 H_1.size ) (va_cwS 3 hts (lw_goodApp (lw_3 q1244 q1245 q7) q1246) rfl rfl rfl (by decide +kernel) ⟨Nat.le_of_ble_eq_true rfl, Nat.le_of_ble_eq_true rfl⟩) ⟨PR.blind, PR.of hPc hKc hG hS hA [.int p1, .int 0, .int 99]⟩ rfl rfl hl.1 rfl (lv_room (Nat.le_of_ble_eq_true rfl)) dX14_entry_14 ⟨Nat.le_of_ble_eq_true rfl, Nat.le_of_ble_eq_true rfl⟩) hS (fun q h9 h => zN.not h9 h) (fun q h => hA q (Nat.le_trans hS.1 h)) (fun r_8 u t_10 H_7 locs ht hvm hw_9 hB hz1 hk1 hS => ?_)
    have hP := hP.grown hk1
    refine W.widen (k := 0) (n := 0) (Nat.le_of_ble_eq_true rfl) (Nat.le_of_ble_eq_true rfl) ?_
    rcases z_ite hw_9 with ⟨hc_11, rfl⟩ | ⟨hc_11, rfl⟩
    · refine lv_if_eq (tgt := 24) hx hb dX14_entry_17 (by decide) (fun c_12 => absurd c_12 (by decide)) (fun c_12 => ?_)
      refine lv_iconst (v := 0) hx hb dX14_entry_20 (by decide) ?_
      refine lv_goto (tgt := 25) hx hb dX14_entry_21 (by decide) ?_
      have hPc := hP.sub (ws' := [(h0, .inr (18, [.int th, .ref l1, .ref l2, .ref l3, .ref l4, .ref l5, .ref l6, .int 0, .int tol, .int ag, .ref m1, .ref m2, .ref m3, .ref m4, .ref m5, .ref m6]))]) [0] rfl
      have hKc := hK.sub (tys' := []) [] rfl
      have hDc := hD.sub (ws' := [(h0, .inr (18, [.int th, .ref l1, .ref l2, .ref l3, .ref l4, .ref l5, .ref l6, .int 0, .int tol, .int ag, .ref m1, .ref m2, .ref m3, .ref m4, .ref m5, .ref m6]))]) [0] (by decide) rfl
      have hFc := va_free (wc := [(h0, .inr (18, [.int th, .ref l1, .ref l2, .ref l3, .ref l4, .ref l5, .ref l6, .int 0, .int tol, .int ag, .ref m1, .ref m2, .ref m3, .ref m4, .ref m5, .ref m6]))]) hD hS hA [0] rfl
      refine va_calli (va_runV (As := [.int 0]) (rest := []) ⟨hx, hb, hml, hown, hts⟩ (k_X14_fails_0 l G z h0 th l1 l2 l3 l4 l5 l6 tol ag m1 m2 m3 m4 m5 m6 H_7.size ) (cwV 1 hts (lw_goodApp (lw_4 q1248 q1250 qs23 q7) q1251) rfl rfl rfl (by decide +kernel) ⟨Nat.le_of_ble_eq_true rfl, Nat.le_of_ble_eq_true rfl⟩) ⟨PW.blind, va_recv hK hP (ci := 18) (q0 := 0) rfl rfl, PW.of hPc hKc hDc hG hS hFc [.ref h0, .int 0]⟩ rfl rfl hl.1 rfl (lv_room (Nat.le_of_ble_eq_true rfl)) dX14_entry_25 ⟨Nat.le_of_ble_eq_true rfl, Nat.le_of_ble_eq_true rfl⟩) hS (fun q _ h => hFc q h) hFc (fun r_14 u t_16 H_13 locs ht hvm hw_15 hB hz1 hk1 hS => ?_)
      obtain ⟨hP, hD, hK⟩ := QW.join (wr := [(l6, .inr (3, [.int c6, .ref e6, .int 0]))]) (w1 := [(h0, .inr (18, [.int 0, .ref l1, .ref l2, .ref l3, .ref l4, .ref l5, .ref l6, .int 0, .int tol, .int ag, .ref m1, .ref m2, .ref m3, .ref m4, .ref m5, .ref m6]))]) hP hD hK [0] [1] rfl rfl (by decide) (by decide) hk1 hFc ht hvm hB
      have hP : va_P G vwCl ([(l6, .inr (3, [.int c6, .ref e6, .int 0])), (h0, .inr (18, [.int 0, .ref l1, .ref l2, .ref l3, .ref l4, .ref l5, .ref l6, .int 0, .int tol, .int ag, .ref m1, .ref m2, .ref m3, .ref m4, .ref m5, .ref m6]))]) H_13 := hP
      have hD : va_D A ([(l6, .inr (3, [.int c6, .ref e6, .int 0])), (h0, .inr (18, [.int 0, .ref l1, .ref l2, .ref l3, .ref l4, .ref l5, .ref l6, .int 0, .int tol, .int ag, .ref m1, .ref m2, .ref m3, .ref m4, .ref m5, .ref m6]))]) := hD
      have hK : va_K G vwCl [] s := hK
      refine W.widen (k := 0) (n := 0) (Nat.le_of_ble_eq_true rfl) (Nat.le_of_ble_eq_true rfl) ?_
      obtain rfl : 0 = r_14 := hw_15.symm
      refine lv_if_eq (tgt := 35) hx hb dX14_entry_28 (by decide) (fun c_17 => ?_) (fun c_17 => absurd rfl c_17)
      refine lv_aload_n hx hb dX14_entry_35 rfl (lv_at hl 0 rfl) ?_
      have hPc := hP.sub (ws' := [(h0, .inr (18, [.int 0, .ref l1, .ref l2, .ref l3, .ref l4, .ref l5, .ref l6, .int 0, .int tol, .int ag, .ref m1, .ref m2, .ref m3, .ref m4, .ref m5, .ref m6])), (l6, .inr (3, [.int c6, .ref e6, .int 0]))]) [1, 0] rfl
      have hKc := hK.sub (tys' := []) [] rfl
      have hDc := hD.sub (ws' := [(h0, .inr (18, [.int 0, .ref l1, .ref l2, .ref l3, .ref l4, .ref l5, .ref l6, .int 0, .int tol, .int ag, .ref m1, .ref m2, .ref m3, .ref m4, .ref m5, .ref m6])), (l6, .inr (3, [.int c6, .ref e6, .int 0]))]) [1, 0] (by decide) rfl
      have hFc := va_free (wc := [(h0, .inr (18, [.int 0, .ref l1, .ref l2, .ref l3, .ref l4, .ref l5, .ref l6, .int 0, .int tol, .int ag, .ref m1, .ref m2, .ref m3, .ref m4, .ref m5, .ref m6])), (l6, .inr (3, [.int c6, .ref e6, .int 0]))]) hD hS hA [1, 0] rfl
      refine va_callr (va_runV (As := []) (rest := []) ⟨hx, hb, hml, hown, hts⟩ (k_X14_repertory l G z h0 0 l1 l2 l3 l4 l5 l6 tol ag m1 m2 m3 m4 m5 m6 c6 e6 H_13.size ) (cwV 0 hts (lw_goodApp (lw_4 q1649 q1651 qs33 q7) q1652) rfl rfl rfl (by decide +kernel) ⟨Nat.le_of_ble_eq_true rfl, Nat.le_of_ble_eq_true rfl⟩) ⟨PW.blind, va_recv hK hP (ci := 18) (q0 := 1) rfl rfl, PW.of hPc hKc hDc hG hS hFc [.ref h0]⟩ rfl rfl hl.1 rfl (lv_room (Nat.le_of_ble_eq_true rfl)) dX14_entry_36 ⟨Nat.le_of_ble_eq_true rfl, Nat.le_of_ble_eq_true rfl⟩) hS (fun q _ h => hFc q h) hFc (fun u r_19 t_21 H_18 locs ht hvm hw_20 hB hz1 hk1 hS => ?_)
      obtain ⟨cyO_22, gO_23, hf_24, hB⟩ := hB
      obtain ⟨hP, hD, hK⟩ := QW.join (wr := []) (w1 := [(h0, .inr (18, [.int 0, .ref l1, .ref l2, .ref l3, .ref l4, .ref l5, .ref l6, .int 0, .int tol, .int ag, .ref m1, .ref m2, .ref m3, .ref m4, .ref m5, .ref m6])), (l6, .inr (3, [.int c6, .ref e6, .int 0])), (r_19, .inl (cyO_22, 400, .inl (gO_23)))]) hP hD hK [1, 0] [] rfl rfl (by decide) (by decide) hk1 hFc ht hvm hB
      have hP : va_P G vwCl ([(h0, .inr (18, [.int 0, .ref l1, .ref l2, .ref l3, .ref l4, .ref l5, .ref l6, .int 0, .int tol, .int ag, .ref m1, .ref m2, .ref m3, .ref m4, .ref m5, .ref m6])), (l6, .inr (3, [.int c6, .ref e6, .int 0])), (r_19, .inl (cyO_22, 400, .inl (gO_23)))]) H_18 := hP
      have hD : va_D A ([(h0, .inr (18, [.int 0, .ref l1, .ref l2, .ref l3, .ref l4, .ref l5, .ref l6, .int 0, .int tol, .int ag, .ref m1, .ref m2, .ref m3, .ref m4, .ref m5, .ref m6])), (l6, .inr (3, [.int c6, .ref e6, .int 0])), (r_19, .inl (cyO_22, 400, .inl (gO_23)))]) := hD
      have hK : va_K G vwCl [(cyO_22, .int)] s := hK
      refine W.widen (k := 2) (n := 404) (Nat.le_of_ble_eq_true rfl) (Nat.le_of_ble_eq_true rfl) ?_
      refine lv_bipush (v := 100) hx hb dX14_entry_39 (by decide) ?_
      refine lv_iload_n hx hb dX14_entry_41 rfl (lv_at hl 1 rfl) ?_
      refine lv_imul hx hb dX14_entry_42 ?_
      refine lv_topi (fun f_25 ef_25 => ?_)
      refine lv_iload_n hx hb dX14_entry_43 rfl (lv_at hl 2 rfl) ?_
      refine lv_iadd hx hb dX14_entry_44 ?_
      refine lv_topi (fun f_26 ef_26 => ?_)
      have h1 : f_26 = 100 * p0 + p1 := by rw [ef_26, ef_25]
      have hin1 : vp_in f_26 400 := by rw [h1]; exact z_ent ⟨hc_5, hc_11⟩
      refine va_iald hx hb hK hP 2 0 rfl rfl hin1 dX14_entry_45 ?_
      refine lv_topi (fun f_27 ef_27 => ?_)
      obtain rfl : f_26 = f_27 := (ef_27.trans (z_rep hf_24 hin1)).symm
      refine W.widen (k := 2) (n := 404) (Nat.le_of_ble_eq_true rfl) (Nat.le_of_ble_eq_true rfl) ?_
      have hP9 := hP.sub (ws' := [(h0, .inr (18, [.int 0, .ref l1, .ref l2, .ref l3, .ref l4, .ref l5, .ref l6, .int 0, .int tol, .int ag, .ref m1, .ref m2, .ref m3, .ref m4, .ref m5, .ref m6]))]) [0] rfl
      have hD9 := hD.sub (ws' := [(h0, .inr (18, [.int 0, .ref l1, .ref l2, .ref l3, .ref l4, .ref l5, .ref l6, .int 0, .int tol, .int ag, .ref m1, .ref m2, .ref m3, .ref m4, .ref m5, .ref m6]))]) [0] (by decide) rfl
      have hK9 := hK.sub (tys' := []) [] rfl
      exact W.iret (v := f_26) hx hb hr (fun t ht hW => ⟨⟨f_26, (), rfl, fun _ => h1, ⟨0, Or.inl ⟨⟨hc_5, hc_11⟩, rfl⟩, QW.of hP9 hK9 hD9 ht hW.alike⟩⟩, hS.F ht⟩) hS.2.2 dX14_entry_46
    · refine lv_if_eq (tgt := 24) hx hb dX14_entry_17 (by decide) (fun c_28 => ?_) (fun c_28 => absurd rfl c_28)
      refine lv_iconst (v := 1) hx hb dX14_entry_24 (by decide) ?_
      have hPc := hP.sub (ws' := [(h0, .inr (18, [.int th, .ref l1, .ref l2, .ref l3, .ref l4, .ref l5, .ref l6, .int 0, .int tol, .int ag, .ref m1, .ref m2, .ref m3, .ref m4, .ref m5, .ref m6]))]) [0] rfl
      have hKc := hK.sub (tys' := []) [] rfl
      have hDc := hD.sub (ws' := [(h0, .inr (18, [.int th, .ref l1, .ref l2, .ref l3, .ref l4, .ref l5, .ref l6, .int 0, .int tol, .int ag, .ref m1, .ref m2, .ref m3, .ref m4, .ref m5, .ref m6]))]) [0] (by decide) rfl
      have hFc := va_free (wc := [(h0, .inr (18, [.int th, .ref l1, .ref l2, .ref l3, .ref l4, .ref l5, .ref l6, .int 0, .int tol, .int ag, .ref m1, .ref m2, .ref m3, .ref m4, .ref m5, .ref m6]))]) hD hS hA [0] rfl
      refine va_calli (va_runV (As := [.int 1]) (rest := []) ⟨hx, hb, hml, hown, hts⟩ (k_X14_fails_1 l G z h0 th l1 l2 l3 l4 l5 l6 tol ag m1 m2 m3 m4 m5 m6 1 H_7.size (by decide)) (cwV 1 hts (lw_goodApp (lw_4 q1248 q1250 qs23 q7) q1251) rfl rfl rfl (by decide +kernel) ⟨Nat.le_of_ble_eq_true rfl, Nat.le_of_ble_eq_true rfl⟩) ⟨PW.blind, va_recv hK hP (ci := 18) (q0 := 0) rfl rfl, PW.of hPc hKc hDc hG hS hFc [.ref h0, .int 1]⟩ rfl rfl hl.1 rfl (lv_room (Nat.le_of_ble_eq_true rfl)) dX14_entry_25 ⟨Nat.le_of_ble_eq_true rfl, Nat.le_of_ble_eq_true rfl⟩) hS (fun q _ h => hFc q h) hFc (fun r_30 u t_32 H_29 locs ht hvm hw_31 hB hz1 hk1 hS => ?_)
      obtain ⟨hP, hD, hK⟩ := QW.join (wr := [(l6, .inr (3, [.int c6, .ref e6, .int 0]))]) (w1 := [(h0, .inr (18, [.int 1, .ref l1, .ref l2, .ref l3, .ref l4, .ref l5, .ref l6, .int 0, .int tol, .int ag, .ref m1, .ref m2, .ref m3, .ref m4, .ref m5, .ref m6]))]) hP hD hK [0] [1] rfl rfl (by decide) (by decide) hk1 hFc ht hvm hB
      have hP : va_P G vwCl ([(l6, .inr (3, [.int c6, .ref e6, .int 0])), (h0, .inr (18, [.int 1, .ref l1, .ref l2, .ref l3, .ref l4, .ref l5, .ref l6, .int 0, .int tol, .int ag, .ref m1, .ref m2, .ref m3, .ref m4, .ref m5, .ref m6]))]) H_29 := hP
      have hD : va_D A ([(l6, .inr (3, [.int c6, .ref e6, .int 0])), (h0, .inr (18, [.int 1, .ref l1, .ref l2, .ref l3, .ref l4, .ref l5, .ref l6, .int 0, .int tol, .int ag, .ref m1, .ref m2, .ref m3, .ref m4, .ref m5, .ref m6]))]) := hD
      have hK : va_K G vwCl [] s := hK
      refine W.widen (k := 0) (n := 0) (Nat.le_of_ble_eq_true rfl) (Nat.le_of_ble_eq_true rfl) ?_
      obtain rfl : 1 = r_30 := hw_31.symm
      refine lv_if_eq (tgt := 35) hx hb dX14_entry_28 (by decide) (fun c_33 => absurd c_33 (by decide)) (fun c_33 => ?_)
      refine lv_iconst (v := 0) hx hb dX14_entry_31 (by decide) ?_
      refine lv_goto (tgt := 46) hx hb dX14_entry_32 (by decide) ?_
      refine W.widen (k := 2) (n := 404) (Nat.le_of_ble_eq_true rfl) (Nat.le_of_ble_eq_true rfl) ?_
      have hP9 := hP.sub (ws' := [(h0, .inr (18, [.int 1, .ref l1, .ref l2, .ref l3, .ref l4, .ref l5, .ref l6, .int 0, .int tol, .int ag, .ref m1, .ref m2, .ref m3, .ref m4, .ref m5, .ref m6]))]) [1] rfl
      have hD9 := hD.sub (ws' := [(h0, .inr (18, [.int 1, .ref l1, .ref l2, .ref l3, .ref l4, .ref l5, .ref l6, .int 0, .int tol, .int ag, .ref m1, .ref m2, .ref m3, .ref m4, .ref m5, .ref m6]))]) [1] (by decide) rfl
      have hK9 := hK.sub (tys' := []) [] rfl
      exact W.iret (v := 0) hx hb hr (fun t ht hW => ⟨⟨0, (), rfl, fun h9 => (hc_11 (h9.2)).elim, ⟨1, Or.inr ⟨fun h9 => hc_11 (h9.2), rfl⟩, QW.of hP9 hK9 hD9 ht hW.alike⟩⟩, hS.F ht⟩) hS.2.2 dX14_entry_46
  · refine lv_if_eq (tgt := 24) hx hb dX14_entry_7 (by decide) (fun c_34 => ?_) (fun c_34 => absurd rfl c_34)
    refine lv_iconst (v := 1) hx hb dX14_entry_24 (by decide) ?_
    have hPc := hP.sub (ws' := [(h0, .inr (18, [.int th, .ref l1, .ref l2, .ref l3, .ref l4, .ref l5, .ref l6, .int 0, .int tol, .int ag, .ref m1, .ref m2, .ref m3, .ref m4, .ref m5, .ref m6]))]) [0] rfl
    have hKc := hK.sub (tys' := []) [] rfl
    have hDc := hD.sub (ws' := [(h0, .inr (18, [.int th, .ref l1, .ref l2, .ref l3, .ref l4, .ref l5, .ref l6, .int 0, .int tol, .int ag, .ref m1, .ref m2, .ref m3, .ref m4, .ref m5, .ref m6]))]) [0] (by decide) rfl
    have hFc := va_free (wc := [(h0, .inr (18, [.int th, .ref l1, .ref l2, .ref l3, .ref l4, .ref l5, .ref l6, .int 0, .int tol, .int ag, .ref m1, .ref m2, .ref m3, .ref m4, .ref m5, .ref m6]))]) hD hS hA [0] rfl
    refine va_calli (va_runV (As := [.int 1]) (rest := []) ⟨hx, hb, hml, hown, hts⟩ (k_X14_fails_1 l G z h0 th l1 l2 l3 l4 l5 l6 tol ag m1 m2 m3 m4 m5 m6 1 H_1.size (by decide)) (cwV 1 hts (lw_goodApp (lw_4 q1248 q1250 qs23 q7) q1251) rfl rfl rfl (by decide +kernel) ⟨Nat.le_of_ble_eq_true rfl, Nat.le_of_ble_eq_true rfl⟩) ⟨PW.blind, va_recv hK hP (ci := 18) (q0 := 0) rfl rfl, PW.of hPc hKc hDc hG hS hFc [.ref h0, .int 1]⟩ rfl rfl hl.1 rfl (lv_room (Nat.le_of_ble_eq_true rfl)) dX14_entry_25 ⟨Nat.le_of_ble_eq_true rfl, Nat.le_of_ble_eq_true rfl⟩) hS (fun q _ h => hFc q h) hFc (fun r_36 u t_38 H_35 locs ht hvm hw_37 hB hz1 hk1 hS => ?_)
    obtain ⟨hP, hD, hK⟩ := QW.join (wr := [(l6, .inr (3, [.int c6, .ref e6, .int 0]))]) (w1 := [(h0, .inr (18, [.int 1, .ref l1, .ref l2, .ref l3, .ref l4, .ref l5, .ref l6, .int 0, .int tol, .int ag, .ref m1, .ref m2, .ref m3, .ref m4, .ref m5, .ref m6]))]) hP hD hK [0] [1] rfl rfl (by decide) (by decide) hk1 hFc ht hvm hB
    have hP : va_P G vwCl ([(l6, .inr (3, [.int c6, .ref e6, .int 0])), (h0, .inr (18, [.int 1, .ref l1, .ref l2, .ref l3, .ref l4, .ref l5, .ref l6, .int 0, .int tol, .int ag, .ref m1, .ref m2, .ref m3, .ref m4, .ref m5, .ref m6]))]) H_35 := hP
    have hD : va_D A ([(l6, .inr (3, [.int c6, .ref e6, .int 0])), (h0, .inr (18, [.int 1, .ref l1, .ref l2, .ref l3, .ref l4, .ref l5, .ref l6, .int 0, .int tol, .int ag, .ref m1, .ref m2, .ref m3, .ref m4, .ref m5, .ref m6]))]) := hD
    have hK : va_K G vwCl [] s := hK
    refine W.widen (k := 0) (n := 0) (Nat.le_of_ble_eq_true rfl) (Nat.le_of_ble_eq_true rfl) ?_
    obtain rfl : 1 = r_36 := hw_37.symm
    refine lv_if_eq (tgt := 35) hx hb dX14_entry_28 (by decide) (fun c_39 => absurd c_39 (by decide)) (fun c_39 => ?_)
    refine lv_iconst (v := 0) hx hb dX14_entry_31 (by decide) ?_
    refine lv_goto (tgt := 46) hx hb dX14_entry_32 (by decide) ?_
    refine W.widen (k := 2) (n := 404) (Nat.le_of_ble_eq_true rfl) (Nat.le_of_ble_eq_true rfl) ?_
    have hP9 := hP.sub (ws' := [(h0, .inr (18, [.int 1, .ref l1, .ref l2, .ref l3, .ref l4, .ref l5, .ref l6, .int 0, .int tol, .int ag, .ref m1, .ref m2, .ref m3, .ref m4, .ref m5, .ref m6]))]) [1] rfl
    have hD9 := hD.sub (ws' := [(h0, .inr (18, [.int 1, .ref l1, .ref l2, .ref l3, .ref l4, .ref l5, .ref l6, .int 0, .int tol, .int ag, .ref m1, .ref m2, .ref m3, .ref m4, .ref m5, .ref m6]))]) [1] (by decide) rfl
    have hK9 := hK.sub (tys' := []) [] rfl
    exact W.iret (v := 0) hx hb hr (fun t ht hW => ⟨⟨0, (), rfl, fun h9 => (hc_5 (h9.1)).elim, ⟨1, Or.inr ⟨fun h9 => hc_5 (h9.1), rfl⟩, QW.of hP9 hK9 hD9 ht hW.alike⟩⟩, hS.F ht⟩) hS.2.2 dX14_entry_46

abbrev wz_X14_merge : List Cond := .code yX14_merge cX14_merge 9 (Option.some Jvm.ClassFile.FieldType.boolean) :: lw_good
set_option maxHeartbeats 4000000 in
set_option maxRecDepth 100000 in
/-- merge (reference) -/
theorem k_X14_merge (l : Launch) (G : va_G) (z : Nat) (h0 : Nat) (th : Int32) (l1 : Nat) (l2 : Nat) (l3 : Nat) (l4 : Nat) (l5 : Nat) (l6 : Nat) (tol : Int32) (ag : Int32) (m1 : Nat) (m2 : Nat) (m3 : Nat) (m4 : Nat) (m5 : Nat) (m6 : Nat) (c6 : Int32) (p0 : Int32) (p1 : Int32) (p2 : Int32) (p3 : Int32) (sz : Nat)  : Met l yX14_merge wz_X14_merge ({ frames := 5, cells := 4, slots := 416, locals := 101 }) (va_Pc [.ref h0, .int p0, .int p1, .int p2, .int p3] (PW G z [(h0, .inr (18, [.int th, .ref l1, .ref l2, .ref l3, .ref l4, .ref l5, .ref l6, .int 0, .int tol, .int ag, .ref m1, .ref m2, .ref m3, .ref m4, .ref m5, .ref m6])), (l6, .inr (3, [.int c6, .ref z, .int 0]))] [] sz)) (va_Qi (fun (r : Int32) (_ : Unit) => (okE p0 p1 ∧ okE p2 p3) → r = (if 100 * p0 + p1 = 100 * p2 + p3 then 0 else 1)) (fun (_ : Unit) (t : State) => ∃ (th1 : Int32), (((okE p0 p1 ∧ okE p2 p3) ∧ th1 = 0) ∨ (¬ ((okE p0 p1 ∧ okE p2 p3)) ∧ th1 = 1)) ∧ QW G [(h0, .inr (18, [.int th1, .ref l1, .ref l2, .ref l3, .ref l4, .ref l5, .ref l6, .int 0, .int tol, .int ag, .ref m1, .ref m2, .ref m3, .ref m4, .ref m5, .ref m6]))] [] (va_A [(h0, .inr (18, [.int th, .ref l1, .ref l2, .ref l3, .ref l4, .ref l5, .ref l6, .int 0, .int tol, .int ag, .ref m1, .ref m2, .ref m3, .ref m4, .ref m5, .ref m6])), (l6, .inr (3, [.int c6, .ref z, .int 0]))] sz) t) (va_A [(h0, .inr (18, [.int th, .ref l1, .ref l2, .ref l3, .ref l4, .ref l5, .ref l6, .int 0, .int tol, .int ag, .ref m1, .ref m2, .ref m3, .ref m4, .ref m5, .ref m6])), (l6, .inr (3, [.int c6, .ref z, .int 0]))] sz)) 4 416 (va_A [(h0, .inr (18, [.int th, .ref l1, .ref l2, .ref l3, .ref l4, .ref l5, .ref l6, .int 0, .int tol, .int ag, .ref m1, .ref m2, .ref m3, .ref m4, .ref m5, .ref m6])), (l6, .inr (3, [.int c6, .ref z, .int 0]))] sz) := by
  refine Met.ofW (cc := cX14_merge) (maxL := 9) (ret := (Option.some Jvm.ClassFile.FieldType.boolean)) (by decide) rfl ?_
  intro p e s m args below meth c s₁ B hml hv
  obtain ⟨rfl, rfl, hP, hK, hD0, hG⟩ := hv
  have hx := B.exec
  have hb := B.bytes
  have hr := B.returns
  have hts := atoms_spec (ws := wz_X14_merge) B.pre
  have hg : ∀ w ∈ lw_good, w.before _ s = true := fun w h => hts w (List.mem_cons_of_mem _ h)
  have hown : s.vm.findClass RX14 = some m.cls := findClass_of_methodNamed B.named
  have hlocks := B.notSynchronized
  have hD := hD0.self (sz := s.heap.size)
  generalize hAe : va_A [(h0, .inr (18, [.int th, .ref l1, .ref l2, .ref l3, .ref l4, .ref l5, .ref l6, .int 0, .int tol, .int ag, .ref m1, .ref m2, .ref m3, .ref m4, .ref m5, .ref m6])), (l6, .inr (3, [.int c6, .ref z, .int 0]))] s.heap.size = A at hD hG ⊢
  have hA : ∀ q : Nat, s.heap.size ≤ q → A q := fun q h => by rw [← hAe]; exact Or.inr h
  have hS : va_S A s.heap s.heap [] := va_S.rf
  have hl := lv_entry ([.ref h0, .int p0, .int p1, .int p2, .int p3]) (n := 9) (Nat.le_of_ble_eq_true rfl)
  rw [lg_entry_eq]
  generalize (lg_sl ([.ref h0, .int p0, .int p1, .int p2, .int p3]) ++ List.replicate (9 - (lg_sl ([.ref h0, .int p0, .int p1, .int p2, .int p3])).length) Slot.unset).toArray = ls at hl ⊢
  have hl : lv_has ls 9 [(0, .ref h0), (1, .int p0), (2, .int p1), (3, .int p2), (4, .int p3)] := hl
  refine lv_aload_n hx hb dX14_merge_0 rfl (lv_at hl 0 rfl) ?_
  refine lv_iload_n hx hb dX14_merge_1 rfl (lv_at hl 1 rfl) ?_
  refine lv_iconst (v := 0) hx hb dX14_merge_2 (by decide) ?_
  refine lv_iconst (v := 3) hx hb dX14_merge_3 (by decide) ?_
  have hPc := hP.sub (ws' := []) [] rfl
  have hKc := hK.sub (tys' := []) [] rfl
  refine va_calli (va_runS (As := [.int p0, .int 0, .int 3]) (rest := [.ref h0]) ⟨hx, hb, hml, hown, hts⟩ (k_X14_in l G z p0 0 3 s.heap.size ) (va_cwS 3 hts (lw_goodApp (lw_3 q1244 q1245 q7) q1246) rfl rfl rfl (by decide +kernel) ⟨Nat.le_of_ble_eq_true rfl, Nat.le_of_ble_eq_true rfl⟩) ⟨PR.blind, PR.of hPc hKc hG hS hA [.int p0, .int 0, .int 3]⟩ rfl rfl hl.1 rfl (lv_room (Nat.le_of_ble_eq_true rfl)) dX14_merge_4 ⟨Nat.le_of_ble_eq_true rfl, Nat.le_of_ble_eq_true rfl⟩) hS (fun q h9 h => zN.not h9 h) (fun q h => hA q (Nat.le_trans hS.1 h)) (fun r_2 u t_4 H_1 locs ht hvm hw_3 hB hz1 hk1 hS => ?_)
  have hP := hP.grown hk1
  refine W.widen (k := 0) (n := 0) (Nat.le_of_ble_eq_true rfl) (Nat.le_of_ble_eq_true rfl) ?_
  rcases z_ite hw_3 with ⟨hc_5, rfl⟩ | ⟨hc_5, rfl⟩
  · refine lv_if_eq (tgt := 44) hx hb dX14_merge_7 (by decide) (fun c_6 => absurd c_6 (by decide)) (fun c_6 => ?_)
    refine lv_iload_n hx hb dX14_merge_10 rfl (lv_at hl 3 rfl) ?_
    refine lv_iconst (v := 0) hx hb dX14_merge_11 (by decide) ?_
    refine lv_iconst (v := 3) hx hb dX14_merge_12 (by decide) ?_
    have hPc := hP.sub (ws' := []) [] rfl
    have hKc := hK.sub (tys' := []) [] rfl
    refine va_calli (va_runS (As := [.int p2, .int 0, .int 3]) (rest := [.ref h0]) ⟨hx, hb, hml, hown, hts⟩ (k_X14_in l G z p2 0 3 H_1.size ) (va_cwS 3 hts (lw_goodApp (lw_3 q1244 q1245 q7) q1246) rfl rfl rfl (by decide +kernel) ⟨Nat.le_of_ble_eq_true rfl, Nat.le_of_ble_eq_true rfl⟩) ⟨PR.blind, PR.of hPc hKc hG hS hA [.int p2, .int 0, .int 3]⟩ rfl rfl hl.1 rfl (lv_room (Nat.le_of_ble_eq_true rfl)) dX14_merge_13 ⟨Nat.le_of_ble_eq_true rfl, Nat.le_of_ble_eq_true rfl⟩) hS (fun q h9 h => zN.not h9 h) (fun q h => hA q (Nat.le_trans hS.1 h)) (fun r_8 u t_10 H_7 locs ht hvm hw_9 hB hz1 hk1 hS => ?_)
    have hP := hP.grown hk1
    refine W.widen (k := 0) (n := 0) (Nat.le_of_ble_eq_true rfl) (Nat.le_of_ble_eq_true rfl) ?_
    rcases z_ite hw_9 with ⟨hc_11, rfl⟩ | ⟨hc_11, rfl⟩
    · refine lv_if_eq (tgt := 44) hx hb dX14_merge_16 (by decide) (fun c_12 => absurd c_12 (by decide)) (fun c_12 => ?_)
      refine lv_iload_n hx hb dX14_merge_19 rfl (lv_at hl 2 rfl) ?_
      refine lv_iconst (v := 0) hx hb dX14_merge_20 (by decide) ?_
      refine lv_bipush (v := 99) hx hb dX14_merge_21 (by decide) ?_
      have hPc := hP.sub (ws' := []) [] rfl
      have hKc := hK.sub (tys' := []) [] rfl
      refine va_calli (va_runS (As := [.int p1, .int 0, .int 99]) (rest := [.ref h0]) ⟨hx, hb, hml, hown, hts⟩ (k_X14_in l G z p1 0 99 H_7.size ) (va_cwS 3 hts (lw_goodApp (lw_3 q1244 q1245 q7) q1246) rfl rfl rfl (by decide +kernel) ⟨Nat.le_of_ble_eq_true rfl, Nat.le_of_ble_eq_true rfl⟩) ⟨PR.blind, PR.of hPc hKc hG hS hA [.int p1, .int 0, .int 99]⟩ rfl rfl hl.1 rfl (lv_room (Nat.le_of_ble_eq_true rfl)) dX14_merge_23 ⟨Nat.le_of_ble_eq_true rfl, Nat.le_of_ble_eq_true rfl⟩) hS (fun q h9 h => zN.not h9 h) (fun q h => hA q (Nat.le_trans hS.1 h)) (fun r_14 u t_16 H_13 locs ht hvm hw_15 hB hz1 hk1 hS => ?_)
      have hP := hP.grown hk1
      refine W.widen (k := 0) (n := 0) (Nat.le_of_ble_eq_true rfl) (Nat.le_of_ble_eq_true rfl) ?_
      rcases z_ite hw_15 with ⟨hc_17, rfl⟩ | ⟨hc_17, rfl⟩
      · refine lv_if_eq (tgt := 44) hx hb dX14_merge_26 (by decide) (fun c_18 => absurd c_18 (by decide)) (fun c_18 => ?_)
        refine lv_iload hx hb dX14_merge_29 (lv_at hl 4 rfl) ?_
        refine lv_iconst (v := 0) hx hb dX14_merge_31 (by decide) ?_
        refine lv_bipush (v := 99) hx hb dX14_merge_32 (by decide) ?_
        have hPc := hP.sub (ws' := []) [] rfl
        have hKc := hK.sub (tys' := []) [] rfl
        refine va_calli (va_runS (As := [.int p3, .int 0, .int 99]) (rest := [.ref h0]) ⟨hx, hb, hml, hown, hts⟩ (k_X14_in l G z p3 0 99 H_13.size ) (va_cwS 3 hts (lw_goodApp (lw_3 q1244 q1245 q7) q1246) rfl rfl rfl (by decide +kernel) ⟨Nat.le_of_ble_eq_true rfl, Nat.le_of_ble_eq_true rfl⟩) ⟨PR.blind, PR.of hPc hKc hG hS hA [.int p3, .int 0, .int 99]⟩ rfl rfl hl.1 rfl (lv_room (Nat.le_of_ble_eq_true rfl)) dX14_merge_34 ⟨Nat.le_of_ble_eq_true rfl, Nat.le_of_ble_eq_true rfl⟩) hS (fun q h9 h => zN.not h9 h) (fun q h => hA q (Nat.le_trans hS.1 h)) (fun r_20 u t_22 H_19 locs ht hvm hw_21 hB hz1 hk1 hS => ?_)
        have hP := hP.grown hk1
        refine W.widen (k := 0) (n := 0) (Nat.le_of_ble_eq_true rfl) (Nat.le_of_ble_eq_true rfl) ?_
        rcases z_ite hw_21 with ⟨hc_23, rfl⟩ | ⟨hc_23, rfl⟩
        · refine lv_if_eq (tgt := 44) hx hb dX14_merge_37 (by decide) (fun c_24 => absurd c_24 (by decide)) (fun c_24 => ?_)
          refine lv_iconst (v := 0) hx hb dX14_merge_40 (by decide) ?_
          refine lv_goto (tgt := 45) hx hb dX14_merge_41 (by decide) ?_
          have hPc := hP.sub (ws' := [(h0, .inr (18, [.int th, .ref l1, .ref l2, .ref l3, .ref l4, .ref l5, .ref l6, .int 0, .int tol, .int ag, .ref m1, .ref m2, .ref m3, .ref m4, .ref m5, .ref m6]))]) [0] rfl
          have hKc := hK.sub (tys' := []) [] rfl
          have hDc := hD.sub (ws' := [(h0, .inr (18, [.int th, .ref l1, .ref l2, .ref l3, .ref l4, .ref l5, .ref l6, .int 0, .int tol, .int ag, .ref m1, .ref m2, .ref m3, .ref m4, .ref m5, .ref m6]))]) [0] (by decide) rfl
          have hFc := va_free (wc := [(h0, .inr (18, [.int th, .ref l1, .ref l2, .ref l3, .ref l4, .ref l5, .ref l6, .int 0, .int tol, .int ag, .ref m1, .ref m2, .ref m3, .ref m4, .ref m5, .ref m6]))]) hD hS hA [0] rfl
          refine va_calli (va_runV (As := [.int 0]) (rest := []) ⟨hx, hb, hml, hown, hts⟩ (k_X14_fails_0 l G z h0 th l1 l2 l3 l4 l5 l6 tol ag m1 m2 m3 m4 m5 m6 H_19.size ) (cwV 1 hts (lw_goodApp (lw_4 q1248 q1250 qs23 q7) q1251) rfl rfl rfl (by decide +kernel) ⟨Nat.le_of_ble_eq_true rfl, Nat.le_of_ble_eq_true rfl⟩) ⟨PW.blind, va_recv hK hP (ci := 18) (q0 := 0) rfl rfl, PW.of hPc hKc hDc hG hS hFc [.ref h0, .int 0]⟩ rfl rfl hl.1 rfl (lv_room (Nat.le_of_ble_eq_true rfl)) dX14_merge_45 ⟨Nat.le_of_ble_eq_true rfl, Nat.le_of_ble_eq_true rfl⟩) hS (fun q _ h => hFc q h) hFc (fun r_26 u t_28 H_25 locs ht hvm hw_27 hB hz1 hk1 hS => ?_)
          obtain ⟨hP, hD, hK⟩ := QW.join (wr := [(l6, .inr (3, [.int c6, .ref z, .int 0]))]) (w1 := [(h0, .inr (18, [.int 0, .ref l1, .ref l2, .ref l3, .ref l4, .ref l5, .ref l6, .int 0, .int tol, .int ag, .ref m1, .ref m2, .ref m3, .ref m4, .ref m5, .ref m6]))]) hP hD hK [0] [1] rfl rfl (by decide) (by decide) hk1 hFc ht hvm hB
          have hP : va_P G vwCl ([(l6, .inr (3, [.int c6, .ref z, .int 0])), (h0, .inr (18, [.int 0, .ref l1, .ref l2, .ref l3, .ref l4, .ref l5, .ref l6, .int 0, .int tol, .int ag, .ref m1, .ref m2, .ref m3, .ref m4, .ref m5, .ref m6]))]) H_25 := hP
          have hD : va_D A ([(l6, .inr (3, [.int c6, .ref z, .int 0])), (h0, .inr (18, [.int 0, .ref l1, .ref l2, .ref l3, .ref l4, .ref l5, .ref l6, .int 0, .int tol, .int ag, .ref m1, .ref m2, .ref m3, .ref m4, .ref m5, .ref m6]))]) := hD
          have hK : va_K G vwCl [] s := hK
          refine W.widen (k := 0) (n := 0) (Nat.le_of_ble_eq_true rfl) (Nat.le_of_ble_eq_true rfl) ?_
          obtain rfl : 0 = r_26 := hw_27.symm
          refine lv_if_eq (tgt := 53) hx hb dX14_merge_48 (by decide) (fun c_29 => ?_) (fun c_29 => absurd rfl c_29)
          refine lv_bipush (v := 100) hx hb dX14_merge_53 (by decide) ?_
          refine lv_iload_n hx hb dX14_merge_55 rfl (lv_at hl 1 rfl) ?_
          refine lv_imul hx hb dX14_merge_56 ?_
          refine lv_topi (fun f_30 ef_30 => ?_)
          refine lv_iload_n hx hb dX14_merge_57 rfl (lv_at hl 2 rfl) ?_
          refine lv_iadd hx hb dX14_merge_58 ?_
          refine lv_topi (fun f_31 ef_31 => ?_)
          have h1 : f_31 = 100 * p0 + p1 := by rw [ef_31, ef_30]
          have hin1 : vp_in f_31 400 := by rw [h1]; exact z_ent ⟨hc_5, hc_17⟩
          refine lv_istore (lv' := [(5, .int f_31), (0, .ref h0), (1, .int p0), (2, .int p1), (3, .int p2), (4, .int p3)]) hx hb dX14_merge_59 hl (by decide) rfl (fun ls hl => ?_)
          refine lv_bipush (v := 100) hx hb dX14_merge_61 (by decide) ?_
          refine lv_iload_n hx hb dX14_merge_63 rfl (lv_at hl 4 rfl) ?_
          refine lv_imul hx hb dX14_merge_64 ?_
          refine lv_topi (fun f_32 ef_32 => ?_)
          refine lv_iload hx hb dX14_merge_65 (lv_at hl 5 rfl) ?_
          refine lv_iadd hx hb dX14_merge_67 ?_
          refine lv_topi (fun f_33 ef_33 => ?_)
          have h2 : f_33 = 100 * p2 + p3 := by rw [ef_33, ef_32]
          have hin2 : vp_in f_33 400 := by rw [h2]; exact z_ent ⟨hc_11, hc_23⟩
          refine lv_istore (lv' := [(6, .int f_33), (5, .int f_31), (0, .ref h0), (1, .int p0), (2, .int p1), (3, .int p2), (4, .int p3)]) hx hb dX14_merge_68 hl (by decide) rfl (fun ls hl => ?_)
          refine lv_aload_n hx hb dX14_merge_70 rfl (lv_at hl 2 rfl) ?_
          have hPc := hP.sub (ws' := [(h0, .inr (18, [.int 0, .ref l1, .ref l2, .ref l3, .ref l4, .ref l5, .ref l6, .int 0, .int tol, .int ag, .ref m1, .ref m2, .ref m3, .ref m4, .ref m5, .ref m6])), (l6, .inr (3, [.int c6, .ref z, .int 0]))]) [1, 0] rfl
          have hKc := hK.sub (tys' := []) [] rfl
          have hDc := hD.sub (ws' := [(h0, .inr (18, [.int 0, .ref l1, .ref l2, .ref l3, .ref l4, .ref l5, .ref l6, .int 0, .int tol, .int ag, .ref m1, .ref m2, .ref m3, .ref m4, .ref m5, .ref m6])), (l6, .inr (3, [.int c6, .ref z, .int 0]))]) [1, 0] (by decide) rfl
          have hFc := va_free (wc := [(h0, .inr (18, [.int 0, .ref l1, .ref l2, .ref l3, .ref l4, .ref l5, .ref l6, .int 0, .int tol, .int ag, .ref m1, .ref m2, .ref m3, .ref m4, .ref m5, .ref m6])), (l6, .inr (3, [.int c6, .ref z, .int 0]))]) hD hS hA [1, 0] rfl
          refine va_callr (va_runV (As := []) (rest := []) ⟨hx, hb, hml, hown, hts⟩ (k_X14_repertory l G z h0 0 l1 l2 l3 l4 l5 l6 tol ag m1 m2 m3 m4 m5 m6 c6 z H_25.size ) (cwV 0 hts (lw_goodApp (lw_4 q1649 q1651 qs33 q7) q1652) rfl rfl rfl (by decide +kernel) ⟨Nat.le_of_ble_eq_true rfl, Nat.le_of_ble_eq_true rfl⟩) ⟨PW.blind, va_recv hK hP (ci := 18) (q0 := 1) rfl rfl, PW.of hPc hKc hDc hG hS hFc [.ref h0]⟩ rfl rfl hl.1 rfl (lv_room (Nat.le_of_ble_eq_true rfl)) dX14_merge_71 ⟨Nat.le_of_ble_eq_true rfl, Nat.le_of_ble_eq_true rfl⟩) hS (fun q _ h => hFc q h) hFc (fun u r_35 t_37 H_34 locs ht hvm hw_36 hB hz1 hk1 hS => ?_)
          obtain ⟨cyO_38, gO_39, hf_40, hB⟩ := hB
          obtain ⟨hP, hD, hK⟩ := QW.join (wr := []) (w1 := [(h0, .inr (18, [.int 0, .ref l1, .ref l2, .ref l3, .ref l4, .ref l5, .ref l6, .int 0, .int tol, .int ag, .ref m1, .ref m2, .ref m3, .ref m4, .ref m5, .ref m6])), (l6, .inr (3, [.int c6, .ref z, .int 0])), (r_35, .inl (cyO_38, 400, .inl (gO_39)))]) hP hD hK [1, 0] [] rfl rfl (by decide) (by decide) hk1 hFc ht hvm hB
          have hP : va_P G vwCl ([(h0, .inr (18, [.int 0, .ref l1, .ref l2, .ref l3, .ref l4, .ref l5, .ref l6, .int 0, .int tol, .int ag, .ref m1, .ref m2, .ref m3, .ref m4, .ref m5, .ref m6])), (l6, .inr (3, [.int c6, .ref z, .int 0])), (r_35, .inl (cyO_38, 400, .inl (gO_39)))]) H_34 := hP
          have hD : va_D A ([(h0, .inr (18, [.int 0, .ref l1, .ref l2, .ref l3, .ref l4, .ref l5, .ref l6, .int 0, .int tol, .int ag, .ref m1, .ref m2, .ref m3, .ref m4, .ref m5, .ref m6])), (l6, .inr (3, [.int c6, .ref z, .int 0])), (r_35, .inl (cyO_38, 400, .inl (gO_39)))]) := hD
          have hK : va_K G vwCl [(cyO_38, .int)] s := hK
          refine W.widen (k := 2) (n := 404) (Nat.le_of_ble_eq_true rfl) (Nat.le_of_ble_eq_true rfl) ?_
          refine lv_astore (lv' := [(7, .ref r_35), (6, .int f_33), (5, .int f_31), (0, .ref h0), (1, .int p0), (2, .int p1), (3, .int p2), (4, .int p3)]) hx hb dX14_merge_74 hl (by decide) rfl (fun ls hl => ?_)
          refine lv_aload_n hx hb dX14_merge_76 rfl (lv_at hl 3 rfl) ?_
          refine va_get (D := G) (ci := 18) (v := .ref l6) (C := RX14) (T := TX14) (N := 16) hx hb hg in_X14 hown hK hP 0 rfl rfl 6 (by decide) (hg _ q1193) (fun _ h9 => h9) rfl dX14_merge_77 ?_
          refine lv_iconst (v := 2) hx hb dX14_merge_80 (by decide) ?_
          refine va_newa (atype := .int) (ty := .int) (a0 := (2, .inl (fun _ => 0))) (N' := 2) hx hb (hg _ q94) rfl hK hP hD hS hA (fun _ => rfl) (by decide) (by decide +kernel) (Nat.le_of_ble_eq_true rfl) (Nat.le_of_ble_eq_true rfl) (Nat.le_of_ble_eq_true rfl) dX14_merge_81 (fun o_42 cy_41 H_43 hK hP hD hS => ?_)
          have hP : va_P G vwCl ([(h0, .inr (18, [.int 0, .ref l1, .ref l2, .ref l3, .ref l4, .ref l5, .ref l6, .int 0, .int tol, .int ag, .ref m1, .ref m2, .ref m3, .ref m4, .ref m5, .ref m6])), (l6, .inr (3, [.int c6, .ref z, .int 0])), (r_35, .inl (cyO_38, 400, .inl (gO_39))), (o_42, .inl (cy_41, 2, .inl (fun _ => 0)))]) H_43 := hP
          have hD : va_D A ([(h0, .inr (18, [.int 0, .ref l1, .ref l2, .ref l3, .ref l4, .ref l5, .ref l6, .int 0, .int tol, .int ag, .ref m1, .ref m2, .ref m3, .ref m4, .ref m5, .ref m6])), (l6, .inr (3, [.int c6, .ref z, .int 0])), (r_35, .inl (cyO_38, 400, .inl (gO_39))), (o_42, .inl (cy_41, 2, .inl (fun _ => 0)))]) := hD
          have hK : va_K G vwCl [(cyO_38, .int), (cy_41, .int)] s := hK
          refine W.widen (k := 3) (n := 406) (Nat.le_of_ble_eq_true rfl) (Nat.le_of_ble_eq_true rfl) ?_
          refine lv_dup hx hb dX14_merge_83 rfl ?_
          refine lv_iconst (v := 0) hx hb dX14_merge_84 (by decide) ?_
          refine lv_iload hx hb dX14_merge_85 (lv_at hl 2 rfl) ?_
          refine va_iast hx hb hK hP hD hS 3 1 rfl rfl (by unfold vp_in; decide +kernel) dX14_merge_87 (fun H_44 locs hP hD hS => ?_)
          have hP : va_P G vwCl ([(h0, .inr (18, [.int 0, .ref l1, .ref l2, .ref l3, .ref l4, .ref l5, .ref l6, .int 0, .int tol, .int ag, .ref m1, .ref m2, .ref m3, .ref m4, .ref m5, .ref m6])), (l6, .inr (3, [.int c6, .ref z, .int 0])), (r_35, .inl (cyO_38, 400, .inl (gO_39))), (o_42, .inl (cy_41, 2, .inl (upd (fun _ => 0) (0 : Int32).toNatClampNeg (f_31))))]) H_44 := hP
          have hD : va_D A ([(h0, .inr (18, [.int 0, .ref l1, .ref l2, .ref l3, .ref l4, .ref l5, .ref l6, .int 0, .int tol, .int ag, .ref m1, .ref m2, .ref m3, .ref m4, .ref m5, .ref m6])), (l6, .inr (3, [.int c6, .ref z, .int 0])), (r_35, .inl (cyO_38, 400, .inl (gO_39))), (o_42, .inl (cy_41, 2, .inl (upd (fun _ => 0) (0 : Int32).toNatClampNeg (f_31))))]) := hD
          refine lv_dup hx hb dX14_merge_88 rfl ?_
          refine lv_iconst (v := 1) hx hb dX14_merge_89 (by decide) ?_
          refine lv_iload hx hb dX14_merge_90 (lv_at hl 1 rfl) ?_
          refine va_iast hx hb hK hP hD hS 3 1 rfl rfl (by unfold vp_in; decide +kernel) dX14_merge_92 (fun H_45 locs hP hD hS => ?_)
          have hP : va_P G vwCl ([(h0, .inr (18, [.int 0, .ref l1, .ref l2, .ref l3, .ref l4, .ref l5, .ref l6, .int 0, .int tol, .int ag, .ref m1, .ref m2, .ref m3, .ref m4, .ref m5, .ref m6])), (l6, .inr (3, [.int c6, .ref z, .int 0])), (r_35, .inl (cyO_38, 400, .inl (gO_39))), (o_42, .inl (cy_41, 2, .inl (upd (upd (fun _ => 0) (0 : Int32).toNatClampNeg (f_31)) (1 : Int32).toNatClampNeg (f_33))))]) H_45 := hP
          have hD : va_D A ([(h0, .inr (18, [.int 0, .ref l1, .ref l2, .ref l3, .ref l4, .ref l5, .ref l6, .int 0, .int tol, .int ag, .ref m1, .ref m2, .ref m3, .ref m4, .ref m5, .ref m6])), (l6, .inr (3, [.int c6, .ref z, .int 0])), (r_35, .inl (cyO_38, 400, .inl (gO_39))), (o_42, .inl (cy_41, 2, .inl (upd (upd (fun _ => 0) (0 : Int32).toNatClampNeg (f_31)) (1 : Int32).toNatClampNeg (f_33))))]) := hD
          have hPc := hP.sub (ws' := [(l6, .inr (3, [.int c6, .ref z, .int 0])), (o_42, .inl (cy_41, 2, .inl (upd (upd (fun _ => 0) (0 : Int32).toNatClampNeg (f_31)) (1 : Int32).toNatClampNeg (f_33))))]) [1, 3] rfl
          have hKc := hK.sub (tys' := [(cy_41, .int)]) [1] rfl
          have hDc := hD.sub (ws' := [(l6, .inr (3, [.int c6, .ref z, .int 0])), (o_42, .inl (cy_41, 2, .inl (upd (upd (fun _ => 0) (0 : Int32).toNatClampNeg (f_31)) (1 : Int32).toNatClampNeg (f_33))))]) [1, 3] (by decide) rfl
          have hFc := va_free (wc := [(l6, .inr (3, [.int c6, .ref z, .int 0])), (o_42, .inl (cy_41, 2, .inl (upd (upd (fun _ => 0) (0 : Int32).toNatClampNeg (f_31)) (1 : Int32).toNatClampNeg (f_33))))]) hD hS hA [1, 3] rfl
          refine va_calli (va_runV (As := [.ref o_42]) (rest := []) ⟨hx, hb, hml, hown, hts⟩ (k_Jx4a65c_add_9ea2d_a l G z l6 c6 o_42 cy_41 2 (upd (upd (fun _ => 0) (0 : Int32).toNatClampNeg (f_31)) (1 : Int32).toNatClampNeg (f_33)) H_45.size ) (cwV 1 hts (lw_goodApp (lw_4 q1296 q449 q450 q4) q451) rfl rfl rfl (by decide +kernel) ⟨Nat.le_of_ble_eq_true rfl, Nat.le_of_ble_eq_true rfl⟩) ⟨PW.blind, va_recv hK hP (ci := 3) (q0 := 1) rfl rfl, PW.of hPc hKc hDc hG hS hFc [.ref l6, .ref o_42]⟩ rfl rfl hl.1 rfl (lv_room (Nat.le_of_ble_eq_true rfl)) dX14_merge_93 ⟨Nat.le_of_ble_eq_true rfl, Nat.le_of_ble_eq_true rfl⟩) hS (fun q _ h => hFc q h) hFc (fun r_47 u t_49 H_46 locs ht hvm hw_48 hB hz1 hk1 hS => ?_)
          obtain ⟨c1_50, qa_51, hB⟩ := hB
          obtain ⟨hP, hD, hK⟩ := QW.join (wr := [(h0, .inr (18, [.int 0, .ref l1, .ref l2, .ref l3, .ref l4, .ref l5, .ref l6, .int 0, .int tol, .int ag, .ref m1, .ref m2, .ref m3, .ref m4, .ref m5, .ref m6])), (r_35, .inl (cyO_38, 400, .inl (gO_39)))]) (w1 := [(l6, .inr (3, [.int c1_50, .ref qa_51, .int 1]))]) hP hD hK [1, 3] [0, 2] rfl rfl (by decide) (by decide) hk1 hFc ht hvm hB
          have hP : va_P G vwCl ([(h0, .inr (18, [.int 0, .ref l1, .ref l2, .ref l3, .ref l4, .ref l5, .ref l6, .int 0, .int tol, .int ag, .ref m1, .ref m2, .ref m3, .ref m4, .ref m5, .ref m6])), (r_35, .inl (cyO_38, 400, .inl (gO_39))), (l6, .inr (3, [.int c1_50, .ref qa_51, .int 1]))]) H_46 := hP
          have hD : va_D A ([(h0, .inr (18, [.int 0, .ref l1, .ref l2, .ref l3, .ref l4, .ref l5, .ref l6, .int 0, .int tol, .int ag, .ref m1, .ref m2, .ref m3, .ref m4, .ref m5, .ref m6])), (r_35, .inl (cyO_38, 400, .inl (gO_39))), (l6, .inr (3, [.int c1_50, .ref qa_51, .int 1]))]) := hD
          have hK : va_K G vwCl [(cyO_38, .int), (cy_41, .int)] s := hK
          refine W.widen (k := 4) (n := 416) (Nat.le_of_ble_eq_true rfl) (Nat.le_of_ble_eq_true rfl) ?_
          obtain rfl : 1 = r_47 := hw_48.symm
          refine lv_istore (lv' := [(8, .int 1), (7, .ref r_35), (6, .int f_33), (5, .int f_31), (0, .ref h0), (1, .int p0), (2, .int p1), (3, .int p2), (4, .int p3)]) hx hb dX14_merge_96 hl (by decide) rfl (fun ls hl => ?_)
          refine lv_aload hx hb dX14_merge_98 (lv_at hl 1 rfl) ?_
          refine lv_iload hx hb dX14_merge_100 (lv_at hl 3 rfl) ?_
          refine va_iald hx hb hK hP 1 0 rfl rfl hin1 dX14_merge_102 ?_
          refine lv_topi (fun f_52 ef_52 => ?_)
          obtain rfl : f_31 = f_52 := (ef_52.trans (z_rep hf_40 hin1)).symm
          refine lv_aload hx hb dX14_merge_103 (lv_at hl 1 rfl) ?_
          refine lv_iload hx hb dX14_merge_105 (lv_at hl 2 rfl) ?_
          refine va_iald hx hb hK hP 1 0 rfl rfl hin2 dX14_merge_107 ?_
          refine lv_topi (fun f_53 ef_53 => ?_)
          obtain rfl : f_33 = f_53 := (ef_53.trans (z_rep hf_40 hin2)).symm
          refine lv_icmp_eq (tgt := 115) hx hb dX14_merge_108 (by decide) (fun c_54 => ?_) (fun c_54 => ?_)
          · refine lv_iconst (v := 0) hx hb dX14_merge_115 (by decide) ?_
            refine W.widen (k := 4) (n := 416) (Nat.le_of_ble_eq_true rfl) (Nat.le_of_ble_eq_true rfl) ?_
            have hP9 := hP.sub (ws' := [(h0, .inr (18, [.int 0, .ref l1, .ref l2, .ref l3, .ref l4, .ref l5, .ref l6, .int 0, .int tol, .int ag, .ref m1, .ref m2, .ref m3, .ref m4, .ref m5, .ref m6]))]) [0] rfl
            have hD9 := hD.sub (ws' := [(h0, .inr (18, [.int 0, .ref l1, .ref l2, .ref l3, .ref l4, .ref l5, .ref l6, .int 0, .int tol, .int ag, .ref m1, .ref m2, .ref m3, .ref m4, .ref m5, .ref m6]))]) [0] (by decide) rfl
            have hK9 := hK.sub (tys' := []) [] rfl
            exact W.zret (v := 0) hx hb hr rfl (fun t ht hW => ⟨⟨0, (), rfl, fun _ => (if_pos (h1.symm.trans (c_54.trans h2))).symm, ⟨0, Or.inl ⟨⟨⟨hc_5, hc_17⟩, hc_11, hc_23⟩, rfl⟩, QW.of hP9 hK9 hD9 ht hW.alike⟩⟩, hS.F ht⟩) hS.2.2 dX14_merge_116
          · refine lv_iconst (v := 1) hx hb dX14_merge_111 (by decide) ?_
            refine lv_goto (tgt := 116) hx hb dX14_merge_112 (by decide) ?_
            refine W.widen (k := 4) (n := 416) (Nat.le_of_ble_eq_true rfl) (Nat.le_of_ble_eq_true rfl) ?_
            have hP9 := hP.sub (ws' := [(h0, .inr (18, [.int 0, .ref l1, .ref l2, .ref l3, .ref l4, .ref l5, .ref l6, .int 0, .int tol, .int ag, .ref m1, .ref m2, .ref m3, .ref m4, .ref m5, .ref m6]))]) [0] rfl
            have hD9 := hD.sub (ws' := [(h0, .inr (18, [.int 0, .ref l1, .ref l2, .ref l3, .ref l4, .ref l5, .ref l6, .int 0, .int tol, .int ag, .ref m1, .ref m2, .ref m3, .ref m4, .ref m5, .ref m6]))]) [0] (by decide) rfl
            have hK9 := hK.sub (tys' := []) [] rfl
            exact W.zret (v := 1) hx hb hr rfl (fun t ht hW => ⟨⟨1, (), rfl, fun _ => (if_neg (fun h => c_54 (h1.trans (h.trans h2.symm)))).symm, ⟨0, Or.inl ⟨⟨⟨hc_5, hc_17⟩, hc_11, hc_23⟩, rfl⟩, QW.of hP9 hK9 hD9 ht hW.alike⟩⟩, hS.F ht⟩) hS.2.2 dX14_merge_116
        · refine lv_if_eq (tgt := 44) hx hb dX14_merge_37 (by decide) (fun c_55 => ?_) (fun c_55 => absurd rfl c_55)
          refine lv_iconst (v := 1) hx hb dX14_merge_44 (by decide) ?_
          have hPc := hP.sub (ws' := [(h0, .inr (18, [.int th, .ref l1, .ref l2, .ref l3, .ref l4, .ref l5, .ref l6, .int 0, .int tol, .int ag, .ref m1, .ref m2, .ref m3, .ref m4, .ref m5, .ref m6]))]) [0] rfl
          have hKc := hK.sub (tys' := []) [] rfl
          have hDc := hD.sub (ws' := [(h0, .inr (18, [.int th, .ref l1, .ref l2, .ref l3, .ref l4, .ref l5, .ref l6, .int 0, .int tol, .int ag, .ref m1, .ref m2, .ref m3, .ref m4, .ref m5, .ref m6]))]) [0] (by decide) rfl
          have hFc := va_free (wc := [(h0, .inr (18, [.int th, .ref l1, .ref l2, .ref l3, .ref l4, .ref l5, .ref l6, .int 0, .int tol, .int ag, .ref m1, .ref m2, .ref m3, .ref m4, .ref m5, .ref m6]))]) hD hS hA [0] rfl
          refine va_calli (va_runV (As := [.int 1]) (rest := []) ⟨hx, hb, hml, hown, hts⟩ (k_X14_fails_1 l G z h0 th l1 l2 l3 l4 l5 l6 tol ag m1 m2 m3 m4 m5 m6 1 H_19.size (by decide)) (cwV 1 hts (lw_goodApp (lw_4 q1248 q1250 qs23 q7) q1251) rfl rfl rfl (by decide +kernel) ⟨Nat.le_of_ble_eq_true rfl, Nat.le_of_ble_eq_true rfl⟩) ⟨PW.blind, va_recv hK hP (ci := 18) (q0 := 0) rfl rfl, PW.of hPc hKc hDc hG hS hFc [.ref h0, .int 1]⟩ rfl rfl hl.1 rfl (lv_room (Nat.le_of_ble_eq_true rfl)) dX14_merge_45 ⟨Nat.le_of_ble_eq_true rfl, Nat.le_of_ble_eq_true rfl⟩) hS (fun q _ h => hFc q h) hFc (fun r_57 u t_59 H_56 locs ht hvm hw_58 hB hz1 hk1 hS => ?_)
          obtain ⟨hP, hD, hK⟩ := QW.join (wr := [(l6, .inr (3, [.int c6, .ref z, .int 0]))]) (w1 := [(h0, .inr (18, [.int 1, .ref l1, .ref l2, .ref l3, .ref l4, .ref l5, .ref l6, .int 0, .int tol, .int ag, .ref m1, .ref m2, .ref m3, .ref m4, .ref m5, .ref m6]))]) hP hD hK [0] [1] rfl rfl (by decide) (by decide) hk1 hFc ht hvm hB
          have hP : va_P G vwCl ([(l6, .inr (3, [.int c6, .ref z, .int 0])), (h0, .inr (18, [.int 1, .ref l1, .ref l2, .ref l3, .ref l4, .ref l5, .ref l6, .int 0, .int tol, .int ag, .ref m1, .ref m2, .ref m3, .ref m4, .ref m5, .ref m6]))]) H_56 := hP
          have hD : va_D A ([(l6, .inr (3, [.int c6, .ref z, .int 0])), (h0, .inr (18, [.int 1, .ref l1, .ref l2, .ref l3, .ref l4, .ref l5, .ref l6, .int 0, .int tol, .int ag, .ref m1, .ref m2, .ref m3, .ref m4, .ref m5, .ref m6]))]) := hD
          have hK : va_K G vwCl [] s := hK
          refine W.widen (k := 0) (n := 0) (Nat.le_of_ble_eq_true rfl) (Nat.le_of_ble_eq_true rfl) ?_
          obtain rfl : 1 = r_57 := hw_58.symm
          refine lv_if_eq (tgt := 53) hx hb dX14_merge_48 (by decide) (fun c_60 => absurd c_60 (by decide)) (fun c_60 => ?_)
          refine lv_iconst (v := 0) hx hb dX14_merge_51 (by decide) ?_
          refine W.widen (k := 4) (n := 416) (Nat.le_of_ble_eq_true rfl) (Nat.le_of_ble_eq_true rfl) ?_
          have hP9 := hP.sub (ws' := [(h0, .inr (18, [.int 1, .ref l1, .ref l2, .ref l3, .ref l4, .ref l5, .ref l6, .int 0, .int tol, .int ag, .ref m1, .ref m2, .ref m3, .ref m4, .ref m5, .ref m6]))]) [1] rfl
          have hD9 := hD.sub (ws' := [(h0, .inr (18, [.int 1, .ref l1, .ref l2, .ref l3, .ref l4, .ref l5, .ref l6, .int 0, .int tol, .int ag, .ref m1, .ref m2, .ref m3, .ref m4, .ref m5, .ref m6]))]) [1] (by decide) rfl
          have hK9 := hK.sub (tys' := []) [] rfl
          exact W.zret (v := 0) hx hb hr rfl (fun t ht hW => ⟨⟨0, (), rfl, fun h9 => (hc_23 (h9.2.2)).elim, ⟨1, Or.inr ⟨fun h9 => hc_23 (h9.2.2), rfl⟩, QW.of hP9 hK9 hD9 ht hW.alike⟩⟩, hS.F ht⟩) hS.2.2 dX14_merge_52
      · refine lv_if_eq (tgt := 44) hx hb dX14_merge_26 (by decide) (fun c_61 => ?_) (fun c_61 => absurd rfl c_61)
        refine lv_iconst (v := 1) hx hb dX14_merge_44 (by decide) ?_
        have hPc := hP.sub (ws' := [(h0, .inr (18, [.int th, .ref l1, .ref l2, .ref l3, .ref l4, .ref l5, .ref l6, .int 0, .int tol, .int ag, .ref m1, .ref m2, .ref m3, .ref m4, .ref m5, .ref m6]))]) [0] rfl
        have hKc := hK.sub (tys' := []) [] rfl
        have hDc := hD.sub (ws' := [(h0, .inr (18, [.int th, .ref l1, .ref l2, .ref l3, .ref l4, .ref l5, .ref l6, .int 0, .int tol, .int ag, .ref m1, .ref m2, .ref m3, .ref m4, .ref m5, .ref m6]))]) [0] (by decide) rfl
        have hFc := va_free (wc := [(h0, .inr (18, [.int th, .ref l1, .ref l2, .ref l3, .ref l4, .ref l5, .ref l6, .int 0, .int tol, .int ag, .ref m1, .ref m2, .ref m3, .ref m4, .ref m5, .ref m6]))]) hD hS hA [0] rfl
        refine va_calli (va_runV (As := [.int 1]) (rest := []) ⟨hx, hb, hml, hown, hts⟩ (k_X14_fails_1 l G z h0 th l1 l2 l3 l4 l5 l6 tol ag m1 m2 m3 m4 m5 m6 1 H_13.size (by decide)) (cwV 1 hts (lw_goodApp (lw_4 q1248 q1250 qs23 q7) q1251) rfl rfl rfl (by decide +kernel) ⟨Nat.le_of_ble_eq_true rfl, Nat.le_of_ble_eq_true rfl⟩) ⟨PW.blind, va_recv hK hP (ci := 18) (q0 := 0) rfl rfl, PW.of hPc hKc hDc hG hS hFc [.ref h0, .int 1]⟩ rfl rfl hl.1 rfl (lv_room (Nat.le_of_ble_eq_true rfl)) dX14_merge_45 ⟨Nat.le_of_ble_eq_true rfl, Nat.le_of_ble_eq_true rfl⟩) hS (fun q _ h => hFc q h) hFc (fun r_63 u t_65 H_62 locs ht hvm hw_64 hB hz1 hk1 hS => ?_)
        obtain ⟨hP, hD, hK⟩ := QW.join (wr := [(l6, .inr (3, [.int c6, .ref z, .int 0]))]) (w1 := [(h0, .inr (18, [.int 1, .ref l1, .ref l2, .ref l3, .ref l4, .ref l5, .ref l6, .int 0, .int tol, .int ag, .ref m1, .ref m2, .ref m3, .ref m4, .ref m5, .ref m6]))]) hP hD hK [0] [1] rfl rfl (by decide) (by decide) hk1 hFc ht hvm hB
        have hP : va_P G vwCl ([(l6, .inr (3, [.int c6, .ref z, .int 0])), (h0, .inr (18, [.int 1, .ref l1, .ref l2, .ref l3, .ref l4, .ref l5, .ref l6, .int 0, .int tol, .int ag, .ref m1, .ref m2, .ref m3, .ref m4, .ref m5, .ref m6]))]) H_62 := hP
        have hD : va_D A ([(l6, .inr (3, [.int c6, .ref z, .int 0])), (h0, .inr (18, [.int 1, .ref l1, .ref l2, .ref l3, .ref l4, .ref l5, .ref l6, .int 0, .int tol, .int ag, .ref m1, .ref m2, .ref m3, .ref m4, .ref m5, .ref m6]))]) := hD
        have hK : va_K G vwCl [] s := hK
        refine W.widen (k := 0) (n := 0) (Nat.le_of_ble_eq_true rfl) (Nat.le_of_ble_eq_true rfl) ?_
        obtain rfl : 1 = r_63 := hw_64.symm
        refine lv_if_eq (tgt := 53) hx hb dX14_merge_48 (by decide) (fun c_66 => absurd c_66 (by decide)) (fun c_66 => ?_)
        refine lv_iconst (v := 0) hx hb dX14_merge_51 (by decide) ?_
        refine W.widen (k := 4) (n := 416) (Nat.le_of_ble_eq_true rfl) (Nat.le_of_ble_eq_true rfl) ?_
        have hP9 := hP.sub (ws' := [(h0, .inr (18, [.int 1, .ref l1, .ref l2, .ref l3, .ref l4, .ref l5, .ref l6, .int 0, .int tol, .int ag, .ref m1, .ref m2, .ref m3, .ref m4, .ref m5, .ref m6]))]) [1] rfl
        have hD9 := hD.sub (ws' := [(h0, .inr (18, [.int 1, .ref l1, .ref l2, .ref l3, .ref l4, .ref l5, .ref l6, .int 0, .int tol, .int ag, .ref m1, .ref m2, .ref m3, .ref m4, .ref m5, .ref m6]))]) [1] (by decide) rfl
        have hK9 := hK.sub (tys' := []) [] rfl
        exact W.zret (v := 0) hx hb hr rfl (fun t ht hW => ⟨⟨0, (), rfl, fun h9 => (hc_17 (h9.1.2)).elim, ⟨1, Or.inr ⟨fun h9 => hc_17 (h9.1.2), rfl⟩, QW.of hP9 hK9 hD9 ht hW.alike⟩⟩, hS.F ht⟩) hS.2.2 dX14_merge_52
    · refine lv_if_eq (tgt := 44) hx hb dX14_merge_16 (by decide) (fun c_67 => ?_) (fun c_67 => absurd rfl c_67)
      refine lv_iconst (v := 1) hx hb dX14_merge_44 (by decide) ?_
      have hPc := hP.sub (ws' := [(h0, .inr (18, [.int th, .ref l1, .ref l2, .ref l3, .ref l4, .ref l5, .ref l6, .int 0, .int tol, .int ag, .ref m1, .ref m2, .ref m3, .ref m4, .ref m5, .ref m6]))]) [0] rfl
      have hKc := hK.sub (tys' := []) [] rfl
      have hDc := hD.sub (ws' := [(h0, .inr (18, [.int th, .ref l1, .ref l2, .ref l3, .ref l4, .ref l5, .ref l6, .int 0, .int tol, .int ag, .ref m1, .ref m2, .ref m3, .ref m4, .ref m5, .ref m6]))]) [0] (by decide) rfl
      have hFc := va_free (wc := [(h0, .inr (18, [.int th, .ref l1, .ref l2, .ref l3, .ref l4, .ref l5, .ref l6, .int 0, .int tol, .int ag, .ref m1, .ref m2, .ref m3, .ref m4, .ref m5, .ref m6]))]) hD hS hA [0] rfl
      refine va_calli (va_runV (As := [.int 1]) (rest := []) ⟨hx, hb, hml, hown, hts⟩ (k_X14_fails_1 l G z h0 th l1 l2 l3 l4 l5 l6 tol ag m1 m2 m3 m4 m5 m6 1 H_7.size (by decide)) (cwV 1 hts (lw_goodApp (lw_4 q1248 q1250 qs23 q7) q1251) rfl rfl rfl (by decide +kernel) ⟨Nat.le_of_ble_eq_true rfl, Nat.le_of_ble_eq_true rfl⟩) ⟨PW.blind, va_recv hK hP (ci := 18) (q0 := 0) rfl rfl, PW.of hPc hKc hDc hG hS hFc [.ref h0, .int 1]⟩ rfl rfl hl.1 rfl (lv_room (Nat.le_of_ble_eq_true rfl)) dX14_merge_45 ⟨Nat.le_of_ble_eq_true rfl, Nat.le_of_ble_eq_true rfl⟩) hS (fun q _ h => hFc q h) hFc (fun r_69 u t_71 H_68 locs ht hvm hw_70 hB hz1 hk1 hS => ?_)
      obtain ⟨hP, hD, hK⟩ := QW.join (wr := [(l6, .inr (3, [.int c6, .ref z, .int 0]))]) (w1 := [(h0, .inr (18, [.int 1, .ref l1, .ref l2, .ref l3, .ref l4, .ref l5, .ref l6, .int 0, .int tol, .int ag, .ref m1, .ref m2, .ref m3, .ref m4, .ref m5, .ref m6]))]) hP hD hK [0] [1] rfl rfl (by decide) (by decide) hk1 hFc ht hvm hB
      have hP : va_P G vwCl ([(l6, .inr (3, [.int c6, .ref z, .int 0])), (h0, .inr (18, [.int 1, .ref l1, .ref l2, .ref l3, .ref l4, .ref l5, .ref l6, .int 0, .int tol, .int ag, .ref m1, .ref m2, .ref m3, .ref m4, .ref m5, .ref m6]))]) H_68 := hP
      have hD : va_D A ([(l6, .inr (3, [.int c6, .ref z, .int 0])), (h0, .inr (18, [.int 1, .ref l1, .ref l2, .ref l3, .ref l4, .ref l5, .ref l6, .int 0, .int tol, .int ag, .ref m1, .ref m2, .ref m3, .ref m4, .ref m5, .ref m6]))]) := hD
      have hK : va_K G vwCl [] s := hK
      refine W.widen (k := 0) (n := 0) (Nat.le_of_ble_eq_true rfl) (Nat.le_of_ble_eq_true rfl) ?_
      obtain rfl : 1 = r_69 := hw_70.symm
      refine lv_if_eq (tgt := 53) hx hb dX14_merge_48 (by decide) (fun c_72 => absurd c_72 (by decide)) (fun c_72 => ?_)
      refine lv_iconst (v := 0) hx hb dX14_merge_51 (by decide) ?_
      refine W.widen (k := 4) (n := 416) (Nat.le_of_ble_eq_true rfl) (Nat.le_of_ble_eq_true rfl) ?_
      have hP9 := hP.sub (ws' := [(h0, .inr (18, [.int 1, .ref l1, .ref l2, .ref l3, .ref l4, .ref l5, .ref l6, .int 0, .int tol, .int ag, .ref m1, .ref m2, .ref m3, .ref m4, .ref m5, .ref m6]))]) [1] rfl
      have hD9 := hD.sub (ws' := [(h0, .inr (18, [.int 1, .ref l1, .ref l2, .ref l3, .ref l4, .ref l5, .ref l6, .int 0, .int tol, .int ag, .ref m1, .ref m2, .ref m3, .ref m4, .ref m5, .ref m6]))]) [1] (by decide) rfl
      have hK9 := hK.sub (tys' := []) [] rfl
      exact W.zret (v := 0) hx hb hr rfl (fun t ht hW => ⟨⟨0, (), rfl, fun h9 => (hc_11 (h9.2.1)).elim, ⟨1, Or.inr ⟨fun h9 => hc_11 (h9.2.1), rfl⟩, QW.of hP9 hK9 hD9 ht hW.alike⟩⟩, hS.F ht⟩) hS.2.2 dX14_merge_52
  · refine lv_if_eq (tgt := 44) hx hb dX14_merge_7 (by decide) (fun c_73 => ?_) (fun c_73 => absurd rfl c_73)
    refine lv_iconst (v := 1) hx hb dX14_merge_44 (by decide) ?_
    have hPc := hP.sub (ws' := [(h0, .inr (18, [.int th, .ref l1, .ref l2, .ref l3, .ref l4, .ref l5, .ref l6, .int 0, .int tol, .int ag, .ref m1, .ref m2, .ref m3, .ref m4, .ref m5, .ref m6]))]) [0] rfl
    have hKc := hK.sub (tys' := []) [] rfl
    have hDc := hD.sub (ws' := [(h0, .inr (18, [.int th, .ref l1, .ref l2, .ref l3, .ref l4, .ref l5, .ref l6, .int 0, .int tol, .int ag, .ref m1, .ref m2, .ref m3, .ref m4, .ref m5, .ref m6]))]) [0] (by decide) rfl
    have hFc := va_free (wc := [(h0, .inr (18, [.int th, .ref l1, .ref l2, .ref l3, .ref l4, .ref l5, .ref l6, .int 0, .int tol, .int ag, .ref m1, .ref m2, .ref m3, .ref m4, .ref m5, .ref m6]))]) hD hS hA [0] rfl
    refine va_calli (va_runV (As := [.int 1]) (rest := []) ⟨hx, hb, hml, hown, hts⟩ (k_X14_fails_1 l G z h0 th l1 l2 l3 l4 l5 l6 tol ag m1 m2 m3 m4 m5 m6 1 H_1.size (by decide)) (cwV 1 hts (lw_goodApp (lw_4 q1248 q1250 qs23 q7) q1251) rfl rfl rfl (by decide +kernel) ⟨Nat.le_of_ble_eq_true rfl, Nat.le_of_ble_eq_true rfl⟩) ⟨PW.blind, va_recv hK hP (ci := 18) (q0 := 0) rfl rfl, PW.of hPc hKc hDc hG hS hFc [.ref h0, .int 1]⟩ rfl rfl hl.1 rfl (lv_room (Nat.le_of_ble_eq_true rfl)) dX14_merge_45 ⟨Nat.le_of_ble_eq_true rfl, Nat.le_of_ble_eq_true rfl⟩) hS (fun q _ h => hFc q h) hFc (fun r_75 u t_77 H_74 locs ht hvm hw_76 hB hz1 hk1 hS => ?_)
    obtain ⟨hP, hD, hK⟩ := QW.join (wr := [(l6, .inr (3, [.int c6, .ref z, .int 0]))]) (w1 := [(h0, .inr (18, [.int 1, .ref l1, .ref l2, .ref l3, .ref l4, .ref l5, .ref l6, .int 0, .int tol, .int ag, .ref m1, .ref m2, .ref m3, .ref m4, .ref m5, .ref m6]))]) hP hD hK [0] [1] rfl rfl (by decide) (by decide) hk1 hFc ht hvm hB
    have hP : va_P G vwCl ([(l6, .inr (3, [.int c6, .ref z, .int 0])), (h0, .inr (18, [.int 1, .ref l1, .ref l2, .ref l3, .ref l4, .ref l5, .ref l6, .int 0, .int tol, .int ag, .ref m1, .ref m2, .ref m3, .ref m4, .ref m5, .ref m6]))]) H_74 := hP
    have hD : va_D A ([(l6, .inr (3, [.int c6, .ref z, .int 0])), (h0, .inr (18, [.int 1, .ref l1, .ref l2, .ref l3, .ref l4, .ref l5, .ref l6, .int 0, .int tol, .int ag, .ref m1, .ref m2, .ref m3, .ref m4, .ref m5, .ref m6]))]) := hD
    have hK : va_K G vwCl [] s := hK
    refine W.widen (k := 0) (n := 0) (Nat.le_of_ble_eq_true rfl) (Nat.le_of_ble_eq_true rfl) ?_
    obtain rfl : 1 = r_75 := hw_76.symm
    refine lv_if_eq (tgt := 53) hx hb dX14_merge_48 (by decide) (fun c_78 => absurd c_78 (by decide)) (fun c_78 => ?_)
    refine lv_iconst (v := 0) hx hb dX14_merge_51 (by decide) ?_
    refine W.widen (k := 4) (n := 416) (Nat.le_of_ble_eq_true rfl) (Nat.le_of_ble_eq_true rfl) ?_
    have hP9 := hP.sub (ws' := [(h0, .inr (18, [.int 1, .ref l1, .ref l2, .ref l3, .ref l4, .ref l5, .ref l6, .int 0, .int tol, .int ag, .ref m1, .ref m2, .ref m3, .ref m4, .ref m5, .ref m6]))]) [1] rfl
    have hD9 := hD.sub (ws' := [(h0, .inr (18, [.int 1, .ref l1, .ref l2, .ref l3, .ref l4, .ref l5, .ref l6, .int 0, .int tol, .int ag, .ref m1, .ref m2, .ref m3, .ref m4, .ref m5, .ref m6]))]) [1] (by decide) rfl
    have hK9 := hK.sub (tys' := []) [] rfl
    exact W.zret (v := 0) hx hb hr rfl (fun t ht hW => ⟨⟨0, (), rfl, fun h9 => (hc_5 (h9.1.1)).elim, ⟨1, Or.inr ⟨fun h9 => hc_5 (h9.1.1), rfl⟩, QW.of hP9 hK9 hD9 ht hW.alike⟩⟩, hS.F ht⟩) hS.2.2 dX14_merge_52

abbrev wz_X14_clashes : List Cond := .code yX14_clashes cX14_clashes 6 (Option.some Jvm.ClassFile.FieldType.int) :: lw_good
set_option maxHeartbeats 4000000 in
set_option maxRecDepth 100000 in
/-- clashes (reference): nothing is merged -/
theorem k_X14_clashes (l : Launch) (G : va_G) (z : Nat) (h0 : Nat) (th : Int32) (l1 : Nat) (l2 : Nat) (l3 : Nat) (l4 : Nat) (l5 : Nat) (l6 : Nat) (tol : Int32) (ag : Int32) (m1 : Nat) (m2 : Nat) (m3 : Nat) (m4 : Nat) (m5 : Nat) (m6 : Nat) (c6 : Int32) (e6 : Nat) (sz : Nat)  : Met l yX14_clashes wz_X14_clashes ({ frames := 4, cells := 2, slots := 404, locals := 84 }) (va_Pc [.ref h0] (PW G z [(h0, .inr (18, [.int th, .ref l1, .ref l2, .ref l3, .ref l4, .ref l5, .ref l6, .int 0, .int tol, .int ag, .ref m1, .ref m2, .ref m3, .ref m4, .ref m5, .ref m6])), (l6, .inr (3, [.int c6, .ref e6, .int 0]))] [] sz)) (va_Qi (fun (r : Int32) (_ : Unit) => r = 0) (fun (_ : Unit) (t : State) => QW G [(h0, .inr (18, [.int 0, .ref l1, .ref l2, .ref l3, .ref l4, .ref l5, .ref l6, .int 0, .int tol, .int ag, .ref m1, .ref m2, .ref m3, .ref m4, .ref m5, .ref m6]))] [] (va_A [(h0, .inr (18, [.int th, .ref l1, .ref l2, .ref l3, .ref l4, .ref l5, .ref l6, .int 0, .int tol, .int ag, .ref m1, .ref m2, .ref m3, .ref m4, .ref m5, .ref m6])), (l6, .inr (3, [.int c6, .ref e6, .int 0]))] sz) t) (va_A [(h0, .inr (18, [.int th, .ref l1, .ref l2, .ref l3, .ref l4, .ref l5, .ref l6, .int 0, .int tol, .int ag, .ref m1, .ref m2, .ref m3, .ref m4, .ref m5, .ref m6])), (l6, .inr (3, [.int c6, .ref e6, .int 0]))] sz)) 2 404 (va_A [(h0, .inr (18, [.int th, .ref l1, .ref l2, .ref l3, .ref l4, .ref l5, .ref l6, .int 0, .int tol, .int ag, .ref m1, .ref m2, .ref m3, .ref m4, .ref m5, .ref m6])), (l6, .inr (3, [.int c6, .ref e6, .int 0]))] sz) := by
  refine Met.ofW (cc := cX14_clashes) (maxL := 6) (ret := (Option.some Jvm.ClassFile.FieldType.int)) (by decide) rfl ?_
  intro p e s m args below meth c s₁ B hml hv
  obtain ⟨rfl, rfl, hP, hK, hD0, hG⟩ := hv
  have hx := B.exec
  have hb := B.bytes
  have hr := B.returns
  have hts := atoms_spec (ws := wz_X14_clashes) B.pre
  have hg : ∀ w ∈ lw_good, w.before _ s = true := fun w h => hts w (List.mem_cons_of_mem _ h)
  have hown : s.vm.findClass RX14 = some m.cls := findClass_of_methodNamed B.named
  have hlocks := B.notSynchronized
  have hD := hD0.self (sz := s.heap.size)
  generalize hAe : va_A [(h0, .inr (18, [.int th, .ref l1, .ref l2, .ref l3, .ref l4, .ref l5, .ref l6, .int 0, .int tol, .int ag, .ref m1, .ref m2, .ref m3, .ref m4, .ref m5, .ref m6])), (l6, .inr (3, [.int c6, .ref e6, .int 0]))] s.heap.size = A at hD hG ⊢
  have hA : ∀ q : Nat, s.heap.size ≤ q → A q := fun q h => by rw [← hAe]; exact Or.inr h
  have hS : va_S A s.heap s.heap [] := va_S.rf
  have hl := lv_entry ([.ref h0]) (n := 6) (Nat.le_of_ble_eq_true rfl)
  rw [lg_entry_eq]
  generalize (lg_sl ([.ref h0]) ++ List.replicate (6 - (lg_sl ([.ref h0])).length) Slot.unset).toArray = ls at hl ⊢
  have hl : lv_has ls 6 [(0, .ref h0)] := hl
  refine lv_aload_n hx hb dX14_clashes_0 rfl (lv_at hl 0 rfl) ?_
  refine lv_iconst (v := 0) hx hb dX14_clashes_1 (by decide) ?_
  refine va_put (D := G) (ci := 18) (v := .int 0) (ty := .int) (C := RX14) (T := TX14) (N := 16) hx hb hg in_X14 tyX14 tyX14_ok nmX14 hown hK hP hD hS 0 rfl rfl 0 (by decide) (hg _ q1187) (fun _ h9 => h9) rfl (by decide +kernel) rfl rfl (Nat.le_of_ble_eq_true rfl) dX14_clashes_2 (fun H_1 locs hP hD hS => ?_)
  have hP : va_P G vwCl ([(h0, .inr (18, [.int 0, .ref l1, .ref l2, .ref l3, .ref l4, .ref l5, .ref l6, .int 0, .int tol, .int ag, .ref m1, .ref m2, .ref m3, .ref m4, .ref m5, .ref m6])), (l6, .inr (3, [.int c6, .ref e6, .int 0]))]) H_1 := hP
  have hD : va_D A ([(h0, .inr (18, [.int 0, .ref l1, .ref l2, .ref l3, .ref l4, .ref l5, .ref l6, .int 0, .int tol, .int ag, .ref m1, .ref m2, .ref m3, .ref m4, .ref m5, .ref m6])), (l6, .inr (3, [.int c6, .ref e6, .int 0]))]) := hD
  refine lv_aload_n hx hb dX14_clashes_5 rfl (lv_at hl 0 rfl) ?_
  have hPc := hP.sub (ws' := [(h0, .inr (18, [.int 0, .ref l1, .ref l2, .ref l3, .ref l4, .ref l5, .ref l6, .int 0, .int tol, .int ag, .ref m1, .ref m2, .ref m3, .ref m4, .ref m5, .ref m6])), (l6, .inr (3, [.int c6, .ref e6, .int 0]))]) [0, 1] rfl
  have hKc := hK.sub (tys' := []) [] rfl
  have hDc := hD.sub (ws' := [(h0, .inr (18, [.int 0, .ref l1, .ref l2, .ref l3, .ref l4, .ref l5, .ref l6, .int 0, .int tol, .int ag, .ref m1, .ref m2, .ref m3, .ref m4, .ref m5, .ref m6])), (l6, .inr (3, [.int c6, .ref e6, .int 0]))]) [0, 1] (by decide) rfl
  have hFc := va_free (wc := [(h0, .inr (18, [.int 0, .ref l1, .ref l2, .ref l3, .ref l4, .ref l5, .ref l6, .int 0, .int tol, .int ag, .ref m1, .ref m2, .ref m3, .ref m4, .ref m5, .ref m6])), (l6, .inr (3, [.int c6, .ref e6, .int 0]))]) hD hS hA [0, 1] rfl
  refine va_callr (va_runV (As := []) (rest := []) ⟨hx, hb, hml, hown, hts⟩ (k_X14_repertory l G z h0 0 l1 l2 l3 l4 l5 l6 tol ag m1 m2 m3 m4 m5 m6 c6 e6 H_1.size ) (cwV 0 hts (lw_goodApp (lw_4 q1649 q1651 qs33 q7) q1652) rfl rfl rfl (by decide +kernel) ⟨Nat.le_of_ble_eq_true rfl, Nat.le_of_ble_eq_true rfl⟩) ⟨PW.blind, va_recv hK hP (ci := 18) (q0 := 0) rfl rfl, PW.of hPc hKc hDc hG hS hFc [.ref h0]⟩ rfl rfl hl.1 rfl (lv_room (Nat.le_of_ble_eq_true rfl)) dX14_clashes_6 ⟨Nat.le_of_ble_eq_true rfl, Nat.le_of_ble_eq_true rfl⟩) hS (fun q _ h => hFc q h) hFc (fun u r_3 t_5 H_2 locs ht hvm hw_4 hB hz1 hk1 hS => ?_)
  obtain ⟨cyO_6, gO_7, hf_8, hB⟩ := hB
  obtain ⟨hP, hD, hK⟩ := QW.join (wr := []) (w1 := [(h0, .inr (18, [.int 0, .ref l1, .ref l2, .ref l3, .ref l4, .ref l5, .ref l6, .int 0, .int tol, .int ag, .ref m1, .ref m2, .ref m3, .ref m4, .ref m5, .ref m6])), (l6, .inr (3, [.int c6, .ref e6, .int 0])), (r_3, .inl (cyO_6, 400, .inl (gO_7)))]) hP hD hK [0, 1] [] rfl rfl (by decide) (by decide) hk1 hFc ht hvm hB
  have hP : va_P G vwCl ([(h0, .inr (18, [.int 0, .ref l1, .ref l2, .ref l3, .ref l4, .ref l5, .ref l6, .int 0, .int tol, .int ag, .ref m1, .ref m2, .ref m3, .ref m4, .ref m5, .ref m6])), (l6, .inr (3, [.int c6, .ref e6, .int 0])), (r_3, .inl (cyO_6, 400, .inl (gO_7)))]) H_2 := hP
  have hD : va_D A ([(h0, .inr (18, [.int 0, .ref l1, .ref l2, .ref l3, .ref l4, .ref l5, .ref l6, .int 0, .int tol, .int ag, .ref m1, .ref m2, .ref m3, .ref m4, .ref m5, .ref m6])), (l6, .inr (3, [.int c6, .ref e6, .int 0])), (r_3, .inl (cyO_6, 400, .inl (gO_7)))]) := hD
  have hK : va_K G vwCl [(cyO_6, .int)] s := hK
  refine W.widen (k := 2) (n := 404) (Nat.le_of_ble_eq_true rfl) (Nat.le_of_ble_eq_true rfl) ?_
  refine lv_astore_n (lv' := [(1, .ref r_3), (0, .ref h0)]) hx hb dX14_clashes_9 rfl hl (by decide) rfl (fun ls hl => ?_)
  refine lv_iconst (v := 0) hx hb dX14_clashes_10 (by decide) ?_
  refine lv_istore_n (lv' := [(2, .int 0), (1, .ref r_3), (0, .ref h0)]) hx hb dX14_clashes_11 rfl hl (by decide) rfl (fun ls hl => ?_)
  refine lv_iconst (v := 0) hx hb dX14_clashes_12 (by decide) ?_
  refine lv_istore_n (lv' := [(3, .int 0), (2, .int 0), (1, .ref r_3), (0, .ref h0)]) hx hb dX14_clashes_13 rfl hl (by decide) rfl (fun ls hl => ?_)
  refine z_loop (P := fun (n : Nat) (x : Nat × Unit) (H : Heap) (locs : List Loc) (ls : Array Slot) => ∃ (i : Nat), x = (i, ()) ∧ (i ≤ 400 ∧ 401 ≤ i + n) ∧ va_P G vwCl ([(h0, .inr (18, [.int 0, .ref l1, .ref l2, .ref l3, .ref l4, .ref l5, .ref l6, .int 0, .int tol, .int ag, .ref m1, .ref m2, .ref m3, .ref m4, .ref m5, .ref m6])), (l6, .inr (3, [.int c6, .ref e6, .int 0])), (r_3, .inl (cyO_6, 400, .inl (gO_7)))]) H ∧ va_D A ([(h0, .inr (18, [.int 0, .ref l1, .ref l2, .ref l3, .ref l4, .ref l5, .ref l6, .int 0, .int tol, .int ag, .ref m1, .ref m2, .ref m3, .ref m4, .ref m5, .ref m6])), (l6, .inr (3, [.int c6, .ref e6, .int 0])), (r_3, .inl (cyO_6, 400, .inl (gO_7)))]) ∧ va_S (A) s.heap H locs ∧ lv_has ls 6 [(3, .int (nI i)), (2, .int 0), (1, .ref r_3), (0, .ref h0)]) ?_ ?_ (401) ((0, ())) _ _ _ ⟨0, rfl, ⟨by omega, by omega⟩, hP, hD, hS, lv_sub hl [0, 1, 2, 3] rfl⟩
  · rintro x H locs ls ⟨i, rfl, ⟨hi1, hi2⟩, -⟩
    omega
  · rintro n ih14 x H locs ls ⟨i, rfl, ⟨hi1, hi2⟩, hP, hD, hS, hl⟩
    refine lv_iload_n hx hb dX14_clashes_14 rfl (lv_at hl 0 rfl) ?_
    refine lv_sipush (v := 400) hx hb dX14_clashes_15 (by decide) ?_
    refine lv_icmp_ge (tgt := 101) hx hb dX14_clashes_18 (by decide) (fun c_9 => ?_) (fun c_9 => ?_)
    · refine lv_iload_n hx hb dX14_clashes_101 rfl (lv_at hl 1 rfl) ?_
      refine W.widen (k := 2) (n := 404) (Nat.le_of_ble_eq_true rfl) (Nat.le_of_ble_eq_true rfl) ?_
      have hP9 := hP.sub (ws' := [(h0, .inr (18, [.int 0, .ref l1, .ref l2, .ref l3, .ref l4, .ref l5, .ref l6, .int 0, .int tol, .int ag, .ref m1, .ref m2, .ref m3, .ref m4, .ref m5, .ref m6]))]) [0] rfl
      have hD9 := hD.sub (ws' := [(h0, .inr (18, [.int 0, .ref l1, .ref l2, .ref l3, .ref l4, .ref l5, .ref l6, .int 0, .int tol, .int ag, .ref m1, .ref m2, .ref m3, .ref m4, .ref m5, .ref m6]))]) [0] (by decide) rfl
      have hK9 := hK.sub (tys' := []) [] rfl
      exact W.iret (v := 0) hx hb hr (fun t ht hW => ⟨⟨0, (), rfl, rfl, QW.of hP9 hK9 hD9 ht hW.alike⟩, hS.F ht⟩) hS.2.2 dX14_clashes_102
    · have hlt : i < 400 := by
        rcases Nat.lt_or_ge i (400) with q | q
        · exact q
        · exact absurd (nI_le (a := 400) q (by omega)) c_9
      refine lv_iconst (v := 0) hx hb dX14_clashes_21 (by decide) ?_
      refine lv_istore (lv' := [(4, .int 0), (3, .int (nI i)), (2, .int 0), (1, .ref r_3), (0, .ref h0)]) hx hb dX14_clashes_22 hl (by decide) rfl (fun ls hl => ?_)
      refine lv_iload_n hx hb dX14_clashes_24 rfl (lv_at hl 1 rfl) ?_
      refine lv_bipush (v := 100) hx hb dX14_clashes_25 (by decide) ?_
      refine lv_idiv hx hb dX14_clashes_27 (by decide) ?_
      refine lv_topi (fun f_10 ef_10 => ?_)
      obtain rfl : f_10 = (nI (i / 100)) := ef_10.trans (pk_div (d := 100) (by omega) (by decide) (by decide))
      refine lv_bipush (v := 100) hx hb dX14_clashes_28 (by decide) ?_
      refine lv_imul hx hb dX14_clashes_30 ?_
      refine lv_topi (fun f_11 ef_11 => ?_)
      obtain rfl : f_11 = (nI ((i / 100) * 100)) := ef_11.trans (nI_mulk (k := 100))
      refine lv_istore (lv' := [(5, .int (nI ((i / 100) * 100))), (4, .int 0), (3, .int (nI i)), (2, .int 0), (1, .ref r_3), (0, .ref h0)]) hx hb dX14_clashes_31 hl (by decide) rfl (fun ls hl => ?_)
      refine z_loop (P := fun (n : Nat) (x : Nat × Unit) (H : Heap) (locs : List Loc) (ls : Array Slot) => ∃ (j : Nat), x = (j, ()) ∧ (i / 100 * 100 ≤ j ∧ j ≤ i / 100 * 100 + 100 ∧ i / 100 * 100 + 101 ≤ j + n) ∧ va_P G vwCl ([(h0, .inr (18, [.int 0, .ref l1, .ref l2, .ref l3, .ref l4, .ref l5, .ref l6, .int 0, .int tol, .int ag, .ref m1, .ref m2, .ref m3, .ref m4, .ref m5, .ref m6])), (l6, .inr (3, [.int c6, .ref e6, .int 0])), (r_3, .inl (cyO_6, 400, .inl (gO_7)))]) H ∧ va_D A ([(h0, .inr (18, [.int 0, .ref l1, .ref l2, .ref l3, .ref l4, .ref l5, .ref l6, .int 0, .int tol, .int ag, .ref m1, .ref m2, .ref m3, .ref m4, .ref m5, .ref m6])), (l6, .inr (3, [.int c6, .ref e6, .int 0])), (r_3, .inl (cyO_6, 400, .inl (gO_7)))]) ∧ va_S (A) s.heap H locs ∧ lv_has ls 6 [(5, .int (nI j)), (4, .int 0), (3, .int (nI i)), (2, .int 0), (1, .ref r_3), (0, .ref h0)]) ?_ ?_ (101) ((i / 100 * 100, ())) _ _ _ ⟨i / 100 * 100, rfl, ⟨by omega, by omega, by omega⟩, hP, hD, hS, lv_sub hl [0, 1, 2, 3, 4, 5] rfl⟩
      · rintro x H locs ls ⟨j, rfl, ⟨hj1, hj2, hj3⟩, -⟩
        omega
      · rintro n ih33 x H locs ls ⟨j, rfl, ⟨hj1, hj2, hj3⟩, hP, hD, hS, hl⟩
        refine lv_iload hx hb dX14_clashes_33 (lv_at hl 0 rfl) ?_
        refine lv_iload_n hx hb dX14_clashes_35 rfl (lv_at hl 2 rfl) ?_
        refine lv_bipush (v := 100) hx hb dX14_clashes_36 (by decide) ?_
        refine lv_idiv hx hb dX14_clashes_38 (by decide) ?_
        refine lv_topi (fun f_12 ef_12 => ?_)
        obtain rfl : f_12 = (nI (i / 100)) := ef_12.trans (pk_div (d := 100) (by omega) (by decide) (by decide))
        refine lv_bipush (v := 100) hx hb dX14_clashes_39 (by decide) ?_
        refine lv_imul hx hb dX14_clashes_41 ?_
        refine lv_topi (fun f_13 ef_13 => ?_)
        obtain rfl : f_13 = (nI ((i / 100) * 100)) := ef_13.trans (nI_mulk (k := 100))
        refine lv_bipush (v := 100) hx hb dX14_clashes_42 (by decide) ?_
        refine lv_iadd hx hb dX14_clashes_44 ?_
        refine lv_topi (fun f_14 ef_14 => ?_)
        obtain rfl : f_14 = (nI (((i / 100) * 100) + 100)) := ef_14.trans (nI_add _ 100)
        refine lv_icmp_ge (tgt := 82) hx hb dX14_clashes_45 (by decide) (fun c_15 => ?_) (fun c_15 => ?_)
        · refine lv_iload_n hx hb dX14_clashes_82 rfl (lv_at hl 3 rfl) ?_
          refine lv_iload hx hb dX14_clashes_83 (lv_at hl 1 rfl) ?_
          refine lv_if_eq (tgt := 92) hx hb dX14_clashes_85 (by decide) (fun c_16 => ?_) (fun c_16 => absurd rfl c_16)
          refine lv_iconst (v := 0) hx hb dX14_clashes_92 (by decide) ?_
          refine lv_iadd hx hb dX14_clashes_93 ?_
          refine lv_topi (fun f_17 ef_17 => ?_)
          obtain rfl : f_17 = 0 := ef_17.trans (by decide)
          refine lv_istore_n (lv' := [(2, .int 0), (5, .int (nI j)), (4, .int 0), (3, .int (nI i)), (1, .ref r_3), (0, .ref h0)]) hx hb dX14_clashes_94 rfl hl (by decide) rfl (fun ls hl => ?_)
          refine lv_iinc (v := (nI (i + 1))) (lv' := [(3, .int (nI (i + 1))), (2, .int 0), (5, .int (nI j)), (4, .int 0), (1, .ref r_3), (0, .ref h0)]) hx hb dX14_clashes_95 hl (k := 3) rfl (nI_1 _) (by decide) rfl (fun ls hl => ?_)
          refine lv_goto (tgt := 14) hx hb dX14_clashes_98 (by decide) ?_
          exact ih14 ((i + 1, ())) _ _ _ ⟨i + 1, rfl, ⟨by omega, by omega⟩, hP, hD, hS, lv_sub hl [0, 1, 4, 5] rfl⟩
        · have hjb : j < i / 100 * 100 + 100 := by
            rcases Nat.lt_or_ge j (i / 100 * 100 + 100) with q | q
            · exact q
            · exact absurd (nI_le (a := i / 100 * 100 + 100) q (by omega)) c_15
          refine lv_iload hx hb dX14_clashes_48 (lv_at hl 1 rfl) ?_
          refine lv_if_ne (tgt := 69) hx hb dX14_clashes_50 (by decide) (fun c_18 => absurd rfl c_18) (fun c_18 => ?_)
          refine lv_iload hx hb dX14_clashes_53 (lv_at hl 0 rfl) ?_
          refine lv_iload_n hx hb dX14_clashes_55 rfl (lv_at hl 2 rfl) ?_
          refine lv_icmp_eq (tgt := 73) hx hb dX14_clashes_56 (by decide) (fun c_19 => ?_) (fun c_19 => ?_)
          · refine lv_iconst (v := 0) hx hb dX14_clashes_73 (by decide) ?_
            refine lv_istore (lv' := [(4, .int 0), (5, .int (nI j)), (3, .int (nI i)), (2, .int 0), (1, .ref r_3), (0, .ref h0)]) hx hb dX14_clashes_74 hl (by decide) rfl (fun ls hl => ?_)
            refine lv_iinc (v := (nI (j + 1))) (lv' := [(5, .int (nI (j + 1))), (4, .int 0), (3, .int (nI i)), (2, .int 0), (1, .ref r_3), (0, .ref h0)]) hx hb dX14_clashes_76 hl (k := 1) rfl (nI_1 _) (by decide) rfl (fun ls hl => ?_)
            refine lv_goto (tgt := 33) hx hb dX14_clashes_79 (by decide) ?_
            exact ih33 ((j + 1, ())) _ _ _ ⟨j + 1, rfl, ⟨by omega, by omega, by omega⟩, hP, hD, hS, lv_sub hl [0, 1, 2, 3, 4, 5] rfl⟩
          · refine lv_aload_n hx hb dX14_clashes_59 rfl (lv_at hl 4 rfl) ?_
            refine lv_iload_n hx hb dX14_clashes_60 rfl (lv_at hl 2 rfl) ?_
            refine va_iald hx hb hK hP 2 0 rfl rfl (vp_in_nI hlt (by decide)) dX14_clashes_61 ?_
            refine lv_topi (fun f_20 ef_20 => ?_)
            obtain rfl : f_20 = (nI i) := (ef_20.trans (by rw [nI_clamp (by omega)]; exact hf_8 i hlt))
            refine lv_aload_n hx hb dX14_clashes_62 rfl (lv_at hl 4 rfl) ?_
            refine lv_iload hx hb dX14_clashes_63 (lv_at hl 0 rfl) ?_
            refine va_iald hx hb hK hP 2 0 rfl rfl (vp_in_nI (show j < 400 by omega) (by decide)) dX14_clashes_65 ?_
            refine lv_topi (fun f_21 ef_21 => ?_)
            obtain rfl : f_21 = (nI j) := (ef_21.trans (by rw [nI_clamp (by omega)]; exact hf_8 j (by omega)))
            refine lv_icmp_ne (tgt := 73) hx hb dX14_clashes_66 (by decide) (fun c_22 => ?_) (fun c_22 => absurd c_22.symm c_19)
            refine lv_iconst (v := 0) hx hb dX14_clashes_73 (by decide) ?_
            refine lv_istore (lv' := [(4, .int 0), (5, .int (nI j)), (3, .int (nI i)), (2, .int 0), (1, .ref r_3), (0, .ref h0)]) hx hb dX14_clashes_74 hl (by decide) rfl (fun ls hl => ?_)
            refine lv_iinc (v := (nI (j + 1))) (lv' := [(5, .int (nI (j + 1))), (4, .int 0), (3, .int (nI i)), (2, .int 0), (1, .ref r_3), (0, .ref h0)]) hx hb dX14_clashes_76 hl (k := 1) rfl (nI_1 _) (by decide) rfl (fun ls hl => ?_)
            refine lv_goto (tgt := 33) hx hb dX14_clashes_79 (by decide) ?_
            exact ih33 ((j + 1, ())) _ _ _ ⟨j + 1, rfl, ⟨by omega, by omega, by omega⟩, hP, hD, hS, lv_sub hl [0, 1, 2, 3, 4, 5] rfl⟩
