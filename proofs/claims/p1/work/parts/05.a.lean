theorem in_Jx4a65c : ∀ w ∈ u_ws RJx4a65c TJx4a65c 3, w ∈ lw_good := by decide +kernel
theorem in_X8 : ∀ w ∈ u_ws RX8 TX8 10, w ∈ lw_good := by decide +kernel
theorem q1 : Cond.initialized "Watermarkmill" ∈ lw_good := lw_in (i := 1) (by decide +kernel) (by decide +kernel)
theorem q1009 : Cond.code yX8_imageAt prog_1_method_51_code 2 (Option.some (Jvm.ClassFile.FieldType.object "Watermarkmill$Image")) ∈ lw_good := lw_in (i := 1009) (by decide +kernel) (by decide +kernel)
theorem q11 : Cond.initialized "java/lang/IllegalArgumentException" ∈ lw_good := lw_in (i := 11) (by decide +kernel) (by decide +kernel)
theorem q125 : Cond.fieldLink "Watermarkmill" 12 "Watermarkmill" "moulds" "Ljava/util/ArrayList;" ∈ lw_good := lw_in (i := 125) (by decide +kernel) (by decide +kernel)
theorem q126 : Cond.fieldLink "Watermarkmill" 16 "Watermarkmill" "lots" "Ljava/util/ArrayList;" ∈ lw_good := lw_in (i := 126) (by decide +kernel) (by decide +kernel)
theorem q127 : Cond.fieldLink "Watermarkmill" 19 "Watermarkmill" "reams" "Ljava/util/ArrayList;" ∈ lw_good := lw_in (i := 127) (by decide +kernel) (by decide +kernel)
theorem q128 : Cond.fieldLink "Watermarkmill" 22 "Watermarkmill" "documents" "Ljava/util/ArrayList;" ∈ lw_good := lw_in (i := 128) (by decide +kernel) (by decide +kernel)
theorem q129 : Cond.fieldLink "Watermarkmill" 25 "Watermarkmill" "images" "Ljava/util/ArrayList;" ∈ lw_good := lw_in (i := 129) (by decide +kernel) (by decide +kernel)
theorem q160 : Cond.methodLink "Watermarkmill" 57 yJx4a65c_size_8abf5 ∈ lw_good := lw_in (i := 160) (by decide +kernel) (by decide +kernel)
theorem q161 : Cond.instanceMethod yJx4a65c_size_8abf5 ∈ lw_good := lw_in (i := 161) (by decide +kernel) (by decide +kernel)
theorem q162 : Cond.selects "java/util/ArrayList" yJx4a65c_size_8abf5 yJx4a65c_size_8abf5 ∈ lw_good := lw_in (i := 162) (by decide +kernel) (by decide +kernel)
theorem q163 : Cond.code yJx4a65c_size_8abf5 prog_34_method_8_code 1 (Option.some Jvm.ClassFile.FieldType.int) ∈ lw_good := lw_in (i := 163) (by decide +kernel) (by decide +kernel)
theorem q19 : Cond.initialized "java/lang/IndexOutOfBoundsException" ∈ lw_good := lw_in (i := 19) (by decide +kernel) (by decide +kernel)
theorem q308 : Cond.methodLink "Watermarkmill" 53 yX8_checkRange ∈ lw_good := lw_in (i := 308) (by decide +kernel) (by decide +kernel)
theorem q309 : Cond.static yX8_checkRange ∈ lw_good := lw_in (i := 309) (by decide +kernel) (by decide +kernel)
theorem q310 : Cond.code yX8_checkRange prog_1_method_52_code 3 (Option.none : Option Jvm.ClassFile.FieldType) ∈ lw_good := lw_in (i := 310) (by decide +kernel) (by decide +kernel)
theorem q311 : Cond.classLink "Watermarkmill" 84 "java/lang/IllegalArgumentException" ∈ lw_good := lw_in (i := 311) (by decide +kernel) (by decide +kernel)
theorem q4 : Cond.initialized "java/util/ArrayList" ∈ lw_good := lw_in (i := 4) (by decide +kernel) (by decide +kernel)
theorem q549 : Cond.code yX8_mouldAt prog_1_method_47_code 2 (Option.some (Jvm.ClassFile.FieldType.object "Watermarkmill$Mould")) ∈ lw_good := lw_in (i := 549) (by decide +kernel) (by decide +kernel)
theorem q550 : Cond.classLink "Watermarkmill" 387 "java/lang/IndexOutOfBoundsException" ∈ lw_good := lw_in (i := 550) (by decide +kernel) (by decide +kernel)
theorem q597 : Cond.code yX8_checkYear prog_1_method_53_code 1 (Option.none : Option Jvm.ClassFile.FieldType) ∈ lw_good := lw_in (i := 597) (by decide +kernel) (by decide +kernel)
theorem q62 : Cond.fieldLink "java/util/ArrayList" 48 "java/util/ArrayList" "size" "I" ∈ lw_good := lw_in (i := 62) (by decide +kernel) (by decide +kernel)
theorem q765 : Cond.code yX8_reamAt prog_1_method_49_code 2 (Option.some (Jvm.ClassFile.FieldType.object "Watermarkmill$Ream")) ∈ lw_good := lw_in (i := 765) (by decide +kernel) (by decide +kernel)
theorem q770 : Cond.code yX8_lotAt prog_1_method_48_code 2 (Option.some (Jvm.ClassFile.FieldType.object "Watermarkmill$Lot")) ∈ lw_good := lw_in (i := 770) (by decide +kernel) (by decide +kernel)
theorem q863 : Cond.code yX8_documentAt prog_1_method_50_code 2 (Option.some (Jvm.ClassFile.FieldType.object "Watermarkmill$Document")) ∈ lw_good := lw_in (i := 863) (by decide +kernel) (by decide +kernel)
theorem qstr1010 : Cond.stringRef "Watermarkmill" 398 "no such image" ∈ tables_1 := List.mem_of_getElem? (i := 1010) (by decide +kernel)
theorem qstr356 : Cond.stringRef "Watermarkmill" 400 "a number is out of range" ∈ tables_1 := List.mem_of_getElem? (i := 356) (by decide +kernel)
theorem qstr559 : Cond.stringRef "Watermarkmill" 389 "no such mould" ∈ tables_1 := List.mem_of_getElem? (i := 559) (by decide +kernel)
theorem qstr766 : Cond.stringRef "Watermarkmill" 394 "no such ream" ∈ tables_1 := List.mem_of_getElem? (i := 766) (by decide +kernel)
theorem qstr771 : Cond.stringRef "Watermarkmill" 392 "no such lot" ∈ tables_1 := List.mem_of_getElem? (i := 771) (by decide +kernel)
theorem qstr864 : Cond.stringRef "Watermarkmill" 396 "no such document" ∈ tables_1 := List.mem_of_getElem? (i := 864) (by decide +kernel)
theorem zat_X8_391 : ∀ w ∈ vx_atS RX8 391 "java/lang/IndexOutOfBoundsException" zNm, w ∈ lw_good ∨ w ∈ lw_face := zat (by decide +kernel) (by decide +kernel)
theorem zat_X8_88 : ∀ w ∈ vx_atS RX8 88 "java/lang/IllegalArgumentException" zNm, w ∈ lw_good ∨ w ∈ lw_face := zat (by decide +kernel) (by decide +kernel)
theorem zgo_X8_391_387 : ∀ w ∈ Cond.classLink RX8 387 "java/lang/IndexOutOfBoundsException" :: Cond.initialized "java/lang/IndexOutOfBoundsException" :: vx_atS RX8 391 "java/lang/IndexOutOfBoundsException" zNm, vx_ot w = true := by decide +kernel
theorem zgo_X8_88_84 : ∀ w ∈ Cond.classLink RX8 84 "java/lang/IllegalArgumentException" :: Cond.initialized "java/lang/IllegalArgumentException" :: vx_atS RX8 88 "java/lang/IllegalArgumentException" zNm, vx_ot w = true := by decide +kernel
theorem dJx4a65c_size_8abf5_0 : decode cJx4a65c_size_8abf5 0 = .ok (.aload_n 0, 1) := by decide +kernel
theorem dJx4a65c_size_8abf5_1 : decode cJx4a65c_size_8abf5 1 = .ok (.getfield 48, 3) := by decide +kernel
theorem dJx4a65c_size_8abf5_4 : decode cJx4a65c_size_8abf5 4 = .ok (.ireturn, 1) := by decide +kernel
theorem dX8_checkRange_0 : decode cX8_checkRange 0 = .ok (.iload_n 0, 1) := by decide +kernel
theorem dX8_checkRange_1 : decode cX8_checkRange 1 = .ok (.iload_n 1, 1) := by decide +kernel
theorem dX8_checkRange_10 : decode cX8_checkRange 10 = .ok (.new 84, 3) := by decide +kernel
theorem dX8_checkRange_13 : decode cX8_checkRange 13 = .ok (.dup, 1) := by decide +kernel
theorem dX8_checkRange_14 : decode cX8_checkRange 14 = .ok (.ldc_w 400, 3) := by decide +kernel
theorem dX8_checkRange_17 : decode cX8_checkRange 17 = .ok (.invokespecial 88, 3) := by decide +kernel
theorem dX8_checkRange_2 : decode cX8_checkRange 2 = .ok (.if_icmp .lt 8, 3) := by decide +kernel
theorem dX8_checkRange_20 : decode cX8_checkRange 20 = .ok (.athrow, 1) := by decide +kernel
theorem dX8_checkRange_21 : decode cX8_checkRange 21 = .ok (.return_, 1) := by decide +kernel
theorem dX8_checkRange_5 : decode cX8_checkRange 5 = .ok (.iload_n 0, 1) := by decide +kernel
theorem dX8_checkRange_6 : decode cX8_checkRange 6 = .ok (.iload_n 2, 1) := by decide +kernel
theorem dX8_checkRange_7 : decode cX8_checkRange 7 = .ok (.if_icmp .le 14, 3) := by decide +kernel
theorem dX8_checkYear_0 : decode cX8_checkYear 0 = .ok (.iload_n 0, 1) := by decide +kernel
theorem dX8_checkYear_1 : decode cX8_checkYear 1 = .ok (.sipush 1400, 3) := by decide +kernel
theorem dX8_checkYear_10 : decode cX8_checkYear 10 = .ok (.return_, 1) := by decide +kernel
theorem dX8_checkYear_4 : decode cX8_checkYear 4 = .ok (.sipush 1900, 3) := by decide +kernel
theorem dX8_checkYear_7 : decode cX8_checkYear 7 = .ok (.invokestatic 53, 3) := by decide +kernel
theorem dX8_documentAt_0 : decode cX8_documentAt 0 = .ok (.iload_n 1, 1) := by decide +kernel
theorem dX8_documentAt_1 : decode cX8_documentAt 1 = .ok (.ifCond .lt 14, 3) := by decide +kernel
theorem dX8_documentAt_12 : decode cX8_documentAt 12 = .ok (.if_icmp .lt 14, 3) := by decide +kernel
theorem dX8_documentAt_15 : decode cX8_documentAt 15 = .ok (.new 387, 3) := by decide +kernel
theorem dX8_documentAt_18 : decode cX8_documentAt 18 = .ok (.dup, 1) := by decide +kernel
theorem dX8_documentAt_19 : decode cX8_documentAt 19 = .ok (.ldc_w 396, 3) := by decide +kernel
theorem dX8_documentAt_22 : decode cX8_documentAt 22 = .ok (.invokespecial 391, 3) := by decide +kernel
theorem dX8_documentAt_25 : decode cX8_documentAt 25 = .ok (.athrow, 1) := by decide +kernel
theorem dX8_documentAt_4 : decode cX8_documentAt 4 = .ok (.iload_n 1, 1) := by decide +kernel
theorem dX8_documentAt_5 : decode cX8_documentAt 5 = .ok (.aload_n 0, 1) := by decide +kernel
theorem dX8_documentAt_6 : decode cX8_documentAt 6 = .ok (.getfield 22, 3) := by decide +kernel
theorem dX8_documentAt_9 : decode cX8_documentAt 9 = .ok (.invokevirtual 57, 3) := by decide +kernel
theorem dX8_imageAt_0 : decode cX8_imageAt 0 = .ok (.iload_n 1, 1) := by decide +kernel
theorem dX8_imageAt_1 : decode cX8_imageAt 1 = .ok (.ifCond .lt 14, 3) := by decide +kernel
theorem dX8_imageAt_12 : decode cX8_imageAt 12 = .ok (.if_icmp .lt 14, 3) := by decide +kernel
theorem dX8_imageAt_15 : decode cX8_imageAt 15 = .ok (.new 387, 3) := by decide +kernel
theorem dX8_imageAt_18 : decode cX8_imageAt 18 = .ok (.dup, 1) := by decide +kernel
theorem dX8_imageAt_19 : decode cX8_imageAt 19 = .ok (.ldc_w 398, 3) := by decide +kernel
theorem dX8_imageAt_22 : decode cX8_imageAt 22 = .ok (.invokespecial 391, 3) := by decide +kernel
theorem dX8_imageAt_25 : decode cX8_imageAt 25 = .ok (.athrow, 1) := by decide +kernel
theorem dX8_imageAt_4 : decode cX8_imageAt 4 = .ok (.iload_n 1, 1) := by decide +kernel
theorem dX8_imageAt_5 : decode cX8_imageAt 5 = .ok (.aload_n 0, 1) := by decide +kernel
theorem dX8_imageAt_6 : decode cX8_imageAt 6 = .ok (.getfield 25, 3) := by decide +kernel
theorem dX8_imageAt_9 : decode cX8_imageAt 9 = .ok (.invokevirtual 57, 3) := by decide +kernel
theorem dX8_lotAt_0 : decode cX8_lotAt 0 = .ok (.iload_n 1, 1) := by decide +kernel
theorem dX8_lotAt_1 : decode cX8_lotAt 1 = .ok (.ifCond .lt 14, 3) := by decide +kernel
theorem dX8_lotAt_12 : decode cX8_lotAt 12 = .ok (.if_icmp .lt 14, 3) := by decide +kernel
theorem dX8_lotAt_15 : decode cX8_lotAt 15 = .ok (.new 387, 3) := by decide +kernel
theorem dX8_lotAt_18 : decode cX8_lotAt 18 = .ok (.dup, 1) := by decide +kernel
theorem dX8_lotAt_19 : decode cX8_lotAt 19 = .ok (.ldc_w 392, 3) := by decide +kernel
theorem dX8_lotAt_22 : decode cX8_lotAt 22 = .ok (.invokespecial 391, 3) := by decide +kernel
theorem dX8_lotAt_25 : decode cX8_lotAt 25 = .ok (.athrow, 1) := by decide +kernel
theorem dX8_lotAt_4 : decode cX8_lotAt 4 = .ok (.iload_n 1, 1) := by decide +kernel
theorem dX8_lotAt_5 : decode cX8_lotAt 5 = .ok (.aload_n 0, 1) := by decide +kernel
theorem dX8_lotAt_6 : decode cX8_lotAt 6 = .ok (.getfield 16, 3) := by decide +kernel
theorem dX8_lotAt_9 : decode cX8_lotAt 9 = .ok (.invokevirtual 57, 3) := by decide +kernel
theorem dX8_mouldAt_0 : decode cX8_mouldAt 0 = .ok (.iload_n 1, 1) := by decide +kernel
theorem dX8_mouldAt_1 : decode cX8_mouldAt 1 = .ok (.ifCond .lt 14, 3) := by decide +kernel
theorem dX8_mouldAt_12 : decode cX8_mouldAt 12 = .ok (.if_icmp .lt 14, 3) := by decide +kernel
theorem dX8_mouldAt_15 : decode cX8_mouldAt 15 = .ok (.new 387, 3) := by decide +kernel
theorem dX8_mouldAt_18 : decode cX8_mouldAt 18 = .ok (.dup, 1) := by decide +kernel
theorem dX8_mouldAt_19 : decode cX8_mouldAt 19 = .ok (.ldc_w 389, 3) := by decide +kernel
theorem dX8_mouldAt_22 : decode cX8_mouldAt 22 = .ok (.invokespecial 391, 3) := by decide +kernel
theorem dX8_mouldAt_25 : decode cX8_mouldAt 25 = .ok (.athrow, 1) := by decide +kernel
theorem dX8_mouldAt_4 : decode cX8_mouldAt 4 = .ok (.iload_n 1, 1) := by decide +kernel
theorem dX8_mouldAt_5 : decode cX8_mouldAt 5 = .ok (.aload_n 0, 1) := by decide +kernel
theorem dX8_mouldAt_6 : decode cX8_mouldAt 6 = .ok (.getfield 12, 3) := by decide +kernel
theorem dX8_mouldAt_9 : decode cX8_mouldAt 9 = .ok (.invokevirtual 57, 3) := by decide +kernel
theorem dX8_reamAt_0 : decode cX8_reamAt 0 = .ok (.iload_n 1, 1) := by decide +kernel
theorem dX8_reamAt_1 : decode cX8_reamAt 1 = .ok (.ifCond .lt 14, 3) := by decide +kernel
theorem dX8_reamAt_12 : decode cX8_reamAt 12 = .ok (.if_icmp .lt 14, 3) := by decide +kernel
theorem dX8_reamAt_15 : decode cX8_reamAt 15 = .ok (.new 387, 3) := by decide +kernel
theorem dX8_reamAt_18 : decode cX8_reamAt 18 = .ok (.dup, 1) := by decide +kernel
theorem dX8_reamAt_19 : decode cX8_reamAt 19 = .ok (.ldc_w 394, 3) := by decide +kernel
theorem dX8_reamAt_22 : decode cX8_reamAt 22 = .ok (.invokespecial 391, 3) := by decide +kernel
theorem dX8_reamAt_25 : decode cX8_reamAt 25 = .ok (.athrow, 1) := by decide +kernel
theorem dX8_reamAt_4 : decode cX8_reamAt 4 = .ok (.iload_n 1, 1) := by decide +kernel
theorem dX8_reamAt_5 : decode cX8_reamAt 5 = .ok (.aload_n 0, 1) := by decide +kernel
theorem dX8_reamAt_6 : decode cX8_reamAt 6 = .ok (.getfield 19, 3) := by decide +kernel
theorem dX8_reamAt_9 : decode cX8_reamAt 9 = .ok (.invokevirtual 57, 3) := by decide +kernel
abbrev wz_Jx4a65c_size_8abf5 : List Cond := .code yJx4a65c_size_8abf5 cJx4a65c_size_8abf5 1 (Option.some Jvm.ClassFile.FieldType.int) :: lw_good
set_option maxHeartbeats 4000000 in
set_option maxRecDepth 100000 in
/-- size() -/
theorem k_Jx4a65c_size_8abf5 (l : Launch) (G : va_G) (z : Nat) (h0 : Nat) (c0 : Int32) (e0 : Nat) (n0 : Int32) (sz : Nat)  : Met l yJx4a65c_size_8abf5 wz_Jx4a65c_size_8abf5 ({ frames := 0, cells := 0, slots := 0, locals := 0 }) (va_Pc [.ref h0] (PR G z [(h0, .inr (3, [.int c0, .ref e0, .int n0]))] [] sz)) (va_Qi (fun (r : Int32) (_ : Unit) => r = n0) (fun (_ : Unit) (_ : State) => True) (zN sz)) 0 0 (zN sz) := by
  refine va_MetF (cc := cJx4a65c_size_8abf5) (maxL := 1) (ret := (Option.some Jvm.ClassFile.FieldType.int)) (by decide) rfl ?_
  intro p e s m args below meth c s₁ B hml hv
  obtain ⟨rfl, rfl, hP, hK, hG⟩ := hv
  have hx := B.exec
  have hb := B.bytes
  have hr := B.returns
  have hts := atoms_spec (ws := wz_Jx4a65c_size_8abf5) B.pre
  have hg : ∀ w ∈ lw_good, w.before _ s = true := fun w h => hts w (List.mem_cons_of_mem _ h)
  have hown : s.vm.findClass RJx4a65c = some m.cls := findClass_of_methodNamed B.named
  have hlocks := B.notSynchronized
  have hA : ∀ q : Nat, s.heap.size ≤ q → zN s.heap.size q := fun _ h => h
  have hS : va_S (zN s.heap.size) s.heap s.heap [] := va_S.rf
  have hl := lv_entry ([.ref h0]) (n := 1) (Nat.le_of_ble_eq_true rfl)
  rw [lg_entry_eq]
  generalize (lg_sl ([.ref h0]) ++ List.replicate (1 - (lg_sl ([.ref h0])).length) Slot.unset).toArray = ls at hl ⊢
  have hl : lv_has ls 1 [(0, .ref h0)] := hl
  refine lv_aload_n hx hb dJx4a65c_size_8abf5_0 rfl (lv_at hl 0 rfl) ?_
  refine va_get (D := G) (ci := 3) (v := .int n0) (C := RJx4a65c) (T := TJx4a65c) (N := 3) hx hb hg in_Jx4a65c hown hK hP 0 rfl rfl 2 (by decide) (hg _ q62) (fun _ h9 => h9) rfl dJx4a65c_size_8abf5_1 ?_
  refine W.widen (k := 0) (n := 0) (Nat.le_of_ble_eq_true rfl) (Nat.le_of_ble_eq_true rfl) ?_
  exact W.iret (v := n0) hx hb hr (fun t ht hW => ⟨⟨n0, (), rfl, rfl, trivial⟩, hS.F ht⟩) hS.2.2 dJx4a65c_size_8abf5_4

abbrev wz_X8_checkRange : List Cond := .code yX8_checkRange cX8_checkRange 3 none :: lw_good
set_option maxHeartbeats 4000000 in
set_option maxRecDepth 100000 in
/-- checkRange -/
theorem k_X8_checkRange (l : Launch) (hfl : l.stackTraces = false) (G : va_G) (z : Nat) (p0 : Int32) (p1 : Int32) (p2 : Int32) (sz : Nat)  : vx_Met l yX8_checkRange wz_X8_checkRange ({ frames := 6, cells := 1, slots := 6, locals := 82 }) (va_Pc [.int p0, .int p1, .int p2] (PR G z [] [] sz)) (va_Qv (fun (_ : Unit) => p1 ≤ p0 ∧ p0 ≤ p2) (fun (_ : Unit) (_ : State) => True) (zN sz)) (zX (¬ (p1 ≤ p0 ∧ p0 ≤ p2)) "java/lang/IllegalArgumentException" (zN sz)) 1 6 (zN sz) := by
  refine vx_ofW (cc := cX8_checkRange) (maxL := 3) (ret := none) (by decide) rfl ?_
  intro p e s m args below meth c s₁ B hml htab hv
  obtain ⟨rfl, rfl, hP, hK, hG⟩ := hv
  have hx := B.exec
  have hb := B.bytes
  have hr := B.returns
  have hts := atoms_spec (ws := wz_X8_checkRange) B.pre
  have hg : ∀ w ∈ lw_good, w.before _ s = true := fun w h => hts w (List.mem_cons_of_mem _ h)
  have hown : s.vm.findClass RX8 = some m.cls := findClass_of_methodNamed B.named
  have hlocks := B.notSynchronized
  have hA : ∀ q : Nat, s.heap.size ≤ q → zN s.heap.size q := fun _ h => h
  have hS : va_S (zN s.heap.size) s.heap s.heap [] := va_S.rf
  have hl := lv_entry ([.int p0, .int p1, .int p2]) (n := 3) (Nat.le_of_ble_eq_true rfl)
  rw [lg_entry_eq]
  generalize (lg_sl ([.int p0, .int p1, .int p2]) ++ List.replicate (3 - (lg_sl ([.int p0, .int p1, .int p2])).length) Slot.unset).toArray = ls at hl ⊢
  have hl : lv_has ls 3 [(0, .int p0), (1, .int p1), (2, .int p2)] := hl
  refine lv_iload_n hx hb dX8_checkRange_0 rfl (lv_at hl 0 rfl) ?_
  refine lv_iload_n hx hb dX8_checkRange_1 rfl (lv_at hl 1 rfl) ?_
  refine lv_icmp_lt (tgt := 10) hx hb dX8_checkRange_2 (by decide) (fun c_1 => ?_) (fun c_1 => ?_)
  · obtain ⟨sa9, hsa9⟩ := hG.2.2.2.2.2.1 _ _ _ qstr356
    exact vx_throwSW (names := zNm) hx hb hfl hown (by decide +kernel) (by decide +kernel) (hg _ q311) (hg _ q11) hsa9 (zat_at zat_X8_88 hg hG.2.2.2.2.1) zgo_X8_88_84 hG.1 hG.2.1 hS (by rw [hml]; exact hl.1) dX8_checkRange_10 dX8_checkRange_13 dX8_checkRange_14 dX8_checkRange_17 dX8_checkRange_20 (fun x9 h9 => (htab x9 h9).elim) (Nat.le_of_ble_eq_true rfl) (Nat.le_of_ble_eq_true rfl) (Nat.le_of_ble_eq_true rfl) (Nat.le_of_ble_eq_true rfl) hlocks (fun t9 _ h1 h2 => zX.grown (fun h9 => absurd c_1 (Int32.not_lt.mpr h9.1)) hS h1 h2) hS.2.2 (Nat.le_of_ble_eq_true rfl) (Nat.le_of_ble_eq_true rfl)
  · refine lv_iload_n hx hb dX8_checkRange_5 rfl (lv_at hl 0 rfl) ?_
    refine lv_iload_n hx hb dX8_checkRange_6 rfl (lv_at hl 2 rfl) ?_
    refine lv_icmp_le (tgt := 21) hx hb dX8_checkRange_7 (by decide) (fun c_2 => ?_) (fun c_2 => ?_)
    · refine W.widen (k := 1) (n := 6) (Nat.le_of_ble_eq_true rfl) (Nat.le_of_ble_eq_true rfl) ?_
      refine vx_ret ?_
      exact W.vret hx hb hr (fun t ht hW => ⟨⟨(), rfl, ⟨Int32.not_lt.mp c_1, c_2⟩, trivial⟩, hS.F ht⟩) hS.2.2 dX8_checkRange_21
    · obtain ⟨sa9, hsa9⟩ := hG.2.2.2.2.2.1 _ _ _ qstr356
      exact vx_throwSW (names := zNm) hx hb hfl hown (by decide +kernel) (by decide +kernel) (hg _ q311) (hg _ q11) hsa9 (zat_at zat_X8_88 hg hG.2.2.2.2.1) zgo_X8_88_84 hG.1 hG.2.1 hS (by rw [hml]; exact hl.1) dX8_checkRange_10 dX8_checkRange_13 dX8_checkRange_14 dX8_checkRange_17 dX8_checkRange_20 (fun x9 h9 => (htab x9 h9).elim) (Nat.le_of_ble_eq_true rfl) (Nat.le_of_ble_eq_true rfl) (Nat.le_of_ble_eq_true rfl) (Nat.le_of_ble_eq_true rfl) hlocks (fun t9 _ h1 h2 => zX.grown (fun h9 => absurd h9.2 c_2) hS h1 h2) hS.2.2 (Nat.le_of_ble_eq_true rfl) (Nat.le_of_ble_eq_true rfl)

abbrev wz_X8_checkYear : List Cond := .code yX8_checkYear cX8_checkYear 1 none :: lw_good
set_option maxHeartbeats 4000000 in
set_option maxRecDepth 100000 in
/-- checkYear -/
theorem k_X8_checkYear (l : Launch) (hfl : l.stackTraces = false) (G : va_G) (z : Nat) (p0 : Int32) (sz : Nat)  : vx_Met l yX8_checkYear wz_X8_checkYear ({ frames := 7, cells := 1, slots := 6, locals := 104 }) (va_Pc [.int p0] (PR G z [] [] sz)) (va_Qv (fun (_ : Unit) => 1400 ≤ p0 ∧ p0 ≤ 1900) (fun (_ : Unit) (_ : State) => True) (zN sz)) (zX (¬ (1400 ≤ p0 ∧ p0 ≤ 1900)) "java/lang/IllegalArgumentException" (zN sz)) 1 6 (zN sz) := by
  refine vx_ofW (cc := cX8_checkYear) (maxL := 1) (ret := none) (by decide) rfl ?_
  intro p e s m args below meth c s₁ B hml htab hv
  obtain ⟨rfl, rfl, hP, hK, hG⟩ := hv
  have hx := B.exec
  have hb := B.bytes
  have hr := B.returns
  have hts := atoms_spec (ws := wz_X8_checkYear) B.pre
  have hg : ∀ w ∈ lw_good, w.before _ s = true := fun w h => hts w (List.mem_cons_of_mem _ h)
  have hown : s.vm.findClass RX8 = some m.cls := findClass_of_methodNamed B.named
  have hlocks := B.notSynchronized
  have hA : ∀ q : Nat, s.heap.size ≤ q → zN s.heap.size q := fun _ h => h
  have hS : va_S (zN s.heap.size) s.heap s.heap [] := va_S.rf
  have hl := lv_entry ([.int p0]) (n := 1) (Nat.le_of_ble_eq_true rfl)
  rw [lg_entry_eq]
  generalize (lg_sl ([.int p0]) ++ List.replicate (1 - (lg_sl ([.int p0])).length) Slot.unset).toArray = ls at hl ⊢
  have hl : lv_has ls 1 [(0, .int p0)] := hl
  refine lv_iload_n hx hb dX8_checkYear_0 rfl (lv_at hl 0 rfl) ?_
  refine lv_sipush (v := 1400) hx hb dX8_checkYear_1 (by decide) ?_
  refine lv_sipush (v := 1900) hx hb dX8_checkYear_4 (by decide) ?_
  have hPc := hP.sub (ws' := []) [] rfl
  have hKc := hK.sub (tys' := []) [] rfl
  refine vx_callv (vx_runS (As := [.int p0, .int 1400, .int 1900]) (rest := []) ⟨hx, hb, hml, hown, hts⟩ (k_X8_checkRange l hfl G z p0 1400 1900 s.heap.size ) (va_cwS 3 hts (lw_goodApp (lw_3 q308 q309 q1) q310) rfl rfl rfl (by decide +kernel) ⟨Nat.le_of_ble_eq_true rfl, Nat.le_of_ble_eq_true rfl⟩) ⟨PR.blind, PR.of hPc hKc hG hS hA [.int p0, .int 1400, .int 1900]⟩ rfl rfl hl.1 rfl (lv_room (Nat.le_of_ble_eq_true rfl)) dX8_checkYear_7 ⟨Nat.le_of_ble_eq_true rfl, Nat.le_of_ble_eq_true rfl⟩) hS (fun q h9 h => zN.not h9 h) (fun q h => hA q (Nat.le_trans hS.1 h)) (fun q h9 h => zN.not h9 h) (fun E ce q9 ux t_4 H_1 locs ht hvm px_5 hE hz1 hk1 hS hq9 hv9 hcl9 => ?_) (fun u t_4 H_1 locs ht hvm hw_3 hB hz1 hk1 hS => ?_)
  · exact vx_out (fun x9 h9 => (htab x9 h9).elim) hlocks hq9 hv9 hcl9 (fun t2 ht2 hal2 => zX.same px_5 hE hS ht2) hS.2.2 (Nat.le_of_ble_eq_true rfl) (Nat.le_of_ble_eq_true rfl)
  have hP := hP.grown hk1
  refine W.widen (k := 1) (n := 6) (Nat.le_of_ble_eq_true rfl) (Nat.le_of_ble_eq_true rfl) ?_
  refine W.widen (k := 1) (n := 6) (Nat.le_of_ble_eq_true rfl) (Nat.le_of_ble_eq_true rfl) ?_
  refine vx_ret ?_
  exact W.vret hx hb hr (fun t ht hW => ⟨⟨(), rfl, hw_3, trivial⟩, hS.F ht⟩) hS.2.2 dX8_checkYear_10

abbrev wz_X8_mouldAt : List Cond := .code yX8_mouldAt cX8_mouldAt 2 (Option.some (Jvm.ClassFile.FieldType.object "Watermarkmill$Mould")) :: lw_good
set_option maxHeartbeats 4000000 in
set_option maxRecDepth 100000 in
/-- mouldAt of an empty list -/
theorem k_X8_mouldAt (l : Launch) (hfl : l.stackTraces = false) (G : va_G) (z : Nat) (h0 : Nat) (a1 : Nat) (a2 : Nat) (a3 : Nat) (a4 : Nat) (a5 : Nat) (a6 : Nat) (a7 : Nat) (a8 : Nat) (tol : Int32) (sal : Int32) (c0 : Int32) (e0 : Nat) (p0 : Int32) (sz : Nat)  : vx_Met l yX8_mouldAt wz_X8_mouldAt ({ frames := 6, cells := 1, slots := 6, locals := 82 }) (va_Pc [.ref h0, .int p0] (PR G z [(h0, .inr (12, [.ref a1, .ref a2, .ref a3, .ref a4, .ref a5, .ref a6, .ref a7, .ref a8, .int tol, .int sal])), (a1, .inr (3, [.int c0, .ref e0, .int 0]))] [] sz)) (va_Qq (fun (r : Option Nat) (_ : Unit) => False) (fun (_ : Unit) (_ : State) => True) (zN sz)) (zX (True) "java/lang/IndexOutOfBoundsException" (zN sz)) 1 6 (zN sz) := by
  refine vx_ofW (cc := cX8_mouldAt) (maxL := 2) (ret := (Option.some (Jvm.ClassFile.FieldType.object "Watermarkmill$Mould"))) (by decide) rfl ?_
  intro p e s m args below meth c s₁ B hml htab hv
  obtain ⟨rfl, rfl, hP, hK, hG⟩ := hv
  have hx := B.exec
  have hb := B.bytes
  have hr := B.returns
  have hts := atoms_spec (ws := wz_X8_mouldAt) B.pre
  have hg : ∀ w ∈ lw_good, w.before _ s = true := fun w h => hts w (List.mem_cons_of_mem _ h)
  have hown : s.vm.findClass RX8 = some m.cls := findClass_of_methodNamed B.named
  have hlocks := B.notSynchronized
  have hA : ∀ q : Nat, s.heap.size ≤ q → zN s.heap.size q := fun _ h => h
  have hS : va_S (zN s.heap.size) s.heap s.heap [] := va_S.rf
  have hl := lv_entry ([.ref h0, .int p0]) (n := 2) (Nat.le_of_ble_eq_true rfl)
  rw [lg_entry_eq]
  generalize (lg_sl ([.ref h0, .int p0]) ++ List.replicate (2 - (lg_sl ([.ref h0, .int p0])).length) Slot.unset).toArray = ls at hl ⊢
  have hl : lv_has ls 2 [(0, .ref h0), (1, .int p0)] := hl
  refine lv_iload_n hx hb dX8_mouldAt_0 rfl (lv_at hl 1 rfl) ?_
  refine lv_if_lt (tgt := 15) hx hb dX8_mouldAt_1 (by decide) (fun c_1 => ?_) (fun c_1 => ?_)
  · obtain ⟨sa9, hsa9⟩ := hG.2.2.2.2.2.1 _ _ _ qstr559
    exact vx_throwSW (names := zNm) hx hb hfl hown (by decide +kernel) (by decide +kernel) (hg _ q550) (hg _ q19) hsa9 (zat_at zat_X8_391 hg hG.2.2.2.2.1) zgo_X8_391_387 hG.1 hG.2.1 hS (by rw [hml]; exact hl.1) dX8_mouldAt_15 dX8_mouldAt_18 dX8_mouldAt_19 dX8_mouldAt_22 dX8_mouldAt_25 (fun x9 h9 => (htab x9 h9).elim) (Nat.le_of_ble_eq_true rfl) (Nat.le_of_ble_eq_true rfl) (Nat.le_of_ble_eq_true rfl) (Nat.le_of_ble_eq_true rfl) hlocks (fun t9 _ h1 h2 => zX.grown trivial hS h1 h2) hS.2.2 (Nat.le_of_ble_eq_true rfl) (Nat.le_of_ble_eq_true rfl)
  · refine lv_iload_n hx hb dX8_mouldAt_4 rfl (lv_at hl 1 rfl) ?_
    refine lv_aload_n hx hb dX8_mouldAt_5 rfl (lv_at hl 0 rfl) ?_
    refine va_get (D := G) (ci := 12) (v := .ref a1) (C := RX8) (T := TX8) (N := 10) hx hb hg in_X8 hown hK hP 0 rfl rfl 0 (by decide) (hg _ q125) (fun _ h9 => h9) rfl dX8_mouldAt_6 ?_
    have hPc := hP.sub (ws' := [(a1, .inr (3, [.int c0, .ref e0, .int 0]))]) [1] rfl
    have hKc := hK.sub (tys' := []) [] rfl
    refine va_calli (va_runV (As := []) (rest := [.int p0]) ⟨hx, hb, hml, hown, hts⟩ (k_Jx4a65c_size_8abf5 l G z a1 c0 e0 0 s.heap.size ) (cwV 0 hts (lw_goodApp (lw_4 q160 q161 q162 q4) q163) rfl rfl rfl (by decide +kernel) ⟨Nat.le_of_ble_eq_true rfl, Nat.le_of_ble_eq_true rfl⟩) ⟨PR.blind, va_recv hK hP (ci := 3) (q0 := 1) rfl rfl, PR.of hPc hKc hG hS hA [.ref a1]⟩ rfl rfl hl.1 rfl (lv_room (Nat.le_of_ble_eq_true rfl)) dX8_mouldAt_9 ⟨Nat.le_of_ble_eq_true rfl, Nat.le_of_ble_eq_true rfl⟩) hS (fun q h9 h => zN.not h9 h) (fun q h => hA q (Nat.le_trans hS.1 h)) (fun r_3 u t_5 H_2 locs ht hvm hw_4 hB hz1 hk1 hS => ?_)
    have hP := hP.grown hk1
    refine W.widen (k := 0) (n := 0) (Nat.le_of_ble_eq_true rfl) (Nat.le_of_ble_eq_true rfl) ?_
    obtain rfl : 0 = r_3 := hw_4.symm
    refine lv_icmp_lt (tgt := 26) hx hb dX8_mouldAt_12 (by decide) (fun c_6 => absurd c_6 c_1) (fun c_6 => ?_)
    obtain ⟨sa9, hsa9⟩ := hG.2.2.2.2.2.1 _ _ _ qstr559
    exact vx_throwSW (names := zNm) hx hb hfl hown (by decide +kernel) (by decide +kernel) (hg _ q550) (hg _ q19) hsa9 (zat_at zat_X8_391 hg hG.2.2.2.2.1) zgo_X8_391_387 hG.1 hG.2.1 hS (by rw [hml]; exact hl.1) dX8_mouldAt_15 dX8_mouldAt_18 dX8_mouldAt_19 dX8_mouldAt_22 dX8_mouldAt_25 (fun x9 h9 => (htab x9 h9).elim) (Nat.le_of_ble_eq_true rfl) (Nat.le_of_ble_eq_true rfl) (Nat.le_of_ble_eq_true rfl) (Nat.le_of_ble_eq_true rfl) hlocks (fun t9 _ h1 h2 => zX.grown trivial hS h1 h2) hS.2.2 (Nat.le_of_ble_eq_true rfl) (Nat.le_of_ble_eq_true rfl)

abbrev wz_X8_lotAt : List Cond := .code yX8_lotAt cX8_lotAt 2 (Option.some (Jvm.ClassFile.FieldType.object "Watermarkmill$Lot")) :: lw_good
set_option maxHeartbeats 4000000 in
set_option maxRecDepth 100000 in
/-- lotAt of an empty list -/
theorem k_X8_lotAt (l : Launch) (hfl : l.stackTraces = false) (G : va_G) (z : Nat) (h0 : Nat) (a1 : Nat) (a2 : Nat) (a3 : Nat) (a4 : Nat) (a5 : Nat) (a6 : Nat) (a7 : Nat) (a8 : Nat) (tol : Int32) (sal : Int32) (c0 : Int32) (e0 : Nat) (p0 : Int32) (sz : Nat)  : vx_Met l yX8_lotAt wz_X8_lotAt ({ frames := 6, cells := 1, slots := 6, locals := 82 }) (va_Pc [.ref h0, .int p0] (PR G z [(h0, .inr (12, [.ref a1, .ref a2, .ref a3, .ref a4, .ref a5, .ref a6, .ref a7, .ref a8, .int tol, .int sal])), (a2, .inr (3, [.int c0, .ref e0, .int 0]))] [] sz)) (va_Qq (fun (r : Option Nat) (_ : Unit) => False) (fun (_ : Unit) (_ : State) => True) (zN sz)) (zX (True) "java/lang/IndexOutOfBoundsException" (zN sz)) 1 6 (zN sz) := by
  refine vx_ofW (cc := cX8_lotAt) (maxL := 2) (ret := (Option.some (Jvm.ClassFile.FieldType.object "Watermarkmill$Lot"))) (by decide) rfl ?_
  intro p e s m args below meth c s₁ B hml htab hv
  obtain ⟨rfl, rfl, hP, hK, hG⟩ := hv
  have hx := B.exec
  have hb := B.bytes
  have hr := B.returns
  have hts := atoms_spec (ws := wz_X8_lotAt) B.pre
  have hg : ∀ w ∈ lw_good, w.before _ s = true := fun w h => hts w (List.mem_cons_of_mem _ h)
  have hown : s.vm.findClass RX8 = some m.cls := findClass_of_methodNamed B.named
  have hlocks := B.notSynchronized
  have hA : ∀ q : Nat, s.heap.size ≤ q → zN s.heap.size q := fun _ h => h
  have hS : va_S (zN s.heap.size) s.heap s.heap [] := va_S.rf
  have hl := lv_entry ([.ref h0, .int p0]) (n := 2) (Nat.le_of_ble_eq_true rfl)
  rw [lg_entry_eq]
  generalize (lg_sl ([.ref h0, .int p0]) ++ List.replicate (2 - (lg_sl ([.ref h0, .int p0])).length) Slot.unset).toArray = ls at hl ⊢
  have hl : lv_has ls 2 [(0, .ref h0), (1, .int p0)] := hl
  refine lv_iload_n hx hb dX8_lotAt_0 rfl (lv_at hl 1 rfl) ?_
  refine lv_if_lt (tgt := 15) hx hb dX8_lotAt_1 (by decide) (fun c_1 => ?_) (fun c_1 => ?_)
  · obtain ⟨sa9, hsa9⟩ := hG.2.2.2.2.2.1 _ _ _ qstr771
    exact vx_throwSW (names := zNm) hx hb hfl hown (by decide +kernel) (by decide +kernel) (hg _ q550) (hg _ q19) hsa9 (zat_at zat_X8_391 hg hG.2.2.2.2.1) zgo_X8_391_387 hG.1 hG.2.1 hS (by rw [hml]; exact hl.1) dX8_lotAt_15 dX8_lotAt_18 dX8_lotAt_19 dX8_lotAt_22 dX8_lotAt_25 (fun x9 h9 => (htab x9 h9).elim) (Nat.le_of_ble_eq_true rfl) (Nat.le_of_ble_eq_true rfl) (Nat.le_of_ble_eq_true rfl) (Nat.le_of_ble_eq_true rfl) hlocks (fun t9 _ h1 h2 => zX.grown trivial hS h1 h2) hS.2.2 (Nat.le_of_ble_eq_true rfl) (Nat.le_of_ble_eq_true rfl)
  · refine lv_iload_n hx hb dX8_lotAt_4 rfl (lv_at hl 1 rfl) ?_
    refine lv_aload_n hx hb dX8_lotAt_5 rfl (lv_at hl 0 rfl) ?_
    refine va_get (D := G) (ci := 12) (v := .ref a2) (C := RX8) (T := TX8) (N := 10) hx hb hg in_X8 hown hK hP 0 rfl rfl 1 (by decide) (hg _ q126) (fun _ h9 => h9) rfl dX8_lotAt_6 ?_
    have hPc := hP.sub (ws' := [(a2, .inr (3, [.int c0, .ref e0, .int 0]))]) [1] rfl
    have hKc := hK.sub (tys' := []) [] rfl
    refine va_calli (va_runV (As := []) (rest := [.int p0]) ⟨hx, hb, hml, hown, hts⟩ (k_Jx4a65c_size_8abf5 l G z a2 c0 e0 0 s.heap.size ) (cwV 0 hts (lw_goodApp (lw_4 q160 q161 q162 q4) q163) rfl rfl rfl (by decide +kernel) ⟨Nat.le_of_ble_eq_true rfl, Nat.le_of_ble_eq_true rfl⟩) ⟨PR.blind, va_recv hK hP (ci := 3) (q0 := 1) rfl rfl, PR.of hPc hKc hG hS hA [.ref a2]⟩ rfl rfl hl.1 rfl (lv_room (Nat.le_of_ble_eq_true rfl)) dX8_lotAt_9 ⟨Nat.le_of_ble_eq_true rfl, Nat.le_of_ble_eq_true rfl⟩) hS (fun q h9 h => zN.not h9 h) (fun q h => hA q (Nat.le_trans hS.1 h)) (fun r_3 u t_5 H_2 locs ht hvm hw_4 hB hz1 hk1 hS => ?_)
    have hP := hP.grown hk1
    refine W.widen (k := 0) (n := 0) (Nat.le_of_ble_eq_true rfl) (Nat.le_of_ble_eq_true rfl) ?_
    obtain rfl : 0 = r_3 := hw_4.symm
    refine lv_icmp_lt (tgt := 26) hx hb dX8_lotAt_12 (by decide) (fun c_6 => absurd c_6 c_1) (fun c_6 => ?_)
    obtain ⟨sa9, hsa9⟩ := hG.2.2.2.2.2.1 _ _ _ qstr771
    exact vx_throwSW (names := zNm) hx hb hfl hown (by decide +kernel) (by decide +kernel) (hg _ q550) (hg _ q19) hsa9 (zat_at zat_X8_391 hg hG.2.2.2.2.1) zgo_X8_391_387 hG.1 hG.2.1 hS (by rw [hml]; exact hl.1) dX8_lotAt_15 dX8_lotAt_18 dX8_lotAt_19 dX8_lotAt_22 dX8_lotAt_25 (fun x9 h9 => (htab x9 h9).elim) (Nat.le_of_ble_eq_true rfl) (Nat.le_of_ble_eq_true rfl) (Nat.le_of_ble_eq_true rfl) (Nat.le_of_ble_eq_true rfl) hlocks (fun t9 _ h1 h2 => zX.grown trivial hS h1 h2) hS.2.2 (Nat.le_of_ble_eq_true rfl) (Nat.le_of_ble_eq_true rfl)

abbrev wz_X8_reamAt : List Cond := .code yX8_reamAt cX8_reamAt 2 (Option.some (Jvm.ClassFile.FieldType.object "Watermarkmill$Ream")) :: lw_good
set_option maxHeartbeats 4000000 in
set_option maxRecDepth 100000 in
/-- reamAt of an empty list -/
theorem k_X8_reamAt (l : Launch) (hfl : l.stackTraces = false) (G : va_G) (z : Nat) (h0 : Nat) (a1 : Nat) (a2 : Nat) (a3 : Nat) (a4 : Nat) (a5 : Nat) (a6 : Nat) (a7 : Nat) (a8 : Nat) (tol : Int32) (sal : Int32) (c0 : Int32) (e0 : Nat) (p0 : Int32) (sz : Nat)  : vx_Met l yX8_reamAt wz_X8_reamAt ({ frames := 6, cells := 1, slots := 6, locals := 82 }) (va_Pc [.ref h0, .int p0] (PR G z [(h0, .inr (12, [.ref a1, .ref a2, .ref a3, .ref a4, .ref a5, .ref a6, .ref a7, .ref a8, .int tol, .int sal])), (a3, .inr (3, [.int c0, .ref e0, .int 0]))] [] sz)) (va_Qq (fun (r : Option Nat) (_ : Unit) => False) (fun (_ : Unit) (_ : State) => True) (zN sz)) (zX (True) "java/lang/IndexOutOfBoundsException" (zN sz)) 1 6 (zN sz) := by
  refine vx_ofW (cc := cX8_reamAt) (maxL := 2) (ret := (Option.some (Jvm.ClassFile.FieldType.object "Watermarkmill$Ream"))) (by decide) rfl ?_
  intro p e s m args below meth c s₁ B hml htab hv
  obtain ⟨rfl, rfl, hP, hK, hG⟩ := hv
  have hx := B.exec
  have hb := B.bytes
  have hr := B.returns
  have hts := atoms_spec (ws := wz_X8_reamAt) B.pre
  have hg : ∀ w ∈ lw_good, w.before _ s = true := fun w h => hts w (List.mem_cons_of_mem _ h)
  have hown : s.vm.findClass RX8 = some m.cls := findClass_of_methodNamed B.named
  have hlocks := B.notSynchronized
  have hA : ∀ q : Nat, s.heap.size ≤ q → zN s.heap.size q := fun _ h => h
  have hS : va_S (zN s.heap.size) s.heap s.heap [] := va_S.rf
  have hl := lv_entry ([.ref h0, .int p0]) (n := 2) (Nat.le_of_ble_eq_true rfl)
  rw [lg_entry_eq]
  generalize (lg_sl ([.ref h0, .int p0]) ++ List.replicate (2 - (lg_sl ([.ref h0, .int p0])).length) Slot.unset).toArray = ls at hl ⊢
  have hl : lv_has ls 2 [(0, .ref h0), (1, .int p0)] := hl
  refine lv_iload_n hx hb dX8_reamAt_0 rfl (lv_at hl 1 rfl) ?_
  refine lv_if_lt (tgt := 15) hx hb dX8_reamAt_1 (by decide) (fun c_1 => ?_) (fun c_1 => ?_)
  · obtain ⟨sa9, hsa9⟩ := hG.2.2.2.2.2.1 _ _ _ qstr766
    exact vx_throwSW (names := zNm) hx hb hfl hown (by decide +kernel) (by decide +kernel) (hg _ q550) (hg _ q19) hsa9 (zat_at zat_X8_391 hg hG.2.2.2.2.1) zgo_X8_391_387 hG.1 hG.2.1 hS (by rw [hml]; exact hl.1) dX8_reamAt_15 dX8_reamAt_18 dX8_reamAt_19 dX8_reamAt_22 dX8_reamAt_25 (fun x9 h9 => (htab x9 h9).elim) (Nat.le_of_ble_eq_true rfl) (Nat.le_of_ble_eq_true rfl) (Nat.le_of_ble_eq_true rfl) (Nat.le_of_ble_eq_true rfl) hlocks (fun t9 _ h1 h2 => zX.grown trivial hS h1 h2) hS.2.2 (Nat.le_of_ble_eq_true rfl) (Nat.le_of_ble_eq_true rfl)
  · refine lv_iload_n hx hb dX8_reamAt_4 rfl (lv_at hl 1 rfl) ?_
    refine lv_aload_n hx hb dX8_reamAt_5 rfl (lv_at hl 0 rfl) ?_
    refine va_get (D := G) (ci := 12) (v := .ref a3) (C := RX8) (T := TX8) (N := 10) hx hb hg in_X8 hown hK hP 0 rfl rfl 2 (by decide) (hg _ q127) (fun _ h9 => h9) rfl dX8_reamAt_6 ?_
    have hPc := hP.sub (ws' := [(a3, .inr (3, [.int c0, .ref e0, .int 0]))]) [1] rfl
    have hKc := hK.sub (tys' := []) [] rfl
    refine va_calli (va_runV (As := []) (rest := [.int p0]) ⟨hx, hb, hml, hown, hts⟩ (k_Jx4a65c_size_8abf5 l G z a3 c0 e0 0 s.heap.size ) (cwV 0 hts (lw_goodApp (lw_4 q160 q161 q162 q4) q163) rfl rfl rfl (by decide +kernel) ⟨Nat.le_of_ble_eq_true rfl, Nat.le_of_ble_eq_true rfl⟩) ⟨PR.blind, va_recv hK hP (ci := 3) (q0 := 1) rfl rfl, PR.of hPc hKc hG hS hA [.ref a3]⟩ rfl rfl hl.1 rfl (lv_room (Nat.le_of_ble_eq_true rfl)) dX8_reamAt_9 ⟨Nat.le_of_ble_eq_true rfl, Nat.le_of_ble_eq_true rfl⟩) hS (fun q h9 h => zN.not h9 h) (fun q h => hA q (Nat.le_trans hS.1 h)) (fun r_3 u t_5 H_2 locs ht hvm hw_4 hB hz1 hk1 hS => ?_)
    have hP := hP.grown hk1
    refine W.widen (k := 0) (n := 0) (Nat.le_of_ble_eq_true rfl) (Nat.le_of_ble_eq_true rfl) ?_
    obtain rfl : 0 = r_3 := hw_4.symm
    refine lv_icmp_lt (tgt := 26) hx hb dX8_reamAt_12 (by decide) (fun c_6 => absurd c_6 c_1) (fun c_6 => ?_)
    obtain ⟨sa9, hsa9⟩ := hG.2.2.2.2.2.1 _ _ _ qstr766
    exact vx_throwSW (names := zNm) hx hb hfl hown (by decide +kernel) (by decide +kernel) (hg _ q550) (hg _ q19) hsa9 (zat_at zat_X8_391 hg hG.2.2.2.2.1) zgo_X8_391_387 hG.1 hG.2.1 hS (by rw [hml]; exact hl.1) dX8_reamAt_15 dX8_reamAt_18 dX8_reamAt_19 dX8_reamAt_22 dX8_reamAt_25 (fun x9 h9 => (htab x9 h9).elim) (Nat.le_of_ble_eq_true rfl) (Nat.le_of_ble_eq_true rfl) (Nat.le_of_ble_eq_true rfl) (Nat.le_of_ble_eq_true rfl) hlocks (fun t9 _ h1 h2 => zX.grown trivial hS h1 h2) hS.2.2 (Nat.le_of_ble_eq_true rfl) (Nat.le_of_ble_eq_true rfl)

abbrev wz_X8_documentAt : List Cond := .code yX8_documentAt cX8_documentAt 2 (Option.some (Jvm.ClassFile.FieldType.object "Watermarkmill$Document")) :: lw_good
set_option maxHeartbeats 4000000 in
set_option maxRecDepth 100000 in
/-- documentAt of an empty list -/
theorem k_X8_documentAt (l : Launch) (hfl : l.stackTraces = false) (G : va_G) (z : Nat) (h0 : Nat) (a1 : Nat) (a2 : Nat) (a3 : Nat) (a4 : Nat) (a5 : Nat) (a6 : Nat) (a7 : Nat) (a8 : Nat) (tol : Int32) (sal : Int32) (c0 : Int32) (e0 : Nat) (p0 : Int32) (sz : Nat)  : vx_Met l yX8_documentAt wz_X8_documentAt ({ frames := 6, cells := 1, slots := 6, locals := 82 }) (va_Pc [.ref h0, .int p0] (PR G z [(h0, .inr (12, [.ref a1, .ref a2, .ref a3, .ref a4, .ref a5, .ref a6, .ref a7, .ref a8, .int tol, .int sal])), (a4, .inr (3, [.int c0, .ref e0, .int 0]))] [] sz)) (va_Qq (fun (r : Option Nat) (_ : Unit) => False) (fun (_ : Unit) (_ : State) => True) (zN sz)) (zX (True) "java/lang/IndexOutOfBoundsException" (zN sz)) 1 6 (zN sz) := by
  refine vx_ofW (cc := cX8_documentAt) (maxL := 2) (ret := (Option.some (Jvm.ClassFile.FieldType.object "Watermarkmill$Document"))) (by decide) rfl ?_
  intro p e s m args below meth c s₁ B hml htab hv
  obtain ⟨rfl, rfl, hP, hK, hG⟩ := hv
  have hx := B.exec
  have hb := B.bytes
  have hr := B.returns
  have hts := atoms_spec (ws := wz_X8_documentAt) B.pre
  have hg : ∀ w ∈ lw_good, w.before _ s = true := fun w h => hts w (List.mem_cons_of_mem _ h)
  have hown : s.vm.findClass RX8 = some m.cls := findClass_of_methodNamed B.named
  have hlocks := B.notSynchronized
  have hA : ∀ q : Nat, s.heap.size ≤ q → zN s.heap.size q := fun _ h => h
  have hS : va_S (zN s.heap.size) s.heap s.heap [] := va_S.rf
  have hl := lv_entry ([.ref h0, .int p0]) (n := 2) (Nat.le_of_ble_eq_true rfl)
  rw [lg_entry_eq]
  generalize (lg_sl ([.ref h0, .int p0]) ++ List.replicate (2 - (lg_sl ([.ref h0, .int p0])).length) Slot.unset).toArray = ls at hl ⊢
  have hl : lv_has ls 2 [(0, .ref h0), (1, .int p0)] := hl
  refine lv_iload_n hx hb dX8_documentAt_0 rfl (lv_at hl 1 rfl) ?_
  refine lv_if_lt (tgt := 15) hx hb dX8_documentAt_1 (by decide) (fun c_1 => ?_) (fun c_1 => ?_)
  · obtain ⟨sa9, hsa9⟩ := hG.2.2.2.2.2.1 _ _ _ qstr864
    exact vx_throwSW (names := zNm) hx hb hfl hown (by decide +kernel) (by decide +kernel) (hg _ q550) (hg _ q19) hsa9 (zat_at zat_X8_391 hg hG.2.2.2.2.1) zgo_X8_391_387 hG.1 hG.2.1 hS (by rw [hml]; exact hl.1) dX8_documentAt_15 dX8_documentAt_18 dX8_documentAt_19 dX8_documentAt_22 dX8_documentAt_25 (fun x9 h9 => (htab x9 h9).elim) (Nat.le_of_ble_eq_true rfl) (Nat.le_of_ble_eq_true rfl) (Nat.le_of_ble_eq_true rfl) (Nat.le_of_ble_eq_true rfl) hlocks (fun t9 _ h1 h2 => zX.grown trivial hS h1 h2) hS.2.2 (Nat.le_of_ble_eq_true rfl) (Nat.le_of_ble_eq_true rfl)
  · refine lv_iload_n hx hb dX8_documentAt_4 rfl (lv_at hl 1 rfl) ?_
    refine lv_aload_n hx hb dX8_documentAt_5 rfl (lv_at hl 0 rfl) ?_
    refine va_get (D := G) (ci := 12) (v := .ref a4) (C := RX8) (T := TX8) (N := 10) hx hb hg in_X8 hown hK hP 0 rfl rfl 3 (by decide) (hg _ q128) (fun _ h9 => h9) rfl dX8_documentAt_6 ?_
    have hPc := hP.sub (ws' := [(a4, .inr (3, [.int c0, .ref e0, .int 0]))]) [1] rfl
    have hKc := hK.sub (tys' := []) [] rfl
    refine va_calli (va_runV (As := []) (rest := [.int p0]) ⟨hx, hb, hml, hown, hts⟩ (k_Jx4a65c_size_8abf5 l G z a4 c0 e0 0 s.heap.size ) (cwV 0 hts (lw_goodApp (lw_4 q160 q161 q162 q4) q163) rfl rfl rfl (by decide +kernel) ⟨Nat.le_of_ble_eq_true rfl, Nat.le_of_ble_eq_true rfl⟩) ⟨PR.blind, va_recv hK hP (ci := 3) (q0 := 1) rfl rfl, PR.of hPc hKc hG hS hA [.ref a4]⟩ rfl rfl hl.1 rfl (lv_room (Nat.le_of_ble_eq_true rfl)) dX8_documentAt_9 ⟨Nat.le_of_ble_eq_true rfl, Nat.le_of_ble_eq_true rfl⟩) hS (fun q h9 h => zN.not h9 h) (fun q h => hA q (Nat.le_trans hS.1 h)) (fun r_3 u t_5 H_2 locs ht hvm hw_4 hB hz1 hk1 hS => ?_)
    have hP := hP.grown hk1
    refine W.widen (k := 0) (n := 0) (Nat.le_of_ble_eq_true rfl) (Nat.le_of_ble_eq_true rfl) ?_
    obtain rfl : 0 = r_3 := hw_4.symm
    refine lv_icmp_lt (tgt := 26) hx hb dX8_documentAt_12 (by decide) (fun c_6 => absurd c_6 c_1) (fun c_6 => ?_)
    obtain ⟨sa9, hsa9⟩ := hG.2.2.2.2.2.1 _ _ _ qstr864
    exact vx_throwSW (names := zNm) hx hb hfl hown (by decide +kernel) (by decide +kernel) (hg _ q550) (hg _ q19) hsa9 (zat_at zat_X8_391 hg hG.2.2.2.2.1) zgo_X8_391_387 hG.1 hG.2.1 hS (by rw [hml]; exact hl.1) dX8_documentAt_15 dX8_documentAt_18 dX8_documentAt_19 dX8_documentAt_22 dX8_documentAt_25 (fun x9 h9 => (htab x9 h9).elim) (Nat.le_of_ble_eq_true rfl) (Nat.le_of_ble_eq_true rfl) (Nat.le_of_ble_eq_true rfl) (Nat.le_of_ble_eq_true rfl) hlocks (fun t9 _ h1 h2 => zX.grown trivial hS h1 h2) hS.2.2 (Nat.le_of_ble_eq_true rfl) (Nat.le_of_ble_eq_true rfl)

abbrev wz_X8_imageAt : List Cond := .code yX8_imageAt cX8_imageAt 2 (Option.some (Jvm.ClassFile.FieldType.object "Watermarkmill$Image")) :: lw_good
set_option maxHeartbeats 4000000 in
set_option maxRecDepth 100000 in
/-- imageAt of an empty list -/
theorem k_X8_imageAt (l : Launch) (hfl : l.stackTraces = false) (G : va_G) (z : Nat) (h0 : Nat) (a1 : Nat) (a2 : Nat) (a3 : Nat) (a4 : Nat) (a5 : Nat) (a6 : Nat) (a7 : Nat) (a8 : Nat) (tol : Int32) (sal : Int32) (c0 : Int32) (e0 : Nat) (p0 : Int32) (sz : Nat)  : vx_Met l yX8_imageAt wz_X8_imageAt ({ frames := 6, cells := 1, slots := 6, locals := 82 }) (va_Pc [.ref h0, .int p0] (PR G z [(h0, .inr (12, [.ref a1, .ref a2, .ref a3, .ref a4, .ref a5, .ref a6, .ref a7, .ref a8, .int tol, .int sal])), (a5, .inr (3, [.int c0, .ref e0, .int 0]))] [] sz)) (va_Qq (fun (r : Option Nat) (_ : Unit) => False) (fun (_ : Unit) (_ : State) => True) (zN sz)) (zX (True) "java/lang/IndexOutOfBoundsException" (zN sz)) 1 6 (zN sz) := by
  refine vx_ofW (cc := cX8_imageAt) (maxL := 2) (ret := (Option.some (Jvm.ClassFile.FieldType.object "Watermarkmill$Image"))) (by decide) rfl ?_
  intro p e s m args below meth c s₁ B hml htab hv
  obtain ⟨rfl, rfl, hP, hK, hG⟩ := hv
  have hx := B.exec
  have hb := B.bytes
  have hr := B.returns
  have hts := atoms_spec (ws := wz_X8_imageAt) B.pre
  have hg : ∀ w ∈ lw_good, w.before _ s = true := fun w h => hts w (List.mem_cons_of_mem _ h)
  have hown : s.vm.findClass RX8 = some m.cls := findClass_of_methodNamed B.named
  have hlocks := B.notSynchronized
  have hA : ∀ q : Nat, s.heap.size ≤ q → zN s.heap.size q := fun _ h => h
  have hS : va_S (zN s.heap.size) s.heap s.heap [] := va_S.rf
  have hl := lv_entry ([.ref h0, .int p0]) (n := 2) (Nat.le_of_ble_eq_true rfl)
  rw [lg_entry_eq]
  generalize (lg_sl ([.ref h0, .int p0]) ++ List.replicate (2 - (lg_sl ([.ref h0, .int p0])).length) Slot.unset).toArray = ls at hl ⊢
  have hl : lv_has ls 2 [(0, .ref h0), (1, .int p0)] := hl
  refine lv_iload_n hx hb dX8_imageAt_0 rfl (lv_at hl 1 rfl) ?_
  refine lv_if_lt (tgt := 15) hx hb dX8_imageAt_1 (by decide) (fun c_1 => ?_) (fun c_1 => ?_)
  · obtain ⟨sa9, hsa9⟩ := hG.2.2.2.2.2.1 _ _ _ qstr1010
    exact vx_throwSW (names := zNm) hx hb hfl hown (by decide +kernel) (by decide +kernel) (hg _ q550) (hg _ q19) hsa9 (zat_at zat_X8_391 hg hG.2.2.2.2.1) zgo_X8_391_387 hG.1 hG.2.1 hS (by rw [hml]; exact hl.1) dX8_imageAt_15 dX8_imageAt_18 dX8_imageAt_19 dX8_imageAt_22 dX8_imageAt_25 (fun x9 h9 => (htab x9 h9).elim) (Nat.le_of_ble_eq_true rfl) (Nat.le_of_ble_eq_true rfl) (Nat.le_of_ble_eq_true rfl) (Nat.le_of_ble_eq_true rfl) hlocks (fun t9 _ h1 h2 => zX.grown trivial hS h1 h2) hS.2.2 (Nat.le_of_ble_eq_true rfl) (Nat.le_of_ble_eq_true rfl)
  · refine lv_iload_n hx hb dX8_imageAt_4 rfl (lv_at hl 1 rfl) ?_
    refine lv_aload_n hx hb dX8_imageAt_5 rfl (lv_at hl 0 rfl) ?_
    refine va_get (D := G) (ci := 12) (v := .ref a5) (C := RX8) (T := TX8) (N := 10) hx hb hg in_X8 hown hK hP 0 rfl rfl 4 (by decide) (hg _ q129) (fun _ h9 => h9) rfl dX8_imageAt_6 ?_
    have hPc := hP.sub (ws' := [(a5, .inr (3, [.int c0, .ref e0, .int 0]))]) [1] rfl
    have hKc := hK.sub (tys' := []) [] rfl
    refine va_calli (va_runV (As := []) (rest := [.int p0]) ⟨hx, hb, hml, hown, hts⟩ (k_Jx4a65c_size_8abf5 l G z a5 c0 e0 0 s.heap.size ) (cwV 0 hts (lw_goodApp (lw_4 q160 q161 q162 q4) q163) rfl rfl rfl (by decide +kernel) ⟨Nat.le_of_ble_eq_true rfl, Nat.le_of_ble_eq_true rfl⟩) ⟨PR.blind, va_recv hK hP (ci := 3) (q0 := 1) rfl rfl, PR.of hPc hKc hG hS hA [.ref a5]⟩ rfl rfl hl.1 rfl (lv_room (Nat.le_of_ble_eq_true rfl)) dX8_imageAt_9 ⟨Nat.le_of_ble_eq_true rfl, Nat.le_of_ble_eq_true rfl⟩) hS (fun q h9 h => zN.not h9 h) (fun q h => hA q (Nat.le_trans hS.1 h)) (fun r_3 u t_5 H_2 locs ht hvm hw_4 hB hz1 hk1 hS => ?_)
    have hP := hP.grown hk1
    refine W.widen (k := 0) (n := 0) (Nat.le_of_ble_eq_true rfl) (Nat.le_of_ble_eq_true rfl) ?_
    obtain rfl : 0 = r_3 := hw_4.symm
    refine lv_icmp_lt (tgt := 26) hx hb dX8_imageAt_12 (by decide) (fun c_6 => absurd c_6 c_1) (fun c_6 => ?_)
    obtain ⟨sa9, hsa9⟩ := hG.2.2.2.2.2.1 _ _ _ qstr1010
    exact vx_throwSW (names := zNm) hx hb hfl hown (by decide +kernel) (by decide +kernel) (hg _ q550) (hg _ q19) hsa9 (zat_at zat_X8_391 hg hG.2.2.2.2.1) zgo_X8_391_387 hG.1 hG.2.1 hS (by rw [hml]; exact hl.1) dX8_imageAt_15 dX8_imageAt_18 dX8_imageAt_19 dX8_imageAt_22 dX8_imageAt_25 (fun x9 h9 => (htab x9 h9).elim) (Nat.le_of_ble_eq_true rfl) (Nat.le_of_ble_eq_true rfl) (Nat.le_of_ble_eq_true rfl) (Nat.le_of_ble_eq_true rfl) hlocks (fun t9 _ h1 h2 => zX.grown trivial hS h1 h2) hS.2.2 (Nat.le_of_ble_eq_true rfl) (Nat.le_of_ble_eq_true rfl)
