theorem q1178 : Cond.classLink "WatermarkmillLaw" 162 "WatermarkmillModel" ∈ lw_good := lw_in (i := 1178) (by decide +kernel) (by decide +kernel)
theorem q1180 : Cond.methodLink "WatermarkmillLaw" 164 yX14_init ∈ lw_good := lw_in (i := 1180) (by decide +kernel) (by decide +kernel)
theorem q1181 : Cond.instanceMethod yX14_init ∈ lw_good := lw_in (i := 1181) (by decide +kernel) (by decide +kernel)
theorem q1740 : Cond.arrayClass Jvm.ClassFile.FieldType.long ∈ lw_good := lw_in (i := 1740) (by decide +kernel) (by decide +kernel)
theorem q1741 : Cond.arrayClass Jvm.ClassFile.FieldType.double ∈ lw_good := lw_in (i := 1741) (by decide +kernel) (by decide +kernel)
theorem q37 : Cond.classLink "WatermarkmillLaw" 8 "Watermarkmill" ∈ lw_good := lw_in (i := 37) (by decide +kernel) (by decide +kernel)
theorem q39 : Cond.methodLink "WatermarkmillLaw" 161 yX8_init ∈ lw_good := lw_in (i := 39) (by decide +kernel) (by decide +kernel)
theorem q40 : Cond.instanceMethod yX8_init ∈ lw_good := lw_in (i := 40) (by decide +kernel) (by decide +kernel)
theorem dL_law_0 : decode cL_law 0 = .ok (.new 8, 3) := by decide +kernel
theorem dL_law_11 : decode cL_law 11 = .ok (.dup, 1) := by decide +kernel
theorem dL_law_12 : decode cL_law 12 = .ok (.invokespecial 164, 3) := by decide +kernel
theorem dL_law_15 : decode cL_law 15 = .ok (.astore_n 2, 1) := by decide +kernel
theorem dL_law_16 : decode cL_law 16 = .ok (.iconst 1, 1) := by decide +kernel
theorem dL_law_17 : decode cL_law 17 = .ok (.newarray .long, 2) := by decide +kernel
theorem dL_law_19 : decode cL_law 19 = .ok (.astore_n 3, 1) := by decide +kernel
theorem dL_law_20 : decode cL_law 20 = .ok (.iconst 1, 1) := by decide +kernel
theorem dL_law_21 : decode cL_law 21 = .ok (.newarray .double, 2) := by decide +kernel
theorem dL_law_23 : decode cL_law 23 = .ok (.astore 4, 2) := by decide +kernel
theorem dL_law_25 : decode cL_law 25 = .ok (.iconst 0, 1) := by decide +kernel
theorem dL_law_26 : decode cL_law 26 = .ok (.istore 5, 2) := by decide +kernel
theorem dL_law_3 : decode cL_law 3 = .ok (.dup, 1) := by decide +kernel
theorem dL_law_38 : decode cL_law 38 = .ok (.aload_n 0, 1) := by decide +kernel
theorem dL_law_39 : decode cL_law 39 = .ok (.iload 5, 2) := by decide +kernel
theorem dL_law_4 : decode cL_law 4 = .ok (.invokespecial 161, 3) := by decide +kernel
theorem dL_law_41 : decode cL_law 41 = .ok (.iaload, 1) := by decide +kernel
theorem dL_law_42 : decode cL_law 42 = .ok (.bipush 63, 2) := by decide +kernel
theorem dL_law_44 : decode cL_law 44 = .ok (.iand, 1) := by decide +kernel
theorem dL_law_45 : decode cL_law 45 = .ok (.tableswitch 3243 0 44 #[195, 313, 381, 456, 564, 632, 712, 780, 848, 928, 1036, 1092, 1172, 1228, 1296, 1376, 1475, 1543, 1623, 1691, 1759, 1827, 1890, 1982, 2038, 2106, 2174, 2242, 2255, 2354, 2398, 2466, 2479, 2559, 2639, 2707, 2763, 2776, 2860, 2944, 2988, 3056, 3099, 3165, 3230], 195) := by decide +kernel
theorem dL_law_7 : decode cL_law 7 = .ok (.astore_n 1, 1) := by decide +kernel
theorem dL_law_8 : decode cL_law 8 = .ok (.new 162, 3) := by decide +kernel
set_option maxHeartbeats 16000000 in
set_option maxRecDepth 100000 in
/-- from the entry, for every script of at most 7 ints -/
theorem whole_start {p : Program} {e : Env} {s : State} {m : MethodId} {below : List Frame} {meth : Method} {c : Code} (l : Launch) (hflags : l.flags = flags0) {b L : Nat} {xs : Nat → Int32} (hL : L ≤ 7) (C0 : lw_At p s m meth c b L xs) : W p l e room_1 s m #[Value.ref b] below meth c s.heap [] 0 0 (lw_Z below #[Value.ref b] s) (entryFrame m ([Value.ref b] : List Value).toArray 9) := by
  have hfl : l.stackTraces = false := by unfold Launch.stackTraces; rw [hflags]; decide
  obtain ⟨A, hA, hA2⟩ : ∃ A : Nat → Prop, (∀ q : Nat, s.heap.size ≤ q → A q) ∧ (∀ q : Nat, A q → s.heap.size ≤ q) := ⟨fun q => s.heap.size ≤ q, fun _ h => h, fun _ h => h⟩
  obtain ⟨z, hG⟩ := law_ground C0 hA2
  have C9 := C0
  obtain ⟨hx, hb, hr, hml, hown, hts0, hX, hbl, hlocks, hgv⟩ := C0
  have hg := lw_sub_good hts0
  have hts : ∀ w ∈ (lw_hd :: lw_good), w.before #[Value.ref b] s = true := fun w h => (List.mem_cons.mp h).elim (fun e9 => e9 ▸ hg _ q0) (hg w)
  have hbA : ¬ A b := fun h => Nat.not_le.mpr hbl (hA2 b h)
  obtain ⟨G, hK⟩ := law_known hg
  have hS : va_S A s.heap s.heap [] := va_S.rf
  have hP : va_P G vwCl [] s.heap := fun k q h => by simp at h
  have hD : va_D A [] := ⟨fun i j p q h => by simp at h, fun k q h => by simp at h⟩
  have hl := lv_entry ([.ref b]) (n := 9) (Nat.le_of_ble_eq_true rfl)
  rw [lg_entry_eq]
  generalize (lg_sl ([.ref b]) ++ List.replicate (9 - (lg_sl ([.ref b])).length) Slot.unset).toArray = ls at hl ⊢
  have hl : lv_has ls 9 [(0, .ref b)] := hl
  refine va_new (ci := 12) (fs := [.null, .null, .null, .null, .null, .null, .null, .null, .int 0, .int 0]) (C := RX8) (T := TX8) (N := 10) hx hb hg in_X8 tyX8 tyX8_ok hown (hg _ q37) (hg _ q38) (hg _ q1) hK hP hD hS hA rfl (fun j hj => by rcases (show j = 0 ∨ j = 1 ∨ j = 2 ∨ j = 3 ∨ j = 4 ∨ j = 5 ∨ j = 6 ∨ j = 7 ∨ j = 8 ∨ j = 9 by omega) with rfl | rfl | rfl | rfl | rfl | rfl | rfl | rfl | rfl | rfl <;> rfl) (Nat.le_of_ble_eq_true rfl) (Nat.le_of_ble_eq_true rfl) dL_law_0 (fun o_1 H_2 hP hD hS => ?_)
  have hP : va_P G vwCl ([(o_1, .inr (12, [.null, .null, .null, .null, .null, .null, .null, .null, .int 0, .int 0]))]) H_2 := hP
  have hD : va_D A ([(o_1, .inr (12, [.null, .null, .null, .null, .null, .null, .null, .null, .int 0, .int 0]))]) := hD
  refine W.widen (k := 1) (n := 10) (Nat.le_of_ble_eq_true rfl) (Nat.le_of_ble_eq_true rfl) ?_
  refine lv_dup hx hb dL_law_3 rfl ?_
  have hPc := hP.sub (ws' := [(o_1, .inr (12, [.null, .null, .null, .null, .null, .null, .null, .null, .int 0, .int 0]))]) [0] rfl
  have hKc := hK.sub (tys' := []) [] rfl
  have hDc := hD.sub (ws' := [(o_1, .inr (12, [.null, .null, .null, .null, .null, .null, .null, .null, .int 0, .int 0]))]) [0] (by decide) rfl
  have hFc := va_free (wc := [(o_1, .inr (12, [.null, .null, .null, .null, .null, .null, .null, .null, .int 0, .int 0]))]) hD hS hA [0] rfl
  refine va_callv (va_runI (As := []) (rest := [.ref o_1]) ⟨hx, hb, hml, hown, hts⟩ (k_X8_init l G z o_1 H_2.size ) (cwI 0 hts (lw_goodAll q41) rfl rfl rfl (hg _ q1) (hg _ q39) (hg _ q40) rfl (by decide +kernel) ⟨Nat.le_of_ble_eq_true rfl, Nat.le_of_ble_eq_true rfl⟩) ⟨PW.blind, PW.of hPc hKc hDc hG hS hFc [.ref o_1]⟩ rfl rfl hl.1 rfl (lv_room (Nat.le_of_ble_eq_true rfl)) dL_law_4 ⟨Nat.le_of_ble_eq_true rfl, Nat.le_of_ble_eq_true rfl⟩) hS (fun q _ h => hFc q h) hFc (fun u t_6 H_3 locs ht hvm hw_5 hB hz1 hk1 hS => ?_)
  obtain ⟨a1_7, a2_8, a3_9, a4_10, a5_11, a6_12, a7_13, a8_14, b1_15, b2_16, b3_17, cyA_18, cyJ_19, cyT_20, d1_21, d2_22, d3_23, d4_24, cyO_25, fS_26, cyI_27, r0_28, hf_29, hB⟩ := hB
  obtain ⟨hP, hD, hK⟩ := QW.join (wr := []) (w1 := [(o_1, .inr (12, [.ref a1_7, .ref a2_8, .ref a3_9, .ref a4_10, .ref a5_11, .ref a6_12, .ref a7_13, .ref a8_14, .int 3, .int 0])), (a1_7, .inr (3, [.int 0, .ref z, .int 0])), (a2_8, .inr (3, [.int 0, .ref z, .int 0])), (a3_9, .inr (3, [.int 0, .ref z, .int 0])), (a4_10, .inr (3, [.int 0, .ref z, .int 0])), (a5_11, .inr (3, [.int 0, .ref z, .int 0])), (a6_12, .inr (10, [.ref b1_15, .ref b2_16, .ref b3_17, .int 0])), (b1_15, .inl (cyA_18, 400, .inl (nI))), (b2_16, .inl (cyJ_19, 512, .inl (fun _ => 0))), (b3_17, .inl (cyT_20, 400, .inl (fun _ => 0))), (a7_13, .inr (4, [.ref d1_21, .ref d2_22, .ref d3_23, .ref d4_24, .int 0, .int 12])), (d4_24, .inl (cyO_25, 20, .inr (.inr (.inr (.inr (fS_26)))))), (r0_28, .inl (cyI_27, 20, .inl (fun _ => 0)))]) hP hD hK [0] [] rfl rfl (by decide) (by decide) hk1 hFc ht hvm hB
  have hP : va_P G vwCl ([(o_1, .inr (12, [.ref a1_7, .ref a2_8, .ref a3_9, .ref a4_10, .ref a5_11, .ref a6_12, .ref a7_13, .ref a8_14, .int 3, .int 0])), (a1_7, .inr (3, [.int 0, .ref z, .int 0])), (a2_8, .inr (3, [.int 0, .ref z, .int 0])), (a3_9, .inr (3, [.int 0, .ref z, .int 0])), (a4_10, .inr (3, [.int 0, .ref z, .int 0])), (a5_11, .inr (3, [.int 0, .ref z, .int 0])), (a6_12, .inr (10, [.ref b1_15, .ref b2_16, .ref b3_17, .int 0])), (b1_15, .inl (cyA_18, 400, .inl (nI))), (b2_16, .inl (cyJ_19, 512, .inl (fun _ => 0))), (b3_17, .inl (cyT_20, 400, .inl (fun _ => 0))), (a7_13, .inr (4, [.ref d1_21, .ref d2_22, .ref d3_23, .ref d4_24, .int 0, .int 12])), (d4_24, .inl (cyO_25, 20, .inr (.inr (.inr (.inr (fS_26)))))), (r0_28, .inl (cyI_27, 20, .inl (fun _ => 0)))]) H_3 := hP
  have hD : va_D A ([(o_1, .inr (12, [.ref a1_7, .ref a2_8, .ref a3_9, .ref a4_10, .ref a5_11, .ref a6_12, .ref a7_13, .ref a8_14, .int 3, .int 0])), (a1_7, .inr (3, [.int 0, .ref z, .int 0])), (a2_8, .inr (3, [.int 0, .ref z, .int 0])), (a3_9, .inr (3, [.int 0, .ref z, .int 0])), (a4_10, .inr (3, [.int 0, .ref z, .int 0])), (a5_11, .inr (3, [.int 0, .ref z, .int 0])), (a6_12, .inr (10, [.ref b1_15, .ref b2_16, .ref b3_17, .int 0])), (b1_15, .inl (cyA_18, 400, .inl (nI))), (b2_16, .inl (cyJ_19, 512, .inl (fun _ => 0))), (b3_17, .inl (cyT_20, 400, .inl (fun _ => 0))), (a7_13, .inr (4, [.ref d1_21, .ref d2_22, .ref d3_23, .ref d4_24, .int 0, .int 12])), (d4_24, .inl (cyO_25, 20, .inr (.inr (.inr (.inr (fS_26)))))), (r0_28, .inl (cyI_27, 20, .inl (fun _ => 0)))]) := hD
  have hK : va_K G vwCl [(cyA_18, .int), (cyJ_19, .int), (cyT_20, .int), (cyO_25, .array .int), (cyI_27, .int)] s := hK
  refine W.widen (k := 56) (n := 2107) (Nat.le_of_ble_eq_true rfl) (Nat.le_of_ble_eq_true rfl) ?_
  refine lv_astore_n (lv' := [(1, .ref o_1), (0, .ref b)]) hx hb dL_law_7 rfl hl (by decide) rfl (fun ls hl => ?_)
  refine va_new (ci := 18) (fs := [.int 0, .null, .null, .null, .null, .null, .null, .int 0, .int 0, .int 0, .null, .null, .null, .null, .null, .null]) (C := RX14) (T := TX14) (N := 16) hx hb hg in_X14 tyX14 tyX14_ok hown (hg _ q1178) (hg _ q1179) (hg _ q7) hK hP hD hS hA rfl (fun j hj => by rcases (show j = 0 ∨ j = 1 ∨ j = 2 ∨ j = 3 ∨ j = 4 ∨ j = 5 ∨ j = 6 ∨ j = 7 ∨ j = 8 ∨ j = 9 ∨ j = 10 ∨ j = 11 ∨ j = 12 ∨ j = 13 ∨ j = 14 ∨ j = 15 by omega) with rfl | rfl | rfl | rfl | rfl | rfl | rfl | rfl | rfl | rfl | rfl | rfl | rfl | rfl | rfl | rfl <;> rfl) (Nat.le_of_ble_eq_true rfl) (Nat.le_of_ble_eq_true rfl) dL_law_8 (fun o_30 H_31 hP hD hS => ?_)
  have hP : va_P G vwCl ([(o_1, .inr (12, [.ref a1_7, .ref a2_8, .ref a3_9, .ref a4_10, .ref a5_11, .ref a6_12, .ref a7_13, .ref a8_14, .int 3, .int 0])), (a1_7, .inr (3, [.int 0, .ref z, .int 0])), (a2_8, .inr (3, [.int 0, .ref z, .int 0])), (a3_9, .inr (3, [.int 0, .ref z, .int 0])), (a4_10, .inr (3, [.int 0, .ref z, .int 0])), (a5_11, .inr (3, [.int 0, .ref z, .int 0])), (a6_12, .inr (10, [.ref b1_15, .ref b2_16, .ref b3_17, .int 0])), (b1_15, .inl (cyA_18, 400, .inl (nI))), (b2_16, .inl (cyJ_19, 512, .inl (fun _ => 0))), (b3_17, .inl (cyT_20, 400, .inl (fun _ => 0))), (a7_13, .inr (4, [.ref d1_21, .ref d2_22, .ref d3_23, .ref d4_24, .int 0, .int 12])), (d4_24, .inl (cyO_25, 20, .inr (.inr (.inr (.inr (fS_26)))))), (r0_28, .inl (cyI_27, 20, .inl (fun _ => 0))), (o_30, .inr (18, [.int 0, .null, .null, .null, .null, .null, .null, .int 0, .int 0, .int 0, .null, .null, .null, .null, .null, .null]))]) H_31 := hP
  have hD : va_D A ([(o_1, .inr (12, [.ref a1_7, .ref a2_8, .ref a3_9, .ref a4_10, .ref a5_11, .ref a6_12, .ref a7_13, .ref a8_14, .int 3, .int 0])), (a1_7, .inr (3, [.int 0, .ref z, .int 0])), (a2_8, .inr (3, [.int 0, .ref z, .int 0])), (a3_9, .inr (3, [.int 0, .ref z, .int 0])), (a4_10, .inr (3, [.int 0, .ref z, .int 0])), (a5_11, .inr (3, [.int 0, .ref z, .int 0])), (a6_12, .inr (10, [.ref b1_15, .ref b2_16, .ref b3_17, .int 0])), (b1_15, .inl (cyA_18, 400, .inl (nI))), (b2_16, .inl (cyJ_19, 512, .inl (fun _ => 0))), (b3_17, .inl (cyT_20, 400, .inl (fun _ => 0))), (a7_13, .inr (4, [.ref d1_21, .ref d2_22, .ref d3_23, .ref d4_24, .int 0, .int 12])), (d4_24, .inl (cyO_25, 20, .inr (.inr (.inr (.inr (fS_26)))))), (r0_28, .inl (cyI_27, 20, .inl (fun _ => 0))), (o_30, .inr (18, [.int 0, .null, .null, .null, .null, .null, .null, .int 0, .int 0, .int 0, .null, .null, .null, .null, .null, .null]))]) := hD
  refine W.widen (k := 57) (n := 2123) (Nat.le_of_ble_eq_true rfl) (Nat.le_of_ble_eq_true rfl) ?_
  refine lv_dup hx hb dL_law_11 rfl ?_
  have hPc := hP.sub (ws' := [(o_30, .inr (18, [.int 0, .null, .null, .null, .null, .null, .null, .int 0, .int 0, .int 0, .null, .null, .null, .null, .null, .null]))]) [13] rfl
  have hKc := hK.sub (tys' := []) [] rfl
  have hDc := hD.sub (ws' := [(o_30, .inr (18, [.int 0, .null, .null, .null, .null, .null, .null, .int 0, .int 0, .int 0, .null, .null, .null, .null, .null, .null]))]) [13] (by decide) rfl
  have hFc := va_free (wc := [(o_30, .inr (18, [.int 0, .null, .null, .null, .null, .null, .null, .int 0, .int 0, .int 0, .null, .null, .null, .null, .null, .null]))]) hD hS hA [13] rfl
  refine va_callv (va_runI (As := []) (rest := [.ref o_30]) ⟨hx, hb, hml, hown, hts⟩ (k_X14_init l G z o_30 H_31.size ) (cwI 0 hts (lw_goodAll q1182) rfl rfl rfl (hg _ q7) (hg _ q1180) (hg _ q1181) rfl (by decide +kernel) ⟨Nat.le_of_ble_eq_true rfl, Nat.le_of_ble_eq_true rfl⟩) ⟨PW.blind, PW.of hPc hKc hDc hG hS hFc [.ref o_30]⟩ rfl rfl hl.1 rfl (lv_room (Nat.le_of_ble_eq_true rfl)) dL_law_12 ⟨Nat.le_of_ble_eq_true rfl, Nat.le_of_ble_eq_true rfl⟩) hS (fun q _ h => hFc q h) hFc (fun u t_35 H_32 locs ht hvm hw_34 hB hz1 hk1 hS => ?_)
  obtain ⟨l1_36, l2_37, l3_38, l4_39, l5_40, l6_41, m1_42, m2_43, m3_44, m4_45, m5_46, m6_47, hB⟩ := hB
  obtain ⟨hP, hD, hK⟩ := QW.join (wr := [(o_1, .inr (12, [.ref a1_7, .ref a2_8, .ref a3_9, .ref a4_10, .ref a5_11, .ref a6_12, .ref a7_13, .ref a8_14, .int 3, .int 0])), (a1_7, .inr (3, [.int 0, .ref z, .int 0])), (a2_8, .inr (3, [.int 0, .ref z, .int 0])), (a3_9, .inr (3, [.int 0, .ref z, .int 0])), (a4_10, .inr (3, [.int 0, .ref z, .int 0])), (a5_11, .inr (3, [.int 0, .ref z, .int 0])), (a6_12, .inr (10, [.ref b1_15, .ref b2_16, .ref b3_17, .int 0])), (b1_15, .inl (cyA_18, 400, .inl (nI))), (b2_16, .inl (cyJ_19, 512, .inl (fun _ => 0))), (b3_17, .inl (cyT_20, 400, .inl (fun _ => 0))), (a7_13, .inr (4, [.ref d1_21, .ref d2_22, .ref d3_23, .ref d4_24, .int 0, .int 12])), (d4_24, .inl (cyO_25, 20, .inr (.inr (.inr (.inr (fS_26)))))), (r0_28, .inl (cyI_27, 20, .inl (fun _ => 0)))]) (w1 := [(o_30, .inr (18, [.int 0, .ref l1_36, .ref l2_37, .ref l3_38, .ref l4_39, .ref l5_40, .ref l6_41, .int 0, .int 3, .int 12, .ref m1_42, .ref m2_43, .ref m3_44, .ref m4_45, .ref m5_46, .ref m6_47])), (l1_36, .inr (3, [.int 0, .ref z, .int 0])), (l2_37, .inr (3, [.int 0, .ref z, .int 0])), (l3_38, .inr (3, [.int 0, .ref z, .int 0])), (l4_39, .inr (3, [.int 0, .ref z, .int 0])), (l5_40, .inr (3, [.int 0, .ref z, .int 0])), (l6_41, .inr (3, [.int 0, .ref z, .int 0]))]) hP hD hK [13] [0, 1, 2, 3, 4, 5, 6, 7, 8, 9, 10, 11, 12] rfl rfl (by decide) (by decide) hk1 hFc ht hvm hB
  have hP : va_P G vwCl ([(o_1, .inr (12, [.ref a1_7, .ref a2_8, .ref a3_9, .ref a4_10, .ref a5_11, .ref a6_12, .ref a7_13, .ref a8_14, .int 3, .int 0])), (a1_7, .inr (3, [.int 0, .ref z, .int 0])), (a2_8, .inr (3, [.int 0, .ref z, .int 0])), (a3_9, .inr (3, [.int 0, .ref z, .int 0])), (a4_10, .inr (3, [.int 0, .ref z, .int 0])), (a5_11, .inr (3, [.int 0, .ref z, .int 0])), (a6_12, .inr (10, [.ref b1_15, .ref b2_16, .ref b3_17, .int 0])), (b1_15, .inl (cyA_18, 400, .inl (nI))), (b2_16, .inl (cyJ_19, 512, .inl (fun _ => 0))), (b3_17, .inl (cyT_20, 400, .inl (fun _ => 0))), (a7_13, .inr (4, [.ref d1_21, .ref d2_22, .ref d3_23, .ref d4_24, .int 0, .int 12])), (d4_24, .inl (cyO_25, 20, .inr (.inr (.inr (.inr (fS_26)))))), (r0_28, .inl (cyI_27, 20, .inl (fun _ => 0))), (o_30, .inr (18, [.int 0, .ref l1_36, .ref l2_37, .ref l3_38, .ref l4_39, .ref l5_40, .ref l6_41, .int 0, .int 3, .int 12, .ref m1_42, .ref m2_43, .ref m3_44, .ref m4_45, .ref m5_46, .ref m6_47])), (l1_36, .inr (3, [.int 0, .ref z, .int 0])), (l2_37, .inr (3, [.int 0, .ref z, .int 0])), (l3_38, .inr (3, [.int 0, .ref z, .int 0])), (l4_39, .inr (3, [.int 0, .ref z, .int 0])), (l5_40, .inr (3, [.int 0, .ref z, .int 0])), (l6_41, .inr (3, [.int 0, .ref z, .int 0]))]) H_32 := hP
  have hD : va_D A ([(o_1, .inr (12, [.ref a1_7, .ref a2_8, .ref a3_9, .ref a4_10, .ref a5_11, .ref a6_12, .ref a7_13, .ref a8_14, .int 3, .int 0])), (a1_7, .inr (3, [.int 0, .ref z, .int 0])), (a2_8, .inr (3, [.int 0, .ref z, .int 0])), (a3_9, .inr (3, [.int 0, .ref z, .int 0])), (a4_10, .inr (3, [.int 0, .ref z, .int 0])), (a5_11, .inr (3, [.int 0, .ref z, .int 0])), (a6_12, .inr (10, [.ref b1_15, .ref b2_16, .ref b3_17, .int 0])), (b1_15, .inl (cyA_18, 400, .inl (nI))), (b2_16, .inl (cyJ_19, 512, .inl (fun _ => 0))), (b3_17, .inl (cyT_20, 400, .inl (fun _ => 0))), (a7_13, .inr (4, [.ref d1_21, .ref d2_22, .ref d3_23, .ref d4_24, .int 0, .int 12])), (d4_24, .inl (cyO_25, 20, .inr (.inr (.inr (.inr (fS_26)))))), (r0_28, .inl (cyI_27, 20, .inl (fun _ => 0))), (o_30, .inr (18, [.int 0, .ref l1_36, .ref l2_37, .ref l3_38, .ref l4_39, .ref l5_40, .ref l6_41, .int 0, .int 3, .int 12, .ref m1_42, .ref m2_43, .ref m3_44, .ref m4_45, .ref m5_46, .ref m6_47])), (l1_36, .inr (3, [.int 0, .ref z, .int 0])), (l2_37, .inr (3, [.int 0, .ref z, .int 0])), (l3_38, .inr (3, [.int 0, .ref z, .int 0])), (l4_39, .inr (3, [.int 0, .ref z, .int 0])), (l5_40, .inr (3, [.int 0, .ref z, .int 0])), (l6_41, .inr (3, [.int 0, .ref z, .int 0]))]) := hD
  have hK : va_K G vwCl [(cyA_18, .int), (cyJ_19, .int), (cyT_20, .int), (cyO_25, .array .int), (cyI_27, .int)] s := hK
  refine W.widen (k := 133) (n := 2989) (Nat.le_of_ble_eq_true rfl) (Nat.le_of_ble_eq_true rfl) ?_
  refine lv_astore_n (lv' := [(2, .ref o_30), (1, .ref o_1), (0, .ref b)]) hx hb dL_law_15 rfl hl (by decide) rfl (fun ls hl => ?_)
  refine lv_iconst (v := 1) hx hb dL_law_16 (by decide) ?_
  refine va_newa (atype := .long) (ty := .long) (a0 := (1, .inr (.inl (fun _ => 0)))) (N' := 1) hx hb (hg _ q1740) rfl hK hP hD hS hA (fun _ => rfl) (by decide) (by decide +kernel) (Nat.le_of_ble_eq_true rfl) (Nat.le_of_ble_eq_true rfl) (Nat.le_of_ble_eq_true rfl) dL_law_17 (fun o_49 cy_48 H_50 hK hP hD hS => ?_)
  have hP : va_P G vwCl ([(o_1, .inr (12, [.ref a1_7, .ref a2_8, .ref a3_9, .ref a4_10, .ref a5_11, .ref a6_12, .ref a7_13, .ref a8_14, .int 3, .int 0])), (a1_7, .inr (3, [.int 0, .ref z, .int 0])), (a2_8, .inr (3, [.int 0, .ref z, .int 0])), (a3_9, .inr (3, [.int 0, .ref z, .int 0])), (a4_10, .inr (3, [.int 0, .ref z, .int 0])), (a5_11, .inr (3, [.int 0, .ref z, .int 0])), (a6_12, .inr (10, [.ref b1_15, .ref b2_16, .ref b3_17, .int 0])), (b1_15, .inl (cyA_18, 400, .inl (nI))), (b2_16, .inl (cyJ_19, 512, .inl (fun _ => 0))), (b3_17, .inl (cyT_20, 400, .inl (fun _ => 0))), (a7_13, .inr (4, [.ref d1_21, .ref d2_22, .ref d3_23, .ref d4_24, .int 0, .int 12])), (d4_24, .inl (cyO_25, 20, .inr (.inr (.inr (.inr (fS_26)))))), (r0_28, .inl (cyI_27, 20, .inl (fun _ => 0))), (o_30, .inr (18, [.int 0, .ref l1_36, .ref l2_37, .ref l3_38, .ref l4_39, .ref l5_40, .ref l6_41, .int 0, .int 3, .int 12, .ref m1_42, .ref m2_43, .ref m3_44, .ref m4_45, .ref m5_46, .ref m6_47])), (l1_36, .inr (3, [.int 0, .ref z, .int 0])), (l2_37, .inr (3, [.int 0, .ref z, .int 0])), (l3_38, .inr (3, [.int 0, .ref z, .int 0])), (l4_39, .inr (3, [.int 0, .ref z, .int 0])), (l5_40, .inr (3, [.int 0, .ref z, .int 0])), (l6_41, .inr (3, [.int 0, .ref z, .int 0])), (o_49, .inl (cy_48, 1, .inr (.inl (fun _ => 0))))]) H_50 := hP
  have hD : va_D A ([(o_1, .inr (12, [.ref a1_7, .ref a2_8, .ref a3_9, .ref a4_10, .ref a5_11, .ref a6_12, .ref a7_13, .ref a8_14, .int 3, .int 0])), (a1_7, .inr (3, [.int 0, .ref z, .int 0])), (a2_8, .inr (3, [.int 0, .ref z, .int 0])), (a3_9, .inr (3, [.int 0, .ref z, .int 0])), (a4_10, .inr (3, [.int 0, .ref z, .int 0])), (a5_11, .inr (3, [.int 0, .ref z, .int 0])), (a6_12, .inr (10, [.ref b1_15, .ref b2_16, .ref b3_17, .int 0])), (b1_15, .inl (cyA_18, 400, .inl (nI))), (b2_16, .inl (cyJ_19, 512, .inl (fun _ => 0))), (b3_17, .inl (cyT_20, 400, .inl (fun _ => 0))), (a7_13, .inr (4, [.ref d1_21, .ref d2_22, .ref d3_23, .ref d4_24, .int 0, .int 12])), (d4_24, .inl (cyO_25, 20, .inr (.inr (.inr (.inr (fS_26)))))), (r0_28, .inl (cyI_27, 20, .inl (fun _ => 0))), (o_30, .inr (18, [.int 0, .ref l1_36, .ref l2_37, .ref l3_38, .ref l4_39, .ref l5_40, .ref l6_41, .int 0, .int 3, .int 12, .ref m1_42, .ref m2_43, .ref m3_44, .ref m4_45, .ref m5_46, .ref m6_47])), (l1_36, .inr (3, [.int 0, .ref z, .int 0])), (l2_37, .inr (3, [.int 0, .ref z, .int 0])), (l3_38, .inr (3, [.int 0, .ref z, .int 0])), (l4_39, .inr (3, [.int 0, .ref z, .int 0])), (l5_40, .inr (3, [.int 0, .ref z, .int 0])), (l6_41, .inr (3, [.int 0, .ref z, .int 0])), (o_49, .inl (cy_48, 1, .inr (.inl (fun _ => 0))))]) := hD
  have hK : va_K G vwCl [(cyA_18, .int), (cyJ_19, .int), (cyT_20, .int), (cyO_25, .array .int), (cyI_27, .int), (cy_48, .long)] s := hK
  refine W.widen (k := 134) (n := 2990) (Nat.le_of_ble_eq_true rfl) (Nat.le_of_ble_eq_true rfl) ?_
  refine lv_astore_n (lv' := [(3, .ref o_49), (2, .ref o_30), (1, .ref o_1), (0, .ref b)]) hx hb dL_law_19 rfl hl (by decide) rfl (fun ls hl => ?_)
  refine lv_iconst (v := 1) hx hb dL_law_20 (by decide) ?_
  refine va_newa (atype := .double) (ty := .double) (a0 := (1, .inr (.inr (.inr (.inl (fun _ => 0)))))) (N' := 1) hx hb (hg _ q1741) rfl hK hP hD hS hA (fun _ => rfl) (by decide) (by decide +kernel) (Nat.le_of_ble_eq_true rfl) (Nat.le_of_ble_eq_true rfl) (Nat.le_of_ble_eq_true rfl) dL_law_21 (fun o_52 cy_51 H_53 hK hP hD hS => ?_)
  have hP : va_P G vwCl ([(o_1, .inr (12, [.ref a1_7, .ref a2_8, .ref a3_9, .ref a4_10, .ref a5_11, .ref a6_12, .ref a7_13, .ref a8_14, .int 3, .int 0])), (a1_7, .inr (3, [.int 0, .ref z, .int 0])), (a2_8, .inr (3, [.int 0, .ref z, .int 0])), (a3_9, .inr (3, [.int 0, .ref z, .int 0])), (a4_10, .inr (3, [.int 0, .ref z, .int 0])), (a5_11, .inr (3, [.int 0, .ref z, .int 0])), (a6_12, .inr (10, [.ref b1_15, .ref b2_16, .ref b3_17, .int 0])), (b1_15, .inl (cyA_18, 400, .inl (nI))), (b2_16, .inl (cyJ_19, 512, .inl (fun _ => 0))), (b3_17, .inl (cyT_20, 400, .inl (fun _ => 0))), (a7_13, .inr (4, [.ref d1_21, .ref d2_22, .ref d3_23, .ref d4_24, .int 0, .int 12])), (d4_24, .inl (cyO_25, 20, .inr (.inr (.inr (.inr (fS_26)))))), (r0_28, .inl (cyI_27, 20, .inl (fun _ => 0))), (o_30, .inr (18, [.int 0, .ref l1_36, .ref l2_37, .ref l3_38, .ref l4_39, .ref l5_40, .ref l6_41, .int 0, .int 3, .int 12, .ref m1_42, .ref m2_43, .ref m3_44, .ref m4_45, .ref m5_46, .ref m6_47])), (l1_36, .inr (3, [.int 0, .ref z, .int 0])), (l2_37, .inr (3, [.int 0, .ref z, .int 0])), (l3_38, .inr (3, [.int 0, .ref z, .int 0])), (l4_39, .inr (3, [.int 0, .ref z, .int 0])), (l5_40, .inr (3, [.int 0, .ref z, .int 0])), (l6_41, .inr (3, [.int 0, .ref z, .int 0])), (o_49, .inl (cy_48, 1, .inr (.inl (fun _ => 0)))), (o_52, .inl (cy_51, 1, .inr (.inr (.inr (.inl (fun _ => 0))))))]) H_53 := hP
  have hD : va_D A ([(o_1, .inr (12, [.ref a1_7, .ref a2_8, .ref a3_9, .ref a4_10, .ref a5_11, .ref a6_12, .ref a7_13, .ref a8_14, .int 3, .int 0])), (a1_7, .inr (3, [.int 0, .ref z, .int 0])), (a2_8, .inr (3, [.int 0, .ref z, .int 0])), (a3_9, .inr (3, [.int 0, .ref z, .int 0])), (a4_10, .inr (3, [.int 0, .ref z, .int 0])), (a5_11, .inr (3, [.int 0, .ref z, .int 0])), (a6_12, .inr (10, [.ref b1_15, .ref b2_16, .ref b3_17, .int 0])), (b1_15, .inl (cyA_18, 400, .inl (nI))), (b2_16, .inl (cyJ_19, 512, .inl (fun _ => 0))), (b3_17, .inl (cyT_20, 400, .inl (fun _ => 0))), (a7_13, .inr (4, [.ref d1_21, .ref d2_22, .ref d3_23, .ref d4_24, .int 0, .int 12])), (d4_24, .inl (cyO_25, 20, .inr (.inr (.inr (.inr (fS_26)))))), (r0_28, .inl (cyI_27, 20, .inl (fun _ => 0))), (o_30, .inr (18, [.int 0, .ref l1_36, .ref l2_37, .ref l3_38, .ref l4_39, .ref l5_40, .ref l6_41, .int 0, .int 3, .int 12, .ref m1_42, .ref m2_43, .ref m3_44, .ref m4_45, .ref m5_46, .ref m6_47])), (l1_36, .inr (3, [.int 0, .ref z, .int 0])), (l2_37, .inr (3, [.int 0, .ref z, .int 0])), (l3_38, .inr (3, [.int 0, .ref z, .int 0])), (l4_39, .inr (3, [.int 0, .ref z, .int 0])), (l5_40, .inr (3, [.int 0, .ref z, .int 0])), (l6_41, .inr (3, [.int 0, .ref z, .int 0])), (o_49, .inl (cy_48, 1, .inr (.inl (fun _ => 0)))), (o_52, .inl (cy_51, 1, .inr (.inr (.inr (.inl (fun _ => 0))))))]) := hD
  have hK : va_K G vwCl [(cyA_18, .int), (cyJ_19, .int), (cyT_20, .int), (cyO_25, .array .int), (cyI_27, .int), (cy_48, .long), (cy_51, .double)] s := hK
  refine W.widen (k := 135) (n := 2991) (Nat.le_of_ble_eq_true rfl) (Nat.le_of_ble_eq_true rfl) ?_
  refine lv_astore (lv' := [(4, .ref o_52), (3, .ref o_49), (2, .ref o_30), (1, .ref o_1), (0, .ref b)]) hx hb dL_law_23 hl (by decide) rfl (fun ls hl => ?_)
  refine lv_iconst (v := 0) hx hb dL_law_25 (by decide) ?_
  refine lv_istore (lv' := [(5, .int 0), (4, .ref o_52), (3, .ref o_49), (2, .ref o_30), (1, .ref o_1), (0, .ref b)]) hx hb dL_law_26 hl (by decide) rfl (fun ls hl => ?_)
  rcases Nat.lt_or_ge L 7 with hlt | hge
  · rcases (show L = 0 ∨ L = 1 ∨ L = 2 ∨ L = 3 ∨ L = 4 ∨ L = 5 ∨ L = 6 by omega) with rfl | rfl | rfl | rfl | rfl | rfl | rfl
    · refine lv_iload hx hb dL_law_28 (lv_at hl 0 rfl) ?_
      refine lv_aload_n hx hb dL_law_30 rfl (lv_at hl 5 rfl) ?_
      refine va_slen hx hb hX hbl hbA hS dL_law_31 ?_
      refine lv_topi (fun f_54 ef_54 => ?_)
      obtain rfl : f_54 = 0 := ef_54
      refine lv_bipush (v := 7) hx hb dL_law_32 (by decide) ?_
      refine lv_isub hx hb dL_law_34 ?_
      refine lv_topi (fun f_55 ef_55 => ?_)
      obtain rfl : f_55 = -7 := ef_55.trans (by decide)
      refine lv_icmp_gt (tgt := 3294) hx hb dL_law_35 (by decide) (fun c_56 => ?_) (fun c_56 => absurd (by decide) c_56)
      refine lv_iconst (v := 1) hx hb dL_law_3294 (by decide) ?_
      refine va_forget (fun q hq => hA2 _ (hS.2.2 q hq)) ?_
      refine W.widen (k := 600006) (n := 7302008) (Nat.le_of_ble_eq_true rfl) (Nat.le_of_ble_eq_true rfl) ?_
      refine W.base ?_
      exact lw_ret (Drawn.sameBut.refl s.drawn lw_cs) hx hb hr hlocks dL_law_3295
    · refine lv_iload hx hb dL_law_28 (lv_at hl 0 rfl) ?_
      refine lv_aload_n hx hb dL_law_30 rfl (lv_at hl 5 rfl) ?_
      refine va_slen hx hb hX hbl hbA hS dL_law_31 ?_
      refine lv_topi (fun f_57 ef_57 => ?_)
      obtain rfl : f_57 = 1 := ef_57
      refine lv_bipush (v := 7) hx hb dL_law_32 (by decide) ?_
      refine lv_isub hx hb dL_law_34 ?_
      refine lv_topi (fun f_58 ef_58 => ?_)
      obtain rfl : f_58 = -6 := ef_58.trans (by decide)
      refine lv_icmp_gt (tgt := 3294) hx hb dL_law_35 (by decide) (fun c_59 => ?_) (fun c_59 => absurd (by decide) c_59)
      refine lv_iconst (v := 1) hx hb dL_law_3294 (by decide) ?_
      refine va_forget (fun q hq => hA2 _ (hS.2.2 q hq)) ?_
      refine W.widen (k := 600006) (n := 7302008) (Nat.le_of_ble_eq_true rfl) (Nat.le_of_ble_eq_true rfl) ?_
      refine W.base ?_
      exact lw_ret (Drawn.sameBut.refl s.drawn lw_cs) hx hb hr hlocks dL_law_3295
    · refine lv_iload hx hb dL_law_28 (lv_at hl 0 rfl) ?_
      refine lv_aload_n hx hb dL_law_30 rfl (lv_at hl 5 rfl) ?_
      refine va_slen hx hb hX hbl hbA hS dL_law_31 ?_
      refine lv_topi (fun f_60 ef_60 => ?_)
      obtain rfl : f_60 = 2 := ef_60
      refine lv_bipush (v := 7) hx hb dL_law_32 (by decide) ?_
      refine lv_isub hx hb dL_law_34 ?_
      refine lv_topi (fun f_61 ef_61 => ?_)
      obtain rfl : f_61 = -5 := ef_61.trans (by decide)
      refine lv_icmp_gt (tgt := 3294) hx hb dL_law_35 (by decide) (fun c_62 => ?_) (fun c_62 => absurd (by decide) c_62)
      refine lv_iconst (v := 1) hx hb dL_law_3294 (by decide) ?_
      refine va_forget (fun q hq => hA2 _ (hS.2.2 q hq)) ?_
      refine W.widen (k := 600006) (n := 7302008) (Nat.le_of_ble_eq_true rfl) (Nat.le_of_ble_eq_true rfl) ?_
      refine W.base ?_
      exact lw_ret (Drawn.sameBut.refl s.drawn lw_cs) hx hb hr hlocks dL_law_3295
    · refine lv_iload hx hb dL_law_28 (lv_at hl 0 rfl) ?_
      refine lv_aload_n hx hb dL_law_30 rfl (lv_at hl 5 rfl) ?_
      refine va_slen hx hb hX hbl hbA hS dL_law_31 ?_
      refine lv_topi (fun f_63 ef_63 => ?_)
      obtain rfl : f_63 = 3 := ef_63
      refine lv_bipush (v := 7) hx hb dL_law_32 (by decide) ?_
      refine lv_isub hx hb dL_law_34 ?_
      refine lv_topi (fun f_64 ef_64 => ?_)
      obtain rfl : f_64 = -4 := ef_64.trans (by decide)
      refine lv_icmp_gt (tgt := 3294) hx hb dL_law_35 (by decide) (fun c_65 => ?_) (fun c_65 => absurd (by decide) c_65)
      refine lv_iconst (v := 1) hx hb dL_law_3294 (by decide) ?_
      refine va_forget (fun q hq => hA2 _ (hS.2.2 q hq)) ?_
      refine W.widen (k := 600006) (n := 7302008) (Nat.le_of_ble_eq_true rfl) (Nat.le_of_ble_eq_true rfl) ?_
      refine W.base ?_
      exact lw_ret (Drawn.sameBut.refl s.drawn lw_cs) hx hb hr hlocks dL_law_3295
    · refine lv_iload hx hb dL_law_28 (lv_at hl 0 rfl) ?_
      refine lv_aload_n hx hb dL_law_30 rfl (lv_at hl 5 rfl) ?_
      refine va_slen hx hb hX hbl hbA hS dL_law_31 ?_
      refine lv_topi (fun f_66 ef_66 => ?_)
      obtain rfl : f_66 = 4 := ef_66
      refine lv_bipush (v := 7) hx hb dL_law_32 (by decide) ?_
      refine lv_isub hx hb dL_law_34 ?_
      refine lv_topi (fun f_67 ef_67 => ?_)
      obtain rfl : f_67 = -3 := ef_67.trans (by decide)
      refine lv_icmp_gt (tgt := 3294) hx hb dL_law_35 (by decide) (fun c_68 => ?_) (fun c_68 => absurd (by decide) c_68)
      refine lv_iconst (v := 1) hx hb dL_law_3294 (by decide) ?_
      refine va_forget (fun q hq => hA2 _ (hS.2.2 q hq)) ?_
      refine W.widen (k := 600006) (n := 7302008) (Nat.le_of_ble_eq_true rfl) (Nat.le_of_ble_eq_true rfl) ?_
      refine W.base ?_
      exact lw_ret (Drawn.sameBut.refl s.drawn lw_cs) hx hb hr hlocks dL_law_3295
    · refine lv_iload hx hb dL_law_28 (lv_at hl 0 rfl) ?_
      refine lv_aload_n hx hb dL_law_30 rfl (lv_at hl 5 rfl) ?_
      refine va_slen hx hb hX hbl hbA hS dL_law_31 ?_
      refine lv_topi (fun f_69 ef_69 => ?_)
      obtain rfl : f_69 = 5 := ef_69
      refine lv_bipush (v := 7) hx hb dL_law_32 (by decide) ?_
      refine lv_isub hx hb dL_law_34 ?_
      refine lv_topi (fun f_70 ef_70 => ?_)
      obtain rfl : f_70 = -2 := ef_70.trans (by decide)
      refine lv_icmp_gt (tgt := 3294) hx hb dL_law_35 (by decide) (fun c_71 => ?_) (fun c_71 => absurd (by decide) c_71)
      refine lv_iconst (v := 1) hx hb dL_law_3294 (by decide) ?_
      refine va_forget (fun q hq => hA2 _ (hS.2.2 q hq)) ?_
      refine W.widen (k := 600006) (n := 7302008) (Nat.le_of_ble_eq_true rfl) (Nat.le_of_ble_eq_true rfl) ?_
      refine W.base ?_
      exact lw_ret (Drawn.sameBut.refl s.drawn lw_cs) hx hb hr hlocks dL_law_3295
    · refine lv_iload hx hb dL_law_28 (lv_at hl 0 rfl) ?_
      refine lv_aload_n hx hb dL_law_30 rfl (lv_at hl 5 rfl) ?_
      refine va_slen hx hb hX hbl hbA hS dL_law_31 ?_
      refine lv_topi (fun f_72 ef_72 => ?_)
      obtain rfl : f_72 = 6 := ef_72
      refine lv_bipush (v := 7) hx hb dL_law_32 (by decide) ?_
      refine lv_isub hx hb dL_law_34 ?_
      refine lv_topi (fun f_73 ef_73 => ?_)
      obtain rfl : f_73 = -1 := ef_73.trans (by decide)
      refine lv_icmp_gt (tgt := 3294) hx hb dL_law_35 (by decide) (fun c_74 => ?_) (fun c_74 => absurd (by decide) c_74)
      refine lv_iconst (v := 1) hx hb dL_law_3294 (by decide) ?_
      refine va_forget (fun q hq => hA2 _ (hS.2.2 q hq)) ?_
      refine W.widen (k := 600006) (n := 7302008) (Nat.le_of_ble_eq_true rfl) (Nat.le_of_ble_eq_true rfl) ?_
      refine W.base ?_
      exact lw_ret (Drawn.sameBut.refl s.drawn lw_cs) hx hb hr hlocks dL_law_3295
  · obtain rfl : L = 7 := by omega
    refine lv_iload hx hb dL_law_28 (lv_at hl 0 rfl) ?_
    refine lv_aload_n hx hb dL_law_30 rfl (lv_at hl 5 rfl) ?_
    refine va_slen hx hb hX hbl hbA hS dL_law_31 ?_
    refine lv_topi (fun f_75 ef_75 => ?_)
    obtain rfl : f_75 = 7 := ef_75.trans (by decide)
    refine lv_bipush (v := 7) hx hb dL_law_32 (by decide) ?_
    refine lv_isub hx hb dL_law_34 ?_
    refine lv_topi (fun f_76 ef_76 => ?_)
    obtain rfl : f_76 = 0 := ef_76.trans (by decide)
    refine lv_icmp_gt (tgt := 3294) hx hb dL_law_35 (by decide) (fun c_77 => absurd c_77 (by decide)) (fun c_77 => ?_)
    refine lv_aload_n hx hb dL_law_38 rfl (lv_at hl 5 rfl) ?_
    refine lv_iload hx hb dL_law_39 (lv_at hl 0 rfl) ?_
    refine va_sld hx hb hX hbl hbA hS (by unfold vp_in; decide +kernel) dL_law_41 ?_
    refine lv_topi (fun f_78 ef_78 => ?_)
    obtain rfl : f_78 = xs 0 := ef_78
    refine lv_bipush (v := 63) hx hb dL_law_42 (by decide) ?_
    refine lv_iand hx hb dL_law_44 ?_
    refine lv_topi (fun f_79 ef_79 => ?_)
    rcases z_sw f_79 with ⟨k, hk, rfl⟩ | hout
    · rcases (show k = 0 ∨ k = 1 ∨ k = 2 ∨ k = 3 ∨ k = 4 ∨ k = 5 ∨ k = 6 ∨ k = 7 ∨ k = 8 ∨ k = 9 ∨ k = 10 ∨ k = 11 ∨ k = 12 ∨ k = 13 ∨ k = 14 ∨ k = 15 ∨ k = 16 ∨ k = 17 ∨ k = 18 ∨ k = 19 ∨ k = 20 ∨ k = 21 ∨ k = 22 ∨ k = 23 ∨ k = 24 ∨ k = 25 ∨ k = 26 ∨ k = 27 ∨ k = 28 ∨ k = 29 ∨ k = 30 ∨ k = 31 ∨ k = 32 ∨ k = 33 ∨ k = 34 ∨ k = 35 ∨ k = 36 ∨ k = 37 ∨ k = 38 ∨ k = 39 ∨ k = 40 ∨ k = 41 ∨ k = 42 ∨ k = 43 ∨ k = 44 by omega) with rfl | rfl | rfl | rfl | rfl | rfl | rfl | rfl | rfl | rfl | rfl | rfl | rfl | rfl | rfl | rfl | rfl | rfl | rfl | rfl | rfl | rfl | rfl | rfl | rfl | rfl | rfl | rfl | rfl | rfl | rfl | rfl | rfl | rfl | rfl | rfl | rfl | rfl | rfl | rfl | rfl | rfl | rfl | rfl | rfl
      · refine lv_tableIn (off := 195) (tgt := 240) hx hb dL_law_45 (by decide +kernel) (by decide +kernel) (by decide +kernel) (by decide) ?_
        exact law_case_0 hfl C9 hA hA2 G z hG o_1 o_30 o_49 o_52 cy_48 cy_51 a1_7 a2_8 a3_9 a4_10 a5_11 a6_12 a7_13 a8_14 b1_15 b2_16 b3_17 cyA_18 cyJ_19 cyT_20 d1_21 d2_22 d3_23 d4_24 cyO_25 fS_26 cyI_27 r0_28 l1_36 l2_37 l3_38 l4_39 l5_40 l6_41 m1_42 m2_43 m3_44 m4_45 m5_46 m6_47 hf_29 hP hD hK hS (lv_sub hl [5, 4, 3, 2, 1, 0] rfl)
      · refine lv_tableIn (off := 313) (tgt := 358) hx hb dL_law_45 (by decide +kernel) (by decide +kernel) (by decide +kernel) (by decide) ?_
        exact law_case_1 hfl C9 hA hA2 G z hG o_1 o_30 o_49 o_52 cy_48 cy_51 a1_7 a2_8 a3_9 a4_10 a5_11 a6_12 a7_13 a8_14 b1_15 b2_16 b3_17 cyA_18 cyJ_19 cyT_20 d1_21 d2_22 d3_23 d4_24 cyO_25 fS_26 cyI_27 r0_28 l1_36 l2_37 l3_38 l4_39 l5_40 l6_41 m1_42 m2_43 m3_44 m4_45 m5_46 m6_47 hf_29 hP hD hK hS (lv_sub hl [5, 4, 3, 2, 1, 0] rfl)
      · refine lv_tableIn (off := 381) (tgt := 426) hx hb dL_law_45 (by decide +kernel) (by decide +kernel) (by decide +kernel) (by decide) ?_
        exact law_case_2 hfl C9 hA hA2 G z hG o_1 o_30 o_49 o_52 cy_48 cy_51 a1_7 a2_8 a3_9 a4_10 a5_11 a6_12 a7_13 a8_14 b1_15 b2_16 b3_17 cyA_18 cyJ_19 cyT_20 d1_21 d2_22 d3_23 d4_24 cyO_25 fS_26 cyI_27 r0_28 l1_36 l2_37 l3_38 l4_39 l5_40 l6_41 m1_42 m2_43 m3_44 m4_45 m5_46 m6_47 hf_29 hP hD hK hS (lv_sub hl [5, 4, 3, 2, 1, 0] rfl)
      · refine lv_tableIn (off := 456) (tgt := 501) hx hb dL_law_45 (by decide +kernel) (by decide +kernel) (by decide +kernel) (by decide) ?_
        exact law_case_3 hfl C9 hA hA2 G z hG o_1 o_30 o_49 o_52 cy_48 cy_51 a1_7 a2_8 a3_9 a4_10 a5_11 a6_12 a7_13 a8_14 b1_15 b2_16 b3_17 cyA_18 cyJ_19 cyT_20 d1_21 d2_22 d3_23 d4_24 cyO_25 fS_26 cyI_27 r0_28 l1_36 l2_37 l3_38 l4_39 l5_40 l6_41 m1_42 m2_43 m3_44 m4_45 m5_46 m6_47 hf_29 hP hD hK hS (lv_sub hl [5, 4, 3, 2, 1, 0] rfl)
      · refine lv_tableIn (off := 564) (tgt := 609) hx hb dL_law_45 (by decide +kernel) (by decide +kernel) (by decide +kernel) (by decide) ?_
        exact law_case_4 hfl C9 hA hA2 G z hG o_1 o_30 o_49 o_52 cy_48 cy_51 a1_7 a2_8 a3_9 a4_10 a5_11 a6_12 a7_13 a8_14 b1_15 b2_16 b3_17 cyA_18 cyJ_19 cyT_20 d1_21 d2_22 d3_23 d4_24 cyO_25 fS_26 cyI_27 r0_28 l1_36 l2_37 l3_38 l4_39 l5_40 l6_41 m1_42 m2_43 m3_44 m4_45 m5_46 m6_47 hf_29 hP hD hK hS (lv_sub hl [5, 4, 3, 2, 1, 0] rfl)
      · refine lv_tableIn (off := 632) (tgt := 677) hx hb dL_law_45 (by decide +kernel) (by decide +kernel) (by decide +kernel) (by decide) ?_
        exact law_case_5 hfl C9 hA hA2 G z hG o_1 o_30 o_49 o_52 cy_48 cy_51 a1_7 a2_8 a3_9 a4_10 a5_11 a6_12 a7_13 a8_14 b1_15 b2_16 b3_17 cyA_18 cyJ_19 cyT_20 d1_21 d2_22 d3_23 d4_24 cyO_25 fS_26 cyI_27 r0_28 l1_36 l2_37 l3_38 l4_39 l5_40 l6_41 m1_42 m2_43 m3_44 m4_45 m5_46 m6_47 hf_29 hP hD hK hS (lv_sub hl [5, 4, 3, 2, 1, 0] rfl)
      · refine lv_tableIn (off := 712) (tgt := 757) hx hb dL_law_45 (by decide +kernel) (by decide +kernel) (by decide +kernel) (by decide) ?_
        exact law_case_6 hfl C9 hA hA2 G z hG o_1 o_30 o_49 o_52 cy_48 cy_51 a1_7 a2_8 a3_9 a4_10 a5_11 a6_12 a7_13 a8_14 b1_15 b2_16 b3_17 cyA_18 cyJ_19 cyT_20 d1_21 d2_22 d3_23 d4_24 cyO_25 fS_26 cyI_27 r0_28 l1_36 l2_37 l3_38 l4_39 l5_40 l6_41 m1_42 m2_43 m3_44 m4_45 m5_46 m6_47 hf_29 hP hD hK hS (lv_sub hl [5, 4, 3, 2, 1, 0] rfl)
      · refine lv_tableIn (off := 780) (tgt := 825) hx hb dL_law_45 (by decide +kernel) (by decide +kernel) (by decide +kernel) (by decide) ?_
        exact law_case_7 hfl C9 hA hA2 G z hG o_1 o_30 o_49 o_52 cy_48 cy_51 a1_7 a2_8 a3_9 a4_10 a5_11 a6_12 a7_13 a8_14 b1_15 b2_16 b3_17 cyA_18 cyJ_19 cyT_20 d1_21 d2_22 d3_23 d4_24 cyO_25 fS_26 cyI_27 r0_28 l1_36 l2_37 l3_38 l4_39 l5_40 l6_41 m1_42 m2_43 m3_44 m4_45 m5_46 m6_47 hf_29 hP hD hK hS (lv_sub hl [5, 4, 3, 2, 1, 0] rfl)
      · refine lv_tableIn (off := 848) (tgt := 893) hx hb dL_law_45 (by decide +kernel) (by decide +kernel) (by decide +kernel) (by decide) ?_
        exact law_case_8 hfl C9 hA hA2 G z hG o_1 o_30 o_49 o_52 cy_48 cy_51 a1_7 a2_8 a3_9 a4_10 a5_11 a6_12 a7_13 a8_14 b1_15 b2_16 b3_17 cyA_18 cyJ_19 cyT_20 d1_21 d2_22 d3_23 d4_24 cyO_25 fS_26 cyI_27 r0_28 l1_36 l2_37 l3_38 l4_39 l5_40 l6_41 m1_42 m2_43 m3_44 m4_45 m5_46 m6_47 hf_29 hP hD hK hS (lv_sub hl [5, 4, 3, 2, 1, 0] rfl)
      · refine lv_tableIn (off := 928) (tgt := 973) hx hb dL_law_45 (by decide +kernel) (by decide +kernel) (by decide +kernel) (by decide) ?_
        exact law_case_9 hfl C9 hA hA2 G z hG o_1 o_30 o_49 o_52 cy_48 cy_51 a1_7 a2_8 a3_9 a4_10 a5_11 a6_12 a7_13 a8_14 b1_15 b2_16 b3_17 cyA_18 cyJ_19 cyT_20 d1_21 d2_22 d3_23 d4_24 cyO_25 fS_26 cyI_27 r0_28 l1_36 l2_37 l3_38 l4_39 l5_40 l6_41 m1_42 m2_43 m3_44 m4_45 m5_46 m6_47 hf_29 hP hD hK hS (lv_sub hl [5, 4, 3, 2, 1, 0] rfl)
      · refine lv_tableIn (off := 1036) (tgt := 1081) hx hb dL_law_45 (by decide +kernel) (by decide +kernel) (by decide +kernel) (by decide) ?_
        exact law_case_10 hfl C9 hA hA2 G z hG o_1 o_30 o_49 o_52 cy_48 cy_51 a1_7 a2_8 a3_9 a4_10 a5_11 a6_12 a7_13 a8_14 b1_15 b2_16 b3_17 cyA_18 cyJ_19 cyT_20 d1_21 d2_22 d3_23 d4_24 cyO_25 fS_26 cyI_27 r0_28 l1_36 l2_37 l3_38 l4_39 l5_40 l6_41 m1_42 m2_43 m3_44 m4_45 m5_46 m6_47 hf_29 hP hD hK hS (lv_sub hl [5, 4, 3, 2, 1, 0] rfl)
      · refine lv_tableIn (off := 1092) (tgt := 1137) hx hb dL_law_45 (by decide +kernel) (by decide +kernel) (by decide +kernel) (by decide) ?_
        exact law_case_11 hfl C9 hA hA2 G z hG o_1 o_30 o_49 o_52 cy_48 cy_51 a1_7 a2_8 a3_9 a4_10 a5_11 a6_12 a7_13 a8_14 b1_15 b2_16 b3_17 cyA_18 cyJ_19 cyT_20 d1_21 d2_22 d3_23 d4_24 cyO_25 fS_26 cyI_27 r0_28 l1_36 l2_37 l3_38 l4_39 l5_40 l6_41 m1_42 m2_43 m3_44 m4_45 m5_46 m6_47 hf_29 hP hD hK hS (lv_sub hl [5, 4, 3, 2, 1, 0] rfl)
      · refine lv_tableIn (off := 1172) (tgt := 1217) hx hb dL_law_45 (by decide +kernel) (by decide +kernel) (by decide +kernel) (by decide) ?_
        exact law_case_12 hfl C9 hA hA2 G z hG o_1 o_30 o_49 o_52 cy_48 cy_51 a1_7 a2_8 a3_9 a4_10 a5_11 a6_12 a7_13 a8_14 b1_15 b2_16 b3_17 cyA_18 cyJ_19 cyT_20 d1_21 d2_22 d3_23 d4_24 cyO_25 fS_26 cyI_27 r0_28 l1_36 l2_37 l3_38 l4_39 l5_40 l6_41 m1_42 m2_43 m3_44 m4_45 m5_46 m6_47 hf_29 hP hD hK hS (lv_sub hl [5, 4, 3, 2, 1, 0] rfl)
      · refine lv_tableIn (off := 1228) (tgt := 1273) hx hb dL_law_45 (by decide +kernel) (by decide +kernel) (by decide +kernel) (by decide) ?_
        exact law_case_13 hfl C9 hA hA2 G z hG o_1 o_30 o_49 o_52 cy_48 cy_51 a1_7 a2_8 a3_9 a4_10 a5_11 a6_12 a7_13 a8_14 b1_15 b2_16 b3_17 cyA_18 cyJ_19 cyT_20 d1_21 d2_22 d3_23 d4_24 cyO_25 fS_26 cyI_27 r0_28 l1_36 l2_37 l3_38 l4_39 l5_40 l6_41 m1_42 m2_43 m3_44 m4_45 m5_46 m6_47 hf_29 hP hD hK hS (lv_sub hl [5, 4, 3, 2, 1, 0] rfl)
      · refine lv_tableIn (off := 1296) (tgt := 1341) hx hb dL_law_45 (by decide +kernel) (by decide +kernel) (by decide +kernel) (by decide) ?_
        exact law_case_14 hfl C9 hA hA2 G z hG o_1 o_30 o_49 o_52 cy_48 cy_51 a1_7 a2_8 a3_9 a4_10 a5_11 a6_12 a7_13 a8_14 b1_15 b2_16 b3_17 cyA_18 cyJ_19 cyT_20 d1_21 d2_22 d3_23 d4_24 cyO_25 fS_26 cyI_27 r0_28 l1_36 l2_37 l3_38 l4_39 l5_40 l6_41 m1_42 m2_43 m3_44 m4_45 m5_46 m6_47 hf_29 hP hD hK hS (lv_sub hl [5, 4, 3, 2, 1, 0] rfl)
      · refine lv_tableIn (off := 1376) (tgt := 1421) hx hb dL_law_45 (by decide +kernel) (by decide +kernel) (by decide +kernel) (by decide) ?_
        exact law_case_15 hfl C9 hA hA2 G z hG o_1 o_30 o_49 o_52 cy_48 cy_51 a1_7 a2_8 a3_9 a4_10 a5_11 a6_12 a7_13 a8_14 b1_15 b2_16 b3_17 cyA_18 cyJ_19 cyT_20 d1_21 d2_22 d3_23 d4_24 cyO_25 fS_26 cyI_27 r0_28 l1_36 l2_37 l3_38 l4_39 l5_40 l6_41 m1_42 m2_43 m3_44 m4_45 m5_46 m6_47 hf_29 hP hD hK hS (lv_sub hl [5, 4, 3, 2, 1, 0] rfl)
      · refine lv_tableIn (off := 1475) (tgt := 1520) hx hb dL_law_45 (by decide +kernel) (by decide +kernel) (by decide +kernel) (by decide) ?_
        exact law_case_16 hfl C9 hA hA2 G z hG o_1 o_30 o_49 o_52 cy_48 cy_51 a1_7 a2_8 a3_9 a4_10 a5_11 a6_12 a7_13 a8_14 b1_15 b2_16 b3_17 cyA_18 cyJ_19 cyT_20 d1_21 d2_22 d3_23 d4_24 cyO_25 fS_26 cyI_27 r0_28 l1_36 l2_37 l3_38 l4_39 l5_40 l6_41 m1_42 m2_43 m3_44 m4_45 m5_46 m6_47 hf_29 hP hD hK hS (lv_sub hl [5, 4, 3, 2, 1, 0] rfl)
      · refine lv_tableIn (off := 1543) (tgt := 1588) hx hb dL_law_45 (by decide +kernel) (by decide +kernel) (by decide +kernel) (by decide) ?_
        exact law_case_17 hfl C9 hA hA2 G z hG o_1 o_30 o_49 o_52 cy_48 cy_51 a1_7 a2_8 a3_9 a4_10 a5_11 a6_12 a7_13 a8_14 b1_15 b2_16 b3_17 cyA_18 cyJ_19 cyT_20 d1_21 d2_22 d3_23 d4_24 cyO_25 fS_26 cyI_27 r0_28 l1_36 l2_37 l3_38 l4_39 l5_40 l6_41 m1_42 m2_43 m3_44 m4_45 m5_46 m6_47 hf_29 hP hD hK hS (lv_sub hl [5, 4, 3, 2, 1, 0] rfl)
      · refine lv_tableIn (off := 1623) (tgt := 1668) hx hb dL_law_45 (by decide +kernel) (by decide +kernel) (by decide +kernel) (by decide) ?_
        exact law_case_18 hfl C9 hA hA2 G z hG o_1 o_30 o_49 o_52 cy_48 cy_51 a1_7 a2_8 a3_9 a4_10 a5_11 a6_12 a7_13 a8_14 b1_15 b2_16 b3_17 cyA_18 cyJ_19 cyT_20 d1_21 d2_22 d3_23 d4_24 cyO_25 fS_26 cyI_27 r0_28 l1_36 l2_37 l3_38 l4_39 l5_40 l6_41 m1_42 m2_43 m3_44 m4_45 m5_46 m6_47 hf_29 hP hD hK hS (lv_sub hl [5, 4, 3, 2, 1, 0] rfl)
      · refine lv_tableIn (off := 1691) (tgt := 1736) hx hb dL_law_45 (by decide +kernel) (by decide +kernel) (by decide +kernel) (by decide) ?_
        exact law_case_19 hfl C9 hA hA2 G z hG o_1 o_30 o_49 o_52 cy_48 cy_51 a1_7 a2_8 a3_9 a4_10 a5_11 a6_12 a7_13 a8_14 b1_15 b2_16 b3_17 cyA_18 cyJ_19 cyT_20 d1_21 d2_22 d3_23 d4_24 cyO_25 fS_26 cyI_27 r0_28 l1_36 l2_37 l3_38 l4_39 l5_40 l6_41 m1_42 m2_43 m3_44 m4_45 m5_46 m6_47 hf_29 hP hD hK hS (lv_sub hl [5, 4, 3, 2, 1, 0] rfl)
      · refine lv_tableIn (off := 1759) (tgt := 1804) hx hb dL_law_45 (by decide +kernel) (by decide +kernel) (by decide +kernel) (by decide) ?_
        exact law_case_20 hfl C9 hA hA2 G z hG o_1 o_30 o_49 o_52 cy_48 cy_51 a1_7 a2_8 a3_9 a4_10 a5_11 a6_12 a7_13 a8_14 b1_15 b2_16 b3_17 cyA_18 cyJ_19 cyT_20 d1_21 d2_22 d3_23 d4_24 cyO_25 fS_26 cyI_27 r0_28 l1_36 l2_37 l3_38 l4_39 l5_40 l6_41 m1_42 m2_43 m3_44 m4_45 m5_46 m6_47 hf_29 hP hD hK hS (lv_sub hl [5, 4, 3, 2, 1, 0] rfl)
      · refine lv_tableIn (off := 1827) (tgt := 1872) hx hb dL_law_45 (by decide +kernel) (by decide +kernel) (by decide +kernel) (by decide) ?_
        exact law_case_21 hfl C9 hA hA2 G z hG o_1 o_30 o_49 o_52 cy_48 cy_51 a1_7 a2_8 a3_9 a4_10 a5_11 a6_12 a7_13 a8_14 b1_15 b2_16 b3_17 cyA_18 cyJ_19 cyT_20 d1_21 d2_22 d3_23 d4_24 cyO_25 fS_26 cyI_27 r0_28 l1_36 l2_37 l3_38 l4_39 l5_40 l6_41 m1_42 m2_43 m3_44 m4_45 m5_46 m6_47 hf_29 hP hD hK hS (lv_sub hl [5, 4, 3, 2, 1, 0] rfl)
      · refine lv_tableIn (off := 1890) (tgt := 1935) hx hb dL_law_45 (by decide +kernel) (by decide +kernel) (by decide +kernel) (by decide) ?_
        exact law_case_22 hfl C9 hA hA2 G z hG o_1 o_30 o_49 o_52 cy_48 cy_51 a1_7 a2_8 a3_9 a4_10 a5_11 a6_12 a7_13 a8_14 b1_15 b2_16 b3_17 cyA_18 cyJ_19 cyT_20 d1_21 d2_22 d3_23 d4_24 cyO_25 fS_26 cyI_27 r0_28 l1_36 l2_37 l3_38 l4_39 l5_40 l6_41 m1_42 m2_43 m3_44 m4_45 m5_46 m6_47 hf_29 hP hD hK hS (lv_sub hl [5, 4, 3, 2, 1, 0] rfl)
      · refine lv_tableIn (off := 1982) (tgt := 2027) hx hb dL_law_45 (by decide +kernel) (by decide +kernel) (by decide +kernel) (by decide) ?_
        exact law_case_23 hfl C9 hA hA2 G z hG o_1 o_30 o_49 o_52 cy_48 cy_51 a1_7 a2_8 a3_9 a4_10 a5_11 a6_12 a7_13 a8_14 b1_15 b2_16 b3_17 cyA_18 cyJ_19 cyT_20 d1_21 d2_22 d3_23 d4_24 cyO_25 fS_26 cyI_27 r0_28 l1_36 l2_37 l3_38 l4_39 l5_40 l6_41 m1_42 m2_43 m3_44 m4_45 m5_46 m6_47 hf_29 hP hD hK hS (lv_sub hl [5, 4, 3, 2, 1, 0] rfl)
      · refine lv_tableIn (off := 2038) (tgt := 2083) hx hb dL_law_45 (by decide +kernel) (by decide +kernel) (by decide +kernel) (by decide) ?_
        exact law_case_24 hfl C9 hA hA2 G z hG o_1 o_30 o_49 o_52 cy_48 cy_51 a1_7 a2_8 a3_9 a4_10 a5_11 a6_12 a7_13 a8_14 b1_15 b2_16 b3_17 cyA_18 cyJ_19 cyT_20 d1_21 d2_22 d3_23 d4_24 cyO_25 fS_26 cyI_27 r0_28 l1_36 l2_37 l3_38 l4_39 l5_40 l6_41 m1_42 m2_43 m3_44 m4_45 m5_46 m6_47 hf_29 hP hD hK hS (lv_sub hl [5, 4, 3, 2, 1, 0] rfl)
      · refine lv_tableIn (off := 2106) (tgt := 2151) hx hb dL_law_45 (by decide +kernel) (by decide +kernel) (by decide +kernel) (by decide) ?_
        exact law_case_25 hfl C9 hA hA2 G z hG o_1 o_30 o_49 o_52 cy_48 cy_51 a1_7 a2_8 a3_9 a4_10 a5_11 a6_12 a7_13 a8_14 b1_15 b2_16 b3_17 cyA_18 cyJ_19 cyT_20 d1_21 d2_22 d3_23 d4_24 cyO_25 fS_26 cyI_27 r0_28 l1_36 l2_37 l3_38 l4_39 l5_40 l6_41 m1_42 m2_43 m3_44 m4_45 m5_46 m6_47 hf_29 hP hD hK hS (lv_sub hl [5, 4, 3, 2, 1, 0] rfl)
      · refine lv_tableIn (off := 2174) (tgt := 2219) hx hb dL_law_45 (by decide +kernel) (by decide +kernel) (by decide +kernel) (by decide) ?_
        exact law_case_26 hfl C9 hA hA2 G z hG o_1 o_30 o_49 o_52 cy_48 cy_51 a1_7 a2_8 a3_9 a4_10 a5_11 a6_12 a7_13 a8_14 b1_15 b2_16 b3_17 cyA_18 cyJ_19 cyT_20 d1_21 d2_22 d3_23 d4_24 cyO_25 fS_26 cyI_27 r0_28 l1_36 l2_37 l3_38 l4_39 l5_40 l6_41 m1_42 m2_43 m3_44 m4_45 m5_46 m6_47 hf_29 hP hD hK hS (lv_sub hl [5, 4, 3, 2, 1, 0] rfl)
      · refine lv_tableIn (off := 2242) (tgt := 2287) hx hb dL_law_45 (by decide +kernel) (by decide +kernel) (by decide +kernel) (by decide) ?_
        exact law_case_27 hfl C9 hA hA2 G z hG o_1 o_30 o_49 o_52 cy_48 cy_51 a1_7 a2_8 a3_9 a4_10 a5_11 a6_12 a7_13 a8_14 b1_15 b2_16 b3_17 cyA_18 cyJ_19 cyT_20 d1_21 d2_22 d3_23 d4_24 cyO_25 fS_26 cyI_27 r0_28 l1_36 l2_37 l3_38 l4_39 l5_40 l6_41 m1_42 m2_43 m3_44 m4_45 m5_46 m6_47 hf_29 hP hD hK hS (lv_sub hl [5, 4, 3, 2, 1, 0] rfl)
      · refine lv_tableIn (off := 2255) (tgt := 2300) hx hb dL_law_45 (by decide +kernel) (by decide +kernel) (by decide +kernel) (by decide) ?_
        exact law_case_28 hfl C9 hA hA2 G z hG o_1 o_30 o_49 o_52 cy_48 cy_51 a1_7 a2_8 a3_9 a4_10 a5_11 a6_12 a7_13 a8_14 b1_15 b2_16 b3_17 cyA_18 cyJ_19 cyT_20 d1_21 d2_22 d3_23 d4_24 cyO_25 fS_26 cyI_27 r0_28 l1_36 l2_37 l3_38 l4_39 l5_40 l6_41 m1_42 m2_43 m3_44 m4_45 m5_46 m6_47 hf_29 hP hD hK hS (lv_sub hl [5, 4, 3, 2, 1, 0] rfl)
      · refine lv_tableIn (off := 2354) (tgt := 2399) hx hb dL_law_45 (by decide +kernel) (by decide +kernel) (by decide +kernel) (by decide) ?_
        exact law_case_29 hfl C9 hA hA2 G z hG o_1 o_30 o_49 o_52 cy_48 cy_51 a1_7 a2_8 a3_9 a4_10 a5_11 a6_12 a7_13 a8_14 b1_15 b2_16 b3_17 cyA_18 cyJ_19 cyT_20 d1_21 d2_22 d3_23 d4_24 cyO_25 fS_26 cyI_27 r0_28 l1_36 l2_37 l3_38 l4_39 l5_40 l6_41 m1_42 m2_43 m3_44 m4_45 m5_46 m6_47 hf_29 hP hD hK hS (lv_sub hl [5, 4, 3, 2, 1, 0] rfl)
      · refine lv_tableIn (off := 2398) (tgt := 2443) hx hb dL_law_45 (by decide +kernel) (by decide +kernel) (by decide +kernel) (by decide) ?_
        exact law_case_30 hfl C9 hA hA2 G z hG o_1 o_30 o_49 o_52 cy_48 cy_51 a1_7 a2_8 a3_9 a4_10 a5_11 a6_12 a7_13 a8_14 b1_15 b2_16 b3_17 cyA_18 cyJ_19 cyT_20 d1_21 d2_22 d3_23 d4_24 cyO_25 fS_26 cyI_27 r0_28 l1_36 l2_37 l3_38 l4_39 l5_40 l6_41 m1_42 m2_43 m3_44 m4_45 m5_46 m6_47 hf_29 hP hD hK hS (lv_sub hl [5, 4, 3, 2, 1, 0] rfl)
      · refine lv_tableIn (off := 2466) (tgt := 2511) hx hb dL_law_45 (by decide +kernel) (by decide +kernel) (by decide +kernel) (by decide) ?_
        exact law_case_31 hfl C9 hA hA2 G z hG o_1 o_30 o_49 o_52 cy_48 cy_51 a1_7 a2_8 a3_9 a4_10 a5_11 a6_12 a7_13 a8_14 b1_15 b2_16 b3_17 cyA_18 cyJ_19 cyT_20 d1_21 d2_22 d3_23 d4_24 cyO_25 fS_26 cyI_27 r0_28 l1_36 l2_37 l3_38 l4_39 l5_40 l6_41 m1_42 m2_43 m3_44 m4_45 m5_46 m6_47 hf_29 hP hD hK hS (lv_sub hl [5, 4, 3, 2, 1, 0] rfl)
      · refine lv_tableIn (off := 2479) (tgt := 2524) hx hb dL_law_45 (by decide +kernel) (by decide +kernel) (by decide +kernel) (by decide) ?_
        exact law_case_32 hfl C9 hA hA2 G z hG o_1 o_30 o_49 o_52 cy_48 cy_51 a1_7 a2_8 a3_9 a4_10 a5_11 a6_12 a7_13 a8_14 b1_15 b2_16 b3_17 cyA_18 cyJ_19 cyT_20 d1_21 d2_22 d3_23 d4_24 cyO_25 fS_26 cyI_27 r0_28 l1_36 l2_37 l3_38 l4_39 l5_40 l6_41 m1_42 m2_43 m3_44 m4_45 m5_46 m6_47 hf_29 hP hD hK hS (lv_sub hl [5, 4, 3, 2, 1, 0] rfl)
      · refine lv_tableIn (off := 2559) (tgt := 2604) hx hb dL_law_45 (by decide +kernel) (by decide +kernel) (by decide +kernel) (by decide) ?_
        exact law_case_33 hfl C9 hA hA2 G z hG o_1 o_30 o_49 o_52 cy_48 cy_51 a1_7 a2_8 a3_9 a4_10 a5_11 a6_12 a7_13 a8_14 b1_15 b2_16 b3_17 cyA_18 cyJ_19 cyT_20 d1_21 d2_22 d3_23 d4_24 cyO_25 fS_26 cyI_27 r0_28 l1_36 l2_37 l3_38 l4_39 l5_40 l6_41 m1_42 m2_43 m3_44 m4_45 m5_46 m6_47 hf_29 hP hD hK hS (lv_sub hl [5, 4, 3, 2, 1, 0] rfl)
      · refine lv_tableIn (off := 2639) (tgt := 2684) hx hb dL_law_45 (by decide +kernel) (by decide +kernel) (by decide +kernel) (by decide) ?_
        exact law_case_34 hfl C9 hA hA2 G z hG o_1 o_30 o_49 o_52 cy_48 cy_51 a1_7 a2_8 a3_9 a4_10 a5_11 a6_12 a7_13 a8_14 b1_15 b2_16 b3_17 cyA_18 cyJ_19 cyT_20 d1_21 d2_22 d3_23 d4_24 cyO_25 fS_26 cyI_27 r0_28 l1_36 l2_37 l3_38 l4_39 l5_40 l6_41 m1_42 m2_43 m3_44 m4_45 m5_46 m6_47 hf_29 hP hD hK hS (lv_sub hl [5, 4, 3, 2, 1, 0] rfl)
      · refine lv_tableIn (off := 2707) (tgt := 2752) hx hb dL_law_45 (by decide +kernel) (by decide +kernel) (by decide +kernel) (by decide) ?_
        exact law_case_35 hfl C9 hA hA2 G z hG o_1 o_30 o_49 o_52 cy_48 cy_51 a1_7 a2_8 a3_9 a4_10 a5_11 a6_12 a7_13 a8_14 b1_15 b2_16 b3_17 cyA_18 cyJ_19 cyT_20 d1_21 d2_22 d3_23 d4_24 cyO_25 fS_26 cyI_27 r0_28 l1_36 l2_37 l3_38 l4_39 l5_40 l6_41 m1_42 m2_43 m3_44 m4_45 m5_46 m6_47 hf_29 hP hD hK hS (lv_sub hl [5, 4, 3, 2, 1, 0] rfl)
      · refine lv_tableIn (off := 2763) (tgt := 2808) hx hb dL_law_45 (by decide +kernel) (by decide +kernel) (by decide +kernel) (by decide) ?_
        exact law_case_36 hfl C9 hA hA2 G z hG o_1 o_30 o_49 o_52 cy_48 cy_51 a1_7 a2_8 a3_9 a4_10 a5_11 a6_12 a7_13 a8_14 b1_15 b2_16 b3_17 cyA_18 cyJ_19 cyT_20 d1_21 d2_22 d3_23 d4_24 cyO_25 fS_26 cyI_27 r0_28 l1_36 l2_37 l3_38 l4_39 l5_40 l6_41 m1_42 m2_43 m3_44 m4_45 m5_46 m6_47 hf_29 hP hD hK hS (lv_sub hl [5, 4, 3, 2, 1, 0] rfl)
      · refine lv_tableIn (off := 2776) (tgt := 2821) hx hb dL_law_45 (by decide +kernel) (by decide +kernel) (by decide +kernel) (by decide) ?_
        exact law_case_37 hfl C9 hA hA2 G z hG o_1 o_30 o_49 o_52 cy_48 cy_51 a1_7 a2_8 a3_9 a4_10 a5_11 a6_12 a7_13 a8_14 b1_15 b2_16 b3_17 cyA_18 cyJ_19 cyT_20 d1_21 d2_22 d3_23 d4_24 cyO_25 fS_26 cyI_27 r0_28 l1_36 l2_37 l3_38 l4_39 l5_40 l6_41 m1_42 m2_43 m3_44 m4_45 m5_46 m6_47 hf_29 hP hD hK hS (lv_sub hl [5, 4, 3, 2, 1, 0] rfl)
      · refine lv_tableIn (off := 2860) (tgt := 2905) hx hb dL_law_45 (by decide +kernel) (by decide +kernel) (by decide +kernel) (by decide) ?_
        exact law_case_38 hfl C9 hA hA2 G z hG o_1 o_30 o_49 o_52 cy_48 cy_51 a1_7 a2_8 a3_9 a4_10 a5_11 a6_12 a7_13 a8_14 b1_15 b2_16 b3_17 cyA_18 cyJ_19 cyT_20 d1_21 d2_22 d3_23 d4_24 cyO_25 fS_26 cyI_27 r0_28 l1_36 l2_37 l3_38 l4_39 l5_40 l6_41 m1_42 m2_43 m3_44 m4_45 m5_46 m6_47 hf_29 hP hD hK hS (lv_sub hl [5, 4, 3, 2, 1, 0] rfl)
      · refine lv_tableIn (off := 2944) (tgt := 2989) hx hb dL_law_45 (by decide +kernel) (by decide +kernel) (by decide +kernel) (by decide) ?_
        exact law_case_39 hfl C9 hA hA2 G z hG o_1 o_30 o_49 o_52 cy_48 cy_51 a1_7 a2_8 a3_9 a4_10 a5_11 a6_12 a7_13 a8_14 b1_15 b2_16 b3_17 cyA_18 cyJ_19 cyT_20 d1_21 d2_22 d3_23 d4_24 cyO_25 fS_26 cyI_27 r0_28 l1_36 l2_37 l3_38 l4_39 l5_40 l6_41 m1_42 m2_43 m3_44 m4_45 m5_46 m6_47 hf_29 hP hD hK hS (lv_sub hl [5, 4, 3, 2, 1, 0] rfl)
      · refine lv_tableIn (off := 2988) (tgt := 3033) hx hb dL_law_45 (by decide +kernel) (by decide +kernel) (by decide +kernel) (by decide) ?_
        exact law_case_40 hfl C9 hA hA2 G z hG o_1 o_30 o_49 o_52 cy_48 cy_51 a1_7 a2_8 a3_9 a4_10 a5_11 a6_12 a7_13 a8_14 b1_15 b2_16 b3_17 cyA_18 cyJ_19 cyT_20 d1_21 d2_22 d3_23 d4_24 cyO_25 fS_26 cyI_27 r0_28 l1_36 l2_37 l3_38 l4_39 l5_40 l6_41 m1_42 m2_43 m3_44 m4_45 m5_46 m6_47 hf_29 hP hD hK hS (lv_sub hl [5, 4, 3, 2, 1, 0] rfl)
      · refine lv_tableIn (off := 3056) (tgt := 3101) hx hb dL_law_45 (by decide +kernel) (by decide +kernel) (by decide +kernel) (by decide) ?_
        exact law_case_41 hfl C9 hA hA2 G z hG o_1 o_30 o_49 o_52 cy_48 cy_51 a1_7 a2_8 a3_9 a4_10 a5_11 a6_12 a7_13 a8_14 b1_15 b2_16 b3_17 cyA_18 cyJ_19 cyT_20 d1_21 d2_22 d3_23 d4_24 cyO_25 fS_26 cyI_27 r0_28 l1_36 l2_37 l3_38 l4_39 l5_40 l6_41 m1_42 m2_43 m3_44 m4_45 m5_46 m6_47 hf_29 hP hD hK hS (lv_sub hl [5, 4, 3, 2, 1, 0] rfl)
      · refine lv_tableIn (off := 3099) (tgt := 3144) hx hb dL_law_45 (by decide +kernel) (by decide +kernel) (by decide +kernel) (by decide) ?_
        exact law_case_42 hfl C9 hA hA2 G z hG o_1 o_30 o_49 o_52 cy_48 cy_51 a1_7 a2_8 a3_9 a4_10 a5_11 a6_12 a7_13 a8_14 b1_15 b2_16 b3_17 cyA_18 cyJ_19 cyT_20 d1_21 d2_22 d3_23 d4_24 cyO_25 fS_26 cyI_27 r0_28 l1_36 l2_37 l3_38 l4_39 l5_40 l6_41 m1_42 m2_43 m3_44 m4_45 m5_46 m6_47 hf_29 hP hD hK hS (lv_sub hl [5, 4, 3, 2, 1, 0] rfl)
      · refine lv_tableIn (off := 3165) (tgt := 3210) hx hb dL_law_45 (by decide +kernel) (by decide +kernel) (by decide +kernel) (by decide) ?_
        exact law_case_43 hfl C9 hA hA2 G z hG o_1 o_30 o_49 o_52 cy_48 cy_51 a1_7 a2_8 a3_9 a4_10 a5_11 a6_12 a7_13 a8_14 b1_15 b2_16 b3_17 cyA_18 cyJ_19 cyT_20 d1_21 d2_22 d3_23 d4_24 cyO_25 fS_26 cyI_27 r0_28 l1_36 l2_37 l3_38 l4_39 l5_40 l6_41 m1_42 m2_43 m3_44 m4_45 m5_46 m6_47 hf_29 hP hD hK hS (lv_sub hl [5, 4, 3, 2, 1, 0] rfl)
      · refine lv_tableIn (off := 3230) (tgt := 3275) hx hb dL_law_45 (by decide +kernel) (by decide +kernel) (by decide +kernel) (by decide) ?_
        exact law_case_44 hfl C9 hA hA2 G z hG o_1 o_30 o_49 o_52 cy_48 cy_51 a1_7 a2_8 a3_9 a4_10 a5_11 a6_12 a7_13 a8_14 b1_15 b2_16 b3_17 cyA_18 cyJ_19 cyT_20 d1_21 d2_22 d3_23 d4_24 cyO_25 fS_26 cyI_27 r0_28 l1_36 l2_37 l3_38 l4_39 l5_40 l6_41 m1_42 m2_43 m3_44 m4_45 m5_46 m6_47 hf_29 hP hD hK hS (lv_sub hl [5, 4, 3, 2, 1, 0] rfl)
    · refine lv_tableOut (tgt := 3288) hx hb dL_law_45 hout (by decide) ?_
      exact law_tail hfl C9 hA hA2 hS (lv_sub hl [5, 0] rfl) (Nat.le_of_ble_eq_true rfl) (Nat.le_of_ble_eq_true rfl)
