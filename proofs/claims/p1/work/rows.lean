section
-- ===== PART A: goes FIRST, ahead of the names: the tables' words, and 'selects' of the private methods out of them =====
/-- a private method of a class that the tables say can be made, by its rows of tables_1 -/
def lw_okq (q : MethodName × Nat) : Prop := (q.1.cls ≠ "java/lang/invoke/MethodHandle" ∧ q.1.cls ≠ "java/lang/invoke/VarHandle") ∧ Cond.instantiable q.1.cls q.2 ∈ tables_1 ∧ Cond.privateMethod q.1 ∈ tables_1 ∧ Cond.instanceMethod q.1 ∈ tables_1
theorem lw_p0 : lw_okq (⟨"Watermarkmill", "isOneGroup", "(LWatermarkmill$Image;LWatermarkmill$Image;)Z"⟩, 10) := ⟨⟨by decide +kernel, by decide +kernel⟩, List.mem_of_getElem? (i := 38) (by decide +kernel), List.mem_of_getElem? (i := 180) (by decide +kernel), List.mem_of_getElem? (i := 181) (by decide +kernel)⟩
theorem lw_p1 : lw_okq (⟨"Watermarkmill", "verdictOn", "(LWatermarkmill$Image;LWatermarkmill$Image;)C"⟩, 10) := ⟨⟨by decide +kernel, by decide +kernel⟩, List.mem_of_getElem? (i := 38) (by decide +kernel), List.mem_of_getElem? (i := 184) (by decide +kernel), List.mem_of_getElem? (i := 185) (by decide +kernel)⟩
theorem lw_p2 : lw_okq (⟨"Watermarkmill", "joinGroups", "(II)V"⟩, 10) := ⟨⟨by decide +kernel, by decide +kernel⟩, List.mem_of_getElem? (i := 38) (by decide +kernel), List.mem_of_getElem? (i := 199) (by decide +kernel), List.mem_of_getElem? (i := 200) (by decide +kernel)⟩
theorem lw_p3 : lw_okq (⟨"Watermarkmill", "sheetsInLots", "()I"⟩, 10) := ⟨⟨by decide +kernel, by decide +kernel⟩, List.mem_of_getElem? (i := 38) (by decide +kernel), List.mem_of_getElem? (i := 252) (by decide +kernel), List.mem_of_getElem? (i := 253) (by decide +kernel)⟩
theorem lw_p4 : lw_okq (⟨"Watermarkmill", "sheetsInReams", "()I"⟩, 10) := ⟨⟨by decide +kernel, by decide +kernel⟩, List.mem_of_getElem? (i := 38) (by decide +kernel), List.mem_of_getElem? (i := 261) (by decide +kernel), List.mem_of_getElem? (i := 262) (by decide +kernel)⟩
theorem lw_p5 : lw_okq (⟨"Watermarkmill", "sheetsInDocuments", "()I"⟩, 10) := ⟨⟨by decide +kernel, by decide +kernel⟩, List.mem_of_getElem? (i := 38) (by decide +kernel), List.mem_of_getElem? (i := 266) (by decide +kernel), List.mem_of_getElem? (i := 267) (by decide +kernel)⟩
theorem lw_p6 : lw_okq (⟨"Watermarkmill", "sheetsMade", "()I"⟩, 10) := ⟨⟨by decide +kernel, by decide +kernel⟩, List.mem_of_getElem? (i := 38) (by decide +kernel), List.mem_of_getElem? (i := 271) (by decide +kernel), List.mem_of_getElem? (i := 272) (by decide +kernel)⟩
theorem lw_p7 : lw_okq (⟨"Watermarkmill", "isDamageKept", "()Z"⟩, 10) := ⟨⟨by decide +kernel, by decide +kernel⟩, List.mem_of_getElem? (i := 38) (by decide +kernel), List.mem_of_getElem? (i := 275) (by decide +kernel), List.mem_of_getElem? (i := 276) (by decide +kernel)⟩
theorem lw_p8 : lw_okq (⟨"Watermarkmill", "isPaperInTime", "()Z"⟩, 10) := ⟨⟨by decide +kernel, by decide +kernel⟩, List.mem_of_getElem? (i := 38) (by decide +kernel), List.mem_of_getElem? (i := 288) (by decide +kernel), List.mem_of_getElem? (i := 289) (by decide +kernel)⟩
theorem lw_p9 : lw_okq (⟨"Watermarkmill", "isDatedAsTold", "()Z"⟩, 10) := ⟨⟨by decide +kernel, by decide +kernel⟩, List.mem_of_getElem? (i := 38) (by decide +kernel), List.mem_of_getElem? (i := 295) (by decide +kernel), List.mem_of_getElem? (i := 296) (by decide +kernel)⟩
theorem lw_p10 : lw_okq (⟨"java/lang/Throwable", "fillInStackTrace", "(I)Ljava/lang/Throwable;"⟩, 6) := ⟨⟨by decide +kernel, by decide +kernel⟩, List.mem_of_getElem? (i := 354) (by decide +kernel), List.mem_of_getElem? (i := 352) (by decide +kernel), List.mem_of_getElem? (i := 353) (by decide +kernel)⟩
theorem lw_p11 : lw_okq (⟨"java/util/ArrayList", "add", "(Ljava/lang/Object;[Ljava/lang/Object;I)V"⟩, 3) := ⟨⟨by decide +kernel, by decide +kernel⟩, List.mem_of_getElem? (i := 46) (by decide +kernel), List.mem_of_getElem? (i := 453) (by decide +kernel), List.mem_of_getElem? (i := 454) (by decide +kernel)⟩
theorem lw_p12 : lw_okq (⟨"java/util/ArrayList", "grow", "()[Ljava/lang/Object;"⟩, 3) := ⟨⟨by decide +kernel, by decide +kernel⟩, List.mem_of_getElem? (i := 46) (by decide +kernel), List.mem_of_getElem? (i := 457) (by decide +kernel), List.mem_of_getElem? (i := 458) (by decide +kernel)⟩
theorem lw_p13 : lw_okq (⟨"java/util/ArrayList", "grow", "(I)[Ljava/lang/Object;"⟩, 3) := ⟨⟨by decide +kernel, by decide +kernel⟩, List.mem_of_getElem? (i := 46) (by decide +kernel), List.mem_of_getElem? (i := 461) (by decide +kernel), List.mem_of_getElem? (i := 462) (by decide +kernel)⟩
theorem lw_p14 : lw_okq (⟨"Watermarkmill", "mouldAt", "(I)LWatermarkmill$Mould;"⟩, 10) := ⟨⟨by decide +kernel, by decide +kernel⟩, List.mem_of_getElem? (i := 38) (by decide +kernel), List.mem_of_getElem? (i := 547) (by decide +kernel), List.mem_of_getElem? (i := 548) (by decide +kernel)⟩
theorem lw_p15 : lw_okq (⟨"Watermarkmill", "reamAt", "(I)LWatermarkmill$Ream;"⟩, 10) := ⟨⟨by decide +kernel, by decide +kernel⟩, List.mem_of_getElem? (i := 38) (by decide +kernel), List.mem_of_getElem? (i := 763) (by decide +kernel), List.mem_of_getElem? (i := 764) (by decide +kernel)⟩
def lw_privs_1 : List (MethodName × Nat) := [(⟨"Watermarkmill", "isOneGroup", "(LWatermarkmill$Image;LWatermarkmill$Image;)Z"⟩, 10), (⟨"Watermarkmill", "verdictOn", "(LWatermarkmill$Image;LWatermarkmill$Image;)C"⟩, 10), (⟨"Watermarkmill", "joinGroups", "(II)V"⟩, 10), (⟨"Watermarkmill", "sheetsInLots", "()I"⟩, 10), (⟨"Watermarkmill", "sheetsInReams", "()I"⟩, 10), (⟨"Watermarkmill", "sheetsInDocuments", "()I"⟩, 10), (⟨"Watermarkmill", "sheetsMade", "()I"⟩, 10), (⟨"Watermarkmill", "isDamageKept", "()Z"⟩, 10), (⟨"Watermarkmill", "isPaperInTime", "()Z"⟩, 10), (⟨"Watermarkmill", "isDatedAsTold", "()Z"⟩, 10), (⟨"java/lang/Throwable", "fillInStackTrace", "(I)Ljava/lang/Throwable;"⟩, 6), (⟨"java/util/ArrayList", "add", "(Ljava/lang/Object;[Ljava/lang/Object;I)V"⟩, 3), (⟨"java/util/ArrayList", "grow", "()[Ljava/lang/Object;"⟩, 3), (⟨"java/util/ArrayList", "grow", "(I)[Ljava/lang/Object;"⟩, 3), (⟨"Watermarkmill", "mouldAt", "(I)LWatermarkmill$Mould;"⟩, 10), (⟨"Watermarkmill", "reamAt", "(I)LWatermarkmill$Ream;"⟩, 10)]
theorem lw_r1 : ∀ q ∈ lw_privs_1, lw_okq q := List.forall_mem_cons.mpr ⟨lw_p0, List.forall_mem_cons.mpr ⟨lw_p1, List.forall_mem_cons.mpr ⟨lw_p2, List.forall_mem_cons.mpr ⟨lw_p3, List.forall_mem_cons.mpr ⟨lw_p4, List.forall_mem_cons.mpr ⟨lw_p5, List.forall_mem_cons.mpr ⟨lw_p6, List.forall_mem_cons.mpr ⟨lw_p7, List.forall_mem_cons.mpr ⟨lw_p8, List.forall_mem_cons.mpr ⟨lw_p9, List.forall_mem_cons.mpr ⟨lw_p10, List.forall_mem_cons.mpr ⟨lw_p11, List.forall_mem_cons.mpr ⟨lw_p12, List.forall_mem_cons.mpr ⟨lw_p13, List.forall_mem_cons.mpr ⟨lw_p14, List.forall_mem_cons.mpr ⟨lw_p15, fun _ h => absurd h List.not_mem_nil⟩⟩⟩⟩⟩⟩⟩⟩⟩⟩⟩⟩⟩⟩⟩⟩
theorem lw_p16 : lw_okq (⟨"Watermarkmill", "lotAt", "(I)LWatermarkmill$Lot;"⟩, 10) := ⟨⟨by decide +kernel, by decide +kernel⟩, List.mem_of_getElem? (i := 38) (by decide +kernel), List.mem_of_getElem? (i := 768) (by decide +kernel), List.mem_of_getElem? (i := 769) (by decide +kernel)⟩
theorem lw_p17 : lw_okq (⟨"Watermarkmill", "documentAt", "(I)LWatermarkmill$Document;"⟩, 10) := ⟨⟨by decide +kernel, by decide +kernel⟩, List.mem_of_getElem? (i := 38) (by decide +kernel), List.mem_of_getElem? (i := 861) (by decide +kernel), List.mem_of_getElem? (i := 862) (by decide +kernel)⟩
theorem lw_p18 : lw_okq (⟨"Watermarkmill", "stockOf", "(I)I"⟩, 10) := ⟨⟨by decide +kernel, by decide +kernel⟩, List.mem_of_getElem? (i := 38) (by decide +kernel), List.mem_of_getElem? (i := 897) (by decide +kernel), List.mem_of_getElem? (i := 898) (by decide +kernel)⟩
theorem lw_p19 : lw_okq (⟨"Watermarkmill", "stockOfLeaf", "(LWatermarkmill$Document;II)I"⟩, 10) := ⟨⟨by decide +kernel, by decide +kernel⟩, List.mem_of_getElem? (i := 38) (by decide +kernel), List.mem_of_getElem? (i := 912) (by decide +kernel), List.mem_of_getElem? (i := 913) (by decide +kernel)⟩
theorem lw_p20 : lw_okq (⟨"Watermarkmill", "tellStocks", "(LWatermarkmill$Document;)V"⟩, 10) := ⟨⟨by decide +kernel, by decide +kernel⟩, List.mem_of_getElem? (i := 38) (by decide +kernel), List.mem_of_getElem? (i := 949) (by decide +kernel), List.mem_of_getElem? (i := 950) (by decide +kernel)⟩
theorem lw_p21 : lw_okq (⟨"Watermarkmill", "imageAt", "(I)LWatermarkmill$Image;"⟩, 10) := ⟨⟨by decide +kernel, by decide +kernel⟩, List.mem_of_getElem? (i := 38) (by decide +kernel), List.mem_of_getElem? (i := 1007) (by decide +kernel), List.mem_of_getElem? (i := 1008) (by decide +kernel)⟩
theorem lw_p22 : lw_okq (⟨"Watermarkmill", "checkFits", "(I)V"⟩, 10) := ⟨⟨by decide +kernel, by decide +kernel⟩, List.mem_of_getElem? (i := 38) (by decide +kernel), List.mem_of_getElem? (i := 1111) (by decide +kernel), List.mem_of_getElem? (i := 1112) (by decide +kernel)⟩
theorem lw_p23 : lw_okq (⟨"WatermarkmillModel", "fails", "(I)Z"⟩, 16) := ⟨⟨by decide +kernel, by decide +kernel⟩, List.mem_of_getElem? (i := 1179) (by decide +kernel), List.mem_of_getElem? (i := 1249) (by decide +kernel), List.mem_of_getElem? (i := 1250) (by decide +kernel)⟩
theorem lw_p24 : lw_okq (⟨"WatermarkmillModel", "failsMould", "(I)Z"⟩, 16) := ⟨⟨by decide +kernel, by decide +kernel⟩, List.mem_of_getElem? (i := 1179) (by decide +kernel), List.mem_of_getElem? (i := 1302) (by decide +kernel), List.mem_of_getElem? (i := 1303) (by decide +kernel)⟩
theorem lw_p25 : lw_okq (⟨"WatermarkmillModel", "isMould", "(I)Z"⟩, 16) := ⟨⟨by decide +kernel, by decide +kernel⟩, List.mem_of_getElem? (i := 1179) (by decide +kernel), List.mem_of_getElem? (i := 1306) (by decide +kernel), List.mem_of_getElem? (i := 1307) (by decide +kernel)⟩
theorem lw_p26 : lw_okq (⟨"java/util/ArrayList", "fastRemove", "([Ljava/lang/Object;I)V"⟩, 3) := ⟨⟨by decide +kernel, by decide +kernel⟩, List.mem_of_getElem? (i := 46) (by decide +kernel), List.mem_of_getElem? (i := 1484) (by decide +kernel), List.mem_of_getElem? (i := 1485) (by decide +kernel)⟩
theorem lw_p27 : lw_okq (⟨"WatermarkmillModel", "isDocument", "(I)Z"⟩, 16) := ⟨⟨by decide +kernel, by decide +kernel⟩, List.mem_of_getElem? (i := 1179) (by decide +kernel), List.mem_of_getElem? (i := 1537) (by decide +kernel), List.mem_of_getElem? (i := 1538) (by decide +kernel)⟩
theorem lw_p28 : lw_okq (⟨"WatermarkmillModel", "failsDocument", "(I)Z"⟩, 16) := ⟨⟨by decide +kernel, by decide +kernel⟩, List.mem_of_getElem? (i := 1179) (by decide +kernel), List.mem_of_getElem? (i := 1545) (by decide +kernel), List.mem_of_getElem? (i := 1546) (by decide +kernel)⟩
theorem lw_p29 : lw_okq (⟨"WatermarkmillModel", "isSheet", "(II)Z"⟩, 16) := ⟨⟨by decide +kernel, by decide +kernel⟩, List.mem_of_getElem? (i := 1179) (by decide +kernel), List.mem_of_getElem? (i := 1549) (by decide +kernel), List.mem_of_getElem? (i := 1550) (by decide +kernel)⟩
theorem lw_p30 : lw_okq (⟨"WatermarkmillModel", "isLeaf", "(II)Z"⟩, 16) := ⟨⟨by decide +kernel, by decide +kernel⟩, List.mem_of_getElem? (i := 1179) (by decide +kernel), List.mem_of_getElem? (i := 1553) (by decide +kernel), List.mem_of_getElem? (i := 1554) (by decide +kernel)⟩
theorem lw_p31 : lw_okq (⟨"WatermarkmillModel", "areImages", "(II)Z"⟩, 16) := ⟨⟨by decide +kernel, by decide +kernel⟩, List.mem_of_getElem? (i := 1179) (by decide +kernel), List.mem_of_getElem? (i := 1625) (by decide +kernel), List.mem_of_getElem? (i := 1626) (by decide +kernel)⟩
def lw_privs_2 : List (MethodName × Nat) := [(⟨"Watermarkmill", "lotAt", "(I)LWatermarkmill$Lot;"⟩, 10), (⟨"Watermarkmill", "documentAt", "(I)LWatermarkmill$Document;"⟩, 10), (⟨"Watermarkmill", "stockOf", "(I)I"⟩, 10), (⟨"Watermarkmill", "stockOfLeaf", "(LWatermarkmill$Document;II)I"⟩, 10), (⟨"Watermarkmill", "tellStocks", "(LWatermarkmill$Document;)V"⟩, 10), (⟨"Watermarkmill", "imageAt", "(I)LWatermarkmill$Image;"⟩, 10), (⟨"Watermarkmill", "checkFits", "(I)V"⟩, 10), (⟨"WatermarkmillModel", "fails", "(I)Z"⟩, 16), (⟨"WatermarkmillModel", "failsMould", "(I)Z"⟩, 16), (⟨"WatermarkmillModel", "isMould", "(I)Z"⟩, 16), (⟨"java/util/ArrayList", "fastRemove", "([Ljava/lang/Object;I)V"⟩, 3), (⟨"WatermarkmillModel", "isDocument", "(I)Z"⟩, 16), (⟨"WatermarkmillModel", "failsDocument", "(I)Z"⟩, 16), (⟨"WatermarkmillModel", "isSheet", "(II)Z"⟩, 16), (⟨"WatermarkmillModel", "isLeaf", "(II)Z"⟩, 16), (⟨"WatermarkmillModel", "areImages", "(II)Z"⟩, 16)]
theorem lw_r2 : ∀ q ∈ lw_privs_2, lw_okq q := List.forall_mem_cons.mpr ⟨lw_p16, List.forall_mem_cons.mpr ⟨lw_p17, List.forall_mem_cons.mpr ⟨lw_p18, List.forall_mem_cons.mpr ⟨lw_p19, List.forall_mem_cons.mpr ⟨lw_p20, List.forall_mem_cons.mpr ⟨lw_p21, List.forall_mem_cons.mpr ⟨lw_p22, List.forall_mem_cons.mpr ⟨lw_p23, List.forall_mem_cons.mpr ⟨lw_p24, List.forall_mem_cons.mpr ⟨lw_p25, List.forall_mem_cons.mpr ⟨lw_p26, List.forall_mem_cons.mpr ⟨lw_p27, List.forall_mem_cons.mpr ⟨lw_p28, List.forall_mem_cons.mpr ⟨lw_p29, List.forall_mem_cons.mpr ⟨lw_p30, List.forall_mem_cons.mpr ⟨lw_p31, fun _ h => absurd h List.not_mem_nil⟩⟩⟩⟩⟩⟩⟩⟩⟩⟩⟩⟩⟩⟩⟩⟩
theorem lw_p32 : lw_okq (⟨"WatermarkmillModel", "compare", "(LWatermarkmillModel$Image;LWatermarkmillModel$Image;)C"⟩, 16) := ⟨⟨by decide +kernel, by decide +kernel⟩, List.mem_of_getElem? (i := 1179) (by decide +kernel), List.mem_of_getElem? (i := 1629) (by decide +kernel), List.mem_of_getElem? (i := 1630) (by decide +kernel)⟩
theorem lw_p33 : lw_okq (⟨"WatermarkmillModel", "repertory", "()[I"⟩, 16) := ⟨⟨by decide +kernel, by decide +kernel⟩, List.mem_of_getElem? (i := 1179) (by decide +kernel), List.mem_of_getElem? (i := 1650) (by decide +kernel), List.mem_of_getElem? (i := 1651) (by decide +kernel)⟩
theorem lw_p34 : lw_okq (⟨"WatermarkmillModel", "find", "(I)Z"⟩, 16) := ⟨⟨by decide +kernel, by decide +kernel⟩, List.mem_of_getElem? (i := 1179) (by decide +kernel), List.mem_of_getElem? (i := 1689) (by decide +kernel), List.mem_of_getElem? (i := 1690) (by decide +kernel)⟩
theorem lw_p35 : lw_okq (⟨"WatermarkmillModel", "gather", "()V"⟩, 16) := ⟨⟨by decide +kernel, by decide +kernel⟩, List.mem_of_getElem? (i := 1179) (by decide +kernel), List.mem_of_getElem? (i := 1693) (by decide +kernel), List.mem_of_getElem? (i := 1694) (by decide +kernel)⟩
theorem lw_p36 : lw_okq (⟨"WatermarkmillModel", "tighten", "(I)Z"⟩, 16) := ⟨⟨by decide +kernel, by decide +kernel⟩, List.mem_of_getElem? (i := 1179) (by decide +kernel), List.mem_of_getElem? (i := 1697) (by decide +kernel), List.mem_of_getElem? (i := 1698) (by decide +kernel)⟩
theorem lw_p37 : lw_okq (⟨"WatermarkmillModel", "bound", "(IZ)I"⟩, 16) := ⟨⟨by decide +kernel, by decide +kernel⟩, List.mem_of_getElem? (i := 1179) (by decide +kernel), List.mem_of_getElem? (i := 1705) (by decide +kernel), List.mem_of_getElem? (i := 1706) (by decide +kernel)⟩
theorem lw_p38 : lw_okq (⟨"WatermarkmillModel", "used", "()I"⟩, 16) := ⟨⟨by decide +kernel, by decide +kernel⟩, List.mem_of_getElem? (i := 1179) (by decide +kernel), List.mem_of_getElem? (i := 1729) (by decide +kernel), List.mem_of_getElem? (i := 1730) (by decide +kernel)⟩
def lw_privs_3 : List (MethodName × Nat) := [(⟨"WatermarkmillModel", "compare", "(LWatermarkmillModel$Image;LWatermarkmillModel$Image;)C"⟩, 16), (⟨"WatermarkmillModel", "repertory", "()[I"⟩, 16), (⟨"WatermarkmillModel", "find", "(I)Z"⟩, 16), (⟨"WatermarkmillModel", "gather", "()V"⟩, 16), (⟨"WatermarkmillModel", "tighten", "(I)Z"⟩, 16), (⟨"WatermarkmillModel", "bound", "(IZ)I"⟩, 16), (⟨"WatermarkmillModel", "used", "()I"⟩, 16)]
theorem lw_r3 : ∀ q ∈ lw_privs_3, lw_okq q := List.forall_mem_cons.mpr ⟨lw_p32, List.forall_mem_cons.mpr ⟨lw_p33, List.forall_mem_cons.mpr ⟨lw_p34, List.forall_mem_cons.mpr ⟨lw_p35, List.forall_mem_cons.mpr ⟨lw_p36, List.forall_mem_cons.mpr ⟨lw_p37, List.forall_mem_cons.mpr ⟨lw_p38, fun _ h => absurd h List.not_mem_nil⟩⟩⟩⟩⟩⟩⟩
def lw_privs : List (MethodName × Nat) := lw_privs_1 ++ (lw_privs_2 ++ (lw_privs_3))
def lw_tbl : List Cond := k2_sels lw_privs ++ tables_1
theorem lw_privs_ok : ∀ q ∈ lw_privs, lw_okq q := by
  show ∀ q ∈ lw_privs_1 ++ (lw_privs_2 ++ (lw_privs_3)), lw_okq q
  exact List.forall_mem_append.mpr ⟨lw_r1, List.forall_mem_append.mpr ⟨lw_r2, lw_r3⟩⟩
/-- the streams that the claim lets the run draw from -/
abbrev lw_cs : List Choice := [Jvm.Choice.named "NaN.bits"]
theorem lw_bits : nanBits ∈ lw_cs := by first | decide | exact List.mem_cons_self | simp [lw_cs, nanBits]
-- ===== end of PART A; then your names; then what follows =====
end
section
/-- what the printed row va_mna asks of the tables (its word is used there, and stands in no file of the kit) -/
def va_AOA (ty : FieldType) (U : State) : Prop := (Cond.arrayOver (.array ty)).before #[] U = true
theorem va_AOA.of {ty : FieldType} {A : Array Value} {U : State} (h : (Cond.arrayOver (.array ty)).before A U = true) : va_AOA ty U := h
theorem va_AOA.use {ty : FieldType} {A : Array Value} {U : State} (h : va_AOA ty U) : (Cond.arrayOver (.array ty)).before A U = true := h
/-! ===== BEGIN words of one list among another's, by their places ===== -/
theorem goodIn_r {big : List Cond} (ws : List Cond) (ps : List Nat) (hp : ws = ps.filterMap (fun i => big[i]?)) (h : ws.all goodWord = true) : GoodIn big ws := by
  intro w hw
  have h1 := List.all_eq_true.mp h w hw
  rw [hp] at hw
  obtain ⟨i, -, hi⟩ := List.mem_filterMap.mp hw
  have hm : w ∈ big := by first | exact List.mem_of_getElem? hi | exact List.getElem?_mem hi
  exact ⟨hm, good_of_word h1⟩
theorem goodIn_app {big a b : List Cond} (ha : GoodIn big a) (hb : GoodIn big b) : GoodIn big (a ++ b) := fun w h => (List.mem_append.mp h).elim (ha w) (hb w)
theorem goodIn_ca {big a b : List Cond} {c : Cond} (ha : GoodIn big (c :: a)) (hb : GoodIn big b) : GoodIn big (c :: (a ++ b)) := fun w h => (List.mem_cons.mp h).elim (fun e => ha w (List.mem_cons.mpr (Or.inl e))) (fun h => (List.mem_append.mp h).elim (fun h => ha w (List.mem_cons.mpr (Or.inr h))) (hb w))
theorem goodIn_sub {big ws : List Cond} (hm : ∀ w ∈ ws, w ∈ big) (h : ws.all goodWord = true) : GoodIn big ws := fun w hw => ⟨hm w hw, good_of_word (List.all_eq_true.mp h w hw)⟩
/-! ===== END ===== -/

/-! ===== BEGIN new T[n][m]: the outer array a place, the inner ones among the pooled ===== -/
/-- f, but v at every address of l -/
def vr_up {α : Type} (f : Nat → α) (l : List Nat) (v : α) : Nat → α := fun a => if a ∈ l then v else f a
theorem vr_up_in {α : Type} {f : Nat → α} {l : List Nat} {v : α} {a : Nat} (h : a ∈ l) : vr_up f l v a = v := if_pos h
theorem vr_up_ne {α : Type} {f : Nat → α} {l : List Nat} {v : α} {a : Nat} (h : a ∉ l) : vr_up f l v a = f a := if_neg h
theorem vr_rows {L l : List Nat} {f : Nat → va_E} {e : va_E} (h : ∀ a, a ∈ l → a ∉ L) : va_pl L f ++ l.map (fun a => (a, e)) = va_pl (L ++ l) (vr_up f l e) := by
  unfold va_pl
  rw [List.map_append]
  congr 1
  · apply List.map_congr_left
    intro a ha
    rw [vr_up_ne (fun q => h a q ha)]
  · apply List.map_congr_left
    intro a ha
    rw [vr_up_in ha]
theorem vr_lay {X rows : va_W} {x : Nat × va_E} {pl : va_W} {D : va_G} {cl : List vw_C} {H : Heap} (hP : va_P D cl (((X ++ pl) ++ [x]) ++ rows) H) : va_P D cl ((X ++ [x]) ++ (pl ++ rows)) H := by
  rw [List.append_assoc (X ++ pl)] at hP
  have h := va_P.swap hP
  rw [← List.append_assoc X] at h
  have h2 := va_P.swap h
  rw [List.append_assoc (X ++ [x])] at h2
  exact h2
theorem vr_layD {X rows : va_W} {x : Nat × va_E} {pl : va_W} {A : Nat → Prop} (hD : va_D A (((X ++ pl) ++ [x]) ++ rows)) : va_D A ((X ++ [x]) ++ (pl ++ rows)) := by
  rw [List.append_assoc (X ++ pl)] at hD
  have h := va_D.swap hD
  rw [← List.append_assoc X] at h
  have h2 := va_D.swap h
  rw [List.append_assoc (X ++ [x])] at h2
  exact h2
theorem vr_outer (c : ClassId) (N h0 : Nat) : ∀ i : Nat, Jvm.Free.Multi.outerC c N h0 i = arrV c N (fun j => va_rf (if j < i then some (h0 + 1 + j) else none))
  | 0 => by
    show ({ cls := c, slots := Array.replicate N .null, vm := .none } : Cell) = _
    rw [arrV_new]
    refine congrArg (arrV c N) (funext fun j => ?_)
    simp [va_rf]
  | i + 1 => by
    show (Jvm.Free.Multi.outerC c N h0 i).setSlot i (.ref (h0 + 1 + i)) = _
    rw [vr_outer c N h0 i, arrV_store]
    refine congrArg (arrV c N) (funext fun j => ?_)
    by_cases e : j = i
    · subst e
      simp [updV, va_rf]
    · by_cases h : j < i
      · simp [updV, e, h, Nat.lt_succ_of_lt h]
      · simp [updV, e, h, show ¬ j < i + 1 by omega]
section VGM
variable {p : Program} {l : Launch} {e : Env} {R : Room} {s : State} {m : MethodId} {args : Array Value} {below : List Frame} {meth : Method} {c : Code} {H : Heap} {locs : List Loc} {cells slots : Nat} {Q : State → Prop}
variable {cc : ByteArray} {pc : Nat} {ls : Array Slot} {rest : List Value} {D : va_G} {cl : List vw_C} {A : Nat → Prop} {a : Nat} {tys : List (ClassId × FieldType)} {ws : va_W} {H0 : Heap}
theorem va_mna {X : va_W} {L : List Nat} {f : Nat → va_E} {cc : ByteArray} (hexec : p.tables.exec = Jvm.exec) (hb : c.code = cc) {own : String} {index : Nat} {ty : FieldType} {cy : ClassId} (hown : s.vm.findClass own = some m.cls) (hclink : (Cond.classLink own index ("[" ++ (FieldType.array ty).toString)).before args s = true) (hover : va_AOA ty s) (harr : (Cond.arrayClass ty).before args s = true) (hcy : s.vm.findClass (FieldType.array ty).toString = some cy)
    (hK : va_K D cl tys s) (hP : va_P D cl (X ++ va_pl L f) H) (hD : va_D A (X ++ va_pl L f)) (hS : va_S A H0 H locs) (hA : ∀ q, H0.size ≤ q → A q) {n k : Int32} {N' K' : Nat} {z : vp_A} (hn : ¬ n < 0) (hk : ¬ k < 0) (hN : n.toNatClampNeg = N') (hM : k.toNatClampNeg = K')
    (hb1 : N' * 4 ≤ 536870912) (hb2 : K' * componentBytes ty ≤ 536870912) (hb3 : K' ≤ 536870912) (hdf : fits ty (defaultValue ty) = true) (hdd : (defaultValue ty).isDefault = true) (hcells : cells + (1 + N') ≤ R.cells) (hslots : slots + (N' + N' * K') ≤ R.slots) (hz : ∀ c : ClassId, Jvm.Free.Multi.innerC c K' (defaultValue ty) = vp_cell c z) (hdg : decode cc pc = .ok (.multianewarray index 2, 4))
    (kk : ∀ (q : Nat) (r : Nat → Nat) (cA : ClassId) (H1 : Heap), (∀ i j : Nat, i < N' → j < N' → r i = r j → i = j) → (∀ i : Nat, i < N' → r i ∉ L) → va_K D cl (tys ++ [(cA, .array ty)]) s →
      va_P D cl ((X ++ [(q, .inl (cA, N', .inr (.inr (.inr (.inr (fun i => if i < N' then some (r i) else none))))))]) ++ va_pl (L ++ (List.range N').map r) (vr_up f ((List.range N').map r) (.inl (cy, z)))) H1 → va_D A ((X ++ [(q, .inl (cA, N', .inr (.inr (.inr (.inr (fun i => if i < N' then some (r i) else none))))))]) ++ va_pl (L ++ (List.range N').map r) (vr_up f ((List.range N').map r) (.inl (cy, z)))) → va_S A H0 H1 locs →
      W p l e R s m args below meth c H1 locs (cells + 1 + N') (slots + N' + N' * K') Q (F0 m (pc + 4) ls (.ref q :: rest))) : W p l e R s m args below meth c H locs cells slots Q (F0 m pc ls (.int k :: .int n :: rest)) := by
  subst hN
  subst hM
  intro T hT Xs
  obtain ⟨vm₁, cA, comp, -, fA, fC, hO, -, X', step⟩ := Xs.multianewarray2F hexec hown hclink (va_AOA.use hover) harr (g := F0 m pc ls (.int k :: .int n :: rest)) rfl (by rw [hb]; exact hdg) rfl hn hk hb1 hb2 hb3 hdf hdd hcells hslots
  have ec : some cy = some comp := hcy.symm.trans fC
  cases ec
  generalize hF : Jvm.Free.Multi.fill (T.setVm vm₁) cA cy n.toNatClampNeg k.toNatClampNeg (defaultValue ty) n.toNatClampNeg = F at X' step
  have hTh : (T.setVm vm₁).heap = H := hT
  obtain ⟨f1, f2, -, -⟩ := Jvm.Free.Multi.fill_facts (T.setVm vm₁) cA cy n.toNatClampNeg k.toNatClampNeg (defaultValue ty) n.toNatClampNeg
  rw [hF, hTh] at f1 f2
  have hold : ∀ x : Nat, x < H.size → F.heap[x]? = H[x]? := fun x hx => by
    have := Jvm.Free.Multi.fill_old (T.setVm vm₁) cA cy n.toNatClampNeg k.toNatClampNeg (defaultValue ty) (a := x) (by rw [hTh]; exact hx) n.toNatClampNeg
    rw [hF, hTh] at this
    exact this
  have hrow : ∀ j : Nat, j < n.toNatClampNeg → F.heap[H.size + 1 + j]? = some (vp_cell cy z) := fun j hj => by
    have := Jvm.Free.Multi.fill_inner (T.setVm vm₁) cA cy n.toNatClampNeg k.toNatClampNeg (defaultValue ty) n.toNatClampNeg j hj
    rw [hF, hTh, hz] at this
    exact this
  have hout : Jvm.Free.Multi.outerC cA n.toNatClampNeg H.size n.toNatClampNeg = vp_cell cA (n.toNatClampNeg, .inr (.inr (.inr (.inr (fun i => if i < n.toNatClampNeg then some (H.size + 1 + i) else none))))) := by
    rw [vp_cell_q]
    exact vr_outer cA n.toNatClampNeg H.size n.toNatClampNeg
  rw [hout] at f2
  have hlt : ∀ a, a ∈ L → a < H.size := fun a ha => by
    obtain ⟨k9, hk9⟩ := va_pl_get (X := X) (f := f) ha
    exact (hP k9 _ hk9).lt
  have hnl : ∀ i : Nat, i < n.toNatClampNeg → H.size + 1 + i ∉ L := fun i _ h => by
    have := hlt _ h
    omega
  have hnm : ∀ a, a ∈ (List.range n.toNatClampNeg).map (fun i => H.size + 1 + i) → a ∉ L := fun a ha h => by
    obtain ⟨i, -, rfl⟩ := List.mem_map.mp ha
    have := hlt _ h
    omega
  have hP0 : va_P D cl (X ++ va_pl L f) F.heap := hP.kept (fun k9 x hx => hold x.1 ((hP k9 x hx).lt))
  have hP1 : va_P D cl ((X ++ va_pl L f) ++ [(H.size, .inl (cA, n.toNatClampNeg, .inr (.inr (.inr (.inr (fun i => if i < n.toNatClampNeg then some (H.size + 1 + i) else none))))))]) F.heap := hP0.app (fun k9 x hx => by
    have h0 : k9 < 1 := (List.getElem?_eq_some_iff.mp hx).1
    rw [show k9 = 0 by omega] at hx
    cases hx
    exact f2)
  have hP2 : va_P D cl (((X ++ va_pl L f) ++ [(H.size, .inl (cA, n.toNatClampNeg, .inr (.inr (.inr (.inr (fun i => if i < n.toNatClampNeg then some (H.size + 1 + i) else none))))))]) ++ ((List.range n.toNatClampNeg).map (fun i => H.size + 1 + i)).map (fun a => (a, .inl (cy, z)))) F.heap := hP1.app (fun k9 x hx => by
    obtain ⟨a, ha, rfl⟩ := List.mem_map.mp (List.mem_of_getElem? hx)
    obtain ⟨i, hi, rfl⟩ := List.mem_map.mp ha
    exact hrow i (List.mem_range.mp hi))
  have hD2 : va_D A (((X ++ va_pl L f) ++ [(H.size, .inl (cA, n.toNatClampNeg, .inr (.inr (.inr (.inr (fun i => if i < n.toNatClampNeg then some (H.size + 1 + i) else none))))))]) ++ ((List.range n.toNatClampNeg).map (fun i => H.size + 1 + i)).map (fun a => (a, .inl (cy, z)))) := by
    have hD1 := hD.push (e := .inl (cA, n.toNatClampNeg, .inr (.inr (.inr (.inr (fun i => if i < n.toNatClampNeg then some (H.size + 1 + i) else none)))))) hP rfl (hA _ hS.1)
    generalize hW1 : (X ++ va_pl L f) ++ [(H.size, .inl (cA, n.toNatClampNeg, .inr (.inr (.inr (.inr (fun i => if i < n.toNatClampNeg then some (H.size + 1 + i) else none))))))] = W1 at hD1 hP1 ⊢
    have hle : ∀ (k9 : Nat) (x : Nat × va_E), W1[k9]? = some x → x.1 ≤ H.size := fun k9 x hx => by
      rw [← hW1] at hx
      by_cases hl : k9 < (X ++ va_pl L f).length
      · rw [List.getElem?_append_left hl] at hx
        exact Nat.le_of_lt ((hP k9 x hx).lt)
      · rw [List.getElem?_append_right (by omega)] at hx
        have h0 : k9 - (X ++ va_pl L f).length < 1 := (List.getElem?_eq_some_iff.mp hx).1
        rw [show k9 - (X ++ va_pl L f).length = 0 by omega] at hx
        cases hx
        exact Nat.le_refl _
    have hr : ∀ (k9 : Nat) (x : Nat × va_E), (((List.range n.toNatClampNeg).map (fun i => H.size + 1 + i)).map (fun a => ((a, .inl (cy, z)) : Nat × va_E)))[k9]? = some x → x.1 = H.size + 1 + k9 := fun k9 x hx => by
      rw [List.getElem?_map, List.getElem?_map] at hx
      by_cases h9 : k9 < n.toNatClampNeg
      · rw [List.getElem?_range h9] at hx
        cases hx
        rfl
      · have hn0 : (List.range n.toNatClampNeg)[k9]? = none := List.getElem?_eq_none (by rw [List.length_range]; omega)
        rw [hn0] at hx
        cases hx
    refine ⟨fun i j x y hi hj hxy => ?_, fun k9 x hx => ?_⟩
    · by_cases h1 : i < W1.length <;> by_cases h2 : j < W1.length
      · rw [List.getElem?_append_left h1] at hi
        rw [List.getElem?_append_left h2] at hj
        exact hD1.1 i j x y hi hj hxy
      · rw [List.getElem?_append_left h1] at hi
        rw [List.getElem?_append_right (by omega)] at hj
        have := hle _ _ hi
        have := hr _ _ hj
        omega
      · rw [List.getElem?_append_right (by omega)] at hi
        rw [List.getElem?_append_left h2] at hj
        have := hle _ _ hj
        have := hr _ _ hi
        omega
      · rw [List.getElem?_append_right (by omega)] at hi hj
        have := hr _ _ hi
        have := hr _ _ hj
        omega
    · by_cases h1 : k9 < W1.length
      · rw [List.getElem?_append_left h1] at hx
        exact hD1.2 k9 x hx
      · rw [List.getElem?_append_right (by omega)] at hx
        have := hr _ _ hx
        exact hA _ (by have := hS.1; omega)
  have hAr : ArrOfT s cA (.array ty) := fun N9 z9 => by
    obtain ⟨-, k9, hk9, cm9, hkk9⟩ := (hO 0 0 0).1
    exact ⟨(fun q hq => by cases hq), k9, hk9, cm9, hkk9⟩
  have hK2 : va_K D cl (tys ++ [(cA, .array ty)]) s := ⟨hK.1, fun k9 x hx => by
    by_cases hl : k9 < tys.length
    · rw [List.getElem?_append_left hl] at hx
      exact hK.2 k9 x hx
    · rw [List.getElem?_append_right (by omega)] at hx
      have h0 : k9 - tys.length < 1 := (List.getElem?_eq_some_iff.mp hx).1
      rw [show k9 - tys.length = 0 by omega] at hx
      cases hx
      exact ⟨hAr, fA⟩⟩
  obtain ⟨t, a1, b1⟩ := kk H.size (fun i => H.size + 1 + i) cA F.heap (fun i j _ _ h => by have h9 : H.size + 1 + i = H.size + 1 + j := h; omega) hnl hK2 (by rw [← vr_rows hnm]; exact vr_lay hP2) (by rw [← vr_rows hnm]; exact vr_layD hD2) ⟨by rw [f1]; have := hS.1; omega, fun x h1 h2 => (hold x (Nat.lt_of_lt_of_le h1 hS.1)).trans (hS.2.1 x h1 h2), hS.2.2⟩ F rfl X'
  refine ⟨t, step t ?_, b1⟩
  have e : T.heap.size = H.size := by rw [hT]
  rw [e]
  exact a1
end VGM
/-! ===== END ===== -/

/-! ===== BEGIN exceptions that leave a method, and their catching by the caller (launches without stack traces) ===== -/
section VXA
/-! The laws vx_back, vx_callV, vx_callS, vx_callSW, vx_throw0, vx_throwS follow proofs of the library, with one case more: JvmDerived/Free/Laws.lean (Back.of_free), Shelf42/LK1.lean (callV, callS), Shelf/KitTraced.lean (throwNew0V, throwNewS). -/
/-- where a method has thrown q: the class by its name, the cell, what was written, the world -/
def vx_T (XC : String → State → State → Prop) (st : State) (q : Addr) (t : State) (mc ms : Nat) (free : Addr → Prop) : Prop :=
  ∃ (E : String) (ce : Cell) (L : List Loc), XC E st t ∧ t.heap[q]? = some ce ∧ ce.vm = .none ∧ st.vm.findClass E = some ce.cls ∧ st.WarmedH t.vm ∧ st.sameButNew ({ t with vm := st.vm } : State) L mc ms ∧ ∀ z ∈ L, free z.base
def vx_Q (Qc : Array Value → State → Outcome → State → Prop) (XC : String → State → State → Prop) (mc ms : Nat) (free : Addr → Prop) : Array Value → State → Outcome → State → Prop := fun a st o t =>
  (Qc a st o t ∧ ∃ L, FrameEnd st o t L mc ms ∧ ∀ q ∈ L, free q.base) ∨ ∃ q, o = .threw q ∧ vx_T XC st q t mc ms free
/-- a callee that returns or throws -/
def vx_Met (l : Launch) (y : MethodName) (ws : List Cond) (rm : Room) (Pc : Array Value → State → Prop) (Qc : Array Value → State → Outcome → State → Prop) (XC : String → State → State → Prop) (mc ms : Nat) (free : Addr → Prop) : Prop :=
  MetFree l y (headSpec ws rm) Pc (fun _ _ _ _ _ => True) (vx_Q Qc XC mc ms free)
def vx_Post (XC : String → State → State → Prop) (mc ms : Nat) (free : Addr → Prop) : Pt → Array Value → Addr → Pt → Prop := fun A a q B =>
  ∃ (g : JFrame) (mk : MethodId) (t : State) (L : List Loc) (E : String) (ce : Cell), B.U.heap = t.heap ∧ B.U.vm = t.vm ∧ XC E (A.U.calling g mk a) t ∧ t.heap[q]? = some ce ∧ ce.vm = .none ∧ A.U.vm.findClass E = some ce.cls ∧ B.locs = A.locs ++ L ∧ (∀ z ∈ L, free z.base) ∧ B.cells = A.cells + mc ∧ B.slots = A.slots + ms
def vx_Back (l : Launch) (R : Room) (p : Program) (e : Env) (below : List Frame) (s : State) (sargs : Array Value) (y : MethodName) (len W9 : Nat)
    (Pre : Pt → Array Value → Prop) (Post : Pt → Array Value → Option Value → Pt → Prop) (PostX : Pt → Array Value → Addr → Pt → Prop) : Prop :=
  ∀ (m : MethodId) (meth : Method) (c : Code) (A : Pt) (g : JFrame) (ig : Instr) (mk : MethodId) (a : Array Value),
    Stand p l e R s m sargs below meth c A.U A.locs A.cells A.slots → g.method = m → g.locals.size = c.maxLocals → decode c.code g.pc = .ok (ig, len) →
    2 * g.monitorRoom + (g.stack.map fun v => v.category).sum ≤ W9 → A.U.methodNamed? y = some mk → Pre A a →
    (∃ (v : Option Value) (B : Pt), Stand p l e R s m sargs below meth c B.U B.locs B.cells B.slots ∧ Post A a v B ∧
      Steps p.tables e below (doInvoke e (A.U.setTop g) [] mk a).1 (B.U.setTop { g with pc := g.pc + len, stack := v.toList ++ g.stack })) ∨
    (∃ (q : Addr) (B : Pt), Stand p l e R s m sargs below meth c B.U B.locs B.cells B.slots ∧ PostX A a q B ∧
      Steps p.tables e below (doInvoke e (A.U.setTop g) [] mk a).1 ((B.U.setTop g).pushFrame (.throwing q)))
section Payer
variable {l : Launch} {R : Room} {p : Program} {e : Env} {below : List Frame} {s : State} {sargs : Array Value} {y : MethodName} {len W9 : Nat}
theorem vx_back {ws : List Cond} {rm : Room} {Pc : Array Value → State → Prop} {Qc : Array Value → State → Outcome → State → Prop} {XC : String → State → State → Prop} {mc ms : Nat} {free : Addr → Prop} {bytes : ByteArray} {maxL : Nat} {ret : Option FieldType}
    (hM : vx_Met l y ws rm Pc Qc XC mc ms free) (hblind : FrameBlind Pc) (hrc : rm.cells = mc) (hrs : rm.slots = ms)
    (hframes : rm.frames + 1 ≤ R.frames) (hlocals : W9 + (maxL + 11) + rm.locals ≤ R.locals)
    (hws : ∀ w ∈ ws, ∀ a' U, s.WarmedH U.vm → w.before a' U = true) (hcode : Cond.code y bytes maxL ret ∈ ws) (hinit : ∀ a' U, s.WarmedH U.vm → (Cond.initialized y.cls).before a' U = true) :
    vx_Back l R p e below s sargs y len W9 (PreOf R mc ms Pc) (PostOf Qc mc ms free) (vx_Post XC mc ms free) := by
  intro m meth c A g ig mk a X hg hsize hdg hW hn hp
  have h1 : (headSpec ws rm).pre.before a A.U = true := atoms_intro fun w hw => hws w hw _ _ X.warmed
  have h2 : (Cond.code y bytes maxL ret).before a A.U = true := hws _ hcode _ _ X.warmed
  have h3 : (Cond.initialized y.cls).before a A.U = true := hinit _ _ X.warmed
  have h4 : A.cells + (headSpec ws rm).room.cells ≤ R.cells := by rw [show (headSpec ws rm).room.cells = mc from hrc]; exact hp.1
  have h5 : A.slots + (headSpec ws rm).room.slots ≤ R.slots := by rw [show (headSpec ws rm).room.slots = ms from hrs]; exact hp.2.1
  have hPc : Pc a (A.U.calling g mk a) := hblind _ _ _ _ hp.2.2
  obtain ⟨U, Ls, c0, s0⟩ := A
  dsimp only [Pt.U, Pt.locs, Pt.cells, Pt.slots] at h1 h2 h3 h4 h5 X hn hPc ⊢
  obtain ⟨methY, cY, hmY, hcY, -, hlY, -, -, -, -⟩ := Cond.code_spec hn h2
  obtain ⟨kY, hkY, -⟩ := className_of_methodNamed hn
  have hinitY : kY.init = .initialized := Cond.initialized_spec (findClass_of_methodNamed hn) hkY h3
  have h : At U g.method c below := by rw [hg]; exact X.here
  have hlocals9 : W9 + (maxL + 11) + (headSpec ws rm).room.locals ≤ R.locals := hlocals
  have happ : (headSpec ws rm).appliesLoose y e.platform (U.calling g mk a) = true :=
    Spec.appliesLoose_calling (g := g) h hdg hn hkY hinitY
      (X.room_calling (g := g) (R' := (headSpec ws rm).room) hsize hmY hcY hframes (by rw [hlY]; omega) h4 h5) h1
  obtain ⟨mid, hmid⟩ := h.above
  have hfr : (U.setTop g).frames = (.java g :: mid) ++ below := by rw [State.frames_setTop' g h.top, hmid]; rfl
  obtain ⟨o, s₂, hsteps, -, hend, hq⟩ := Steps.callFree hM p X.admits X.cas X.clock (acts := []) hfr happ hPc trivial
  have hq' : vx_Q Qc XC mc ms free a (U.calling g mk a) o s₂ := hq
  rw [State.frames_setTop' g h.top] at hend
  obtain ⟨g₀, hg0⟩ := Option.isSome_iff_exists.mp h.top
  obtain ⟨r, hr⟩ := State.topJava?_eq_some.mp hg0
  have hr' : (({ U with heap := s₂.heap, slotsUsed := s₂.slotsUsed } : State).setVm s₂.vm).frames = .java g₀ :: r := hr
  rcases hq' with ⟨hqc, L, hfe, hL⟩ | ⟨q, rfl, E, ce, L, hx, hce, hcv, hcl, hW₂, hsm, hL⟩
  · obtain ⟨⟨v, rfl⟩, hW₂, e2, q2, q3, q4, q5, q6⟩ := id hfe
    have e3 : s₂ = ({ (U.calling g mk a).setFrames s₂.frames with heap := s₂.heap, slotsUsed := s₂.slotsUsed } : State).setVm s₂.vm := by
      have : s₂ = ({ s₂ with vm := (U.calling g mk a).vm } : State).setVm s₂.vm := rfl
      rw [e2] at this
      exact this
    obtain ⟨c₂, i₂, len₂, hc₂, hd₂, hf₂⟩ := hend
    have hW' : U.WarmedH s₂.vm := hW₂
    have hcc : c₂ = c := by
      have h1 : s₂.code? g.method = U.code? g.method := by
        rw [State.code?_eq, State.code?_eq, hW'.alike.method?]
      exact Option.some.inj (hc₂.symm.trans (h1.trans h.code))
    subst hcc
    have hlen : len₂ = len := by rw [hdg] at hd₂; cases hd₂; rfl
    subst hlen
    have hs₂ : s₂ = (({ U with heap := s₂.heap, slotsUsed := s₂.slotsUsed } : State).setVm s₂.vm).setTop { g with pc := g.pc + len₂, stack := v.toList ++ g.stack } := by
      refine e3.trans ?_
      rw [hf₂, State.calling_eq h.top, State.setFrames_setFrames, State.setTop_of_frames _ hr', hr]
      rfl
    have hsame : U.sameButNew ({ U with heap := s₂.heap, slotsUsed := s₂.slotsUsed } : State) L mc ms := by
      refine ⟨?_, q2, q3, q4, q5, q6⟩
      obtain ⟨t, ht, -⟩ := State.frames_cons hr
      show ({ U with heap := s₂.heap, slotsUsed := s₂.slotsUsed } : State) = { U.setFrames U.frames with heap := s₂.heap, slotsUsed := s₂.slotsUsed }
      rw [State.setFrames_self ht]
    subst hg
    refine Or.inl ⟨v, ⟨(({ U with heap := s₂.heap, slotsUsed := s₂.slotsUsed } : State).setVm s₂.vm), Ls ++ L, c0 + mc, s0 + ms⟩,
      ⟨X.admits, X.cas, X.clock, X.frames, X.room, X.hears, X.method, X.code, (X.here.setHeapUsed s₂.heap s₂.slotsUsed).setVm hW'.alike, X.tail, State.WarmedH.trans X.warmed hW', X.limits, X.bytes, X.same.trans (hsame.setVm s.vm)⟩,
      ⟨g, mk, s₂, L, rfl, rfl, hqc, rfl, hL, rfl, rfl⟩, ?_⟩
    show Steps p.tables e below _ ((({ U with heap := s₂.heap, slotsUsed := s₂.slotsUsed } : State).setVm s₂.vm).setTop { g with pc := g.pc + len₂, stack := v.toList ++ g.stack })
    rw [← hs₂]
    exact hsteps
  · obtain ⟨e2, q2, q3, q4, q5, q6⟩ := id hsm
    have e3 : s₂ = ({ (U.calling g mk a).setFrames s₂.frames with heap := s₂.heap, slotsUsed := s₂.slotsUsed } : State).setVm s₂.vm := by
      have : s₂ = ({ s₂ with vm := (U.calling g mk a).vm } : State).setVm s₂.vm := rfl
      rw [e2] at this
      exact this
    have hf₂ : s₂.frames = .throwing q :: .java g :: U.frames.tail := hend
    have hW' : U.WarmedH s₂.vm := hW₂
    have hs₂ : s₂ = ((({ U with heap := s₂.heap, slotsUsed := s₂.slotsUsed } : State).setVm s₂.vm).setTop g).pushFrame (.throwing q) := by
      refine e3.trans ?_
      rw [hf₂, State.calling_eq h.top, State.setFrames_setFrames, State.pushFrame, State.frames_setTop _ hr', State.setTop_of_frames _ hr', State.setFrames_setFrames, hr]
      rfl
    have hsame : U.sameButNew ({ U with heap := s₂.heap, slotsUsed := s₂.slotsUsed } : State) L mc ms := by
      refine ⟨?_, q2, q3, q4, q5, q6⟩
      obtain ⟨t, ht, -⟩ := State.frames_cons hr
      show ({ U with heap := s₂.heap, slotsUsed := s₂.slotsUsed } : State) = { U.setFrames U.frames with heap := s₂.heap, slotsUsed := s₂.slotsUsed }
      rw [State.setFrames_self ht]
    subst hg
    refine Or.inr ⟨q, ⟨(({ U with heap := s₂.heap, slotsUsed := s₂.slotsUsed } : State).setVm s₂.vm), Ls ++ L, c0 + mc, s0 + ms⟩,
      ⟨X.admits, X.cas, X.clock, X.frames, X.room, X.hears, X.method, X.code, (X.here.setHeapUsed s₂.heap s₂.slotsUsed).setVm hW'.alike, X.tail, State.WarmedH.trans X.warmed hW', X.limits, X.bytes, X.same.trans (hsame.setVm s.vm)⟩,
      ⟨g, mk, s₂, L, E, ce, rfl, rfl, hx, hce, hcv, hcl, rfl, hL, rfl, rfl⟩, ?_⟩
    show Steps p.tables e below _ (((({ U with heap := s₂.heap, slotsUsed := s₂.slotsUsed } : State).setVm s₂.vm).setTop g).pushFrame (.throwing q))
    rw [← hs₂]
    exact hsteps
end Payer
section Calls
variable {p : Program} {l : Launch} {e : Env} {R : Room} {s : State} {m : MethodId} {args : Array Value} {below : List Frame} {meth : Method} {c : Code} {T : State} {locs : List Loc} {cells slots : Nat}
theorem vx_callV (X : Stand p l e R s m args below meth c T locs cells slots) (hexec : p.tables.exec = Jvm.exec) {own C : String} {index : Nat} {y : MethodName} {bytes : ByteArray} {maxL : Nat} {ret : Option FieldType}
    (hown : s.vm.findClass own = some m.cls) (hlink : (Cond.methodLink own index y).before args s = true) (hinst : (Cond.instanceMethod y).before args s = true) (hsel : (Cond.selects C y y).before args s = true)
    (hcode : (Cond.code y bytes maxL ret).before args s = true) (hy : y.cls ≠ "java/lang/invoke/MethodHandle" ∧ y.cls ≠ "java/lang/invoke/VarHandle")
    {W9 : Nat} {Pre : Pt → Array Value → Prop} {Post : Pt → Array Value → Option Value → Pt → Prop} {PostX : Pt → Array Value → Addr → Pt → Prop} (hK : vx_Back l R p e below s args y 3 W9 Pre Post PostX)
    {b : Addr} {cellB : Cell} (hcell : T.heap[b]? = some cellB) (hobj : cellB.vm.isStatics = false) (hcls : s.vm.findClass C = some cellB.cls)
    {g : JFrame} (hg : g.method = m) (hsize : g.locals.size = c.maxLocals) {argsL rest : List Value} (hlen : ∀ sig, parseMethodDescriptor y.desc = some sig → argsL.length = sig.parameters.length)
    (hstack : g.stack = argsL.reverse ++ .ref b :: rest) (hW : 2 * g.monitorRoom + (rest.map fun v => v.category).sum ≤ W9) (hdg : decode c.code g.pc = .ok (.invokevirtual index, 3))
    (hpre : ∀ vm₁, s.WarmedH vm₁ → Pre ⟨T.setVm vm₁, locs, cells, slots⟩ (Value.ref b :: argsL).toArray) :
    (∃ (v : Option Value) (vm₁ : Vm) (B : Pt), s.WarmedH vm₁ ∧ Stand p l e R s m args below meth c B.U B.locs B.cells B.slots ∧ Post ⟨T.setVm vm₁, locs, cells, slots⟩ (Value.ref b :: argsL).toArray v B ∧
      ∀ target, Steps p.tables e below (B.U.setTop { g with pc := g.pc + 3, stack := v.toList ++ rest }) target → Steps p.tables e below (T.setTop g) target) ∨
    (∃ (q : Addr) (vm₁ : Vm) (B : Pt), s.WarmedH vm₁ ∧ Stand p l e R s m args below meth c B.U B.locs B.cells B.slots ∧ PostX ⟨T.setVm vm₁, locs, cells, slots⟩ (Value.ref b :: argsL).toArray q B ∧
      Steps p.tables e below (T.setTop g) ((B.U.setTop { g with stack := rest }).pushFrame (.throwing q))) := by
  obtain ⟨mk, methM, hnamed, hmethM, hstM, habM⟩ := Cond.instanceMethod_spec hinst
  obtain ⟨methM', cM, hmethM', -, -, -, -, -, -, hsigM⟩ := Cond.code_spec hnamed hcode
  cases hmethM.symm.trans hmethM'
  obtain ⟨c2, r2, m2, q1, q2, q3, q4, kP, hkP, hkPi⟩ := Cond.selects_spec hsel
  cases hcls.symm.trans q1
  cases (State.methodFound?_of_named hnamed hy).symm.trans q2
  cases hnamed.symm.trans q3
  have hselP : selectMethod e.platform s.vm cellB.cls mk = .method mk := by rw [Launch.admits_selectMethod X.admits]; exact q4
  obtain ⟨vm₁, X₁, hstep₁⟩ := X.invokevirtual hexec hown hlink hnamed hmethM hstM hkP hkPi hy (a := b) (cell := cellB) hcell
    (fun z h => by rw [h] at hobj; cases hobj) hselP hmethM habM hkP hkPi (g := g) hg (argsL := argsL) (rest := rest) (hlen _ hsigM) hstack hdg
  rcases hK m meth c ⟨T.setVm vm₁, locs, cells, slots⟩ { g with stack := rest } (.invokevirtual index) mk (Value.ref b :: argsL).toArray X₁ hg hsize hdg hW (X₁.named hnamed) (hpre vm₁ X₁.warmed) with ⟨v, B, X', hpost, hsteps⟩ | ⟨q, B, X', hpost, hsteps⟩
  · exact Or.inl ⟨v, vm₁, B, X₁.warmed, X', hpost, fun target h => hstep₁ _ fun acts => by rw [doInvoke_state]; exact hsteps.trans h⟩
  · exact Or.inr ⟨q, vm₁, B, X₁.warmed, X', hpost, hstep₁ _ fun acts => by rw [doInvoke_state]; exact hsteps⟩
theorem vx_callS (X : Stand p l e R s m args below meth c T locs cells slots) (hexec : p.tables.exec = Jvm.exec) {own : String} {index : Nat} {y : MethodName} {bytes : ByteArray} {maxL : Nat} {ret : Option FieldType}
    (hown : s.vm.findClass own = some m.cls) (hlink : (Cond.methodLink own index y).before args s = true) (hstat : (Cond.static y).before args s = true) (hinit : (Cond.initialized y.cls).before args s = true)
    (hcode : (Cond.code y bytes maxL ret).before args s = true) (hy : y.cls ≠ "java/lang/invoke/MethodHandle" ∧ y.cls ≠ "java/lang/invoke/VarHandle")
    {W9 : Nat} {Pre : Pt → Array Value → Prop} {Post : Pt → Array Value → Option Value → Pt → Prop} {PostX : Pt → Array Value → Addr → Pt → Prop} (hK : vx_Back l R p e below s args y 3 W9 Pre Post PostX)
    {g : JFrame} (hg : g.method = m) (hsize : g.locals.size = c.maxLocals) {argsL rest : List Value} (hlen : ∀ sig, parseMethodDescriptor y.desc = some sig → argsL.length = sig.parameters.length)
    (hstack : g.stack = argsL.reverse ++ rest) (hW : 2 * g.monitorRoom + (rest.map fun v => v.category).sum ≤ W9) (hdg : decode c.code g.pc = .ok (.invokestatic index, 3))
    (hpre : ∀ vm₁, s.WarmedH vm₁ → Pre ⟨T.setVm vm₁, locs, cells, slots⟩ argsL.toArray) :
    (∃ (v : Option Value) (vm₁ : Vm) (B : Pt), s.WarmedH vm₁ ∧ Stand p l e R s m args below meth c B.U B.locs B.cells B.slots ∧ Post ⟨T.setVm vm₁, locs, cells, slots⟩ argsL.toArray v B ∧
      ∀ target, Steps p.tables e below (B.U.setTop { g with pc := g.pc + 3, stack := v.toList ++ rest }) target → Steps p.tables e below (T.setTop g) target) ∨
    (∃ (q : Addr) (vm₁ : Vm) (B : Pt), s.WarmedH vm₁ ∧ Stand p l e R s m args below meth c B.U B.locs B.cells B.slots ∧ PostX ⟨T.setVm vm₁, locs, cells, slots⟩ argsL.toArray q B ∧
      Steps p.tables e below (T.setTop g) ((B.U.setTop { g with stack := rest }).pushFrame (.throwing q))) := by
  obtain ⟨mk, hnamed⟩ := Cond.code_named hcode
  obtain ⟨methM, cM, hmethM, -, -, -, -, -, -, hsigM⟩ := Cond.code_spec hnamed hcode
  have hstatic : methM.isStatic = true := Cond.static_spec hnamed hmethM hstat
  obtain ⟨kP, hkP, -⟩ := className_of_methodNamed hnamed
  have hinitP : kP.init = .initialized := Cond.initialized_spec (findClass_of_methodNamed hnamed) hkP hinit
  obtain ⟨vm₁, X₁, hstep₁⟩ := X.invokestatic hexec hown hlink hnamed hmethM hstatic hkP hinitP hy (g := g) hg (argsL := argsL) (rest := rest) (hlen _ hsigM) hstack hdg
  rcases hK m meth c ⟨T.setVm vm₁, locs, cells, slots⟩ { g with stack := rest } (.invokestatic index) mk argsL.toArray X₁ hg hsize hdg hW (X₁.named hnamed) (hpre vm₁ X₁.warmed) with ⟨v, B, X', hpost, hsteps⟩ | ⟨q, B, X', hpost, hsteps⟩
  · exact Or.inl ⟨v, vm₁, B, X₁.warmed, X', hpost, fun target h => hstep₁ _ fun acts => by rw [doInvoke_state]; exact hsteps.trans h⟩
  · exact Or.inr ⟨q, vm₁, B, X₁.warmed, X', hpost, hstep₁ _ fun acts => by rw [doInvoke_state]; exact hsteps⟩
end Calls
theorem vx_cls {s : State} {T : State} {vm₁ : Vm} {E : String} {k : ClassId} (hW : s.WarmedH vm₁) (h : (T.setVm vm₁).vm.findClass E = some k) : s.vm.findClass E = some k := by
  have h1 : vm₁.findClass E = some k := h
  rw [hW.alike.findClass] at h1
  exact h1
/-- the method's frame g, with q thrown over it -/
def vx_W (p : Program) (l : Launch) (e : Env) (R : Room) (s : State) (m : MethodId) (args : Array Value) (below : List Frame) (meth : Method) (c : Code) (H : Heap) (locs : List Loc) (cells slots : Nat) (Q : State → Prop) (g : JFrame) (q : Addr) : Prop :=
  ∀ T : State, T.heap = H → Stand p l e R s m args below meth c T locs cells slots → ∃ t, Steps p.tables e below ((T.setTop g).pushFrame (.throwing q)) t ∧ Q t
def vx_Run (p : Program) (l : Launch) (e : Env) (R : Room) (s : State) (m : MethodId) (args : Array Value) (below : List Frame) (meth : Method) (c : Code) (H : Heap) (locs : List Loc) (cells slots mc ms : Nat) (g : JFrame) (rest : List Value) (Qa : State → Outcome → State → Prop) (XC : String → State → State → Prop) (free : Addr → Prop) : Prop :=
  ∀ T : State, T.heap = H → Stand p l e R s m args below meth c T locs cells slots →
    (∃ (v : Option Value) (st₀ t T' : State) (L : List Loc), st₀.heap = H ∧ Stand p l e R s m args below meth c T' (locs ++ L) (cells + mc) (slots + ms) ∧ (∀ q ∈ L, free q.base) ∧ T'.heap = t.heap ∧ T'.vm = t.vm ∧ Qa st₀ (.returned v) t ∧
      Goes p e below T g T' { g with pc := g.pc + 3, stack := v.toList ++ rest }) ∨
    (∃ (q : Addr) (st₀ t T' : State) (L : List Loc) (E : String) (ce : Cell), st₀.heap = H ∧ Stand p l e R s m args below meth c T' (locs ++ L) (cells + mc) (slots + ms) ∧ (∀ z ∈ L, free z.base) ∧ T'.heap = t.heap ∧ T'.vm = t.vm ∧ XC E st₀ t ∧ t.heap[q]? = some ce ∧ ce.vm = .none ∧ s.vm.findClass E = some ce.cls ∧
      Steps p.tables e below (T.setTop g) ((T'.setTop { g with stack := rest }).pushFrame (.throwing q)))
def vx_X {S : Type} (px : S → Prop) (B : String → S → State → Prop) (A : Nat → Prop) : String → State → State → Prop := fun E st t => ∃ u : S, px u ∧ B E u t ∧ va_F A st t
section Runs
variable {p : Program} {l : Launch} {e : Env} {R : Room} {s : State} {m : MethodId} {args : Array Value} {below : List Frame} {meth : Method} {c : Code} {H : Heap} {locs : List Loc} {cells slots : Nat}
variable {y : MethodName} {bytes cc : ByteArray} {maxL nL mc ms n index : Nat} {ret : Option FieldType} {ws : List Cond} {rm : Room} {Pc : Array Value → State → Prop} {Qc : Array Value → State → Outcome → State → Prop} {XC : String → State → State → Prop} {free : Addr → Prop} {Ts : List Cond} {own C : String} {b : Addr} {As rest : List Value} {g : JFrame}
theorem vx_callBack (cb : CallB R s args own index y bytes maxL ret ws rm mc ms n) (hM : vx_Met l y ws rm Pc Qc XC mc ms free) (hbl : FrameBlind Pc) : vx_Back l R p e below s args y 3 8 (PreOf R mc ms Pc) (PostOf Qc mc ms free) (vx_Post XC mc ms free) := by
  obtain ⟨hrc, hrs, hfr, hlo, hws, hcw, -, hini, -⟩ := cb
  exact vx_back (bytes := bytes) (maxL := maxL) (ret := ret) hM hbl hrc hrs hfr hlo hws hcw (fun a' U hW => word_at hW (Or.inl (by first | rfl | simp [Cond.onTables, Cond.keeps, Cond.steady])) hini)
theorem vx_runV (S : CallFix p m c cc nL s args Ts own) (hM : vx_Met l y ws rm Pc Qc XC mc ms free) (cw : CallW R s args own C index y bytes maxL ret ws rm mc ms n) (hp : PreV s H C b Pc As)
    (hg : g.method = m) (hn : As.length = n) (hsize : g.locals.size = nL) (hstack : g.stack = As.reverse ++ .ref b :: rest) (hW : 2 * g.monitorRoom + (rest.map fun v => v.category).sum ≤ 8) (hdg : decode cc g.pc = .ok (.invokevirtual index, 3)) (hf : cells + mc ≤ R.cells ∧ slots + ms ≤ R.slots) :
    vx_Run p l e R s m args below meth c H locs cells slots mc ms g rest (Qc (Value.ref b :: As).toArray) XC free := by
  have hK : vx_Back l R p e below s args y 3 8 (PreOf R mc ms Pc) (PostOf Qc mc ms free) (vx_Post XC mc ms free) := vx_callBack cw.1 hM hp.1
  obtain ⟨⟨-, -, -, -, -, -, hcode, -, hy, hlen, hl⟩, hin, hse⟩ := cw
  obtain ⟨hx, hb, hml, ho, -⟩ := S
  obtain ⟨-, ⟨cellB, hcB, hoB, hclB⟩, hPc⟩ := hp
  intro T hT X
  rcases vx_callV X hx (C := C) (bytes := bytes) (maxL := maxL) (ret := ret) ho hl hin hse hcode hy hK (by rw [hT]; exact hcB) hoB hclB hg (hsize.trans hml.symm) (argsL := As) (rest := rest) (fun sig h => hn.trans (hlen sig h)) hstack hW (by rw [hb]; exact hdg)
    (fun vm₁ hW₁ => ⟨hf.1, hf.2, hPc (T.setVm vm₁) hT hW₁⟩) with ⟨v, vm₁, ⟨U', l2, c2, s2⟩, hW₁, X', ⟨g', mk, t, L, e1, e2, hq, h1, hL, h2, h3⟩, st⟩ | ⟨q, vm₁, ⟨U', l2, c2, s2⟩, hW₁, X', ⟨g', mk, t, L, E, ce, e1, e2, hq, hce, hcv, hcl, h1, hL, h2, h3⟩, st⟩
  · dsimp only [Pt.U, Pt.locs, Pt.cells, Pt.slots] at X' e1 e2 h1 h2 h3 st
    subst h1; subst h2; subst h3
    exact Or.inl ⟨v, (T.setVm vm₁).calling g' mk (Value.ref b :: As).toArray, t, U', L, hT, X', hL, e1, e2, hq, st⟩
  · dsimp only [Pt.U, Pt.locs, Pt.cells, Pt.slots] at X' e1 e2 h1 h2 h3 st hcl
    subst h1; subst h2; subst h3
    exact Or.inr ⟨q, (T.setVm vm₁).calling g' mk (Value.ref b :: As).toArray, t, U', L, E, ce, hT, X', hL, e1, e2, hq, hce, hcv, vx_cls hW₁ hcl, st⟩
theorem vx_runS (S : CallFix p m c cc nL s args Ts own) (hM : vx_Met l y ws rm Pc Qc XC mc ms free) (cw : CallB R s args own index y bytes maxL ret ws rm mc ms n ∧ (Cond.static y).before args s = true) (hp : PreS s H Pc As)
    (hg : g.method = m) (hn : As.length = n) (hsize : g.locals.size = nL) (hstack : g.stack = As.reverse ++ rest) (hW : 2 * g.monitorRoom + (rest.map fun v => v.category).sum ≤ 8) (hdg : decode cc g.pc = .ok (.invokestatic index, 3)) (hf : cells + mc ≤ R.cells ∧ slots + ms ≤ R.slots) :
    vx_Run p l e R s m args below meth c H locs cells slots mc ms g rest (Qc As.toArray) XC free := by
  have hK : vx_Back l R p e below s args y 3 8 (PreOf R mc ms Pc) (PostOf Qc mc ms free) (vx_Post XC mc ms free) := vx_callBack cw.1 hM hp.1
  obtain ⟨⟨-, -, -, -, -, -, hcode, hini, hy, hlen, hl⟩, hstt⟩ := cw
  obtain ⟨hx, hb, hml, ho, -⟩ := S
  intro T hT X
  rcases vx_callS X hx (bytes := bytes) (maxL := maxL) (ret := ret) ho hl hstt hini hcode hy hK hg (hsize.trans hml.symm) (argsL := As) (rest := rest) (fun sig h => hn.trans (hlen sig h)) hstack hW (by rw [hb]; exact hdg)
    (fun vm₁ hW₁ => ⟨hf.1, hf.2, hp.2 (T.setVm vm₁) hT hW₁⟩) with ⟨v, vm₁, ⟨U', l2, c2, s2⟩, hW₁, X', ⟨g', mk, t, L, e1, e2, hq, h1, hL, h2, h3⟩, st⟩ | ⟨q, vm₁, ⟨U', l2, c2, s2⟩, hW₁, X', ⟨g', mk, t, L, E, ce, e1, e2, hq, hce, hcv, hcl, h1, hL, h2, h3⟩, st⟩
  · dsimp only [Pt.U, Pt.locs, Pt.cells, Pt.slots] at X' e1 e2 h1 h2 h3 st
    subst h1; subst h2; subst h3
    exact Or.inl ⟨v, (T.setVm vm₁).calling g' mk As.toArray, t, U', L, hT, X', hL, e1, e2, hq, st⟩
  · dsimp only [Pt.U, Pt.locs, Pt.cells, Pt.slots] at X' e1 e2 h1 h2 h3 st hcl
    subst h1; subst h2; subst h3
    exact Or.inr ⟨q, (T.setVm vm₁).calling g' mk As.toArray, t, U', L, E, ce, hT, X', hL, e1, e2, hq, hce, hcv, vx_cls hW₁ hcl, st⟩
end Runs
section Rows
variable {p : Program} {l : Launch} {e : Env} {R : Room} {s : State} {m : MethodId} {args : Array Value} {below : List Frame} {meth : Method} {c : Code} {H : Heap} {locs : List Loc} {cells slots : Nat} {Q : State → Prop}
variable {mc ms : Nat} {free : Addr → Prop} {A0 A1 : Nat → Prop} {H0 : Heap} {a : Array Value} {pc : Nat} {ls : Array Slot} {st0 rest : List Value}
theorem vx_keep {st₀ t T' : State} {L : List Loc} (h0 : st₀.heap = H) (e1 : T'.heap = t.heap) (hS : va_S A0 H0 H locs) (hA : ∀ q, q < H.size → A1 q → A0 q) (hf : ∀ q, free q → A0 q) (hL : ∀ q ∈ L, free q.base) (hF : va_F A1 st₀ t) :
    H.size ≤ T'.heap.size ∧ (∀ q : Nat, q < H.size → ¬ A1 q → T'.heap[q]? = H[q]?) ∧ va_S A0 H0 T'.heap (locs ++ L) := by
  obtain ⟨hz, hk⟩ := hF
  rw [h0] at hz hk
  exact ⟨by rw [e1]; exact hz, fun q h1 h2 => by rw [e1]; exact hk q h1 h2,
    ⟨Nat.le_trans hS.1 (by rw [e1]; exact hz), fun q h1 h2 => by rw [e1, hk q (Nat.lt_of_lt_of_le h1 hS.1) (fun z => h2 (hA q (Nat.lt_of_lt_of_le h1 hS.1) z))]; exact hS.2.1 q h1 h2, fun q hq => by
      rcases List.mem_append.mp hq with h | h
      · exact hS.2.2 q h
      · exact hf _ (hL q h)⟩⟩
theorem vx_calli {S SX : Type} {post : Int32 → S → Prop} {px : SX → Prop} {B : S → State → Prop} {BX : String → SX → State → Prop} {AX : Nat → Prop} (hr : vx_Run p l e R s m args below meth c H locs cells slots mc ms (F0 m pc ls st0) rest (va_Qi post B A1 a) (vx_X px BX AX) free) (hS : va_S A0 H0 H locs) (hA : ∀ q, q < H.size → A1 q → A0 q) (hf : ∀ q, free q → A0 q) (hAX : ∀ q, q < H.size → AX q → A0 q)
    (kx : ∀ (E : String) (ce : Cell) (q9 : Addr) (u : SX) (t : State) (H1 : Heap) (locs1 : List Loc), t.heap = H1 → s.vm.Alike t.vm → px u → BX E u t → H.size ≤ H1.size → (∀ q : Nat, q < H.size → ¬ AX q → H1[q]? = H[q]?) → va_S A0 H0 H1 locs1 → H1[q9]? = some ce → ce.vm = .none → s.vm.findClass E = some ce.cls → vx_W p l e R s m args below meth c H1 locs1 (cells + mc) (slots + ms) Q (F0 m pc ls rest) q9)
    (kk : ∀ (r : Int32) (u : S) (t : State) (H1 : Heap) (locs1 : List Loc), t.heap = H1 → s.vm.Alike t.vm → post r u → B u t → H.size ≤ H1.size → (∀ q : Nat, q < H.size → ¬ A1 q → H1[q]? = H[q]?) → va_S A0 H0 H1 locs1 → W p l e R s m args below meth c H1 locs1 (cells + mc) (slots + ms) Q (F0 m (pc + 3) ls (.int r :: rest))) : W p l e R s m args below meth c H locs cells slots Q (F0 m pc ls st0) := by
  intro T hT X
  rcases hr T hT X with ⟨v, st₀, t, T', L, h0, X', hL, e1, e2, ⟨⟨r, u, hv, hp, hb⟩, hF⟩, st⟩ | ⟨q, st₀, t, T', L, E, ce, h0, X', hL, e1, e2, ⟨u, hp, hb, hF⟩, hce, hcv, hcl, st⟩
  · cases hv
    obtain ⟨k1, k2, k3⟩ := vx_keep h0 e1 hS hA hf hL hF
    obtain ⟨t2, a1, b1⟩ := kk r u t T'.heap (locs ++ L) e1.symm (by rw [← e2]; exact X'.warmed.alike) hp hb k1 k2 k3 T' rfl X'
    exact ⟨t2, st t2 a1, b1⟩
  · obtain ⟨k1, k2, k3⟩ := vx_keep h0 e1 hS hAX hf hL hF
    obtain ⟨t2, a1, b1⟩ := kx E ce q u t T'.heap (locs ++ L) e1.symm (by rw [← e2]; exact X'.warmed.alike) hp hb k1 k2 k3 (by rw [e1]; exact hce) hcv hcl T' rfl X'
    exact ⟨t2, st.trans a1, b1⟩
theorem vx_calll {S SX : Type} {post : Int64 → S → Prop} {px : SX → Prop} {B : S → State → Prop} {BX : String → SX → State → Prop} {AX : Nat → Prop} (hr : vx_Run p l e R s m args below meth c H locs cells slots mc ms (F0 m pc ls st0) rest (va_Ql post B A1 a) (vx_X px BX AX) free) (hS : va_S A0 H0 H locs) (hA : ∀ q, q < H.size → A1 q → A0 q) (hf : ∀ q, free q → A0 q) (hAX : ∀ q, q < H.size → AX q → A0 q)
    (kx : ∀ (E : String) (ce : Cell) (q9 : Addr) (u : SX) (t : State) (H1 : Heap) (locs1 : List Loc), t.heap = H1 → s.vm.Alike t.vm → px u → BX E u t → H.size ≤ H1.size → (∀ q : Nat, q < H.size → ¬ AX q → H1[q]? = H[q]?) → va_S A0 H0 H1 locs1 → H1[q9]? = some ce → ce.vm = .none → s.vm.findClass E = some ce.cls → vx_W p l e R s m args below meth c H1 locs1 (cells + mc) (slots + ms) Q (F0 m pc ls rest) q9)
    (kk : ∀ (r : Int64) (u : S) (t : State) (H1 : Heap) (locs1 : List Loc), t.heap = H1 → s.vm.Alike t.vm → post r u → B u t → H.size ≤ H1.size → (∀ q : Nat, q < H.size → ¬ A1 q → H1[q]? = H[q]?) → va_S A0 H0 H1 locs1 → W p l e R s m args below meth c H1 locs1 (cells + mc) (slots + ms) Q (F0 m (pc + 3) ls (.long r :: rest))) : W p l e R s m args below meth c H locs cells slots Q (F0 m pc ls st0) := by
  intro T hT X
  rcases hr T hT X with ⟨v, st₀, t, T', L, h0, X', hL, e1, e2, ⟨⟨r, u, hv, hp, hb⟩, hF⟩, st⟩ | ⟨q, st₀, t, T', L, E, ce, h0, X', hL, e1, e2, ⟨u, hp, hb, hF⟩, hce, hcv, hcl, st⟩
  · cases hv
    obtain ⟨k1, k2, k3⟩ := vx_keep h0 e1 hS hA hf hL hF
    obtain ⟨t2, a1, b1⟩ := kk r u t T'.heap (locs ++ L) e1.symm (by rw [← e2]; exact X'.warmed.alike) hp hb k1 k2 k3 T' rfl X'
    exact ⟨t2, st t2 a1, b1⟩
  · obtain ⟨k1, k2, k3⟩ := vx_keep h0 e1 hS hAX hf hL hF
    obtain ⟨t2, a1, b1⟩ := kx E ce q u t T'.heap (locs ++ L) e1.symm (by rw [← e2]; exact X'.warmed.alike) hp hb k1 k2 k3 (by rw [e1]; exact hce) hcv hcl T' rfl X'
    exact ⟨t2, st.trans a1, b1⟩
theorem vx_callf {S SX : Type} {post : UInt32 → S → Prop} {px : SX → Prop} {B : S → State → Prop} {BX : String → SX → State → Prop} {AX : Nat → Prop} (hr : vx_Run p l e R s m args below meth c H locs cells slots mc ms (F0 m pc ls st0) rest (va_Qf post B A1 a) (vx_X px BX AX) free) (hS : va_S A0 H0 H locs) (hA : ∀ q, q < H.size → A1 q → A0 q) (hf : ∀ q, free q → A0 q) (hAX : ∀ q, q < H.size → AX q → A0 q)
    (kx : ∀ (E : String) (ce : Cell) (q9 : Addr) (u : SX) (t : State) (H1 : Heap) (locs1 : List Loc), t.heap = H1 → s.vm.Alike t.vm → px u → BX E u t → H.size ≤ H1.size → (∀ q : Nat, q < H.size → ¬ AX q → H1[q]? = H[q]?) → va_S A0 H0 H1 locs1 → H1[q9]? = some ce → ce.vm = .none → s.vm.findClass E = some ce.cls → vx_W p l e R s m args below meth c H1 locs1 (cells + mc) (slots + ms) Q (F0 m pc ls rest) q9)
    (kk : ∀ (r : UInt32) (u : S) (t : State) (H1 : Heap) (locs1 : List Loc), t.heap = H1 → s.vm.Alike t.vm → post r u → B u t → H.size ≤ H1.size → (∀ q : Nat, q < H.size → ¬ A1 q → H1[q]? = H[q]?) → va_S A0 H0 H1 locs1 → W p l e R s m args below meth c H1 locs1 (cells + mc) (slots + ms) Q (F0 m (pc + 3) ls (.float r :: rest))) : W p l e R s m args below meth c H locs cells slots Q (F0 m pc ls st0) := by
  intro T hT X
  rcases hr T hT X with ⟨v, st₀, t, T', L, h0, X', hL, e1, e2, ⟨⟨r, u, hv, hp, hb⟩, hF⟩, st⟩ | ⟨q, st₀, t, T', L, E, ce, h0, X', hL, e1, e2, ⟨u, hp, hb, hF⟩, hce, hcv, hcl, st⟩
  · cases hv
    obtain ⟨k1, k2, k3⟩ := vx_keep h0 e1 hS hA hf hL hF
    obtain ⟨t2, a1, b1⟩ := kk r u t T'.heap (locs ++ L) e1.symm (by rw [← e2]; exact X'.warmed.alike) hp hb k1 k2 k3 T' rfl X'
    exact ⟨t2, st t2 a1, b1⟩
  · obtain ⟨k1, k2, k3⟩ := vx_keep h0 e1 hS hAX hf hL hF
    obtain ⟨t2, a1, b1⟩ := kx E ce q u t T'.heap (locs ++ L) e1.symm (by rw [← e2]; exact X'.warmed.alike) hp hb k1 k2 k3 (by rw [e1]; exact hce) hcv hcl T' rfl X'
    exact ⟨t2, st.trans a1, b1⟩
theorem vx_calld {S SX : Type} {post : UInt64 → S → Prop} {px : SX → Prop} {B : S → State → Prop} {BX : String → SX → State → Prop} {AX : Nat → Prop} (hr : vx_Run p l e R s m args below meth c H locs cells slots mc ms (F0 m pc ls st0) rest (va_Qd post B A1 a) (vx_X px BX AX) free) (hS : va_S A0 H0 H locs) (hA : ∀ q, q < H.size → A1 q → A0 q) (hf : ∀ q, free q → A0 q) (hAX : ∀ q, q < H.size → AX q → A0 q)
    (kx : ∀ (E : String) (ce : Cell) (q9 : Addr) (u : SX) (t : State) (H1 : Heap) (locs1 : List Loc), t.heap = H1 → s.vm.Alike t.vm → px u → BX E u t → H.size ≤ H1.size → (∀ q : Nat, q < H.size → ¬ AX q → H1[q]? = H[q]?) → va_S A0 H0 H1 locs1 → H1[q9]? = some ce → ce.vm = .none → s.vm.findClass E = some ce.cls → vx_W p l e R s m args below meth c H1 locs1 (cells + mc) (slots + ms) Q (F0 m pc ls rest) q9)
    (kk : ∀ (r : UInt64) (u : S) (t : State) (H1 : Heap) (locs1 : List Loc), t.heap = H1 → s.vm.Alike t.vm → post r u → B u t → H.size ≤ H1.size → (∀ q : Nat, q < H.size → ¬ A1 q → H1[q]? = H[q]?) → va_S A0 H0 H1 locs1 → W p l e R s m args below meth c H1 locs1 (cells + mc) (slots + ms) Q (F0 m (pc + 3) ls (.double r :: rest))) : W p l e R s m args below meth c H locs cells slots Q (F0 m pc ls st0) := by
  intro T hT X
  rcases hr T hT X with ⟨v, st₀, t, T', L, h0, X', hL, e1, e2, ⟨⟨r, u, hv, hp, hb⟩, hF⟩, st⟩ | ⟨q, st₀, t, T', L, E, ce, h0, X', hL, e1, e2, ⟨u, hp, hb, hF⟩, hce, hcv, hcl, st⟩
  · cases hv
    obtain ⟨k1, k2, k3⟩ := vx_keep h0 e1 hS hA hf hL hF
    obtain ⟨t2, a1, b1⟩ := kk r u t T'.heap (locs ++ L) e1.symm (by rw [← e2]; exact X'.warmed.alike) hp hb k1 k2 k3 T' rfl X'
    exact ⟨t2, st t2 a1, b1⟩
  · obtain ⟨k1, k2, k3⟩ := vx_keep h0 e1 hS hAX hf hL hF
    obtain ⟨t2, a1, b1⟩ := kx E ce q u t T'.heap (locs ++ L) e1.symm (by rw [← e2]; exact X'.warmed.alike) hp hb k1 k2 k3 (by rw [e1]; exact hce) hcv hcl T' rfl X'
    exact ⟨t2, st.trans a1, b1⟩
theorem vx_callv {S SX : Type} {post : S → Prop} {px : SX → Prop} {B : S → State → Prop} {BX : String → SX → State → Prop} {AX : Nat → Prop} (hr : vx_Run p l e R s m args below meth c H locs cells slots mc ms (F0 m pc ls st0) rest (va_Qv post B A1 a) (vx_X px BX AX) free) (hS : va_S A0 H0 H locs) (hA : ∀ q, q < H.size → A1 q → A0 q) (hf : ∀ q, free q → A0 q) (hAX : ∀ q, q < H.size → AX q → A0 q)
    (kx : ∀ (E : String) (ce : Cell) (q9 : Addr) (u : SX) (t : State) (H1 : Heap) (locs1 : List Loc), t.heap = H1 → s.vm.Alike t.vm → px u → BX E u t → H.size ≤ H1.size → (∀ q : Nat, q < H.size → ¬ AX q → H1[q]? = H[q]?) → va_S A0 H0 H1 locs1 → H1[q9]? = some ce → ce.vm = .none → s.vm.findClass E = some ce.cls → vx_W p l e R s m args below meth c H1 locs1 (cells + mc) (slots + ms) Q (F0 m pc ls rest) q9)
    (kk : ∀ (u : S) (t : State) (H1 : Heap) (locs1 : List Loc), t.heap = H1 → s.vm.Alike t.vm → post u → B u t → H.size ≤ H1.size → (∀ q : Nat, q < H.size → ¬ A1 q → H1[q]? = H[q]?) → va_S A0 H0 H1 locs1 → W p l e R s m args below meth c H1 locs1 (cells + mc) (slots + ms) Q (F0 m (pc + 3) ls (rest))) : W p l e R s m args below meth c H locs cells slots Q (F0 m pc ls st0) := by
  intro T hT X
  rcases hr T hT X with ⟨v, st₀, t, T', L, h0, X', hL, e1, e2, ⟨⟨u, hv, hp, hb⟩, hF⟩, st⟩ | ⟨q, st₀, t, T', L, E, ce, h0, X', hL, e1, e2, ⟨u, hp, hb, hF⟩, hce, hcv, hcl, st⟩
  · cases hv
    obtain ⟨k1, k2, k3⟩ := vx_keep h0 e1 hS hA hf hL hF
    obtain ⟨t2, a1, b1⟩ := kk u t T'.heap (locs ++ L) e1.symm (by rw [← e2]; exact X'.warmed.alike) hp hb k1 k2 k3 T' rfl X'
    exact ⟨t2, st t2 a1, b1⟩
  · obtain ⟨k1, k2, k3⟩ := vx_keep h0 e1 hS hAX hf hL hF
    obtain ⟨t2, a1, b1⟩ := kx E ce q u t T'.heap (locs ++ L) e1.symm (by rw [← e2]; exact X'.warmed.alike) hp hb k1 k2 k3 (by rw [e1]; exact hce) hcv hcl T' rfl X'
    exact ⟨t2, st.trans a1, b1⟩
/-- caught by the row x of this method's table; the rows ahead don't take it -/
theorem vx_catch {own name : String} {E : String} {ce : Cell} {q : Addr} (hown : s.vm.findClass own = some m.cls) (pre : List ExceptionTableEntry) (x : ExceptionTableEntry) (suf : List ExceptionTableEntry) (hsplit : c.exceptionTable.toList = pre ++ x :: suf)
    (hpass : ∀ z ∈ pre, covers z pc = false ∨ (z.catchType ≠ 0 ∧ ∃ nm : String, (Cond.classLink own z.catchType nm).before args s = true ∧ va_Nc E nm s)) (hx : covers x pc = true) (h0 : x.catchType ≠ 0)
    (hlink : (Cond.classLink own x.catchType name).before args s = true) (hcast : (Cond.castable E name).before args s = true) (hcell : H[q]? = some ce) (hv : ce.vm = .none) (hcl : s.vm.findClass E = some ce.cls)
    (kk : W p l e R s m args below meth c H locs cells slots Q (F0 m x.handlerPc ls [.ref q])) : vx_W p l e R s m args below meth c H locs cells slots Q (F0 m pc ls rest) q := by
  intro T hT X
  have hpl : e.platform.magicAccessors = ({} : Platform).magicAccessors := by rw [X.admits.platform]
  obtain ⟨c3, c4, hc3, hc4, hasg⟩ := Cond.castable_spec hcast
  cases Option.some.inj (hc3.symm.trans hcl)
  obtain ⟨c5, hc5, hcl5⟩ := Cond.classLink_spec hown hlink e.platform hpl
  cases Option.some.inj (hc4.symm.trans hc5)
  obtain ⟨vm', X', st⟩ := X.thenCaughtThrough q (g := F0 m pc ls rest) rfl (Steps.refl _) (by rw [hT]; exact hcell) (by rw [hv]; rfl) (by obtain ⟨k9, h9, -⟩ := Vm.findClass_spec hcl; exact ⟨k9, h9⟩) pre x suf hsplit
    (fun z hz => by
      rcases hpass z hz with h | ⟨hz0, nm, hl1, hn1⟩
      · exact Or.inl h
      · obtain ⟨c6, hc6, hcl6⟩ := Cond.classLink_spec hown hl1 e.platform hpl
        obtain ⟨a8, b8, h1, h2, h3⟩ := hn1
        cases Option.some.inj (h1.symm.trans hcl)
        cases Option.some.inj (h2.symm.trans hc6)
        exact Or.inr ⟨hz0, _, hcl6, h3⟩) hx (Or.inr ⟨h0, c4, hcl5, hasg⟩)
  obtain ⟨t, a1, b1⟩ := kk (T.setVm vm') hT X'
  exact ⟨t, st.trans a1, b1⟩
end Rows
section Ends
variable {p : Program} {l : Launch} {e : Env} {R : Room} {s : State} {m : MethodId} {args : Array Value} {below : List Frame} {meth : Method} {c : Code} {H : Heap} {locs : List Loc} {cells slots : Nat} {Q : State → Prop}
variable {mc ms : Nat} {free : Addr → Prop} {A0 A1 : Nat → Prop} {H0 : Heap} {a : Array Value} {ls : Array Slot} {st0 rest : List Value}
variable {Qc : Array Value → State → Outcome → State → Prop} {XC : String → State → State → Prop}
/-- what a body that may throw owes at its end -/
def vx_MQ (below : List Frame) (Qc : Array Value → State → Outcome → State → Prop) (XC : String → State → State → Prop) (a : Array Value) (s : State) (mc ms : Nat) (free : Addr → Prop) : State → Prop := fun t =>
  ∃ o, t.status = .running ∧ Ended t below o ∧ vx_Q Qc XC mc ms free a s o t
theorem vx_ret {g : JFrame} {mc ms : Nat} (k : W p l e R s m args below meth c H locs cells slots (MQ below Qc args s mc ms free) g) : W p l e R s m args below meth c H locs cells slots (vx_MQ below Qc XC args s mc ms free) g := by
  intro T hT X
  obtain ⟨t, a1, o, b1, b2, b3, b4⟩ := k T hT X
  exact ⟨t, a1, o, b1, b2, Or.inl ⟨b3, b4⟩⟩
/-- not caught here: it goes on to the caller -/
theorem vx_widen {g : JFrame} {q : Addr} {k n : Nat} (h1 : cells ≤ k) (h2 : slots ≤ n) (kk : vx_W p l e R s m args below meth c H locs k n Q g q) : vx_W p l e R s m args below meth c H locs cells slots Q g q := fun T hT X => kk T hT (stand_widen X h1 h2)
theorem vx_out {pc : Nat} {E : String} {ce : Cell} {q : Addr} {mc ms : Nat} (hout : ∀ x ∈ c.exceptionTable.toList, covers x pc = false) (hlocks : meth.locks = false) (hcell : H[q]? = some ce) (hv : ce.vm = .none) (hcl : s.vm.findClass E = some ce.cls)
    (hx : ∀ t : State, t.heap = H → s.vm.Alike t.vm → XC E s t) (hf : ∀ z ∈ locs, free z.base) (hc : cells ≤ mc) (hs : slots ≤ ms) :
    vx_W p l e R s m args below meth c H locs cells slots (vx_MQ below Qc XC args s mc ms free) (F0 m pc ls rest) q := by
  intro T hT X
  obtain ⟨st1, hrun, hend, hW, hsm⟩ := X.leaveThrown q (g := F0 m pc ls rest) rfl rfl rfl hout hlocks
  have hcell9 : (T.setFrames (.throwing q :: below)).heap[q]? = some ce := by
    show T.heap[q]? = some ce
    rw [hT]; exact hcell
  exact ⟨_, st1, .threw q, hrun, hend, Or.inr ⟨q, rfl, E, ce, locs, hx _ hT hW.alike, hcell9, hv, hcl, hW, hsm.mono hc hs, hf⟩⟩
theorem vx_frame {U : State} {k n : Nat} (h : s.sameButNew ({ U with vm := s.vm } : State) locs k n) : s.heap.size ≤ U.heap.size ∧ ∀ q : Nat, q < s.heap.size → (∀ z ∈ locs, z.base ≠ q) → U.heap[q]? = s.heap[q]? := by
  obtain ⟨-, h2, -, -, -, h6⟩ := h
  refine ⟨h2, fun q hq hz => ?_⟩
  obtain ⟨c9, e1, e2, e3, e4⟩ := h6 q _ (Array.getElem?_eq_getElem hq)
  have hs : c9.slots = (s.heap[q]).slots := Array.ext_getElem? fun i => e4 i fun hm => hz _ hm rfl
  have h9 : c9 = s.heap[q] := by
    rw [hs] at e2
    exact e2
  have e5 : U.heap[q]? = some c9 := e1
  rw [e5, h9, Array.getElem?_eq_getElem hq]
/-- the words of a throw but the four that speak of the heap -/
def vx_no (w : Cond) : Bool := decide (w ≠ .isRef (.static Bundle.tN "UNASSIGNED_STACK" Bundle.steD)) && decide (w ≠ .isRef (.static Bundle.tN "SUPPRESSED_SENTINEL" Bundle.listD)) && decide (w ≠ .laysStatic Bundle.tN "UNASSIGNED_STACK" Bundle.steD) && decide (w ≠ .laysStatic Bundle.tN "SUPPRESSED_SENTINEL" Bundle.listD)
def vx_at0 (own : String) (ic : Nat) (X : String) (names : List String) : List Cond := (Bundle.ownAtoms0 own ic X names).filter vx_no
def vx_atS (own : String) (ic : Nat) (X : String) (names : List String) : List Cond := (Bundle.ownAtoms own ic X names).filter vx_no
/-- a word that the tables alone decide, or a good one -/
def vx_ot (w : Cond) : Bool := w.onTables || goodWord w
theorem vx_ot_at {args a' : Array Value} {s U : State} {w : Cond} (hW : s.WarmedH U.vm) (hvm : s.vm = U.vm) (hg : vx_ot w = true) (h : w.before args s = true) : w.before a' U = true := by
  simp only [vx_ot, Bool.or_eq_true] at hg
  rcases hg with hg | hg
  · exact va_tabs hg hvm h
  · exact word_at hW (good_of_word hg) h
/-- a list's words: the good ones out of the method's own list, the others by premises of their own -/
theorem vx_hat {args : Array Value} {s : State} {L B : List Cond} (h1 : ∀ w ∈ L.filter goodWord, w.before args s = true) (h2 : ∀ w ∈ L.filter (fun w => !goodWord w), w ∈ B) (h3 : ∀ w ∈ B, w.before args s = true) : ∀ w ∈ L, w.before args s = true := by
  intro w hw
  by_cases g : goodWord w = true
  · exact h1 w (List.mem_filter.mpr ⟨hw, g⟩)
  · refine h3 w (h2 w (List.mem_filter.mpr ⟨hw, ?_⟩))
    show (!goodWord w) = true
    cases hgw : goodWord w
    · rfl
    · exact absurd hgw g
theorem vx_c {args : Array Value} {s : State} {w : Cond} {B : List Cond} (h : w.before args s = true) (t : ∀ w ∈ B, w.before args s = true) : ∀ w' ∈ w :: B, w'.before args s = true := fun w' h' => (List.mem_cons.mp h').elim (fun e => by rw [e]; exact h) (t w')
theorem vx_n {args : Array Value} {s : State} : ∀ w ∈ ([] : List Cond), w.before args s = true := fun _ h => nomatch h
theorem vx_own {args : Array Value} {s : State} {L : List Cond} (h1 : ∀ w ∈ L.filter vx_no, w.before args s = true)
    (hU : (Cond.isRef (.static Bundle.tN "UNASSIGNED_STACK" Bundle.steD)).before args s = true) (hN : (Cond.isRef (.static Bundle.tN "SUPPRESSED_SENTINEL" Bundle.listD)).before args s = true)
    (lU : (Cond.laysStatic Bundle.tN "UNASSIGNED_STACK" Bundle.steD).before args s = true) (lN : (Cond.laysStatic Bundle.tN "SUPPRESSED_SENTINEL" Bundle.listD).before args s = true) : ∀ w ∈ L, w.before args s = true := by
  intro w hw
  by_cases e1 : w = .isRef (.static Bundle.tN "UNASSIGNED_STACK" Bundle.steD)
  · rw [e1]; exact hU
  · by_cases e2 : w = .isRef (.static Bundle.tN "SUPPRESSED_SENTINEL" Bundle.listD)
    · rw [e2]; exact hN
    · by_cases e3 : w = .laysStatic Bundle.tN "UNASSIGNED_STACK" Bundle.steD
      · rw [e3]; exact lU
      · by_cases e4 : w = .laysStatic Bundle.tN "SUPPRESSED_SENTINEL" Bundle.listD
        · rw [e4]; exact lN
        · exact h1 w (List.mem_filter.mpr ⟨hw, by unfold vx_no; rw [decide_eq_true e1, decide_eq_true e2, decide_eq_true e3, decide_eq_true e4]; rfl⟩)
/-- where a static field lies, its class's statics cell in H -/
def vx_L (C n d : String) (A : Nat → Prop) (U : State) (H : Heap) : Prop := ∃ (c : ClassId) (k : Class) (i : Nat) (f : Field) (a : Nat) (cell : Cell), U.vm.findClass C = some c ∧ U.fieldFound? C n d = some (c, k, i, f) ∧ f.isStatic = true ∧ k.statics = some a ∧ H[a]? = some cell ∧ cell.vm.isStatics = true ∧ cell.cls = c ∧ f.slot < cell.slots.size ∧ k.staticTypes[f.slot]? = some f.type ∧ ¬ A a
theorem vx_L.moved {C n d : String} {A : Nat → Prop} {u U : State} {H : Heap} (hvm : u.vm.Alike U.vm) (h : vx_L C n d A u H) : vx_L C n d A U H := by
  obtain ⟨c, k, i, f, a, cell, h1, h2, h3, h4, h5, h6, h7, h8, h9, h10⟩ := h
  obtain ⟨k', hi', he⟩ := State.fieldFound?_setVm hvm h2
  exact ⟨c, k', i, f, a, cell, by rw [hvm.findClass]; exact h1, hi', h3, by rw [he]; exact h4, h5, h6, h7, h8, by rw [he]; exact h9, h10⟩
theorem vx_L.kept {C n d : String} {A : Nat → Prop} {U : State} {H H1 : Heap} (h : vx_L C n d A U H) (hq : ∀ a : Nat, a < H.size → ¬ A a → H1[a]? = H[a]?) : vx_L C n d A U H1 := by
  obtain ⟨c, k, i, f, a, cell, h1, h2, h3, h4, h5, h6, h7, h8, h9, h10⟩ := h
  exact ⟨c, k, i, f, a, cell, h1, h2, h3, h4, by rw [hq a (Array.getElem?_eq_some_iff.mp h5).1 h10]; exact h5, h6, h7, h8, h9, h10⟩
theorem vx_L.narrow {C n d : String} {A B : Nat → Prop} {U : State} {H : Heap} (h : vx_L C n d A U H) (hAB : ∀ q, B q → A q) : vx_L C n d B U H := by
  obtain ⟨c, k, i, f, a, cell, h1, h2, h3, h4, h5, h6, h7, h8, h9, h10⟩ := h
  exact ⟨c, k, i, f, a, cell, h1, h2, h3, h4, h5, h6, h7, h8, h9, fun z => h10 (hAB _ z)⟩
theorem vx_L.word {C n d : String} {A : Nat → Prop} {s : State} {args : Array Value} (h : vx_L C n d A s s.heap) : (Cond.laysStatic C n d).before args s = true := by
  obtain ⟨c, k, i, f, a, cell, h1, h2, h3, h4, h5, h6, h7, h8, h9, -⟩ := h
  show (Cond.laysStatic C n d).holds args s none s [] = true
  exact Cond.laysStatic_of h1 h2 h3 h4 h5 h6 h7 h8 h9
/-- .. and what it holds: null or some reference -/
def vx_Zq (C n d : String) (A : Nat → Prop) (U : State) (H : Heap) : Prop := va_Zq C n d A U H ∧ vx_L C n d A U H
theorem vx_Zq.moved {C n d : String} {A : Nat → Prop} {u U : State} {H : Heap} (hvm : u.vm.Alike U.vm) (h : vx_Zq C n d A u H) : vx_Zq C n d A U H := ⟨va_Zq.moved hvm h.1, vx_L.moved hvm h.2⟩
theorem vx_Zq.kept {C n d : String} {A : Nat → Prop} {U : State} {H H1 : Heap} (h : vx_Zq C n d A U H) (hq : ∀ a : Nat, a < H.size → ¬ A a → H1[a]? = H[a]?) : vx_Zq C n d A U H1 := ⟨va_Zq.kept h.1 hq, vx_L.kept h.2 hq⟩
theorem vx_Zq.narrow {C n d : String} {A B : Nat → Prop} {U : State} {H : Heap} (h : vx_Zq C n d A U H) (hAB : ∀ q, B q → A q) : vx_Zq C n d B U H := ⟨va_Zq.narrow h.1 hAB, vx_L.narrow h.2 hAB⟩
theorem vx_Zqof {args : Array Value} {s : State} {C n d : String} {A : Nat → Prop} (hl : (Cond.laysStatic C n d).before args s = true) (hini : (Cond.initialized C).before args s = true) (h : (Cond.isRef (.static C n d)).before args s = true) (hA : ∀ a : Nat, a < s.heap.size → ¬ A a) : vx_Zq C n d A s s.heap := by
  refine ⟨va_Zqof hl hini h hA, ?_⟩
  obtain ⟨c, k, i, f, a, cell, h1, h2, h3, h4, h5, h6, h7, h8, h9⟩ := Cond.laysStatic_spec hl
  exact ⟨c, k, i, f, a, cell, h1, h2, h3, h4, h5, h6, h7, h8, h9, hA a (Array.getElem?_eq_some_iff.mp h5).1⟩
theorem vx_isRef {C n d : String} {v : Value} {A : Nat → Prop} {s : State} {args : Array Value} (h : va_Z C n d v A s s.heap) (hv : v.isRef = true) : (Cond.isRef (.static C n d)).before args s = true := by
  obtain ⟨cf, kf, fi, f, a, cell, h1, h2, h3, h4, h5, h6, h7, -⟩ := h
  have he : (Term.static C n d).eval args s none [] s = some v := by
    simp [Term.eval, State.fieldNamed?, h1, h2, h4, h5, h6, h7]
  simp only [Cond.before, Cond.holds, Cond.value, he]
  cases v <;> simp_all [Value.isRef]
theorem vx_isRefq {C n d : String} {A : Nat → Prop} {s : State} {args : Array Value} (h : va_Zq C n d A s s.heap) : (Cond.isRef (.static C n d)).before args s = true := by
  rcases h with h | ⟨t, h⟩
  · exact vx_isRef h rfl
  · exact vx_isRef h rfl
/-- the same frame, seen from here: as if the method were called anew in this heap -/
theorem vx_rebase {T : State} (X : Stand p l e R s m args below meth c T locs cells slots) {R' : Room} (hf : R'.frames ≤ R.frames) (hl : R'.locals ≤ R.locals) (hc : cells + R'.cells ≤ R.cells) (hs : slots + R'.slots ≤ R.slots) :
    Stand p l e R' ((T.setVm s.vm).setFrames (.invoking m args :: below)) m args below meth c T [] 0 0 := by
  have htop : (T.setVm s.vm).topJava?.isSome := X.here.top
  have hF : ((T.setVm s.vm).setFrames (.invoking m args :: below)).frames = .invoking m args :: below := State.frames_setFrames _ (State.cur_lt_of_top htop)
  obtain ⟨g₀, hg0⟩ := Option.isSome_iff_exists.mp htop
  obtain ⟨r, hr⟩ := State.topJava?_eq_some.mp hg0
  have hl9 : e.platform.stackLimits (T.setVm s.vm).me = e.platform.stackLimits s.me := X.limits
  have hb9 : (T.setVm s.vm).me.stackBytes = s.me.stackBytes := X.bytes
  refine ⟨X.admits, X.cas, X.clock, hF, ?_, X.hears, X.method, X.code, X.here, X.tail, X.warmed, ?_, ?_, ?_⟩
  · have h := X.room
    have hU : ((T.setVm s.vm).setFrames (.invoking m args :: below)).localsInUse = s.localsInUse := by
      rw [State.localsInUse_invoking hF (meth := meth) (c := c) X.method X.code, State.localsInUse_invoking X.frames X.method X.code]
    simp only [State.hasRoom, Bool.and_eq_true, decide_eq_true_eq] at h ⊢
    obtain ⟨⟨⟨⟨h1, h2, h3, h4, h5, h6⟩, h7⟩, h8⟩, h9⟩ := h
    rw [X.frames, List.length_cons] at h2 h3
    have q1 := X.heapSize
    have q2 := X.used
    simp only [hF, hU, List.length_cons, State.stackLimits_setFrames, State.stackBytes_setFrames, hl9, hb9]
    refine ⟨⟨⟨⟨by omega, by omega, by omega, by omega, by omega, h6⟩, ?_⟩, ?_⟩, X.book⟩
    · show T.heap.size + R'.cells ≤ e.platform.maxCells
      omega
    · show T.slotsUsed + R'.slots ≤ e.platform.maxSlots
      omega
  · rw [State.stackLimits_setFrames]; rfl
  · rw [State.stackBytes_setFrames]; rfl
  · refine ⟨?_, Nat.le_refl _, Nat.le_refl _, ?_, ?_, fun a c9 h9 => ⟨c9, h9, rfl, rfl, fun _ _ => rfl⟩⟩
    · obtain ⟨t, ht, -⟩ := State.frames_cons hr
      show T.setVm s.vm = { ((T.setVm s.vm).setFrames (.invoking m args :: below)).setFrames (T.setVm s.vm).frames with heap := T.heap, slotsUsed := T.slotsUsed }
      rw [State.setFrames_setFrames, State.setFrames_self ht]
      rfl
    · show T.slotsUsed = T.slotsUsed + ((T.heap.toList.drop T.heap.size).map (·.slots.size)).sum
      rw [List.drop_eq_nil_of_le (Nat.le_of_eq Array.length_toList)]
      rfl
    · show ((T.heap.toList.drop T.heap.size).map (·.slots.size)).sum ≤ 0
      rw [List.drop_eq_nil_of_le (Nat.le_of_eq Array.length_toList)]
      exact Nat.le_refl _
/-- 'throw new E()': new; dup; invokespecial; athrow -/
theorem vx_throw0 {cc : ByteArray} {pc : Nat} (hexec : p.tables.exec = Jvm.exec) (hb : c.code = cc) (hl : l.stackTraces = false) {own cls : String} {names : List String} {ik ic mc ms : Nat} {A : Nat → Prop}
    (hown : s.vm.findClass own = some m.cls) (hcls : Bundle.fit cls = true) (hnames : ∀ n ∈ names, Bundle.fit n = true)
    (hk : (Cond.classLink own ik cls).before args s = true) (hini : (Cond.initialized cls).before args s = true) (hat : ∀ w ∈ vx_at0 own ic cls names, w.before args s = true)
    (hgood : ∀ w ∈ Cond.classLink own ik cls :: Cond.initialized cls :: vx_at0 own ic cls names, vx_ot w = true)
    (hU : vx_Zq Bundle.tN "UNASSIGNED_STACK" Bundle.steD A s s.heap) (hN : vx_Zq Bundle.tN "SUPPRESSED_SENTINEL" Bundle.listD A s s.heap) (hS : va_S A s.heap H locs) (hsize : ls.size = c.maxLocals)
    (d0 : decode cc pc = .ok (.new ik, 3)) (d3 : decode cc (pc + 3) = .ok (.dup, 1)) (d4 : decode cc (pc + 4) = .ok (.invokespecial ic, 3)) (d7 : decode cc (pc + 7) = .ok (.athrow, 1))
    (hout : ∀ x ∈ c.exceptionTable.toList, covers x (pc + 7) = false)
    (hRframes : names.length + 3 < R.frames) (hRlocals : (rest.map fun v => v.category).sum + (13 * (names.length + 1) + 42) ≤ R.locals) (hRcells : cells + 1 ≤ R.cells) (hRslots : slots + 6 ≤ R.slots) (hlocks : meth.locks = false)
    (hx : ∀ t : State, s.vm.Alike t.vm → H.size ≤ t.heap.size → (∀ q : Nat, q < H.size → t.heap[q]? = H[q]?) → XC cls s t)
    (hf : ∀ z ∈ locs, free z.base) (hc : cells + 1 ≤ mc) (hs : slots + 6 ≤ ms) :
    W p l e R s m args below meth c H locs cells slots (vx_MQ below Qc XC args s mc ms free) (F0 m pc ls rest) := by
  intro T hT X
  have htr : e.platform.stackTraces = false := (show e.platform.stackTraces = l.stackTraces by rw [X.admits.platform]).trans hl
  have Y := vx_rebase X (R' := { frames := R.frames, locals := R.locals, cells := 1, slots := 6 }) (Nat.le_refl _) (Nat.le_refl _) hRcells hRslots
  obtain ⟨s', hA⟩ : ∃ z, z = (T.setVm s.vm).setFrames (.invoking m args :: below) := ⟨_, rfl⟩
  rw [← hA] at Y
  have hvm : s'.vm = s.vm := by rw [hA]; rfl
  have hhp : s'.heap = H := by rw [hA]; exact hT
  have hW0 : s.WarmedH s'.vm := by rw [hvm]; exact State.WarmedH.refl s
  have hat' : ∀ w ∈ vx_at0 own ic cls names, w.before args s' = true := fun w hw => vx_ot_at hW0 hvm.symm (hgood w (List.mem_cons_of_mem _ (List.mem_cons_of_mem _ hw))) (hat w hw)
  have hk' : (Cond.classLink own ik cls).before args s' = true := vx_ot_at hW0 hvm.symm (hgood _ List.mem_cons_self) hk
  have hini' : (Cond.initialized cls).before args s' = true := vx_ot_at hW0 hvm.symm (hgood _ (List.mem_cons_of_mem _ List.mem_cons_self)) hini
  have hU' : vx_Zq Bundle.tN "UNASSIGNED_STACK" Bundle.steD A s' s'.heap := by rw [hhp]; exact vx_Zq.moved hW0.alike (hU.kept hS.2.1)
  have hN' : vx_Zq Bundle.tN "SUPPRESSED_SENTINEL" Bundle.listD A s' s'.heap := by rw [hhp]; exact vx_Zq.moved hW0.alike (hN.kept hS.2.1)
  have h : ∀ w ∈ Bundle.ownAtoms0 own ic cls names, w.before args s' = true := vx_own hat' (vx_isRefq hU'.1) (vx_isRefq hN'.1) hU'.2.word hN'.2.word
  have hown' : s'.vm.findClass own = some m.cls := by rw [hvm]; exact hown
  have hins : (Cond.instantiable cls 6).before args s' = true := h _ (by simp [Bundle.ownAtoms0])
  obtain ⟨vm₁, cX, kX, hfX, hkX, -, -, X₁, st1⟩ := Y.newCold hexec (own := own) (C := cls) (index := ik) (n := 6) hown' hk' hins hini'
    (g := F0 m pc ls rest) rfl (by rw [hb]; exact d0) (Nat.le_refl _) (Nat.le_refl _)
  generalize hT1 : (T.setVm vm₁).pushCell { cls := cX, slots := kX.instanceTypes.map defaultValue, vm := .none } = T1 at X₁ st1
  have hcat : (Value.ref T.heap.size).category = 1 := rfl
  have hcellA : T1.heap[T.heap.size]? = some (freshCell cX kX) := by rw [← hT1]; exact State.heap_pushCell_size _ _
  have d3' : decode c.code (pc + 3) = .ok (.dup, 1) := by rw [hb]; exact d3
  obtain ⟨U, hsteps, hrun, hend, hW, hsame, ce, hce, hO⟩ := X₁.ctorThrow0 hexec htr (own := own) (cls := cls) (names := names) (ic := ic) hown' hcls hnames h (fun x hx => nomatch hx) hfX hkX hcellA (by rw [hhp, hT]; exact Nat.le_refl _)
    (g := { method := m, pc := pc + 4, locals := ls, stack := .ref T.heap.size :: .ref T.heap.size :: rest, locked := none }) rfl hsize rfl rfl (rest := rest) rfl
    (by rw [hb]; exact d4) (by rw [hb]; exact d7) hout hRframes (by simp only [List.map_cons, List.sum_cons, hcat]; omega) hlocks
  obtain ⟨f1, f2⟩ := vx_frame hsame
  rw [hhp] at f1 f2
  have hWs : s.WarmedH U.vm := State.WarmedH.trans hW0 hW
  have hcl : s.vm.findClass cls = some ce.cls := by
    have h9 := hO.cls
    rw [hvm] at h9
    exact h9
  have hall : s.sameButNew ({ U with vm := s.vm } : State) locs mc ms := by
    subst hA
    obtain ⟨e1, e2⟩ := hsame
    rw [State.setFrames_setFrames] at e1
    have h2 : (T.setVm s.vm).sameButNew ({ U with vm := s.vm } : State) [] (0 + 1) (0 + 6) := ⟨e1, e2⟩
    have h3 := X.same.trans h2
    rw [List.append_nil] at h3
    exact h3.mono hc hs
  refine ⟨U, ?_, .threw T.heap.size, hrun, hend, Or.inr ⟨T.heap.size, rfl, cls, ce, locs, hx U hWs.alike f1 (fun q hq => f2 q hq (fun z hz => nomatch hz)), hce, hO.vm, hcl, hWs, hall, hf⟩⟩
  refine st1 _ ?_
  show Steps p.tables e below (T1.setTop { method := m, pc := pc + 3, locals := ls, stack := .ref T.heap.size :: rest, locked := none }) _
  jvm_step X₁.here [X₁.here.top, hexec, d3', Value.category]
  exact hsteps
/-- 'throw new E("text")': new; dup; ldc; invokespecial; athrow -/
theorem vx_throwS {cc : ByteArray} {pc : Nat} (hexec : p.tables.exec = Jvm.exec) (hb : c.code = cc) (hl : l.stackTraces = false) {own cls text : String} {names : List String} {ik is ic mc ms sa : Nat} {A : Nat → Prop}
    (hown : s.vm.findClass own = some m.cls) (hcls : Bundle.fit cls = true) (hnames : ∀ n ∈ names, Bundle.fit n = true)
    (hk : (Cond.classLink own ik cls).before args s = true) (hini : (Cond.initialized cls).before args s = true) (hstr : vk_R own is text sa s) (hat : ∀ w ∈ vx_atS own ic cls names, w.before args s = true)
    (hgood : ∀ w ∈ Cond.classLink own ik cls :: Cond.initialized cls :: vx_atS own ic cls names, vx_ot w = true)
    (hU : vx_Zq Bundle.tN "UNASSIGNED_STACK" Bundle.steD A s s.heap) (hN : vx_Zq Bundle.tN "SUPPRESSED_SENTINEL" Bundle.listD A s s.heap) (hS : va_S A s.heap H locs) (hsize : ls.size = c.maxLocals)
    (d0 : decode cc pc = .ok (.new ik, 3)) (d3 : decode cc (pc + 3) = .ok (.dup, 1)) (d4 : decode cc (pc + 4) = .ok (.ldc is, 2)) (d6 : decode cc (pc + 6) = .ok (.invokespecial ic, 3)) (d9 : decode cc (pc + 9) = .ok (.athrow, 1))
    (hout : ∀ x ∈ c.exceptionTable.toList, covers x (pc + 9) = false)
    (hRframes : names.length + 3 < R.frames) (hRlocals : (rest.map fun v => v.category).sum + (13 * (names.length + 1) + 43) ≤ R.locals) (hRcells : cells + 1 ≤ R.cells) (hRslots : slots + 6 ≤ R.slots) (hlocks : meth.locks = false)
    (hx : ∀ t : State, s.vm.Alike t.vm → H.size ≤ t.heap.size → (∀ q : Nat, q < H.size → t.heap[q]? = H[q]?) → XC cls s t)
    (hf : ∀ z ∈ locs, free z.base) (hc : cells + 1 ≤ mc) (hs : slots + 6 ≤ ms) :
    W p l e R s m args below meth c H locs cells slots (vx_MQ below Qc XC args s mc ms free) (F0 m pc ls rest) := by
  intro T hT X
  have htr : e.platform.stackTraces = false := (show e.platform.stackTraces = l.stackTraces by rw [X.admits.platform]).trans hl
  have Y := vx_rebase X (R' := { frames := R.frames, locals := R.locals, cells := 1, slots := 6 }) (Nat.le_refl _) (Nat.le_refl _) hRcells hRslots
  obtain ⟨s', hA⟩ : ∃ z, z = (T.setVm s.vm).setFrames (.invoking m args :: below) := ⟨_, rfl⟩
  rw [← hA] at Y
  have hvm : s'.vm = s.vm := by rw [hA]; rfl
  have hhp : s'.heap = H := by rw [hA]; exact hT
  have hW0 : s.WarmedH s'.vm := by rw [hvm]; exact State.WarmedH.refl s
  have hat' : ∀ w ∈ vx_atS own ic cls names, w.before args s' = true := fun w hw => vx_ot_at hW0 hvm.symm (hgood w (List.mem_cons_of_mem _ (List.mem_cons_of_mem _ hw))) (hat w hw)
  have hk' : (Cond.classLink own ik cls).before args s' = true := vx_ot_at hW0 hvm.symm (hgood _ List.mem_cons_self) hk
  have hini' : (Cond.initialized cls).before args s' = true := vx_ot_at hW0 hvm.symm (hgood _ (List.mem_cons_of_mem _ List.mem_cons_self)) hini
  have hU' : vx_Zq Bundle.tN "UNASSIGNED_STACK" Bundle.steD A s' s'.heap := by rw [hhp]; exact vx_Zq.moved hW0.alike (hU.kept hS.2.1)
  have hN' : vx_Zq Bundle.tN "SUPPRESSED_SENTINEL" Bundle.listD A s' s'.heap := by rw [hhp]; exact vx_Zq.moved hW0.alike (hN.kept hS.2.1)
  have h : ∀ w ∈ Bundle.ownAtoms own ic cls names, w.before args s' = true := vx_own hat' (vx_isRefq hU'.1) (vx_isRefq hN'.1) hU'.2.word hN'.2.word
  have hown' : s'.vm.findClass own = some m.cls := by rw [hvm]; exact hown
  have hins : (Cond.instantiable cls 6).before args s' = true := h _ (by simp [Bundle.ownAtoms])
  obtain ⟨vm₁, cX, kX, hfX, hkX, -, -, X₁, st1⟩ := Y.newCold hexec (own := own) (C := cls) (index := ik) (n := 6) hown' hk' hins hini'
    (g := F0 m pc ls rest) rfl (by rw [hb]; exact d0) (Nat.le_refl _) (Nat.le_refl _)
  generalize hT1 : (T.setVm vm₁).pushCell { cls := cX, slots := kX.instanceTypes.map defaultValue, vm := .none } = T1 at X₁ st1
  have hcat : (Value.ref T.heap.size).category = 1 := rfl
  have hcellA : T1.heap[T.heap.size]? = some (freshCell cX kX) := by rw [← hT1]; exact State.heap_pushCell_size _ _
  have d3' : decode c.code (pc + 3) = .ok (.dup, 1) := by rw [hb]; exact d3
  have d4' : decode c.code (pc + 4) = .ok (.ldc is, 2) := by rw [hb]; exact d4
  have hstr' : vk_R own is text sa s' := vk_R.warm hW0 hstr
  obtain ⟨U, hsteps, hrun, hend, hW, hsame, ce, hce, hO⟩ := X₁.ctorThrowS hexec htr (own := own) (cls := cls) (names := names) (ic := ic) hown' hcls hnames h (fun x hx => nomatch hx) hfX hkX hcellA (by rw [hhp, hT]; exact Nat.le_refl _) (msg := .ref sa) rfl
    (g := { method := m, pc := pc + 6, locals := ls, stack := .ref sa :: .ref T.heap.size :: .ref T.heap.size :: rest, locked := none }) rfl hsize rfl rfl (rest := rest) rfl
    (by rw [hb]; exact d6) (by rw [hb]; exact d9) hout hRframes (by simp only [List.map_cons, List.sum_cons, hcat]; omega) hlocks
  obtain ⟨f1, f2⟩ := vx_frame hsame
  rw [hhp] at f1 f2
  have hWs : s.WarmedH U.vm := State.WarmedH.trans hW0 hW
  have hcl : s.vm.findClass cls = some ce.cls := by
    have h9 := hO.cls
    rw [hvm] at h9
    exact h9
  have hall : s.sameButNew ({ U with vm := s.vm } : State) locs mc ms := by
    subst hA
    obtain ⟨e1, e2⟩ := hsame
    rw [State.setFrames_setFrames] at e1
    have h2 : (T.setVm s.vm).sameButNew ({ U with vm := s.vm } : State) [] (0 + 1) (0 + 6) := ⟨e1, e2⟩
    have h3 := X.same.trans h2
    rw [List.append_nil] at h3
    exact h3.mono hc hs
  refine ⟨U, ?_, .threw T.heap.size, hrun, hend, Or.inr ⟨T.heap.size, rfl, cls, ce, locs, hx U hWs.alike f1 (fun q hq => f2 q hq (fun z hz => nomatch hz)), hce, hO.vm, hcl, hWs, hall, hf⟩⟩
  refine st1 _ ?_
  show Steps p.tables e below (T1.setTop { method := m, pc := pc + 3, locals := ls, stack := .ref T.heap.size :: rest, locked := none }) _
  jvm_step X₁.here [X₁.here.top, hexec, d3', Value.category]
  exact X₁.ldcString hexec (own := own) (text := text) (index := is) (a := sa) hown' hstr'.1 hstr'.2
    (g := { method := m, pc := pc + 4, locals := ls, stack := .ref T.heap.size :: .ref T.heap.size :: rest, locked := none }) rfl d4' _ hsteps
/-- 'throw new E("text")', the text by a wide index -/
theorem vx_throwSW {cc : ByteArray} {pc : Nat} (hexec : p.tables.exec = Jvm.exec) (hb : c.code = cc) (hl : l.stackTraces = false) {own cls text : String} {names : List String} {ik is ic mc ms sa : Nat} {A : Nat → Prop}
    (hown : s.vm.findClass own = some m.cls) (hcls : Bundle.fit cls = true) (hnames : ∀ n ∈ names, Bundle.fit n = true)
    (hk : (Cond.classLink own ik cls).before args s = true) (hini : (Cond.initialized cls).before args s = true) (hstr : vk_R own is text sa s) (hat : ∀ w ∈ vx_atS own ic cls names, w.before args s = true)
    (hgood : ∀ w ∈ Cond.classLink own ik cls :: Cond.initialized cls :: vx_atS own ic cls names, vx_ot w = true)
    (hU : vx_Zq Bundle.tN "UNASSIGNED_STACK" Bundle.steD A s s.heap) (hN : vx_Zq Bundle.tN "SUPPRESSED_SENTINEL" Bundle.listD A s s.heap) (hS : va_S A s.heap H locs) (hsize : ls.size = c.maxLocals)
    (d0 : decode cc pc = .ok (.new ik, 3)) (d3 : decode cc (pc + 3) = .ok (.dup, 1)) (d4 : decode cc (pc + 4) = .ok (.ldc_w is, 3)) (d7 : decode cc (pc + 7) = .ok (.invokespecial ic, 3)) (d10 : decode cc (pc + 10) = .ok (.athrow, 1))
    (hout : ∀ x ∈ c.exceptionTable.toList, covers x (pc + 10) = false)
    (hRframes : names.length + 3 < R.frames) (hRlocals : (rest.map fun v => v.category).sum + (13 * (names.length + 1) + 43) ≤ R.locals) (hRcells : cells + 1 ≤ R.cells) (hRslots : slots + 6 ≤ R.slots) (hlocks : meth.locks = false)
    (hx : ∀ t : State, s.vm.Alike t.vm → H.size ≤ t.heap.size → (∀ q : Nat, q < H.size → t.heap[q]? = H[q]?) → XC cls s t)
    (hf : ∀ z ∈ locs, free z.base) (hc : cells + 1 ≤ mc) (hs : slots + 6 ≤ ms) :
    W p l e R s m args below meth c H locs cells slots (vx_MQ below Qc XC args s mc ms free) (F0 m pc ls rest) := by
  intro T hT X
  have htr : e.platform.stackTraces = false := (show e.platform.stackTraces = l.stackTraces by rw [X.admits.platform]).trans hl
  have Y := vx_rebase X (R' := { frames := R.frames, locals := R.locals, cells := 1, slots := 6 }) (Nat.le_refl _) (Nat.le_refl _) hRcells hRslots
  obtain ⟨s', hA⟩ : ∃ z, z = (T.setVm s.vm).setFrames (.invoking m args :: below) := ⟨_, rfl⟩
  rw [← hA] at Y
  have hvm : s'.vm = s.vm := by rw [hA]; rfl
  have hhp : s'.heap = H := by rw [hA]; exact hT
  have hW0 : s.WarmedH s'.vm := by rw [hvm]; exact State.WarmedH.refl s
  have hat' : ∀ w ∈ vx_atS own ic cls names, w.before args s' = true := fun w hw => vx_ot_at hW0 hvm.symm (hgood w (List.mem_cons_of_mem _ (List.mem_cons_of_mem _ hw))) (hat w hw)
  have hk' : (Cond.classLink own ik cls).before args s' = true := vx_ot_at hW0 hvm.symm (hgood _ List.mem_cons_self) hk
  have hini' : (Cond.initialized cls).before args s' = true := vx_ot_at hW0 hvm.symm (hgood _ (List.mem_cons_of_mem _ List.mem_cons_self)) hini
  have hU' : vx_Zq Bundle.tN "UNASSIGNED_STACK" Bundle.steD A s' s'.heap := by rw [hhp]; exact vx_Zq.moved hW0.alike (hU.kept hS.2.1)
  have hN' : vx_Zq Bundle.tN "SUPPRESSED_SENTINEL" Bundle.listD A s' s'.heap := by rw [hhp]; exact vx_Zq.moved hW0.alike (hN.kept hS.2.1)
  have h : ∀ w ∈ Bundle.ownAtoms own ic cls names, w.before args s' = true := vx_own hat' (vx_isRefq hU'.1) (vx_isRefq hN'.1) hU'.2.word hN'.2.word
  have hown' : s'.vm.findClass own = some m.cls := by rw [hvm]; exact hown
  have hins : (Cond.instantiable cls 6).before args s' = true := h _ (by simp [Bundle.ownAtoms])
  obtain ⟨vm₁, cX, kX, hfX, hkX, -, -, X₁, st1⟩ := Y.newCold hexec (own := own) (C := cls) (index := ik) (n := 6) hown' hk' hins hini'
    (g := F0 m pc ls rest) rfl (by rw [hb]; exact d0) (Nat.le_refl _) (Nat.le_refl _)
  generalize hT1 : (T.setVm vm₁).pushCell { cls := cX, slots := kX.instanceTypes.map defaultValue, vm := .none } = T1 at X₁ st1
  have hcat : (Value.ref T.heap.size).category = 1 := rfl
  have hcellA : T1.heap[T.heap.size]? = some (freshCell cX kX) := by rw [← hT1]; exact State.heap_pushCell_size _ _
  have d3' : decode c.code (pc + 3) = .ok (.dup, 1) := by rw [hb]; exact d3
  have d4' : decode c.code (pc + 4) = .ok (.ldc_w is, 3) := by rw [hb]; exact d4
  have hstr' : vk_R own is text sa s' := vk_R.warm hW0 hstr
  obtain ⟨U, hsteps, hrun, hend, hW, hsame, ce, hce, hO⟩ := X₁.ctorThrowS hexec htr (own := own) (cls := cls) (names := names) (ic := ic) hown' hcls hnames h (fun x hx => nomatch hx) hfX hkX hcellA (by rw [hhp, hT]; exact Nat.le_refl _) (msg := .ref sa) rfl
    (g := { method := m, pc := pc + 7, locals := ls, stack := .ref sa :: .ref T.heap.size :: .ref T.heap.size :: rest, locked := none }) rfl hsize rfl rfl (rest := rest) rfl
    (by rw [hb]; exact d7) (by rw [hb]; exact d10) hout hRframes (by simp only [List.map_cons, List.sum_cons, hcat]; omega) hlocks
  obtain ⟨f1, f2⟩ := vx_frame hsame
  rw [hhp] at f1 f2
  have hWs : s.WarmedH U.vm := State.WarmedH.trans hW0 hW
  have hcl : s.vm.findClass cls = some ce.cls := by
    have h9 := hO.cls
    rw [hvm] at h9
    exact h9
  have hall : s.sameButNew ({ U with vm := s.vm } : State) locs mc ms := by
    subst hA
    obtain ⟨e1, e2⟩ := hsame
    rw [State.setFrames_setFrames] at e1
    have h2 : (T.setVm s.vm).sameButNew ({ U with vm := s.vm } : State) [] (0 + 1) (0 + 6) := ⟨e1, e2⟩
    have h3 := X.same.trans h2
    rw [List.append_nil] at h3
    exact h3.mono hc hs
  refine ⟨U, ?_, .threw T.heap.size, hrun, hend, Or.inr ⟨T.heap.size, rfl, cls, ce, locs, hx U hWs.alike f1 (fun q hq => f2 q hq (fun z hz => nomatch hz)), hce, hO.vm, hcl, hWs, hall, hf⟩⟩
  refine st1 _ ?_
  show Steps p.tables e below (T1.setTop { method := m, pc := pc + 3, locals := ls, stack := .ref T.heap.size :: rest, locked := none }) _
  jvm_step X₁.here [X₁.here.top, hexec, d3', Value.category]
  exact X₁.ldcStringW hexec (own := own) (text := text) (index := is) (a := sa) hown' hstr'.1 hstr'.2
    (g := { method := m, pc := pc + 4, locals := ls, stack := .ref T.heap.size :: .ref T.heap.size :: rest, locked := none }) rfl d4' _ hsteps
end Ends
section Bodies
variable {l : Launch}
theorem vx_ofW {y : MethodName} {ws ws' : List Cond} {rm : Room} {Pc : Array Value → State → Prop} {Qc : Array Value → State → Outcome → State → Prop} {XC : String → State → State → Prop} {mc ms : Nat} {free : Addr → Prop} {cc : ByteArray} {maxL : Nat} {ret : Option FieldType}
    (hy : plainName y.cls = true) (hw : ws = Cond.code y cc maxL ret :: ws')
    (body : ∀ p e s m args below meth c s₁, BodyLoose p l y (headSpec ws rm) cc maxL ret e s m args below meth c s₁ → c.maxLocals = maxL → (∀ x ∈ c.exceptionTable.toList, False) → Pc args s →
      W p l e (headSpec ws rm).room s m args below meth c s.heap [] 0 0 (vx_MQ below Qc XC args s mc ms free) (entryFrame m args maxL)) : vx_Met l y ws rm Pc Qc XC mc ms free := by
  refine MetFree.of_bodyS (code := cc) (maxLocals := maxL) (ret := ret) hy ?_ ?_
  · intro args s m h hn
    obtain ⟨meth, c, h1, h2, h3, h4, h5, h6, -, -⟩ := Cond.code_spec hn (atoms_spec (ws := ws) h _ (by rw [hw]; exact List.mem_cons_self))
    exact ⟨meth, c, h1, h2, h3, h4, h5, h6⟩
  · intro p e s m args below meth c s₁ B hml hP _
    have hh0 : s₁.heap = s.heap := by rw [B.state]; rfl
    have ht : ∀ x ∈ c.exceptionTable.toList, False := by
      obtain ⟨meth9, c9, h1, h2, -, -, -, -, h7, -⟩ := Cond.code_spec B.named (atoms_spec (ws := ws) B.pre _ (by rw [hw]; exact List.mem_cons_self))
      cases Option.some.inj (h1.symm.trans B.method)
      cases Option.some.inj (h2.symm.trans (Stand.of_body B).code)
      intro x hx
      rw [Array.isEmpty_iff.mp h7] at hx
      cases hx
    obtain ⟨t, a1, o, b1, b2, b3⟩ := body p e s m args below meth c s₁ B hml ht hP s₁ hh0 (Stand.of_body B)
    exact ⟨t, o, a1, b1, b2, b3⟩
/-- the table of a body with handlers -/
theorem vx_table {p : Program} {x y : MethodName} {S : Spec} {cc bytes : ByteArray} {maxL maxL' : Nat} {ret ret' : Option FieldType} {e : Env} {s s₁ : State} {m : MethodId} {args : Array Value} {below : List Frame} {meth : Method} {c : Code} {hh : List (Nat × Nat × Nat × Nat)}
    (B : BodyLoose p l y S cc maxL ret e s m args below meth c s₁) (h : (Cond.codeWith y bytes maxL' ret' hh).before args s = true) : c.exceptionTable.toList = tableOf hh := by
  obtain ⟨m9, meth9, c9, hn9, h1, h2, -, -, h6, -⟩ := Cond.codeWith_spec h
  cases Option.some.inj (hn9.symm.trans B.named)
  cases Option.some.inj (h1.symm.trans B.method)
  cases Option.some.inj (h2.symm.trans (Stand.of_body B).code)
  rw [← h6, table_eq]
end Bodies
end VXA
/-! ===== END ===== -/
/-! ===== BEGIN a static call of a method with an exception table ===== -/
section VXS
variable {p : Program} {l : Launch} {e : Env} {R : Room} {s : State} {m : MethodId} {args : Array Value} {below : List Frame} {meth : Method} {c : Code} {T : State} {H : Heap} {locs : List Loc} {cells slots : Nat}
abbrev vx_CSW (R : Room) (s : State) (args : Array Value) (own : String) (index : Nat) (y : MethodName) (bytes : ByteArray) (maxL : Nat) (ret : Option FieldType) (hh : List (Nat × Nat × Nat × Nat)) (ws : List Cond) (rm : Room) (mc ms n : Nat) : Prop :=
  (rm.cells = mc ∧ rm.slots = ms ∧ rm.frames + 1 ≤ R.frames ∧ 8 + (maxL + 11) + rm.locals ≤ R.locals ∧ (∀ w ∈ ws, ∀ (a' : Array Value) (U : State), s.WarmedH U.vm → w.before a' U = true) ∧ Cond.codeWith y bytes maxL ret hh ∈ ws) ∧
  (Cond.codeWith y bytes maxL ret hh).before args s = true ∧ (Cond.initialized y.cls).before args s = true ∧ (y.cls ≠ "java/lang/invoke/MethodHandle" ∧ y.cls ≠ "java/lang/invoke/VarHandle") ∧
  (∀ sig, parseMethodDescriptor y.desc = some sig → n = sig.parameters.length) ∧ (Cond.methodLink own index y).before args s = true ∧ (Cond.static y).before args s = true
theorem vx_cwSW {own : String} {index maxL mc ms : Nat} {y : MethodName} {bytes : ByteArray} {ret : Option FieldType} {hh : List (Nat × Nat × Nat × Nat)} {Ts ws ws' : List Cond} {rm : Room} (n : Nat) (ht : ∀ w ∈ Ts, w.before args s = true) (hT : GoodIn Ts (va_wsS own index y ws)) (hw : ws = Cond.codeWith y bytes maxL ret hh :: ws') (hrc : rm.cells = mc) (hrs : rm.slots = ms)
    (hd : y.cls ≠ "java/lang/invoke/MethodHandle" ∧ y.cls ≠ "java/lang/invoke/VarHandle" ∧ (parseMethodDescriptor y.desc).map (fun d => d.parameters.length) = some n) (hR : rm.frames + 1 ≤ R.frames ∧ 8 + (maxL + 11) + rm.locals ≤ R.locals) :
    vx_CSW R s args own index y bytes maxL ret hh ws rm mc ms n := by
  have ok : ∀ w ∈ va_wsS own index y ws, w.before args s = true := fun w h => ht w (hT w h).1
  have hG : GoodIn Ts ws := fun w h => hT w (by unfold va_wsS; exact List.mem_append_right _ h)
  have hc : Cond.codeWith y bytes maxL ret hh ∈ ws := by rw [hw]; exact List.mem_cons_self
  refine ⟨⟨hrc, hrs, hR.1, hR.2, pay_in ht hG, hc⟩, ht _ (hG _ hc).1, ok _ (by simp [va_wsS]), ⟨hd.1, hd.2.1⟩, fun sig h => ?_, ok _ (by simp [va_wsS]), ok _ (by simp [va_wsS])⟩
  have h2 := hd.2.2
  rw [h] at h2
  exact (Option.some.inj h2).symm
theorem vx_callSW (X : Stand p l e R s m args below meth c T locs cells slots) (hexec : p.tables.exec = Jvm.exec) {own : String} {index : Nat} {y : MethodName} {bytes : ByteArray} {maxL : Nat} {ret : Option FieldType} {hh : List (Nat × Nat × Nat × Nat)}
    (hown : s.vm.findClass own = some m.cls) (hlink : (Cond.methodLink own index y).before args s = true) (hstat : (Cond.static y).before args s = true) (hinit : (Cond.initialized y.cls).before args s = true)
    (hcode : (Cond.codeWith y bytes maxL ret hh).before args s = true) (hy : y.cls ≠ "java/lang/invoke/MethodHandle" ∧ y.cls ≠ "java/lang/invoke/VarHandle")
    {W9 : Nat} {Pre : Pt → Array Value → Prop} {Post : Pt → Array Value → Option Value → Pt → Prop} (hK : Back l R p e below s args y 3 W9 Pre Post)
    {g : JFrame} (hg : g.method = m) (hsize : g.locals.size = c.maxLocals) {argsL rest : List Value} (hlen : ∀ sig, parseMethodDescriptor y.desc = some sig → argsL.length = sig.parameters.length)
    (hstack : g.stack = argsL.reverse ++ rest) (hW : 2 * g.monitorRoom + (rest.map fun v => v.category).sum ≤ W9) (hdg : decode c.code g.pc = .ok (.invokestatic index, 3))
    (hpre : ∀ vm₁, s.WarmedH vm₁ → Pre ⟨T.setVm vm₁, locs, cells, slots⟩ argsL.toArray) :
    ∃ (v : Option Value) (vm₁ : Vm) (B : Pt), s.WarmedH vm₁ ∧ Stand p l e R s m args below meth c B.U B.locs B.cells B.slots ∧ Post ⟨T.setVm vm₁, locs, cells, slots⟩ argsL.toArray v B ∧
      ∀ target, Steps p.tables e below (B.U.setTop { g with pc := g.pc + 3, stack := v.toList ++ rest }) target → Steps p.tables e below (T.setTop g) target := by
  obtain ⟨mk, methM, cM, hnamed, hmethM, -, -, -, -, -, -, hsigM⟩ := Cond.codeWith_spec hcode
  have hstatic : methM.isStatic = true := Cond.static_spec hnamed hmethM hstat
  obtain ⟨kP, hkP, -⟩ := className_of_methodNamed hnamed
  have hinitP : kP.init = .initialized := Cond.initialized_spec (findClass_of_methodNamed hnamed) hkP hinit
  obtain ⟨vm₁, X₁, hstep₁⟩ := X.invokestatic hexec hown hlink hnamed hmethM hstatic hkP hinitP hy (g := g) hg (argsL := argsL) (rest := rest) (hlen _ hsigM) hstack hdg
  obtain ⟨v, B, X', hpost, hsteps⟩ := hK m meth c ⟨T.setVm vm₁, locs, cells, slots⟩ { g with stack := rest } (.invokestatic index) mk argsL.toArray X₁ hg hsize hdg hW (X₁.named hnamed) (hpre vm₁ X₁.warmed)
  exact ⟨v, vm₁, B, X₁.warmed, X', hpost, fun target h => hstep₁ _ fun acts => by rw [doInvoke_state]; exact hsteps.trans h⟩
theorem vx_runSW {y : MethodName} {bytes cc : ByteArray} {maxL nL mc ms n index : Nat} {ret : Option FieldType} {hh : List (Nat × Nat × Nat × Nat)} {ws : List Cond} {rm : Room} {Pc : Array Value → State → Prop} {Qc : Array Value → State → Outcome → State → Prop} {free : Addr → Prop} {Ts : List Cond} {own : String} {As rest : List Value} {g : JFrame}
    (S : CallFix p m c cc nL s args Ts own) (hM : Met l y ws rm Pc Qc mc ms free) (cw : vx_CSW R s args own index y bytes maxL ret hh ws rm mc ms n) (hp : PreS s H Pc As)
    (hg : g.method = m) (hn : As.length = n) (hsize : g.locals.size = nL) (hstack : g.stack = As.reverse ++ rest) (hW : 2 * g.monitorRoom + (rest.map fun v => v.category).sum ≤ 8) (hdg : decode cc g.pc = .ok (.invokestatic index, 3)) (hf : cells + mc ≤ R.cells ∧ slots + ms ≤ R.slots) :
    va_Run p l e R s m args below meth c H locs cells slots mc ms g rest (Qc As.toArray) (free) := by
  obtain ⟨⟨hrc, hrs, hfr, hlo, hws, hcw⟩, hcode, hini, hy, hlen, hl, hstt⟩ := cw
  have hK : Back l R p e below s args y 3 8 (PreOf R mc ms Pc) (PostOf Qc mc ms free) := va_backW (hh := hh) (bytes := bytes) (maxL := maxL) (ret := ret) hM hp.1 hrc hrs hfr hlo hws hcw (fun a' U hW => word_at hW (Or.inl (by first | rfl | simp [Cond.onTables, Cond.keeps, Cond.steady])) hini)
  obtain ⟨hx, hb, hml, ho, -⟩ := S
  intro T hT X
  obtain ⟨v, vm₁, ⟨U', l2, c2, s2⟩, hW₁, X', ⟨g', mk, t, L, e1, e2, hq, h1, hL, h2, h3⟩, st⟩ := vx_callSW X hx (hh := hh) (bytes := bytes) (maxL := maxL) (ret := ret) ho hl hstt hini hcode hy hK hg (hsize.trans hml.symm) (argsL := As) (rest := rest) (fun sig h => hn.trans (hlen sig h)) hstack hW (by rw [hb]; exact hdg)
    (fun vm₁ hW₁ => ⟨hf.1, hf.2, hp.2 (T.setVm vm₁) hT hW₁⟩)
  dsimp only [Pt.U, Pt.locs, Pt.cells, Pt.slots] at X' e1 e2 h1 h2 h3 st
  subst h1; subst h2; subst h3
  exact ⟨v, (T.setVm vm₁).calling g' mk As.toArray, t, U', L, hT, X', hL, e1, e2, hq, st⟩
/-- not caught here, past rows that name other classes: it goes on to the caller -/
theorem vx_outP {p : Program} {l : Launch} {e : Env} {R : Room} {s : State} {m : MethodId} {args : Array Value} {below : List Frame} {meth : Method} {c : Code} {H : Heap} {locs : List Loc} {cells slots : Nat} {free : Addr → Prop} {ls : Array Slot} {rest : List Value} {Qc : Array Value → State → Outcome → State → Prop} {XC : String → State → State → Prop}
    {pc : Nat} {own E : String} {ce : Cell} {q : Addr} {mc ms : Nat} (hown : s.vm.findClass own = some m.cls) (hlocks : meth.locks = false)
    (hpass : ∀ z ∈ c.exceptionTable.toList, covers z pc = false ∨ (z.catchType ≠ 0 ∧ ∃ nm : String, (Cond.classLink own z.catchType nm).before args s = true ∧ va_Nc E nm s)) (hcell : H[q]? = some ce) (hv : ce.vm = .none) (hcl : s.vm.findClass E = some ce.cls)
    (hx : ∀ t : State, t.heap = H → s.vm.Alike t.vm → XC E s t) (hf : ∀ z ∈ locs, free z.base) (hc : cells ≤ mc) (hs : slots ≤ ms) :
    vx_W p l e R s m args below meth c H locs cells slots (vx_MQ below Qc XC args s mc ms free) (F0 m pc ls rest) q := by
  intro T hT X
  have hpl : e.platform.magicAccessors = ({} : Platform).magicAccessors := by rw [X.admits.platform]
  obtain ⟨vm', hW', X', st⟩ := X.outThrough hlocks q (g := F0 m pc ls rest) rfl rfl rfl (cell := ce) (by rw [hT]; exact hcell) (by rw [hv]; rfl)
    (by obtain ⟨k9, h9, -⟩ := Vm.findClass_spec hcl; exact ⟨k9, h9⟩) (fun z hz => by
      rcases hpass z hz with h | ⟨hz0, nm, hl1, hn1⟩
      · exact Or.inl h
      · obtain ⟨c6, hc6, hcl6⟩ := Cond.classLink_spec hown hl1 e.platform hpl
        obtain ⟨a8, b8, h1, h2, h3⟩ := hn1
        cases Option.some.inj (h1.symm.trans hcl)
        cases Option.some.inj (h2.symm.trans hc6)
        exact Or.inr ⟨hz0, _, hcl6, h3⟩)
  obtain ⟨g₀, hfr⟩ := X'.frames_eq
  have hcell9 : ((T.setVm vm').setFrames (.throwing q :: below)).heap[q]? = some ce := by
    show T.heap[q]? = some ce
    rw [hT]; exact hcell
  have hend : Ended ((T.setVm vm').setFrames (.throwing q :: below)) below (.threw q) := State.frames_setFrames _ (State.cur_lt_of_frames hfr)
  refine ⟨(T.setVm vm').setFrames (.throwing q :: below), ?_, .threw q, X'.here.running, hend, Or.inr ⟨q, rfl, E, ce, locs, hx _ hT (X'.ends _).1.alike, hcell9, hv, hcl, (X'.ends _).1, (X'.ends _).2.mono hc hs, hf⟩⟩
  rw [X.pushThrowing_eq]
  exact st
/-- a thing of a world lies in the heap -/
theorem vx_lt {D : va_G} {cl : List vw_C} {ws : va_W} {H1 : Heap} (h : va_P D cl ws H1) {k : Nat} {q : Nat × va_E} (hk : ws[k]? = some q) : q.1 < H1.size := (h k q hk).lt
end VXS
/-! ===== END ===== -/
/-! ===== BEGIN methods with a table of their own: called by a name, returning or throwing ===== -/
section VXH
/-! vx_backW, vx_callVX, vx_callSX, vx_callVW, vx_runVW, vx_runVX, vx_runSX, vx_ofWH follow the same proofs as their sisters above (Free/Laws.lean, Shelf42/LK1.lean); vx_outP calls Shelf42/NT130.lean (outThrough). -/
section
variable {l : Launch} {R : Room} {p : Program} {e : Env} {below : List Frame} {s : State} {sargs : Array Value} {y : MethodName} {len W9 : Nat}
theorem vx_backW {ws : List Cond} {rm : Room} {Pc : Array Value → State → Prop} {Qc : Array Value → State → Outcome → State → Prop} {XC : String → State → State → Prop} {mc ms : Nat} {free : Addr → Prop} {bytes : ByteArray} {maxL : Nat} {ret : Option FieldType} {hh : List (Nat × Nat × Nat × Nat)}
    (hM : vx_Met l y ws rm Pc Qc XC mc ms free) (hblind : FrameBlind Pc) (hrc : rm.cells = mc) (hrs : rm.slots = ms)
    (hframes : rm.frames + 1 ≤ R.frames) (hlocals : W9 + (maxL + 11) + rm.locals ≤ R.locals)
    (hws : ∀ w ∈ ws, ∀ a' U, s.WarmedH U.vm → w.before a' U = true) (hcode : Cond.codeWith y bytes maxL ret hh ∈ ws) (hinit : ∀ a' U, s.WarmedH U.vm → (Cond.initialized y.cls).before a' U = true) :
    vx_Back l R p e below s sargs y len W9 (PreOf R mc ms Pc) (PostOf Qc mc ms free) (vx_Post XC mc ms free) := by
  intro m meth c A g ig mk a X hg hsize hdg hW hn hp
  have h1 : (headSpec ws rm).pre.before a A.U = true := atoms_intro fun w hw => hws w hw _ _ X.warmed
  have h2 : (Cond.codeWith y bytes maxL ret hh).before a A.U = true := hws _ hcode _ _ X.warmed
  have h3 : (Cond.initialized y.cls).before a A.U = true := hinit _ _ X.warmed
  have h4 : A.cells + (headSpec ws rm).room.cells ≤ R.cells := by rw [show (headSpec ws rm).room.cells = mc from hrc]; exact hp.1
  have h5 : A.slots + (headSpec ws rm).room.slots ≤ R.slots := by rw [show (headSpec ws rm).room.slots = ms from hrs]; exact hp.2.1
  have hPc : Pc a (A.U.calling g mk a) := hblind _ _ _ _ hp.2.2
  obtain ⟨U, Ls, c0, s0⟩ := A
  dsimp only [Pt.U, Pt.locs, Pt.cells, Pt.slots] at h1 h2 h3 h4 h5 X hn hPc ⊢
  obtain ⟨m9, methY, cY, hn9, hmY, hcY, -, hlY, -⟩ := Cond.codeWith_spec h2
  cases Option.some.inj (hn9.symm.trans hn)
  obtain ⟨kY, hkY, -⟩ := className_of_methodNamed hn
  have hinitY : kY.init = .initialized := Cond.initialized_spec (findClass_of_methodNamed hn) hkY h3
  have h : At U g.method c below := by rw [hg]; exact X.here
  have hlocals9 : W9 + (maxL + 11) + (headSpec ws rm).room.locals ≤ R.locals := hlocals
  have happ : (headSpec ws rm).appliesLoose y e.platform (U.calling g mk a) = true :=
    Spec.appliesLoose_calling (g := g) h hdg hn hkY hinitY
      (X.room_calling (g := g) (R' := (headSpec ws rm).room) hsize hmY hcY hframes (by rw [hlY]; omega) h4 h5) h1
  obtain ⟨mid, hmid⟩ := h.above
  have hfr : (U.setTop g).frames = (.java g :: mid) ++ below := by rw [State.frames_setTop' g h.top, hmid]; rfl
  obtain ⟨o, s₂, hsteps, -, hend, hq⟩ := Steps.callFree hM p X.admits X.cas X.clock (acts := []) hfr happ hPc trivial
  have hq' : vx_Q Qc XC mc ms free a (U.calling g mk a) o s₂ := hq
  rw [State.frames_setTop' g h.top] at hend
  obtain ⟨g₀, hg0⟩ := Option.isSome_iff_exists.mp h.top
  obtain ⟨r, hr⟩ := State.topJava?_eq_some.mp hg0
  have hr' : (({ U with heap := s₂.heap, slotsUsed := s₂.slotsUsed } : State).setVm s₂.vm).frames = .java g₀ :: r := hr
  rcases hq' with ⟨hqc, L, hfe, hL⟩ | ⟨q, rfl, E, ce, L, hx, hce, hcv, hcl, hW₂, hsm, hL⟩
  · obtain ⟨⟨v, rfl⟩, hW₂, e2, q2, q3, q4, q5, q6⟩ := id hfe
    have e3 : s₂ = ({ (U.calling g mk a).setFrames s₂.frames with heap := s₂.heap, slotsUsed := s₂.slotsUsed } : State).setVm s₂.vm := by
      have : s₂ = ({ s₂ with vm := (U.calling g mk a).vm } : State).setVm s₂.vm := rfl
      rw [e2] at this
      exact this
    obtain ⟨c₂, i₂, len₂, hc₂, hd₂, hf₂⟩ := hend
    have hW' : U.WarmedH s₂.vm := hW₂
    have hcc : c₂ = c := by
      have h1 : s₂.code? g.method = U.code? g.method := by
        rw [State.code?_eq, State.code?_eq, hW'.alike.method?]
      exact Option.some.inj (hc₂.symm.trans (h1.trans h.code))
    subst hcc
    have hlen : len₂ = len := by rw [hdg] at hd₂; cases hd₂; rfl
    subst hlen
    have hs₂ : s₂ = (({ U with heap := s₂.heap, slotsUsed := s₂.slotsUsed } : State).setVm s₂.vm).setTop { g with pc := g.pc + len₂, stack := v.toList ++ g.stack } := by
      refine e3.trans ?_
      rw [hf₂, State.calling_eq h.top, State.setFrames_setFrames, State.setTop_of_frames _ hr', hr]
      rfl
    have hsame : U.sameButNew ({ U with heap := s₂.heap, slotsUsed := s₂.slotsUsed } : State) L mc ms := by
      refine ⟨?_, q2, q3, q4, q5, q6⟩
      obtain ⟨t, ht, -⟩ := State.frames_cons hr
      show ({ U with heap := s₂.heap, slotsUsed := s₂.slotsUsed } : State) = { U.setFrames U.frames with heap := s₂.heap, slotsUsed := s₂.slotsUsed }
      rw [State.setFrames_self ht]
    subst hg
    refine Or.inl ⟨v, ⟨(({ U with heap := s₂.heap, slotsUsed := s₂.slotsUsed } : State).setVm s₂.vm), Ls ++ L, c0 + mc, s0 + ms⟩,
      ⟨X.admits, X.cas, X.clock, X.frames, X.room, X.hears, X.method, X.code, (X.here.setHeapUsed s₂.heap s₂.slotsUsed).setVm hW'.alike, X.tail, State.WarmedH.trans X.warmed hW', X.limits, X.bytes, X.same.trans (hsame.setVm s.vm)⟩,
      ⟨g, mk, s₂, L, rfl, rfl, hqc, rfl, hL, rfl, rfl⟩, ?_⟩
    show Steps p.tables e below _ ((({ U with heap := s₂.heap, slotsUsed := s₂.slotsUsed } : State).setVm s₂.vm).setTop { g with pc := g.pc + len₂, stack := v.toList ++ g.stack })
    rw [← hs₂]
    exact hsteps
  · obtain ⟨e2, q2, q3, q4, q5, q6⟩ := id hsm
    have e3 : s₂ = ({ (U.calling g mk a).setFrames s₂.frames with heap := s₂.heap, slotsUsed := s₂.slotsUsed } : State).setVm s₂.vm := by
      have : s₂ = ({ s₂ with vm := (U.calling g mk a).vm } : State).setVm s₂.vm := rfl
      rw [e2] at this
      exact this
    have hf₂ : s₂.frames = .throwing q :: .java g :: U.frames.tail := hend
    have hW' : U.WarmedH s₂.vm := hW₂
    have hs₂ : s₂ = ((({ U with heap := s₂.heap, slotsUsed := s₂.slotsUsed } : State).setVm s₂.vm).setTop g).pushFrame (.throwing q) := by
      refine e3.trans ?_
      rw [hf₂, State.calling_eq h.top, State.setFrames_setFrames, State.pushFrame, State.frames_setTop _ hr', State.setTop_of_frames _ hr', State.setFrames_setFrames, hr]
      rfl
    have hsame : U.sameButNew ({ U with heap := s₂.heap, slotsUsed := s₂.slotsUsed } : State) L mc ms := by
      refine ⟨?_, q2, q3, q4, q5, q6⟩
      obtain ⟨t, ht, -⟩ := State.frames_cons hr
      show ({ U with heap := s₂.heap, slotsUsed := s₂.slotsUsed } : State) = { U.setFrames U.frames with heap := s₂.heap, slotsUsed := s₂.slotsUsed }
      rw [State.setFrames_self ht]
    subst hg
    refine Or.inr ⟨q, ⟨(({ U with heap := s₂.heap, slotsUsed := s₂.slotsUsed } : State).setVm s₂.vm), Ls ++ L, c0 + mc, s0 + ms⟩,
      ⟨X.admits, X.cas, X.clock, X.frames, X.room, X.hears, X.method, X.code, (X.here.setHeapUsed s₂.heap s₂.slotsUsed).setVm hW'.alike, X.tail, State.WarmedH.trans X.warmed hW', X.limits, X.bytes, X.same.trans (hsame.setVm s.vm)⟩,
      ⟨g, mk, s₂, L, E, ce, rfl, rfl, hx, hce, hcv, hcl, rfl, hL, rfl, rfl⟩, ?_⟩
    show Steps p.tables e below _ (((({ U with heap := s₂.heap, slotsUsed := s₂.slotsUsed } : State).setVm s₂.vm).setTop g).pushFrame (.throwing q))
    rw [← hs₂]
    exact hsteps
end
variable {p : Program} {l : Launch} {e : Env} {R : Room} {s : State} {m : MethodId} {args : Array Value} {below : List Frame} {meth : Method} {c : Code} {T : State} {H : Heap} {locs : List Loc} {cells slots : Nat}
theorem vx_callVX (X : Stand p l e R s m args below meth c T locs cells slots) (hexec : p.tables.exec = Jvm.exec) {own C : String} {index : Nat} {y : MethodName} {bytes : ByteArray} {maxL : Nat} {ret : Option FieldType} {hh : List (Nat × Nat × Nat × Nat)}
    (hown : s.vm.findClass own = some m.cls) (hlink : (Cond.methodLink own index y).before args s = true) (hinst : (Cond.instanceMethod y).before args s = true) (hsel : (Cond.selects C y y).before args s = true)
    (hcode : (Cond.codeWith y bytes maxL ret hh).before args s = true) (hy : y.cls ≠ "java/lang/invoke/MethodHandle" ∧ y.cls ≠ "java/lang/invoke/VarHandle")
    {W9 : Nat} {Pre : Pt → Array Value → Prop} {Post : Pt → Array Value → Option Value → Pt → Prop} {PostX : Pt → Array Value → Addr → Pt → Prop} (hK : vx_Back l R p e below s args y 3 W9 Pre Post PostX)
    {b : Addr} {cellB : Cell} (hcell : T.heap[b]? = some cellB) (hobj : cellB.vm.isStatics = false) (hcls : s.vm.findClass C = some cellB.cls)
    {g : JFrame} (hg : g.method = m) (hsize : g.locals.size = c.maxLocals) {argsL rest : List Value} (hlen : ∀ sig, parseMethodDescriptor y.desc = some sig → argsL.length = sig.parameters.length)
    (hstack : g.stack = argsL.reverse ++ .ref b :: rest) (hW : 2 * g.monitorRoom + (rest.map fun v => v.category).sum ≤ W9) (hdg : decode c.code g.pc = .ok (.invokevirtual index, 3))
    (hpre : ∀ vm₁, s.WarmedH vm₁ → Pre ⟨T.setVm vm₁, locs, cells, slots⟩ (Value.ref b :: argsL).toArray) :
    (∃ (v : Option Value) (vm₁ : Vm) (B : Pt), s.WarmedH vm₁ ∧ Stand p l e R s m args below meth c B.U B.locs B.cells B.slots ∧ Post ⟨T.setVm vm₁, locs, cells, slots⟩ (Value.ref b :: argsL).toArray v B ∧
      ∀ target, Steps p.tables e below (B.U.setTop { g with pc := g.pc + 3, stack := v.toList ++ rest }) target → Steps p.tables e below (T.setTop g) target) ∨
    (∃ (q : Addr) (vm₁ : Vm) (B : Pt), s.WarmedH vm₁ ∧ Stand p l e R s m args below meth c B.U B.locs B.cells B.slots ∧ PostX ⟨T.setVm vm₁, locs, cells, slots⟩ (Value.ref b :: argsL).toArray q B ∧
      Steps p.tables e below (T.setTop g) ((B.U.setTop { g with stack := rest }).pushFrame (.throwing q))) := by
  obtain ⟨mk, methM, hnamed, hmethM, hstM, habM⟩ := Cond.instanceMethod_spec hinst
  obtain ⟨m8, methM', cM, hn8, hmethM', -, -, -, -, -, -, hsigM⟩ := Cond.codeWith_spec hcode
  cases Option.some.inj (hn8.symm.trans hnamed)
  cases hmethM.symm.trans hmethM'
  obtain ⟨c2, r2, m2, q1, q2, q3, q4, kP, hkP, hkPi⟩ := Cond.selects_spec hsel
  cases hcls.symm.trans q1
  cases (State.methodFound?_of_named hnamed hy).symm.trans q2
  cases hnamed.symm.trans q3
  have hselP : selectMethod e.platform s.vm cellB.cls mk = .method mk := by rw [Launch.admits_selectMethod X.admits]; exact q4
  obtain ⟨vm₁, X₁, hstep₁⟩ := X.invokevirtual hexec hown hlink hnamed hmethM hstM hkP hkPi hy (a := b) (cell := cellB) hcell
    (fun z h => by rw [h] at hobj; cases hobj) hselP hmethM habM hkP hkPi (g := g) hg (argsL := argsL) (rest := rest) (hlen _ hsigM) hstack hdg
  rcases hK m meth c ⟨T.setVm vm₁, locs, cells, slots⟩ { g with stack := rest } (.invokevirtual index) mk (Value.ref b :: argsL).toArray X₁ hg hsize hdg hW (X₁.named hnamed) (hpre vm₁ X₁.warmed) with ⟨v, B, X', hpost, hsteps⟩ | ⟨q, B, X', hpost, hsteps⟩
  · exact Or.inl ⟨v, vm₁, B, X₁.warmed, X', hpost, fun target h => hstep₁ _ fun acts => by rw [doInvoke_state]; exact hsteps.trans h⟩
  · exact Or.inr ⟨q, vm₁, B, X₁.warmed, X', hpost, hstep₁ _ fun acts => by rw [doInvoke_state]; exact hsteps⟩
theorem vx_callSX (X : Stand p l e R s m args below meth c T locs cells slots) (hexec : p.tables.exec = Jvm.exec) {own : String} {index : Nat} {y : MethodName} {bytes : ByteArray} {maxL : Nat} {ret : Option FieldType} {hh : List (Nat × Nat × Nat × Nat)}
    (hown : s.vm.findClass own = some m.cls) (hlink : (Cond.methodLink own index y).before args s = true) (hstat : (Cond.static y).before args s = true) (hinit : (Cond.initialized y.cls).before args s = true)
    (hcode : (Cond.codeWith y bytes maxL ret hh).before args s = true) (hy : y.cls ≠ "java/lang/invoke/MethodHandle" ∧ y.cls ≠ "java/lang/invoke/VarHandle")
    {W9 : Nat} {Pre : Pt → Array Value → Prop} {Post : Pt → Array Value → Option Value → Pt → Prop} {PostX : Pt → Array Value → Addr → Pt → Prop} (hK : vx_Back l R p e below s args y 3 W9 Pre Post PostX)
    {g : JFrame} (hg : g.method = m) (hsize : g.locals.size = c.maxLocals) {argsL rest : List Value} (hlen : ∀ sig, parseMethodDescriptor y.desc = some sig → argsL.length = sig.parameters.length)
    (hstack : g.stack = argsL.reverse ++ rest) (hW : 2 * g.monitorRoom + (rest.map fun v => v.category).sum ≤ W9) (hdg : decode c.code g.pc = .ok (.invokestatic index, 3))
    (hpre : ∀ vm₁, s.WarmedH vm₁ → Pre ⟨T.setVm vm₁, locs, cells, slots⟩ argsL.toArray) :
    (∃ (v : Option Value) (vm₁ : Vm) (B : Pt), s.WarmedH vm₁ ∧ Stand p l e R s m args below meth c B.U B.locs B.cells B.slots ∧ Post ⟨T.setVm vm₁, locs, cells, slots⟩ argsL.toArray v B ∧
      ∀ target, Steps p.tables e below (B.U.setTop { g with pc := g.pc + 3, stack := v.toList ++ rest }) target → Steps p.tables e below (T.setTop g) target) ∨
    (∃ (q : Addr) (vm₁ : Vm) (B : Pt), s.WarmedH vm₁ ∧ Stand p l e R s m args below meth c B.U B.locs B.cells B.slots ∧ PostX ⟨T.setVm vm₁, locs, cells, slots⟩ argsL.toArray q B ∧
      Steps p.tables e below (T.setTop g) ((B.U.setTop { g with stack := rest }).pushFrame (.throwing q))) := by
  obtain ⟨mk, methM, cM, hnamed, hmethM, -, -, -, -, -, -, hsigM⟩ := Cond.codeWith_spec hcode
  have hstatic : methM.isStatic = true := Cond.static_spec hnamed hmethM hstat
  obtain ⟨kP, hkP, -⟩ := className_of_methodNamed hnamed
  have hinitP : kP.init = .initialized := Cond.initialized_spec (findClass_of_methodNamed hnamed) hkP hinit
  obtain ⟨vm₁, X₁, hstep₁⟩ := X.invokestatic hexec hown hlink hnamed hmethM hstatic hkP hinitP hy (g := g) hg (argsL := argsL) (rest := rest) (hlen _ hsigM) hstack hdg
  rcases hK m meth c ⟨T.setVm vm₁, locs, cells, slots⟩ { g with stack := rest } (.invokestatic index) mk argsL.toArray X₁ hg hsize hdg hW (X₁.named hnamed) (hpre vm₁ X₁.warmed) with ⟨v, B, X', hpost, hsteps⟩ | ⟨q, B, X', hpost, hsteps⟩
  · exact Or.inl ⟨v, vm₁, B, X₁.warmed, X', hpost, fun target h => hstep₁ _ fun acts => by rw [doInvoke_state]; exact hsteps.trans h⟩
  · exact Or.inr ⟨q, vm₁, B, X₁.warmed, X', hpost, hstep₁ _ fun acts => by rw [doInvoke_state]; exact hsteps⟩
theorem vx_callVW (X : Stand p l e R s m args below meth c T locs cells slots) (hexec : p.tables.exec = Jvm.exec) {own C : String} {index : Nat} {y : MethodName} {bytes : ByteArray} {maxL : Nat} {ret : Option FieldType} {hh : List (Nat × Nat × Nat × Nat)}
    (hown : s.vm.findClass own = some m.cls) (hlink : (Cond.methodLink own index y).before args s = true) (hinst : (Cond.instanceMethod y).before args s = true) (hsel : (Cond.selects C y y).before args s = true)
    (hcode : (Cond.codeWith y bytes maxL ret hh).before args s = true) (hy : y.cls ≠ "java/lang/invoke/MethodHandle" ∧ y.cls ≠ "java/lang/invoke/VarHandle")
    {W9 : Nat} {Pre : Pt → Array Value → Prop} {Post : Pt → Array Value → Option Value → Pt → Prop} (hK : Back l R p e below s args y 3 W9 Pre Post)
    {b : Addr} {cellB : Cell} (hcell : T.heap[b]? = some cellB) (hobj : cellB.vm.isStatics = false) (hcls : s.vm.findClass C = some cellB.cls)
    {g : JFrame} (hg : g.method = m) (hsize : g.locals.size = c.maxLocals) {argsL rest : List Value} (hlen : ∀ sig, parseMethodDescriptor y.desc = some sig → argsL.length = sig.parameters.length)
    (hstack : g.stack = argsL.reverse ++ .ref b :: rest) (hW : 2 * g.monitorRoom + (rest.map fun v => v.category).sum ≤ W9) (hdg : decode c.code g.pc = .ok (.invokevirtual index, 3))
    (hpre : ∀ vm₁, s.WarmedH vm₁ → Pre ⟨T.setVm vm₁, locs, cells, slots⟩ (Value.ref b :: argsL).toArray) :
    ∃ (v : Option Value) (vm₁ : Vm) (B : Pt), s.WarmedH vm₁ ∧ Stand p l e R s m args below meth c B.U B.locs B.cells B.slots ∧ Post ⟨T.setVm vm₁, locs, cells, slots⟩ (Value.ref b :: argsL).toArray v B ∧
      ∀ target, Steps p.tables e below (B.U.setTop { g with pc := g.pc + 3, stack := v.toList ++ rest }) target → Steps p.tables e below (T.setTop g) target := by
  obtain ⟨mk, methM, hnamed, hmethM, hstM, habM⟩ := Cond.instanceMethod_spec hinst
  obtain ⟨m8, methM', cM, hn8, hmethM', -, -, -, -, -, -, hsigM⟩ := Cond.codeWith_spec hcode
  cases Option.some.inj (hn8.symm.trans hnamed)
  cases hmethM.symm.trans hmethM'
  obtain ⟨c2, r2, m2, q1, q2, q3, q4, kP, hkP, hkPi⟩ := Cond.selects_spec hsel
  cases hcls.symm.trans q1
  cases (State.methodFound?_of_named hnamed hy).symm.trans q2
  cases hnamed.symm.trans q3
  have hselP : selectMethod e.platform s.vm cellB.cls mk = .method mk := by rw [Launch.admits_selectMethod X.admits]; exact q4
  obtain ⟨vm₁, X₁, hstep₁⟩ := X.invokevirtual hexec hown hlink hnamed hmethM hstM hkP hkPi hy (a := b) (cell := cellB) hcell
    (fun z h => by rw [h] at hobj; cases hobj) hselP hmethM habM hkP hkPi (g := g) hg (argsL := argsL) (rest := rest) (hlen _ hsigM) hstack hdg
  obtain ⟨v, B, X', hpost, hsteps⟩ := hK m meth c ⟨T.setVm vm₁, locs, cells, slots⟩ { g with stack := rest } (.invokevirtual index) mk (Value.ref b :: argsL).toArray X₁ hg hsize hdg hW (X₁.named hnamed) (hpre vm₁ X₁.warmed)
  exact ⟨v, vm₁, B, X₁.warmed, X', hpost, fun target h => hstep₁ _ fun acts => by rw [doInvoke_state]; exact hsteps.trans h⟩
abbrev vx_CVW (R : Room) (s : State) (args : Array Value) (own C : String) (index : Nat) (y : MethodName) (bytes : ByteArray) (maxL : Nat) (ret : Option FieldType) (hh : List (Nat × Nat × Nat × Nat)) (ws : List Cond) (rm : Room) (mc ms n : Nat) : Prop :=
  (rm.cells = mc ∧ rm.slots = ms ∧ rm.frames + 1 ≤ R.frames ∧ 8 + (maxL + 11) + rm.locals ≤ R.locals ∧ (∀ w ∈ ws, ∀ (a' : Array Value) (U : State), s.WarmedH U.vm → w.before a' U = true) ∧ Cond.codeWith y bytes maxL ret hh ∈ ws) ∧
  (Cond.codeWith y bytes maxL ret hh).before args s = true ∧ (Cond.initialized y.cls).before args s = true ∧ (y.cls ≠ "java/lang/invoke/MethodHandle" ∧ y.cls ≠ "java/lang/invoke/VarHandle") ∧
  (∀ sig, parseMethodDescriptor y.desc = some sig → n = sig.parameters.length) ∧ (Cond.methodLink own index y).before args s = true ∧ (Cond.instanceMethod y).before args s = true ∧ (Cond.selects C y y).before args s = true
theorem vx_cwVW {own C : String} {index maxL mc ms : Nat} {y : MethodName} {bytes : ByteArray} {ret : Option FieldType} {hh : List (Nat × Nat × Nat × Nat)} {Ts ws ws' : List Cond} {rm : Room} (n : Nat) (ht : ∀ w ∈ Ts, w.before args s = true) (hT : GoodIn Ts (wsV own index C y ws)) (hw : ws = Cond.codeWith y bytes maxL ret hh :: ws') (hrc : rm.cells = mc) (hrs : rm.slots = ms)
    (hd : y.cls = C ∧ y.cls ≠ "java/lang/invoke/MethodHandle" ∧ y.cls ≠ "java/lang/invoke/VarHandle" ∧ (parseMethodDescriptor y.desc).map (fun d => d.parameters.length) = some n) (hR : rm.frames + 1 ≤ R.frames ∧ 8 + (maxL + 11) + rm.locals ≤ R.locals) :
    vx_CVW R s args own C index y bytes maxL ret hh ws rm mc ms n := by
  obtain ⟨hC, hd⟩ := hd
  subst hC
  have ok : ∀ w ∈ wsV own index y.cls y ws, w.before args s = true := fun w h => ht w (hT w h).1
  have hG : GoodIn Ts ws := fun w h => hT w (by unfold wsV; exact List.mem_append_right _ h)
  have hc : Cond.codeWith y bytes maxL ret hh ∈ ws := by rw [hw]; exact List.mem_cons_self
  refine ⟨⟨hrc, hrs, hR.1, hR.2, pay_in ht hG, hc⟩, ht _ (hG _ hc).1, ok _ (by simp [wsV]), ⟨hd.1, hd.2.1⟩, fun sig h => ?_, ok _ (by simp [wsV]), ok _ (by simp [wsV]), ok _ (by simp [wsV])⟩
  have h2 := hd.2.2
  rw [h] at h2
  exact (Option.some.inj h2).symm
theorem vx_runVW {y : MethodName} {bytes cc : ByteArray} {maxL nL mc ms n index : Nat} {ret : Option FieldType} {hh : List (Nat × Nat × Nat × Nat)} {ws : List Cond} {rm : Room} {Pc : Array Value → State → Prop} {Qc : Array Value → State → Outcome → State → Prop} {free : Addr → Prop} {Ts : List Cond} {own C : String} {b : Addr} {As rest : List Value} {g : JFrame}
    (S : CallFix p m c cc nL s args Ts own) (hM : Met l y ws rm Pc Qc mc ms free) (cw : vx_CVW R s args own C index y bytes maxL ret hh ws rm mc ms n) (hp : PreV s H C b Pc As)
    (hg : g.method = m) (hn : As.length = n) (hsize : g.locals.size = nL) (hstack : g.stack = As.reverse ++ .ref b :: rest) (hW : 2 * g.monitorRoom + (rest.map fun v => v.category).sum ≤ 8) (hdg : decode cc g.pc = .ok (.invokevirtual index, 3)) (hf : cells + mc ≤ R.cells ∧ slots + ms ≤ R.slots) :
    va_Run p l e R s m args below meth c H locs cells slots mc ms g rest (Qc (Value.ref b :: As).toArray) free := by
  obtain ⟨⟨hrc, hrs, hfr, hlo, hws, hcw⟩, hcode, hini, hy, hlen, hl, hin, hse⟩ := cw
  have hK : Back l R p e below s args y 3 8 (PreOf R mc ms Pc) (PostOf Qc mc ms free) := va_backW (hh := hh) (bytes := bytes) (maxL := maxL) (ret := ret) hM hp.1 hrc hrs hfr hlo hws hcw (fun a' U hW => word_at hW (Or.inl (by first | rfl | simp [Cond.onTables, Cond.keeps, Cond.steady])) hini)
  obtain ⟨hx, hb, hml, ho, -⟩ := S
  obtain ⟨-, ⟨cellB, hcB, hoB, hclB⟩, hPc⟩ := hp
  intro T hT X
  obtain ⟨v, vm₁, ⟨U', l2, c2, s2⟩, hW₁, X', ⟨g', mk, t, L, e1, e2, hq, h1, hL, h2, h3⟩, st⟩ := vx_callVW X hx (C := C) (hh := hh) (bytes := bytes) (maxL := maxL) (ret := ret) ho hl hin hse hcode hy hK (by rw [hT]; exact hcB) hoB hclB hg (hsize.trans hml.symm) (argsL := As) (rest := rest) (fun sig h => hn.trans (hlen sig h)) hstack hW (by rw [hb]; exact hdg)
    (fun vm₁ hW₁ => ⟨hf.1, hf.2, hPc (T.setVm vm₁) hT hW₁⟩)
  dsimp only [Pt.U, Pt.locs, Pt.cells, Pt.slots] at X' e1 e2 h1 h2 h3 st
  subst h1; subst h2; subst h3
  exact ⟨v, (T.setVm vm₁).calling g' mk (Value.ref b :: As).toArray, t, U', L, hT, X', hL, e1, e2, hq, st⟩
section
variable {y : MethodName} {bytes cc : ByteArray} {maxL nL mc ms n index : Nat} {ret : Option FieldType} {ws : List Cond} {rm : Room} {Pc : Array Value → State → Prop} {Qc : Array Value → State → Outcome → State → Prop} {XC : String → State → State → Prop} {free : Addr → Prop} {Ts : List Cond} {own C : String} {b : Addr} {As rest : List Value} {g : JFrame}
theorem vx_runVX {hh : List (Nat × Nat × Nat × Nat)} (S : CallFix p m c cc nL s args Ts own) (hM : vx_Met l y ws rm Pc Qc XC mc ms free) (cw : vx_CVW R s args own C index y bytes maxL ret hh ws rm mc ms n) (hp : PreV s H C b Pc As)
    (hg : g.method = m) (hn : As.length = n) (hsize : g.locals.size = nL) (hstack : g.stack = As.reverse ++ .ref b :: rest) (hW : 2 * g.monitorRoom + (rest.map fun v => v.category).sum ≤ 8) (hdg : decode cc g.pc = .ok (.invokevirtual index, 3)) (hf : cells + mc ≤ R.cells ∧ slots + ms ≤ R.slots) :
    vx_Run p l e R s m args below meth c H locs cells slots mc ms g rest (Qc (Value.ref b :: As).toArray) XC free := by
  obtain ⟨⟨hrc, hrs, hfr, hlo, hws, hcw⟩, hcode, hini, hy, hlen, hl, hin, hse⟩ := cw
  have hK : vx_Back l R p e below s args y 3 8 (PreOf R mc ms Pc) (PostOf Qc mc ms free) (vx_Post XC mc ms free) := vx_backW (hh := hh) (bytes := bytes) (maxL := maxL) (ret := ret) hM hp.1 hrc hrs hfr hlo hws hcw (fun a' U hW => word_at hW (Or.inl (by first | rfl | simp [Cond.onTables, Cond.keeps, Cond.steady])) hini)
  obtain ⟨hx, hb, hml, ho, -⟩ := S
  obtain ⟨-, ⟨cellB, hcB, hoB, hclB⟩, hPc⟩ := hp
  intro T hT X
  rcases vx_callVX X hx (C := C) (hh := hh) (bytes := bytes) (maxL := maxL) (ret := ret) ho hl hin hse hcode hy hK (by rw [hT]; exact hcB) hoB hclB hg (hsize.trans hml.symm) (argsL := As) (rest := rest) (fun sig h => hn.trans (hlen sig h)) hstack hW (by rw [hb]; exact hdg)
    (fun vm₁ hW₁ => ⟨hf.1, hf.2, hPc (T.setVm vm₁) hT hW₁⟩) with ⟨v, vm₁, ⟨U', l2, c2, s2⟩, hW₁, X', ⟨g', mk, t, L, e1, e2, hq, h1, hL, h2, h3⟩, st⟩ | ⟨q, vm₁, ⟨U', l2, c2, s2⟩, hW₁, X', ⟨g', mk, t, L, E, ce, e1, e2, hq, hce, hcv, hcl, h1, hL, h2, h3⟩, st⟩
  · dsimp only [Pt.U, Pt.locs, Pt.cells, Pt.slots] at X' e1 e2 h1 h2 h3 st
    subst h1; subst h2; subst h3
    exact Or.inl ⟨v, (T.setVm vm₁).calling g' mk (Value.ref b :: As).toArray, t, U', L, hT, X', hL, e1, e2, hq, st⟩
  · dsimp only [Pt.U, Pt.locs, Pt.cells, Pt.slots] at X' e1 e2 h1 h2 h3 st hcl
    subst h1; subst h2; subst h3
    exact Or.inr ⟨q, (T.setVm vm₁).calling g' mk (Value.ref b :: As).toArray, t, U', L, E, ce, hT, X', hL, e1, e2, hq, hce, hcv, vx_cls hW₁ hcl, st⟩
theorem vx_runSX {hh : List (Nat × Nat × Nat × Nat)} (S : CallFix p m c cc nL s args Ts own) (hM : vx_Met l y ws rm Pc Qc XC mc ms free) (cw : vx_CSW R s args own index y bytes maxL ret hh ws rm mc ms n) (hp : PreS s H Pc As)
    (hg : g.method = m) (hn : As.length = n) (hsize : g.locals.size = nL) (hstack : g.stack = As.reverse ++ rest) (hW : 2 * g.monitorRoom + (rest.map fun v => v.category).sum ≤ 8) (hdg : decode cc g.pc = .ok (.invokestatic index, 3)) (hf : cells + mc ≤ R.cells ∧ slots + ms ≤ R.slots) :
    vx_Run p l e R s m args below meth c H locs cells slots mc ms g rest (Qc As.toArray) XC free := by
  obtain ⟨⟨hrc, hrs, hfr, hlo, hws, hcw⟩, hcode, hini, hy, hlen, hl, hstt⟩ := cw
  have hK : vx_Back l R p e below s args y 3 8 (PreOf R mc ms Pc) (PostOf Qc mc ms free) (vx_Post XC mc ms free) := vx_backW (hh := hh) (bytes := bytes) (maxL := maxL) (ret := ret) hM hp.1 hrc hrs hfr hlo hws hcw (fun a' U hW => word_at hW (Or.inl (by first | rfl | simp [Cond.onTables, Cond.keeps, Cond.steady])) hini)
  obtain ⟨hx, hb, hml, ho, -⟩ := S
  intro T hT X
  rcases vx_callSX X hx (hh := hh) (bytes := bytes) (maxL := maxL) (ret := ret) ho hl hstt hini hcode hy hK hg (hsize.trans hml.symm) (argsL := As) (rest := rest) (fun sig h => hn.trans (hlen sig h)) hstack hW (by rw [hb]; exact hdg)
    (fun vm₁ hW₁ => ⟨hf.1, hf.2, hp.2 (T.setVm vm₁) hT hW₁⟩) with ⟨v, vm₁, ⟨U', l2, c2, s2⟩, hW₁, X', ⟨g', mk, t, L, e1, e2, hq, h1, hL, h2, h3⟩, st⟩ | ⟨q, vm₁, ⟨U', l2, c2, s2⟩, hW₁, X', ⟨g', mk, t, L, E, ce, e1, e2, hq, hce, hcv, hcl, h1, hL, h2, h3⟩, st⟩
  · dsimp only [Pt.U, Pt.locs, Pt.cells, Pt.slots] at X' e1 e2 h1 h2 h3 st
    subst h1; subst h2; subst h3
    exact Or.inl ⟨v, (T.setVm vm₁).calling g' mk As.toArray, t, U', L, hT, X', hL, e1, e2, hq, st⟩
  · dsimp only [Pt.U, Pt.locs, Pt.cells, Pt.slots] at X' e1 e2 h1 h2 h3 st hcl
    subst h1; subst h2; subst h3
    exact Or.inr ⟨q, (T.setVm vm₁).calling g' mk As.toArray, t, U', L, E, ce, hT, X', hL, e1, e2, hq, hce, hcv, vx_cls hW₁ hcl, st⟩
end
end VXH
theorem vx_ofWH {l : Launch} {y : MethodName} {ws ws' : List Cond} {rm : Room} {Pc : Array Value → State → Prop} {Qc : Array Value → State → Outcome → State → Prop} {XC : String → State → State → Prop} {mc ms : Nat} {free : Addr → Prop} {cc : ByteArray} {maxL : Nat} {ret : Option FieldType} {hh : List (Nat × Nat × Nat × Nat)}
    (hy : plainName y.cls = true) (hw : ws = Cond.codeWith y cc maxL ret hh :: ws')
    (body : ∀ p e s m args below meth c s₁, BodyLoose p l y (headSpec ws rm) cc maxL ret e s m args below meth c s₁ → c.maxLocals = maxL → Pc args s →
      W p l e (headSpec ws rm).room s m args below meth c s.heap [] 0 0 (vx_MQ below Qc XC args s mc ms free) (entryFrame m args maxL)) : vx_Met l y ws rm Pc Qc XC mc ms free := by
  refine MetFree.of_bodyS (code := cc) (maxLocals := maxL) (ret := ret) hy ?_ ?_
  · intro args s m h hn
    obtain ⟨m9, meth, c, hn9, h1, h2, h3, h4, -, h5, h6, -⟩ := Cond.codeWith_spec (atoms_spec (ws := ws) h _ (by rw [hw]; exact List.mem_cons_self))
    cases hn.symm.trans hn9
    exact ⟨meth, c, h1, h2, h3, h4, h5, h6⟩
  · intro p e s m args below meth c s₁ B hml hP _
    have hh0 : s₁.heap = s.heap := by rw [B.state]; rfl
    obtain ⟨t, a1, o, b1, b2, b3⟩ := body p e s m args below meth c s₁ B hml hP s₁ hh0 (Stand.of_body B)
    exact ⟨t, o, a1, b1, b2, b3⟩
/-! ===== END ===== -/

section
variable {p : Program} {l : Launch} {e : Env} {R : Room} {s : State} {m : MethodId} {args : Array Value} {below : List Frame} {meth : Method} {c : Code} {H : Heap} {locs : List Loc} {cells slots : Nat} {Q : State → Prop}
variable {mc ms : Nat} {free : Addr → Prop} {A0 A1 : Nat → Prop} {H0 : Heap} {a : Array Value} {pc : Nat} {ls : Array Slot} {st0 rest : List Value}
theorem vx_callq {S SX : Type} {post : Option Nat → S → Prop} {px : SX → Prop} {B : S → State → Prop} {BX : String → SX → State → Prop} {AX : Nat → Prop} (hr : vx_Run p l e R s m args below meth c H locs cells slots mc ms (F0 m pc ls st0) rest (va_Qq post B A1 a) (vx_X px BX AX) free) (hS : va_S A0 H0 H locs) (hA : ∀ q, q < H.size → A1 q → A0 q) (hf : ∀ q, free q → A0 q) (hAX : ∀ q, q < H.size → AX q → A0 q)
    (kx : ∀ (E : String) (ce : Cell) (q9 : Addr) (u : SX) (t : State) (H1 : Heap) (locs1 : List Loc), t.heap = H1 → s.vm.Alike t.vm → px u → BX E u t → H.size ≤ H1.size → (∀ q : Nat, q < H.size → ¬ AX q → H1[q]? = H[q]?) → va_S A0 H0 H1 locs1 → H1[q9]? = some ce → ce.vm = .none → s.vm.findClass E = some ce.cls → vx_W p l e R s m args below meth c H1 locs1 (cells + mc) (slots + ms) Q (F0 m pc ls rest) q9)
    (kk : ∀ (r : Option Nat) (u : S) (t : State) (H1 : Heap) (locs1 : List Loc), t.heap = H1 → s.vm.Alike t.vm → post r u → B u t → H.size ≤ H1.size → (∀ q : Nat, q < H.size → ¬ A1 q → H1[q]? = H[q]?) → va_S A0 H0 H1 locs1 → W p l e R s m args below meth c H1 locs1 (cells + mc) (slots + ms) Q (F0 m (pc + 3) ls (va_rf r :: rest))) : W p l e R s m args below meth c H locs cells slots Q (F0 m pc ls st0) := by
  intro T hT X
  rcases hr T hT X with ⟨v, st₀, t, T', L, h0, X', hL, e1, e2, ⟨⟨r, u, hv, hp, hb⟩, hF⟩, st⟩ | ⟨q, st₀, t, T', L, E, ce, h0, X', hL, e1, e2, ⟨u, hp, hb, hF⟩, hce, hcv, hcl, st⟩
  · cases hv
    obtain ⟨k1, k2, k3⟩ := vx_keep h0 e1 hS hA hf hL hF
    obtain ⟨t2, a1, b1⟩ := kk r u t T'.heap (locs ++ L) e1.symm (by rw [← e2]; exact X'.warmed.alike) hp hb k1 k2 k3 T' rfl X'
    exact ⟨t2, st t2 a1, b1⟩
  · obtain ⟨k1, k2, k3⟩ := vx_keep h0 e1 hS hAX hf hL hF
    obtain ⟨t2, a1, b1⟩ := kx E ce q u t T'.heap (locs ++ L) e1.symm (by rw [← e2]; exact X'.warmed.alike) hp hb k1 k2 k3 (by rw [e1]; exact hce) hcv hcl T' rfl X'
    exact ⟨t2, st.trans a1, b1⟩
end
end
section
def RX0 : String := "Watermarkmill$Dating"
def TX0 : u_T := fun k => match k with
  | 0 => ("Watermarkmill$Dating", "dates", "[I", true)
  | 1 => ("Watermarkmill$Dating", "stocks", "[I", true)
  | 2 => ("Watermarkmill$Dating", "claims", "[[I", true)
  | 3 => ("Watermarkmill$Dating", "steps", "[[I", true)
  | 4 => ("Watermarkmill$Dating", "documents", "I", false)
  | _ => ("Watermarkmill$Dating", "age", "I", false)
def tyX0 : Nat → FieldType := fun k => match k with
  | 0 => .array .int
  | 1 => .array .int
  | 2 => .array (.array .int)
  | 3 => .array (.array .int)
  | 4 => .int
  | _ => .int
theorem nmX0 : ∀ a, a < 6 → ∀ b, b < 6 → a ≠ b → (TX0 a).2.1 ≠ (TX0 b).2.1 := by decide +kernel
theorem tyX0_ok : ∀ k, k < 6 → parseFieldDescriptor (TX0 k).2.2.1 = some (tyX0 k) := by decide +kernel
abbrev cX0_init : ByteArray := prog_2_method_1_code
def yX0_init : MethodName := ⟨RX0, "<init>", "()V"⟩
abbrev cX0_addDocument : ByteArray := prog_2_method_2_code
def yX0_addDocument : MethodName := ⟨RX0, "addDocument", "()V"⟩
abbrev cX0_isClaimed : ByteArray := prog_2_method_3_code
def yX0_isClaimed : MethodName := ⟨RX0, "isClaimed", "(III)Z"⟩
abbrev cX0_addClaim : ByteArray := prog_2_method_4_code
def yX0_addClaim : MethodName := ⟨RX0, "addClaim", "(III)V"⟩
abbrev cX0_dropClaim : ByteArray := prog_2_method_5_code
def yX0_dropClaim : MethodName := ⟨RX0, "dropClaim", "(III)V"⟩
abbrev cX0_tellSteps : ByteArray := prog_2_method_6_code
def yX0_tellSteps : MethodName := ⟨RX0, "tellSteps", "()V"⟩
abbrev cX0_shortenSteps : ByteArray := prog_2_method_7_code
def yX0_shortenSteps : MethodName := ⟨RX0, "shortenSteps", "(II)V"⟩
abbrev cX0_isEarlierStock : ByteArray := prog_2_method_8_code
def yX0_isEarlierStock : MethodName := ⟨RX0, "isEarlierStock", "(II)Z"⟩
abbrev cX0_fitsWithout : ByteArray := prog_2_method_9_code
def yX0_fitsWithout : MethodName := ⟨RX0, "fitsWithout", "(I)Z"⟩
abbrev cX0_boundWithout : ByteArray := prog_2_method_10_code
def yX0_boundWithout : MethodName := ⟨RX0, "boundWithout", "(IIZ)I"⟩
abbrev cX0_firstYear : ByteArray := prog_2_method_11_code
def yX0_firstYear : MethodName := ⟨RX0, "firstYear", "(II)I"⟩
abbrev cX0_lastYear : ByteArray := prog_2_method_12_code
def yX0_lastYear : MethodName := ⟨RX0, "lastYear", "(II)I"⟩
abbrev cX0_hasDate : ByteArray := prog_2_method_13_code
def yX0_hasDate : MethodName := ⟨RX0, "hasDate", "(II)Z"⟩
def RX1 : String := "Watermarkmill$Document"
def TX1 : u_T := fun k => match k with
  | 0 => ("Watermarkmill$Document", "year", "I", true)
  | 1 => ("Watermarkmill$Document", "leaves", "I", true)
  | 2 => ("Watermarkmill$Document", "sheets", "[I", true)
  | 3 => ("Watermarkmill$Document", "stocks", "[I", true)
  | 4 => ("Watermarkmill$Document", "sources", "[I", true)
  | 5 => ("Watermarkmill$Document", "count", "I", false)
  | _ => ("Watermarkmill$Document", "isWashed", "Z", false)
def tyX1 : Nat → FieldType := fun k => match k with
  | 0 => .int
  | 1 => .int
  | 2 => .array .int
  | 3 => .array .int
  | 4 => .array .int
  | 5 => .int
  | _ => .boolean
theorem nmX1 : ∀ a, a < 7 → ∀ b, b < 7 → a ≠ b → (TX1 a).2.1 ≠ (TX1 b).2.1 := by decide +kernel
theorem tyX1_ok : ∀ k, k < 7 → parseFieldDescriptor (TX1 k).2.2.1 = some (tyX1 k) := by decide +kernel
abbrev cX1_init : ByteArray := prog_3_method_1_code
def yX1_init : MethodName := ⟨RX1, "<init>", "(II)V"⟩
abbrev cX1_add : ByteArray := prog_3_method_2_code
def yX1_add : MethodName := ⟨RX1, "add", "(I)V"⟩
abbrev cX1_replaceLeaf : ByteArray := prog_3_method_3_code
def yX1_replaceLeaf : MethodName := ⟨RX1, "replaceLeaf", "(III)V"⟩
abbrev cX1_sourceOf : ByteArray := prog_3_method_4_code
def yX1_sourceOf : MethodName := ⟨RX1, "sourceOf", "(II)I"⟩
abbrev cX1_mateOf : ByteArray := prog_3_method_5_code
def yX1_mateOf : MethodName := ⟨RX1, "mateOf", "(I)I"⟩
def RX2 : String := "Watermarkmill$Image"
def TX2 : u_T := fun k => match k with
  | 0 => ("Watermarkmill$Image", "mark", "I", true)
  | 1 => ("Watermarkmill$Image", "seen", "I", true)
  | 2 => ("Watermarkmill$Image", "distances", "[I", true)
  | _ => ("Watermarkmill$Image", "damages", "[I", true)
def tyX2 : Nat → FieldType := fun k => match k with
  | 0 => .int
  | 1 => .int
  | 2 => .array .int
  | _ => .array .int
theorem nmX2 : ∀ a, a < 4 → ∀ b, b < 4 → a ≠ b → (TX2 a).2.1 ≠ (TX2 b).2.1 := by decide +kernel
theorem tyX2_ok : ∀ k, k < 4 → parseFieldDescriptor (TX2 k).2.2.1 = some (tyX2 k) := by decide +kernel
abbrev cX2_init : ByteArray := prog_4_method_1_code
def yX2_init : MethodName := ⟨RX2, "<init>", "(II)V"⟩
abbrev cX2_isNear : ByteArray := prog_4_method_2_code
def yX2_isNear : MethodName := ⟨RX2, "isNear", "(LWatermarkmill$Image;I)Z"⟩
abbrev cX2_moreDamagedThan : ByteArray := prog_4_method_3_code
def yX2_moreDamagedThan : MethodName := ⟨RX2, "moreDamagedThan", "(LWatermarkmill$Image;)I"⟩
def RX3 : String := "Watermarkmill$Lot"
def TX3 : u_T := fun k => match k with
  | 0 => ("Watermarkmill$Lot", "mould", "I", true)
  | 1 => ("Watermarkmill$Lot", "turn", "I", true)
  | 2 => ("Watermarkmill$Lot", "year", "I", true)
  | 3 => ("Watermarkmill$Lot", "sheets", "I", true)
  | _ => ("Watermarkmill$Lot", "taken", "I", false)
def tyX3 : Nat → FieldType := fun k => match k with
  | 0 => .int
  | 1 => .int
  | 2 => .int
  | 3 => .int
  | _ => .int
theorem nmX3 : ∀ a, a < 5 → ∀ b, b < 5 → a ≠ b → (TX3 a).2.1 ≠ (TX3 b).2.1 := by decide +kernel
theorem tyX3_ok : ∀ k, k < 5 → parseFieldDescriptor (TX3 k).2.2.1 = some (tyX3 k) := by decide +kernel
abbrev cX3_init : ByteArray := prog_5_method_1_code
def yX3_init : MethodName := ⟨RX3, "<init>", "(IIII)V"⟩
abbrev cX3_left : ByteArray := prog_5_method_2_code
def yX3_left : MethodName := ⟨RX3, "left", "()I"⟩
abbrev cX3_takeSheet : ByteArray := prog_5_method_3_code
def yX3_takeSheet : MethodName := ⟨RX3, "takeSheet", "()I"⟩
def RX4 : String := "Watermarkmill$Mould"
def TX4 : u_T := fun k => match k with
  | 0 => ("Watermarkmill$Mould", "mill", "I", true)
  | 1 => ("Watermarkmill$Mould", "mark", "I", true)
  | 2 => ("Watermarkmill$Mould", "distances", "[I", true)
  | 3 => ("Watermarkmill$Mould", "damagedWires", "[I", true)
  | 4 => ("Watermarkmill$Mould", "damageKinds", "[I", true)
  | 5 => ("Watermarkmill$Mould", "damageYears", "[I", true)
  | 6 => ("Watermarkmill$Mould", "damages", "I", false)
  | 7 => ("Watermarkmill$Mould", "twin", "I", false)
  | 8 => ("Watermarkmill$Mould", "retired", "I", false)
  | 9 => ("Watermarkmill$Mould", "lastUse", "I", false)
  | _ => ("Watermarkmill$Mould", "lastSale", "LWatermarkmill$Sale;", false)
def tyX4 : Nat → FieldType := fun k => match k with
  | 0 => .int
  | 1 => .int
  | 2 => .array .int
  | 3 => .array .int
  | 4 => .array .int
  | 5 => .array .int
  | 6 => .int
  | 7 => .int
  | 8 => .int
  | 9 => .int
  | _ => .object "Watermarkmill$Sale"
theorem nmX4 : ∀ a, a < 11 → ∀ b, b < 11 → a ≠ b → (TX4 a).2.1 ≠ (TX4 b).2.1 := by decide +kernel
theorem tyX4_ok : ∀ k, k < 11 → parseFieldDescriptor (TX4 k).2.2.1 = some (tyX4 k) := by decide +kernel
abbrev cX4_init : ByteArray := prog_6_method_1_code
def yX4_init : MethodName := ⟨RX4, "<init>", "(II[I)V"⟩
abbrev cX4_addDamage : ByteArray := prog_6_method_2_code
def yX4_addDamage : MethodName := ⟨RX4, "addDamage", "(III)V"⟩
abbrev cX4_damageOf : ByteArray := prog_6_method_3_code
def yX4_damageOf : MethodName := ⟨RX4, "damageOf", "(II)I"⟩
abbrev cX4_stateIn : ByteArray := prog_6_method_4_code
def yX4_stateIn : MethodName := ⟨RX4, "stateIn", "(I)I"⟩
abbrev cX4_ownerIn : ByteArray := prog_6_method_5_code
def yX4_ownerIn : MethodName := ⟨RX4, "ownerIn", "(I)I"⟩
abbrev cX4_isSoldAfter : ByteArray := prog_6_method_6_code
def yX4_isSoldAfter : MethodName := ⟨RX4, "isSoldAfter", "(I)Z"⟩
abbrev cX4_isTouchedAfter : ByteArray := prog_6_method_7_code
def yX4_isTouchedAfter : MethodName := ⟨RX4, "isTouchedAfter", "(I)Z"⟩
abbrev cX4_isClosedIn : ByteArray := prog_6_method_8_code
def yX4_isClosedIn : MethodName := ⟨RX4, "isClosedIn", "(I)Z"⟩
abbrev cX4_isDamageKept : ByteArray := prog_6_method_9_code
def yX4_isDamageKept : MethodName := ⟨RX4, "isDamageKept", "()Z"⟩
def RX5 : String := "Watermarkmill$Ream"
def TX5 : u_T := fun k => match k with
  | 0 => ("Watermarkmill$Ream", "mill", "I", true)
  | 1 => ("Watermarkmill$Ream", "sheets", "[I", true)
  | _ => ("Watermarkmill$Ream", "count", "I", false)
def tyX5 : Nat → FieldType := fun k => match k with
  | 0 => .int
  | 1 => .array .int
  | _ => .int
theorem nmX5 : ∀ a, a < 3 → ∀ b, b < 3 → a ≠ b → (TX5 a).2.1 ≠ (TX5 b).2.1 := by decide +kernel
theorem tyX5_ok : ∀ k, k < 3 → parseFieldDescriptor (TX5 k).2.2.1 = some (tyX5 k) := by decide +kernel
abbrev cX5_init : ByteArray := prog_7_method_1_code
def yX5_init : MethodName := ⟨RX5, "<init>", "(I)V"⟩
abbrev cX5_add : ByteArray := prog_7_method_2_code
def yX5_add : MethodName := ⟨RX5, "add", "(I)V"⟩
abbrev cX5_dropFirst : ByteArray := prog_7_method_3_code
def yX5_dropFirst : MethodName := ⟨RX5, "dropFirst", "(I)V"⟩
def RX6 : String := "Watermarkmill$Repertory"
def TX6 : u_T := fun k => match k with
  | 0 => ("Watermarkmill$Repertory", "above", "[I", true)
  | 1 => ("Watermarkmill$Repertory", "linked", "[I", true)
  | 2 => ("Watermarkmill$Repertory", "tally", "[I", true)
  | _ => ("Watermarkmill$Repertory", "mergings", "I", false)
def tyX6 : Nat → FieldType := fun k => match k with
  | 0 => .array .int
  | 1 => .array .int
  | 2 => .array .int
  | _ => .int
theorem nmX6 : ∀ a, a < 4 → ∀ b, b < 4 → a ≠ b → (TX6 a).2.1 ≠ (TX6 b).2.1 := by decide +kernel
theorem tyX6_ok : ∀ k, k < 4 → parseFieldDescriptor (TX6 k).2.2.1 = some (tyX6 k) := by decide +kernel
abbrev cX6_init : ByteArray := prog_8_method_1_code
def yX6_init : MethodName := ⟨RX6, "<init>", "()V"⟩
abbrev cX6_lowestOf : ByteArray := prog_8_method_2_code
def yX6_lowestOf : MethodName := ⟨RX6, "lowestOf", "(I)I"⟩
abbrev cX6_join : ByteArray := prog_8_method_3_code
def yX6_join : MethodName := ⟨RX6, "join", "(II)Z"⟩
abbrev cX6_takeBack : ByteArray := prog_8_method_4_code
def yX6_takeBack : MethodName := ⟨RX6, "takeBack", "()V"⟩
abbrev cX6_clashesAmong : ByteArray := prog_8_method_5_code
def yX6_clashesAmong : MethodName := ⟨RX6, "clashesAmong", "(II)I"⟩
def RX7 : String := "Watermarkmill$Sale"
def TX7 : u_T := fun k => match k with
  | 0 => ("Watermarkmill$Sale", "mill", "I", true)
  | 1 => ("Watermarkmill$Sale", "year", "I", true)
  | _ => ("Watermarkmill$Sale", "earlier", "LWatermarkmill$Sale;", true)
def tyX7 : Nat → FieldType := fun k => match k with
  | 0 => .int
  | 1 => .int
  | _ => .object "Watermarkmill$Sale"
theorem nmX7 : ∀ a, a < 3 → ∀ b, b < 3 → a ≠ b → (TX7 a).2.1 ≠ (TX7 b).2.1 := by decide +kernel
theorem tyX7_ok : ∀ k, k < 3 → parseFieldDescriptor (TX7 k).2.2.1 = some (tyX7 k) := by decide +kernel
abbrev cX7_init : ByteArray := prog_9_method_1_code
def yX7_init : MethodName := ⟨RX7, "<init>", "(IILWatermarkmill$Sale;)V"⟩
def RX8 : String := "Watermarkmill"
def TX8 : u_T := fun k => match k with
  | 0 => ("Watermarkmill", "moulds", "Ljava/util/ArrayList;", true)
  | 1 => ("Watermarkmill", "lots", "Ljava/util/ArrayList;", true)
  | 2 => ("Watermarkmill", "reams", "Ljava/util/ArrayList;", true)
  | 3 => ("Watermarkmill", "documents", "Ljava/util/ArrayList;", true)
  | 4 => ("Watermarkmill", "images", "Ljava/util/ArrayList;", true)
  | 5 => ("Watermarkmill", "repertory", "LWatermarkmill$Repertory;", true)
  | 6 => ("Watermarkmill", "dating", "LWatermarkmill$Dating;", true)
  | 7 => ("Watermarkmill", "groupOfImage", "[I", true)
  | 8 => ("Watermarkmill", "tolerance", "I", false)
  | _ => ("Watermarkmill", "sales", "I", false)
def tyX8 : Nat → FieldType := fun k => match k with
  | 0 => .object "java/util/ArrayList"
  | 1 => .object "java/util/ArrayList"
  | 2 => .object "java/util/ArrayList"
  | 3 => .object "java/util/ArrayList"
  | 4 => .object "java/util/ArrayList"
  | 5 => .object "Watermarkmill$Repertory"
  | 6 => .object "Watermarkmill$Dating"
  | 7 => .array .int
  | 8 => .int
  | _ => .int
theorem nmX8 : ∀ a, a < 10 → ∀ b, b < 10 → a ≠ b → (TX8 a).2.1 ≠ (TX8 b).2.1 := by decide +kernel
theorem tyX8_ok : ∀ k, k < 10 → parseFieldDescriptor (TX8 k).2.2.1 = some (tyX8 k) := by decide +kernel
abbrev cX8_init : ByteArray := prog_1_method_1_code
def yX8_init : MethodName := ⟨RX8, "<init>", "()V"⟩
abbrev cX8_mould : ByteArray := prog_1_method_2_code
def yX8_mould : MethodName := ⟨RX8, "mould", "(IIIIII)I"⟩
abbrev cX8_copy : ByteArray := prog_1_method_3_code
def yX8_copy : MethodName := ⟨RX8, "copy", "(II)I"⟩
abbrev cX8_twin : ByteArray := prog_1_method_4_code
def yX8_twin : MethodName := ⟨RX8, "twin", "(II)Z"⟩
abbrev cX8_damage : ByteArray := prog_1_method_5_code
def yX8_damage : MethodName := ⟨RX8, "damage", "(IIZI)I"⟩
abbrev cX8_retire : ByteArray := prog_1_method_6_code
def yX8_retire : MethodName := ⟨RX8, "retire", "(II)I"⟩
abbrev cX8_sell : ByteArray := prog_1_method_7_code
def yX8_sell : MethodName := ⟨RX8, "sell", "(III)I"⟩
abbrev cX8_owner : ByteArray := prog_1_method_8_code
def yX8_owner : MethodName := ⟨RX8, "owner", "(II)I"⟩
abbrev cX8_state : ByteArray := prog_1_method_9_code
def yX8_state : MethodName := ⟨RX8, "state", "(II)I"⟩
abbrev cX8_wire : ByteArray := prog_1_method_10_code
def yX8_wire : MethodName := ⟨RX8, "wire", "(III)C"⟩
abbrev cX8_make : ByteArray := prog_1_method_11_code
def yX8_make : MethodName := ⟨RX8, "make", "(IZII)I"⟩
abbrev cX8_ream : ByteArray := prog_1_method_12_code
def yX8_ream : MethodName := ⟨RX8, "ream", "(I)I"⟩
abbrev cX8_put : ByteArray := prog_1_method_13_code
def yX8_put : MethodName := ⟨RX8, "put", "(III)I"⟩
abbrev cX8_tariff : ByteArray := prog_1_method_14_code
def yX8_tariff : MethodName := ⟨RX8, "tariff", "(I)I"⟩
abbrev cX8_document : ByteArray := prog_1_method_15_code
def yX8_document : MethodName := ⟨RX8, "document", "(II)I"⟩
abbrev cX8_use : ByteArray := prog_1_method_16_code
def yX8_use : MethodName := ⟨RX8, "use", "(III)I"⟩
abbrev cX8_cancel : ByteArray := prog_1_method_17_code
def yX8_cancel : MethodName := ⟨RX8, "cancel", "(IIII)Z"⟩
abbrev cX8_cancels : ByteArray := prog_1_method_18_code
def yX8_cancels : MethodName := ⟨RX8, "cancels", "(II)I"⟩
abbrev cX8_leafOf : ByteArray := prog_1_method_19_code
def yX8_leafOf : MethodName := ⟨RX8, "leafOf", "(III)I"⟩
abbrev cX8_markIn : ByteArray := prog_1_method_20_code
def yX8_markIn : MethodName := ⟨RX8, "markIn", "(II)I"⟩
abbrev cX8_conjugate : ByteArray := prog_1_method_21_code
def yX8_conjugate : MethodName := ⟨RX8, "conjugate", "(II)I"⟩
abbrev cX8_run : ByteArray := prog_1_method_22_code
def yX8_run : MethodName := ⟨RX8, "run", "(II)I"⟩
abbrev cX8_wash : ByteArray := prog_1_method_23_code
def yX8_wash : MethodName := ⟨RX8, "wash", "(I)Z"⟩
abbrev cX8_image : ByteArray := prog_1_method_24_code
def yX8_image : MethodName := ⟨RX8, "image", "(IIII)I"⟩
abbrev cX8_setTolerance : ByteArray := prog_1_method_25_code
def yX8_setTolerance : MethodName := ⟨RX8, "setTolerance", "(I)I"⟩
abbrev cX8_distance : ByteArray := prog_1_method_26_code
def yX8_distance : MethodName := ⟨RX8, "distance", "(II)I"⟩
abbrev cX8_compare : ByteArray := prog_1_method_27_code
def yX8_compare : MethodName := ⟨RX8, "compare", "(II)C"⟩
abbrev cX8_evidence : ByteArray := prog_1_method_28_code
def yX8_evidence : MethodName := ⟨RX8, "evidence", "(II)I"⟩
abbrev cX8_groups : ByteArray := prog_1_method_29_code
def yX8_groups : MethodName := ⟨RX8, "groups", "()I"⟩
abbrev cX8_merge : ByteArray := prog_1_method_30_code
def yX8_merge : MethodName := ⟨RX8, "merge", "(IIII)Z"⟩
abbrev cX8_unmerge : ByteArray := prog_1_method_31_code
def yX8_unmerge : MethodName := ⟨RX8, "unmerge", "()I"⟩
abbrev cX8_entry : ByteArray := prog_1_method_32_code
def yX8_entry : MethodName := ⟨RX8, "entry", "(II)I"⟩
abbrev cX8_clashes : ByteArray := prog_1_method_33_code
def yX8_clashes : MethodName := ⟨RX8, "clashes", "()I"⟩
abbrev cX8_claim : ByteArray := prog_1_method_34_code
def yX8_claim : MethodName := ⟨RX8, "claim", "(III)I"⟩
abbrev cX8_unclaim : ByteArray := prog_1_method_35_code
def yX8_unclaim : MethodName := ⟨RX8, "unclaim", "(III)I"⟩
abbrev cX8_date : ByteArray := prog_1_method_36_code
def yX8_date : MethodName := ⟨RX8, "date", "(II)I"⟩
abbrev cX8_setAge : ByteArray := prog_1_method_37_code
def yX8_setAge : MethodName := ⟨RX8, "setAge", "(I)I"⟩
abbrev cX8_fits : ByteArray := prog_1_method_38_code
def yX8_fits : MethodName := ⟨RX8, "fits", "()Z"⟩
abbrev cX8_year : ByteArray := prog_1_method_39_code
def yX8_year : MethodName := ⟨RX8, "year", "(IZ)I"⟩
abbrev cX8_ground : ByteArray := prog_1_method_40_code
def yX8_ground : MethodName := ⟨RX8, "ground", "(IZ)I"⟩
abbrev cX8_culprit : ByteArray := prog_1_method_41_code
def yX8_culprit : MethodName := ⟨RX8, "culprit", "()I"⟩
abbrev cX8_forged : ByteArray := prog_1_method_42_code
def yX8_forged : MethodName := ⟨RX8, "forged", "(II)C"⟩
abbrev cX8_years : ByteArray := prog_1_method_43_code
def yX8_years : MethodName := ⟨RX8, "years", "()J"⟩
abbrev cX8_usedShare : ByteArray := prog_1_method_44_code
def yX8_usedShare : MethodName := ⟨RX8, "usedShare", "()F"⟩
abbrev cX8_meanAge : ByteArray := prog_1_method_45_code
def yX8_meanAge : MethodName := ⟨RX8, "meanAge", "()D"⟩
abbrev cX8_isSound : ByteArray := prog_1_method_46_code
def yX8_isSound : MethodName := ⟨RX8, "isSound", "()Z"⟩
abbrev cX8_mouldAt : ByteArray := prog_1_method_47_code
def yX8_mouldAt : MethodName := ⟨RX8, "mouldAt", "(I)LWatermarkmill$Mould;"⟩
abbrev cX8_lotAt : ByteArray := prog_1_method_48_code
def yX8_lotAt : MethodName := ⟨RX8, "lotAt", "(I)LWatermarkmill$Lot;"⟩
abbrev cX8_reamAt : ByteArray := prog_1_method_49_code
def yX8_reamAt : MethodName := ⟨RX8, "reamAt", "(I)LWatermarkmill$Ream;"⟩
abbrev cX8_documentAt : ByteArray := prog_1_method_50_code
def yX8_documentAt : MethodName := ⟨RX8, "documentAt", "(I)LWatermarkmill$Document;"⟩
abbrev cX8_imageAt : ByteArray := prog_1_method_51_code
def yX8_imageAt : MethodName := ⟨RX8, "imageAt", "(I)LWatermarkmill$Image;"⟩
abbrev cX8_checkRange : ByteArray := prog_1_method_52_code
def yX8_checkRange : MethodName := ⟨RX8, "checkRange", "(III)V"⟩
abbrev cX8_checkYear : ByteArray := prog_1_method_53_code
def yX8_checkYear : MethodName := ⟨RX8, "checkYear", "(I)V"⟩
abbrev cX8_checkEntry : ByteArray := prog_1_method_54_code
def yX8_checkEntry : MethodName := ⟨RX8, "checkEntry", "(II)V"⟩
abbrev cX8_checkRoom : ByteArray := prog_1_method_55_code
def yX8_checkRoom : MethodName := ⟨RX8, "checkRoom", "(II)V"⟩
abbrev cX8_checkLeft : ByteArray := prog_1_method_56_code
def yX8_checkLeft : MethodName := ⟨RX8, "checkLeft", "(II)V"⟩
abbrev cX8_checkSheet : ByteArray := prog_1_method_57_code
def yX8_checkSheet : MethodName := ⟨RX8, "checkSheet", "(LWatermarkmill$Document;I)V"⟩
abbrev cX8_checkLeaf : ByteArray := prog_1_method_58_code
def yX8_checkLeaf : MethodName := ⟨RX8, "checkLeaf", "(LWatermarkmill$Document;I)V"⟩
abbrev cX8_checkFits : ByteArray := prog_1_method_59_code
def yX8_checkFits : MethodName := ⟨RX8, "checkFits", "(I)V"⟩
abbrev cX8_sheetOf : ByteArray := prog_1_method_60_code
def yX8_sheetOf : MethodName := ⟨RX8, "sheetOf", "(II)I"⟩
abbrev cX8_mouldOf : ByteArray := prog_1_method_61_code
def yX8_mouldOf : MethodName := ⟨RX8, "mouldOf", "(I)I"⟩
abbrev cX8_madeIn : ByteArray := prog_1_method_62_code
def yX8_madeIn : MethodName := ⟨RX8, "madeIn", "(I)I"⟩
abbrev cX8_stockOf : ByteArray := prog_1_method_63_code
def yX8_stockOf : MethodName := ⟨RX8, "stockOf", "(I)I"⟩
abbrev cX8_stockOfLeaf : ByteArray := prog_1_method_64_code
def yX8_stockOfLeaf : MethodName := ⟨RX8, "stockOfLeaf", "(LWatermarkmill$Document;II)I"⟩
abbrev cX8_tellStocks : ByteArray := prog_1_method_65_code
def yX8_tellStocks : MethodName := ⟨RX8, "tellStocks", "(LWatermarkmill$Document;)V"⟩
abbrev cX8_longestRun : ByteArray := prog_1_method_66_code
def yX8_longestRun : MethodName := ⟨RX8, "longestRun", "(LWatermarkmill$Document;LWatermarkmill$Document;I)I"⟩
abbrev cX8_verdictOn : ByteArray := prog_1_method_67_code
def yX8_verdictOn : MethodName := ⟨RX8, "verdictOn", "(LWatermarkmill$Image;LWatermarkmill$Image;)C"⟩
abbrev cX8_isOneGroup : ByteArray := prog_1_method_68_code
def yX8_isOneGroup : MethodName := ⟨RX8, "isOneGroup", "(LWatermarkmill$Image;LWatermarkmill$Image;)Z"⟩
abbrev cX8_joinGroups : ByteArray := prog_1_method_69_code
def yX8_joinGroups : MethodName := ⟨RX8, "joinGroups", "(II)V"⟩
abbrev cX8_sheetsMade : ByteArray := prog_1_method_70_code
def yX8_sheetsMade : MethodName := ⟨RX8, "sheetsMade", "()I"⟩
abbrev cX8_sheetsInLots : ByteArray := prog_1_method_71_code
def yX8_sheetsInLots : MethodName := ⟨RX8, "sheetsInLots", "()I"⟩
abbrev cX8_sheetsInReams : ByteArray := prog_1_method_72_code
def yX8_sheetsInReams : MethodName := ⟨RX8, "sheetsInReams", "()I"⟩
abbrev cX8_sheetsInDocuments : ByteArray := prog_1_method_73_code
def yX8_sheetsInDocuments : MethodName := ⟨RX8, "sheetsInDocuments", "()I"⟩
abbrev cX8_isDamageKept : ByteArray := prog_1_method_74_code
def yX8_isDamageKept : MethodName := ⟨RX8, "isDamageKept", "()Z"⟩
abbrev cX8_isPaperInTime : ByteArray := prog_1_method_75_code
def yX8_isPaperInTime : MethodName := ⟨RX8, "isPaperInTime", "()Z"⟩
abbrev cX8_isDatedAsTold : ByteArray := prog_1_method_76_code
def yX8_isDatedAsTold : MethodName := ⟨RX8, "isDatedAsTold", "()Z"⟩
def RX9 : String := "WatermarkmillModel$Document"
def TX9 : u_T := fun k => match k with
  | 0 => ("WatermarkmillModel$Document", "year", "I", true)
  | 1 => ("WatermarkmillModel$Document", "leaves", "I", true)
  | 2 => ("WatermarkmillModel$Document", "sheets", "Ljava/util/ArrayList;", true)
  | 3 => ("WatermarkmillModel$Document", "isWashed", "Z", false)
  | 4 => ("WatermarkmillModel$Document", "claims", "Ljava/util/ArrayList;", true)
  | _ => ("WatermarkmillModel$Document", "dated", "I", false)
def tyX9 : Nat → FieldType := fun k => match k with
  | 0 => .int
  | 1 => .int
  | 2 => .object "java/util/ArrayList"
  | 3 => .boolean
  | 4 => .object "java/util/ArrayList"
  | _ => .int
theorem nmX9 : ∀ a, a < 6 → ∀ b, b < 6 → a ≠ b → (TX9 a).2.1 ≠ (TX9 b).2.1 := by decide +kernel
theorem tyX9_ok : ∀ k, k < 6 → parseFieldDescriptor (TX9 k).2.2.1 = some (tyX9 k) := by decide +kernel
abbrev cX9_init : ByteArray := prog_12_method_1_code
def yX9_init : MethodName := ⟨RX9, "<init>", "(II)V"⟩
def RX10 : String := "WatermarkmillModel$Image"
def TX10 : u_T := fun k => match k with
  | 0 => ("WatermarkmillModel$Image", "mark", "I", true)
  | 1 => ("WatermarkmillModel$Image", "distances", "[I", true)
  | _ => ("WatermarkmillModel$Image", "wires", "[I", true)
def tyX10 : Nat → FieldType := fun k => match k with
  | 0 => .int
  | 1 => .array .int
  | _ => .array .int
theorem nmX10 : ∀ a, a < 3 → ∀ b, b < 3 → a ≠ b → (TX10 a).2.1 ≠ (TX10 b).2.1 := by decide +kernel
theorem tyX10_ok : ∀ k, k < 3 → parseFieldDescriptor (TX10 k).2.2.1 = some (tyX10 k) := by decide +kernel
abbrev cX10_init : ByteArray := prog_13_method_1_code
def yX10_init : MethodName := ⟨RX10, "<init>", "(I)V"⟩
def RX11 : String := "WatermarkmillModel$Mould"
def TX11 : u_T := fun k => match k with
  | 0 => ("WatermarkmillModel$Mould", "number", "I", true)
  | 1 => ("WatermarkmillModel$Mould", "mill", "I", true)
  | 2 => ("WatermarkmillModel$Mould", "mark", "I", true)
  | 3 => ("WatermarkmillModel$Mould", "distances", "[I", true)
  | 4 => ("WatermarkmillModel$Mould", "twin", "I", false)
  | 5 => ("WatermarkmillModel$Mould", "retired", "I", false)
  | 6 => ("WatermarkmillModel$Mould", "latest", "I", false)
  | 7 => ("WatermarkmillModel$Mould", "damages", "Ljava/util/ArrayList;", true)
  | _ => ("WatermarkmillModel$Mould", "sales", "Ljava/util/ArrayList;", true)
def tyX11 : Nat → FieldType := fun k => match k with
  | 0 => .int
  | 1 => .int
  | 2 => .int
  | 3 => .array .int
  | 4 => .int
  | 5 => .int
  | 6 => .int
  | 7 => .object "java/util/ArrayList"
  | _ => .object "java/util/ArrayList"
theorem nmX11 : ∀ a, a < 9 → ∀ b, b < 9 → a ≠ b → (TX11 a).2.1 ≠ (TX11 b).2.1 := by decide +kernel
theorem tyX11_ok : ∀ k, k < 9 → parseFieldDescriptor (TX11 k).2.2.1 = some (tyX11 k) := by decide +kernel
abbrev cX11_init : ByteArray := prog_14_method_1_code
def yX11_init : MethodName := ⟨RX11, "<init>", "(III[I)V"⟩
abbrev cX11_state : ByteArray := prog_14_method_2_code
def yX11_state : MethodName := ⟨RX11, "state", "(I)I"⟩
abbrev cX11_wire : ByteArray := prog_14_method_3_code
def yX11_wire : MethodName := ⟨RX11, "wire", "(II)I"⟩
abbrev cX11_owner : ByteArray := prog_14_method_4_code
def yX11_owner : MethodName := ⟨RX11, "owner", "(I)I"⟩
def RX12 : String := "WatermarkmillModel$Ream"
def TX12 : u_T := fun k => match k with
  | 0 => ("WatermarkmillModel$Ream", "mill", "I", true)
  | _ => ("WatermarkmillModel$Ream", "sheets", "Ljava/util/ArrayList;", true)
def tyX12 : Nat → FieldType := fun k => match k with
  | 0 => .int
  | _ => .object "java/util/ArrayList"
theorem nmX12 : ∀ a, a < 2 → ∀ b, b < 2 → a ≠ b → (TX12 a).2.1 ≠ (TX12 b).2.1 := by decide +kernel
theorem tyX12_ok : ∀ k, k < 2 → parseFieldDescriptor (TX12 k).2.2.1 = some (tyX12 k) := by decide +kernel
abbrev cX12_init : ByteArray := prog_15_method_1_code
def yX12_init : MethodName := ⟨RX12, "<init>", "(I)V"⟩
def RX13 : String := "WatermarkmillModel$Sheet"
def TX13 : u_T := fun k => match k with
  | 0 => ("WatermarkmillModel$Sheet", "mould", "LWatermarkmillModel$Mould;", true)
  | 1 => ("WatermarkmillModel$Sheet", "year", "I", true)
  | _ => ("WatermarkmillModel$Sheet", "leaves", "[LWatermarkmillModel$Sheet;", true)
def tyX13 : Nat → FieldType := fun k => match k with
  | 0 => .object "WatermarkmillModel$Mould"
  | 1 => .int
  | _ => .array (.object "WatermarkmillModel$Sheet")
theorem nmX13 : ∀ a, a < 3 → ∀ b, b < 3 → a ≠ b → (TX13 a).2.1 ≠ (TX13 b).2.1 := by decide +kernel
theorem tyX13_ok : ∀ k, k < 3 → parseFieldDescriptor (TX13 k).2.2.1 = some (tyX13 k) := by decide +kernel
abbrev cX13_init : ByteArray := prog_16_method_1_code
def yX13_init : MethodName := ⟨RX13, "<init>", "(LWatermarkmillModel$Mould;I)V"⟩
abbrev cX13_stock : ByteArray := prog_16_method_2_code
def yX13_stock : MethodName := ⟨RX13, "stock", "()I"⟩
def RX14 : String := "WatermarkmillModel"
def TX14 : u_T := fun k => match k with
  | 0 => ("WatermarkmillModel", "thrown", "I", false)
  | 1 => ("WatermarkmillModel", "moulds", "Ljava/util/ArrayList;", true)
  | 2 => ("WatermarkmillModel", "lots", "Ljava/util/ArrayList;", true)
  | 3 => ("WatermarkmillModel", "reams", "Ljava/util/ArrayList;", true)
  | 4 => ("WatermarkmillModel", "documents", "Ljava/util/ArrayList;", true)
  | 5 => ("WatermarkmillModel", "images", "Ljava/util/ArrayList;", true)
  | 6 => ("WatermarkmillModel", "merges", "Ljava/util/ArrayList;", true)
  | 7 => ("WatermarkmillModel", "made", "I", false)
  | 8 => ("WatermarkmillModel", "tolerance", "I", false)
  | 9 => ("WatermarkmillModel", "age", "I", false)
  | 10 => ("WatermarkmillModel", "firsts", "[I", true)
  | 11 => ("WatermarkmillModel", "lasts", "[I", true)
  | 12 => ("WatermarkmillModel", "madeFirst", "[[I", true)
  | 13 => ("WatermarkmillModel", "madeLast", "[[I", true)
  | 14 => ("WatermarkmillModel", "stateFirst", "[[I", true)
  | _ => ("WatermarkmillModel", "stateLast", "[[I", true)
def tyX14 : Nat → FieldType := fun k => match k with
  | 0 => .int
  | 1 => .object "java/util/ArrayList"
  | 2 => .object "java/util/ArrayList"
  | 3 => .object "java/util/ArrayList"
  | 4 => .object "java/util/ArrayList"
  | 5 => .object "java/util/ArrayList"
  | 6 => .object "java/util/ArrayList"
  | 7 => .int
  | 8 => .int
  | 9 => .int
  | 10 => .array .int
  | 11 => .array .int
  | 12 => .array (.array .int)
  | 13 => .array (.array .int)
  | 14 => .array (.array .int)
  | _ => .array (.array .int)
theorem nmX14 : ∀ a, a < 16 → ∀ b, b < 16 → a ≠ b → (TX14 a).2.1 ≠ (TX14 b).2.1 := by decide +kernel
theorem tyX14_ok : ∀ k, k < 16 → parseFieldDescriptor (TX14 k).2.2.1 = some (tyX14 k) := by decide +kernel
abbrev cX14_init : ByteArray := prog_11_method_1_code
def yX14_init : MethodName := ⟨RX14, "<init>", "()V"⟩
abbrev cX14_thrown : ByteArray := prog_11_method_2_code
def yX14_thrown : MethodName := ⟨RX14, "thrown", "()I"⟩
abbrev cX14_fails : ByteArray := prog_11_method_3_code
def yX14_fails : MethodName := ⟨RX14, "fails", "(I)Z"⟩
abbrev cX14_in : ByteArray := prog_11_method_4_code
def yX14_in : MethodName := ⟨RX14, "in", "(III)Z"⟩
abbrev cX14_isYear : ByteArray := prog_11_method_5_code
def yX14_isYear : MethodName := ⟨RX14, "isYear", "(I)Z"⟩
abbrev cX14_isMould : ByteArray := prog_11_method_6_code
def yX14_isMould : MethodName := ⟨RX14, "isMould", "(I)Z"⟩
abbrev cX14_isDocument : ByteArray := prog_11_method_7_code
def yX14_isDocument : MethodName := ⟨RX14, "isDocument", "(I)Z"⟩
abbrev cX14_failsMould : ByteArray := prog_11_method_8_code
def yX14_failsMould : MethodName := ⟨RX14, "failsMould", "(I)Z"⟩
abbrev cX14_failsDocument : ByteArray := prog_11_method_9_code
def yX14_failsDocument : MethodName := ⟨RX14, "failsDocument", "(I)Z"⟩
abbrev cX14_mould : ByteArray := prog_11_method_10_code
def yX14_mould : MethodName := ⟨RX14, "mould", "(IIIIII)I"⟩
abbrev cX14_copy : ByteArray := prog_11_method_11_code
def yX14_copy : MethodName := ⟨RX14, "copy", "(II)I"⟩
abbrev cX14_twin : ByteArray := prog_11_method_12_code
def yX14_twin : MethodName := ⟨RX14, "twin", "(II)Z"⟩
abbrev cX14_canBe : ByteArray := prog_11_method_13_code
def yX14_canBe : MethodName := ⟨RX14, "canBe", "(LWatermarkmillModel$Mould;I)Z"⟩
abbrev cX14_damage : ByteArray := prog_11_method_14_code
def yX14_damage : MethodName := ⟨RX14, "damage", "(IIZI)I"⟩
abbrev cX14_retire : ByteArray := prog_11_method_15_code
def yX14_retire : MethodName := ⟨RX14, "retire", "(II)I"⟩
abbrev cX14_sell : ByteArray := prog_11_method_16_code
def yX14_sell : MethodName := ⟨RX14, "sell", "(III)I"⟩
abbrev cX14_owner : ByteArray := prog_11_method_17_code
def yX14_owner : MethodName := ⟨RX14, "owner", "(II)I"⟩
abbrev cX14_state : ByteArray := prog_11_method_18_code
def yX14_state : MethodName := ⟨RX14, "state", "(II)I"⟩
abbrev cX14_letter : ByteArray := prog_11_method_19_code
def yX14_letter : MethodName := ⟨RX14, "letter", "(I)C"⟩
abbrev cX14_wire : ByteArray := prog_11_method_20_code
def yX14_wire : MethodName := ⟨RX14, "wire", "(III)C"⟩
abbrev cX14_make : ByteArray := prog_11_method_21_code
def yX14_make : MethodName := ⟨RX14, "make", "(IZII)I"⟩
abbrev cX14_ream : ByteArray := prog_11_method_22_code
def yX14_ream : MethodName := ⟨RX14, "ream", "(I)I"⟩
abbrev cX14_put : ByteArray := prog_11_method_23_code
def yX14_put : MethodName := ⟨RX14, "put", "(III)I"⟩
abbrev cX14_tariff : ByteArray := prog_11_method_24_code
def yX14_tariff : MethodName := ⟨RX14, "tariff", "(I)I"⟩
abbrev cX14_document : ByteArray := prog_11_method_25_code
def yX14_document : MethodName := ⟨RX14, "document", "(II)I"⟩
abbrev cX14_use : ByteArray := prog_11_method_26_code
def yX14_use : MethodName := ⟨RX14, "use", "(III)I"⟩
abbrev cX14_isSheet : ByteArray := prog_11_method_27_code
def yX14_isSheet : MethodName := ⟨RX14, "isSheet", "(II)Z"⟩
abbrev cX14_isLeaf : ByteArray := prog_11_method_28_code
def yX14_isLeaf : MethodName := ⟨RX14, "isLeaf", "(II)Z"⟩
abbrev cX14_cancel : ByteArray := prog_11_method_29_code
def yX14_cancel : MethodName := ⟨RX14, "cancel", "(IIII)Z"⟩
abbrev cX14_stock : ByteArray := prog_11_method_30_code
def yX14_stock : MethodName := ⟨RX14, "stock", "(LWatermarkmillModel$Sheet;I)I"⟩
abbrev cX14_cancels : ByteArray := prog_11_method_31_code
def yX14_cancels : MethodName := ⟨RX14, "cancels", "(II)I"⟩
abbrev cX14_leafOf : ByteArray := prog_11_method_32_code
def yX14_leafOf : MethodName := ⟨RX14, "leafOf", "(III)I"⟩
abbrev cX14_markIn : ByteArray := prog_11_method_33_code
def yX14_markIn : MethodName := ⟨RX14, "markIn", "(II)I"⟩
abbrev cX14_conjugate : ByteArray := prog_11_method_34_code
def yX14_conjugate : MethodName := ⟨RX14, "conjugate", "(II)I"⟩
abbrev cX14_run : ByteArray := prog_11_method_35_code
def yX14_run : MethodName := ⟨RX14, "run", "(II)I"⟩
abbrev cX14_wash : ByteArray := prog_11_method_36_code
def yX14_wash : MethodName := ⟨RX14, "wash", "(I)Z"⟩
abbrev cX14_image : ByteArray := prog_11_method_37_code
def yX14_image : MethodName := ⟨RX14, "image", "(IIII)I"⟩
abbrev cX14_setTolerance : ByteArray := prog_11_method_38_code
def yX14_setTolerance : MethodName := ⟨RX14, "setTolerance", "(I)I"⟩
abbrev cX14_distance : ByteArray := prog_11_method_39_code
def yX14_distance : MethodName := ⟨RX14, "distance", "(II)I"⟩
abbrev cX14_areImages : ByteArray := prog_11_method_40_code
def yX14_areImages : MethodName := ⟨RX14, "areImages", "(II)Z"⟩
abbrev cX14_compare : ByteArray := prog_11_method_41_code
def yX14_compare : MethodName := ⟨RX14, "compare", "(LWatermarkmillModel$Image;LWatermarkmillModel$Image;)C"⟩
abbrev cX14_compare_ : ByteArray := prog_11_method_42_code
def yX14_compare_ : MethodName := ⟨RX14, "compare", "(II)C"⟩
abbrev cX14_evidence : ByteArray := prog_11_method_43_code
def yX14_evidence : MethodName := ⟨RX14, "evidence", "(II)I"⟩
abbrev cX14_groups : ByteArray := prog_11_method_44_code
def yX14_groups : MethodName := ⟨RX14, "groups", "()I"⟩
abbrev cX14_join : ByteArray := prog_11_method_45_code
def yX14_join : MethodName := ⟨RX14, "join", "([III)V"⟩
abbrev cX14_repertory : ByteArray := prog_11_method_46_code
def yX14_repertory : MethodName := ⟨RX14, "repertory", "()[I"⟩
abbrev cX14_merge : ByteArray := prog_11_method_47_code
def yX14_merge : MethodName := ⟨RX14, "merge", "(IIII)Z"⟩
abbrev cX14_unmerge : ByteArray := prog_11_method_48_code
def yX14_unmerge : MethodName := ⟨RX14, "unmerge", "()I"⟩
abbrev cX14_entry : ByteArray := prog_11_method_49_code
def yX14_entry : MethodName := ⟨RX14, "entry", "(II)I"⟩
abbrev cX14_clashes : ByteArray := prog_11_method_50_code
def yX14_clashes : MethodName := ⟨RX14, "clashes", "()I"⟩
abbrev cX14_find : ByteArray := prog_11_method_51_code
def yX14_find : MethodName := ⟨RX14, "find", "(LWatermarkmillModel$Document;II)I"⟩
abbrev cX14_claim : ByteArray := prog_11_method_52_code
def yX14_claim : MethodName := ⟨RX14, "claim", "(III)I"⟩
abbrev cX14_unclaim : ByteArray := prog_11_method_53_code
def yX14_unclaim : MethodName := ⟨RX14, "unclaim", "(III)I"⟩
abbrev cX14_date : ByteArray := prog_11_method_54_code
def yX14_date : MethodName := ⟨RX14, "date", "(II)I"⟩
abbrev cX14_setAge : ByteArray := prog_11_method_55_code
def yX14_setAge : MethodName := ⟨RX14, "setAge", "(I)I"⟩
abbrev cX14_find_ : ByteArray := prog_11_method_56_code
def yX14_find_ : MethodName := ⟨RX14, "find", "(I)Z"⟩
abbrev cX14_gather : ByteArray := prog_11_method_57_code
def yX14_gather : MethodName := ⟨RX14, "gather", "()V"⟩
abbrev cX14_tighten : ByteArray := prog_11_method_58_code
def yX14_tighten : MethodName := ⟨RX14, "tighten", "(I)Z"⟩
abbrev cX14_fits : ByteArray := prog_11_method_59_code
def yX14_fits : MethodName := ⟨RX14, "fits", "()Z"⟩
abbrev cX14_bound : ByteArray := prog_11_method_60_code
def yX14_bound : MethodName := ⟨RX14, "bound", "(IZ)I"⟩
abbrev cX14_year : ByteArray := prog_11_method_61_code
def yX14_year : MethodName := ⟨RX14, "year", "(IZ)I"⟩
abbrev cX14_ground : ByteArray := prog_11_method_62_code
def yX14_ground : MethodName := ⟨RX14, "ground", "(IZ)I"⟩
abbrev cX14_culprit : ByteArray := prog_11_method_63_code
def yX14_culprit : MethodName := ⟨RX14, "culprit", "()I"⟩
abbrev cX14_forged : ByteArray := prog_11_method_64_code
def yX14_forged : MethodName := ⟨RX14, "forged", "(II)C"⟩
abbrev cX14_years : ByteArray := prog_11_method_65_code
def yX14_years : MethodName := ⟨RX14, "years", "()J"⟩
abbrev cX14_used : ByteArray := prog_11_method_66_code
def yX14_used : MethodName := ⟨RX14, "used", "()I"⟩
abbrev cX14_usedShare : ByteArray := prog_11_method_67_code
def yX14_usedShare : MethodName := ⟨RX14, "usedShare", "()F"⟩
abbrev cX14_meanAge : ByteArray := prog_11_method_68_code
def yX14_meanAge : MethodName := ⟨RX14, "meanAge", "()D"⟩
abbrev cX14_isSound : ByteArray := prog_11_method_69_code
def yX14_isSound : MethodName := ⟨RX14, "isSound", "()Z"⟩
def RJx145de : String := "java/io/Serializable"
def TJx145de : u_T := fun k => match k with
  | _ => ("", "", "", false)
def tyJx145de : Nat → FieldType := fun k => match k with
  | _ => .int
theorem nmJx145de : ∀ a, a < 0 → ∀ b, b < 0 → a ≠ b → (TJx145de a).2.1 ≠ (TJx145de b).2.1 := by decide +kernel
theorem tyJx145de_ok : ∀ k, k < 0 → parseFieldDescriptor (TJx145de k).2.2.1 = some (tyJx145de k) := by decide +kernel
def RJx00060 : String := "java/lang/ArrayIndexOutOfBoundsException"
def TJx00060 : u_T := fun k => match k with
  | 0 => ("java/lang/Throwable", "backtrace", "Ljava/lang/Object;", false)
  | 1 => ("java/lang/Throwable", "detailMessage", "Ljava/lang/String;", false)
  | 2 => ("java/lang/Throwable", "cause", "Ljava/lang/Throwable;", false)
  | 3 => ("java/lang/Throwable", "stackTrace", "[Ljava/lang/StackTraceElement;", false)
  | 4 => ("java/lang/Throwable", "depth", "I", false)
  | _ => ("java/lang/Throwable", "suppressedExceptions", "Ljava/util/List;", false)
def tyJx00060 : Nat → FieldType := fun k => match k with
  | 0 => .object "java/lang/Object"
  | 1 => .object "java/lang/String"
  | 2 => .object "java/lang/Throwable"
  | 3 => .array (.object "java/lang/StackTraceElement")
  | 4 => .int
  | _ => .object "java/util/List"
theorem nmJx00060 : ∀ a, a < 6 → ∀ b, b < 6 → a ≠ b → (TJx00060 a).2.1 ≠ (TJx00060 b).2.1 := by decide +kernel
theorem tyJx00060_ok : ∀ k, k < 6 → parseFieldDescriptor (TJx00060 k).2.2.1 = some (tyJx00060 k) := by decide +kernel
abbrev cJx00060_init_a7421 : ByteArray := prog_19_method_2_code
def yJx00060_init_a7421 : MethodName := ⟨RJx00060, "<init>", "(Ljava/lang/String;)V"⟩
def RJx8e188 : String := "java/lang/Cloneable"
def TJx8e188 : u_T := fun k => match k with
  | _ => ("", "", "", false)
def tyJx8e188 : Nat → FieldType := fun k => match k with
  | _ => .int
theorem nmJx8e188 : ∀ a, a < 0 → ∀ b, b < 0 → a ≠ b → (TJx8e188 a).2.1 ≠ (TJx8e188 b).2.1 := by decide +kernel
theorem tyJx8e188_ok : ∀ k, k < 0 → parseFieldDescriptor (TJx8e188 k).2.2.1 = some (tyJx8e188 k) := by decide +kernel
def RJxab1ab : String := "java/lang/Iterable"
def TJxab1ab : u_T := fun k => match k with
  | _ => ("", "", "", false)
def tyJxab1ab : Nat → FieldType := fun k => match k with
  | _ => .int
theorem nmJxab1ab : ∀ a, a < 0 → ∀ b, b < 0 → a ≠ b → (TJxab1ab a).2.1 ≠ (TJxab1ab b).2.1 := by decide +kernel
theorem tyJxab1ab_ok : ∀ k, k < 0 → parseFieldDescriptor (TJxab1ab k).2.2.1 = some (tyJxab1ab k) := by decide +kernel
def RJ9 : String := "java/lang/Math"
def TJ9 : u_T := fun k => match k with
  | _ => ("", "", "", false)
def tyJ9 : Nat → FieldType := fun k => match k with
  | _ => .int
theorem nmJ9 : ∀ a, a < 0 → ∀ b, b < 0 → a ≠ b → (TJ9 a).2.1 ≠ (TJ9 b).2.1 := by decide +kernel
theorem tyJ9_ok : ∀ k, k < 0 → parseFieldDescriptor (TJ9 k).2.2.1 = some (tyJ9 k) := by decide +kernel
abbrev cJ9_abs_0f7a4 : ByteArray := prog_26_method_59_code
def yJ9_abs_0f7a4 : MethodName := ⟨RJ9, "abs", "(I)I"⟩
abbrev cJ9_max_7cf53 : ByteArray := prog_26_method_65_code
def yJ9_max_7cf53 : MethodName := ⟨RJ9, "max", "(II)I"⟩
abbrev cJ9_min_7cf53 : ByteArray := prog_26_method_69_code
def yJ9_min_7cf53 : MethodName := ⟨RJ9, "min", "(II)I"⟩
def RJ0 : String := "java/lang/String"
def TJ0 : u_T := fun k => match k with
  | 0 => ("java/lang/String", "value", "[B", true)
  | _ => ("java/lang/String", "coder", "B", true)
def tyJ0 : Nat → FieldType := fun k => match k with
  | 0 => .array .byte
  | _ => .byte
theorem nmJ0 : ∀ a, a < 2 → ∀ b, b < 2 → a ≠ b → (TJ0 a).2.1 ≠ (TJ0 b).2.1 := by decide +kernel
theorem tyJ0_ok : ∀ k, k < 2 → parseFieldDescriptor (TJ0 k).2.2.1 = some (tyJ0 k) := by decide +kernel
def RJ10 : String := "java/lang/System"
def TJ10 : u_T := fun k => match k with
  | _ => ("", "", "", false)
def tyJ10 : Nat → FieldType := fun k => match k with
  | _ => .int
theorem nmJ10 : ∀ a, a < 0 → ∀ b, b < 0 → a ≠ b → (TJ10 a).2.1 ≠ (TJ10 b).2.1 := by decide +kernel
theorem tyJ10_ok : ∀ k, k < 0 → parseFieldDescriptor (TJ10 k).2.2.1 = some (tyJ10 k) := by decide +kernel
def RJxa1e45 : String := "java/util/AbstractCollection"
def TJxa1e45 : u_T := fun k => match k with
  | _ => ("", "", "", false)
def tyJxa1e45 : Nat → FieldType := fun k => match k with
  | _ => .int
theorem nmJxa1e45 : ∀ a, a < 0 → ∀ b, b < 0 → a ≠ b → (TJxa1e45 a).2.1 ≠ (TJxa1e45 b).2.1 := by decide +kernel
theorem tyJxa1e45_ok : ∀ k, k < 0 → parseFieldDescriptor (TJxa1e45 k).2.2.1 = some (tyJxa1e45 k) := by decide +kernel
abbrev cJxa1e45_init_da8c8 : ByteArray := prog_32_method_1_code
def yJxa1e45_init_da8c8 : MethodName := ⟨RJxa1e45, "<init>", "()V"⟩
def RJxc12de : String := "java/util/AbstractList"
def TJxc12de : u_T := fun k => match k with
  | _ => ("", "", "", false)
def tyJxc12de : Nat → FieldType := fun k => match k with
  | _ => .int
theorem nmJxc12de : ∀ a, a < 0 → ∀ b, b < 0 → a ≠ b → (TJxc12de a).2.1 ≠ (TJxc12de b).2.1 := by decide +kernel
theorem tyJxc12de_ok : ∀ k, k < 0 → parseFieldDescriptor (TJxc12de k).2.2.1 = some (tyJxc12de k) := by decide +kernel
abbrev cJxc12de_init_da8c8 : ByteArray := prog_33_method_1_code
def yJxc12de_init_da8c8 : MethodName := ⟨RJxc12de, "<init>", "()V"⟩
def RJx35411 : String := "java/util/ArrayList$Itr"
def TJx35411 : u_T := fun k => match k with
  | 0 => ("java/util/ArrayList$Itr", "cursor", "I", false)
  | 1 => ("java/util/ArrayList$Itr", "lastRet", "I", false)
  | 2 => ("java/util/ArrayList$Itr", "expectedModCount", "I", false)
  | _ => ("java/util/ArrayList$Itr", "this$0", "Ljava/util/ArrayList;", true)
def tyJx35411 : Nat → FieldType := fun k => match k with
  | 0 => .int
  | 1 => .int
  | 2 => .int
  | _ => .object "java/util/ArrayList"
theorem nmJx35411 : ∀ a, a < 4 → ∀ b, b < 4 → a ≠ b → (TJx35411 a).2.1 ≠ (TJx35411 b).2.1 := by decide +kernel
theorem tyJx35411_ok : ∀ k, k < 4 → parseFieldDescriptor (TJx35411 k).2.2.1 = some (tyJx35411 k) := by decide +kernel
abbrev cJx35411_init_45d68 : ByteArray := prog_35_method_1_code
def yJx35411_init_45d68 : MethodName := ⟨RJx35411, "<init>", "(Ljava/util/ArrayList;)V"⟩
abbrev cJx35411_hasNext_aae02 : ByteArray := prog_35_method_2_code
def yJx35411_hasNext_aae02 : MethodName := ⟨RJx35411, "hasNext", "()Z"⟩
abbrev cJx35411_next_0502b : ByteArray := prog_35_method_3_code
def yJx35411_next_0502b : MethodName := ⟨RJx35411, "next", "()Ljava/lang/Object;"⟩
abbrev cJx35411_checkForComodification_da8c8 : ByteArray := prog_35_method_6_code
def yJx35411_checkForComodification_da8c8 : MethodName := ⟨RJx35411, "checkForComodification", "()V"⟩
def RJx4a65c : String := "java/util/ArrayList"
def TJx4a65c : u_T := fun k => match k with
  | 0 => ("java/util/AbstractList", "modCount", "I", false)
  | 1 => ("java/util/ArrayList", "elementData", "[Ljava/lang/Object;", false)
  | _ => ("java/util/ArrayList", "size", "I", false)
def tyJx4a65c : Nat → FieldType := fun k => match k with
  | 0 => .int
  | 1 => .array (.object "java/lang/Object")
  | _ => .int
theorem nmJx4a65c : ∀ a, a < 3 → ∀ b, b < 3 → a ≠ b → (TJx4a65c a).2.1 ≠ (TJx4a65c b).2.1 := by decide +kernel
theorem tyJx4a65c_ok : ∀ k, k < 3 → parseFieldDescriptor (TJx4a65c k).2.2.1 = some (tyJx4a65c k) := by decide +kernel
abbrev cJx4a65c_init_da8c8 : ByteArray := prog_34_method_2_code
def yJx4a65c_init_da8c8 : MethodName := ⟨RJx4a65c, "<init>", "()V"⟩
abbrev cJx4a65c_grow_92f84 : ByteArray := prog_34_method_6_code
def yJx4a65c_grow_92f84 : MethodName := ⟨RJx4a65c, "grow", "(I)[Ljava/lang/Object;"⟩
abbrev cJx4a65c_grow_d5877 : ByteArray := prog_34_method_7_code
def yJx4a65c_grow_d5877 : MethodName := ⟨RJx4a65c, "grow", "()[Ljava/lang/Object;"⟩
abbrev cJx4a65c_size_8abf5 : ByteArray := prog_34_method_8_code
def yJx4a65c_size_8abf5 : MethodName := ⟨RJx4a65c, "size", "()I"⟩
abbrev cJx4a65c_isEmpty_aae02 : ByteArray := prog_34_method_9_code
def yJx4a65c_isEmpty_aae02 : MethodName := ⟨RJx4a65c, "isEmpty", "()Z"⟩
abbrev cJx4a65c_elementData_915e3 : ByteArray := prog_34_method_18_code
def yJx4a65c_elementData_915e3 : MethodName := ⟨RJx4a65c, "elementData", "(I)Ljava/lang/Object;"⟩
abbrev cJx4a65c_get_915e3 : ByteArray := prog_34_method_20_code
def yJx4a65c_get_915e3 : MethodName := ⟨RJx4a65c, "get", "(I)Ljava/lang/Object;"⟩
abbrev cJx4a65c_add_72be8 : ByteArray := prog_34_method_24_code
def yJx4a65c_add_72be8 : MethodName := ⟨RJx4a65c, "add", "(Ljava/lang/Object;[Ljava/lang/Object;I)V"⟩
abbrev cJx4a65c_add_9ea2d : ByteArray := prog_34_method_25_code
def yJx4a65c_add_9ea2d : MethodName := ⟨RJx4a65c, "add", "(Ljava/lang/Object;)Z"⟩
abbrev cJx4a65c_remove_915e3 : ByteArray := prog_34_method_29_code
def yJx4a65c_remove_915e3 : MethodName := ⟨RJx4a65c, "remove", "(I)Ljava/lang/Object;"⟩
abbrev cJx4a65c_fastRemove_b59b0 : ByteArray := prog_34_method_39_code
def yJx4a65c_fastRemove_b59b0 : MethodName := ⟨RJx4a65c, "fastRemove", "([Ljava/lang/Object;I)V"⟩
abbrev cJx4a65c_iterator_32c93 : ByteArray := prog_34_method_55_code
def yJx4a65c_iterator_32c93 : MethodName := ⟨RJx4a65c, "iterator", "()Ljava/util/Iterator;"⟩
def RJ7 : String := "java/util/Arrays"
def TJ7 : u_T := fun k => match k with
  | _ => ("", "", "", false)
def tyJ7 : Nat → FieldType := fun k => match k with
  | _ => .int
theorem nmJ7 : ∀ a, a < 0 → ∀ b, b < 0 → a ≠ b → (TJ7 a).2.1 ≠ (TJ7 b).2.1 := by decide +kernel
theorem tyJ7_ok : ∀ k, k < 0 → parseFieldDescriptor (TJ7 k).2.2.1 = some (tyJ7 k) := by decide +kernel
abbrev cJ7_fill_53178 : ByteArray := prog_36_method_103_code
def yJ7_fill_53178 : MethodName := ⟨RJ7, "fill", "([II)V"⟩
abbrev cJ7_copyOf_1904c : ByteArray := prog_36_method_119_code
def yJ7_copyOf_1904c : MethodName := ⟨RJ7, "copyOf", "([Ljava/lang/Object;I)[Ljava/lang/Object;"⟩
abbrev cJ7_copyOf_6403c : ByteArray := prog_36_method_120_code
def yJ7_copyOf_6403c : MethodName := ⟨RJ7, "copyOf", "([Ljava/lang/Object;ILjava/lang/Class;)[Ljava/lang/Object;"⟩
def RJx5ef63 : String := "java/util/Collection"
def TJx5ef63 : u_T := fun k => match k with
  | _ => ("", "", "", false)
def tyJx5ef63 : Nat → FieldType := fun k => match k with
  | _ => .int
theorem nmJx5ef63 : ∀ a, a < 0 → ∀ b, b < 0 → a ≠ b → (TJx5ef63 a).2.1 ≠ (TJx5ef63 b).2.1 := by decide +kernel
theorem tyJx5ef63_ok : ∀ k, k < 0 → parseFieldDescriptor (TJx5ef63 k).2.2.1 = some (tyJx5ef63 k) := by decide +kernel
def RJx4d0d8 : String := "java/util/Iterator"
def TJx4d0d8 : u_T := fun k => match k with
  | _ => ("", "", "", false)
def tyJx4d0d8 : Nat → FieldType := fun k => match k with
  | _ => .int
theorem nmJx4d0d8 : ∀ a, a < 0 → ∀ b, b < 0 → a ≠ b → (TJx4d0d8 a).2.1 ≠ (TJx4d0d8 b).2.1 := by decide +kernel
theorem tyJx4d0d8_ok : ∀ k, k < 0 → parseFieldDescriptor (TJx4d0d8 k).2.2.1 = some (tyJx4d0d8 k) := by decide +kernel
def RJxbd725 : String := "java/util/List"
def TJxbd725 : u_T := fun k => match k with
  | _ => ("", "", "", false)
def tyJxbd725 : Nat → FieldType := fun k => match k with
  | _ => .int
theorem nmJxbd725 : ∀ a, a < 0 → ∀ b, b < 0 → a ≠ b → (TJxbd725 a).2.1 ≠ (TJxbd725 b).2.1 := by decide +kernel
theorem tyJxbd725_ok : ∀ k, k < 0 → parseFieldDescriptor (TJxbd725 k).2.2.1 = some (tyJxbd725 k) := by decide +kernel
def RJ15 : String := "java/util/Objects"
def TJ15 : u_T := fun k => match k with
  | _ => ("", "", "", false)
def tyJ15 : Nat → FieldType := fun k => match k with
  | _ => .int
theorem nmJ15 : ∀ a, a < 0 → ∀ b, b < 0 → a ≠ b → (TJ15 a).2.1 ≠ (TJ15 b).2.1 := by decide +kernel
theorem tyJ15_ok : ∀ k, k < 0 → parseFieldDescriptor (TJ15 k).2.2.1 = some (tyJ15 k) := by decide +kernel
abbrev cJ15_checkIndex_7cf53 : ByteArray := prog_41_method_17_code
def yJ15_checkIndex_7cf53 : MethodName := ⟨RJ15, "checkIndex", "(II)I"⟩
def RJxf0a74 : String := "java/util/RandomAccess"
def TJxf0a74 : u_T := fun k => match k with
  | _ => ("", "", "", false)
def tyJxf0a74 : Nat → FieldType := fun k => match k with
  | _ => .int
theorem nmJxf0a74 : ∀ a, a < 0 → ∀ b, b < 0 → a ≠ b → (TJxf0a74 a).2.1 ≠ (TJxf0a74 b).2.1 := by decide +kernel
theorem tyJxf0a74_ok : ∀ k, k < 0 → parseFieldDescriptor (TJxf0a74 k).2.2.1 = some (tyJxf0a74 k) := by decide +kernel
def RJxa66e6 : String := "java/util/SequencedCollection"
def TJxa66e6 : u_T := fun k => match k with
  | _ => ("", "", "", false)
def tyJxa66e6 : Nat → FieldType := fun k => match k with
  | _ => .int
theorem nmJxa66e6 : ∀ a, a < 0 → ∀ b, b < 0 → a ≠ b → (TJxa66e6 a).2.1 ≠ (TJxa66e6 b).2.1 := by decide +kernel
theorem tyJxa66e6_ok : ∀ k, k < 0 → parseFieldDescriptor (TJxa66e6 k).2.2.1 = some (tyJxa66e6 k) := by decide +kernel
def RJ8 : String := "jdk/internal/util/ArraysSupport"
def TJ8 : u_T := fun k => match k with
  | _ => ("", "", "", false)
def tyJ8 : Nat → FieldType := fun k => match k with
  | _ => .int
theorem nmJ8 : ∀ a, a < 0 → ∀ b, b < 0 → a ≠ b → (TJ8 a).2.1 ≠ (TJ8 b).2.1 := by decide +kernel
theorem tyJ8_ok : ∀ k, k < 0 → parseFieldDescriptor (TJ8 k).2.2.1 = some (tyJ8 k) := by decide +kernel
abbrev cJ8_newLength_cabcc : ByteArray := prog_44_method_27_code
def yJ8_newLength_cabcc : MethodName := ⟨RJ8, "newLength", "(III)I"⟩
abbrev cJ8_hugeLength_7cf53 : ByteArray := prog_44_method_28_code
def yJ8_hugeLength_7cf53 : MethodName := ⟨RJ8, "hugeLength", "(II)I"⟩
def RJ3 : String := "jdk/internal/util/Preconditions"
def TJ3 : u_T := fun k => match k with
  | _ => ("", "", "", false)
def tyJ3 : Nat → FieldType := fun k => match k with
  | _ => .int
theorem nmJ3 : ∀ a, a < 0 → ∀ b, b < 0 → a ≠ b → (TJ3 a).2.1 ≠ (TJ3 b).2.1 := by decide +kernel
theorem tyJ3_ok : ∀ k, k < 0 → parseFieldDescriptor (TJ3 k).2.2.1 = some (tyJ3 k) := by decide +kernel
abbrev cJ3_checkIndex_8e157 : ByteArray := prog_45_method_11_code
def yJ3_checkIndex_8e157 : MethodName := ⟨RJ3, "checkIndex", "(IILjava/util/function/BiFunction;)I"⟩
def RL : String := "WatermarkmillLaw"
abbrev cL_mould : ByteArray := method_3_code
def yL_mould : MethodName := ⟨RL, "mould", "(LWatermarkmill;IIIIII[J)I"⟩
abbrev cL_copy : ByteArray := method_4_code
def yL_copy : MethodName := ⟨RL, "copy", "(LWatermarkmill;II[J)I"⟩
abbrev cL_twin : ByteArray := method_5_code
def yL_twin : MethodName := ⟨RL, "twin", "(LWatermarkmill;II[J)I"⟩
abbrev cL_damage : ByteArray := method_6_code
def yL_damage : MethodName := ⟨RL, "damage", "(LWatermarkmill;IIZI[J)I"⟩
abbrev cL_retire : ByteArray := method_7_code
def yL_retire : MethodName := ⟨RL, "retire", "(LWatermarkmill;II[J)I"⟩
abbrev cL_sell : ByteArray := method_8_code
def yL_sell : MethodName := ⟨RL, "sell", "(LWatermarkmill;III[J)I"⟩
abbrev cL_owner : ByteArray := method_9_code
def yL_owner : MethodName := ⟨RL, "owner", "(LWatermarkmill;II[J)I"⟩
abbrev cL_state : ByteArray := method_10_code
def yL_state : MethodName := ⟨RL, "state", "(LWatermarkmill;II[J)I"⟩
abbrev cL_wire : ByteArray := method_11_code
def yL_wire : MethodName := ⟨RL, "wire", "(LWatermarkmill;III[J)I"⟩
abbrev cL_make : ByteArray := method_12_code
def yL_make : MethodName := ⟨RL, "make", "(LWatermarkmill;IZII[J)I"⟩
abbrev cL_ream : ByteArray := method_13_code
def yL_ream : MethodName := ⟨RL, "ream", "(LWatermarkmill;I[J)I"⟩
abbrev cL_put : ByteArray := method_14_code
def yL_put : MethodName := ⟨RL, "put", "(LWatermarkmill;III[J)I"⟩
abbrev cL_tariff : ByteArray := method_15_code
def yL_tariff : MethodName := ⟨RL, "tariff", "(LWatermarkmill;I[J)I"⟩
abbrev cL_document : ByteArray := method_16_code
def yL_document : MethodName := ⟨RL, "document", "(LWatermarkmill;II[J)I"⟩
abbrev cL_use : ByteArray := method_17_code
def yL_use : MethodName := ⟨RL, "use", "(LWatermarkmill;III[J)I"⟩
abbrev cL_cancel : ByteArray := method_18_code
def yL_cancel : MethodName := ⟨RL, "cancel", "(LWatermarkmill;IIII[J)I"⟩
abbrev cL_cancels : ByteArray := method_19_code
def yL_cancels : MethodName := ⟨RL, "cancels", "(LWatermarkmill;II[J)I"⟩
abbrev cL_leafOf : ByteArray := method_20_code
def yL_leafOf : MethodName := ⟨RL, "leafOf", "(LWatermarkmill;III[J)I"⟩
abbrev cL_markIn : ByteArray := method_21_code
def yL_markIn : MethodName := ⟨RL, "markIn", "(LWatermarkmill;II[J)I"⟩
abbrev cL_conjugate : ByteArray := method_22_code
def yL_conjugate : MethodName := ⟨RL, "conjugate", "(LWatermarkmill;II[J)I"⟩
abbrev cL_run : ByteArray := method_23_code
def yL_run : MethodName := ⟨RL, "run", "(LWatermarkmill;II[J)I"⟩
abbrev cL_wash : ByteArray := method_24_code
def yL_wash : MethodName := ⟨RL, "wash", "(LWatermarkmill;I[J)I"⟩
abbrev cL_image : ByteArray := method_25_code
def yL_image : MethodName := ⟨RL, "image", "(LWatermarkmill;IIII[J)I"⟩
abbrev cL_setTolerance : ByteArray := method_26_code
def yL_setTolerance : MethodName := ⟨RL, "setTolerance", "(LWatermarkmill;I[J)I"⟩
abbrev cL_distance : ByteArray := method_27_code
def yL_distance : MethodName := ⟨RL, "distance", "(LWatermarkmill;II[J)I"⟩
abbrev cL_compare : ByteArray := method_28_code
def yL_compare : MethodName := ⟨RL, "compare", "(LWatermarkmill;II[J)I"⟩
abbrev cL_evidence : ByteArray := method_29_code
def yL_evidence : MethodName := ⟨RL, "evidence", "(LWatermarkmill;II[J)I"⟩
abbrev cL_merge : ByteArray := method_30_code
def yL_merge : MethodName := ⟨RL, "merge", "(LWatermarkmill;IIII[J)I"⟩
abbrev cL_unmerge : ByteArray := method_31_code
def yL_unmerge : MethodName := ⟨RL, "unmerge", "(LWatermarkmill;[J)I"⟩
abbrev cL_entry : ByteArray := method_32_code
def yL_entry : MethodName := ⟨RL, "entry", "(LWatermarkmill;II[J)I"⟩
abbrev cL_claim : ByteArray := method_33_code
def yL_claim : MethodName := ⟨RL, "claim", "(LWatermarkmill;III[J)I"⟩
abbrev cL_unclaim : ByteArray := method_34_code
def yL_unclaim : MethodName := ⟨RL, "unclaim", "(LWatermarkmill;III[J)I"⟩
abbrev cL_date : ByteArray := method_35_code
def yL_date : MethodName := ⟨RL, "date", "(LWatermarkmill;II[J)I"⟩
abbrev cL_setAge : ByteArray := method_36_code
def yL_setAge : MethodName := ⟨RL, "setAge", "(LWatermarkmill;I[J)I"⟩
abbrev cL_year : ByteArray := method_37_code
def yL_year : MethodName := ⟨RL, "year", "(LWatermarkmill;IZ[J)I"⟩
abbrev cL_ground : ByteArray := method_38_code
def yL_ground : MethodName := ⟨RL, "ground", "(LWatermarkmill;IZ[J)I"⟩
abbrev cL_culprit : ByteArray := method_39_code
def yL_culprit : MethodName := ⟨RL, "culprit", "(LWatermarkmill;[J)I"⟩
abbrev cL_forged : ByteArray := method_40_code
def yL_forged : MethodName := ⟨RL, "forged", "(LWatermarkmill;II[J)I"⟩
abbrev cL_years : ByteArray := method_41_code
def yL_years : MethodName := ⟨RL, "years", "(LWatermarkmill;[J)I"⟩
abbrev cL_usedShare : ByteArray := method_42_code
def yL_usedShare : MethodName := ⟨RL, "usedShare", "(LWatermarkmill;[D)I"⟩
abbrev cL_meanAge : ByteArray := method_43_code
def yL_meanAge : MethodName := ⟨RL, "meanAge", "(LWatermarkmill;[D)I"⟩
abbrev cL_law : ByteArray := code
def yL_law : MethodName := ⟨RL, "law", "([I)Z"⟩
abbrev vwCl : List vw_C := [(RJ0, TJ0, 2), (RJx00060, TJx00060, 6), (RJx35411, TJx35411, 4), (RJx4a65c, TJx4a65c, 3), (RX0, TX0, 6), (RX1, TX1, 7), (RX2, TX2, 4), (RX3, TX3, 5), (RX4, TX4, 11), (RX5, TX5, 3), (RX6, TX6, 4), (RX7, TX7, 3), (RX8, TX8, 10), (RX9, TX9, 6), (RX10, TX10, 3), (RX11, TX11, 9), (RX12, TX12, 2), (RX13, TX13, 3), (RX14, TX14, 16)]
end
section
/-! The words that a call carries: all good ones of the tables; what the machine's statics, strings and casts give (zG); a world as a start (PW) and as an end (QW). -/
def lw_good : List Cond := lw_tbl.filter goodWord
theorem lw_in {i : Nat} {w : Cond} (h : tables_1[i]? = some w) (g : goodWord w = true) : w ∈ lw_good := List.mem_filter.mpr ⟨List.mem_append_right _ (List.mem_of_getElem? h), g⟩
theorem lw_inS {i : Nat} {w : Cond} (h : (k2_sels lw_privs)[i]? = some w) (g : goodWord w = true) : w ∈ lw_good := List.mem_filter.mpr ⟨List.mem_append_left _ (List.mem_of_getElem? h), g⟩
theorem lw_goodIn {c : Cond} {ws : List Cond} (h : ∀ w ∈ ws, w ∈ lw_good) : GoodIn (c :: lw_good) ws := fun w hw => ⟨List.mem_cons_of_mem _ (h w hw), good_of_word (List.mem_filter.mp (h w hw)).2⟩
theorem lw_goodAll {c d : Cond} (hd : d ∈ lw_good) : GoodIn (c :: lw_good) (d :: lw_good) := lw_goodIn fun w hw => (List.mem_cons.mp hw).elim (fun e => e ▸ hd) id
theorem lw_goodApp {c d : Cond} {l : List Cond} (hl : ∀ w ∈ l, w ∈ lw_good) (hd : d ∈ lw_good) : GoodIn (c :: lw_good) (l ++ d :: lw_good) := lw_goodIn fun w hw => (List.mem_append.mp hw).elim (hl w) fun hw => (List.mem_cons.mp hw).elim (fun e => e ▸ hd) id
theorem lw_4 {a b c d : Cond} (ha : a ∈ lw_good) (hb : b ∈ lw_good) (hc : c ∈ lw_good) (hd : d ∈ lw_good) : ∀ w ∈ [a, b, c, d], w ∈ lw_good := fun w hw => by
  simp only [List.mem_cons, List.not_mem_nil, or_false] at hw
  rcases hw with rfl | rfl | rfl | rfl
  · exact ha
  · exact hb
  · exact hc
  · exact hd
theorem lw_3 {a b c : Cond} (ha : a ∈ lw_good) (hb : b ∈ lw_good) (hc : c ∈ lw_good) : ∀ w ∈ [a, b, c], w ∈ lw_good := fun w hw => by
  simp only [List.mem_cons, List.not_mem_nil, or_false] at hw
  rcases hw with rfl | rfl | rfl
  · exact ha
  · exact hb
  · exact hc
/-- words that look at the tables alone, without being good ones -/
def zF (w : Cond) : Bool := w.faceAtom || (match w with
  | .fieldLinkNest .. => true
  | .methodLinkNest .. => true
  | _ => false)
theorem zF_on {w : Cond} (g : zF w = true) : w.onTables = true := by
  cases w <;> first | rfl | (simp [zF, Cond.faceAtom] at g)
def lw_face : List Cond := tables_1.filter zF
theorem lw_fin {i : Nat} {w : Cond} (h : tables_1[i]? = some w) (g : zF w = true) : w ∈ lw_face := List.mem_filter.mpr ⟨List.mem_of_getElem? h, g⟩
def zFs (U : State) : Prop := ∀ w ∈ lw_face, va_Nw w U
theorem zFs.same {u U : State} (h : u.vm = U.vm) (q : zFs u) : zFs U := fun w hw => va_Nw.same (zF_on (List.mem_filter.mp hw).2) h (q w hw)
theorem zFs.warm {s U : State} (hW : s.WarmedH U.vm) (q : zFs s) : zFs U := fun w hw => by
  have g : zF w = true := (List.mem_filter.mp hw).2
  have q := q w hw
  by_cases hf : w.faceAtom = true
  · exact va_tabs (zF_on g) (rfl : (s.setVm U.vm).vm = U.vm) (Cond.faceAtom_setVm hW.alike w hf q)
  · cases w <;> first | exact va_Nw.warmF hW q | exact va_Nw.warmM hW q | exact absurd (by simpa [zF] using g) hf
/-- the String constants -/
def zSs (U : State) : Prop := ∀ (own : String) (k : Nat) (tx : String), Cond.stringRef own k tx ∈ tables_1 → ∃ a : Nat, vk_R own k tx a U
theorem zSs.same {u U : State} (h : u.vm = U.vm) (q : zSs u) : zSs U := fun own k tx hm => by
  obtain ⟨a, ha⟩ := q own k tx hm
  exact ⟨a, ha.same h.symm⟩
theorem zSs.warm {s U : State} (hW : s.WarmedH U.vm) (q : zSs s) : zSs U := fun own k tx hm => by
  obtain ⟨a, ha⟩ := q own k tx hm
  exact ⟨a, ha.warm hW⟩
def zIs (comp : ClassId) : Class → Bool := fun x => match x.kind with | .array component _ => component == comp | _ => false
theorem z_idx (vm : Vm) (comp : ClassId) : vm.bare.classes.findIdx? (zIs comp) = vm.classes.findIdx? (zIs comp) := by
  simp only [Vm.bare, Array.findIdx?_map]
  rfl
theorem zOA_spec {A : Array Value} {t : FieldType} {U : State} (h : (Cond.arrayOver (.array t)).before A U = true) : ∃ comp c k, U.vm.findClass (FieldType.array t).toString = some comp ∧ (U.vm.classes.findIdx? (zIs comp)) = some c ∧ U.vm.classes[c]? = some k ∧ k.kind = .array comp (.array t) ∧ U.vm.findClass ("[" ++ (FieldType.array t).toString) = some c := by
  simp only [Cond.before, Cond.holds, Cond.value, beq_iff_eq] at h
  cases hc : U.vm.findClass (FieldType.array t).toString with
  | none => simp [hc] at h
  | some comp =>
    simp only [hc, Option.bind_some, Option.bind_eq_some_iff, Option.map_eq_some_iff] at h
    obtain ⟨c, hi, k, hk, hb⟩ := h
    obtain ⟨hlt, hp, -⟩ := Array.findIdx?_eq_some_iff_getElem.mp hi
    have hkk : U.vm.classes[c] = k := (Array.getElem?_eq_some_iff.mp hk).2
    rw [hkk] at hp
    cases hkind : k.kind with
    | array component ty =>
      rw [hkind] at hb hp
      simp at hb hp
      exact ⟨comp, c, k, rfl, hi, hk, by rw [hkind, hp, hb.1], hb.2⟩
    | _ => rw [hkind] at hb; simp at hb
theorem va_AOA.moved {t : FieldType} {u U : State} (hvm : u.vm.Alike U.vm) (h : va_AOA t u) : va_AOA t U := by
  obtain ⟨comp, c, k, h1, h2, h3, h4, h5⟩ := zOA_spec h
  obtain ⟨k', hk', he⟩ := hvm.2.2 _ _ h3
  have hi : (U.vm.classes.findIdx? (zIs comp)) = some c := by
    rw [← z_idx]
    first | rw [hvm.bare_eq] | rw [← hvm.bare_eq]
    rw [z_idx]
    exact h2
  have hkind : k'.kind = .array comp (.array t) := by rw [he]; exact h4
  have f1 : U.vm.findClass (FieldType.array t).toString = some comp := by rw [hvm.findClass]; exact h1
  have f2 : U.vm.findClass ("[" ++ (FieldType.array t).toString) = some c := by rw [hvm.findClass]; exact h5
  unfold va_AOA Cond.before Cond.holds
  simp only [Cond.value]
  rw [f1, Option.bind_some]
  refine (congrArg (fun o : Option Nat => (o.bind (fun c => (U.vm.classes[c]?).map fun (k : Class) => match k.kind with | .array _ ty => decide (ty = FieldType.array t) && decide (U.vm.findClass ("[" ++ (FieldType.array t).toString) = some c) | _ => false) == some true)) hi).trans ?_
  simp [hk', hkind, f2]
def zAO (U : State) : Prop := va_AO "java/lang/Object" U ∧ va_AO "WatermarkmillModel$Sheet" U ∧ va_AOA .int U
theorem zAO.moved {u U : State} (hal : u.vm.Alike U.vm) (q : zAO u) : zAO U := ⟨q.1.moved hal, q.2.1.moved hal, q.2.2.moved hal⟩
abbrev zAL : String := "java/util/ArrayList"
abbrev zDE : String := "DEFAULTCAPACITY_EMPTY_ELEMENTDATA"
abbrev zOA : String := "[Ljava/lang/Object;"
/-- what lies outside a method's own cells: z the empty element array of all lists -/
def zG (z : Nat) (A : Nat → Prop) (U : State) (H : Heap) : Prop :=
  vx_Zq Bundle.tN "UNASSIGNED_STACK" Bundle.steD A U H ∧ vx_Zq Bundle.tN "SUPPRESSED_SENTINEL" Bundle.listD A U H ∧ va_Z zAL zDE zOA (.ref z) A U H ∧ va_T (.object "java/lang/Object") z 0 (fun _ => .null) A U H ∧ zFs U ∧ zSs U ∧ zAO U
theorem zG.same {z : Nat} {A : Nat → Prop} {u U : State} {H : Heap} (h : u.vm = U.vm) (q : zG z A u H) : zG z A U H := by
  have hal : u.vm.Alike U.vm := by rw [h]; exact Vm.Alike.refl _
  exact ⟨q.1.moved hal, q.2.1.moved hal, q.2.2.1.moved hal, q.2.2.2.1.moved hal, q.2.2.2.2.1.same h, q.2.2.2.2.2.1.same h, q.2.2.2.2.2.2.moved hal⟩
theorem zG.step {z : Nat} {A B : Nat → Prop} {s U : State} {H H1 : Heap} (hW : s.WarmedH U.vm) (q : zG z A s H) (hk : ∀ a : Nat, a < H.size → ¬ A a → H1[a]? = H[a]?) (hB : ∀ a, B a → A a) : zG z B U H1 :=
  ⟨((q.1.kept hk).moved hW.alike).narrow hB, ((q.2.1.kept hk).moved hW.alike).narrow hB, ((q.2.2.1.kept hk).moved hW.alike).narrow hB, ((q.2.2.2.1.kept hk).moved hW.alike).narrow hB, q.2.2.2.2.1.warm hW, q.2.2.2.2.2.1.warm hW, q.2.2.2.2.2.2.moved hW.alike⟩
/-- a world at a method's start -/
def PW (G : va_G) (z : Nat) (ws : va_W) (tys : List (ClassId × FieldType)) (sz : Nat) (U : State) : Prop :=
  U.heap.size = sz ∧ va_P G vwCl ws U.heap ∧ va_K G vwCl tys U ∧ va_D (fun _ => True) ws ∧ zG z (va_A ws sz) U U.heap
theorem PW.blind {G : va_G} {z : Nat} {ws : va_W} {tys : List (ClassId × FieldType)} {sz : Nat} {av : List Value} : FrameBlind (va_Pc av (PW G z ws tys sz)) := fun a U g mk q =>
  ⟨q.1, q.2.1, q.2.2.1, va_K.moved (u := U) (U := U.calling g mk a) (Vm.Alike.refl U.vm) q.2.2.2.1, q.2.2.2.2.1, q.2.2.2.2.2.same (u := U) (U := U.calling g mk a) rfl⟩
theorem PW.of {G : va_G} {z : Nat} {A : Nat → Prop} {s : State} {H : Heap} {locs : List Loc} {wc : va_W} {tysc : List (ClassId × FieldType)} (hPc : va_P G vwCl wc H) (hKc : va_K G vwCl tysc s) (hDc : va_D A wc) (hG : zG z A s s.heap) (hS : va_S A s.heap H locs) (hF : ∀ q, va_A wc H.size q → A q) (av : List Value) : ∀ U : State, U.heap = H → s.WarmedH U.vm → va_Pc av (PW G z wc tysc H.size) av.toArray U := fun U hU hW => by
  subst hU
  exact ⟨rfl, rfl, hPc, va_K.moved hW.alike hKc, hDc.weaken (fun _ _ _ _ => trivial), hG.step hW hS.2.1 hF⟩
/-- a world at a method's end -/
def QW (G : va_G) (ws : va_W) (tys : List (ClassId × FieldType)) (A : Nat → Prop) (t : State) : Prop := va_P G vwCl ws t.heap ∧ va_K G vwCl tys t ∧ va_D A ws
theorem QW.of {G : va_G} {ws : va_W} {tys : List (ClassId × FieldType)} {A : Nat → Prop} {s : State} {H : Heap} (hP : va_P G vwCl ws H) (hK : va_K G vwCl tys s) (hD : va_D A ws) {t : State} (ht : t.heap = H) (hal : s.vm.Alike t.vm) : QW G ws tys A t := ⟨by rw [ht]; exact hP, va_K.moved hal hK, hD⟩
/-- what came back beside the rest -/
theorem QW.join {G : va_G} {A0 : Nat → Prop} {s t : State} {ws wc wr w1 : va_W} {tys ty1 : List (ClassId × FieldType)} {H H1 : Heap} (hP : va_P G vwCl ws H) (hD : va_D A0 ws) (hK : va_K G vwCl tys s) (isC isR : List Nat) (hC : isC.map (fun i => ws[i]?) = wc.map some) (hR : isR.map (fun i => ws[i]?) = wr.map some) (hn : va_nd isR = true) (hdis : ∀ i ∈ isR, i ∉ isC)
    (hk : ∀ q : Nat, q < H.size → ¬ va_A wc H.size q → H1[q]? = H[q]?) (hF : ∀ q, va_A wc H.size q → A0 q) (ht : t.heap = H1) (hal : s.vm.Alike t.vm) (hB : QW G w1 ty1 (va_A wc H.size) t) : va_P G vwCl (wr ++ w1) H1 ∧ va_D A0 (wr ++ w1) ∧ va_K G vwCl (tys ++ ty1) s := by
  obtain ⟨hP1, hK1, hD1⟩ := hB
  rw [ht] at hP1
  obtain ⟨h1, h2⟩ := va_join hP hD isC isR hC hR hn hdis hk hF hP1 hD1
  exact ⟨h1, h2, hK.app (va_K.moved hal.symm hK1)⟩
/-! readers: nothing old is written, so that the caller keeps its world as it was -/
abbrev zN (sz : Nat) : Nat → Prop := fun q => sz ≤ q
def PR (G : va_G) (z : Nat) (ws : va_W) (tys : List (ClassId × FieldType)) (sz : Nat) (U : State) : Prop := U.heap.size = sz ∧ va_P G vwCl ws U.heap ∧ va_K G vwCl tys U ∧ zG z (zN sz) U U.heap
theorem PR.blind {G : va_G} {z : Nat} {ws : va_W} {tys : List (ClassId × FieldType)} {sz : Nat} {av : List Value} : FrameBlind (va_Pc av (PR G z ws tys sz)) := fun a U g mk q =>
  ⟨q.1, q.2.1, q.2.2.1, va_K.moved (u := U) (U := U.calling g mk a) (Vm.Alike.refl U.vm) q.2.2.2.1, q.2.2.2.2.same (u := U) (U := U.calling g mk a) rfl⟩
theorem PR.of {G : va_G} {z : Nat} {A : Nat → Prop} {s : State} {H : Heap} {locs : List Loc} {wc : va_W} {tysc : List (ClassId × FieldType)} (hPc : va_P G vwCl wc H) (hKc : va_K G vwCl tysc s) (hG : zG z A s s.heap) (hS : va_S A s.heap H locs) (hA : ∀ q : Nat, s.heap.size ≤ q → A q) (av : List Value) : ∀ U : State, U.heap = H → s.WarmedH U.vm → va_Pc av (PR G z wc tysc H.size) av.toArray U := fun U hU hW => by
  subst hU
  exact ⟨rfl, rfl, hPc, va_K.moved hW.alike hKc, hG.step hW hS.2.1 (fun a h => hA a (Nat.le_trans hS.1 h))⟩
theorem va_P.grown {G : va_G} {cl : List vw_C} {ws : va_W} {H H1 : Heap} (h : va_P G cl ws H) (hk : ∀ q : Nat, q < H.size → ¬ zN H.size q → H1[q]? = H[q]?) : va_P G cl ws H1 := h.kept fun k q hq => hk q.1 (h k q hq).lt (Nat.not_le.mpr (h k q hq).lt)
theorem zN.not {n q : Nat} {P : Prop} (h1 : q < n) (h2 : zN n q) : P := absurd h1 (Nat.not_lt.mpr h2)
/-- E is thrown, when φ -/
abbrev zX (φ : Prop) (cls : String) (A : Nat → Prop) : String → State → State → Prop := vx_X (fun _ : Unit => φ) (fun E _ _ => E = cls) A
abbrev zNm : List String := ["java/lang/RuntimeException", "java/lang/Exception"]
theorem zat {own cls : String} {ic : Nat} (h1 : ∀ w ∈ (vx_atS own ic cls zNm).filter goodWord, w ∈ lw_tbl) (h2 : ∀ w ∈ (vx_atS own ic cls zNm).filter (fun w => !goodWord w), w ∈ lw_face) : ∀ w ∈ vx_atS own ic cls zNm, w ∈ lw_good ∨ w ∈ lw_face := fun w hw => by
  by_cases g : goodWord w = true
  · exact Or.inl (List.mem_filter.mpr ⟨h1 w (List.mem_filter.mpr ⟨hw, g⟩), g⟩)
  · exact Or.inr (h2 w (List.mem_filter.mpr ⟨hw, by simp [g]⟩))
theorem zF_tables {w : Cond} (h : w ∈ lw_face) : w.onTables = true := zF_on (List.mem_filter.mp h).2
theorem zat_at {own cls : String} {ic : Nat} {args : Array Value} {s : State} (h : ∀ w ∈ vx_atS own ic cls zNm, w ∈ lw_good ∨ w ∈ lw_face) (hg : ∀ w ∈ lw_good, w.before args s = true) (hF : zFs s) : ∀ w ∈ vx_atS own ic cls zNm, w.before args s = true := fun w hw => (h w hw).elim (hg w) fun hf => va_Nw.use (zF_tables hf) (hF w hf)
theorem zX.grown {φ : Prop} {cls : String} {A : Nat → Prop} {s t : State} {H : Heap} {locs : List Loc} (hφ : φ) (hS : va_S A s.heap H locs) (h1 : H.size ≤ t.heap.size) (h2 : ∀ q : Nat, q < H.size → t.heap[q]? = H[q]?) : zX φ cls A cls s t := ⟨(), hφ, rfl, Nat.le_trans hS.1 h1, fun q a b => by rw [h2 q (Nat.lt_of_lt_of_le a hS.1)]; exact hS.2.1 q a b⟩
theorem zX.same {φ : Prop} {cls E : String} {A : Nat → Prop} {s t : State} {H : Heap} {locs : List Loc} (hφ : φ) (hE : E = cls) (hS : va_S A s.heap H locs) (h : t.heap = H) : zX φ cls A E s t := ⟨(), hφ, hE, hS.F h⟩
theorem QW.nil {G : va_G} {A : Nat → Prop} {s t : State} {tys : List (ClassId × FieldType)} (hK : va_K G vwCl tys s) (hal : s.vm.Alike t.vm) : QW G [] [] A t := ⟨fun k q h => by simp at h, va_K.moved hal (hK.sub [] rfl), fun i j p q h => by simp at h, fun k q h => by simp at h⟩
section ZA
variable {p : Program} {l : Launch} {e : Env} {R : Room} {s : State} {m : MethodId} {args : Array Value} {below : List Frame} {meth : Method} {c : Code} {H : Heap} {locs : List Loc} {cells slots : Nat} {Q : State → Prop}
variable {cc : ByteArray} {pc : Nat} {ls : Array Slot} {rest : List Value} {D : va_G} {cl : List vw_C} {A : Nat → Prop} {a : Nat} {tys : List (ClassId × FieldType)} {ws : va_W} {H0 : Heap}
/-- aaload of an array of arrays -/
theorem z_aldA (hexec : p.tables.exec = Jvm.exec) (hb : c.code = cc) (hK : va_K D cl tys s) (hP : va_P D cl ws H) (q0 t0 : Nat) {cA : ClassId} {C : FieldType} {n : Nat} {f : Nat → Option Nat} (ha : ws[q0]? = some (a, .inl (cA, n, .inr (.inr (.inr (.inr f)))))) (ht : tys[t0]? = some (cA, .array C)) {i : Int32} (hin : vp_in i n) {r : Nat} (hr : f i.toNatClampNeg = some r) (hdg : decode cc pc = .ok (.aaload, 1))
    (kk : W p l e R s m args below meth c H locs cells slots Q (F0 m (pc + 1) ls (.ref r :: rest))) : W p l e R s m args below meth c H locs cells slots Q (F0 m pc ls (.int i :: .ref a :: rest)) := by
  have hlt : i.toNatClampNeg < n := Nat.not_le.mp fun q => hin (Or.inr q)
  have kk' : W p l e R s m args below meth c H locs cells slots Q (F0 m (pc + 1) ls (va_rf (f i.toNatClampNeg) :: rest)) := by rw [hr]; exact kk
  exact W.aald (v := va_rf (f i.toNatClampNeg)) (ty := .array C) hexec hb (hP q0 _ ha) ((hK.2 t0 _ ht).1 n (fun j => va_rf (f j))) rfl (fun q => by cases q) (by show ¬ (i < 0 ∨ (arrV _ _ _).slots.size ≤ _); rw [arrV_size]; exact hin) (by show (arrV _ _ _).slots[_]? = _; exact arrV_read _ _ hlt) rfl rfl hdg kk'
end ZA
section ZL
variable {p : Program} {l : Launch} {e : Env} {R : Room} {s : State} {m : MethodId} {args : Array Value} {below : List Frame} {meth : Method} {c : Code} {cells slots : Nat} {Q : State → Prop} {pc : Nat} {st : List Value}
/-- a loop: P n holds at its head, with n rounds left at most -/
theorem z_loop {α : Type} (P : Nat → α → Heap → List Loc → Array Slot → Prop) (h0 : ∀ x H locs ls, ¬ P 0 x H locs ls)
    (hs : ∀ n, (∀ x H locs ls, P n x H locs ls → W p l e R s m args below meth c H locs cells slots Q (F0 m pc ls st)) → ∀ x H locs ls, P (n + 1) x H locs ls → W p l e R s m args below meth c H locs cells slots Q (F0 m pc ls st)) :
    ∀ n x H locs ls, P n x H locs ls → W p l e R s m args below meth c H locs cells slots Q (F0 m pc ls st) := by
  intro n
  induction n with
  | zero => intro x H locs ls h; exact absurd h (h0 x H locs ls)
  | succ n ih => exact hs n ih
end ZL
theorem z_id {x : Int32} {n : Nat} (h : vp_in x n) (hn : n < 2 ^ 31) : nI x.toNatClampNeg = x := by
  obtain ⟨j, hj, rfl⟩ := vp_in_of h hn
  rw [nI_clamp (by omega)]
theorem z_max_in {x y : Int32} {n : Nat} (hx : vp_in x n) (hy : vp_in y n) : vp_in (if x < y then y else x) n := by split <;> assumption
theorem z_not_neg {x : Int32} {n : Nat} (h : vp_in x n) (e : x = -1) : False := by
  subst e
  exact h (Or.inl (by decide))
theorem z_upd_same {f : Nat → Int32} {i : Nat} {v : Int32} : upd f i v i = v := by simp [upd]
theorem z_upd_ne {f : Nat → Int32} {i j : Nat} {v : Int32} (h : j ≠ i) : upd f i v j = f j := by simp [upd, h]
end
section
section ZX
variable {p : Program} {l : Launch} {e : Env} {R : Room} {s : State} {m₀ : MethodId} {args : Array Value} {below : List Frame} {meth : Method} {c : Code} {W : State} {locs : List Loc} {cells slots : Nat}
set_option maxHeartbeats 4000000 in
theorem z_ctorThrowSX (X : Stand p l e R s m₀ args below meth c W locs cells slots) (hexec : p.tables.exec = Jvm.exec) (htr : e.platform.stackTraces = false) {own cls : String} {names : List String} {ic ix : Nat} {rx : ByteArray} (x0 : decode rx 0 = .ok (.aload_n 0, 1)) (x1 : decode rx 1 = .ok (.aload_n 1, 1)) (x2 : decode rx 2 = .ok (.invokespecial ix, 3)) (x5 : decode rx 5 = .ok (.return_, 1))
    (hown : s.vm.findClass own = some m₀.cls) (hcls : Bundle.fit cls = true) (hnames : ∀ n ∈ names, Bundle.fit n = true)
    (h : ∀ a ∈ Bundle.ownAtomsX own ic cls ix rx names, a.before args s = true)
    (hlocs : ∀ x ∈ locs, ∀ cell, s.heap[x.base]? = some cell → cell.vm.isStatics = false)
    {a : Addr} {cX : ClassId} {kX : Class} (hfoundX : s.vm.findClass cls = some cX) (hkX : s.vm.classes[cX]? = some kX) (hcell : W.heap[a]? = some (freshCell cX kX)) (hnew : s.heap.size ≤ a)
    {msg : Value} (hmsg : msg.isRef = true)
    {g : JFrame} (hg : g.method = m₀) (hsize : g.locals.size = c.maxLocals) (hlocked : g.locked = none) (hentered : g.entered = []) {rest : List Value} (hstack : g.stack = msg :: .ref a :: .ref a :: rest)
    (hd6 : decode c.code g.pc = .ok (.invokespecial ic, 3)) (hd9 : decode c.code (g.pc + 3) = .ok (.athrow, 1)) (hout : ∀ x ∈ c.exceptionTable.toList, covers x (g.pc + 3) = false)
    (hRframes : names.length + 3 < R.frames) (hRlocals : 2 * g.monitorRoom + ((Value.ref a :: rest).map fun v => v.category).sum + (13 * (names.length + 1) + 42) ≤ R.locals) (hlocks : meth.locks = false := by first | assumption | exact BodyLoose.notSynchronized (by assumption) | exact Body.notSynchronized (by assumption)) :
    ∃ U : State, Steps p.tables e below (W.setTop g) U ∧ U.status = .running ∧ Ended U below (.threw a) ∧ s.WarmedH U.vm ∧ s.sameButNew ({ U with vm := s.vm } : State) locs cells slots ∧
      ∃ ce, U.heap[a]? = some ce ∧ Bundle.OwnCell args s cls a msg ce := by
  have howns : e.platform.frameOwnsMonitors = true := by rw [X.admits.platform]
  have hfin : e.platform.finalization = false := by rw [X.admits.platform]
  have hpl : e.platform.magicAccessors = ({} : Platform).magicAccessors := by rw [X.admits.platform]
  have a' : ∀ x, x ∈ Bundle.ownAtomsX own ic cls ix rx names → x.holds args s none s [] = true := fun x hx => h x hx
  obtain ⟨T, Z0, L, -, Y⟩ := ThrowableC.of_atoms (args := args) howns hfin hpl (fun x hx => h x (by simp [Bundle.ownAtomsX, hx]))
  obtain ⟨Z, M, LZ, LM, hnZ⟩ := Init0T.ofS_atoms (args := args) hpl L Y (fun x hx => h x (by simp [Bundle.ownAtomsX, hx]))
  obtain ⟨P1, Ps, hlen, L1, hL, hP1m, hlink1, hlink⟩ := Bundle.chainSX (args := args) hpl hnZ x0 x1 x2 x5 names cls hcls hnames (fun x hx => h x (by simp [Bundle.ownAtomsX, hx]))
  have hfound : s.vm.findClass cls = some P1.m.cls := findClass_of_methodNamed hP1m
  cases Option.some.inj (hfoundX.symm.trans hfound)
  obtain ⟨c1, kX', hc1, hk, hord, -, -, hn6⟩ := Cond.instantiable_spec (a' (.instantiable cls 6) (by simp [Bundle.ownAtomsX]))
  cases Option.some.inj (hc1.symm.trans hfound)
  cases Option.some.inj (hkX.symm.trans hk)
  have hsel0 : selectMethod e.platform s.vm P1.m.cls T.fill0 = .method T.fill0 := by
    obtain ⟨c2, r2, m2, q1, q2, q3, q4, -⟩ := Cond.selects_spec (a' (.selects cls Bundle.tFill0 Bundle.tFill0) (by simp [Bundle.ownAtomsX]))
    cases Option.some.inj (q1.symm.trans hfound)
    cases Option.some.inj (q2.symm.trans (State.methodFound?_of_named Y.fill0 (by decide)))
    cases Option.some.inj (q3.symm.trans Y.fill0)
    rw [Launch.admits_selectMethod X.admits]; exact q4
  have hselF : selectMethod e.platform s.vm P1.m.cls T.fill = .method T.fill := by
    obtain ⟨c2, r2, m2, q1, q2, q3, q4, -⟩ := Cond.selects_spec (a' (.selects cls Bundle.tFill Bundle.tFill) (by simp [Bundle.ownAtomsX]))
    cases Option.some.inj (q1.symm.trans hfound)
    cases Option.some.inj (q2.symm.trans (State.methodFound?_of_named Y.fill (by decide)))
    cases Option.some.inj (q3.symm.trans Y.fill)
    rw [Launch.admits_selectMethod X.admits]; exact q4
  obtain ⟨cellS0, hcS0, hiss⟩ := Y.statics
  obtain ⟨u0, hu0⟩ := Cond.staticRefV Y.unassigned L.unassignedStatic L.statics hcS0 hiss (a' (.isRef (.static Bundle.tN "UNASSIGNED_STACK" Bundle.steD)) (by simp [Bundle.ownAtomsX]))
  obtain ⟨sen, hsen⟩ := Cond.staticRefV Y.sentinel L.sentinelStatic L.statics hcS0 hiss (a' (.isRef (.static Bundle.tN "SUPPRESSED_SENTINEL" Bundle.listD)) (by simp [Bundle.ownAtomsX]))
  obtain ⟨ci198, i198, fB, hk198, hg198, ha198, hsB, -, hnB, htB, hffB⟩ := Cond.ownField (t := .object "java/lang/Object") Y.found L.cls (by decide +kernel) (a' (.fieldLink Bundle.tN 198 Bundle.tN "backtrace" "Ljava/lang/Object;") (by simp [Bundle.ownAtomsX])) (a' (.lays Bundle.tN Bundle.tN "backtrace" "Ljava/lang/Object;") (by simp [Bundle.ownAtomsX])) e.platform hpl
  obtain ⟨cellS, hcS', heS, -, hkeep⟩ := X.same.2.2.2.2.2 T.aS cellS0 hcS0
  have hcellS : W.heap[T.aS]? = some cellS := hcS'
  have hout' : ∀ i, (⟨T.aS, i⟩ : Loc) ∉ locs := fun i hmem => by
    have := hlocs _ hmem cellS0 hcS0
    rw [hiss] at this; cases this
  have hknownS : cellS.vm ≠ .unknown := by
    rw [heS]; intro hu
    rw [show cellS0.vm = .unknown from hu] at hiss
    cases hiss
  have hneS : T.aS ≠ a := Nat.ne_of_lt (Nat.lt_of_lt_of_le (Array.getElem?_eq_some_iff.mp hcS0).1 hnew)
  obtain ⟨iM, hffM⟩ := Y.msg
  obtain ⟨tyC, dC, hdC, hdnC⟩ := Cond.laysAt hfound hk Y.cause (a' (.lays cls Bundle.tN "cause" "Ljava/lang/Throwable;") (by simp [Bundle.ownAtomsX]))
  obtain ⟨tyS, dS, hdS, hdnS⟩ := Cond.laysAt hfound hk Y.stack (a' (.lays cls Bundle.tN "stackTrace" Bundle.steD) (by simp [Bundle.ownAtomsX]))
  obtain ⟨tyP, dP, hdP, hdnP⟩ := Cond.laysAt hfound hk Y.supp (a' (.lays cls Bundle.tN "suppressedExceptions" Bundle.listD) (by simp [Bundle.ownAtomsX]))
  obtain ⟨tyM, dM, hdM, hdnM⟩ := Cond.laysAt hfound hk hffM (a' (.lays cls Bundle.tN "detailMessage" "Ljava/lang/String;") (by simp [Bundle.ownAtomsX]))
  obtain ⟨tyB, dB, hdB, hdnB⟩ := Cond.laysAt hfound hk hffB (a' (.lays cls Bundle.tN "backtrace" "Ljava/lang/Object;") (by simp [Bundle.ownAtomsX]))
  have bC := Cond.laysApart hdB hdC hdnB hdnC (by rw [hnB, Y.causeName]; decide)
  have bS := Cond.laysApart hdB hdS hdnB hdnS (by rw [hnB, Y.stackName]; decide)
  have bP := Cond.laysApart hdB hdP hdnB hdnP (by rw [hnB, Y.suppName]; decide)
  have hskip : SkipFacts T e.platform s (fun u => u) u0 ((preparedCellV T.toThrowableT (freshCell P1.m.cls kX) a u0 sen).withEntry W.cur) :=
    ⟨{ ci198 := ci198, i198 := i198, fBack := fB }, ⟨hk198, hg198, ha198, hsB⟩, by
      have := fresh_default (c := P1.m.cls) tyB
      rw [htB] at this
      simpa [preparedCellV, Cell.setSlot, Cell.withEntry, Array.getElem?_setIfInBounds, bC, bS, bP, bC.symm, bS.symm, bP.symm, defaultValue] using this, fun _ _ => rfl⟩
  obtain ⟨tm, methC, cdC, kC, vm₁, hnC, -, -, -, -, -, -, -, hW₁, st1⟩ := Steps.initColdS (tb := p.tables) (e := e) (below := below) (s := s) (U := W) X.here hexec X.warmed hpl hown (t := Bundle.initS cls) rfl rfl (Bundle.fit_spec hcls).2
    (a' (.methodLink own ic (Bundle.initS cls)) (by simp [Bundle.ownAtomsX])) (h (.instanceMethod (Bundle.initS cls)) (by cases names <;> simp [Bundle.ownAtomsX, Bundle.chainSAtomsX, Bundle.passSAtoms])) (bytes := rx) (maxL := 2) (h (.code (Bundle.initS cls) rx 2 none) (by cases names <;> simp [Bundle.ownAtomsX, Bundle.chainSAtomsX, Bundle.passSAtoms]))
    (f := g) hg (a := a) (msg := msg) (rest := .ref a :: rest) hstack hd6
  cases Option.some.inj (hnC.symm.trans hP1m)
  have X₁ := X.noted hW₁
  obtain ⟨vm₂, X₂, st2⟩ := X₁.ctorMessageOffV hexec (g := { g with stack := .ref a :: rest }) hg hsize T L Z LZ M LM (P1 :: Ps)
    (fun P hP => by rcases List.mem_cons.mp hP with rfl | hP; exact L1; exact hL P hP) ⟨hlink1, hlink⟩ (u0 := u0) (sen := sen) (self := a) hmsg (cell := freshCell P1.m.cls kX) (cellS := cellS)
    hcell (fun _ => by simp) (by simp) rfl rfl hsel0 hselF hcellS hneS hknownS (by rw [hkeep _ (hout' _)]; exact hu0) (by rw [hkeep _ (hout' _)]; exact hsen)
    (Takes.of_laid hk hord tyC (by rw [Y.causeType]; rfl)) (Takes.of_laid hk hord tyS (by rw [Y.stackType]; exact fits_refV_array _ u0)) (Takes.of_laid hk hord tyP (by rw [Y.suppType]; exact fits_refV_object _ sen))
    (Takes.of_laid hk hord tyM (by rw [Y.msgType]; exact fits_refV_object _ ⟨msg, hmsg⟩)) Y.objLocals hskip htr [] hd6
    (by simp only [List.length_cons, hlen]; omega) (by simp only [List.length_cons, hlen]; exact hRlocals)
  obtain ⟨hwalk, hrun, hended, hWU, hsame⟩ := X₂.athrowLeaves hexec (g := { g with stack := .ref a :: rest, pc := g.pc + 3 }) hg hlocked hentered hout (a := a) (rest := rest) rfl hd9
  obtain ⟨c3, c4, hc3, hc4, hasg⟩ := Cond.castable_spec (a' (.castable cls cls) (by simp [Bundle.ownAtomsX]))
  cases Option.some.inj (hc3.symm.trans hfound)
  cases Option.some.inj (hc4.symm.trans hfound)
  have hlt : a < ((W.setVm vm₁).setVm vm₂).heap.size := (Array.getElem?_eq_some_iff.mp hcell).1
  have hU := heapAt_setCell_self (s := (W.setVm vm₁).setVm vm₂) (plainBareV T.toThrowableT (freshCell P1.m.cls kX) a u0 sen msg) hlt
  have hnM : T.fMsg.name = "detailMessage" := (State.fieldFound?_type hffM (t := .object "java/lang/String") (by decide +kernel)).1
  have nCS := Cond.laysApart hdC hdS hdnC hdnS (by rw [Y.causeName, Y.stackName]; decide)
  have nCP := Cond.laysApart hdC hdP hdnC hdnP (by rw [Y.causeName, Y.suppName]; decide)
  have nCM := Cond.laysApart hdC hdM hdnC hdnM (by rw [Y.causeName, hnM]; decide)
  have nSP := Cond.laysApart hdS hdP hdnS hdnP (by rw [Y.stackName, Y.suppName]; decide)
  have nSM := Cond.laysApart hdS hdM hdnS hdnM (by rw [Y.stackName, hnM]; decide)
  have nPM := Cond.laysApart hdP hdM hdnP hdnM (by rw [Y.suppName, hnM]; decide)
  have lC : T.fCause.slot < kX.instanceTypes.size := (Array.getElem?_eq_some_iff.mp tyC).1
  have lS : T.fStack.slot < kX.instanceTypes.size := (Array.getElem?_eq_some_iff.mp tyS).1
  have lP : T.fSupp.slot < kX.instanceTypes.size := (Array.getElem?_eq_some_iff.mp tyP).1
  have lM : T.fMsg.slot < kX.instanceTypes.size := (Array.getElem?_eq_some_iff.mp tyM).1
  have evU : ∀ o, (Term.static Bundle.tN "UNASSIGNED_STACK" Bundle.steD).eval args s o [] s = some u0.v := by
    intro o
    simp [Term.eval, State.fieldNamed?, Y.unassigned, L.unassignedStatic, L.statics, hcS0, hiss, hu0]
  have evS : ∀ o, (Term.static Bundle.tN "SUPPRESSED_SENTINEL" Bundle.listD).eval args s o [] s = some sen.v := by
    intro o
    simp [Term.eval, State.fieldNamed?, Y.sentinel, L.sentinelStatic, L.statics, hcS0, hiss, hsen]
  refine ⟨_, st1 _ (fun acts => ?_), hrun, hended, hWU, hsame.weaken (fun y hy hlt' => ?_) (Nat.le_refl _) (Nat.le_refl _), _, hU, ?_⟩
  · rw [doInvoke_state]
    exact st2 _ hwalk
  · rcases List.mem_append.mp hy with h1 | h1
    · exact h1
    · exfalso
      have hb : y.base = a := by
        simp only [List.mem_cons, List.not_mem_nil, or_false] at h1
        rcases h1 with rfl | rfl | rfl | rfl | rfl <;> rfl
      rw [hb] at hlt'
      exact Nat.not_lt.mpr hnew hlt'
  · exact { cls := hfound, self := hasg, monitor := rfl, hash := rfl, vm := rfl, size := by simp [plainBareV, preparedCellV, Cell.setSlot, hn6]
            cause := ⟨_, _, _, _, Y.cause, by simp [plainBareV, preparedCellV, Cell.setSlot, nCS.symm, nCP.symm, nCM.symm, lC]⟩
            stack := ⟨_, _, _, _, u0, Y.stack, by simp [plainBareV, preparedCellV, Cell.setSlot, nSM.symm, lS], evU⟩
            supp := ⟨_, _, _, _, sen, Y.supp, by simp [plainBareV, preparedCellV, Cell.setSlot, nSP, nPM.symm, lP], evS⟩
            msg := ⟨_, _, _, _, hffM, by simp [plainBareV, preparedCellV, Cell.setSlot, lM]⟩
            other := fun O f d c k i fd hf hy n1 n2 n3 n4 => by
              obtain ⟨ty, dd, hdd, hddn⟩ := Cond.laysAt hfound hk hf hy
              have m1 := Cond.laysApart hdd hdC hddn hdnC (by rw [Y.causeName]; exact n1)
              have m2 := Cond.laysApart hdd hdS hddn hdnS (by rw [Y.stackName]; exact n2)
              have m3 := Cond.laysApart hdd hdP hddn hdnP (by rw [Y.suppName]; exact n3)
              have m4 := Cond.laysApart hdd hdM hddn hdnM (by rw [hnM]; exact n4)
              have := fresh_default (c := P1.m.cls) ty
              simpa [plainBareV, preparedCellV, Cell.setSlot, Array.getElem?_setIfInBounds, m1, m2, m3, m4, m1.symm, m2.symm, m3.symm, m4.symm] using this }
end ZX
def z_atSX (own : String) (ic : Nat) (X : String) (ix : Nat) (rx : ByteArray) (names : List String) : List Cond := (Bundle.ownAtomsX own ic X ix rx names).filter vx_no
section ZE
variable {p : Program} {l : Launch} {e : Env} {R : Room} {s : State} {m : MethodId} {args : Array Value} {below : List Frame} {meth : Method} {c : Code} {H : Heap} {locs : List Loc} {cells slots : Nat} {Q : State → Prop}
variable {mc ms : Nat} {free : Addr → Prop} {A0 A1 : Nat → Prop} {H0 : Heap} {a : Array Value} {ls : Array Slot} {st0 rest : List Value}
variable {Qc : Array Value → State → Outcome → State → Prop} {XC : String → State → State → Prop}
theorem z_throwSXW {cc : ByteArray} {pc : Nat} (hexec : p.tables.exec = Jvm.exec) (hb : c.code = cc) (hl : l.stackTraces = false) {own cls text : String} {names : List String} {ik is ic ix mc ms sa : Nat} {rx : ByteArray} (x0 : decode rx 0 = .ok (.aload_n 0, 1)) (x1 : decode rx 1 = .ok (.aload_n 1, 1)) (x2 : decode rx 2 = .ok (.invokespecial ix, 3)) (x5 : decode rx 5 = .ok (.return_, 1)) {A : Nat → Prop}
    (hown : s.vm.findClass own = some m.cls) (hcls : Bundle.fit cls = true) (hnames : ∀ n ∈ names, Bundle.fit n = true)
    (hk : (Cond.classLink own ik cls).before args s = true) (hini : (Cond.initialized cls).before args s = true) (hstr : vk_R own is text sa s) (hat : ∀ w ∈ z_atSX own ic cls ix rx names, w.before args s = true)
    (hgood : ∀ w ∈ Cond.classLink own ik cls :: Cond.initialized cls :: z_atSX own ic cls ix rx names, vx_ot w = true)
    (hU : vx_Zq Bundle.tN "UNASSIGNED_STACK" Bundle.steD A s s.heap) (hN : vx_Zq Bundle.tN "SUPPRESSED_SENTINEL" Bundle.listD A s s.heap) (hS : va_S A s.heap H locs) (hsize : ls.size = c.maxLocals)
    (d0 : decode cc pc = .ok (.new ik, 3)) (d3 : decode cc (pc + 3) = .ok (.dup, 1)) (d4 : decode cc (pc + 4) = .ok (.ldc_w is, 3)) (d7 : decode cc (pc + 7) = .ok (.invokespecial ic, 3)) (d10 : decode cc (pc + 10) = .ok (.athrow, 1))
    (hout : ∀ x ∈ c.exceptionTable.toList, covers x (pc + 10) = false)
    (hRframes : names.length + 3 < R.frames) (hRlocals : (rest.map fun v => v.category).sum + (13 * (names.length + 1) + 43) ≤ R.locals) (hRcells : cells + 1 ≤ R.cells) (hRslots : slots + 6 ≤ R.slots) (hlocks : meth.locks = false)
    (hx : ∀ t : State, s.vm.Alike t.vm → H.size ≤ t.heap.size → (∀ q : Nat, q < H.size → t.heap[q]? = H[q]?) → XC cls s t)
    (hf : ∀ z ∈ locs, free z.base) (hc : cells + 1 ≤ mc) (hs : slots + 6 ≤ ms) :
    W p l e R s m args below meth c H locs cells slots (vx_MQ below Qc XC args s mc ms free) (F0 m pc ls rest) := by
  intro T hT X
  have htr : e.platform.stackTraces = false := (show e.platform.stackTraces = l.stackTraces by rw [X.admits.platform]).trans hl
  have Y := vx_rebase X (R' := { frames := R.frames, locals := R.locals, cells := 1, slots := 6 }) (Nat.le_refl _) (Nat.le_refl _) hRcells hRslots
  obtain ⟨s', hA⟩ : ∃ z, z = (T.setVm s.vm).setFrames (.invoking m args :: below) := ⟨_, rfl⟩
  rw [← hA] at Y
  have hvm : s'.vm = s.vm := by rw [hA]; rfl
  have hhp : s'.heap = H := by rw [hA]; exact hT
  have hW0 : s.WarmedH s'.vm := by rw [hvm]; exact State.WarmedH.refl s
  have hat' : ∀ w ∈ z_atSX own ic cls ix rx names, w.before args s' = true := fun w hw => vx_ot_at hW0 hvm.symm (hgood w (List.mem_cons_of_mem _ (List.mem_cons_of_mem _ hw))) (hat w hw)
  have hk' : (Cond.classLink own ik cls).before args s' = true := vx_ot_at hW0 hvm.symm (hgood _ List.mem_cons_self) hk
  have hini' : (Cond.initialized cls).before args s' = true := vx_ot_at hW0 hvm.symm (hgood _ (List.mem_cons_of_mem _ List.mem_cons_self)) hini
  have hU' : vx_Zq Bundle.tN "UNASSIGNED_STACK" Bundle.steD A s' s'.heap := by rw [hhp]; exact vx_Zq.moved hW0.alike (hU.kept hS.2.1)
  have hN' : vx_Zq Bundle.tN "SUPPRESSED_SENTINEL" Bundle.listD A s' s'.heap := by rw [hhp]; exact vx_Zq.moved hW0.alike (hN.kept hS.2.1)
  have h : ∀ w ∈ Bundle.ownAtomsX own ic cls ix rx names, w.before args s' = true := vx_own hat' (vx_isRefq hU'.1) (vx_isRefq hN'.1) hU'.2.word hN'.2.word
  have hown' : s'.vm.findClass own = some m.cls := by rw [hvm]; exact hown
  have hins : (Cond.instantiable cls 6).before args s' = true := h _ (by simp [Bundle.ownAtomsX])
  obtain ⟨vm₁, cX, kX, hfX, hkX, -, -, X₁, st1⟩ := Y.newCold hexec (own := own) (C := cls) (index := ik) (n := 6) hown' hk' hins hini'
    (g := F0 m pc ls rest) rfl (by rw [hb]; exact d0) (Nat.le_refl _) (Nat.le_refl _)
  generalize hT1 : (T.setVm vm₁).pushCell { cls := cX, slots := kX.instanceTypes.map defaultValue, vm := .none } = T1 at X₁ st1
  have hcat : (Value.ref T.heap.size).category = 1 := rfl
  have hcellA : T1.heap[T.heap.size]? = some (freshCell cX kX) := by rw [← hT1]; exact State.heap_pushCell_size _ _
  have d3' : decode c.code (pc + 3) = .ok (.dup, 1) := by rw [hb]; exact d3
  have d4' : decode c.code (pc + 4) = .ok (.ldc_w is, 3) := by rw [hb]; exact d4
  have hstr' : vk_R own is text sa s' := vk_R.warm hW0 hstr
  obtain ⟨U, hsteps, hrun, hend, hW, hsame, ce, hce, hO⟩ := z_ctorThrowSX X₁ hexec htr x0 x1 x2 x5 (own := own) (cls := cls) (names := names) (ic := ic) hown' hcls hnames h (fun x hx => nomatch hx) hfX hkX hcellA (by rw [hhp, hT]; exact Nat.le_refl _) (msg := .ref sa) rfl
    (g := { method := m, pc := pc + 7, locals := ls, stack := .ref sa :: .ref T.heap.size :: .ref T.heap.size :: rest, locked := none }) rfl hsize rfl rfl (rest := rest) rfl
    (by rw [hb]; exact d7) (by rw [hb]; exact d10) hout hRframes (by simp only [List.map_cons, List.sum_cons, hcat]; omega) hlocks
  obtain ⟨f1, f2⟩ := vx_frame hsame
  rw [hhp] at f1 f2
  have hWs : s.WarmedH U.vm := State.WarmedH.trans hW0 hW
  have hcl : s.vm.findClass cls = some ce.cls := by
    have h9 := hO.cls
    rw [hvm] at h9
    exact h9
  have hall : s.sameButNew ({ U with vm := s.vm } : State) locs mc ms := by
    subst hA
    obtain ⟨e1, e2⟩ := hsame
    rw [State.setFrames_setFrames] at e1
    have h2 : (T.setVm s.vm).sameButNew ({ U with vm := s.vm } : State) [] (0 + 1) (0 + 6) := ⟨e1, e2⟩
    have h3 := X.same.trans h2
    rw [List.append_nil] at h3
    exact h3.mono hc hs
  refine ⟨U, ?_, .threw T.heap.size, hrun, hend, Or.inr ⟨T.heap.size, rfl, cls, ce, locs, hx U hWs.alike f1 (fun q hq => f2 q hq (fun z hz => nomatch hz)), hce, hO.vm, hcl, hWs, hall, hf⟩⟩
  refine st1 _ ?_
  show Steps p.tables e below (T1.setTop { method := m, pc := pc + 3, locals := ls, stack := .ref T.heap.size :: rest, locked := none }) _
  jvm_step X₁.here [X₁.here.top, hexec, d3', Value.category]
  exact X₁.ldcStringW hexec (own := own) (text := text) (index := is) (a := sa) hown' hstr'.1 hstr'.2
    (g := { method := m, pc := pc + 4, locals := ls, stack := .ref T.heap.size :: .ref T.heap.size :: rest, locked := none }) rfl d4' _ hsteps
end ZE
theorem zatX {own cls : String} {ic ix : Nat} {rx : ByteArray} (h1 : ∀ w ∈ (z_atSX own ic cls ix rx zNm).filter goodWord, w ∈ lw_tbl) (h2 : ∀ w ∈ (z_atSX own ic cls ix rx zNm).filter (fun w => !goodWord w), w ∈ lw_face) : ∀ w ∈ z_atSX own ic cls ix rx zNm, w ∈ lw_good ∨ w ∈ lw_face := fun w hw => by
  by_cases g : goodWord w = true
  · exact Or.inl (List.mem_filter.mpr ⟨h1 w (List.mem_filter.mpr ⟨hw, g⟩), g⟩)
  · exact Or.inr (h2 w (List.mem_filter.mpr ⟨hw, by simp [g]⟩))
theorem zatX_at {own cls : String} {ic ix : Nat} {rx : ByteArray} {args : Array Value} {s : State} (h : ∀ w ∈ z_atSX own ic cls ix rx zNm, w ∈ lw_good ∨ w ∈ lw_face) (hg : ∀ w ∈ lw_good, w.before args s = true) (hF : zFs s) : ∀ w ∈ z_atSX own ic cls ix rx zNm, w.before args s = true := fun w hw => (h w hw).elim (hg w) fun hf => va_Nw.use (zF_tables hf) (hF w hf)
abbrev zrx : ByteArray := prog_40_method_4_code
theorem zrx_0 : decode zrx 0 = .ok (.aload_n 0, 1) := by decide +kernel
theorem zrx_1 : decode zrx 1 = .ok (.aload_n 1, 1) := by decide +kernel
theorem zrx_2 : decode zrx 2 = .ok (.invokespecial 13, 3) := by decide +kernel
theorem zrx_5 : decode zrx 5 = .ok (.return_, 1) := by decide +kernel
theorem zatX_NSE : ∀ w ∈ z_atSX RX8 152 "java/util/NoSuchElementException" 13 zrx zNm, w ∈ lw_good ∨ w ∈ lw_face := zatX (by decide +kernel) (by decide +kernel)
theorem zgoX_NSE : ∀ w ∈ Cond.classLink RX8 148 "java/util/NoSuchElementException" :: Cond.initialized "java/util/NoSuchElementException" :: z_atSX RX8 152 "java/util/NoSuchElementException" 13 zrx zNm, vx_ot w = true := by decide +kernel
end
section
theorem in_Jx4a65c : ∀ w ∈ u_ws RJx4a65c TJx4a65c 3, w ∈ lw_good := by decide +kernel
theorem in_X8 : ∀ w ∈ u_ws RX8 TX8 10, w ∈ lw_good := by decide +kernel
theorem q1 : Cond.initialized "Watermarkmill" ∈ lw_good := lw_in (i := 1) (by decide +kernel) (by decide +kernel)
theorem q1009 : Cond.code yX8_imageAt prog_1_method_51_code 2 (Option.some (Jvm.ClassFile.FieldType.object "Watermarkmill$Image")) ∈ lw_good := lw_in (i := 1009) (by decide +kernel) (by decide +kernel)
theorem q11 : Cond.initialized "java/lang/IllegalArgumentException" ∈ lw_good := lw_in (i := 11) (by decide +kernel) (by decide +kernel)
theorem q125 : Cond.fieldLink "Watermarkmill" 12 "Watermarkmill" "moulds" "Ljava/util/ArrayList;" ∈ lw_good := lw_in (i := 125) (by decide +kernel) (by decide +kernel)
theorem q126 : Cond.fieldLink "Watermarkmill" 16 "Watermarkmill" "lots" "Ljava/util/ArrayList;" ∈ lw_good := lw_in (i := 126) (by decide +kernel) (by decide +kernel)
theorem q127 : Cond.fieldLink "Watermarkmill" 19 "Watermarkmill" "reams" "Ljava/util/ArrayList;" ∈ lw_good := lw_in (i := 127) (by decide +kernel) (by decide +kernel)
theorem q128 : Cond.fieldLink "Watermarkmill" 22 "Watermarkmill" "documents" "Ljava/util/ArrayList;" ∈ lw_good := lw_in (i := 128) (by decide +kernel) (by decide +kernel)
theorem q129 : Cond.fieldLink "Watermarkmill" 25 "Watermarkmill" "images" "Ljava/util/ArrayList;" ∈ lw_good := lw_in (i := 129) (by decide +kernel) (by decide +kernel)
theorem q160 : Cond.methodLink "Watermarkmill" 57 yJx4a65c_size_8abf5 ∈ lw_good := lw_in (i := 160) (by decide +kernel) (by decide +kernel)
theorem q161 : Cond.instanceMethod yJx4a65c_size_8abf5 ∈ lw_good := lw_in (i := 161) (by decide +kernel) (by decide +kernel)
theorem q162 : Cond.selects "java/util/ArrayList" yJx4a65c_size_8abf5 yJx4a65c_size_8abf5 ∈ lw_good := lw_in (i := 162) (by decide +kernel) (by decide +kernel)
theorem q163 : Cond.code yJx4a65c_size_8abf5 prog_34_method_8_code 1 (Option.some Jvm.ClassFile.FieldType.int) ∈ lw_good := lw_in (i := 163) (by decide +kernel) (by decide +kernel)
theorem q19 : Cond.initialized "java/lang/IndexOutOfBoundsException" ∈ lw_good := lw_in (i := 19) (by decide +kernel) (by decide +kernel)
theorem q308 : Cond.methodLink "Watermarkmill" 53 yX8_checkRange ∈ lw_good := lw_in (i := 308) (by decide +kernel) (by decide +kernel)
theorem q309 : Cond.static yX8_checkRange ∈ lw_good := lw_in (i := 309) (by decide +kernel) (by decide +kernel)
theorem q310 : Cond.code yX8_checkRange prog_1_method_52_code 3 (Option.none : Option Jvm.ClassFile.FieldType) ∈ lw_good := lw_in (i := 310) (by decide +kernel) (by decide +kernel)
theorem q311 : Cond.classLink "Watermarkmill" 84 "java/lang/IllegalArgumentException" ∈ lw_good := lw_in (i := 311) (by decide +kernel) (by decide +kernel)
theorem q4 : Cond.initialized "java/util/ArrayList" ∈ lw_good := lw_in (i := 4) (by decide +kernel) (by decide +kernel)
theorem q549 : Cond.code yX8_mouldAt prog_1_method_47_code 2 (Option.some (Jvm.ClassFile.FieldType.object "Watermarkmill$Mould")) ∈ lw_good := lw_in (i := 549) (by decide +kernel) (by decide +kernel)
theorem q550 : Cond.classLink "Watermarkmill" 387 "java/lang/IndexOutOfBoundsException" ∈ lw_good := lw_in (i := 550) (by decide +kernel) (by decide +kernel)
theorem q597 : Cond.code yX8_checkYear prog_1_method_53_code 1 (Option.none : Option Jvm.ClassFile.FieldType) ∈ lw_good := lw_in (i := 597) (by decide +kernel) (by decide +kernel)
theorem q62 : Cond.fieldLink "java/util/ArrayList" 48 "java/util/ArrayList" "size" "I" ∈ lw_good := lw_in (i := 62) (by decide +kernel) (by decide +kernel)
theorem q765 : Cond.code yX8_reamAt prog_1_method_49_code 2 (Option.some (Jvm.ClassFile.FieldType.object "Watermarkmill$Ream")) ∈ lw_good := lw_in (i := 765) (by decide +kernel) (by decide +kernel)
theorem q770 : Cond.code yX8_lotAt prog_1_method_48_code 2 (Option.some (Jvm.ClassFile.FieldType.object "Watermarkmill$Lot")) ∈ lw_good := lw_in (i := 770) (by decide +kernel) (by decide +kernel)
theorem q863 : Cond.code yX8_documentAt prog_1_method_50_code 2 (Option.some (Jvm.ClassFile.FieldType.object "Watermarkmill$Document")) ∈ lw_good := lw_in (i := 863) (by decide +kernel) (by decide +kernel)
theorem qstr1010 : Cond.stringRef "Watermarkmill" 398 "no such image" ∈ tables_1 := List.mem_of_getElem? (i := 1010) (by decide +kernel)
theorem qstr356 : Cond.stringRef "Watermarkmill" 400 "a number is out of range" ∈ tables_1 := List.mem_of_getElem? (i := 356) (by decide +kernel)
theorem qstr559 : Cond.stringRef "Watermarkmill" 389 "no such mould" ∈ tables_1 := List.mem_of_getElem? (i := 559) (by decide +kernel)
theorem qstr766 : Cond.stringRef "Watermarkmill" 394 "no such ream" ∈ tables_1 := List.mem_of_getElem? (i := 766) (by decide +kernel)
theorem qstr771 : Cond.stringRef "Watermarkmill" 392 "no such lot" ∈ tables_1 := List.mem_of_getElem? (i := 771) (by decide +kernel)
theorem qstr864 : Cond.stringRef "Watermarkmill" 396 "no such document" ∈ tables_1 := List.mem_of_getElem? (i := 864) (by decide +kernel)
theorem zat_X8_391 : ∀ w ∈ vx_atS RX8 391 "java/lang/IndexOutOfBoundsException" zNm, w ∈ lw_good ∨ w ∈ lw_face := zat (by decide +kernel) (by decide +kernel)
theorem zat_X8_88 : ∀ w ∈ vx_atS RX8 88 "java/lang/IllegalArgumentException" zNm, w ∈ lw_good ∨ w ∈ lw_face := zat (by decide +kernel) (by decide +kernel)
theorem zgo_X8_391_387 : ∀ w ∈ Cond.classLink RX8 387 "java/lang/IndexOutOfBoundsException" :: Cond.initialized "java/lang/IndexOutOfBoundsException" :: vx_atS RX8 391 "java/lang/IndexOutOfBoundsException" zNm, vx_ot w = true := by decide +kernel
theorem zgo_X8_88_84 : ∀ w ∈ Cond.classLink RX8 84 "java/lang/IllegalArgumentException" :: Cond.initialized "java/lang/IllegalArgumentException" :: vx_atS RX8 88 "java/lang/IllegalArgumentException" zNm, vx_ot w = true := by decide +kernel
theorem dJx4a65c_size_8abf5_0 : decode cJx4a65c_size_8abf5 0 = .ok (.aload_n 0, 1) := by decide +kernel
theorem dJx4a65c_size_8abf5_1 : decode cJx4a65c_size_8abf5 1 = .ok (.getfield 48, 3) := by decide +kernel
theorem dJx4a65c_size_8abf5_4 : decode cJx4a65c_size_8abf5 4 = .ok (.ireturn, 1) := by decide +kernel
theorem dX8_checkRange_0 : decode cX8_checkRange 0 = .ok (.iload_n 0, 1) := by decide +kernel
theorem dX8_checkRange_1 : decode cX8_checkRange 1 = .ok (.iload_n 1, 1) := by decide +kernel
theorem dX8_checkRange_10 : decode cX8_checkRange 10 = .ok (.new 84, 3) := by decide +kernel
theorem dX8_checkRange_13 : decode cX8_checkRange 13 = .ok (.dup, 1) := by decide +kernel
theorem dX8_checkRange_14 : decode cX8_checkRange 14 = .ok (.ldc_w 400, 3) := by decide +kernel
theorem dX8_checkRange_17 : decode cX8_checkRange 17 = .ok (.invokespecial 88, 3) := by decide +kernel
theorem dX8_checkRange_2 : decode cX8_checkRange 2 = .ok (.if_icmp .lt 8, 3) := by decide +kernel
theorem dX8_checkRange_20 : decode cX8_checkRange 20 = .ok (.athrow, 1) := by decide +kernel
theorem dX8_checkRange_21 : decode cX8_checkRange 21 = .ok (.return_, 1) := by decide +kernel
theorem dX8_checkRange_5 : decode cX8_checkRange 5 = .ok (.iload_n 0, 1) := by decide +kernel
theorem dX8_checkRange_6 : decode cX8_checkRange 6 = .ok (.iload_n 2, 1) := by decide +kernel
theorem dX8_checkRange_7 : decode cX8_checkRange 7 = .ok (.if_icmp .le 14, 3) := by decide +kernel
theorem dX8_checkYear_0 : decode cX8_checkYear 0 = .ok (.iload_n 0, 1) := by decide +kernel
theorem dX8_checkYear_1 : decode cX8_checkYear 1 = .ok (.sipush 1400, 3) := by decide +kernel
theorem dX8_checkYear_10 : decode cX8_checkYear 10 = .ok (.return_, 1) := by decide +kernel
theorem dX8_checkYear_4 : decode cX8_checkYear 4 = .ok (.sipush 1900, 3) := by decide +kernel
theorem dX8_checkYear_7 : decode cX8_checkYear 7 = .ok (.invokestatic 53, 3) := by decide +kernel
theorem dX8_documentAt_0 : decode cX8_documentAt 0 = .ok (.iload_n 1, 1) := by decide +kernel
theorem dX8_documentAt_1 : decode cX8_documentAt 1 = .ok (.ifCond .lt 14, 3) := by decide +kernel
theorem dX8_documentAt_12 : decode cX8_documentAt 12 = .ok (.if_icmp .lt 14, 3) := by decide +kernel
theorem dX8_documentAt_15 : decode cX8_documentAt 15 = .ok (.new 387, 3) := by decide +kernel
theorem dX8_documentAt_18 : decode cX8_documentAt 18 = .ok (.dup, 1) := by decide +kernel
theorem dX8_documentAt_19 : decode cX8_documentAt 19 = .ok (.ldc_w 396, 3) := by decide +kernel
theorem dX8_documentAt_22 : decode cX8_documentAt 22 = .ok (.invokespecial 391, 3) := by decide +kernel
theorem dX8_documentAt_25 : decode cX8_documentAt 25 = .ok (.athrow, 1) := by decide +kernel
theorem dX8_documentAt_4 : decode cX8_documentAt 4 = .ok (.iload_n 1, 1) := by decide +kernel
theorem dX8_documentAt_5 : decode cX8_documentAt 5 = .ok (.aload_n 0, 1) := by decide +kernel
theorem dX8_documentAt_6 : decode cX8_documentAt 6 = .ok (.getfield 22, 3) := by decide +kernel
theorem dX8_documentAt_9 : decode cX8_documentAt 9 = .ok (.invokevirtual 57, 3) := by decide +kernel
theorem dX8_imageAt_0 : decode cX8_imageAt 0 = .ok (.iload_n 1, 1) := by decide +kernel
theorem dX8_imageAt_1 : decode cX8_imageAt 1 = .ok (.ifCond .lt 14, 3) := by decide +kernel
theorem dX8_imageAt_12 : decode cX8_imageAt 12 = .ok (.if_icmp .lt 14, 3) := by decide +kernel
theorem dX8_imageAt_15 : decode cX8_imageAt 15 = .ok (.new 387, 3) := by decide +kernel
theorem dX8_imageAt_18 : decode cX8_imageAt 18 = .ok (.dup, 1) := by decide +kernel
theorem dX8_imageAt_19 : decode cX8_imageAt 19 = .ok (.ldc_w 398, 3) := by decide +kernel
theorem dX8_imageAt_22 : decode cX8_imageAt 22 = .ok (.invokespecial 391, 3) := by decide +kernel
theorem dX8_imageAt_25 : decode cX8_imageAt 25 = .ok (.athrow, 1) := by decide +kernel
theorem dX8_imageAt_4 : decode cX8_imageAt 4 = .ok (.iload_n 1, 1) := by decide +kernel
theorem dX8_imageAt_5 : decode cX8_imageAt 5 = .ok (.aload_n 0, 1) := by decide +kernel
theorem dX8_imageAt_6 : decode cX8_imageAt 6 = .ok (.getfield 25, 3) := by decide +kernel
theorem dX8_imageAt_9 : decode cX8_imageAt 9 = .ok (.invokevirtual 57, 3) := by decide +kernel
theorem dX8_lotAt_0 : decode cX8_lotAt 0 = .ok (.iload_n 1, 1) := by decide +kernel
theorem dX8_lotAt_1 : decode cX8_lotAt 1 = .ok (.ifCond .lt 14, 3) := by decide +kernel
theorem dX8_lotAt_12 : decode cX8_lotAt 12 = .ok (.if_icmp .lt 14, 3) := by decide +kernel
theorem dX8_lotAt_15 : decode cX8_lotAt 15 = .ok (.new 387, 3) := by decide +kernel
theorem dX8_lotAt_18 : decode cX8_lotAt 18 = .ok (.dup, 1) := by decide +kernel
theorem dX8_lotAt_19 : decode cX8_lotAt 19 = .ok (.ldc_w 392, 3) := by decide +kernel
theorem dX8_lotAt_22 : decode cX8_lotAt 22 = .ok (.invokespecial 391, 3) := by decide +kernel
theorem dX8_lotAt_25 : decode cX8_lotAt 25 = .ok (.athrow, 1) := by decide +kernel
theorem dX8_lotAt_4 : decode cX8_lotAt 4 = .ok (.iload_n 1, 1) := by decide +kernel
theorem dX8_lotAt_5 : decode cX8_lotAt 5 = .ok (.aload_n 0, 1) := by decide +kernel
theorem dX8_lotAt_6 : decode cX8_lotAt 6 = .ok (.getfield 16, 3) := by decide +kernel
theorem dX8_lotAt_9 : decode cX8_lotAt 9 = .ok (.invokevirtual 57, 3) := by decide +kernel
theorem dX8_mouldAt_0 : decode cX8_mouldAt 0 = .ok (.iload_n 1, 1) := by decide +kernel
theorem dX8_mouldAt_1 : decode cX8_mouldAt 1 = .ok (.ifCond .lt 14, 3) := by decide +kernel
theorem dX8_mouldAt_12 : decode cX8_mouldAt 12 = .ok (.if_icmp .lt 14, 3) := by decide +kernel
theorem dX8_mouldAt_15 : decode cX8_mouldAt 15 = .ok (.new 387, 3) := by decide +kernel
theorem dX8_mouldAt_18 : decode cX8_mouldAt 18 = .ok (.dup, 1) := by decide +kernel
theorem dX8_mouldAt_19 : decode cX8_mouldAt 19 = .ok (.ldc_w 389, 3) := by decide +kernel
theorem dX8_mouldAt_22 : decode cX8_mouldAt 22 = .ok (.invokespecial 391, 3) := by decide +kernel
theorem dX8_mouldAt_25 : decode cX8_mouldAt 25 = .ok (.athrow, 1) := by decide +kernel
theorem dX8_mouldAt_4 : decode cX8_mouldAt 4 = .ok (.iload_n 1, 1) := by decide +kernel
theorem dX8_mouldAt_5 : decode cX8_mouldAt 5 = .ok (.aload_n 0, 1) := by decide +kernel
theorem dX8_mouldAt_6 : decode cX8_mouldAt 6 = .ok (.getfield 12, 3) := by decide +kernel
theorem dX8_mouldAt_9 : decode cX8_mouldAt 9 = .ok (.invokevirtual 57, 3) := by decide +kernel
theorem dX8_reamAt_0 : decode cX8_reamAt 0 = .ok (.iload_n 1, 1) := by decide +kernel
theorem dX8_reamAt_1 : decode cX8_reamAt 1 = .ok (.ifCond .lt 14, 3) := by decide +kernel
theorem dX8_reamAt_12 : decode cX8_reamAt 12 = .ok (.if_icmp .lt 14, 3) := by decide +kernel
theorem dX8_reamAt_15 : decode cX8_reamAt 15 = .ok (.new 387, 3) := by decide +kernel
theorem dX8_reamAt_18 : decode cX8_reamAt 18 = .ok (.dup, 1) := by decide +kernel
theorem dX8_reamAt_19 : decode cX8_reamAt 19 = .ok (.ldc_w 394, 3) := by decide +kernel
theorem dX8_reamAt_22 : decode cX8_reamAt 22 = .ok (.invokespecial 391, 3) := by decide +kernel
theorem dX8_reamAt_25 : decode cX8_reamAt 25 = .ok (.athrow, 1) := by decide +kernel
theorem dX8_reamAt_4 : decode cX8_reamAt 4 = .ok (.iload_n 1, 1) := by decide +kernel
theorem dX8_reamAt_5 : decode cX8_reamAt 5 = .ok (.aload_n 0, 1) := by decide +kernel
theorem dX8_reamAt_6 : decode cX8_reamAt 6 = .ok (.getfield 19, 3) := by decide +kernel
theorem dX8_reamAt_9 : decode cX8_reamAt 9 = .ok (.invokevirtual 57, 3) := by decide +kernel
abbrev wz_Jx4a65c_size_8abf5 : List Cond := .code yJx4a65c_size_8abf5 cJx4a65c_size_8abf5 1 (Option.some Jvm.ClassFile.FieldType.int) :: lw_good
set_option maxHeartbeats 4000000 in
set_option maxRecDepth 100000 in
/-- size() -/
theorem k_Jx4a65c_size_8abf5 (l : Launch) (G : va_G) (z : Nat) (h0 : Nat) (c0 : Int32) (e0 : Nat) (n0 : Int32) (sz : Nat)  : Met l yJx4a65c_size_8abf5 wz_Jx4a65c_size_8abf5 ({ frames := 0, cells := 0, slots := 0, locals := 0 }) (va_Pc [.ref h0] (PR G z [(h0, .inr (3, [.int c0, .ref e0, .int n0]))] [] sz)) (va_Qi (fun (r : Int32) (_ : Unit) => r = n0) (fun (_ : Unit) (_ : State) => True) (zN sz)) 0 0 (zN sz) := by
  refine va_MetF (cc := cJx4a65c_size_8abf5) (maxL := 1) (ret := (Option.some Jvm.ClassFile.FieldType.int)) (by decide) rfl ?_
  intro p e s m args below meth c s₁ B hml hv
  obtain ⟨rfl, rfl, hP, hK, hG⟩ := hv
  have hx := B.exec
  have hb := B.bytes
  have hr := B.returns
  have hts := atoms_spec (ws := wz_Jx4a65c_size_8abf5) B.pre
  have hg : ∀ w ∈ lw_good, w.before _ s = true := fun w h => hts w (List.mem_cons_of_mem _ h)
  have hown : s.vm.findClass RJx4a65c = some m.cls := findClass_of_methodNamed B.named
  have hlocks := B.notSynchronized
  have hA : ∀ q : Nat, s.heap.size ≤ q → zN s.heap.size q := fun _ h => h
  have hS : va_S (zN s.heap.size) s.heap s.heap [] := va_S.rf
  have hl := lv_entry ([.ref h0]) (n := 1) (Nat.le_of_ble_eq_true rfl)
  rw [lg_entry_eq]
  generalize (lg_sl ([.ref h0]) ++ List.replicate (1 - (lg_sl ([.ref h0])).length) Slot.unset).toArray = ls at hl ⊢
  have hl : lv_has ls 1 [(0, .ref h0)] := hl
  refine lv_aload_n hx hb dJx4a65c_size_8abf5_0 rfl (lv_at hl 0 rfl) ?_
  refine va_get (D := G) (ci := 3) (v := .int n0) (C := RJx4a65c) (T := TJx4a65c) (N := 3) hx hb hg in_Jx4a65c hown hK hP 0 rfl rfl 2 (by decide) (hg _ q62) (fun _ h9 => h9) rfl dJx4a65c_size_8abf5_1 ?_
  refine W.widen (k := 0) (n := 0) (Nat.le_of_ble_eq_true rfl) (Nat.le_of_ble_eq_true rfl) ?_
  exact W.iret (v := n0) hx hb hr (fun t ht hW => ⟨⟨n0, (), rfl, rfl, trivial⟩, hS.F ht⟩) hS.2.2 dJx4a65c_size_8abf5_4

abbrev wz_X8_checkRange : List Cond := .code yX8_checkRange cX8_checkRange 3 none :: lw_good
set_option maxHeartbeats 4000000 in
set_option maxRecDepth 100000 in
/-- checkRange -/
theorem k_X8_checkRange (l : Launch) (hfl : l.stackTraces = false) (G : va_G) (z : Nat) (p0 : Int32) (p1 : Int32) (p2 : Int32) (sz : Nat)  : vx_Met l yX8_checkRange wz_X8_checkRange ({ frames := 6, cells := 1, slots := 6, locals := 82 }) (va_Pc [.int p0, .int p1, .int p2] (PR G z [] [] sz)) (va_Qv (fun (_ : Unit) => p1 ≤ p0 ∧ p0 ≤ p2) (fun (_ : Unit) (_ : State) => True) (zN sz)) (zX (¬ (p1 ≤ p0 ∧ p0 ≤ p2)) "java/lang/IllegalArgumentException" (zN sz)) 1 6 (zN sz) := by
  refine vx_ofW (cc := cX8_checkRange) (maxL := 3) (ret := none) (by decide) rfl ?_
  intro p e s m args below meth c s₁ B hml htab hv
  obtain ⟨rfl, rfl, hP, hK, hG⟩ := hv
  have hx := B.exec
  have hb := B.bytes
  have hr := B.returns
  have hts := atoms_spec (ws := wz_X8_checkRange) B.pre
  have hg : ∀ w ∈ lw_good, w.before _ s = true := fun w h => hts w (List.mem_cons_of_mem _ h)
  have hown : s.vm.findClass RX8 = some m.cls := findClass_of_methodNamed B.named
  have hlocks := B.notSynchronized
  have hA : ∀ q : Nat, s.heap.size ≤ q → zN s.heap.size q := fun _ h => h
  have hS : va_S (zN s.heap.size) s.heap s.heap [] := va_S.rf
  have hl := lv_entry ([.int p0, .int p1, .int p2]) (n := 3) (Nat.le_of_ble_eq_true rfl)
  rw [lg_entry_eq]
  generalize (lg_sl ([.int p0, .int p1, .int p2]) ++ List.replicate (3 - (lg_sl ([.int p0, .int p1, .int p2])).length) Slot.unset).toArray = ls at hl ⊢
  have hl : lv_has ls 3 [(0, .int p0), (1, .int p1), (2, .int p2)] := hl
  refine lv_iload_n hx hb dX8_checkRange_0 rfl (lv_at hl 0 rfl) ?_
  refine lv_iload_n hx hb dX8_checkRange_1 rfl (lv_at hl 1 rfl) ?_
  refine lv_icmp_lt (tgt := 10) hx hb dX8_checkRange_2 (by decide) (fun c_1 => ?_) (fun c_1 => ?_)
  · obtain ⟨sa9, hsa9⟩ := hG.2.2.2.2.2.1 _ _ _ qstr356
    exact vx_throwSW (names := zNm) hx hb hfl hown (by decide +kernel) (by decide +kernel) (hg _ q311) (hg _ q11) hsa9 (zat_at zat_X8_88 hg hG.2.2.2.2.1) zgo_X8_88_84 hG.1 hG.2.1 hS (by rw [hml]; exact hl.1) dX8_checkRange_10 dX8_checkRange_13 dX8_checkRange_14 dX8_checkRange_17 dX8_checkRange_20 (fun x9 h9 => (htab x9 h9).elim) (Nat.le_of_ble_eq_true rfl) (Nat.le_of_ble_eq_true rfl) (Nat.le_of_ble_eq_true rfl) (Nat.le_of_ble_eq_true rfl) hlocks (fun t9 _ h1 h2 => zX.grown (fun h9 => absurd c_1 (Int32.not_lt.mpr h9.1)) hS h1 h2) hS.2.2 (Nat.le_of_ble_eq_true rfl) (Nat.le_of_ble_eq_true rfl)
  · refine lv_iload_n hx hb dX8_checkRange_5 rfl (lv_at hl 0 rfl) ?_
    refine lv_iload_n hx hb dX8_checkRange_6 rfl (lv_at hl 2 rfl) ?_
    refine lv_icmp_le (tgt := 21) hx hb dX8_checkRange_7 (by decide) (fun c_2 => ?_) (fun c_2 => ?_)
    · refine W.widen (k := 1) (n := 6) (Nat.le_of_ble_eq_true rfl) (Nat.le_of_ble_eq_true rfl) ?_
      refine vx_ret ?_
      exact W.vret hx hb hr (fun t ht hW => ⟨⟨(), rfl, ⟨Int32.not_lt.mp c_1, c_2⟩, trivial⟩, hS.F ht⟩) hS.2.2 dX8_checkRange_21
    · obtain ⟨sa9, hsa9⟩ := hG.2.2.2.2.2.1 _ _ _ qstr356
      exact vx_throwSW (names := zNm) hx hb hfl hown (by decide +kernel) (by decide +kernel) (hg _ q311) (hg _ q11) hsa9 (zat_at zat_X8_88 hg hG.2.2.2.2.1) zgo_X8_88_84 hG.1 hG.2.1 hS (by rw [hml]; exact hl.1) dX8_checkRange_10 dX8_checkRange_13 dX8_checkRange_14 dX8_checkRange_17 dX8_checkRange_20 (fun x9 h9 => (htab x9 h9).elim) (Nat.le_of_ble_eq_true rfl) (Nat.le_of_ble_eq_true rfl) (Nat.le_of_ble_eq_true rfl) (Nat.le_of_ble_eq_true rfl) hlocks (fun t9 _ h1 h2 => zX.grown (fun h9 => absurd h9.2 c_2) hS h1 h2) hS.2.2 (Nat.le_of_ble_eq_true rfl) (Nat.le_of_ble_eq_true rfl)

abbrev wz_X8_checkYear : List Cond := .code yX8_checkYear cX8_checkYear 1 none :: lw_good
set_option maxHeartbeats 4000000 in
set_option maxRecDepth 100000 in
/-- checkYear -/
theorem k_X8_checkYear (l : Launch) (hfl : l.stackTraces = false) (G : va_G) (z : Nat) (p0 : Int32) (sz : Nat)  : vx_Met l yX8_checkYear wz_X8_checkYear ({ frames := 7, cells := 1, slots := 6, locals := 104 }) (va_Pc [.int p0] (PR G z [] [] sz)) (va_Qv (fun (_ : Unit) => 1400 ≤ p0 ∧ p0 ≤ 1900) (fun (_ : Unit) (_ : State) => True) (zN sz)) (zX (¬ (1400 ≤ p0 ∧ p0 ≤ 1900)) "java/lang/IllegalArgumentException" (zN sz)) 1 6 (zN sz) := by
  refine vx_ofW (cc := cX8_checkYear) (maxL := 1) (ret := none) (by decide) rfl ?_
  intro p e s m args below meth c s₁ B hml htab hv
  obtain ⟨rfl, rfl, hP, hK, hG⟩ := hv
  have hx := B.exec
  have hb := B.bytes
  have hr := B.returns
  have hts := atoms_spec (ws := wz_X8_checkYear) B.pre
  have hg : ∀ w ∈ lw_good, w.before _ s = true := fun w h => hts w (List.mem_cons_of_mem _ h)
  have hown : s.vm.findClass RX8 = some m.cls := findClass_of_methodNamed B.named
  have hlocks := B.notSynchronized
  have hA : ∀ q : Nat, s.heap.size ≤ q → zN s.heap.size q := fun _ h => h
  have hS : va_S (zN s.heap.size) s.heap s.heap [] := va_S.rf
  have hl := lv_entry ([.int p0]) (n := 1) (Nat.le_of_ble_eq_true rfl)
  rw [lg_entry_eq]
  generalize (lg_sl ([.int p0]) ++ List.replicate (1 - (lg_sl ([.int p0])).length) Slot.unset).toArray = ls at hl ⊢
  have hl : lv_has ls 1 [(0, .int p0)] := hl
  refine lv_iload_n hx hb dX8_checkYear_0 rfl (lv_at hl 0 rfl) ?_
  refine lv_sipush (v := 1400) hx hb dX8_checkYear_1 (by decide) ?_
  refine lv_sipush (v := 1900) hx hb dX8_checkYear_4 (by decide) ?_
  have hPc := hP.sub (ws' := []) [] rfl
  have hKc := hK.sub (tys' := []) [] rfl
  refine vx_callv (vx_runS (As := [.int p0, .int 1400, .int 1900]) (rest := []) ⟨hx, hb, hml, hown, hts⟩ (k_X8_checkRange l hfl G z p0 1400 1900 s.heap.size ) (va_cwS 3 hts (lw_goodApp (lw_3 q308 q309 q1) q310) rfl rfl rfl (by decide +kernel) ⟨Nat.le_of_ble_eq_true rfl, Nat.le_of_ble_eq_true rfl⟩) ⟨PR.blind, PR.of hPc hKc hG hS hA [.int p0, .int 1400, .int 1900]⟩ rfl rfl hl.1 rfl (lv_room (Nat.le_of_ble_eq_true rfl)) dX8_checkYear_7 ⟨Nat.le_of_ble_eq_true rfl, Nat.le_of_ble_eq_true rfl⟩) hS (fun q h9 h => zN.not h9 h) (fun q h => hA q (Nat.le_trans hS.1 h)) (fun q h9 h => zN.not h9 h) (fun E ce q9 ux t_4 H_1 locs ht hvm px_5 hE hz1 hk1 hS hq9 hv9 hcl9 => ?_) (fun u t_4 H_1 locs ht hvm hw_3 hB hz1 hk1 hS => ?_)
  · exact vx_out (fun x9 h9 => (htab x9 h9).elim) hlocks hq9 hv9 hcl9 (fun t2 ht2 hal2 => zX.same px_5 hE hS ht2) hS.2.2 (Nat.le_of_ble_eq_true rfl) (Nat.le_of_ble_eq_true rfl)
  have hP := hP.grown hk1
  refine W.widen (k := 1) (n := 6) (Nat.le_of_ble_eq_true rfl) (Nat.le_of_ble_eq_true rfl) ?_
  refine W.widen (k := 1) (n := 6) (Nat.le_of_ble_eq_true rfl) (Nat.le_of_ble_eq_true rfl) ?_
  refine vx_ret ?_
  exact W.vret hx hb hr (fun t ht hW => ⟨⟨(), rfl, hw_3, trivial⟩, hS.F ht⟩) hS.2.2 dX8_checkYear_10

abbrev wz_X8_mouldAt : List Cond := .code yX8_mouldAt cX8_mouldAt 2 (Option.some (Jvm.ClassFile.FieldType.object "Watermarkmill$Mould")) :: lw_good
set_option maxHeartbeats 4000000 in
set_option maxRecDepth 100000 in
/-- mouldAt of an empty list -/
theorem k_X8_mouldAt (l : Launch) (hfl : l.stackTraces = false) (G : va_G) (z : Nat) (h0 : Nat) (a1 : Nat) (a2 : Nat) (a3 : Nat) (a4 : Nat) (a5 : Nat) (a6 : Nat) (a7 : Nat) (a8 : Nat) (tol : Int32) (sal : Int32) (c0 : Int32) (e0 : Nat) (p0 : Int32) (sz : Nat)  : vx_Met l yX8_mouldAt wz_X8_mouldAt ({ frames := 6, cells := 1, slots := 6, locals := 82 }) (va_Pc [.ref h0, .int p0] (PR G z [(h0, .inr (12, [.ref a1, .ref a2, .ref a3, .ref a4, .ref a5, .ref a6, .ref a7, .ref a8, .int tol, .int sal])), (a1, .inr (3, [.int c0, .ref e0, .int 0]))] [] sz)) (va_Qq (fun (r : Option Nat) (_ : Unit) => False) (fun (_ : Unit) (_ : State) => True) (zN sz)) (zX (True) "java/lang/IndexOutOfBoundsException" (zN sz)) 1 6 (zN sz) := by
  refine vx_ofW (cc := cX8_mouldAt) (maxL := 2) (ret := (Option.some (Jvm.ClassFile.FieldType.object "Watermarkmill$Mould"))) (by decide) rfl ?_
  intro p e s m args below meth c s₁ B hml htab hv
  obtain ⟨rfl, rfl, hP, hK, hG⟩ := hv
  have hx := B.exec
  have hb := B.bytes
  have hr := B.returns
  have hts := atoms_spec (ws := wz_X8_mouldAt) B.pre
  have hg : ∀ w ∈ lw_good, w.before _ s = true := fun w h => hts w (List.mem_cons_of_mem _ h)
  have hown : s.vm.findClass RX8 = some m.cls := findClass_of_methodNamed B.named
  have hlocks := B.notSynchronized
  have hA : ∀ q : Nat, s.heap.size ≤ q → zN s.heap.size q := fun _ h => h
  have hS : va_S (zN s.heap.size) s.heap s.heap [] := va_S.rf
  have hl := lv_entry ([.ref h0, .int p0]) (n := 2) (Nat.le_of_ble_eq_true rfl)
  rw [lg_entry_eq]
  generalize (lg_sl ([.ref h0, .int p0]) ++ List.replicate (2 - (lg_sl ([.ref h0, .int p0])).length) Slot.unset).toArray = ls at hl ⊢
  have hl : lv_has ls 2 [(0, .ref h0), (1, .int p0)] := hl
  refine lv_iload_n hx hb dX8_mouldAt_0 rfl (lv_at hl 1 rfl) ?_
  refine lv_if_lt (tgt := 15) hx hb dX8_mouldAt_1 (by decide) (fun c_1 => ?_) (fun c_1 => ?_)
  · obtain ⟨sa9, hsa9⟩ := hG.2.2.2.2.2.1 _ _ _ qstr559
    exact vx_throwSW (names := zNm) hx hb hfl hown (by decide +kernel) (by decide +kernel) (hg _ q550) (hg _ q19) hsa9 (zat_at zat_X8_391 hg hG.2.2.2.2.1) zgo_X8_391_387 hG.1 hG.2.1 hS (by rw [hml]; exact hl.1) dX8_mouldAt_15 dX8_mouldAt_18 dX8_mouldAt_19 dX8_mouldAt_22 dX8_mouldAt_25 (fun x9 h9 => (htab x9 h9).elim) (Nat.le_of_ble_eq_true rfl) (Nat.le_of_ble_eq_true rfl) (Nat.le_of_ble_eq_true rfl) (Nat.le_of_ble_eq_true rfl) hlocks (fun t9 _ h1 h2 => zX.grown trivial hS h1 h2) hS.2.2 (Nat.le_of_ble_eq_true rfl) (Nat.le_of_ble_eq_true rfl)
  · refine lv_iload_n hx hb dX8_mouldAt_4 rfl (lv_at hl 1 rfl) ?_
    refine lv_aload_n hx hb dX8_mouldAt_5 rfl (lv_at hl 0 rfl) ?_
    refine va_get (D := G) (ci := 12) (v := .ref a1) (C := RX8) (T := TX8) (N := 10) hx hb hg in_X8 hown hK hP 0 rfl rfl 0 (by decide) (hg _ q125) (fun _ h9 => h9) rfl dX8_mouldAt_6 ?_
    have hPc := hP.sub (ws' := [(a1, .inr (3, [.int c0, .ref e0, .int 0]))]) [1] rfl
    have hKc := hK.sub (tys' := []) [] rfl
    refine va_calli (va_runV (As := []) (rest := [.int p0]) ⟨hx, hb, hml, hown, hts⟩ (k_Jx4a65c_size_8abf5 l G z a1 c0 e0 0 s.heap.size ) (cwV 0 hts (lw_goodApp (lw_4 q160 q161 q162 q4) q163) rfl rfl rfl (by decide +kernel) ⟨Nat.le_of_ble_eq_true rfl, Nat.le_of_ble_eq_true rfl⟩) ⟨PR.blind, va_recv hK hP (ci := 3) (q0 := 1) rfl rfl, PR.of hPc hKc hG hS hA [.ref a1]⟩ rfl rfl hl.1 rfl (lv_room (Nat.le_of_ble_eq_true rfl)) dX8_mouldAt_9 ⟨Nat.le_of_ble_eq_true rfl, Nat.le_of_ble_eq_true rfl⟩) hS (fun q h9 h => zN.not h9 h) (fun q h => hA q (Nat.le_trans hS.1 h)) (fun r_3 u t_5 H_2 locs ht hvm hw_4 hB hz1 hk1 hS => ?_)
    have hP := hP.grown hk1
    refine W.widen (k := 0) (n := 0) (Nat.le_of_ble_eq_true rfl) (Nat.le_of_ble_eq_true rfl) ?_
    obtain rfl : 0 = r_3 := hw_4.symm
    refine lv_icmp_lt (tgt := 26) hx hb dX8_mouldAt_12 (by decide) (fun c_6 => absurd c_6 c_1) (fun c_6 => ?_)
    obtain ⟨sa9, hsa9⟩ := hG.2.2.2.2.2.1 _ _ _ qstr559
    exact vx_throwSW (names := zNm) hx hb hfl hown (by decide +kernel) (by decide +kernel) (hg _ q550) (hg _ q19) hsa9 (zat_at zat_X8_391 hg hG.2.2.2.2.1) zgo_X8_391_387 hG.1 hG.2.1 hS (by rw [hml]; exact hl.1) dX8_mouldAt_15 dX8_mouldAt_18 dX8_mouldAt_19 dX8_mouldAt_22 dX8_mouldAt_25 (fun x9 h9 => (htab x9 h9).elim) (Nat.le_of_ble_eq_true rfl) (Nat.le_of_ble_eq_true rfl) (Nat.le_of_ble_eq_true rfl) (Nat.le_of_ble_eq_true rfl) hlocks (fun t9 _ h1 h2 => zX.grown trivial hS h1 h2) hS.2.2 (Nat.le_of_ble_eq_true rfl) (Nat.le_of_ble_eq_true rfl)

abbrev wz_X8_lotAt : List Cond := .code yX8_lotAt cX8_lotAt 2 (Option.some (Jvm.ClassFile.FieldType.object "Watermarkmill$Lot")) :: lw_good
set_option maxHeartbeats 4000000 in
set_option maxRecDepth 100000 in
/-- lotAt of an empty list -/
theorem k_X8_lotAt (l : Launch) (hfl : l.stackTraces = false) (G : va_G) (z : Nat) (h0 : Nat) (a1 : Nat) (a2 : Nat) (a3 : Nat) (a4 : Nat) (a5 : Nat) (a6 : Nat) (a7 : Nat) (a8 : Nat) (tol : Int32) (sal : Int32) (c0 : Int32) (e0 : Nat) (p0 : Int32) (sz : Nat)  : vx_Met l yX8_lotAt wz_X8_lotAt ({ frames := 6, cells := 1, slots := 6, locals := 82 }) (va_Pc [.ref h0, .int p0] (PR G z [(h0, .inr (12, [.ref a1, .ref a2, .ref a3, .ref a4, .ref a5, .ref a6, .ref a7, .ref a8, .int tol, .int sal])), (a2, .inr (3, [.int c0, .ref e0, .int 0]))] [] sz)) (va_Qq (fun (r : Option Nat) (_ : Unit) => False) (fun (_ : Unit) (_ : State) => True) (zN sz)) (zX (True) "java/lang/IndexOutOfBoundsException" (zN sz)) 1 6 (zN sz) := by
  refine vx_ofW (cc := cX8_lotAt) (maxL := 2) (ret := (Option.some (Jvm.ClassFile.FieldType.object "Watermarkmill$Lot"))) (by decide) rfl ?_
  intro p e s m args below meth c s₁ B hml htab hv
  obtain ⟨rfl, rfl, hP, hK, hG⟩ := hv
  have hx := B.exec
  have hb := B.bytes
  have hr := B.returns
  have hts := atoms_spec (ws := wz_X8_lotAt) B.pre
  have hg : ∀ w ∈ lw_good, w.before _ s = true := fun w h => hts w (List.mem_cons_of_mem _ h)
  have hown : s.vm.findClass RX8 = some m.cls := findClass_of_methodNamed B.named
  have hlocks := B.notSynchronized
  have hA : ∀ q : Nat, s.heap.size ≤ q → zN s.heap.size q := fun _ h => h
  have hS : va_S (zN s.heap.size) s.heap s.heap [] := va_S.rf
  have hl := lv_entry ([.ref h0, .int p0]) (n := 2) (Nat.le_of_ble_eq_true rfl)
  rw [lg_entry_eq]
  generalize (lg_sl ([.ref h0, .int p0]) ++ List.replicate (2 - (lg_sl ([.ref h0, .int p0])).length) Slot.unset).toArray = ls at hl ⊢
  have hl : lv_has ls 2 [(0, .ref h0), (1, .int p0)] := hl
  refine lv_iload_n hx hb dX8_lotAt_0 rfl (lv_at hl 1 rfl) ?_
  refine lv_if_lt (tgt := 15) hx hb dX8_lotAt_1 (by decide) (fun c_1 => ?_) (fun c_1 => ?_)
  · obtain ⟨sa9, hsa9⟩ := hG.2.2.2.2.2.1 _ _ _ qstr771
    exact vx_throwSW (names := zNm) hx hb hfl hown (by decide +kernel) (by decide +kernel) (hg _ q550) (hg _ q19) hsa9 (zat_at zat_X8_391 hg hG.2.2.2.2.1) zgo_X8_391_387 hG.1 hG.2.1 hS (by rw [hml]; exact hl.1) dX8_lotAt_15 dX8_lotAt_18 dX8_lotAt_19 dX8_lotAt_22 dX8_lotAt_25 (fun x9 h9 => (htab x9 h9).elim) (Nat.le_of_ble_eq_true rfl) (Nat.le_of_ble_eq_true rfl) (Nat.le_of_ble_eq_true rfl) (Nat.le_of_ble_eq_true rfl) hlocks (fun t9 _ h1 h2 => zX.grown trivial hS h1 h2) hS.2.2 (Nat.le_of_ble_eq_true rfl) (Nat.le_of_ble_eq_true rfl)
  · refine lv_iload_n hx hb dX8_lotAt_4 rfl (lv_at hl 1 rfl) ?_
    refine lv_aload_n hx hb dX8_lotAt_5 rfl (lv_at hl 0 rfl) ?_
    refine va_get (D := G) (ci := 12) (v := .ref a2) (C := RX8) (T := TX8) (N := 10) hx hb hg in_X8 hown hK hP 0 rfl rfl 1 (by decide) (hg _ q126) (fun _ h9 => h9) rfl dX8_lotAt_6 ?_
    have hPc := hP.sub (ws' := [(a2, .inr (3, [.int c0, .ref e0, .int 0]))]) [1] rfl
    have hKc := hK.sub (tys' := []) [] rfl
    refine va_calli (va_runV (As := []) (rest := [.int p0]) ⟨hx, hb, hml, hown, hts⟩ (k_Jx4a65c_size_8abf5 l G z a2 c0 e0 0 s.heap.size ) (cwV 0 hts (lw_goodApp (lw_4 q160 q161 q162 q4) q163) rfl rfl rfl (by decide +kernel) ⟨Nat.le_of_ble_eq_true rfl, Nat.le_of_ble_eq_true rfl⟩) ⟨PR.blind, va_recv hK hP (ci := 3) (q0 := 1) rfl rfl, PR.of hPc hKc hG hS hA [.ref a2]⟩ rfl rfl hl.1 rfl (lv_room (Nat.le_of_ble_eq_true rfl)) dX8_lotAt_9 ⟨Nat.le_of_ble_eq_true rfl, Nat.le_of_ble_eq_true rfl⟩) hS (fun q h9 h => zN.not h9 h) (fun q h => hA q (Nat.le_trans hS.1 h)) (fun r_3 u t_5 H_2 locs ht hvm hw_4 hB hz1 hk1 hS => ?_)
    have hP := hP.grown hk1
    refine W.widen (k := 0) (n := 0) (Nat.le_of_ble_eq_true rfl) (Nat.le_of_ble_eq_true rfl) ?_
    obtain rfl : 0 = r_3 := hw_4.symm
    refine lv_icmp_lt (tgt := 26) hx hb dX8_lotAt_12 (by decide) (fun c_6 => absurd c_6 c_1) (fun c_6 => ?_)
    obtain ⟨sa9, hsa9⟩ := hG.2.2.2.2.2.1 _ _ _ qstr771
    exact vx_throwSW (names := zNm) hx hb hfl hown (by decide +kernel) (by decide +kernel) (hg _ q550) (hg _ q19) hsa9 (zat_at zat_X8_391 hg hG.2.2.2.2.1) zgo_X8_391_387 hG.1 hG.2.1 hS (by rw [hml]; exact hl.1) dX8_lotAt_15 dX8_lotAt_18 dX8_lotAt_19 dX8_lotAt_22 dX8_lotAt_25 (fun x9 h9 => (htab x9 h9).elim) (Nat.le_of_ble_eq_true rfl) (Nat.le_of_ble_eq_true rfl) (Nat.le_of_ble_eq_true rfl) (Nat.le_of_ble_eq_true rfl) hlocks (fun t9 _ h1 h2 => zX.grown trivial hS h1 h2) hS.2.2 (Nat.le_of_ble_eq_true rfl) (Nat.le_of_ble_eq_true rfl)

abbrev wz_X8_reamAt : List Cond := .code yX8_reamAt cX8_reamAt 2 (Option.some (Jvm.ClassFile.FieldType.object "Watermarkmill$Ream")) :: lw_good
set_option maxHeartbeats 4000000 in
set_option maxRecDepth 100000 in
/-- reamAt of an empty list -/
theorem k_X8_reamAt (l : Launch) (hfl : l.stackTraces = false) (G : va_G) (z : Nat) (h0 : Nat) (a1 : Nat) (a2 : Nat) (a3 : Nat) (a4 : Nat) (a5 : Nat) (a6 : Nat) (a7 : Nat) (a8 : Nat) (tol : Int32) (sal : Int32) (c0 : Int32) (e0 : Nat) (p0 : Int32) (sz : Nat)  : vx_Met l yX8_reamAt wz_X8_reamAt ({ frames := 6, cells := 1, slots := 6, locals := 82 }) (va_Pc [.ref h0, .int p0] (PR G z [(h0, .inr (12, [.ref a1, .ref a2, .ref a3, .ref a4, .ref a5, .ref a6, .ref a7, .ref a8, .int tol, .int sal])), (a3, .inr (3, [.int c0, .ref e0, .int 0]))] [] sz)) (va_Qq (fun (r : Option Nat) (_ : Unit) => False) (fun (_ : Unit) (_ : State) => True) (zN sz)) (zX (True) "java/lang/IndexOutOfBoundsException" (zN sz)) 1 6 (zN sz) := by
  refine vx_ofW (cc := cX8_reamAt) (maxL := 2) (ret := (Option.some (Jvm.ClassFile.FieldType.object "Watermarkmill$Ream"))) (by decide) rfl ?_
  intro p e s m args below meth c s₁ B hml htab hv
  obtain ⟨rfl, rfl, hP, hK, hG⟩ := hv
  have hx := B.exec
  have hb := B.bytes
  have hr := B.returns
  have hts := atoms_spec (ws := wz_X8_reamAt) B.pre
  have hg : ∀ w ∈ lw_good, w.before _ s = true := fun w h => hts w (List.mem_cons_of_mem _ h)
  have hown : s.vm.findClass RX8 = some m.cls := findClass_of_methodNamed B.named
  have hlocks := B.notSynchronized
  have hA : ∀ q : Nat, s.heap.size ≤ q → zN s.heap.size q := fun _ h => h
  have hS : va_S (zN s.heap.size) s.heap s.heap [] := va_S.rf
  have hl := lv_entry ([.ref h0, .int p0]) (n := 2) (Nat.le_of_ble_eq_true rfl)
  rw [lg_entry_eq]
  generalize (lg_sl ([.ref h0, .int p0]) ++ List.replicate (2 - (lg_sl ([.ref h0, .int p0])).length) Slot.unset).toArray = ls at hl ⊢
  have hl : lv_has ls 2 [(0, .ref h0), (1, .int p0)] := hl
  refine lv_iload_n hx hb dX8_reamAt_0 rfl (lv_at hl 1 rfl) ?_
  refine lv_if_lt (tgt := 15) hx hb dX8_reamAt_1 (by decide) (fun c_1 => ?_) (fun c_1 => ?_)
  · obtain ⟨sa9, hsa9⟩ := hG.2.2.2.2.2.1 _ _ _ qstr766
    exact vx_throwSW (names := zNm) hx hb hfl hown (by decide +kernel) (by decide +kernel) (hg _ q550) (hg _ q19) hsa9 (zat_at zat_X8_391 hg hG.2.2.2.2.1) zgo_X8_391_387 hG.1 hG.2.1 hS (by rw [hml]; exact hl.1) dX8_reamAt_15 dX8_reamAt_18 dX8_reamAt_19 dX8_reamAt_22 dX8_reamAt_25 (fun x9 h9 => (htab x9 h9).elim) (Nat.le_of_ble_eq_true rfl) (Nat.le_of_ble_eq_true rfl) (Nat.le_of_ble_eq_true rfl) (Nat.le_of_ble_eq_true rfl) hlocks (fun t9 _ h1 h2 => zX.grown trivial hS h1 h2) hS.2.2 (Nat.le_of_ble_eq_true rfl) (Nat.le_of_ble_eq_true rfl)
  · refine lv_iload_n hx hb dX8_reamAt_4 rfl (lv_at hl 1 rfl) ?_
    refine lv_aload_n hx hb dX8_reamAt_5 rfl (lv_at hl 0 rfl) ?_
    refine va_get (D := G) (ci := 12) (v := .ref a3) (C := RX8) (T := TX8) (N := 10) hx hb hg in_X8 hown hK hP 0 rfl rfl 2 (by decide) (hg _ q127) (fun _ h9 => h9) rfl dX8_reamAt_6 ?_
    have hPc := hP.sub (ws' := [(a3, .inr (3, [.int c0, .ref e0, .int 0]))]) [1] rfl
    have hKc := hK.sub (tys' := []) [] rfl
    refine va_calli (va_runV (As := []) (rest := [.int p0]) ⟨hx, hb, hml, hown, hts⟩ (k_Jx4a65c_size_8abf5 l G z a3 c0 e0 0 s.heap.size ) (cwV 0 hts (lw_goodApp (lw_4 q160 q161 q162 q4) q163) rfl rfl rfl (by decide +kernel) ⟨Nat.le_of_ble_eq_true rfl, Nat.le_of_ble_eq_true rfl⟩) ⟨PR.blind, va_recv hK hP (ci := 3) (q0 := 1) rfl rfl, PR.of hPc hKc hG hS hA [.ref a3]⟩ rfl rfl hl.1 rfl (lv_room (Nat.le_of_ble_eq_true rfl)) dX8_reamAt_9 ⟨Nat.le_of_ble_eq_true rfl, Nat.le_of_ble_eq_true rfl⟩) hS (fun q h9 h => zN.not h9 h) (fun q h => hA q (Nat.le_trans hS.1 h)) (fun r_3 u t_5 H_2 locs ht hvm hw_4 hB hz1 hk1 hS => ?_)
    have hP := hP.grown hk1
    refine W.widen (k := 0) (n := 0) (Nat.le_of_ble_eq_true rfl) (Nat.le_of_ble_eq_true rfl) ?_
    obtain rfl : 0 = r_3 := hw_4.symm
    refine lv_icmp_lt (tgt := 26) hx hb dX8_reamAt_12 (by decide) (fun c_6 => absurd c_6 c_1) (fun c_6 => ?_)
    obtain ⟨sa9, hsa9⟩ := hG.2.2.2.2.2.1 _ _ _ qstr766
    exact vx_throwSW (names := zNm) hx hb hfl hown (by decide +kernel) (by decide +kernel) (hg _ q550) (hg _ q19) hsa9 (zat_at zat_X8_391 hg hG.2.2.2.2.1) zgo_X8_391_387 hG.1 hG.2.1 hS (by rw [hml]; exact hl.1) dX8_reamAt_15 dX8_reamAt_18 dX8_reamAt_19 dX8_reamAt_22 dX8_reamAt_25 (fun x9 h9 => (htab x9 h9).elim) (Nat.le_of_ble_eq_true rfl) (Nat.le_of_ble_eq_true rfl) (Nat.le_of_ble_eq_true rfl) (Nat.le_of_ble_eq_true rfl) hlocks (fun t9 _ h1 h2 => zX.grown trivial hS h1 h2) hS.2.2 (Nat.le_of_ble_eq_true rfl) (Nat.le_of_ble_eq_true rfl)

abbrev wz_X8_documentAt : List Cond := .code yX8_documentAt cX8_documentAt 2 (Option.some (Jvm.ClassFile.FieldType.object "Watermarkmill$Document")) :: lw_good
set_option maxHeartbeats 4000000 in
set_option maxRecDepth 100000 in
/-- documentAt of an empty list -/
theorem k_X8_documentAt (l : Launch) (hfl : l.stackTraces = false) (G : va_G) (z : Nat) (h0 : Nat) (a1 : Nat) (a2 : Nat) (a3 : Nat) (a4 : Nat) (a5 : Nat) (a6 : Nat) (a7 : Nat) (a8 : Nat) (tol : Int32) (sal : Int32) (c0 : Int32) (e0 : Nat) (p0 : Int32) (sz : Nat)  : vx_Met l yX8_documentAt wz_X8_documentAt ({ frames := 6, cells := 1, slots := 6, locals := 82 }) (va_Pc [.ref h0, .int p0] (PR G z [(h0, .inr (12, [.ref a1, .ref a2, .ref a3, .ref a4, .ref a5, .ref a6, .ref a7, .ref a8, .int tol, .int sal])), (a4, .inr (3, [.int c0, .ref e0, .int 0]))] [] sz)) (va_Qq (fun (r : Option Nat) (_ : Unit) => False) (fun (_ : Unit) (_ : State) => True) (zN sz)) (zX (True) "java/lang/IndexOutOfBoundsException" (zN sz)) 1 6 (zN sz) := by
  refine vx_ofW (cc := cX8_documentAt) (maxL := 2) (ret := (Option.some (Jvm.ClassFile.FieldType.object "Watermarkmill$Document"))) (by decide) rfl ?_
  intro p e s m args below meth c s₁ B hml htab hv
  obtain ⟨rfl, rfl, hP, hK, hG⟩ := hv
  have hx := B.exec
  have hb := B.bytes
  have hr := B.returns
  have hts := atoms_spec (ws := wz_X8_documentAt) B.pre
  have hg : ∀ w ∈ lw_good, w.before _ s = true := fun w h => hts w (List.mem_cons_of_mem _ h)
  have hown : s.vm.findClass RX8 = some m.cls := findClass_of_methodNamed B.named
  have hlocks := B.notSynchronized
  have hA : ∀ q : Nat, s.heap.size ≤ q → zN s.heap.size q := fun _ h => h
  have hS : va_S (zN s.heap.size) s.heap s.heap [] := va_S.rf
  have hl := lv_entry ([.ref h0, .int p0]) (n := 2) (Nat.le_of_ble_eq_true rfl)
  rw [lg_entry_eq]
  generalize (lg_sl ([.ref h0, .int p0]) ++ List.replicate (2 - (lg_sl ([.ref h0, .int p0])).length) Slot.unset).toArray = ls at hl ⊢
  have hl : lv_has ls 2 [(0, .ref h0), (1, .int p0)] := hl
  refine lv_iload_n hx hb dX8_documentAt_0 rfl (lv_at hl 1 rfl) ?_
  refine lv_if_lt (tgt := 15) hx hb dX8_documentAt_1 (by decide) (fun c_1 => ?_) (fun c_1 => ?_)
  · obtain ⟨sa9, hsa9⟩ := hG.2.2.2.2.2.1 _ _ _ qstr864
    exact vx_throwSW (names := zNm) hx hb hfl hown (by decide +kernel) (by decide +kernel) (hg _ q550) (hg _ q19) hsa9 (zat_at zat_X8_391 hg hG.2.2.2.2.1) zgo_X8_391_387 hG.1 hG.2.1 hS (by rw [hml]; exact hl.1) dX8_documentAt_15 dX8_documentAt_18 dX8_documentAt_19 dX8_documentAt_22 dX8_documentAt_25 (fun x9 h9 => (htab x9 h9).elim) (Nat.le_of_ble_eq_true rfl) (Nat.le_of_ble_eq_true rfl) (Nat.le_of_ble_eq_true rfl) (Nat.le_of_ble_eq_true rfl) hlocks (fun t9 _ h1 h2 => zX.grown trivial hS h1 h2) hS.2.2 (Nat.le_of_ble_eq_true rfl) (Nat.le_of_ble_eq_true rfl)
  · refine lv_iload_n hx hb dX8_documentAt_4 rfl (lv_at hl 1 rfl) ?_
    refine lv_aload_n hx hb dX8_documentAt_5 rfl (lv_at hl 0 rfl) ?_
    refine va_get (D := G) (ci := 12) (v := .ref a4) (C := RX8) (T := TX8) (N := 10) hx hb hg in_X8 hown hK hP 0 rfl rfl 3 (by decide) (hg _ q128) (fun _ h9 => h9) rfl dX8_documentAt_6 ?_
    have hPc := hP.sub (ws' := [(a4, .inr (3, [.int c0, .ref e0, .int 0]))]) [1] rfl
    have hKc := hK.sub (tys' := []) [] rfl
    refine va_calli (va_runV (As := []) (rest := [.int p0]) ⟨hx, hb, hml, hown, hts⟩ (k_Jx4a65c_size_8abf5 l G z a4 c0 e0 0 s.heap.size ) (cwV 0 hts (lw_goodApp (lw_4 q160 q161 q162 q4) q163) rfl rfl rfl (by decide +kernel) ⟨Nat.le_of_ble_eq_true rfl, Nat.le_of_ble_eq_true rfl⟩) ⟨PR.blind, va_recv hK hP (ci := 3) (q0 := 1) rfl rfl, PR.of hPc hKc hG hS hA [.ref a4]⟩ rfl rfl hl.1 rfl (lv_room (Nat.le_of_ble_eq_true rfl)) dX8_documentAt_9 ⟨Nat.le_of_ble_eq_true rfl, Nat.le_of_ble_eq_true rfl⟩) hS (fun q h9 h => zN.not h9 h) (fun q h => hA q (Nat.le_trans hS.1 h)) (fun r_3 u t_5 H_2 locs ht hvm hw_4 hB hz1 hk1 hS => ?_)
    have hP := hP.grown hk1
    refine W.widen (k := 0) (n := 0) (Nat.le_of_ble_eq_true rfl) (Nat.le_of_ble_eq_true rfl) ?_
    obtain rfl : 0 = r_3 := hw_4.symm
    refine lv_icmp_lt (tgt := 26) hx hb dX8_documentAt_12 (by decide) (fun c_6 => absurd c_6 c_1) (fun c_6 => ?_)
    obtain ⟨sa9, hsa9⟩ := hG.2.2.2.2.2.1 _ _ _ qstr864
    exact vx_throwSW (names := zNm) hx hb hfl hown (by decide +kernel) (by decide +kernel) (hg _ q550) (hg _ q19) hsa9 (zat_at zat_X8_391 hg hG.2.2.2.2.1) zgo_X8_391_387 hG.1 hG.2.1 hS (by rw [hml]; exact hl.1) dX8_documentAt_15 dX8_documentAt_18 dX8_documentAt_19 dX8_documentAt_22 dX8_documentAt_25 (fun x9 h9 => (htab x9 h9).elim) (Nat.le_of_ble_eq_true rfl) (Nat.le_of_ble_eq_true rfl) (Nat.le_of_ble_eq_true rfl) (Nat.le_of_ble_eq_true rfl) hlocks (fun t9 _ h1 h2 => zX.grown trivial hS h1 h2) hS.2.2 (Nat.le_of_ble_eq_true rfl) (Nat.le_of_ble_eq_true rfl)

abbrev wz_X8_imageAt : List Cond := .code yX8_imageAt cX8_imageAt 2 (Option.some (Jvm.ClassFile.FieldType.object "Watermarkmill$Image")) :: lw_good
set_option maxHeartbeats 4000000 in
set_option maxRecDepth 100000 in
/-- imageAt of an empty list -/
theorem k_X8_imageAt (l : Launch) (hfl : l.stackTraces = false) (G : va_G) (z : Nat) (h0 : Nat) (a1 : Nat) (a2 : Nat) (a3 : Nat) (a4 : Nat) (a5 : Nat) (a6 : Nat) (a7 : Nat) (a8 : Nat) (tol : Int32) (sal : Int32) (c0 : Int32) (e0 : Nat) (p0 : Int32) (sz : Nat)  : vx_Met l yX8_imageAt wz_X8_imageAt ({ frames := 6, cells := 1, slots := 6, locals := 82 }) (va_Pc [.ref h0, .int p0] (PR G z [(h0, .inr (12, [.ref a1, .ref a2, .ref a3, .ref a4, .ref a5, .ref a6, .ref a7, .ref a8, .int tol, .int sal])), (a5, .inr (3, [.int c0, .ref e0, .int 0]))] [] sz)) (va_Qq (fun (r : Option Nat) (_ : Unit) => False) (fun (_ : Unit) (_ : State) => True) (zN sz)) (zX (True) "java/lang/IndexOutOfBoundsException" (zN sz)) 1 6 (zN sz) := by
  refine vx_ofW (cc := cX8_imageAt) (maxL := 2) (ret := (Option.some (Jvm.ClassFile.FieldType.object "Watermarkmill$Image"))) (by decide) rfl ?_
  intro p e s m args below meth c s₁ B hml htab hv
  obtain ⟨rfl, rfl, hP, hK, hG⟩ := hv
  have hx := B.exec
  have hb := B.bytes
  have hr := B.returns
  have hts := atoms_spec (ws := wz_X8_imageAt) B.pre
  have hg : ∀ w ∈ lw_good, w.before _ s = true := fun w h => hts w (List.mem_cons_of_mem _ h)
  have hown : s.vm.findClass RX8 = some m.cls := findClass_of_methodNamed B.named
  have hlocks := B.notSynchronized
  have hA : ∀ q : Nat, s.heap.size ≤ q → zN s.heap.size q := fun _ h => h
  have hS : va_S (zN s.heap.size) s.heap s.heap [] := va_S.rf
  have hl := lv_entry ([.ref h0, .int p0]) (n := 2) (Nat.le_of_ble_eq_true rfl)
  rw [lg_entry_eq]
  generalize (lg_sl ([.ref h0, .int p0]) ++ List.replicate (2 - (lg_sl ([.ref h0, .int p0])).length) Slot.unset).toArray = ls at hl ⊢
  have hl : lv_has ls 2 [(0, .ref h0), (1, .int p0)] := hl
  refine lv_iload_n hx hb dX8_imageAt_0 rfl (lv_at hl 1 rfl) ?_
  refine lv_if_lt (tgt := 15) hx hb dX8_imageAt_1 (by decide) (fun c_1 => ?_) (fun c_1 => ?_)
  · obtain ⟨sa9, hsa9⟩ := hG.2.2.2.2.2.1 _ _ _ qstr1010
    exact vx_throwSW (names := zNm) hx hb hfl hown (by decide +kernel) (by decide +kernel) (hg _ q550) (hg _ q19) hsa9 (zat_at zat_X8_391 hg hG.2.2.2.2.1) zgo_X8_391_387 hG.1 hG.2.1 hS (by rw [hml]; exact hl.1) dX8_imageAt_15 dX8_imageAt_18 dX8_imageAt_19 dX8_imageAt_22 dX8_imageAt_25 (fun x9 h9 => (htab x9 h9).elim) (Nat.le_of_ble_eq_true rfl) (Nat.le_of_ble_eq_true rfl) (Nat.le_of_ble_eq_true rfl) (Nat.le_of_ble_eq_true rfl) hlocks (fun t9 _ h1 h2 => zX.grown trivial hS h1 h2) hS.2.2 (Nat.le_of_ble_eq_true rfl) (Nat.le_of_ble_eq_true rfl)
  · refine lv_iload_n hx hb dX8_imageAt_4 rfl (lv_at hl 1 rfl) ?_
    refine lv_aload_n hx hb dX8_imageAt_5 rfl (lv_at hl 0 rfl) ?_
    refine va_get (D := G) (ci := 12) (v := .ref a5) (C := RX8) (T := TX8) (N := 10) hx hb hg in_X8 hown hK hP 0 rfl rfl 4 (by decide) (hg _ q129) (fun _ h9 => h9) rfl dX8_imageAt_6 ?_
    have hPc := hP.sub (ws' := [(a5, .inr (3, [.int c0, .ref e0, .int 0]))]) [1] rfl
    have hKc := hK.sub (tys' := []) [] rfl
    refine va_calli (va_runV (As := []) (rest := [.int p0]) ⟨hx, hb, hml, hown, hts⟩ (k_Jx4a65c_size_8abf5 l G z a5 c0 e0 0 s.heap.size ) (cwV 0 hts (lw_goodApp (lw_4 q160 q161 q162 q4) q163) rfl rfl rfl (by decide +kernel) ⟨Nat.le_of_ble_eq_true rfl, Nat.le_of_ble_eq_true rfl⟩) ⟨PR.blind, va_recv hK hP (ci := 3) (q0 := 1) rfl rfl, PR.of hPc hKc hG hS hA [.ref a5]⟩ rfl rfl hl.1 rfl (lv_room (Nat.le_of_ble_eq_true rfl)) dX8_imageAt_9 ⟨Nat.le_of_ble_eq_true rfl, Nat.le_of_ble_eq_true rfl⟩) hS (fun q h9 h => zN.not h9 h) (fun q h => hA q (Nat.le_trans hS.1 h)) (fun r_3 u t_5 H_2 locs ht hvm hw_4 hB hz1 hk1 hS => ?_)
    have hP := hP.grown hk1
    refine W.widen (k := 0) (n := 0) (Nat.le_of_ble_eq_true rfl) (Nat.le_of_ble_eq_true rfl) ?_
    obtain rfl : 0 = r_3 := hw_4.symm
    refine lv_icmp_lt (tgt := 26) hx hb dX8_imageAt_12 (by decide) (fun c_6 => absurd c_6 c_1) (fun c_6 => ?_)
    obtain ⟨sa9, hsa9⟩ := hG.2.2.2.2.2.1 _ _ _ qstr1010
    exact vx_throwSW (names := zNm) hx hb hfl hown (by decide +kernel) (by decide +kernel) (hg _ q550) (hg _ q19) hsa9 (zat_at zat_X8_391 hg hG.2.2.2.2.1) zgo_X8_391_387 hG.1 hG.2.1 hS (by rw [hml]; exact hl.1) dX8_imageAt_15 dX8_imageAt_18 dX8_imageAt_19 dX8_imageAt_22 dX8_imageAt_25 (fun x9 h9 => (htab x9 h9).elim) (Nat.le_of_ble_eq_true rfl) (Nat.le_of_ble_eq_true rfl) (Nat.le_of_ble_eq_true rfl) (Nat.le_of_ble_eq_true rfl) hlocks (fun t9 _ h1 h2 => zX.grown trivial hS h1 h2) hS.2.2 (Nat.le_of_ble_eq_true rfl) (Nat.le_of_ble_eq_true rfl)
end
section
theorem in_Jx35411 : ∀ w ∈ u_ws RJx35411 TJx35411 4, w ∈ lw_good := by decide +kernel
theorem mmax_c : Cond.code Lib.Math.max.name Lib.Math.max.code 2 (some .int) ∈ lw_good := lw_in (i := 246) (by decide +kernel) (by decide +kernel)
theorem mmax_lJx4a65c79 : Cond.methodLink "java/util/ArrayList" 79 Lib.Math.max.name ∈ lw_good := lw_in (i := 513) (by decide +kernel) (by decide +kernel)
theorem mmax_s : Cond.static Lib.Math.max.name ∈ lw_good := lw_in (i := 245) (by decide +kernel) (by decide +kernel)
theorem q1348 : Cond.code yJx4a65c_isEmpty_aae02 prog_34_method_9_code 1 (Option.some Jvm.ClassFile.FieldType.boolean) ∈ lw_good := lw_in (i := 1348) (by decide +kernel) (by decide +kernel)
theorem q1356 : Cond.code yJx4a65c_iterator_32c93 prog_34_method_55_code 1 (Option.some (Jvm.ClassFile.FieldType.object "java/util/Iterator")) ∈ lw_good := lw_in (i := 1356) (by decide +kernel) (by decide +kernel)
theorem q1357 : Cond.classLink "java/util/ArrayList" 267 "java/util/ArrayList$Itr" ∈ lw_good := lw_in (i := 1357) (by decide +kernel) (by decide +kernel)
theorem q1358 : Cond.instantiable "java/util/ArrayList$Itr" 4 ∈ lw_good := lw_in (i := 1358) (by decide +kernel) (by decide +kernel)
theorem q1359 : Cond.methodLink "java/util/ArrayList" 269 yJx35411_init_45d68 ∈ lw_good := lw_in (i := 1359) (by decide +kernel) (by decide +kernel)
theorem q1360 : Cond.instanceMethod yJx35411_init_45d68 ∈ lw_good := lw_in (i := 1360) (by decide +kernel) (by decide +kernel)
theorem q1361 : Cond.code yJx35411_init_45d68 prog_35_method_1_code 2 (Option.none : Option Jvm.ClassFile.FieldType) ∈ lw_good := lw_in (i := 1361) (by decide +kernel) (by decide +kernel)
theorem q1362 : Cond.methodLink "java/util/ArrayList$Itr" 7 ⟨"java/lang/Object", "<init>", "()V"⟩ ∈ lw_good := lw_in (i := 1362) (by decide +kernel) (by decide +kernel)
theorem q1363 : Cond.fieldLink "java/util/ArrayList$Itr" 25 "java/util/ArrayList$Itr" "cursor" "I" ∈ lw_good := lw_in (i := 1363) (by decide +kernel) (by decide +kernel)
theorem q1364 : Cond.fieldLink "java/util/ArrayList$Itr" 13 "java/util/ArrayList$Itr" "lastRet" "I" ∈ lw_good := lw_in (i := 1364) (by decide +kernel) (by decide +kernel)
theorem q1365 : Cond.fieldLink "java/util/ArrayList$Itr" 22 "java/util/ArrayList$Itr" "expectedModCount" "I" ∈ lw_good := lw_in (i := 1365) (by decide +kernel) (by decide +kernel)
theorem q1366 : Cond.fieldLink "java/util/ArrayList$Itr" 1 "java/util/ArrayList$Itr" "this$0" "Ljava/util/ArrayList;" ∈ lw_good := lw_in (i := 1366) (by decide +kernel) (by decide +kernel)
theorem q1385 : Cond.code yJx35411_hasNext_aae02 prog_35_method_2_code 1 (Option.some Jvm.ClassFile.FieldType.boolean) ∈ lw_good := lw_in (i := 1385) (by decide +kernel) (by decide +kernel)
theorem q15 : Cond.initialized "java/lang/Math" ∈ lw_good := lw_in (i := 15) (by decide +kernel) (by decide +kernel)
theorem q2 : Cond.initialized "java/util/AbstractCollection" ∈ lw_good := lw_in (i := 2) (by decide +kernel) (by decide +kernel)
theorem q26 : Cond.initialized "java/util/ArrayList$Itr" ∈ lw_good := lw_in (i := 26) (by decide +kernel) (by decide +kernel)
theorem q3 : Cond.initialized "java/util/AbstractList" ∈ lw_good := lw_in (i := 3) (by decide +kernel) (by decide +kernel)
theorem q43 : Cond.instanceMethod ⟨"java/lang/Object", "<init>", "()V"⟩ ∈ lw_good := lw_in (i := 43) (by decide +kernel) (by decide +kernel)
theorem q44 : Cond.code ⟨"java/lang/Object", "<init>", "()V"⟩ object_method_1_code 1 (Option.none : Option Jvm.ClassFile.FieldType) ∈ lw_good := lw_in (i := 44) (by decide +kernel) (by decide +kernel)
theorem q451 : Cond.code yJx4a65c_add_9ea2d prog_34_method_25_code 2 (Option.some Jvm.ClassFile.FieldType.boolean) ∈ lw_good := lw_in (i := 451) (by decide +kernel) (by decide +kernel)
theorem q452 : Cond.methodLink "java/util/ArrayList" 131 yJx4a65c_add_72be8 ∈ lw_good := lw_in (i := 452) (by decide +kernel) (by decide +kernel)
theorem q454 : Cond.instanceMethod yJx4a65c_add_72be8 ∈ lw_good := lw_in (i := 454) (by decide +kernel) (by decide +kernel)
theorem q455 : Cond.code yJx4a65c_add_72be8 prog_34_method_24_code 4 (Option.none : Option Jvm.ClassFile.FieldType) ∈ lw_good := lw_in (i := 455) (by decide +kernel) (by decide +kernel)
theorem q456 : Cond.methodLink "java/util/ArrayList" 129 yJx4a65c_grow_d5877 ∈ lw_good := lw_in (i := 456) (by decide +kernel) (by decide +kernel)
theorem q458 : Cond.instanceMethod yJx4a65c_grow_d5877 ∈ lw_good := lw_in (i := 458) (by decide +kernel) (by decide +kernel)
theorem q459 : Cond.code yJx4a65c_grow_d5877 prog_34_method_7_code 1 (Option.some (Jvm.ClassFile.FieldType.array (Jvm.ClassFile.FieldType.object "java/lang/Object"))) ∈ lw_good := lw_in (i := 459) (by decide +kernel) (by decide +kernel)
theorem q460 : Cond.methodLink "java/util/ArrayList" 69 yJx4a65c_grow_92f84 ∈ lw_good := lw_in (i := 460) (by decide +kernel) (by decide +kernel)
theorem q462 : Cond.instanceMethod yJx4a65c_grow_92f84 ∈ lw_good := lw_in (i := 462) (by decide +kernel) (by decide +kernel)
theorem q463 : Cond.code yJx4a65c_grow_92f84 prog_34_method_6_code 4 (Option.some (Jvm.ClassFile.FieldType.array (Jvm.ClassFile.FieldType.object "java/lang/Object"))) ∈ lw_good := lw_in (i := 463) (by decide +kernel) (by decide +kernel)
theorem q49 : Cond.code yJx4a65c_init_da8c8 prog_34_method_2_code 1 (Option.none : Option Jvm.ClassFile.FieldType) ∈ lw_good := lw_in (i := 49) (by decide +kernel) (by decide +kernel)
theorem q50 : Cond.methodLink "java/util/ArrayList" 1 yJxc12de_init_da8c8 ∈ lw_good := lw_in (i := 50) (by decide +kernel) (by decide +kernel)
theorem q51 : Cond.instanceMethod yJxc12de_init_da8c8 ∈ lw_good := lw_in (i := 51) (by decide +kernel) (by decide +kernel)
theorem q514 : Cond.classLink "java/util/ArrayList" 7 "java/lang/Object" ∈ lw_good := lw_in (i := 514) (by decide +kernel) (by decide +kernel)
theorem q52 : Cond.code yJxc12de_init_da8c8 prog_33_method_1_code 1 (Option.none : Option Jvm.ClassFile.FieldType) ∈ lw_good := lw_in (i := 52) (by decide +kernel) (by decide +kernel)
theorem q53 : Cond.methodLink "java/util/AbstractList" 1 yJxa1e45_init_da8c8 ∈ lw_good := lw_in (i := 53) (by decide +kernel) (by decide +kernel)
theorem q54 : Cond.instanceMethod yJxa1e45_init_da8c8 ∈ lw_good := lw_in (i := 54) (by decide +kernel) (by decide +kernel)
theorem q55 : Cond.code yJxa1e45_init_da8c8 prog_32_method_1_code 1 (Option.none : Option Jvm.ClassFile.FieldType) ∈ lw_good := lw_in (i := 55) (by decide +kernel) (by decide +kernel)
theorem q56 : Cond.methodLink "java/util/AbstractCollection" 1 ⟨"java/lang/Object", "<init>", "()V"⟩ ∈ lw_good := lw_in (i := 56) (by decide +kernel) (by decide +kernel)
theorem q57 : Cond.fieldLink "java/util/ArrayList" 39 "java/util/ArrayList" "DEFAULTCAPACITY_EMPTY_ELEMENTDATA" "[Ljava/lang/Object;" ∈ lw_good := lw_in (i := 57) (by decide +kernel) (by decide +kernel)
theorem q59 : Cond.fieldLink "java/util/ArrayList" 9 "java/util/ArrayList" "elementData" "[Ljava/lang/Object;" ∈ lw_good := lw_in (i := 59) (by decide +kernel) (by decide +kernel)
theorem q63 : Cond.fieldLink "java/util/AbstractList" 7 "java/util/AbstractList" "modCount" "I" ∈ lw_good := lw_in (i := 63) (by decide +kernel) (by decide +kernel)
theorem q64 : Cond.fieldLink "java/util/ArrayList$Itr" 17 "java/util/ArrayList" "modCount" "I" ∈ lw_good := lw_in (i := 64) (by decide +kernel) (by decide +kernel)
theorem q65 : Cond.sameField "java/util/ArrayList" "java/util/AbstractList" "modCount" "I" ∈ lw_good := lw_in (i := 65) (by decide +kernel) (by decide +kernel)
theorem q66 : Cond.fieldLink "java/util/ArrayList" 63 "java/util/ArrayList" "modCount" "I" ∈ lw_good := lw_in (i := 66) (by decide +kernel) (by decide +kernel)
theorem qf61 : Cond.fieldLinkNest "java/util/ArrayList$Itr" 28 "java/util/ArrayList" "size" "I" "java/util/ArrayList" ∈ lw_face := lw_fin (i := 61) (by decide +kernel) (by decide +kernel)
theorem qs11 : Cond.selects "java/util/ArrayList" yJx4a65c_add_72be8 yJx4a65c_add_72be8 ∈ lw_good := lw_inS (i := 11) (by decide +kernel) (by decide +kernel)
theorem qs12 : Cond.selects "java/util/ArrayList" yJx4a65c_grow_d5877 yJx4a65c_grow_d5877 ∈ lw_good := lw_inS (i := 12) (by decide +kernel) (by decide +kernel)
theorem qs13 : Cond.selects "java/util/ArrayList" yJx4a65c_grow_92f84 yJx4a65c_grow_92f84 ∈ lw_good := lw_inS (i := 13) (by decide +kernel) (by decide +kernel)
theorem dJx35411_hasNext_aae02_0 : decode cJx35411_hasNext_aae02 0 = .ok (.aload_n 0, 1) := by decide +kernel
theorem dJx35411_hasNext_aae02_1 : decode cJx35411_hasNext_aae02 1 = .ok (.getfield 25, 3) := by decide +kernel
theorem dJx35411_hasNext_aae02_11 : decode cJx35411_hasNext_aae02 11 = .ok (.if_icmp .eq 7, 3) := by decide +kernel
theorem dJx35411_hasNext_aae02_18 : decode cJx35411_hasNext_aae02 18 = .ok (.iconst 0, 1) := by decide +kernel
theorem dJx35411_hasNext_aae02_19 : decode cJx35411_hasNext_aae02 19 = .ok (.ireturn, 1) := by decide +kernel
theorem dJx35411_hasNext_aae02_4 : decode cJx35411_hasNext_aae02 4 = .ok (.aload_n 0, 1) := by decide +kernel
theorem dJx35411_hasNext_aae02_5 : decode cJx35411_hasNext_aae02 5 = .ok (.getfield 1, 3) := by decide +kernel
theorem dJx35411_hasNext_aae02_8 : decode cJx35411_hasNext_aae02 8 = .ok (.getfield 28, 3) := by decide +kernel
theorem dJx35411_init_45d68_0 : decode cJx35411_init_45d68 0 = .ok (.aload_n 0, 1) := by decide +kernel
theorem dJx35411_init_45d68_1 : decode cJx35411_init_45d68 1 = .ok (.aload_n 1, 1) := by decide +kernel
theorem dJx35411_init_45d68_10 : decode cJx35411_init_45d68 10 = .ok (.iconst (-1), 1) := by decide +kernel
theorem dJx35411_init_45d68_11 : decode cJx35411_init_45d68 11 = .ok (.putfield 13, 3) := by decide +kernel
theorem dJx35411_init_45d68_14 : decode cJx35411_init_45d68 14 = .ok (.aload_n 0, 1) := by decide +kernel
theorem dJx35411_init_45d68_15 : decode cJx35411_init_45d68 15 = .ok (.aload_n 0, 1) := by decide +kernel
theorem dJx35411_init_45d68_16 : decode cJx35411_init_45d68 16 = .ok (.getfield 1, 3) := by decide +kernel
theorem dJx35411_init_45d68_19 : decode cJx35411_init_45d68 19 = .ok (.getfield 17, 3) := by decide +kernel
theorem dJx35411_init_45d68_2 : decode cJx35411_init_45d68 2 = .ok (.putfield 1, 3) := by decide +kernel
theorem dJx35411_init_45d68_22 : decode cJx35411_init_45d68 22 = .ok (.putfield 22, 3) := by decide +kernel
theorem dJx35411_init_45d68_25 : decode cJx35411_init_45d68 25 = .ok (.return_, 1) := by decide +kernel
theorem dJx35411_init_45d68_5 : decode cJx35411_init_45d68 5 = .ok (.aload_n 0, 1) := by decide +kernel
theorem dJx35411_init_45d68_6 : decode cJx35411_init_45d68 6 = .ok (.invokespecial 7, 3) := by decide +kernel
theorem dJx35411_init_45d68_9 : decode cJx35411_init_45d68 9 = .ok (.aload_n 0, 1) := by decide +kernel
theorem dJx4a65c_add_72be8_0 : decode cJx4a65c_add_72be8 0 = .ok (.iload_n 3, 1) := by decide +kernel
theorem dJx4a65c_add_72be8_1 : decode cJx4a65c_add_72be8 1 = .ok (.aload_n 2, 1) := by decide +kernel
theorem dJx4a65c_add_72be8_10 : decode cJx4a65c_add_72be8 10 = .ok (.astore_n 2, 1) := by decide +kernel
theorem dJx4a65c_add_72be8_11 : decode cJx4a65c_add_72be8 11 = .ok (.aload_n 2, 1) := by decide +kernel
theorem dJx4a65c_add_72be8_12 : decode cJx4a65c_add_72be8 12 = .ok (.iload_n 3, 1) := by decide +kernel
theorem dJx4a65c_add_72be8_13 : decode cJx4a65c_add_72be8 13 = .ok (.aload_n 1, 1) := by decide +kernel
theorem dJx4a65c_add_72be8_14 : decode cJx4a65c_add_72be8 14 = .ok (.aastore, 1) := by decide +kernel
theorem dJx4a65c_add_72be8_15 : decode cJx4a65c_add_72be8 15 = .ok (.aload_n 0, 1) := by decide +kernel
theorem dJx4a65c_add_72be8_16 : decode cJx4a65c_add_72be8 16 = .ok (.iload_n 3, 1) := by decide +kernel
theorem dJx4a65c_add_72be8_17 : decode cJx4a65c_add_72be8 17 = .ok (.iconst 1, 1) := by decide +kernel
theorem dJx4a65c_add_72be8_18 : decode cJx4a65c_add_72be8 18 = .ok (.iadd, 1) := by decide +kernel
theorem dJx4a65c_add_72be8_19 : decode cJx4a65c_add_72be8 19 = .ok (.putfield 48, 3) := by decide +kernel
theorem dJx4a65c_add_72be8_2 : decode cJx4a65c_add_72be8 2 = .ok (.arraylength, 1) := by decide +kernel
theorem dJx4a65c_add_72be8_22 : decode cJx4a65c_add_72be8 22 = .ok (.return_, 1) := by decide +kernel
theorem dJx4a65c_add_72be8_3 : decode cJx4a65c_add_72be8 3 = .ok (.if_icmp .ne 8, 3) := by decide +kernel
theorem dJx4a65c_add_72be8_6 : decode cJx4a65c_add_72be8 6 = .ok (.aload_n 0, 1) := by decide +kernel
theorem dJx4a65c_add_72be8_7 : decode cJx4a65c_add_72be8 7 = .ok (.invokevirtual 129, 3) := by decide +kernel
theorem dJx4a65c_add_9ea2d_0 : decode cJx4a65c_add_9ea2d 0 = .ok (.aload_n 0, 1) := by decide +kernel
theorem dJx4a65c_add_9ea2d_1 : decode cJx4a65c_add_9ea2d 1 = .ok (.dup, 1) := by decide +kernel
theorem dJx4a65c_add_9ea2d_10 : decode cJx4a65c_add_9ea2d 10 = .ok (.aload_n 0, 1) := by decide +kernel
theorem dJx4a65c_add_9ea2d_11 : decode cJx4a65c_add_9ea2d 11 = .ok (.aload_n 1, 1) := by decide +kernel
theorem dJx4a65c_add_9ea2d_12 : decode cJx4a65c_add_9ea2d 12 = .ok (.aload_n 0, 1) := by decide +kernel
theorem dJx4a65c_add_9ea2d_13 : decode cJx4a65c_add_9ea2d 13 = .ok (.getfield 9, 3) := by decide +kernel
theorem dJx4a65c_add_9ea2d_16 : decode cJx4a65c_add_9ea2d 16 = .ok (.aload_n 0, 1) := by decide +kernel
theorem dJx4a65c_add_9ea2d_17 : decode cJx4a65c_add_9ea2d 17 = .ok (.getfield 48, 3) := by decide +kernel
theorem dJx4a65c_add_9ea2d_2 : decode cJx4a65c_add_9ea2d 2 = .ok (.getfield 63, 3) := by decide +kernel
theorem dJx4a65c_add_9ea2d_20 : decode cJx4a65c_add_9ea2d 20 = .ok (.invokevirtual 131, 3) := by decide +kernel
theorem dJx4a65c_add_9ea2d_23 : decode cJx4a65c_add_9ea2d 23 = .ok (.iconst 1, 1) := by decide +kernel
theorem dJx4a65c_add_9ea2d_24 : decode cJx4a65c_add_9ea2d 24 = .ok (.ireturn, 1) := by decide +kernel
theorem dJx4a65c_add_9ea2d_5 : decode cJx4a65c_add_9ea2d 5 = .ok (.iconst 1, 1) := by decide +kernel
theorem dJx4a65c_add_9ea2d_6 : decode cJx4a65c_add_9ea2d 6 = .ok (.iadd, 1) := by decide +kernel
theorem dJx4a65c_add_9ea2d_7 : decode cJx4a65c_add_9ea2d 7 = .ok (.putfield 63, 3) := by decide +kernel
theorem dJx4a65c_grow_92f84_0 : decode cJx4a65c_grow_92f84 0 = .ok (.aload_n 0, 1) := by decide +kernel
theorem dJx4a65c_grow_92f84_1 : decode cJx4a65c_grow_92f84 1 = .ok (.getfield 9, 3) := by decide +kernel
theorem dJx4a65c_grow_92f84_10 : decode cJx4a65c_grow_92f84 10 = .ok (.aload_n 0, 1) := by decide +kernel
theorem dJx4a65c_grow_92f84_11 : decode cJx4a65c_grow_92f84 11 = .ok (.getfield 9, 3) := by decide +kernel
theorem dJx4a65c_grow_92f84_14 : decode cJx4a65c_grow_92f84 14 = .ok (.getstatic 39, 3) := by decide +kernel
theorem dJx4a65c_grow_92f84_17 : decode cJx4a65c_grow_92f84 17 = .ok (.if_acmp .eq 28, 3) := by decide +kernel
theorem dJx4a65c_grow_92f84_4 : decode cJx4a65c_grow_92f84 4 = .ok (.arraylength, 1) := by decide +kernel
theorem dJx4a65c_grow_92f84_45 : decode cJx4a65c_grow_92f84 45 = .ok (.aload_n 0, 1) := by decide +kernel
theorem dJx4a65c_grow_92f84_46 : decode cJx4a65c_grow_92f84 46 = .ok (.bipush 10, 2) := by decide +kernel
theorem dJx4a65c_grow_92f84_48 : decode cJx4a65c_grow_92f84 48 = .ok (.iload_n 1, 1) := by decide +kernel
theorem dJx4a65c_grow_92f84_49 : decode cJx4a65c_grow_92f84 49 = .ok (.invokestatic 79, 3) := by decide +kernel
theorem dJx4a65c_grow_92f84_5 : decode cJx4a65c_grow_92f84 5 = .ok (.istore_n 2, 1) := by decide +kernel
theorem dJx4a65c_grow_92f84_52 : decode cJx4a65c_grow_92f84 52 = .ok (.anewarray 7, 3) := by decide +kernel
theorem dJx4a65c_grow_92f84_55 : decode cJx4a65c_grow_92f84 55 = .ok (.dup_x1, 1) := by decide +kernel
theorem dJx4a65c_grow_92f84_56 : decode cJx4a65c_grow_92f84 56 = .ok (.putfield 9, 3) := by decide +kernel
theorem dJx4a65c_grow_92f84_59 : decode cJx4a65c_grow_92f84 59 = .ok (.areturn, 1) := by decide +kernel
theorem dJx4a65c_grow_92f84_6 : decode cJx4a65c_grow_92f84 6 = .ok (.iload_n 2, 1) := by decide +kernel
theorem dJx4a65c_grow_92f84_7 : decode cJx4a65c_grow_92f84 7 = .ok (.ifCond .gt 13, 3) := by decide +kernel
theorem dJx4a65c_grow_d5877_0 : decode cJx4a65c_grow_d5877 0 = .ok (.aload_n 0, 1) := by decide +kernel
theorem dJx4a65c_grow_d5877_1 : decode cJx4a65c_grow_d5877 1 = .ok (.aload_n 0, 1) := by decide +kernel
theorem dJx4a65c_grow_d5877_10 : decode cJx4a65c_grow_d5877 10 = .ok (.areturn, 1) := by decide +kernel
theorem dJx4a65c_grow_d5877_2 : decode cJx4a65c_grow_d5877 2 = .ok (.getfield 48, 3) := by decide +kernel
theorem dJx4a65c_grow_d5877_5 : decode cJx4a65c_grow_d5877 5 = .ok (.iconst 1, 1) := by decide +kernel
theorem dJx4a65c_grow_d5877_6 : decode cJx4a65c_grow_d5877 6 = .ok (.iadd, 1) := by decide +kernel
theorem dJx4a65c_grow_d5877_7 : decode cJx4a65c_grow_d5877 7 = .ok (.invokevirtual 69, 3) := by decide +kernel
theorem dJx4a65c_init_da8c8_0 : decode cJx4a65c_init_da8c8 0 = .ok (.aload_n 0, 1) := by decide +kernel
theorem dJx4a65c_init_da8c8_1 : decode cJx4a65c_init_da8c8 1 = .ok (.invokespecial 1, 3) := by decide +kernel
theorem dJx4a65c_init_da8c8_11 : decode cJx4a65c_init_da8c8 11 = .ok (.return_, 1) := by decide +kernel
theorem dJx4a65c_init_da8c8_4 : decode cJx4a65c_init_da8c8 4 = .ok (.aload_n 0, 1) := by decide +kernel
theorem dJx4a65c_init_da8c8_5 : decode cJx4a65c_init_da8c8 5 = .ok (.getstatic 39, 3) := by decide +kernel
theorem dJx4a65c_init_da8c8_8 : decode cJx4a65c_init_da8c8 8 = .ok (.putfield 9, 3) := by decide +kernel
theorem dJx4a65c_isEmpty_aae02_0 : decode cJx4a65c_isEmpty_aae02 0 = .ok (.aload_n 0, 1) := by decide +kernel
theorem dJx4a65c_isEmpty_aae02_1 : decode cJx4a65c_isEmpty_aae02 1 = .ok (.getfield 48, 3) := by decide +kernel
theorem dJx4a65c_isEmpty_aae02_12 : decode cJx4a65c_isEmpty_aae02 12 = .ok (.ireturn, 1) := by decide +kernel
theorem dJx4a65c_isEmpty_aae02_4 : decode cJx4a65c_isEmpty_aae02 4 = .ok (.ifCond .ne 7, 3) := by decide +kernel
theorem dJx4a65c_isEmpty_aae02_7 : decode cJx4a65c_isEmpty_aae02 7 = .ok (.iconst 1, 1) := by decide +kernel
theorem dJx4a65c_isEmpty_aae02_8 : decode cJx4a65c_isEmpty_aae02 8 = .ok (.goto 4, 3) := by decide +kernel
theorem dJx4a65c_iterator_32c93_0 : decode cJx4a65c_iterator_32c93 0 = .ok (.new 267, 3) := by decide +kernel
theorem dJx4a65c_iterator_32c93_3 : decode cJx4a65c_iterator_32c93 3 = .ok (.dup, 1) := by decide +kernel
theorem dJx4a65c_iterator_32c93_4 : decode cJx4a65c_iterator_32c93 4 = .ok (.aload_n 0, 1) := by decide +kernel
theorem dJx4a65c_iterator_32c93_5 : decode cJx4a65c_iterator_32c93 5 = .ok (.invokespecial 269, 3) := by decide +kernel
theorem dJx4a65c_iterator_32c93_8 : decode cJx4a65c_iterator_32c93 8 = .ok (.areturn, 1) := by decide +kernel
theorem dJxa1e45_init_da8c8_0 : decode cJxa1e45_init_da8c8 0 = .ok (.aload_n 0, 1) := by decide +kernel
theorem dJxa1e45_init_da8c8_1 : decode cJxa1e45_init_da8c8 1 = .ok (.invokespecial 1, 3) := by decide +kernel
theorem dJxa1e45_init_da8c8_4 : decode cJxa1e45_init_da8c8 4 = .ok (.return_, 1) := by decide +kernel
theorem dJxc12de_init_da8c8_0 : decode cJxc12de_init_da8c8 0 = .ok (.aload_n 0, 1) := by decide +kernel
theorem dJxc12de_init_da8c8_1 : decode cJxc12de_init_da8c8 1 = .ok (.invokespecial 1, 3) := by decide +kernel
theorem dJxc12de_init_da8c8_4 : decode cJxc12de_init_da8c8 4 = .ok (.aload_n 0, 1) := by decide +kernel
theorem dJxc12de_init_da8c8_5 : decode cJxc12de_init_da8c8 5 = .ok (.iconst 0, 1) := by decide +kernel
theorem dJxc12de_init_da8c8_6 : decode cJxc12de_init_da8c8 6 = .ok (.putfield 7, 3) := by decide +kernel
theorem dJxc12de_init_da8c8_9 : decode cJxc12de_init_da8c8 9 = .ok (.return_, 1) := by decide +kernel
abbrev wz_Jxa1e45_init_da8c8 : List Cond := .code yJxa1e45_init_da8c8 cJxa1e45_init_da8c8 1 none :: lw_good
set_option maxHeartbeats 4000000 in
set_option maxRecDepth 100000 in
/-- AbstractCollection() -/
theorem k_Jxa1e45_init_da8c8 (l : Launch) (G : va_G) (z : Nat) (h0 : Nat) (sz : Nat)  : Met l yJxa1e45_init_da8c8 wz_Jxa1e45_init_da8c8 ({ frames := 1, cells := 0, slots := 0, locals := 20 }) (va_Pc [.ref h0] (PR G z [] [] sz)) (va_Qv (fun (_ : Unit) => True) (fun (_ : Unit) (_ : State) => True) (zN sz)) 0 0 (zN sz) := by
  refine va_MetF (cc := cJxa1e45_init_da8c8) (maxL := 1) (ret := none) (by decide) rfl ?_
  intro p e s m args below meth c s₁ B hml hv
  obtain ⟨rfl, rfl, hP, hK, hG⟩ := hv
  have hx := B.exec
  have hb := B.bytes
  have hr := B.returns
  have hts := atoms_spec (ws := wz_Jxa1e45_init_da8c8) B.pre
  have hg : ∀ w ∈ lw_good, w.before _ s = true := fun w h => hts w (List.mem_cons_of_mem _ h)
  have hown : s.vm.findClass RJxa1e45 = some m.cls := findClass_of_methodNamed B.named
  have hlocks := B.notSynchronized
  have hin : meth.name = "<init>" := (name_of_methodNamed B.named B.method).1
  have hA : ∀ q : Nat, s.heap.size ≤ q → zN s.heap.size q := fun _ h => h
  have hS : va_S (zN s.heap.size) s.heap s.heap [] := va_S.rf
  have hl := lv_entry ([.ref h0]) (n := 1) (Nat.le_of_ble_eq_true rfl)
  rw [lg_entry_eq]
  generalize (lg_sl ([.ref h0]) ++ List.replicate (1 - (lg_sl ([.ref h0])).length) Slot.unset).toArray = ls at hl ⊢
  have hl : lv_has ls 1 [(0, .ref h0)] := hl
  refine lv_aload_n hx hb dJxa1e45_init_da8c8_0 rfl (lv_at hl 0 rfl) ?_
  refine W.objInit hx hb hown (hg _ q56) (hg _ q43) (hg _ q44) rfl (by rw [hml]; exact hl.1) rfl dJxa1e45_init_da8c8_1 (Nat.le_of_ble_eq_true rfl) (Nat.le_of_ble_eq_true rfl) ?_
  refine W.eq (g2 := F0 m 4 ls []) rfl ?_
  refine W.widen (k := 0) (n := 0) (Nat.le_of_ble_eq_true rfl) (Nat.le_of_ble_eq_true rfl) ?_
  exact W.vret hx hb hr (fun t ht hW => ⟨⟨(), rfl, trivial, trivial⟩, hS.F ht⟩) hS.2.2 dJxa1e45_init_da8c8_4

abbrev wz_Jxc12de_init_da8c8 : List Cond := .code yJxc12de_init_da8c8 cJxc12de_init_da8c8 1 none :: lw_good
set_option maxHeartbeats 4000000 in
set_option maxRecDepth 100000 in
/-- AbstractList() -/
theorem k_Jxc12de_init_da8c8 (l : Launch) (G : va_G) (z : Nat) (h0 : Nat) (c0 : Int32) (x1 : Value) (x2 : Value) (sz : Nat)  : Met l yJxc12de_init_da8c8 wz_Jxc12de_init_da8c8 ({ frames := 2, cells := 0, slots := 0, locals := 40 }) (va_Pc [.ref h0] (PW G z [(h0, .inr (3, [.int c0, x1, x2]))] [] sz)) (va_Qv (fun (_ : Unit) => True) (fun (_ : Unit) (t : State) => QW G [(h0, .inr (3, [.int 0, x1, x2]))] [] (va_A [(h0, .inr (3, [.int c0, x1, x2]))] sz) t) (va_A [(h0, .inr (3, [.int c0, x1, x2]))] sz)) 0 0 (va_A [(h0, .inr (3, [.int c0, x1, x2]))] sz) := by
  refine va_MetF (cc := cJxc12de_init_da8c8) (maxL := 1) (ret := none) (by decide) rfl ?_
  intro p e s m args below meth c s₁ B hml hv
  obtain ⟨rfl, rfl, hP, hK, hD0, hG⟩ := hv
  have hx := B.exec
  have hb := B.bytes
  have hr := B.returns
  have hts := atoms_spec (ws := wz_Jxc12de_init_da8c8) B.pre
  have hg : ∀ w ∈ lw_good, w.before _ s = true := fun w h => hts w (List.mem_cons_of_mem _ h)
  have hown : s.vm.findClass RJxc12de = some m.cls := findClass_of_methodNamed B.named
  have hlocks := B.notSynchronized
  have hin : meth.name = "<init>" := (name_of_methodNamed B.named B.method).1
  have hD := hD0.self (sz := s.heap.size)
  generalize hAe : va_A [(h0, .inr (3, [.int c0, x1, x2]))] s.heap.size = A at hD hG ⊢
  have hA : ∀ q : Nat, s.heap.size ≤ q → A q := fun q h => by rw [← hAe]; exact Or.inr h
  have hS : va_S A s.heap s.heap [] := va_S.rf
  have hl := lv_entry ([.ref h0]) (n := 1) (Nat.le_of_ble_eq_true rfl)
  rw [lg_entry_eq]
  generalize (lg_sl ([.ref h0]) ++ List.replicate (1 - (lg_sl ([.ref h0])).length) Slot.unset).toArray = ls at hl ⊢
  have hl : lv_has ls 1 [(0, .ref h0)] := hl
  refine lv_aload_n hx hb dJxc12de_init_da8c8_0 rfl (lv_at hl 0 rfl) ?_
  have hPc := hP.sub (ws' := []) [] rfl
  have hKc := hK.sub (tys' := []) [] rfl
  refine va_callv (va_runI (As := []) (rest := []) ⟨hx, hb, hml, hown, hts⟩ (k_Jxa1e45_init_da8c8 l G z h0 s.heap.size ) (cwI 0 hts (lw_goodAll q55) rfl rfl rfl (hg _ q2) (hg _ q53) (hg _ q54) rfl (by decide +kernel) ⟨Nat.le_of_ble_eq_true rfl, Nat.le_of_ble_eq_true rfl⟩) ⟨PR.blind, PR.of hPc hKc hG hS hA [.ref h0]⟩ rfl rfl hl.1 rfl (lv_room (Nat.le_of_ble_eq_true rfl)) dJxc12de_init_da8c8_1 ⟨Nat.le_of_ble_eq_true rfl, Nat.le_of_ble_eq_true rfl⟩) hS (fun q h9 h => zN.not h9 h) (fun q h => hA q (Nat.le_trans hS.1 h)) (fun u t_4 H_1 locs ht hvm hw_3 hB hz1 hk1 hS => ?_)
  have hP := hP.grown hk1
  refine W.widen (k := 0) (n := 0) (Nat.le_of_ble_eq_true rfl) (Nat.le_of_ble_eq_true rfl) ?_
  refine lv_aload_n hx hb dJxc12de_init_da8c8_4 rfl (lv_at hl 0 rfl) ?_
  refine lv_iconst (v := 0) hx hb dJxc12de_init_da8c8_5 (by decide) ?_
  refine va_put (D := G) (ci := 3) (v := .int 0) (ty := .int) (C := RJx4a65c) (T := TJx4a65c) (N := 3) hx hb hg in_Jx4a65c tyJx4a65c tyJx4a65c_ok nmJx4a65c hown hK hP hD hS 0 rfl rfl 0 (by decide) (hg _ q63) (fun _ h9 => h9) rfl (by decide +kernel) rfl rfl (Nat.le_of_ble_eq_true rfl) dJxc12de_init_da8c8_6 (fun H_5 locs hP hD hS => ?_)
  have hP : va_P G vwCl ([(h0, .inr (3, [.int 0, x1, x2]))]) H_5 := hP
  have hD : va_D A ([(h0, .inr (3, [.int 0, x1, x2]))]) := hD
  refine W.widen (k := 0) (n := 0) (Nat.le_of_ble_eq_true rfl) (Nat.le_of_ble_eq_true rfl) ?_
  have hP9 := hP.sub (ws' := [(h0, .inr (3, [.int 0, x1, x2]))]) [0] rfl
  have hD9 := hD.sub (ws' := [(h0, .inr (3, [.int 0, x1, x2]))]) [0] (by decide) rfl
  have hK9 := hK.sub (tys' := []) [] rfl
  exact W.vret hx hb hr (fun t ht hW => ⟨⟨(), rfl, trivial, QW.of hP9 hK9 hD9 ht hW.alike⟩, hS.F ht⟩) hS.2.2 dJxc12de_init_da8c8_9

abbrev wz_Jx4a65c_init_da8c8 : List Cond := .code yJx4a65c_init_da8c8 cJx4a65c_init_da8c8 1 none :: lw_good
set_option maxHeartbeats 4000000 in
set_option maxRecDepth 100000 in
/-- ArrayList() -/
theorem k_Jx4a65c_init_da8c8 (l : Launch) (G : va_G) (z : Nat) (h0 : Nat) (c0 : Int32) (x1 : Value) (x2 : Value) (sz : Nat)  : Met l yJx4a65c_init_da8c8 wz_Jx4a65c_init_da8c8 ({ frames := 3, cells := 0, slots := 0, locals := 60 }) (va_Pc [.ref h0] (PW G z [(h0, .inr (3, [.int c0, x1, x2]))] [] sz)) (va_Qv (fun (_ : Unit) => True) (fun (_ : Unit) (t : State) => QW G [(h0, .inr (3, [.int 0, .ref z, x2]))] [] (va_A [(h0, .inr (3, [.int c0, x1, x2]))] sz) t) (va_A [(h0, .inr (3, [.int c0, x1, x2]))] sz)) 0 0 (va_A [(h0, .inr (3, [.int c0, x1, x2]))] sz) := by
  refine va_MetF (cc := cJx4a65c_init_da8c8) (maxL := 1) (ret := none) (by decide) rfl ?_
  intro p e s m args below meth c s₁ B hml hv
  obtain ⟨rfl, rfl, hP, hK, hD0, hG⟩ := hv
  have hx := B.exec
  have hb := B.bytes
  have hr := B.returns
  have hts := atoms_spec (ws := wz_Jx4a65c_init_da8c8) B.pre
  have hg : ∀ w ∈ lw_good, w.before _ s = true := fun w h => hts w (List.mem_cons_of_mem _ h)
  have hown : s.vm.findClass RJx4a65c = some m.cls := findClass_of_methodNamed B.named
  have hlocks := B.notSynchronized
  have hin : meth.name = "<init>" := (name_of_methodNamed B.named B.method).1
  have hD := hD0.self (sz := s.heap.size)
  generalize hAe : va_A [(h0, .inr (3, [.int c0, x1, x2]))] s.heap.size = A at hD hG ⊢
  have hA : ∀ q : Nat, s.heap.size ≤ q → A q := fun q h => by rw [← hAe]; exact Or.inr h
  have hS : va_S A s.heap s.heap [] := va_S.rf
  have hl := lv_entry ([.ref h0]) (n := 1) (Nat.le_of_ble_eq_true rfl)
  rw [lg_entry_eq]
  generalize (lg_sl ([.ref h0]) ++ List.replicate (1 - (lg_sl ([.ref h0])).length) Slot.unset).toArray = ls at hl ⊢
  have hl : lv_has ls 1 [(0, .ref h0)] := hl
  refine lv_aload_n hx hb dJx4a65c_init_da8c8_0 rfl (lv_at hl 0 rfl) ?_
  have hPc := hP.sub (ws' := [(h0, .inr (3, [.int c0, x1, x2]))]) [0] rfl
  have hKc := hK.sub (tys' := []) [] rfl
  have hDc := hD.sub (ws' := [(h0, .inr (3, [.int c0, x1, x2]))]) [0] (by decide) rfl
  have hFc := va_free (wc := [(h0, .inr (3, [.int c0, x1, x2]))]) hD hS hA [0] rfl
  refine va_callv (va_runI (As := []) (rest := []) ⟨hx, hb, hml, hown, hts⟩ (k_Jxc12de_init_da8c8 l G z h0 c0 x1 x2 s.heap.size ) (cwI 0 hts (lw_goodAll q52) rfl rfl rfl (hg _ q3) (hg _ q50) (hg _ q51) rfl (by decide +kernel) ⟨Nat.le_of_ble_eq_true rfl, Nat.le_of_ble_eq_true rfl⟩) ⟨PW.blind, PW.of hPc hKc hDc hG hS hFc [.ref h0]⟩ rfl rfl hl.1 rfl (lv_room (Nat.le_of_ble_eq_true rfl)) dJx4a65c_init_da8c8_1 ⟨Nat.le_of_ble_eq_true rfl, Nat.le_of_ble_eq_true rfl⟩) hS (fun q _ h => hFc q h) hFc (fun u t_4 H_1 locs ht hvm hw_3 hB hz1 hk1 hS => ?_)
  obtain ⟨hP, hD, hK⟩ := QW.join (wr := []) (w1 := [(h0, .inr (3, [.int 0, x1, x2]))]) hP hD hK [0] [] rfl rfl (by decide) (by decide) hk1 hFc ht hvm hB
  have hP : va_P G vwCl ([(h0, .inr (3, [.int 0, x1, x2]))]) H_1 := hP
  have hD : va_D A ([(h0, .inr (3, [.int 0, x1, x2]))]) := hD
  have hK : va_K G vwCl [] s := hK
  refine W.widen (k := 0) (n := 0) (Nat.le_of_ble_eq_true rfl) (Nat.le_of_ble_eq_true rfl) ?_
  refine lv_aload_n hx hb dJx4a65c_init_da8c8_4 rfl (lv_at hl 0 rfl) ?_
  refine va_gets hx hb hG.2.2.1 hS hown (hg _ q57) (fun _ h9 => h9) dJx4a65c_init_da8c8_5 ?_
  refine va_put (D := G) (ci := 3) (v := .ref z) (ty := .array (.object "java/lang/Object")) (C := RJx4a65c) (T := TJx4a65c) (N := 3) hx hb hg in_Jx4a65c tyJx4a65c tyJx4a65c_ok nmJx4a65c hown hK hP hD hS 0 rfl rfl 1 (by decide) (hg _ q59) (fun _ h9 => h9) rfl (by decide +kernel) rfl rfl (Nat.le_of_ble_eq_true rfl) dJx4a65c_init_da8c8_8 (fun H_5 locs hP hD hS => ?_)
  have hP : va_P G vwCl ([(h0, .inr (3, [.int 0, .ref z, x2]))]) H_5 := hP
  have hD : va_D A ([(h0, .inr (3, [.int 0, .ref z, x2]))]) := hD
  refine W.widen (k := 0) (n := 0) (Nat.le_of_ble_eq_true rfl) (Nat.le_of_ble_eq_true rfl) ?_
  have hP9 := hP.sub (ws' := [(h0, .inr (3, [.int 0, .ref z, x2]))]) [0] rfl
  have hD9 := hD.sub (ws' := [(h0, .inr (3, [.int 0, .ref z, x2]))]) [0] (by decide) rfl
  have hK9 := hK.sub (tys' := []) [] rfl
  exact W.vret hx hb hr (fun t ht hW => ⟨⟨(), rfl, trivial, QW.of hP9 hK9 hD9 ht hW.alike⟩, hS.F ht⟩) hS.2.2 dJx4a65c_init_da8c8_11

abbrev wz_Jx4a65c_grow_92f84 : List Cond := .code yJx4a65c_grow_92f84 cJx4a65c_grow_92f84 4 (Option.some (Jvm.ClassFile.FieldType.array (Jvm.ClassFile.FieldType.object "java/lang/Object"))) :: lw_good
set_option maxHeartbeats 4000000 in
set_option maxRecDepth 100000 in
/-- grow(1) of an empty list -/
theorem k_Jx4a65c_grow_92f84 (l : Launch) (G : va_G) (z : Nat) (h0 : Nat) (c0 : Int32) (x2 : Value) (sz : Nat)  : Met l yJx4a65c_grow_92f84 wz_Jx4a65c_grow_92f84 ({ frames := 1, cells := 1, slots := 10, locals := 14 }) (va_Pc [.ref h0, .int 1] (PW G z [(h0, .inr (3, [.int c0, .ref z, x2]))] [] sz)) (va_Qr (fun (_ : Unit) => True) (fun (_ : Unit) (ra : Nat) (t : State) => ∃ (cy : ClassId), QW G [(h0, .inr (3, [.int c0, .ref ra, x2])), (ra, .inl (cy, 10, .inr (.inr (.inr (.inr (fun _ => none))))))] [(cy, .object "java/lang/Object")] (va_A [(h0, .inr (3, [.int c0, .ref z, x2]))] sz) t) (va_A [(h0, .inr (3, [.int c0, .ref z, x2]))] sz)) 1 10 (va_A [(h0, .inr (3, [.int c0, .ref z, x2]))] sz) := by
  refine va_MetF (cc := cJx4a65c_grow_92f84) (maxL := 4) (ret := (Option.some (Jvm.ClassFile.FieldType.array (Jvm.ClassFile.FieldType.object "java/lang/Object")))) (by decide) rfl ?_
  intro p e s m args below meth c s₁ B hml hv
  obtain ⟨rfl, rfl, hP, hK, hD0, hG⟩ := hv
  have hx := B.exec
  have hb := B.bytes
  have hr := B.returns
  have hts := atoms_spec (ws := wz_Jx4a65c_grow_92f84) B.pre
  have hg : ∀ w ∈ lw_good, w.before _ s = true := fun w h => hts w (List.mem_cons_of_mem _ h)
  have hown : s.vm.findClass RJx4a65c = some m.cls := findClass_of_methodNamed B.named
  have hlocks := B.notSynchronized
  have hD := hD0.self (sz := s.heap.size)
  generalize hAe : va_A [(h0, .inr (3, [.int c0, .ref z, x2]))] s.heap.size = A at hD hG ⊢
  have hA : ∀ q : Nat, s.heap.size ≤ q → A q := fun q h => by rw [← hAe]; exact Or.inr h
  have hS : va_S A s.heap s.heap [] := va_S.rf
  have hl := lv_entry ([.ref h0, .int 1]) (n := 4) (Nat.le_of_ble_eq_true rfl)
  rw [lg_entry_eq]
  generalize (lg_sl ([.ref h0, .int 1]) ++ List.replicate (4 - (lg_sl ([.ref h0, .int 1])).length) Slot.unset).toArray = ls at hl ⊢
  have hl : lv_has ls 4 [(0, .ref h0), (1, .int 1)] := hl
  refine lv_aload_n hx hb dJx4a65c_grow_92f84_0 rfl (lv_at hl 0 rfl) ?_
  refine va_get (D := G) (ci := 3) (v := .ref z) (C := RJx4a65c) (T := TJx4a65c) (N := 3) hx hb hg in_Jx4a65c hown hK hP 0 rfl rfl 1 (by decide) (hg _ q59) (fun _ h9 => h9) rfl dJx4a65c_grow_92f84_1 ?_
  refine va_tlen (v := 0) hx hb hG.2.2.2.1 hS rfl dJx4a65c_grow_92f84_4 ?_
  refine lv_istore_n (lv' := [(2, .int 0), (0, .ref h0), (1, .int 1)]) hx hb dJx4a65c_grow_92f84_5 rfl hl (by decide) rfl (fun ls hl => ?_)
  refine lv_iload_n hx hb dJx4a65c_grow_92f84_6 rfl (lv_at hl 0 rfl) ?_
  refine lv_if_gt (tgt := 20) hx hb dJx4a65c_grow_92f84_7 (by decide) (fun c_1 => absurd c_1 (by decide)) (fun c_1 => ?_)
  refine lv_aload_n hx hb dJx4a65c_grow_92f84_10 rfl (lv_at hl 1 rfl) ?_
  refine va_get (D := G) (ci := 3) (v := .ref z) (C := RJx4a65c) (T := TJx4a65c) (N := 3) hx hb hg in_Jx4a65c hown hK hP 0 rfl rfl 1 (by decide) (hg _ q59) (fun _ h9 => h9) rfl dJx4a65c_grow_92f84_11 ?_
  refine va_gets hx hb hG.2.2.1 hS hown (hg _ q57) (fun _ h9 => h9) dJx4a65c_grow_92f84_14 ?_
  refine lv_acmp_eq (rx := some z) (ry := some z) (tgt := 45) hx hb dJx4a65c_grow_92f84_17 (by decide) (fun c_2 => ?_) (fun c_2 => absurd rfl c_2)
  refine lv_aload_n hx hb dJx4a65c_grow_92f84_45 rfl (lv_at hl 1 rfl) ?_
  refine lv_bipush (v := 10) hx hb dJx4a65c_grow_92f84_46 (by decide) ?_
  refine lv_iload_n hx hb dJx4a65c_grow_92f84_48 rfl (lv_at hl 2 rfl) ?_
  refine va_mmax hx hb (by rw [hml]; exact hl.1.symm) hown (hg _ mmax_lJx4a65c79) (hg _ mmax_s) (hg _ q15) (hg _ mmax_c) (Nat.le_of_ble_eq_true rfl) (Nat.le_of_ble_eq_true rfl) (Nat.le_of_ble_eq_true rfl) (Nat.le_of_ble_eq_true rfl) dJx4a65c_grow_92f84_49 ?_
  refine lv_topi (fun f_3 ef_3 => ?_)
  obtain rfl : f_3 = 10 := ef_3.trans (by decide)
  refine va_newq hx hb hown (hg _ q514) hG.2.2.2.2.2.2.1 hK hP hD hS hA (N' := 10) (by decide) (by decide +kernel) (Nat.le_of_ble_eq_true rfl) (Nat.le_of_ble_eq_true rfl) (Nat.le_of_ble_eq_true rfl) dJx4a65c_grow_92f84_52 (fun o_5 cy_4 H_6 hK hP hD hS => ?_)
  have hP : va_P G vwCl ([(h0, .inr (3, [.int c0, .ref z, x2])), (o_5, .inl (cy_4, 10, .inr (.inr (.inr (.inr (fun _ => none))))))]) H_6 := hP
  have hD : va_D A ([(h0, .inr (3, [.int c0, .ref z, x2])), (o_5, .inl (cy_4, 10, .inr (.inr (.inr (.inr (fun _ => none))))))]) := hD
  have hK : va_K G vwCl [(cy_4, .object "java/lang/Object")] s := hK
  refine W.widen (k := 1) (n := 10) (Nat.le_of_ble_eq_true rfl) (Nat.le_of_ble_eq_true rfl) ?_
  refine lv_dup_x1 hx hb dJx4a65c_grow_92f84_55 rfl rfl ?_
  refine va_put (D := G) (ci := 3) (v := .ref o_5) (ty := .array (.object "java/lang/Object")) (C := RJx4a65c) (T := TJx4a65c) (N := 3) hx hb hg in_Jx4a65c tyJx4a65c tyJx4a65c_ok nmJx4a65c hown hK hP hD hS 0 rfl rfl 1 (by decide) (hg _ q59) (fun _ h9 => h9) rfl (by decide +kernel) rfl rfl (Nat.le_of_ble_eq_true rfl) dJx4a65c_grow_92f84_56 (fun H_7 locs hP hD hS => ?_)
  have hP : va_P G vwCl ([(h0, .inr (3, [.int c0, .ref o_5, x2])), (o_5, .inl (cy_4, 10, .inr (.inr (.inr (.inr (fun _ => none))))))]) H_7 := hP
  have hD : va_D A ([(h0, .inr (3, [.int c0, .ref o_5, x2])), (o_5, .inl (cy_4, 10, .inr (.inr (.inr (.inr (fun _ => none))))))]) := hD
  refine W.widen (k := 1) (n := 10) (Nat.le_of_ble_eq_true rfl) (Nat.le_of_ble_eq_true rfl) ?_
  have hP9 := hP.sub (ws' := [(h0, .inr (3, [.int c0, .ref o_5, x2])), (o_5, .inl (cy_4, 10, .inr (.inr (.inr (.inr (fun _ => none))))))]) [0, 1] rfl
  have hD9 := hD.sub (ws' := [(h0, .inr (3, [.int c0, .ref o_5, x2])), (o_5, .inl (cy_4, 10, .inr (.inr (.inr (.inr (fun _ => none))))))]) [0, 1] (by decide) rfl
  have hK9 := hK.sub (tys' := [(cy_4, .object "java/lang/Object")]) [0] rfl
  exact W.aret (v := .ref o_5) hx hb hr (Or.inr ⟨_, rfl⟩) (Or.inr ⟨_, rfl⟩) (fun t ht hW => ⟨⟨(), o_5, rfl, trivial, ⟨cy_4, QW.of hP9 hK9 hD9 ht hW.alike⟩⟩, hS.F ht⟩) hS.2.2 dJx4a65c_grow_92f84_59

abbrev wz_Jx4a65c_grow_d5877 : List Cond := .code yJx4a65c_grow_d5877 cJx4a65c_grow_d5877 1 (Option.some (Jvm.ClassFile.FieldType.array (Jvm.ClassFile.FieldType.object "java/lang/Object"))) :: lw_good
set_option maxHeartbeats 4000000 in
set_option maxRecDepth 100000 in
/-- grow() of an empty list -/
theorem k_Jx4a65c_grow_d5877 (l : Launch) (G : va_G) (z : Nat) (h0 : Nat) (c0 : Int32) (sz : Nat)  : Met l yJx4a65c_grow_d5877 wz_Jx4a65c_grow_d5877 ({ frames := 2, cells := 1, slots := 10, locals := 37 }) (va_Pc [.ref h0] (PW G z [(h0, .inr (3, [.int c0, .ref z, .int 0]))] [] sz)) (va_Qr (fun (_ : Unit) => True) (fun (_ : Unit) (ra : Nat) (t : State) => ∃ (cy : ClassId), QW G [(h0, .inr (3, [.int c0, .ref ra, .int 0])), (ra, .inl (cy, 10, .inr (.inr (.inr (.inr (fun _ => none))))))] [(cy, .object "java/lang/Object")] (va_A [(h0, .inr (3, [.int c0, .ref z, .int 0]))] sz) t) (va_A [(h0, .inr (3, [.int c0, .ref z, .int 0]))] sz)) 1 10 (va_A [(h0, .inr (3, [.int c0, .ref z, .int 0]))] sz) := by
  refine va_MetF (cc := cJx4a65c_grow_d5877) (maxL := 1) (ret := (Option.some (Jvm.ClassFile.FieldType.array (Jvm.ClassFile.FieldType.object "java/lang/Object")))) (by decide) rfl ?_
  intro p e s m args below meth c s₁ B hml hv
  obtain ⟨rfl, rfl, hP, hK, hD0, hG⟩ := hv
  have hx := B.exec
  have hb := B.bytes
  have hr := B.returns
  have hts := atoms_spec (ws := wz_Jx4a65c_grow_d5877) B.pre
  have hg : ∀ w ∈ lw_good, w.before _ s = true := fun w h => hts w (List.mem_cons_of_mem _ h)
  have hown : s.vm.findClass RJx4a65c = some m.cls := findClass_of_methodNamed B.named
  have hlocks := B.notSynchronized
  have hD := hD0.self (sz := s.heap.size)
  generalize hAe : va_A [(h0, .inr (3, [.int c0, .ref z, .int 0]))] s.heap.size = A at hD hG ⊢
  have hA : ∀ q : Nat, s.heap.size ≤ q → A q := fun q h => by rw [← hAe]; exact Or.inr h
  have hS : va_S A s.heap s.heap [] := va_S.rf
  have hl := lv_entry ([.ref h0]) (n := 1) (Nat.le_of_ble_eq_true rfl)
  rw [lg_entry_eq]
  generalize (lg_sl ([.ref h0]) ++ List.replicate (1 - (lg_sl ([.ref h0])).length) Slot.unset).toArray = ls at hl ⊢
  have hl : lv_has ls 1 [(0, .ref h0)] := hl
  refine lv_aload_n hx hb dJx4a65c_grow_d5877_0 rfl (lv_at hl 0 rfl) ?_
  refine lv_aload_n hx hb dJx4a65c_grow_d5877_1 rfl (lv_at hl 0 rfl) ?_
  refine va_get (D := G) (ci := 3) (v := .int 0) (C := RJx4a65c) (T := TJx4a65c) (N := 3) hx hb hg in_Jx4a65c hown hK hP 0 rfl rfl 2 (by decide) (hg _ q62) (fun _ h9 => h9) rfl dJx4a65c_grow_d5877_2 ?_
  refine lv_iconst (v := 1) hx hb dJx4a65c_grow_d5877_5 (by decide) ?_
  refine lv_iadd hx hb dJx4a65c_grow_d5877_6 ?_
  refine lv_topi (fun f_1 ef_1 => ?_)
  obtain rfl : f_1 = 1 := ef_1.trans (by decide)
  have hPc := hP.sub (ws' := [(h0, .inr (3, [.int c0, .ref z, .int 0]))]) [0] rfl
  have hKc := hK.sub (tys' := []) [] rfl
  have hDc := hD.sub (ws' := [(h0, .inr (3, [.int c0, .ref z, .int 0]))]) [0] (by decide) rfl
  have hFc := va_free (wc := [(h0, .inr (3, [.int c0, .ref z, .int 0]))]) hD hS hA [0] rfl
  refine va_callr (va_runV (As := [.int 1]) (rest := []) ⟨hx, hb, hml, hown, hts⟩ (k_Jx4a65c_grow_92f84 l G z h0 c0 (.int 0) s.heap.size ) (cwV 1 hts (lw_goodApp (lw_4 q460 q462 qs13 q4) q463) rfl rfl rfl (by decide +kernel) ⟨Nat.le_of_ble_eq_true rfl, Nat.le_of_ble_eq_true rfl⟩) ⟨PW.blind, va_recv hK hP (ci := 3) (q0 := 0) rfl rfl, PW.of hPc hKc hDc hG hS hFc [.ref h0, .int 1]⟩ rfl rfl hl.1 rfl (lv_room (Nat.le_of_ble_eq_true rfl)) dJx4a65c_grow_d5877_7 ⟨Nat.le_of_ble_eq_true rfl, Nat.le_of_ble_eq_true rfl⟩) hS (fun q _ h => hFc q h) hFc (fun u r_3 t_5 H_2 locs ht hvm hw_4 hB hz1 hk1 hS => ?_)
  obtain ⟨cy_6, hB⟩ := hB
  obtain ⟨hP, hD, hK⟩ := QW.join (wr := []) (w1 := [(h0, .inr (3, [.int c0, .ref r_3, (.int 0)])), (r_3, .inl (cy_6, 10, .inr (.inr (.inr (.inr (fun _ => none))))))]) hP hD hK [0] [] rfl rfl (by decide) (by decide) hk1 hFc ht hvm hB
  have hP : va_P G vwCl ([(h0, .inr (3, [.int c0, .ref r_3, (.int 0)])), (r_3, .inl (cy_6, 10, .inr (.inr (.inr (.inr (fun _ => none))))))]) H_2 := hP
  have hD : va_D A ([(h0, .inr (3, [.int c0, .ref r_3, (.int 0)])), (r_3, .inl (cy_6, 10, .inr (.inr (.inr (.inr (fun _ => none))))))]) := hD
  have hK : va_K G vwCl [(cy_6, .object "java/lang/Object")] s := hK
  refine W.widen (k := 1) (n := 10) (Nat.le_of_ble_eq_true rfl) (Nat.le_of_ble_eq_true rfl) ?_
  refine W.widen (k := 1) (n := 10) (Nat.le_of_ble_eq_true rfl) (Nat.le_of_ble_eq_true rfl) ?_
  have hP9 := hP.sub (ws' := [(h0, .inr (3, [.int c0, .ref r_3, .int 0])), (r_3, .inl (cy_6, 10, .inr (.inr (.inr (.inr (fun _ => none))))))]) [0, 1] rfl
  have hD9 := hD.sub (ws' := [(h0, .inr (3, [.int c0, .ref r_3, .int 0])), (r_3, .inl (cy_6, 10, .inr (.inr (.inr (.inr (fun _ => none))))))]) [0, 1] (by decide) rfl
  have hK9 := hK.sub (tys' := [(cy_6, .object "java/lang/Object")]) [0] rfl
  exact W.aret (v := .ref r_3) hx hb hr (Or.inr ⟨_, rfl⟩) (Or.inr ⟨_, rfl⟩) (fun t ht hW => ⟨⟨(), r_3, rfl, trivial, ⟨cy_6, QW.of hP9 hK9 hD9 ht hW.alike⟩⟩, hS.F ht⟩) hS.2.2 dJx4a65c_grow_d5877_10

abbrev wz_Jx4a65c_add_72be8 : List Cond := .code yJx4a65c_add_72be8 cJx4a65c_add_72be8 4 none :: lw_good
set_option maxHeartbeats 4000000 in
set_option maxRecDepth 100000 in
/-- add(e, empty, 0) -/
theorem k_Jx4a65c_add_72be8 (l : Launch) (G : va_G) (z : Nat) (h0 : Nat) (c0 : Int32) (v : Nat) (ci : Nat) (rc : vw_C) (fs : List Value) (sz : Nat) (hc9 : vwCl[ci]? = some rc) (hca9 : Cond.castable rc.1 "java/lang/Object" ∈ lw_face) : Met l yJx4a65c_add_72be8 wz_Jx4a65c_add_72be8 ({ frames := 3, cells := 1, slots := 10, locals := 57 }) (va_Pc [.ref h0, .ref v, .ref z, .int 0] (PW G z [(h0, .inr (3, [.int c0, .ref z, .int 0])), (v, .inr (ci, fs))] [] sz)) (va_Qv (fun (_ : Unit) => True) (fun (_ : Unit) (t : State) => ∃ (qa : Nat), QW G [(h0, .inr (3, [.int c0, .ref qa, .int 1])), (v, .inr (ci, fs))] [] (va_A [(h0, .inr (3, [.int c0, .ref z, .int 0])), (v, .inr (ci, fs))] sz) t) (va_A [(h0, .inr (3, [.int c0, .ref z, .int 0])), (v, .inr (ci, fs))] sz)) 1 10 (va_A [(h0, .inr (3, [.int c0, .ref z, .int 0])), (v, .inr (ci, fs))] sz) := by
  refine va_MetF (cc := cJx4a65c_add_72be8) (maxL := 4) (ret := none) (by decide) rfl ?_
  intro p e s m args below meth c s₁ B hml hv
  obtain ⟨rfl, rfl, hP, hK, hD0, hG⟩ := hv
  have hx := B.exec
  have hb := B.bytes
  have hr := B.returns
  have hts := atoms_spec (ws := wz_Jx4a65c_add_72be8) B.pre
  have hg : ∀ w ∈ lw_good, w.before _ s = true := fun w h => hts w (List.mem_cons_of_mem _ h)
  have hown : s.vm.findClass RJx4a65c = some m.cls := findClass_of_methodNamed B.named
  have hlocks := B.notSynchronized
  have hD := hD0.self (sz := s.heap.size)
  generalize hAe : va_A [(h0, .inr (3, [.int c0, .ref z, .int 0])), (v, .inr (ci, fs))] s.heap.size = A at hD hG ⊢
  have hA : ∀ q : Nat, s.heap.size ≤ q → A q := fun q h => by rw [← hAe]; exact Or.inr h
  have hS : va_S A s.heap s.heap [] := va_S.rf
  have hl := lv_entry ([.ref h0, .ref v, .ref z, .int 0]) (n := 4) (Nat.le_of_ble_eq_true rfl)
  rw [lg_entry_eq]
  generalize (lg_sl ([.ref h0, .ref v, .ref z, .int 0]) ++ List.replicate (4 - (lg_sl ([.ref h0, .ref v, .ref z, .int 0])).length) Slot.unset).toArray = ls at hl ⊢
  have hl : lv_has ls 4 [(0, .ref h0), (1, .ref v), (2, .ref z), (3, .int 0)] := hl
  refine lv_iload_n hx hb dJx4a65c_add_72be8_0 rfl (lv_at hl 3 rfl) ?_
  refine lv_aload_n hx hb dJx4a65c_add_72be8_1 rfl (lv_at hl 2 rfl) ?_
  refine va_tlen (v := 0) hx hb hG.2.2.2.1 hS rfl dJx4a65c_add_72be8_2 ?_
  refine lv_icmp_ne (tgt := 11) hx hb dJx4a65c_add_72be8_3 (by decide) (fun c_1 => absurd rfl c_1) (fun c_1 => ?_)
  refine lv_aload_n hx hb dJx4a65c_add_72be8_6 rfl (lv_at hl 0 rfl) ?_
  have hPc := hP.sub (ws' := [(h0, .inr (3, [.int c0, .ref z, .int 0]))]) [0] rfl
  have hKc := hK.sub (tys' := []) [] rfl
  have hDc := hD.sub (ws' := [(h0, .inr (3, [.int c0, .ref z, .int 0]))]) [0] (by decide) rfl
  have hFc := va_free (wc := [(h0, .inr (3, [.int c0, .ref z, .int 0]))]) hD hS hA [0] rfl
  refine va_callr (va_runV (As := []) (rest := []) ⟨hx, hb, hml, hown, hts⟩ (k_Jx4a65c_grow_d5877 l G z h0 c0 s.heap.size ) (cwV 0 hts (lw_goodApp (lw_4 q456 q458 qs12 q4) q459) rfl rfl rfl (by decide +kernel) ⟨Nat.le_of_ble_eq_true rfl, Nat.le_of_ble_eq_true rfl⟩) ⟨PW.blind, va_recv hK hP (ci := 3) (q0 := 0) rfl rfl, PW.of hPc hKc hDc hG hS hFc [.ref h0]⟩ rfl rfl hl.1 rfl (lv_room (Nat.le_of_ble_eq_true rfl)) dJx4a65c_add_72be8_7 ⟨Nat.le_of_ble_eq_true rfl, Nat.le_of_ble_eq_true rfl⟩) hS (fun q _ h => hFc q h) hFc (fun u r_3 t_5 H_2 locs ht hvm hw_4 hB hz1 hk1 hS => ?_)
  obtain ⟨cy_6, hB⟩ := hB
  obtain ⟨hP, hD, hK⟩ := QW.join (wr := [(v, .inr (ci, fs))]) (w1 := [(h0, .inr (3, [.int c0, .ref r_3, .int 0])), (r_3, .inl (cy_6, 10, .inr (.inr (.inr (.inr (fun _ => none))))))]) hP hD hK [0] [1] rfl rfl (by decide) (by decide) hk1 hFc ht hvm hB
  have hP : va_P G vwCl ([(v, .inr (ci, fs)), (h0, .inr (3, [.int c0, .ref r_3, .int 0])), (r_3, .inl (cy_6, 10, .inr (.inr (.inr (.inr (fun _ => none))))))]) H_2 := hP
  have hD : va_D A ([(v, .inr (ci, fs)), (h0, .inr (3, [.int c0, .ref r_3, .int 0])), (r_3, .inl (cy_6, 10, .inr (.inr (.inr (.inr (fun _ => none))))))]) := hD
  have hK : va_K G vwCl [(cy_6, .object "java/lang/Object")] s := hK
  refine W.widen (k := 1) (n := 10) (Nat.le_of_ble_eq_true rfl) (Nat.le_of_ble_eq_true rfl) ?_
  refine lv_astore_n (lv' := [(2, .ref r_3), (0, .ref h0), (1, .ref v), (3, .int 0)]) hx hb dJx4a65c_add_72be8_10 rfl hl (by decide) rfl (fun ls hl => ?_)
  refine lv_aload_n hx hb dJx4a65c_add_72be8_11 rfl (lv_at hl 0 rfl) ?_
  refine lv_iload_n hx hb dJx4a65c_add_72be8_12 rfl (lv_at hl 3 rfl) ?_
  refine lv_aload_n hx hb dJx4a65c_add_72be8_13 rfl (lv_at hl 2 rfl) ?_
  refine va_astqO hx hb hK hP hD hS 2 0 0 ci rfl rfl (hG.2.2.2.2.1 _ hca9) rfl hc9 (by unfold vp_in; decide +kernel) dJx4a65c_add_72be8_14 (fun H_7 locs hP hD hS => ?_)
  have hP : va_P G vwCl ([(v, .inr (ci, fs)), (h0, .inr (3, [.int c0, .ref r_3, .int 0])), (r_3, .inl (cy_6, 10, .inr (.inr (.inr (.inr (va_up (fun _ => none) (0 : Int32).toNatClampNeg (some v)))))))]) H_7 := hP
  have hD : va_D A ([(v, .inr (ci, fs)), (h0, .inr (3, [.int c0, .ref r_3, .int 0])), (r_3, .inl (cy_6, 10, .inr (.inr (.inr (.inr (va_up (fun _ => none) (0 : Int32).toNatClampNeg (some v)))))))]) := hD
  refine lv_aload_n hx hb dJx4a65c_add_72be8_15 rfl (lv_at hl 1 rfl) ?_
  refine lv_iload_n hx hb dJx4a65c_add_72be8_16 rfl (lv_at hl 3 rfl) ?_
  refine lv_iconst (v := 1) hx hb dJx4a65c_add_72be8_17 (by decide) ?_
  refine lv_iadd hx hb dJx4a65c_add_72be8_18 ?_
  refine lv_topi (fun f_8 ef_8 => ?_)
  obtain rfl : f_8 = 1 := ef_8.trans (by decide)
  refine va_put (D := G) (ci := 3) (v := .int 1) (ty := .int) (C := RJx4a65c) (T := TJx4a65c) (N := 3) hx hb hg in_Jx4a65c tyJx4a65c tyJx4a65c_ok nmJx4a65c hown hK hP hD hS 1 rfl rfl 2 (by decide) (hg _ q62) (fun _ h9 => h9) rfl (by decide +kernel) rfl rfl (Nat.le_of_ble_eq_true rfl) dJx4a65c_add_72be8_19 (fun H_9 locs hP hD hS => ?_)
  have hP : va_P G vwCl ([(v, .inr (ci, fs)), (h0, .inr (3, [.int c0, .ref r_3, .int 1])), (r_3, .inl (cy_6, 10, .inr (.inr (.inr (.inr (va_up (fun _ => none) (0 : Int32).toNatClampNeg (some v)))))))]) H_9 := hP
  have hD : va_D A ([(v, .inr (ci, fs)), (h0, .inr (3, [.int c0, .ref r_3, .int 1])), (r_3, .inl (cy_6, 10, .inr (.inr (.inr (.inr (va_up (fun _ => none) (0 : Int32).toNatClampNeg (some v)))))))]) := hD
  refine W.widen (k := 1) (n := 10) (Nat.le_of_ble_eq_true rfl) (Nat.le_of_ble_eq_true rfl) ?_
  have hP9 := hP.sub (ws' := [(h0, .inr (3, [.int c0, .ref r_3, .int 1])), (v, .inr (ci, fs))]) [1, 0] rfl
  have hD9 := hD.sub (ws' := [(h0, .inr (3, [.int c0, .ref r_3, .int 1])), (v, .inr (ci, fs))]) [1, 0] (by decide) rfl
  have hK9 := hK.sub (tys' := []) [] rfl
  exact W.vret hx hb hr (fun t ht hW => ⟨⟨(), rfl, trivial, ⟨r_3, QW.of hP9 hK9 hD9 ht hW.alike⟩⟩, hS.F ht⟩) hS.2.2 dJx4a65c_add_72be8_22

abbrev wz_Jx4a65c_add_9ea2d : List Cond := .code yJx4a65c_add_9ea2d cJx4a65c_add_9ea2d 2 (Option.some Jvm.ClassFile.FieldType.boolean) :: lw_good
set_option maxHeartbeats 4000000 in
set_option maxRecDepth 100000 in
/-- add(e) to an empty list -/
theorem k_Jx4a65c_add_9ea2d (l : Launch) (G : va_G) (z : Nat) (h0 : Nat) (c0 : Int32) (v : Nat) (ci : Nat) (rc : vw_C) (fs : List Value) (sz : Nat) (hc9 : vwCl[ci]? = some rc) (hca9 : Cond.castable rc.1 "java/lang/Object" ∈ lw_face) : Met l yJx4a65c_add_9ea2d wz_Jx4a65c_add_9ea2d ({ frames := 4, cells := 1, slots := 10, locals := 80 }) (va_Pc [.ref h0, .ref v] (PW G z [(h0, .inr (3, [.int c0, .ref z, .int 0])), (v, .inr (ci, fs))] [] sz)) (va_Qi (fun (r : Int32) (_ : Unit) => r = 1) (fun (_ : Unit) (t : State) => ∃ (c1 : Int32), ∃ (qa : Nat), QW G [(h0, .inr (3, [.int c1, .ref qa, .int 1])), (v, .inr (ci, fs))] [] (va_A [(h0, .inr (3, [.int c0, .ref z, .int 0])), (v, .inr (ci, fs))] sz) t) (va_A [(h0, .inr (3, [.int c0, .ref z, .int 0])), (v, .inr (ci, fs))] sz)) 1 10 (va_A [(h0, .inr (3, [.int c0, .ref z, .int 0])), (v, .inr (ci, fs))] sz) := by
  refine va_MetF (cc := cJx4a65c_add_9ea2d) (maxL := 2) (ret := (Option.some Jvm.ClassFile.FieldType.boolean)) (by decide) rfl ?_
  intro p e s m args below meth c s₁ B hml hv
  obtain ⟨rfl, rfl, hP, hK, hD0, hG⟩ := hv
  have hx := B.exec
  have hb := B.bytes
  have hr := B.returns
  have hts := atoms_spec (ws := wz_Jx4a65c_add_9ea2d) B.pre
  have hg : ∀ w ∈ lw_good, w.before _ s = true := fun w h => hts w (List.mem_cons_of_mem _ h)
  have hown : s.vm.findClass RJx4a65c = some m.cls := findClass_of_methodNamed B.named
  have hlocks := B.notSynchronized
  have hD := hD0.self (sz := s.heap.size)
  generalize hAe : va_A [(h0, .inr (3, [.int c0, .ref z, .int 0])), (v, .inr (ci, fs))] s.heap.size = A at hD hG ⊢
  have hA : ∀ q : Nat, s.heap.size ≤ q → A q := fun q h => by rw [← hAe]; exact Or.inr h
  have hS : va_S A s.heap s.heap [] := va_S.rf
  have hl := lv_entry ([.ref h0, .ref v]) (n := 2) (Nat.le_of_ble_eq_true rfl)
  rw [lg_entry_eq]
  generalize (lg_sl ([.ref h0, .ref v]) ++ List.replicate (2 - (lg_sl ([.ref h0, .ref v])).length) Slot.unset).toArray = ls at hl ⊢
  have hl : lv_has ls 2 [(0, .ref h0), (1, .ref v)] := hl
  refine lv_aload_n hx hb dJx4a65c_add_9ea2d_0 rfl (lv_at hl 0 rfl) ?_
  refine lv_dup hx hb dJx4a65c_add_9ea2d_1 rfl ?_
  refine va_get (D := G) (ci := 3) (v := .int c0) (C := RJx4a65c) (T := TJx4a65c) (N := 3) hx hb hg in_Jx4a65c hown hK hP 0 rfl rfl 0 (by decide) (hg _ q66) (fun x9 h9 => u_same (hg _ q65) x9 h9) rfl dJx4a65c_add_9ea2d_2 ?_
  refine lv_iconst (v := 1) hx hb dJx4a65c_add_9ea2d_5 (by decide) ?_
  refine lv_iadd hx hb dJx4a65c_add_9ea2d_6 ?_
  refine lv_topi (fun f_1 ef_1 => ?_)
  refine va_put (D := G) (ci := 3) (v := .int f_1) (ty := .int) (C := RJx4a65c) (T := TJx4a65c) (N := 3) hx hb hg in_Jx4a65c tyJx4a65c tyJx4a65c_ok nmJx4a65c hown hK hP hD hS 0 rfl rfl 0 (by decide) (hg _ q66) (fun x9 h9 => u_same (hg _ q65) x9 h9) rfl (by decide +kernel) rfl rfl (Nat.le_of_ble_eq_true rfl) dJx4a65c_add_9ea2d_7 (fun H_2 locs hP hD hS => ?_)
  have hP : va_P G vwCl ([(h0, .inr (3, [.int f_1, .ref z, .int 0])), (v, .inr (ci, fs))]) H_2 := hP
  have hD : va_D A ([(h0, .inr (3, [.int f_1, .ref z, .int 0])), (v, .inr (ci, fs))]) := hD
  refine lv_aload_n hx hb dJx4a65c_add_9ea2d_10 rfl (lv_at hl 0 rfl) ?_
  refine lv_aload_n hx hb dJx4a65c_add_9ea2d_11 rfl (lv_at hl 1 rfl) ?_
  refine lv_aload_n hx hb dJx4a65c_add_9ea2d_12 rfl (lv_at hl 0 rfl) ?_
  refine va_get (D := G) (ci := 3) (v := .ref z) (C := RJx4a65c) (T := TJx4a65c) (N := 3) hx hb hg in_Jx4a65c hown hK hP 0 rfl rfl 1 (by decide) (hg _ q59) (fun _ h9 => h9) rfl dJx4a65c_add_9ea2d_13 ?_
  refine lv_aload_n hx hb dJx4a65c_add_9ea2d_16 rfl (lv_at hl 0 rfl) ?_
  refine va_get (D := G) (ci := 3) (v := .int 0) (C := RJx4a65c) (T := TJx4a65c) (N := 3) hx hb hg in_Jx4a65c hown hK hP 0 rfl rfl 2 (by decide) (hg _ q62) (fun _ h9 => h9) rfl dJx4a65c_add_9ea2d_17 ?_
  have hPc := hP.sub (ws' := [(h0, .inr (3, [.int f_1, .ref z, .int 0])), (v, .inr (ci, fs))]) [0, 1] rfl
  have hKc := hK.sub (tys' := []) [] rfl
  have hDc := hD.sub (ws' := [(h0, .inr (3, [.int f_1, .ref z, .int 0])), (v, .inr (ci, fs))]) [0, 1] (by decide) rfl
  have hFc := va_free (wc := [(h0, .inr (3, [.int f_1, .ref z, .int 0])), (v, .inr (ci, fs))]) hD hS hA [0, 1] rfl
  refine va_callv (va_runV (As := [.ref v, .ref z, .int 0]) (rest := []) ⟨hx, hb, hml, hown, hts⟩ (k_Jx4a65c_add_72be8 l G z h0 f_1 v ci rc fs H_2.size hc9 hca9) (cwV 3 hts (lw_goodApp (lw_4 q452 q454 qs11 q4) q455) rfl rfl rfl (by decide +kernel) ⟨Nat.le_of_ble_eq_true rfl, Nat.le_of_ble_eq_true rfl⟩) ⟨PW.blind, va_recv hK hP (ci := 3) (q0 := 0) rfl rfl, PW.of hPc hKc hDc hG hS hFc [.ref h0, .ref v, .ref z, .int 0]⟩ rfl rfl hl.1 rfl (lv_room (Nat.le_of_ble_eq_true rfl)) dJx4a65c_add_9ea2d_20 ⟨Nat.le_of_ble_eq_true rfl, Nat.le_of_ble_eq_true rfl⟩) hS (fun q _ h => hFc q h) hFc (fun u t_6 H_3 locs ht hvm hw_5 hB hz1 hk1 hS => ?_)
  obtain ⟨qa_7, hB⟩ := hB
  obtain ⟨hP, hD, hK⟩ := QW.join (wr := []) (w1 := [(h0, .inr (3, [.int f_1, .ref qa_7, .int 1])), (v, .inr (ci, fs))]) hP hD hK [0, 1] [] rfl rfl (by decide) (by decide) hk1 hFc ht hvm hB
  have hP : va_P G vwCl ([(h0, .inr (3, [.int f_1, .ref qa_7, .int 1])), (v, .inr (ci, fs))]) H_3 := hP
  have hD : va_D A ([(h0, .inr (3, [.int f_1, .ref qa_7, .int 1])), (v, .inr (ci, fs))]) := hD
  have hK : va_K G vwCl [] s := hK
  refine W.widen (k := 1) (n := 10) (Nat.le_of_ble_eq_true rfl) (Nat.le_of_ble_eq_true rfl) ?_
  refine lv_iconst (v := 1) hx hb dJx4a65c_add_9ea2d_23 (by decide) ?_
  refine W.widen (k := 1) (n := 10) (Nat.le_of_ble_eq_true rfl) (Nat.le_of_ble_eq_true rfl) ?_
  have hP9 := hP.sub (ws' := [(h0, .inr (3, [.int f_1, .ref qa_7, .int 1])), (v, .inr (ci, fs))]) [0, 1] rfl
  have hD9 := hD.sub (ws' := [(h0, .inr (3, [.int f_1, .ref qa_7, .int 1])), (v, .inr (ci, fs))]) [0, 1] (by decide) rfl
  have hK9 := hK.sub (tys' := []) [] rfl
  exact W.zret (v := 1) hx hb hr rfl (fun t ht hW => ⟨⟨1, (), rfl, rfl, ⟨f_1, qa_7, QW.of hP9 hK9 hD9 ht hW.alike⟩⟩, hS.F ht⟩) hS.2.2 dJx4a65c_add_9ea2d_24

abbrev wz_Jx35411_init_45d68 : List Cond := .code yJx35411_init_45d68 cJx35411_init_45d68 2 none :: lw_good
set_option maxHeartbeats 4000000 in
set_option maxRecDepth 100000 in
/-- Itr(list) -/
theorem k_Jx35411_init_45d68 (l : Launch) (G : va_G) (z : Nat) (h0 : Nat) (x1 : Value) (x2 : Value) (x3 : Value) (h1 : Nat) (c0 : Int32) (e0 : Nat) (n0 : Int32) (sz : Nat)  : Met l yJx35411_init_45d68 wz_Jx35411_init_45d68 ({ frames := 1, cells := 0, slots := 0, locals := 20 }) (va_Pc [.ref h0, .ref h1] (PW G z [(h0, .inr (2, [.int 0, x1, x2, x3])), (h1, .inr (3, [.int c0, .ref e0, .int n0]))] [] sz)) (va_Qv (fun (_ : Unit) => True) (fun (_ : Unit) (t : State) => QW G [(h0, .inr (2, [.int 0, .int (-1), .int c0, .ref h1])), (h1, .inr (3, [.int c0, .ref e0, .int n0]))] [] (va_A [(h0, .inr (2, [.int 0, x1, x2, x3])), (h1, .inr (3, [.int c0, .ref e0, .int n0]))] sz) t) (va_A [(h0, .inr (2, [.int 0, x1, x2, x3])), (h1, .inr (3, [.int c0, .ref e0, .int n0]))] sz)) 0 0 (va_A [(h0, .inr (2, [.int 0, x1, x2, x3])), (h1, .inr (3, [.int c0, .ref e0, .int n0]))] sz) := by
  refine va_MetF (cc := cJx35411_init_45d68) (maxL := 2) (ret := none) (by decide) rfl ?_
  intro p e s m args below meth c s₁ B hml hv
  obtain ⟨rfl, rfl, hP, hK, hD0, hG⟩ := hv
  have hx := B.exec
  have hb := B.bytes
  have hr := B.returns
  have hts := atoms_spec (ws := wz_Jx35411_init_45d68) B.pre
  have hg : ∀ w ∈ lw_good, w.before _ s = true := fun w h => hts w (List.mem_cons_of_mem _ h)
  have hown : s.vm.findClass RJx35411 = some m.cls := findClass_of_methodNamed B.named
  have hlocks := B.notSynchronized
  have hin : meth.name = "<init>" := (name_of_methodNamed B.named B.method).1
  have hD := hD0.self (sz := s.heap.size)
  generalize hAe : va_A [(h0, .inr (2, [.int 0, x1, x2, x3])), (h1, .inr (3, [.int c0, .ref e0, .int n0]))] s.heap.size = A at hD hG ⊢
  have hA : ∀ q : Nat, s.heap.size ≤ q → A q := fun q h => by rw [← hAe]; exact Or.inr h
  have hS : va_S A s.heap s.heap [] := va_S.rf
  have hl := lv_entry ([.ref h0, .ref h1]) (n := 2) (Nat.le_of_ble_eq_true rfl)
  rw [lg_entry_eq]
  generalize (lg_sl ([.ref h0, .ref h1]) ++ List.replicate (2 - (lg_sl ([.ref h0, .ref h1])).length) Slot.unset).toArray = ls at hl ⊢
  have hl : lv_has ls 2 [(0, .ref h0), (1, .ref h1)] := hl
  refine lv_aload_n hx hb dJx35411_init_45d68_0 rfl (lv_at hl 0 rfl) ?_
  refine lv_aload_n hx hb dJx35411_init_45d68_1 rfl (lv_at hl 1 rfl) ?_
  refine va_putF (D := G) (ci := 2) (v := .ref h1) (ty := .object "java/util/ArrayList") (C := RJx35411) (T := TJx35411) (N := 4) hx hb hg in_Jx35411 tyJx35411 tyJx35411_ok nmJx35411 hown hK hP hD hS 0 rfl rfl 3 (by decide) (hg _ q1366) (fun _ h9 => h9) rfl hin rfl (by decide +kernel) rfl rfl (Nat.le_of_ble_eq_true rfl) dJx35411_init_45d68_2 (fun H_1 locs hP hD hS => ?_)
  have hP : va_P G vwCl ([(h0, .inr (2, [.int 0, x1, x2, .ref h1])), (h1, .inr (3, [.int c0, .ref e0, .int n0]))]) H_1 := hP
  have hD : va_D A ([(h0, .inr (2, [.int 0, x1, x2, .ref h1])), (h1, .inr (3, [.int c0, .ref e0, .int n0]))]) := hD
  refine lv_aload_n hx hb dJx35411_init_45d68_5 rfl (lv_at hl 0 rfl) ?_
  refine W.objInit hx hb hown (hg _ q1362) (hg _ q43) (hg _ q44) rfl (by rw [hml]; exact hl.1) rfl dJx35411_init_45d68_6 (Nat.le_of_ble_eq_true rfl) (Nat.le_of_ble_eq_true rfl) ?_
  refine W.eq (g2 := F0 m 9 ls []) rfl ?_
  refine lv_aload_n hx hb dJx35411_init_45d68_9 rfl (lv_at hl 0 rfl) ?_
  refine lv_iconst (v := (-1)) hx hb dJx35411_init_45d68_10 (by decide) ?_
  refine va_put (D := G) (ci := 2) (v := .int (-1)) (ty := .int) (C := RJx35411) (T := TJx35411) (N := 4) hx hb hg in_Jx35411 tyJx35411 tyJx35411_ok nmJx35411 hown hK hP hD hS 0 rfl rfl 1 (by decide) (hg _ q1364) (fun _ h9 => h9) rfl (by decide +kernel) rfl rfl (Nat.le_of_ble_eq_true rfl) dJx35411_init_45d68_11 (fun H_2 locs hP hD hS => ?_)
  have hP : va_P G vwCl ([(h0, .inr (2, [.int 0, .int (-1), x2, .ref h1])), (h1, .inr (3, [.int c0, .ref e0, .int n0]))]) H_2 := hP
  have hD : va_D A ([(h0, .inr (2, [.int 0, .int (-1), x2, .ref h1])), (h1, .inr (3, [.int c0, .ref e0, .int n0]))]) := hD
  refine lv_aload_n hx hb dJx35411_init_45d68_14 rfl (lv_at hl 0 rfl) ?_
  refine lv_aload_n hx hb dJx35411_init_45d68_15 rfl (lv_at hl 0 rfl) ?_
  refine va_get (D := G) (ci := 2) (v := .ref h1) (C := RJx35411) (T := TJx35411) (N := 4) hx hb hg in_Jx35411 hown hK hP 0 rfl rfl 3 (by decide) (hg _ q1366) (fun _ h9 => h9) rfl dJx35411_init_45d68_16 ?_
  refine va_get (D := G) (ci := 3) (v := .int c0) (C := RJx4a65c) (T := TJx4a65c) (N := 3) hx hb hg in_Jx4a65c hown hK hP 1 rfl rfl 0 (by decide) (hg _ q64) (fun x9 h9 => u_same (hg _ q65) x9 h9) rfl dJx35411_init_45d68_19 ?_
  refine va_put (D := G) (ci := 2) (v := .int c0) (ty := .int) (C := RJx35411) (T := TJx35411) (N := 4) hx hb hg in_Jx35411 tyJx35411 tyJx35411_ok nmJx35411 hown hK hP hD hS 0 rfl rfl 2 (by decide) (hg _ q1365) (fun _ h9 => h9) rfl (by decide +kernel) rfl rfl (Nat.le_of_ble_eq_true rfl) dJx35411_init_45d68_22 (fun H_3 locs hP hD hS => ?_)
  have hP : va_P G vwCl ([(h0, .inr (2, [.int 0, .int (-1), .int c0, .ref h1])), (h1, .inr (3, [.int c0, .ref e0, .int n0]))]) H_3 := hP
  have hD : va_D A ([(h0, .inr (2, [.int 0, .int (-1), .int c0, .ref h1])), (h1, .inr (3, [.int c0, .ref e0, .int n0]))]) := hD
  refine W.widen (k := 0) (n := 0) (Nat.le_of_ble_eq_true rfl) (Nat.le_of_ble_eq_true rfl) ?_
  have hP9 := hP.sub (ws' := [(h0, .inr (2, [.int 0, .int (-1), .int c0, .ref h1])), (h1, .inr (3, [.int c0, .ref e0, .int n0]))]) [0, 1] rfl
  have hD9 := hD.sub (ws' := [(h0, .inr (2, [.int 0, .int (-1), .int c0, .ref h1])), (h1, .inr (3, [.int c0, .ref e0, .int n0]))]) [0, 1] (by decide) rfl
  have hK9 := hK.sub (tys' := []) [] rfl
  exact W.vret hx hb hr (fun t ht hW => ⟨⟨(), rfl, trivial, QW.of hP9 hK9 hD9 ht hW.alike⟩, hS.F ht⟩) hS.2.2 dJx35411_init_45d68_25

abbrev wz_Jx4a65c_iterator_32c93 : List Cond := .code yJx4a65c_iterator_32c93 cJx4a65c_iterator_32c93 1 (Option.some (Jvm.ClassFile.FieldType.object "java/util/Iterator")) :: lw_good
set_option maxHeartbeats 4000000 in
set_option maxRecDepth 100000 in
/-- iterator() -/
theorem k_Jx4a65c_iterator_32c93 (l : Launch) (G : va_G) (z : Nat) (h0 : Nat) (c0 : Int32) (e0 : Nat) (n0 : Int32) (sz : Nat)  : Met l yJx4a65c_iterator_32c93 wz_Jx4a65c_iterator_32c93 ({ frames := 2, cells := 1, slots := 4, locals := 41 }) (va_Pc [.ref h0] (PW G z [(h0, .inr (3, [.int c0, .ref e0, .int n0]))] [] sz)) (va_Qr (fun (_ : Unit) => True) (fun (_ : Unit) (ra : Nat) (t : State) => QW G [(h0, .inr (3, [.int c0, .ref e0, .int n0])), (ra, .inr (2, [.int 0, .int (-1), .int c0, .ref h0]))] [] (va_A [(h0, .inr (3, [.int c0, .ref e0, .int n0]))] sz) t) (va_A [(h0, .inr (3, [.int c0, .ref e0, .int n0]))] sz)) 1 4 (va_A [(h0, .inr (3, [.int c0, .ref e0, .int n0]))] sz) := by
  refine va_MetF (cc := cJx4a65c_iterator_32c93) (maxL := 1) (ret := (Option.some (Jvm.ClassFile.FieldType.object "java/util/Iterator"))) (by decide) rfl ?_
  intro p e s m args below meth c s₁ B hml hv
  obtain ⟨rfl, rfl, hP, hK, hD0, hG⟩ := hv
  have hx := B.exec
  have hb := B.bytes
  have hr := B.returns
  have hts := atoms_spec (ws := wz_Jx4a65c_iterator_32c93) B.pre
  have hg : ∀ w ∈ lw_good, w.before _ s = true := fun w h => hts w (List.mem_cons_of_mem _ h)
  have hown : s.vm.findClass RJx4a65c = some m.cls := findClass_of_methodNamed B.named
  have hlocks := B.notSynchronized
  have hD := hD0.self (sz := s.heap.size)
  generalize hAe : va_A [(h0, .inr (3, [.int c0, .ref e0, .int n0]))] s.heap.size = A at hD hG ⊢
  have hA : ∀ q : Nat, s.heap.size ≤ q → A q := fun q h => by rw [← hAe]; exact Or.inr h
  have hS : va_S A s.heap s.heap [] := va_S.rf
  have hl := lv_entry ([.ref h0]) (n := 1) (Nat.le_of_ble_eq_true rfl)
  rw [lg_entry_eq]
  generalize (lg_sl ([.ref h0]) ++ List.replicate (1 - (lg_sl ([.ref h0])).length) Slot.unset).toArray = ls at hl ⊢
  have hl : lv_has ls 1 [(0, .ref h0)] := hl
  refine va_new (ci := 2) (fs := [.int 0, .int 0, .int 0, .null]) (C := RJx35411) (T := TJx35411) (N := 4) hx hb hg in_Jx35411 tyJx35411 tyJx35411_ok hown (hg _ q1357) (hg _ q1358) (hg _ q26) hK hP hD hS hA rfl (fun j hj => by rcases (show j = 0 ∨ j = 1 ∨ j = 2 ∨ j = 3 by omega) with rfl | rfl | rfl | rfl <;> rfl) (Nat.le_of_ble_eq_true rfl) (Nat.le_of_ble_eq_true rfl) dJx4a65c_iterator_32c93_0 (fun o_1 H_2 hP hD hS => ?_)
  have hP : va_P G vwCl ([(h0, .inr (3, [.int c0, .ref e0, .int n0])), (o_1, .inr (2, [.int 0, .int 0, .int 0, .null]))]) H_2 := hP
  have hD : va_D A ([(h0, .inr (3, [.int c0, .ref e0, .int n0])), (o_1, .inr (2, [.int 0, .int 0, .int 0, .null]))]) := hD
  refine W.widen (k := 1) (n := 4) (Nat.le_of_ble_eq_true rfl) (Nat.le_of_ble_eq_true rfl) ?_
  refine lv_dup hx hb dJx4a65c_iterator_32c93_3 rfl ?_
  refine lv_aload_n hx hb dJx4a65c_iterator_32c93_4 rfl (lv_at hl 0 rfl) ?_
  have hPc := hP.sub (ws' := [(o_1, .inr (2, [.int 0, .int 0, .int 0, .null])), (h0, .inr (3, [.int c0, .ref e0, .int n0]))]) [1, 0] rfl
  have hKc := hK.sub (tys' := []) [] rfl
  have hDc := hD.sub (ws' := [(o_1, .inr (2, [.int 0, .int 0, .int 0, .null])), (h0, .inr (3, [.int c0, .ref e0, .int n0]))]) [1, 0] (by decide) rfl
  have hFc := va_free (wc := [(o_1, .inr (2, [.int 0, .int 0, .int 0, .null])), (h0, .inr (3, [.int c0, .ref e0, .int n0]))]) hD hS hA [1, 0] rfl
  refine va_callv (va_runI (As := [.ref h0]) (rest := [.ref o_1]) ⟨hx, hb, hml, hown, hts⟩ (k_Jx35411_init_45d68 l G z o_1 (.int 0) (.int 0) .null h0 c0 e0 n0 H_2.size ) (cwI 1 hts (lw_goodAll q1361) rfl rfl rfl (hg _ q26) (hg _ q1359) (hg _ q1360) rfl (by decide +kernel) ⟨Nat.le_of_ble_eq_true rfl, Nat.le_of_ble_eq_true rfl⟩) ⟨PW.blind, PW.of hPc hKc hDc hG hS hFc [.ref o_1, .ref h0]⟩ rfl rfl hl.1 rfl (lv_room (Nat.le_of_ble_eq_true rfl)) dJx4a65c_iterator_32c93_5 ⟨Nat.le_of_ble_eq_true rfl, Nat.le_of_ble_eq_true rfl⟩) hS (fun q _ h => hFc q h) hFc (fun u t_6 H_3 locs ht hvm hw_5 hB hz1 hk1 hS => ?_)
  obtain ⟨hP, hD, hK⟩ := QW.join (wr := []) (w1 := [(o_1, .inr (2, [.int 0, .int (-1), .int c0, .ref h0])), (h0, .inr (3, [.int c0, .ref e0, .int n0]))]) hP hD hK [1, 0] [] rfl rfl (by decide) (by decide) hk1 hFc ht hvm hB
  have hP : va_P G vwCl ([(o_1, .inr (2, [.int 0, .int (-1), .int c0, .ref h0])), (h0, .inr (3, [.int c0, .ref e0, .int n0]))]) H_3 := hP
  have hD : va_D A ([(o_1, .inr (2, [.int 0, .int (-1), .int c0, .ref h0])), (h0, .inr (3, [.int c0, .ref e0, .int n0]))]) := hD
  have hK : va_K G vwCl [] s := hK
  refine W.widen (k := 1) (n := 4) (Nat.le_of_ble_eq_true rfl) (Nat.le_of_ble_eq_true rfl) ?_
  refine W.widen (k := 1) (n := 4) (Nat.le_of_ble_eq_true rfl) (Nat.le_of_ble_eq_true rfl) ?_
  have hP9 := hP.sub (ws' := [(h0, .inr (3, [.int c0, .ref e0, .int n0])), (o_1, .inr (2, [.int 0, .int (-1), .int c0, .ref h0]))]) [1, 0] rfl
  have hD9 := hD.sub (ws' := [(h0, .inr (3, [.int c0, .ref e0, .int n0])), (o_1, .inr (2, [.int 0, .int (-1), .int c0, .ref h0]))]) [1, 0] (by decide) rfl
  have hK9 := hK.sub (tys' := []) [] rfl
  exact W.aret (v := .ref o_1) hx hb hr (Or.inl ⟨_, rfl⟩) (Or.inr ⟨_, rfl⟩) (fun t ht hW => ⟨⟨(), o_1, rfl, trivial, QW.of hP9 hK9 hD9 ht hW.alike⟩, hS.F ht⟩) hS.2.2 dJx4a65c_iterator_32c93_8

abbrev wz_Jx35411_hasNext_aae02 : List Cond := .code yJx35411_hasNext_aae02 cJx35411_hasNext_aae02 1 (Option.some Jvm.ClassFile.FieldType.boolean) :: lw_good
set_option maxHeartbeats 4000000 in
set_option maxRecDepth 100000 in
/-- hasNext() of an empty list -/
theorem k_Jx35411_hasNext_aae02 (l : Launch) (G : va_G) (z : Nat) (h0 : Nat) (x1 : Value) (x2 : Value) (h1 : Nat) (c0 : Int32) (e0 : Nat) (sz : Nat)  : Met l yJx35411_hasNext_aae02 wz_Jx35411_hasNext_aae02 ({ frames := 0, cells := 0, slots := 0, locals := 0 }) (va_Pc [.ref h0] (PR G z [(h0, .inr (2, [.int 0, x1, x2, .ref h1])), (h1, .inr (3, [.int c0, .ref e0, .int 0]))] [] sz)) (va_Qi (fun (r : Int32) (_ : Unit) => r = 0) (fun (_ : Unit) (_ : State) => True) (zN sz)) 0 0 (zN sz) := by
  refine va_MetF (cc := cJx35411_hasNext_aae02) (maxL := 1) (ret := (Option.some Jvm.ClassFile.FieldType.boolean)) (by decide) rfl ?_
  intro p e s m args below meth c s₁ B hml hv
  obtain ⟨rfl, rfl, hP, hK, hG⟩ := hv
  have hx := B.exec
  have hb := B.bytes
  have hr := B.returns
  have hts := atoms_spec (ws := wz_Jx35411_hasNext_aae02) B.pre
  have hg : ∀ w ∈ lw_good, w.before _ s = true := fun w h => hts w (List.mem_cons_of_mem _ h)
  have hown : s.vm.findClass RJx35411 = some m.cls := findClass_of_methodNamed B.named
  have hlocks := B.notSynchronized
  have hA : ∀ q : Nat, s.heap.size ≤ q → zN s.heap.size q := fun _ h => h
  have hS : va_S (zN s.heap.size) s.heap s.heap [] := va_S.rf
  have hl := lv_entry ([.ref h0]) (n := 1) (Nat.le_of_ble_eq_true rfl)
  rw [lg_entry_eq]
  generalize (lg_sl ([.ref h0]) ++ List.replicate (1 - (lg_sl ([.ref h0])).length) Slot.unset).toArray = ls at hl ⊢
  have hl : lv_has ls 1 [(0, .ref h0)] := hl
  refine lv_aload_n hx hb dJx35411_hasNext_aae02_0 rfl (lv_at hl 0 rfl) ?_
  refine va_get (D := G) (ci := 2) (v := .int 0) (C := RJx35411) (T := TJx35411) (N := 4) hx hb hg in_Jx35411 hown hK hP 0 rfl rfl 0 (by decide) (hg _ q1363) (fun _ h9 => h9) rfl dJx35411_hasNext_aae02_1 ?_
  refine lv_aload_n hx hb dJx35411_hasNext_aae02_4 rfl (lv_at hl 0 rfl) ?_
  refine va_get (D := G) (ci := 2) (v := .ref h1) (C := RJx35411) (T := TJx35411) (N := 4) hx hb hg in_Jx35411 hown hK hP 0 rfl rfl 3 (by decide) (hg _ q1366) (fun _ h9 => h9) rfl dJx35411_hasNext_aae02_5 ?_
  refine va_getN (D := G) (ci := 3) (v := .int 0) (C := RJx4a65c) (T := TJx4a65c) (N := 3) hx hb hg in_Jx4a65c hown hK hP 1 rfl rfl 2 (by decide) (va_Nw.use rfl (hG.2.2.2.2.1 _ qf61)) (fun _ h9 => h9) rfl dJx35411_hasNext_aae02_8 ?_
  refine lv_icmp_eq (tgt := 18) hx hb dJx35411_hasNext_aae02_11 (by decide) (fun c_1 => ?_) (fun c_1 => absurd rfl c_1)
  refine lv_iconst (v := 0) hx hb dJx35411_hasNext_aae02_18 (by decide) ?_
  refine W.widen (k := 0) (n := 0) (Nat.le_of_ble_eq_true rfl) (Nat.le_of_ble_eq_true rfl) ?_
  exact W.zret (v := 0) hx hb hr rfl (fun t ht hW => ⟨⟨0, (), rfl, rfl, trivial⟩, hS.F ht⟩) hS.2.2 dJx35411_hasNext_aae02_19

abbrev wz_Jx4a65c_isEmpty_aae02 : List Cond := .code yJx4a65c_isEmpty_aae02 cJx4a65c_isEmpty_aae02 1 (Option.some Jvm.ClassFile.FieldType.boolean) :: lw_good
set_option maxHeartbeats 4000000 in
set_option maxRecDepth 100000 in
/-- isEmpty() of an empty list -/
theorem k_Jx4a65c_isEmpty_aae02 (l : Launch) (G : va_G) (z : Nat) (h0 : Nat) (c0 : Int32) (e0 : Nat) (sz : Nat)  : Met l yJx4a65c_isEmpty_aae02 wz_Jx4a65c_isEmpty_aae02 ({ frames := 0, cells := 0, slots := 0, locals := 0 }) (va_Pc [.ref h0] (PR G z [(h0, .inr (3, [.int c0, .ref e0, .int 0]))] [] sz)) (va_Qi (fun (r : Int32) (_ : Unit) => r = 1) (fun (_ : Unit) (_ : State) => True) (zN sz)) 0 0 (zN sz) := by
  refine va_MetF (cc := cJx4a65c_isEmpty_aae02) (maxL := 1) (ret := (Option.some Jvm.ClassFile.FieldType.boolean)) (by decide) rfl ?_
  intro p e s m args below meth c s₁ B hml hv
  obtain ⟨rfl, rfl, hP, hK, hG⟩ := hv
  have hx := B.exec
  have hb := B.bytes
  have hr := B.returns
  have hts := atoms_spec (ws := wz_Jx4a65c_isEmpty_aae02) B.pre
  have hg : ∀ w ∈ lw_good, w.before _ s = true := fun w h => hts w (List.mem_cons_of_mem _ h)
  have hown : s.vm.findClass RJx4a65c = some m.cls := findClass_of_methodNamed B.named
  have hlocks := B.notSynchronized
  have hA : ∀ q : Nat, s.heap.size ≤ q → zN s.heap.size q := fun _ h => h
  have hS : va_S (zN s.heap.size) s.heap s.heap [] := va_S.rf
  have hl := lv_entry ([.ref h0]) (n := 1) (Nat.le_of_ble_eq_true rfl)
  rw [lg_entry_eq]
  generalize (lg_sl ([.ref h0]) ++ List.replicate (1 - (lg_sl ([.ref h0])).length) Slot.unset).toArray = ls at hl ⊢
  have hl : lv_has ls 1 [(0, .ref h0)] := hl
  refine lv_aload_n hx hb dJx4a65c_isEmpty_aae02_0 rfl (lv_at hl 0 rfl) ?_
  refine va_get (D := G) (ci := 3) (v := .int 0) (C := RJx4a65c) (T := TJx4a65c) (N := 3) hx hb hg in_Jx4a65c hown hK hP 0 rfl rfl 2 (by decide) (hg _ q62) (fun _ h9 => h9) rfl dJx4a65c_isEmpty_aae02_1 ?_
  refine lv_if_ne (tgt := 11) hx hb dJx4a65c_isEmpty_aae02_4 (by decide) (fun c_1 => absurd rfl c_1) (fun c_1 => ?_)
  refine lv_iconst (v := 1) hx hb dJx4a65c_isEmpty_aae02_7 (by decide) ?_
  refine lv_goto (tgt := 12) hx hb dJx4a65c_isEmpty_aae02_8 (by decide) ?_
  refine W.widen (k := 0) (n := 0) (Nat.le_of_ble_eq_true rfl) (Nat.le_of_ble_eq_true rfl) ?_
  exact W.zret (v := 1) hx hb hr rfl (fun t ht hW => ⟨⟨1, (), rfl, rfl, trivial⟩, hS.F ht⟩) hS.2.2 dJx4a65c_isEmpty_aae02_12
end
section
theorem q1005 : Cond.code yX8_distance prog_1_method_26_code 4 (Option.some Jvm.ClassFile.FieldType.int) ∈ lw_good := lw_in (i := 1005) (by decide +kernel) (by decide +kernel)
theorem q1006 : Cond.methodLink "Watermarkmill" 275 yX8_imageAt ∈ lw_good := lw_in (i := 1006) (by decide +kernel) (by decide +kernel)
theorem q1008 : Cond.instanceMethod yX8_imageAt ∈ lw_good := lw_in (i := 1008) (by decide +kernel) (by decide +kernel)
theorem q1017 : Cond.code yX8_compare prog_1_method_27_code 3 (Option.some Jvm.ClassFile.FieldType.char) ∈ lw_good := lw_in (i := 1017) (by decide +kernel) (by decide +kernel)
theorem q1024 : Cond.code yX8_evidence prog_1_method_28_code 5 (Option.some Jvm.ClassFile.FieldType.int) ∈ lw_good := lw_in (i := 1024) (by decide +kernel) (by decide +kernel)
theorem q1067 : Cond.code yX8_claim prog_1_method_34_code 4 (Option.some Jvm.ClassFile.FieldType.int) ∈ lw_good := lw_in (i := 1067) (by decide +kernel) (by decide +kernel)
theorem q1083 : Cond.code yX8_unclaim prog_1_method_35_code 4 (Option.some Jvm.ClassFile.FieldType.int) ∈ lw_good := lw_in (i := 1083) (by decide +kernel) (by decide +kernel)
theorem q1095 : Cond.code yX8_date prog_1_method_36_code 4 (Option.some Jvm.ClassFile.FieldType.int) ∈ lw_good := lw_in (i := 1095) (by decide +kernel) (by decide +kernel)
theorem q1109 : Cond.code yX8_year prog_1_method_39_code 3 (Option.some Jvm.ClassFile.FieldType.int) ∈ lw_good := lw_in (i := 1109) (by decide +kernel) (by decide +kernel)
theorem q1121 : Cond.code yX8_ground prog_1_method_40_code 5 (Option.some Jvm.ClassFile.FieldType.int) ∈ lw_good := lw_in (i := 1121) (by decide +kernel) (by decide +kernel)
theorem q1138 : Cond.code yX8_forged prog_1_method_42_code 3 (Option.some Jvm.ClassFile.FieldType.char) ∈ lw_good := lw_in (i := 1138) (by decide +kernel) (by decide +kernel)
theorem q545 : Cond.code yX8_copy prog_1_method_3_code 4 (Option.some Jvm.ClassFile.FieldType.int) ∈ lw_good := lw_in (i := 545) (by decide +kernel) (by decide +kernel)
theorem q546 : Cond.methodLink "Watermarkmill" 74 yX8_mouldAt ∈ lw_good := lw_in (i := 546) (by decide +kernel) (by decide +kernel)
theorem q548 : Cond.instanceMethod yX8_mouldAt ∈ lw_good := lw_in (i := 548) (by decide +kernel) (by decide +kernel)
theorem q570 : Cond.code yX8_twin prog_1_method_4_code 6 (Option.some Jvm.ClassFile.FieldType.boolean) ∈ lw_good := lw_in (i := 570) (by decide +kernel) (by decide +kernel)
theorem q594 : Cond.code yX8_damage prog_1_method_5_code 7 (Option.some Jvm.ClassFile.FieldType.int) ∈ lw_good := lw_in (i := 594) (by decide +kernel) (by decide +kernel)
theorem q622 : Cond.code yX8_retire prog_1_method_6_code 4 (Option.some Jvm.ClassFile.FieldType.int) ∈ lw_good := lw_in (i := 622) (by decide +kernel) (by decide +kernel)
theorem q631 : Cond.code yX8_sell prog_1_method_7_code 6 (Option.some Jvm.ClassFile.FieldType.int) ∈ lw_good := lw_in (i := 631) (by decide +kernel) (by decide +kernel)
theorem q666 : Cond.code yX8_owner prog_1_method_8_code 4 (Option.some Jvm.ClassFile.FieldType.int) ∈ lw_good := lw_in (i := 666) (by decide +kernel) (by decide +kernel)
theorem q673 : Cond.code yX8_state prog_1_method_9_code 4 (Option.some Jvm.ClassFile.FieldType.int) ∈ lw_good := lw_in (i := 673) (by decide +kernel) (by decide +kernel)
theorem q682 : Cond.code yX8_wire prog_1_method_10_code 6 (Option.some Jvm.ClassFile.FieldType.char) ∈ lw_good := lw_in (i := 682) (by decide +kernel) (by decide +kernel)
theorem q705 : Cond.code yX8_make prog_1_method_11_code 8 (Option.some Jvm.ClassFile.FieldType.int) ∈ lw_good := lw_in (i := 705) (by decide +kernel) (by decide +kernel)
theorem q761 : Cond.code yX8_put prog_1_method_13_code 7 (Option.some Jvm.ClassFile.FieldType.int) ∈ lw_good := lw_in (i := 761) (by decide +kernel) (by decide +kernel)
theorem q762 : Cond.methodLink "Watermarkmill" 169 yX8_reamAt ∈ lw_good := lw_in (i := 762) (by decide +kernel) (by decide +kernel)
theorem q764 : Cond.instanceMethod yX8_reamAt ∈ lw_good := lw_in (i := 764) (by decide +kernel) (by decide +kernel)
theorem q793 : Cond.code yX8_tariff prog_1_method_14_code 6 (Option.some Jvm.ClassFile.FieldType.int) ∈ lw_good := lw_in (i := 793) (by decide +kernel) (by decide +kernel)
theorem q859 : Cond.code yX8_use prog_1_method_16_code 7 (Option.some Jvm.ClassFile.FieldType.int) ∈ lw_good := lw_in (i := 859) (by decide +kernel) (by decide +kernel)
theorem q860 : Cond.methodLink "Watermarkmill" 210 yX8_documentAt ∈ lw_good := lw_in (i := 860) (by decide +kernel) (by decide +kernel)
theorem q862 : Cond.instanceMethod yX8_documentAt ∈ lw_good := lw_in (i := 862) (by decide +kernel) (by decide +kernel)
theorem q885 : Cond.code yX8_cancel prog_1_method_17_code 6 (Option.some Jvm.ClassFile.FieldType.boolean) ∈ lw_good := lw_in (i := 885) (by decide +kernel) (by decide +kernel)
theorem q906 : Cond.code yX8_cancels prog_1_method_18_code 6 (Option.some Jvm.ClassFile.FieldType.int) ∈ lw_good := lw_in (i := 906) (by decide +kernel) (by decide +kernel)
theorem q925 : Cond.code yX8_leafOf prog_1_method_19_code 5 (Option.some Jvm.ClassFile.FieldType.int) ∈ lw_good := lw_in (i := 925) (by decide +kernel) (by decide +kernel)
theorem q932 : Cond.code yX8_markIn prog_1_method_20_code 4 (Option.some Jvm.ClassFile.FieldType.int) ∈ lw_good := lw_in (i := 932) (by decide +kernel) (by decide +kernel)
theorem q939 : Cond.code yX8_conjugate prog_1_method_21_code 4 (Option.some Jvm.ClassFile.FieldType.int) ∈ lw_good := lw_in (i := 939) (by decide +kernel) (by decide +kernel)
theorem q947 : Cond.code yX8_run prog_1_method_22_code 7 (Option.some Jvm.ClassFile.FieldType.int) ∈ lw_good := lw_in (i := 947) (by decide +kernel) (by decide +kernel)
theorem q963 : Cond.code yX8_wash prog_1_method_23_code 4 (Option.some Jvm.ClassFile.FieldType.boolean) ∈ lw_good := lw_in (i := 963) (by decide +kernel) (by decide +kernel)
theorem q970 : Cond.code yX8_image prog_1_method_24_code 12 (Option.some Jvm.ClassFile.FieldType.int) ∈ lw_good := lw_in (i := 970) (by decide +kernel) (by decide +kernel)
theorem qs14 : Cond.selects "Watermarkmill" yX8_mouldAt yX8_mouldAt ∈ lw_good := lw_inS (i := 14) (by decide +kernel) (by decide +kernel)
theorem qs15 : Cond.selects "Watermarkmill" yX8_reamAt yX8_reamAt ∈ lw_good := lw_inS (i := 15) (by decide +kernel) (by decide +kernel)
theorem qs17 : Cond.selects "Watermarkmill" yX8_documentAt yX8_documentAt ∈ lw_good := lw_inS (i := 17) (by decide +kernel) (by decide +kernel)
theorem qs21 : Cond.selects "Watermarkmill" yX8_imageAt yX8_imageAt ∈ lw_good := lw_inS (i := 21) (by decide +kernel) (by decide +kernel)
theorem dX8_cancel_0 : decode cX8_cancel 0 = .ok (.aload_n 0, 1) := by decide +kernel
theorem dX8_cancel_1 : decode cX8_cancel 1 = .ok (.iload_n 1, 1) := by decide +kernel
theorem dX8_cancel_2 : decode cX8_cancel 2 = .ok (.invokevirtual 210, 3) := by decide +kernel
theorem dX8_cancels_0 : decode cX8_cancels 0 = .ok (.aload_n 0, 1) := by decide +kernel
theorem dX8_cancels_1 : decode cX8_cancels 1 = .ok (.iload_n 1, 1) := by decide +kernel
theorem dX8_cancels_2 : decode cX8_cancels 2 = .ok (.invokevirtual 210, 3) := by decide +kernel
theorem dX8_claim_0 : decode cX8_claim 0 = .ok (.aload_n 0, 1) := by decide +kernel
theorem dX8_claim_1 : decode cX8_claim 1 = .ok (.iload_n 1, 1) := by decide +kernel
theorem dX8_claim_2 : decode cX8_claim 2 = .ok (.invokevirtual 210, 3) := by decide +kernel
theorem dX8_compare_0 : decode cX8_compare 0 = .ok (.aload_n 0, 1) := by decide +kernel
theorem dX8_compare_1 : decode cX8_compare 1 = .ok (.aload_n 0, 1) := by decide +kernel
theorem dX8_compare_2 : decode cX8_compare 2 = .ok (.iload_n 1, 1) := by decide +kernel
theorem dX8_compare_3 : decode cX8_compare 3 = .ok (.invokevirtual 275, 3) := by decide +kernel
theorem dX8_conjugate_0 : decode cX8_conjugate 0 = .ok (.aload_n 0, 1) := by decide +kernel
theorem dX8_conjugate_1 : decode cX8_conjugate 1 = .ok (.iload_n 1, 1) := by decide +kernel
theorem dX8_conjugate_2 : decode cX8_conjugate 2 = .ok (.invokevirtual 210, 3) := by decide +kernel
theorem dX8_copy_0 : decode cX8_copy 0 = .ok (.aload_n 0, 1) := by decide +kernel
theorem dX8_copy_1 : decode cX8_copy 1 = .ok (.iload_n 1, 1) := by decide +kernel
theorem dX8_copy_2 : decode cX8_copy 2 = .ok (.invokevirtual 74, 3) := by decide +kernel
theorem dX8_damage_0 : decode cX8_damage 0 = .ok (.aload_n 0, 1) := by decide +kernel
theorem dX8_damage_1 : decode cX8_damage 1 = .ok (.iload_n 1, 1) := by decide +kernel
theorem dX8_damage_2 : decode cX8_damage 2 = .ok (.invokevirtual 74, 3) := by decide +kernel
theorem dX8_date_0 : decode cX8_date 0 = .ok (.aload_n 0, 1) := by decide +kernel
theorem dX8_date_1 : decode cX8_date 1 = .ok (.iload_n 1, 1) := by decide +kernel
theorem dX8_date_2 : decode cX8_date 2 = .ok (.invokevirtual 210, 3) := by decide +kernel
theorem dX8_distance_0 : decode cX8_distance 0 = .ok (.aload_n 0, 1) := by decide +kernel
theorem dX8_distance_1 : decode cX8_distance 1 = .ok (.iload_n 1, 1) := by decide +kernel
theorem dX8_distance_2 : decode cX8_distance 2 = .ok (.invokevirtual 275, 3) := by decide +kernel
theorem dX8_evidence_0 : decode cX8_evidence 0 = .ok (.aload_n 0, 1) := by decide +kernel
theorem dX8_evidence_1 : decode cX8_evidence 1 = .ok (.iload_n 1, 1) := by decide +kernel
theorem dX8_evidence_2 : decode cX8_evidence 2 = .ok (.invokevirtual 275, 3) := by decide +kernel
theorem dX8_forged_0 : decode cX8_forged 0 = .ok (.aload_n 0, 1) := by decide +kernel
theorem dX8_forged_1 : decode cX8_forged 1 = .ok (.iload_n 1, 1) := by decide +kernel
theorem dX8_forged_2 : decode cX8_forged 2 = .ok (.invokevirtual 210, 3) := by decide +kernel
theorem dX8_ground_0 : decode cX8_ground 0 = .ok (.aload_n 0, 1) := by decide +kernel
theorem dX8_ground_1 : decode cX8_ground 1 = .ok (.iload_n 1, 1) := by decide +kernel
theorem dX8_ground_2 : decode cX8_ground 2 = .ok (.invokevirtual 210, 3) := by decide +kernel
theorem dX8_image_0 : decode cX8_image 0 = .ok (.aload_n 0, 1) := by decide +kernel
theorem dX8_image_1 : decode cX8_image 1 = .ok (.iload_n 1, 1) := by decide +kernel
theorem dX8_image_2 : decode cX8_image 2 = .ok (.invokevirtual 210, 3) := by decide +kernel
theorem dX8_leafOf_0 : decode cX8_leafOf 0 = .ok (.aload_n 0, 1) := by decide +kernel
theorem dX8_leafOf_1 : decode cX8_leafOf 1 = .ok (.iload_n 1, 1) := by decide +kernel
theorem dX8_leafOf_2 : decode cX8_leafOf 2 = .ok (.invokevirtual 210, 3) := by decide +kernel
theorem dX8_make_0 : decode cX8_make 0 = .ok (.aload_n 0, 1) := by decide +kernel
theorem dX8_make_1 : decode cX8_make 1 = .ok (.iload_n 1, 1) := by decide +kernel
theorem dX8_make_2 : decode cX8_make 2 = .ok (.invokevirtual 74, 3) := by decide +kernel
theorem dX8_markIn_0 : decode cX8_markIn 0 = .ok (.aload_n 0, 1) := by decide +kernel
theorem dX8_markIn_1 : decode cX8_markIn 1 = .ok (.iload_n 1, 1) := by decide +kernel
theorem dX8_markIn_2 : decode cX8_markIn 2 = .ok (.invokevirtual 210, 3) := by decide +kernel
theorem dX8_owner_0 : decode cX8_owner 0 = .ok (.aload_n 0, 1) := by decide +kernel
theorem dX8_owner_1 : decode cX8_owner 1 = .ok (.iload_n 1, 1) := by decide +kernel
theorem dX8_owner_2 : decode cX8_owner 2 = .ok (.invokevirtual 74, 3) := by decide +kernel
theorem dX8_put_0 : decode cX8_put 0 = .ok (.aload_n 0, 1) := by decide +kernel
theorem dX8_put_1 : decode cX8_put 1 = .ok (.iload_n 1, 1) := by decide +kernel
theorem dX8_put_2 : decode cX8_put 2 = .ok (.invokevirtual 169, 3) := by decide +kernel
theorem dX8_retire_0 : decode cX8_retire 0 = .ok (.aload_n 0, 1) := by decide +kernel
theorem dX8_retire_1 : decode cX8_retire 1 = .ok (.iload_n 1, 1) := by decide +kernel
theorem dX8_retire_2 : decode cX8_retire 2 = .ok (.invokevirtual 74, 3) := by decide +kernel
theorem dX8_run_0 : decode cX8_run 0 = .ok (.aload_n 0, 1) := by decide +kernel
theorem dX8_run_1 : decode cX8_run 1 = .ok (.iload_n 1, 1) := by decide +kernel
theorem dX8_run_2 : decode cX8_run 2 = .ok (.invokevirtual 210, 3) := by decide +kernel
theorem dX8_sell_0 : decode cX8_sell 0 = .ok (.aload_n 0, 1) := by decide +kernel
theorem dX8_sell_1 : decode cX8_sell 1 = .ok (.iload_n 1, 1) := by decide +kernel
theorem dX8_sell_2 : decode cX8_sell 2 = .ok (.invokevirtual 74, 3) := by decide +kernel
theorem dX8_state_0 : decode cX8_state 0 = .ok (.aload_n 0, 1) := by decide +kernel
theorem dX8_state_1 : decode cX8_state 1 = .ok (.iload_n 1, 1) := by decide +kernel
theorem dX8_state_2 : decode cX8_state 2 = .ok (.invokevirtual 74, 3) := by decide +kernel
theorem dX8_tariff_0 : decode cX8_tariff 0 = .ok (.aload_n 0, 1) := by decide +kernel
theorem dX8_tariff_1 : decode cX8_tariff 1 = .ok (.iload_n 1, 1) := by decide +kernel
theorem dX8_tariff_2 : decode cX8_tariff 2 = .ok (.invokevirtual 169, 3) := by decide +kernel
theorem dX8_twin_0 : decode cX8_twin 0 = .ok (.aload_n 0, 1) := by decide +kernel
theorem dX8_twin_1 : decode cX8_twin 1 = .ok (.iload_n 1, 1) := by decide +kernel
theorem dX8_twin_2 : decode cX8_twin 2 = .ok (.invokevirtual 74, 3) := by decide +kernel
theorem dX8_unclaim_0 : decode cX8_unclaim 0 = .ok (.aload_n 0, 1) := by decide +kernel
theorem dX8_unclaim_1 : decode cX8_unclaim 1 = .ok (.iload_n 1, 1) := by decide +kernel
theorem dX8_unclaim_2 : decode cX8_unclaim 2 = .ok (.invokevirtual 210, 3) := by decide +kernel
theorem dX8_use_0 : decode cX8_use 0 = .ok (.aload_n 0, 1) := by decide +kernel
theorem dX8_use_1 : decode cX8_use 1 = .ok (.iload_n 1, 1) := by decide +kernel
theorem dX8_use_2 : decode cX8_use 2 = .ok (.invokevirtual 210, 3) := by decide +kernel
theorem dX8_wash_0 : decode cX8_wash 0 = .ok (.aload_n 0, 1) := by decide +kernel
theorem dX8_wash_1 : decode cX8_wash 1 = .ok (.iload_n 1, 1) := by decide +kernel
theorem dX8_wash_2 : decode cX8_wash 2 = .ok (.invokevirtual 210, 3) := by decide +kernel
theorem dX8_wire_0 : decode cX8_wire 0 = .ok (.aload_n 0, 1) := by decide +kernel
theorem dX8_wire_1 : decode cX8_wire 1 = .ok (.iload_n 1, 1) := by decide +kernel
theorem dX8_wire_2 : decode cX8_wire 2 = .ok (.invokevirtual 74, 3) := by decide +kernel
theorem dX8_year_0 : decode cX8_year 0 = .ok (.aload_n 0, 1) := by decide +kernel
theorem dX8_year_1 : decode cX8_year 1 = .ok (.iload_n 1, 1) := by decide +kernel
theorem dX8_year_2 : decode cX8_year 2 = .ok (.invokevirtual 210, 3) := by decide +kernel
abbrev wz_X8_copy : List Cond := .code yX8_copy cX8_copy 4 (Option.some Jvm.ClassFile.FieldType.int) :: lw_good
set_option maxHeartbeats 4000000 in
set_option maxRecDepth 100000 in
/-- copy: there is none of it yet -/
theorem k_X8_copy (l : Launch) (hfl : l.stackTraces = false) (G : va_G) (z : Nat) (h0 : Nat) (a1 : Nat) (a2 : Nat) (a3 : Nat) (a4 : Nat) (a5 : Nat) (a6 : Nat) (a7 : Nat) (a8 : Nat) (tol : Int32) (sal : Int32) (c0 : Int32) (e0 : Nat) (p0 : Int32) (p1 : Int32) (sz : Nat)  : vx_Met l yX8_copy wz_X8_copy ({ frames := 7, cells := 1, slots := 6, locals := 103 }) (va_Pc [.ref h0, .int p0, .int p1] (PR G z [(h0, .inr (12, [.ref a1, .ref a2, .ref a3, .ref a4, .ref a5, .ref a6, .ref a7, .ref a8, .int tol, .int sal])), (a1, .inr (3, [.int c0, .ref e0, .int 0]))] [] sz)) (va_Qi (fun (r : Int32) (_ : Unit) => False) (fun (_ : Unit) (_ : State) => True) (zN sz)) (zX (True) "java/lang/IndexOutOfBoundsException" (zN sz)) 1 6 (zN sz) := by
  refine vx_ofW (cc := cX8_copy) (maxL := 4) (ret := (Option.some Jvm.ClassFile.FieldType.int)) (by decide) rfl ?_
  intro p e s m args below meth c s₁ B hml htab hv
  obtain ⟨rfl, rfl, hP, hK, hG⟩ := hv
  have hx := B.exec
  have hb := B.bytes
  have hr := B.returns
  have hts := atoms_spec (ws := wz_X8_copy) B.pre
  have hg : ∀ w ∈ lw_good, w.before _ s = true := fun w h => hts w (List.mem_cons_of_mem _ h)
  have hown : s.vm.findClass RX8 = some m.cls := findClass_of_methodNamed B.named
  have hlocks := B.notSynchronized
  have hA : ∀ q : Nat, s.heap.size ≤ q → zN s.heap.size q := fun _ h => h
  have hS : va_S (zN s.heap.size) s.heap s.heap [] := va_S.rf
  have hl := lv_entry ([.ref h0, .int p0, .int p1]) (n := 4) (Nat.le_of_ble_eq_true rfl)
  rw [lg_entry_eq]
  generalize (lg_sl ([.ref h0, .int p0, .int p1]) ++ List.replicate (4 - (lg_sl ([.ref h0, .int p0, .int p1])).length) Slot.unset).toArray = ls at hl ⊢
  have hl : lv_has ls 4 [(0, .ref h0), (1, .int p0), (2, .int p1)] := hl
  refine lv_aload_n hx hb dX8_copy_0 rfl (lv_at hl 0 rfl) ?_
  refine lv_iload_n hx hb dX8_copy_1 rfl (lv_at hl 1 rfl) ?_
  have hPc := hP.sub (ws' := [(h0, .inr (12, [.ref a1, .ref a2, .ref a3, .ref a4, .ref a5, .ref a6, .ref a7, .ref a8, .int tol, .int sal])), (a1, .inr (3, [.int c0, .ref e0, .int 0]))]) [0, 1] rfl
  have hKc := hK.sub (tys' := []) [] rfl
  refine vx_callq (vx_runV (As := [.int p0]) (rest := []) ⟨hx, hb, hml, hown, hts⟩ (k_X8_mouldAt l hfl G z h0 a1 a2 a3 a4 a5 a6 a7 a8 tol sal c0 e0 p0 s.heap.size ) (cwV 1 hts (lw_goodApp (lw_4 q546 q548 qs14 q1) q549) rfl rfl rfl (by decide +kernel) ⟨Nat.le_of_ble_eq_true rfl, Nat.le_of_ble_eq_true rfl⟩) ⟨PR.blind, va_recv hK hP (ci := 12) (q0 := 0) rfl rfl, PR.of hPc hKc hG hS hA [.ref h0, .int p0]⟩ rfl rfl hl.1 rfl (lv_room (Nat.le_of_ble_eq_true rfl)) dX8_copy_2 ⟨Nat.le_of_ble_eq_true rfl, Nat.le_of_ble_eq_true rfl⟩) hS (fun q h9 h => zN.not h9 h) (fun q h => hA q (Nat.le_trans hS.1 h)) (fun q h9 h => zN.not h9 h) (fun E ce q9 ux t_4 H_1 locs ht hvm px_5 hE hz1 hk1 hS hq9 hv9 hcl9 => ?_) (fun r_2 u t_4 H_1 locs ht hvm hw_3 hB hz1 hk1 hS => ?_)
  · exact vx_out (fun x9 h9 => (htab x9 h9).elim) hlocks hq9 hv9 hcl9 (fun t2 ht2 hal2 => zX.same trivial hE hS ht2) hS.2.2 (Nat.le_of_ble_eq_true rfl) (Nat.le_of_ble_eq_true rfl)
  exact hw_3.elim

abbrev wz_X8_twin : List Cond := .code yX8_twin cX8_twin 6 (Option.some Jvm.ClassFile.FieldType.boolean) :: lw_good
set_option maxHeartbeats 4000000 in
set_option maxRecDepth 100000 in
/-- twin: there is none of it yet -/
theorem k_X8_twin (l : Launch) (hfl : l.stackTraces = false) (G : va_G) (z : Nat) (h0 : Nat) (a1 : Nat) (a2 : Nat) (a3 : Nat) (a4 : Nat) (a5 : Nat) (a6 : Nat) (a7 : Nat) (a8 : Nat) (tol : Int32) (sal : Int32) (c0 : Int32) (e0 : Nat) (p0 : Int32) (p1 : Int32) (sz : Nat)  : vx_Met l yX8_twin wz_X8_twin ({ frames := 7, cells := 1, slots := 6, locals := 103 }) (va_Pc [.ref h0, .int p0, .int p1] (PR G z [(h0, .inr (12, [.ref a1, .ref a2, .ref a3, .ref a4, .ref a5, .ref a6, .ref a7, .ref a8, .int tol, .int sal])), (a1, .inr (3, [.int c0, .ref e0, .int 0]))] [] sz)) (va_Qi (fun (r : Int32) (_ : Unit) => False) (fun (_ : Unit) (_ : State) => True) (zN sz)) (zX (True) "java/lang/IndexOutOfBoundsException" (zN sz)) 1 6 (zN sz) := by
  refine vx_ofW (cc := cX8_twin) (maxL := 6) (ret := (Option.some Jvm.ClassFile.FieldType.boolean)) (by decide) rfl ?_
  intro p e s m args below meth c s₁ B hml htab hv
  obtain ⟨rfl, rfl, hP, hK, hG⟩ := hv
  have hx := B.exec
  have hb := B.bytes
  have hr := B.returns
  have hts := atoms_spec (ws := wz_X8_twin) B.pre
  have hg : ∀ w ∈ lw_good, w.before _ s = true := fun w h => hts w (List.mem_cons_of_mem _ h)
  have hown : s.vm.findClass RX8 = some m.cls := findClass_of_methodNamed B.named
  have hlocks := B.notSynchronized
  have hA : ∀ q : Nat, s.heap.size ≤ q → zN s.heap.size q := fun _ h => h
  have hS : va_S (zN s.heap.size) s.heap s.heap [] := va_S.rf
  have hl := lv_entry ([.ref h0, .int p0, .int p1]) (n := 6) (Nat.le_of_ble_eq_true rfl)
  rw [lg_entry_eq]
  generalize (lg_sl ([.ref h0, .int p0, .int p1]) ++ List.replicate (6 - (lg_sl ([.ref h0, .int p0, .int p1])).length) Slot.unset).toArray = ls at hl ⊢
  have hl : lv_has ls 6 [(0, .ref h0), (1, .int p0), (2, .int p1)] := hl
  refine lv_aload_n hx hb dX8_twin_0 rfl (lv_at hl 0 rfl) ?_
  refine lv_iload_n hx hb dX8_twin_1 rfl (lv_at hl 1 rfl) ?_
  have hPc := hP.sub (ws' := [(h0, .inr (12, [.ref a1, .ref a2, .ref a3, .ref a4, .ref a5, .ref a6, .ref a7, .ref a8, .int tol, .int sal])), (a1, .inr (3, [.int c0, .ref e0, .int 0]))]) [0, 1] rfl
  have hKc := hK.sub (tys' := []) [] rfl
  refine vx_callq (vx_runV (As := [.int p0]) (rest := []) ⟨hx, hb, hml, hown, hts⟩ (k_X8_mouldAt l hfl G z h0 a1 a2 a3 a4 a5 a6 a7 a8 tol sal c0 e0 p0 s.heap.size ) (cwV 1 hts (lw_goodApp (lw_4 q546 q548 qs14 q1) q549) rfl rfl rfl (by decide +kernel) ⟨Nat.le_of_ble_eq_true rfl, Nat.le_of_ble_eq_true rfl⟩) ⟨PR.blind, va_recv hK hP (ci := 12) (q0 := 0) rfl rfl, PR.of hPc hKc hG hS hA [.ref h0, .int p0]⟩ rfl rfl hl.1 rfl (lv_room (Nat.le_of_ble_eq_true rfl)) dX8_twin_2 ⟨Nat.le_of_ble_eq_true rfl, Nat.le_of_ble_eq_true rfl⟩) hS (fun q h9 h => zN.not h9 h) (fun q h => hA q (Nat.le_trans hS.1 h)) (fun q h9 h => zN.not h9 h) (fun E ce q9 ux t_4 H_1 locs ht hvm px_5 hE hz1 hk1 hS hq9 hv9 hcl9 => ?_) (fun r_2 u t_4 H_1 locs ht hvm hw_3 hB hz1 hk1 hS => ?_)
  · exact vx_out (fun x9 h9 => (htab x9 h9).elim) hlocks hq9 hv9 hcl9 (fun t2 ht2 hal2 => zX.same trivial hE hS ht2) hS.2.2 (Nat.le_of_ble_eq_true rfl) (Nat.le_of_ble_eq_true rfl)
  exact hw_3.elim

abbrev wz_X8_damage : List Cond := .code yX8_damage cX8_damage 7 (Option.some Jvm.ClassFile.FieldType.int) :: lw_good
set_option maxHeartbeats 4000000 in
set_option maxRecDepth 100000 in
/-- damage: there is none of it yet -/
theorem k_X8_damage (l : Launch) (hfl : l.stackTraces = false) (G : va_G) (z : Nat) (h0 : Nat) (a1 : Nat) (a2 : Nat) (a3 : Nat) (a4 : Nat) (a5 : Nat) (a6 : Nat) (a7 : Nat) (a8 : Nat) (tol : Int32) (sal : Int32) (c0 : Int32) (e0 : Nat) (p0 : Int32) (p1 : Int32) (p2 : Int32) (p3 : Int32) (sz : Nat)  : vx_Met l yX8_damage wz_X8_damage ({ frames := 7, cells := 1, slots := 6, locals := 103 }) (va_Pc [.ref h0, .int p0, .int p1, .int p2, .int p3] (PR G z [(h0, .inr (12, [.ref a1, .ref a2, .ref a3, .ref a4, .ref a5, .ref a6, .ref a7, .ref a8, .int tol, .int sal])), (a1, .inr (3, [.int c0, .ref e0, .int 0]))] [] sz)) (va_Qi (fun (r : Int32) (_ : Unit) => False) (fun (_ : Unit) (_ : State) => True) (zN sz)) (zX (True) "java/lang/IndexOutOfBoundsException" (zN sz)) 1 6 (zN sz) := by
  refine vx_ofW (cc := cX8_damage) (maxL := 7) (ret := (Option.some Jvm.ClassFile.FieldType.int)) (by decide) rfl ?_
  intro p e s m args below meth c s₁ B hml htab hv
  obtain ⟨rfl, rfl, hP, hK, hG⟩ := hv
  have hx := B.exec
  have hb := B.bytes
  have hr := B.returns
  have hts := atoms_spec (ws := wz_X8_damage) B.pre
  have hg : ∀ w ∈ lw_good, w.before _ s = true := fun w h => hts w (List.mem_cons_of_mem _ h)
  have hown : s.vm.findClass RX8 = some m.cls := findClass_of_methodNamed B.named
  have hlocks := B.notSynchronized
  have hA : ∀ q : Nat, s.heap.size ≤ q → zN s.heap.size q := fun _ h => h
  have hS : va_S (zN s.heap.size) s.heap s.heap [] := va_S.rf
  have hl := lv_entry ([.ref h0, .int p0, .int p1, .int p2, .int p3]) (n := 7) (Nat.le_of_ble_eq_true rfl)
  rw [lg_entry_eq]
  generalize (lg_sl ([.ref h0, .int p0, .int p1, .int p2, .int p3]) ++ List.replicate (7 - (lg_sl ([.ref h0, .int p0, .int p1, .int p2, .int p3])).length) Slot.unset).toArray = ls at hl ⊢
  have hl : lv_has ls 7 [(0, .ref h0), (1, .int p0), (2, .int p1), (3, .int p2), (4, .int p3)] := hl
  refine lv_aload_n hx hb dX8_damage_0 rfl (lv_at hl 0 rfl) ?_
  refine lv_iload_n hx hb dX8_damage_1 rfl (lv_at hl 1 rfl) ?_
  have hPc := hP.sub (ws' := [(h0, .inr (12, [.ref a1, .ref a2, .ref a3, .ref a4, .ref a5, .ref a6, .ref a7, .ref a8, .int tol, .int sal])), (a1, .inr (3, [.int c0, .ref e0, .int 0]))]) [0, 1] rfl
  have hKc := hK.sub (tys' := []) [] rfl
  refine vx_callq (vx_runV (As := [.int p0]) (rest := []) ⟨hx, hb, hml, hown, hts⟩ (k_X8_mouldAt l hfl G z h0 a1 a2 a3 a4 a5 a6 a7 a8 tol sal c0 e0 p0 s.heap.size ) (cwV 1 hts (lw_goodApp (lw_4 q546 q548 qs14 q1) q549) rfl rfl rfl (by decide +kernel) ⟨Nat.le_of_ble_eq_true rfl, Nat.le_of_ble_eq_true rfl⟩) ⟨PR.blind, va_recv hK hP (ci := 12) (q0 := 0) rfl rfl, PR.of hPc hKc hG hS hA [.ref h0, .int p0]⟩ rfl rfl hl.1 rfl (lv_room (Nat.le_of_ble_eq_true rfl)) dX8_damage_2 ⟨Nat.le_of_ble_eq_true rfl, Nat.le_of_ble_eq_true rfl⟩) hS (fun q h9 h => zN.not h9 h) (fun q h => hA q (Nat.le_trans hS.1 h)) (fun q h9 h => zN.not h9 h) (fun E ce q9 ux t_4 H_1 locs ht hvm px_5 hE hz1 hk1 hS hq9 hv9 hcl9 => ?_) (fun r_2 u t_4 H_1 locs ht hvm hw_3 hB hz1 hk1 hS => ?_)
  · exact vx_out (fun x9 h9 => (htab x9 h9).elim) hlocks hq9 hv9 hcl9 (fun t2 ht2 hal2 => zX.same trivial hE hS ht2) hS.2.2 (Nat.le_of_ble_eq_true rfl) (Nat.le_of_ble_eq_true rfl)
  exact hw_3.elim

abbrev wz_X8_retire : List Cond := .code yX8_retire cX8_retire 4 (Option.some Jvm.ClassFile.FieldType.int) :: lw_good
set_option maxHeartbeats 4000000 in
set_option maxRecDepth 100000 in
/-- retire: there is none of it yet -/
theorem k_X8_retire (l : Launch) (hfl : l.stackTraces = false) (G : va_G) (z : Nat) (h0 : Nat) (a1 : Nat) (a2 : Nat) (a3 : Nat) (a4 : Nat) (a5 : Nat) (a6 : Nat) (a7 : Nat) (a8 : Nat) (tol : Int32) (sal : Int32) (c0 : Int32) (e0 : Nat) (p0 : Int32) (p1 : Int32) (sz : Nat)  : vx_Met l yX8_retire wz_X8_retire ({ frames := 7, cells := 1, slots := 6, locals := 103 }) (va_Pc [.ref h0, .int p0, .int p1] (PR G z [(h0, .inr (12, [.ref a1, .ref a2, .ref a3, .ref a4, .ref a5, .ref a6, .ref a7, .ref a8, .int tol, .int sal])), (a1, .inr (3, [.int c0, .ref e0, .int 0]))] [] sz)) (va_Qi (fun (r : Int32) (_ : Unit) => False) (fun (_ : Unit) (_ : State) => True) (zN sz)) (zX (True) "java/lang/IndexOutOfBoundsException" (zN sz)) 1 6 (zN sz) := by
  refine vx_ofW (cc := cX8_retire) (maxL := 4) (ret := (Option.some Jvm.ClassFile.FieldType.int)) (by decide) rfl ?_
  intro p e s m args below meth c s₁ B hml htab hv
  obtain ⟨rfl, rfl, hP, hK, hG⟩ := hv
  have hx := B.exec
  have hb := B.bytes
  have hr := B.returns
  have hts := atoms_spec (ws := wz_X8_retire) B.pre
  have hg : ∀ w ∈ lw_good, w.before _ s = true := fun w h => hts w (List.mem_cons_of_mem _ h)
  have hown : s.vm.findClass RX8 = some m.cls := findClass_of_methodNamed B.named
  have hlocks := B.notSynchronized
  have hA : ∀ q : Nat, s.heap.size ≤ q → zN s.heap.size q := fun _ h => h
  have hS : va_S (zN s.heap.size) s.heap s.heap [] := va_S.rf
  have hl := lv_entry ([.ref h0, .int p0, .int p1]) (n := 4) (Nat.le_of_ble_eq_true rfl)
  rw [lg_entry_eq]
  generalize (lg_sl ([.ref h0, .int p0, .int p1]) ++ List.replicate (4 - (lg_sl ([.ref h0, .int p0, .int p1])).length) Slot.unset).toArray = ls at hl ⊢
  have hl : lv_has ls 4 [(0, .ref h0), (1, .int p0), (2, .int p1)] := hl
  refine lv_aload_n hx hb dX8_retire_0 rfl (lv_at hl 0 rfl) ?_
  refine lv_iload_n hx hb dX8_retire_1 rfl (lv_at hl 1 rfl) ?_
  have hPc := hP.sub (ws' := [(h0, .inr (12, [.ref a1, .ref a2, .ref a3, .ref a4, .ref a5, .ref a6, .ref a7, .ref a8, .int tol, .int sal])), (a1, .inr (3, [.int c0, .ref e0, .int 0]))]) [0, 1] rfl
  have hKc := hK.sub (tys' := []) [] rfl
  refine vx_callq (vx_runV (As := [.int p0]) (rest := []) ⟨hx, hb, hml, hown, hts⟩ (k_X8_mouldAt l hfl G z h0 a1 a2 a3 a4 a5 a6 a7 a8 tol sal c0 e0 p0 s.heap.size ) (cwV 1 hts (lw_goodApp (lw_4 q546 q548 qs14 q1) q549) rfl rfl rfl (by decide +kernel) ⟨Nat.le_of_ble_eq_true rfl, Nat.le_of_ble_eq_true rfl⟩) ⟨PR.blind, va_recv hK hP (ci := 12) (q0 := 0) rfl rfl, PR.of hPc hKc hG hS hA [.ref h0, .int p0]⟩ rfl rfl hl.1 rfl (lv_room (Nat.le_of_ble_eq_true rfl)) dX8_retire_2 ⟨Nat.le_of_ble_eq_true rfl, Nat.le_of_ble_eq_true rfl⟩) hS (fun q h9 h => zN.not h9 h) (fun q h => hA q (Nat.le_trans hS.1 h)) (fun q h9 h => zN.not h9 h) (fun E ce q9 ux t_4 H_1 locs ht hvm px_5 hE hz1 hk1 hS hq9 hv9 hcl9 => ?_) (fun r_2 u t_4 H_1 locs ht hvm hw_3 hB hz1 hk1 hS => ?_)
  · exact vx_out (fun x9 h9 => (htab x9 h9).elim) hlocks hq9 hv9 hcl9 (fun t2 ht2 hal2 => zX.same trivial hE hS ht2) hS.2.2 (Nat.le_of_ble_eq_true rfl) (Nat.le_of_ble_eq_true rfl)
  exact hw_3.elim

abbrev wz_X8_sell : List Cond := .code yX8_sell cX8_sell 6 (Option.some Jvm.ClassFile.FieldType.int) :: lw_good
set_option maxHeartbeats 4000000 in
set_option maxRecDepth 100000 in
/-- sell: there is none of it yet -/
theorem k_X8_sell (l : Launch) (hfl : l.stackTraces = false) (G : va_G) (z : Nat) (h0 : Nat) (a1 : Nat) (a2 : Nat) (a3 : Nat) (a4 : Nat) (a5 : Nat) (a6 : Nat) (a7 : Nat) (a8 : Nat) (tol : Int32) (sal : Int32) (c0 : Int32) (e0 : Nat) (p0 : Int32) (p1 : Int32) (p2 : Int32) (sz : Nat)  : vx_Met l yX8_sell wz_X8_sell ({ frames := 7, cells := 1, slots := 6, locals := 103 }) (va_Pc [.ref h0, .int p0, .int p1, .int p2] (PR G z [(h0, .inr (12, [.ref a1, .ref a2, .ref a3, .ref a4, .ref a5, .ref a6, .ref a7, .ref a8, .int tol, .int sal])), (a1, .inr (3, [.int c0, .ref e0, .int 0]))] [] sz)) (va_Qi (fun (r : Int32) (_ : Unit) => False) (fun (_ : Unit) (_ : State) => True) (zN sz)) (zX (True) "java/lang/IndexOutOfBoundsException" (zN sz)) 1 6 (zN sz) := by
  refine vx_ofW (cc := cX8_sell) (maxL := 6) (ret := (Option.some Jvm.ClassFile.FieldType.int)) (by decide) rfl ?_
  intro p e s m args below meth c s₁ B hml htab hv
  obtain ⟨rfl, rfl, hP, hK, hG⟩ := hv
  have hx := B.exec
  have hb := B.bytes
  have hr := B.returns
  have hts := atoms_spec (ws := wz_X8_sell) B.pre
  have hg : ∀ w ∈ lw_good, w.before _ s = true := fun w h => hts w (List.mem_cons_of_mem _ h)
  have hown : s.vm.findClass RX8 = some m.cls := findClass_of_methodNamed B.named
  have hlocks := B.notSynchronized
  have hA : ∀ q : Nat, s.heap.size ≤ q → zN s.heap.size q := fun _ h => h
  have hS : va_S (zN s.heap.size) s.heap s.heap [] := va_S.rf
  have hl := lv_entry ([.ref h0, .int p0, .int p1, .int p2]) (n := 6) (Nat.le_of_ble_eq_true rfl)
  rw [lg_entry_eq]
  generalize (lg_sl ([.ref h0, .int p0, .int p1, .int p2]) ++ List.replicate (6 - (lg_sl ([.ref h0, .int p0, .int p1, .int p2])).length) Slot.unset).toArray = ls at hl ⊢
  have hl : lv_has ls 6 [(0, .ref h0), (1, .int p0), (2, .int p1), (3, .int p2)] := hl
  refine lv_aload_n hx hb dX8_sell_0 rfl (lv_at hl 0 rfl) ?_
  refine lv_iload_n hx hb dX8_sell_1 rfl (lv_at hl 1 rfl) ?_
  have hPc := hP.sub (ws' := [(h0, .inr (12, [.ref a1, .ref a2, .ref a3, .ref a4, .ref a5, .ref a6, .ref a7, .ref a8, .int tol, .int sal])), (a1, .inr (3, [.int c0, .ref e0, .int 0]))]) [0, 1] rfl
  have hKc := hK.sub (tys' := []) [] rfl
  refine vx_callq (vx_runV (As := [.int p0]) (rest := []) ⟨hx, hb, hml, hown, hts⟩ (k_X8_mouldAt l hfl G z h0 a1 a2 a3 a4 a5 a6 a7 a8 tol sal c0 e0 p0 s.heap.size ) (cwV 1 hts (lw_goodApp (lw_4 q546 q548 qs14 q1) q549) rfl rfl rfl (by decide +kernel) ⟨Nat.le_of_ble_eq_true rfl, Nat.le_of_ble_eq_true rfl⟩) ⟨PR.blind, va_recv hK hP (ci := 12) (q0 := 0) rfl rfl, PR.of hPc hKc hG hS hA [.ref h0, .int p0]⟩ rfl rfl hl.1 rfl (lv_room (Nat.le_of_ble_eq_true rfl)) dX8_sell_2 ⟨Nat.le_of_ble_eq_true rfl, Nat.le_of_ble_eq_true rfl⟩) hS (fun q h9 h => zN.not h9 h) (fun q h => hA q (Nat.le_trans hS.1 h)) (fun q h9 h => zN.not h9 h) (fun E ce q9 ux t_4 H_1 locs ht hvm px_5 hE hz1 hk1 hS hq9 hv9 hcl9 => ?_) (fun r_2 u t_4 H_1 locs ht hvm hw_3 hB hz1 hk1 hS => ?_)
  · exact vx_out (fun x9 h9 => (htab x9 h9).elim) hlocks hq9 hv9 hcl9 (fun t2 ht2 hal2 => zX.same trivial hE hS ht2) hS.2.2 (Nat.le_of_ble_eq_true rfl) (Nat.le_of_ble_eq_true rfl)
  exact hw_3.elim

abbrev wz_X8_owner : List Cond := .code yX8_owner cX8_owner 4 (Option.some Jvm.ClassFile.FieldType.int) :: lw_good
set_option maxHeartbeats 4000000 in
set_option maxRecDepth 100000 in
/-- owner: there is none of it yet -/
theorem k_X8_owner (l : Launch) (hfl : l.stackTraces = false) (G : va_G) (z : Nat) (h0 : Nat) (a1 : Nat) (a2 : Nat) (a3 : Nat) (a4 : Nat) (a5 : Nat) (a6 : Nat) (a7 : Nat) (a8 : Nat) (tol : Int32) (sal : Int32) (c0 : Int32) (e0 : Nat) (p0 : Int32) (p1 : Int32) (sz : Nat)  : vx_Met l yX8_owner wz_X8_owner ({ frames := 7, cells := 1, slots := 6, locals := 103 }) (va_Pc [.ref h0, .int p0, .int p1] (PR G z [(h0, .inr (12, [.ref a1, .ref a2, .ref a3, .ref a4, .ref a5, .ref a6, .ref a7, .ref a8, .int tol, .int sal])), (a1, .inr (3, [.int c0, .ref e0, .int 0]))] [] sz)) (va_Qi (fun (r : Int32) (_ : Unit) => False) (fun (_ : Unit) (_ : State) => True) (zN sz)) (zX (True) "java/lang/IndexOutOfBoundsException" (zN sz)) 1 6 (zN sz) := by
  refine vx_ofW (cc := cX8_owner) (maxL := 4) (ret := (Option.some Jvm.ClassFile.FieldType.int)) (by decide) rfl ?_
  intro p e s m args below meth c s₁ B hml htab hv
  obtain ⟨rfl, rfl, hP, hK, hG⟩ := hv
  have hx := B.exec
  have hb := B.bytes
  have hr := B.returns
  have hts := atoms_spec (ws := wz_X8_owner) B.pre
  have hg : ∀ w ∈ lw_good, w.before _ s = true := fun w h => hts w (List.mem_cons_of_mem _ h)
  have hown : s.vm.findClass RX8 = some m.cls := findClass_of_methodNamed B.named
  have hlocks := B.notSynchronized
  have hA : ∀ q : Nat, s.heap.size ≤ q → zN s.heap.size q := fun _ h => h
  have hS : va_S (zN s.heap.size) s.heap s.heap [] := va_S.rf
  have hl := lv_entry ([.ref h0, .int p0, .int p1]) (n := 4) (Nat.le_of_ble_eq_true rfl)
  rw [lg_entry_eq]
  generalize (lg_sl ([.ref h0, .int p0, .int p1]) ++ List.replicate (4 - (lg_sl ([.ref h0, .int p0, .int p1])).length) Slot.unset).toArray = ls at hl ⊢
  have hl : lv_has ls 4 [(0, .ref h0), (1, .int p0), (2, .int p1)] := hl
  refine lv_aload_n hx hb dX8_owner_0 rfl (lv_at hl 0 rfl) ?_
  refine lv_iload_n hx hb dX8_owner_1 rfl (lv_at hl 1 rfl) ?_
  have hPc := hP.sub (ws' := [(h0, .inr (12, [.ref a1, .ref a2, .ref a3, .ref a4, .ref a5, .ref a6, .ref a7, .ref a8, .int tol, .int sal])), (a1, .inr (3, [.int c0, .ref e0, .int 0]))]) [0, 1] rfl
  have hKc := hK.sub (tys' := []) [] rfl
  refine vx_callq (vx_runV (As := [.int p0]) (rest := []) ⟨hx, hb, hml, hown, hts⟩ (k_X8_mouldAt l hfl G z h0 a1 a2 a3 a4 a5 a6 a7 a8 tol sal c0 e0 p0 s.heap.size ) (cwV 1 hts (lw_goodApp (lw_4 q546 q548 qs14 q1) q549) rfl rfl rfl (by decide +kernel) ⟨Nat.le_of_ble_eq_true rfl, Nat.le_of_ble_eq_true rfl⟩) ⟨PR.blind, va_recv hK hP (ci := 12) (q0 := 0) rfl rfl, PR.of hPc hKc hG hS hA [.ref h0, .int p0]⟩ rfl rfl hl.1 rfl (lv_room (Nat.le_of_ble_eq_true rfl)) dX8_owner_2 ⟨Nat.le_of_ble_eq_true rfl, Nat.le_of_ble_eq_true rfl⟩) hS (fun q h9 h => zN.not h9 h) (fun q h => hA q (Nat.le_trans hS.1 h)) (fun q h9 h => zN.not h9 h) (fun E ce q9 ux t_4 H_1 locs ht hvm px_5 hE hz1 hk1 hS hq9 hv9 hcl9 => ?_) (fun r_2 u t_4 H_1 locs ht hvm hw_3 hB hz1 hk1 hS => ?_)
  · exact vx_out (fun x9 h9 => (htab x9 h9).elim) hlocks hq9 hv9 hcl9 (fun t2 ht2 hal2 => zX.same trivial hE hS ht2) hS.2.2 (Nat.le_of_ble_eq_true rfl) (Nat.le_of_ble_eq_true rfl)
  exact hw_3.elim

abbrev wz_X8_state : List Cond := .code yX8_state cX8_state 4 (Option.some Jvm.ClassFile.FieldType.int) :: lw_good
set_option maxHeartbeats 4000000 in
set_option maxRecDepth 100000 in
/-- state: there is none of it yet -/
theorem k_X8_state (l : Launch) (hfl : l.stackTraces = false) (G : va_G) (z : Nat) (h0 : Nat) (a1 : Nat) (a2 : Nat) (a3 : Nat) (a4 : Nat) (a5 : Nat) (a6 : Nat) (a7 : Nat) (a8 : Nat) (tol : Int32) (sal : Int32) (c0 : Int32) (e0 : Nat) (p0 : Int32) (p1 : Int32) (sz : Nat)  : vx_Met l yX8_state wz_X8_state ({ frames := 7, cells := 1, slots := 6, locals := 103 }) (va_Pc [.ref h0, .int p0, .int p1] (PR G z [(h0, .inr (12, [.ref a1, .ref a2, .ref a3, .ref a4, .ref a5, .ref a6, .ref a7, .ref a8, .int tol, .int sal])), (a1, .inr (3, [.int c0, .ref e0, .int 0]))] [] sz)) (va_Qi (fun (r : Int32) (_ : Unit) => False) (fun (_ : Unit) (_ : State) => True) (zN sz)) (zX (True) "java/lang/IndexOutOfBoundsException" (zN sz)) 1 6 (zN sz) := by
  refine vx_ofW (cc := cX8_state) (maxL := 4) (ret := (Option.some Jvm.ClassFile.FieldType.int)) (by decide) rfl ?_
  intro p e s m args below meth c s₁ B hml htab hv
  obtain ⟨rfl, rfl, hP, hK, hG⟩ := hv
  have hx := B.exec
  have hb := B.bytes
  have hr := B.returns
  have hts := atoms_spec (ws := wz_X8_state) B.pre
  have hg : ∀ w ∈ lw_good, w.before _ s = true := fun w h => hts w (List.mem_cons_of_mem _ h)
  have hown : s.vm.findClass RX8 = some m.cls := findClass_of_methodNamed B.named
  have hlocks := B.notSynchronized
  have hA : ∀ q : Nat, s.heap.size ≤ q → zN s.heap.size q := fun _ h => h
  have hS : va_S (zN s.heap.size) s.heap s.heap [] := va_S.rf
  have hl := lv_entry ([.ref h0, .int p0, .int p1]) (n := 4) (Nat.le_of_ble_eq_true rfl)
  rw [lg_entry_eq]
  generalize (lg_sl ([.ref h0, .int p0, .int p1]) ++ List.replicate (4 - (lg_sl ([.ref h0, .int p0, .int p1])).length) Slot.unset).toArray = ls at hl ⊢
  have hl : lv_has ls 4 [(0, .ref h0), (1, .int p0), (2, .int p1)] := hl
  refine lv_aload_n hx hb dX8_state_0 rfl (lv_at hl 0 rfl) ?_
  refine lv_iload_n hx hb dX8_state_1 rfl (lv_at hl 1 rfl) ?_
  have hPc := hP.sub (ws' := [(h0, .inr (12, [.ref a1, .ref a2, .ref a3, .ref a4, .ref a5, .ref a6, .ref a7, .ref a8, .int tol, .int sal])), (a1, .inr (3, [.int c0, .ref e0, .int 0]))]) [0, 1] rfl
  have hKc := hK.sub (tys' := []) [] rfl
  refine vx_callq (vx_runV (As := [.int p0]) (rest := []) ⟨hx, hb, hml, hown, hts⟩ (k_X8_mouldAt l hfl G z h0 a1 a2 a3 a4 a5 a6 a7 a8 tol sal c0 e0 p0 s.heap.size ) (cwV 1 hts (lw_goodApp (lw_4 q546 q548 qs14 q1) q549) rfl rfl rfl (by decide +kernel) ⟨Nat.le_of_ble_eq_true rfl, Nat.le_of_ble_eq_true rfl⟩) ⟨PR.blind, va_recv hK hP (ci := 12) (q0 := 0) rfl rfl, PR.of hPc hKc hG hS hA [.ref h0, .int p0]⟩ rfl rfl hl.1 rfl (lv_room (Nat.le_of_ble_eq_true rfl)) dX8_state_2 ⟨Nat.le_of_ble_eq_true rfl, Nat.le_of_ble_eq_true rfl⟩) hS (fun q h9 h => zN.not h9 h) (fun q h => hA q (Nat.le_trans hS.1 h)) (fun q h9 h => zN.not h9 h) (fun E ce q9 ux t_4 H_1 locs ht hvm px_5 hE hz1 hk1 hS hq9 hv9 hcl9 => ?_) (fun r_2 u t_4 H_1 locs ht hvm hw_3 hB hz1 hk1 hS => ?_)
  · exact vx_out (fun x9 h9 => (htab x9 h9).elim) hlocks hq9 hv9 hcl9 (fun t2 ht2 hal2 => zX.same trivial hE hS ht2) hS.2.2 (Nat.le_of_ble_eq_true rfl) (Nat.le_of_ble_eq_true rfl)
  exact hw_3.elim

abbrev wz_X8_wire : List Cond := .code yX8_wire cX8_wire 6 (Option.some Jvm.ClassFile.FieldType.char) :: lw_good
set_option maxHeartbeats 4000000 in
set_option maxRecDepth 100000 in
/-- wire: there is none of it yet -/
theorem k_X8_wire (l : Launch) (hfl : l.stackTraces = false) (G : va_G) (z : Nat) (h0 : Nat) (a1 : Nat) (a2 : Nat) (a3 : Nat) (a4 : Nat) (a5 : Nat) (a6 : Nat) (a7 : Nat) (a8 : Nat) (tol : Int32) (sal : Int32) (c0 : Int32) (e0 : Nat) (p0 : Int32) (p1 : Int32) (p2 : Int32) (sz : Nat)  : vx_Met l yX8_wire wz_X8_wire ({ frames := 7, cells := 1, slots := 6, locals := 103 }) (va_Pc [.ref h0, .int p0, .int p1, .int p2] (PR G z [(h0, .inr (12, [.ref a1, .ref a2, .ref a3, .ref a4, .ref a5, .ref a6, .ref a7, .ref a8, .int tol, .int sal])), (a1, .inr (3, [.int c0, .ref e0, .int 0]))] [] sz)) (va_Qi (fun (r : Int32) (_ : Unit) => False) (fun (_ : Unit) (_ : State) => True) (zN sz)) (zX (True) "java/lang/IndexOutOfBoundsException" (zN sz)) 1 6 (zN sz) := by
  refine vx_ofW (cc := cX8_wire) (maxL := 6) (ret := (Option.some Jvm.ClassFile.FieldType.char)) (by decide) rfl ?_
  intro p e s m args below meth c s₁ B hml htab hv
  obtain ⟨rfl, rfl, hP, hK, hG⟩ := hv
  have hx := B.exec
  have hb := B.bytes
  have hr := B.returns
  have hts := atoms_spec (ws := wz_X8_wire) B.pre
  have hg : ∀ w ∈ lw_good, w.before _ s = true := fun w h => hts w (List.mem_cons_of_mem _ h)
  have hown : s.vm.findClass RX8 = some m.cls := findClass_of_methodNamed B.named
  have hlocks := B.notSynchronized
  have hA : ∀ q : Nat, s.heap.size ≤ q → zN s.heap.size q := fun _ h => h
  have hS : va_S (zN s.heap.size) s.heap s.heap [] := va_S.rf
  have hl := lv_entry ([.ref h0, .int p0, .int p1, .int p2]) (n := 6) (Nat.le_of_ble_eq_true rfl)
  rw [lg_entry_eq]
  generalize (lg_sl ([.ref h0, .int p0, .int p1, .int p2]) ++ List.replicate (6 - (lg_sl ([.ref h0, .int p0, .int p1, .int p2])).length) Slot.unset).toArray = ls at hl ⊢
  have hl : lv_has ls 6 [(0, .ref h0), (1, .int p0), (2, .int p1), (3, .int p2)] := hl
  refine lv_aload_n hx hb dX8_wire_0 rfl (lv_at hl 0 rfl) ?_
  refine lv_iload_n hx hb dX8_wire_1 rfl (lv_at hl 1 rfl) ?_
  have hPc := hP.sub (ws' := [(h0, .inr (12, [.ref a1, .ref a2, .ref a3, .ref a4, .ref a5, .ref a6, .ref a7, .ref a8, .int tol, .int sal])), (a1, .inr (3, [.int c0, .ref e0, .int 0]))]) [0, 1] rfl
  have hKc := hK.sub (tys' := []) [] rfl
  refine vx_callq (vx_runV (As := [.int p0]) (rest := []) ⟨hx, hb, hml, hown, hts⟩ (k_X8_mouldAt l hfl G z h0 a1 a2 a3 a4 a5 a6 a7 a8 tol sal c0 e0 p0 s.heap.size ) (cwV 1 hts (lw_goodApp (lw_4 q546 q548 qs14 q1) q549) rfl rfl rfl (by decide +kernel) ⟨Nat.le_of_ble_eq_true rfl, Nat.le_of_ble_eq_true rfl⟩) ⟨PR.blind, va_recv hK hP (ci := 12) (q0 := 0) rfl rfl, PR.of hPc hKc hG hS hA [.ref h0, .int p0]⟩ rfl rfl hl.1 rfl (lv_room (Nat.le_of_ble_eq_true rfl)) dX8_wire_2 ⟨Nat.le_of_ble_eq_true rfl, Nat.le_of_ble_eq_true rfl⟩) hS (fun q h9 h => zN.not h9 h) (fun q h => hA q (Nat.le_trans hS.1 h)) (fun q h9 h => zN.not h9 h) (fun E ce q9 ux t_4 H_1 locs ht hvm px_5 hE hz1 hk1 hS hq9 hv9 hcl9 => ?_) (fun r_2 u t_4 H_1 locs ht hvm hw_3 hB hz1 hk1 hS => ?_)
  · exact vx_out (fun x9 h9 => (htab x9 h9).elim) hlocks hq9 hv9 hcl9 (fun t2 ht2 hal2 => zX.same trivial hE hS ht2) hS.2.2 (Nat.le_of_ble_eq_true rfl) (Nat.le_of_ble_eq_true rfl)
  exact hw_3.elim

abbrev wz_X8_make : List Cond := .code yX8_make cX8_make 8 (Option.some Jvm.ClassFile.FieldType.int) :: lw_good
set_option maxHeartbeats 4000000 in
set_option maxRecDepth 100000 in
/-- make: there is none of it yet -/
theorem k_X8_make (l : Launch) (hfl : l.stackTraces = false) (G : va_G) (z : Nat) (h0 : Nat) (a1 : Nat) (a2 : Nat) (a3 : Nat) (a4 : Nat) (a5 : Nat) (a6 : Nat) (a7 : Nat) (a8 : Nat) (tol : Int32) (sal : Int32) (c0 : Int32) (e0 : Nat) (p0 : Int32) (p1 : Int32) (p2 : Int32) (p3 : Int32) (sz : Nat)  : vx_Met l yX8_make wz_X8_make ({ frames := 7, cells := 1, slots := 6, locals := 103 }) (va_Pc [.ref h0, .int p0, .int p1, .int p2, .int p3] (PR G z [(h0, .inr (12, [.ref a1, .ref a2, .ref a3, .ref a4, .ref a5, .ref a6, .ref a7, .ref a8, .int tol, .int sal])), (a1, .inr (3, [.int c0, .ref e0, .int 0]))] [] sz)) (va_Qi (fun (r : Int32) (_ : Unit) => False) (fun (_ : Unit) (_ : State) => True) (zN sz)) (zX (True) "java/lang/IndexOutOfBoundsException" (zN sz)) 1 6 (zN sz) := by
  refine vx_ofW (cc := cX8_make) (maxL := 8) (ret := (Option.some Jvm.ClassFile.FieldType.int)) (by decide) rfl ?_
  intro p e s m args below meth c s₁ B hml htab hv
  obtain ⟨rfl, rfl, hP, hK, hG⟩ := hv
  have hx := B.exec
  have hb := B.bytes
  have hr := B.returns
  have hts := atoms_spec (ws := wz_X8_make) B.pre
  have hg : ∀ w ∈ lw_good, w.before _ s = true := fun w h => hts w (List.mem_cons_of_mem _ h)
  have hown : s.vm.findClass RX8 = some m.cls := findClass_of_methodNamed B.named
  have hlocks := B.notSynchronized
  have hA : ∀ q : Nat, s.heap.size ≤ q → zN s.heap.size q := fun _ h => h
  have hS : va_S (zN s.heap.size) s.heap s.heap [] := va_S.rf
  have hl := lv_entry ([.ref h0, .int p0, .int p1, .int p2, .int p3]) (n := 8) (Nat.le_of_ble_eq_true rfl)
  rw [lg_entry_eq]
  generalize (lg_sl ([.ref h0, .int p0, .int p1, .int p2, .int p3]) ++ List.replicate (8 - (lg_sl ([.ref h0, .int p0, .int p1, .int p2, .int p3])).length) Slot.unset).toArray = ls at hl ⊢
  have hl : lv_has ls 8 [(0, .ref h0), (1, .int p0), (2, .int p1), (3, .int p2), (4, .int p3)] := hl
  refine lv_aload_n hx hb dX8_make_0 rfl (lv_at hl 0 rfl) ?_
  refine lv_iload_n hx hb dX8_make_1 rfl (lv_at hl 1 rfl) ?_
  have hPc := hP.sub (ws' := [(h0, .inr (12, [.ref a1, .ref a2, .ref a3, .ref a4, .ref a5, .ref a6, .ref a7, .ref a8, .int tol, .int sal])), (a1, .inr (3, [.int c0, .ref e0, .int 0]))]) [0, 1] rfl
  have hKc := hK.sub (tys' := []) [] rfl
  refine vx_callq (vx_runV (As := [.int p0]) (rest := []) ⟨hx, hb, hml, hown, hts⟩ (k_X8_mouldAt l hfl G z h0 a1 a2 a3 a4 a5 a6 a7 a8 tol sal c0 e0 p0 s.heap.size ) (cwV 1 hts (lw_goodApp (lw_4 q546 q548 qs14 q1) q549) rfl rfl rfl (by decide +kernel) ⟨Nat.le_of_ble_eq_true rfl, Nat.le_of_ble_eq_true rfl⟩) ⟨PR.blind, va_recv hK hP (ci := 12) (q0 := 0) rfl rfl, PR.of hPc hKc hG hS hA [.ref h0, .int p0]⟩ rfl rfl hl.1 rfl (lv_room (Nat.le_of_ble_eq_true rfl)) dX8_make_2 ⟨Nat.le_of_ble_eq_true rfl, Nat.le_of_ble_eq_true rfl⟩) hS (fun q h9 h => zN.not h9 h) (fun q h => hA q (Nat.le_trans hS.1 h)) (fun q h9 h => zN.not h9 h) (fun E ce q9 ux t_4 H_1 locs ht hvm px_5 hE hz1 hk1 hS hq9 hv9 hcl9 => ?_) (fun r_2 u t_4 H_1 locs ht hvm hw_3 hB hz1 hk1 hS => ?_)
  · exact vx_out (fun x9 h9 => (htab x9 h9).elim) hlocks hq9 hv9 hcl9 (fun t2 ht2 hal2 => zX.same trivial hE hS ht2) hS.2.2 (Nat.le_of_ble_eq_true rfl) (Nat.le_of_ble_eq_true rfl)
  exact hw_3.elim

abbrev wz_X8_put : List Cond := .code yX8_put cX8_put 7 (Option.some Jvm.ClassFile.FieldType.int) :: lw_good
set_option maxHeartbeats 4000000 in
set_option maxRecDepth 100000 in
/-- put: there is none of it yet -/
theorem k_X8_put (l : Launch) (hfl : l.stackTraces = false) (G : va_G) (z : Nat) (h0 : Nat) (a1 : Nat) (a2 : Nat) (a3 : Nat) (a4 : Nat) (a5 : Nat) (a6 : Nat) (a7 : Nat) (a8 : Nat) (tol : Int32) (sal : Int32) (c0 : Int32) (e0 : Nat) (p0 : Int32) (p1 : Int32) (p2 : Int32) (sz : Nat)  : vx_Met l yX8_put wz_X8_put ({ frames := 7, cells := 1, slots := 6, locals := 103 }) (va_Pc [.ref h0, .int p0, .int p1, .int p2] (PR G z [(h0, .inr (12, [.ref a1, .ref a2, .ref a3, .ref a4, .ref a5, .ref a6, .ref a7, .ref a8, .int tol, .int sal])), (a3, .inr (3, [.int c0, .ref e0, .int 0]))] [] sz)) (va_Qi (fun (r : Int32) (_ : Unit) => False) (fun (_ : Unit) (_ : State) => True) (zN sz)) (zX (True) "java/lang/IndexOutOfBoundsException" (zN sz)) 1 6 (zN sz) := by
  refine vx_ofW (cc := cX8_put) (maxL := 7) (ret := (Option.some Jvm.ClassFile.FieldType.int)) (by decide) rfl ?_
  intro p e s m args below meth c s₁ B hml htab hv
  obtain ⟨rfl, rfl, hP, hK, hG⟩ := hv
  have hx := B.exec
  have hb := B.bytes
  have hr := B.returns
  have hts := atoms_spec (ws := wz_X8_put) B.pre
  have hg : ∀ w ∈ lw_good, w.before _ s = true := fun w h => hts w (List.mem_cons_of_mem _ h)
  have hown : s.vm.findClass RX8 = some m.cls := findClass_of_methodNamed B.named
  have hlocks := B.notSynchronized
  have hA : ∀ q : Nat, s.heap.size ≤ q → zN s.heap.size q := fun _ h => h
  have hS : va_S (zN s.heap.size) s.heap s.heap [] := va_S.rf
  have hl := lv_entry ([.ref h0, .int p0, .int p1, .int p2]) (n := 7) (Nat.le_of_ble_eq_true rfl)
  rw [lg_entry_eq]
  generalize (lg_sl ([.ref h0, .int p0, .int p1, .int p2]) ++ List.replicate (7 - (lg_sl ([.ref h0, .int p0, .int p1, .int p2])).length) Slot.unset).toArray = ls at hl ⊢
  have hl : lv_has ls 7 [(0, .ref h0), (1, .int p0), (2, .int p1), (3, .int p2)] := hl
  refine lv_aload_n hx hb dX8_put_0 rfl (lv_at hl 0 rfl) ?_
  refine lv_iload_n hx hb dX8_put_1 rfl (lv_at hl 1 rfl) ?_
  have hPc := hP.sub (ws' := [(h0, .inr (12, [.ref a1, .ref a2, .ref a3, .ref a4, .ref a5, .ref a6, .ref a7, .ref a8, .int tol, .int sal])), (a3, .inr (3, [.int c0, .ref e0, .int 0]))]) [0, 1] rfl
  have hKc := hK.sub (tys' := []) [] rfl
  refine vx_callq (vx_runV (As := [.int p0]) (rest := []) ⟨hx, hb, hml, hown, hts⟩ (k_X8_reamAt l hfl G z h0 a1 a2 a3 a4 a5 a6 a7 a8 tol sal c0 e0 p0 s.heap.size ) (cwV 1 hts (lw_goodApp (lw_4 q762 q764 qs15 q1) q765) rfl rfl rfl (by decide +kernel) ⟨Nat.le_of_ble_eq_true rfl, Nat.le_of_ble_eq_true rfl⟩) ⟨PR.blind, va_recv hK hP (ci := 12) (q0 := 0) rfl rfl, PR.of hPc hKc hG hS hA [.ref h0, .int p0]⟩ rfl rfl hl.1 rfl (lv_room (Nat.le_of_ble_eq_true rfl)) dX8_put_2 ⟨Nat.le_of_ble_eq_true rfl, Nat.le_of_ble_eq_true rfl⟩) hS (fun q h9 h => zN.not h9 h) (fun q h => hA q (Nat.le_trans hS.1 h)) (fun q h9 h => zN.not h9 h) (fun E ce q9 ux t_4 H_1 locs ht hvm px_5 hE hz1 hk1 hS hq9 hv9 hcl9 => ?_) (fun r_2 u t_4 H_1 locs ht hvm hw_3 hB hz1 hk1 hS => ?_)
  · exact vx_out (fun x9 h9 => (htab x9 h9).elim) hlocks hq9 hv9 hcl9 (fun t2 ht2 hal2 => zX.same trivial hE hS ht2) hS.2.2 (Nat.le_of_ble_eq_true rfl) (Nat.le_of_ble_eq_true rfl)
  exact hw_3.elim

abbrev wz_X8_tariff : List Cond := .code yX8_tariff cX8_tariff 6 (Option.some Jvm.ClassFile.FieldType.int) :: lw_good
set_option maxHeartbeats 4000000 in
set_option maxRecDepth 100000 in
/-- tariff: there is none of it yet -/
theorem k_X8_tariff (l : Launch) (hfl : l.stackTraces = false) (G : va_G) (z : Nat) (h0 : Nat) (a1 : Nat) (a2 : Nat) (a3 : Nat) (a4 : Nat) (a5 : Nat) (a6 : Nat) (a7 : Nat) (a8 : Nat) (tol : Int32) (sal : Int32) (c0 : Int32) (e0 : Nat) (p0 : Int32) (sz : Nat)  : vx_Met l yX8_tariff wz_X8_tariff ({ frames := 7, cells := 1, slots := 6, locals := 103 }) (va_Pc [.ref h0, .int p0] (PR G z [(h0, .inr (12, [.ref a1, .ref a2, .ref a3, .ref a4, .ref a5, .ref a6, .ref a7, .ref a8, .int tol, .int sal])), (a3, .inr (3, [.int c0, .ref e0, .int 0]))] [] sz)) (va_Qi (fun (r : Int32) (_ : Unit) => False) (fun (_ : Unit) (_ : State) => True) (zN sz)) (zX (True) "java/lang/IndexOutOfBoundsException" (zN sz)) 1 6 (zN sz) := by
  refine vx_ofW (cc := cX8_tariff) (maxL := 6) (ret := (Option.some Jvm.ClassFile.FieldType.int)) (by decide) rfl ?_
  intro p e s m args below meth c s₁ B hml htab hv
  obtain ⟨rfl, rfl, hP, hK, hG⟩ := hv
  have hx := B.exec
  have hb := B.bytes
  have hr := B.returns
  have hts := atoms_spec (ws := wz_X8_tariff) B.pre
  have hg : ∀ w ∈ lw_good, w.before _ s = true := fun w h => hts w (List.mem_cons_of_mem _ h)
  have hown : s.vm.findClass RX8 = some m.cls := findClass_of_methodNamed B.named
  have hlocks := B.notSynchronized
  have hA : ∀ q : Nat, s.heap.size ≤ q → zN s.heap.size q := fun _ h => h
  have hS : va_S (zN s.heap.size) s.heap s.heap [] := va_S.rf
  have hl := lv_entry ([.ref h0, .int p0]) (n := 6) (Nat.le_of_ble_eq_true rfl)
  rw [lg_entry_eq]
  generalize (lg_sl ([.ref h0, .int p0]) ++ List.replicate (6 - (lg_sl ([.ref h0, .int p0])).length) Slot.unset).toArray = ls at hl ⊢
  have hl : lv_has ls 6 [(0, .ref h0), (1, .int p0)] := hl
  refine lv_aload_n hx hb dX8_tariff_0 rfl (lv_at hl 0 rfl) ?_
  refine lv_iload_n hx hb dX8_tariff_1 rfl (lv_at hl 1 rfl) ?_
  have hPc := hP.sub (ws' := [(h0, .inr (12, [.ref a1, .ref a2, .ref a3, .ref a4, .ref a5, .ref a6, .ref a7, .ref a8, .int tol, .int sal])), (a3, .inr (3, [.int c0, .ref e0, .int 0]))]) [0, 1] rfl
  have hKc := hK.sub (tys' := []) [] rfl
  refine vx_callq (vx_runV (As := [.int p0]) (rest := []) ⟨hx, hb, hml, hown, hts⟩ (k_X8_reamAt l hfl G z h0 a1 a2 a3 a4 a5 a6 a7 a8 tol sal c0 e0 p0 s.heap.size ) (cwV 1 hts (lw_goodApp (lw_4 q762 q764 qs15 q1) q765) rfl rfl rfl (by decide +kernel) ⟨Nat.le_of_ble_eq_true rfl, Nat.le_of_ble_eq_true rfl⟩) ⟨PR.blind, va_recv hK hP (ci := 12) (q0 := 0) rfl rfl, PR.of hPc hKc hG hS hA [.ref h0, .int p0]⟩ rfl rfl hl.1 rfl (lv_room (Nat.le_of_ble_eq_true rfl)) dX8_tariff_2 ⟨Nat.le_of_ble_eq_true rfl, Nat.le_of_ble_eq_true rfl⟩) hS (fun q h9 h => zN.not h9 h) (fun q h => hA q (Nat.le_trans hS.1 h)) (fun q h9 h => zN.not h9 h) (fun E ce q9 ux t_4 H_1 locs ht hvm px_5 hE hz1 hk1 hS hq9 hv9 hcl9 => ?_) (fun r_2 u t_4 H_1 locs ht hvm hw_3 hB hz1 hk1 hS => ?_)
  · exact vx_out (fun x9 h9 => (htab x9 h9).elim) hlocks hq9 hv9 hcl9 (fun t2 ht2 hal2 => zX.same trivial hE hS ht2) hS.2.2 (Nat.le_of_ble_eq_true rfl) (Nat.le_of_ble_eq_true rfl)
  exact hw_3.elim

abbrev wz_X8_use : List Cond := .code yX8_use cX8_use 7 (Option.some Jvm.ClassFile.FieldType.int) :: lw_good
set_option maxHeartbeats 4000000 in
set_option maxRecDepth 100000 in
/-- use: there is none of it yet -/
theorem k_X8_use (l : Launch) (hfl : l.stackTraces = false) (G : va_G) (z : Nat) (h0 : Nat) (a1 : Nat) (a2 : Nat) (a3 : Nat) (a4 : Nat) (a5 : Nat) (a6 : Nat) (a7 : Nat) (a8 : Nat) (tol : Int32) (sal : Int32) (c0 : Int32) (e0 : Nat) (p0 : Int32) (p1 : Int32) (p2 : Int32) (sz : Nat)  : vx_Met l yX8_use wz_X8_use ({ frames := 7, cells := 1, slots := 6, locals := 103 }) (va_Pc [.ref h0, .int p0, .int p1, .int p2] (PR G z [(h0, .inr (12, [.ref a1, .ref a2, .ref a3, .ref a4, .ref a5, .ref a6, .ref a7, .ref a8, .int tol, .int sal])), (a4, .inr (3, [.int c0, .ref e0, .int 0]))] [] sz)) (va_Qi (fun (r : Int32) (_ : Unit) => False) (fun (_ : Unit) (_ : State) => True) (zN sz)) (zX (True) "java/lang/IndexOutOfBoundsException" (zN sz)) 1 6 (zN sz) := by
  refine vx_ofW (cc := cX8_use) (maxL := 7) (ret := (Option.some Jvm.ClassFile.FieldType.int)) (by decide) rfl ?_
  intro p e s m args below meth c s₁ B hml htab hv
  obtain ⟨rfl, rfl, hP, hK, hG⟩ := hv
  have hx := B.exec
  have hb := B.bytes
  have hr := B.returns
  have hts := atoms_spec (ws := wz_X8_use) B.pre
  have hg : ∀ w ∈ lw_good, w.before _ s = true := fun w h => hts w (List.mem_cons_of_mem _ h)
  have hown : s.vm.findClass RX8 = some m.cls := findClass_of_methodNamed B.named
  have hlocks := B.notSynchronized
  have hA : ∀ q : Nat, s.heap.size ≤ q → zN s.heap.size q := fun _ h => h
  have hS : va_S (zN s.heap.size) s.heap s.heap [] := va_S.rf
  have hl := lv_entry ([.ref h0, .int p0, .int p1, .int p2]) (n := 7) (Nat.le_of_ble_eq_true rfl)
  rw [lg_entry_eq]
  generalize (lg_sl ([.ref h0, .int p0, .int p1, .int p2]) ++ List.replicate (7 - (lg_sl ([.ref h0, .int p0, .int p1, .int p2])).length) Slot.unset).toArray = ls at hl ⊢
  have hl : lv_has ls 7 [(0, .ref h0), (1, .int p0), (2, .int p1), (3, .int p2)] := hl
  refine lv_aload_n hx hb dX8_use_0 rfl (lv_at hl 0 rfl) ?_
  refine lv_iload_n hx hb dX8_use_1 rfl (lv_at hl 1 rfl) ?_
  have hPc := hP.sub (ws' := [(h0, .inr (12, [.ref a1, .ref a2, .ref a3, .ref a4, .ref a5, .ref a6, .ref a7, .ref a8, .int tol, .int sal])), (a4, .inr (3, [.int c0, .ref e0, .int 0]))]) [0, 1] rfl
  have hKc := hK.sub (tys' := []) [] rfl
  refine vx_callq (vx_runV (As := [.int p0]) (rest := []) ⟨hx, hb, hml, hown, hts⟩ (k_X8_documentAt l hfl G z h0 a1 a2 a3 a4 a5 a6 a7 a8 tol sal c0 e0 p0 s.heap.size ) (cwV 1 hts (lw_goodApp (lw_4 q860 q862 qs17 q1) q863) rfl rfl rfl (by decide +kernel) ⟨Nat.le_of_ble_eq_true rfl, Nat.le_of_ble_eq_true rfl⟩) ⟨PR.blind, va_recv hK hP (ci := 12) (q0 := 0) rfl rfl, PR.of hPc hKc hG hS hA [.ref h0, .int p0]⟩ rfl rfl hl.1 rfl (lv_room (Nat.le_of_ble_eq_true rfl)) dX8_use_2 ⟨Nat.le_of_ble_eq_true rfl, Nat.le_of_ble_eq_true rfl⟩) hS (fun q h9 h => zN.not h9 h) (fun q h => hA q (Nat.le_trans hS.1 h)) (fun q h9 h => zN.not h9 h) (fun E ce q9 ux t_4 H_1 locs ht hvm px_5 hE hz1 hk1 hS hq9 hv9 hcl9 => ?_) (fun r_2 u t_4 H_1 locs ht hvm hw_3 hB hz1 hk1 hS => ?_)
  · exact vx_out (fun x9 h9 => (htab x9 h9).elim) hlocks hq9 hv9 hcl9 (fun t2 ht2 hal2 => zX.same trivial hE hS ht2) hS.2.2 (Nat.le_of_ble_eq_true rfl) (Nat.le_of_ble_eq_true rfl)
  exact hw_3.elim

abbrev wz_X8_cancel : List Cond := .code yX8_cancel cX8_cancel 6 (Option.some Jvm.ClassFile.FieldType.boolean) :: lw_good
set_option maxHeartbeats 4000000 in
set_option maxRecDepth 100000 in
/-- cancel: there is none of it yet -/
theorem k_X8_cancel (l : Launch) (hfl : l.stackTraces = false) (G : va_G) (z : Nat) (h0 : Nat) (a1 : Nat) (a2 : Nat) (a3 : Nat) (a4 : Nat) (a5 : Nat) (a6 : Nat) (a7 : Nat) (a8 : Nat) (tol : Int32) (sal : Int32) (c0 : Int32) (e0 : Nat) (p0 : Int32) (p1 : Int32) (p2 : Int32) (p3 : Int32) (sz : Nat)  : vx_Met l yX8_cancel wz_X8_cancel ({ frames := 7, cells := 1, slots := 6, locals := 103 }) (va_Pc [.ref h0, .int p0, .int p1, .int p2, .int p3] (PR G z [(h0, .inr (12, [.ref a1, .ref a2, .ref a3, .ref a4, .ref a5, .ref a6, .ref a7, .ref a8, .int tol, .int sal])), (a4, .inr (3, [.int c0, .ref e0, .int 0]))] [] sz)) (va_Qi (fun (r : Int32) (_ : Unit) => False) (fun (_ : Unit) (_ : State) => True) (zN sz)) (zX (True) "java/lang/IndexOutOfBoundsException" (zN sz)) 1 6 (zN sz) := by
  refine vx_ofW (cc := cX8_cancel) (maxL := 6) (ret := (Option.some Jvm.ClassFile.FieldType.boolean)) (by decide) rfl ?_
  intro p e s m args below meth c s₁ B hml htab hv
  obtain ⟨rfl, rfl, hP, hK, hG⟩ := hv
  have hx := B.exec
  have hb := B.bytes
  have hr := B.returns
  have hts := atoms_spec (ws := wz_X8_cancel) B.pre
  have hg : ∀ w ∈ lw_good, w.before _ s = true := fun w h => hts w (List.mem_cons_of_mem _ h)
  have hown : s.vm.findClass RX8 = some m.cls := findClass_of_methodNamed B.named
  have hlocks := B.notSynchronized
  have hA : ∀ q : Nat, s.heap.size ≤ q → zN s.heap.size q := fun _ h => h
  have hS : va_S (zN s.heap.size) s.heap s.heap [] := va_S.rf
  have hl := lv_entry ([.ref h0, .int p0, .int p1, .int p2, .int p3]) (n := 6) (Nat.le_of_ble_eq_true rfl)
  rw [lg_entry_eq]
  generalize (lg_sl ([.ref h0, .int p0, .int p1, .int p2, .int p3]) ++ List.replicate (6 - (lg_sl ([.ref h0, .int p0, .int p1, .int p2, .int p3])).length) Slot.unset).toArray = ls at hl ⊢
  have hl : lv_has ls 6 [(0, .ref h0), (1, .int p0), (2, .int p1), (3, .int p2), (4, .int p3)] := hl
  refine lv_aload_n hx hb dX8_cancel_0 rfl (lv_at hl 0 rfl) ?_
  refine lv_iload_n hx hb dX8_cancel_1 rfl (lv_at hl 1 rfl) ?_
  have hPc := hP.sub (ws' := [(h0, .inr (12, [.ref a1, .ref a2, .ref a3, .ref a4, .ref a5, .ref a6, .ref a7, .ref a8, .int tol, .int sal])), (a4, .inr (3, [.int c0, .ref e0, .int 0]))]) [0, 1] rfl
  have hKc := hK.sub (tys' := []) [] rfl
  refine vx_callq (vx_runV (As := [.int p0]) (rest := []) ⟨hx, hb, hml, hown, hts⟩ (k_X8_documentAt l hfl G z h0 a1 a2 a3 a4 a5 a6 a7 a8 tol sal c0 e0 p0 s.heap.size ) (cwV 1 hts (lw_goodApp (lw_4 q860 q862 qs17 q1) q863) rfl rfl rfl (by decide +kernel) ⟨Nat.le_of_ble_eq_true rfl, Nat.le_of_ble_eq_true rfl⟩) ⟨PR.blind, va_recv hK hP (ci := 12) (q0 := 0) rfl rfl, PR.of hPc hKc hG hS hA [.ref h0, .int p0]⟩ rfl rfl hl.1 rfl (lv_room (Nat.le_of_ble_eq_true rfl)) dX8_cancel_2 ⟨Nat.le_of_ble_eq_true rfl, Nat.le_of_ble_eq_true rfl⟩) hS (fun q h9 h => zN.not h9 h) (fun q h => hA q (Nat.le_trans hS.1 h)) (fun q h9 h => zN.not h9 h) (fun E ce q9 ux t_4 H_1 locs ht hvm px_5 hE hz1 hk1 hS hq9 hv9 hcl9 => ?_) (fun r_2 u t_4 H_1 locs ht hvm hw_3 hB hz1 hk1 hS => ?_)
  · exact vx_out (fun x9 h9 => (htab x9 h9).elim) hlocks hq9 hv9 hcl9 (fun t2 ht2 hal2 => zX.same trivial hE hS ht2) hS.2.2 (Nat.le_of_ble_eq_true rfl) (Nat.le_of_ble_eq_true rfl)
  exact hw_3.elim

abbrev wz_X8_cancels : List Cond := .code yX8_cancels cX8_cancels 6 (Option.some Jvm.ClassFile.FieldType.int) :: lw_good
set_option maxHeartbeats 4000000 in
set_option maxRecDepth 100000 in
/-- cancels: there is none of it yet -/
theorem k_X8_cancels (l : Launch) (hfl : l.stackTraces = false) (G : va_G) (z : Nat) (h0 : Nat) (a1 : Nat) (a2 : Nat) (a3 : Nat) (a4 : Nat) (a5 : Nat) (a6 : Nat) (a7 : Nat) (a8 : Nat) (tol : Int32) (sal : Int32) (c0 : Int32) (e0 : Nat) (p0 : Int32) (p1 : Int32) (sz : Nat)  : vx_Met l yX8_cancels wz_X8_cancels ({ frames := 7, cells := 1, slots := 6, locals := 103 }) (va_Pc [.ref h0, .int p0, .int p1] (PR G z [(h0, .inr (12, [.ref a1, .ref a2, .ref a3, .ref a4, .ref a5, .ref a6, .ref a7, .ref a8, .int tol, .int sal])), (a4, .inr (3, [.int c0, .ref e0, .int 0]))] [] sz)) (va_Qi (fun (r : Int32) (_ : Unit) => False) (fun (_ : Unit) (_ : State) => True) (zN sz)) (zX (True) "java/lang/IndexOutOfBoundsException" (zN sz)) 1 6 (zN sz) := by
  refine vx_ofW (cc := cX8_cancels) (maxL := 6) (ret := (Option.some Jvm.ClassFile.FieldType.int)) (by decide) rfl ?_
  intro p e s m args below meth c s₁ B hml htab hv
  obtain ⟨rfl, rfl, hP, hK, hG⟩ := hv
  have hx := B.exec
  have hb := B.bytes
  have hr := B.returns
  have hts := atoms_spec (ws := wz_X8_cancels) B.pre
  have hg : ∀ w ∈ lw_good, w.before _ s = true := fun w h => hts w (List.mem_cons_of_mem _ h)
  have hown : s.vm.findClass RX8 = some m.cls := findClass_of_methodNamed B.named
  have hlocks := B.notSynchronized
  have hA : ∀ q : Nat, s.heap.size ≤ q → zN s.heap.size q := fun _ h => h
  have hS : va_S (zN s.heap.size) s.heap s.heap [] := va_S.rf
  have hl := lv_entry ([.ref h0, .int p0, .int p1]) (n := 6) (Nat.le_of_ble_eq_true rfl)
  rw [lg_entry_eq]
  generalize (lg_sl ([.ref h0, .int p0, .int p1]) ++ List.replicate (6 - (lg_sl ([.ref h0, .int p0, .int p1])).length) Slot.unset).toArray = ls at hl ⊢
  have hl : lv_has ls 6 [(0, .ref h0), (1, .int p0), (2, .int p1)] := hl
  refine lv_aload_n hx hb dX8_cancels_0 rfl (lv_at hl 0 rfl) ?_
  refine lv_iload_n hx hb dX8_cancels_1 rfl (lv_at hl 1 rfl) ?_
  have hPc := hP.sub (ws' := [(h0, .inr (12, [.ref a1, .ref a2, .ref a3, .ref a4, .ref a5, .ref a6, .ref a7, .ref a8, .int tol, .int sal])), (a4, .inr (3, [.int c0, .ref e0, .int 0]))]) [0, 1] rfl
  have hKc := hK.sub (tys' := []) [] rfl
  refine vx_callq (vx_runV (As := [.int p0]) (rest := []) ⟨hx, hb, hml, hown, hts⟩ (k_X8_documentAt l hfl G z h0 a1 a2 a3 a4 a5 a6 a7 a8 tol sal c0 e0 p0 s.heap.size ) (cwV 1 hts (lw_goodApp (lw_4 q860 q862 qs17 q1) q863) rfl rfl rfl (by decide +kernel) ⟨Nat.le_of_ble_eq_true rfl, Nat.le_of_ble_eq_true rfl⟩) ⟨PR.blind, va_recv hK hP (ci := 12) (q0 := 0) rfl rfl, PR.of hPc hKc hG hS hA [.ref h0, .int p0]⟩ rfl rfl hl.1 rfl (lv_room (Nat.le_of_ble_eq_true rfl)) dX8_cancels_2 ⟨Nat.le_of_ble_eq_true rfl, Nat.le_of_ble_eq_true rfl⟩) hS (fun q h9 h => zN.not h9 h) (fun q h => hA q (Nat.le_trans hS.1 h)) (fun q h9 h => zN.not h9 h) (fun E ce q9 ux t_4 H_1 locs ht hvm px_5 hE hz1 hk1 hS hq9 hv9 hcl9 => ?_) (fun r_2 u t_4 H_1 locs ht hvm hw_3 hB hz1 hk1 hS => ?_)
  · exact vx_out (fun x9 h9 => (htab x9 h9).elim) hlocks hq9 hv9 hcl9 (fun t2 ht2 hal2 => zX.same trivial hE hS ht2) hS.2.2 (Nat.le_of_ble_eq_true rfl) (Nat.le_of_ble_eq_true rfl)
  exact hw_3.elim

abbrev wz_X8_leafOf : List Cond := .code yX8_leafOf cX8_leafOf 5 (Option.some Jvm.ClassFile.FieldType.int) :: lw_good
set_option maxHeartbeats 4000000 in
set_option maxRecDepth 100000 in
/-- leafOf: there is none of it yet -/
theorem k_X8_leafOf (l : Launch) (hfl : l.stackTraces = false) (G : va_G) (z : Nat) (h0 : Nat) (a1 : Nat) (a2 : Nat) (a3 : Nat) (a4 : Nat) (a5 : Nat) (a6 : Nat) (a7 : Nat) (a8 : Nat) (tol : Int32) (sal : Int32) (c0 : Int32) (e0 : Nat) (p0 : Int32) (p1 : Int32) (p2 : Int32) (sz : Nat)  : vx_Met l yX8_leafOf wz_X8_leafOf ({ frames := 7, cells := 1, slots := 6, locals := 103 }) (va_Pc [.ref h0, .int p0, .int p1, .int p2] (PR G z [(h0, .inr (12, [.ref a1, .ref a2, .ref a3, .ref a4, .ref a5, .ref a6, .ref a7, .ref a8, .int tol, .int sal])), (a4, .inr (3, [.int c0, .ref e0, .int 0]))] [] sz)) (va_Qi (fun (r : Int32) (_ : Unit) => False) (fun (_ : Unit) (_ : State) => True) (zN sz)) (zX (True) "java/lang/IndexOutOfBoundsException" (zN sz)) 1 6 (zN sz) := by
  refine vx_ofW (cc := cX8_leafOf) (maxL := 5) (ret := (Option.some Jvm.ClassFile.FieldType.int)) (by decide) rfl ?_
  intro p e s m args below meth c s₁ B hml htab hv
  obtain ⟨rfl, rfl, hP, hK, hG⟩ := hv
  have hx := B.exec
  have hb := B.bytes
  have hr := B.returns
  have hts := atoms_spec (ws := wz_X8_leafOf) B.pre
  have hg : ∀ w ∈ lw_good, w.before _ s = true := fun w h => hts w (List.mem_cons_of_mem _ h)
  have hown : s.vm.findClass RX8 = some m.cls := findClass_of_methodNamed B.named
  have hlocks := B.notSynchronized
  have hA : ∀ q : Nat, s.heap.size ≤ q → zN s.heap.size q := fun _ h => h
  have hS : va_S (zN s.heap.size) s.heap s.heap [] := va_S.rf
  have hl := lv_entry ([.ref h0, .int p0, .int p1, .int p2]) (n := 5) (Nat.le_of_ble_eq_true rfl)
  rw [lg_entry_eq]
  generalize (lg_sl ([.ref h0, .int p0, .int p1, .int p2]) ++ List.replicate (5 - (lg_sl ([.ref h0, .int p0, .int p1, .int p2])).length) Slot.unset).toArray = ls at hl ⊢
  have hl : lv_has ls 5 [(0, .ref h0), (1, .int p0), (2, .int p1), (3, .int p2)] := hl
  refine lv_aload_n hx hb dX8_leafOf_0 rfl (lv_at hl 0 rfl) ?_
  refine lv_iload_n hx hb dX8_leafOf_1 rfl (lv_at hl 1 rfl) ?_
  have hPc := hP.sub (ws' := [(h0, .inr (12, [.ref a1, .ref a2, .ref a3, .ref a4, .ref a5, .ref a6, .ref a7, .ref a8, .int tol, .int sal])), (a4, .inr (3, [.int c0, .ref e0, .int 0]))]) [0, 1] rfl
  have hKc := hK.sub (tys' := []) [] rfl
  refine vx_callq (vx_runV (As := [.int p0]) (rest := []) ⟨hx, hb, hml, hown, hts⟩ (k_X8_documentAt l hfl G z h0 a1 a2 a3 a4 a5 a6 a7 a8 tol sal c0 e0 p0 s.heap.size ) (cwV 1 hts (lw_goodApp (lw_4 q860 q862 qs17 q1) q863) rfl rfl rfl (by decide +kernel) ⟨Nat.le_of_ble_eq_true rfl, Nat.le_of_ble_eq_true rfl⟩) ⟨PR.blind, va_recv hK hP (ci := 12) (q0 := 0) rfl rfl, PR.of hPc hKc hG hS hA [.ref h0, .int p0]⟩ rfl rfl hl.1 rfl (lv_room (Nat.le_of_ble_eq_true rfl)) dX8_leafOf_2 ⟨Nat.le_of_ble_eq_true rfl, Nat.le_of_ble_eq_true rfl⟩) hS (fun q h9 h => zN.not h9 h) (fun q h => hA q (Nat.le_trans hS.1 h)) (fun q h9 h => zN.not h9 h) (fun E ce q9 ux t_4 H_1 locs ht hvm px_5 hE hz1 hk1 hS hq9 hv9 hcl9 => ?_) (fun r_2 u t_4 H_1 locs ht hvm hw_3 hB hz1 hk1 hS => ?_)
  · exact vx_out (fun x9 h9 => (htab x9 h9).elim) hlocks hq9 hv9 hcl9 (fun t2 ht2 hal2 => zX.same trivial hE hS ht2) hS.2.2 (Nat.le_of_ble_eq_true rfl) (Nat.le_of_ble_eq_true rfl)
  exact hw_3.elim

abbrev wz_X8_markIn : List Cond := .code yX8_markIn cX8_markIn 4 (Option.some Jvm.ClassFile.FieldType.int) :: lw_good
set_option maxHeartbeats 4000000 in
set_option maxRecDepth 100000 in
/-- markIn: there is none of it yet -/
theorem k_X8_markIn (l : Launch) (hfl : l.stackTraces = false) (G : va_G) (z : Nat) (h0 : Nat) (a1 : Nat) (a2 : Nat) (a3 : Nat) (a4 : Nat) (a5 : Nat) (a6 : Nat) (a7 : Nat) (a8 : Nat) (tol : Int32) (sal : Int32) (c0 : Int32) (e0 : Nat) (p0 : Int32) (p1 : Int32) (sz : Nat)  : vx_Met l yX8_markIn wz_X8_markIn ({ frames := 7, cells := 1, slots := 6, locals := 103 }) (va_Pc [.ref h0, .int p0, .int p1] (PR G z [(h0, .inr (12, [.ref a1, .ref a2, .ref a3, .ref a4, .ref a5, .ref a6, .ref a7, .ref a8, .int tol, .int sal])), (a4, .inr (3, [.int c0, .ref e0, .int 0]))] [] sz)) (va_Qi (fun (r : Int32) (_ : Unit) => False) (fun (_ : Unit) (_ : State) => True) (zN sz)) (zX (True) "java/lang/IndexOutOfBoundsException" (zN sz)) 1 6 (zN sz) := by
  refine vx_ofW (cc := cX8_markIn) (maxL := 4) (ret := (Option.some Jvm.ClassFile.FieldType.int)) (by decide) rfl ?_
  intro p e s m args below meth c s₁ B hml htab hv
  obtain ⟨rfl, rfl, hP, hK, hG⟩ := hv
  have hx := B.exec
  have hb := B.bytes
  have hr := B.returns
  have hts := atoms_spec (ws := wz_X8_markIn) B.pre
  have hg : ∀ w ∈ lw_good, w.before _ s = true := fun w h => hts w (List.mem_cons_of_mem _ h)
  have hown : s.vm.findClass RX8 = some m.cls := findClass_of_methodNamed B.named
  have hlocks := B.notSynchronized
  have hA : ∀ q : Nat, s.heap.size ≤ q → zN s.heap.size q := fun _ h => h
  have hS : va_S (zN s.heap.size) s.heap s.heap [] := va_S.rf
  have hl := lv_entry ([.ref h0, .int p0, .int p1]) (n := 4) (Nat.le_of_ble_eq_true rfl)
  rw [lg_entry_eq]
  generalize (lg_sl ([.ref h0, .int p0, .int p1]) ++ List.replicate (4 - (lg_sl ([.ref h0, .int p0, .int p1])).length) Slot.unset).toArray = ls at hl ⊢
  have hl : lv_has ls 4 [(0, .ref h0), (1, .int p0), (2, .int p1)] := hl
  refine lv_aload_n hx hb dX8_markIn_0 rfl (lv_at hl 0 rfl) ?_
  refine lv_iload_n hx hb dX8_markIn_1 rfl (lv_at hl 1 rfl) ?_
  have hPc := hP.sub (ws' := [(h0, .inr (12, [.ref a1, .ref a2, .ref a3, .ref a4, .ref a5, .ref a6, .ref a7, .ref a8, .int tol, .int sal])), (a4, .inr (3, [.int c0, .ref e0, .int 0]))]) [0, 1] rfl
  have hKc := hK.sub (tys' := []) [] rfl
  refine vx_callq (vx_runV (As := [.int p0]) (rest := []) ⟨hx, hb, hml, hown, hts⟩ (k_X8_documentAt l hfl G z h0 a1 a2 a3 a4 a5 a6 a7 a8 tol sal c0 e0 p0 s.heap.size ) (cwV 1 hts (lw_goodApp (lw_4 q860 q862 qs17 q1) q863) rfl rfl rfl (by decide +kernel) ⟨Nat.le_of_ble_eq_true rfl, Nat.le_of_ble_eq_true rfl⟩) ⟨PR.blind, va_recv hK hP (ci := 12) (q0 := 0) rfl rfl, PR.of hPc hKc hG hS hA [.ref h0, .int p0]⟩ rfl rfl hl.1 rfl (lv_room (Nat.le_of_ble_eq_true rfl)) dX8_markIn_2 ⟨Nat.le_of_ble_eq_true rfl, Nat.le_of_ble_eq_true rfl⟩) hS (fun q h9 h => zN.not h9 h) (fun q h => hA q (Nat.le_trans hS.1 h)) (fun q h9 h => zN.not h9 h) (fun E ce q9 ux t_4 H_1 locs ht hvm px_5 hE hz1 hk1 hS hq9 hv9 hcl9 => ?_) (fun r_2 u t_4 H_1 locs ht hvm hw_3 hB hz1 hk1 hS => ?_)
  · exact vx_out (fun x9 h9 => (htab x9 h9).elim) hlocks hq9 hv9 hcl9 (fun t2 ht2 hal2 => zX.same trivial hE hS ht2) hS.2.2 (Nat.le_of_ble_eq_true rfl) (Nat.le_of_ble_eq_true rfl)
  exact hw_3.elim

abbrev wz_X8_conjugate : List Cond := .code yX8_conjugate cX8_conjugate 4 (Option.some Jvm.ClassFile.FieldType.int) :: lw_good
set_option maxHeartbeats 4000000 in
set_option maxRecDepth 100000 in
/-- conjugate: there is none of it yet -/
theorem k_X8_conjugate (l : Launch) (hfl : l.stackTraces = false) (G : va_G) (z : Nat) (h0 : Nat) (a1 : Nat) (a2 : Nat) (a3 : Nat) (a4 : Nat) (a5 : Nat) (a6 : Nat) (a7 : Nat) (a8 : Nat) (tol : Int32) (sal : Int32) (c0 : Int32) (e0 : Nat) (p0 : Int32) (p1 : Int32) (sz : Nat)  : vx_Met l yX8_conjugate wz_X8_conjugate ({ frames := 7, cells := 1, slots := 6, locals := 103 }) (va_Pc [.ref h0, .int p0, .int p1] (PR G z [(h0, .inr (12, [.ref a1, .ref a2, .ref a3, .ref a4, .ref a5, .ref a6, .ref a7, .ref a8, .int tol, .int sal])), (a4, .inr (3, [.int c0, .ref e0, .int 0]))] [] sz)) (va_Qi (fun (r : Int32) (_ : Unit) => False) (fun (_ : Unit) (_ : State) => True) (zN sz)) (zX (True) "java/lang/IndexOutOfBoundsException" (zN sz)) 1 6 (zN sz) := by
  refine vx_ofW (cc := cX8_conjugate) (maxL := 4) (ret := (Option.some Jvm.ClassFile.FieldType.int)) (by decide) rfl ?_
  intro p e s m args below meth c s₁ B hml htab hv
  obtain ⟨rfl, rfl, hP, hK, hG⟩ := hv
  have hx := B.exec
  have hb := B.bytes
  have hr := B.returns
  have hts := atoms_spec (ws := wz_X8_conjugate) B.pre
  have hg : ∀ w ∈ lw_good, w.before _ s = true := fun w h => hts w (List.mem_cons_of_mem _ h)
  have hown : s.vm.findClass RX8 = some m.cls := findClass_of_methodNamed B.named
  have hlocks := B.notSynchronized
  have hA : ∀ q : Nat, s.heap.size ≤ q → zN s.heap.size q := fun _ h => h
  have hS : va_S (zN s.heap.size) s.heap s.heap [] := va_S.rf
  have hl := lv_entry ([.ref h0, .int p0, .int p1]) (n := 4) (Nat.le_of_ble_eq_true rfl)
  rw [lg_entry_eq]
  generalize (lg_sl ([.ref h0, .int p0, .int p1]) ++ List.replicate (4 - (lg_sl ([.ref h0, .int p0, .int p1])).length) Slot.unset).toArray = ls at hl ⊢
  have hl : lv_has ls 4 [(0, .ref h0), (1, .int p0), (2, .int p1)] := hl
  refine lv_aload_n hx hb dX8_conjugate_0 rfl (lv_at hl 0 rfl) ?_
  refine lv_iload_n hx hb dX8_conjugate_1 rfl (lv_at hl 1 rfl) ?_
  have hPc := hP.sub (ws' := [(h0, .inr (12, [.ref a1, .ref a2, .ref a3, .ref a4, .ref a5, .ref a6, .ref a7, .ref a8, .int tol, .int sal])), (a4, .inr (3, [.int c0, .ref e0, .int 0]))]) [0, 1] rfl
  have hKc := hK.sub (tys' := []) [] rfl
  refine vx_callq (vx_runV (As := [.int p0]) (rest := []) ⟨hx, hb, hml, hown, hts⟩ (k_X8_documentAt l hfl G z h0 a1 a2 a3 a4 a5 a6 a7 a8 tol sal c0 e0 p0 s.heap.size ) (cwV 1 hts (lw_goodApp (lw_4 q860 q862 qs17 q1) q863) rfl rfl rfl (by decide +kernel) ⟨Nat.le_of_ble_eq_true rfl, Nat.le_of_ble_eq_true rfl⟩) ⟨PR.blind, va_recv hK hP (ci := 12) (q0 := 0) rfl rfl, PR.of hPc hKc hG hS hA [.ref h0, .int p0]⟩ rfl rfl hl.1 rfl (lv_room (Nat.le_of_ble_eq_true rfl)) dX8_conjugate_2 ⟨Nat.le_of_ble_eq_true rfl, Nat.le_of_ble_eq_true rfl⟩) hS (fun q h9 h => zN.not h9 h) (fun q h => hA q (Nat.le_trans hS.1 h)) (fun q h9 h => zN.not h9 h) (fun E ce q9 ux t_4 H_1 locs ht hvm px_5 hE hz1 hk1 hS hq9 hv9 hcl9 => ?_) (fun r_2 u t_4 H_1 locs ht hvm hw_3 hB hz1 hk1 hS => ?_)
  · exact vx_out (fun x9 h9 => (htab x9 h9).elim) hlocks hq9 hv9 hcl9 (fun t2 ht2 hal2 => zX.same trivial hE hS ht2) hS.2.2 (Nat.le_of_ble_eq_true rfl) (Nat.le_of_ble_eq_true rfl)
  exact hw_3.elim

abbrev wz_X8_run : List Cond := .code yX8_run cX8_run 7 (Option.some Jvm.ClassFile.FieldType.int) :: lw_good
set_option maxHeartbeats 4000000 in
set_option maxRecDepth 100000 in
/-- run: there is none of it yet -/
theorem k_X8_run (l : Launch) (hfl : l.stackTraces = false) (G : va_G) (z : Nat) (h0 : Nat) (a1 : Nat) (a2 : Nat) (a3 : Nat) (a4 : Nat) (a5 : Nat) (a6 : Nat) (a7 : Nat) (a8 : Nat) (tol : Int32) (sal : Int32) (c0 : Int32) (e0 : Nat) (p0 : Int32) (p1 : Int32) (sz : Nat)  : vx_Met l yX8_run wz_X8_run ({ frames := 7, cells := 1, slots := 6, locals := 103 }) (va_Pc [.ref h0, .int p0, .int p1] (PR G z [(h0, .inr (12, [.ref a1, .ref a2, .ref a3, .ref a4, .ref a5, .ref a6, .ref a7, .ref a8, .int tol, .int sal])), (a4, .inr (3, [.int c0, .ref e0, .int 0]))] [] sz)) (va_Qi (fun (r : Int32) (_ : Unit) => False) (fun (_ : Unit) (_ : State) => True) (zN sz)) (zX (True) "java/lang/IndexOutOfBoundsException" (zN sz)) 1 6 (zN sz) := by
  refine vx_ofW (cc := cX8_run) (maxL := 7) (ret := (Option.some Jvm.ClassFile.FieldType.int)) (by decide) rfl ?_
  intro p e s m args below meth c s₁ B hml htab hv
  obtain ⟨rfl, rfl, hP, hK, hG⟩ := hv
  have hx := B.exec
  have hb := B.bytes
  have hr := B.returns
  have hts := atoms_spec (ws := wz_X8_run) B.pre
  have hg : ∀ w ∈ lw_good, w.before _ s = true := fun w h => hts w (List.mem_cons_of_mem _ h)
  have hown : s.vm.findClass RX8 = some m.cls := findClass_of_methodNamed B.named
  have hlocks := B.notSynchronized
  have hA : ∀ q : Nat, s.heap.size ≤ q → zN s.heap.size q := fun _ h => h
  have hS : va_S (zN s.heap.size) s.heap s.heap [] := va_S.rf
  have hl := lv_entry ([.ref h0, .int p0, .int p1]) (n := 7) (Nat.le_of_ble_eq_true rfl)
  rw [lg_entry_eq]
  generalize (lg_sl ([.ref h0, .int p0, .int p1]) ++ List.replicate (7 - (lg_sl ([.ref h0, .int p0, .int p1])).length) Slot.unset).toArray = ls at hl ⊢
  have hl : lv_has ls 7 [(0, .ref h0), (1, .int p0), (2, .int p1)] := hl
  refine lv_aload_n hx hb dX8_run_0 rfl (lv_at hl 0 rfl) ?_
  refine lv_iload_n hx hb dX8_run_1 rfl (lv_at hl 1 rfl) ?_
  have hPc := hP.sub (ws' := [(h0, .inr (12, [.ref a1, .ref a2, .ref a3, .ref a4, .ref a5, .ref a6, .ref a7, .ref a8, .int tol, .int sal])), (a4, .inr (3, [.int c0, .ref e0, .int 0]))]) [0, 1] rfl
  have hKc := hK.sub (tys' := []) [] rfl
  refine vx_callq (vx_runV (As := [.int p0]) (rest := []) ⟨hx, hb, hml, hown, hts⟩ (k_X8_documentAt l hfl G z h0 a1 a2 a3 a4 a5 a6 a7 a8 tol sal c0 e0 p0 s.heap.size ) (cwV 1 hts (lw_goodApp (lw_4 q860 q862 qs17 q1) q863) rfl rfl rfl (by decide +kernel) ⟨Nat.le_of_ble_eq_true rfl, Nat.le_of_ble_eq_true rfl⟩) ⟨PR.blind, va_recv hK hP (ci := 12) (q0 := 0) rfl rfl, PR.of hPc hKc hG hS hA [.ref h0, .int p0]⟩ rfl rfl hl.1 rfl (lv_room (Nat.le_of_ble_eq_true rfl)) dX8_run_2 ⟨Nat.le_of_ble_eq_true rfl, Nat.le_of_ble_eq_true rfl⟩) hS (fun q h9 h => zN.not h9 h) (fun q h => hA q (Nat.le_trans hS.1 h)) (fun q h9 h => zN.not h9 h) (fun E ce q9 ux t_4 H_1 locs ht hvm px_5 hE hz1 hk1 hS hq9 hv9 hcl9 => ?_) (fun r_2 u t_4 H_1 locs ht hvm hw_3 hB hz1 hk1 hS => ?_)
  · exact vx_out (fun x9 h9 => (htab x9 h9).elim) hlocks hq9 hv9 hcl9 (fun t2 ht2 hal2 => zX.same trivial hE hS ht2) hS.2.2 (Nat.le_of_ble_eq_true rfl) (Nat.le_of_ble_eq_true rfl)
  exact hw_3.elim

abbrev wz_X8_wash : List Cond := .code yX8_wash cX8_wash 4 (Option.some Jvm.ClassFile.FieldType.boolean) :: lw_good
set_option maxHeartbeats 4000000 in
set_option maxRecDepth 100000 in
/-- wash: there is none of it yet -/
theorem k_X8_wash (l : Launch) (hfl : l.stackTraces = false) (G : va_G) (z : Nat) (h0 : Nat) (a1 : Nat) (a2 : Nat) (a3 : Nat) (a4 : Nat) (a5 : Nat) (a6 : Nat) (a7 : Nat) (a8 : Nat) (tol : Int32) (sal : Int32) (c0 : Int32) (e0 : Nat) (p0 : Int32) (sz : Nat)  : vx_Met l yX8_wash wz_X8_wash ({ frames := 7, cells := 1, slots := 6, locals := 103 }) (va_Pc [.ref h0, .int p0] (PR G z [(h0, .inr (12, [.ref a1, .ref a2, .ref a3, .ref a4, .ref a5, .ref a6, .ref a7, .ref a8, .int tol, .int sal])), (a4, .inr (3, [.int c0, .ref e0, .int 0]))] [] sz)) (va_Qi (fun (r : Int32) (_ : Unit) => False) (fun (_ : Unit) (_ : State) => True) (zN sz)) (zX (True) "java/lang/IndexOutOfBoundsException" (zN sz)) 1 6 (zN sz) := by
  refine vx_ofW (cc := cX8_wash) (maxL := 4) (ret := (Option.some Jvm.ClassFile.FieldType.boolean)) (by decide) rfl ?_
  intro p e s m args below meth c s₁ B hml htab hv
  obtain ⟨rfl, rfl, hP, hK, hG⟩ := hv
  have hx := B.exec
  have hb := B.bytes
  have hr := B.returns
  have hts := atoms_spec (ws := wz_X8_wash) B.pre
  have hg : ∀ w ∈ lw_good, w.before _ s = true := fun w h => hts w (List.mem_cons_of_mem _ h)
  have hown : s.vm.findClass RX8 = some m.cls := findClass_of_methodNamed B.named
  have hlocks := B.notSynchronized
  have hA : ∀ q : Nat, s.heap.size ≤ q → zN s.heap.size q := fun _ h => h
  have hS : va_S (zN s.heap.size) s.heap s.heap [] := va_S.rf
  have hl := lv_entry ([.ref h0, .int p0]) (n := 4) (Nat.le_of_ble_eq_true rfl)
  rw [lg_entry_eq]
  generalize (lg_sl ([.ref h0, .int p0]) ++ List.replicate (4 - (lg_sl ([.ref h0, .int p0])).length) Slot.unset).toArray = ls at hl ⊢
  have hl : lv_has ls 4 [(0, .ref h0), (1, .int p0)] := hl
  refine lv_aload_n hx hb dX8_wash_0 rfl (lv_at hl 0 rfl) ?_
  refine lv_iload_n hx hb dX8_wash_1 rfl (lv_at hl 1 rfl) ?_
  have hPc := hP.sub (ws' := [(h0, .inr (12, [.ref a1, .ref a2, .ref a3, .ref a4, .ref a5, .ref a6, .ref a7, .ref a8, .int tol, .int sal])), (a4, .inr (3, [.int c0, .ref e0, .int 0]))]) [0, 1] rfl
  have hKc := hK.sub (tys' := []) [] rfl
  refine vx_callq (vx_runV (As := [.int p0]) (rest := []) ⟨hx, hb, hml, hown, hts⟩ (k_X8_documentAt l hfl G z h0 a1 a2 a3 a4 a5 a6 a7 a8 tol sal c0 e0 p0 s.heap.size ) (cwV 1 hts (lw_goodApp (lw_4 q860 q862 qs17 q1) q863) rfl rfl rfl (by decide +kernel) ⟨Nat.le_of_ble_eq_true rfl, Nat.le_of_ble_eq_true rfl⟩) ⟨PR.blind, va_recv hK hP (ci := 12) (q0 := 0) rfl rfl, PR.of hPc hKc hG hS hA [.ref h0, .int p0]⟩ rfl rfl hl.1 rfl (lv_room (Nat.le_of_ble_eq_true rfl)) dX8_wash_2 ⟨Nat.le_of_ble_eq_true rfl, Nat.le_of_ble_eq_true rfl⟩) hS (fun q h9 h => zN.not h9 h) (fun q h => hA q (Nat.le_trans hS.1 h)) (fun q h9 h => zN.not h9 h) (fun E ce q9 ux t_4 H_1 locs ht hvm px_5 hE hz1 hk1 hS hq9 hv9 hcl9 => ?_) (fun r_2 u t_4 H_1 locs ht hvm hw_3 hB hz1 hk1 hS => ?_)
  · exact vx_out (fun x9 h9 => (htab x9 h9).elim) hlocks hq9 hv9 hcl9 (fun t2 ht2 hal2 => zX.same trivial hE hS ht2) hS.2.2 (Nat.le_of_ble_eq_true rfl) (Nat.le_of_ble_eq_true rfl)
  exact hw_3.elim

abbrev wz_X8_image : List Cond := .code yX8_image cX8_image 12 (Option.some Jvm.ClassFile.FieldType.int) :: lw_good
set_option maxHeartbeats 4000000 in
set_option maxRecDepth 100000 in
/-- image: there is none of it yet -/
theorem k_X8_image (l : Launch) (hfl : l.stackTraces = false) (G : va_G) (z : Nat) (h0 : Nat) (a1 : Nat) (a2 : Nat) (a3 : Nat) (a4 : Nat) (a5 : Nat) (a6 : Nat) (a7 : Nat) (a8 : Nat) (tol : Int32) (sal : Int32) (c0 : Int32) (e0 : Nat) (p0 : Int32) (p1 : Int32) (p2 : Int32) (p3 : Int32) (sz : Nat)  : vx_Met l yX8_image wz_X8_image ({ frames := 7, cells := 1, slots := 6, locals := 103 }) (va_Pc [.ref h0, .int p0, .int p1, .int p2, .int p3] (PR G z [(h0, .inr (12, [.ref a1, .ref a2, .ref a3, .ref a4, .ref a5, .ref a6, .ref a7, .ref a8, .int tol, .int sal])), (a4, .inr (3, [.int c0, .ref e0, .int 0]))] [] sz)) (va_Qi (fun (r : Int32) (_ : Unit) => False) (fun (_ : Unit) (_ : State) => True) (zN sz)) (zX (True) "java/lang/IndexOutOfBoundsException" (zN sz)) 1 6 (zN sz) := by
  refine vx_ofW (cc := cX8_image) (maxL := 12) (ret := (Option.some Jvm.ClassFile.FieldType.int)) (by decide) rfl ?_
  intro p e s m args below meth c s₁ B hml htab hv
  obtain ⟨rfl, rfl, hP, hK, hG⟩ := hv
  have hx := B.exec
  have hb := B.bytes
  have hr := B.returns
  have hts := atoms_spec (ws := wz_X8_image) B.pre
  have hg : ∀ w ∈ lw_good, w.before _ s = true := fun w h => hts w (List.mem_cons_of_mem _ h)
  have hown : s.vm.findClass RX8 = some m.cls := findClass_of_methodNamed B.named
  have hlocks := B.notSynchronized
  have hA : ∀ q : Nat, s.heap.size ≤ q → zN s.heap.size q := fun _ h => h
  have hS : va_S (zN s.heap.size) s.heap s.heap [] := va_S.rf
  have hl := lv_entry ([.ref h0, .int p0, .int p1, .int p2, .int p3]) (n := 12) (Nat.le_of_ble_eq_true rfl)
  rw [lg_entry_eq]
  generalize (lg_sl ([.ref h0, .int p0, .int p1, .int p2, .int p3]) ++ List.replicate (12 - (lg_sl ([.ref h0, .int p0, .int p1, .int p2, .int p3])).length) Slot.unset).toArray = ls at hl ⊢
  have hl : lv_has ls 12 [(0, .ref h0), (1, .int p0), (2, .int p1), (3, .int p2), (4, .int p3)] := hl
  refine lv_aload_n hx hb dX8_image_0 rfl (lv_at hl 0 rfl) ?_
  refine lv_iload_n hx hb dX8_image_1 rfl (lv_at hl 1 rfl) ?_
  have hPc := hP.sub (ws' := [(h0, .inr (12, [.ref a1, .ref a2, .ref a3, .ref a4, .ref a5, .ref a6, .ref a7, .ref a8, .int tol, .int sal])), (a4, .inr (3, [.int c0, .ref e0, .int 0]))]) [0, 1] rfl
  have hKc := hK.sub (tys' := []) [] rfl
  refine vx_callq (vx_runV (As := [.int p0]) (rest := []) ⟨hx, hb, hml, hown, hts⟩ (k_X8_documentAt l hfl G z h0 a1 a2 a3 a4 a5 a6 a7 a8 tol sal c0 e0 p0 s.heap.size ) (cwV 1 hts (lw_goodApp (lw_4 q860 q862 qs17 q1) q863) rfl rfl rfl (by decide +kernel) ⟨Nat.le_of_ble_eq_true rfl, Nat.le_of_ble_eq_true rfl⟩) ⟨PR.blind, va_recv hK hP (ci := 12) (q0 := 0) rfl rfl, PR.of hPc hKc hG hS hA [.ref h0, .int p0]⟩ rfl rfl hl.1 rfl (lv_room (Nat.le_of_ble_eq_true rfl)) dX8_image_2 ⟨Nat.le_of_ble_eq_true rfl, Nat.le_of_ble_eq_true rfl⟩) hS (fun q h9 h => zN.not h9 h) (fun q h => hA q (Nat.le_trans hS.1 h)) (fun q h9 h => zN.not h9 h) (fun E ce q9 ux t_4 H_1 locs ht hvm px_5 hE hz1 hk1 hS hq9 hv9 hcl9 => ?_) (fun r_2 u t_4 H_1 locs ht hvm hw_3 hB hz1 hk1 hS => ?_)
  · exact vx_out (fun x9 h9 => (htab x9 h9).elim) hlocks hq9 hv9 hcl9 (fun t2 ht2 hal2 => zX.same trivial hE hS ht2) hS.2.2 (Nat.le_of_ble_eq_true rfl) (Nat.le_of_ble_eq_true rfl)
  exact hw_3.elim

abbrev wz_X8_claim : List Cond := .code yX8_claim cX8_claim 4 (Option.some Jvm.ClassFile.FieldType.int) :: lw_good
set_option maxHeartbeats 4000000 in
set_option maxRecDepth 100000 in
/-- claim: there is none of it yet -/
theorem k_X8_claim (l : Launch) (hfl : l.stackTraces = false) (G : va_G) (z : Nat) (h0 : Nat) (a1 : Nat) (a2 : Nat) (a3 : Nat) (a4 : Nat) (a5 : Nat) (a6 : Nat) (a7 : Nat) (a8 : Nat) (tol : Int32) (sal : Int32) (c0 : Int32) (e0 : Nat) (p0 : Int32) (p1 : Int32) (p2 : Int32) (sz : Nat)  : vx_Met l yX8_claim wz_X8_claim ({ frames := 7, cells := 1, slots := 6, locals := 103 }) (va_Pc [.ref h0, .int p0, .int p1, .int p2] (PR G z [(h0, .inr (12, [.ref a1, .ref a2, .ref a3, .ref a4, .ref a5, .ref a6, .ref a7, .ref a8, .int tol, .int sal])), (a4, .inr (3, [.int c0, .ref e0, .int 0]))] [] sz)) (va_Qi (fun (r : Int32) (_ : Unit) => False) (fun (_ : Unit) (_ : State) => True) (zN sz)) (zX (True) "java/lang/IndexOutOfBoundsException" (zN sz)) 1 6 (zN sz) := by
  refine vx_ofW (cc := cX8_claim) (maxL := 4) (ret := (Option.some Jvm.ClassFile.FieldType.int)) (by decide) rfl ?_
  intro p e s m args below meth c s₁ B hml htab hv
  obtain ⟨rfl, rfl, hP, hK, hG⟩ := hv
  have hx := B.exec
  have hb := B.bytes
  have hr := B.returns
  have hts := atoms_spec (ws := wz_X8_claim) B.pre
  have hg : ∀ w ∈ lw_good, w.before _ s = true := fun w h => hts w (List.mem_cons_of_mem _ h)
  have hown : s.vm.findClass RX8 = some m.cls := findClass_of_methodNamed B.named
  have hlocks := B.notSynchronized
  have hA : ∀ q : Nat, s.heap.size ≤ q → zN s.heap.size q := fun _ h => h
  have hS : va_S (zN s.heap.size) s.heap s.heap [] := va_S.rf
  have hl := lv_entry ([.ref h0, .int p0, .int p1, .int p2]) (n := 4) (Nat.le_of_ble_eq_true rfl)
  rw [lg_entry_eq]
  generalize (lg_sl ([.ref h0, .int p0, .int p1, .int p2]) ++ List.replicate (4 - (lg_sl ([.ref h0, .int p0, .int p1, .int p2])).length) Slot.unset).toArray = ls at hl ⊢
  have hl : lv_has ls 4 [(0, .ref h0), (1, .int p0), (2, .int p1), (3, .int p2)] := hl
  refine lv_aload_n hx hb dX8_claim_0 rfl (lv_at hl 0 rfl) ?_
  refine lv_iload_n hx hb dX8_claim_1 rfl (lv_at hl 1 rfl) ?_
  have hPc := hP.sub (ws' := [(h0, .inr (12, [.ref a1, .ref a2, .ref a3, .ref a4, .ref a5, .ref a6, .ref a7, .ref a8, .int tol, .int sal])), (a4, .inr (3, [.int c0, .ref e0, .int 0]))]) [0, 1] rfl
  have hKc := hK.sub (tys' := []) [] rfl
  refine vx_callq (vx_runV (As := [.int p0]) (rest := []) ⟨hx, hb, hml, hown, hts⟩ (k_X8_documentAt l hfl G z h0 a1 a2 a3 a4 a5 a6 a7 a8 tol sal c0 e0 p0 s.heap.size ) (cwV 1 hts (lw_goodApp (lw_4 q860 q862 qs17 q1) q863) rfl rfl rfl (by decide +kernel) ⟨Nat.le_of_ble_eq_true rfl, Nat.le_of_ble_eq_true rfl⟩) ⟨PR.blind, va_recv hK hP (ci := 12) (q0 := 0) rfl rfl, PR.of hPc hKc hG hS hA [.ref h0, .int p0]⟩ rfl rfl hl.1 rfl (lv_room (Nat.le_of_ble_eq_true rfl)) dX8_claim_2 ⟨Nat.le_of_ble_eq_true rfl, Nat.le_of_ble_eq_true rfl⟩) hS (fun q h9 h => zN.not h9 h) (fun q h => hA q (Nat.le_trans hS.1 h)) (fun q h9 h => zN.not h9 h) (fun E ce q9 ux t_4 H_1 locs ht hvm px_5 hE hz1 hk1 hS hq9 hv9 hcl9 => ?_) (fun r_2 u t_4 H_1 locs ht hvm hw_3 hB hz1 hk1 hS => ?_)
  · exact vx_out (fun x9 h9 => (htab x9 h9).elim) hlocks hq9 hv9 hcl9 (fun t2 ht2 hal2 => zX.same trivial hE hS ht2) hS.2.2 (Nat.le_of_ble_eq_true rfl) (Nat.le_of_ble_eq_true rfl)
  exact hw_3.elim

abbrev wz_X8_unclaim : List Cond := .code yX8_unclaim cX8_unclaim 4 (Option.some Jvm.ClassFile.FieldType.int) :: lw_good
set_option maxHeartbeats 4000000 in
set_option maxRecDepth 100000 in
/-- unclaim: there is none of it yet -/
theorem k_X8_unclaim (l : Launch) (hfl : l.stackTraces = false) (G : va_G) (z : Nat) (h0 : Nat) (a1 : Nat) (a2 : Nat) (a3 : Nat) (a4 : Nat) (a5 : Nat) (a6 : Nat) (a7 : Nat) (a8 : Nat) (tol : Int32) (sal : Int32) (c0 : Int32) (e0 : Nat) (p0 : Int32) (p1 : Int32) (p2 : Int32) (sz : Nat)  : vx_Met l yX8_unclaim wz_X8_unclaim ({ frames := 7, cells := 1, slots := 6, locals := 103 }) (va_Pc [.ref h0, .int p0, .int p1, .int p2] (PR G z [(h0, .inr (12, [.ref a1, .ref a2, .ref a3, .ref a4, .ref a5, .ref a6, .ref a7, .ref a8, .int tol, .int sal])), (a4, .inr (3, [.int c0, .ref e0, .int 0]))] [] sz)) (va_Qi (fun (r : Int32) (_ : Unit) => False) (fun (_ : Unit) (_ : State) => True) (zN sz)) (zX (True) "java/lang/IndexOutOfBoundsException" (zN sz)) 1 6 (zN sz) := by
  refine vx_ofW (cc := cX8_unclaim) (maxL := 4) (ret := (Option.some Jvm.ClassFile.FieldType.int)) (by decide) rfl ?_
  intro p e s m args below meth c s₁ B hml htab hv
  obtain ⟨rfl, rfl, hP, hK, hG⟩ := hv
  have hx := B.exec
  have hb := B.bytes
  have hr := B.returns
  have hts := atoms_spec (ws := wz_X8_unclaim) B.pre
  have hg : ∀ w ∈ lw_good, w.before _ s = true := fun w h => hts w (List.mem_cons_of_mem _ h)
  have hown : s.vm.findClass RX8 = some m.cls := findClass_of_methodNamed B.named
  have hlocks := B.notSynchronized
  have hA : ∀ q : Nat, s.heap.size ≤ q → zN s.heap.size q := fun _ h => h
  have hS : va_S (zN s.heap.size) s.heap s.heap [] := va_S.rf
  have hl := lv_entry ([.ref h0, .int p0, .int p1, .int p2]) (n := 4) (Nat.le_of_ble_eq_true rfl)
  rw [lg_entry_eq]
  generalize (lg_sl ([.ref h0, .int p0, .int p1, .int p2]) ++ List.replicate (4 - (lg_sl ([.ref h0, .int p0, .int p1, .int p2])).length) Slot.unset).toArray = ls at hl ⊢
  have hl : lv_has ls 4 [(0, .ref h0), (1, .int p0), (2, .int p1), (3, .int p2)] := hl
  refine lv_aload_n hx hb dX8_unclaim_0 rfl (lv_at hl 0 rfl) ?_
  refine lv_iload_n hx hb dX8_unclaim_1 rfl (lv_at hl 1 rfl) ?_
  have hPc := hP.sub (ws' := [(h0, .inr (12, [.ref a1, .ref a2, .ref a3, .ref a4, .ref a5, .ref a6, .ref a7, .ref a8, .int tol, .int sal])), (a4, .inr (3, [.int c0, .ref e0, .int 0]))]) [0, 1] rfl
  have hKc := hK.sub (tys' := []) [] rfl
  refine vx_callq (vx_runV (As := [.int p0]) (rest := []) ⟨hx, hb, hml, hown, hts⟩ (k_X8_documentAt l hfl G z h0 a1 a2 a3 a4 a5 a6 a7 a8 tol sal c0 e0 p0 s.heap.size ) (cwV 1 hts (lw_goodApp (lw_4 q860 q862 qs17 q1) q863) rfl rfl rfl (by decide +kernel) ⟨Nat.le_of_ble_eq_true rfl, Nat.le_of_ble_eq_true rfl⟩) ⟨PR.blind, va_recv hK hP (ci := 12) (q0 := 0) rfl rfl, PR.of hPc hKc hG hS hA [.ref h0, .int p0]⟩ rfl rfl hl.1 rfl (lv_room (Nat.le_of_ble_eq_true rfl)) dX8_unclaim_2 ⟨Nat.le_of_ble_eq_true rfl, Nat.le_of_ble_eq_true rfl⟩) hS (fun q h9 h => zN.not h9 h) (fun q h => hA q (Nat.le_trans hS.1 h)) (fun q h9 h => zN.not h9 h) (fun E ce q9 ux t_4 H_1 locs ht hvm px_5 hE hz1 hk1 hS hq9 hv9 hcl9 => ?_) (fun r_2 u t_4 H_1 locs ht hvm hw_3 hB hz1 hk1 hS => ?_)
  · exact vx_out (fun x9 h9 => (htab x9 h9).elim) hlocks hq9 hv9 hcl9 (fun t2 ht2 hal2 => zX.same trivial hE hS ht2) hS.2.2 (Nat.le_of_ble_eq_true rfl) (Nat.le_of_ble_eq_true rfl)
  exact hw_3.elim

abbrev wz_X8_date : List Cond := .code yX8_date cX8_date 4 (Option.some Jvm.ClassFile.FieldType.int) :: lw_good
set_option maxHeartbeats 4000000 in
set_option maxRecDepth 100000 in
/-- date: there is none of it yet -/
theorem k_X8_date (l : Launch) (hfl : l.stackTraces = false) (G : va_G) (z : Nat) (h0 : Nat) (a1 : Nat) (a2 : Nat) (a3 : Nat) (a4 : Nat) (a5 : Nat) (a6 : Nat) (a7 : Nat) (a8 : Nat) (tol : Int32) (sal : Int32) (c0 : Int32) (e0 : Nat) (p0 : Int32) (p1 : Int32) (sz : Nat)  : vx_Met l yX8_date wz_X8_date ({ frames := 7, cells := 1, slots := 6, locals := 103 }) (va_Pc [.ref h0, .int p0, .int p1] (PR G z [(h0, .inr (12, [.ref a1, .ref a2, .ref a3, .ref a4, .ref a5, .ref a6, .ref a7, .ref a8, .int tol, .int sal])), (a4, .inr (3, [.int c0, .ref e0, .int 0]))] [] sz)) (va_Qi (fun (r : Int32) (_ : Unit) => False) (fun (_ : Unit) (_ : State) => True) (zN sz)) (zX (True) "java/lang/IndexOutOfBoundsException" (zN sz)) 1 6 (zN sz) := by
  refine vx_ofW (cc := cX8_date) (maxL := 4) (ret := (Option.some Jvm.ClassFile.FieldType.int)) (by decide) rfl ?_
  intro p e s m args below meth c s₁ B hml htab hv
  obtain ⟨rfl, rfl, hP, hK, hG⟩ := hv
  have hx := B.exec
  have hb := B.bytes
  have hr := B.returns
  have hts := atoms_spec (ws := wz_X8_date) B.pre
  have hg : ∀ w ∈ lw_good, w.before _ s = true := fun w h => hts w (List.mem_cons_of_mem _ h)
  have hown : s.vm.findClass RX8 = some m.cls := findClass_of_methodNamed B.named
  have hlocks := B.notSynchronized
  have hA : ∀ q : Nat, s.heap.size ≤ q → zN s.heap.size q := fun _ h => h
  have hS : va_S (zN s.heap.size) s.heap s.heap [] := va_S.rf
  have hl := lv_entry ([.ref h0, .int p0, .int p1]) (n := 4) (Nat.le_of_ble_eq_true rfl)
  rw [lg_entry_eq]
  generalize (lg_sl ([.ref h0, .int p0, .int p1]) ++ List.replicate (4 - (lg_sl ([.ref h0, .int p0, .int p1])).length) Slot.unset).toArray = ls at hl ⊢
  have hl : lv_has ls 4 [(0, .ref h0), (1, .int p0), (2, .int p1)] := hl
  refine lv_aload_n hx hb dX8_date_0 rfl (lv_at hl 0 rfl) ?_
  refine lv_iload_n hx hb dX8_date_1 rfl (lv_at hl 1 rfl) ?_
  have hPc := hP.sub (ws' := [(h0, .inr (12, [.ref a1, .ref a2, .ref a3, .ref a4, .ref a5, .ref a6, .ref a7, .ref a8, .int tol, .int sal])), (a4, .inr (3, [.int c0, .ref e0, .int 0]))]) [0, 1] rfl
  have hKc := hK.sub (tys' := []) [] rfl
  refine vx_callq (vx_runV (As := [.int p0]) (rest := []) ⟨hx, hb, hml, hown, hts⟩ (k_X8_documentAt l hfl G z h0 a1 a2 a3 a4 a5 a6 a7 a8 tol sal c0 e0 p0 s.heap.size ) (cwV 1 hts (lw_goodApp (lw_4 q860 q862 qs17 q1) q863) rfl rfl rfl (by decide +kernel) ⟨Nat.le_of_ble_eq_true rfl, Nat.le_of_ble_eq_true rfl⟩) ⟨PR.blind, va_recv hK hP (ci := 12) (q0 := 0) rfl rfl, PR.of hPc hKc hG hS hA [.ref h0, .int p0]⟩ rfl rfl hl.1 rfl (lv_room (Nat.le_of_ble_eq_true rfl)) dX8_date_2 ⟨Nat.le_of_ble_eq_true rfl, Nat.le_of_ble_eq_true rfl⟩) hS (fun q h9 h => zN.not h9 h) (fun q h => hA q (Nat.le_trans hS.1 h)) (fun q h9 h => zN.not h9 h) (fun E ce q9 ux t_4 H_1 locs ht hvm px_5 hE hz1 hk1 hS hq9 hv9 hcl9 => ?_) (fun r_2 u t_4 H_1 locs ht hvm hw_3 hB hz1 hk1 hS => ?_)
  · exact vx_out (fun x9 h9 => (htab x9 h9).elim) hlocks hq9 hv9 hcl9 (fun t2 ht2 hal2 => zX.same trivial hE hS ht2) hS.2.2 (Nat.le_of_ble_eq_true rfl) (Nat.le_of_ble_eq_true rfl)
  exact hw_3.elim

abbrev wz_X8_year : List Cond := .code yX8_year cX8_year 3 (Option.some Jvm.ClassFile.FieldType.int) :: lw_good
set_option maxHeartbeats 4000000 in
set_option maxRecDepth 100000 in
/-- year: there is none of it yet -/
theorem k_X8_year (l : Launch) (hfl : l.stackTraces = false) (G : va_G) (z : Nat) (h0 : Nat) (a1 : Nat) (a2 : Nat) (a3 : Nat) (a4 : Nat) (a5 : Nat) (a6 : Nat) (a7 : Nat) (a8 : Nat) (tol : Int32) (sal : Int32) (c0 : Int32) (e0 : Nat) (p0 : Int32) (p1 : Int32) (sz : Nat)  : vx_Met l yX8_year wz_X8_year ({ frames := 7, cells := 1, slots := 6, locals := 103 }) (va_Pc [.ref h0, .int p0, .int p1] (PR G z [(h0, .inr (12, [.ref a1, .ref a2, .ref a3, .ref a4, .ref a5, .ref a6, .ref a7, .ref a8, .int tol, .int sal])), (a4, .inr (3, [.int c0, .ref e0, .int 0]))] [] sz)) (va_Qi (fun (r : Int32) (_ : Unit) => False) (fun (_ : Unit) (_ : State) => True) (zN sz)) (zX (True) "java/lang/IndexOutOfBoundsException" (zN sz)) 1 6 (zN sz) := by
  refine vx_ofW (cc := cX8_year) (maxL := 3) (ret := (Option.some Jvm.ClassFile.FieldType.int)) (by decide) rfl ?_
  intro p e s m args below meth c s₁ B hml htab hv
  obtain ⟨rfl, rfl, hP, hK, hG⟩ := hv
  have hx := B.exec
  have hb := B.bytes
  have hr := B.returns
  have hts := atoms_spec (ws := wz_X8_year) B.pre
  have hg : ∀ w ∈ lw_good, w.before _ s = true := fun w h => hts w (List.mem_cons_of_mem _ h)
  have hown : s.vm.findClass RX8 = some m.cls := findClass_of_methodNamed B.named
  have hlocks := B.notSynchronized
  have hA : ∀ q : Nat, s.heap.size ≤ q → zN s.heap.size q := fun _ h => h
  have hS : va_S (zN s.heap.size) s.heap s.heap [] := va_S.rf
  have hl := lv_entry ([.ref h0, .int p0, .int p1]) (n := 3) (Nat.le_of_ble_eq_true rfl)
  rw [lg_entry_eq]
  generalize (lg_sl ([.ref h0, .int p0, .int p1]) ++ List.replicate (3 - (lg_sl ([.ref h0, .int p0, .int p1])).length) Slot.unset).toArray = ls at hl ⊢
  have hl : lv_has ls 3 [(0, .ref h0), (1, .int p0), (2, .int p1)] := hl
  refine lv_aload_n hx hb dX8_year_0 rfl (lv_at hl 0 rfl) ?_
  refine lv_iload_n hx hb dX8_year_1 rfl (lv_at hl 1 rfl) ?_
  have hPc := hP.sub (ws' := [(h0, .inr (12, [.ref a1, .ref a2, .ref a3, .ref a4, .ref a5, .ref a6, .ref a7, .ref a8, .int tol, .int sal])), (a4, .inr (3, [.int c0, .ref e0, .int 0]))]) [0, 1] rfl
  have hKc := hK.sub (tys' := []) [] rfl
  refine vx_callq (vx_runV (As := [.int p0]) (rest := []) ⟨hx, hb, hml, hown, hts⟩ (k_X8_documentAt l hfl G z h0 a1 a2 a3 a4 a5 a6 a7 a8 tol sal c0 e0 p0 s.heap.size ) (cwV 1 hts (lw_goodApp (lw_4 q860 q862 qs17 q1) q863) rfl rfl rfl (by decide +kernel) ⟨Nat.le_of_ble_eq_true rfl, Nat.le_of_ble_eq_true rfl⟩) ⟨PR.blind, va_recv hK hP (ci := 12) (q0 := 0) rfl rfl, PR.of hPc hKc hG hS hA [.ref h0, .int p0]⟩ rfl rfl hl.1 rfl (lv_room (Nat.le_of_ble_eq_true rfl)) dX8_year_2 ⟨Nat.le_of_ble_eq_true rfl, Nat.le_of_ble_eq_true rfl⟩) hS (fun q h9 h => zN.not h9 h) (fun q h => hA q (Nat.le_trans hS.1 h)) (fun q h9 h => zN.not h9 h) (fun E ce q9 ux t_4 H_1 locs ht hvm px_5 hE hz1 hk1 hS hq9 hv9 hcl9 => ?_) (fun r_2 u t_4 H_1 locs ht hvm hw_3 hB hz1 hk1 hS => ?_)
  · exact vx_out (fun x9 h9 => (htab x9 h9).elim) hlocks hq9 hv9 hcl9 (fun t2 ht2 hal2 => zX.same trivial hE hS ht2) hS.2.2 (Nat.le_of_ble_eq_true rfl) (Nat.le_of_ble_eq_true rfl)
  exact hw_3.elim

abbrev wz_X8_ground : List Cond := .code yX8_ground cX8_ground 5 (Option.some Jvm.ClassFile.FieldType.int) :: lw_good
set_option maxHeartbeats 4000000 in
set_option maxRecDepth 100000 in
/-- ground: there is none of it yet -/
theorem k_X8_ground (l : Launch) (hfl : l.stackTraces = false) (G : va_G) (z : Nat) (h0 : Nat) (a1 : Nat) (a2 : Nat) (a3 : Nat) (a4 : Nat) (a5 : Nat) (a6 : Nat) (a7 : Nat) (a8 : Nat) (tol : Int32) (sal : Int32) (c0 : Int32) (e0 : Nat) (p0 : Int32) (p1 : Int32) (sz : Nat)  : vx_Met l yX8_ground wz_X8_ground ({ frames := 7, cells := 1, slots := 6, locals := 103 }) (va_Pc [.ref h0, .int p0, .int p1] (PR G z [(h0, .inr (12, [.ref a1, .ref a2, .ref a3, .ref a4, .ref a5, .ref a6, .ref a7, .ref a8, .int tol, .int sal])), (a4, .inr (3, [.int c0, .ref e0, .int 0]))] [] sz)) (va_Qi (fun (r : Int32) (_ : Unit) => False) (fun (_ : Unit) (_ : State) => True) (zN sz)) (zX (True) "java/lang/IndexOutOfBoundsException" (zN sz)) 1 6 (zN sz) := by
  refine vx_ofW (cc := cX8_ground) (maxL := 5) (ret := (Option.some Jvm.ClassFile.FieldType.int)) (by decide) rfl ?_
  intro p e s m args below meth c s₁ B hml htab hv
  obtain ⟨rfl, rfl, hP, hK, hG⟩ := hv
  have hx := B.exec
  have hb := B.bytes
  have hr := B.returns
  have hts := atoms_spec (ws := wz_X8_ground) B.pre
  have hg : ∀ w ∈ lw_good, w.before _ s = true := fun w h => hts w (List.mem_cons_of_mem _ h)
  have hown : s.vm.findClass RX8 = some m.cls := findClass_of_methodNamed B.named
  have hlocks := B.notSynchronized
  have hA : ∀ q : Nat, s.heap.size ≤ q → zN s.heap.size q := fun _ h => h
  have hS : va_S (zN s.heap.size) s.heap s.heap [] := va_S.rf
  have hl := lv_entry ([.ref h0, .int p0, .int p1]) (n := 5) (Nat.le_of_ble_eq_true rfl)
  rw [lg_entry_eq]
  generalize (lg_sl ([.ref h0, .int p0, .int p1]) ++ List.replicate (5 - (lg_sl ([.ref h0, .int p0, .int p1])).length) Slot.unset).toArray = ls at hl ⊢
  have hl : lv_has ls 5 [(0, .ref h0), (1, .int p0), (2, .int p1)] := hl
  refine lv_aload_n hx hb dX8_ground_0 rfl (lv_at hl 0 rfl) ?_
  refine lv_iload_n hx hb dX8_ground_1 rfl (lv_at hl 1 rfl) ?_
  have hPc := hP.sub (ws' := [(h0, .inr (12, [.ref a1, .ref a2, .ref a3, .ref a4, .ref a5, .ref a6, .ref a7, .ref a8, .int tol, .int sal])), (a4, .inr (3, [.int c0, .ref e0, .int 0]))]) [0, 1] rfl
  have hKc := hK.sub (tys' := []) [] rfl
  refine vx_callq (vx_runV (As := [.int p0]) (rest := []) ⟨hx, hb, hml, hown, hts⟩ (k_X8_documentAt l hfl G z h0 a1 a2 a3 a4 a5 a6 a7 a8 tol sal c0 e0 p0 s.heap.size ) (cwV 1 hts (lw_goodApp (lw_4 q860 q862 qs17 q1) q863) rfl rfl rfl (by decide +kernel) ⟨Nat.le_of_ble_eq_true rfl, Nat.le_of_ble_eq_true rfl⟩) ⟨PR.blind, va_recv hK hP (ci := 12) (q0 := 0) rfl rfl, PR.of hPc hKc hG hS hA [.ref h0, .int p0]⟩ rfl rfl hl.1 rfl (lv_room (Nat.le_of_ble_eq_true rfl)) dX8_ground_2 ⟨Nat.le_of_ble_eq_true rfl, Nat.le_of_ble_eq_true rfl⟩) hS (fun q h9 h => zN.not h9 h) (fun q h => hA q (Nat.le_trans hS.1 h)) (fun q h9 h => zN.not h9 h) (fun E ce q9 ux t_4 H_1 locs ht hvm px_5 hE hz1 hk1 hS hq9 hv9 hcl9 => ?_) (fun r_2 u t_4 H_1 locs ht hvm hw_3 hB hz1 hk1 hS => ?_)
  · exact vx_out (fun x9 h9 => (htab x9 h9).elim) hlocks hq9 hv9 hcl9 (fun t2 ht2 hal2 => zX.same trivial hE hS ht2) hS.2.2 (Nat.le_of_ble_eq_true rfl) (Nat.le_of_ble_eq_true rfl)
  exact hw_3.elim

abbrev wz_X8_forged : List Cond := .code yX8_forged cX8_forged 3 (Option.some Jvm.ClassFile.FieldType.char) :: lw_good
set_option maxHeartbeats 4000000 in
set_option maxRecDepth 100000 in
/-- forged: there is none of it yet -/
theorem k_X8_forged (l : Launch) (hfl : l.stackTraces = false) (G : va_G) (z : Nat) (h0 : Nat) (a1 : Nat) (a2 : Nat) (a3 : Nat) (a4 : Nat) (a5 : Nat) (a6 : Nat) (a7 : Nat) (a8 : Nat) (tol : Int32) (sal : Int32) (c0 : Int32) (e0 : Nat) (p0 : Int32) (p1 : Int32) (sz : Nat)  : vx_Met l yX8_forged wz_X8_forged ({ frames := 7, cells := 1, slots := 6, locals := 103 }) (va_Pc [.ref h0, .int p0, .int p1] (PR G z [(h0, .inr (12, [.ref a1, .ref a2, .ref a3, .ref a4, .ref a5, .ref a6, .ref a7, .ref a8, .int tol, .int sal])), (a4, .inr (3, [.int c0, .ref e0, .int 0]))] [] sz)) (va_Qi (fun (r : Int32) (_ : Unit) => False) (fun (_ : Unit) (_ : State) => True) (zN sz)) (zX (True) "java/lang/IndexOutOfBoundsException" (zN sz)) 1 6 (zN sz) := by
  refine vx_ofW (cc := cX8_forged) (maxL := 3) (ret := (Option.some Jvm.ClassFile.FieldType.char)) (by decide) rfl ?_
  intro p e s m args below meth c s₁ B hml htab hv
  obtain ⟨rfl, rfl, hP, hK, hG⟩ := hv
  have hx := B.exec
  have hb := B.bytes
  have hr := B.returns
  have hts := atoms_spec (ws := wz_X8_forged) B.pre
  have hg : ∀ w ∈ lw_good, w.before _ s = true := fun w h => hts w (List.mem_cons_of_mem _ h)
  have hown : s.vm.findClass RX8 = some m.cls := findClass_of_methodNamed B.named
  have hlocks := B.notSynchronized
  have hA : ∀ q : Nat, s.heap.size ≤ q → zN s.heap.size q := fun _ h => h
  have hS : va_S (zN s.heap.size) s.heap s.heap [] := va_S.rf
  have hl := lv_entry ([.ref h0, .int p0, .int p1]) (n := 3) (Nat.le_of_ble_eq_true rfl)
  rw [lg_entry_eq]
  generalize (lg_sl ([.ref h0, .int p0, .int p1]) ++ List.replicate (3 - (lg_sl ([.ref h0, .int p0, .int p1])).length) Slot.unset).toArray = ls at hl ⊢
  have hl : lv_has ls 3 [(0, .ref h0), (1, .int p0), (2, .int p1)] := hl
  refine lv_aload_n hx hb dX8_forged_0 rfl (lv_at hl 0 rfl) ?_
  refine lv_iload_n hx hb dX8_forged_1 rfl (lv_at hl 1 rfl) ?_
  have hPc := hP.sub (ws' := [(h0, .inr (12, [.ref a1, .ref a2, .ref a3, .ref a4, .ref a5, .ref a6, .ref a7, .ref a8, .int tol, .int sal])), (a4, .inr (3, [.int c0, .ref e0, .int 0]))]) [0, 1] rfl
  have hKc := hK.sub (tys' := []) [] rfl
  refine vx_callq (vx_runV (As := [.int p0]) (rest := []) ⟨hx, hb, hml, hown, hts⟩ (k_X8_documentAt l hfl G z h0 a1 a2 a3 a4 a5 a6 a7 a8 tol sal c0 e0 p0 s.heap.size ) (cwV 1 hts (lw_goodApp (lw_4 q860 q862 qs17 q1) q863) rfl rfl rfl (by decide +kernel) ⟨Nat.le_of_ble_eq_true rfl, Nat.le_of_ble_eq_true rfl⟩) ⟨PR.blind, va_recv hK hP (ci := 12) (q0 := 0) rfl rfl, PR.of hPc hKc hG hS hA [.ref h0, .int p0]⟩ rfl rfl hl.1 rfl (lv_room (Nat.le_of_ble_eq_true rfl)) dX8_forged_2 ⟨Nat.le_of_ble_eq_true rfl, Nat.le_of_ble_eq_true rfl⟩) hS (fun q h9 h => zN.not h9 h) (fun q h => hA q (Nat.le_trans hS.1 h)) (fun q h9 h => zN.not h9 h) (fun E ce q9 ux t_4 H_1 locs ht hvm px_5 hE hz1 hk1 hS hq9 hv9 hcl9 => ?_) (fun r_2 u t_4 H_1 locs ht hvm hw_3 hB hz1 hk1 hS => ?_)
  · exact vx_out (fun x9 h9 => (htab x9 h9).elim) hlocks hq9 hv9 hcl9 (fun t2 ht2 hal2 => zX.same trivial hE hS ht2) hS.2.2 (Nat.le_of_ble_eq_true rfl) (Nat.le_of_ble_eq_true rfl)
  exact hw_3.elim

abbrev wz_X8_distance : List Cond := .code yX8_distance cX8_distance 4 (Option.some Jvm.ClassFile.FieldType.int) :: lw_good
set_option maxHeartbeats 4000000 in
set_option maxRecDepth 100000 in
/-- distance: there is none of it yet -/
theorem k_X8_distance (l : Launch) (hfl : l.stackTraces = false) (G : va_G) (z : Nat) (h0 : Nat) (a1 : Nat) (a2 : Nat) (a3 : Nat) (a4 : Nat) (a5 : Nat) (a6 : Nat) (a7 : Nat) (a8 : Nat) (tol : Int32) (sal : Int32) (c0 : Int32) (e0 : Nat) (p0 : Int32) (p1 : Int32) (sz : Nat)  : vx_Met l yX8_distance wz_X8_distance ({ frames := 7, cells := 1, slots := 6, locals := 103 }) (va_Pc [.ref h0, .int p0, .int p1] (PR G z [(h0, .inr (12, [.ref a1, .ref a2, .ref a3, .ref a4, .ref a5, .ref a6, .ref a7, .ref a8, .int tol, .int sal])), (a5, .inr (3, [.int c0, .ref e0, .int 0]))] [] sz)) (va_Qi (fun (r : Int32) (_ : Unit) => False) (fun (_ : Unit) (_ : State) => True) (zN sz)) (zX (True) "java/lang/IndexOutOfBoundsException" (zN sz)) 1 6 (zN sz) := by
  refine vx_ofW (cc := cX8_distance) (maxL := 4) (ret := (Option.some Jvm.ClassFile.FieldType.int)) (by decide) rfl ?_
  intro p e s m args below meth c s₁ B hml htab hv
  obtain ⟨rfl, rfl, hP, hK, hG⟩ := hv
  have hx := B.exec
  have hb := B.bytes
  have hr := B.returns
  have hts := atoms_spec (ws := wz_X8_distance) B.pre
  have hg : ∀ w ∈ lw_good, w.before _ s = true := fun w h => hts w (List.mem_cons_of_mem _ h)
  have hown : s.vm.findClass RX8 = some m.cls := findClass_of_methodNamed B.named
  have hlocks := B.notSynchronized
  have hA : ∀ q : Nat, s.heap.size ≤ q → zN s.heap.size q := fun _ h => h
  have hS : va_S (zN s.heap.size) s.heap s.heap [] := va_S.rf
  have hl := lv_entry ([.ref h0, .int p0, .int p1]) (n := 4) (Nat.le_of_ble_eq_true rfl)
  rw [lg_entry_eq]
  generalize (lg_sl ([.ref h0, .int p0, .int p1]) ++ List.replicate (4 - (lg_sl ([.ref h0, .int p0, .int p1])).length) Slot.unset).toArray = ls at hl ⊢
  have hl : lv_has ls 4 [(0, .ref h0), (1, .int p0), (2, .int p1)] := hl
  refine lv_aload_n hx hb dX8_distance_0 rfl (lv_at hl 0 rfl) ?_
  refine lv_iload_n hx hb dX8_distance_1 rfl (lv_at hl 1 rfl) ?_
  have hPc := hP.sub (ws' := [(h0, .inr (12, [.ref a1, .ref a2, .ref a3, .ref a4, .ref a5, .ref a6, .ref a7, .ref a8, .int tol, .int sal])), (a5, .inr (3, [.int c0, .ref e0, .int 0]))]) [0, 1] rfl
  have hKc := hK.sub (tys' := []) [] rfl
  refine vx_callq (vx_runV (As := [.int p0]) (rest := []) ⟨hx, hb, hml, hown, hts⟩ (k_X8_imageAt l hfl G z h0 a1 a2 a3 a4 a5 a6 a7 a8 tol sal c0 e0 p0 s.heap.size ) (cwV 1 hts (lw_goodApp (lw_4 q1006 q1008 qs21 q1) q1009) rfl rfl rfl (by decide +kernel) ⟨Nat.le_of_ble_eq_true rfl, Nat.le_of_ble_eq_true rfl⟩) ⟨PR.blind, va_recv hK hP (ci := 12) (q0 := 0) rfl rfl, PR.of hPc hKc hG hS hA [.ref h0, .int p0]⟩ rfl rfl hl.1 rfl (lv_room (Nat.le_of_ble_eq_true rfl)) dX8_distance_2 ⟨Nat.le_of_ble_eq_true rfl, Nat.le_of_ble_eq_true rfl⟩) hS (fun q h9 h => zN.not h9 h) (fun q h => hA q (Nat.le_trans hS.1 h)) (fun q h9 h => zN.not h9 h) (fun E ce q9 ux t_4 H_1 locs ht hvm px_5 hE hz1 hk1 hS hq9 hv9 hcl9 => ?_) (fun r_2 u t_4 H_1 locs ht hvm hw_3 hB hz1 hk1 hS => ?_)
  · exact vx_out (fun x9 h9 => (htab x9 h9).elim) hlocks hq9 hv9 hcl9 (fun t2 ht2 hal2 => zX.same trivial hE hS ht2) hS.2.2 (Nat.le_of_ble_eq_true rfl) (Nat.le_of_ble_eq_true rfl)
  exact hw_3.elim

abbrev wz_X8_compare : List Cond := .code yX8_compare cX8_compare 3 (Option.some Jvm.ClassFile.FieldType.char) :: lw_good
set_option maxHeartbeats 4000000 in
set_option maxRecDepth 100000 in
/-- compare: there is none of it yet -/
theorem k_X8_compare (l : Launch) (hfl : l.stackTraces = false) (G : va_G) (z : Nat) (h0 : Nat) (a1 : Nat) (a2 : Nat) (a3 : Nat) (a4 : Nat) (a5 : Nat) (a6 : Nat) (a7 : Nat) (a8 : Nat) (tol : Int32) (sal : Int32) (c0 : Int32) (e0 : Nat) (p0 : Int32) (p1 : Int32) (sz : Nat)  : vx_Met l yX8_compare wz_X8_compare ({ frames := 7, cells := 1, slots := 6, locals := 103 }) (va_Pc [.ref h0, .int p0, .int p1] (PR G z [(h0, .inr (12, [.ref a1, .ref a2, .ref a3, .ref a4, .ref a5, .ref a6, .ref a7, .ref a8, .int tol, .int sal])), (a5, .inr (3, [.int c0, .ref e0, .int 0]))] [] sz)) (va_Qi (fun (r : Int32) (_ : Unit) => False) (fun (_ : Unit) (_ : State) => True) (zN sz)) (zX (True) "java/lang/IndexOutOfBoundsException" (zN sz)) 1 6 (zN sz) := by
  refine vx_ofW (cc := cX8_compare) (maxL := 3) (ret := (Option.some Jvm.ClassFile.FieldType.char)) (by decide) rfl ?_
  intro p e s m args below meth c s₁ B hml htab hv
  obtain ⟨rfl, rfl, hP, hK, hG⟩ := hv
  have hx := B.exec
  have hb := B.bytes
  have hr := B.returns
  have hts := atoms_spec (ws := wz_X8_compare) B.pre
  have hg : ∀ w ∈ lw_good, w.before _ s = true := fun w h => hts w (List.mem_cons_of_mem _ h)
  have hown : s.vm.findClass RX8 = some m.cls := findClass_of_methodNamed B.named
  have hlocks := B.notSynchronized
  have hA : ∀ q : Nat, s.heap.size ≤ q → zN s.heap.size q := fun _ h => h
  have hS : va_S (zN s.heap.size) s.heap s.heap [] := va_S.rf
  have hl := lv_entry ([.ref h0, .int p0, .int p1]) (n := 3) (Nat.le_of_ble_eq_true rfl)
  rw [lg_entry_eq]
  generalize (lg_sl ([.ref h0, .int p0, .int p1]) ++ List.replicate (3 - (lg_sl ([.ref h0, .int p0, .int p1])).length) Slot.unset).toArray = ls at hl ⊢
  have hl : lv_has ls 3 [(0, .ref h0), (1, .int p0), (2, .int p1)] := hl
  refine lv_aload_n hx hb dX8_compare_0 rfl (lv_at hl 0 rfl) ?_
  refine lv_aload_n hx hb dX8_compare_1 rfl (lv_at hl 0 rfl) ?_
  refine lv_iload_n hx hb dX8_compare_2 rfl (lv_at hl 1 rfl) ?_
  have hPc := hP.sub (ws' := [(h0, .inr (12, [.ref a1, .ref a2, .ref a3, .ref a4, .ref a5, .ref a6, .ref a7, .ref a8, .int tol, .int sal])), (a5, .inr (3, [.int c0, .ref e0, .int 0]))]) [0, 1] rfl
  have hKc := hK.sub (tys' := []) [] rfl
  refine vx_callq (vx_runV (As := [.int p0]) (rest := [.ref h0]) ⟨hx, hb, hml, hown, hts⟩ (k_X8_imageAt l hfl G z h0 a1 a2 a3 a4 a5 a6 a7 a8 tol sal c0 e0 p0 s.heap.size ) (cwV 1 hts (lw_goodApp (lw_4 q1006 q1008 qs21 q1) q1009) rfl rfl rfl (by decide +kernel) ⟨Nat.le_of_ble_eq_true rfl, Nat.le_of_ble_eq_true rfl⟩) ⟨PR.blind, va_recv hK hP (ci := 12) (q0 := 0) rfl rfl, PR.of hPc hKc hG hS hA [.ref h0, .int p0]⟩ rfl rfl hl.1 rfl (lv_room (Nat.le_of_ble_eq_true rfl)) dX8_compare_3 ⟨Nat.le_of_ble_eq_true rfl, Nat.le_of_ble_eq_true rfl⟩) hS (fun q h9 h => zN.not h9 h) (fun q h => hA q (Nat.le_trans hS.1 h)) (fun q h9 h => zN.not h9 h) (fun E ce q9 ux t_4 H_1 locs ht hvm px_5 hE hz1 hk1 hS hq9 hv9 hcl9 => ?_) (fun r_2 u t_4 H_1 locs ht hvm hw_3 hB hz1 hk1 hS => ?_)
  · exact vx_out (fun x9 h9 => (htab x9 h9).elim) hlocks hq9 hv9 hcl9 (fun t2 ht2 hal2 => zX.same trivial hE hS ht2) hS.2.2 (Nat.le_of_ble_eq_true rfl) (Nat.le_of_ble_eq_true rfl)
  exact hw_3.elim

abbrev wz_X8_evidence : List Cond := .code yX8_evidence cX8_evidence 5 (Option.some Jvm.ClassFile.FieldType.int) :: lw_good
set_option maxHeartbeats 4000000 in
set_option maxRecDepth 100000 in
/-- evidence: there is none of it yet -/
theorem k_X8_evidence (l : Launch) (hfl : l.stackTraces = false) (G : va_G) (z : Nat) (h0 : Nat) (a1 : Nat) (a2 : Nat) (a3 : Nat) (a4 : Nat) (a5 : Nat) (a6 : Nat) (a7 : Nat) (a8 : Nat) (tol : Int32) (sal : Int32) (c0 : Int32) (e0 : Nat) (p0 : Int32) (p1 : Int32) (sz : Nat)  : vx_Met l yX8_evidence wz_X8_evidence ({ frames := 7, cells := 1, slots := 6, locals := 103 }) (va_Pc [.ref h0, .int p0, .int p1] (PR G z [(h0, .inr (12, [.ref a1, .ref a2, .ref a3, .ref a4, .ref a5, .ref a6, .ref a7, .ref a8, .int tol, .int sal])), (a5, .inr (3, [.int c0, .ref e0, .int 0]))] [] sz)) (va_Qi (fun (r : Int32) (_ : Unit) => False) (fun (_ : Unit) (_ : State) => True) (zN sz)) (zX (True) "java/lang/IndexOutOfBoundsException" (zN sz)) 1 6 (zN sz) := by
  refine vx_ofW (cc := cX8_evidence) (maxL := 5) (ret := (Option.some Jvm.ClassFile.FieldType.int)) (by decide) rfl ?_
  intro p e s m args below meth c s₁ B hml htab hv
  obtain ⟨rfl, rfl, hP, hK, hG⟩ := hv
  have hx := B.exec
  have hb := B.bytes
  have hr := B.returns
  have hts := atoms_spec (ws := wz_X8_evidence) B.pre
  have hg : ∀ w ∈ lw_good, w.before _ s = true := fun w h => hts w (List.mem_cons_of_mem _ h)
  have hown : s.vm.findClass RX8 = some m.cls := findClass_of_methodNamed B.named
  have hlocks := B.notSynchronized
  have hA : ∀ q : Nat, s.heap.size ≤ q → zN s.heap.size q := fun _ h => h
  have hS : va_S (zN s.heap.size) s.heap s.heap [] := va_S.rf
  have hl := lv_entry ([.ref h0, .int p0, .int p1]) (n := 5) (Nat.le_of_ble_eq_true rfl)
  rw [lg_entry_eq]
  generalize (lg_sl ([.ref h0, .int p0, .int p1]) ++ List.replicate (5 - (lg_sl ([.ref h0, .int p0, .int p1])).length) Slot.unset).toArray = ls at hl ⊢
  have hl : lv_has ls 5 [(0, .ref h0), (1, .int p0), (2, .int p1)] := hl
  refine lv_aload_n hx hb dX8_evidence_0 rfl (lv_at hl 0 rfl) ?_
  refine lv_iload_n hx hb dX8_evidence_1 rfl (lv_at hl 1 rfl) ?_
  have hPc := hP.sub (ws' := [(h0, .inr (12, [.ref a1, .ref a2, .ref a3, .ref a4, .ref a5, .ref a6, .ref a7, .ref a8, .int tol, .int sal])), (a5, .inr (3, [.int c0, .ref e0, .int 0]))]) [0, 1] rfl
  have hKc := hK.sub (tys' := []) [] rfl
  refine vx_callq (vx_runV (As := [.int p0]) (rest := []) ⟨hx, hb, hml, hown, hts⟩ (k_X8_imageAt l hfl G z h0 a1 a2 a3 a4 a5 a6 a7 a8 tol sal c0 e0 p0 s.heap.size ) (cwV 1 hts (lw_goodApp (lw_4 q1006 q1008 qs21 q1) q1009) rfl rfl rfl (by decide +kernel) ⟨Nat.le_of_ble_eq_true rfl, Nat.le_of_ble_eq_true rfl⟩) ⟨PR.blind, va_recv hK hP (ci := 12) (q0 := 0) rfl rfl, PR.of hPc hKc hG hS hA [.ref h0, .int p0]⟩ rfl rfl hl.1 rfl (lv_room (Nat.le_of_ble_eq_true rfl)) dX8_evidence_2 ⟨Nat.le_of_ble_eq_true rfl, Nat.le_of_ble_eq_true rfl⟩) hS (fun q h9 h => zN.not h9 h) (fun q h => hA q (Nat.le_trans hS.1 h)) (fun q h9 h => zN.not h9 h) (fun E ce q9 ux t_4 H_1 locs ht hvm px_5 hE hz1 hk1 hS hq9 hv9 hcl9 => ?_) (fun r_2 u t_4 H_1 locs ht hvm hw_3 hB hz1 hk1 hS => ?_)
  · exact vx_out (fun x9 h9 => (htab x9 h9).elim) hlocks hq9 hv9 hcl9 (fun t2 ht2 hal2 => zX.same trivial hE hS ht2) hS.2.2 (Nat.le_of_ble_eq_true rfl) (Nat.le_of_ble_eq_true rfl)
  exact hw_3.elim
end
section
theorem in_X0 : ∀ w ∈ u_ws RX0 TX0 6, w ∈ lw_good := by decide +kernel
theorem in_X6 : ∀ w ∈ u_ws RX6 TX6 4, w ∈ lw_good := by decide +kernel
theorem q1047 : Cond.code yX8_unmerge prog_1_method_31_code 1 (Option.some Jvm.ClassFile.FieldType.int) ∈ lw_good := lw_in (i := 1047) (by decide +kernel) (by decide +kernel)
theorem q109 : Cond.fieldLink "Watermarkmill$Dating" 26 "Watermarkmill$Dating" "documents" "I" ∈ lw_good := lw_in (i := 109) (by decide +kernel) (by decide +kernel)
theorem q1102 : Cond.code yX8_setAge prog_1_method_37_code 3 (Option.some Jvm.ClassFile.FieldType.int) ∈ lw_good := lw_in (i := 1102) (by decide +kernel) (by decide +kernel)
theorem q111 : Cond.fieldLink "Watermarkmill" 339 "Watermarkmill$Dating" "age" "I" ∈ lw_good := lw_in (i := 111) (by decide +kernel) (by decide +kernel)
theorem q1110 : Cond.methodLink "Watermarkmill" 345 yX8_checkFits ∈ lw_good := lw_in (i := 1110) (by decide +kernel) (by decide +kernel)
theorem q1112 : Cond.instanceMethod yX8_checkFits ∈ lw_good := lw_in (i := 1112) (by decide +kernel) (by decide +kernel)
theorem q1113 : Cond.code yX8_checkFits prog_1_method_59_code 2 (Option.none : Option Jvm.ClassFile.FieldType) ∈ lw_good := lw_in (i := 1113) (by decide +kernel) (by decide +kernel)
theorem q1129 : Cond.code yX8_culprit prog_1_method_41_code 2 (Option.some Jvm.ClassFile.FieldType.int) ∈ lw_good := lw_in (i := 1129) (by decide +kernel) (by decide +kernel)
theorem q1145 : Cond.code yX8_years prog_1_method_43_code 6 (Option.some Jvm.ClassFile.FieldType.long) ∈ lw_good := lw_in (i := 1145) (by decide +kernel) (by decide +kernel)
theorem q1166 : Cond.code yX8_usedShare prog_1_method_44_code 2 (Option.some Jvm.ClassFile.FieldType.float) ∈ lw_good := lw_in (i := 1166) (by decide +kernel) (by decide +kernel)
theorem q1167 : Cond.classLink "Watermarkmill" 361 "java/lang/ArithmeticException" ∈ lw_good := lw_in (i := 1167) (by decide +kernel) (by decide +kernel)
theorem q1176 : Cond.code yX8_meanAge prog_1_method_45_code 6 (Option.some Jvm.ClassFile.FieldType.double) ∈ lw_good := lw_in (i := 1176) (by decide +kernel) (by decide +kernel)
theorem q12 : Cond.initialized "java/lang/IllegalStateException" ∈ lw_good := lw_in (i := 12) (by decide +kernel) (by decide +kernel)
theorem q130 : Cond.fieldLink "Watermarkmill" 31 "Watermarkmill" "repertory" "LWatermarkmill$Repertory;" ∈ lw_good := lw_in (i := 130) (by decide +kernel) (by decide +kernel)
theorem q131 : Cond.fieldLink "Watermarkmill" 38 "Watermarkmill" "dating" "LWatermarkmill$Dating;" ∈ lw_good := lw_in (i := 131) (by decide +kernel) (by decide +kernel)
theorem q133 : Cond.fieldLink "Watermarkmill" 46 "Watermarkmill" "tolerance" "I" ∈ lw_good := lw_in (i := 133) (by decide +kernel) (by decide +kernel)
theorem q159 : Cond.code yX8_groups prog_1_method_29_code 4 (Option.some Jvm.ClassFile.FieldType.int) ∈ lw_good := lw_in (i := 159) (by decide +kernel) (by decide +kernel)
theorem q220 : Cond.code yX8_fits prog_1_method_38_code 1 (Option.some Jvm.ClassFile.FieldType.boolean) ∈ lw_good := lw_in (i := 220) (by decide +kernel) (by decide +kernel)
theorem q221 : Cond.methodLink "Watermarkmill" 342 yX0_fitsWithout ∈ lw_good := lw_in (i := 221) (by decide +kernel) (by decide +kernel)
theorem q222 : Cond.instanceMethod yX0_fitsWithout ∈ lw_good := lw_in (i := 222) (by decide +kernel) (by decide +kernel)
theorem q223 : Cond.selects "Watermarkmill$Dating" yX0_fitsWithout yX0_fitsWithout ∈ lw_good := lw_in (i := 223) (by decide +kernel) (by decide +kernel)
theorem q224 : Cond.code yX0_fitsWithout prog_2_method_9_code 3 (Option.some Jvm.ClassFile.FieldType.boolean) ∈ lw_good := lw_in (i := 224) (by decide +kernel) (by decide +kernel)
theorem q24 : Cond.initialized "java/lang/UnsupportedOperationException" ∈ lw_good := lw_in (i := 24) (by decide +kernel) (by decide +kernel)
theorem q250 : Cond.code yX8_isSound prog_1_method_46_code 1 (Option.some Jvm.ClassFile.FieldType.boolean) ∈ lw_good := lw_in (i := 250) (by decide +kernel) (by decide +kernel)
theorem q251 : Cond.methodLink "Watermarkmill" 371 yX8_sheetsInLots ∈ lw_good := lw_in (i := 251) (by decide +kernel) (by decide +kernel)
theorem q253 : Cond.instanceMethod yX8_sheetsInLots ∈ lw_good := lw_in (i := 253) (by decide +kernel) (by decide +kernel)
theorem q254 : Cond.code yX8_sheetsInLots prog_1_method_71_code 3 (Option.some Jvm.ClassFile.FieldType.int) ∈ lw_good := lw_in (i := 254) (by decide +kernel) (by decide +kernel)
theorem q260 : Cond.methodLink "Watermarkmill" 374 yX8_sheetsInReams ∈ lw_good := lw_in (i := 260) (by decide +kernel) (by decide +kernel)
theorem q262 : Cond.instanceMethod yX8_sheetsInReams ∈ lw_good := lw_in (i := 262) (by decide +kernel) (by decide +kernel)
theorem q263 : Cond.code yX8_sheetsInReams prog_1_method_72_code 3 (Option.some Jvm.ClassFile.FieldType.int) ∈ lw_good := lw_in (i := 263) (by decide +kernel) (by decide +kernel)
theorem q265 : Cond.methodLink "Watermarkmill" 366 yX8_sheetsInDocuments ∈ lw_good := lw_in (i := 265) (by decide +kernel) (by decide +kernel)
theorem q267 : Cond.instanceMethod yX8_sheetsInDocuments ∈ lw_good := lw_in (i := 267) (by decide +kernel) (by decide +kernel)
theorem q268 : Cond.code yX8_sheetsInDocuments prog_1_method_73_code 3 (Option.some Jvm.ClassFile.FieldType.int) ∈ lw_good := lw_in (i := 268) (by decide +kernel) (by decide +kernel)
theorem q27 : Cond.initialized "java/util/NoSuchElementException" ∈ lw_good := lw_in (i := 27) (by decide +kernel) (by decide +kernel)
theorem q270 : Cond.methodLink "Watermarkmill" 358 yX8_sheetsMade ∈ lw_good := lw_in (i := 270) (by decide +kernel) (by decide +kernel)
theorem q272 : Cond.instanceMethod yX8_sheetsMade ∈ lw_good := lw_in (i := 272) (by decide +kernel) (by decide +kernel)
theorem q273 : Cond.code yX8_sheetsMade prog_1_method_70_code 3 (Option.some Jvm.ClassFile.FieldType.int) ∈ lw_good := lw_in (i := 273) (by decide +kernel) (by decide +kernel)
theorem q274 : Cond.methodLink "Watermarkmill" 377 yX8_isDamageKept ∈ lw_good := lw_in (i := 274) (by decide +kernel) (by decide +kernel)
theorem q276 : Cond.instanceMethod yX8_isDamageKept ∈ lw_good := lw_in (i := 276) (by decide +kernel) (by decide +kernel)
theorem q277 : Cond.code yX8_isDamageKept prog_1_method_74_code 2 (Option.some Jvm.ClassFile.FieldType.boolean) ∈ lw_good := lw_in (i := 277) (by decide +kernel) (by decide +kernel)
theorem q287 : Cond.methodLink "Watermarkmill" 381 yX8_isPaperInTime ∈ lw_good := lw_in (i := 287) (by decide +kernel) (by decide +kernel)
theorem q289 : Cond.instanceMethod yX8_isPaperInTime ∈ lw_good := lw_in (i := 289) (by decide +kernel) (by decide +kernel)
theorem q290 : Cond.code yX8_isPaperInTime prog_1_method_75_code 4 (Option.some Jvm.ClassFile.FieldType.boolean) ∈ lw_good := lw_in (i := 290) (by decide +kernel) (by decide +kernel)
theorem q294 : Cond.methodLink "Watermarkmill" 384 yX8_isDatedAsTold ∈ lw_good := lw_in (i := 294) (by decide +kernel) (by decide +kernel)
theorem q296 : Cond.instanceMethod yX8_isDatedAsTold ∈ lw_good := lw_in (i := 296) (by decide +kernel) (by decide +kernel)
theorem q297 : Cond.code yX8_isDatedAsTold prog_1_method_76_code 3 (Option.some Jvm.ClassFile.FieldType.boolean) ∈ lw_good := lw_in (i := 297) (by decide +kernel) (by decide +kernel)
theorem q36 : Cond.initialized "java/lang/ArithmeticException" ∈ lw_good := lw_in (i := 36) (by decide +kernel) (by decide +kernel)
theorem q385 : Cond.code yX8_checkRoom prog_1_method_55_code 2 (Option.none : Option Jvm.ClassFile.FieldType) ∈ lw_good := lw_in (i := 385) (by decide +kernel) (by decide +kernel)
theorem q386 : Cond.classLink "Watermarkmill" 402 "java/lang/IllegalStateException" ∈ lw_good := lw_in (i := 386) (by decide +kernel) (by decide +kernel)
theorem q572 : Cond.classLink "Watermarkmill" 94 "java/lang/UnsupportedOperationException" ∈ lw_good := lw_in (i := 572) (by decide +kernel) (by decide +kernel)
theorem q6 : Cond.initialized "Watermarkmill$Dating" ∈ lw_good := lw_in (i := 6) (by decide +kernel) (by decide +kernel)
theorem q683 : Cond.classLink "Watermarkmill" 148 "java/util/NoSuchElementException" ∈ lw_good := lw_in (i := 683) (by decide +kernel) (by decide +kernel)
theorem q84 : Cond.fieldLink "Watermarkmill" 305 "Watermarkmill$Repertory" "mergings" "I" ∈ lw_good := lw_in (i := 84) (by decide +kernel) (by decide +kernel)
theorem q998 : Cond.code yX8_setTolerance prog_1_method_25_code 3 (Option.some Jvm.ClassFile.FieldType.int) ∈ lw_good := lw_in (i := 998) (by decide +kernel) (by decide +kernel)
theorem qs22 : Cond.selects "Watermarkmill" yX8_checkFits yX8_checkFits ∈ lw_good := lw_inS (i := 22) (by decide +kernel) (by decide +kernel)
theorem qs3 : Cond.selects "Watermarkmill" yX8_sheetsInLots yX8_sheetsInLots ∈ lw_good := lw_inS (i := 3) (by decide +kernel) (by decide +kernel)
theorem qs4 : Cond.selects "Watermarkmill" yX8_sheetsInReams yX8_sheetsInReams ∈ lw_good := lw_inS (i := 4) (by decide +kernel) (by decide +kernel)
theorem qs5 : Cond.selects "Watermarkmill" yX8_sheetsInDocuments yX8_sheetsInDocuments ∈ lw_good := lw_inS (i := 5) (by decide +kernel) (by decide +kernel)
theorem qs6 : Cond.selects "Watermarkmill" yX8_sheetsMade yX8_sheetsMade ∈ lw_good := lw_inS (i := 6) (by decide +kernel) (by decide +kernel)
theorem qs7 : Cond.selects "Watermarkmill" yX8_isDamageKept yX8_isDamageKept ∈ lw_good := lw_inS (i := 7) (by decide +kernel) (by decide +kernel)
theorem qs8 : Cond.selects "Watermarkmill" yX8_isPaperInTime yX8_isPaperInTime ∈ lw_good := lw_inS (i := 8) (by decide +kernel) (by decide +kernel)
theorem qs9 : Cond.selects "Watermarkmill" yX8_isDatedAsTold yX8_isDatedAsTold ∈ lw_good := lw_inS (i := 9) (by decide +kernel) (by decide +kernel)
theorem qstr1048 : Cond.stringRef "Watermarkmill" 308 "no merging is left" ∈ tables_1 := List.mem_of_getElem? (i := 1048) (by decide +kernel)
theorem qstr1130 : Cond.stringRef "Watermarkmill" 354 "all fits" ∈ tables_1 := List.mem_of_getElem? (i := 1130) (by decide +kernel)
theorem qstr1168 : Cond.stringRef "Watermarkmill" 363 "no sheet was made" ∈ tables_1 := List.mem_of_getElem? (i := 1168) (by decide +kernel)
theorem qstr1177 : Cond.stringRef "Watermarkmill" 369 "no sheet was used" ∈ tables_1 := List.mem_of_getElem? (i := 1177) (by decide +kernel)
theorem qstr395 : Cond.stringRef "Watermarkmill" 404 "there is no room for more" ∈ tables_1 := List.mem_of_getElem? (i := 395) (by decide +kernel)
theorem zat_X8_365 : ∀ w ∈ vx_atS RX8 365 "java/lang/ArithmeticException" zNm, w ∈ lw_good ∨ w ∈ lw_face := zat (by decide +kernel) (by decide +kernel)
theorem zat_X8_406 : ∀ w ∈ vx_atS RX8 406 "java/lang/IllegalStateException" zNm, w ∈ lw_good ∨ w ∈ lw_face := zat (by decide +kernel) (by decide +kernel)
theorem zat_X8_98 : ∀ w ∈ vx_atS RX8 98 "java/lang/UnsupportedOperationException" zNm, w ∈ lw_good ∨ w ∈ lw_face := zat (by decide +kernel) (by decide +kernel)
theorem zgo_X8_365_361 : ∀ w ∈ Cond.classLink RX8 361 "java/lang/ArithmeticException" :: Cond.initialized "java/lang/ArithmeticException" :: vx_atS RX8 365 "java/lang/ArithmeticException" zNm, vx_ot w = true := by decide +kernel
theorem zgo_X8_406_402 : ∀ w ∈ Cond.classLink RX8 402 "java/lang/IllegalStateException" :: Cond.initialized "java/lang/IllegalStateException" :: vx_atS RX8 406 "java/lang/IllegalStateException" zNm, vx_ot w = true := by decide +kernel
theorem zgo_X8_98_94 : ∀ w ∈ Cond.classLink RX8 94 "java/lang/UnsupportedOperationException" :: Cond.initialized "java/lang/UnsupportedOperationException" :: vx_atS RX8 98 "java/lang/UnsupportedOperationException" zNm, vx_ot w = true := by decide +kernel
theorem dX0_fitsWithout_0 : decode cX0_fitsWithout 0 = .ok (.iconst 0, 1) := by decide +kernel
theorem dX0_fitsWithout_1 : decode cX0_fitsWithout 1 = .ok (.istore_n 2, 1) := by decide +kernel
theorem dX0_fitsWithout_2 : decode cX0_fitsWithout 2 = .ok (.iload_n 2, 1) := by decide +kernel
theorem dX0_fitsWithout_3 : decode cX0_fitsWithout 3 = .ok (.aload_n 0, 1) := by decide +kernel
theorem dX0_fitsWithout_4 : decode cX0_fitsWithout 4 = .ok (.getfield 26, 3) := by decide +kernel
theorem dX0_fitsWithout_43 : decode cX0_fitsWithout 43 = .ok (.iconst 1, 1) := by decide +kernel
theorem dX0_fitsWithout_44 : decode cX0_fitsWithout 44 = .ok (.ireturn, 1) := by decide +kernel
theorem dX0_fitsWithout_7 : decode cX0_fitsWithout 7 = .ok (.if_icmp .ge 36, 3) := by decide +kernel
theorem dX8_checkFits_0 : decode cX8_checkFits 0 = .ok (.aload_n 0, 1) := by decide +kernel
theorem dX8_checkFits_1 : decode cX8_checkFits 1 = .ok (.getfield 38, 3) := by decide +kernel
theorem dX8_checkFits_22 : decode cX8_checkFits 22 = .ok (.return_, 1) := by decide +kernel
theorem dX8_checkFits_4 : decode cX8_checkFits 4 = .ok (.iload_n 1, 1) := by decide +kernel
theorem dX8_checkFits_5 : decode cX8_checkFits 5 = .ok (.invokevirtual 342, 3) := by decide +kernel
theorem dX8_checkFits_8 : decode cX8_checkFits 8 = .ok (.ifCond .ne 14, 3) := by decide +kernel
theorem dX8_checkRoom_0 : decode cX8_checkRoom 0 = .ok (.iload_n 0, 1) := by decide +kernel
theorem dX8_checkRoom_1 : decode cX8_checkRoom 1 = .ok (.iload_n 1, 1) := by decide +kernel
theorem dX8_checkRoom_12 : decode cX8_checkRoom 12 = .ok (.invokespecial 406, 3) := by decide +kernel
theorem dX8_checkRoom_15 : decode cX8_checkRoom 15 = .ok (.athrow, 1) := by decide +kernel
theorem dX8_checkRoom_16 : decode cX8_checkRoom 16 = .ok (.return_, 1) := by decide +kernel
theorem dX8_checkRoom_2 : decode cX8_checkRoom 2 = .ok (.if_icmp .le 14, 3) := by decide +kernel
theorem dX8_checkRoom_5 : decode cX8_checkRoom 5 = .ok (.new 402, 3) := by decide +kernel
theorem dX8_checkRoom_8 : decode cX8_checkRoom 8 = .ok (.dup, 1) := by decide +kernel
theorem dX8_checkRoom_9 : decode cX8_checkRoom 9 = .ok (.ldc_w 404, 3) := by decide +kernel
theorem dX8_culprit_0 : decode cX8_culprit 0 = .ok (.aload_n 0, 1) := by decide +kernel
theorem dX8_culprit_1 : decode cX8_culprit 1 = .ok (.getfield 38, 3) := by decide +kernel
theorem dX8_culprit_11 : decode cX8_culprit 11 = .ok (.new 94, 3) := by decide +kernel
theorem dX8_culprit_14 : decode cX8_culprit 14 = .ok (.dup, 1) := by decide +kernel
theorem dX8_culprit_15 : decode cX8_culprit 15 = .ok (.ldc_w 354, 3) := by decide +kernel
theorem dX8_culprit_18 : decode cX8_culprit 18 = .ok (.invokespecial 98, 3) := by decide +kernel
theorem dX8_culprit_21 : decode cX8_culprit 21 = .ok (.athrow, 1) := by decide +kernel
theorem dX8_culprit_4 : decode cX8_culprit 4 = .ok (.iconst (-1), 1) := by decide +kernel
theorem dX8_culprit_5 : decode cX8_culprit 5 = .ok (.invokevirtual 342, 3) := by decide +kernel
theorem dX8_culprit_8 : decode cX8_culprit 8 = .ok (.ifCond .eq 14, 3) := by decide +kernel
theorem dX8_fits_0 : decode cX8_fits 0 = .ok (.aload_n 0, 1) := by decide +kernel
theorem dX8_fits_1 : decode cX8_fits 1 = .ok (.getfield 38, 3) := by decide +kernel
theorem dX8_fits_4 : decode cX8_fits 4 = .ok (.iconst (-1), 1) := by decide +kernel
theorem dX8_fits_5 : decode cX8_fits 5 = .ok (.invokevirtual 342, 3) := by decide +kernel
theorem dX8_fits_8 : decode cX8_fits 8 = .ok (.ireturn, 1) := by decide +kernel
theorem dX8_groups_0 : decode cX8_groups 0 = .ok (.aload_n 0, 1) := by decide +kernel
theorem dX8_groups_1 : decode cX8_groups 1 = .ok (.getfield 25, 3) := by decide +kernel
theorem dX8_groups_10 : decode cX8_groups 10 = .ok (.iload_n 2, 1) := by decide +kernel
theorem dX8_groups_11 : decode cX8_groups 11 = .ok (.aload_n 0, 1) := by decide +kernel
theorem dX8_groups_12 : decode cX8_groups 12 = .ok (.getfield 25, 3) := by decide +kernel
theorem dX8_groups_137 : decode cX8_groups 137 = .ok (.iload_n 1, 1) := by decide +kernel
theorem dX8_groups_138 : decode cX8_groups 138 = .ok (.ireturn, 1) := by decide +kernel
theorem dX8_groups_15 : decode cX8_groups 15 = .ok (.invokevirtual 57, 3) := by decide +kernel
theorem dX8_groups_18 : decode cX8_groups 18 = .ok (.if_icmp .ge 16, 3) := by decide +kernel
theorem dX8_groups_34 : decode cX8_groups 34 = .ok (.iconst 0, 1) := by decide +kernel
theorem dX8_groups_35 : decode cX8_groups 35 = .ok (.istore_n 2, 1) := by decide +kernel
theorem dX8_groups_36 : decode cX8_groups 36 = .ok (.iload_n 2, 1) := by decide +kernel
theorem dX8_groups_37 : decode cX8_groups 37 = .ok (.aload_n 0, 1) := by decide +kernel
theorem dX8_groups_38 : decode cX8_groups 38 = .ok (.getfield 25, 3) := by decide +kernel
theorem dX8_groups_4 : decode cX8_groups 4 = .ok (.invokevirtual 57, 3) := by decide +kernel
theorem dX8_groups_41 : decode cX8_groups 41 = .ok (.invokevirtual 57, 3) := by decide +kernel
theorem dX8_groups_44 : decode cX8_groups 44 = .ok (.if_icmp .ge 93, 3) := by decide +kernel
theorem dX8_groups_7 : decode cX8_groups 7 = .ok (.istore_n 1, 1) := by decide +kernel
theorem dX8_groups_8 : decode cX8_groups 8 = .ok (.iconst 0, 1) := by decide +kernel
theorem dX8_groups_9 : decode cX8_groups 9 = .ok (.istore_n 2, 1) := by decide +kernel
theorem dX8_isDamageKept_0 : decode cX8_isDamageKept 0 = .ok (.iconst 0, 1) := by decide +kernel
theorem dX8_isDamageKept_1 : decode cX8_isDamageKept 1 = .ok (.istore_n 1, 1) := by decide +kernel
theorem dX8_isDamageKept_10 : decode cX8_isDamageKept 10 = .ok (.if_icmp .ge 28, 3) := by decide +kernel
theorem dX8_isDamageKept_2 : decode cX8_isDamageKept 2 = .ok (.iload_n 1, 1) := by decide +kernel
theorem dX8_isDamageKept_3 : decode cX8_isDamageKept 3 = .ok (.aload_n 0, 1) := by decide +kernel
theorem dX8_isDamageKept_38 : decode cX8_isDamageKept 38 = .ok (.iconst 1, 1) := by decide +kernel
theorem dX8_isDamageKept_39 : decode cX8_isDamageKept 39 = .ok (.ireturn, 1) := by decide +kernel
theorem dX8_isDamageKept_4 : decode cX8_isDamageKept 4 = .ok (.getfield 12, 3) := by decide +kernel
theorem dX8_isDamageKept_7 : decode cX8_isDamageKept 7 = .ok (.invokevirtual 57, 3) := by decide +kernel
theorem dX8_isDatedAsTold_0 : decode cX8_isDatedAsTold 0 = .ok (.aload_n 0, 1) := by decide +kernel
theorem dX8_isDatedAsTold_1 : decode cX8_isDatedAsTold 1 = .ok (.getfield 38, 3) := by decide +kernel
theorem dX8_isDatedAsTold_13 : decode cX8_isDatedAsTold 13 = .ok (.iconst 0, 1) := by decide +kernel
theorem dX8_isDatedAsTold_14 : decode cX8_isDatedAsTold 14 = .ok (.istore_n 1, 1) := by decide +kernel
theorem dX8_isDatedAsTold_15 : decode cX8_isDatedAsTold 15 = .ok (.iload_n 1, 1) := by decide +kernel
theorem dX8_isDatedAsTold_16 : decode cX8_isDatedAsTold 16 = .ok (.aload_n 0, 1) := by decide +kernel
theorem dX8_isDatedAsTold_17 : decode cX8_isDatedAsTold 17 = .ok (.getfield 22, 3) := by decide +kernel
theorem dX8_isDatedAsTold_20 : decode cX8_isDatedAsTold 20 = .ok (.invokevirtual 57, 3) := by decide +kernel
theorem dX8_isDatedAsTold_23 : decode cX8_isDatedAsTold 23 = .ok (.if_icmp .ge 53, 3) := by decide +kernel
theorem dX8_isDatedAsTold_4 : decode cX8_isDatedAsTold 4 = .ok (.iconst (-1), 1) := by decide +kernel
theorem dX8_isDatedAsTold_5 : decode cX8_isDatedAsTold 5 = .ok (.invokevirtual 342, 3) := by decide +kernel
theorem dX8_isDatedAsTold_76 : decode cX8_isDatedAsTold 76 = .ok (.iconst 1, 1) := by decide +kernel
theorem dX8_isDatedAsTold_77 : decode cX8_isDatedAsTold 77 = .ok (.ireturn, 1) := by decide +kernel
theorem dX8_isDatedAsTold_8 : decode cX8_isDatedAsTold 8 = .ok (.ifCond .ne 5, 3) := by decide +kernel
theorem dX8_isPaperInTime_0 : decode cX8_isPaperInTime 0 = .ok (.iconst 0, 1) := by decide +kernel
theorem dX8_isPaperInTime_1 : decode cX8_isPaperInTime 1 = .ok (.istore_n 1, 1) := by decide +kernel
theorem dX8_isPaperInTime_10 : decode cX8_isPaperInTime 10 = .ok (.if_icmp .ge 55, 3) := by decide +kernel
theorem dX8_isPaperInTime_2 : decode cX8_isPaperInTime 2 = .ok (.iload_n 1, 1) := by decide +kernel
theorem dX8_isPaperInTime_3 : decode cX8_isPaperInTime 3 = .ok (.aload_n 0, 1) := by decide +kernel
theorem dX8_isPaperInTime_4 : decode cX8_isPaperInTime 4 = .ok (.getfield 22, 3) := by decide +kernel
theorem dX8_isPaperInTime_65 : decode cX8_isPaperInTime 65 = .ok (.iconst 1, 1) := by decide +kernel
theorem dX8_isPaperInTime_66 : decode cX8_isPaperInTime 66 = .ok (.ireturn, 1) := by decide +kernel
theorem dX8_isPaperInTime_7 : decode cX8_isPaperInTime 7 = .ok (.invokevirtual 57, 3) := by decide +kernel
theorem dX8_isSound_0 : decode cX8_isSound 0 = .ok (.aload_n 0, 1) := by decide +kernel
theorem dX8_isSound_1 : decode cX8_isSound 1 = .ok (.invokevirtual 371, 3) := by decide +kernel
theorem dX8_isSound_10 : decode cX8_isSound 10 = .ok (.invokevirtual 366, 3) := by decide +kernel
theorem dX8_isSound_13 : decode cX8_isSound 13 = .ok (.iadd, 1) := by decide +kernel
theorem dX8_isSound_14 : decode cX8_isSound 14 = .ok (.aload_n 0, 1) := by decide +kernel
theorem dX8_isSound_15 : decode cX8_isSound 15 = .ok (.invokevirtual 358, 3) := by decide +kernel
theorem dX8_isSound_18 : decode cX8_isSound 18 = .ok (.if_icmp .ne 28, 3) := by decide +kernel
theorem dX8_isSound_21 : decode cX8_isSound 21 = .ok (.aload_n 0, 1) := by decide +kernel
theorem dX8_isSound_22 : decode cX8_isSound 22 = .ok (.invokevirtual 377, 3) := by decide +kernel
theorem dX8_isSound_25 : decode cX8_isSound 25 = .ok (.ifCond .eq 21, 3) := by decide +kernel
theorem dX8_isSound_28 : decode cX8_isSound 28 = .ok (.aload_n 0, 1) := by decide +kernel
theorem dX8_isSound_29 : decode cX8_isSound 29 = .ok (.invokevirtual 381, 3) := by decide +kernel
theorem dX8_isSound_32 : decode cX8_isSound 32 = .ok (.ifCond .eq 14, 3) := by decide +kernel
theorem dX8_isSound_35 : decode cX8_isSound 35 = .ok (.aload_n 0, 1) := by decide +kernel
theorem dX8_isSound_36 : decode cX8_isSound 36 = .ok (.invokevirtual 384, 3) := by decide +kernel
theorem dX8_isSound_39 : decode cX8_isSound 39 = .ok (.ifCond .eq 7, 3) := by decide +kernel
theorem dX8_isSound_4 : decode cX8_isSound 4 = .ok (.aload_n 0, 1) := by decide +kernel
theorem dX8_isSound_42 : decode cX8_isSound 42 = .ok (.iconst 1, 1) := by decide +kernel
theorem dX8_isSound_43 : decode cX8_isSound 43 = .ok (.goto 4, 3) := by decide +kernel
theorem dX8_isSound_47 : decode cX8_isSound 47 = .ok (.ireturn, 1) := by decide +kernel
theorem dX8_isSound_5 : decode cX8_isSound 5 = .ok (.invokevirtual 374, 3) := by decide +kernel
theorem dX8_isSound_8 : decode cX8_isSound 8 = .ok (.iadd, 1) := by decide +kernel
theorem dX8_isSound_9 : decode cX8_isSound 9 = .ok (.aload_n 0, 1) := by decide +kernel
theorem dX8_meanAge_0 : decode cX8_meanAge 0 = .ok (.aload_n 0, 1) := by decide +kernel
theorem dX8_meanAge_1 : decode cX8_meanAge 1 = .ok (.invokevirtual 366, 3) := by decide +kernel
theorem dX8_meanAge_12 : decode cX8_meanAge 12 = .ok (.dup, 1) := by decide +kernel
theorem dX8_meanAge_13 : decode cX8_meanAge 13 = .ok (.ldc_w 369, 3) := by decide +kernel
theorem dX8_meanAge_16 : decode cX8_meanAge 16 = .ok (.invokespecial 152, 3) := by decide +kernel
theorem dX8_meanAge_19 : decode cX8_meanAge 19 = .ok (.athrow, 1) := by decide +kernel
theorem dX8_meanAge_4 : decode cX8_meanAge 4 = .ok (.istore_n 1, 1) := by decide +kernel
theorem dX8_meanAge_5 : decode cX8_meanAge 5 = .ok (.iload_n 1, 1) := by decide +kernel
theorem dX8_meanAge_6 : decode cX8_meanAge 6 = .ok (.ifCond .ne 14, 3) := by decide +kernel
theorem dX8_meanAge_9 : decode cX8_meanAge 9 = .ok (.new 148, 3) := by decide +kernel
theorem dX8_setAge_0 : decode cX8_setAge 0 = .ok (.iload_n 1, 1) := by decide +kernel
theorem dX8_setAge_1 : decode cX8_setAge 1 = .ok (.iconst 0, 1) := by decide +kernel
theorem dX8_setAge_11 : decode cX8_setAge 11 = .ok (.getfield 339, 3) := by decide +kernel
theorem dX8_setAge_14 : decode cX8_setAge 14 = .ok (.istore_n 2, 1) := by decide +kernel
theorem dX8_setAge_15 : decode cX8_setAge 15 = .ok (.aload_n 0, 1) := by decide +kernel
theorem dX8_setAge_16 : decode cX8_setAge 16 = .ok (.getfield 38, 3) := by decide +kernel
theorem dX8_setAge_19 : decode cX8_setAge 19 = .ok (.iload_n 1, 1) := by decide +kernel
theorem dX8_setAge_2 : decode cX8_setAge 2 = .ok (.bipush 100, 2) := by decide +kernel
theorem dX8_setAge_20 : decode cX8_setAge 20 = .ok (.putfield 339, 3) := by decide +kernel
theorem dX8_setAge_23 : decode cX8_setAge 23 = .ok (.iload_n 2, 1) := by decide +kernel
theorem dX8_setAge_24 : decode cX8_setAge 24 = .ok (.ireturn, 1) := by decide +kernel
theorem dX8_setAge_4 : decode cX8_setAge 4 = .ok (.invokestatic 53, 3) := by decide +kernel
theorem dX8_setAge_7 : decode cX8_setAge 7 = .ok (.aload_n 0, 1) := by decide +kernel
theorem dX8_setAge_8 : decode cX8_setAge 8 = .ok (.getfield 38, 3) := by decide +kernel
theorem dX8_setTolerance_0 : decode cX8_setTolerance 0 = .ok (.iload_n 1, 1) := by decide +kernel
theorem dX8_setTolerance_1 : decode cX8_setTolerance 1 = .ok (.iconst 0, 1) := by decide +kernel
theorem dX8_setTolerance_11 : decode cX8_setTolerance 11 = .ok (.istore_n 2, 1) := by decide +kernel
theorem dX8_setTolerance_12 : decode cX8_setTolerance 12 = .ok (.aload_n 0, 1) := by decide +kernel
theorem dX8_setTolerance_13 : decode cX8_setTolerance 13 = .ok (.iload_n 1, 1) := by decide +kernel
theorem dX8_setTolerance_14 : decode cX8_setTolerance 14 = .ok (.putfield 46, 3) := by decide +kernel
theorem dX8_setTolerance_17 : decode cX8_setTolerance 17 = .ok (.iload_n 2, 1) := by decide +kernel
theorem dX8_setTolerance_18 : decode cX8_setTolerance 18 = .ok (.ireturn, 1) := by decide +kernel
theorem dX8_setTolerance_2 : decode cX8_setTolerance 2 = .ok (.bipush 50, 2) := by decide +kernel
theorem dX8_setTolerance_4 : decode cX8_setTolerance 4 = .ok (.invokestatic 53, 3) := by decide +kernel
theorem dX8_setTolerance_7 : decode cX8_setTolerance 7 = .ok (.aload_n 0, 1) := by decide +kernel
theorem dX8_setTolerance_8 : decode cX8_setTolerance 8 = .ok (.getfield 46, 3) := by decide +kernel
theorem dX8_sheetsInDocuments_0 : decode cX8_sheetsInDocuments 0 = .ok (.iconst 0, 1) := by decide +kernel
theorem dX8_sheetsInDocuments_1 : decode cX8_sheetsInDocuments 1 = .ok (.istore_n 1, 1) := by decide +kernel
theorem dX8_sheetsInDocuments_12 : decode cX8_sheetsInDocuments 12 = .ok (.if_icmp .ge 26, 3) := by decide +kernel
theorem dX8_sheetsInDocuments_2 : decode cX8_sheetsInDocuments 2 = .ok (.iconst 0, 1) := by decide +kernel
theorem dX8_sheetsInDocuments_3 : decode cX8_sheetsInDocuments 3 = .ok (.istore_n 2, 1) := by decide +kernel
theorem dX8_sheetsInDocuments_38 : decode cX8_sheetsInDocuments 38 = .ok (.iload_n 1, 1) := by decide +kernel
theorem dX8_sheetsInDocuments_39 : decode cX8_sheetsInDocuments 39 = .ok (.ireturn, 1) := by decide +kernel
theorem dX8_sheetsInDocuments_4 : decode cX8_sheetsInDocuments 4 = .ok (.iload_n 2, 1) := by decide +kernel
theorem dX8_sheetsInDocuments_5 : decode cX8_sheetsInDocuments 5 = .ok (.aload_n 0, 1) := by decide +kernel
theorem dX8_sheetsInDocuments_6 : decode cX8_sheetsInDocuments 6 = .ok (.getfield 22, 3) := by decide +kernel
theorem dX8_sheetsInDocuments_9 : decode cX8_sheetsInDocuments 9 = .ok (.invokevirtual 57, 3) := by decide +kernel
theorem dX8_sheetsInLots_0 : decode cX8_sheetsInLots 0 = .ok (.iconst 0, 1) := by decide +kernel
theorem dX8_sheetsInLots_1 : decode cX8_sheetsInLots 1 = .ok (.istore_n 1, 1) := by decide +kernel
theorem dX8_sheetsInLots_12 : decode cX8_sheetsInLots 12 = .ok (.if_icmp .ge 26, 3) := by decide +kernel
theorem dX8_sheetsInLots_2 : decode cX8_sheetsInLots 2 = .ok (.iconst 0, 1) := by decide +kernel
theorem dX8_sheetsInLots_3 : decode cX8_sheetsInLots 3 = .ok (.istore_n 2, 1) := by decide +kernel
theorem dX8_sheetsInLots_38 : decode cX8_sheetsInLots 38 = .ok (.iload_n 1, 1) := by decide +kernel
theorem dX8_sheetsInLots_39 : decode cX8_sheetsInLots 39 = .ok (.ireturn, 1) := by decide +kernel
theorem dX8_sheetsInLots_4 : decode cX8_sheetsInLots 4 = .ok (.iload_n 2, 1) := by decide +kernel
theorem dX8_sheetsInLots_5 : decode cX8_sheetsInLots 5 = .ok (.aload_n 0, 1) := by decide +kernel
theorem dX8_sheetsInLots_6 : decode cX8_sheetsInLots 6 = .ok (.getfield 16, 3) := by decide +kernel
theorem dX8_sheetsInLots_9 : decode cX8_sheetsInLots 9 = .ok (.invokevirtual 57, 3) := by decide +kernel
theorem dX8_sheetsInReams_0 : decode cX8_sheetsInReams 0 = .ok (.iconst 0, 1) := by decide +kernel
theorem dX8_sheetsInReams_1 : decode cX8_sheetsInReams 1 = .ok (.istore_n 1, 1) := by decide +kernel
theorem dX8_sheetsInReams_12 : decode cX8_sheetsInReams 12 = .ok (.if_icmp .ge 26, 3) := by decide +kernel
theorem dX8_sheetsInReams_2 : decode cX8_sheetsInReams 2 = .ok (.iconst 0, 1) := by decide +kernel
theorem dX8_sheetsInReams_3 : decode cX8_sheetsInReams 3 = .ok (.istore_n 2, 1) := by decide +kernel
theorem dX8_sheetsInReams_38 : decode cX8_sheetsInReams 38 = .ok (.iload_n 1, 1) := by decide +kernel
theorem dX8_sheetsInReams_39 : decode cX8_sheetsInReams 39 = .ok (.ireturn, 1) := by decide +kernel
theorem dX8_sheetsInReams_4 : decode cX8_sheetsInReams 4 = .ok (.iload_n 2, 1) := by decide +kernel
theorem dX8_sheetsInReams_5 : decode cX8_sheetsInReams 5 = .ok (.aload_n 0, 1) := by decide +kernel
theorem dX8_sheetsInReams_6 : decode cX8_sheetsInReams 6 = .ok (.getfield 19, 3) := by decide +kernel
theorem dX8_sheetsInReams_9 : decode cX8_sheetsInReams 9 = .ok (.invokevirtual 57, 3) := by decide +kernel
theorem dX8_sheetsMade_0 : decode cX8_sheetsMade 0 = .ok (.iconst 0, 1) := by decide +kernel
theorem dX8_sheetsMade_1 : decode cX8_sheetsMade 1 = .ok (.istore_n 1, 1) := by decide +kernel
theorem dX8_sheetsMade_12 : decode cX8_sheetsMade 12 = .ok (.if_icmp .ge 26, 3) := by decide +kernel
theorem dX8_sheetsMade_2 : decode cX8_sheetsMade 2 = .ok (.iconst 0, 1) := by decide +kernel
theorem dX8_sheetsMade_3 : decode cX8_sheetsMade 3 = .ok (.istore_n 2, 1) := by decide +kernel
theorem dX8_sheetsMade_38 : decode cX8_sheetsMade 38 = .ok (.iload_n 1, 1) := by decide +kernel
theorem dX8_sheetsMade_39 : decode cX8_sheetsMade 39 = .ok (.ireturn, 1) := by decide +kernel
theorem dX8_sheetsMade_4 : decode cX8_sheetsMade 4 = .ok (.iload_n 2, 1) := by decide +kernel
theorem dX8_sheetsMade_5 : decode cX8_sheetsMade 5 = .ok (.aload_n 0, 1) := by decide +kernel
theorem dX8_sheetsMade_6 : decode cX8_sheetsMade 6 = .ok (.getfield 16, 3) := by decide +kernel
theorem dX8_sheetsMade_9 : decode cX8_sheetsMade 9 = .ok (.invokevirtual 57, 3) := by decide +kernel
theorem dX8_unmerge_0 : decode cX8_unmerge 0 = .ok (.aload_n 0, 1) := by decide +kernel
theorem dX8_unmerge_1 : decode cX8_unmerge 1 = .ok (.getfield 31, 3) := by decide +kernel
theorem dX8_unmerge_10 : decode cX8_unmerge 10 = .ok (.new 148, 3) := by decide +kernel
theorem dX8_unmerge_13 : decode cX8_unmerge 13 = .ok (.dup, 1) := by decide +kernel
theorem dX8_unmerge_14 : decode cX8_unmerge 14 = .ok (.ldc_w 308, 3) := by decide +kernel
theorem dX8_unmerge_17 : decode cX8_unmerge 17 = .ok (.invokespecial 152, 3) := by decide +kernel
theorem dX8_unmerge_20 : decode cX8_unmerge 20 = .ok (.athrow, 1) := by decide +kernel
theorem dX8_unmerge_4 : decode cX8_unmerge 4 = .ok (.getfield 305, 3) := by decide +kernel
theorem dX8_unmerge_7 : decode cX8_unmerge 7 = .ok (.ifCond .ne 14, 3) := by decide +kernel
theorem dX8_usedShare_0 : decode cX8_usedShare 0 = .ok (.aload_n 0, 1) := by decide +kernel
theorem dX8_usedShare_1 : decode cX8_usedShare 1 = .ok (.invokevirtual 358, 3) := by decide +kernel
theorem dX8_usedShare_12 : decode cX8_usedShare 12 = .ok (.dup, 1) := by decide +kernel
theorem dX8_usedShare_13 : decode cX8_usedShare 13 = .ok (.ldc_w 363, 3) := by decide +kernel
theorem dX8_usedShare_16 : decode cX8_usedShare 16 = .ok (.invokespecial 365, 3) := by decide +kernel
theorem dX8_usedShare_19 : decode cX8_usedShare 19 = .ok (.athrow, 1) := by decide +kernel
theorem dX8_usedShare_4 : decode cX8_usedShare 4 = .ok (.istore_n 1, 1) := by decide +kernel
theorem dX8_usedShare_5 : decode cX8_usedShare 5 = .ok (.iload_n 1, 1) := by decide +kernel
theorem dX8_usedShare_6 : decode cX8_usedShare 6 = .ok (.ifCond .ne 14, 3) := by decide +kernel
theorem dX8_usedShare_9 : decode cX8_usedShare 9 = .ok (.new 361, 3) := by decide +kernel
theorem dX8_years_0 : decode cX8_years 0 = .ok (.aload_n 0, 1) := by decide +kernel
theorem dX8_years_1 : decode cX8_years 1 = .ok (.iconst (-1), 1) := by decide +kernel
theorem dX8_years_10 : decode cX8_years 10 = .ok (.aload_n 0, 1) := by decide +kernel
theorem dX8_years_11 : decode cX8_years 11 = .ok (.getfield 22, 3) := by decide +kernel
theorem dX8_years_14 : decode cX8_years 14 = .ok (.invokevirtual 57, 3) := by decide +kernel
theorem dX8_years_17 : decode cX8_years 17 = .ok (.if_icmp .ge 44, 3) := by decide +kernel
theorem dX8_years_2 : decode cX8_years 2 = .ok (.invokevirtual 345, 3) := by decide +kernel
theorem dX8_years_5 : decode cX8_years 5 = .ok (.lconst 0, 1) := by decide +kernel
theorem dX8_years_6 : decode cX8_years 6 = .ok (.lstore_n 1, 1) := by decide +kernel
theorem dX8_years_61 : decode cX8_years 61 = .ok (.lload_n 1, 1) := by decide +kernel
theorem dX8_years_62 : decode cX8_years 62 = .ok (.lreturn, 1) := by decide +kernel
theorem dX8_years_7 : decode cX8_years 7 = .ok (.iconst 0, 1) := by decide +kernel
theorem dX8_years_8 : decode cX8_years 8 = .ok (.istore_n 3, 1) := by decide +kernel
theorem dX8_years_9 : decode cX8_years 9 = .ok (.iload_n 3, 1) := by decide +kernel
abbrev wz_X8_checkRoom : List Cond := .code yX8_checkRoom cX8_checkRoom 2 none :: lw_good
set_option maxHeartbeats 4000000 in
set_option maxRecDepth 100000 in
/-- checkRoom -/
theorem k_X8_checkRoom (l : Launch) (hfl : l.stackTraces = false) (G : va_G) (z : Nat) (p0 : Int32) (p1 : Int32) (sz : Nat)  : vx_Met l yX8_checkRoom wz_X8_checkRoom ({ frames := 6, cells := 1, slots := 6, locals := 82 }) (va_Pc [.int p0, .int p1] (PR G z [] [] sz)) (va_Qv (fun (_ : Unit) => p0 ≤ p1) (fun (_ : Unit) (_ : State) => True) (zN sz)) (zX (¬ p0 ≤ p1) "java/lang/IllegalStateException" (zN sz)) 1 6 (zN sz) := by
  refine vx_ofW (cc := cX8_checkRoom) (maxL := 2) (ret := none) (by decide) rfl ?_
  intro p e s m args below meth c s₁ B hml htab hv
  obtain ⟨rfl, rfl, hP, hK, hG⟩ := hv
  have hx := B.exec
  have hb := B.bytes
  have hr := B.returns
  have hts := atoms_spec (ws := wz_X8_checkRoom) B.pre
  have hg : ∀ w ∈ lw_good, w.before _ s = true := fun w h => hts w (List.mem_cons_of_mem _ h)
  have hown : s.vm.findClass RX8 = some m.cls := findClass_of_methodNamed B.named
  have hlocks := B.notSynchronized
  have hA : ∀ q : Nat, s.heap.size ≤ q → zN s.heap.size q := fun _ h => h
  have hS : va_S (zN s.heap.size) s.heap s.heap [] := va_S.rf
  have hl := lv_entry ([.int p0, .int p1]) (n := 2) (Nat.le_of_ble_eq_true rfl)
  rw [lg_entry_eq]
  generalize (lg_sl ([.int p0, .int p1]) ++ List.replicate (2 - (lg_sl ([.int p0, .int p1])).length) Slot.unset).toArray = ls at hl ⊢
  have hl : lv_has ls 2 [(0, .int p0), (1, .int p1)] := hl
  refine lv_iload_n hx hb dX8_checkRoom_0 rfl (lv_at hl 0 rfl) ?_
  refine lv_iload_n hx hb dX8_checkRoom_1 rfl (lv_at hl 1 rfl) ?_
  refine lv_icmp_le (tgt := 16) hx hb dX8_checkRoom_2 (by decide) (fun c_1 => ?_) (fun c_1 => ?_)
  · refine W.widen (k := 1) (n := 6) (Nat.le_of_ble_eq_true rfl) (Nat.le_of_ble_eq_true rfl) ?_
    refine vx_ret ?_
    exact W.vret hx hb hr (fun t ht hW => ⟨⟨(), rfl, c_1, trivial⟩, hS.F ht⟩) hS.2.2 dX8_checkRoom_16
  · obtain ⟨sa9, hsa9⟩ := hG.2.2.2.2.2.1 _ _ _ qstr395
    exact vx_throwSW (names := zNm) hx hb hfl hown (by decide +kernel) (by decide +kernel) (hg _ q386) (hg _ q12) hsa9 (zat_at zat_X8_406 hg hG.2.2.2.2.1) zgo_X8_406_402 hG.1 hG.2.1 hS (by rw [hml]; exact hl.1) dX8_checkRoom_5 dX8_checkRoom_8 dX8_checkRoom_9 dX8_checkRoom_12 dX8_checkRoom_15 (fun x9 h9 => (htab x9 h9).elim) (Nat.le_of_ble_eq_true rfl) (Nat.le_of_ble_eq_true rfl) (Nat.le_of_ble_eq_true rfl) (Nat.le_of_ble_eq_true rfl) hlocks (fun t9 _ h1 h2 => zX.grown c_1 hS h1 h2) hS.2.2 (Nat.le_of_ble_eq_true rfl) (Nat.le_of_ble_eq_true rfl)

abbrev wz_X8_setTolerance : List Cond := .code yX8_setTolerance cX8_setTolerance 3 (Option.some Jvm.ClassFile.FieldType.int) :: lw_good
set_option maxHeartbeats 4000000 in
set_option maxRecDepth 100000 in
/-- setTolerance -/
theorem k_X8_setTolerance (l : Launch) (hfl : l.stackTraces = false) (G : va_G) (z : Nat) (h0 : Nat) (a1 : Nat) (a2 : Nat) (a3 : Nat) (a4 : Nat) (a5 : Nat) (a6 : Nat) (a7 : Nat) (a8 : Nat) (tol : Int32) (sal : Int32) (p0 : Int32) (sz : Nat)  : vx_Met l yX8_setTolerance wz_X8_setTolerance ({ frames := 7, cells := 1, slots := 6, locals := 104 }) (va_Pc [.ref h0, .int p0] (PW G z [(h0, .inr (12, [.ref a1, .ref a2, .ref a3, .ref a4, .ref a5, .ref a6, .ref a7, .ref a8, .int tol, .int sal]))] [] sz)) (va_Qi (fun (r : Int32) (_ : Unit) => r = tol ∧ (0 ≤ p0 ∧ p0 ≤ 50)) (fun (_ : Unit) (t : State) => QW G [] [] (va_A [(h0, .inr (12, [.ref a1, .ref a2, .ref a3, .ref a4, .ref a5, .ref a6, .ref a7, .ref a8, .int tol, .int sal]))] sz) t) (va_A [(h0, .inr (12, [.ref a1, .ref a2, .ref a3, .ref a4, .ref a5, .ref a6, .ref a7, .ref a8, .int tol, .int sal]))] sz)) (zX (¬ (0 ≤ p0 ∧ p0 ≤ 50)) "java/lang/IllegalArgumentException" (va_A [(h0, .inr (12, [.ref a1, .ref a2, .ref a3, .ref a4, .ref a5, .ref a6, .ref a7, .ref a8, .int tol, .int sal]))] sz)) 1 6 (va_A [(h0, .inr (12, [.ref a1, .ref a2, .ref a3, .ref a4, .ref a5, .ref a6, .ref a7, .ref a8, .int tol, .int sal]))] sz) := by
  refine vx_ofW (cc := cX8_setTolerance) (maxL := 3) (ret := (Option.some Jvm.ClassFile.FieldType.int)) (by decide) rfl ?_
  intro p e s m args below meth c s₁ B hml htab hv
  obtain ⟨rfl, rfl, hP, hK, hD0, hG⟩ := hv
  have hx := B.exec
  have hb := B.bytes
  have hr := B.returns
  have hts := atoms_spec (ws := wz_X8_setTolerance) B.pre
  have hg : ∀ w ∈ lw_good, w.before _ s = true := fun w h => hts w (List.mem_cons_of_mem _ h)
  have hown : s.vm.findClass RX8 = some m.cls := findClass_of_methodNamed B.named
  have hlocks := B.notSynchronized
  have hD := hD0.self (sz := s.heap.size)
  generalize hAe : va_A [(h0, .inr (12, [.ref a1, .ref a2, .ref a3, .ref a4, .ref a5, .ref a6, .ref a7, .ref a8, .int tol, .int sal]))] s.heap.size = A at hD hG ⊢
  have hA : ∀ q : Nat, s.heap.size ≤ q → A q := fun q h => by rw [← hAe]; exact Or.inr h
  have hS : va_S A s.heap s.heap [] := va_S.rf
  have hl := lv_entry ([.ref h0, .int p0]) (n := 3) (Nat.le_of_ble_eq_true rfl)
  rw [lg_entry_eq]
  generalize (lg_sl ([.ref h0, .int p0]) ++ List.replicate (3 - (lg_sl ([.ref h0, .int p0])).length) Slot.unset).toArray = ls at hl ⊢
  have hl : lv_has ls 3 [(0, .ref h0), (1, .int p0)] := hl
  refine lv_iload_n hx hb dX8_setTolerance_0 rfl (lv_at hl 1 rfl) ?_
  refine lv_iconst (v := 0) hx hb dX8_setTolerance_1 (by decide) ?_
  refine lv_bipush (v := 50) hx hb dX8_setTolerance_2 (by decide) ?_
  have hPc := hP.sub (ws' := []) [] rfl
  have hKc := hK.sub (tys' := []) [] rfl
  refine vx_callv (vx_runS (As := [.int p0, .int 0, .int 50]) (rest := []) ⟨hx, hb, hml, hown, hts⟩ (k_X8_checkRange l hfl G z p0 0 50 s.heap.size ) (va_cwS 3 hts (lw_goodApp (lw_3 q308 q309 q1) q310) rfl rfl rfl (by decide +kernel) ⟨Nat.le_of_ble_eq_true rfl, Nat.le_of_ble_eq_true rfl⟩) ⟨PR.blind, PR.of hPc hKc hG hS hA [.int p0, .int 0, .int 50]⟩ rfl rfl hl.1 rfl (lv_room (Nat.le_of_ble_eq_true rfl)) dX8_setTolerance_4 ⟨Nat.le_of_ble_eq_true rfl, Nat.le_of_ble_eq_true rfl⟩) hS (fun q h9 h => zN.not h9 h) (fun q h => hA q (Nat.le_trans hS.1 h)) (fun q h9 h => zN.not h9 h) (fun E ce q9 ux t_4 H_1 locs ht hvm px_5 hE hz1 hk1 hS hq9 hv9 hcl9 => ?_) (fun u t_4 H_1 locs ht hvm hw_3 hB hz1 hk1 hS => ?_)
  · exact vx_out (fun x9 h9 => (htab x9 h9).elim) hlocks hq9 hv9 hcl9 (fun t2 ht2 hal2 => zX.same px_5 hE hS ht2) hS.2.2 (Nat.le_of_ble_eq_true rfl) (Nat.le_of_ble_eq_true rfl)
  have hP := hP.grown hk1
  refine W.widen (k := 1) (n := 6) (Nat.le_of_ble_eq_true rfl) (Nat.le_of_ble_eq_true rfl) ?_
  refine lv_aload_n hx hb dX8_setTolerance_7 rfl (lv_at hl 0 rfl) ?_
  refine va_get (D := G) (ci := 12) (v := .int tol) (C := RX8) (T := TX8) (N := 10) hx hb hg in_X8 hown hK hP 0 rfl rfl 8 (by decide) (hg _ q133) (fun _ h9 => h9) rfl dX8_setTolerance_8 ?_
  refine lv_istore_n (lv' := [(2, .int tol), (0, .ref h0), (1, .int p0)]) hx hb dX8_setTolerance_11 rfl hl (by decide) rfl (fun ls hl => ?_)
  refine lv_aload_n hx hb dX8_setTolerance_12 rfl (lv_at hl 1 rfl) ?_
  refine lv_iload_n hx hb dX8_setTolerance_13 rfl (lv_at hl 2 rfl) ?_
  refine va_put (D := G) (ci := 12) (v := .int p0) (ty := .int) (C := RX8) (T := TX8) (N := 10) hx hb hg in_X8 tyX8 tyX8_ok nmX8 hown hK hP hD hS 0 rfl rfl 8 (by decide) (hg _ q133) (fun _ h9 => h9) rfl (by decide +kernel) rfl rfl (Nat.le_of_ble_eq_true rfl) dX8_setTolerance_14 (fun H_6 locs hP hD hS => ?_)
  have hP : va_P G vwCl ([(h0, .inr (12, [.ref a1, .ref a2, .ref a3, .ref a4, .ref a5, .ref a6, .ref a7, .ref a8, .int p0, .int sal]))]) H_6 := hP
  have hD : va_D A ([(h0, .inr (12, [.ref a1, .ref a2, .ref a3, .ref a4, .ref a5, .ref a6, .ref a7, .ref a8, .int p0, .int sal]))]) := hD
  refine lv_iload_n hx hb dX8_setTolerance_17 rfl (lv_at hl 0 rfl) ?_
  refine W.widen (k := 1) (n := 6) (Nat.le_of_ble_eq_true rfl) (Nat.le_of_ble_eq_true rfl) ?_
  refine vx_ret ?_
  have hP9 := hP.sub (ws' := []) [] rfl
  have hD9 := hD.sub (ws' := []) [] (by decide) rfl
  have hK9 := hK.sub (tys' := []) [] rfl
  exact W.iret (v := tol) hx hb hr (fun t ht hW => ⟨⟨tol, (), rfl, ⟨rfl, hw_3⟩, QW.of hP9 hK9 hD9 ht hW.alike⟩, hS.F ht⟩) hS.2.2 dX8_setTolerance_18

abbrev wz_X8_setAge : List Cond := .code yX8_setAge cX8_setAge 3 (Option.some Jvm.ClassFile.FieldType.int) :: lw_good
set_option maxHeartbeats 4000000 in
set_option maxRecDepth 100000 in
/-- setAge -/
theorem k_X8_setAge (l : Launch) (hfl : l.stackTraces = false) (G : va_G) (z : Nat) (h0 : Nat) (a1 : Nat) (a2 : Nat) (a3 : Nat) (a4 : Nat) (a5 : Nat) (a6 : Nat) (a7 : Nat) (a8 : Nat) (tol : Int32) (sal : Int32) (d1 : Nat) (d2 : Nat) (d3 : Nat) (d4 : Nat) (ag : Int32) (p0 : Int32) (sz : Nat)  : vx_Met l yX8_setAge wz_X8_setAge ({ frames := 7, cells := 1, slots := 6, locals := 104 }) (va_Pc [.ref h0, .int p0] (PW G z [(h0, .inr (12, [.ref a1, .ref a2, .ref a3, .ref a4, .ref a5, .ref a6, .ref a7, .ref a8, .int tol, .int sal])), (a7, .inr (4, [.ref d1, .ref d2, .ref d3, .ref d4, .int 0, .int ag]))] [] sz)) (va_Qi (fun (r : Int32) (_ : Unit) => r = ag ∧ (0 ≤ p0 ∧ p0 ≤ 100)) (fun (_ : Unit) (t : State) => QW G [] [] (va_A [(h0, .inr (12, [.ref a1, .ref a2, .ref a3, .ref a4, .ref a5, .ref a6, .ref a7, .ref a8, .int tol, .int sal])), (a7, .inr (4, [.ref d1, .ref d2, .ref d3, .ref d4, .int 0, .int ag]))] sz) t) (va_A [(h0, .inr (12, [.ref a1, .ref a2, .ref a3, .ref a4, .ref a5, .ref a6, .ref a7, .ref a8, .int tol, .int sal])), (a7, .inr (4, [.ref d1, .ref d2, .ref d3, .ref d4, .int 0, .int ag]))] sz)) (zX (¬ (0 ≤ p0 ∧ p0 ≤ 100)) "java/lang/IllegalArgumentException" (va_A [(h0, .inr (12, [.ref a1, .ref a2, .ref a3, .ref a4, .ref a5, .ref a6, .ref a7, .ref a8, .int tol, .int sal])), (a7, .inr (4, [.ref d1, .ref d2, .ref d3, .ref d4, .int 0, .int ag]))] sz)) 1 6 (va_A [(h0, .inr (12, [.ref a1, .ref a2, .ref a3, .ref a4, .ref a5, .ref a6, .ref a7, .ref a8, .int tol, .int sal])), (a7, .inr (4, [.ref d1, .ref d2, .ref d3, .ref d4, .int 0, .int ag]))] sz) := by
  refine vx_ofW (cc := cX8_setAge) (maxL := 3) (ret := (Option.some Jvm.ClassFile.FieldType.int)) (by decide) rfl ?_
  intro p e s m args below meth c s₁ B hml htab hv
  obtain ⟨rfl, rfl, hP, hK, hD0, hG⟩ := hv
  have hx := B.exec
  have hb := B.bytes
  have hr := B.returns
  have hts := atoms_spec (ws := wz_X8_setAge) B.pre
  have hg : ∀ w ∈ lw_good, w.before _ s = true := fun w h => hts w (List.mem_cons_of_mem _ h)
  have hown : s.vm.findClass RX8 = some m.cls := findClass_of_methodNamed B.named
  have hlocks := B.notSynchronized
  have hD := hD0.self (sz := s.heap.size)
  generalize hAe : va_A [(h0, .inr (12, [.ref a1, .ref a2, .ref a3, .ref a4, .ref a5, .ref a6, .ref a7, .ref a8, .int tol, .int sal])), (a7, .inr (4, [.ref d1, .ref d2, .ref d3, .ref d4, .int 0, .int ag]))] s.heap.size = A at hD hG ⊢
  have hA : ∀ q : Nat, s.heap.size ≤ q → A q := fun q h => by rw [← hAe]; exact Or.inr h
  have hS : va_S A s.heap s.heap [] := va_S.rf
  have hl := lv_entry ([.ref h0, .int p0]) (n := 3) (Nat.le_of_ble_eq_true rfl)
  rw [lg_entry_eq]
  generalize (lg_sl ([.ref h0, .int p0]) ++ List.replicate (3 - (lg_sl ([.ref h0, .int p0])).length) Slot.unset).toArray = ls at hl ⊢
  have hl : lv_has ls 3 [(0, .ref h0), (1, .int p0)] := hl
  refine lv_iload_n hx hb dX8_setAge_0 rfl (lv_at hl 1 rfl) ?_
  refine lv_iconst (v := 0) hx hb dX8_setAge_1 (by decide) ?_
  refine lv_bipush (v := 100) hx hb dX8_setAge_2 (by decide) ?_
  have hPc := hP.sub (ws' := []) [] rfl
  have hKc := hK.sub (tys' := []) [] rfl
  refine vx_callv (vx_runS (As := [.int p0, .int 0, .int 100]) (rest := []) ⟨hx, hb, hml, hown, hts⟩ (k_X8_checkRange l hfl G z p0 0 100 s.heap.size ) (va_cwS 3 hts (lw_goodApp (lw_3 q308 q309 q1) q310) rfl rfl rfl (by decide +kernel) ⟨Nat.le_of_ble_eq_true rfl, Nat.le_of_ble_eq_true rfl⟩) ⟨PR.blind, PR.of hPc hKc hG hS hA [.int p0, .int 0, .int 100]⟩ rfl rfl hl.1 rfl (lv_room (Nat.le_of_ble_eq_true rfl)) dX8_setAge_4 ⟨Nat.le_of_ble_eq_true rfl, Nat.le_of_ble_eq_true rfl⟩) hS (fun q h9 h => zN.not h9 h) (fun q h => hA q (Nat.le_trans hS.1 h)) (fun q h9 h => zN.not h9 h) (fun E ce q9 ux t_4 H_1 locs ht hvm px_5 hE hz1 hk1 hS hq9 hv9 hcl9 => ?_) (fun u t_4 H_1 locs ht hvm hw_3 hB hz1 hk1 hS => ?_)
  · exact vx_out (fun x9 h9 => (htab x9 h9).elim) hlocks hq9 hv9 hcl9 (fun t2 ht2 hal2 => zX.same px_5 hE hS ht2) hS.2.2 (Nat.le_of_ble_eq_true rfl) (Nat.le_of_ble_eq_true rfl)
  have hP := hP.grown hk1
  refine W.widen (k := 1) (n := 6) (Nat.le_of_ble_eq_true rfl) (Nat.le_of_ble_eq_true rfl) ?_
  refine lv_aload_n hx hb dX8_setAge_7 rfl (lv_at hl 0 rfl) ?_
  refine va_get (D := G) (ci := 12) (v := .ref a7) (C := RX8) (T := TX8) (N := 10) hx hb hg in_X8 hown hK hP 0 rfl rfl 6 (by decide) (hg _ q131) (fun _ h9 => h9) rfl dX8_setAge_8 ?_
  refine va_get (D := G) (ci := 4) (v := .int ag) (C := RX0) (T := TX0) (N := 6) hx hb hg in_X0 hown hK hP 1 rfl rfl 5 (by decide) (hg _ q111) (fun _ h9 => h9) rfl dX8_setAge_11 ?_
  refine lv_istore_n (lv' := [(2, .int ag), (0, .ref h0), (1, .int p0)]) hx hb dX8_setAge_14 rfl hl (by decide) rfl (fun ls hl => ?_)
  refine lv_aload_n hx hb dX8_setAge_15 rfl (lv_at hl 1 rfl) ?_
  refine va_get (D := G) (ci := 12) (v := .ref a7) (C := RX8) (T := TX8) (N := 10) hx hb hg in_X8 hown hK hP 0 rfl rfl 6 (by decide) (hg _ q131) (fun _ h9 => h9) rfl dX8_setAge_16 ?_
  refine lv_iload_n hx hb dX8_setAge_19 rfl (lv_at hl 2 rfl) ?_
  refine va_put (D := G) (ci := 4) (v := .int p0) (ty := .int) (C := RX0) (T := TX0) (N := 6) hx hb hg in_X0 tyX0 tyX0_ok nmX0 hown hK hP hD hS 1 rfl rfl 5 (by decide) (hg _ q111) (fun _ h9 => h9) rfl (by decide +kernel) rfl rfl (Nat.le_of_ble_eq_true rfl) dX8_setAge_20 (fun H_6 locs hP hD hS => ?_)
  have hP : va_P G vwCl ([(h0, .inr (12, [.ref a1, .ref a2, .ref a3, .ref a4, .ref a5, .ref a6, .ref a7, .ref a8, .int tol, .int sal])), (a7, .inr (4, [.ref d1, .ref d2, .ref d3, .ref d4, .int 0, .int p0]))]) H_6 := hP
  have hD : va_D A ([(h0, .inr (12, [.ref a1, .ref a2, .ref a3, .ref a4, .ref a5, .ref a6, .ref a7, .ref a8, .int tol, .int sal])), (a7, .inr (4, [.ref d1, .ref d2, .ref d3, .ref d4, .int 0, .int p0]))]) := hD
  refine lv_iload_n hx hb dX8_setAge_23 rfl (lv_at hl 0 rfl) ?_
  refine W.widen (k := 1) (n := 6) (Nat.le_of_ble_eq_true rfl) (Nat.le_of_ble_eq_true rfl) ?_
  refine vx_ret ?_
  have hP9 := hP.sub (ws' := []) [] rfl
  have hD9 := hD.sub (ws' := []) [] (by decide) rfl
  have hK9 := hK.sub (tys' := []) [] rfl
  exact W.iret (v := ag) hx hb hr (fun t ht hW => ⟨⟨ag, (), rfl, ⟨rfl, hw_3⟩, QW.of hP9 hK9 hD9 ht hW.alike⟩, hS.F ht⟩) hS.2.2 dX8_setAge_24

abbrev wz_X8_groups : List Cond := .code yX8_groups cX8_groups 4 (Option.some Jvm.ClassFile.FieldType.int) :: lw_good
set_option maxHeartbeats 4000000 in
set_option maxRecDepth 100000 in
/-- groups of no images -/
theorem k_X8_groups (l : Launch) (G : va_G) (z : Nat) (h0 : Nat) (a1 : Nat) (a2 : Nat) (a3 : Nat) (a4 : Nat) (a5 : Nat) (a6 : Nat) (a7 : Nat) (a8 : Nat) (tol : Int32) (sal : Int32) (c0 : Int32) (e0 : Nat) (sz : Nat)  : Met l yX8_groups wz_X8_groups ({ frames := 1, cells := 0, slots := 0, locals := 20 }) (va_Pc [.ref h0] (PR G z [(h0, .inr (12, [.ref a1, .ref a2, .ref a3, .ref a4, .ref a5, .ref a6, .ref a7, .ref a8, .int tol, .int sal])), (a5, .inr (3, [.int c0, .ref e0, .int 0]))] [] sz)) (va_Qi (fun (r : Int32) (_ : Unit) => r = 0) (fun (_ : Unit) (_ : State) => True) (zN sz)) 0 0 (zN sz) := by
  refine Met.ofW (cc := cX8_groups) (maxL := 4) (ret := (Option.some Jvm.ClassFile.FieldType.int)) (by decide) rfl ?_
  intro p e s m args below meth c s₁ B hml hv
  obtain ⟨rfl, rfl, hP, hK, hG⟩ := hv
  have hx := B.exec
  have hb := B.bytes
  have hr := B.returns
  have hts := atoms_spec (ws := wz_X8_groups) B.pre
  have hg : ∀ w ∈ lw_good, w.before _ s = true := fun w h => hts w (List.mem_cons_of_mem _ h)
  have hown : s.vm.findClass RX8 = some m.cls := findClass_of_methodNamed B.named
  have hlocks := B.notSynchronized
  have hA : ∀ q : Nat, s.heap.size ≤ q → zN s.heap.size q := fun _ h => h
  have hS : va_S (zN s.heap.size) s.heap s.heap [] := va_S.rf
  have hl := lv_entry ([.ref h0]) (n := 4) (Nat.le_of_ble_eq_true rfl)
  rw [lg_entry_eq]
  generalize (lg_sl ([.ref h0]) ++ List.replicate (4 - (lg_sl ([.ref h0])).length) Slot.unset).toArray = ls at hl ⊢
  have hl : lv_has ls 4 [(0, .ref h0)] := hl
  refine lv_aload_n hx hb dX8_groups_0 rfl (lv_at hl 0 rfl) ?_
  refine va_get (D := G) (ci := 12) (v := .ref a5) (C := RX8) (T := TX8) (N := 10) hx hb hg in_X8 hown hK hP 0 rfl rfl 4 (by decide) (hg _ q129) (fun _ h9 => h9) rfl dX8_groups_1 ?_
  have hPc := hP.sub (ws' := [(a5, .inr (3, [.int c0, .ref e0, .int 0]))]) [1] rfl
  have hKc := hK.sub (tys' := []) [] rfl
  refine va_calli (va_runV (As := []) (rest := []) ⟨hx, hb, hml, hown, hts⟩ (k_Jx4a65c_size_8abf5 l G z a5 c0 e0 0 s.heap.size ) (cwV 0 hts (lw_goodApp (lw_4 q160 q161 q162 q4) q163) rfl rfl rfl (by decide +kernel) ⟨Nat.le_of_ble_eq_true rfl, Nat.le_of_ble_eq_true rfl⟩) ⟨PR.blind, va_recv hK hP (ci := 3) (q0 := 1) rfl rfl, PR.of hPc hKc hG hS hA [.ref a5]⟩ rfl rfl hl.1 rfl (lv_room (Nat.le_of_ble_eq_true rfl)) dX8_groups_4 ⟨Nat.le_of_ble_eq_true rfl, Nat.le_of_ble_eq_true rfl⟩) hS (fun q h9 h => zN.not h9 h) (fun q h => hA q (Nat.le_trans hS.1 h)) (fun r_2 u t_4 H_1 locs ht hvm hw_3 hB hz1 hk1 hS => ?_)
  have hP := hP.grown hk1
  refine W.widen (k := 0) (n := 0) (Nat.le_of_ble_eq_true rfl) (Nat.le_of_ble_eq_true rfl) ?_
  obtain rfl : 0 = r_2 := hw_3.symm
  refine lv_istore_n (lv' := [(1, .int 0), (0, .ref h0)]) hx hb dX8_groups_7 rfl hl (by decide) rfl (fun ls hl => ?_)
  refine lv_iconst (v := 0) hx hb dX8_groups_8 (by decide) ?_
  refine lv_istore_n (lv' := [(2, .int 0), (1, .int 0), (0, .ref h0)]) hx hb dX8_groups_9 rfl hl (by decide) rfl (fun ls hl => ?_)
  refine lv_iload_n hx hb dX8_groups_10 rfl (lv_at hl 0 rfl) ?_
  refine lv_aload_n hx hb dX8_groups_11 rfl (lv_at hl 2 rfl) ?_
  refine va_get (D := G) (ci := 12) (v := .ref a5) (C := RX8) (T := TX8) (N := 10) hx hb hg in_X8 hown hK hP 0 rfl rfl 4 (by decide) (hg _ q129) (fun _ h9 => h9) rfl dX8_groups_12 ?_
  have hPc := hP.sub (ws' := [(a5, .inr (3, [.int c0, .ref e0, .int 0]))]) [1] rfl
  have hKc := hK.sub (tys' := []) [] rfl
  refine va_calli (va_runV (As := []) (rest := [.int 0]) ⟨hx, hb, hml, hown, hts⟩ (k_Jx4a65c_size_8abf5 l G z a5 c0 e0 0 H_1.size ) (cwV 0 hts (lw_goodApp (lw_4 q160 q161 q162 q4) q163) rfl rfl rfl (by decide +kernel) ⟨Nat.le_of_ble_eq_true rfl, Nat.le_of_ble_eq_true rfl⟩) ⟨PR.blind, va_recv hK hP (ci := 3) (q0 := 1) rfl rfl, PR.of hPc hKc hG hS hA [.ref a5]⟩ rfl rfl hl.1 rfl (lv_room (Nat.le_of_ble_eq_true rfl)) dX8_groups_15 ⟨Nat.le_of_ble_eq_true rfl, Nat.le_of_ble_eq_true rfl⟩) hS (fun q h9 h => zN.not h9 h) (fun q h => hA q (Nat.le_trans hS.1 h)) (fun r_6 u t_8 H_5 locs ht hvm hw_7 hB hz1 hk1 hS => ?_)
  have hP := hP.grown hk1
  refine W.widen (k := 0) (n := 0) (Nat.le_of_ble_eq_true rfl) (Nat.le_of_ble_eq_true rfl) ?_
  obtain rfl : 0 = r_6 := hw_7.symm
  refine lv_icmp_ge (tgt := 34) hx hb dX8_groups_18 (by decide) (fun c_9 => ?_) (fun c_9 => absurd (by decide) c_9)
  refine lv_iconst (v := 0) hx hb dX8_groups_34 (by decide) ?_
  refine lv_istore_n (lv' := [(2, .int 0), (1, .int 0), (0, .ref h0)]) hx hb dX8_groups_35 rfl hl (by decide) rfl (fun ls hl => ?_)
  refine lv_iload_n hx hb dX8_groups_36 rfl (lv_at hl 0 rfl) ?_
  refine lv_aload_n hx hb dX8_groups_37 rfl (lv_at hl 2 rfl) ?_
  refine va_get (D := G) (ci := 12) (v := .ref a5) (C := RX8) (T := TX8) (N := 10) hx hb hg in_X8 hown hK hP 0 rfl rfl 4 (by decide) (hg _ q129) (fun _ h9 => h9) rfl dX8_groups_38 ?_
  have hPc := hP.sub (ws' := [(a5, .inr (3, [.int c0, .ref e0, .int 0]))]) [1] rfl
  have hKc := hK.sub (tys' := []) [] rfl
  refine va_calli (va_runV (As := []) (rest := [.int 0]) ⟨hx, hb, hml, hown, hts⟩ (k_Jx4a65c_size_8abf5 l G z a5 c0 e0 0 H_5.size ) (cwV 0 hts (lw_goodApp (lw_4 q160 q161 q162 q4) q163) rfl rfl rfl (by decide +kernel) ⟨Nat.le_of_ble_eq_true rfl, Nat.le_of_ble_eq_true rfl⟩) ⟨PR.blind, va_recv hK hP (ci := 3) (q0 := 1) rfl rfl, PR.of hPc hKc hG hS hA [.ref a5]⟩ rfl rfl hl.1 rfl (lv_room (Nat.le_of_ble_eq_true rfl)) dX8_groups_41 ⟨Nat.le_of_ble_eq_true rfl, Nat.le_of_ble_eq_true rfl⟩) hS (fun q h9 h => zN.not h9 h) (fun q h => hA q (Nat.le_trans hS.1 h)) (fun r_11 u t_13 H_10 locs ht hvm hw_12 hB hz1 hk1 hS => ?_)
  have hP := hP.grown hk1
  refine W.widen (k := 0) (n := 0) (Nat.le_of_ble_eq_true rfl) (Nat.le_of_ble_eq_true rfl) ?_
  obtain rfl : 0 = r_11 := hw_12.symm
  refine lv_icmp_ge (tgt := 137) hx hb dX8_groups_44 (by decide) (fun c_14 => ?_) (fun c_14 => absurd (by decide) c_14)
  refine lv_iload_n hx hb dX8_groups_137 rfl (lv_at hl 1 rfl) ?_
  refine W.widen (k := 0) (n := 0) (Nat.le_of_ble_eq_true rfl) (Nat.le_of_ble_eq_true rfl) ?_
  exact W.iret (v := 0) hx hb hr (fun t ht hW => ⟨⟨0, (), rfl, rfl, trivial⟩, hS.F ht⟩) hS.2.2 dX8_groups_138

abbrev wz_X0_fitsWithout : List Cond := .code yX0_fitsWithout cX0_fitsWithout 3 (Option.some Jvm.ClassFile.FieldType.boolean) :: lw_good
set_option maxHeartbeats 4000000 in
set_option maxRecDepth 100000 in
/-- fitsWithout: no documents -/
theorem k_X0_fitsWithout (l : Launch) (G : va_G) (z : Nat) (h0 : Nat) (d1 : Nat) (d2 : Nat) (d3 : Nat) (d4 : Nat) (ag : Int32) (p0 : Int32) (sz : Nat)  : Met l yX0_fitsWithout wz_X0_fitsWithout ({ frames := 0, cells := 0, slots := 0, locals := 0 }) (va_Pc [.ref h0, .int p0] (PR G z [(h0, .inr (4, [.ref d1, .ref d2, .ref d3, .ref d4, .int 0, .int ag]))] [] sz)) (va_Qi (fun (r : Int32) (_ : Unit) => r = 1) (fun (_ : Unit) (_ : State) => True) (zN sz)) 0 0 (zN sz) := by
  refine Met.ofW (cc := cX0_fitsWithout) (maxL := 3) (ret := (Option.some Jvm.ClassFile.FieldType.boolean)) (by decide) rfl ?_
  intro p e s m args below meth c s₁ B hml hv
  obtain ⟨rfl, rfl, hP, hK, hG⟩ := hv
  have hx := B.exec
  have hb := B.bytes
  have hr := B.returns
  have hts := atoms_spec (ws := wz_X0_fitsWithout) B.pre
  have hg : ∀ w ∈ lw_good, w.before _ s = true := fun w h => hts w (List.mem_cons_of_mem _ h)
  have hown : s.vm.findClass RX0 = some m.cls := findClass_of_methodNamed B.named
  have hlocks := B.notSynchronized
  have hA : ∀ q : Nat, s.heap.size ≤ q → zN s.heap.size q := fun _ h => h
  have hS : va_S (zN s.heap.size) s.heap s.heap [] := va_S.rf
  have hl := lv_entry ([.ref h0, .int p0]) (n := 3) (Nat.le_of_ble_eq_true rfl)
  rw [lg_entry_eq]
  generalize (lg_sl ([.ref h0, .int p0]) ++ List.replicate (3 - (lg_sl ([.ref h0, .int p0])).length) Slot.unset).toArray = ls at hl ⊢
  have hl : lv_has ls 3 [(0, .ref h0), (1, .int p0)] := hl
  refine lv_iconst (v := 0) hx hb dX0_fitsWithout_0 (by decide) ?_
  refine lv_istore_n (lv' := [(2, .int 0), (0, .ref h0), (1, .int p0)]) hx hb dX0_fitsWithout_1 rfl hl (by decide) rfl (fun ls hl => ?_)
  refine lv_iload_n hx hb dX0_fitsWithout_2 rfl (lv_at hl 0 rfl) ?_
  refine lv_aload_n hx hb dX0_fitsWithout_3 rfl (lv_at hl 1 rfl) ?_
  refine va_get (D := G) (ci := 4) (v := .int 0) (C := RX0) (T := TX0) (N := 6) hx hb hg in_X0 hown hK hP 0 rfl rfl 4 (by decide) (hg _ q109) (fun _ h9 => h9) rfl dX0_fitsWithout_4 ?_
  refine lv_icmp_ge (tgt := 43) hx hb dX0_fitsWithout_7 (by decide) (fun c_1 => ?_) (fun c_1 => absurd (by decide) c_1)
  refine lv_iconst (v := 1) hx hb dX0_fitsWithout_43 (by decide) ?_
  refine W.widen (k := 0) (n := 0) (Nat.le_of_ble_eq_true rfl) (Nat.le_of_ble_eq_true rfl) ?_
  exact W.zret (v := 1) hx hb hr rfl (fun t ht hW => ⟨⟨1, (), rfl, rfl, trivial⟩, hS.F ht⟩) hS.2.2 dX0_fitsWithout_44

abbrev wz_X8_fits : List Cond := .code yX8_fits cX8_fits 1 (Option.some Jvm.ClassFile.FieldType.boolean) :: lw_good
set_option maxHeartbeats 4000000 in
set_option maxRecDepth 100000 in
/-- fits -/
theorem k_X8_fits (l : Launch) (G : va_G) (z : Nat) (h0 : Nat) (a1 : Nat) (a2 : Nat) (a3 : Nat) (a4 : Nat) (a5 : Nat) (a6 : Nat) (a7 : Nat) (a8 : Nat) (tol : Int32) (sal : Int32) (d1 : Nat) (d2 : Nat) (d3 : Nat) (d4 : Nat) (ag : Int32) (sz : Nat)  : Met l yX8_fits wz_X8_fits ({ frames := 1, cells := 0, slots := 0, locals := 22 }) (va_Pc [.ref h0] (PR G z [(h0, .inr (12, [.ref a1, .ref a2, .ref a3, .ref a4, .ref a5, .ref a6, .ref a7, .ref a8, .int tol, .int sal])), (a7, .inr (4, [.ref d1, .ref d2, .ref d3, .ref d4, .int 0, .int ag]))] [] sz)) (va_Qi (fun (r : Int32) (_ : Unit) => r = 1) (fun (_ : Unit) (_ : State) => True) (zN sz)) 0 0 (zN sz) := by
  refine Met.ofW (cc := cX8_fits) (maxL := 1) (ret := (Option.some Jvm.ClassFile.FieldType.boolean)) (by decide) rfl ?_
  intro p e s m args below meth c s₁ B hml hv
  obtain ⟨rfl, rfl, hP, hK, hG⟩ := hv
  have hx := B.exec
  have hb := B.bytes
  have hr := B.returns
  have hts := atoms_spec (ws := wz_X8_fits) B.pre
  have hg : ∀ w ∈ lw_good, w.before _ s = true := fun w h => hts w (List.mem_cons_of_mem _ h)
  have hown : s.vm.findClass RX8 = some m.cls := findClass_of_methodNamed B.named
  have hlocks := B.notSynchronized
  have hA : ∀ q : Nat, s.heap.size ≤ q → zN s.heap.size q := fun _ h => h
  have hS : va_S (zN s.heap.size) s.heap s.heap [] := va_S.rf
  have hl := lv_entry ([.ref h0]) (n := 1) (Nat.le_of_ble_eq_true rfl)
  rw [lg_entry_eq]
  generalize (lg_sl ([.ref h0]) ++ List.replicate (1 - (lg_sl ([.ref h0])).length) Slot.unset).toArray = ls at hl ⊢
  have hl : lv_has ls 1 [(0, .ref h0)] := hl
  refine lv_aload_n hx hb dX8_fits_0 rfl (lv_at hl 0 rfl) ?_
  refine va_get (D := G) (ci := 12) (v := .ref a7) (C := RX8) (T := TX8) (N := 10) hx hb hg in_X8 hown hK hP 0 rfl rfl 6 (by decide) (hg _ q131) (fun _ h9 => h9) rfl dX8_fits_1 ?_
  refine lv_iconst (v := (-1)) hx hb dX8_fits_4 (by decide) ?_
  have hPc := hP.sub (ws' := [(a7, .inr (4, [.ref d1, .ref d2, .ref d3, .ref d4, .int 0, .int ag]))]) [1] rfl
  have hKc := hK.sub (tys' := []) [] rfl
  refine va_calli (va_runV (As := [.int (-1)]) (rest := []) ⟨hx, hb, hml, hown, hts⟩ (k_X0_fitsWithout l G z a7 d1 d2 d3 d4 ag ((-1)) s.heap.size ) (cwV 1 hts (lw_goodApp (lw_4 q221 q222 q223 q6) q224) rfl rfl rfl (by decide +kernel) ⟨Nat.le_of_ble_eq_true rfl, Nat.le_of_ble_eq_true rfl⟩) ⟨PR.blind, va_recv hK hP (ci := 4) (q0 := 1) rfl rfl, PR.of hPc hKc hG hS hA [.ref a7, .int (-1)]⟩ rfl rfl hl.1 rfl (lv_room (Nat.le_of_ble_eq_true rfl)) dX8_fits_5 ⟨Nat.le_of_ble_eq_true rfl, Nat.le_of_ble_eq_true rfl⟩) hS (fun q h9 h => zN.not h9 h) (fun q h => hA q (Nat.le_trans hS.1 h)) (fun r_2 u t_4 H_1 locs ht hvm hw_3 hB hz1 hk1 hS => ?_)
  have hP := hP.grown hk1
  refine W.widen (k := 0) (n := 0) (Nat.le_of_ble_eq_true rfl) (Nat.le_of_ble_eq_true rfl) ?_
  obtain rfl : 1 = r_2 := hw_3.symm
  refine W.widen (k := 0) (n := 0) (Nat.le_of_ble_eq_true rfl) (Nat.le_of_ble_eq_true rfl) ?_
  exact W.zret (v := 1) hx hb hr rfl (fun t ht hW => ⟨⟨1, (), rfl, rfl, trivial⟩, hS.F ht⟩) hS.2.2 dX8_fits_8

abbrev wz_X8_culprit : List Cond := .code yX8_culprit cX8_culprit 2 (Option.some Jvm.ClassFile.FieldType.int) :: lw_good
set_option maxHeartbeats 4000000 in
set_option maxRecDepth 100000 in
/-- culprit: all fits -/
theorem k_X8_culprit (l : Launch) (hfl : l.stackTraces = false) (G : va_G) (z : Nat) (h0 : Nat) (a1 : Nat) (a2 : Nat) (a3 : Nat) (a4 : Nat) (a5 : Nat) (a6 : Nat) (a7 : Nat) (a8 : Nat) (tol : Int32) (sal : Int32) (d1 : Nat) (d2 : Nat) (d3 : Nat) (d4 : Nat) (ag : Int32) (sz : Nat)  : vx_Met l yX8_culprit wz_X8_culprit ({ frames := 6, cells := 1, slots := 6, locals := 82 }) (va_Pc [.ref h0] (PR G z [(h0, .inr (12, [.ref a1, .ref a2, .ref a3, .ref a4, .ref a5, .ref a6, .ref a7, .ref a8, .int tol, .int sal])), (a7, .inr (4, [.ref d1, .ref d2, .ref d3, .ref d4, .int 0, .int ag]))] [] sz)) (va_Qi (fun (r : Int32) (_ : Unit) => False) (fun (_ : Unit) (_ : State) => True) (zN sz)) (zX (True) "java/lang/UnsupportedOperationException" (zN sz)) 1 6 (zN sz) := by
  refine vx_ofW (cc := cX8_culprit) (maxL := 2) (ret := (Option.some Jvm.ClassFile.FieldType.int)) (by decide) rfl ?_
  intro p e s m args below meth c s₁ B hml htab hv
  obtain ⟨rfl, rfl, hP, hK, hG⟩ := hv
  have hx := B.exec
  have hb := B.bytes
  have hr := B.returns
  have hts := atoms_spec (ws := wz_X8_culprit) B.pre
  have hg : ∀ w ∈ lw_good, w.before _ s = true := fun w h => hts w (List.mem_cons_of_mem _ h)
  have hown : s.vm.findClass RX8 = some m.cls := findClass_of_methodNamed B.named
  have hlocks := B.notSynchronized
  have hA : ∀ q : Nat, s.heap.size ≤ q → zN s.heap.size q := fun _ h => h
  have hS : va_S (zN s.heap.size) s.heap s.heap [] := va_S.rf
  have hl := lv_entry ([.ref h0]) (n := 2) (Nat.le_of_ble_eq_true rfl)
  rw [lg_entry_eq]
  generalize (lg_sl ([.ref h0]) ++ List.replicate (2 - (lg_sl ([.ref h0])).length) Slot.unset).toArray = ls at hl ⊢
  have hl : lv_has ls 2 [(0, .ref h0)] := hl
  refine lv_aload_n hx hb dX8_culprit_0 rfl (lv_at hl 0 rfl) ?_
  refine va_get (D := G) (ci := 12) (v := .ref a7) (C := RX8) (T := TX8) (N := 10) hx hb hg in_X8 hown hK hP 0 rfl rfl 6 (by decide) (hg _ q131) (fun _ h9 => h9) rfl dX8_culprit_1 ?_
  refine lv_iconst (v := (-1)) hx hb dX8_culprit_4 (by decide) ?_
  have hPc := hP.sub (ws' := [(a7, .inr (4, [.ref d1, .ref d2, .ref d3, .ref d4, .int 0, .int ag]))]) [1] rfl
  have hKc := hK.sub (tys' := []) [] rfl
  refine va_calli (va_runV (As := [.int (-1)]) (rest := []) ⟨hx, hb, hml, hown, hts⟩ (k_X0_fitsWithout l G z a7 d1 d2 d3 d4 ag ((-1)) s.heap.size ) (cwV 1 hts (lw_goodApp (lw_4 q221 q222 q223 q6) q224) rfl rfl rfl (by decide +kernel) ⟨Nat.le_of_ble_eq_true rfl, Nat.le_of_ble_eq_true rfl⟩) ⟨PR.blind, va_recv hK hP (ci := 4) (q0 := 1) rfl rfl, PR.of hPc hKc hG hS hA [.ref a7, .int (-1)]⟩ rfl rfl hl.1 rfl (lv_room (Nat.le_of_ble_eq_true rfl)) dX8_culprit_5 ⟨Nat.le_of_ble_eq_true rfl, Nat.le_of_ble_eq_true rfl⟩) hS (fun q h9 h => zN.not h9 h) (fun q h => hA q (Nat.le_trans hS.1 h)) (fun r_2 u t_4 H_1 locs ht hvm hw_3 hB hz1 hk1 hS => ?_)
  have hP := hP.grown hk1
  refine W.widen (k := 0) (n := 0) (Nat.le_of_ble_eq_true rfl) (Nat.le_of_ble_eq_true rfl) ?_
  obtain rfl : 1 = r_2 := hw_3.symm
  refine lv_if_eq (tgt := 22) hx hb dX8_culprit_8 (by decide) (fun c_5 => absurd c_5 (by decide)) (fun c_5 => ?_)
  obtain ⟨sa9, hsa9⟩ := hG.2.2.2.2.2.1 _ _ _ qstr1130
  exact vx_throwSW (names := zNm) hx hb hfl hown (by decide +kernel) (by decide +kernel) (hg _ q572) (hg _ q24) hsa9 (zat_at zat_X8_98 hg hG.2.2.2.2.1) zgo_X8_98_94 hG.1 hG.2.1 hS (by rw [hml]; exact hl.1) dX8_culprit_11 dX8_culprit_14 dX8_culprit_15 dX8_culprit_18 dX8_culprit_21 (fun x9 h9 => (htab x9 h9).elim) (Nat.le_of_ble_eq_true rfl) (Nat.le_of_ble_eq_true rfl) (Nat.le_of_ble_eq_true rfl) (Nat.le_of_ble_eq_true rfl) hlocks (fun t9 _ h1 h2 => zX.grown trivial hS h1 h2) hS.2.2 (Nat.le_of_ble_eq_true rfl) (Nat.le_of_ble_eq_true rfl)

abbrev wz_X8_checkFits : List Cond := .code yX8_checkFits cX8_checkFits 2 none :: lw_good
set_option maxHeartbeats 4000000 in
set_option maxRecDepth 100000 in
/-- checkFits: no documents -/
theorem k_X8_checkFits (l : Launch) (hfl : l.stackTraces = false) (G : va_G) (z : Nat) (h0 : Nat) (a1 : Nat) (a2 : Nat) (a3 : Nat) (a4 : Nat) (a5 : Nat) (a6 : Nat) (a7 : Nat) (a8 : Nat) (tol : Int32) (sal : Int32) (d1 : Nat) (d2 : Nat) (d3 : Nat) (d4 : Nat) (ag : Int32) (p0 : Int32) (sz : Nat)  : vx_Met l yX8_checkFits wz_X8_checkFits ({ frames := 1, cells := 0, slots := 0, locals := 22 }) (va_Pc [.ref h0, .int p0] (PR G z [(h0, .inr (12, [.ref a1, .ref a2, .ref a3, .ref a4, .ref a5, .ref a6, .ref a7, .ref a8, .int tol, .int sal])), (a7, .inr (4, [.ref d1, .ref d2, .ref d3, .ref d4, .int 0, .int ag]))] [] sz)) (va_Qv (fun (_ : Unit) => True) (fun (_ : Unit) (_ : State) => True) (zN sz)) (zX (False) "java/lang/UnsupportedOperationException" (zN sz)) 0 0 (zN sz) := by
  refine vx_ofW (cc := cX8_checkFits) (maxL := 2) (ret := none) (by decide) rfl ?_
  intro p e s m args below meth c s₁ B hml htab hv
  obtain ⟨rfl, rfl, hP, hK, hG⟩ := hv
  have hx := B.exec
  have hb := B.bytes
  have hr := B.returns
  have hts := atoms_spec (ws := wz_X8_checkFits) B.pre
  have hg : ∀ w ∈ lw_good, w.before _ s = true := fun w h => hts w (List.mem_cons_of_mem _ h)
  have hown : s.vm.findClass RX8 = some m.cls := findClass_of_methodNamed B.named
  have hlocks := B.notSynchronized
  have hA : ∀ q : Nat, s.heap.size ≤ q → zN s.heap.size q := fun _ h => h
  have hS : va_S (zN s.heap.size) s.heap s.heap [] := va_S.rf
  have hl := lv_entry ([.ref h0, .int p0]) (n := 2) (Nat.le_of_ble_eq_true rfl)
  rw [lg_entry_eq]
  generalize (lg_sl ([.ref h0, .int p0]) ++ List.replicate (2 - (lg_sl ([.ref h0, .int p0])).length) Slot.unset).toArray = ls at hl ⊢
  have hl : lv_has ls 2 [(0, .ref h0), (1, .int p0)] := hl
  refine lv_aload_n hx hb dX8_checkFits_0 rfl (lv_at hl 0 rfl) ?_
  refine va_get (D := G) (ci := 12) (v := .ref a7) (C := RX8) (T := TX8) (N := 10) hx hb hg in_X8 hown hK hP 0 rfl rfl 6 (by decide) (hg _ q131) (fun _ h9 => h9) rfl dX8_checkFits_1 ?_
  refine lv_iload_n hx hb dX8_checkFits_4 rfl (lv_at hl 1 rfl) ?_
  have hPc := hP.sub (ws' := [(a7, .inr (4, [.ref d1, .ref d2, .ref d3, .ref d4, .int 0, .int ag]))]) [1] rfl
  have hKc := hK.sub (tys' := []) [] rfl
  refine va_calli (va_runV (As := [.int p0]) (rest := []) ⟨hx, hb, hml, hown, hts⟩ (k_X0_fitsWithout l G z a7 d1 d2 d3 d4 ag p0 s.heap.size ) (cwV 1 hts (lw_goodApp (lw_4 q221 q222 q223 q6) q224) rfl rfl rfl (by decide +kernel) ⟨Nat.le_of_ble_eq_true rfl, Nat.le_of_ble_eq_true rfl⟩) ⟨PR.blind, va_recv hK hP (ci := 4) (q0 := 1) rfl rfl, PR.of hPc hKc hG hS hA [.ref a7, .int p0]⟩ rfl rfl hl.1 rfl (lv_room (Nat.le_of_ble_eq_true rfl)) dX8_checkFits_5 ⟨Nat.le_of_ble_eq_true rfl, Nat.le_of_ble_eq_true rfl⟩) hS (fun q h9 h => zN.not h9 h) (fun q h => hA q (Nat.le_trans hS.1 h)) (fun r_2 u t_4 H_1 locs ht hvm hw_3 hB hz1 hk1 hS => ?_)
  have hP := hP.grown hk1
  refine W.widen (k := 0) (n := 0) (Nat.le_of_ble_eq_true rfl) (Nat.le_of_ble_eq_true rfl) ?_
  obtain rfl : 1 = r_2 := hw_3.symm
  refine lv_if_ne (tgt := 22) hx hb dX8_checkFits_8 (by decide) (fun c_5 => ?_) (fun c_5 => absurd c_5 (by decide))
  refine W.widen (k := 0) (n := 0) (Nat.le_of_ble_eq_true rfl) (Nat.le_of_ble_eq_true rfl) ?_
  refine vx_ret ?_
  exact W.vret hx hb hr (fun t ht hW => ⟨⟨(), rfl, trivial, trivial⟩, hS.F ht⟩) hS.2.2 dX8_checkFits_22

abbrev wz_X8_years : List Cond := .code yX8_years cX8_years 6 (Option.some Jvm.ClassFile.FieldType.long) :: lw_good
set_option maxHeartbeats 4000000 in
set_option maxRecDepth 100000 in
/-- years: no documents -/
theorem k_X8_years (l : Launch) (hfl : l.stackTraces = false) (G : va_G) (z : Nat) (h0 : Nat) (a1 : Nat) (a2 : Nat) (a3 : Nat) (a4 : Nat) (a5 : Nat) (a6 : Nat) (a7 : Nat) (a8 : Nat) (tol : Int32) (sal : Int32) (d1 : Nat) (d2 : Nat) (d3 : Nat) (d4 : Nat) (ag : Int32) (c0 : Int32) (e0 : Nat) (sz : Nat)  : vx_Met l yX8_years wz_X8_years ({ frames := 2, cells := 0, slots := 0, locals := 43 }) (va_Pc [.ref h0] (PR G z [(h0, .inr (12, [.ref a1, .ref a2, .ref a3, .ref a4, .ref a5, .ref a6, .ref a7, .ref a8, .int tol, .int sal])), (a7, .inr (4, [.ref d1, .ref d2, .ref d3, .ref d4, .int 0, .int ag])), (a4, .inr (3, [.int c0, .ref e0, .int 0]))] [] sz)) (va_Ql (fun (r : Int64) (_ : Unit) => r = 0) (fun (_ : Unit) (_ : State) => True) (zN sz)) (zX (False) "java/lang/UnsupportedOperationException" (zN sz)) 0 0 (zN sz) := by
  refine vx_ofW (cc := cX8_years) (maxL := 6) (ret := (Option.some Jvm.ClassFile.FieldType.long)) (by decide) rfl ?_
  intro p e s m args below meth c s₁ B hml htab hv
  obtain ⟨rfl, rfl, hP, hK, hG⟩ := hv
  have hx := B.exec
  have hb := B.bytes
  have hr := B.returns
  have hts := atoms_spec (ws := wz_X8_years) B.pre
  have hg : ∀ w ∈ lw_good, w.before _ s = true := fun w h => hts w (List.mem_cons_of_mem _ h)
  have hown : s.vm.findClass RX8 = some m.cls := findClass_of_methodNamed B.named
  have hlocks := B.notSynchronized
  have hA : ∀ q : Nat, s.heap.size ≤ q → zN s.heap.size q := fun _ h => h
  have hS : va_S (zN s.heap.size) s.heap s.heap [] := va_S.rf
  have hl := lv_entry ([.ref h0]) (n := 6) (Nat.le_of_ble_eq_true rfl)
  rw [lg_entry_eq]
  generalize (lg_sl ([.ref h0]) ++ List.replicate (6 - (lg_sl ([.ref h0])).length) Slot.unset).toArray = ls at hl ⊢
  have hl : lv_has ls 6 [(0, .ref h0)] := hl
  refine lv_aload_n hx hb dX8_years_0 rfl (lv_at hl 0 rfl) ?_
  refine lv_iconst (v := (-1)) hx hb dX8_years_1 (by decide) ?_
  have hPc := hP.sub (ws' := [(h0, .inr (12, [.ref a1, .ref a2, .ref a3, .ref a4, .ref a5, .ref a6, .ref a7, .ref a8, .int tol, .int sal])), (a7, .inr (4, [.ref d1, .ref d2, .ref d3, .ref d4, .int 0, .int ag]))]) [0, 1] rfl
  have hKc := hK.sub (tys' := []) [] rfl
  refine vx_callv (vx_runV (As := [.int (-1)]) (rest := []) ⟨hx, hb, hml, hown, hts⟩ (k_X8_checkFits l hfl G z h0 a1 a2 a3 a4 a5 a6 a7 a8 tol sal d1 d2 d3 d4 ag ((-1)) s.heap.size ) (cwV 1 hts (lw_goodApp (lw_4 q1110 q1112 qs22 q1) q1113) rfl rfl rfl (by decide +kernel) ⟨Nat.le_of_ble_eq_true rfl, Nat.le_of_ble_eq_true rfl⟩) ⟨PR.blind, va_recv hK hP (ci := 12) (q0 := 0) rfl rfl, PR.of hPc hKc hG hS hA [.ref h0, .int (-1)]⟩ rfl rfl hl.1 rfl (lv_room (Nat.le_of_ble_eq_true rfl)) dX8_years_2 ⟨Nat.le_of_ble_eq_true rfl, Nat.le_of_ble_eq_true rfl⟩) hS (fun q h9 h => zN.not h9 h) (fun q h => hA q (Nat.le_trans hS.1 h)) (fun q h9 h => zN.not h9 h) (fun E ce q9 ux t_4 H_1 locs ht hvm px_5 hE hz1 hk1 hS hq9 hv9 hcl9 => ?_) (fun u t_4 H_1 locs ht hvm hw_3 hB hz1 hk1 hS => ?_)
  · exact px_5.elim
  have hP := hP.grown hk1
  refine W.widen (k := 0) (n := 0) (Nat.le_of_ble_eq_true rfl) (Nat.le_of_ble_eq_true rfl) ?_
  refine lv_lconst (v := 0) hx hb dX8_years_5 (by decide) ?_
  refine lv_lstore_n (lv' := [(1, .long 0), (0, .ref h0)]) hx hb dX8_years_6 rfl hl (by decide) rfl (fun ls hl => ?_)
  refine lv_iconst (v := 0) hx hb dX8_years_7 (by decide) ?_
  refine lv_istore_n (lv' := [(3, .int 0), (1, .long 0), (0, .ref h0)]) hx hb dX8_years_8 rfl hl (by decide) rfl (fun ls hl => ?_)
  refine lv_iload_n hx hb dX8_years_9 rfl (lv_at hl 0 rfl) ?_
  refine lv_aload_n hx hb dX8_years_10 rfl (lv_at hl 2 rfl) ?_
  refine va_get (D := G) (ci := 12) (v := .ref a4) (C := RX8) (T := TX8) (N := 10) hx hb hg in_X8 hown hK hP 0 rfl rfl 3 (by decide) (hg _ q128) (fun _ h9 => h9) rfl dX8_years_11 ?_
  have hPc := hP.sub (ws' := [(a4, .inr (3, [.int c0, .ref e0, .int 0]))]) [2] rfl
  have hKc := hK.sub (tys' := []) [] rfl
  refine va_calli (va_runV (As := []) (rest := [.int 0]) ⟨hx, hb, hml, hown, hts⟩ (k_Jx4a65c_size_8abf5 l G z a4 c0 e0 0 H_1.size ) (cwV 0 hts (lw_goodApp (lw_4 q160 q161 q162 q4) q163) rfl rfl rfl (by decide +kernel) ⟨Nat.le_of_ble_eq_true rfl, Nat.le_of_ble_eq_true rfl⟩) ⟨PR.blind, va_recv hK hP (ci := 3) (q0 := 2) rfl rfl, PR.of hPc hKc hG hS hA [.ref a4]⟩ rfl rfl hl.1 rfl (lv_room (Nat.le_of_ble_eq_true rfl)) dX8_years_14 ⟨Nat.le_of_ble_eq_true rfl, Nat.le_of_ble_eq_true rfl⟩) hS (fun q h9 h => zN.not h9 h) (fun q h => hA q (Nat.le_trans hS.1 h)) (fun r_7 u t_9 H_6 locs ht hvm hw_8 hB hz1 hk1 hS => ?_)
  have hP := hP.grown hk1
  refine W.widen (k := 0) (n := 0) (Nat.le_of_ble_eq_true rfl) (Nat.le_of_ble_eq_true rfl) ?_
  obtain rfl : 0 = r_7 := hw_8.symm
  refine lv_icmp_ge (tgt := 61) hx hb dX8_years_17 (by decide) (fun c_10 => ?_) (fun c_10 => absurd (by decide) c_10)
  refine lv_lload_n hx hb dX8_years_61 rfl (lv_at hl 1 rfl) ?_
  refine W.widen (k := 0) (n := 0) (Nat.le_of_ble_eq_true rfl) (Nat.le_of_ble_eq_true rfl) ?_
  refine vx_ret ?_
  exact W.lret (v := 0) hx hb hr (fun t ht hW => ⟨⟨0, (), rfl, rfl, trivial⟩, hS.F ht⟩) hS.2.2 dX8_years_62

abbrev wz_X8_sheetsMade : List Cond := .code yX8_sheetsMade cX8_sheetsMade 3 (Option.some Jvm.ClassFile.FieldType.int) :: lw_good
set_option maxHeartbeats 4000000 in
set_option maxRecDepth 100000 in
/-- sheetsMade -/
theorem k_X8_sheetsMade (l : Launch) (G : va_G) (z : Nat) (h0 : Nat) (a1 : Nat) (a2 : Nat) (a3 : Nat) (a4 : Nat) (a5 : Nat) (a6 : Nat) (a7 : Nat) (a8 : Nat) (tol : Int32) (sal : Int32) (c0 : Int32) (e0 : Nat) (sz : Nat)  : Met l yX8_sheetsMade wz_X8_sheetsMade ({ frames := 1, cells := 0, slots := 0, locals := 20 }) (va_Pc [.ref h0] (PR G z [(h0, .inr (12, [.ref a1, .ref a2, .ref a3, .ref a4, .ref a5, .ref a6, .ref a7, .ref a8, .int tol, .int sal])), (a2, .inr (3, [.int c0, .ref e0, .int 0]))] [] sz)) (va_Qi (fun (r : Int32) (_ : Unit) => r = 0) (fun (_ : Unit) (_ : State) => True) (zN sz)) 0 0 (zN sz) := by
  refine Met.ofW (cc := cX8_sheetsMade) (maxL := 3) (ret := (Option.some Jvm.ClassFile.FieldType.int)) (by decide) rfl ?_
  intro p e s m args below meth c s₁ B hml hv
  obtain ⟨rfl, rfl, hP, hK, hG⟩ := hv
  have hx := B.exec
  have hb := B.bytes
  have hr := B.returns
  have hts := atoms_spec (ws := wz_X8_sheetsMade) B.pre
  have hg : ∀ w ∈ lw_good, w.before _ s = true := fun w h => hts w (List.mem_cons_of_mem _ h)
  have hown : s.vm.findClass RX8 = some m.cls := findClass_of_methodNamed B.named
  have hlocks := B.notSynchronized
  have hA : ∀ q : Nat, s.heap.size ≤ q → zN s.heap.size q := fun _ h => h
  have hS : va_S (zN s.heap.size) s.heap s.heap [] := va_S.rf
  have hl := lv_entry ([.ref h0]) (n := 3) (Nat.le_of_ble_eq_true rfl)
  rw [lg_entry_eq]
  generalize (lg_sl ([.ref h0]) ++ List.replicate (3 - (lg_sl ([.ref h0])).length) Slot.unset).toArray = ls at hl ⊢
  have hl : lv_has ls 3 [(0, .ref h0)] := hl
  refine lv_iconst (v := 0) hx hb dX8_sheetsMade_0 (by decide) ?_
  refine lv_istore_n (lv' := [(1, .int 0), (0, .ref h0)]) hx hb dX8_sheetsMade_1 rfl hl (by decide) rfl (fun ls hl => ?_)
  refine lv_iconst (v := 0) hx hb dX8_sheetsMade_2 (by decide) ?_
  refine lv_istore_n (lv' := [(2, .int 0), (1, .int 0), (0, .ref h0)]) hx hb dX8_sheetsMade_3 rfl hl (by decide) rfl (fun ls hl => ?_)
  refine lv_iload_n hx hb dX8_sheetsMade_4 rfl (lv_at hl 0 rfl) ?_
  refine lv_aload_n hx hb dX8_sheetsMade_5 rfl (lv_at hl 2 rfl) ?_
  refine va_get (D := G) (ci := 12) (v := .ref a2) (C := RX8) (T := TX8) (N := 10) hx hb hg in_X8 hown hK hP 0 rfl rfl 1 (by decide) (hg _ q126) (fun _ h9 => h9) rfl dX8_sheetsMade_6 ?_
  have hPc := hP.sub (ws' := [(a2, .inr (3, [.int c0, .ref e0, .int 0]))]) [1] rfl
  have hKc := hK.sub (tys' := []) [] rfl
  refine va_calli (va_runV (As := []) (rest := [.int 0]) ⟨hx, hb, hml, hown, hts⟩ (k_Jx4a65c_size_8abf5 l G z a2 c0 e0 0 s.heap.size ) (cwV 0 hts (lw_goodApp (lw_4 q160 q161 q162 q4) q163) rfl rfl rfl (by decide +kernel) ⟨Nat.le_of_ble_eq_true rfl, Nat.le_of_ble_eq_true rfl⟩) ⟨PR.blind, va_recv hK hP (ci := 3) (q0 := 1) rfl rfl, PR.of hPc hKc hG hS hA [.ref a2]⟩ rfl rfl hl.1 rfl (lv_room (Nat.le_of_ble_eq_true rfl)) dX8_sheetsMade_9 ⟨Nat.le_of_ble_eq_true rfl, Nat.le_of_ble_eq_true rfl⟩) hS (fun q h9 h => zN.not h9 h) (fun q h => hA q (Nat.le_trans hS.1 h)) (fun r_2 u t_4 H_1 locs ht hvm hw_3 hB hz1 hk1 hS => ?_)
  have hP := hP.grown hk1
  refine W.widen (k := 0) (n := 0) (Nat.le_of_ble_eq_true rfl) (Nat.le_of_ble_eq_true rfl) ?_
  obtain rfl : 0 = r_2 := hw_3.symm
  refine lv_icmp_ge (tgt := 38) hx hb dX8_sheetsMade_12 (by decide) (fun c_5 => ?_) (fun c_5 => absurd (by decide) c_5)
  refine lv_iload_n hx hb dX8_sheetsMade_38 rfl (lv_at hl 1 rfl) ?_
  refine W.widen (k := 0) (n := 0) (Nat.le_of_ble_eq_true rfl) (Nat.le_of_ble_eq_true rfl) ?_
  exact W.iret (v := 0) hx hb hr (fun t ht hW => ⟨⟨0, (), rfl, rfl, trivial⟩, hS.F ht⟩) hS.2.2 dX8_sheetsMade_39

abbrev wz_X8_sheetsInLots : List Cond := .code yX8_sheetsInLots cX8_sheetsInLots 3 (Option.some Jvm.ClassFile.FieldType.int) :: lw_good
set_option maxHeartbeats 4000000 in
set_option maxRecDepth 100000 in
/-- sheetsInLots -/
theorem k_X8_sheetsInLots (l : Launch) (G : va_G) (z : Nat) (h0 : Nat) (a1 : Nat) (a2 : Nat) (a3 : Nat) (a4 : Nat) (a5 : Nat) (a6 : Nat) (a7 : Nat) (a8 : Nat) (tol : Int32) (sal : Int32) (c0 : Int32) (e0 : Nat) (sz : Nat)  : Met l yX8_sheetsInLots wz_X8_sheetsInLots ({ frames := 1, cells := 0, slots := 0, locals := 20 }) (va_Pc [.ref h0] (PR G z [(h0, .inr (12, [.ref a1, .ref a2, .ref a3, .ref a4, .ref a5, .ref a6, .ref a7, .ref a8, .int tol, .int sal])), (a2, .inr (3, [.int c0, .ref e0, .int 0]))] [] sz)) (va_Qi (fun (r : Int32) (_ : Unit) => r = 0) (fun (_ : Unit) (_ : State) => True) (zN sz)) 0 0 (zN sz) := by
  refine Met.ofW (cc := cX8_sheetsInLots) (maxL := 3) (ret := (Option.some Jvm.ClassFile.FieldType.int)) (by decide) rfl ?_
  intro p e s m args below meth c s₁ B hml hv
  obtain ⟨rfl, rfl, hP, hK, hG⟩ := hv
  have hx := B.exec
  have hb := B.bytes
  have hr := B.returns
  have hts := atoms_spec (ws := wz_X8_sheetsInLots) B.pre
  have hg : ∀ w ∈ lw_good, w.before _ s = true := fun w h => hts w (List.mem_cons_of_mem _ h)
  have hown : s.vm.findClass RX8 = some m.cls := findClass_of_methodNamed B.named
  have hlocks := B.notSynchronized
  have hA : ∀ q : Nat, s.heap.size ≤ q → zN s.heap.size q := fun _ h => h
  have hS : va_S (zN s.heap.size) s.heap s.heap [] := va_S.rf
  have hl := lv_entry ([.ref h0]) (n := 3) (Nat.le_of_ble_eq_true rfl)
  rw [lg_entry_eq]
  generalize (lg_sl ([.ref h0]) ++ List.replicate (3 - (lg_sl ([.ref h0])).length) Slot.unset).toArray = ls at hl ⊢
  have hl : lv_has ls 3 [(0, .ref h0)] := hl
  refine lv_iconst (v := 0) hx hb dX8_sheetsInLots_0 (by decide) ?_
  refine lv_istore_n (lv' := [(1, .int 0), (0, .ref h0)]) hx hb dX8_sheetsInLots_1 rfl hl (by decide) rfl (fun ls hl => ?_)
  refine lv_iconst (v := 0) hx hb dX8_sheetsInLots_2 (by decide) ?_
  refine lv_istore_n (lv' := [(2, .int 0), (1, .int 0), (0, .ref h0)]) hx hb dX8_sheetsInLots_3 rfl hl (by decide) rfl (fun ls hl => ?_)
  refine lv_iload_n hx hb dX8_sheetsInLots_4 rfl (lv_at hl 0 rfl) ?_
  refine lv_aload_n hx hb dX8_sheetsInLots_5 rfl (lv_at hl 2 rfl) ?_
  refine va_get (D := G) (ci := 12) (v := .ref a2) (C := RX8) (T := TX8) (N := 10) hx hb hg in_X8 hown hK hP 0 rfl rfl 1 (by decide) (hg _ q126) (fun _ h9 => h9) rfl dX8_sheetsInLots_6 ?_
  have hPc := hP.sub (ws' := [(a2, .inr (3, [.int c0, .ref e0, .int 0]))]) [1] rfl
  have hKc := hK.sub (tys' := []) [] rfl
  refine va_calli (va_runV (As := []) (rest := [.int 0]) ⟨hx, hb, hml, hown, hts⟩ (k_Jx4a65c_size_8abf5 l G z a2 c0 e0 0 s.heap.size ) (cwV 0 hts (lw_goodApp (lw_4 q160 q161 q162 q4) q163) rfl rfl rfl (by decide +kernel) ⟨Nat.le_of_ble_eq_true rfl, Nat.le_of_ble_eq_true rfl⟩) ⟨PR.blind, va_recv hK hP (ci := 3) (q0 := 1) rfl rfl, PR.of hPc hKc hG hS hA [.ref a2]⟩ rfl rfl hl.1 rfl (lv_room (Nat.le_of_ble_eq_true rfl)) dX8_sheetsInLots_9 ⟨Nat.le_of_ble_eq_true rfl, Nat.le_of_ble_eq_true rfl⟩) hS (fun q h9 h => zN.not h9 h) (fun q h => hA q (Nat.le_trans hS.1 h)) (fun r_2 u t_4 H_1 locs ht hvm hw_3 hB hz1 hk1 hS => ?_)
  have hP := hP.grown hk1
  refine W.widen (k := 0) (n := 0) (Nat.le_of_ble_eq_true rfl) (Nat.le_of_ble_eq_true rfl) ?_
  obtain rfl : 0 = r_2 := hw_3.symm
  refine lv_icmp_ge (tgt := 38) hx hb dX8_sheetsInLots_12 (by decide) (fun c_5 => ?_) (fun c_5 => absurd (by decide) c_5)
  refine lv_iload_n hx hb dX8_sheetsInLots_38 rfl (lv_at hl 1 rfl) ?_
  refine W.widen (k := 0) (n := 0) (Nat.le_of_ble_eq_true rfl) (Nat.le_of_ble_eq_true rfl) ?_
  exact W.iret (v := 0) hx hb hr (fun t ht hW => ⟨⟨0, (), rfl, rfl, trivial⟩, hS.F ht⟩) hS.2.2 dX8_sheetsInLots_39

abbrev wz_X8_sheetsInReams : List Cond := .code yX8_sheetsInReams cX8_sheetsInReams 3 (Option.some Jvm.ClassFile.FieldType.int) :: lw_good
set_option maxHeartbeats 4000000 in
set_option maxRecDepth 100000 in
/-- sheetsInReams -/
theorem k_X8_sheetsInReams (l : Launch) (G : va_G) (z : Nat) (h0 : Nat) (a1 : Nat) (a2 : Nat) (a3 : Nat) (a4 : Nat) (a5 : Nat) (a6 : Nat) (a7 : Nat) (a8 : Nat) (tol : Int32) (sal : Int32) (c0 : Int32) (e0 : Nat) (sz : Nat)  : Met l yX8_sheetsInReams wz_X8_sheetsInReams ({ frames := 1, cells := 0, slots := 0, locals := 20 }) (va_Pc [.ref h0] (PR G z [(h0, .inr (12, [.ref a1, .ref a2, .ref a3, .ref a4, .ref a5, .ref a6, .ref a7, .ref a8, .int tol, .int sal])), (a3, .inr (3, [.int c0, .ref e0, .int 0]))] [] sz)) (va_Qi (fun (r : Int32) (_ : Unit) => r = 0) (fun (_ : Unit) (_ : State) => True) (zN sz)) 0 0 (zN sz) := by
  refine Met.ofW (cc := cX8_sheetsInReams) (maxL := 3) (ret := (Option.some Jvm.ClassFile.FieldType.int)) (by decide) rfl ?_
  intro p e s m args below meth c s₁ B hml hv
  obtain ⟨rfl, rfl, hP, hK, hG⟩ := hv
  have hx := B.exec
  have hb := B.bytes
  have hr := B.returns
  have hts := atoms_spec (ws := wz_X8_sheetsInReams) B.pre
  have hg : ∀ w ∈ lw_good, w.before _ s = true := fun w h => hts w (List.mem_cons_of_mem _ h)
  have hown : s.vm.findClass RX8 = some m.cls := findClass_of_methodNamed B.named
  have hlocks := B.notSynchronized
  have hA : ∀ q : Nat, s.heap.size ≤ q → zN s.heap.size q := fun _ h => h
  have hS : va_S (zN s.heap.size) s.heap s.heap [] := va_S.rf
  have hl := lv_entry ([.ref h0]) (n := 3) (Nat.le_of_ble_eq_true rfl)
  rw [lg_entry_eq]
  generalize (lg_sl ([.ref h0]) ++ List.replicate (3 - (lg_sl ([.ref h0])).length) Slot.unset).toArray = ls at hl ⊢
  have hl : lv_has ls 3 [(0, .ref h0)] := hl
  refine lv_iconst (v := 0) hx hb dX8_sheetsInReams_0 (by decide) ?_
  refine lv_istore_n (lv' := [(1, .int 0), (0, .ref h0)]) hx hb dX8_sheetsInReams_1 rfl hl (by decide) rfl (fun ls hl => ?_)
  refine lv_iconst (v := 0) hx hb dX8_sheetsInReams_2 (by decide) ?_
  refine lv_istore_n (lv' := [(2, .int 0), (1, .int 0), (0, .ref h0)]) hx hb dX8_sheetsInReams_3 rfl hl (by decide) rfl (fun ls hl => ?_)
  refine lv_iload_n hx hb dX8_sheetsInReams_4 rfl (lv_at hl 0 rfl) ?_
  refine lv_aload_n hx hb dX8_sheetsInReams_5 rfl (lv_at hl 2 rfl) ?_
  refine va_get (D := G) (ci := 12) (v := .ref a3) (C := RX8) (T := TX8) (N := 10) hx hb hg in_X8 hown hK hP 0 rfl rfl 2 (by decide) (hg _ q127) (fun _ h9 => h9) rfl dX8_sheetsInReams_6 ?_
  have hPc := hP.sub (ws' := [(a3, .inr (3, [.int c0, .ref e0, .int 0]))]) [1] rfl
  have hKc := hK.sub (tys' := []) [] rfl
  refine va_calli (va_runV (As := []) (rest := [.int 0]) ⟨hx, hb, hml, hown, hts⟩ (k_Jx4a65c_size_8abf5 l G z a3 c0 e0 0 s.heap.size ) (cwV 0 hts (lw_goodApp (lw_4 q160 q161 q162 q4) q163) rfl rfl rfl (by decide +kernel) ⟨Nat.le_of_ble_eq_true rfl, Nat.le_of_ble_eq_true rfl⟩) ⟨PR.blind, va_recv hK hP (ci := 3) (q0 := 1) rfl rfl, PR.of hPc hKc hG hS hA [.ref a3]⟩ rfl rfl hl.1 rfl (lv_room (Nat.le_of_ble_eq_true rfl)) dX8_sheetsInReams_9 ⟨Nat.le_of_ble_eq_true rfl, Nat.le_of_ble_eq_true rfl⟩) hS (fun q h9 h => zN.not h9 h) (fun q h => hA q (Nat.le_trans hS.1 h)) (fun r_2 u t_4 H_1 locs ht hvm hw_3 hB hz1 hk1 hS => ?_)
  have hP := hP.grown hk1
  refine W.widen (k := 0) (n := 0) (Nat.le_of_ble_eq_true rfl) (Nat.le_of_ble_eq_true rfl) ?_
  obtain rfl : 0 = r_2 := hw_3.symm
  refine lv_icmp_ge (tgt := 38) hx hb dX8_sheetsInReams_12 (by decide) (fun c_5 => ?_) (fun c_5 => absurd (by decide) c_5)
  refine lv_iload_n hx hb dX8_sheetsInReams_38 rfl (lv_at hl 1 rfl) ?_
  refine W.widen (k := 0) (n := 0) (Nat.le_of_ble_eq_true rfl) (Nat.le_of_ble_eq_true rfl) ?_
  exact W.iret (v := 0) hx hb hr (fun t ht hW => ⟨⟨0, (), rfl, rfl, trivial⟩, hS.F ht⟩) hS.2.2 dX8_sheetsInReams_39

abbrev wz_X8_sheetsInDocuments : List Cond := .code yX8_sheetsInDocuments cX8_sheetsInDocuments 3 (Option.some Jvm.ClassFile.FieldType.int) :: lw_good
set_option maxHeartbeats 4000000 in
set_option maxRecDepth 100000 in
/-- sheetsInDocuments -/
theorem k_X8_sheetsInDocuments (l : Launch) (G : va_G) (z : Nat) (h0 : Nat) (a1 : Nat) (a2 : Nat) (a3 : Nat) (a4 : Nat) (a5 : Nat) (a6 : Nat) (a7 : Nat) (a8 : Nat) (tol : Int32) (sal : Int32) (c0 : Int32) (e0 : Nat) (sz : Nat)  : Met l yX8_sheetsInDocuments wz_X8_sheetsInDocuments ({ frames := 1, cells := 0, slots := 0, locals := 20 }) (va_Pc [.ref h0] (PR G z [(h0, .inr (12, [.ref a1, .ref a2, .ref a3, .ref a4, .ref a5, .ref a6, .ref a7, .ref a8, .int tol, .int sal])), (a4, .inr (3, [.int c0, .ref e0, .int 0]))] [] sz)) (va_Qi (fun (r : Int32) (_ : Unit) => r = 0) (fun (_ : Unit) (_ : State) => True) (zN sz)) 0 0 (zN sz) := by
  refine Met.ofW (cc := cX8_sheetsInDocuments) (maxL := 3) (ret := (Option.some Jvm.ClassFile.FieldType.int)) (by decide) rfl ?_
  intro p e s m args below meth c s₁ B hml hv
  obtain ⟨rfl, rfl, hP, hK, hG⟩ := hv
  have hx := B.exec
  have hb := B.bytes
  have hr := B.returns
  have hts := atoms_spec (ws := wz_X8_sheetsInDocuments) B.pre
  have hg : ∀ w ∈ lw_good, w.before _ s = true := fun w h => hts w (List.mem_cons_of_mem _ h)
  have hown : s.vm.findClass RX8 = some m.cls := findClass_of_methodNamed B.named
  have hlocks := B.notSynchronized
  have hA : ∀ q : Nat, s.heap.size ≤ q → zN s.heap.size q := fun _ h => h
  have hS : va_S (zN s.heap.size) s.heap s.heap [] := va_S.rf
  have hl := lv_entry ([.ref h0]) (n := 3) (Nat.le_of_ble_eq_true rfl)
  rw [lg_entry_eq]
  generalize (lg_sl ([.ref h0]) ++ List.replicate (3 - (lg_sl ([.ref h0])).length) Slot.unset).toArray = ls at hl ⊢
  have hl : lv_has ls 3 [(0, .ref h0)] := hl
  refine lv_iconst (v := 0) hx hb dX8_sheetsInDocuments_0 (by decide) ?_
  refine lv_istore_n (lv' := [(1, .int 0), (0, .ref h0)]) hx hb dX8_sheetsInDocuments_1 rfl hl (by decide) rfl (fun ls hl => ?_)
  refine lv_iconst (v := 0) hx hb dX8_sheetsInDocuments_2 (by decide) ?_
  refine lv_istore_n (lv' := [(2, .int 0), (1, .int 0), (0, .ref h0)]) hx hb dX8_sheetsInDocuments_3 rfl hl (by decide) rfl (fun ls hl => ?_)
  refine lv_iload_n hx hb dX8_sheetsInDocuments_4 rfl (lv_at hl 0 rfl) ?_
  refine lv_aload_n hx hb dX8_sheetsInDocuments_5 rfl (lv_at hl 2 rfl) ?_
  refine va_get (D := G) (ci := 12) (v := .ref a4) (C := RX8) (T := TX8) (N := 10) hx hb hg in_X8 hown hK hP 0 rfl rfl 3 (by decide) (hg _ q128) (fun _ h9 => h9) rfl dX8_sheetsInDocuments_6 ?_
  have hPc := hP.sub (ws' := [(a4, .inr (3, [.int c0, .ref e0, .int 0]))]) [1] rfl
  have hKc := hK.sub (tys' := []) [] rfl
  refine va_calli (va_runV (As := []) (rest := [.int 0]) ⟨hx, hb, hml, hown, hts⟩ (k_Jx4a65c_size_8abf5 l G z a4 c0 e0 0 s.heap.size ) (cwV 0 hts (lw_goodApp (lw_4 q160 q161 q162 q4) q163) rfl rfl rfl (by decide +kernel) ⟨Nat.le_of_ble_eq_true rfl, Nat.le_of_ble_eq_true rfl⟩) ⟨PR.blind, va_recv hK hP (ci := 3) (q0 := 1) rfl rfl, PR.of hPc hKc hG hS hA [.ref a4]⟩ rfl rfl hl.1 rfl (lv_room (Nat.le_of_ble_eq_true rfl)) dX8_sheetsInDocuments_9 ⟨Nat.le_of_ble_eq_true rfl, Nat.le_of_ble_eq_true rfl⟩) hS (fun q h9 h => zN.not h9 h) (fun q h => hA q (Nat.le_trans hS.1 h)) (fun r_2 u t_4 H_1 locs ht hvm hw_3 hB hz1 hk1 hS => ?_)
  have hP := hP.grown hk1
  refine W.widen (k := 0) (n := 0) (Nat.le_of_ble_eq_true rfl) (Nat.le_of_ble_eq_true rfl) ?_
  obtain rfl : 0 = r_2 := hw_3.symm
  refine lv_icmp_ge (tgt := 38) hx hb dX8_sheetsInDocuments_12 (by decide) (fun c_5 => ?_) (fun c_5 => absurd (by decide) c_5)
  refine lv_iload_n hx hb dX8_sheetsInDocuments_38 rfl (lv_at hl 1 rfl) ?_
  refine W.widen (k := 0) (n := 0) (Nat.le_of_ble_eq_true rfl) (Nat.le_of_ble_eq_true rfl) ?_
  exact W.iret (v := 0) hx hb hr (fun t ht hW => ⟨⟨0, (), rfl, rfl, trivial⟩, hS.F ht⟩) hS.2.2 dX8_sheetsInDocuments_39

abbrev wz_X8_usedShare : List Cond := .code yX8_usedShare cX8_usedShare 2 (Option.some Jvm.ClassFile.FieldType.float) :: lw_good
set_option maxHeartbeats 4000000 in
set_option maxRecDepth 100000 in
/-- usedShare: none made -/
theorem k_X8_usedShare (l : Launch) (hfl : l.stackTraces = false) (G : va_G) (z : Nat) (h0 : Nat) (a1 : Nat) (a2 : Nat) (a3 : Nat) (a4 : Nat) (a5 : Nat) (a6 : Nat) (a7 : Nat) (a8 : Nat) (tol : Int32) (sal : Int32) (c0 : Int32) (e0 : Nat) (sz : Nat)  : vx_Met l yX8_usedShare wz_X8_usedShare ({ frames := 6, cells := 1, slots := 6, locals := 82 }) (va_Pc [.ref h0] (PR G z [(h0, .inr (12, [.ref a1, .ref a2, .ref a3, .ref a4, .ref a5, .ref a6, .ref a7, .ref a8, .int tol, .int sal])), (a2, .inr (3, [.int c0, .ref e0, .int 0]))] [] sz)) (va_Qf (fun (r : UInt32) (_ : Unit) => False) (fun (_ : Unit) (_ : State) => True) (zN sz)) (zX (True) "java/lang/ArithmeticException" (zN sz)) 1 6 (zN sz) := by
  refine vx_ofW (cc := cX8_usedShare) (maxL := 2) (ret := (Option.some Jvm.ClassFile.FieldType.float)) (by decide) rfl ?_
  intro p e s m args below meth c s₁ B hml htab hv
  obtain ⟨rfl, rfl, hP, hK, hG⟩ := hv
  have hx := B.exec
  have hb := B.bytes
  have hr := B.returns
  have hts := atoms_spec (ws := wz_X8_usedShare) B.pre
  have hg : ∀ w ∈ lw_good, w.before _ s = true := fun w h => hts w (List.mem_cons_of_mem _ h)
  have hown : s.vm.findClass RX8 = some m.cls := findClass_of_methodNamed B.named
  have hlocks := B.notSynchronized
  have hA : ∀ q : Nat, s.heap.size ≤ q → zN s.heap.size q := fun _ h => h
  have hS : va_S (zN s.heap.size) s.heap s.heap [] := va_S.rf
  have hl := lv_entry ([.ref h0]) (n := 2) (Nat.le_of_ble_eq_true rfl)
  rw [lg_entry_eq]
  generalize (lg_sl ([.ref h0]) ++ List.replicate (2 - (lg_sl ([.ref h0])).length) Slot.unset).toArray = ls at hl ⊢
  have hl : lv_has ls 2 [(0, .ref h0)] := hl
  refine lv_aload_n hx hb dX8_usedShare_0 rfl (lv_at hl 0 rfl) ?_
  have hPc := hP.sub (ws' := [(h0, .inr (12, [.ref a1, .ref a2, .ref a3, .ref a4, .ref a5, .ref a6, .ref a7, .ref a8, .int tol, .int sal])), (a2, .inr (3, [.int c0, .ref e0, .int 0]))]) [0, 1] rfl
  have hKc := hK.sub (tys' := []) [] rfl
  refine va_calli (va_runV (As := []) (rest := []) ⟨hx, hb, hml, hown, hts⟩ (k_X8_sheetsMade l G z h0 a1 a2 a3 a4 a5 a6 a7 a8 tol sal c0 e0 s.heap.size ) (cwV 0 hts (lw_goodApp (lw_4 q270 q272 qs6 q1) q273) rfl rfl rfl (by decide +kernel) ⟨Nat.le_of_ble_eq_true rfl, Nat.le_of_ble_eq_true rfl⟩) ⟨PR.blind, va_recv hK hP (ci := 12) (q0 := 0) rfl rfl, PR.of hPc hKc hG hS hA [.ref h0]⟩ rfl rfl hl.1 rfl (lv_room (Nat.le_of_ble_eq_true rfl)) dX8_usedShare_1 ⟨Nat.le_of_ble_eq_true rfl, Nat.le_of_ble_eq_true rfl⟩) hS (fun q h9 h => zN.not h9 h) (fun q h => hA q (Nat.le_trans hS.1 h)) (fun r_2 u t_4 H_1 locs ht hvm hw_3 hB hz1 hk1 hS => ?_)
  have hP := hP.grown hk1
  refine W.widen (k := 0) (n := 0) (Nat.le_of_ble_eq_true rfl) (Nat.le_of_ble_eq_true rfl) ?_
  obtain rfl : 0 = r_2 := hw_3.symm
  refine lv_istore_n (lv' := [(1, .int 0), (0, .ref h0)]) hx hb dX8_usedShare_4 rfl hl (by decide) rfl (fun ls hl => ?_)
  refine lv_iload_n hx hb dX8_usedShare_5 rfl (lv_at hl 0 rfl) ?_
  refine lv_if_ne (tgt := 20) hx hb dX8_usedShare_6 (by decide) (fun c_5 => absurd rfl c_5) (fun c_5 => ?_)
  obtain ⟨sa9, hsa9⟩ := hG.2.2.2.2.2.1 _ _ _ qstr1168
  exact vx_throwSW (names := zNm) hx hb hfl hown (by decide +kernel) (by decide +kernel) (hg _ q1167) (hg _ q36) hsa9 (zat_at zat_X8_365 hg hG.2.2.2.2.1) zgo_X8_365_361 hG.1 hG.2.1 hS (by rw [hml]; exact hl.1) dX8_usedShare_9 dX8_usedShare_12 dX8_usedShare_13 dX8_usedShare_16 dX8_usedShare_19 (fun x9 h9 => (htab x9 h9).elim) (Nat.le_of_ble_eq_true rfl) (Nat.le_of_ble_eq_true rfl) (Nat.le_of_ble_eq_true rfl) (Nat.le_of_ble_eq_true rfl) hlocks (fun t9 _ h1 h2 => zX.grown trivial hS h1 h2) hS.2.2 (Nat.le_of_ble_eq_true rfl) (Nat.le_of_ble_eq_true rfl)

abbrev wz_X8_meanAge : List Cond := .code yX8_meanAge cX8_meanAge 6 (Option.some Jvm.ClassFile.FieldType.double) :: lw_good
set_option maxHeartbeats 4000000 in
set_option maxRecDepth 100000 in
/-- meanAge: none used -/
theorem k_X8_meanAge (l : Launch) (hfl : l.stackTraces = false) (G : va_G) (z : Nat) (h0 : Nat) (a1 : Nat) (a2 : Nat) (a3 : Nat) (a4 : Nat) (a5 : Nat) (a6 : Nat) (a7 : Nat) (a8 : Nat) (tol : Int32) (sal : Int32) (c0 : Int32) (e0 : Nat) (sz : Nat)  : vx_Met l yX8_meanAge wz_X8_meanAge ({ frames := 6, cells := 1, slots := 6, locals := 82 }) (va_Pc [.ref h0] (PR G z [(h0, .inr (12, [.ref a1, .ref a2, .ref a3, .ref a4, .ref a5, .ref a6, .ref a7, .ref a8, .int tol, .int sal])), (a4, .inr (3, [.int c0, .ref e0, .int 0]))] [] sz)) (va_Qd (fun (r : UInt64) (_ : Unit) => False) (fun (_ : Unit) (_ : State) => True) (zN sz)) (zX (True) "java/util/NoSuchElementException" (zN sz)) 1 6 (zN sz) := by
  refine vx_ofW (cc := cX8_meanAge) (maxL := 6) (ret := (Option.some Jvm.ClassFile.FieldType.double)) (by decide) rfl ?_
  intro p e s m args below meth c s₁ B hml htab hv
  obtain ⟨rfl, rfl, hP, hK, hG⟩ := hv
  have hx := B.exec
  have hb := B.bytes
  have hr := B.returns
  have hts := atoms_spec (ws := wz_X8_meanAge) B.pre
  have hg : ∀ w ∈ lw_good, w.before _ s = true := fun w h => hts w (List.mem_cons_of_mem _ h)
  have hown : s.vm.findClass RX8 = some m.cls := findClass_of_methodNamed B.named
  have hlocks := B.notSynchronized
  have hA : ∀ q : Nat, s.heap.size ≤ q → zN s.heap.size q := fun _ h => h
  have hS : va_S (zN s.heap.size) s.heap s.heap [] := va_S.rf
  have hl := lv_entry ([.ref h0]) (n := 6) (Nat.le_of_ble_eq_true rfl)
  rw [lg_entry_eq]
  generalize (lg_sl ([.ref h0]) ++ List.replicate (6 - (lg_sl ([.ref h0])).length) Slot.unset).toArray = ls at hl ⊢
  have hl : lv_has ls 6 [(0, .ref h0)] := hl
  refine lv_aload_n hx hb dX8_meanAge_0 rfl (lv_at hl 0 rfl) ?_
  have hPc := hP.sub (ws' := [(h0, .inr (12, [.ref a1, .ref a2, .ref a3, .ref a4, .ref a5, .ref a6, .ref a7, .ref a8, .int tol, .int sal])), (a4, .inr (3, [.int c0, .ref e0, .int 0]))]) [0, 1] rfl
  have hKc := hK.sub (tys' := []) [] rfl
  refine va_calli (va_runV (As := []) (rest := []) ⟨hx, hb, hml, hown, hts⟩ (k_X8_sheetsInDocuments l G z h0 a1 a2 a3 a4 a5 a6 a7 a8 tol sal c0 e0 s.heap.size ) (cwV 0 hts (lw_goodApp (lw_4 q265 q267 qs5 q1) q268) rfl rfl rfl (by decide +kernel) ⟨Nat.le_of_ble_eq_true rfl, Nat.le_of_ble_eq_true rfl⟩) ⟨PR.blind, va_recv hK hP (ci := 12) (q0 := 0) rfl rfl, PR.of hPc hKc hG hS hA [.ref h0]⟩ rfl rfl hl.1 rfl (lv_room (Nat.le_of_ble_eq_true rfl)) dX8_meanAge_1 ⟨Nat.le_of_ble_eq_true rfl, Nat.le_of_ble_eq_true rfl⟩) hS (fun q h9 h => zN.not h9 h) (fun q h => hA q (Nat.le_trans hS.1 h)) (fun r_2 u t_4 H_1 locs ht hvm hw_3 hB hz1 hk1 hS => ?_)
  have hP := hP.grown hk1
  refine W.widen (k := 0) (n := 0) (Nat.le_of_ble_eq_true rfl) (Nat.le_of_ble_eq_true rfl) ?_
  obtain rfl : 0 = r_2 := hw_3.symm
  refine lv_istore_n (lv' := [(1, .int 0), (0, .ref h0)]) hx hb dX8_meanAge_4 rfl hl (by decide) rfl (fun ls hl => ?_)
  refine lv_iload_n hx hb dX8_meanAge_5 rfl (lv_at hl 0 rfl) ?_
  refine lv_if_ne (tgt := 20) hx hb dX8_meanAge_6 (by decide) (fun c_5 => absurd rfl c_5) (fun c_5 => ?_)
  obtain ⟨sa9, hsa9⟩ := hG.2.2.2.2.2.1 _ _ _ qstr1177
  exact z_throwSXW (names := zNm) hx hb hfl zrx_0 zrx_1 zrx_2 zrx_5 hown (by decide +kernel) (by decide +kernel) (hg _ q683) (hg _ q27) hsa9 (zatX_at zatX_NSE hg hG.2.2.2.2.1) zgoX_NSE hG.1 hG.2.1 hS (by rw [hml]; exact hl.1) dX8_meanAge_9 dX8_meanAge_12 dX8_meanAge_13 dX8_meanAge_16 dX8_meanAge_19 (fun x9 h9 => (htab x9 h9).elim) (Nat.le_of_ble_eq_true rfl) (Nat.le_of_ble_eq_true rfl) (Nat.le_of_ble_eq_true rfl) (Nat.le_of_ble_eq_true rfl) hlocks (fun t9 _ h1 h2 => zX.grown trivial hS h1 h2) hS.2.2 (Nat.le_of_ble_eq_true rfl) (Nat.le_of_ble_eq_true rfl)

abbrev wz_X8_isDamageKept : List Cond := .code yX8_isDamageKept cX8_isDamageKept 2 (Option.some Jvm.ClassFile.FieldType.boolean) :: lw_good
set_option maxHeartbeats 4000000 in
set_option maxRecDepth 100000 in
theorem k_X8_isDamageKept (l : Launch) (G : va_G) (z : Nat) (h0 : Nat) (a1 : Nat) (a2 : Nat) (a3 : Nat) (a4 : Nat) (a5 : Nat) (a6 : Nat) (a7 : Nat) (a8 : Nat) (tol : Int32) (sal : Int32) (c0 : Int32) (e0 : Nat) (sz : Nat)  : Met l yX8_isDamageKept wz_X8_isDamageKept ({ frames := 1, cells := 0, slots := 0, locals := 20 }) (va_Pc [.ref h0] (PR G z [(h0, .inr (12, [.ref a1, .ref a2, .ref a3, .ref a4, .ref a5, .ref a6, .ref a7, .ref a8, .int tol, .int sal])), (a1, .inr (3, [.int c0, .ref e0, .int 0]))] [] sz)) (va_Qi (fun (r : Int32) (_ : Unit) => r = 1) (fun (_ : Unit) (_ : State) => True) (zN sz)) 0 0 (zN sz) := by
  refine Met.ofW (cc := cX8_isDamageKept) (maxL := 2) (ret := (Option.some Jvm.ClassFile.FieldType.boolean)) (by decide) rfl ?_
  intro p e s m args below meth c s₁ B hml hv
  obtain ⟨rfl, rfl, hP, hK, hG⟩ := hv
  have hx := B.exec
  have hb := B.bytes
  have hr := B.returns
  have hts := atoms_spec (ws := wz_X8_isDamageKept) B.pre
  have hg : ∀ w ∈ lw_good, w.before _ s = true := fun w h => hts w (List.mem_cons_of_mem _ h)
  have hown : s.vm.findClass RX8 = some m.cls := findClass_of_methodNamed B.named
  have hlocks := B.notSynchronized
  have hA : ∀ q : Nat, s.heap.size ≤ q → zN s.heap.size q := fun _ h => h
  have hS : va_S (zN s.heap.size) s.heap s.heap [] := va_S.rf
  have hl := lv_entry ([.ref h0]) (n := 2) (Nat.le_of_ble_eq_true rfl)
  rw [lg_entry_eq]
  generalize (lg_sl ([.ref h0]) ++ List.replicate (2 - (lg_sl ([.ref h0])).length) Slot.unset).toArray = ls at hl ⊢
  have hl : lv_has ls 2 [(0, .ref h0)] := hl
  refine lv_iconst (v := 0) hx hb dX8_isDamageKept_0 (by decide) ?_
  refine lv_istore_n (lv' := [(1, .int 0), (0, .ref h0)]) hx hb dX8_isDamageKept_1 rfl hl (by decide) rfl (fun ls hl => ?_)
  refine lv_iload_n hx hb dX8_isDamageKept_2 rfl (lv_at hl 0 rfl) ?_
  refine lv_aload_n hx hb dX8_isDamageKept_3 rfl (lv_at hl 1 rfl) ?_
  refine va_get (D := G) (ci := 12) (v := .ref a1) (C := RX8) (T := TX8) (N := 10) hx hb hg in_X8 hown hK hP 0 rfl rfl 0 (by decide) (hg _ q125) (fun _ h9 => h9) rfl dX8_isDamageKept_4 ?_
  have hPc := hP.sub (ws' := [(a1, .inr (3, [.int c0, .ref e0, .int 0]))]) [1] rfl
  have hKc := hK.sub (tys' := []) [] rfl
  refine va_calli (va_runV (As := []) (rest := [.int 0]) ⟨hx, hb, hml, hown, hts⟩ (k_Jx4a65c_size_8abf5 l G z a1 c0 e0 0 s.heap.size ) (cwV 0 hts (lw_goodApp (lw_4 q160 q161 q162 q4) q163) rfl rfl rfl (by decide +kernel) ⟨Nat.le_of_ble_eq_true rfl, Nat.le_of_ble_eq_true rfl⟩) ⟨PR.blind, va_recv hK hP (ci := 3) (q0 := 1) rfl rfl, PR.of hPc hKc hG hS hA [.ref a1]⟩ rfl rfl hl.1 rfl (lv_room (Nat.le_of_ble_eq_true rfl)) dX8_isDamageKept_7 ⟨Nat.le_of_ble_eq_true rfl, Nat.le_of_ble_eq_true rfl⟩) hS (fun q h9 h => zN.not h9 h) (fun q h => hA q (Nat.le_trans hS.1 h)) (fun r_2 u t_4 H_1 locs ht hvm hw_3 hB hz1 hk1 hS => ?_)
  have hP := hP.grown hk1
  refine W.widen (k := 0) (n := 0) (Nat.le_of_ble_eq_true rfl) (Nat.le_of_ble_eq_true rfl) ?_
  obtain rfl : 0 = r_2 := hw_3.symm
  refine lv_icmp_ge (tgt := 38) hx hb dX8_isDamageKept_10 (by decide) (fun c_5 => ?_) (fun c_5 => absurd (by decide) c_5)
  refine lv_iconst (v := 1) hx hb dX8_isDamageKept_38 (by decide) ?_
  refine W.widen (k := 0) (n := 0) (Nat.le_of_ble_eq_true rfl) (Nat.le_of_ble_eq_true rfl) ?_
  exact W.zret (v := 1) hx hb hr rfl (fun t ht hW => ⟨⟨1, (), rfl, rfl, trivial⟩, hS.F ht⟩) hS.2.2 dX8_isDamageKept_39

abbrev wz_X8_isPaperInTime : List Cond := .code yX8_isPaperInTime cX8_isPaperInTime 4 (Option.some Jvm.ClassFile.FieldType.boolean) :: lw_good
set_option maxHeartbeats 4000000 in
set_option maxRecDepth 100000 in
theorem k_X8_isPaperInTime (l : Launch) (G : va_G) (z : Nat) (h0 : Nat) (a1 : Nat) (a2 : Nat) (a3 : Nat) (a4 : Nat) (a5 : Nat) (a6 : Nat) (a7 : Nat) (a8 : Nat) (tol : Int32) (sal : Int32) (c0 : Int32) (e0 : Nat) (sz : Nat)  : Met l yX8_isPaperInTime wz_X8_isPaperInTime ({ frames := 1, cells := 0, slots := 0, locals := 20 }) (va_Pc [.ref h0] (PR G z [(h0, .inr (12, [.ref a1, .ref a2, .ref a3, .ref a4, .ref a5, .ref a6, .ref a7, .ref a8, .int tol, .int sal])), (a4, .inr (3, [.int c0, .ref e0, .int 0]))] [] sz)) (va_Qi (fun (r : Int32) (_ : Unit) => r = 1) (fun (_ : Unit) (_ : State) => True) (zN sz)) 0 0 (zN sz) := by
  refine Met.ofW (cc := cX8_isPaperInTime) (maxL := 4) (ret := (Option.some Jvm.ClassFile.FieldType.boolean)) (by decide) rfl ?_
  intro p e s m args below meth c s₁ B hml hv
  obtain ⟨rfl, rfl, hP, hK, hG⟩ := hv
  have hx := B.exec
  have hb := B.bytes
  have hr := B.returns
  have hts := atoms_spec (ws := wz_X8_isPaperInTime) B.pre
  have hg : ∀ w ∈ lw_good, w.before _ s = true := fun w h => hts w (List.mem_cons_of_mem _ h)
  have hown : s.vm.findClass RX8 = some m.cls := findClass_of_methodNamed B.named
  have hlocks := B.notSynchronized
  have hA : ∀ q : Nat, s.heap.size ≤ q → zN s.heap.size q := fun _ h => h
  have hS : va_S (zN s.heap.size) s.heap s.heap [] := va_S.rf
  have hl := lv_entry ([.ref h0]) (n := 4) (Nat.le_of_ble_eq_true rfl)
  rw [lg_entry_eq]
  generalize (lg_sl ([.ref h0]) ++ List.replicate (4 - (lg_sl ([.ref h0])).length) Slot.unset).toArray = ls at hl ⊢
  have hl : lv_has ls 4 [(0, .ref h0)] := hl
  refine lv_iconst (v := 0) hx hb dX8_isPaperInTime_0 (by decide) ?_
  refine lv_istore_n (lv' := [(1, .int 0), (0, .ref h0)]) hx hb dX8_isPaperInTime_1 rfl hl (by decide) rfl (fun ls hl => ?_)
  refine lv_iload_n hx hb dX8_isPaperInTime_2 rfl (lv_at hl 0 rfl) ?_
  refine lv_aload_n hx hb dX8_isPaperInTime_3 rfl (lv_at hl 1 rfl) ?_
  refine va_get (D := G) (ci := 12) (v := .ref a4) (C := RX8) (T := TX8) (N := 10) hx hb hg in_X8 hown hK hP 0 rfl rfl 3 (by decide) (hg _ q128) (fun _ h9 => h9) rfl dX8_isPaperInTime_4 ?_
  have hPc := hP.sub (ws' := [(a4, .inr (3, [.int c0, .ref e0, .int 0]))]) [1] rfl
  have hKc := hK.sub (tys' := []) [] rfl
  refine va_calli (va_runV (As := []) (rest := [.int 0]) ⟨hx, hb, hml, hown, hts⟩ (k_Jx4a65c_size_8abf5 l G z a4 c0 e0 0 s.heap.size ) (cwV 0 hts (lw_goodApp (lw_4 q160 q161 q162 q4) q163) rfl rfl rfl (by decide +kernel) ⟨Nat.le_of_ble_eq_true rfl, Nat.le_of_ble_eq_true rfl⟩) ⟨PR.blind, va_recv hK hP (ci := 3) (q0 := 1) rfl rfl, PR.of hPc hKc hG hS hA [.ref a4]⟩ rfl rfl hl.1 rfl (lv_room (Nat.le_of_ble_eq_true rfl)) dX8_isPaperInTime_7 ⟨Nat.le_of_ble_eq_true rfl, Nat.le_of_ble_eq_true rfl⟩) hS (fun q h9 h => zN.not h9 h) (fun q h => hA q (Nat.le_trans hS.1 h)) (fun r_2 u t_4 H_1 locs ht hvm hw_3 hB hz1 hk1 hS => ?_)
  have hP := hP.grown hk1
  refine W.widen (k := 0) (n := 0) (Nat.le_of_ble_eq_true rfl) (Nat.le_of_ble_eq_true rfl) ?_
  obtain rfl : 0 = r_2 := hw_3.symm
  refine lv_icmp_ge (tgt := 65) hx hb dX8_isPaperInTime_10 (by decide) (fun c_5 => ?_) (fun c_5 => absurd (by decide) c_5)
  refine lv_iconst (v := 1) hx hb dX8_isPaperInTime_65 (by decide) ?_
  refine W.widen (k := 0) (n := 0) (Nat.le_of_ble_eq_true rfl) (Nat.le_of_ble_eq_true rfl) ?_
  exact W.zret (v := 1) hx hb hr rfl (fun t ht hW => ⟨⟨1, (), rfl, rfl, trivial⟩, hS.F ht⟩) hS.2.2 dX8_isPaperInTime_66

abbrev wz_X8_isDatedAsTold : List Cond := .code yX8_isDatedAsTold cX8_isDatedAsTold 3 (Option.some Jvm.ClassFile.FieldType.boolean) :: lw_good
set_option maxHeartbeats 4000000 in
set_option maxRecDepth 100000 in
theorem k_X8_isDatedAsTold (l : Launch) (G : va_G) (z : Nat) (h0 : Nat) (a1 : Nat) (a2 : Nat) (a3 : Nat) (a4 : Nat) (a5 : Nat) (a6 : Nat) (a7 : Nat) (a8 : Nat) (tol : Int32) (sal : Int32) (d1 : Nat) (d2 : Nat) (d3 : Nat) (d4 : Nat) (ag : Int32) (c0 : Int32) (e0 : Nat) (sz : Nat)  : Met l yX8_isDatedAsTold wz_X8_isDatedAsTold ({ frames := 1, cells := 0, slots := 0, locals := 22 }) (va_Pc [.ref h0] (PR G z [(h0, .inr (12, [.ref a1, .ref a2, .ref a3, .ref a4, .ref a5, .ref a6, .ref a7, .ref a8, .int tol, .int sal])), (a7, .inr (4, [.ref d1, .ref d2, .ref d3, .ref d4, .int 0, .int ag])), (a4, .inr (3, [.int c0, .ref e0, .int 0]))] [] sz)) (va_Qi (fun (r : Int32) (_ : Unit) => r = 1) (fun (_ : Unit) (_ : State) => True) (zN sz)) 0 0 (zN sz) := by
  refine Met.ofW (cc := cX8_isDatedAsTold) (maxL := 3) (ret := (Option.some Jvm.ClassFile.FieldType.boolean)) (by decide) rfl ?_
  intro p e s m args below meth c s₁ B hml hv
  obtain ⟨rfl, rfl, hP, hK, hG⟩ := hv
  have hx := B.exec
  have hb := B.bytes
  have hr := B.returns
  have hts := atoms_spec (ws := wz_X8_isDatedAsTold) B.pre
  have hg : ∀ w ∈ lw_good, w.before _ s = true := fun w h => hts w (List.mem_cons_of_mem _ h)
  have hown : s.vm.findClass RX8 = some m.cls := findClass_of_methodNamed B.named
  have hlocks := B.notSynchronized
  have hA : ∀ q : Nat, s.heap.size ≤ q → zN s.heap.size q := fun _ h => h
  have hS : va_S (zN s.heap.size) s.heap s.heap [] := va_S.rf
  have hl := lv_entry ([.ref h0]) (n := 3) (Nat.le_of_ble_eq_true rfl)
  rw [lg_entry_eq]
  generalize (lg_sl ([.ref h0]) ++ List.replicate (3 - (lg_sl ([.ref h0])).length) Slot.unset).toArray = ls at hl ⊢
  have hl : lv_has ls 3 [(0, .ref h0)] := hl
  refine lv_aload_n hx hb dX8_isDatedAsTold_0 rfl (lv_at hl 0 rfl) ?_
  refine va_get (D := G) (ci := 12) (v := .ref a7) (C := RX8) (T := TX8) (N := 10) hx hb hg in_X8 hown hK hP 0 rfl rfl 6 (by decide) (hg _ q131) (fun _ h9 => h9) rfl dX8_isDatedAsTold_1 ?_
  refine lv_iconst (v := (-1)) hx hb dX8_isDatedAsTold_4 (by decide) ?_
  have hPc := hP.sub (ws' := [(a7, .inr (4, [.ref d1, .ref d2, .ref d3, .ref d4, .int 0, .int ag]))]) [1] rfl
  have hKc := hK.sub (tys' := []) [] rfl
  refine va_calli (va_runV (As := [.int (-1)]) (rest := []) ⟨hx, hb, hml, hown, hts⟩ (k_X0_fitsWithout l G z a7 d1 d2 d3 d4 ag ((-1)) s.heap.size ) (cwV 1 hts (lw_goodApp (lw_4 q221 q222 q223 q6) q224) rfl rfl rfl (by decide +kernel) ⟨Nat.le_of_ble_eq_true rfl, Nat.le_of_ble_eq_true rfl⟩) ⟨PR.blind, va_recv hK hP (ci := 4) (q0 := 1) rfl rfl, PR.of hPc hKc hG hS hA [.ref a7, .int (-1)]⟩ rfl rfl hl.1 rfl (lv_room (Nat.le_of_ble_eq_true rfl)) dX8_isDatedAsTold_5 ⟨Nat.le_of_ble_eq_true rfl, Nat.le_of_ble_eq_true rfl⟩) hS (fun q h9 h => zN.not h9 h) (fun q h => hA q (Nat.le_trans hS.1 h)) (fun r_2 u t_4 H_1 locs ht hvm hw_3 hB hz1 hk1 hS => ?_)
  have hP := hP.grown hk1
  refine W.widen (k := 0) (n := 0) (Nat.le_of_ble_eq_true rfl) (Nat.le_of_ble_eq_true rfl) ?_
  obtain rfl : 1 = r_2 := hw_3.symm
  refine lv_if_ne (tgt := 13) hx hb dX8_isDatedAsTold_8 (by decide) (fun c_5 => ?_) (fun c_5 => absurd c_5 (by decide))
  refine lv_iconst (v := 0) hx hb dX8_isDatedAsTold_13 (by decide) ?_
  refine lv_istore_n (lv' := [(1, .int 0), (0, .ref h0)]) hx hb dX8_isDatedAsTold_14 rfl hl (by decide) rfl (fun ls hl => ?_)
  refine lv_iload_n hx hb dX8_isDatedAsTold_15 rfl (lv_at hl 0 rfl) ?_
  refine lv_aload_n hx hb dX8_isDatedAsTold_16 rfl (lv_at hl 1 rfl) ?_
  refine va_get (D := G) (ci := 12) (v := .ref a4) (C := RX8) (T := TX8) (N := 10) hx hb hg in_X8 hown hK hP 0 rfl rfl 3 (by decide) (hg _ q128) (fun _ h9 => h9) rfl dX8_isDatedAsTold_17 ?_
  have hPc := hP.sub (ws' := [(a4, .inr (3, [.int c0, .ref e0, .int 0]))]) [2] rfl
  have hKc := hK.sub (tys' := []) [] rfl
  refine va_calli (va_runV (As := []) (rest := [.int 0]) ⟨hx, hb, hml, hown, hts⟩ (k_Jx4a65c_size_8abf5 l G z a4 c0 e0 0 H_1.size ) (cwV 0 hts (lw_goodApp (lw_4 q160 q161 q162 q4) q163) rfl rfl rfl (by decide +kernel) ⟨Nat.le_of_ble_eq_true rfl, Nat.le_of_ble_eq_true rfl⟩) ⟨PR.blind, va_recv hK hP (ci := 3) (q0 := 2) rfl rfl, PR.of hPc hKc hG hS hA [.ref a4]⟩ rfl rfl hl.1 rfl (lv_room (Nat.le_of_ble_eq_true rfl)) dX8_isDatedAsTold_20 ⟨Nat.le_of_ble_eq_true rfl, Nat.le_of_ble_eq_true rfl⟩) hS (fun q h9 h => zN.not h9 h) (fun q h => hA q (Nat.le_trans hS.1 h)) (fun r_7 u t_9 H_6 locs ht hvm hw_8 hB hz1 hk1 hS => ?_)
  have hP := hP.grown hk1
  refine W.widen (k := 0) (n := 0) (Nat.le_of_ble_eq_true rfl) (Nat.le_of_ble_eq_true rfl) ?_
  obtain rfl : 0 = r_7 := hw_8.symm
  refine lv_icmp_ge (tgt := 76) hx hb dX8_isDatedAsTold_23 (by decide) (fun c_10 => ?_) (fun c_10 => absurd (by decide) c_10)
  refine lv_iconst (v := 1) hx hb dX8_isDatedAsTold_76 (by decide) ?_
  refine W.widen (k := 0) (n := 0) (Nat.le_of_ble_eq_true rfl) (Nat.le_of_ble_eq_true rfl) ?_
  exact W.zret (v := 1) hx hb hr rfl (fun t ht hW => ⟨⟨1, (), rfl, rfl, trivial⟩, hS.F ht⟩) hS.2.2 dX8_isDatedAsTold_77

abbrev wz_X8_isSound : List Cond := .code yX8_isSound cX8_isSound 1 (Option.some Jvm.ClassFile.FieldType.boolean) :: lw_good
set_option maxHeartbeats 4000000 in
set_option maxRecDepth 100000 in
/-- isSound -/
theorem k_X8_isSound (l : Launch) (G : va_G) (z : Nat) (h0 : Nat) (a1 : Nat) (a2 : Nat) (a3 : Nat) (a4 : Nat) (a5 : Nat) (a6 : Nat) (a7 : Nat) (a8 : Nat) (tol : Int32) (sal : Int32) (d1 : Nat) (d2 : Nat) (d3 : Nat) (d4 : Nat) (ag : Int32) (c1 : Int32) (e1 : Nat) (c2 : Int32) (e2 : Nat) (c3 : Int32) (e3 : Nat) (c4 : Int32) (e4 : Nat) (sz : Nat)  : Met l yX8_isSound wz_X8_isSound ({ frames := 2, cells := 0, slots := 0, locals := 44 }) (va_Pc [.ref h0] (PR G z [(h0, .inr (12, [.ref a1, .ref a2, .ref a3, .ref a4, .ref a5, .ref a6, .ref a7, .ref a8, .int tol, .int sal])), (a7, .inr (4, [.ref d1, .ref d2, .ref d3, .ref d4, .int 0, .int ag])), (a1, .inr (3, [.int c1, .ref e1, .int 0])), (a2, .inr (3, [.int c2, .ref e2, .int 0])), (a3, .inr (3, [.int c3, .ref e3, .int 0])), (a4, .inr (3, [.int c4, .ref e4, .int 0]))] [] sz)) (va_Qi (fun (r : Int32) (_ : Unit) => r = 1) (fun (_ : Unit) (_ : State) => True) (zN sz)) 0 0 (zN sz) := by
  refine Met.ofW (cc := cX8_isSound) (maxL := 1) (ret := (Option.some Jvm.ClassFile.FieldType.boolean)) (by decide) rfl ?_
  intro p e s m args below meth c s₁ B hml hv
  obtain ⟨rfl, rfl, hP, hK, hG⟩ := hv
  have hx := B.exec
  have hb := B.bytes
  have hr := B.returns
  have hts := atoms_spec (ws := wz_X8_isSound) B.pre
  have hg : ∀ w ∈ lw_good, w.before _ s = true := fun w h => hts w (List.mem_cons_of_mem _ h)
  have hown : s.vm.findClass RX8 = some m.cls := findClass_of_methodNamed B.named
  have hlocks := B.notSynchronized
  have hA : ∀ q : Nat, s.heap.size ≤ q → zN s.heap.size q := fun _ h => h
  have hS : va_S (zN s.heap.size) s.heap s.heap [] := va_S.rf
  have hl := lv_entry ([.ref h0]) (n := 1) (Nat.le_of_ble_eq_true rfl)
  rw [lg_entry_eq]
  generalize (lg_sl ([.ref h0]) ++ List.replicate (1 - (lg_sl ([.ref h0])).length) Slot.unset).toArray = ls at hl ⊢
  have hl : lv_has ls 1 [(0, .ref h0)] := hl
  refine lv_aload_n hx hb dX8_isSound_0 rfl (lv_at hl 0 rfl) ?_
  have hPc := hP.sub (ws' := [(h0, .inr (12, [.ref a1, .ref a2, .ref a3, .ref a4, .ref a5, .ref a6, .ref a7, .ref a8, .int tol, .int sal])), (a2, .inr (3, [.int c2, .ref e2, .int 0]))]) [0, 3] rfl
  have hKc := hK.sub (tys' := []) [] rfl
  refine va_calli (va_runV (As := []) (rest := []) ⟨hx, hb, hml, hown, hts⟩ (k_X8_sheetsInLots l G z h0 a1 a2 a3 a4 a5 a6 a7 a8 tol sal c2 e2 s.heap.size ) (cwV 0 hts (lw_goodApp (lw_4 q251 q253 qs3 q1) q254) rfl rfl rfl (by decide +kernel) ⟨Nat.le_of_ble_eq_true rfl, Nat.le_of_ble_eq_true rfl⟩) ⟨PR.blind, va_recv hK hP (ci := 12) (q0 := 0) rfl rfl, PR.of hPc hKc hG hS hA [.ref h0]⟩ rfl rfl hl.1 rfl (lv_room (Nat.le_of_ble_eq_true rfl)) dX8_isSound_1 ⟨Nat.le_of_ble_eq_true rfl, Nat.le_of_ble_eq_true rfl⟩) hS (fun q h9 h => zN.not h9 h) (fun q h => hA q (Nat.le_trans hS.1 h)) (fun r_2 u t_4 H_1 locs ht hvm hw_3 hB hz1 hk1 hS => ?_)
  have hP := hP.grown hk1
  refine W.widen (k := 0) (n := 0) (Nat.le_of_ble_eq_true rfl) (Nat.le_of_ble_eq_true rfl) ?_
  obtain rfl : 0 = r_2 := hw_3.symm
  refine lv_aload_n hx hb dX8_isSound_4 rfl (lv_at hl 0 rfl) ?_
  have hPc := hP.sub (ws' := [(h0, .inr (12, [.ref a1, .ref a2, .ref a3, .ref a4, .ref a5, .ref a6, .ref a7, .ref a8, .int tol, .int sal])), (a3, .inr (3, [.int c3, .ref e3, .int 0]))]) [0, 4] rfl
  have hKc := hK.sub (tys' := []) [] rfl
  refine va_calli (va_runV (As := []) (rest := [.int 0]) ⟨hx, hb, hml, hown, hts⟩ (k_X8_sheetsInReams l G z h0 a1 a2 a3 a4 a5 a6 a7 a8 tol sal c3 e3 H_1.size ) (cwV 0 hts (lw_goodApp (lw_4 q260 q262 qs4 q1) q263) rfl rfl rfl (by decide +kernel) ⟨Nat.le_of_ble_eq_true rfl, Nat.le_of_ble_eq_true rfl⟩) ⟨PR.blind, va_recv hK hP (ci := 12) (q0 := 0) rfl rfl, PR.of hPc hKc hG hS hA [.ref h0]⟩ rfl rfl hl.1 rfl (lv_room (Nat.le_of_ble_eq_true rfl)) dX8_isSound_5 ⟨Nat.le_of_ble_eq_true rfl, Nat.le_of_ble_eq_true rfl⟩) hS (fun q h9 h => zN.not h9 h) (fun q h => hA q (Nat.le_trans hS.1 h)) (fun r_6 u t_8 H_5 locs ht hvm hw_7 hB hz1 hk1 hS => ?_)
  have hP := hP.grown hk1
  refine W.widen (k := 0) (n := 0) (Nat.le_of_ble_eq_true rfl) (Nat.le_of_ble_eq_true rfl) ?_
  obtain rfl : 0 = r_6 := hw_7.symm
  refine lv_iadd hx hb dX8_isSound_8 ?_
  refine lv_topi (fun f_9 ef_9 => ?_)
  obtain rfl : f_9 = 0 := ef_9.trans (by decide)
  refine lv_aload_n hx hb dX8_isSound_9 rfl (lv_at hl 0 rfl) ?_
  have hPc := hP.sub (ws' := [(h0, .inr (12, [.ref a1, .ref a2, .ref a3, .ref a4, .ref a5, .ref a6, .ref a7, .ref a8, .int tol, .int sal])), (a4, .inr (3, [.int c4, .ref e4, .int 0]))]) [0, 5] rfl
  have hKc := hK.sub (tys' := []) [] rfl
  refine va_calli (va_runV (As := []) (rest := [.int 0]) ⟨hx, hb, hml, hown, hts⟩ (k_X8_sheetsInDocuments l G z h0 a1 a2 a3 a4 a5 a6 a7 a8 tol sal c4 e4 H_5.size ) (cwV 0 hts (lw_goodApp (lw_4 q265 q267 qs5 q1) q268) rfl rfl rfl (by decide +kernel) ⟨Nat.le_of_ble_eq_true rfl, Nat.le_of_ble_eq_true rfl⟩) ⟨PR.blind, va_recv hK hP (ci := 12) (q0 := 0) rfl rfl, PR.of hPc hKc hG hS hA [.ref h0]⟩ rfl rfl hl.1 rfl (lv_room (Nat.le_of_ble_eq_true rfl)) dX8_isSound_10 ⟨Nat.le_of_ble_eq_true rfl, Nat.le_of_ble_eq_true rfl⟩) hS (fun q h9 h => zN.not h9 h) (fun q h => hA q (Nat.le_trans hS.1 h)) (fun r_11 u t_13 H_10 locs ht hvm hw_12 hB hz1 hk1 hS => ?_)
  have hP := hP.grown hk1
  refine W.widen (k := 0) (n := 0) (Nat.le_of_ble_eq_true rfl) (Nat.le_of_ble_eq_true rfl) ?_
  obtain rfl : 0 = r_11 := hw_12.symm
  refine lv_iadd hx hb dX8_isSound_13 ?_
  refine lv_topi (fun f_14 ef_14 => ?_)
  obtain rfl : f_14 = 0 := ef_14.trans (by decide)
  refine lv_aload_n hx hb dX8_isSound_14 rfl (lv_at hl 0 rfl) ?_
  have hPc := hP.sub (ws' := [(h0, .inr (12, [.ref a1, .ref a2, .ref a3, .ref a4, .ref a5, .ref a6, .ref a7, .ref a8, .int tol, .int sal])), (a2, .inr (3, [.int c2, .ref e2, .int 0]))]) [0, 3] rfl
  have hKc := hK.sub (tys' := []) [] rfl
  refine va_calli (va_runV (As := []) (rest := [.int 0]) ⟨hx, hb, hml, hown, hts⟩ (k_X8_sheetsMade l G z h0 a1 a2 a3 a4 a5 a6 a7 a8 tol sal c2 e2 H_10.size ) (cwV 0 hts (lw_goodApp (lw_4 q270 q272 qs6 q1) q273) rfl rfl rfl (by decide +kernel) ⟨Nat.le_of_ble_eq_true rfl, Nat.le_of_ble_eq_true rfl⟩) ⟨PR.blind, va_recv hK hP (ci := 12) (q0 := 0) rfl rfl, PR.of hPc hKc hG hS hA [.ref h0]⟩ rfl rfl hl.1 rfl (lv_room (Nat.le_of_ble_eq_true rfl)) dX8_isSound_15 ⟨Nat.le_of_ble_eq_true rfl, Nat.le_of_ble_eq_true rfl⟩) hS (fun q h9 h => zN.not h9 h) (fun q h => hA q (Nat.le_trans hS.1 h)) (fun r_16 u t_18 H_15 locs ht hvm hw_17 hB hz1 hk1 hS => ?_)
  have hP := hP.grown hk1
  refine W.widen (k := 0) (n := 0) (Nat.le_of_ble_eq_true rfl) (Nat.le_of_ble_eq_true rfl) ?_
  obtain rfl : 0 = r_16 := hw_17.symm
  refine lv_icmp_ne (tgt := 46) hx hb dX8_isSound_18 (by decide) (fun c_19 => absurd rfl c_19) (fun c_19 => ?_)
  refine lv_aload_n hx hb dX8_isSound_21 rfl (lv_at hl 0 rfl) ?_
  have hPc := hP.sub (ws' := [(h0, .inr (12, [.ref a1, .ref a2, .ref a3, .ref a4, .ref a5, .ref a6, .ref a7, .ref a8, .int tol, .int sal])), (a1, .inr (3, [.int c1, .ref e1, .int 0]))]) [0, 2] rfl
  have hKc := hK.sub (tys' := []) [] rfl
  refine va_calli (va_runV (As := []) (rest := []) ⟨hx, hb, hml, hown, hts⟩ (k_X8_isDamageKept l G z h0 a1 a2 a3 a4 a5 a6 a7 a8 tol sal c1 e1 H_15.size ) (cwV 0 hts (lw_goodApp (lw_4 q274 q276 qs7 q1) q277) rfl rfl rfl (by decide +kernel) ⟨Nat.le_of_ble_eq_true rfl, Nat.le_of_ble_eq_true rfl⟩) ⟨PR.blind, va_recv hK hP (ci := 12) (q0 := 0) rfl rfl, PR.of hPc hKc hG hS hA [.ref h0]⟩ rfl rfl hl.1 rfl (lv_room (Nat.le_of_ble_eq_true rfl)) dX8_isSound_22 ⟨Nat.le_of_ble_eq_true rfl, Nat.le_of_ble_eq_true rfl⟩) hS (fun q h9 h => zN.not h9 h) (fun q h => hA q (Nat.le_trans hS.1 h)) (fun r_21 u t_23 H_20 locs ht hvm hw_22 hB hz1 hk1 hS => ?_)
  have hP := hP.grown hk1
  refine W.widen (k := 0) (n := 0) (Nat.le_of_ble_eq_true rfl) (Nat.le_of_ble_eq_true rfl) ?_
  obtain rfl : 1 = r_21 := hw_22.symm
  refine lv_if_eq (tgt := 46) hx hb dX8_isSound_25 (by decide) (fun c_24 => absurd c_24 (by decide)) (fun c_24 => ?_)
  refine lv_aload_n hx hb dX8_isSound_28 rfl (lv_at hl 0 rfl) ?_
  have hPc := hP.sub (ws' := [(h0, .inr (12, [.ref a1, .ref a2, .ref a3, .ref a4, .ref a5, .ref a6, .ref a7, .ref a8, .int tol, .int sal])), (a4, .inr (3, [.int c4, .ref e4, .int 0]))]) [0, 5] rfl
  have hKc := hK.sub (tys' := []) [] rfl
  refine va_calli (va_runV (As := []) (rest := []) ⟨hx, hb, hml, hown, hts⟩ (k_X8_isPaperInTime l G z h0 a1 a2 a3 a4 a5 a6 a7 a8 tol sal c4 e4 H_20.size ) (cwV 0 hts (lw_goodApp (lw_4 q287 q289 qs8 q1) q290) rfl rfl rfl (by decide +kernel) ⟨Nat.le_of_ble_eq_true rfl, Nat.le_of_ble_eq_true rfl⟩) ⟨PR.blind, va_recv hK hP (ci := 12) (q0 := 0) rfl rfl, PR.of hPc hKc hG hS hA [.ref h0]⟩ rfl rfl hl.1 rfl (lv_room (Nat.le_of_ble_eq_true rfl)) dX8_isSound_29 ⟨Nat.le_of_ble_eq_true rfl, Nat.le_of_ble_eq_true rfl⟩) hS (fun q h9 h => zN.not h9 h) (fun q h => hA q (Nat.le_trans hS.1 h)) (fun r_26 u t_28 H_25 locs ht hvm hw_27 hB hz1 hk1 hS => ?_)
  have hP := hP.grown hk1
  refine W.widen (k := 0) (n := 0) (Nat.le_of_ble_eq_true rfl) (Nat.le_of_ble_eq_true rfl) ?_
  obtain rfl : 1 = r_26 := hw_27.symm
  refine lv_if_eq (tgt := 46) hx hb dX8_isSound_32 (by decide) (fun c_29 => absurd c_29 (by decide)) (fun c_29 => ?_)
  refine lv_aload_n hx hb dX8_isSound_35 rfl (lv_at hl 0 rfl) ?_
  have hPc := hP.sub (ws' := [(h0, .inr (12, [.ref a1, .ref a2, .ref a3, .ref a4, .ref a5, .ref a6, .ref a7, .ref a8, .int tol, .int sal])), (a7, .inr (4, [.ref d1, .ref d2, .ref d3, .ref d4, .int 0, .int ag])), (a4, .inr (3, [.int c4, .ref e4, .int 0]))]) [0, 1, 5] rfl
  have hKc := hK.sub (tys' := []) [] rfl
  refine va_calli (va_runV (As := []) (rest := []) ⟨hx, hb, hml, hown, hts⟩ (k_X8_isDatedAsTold l G z h0 a1 a2 a3 a4 a5 a6 a7 a8 tol sal d1 d2 d3 d4 ag c4 e4 H_25.size ) (cwV 0 hts (lw_goodApp (lw_4 q294 q296 qs9 q1) q297) rfl rfl rfl (by decide +kernel) ⟨Nat.le_of_ble_eq_true rfl, Nat.le_of_ble_eq_true rfl⟩) ⟨PR.blind, va_recv hK hP (ci := 12) (q0 := 0) rfl rfl, PR.of hPc hKc hG hS hA [.ref h0]⟩ rfl rfl hl.1 rfl (lv_room (Nat.le_of_ble_eq_true rfl)) dX8_isSound_36 ⟨Nat.le_of_ble_eq_true rfl, Nat.le_of_ble_eq_true rfl⟩) hS (fun q h9 h => zN.not h9 h) (fun q h => hA q (Nat.le_trans hS.1 h)) (fun r_31 u t_33 H_30 locs ht hvm hw_32 hB hz1 hk1 hS => ?_)
  have hP := hP.grown hk1
  refine W.widen (k := 0) (n := 0) (Nat.le_of_ble_eq_true rfl) (Nat.le_of_ble_eq_true rfl) ?_
  obtain rfl : 1 = r_31 := hw_32.symm
  refine lv_if_eq (tgt := 46) hx hb dX8_isSound_39 (by decide) (fun c_34 => absurd c_34 (by decide)) (fun c_34 => ?_)
  refine lv_iconst (v := 1) hx hb dX8_isSound_42 (by decide) ?_
  refine lv_goto (tgt := 47) hx hb dX8_isSound_43 (by decide) ?_
  refine W.widen (k := 0) (n := 0) (Nat.le_of_ble_eq_true rfl) (Nat.le_of_ble_eq_true rfl) ?_
  exact W.zret (v := 1) hx hb hr rfl (fun t ht hW => ⟨⟨1, (), rfl, rfl, trivial⟩, hS.F ht⟩) hS.2.2 dX8_isSound_47

abbrev wz_X8_unmerge : List Cond := .code yX8_unmerge cX8_unmerge 1 (Option.some Jvm.ClassFile.FieldType.int) :: lw_good
set_option maxHeartbeats 4000000 in
set_option maxRecDepth 100000 in
/-- unmerge: none left -/
theorem k_X8_unmerge (l : Launch) (hfl : l.stackTraces = false) (G : va_G) (z : Nat) (h0 : Nat) (a1 : Nat) (a2 : Nat) (a3 : Nat) (a4 : Nat) (a5 : Nat) (a6 : Nat) (a7 : Nat) (a8 : Nat) (tol : Int32) (sal : Int32) (b1 : Nat) (b2 : Nat) (b3 : Nat) (sz : Nat)  : vx_Met l yX8_unmerge wz_X8_unmerge ({ frames := 6, cells := 1, slots := 6, locals := 82 }) (va_Pc [.ref h0] (PR G z [(h0, .inr (12, [.ref a1, .ref a2, .ref a3, .ref a4, .ref a5, .ref a6, .ref a7, .ref a8, .int tol, .int sal])), (a6, .inr (10, [.ref b1, .ref b2, .ref b3, .int 0]))] [] sz)) (va_Qi (fun (r : Int32) (_ : Unit) => False) (fun (_ : Unit) (_ : State) => True) (zN sz)) (zX (True) "java/util/NoSuchElementException" (zN sz)) 1 6 (zN sz) := by
  refine vx_ofW (cc := cX8_unmerge) (maxL := 1) (ret := (Option.some Jvm.ClassFile.FieldType.int)) (by decide) rfl ?_
  intro p e s m args below meth c s₁ B hml htab hv
  obtain ⟨rfl, rfl, hP, hK, hG⟩ := hv
  have hx := B.exec
  have hb := B.bytes
  have hr := B.returns
  have hts := atoms_spec (ws := wz_X8_unmerge) B.pre
  have hg : ∀ w ∈ lw_good, w.before _ s = true := fun w h => hts w (List.mem_cons_of_mem _ h)
  have hown : s.vm.findClass RX8 = some m.cls := findClass_of_methodNamed B.named
  have hlocks := B.notSynchronized
  have hA : ∀ q : Nat, s.heap.size ≤ q → zN s.heap.size q := fun _ h => h
  have hS : va_S (zN s.heap.size) s.heap s.heap [] := va_S.rf
  have hl := lv_entry ([.ref h0]) (n := 1) (Nat.le_of_ble_eq_true rfl)
  rw [lg_entry_eq]
  generalize (lg_sl ([.ref h0]) ++ List.replicate (1 - (lg_sl ([.ref h0])).length) Slot.unset).toArray = ls at hl ⊢
  have hl : lv_has ls 1 [(0, .ref h0)] := hl
  refine lv_aload_n hx hb dX8_unmerge_0 rfl (lv_at hl 0 rfl) ?_
  refine va_get (D := G) (ci := 12) (v := .ref a6) (C := RX8) (T := TX8) (N := 10) hx hb hg in_X8 hown hK hP 0 rfl rfl 5 (by decide) (hg _ q130) (fun _ h9 => h9) rfl dX8_unmerge_1 ?_
  refine va_get (D := G) (ci := 10) (v := .int 0) (C := RX6) (T := TX6) (N := 4) hx hb hg in_X6 hown hK hP 1 rfl rfl 3 (by decide) (hg _ q84) (fun _ h9 => h9) rfl dX8_unmerge_4 ?_
  refine lv_if_ne (tgt := 21) hx hb dX8_unmerge_7 (by decide) (fun c_1 => absurd rfl c_1) (fun c_1 => ?_)
  obtain ⟨sa9, hsa9⟩ := hG.2.2.2.2.2.1 _ _ _ qstr1048
  exact z_throwSXW (names := zNm) hx hb hfl zrx_0 zrx_1 zrx_2 zrx_5 hown (by decide +kernel) (by decide +kernel) (hg _ q683) (hg _ q27) hsa9 (zatX_at zatX_NSE hg hG.2.2.2.2.1) zgoX_NSE hG.1 hG.2.1 hS (by rw [hml]; exact hl.1) dX8_unmerge_10 dX8_unmerge_13 dX8_unmerge_14 dX8_unmerge_17 dX8_unmerge_20 (fun x9 h9 => (htab x9 h9).elim) (Nat.le_of_ble_eq_true rfl) (Nat.le_of_ble_eq_true rfl) (Nat.le_of_ble_eq_true rfl) (Nat.le_of_ble_eq_true rfl) hlocks (fun t9 _ h1 h2 => zX.grown trivial hS h1 h2) hS.2.2 (Nat.le_of_ble_eq_true rfl) (Nat.le_of_ble_eq_true rfl)
end
section
theorem in_X1 : ∀ w ∈ u_ws RX1 TX1 7, w ∈ lw_good := by decide +kernel
theorem in_X4 : ∀ w ∈ u_ws RX4 TX4 11, w ∈ lw_good := by decide +kernel
theorem in_X5 : ∀ w ∈ u_ws RX5 TX5 3, w ∈ lw_good := by decide +kernel
theorem mmin_c : Cond.code Lib.Math.min.name Lib.Math.min.code 2 (some .int) ∈ lw_good := lw_in (i := 239) (by decide +kernel) (by decide +kernel)
theorem mmin_lX044 : Cond.methodLink "Watermarkmill$Dating" 44 Lib.Math.min.name ∈ lw_good := lw_in (i := 237) (by decide +kernel) (by decide +kernel)
theorem mmin_s : Cond.static Lib.Math.min.name ∈ lw_good := lw_in (i := 238) (by decide +kernel) (by decide +kernel)
theorem q1034 : Cond.code yX8_checkEntry prog_1_method_54_code 2 (Option.none : Option Jvm.ClassFile.FieldType) ∈ lw_good := lw_in (i := 1034) (by decide +kernel) (by decide +kernel)
theorem q108 : Cond.fieldLink "Watermarkmill$Dating" 23 "Watermarkmill$Dating" "steps" "[[I" ∈ lw_good := lw_in (i := 108) (by decide +kernel) (by decide +kernel)
theorem q13 : Cond.initialized "Watermarkmill$Mould" ∈ lw_good := lw_in (i := 13) (by decide +kernel) (by decide +kernel)
theorem q264 : Cond.classLink "Watermarkmill" 165 "Watermarkmill$Ream" ∈ lw_good := lw_in (i := 264) (by decide +kernel) (by decide +kernel)
theorem q269 : Cond.classLink "Watermarkmill" 203 "Watermarkmill$Document" ∈ lw_good := lw_in (i := 269) (by decide +kernel) (by decide +kernel)
theorem q278 : Cond.classLink "Watermarkmill" 65 "Watermarkmill$Mould" ∈ lw_good := lw_in (i := 278) (by decide +kernel) (by decide +kernel)
theorem q30 : Cond.initialized "Watermarkmill$Ream" ∈ lw_good := lw_in (i := 30) (by decide +kernel) (by decide +kernel)
theorem q307 : Cond.code yX8_mould prog_1_method_2_code 7 (Option.some Jvm.ClassFile.FieldType.int) ∈ lw_good := lw_in (i := 307) (by decide +kernel) (by decide +kernel)
theorem q32 : Cond.initialized "Watermarkmill$Document" ∈ lw_good := lw_in (i := 32) (by decide +kernel) (by decide +kernel)
theorem q383 : Cond.methodLink "Watermarkmill" 61 yX8_checkRoom ∈ lw_good := lw_in (i := 383) (by decide +kernel) (by decide +kernel)
theorem q384 : Cond.static yX8_checkRoom ∈ lw_good := lw_in (i := 384) (by decide +kernel) (by decide +kernel)
theorem q402 : Cond.instantiable "Watermarkmill$Mould" 11 ∈ lw_good := lw_in (i := 402) (by decide +kernel) (by decide +kernel)
theorem q403 : Cond.methodLink "Watermarkmill" 67 yX4_init ∈ lw_good := lw_in (i := 403) (by decide +kernel) (by decide +kernel)
theorem q404 : Cond.instanceMethod yX4_init ∈ lw_good := lw_in (i := 404) (by decide +kernel) (by decide +kernel)
theorem q405 : Cond.code yX4_init prog_6_method_1_code 4 (Option.none : Option Jvm.ClassFile.FieldType) ∈ lw_good := lw_in (i := 405) (by decide +kernel) (by decide +kernel)
theorem q406 : Cond.methodLink "Watermarkmill$Mould" 3 ⟨"java/lang/Object", "<init>", "()V"⟩ ∈ lw_good := lw_in (i := 406) (by decide +kernel) (by decide +kernel)
theorem q407 : Cond.fieldLink "Watermarkmill$Mould" 38 "Watermarkmill$Mould" "mill" "I" ∈ lw_good := lw_in (i := 407) (by decide +kernel) (by decide +kernel)
theorem q408 : Cond.fieldLink "Watermarkmill$Mould" 41 "Watermarkmill$Mould" "mark" "I" ∈ lw_good := lw_in (i := 408) (by decide +kernel) (by decide +kernel)
theorem q410 : Cond.fieldLink "Watermarkmill$Mould" 44 "Watermarkmill$Mould" "distances" "[I" ∈ lw_good := lw_in (i := 410) (by decide +kernel) (by decide +kernel)
theorem q412 : Cond.fieldLink "Watermarkmill$Mould" 9 "Watermarkmill$Mould" "damagedWires" "[I" ∈ lw_good := lw_in (i := 412) (by decide +kernel) (by decide +kernel)
theorem q413 : Cond.fieldLink "Watermarkmill$Mould" 15 "Watermarkmill$Mould" "damageKinds" "[I" ∈ lw_good := lw_in (i := 413) (by decide +kernel) (by decide +kernel)
theorem q414 : Cond.fieldLink "Watermarkmill$Mould" 18 "Watermarkmill$Mould" "damageYears" "[I" ∈ lw_good := lw_in (i := 414) (by decide +kernel) (by decide +kernel)
theorem q415 : Cond.fieldLink "Watermarkmill$Mould" 21 "Watermarkmill$Mould" "damages" "I" ∈ lw_good := lw_in (i := 415) (by decide +kernel) (by decide +kernel)
theorem q417 : Cond.fieldLink "Watermarkmill$Mould" 25 "Watermarkmill$Mould" "twin" "I" ∈ lw_good := lw_in (i := 417) (by decide +kernel) (by decide +kernel)
theorem q419 : Cond.fieldLink "Watermarkmill$Mould" 28 "Watermarkmill$Mould" "retired" "I" ∈ lw_good := lw_in (i := 419) (by decide +kernel) (by decide +kernel)
theorem q421 : Cond.fieldLink "Watermarkmill$Mould" 31 "Watermarkmill$Mould" "lastUse" "I" ∈ lw_good := lw_in (i := 421) (by decide +kernel) (by decide +kernel)
theorem q423 : Cond.fieldLink "Watermarkmill$Mould" 34 "Watermarkmill$Mould" "lastSale" "LWatermarkmill$Sale;" ∈ lw_good := lw_in (i := 423) (by decide +kernel) (by decide +kernel)
theorem q448 : Cond.methodLink "Watermarkmill" 70 yJx4a65c_add_9ea2d ∈ lw_good := lw_in (i := 448) (by decide +kernel) (by decide +kernel)
theorem q449 : Cond.instanceMethod yJx4a65c_add_9ea2d ∈ lw_good := lw_in (i := 449) (by decide +kernel) (by decide +kernel)
theorem q450 : Cond.selects "java/util/ArrayList" yJx4a65c_add_9ea2d yJx4a65c_add_9ea2d ∈ lw_good := lw_in (i := 450) (by decide +kernel) (by decide +kernel)
theorem q595 : Cond.methodLink "Watermarkmill" 99 yX8_checkYear ∈ lw_good := lw_in (i := 595) (by decide +kernel) (by decide +kernel)
theorem q596 : Cond.static yX8_checkYear ∈ lw_good := lw_in (i := 596) (by decide +kernel) (by decide +kernel)
theorem q736 : Cond.code yX8_ream prog_1_method_12_code 2 (Option.some Jvm.ClassFile.FieldType.int) ∈ lw_good := lw_in (i := 736) (by decide +kernel) (by decide +kernel)
theorem q737 : Cond.instantiable "Watermarkmill$Ream" 3 ∈ lw_good := lw_in (i := 737) (by decide +kernel) (by decide +kernel)
theorem q738 : Cond.methodLink "Watermarkmill" 167 yX5_init ∈ lw_good := lw_in (i := 738) (by decide +kernel) (by decide +kernel)
theorem q739 : Cond.instanceMethod yX5_init ∈ lw_good := lw_in (i := 739) (by decide +kernel) (by decide +kernel)
theorem q740 : Cond.code yX5_init prog_7_method_1_code 2 (Option.none : Option Jvm.ClassFile.FieldType) ∈ lw_good := lw_in (i := 740) (by decide +kernel) (by decide +kernel)
theorem q741 : Cond.methodLink "Watermarkmill$Ream" 3 ⟨"java/lang/Object", "<init>", "()V"⟩ ∈ lw_good := lw_in (i := 741) (by decide +kernel) (by decide +kernel)
theorem q742 : Cond.fieldLink "Watermarkmill$Ream" 19 "Watermarkmill$Ream" "mill" "I" ∈ lw_good := lw_in (i := 742) (by decide +kernel) (by decide +kernel)
theorem q744 : Cond.fieldLink "Watermarkmill$Ream" 9 "Watermarkmill$Ream" "sheets" "[I" ∈ lw_good := lw_in (i := 744) (by decide +kernel) (by decide +kernel)
theorem q746 : Cond.fieldLink "Watermarkmill$Ream" 15 "Watermarkmill$Ream" "count" "I" ∈ lw_good := lw_in (i := 746) (by decide +kernel) (by decide +kernel)
theorem q803 : Cond.code yX8_document prog_1_method_15_code 3 (Option.some Jvm.ClassFile.FieldType.int) ∈ lw_good := lw_in (i := 803) (by decide +kernel) (by decide +kernel)
theorem q804 : Cond.instantiable "Watermarkmill$Document" 7 ∈ lw_good := lw_in (i := 804) (by decide +kernel) (by decide +kernel)
theorem q805 : Cond.methodLink "Watermarkmill" 205 yX1_init ∈ lw_good := lw_in (i := 805) (by decide +kernel) (by decide +kernel)
theorem q806 : Cond.instanceMethod yX1_init ∈ lw_good := lw_in (i := 806) (by decide +kernel) (by decide +kernel)
theorem q807 : Cond.code yX1_init prog_3_method_1_code 3 (Option.none : Option Jvm.ClassFile.FieldType) ∈ lw_good := lw_in (i := 807) (by decide +kernel) (by decide +kernel)
theorem q808 : Cond.methodLink "Watermarkmill$Document" 3 ⟨"java/lang/Object", "<init>", "()V"⟩ ∈ lw_good := lw_in (i := 808) (by decide +kernel) (by decide +kernel)
theorem q809 : Cond.fieldLink "Watermarkmill$Document" 26 "Watermarkmill$Document" "year" "I" ∈ lw_good := lw_in (i := 809) (by decide +kernel) (by decide +kernel)
theorem q811 : Cond.fieldLink "Watermarkmill$Document" 29 "Watermarkmill$Document" "leaves" "I" ∈ lw_good := lw_in (i := 811) (by decide +kernel) (by decide +kernel)
theorem q813 : Cond.fieldLink "Watermarkmill$Document" 9 "Watermarkmill$Document" "sheets" "[I" ∈ lw_good := lw_in (i := 813) (by decide +kernel) (by decide +kernel)
theorem q815 : Cond.fieldLink "Watermarkmill$Document" 15 "Watermarkmill$Document" "stocks" "[I" ∈ lw_good := lw_in (i := 815) (by decide +kernel) (by decide +kernel)
theorem q817 : Cond.fieldLink "Watermarkmill$Document" 32 "Watermarkmill$Document" "sources" "[I" ∈ lw_good := lw_in (i := 817) (by decide +kernel) (by decide +kernel)
theorem q818 : Cond.fieldLink "Watermarkmill$Document" 18 "Watermarkmill$Document" "count" "I" ∈ lw_good := lw_in (i := 818) (by decide +kernel) (by decide +kernel)
theorem q820 : Cond.fieldLink "Watermarkmill$Document" 22 "Watermarkmill$Document" "isWashed" "Z" ∈ lw_good := lw_in (i := 820) (by decide +kernel) (by decide +kernel)
theorem q837 : Cond.methodLink "Watermarkmill" 207 yX0_addDocument ∈ lw_good := lw_in (i := 837) (by decide +kernel) (by decide +kernel)
theorem q838 : Cond.instanceMethod yX0_addDocument ∈ lw_good := lw_in (i := 838) (by decide +kernel) (by decide +kernel)
theorem q839 : Cond.selects "Watermarkmill$Dating" yX0_addDocument yX0_addDocument ∈ lw_good := lw_in (i := 839) (by decide +kernel) (by decide +kernel)
theorem q840 : Cond.code yX0_addDocument prog_2_method_2_code 1 (Option.none : Option Jvm.ClassFile.FieldType) ∈ lw_good := lw_in (i := 840) (by decide +kernel) (by decide +kernel)
theorem q841 : Cond.methodLink "Watermarkmill$Dating" 33 yX0_tellSteps ∈ lw_good := lw_in (i := 841) (by decide +kernel) (by decide +kernel)
theorem q842 : Cond.instanceMethod yX0_tellSteps ∈ lw_good := lw_in (i := 842) (by decide +kernel) (by decide +kernel)
theorem q843 : Cond.selects "Watermarkmill$Dating" yX0_tellSteps yX0_tellSteps ∈ lw_good := lw_in (i := 843) (by decide +kernel) (by decide +kernel)
theorem q844 : Cond.code yX0_tellSteps prog_2_method_6_code 3 (Option.none : Option Jvm.ClassFile.FieldType) ∈ lw_good := lw_in (i := 844) (by decide +kernel) (by decide +kernel)
theorem q849 : Cond.methodLink "Watermarkmill$Dating" 40 yX0_shortenSteps ∈ lw_good := lw_in (i := 849) (by decide +kernel) (by decide +kernel)
theorem q850 : Cond.instanceMethod yX0_shortenSteps ∈ lw_good := lw_in (i := 850) (by decide +kernel) (by decide +kernel)
theorem q851 : Cond.selects "Watermarkmill$Dating" yX0_shortenSteps yX0_shortenSteps ∈ lw_good := lw_in (i := 851) (by decide +kernel) (by decide +kernel)
theorem q852 : Cond.code yX0_shortenSteps prog_2_method_7_code 4 (Option.none : Option Jvm.ClassFile.FieldType) ∈ lw_good := lw_in (i := 852) (by decide +kernel) (by decide +kernel)
theorem q94 : Cond.arrayClass Jvm.ClassFile.FieldType.int ∈ lw_good := lw_in (i := 94) (by decide +kernel) (by decide +kernel)
theorem qf1752 : Cond.castable "Watermarkmill$Mould" "java/lang/Object" ∈ lw_face := lw_fin (i := 1752) (by decide +kernel) (by decide +kernel)
theorem qf1761 : Cond.castable "Watermarkmill$Ream" "java/lang/Object" ∈ lw_face := lw_fin (i := 1761) (by decide +kernel) (by decide +kernel)
theorem qf1763 : Cond.castable "Watermarkmill$Document" "java/lang/Object" ∈ lw_face := lw_fin (i := 1763) (by decide +kernel) (by decide +kernel)
theorem dX0_addDocument_0 : decode cX0_addDocument 0 = .ok (.aload_n 0, 1) := by decide +kernel
theorem dX0_addDocument_1 : decode cX0_addDocument 1 = .ok (.getfield 26, 3) := by decide +kernel
theorem dX0_addDocument_10 : decode cX0_addDocument 10 = .ok (.dup, 1) := by decide +kernel
theorem dX0_addDocument_11 : decode cX0_addDocument 11 = .ok (.getfield 26, 3) := by decide +kernel
theorem dX0_addDocument_14 : decode cX0_addDocument 14 = .ok (.iconst 1, 1) := by decide +kernel
theorem dX0_addDocument_15 : decode cX0_addDocument 15 = .ok (.iadd, 1) := by decide +kernel
theorem dX0_addDocument_16 : decode cX0_addDocument 16 = .ok (.putfield 26, 3) := by decide +kernel
theorem dX0_addDocument_19 : decode cX0_addDocument 19 = .ok (.aload_n 0, 1) := by decide +kernel
theorem dX0_addDocument_20 : decode cX0_addDocument 20 = .ok (.invokevirtual 33, 3) := by decide +kernel
theorem dX0_addDocument_23 : decode cX0_addDocument 23 = .ok (.return_, 1) := by decide +kernel
theorem dX0_addDocument_4 : decode cX0_addDocument 4 = .ok (.bipush 20, 2) := by decide +kernel
theorem dX0_addDocument_6 : decode cX0_addDocument 6 = .ok (.if_icmp .ge 17, 3) := by decide +kernel
theorem dX0_addDocument_9 : decode cX0_addDocument 9 = .ok (.aload_n 0, 1) := by decide +kernel
theorem dX0_shortenSteps_0 : decode cX0_shortenSteps 0 = .ok (.iconst 0, 1) := by decide +kernel
theorem dX0_shortenSteps_1 : decode cX0_shortenSteps 1 = .ok (.istore_n 3, 1) := by decide +kernel
theorem dX0_shortenSteps_10 : decode cX0_shortenSteps 10 = .ok (.aload_n 0, 1) := by decide +kernel
theorem dX0_shortenSteps_11 : decode cX0_shortenSteps 11 = .ok (.getfield 23, 3) := by decide +kernel
theorem dX0_shortenSteps_14 : decode cX0_shortenSteps 14 = .ok (.iload_n 1, 1) := by decide +kernel
theorem dX0_shortenSteps_15 : decode cX0_shortenSteps 15 = .ok (.aaload, 1) := by decide +kernel
theorem dX0_shortenSteps_16 : decode cX0_shortenSteps 16 = .ok (.iload_n 3, 1) := by decide +kernel
theorem dX0_shortenSteps_17 : decode cX0_shortenSteps 17 = .ok (.aload_n 0, 1) := by decide +kernel
theorem dX0_shortenSteps_18 : decode cX0_shortenSteps 18 = .ok (.getfield 23, 3) := by decide +kernel
theorem dX0_shortenSteps_2 : decode cX0_shortenSteps 2 = .ok (.iload_n 3, 1) := by decide +kernel
theorem dX0_shortenSteps_21 : decode cX0_shortenSteps 21 = .ok (.iload_n 1, 1) := by decide +kernel
theorem dX0_shortenSteps_22 : decode cX0_shortenSteps 22 = .ok (.aaload, 1) := by decide +kernel
theorem dX0_shortenSteps_23 : decode cX0_shortenSteps 23 = .ok (.iload_n 3, 1) := by decide +kernel
theorem dX0_shortenSteps_24 : decode cX0_shortenSteps 24 = .ok (.iaload, 1) := by decide +kernel
theorem dX0_shortenSteps_25 : decode cX0_shortenSteps 25 = .ok (.aload_n 0, 1) := by decide +kernel
theorem dX0_shortenSteps_26 : decode cX0_shortenSteps 26 = .ok (.getfield 23, 3) := by decide +kernel
theorem dX0_shortenSteps_29 : decode cX0_shortenSteps 29 = .ok (.iload_n 1, 1) := by decide +kernel
theorem dX0_shortenSteps_3 : decode cX0_shortenSteps 3 = .ok (.aload_n 0, 1) := by decide +kernel
theorem dX0_shortenSteps_30 : decode cX0_shortenSteps 30 = .ok (.aaload, 1) := by decide +kernel
theorem dX0_shortenSteps_31 : decode cX0_shortenSteps 31 = .ok (.iload_n 2, 1) := by decide +kernel
theorem dX0_shortenSteps_32 : decode cX0_shortenSteps 32 = .ok (.iaload, 1) := by decide +kernel
theorem dX0_shortenSteps_33 : decode cX0_shortenSteps 33 = .ok (.aload_n 0, 1) := by decide +kernel
theorem dX0_shortenSteps_34 : decode cX0_shortenSteps 34 = .ok (.getfield 23, 3) := by decide +kernel
theorem dX0_shortenSteps_37 : decode cX0_shortenSteps 37 = .ok (.iload_n 2, 1) := by decide +kernel
theorem dX0_shortenSteps_38 : decode cX0_shortenSteps 38 = .ok (.aaload, 1) := by decide +kernel
theorem dX0_shortenSteps_39 : decode cX0_shortenSteps 39 = .ok (.iload_n 3, 1) := by decide +kernel
theorem dX0_shortenSteps_4 : decode cX0_shortenSteps 4 = .ok (.getfield 26, 3) := by decide +kernel
theorem dX0_shortenSteps_40 : decode cX0_shortenSteps 40 = .ok (.iaload, 1) := by decide +kernel
theorem dX0_shortenSteps_41 : decode cX0_shortenSteps 41 = .ok (.iadd, 1) := by decide +kernel
theorem dX0_shortenSteps_42 : decode cX0_shortenSteps 42 = .ok (.invokestatic 44, 3) := by decide +kernel
theorem dX0_shortenSteps_45 : decode cX0_shortenSteps 45 = .ok (.iastore, 1) := by decide +kernel
theorem dX0_shortenSteps_46 : decode cX0_shortenSteps 46 = .ok (.iinc 3 1, 3) := by decide +kernel
theorem dX0_shortenSteps_49 : decode cX0_shortenSteps 49 = .ok (.goto (-47), 3) := by decide +kernel
theorem dX0_shortenSteps_52 : decode cX0_shortenSteps 52 = .ok (.return_, 1) := by decide +kernel
theorem dX0_shortenSteps_7 : decode cX0_shortenSteps 7 = .ok (.if_icmp .ge 45, 3) := by decide +kernel
theorem dX0_tellSteps_0 : decode cX0_tellSteps 0 = .ok (.iconst 0, 1) := by decide +kernel
theorem dX0_tellSteps_1 : decode cX0_tellSteps 1 = .ok (.istore_n 1, 1) := by decide +kernel
theorem dX0_tellSteps_10 : decode cX0_tellSteps 10 = .ok (.iconst 0, 1) := by decide +kernel
theorem dX0_tellSteps_100 : decode cX0_tellSteps 100 = .ok (.iload_n 2, 1) := by decide +kernel
theorem dX0_tellSteps_101 : decode cX0_tellSteps 101 = .ok (.iload_n 1, 1) := by decide +kernel
theorem dX0_tellSteps_102 : decode cX0_tellSteps 102 = .ok (.invokevirtual 40, 3) := by decide +kernel
theorem dX0_tellSteps_105 : decode cX0_tellSteps 105 = .ok (.iinc 2 1, 3) := by decide +kernel
theorem dX0_tellSteps_108 : decode cX0_tellSteps 108 = .ok (.goto (-31), 3) := by decide +kernel
theorem dX0_tellSteps_11 : decode cX0_tellSteps 11 = .ok (.istore_n 2, 1) := by decide +kernel
theorem dX0_tellSteps_111 : decode cX0_tellSteps 111 = .ok (.iinc 1 1, 3) := by decide +kernel
theorem dX0_tellSteps_114 : decode cX0_tellSteps 114 = .ok (.goto (-47), 3) := by decide +kernel
theorem dX0_tellSteps_117 : decode cX0_tellSteps 117 = .ok (.return_, 1) := by decide +kernel
theorem dX0_tellSteps_12 : decode cX0_tellSteps 12 = .ok (.iload_n 2, 1) := by decide +kernel
theorem dX0_tellSteps_13 : decode cX0_tellSteps 13 = .ok (.aload_n 0, 1) := by decide +kernel
theorem dX0_tellSteps_14 : decode cX0_tellSteps 14 = .ok (.getfield 26, 3) := by decide +kernel
theorem dX0_tellSteps_17 : decode cX0_tellSteps 17 = .ok (.if_icmp .ge 42, 3) := by decide +kernel
theorem dX0_tellSteps_2 : decode cX0_tellSteps 2 = .ok (.iload_n 1, 1) := by decide +kernel
theorem dX0_tellSteps_20 : decode cX0_tellSteps 20 = .ok (.aload_n 0, 1) := by decide +kernel
theorem dX0_tellSteps_21 : decode cX0_tellSteps 21 = .ok (.getfield 23, 3) := by decide +kernel
theorem dX0_tellSteps_24 : decode cX0_tellSteps 24 = .ok (.iload_n 1, 1) := by decide +kernel
theorem dX0_tellSteps_25 : decode cX0_tellSteps 25 = .ok (.aaload, 1) := by decide +kernel
theorem dX0_tellSteps_26 : decode cX0_tellSteps 26 = .ok (.iload_n 2, 1) := by decide +kernel
theorem dX0_tellSteps_27 : decode cX0_tellSteps 27 = .ok (.iload_n 1, 1) := by decide +kernel
theorem dX0_tellSteps_28 : decode cX0_tellSteps 28 = .ok (.iload_n 2, 1) := by decide +kernel
theorem dX0_tellSteps_29 : decode cX0_tellSteps 29 = .ok (.if_icmp .ne 7, 3) := by decide +kernel
theorem dX0_tellSteps_3 : decode cX0_tellSteps 3 = .ok (.aload_n 0, 1) := by decide +kernel
theorem dX0_tellSteps_32 : decode cX0_tellSteps 32 = .ok (.iconst 0, 1) := by decide +kernel
theorem dX0_tellSteps_33 : decode cX0_tellSteps 33 = .ok (.goto 19, 3) := by decide +kernel
theorem dX0_tellSteps_4 : decode cX0_tellSteps 4 = .ok (.getfield 26, 3) := by decide +kernel
theorem dX0_tellSteps_52 : decode cX0_tellSteps 52 = .ok (.iastore, 1) := by decide +kernel
theorem dX0_tellSteps_53 : decode cX0_tellSteps 53 = .ok (.iinc 2 1, 3) := by decide +kernel
theorem dX0_tellSteps_56 : decode cX0_tellSteps 56 = .ok (.goto (-44), 3) := by decide +kernel
theorem dX0_tellSteps_59 : decode cX0_tellSteps 59 = .ok (.iinc 1 1, 3) := by decide +kernel
theorem dX0_tellSteps_62 : decode cX0_tellSteps 62 = .ok (.goto (-60), 3) := by decide +kernel
theorem dX0_tellSteps_65 : decode cX0_tellSteps 65 = .ok (.iconst 0, 1) := by decide +kernel
theorem dX0_tellSteps_66 : decode cX0_tellSteps 66 = .ok (.istore_n 1, 1) := by decide +kernel
theorem dX0_tellSteps_67 : decode cX0_tellSteps 67 = .ok (.iload_n 1, 1) := by decide +kernel
theorem dX0_tellSteps_68 : decode cX0_tellSteps 68 = .ok (.aload_n 0, 1) := by decide +kernel
theorem dX0_tellSteps_69 : decode cX0_tellSteps 69 = .ok (.getfield 26, 3) := by decide +kernel
theorem dX0_tellSteps_7 : decode cX0_tellSteps 7 = .ok (.if_icmp .ge 58, 3) := by decide +kernel
theorem dX0_tellSteps_72 : decode cX0_tellSteps 72 = .ok (.if_icmp .ge 45, 3) := by decide +kernel
theorem dX0_tellSteps_75 : decode cX0_tellSteps 75 = .ok (.iconst 0, 1) := by decide +kernel
theorem dX0_tellSteps_76 : decode cX0_tellSteps 76 = .ok (.istore_n 2, 1) := by decide +kernel
theorem dX0_tellSteps_77 : decode cX0_tellSteps 77 = .ok (.iload_n 2, 1) := by decide +kernel
theorem dX0_tellSteps_78 : decode cX0_tellSteps 78 = .ok (.aload_n 0, 1) := by decide +kernel
theorem dX0_tellSteps_79 : decode cX0_tellSteps 79 = .ok (.getfield 26, 3) := by decide +kernel
theorem dX0_tellSteps_82 : decode cX0_tellSteps 82 = .ok (.if_icmp .ge 29, 3) := by decide +kernel
theorem dX0_tellSteps_85 : decode cX0_tellSteps 85 = .ok (.aload_n 0, 1) := by decide +kernel
theorem dX0_tellSteps_86 : decode cX0_tellSteps 86 = .ok (.getfield 23, 3) := by decide +kernel
theorem dX0_tellSteps_89 : decode cX0_tellSteps 89 = .ok (.iload_n 2, 1) := by decide +kernel
theorem dX0_tellSteps_90 : decode cX0_tellSteps 90 = .ok (.aaload, 1) := by decide +kernel
theorem dX0_tellSteps_91 : decode cX0_tellSteps 91 = .ok (.iload_n 1, 1) := by decide +kernel
theorem dX0_tellSteps_92 : decode cX0_tellSteps 92 = .ok (.iaload, 1) := by decide +kernel
theorem dX0_tellSteps_93 : decode cX0_tellSteps 93 = .ok (.sipush 1000, 3) := by decide +kernel
theorem dX0_tellSteps_96 : decode cX0_tellSteps 96 = .ok (.if_icmp .ge 9, 3) := by decide +kernel
theorem dX0_tellSteps_99 : decode cX0_tellSteps 99 = .ok (.aload_n 0, 1) := by decide +kernel
theorem dX1_init_0 : decode cX1_init 0 = .ok (.aload_n 0, 1) := by decide +kernel
theorem dX1_init_1 : decode cX1_init 1 = .ok (.invokespecial 3, 3) := by decide +kernel
theorem dX1_init_12 : decode cX1_init 12 = .ok (.aload_n 0, 1) := by decide +kernel
theorem dX1_init_13 : decode cX1_init 13 = .ok (.bipush 100, 2) := by decide +kernel
theorem dX1_init_15 : decode cX1_init 15 = .ok (.newarray .int, 2) := by decide +kernel
theorem dX1_init_17 : decode cX1_init 17 = .ok (.putfield 15, 3) := by decide +kernel
theorem dX1_init_20 : decode cX1_init 20 = .ok (.aload_n 0, 1) := by decide +kernel
theorem dX1_init_21 : decode cX1_init 21 = .ok (.iconst 0, 1) := by decide +kernel
theorem dX1_init_22 : decode cX1_init 22 = .ok (.putfield 18, 3) := by decide +kernel
theorem dX1_init_25 : decode cX1_init 25 = .ok (.aload_n 0, 1) := by decide +kernel
theorem dX1_init_26 : decode cX1_init 26 = .ok (.iconst 0, 1) := by decide +kernel
theorem dX1_init_27 : decode cX1_init 27 = .ok (.putfield 22, 3) := by decide +kernel
theorem dX1_init_30 : decode cX1_init 30 = .ok (.aload_n 0, 1) := by decide +kernel
theorem dX1_init_31 : decode cX1_init 31 = .ok (.iload_n 1, 1) := by decide +kernel
theorem dX1_init_32 : decode cX1_init 32 = .ok (.putfield 26, 3) := by decide +kernel
theorem dX1_init_35 : decode cX1_init 35 = .ok (.aload_n 0, 1) := by decide +kernel
theorem dX1_init_36 : decode cX1_init 36 = .ok (.iload_n 2, 1) := by decide +kernel
theorem dX1_init_37 : decode cX1_init 37 = .ok (.putfield 29, 3) := by decide +kernel
theorem dX1_init_4 : decode cX1_init 4 = .ok (.aload_n 0, 1) := by decide +kernel
theorem dX1_init_40 : decode cX1_init 40 = .ok (.aload_n 0, 1) := by decide +kernel
theorem dX1_init_41 : decode cX1_init 41 = .ok (.bipush 100, 2) := by decide +kernel
theorem dX1_init_43 : decode cX1_init 43 = .ok (.iload_n 2, 1) := by decide +kernel
theorem dX1_init_44 : decode cX1_init 44 = .ok (.imul, 1) := by decide +kernel
theorem dX1_init_45 : decode cX1_init 45 = .ok (.newarray .int, 2) := by decide +kernel
theorem dX1_init_47 : decode cX1_init 47 = .ok (.putfield 32, 3) := by decide +kernel
theorem dX1_init_5 : decode cX1_init 5 = .ok (.bipush 100, 2) := by decide +kernel
theorem dX1_init_50 : decode cX1_init 50 = .ok (.return_, 1) := by decide +kernel
theorem dX1_init_7 : decode cX1_init 7 = .ok (.newarray .int, 2) := by decide +kernel
theorem dX1_init_9 : decode cX1_init 9 = .ok (.putfield 9, 3) := by decide +kernel
theorem dX4_init_0 : decode cX4_init 0 = .ok (.aload_n 0, 1) := by decide +kernel
theorem dX4_init_1 : decode cX4_init 1 = .ok (.invokespecial 3, 3) := by decide +kernel
theorem dX4_init_12 : decode cX4_init 12 = .ok (.aload_n 0, 1) := by decide +kernel
theorem dX4_init_13 : decode cX4_init 13 = .ok (.bipush 16, 2) := by decide +kernel
theorem dX4_init_15 : decode cX4_init 15 = .ok (.newarray .int, 2) := by decide +kernel
theorem dX4_init_17 : decode cX4_init 17 = .ok (.putfield 15, 3) := by decide +kernel
theorem dX4_init_20 : decode cX4_init 20 = .ok (.aload_n 0, 1) := by decide +kernel
theorem dX4_init_21 : decode cX4_init 21 = .ok (.bipush 16, 2) := by decide +kernel
theorem dX4_init_23 : decode cX4_init 23 = .ok (.newarray .int, 2) := by decide +kernel
theorem dX4_init_25 : decode cX4_init 25 = .ok (.putfield 18, 3) := by decide +kernel
theorem dX4_init_28 : decode cX4_init 28 = .ok (.aload_n 0, 1) := by decide +kernel
theorem dX4_init_29 : decode cX4_init 29 = .ok (.iconst 0, 1) := by decide +kernel
theorem dX4_init_30 : decode cX4_init 30 = .ok (.putfield 21, 3) := by decide +kernel
theorem dX4_init_33 : decode cX4_init 33 = .ok (.aload_n 0, 1) := by decide +kernel
theorem dX4_init_34 : decode cX4_init 34 = .ok (.iconst (-1), 1) := by decide +kernel
theorem dX4_init_35 : decode cX4_init 35 = .ok (.putfield 25, 3) := by decide +kernel
theorem dX4_init_38 : decode cX4_init 38 = .ok (.aload_n 0, 1) := by decide +kernel
theorem dX4_init_39 : decode cX4_init 39 = .ok (.iconst 0, 1) := by decide +kernel
theorem dX4_init_4 : decode cX4_init 4 = .ok (.aload_n 0, 1) := by decide +kernel
theorem dX4_init_40 : decode cX4_init 40 = .ok (.putfield 28, 3) := by decide +kernel
theorem dX4_init_43 : decode cX4_init 43 = .ok (.aload_n 0, 1) := by decide +kernel
theorem dX4_init_44 : decode cX4_init 44 = .ok (.iconst 0, 1) := by decide +kernel
theorem dX4_init_45 : decode cX4_init 45 = .ok (.putfield 31, 3) := by decide +kernel
theorem dX4_init_48 : decode cX4_init 48 = .ok (.aload_n 0, 1) := by decide +kernel
theorem dX4_init_49 : decode cX4_init 49 = .ok (.aconst_null, 1) := by decide +kernel
theorem dX4_init_5 : decode cX4_init 5 = .ok (.bipush 16, 2) := by decide +kernel
theorem dX4_init_50 : decode cX4_init 50 = .ok (.putfield 34, 3) := by decide +kernel
theorem dX4_init_53 : decode cX4_init 53 = .ok (.aload_n 0, 1) := by decide +kernel
theorem dX4_init_54 : decode cX4_init 54 = .ok (.iload_n 1, 1) := by decide +kernel
theorem dX4_init_55 : decode cX4_init 55 = .ok (.putfield 38, 3) := by decide +kernel
theorem dX4_init_58 : decode cX4_init 58 = .ok (.aload_n 0, 1) := by decide +kernel
theorem dX4_init_59 : decode cX4_init 59 = .ok (.iload_n 2, 1) := by decide +kernel
theorem dX4_init_60 : decode cX4_init 60 = .ok (.putfield 41, 3) := by decide +kernel
theorem dX4_init_63 : decode cX4_init 63 = .ok (.aload_n 0, 1) := by decide +kernel
theorem dX4_init_64 : decode cX4_init 64 = .ok (.aload_n 3, 1) := by decide +kernel
theorem dX4_init_65 : decode cX4_init 65 = .ok (.putfield 44, 3) := by decide +kernel
theorem dX4_init_68 : decode cX4_init 68 = .ok (.return_, 1) := by decide +kernel
theorem dX4_init_7 : decode cX4_init 7 = .ok (.newarray .int, 2) := by decide +kernel
theorem dX4_init_9 : decode cX4_init 9 = .ok (.putfield 9, 3) := by decide +kernel
theorem dX5_init_0 : decode cX5_init 0 = .ok (.aload_n 0, 1) := by decide +kernel
theorem dX5_init_1 : decode cX5_init 1 = .ok (.invokespecial 3, 3) := by decide +kernel
theorem dX5_init_10 : decode cX5_init 10 = .ok (.putfield 9, 3) := by decide +kernel
theorem dX5_init_13 : decode cX5_init 13 = .ok (.aload_n 0, 1) := by decide +kernel
theorem dX5_init_14 : decode cX5_init 14 = .ok (.iconst 0, 1) := by decide +kernel
theorem dX5_init_15 : decode cX5_init 15 = .ok (.putfield 15, 3) := by decide +kernel
theorem dX5_init_18 : decode cX5_init 18 = .ok (.aload_n 0, 1) := by decide +kernel
theorem dX5_init_19 : decode cX5_init 19 = .ok (.iload_n 1, 1) := by decide +kernel
theorem dX5_init_20 : decode cX5_init 20 = .ok (.putfield 19, 3) := by decide +kernel
theorem dX5_init_23 : decode cX5_init 23 = .ok (.return_, 1) := by decide +kernel
theorem dX5_init_4 : decode cX5_init 4 = .ok (.aload_n 0, 1) := by decide +kernel
theorem dX5_init_5 : decode cX5_init 5 = .ok (.sipush 1000, 3) := by decide +kernel
theorem dX5_init_8 : decode cX5_init 8 = .ok (.newarray .int, 2) := by decide +kernel
theorem dX8_checkEntry_0 : decode cX8_checkEntry 0 = .ok (.iload_n 0, 1) := by decide +kernel
theorem dX8_checkEntry_1 : decode cX8_checkEntry 1 = .ok (.iconst 0, 1) := by decide +kernel
theorem dX8_checkEntry_10 : decode cX8_checkEntry 10 = .ok (.invokestatic 53, 3) := by decide +kernel
theorem dX8_checkEntry_13 : decode cX8_checkEntry 13 = .ok (.return_, 1) := by decide +kernel
theorem dX8_checkEntry_2 : decode cX8_checkEntry 2 = .ok (.iconst 3, 1) := by decide +kernel
theorem dX8_checkEntry_3 : decode cX8_checkEntry 3 = .ok (.invokestatic 53, 3) := by decide +kernel
theorem dX8_checkEntry_6 : decode cX8_checkEntry 6 = .ok (.iload_n 1, 1) := by decide +kernel
theorem dX8_checkEntry_7 : decode cX8_checkEntry 7 = .ok (.iconst 0, 1) := by decide +kernel
theorem dX8_checkEntry_8 : decode cX8_checkEntry 8 = .ok (.bipush 99, 2) := by decide +kernel
theorem dX8_document_0 : decode cX8_document 0 = .ok (.iload_n 1, 1) := by decide +kernel
theorem dX8_document_1 : decode cX8_document 1 = .ok (.invokestatic 99, 3) := by decide +kernel
theorem dX8_document_10 : decode cX8_document 10 = .ok (.aload_n 0, 1) := by decide +kernel
theorem dX8_document_11 : decode cX8_document 11 = .ok (.getfield 22, 3) := by decide +kernel
theorem dX8_document_14 : decode cX8_document 14 = .ok (.invokevirtual 57, 3) := by decide +kernel
theorem dX8_document_17 : decode cX8_document 17 = .ok (.iconst 1, 1) := by decide +kernel
theorem dX8_document_18 : decode cX8_document 18 = .ok (.iadd, 1) := by decide +kernel
theorem dX8_document_19 : decode cX8_document 19 = .ok (.bipush 20, 2) := by decide +kernel
theorem dX8_document_21 : decode cX8_document 21 = .ok (.invokestatic 61, 3) := by decide +kernel
theorem dX8_document_24 : decode cX8_document 24 = .ok (.aload_n 0, 1) := by decide +kernel
theorem dX8_document_25 : decode cX8_document 25 = .ok (.getfield 22, 3) := by decide +kernel
theorem dX8_document_28 : decode cX8_document 28 = .ok (.new 203, 3) := by decide +kernel
theorem dX8_document_31 : decode cX8_document 31 = .ok (.dup, 1) := by decide +kernel
theorem dX8_document_32 : decode cX8_document 32 = .ok (.iload_n 1, 1) := by decide +kernel
theorem dX8_document_33 : decode cX8_document 33 = .ok (.iconst 1, 1) := by decide +kernel
theorem dX8_document_34 : decode cX8_document 34 = .ok (.iload_n 2, 1) := by decide +kernel
theorem dX8_document_35 : decode cX8_document 35 = .ok (.ishl, 1) := by decide +kernel
theorem dX8_document_36 : decode cX8_document 36 = .ok (.invokespecial 205, 3) := by decide +kernel
theorem dX8_document_39 : decode cX8_document 39 = .ok (.invokevirtual 70, 3) := by decide +kernel
theorem dX8_document_4 : decode cX8_document 4 = .ok (.iload_n 2, 1) := by decide +kernel
theorem dX8_document_42 : decode cX8_document 42 = .ok (.pop, 1) := by decide +kernel
theorem dX8_document_43 : decode cX8_document 43 = .ok (.aload_n 0, 1) := by decide +kernel
theorem dX8_document_44 : decode cX8_document 44 = .ok (.getfield 38, 3) := by decide +kernel
theorem dX8_document_47 : decode cX8_document 47 = .ok (.invokevirtual 207, 3) := by decide +kernel
theorem dX8_document_5 : decode cX8_document 5 = .ok (.iconst 0, 1) := by decide +kernel
theorem dX8_document_50 : decode cX8_document 50 = .ok (.aload_n 0, 1) := by decide +kernel
theorem dX8_document_51 : decode cX8_document 51 = .ok (.getfield 22, 3) := by decide +kernel
theorem dX8_document_54 : decode cX8_document 54 = .ok (.invokevirtual 57, 3) := by decide +kernel
theorem dX8_document_57 : decode cX8_document 57 = .ok (.iconst 1, 1) := by decide +kernel
theorem dX8_document_58 : decode cX8_document 58 = .ok (.isub, 1) := by decide +kernel
theorem dX8_document_59 : decode cX8_document 59 = .ok (.ireturn, 1) := by decide +kernel
theorem dX8_document_6 : decode cX8_document 6 = .ok (.iconst 3, 1) := by decide +kernel
theorem dX8_document_7 : decode cX8_document 7 = .ok (.invokestatic 53, 3) := by decide +kernel
theorem dX8_mould_0 : decode cX8_mould 0 = .ok (.iload_n 1, 1) := by decide +kernel
theorem dX8_mould_1 : decode cX8_mould 1 = .ok (.iconst 0, 1) := by decide +kernel
theorem dX8_mould_10 : decode cX8_mould 10 = .ok (.invokestatic 53, 3) := by decide +kernel
theorem dX8_mould_101 : decode cX8_mould 101 = .ok (.invokevirtual 70, 3) := by decide +kernel
theorem dX8_mould_104 : decode cX8_mould 104 = .ok (.pop, 1) := by decide +kernel
theorem dX8_mould_105 : decode cX8_mould 105 = .ok (.aload_n 0, 1) := by decide +kernel
theorem dX8_mould_106 : decode cX8_mould 106 = .ok (.getfield 12, 3) := by decide +kernel
theorem dX8_mould_109 : decode cX8_mould 109 = .ok (.invokevirtual 57, 3) := by decide +kernel
theorem dX8_mould_112 : decode cX8_mould 112 = .ok (.iconst 1, 1) := by decide +kernel
theorem dX8_mould_113 : decode cX8_mould 113 = .ok (.isub, 1) := by decide +kernel
theorem dX8_mould_114 : decode cX8_mould 114 = .ok (.ireturn, 1) := by decide +kernel
theorem dX8_mould_13 : decode cX8_mould 13 = .ok (.iload_n 3, 1) := by decide +kernel
theorem dX8_mould_14 : decode cX8_mould 14 = .ok (.bipush 100, 2) := by decide +kernel
theorem dX8_mould_16 : decode cX8_mould 16 = .ok (.sipush 400, 3) := by decide +kernel
theorem dX8_mould_19 : decode cX8_mould 19 = .ok (.invokestatic 53, 3) := by decide +kernel
theorem dX8_mould_2 : decode cX8_mould 2 = .ok (.iconst 4, 1) := by decide +kernel
theorem dX8_mould_22 : decode cX8_mould 22 = .ok (.iload 4, 2) := by decide +kernel
theorem dX8_mould_24 : decode cX8_mould 24 = .ok (.bipush 100, 2) := by decide +kernel
theorem dX8_mould_26 : decode cX8_mould 26 = .ok (.sipush 400, 3) := by decide +kernel
theorem dX8_mould_29 : decode cX8_mould 29 = .ok (.invokestatic 53, 3) := by decide +kernel
theorem dX8_mould_3 : decode cX8_mould 3 = .ok (.invokestatic 53, 3) := by decide +kernel
theorem dX8_mould_32 : decode cX8_mould 32 = .ok (.iload 5, 2) := by decide +kernel
theorem dX8_mould_34 : decode cX8_mould 34 = .ok (.bipush 100, 2) := by decide +kernel
theorem dX8_mould_36 : decode cX8_mould 36 = .ok (.sipush 400, 3) := by decide +kernel
theorem dX8_mould_39 : decode cX8_mould 39 = .ok (.invokestatic 53, 3) := by decide +kernel
theorem dX8_mould_42 : decode cX8_mould 42 = .ok (.iload 6, 2) := by decide +kernel
theorem dX8_mould_44 : decode cX8_mould 44 = .ok (.bipush 100, 2) := by decide +kernel
theorem dX8_mould_46 : decode cX8_mould 46 = .ok (.sipush 400, 3) := by decide +kernel
theorem dX8_mould_49 : decode cX8_mould 49 = .ok (.invokestatic 53, 3) := by decide +kernel
theorem dX8_mould_52 : decode cX8_mould 52 = .ok (.aload_n 0, 1) := by decide +kernel
theorem dX8_mould_53 : decode cX8_mould 53 = .ok (.getfield 12, 3) := by decide +kernel
theorem dX8_mould_56 : decode cX8_mould 56 = .ok (.invokevirtual 57, 3) := by decide +kernel
theorem dX8_mould_59 : decode cX8_mould 59 = .ok (.iconst 1, 1) := by decide +kernel
theorem dX8_mould_6 : decode cX8_mould 6 = .ok (.iload_n 2, 1) := by decide +kernel
theorem dX8_mould_60 : decode cX8_mould 60 = .ok (.iadd, 1) := by decide +kernel
theorem dX8_mould_61 : decode cX8_mould 61 = .ok (.bipush 12, 2) := by decide +kernel
theorem dX8_mould_63 : decode cX8_mould 63 = .ok (.invokestatic 61, 3) := by decide +kernel
theorem dX8_mould_66 : decode cX8_mould 66 = .ok (.aload_n 0, 1) := by decide +kernel
theorem dX8_mould_67 : decode cX8_mould 67 = .ok (.getfield 12, 3) := by decide +kernel
theorem dX8_mould_7 : decode cX8_mould 7 = .ok (.iconst 0, 1) := by decide +kernel
theorem dX8_mould_70 : decode cX8_mould 70 = .ok (.new 65, 3) := by decide +kernel
theorem dX8_mould_73 : decode cX8_mould 73 = .ok (.dup, 1) := by decide +kernel
theorem dX8_mould_74 : decode cX8_mould 74 = .ok (.iload_n 1, 1) := by decide +kernel
theorem dX8_mould_75 : decode cX8_mould 75 = .ok (.iload_n 2, 1) := by decide +kernel
theorem dX8_mould_76 : decode cX8_mould 76 = .ok (.iconst 4, 1) := by decide +kernel
theorem dX8_mould_77 : decode cX8_mould 77 = .ok (.newarray .int, 2) := by decide +kernel
theorem dX8_mould_79 : decode cX8_mould 79 = .ok (.dup, 1) := by decide +kernel
theorem dX8_mould_8 : decode cX8_mould 8 = .ok (.bipush 99, 2) := by decide +kernel
theorem dX8_mould_80 : decode cX8_mould 80 = .ok (.iconst 0, 1) := by decide +kernel
theorem dX8_mould_81 : decode cX8_mould 81 = .ok (.iload_n 3, 1) := by decide +kernel
theorem dX8_mould_82 : decode cX8_mould 82 = .ok (.iastore, 1) := by decide +kernel
theorem dX8_mould_83 : decode cX8_mould 83 = .ok (.dup, 1) := by decide +kernel
theorem dX8_mould_84 : decode cX8_mould 84 = .ok (.iconst 1, 1) := by decide +kernel
theorem dX8_mould_85 : decode cX8_mould 85 = .ok (.iload 4, 2) := by decide +kernel
theorem dX8_mould_87 : decode cX8_mould 87 = .ok (.iastore, 1) := by decide +kernel
theorem dX8_mould_88 : decode cX8_mould 88 = .ok (.dup, 1) := by decide +kernel
theorem dX8_mould_89 : decode cX8_mould 89 = .ok (.iconst 2, 1) := by decide +kernel
theorem dX8_mould_90 : decode cX8_mould 90 = .ok (.iload 5, 2) := by decide +kernel
theorem dX8_mould_92 : decode cX8_mould 92 = .ok (.iastore, 1) := by decide +kernel
theorem dX8_mould_93 : decode cX8_mould 93 = .ok (.dup, 1) := by decide +kernel
theorem dX8_mould_94 : decode cX8_mould 94 = .ok (.iconst 3, 1) := by decide +kernel
theorem dX8_mould_95 : decode cX8_mould 95 = .ok (.iload 6, 2) := by decide +kernel
theorem dX8_mould_97 : decode cX8_mould 97 = .ok (.iastore, 1) := by decide +kernel
theorem dX8_mould_98 : decode cX8_mould 98 = .ok (.invokespecial 67, 3) := by decide +kernel
theorem dX8_ream_0 : decode cX8_ream 0 = .ok (.iload_n 1, 1) := by decide +kernel
theorem dX8_ream_1 : decode cX8_ream 1 = .ok (.iconst 0, 1) := by decide +kernel
theorem dX8_ream_10 : decode cX8_ream 10 = .ok (.invokevirtual 57, 3) := by decide +kernel
theorem dX8_ream_13 : decode cX8_ream 13 = .ok (.iconst 1, 1) := by decide +kernel
theorem dX8_ream_14 : decode cX8_ream 14 = .ok (.iadd, 1) := by decide +kernel
theorem dX8_ream_15 : decode cX8_ream 15 = .ok (.bipush 20, 2) := by decide +kernel
theorem dX8_ream_17 : decode cX8_ream 17 = .ok (.invokestatic 61, 3) := by decide +kernel
theorem dX8_ream_2 : decode cX8_ream 2 = .ok (.iconst 4, 1) := by decide +kernel
theorem dX8_ream_20 : decode cX8_ream 20 = .ok (.aload_n 0, 1) := by decide +kernel
theorem dX8_ream_21 : decode cX8_ream 21 = .ok (.getfield 19, 3) := by decide +kernel
theorem dX8_ream_24 : decode cX8_ream 24 = .ok (.new 165, 3) := by decide +kernel
theorem dX8_ream_27 : decode cX8_ream 27 = .ok (.dup, 1) := by decide +kernel
theorem dX8_ream_28 : decode cX8_ream 28 = .ok (.iload_n 1, 1) := by decide +kernel
theorem dX8_ream_29 : decode cX8_ream 29 = .ok (.invokespecial 167, 3) := by decide +kernel
theorem dX8_ream_3 : decode cX8_ream 3 = .ok (.invokestatic 53, 3) := by decide +kernel
theorem dX8_ream_32 : decode cX8_ream 32 = .ok (.invokevirtual 70, 3) := by decide +kernel
theorem dX8_ream_35 : decode cX8_ream 35 = .ok (.pop, 1) := by decide +kernel
theorem dX8_ream_36 : decode cX8_ream 36 = .ok (.aload_n 0, 1) := by decide +kernel
theorem dX8_ream_37 : decode cX8_ream 37 = .ok (.getfield 19, 3) := by decide +kernel
theorem dX8_ream_40 : decode cX8_ream 40 = .ok (.invokevirtual 57, 3) := by decide +kernel
theorem dX8_ream_43 : decode cX8_ream 43 = .ok (.iconst 1, 1) := by decide +kernel
theorem dX8_ream_44 : decode cX8_ream 44 = .ok (.isub, 1) := by decide +kernel
theorem dX8_ream_45 : decode cX8_ream 45 = .ok (.ireturn, 1) := by decide +kernel
theorem dX8_ream_6 : decode cX8_ream 6 = .ok (.aload_n 0, 1) := by decide +kernel
theorem dX8_ream_7 : decode cX8_ream 7 = .ok (.getfield 19, 3) := by decide +kernel
def okM (p0 p1 p2 p3 p4 p5 : Int32) : Prop := (0 ≤ p0 ∧ p0 ≤ 4) ∧ (0 ≤ p1 ∧ p1 ≤ 99) ∧ (100 ≤ p2 ∧ p2 ≤ 400) ∧ (100 ≤ p3 ∧ p3 ≤ 400) ∧ (100 ≤ p4 ∧ p4 ≤ 400) ∧ (100 ≤ p5 ∧ p5 ≤ 400)
def okR (p0 : Int32) : Prop := 0 ≤ p0 ∧ p0 ≤ 4
def okD (p0 p1 : Int32) : Prop := (1400 ≤ p0 ∧ p0 ≤ 1900) ∧ (0 ≤ p1 ∧ p1 ≤ 3)
def okE (p0 p1 : Int32) : Prop := (0 ≤ p0 ∧ p0 ≤ 3) ∧ (0 ≤ p1 ∧ p1 ≤ 99)
abbrev wz_X4_init : List Cond := .code yX4_init cX4_init 4 none :: lw_good
set_option maxHeartbeats 4000000 in
set_option maxRecDepth 100000 in
/-- Mould(..) -/
theorem k_X4_init (l : Launch) (G : va_G) (z : Nat) (h0 : Nat) (p0 : Int32) (p1 : Int32) (dd : Nat) (sz : Nat)  : Met l yX4_init wz_X4_init ({ frames := 1, cells := 3, slots := 48, locals := 20 }) (va_Pc [.ref h0, .int p0, .int p1, .ref dd] (PW G z [(h0, .inr (8, [.int 0, .int 0, .null, .null, .null, .null, .int 0, .int 0, .int 0, .int 0, .null]))] [] sz)) (va_Qv (fun (_ : Unit) => True) (fun (_ : Unit) (t : State) => ∃ (fsx : List Value), QW G [(h0, .inr (8, fsx))] [] (va_A [(h0, .inr (8, [.int 0, .int 0, .null, .null, .null, .null, .int 0, .int 0, .int 0, .int 0, .null]))] sz) t) (va_A [(h0, .inr (8, [.int 0, .int 0, .null, .null, .null, .null, .int 0, .int 0, .int 0, .int 0, .null]))] sz)) 3 48 (va_A [(h0, .inr (8, [.int 0, .int 0, .null, .null, .null, .null, .int 0, .int 0, .int 0, .int 0, .null]))] sz) := by
  refine Met.ofW (cc := cX4_init) (maxL := 4) (ret := none) (by decide) rfl ?_
  intro p e s m args below meth c s₁ B hml hv
  obtain ⟨rfl, rfl, hP, hK, hD0, hG⟩ := hv
  have hx := B.exec
  have hb := B.bytes
  have hr := B.returns
  have hts := atoms_spec (ws := wz_X4_init) B.pre
  have hg : ∀ w ∈ lw_good, w.before _ s = true := fun w h => hts w (List.mem_cons_of_mem _ h)
  have hown : s.vm.findClass RX4 = some m.cls := findClass_of_methodNamed B.named
  have hlocks := B.notSynchronized
  have hin : meth.name = "<init>" := (name_of_methodNamed B.named B.method).1
  have hD := hD0.self (sz := s.heap.size)
  generalize hAe : va_A [(h0, .inr (8, [.int 0, .int 0, .null, .null, .null, .null, .int 0, .int 0, .int 0, .int 0, .null]))] s.heap.size = A at hD hG ⊢
  have hA : ∀ q : Nat, s.heap.size ≤ q → A q := fun q h => by rw [← hAe]; exact Or.inr h
  have hS : va_S A s.heap s.heap [] := va_S.rf
  have hl := lv_entry ([.ref h0, .int p0, .int p1, .ref dd]) (n := 4) (Nat.le_of_ble_eq_true rfl)
  rw [lg_entry_eq]
  generalize (lg_sl ([.ref h0, .int p0, .int p1, .ref dd]) ++ List.replicate (4 - (lg_sl ([.ref h0, .int p0, .int p1, .ref dd])).length) Slot.unset).toArray = ls at hl ⊢
  have hl : lv_has ls 4 [(0, .ref h0), (1, .int p0), (2, .int p1), (3, .ref dd)] := hl
  refine lv_aload_n hx hb dX4_init_0 rfl (lv_at hl 0 rfl) ?_
  refine W.objInit hx hb hown (hg _ q406) (hg _ q43) (hg _ q44) rfl (by rw [hml]; exact hl.1) rfl dX4_init_1 (Nat.le_of_ble_eq_true rfl) (Nat.le_of_ble_eq_true rfl) ?_
  refine W.eq (g2 := F0 m 4 ls []) rfl ?_
  refine lv_aload_n hx hb dX4_init_4 rfl (lv_at hl 0 rfl) ?_
  refine lv_bipush (v := 16) hx hb dX4_init_5 (by decide) ?_
  refine va_newa (atype := .int) (ty := .int) (a0 := (16, .inl (fun _ => 0))) (N' := 16) hx hb (hg _ q94) rfl hK hP hD hS hA (fun _ => rfl) (by decide) (by decide +kernel) (Nat.le_of_ble_eq_true rfl) (Nat.le_of_ble_eq_true rfl) (Nat.le_of_ble_eq_true rfl) dX4_init_7 (fun o_2 cy_1 H_3 hK hP hD hS => ?_)
  have hP : va_P G vwCl ([(h0, .inr (8, [.int 0, .int 0, .null, .null, .null, .null, .int 0, .int 0, .int 0, .int 0, .null])), (o_2, .inl (cy_1, 16, .inl (fun _ => 0)))]) H_3 := hP
  have hD : va_D A ([(h0, .inr (8, [.int 0, .int 0, .null, .null, .null, .null, .int 0, .int 0, .int 0, .int 0, .null])), (o_2, .inl (cy_1, 16, .inl (fun _ => 0)))]) := hD
  have hK : va_K G vwCl [(cy_1, .int)] s := hK
  refine W.widen (k := 1) (n := 16) (Nat.le_of_ble_eq_true rfl) (Nat.le_of_ble_eq_true rfl) ?_
  refine va_putF (D := G) (ci := 8) (v := .ref o_2) (ty := .array (.int)) (C := RX4) (T := TX4) (N := 11) hx hb hg in_X4 tyX4 tyX4_ok nmX4 hown hK hP hD hS 0 rfl rfl 3 (by decide) (hg _ q412) (fun _ h9 => h9) rfl hin rfl (by decide +kernel) rfl rfl (Nat.le_of_ble_eq_true rfl) dX4_init_9 (fun H_4 locs hP hD hS => ?_)
  have hP : va_P G vwCl ([(h0, .inr (8, [.int 0, .int 0, .null, .ref o_2, .null, .null, .int 0, .int 0, .int 0, .int 0, .null])), (o_2, .inl (cy_1, 16, .inl (fun _ => 0)))]) H_4 := hP
  have hD : va_D A ([(h0, .inr (8, [.int 0, .int 0, .null, .ref o_2, .null, .null, .int 0, .int 0, .int 0, .int 0, .null])), (o_2, .inl (cy_1, 16, .inl (fun _ => 0)))]) := hD
  refine lv_aload_n hx hb dX4_init_12 rfl (lv_at hl 0 rfl) ?_
  refine lv_bipush (v := 16) hx hb dX4_init_13 (by decide) ?_
  refine va_newa (atype := .int) (ty := .int) (a0 := (16, .inl (fun _ => 0))) (N' := 16) hx hb (hg _ q94) rfl hK hP hD hS hA (fun _ => rfl) (by decide) (by decide +kernel) (Nat.le_of_ble_eq_true rfl) (Nat.le_of_ble_eq_true rfl) (Nat.le_of_ble_eq_true rfl) dX4_init_15 (fun o_6 cy_5 H_7 hK hP hD hS => ?_)
  have hP : va_P G vwCl ([(h0, .inr (8, [.int 0, .int 0, .null, .ref o_2, .null, .null, .int 0, .int 0, .int 0, .int 0, .null])), (o_2, .inl (cy_1, 16, .inl (fun _ => 0))), (o_6, .inl (cy_5, 16, .inl (fun _ => 0)))]) H_7 := hP
  have hD : va_D A ([(h0, .inr (8, [.int 0, .int 0, .null, .ref o_2, .null, .null, .int 0, .int 0, .int 0, .int 0, .null])), (o_2, .inl (cy_1, 16, .inl (fun _ => 0))), (o_6, .inl (cy_5, 16, .inl (fun _ => 0)))]) := hD
  have hK : va_K G vwCl [(cy_1, .int), (cy_5, .int)] s := hK
  refine W.widen (k := 2) (n := 32) (Nat.le_of_ble_eq_true rfl) (Nat.le_of_ble_eq_true rfl) ?_
  refine va_putF (D := G) (ci := 8) (v := .ref o_6) (ty := .array (.int)) (C := RX4) (T := TX4) (N := 11) hx hb hg in_X4 tyX4 tyX4_ok nmX4 hown hK hP hD hS 0 rfl rfl 4 (by decide) (hg _ q413) (fun _ h9 => h9) rfl hin rfl (by decide +kernel) rfl rfl (Nat.le_of_ble_eq_true rfl) dX4_init_17 (fun H_8 locs hP hD hS => ?_)
  have hP : va_P G vwCl ([(h0, .inr (8, [.int 0, .int 0, .null, .ref o_2, .ref o_6, .null, .int 0, .int 0, .int 0, .int 0, .null])), (o_2, .inl (cy_1, 16, .inl (fun _ => 0))), (o_6, .inl (cy_5, 16, .inl (fun _ => 0)))]) H_8 := hP
  have hD : va_D A ([(h0, .inr (8, [.int 0, .int 0, .null, .ref o_2, .ref o_6, .null, .int 0, .int 0, .int 0, .int 0, .null])), (o_2, .inl (cy_1, 16, .inl (fun _ => 0))), (o_6, .inl (cy_5, 16, .inl (fun _ => 0)))]) := hD
  refine lv_aload_n hx hb dX4_init_20 rfl (lv_at hl 0 rfl) ?_
  refine lv_bipush (v := 16) hx hb dX4_init_21 (by decide) ?_
  refine va_newa (atype := .int) (ty := .int) (a0 := (16, .inl (fun _ => 0))) (N' := 16) hx hb (hg _ q94) rfl hK hP hD hS hA (fun _ => rfl) (by decide) (by decide +kernel) (Nat.le_of_ble_eq_true rfl) (Nat.le_of_ble_eq_true rfl) (Nat.le_of_ble_eq_true rfl) dX4_init_23 (fun o_10 cy_9 H_11 hK hP hD hS => ?_)
  have hP : va_P G vwCl ([(h0, .inr (8, [.int 0, .int 0, .null, .ref o_2, .ref o_6, .null, .int 0, .int 0, .int 0, .int 0, .null])), (o_2, .inl (cy_1, 16, .inl (fun _ => 0))), (o_6, .inl (cy_5, 16, .inl (fun _ => 0))), (o_10, .inl (cy_9, 16, .inl (fun _ => 0)))]) H_11 := hP
  have hD : va_D A ([(h0, .inr (8, [.int 0, .int 0, .null, .ref o_2, .ref o_6, .null, .int 0, .int 0, .int 0, .int 0, .null])), (o_2, .inl (cy_1, 16, .inl (fun _ => 0))), (o_6, .inl (cy_5, 16, .inl (fun _ => 0))), (o_10, .inl (cy_9, 16, .inl (fun _ => 0)))]) := hD
  have hK : va_K G vwCl [(cy_1, .int), (cy_5, .int), (cy_9, .int)] s := hK
  refine W.widen (k := 3) (n := 48) (Nat.le_of_ble_eq_true rfl) (Nat.le_of_ble_eq_true rfl) ?_
  refine va_putF (D := G) (ci := 8) (v := .ref o_10) (ty := .array (.int)) (C := RX4) (T := TX4) (N := 11) hx hb hg in_X4 tyX4 tyX4_ok nmX4 hown hK hP hD hS 0 rfl rfl 5 (by decide) (hg _ q414) (fun _ h9 => h9) rfl hin rfl (by decide +kernel) rfl rfl (Nat.le_of_ble_eq_true rfl) dX4_init_25 (fun H_12 locs hP hD hS => ?_)
  have hP : va_P G vwCl ([(h0, .inr (8, [.int 0, .int 0, .null, .ref o_2, .ref o_6, .ref o_10, .int 0, .int 0, .int 0, .int 0, .null])), (o_2, .inl (cy_1, 16, .inl (fun _ => 0))), (o_6, .inl (cy_5, 16, .inl (fun _ => 0))), (o_10, .inl (cy_9, 16, .inl (fun _ => 0)))]) H_12 := hP
  have hD : va_D A ([(h0, .inr (8, [.int 0, .int 0, .null, .ref o_2, .ref o_6, .ref o_10, .int 0, .int 0, .int 0, .int 0, .null])), (o_2, .inl (cy_1, 16, .inl (fun _ => 0))), (o_6, .inl (cy_5, 16, .inl (fun _ => 0))), (o_10, .inl (cy_9, 16, .inl (fun _ => 0)))]) := hD
  refine lv_aload_n hx hb dX4_init_28 rfl (lv_at hl 0 rfl) ?_
  refine lv_iconst (v := 0) hx hb dX4_init_29 (by decide) ?_
  refine va_put (D := G) (ci := 8) (v := .int 0) (ty := .int) (C := RX4) (T := TX4) (N := 11) hx hb hg in_X4 tyX4 tyX4_ok nmX4 hown hK hP hD hS 0 rfl rfl 6 (by decide) (hg _ q415) (fun _ h9 => h9) rfl (by decide +kernel) rfl rfl (Nat.le_of_ble_eq_true rfl) dX4_init_30 (fun H_13 locs hP hD hS => ?_)
  have hP : va_P G vwCl ([(h0, .inr (8, [.int 0, .int 0, .null, .ref o_2, .ref o_6, .ref o_10, .int 0, .int 0, .int 0, .int 0, .null])), (o_2, .inl (cy_1, 16, .inl (fun _ => 0))), (o_6, .inl (cy_5, 16, .inl (fun _ => 0))), (o_10, .inl (cy_9, 16, .inl (fun _ => 0)))]) H_13 := hP
  have hD : va_D A ([(h0, .inr (8, [.int 0, .int 0, .null, .ref o_2, .ref o_6, .ref o_10, .int 0, .int 0, .int 0, .int 0, .null])), (o_2, .inl (cy_1, 16, .inl (fun _ => 0))), (o_6, .inl (cy_5, 16, .inl (fun _ => 0))), (o_10, .inl (cy_9, 16, .inl (fun _ => 0)))]) := hD
  refine lv_aload_n hx hb dX4_init_33 rfl (lv_at hl 0 rfl) ?_
  refine lv_iconst (v := (-1)) hx hb dX4_init_34 (by decide) ?_
  refine va_put (D := G) (ci := 8) (v := .int (-1)) (ty := .int) (C := RX4) (T := TX4) (N := 11) hx hb hg in_X4 tyX4 tyX4_ok nmX4 hown hK hP hD hS 0 rfl rfl 7 (by decide) (hg _ q417) (fun _ h9 => h9) rfl (by decide +kernel) rfl rfl (Nat.le_of_ble_eq_true rfl) dX4_init_35 (fun H_14 locs hP hD hS => ?_)
  have hP : va_P G vwCl ([(h0, .inr (8, [.int 0, .int 0, .null, .ref o_2, .ref o_6, .ref o_10, .int 0, .int (-1), .int 0, .int 0, .null])), (o_2, .inl (cy_1, 16, .inl (fun _ => 0))), (o_6, .inl (cy_5, 16, .inl (fun _ => 0))), (o_10, .inl (cy_9, 16, .inl (fun _ => 0)))]) H_14 := hP
  have hD : va_D A ([(h0, .inr (8, [.int 0, .int 0, .null, .ref o_2, .ref o_6, .ref o_10, .int 0, .int (-1), .int 0, .int 0, .null])), (o_2, .inl (cy_1, 16, .inl (fun _ => 0))), (o_6, .inl (cy_5, 16, .inl (fun _ => 0))), (o_10, .inl (cy_9, 16, .inl (fun _ => 0)))]) := hD
  refine lv_aload_n hx hb dX4_init_38 rfl (lv_at hl 0 rfl) ?_
  refine lv_iconst (v := 0) hx hb dX4_init_39 (by decide) ?_
  refine va_put (D := G) (ci := 8) (v := .int 0) (ty := .int) (C := RX4) (T := TX4) (N := 11) hx hb hg in_X4 tyX4 tyX4_ok nmX4 hown hK hP hD hS 0 rfl rfl 8 (by decide) (hg _ q419) (fun _ h9 => h9) rfl (by decide +kernel) rfl rfl (Nat.le_of_ble_eq_true rfl) dX4_init_40 (fun H_15 locs hP hD hS => ?_)
  have hP : va_P G vwCl ([(h0, .inr (8, [.int 0, .int 0, .null, .ref o_2, .ref o_6, .ref o_10, .int 0, .int (-1), .int 0, .int 0, .null])), (o_2, .inl (cy_1, 16, .inl (fun _ => 0))), (o_6, .inl (cy_5, 16, .inl (fun _ => 0))), (o_10, .inl (cy_9, 16, .inl (fun _ => 0)))]) H_15 := hP
  have hD : va_D A ([(h0, .inr (8, [.int 0, .int 0, .null, .ref o_2, .ref o_6, .ref o_10, .int 0, .int (-1), .int 0, .int 0, .null])), (o_2, .inl (cy_1, 16, .inl (fun _ => 0))), (o_6, .inl (cy_5, 16, .inl (fun _ => 0))), (o_10, .inl (cy_9, 16, .inl (fun _ => 0)))]) := hD
  refine lv_aload_n hx hb dX4_init_43 rfl (lv_at hl 0 rfl) ?_
  refine lv_iconst (v := 0) hx hb dX4_init_44 (by decide) ?_
  refine va_put (D := G) (ci := 8) (v := .int 0) (ty := .int) (C := RX4) (T := TX4) (N := 11) hx hb hg in_X4 tyX4 tyX4_ok nmX4 hown hK hP hD hS 0 rfl rfl 9 (by decide) (hg _ q421) (fun _ h9 => h9) rfl (by decide +kernel) rfl rfl (Nat.le_of_ble_eq_true rfl) dX4_init_45 (fun H_16 locs hP hD hS => ?_)
  have hP : va_P G vwCl ([(h0, .inr (8, [.int 0, .int 0, .null, .ref o_2, .ref o_6, .ref o_10, .int 0, .int (-1), .int 0, .int 0, .null])), (o_2, .inl (cy_1, 16, .inl (fun _ => 0))), (o_6, .inl (cy_5, 16, .inl (fun _ => 0))), (o_10, .inl (cy_9, 16, .inl (fun _ => 0)))]) H_16 := hP
  have hD : va_D A ([(h0, .inr (8, [.int 0, .int 0, .null, .ref o_2, .ref o_6, .ref o_10, .int 0, .int (-1), .int 0, .int 0, .null])), (o_2, .inl (cy_1, 16, .inl (fun _ => 0))), (o_6, .inl (cy_5, 16, .inl (fun _ => 0))), (o_10, .inl (cy_9, 16, .inl (fun _ => 0)))]) := hD
  refine lv_aload_n hx hb dX4_init_48 rfl (lv_at hl 0 rfl) ?_
  refine lv_null hx hb dX4_init_49 ?_
  refine va_put (D := G) (ci := 8) (v := .null) (ty := .object "Watermarkmill$Sale") (C := RX4) (T := TX4) (N := 11) hx hb hg in_X4 tyX4 tyX4_ok nmX4 hown hK hP hD hS 0 rfl rfl 10 (by decide) (hg _ q423) (fun _ h9 => h9) rfl (by decide +kernel) rfl rfl (Nat.le_of_ble_eq_true rfl) dX4_init_50 (fun H_17 locs hP hD hS => ?_)
  have hP : va_P G vwCl ([(h0, .inr (8, [.int 0, .int 0, .null, .ref o_2, .ref o_6, .ref o_10, .int 0, .int (-1), .int 0, .int 0, .null])), (o_2, .inl (cy_1, 16, .inl (fun _ => 0))), (o_6, .inl (cy_5, 16, .inl (fun _ => 0))), (o_10, .inl (cy_9, 16, .inl (fun _ => 0)))]) H_17 := hP
  have hD : va_D A ([(h0, .inr (8, [.int 0, .int 0, .null, .ref o_2, .ref o_6, .ref o_10, .int 0, .int (-1), .int 0, .int 0, .null])), (o_2, .inl (cy_1, 16, .inl (fun _ => 0))), (o_6, .inl (cy_5, 16, .inl (fun _ => 0))), (o_10, .inl (cy_9, 16, .inl (fun _ => 0)))]) := hD
  refine lv_aload_n hx hb dX4_init_53 rfl (lv_at hl 0 rfl) ?_
  refine lv_iload_n hx hb dX4_init_54 rfl (lv_at hl 1 rfl) ?_
  refine va_putF (D := G) (ci := 8) (v := .int p0) (ty := .int) (C := RX4) (T := TX4) (N := 11) hx hb hg in_X4 tyX4 tyX4_ok nmX4 hown hK hP hD hS 0 rfl rfl 0 (by decide) (hg _ q407) (fun _ h9 => h9) rfl hin rfl (by decide +kernel) rfl rfl (Nat.le_of_ble_eq_true rfl) dX4_init_55 (fun H_18 locs hP hD hS => ?_)
  have hP : va_P G vwCl ([(h0, .inr (8, [.int p0, .int 0, .null, .ref o_2, .ref o_6, .ref o_10, .int 0, .int (-1), .int 0, .int 0, .null])), (o_2, .inl (cy_1, 16, .inl (fun _ => 0))), (o_6, .inl (cy_5, 16, .inl (fun _ => 0))), (o_10, .inl (cy_9, 16, .inl (fun _ => 0)))]) H_18 := hP
  have hD : va_D A ([(h0, .inr (8, [.int p0, .int 0, .null, .ref o_2, .ref o_6, .ref o_10, .int 0, .int (-1), .int 0, .int 0, .null])), (o_2, .inl (cy_1, 16, .inl (fun _ => 0))), (o_6, .inl (cy_5, 16, .inl (fun _ => 0))), (o_10, .inl (cy_9, 16, .inl (fun _ => 0)))]) := hD
  refine lv_aload_n hx hb dX4_init_58 rfl (lv_at hl 0 rfl) ?_
  refine lv_iload_n hx hb dX4_init_59 rfl (lv_at hl 2 rfl) ?_
  refine va_putF (D := G) (ci := 8) (v := .int p1) (ty := .int) (C := RX4) (T := TX4) (N := 11) hx hb hg in_X4 tyX4 tyX4_ok nmX4 hown hK hP hD hS 0 rfl rfl 1 (by decide) (hg _ q408) (fun _ h9 => h9) rfl hin rfl (by decide +kernel) rfl rfl (Nat.le_of_ble_eq_true rfl) dX4_init_60 (fun H_19 locs hP hD hS => ?_)
  have hP : va_P G vwCl ([(h0, .inr (8, [.int p0, .int p1, .null, .ref o_2, .ref o_6, .ref o_10, .int 0, .int (-1), .int 0, .int 0, .null])), (o_2, .inl (cy_1, 16, .inl (fun _ => 0))), (o_6, .inl (cy_5, 16, .inl (fun _ => 0))), (o_10, .inl (cy_9, 16, .inl (fun _ => 0)))]) H_19 := hP
  have hD : va_D A ([(h0, .inr (8, [.int p0, .int p1, .null, .ref o_2, .ref o_6, .ref o_10, .int 0, .int (-1), .int 0, .int 0, .null])), (o_2, .inl (cy_1, 16, .inl (fun _ => 0))), (o_6, .inl (cy_5, 16, .inl (fun _ => 0))), (o_10, .inl (cy_9, 16, .inl (fun _ => 0)))]) := hD
  refine lv_aload_n hx hb dX4_init_63 rfl (lv_at hl 0 rfl) ?_
  refine lv_aload_n hx hb dX4_init_64 rfl (lv_at hl 3 rfl) ?_
  refine va_putF (D := G) (ci := 8) (v := .ref dd) (ty := .array (.int)) (C := RX4) (T := TX4) (N := 11) hx hb hg in_X4 tyX4 tyX4_ok nmX4 hown hK hP hD hS 0 rfl rfl 2 (by decide) (hg _ q410) (fun _ h9 => h9) rfl hin rfl (by decide +kernel) rfl rfl (Nat.le_of_ble_eq_true rfl) dX4_init_65 (fun H_20 locs hP hD hS => ?_)
  have hP : va_P G vwCl ([(h0, .inr (8, [.int p0, .int p1, .ref dd, .ref o_2, .ref o_6, .ref o_10, .int 0, .int (-1), .int 0, .int 0, .null])), (o_2, .inl (cy_1, 16, .inl (fun _ => 0))), (o_6, .inl (cy_5, 16, .inl (fun _ => 0))), (o_10, .inl (cy_9, 16, .inl (fun _ => 0)))]) H_20 := hP
  have hD : va_D A ([(h0, .inr (8, [.int p0, .int p1, .ref dd, .ref o_2, .ref o_6, .ref o_10, .int 0, .int (-1), .int 0, .int 0, .null])), (o_2, .inl (cy_1, 16, .inl (fun _ => 0))), (o_6, .inl (cy_5, 16, .inl (fun _ => 0))), (o_10, .inl (cy_9, 16, .inl (fun _ => 0)))]) := hD
  refine W.widen (k := 3) (n := 48) (Nat.le_of_ble_eq_true rfl) (Nat.le_of_ble_eq_true rfl) ?_
  have hP9 := hP.sub (ws' := [(h0, .inr (8, ([.int p0, .int p1, .ref dd, .ref o_2, .ref o_6, .ref o_10, .int 0, .int (-1), .int 0, .int 0, .null])))]) [0] rfl
  have hD9 := hD.sub (ws' := [(h0, .inr (8, ([.int p0, .int p1, .ref dd, .ref o_2, .ref o_6, .ref o_10, .int 0, .int (-1), .int 0, .int 0, .null])))]) [0] (by decide) rfl
  have hK9 := hK.sub (tys' := []) [] rfl
  exact W.vret hx hb hr (fun t ht hW => ⟨⟨(), rfl, trivial, ⟨[.int p0, .int p1, .ref dd, .ref o_2, .ref o_6, .ref o_10, .int 0, .int (-1), .int 0, .int 0, .null], QW.of hP9 hK9 hD9 ht hW.alike⟩⟩, hS.F ht⟩) hS.2.2 dX4_init_68

abbrev wz_X5_init : List Cond := .code yX5_init cX5_init 2 none :: lw_good
set_option maxHeartbeats 4000000 in
set_option maxRecDepth 100000 in
/-- Ream(..) -/
theorem k_X5_init (l : Launch) (G : va_G) (z : Nat) (h0 : Nat) (p0 : Int32) (sz : Nat)  : Met l yX5_init wz_X5_init ({ frames := 1, cells := 1, slots := 1000, locals := 20 }) (va_Pc [.ref h0, .int p0] (PW G z [(h0, .inr (9, [.int 0, .null, .int 0]))] [] sz)) (va_Qv (fun (_ : Unit) => True) (fun (_ : Unit) (t : State) => ∃ (fsx : List Value), QW G [(h0, .inr (9, fsx))] [] (va_A [(h0, .inr (9, [.int 0, .null, .int 0]))] sz) t) (va_A [(h0, .inr (9, [.int 0, .null, .int 0]))] sz)) 1 1000 (va_A [(h0, .inr (9, [.int 0, .null, .int 0]))] sz) := by
  refine Met.ofW (cc := cX5_init) (maxL := 2) (ret := none) (by decide) rfl ?_
  intro p e s m args below meth c s₁ B hml hv
  obtain ⟨rfl, rfl, hP, hK, hD0, hG⟩ := hv
  have hx := B.exec
  have hb := B.bytes
  have hr := B.returns
  have hts := atoms_spec (ws := wz_X5_init) B.pre
  have hg : ∀ w ∈ lw_good, w.before _ s = true := fun w h => hts w (List.mem_cons_of_mem _ h)
  have hown : s.vm.findClass RX5 = some m.cls := findClass_of_methodNamed B.named
  have hlocks := B.notSynchronized
  have hin : meth.name = "<init>" := (name_of_methodNamed B.named B.method).1
  have hD := hD0.self (sz := s.heap.size)
  generalize hAe : va_A [(h0, .inr (9, [.int 0, .null, .int 0]))] s.heap.size = A at hD hG ⊢
  have hA : ∀ q : Nat, s.heap.size ≤ q → A q := fun q h => by rw [← hAe]; exact Or.inr h
  have hS : va_S A s.heap s.heap [] := va_S.rf
  have hl := lv_entry ([.ref h0, .int p0]) (n := 2) (Nat.le_of_ble_eq_true rfl)
  rw [lg_entry_eq]
  generalize (lg_sl ([.ref h0, .int p0]) ++ List.replicate (2 - (lg_sl ([.ref h0, .int p0])).length) Slot.unset).toArray = ls at hl ⊢
  have hl : lv_has ls 2 [(0, .ref h0), (1, .int p0)] := hl
  refine lv_aload_n hx hb dX5_init_0 rfl (lv_at hl 0 rfl) ?_
  refine W.objInit hx hb hown (hg _ q741) (hg _ q43) (hg _ q44) rfl (by rw [hml]; exact hl.1) rfl dX5_init_1 (Nat.le_of_ble_eq_true rfl) (Nat.le_of_ble_eq_true rfl) ?_
  refine W.eq (g2 := F0 m 4 ls []) rfl ?_
  refine lv_aload_n hx hb dX5_init_4 rfl (lv_at hl 0 rfl) ?_
  refine lv_sipush (v := 1000) hx hb dX5_init_5 (by decide) ?_
  refine va_newa (atype := .int) (ty := .int) (a0 := (1000, .inl (fun _ => 0))) (N' := 1000) hx hb (hg _ q94) rfl hK hP hD hS hA (fun _ => rfl) (by decide) (by decide +kernel) (Nat.le_of_ble_eq_true rfl) (Nat.le_of_ble_eq_true rfl) (Nat.le_of_ble_eq_true rfl) dX5_init_8 (fun o_2 cy_1 H_3 hK hP hD hS => ?_)
  have hP : va_P G vwCl ([(h0, .inr (9, [.int 0, .null, .int 0])), (o_2, .inl (cy_1, 1000, .inl (fun _ => 0)))]) H_3 := hP
  have hD : va_D A ([(h0, .inr (9, [.int 0, .null, .int 0])), (o_2, .inl (cy_1, 1000, .inl (fun _ => 0)))]) := hD
  have hK : va_K G vwCl [(cy_1, .int)] s := hK
  refine W.widen (k := 1) (n := 1000) (Nat.le_of_ble_eq_true rfl) (Nat.le_of_ble_eq_true rfl) ?_
  refine va_putF (D := G) (ci := 9) (v := .ref o_2) (ty := .array (.int)) (C := RX5) (T := TX5) (N := 3) hx hb hg in_X5 tyX5 tyX5_ok nmX5 hown hK hP hD hS 0 rfl rfl 1 (by decide) (hg _ q744) (fun _ h9 => h9) rfl hin rfl (by decide +kernel) rfl rfl (Nat.le_of_ble_eq_true rfl) dX5_init_10 (fun H_4 locs hP hD hS => ?_)
  have hP : va_P G vwCl ([(h0, .inr (9, [.int 0, .ref o_2, .int 0])), (o_2, .inl (cy_1, 1000, .inl (fun _ => 0)))]) H_4 := hP
  have hD : va_D A ([(h0, .inr (9, [.int 0, .ref o_2, .int 0])), (o_2, .inl (cy_1, 1000, .inl (fun _ => 0)))]) := hD
  refine lv_aload_n hx hb dX5_init_13 rfl (lv_at hl 0 rfl) ?_
  refine lv_iconst (v := 0) hx hb dX5_init_14 (by decide) ?_
  refine va_put (D := G) (ci := 9) (v := .int 0) (ty := .int) (C := RX5) (T := TX5) (N := 3) hx hb hg in_X5 tyX5 tyX5_ok nmX5 hown hK hP hD hS 0 rfl rfl 2 (by decide) (hg _ q746) (fun _ h9 => h9) rfl (by decide +kernel) rfl rfl (Nat.le_of_ble_eq_true rfl) dX5_init_15 (fun H_5 locs hP hD hS => ?_)
  have hP : va_P G vwCl ([(h0, .inr (9, [.int 0, .ref o_2, .int 0])), (o_2, .inl (cy_1, 1000, .inl (fun _ => 0)))]) H_5 := hP
  have hD : va_D A ([(h0, .inr (9, [.int 0, .ref o_2, .int 0])), (o_2, .inl (cy_1, 1000, .inl (fun _ => 0)))]) := hD
  refine lv_aload_n hx hb dX5_init_18 rfl (lv_at hl 0 rfl) ?_
  refine lv_iload_n hx hb dX5_init_19 rfl (lv_at hl 1 rfl) ?_
  refine va_putF (D := G) (ci := 9) (v := .int p0) (ty := .int) (C := RX5) (T := TX5) (N := 3) hx hb hg in_X5 tyX5 tyX5_ok nmX5 hown hK hP hD hS 0 rfl rfl 0 (by decide) (hg _ q742) (fun _ h9 => h9) rfl hin rfl (by decide +kernel) rfl rfl (Nat.le_of_ble_eq_true rfl) dX5_init_20 (fun H_6 locs hP hD hS => ?_)
  have hP : va_P G vwCl ([(h0, .inr (9, [.int p0, .ref o_2, .int 0])), (o_2, .inl (cy_1, 1000, .inl (fun _ => 0)))]) H_6 := hP
  have hD : va_D A ([(h0, .inr (9, [.int p0, .ref o_2, .int 0])), (o_2, .inl (cy_1, 1000, .inl (fun _ => 0)))]) := hD
  refine W.widen (k := 1) (n := 1000) (Nat.le_of_ble_eq_true rfl) (Nat.le_of_ble_eq_true rfl) ?_
  have hP9 := hP.sub (ws' := [(h0, .inr (9, ([.int p0, .ref o_2, .int 0])))]) [0] rfl
  have hD9 := hD.sub (ws' := [(h0, .inr (9, ([.int p0, .ref o_2, .int 0])))]) [0] (by decide) rfl
  have hK9 := hK.sub (tys' := []) [] rfl
  exact W.vret hx hb hr (fun t ht hW => ⟨⟨(), rfl, trivial, ⟨[.int p0, .ref o_2, .int 0], QW.of hP9 hK9 hD9 ht hW.alike⟩⟩, hS.F ht⟩) hS.2.2 dX5_init_23

abbrev wz_X1_init : List Cond := .code yX1_init cX1_init 3 none :: lw_good
set_option maxHeartbeats 4000000 in
set_option maxRecDepth 100000 in
/-- Document(.., 1) -/
theorem k_X1_init_1 (l : Launch) (G : va_G) (z : Nat) (h0 : Nat) (p0 : Int32) (sz : Nat)  : Met l yX1_init wz_X1_init ({ frames := 1, cells := 3, slots := 300, locals := 20 }) (va_Pc [.ref h0, .int p0, .int 1] (PW G z [(h0, .inr (5, [.int 0, .int 0, .null, .null, .null, .int 0, .int 0]))] [] sz)) (va_Qv (fun (_ : Unit) => True) (fun (_ : Unit) (t : State) => ∃ (fsx : List Value), QW G [(h0, .inr (5, fsx))] [] (va_A [(h0, .inr (5, [.int 0, .int 0, .null, .null, .null, .int 0, .int 0]))] sz) t) (va_A [(h0, .inr (5, [.int 0, .int 0, .null, .null, .null, .int 0, .int 0]))] sz)) 3 300 (va_A [(h0, .inr (5, [.int 0, .int 0, .null, .null, .null, .int 0, .int 0]))] sz) := by
  refine Met.ofW (cc := cX1_init) (maxL := 3) (ret := none) (by decide) rfl ?_
  intro p e s m args below meth c s₁ B hml hv
  obtain ⟨rfl, rfl, hP, hK, hD0, hG⟩ := hv
  have hx := B.exec
  have hb := B.bytes
  have hr := B.returns
  have hts := atoms_spec (ws := wz_X1_init) B.pre
  have hg : ∀ w ∈ lw_good, w.before _ s = true := fun w h => hts w (List.mem_cons_of_mem _ h)
  have hown : s.vm.findClass RX1 = some m.cls := findClass_of_methodNamed B.named
  have hlocks := B.notSynchronized
  have hin : meth.name = "<init>" := (name_of_methodNamed B.named B.method).1
  have hD := hD0.self (sz := s.heap.size)
  generalize hAe : va_A [(h0, .inr (5, [.int 0, .int 0, .null, .null, .null, .int 0, .int 0]))] s.heap.size = A at hD hG ⊢
  have hA : ∀ q : Nat, s.heap.size ≤ q → A q := fun q h => by rw [← hAe]; exact Or.inr h
  have hS : va_S A s.heap s.heap [] := va_S.rf
  have hl := lv_entry ([.ref h0, .int p0, .int 1]) (n := 3) (Nat.le_of_ble_eq_true rfl)
  rw [lg_entry_eq]
  generalize (lg_sl ([.ref h0, .int p0, .int 1]) ++ List.replicate (3 - (lg_sl ([.ref h0, .int p0, .int 1])).length) Slot.unset).toArray = ls at hl ⊢
  have hl : lv_has ls 3 [(0, .ref h0), (1, .int p0), (2, .int 1)] := hl
  refine lv_aload_n hx hb dX1_init_0 rfl (lv_at hl 0 rfl) ?_
  refine W.objInit hx hb hown (hg _ q808) (hg _ q43) (hg _ q44) rfl (by rw [hml]; exact hl.1) rfl dX1_init_1 (Nat.le_of_ble_eq_true rfl) (Nat.le_of_ble_eq_true rfl) ?_
  refine W.eq (g2 := F0 m 4 ls []) rfl ?_
  refine lv_aload_n hx hb dX1_init_4 rfl (lv_at hl 0 rfl) ?_
  refine lv_bipush (v := 100) hx hb dX1_init_5 (by decide) ?_
  refine va_newa (atype := .int) (ty := .int) (a0 := (100, .inl (fun _ => 0))) (N' := 100) hx hb (hg _ q94) rfl hK hP hD hS hA (fun _ => rfl) (by decide) (by decide +kernel) (Nat.le_of_ble_eq_true rfl) (Nat.le_of_ble_eq_true rfl) (Nat.le_of_ble_eq_true rfl) dX1_init_7 (fun o_2 cy_1 H_3 hK hP hD hS => ?_)
  have hP : va_P G vwCl ([(h0, .inr (5, [.int 0, .int 0, .null, .null, .null, .int 0, .int 0])), (o_2, .inl (cy_1, 100, .inl (fun _ => 0)))]) H_3 := hP
  have hD : va_D A ([(h0, .inr (5, [.int 0, .int 0, .null, .null, .null, .int 0, .int 0])), (o_2, .inl (cy_1, 100, .inl (fun _ => 0)))]) := hD
  have hK : va_K G vwCl [(cy_1, .int)] s := hK
  refine W.widen (k := 1) (n := 100) (Nat.le_of_ble_eq_true rfl) (Nat.le_of_ble_eq_true rfl) ?_
  refine va_putF (D := G) (ci := 5) (v := .ref o_2) (ty := .array (.int)) (C := RX1) (T := TX1) (N := 7) hx hb hg in_X1 tyX1 tyX1_ok nmX1 hown hK hP hD hS 0 rfl rfl 2 (by decide) (hg _ q813) (fun _ h9 => h9) rfl hin rfl (by decide +kernel) rfl rfl (Nat.le_of_ble_eq_true rfl) dX1_init_9 (fun H_4 locs hP hD hS => ?_)
  have hP : va_P G vwCl ([(h0, .inr (5, [.int 0, .int 0, .ref o_2, .null, .null, .int 0, .int 0])), (o_2, .inl (cy_1, 100, .inl (fun _ => 0)))]) H_4 := hP
  have hD : va_D A ([(h0, .inr (5, [.int 0, .int 0, .ref o_2, .null, .null, .int 0, .int 0])), (o_2, .inl (cy_1, 100, .inl (fun _ => 0)))]) := hD
  refine lv_aload_n hx hb dX1_init_12 rfl (lv_at hl 0 rfl) ?_
  refine lv_bipush (v := 100) hx hb dX1_init_13 (by decide) ?_
  refine va_newa (atype := .int) (ty := .int) (a0 := (100, .inl (fun _ => 0))) (N' := 100) hx hb (hg _ q94) rfl hK hP hD hS hA (fun _ => rfl) (by decide) (by decide +kernel) (Nat.le_of_ble_eq_true rfl) (Nat.le_of_ble_eq_true rfl) (Nat.le_of_ble_eq_true rfl) dX1_init_15 (fun o_6 cy_5 H_7 hK hP hD hS => ?_)
  have hP : va_P G vwCl ([(h0, .inr (5, [.int 0, .int 0, .ref o_2, .null, .null, .int 0, .int 0])), (o_2, .inl (cy_1, 100, .inl (fun _ => 0))), (o_6, .inl (cy_5, 100, .inl (fun _ => 0)))]) H_7 := hP
  have hD : va_D A ([(h0, .inr (5, [.int 0, .int 0, .ref o_2, .null, .null, .int 0, .int 0])), (o_2, .inl (cy_1, 100, .inl (fun _ => 0))), (o_6, .inl (cy_5, 100, .inl (fun _ => 0)))]) := hD
  have hK : va_K G vwCl [(cy_1, .int), (cy_5, .int)] s := hK
  refine W.widen (k := 2) (n := 200) (Nat.le_of_ble_eq_true rfl) (Nat.le_of_ble_eq_true rfl) ?_
  refine va_putF (D := G) (ci := 5) (v := .ref o_6) (ty := .array (.int)) (C := RX1) (T := TX1) (N := 7) hx hb hg in_X1 tyX1 tyX1_ok nmX1 hown hK hP hD hS 0 rfl rfl 3 (by decide) (hg _ q815) (fun _ h9 => h9) rfl hin rfl (by decide +kernel) rfl rfl (Nat.le_of_ble_eq_true rfl) dX1_init_17 (fun H_8 locs hP hD hS => ?_)
  have hP : va_P G vwCl ([(h0, .inr (5, [.int 0, .int 0, .ref o_2, .ref o_6, .null, .int 0, .int 0])), (o_2, .inl (cy_1, 100, .inl (fun _ => 0))), (o_6, .inl (cy_5, 100, .inl (fun _ => 0)))]) H_8 := hP
  have hD : va_D A ([(h0, .inr (5, [.int 0, .int 0, .ref o_2, .ref o_6, .null, .int 0, .int 0])), (o_2, .inl (cy_1, 100, .inl (fun _ => 0))), (o_6, .inl (cy_5, 100, .inl (fun _ => 0)))]) := hD
  refine lv_aload_n hx hb dX1_init_20 rfl (lv_at hl 0 rfl) ?_
  refine lv_iconst (v := 0) hx hb dX1_init_21 (by decide) ?_
  refine va_put (D := G) (ci := 5) (v := .int 0) (ty := .int) (C := RX1) (T := TX1) (N := 7) hx hb hg in_X1 tyX1 tyX1_ok nmX1 hown hK hP hD hS 0 rfl rfl 5 (by decide) (hg _ q818) (fun _ h9 => h9) rfl (by decide +kernel) rfl rfl (Nat.le_of_ble_eq_true rfl) dX1_init_22 (fun H_9 locs hP hD hS => ?_)
  have hP : va_P G vwCl ([(h0, .inr (5, [.int 0, .int 0, .ref o_2, .ref o_6, .null, .int 0, .int 0])), (o_2, .inl (cy_1, 100, .inl (fun _ => 0))), (o_6, .inl (cy_5, 100, .inl (fun _ => 0)))]) H_9 := hP
  have hD : va_D A ([(h0, .inr (5, [.int 0, .int 0, .ref o_2, .ref o_6, .null, .int 0, .int 0])), (o_2, .inl (cy_1, 100, .inl (fun _ => 0))), (o_6, .inl (cy_5, 100, .inl (fun _ => 0)))]) := hD
  refine lv_aload_n hx hb dX1_init_25 rfl (lv_at hl 0 rfl) ?_
  refine lv_iconst (v := 0) hx hb dX1_init_26 (by decide) ?_
  refine va_put (D := G) (ci := 5) (v := .int 0) (ty := .boolean) (C := RX1) (T := TX1) (N := 7) hx hb hg in_X1 tyX1 tyX1_ok nmX1 hown hK hP hD hS 0 rfl rfl 6 (by decide) (hg _ q820) (fun _ h9 => h9) rfl (by decide +kernel) rfl rfl (Nat.le_of_ble_eq_true rfl) dX1_init_27 (fun H_10 locs hP hD hS => ?_)
  have hP : va_P G vwCl ([(h0, .inr (5, [.int 0, .int 0, .ref o_2, .ref o_6, .null, .int 0, .int 0])), (o_2, .inl (cy_1, 100, .inl (fun _ => 0))), (o_6, .inl (cy_5, 100, .inl (fun _ => 0)))]) H_10 := hP
  have hD : va_D A ([(h0, .inr (5, [.int 0, .int 0, .ref o_2, .ref o_6, .null, .int 0, .int 0])), (o_2, .inl (cy_1, 100, .inl (fun _ => 0))), (o_6, .inl (cy_5, 100, .inl (fun _ => 0)))]) := hD
  refine lv_aload_n hx hb dX1_init_30 rfl (lv_at hl 0 rfl) ?_
  refine lv_iload_n hx hb dX1_init_31 rfl (lv_at hl 1 rfl) ?_
  refine va_putF (D := G) (ci := 5) (v := .int p0) (ty := .int) (C := RX1) (T := TX1) (N := 7) hx hb hg in_X1 tyX1 tyX1_ok nmX1 hown hK hP hD hS 0 rfl rfl 0 (by decide) (hg _ q809) (fun _ h9 => h9) rfl hin rfl (by decide +kernel) rfl rfl (Nat.le_of_ble_eq_true rfl) dX1_init_32 (fun H_11 locs hP hD hS => ?_)
  have hP : va_P G vwCl ([(h0, .inr (5, [.int p0, .int 0, .ref o_2, .ref o_6, .null, .int 0, .int 0])), (o_2, .inl (cy_1, 100, .inl (fun _ => 0))), (o_6, .inl (cy_5, 100, .inl (fun _ => 0)))]) H_11 := hP
  have hD : va_D A ([(h0, .inr (5, [.int p0, .int 0, .ref o_2, .ref o_6, .null, .int 0, .int 0])), (o_2, .inl (cy_1, 100, .inl (fun _ => 0))), (o_6, .inl (cy_5, 100, .inl (fun _ => 0)))]) := hD
  refine lv_aload_n hx hb dX1_init_35 rfl (lv_at hl 0 rfl) ?_
  refine lv_iload_n hx hb dX1_init_36 rfl (lv_at hl 2 rfl) ?_
  refine va_putF (D := G) (ci := 5) (v := .int 1) (ty := .int) (C := RX1) (T := TX1) (N := 7) hx hb hg in_X1 tyX1 tyX1_ok nmX1 hown hK hP hD hS 0 rfl rfl 1 (by decide) (hg _ q811) (fun _ h9 => h9) rfl hin rfl (by decide +kernel) rfl rfl (Nat.le_of_ble_eq_true rfl) dX1_init_37 (fun H_12 locs hP hD hS => ?_)
  have hP : va_P G vwCl ([(h0, .inr (5, [.int p0, .int 1, .ref o_2, .ref o_6, .null, .int 0, .int 0])), (o_2, .inl (cy_1, 100, .inl (fun _ => 0))), (o_6, .inl (cy_5, 100, .inl (fun _ => 0)))]) H_12 := hP
  have hD : va_D A ([(h0, .inr (5, [.int p0, .int 1, .ref o_2, .ref o_6, .null, .int 0, .int 0])), (o_2, .inl (cy_1, 100, .inl (fun _ => 0))), (o_6, .inl (cy_5, 100, .inl (fun _ => 0)))]) := hD
  refine lv_aload_n hx hb dX1_init_40 rfl (lv_at hl 0 rfl) ?_
  refine lv_bipush (v := 100) hx hb dX1_init_41 (by decide) ?_
  refine lv_iload_n hx hb dX1_init_43 rfl (lv_at hl 2 rfl) ?_
  refine lv_imul hx hb dX1_init_44 ?_
  refine lv_topi (fun f_13 ef_13 => ?_)
  obtain rfl : f_13 = 100 := ef_13.trans (by decide)
  refine va_newa (atype := .int) (ty := .int) (a0 := (100, .inl (fun _ => 0))) (N' := 100) hx hb (hg _ q94) rfl hK hP hD hS hA (fun _ => rfl) (by decide) (by decide +kernel) (Nat.le_of_ble_eq_true rfl) (Nat.le_of_ble_eq_true rfl) (Nat.le_of_ble_eq_true rfl) dX1_init_45 (fun o_15 cy_14 H_16 hK hP hD hS => ?_)
  have hP : va_P G vwCl ([(h0, .inr (5, [.int p0, .int 1, .ref o_2, .ref o_6, .null, .int 0, .int 0])), (o_2, .inl (cy_1, 100, .inl (fun _ => 0))), (o_6, .inl (cy_5, 100, .inl (fun _ => 0))), (o_15, .inl (cy_14, 100, .inl (fun _ => 0)))]) H_16 := hP
  have hD : va_D A ([(h0, .inr (5, [.int p0, .int 1, .ref o_2, .ref o_6, .null, .int 0, .int 0])), (o_2, .inl (cy_1, 100, .inl (fun _ => 0))), (o_6, .inl (cy_5, 100, .inl (fun _ => 0))), (o_15, .inl (cy_14, 100, .inl (fun _ => 0)))]) := hD
  have hK : va_K G vwCl [(cy_1, .int), (cy_5, .int), (cy_14, .int)] s := hK
  refine W.widen (k := 3) (n := 300) (Nat.le_of_ble_eq_true rfl) (Nat.le_of_ble_eq_true rfl) ?_
  refine va_putF (D := G) (ci := 5) (v := .ref o_15) (ty := .array (.int)) (C := RX1) (T := TX1) (N := 7) hx hb hg in_X1 tyX1 tyX1_ok nmX1 hown hK hP hD hS 0 rfl rfl 4 (by decide) (hg _ q817) (fun _ h9 => h9) rfl hin rfl (by decide +kernel) rfl rfl (Nat.le_of_ble_eq_true rfl) dX1_init_47 (fun H_17 locs hP hD hS => ?_)
  have hP : va_P G vwCl ([(h0, .inr (5, [.int p0, .int 1, .ref o_2, .ref o_6, .ref o_15, .int 0, .int 0])), (o_2, .inl (cy_1, 100, .inl (fun _ => 0))), (o_6, .inl (cy_5, 100, .inl (fun _ => 0))), (o_15, .inl (cy_14, 100, .inl (fun _ => 0)))]) H_17 := hP
  have hD : va_D A ([(h0, .inr (5, [.int p0, .int 1, .ref o_2, .ref o_6, .ref o_15, .int 0, .int 0])), (o_2, .inl (cy_1, 100, .inl (fun _ => 0))), (o_6, .inl (cy_5, 100, .inl (fun _ => 0))), (o_15, .inl (cy_14, 100, .inl (fun _ => 0)))]) := hD
  refine W.widen (k := 3) (n := 300) (Nat.le_of_ble_eq_true rfl) (Nat.le_of_ble_eq_true rfl) ?_
  have hP9 := hP.sub (ws' := [(h0, .inr (5, ([.int p0, .int 1, .ref o_2, .ref o_6, .ref o_15, .int 0, .int 0])))]) [0] rfl
  have hD9 := hD.sub (ws' := [(h0, .inr (5, ([.int p0, .int 1, .ref o_2, .ref o_6, .ref o_15, .int 0, .int 0])))]) [0] (by decide) rfl
  have hK9 := hK.sub (tys' := []) [] rfl
  exact W.vret hx hb hr (fun t ht hW => ⟨⟨(), rfl, trivial, ⟨[.int p0, .int 1, .ref o_2, .ref o_6, .ref o_15, .int 0, .int 0], QW.of hP9 hK9 hD9 ht hW.alike⟩⟩, hS.F ht⟩) hS.2.2 dX1_init_50

set_option maxHeartbeats 4000000 in
set_option maxRecDepth 100000 in
/-- Document(.., 2) -/
theorem k_X1_init_2 (l : Launch) (G : va_G) (z : Nat) (h0 : Nat) (p0 : Int32) (sz : Nat)  : Met l yX1_init wz_X1_init ({ frames := 1, cells := 3, slots := 400, locals := 20 }) (va_Pc [.ref h0, .int p0, .int 2] (PW G z [(h0, .inr (5, [.int 0, .int 0, .null, .null, .null, .int 0, .int 0]))] [] sz)) (va_Qv (fun (_ : Unit) => True) (fun (_ : Unit) (t : State) => ∃ (fsx : List Value), QW G [(h0, .inr (5, fsx))] [] (va_A [(h0, .inr (5, [.int 0, .int 0, .null, .null, .null, .int 0, .int 0]))] sz) t) (va_A [(h0, .inr (5, [.int 0, .int 0, .null, .null, .null, .int 0, .int 0]))] sz)) 3 400 (va_A [(h0, .inr (5, [.int 0, .int 0, .null, .null, .null, .int 0, .int 0]))] sz) := by
  refine Met.ofW (cc := cX1_init) (maxL := 3) (ret := none) (by decide) rfl ?_
  intro p e s m args below meth c s₁ B hml hv
  obtain ⟨rfl, rfl, hP, hK, hD0, hG⟩ := hv
  have hx := B.exec
  have hb := B.bytes
  have hr := B.returns
  have hts := atoms_spec (ws := wz_X1_init) B.pre
  have hg : ∀ w ∈ lw_good, w.before _ s = true := fun w h => hts w (List.mem_cons_of_mem _ h)
  have hown : s.vm.findClass RX1 = some m.cls := findClass_of_methodNamed B.named
  have hlocks := B.notSynchronized
  have hin : meth.name = "<init>" := (name_of_methodNamed B.named B.method).1
  have hD := hD0.self (sz := s.heap.size)
  generalize hAe : va_A [(h0, .inr (5, [.int 0, .int 0, .null, .null, .null, .int 0, .int 0]))] s.heap.size = A at hD hG ⊢
  have hA : ∀ q : Nat, s.heap.size ≤ q → A q := fun q h => by rw [← hAe]; exact Or.inr h
  have hS : va_S A s.heap s.heap [] := va_S.rf
  have hl := lv_entry ([.ref h0, .int p0, .int 2]) (n := 3) (Nat.le_of_ble_eq_true rfl)
  rw [lg_entry_eq]
  generalize (lg_sl ([.ref h0, .int p0, .int 2]) ++ List.replicate (3 - (lg_sl ([.ref h0, .int p0, .int 2])).length) Slot.unset).toArray = ls at hl ⊢
  have hl : lv_has ls 3 [(0, .ref h0), (1, .int p0), (2, .int 2)] := hl
  refine lv_aload_n hx hb dX1_init_0 rfl (lv_at hl 0 rfl) ?_
  refine W.objInit hx hb hown (hg _ q808) (hg _ q43) (hg _ q44) rfl (by rw [hml]; exact hl.1) rfl dX1_init_1 (Nat.le_of_ble_eq_true rfl) (Nat.le_of_ble_eq_true rfl) ?_
  refine W.eq (g2 := F0 m 4 ls []) rfl ?_
  refine lv_aload_n hx hb dX1_init_4 rfl (lv_at hl 0 rfl) ?_
  refine lv_bipush (v := 100) hx hb dX1_init_5 (by decide) ?_
  refine va_newa (atype := .int) (ty := .int) (a0 := (100, .inl (fun _ => 0))) (N' := 100) hx hb (hg _ q94) rfl hK hP hD hS hA (fun _ => rfl) (by decide) (by decide +kernel) (Nat.le_of_ble_eq_true rfl) (Nat.le_of_ble_eq_true rfl) (Nat.le_of_ble_eq_true rfl) dX1_init_7 (fun o_2 cy_1 H_3 hK hP hD hS => ?_)
  have hP : va_P G vwCl ([(h0, .inr (5, [.int 0, .int 0, .null, .null, .null, .int 0, .int 0])), (o_2, .inl (cy_1, 100, .inl (fun _ => 0)))]) H_3 := hP
  have hD : va_D A ([(h0, .inr (5, [.int 0, .int 0, .null, .null, .null, .int 0, .int 0])), (o_2, .inl (cy_1, 100, .inl (fun _ => 0)))]) := hD
  have hK : va_K G vwCl [(cy_1, .int)] s := hK
  refine W.widen (k := 1) (n := 100) (Nat.le_of_ble_eq_true rfl) (Nat.le_of_ble_eq_true rfl) ?_
  refine va_putF (D := G) (ci := 5) (v := .ref o_2) (ty := .array (.int)) (C := RX1) (T := TX1) (N := 7) hx hb hg in_X1 tyX1 tyX1_ok nmX1 hown hK hP hD hS 0 rfl rfl 2 (by decide) (hg _ q813) (fun _ h9 => h9) rfl hin rfl (by decide +kernel) rfl rfl (Nat.le_of_ble_eq_true rfl) dX1_init_9 (fun H_4 locs hP hD hS => ?_)
  have hP : va_P G vwCl ([(h0, .inr (5, [.int 0, .int 0, .ref o_2, .null, .null, .int 0, .int 0])), (o_2, .inl (cy_1, 100, .inl (fun _ => 0)))]) H_4 := hP
  have hD : va_D A ([(h0, .inr (5, [.int 0, .int 0, .ref o_2, .null, .null, .int 0, .int 0])), (o_2, .inl (cy_1, 100, .inl (fun _ => 0)))]) := hD
  refine lv_aload_n hx hb dX1_init_12 rfl (lv_at hl 0 rfl) ?_
  refine lv_bipush (v := 100) hx hb dX1_init_13 (by decide) ?_
  refine va_newa (atype := .int) (ty := .int) (a0 := (100, .inl (fun _ => 0))) (N' := 100) hx hb (hg _ q94) rfl hK hP hD hS hA (fun _ => rfl) (by decide) (by decide +kernel) (Nat.le_of_ble_eq_true rfl) (Nat.le_of_ble_eq_true rfl) (Nat.le_of_ble_eq_true rfl) dX1_init_15 (fun o_6 cy_5 H_7 hK hP hD hS => ?_)
  have hP : va_P G vwCl ([(h0, .inr (5, [.int 0, .int 0, .ref o_2, .null, .null, .int 0, .int 0])), (o_2, .inl (cy_1, 100, .inl (fun _ => 0))), (o_6, .inl (cy_5, 100, .inl (fun _ => 0)))]) H_7 := hP
  have hD : va_D A ([(h0, .inr (5, [.int 0, .int 0, .ref o_2, .null, .null, .int 0, .int 0])), (o_2, .inl (cy_1, 100, .inl (fun _ => 0))), (o_6, .inl (cy_5, 100, .inl (fun _ => 0)))]) := hD
  have hK : va_K G vwCl [(cy_1, .int), (cy_5, .int)] s := hK
  refine W.widen (k := 2) (n := 200) (Nat.le_of_ble_eq_true rfl) (Nat.le_of_ble_eq_true rfl) ?_
  refine va_putF (D := G) (ci := 5) (v := .ref o_6) (ty := .array (.int)) (C := RX1) (T := TX1) (N := 7) hx hb hg in_X1 tyX1 tyX1_ok nmX1 hown hK hP hD hS 0 rfl rfl 3 (by decide) (hg _ q815) (fun _ h9 => h9) rfl hin rfl (by decide +kernel) rfl rfl (Nat.le_of_ble_eq_true rfl) dX1_init_17 (fun H_8 locs hP hD hS => ?_)
  have hP : va_P G vwCl ([(h0, .inr (5, [.int 0, .int 0, .ref o_2, .ref o_6, .null, .int 0, .int 0])), (o_2, .inl (cy_1, 100, .inl (fun _ => 0))), (o_6, .inl (cy_5, 100, .inl (fun _ => 0)))]) H_8 := hP
  have hD : va_D A ([(h0, .inr (5, [.int 0, .int 0, .ref o_2, .ref o_6, .null, .int 0, .int 0])), (o_2, .inl (cy_1, 100, .inl (fun _ => 0))), (o_6, .inl (cy_5, 100, .inl (fun _ => 0)))]) := hD
  refine lv_aload_n hx hb dX1_init_20 rfl (lv_at hl 0 rfl) ?_
  refine lv_iconst (v := 0) hx hb dX1_init_21 (by decide) ?_
  refine va_put (D := G) (ci := 5) (v := .int 0) (ty := .int) (C := RX1) (T := TX1) (N := 7) hx hb hg in_X1 tyX1 tyX1_ok nmX1 hown hK hP hD hS 0 rfl rfl 5 (by decide) (hg _ q818) (fun _ h9 => h9) rfl (by decide +kernel) rfl rfl (Nat.le_of_ble_eq_true rfl) dX1_init_22 (fun H_9 locs hP hD hS => ?_)
  have hP : va_P G vwCl ([(h0, .inr (5, [.int 0, .int 0, .ref o_2, .ref o_6, .null, .int 0, .int 0])), (o_2, .inl (cy_1, 100, .inl (fun _ => 0))), (o_6, .inl (cy_5, 100, .inl (fun _ => 0)))]) H_9 := hP
  have hD : va_D A ([(h0, .inr (5, [.int 0, .int 0, .ref o_2, .ref o_6, .null, .int 0, .int 0])), (o_2, .inl (cy_1, 100, .inl (fun _ => 0))), (o_6, .inl (cy_5, 100, .inl (fun _ => 0)))]) := hD
  refine lv_aload_n hx hb dX1_init_25 rfl (lv_at hl 0 rfl) ?_
  refine lv_iconst (v := 0) hx hb dX1_init_26 (by decide) ?_
  refine va_put (D := G) (ci := 5) (v := .int 0) (ty := .boolean) (C := RX1) (T := TX1) (N := 7) hx hb hg in_X1 tyX1 tyX1_ok nmX1 hown hK hP hD hS 0 rfl rfl 6 (by decide) (hg _ q820) (fun _ h9 => h9) rfl (by decide +kernel) rfl rfl (Nat.le_of_ble_eq_true rfl) dX1_init_27 (fun H_10 locs hP hD hS => ?_)
  have hP : va_P G vwCl ([(h0, .inr (5, [.int 0, .int 0, .ref o_2, .ref o_6, .null, .int 0, .int 0])), (o_2, .inl (cy_1, 100, .inl (fun _ => 0))), (o_6, .inl (cy_5, 100, .inl (fun _ => 0)))]) H_10 := hP
  have hD : va_D A ([(h0, .inr (5, [.int 0, .int 0, .ref o_2, .ref o_6, .null, .int 0, .int 0])), (o_2, .inl (cy_1, 100, .inl (fun _ => 0))), (o_6, .inl (cy_5, 100, .inl (fun _ => 0)))]) := hD
  refine lv_aload_n hx hb dX1_init_30 rfl (lv_at hl 0 rfl) ?_
  refine lv_iload_n hx hb dX1_init_31 rfl (lv_at hl 1 rfl) ?_
  refine va_putF (D := G) (ci := 5) (v := .int p0) (ty := .int) (C := RX1) (T := TX1) (N := 7) hx hb hg in_X1 tyX1 tyX1_ok nmX1 hown hK hP hD hS 0 rfl rfl 0 (by decide) (hg _ q809) (fun _ h9 => h9) rfl hin rfl (by decide +kernel) rfl rfl (Nat.le_of_ble_eq_true rfl) dX1_init_32 (fun H_11 locs hP hD hS => ?_)
  have hP : va_P G vwCl ([(h0, .inr (5, [.int p0, .int 0, .ref o_2, .ref o_6, .null, .int 0, .int 0])), (o_2, .inl (cy_1, 100, .inl (fun _ => 0))), (o_6, .inl (cy_5, 100, .inl (fun _ => 0)))]) H_11 := hP
  have hD : va_D A ([(h0, .inr (5, [.int p0, .int 0, .ref o_2, .ref o_6, .null, .int 0, .int 0])), (o_2, .inl (cy_1, 100, .inl (fun _ => 0))), (o_6, .inl (cy_5, 100, .inl (fun _ => 0)))]) := hD
  refine lv_aload_n hx hb dX1_init_35 rfl (lv_at hl 0 rfl) ?_
  refine lv_iload_n hx hb dX1_init_36 rfl (lv_at hl 2 rfl) ?_
  refine va_putF (D := G) (ci := 5) (v := .int 2) (ty := .int) (C := RX1) (T := TX1) (N := 7) hx hb hg in_X1 tyX1 tyX1_ok nmX1 hown hK hP hD hS 0 rfl rfl 1 (by decide) (hg _ q811) (fun _ h9 => h9) rfl hin rfl (by decide +kernel) rfl rfl (Nat.le_of_ble_eq_true rfl) dX1_init_37 (fun H_12 locs hP hD hS => ?_)
  have hP : va_P G vwCl ([(h0, .inr (5, [.int p0, .int 2, .ref o_2, .ref o_6, .null, .int 0, .int 0])), (o_2, .inl (cy_1, 100, .inl (fun _ => 0))), (o_6, .inl (cy_5, 100, .inl (fun _ => 0)))]) H_12 := hP
  have hD : va_D A ([(h0, .inr (5, [.int p0, .int 2, .ref o_2, .ref o_6, .null, .int 0, .int 0])), (o_2, .inl (cy_1, 100, .inl (fun _ => 0))), (o_6, .inl (cy_5, 100, .inl (fun _ => 0)))]) := hD
  refine lv_aload_n hx hb dX1_init_40 rfl (lv_at hl 0 rfl) ?_
  refine lv_bipush (v := 100) hx hb dX1_init_41 (by decide) ?_
  refine lv_iload_n hx hb dX1_init_43 rfl (lv_at hl 2 rfl) ?_
  refine lv_imul hx hb dX1_init_44 ?_
  refine lv_topi (fun f_13 ef_13 => ?_)
  obtain rfl : f_13 = 200 := ef_13.trans (by decide)
  refine va_newa (atype := .int) (ty := .int) (a0 := (200, .inl (fun _ => 0))) (N' := 200) hx hb (hg _ q94) rfl hK hP hD hS hA (fun _ => rfl) (by decide) (by decide +kernel) (Nat.le_of_ble_eq_true rfl) (Nat.le_of_ble_eq_true rfl) (Nat.le_of_ble_eq_true rfl) dX1_init_45 (fun o_15 cy_14 H_16 hK hP hD hS => ?_)
  have hP : va_P G vwCl ([(h0, .inr (5, [.int p0, .int 2, .ref o_2, .ref o_6, .null, .int 0, .int 0])), (o_2, .inl (cy_1, 100, .inl (fun _ => 0))), (o_6, .inl (cy_5, 100, .inl (fun _ => 0))), (o_15, .inl (cy_14, 200, .inl (fun _ => 0)))]) H_16 := hP
  have hD : va_D A ([(h0, .inr (5, [.int p0, .int 2, .ref o_2, .ref o_6, .null, .int 0, .int 0])), (o_2, .inl (cy_1, 100, .inl (fun _ => 0))), (o_6, .inl (cy_5, 100, .inl (fun _ => 0))), (o_15, .inl (cy_14, 200, .inl (fun _ => 0)))]) := hD
  have hK : va_K G vwCl [(cy_1, .int), (cy_5, .int), (cy_14, .int)] s := hK
  refine W.widen (k := 3) (n := 400) (Nat.le_of_ble_eq_true rfl) (Nat.le_of_ble_eq_true rfl) ?_
  refine va_putF (D := G) (ci := 5) (v := .ref o_15) (ty := .array (.int)) (C := RX1) (T := TX1) (N := 7) hx hb hg in_X1 tyX1 tyX1_ok nmX1 hown hK hP hD hS 0 rfl rfl 4 (by decide) (hg _ q817) (fun _ h9 => h9) rfl hin rfl (by decide +kernel) rfl rfl (Nat.le_of_ble_eq_true rfl) dX1_init_47 (fun H_17 locs hP hD hS => ?_)
  have hP : va_P G vwCl ([(h0, .inr (5, [.int p0, .int 2, .ref o_2, .ref o_6, .ref o_15, .int 0, .int 0])), (o_2, .inl (cy_1, 100, .inl (fun _ => 0))), (o_6, .inl (cy_5, 100, .inl (fun _ => 0))), (o_15, .inl (cy_14, 200, .inl (fun _ => 0)))]) H_17 := hP
  have hD : va_D A ([(h0, .inr (5, [.int p0, .int 2, .ref o_2, .ref o_6, .ref o_15, .int 0, .int 0])), (o_2, .inl (cy_1, 100, .inl (fun _ => 0))), (o_6, .inl (cy_5, 100, .inl (fun _ => 0))), (o_15, .inl (cy_14, 200, .inl (fun _ => 0)))]) := hD
  refine W.widen (k := 3) (n := 400) (Nat.le_of_ble_eq_true rfl) (Nat.le_of_ble_eq_true rfl) ?_
  have hP9 := hP.sub (ws' := [(h0, .inr (5, ([.int p0, .int 2, .ref o_2, .ref o_6, .ref o_15, .int 0, .int 0])))]) [0] rfl
  have hD9 := hD.sub (ws' := [(h0, .inr (5, ([.int p0, .int 2, .ref o_2, .ref o_6, .ref o_15, .int 0, .int 0])))]) [0] (by decide) rfl
  have hK9 := hK.sub (tys' := []) [] rfl
  exact W.vret hx hb hr (fun t ht hW => ⟨⟨(), rfl, trivial, ⟨[.int p0, .int 2, .ref o_2, .ref o_6, .ref o_15, .int 0, .int 0], QW.of hP9 hK9 hD9 ht hW.alike⟩⟩, hS.F ht⟩) hS.2.2 dX1_init_50

set_option maxHeartbeats 4000000 in
set_option maxRecDepth 100000 in
/-- Document(.., 4) -/
theorem k_X1_init_4 (l : Launch) (G : va_G) (z : Nat) (h0 : Nat) (p0 : Int32) (sz : Nat)  : Met l yX1_init wz_X1_init ({ frames := 1, cells := 3, slots := 600, locals := 20 }) (va_Pc [.ref h0, .int p0, .int 4] (PW G z [(h0, .inr (5, [.int 0, .int 0, .null, .null, .null, .int 0, .int 0]))] [] sz)) (va_Qv (fun (_ : Unit) => True) (fun (_ : Unit) (t : State) => ∃ (fsx : List Value), QW G [(h0, .inr (5, fsx))] [] (va_A [(h0, .inr (5, [.int 0, .int 0, .null, .null, .null, .int 0, .int 0]))] sz) t) (va_A [(h0, .inr (5, [.int 0, .int 0, .null, .null, .null, .int 0, .int 0]))] sz)) 3 600 (va_A [(h0, .inr (5, [.int 0, .int 0, .null, .null, .null, .int 0, .int 0]))] sz) := by
  refine Met.ofW (cc := cX1_init) (maxL := 3) (ret := none) (by decide) rfl ?_
  intro p e s m args below meth c s₁ B hml hv
  obtain ⟨rfl, rfl, hP, hK, hD0, hG⟩ := hv
  have hx := B.exec
  have hb := B.bytes
  have hr := B.returns
  have hts := atoms_spec (ws := wz_X1_init) B.pre
  have hg : ∀ w ∈ lw_good, w.before _ s = true := fun w h => hts w (List.mem_cons_of_mem _ h)
  have hown : s.vm.findClass RX1 = some m.cls := findClass_of_methodNamed B.named
  have hlocks := B.notSynchronized
  have hin : meth.name = "<init>" := (name_of_methodNamed B.named B.method).1
  have hD := hD0.self (sz := s.heap.size)
  generalize hAe : va_A [(h0, .inr (5, [.int 0, .int 0, .null, .null, .null, .int 0, .int 0]))] s.heap.size = A at hD hG ⊢
  have hA : ∀ q : Nat, s.heap.size ≤ q → A q := fun q h => by rw [← hAe]; exact Or.inr h
  have hS : va_S A s.heap s.heap [] := va_S.rf
  have hl := lv_entry ([.ref h0, .int p0, .int 4]) (n := 3) (Nat.le_of_ble_eq_true rfl)
  rw [lg_entry_eq]
  generalize (lg_sl ([.ref h0, .int p0, .int 4]) ++ List.replicate (3 - (lg_sl ([.ref h0, .int p0, .int 4])).length) Slot.unset).toArray = ls at hl ⊢
  have hl : lv_has ls 3 [(0, .ref h0), (1, .int p0), (2, .int 4)] := hl
  refine lv_aload_n hx hb dX1_init_0 rfl (lv_at hl 0 rfl) ?_
  refine W.objInit hx hb hown (hg _ q808) (hg _ q43) (hg _ q44) rfl (by rw [hml]; exact hl.1) rfl dX1_init_1 (Nat.le_of_ble_eq_true rfl) (Nat.le_of_ble_eq_true rfl) ?_
  refine W.eq (g2 := F0 m 4 ls []) rfl ?_
  refine lv_aload_n hx hb dX1_init_4 rfl (lv_at hl 0 rfl) ?_
  refine lv_bipush (v := 100) hx hb dX1_init_5 (by decide) ?_
  refine va_newa (atype := .int) (ty := .int) (a0 := (100, .inl (fun _ => 0))) (N' := 100) hx hb (hg _ q94) rfl hK hP hD hS hA (fun _ => rfl) (by decide) (by decide +kernel) (Nat.le_of_ble_eq_true rfl) (Nat.le_of_ble_eq_true rfl) (Nat.le_of_ble_eq_true rfl) dX1_init_7 (fun o_2 cy_1 H_3 hK hP hD hS => ?_)
  have hP : va_P G vwCl ([(h0, .inr (5, [.int 0, .int 0, .null, .null, .null, .int 0, .int 0])), (o_2, .inl (cy_1, 100, .inl (fun _ => 0)))]) H_3 := hP
  have hD : va_D A ([(h0, .inr (5, [.int 0, .int 0, .null, .null, .null, .int 0, .int 0])), (o_2, .inl (cy_1, 100, .inl (fun _ => 0)))]) := hD
  have hK : va_K G vwCl [(cy_1, .int)] s := hK
  refine W.widen (k := 1) (n := 100) (Nat.le_of_ble_eq_true rfl) (Nat.le_of_ble_eq_true rfl) ?_
  refine va_putF (D := G) (ci := 5) (v := .ref o_2) (ty := .array (.int)) (C := RX1) (T := TX1) (N := 7) hx hb hg in_X1 tyX1 tyX1_ok nmX1 hown hK hP hD hS 0 rfl rfl 2 (by decide) (hg _ q813) (fun _ h9 => h9) rfl hin rfl (by decide +kernel) rfl rfl (Nat.le_of_ble_eq_true rfl) dX1_init_9 (fun H_4 locs hP hD hS => ?_)
  have hP : va_P G vwCl ([(h0, .inr (5, [.int 0, .int 0, .ref o_2, .null, .null, .int 0, .int 0])), (o_2, .inl (cy_1, 100, .inl (fun _ => 0)))]) H_4 := hP
  have hD : va_D A ([(h0, .inr (5, [.int 0, .int 0, .ref o_2, .null, .null, .int 0, .int 0])), (o_2, .inl (cy_1, 100, .inl (fun _ => 0)))]) := hD
  refine lv_aload_n hx hb dX1_init_12 rfl (lv_at hl 0 rfl) ?_
  refine lv_bipush (v := 100) hx hb dX1_init_13 (by decide) ?_
  refine va_newa (atype := .int) (ty := .int) (a0 := (100, .inl (fun _ => 0))) (N' := 100) hx hb (hg _ q94) rfl hK hP hD hS hA (fun _ => rfl) (by decide) (by decide +kernel) (Nat.le_of_ble_eq_true rfl) (Nat.le_of_ble_eq_true rfl) (Nat.le_of_ble_eq_true rfl) dX1_init_15 (fun o_6 cy_5 H_7 hK hP hD hS => ?_)
  have hP : va_P G vwCl ([(h0, .inr (5, [.int 0, .int 0, .ref o_2, .null, .null, .int 0, .int 0])), (o_2, .inl (cy_1, 100, .inl (fun _ => 0))), (o_6, .inl (cy_5, 100, .inl (fun _ => 0)))]) H_7 := hP
  have hD : va_D A ([(h0, .inr (5, [.int 0, .int 0, .ref o_2, .null, .null, .int 0, .int 0])), (o_2, .inl (cy_1, 100, .inl (fun _ => 0))), (o_6, .inl (cy_5, 100, .inl (fun _ => 0)))]) := hD
  have hK : va_K G vwCl [(cy_1, .int), (cy_5, .int)] s := hK
  refine W.widen (k := 2) (n := 200) (Nat.le_of_ble_eq_true rfl) (Nat.le_of_ble_eq_true rfl) ?_
  refine va_putF (D := G) (ci := 5) (v := .ref o_6) (ty := .array (.int)) (C := RX1) (T := TX1) (N := 7) hx hb hg in_X1 tyX1 tyX1_ok nmX1 hown hK hP hD hS 0 rfl rfl 3 (by decide) (hg _ q815) (fun _ h9 => h9) rfl hin rfl (by decide +kernel) rfl rfl (Nat.le_of_ble_eq_true rfl) dX1_init_17 (fun H_8 locs hP hD hS => ?_)
  have hP : va_P G vwCl ([(h0, .inr (5, [.int 0, .int 0, .ref o_2, .ref o_6, .null, .int 0, .int 0])), (o_2, .inl (cy_1, 100, .inl (fun _ => 0))), (o_6, .inl (cy_5, 100, .inl (fun _ => 0)))]) H_8 := hP
  have hD : va_D A ([(h0, .inr (5, [.int 0, .int 0, .ref o_2, .ref o_6, .null, .int 0, .int 0])), (o_2, .inl (cy_1, 100, .inl (fun _ => 0))), (o_6, .inl (cy_5, 100, .inl (fun _ => 0)))]) := hD
  refine lv_aload_n hx hb dX1_init_20 rfl (lv_at hl 0 rfl) ?_
  refine lv_iconst (v := 0) hx hb dX1_init_21 (by decide) ?_
  refine va_put (D := G) (ci := 5) (v := .int 0) (ty := .int) (C := RX1) (T := TX1) (N := 7) hx hb hg in_X1 tyX1 tyX1_ok nmX1 hown hK hP hD hS 0 rfl rfl 5 (by decide) (hg _ q818) (fun _ h9 => h9) rfl (by decide +kernel) rfl rfl (Nat.le_of_ble_eq_true rfl) dX1_init_22 (fun H_9 locs hP hD hS => ?_)
  have hP : va_P G vwCl ([(h0, .inr (5, [.int 0, .int 0, .ref o_2, .ref o_6, .null, .int 0, .int 0])), (o_2, .inl (cy_1, 100, .inl (fun _ => 0))), (o_6, .inl (cy_5, 100, .inl (fun _ => 0)))]) H_9 := hP
  have hD : va_D A ([(h0, .inr (5, [.int 0, .int 0, .ref o_2, .ref o_6, .null, .int 0, .int 0])), (o_2, .inl (cy_1, 100, .inl (fun _ => 0))), (o_6, .inl (cy_5, 100, .inl (fun _ => 0)))]) := hD
  refine lv_aload_n hx hb dX1_init_25 rfl (lv_at hl 0 rfl) ?_
  refine lv_iconst (v := 0) hx hb dX1_init_26 (by decide) ?_
  refine va_put (D := G) (ci := 5) (v := .int 0) (ty := .boolean) (C := RX1) (T := TX1) (N := 7) hx hb hg in_X1 tyX1 tyX1_ok nmX1 hown hK hP hD hS 0 rfl rfl 6 (by decide) (hg _ q820) (fun _ h9 => h9) rfl (by decide +kernel) rfl rfl (Nat.le_of_ble_eq_true rfl) dX1_init_27 (fun H_10 locs hP hD hS => ?_)
  have hP : va_P G vwCl ([(h0, .inr (5, [.int 0, .int 0, .ref o_2, .ref o_6, .null, .int 0, .int 0])), (o_2, .inl (cy_1, 100, .inl (fun _ => 0))), (o_6, .inl (cy_5, 100, .inl (fun _ => 0)))]) H_10 := hP
  have hD : va_D A ([(h0, .inr (5, [.int 0, .int 0, .ref o_2, .ref o_6, .null, .int 0, .int 0])), (o_2, .inl (cy_1, 100, .inl (fun _ => 0))), (o_6, .inl (cy_5, 100, .inl (fun _ => 0)))]) := hD
  refine lv_aload_n hx hb dX1_init_30 rfl (lv_at hl 0 rfl) ?_
  refine lv_iload_n hx hb dX1_init_31 rfl (lv_at hl 1 rfl) ?_
  refine va_putF (D := G) (ci := 5) (v := .int p0) (ty := .int) (C := RX1) (T := TX1) (N := 7) hx hb hg in_X1 tyX1 tyX1_ok nmX1 hown hK hP hD hS 0 rfl rfl 0 (by decide) (hg _ q809) (fun _ h9 => h9) rfl hin rfl (by decide +kernel) rfl rfl (Nat.le_of_ble_eq_true rfl) dX1_init_32 (fun H_11 locs hP hD hS => ?_)
  have hP : va_P G vwCl ([(h0, .inr (5, [.int p0, .int 0, .ref o_2, .ref o_6, .null, .int 0, .int 0])), (o_2, .inl (cy_1, 100, .inl (fun _ => 0))), (o_6, .inl (cy_5, 100, .inl (fun _ => 0)))]) H_11 := hP
  have hD : va_D A ([(h0, .inr (5, [.int p0, .int 0, .ref o_2, .ref o_6, .null, .int 0, .int 0])), (o_2, .inl (cy_1, 100, .inl (fun _ => 0))), (o_6, .inl (cy_5, 100, .inl (fun _ => 0)))]) := hD
  refine lv_aload_n hx hb dX1_init_35 rfl (lv_at hl 0 rfl) ?_
  refine lv_iload_n hx hb dX1_init_36 rfl (lv_at hl 2 rfl) ?_
  refine va_putF (D := G) (ci := 5) (v := .int 4) (ty := .int) (C := RX1) (T := TX1) (N := 7) hx hb hg in_X1 tyX1 tyX1_ok nmX1 hown hK hP hD hS 0 rfl rfl 1 (by decide) (hg _ q811) (fun _ h9 => h9) rfl hin rfl (by decide +kernel) rfl rfl (Nat.le_of_ble_eq_true rfl) dX1_init_37 (fun H_12 locs hP hD hS => ?_)
  have hP : va_P G vwCl ([(h0, .inr (5, [.int p0, .int 4, .ref o_2, .ref o_6, .null, .int 0, .int 0])), (o_2, .inl (cy_1, 100, .inl (fun _ => 0))), (o_6, .inl (cy_5, 100, .inl (fun _ => 0)))]) H_12 := hP
  have hD : va_D A ([(h0, .inr (5, [.int p0, .int 4, .ref o_2, .ref o_6, .null, .int 0, .int 0])), (o_2, .inl (cy_1, 100, .inl (fun _ => 0))), (o_6, .inl (cy_5, 100, .inl (fun _ => 0)))]) := hD
  refine lv_aload_n hx hb dX1_init_40 rfl (lv_at hl 0 rfl) ?_
  refine lv_bipush (v := 100) hx hb dX1_init_41 (by decide) ?_
  refine lv_iload_n hx hb dX1_init_43 rfl (lv_at hl 2 rfl) ?_
  refine lv_imul hx hb dX1_init_44 ?_
  refine lv_topi (fun f_13 ef_13 => ?_)
  obtain rfl : f_13 = 400 := ef_13.trans (by decide)
  refine va_newa (atype := .int) (ty := .int) (a0 := (400, .inl (fun _ => 0))) (N' := 400) hx hb (hg _ q94) rfl hK hP hD hS hA (fun _ => rfl) (by decide) (by decide +kernel) (Nat.le_of_ble_eq_true rfl) (Nat.le_of_ble_eq_true rfl) (Nat.le_of_ble_eq_true rfl) dX1_init_45 (fun o_15 cy_14 H_16 hK hP hD hS => ?_)
  have hP : va_P G vwCl ([(h0, .inr (5, [.int p0, .int 4, .ref o_2, .ref o_6, .null, .int 0, .int 0])), (o_2, .inl (cy_1, 100, .inl (fun _ => 0))), (o_6, .inl (cy_5, 100, .inl (fun _ => 0))), (o_15, .inl (cy_14, 400, .inl (fun _ => 0)))]) H_16 := hP
  have hD : va_D A ([(h0, .inr (5, [.int p0, .int 4, .ref o_2, .ref o_6, .null, .int 0, .int 0])), (o_2, .inl (cy_1, 100, .inl (fun _ => 0))), (o_6, .inl (cy_5, 100, .inl (fun _ => 0))), (o_15, .inl (cy_14, 400, .inl (fun _ => 0)))]) := hD
  have hK : va_K G vwCl [(cy_1, .int), (cy_5, .int), (cy_14, .int)] s := hK
  refine W.widen (k := 3) (n := 600) (Nat.le_of_ble_eq_true rfl) (Nat.le_of_ble_eq_true rfl) ?_
  refine va_putF (D := G) (ci := 5) (v := .ref o_15) (ty := .array (.int)) (C := RX1) (T := TX1) (N := 7) hx hb hg in_X1 tyX1 tyX1_ok nmX1 hown hK hP hD hS 0 rfl rfl 4 (by decide) (hg _ q817) (fun _ h9 => h9) rfl hin rfl (by decide +kernel) rfl rfl (Nat.le_of_ble_eq_true rfl) dX1_init_47 (fun H_17 locs hP hD hS => ?_)
  have hP : va_P G vwCl ([(h0, .inr (5, [.int p0, .int 4, .ref o_2, .ref o_6, .ref o_15, .int 0, .int 0])), (o_2, .inl (cy_1, 100, .inl (fun _ => 0))), (o_6, .inl (cy_5, 100, .inl (fun _ => 0))), (o_15, .inl (cy_14, 400, .inl (fun _ => 0)))]) H_17 := hP
  have hD : va_D A ([(h0, .inr (5, [.int p0, .int 4, .ref o_2, .ref o_6, .ref o_15, .int 0, .int 0])), (o_2, .inl (cy_1, 100, .inl (fun _ => 0))), (o_6, .inl (cy_5, 100, .inl (fun _ => 0))), (o_15, .inl (cy_14, 400, .inl (fun _ => 0)))]) := hD
  refine W.widen (k := 3) (n := 600) (Nat.le_of_ble_eq_true rfl) (Nat.le_of_ble_eq_true rfl) ?_
  have hP9 := hP.sub (ws' := [(h0, .inr (5, ([.int p0, .int 4, .ref o_2, .ref o_6, .ref o_15, .int 0, .int 0])))]) [0] rfl
  have hD9 := hD.sub (ws' := [(h0, .inr (5, ([.int p0, .int 4, .ref o_2, .ref o_6, .ref o_15, .int 0, .int 0])))]) [0] (by decide) rfl
  have hK9 := hK.sub (tys' := []) [] rfl
  exact W.vret hx hb hr (fun t ht hW => ⟨⟨(), rfl, trivial, ⟨[.int p0, .int 4, .ref o_2, .ref o_6, .ref o_15, .int 0, .int 0], QW.of hP9 hK9 hD9 ht hW.alike⟩⟩, hS.F ht⟩) hS.2.2 dX1_init_50

set_option maxHeartbeats 4000000 in
set_option maxRecDepth 100000 in
/-- Document(.., 8) -/
theorem k_X1_init_8 (l : Launch) (G : va_G) (z : Nat) (h0 : Nat) (p0 : Int32) (sz : Nat)  : Met l yX1_init wz_X1_init ({ frames := 1, cells := 3, slots := 1000, locals := 20 }) (va_Pc [.ref h0, .int p0, .int 8] (PW G z [(h0, .inr (5, [.int 0, .int 0, .null, .null, .null, .int 0, .int 0]))] [] sz)) (va_Qv (fun (_ : Unit) => True) (fun (_ : Unit) (t : State) => ∃ (fsx : List Value), QW G [(h0, .inr (5, fsx))] [] (va_A [(h0, .inr (5, [.int 0, .int 0, .null, .null, .null, .int 0, .int 0]))] sz) t) (va_A [(h0, .inr (5, [.int 0, .int 0, .null, .null, .null, .int 0, .int 0]))] sz)) 3 1000 (va_A [(h0, .inr (5, [.int 0, .int 0, .null, .null, .null, .int 0, .int 0]))] sz) := by
  refine Met.ofW (cc := cX1_init) (maxL := 3) (ret := none) (by decide) rfl ?_
  intro p e s m args below meth c s₁ B hml hv
  obtain ⟨rfl, rfl, hP, hK, hD0, hG⟩ := hv
  have hx := B.exec
  have hb := B.bytes
  have hr := B.returns
  have hts := atoms_spec (ws := wz_X1_init) B.pre
  have hg : ∀ w ∈ lw_good, w.before _ s = true := fun w h => hts w (List.mem_cons_of_mem _ h)
  have hown : s.vm.findClass RX1 = some m.cls := findClass_of_methodNamed B.named
  have hlocks := B.notSynchronized
  have hin : meth.name = "<init>" := (name_of_methodNamed B.named B.method).1
  have hD := hD0.self (sz := s.heap.size)
  generalize hAe : va_A [(h0, .inr (5, [.int 0, .int 0, .null, .null, .null, .int 0, .int 0]))] s.heap.size = A at hD hG ⊢
  have hA : ∀ q : Nat, s.heap.size ≤ q → A q := fun q h => by rw [← hAe]; exact Or.inr h
  have hS : va_S A s.heap s.heap [] := va_S.rf
  have hl := lv_entry ([.ref h0, .int p0, .int 8]) (n := 3) (Nat.le_of_ble_eq_true rfl)
  rw [lg_entry_eq]
  generalize (lg_sl ([.ref h0, .int p0, .int 8]) ++ List.replicate (3 - (lg_sl ([.ref h0, .int p0, .int 8])).length) Slot.unset).toArray = ls at hl ⊢
  have hl : lv_has ls 3 [(0, .ref h0), (1, .int p0), (2, .int 8)] := hl
  refine lv_aload_n hx hb dX1_init_0 rfl (lv_at hl 0 rfl) ?_
  refine W.objInit hx hb hown (hg _ q808) (hg _ q43) (hg _ q44) rfl (by rw [hml]; exact hl.1) rfl dX1_init_1 (Nat.le_of_ble_eq_true rfl) (Nat.le_of_ble_eq_true rfl) ?_
  refine W.eq (g2 := F0 m 4 ls []) rfl ?_
  refine lv_aload_n hx hb dX1_init_4 rfl (lv_at hl 0 rfl) ?_
  refine lv_bipush (v := 100) hx hb dX1_init_5 (by decide) ?_
  refine va_newa (atype := .int) (ty := .int) (a0 := (100, .inl (fun _ => 0))) (N' := 100) hx hb (hg _ q94) rfl hK hP hD hS hA (fun _ => rfl) (by decide) (by decide +kernel) (Nat.le_of_ble_eq_true rfl) (Nat.le_of_ble_eq_true rfl) (Nat.le_of_ble_eq_true rfl) dX1_init_7 (fun o_2 cy_1 H_3 hK hP hD hS => ?_)
  have hP : va_P G vwCl ([(h0, .inr (5, [.int 0, .int 0, .null, .null, .null, .int 0, .int 0])), (o_2, .inl (cy_1, 100, .inl (fun _ => 0)))]) H_3 := hP
  have hD : va_D A ([(h0, .inr (5, [.int 0, .int 0, .null, .null, .null, .int 0, .int 0])), (o_2, .inl (cy_1, 100, .inl (fun _ => 0)))]) := hD
  have hK : va_K G vwCl [(cy_1, .int)] s := hK
  refine W.widen (k := 1) (n := 100) (Nat.le_of_ble_eq_true rfl) (Nat.le_of_ble_eq_true rfl) ?_
  refine va_putF (D := G) (ci := 5) (v := .ref o_2) (ty := .array (.int)) (C := RX1) (T := TX1) (N := 7) hx hb hg in_X1 tyX1 tyX1_ok nmX1 hown hK hP hD hS 0 rfl rfl 2 (by decide) (hg _ q813) (fun _ h9 => h9) rfl hin rfl (by decide +kernel) rfl rfl (Nat.le_of_ble_eq_true rfl) dX1_init_9 (fun H_4 locs hP hD hS => ?_)
  have hP : va_P G vwCl ([(h0, .inr (5, [.int 0, .int 0, .ref o_2, .null, .null, .int 0, .int 0])), (o_2, .inl (cy_1, 100, .inl (fun _ => 0)))]) H_4 := hP
  have hD : va_D A ([(h0, .inr (5, [.int 0, .int 0, .ref o_2, .null, .null, .int 0, .int 0])), (o_2, .inl (cy_1, 100, .inl (fun _ => 0)))]) := hD
  refine lv_aload_n hx hb dX1_init_12 rfl (lv_at hl 0 rfl) ?_
  refine lv_bipush (v := 100) hx hb dX1_init_13 (by decide) ?_
  refine va_newa (atype := .int) (ty := .int) (a0 := (100, .inl (fun _ => 0))) (N' := 100) hx hb (hg _ q94) rfl hK hP hD hS hA (fun _ => rfl) (by decide) (by decide +kernel) (Nat.le_of_ble_eq_true rfl) (Nat.le_of_ble_eq_true rfl) (Nat.le_of_ble_eq_true rfl) dX1_init_15 (fun o_6 cy_5 H_7 hK hP hD hS => ?_)
  have hP : va_P G vwCl ([(h0, .inr (5, [.int 0, .int 0, .ref o_2, .null, .null, .int 0, .int 0])), (o_2, .inl (cy_1, 100, .inl (fun _ => 0))), (o_6, .inl (cy_5, 100, .inl (fun _ => 0)))]) H_7 := hP
  have hD : va_D A ([(h0, .inr (5, [.int 0, .int 0, .ref o_2, .null, .null, .int 0, .int 0])), (o_2, .inl (cy_1, 100, .inl (fun _ => 0))), (o_6, .inl (cy_5, 100, .inl (fun _ => 0)))]) := hD
  have hK : va_K G vwCl [(cy_1, .int), (cy_5, .int)] s := hK
  refine W.widen (k := 2) (n := 200) (Nat.le_of_ble_eq_true rfl) (Nat.le_of_ble_eq_true rfl) ?_
  refine va_putF (D := G) (ci := 5) (v := .ref o_6) (ty := .array (.int)) (C := RX1) (T := TX1) (N := 7) hx hb hg in_X1 tyX1 tyX1_ok nmX1 hown hK hP hD hS 0 rfl rfl 3 (by decide) (hg _ q815) (fun _ h9 => h9) rfl hin rfl (by decide +kernel) rfl rfl (Nat.le_of_ble_eq_true rfl) dX1_init_17 (fun H_8 locs hP hD hS => ?_)
  have hP : va_P G vwCl ([(h0, .inr (5, [.int 0, .int 0, .ref o_2, .ref o_6, .null, .int 0, .int 0])), (o_2, .inl (cy_1, 100, .inl (fun _ => 0))), (o_6, .inl (cy_5, 100, .inl (fun _ => 0)))]) H_8 := hP
  have hD : va_D A ([(h0, .inr (5, [.int 0, .int 0, .ref o_2, .ref o_6, .null, .int 0, .int 0])), (o_2, .inl (cy_1, 100, .inl (fun _ => 0))), (o_6, .inl (cy_5, 100, .inl (fun _ => 0)))]) := hD
  refine lv_aload_n hx hb dX1_init_20 rfl (lv_at hl 0 rfl) ?_
  refine lv_iconst (v := 0) hx hb dX1_init_21 (by decide) ?_
  refine va_put (D := G) (ci := 5) (v := .int 0) (ty := .int) (C := RX1) (T := TX1) (N := 7) hx hb hg in_X1 tyX1 tyX1_ok nmX1 hown hK hP hD hS 0 rfl rfl 5 (by decide) (hg _ q818) (fun _ h9 => h9) rfl (by decide +kernel) rfl rfl (Nat.le_of_ble_eq_true rfl) dX1_init_22 (fun H_9 locs hP hD hS => ?_)
  have hP : va_P G vwCl ([(h0, .inr (5, [.int 0, .int 0, .ref o_2, .ref o_6, .null, .int 0, .int 0])), (o_2, .inl (cy_1, 100, .inl (fun _ => 0))), (o_6, .inl (cy_5, 100, .inl (fun _ => 0)))]) H_9 := hP
  have hD : va_D A ([(h0, .inr (5, [.int 0, .int 0, .ref o_2, .ref o_6, .null, .int 0, .int 0])), (o_2, .inl (cy_1, 100, .inl (fun _ => 0))), (o_6, .inl (cy_5, 100, .inl (fun _ => 0)))]) := hD
  refine lv_aload_n hx hb dX1_init_25 rfl (lv_at hl 0 rfl) ?_
  refine lv_iconst (v := 0) hx hb dX1_init_26 (by decide) ?_
  refine va_put (D := G) (ci := 5) (v := .int 0) (ty := .boolean) (C := RX1) (T := TX1) (N := 7) hx hb hg in_X1 tyX1 tyX1_ok nmX1 hown hK hP hD hS 0 rfl rfl 6 (by decide) (hg _ q820) (fun _ h9 => h9) rfl (by decide +kernel) rfl rfl (Nat.le_of_ble_eq_true rfl) dX1_init_27 (fun H_10 locs hP hD hS => ?_)
  have hP : va_P G vwCl ([(h0, .inr (5, [.int 0, .int 0, .ref o_2, .ref o_6, .null, .int 0, .int 0])), (o_2, .inl (cy_1, 100, .inl (fun _ => 0))), (o_6, .inl (cy_5, 100, .inl (fun _ => 0)))]) H_10 := hP
  have hD : va_D A ([(h0, .inr (5, [.int 0, .int 0, .ref o_2, .ref o_6, .null, .int 0, .int 0])), (o_2, .inl (cy_1, 100, .inl (fun _ => 0))), (o_6, .inl (cy_5, 100, .inl (fun _ => 0)))]) := hD
  refine lv_aload_n hx hb dX1_init_30 rfl (lv_at hl 0 rfl) ?_
  refine lv_iload_n hx hb dX1_init_31 rfl (lv_at hl 1 rfl) ?_
  refine va_putF (D := G) (ci := 5) (v := .int p0) (ty := .int) (C := RX1) (T := TX1) (N := 7) hx hb hg in_X1 tyX1 tyX1_ok nmX1 hown hK hP hD hS 0 rfl rfl 0 (by decide) (hg _ q809) (fun _ h9 => h9) rfl hin rfl (by decide +kernel) rfl rfl (Nat.le_of_ble_eq_true rfl) dX1_init_32 (fun H_11 locs hP hD hS => ?_)
  have hP : va_P G vwCl ([(h0, .inr (5, [.int p0, .int 0, .ref o_2, .ref o_6, .null, .int 0, .int 0])), (o_2, .inl (cy_1, 100, .inl (fun _ => 0))), (o_6, .inl (cy_5, 100, .inl (fun _ => 0)))]) H_11 := hP
  have hD : va_D A ([(h0, .inr (5, [.int p0, .int 0, .ref o_2, .ref o_6, .null, .int 0, .int 0])), (o_2, .inl (cy_1, 100, .inl (fun _ => 0))), (o_6, .inl (cy_5, 100, .inl (fun _ => 0)))]) := hD
  refine lv_aload_n hx hb dX1_init_35 rfl (lv_at hl 0 rfl) ?_
  refine lv_iload_n hx hb dX1_init_36 rfl (lv_at hl 2 rfl) ?_
  refine va_putF (D := G) (ci := 5) (v := .int 8) (ty := .int) (C := RX1) (T := TX1) (N := 7) hx hb hg in_X1 tyX1 tyX1_ok nmX1 hown hK hP hD hS 0 rfl rfl 1 (by decide) (hg _ q811) (fun _ h9 => h9) rfl hin rfl (by decide +kernel) rfl rfl (Nat.le_of_ble_eq_true rfl) dX1_init_37 (fun H_12 locs hP hD hS => ?_)
  have hP : va_P G vwCl ([(h0, .inr (5, [.int p0, .int 8, .ref o_2, .ref o_6, .null, .int 0, .int 0])), (o_2, .inl (cy_1, 100, .inl (fun _ => 0))), (o_6, .inl (cy_5, 100, .inl (fun _ => 0)))]) H_12 := hP
  have hD : va_D A ([(h0, .inr (5, [.int p0, .int 8, .ref o_2, .ref o_6, .null, .int 0, .int 0])), (o_2, .inl (cy_1, 100, .inl (fun _ => 0))), (o_6, .inl (cy_5, 100, .inl (fun _ => 0)))]) := hD
  refine lv_aload_n hx hb dX1_init_40 rfl (lv_at hl 0 rfl) ?_
  refine lv_bipush (v := 100) hx hb dX1_init_41 (by decide) ?_
  refine lv_iload_n hx hb dX1_init_43 rfl (lv_at hl 2 rfl) ?_
  refine lv_imul hx hb dX1_init_44 ?_
  refine lv_topi (fun f_13 ef_13 => ?_)
  obtain rfl : f_13 = 800 := ef_13.trans (by decide)
  refine va_newa (atype := .int) (ty := .int) (a0 := (800, .inl (fun _ => 0))) (N' := 800) hx hb (hg _ q94) rfl hK hP hD hS hA (fun _ => rfl) (by decide) (by decide +kernel) (Nat.le_of_ble_eq_true rfl) (Nat.le_of_ble_eq_true rfl) (Nat.le_of_ble_eq_true rfl) dX1_init_45 (fun o_15 cy_14 H_16 hK hP hD hS => ?_)
  have hP : va_P G vwCl ([(h0, .inr (5, [.int p0, .int 8, .ref o_2, .ref o_6, .null, .int 0, .int 0])), (o_2, .inl (cy_1, 100, .inl (fun _ => 0))), (o_6, .inl (cy_5, 100, .inl (fun _ => 0))), (o_15, .inl (cy_14, 800, .inl (fun _ => 0)))]) H_16 := hP
  have hD : va_D A ([(h0, .inr (5, [.int p0, .int 8, .ref o_2, .ref o_6, .null, .int 0, .int 0])), (o_2, .inl (cy_1, 100, .inl (fun _ => 0))), (o_6, .inl (cy_5, 100, .inl (fun _ => 0))), (o_15, .inl (cy_14, 800, .inl (fun _ => 0)))]) := hD
  have hK : va_K G vwCl [(cy_1, .int), (cy_5, .int), (cy_14, .int)] s := hK
  refine W.widen (k := 3) (n := 1000) (Nat.le_of_ble_eq_true rfl) (Nat.le_of_ble_eq_true rfl) ?_
  refine va_putF (D := G) (ci := 5) (v := .ref o_15) (ty := .array (.int)) (C := RX1) (T := TX1) (N := 7) hx hb hg in_X1 tyX1 tyX1_ok nmX1 hown hK hP hD hS 0 rfl rfl 4 (by decide) (hg _ q817) (fun _ h9 => h9) rfl hin rfl (by decide +kernel) rfl rfl (Nat.le_of_ble_eq_true rfl) dX1_init_47 (fun H_17 locs hP hD hS => ?_)
  have hP : va_P G vwCl ([(h0, .inr (5, [.int p0, .int 8, .ref o_2, .ref o_6, .ref o_15, .int 0, .int 0])), (o_2, .inl (cy_1, 100, .inl (fun _ => 0))), (o_6, .inl (cy_5, 100, .inl (fun _ => 0))), (o_15, .inl (cy_14, 800, .inl (fun _ => 0)))]) H_17 := hP
  have hD : va_D A ([(h0, .inr (5, [.int p0, .int 8, .ref o_2, .ref o_6, .ref o_15, .int 0, .int 0])), (o_2, .inl (cy_1, 100, .inl (fun _ => 0))), (o_6, .inl (cy_5, 100, .inl (fun _ => 0))), (o_15, .inl (cy_14, 800, .inl (fun _ => 0)))]) := hD
  refine W.widen (k := 3) (n := 1000) (Nat.le_of_ble_eq_true rfl) (Nat.le_of_ble_eq_true rfl) ?_
  have hP9 := hP.sub (ws' := [(h0, .inr (5, ([.int p0, .int 8, .ref o_2, .ref o_6, .ref o_15, .int 0, .int 0])))]) [0] rfl
  have hD9 := hD.sub (ws' := [(h0, .inr (5, ([.int p0, .int 8, .ref o_2, .ref o_6, .ref o_15, .int 0, .int 0])))]) [0] (by decide) rfl
  have hK9 := hK.sub (tys' := []) [] rfl
  exact W.vret hx hb hr (fun t ht hW => ⟨⟨(), rfl, trivial, ⟨[.int p0, .int 8, .ref o_2, .ref o_6, .ref o_15, .int 0, .int 0], QW.of hP9 hK9 hD9 ht hW.alike⟩⟩, hS.F ht⟩) hS.2.2 dX1_init_50

abbrev wz_X0_shortenSteps : List Cond := .code yX0_shortenSteps cX0_shortenSteps 4 none :: lw_good
set_option maxHeartbeats 4000000 in
set_option maxRecDepth 100000 in
/-- shortenSteps(0, 0) of one document -/
theorem k_X0_shortenSteps (l : Launch) (G : va_G) (z : Nat) (h0 : Nat) (d1 : Nat) (d2 : Nat) (d3 : Nat) (d4 : Nat) (ag : Int32) (cyO : ClassId) (fS : Nat → Option Nat) (cyI : ClassId) (fR : Nat → Int32) (r0 : Nat) (sz : Nat) (hfS : fS 0 = some r0) (hfR : fR 0 = 0) : Met l yX0_shortenSteps wz_X0_shortenSteps ({ frames := 1, cells := 0, slots := 0, locals := 15 }) (va_Pc [.ref h0, .int 0, .int 0] (PW G z [(h0, .inr (4, [.ref d1, .ref d2, .ref d3, .ref d4, .int 1, .int ag])), (d4, .inl (cyO, 20, .inr (.inr (.inr (.inr (fS)))))), (r0, .inl (cyI, 20, .inl (fR)))] [(cyO, .array .int), (cyI, .int)] sz)) (va_Qv (fun (_ : Unit) => True) (fun (_ : Unit) (t : State) => ∃ (gR : Nat → Int32), QW G [(h0, .inr (4, [.ref d1, .ref d2, .ref d3, .ref d4, .int 1, .int ag])), (d4, .inl (cyO, 20, .inr (.inr (.inr (.inr (fS)))))), (r0, .inl (cyI, 20, .inl (gR)))] [(cyO, .array .int), (cyI, .int)] (va_A [(h0, .inr (4, [.ref d1, .ref d2, .ref d3, .ref d4, .int 1, .int ag])), (d4, .inl (cyO, 20, .inr (.inr (.inr (.inr (fS)))))), (r0, .inl (cyI, 20, .inl (fR)))] sz) t) (va_A [(h0, .inr (4, [.ref d1, .ref d2, .ref d3, .ref d4, .int 1, .int ag])), (d4, .inl (cyO, 20, .inr (.inr (.inr (.inr (fS)))))), (r0, .inl (cyI, 20, .inl (fR)))] sz)) 0 0 (va_A [(h0, .inr (4, [.ref d1, .ref d2, .ref d3, .ref d4, .int 1, .int ag])), (d4, .inl (cyO, 20, .inr (.inr (.inr (.inr (fS)))))), (r0, .inl (cyI, 20, .inl (fR)))] sz) := by
  refine Met.ofW (cc := cX0_shortenSteps) (maxL := 4) (ret := none) (by decide) rfl ?_
  intro p e s m args below meth c s₁ B hml hv
  obtain ⟨rfl, rfl, hP, hK, hD0, hG⟩ := hv
  have hx := B.exec
  have hb := B.bytes
  have hr := B.returns
  have hts := atoms_spec (ws := wz_X0_shortenSteps) B.pre
  have hg : ∀ w ∈ lw_good, w.before _ s = true := fun w h => hts w (List.mem_cons_of_mem _ h)
  have hown : s.vm.findClass RX0 = some m.cls := findClass_of_methodNamed B.named
  have hlocks := B.notSynchronized
  have hD := hD0.self (sz := s.heap.size)
  generalize hAe : va_A [(h0, .inr (4, [.ref d1, .ref d2, .ref d3, .ref d4, .int 1, .int ag])), (d4, .inl (cyO, 20, .inr (.inr (.inr (.inr (fS)))))), (r0, .inl (cyI, 20, .inl (fR)))] s.heap.size = A at hD hG ⊢
  have hA : ∀ q : Nat, s.heap.size ≤ q → A q := fun q h => by rw [← hAe]; exact Or.inr h
  have hS : va_S A s.heap s.heap [] := va_S.rf
  have hl := lv_entry ([.ref h0, .int 0, .int 0]) (n := 4) (Nat.le_of_ble_eq_true rfl)
  rw [lg_entry_eq]
  generalize (lg_sl ([.ref h0, .int 0, .int 0]) ++ List.replicate (4 - (lg_sl ([.ref h0, .int 0, .int 0])).length) Slot.unset).toArray = ls at hl ⊢
  have hl : lv_has ls 4 [(0, .ref h0), (1, .int 0), (2, .int 0)] := hl
  refine lv_iconst (v := 0) hx hb dX0_shortenSteps_0 (by decide) ?_
  refine lv_istore_n (lv' := [(3, .int 0), (0, .ref h0), (1, .int 0), (2, .int 0)]) hx hb dX0_shortenSteps_1 rfl hl (by decide) rfl (fun ls hl => ?_)
  refine lv_iload_n hx hb dX0_shortenSteps_2 rfl (lv_at hl 0 rfl) ?_
  refine lv_aload_n hx hb dX0_shortenSteps_3 rfl (lv_at hl 1 rfl) ?_
  refine va_get (D := G) (ci := 4) (v := .int 1) (C := RX0) (T := TX0) (N := 6) hx hb hg in_X0 hown hK hP 0 rfl rfl 4 (by decide) (hg _ q109) (fun _ h9 => h9) rfl dX0_shortenSteps_4 ?_
  refine lv_icmp_ge (tgt := 52) hx hb dX0_shortenSteps_7 (by decide) (fun c_1 => absurd c_1 (by decide)) (fun c_1 => ?_)
  refine lv_aload_n hx hb dX0_shortenSteps_10 rfl (lv_at hl 1 rfl) ?_
  refine va_get (D := G) (ci := 4) (v := .ref d4) (C := RX0) (T := TX0) (N := 6) hx hb hg in_X0 hown hK hP 0 rfl rfl 3 (by decide) (hg _ q108) (fun _ h9 => h9) rfl dX0_shortenSteps_11 ?_
  refine lv_iload_n hx hb dX0_shortenSteps_14 rfl (lv_at hl 2 rfl) ?_
  refine z_aldA hx hb hK hP 1 0 rfl rfl (by unfold vp_in; decide +kernel) (r := r0) hfS dX0_shortenSteps_15 ?_
  refine lv_iload_n hx hb dX0_shortenSteps_16 rfl (lv_at hl 0 rfl) ?_
  refine lv_aload_n hx hb dX0_shortenSteps_17 rfl (lv_at hl 1 rfl) ?_
  refine va_get (D := G) (ci := 4) (v := .ref d4) (C := RX0) (T := TX0) (N := 6) hx hb hg in_X0 hown hK hP 0 rfl rfl 3 (by decide) (hg _ q108) (fun _ h9 => h9) rfl dX0_shortenSteps_18 ?_
  refine lv_iload_n hx hb dX0_shortenSteps_21 rfl (lv_at hl 2 rfl) ?_
  refine z_aldA hx hb hK hP 1 0 rfl rfl (by unfold vp_in; decide +kernel) (r := r0) hfS dX0_shortenSteps_22 ?_
  refine lv_iload_n hx hb dX0_shortenSteps_23 rfl (lv_at hl 0 rfl) ?_
  refine va_iald hx hb hK hP 2 1 rfl rfl (by unfold vp_in; decide +kernel) dX0_shortenSteps_24 ?_
  refine lv_topi (fun f_2 ef_2 => ?_)
  obtain rfl : f_2 = 0 := ef_2.trans hfR
  refine lv_aload_n hx hb dX0_shortenSteps_25 rfl (lv_at hl 1 rfl) ?_
  refine va_get (D := G) (ci := 4) (v := .ref d4) (C := RX0) (T := TX0) (N := 6) hx hb hg in_X0 hown hK hP 0 rfl rfl 3 (by decide) (hg _ q108) (fun _ h9 => h9) rfl dX0_shortenSteps_26 ?_
  refine lv_iload_n hx hb dX0_shortenSteps_29 rfl (lv_at hl 2 rfl) ?_
  refine z_aldA hx hb hK hP 1 0 rfl rfl (by unfold vp_in; decide +kernel) (r := r0) hfS dX0_shortenSteps_30 ?_
  refine lv_iload_n hx hb dX0_shortenSteps_31 rfl (lv_at hl 3 rfl) ?_
  refine va_iald hx hb hK hP 2 1 rfl rfl (by unfold vp_in; decide +kernel) dX0_shortenSteps_32 ?_
  refine lv_topi (fun f_3 ef_3 => ?_)
  obtain rfl : f_3 = 0 := ef_3.trans hfR
  refine lv_aload_n hx hb dX0_shortenSteps_33 rfl (lv_at hl 1 rfl) ?_
  refine va_get (D := G) (ci := 4) (v := .ref d4) (C := RX0) (T := TX0) (N := 6) hx hb hg in_X0 hown hK hP 0 rfl rfl 3 (by decide) (hg _ q108) (fun _ h9 => h9) rfl dX0_shortenSteps_34 ?_
  refine lv_iload_n hx hb dX0_shortenSteps_37 rfl (lv_at hl 3 rfl) ?_
  refine z_aldA hx hb hK hP 1 0 rfl rfl (by unfold vp_in; decide +kernel) (r := r0) hfS dX0_shortenSteps_38 ?_
  refine lv_iload_n hx hb dX0_shortenSteps_39 rfl (lv_at hl 0 rfl) ?_
  refine va_iald hx hb hK hP 2 1 rfl rfl (by unfold vp_in; decide +kernel) dX0_shortenSteps_40 ?_
  refine lv_topi (fun f_4 ef_4 => ?_)
  obtain rfl : f_4 = 0 := ef_4.trans hfR
  refine lv_iadd hx hb dX0_shortenSteps_41 ?_
  refine lv_topi (fun f_5 ef_5 => ?_)
  obtain rfl : f_5 = 0 := ef_5.trans (by decide)
  refine va_mmin hx hb (by rw [hml]; exact hl.1.symm) hown (hg _ mmin_lX044) (hg _ mmin_s) (hg _ q15) (hg _ mmin_c) (Nat.le_of_ble_eq_true rfl) (Nat.le_of_ble_eq_true rfl) (Nat.le_of_ble_eq_true rfl) (Nat.le_of_ble_eq_true rfl) dX0_shortenSteps_42 ?_
  refine lv_topi (fun f_6 ef_6 => ?_)
  obtain rfl : f_6 = 0 := ef_6.trans (by decide)
  refine va_iast hx hb hK hP hD hS 2 1 rfl rfl (by unfold vp_in; decide +kernel) dX0_shortenSteps_45 (fun H_7 locs hP hD hS => ?_)
  have hP : va_P G vwCl ([(h0, .inr (4, [.ref d1, .ref d2, .ref d3, .ref d4, .int 1, .int ag])), (d4, .inl (cyO, 20, .inr (.inr (.inr (.inr (fS)))))), (r0, .inl (cyI, 20, .inl (upd (fR) (0 : Int32).toNatClampNeg (0))))]) H_7 := hP
  have hD : va_D A ([(h0, .inr (4, [.ref d1, .ref d2, .ref d3, .ref d4, .int 1, .int ag])), (d4, .inl (cyO, 20, .inr (.inr (.inr (.inr (fS)))))), (r0, .inl (cyI, 20, .inl (upd (fR) (0 : Int32).toNatClampNeg (0))))]) := hD
  refine lv_iinc (v := 1) (lv' := [(3, .int 1), (0, .ref h0), (1, .int 0), (2, .int 0)]) hx hb dX0_shortenSteps_46 hl (k := 0) rfl rfl (by decide) rfl (fun ls hl => ?_)
  refine lv_goto (tgt := 2) hx hb dX0_shortenSteps_49 (by decide) ?_
  refine lv_iload_n hx hb dX0_shortenSteps_2 rfl (lv_at hl 0 rfl) ?_
  refine lv_aload_n hx hb dX0_shortenSteps_3 rfl (lv_at hl 1 rfl) ?_
  refine va_get (D := G) (ci := 4) (v := .int 1) (C := RX0) (T := TX0) (N := 6) hx hb hg in_X0 hown hK hP 0 rfl rfl 4 (by decide) (hg _ q109) (fun _ h9 => h9) rfl dX0_shortenSteps_4 ?_
  refine lv_icmp_ge (tgt := 52) hx hb dX0_shortenSteps_7 (by decide) (fun c_8 => ?_) (fun c_8 => absurd (by decide) c_8)
  refine W.widen (k := 0) (n := 0) (Nat.le_of_ble_eq_true rfl) (Nat.le_of_ble_eq_true rfl) ?_
  have hP9 := hP.sub (ws' := [(h0, .inr (4, [.ref d1, .ref d2, .ref d3, .ref d4, .int 1, .int ag])), (d4, .inl (cyO, 20, .inr (.inr (.inr (.inr (fS)))))), (r0, .inl (cyI, 20, .inl ((upd (fR) (0 : Int32).toNatClampNeg (0)))))]) [0, 1, 2] rfl
  have hD9 := hD.sub (ws' := [(h0, .inr (4, [.ref d1, .ref d2, .ref d3, .ref d4, .int 1, .int ag])), (d4, .inl (cyO, 20, .inr (.inr (.inr (.inr (fS)))))), (r0, .inl (cyI, 20, .inl ((upd (fR) (0 : Int32).toNatClampNeg (0)))))]) [0, 1, 2] (by decide) rfl
  have hK9 := hK.sub (tys' := [(cyO, .array .int), (cyI, .int)]) [0, 1] rfl
  exact W.vret hx hb hr (fun t ht hW => ⟨⟨(), rfl, trivial, ⟨upd (fR) (0 : Int32).toNatClampNeg (0), QW.of hP9 hK9 hD9 ht hW.alike⟩⟩, hS.F ht⟩) hS.2.2 dX0_shortenSteps_52

abbrev wz_X0_tellSteps : List Cond := .code yX0_tellSteps cX0_tellSteps 3 none :: lw_good
set_option maxHeartbeats 4000000 in
set_option maxRecDepth 100000 in
/-- tellSteps of one document -/
theorem k_X0_tellSteps (l : Launch) (G : va_G) (z : Nat) (h0 : Nat) (d1 : Nat) (d2 : Nat) (d3 : Nat) (d4 : Nat) (ag : Int32) (cyO : ClassId) (fS : Nat → Option Nat) (cyI : ClassId) (fR : Nat → Int32) (r0 : Nat) (sz : Nat) (hfS : fS 0 = some r0) : Met l yX0_tellSteps wz_X0_tellSteps ({ frames := 2, cells := 0, slots := 0, locals := 38 }) (va_Pc [.ref h0] (PW G z [(h0, .inr (4, [.ref d1, .ref d2, .ref d3, .ref d4, .int 1, .int ag])), (d4, .inl (cyO, 20, .inr (.inr (.inr (.inr (fS)))))), (r0, .inl (cyI, 20, .inl (fR)))] [(cyO, .array .int), (cyI, .int)] sz)) (va_Qv (fun (_ : Unit) => True) (fun (_ : Unit) (t : State) => ∃ (gR : Nat → Int32), QW G [(h0, .inr (4, [.ref d1, .ref d2, .ref d3, .ref d4, .int 1, .int ag])), (d4, .inl (cyO, 20, .inr (.inr (.inr (.inr (fS)))))), (r0, .inl (cyI, 20, .inl (gR)))] [(cyO, .array .int), (cyI, .int)] (va_A [(h0, .inr (4, [.ref d1, .ref d2, .ref d3, .ref d4, .int 1, .int ag])), (d4, .inl (cyO, 20, .inr (.inr (.inr (.inr (fS)))))), (r0, .inl (cyI, 20, .inl (fR)))] sz) t) (va_A [(h0, .inr (4, [.ref d1, .ref d2, .ref d3, .ref d4, .int 1, .int ag])), (d4, .inl (cyO, 20, .inr (.inr (.inr (.inr (fS)))))), (r0, .inl (cyI, 20, .inl (fR)))] sz)) 0 0 (va_A [(h0, .inr (4, [.ref d1, .ref d2, .ref d3, .ref d4, .int 1, .int ag])), (d4, .inl (cyO, 20, .inr (.inr (.inr (.inr (fS)))))), (r0, .inl (cyI, 20, .inl (fR)))] sz) := by
  refine Met.ofW (cc := cX0_tellSteps) (maxL := 3) (ret := none) (by decide) rfl ?_
  intro p e s m args below meth c s₁ B hml hv
  obtain ⟨rfl, rfl, hP, hK, hD0, hG⟩ := hv
  have hx := B.exec
  have hb := B.bytes
  have hr := B.returns
  have hts := atoms_spec (ws := wz_X0_tellSteps) B.pre
  have hg : ∀ w ∈ lw_good, w.before _ s = true := fun w h => hts w (List.mem_cons_of_mem _ h)
  have hown : s.vm.findClass RX0 = some m.cls := findClass_of_methodNamed B.named
  have hlocks := B.notSynchronized
  have hD := hD0.self (sz := s.heap.size)
  generalize hAe : va_A [(h0, .inr (4, [.ref d1, .ref d2, .ref d3, .ref d4, .int 1, .int ag])), (d4, .inl (cyO, 20, .inr (.inr (.inr (.inr (fS)))))), (r0, .inl (cyI, 20, .inl (fR)))] s.heap.size = A at hD hG ⊢
  have hA : ∀ q : Nat, s.heap.size ≤ q → A q := fun q h => by rw [← hAe]; exact Or.inr h
  have hS : va_S A s.heap s.heap [] := va_S.rf
  have hl := lv_entry ([.ref h0]) (n := 3) (Nat.le_of_ble_eq_true rfl)
  rw [lg_entry_eq]
  generalize (lg_sl ([.ref h0]) ++ List.replicate (3 - (lg_sl ([.ref h0])).length) Slot.unset).toArray = ls at hl ⊢
  have hl : lv_has ls 3 [(0, .ref h0)] := hl
  refine lv_iconst (v := 0) hx hb dX0_tellSteps_0 (by decide) ?_
  refine lv_istore_n (lv' := [(1, .int 0), (0, .ref h0)]) hx hb dX0_tellSteps_1 rfl hl (by decide) rfl (fun ls hl => ?_)
  refine lv_iload_n hx hb dX0_tellSteps_2 rfl (lv_at hl 0 rfl) ?_
  refine lv_aload_n hx hb dX0_tellSteps_3 rfl (lv_at hl 1 rfl) ?_
  refine va_get (D := G) (ci := 4) (v := .int 1) (C := RX0) (T := TX0) (N := 6) hx hb hg in_X0 hown hK hP 0 rfl rfl 4 (by decide) (hg _ q109) (fun _ h9 => h9) rfl dX0_tellSteps_4 ?_
  refine lv_icmp_ge (tgt := 65) hx hb dX0_tellSteps_7 (by decide) (fun c_1 => absurd c_1 (by decide)) (fun c_1 => ?_)
  refine lv_iconst (v := 0) hx hb dX0_tellSteps_10 (by decide) ?_
  refine lv_istore_n (lv' := [(2, .int 0), (1, .int 0), (0, .ref h0)]) hx hb dX0_tellSteps_11 rfl hl (by decide) rfl (fun ls hl => ?_)
  refine lv_iload_n hx hb dX0_tellSteps_12 rfl (lv_at hl 0 rfl) ?_
  refine lv_aload_n hx hb dX0_tellSteps_13 rfl (lv_at hl 2 rfl) ?_
  refine va_get (D := G) (ci := 4) (v := .int 1) (C := RX0) (T := TX0) (N := 6) hx hb hg in_X0 hown hK hP 0 rfl rfl 4 (by decide) (hg _ q109) (fun _ h9 => h9) rfl dX0_tellSteps_14 ?_
  refine lv_icmp_ge (tgt := 59) hx hb dX0_tellSteps_17 (by decide) (fun c_2 => absurd c_2 (by decide)) (fun c_2 => ?_)
  refine lv_aload_n hx hb dX0_tellSteps_20 rfl (lv_at hl 2 rfl) ?_
  refine va_get (D := G) (ci := 4) (v := .ref d4) (C := RX0) (T := TX0) (N := 6) hx hb hg in_X0 hown hK hP 0 rfl rfl 3 (by decide) (hg _ q108) (fun _ h9 => h9) rfl dX0_tellSteps_21 ?_
  refine lv_iload_n hx hb dX0_tellSteps_24 rfl (lv_at hl 1 rfl) ?_
  refine z_aldA hx hb hK hP 1 0 rfl rfl (by unfold vp_in; decide +kernel) (r := r0) hfS dX0_tellSteps_25 ?_
  refine lv_iload_n hx hb dX0_tellSteps_26 rfl (lv_at hl 0 rfl) ?_
  refine lv_iload_n hx hb dX0_tellSteps_27 rfl (lv_at hl 1 rfl) ?_
  refine lv_iload_n hx hb dX0_tellSteps_28 rfl (lv_at hl 0 rfl) ?_
  refine lv_icmp_ne (tgt := 36) hx hb dX0_tellSteps_29 (by decide) (fun c_3 => absurd rfl c_3) (fun c_3 => ?_)
  refine lv_iconst (v := 0) hx hb dX0_tellSteps_32 (by decide) ?_
  refine lv_goto (tgt := 52) hx hb dX0_tellSteps_33 (by decide) ?_
  refine va_iast hx hb hK hP hD hS 2 1 rfl rfl (by unfold vp_in; decide +kernel) dX0_tellSteps_52 (fun H_4 locs hP hD hS => ?_)
  have hP : va_P G vwCl ([(h0, .inr (4, [.ref d1, .ref d2, .ref d3, .ref d4, .int 1, .int ag])), (d4, .inl (cyO, 20, .inr (.inr (.inr (.inr (fS)))))), (r0, .inl (cyI, 20, .inl (upd (fR) (0 : Int32).toNatClampNeg (0))))]) H_4 := hP
  have hD : va_D A ([(h0, .inr (4, [.ref d1, .ref d2, .ref d3, .ref d4, .int 1, .int ag])), (d4, .inl (cyO, 20, .inr (.inr (.inr (.inr (fS)))))), (r0, .inl (cyI, 20, .inl (upd (fR) (0 : Int32).toNatClampNeg (0))))]) := hD
  refine lv_iinc (v := 1) (lv' := [(2, .int 1), (1, .int 0), (0, .ref h0)]) hx hb dX0_tellSteps_53 hl (k := 0) rfl rfl (by decide) rfl (fun ls hl => ?_)
  refine lv_goto (tgt := 12) hx hb dX0_tellSteps_56 (by decide) ?_
  refine lv_iload_n hx hb dX0_tellSteps_12 rfl (lv_at hl 0 rfl) ?_
  refine lv_aload_n hx hb dX0_tellSteps_13 rfl (lv_at hl 2 rfl) ?_
  refine va_get (D := G) (ci := 4) (v := .int 1) (C := RX0) (T := TX0) (N := 6) hx hb hg in_X0 hown hK hP 0 rfl rfl 4 (by decide) (hg _ q109) (fun _ h9 => h9) rfl dX0_tellSteps_14 ?_
  refine lv_icmp_ge (tgt := 59) hx hb dX0_tellSteps_17 (by decide) (fun c_5 => ?_) (fun c_5 => absurd (by decide) c_5)
  refine lv_iinc (v := 1) (lv' := [(1, .int 1), (2, .int 1), (0, .ref h0)]) hx hb dX0_tellSteps_59 hl (k := 1) rfl rfl (by decide) rfl (fun ls hl => ?_)
  refine lv_goto (tgt := 2) hx hb dX0_tellSteps_62 (by decide) ?_
  refine lv_iload_n hx hb dX0_tellSteps_2 rfl (lv_at hl 0 rfl) ?_
  refine lv_aload_n hx hb dX0_tellSteps_3 rfl (lv_at hl 2 rfl) ?_
  refine va_get (D := G) (ci := 4) (v := .int 1) (C := RX0) (T := TX0) (N := 6) hx hb hg in_X0 hown hK hP 0 rfl rfl 4 (by decide) (hg _ q109) (fun _ h9 => h9) rfl dX0_tellSteps_4 ?_
  refine lv_icmp_ge (tgt := 65) hx hb dX0_tellSteps_7 (by decide) (fun c_6 => ?_) (fun c_6 => absurd (by decide) c_6)
  refine lv_iconst (v := 0) hx hb dX0_tellSteps_65 (by decide) ?_
  refine lv_istore_n (lv' := [(1, .int 0), (2, .int 1), (0, .ref h0)]) hx hb dX0_tellSteps_66 rfl hl (by decide) rfl (fun ls hl => ?_)
  refine lv_iload_n hx hb dX0_tellSteps_67 rfl (lv_at hl 0 rfl) ?_
  refine lv_aload_n hx hb dX0_tellSteps_68 rfl (lv_at hl 2 rfl) ?_
  refine va_get (D := G) (ci := 4) (v := .int 1) (C := RX0) (T := TX0) (N := 6) hx hb hg in_X0 hown hK hP 0 rfl rfl 4 (by decide) (hg _ q109) (fun _ h9 => h9) rfl dX0_tellSteps_69 ?_
  refine lv_icmp_ge (tgt := 117) hx hb dX0_tellSteps_72 (by decide) (fun c_7 => absurd c_7 (by decide)) (fun c_7 => ?_)
  refine lv_iconst (v := 0) hx hb dX0_tellSteps_75 (by decide) ?_
  refine lv_istore_n (lv' := [(2, .int 0), (1, .int 0), (0, .ref h0)]) hx hb dX0_tellSteps_76 rfl hl (by decide) rfl (fun ls hl => ?_)
  refine lv_iload_n hx hb dX0_tellSteps_77 rfl (lv_at hl 0 rfl) ?_
  refine lv_aload_n hx hb dX0_tellSteps_78 rfl (lv_at hl 2 rfl) ?_
  refine va_get (D := G) (ci := 4) (v := .int 1) (C := RX0) (T := TX0) (N := 6) hx hb hg in_X0 hown hK hP 0 rfl rfl 4 (by decide) (hg _ q109) (fun _ h9 => h9) rfl dX0_tellSteps_79 ?_
  refine lv_icmp_ge (tgt := 111) hx hb dX0_tellSteps_82 (by decide) (fun c_8 => absurd c_8 (by decide)) (fun c_8 => ?_)
  refine lv_aload_n hx hb dX0_tellSteps_85 rfl (lv_at hl 2 rfl) ?_
  refine va_get (D := G) (ci := 4) (v := .ref d4) (C := RX0) (T := TX0) (N := 6) hx hb hg in_X0 hown hK hP 0 rfl rfl 3 (by decide) (hg _ q108) (fun _ h9 => h9) rfl dX0_tellSteps_86 ?_
  refine lv_iload_n hx hb dX0_tellSteps_89 rfl (lv_at hl 0 rfl) ?_
  refine z_aldA hx hb hK hP 1 0 rfl rfl (by unfold vp_in; decide +kernel) (r := r0) hfS dX0_tellSteps_90 ?_
  refine lv_iload_n hx hb dX0_tellSteps_91 rfl (lv_at hl 1 rfl) ?_
  refine va_iald hx hb hK hP 2 1 rfl rfl (by unfold vp_in; decide +kernel) dX0_tellSteps_92 ?_
  refine lv_topi (fun f_9 ef_9 => ?_)
  obtain rfl : f_9 = 0 := ef_9.trans z_upd_same
  refine lv_sipush (v := 1000) hx hb dX0_tellSteps_93 (by decide) ?_
  refine lv_icmp_ge (tgt := 105) hx hb dX0_tellSteps_96 (by decide) (fun c_10 => absurd c_10 (by decide)) (fun c_10 => ?_)
  refine lv_aload_n hx hb dX0_tellSteps_99 rfl (lv_at hl 2 rfl) ?_
  refine lv_iload_n hx hb dX0_tellSteps_100 rfl (lv_at hl 0 rfl) ?_
  refine lv_iload_n hx hb dX0_tellSteps_101 rfl (lv_at hl 1 rfl) ?_
  have hPc := hP.sub (ws' := [(h0, .inr (4, [.ref d1, .ref d2, .ref d3, .ref d4, .int 1, .int ag])), (d4, .inl (cyO, 20, .inr (.inr (.inr (.inr (fS)))))), (r0, .inl (cyI, 20, .inl (upd (fR) (0 : Int32).toNatClampNeg (0))))]) [0, 1, 2] rfl
  have hKc := hK.sub (tys' := [(cyO, .array .int), (cyI, .int)]) [0, 1] rfl
  have hDc := hD.sub (ws' := [(h0, .inr (4, [.ref d1, .ref d2, .ref d3, .ref d4, .int 1, .int ag])), (d4, .inl (cyO, 20, .inr (.inr (.inr (.inr (fS)))))), (r0, .inl (cyI, 20, .inl (upd (fR) (0 : Int32).toNatClampNeg (0))))]) [0, 1, 2] (by decide) rfl
  have hFc := va_free (wc := [(h0, .inr (4, [.ref d1, .ref d2, .ref d3, .ref d4, .int 1, .int ag])), (d4, .inl (cyO, 20, .inr (.inr (.inr (.inr (fS)))))), (r0, .inl (cyI, 20, .inl (upd (fR) (0 : Int32).toNatClampNeg (0))))]) hD hS hA [0, 1, 2] rfl
  refine va_callv (va_runV (As := [.int 0, .int 0]) (rest := []) ⟨hx, hb, hml, hown, hts⟩ (k_X0_shortenSteps l G z h0 d1 d2 d3 d4 ag cyO fS cyI (upd (fR) (0 : Int32).toNatClampNeg (0)) r0 H_4.size hfS z_upd_same) (cwV 2 hts (lw_goodApp (lw_4 q849 q850 q851 q6) q852) rfl rfl rfl (by decide +kernel) ⟨Nat.le_of_ble_eq_true rfl, Nat.le_of_ble_eq_true rfl⟩) ⟨PW.blind, va_recv hK hP (ci := 4) (q0 := 0) rfl rfl, PW.of hPc hKc hDc hG hS hFc [.ref h0, .int 0, .int 0]⟩ rfl rfl hl.1 rfl (lv_room (Nat.le_of_ble_eq_true rfl)) dX0_tellSteps_102 ⟨Nat.le_of_ble_eq_true rfl, Nat.le_of_ble_eq_true rfl⟩) hS (fun q _ h => hFc q h) hFc (fun u t_14 H_11 locs ht hvm hw_13 hB hz1 hk1 hS => ?_)
  obtain ⟨gR_15, hB⟩ := hB
  obtain ⟨hP, hD, hK⟩ := QW.join (wr := []) (w1 := [(h0, .inr (4, [.ref d1, .ref d2, .ref d3, .ref d4, .int 1, .int ag])), (d4, .inl (cyO, 20, .inr (.inr (.inr (.inr (fS)))))), (r0, .inl (cyI, 20, .inl (gR_15)))]) hP hD hK [0, 1, 2] [] rfl rfl (by decide) (by decide) hk1 hFc ht hvm hB
  have hP : va_P G vwCl ([(h0, .inr (4, [.ref d1, .ref d2, .ref d3, .ref d4, .int 1, .int ag])), (d4, .inl (cyO, 20, .inr (.inr (.inr (.inr (fS)))))), (r0, .inl (cyI, 20, .inl (gR_15)))]) H_11 := hP
  have hD : va_D A ([(h0, .inr (4, [.ref d1, .ref d2, .ref d3, .ref d4, .int 1, .int ag])), (d4, .inl (cyO, 20, .inr (.inr (.inr (.inr (fS)))))), (r0, .inl (cyI, 20, .inl (gR_15)))]) := hD
  have hK : va_K G vwCl [(cyO, .array .int), (cyI, .int), (cyO, .array .int), (cyI, .int)] s := hK
  refine W.widen (k := 0) (n := 0) (Nat.le_of_ble_eq_true rfl) (Nat.le_of_ble_eq_true rfl) ?_
  refine lv_iinc (v := 1) (lv' := [(2, .int 1), (1, .int 0), (0, .ref h0)]) hx hb dX0_tellSteps_105 hl (k := 0) rfl rfl (by decide) rfl (fun ls hl => ?_)
  refine lv_goto (tgt := 77) hx hb dX0_tellSteps_108 (by decide) ?_
  refine lv_iload_n hx hb dX0_tellSteps_77 rfl (lv_at hl 0 rfl) ?_
  refine lv_aload_n hx hb dX0_tellSteps_78 rfl (lv_at hl 2 rfl) ?_
  refine va_get (D := G) (ci := 4) (v := .int 1) (C := RX0) (T := TX0) (N := 6) hx hb hg in_X0 hown hK hP 0 rfl rfl 4 (by decide) (hg _ q109) (fun _ h9 => h9) rfl dX0_tellSteps_79 ?_
  refine lv_icmp_ge (tgt := 111) hx hb dX0_tellSteps_82 (by decide) (fun c_16 => ?_) (fun c_16 => absurd (by decide) c_16)
  refine lv_iinc (v := 1) (lv' := [(1, .int 1), (2, .int 1), (0, .ref h0)]) hx hb dX0_tellSteps_111 hl (k := 1) rfl rfl (by decide) rfl (fun ls hl => ?_)
  refine lv_goto (tgt := 67) hx hb dX0_tellSteps_114 (by decide) ?_
  refine lv_iload_n hx hb dX0_tellSteps_67 rfl (lv_at hl 0 rfl) ?_
  refine lv_aload_n hx hb dX0_tellSteps_68 rfl (lv_at hl 2 rfl) ?_
  refine va_get (D := G) (ci := 4) (v := .int 1) (C := RX0) (T := TX0) (N := 6) hx hb hg in_X0 hown hK hP 0 rfl rfl 4 (by decide) (hg _ q109) (fun _ h9 => h9) rfl dX0_tellSteps_69 ?_
  refine lv_icmp_ge (tgt := 117) hx hb dX0_tellSteps_72 (by decide) (fun c_17 => ?_) (fun c_17 => absurd (by decide) c_17)
  refine W.widen (k := 0) (n := 0) (Nat.le_of_ble_eq_true rfl) (Nat.le_of_ble_eq_true rfl) ?_
  have hP9 := hP.sub (ws' := [(h0, .inr (4, [.ref d1, .ref d2, .ref d3, .ref d4, .int 1, .int ag])), (d4, .inl (cyO, 20, .inr (.inr (.inr (.inr (fS)))))), (r0, .inl (cyI, 20, .inl (gR_15)))]) [0, 1, 2] rfl
  have hD9 := hD.sub (ws' := [(h0, .inr (4, [.ref d1, .ref d2, .ref d3, .ref d4, .int 1, .int ag])), (d4, .inl (cyO, 20, .inr (.inr (.inr (.inr (fS)))))), (r0, .inl (cyI, 20, .inl (gR_15)))]) [0, 1, 2] (by decide) rfl
  have hK9 := hK.sub (tys' := [(cyO, .array .int), (cyI, .int)]) [0, 1] rfl
  exact W.vret hx hb hr (fun t ht hW => ⟨⟨(), rfl, trivial, ⟨gR_15, QW.of hP9 hK9 hD9 ht hW.alike⟩⟩, hS.F ht⟩) hS.2.2 dX0_tellSteps_117

abbrev wz_X0_addDocument : List Cond := .code yX0_addDocument cX0_addDocument 1 none :: lw_good
set_option maxHeartbeats 4000000 in
set_option maxRecDepth 100000 in
/-- addDocument: the first one -/
theorem k_X0_addDocument (l : Launch) (G : va_G) (z : Nat) (h0 : Nat) (d1 : Nat) (d2 : Nat) (d3 : Nat) (d4 : Nat) (ag : Int32) (cyO : ClassId) (fS : Nat → Option Nat) (cyI : ClassId) (fR : Nat → Int32) (r0 : Nat) (sz : Nat) (hfS : fS 0 = some r0) : Met l yX0_addDocument wz_X0_addDocument ({ frames := 3, cells := 0, slots := 0, locals := 60 }) (va_Pc [.ref h0] (PW G z [(h0, .inr (4, [.ref d1, .ref d2, .ref d3, .ref d4, .int 0, .int ag])), (d4, .inl (cyO, 20, .inr (.inr (.inr (.inr (fS)))))), (r0, .inl (cyI, 20, .inl (fR)))] [(cyO, .array .int), (cyI, .int)] sz)) (va_Qv (fun (_ : Unit) => True) (fun (_ : Unit) (t : State) => QW G [] [] (va_A [(h0, .inr (4, [.ref d1, .ref d2, .ref d3, .ref d4, .int 0, .int ag])), (d4, .inl (cyO, 20, .inr (.inr (.inr (.inr (fS)))))), (r0, .inl (cyI, 20, .inl (fR)))] sz) t) (va_A [(h0, .inr (4, [.ref d1, .ref d2, .ref d3, .ref d4, .int 0, .int ag])), (d4, .inl (cyO, 20, .inr (.inr (.inr (.inr (fS)))))), (r0, .inl (cyI, 20, .inl (fR)))] sz)) 0 0 (va_A [(h0, .inr (4, [.ref d1, .ref d2, .ref d3, .ref d4, .int 0, .int ag])), (d4, .inl (cyO, 20, .inr (.inr (.inr (.inr (fS)))))), (r0, .inl (cyI, 20, .inl (fR)))] sz) := by
  refine Met.ofW (cc := cX0_addDocument) (maxL := 1) (ret := none) (by decide) rfl ?_
  intro p e s m args below meth c s₁ B hml hv
  obtain ⟨rfl, rfl, hP, hK, hD0, hG⟩ := hv
  have hx := B.exec
  have hb := B.bytes
  have hr := B.returns
  have hts := atoms_spec (ws := wz_X0_addDocument) B.pre
  have hg : ∀ w ∈ lw_good, w.before _ s = true := fun w h => hts w (List.mem_cons_of_mem _ h)
  have hown : s.vm.findClass RX0 = some m.cls := findClass_of_methodNamed B.named
  have hlocks := B.notSynchronized
  have hD := hD0.self (sz := s.heap.size)
  generalize hAe : va_A [(h0, .inr (4, [.ref d1, .ref d2, .ref d3, .ref d4, .int 0, .int ag])), (d4, .inl (cyO, 20, .inr (.inr (.inr (.inr (fS)))))), (r0, .inl (cyI, 20, .inl (fR)))] s.heap.size = A at hD hG ⊢
  have hA : ∀ q : Nat, s.heap.size ≤ q → A q := fun q h => by rw [← hAe]; exact Or.inr h
  have hS : va_S A s.heap s.heap [] := va_S.rf
  have hl := lv_entry ([.ref h0]) (n := 1) (Nat.le_of_ble_eq_true rfl)
  rw [lg_entry_eq]
  generalize (lg_sl ([.ref h0]) ++ List.replicate (1 - (lg_sl ([.ref h0])).length) Slot.unset).toArray = ls at hl ⊢
  have hl : lv_has ls 1 [(0, .ref h0)] := hl
  refine lv_aload_n hx hb dX0_addDocument_0 rfl (lv_at hl 0 rfl) ?_
  refine va_get (D := G) (ci := 4) (v := .int 0) (C := RX0) (T := TX0) (N := 6) hx hb hg in_X0 hown hK hP 0 rfl rfl 4 (by decide) (hg _ q109) (fun _ h9 => h9) rfl dX0_addDocument_1 ?_
  refine lv_bipush (v := 20) hx hb dX0_addDocument_4 (by decide) ?_
  refine lv_icmp_ge (tgt := 23) hx hb dX0_addDocument_6 (by decide) (fun c_1 => absurd c_1 (by decide)) (fun c_1 => ?_)
  refine lv_aload_n hx hb dX0_addDocument_9 rfl (lv_at hl 0 rfl) ?_
  refine lv_dup hx hb dX0_addDocument_10 rfl ?_
  refine va_get (D := G) (ci := 4) (v := .int 0) (C := RX0) (T := TX0) (N := 6) hx hb hg in_X0 hown hK hP 0 rfl rfl 4 (by decide) (hg _ q109) (fun _ h9 => h9) rfl dX0_addDocument_11 ?_
  refine lv_iconst (v := 1) hx hb dX0_addDocument_14 (by decide) ?_
  refine lv_iadd hx hb dX0_addDocument_15 ?_
  refine lv_topi (fun f_2 ef_2 => ?_)
  obtain rfl : f_2 = 1 := ef_2.trans (by decide)
  refine va_put (D := G) (ci := 4) (v := .int 1) (ty := .int) (C := RX0) (T := TX0) (N := 6) hx hb hg in_X0 tyX0 tyX0_ok nmX0 hown hK hP hD hS 0 rfl rfl 4 (by decide) (hg _ q109) (fun _ h9 => h9) rfl (by decide +kernel) rfl rfl (Nat.le_of_ble_eq_true rfl) dX0_addDocument_16 (fun H_3 locs hP hD hS => ?_)
  have hP : va_P G vwCl ([(h0, .inr (4, [.ref d1, .ref d2, .ref d3, .ref d4, .int 1, .int ag])), (d4, .inl (cyO, 20, .inr (.inr (.inr (.inr (fS)))))), (r0, .inl (cyI, 20, .inl (fR)))]) H_3 := hP
  have hD : va_D A ([(h0, .inr (4, [.ref d1, .ref d2, .ref d3, .ref d4, .int 1, .int ag])), (d4, .inl (cyO, 20, .inr (.inr (.inr (.inr (fS)))))), (r0, .inl (cyI, 20, .inl (fR)))]) := hD
  refine lv_aload_n hx hb dX0_addDocument_19 rfl (lv_at hl 0 rfl) ?_
  have hPc := hP.sub (ws' := [(h0, .inr (4, [.ref d1, .ref d2, .ref d3, .ref d4, .int 1, .int ag])), (d4, .inl (cyO, 20, .inr (.inr (.inr (.inr (fS)))))), (r0, .inl (cyI, 20, .inl (fR)))]) [0, 1, 2] rfl
  have hKc := hK.sub (tys' := [(cyO, .array .int), (cyI, .int)]) [0, 1] rfl
  have hDc := hD.sub (ws' := [(h0, .inr (4, [.ref d1, .ref d2, .ref d3, .ref d4, .int 1, .int ag])), (d4, .inl (cyO, 20, .inr (.inr (.inr (.inr (fS)))))), (r0, .inl (cyI, 20, .inl (fR)))]) [0, 1, 2] (by decide) rfl
  have hFc := va_free (wc := [(h0, .inr (4, [.ref d1, .ref d2, .ref d3, .ref d4, .int 1, .int ag])), (d4, .inl (cyO, 20, .inr (.inr (.inr (.inr (fS)))))), (r0, .inl (cyI, 20, .inl (fR)))]) hD hS hA [0, 1, 2] rfl
  refine va_callv (va_runV (As := []) (rest := []) ⟨hx, hb, hml, hown, hts⟩ (k_X0_tellSteps l G z h0 d1 d2 d3 d4 ag cyO fS cyI fR r0 H_3.size hfS) (cwV 0 hts (lw_goodApp (lw_4 q841 q842 q843 q6) q844) rfl rfl rfl (by decide +kernel) ⟨Nat.le_of_ble_eq_true rfl, Nat.le_of_ble_eq_true rfl⟩) ⟨PW.blind, va_recv hK hP (ci := 4) (q0 := 0) rfl rfl, PW.of hPc hKc hDc hG hS hFc [.ref h0]⟩ rfl rfl hl.1 rfl (lv_room (Nat.le_of_ble_eq_true rfl)) dX0_addDocument_20 ⟨Nat.le_of_ble_eq_true rfl, Nat.le_of_ble_eq_true rfl⟩) hS (fun q _ h => hFc q h) hFc (fun u t_7 H_4 locs ht hvm hw_6 hB hz1 hk1 hS => ?_)
  obtain ⟨gR_8, hB⟩ := hB
  obtain ⟨hP, hD, hK⟩ := QW.join (wr := []) (w1 := [(h0, .inr (4, [.ref d1, .ref d2, .ref d3, .ref d4, .int 1, .int ag])), (d4, .inl (cyO, 20, .inr (.inr (.inr (.inr (fS)))))), (r0, .inl (cyI, 20, .inl (gR_8)))]) hP hD hK [0, 1, 2] [] rfl rfl (by decide) (by decide) hk1 hFc ht hvm hB
  have hP : va_P G vwCl ([(h0, .inr (4, [.ref d1, .ref d2, .ref d3, .ref d4, .int 1, .int ag])), (d4, .inl (cyO, 20, .inr (.inr (.inr (.inr (fS)))))), (r0, .inl (cyI, 20, .inl (gR_8)))]) H_4 := hP
  have hD : va_D A ([(h0, .inr (4, [.ref d1, .ref d2, .ref d3, .ref d4, .int 1, .int ag])), (d4, .inl (cyO, 20, .inr (.inr (.inr (.inr (fS)))))), (r0, .inl (cyI, 20, .inl (gR_8)))]) := hD
  have hK : va_K G vwCl [(cyO, .array .int), (cyI, .int), (cyO, .array .int), (cyI, .int)] s := hK
  refine W.widen (k := 0) (n := 0) (Nat.le_of_ble_eq_true rfl) (Nat.le_of_ble_eq_true rfl) ?_
  refine W.widen (k := 0) (n := 0) (Nat.le_of_ble_eq_true rfl) (Nat.le_of_ble_eq_true rfl) ?_
  have hP9 := hP.sub (ws' := []) [] rfl
  have hD9 := hD.sub (ws' := []) [] (by decide) rfl
  have hK9 := hK.sub (tys' := []) [] rfl
  exact W.vret hx hb hr (fun t ht hW => ⟨⟨(), rfl, trivial, QW.of hP9 hK9 hD9 ht hW.alike⟩, hS.F ht⟩) hS.2.2 dX0_addDocument_23

abbrev wz_X8_mould : List Cond := .code yX8_mould cX8_mould 7 (Option.some Jvm.ClassFile.FieldType.int) :: lw_good
set_option maxHeartbeats 4000000 in
set_option maxRecDepth 100000 in
/-- mould: the first one -/
theorem k_X8_mould (l : Launch) (hfl : l.stackTraces = false) (G : va_G) (z : Nat) (h0 : Nat) (a1 : Nat) (a2 : Nat) (a3 : Nat) (a4 : Nat) (a5 : Nat) (a6 : Nat) (a7 : Nat) (a8 : Nat) (tol : Int32) (sal : Int32) (c0 : Int32) (p0 : Int32) (p1 : Int32) (p2 : Int32) (p3 : Int32) (p4 : Int32) (p5 : Int32) (sz : Nat)  : vx_Met l yX8_mould wz_X8_mould ({ frames := 7, cells := 13, slots := 115, locals := 104 }) (va_Pc [.ref h0, .int p0, .int p1, .int p2, .int p3, .int p4, .int p5] (PW G z [(h0, .inr (12, [.ref a1, .ref a2, .ref a3, .ref a4, .ref a5, .ref a6, .ref a7, .ref a8, .int tol, .int sal])), (a1, .inr (3, [.int c0, .ref z, .int 0]))] [] sz)) (va_Qi (fun (r : Int32) (_ : Unit) => r = 0 ∧ okM p0 p1 p2 p3 p4 p5) (fun (_ : Unit) (t : State) => QW G [] [] (va_A [(h0, .inr (12, [.ref a1, .ref a2, .ref a3, .ref a4, .ref a5, .ref a6, .ref a7, .ref a8, .int tol, .int sal])), (a1, .inr (3, [.int c0, .ref z, .int 0]))] sz) t) (va_A [(h0, .inr (12, [.ref a1, .ref a2, .ref a3, .ref a4, .ref a5, .ref a6, .ref a7, .ref a8, .int tol, .int sal])), (a1, .inr (3, [.int c0, .ref z, .int 0]))] sz)) (zX (¬ okM p0 p1 p2 p3 p4 p5) "java/lang/IllegalArgumentException" (va_A [(h0, .inr (12, [.ref a1, .ref a2, .ref a3, .ref a4, .ref a5, .ref a6, .ref a7, .ref a8, .int tol, .int sal])), (a1, .inr (3, [.int c0, .ref z, .int 0]))] sz)) 13 115 (va_A [(h0, .inr (12, [.ref a1, .ref a2, .ref a3, .ref a4, .ref a5, .ref a6, .ref a7, .ref a8, .int tol, .int sal])), (a1, .inr (3, [.int c0, .ref z, .int 0]))] sz) := by
  refine vx_ofW (cc := cX8_mould) (maxL := 7) (ret := (Option.some Jvm.ClassFile.FieldType.int)) (by decide) rfl ?_
  intro p e s m args below meth c s₁ B hml htab hv
  obtain ⟨rfl, rfl, hP, hK, hD0, hG⟩ := hv
  have hx := B.exec
  have hb := B.bytes
  have hr := B.returns
  have hts := atoms_spec (ws := wz_X8_mould) B.pre
  have hg : ∀ w ∈ lw_good, w.before _ s = true := fun w h => hts w (List.mem_cons_of_mem _ h)
  have hown : s.vm.findClass RX8 = some m.cls := findClass_of_methodNamed B.named
  have hlocks := B.notSynchronized
  have hD := hD0.self (sz := s.heap.size)
  generalize hAe : va_A [(h0, .inr (12, [.ref a1, .ref a2, .ref a3, .ref a4, .ref a5, .ref a6, .ref a7, .ref a8, .int tol, .int sal])), (a1, .inr (3, [.int c0, .ref z, .int 0]))] s.heap.size = A at hD hG ⊢
  have hA : ∀ q : Nat, s.heap.size ≤ q → A q := fun q h => by rw [← hAe]; exact Or.inr h
  have hS : va_S A s.heap s.heap [] := va_S.rf
  have hl := lv_entry ([.ref h0, .int p0, .int p1, .int p2, .int p3, .int p4, .int p5]) (n := 7) (Nat.le_of_ble_eq_true rfl)
  rw [lg_entry_eq]
  generalize (lg_sl ([.ref h0, .int p0, .int p1, .int p2, .int p3, .int p4, .int p5]) ++ List.replicate (7 - (lg_sl ([.ref h0, .int p0, .int p1, .int p2, .int p3, .int p4, .int p5])).length) Slot.unset).toArray = ls at hl ⊢
  have hl : lv_has ls 7 [(0, .ref h0), (1, .int p0), (2, .int p1), (3, .int p2), (4, .int p3), (5, .int p4), (6, .int p5)] := hl
  refine lv_iload_n hx hb dX8_mould_0 rfl (lv_at hl 1 rfl) ?_
  refine lv_iconst (v := 0) hx hb dX8_mould_1 (by decide) ?_
  refine lv_iconst (v := 4) hx hb dX8_mould_2 (by decide) ?_
  have hPc := hP.sub (ws' := []) [] rfl
  have hKc := hK.sub (tys' := []) [] rfl
  refine vx_callv (vx_runS (As := [.int p0, .int 0, .int 4]) (rest := []) ⟨hx, hb, hml, hown, hts⟩ (k_X8_checkRange l hfl G z p0 0 4 s.heap.size ) (va_cwS 3 hts (lw_goodApp (lw_3 q308 q309 q1) q310) rfl rfl rfl (by decide +kernel) ⟨Nat.le_of_ble_eq_true rfl, Nat.le_of_ble_eq_true rfl⟩) ⟨PR.blind, PR.of hPc hKc hG hS hA [.int p0, .int 0, .int 4]⟩ rfl rfl hl.1 rfl (lv_room (Nat.le_of_ble_eq_true rfl)) dX8_mould_3 ⟨Nat.le_of_ble_eq_true rfl, Nat.le_of_ble_eq_true rfl⟩) hS (fun q h9 h => zN.not h9 h) (fun q h => hA q (Nat.le_trans hS.1 h)) (fun q h9 h => zN.not h9 h) (fun E ce q9 ux t_4 H_1 locs ht hvm px_5 hE hz1 hk1 hS hq9 hv9 hcl9 => ?_) (fun u t_4 H_1 locs ht hvm hw_3 hB hz1 hk1 hS => ?_)
  · exact vx_out (fun x9 h9 => (htab x9 h9).elim) hlocks hq9 hv9 hcl9 (fun t2 ht2 hal2 => zX.same (fun h9 => px_5 h9.1) hE hS ht2) hS.2.2 (Nat.le_of_ble_eq_true rfl) (Nat.le_of_ble_eq_true rfl)
  have hP := hP.grown hk1
  refine W.widen (k := 1) (n := 6) (Nat.le_of_ble_eq_true rfl) (Nat.le_of_ble_eq_true rfl) ?_
  refine lv_iload_n hx hb dX8_mould_6 rfl (lv_at hl 2 rfl) ?_
  refine lv_iconst (v := 0) hx hb dX8_mould_7 (by decide) ?_
  refine lv_bipush (v := 99) hx hb dX8_mould_8 (by decide) ?_
  have hPc := hP.sub (ws' := []) [] rfl
  have hKc := hK.sub (tys' := []) [] rfl
  refine vx_callv (vx_runS (As := [.int p1, .int 0, .int 99]) (rest := []) ⟨hx, hb, hml, hown, hts⟩ (k_X8_checkRange l hfl G z p1 0 99 H_1.size ) (va_cwS 3 hts (lw_goodApp (lw_3 q308 q309 q1) q310) rfl rfl rfl (by decide +kernel) ⟨Nat.le_of_ble_eq_true rfl, Nat.le_of_ble_eq_true rfl⟩) ⟨PR.blind, PR.of hPc hKc hG hS hA [.int p1, .int 0, .int 99]⟩ rfl rfl hl.1 rfl (lv_room (Nat.le_of_ble_eq_true rfl)) dX8_mould_10 ⟨Nat.le_of_ble_eq_true rfl, Nat.le_of_ble_eq_true rfl⟩) hS (fun q h9 h => zN.not h9 h) (fun q h => hA q (Nat.le_trans hS.1 h)) (fun q h9 h => zN.not h9 h) (fun E ce q9 ux t_9 H_6 locs ht hvm px_10 hE hz1 hk1 hS hq9 hv9 hcl9 => ?_) (fun u t_9 H_6 locs ht hvm hw_8 hB hz1 hk1 hS => ?_)
  · exact vx_out (fun x9 h9 => (htab x9 h9).elim) hlocks hq9 hv9 hcl9 (fun t2 ht2 hal2 => zX.same (fun h9 => px_10 h9.2.1) hE hS ht2) hS.2.2 (Nat.le_of_ble_eq_true rfl) (Nat.le_of_ble_eq_true rfl)
  have hP := hP.grown hk1
  refine W.widen (k := 2) (n := 12) (Nat.le_of_ble_eq_true rfl) (Nat.le_of_ble_eq_true rfl) ?_
  refine lv_iload_n hx hb dX8_mould_13 rfl (lv_at hl 3 rfl) ?_
  refine lv_bipush (v := 100) hx hb dX8_mould_14 (by decide) ?_
  refine lv_sipush (v := 400) hx hb dX8_mould_16 (by decide) ?_
  have hPc := hP.sub (ws' := []) [] rfl
  have hKc := hK.sub (tys' := []) [] rfl
  refine vx_callv (vx_runS (As := [.int p2, .int 100, .int 400]) (rest := []) ⟨hx, hb, hml, hown, hts⟩ (k_X8_checkRange l hfl G z p2 100 400 H_6.size ) (va_cwS 3 hts (lw_goodApp (lw_3 q308 q309 q1) q310) rfl rfl rfl (by decide +kernel) ⟨Nat.le_of_ble_eq_true rfl, Nat.le_of_ble_eq_true rfl⟩) ⟨PR.blind, PR.of hPc hKc hG hS hA [.int p2, .int 100, .int 400]⟩ rfl rfl hl.1 rfl (lv_room (Nat.le_of_ble_eq_true rfl)) dX8_mould_19 ⟨Nat.le_of_ble_eq_true rfl, Nat.le_of_ble_eq_true rfl⟩) hS (fun q h9 h => zN.not h9 h) (fun q h => hA q (Nat.le_trans hS.1 h)) (fun q h9 h => zN.not h9 h) (fun E ce q9 ux t_14 H_11 locs ht hvm px_15 hE hz1 hk1 hS hq9 hv9 hcl9 => ?_) (fun u t_14 H_11 locs ht hvm hw_13 hB hz1 hk1 hS => ?_)
  · exact vx_out (fun x9 h9 => (htab x9 h9).elim) hlocks hq9 hv9 hcl9 (fun t2 ht2 hal2 => zX.same (fun h9 => px_15 h9.2.2.1) hE hS ht2) hS.2.2 (Nat.le_of_ble_eq_true rfl) (Nat.le_of_ble_eq_true rfl)
  have hP := hP.grown hk1
  refine W.widen (k := 3) (n := 18) (Nat.le_of_ble_eq_true rfl) (Nat.le_of_ble_eq_true rfl) ?_
  refine lv_iload hx hb dX8_mould_22 (lv_at hl 4 rfl) ?_
  refine lv_bipush (v := 100) hx hb dX8_mould_24 (by decide) ?_
  refine lv_sipush (v := 400) hx hb dX8_mould_26 (by decide) ?_
  have hPc := hP.sub (ws' := []) [] rfl
  have hKc := hK.sub (tys' := []) [] rfl
  refine vx_callv (vx_runS (As := [.int p3, .int 100, .int 400]) (rest := []) ⟨hx, hb, hml, hown, hts⟩ (k_X8_checkRange l hfl G z p3 100 400 H_11.size ) (va_cwS 3 hts (lw_goodApp (lw_3 q308 q309 q1) q310) rfl rfl rfl (by decide +kernel) ⟨Nat.le_of_ble_eq_true rfl, Nat.le_of_ble_eq_true rfl⟩) ⟨PR.blind, PR.of hPc hKc hG hS hA [.int p3, .int 100, .int 400]⟩ rfl rfl hl.1 rfl (lv_room (Nat.le_of_ble_eq_true rfl)) dX8_mould_29 ⟨Nat.le_of_ble_eq_true rfl, Nat.le_of_ble_eq_true rfl⟩) hS (fun q h9 h => zN.not h9 h) (fun q h => hA q (Nat.le_trans hS.1 h)) (fun q h9 h => zN.not h9 h) (fun E ce q9 ux t_19 H_16 locs ht hvm px_20 hE hz1 hk1 hS hq9 hv9 hcl9 => ?_) (fun u t_19 H_16 locs ht hvm hw_18 hB hz1 hk1 hS => ?_)
  · exact vx_out (fun x9 h9 => (htab x9 h9).elim) hlocks hq9 hv9 hcl9 (fun t2 ht2 hal2 => zX.same (fun h9 => px_20 h9.2.2.2.1) hE hS ht2) hS.2.2 (Nat.le_of_ble_eq_true rfl) (Nat.le_of_ble_eq_true rfl)
  have hP := hP.grown hk1
  refine W.widen (k := 4) (n := 24) (Nat.le_of_ble_eq_true rfl) (Nat.le_of_ble_eq_true rfl) ?_
  refine lv_iload hx hb dX8_mould_32 (lv_at hl 5 rfl) ?_
  refine lv_bipush (v := 100) hx hb dX8_mould_34 (by decide) ?_
  refine lv_sipush (v := 400) hx hb dX8_mould_36 (by decide) ?_
  have hPc := hP.sub (ws' := []) [] rfl
  have hKc := hK.sub (tys' := []) [] rfl
  refine vx_callv (vx_runS (As := [.int p4, .int 100, .int 400]) (rest := []) ⟨hx, hb, hml, hown, hts⟩ (k_X8_checkRange l hfl G z p4 100 400 H_16.size ) (va_cwS 3 hts (lw_goodApp (lw_3 q308 q309 q1) q310) rfl rfl rfl (by decide +kernel) ⟨Nat.le_of_ble_eq_true rfl, Nat.le_of_ble_eq_true rfl⟩) ⟨PR.blind, PR.of hPc hKc hG hS hA [.int p4, .int 100, .int 400]⟩ rfl rfl hl.1 rfl (lv_room (Nat.le_of_ble_eq_true rfl)) dX8_mould_39 ⟨Nat.le_of_ble_eq_true rfl, Nat.le_of_ble_eq_true rfl⟩) hS (fun q h9 h => zN.not h9 h) (fun q h => hA q (Nat.le_trans hS.1 h)) (fun q h9 h => zN.not h9 h) (fun E ce q9 ux t_24 H_21 locs ht hvm px_25 hE hz1 hk1 hS hq9 hv9 hcl9 => ?_) (fun u t_24 H_21 locs ht hvm hw_23 hB hz1 hk1 hS => ?_)
  · exact vx_out (fun x9 h9 => (htab x9 h9).elim) hlocks hq9 hv9 hcl9 (fun t2 ht2 hal2 => zX.same (fun h9 => px_25 h9.2.2.2.2.1) hE hS ht2) hS.2.2 (Nat.le_of_ble_eq_true rfl) (Nat.le_of_ble_eq_true rfl)
  have hP := hP.grown hk1
  refine W.widen (k := 5) (n := 30) (Nat.le_of_ble_eq_true rfl) (Nat.le_of_ble_eq_true rfl) ?_
  refine lv_iload hx hb dX8_mould_42 (lv_at hl 6 rfl) ?_
  refine lv_bipush (v := 100) hx hb dX8_mould_44 (by decide) ?_
  refine lv_sipush (v := 400) hx hb dX8_mould_46 (by decide) ?_
  have hPc := hP.sub (ws' := []) [] rfl
  have hKc := hK.sub (tys' := []) [] rfl
  refine vx_callv (vx_runS (As := [.int p5, .int 100, .int 400]) (rest := []) ⟨hx, hb, hml, hown, hts⟩ (k_X8_checkRange l hfl G z p5 100 400 H_21.size ) (va_cwS 3 hts (lw_goodApp (lw_3 q308 q309 q1) q310) rfl rfl rfl (by decide +kernel) ⟨Nat.le_of_ble_eq_true rfl, Nat.le_of_ble_eq_true rfl⟩) ⟨PR.blind, PR.of hPc hKc hG hS hA [.int p5, .int 100, .int 400]⟩ rfl rfl hl.1 rfl (lv_room (Nat.le_of_ble_eq_true rfl)) dX8_mould_49 ⟨Nat.le_of_ble_eq_true rfl, Nat.le_of_ble_eq_true rfl⟩) hS (fun q h9 h => zN.not h9 h) (fun q h => hA q (Nat.le_trans hS.1 h)) (fun q h9 h => zN.not h9 h) (fun E ce q9 ux t_29 H_26 locs ht hvm px_30 hE hz1 hk1 hS hq9 hv9 hcl9 => ?_) (fun u t_29 H_26 locs ht hvm hw_28 hB hz1 hk1 hS => ?_)
  · exact vx_out (fun x9 h9 => (htab x9 h9).elim) hlocks hq9 hv9 hcl9 (fun t2 ht2 hal2 => zX.same (fun h9 => px_30 h9.2.2.2.2.2) hE hS ht2) hS.2.2 (Nat.le_of_ble_eq_true rfl) (Nat.le_of_ble_eq_true rfl)
  have hP := hP.grown hk1
  refine W.widen (k := 6) (n := 36) (Nat.le_of_ble_eq_true rfl) (Nat.le_of_ble_eq_true rfl) ?_
  refine lv_aload_n hx hb dX8_mould_52 rfl (lv_at hl 0 rfl) ?_
  refine va_get (D := G) (ci := 12) (v := .ref a1) (C := RX8) (T := TX8) (N := 10) hx hb hg in_X8 hown hK hP 0 rfl rfl 0 (by decide) (hg _ q125) (fun _ h9 => h9) rfl dX8_mould_53 ?_
  have hPc := hP.sub (ws' := [(a1, .inr (3, [.int c0, .ref z, .int 0]))]) [1] rfl
  have hKc := hK.sub (tys' := []) [] rfl
  refine va_calli (va_runV (As := []) (rest := []) ⟨hx, hb, hml, hown, hts⟩ (k_Jx4a65c_size_8abf5 l G z a1 c0 z 0 H_26.size ) (cwV 0 hts (lw_goodApp (lw_4 q160 q161 q162 q4) q163) rfl rfl rfl (by decide +kernel) ⟨Nat.le_of_ble_eq_true rfl, Nat.le_of_ble_eq_true rfl⟩) ⟨PR.blind, va_recv hK hP (ci := 3) (q0 := 1) rfl rfl, PR.of hPc hKc hG hS hA [.ref a1]⟩ rfl rfl hl.1 rfl (lv_room (Nat.le_of_ble_eq_true rfl)) dX8_mould_56 ⟨Nat.le_of_ble_eq_true rfl, Nat.le_of_ble_eq_true rfl⟩) hS (fun q h9 h => zN.not h9 h) (fun q h => hA q (Nat.le_trans hS.1 h)) (fun r_32 u t_34 H_31 locs ht hvm hw_33 hB hz1 hk1 hS => ?_)
  have hP := hP.grown hk1
  refine W.widen (k := 6) (n := 36) (Nat.le_of_ble_eq_true rfl) (Nat.le_of_ble_eq_true rfl) ?_
  obtain rfl : 0 = r_32 := hw_33.symm
  refine lv_iconst (v := 1) hx hb dX8_mould_59 (by decide) ?_
  refine lv_iadd hx hb dX8_mould_60 ?_
  refine lv_topi (fun f_35 ef_35 => ?_)
  obtain rfl : f_35 = 1 := ef_35.trans (by decide)
  refine lv_bipush (v := 12) hx hb dX8_mould_61 (by decide) ?_
  have hPc := hP.sub (ws' := []) [] rfl
  have hKc := hK.sub (tys' := []) [] rfl
  refine vx_callv (vx_runS (As := [.int 1, .int 12]) (rest := []) ⟨hx, hb, hml, hown, hts⟩ (k_X8_checkRoom l hfl G z 1 12 H_31.size ) (va_cwS 2 hts (lw_goodApp (lw_3 q383 q384 q1) q385) rfl rfl rfl (by decide +kernel) ⟨Nat.le_of_ble_eq_true rfl, Nat.le_of_ble_eq_true rfl⟩) ⟨PR.blind, PR.of hPc hKc hG hS hA [.int 1, .int 12]⟩ rfl rfl hl.1 rfl (lv_room (Nat.le_of_ble_eq_true rfl)) dX8_mould_63 ⟨Nat.le_of_ble_eq_true rfl, Nat.le_of_ble_eq_true rfl⟩) hS (fun q h9 h => zN.not h9 h) (fun q h => hA q (Nat.le_trans hS.1 h)) (fun q h9 h => zN.not h9 h) (fun E ce q9 ux t_39 H_36 locs ht hvm px_40 hE hz1 hk1 hS hq9 hv9 hcl9 => ?_) (fun u t_39 H_36 locs ht hvm hw_38 hB hz1 hk1 hS => ?_)
  · exact absurd (by decide) px_40
  have hP := hP.grown hk1
  refine W.widen (k := 7) (n := 42) (Nat.le_of_ble_eq_true rfl) (Nat.le_of_ble_eq_true rfl) ?_
  refine lv_aload_n hx hb dX8_mould_66 rfl (lv_at hl 0 rfl) ?_
  refine va_get (D := G) (ci := 12) (v := .ref a1) (C := RX8) (T := TX8) (N := 10) hx hb hg in_X8 hown hK hP 0 rfl rfl 0 (by decide) (hg _ q125) (fun _ h9 => h9) rfl dX8_mould_67 ?_
  refine va_new (ci := 8) (fs := [.int 0, .int 0, .null, .null, .null, .null, .int 0, .int 0, .int 0, .int 0, .null]) (C := RX4) (T := TX4) (N := 11) hx hb hg in_X4 tyX4 tyX4_ok hown (hg _ q278) (hg _ q402) (hg _ q13) hK hP hD hS hA rfl (fun j hj => by rcases (show j = 0 ∨ j = 1 ∨ j = 2 ∨ j = 3 ∨ j = 4 ∨ j = 5 ∨ j = 6 ∨ j = 7 ∨ j = 8 ∨ j = 9 ∨ j = 10 by omega) with rfl | rfl | rfl | rfl | rfl | rfl | rfl | rfl | rfl | rfl | rfl <;> rfl) (Nat.le_of_ble_eq_true rfl) (Nat.le_of_ble_eq_true rfl) dX8_mould_70 (fun o_41 H_42 hP hD hS => ?_)
  have hP : va_P G vwCl ([(h0, .inr (12, [.ref a1, .ref a2, .ref a3, .ref a4, .ref a5, .ref a6, .ref a7, .ref a8, .int tol, .int sal])), (a1, .inr (3, [.int c0, .ref z, .int 0])), (o_41, .inr (8, [.int 0, .int 0, .null, .null, .null, .null, .int 0, .int 0, .int 0, .int 0, .null]))]) H_42 := hP
  have hD : va_D A ([(h0, .inr (12, [.ref a1, .ref a2, .ref a3, .ref a4, .ref a5, .ref a6, .ref a7, .ref a8, .int tol, .int sal])), (a1, .inr (3, [.int c0, .ref z, .int 0])), (o_41, .inr (8, [.int 0, .int 0, .null, .null, .null, .null, .int 0, .int 0, .int 0, .int 0, .null]))]) := hD
  refine W.widen (k := 8) (n := 53) (Nat.le_of_ble_eq_true rfl) (Nat.le_of_ble_eq_true rfl) ?_
  refine lv_dup hx hb dX8_mould_73 rfl ?_
  refine lv_iload_n hx hb dX8_mould_74 rfl (lv_at hl 1 rfl) ?_
  refine lv_iload_n hx hb dX8_mould_75 rfl (lv_at hl 2 rfl) ?_
  refine lv_iconst (v := 4) hx hb dX8_mould_76 (by decide) ?_
  refine va_newa (atype := .int) (ty := .int) (a0 := (4, .inl (fun _ => 0))) (N' := 4) hx hb (hg _ q94) rfl hK hP hD hS hA (fun _ => rfl) (by decide) (by decide +kernel) (Nat.le_of_ble_eq_true rfl) (Nat.le_of_ble_eq_true rfl) (Nat.le_of_ble_eq_true rfl) dX8_mould_77 (fun o_44 cy_43 H_45 hK hP hD hS => ?_)
  have hP : va_P G vwCl ([(h0, .inr (12, [.ref a1, .ref a2, .ref a3, .ref a4, .ref a5, .ref a6, .ref a7, .ref a8, .int tol, .int sal])), (a1, .inr (3, [.int c0, .ref z, .int 0])), (o_41, .inr (8, [.int 0, .int 0, .null, .null, .null, .null, .int 0, .int 0, .int 0, .int 0, .null])), (o_44, .inl (cy_43, 4, .inl (fun _ => 0)))]) H_45 := hP
  have hD : va_D A ([(h0, .inr (12, [.ref a1, .ref a2, .ref a3, .ref a4, .ref a5, .ref a6, .ref a7, .ref a8, .int tol, .int sal])), (a1, .inr (3, [.int c0, .ref z, .int 0])), (o_41, .inr (8, [.int 0, .int 0, .null, .null, .null, .null, .int 0, .int 0, .int 0, .int 0, .null])), (o_44, .inl (cy_43, 4, .inl (fun _ => 0)))]) := hD
  have hK : va_K G vwCl [(cy_43, .int)] s := hK
  refine W.widen (k := 9) (n := 57) (Nat.le_of_ble_eq_true rfl) (Nat.le_of_ble_eq_true rfl) ?_
  refine lv_dup hx hb dX8_mould_79 rfl ?_
  refine lv_iconst (v := 0) hx hb dX8_mould_80 (by decide) ?_
  refine lv_iload_n hx hb dX8_mould_81 rfl (lv_at hl 3 rfl) ?_
  refine va_iast hx hb hK hP hD hS 3 0 rfl rfl (by unfold vp_in; decide +kernel) dX8_mould_82 (fun H_46 locs hP hD hS => ?_)
  have hP : va_P G vwCl ([(h0, .inr (12, [.ref a1, .ref a2, .ref a3, .ref a4, .ref a5, .ref a6, .ref a7, .ref a8, .int tol, .int sal])), (a1, .inr (3, [.int c0, .ref z, .int 0])), (o_41, .inr (8, [.int 0, .int 0, .null, .null, .null, .null, .int 0, .int 0, .int 0, .int 0, .null])), (o_44, .inl (cy_43, 4, .inl (upd (fun _ => 0) (0 : Int32).toNatClampNeg (p2))))]) H_46 := hP
  have hD : va_D A ([(h0, .inr (12, [.ref a1, .ref a2, .ref a3, .ref a4, .ref a5, .ref a6, .ref a7, .ref a8, .int tol, .int sal])), (a1, .inr (3, [.int c0, .ref z, .int 0])), (o_41, .inr (8, [.int 0, .int 0, .null, .null, .null, .null, .int 0, .int 0, .int 0, .int 0, .null])), (o_44, .inl (cy_43, 4, .inl (upd (fun _ => 0) (0 : Int32).toNatClampNeg (p2))))]) := hD
  refine lv_dup hx hb dX8_mould_83 rfl ?_
  refine lv_iconst (v := 1) hx hb dX8_mould_84 (by decide) ?_
  refine lv_iload hx hb dX8_mould_85 (lv_at hl 4 rfl) ?_
  refine va_iast hx hb hK hP hD hS 3 0 rfl rfl (by unfold vp_in; decide +kernel) dX8_mould_87 (fun H_47 locs hP hD hS => ?_)
  have hP : va_P G vwCl ([(h0, .inr (12, [.ref a1, .ref a2, .ref a3, .ref a4, .ref a5, .ref a6, .ref a7, .ref a8, .int tol, .int sal])), (a1, .inr (3, [.int c0, .ref z, .int 0])), (o_41, .inr (8, [.int 0, .int 0, .null, .null, .null, .null, .int 0, .int 0, .int 0, .int 0, .null])), (o_44, .inl (cy_43, 4, .inl (upd (upd (fun _ => 0) (0 : Int32).toNatClampNeg (p2)) (1 : Int32).toNatClampNeg (p3))))]) H_47 := hP
  have hD : va_D A ([(h0, .inr (12, [.ref a1, .ref a2, .ref a3, .ref a4, .ref a5, .ref a6, .ref a7, .ref a8, .int tol, .int sal])), (a1, .inr (3, [.int c0, .ref z, .int 0])), (o_41, .inr (8, [.int 0, .int 0, .null, .null, .null, .null, .int 0, .int 0, .int 0, .int 0, .null])), (o_44, .inl (cy_43, 4, .inl (upd (upd (fun _ => 0) (0 : Int32).toNatClampNeg (p2)) (1 : Int32).toNatClampNeg (p3))))]) := hD
  refine lv_dup hx hb dX8_mould_88 rfl ?_
  refine lv_iconst (v := 2) hx hb dX8_mould_89 (by decide) ?_
  refine lv_iload hx hb dX8_mould_90 (lv_at hl 5 rfl) ?_
  refine va_iast hx hb hK hP hD hS 3 0 rfl rfl (by unfold vp_in; decide +kernel) dX8_mould_92 (fun H_48 locs hP hD hS => ?_)
  have hP : va_P G vwCl ([(h0, .inr (12, [.ref a1, .ref a2, .ref a3, .ref a4, .ref a5, .ref a6, .ref a7, .ref a8, .int tol, .int sal])), (a1, .inr (3, [.int c0, .ref z, .int 0])), (o_41, .inr (8, [.int 0, .int 0, .null, .null, .null, .null, .int 0, .int 0, .int 0, .int 0, .null])), (o_44, .inl (cy_43, 4, .inl (upd (upd (upd (fun _ => 0) (0 : Int32).toNatClampNeg (p2)) (1 : Int32).toNatClampNeg (p3)) (2 : Int32).toNatClampNeg (p4))))]) H_48 := hP
  have hD : va_D A ([(h0, .inr (12, [.ref a1, .ref a2, .ref a3, .ref a4, .ref a5, .ref a6, .ref a7, .ref a8, .int tol, .int sal])), (a1, .inr (3, [.int c0, .ref z, .int 0])), (o_41, .inr (8, [.int 0, .int 0, .null, .null, .null, .null, .int 0, .int 0, .int 0, .int 0, .null])), (o_44, .inl (cy_43, 4, .inl (upd (upd (upd (fun _ => 0) (0 : Int32).toNatClampNeg (p2)) (1 : Int32).toNatClampNeg (p3)) (2 : Int32).toNatClampNeg (p4))))]) := hD
  refine lv_dup hx hb dX8_mould_93 rfl ?_
  refine lv_iconst (v := 3) hx hb dX8_mould_94 (by decide) ?_
  refine lv_iload hx hb dX8_mould_95 (lv_at hl 6 rfl) ?_
  refine va_iast hx hb hK hP hD hS 3 0 rfl rfl (by unfold vp_in; decide +kernel) dX8_mould_97 (fun H_49 locs hP hD hS => ?_)
  have hP : va_P G vwCl ([(h0, .inr (12, [.ref a1, .ref a2, .ref a3, .ref a4, .ref a5, .ref a6, .ref a7, .ref a8, .int tol, .int sal])), (a1, .inr (3, [.int c0, .ref z, .int 0])), (o_41, .inr (8, [.int 0, .int 0, .null, .null, .null, .null, .int 0, .int 0, .int 0, .int 0, .null])), (o_44, .inl (cy_43, 4, .inl (upd (upd (upd (upd (fun _ => 0) (0 : Int32).toNatClampNeg (p2)) (1 : Int32).toNatClampNeg (p3)) (2 : Int32).toNatClampNeg (p4)) (3 : Int32).toNatClampNeg (p5))))]) H_49 := hP
  have hD : va_D A ([(h0, .inr (12, [.ref a1, .ref a2, .ref a3, .ref a4, .ref a5, .ref a6, .ref a7, .ref a8, .int tol, .int sal])), (a1, .inr (3, [.int c0, .ref z, .int 0])), (o_41, .inr (8, [.int 0, .int 0, .null, .null, .null, .null, .int 0, .int 0, .int 0, .int 0, .null])), (o_44, .inl (cy_43, 4, .inl (upd (upd (upd (upd (fun _ => 0) (0 : Int32).toNatClampNeg (p2)) (1 : Int32).toNatClampNeg (p3)) (2 : Int32).toNatClampNeg (p4)) (3 : Int32).toNatClampNeg (p5))))]) := hD
  have hPc := hP.sub (ws' := [(o_41, .inr (8, [.int 0, .int 0, .null, .null, .null, .null, .int 0, .int 0, .int 0, .int 0, .null]))]) [2] rfl
  have hKc := hK.sub (tys' := []) [] rfl
  have hDc := hD.sub (ws' := [(o_41, .inr (8, [.int 0, .int 0, .null, .null, .null, .null, .int 0, .int 0, .int 0, .int 0, .null]))]) [2] (by decide) rfl
  have hFc := va_free (wc := [(o_41, .inr (8, [.int 0, .int 0, .null, .null, .null, .null, .int 0, .int 0, .int 0, .int 0, .null]))]) hD hS hA [2] rfl
  refine va_callv (va_runI (As := [.int p0, .int p1, .ref o_44]) (rest := [.ref o_41, .ref a1]) ⟨hx, hb, hml, hown, hts⟩ (k_X4_init l G z o_41 p0 p1 o_44 H_49.size ) (cwI 3 hts (lw_goodAll q405) rfl rfl rfl (hg _ q13) (hg _ q403) (hg _ q404) rfl (by decide +kernel) ⟨Nat.le_of_ble_eq_true rfl, Nat.le_of_ble_eq_true rfl⟩) ⟨PW.blind, PW.of hPc hKc hDc hG hS hFc [.ref o_41, .int p0, .int p1, .ref o_44]⟩ rfl rfl hl.1 rfl (lv_room (Nat.le_of_ble_eq_true rfl)) dX8_mould_98 ⟨Nat.le_of_ble_eq_true rfl, Nat.le_of_ble_eq_true rfl⟩) hS (fun q _ h => hFc q h) hFc (fun u t_53 H_50 locs ht hvm hw_52 hB hz1 hk1 hS => ?_)
  obtain ⟨fsx_54, hB⟩ := hB
  obtain ⟨hP, hD, hK⟩ := QW.join (wr := [(h0, .inr (12, [.ref a1, .ref a2, .ref a3, .ref a4, .ref a5, .ref a6, .ref a7, .ref a8, .int tol, .int sal])), (a1, .inr (3, [.int c0, .ref z, .int 0])), (o_44, .inl (cy_43, 4, .inl (upd (upd (upd (upd (fun _ => 0) (0 : Int32).toNatClampNeg (p2)) (1 : Int32).toNatClampNeg (p3)) (2 : Int32).toNatClampNeg (p4)) (3 : Int32).toNatClampNeg (p5))))]) (w1 := [(o_41, .inr (8, fsx_54))]) hP hD hK [2] [0, 1, 3] rfl rfl (by decide) (by decide) hk1 hFc ht hvm hB
  have hP : va_P G vwCl ([(h0, .inr (12, [.ref a1, .ref a2, .ref a3, .ref a4, .ref a5, .ref a6, .ref a7, .ref a8, .int tol, .int sal])), (a1, .inr (3, [.int c0, .ref z, .int 0])), (o_44, .inl (cy_43, 4, .inl (upd (upd (upd (upd (fun _ => 0) (0 : Int32).toNatClampNeg (p2)) (1 : Int32).toNatClampNeg (p3)) (2 : Int32).toNatClampNeg (p4)) (3 : Int32).toNatClampNeg (p5)))), (o_41, .inr (8, fsx_54))]) H_50 := hP
  have hD : va_D A ([(h0, .inr (12, [.ref a1, .ref a2, .ref a3, .ref a4, .ref a5, .ref a6, .ref a7, .ref a8, .int tol, .int sal])), (a1, .inr (3, [.int c0, .ref z, .int 0])), (o_44, .inl (cy_43, 4, .inl (upd (upd (upd (upd (fun _ => 0) (0 : Int32).toNatClampNeg (p2)) (1 : Int32).toNatClampNeg (p3)) (2 : Int32).toNatClampNeg (p4)) (3 : Int32).toNatClampNeg (p5)))), (o_41, .inr (8, fsx_54))]) := hD
  have hK : va_K G vwCl [(cy_43, .int)] s := hK
  refine W.widen (k := 12) (n := 105) (Nat.le_of_ble_eq_true rfl) (Nat.le_of_ble_eq_true rfl) ?_
  have hPc := hP.sub (ws' := [(a1, .inr (3, [.int c0, .ref z, .int 0])), (o_41, .inr (8, fsx_54))]) [1, 3] rfl
  have hKc := hK.sub (tys' := []) [] rfl
  have hDc := hD.sub (ws' := [(a1, .inr (3, [.int c0, .ref z, .int 0])), (o_41, .inr (8, fsx_54))]) [1, 3] (by decide) rfl
  have hFc := va_free (wc := [(a1, .inr (3, [.int c0, .ref z, .int 0])), (o_41, .inr (8, fsx_54))]) hD hS hA [1, 3] rfl
  refine va_calli (va_runV (As := [.ref o_41]) (rest := []) ⟨hx, hb, hml, hown, hts⟩ (k_Jx4a65c_add_9ea2d l G z a1 c0 o_41 8 ((RX4, TX4, 11)) fsx_54 H_50.size rfl qf1752) (cwV 1 hts (lw_goodApp (lw_4 q448 q449 q450 q4) q451) rfl rfl rfl (by decide +kernel) ⟨Nat.le_of_ble_eq_true rfl, Nat.le_of_ble_eq_true rfl⟩) ⟨PW.blind, va_recv hK hP (ci := 3) (q0 := 1) rfl rfl, PW.of hPc hKc hDc hG hS hFc [.ref a1, .ref o_41]⟩ rfl rfl hl.1 rfl (lv_room (Nat.le_of_ble_eq_true rfl)) dX8_mould_101 ⟨Nat.le_of_ble_eq_true rfl, Nat.le_of_ble_eq_true rfl⟩) hS (fun q _ h => hFc q h) hFc (fun r_56 u t_58 H_55 locs ht hvm hw_57 hB hz1 hk1 hS => ?_)
  obtain ⟨c1_59, qa_60, hB⟩ := hB
  obtain ⟨hP, hD, hK⟩ := QW.join (wr := [(h0, .inr (12, [.ref a1, .ref a2, .ref a3, .ref a4, .ref a5, .ref a6, .ref a7, .ref a8, .int tol, .int sal])), (o_44, .inl (cy_43, 4, .inl (upd (upd (upd (upd (fun _ => 0) (0 : Int32).toNatClampNeg (p2)) (1 : Int32).toNatClampNeg (p3)) (2 : Int32).toNatClampNeg (p4)) (3 : Int32).toNatClampNeg (p5))))]) (w1 := [(a1, .inr (3, [.int c1_59, .ref qa_60, .int 1])), (o_41, .inr (8, fsx_54))]) hP hD hK [1, 3] [0, 2] rfl rfl (by decide) (by decide) hk1 hFc ht hvm hB
  have hP : va_P G vwCl ([(h0, .inr (12, [.ref a1, .ref a2, .ref a3, .ref a4, .ref a5, .ref a6, .ref a7, .ref a8, .int tol, .int sal])), (o_44, .inl (cy_43, 4, .inl (upd (upd (upd (upd (fun _ => 0) (0 : Int32).toNatClampNeg (p2)) (1 : Int32).toNatClampNeg (p3)) (2 : Int32).toNatClampNeg (p4)) (3 : Int32).toNatClampNeg (p5)))), (a1, .inr (3, [.int c1_59, .ref qa_60, .int 1])), (o_41, .inr (8, fsx_54))]) H_55 := hP
  have hD : va_D A ([(h0, .inr (12, [.ref a1, .ref a2, .ref a3, .ref a4, .ref a5, .ref a6, .ref a7, .ref a8, .int tol, .int sal])), (o_44, .inl (cy_43, 4, .inl (upd (upd (upd (upd (fun _ => 0) (0 : Int32).toNatClampNeg (p2)) (1 : Int32).toNatClampNeg (p3)) (2 : Int32).toNatClampNeg (p4)) (3 : Int32).toNatClampNeg (p5)))), (a1, .inr (3, [.int c1_59, .ref qa_60, .int 1])), (o_41, .inr (8, fsx_54))]) := hD
  have hK : va_K G vwCl [(cy_43, .int)] s := hK
  refine W.widen (k := 13) (n := 115) (Nat.le_of_ble_eq_true rfl) (Nat.le_of_ble_eq_true rfl) ?_
  obtain rfl : 1 = r_56 := hw_57.symm
  refine lv_pop hx hb dX8_mould_104 rfl ?_
  refine lv_aload_n hx hb dX8_mould_105 rfl (lv_at hl 0 rfl) ?_
  refine va_get (D := G) (ci := 12) (v := .ref a1) (C := RX8) (T := TX8) (N := 10) hx hb hg in_X8 hown hK hP 0 rfl rfl 0 (by decide) (hg _ q125) (fun _ h9 => h9) rfl dX8_mould_106 ?_
  have hPc := hP.sub (ws' := [(a1, .inr (3, [.int c1_59, .ref qa_60, .int 1]))]) [2] rfl
  have hKc := hK.sub (tys' := []) [] rfl
  refine va_calli (va_runV (As := []) (rest := []) ⟨hx, hb, hml, hown, hts⟩ (k_Jx4a65c_size_8abf5 l G z a1 c1_59 qa_60 1 H_55.size ) (cwV 0 hts (lw_goodApp (lw_4 q160 q161 q162 q4) q163) rfl rfl rfl (by decide +kernel) ⟨Nat.le_of_ble_eq_true rfl, Nat.le_of_ble_eq_true rfl⟩) ⟨PR.blind, va_recv hK hP (ci := 3) (q0 := 2) rfl rfl, PR.of hPc hKc hG hS hA [.ref a1]⟩ rfl rfl hl.1 rfl (lv_room (Nat.le_of_ble_eq_true rfl)) dX8_mould_109 ⟨Nat.le_of_ble_eq_true rfl, Nat.le_of_ble_eq_true rfl⟩) hS (fun q h9 h => zN.not h9 h) (fun q h => hA q (Nat.le_trans hS.1 h)) (fun r_62 u t_64 H_61 locs ht hvm hw_63 hB hz1 hk1 hS => ?_)
  have hP := hP.grown hk1
  refine W.widen (k := 13) (n := 115) (Nat.le_of_ble_eq_true rfl) (Nat.le_of_ble_eq_true rfl) ?_
  obtain rfl : 1 = r_62 := hw_63.symm
  refine lv_iconst (v := 1) hx hb dX8_mould_112 (by decide) ?_
  refine lv_isub hx hb dX8_mould_113 ?_
  refine lv_topi (fun f_65 ef_65 => ?_)
  obtain rfl : f_65 = 0 := ef_65.trans (by decide)
  refine W.widen (k := 13) (n := 115) (Nat.le_of_ble_eq_true rfl) (Nat.le_of_ble_eq_true rfl) ?_
  refine vx_ret ?_
  have hP9 := hP.sub (ws' := []) [] rfl
  have hD9 := hD.sub (ws' := []) [] (by decide) rfl
  have hK9 := hK.sub (tys' := []) [] rfl
  exact W.iret (v := 0) hx hb hr (fun t ht hW => ⟨⟨0, (), rfl, ⟨rfl, hw_3, hw_8, hw_13, hw_18, hw_23, hw_28⟩, QW.of hP9 hK9 hD9 ht hW.alike⟩, hS.F ht⟩) hS.2.2 dX8_mould_114

abbrev wz_X8_ream : List Cond := .code yX8_ream cX8_ream 2 (Option.some Jvm.ClassFile.FieldType.int) :: lw_good
set_option maxHeartbeats 4000000 in
set_option maxRecDepth 100000 in
/-- ream: the first one -/
theorem k_X8_ream (l : Launch) (hfl : l.stackTraces = false) (G : va_G) (z : Nat) (h0 : Nat) (a1 : Nat) (a2 : Nat) (a3 : Nat) (a4 : Nat) (a5 : Nat) (a6 : Nat) (a7 : Nat) (a8 : Nat) (tol : Int32) (sal : Int32) (c0 : Int32) (p0 : Int32) (sz : Nat)  : vx_Met l yX8_ream wz_X8_ream ({ frames := 7, cells := 5, slots := 1025, locals := 104 }) (va_Pc [.ref h0, .int p0] (PW G z [(h0, .inr (12, [.ref a1, .ref a2, .ref a3, .ref a4, .ref a5, .ref a6, .ref a7, .ref a8, .int tol, .int sal])), (a3, .inr (3, [.int c0, .ref z, .int 0]))] [] sz)) (va_Qi (fun (r : Int32) (_ : Unit) => r = 0 ∧ okR p0) (fun (_ : Unit) (t : State) => QW G [] [] (va_A [(h0, .inr (12, [.ref a1, .ref a2, .ref a3, .ref a4, .ref a5, .ref a6, .ref a7, .ref a8, .int tol, .int sal])), (a3, .inr (3, [.int c0, .ref z, .int 0]))] sz) t) (va_A [(h0, .inr (12, [.ref a1, .ref a2, .ref a3, .ref a4, .ref a5, .ref a6, .ref a7, .ref a8, .int tol, .int sal])), (a3, .inr (3, [.int c0, .ref z, .int 0]))] sz)) (zX (¬ okR p0) "java/lang/IllegalArgumentException" (va_A [(h0, .inr (12, [.ref a1, .ref a2, .ref a3, .ref a4, .ref a5, .ref a6, .ref a7, .ref a8, .int tol, .int sal])), (a3, .inr (3, [.int c0, .ref z, .int 0]))] sz)) 5 1025 (va_A [(h0, .inr (12, [.ref a1, .ref a2, .ref a3, .ref a4, .ref a5, .ref a6, .ref a7, .ref a8, .int tol, .int sal])), (a3, .inr (3, [.int c0, .ref z, .int 0]))] sz) := by
  refine vx_ofW (cc := cX8_ream) (maxL := 2) (ret := (Option.some Jvm.ClassFile.FieldType.int)) (by decide) rfl ?_
  intro p e s m args below meth c s₁ B hml htab hv
  obtain ⟨rfl, rfl, hP, hK, hD0, hG⟩ := hv
  have hx := B.exec
  have hb := B.bytes
  have hr := B.returns
  have hts := atoms_spec (ws := wz_X8_ream) B.pre
  have hg : ∀ w ∈ lw_good, w.before _ s = true := fun w h => hts w (List.mem_cons_of_mem _ h)
  have hown : s.vm.findClass RX8 = some m.cls := findClass_of_methodNamed B.named
  have hlocks := B.notSynchronized
  have hD := hD0.self (sz := s.heap.size)
  generalize hAe : va_A [(h0, .inr (12, [.ref a1, .ref a2, .ref a3, .ref a4, .ref a5, .ref a6, .ref a7, .ref a8, .int tol, .int sal])), (a3, .inr (3, [.int c0, .ref z, .int 0]))] s.heap.size = A at hD hG ⊢
  have hA : ∀ q : Nat, s.heap.size ≤ q → A q := fun q h => by rw [← hAe]; exact Or.inr h
  have hS : va_S A s.heap s.heap [] := va_S.rf
  have hl := lv_entry ([.ref h0, .int p0]) (n := 2) (Nat.le_of_ble_eq_true rfl)
  rw [lg_entry_eq]
  generalize (lg_sl ([.ref h0, .int p0]) ++ List.replicate (2 - (lg_sl ([.ref h0, .int p0])).length) Slot.unset).toArray = ls at hl ⊢
  have hl : lv_has ls 2 [(0, .ref h0), (1, .int p0)] := hl
  refine lv_iload_n hx hb dX8_ream_0 rfl (lv_at hl 1 rfl) ?_
  refine lv_iconst (v := 0) hx hb dX8_ream_1 (by decide) ?_
  refine lv_iconst (v := 4) hx hb dX8_ream_2 (by decide) ?_
  have hPc := hP.sub (ws' := []) [] rfl
  have hKc := hK.sub (tys' := []) [] rfl
  refine vx_callv (vx_runS (As := [.int p0, .int 0, .int 4]) (rest := []) ⟨hx, hb, hml, hown, hts⟩ (k_X8_checkRange l hfl G z p0 0 4 s.heap.size ) (va_cwS 3 hts (lw_goodApp (lw_3 q308 q309 q1) q310) rfl rfl rfl (by decide +kernel) ⟨Nat.le_of_ble_eq_true rfl, Nat.le_of_ble_eq_true rfl⟩) ⟨PR.blind, PR.of hPc hKc hG hS hA [.int p0, .int 0, .int 4]⟩ rfl rfl hl.1 rfl (lv_room (Nat.le_of_ble_eq_true rfl)) dX8_ream_3 ⟨Nat.le_of_ble_eq_true rfl, Nat.le_of_ble_eq_true rfl⟩) hS (fun q h9 h => zN.not h9 h) (fun q h => hA q (Nat.le_trans hS.1 h)) (fun q h9 h => zN.not h9 h) (fun E ce q9 ux t_4 H_1 locs ht hvm px_5 hE hz1 hk1 hS hq9 hv9 hcl9 => ?_) (fun u t_4 H_1 locs ht hvm hw_3 hB hz1 hk1 hS => ?_)
  · exact vx_out (fun x9 h9 => (htab x9 h9).elim) hlocks hq9 hv9 hcl9 (fun t2 ht2 hal2 => zX.same px_5 hE hS ht2) hS.2.2 (Nat.le_of_ble_eq_true rfl) (Nat.le_of_ble_eq_true rfl)
  have hP := hP.grown hk1
  refine W.widen (k := 1) (n := 6) (Nat.le_of_ble_eq_true rfl) (Nat.le_of_ble_eq_true rfl) ?_
  refine lv_aload_n hx hb dX8_ream_6 rfl (lv_at hl 0 rfl) ?_
  refine va_get (D := G) (ci := 12) (v := .ref a3) (C := RX8) (T := TX8) (N := 10) hx hb hg in_X8 hown hK hP 0 rfl rfl 2 (by decide) (hg _ q127) (fun _ h9 => h9) rfl dX8_ream_7 ?_
  have hPc := hP.sub (ws' := [(a3, .inr (3, [.int c0, .ref z, .int 0]))]) [1] rfl
  have hKc := hK.sub (tys' := []) [] rfl
  refine va_calli (va_runV (As := []) (rest := []) ⟨hx, hb, hml, hown, hts⟩ (k_Jx4a65c_size_8abf5 l G z a3 c0 z 0 H_1.size ) (cwV 0 hts (lw_goodApp (lw_4 q160 q161 q162 q4) q163) rfl rfl rfl (by decide +kernel) ⟨Nat.le_of_ble_eq_true rfl, Nat.le_of_ble_eq_true rfl⟩) ⟨PR.blind, va_recv hK hP (ci := 3) (q0 := 1) rfl rfl, PR.of hPc hKc hG hS hA [.ref a3]⟩ rfl rfl hl.1 rfl (lv_room (Nat.le_of_ble_eq_true rfl)) dX8_ream_10 ⟨Nat.le_of_ble_eq_true rfl, Nat.le_of_ble_eq_true rfl⟩) hS (fun q h9 h => zN.not h9 h) (fun q h => hA q (Nat.le_trans hS.1 h)) (fun r_7 u t_9 H_6 locs ht hvm hw_8 hB hz1 hk1 hS => ?_)
  have hP := hP.grown hk1
  refine W.widen (k := 1) (n := 6) (Nat.le_of_ble_eq_true rfl) (Nat.le_of_ble_eq_true rfl) ?_
  obtain rfl : 0 = r_7 := hw_8.symm
  refine lv_iconst (v := 1) hx hb dX8_ream_13 (by decide) ?_
  refine lv_iadd hx hb dX8_ream_14 ?_
  refine lv_topi (fun f_10 ef_10 => ?_)
  obtain rfl : f_10 = 1 := ef_10.trans (by decide)
  refine lv_bipush (v := 20) hx hb dX8_ream_15 (by decide) ?_
  have hPc := hP.sub (ws' := []) [] rfl
  have hKc := hK.sub (tys' := []) [] rfl
  refine vx_callv (vx_runS (As := [.int 1, .int 20]) (rest := []) ⟨hx, hb, hml, hown, hts⟩ (k_X8_checkRoom l hfl G z 1 20 H_6.size ) (va_cwS 2 hts (lw_goodApp (lw_3 q383 q384 q1) q385) rfl rfl rfl (by decide +kernel) ⟨Nat.le_of_ble_eq_true rfl, Nat.le_of_ble_eq_true rfl⟩) ⟨PR.blind, PR.of hPc hKc hG hS hA [.int 1, .int 20]⟩ rfl rfl hl.1 rfl (lv_room (Nat.le_of_ble_eq_true rfl)) dX8_ream_17 ⟨Nat.le_of_ble_eq_true rfl, Nat.le_of_ble_eq_true rfl⟩) hS (fun q h9 h => zN.not h9 h) (fun q h => hA q (Nat.le_trans hS.1 h)) (fun q h9 h => zN.not h9 h) (fun E ce q9 ux t_14 H_11 locs ht hvm px_15 hE hz1 hk1 hS hq9 hv9 hcl9 => ?_) (fun u t_14 H_11 locs ht hvm hw_13 hB hz1 hk1 hS => ?_)
  · exact absurd (by decide) px_15
  have hP := hP.grown hk1
  refine W.widen (k := 2) (n := 12) (Nat.le_of_ble_eq_true rfl) (Nat.le_of_ble_eq_true rfl) ?_
  refine lv_aload_n hx hb dX8_ream_20 rfl (lv_at hl 0 rfl) ?_
  refine va_get (D := G) (ci := 12) (v := .ref a3) (C := RX8) (T := TX8) (N := 10) hx hb hg in_X8 hown hK hP 0 rfl rfl 2 (by decide) (hg _ q127) (fun _ h9 => h9) rfl dX8_ream_21 ?_
  refine va_new (ci := 9) (fs := [.int 0, .null, .int 0]) (C := RX5) (T := TX5) (N := 3) hx hb hg in_X5 tyX5 tyX5_ok hown (hg _ q264) (hg _ q737) (hg _ q30) hK hP hD hS hA rfl (fun j hj => by rcases (show j = 0 ∨ j = 1 ∨ j = 2 by omega) with rfl | rfl | rfl <;> rfl) (Nat.le_of_ble_eq_true rfl) (Nat.le_of_ble_eq_true rfl) dX8_ream_24 (fun o_16 H_17 hP hD hS => ?_)
  have hP : va_P G vwCl ([(h0, .inr (12, [.ref a1, .ref a2, .ref a3, .ref a4, .ref a5, .ref a6, .ref a7, .ref a8, .int tol, .int sal])), (a3, .inr (3, [.int c0, .ref z, .int 0])), (o_16, .inr (9, [.int 0, .null, .int 0]))]) H_17 := hP
  have hD : va_D A ([(h0, .inr (12, [.ref a1, .ref a2, .ref a3, .ref a4, .ref a5, .ref a6, .ref a7, .ref a8, .int tol, .int sal])), (a3, .inr (3, [.int c0, .ref z, .int 0])), (o_16, .inr (9, [.int 0, .null, .int 0]))]) := hD
  refine W.widen (k := 3) (n := 15) (Nat.le_of_ble_eq_true rfl) (Nat.le_of_ble_eq_true rfl) ?_
  refine lv_dup hx hb dX8_ream_27 rfl ?_
  refine lv_iload_n hx hb dX8_ream_28 rfl (lv_at hl 1 rfl) ?_
  have hPc := hP.sub (ws' := [(o_16, .inr (9, [.int 0, .null, .int 0]))]) [2] rfl
  have hKc := hK.sub (tys' := []) [] rfl
  have hDc := hD.sub (ws' := [(o_16, .inr (9, [.int 0, .null, .int 0]))]) [2] (by decide) rfl
  have hFc := va_free (wc := [(o_16, .inr (9, [.int 0, .null, .int 0]))]) hD hS hA [2] rfl
  refine va_callv (va_runI (As := [.int p0]) (rest := [.ref o_16, .ref a3]) ⟨hx, hb, hml, hown, hts⟩ (k_X5_init l G z o_16 p0 H_17.size ) (cwI 1 hts (lw_goodAll q740) rfl rfl rfl (hg _ q30) (hg _ q738) (hg _ q739) rfl (by decide +kernel) ⟨Nat.le_of_ble_eq_true rfl, Nat.le_of_ble_eq_true rfl⟩) ⟨PW.blind, PW.of hPc hKc hDc hG hS hFc [.ref o_16, .int p0]⟩ rfl rfl hl.1 rfl (lv_room (Nat.le_of_ble_eq_true rfl)) dX8_ream_29 ⟨Nat.le_of_ble_eq_true rfl, Nat.le_of_ble_eq_true rfl⟩) hS (fun q _ h => hFc q h) hFc (fun u t_21 H_18 locs ht hvm hw_20 hB hz1 hk1 hS => ?_)
  obtain ⟨fsx_22, hB⟩ := hB
  obtain ⟨hP, hD, hK⟩ := QW.join (wr := [(h0, .inr (12, [.ref a1, .ref a2, .ref a3, .ref a4, .ref a5, .ref a6, .ref a7, .ref a8, .int tol, .int sal])), (a3, .inr (3, [.int c0, .ref z, .int 0]))]) (w1 := [(o_16, .inr (9, fsx_22))]) hP hD hK [2] [0, 1] rfl rfl (by decide) (by decide) hk1 hFc ht hvm hB
  have hP : va_P G vwCl ([(h0, .inr (12, [.ref a1, .ref a2, .ref a3, .ref a4, .ref a5, .ref a6, .ref a7, .ref a8, .int tol, .int sal])), (a3, .inr (3, [.int c0, .ref z, .int 0])), (o_16, .inr (9, fsx_22))]) H_18 := hP
  have hD : va_D A ([(h0, .inr (12, [.ref a1, .ref a2, .ref a3, .ref a4, .ref a5, .ref a6, .ref a7, .ref a8, .int tol, .int sal])), (a3, .inr (3, [.int c0, .ref z, .int 0])), (o_16, .inr (9, fsx_22))]) := hD
  have hK : va_K G vwCl [] s := hK
  refine W.widen (k := 4) (n := 1015) (Nat.le_of_ble_eq_true rfl) (Nat.le_of_ble_eq_true rfl) ?_
  have hPc := hP.sub (ws' := [(a3, .inr (3, [.int c0, .ref z, .int 0])), (o_16, .inr (9, fsx_22))]) [1, 2] rfl
  have hKc := hK.sub (tys' := []) [] rfl
  have hDc := hD.sub (ws' := [(a3, .inr (3, [.int c0, .ref z, .int 0])), (o_16, .inr (9, fsx_22))]) [1, 2] (by decide) rfl
  have hFc := va_free (wc := [(a3, .inr (3, [.int c0, .ref z, .int 0])), (o_16, .inr (9, fsx_22))]) hD hS hA [1, 2] rfl
  refine va_calli (va_runV (As := [.ref o_16]) (rest := []) ⟨hx, hb, hml, hown, hts⟩ (k_Jx4a65c_add_9ea2d l G z a3 c0 o_16 9 ((RX5, TX5, 3)) fsx_22 H_18.size rfl qf1761) (cwV 1 hts (lw_goodApp (lw_4 q448 q449 q450 q4) q451) rfl rfl rfl (by decide +kernel) ⟨Nat.le_of_ble_eq_true rfl, Nat.le_of_ble_eq_true rfl⟩) ⟨PW.blind, va_recv hK hP (ci := 3) (q0 := 1) rfl rfl, PW.of hPc hKc hDc hG hS hFc [.ref a3, .ref o_16]⟩ rfl rfl hl.1 rfl (lv_room (Nat.le_of_ble_eq_true rfl)) dX8_ream_32 ⟨Nat.le_of_ble_eq_true rfl, Nat.le_of_ble_eq_true rfl⟩) hS (fun q _ h => hFc q h) hFc (fun r_24 u t_26 H_23 locs ht hvm hw_25 hB hz1 hk1 hS => ?_)
  obtain ⟨c1_27, qa_28, hB⟩ := hB
  obtain ⟨hP, hD, hK⟩ := QW.join (wr := [(h0, .inr (12, [.ref a1, .ref a2, .ref a3, .ref a4, .ref a5, .ref a6, .ref a7, .ref a8, .int tol, .int sal]))]) (w1 := [(a3, .inr (3, [.int c1_27, .ref qa_28, .int 1])), (o_16, .inr (9, fsx_22))]) hP hD hK [1, 2] [0] rfl rfl (by decide) (by decide) hk1 hFc ht hvm hB
  have hP : va_P G vwCl ([(h0, .inr (12, [.ref a1, .ref a2, .ref a3, .ref a4, .ref a5, .ref a6, .ref a7, .ref a8, .int tol, .int sal])), (a3, .inr (3, [.int c1_27, .ref qa_28, .int 1])), (o_16, .inr (9, fsx_22))]) H_23 := hP
  have hD : va_D A ([(h0, .inr (12, [.ref a1, .ref a2, .ref a3, .ref a4, .ref a5, .ref a6, .ref a7, .ref a8, .int tol, .int sal])), (a3, .inr (3, [.int c1_27, .ref qa_28, .int 1])), (o_16, .inr (9, fsx_22))]) := hD
  have hK : va_K G vwCl [] s := hK
  refine W.widen (k := 5) (n := 1025) (Nat.le_of_ble_eq_true rfl) (Nat.le_of_ble_eq_true rfl) ?_
  obtain rfl : 1 = r_24 := hw_25.symm
  refine lv_pop hx hb dX8_ream_35 rfl ?_
  refine lv_aload_n hx hb dX8_ream_36 rfl (lv_at hl 0 rfl) ?_
  refine va_get (D := G) (ci := 12) (v := .ref a3) (C := RX8) (T := TX8) (N := 10) hx hb hg in_X8 hown hK hP 0 rfl rfl 2 (by decide) (hg _ q127) (fun _ h9 => h9) rfl dX8_ream_37 ?_
  have hPc := hP.sub (ws' := [(a3, .inr (3, [.int c1_27, .ref qa_28, .int 1]))]) [1] rfl
  have hKc := hK.sub (tys' := []) [] rfl
  refine va_calli (va_runV (As := []) (rest := []) ⟨hx, hb, hml, hown, hts⟩ (k_Jx4a65c_size_8abf5 l G z a3 c1_27 qa_28 1 H_23.size ) (cwV 0 hts (lw_goodApp (lw_4 q160 q161 q162 q4) q163) rfl rfl rfl (by decide +kernel) ⟨Nat.le_of_ble_eq_true rfl, Nat.le_of_ble_eq_true rfl⟩) ⟨PR.blind, va_recv hK hP (ci := 3) (q0 := 1) rfl rfl, PR.of hPc hKc hG hS hA [.ref a3]⟩ rfl rfl hl.1 rfl (lv_room (Nat.le_of_ble_eq_true rfl)) dX8_ream_40 ⟨Nat.le_of_ble_eq_true rfl, Nat.le_of_ble_eq_true rfl⟩) hS (fun q h9 h => zN.not h9 h) (fun q h => hA q (Nat.le_trans hS.1 h)) (fun r_30 u t_32 H_29 locs ht hvm hw_31 hB hz1 hk1 hS => ?_)
  have hP := hP.grown hk1
  refine W.widen (k := 5) (n := 1025) (Nat.le_of_ble_eq_true rfl) (Nat.le_of_ble_eq_true rfl) ?_
  obtain rfl : 1 = r_30 := hw_31.symm
  refine lv_iconst (v := 1) hx hb dX8_ream_43 (by decide) ?_
  refine lv_isub hx hb dX8_ream_44 ?_
  refine lv_topi (fun f_33 ef_33 => ?_)
  obtain rfl : f_33 = 0 := ef_33.trans (by decide)
  refine W.widen (k := 5) (n := 1025) (Nat.le_of_ble_eq_true rfl) (Nat.le_of_ble_eq_true rfl) ?_
  refine vx_ret ?_
  have hP9 := hP.sub (ws' := []) [] rfl
  have hD9 := hD.sub (ws' := []) [] (by decide) rfl
  have hK9 := hK.sub (tys' := []) [] rfl
  exact W.iret (v := 0) hx hb hr (fun t ht hW => ⟨⟨0, (), rfl, ⟨rfl, hw_3⟩, QW.of hP9 hK9 hD9 ht hW.alike⟩, hS.F ht⟩) hS.2.2 dX8_ream_45

theorem z_03 {x : Int32} (h1 : 0 ≤ x) (h2 : x ≤ 3) : x = 0 ∨ x = 1 ∨ x = 2 ∨ x = 3 := by
  have a := Int32.le_iff_toInt_le.mp h1
  have b := Int32.le_iff_toInt_le.mp h2
  have e0 : (0 : Int32).toInt = 0 := rfl
  have e3 : (3 : Int32).toInt = 3 := rfl
  rw [e0] at a
  rw [e3] at b
  have k : x.toInt = 0 ∨ x.toInt = 1 ∨ x.toInt = 2 ∨ x.toInt = 3 := by omega
  rcases k with k | k | k | k
  · exact Or.inl (Int32.toInt_inj.mp (k.trans rfl))
  · exact Or.inr (Or.inl (Int32.toInt_inj.mp (k.trans rfl)))
  · exact Or.inr (Or.inr (Or.inl (Int32.toInt_inj.mp (k.trans rfl))))
  · exact Or.inr (Or.inr (Or.inr (Int32.toInt_inj.mp (k.trans rfl))))
abbrev wz_X8_document : List Cond := .code yX8_document cX8_document 3 (Option.some Jvm.ClassFile.FieldType.int) :: lw_good
set_option maxHeartbeats 4000000 in
set_option maxRecDepth 100000 in
/-- document: the first one -/
theorem k_X8_document (l : Launch) (hfl : l.stackTraces = false) (G : va_G) (z : Nat) (h0 : Nat) (a1 : Nat) (a2 : Nat) (a3 : Nat) (a4 : Nat) (a5 : Nat) (a6 : Nat) (a7 : Nat) (a8 : Nat) (tol : Int32) (sal : Int32) (c0 : Int32) (d1 : Nat) (d2 : Nat) (d3 : Nat) (d4 : Nat) (ag : Int32) (cyO : ClassId) (fS : Nat → Option Nat) (cyI : ClassId) (fR : Nat → Int32) (r0 : Nat) (p0 : Int32) (p1 : Int32) (sz : Nat) (hfS : fS 0 = some r0) : vx_Met l yX8_document wz_X8_document ({ frames := 8, cells := 8, slots := 1035, locals := 124 }) (va_Pc [.ref h0, .int p0, .int p1] (PW G z [(h0, .inr (12, [.ref a1, .ref a2, .ref a3, .ref a4, .ref a5, .ref a6, .ref a7, .ref a8, .int tol, .int sal])), (a4, .inr (3, [.int c0, .ref z, .int 0])), (a7, .inr (4, [.ref d1, .ref d2, .ref d3, .ref d4, .int 0, .int ag])), (d4, .inl (cyO, 20, .inr (.inr (.inr (.inr (fS)))))), (r0, .inl (cyI, 20, .inl (fR)))] [(cyO, .array .int), (cyI, .int)] sz)) (va_Qi (fun (r : Int32) (_ : Unit) => r = 0 ∧ okD p0 p1) (fun (_ : Unit) (t : State) => QW G [] [] (va_A [(h0, .inr (12, [.ref a1, .ref a2, .ref a3, .ref a4, .ref a5, .ref a6, .ref a7, .ref a8, .int tol, .int sal])), (a4, .inr (3, [.int c0, .ref z, .int 0])), (a7, .inr (4, [.ref d1, .ref d2, .ref d3, .ref d4, .int 0, .int ag])), (d4, .inl (cyO, 20, .inr (.inr (.inr (.inr (fS)))))), (r0, .inl (cyI, 20, .inl (fR)))] sz) t) (va_A [(h0, .inr (12, [.ref a1, .ref a2, .ref a3, .ref a4, .ref a5, .ref a6, .ref a7, .ref a8, .int tol, .int sal])), (a4, .inr (3, [.int c0, .ref z, .int 0])), (a7, .inr (4, [.ref d1, .ref d2, .ref d3, .ref d4, .int 0, .int ag])), (d4, .inl (cyO, 20, .inr (.inr (.inr (.inr (fS)))))), (r0, .inl (cyI, 20, .inl (fR)))] sz)) (zX (¬ okD p0 p1) "java/lang/IllegalArgumentException" (va_A [(h0, .inr (12, [.ref a1, .ref a2, .ref a3, .ref a4, .ref a5, .ref a6, .ref a7, .ref a8, .int tol, .int sal])), (a4, .inr (3, [.int c0, .ref z, .int 0])), (a7, .inr (4, [.ref d1, .ref d2, .ref d3, .ref d4, .int 0, .int ag])), (d4, .inl (cyO, 20, .inr (.inr (.inr (.inr (fS)))))), (r0, .inl (cyI, 20, .inl (fR)))] sz)) 8 1035 (va_A [(h0, .inr (12, [.ref a1, .ref a2, .ref a3, .ref a4, .ref a5, .ref a6, .ref a7, .ref a8, .int tol, .int sal])), (a4, .inr (3, [.int c0, .ref z, .int 0])), (a7, .inr (4, [.ref d1, .ref d2, .ref d3, .ref d4, .int 0, .int ag])), (d4, .inl (cyO, 20, .inr (.inr (.inr (.inr (fS)))))), (r0, .inl (cyI, 20, .inl (fR)))] sz) := by
  refine vx_ofW (cc := cX8_document) (maxL := 3) (ret := (Option.some Jvm.ClassFile.FieldType.int)) (by decide) rfl ?_
  intro p e s m args below meth c s₁ B hml htab hv
  obtain ⟨rfl, rfl, hP, hK, hD0, hG⟩ := hv
  have hx := B.exec
  have hb := B.bytes
  have hr := B.returns
  have hts := atoms_spec (ws := wz_X8_document) B.pre
  have hg : ∀ w ∈ lw_good, w.before _ s = true := fun w h => hts w (List.mem_cons_of_mem _ h)
  have hown : s.vm.findClass RX8 = some m.cls := findClass_of_methodNamed B.named
  have hlocks := B.notSynchronized
  have hD := hD0.self (sz := s.heap.size)
  generalize hAe : va_A [(h0, .inr (12, [.ref a1, .ref a2, .ref a3, .ref a4, .ref a5, .ref a6, .ref a7, .ref a8, .int tol, .int sal])), (a4, .inr (3, [.int c0, .ref z, .int 0])), (a7, .inr (4, [.ref d1, .ref d2, .ref d3, .ref d4, .int 0, .int ag])), (d4, .inl (cyO, 20, .inr (.inr (.inr (.inr (fS)))))), (r0, .inl (cyI, 20, .inl (fR)))] s.heap.size = A at hD hG ⊢
  have hA : ∀ q : Nat, s.heap.size ≤ q → A q := fun q h => by rw [← hAe]; exact Or.inr h
  have hS : va_S A s.heap s.heap [] := va_S.rf
  have hl := lv_entry ([.ref h0, .int p0, .int p1]) (n := 3) (Nat.le_of_ble_eq_true rfl)
  rw [lg_entry_eq]
  generalize (lg_sl ([.ref h0, .int p0, .int p1]) ++ List.replicate (3 - (lg_sl ([.ref h0, .int p0, .int p1])).length) Slot.unset).toArray = ls at hl ⊢
  have hl : lv_has ls 3 [(0, .ref h0), (1, .int p0), (2, .int p1)] := hl
  refine lv_iload_n hx hb dX8_document_0 rfl (lv_at hl 1 rfl) ?_
  have hPc := hP.sub (ws' := []) [] rfl
  have hKc := hK.sub (tys' := []) [] rfl
  refine vx_callv (vx_runS (As := [.int p0]) (rest := []) ⟨hx, hb, hml, hown, hts⟩ (k_X8_checkYear l hfl G z p0 s.heap.size ) (va_cwS 1 hts (lw_goodApp (lw_3 q595 q596 q1) q597) rfl rfl rfl (by decide +kernel) ⟨Nat.le_of_ble_eq_true rfl, Nat.le_of_ble_eq_true rfl⟩) ⟨PR.blind, PR.of hPc hKc hG hS hA [.int p0]⟩ rfl rfl hl.1 rfl (lv_room (Nat.le_of_ble_eq_true rfl)) dX8_document_1 ⟨Nat.le_of_ble_eq_true rfl, Nat.le_of_ble_eq_true rfl⟩) hS (fun q h9 h => zN.not h9 h) (fun q h => hA q (Nat.le_trans hS.1 h)) (fun q h9 h => zN.not h9 h) (fun E ce q9 ux t_4 H_1 locs ht hvm px_5 hE hz1 hk1 hS hq9 hv9 hcl9 => ?_) (fun u t_4 H_1 locs ht hvm hw_3 hB hz1 hk1 hS => ?_)
  · exact vx_out (fun x9 h9 => (htab x9 h9).elim) hlocks hq9 hv9 hcl9 (fun t2 ht2 hal2 => zX.same (fun h9 => px_5 h9.1) hE hS ht2) hS.2.2 (Nat.le_of_ble_eq_true rfl) (Nat.le_of_ble_eq_true rfl)
  have hP := hP.grown hk1
  refine W.widen (k := 1) (n := 6) (Nat.le_of_ble_eq_true rfl) (Nat.le_of_ble_eq_true rfl) ?_
  refine lv_iload_n hx hb dX8_document_4 rfl (lv_at hl 2 rfl) ?_
  refine lv_iconst (v := 0) hx hb dX8_document_5 (by decide) ?_
  refine lv_iconst (v := 3) hx hb dX8_document_6 (by decide) ?_
  have hPc := hP.sub (ws' := []) [] rfl
  have hKc := hK.sub (tys' := []) [] rfl
  refine vx_callv (vx_runS (As := [.int p1, .int 0, .int 3]) (rest := []) ⟨hx, hb, hml, hown, hts⟩ (k_X8_checkRange l hfl G z p1 0 3 H_1.size ) (va_cwS 3 hts (lw_goodApp (lw_3 q308 q309 q1) q310) rfl rfl rfl (by decide +kernel) ⟨Nat.le_of_ble_eq_true rfl, Nat.le_of_ble_eq_true rfl⟩) ⟨PR.blind, PR.of hPc hKc hG hS hA [.int p1, .int 0, .int 3]⟩ rfl rfl hl.1 rfl (lv_room (Nat.le_of_ble_eq_true rfl)) dX8_document_7 ⟨Nat.le_of_ble_eq_true rfl, Nat.le_of_ble_eq_true rfl⟩) hS (fun q h9 h => zN.not h9 h) (fun q h => hA q (Nat.le_trans hS.1 h)) (fun q h9 h => zN.not h9 h) (fun E ce q9 ux t_9 H_6 locs ht hvm px_10 hE hz1 hk1 hS hq9 hv9 hcl9 => ?_) (fun u t_9 H_6 locs ht hvm hw_8 hB hz1 hk1 hS => ?_)
  · exact vx_out (fun x9 h9 => (htab x9 h9).elim) hlocks hq9 hv9 hcl9 (fun t2 ht2 hal2 => zX.same (fun h9 => px_10 h9.2) hE hS ht2) hS.2.2 (Nat.le_of_ble_eq_true rfl) (Nat.le_of_ble_eq_true rfl)
  have hP := hP.grown hk1
  refine W.widen (k := 2) (n := 12) (Nat.le_of_ble_eq_true rfl) (Nat.le_of_ble_eq_true rfl) ?_
  refine lv_aload_n hx hb dX8_document_10 rfl (lv_at hl 0 rfl) ?_
  refine va_get (D := G) (ci := 12) (v := .ref a4) (C := RX8) (T := TX8) (N := 10) hx hb hg in_X8 hown hK hP 0 rfl rfl 3 (by decide) (hg _ q128) (fun _ h9 => h9) rfl dX8_document_11 ?_
  have hPc := hP.sub (ws' := [(a4, .inr (3, [.int c0, .ref z, .int 0]))]) [1] rfl
  have hKc := hK.sub (tys' := []) [] rfl
  refine va_calli (va_runV (As := []) (rest := []) ⟨hx, hb, hml, hown, hts⟩ (k_Jx4a65c_size_8abf5 l G z a4 c0 z 0 H_6.size ) (cwV 0 hts (lw_goodApp (lw_4 q160 q161 q162 q4) q163) rfl rfl rfl (by decide +kernel) ⟨Nat.le_of_ble_eq_true rfl, Nat.le_of_ble_eq_true rfl⟩) ⟨PR.blind, va_recv hK hP (ci := 3) (q0 := 1) rfl rfl, PR.of hPc hKc hG hS hA [.ref a4]⟩ rfl rfl hl.1 rfl (lv_room (Nat.le_of_ble_eq_true rfl)) dX8_document_14 ⟨Nat.le_of_ble_eq_true rfl, Nat.le_of_ble_eq_true rfl⟩) hS (fun q h9 h => zN.not h9 h) (fun q h => hA q (Nat.le_trans hS.1 h)) (fun r_12 u t_14 H_11 locs ht hvm hw_13 hB hz1 hk1 hS => ?_)
  have hP := hP.grown hk1
  refine W.widen (k := 2) (n := 12) (Nat.le_of_ble_eq_true rfl) (Nat.le_of_ble_eq_true rfl) ?_
  obtain rfl : 0 = r_12 := hw_13.symm
  refine lv_iconst (v := 1) hx hb dX8_document_17 (by decide) ?_
  refine lv_iadd hx hb dX8_document_18 ?_
  refine lv_topi (fun f_15 ef_15 => ?_)
  obtain rfl : f_15 = 1 := ef_15.trans (by decide)
  refine lv_bipush (v := 20) hx hb dX8_document_19 (by decide) ?_
  have hPc := hP.sub (ws' := []) [] rfl
  have hKc := hK.sub (tys' := []) [] rfl
  refine vx_callv (vx_runS (As := [.int 1, .int 20]) (rest := []) ⟨hx, hb, hml, hown, hts⟩ (k_X8_checkRoom l hfl G z 1 20 H_11.size ) (va_cwS 2 hts (lw_goodApp (lw_3 q383 q384 q1) q385) rfl rfl rfl (by decide +kernel) ⟨Nat.le_of_ble_eq_true rfl, Nat.le_of_ble_eq_true rfl⟩) ⟨PR.blind, PR.of hPc hKc hG hS hA [.int 1, .int 20]⟩ rfl rfl hl.1 rfl (lv_room (Nat.le_of_ble_eq_true rfl)) dX8_document_21 ⟨Nat.le_of_ble_eq_true rfl, Nat.le_of_ble_eq_true rfl⟩) hS (fun q h9 h => zN.not h9 h) (fun q h => hA q (Nat.le_trans hS.1 h)) (fun q h9 h => zN.not h9 h) (fun E ce q9 ux t_19 H_16 locs ht hvm px_20 hE hz1 hk1 hS hq9 hv9 hcl9 => ?_) (fun u t_19 H_16 locs ht hvm hw_18 hB hz1 hk1 hS => ?_)
  · exact absurd (by decide) px_20
  have hP := hP.grown hk1
  refine W.widen (k := 3) (n := 18) (Nat.le_of_ble_eq_true rfl) (Nat.le_of_ble_eq_true rfl) ?_
  refine lv_aload_n hx hb dX8_document_24 rfl (lv_at hl 0 rfl) ?_
  refine va_get (D := G) (ci := 12) (v := .ref a4) (C := RX8) (T := TX8) (N := 10) hx hb hg in_X8 hown hK hP 0 rfl rfl 3 (by decide) (hg _ q128) (fun _ h9 => h9) rfl dX8_document_25 ?_
  refine va_new (ci := 5) (fs := [.int 0, .int 0, .null, .null, .null, .int 0, .int 0]) (C := RX1) (T := TX1) (N := 7) hx hb hg in_X1 tyX1 tyX1_ok hown (hg _ q269) (hg _ q804) (hg _ q32) hK hP hD hS hA rfl (fun j hj => by rcases (show j = 0 ∨ j = 1 ∨ j = 2 ∨ j = 3 ∨ j = 4 ∨ j = 5 ∨ j = 6 by omega) with rfl | rfl | rfl | rfl | rfl | rfl | rfl <;> rfl) (Nat.le_of_ble_eq_true rfl) (Nat.le_of_ble_eq_true rfl) dX8_document_28 (fun o_21 H_22 hP hD hS => ?_)
  have hP : va_P G vwCl ([(h0, .inr (12, [.ref a1, .ref a2, .ref a3, .ref a4, .ref a5, .ref a6, .ref a7, .ref a8, .int tol, .int sal])), (a4, .inr (3, [.int c0, .ref z, .int 0])), (a7, .inr (4, [.ref d1, .ref d2, .ref d3, .ref d4, .int 0, .int ag])), (d4, .inl (cyO, 20, .inr (.inr (.inr (.inr (fS)))))), (r0, .inl (cyI, 20, .inl (fR))), (o_21, .inr (5, [.int 0, .int 0, .null, .null, .null, .int 0, .int 0]))]) H_22 := hP
  have hD : va_D A ([(h0, .inr (12, [.ref a1, .ref a2, .ref a3, .ref a4, .ref a5, .ref a6, .ref a7, .ref a8, .int tol, .int sal])), (a4, .inr (3, [.int c0, .ref z, .int 0])), (a7, .inr (4, [.ref d1, .ref d2, .ref d3, .ref d4, .int 0, .int ag])), (d4, .inl (cyO, 20, .inr (.inr (.inr (.inr (fS)))))), (r0, .inl (cyI, 20, .inl (fR))), (o_21, .inr (5, [.int 0, .int 0, .null, .null, .null, .int 0, .int 0]))]) := hD
  refine W.widen (k := 4) (n := 25) (Nat.le_of_ble_eq_true rfl) (Nat.le_of_ble_eq_true rfl) ?_
  refine lv_dup hx hb dX8_document_31 rfl ?_
  rcases z_03 hw_8.1 hw_8.2 with rfl | rfl | rfl | rfl
  · refine lv_iload_n hx hb dX8_document_32 rfl (lv_at hl 1 rfl) ?_
    refine lv_iconst (v := 1) hx hb dX8_document_33 (by decide) ?_
    refine lv_iload_n hx hb dX8_document_34 rfl (lv_at hl 2 rfl) ?_
    refine lv_ishl hx hb dX8_document_35 ?_
    refine lv_topi (fun f_23 ef_23 => ?_)
    obtain rfl : f_23 = 1 := ef_23.trans (by decide)
    have hPc := hP.sub (ws' := [(o_21, .inr (5, [.int 0, .int 0, .null, .null, .null, .int 0, .int 0]))]) [5] rfl
    have hKc := hK.sub (tys' := []) [] rfl
    have hDc := hD.sub (ws' := [(o_21, .inr (5, [.int 0, .int 0, .null, .null, .null, .int 0, .int 0]))]) [5] (by decide) rfl
    have hFc := va_free (wc := [(o_21, .inr (5, [.int 0, .int 0, .null, .null, .null, .int 0, .int 0]))]) hD hS hA [5] rfl
    refine va_callv (va_runI (As := [.int p0, .int 1]) (rest := [.ref o_21, .ref a4]) ⟨hx, hb, hml, hown, hts⟩ (k_X1_init_1 l G z o_21 p0 H_22.size ) (cwI 2 hts (lw_goodAll q807) rfl rfl rfl (hg _ q32) (hg _ q805) (hg _ q806) rfl (by decide +kernel) ⟨Nat.le_of_ble_eq_true rfl, Nat.le_of_ble_eq_true rfl⟩) ⟨PW.blind, PW.of hPc hKc hDc hG hS hFc [.ref o_21, .int p0, .int 1]⟩ rfl rfl hl.1 rfl (lv_room (Nat.le_of_ble_eq_true rfl)) dX8_document_36 ⟨Nat.le_of_ble_eq_true rfl, Nat.le_of_ble_eq_true rfl⟩) hS (fun q _ h => hFc q h) hFc (fun u t_27 H_24 locs ht hvm hw_26 hB hz1 hk1 hS => ?_)
    obtain ⟨fsx_28, hB⟩ := hB
    obtain ⟨hP, hD, hK⟩ := QW.join (wr := [(h0, .inr (12, [.ref a1, .ref a2, .ref a3, .ref a4, .ref a5, .ref a6, .ref a7, .ref a8, .int tol, .int sal])), (a4, .inr (3, [.int c0, .ref z, .int 0])), (a7, .inr (4, [.ref d1, .ref d2, .ref d3, .ref d4, .int 0, .int ag])), (d4, .inl (cyO, 20, .inr (.inr (.inr (.inr (fS)))))), (r0, .inl (cyI, 20, .inl (fR)))]) (w1 := [(o_21, .inr (5, fsx_28))]) hP hD hK [5] [0, 1, 2, 3, 4] rfl rfl (by decide) (by decide) hk1 hFc ht hvm hB
    have hP : va_P G vwCl ([(h0, .inr (12, [.ref a1, .ref a2, .ref a3, .ref a4, .ref a5, .ref a6, .ref a7, .ref a8, .int tol, .int sal])), (a4, .inr (3, [.int c0, .ref z, .int 0])), (a7, .inr (4, [.ref d1, .ref d2, .ref d3, .ref d4, .int 0, .int ag])), (d4, .inl (cyO, 20, .inr (.inr (.inr (.inr (fS)))))), (r0, .inl (cyI, 20, .inl (fR))), (o_21, .inr (5, fsx_28))]) H_24 := hP
    have hD : va_D A ([(h0, .inr (12, [.ref a1, .ref a2, .ref a3, .ref a4, .ref a5, .ref a6, .ref a7, .ref a8, .int tol, .int sal])), (a4, .inr (3, [.int c0, .ref z, .int 0])), (a7, .inr (4, [.ref d1, .ref d2, .ref d3, .ref d4, .int 0, .int ag])), (d4, .inl (cyO, 20, .inr (.inr (.inr (.inr (fS)))))), (r0, .inl (cyI, 20, .inl (fR))), (o_21, .inr (5, fsx_28))]) := hD
    have hK : va_K G vwCl [(cyO, .array .int), (cyI, .int)] s := hK
    refine W.widen (k := 7) (n := 325) (Nat.le_of_ble_eq_true rfl) (Nat.le_of_ble_eq_true rfl) ?_
    have hPc := hP.sub (ws' := [(a4, .inr (3, [.int c0, .ref z, .int 0])), (o_21, .inr (5, fsx_28))]) [1, 5] rfl
    have hKc := hK.sub (tys' := []) [] rfl
    have hDc := hD.sub (ws' := [(a4, .inr (3, [.int c0, .ref z, .int 0])), (o_21, .inr (5, fsx_28))]) [1, 5] (by decide) rfl
    have hFc := va_free (wc := [(a4, .inr (3, [.int c0, .ref z, .int 0])), (o_21, .inr (5, fsx_28))]) hD hS hA [1, 5] rfl
    refine va_calli (va_runV (As := [.ref o_21]) (rest := []) ⟨hx, hb, hml, hown, hts⟩ (k_Jx4a65c_add_9ea2d l G z a4 c0 o_21 5 ((RX1, TX1, 7)) fsx_28 H_24.size rfl qf1763) (cwV 1 hts (lw_goodApp (lw_4 q448 q449 q450 q4) q451) rfl rfl rfl (by decide +kernel) ⟨Nat.le_of_ble_eq_true rfl, Nat.le_of_ble_eq_true rfl⟩) ⟨PW.blind, va_recv hK hP (ci := 3) (q0 := 1) rfl rfl, PW.of hPc hKc hDc hG hS hFc [.ref a4, .ref o_21]⟩ rfl rfl hl.1 rfl (lv_room (Nat.le_of_ble_eq_true rfl)) dX8_document_39 ⟨Nat.le_of_ble_eq_true rfl, Nat.le_of_ble_eq_true rfl⟩) hS (fun q _ h => hFc q h) hFc (fun r_30 u t_32 H_29 locs ht hvm hw_31 hB hz1 hk1 hS => ?_)
    obtain ⟨c1_33, qa_34, hB⟩ := hB
    obtain ⟨hP, hD, hK⟩ := QW.join (wr := [(h0, .inr (12, [.ref a1, .ref a2, .ref a3, .ref a4, .ref a5, .ref a6, .ref a7, .ref a8, .int tol, .int sal])), (a7, .inr (4, [.ref d1, .ref d2, .ref d3, .ref d4, .int 0, .int ag])), (d4, .inl (cyO, 20, .inr (.inr (.inr (.inr (fS)))))), (r0, .inl (cyI, 20, .inl (fR)))]) (w1 := [(a4, .inr (3, [.int c1_33, .ref qa_34, .int 1])), (o_21, .inr (5, fsx_28))]) hP hD hK [1, 5] [0, 2, 3, 4] rfl rfl (by decide) (by decide) hk1 hFc ht hvm hB
    have hP : va_P G vwCl ([(h0, .inr (12, [.ref a1, .ref a2, .ref a3, .ref a4, .ref a5, .ref a6, .ref a7, .ref a8, .int tol, .int sal])), (a7, .inr (4, [.ref d1, .ref d2, .ref d3, .ref d4, .int 0, .int ag])), (d4, .inl (cyO, 20, .inr (.inr (.inr (.inr (fS)))))), (r0, .inl (cyI, 20, .inl (fR))), (a4, .inr (3, [.int c1_33, .ref qa_34, .int 1])), (o_21, .inr (5, fsx_28))]) H_29 := hP
    have hD : va_D A ([(h0, .inr (12, [.ref a1, .ref a2, .ref a3, .ref a4, .ref a5, .ref a6, .ref a7, .ref a8, .int tol, .int sal])), (a7, .inr (4, [.ref d1, .ref d2, .ref d3, .ref d4, .int 0, .int ag])), (d4, .inl (cyO, 20, .inr (.inr (.inr (.inr (fS)))))), (r0, .inl (cyI, 20, .inl (fR))), (a4, .inr (3, [.int c1_33, .ref qa_34, .int 1])), (o_21, .inr (5, fsx_28))]) := hD
    have hK : va_K G vwCl [(cyO, .array .int), (cyI, .int)] s := hK
    refine W.widen (k := 8) (n := 335) (Nat.le_of_ble_eq_true rfl) (Nat.le_of_ble_eq_true rfl) ?_
    obtain rfl : 1 = r_30 := hw_31.symm
    refine lv_pop hx hb dX8_document_42 rfl ?_
    refine lv_aload_n hx hb dX8_document_43 rfl (lv_at hl 0 rfl) ?_
    refine va_get (D := G) (ci := 12) (v := .ref a7) (C := RX8) (T := TX8) (N := 10) hx hb hg in_X8 hown hK hP 0 rfl rfl 6 (by decide) (hg _ q131) (fun _ h9 => h9) rfl dX8_document_44 ?_
    have hPc := hP.sub (ws' := [(a7, .inr (4, [.ref d1, .ref d2, .ref d3, .ref d4, .int 0, .int ag])), (d4, .inl (cyO, 20, .inr (.inr (.inr (.inr (fS)))))), (r0, .inl (cyI, 20, .inl (fR)))]) [1, 2, 3] rfl
    have hKc := hK.sub (tys' := [(cyO, .array .int), (cyI, .int)]) [0, 1] rfl
    have hDc := hD.sub (ws' := [(a7, .inr (4, [.ref d1, .ref d2, .ref d3, .ref d4, .int 0, .int ag])), (d4, .inl (cyO, 20, .inr (.inr (.inr (.inr (fS)))))), (r0, .inl (cyI, 20, .inl (fR)))]) [1, 2, 3] (by decide) rfl
    have hFc := va_free (wc := [(a7, .inr (4, [.ref d1, .ref d2, .ref d3, .ref d4, .int 0, .int ag])), (d4, .inl (cyO, 20, .inr (.inr (.inr (.inr (fS)))))), (r0, .inl (cyI, 20, .inl (fR)))]) hD hS hA [1, 2, 3] rfl
    refine va_callv (va_runV (As := []) (rest := []) ⟨hx, hb, hml, hown, hts⟩ (k_X0_addDocument l G z a7 d1 d2 d3 d4 ag cyO fS cyI fR r0 H_29.size hfS) (cwV 0 hts (lw_goodApp (lw_4 q837 q838 q839 q6) q840) rfl rfl rfl (by decide +kernel) ⟨Nat.le_of_ble_eq_true rfl, Nat.le_of_ble_eq_true rfl⟩) ⟨PW.blind, va_recv hK hP (ci := 4) (q0 := 1) rfl rfl, PW.of hPc hKc hDc hG hS hFc [.ref a7]⟩ rfl rfl hl.1 rfl (lv_room (Nat.le_of_ble_eq_true rfl)) dX8_document_47 ⟨Nat.le_of_ble_eq_true rfl, Nat.le_of_ble_eq_true rfl⟩) hS (fun q _ h => hFc q h) hFc (fun u t_38 H_35 locs ht hvm hw_37 hB hz1 hk1 hS => ?_)
    obtain ⟨hP, hD, hK⟩ := QW.join (wr := [(h0, .inr (12, [.ref a1, .ref a2, .ref a3, .ref a4, .ref a5, .ref a6, .ref a7, .ref a8, .int tol, .int sal])), (a4, .inr (3, [.int c1_33, .ref qa_34, .int 1])), (o_21, .inr (5, fsx_28))]) (w1 := []) hP hD hK [1, 2, 3] [0, 4, 5] rfl rfl (by decide) (by decide) hk1 hFc ht hvm hB
    have hP : va_P G vwCl ([(h0, .inr (12, [.ref a1, .ref a2, .ref a3, .ref a4, .ref a5, .ref a6, .ref a7, .ref a8, .int tol, .int sal])), (a4, .inr (3, [.int c1_33, .ref qa_34, .int 1])), (o_21, .inr (5, fsx_28))]) H_35 := hP
    have hD : va_D A ([(h0, .inr (12, [.ref a1, .ref a2, .ref a3, .ref a4, .ref a5, .ref a6, .ref a7, .ref a8, .int tol, .int sal])), (a4, .inr (3, [.int c1_33, .ref qa_34, .int 1])), (o_21, .inr (5, fsx_28))]) := hD
    have hK : va_K G vwCl [(cyO, .array .int), (cyI, .int)] s := hK
    refine W.widen (k := 8) (n := 335) (Nat.le_of_ble_eq_true rfl) (Nat.le_of_ble_eq_true rfl) ?_
    refine lv_aload_n hx hb dX8_document_50 rfl (lv_at hl 0 rfl) ?_
    refine va_get (D := G) (ci := 12) (v := .ref a4) (C := RX8) (T := TX8) (N := 10) hx hb hg in_X8 hown hK hP 0 rfl rfl 3 (by decide) (hg _ q128) (fun _ h9 => h9) rfl dX8_document_51 ?_
    have hPc := hP.sub (ws' := [(a4, .inr (3, [.int c1_33, .ref qa_34, .int 1]))]) [1] rfl
    have hKc := hK.sub (tys' := []) [] rfl
    refine va_calli (va_runV (As := []) (rest := []) ⟨hx, hb, hml, hown, hts⟩ (k_Jx4a65c_size_8abf5 l G z a4 c1_33 qa_34 1 H_35.size ) (cwV 0 hts (lw_goodApp (lw_4 q160 q161 q162 q4) q163) rfl rfl rfl (by decide +kernel) ⟨Nat.le_of_ble_eq_true rfl, Nat.le_of_ble_eq_true rfl⟩) ⟨PR.blind, va_recv hK hP (ci := 3) (q0 := 1) rfl rfl, PR.of hPc hKc hG hS hA [.ref a4]⟩ rfl rfl hl.1 rfl (lv_room (Nat.le_of_ble_eq_true rfl)) dX8_document_54 ⟨Nat.le_of_ble_eq_true rfl, Nat.le_of_ble_eq_true rfl⟩) hS (fun q h9 h => zN.not h9 h) (fun q h => hA q (Nat.le_trans hS.1 h)) (fun r_40 u t_42 H_39 locs ht hvm hw_41 hB hz1 hk1 hS => ?_)
    have hP := hP.grown hk1
    refine W.widen (k := 8) (n := 335) (Nat.le_of_ble_eq_true rfl) (Nat.le_of_ble_eq_true rfl) ?_
    obtain rfl : 1 = r_40 := hw_41.symm
    refine lv_iconst (v := 1) hx hb dX8_document_57 (by decide) ?_
    refine lv_isub hx hb dX8_document_58 ?_
    refine lv_topi (fun f_43 ef_43 => ?_)
    obtain rfl : f_43 = 0 := ef_43.trans (by decide)
    refine W.widen (k := 8) (n := 1035) (Nat.le_of_ble_eq_true rfl) (Nat.le_of_ble_eq_true rfl) ?_
    refine vx_ret ?_
    have hP9 := hP.sub (ws' := []) [] rfl
    have hD9 := hD.sub (ws' := []) [] (by decide) rfl
    have hK9 := hK.sub (tys' := []) [] rfl
    exact W.iret (v := 0) hx hb hr (fun t ht hW => ⟨⟨0, (), rfl, ⟨rfl, hw_3, hw_8⟩, QW.of hP9 hK9 hD9 ht hW.alike⟩, hS.F ht⟩) hS.2.2 dX8_document_59
  · refine lv_iload_n hx hb dX8_document_32 rfl (lv_at hl 1 rfl) ?_
    refine lv_iconst (v := 1) hx hb dX8_document_33 (by decide) ?_
    refine lv_iload_n hx hb dX8_document_34 rfl (lv_at hl 2 rfl) ?_
    refine lv_ishl hx hb dX8_document_35 ?_
    refine lv_topi (fun f_44 ef_44 => ?_)
    obtain rfl : f_44 = 2 := ef_44.trans (by decide)
    have hPc := hP.sub (ws' := [(o_21, .inr (5, [.int 0, .int 0, .null, .null, .null, .int 0, .int 0]))]) [5] rfl
    have hKc := hK.sub (tys' := []) [] rfl
    have hDc := hD.sub (ws' := [(o_21, .inr (5, [.int 0, .int 0, .null, .null, .null, .int 0, .int 0]))]) [5] (by decide) rfl
    have hFc := va_free (wc := [(o_21, .inr (5, [.int 0, .int 0, .null, .null, .null, .int 0, .int 0]))]) hD hS hA [5] rfl
    refine va_callv (va_runI (As := [.int p0, .int 2]) (rest := [.ref o_21, .ref a4]) ⟨hx, hb, hml, hown, hts⟩ (k_X1_init_2 l G z o_21 p0 H_22.size ) (cwI 2 hts (lw_goodAll q807) rfl rfl rfl (hg _ q32) (hg _ q805) (hg _ q806) rfl (by decide +kernel) ⟨Nat.le_of_ble_eq_true rfl, Nat.le_of_ble_eq_true rfl⟩) ⟨PW.blind, PW.of hPc hKc hDc hG hS hFc [.ref o_21, .int p0, .int 2]⟩ rfl rfl hl.1 rfl (lv_room (Nat.le_of_ble_eq_true rfl)) dX8_document_36 ⟨Nat.le_of_ble_eq_true rfl, Nat.le_of_ble_eq_true rfl⟩) hS (fun q _ h => hFc q h) hFc (fun u t_48 H_45 locs ht hvm hw_47 hB hz1 hk1 hS => ?_)
    obtain ⟨fsx_49, hB⟩ := hB
    obtain ⟨hP, hD, hK⟩ := QW.join (wr := [(h0, .inr (12, [.ref a1, .ref a2, .ref a3, .ref a4, .ref a5, .ref a6, .ref a7, .ref a8, .int tol, .int sal])), (a4, .inr (3, [.int c0, .ref z, .int 0])), (a7, .inr (4, [.ref d1, .ref d2, .ref d3, .ref d4, .int 0, .int ag])), (d4, .inl (cyO, 20, .inr (.inr (.inr (.inr (fS)))))), (r0, .inl (cyI, 20, .inl (fR)))]) (w1 := [(o_21, .inr (5, fsx_49))]) hP hD hK [5] [0, 1, 2, 3, 4] rfl rfl (by decide) (by decide) hk1 hFc ht hvm hB
    have hP : va_P G vwCl ([(h0, .inr (12, [.ref a1, .ref a2, .ref a3, .ref a4, .ref a5, .ref a6, .ref a7, .ref a8, .int tol, .int sal])), (a4, .inr (3, [.int c0, .ref z, .int 0])), (a7, .inr (4, [.ref d1, .ref d2, .ref d3, .ref d4, .int 0, .int ag])), (d4, .inl (cyO, 20, .inr (.inr (.inr (.inr (fS)))))), (r0, .inl (cyI, 20, .inl (fR))), (o_21, .inr (5, fsx_49))]) H_45 := hP
    have hD : va_D A ([(h0, .inr (12, [.ref a1, .ref a2, .ref a3, .ref a4, .ref a5, .ref a6, .ref a7, .ref a8, .int tol, .int sal])), (a4, .inr (3, [.int c0, .ref z, .int 0])), (a7, .inr (4, [.ref d1, .ref d2, .ref d3, .ref d4, .int 0, .int ag])), (d4, .inl (cyO, 20, .inr (.inr (.inr (.inr (fS)))))), (r0, .inl (cyI, 20, .inl (fR))), (o_21, .inr (5, fsx_49))]) := hD
    have hK : va_K G vwCl [(cyO, .array .int), (cyI, .int)] s := hK
    refine W.widen (k := 7) (n := 425) (Nat.le_of_ble_eq_true rfl) (Nat.le_of_ble_eq_true rfl) ?_
    have hPc := hP.sub (ws' := [(a4, .inr (3, [.int c0, .ref z, .int 0])), (o_21, .inr (5, fsx_49))]) [1, 5] rfl
    have hKc := hK.sub (tys' := []) [] rfl
    have hDc := hD.sub (ws' := [(a4, .inr (3, [.int c0, .ref z, .int 0])), (o_21, .inr (5, fsx_49))]) [1, 5] (by decide) rfl
    have hFc := va_free (wc := [(a4, .inr (3, [.int c0, .ref z, .int 0])), (o_21, .inr (5, fsx_49))]) hD hS hA [1, 5] rfl
    refine va_calli (va_runV (As := [.ref o_21]) (rest := []) ⟨hx, hb, hml, hown, hts⟩ (k_Jx4a65c_add_9ea2d l G z a4 c0 o_21 5 ((RX1, TX1, 7)) fsx_49 H_45.size rfl qf1763) (cwV 1 hts (lw_goodApp (lw_4 q448 q449 q450 q4) q451) rfl rfl rfl (by decide +kernel) ⟨Nat.le_of_ble_eq_true rfl, Nat.le_of_ble_eq_true rfl⟩) ⟨PW.blind, va_recv hK hP (ci := 3) (q0 := 1) rfl rfl, PW.of hPc hKc hDc hG hS hFc [.ref a4, .ref o_21]⟩ rfl rfl hl.1 rfl (lv_room (Nat.le_of_ble_eq_true rfl)) dX8_document_39 ⟨Nat.le_of_ble_eq_true rfl, Nat.le_of_ble_eq_true rfl⟩) hS (fun q _ h => hFc q h) hFc (fun r_51 u t_53 H_50 locs ht hvm hw_52 hB hz1 hk1 hS => ?_)
    obtain ⟨c1_54, qa_55, hB⟩ := hB
    obtain ⟨hP, hD, hK⟩ := QW.join (wr := [(h0, .inr (12, [.ref a1, .ref a2, .ref a3, .ref a4, .ref a5, .ref a6, .ref a7, .ref a8, .int tol, .int sal])), (a7, .inr (4, [.ref d1, .ref d2, .ref d3, .ref d4, .int 0, .int ag])), (d4, .inl (cyO, 20, .inr (.inr (.inr (.inr (fS)))))), (r0, .inl (cyI, 20, .inl (fR)))]) (w1 := [(a4, .inr (3, [.int c1_54, .ref qa_55, .int 1])), (o_21, .inr (5, fsx_49))]) hP hD hK [1, 5] [0, 2, 3, 4] rfl rfl (by decide) (by decide) hk1 hFc ht hvm hB
    have hP : va_P G vwCl ([(h0, .inr (12, [.ref a1, .ref a2, .ref a3, .ref a4, .ref a5, .ref a6, .ref a7, .ref a8, .int tol, .int sal])), (a7, .inr (4, [.ref d1, .ref d2, .ref d3, .ref d4, .int 0, .int ag])), (d4, .inl (cyO, 20, .inr (.inr (.inr (.inr (fS)))))), (r0, .inl (cyI, 20, .inl (fR))), (a4, .inr (3, [.int c1_54, .ref qa_55, .int 1])), (o_21, .inr (5, fsx_49))]) H_50 := hP
    have hD : va_D A ([(h0, .inr (12, [.ref a1, .ref a2, .ref a3, .ref a4, .ref a5, .ref a6, .ref a7, .ref a8, .int tol, .int sal])), (a7, .inr (4, [.ref d1, .ref d2, .ref d3, .ref d4, .int 0, .int ag])), (d4, .inl (cyO, 20, .inr (.inr (.inr (.inr (fS)))))), (r0, .inl (cyI, 20, .inl (fR))), (a4, .inr (3, [.int c1_54, .ref qa_55, .int 1])), (o_21, .inr (5, fsx_49))]) := hD
    have hK : va_K G vwCl [(cyO, .array .int), (cyI, .int)] s := hK
    refine W.widen (k := 8) (n := 435) (Nat.le_of_ble_eq_true rfl) (Nat.le_of_ble_eq_true rfl) ?_
    obtain rfl : 1 = r_51 := hw_52.symm
    refine lv_pop hx hb dX8_document_42 rfl ?_
    refine lv_aload_n hx hb dX8_document_43 rfl (lv_at hl 0 rfl) ?_
    refine va_get (D := G) (ci := 12) (v := .ref a7) (C := RX8) (T := TX8) (N := 10) hx hb hg in_X8 hown hK hP 0 rfl rfl 6 (by decide) (hg _ q131) (fun _ h9 => h9) rfl dX8_document_44 ?_
    have hPc := hP.sub (ws' := [(a7, .inr (4, [.ref d1, .ref d2, .ref d3, .ref d4, .int 0, .int ag])), (d4, .inl (cyO, 20, .inr (.inr (.inr (.inr (fS)))))), (r0, .inl (cyI, 20, .inl (fR)))]) [1, 2, 3] rfl
    have hKc := hK.sub (tys' := [(cyO, .array .int), (cyI, .int)]) [0, 1] rfl
    have hDc := hD.sub (ws' := [(a7, .inr (4, [.ref d1, .ref d2, .ref d3, .ref d4, .int 0, .int ag])), (d4, .inl (cyO, 20, .inr (.inr (.inr (.inr (fS)))))), (r0, .inl (cyI, 20, .inl (fR)))]) [1, 2, 3] (by decide) rfl
    have hFc := va_free (wc := [(a7, .inr (4, [.ref d1, .ref d2, .ref d3, .ref d4, .int 0, .int ag])), (d4, .inl (cyO, 20, .inr (.inr (.inr (.inr (fS)))))), (r0, .inl (cyI, 20, .inl (fR)))]) hD hS hA [1, 2, 3] rfl
    refine va_callv (va_runV (As := []) (rest := []) ⟨hx, hb, hml, hown, hts⟩ (k_X0_addDocument l G z a7 d1 d2 d3 d4 ag cyO fS cyI fR r0 H_50.size hfS) (cwV 0 hts (lw_goodApp (lw_4 q837 q838 q839 q6) q840) rfl rfl rfl (by decide +kernel) ⟨Nat.le_of_ble_eq_true rfl, Nat.le_of_ble_eq_true rfl⟩) ⟨PW.blind, va_recv hK hP (ci := 4) (q0 := 1) rfl rfl, PW.of hPc hKc hDc hG hS hFc [.ref a7]⟩ rfl rfl hl.1 rfl (lv_room (Nat.le_of_ble_eq_true rfl)) dX8_document_47 ⟨Nat.le_of_ble_eq_true rfl, Nat.le_of_ble_eq_true rfl⟩) hS (fun q _ h => hFc q h) hFc (fun u t_59 H_56 locs ht hvm hw_58 hB hz1 hk1 hS => ?_)
    obtain ⟨hP, hD, hK⟩ := QW.join (wr := [(h0, .inr (12, [.ref a1, .ref a2, .ref a3, .ref a4, .ref a5, .ref a6, .ref a7, .ref a8, .int tol, .int sal])), (a4, .inr (3, [.int c1_54, .ref qa_55, .int 1])), (o_21, .inr (5, fsx_49))]) (w1 := []) hP hD hK [1, 2, 3] [0, 4, 5] rfl rfl (by decide) (by decide) hk1 hFc ht hvm hB
    have hP : va_P G vwCl ([(h0, .inr (12, [.ref a1, .ref a2, .ref a3, .ref a4, .ref a5, .ref a6, .ref a7, .ref a8, .int tol, .int sal])), (a4, .inr (3, [.int c1_54, .ref qa_55, .int 1])), (o_21, .inr (5, fsx_49))]) H_56 := hP
    have hD : va_D A ([(h0, .inr (12, [.ref a1, .ref a2, .ref a3, .ref a4, .ref a5, .ref a6, .ref a7, .ref a8, .int tol, .int sal])), (a4, .inr (3, [.int c1_54, .ref qa_55, .int 1])), (o_21, .inr (5, fsx_49))]) := hD
    have hK : va_K G vwCl [(cyO, .array .int), (cyI, .int)] s := hK
    refine W.widen (k := 8) (n := 435) (Nat.le_of_ble_eq_true rfl) (Nat.le_of_ble_eq_true rfl) ?_
    refine lv_aload_n hx hb dX8_document_50 rfl (lv_at hl 0 rfl) ?_
    refine va_get (D := G) (ci := 12) (v := .ref a4) (C := RX8) (T := TX8) (N := 10) hx hb hg in_X8 hown hK hP 0 rfl rfl 3 (by decide) (hg _ q128) (fun _ h9 => h9) rfl dX8_document_51 ?_
    have hPc := hP.sub (ws' := [(a4, .inr (3, [.int c1_54, .ref qa_55, .int 1]))]) [1] rfl
    have hKc := hK.sub (tys' := []) [] rfl
    refine va_calli (va_runV (As := []) (rest := []) ⟨hx, hb, hml, hown, hts⟩ (k_Jx4a65c_size_8abf5 l G z a4 c1_54 qa_55 1 H_56.size ) (cwV 0 hts (lw_goodApp (lw_4 q160 q161 q162 q4) q163) rfl rfl rfl (by decide +kernel) ⟨Nat.le_of_ble_eq_true rfl, Nat.le_of_ble_eq_true rfl⟩) ⟨PR.blind, va_recv hK hP (ci := 3) (q0 := 1) rfl rfl, PR.of hPc hKc hG hS hA [.ref a4]⟩ rfl rfl hl.1 rfl (lv_room (Nat.le_of_ble_eq_true rfl)) dX8_document_54 ⟨Nat.le_of_ble_eq_true rfl, Nat.le_of_ble_eq_true rfl⟩) hS (fun q h9 h => zN.not h9 h) (fun q h => hA q (Nat.le_trans hS.1 h)) (fun r_61 u t_63 H_60 locs ht hvm hw_62 hB hz1 hk1 hS => ?_)
    have hP := hP.grown hk1
    refine W.widen (k := 8) (n := 435) (Nat.le_of_ble_eq_true rfl) (Nat.le_of_ble_eq_true rfl) ?_
    obtain rfl : 1 = r_61 := hw_62.symm
    refine lv_iconst (v := 1) hx hb dX8_document_57 (by decide) ?_
    refine lv_isub hx hb dX8_document_58 ?_
    refine lv_topi (fun f_64 ef_64 => ?_)
    obtain rfl : f_64 = 0 := ef_64.trans (by decide)
    refine W.widen (k := 8) (n := 1035) (Nat.le_of_ble_eq_true rfl) (Nat.le_of_ble_eq_true rfl) ?_
    refine vx_ret ?_
    have hP9 := hP.sub (ws' := []) [] rfl
    have hD9 := hD.sub (ws' := []) [] (by decide) rfl
    have hK9 := hK.sub (tys' := []) [] rfl
    exact W.iret (v := 0) hx hb hr (fun t ht hW => ⟨⟨0, (), rfl, ⟨rfl, hw_3, hw_8⟩, QW.of hP9 hK9 hD9 ht hW.alike⟩, hS.F ht⟩) hS.2.2 dX8_document_59
  · refine lv_iload_n hx hb dX8_document_32 rfl (lv_at hl 1 rfl) ?_
    refine lv_iconst (v := 1) hx hb dX8_document_33 (by decide) ?_
    refine lv_iload_n hx hb dX8_document_34 rfl (lv_at hl 2 rfl) ?_
    refine lv_ishl hx hb dX8_document_35 ?_
    refine lv_topi (fun f_65 ef_65 => ?_)
    obtain rfl : f_65 = 4 := ef_65.trans (by decide)
    have hPc := hP.sub (ws' := [(o_21, .inr (5, [.int 0, .int 0, .null, .null, .null, .int 0, .int 0]))]) [5] rfl
    have hKc := hK.sub (tys' := []) [] rfl
    have hDc := hD.sub (ws' := [(o_21, .inr (5, [.int 0, .int 0, .null, .null, .null, .int 0, .int 0]))]) [5] (by decide) rfl
    have hFc := va_free (wc := [(o_21, .inr (5, [.int 0, .int 0, .null, .null, .null, .int 0, .int 0]))]) hD hS hA [5] rfl
    refine va_callv (va_runI (As := [.int p0, .int 4]) (rest := [.ref o_21, .ref a4]) ⟨hx, hb, hml, hown, hts⟩ (k_X1_init_4 l G z o_21 p0 H_22.size ) (cwI 2 hts (lw_goodAll q807) rfl rfl rfl (hg _ q32) (hg _ q805) (hg _ q806) rfl (by decide +kernel) ⟨Nat.le_of_ble_eq_true rfl, Nat.le_of_ble_eq_true rfl⟩) ⟨PW.blind, PW.of hPc hKc hDc hG hS hFc [.ref o_21, .int p0, .int 4]⟩ rfl rfl hl.1 rfl (lv_room (Nat.le_of_ble_eq_true rfl)) dX8_document_36 ⟨Nat.le_of_ble_eq_true rfl, Nat.le_of_ble_eq_true rfl⟩) hS (fun q _ h => hFc q h) hFc (fun u t_69 H_66 locs ht hvm hw_68 hB hz1 hk1 hS => ?_)
    obtain ⟨fsx_70, hB⟩ := hB
    obtain ⟨hP, hD, hK⟩ := QW.join (wr := [(h0, .inr (12, [.ref a1, .ref a2, .ref a3, .ref a4, .ref a5, .ref a6, .ref a7, .ref a8, .int tol, .int sal])), (a4, .inr (3, [.int c0, .ref z, .int 0])), (a7, .inr (4, [.ref d1, .ref d2, .ref d3, .ref d4, .int 0, .int ag])), (d4, .inl (cyO, 20, .inr (.inr (.inr (.inr (fS)))))), (r0, .inl (cyI, 20, .inl (fR)))]) (w1 := [(o_21, .inr (5, fsx_70))]) hP hD hK [5] [0, 1, 2, 3, 4] rfl rfl (by decide) (by decide) hk1 hFc ht hvm hB
    have hP : va_P G vwCl ([(h0, .inr (12, [.ref a1, .ref a2, .ref a3, .ref a4, .ref a5, .ref a6, .ref a7, .ref a8, .int tol, .int sal])), (a4, .inr (3, [.int c0, .ref z, .int 0])), (a7, .inr (4, [.ref d1, .ref d2, .ref d3, .ref d4, .int 0, .int ag])), (d4, .inl (cyO, 20, .inr (.inr (.inr (.inr (fS)))))), (r0, .inl (cyI, 20, .inl (fR))), (o_21, .inr (5, fsx_70))]) H_66 := hP
    have hD : va_D A ([(h0, .inr (12, [.ref a1, .ref a2, .ref a3, .ref a4, .ref a5, .ref a6, .ref a7, .ref a8, .int tol, .int sal])), (a4, .inr (3, [.int c0, .ref z, .int 0])), (a7, .inr (4, [.ref d1, .ref d2, .ref d3, .ref d4, .int 0, .int ag])), (d4, .inl (cyO, 20, .inr (.inr (.inr (.inr (fS)))))), (r0, .inl (cyI, 20, .inl (fR))), (o_21, .inr (5, fsx_70))]) := hD
    have hK : va_K G vwCl [(cyO, .array .int), (cyI, .int)] s := hK
    refine W.widen (k := 7) (n := 625) (Nat.le_of_ble_eq_true rfl) (Nat.le_of_ble_eq_true rfl) ?_
    have hPc := hP.sub (ws' := [(a4, .inr (3, [.int c0, .ref z, .int 0])), (o_21, .inr (5, fsx_70))]) [1, 5] rfl
    have hKc := hK.sub (tys' := []) [] rfl
    have hDc := hD.sub (ws' := [(a4, .inr (3, [.int c0, .ref z, .int 0])), (o_21, .inr (5, fsx_70))]) [1, 5] (by decide) rfl
    have hFc := va_free (wc := [(a4, .inr (3, [.int c0, .ref z, .int 0])), (o_21, .inr (5, fsx_70))]) hD hS hA [1, 5] rfl
    refine va_calli (va_runV (As := [.ref o_21]) (rest := []) ⟨hx, hb, hml, hown, hts⟩ (k_Jx4a65c_add_9ea2d l G z a4 c0 o_21 5 ((RX1, TX1, 7)) fsx_70 H_66.size rfl qf1763) (cwV 1 hts (lw_goodApp (lw_4 q448 q449 q450 q4) q451) rfl rfl rfl (by decide +kernel) ⟨Nat.le_of_ble_eq_true rfl, Nat.le_of_ble_eq_true rfl⟩) ⟨PW.blind, va_recv hK hP (ci := 3) (q0 := 1) rfl rfl, PW.of hPc hKc hDc hG hS hFc [.ref a4, .ref o_21]⟩ rfl rfl hl.1 rfl (lv_room (Nat.le_of_ble_eq_true rfl)) dX8_document_39 ⟨Nat.le_of_ble_eq_true rfl, Nat.le_of_ble_eq_true rfl⟩) hS (fun q _ h => hFc q h) hFc (fun r_72 u t_74 H_71 locs ht hvm hw_73 hB hz1 hk1 hS => ?_)
    obtain ⟨c1_75, qa_76, hB⟩ := hB
    obtain ⟨hP, hD, hK⟩ := QW.join (wr := [(h0, .inr (12, [.ref a1, .ref a2, .ref a3, .ref a4, .ref a5, .ref a6, .ref a7, .ref a8, .int tol, .int sal])), (a7, .inr (4, [.ref d1, .ref d2, .ref d3, .ref d4, .int 0, .int ag])), (d4, .inl (cyO, 20, .inr (.inr (.inr (.inr (fS)))))), (r0, .inl (cyI, 20, .inl (fR)))]) (w1 := [(a4, .inr (3, [.int c1_75, .ref qa_76, .int 1])), (o_21, .inr (5, fsx_70))]) hP hD hK [1, 5] [0, 2, 3, 4] rfl rfl (by decide) (by decide) hk1 hFc ht hvm hB
    have hP : va_P G vwCl ([(h0, .inr (12, [.ref a1, .ref a2, .ref a3, .ref a4, .ref a5, .ref a6, .ref a7, .ref a8, .int tol, .int sal])), (a7, .inr (4, [.ref d1, .ref d2, .ref d3, .ref d4, .int 0, .int ag])), (d4, .inl (cyO, 20, .inr (.inr (.inr (.inr (fS)))))), (r0, .inl (cyI, 20, .inl (fR))), (a4, .inr (3, [.int c1_75, .ref qa_76, .int 1])), (o_21, .inr (5, fsx_70))]) H_71 := hP
    have hD : va_D A ([(h0, .inr (12, [.ref a1, .ref a2, .ref a3, .ref a4, .ref a5, .ref a6, .ref a7, .ref a8, .int tol, .int sal])), (a7, .inr (4, [.ref d1, .ref d2, .ref d3, .ref d4, .int 0, .int ag])), (d4, .inl (cyO, 20, .inr (.inr (.inr (.inr (fS)))))), (r0, .inl (cyI, 20, .inl (fR))), (a4, .inr (3, [.int c1_75, .ref qa_76, .int 1])), (o_21, .inr (5, fsx_70))]) := hD
    have hK : va_K G vwCl [(cyO, .array .int), (cyI, .int)] s := hK
    refine W.widen (k := 8) (n := 635) (Nat.le_of_ble_eq_true rfl) (Nat.le_of_ble_eq_true rfl) ?_
    obtain rfl : 1 = r_72 := hw_73.symm
    refine lv_pop hx hb dX8_document_42 rfl ?_
    refine lv_aload_n hx hb dX8_document_43 rfl (lv_at hl 0 rfl) ?_
    refine va_get (D := G) (ci := 12) (v := .ref a7) (C := RX8) (T := TX8) (N := 10) hx hb hg in_X8 hown hK hP 0 rfl rfl 6 (by decide) (hg _ q131) (fun _ h9 => h9) rfl dX8_document_44 ?_
    have hPc := hP.sub (ws' := [(a7, .inr (4, [.ref d1, .ref d2, .ref d3, .ref d4, .int 0, .int ag])), (d4, .inl (cyO, 20, .inr (.inr (.inr (.inr (fS)))))), (r0, .inl (cyI, 20, .inl (fR)))]) [1, 2, 3] rfl
    have hKc := hK.sub (tys' := [(cyO, .array .int), (cyI, .int)]) [0, 1] rfl
    have hDc := hD.sub (ws' := [(a7, .inr (4, [.ref d1, .ref d2, .ref d3, .ref d4, .int 0, .int ag])), (d4, .inl (cyO, 20, .inr (.inr (.inr (.inr (fS)))))), (r0, .inl (cyI, 20, .inl (fR)))]) [1, 2, 3] (by decide) rfl
    have hFc := va_free (wc := [(a7, .inr (4, [.ref d1, .ref d2, .ref d3, .ref d4, .int 0, .int ag])), (d4, .inl (cyO, 20, .inr (.inr (.inr (.inr (fS)))))), (r0, .inl (cyI, 20, .inl (fR)))]) hD hS hA [1, 2, 3] rfl
    refine va_callv (va_runV (As := []) (rest := []) ⟨hx, hb, hml, hown, hts⟩ (k_X0_addDocument l G z a7 d1 d2 d3 d4 ag cyO fS cyI fR r0 H_71.size hfS) (cwV 0 hts (lw_goodApp (lw_4 q837 q838 q839 q6) q840) rfl rfl rfl (by decide +kernel) ⟨Nat.le_of_ble_eq_true rfl, Nat.le_of_ble_eq_true rfl⟩) ⟨PW.blind, va_recv hK hP (ci := 4) (q0 := 1) rfl rfl, PW.of hPc hKc hDc hG hS hFc [.ref a7]⟩ rfl rfl hl.1 rfl (lv_room (Nat.le_of_ble_eq_true rfl)) dX8_document_47 ⟨Nat.le_of_ble_eq_true rfl, Nat.le_of_ble_eq_true rfl⟩) hS (fun q _ h => hFc q h) hFc (fun u t_80 H_77 locs ht hvm hw_79 hB hz1 hk1 hS => ?_)
    obtain ⟨hP, hD, hK⟩ := QW.join (wr := [(h0, .inr (12, [.ref a1, .ref a2, .ref a3, .ref a4, .ref a5, .ref a6, .ref a7, .ref a8, .int tol, .int sal])), (a4, .inr (3, [.int c1_75, .ref qa_76, .int 1])), (o_21, .inr (5, fsx_70))]) (w1 := []) hP hD hK [1, 2, 3] [0, 4, 5] rfl rfl (by decide) (by decide) hk1 hFc ht hvm hB
    have hP : va_P G vwCl ([(h0, .inr (12, [.ref a1, .ref a2, .ref a3, .ref a4, .ref a5, .ref a6, .ref a7, .ref a8, .int tol, .int sal])), (a4, .inr (3, [.int c1_75, .ref qa_76, .int 1])), (o_21, .inr (5, fsx_70))]) H_77 := hP
    have hD : va_D A ([(h0, .inr (12, [.ref a1, .ref a2, .ref a3, .ref a4, .ref a5, .ref a6, .ref a7, .ref a8, .int tol, .int sal])), (a4, .inr (3, [.int c1_75, .ref qa_76, .int 1])), (o_21, .inr (5, fsx_70))]) := hD
    have hK : va_K G vwCl [(cyO, .array .int), (cyI, .int)] s := hK
    refine W.widen (k := 8) (n := 635) (Nat.le_of_ble_eq_true rfl) (Nat.le_of_ble_eq_true rfl) ?_
    refine lv_aload_n hx hb dX8_document_50 rfl (lv_at hl 0 rfl) ?_
    refine va_get (D := G) (ci := 12) (v := .ref a4) (C := RX8) (T := TX8) (N := 10) hx hb hg in_X8 hown hK hP 0 rfl rfl 3 (by decide) (hg _ q128) (fun _ h9 => h9) rfl dX8_document_51 ?_
    have hPc := hP.sub (ws' := [(a4, .inr (3, [.int c1_75, .ref qa_76, .int 1]))]) [1] rfl
    have hKc := hK.sub (tys' := []) [] rfl
    refine va_calli (va_runV (As := []) (rest := []) ⟨hx, hb, hml, hown, hts⟩ (k_Jx4a65c_size_8abf5 l G z a4 c1_75 qa_76 1 H_77.size ) (cwV 0 hts (lw_goodApp (lw_4 q160 q161 q162 q4) q163) rfl rfl rfl (by decide +kernel) ⟨Nat.le_of_ble_eq_true rfl, Nat.le_of_ble_eq_true rfl⟩) ⟨PR.blind, va_recv hK hP (ci := 3) (q0 := 1) rfl rfl, PR.of hPc hKc hG hS hA [.ref a4]⟩ rfl rfl hl.1 rfl (lv_room (Nat.le_of_ble_eq_true rfl)) dX8_document_54 ⟨Nat.le_of_ble_eq_true rfl, Nat.le_of_ble_eq_true rfl⟩) hS (fun q h9 h => zN.not h9 h) (fun q h => hA q (Nat.le_trans hS.1 h)) (fun r_82 u t_84 H_81 locs ht hvm hw_83 hB hz1 hk1 hS => ?_)
    have hP := hP.grown hk1
    refine W.widen (k := 8) (n := 635) (Nat.le_of_ble_eq_true rfl) (Nat.le_of_ble_eq_true rfl) ?_
    obtain rfl : 1 = r_82 := hw_83.symm
    refine lv_iconst (v := 1) hx hb dX8_document_57 (by decide) ?_
    refine lv_isub hx hb dX8_document_58 ?_
    refine lv_topi (fun f_85 ef_85 => ?_)
    obtain rfl : f_85 = 0 := ef_85.trans (by decide)
    refine W.widen (k := 8) (n := 1035) (Nat.le_of_ble_eq_true rfl) (Nat.le_of_ble_eq_true rfl) ?_
    refine vx_ret ?_
    have hP9 := hP.sub (ws' := []) [] rfl
    have hD9 := hD.sub (ws' := []) [] (by decide) rfl
    have hK9 := hK.sub (tys' := []) [] rfl
    exact W.iret (v := 0) hx hb hr (fun t ht hW => ⟨⟨0, (), rfl, ⟨rfl, hw_3, hw_8⟩, QW.of hP9 hK9 hD9 ht hW.alike⟩, hS.F ht⟩) hS.2.2 dX8_document_59
  · refine lv_iload_n hx hb dX8_document_32 rfl (lv_at hl 1 rfl) ?_
    refine lv_iconst (v := 1) hx hb dX8_document_33 (by decide) ?_
    refine lv_iload_n hx hb dX8_document_34 rfl (lv_at hl 2 rfl) ?_
    refine lv_ishl hx hb dX8_document_35 ?_
    refine lv_topi (fun f_86 ef_86 => ?_)
    obtain rfl : f_86 = 8 := ef_86.trans (by decide)
    have hPc := hP.sub (ws' := [(o_21, .inr (5, [.int 0, .int 0, .null, .null, .null, .int 0, .int 0]))]) [5] rfl
    have hKc := hK.sub (tys' := []) [] rfl
    have hDc := hD.sub (ws' := [(o_21, .inr (5, [.int 0, .int 0, .null, .null, .null, .int 0, .int 0]))]) [5] (by decide) rfl
    have hFc := va_free (wc := [(o_21, .inr (5, [.int 0, .int 0, .null, .null, .null, .int 0, .int 0]))]) hD hS hA [5] rfl
    refine va_callv (va_runI (As := [.int p0, .int 8]) (rest := [.ref o_21, .ref a4]) ⟨hx, hb, hml, hown, hts⟩ (k_X1_init_8 l G z o_21 p0 H_22.size ) (cwI 2 hts (lw_goodAll q807) rfl rfl rfl (hg _ q32) (hg _ q805) (hg _ q806) rfl (by decide +kernel) ⟨Nat.le_of_ble_eq_true rfl, Nat.le_of_ble_eq_true rfl⟩) ⟨PW.blind, PW.of hPc hKc hDc hG hS hFc [.ref o_21, .int p0, .int 8]⟩ rfl rfl hl.1 rfl (lv_room (Nat.le_of_ble_eq_true rfl)) dX8_document_36 ⟨Nat.le_of_ble_eq_true rfl, Nat.le_of_ble_eq_true rfl⟩) hS (fun q _ h => hFc q h) hFc (fun u t_90 H_87 locs ht hvm hw_89 hB hz1 hk1 hS => ?_)
    obtain ⟨fsx_91, hB⟩ := hB
    obtain ⟨hP, hD, hK⟩ := QW.join (wr := [(h0, .inr (12, [.ref a1, .ref a2, .ref a3, .ref a4, .ref a5, .ref a6, .ref a7, .ref a8, .int tol, .int sal])), (a4, .inr (3, [.int c0, .ref z, .int 0])), (a7, .inr (4, [.ref d1, .ref d2, .ref d3, .ref d4, .int 0, .int ag])), (d4, .inl (cyO, 20, .inr (.inr (.inr (.inr (fS)))))), (r0, .inl (cyI, 20, .inl (fR)))]) (w1 := [(o_21, .inr (5, fsx_91))]) hP hD hK [5] [0, 1, 2, 3, 4] rfl rfl (by decide) (by decide) hk1 hFc ht hvm hB
    have hP : va_P G vwCl ([(h0, .inr (12, [.ref a1, .ref a2, .ref a3, .ref a4, .ref a5, .ref a6, .ref a7, .ref a8, .int tol, .int sal])), (a4, .inr (3, [.int c0, .ref z, .int 0])), (a7, .inr (4, [.ref d1, .ref d2, .ref d3, .ref d4, .int 0, .int ag])), (d4, .inl (cyO, 20, .inr (.inr (.inr (.inr (fS)))))), (r0, .inl (cyI, 20, .inl (fR))), (o_21, .inr (5, fsx_91))]) H_87 := hP
    have hD : va_D A ([(h0, .inr (12, [.ref a1, .ref a2, .ref a3, .ref a4, .ref a5, .ref a6, .ref a7, .ref a8, .int tol, .int sal])), (a4, .inr (3, [.int c0, .ref z, .int 0])), (a7, .inr (4, [.ref d1, .ref d2, .ref d3, .ref d4, .int 0, .int ag])), (d4, .inl (cyO, 20, .inr (.inr (.inr (.inr (fS)))))), (r0, .inl (cyI, 20, .inl (fR))), (o_21, .inr (5, fsx_91))]) := hD
    have hK : va_K G vwCl [(cyO, .array .int), (cyI, .int)] s := hK
    refine W.widen (k := 7) (n := 1025) (Nat.le_of_ble_eq_true rfl) (Nat.le_of_ble_eq_true rfl) ?_
    have hPc := hP.sub (ws' := [(a4, .inr (3, [.int c0, .ref z, .int 0])), (o_21, .inr (5, fsx_91))]) [1, 5] rfl
    have hKc := hK.sub (tys' := []) [] rfl
    have hDc := hD.sub (ws' := [(a4, .inr (3, [.int c0, .ref z, .int 0])), (o_21, .inr (5, fsx_91))]) [1, 5] (by decide) rfl
    have hFc := va_free (wc := [(a4, .inr (3, [.int c0, .ref z, .int 0])), (o_21, .inr (5, fsx_91))]) hD hS hA [1, 5] rfl
    refine va_calli (va_runV (As := [.ref o_21]) (rest := []) ⟨hx, hb, hml, hown, hts⟩ (k_Jx4a65c_add_9ea2d l G z a4 c0 o_21 5 ((RX1, TX1, 7)) fsx_91 H_87.size rfl qf1763) (cwV 1 hts (lw_goodApp (lw_4 q448 q449 q450 q4) q451) rfl rfl rfl (by decide +kernel) ⟨Nat.le_of_ble_eq_true rfl, Nat.le_of_ble_eq_true rfl⟩) ⟨PW.blind, va_recv hK hP (ci := 3) (q0 := 1) rfl rfl, PW.of hPc hKc hDc hG hS hFc [.ref a4, .ref o_21]⟩ rfl rfl hl.1 rfl (lv_room (Nat.le_of_ble_eq_true rfl)) dX8_document_39 ⟨Nat.le_of_ble_eq_true rfl, Nat.le_of_ble_eq_true rfl⟩) hS (fun q _ h => hFc q h) hFc (fun r_93 u t_95 H_92 locs ht hvm hw_94 hB hz1 hk1 hS => ?_)
    obtain ⟨c1_96, qa_97, hB⟩ := hB
    obtain ⟨hP, hD, hK⟩ := QW.join (wr := [(h0, .inr (12, [.ref a1, .ref a2, .ref a3, .ref a4, .ref a5, .ref a6, .ref a7, .ref a8, .int tol, .int sal])), (a7, .inr (4, [.ref d1, .ref d2, .ref d3, .ref d4, .int 0, .int ag])), (d4, .inl (cyO, 20, .inr (.inr (.inr (.inr (fS)))))), (r0, .inl (cyI, 20, .inl (fR)))]) (w1 := [(a4, .inr (3, [.int c1_96, .ref qa_97, .int 1])), (o_21, .inr (5, fsx_91))]) hP hD hK [1, 5] [0, 2, 3, 4] rfl rfl (by decide) (by decide) hk1 hFc ht hvm hB
    have hP : va_P G vwCl ([(h0, .inr (12, [.ref a1, .ref a2, .ref a3, .ref a4, .ref a5, .ref a6, .ref a7, .ref a8, .int tol, .int sal])), (a7, .inr (4, [.ref d1, .ref d2, .ref d3, .ref d4, .int 0, .int ag])), (d4, .inl (cyO, 20, .inr (.inr (.inr (.inr (fS)))))), (r0, .inl (cyI, 20, .inl (fR))), (a4, .inr (3, [.int c1_96, .ref qa_97, .int 1])), (o_21, .inr (5, fsx_91))]) H_92 := hP
    have hD : va_D A ([(h0, .inr (12, [.ref a1, .ref a2, .ref a3, .ref a4, .ref a5, .ref a6, .ref a7, .ref a8, .int tol, .int sal])), (a7, .inr (4, [.ref d1, .ref d2, .ref d3, .ref d4, .int 0, .int ag])), (d4, .inl (cyO, 20, .inr (.inr (.inr (.inr (fS)))))), (r0, .inl (cyI, 20, .inl (fR))), (a4, .inr (3, [.int c1_96, .ref qa_97, .int 1])), (o_21, .inr (5, fsx_91))]) := hD
    have hK : va_K G vwCl [(cyO, .array .int), (cyI, .int)] s := hK
    refine W.widen (k := 8) (n := 1035) (Nat.le_of_ble_eq_true rfl) (Nat.le_of_ble_eq_true rfl) ?_
    obtain rfl : 1 = r_93 := hw_94.symm
    refine lv_pop hx hb dX8_document_42 rfl ?_
    refine lv_aload_n hx hb dX8_document_43 rfl (lv_at hl 0 rfl) ?_
    refine va_get (D := G) (ci := 12) (v := .ref a7) (C := RX8) (T := TX8) (N := 10) hx hb hg in_X8 hown hK hP 0 rfl rfl 6 (by decide) (hg _ q131) (fun _ h9 => h9) rfl dX8_document_44 ?_
    have hPc := hP.sub (ws' := [(a7, .inr (4, [.ref d1, .ref d2, .ref d3, .ref d4, .int 0, .int ag])), (d4, .inl (cyO, 20, .inr (.inr (.inr (.inr (fS)))))), (r0, .inl (cyI, 20, .inl (fR)))]) [1, 2, 3] rfl
    have hKc := hK.sub (tys' := [(cyO, .array .int), (cyI, .int)]) [0, 1] rfl
    have hDc := hD.sub (ws' := [(a7, .inr (4, [.ref d1, .ref d2, .ref d3, .ref d4, .int 0, .int ag])), (d4, .inl (cyO, 20, .inr (.inr (.inr (.inr (fS)))))), (r0, .inl (cyI, 20, .inl (fR)))]) [1, 2, 3] (by decide) rfl
    have hFc := va_free (wc := [(a7, .inr (4, [.ref d1, .ref d2, .ref d3, .ref d4, .int 0, .int ag])), (d4, .inl (cyO, 20, .inr (.inr (.inr (.inr (fS)))))), (r0, .inl (cyI, 20, .inl (fR)))]) hD hS hA [1, 2, 3] rfl
    refine va_callv (va_runV (As := []) (rest := []) ⟨hx, hb, hml, hown, hts⟩ (k_X0_addDocument l G z a7 d1 d2 d3 d4 ag cyO fS cyI fR r0 H_92.size hfS) (cwV 0 hts (lw_goodApp (lw_4 q837 q838 q839 q6) q840) rfl rfl rfl (by decide +kernel) ⟨Nat.le_of_ble_eq_true rfl, Nat.le_of_ble_eq_true rfl⟩) ⟨PW.blind, va_recv hK hP (ci := 4) (q0 := 1) rfl rfl, PW.of hPc hKc hDc hG hS hFc [.ref a7]⟩ rfl rfl hl.1 rfl (lv_room (Nat.le_of_ble_eq_true rfl)) dX8_document_47 ⟨Nat.le_of_ble_eq_true rfl, Nat.le_of_ble_eq_true rfl⟩) hS (fun q _ h => hFc q h) hFc (fun u t_101 H_98 locs ht hvm hw_100 hB hz1 hk1 hS => ?_)
    obtain ⟨hP, hD, hK⟩ := QW.join (wr := [(h0, .inr (12, [.ref a1, .ref a2, .ref a3, .ref a4, .ref a5, .ref a6, .ref a7, .ref a8, .int tol, .int sal])), (a4, .inr (3, [.int c1_96, .ref qa_97, .int 1])), (o_21, .inr (5, fsx_91))]) (w1 := []) hP hD hK [1, 2, 3] [0, 4, 5] rfl rfl (by decide) (by decide) hk1 hFc ht hvm hB
    have hP : va_P G vwCl ([(h0, .inr (12, [.ref a1, .ref a2, .ref a3, .ref a4, .ref a5, .ref a6, .ref a7, .ref a8, .int tol, .int sal])), (a4, .inr (3, [.int c1_96, .ref qa_97, .int 1])), (o_21, .inr (5, fsx_91))]) H_98 := hP
    have hD : va_D A ([(h0, .inr (12, [.ref a1, .ref a2, .ref a3, .ref a4, .ref a5, .ref a6, .ref a7, .ref a8, .int tol, .int sal])), (a4, .inr (3, [.int c1_96, .ref qa_97, .int 1])), (o_21, .inr (5, fsx_91))]) := hD
    have hK : va_K G vwCl [(cyO, .array .int), (cyI, .int)] s := hK
    refine W.widen (k := 8) (n := 1035) (Nat.le_of_ble_eq_true rfl) (Nat.le_of_ble_eq_true rfl) ?_
    refine lv_aload_n hx hb dX8_document_50 rfl (lv_at hl 0 rfl) ?_
    refine va_get (D := G) (ci := 12) (v := .ref a4) (C := RX8) (T := TX8) (N := 10) hx hb hg in_X8 hown hK hP 0 rfl rfl 3 (by decide) (hg _ q128) (fun _ h9 => h9) rfl dX8_document_51 ?_
    have hPc := hP.sub (ws' := [(a4, .inr (3, [.int c1_96, .ref qa_97, .int 1]))]) [1] rfl
    have hKc := hK.sub (tys' := []) [] rfl
    refine va_calli (va_runV (As := []) (rest := []) ⟨hx, hb, hml, hown, hts⟩ (k_Jx4a65c_size_8abf5 l G z a4 c1_96 qa_97 1 H_98.size ) (cwV 0 hts (lw_goodApp (lw_4 q160 q161 q162 q4) q163) rfl rfl rfl (by decide +kernel) ⟨Nat.le_of_ble_eq_true rfl, Nat.le_of_ble_eq_true rfl⟩) ⟨PR.blind, va_recv hK hP (ci := 3) (q0 := 1) rfl rfl, PR.of hPc hKc hG hS hA [.ref a4]⟩ rfl rfl hl.1 rfl (lv_room (Nat.le_of_ble_eq_true rfl)) dX8_document_54 ⟨Nat.le_of_ble_eq_true rfl, Nat.le_of_ble_eq_true rfl⟩) hS (fun q h9 h => zN.not h9 h) (fun q h => hA q (Nat.le_trans hS.1 h)) (fun r_103 u t_105 H_102 locs ht hvm hw_104 hB hz1 hk1 hS => ?_)
    have hP := hP.grown hk1
    refine W.widen (k := 8) (n := 1035) (Nat.le_of_ble_eq_true rfl) (Nat.le_of_ble_eq_true rfl) ?_
    obtain rfl : 1 = r_103 := hw_104.symm
    refine lv_iconst (v := 1) hx hb dX8_document_57 (by decide) ?_
    refine lv_isub hx hb dX8_document_58 ?_
    refine lv_topi (fun f_106 ef_106 => ?_)
    obtain rfl : f_106 = 0 := ef_106.trans (by decide)
    refine W.widen (k := 8) (n := 1035) (Nat.le_of_ble_eq_true rfl) (Nat.le_of_ble_eq_true rfl) ?_
    refine vx_ret ?_
    have hP9 := hP.sub (ws' := []) [] rfl
    have hD9 := hD.sub (ws' := []) [] (by decide) rfl
    have hK9 := hK.sub (tys' := []) [] rfl
    exact W.iret (v := 0) hx hb hr (fun t ht hW => ⟨⟨0, (), rfl, ⟨rfl, hw_3, hw_8⟩, QW.of hP9 hK9 hD9 ht hW.alike⟩, hS.F ht⟩) hS.2.2 dX8_document_59

abbrev wz_X8_checkEntry : List Cond := .code yX8_checkEntry cX8_checkEntry 2 none :: lw_good
set_option maxHeartbeats 4000000 in
set_option maxRecDepth 100000 in
/-- checkEntry -/
theorem k_X8_checkEntry (l : Launch) (hfl : l.stackTraces = false) (G : va_G) (z : Nat) (p0 : Int32) (p1 : Int32) (sz : Nat)  : vx_Met l yX8_checkEntry wz_X8_checkEntry ({ frames := 7, cells := 2, slots := 12, locals := 104 }) (va_Pc [.int p0, .int p1] (PR G z [] [] sz)) (va_Qv (fun (_ : Unit) => okE p0 p1) (fun (_ : Unit) (_ : State) => True) (zN sz)) (zX (¬ okE p0 p1) "java/lang/IllegalArgumentException" (zN sz)) 2 12 (zN sz) := by
  refine vx_ofW (cc := cX8_checkEntry) (maxL := 2) (ret := none) (by decide) rfl ?_
  intro p e s m args below meth c s₁ B hml htab hv
  obtain ⟨rfl, rfl, hP, hK, hG⟩ := hv
  have hx := B.exec
  have hb := B.bytes
  have hr := B.returns
  have hts := atoms_spec (ws := wz_X8_checkEntry) B.pre
  have hg : ∀ w ∈ lw_good, w.before _ s = true := fun w h => hts w (List.mem_cons_of_mem _ h)
  have hown : s.vm.findClass RX8 = some m.cls := findClass_of_methodNamed B.named
  have hlocks := B.notSynchronized
  have hA : ∀ q : Nat, s.heap.size ≤ q → zN s.heap.size q := fun _ h => h
  have hS : va_S (zN s.heap.size) s.heap s.heap [] := va_S.rf
  have hl := lv_entry ([.int p0, .int p1]) (n := 2) (Nat.le_of_ble_eq_true rfl)
  rw [lg_entry_eq]
  generalize (lg_sl ([.int p0, .int p1]) ++ List.replicate (2 - (lg_sl ([.int p0, .int p1])).length) Slot.unset).toArray = ls at hl ⊢
  have hl : lv_has ls 2 [(0, .int p0), (1, .int p1)] := hl
  refine lv_iload_n hx hb dX8_checkEntry_0 rfl (lv_at hl 0 rfl) ?_
  refine lv_iconst (v := 0) hx hb dX8_checkEntry_1 (by decide) ?_
  refine lv_iconst (v := 3) hx hb dX8_checkEntry_2 (by decide) ?_
  have hPc := hP.sub (ws' := []) [] rfl
  have hKc := hK.sub (tys' := []) [] rfl
  refine vx_callv (vx_runS (As := [.int p0, .int 0, .int 3]) (rest := []) ⟨hx, hb, hml, hown, hts⟩ (k_X8_checkRange l hfl G z p0 0 3 s.heap.size ) (va_cwS 3 hts (lw_goodApp (lw_3 q308 q309 q1) q310) rfl rfl rfl (by decide +kernel) ⟨Nat.le_of_ble_eq_true rfl, Nat.le_of_ble_eq_true rfl⟩) ⟨PR.blind, PR.of hPc hKc hG hS hA [.int p0, .int 0, .int 3]⟩ rfl rfl hl.1 rfl (lv_room (Nat.le_of_ble_eq_true rfl)) dX8_checkEntry_3 ⟨Nat.le_of_ble_eq_true rfl, Nat.le_of_ble_eq_true rfl⟩) hS (fun q h9 h => zN.not h9 h) (fun q h => hA q (Nat.le_trans hS.1 h)) (fun q h9 h => zN.not h9 h) (fun E ce q9 ux t_4 H_1 locs ht hvm px_5 hE hz1 hk1 hS hq9 hv9 hcl9 => ?_) (fun u t_4 H_1 locs ht hvm hw_3 hB hz1 hk1 hS => ?_)
  · exact vx_out (fun x9 h9 => (htab x9 h9).elim) hlocks hq9 hv9 hcl9 (fun t2 ht2 hal2 => zX.same (fun h9 => px_5 h9.1) hE hS ht2) hS.2.2 (Nat.le_of_ble_eq_true rfl) (Nat.le_of_ble_eq_true rfl)
  have hP := hP.grown hk1
  refine W.widen (k := 1) (n := 6) (Nat.le_of_ble_eq_true rfl) (Nat.le_of_ble_eq_true rfl) ?_
  refine lv_iload_n hx hb dX8_checkEntry_6 rfl (lv_at hl 1 rfl) ?_
  refine lv_iconst (v := 0) hx hb dX8_checkEntry_7 (by decide) ?_
  refine lv_bipush (v := 99) hx hb dX8_checkEntry_8 (by decide) ?_
  have hPc := hP.sub (ws' := []) [] rfl
  have hKc := hK.sub (tys' := []) [] rfl
  refine vx_callv (vx_runS (As := [.int p1, .int 0, .int 99]) (rest := []) ⟨hx, hb, hml, hown, hts⟩ (k_X8_checkRange l hfl G z p1 0 99 H_1.size ) (va_cwS 3 hts (lw_goodApp (lw_3 q308 q309 q1) q310) rfl rfl rfl (by decide +kernel) ⟨Nat.le_of_ble_eq_true rfl, Nat.le_of_ble_eq_true rfl⟩) ⟨PR.blind, PR.of hPc hKc hG hS hA [.int p1, .int 0, .int 99]⟩ rfl rfl hl.1 rfl (lv_room (Nat.le_of_ble_eq_true rfl)) dX8_checkEntry_10 ⟨Nat.le_of_ble_eq_true rfl, Nat.le_of_ble_eq_true rfl⟩) hS (fun q h9 h => zN.not h9 h) (fun q h => hA q (Nat.le_trans hS.1 h)) (fun q h9 h => zN.not h9 h) (fun E ce q9 ux t_9 H_6 locs ht hvm px_10 hE hz1 hk1 hS hq9 hv9 hcl9 => ?_) (fun u t_9 H_6 locs ht hvm hw_8 hB hz1 hk1 hS => ?_)
  · exact vx_out (fun x9 h9 => (htab x9 h9).elim) hlocks hq9 hv9 hcl9 (fun t2 ht2 hal2 => zX.same (fun h9 => px_10 h9.2) hE hS ht2) hS.2.2 (Nat.le_of_ble_eq_true rfl) (Nat.le_of_ble_eq_true rfl)
  have hP := hP.grown hk1
  refine W.widen (k := 2) (n := 12) (Nat.le_of_ble_eq_true rfl) (Nat.le_of_ble_eq_true rfl) ?_
  refine W.widen (k := 2) (n := 12) (Nat.le_of_ble_eq_true rfl) (Nat.le_of_ble_eq_true rfl) ?_
  refine vx_ret ?_
  exact W.vret hx hb hr (fun t ht hW => ⟨⟨(), rfl, ⟨hw_3, hw_8⟩, trivial⟩, hS.F ht⟩) hS.2.2 dX8_checkEntry_13
end
section
theorem mmax_lX629 : Cond.methodLink "Watermarkmill$Repertory" 29 Lib.Math.max.name ∈ lw_good := lw_in (i := 1039) (by decide +kernel) (by decide +kernel)
theorem mmin_lX635 : Cond.methodLink "Watermarkmill$Repertory" 35 Lib.Math.min.name ∈ lw_good := lw_in (i := 1040) (by decide +kernel) (by decide +kernel)
theorem q1031 : Cond.code yX8_merge prog_1_method_30_code 5 (Option.some Jvm.ClassFile.FieldType.boolean) ∈ lw_good := lw_in (i := 1031) (by decide +kernel) (by decide +kernel)
theorem q1032 : Cond.methodLink "Watermarkmill" 298 yX8_checkEntry ∈ lw_good := lw_in (i := 1032) (by decide +kernel) (by decide +kernel)
theorem q1033 : Cond.static yX8_checkEntry ∈ lw_good := lw_in (i := 1033) (by decide +kernel) (by decide +kernel)
theorem q1035 : Cond.methodLink "Watermarkmill" 301 yX6_join ∈ lw_good := lw_in (i := 1035) (by decide +kernel) (by decide +kernel)
theorem q1036 : Cond.instanceMethod yX6_join ∈ lw_good := lw_in (i := 1036) (by decide +kernel) (by decide +kernel)
theorem q1037 : Cond.selects "Watermarkmill$Repertory" yX6_join yX6_join ∈ lw_good := lw_in (i := 1037) (by decide +kernel) (by decide +kernel)
theorem q1038 : Cond.code yX6_join prog_8_method_3_code 6 (Option.some Jvm.ClassFile.FieldType.boolean) ∈ lw_good := lw_in (i := 1038) (by decide +kernel) (by decide +kernel)
theorem q1059 : Cond.code yX8_entry prog_1_method_32_code 3 (Option.some Jvm.ClassFile.FieldType.int) ∈ lw_good := lw_in (i := 1059) (by decide +kernel) (by decide +kernel)
theorem q1060 : Cond.methodLink "Watermarkmill" 313 yX6_lowestOf ∈ lw_good := lw_in (i := 1060) (by decide +kernel) (by decide +kernel)
theorem q16 : Cond.initialized "java/util/Arrays" ∈ lw_good := lw_in (i := 16) (by decide +kernel) (by decide +kernel)
theorem q205 : Cond.code yX8_clashes prog_1_method_33_code 3 (Option.some Jvm.ClassFile.FieldType.int) ∈ lw_good := lw_in (i := 205) (by decide +kernel) (by decide +kernel)
theorem q206 : Cond.methodLink "Watermarkmill" 316 yX6_clashesAmong ∈ lw_good := lw_in (i := 206) (by decide +kernel) (by decide +kernel)
theorem q207 : Cond.instanceMethod yX6_clashesAmong ∈ lw_good := lw_in (i := 207) (by decide +kernel) (by decide +kernel)
theorem q208 : Cond.selects "Watermarkmill$Repertory" yX6_clashesAmong yX6_clashesAmong ∈ lw_good := lw_in (i := 208) (by decide +kernel) (by decide +kernel)
theorem q209 : Cond.code yX6_clashesAmong prog_8_method_5_code 6 (Option.some Jvm.ClassFile.FieldType.int) ∈ lw_good := lw_in (i := 209) (by decide +kernel) (by decide +kernel)
theorem q210 : Cond.methodLink "Watermarkmill$Repertory" 38 yJ7_fill_53178 ∈ lw_good := lw_in (i := 210) (by decide +kernel) (by decide +kernel)
theorem q211 : Cond.static yJ7_fill_53178 ∈ lw_good := lw_in (i := 211) (by decide +kernel) (by decide +kernel)
theorem q212 : Cond.code yJ7_fill_53178 prog_36_method_103_code 4 (Option.none : Option Jvm.ClassFile.FieldType) ∈ lw_good := lw_in (i := 212) (by decide +kernel) (by decide +kernel)
theorem q213 : Cond.methodLink "Watermarkmill$Repertory" 25 yX6_lowestOf ∈ lw_good := lw_in (i := 213) (by decide +kernel) (by decide +kernel)
theorem q214 : Cond.instanceMethod yX6_lowestOf ∈ lw_good := lw_in (i := 214) (by decide +kernel) (by decide +kernel)
theorem q215 : Cond.selects "Watermarkmill$Repertory" yX6_lowestOf yX6_lowestOf ∈ lw_good := lw_in (i := 215) (by decide +kernel) (by decide +kernel)
theorem q216 : Cond.code yX6_lowestOf prog_8_method_2_code 4 (Option.some Jvm.ClassFile.FieldType.int) ∈ lw_good := lw_in (i := 216) (by decide +kernel) (by decide +kernel)
theorem q5 : Cond.initialized "Watermarkmill$Repertory" ∈ lw_good := lw_in (i := 5) (by decide +kernel) (by decide +kernel)
theorem q80 : Cond.fieldLink "Watermarkmill$Repertory" 9 "Watermarkmill$Repertory" "above" "[I" ∈ lw_good := lw_in (i := 80) (by decide +kernel) (by decide +kernel)
theorem q81 : Cond.fieldLink "Watermarkmill$Repertory" 15 "Watermarkmill$Repertory" "linked" "[I" ∈ lw_good := lw_in (i := 81) (by decide +kernel) (by decide +kernel)
theorem q82 : Cond.fieldLink "Watermarkmill$Repertory" 18 "Watermarkmill$Repertory" "tally" "[I" ∈ lw_good := lw_in (i := 82) (by decide +kernel) (by decide +kernel)
theorem q83 : Cond.fieldLink "Watermarkmill$Repertory" 21 "Watermarkmill$Repertory" "mergings" "I" ∈ lw_good := lw_in (i := 83) (by decide +kernel) (by decide +kernel)
theorem dJ7_fill_53178_0 : decode cJ7_fill_53178 0 = .ok (.iconst 0, 1) := by decide +kernel
theorem dJ7_fill_53178_1 : decode cJ7_fill_53178 1 = .ok (.istore_n 2, 1) := by decide +kernel
theorem dJ7_fill_53178_10 : decode cJ7_fill_53178 10 = .ok (.aload_n 0, 1) := by decide +kernel
theorem dJ7_fill_53178_11 : decode cJ7_fill_53178 11 = .ok (.iload_n 2, 1) := by decide +kernel
theorem dJ7_fill_53178_12 : decode cJ7_fill_53178 12 = .ok (.iload_n 1, 1) := by decide +kernel
theorem dJ7_fill_53178_13 : decode cJ7_fill_53178 13 = .ok (.iastore, 1) := by decide +kernel
theorem dJ7_fill_53178_14 : decode cJ7_fill_53178 14 = .ok (.iinc 2 1, 3) := by decide +kernel
theorem dJ7_fill_53178_17 : decode cJ7_fill_53178 17 = .ok (.goto (-12), 3) := by decide +kernel
theorem dJ7_fill_53178_2 : decode cJ7_fill_53178 2 = .ok (.aload_n 0, 1) := by decide +kernel
theorem dJ7_fill_53178_20 : decode cJ7_fill_53178 20 = .ok (.return_, 1) := by decide +kernel
theorem dJ7_fill_53178_3 : decode cJ7_fill_53178 3 = .ok (.arraylength, 1) := by decide +kernel
theorem dJ7_fill_53178_4 : decode cJ7_fill_53178 4 = .ok (.istore_n 3, 1) := by decide +kernel
theorem dJ7_fill_53178_5 : decode cJ7_fill_53178 5 = .ok (.iload_n 2, 1) := by decide +kernel
theorem dJ7_fill_53178_6 : decode cJ7_fill_53178 6 = .ok (.iload_n 3, 1) := by decide +kernel
theorem dJ7_fill_53178_7 : decode cJ7_fill_53178 7 = .ok (.if_icmp .ge 13, 3) := by decide +kernel
theorem dX6_clashesAmong_0 : decode cX6_clashesAmong 0 = .ok (.aload_n 0, 1) := by decide +kernel
theorem dX6_clashesAmong_1 : decode cX6_clashesAmong 1 = .ok (.getfield 18, 3) := by decide +kernel
theorem dX6_clashesAmong_10 : decode cX6_clashesAmong 10 = .ok (.iload_n 1, 1) := by decide +kernel
theorem dX6_clashesAmong_11 : decode cX6_clashesAmong 11 = .ok (.istore 4, 2) := by decide +kernel
theorem dX6_clashesAmong_13 : decode cX6_clashesAmong 13 = .ok (.iload 4, 2) := by decide +kernel
theorem dX6_clashesAmong_15 : decode cX6_clashesAmong 15 = .ok (.iload_n 2, 1) := by decide +kernel
theorem dX6_clashesAmong_16 : decode cX6_clashesAmong 16 = .ok (.if_icmp .ge 62, 3) := by decide +kernel
theorem dX6_clashesAmong_19 : decode cX6_clashesAmong 19 = .ok (.aload_n 0, 1) := by decide +kernel
theorem dX6_clashesAmong_20 : decode cX6_clashesAmong 20 = .ok (.iload 4, 2) := by decide +kernel
theorem dX6_clashesAmong_22 : decode cX6_clashesAmong 22 = .ok (.invokevirtual 25, 3) := by decide +kernel
theorem dX6_clashesAmong_25 : decode cX6_clashesAmong 25 = .ok (.istore 5, 2) := by decide +kernel
theorem dX6_clashesAmong_27 : decode cX6_clashesAmong 27 = .ok (.aload_n 0, 1) := by decide +kernel
theorem dX6_clashesAmong_28 : decode cX6_clashesAmong 28 = .ok (.getfield 18, 3) := by decide +kernel
theorem dX6_clashesAmong_31 : decode cX6_clashesAmong 31 = .ok (.iload 5, 2) := by decide +kernel
theorem dX6_clashesAmong_33 : decode cX6_clashesAmong 33 = .ok (.dup2, 1) := by decide +kernel
theorem dX6_clashesAmong_34 : decode cX6_clashesAmong 34 = .ok (.iaload, 1) := by decide +kernel
theorem dX6_clashesAmong_35 : decode cX6_clashesAmong 35 = .ok (.iconst 1, 1) := by decide +kernel
theorem dX6_clashesAmong_36 : decode cX6_clashesAmong 36 = .ok (.iadd, 1) := by decide +kernel
theorem dX6_clashesAmong_37 : decode cX6_clashesAmong 37 = .ok (.iastore, 1) := by decide +kernel
theorem dX6_clashesAmong_38 : decode cX6_clashesAmong 38 = .ok (.iload_n 3, 1) := by decide +kernel
theorem dX6_clashesAmong_39 : decode cX6_clashesAmong 39 = .ok (.aload_n 0, 1) := by decide +kernel
theorem dX6_clashesAmong_4 : decode cX6_clashesAmong 4 = .ok (.iconst 0, 1) := by decide +kernel
theorem dX6_clashesAmong_40 : decode cX6_clashesAmong 40 = .ok (.getfield 18, 3) := by decide +kernel
theorem dX6_clashesAmong_43 : decode cX6_clashesAmong 43 = .ok (.iload 5, 2) := by decide +kernel
theorem dX6_clashesAmong_45 : decode cX6_clashesAmong 45 = .ok (.iaload, 1) := by decide +kernel
theorem dX6_clashesAmong_46 : decode cX6_clashesAmong 46 = .ok (.iconst 1, 1) := by decide +kernel
theorem dX6_clashesAmong_47 : decode cX6_clashesAmong 47 = .ok (.if_icmp .ne 7, 3) := by decide +kernel
theorem dX6_clashesAmong_5 : decode cX6_clashesAmong 5 = .ok (.invokestatic 38, 3) := by decide +kernel
theorem dX6_clashesAmong_50 : decode cX6_clashesAmong 50 = .ok (.iconst 0, 1) := by decide +kernel
theorem dX6_clashesAmong_51 : decode cX6_clashesAmong 51 = .ok (.goto 19, 3) := by decide +kernel
theorem dX6_clashesAmong_70 : decode cX6_clashesAmong 70 = .ok (.iadd, 1) := by decide +kernel
theorem dX6_clashesAmong_71 : decode cX6_clashesAmong 71 = .ok (.istore_n 3, 1) := by decide +kernel
theorem dX6_clashesAmong_72 : decode cX6_clashesAmong 72 = .ok (.iinc 4 1, 3) := by decide +kernel
theorem dX6_clashesAmong_75 : decode cX6_clashesAmong 75 = .ok (.goto (-62), 3) := by decide +kernel
theorem dX6_clashesAmong_78 : decode cX6_clashesAmong 78 = .ok (.iload_n 3, 1) := by decide +kernel
theorem dX6_clashesAmong_79 : decode cX6_clashesAmong 79 = .ok (.ireturn, 1) := by decide +kernel
theorem dX6_clashesAmong_8 : decode cX6_clashesAmong 8 = .ok (.iconst 0, 1) := by decide +kernel
theorem dX6_clashesAmong_9 : decode cX6_clashesAmong 9 = .ok (.istore_n 3, 1) := by decide +kernel
theorem dX6_join_0 : decode cX6_join 0 = .ok (.aload_n 0, 1) := by decide +kernel
theorem dX6_join_1 : decode cX6_join 1 = .ok (.iload_n 1, 1) := by decide +kernel
theorem dX6_join_11 : decode cX6_join 11 = .ok (.istore 4, 2) := by decide +kernel
theorem dX6_join_13 : decode cX6_join 13 = .ok (.aload_n 0, 1) := by decide +kernel
theorem dX6_join_14 : decode cX6_join 14 = .ok (.getfield 21, 3) := by decide +kernel
theorem dX6_join_17 : decode cX6_join 17 = .ok (.sipush 512, 3) := by decide +kernel
theorem dX6_join_2 : decode cX6_join 2 = .ok (.invokevirtual 25, 3) := by decide +kernel
theorem dX6_join_20 : decode cX6_join 20 = .ok (.if_icmp .ge 61, 3) := by decide +kernel
theorem dX6_join_23 : decode cX6_join 23 = .ok (.iload_n 3, 1) := by decide +kernel
theorem dX6_join_24 : decode cX6_join 24 = .ok (.iload 4, 2) := by decide +kernel
theorem dX6_join_26 : decode cX6_join 26 = .ok (.if_icmp .ne 7, 3) := by decide +kernel
theorem dX6_join_29 : decode cX6_join 29 = .ok (.iconst (-1), 1) := by decide +kernel
theorem dX6_join_30 : decode cX6_join 30 = .ok (.goto 9, 3) := by decide +kernel
theorem dX6_join_33 : decode cX6_join 33 = .ok (.iload_n 3, 1) := by decide +kernel
theorem dX6_join_34 : decode cX6_join 34 = .ok (.iload 4, 2) := by decide +kernel
theorem dX6_join_36 : decode cX6_join 36 = .ok (.invokestatic 29, 3) := by decide +kernel
theorem dX6_join_39 : decode cX6_join 39 = .ok (.istore 5, 2) := by decide +kernel
theorem dX6_join_41 : decode cX6_join 41 = .ok (.iload 5, 2) := by decide +kernel
theorem dX6_join_43 : decode cX6_join 43 = .ok (.iconst (-1), 1) := by decide +kernel
theorem dX6_join_44 : decode cX6_join 44 = .ok (.if_icmp .eq 16, 3) := by decide +kernel
theorem dX6_join_47 : decode cX6_join 47 = .ok (.aload_n 0, 1) := by decide +kernel
theorem dX6_join_48 : decode cX6_join 48 = .ok (.getfield 9, 3) := by decide +kernel
theorem dX6_join_5 : decode cX6_join 5 = .ok (.istore_n 3, 1) := by decide +kernel
theorem dX6_join_51 : decode cX6_join 51 = .ok (.iload 5, 2) := by decide +kernel
theorem dX6_join_53 : decode cX6_join 53 = .ok (.iload_n 3, 1) := by decide +kernel
theorem dX6_join_54 : decode cX6_join 54 = .ok (.iload 4, 2) := by decide +kernel
theorem dX6_join_56 : decode cX6_join 56 = .ok (.invokestatic 35, 3) := by decide +kernel
theorem dX6_join_59 : decode cX6_join 59 = .ok (.iastore, 1) := by decide +kernel
theorem dX6_join_6 : decode cX6_join 6 = .ok (.aload_n 0, 1) := by decide +kernel
theorem dX6_join_60 : decode cX6_join 60 = .ok (.aload_n 0, 1) := by decide +kernel
theorem dX6_join_61 : decode cX6_join 61 = .ok (.getfield 15, 3) := by decide +kernel
theorem dX6_join_64 : decode cX6_join 64 = .ok (.aload_n 0, 1) := by decide +kernel
theorem dX6_join_65 : decode cX6_join 65 = .ok (.getfield 21, 3) := by decide +kernel
theorem dX6_join_68 : decode cX6_join 68 = .ok (.iload 5, 2) := by decide +kernel
theorem dX6_join_7 : decode cX6_join 7 = .ok (.iload_n 2, 1) := by decide +kernel
theorem dX6_join_70 : decode cX6_join 70 = .ok (.iastore, 1) := by decide +kernel
theorem dX6_join_71 : decode cX6_join 71 = .ok (.aload_n 0, 1) := by decide +kernel
theorem dX6_join_72 : decode cX6_join 72 = .ok (.dup, 1) := by decide +kernel
theorem dX6_join_73 : decode cX6_join 73 = .ok (.getfield 21, 3) := by decide +kernel
theorem dX6_join_76 : decode cX6_join 76 = .ok (.iconst 1, 1) := by decide +kernel
theorem dX6_join_77 : decode cX6_join 77 = .ok (.iadd, 1) := by decide +kernel
theorem dX6_join_78 : decode cX6_join 78 = .ok (.putfield 21, 3) := by decide +kernel
theorem dX6_join_8 : decode cX6_join 8 = .ok (.invokevirtual 25, 3) := by decide +kernel
theorem dX6_join_81 : decode cX6_join 81 = .ok (.iload_n 3, 1) := by decide +kernel
theorem dX6_join_82 : decode cX6_join 82 = .ok (.iload 4, 2) := by decide +kernel
theorem dX6_join_84 : decode cX6_join 84 = .ok (.if_icmp .eq 7, 3) := by decide +kernel
theorem dX6_join_87 : decode cX6_join 87 = .ok (.iconst 1, 1) := by decide +kernel
theorem dX6_join_88 : decode cX6_join 88 = .ok (.goto 4, 3) := by decide +kernel
theorem dX6_join_91 : decode cX6_join 91 = .ok (.iconst 0, 1) := by decide +kernel
theorem dX6_join_92 : decode cX6_join 92 = .ok (.ireturn, 1) := by decide +kernel
theorem dX6_lowestOf_0 : decode cX6_lowestOf 0 = .ok (.iload_n 1, 1) := by decide +kernel
theorem dX6_lowestOf_1 : decode cX6_lowestOf 1 = .ok (.istore_n 2, 1) := by decide +kernel
theorem dX6_lowestOf_11 : decode cX6_lowestOf 11 = .ok (.aload_n 0, 1) := by decide +kernel
theorem dX6_lowestOf_12 : decode cX6_lowestOf 12 = .ok (.getfield 9, 3) := by decide +kernel
theorem dX6_lowestOf_15 : decode cX6_lowestOf 15 = .ok (.iload_n 2, 1) := by decide +kernel
theorem dX6_lowestOf_16 : decode cX6_lowestOf 16 = .ok (.iaload, 1) := by decide +kernel
theorem dX6_lowestOf_17 : decode cX6_lowestOf 17 = .ok (.iload_n 2, 1) := by decide +kernel
theorem dX6_lowestOf_18 : decode cX6_lowestOf 18 = .ok (.if_icmp .eq 16, 3) := by decide +kernel
theorem dX6_lowestOf_2 : decode cX6_lowestOf 2 = .ok (.iconst 0, 1) := by decide +kernel
theorem dX6_lowestOf_3 : decode cX6_lowestOf 3 = .ok (.istore_n 3, 1) := by decide +kernel
theorem dX6_lowestOf_34 : decode cX6_lowestOf 34 = .ok (.iload_n 2, 1) := by decide +kernel
theorem dX6_lowestOf_35 : decode cX6_lowestOf 35 = .ok (.ireturn, 1) := by decide +kernel
theorem dX6_lowestOf_4 : decode cX6_lowestOf 4 = .ok (.iload_n 3, 1) := by decide +kernel
theorem dX6_lowestOf_5 : decode cX6_lowestOf 5 = .ok (.sipush 400, 3) := by decide +kernel
theorem dX6_lowestOf_8 : decode cX6_lowestOf 8 = .ok (.if_icmp .ge 26, 3) := by decide +kernel
theorem dX8_clashes_0 : decode cX8_clashes 0 = .ok (.iconst 0, 1) := by decide +kernel
theorem dX8_clashes_1 : decode cX8_clashes 1 = .ok (.istore_n 1, 1) := by decide +kernel
theorem dX8_clashes_10 : decode cX8_clashes 10 = .ok (.aload_n 0, 1) := by decide +kernel
theorem dX8_clashes_11 : decode cX8_clashes 11 = .ok (.getfield 31, 3) := by decide +kernel
theorem dX8_clashes_14 : decode cX8_clashes 14 = .ok (.bipush 100, 2) := by decide +kernel
theorem dX8_clashes_16 : decode cX8_clashes 16 = .ok (.iload_n 2, 1) := by decide +kernel
theorem dX8_clashes_17 : decode cX8_clashes 17 = .ok (.imul, 1) := by decide +kernel
theorem dX8_clashes_18 : decode cX8_clashes 18 = .ok (.bipush 100, 2) := by decide +kernel
theorem dX8_clashes_2 : decode cX8_clashes 2 = .ok (.iconst 0, 1) := by decide +kernel
theorem dX8_clashes_20 : decode cX8_clashes 20 = .ok (.iload_n 2, 1) := by decide +kernel
theorem dX8_clashes_21 : decode cX8_clashes 21 = .ok (.imul, 1) := by decide +kernel
theorem dX8_clashes_22 : decode cX8_clashes 22 = .ok (.bipush 100, 2) := by decide +kernel
theorem dX8_clashes_24 : decode cX8_clashes 24 = .ok (.iadd, 1) := by decide +kernel
theorem dX8_clashes_25 : decode cX8_clashes 25 = .ok (.invokevirtual 316, 3) := by decide +kernel
theorem dX8_clashes_28 : decode cX8_clashes 28 = .ok (.iadd, 1) := by decide +kernel
theorem dX8_clashes_29 : decode cX8_clashes 29 = .ok (.istore_n 1, 1) := by decide +kernel
theorem dX8_clashes_3 : decode cX8_clashes 3 = .ok (.istore_n 2, 1) := by decide +kernel
theorem dX8_clashes_30 : decode cX8_clashes 30 = .ok (.iinc 2 1, 3) := by decide +kernel
theorem dX8_clashes_33 : decode cX8_clashes 33 = .ok (.goto (-29), 3) := by decide +kernel
theorem dX8_clashes_36 : decode cX8_clashes 36 = .ok (.iload_n 1, 1) := by decide +kernel
theorem dX8_clashes_37 : decode cX8_clashes 37 = .ok (.ireturn, 1) := by decide +kernel
theorem dX8_clashes_4 : decode cX8_clashes 4 = .ok (.iload_n 2, 1) := by decide +kernel
theorem dX8_clashes_5 : decode cX8_clashes 5 = .ok (.iconst 3, 1) := by decide +kernel
theorem dX8_clashes_6 : decode cX8_clashes 6 = .ok (.if_icmp .gt 30, 3) := by decide +kernel
theorem dX8_clashes_9 : decode cX8_clashes 9 = .ok (.iload_n 1, 1) := by decide +kernel
theorem dX8_entry_0 : decode cX8_entry 0 = .ok (.iload_n 1, 1) := by decide +kernel
theorem dX8_entry_1 : decode cX8_entry 1 = .ok (.iload_n 2, 1) := by decide +kernel
theorem dX8_entry_11 : decode cX8_entry 11 = .ok (.iload_n 1, 1) := by decide +kernel
theorem dX8_entry_12 : decode cX8_entry 12 = .ok (.imul, 1) := by decide +kernel
theorem dX8_entry_13 : decode cX8_entry 13 = .ok (.iload_n 2, 1) := by decide +kernel
theorem dX8_entry_14 : decode cX8_entry 14 = .ok (.iadd, 1) := by decide +kernel
theorem dX8_entry_15 : decode cX8_entry 15 = .ok (.invokevirtual 313, 3) := by decide +kernel
theorem dX8_entry_18 : decode cX8_entry 18 = .ok (.ireturn, 1) := by decide +kernel
theorem dX8_entry_2 : decode cX8_entry 2 = .ok (.invokestatic 298, 3) := by decide +kernel
theorem dX8_entry_5 : decode cX8_entry 5 = .ok (.aload_n 0, 1) := by decide +kernel
theorem dX8_entry_6 : decode cX8_entry 6 = .ok (.getfield 31, 3) := by decide +kernel
theorem dX8_entry_9 : decode cX8_entry 9 = .ok (.bipush 100, 2) := by decide +kernel
theorem dX8_merge_0 : decode cX8_merge 0 = .ok (.iload_n 1, 1) := by decide +kernel
theorem dX8_merge_1 : decode cX8_merge 1 = .ok (.iload_n 2, 1) := by decide +kernel
theorem dX8_merge_11 : decode cX8_merge 11 = .ok (.aload_n 0, 1) := by decide +kernel
theorem dX8_merge_12 : decode cX8_merge 12 = .ok (.getfield 31, 3) := by decide +kernel
theorem dX8_merge_15 : decode cX8_merge 15 = .ok (.bipush 100, 2) := by decide +kernel
theorem dX8_merge_17 : decode cX8_merge 17 = .ok (.iload_n 1, 1) := by decide +kernel
theorem dX8_merge_18 : decode cX8_merge 18 = .ok (.imul, 1) := by decide +kernel
theorem dX8_merge_19 : decode cX8_merge 19 = .ok (.iload_n 2, 1) := by decide +kernel
theorem dX8_merge_2 : decode cX8_merge 2 = .ok (.invokestatic 298, 3) := by decide +kernel
theorem dX8_merge_20 : decode cX8_merge 20 = .ok (.iadd, 1) := by decide +kernel
theorem dX8_merge_21 : decode cX8_merge 21 = .ok (.bipush 100, 2) := by decide +kernel
theorem dX8_merge_23 : decode cX8_merge 23 = .ok (.iload_n 3, 1) := by decide +kernel
theorem dX8_merge_24 : decode cX8_merge 24 = .ok (.imul, 1) := by decide +kernel
theorem dX8_merge_25 : decode cX8_merge 25 = .ok (.iload 4, 2) := by decide +kernel
theorem dX8_merge_27 : decode cX8_merge 27 = .ok (.iadd, 1) := by decide +kernel
theorem dX8_merge_28 : decode cX8_merge 28 = .ok (.invokevirtual 301, 3) := by decide +kernel
theorem dX8_merge_31 : decode cX8_merge 31 = .ok (.ireturn, 1) := by decide +kernel
theorem dX8_merge_5 : decode cX8_merge 5 = .ok (.iload_n 3, 1) := by decide +kernel
theorem dX8_merge_6 : decode cX8_merge 6 = .ok (.iload 4, 2) := by decide +kernel
theorem dX8_merge_8 : decode cX8_merge 8 = .ok (.invokestatic 298, 3) := by decide +kernel
abbrev wz_X6_lowestOf : List Cond := .code yX6_lowestOf cX6_lowestOf 4 (Option.some Jvm.ClassFile.FieldType.int) :: lw_good
set_option maxHeartbeats 4000000 in
set_option maxRecDepth 100000 in
/-- lowestOf: nothing is merged -/
theorem k_X6_lowestOf (l : Launch) (G : va_G) (z : Nat) (h0 : Nat) (b1 : Nat) (b2 : Nat) (b3 : Nat) (cyA : ClassId) (p0 : Int32) (sz : Nat) (he : vp_in p0 400) : Met l yX6_lowestOf wz_X6_lowestOf ({ frames := 0, cells := 0, slots := 0, locals := 0 }) (va_Pc [.ref h0, .int p0] (PR G z [(h0, .inr (10, [.ref b1, .ref b2, .ref b3, .int 0])), (b1, .inl (cyA, 400, .inl (nI)))] [(cyA, .int)] sz)) (va_Qi (fun (r : Int32) (_ : Unit) => r = p0) (fun (_ : Unit) (_ : State) => True) (zN sz)) 0 0 (zN sz) := by
  refine Met.ofW (cc := cX6_lowestOf) (maxL := 4) (ret := (Option.some Jvm.ClassFile.FieldType.int)) (by decide) rfl ?_
  intro p e s m args below meth c s₁ B hml hv
  obtain ⟨rfl, rfl, hP, hK, hG⟩ := hv
  have hx := B.exec
  have hb := B.bytes
  have hr := B.returns
  have hts := atoms_spec (ws := wz_X6_lowestOf) B.pre
  have hg : ∀ w ∈ lw_good, w.before _ s = true := fun w h => hts w (List.mem_cons_of_mem _ h)
  have hown : s.vm.findClass RX6 = some m.cls := findClass_of_methodNamed B.named
  have hlocks := B.notSynchronized
  have hA : ∀ q : Nat, s.heap.size ≤ q → zN s.heap.size q := fun _ h => h
  have hS : va_S (zN s.heap.size) s.heap s.heap [] := va_S.rf
  have hl := lv_entry ([.ref h0, .int p0]) (n := 4) (Nat.le_of_ble_eq_true rfl)
  rw [lg_entry_eq]
  generalize (lg_sl ([.ref h0, .int p0]) ++ List.replicate (4 - (lg_sl ([.ref h0, .int p0])).length) Slot.unset).toArray = ls at hl ⊢
  have hl : lv_has ls 4 [(0, .ref h0), (1, .int p0)] := hl
  refine lv_iload_n hx hb dX6_lowestOf_0 rfl (lv_at hl 1 rfl) ?_
  refine lv_istore_n (lv' := [(2, .int p0), (0, .ref h0), (1, .int p0)]) hx hb dX6_lowestOf_1 rfl hl (by decide) rfl (fun ls hl => ?_)
  refine lv_iconst (v := 0) hx hb dX6_lowestOf_2 (by decide) ?_
  refine lv_istore_n (lv' := [(3, .int 0), (2, .int p0), (0, .ref h0), (1, .int p0)]) hx hb dX6_lowestOf_3 rfl hl (by decide) rfl (fun ls hl => ?_)
  refine lv_iload_n hx hb dX6_lowestOf_4 rfl (lv_at hl 0 rfl) ?_
  refine lv_sipush (v := 400) hx hb dX6_lowestOf_5 (by decide) ?_
  refine lv_icmp_ge (tgt := 34) hx hb dX6_lowestOf_8 (by decide) (fun c_1 => absurd c_1 (by decide)) (fun c_1 => ?_)
  refine lv_aload_n hx hb dX6_lowestOf_11 rfl (lv_at hl 2 rfl) ?_
  refine va_get (D := G) (ci := 10) (v := .ref b1) (C := RX6) (T := TX6) (N := 4) hx hb hg in_X6 hown hK hP 0 rfl rfl 0 (by decide) (hg _ q80) (fun _ h9 => h9) rfl dX6_lowestOf_12 ?_
  refine lv_iload_n hx hb dX6_lowestOf_15 rfl (lv_at hl 1 rfl) ?_
  refine va_iald hx hb hK hP 1 0 rfl rfl he dX6_lowestOf_16 ?_
  refine lv_topi (fun f_2 ef_2 => ?_)
  refine lv_iload_n hx hb dX6_lowestOf_17 rfl (lv_at hl 1 rfl) ?_
  refine lv_icmp_eq (tgt := 34) hx hb dX6_lowestOf_18 (by decide) (fun c_3 => ?_) (fun c_3 => absurd (ef_2.trans (z_id he (by decide))) c_3)
  refine lv_iload_n hx hb dX6_lowestOf_34 rfl (lv_at hl 1 rfl) ?_
  refine W.widen (k := 0) (n := 0) (Nat.le_of_ble_eq_true rfl) (Nat.le_of_ble_eq_true rfl) ?_
  exact W.iret (v := p0) hx hb hr (fun t ht hW => ⟨⟨p0, (), rfl, rfl, trivial⟩, hS.F ht⟩) hS.2.2 dX6_lowestOf_35

abbrev wz_X6_join : List Cond := .code yX6_join cX6_join 6 (Option.some Jvm.ClassFile.FieldType.boolean) :: lw_good
set_option maxHeartbeats 4000000 in
set_option maxRecDepth 100000 in
/-- join: the first merging -/
theorem k_X6_join (l : Launch) (G : va_G) (z : Nat) (h0 : Nat) (b1 : Nat) (b2 : Nat) (b3 : Nat) (cyA : ClassId) (cyJ : ClassId) (fL : Nat → Int32) (p0 : Int32) (p1 : Int32) (sz : Nat) (he0 : vp_in p0 400) (he1 : vp_in p1 400) : Met l yX6_join wz_X6_join ({ frames := 1, cells := 0, slots := 0, locals := 23 }) (va_Pc [.ref h0, .int p0, .int p1] (PW G z [(h0, .inr (10, [.ref b1, .ref b2, .ref b3, .int 0])), (b1, .inl (cyA, 400, .inl (nI))), (b2, .inl (cyJ, 512, .inl (fL)))] [(cyA, .int), (cyJ, .int)] sz)) (va_Qi (fun (r : Int32) (_ : Unit) => r = if p0 = p1 then 0 else 1) (fun (_ : Unit) (t : State) => QW G [] [] (va_A [(h0, .inr (10, [.ref b1, .ref b2, .ref b3, .int 0])), (b1, .inl (cyA, 400, .inl (nI))), (b2, .inl (cyJ, 512, .inl (fL)))] sz) t) (va_A [(h0, .inr (10, [.ref b1, .ref b2, .ref b3, .int 0])), (b1, .inl (cyA, 400, .inl (nI))), (b2, .inl (cyJ, 512, .inl (fL)))] sz)) 0 0 (va_A [(h0, .inr (10, [.ref b1, .ref b2, .ref b3, .int 0])), (b1, .inl (cyA, 400, .inl (nI))), (b2, .inl (cyJ, 512, .inl (fL)))] sz) := by
  refine Met.ofW (cc := cX6_join) (maxL := 6) (ret := (Option.some Jvm.ClassFile.FieldType.boolean)) (by decide) rfl ?_
  intro p e s m args below meth c s₁ B hml hv
  obtain ⟨rfl, rfl, hP, hK, hD0, hG⟩ := hv
  have hx := B.exec
  have hb := B.bytes
  have hr := B.returns
  have hts := atoms_spec (ws := wz_X6_join) B.pre
  have hg : ∀ w ∈ lw_good, w.before _ s = true := fun w h => hts w (List.mem_cons_of_mem _ h)
  have hown : s.vm.findClass RX6 = some m.cls := findClass_of_methodNamed B.named
  have hlocks := B.notSynchronized
  have hD := hD0.self (sz := s.heap.size)
  generalize hAe : va_A [(h0, .inr (10, [.ref b1, .ref b2, .ref b3, .int 0])), (b1, .inl (cyA, 400, .inl (nI))), (b2, .inl (cyJ, 512, .inl (fL)))] s.heap.size = A at hD hG ⊢
  have hA : ∀ q : Nat, s.heap.size ≤ q → A q := fun q h => by rw [← hAe]; exact Or.inr h
  have hS : va_S A s.heap s.heap [] := va_S.rf
  have hl := lv_entry ([.ref h0, .int p0, .int p1]) (n := 6) (Nat.le_of_ble_eq_true rfl)
  rw [lg_entry_eq]
  generalize (lg_sl ([.ref h0, .int p0, .int p1]) ++ List.replicate (6 - (lg_sl ([.ref h0, .int p0, .int p1])).length) Slot.unset).toArray = ls at hl ⊢
  have hl : lv_has ls 6 [(0, .ref h0), (1, .int p0), (2, .int p1)] := hl
  refine lv_aload_n hx hb dX6_join_0 rfl (lv_at hl 0 rfl) ?_
  refine lv_iload_n hx hb dX6_join_1 rfl (lv_at hl 1 rfl) ?_
  have hPc := hP.sub (ws' := [(h0, .inr (10, [.ref b1, .ref b2, .ref b3, .int 0])), (b1, .inl (cyA, 400, .inl (nI)))]) [0, 1] rfl
  have hKc := hK.sub (tys' := [(cyA, .int)]) [0] rfl
  refine va_calli (va_runV (As := [.int p0]) (rest := []) ⟨hx, hb, hml, hown, hts⟩ (k_X6_lowestOf l G z h0 b1 b2 b3 cyA p0 s.heap.size he0) (cwV 1 hts (lw_goodApp (lw_4 q213 q214 q215 q5) q216) rfl rfl rfl (by decide +kernel) ⟨Nat.le_of_ble_eq_true rfl, Nat.le_of_ble_eq_true rfl⟩) ⟨PR.blind, va_recv hK hP (ci := 10) (q0 := 0) rfl rfl, PR.of hPc hKc hG hS hA [.ref h0, .int p0]⟩ rfl rfl hl.1 rfl (lv_room (Nat.le_of_ble_eq_true rfl)) dX6_join_2 ⟨Nat.le_of_ble_eq_true rfl, Nat.le_of_ble_eq_true rfl⟩) hS (fun q h9 h => zN.not h9 h) (fun q h => hA q (Nat.le_trans hS.1 h)) (fun r_2 u t_4 H_1 locs ht hvm hw_3 hB hz1 hk1 hS => ?_)
  have hP := hP.grown hk1
  refine W.widen (k := 0) (n := 0) (Nat.le_of_ble_eq_true rfl) (Nat.le_of_ble_eq_true rfl) ?_
  obtain rfl : p0 = r_2 := hw_3.symm
  refine lv_istore_n (lv' := [(3, .int p0), (0, .ref h0), (1, .int p0), (2, .int p1)]) hx hb dX6_join_5 rfl hl (by decide) rfl (fun ls hl => ?_)
  refine lv_aload_n hx hb dX6_join_6 rfl (lv_at hl 1 rfl) ?_
  refine lv_iload_n hx hb dX6_join_7 rfl (lv_at hl 3 rfl) ?_
  have hPc := hP.sub (ws' := [(h0, .inr (10, [.ref b1, .ref b2, .ref b3, .int 0])), (b1, .inl (cyA, 400, .inl (nI)))]) [0, 1] rfl
  have hKc := hK.sub (tys' := [(cyA, .int)]) [0] rfl
  refine va_calli (va_runV (As := [.int p1]) (rest := []) ⟨hx, hb, hml, hown, hts⟩ (k_X6_lowestOf l G z h0 b1 b2 b3 cyA p1 H_1.size he1) (cwV 1 hts (lw_goodApp (lw_4 q213 q214 q215 q5) q216) rfl rfl rfl (by decide +kernel) ⟨Nat.le_of_ble_eq_true rfl, Nat.le_of_ble_eq_true rfl⟩) ⟨PR.blind, va_recv hK hP (ci := 10) (q0 := 0) rfl rfl, PR.of hPc hKc hG hS hA [.ref h0, .int p1]⟩ rfl rfl hl.1 rfl (lv_room (Nat.le_of_ble_eq_true rfl)) dX6_join_8 ⟨Nat.le_of_ble_eq_true rfl, Nat.le_of_ble_eq_true rfl⟩) hS (fun q h9 h => zN.not h9 h) (fun q h => hA q (Nat.le_trans hS.1 h)) (fun r_6 u t_8 H_5 locs ht hvm hw_7 hB hz1 hk1 hS => ?_)
  have hP := hP.grown hk1
  refine W.widen (k := 0) (n := 0) (Nat.le_of_ble_eq_true rfl) (Nat.le_of_ble_eq_true rfl) ?_
  obtain rfl : p1 = r_6 := hw_7.symm
  refine lv_istore (lv' := [(4, .int p1), (3, .int p0), (0, .ref h0), (1, .int p0), (2, .int p1)]) hx hb dX6_join_11 hl (by decide) rfl (fun ls hl => ?_)
  refine lv_aload_n hx hb dX6_join_13 rfl (lv_at hl 2 rfl) ?_
  refine va_get (D := G) (ci := 10) (v := .int 0) (C := RX6) (T := TX6) (N := 4) hx hb hg in_X6 hown hK hP 0 rfl rfl 3 (by decide) (hg _ q83) (fun _ h9 => h9) rfl dX6_join_14 ?_
  refine lv_sipush (v := 512) hx hb dX6_join_17 (by decide) ?_
  refine lv_icmp_ge (tgt := 81) hx hb dX6_join_20 (by decide) (fun c_9 => absurd c_9 (by decide)) (fun c_9 => ?_)
  refine lv_iload_n hx hb dX6_join_23 rfl (lv_at hl 1 rfl) ?_
  refine lv_iload hx hb dX6_join_24 (lv_at hl 0 rfl) ?_
  refine lv_icmp_ne (tgt := 33) hx hb dX6_join_26 (by decide) (fun c_10 => ?_) (fun c_10 => ?_)
  · refine lv_iload_n hx hb dX6_join_33 rfl (lv_at hl 1 rfl) ?_
    refine lv_iload hx hb dX6_join_34 (lv_at hl 0 rfl) ?_
    refine va_mmax hx hb (by rw [hml]; exact hl.1.symm) hown (hg _ mmax_lX629) (hg _ mmax_s) (hg _ q15) (hg _ mmax_c) (Nat.le_of_ble_eq_true rfl) (Nat.le_of_ble_eq_true rfl) (Nat.le_of_ble_eq_true rfl) (Nat.le_of_ble_eq_true rfl) dX6_join_36 ?_
    refine lv_topi (fun f_11 ef_11 => ?_)
    refine lv_istore (lv' := [(5, .int f_11), (4, .int p1), (3, .int p0), (0, .ref h0), (1, .int p0), (2, .int p1)]) hx hb dX6_join_39 hl (by decide) rfl (fun ls hl => ?_)
    refine lv_iload hx hb dX6_join_41 (lv_at hl 0 rfl) ?_
    refine lv_iconst (v := (-1)) hx hb dX6_join_43 (by decide) ?_
    refine lv_icmp_eq (tgt := 60) hx hb dX6_join_44 (by decide) (fun c_12 => (z_not_neg (ef_11 ▸ z_max_in he0 he1) c_12).elim) (fun c_12 => ?_)
    refine lv_aload_n hx hb dX6_join_47 rfl (lv_at hl 3 rfl) ?_
    refine va_get (D := G) (ci := 10) (v := .ref b1) (C := RX6) (T := TX6) (N := 4) hx hb hg in_X6 hown hK hP 0 rfl rfl 0 (by decide) (hg _ q80) (fun _ h9 => h9) rfl dX6_join_48 ?_
    refine lv_iload hx hb dX6_join_51 (lv_at hl 0 rfl) ?_
    refine lv_iload_n hx hb dX6_join_53 rfl (lv_at hl 2 rfl) ?_
    refine lv_iload hx hb dX6_join_54 (lv_at hl 1 rfl) ?_
    refine va_mmin hx hb (by rw [hml]; exact hl.1.symm) hown (hg _ mmin_lX635) (hg _ mmin_s) (hg _ q15) (hg _ mmin_c) (Nat.le_of_ble_eq_true rfl) (Nat.le_of_ble_eq_true rfl) (Nat.le_of_ble_eq_true rfl) (Nat.le_of_ble_eq_true rfl) dX6_join_56 ?_
    refine lv_topi (fun f_13 ef_13 => ?_)
    refine va_iast hx hb hK hP hD hS 1 0 rfl rfl (ef_11 ▸ z_max_in he0 he1) dX6_join_59 (fun H_14 locs hP hD hS => ?_)
    have hP : va_P G vwCl ([(h0, .inr (10, [.ref b1, .ref b2, .ref b3, .int 0])), (b1, .inl (cyA, 400, .inl (upd (nI) (f_11 : Int32).toNatClampNeg (f_13)))), (b2, .inl (cyJ, 512, .inl (fL)))]) H_14 := hP
    have hD : va_D A ([(h0, .inr (10, [.ref b1, .ref b2, .ref b3, .int 0])), (b1, .inl (cyA, 400, .inl (upd (nI) (f_11 : Int32).toNatClampNeg (f_13)))), (b2, .inl (cyJ, 512, .inl (fL)))]) := hD
    refine lv_aload_n hx hb dX6_join_60 rfl (lv_at hl 3 rfl) ?_
    refine va_get (D := G) (ci := 10) (v := .ref b2) (C := RX6) (T := TX6) (N := 4) hx hb hg in_X6 hown hK hP 0 rfl rfl 1 (by decide) (hg _ q81) (fun _ h9 => h9) rfl dX6_join_61 ?_
    refine lv_aload_n hx hb dX6_join_64 rfl (lv_at hl 3 rfl) ?_
    refine va_get (D := G) (ci := 10) (v := .int 0) (C := RX6) (T := TX6) (N := 4) hx hb hg in_X6 hown hK hP 0 rfl rfl 3 (by decide) (hg _ q83) (fun _ h9 => h9) rfl dX6_join_65 ?_
    refine lv_iload hx hb dX6_join_68 (lv_at hl 0 rfl) ?_
    refine va_iast hx hb hK hP hD hS 2 1 rfl rfl (by unfold vp_in; decide +kernel) dX6_join_70 (fun H_15 locs hP hD hS => ?_)
    have hP : va_P G vwCl ([(h0, .inr (10, [.ref b1, .ref b2, .ref b3, .int 0])), (b1, .inl (cyA, 400, .inl (upd (nI) (f_11 : Int32).toNatClampNeg (f_13)))), (b2, .inl (cyJ, 512, .inl (upd (fL) (0 : Int32).toNatClampNeg (f_11))))]) H_15 := hP
    have hD : va_D A ([(h0, .inr (10, [.ref b1, .ref b2, .ref b3, .int 0])), (b1, .inl (cyA, 400, .inl (upd (nI) (f_11 : Int32).toNatClampNeg (f_13)))), (b2, .inl (cyJ, 512, .inl (upd (fL) (0 : Int32).toNatClampNeg (f_11))))]) := hD
    refine lv_aload_n hx hb dX6_join_71 rfl (lv_at hl 3 rfl) ?_
    refine lv_dup hx hb dX6_join_72 rfl ?_
    refine va_get (D := G) (ci := 10) (v := .int 0) (C := RX6) (T := TX6) (N := 4) hx hb hg in_X6 hown hK hP 0 rfl rfl 3 (by decide) (hg _ q83) (fun _ h9 => h9) rfl dX6_join_73 ?_
    refine lv_iconst (v := 1) hx hb dX6_join_76 (by decide) ?_
    refine lv_iadd hx hb dX6_join_77 ?_
    refine lv_topi (fun f_16 ef_16 => ?_)
    obtain rfl : f_16 = 1 := ef_16.trans (by decide)
    refine va_put (D := G) (ci := 10) (v := .int 1) (ty := .int) (C := RX6) (T := TX6) (N := 4) hx hb hg in_X6 tyX6 tyX6_ok nmX6 hown hK hP hD hS 0 rfl rfl 3 (by decide) (hg _ q83) (fun _ h9 => h9) rfl (by decide +kernel) rfl rfl (Nat.le_of_ble_eq_true rfl) dX6_join_78 (fun H_17 locs hP hD hS => ?_)
    have hP : va_P G vwCl ([(h0, .inr (10, [.ref b1, .ref b2, .ref b3, .int 1])), (b1, .inl (cyA, 400, .inl (upd (nI) (f_11 : Int32).toNatClampNeg (f_13)))), (b2, .inl (cyJ, 512, .inl (upd (fL) (0 : Int32).toNatClampNeg (f_11))))]) H_17 := hP
    have hD : va_D A ([(h0, .inr (10, [.ref b1, .ref b2, .ref b3, .int 1])), (b1, .inl (cyA, 400, .inl (upd (nI) (f_11 : Int32).toNatClampNeg (f_13)))), (b2, .inl (cyJ, 512, .inl (upd (fL) (0 : Int32).toNatClampNeg (f_11))))]) := hD
    refine lv_iload_n hx hb dX6_join_81 rfl (lv_at hl 2 rfl) ?_
    refine lv_iload hx hb dX6_join_82 (lv_at hl 1 rfl) ?_
    refine lv_icmp_eq (tgt := 91) hx hb dX6_join_84 (by decide) (fun c_18 => absurd c_18 c_10) (fun c_18 => ?_)
    refine lv_iconst (v := 1) hx hb dX6_join_87 (by decide) ?_
    refine lv_goto (tgt := 92) hx hb dX6_join_88 (by decide) ?_
    refine W.widen (k := 0) (n := 0) (Nat.le_of_ble_eq_true rfl) (Nat.le_of_ble_eq_true rfl) ?_
    have hP9 := hP.sub (ws' := []) [] rfl
    have hD9 := hD.sub (ws' := []) [] (by decide) rfl
    have hK9 := hK.sub (tys' := []) [] rfl
    exact W.zret (v := 1) hx hb hr rfl (fun t ht hW => ⟨⟨1, (), rfl, (if_neg c_10).symm, QW.of hP9 hK9 hD9 ht hW.alike⟩, hS.F ht⟩) hS.2.2 dX6_join_92
  · refine lv_iconst (v := (-1)) hx hb dX6_join_29 (by decide) ?_
    refine lv_goto (tgt := 39) hx hb dX6_join_30 (by decide) ?_
    refine lv_istore (lv' := [(5, .int (-1)), (4, .int p1), (3, .int p0), (0, .ref h0), (1, .int p0), (2, .int p1)]) hx hb dX6_join_39 hl (by decide) rfl (fun ls hl => ?_)
    refine lv_iload hx hb dX6_join_41 (lv_at hl 0 rfl) ?_
    refine lv_iconst (v := (-1)) hx hb dX6_join_43 (by decide) ?_
    refine lv_icmp_eq (tgt := 60) hx hb dX6_join_44 (by decide) (fun c_19 => ?_) (fun c_19 => absurd rfl c_19)
    refine lv_aload_n hx hb dX6_join_60 rfl (lv_at hl 3 rfl) ?_
    refine va_get (D := G) (ci := 10) (v := .ref b2) (C := RX6) (T := TX6) (N := 4) hx hb hg in_X6 hown hK hP 0 rfl rfl 1 (by decide) (hg _ q81) (fun _ h9 => h9) rfl dX6_join_61 ?_
    refine lv_aload_n hx hb dX6_join_64 rfl (lv_at hl 3 rfl) ?_
    refine va_get (D := G) (ci := 10) (v := .int 0) (C := RX6) (T := TX6) (N := 4) hx hb hg in_X6 hown hK hP 0 rfl rfl 3 (by decide) (hg _ q83) (fun _ h9 => h9) rfl dX6_join_65 ?_
    refine lv_iload hx hb dX6_join_68 (lv_at hl 0 rfl) ?_
    refine va_iast hx hb hK hP hD hS 2 1 rfl rfl (by unfold vp_in; decide +kernel) dX6_join_70 (fun H_20 locs hP hD hS => ?_)
    have hP : va_P G vwCl ([(h0, .inr (10, [.ref b1, .ref b2, .ref b3, .int 0])), (b1, .inl (cyA, 400, .inl (nI))), (b2, .inl (cyJ, 512, .inl (upd (fL) (0 : Int32).toNatClampNeg ((-1)))))]) H_20 := hP
    have hD : va_D A ([(h0, .inr (10, [.ref b1, .ref b2, .ref b3, .int 0])), (b1, .inl (cyA, 400, .inl (nI))), (b2, .inl (cyJ, 512, .inl (upd (fL) (0 : Int32).toNatClampNeg ((-1)))))]) := hD
    refine lv_aload_n hx hb dX6_join_71 rfl (lv_at hl 3 rfl) ?_
    refine lv_dup hx hb dX6_join_72 rfl ?_
    refine va_get (D := G) (ci := 10) (v := .int 0) (C := RX6) (T := TX6) (N := 4) hx hb hg in_X6 hown hK hP 0 rfl rfl 3 (by decide) (hg _ q83) (fun _ h9 => h9) rfl dX6_join_73 ?_
    refine lv_iconst (v := 1) hx hb dX6_join_76 (by decide) ?_
    refine lv_iadd hx hb dX6_join_77 ?_
    refine lv_topi (fun f_21 ef_21 => ?_)
    obtain rfl : f_21 = 1 := ef_21.trans (by decide)
    refine va_put (D := G) (ci := 10) (v := .int 1) (ty := .int) (C := RX6) (T := TX6) (N := 4) hx hb hg in_X6 tyX6 tyX6_ok nmX6 hown hK hP hD hS 0 rfl rfl 3 (by decide) (hg _ q83) (fun _ h9 => h9) rfl (by decide +kernel) rfl rfl (Nat.le_of_ble_eq_true rfl) dX6_join_78 (fun H_22 locs hP hD hS => ?_)
    have hP : va_P G vwCl ([(h0, .inr (10, [.ref b1, .ref b2, .ref b3, .int 1])), (b1, .inl (cyA, 400, .inl (nI))), (b2, .inl (cyJ, 512, .inl (upd (fL) (0 : Int32).toNatClampNeg ((-1)))))]) H_22 := hP
    have hD : va_D A ([(h0, .inr (10, [.ref b1, .ref b2, .ref b3, .int 1])), (b1, .inl (cyA, 400, .inl (nI))), (b2, .inl (cyJ, 512, .inl (upd (fL) (0 : Int32).toNatClampNeg ((-1)))))]) := hD
    refine lv_iload_n hx hb dX6_join_81 rfl (lv_at hl 2 rfl) ?_
    refine lv_iload hx hb dX6_join_82 (lv_at hl 1 rfl) ?_
    refine lv_icmp_eq (tgt := 91) hx hb dX6_join_84 (by decide) (fun c_23 => ?_) (fun c_23 => absurd c_10 c_23)
    refine lv_iconst (v := 0) hx hb dX6_join_91 (by decide) ?_
    refine W.widen (k := 0) (n := 0) (Nat.le_of_ble_eq_true rfl) (Nat.le_of_ble_eq_true rfl) ?_
    have hP9 := hP.sub (ws' := []) [] rfl
    have hD9 := hD.sub (ws' := []) [] (by decide) rfl
    have hK9 := hK.sub (tys' := []) [] rfl
    exact W.zret (v := 0) hx hb hr rfl (fun t ht hW => ⟨⟨0, (), rfl, (if_pos c_10).symm, QW.of hP9 hK9 hD9 ht hW.alike⟩, hS.F ht⟩) hS.2.2 dX6_join_92

theorem z_ent {p0 p1 : Int32} (h : okE p0 p1) : vp_in (100 * p0 + p1) 400 := by
  obtain ⟨⟨a, b⟩, c, d⟩ := h
  have a := Int32.le_iff_toInt_le.mp a
  have b := Int32.le_iff_toInt_le.mp b
  have c := Int32.le_iff_toInt_le.mp c
  have d := Int32.le_iff_toInt_le.mp d
  have e0 : (0 : Int32).toInt = 0 := rfl
  have e3 : (3 : Int32).toInt = 3 := rfl
  have e9 : (99 : Int32).toInt = 99 := rfl
  have eh : (100 : Int32).toInt = 100 := rfl
  rw [e0] at a c
  rw [e3] at b
  rw [e9] at d
  have k : (100 * p0 + p1).toInt = 100 * p0.toInt + p1.toInt := by
    rw [Int32.toInt_add, Int32.toInt_mul, eh]
    have : (100 * p0.toInt).bmod (2 ^ 32) = 100 * p0.toInt := Int.bmod_eq_of_le (by omega) (by omega)
    rw [this]
    exact Int.bmod_eq_of_le (by omega) (by omega)
  rw [vp_in_iff, k]
  omega
abbrev wz_X8_entry : List Cond := .code yX8_entry cX8_entry 3 (Option.some Jvm.ClassFile.FieldType.int) :: lw_good
set_option maxHeartbeats 4000000 in
set_option maxRecDepth 100000 in
/-- entry: nothing is merged -/
theorem k_X8_entry (l : Launch) (hfl : l.stackTraces = false) (G : va_G) (z : Nat) (h0 : Nat) (a1 : Nat) (a2 : Nat) (a3 : Nat) (a4 : Nat) (a5 : Nat) (a6 : Nat) (a7 : Nat) (a8 : Nat) (tol : Int32) (sal : Int32) (b1 : Nat) (b2 : Nat) (b3 : Nat) (cyA : ClassId) (p0 : Int32) (p1 : Int32) (sz : Nat)  : vx_Met l yX8_entry wz_X8_entry ({ frames := 8, cells := 2, slots := 12, locals := 125 }) (va_Pc [.ref h0, .int p0, .int p1] (PR G z [(h0, .inr (12, [.ref a1, .ref a2, .ref a3, .ref a4, .ref a5, .ref a6, .ref a7, .ref a8, .int tol, .int sal])), (a6, .inr (10, [.ref b1, .ref b2, .ref b3, .int 0])), (b1, .inl (cyA, 400, .inl (nI)))] [(cyA, .int)] sz)) (va_Qi (fun (r : Int32) (_ : Unit) => r = 100 * p0 + p1 ∧ okE p0 p1) (fun (_ : Unit) (_ : State) => True) (zN sz)) (zX (¬ okE p0 p1) "java/lang/IllegalArgumentException" (zN sz)) 2 12 (zN sz) := by
  refine vx_ofW (cc := cX8_entry) (maxL := 3) (ret := (Option.some Jvm.ClassFile.FieldType.int)) (by decide) rfl ?_
  intro p e s m args below meth c s₁ B hml htab hv
  obtain ⟨rfl, rfl, hP, hK, hG⟩ := hv
  have hx := B.exec
  have hb := B.bytes
  have hr := B.returns
  have hts := atoms_spec (ws := wz_X8_entry) B.pre
  have hg : ∀ w ∈ lw_good, w.before _ s = true := fun w h => hts w (List.mem_cons_of_mem _ h)
  have hown : s.vm.findClass RX8 = some m.cls := findClass_of_methodNamed B.named
  have hlocks := B.notSynchronized
  have hA : ∀ q : Nat, s.heap.size ≤ q → zN s.heap.size q := fun _ h => h
  have hS : va_S (zN s.heap.size) s.heap s.heap [] := va_S.rf
  have hl := lv_entry ([.ref h0, .int p0, .int p1]) (n := 3) (Nat.le_of_ble_eq_true rfl)
  rw [lg_entry_eq]
  generalize (lg_sl ([.ref h0, .int p0, .int p1]) ++ List.replicate (3 - (lg_sl ([.ref h0, .int p0, .int p1])).length) Slot.unset).toArray = ls at hl ⊢
  have hl : lv_has ls 3 [(0, .ref h0), (1, .int p0), (2, .int p1)] := hl
  refine lv_iload_n hx hb dX8_entry_0 rfl (lv_at hl 1 rfl) ?_
  refine lv_iload_n hx hb dX8_entry_1 rfl (lv_at hl 2 rfl) ?_
  have hPc := hP.sub (ws' := []) [] rfl
  have hKc := hK.sub (tys' := []) [] rfl
  refine vx_callv (vx_runS (As := [.int p0, .int p1]) (rest := []) ⟨hx, hb, hml, hown, hts⟩ (k_X8_checkEntry l hfl G z p0 p1 s.heap.size ) (va_cwS 2 hts (lw_goodApp (lw_3 q1032 q1033 q1) q1034) rfl rfl rfl (by decide +kernel) ⟨Nat.le_of_ble_eq_true rfl, Nat.le_of_ble_eq_true rfl⟩) ⟨PR.blind, PR.of hPc hKc hG hS hA [.int p0, .int p1]⟩ rfl rfl hl.1 rfl (lv_room (Nat.le_of_ble_eq_true rfl)) dX8_entry_2 ⟨Nat.le_of_ble_eq_true rfl, Nat.le_of_ble_eq_true rfl⟩) hS (fun q h9 h => zN.not h9 h) (fun q h => hA q (Nat.le_trans hS.1 h)) (fun q h9 h => zN.not h9 h) (fun E ce q9 ux t_4 H_1 locs ht hvm px_5 hE hz1 hk1 hS hq9 hv9 hcl9 => ?_) (fun u t_4 H_1 locs ht hvm hw_3 hB hz1 hk1 hS => ?_)
  · exact vx_out (fun x9 h9 => (htab x9 h9).elim) hlocks hq9 hv9 hcl9 (fun t2 ht2 hal2 => zX.same px_5 hE hS ht2) hS.2.2 (Nat.le_of_ble_eq_true rfl) (Nat.le_of_ble_eq_true rfl)
  have hP := hP.grown hk1
  refine W.widen (k := 2) (n := 12) (Nat.le_of_ble_eq_true rfl) (Nat.le_of_ble_eq_true rfl) ?_
  refine lv_aload_n hx hb dX8_entry_5 rfl (lv_at hl 0 rfl) ?_
  refine va_get (D := G) (ci := 12) (v := .ref a6) (C := RX8) (T := TX8) (N := 10) hx hb hg in_X8 hown hK hP 0 rfl rfl 5 (by decide) (hg _ q130) (fun _ h9 => h9) rfl dX8_entry_6 ?_
  refine lv_bipush (v := 100) hx hb dX8_entry_9 (by decide) ?_
  refine lv_iload_n hx hb dX8_entry_11 rfl (lv_at hl 1 rfl) ?_
  refine lv_imul hx hb dX8_entry_12 ?_
  refine lv_topi (fun f_6 ef_6 => ?_)
  refine lv_iload_n hx hb dX8_entry_13 rfl (lv_at hl 2 rfl) ?_
  refine lv_iadd hx hb dX8_entry_14 ?_
  refine lv_topi (fun f_7 ef_7 => ?_)
  have hPc := hP.sub (ws' := [(a6, .inr (10, [.ref b1, .ref b2, .ref b3, .int 0])), (b1, .inl (cyA, 400, .inl (nI)))]) [1, 2] rfl
  have hKc := hK.sub (tys' := [(cyA, .int)]) [0] rfl
  refine va_calli (va_runV (As := [.int f_7]) (rest := []) ⟨hx, hb, hml, hown, hts⟩ (k_X6_lowestOf l G z a6 b1 b2 b3 cyA f_7 H_1.size (by rw [ef_7, ef_6]; exact z_ent hw_3)) (cwV 1 hts (lw_goodApp (lw_4 q1060 q214 q215 q5) q216) rfl rfl rfl (by decide +kernel) ⟨Nat.le_of_ble_eq_true rfl, Nat.le_of_ble_eq_true rfl⟩) ⟨PR.blind, va_recv hK hP (ci := 10) (q0 := 1) rfl rfl, PR.of hPc hKc hG hS hA [.ref a6, .int f_7]⟩ rfl rfl hl.1 rfl (lv_room (Nat.le_of_ble_eq_true rfl)) dX8_entry_15 ⟨Nat.le_of_ble_eq_true rfl, Nat.le_of_ble_eq_true rfl⟩) hS (fun q h9 h => zN.not h9 h) (fun q h => hA q (Nat.le_trans hS.1 h)) (fun r_9 u t_11 H_8 locs ht hvm hw_10 hB hz1 hk1 hS => ?_)
  have hP := hP.grown hk1
  refine W.widen (k := 2) (n := 12) (Nat.le_of_ble_eq_true rfl) (Nat.le_of_ble_eq_true rfl) ?_
  obtain rfl : f_7 = r_9 := hw_10.symm
  refine W.widen (k := 2) (n := 12) (Nat.le_of_ble_eq_true rfl) (Nat.le_of_ble_eq_true rfl) ?_
  refine vx_ret ?_
  exact W.iret (v := f_7) hx hb hr (fun t ht hW => ⟨⟨f_7, (), rfl, ⟨by rw [ef_7, ef_6], hw_3⟩, trivial⟩, hS.F ht⟩) hS.2.2 dX8_entry_18

abbrev wz_X8_merge : List Cond := .code yX8_merge cX8_merge 5 (Option.some Jvm.ClassFile.FieldType.boolean) :: lw_good
set_option maxHeartbeats 4000000 in
set_option maxRecDepth 100000 in
/-- merge: the first one -/
theorem k_X8_merge (l : Launch) (hfl : l.stackTraces = false) (G : va_G) (z : Nat) (h0 : Nat) (a1 : Nat) (a2 : Nat) (a3 : Nat) (a4 : Nat) (a5 : Nat) (a6 : Nat) (a7 : Nat) (a8 : Nat) (tol : Int32) (sal : Int32) (b1 : Nat) (b2 : Nat) (b3 : Nat) (cyA : ClassId) (cyJ : ClassId) (fL : Nat → Int32) (p0 : Int32) (p1 : Int32) (p2 : Int32) (p3 : Int32) (sz : Nat)  : vx_Met l yX8_merge wz_X8_merge ({ frames := 8, cells := 4, slots := 24, locals := 125 }) (va_Pc [.ref h0, .int p0, .int p1, .int p2, .int p3] (PW G z [(h0, .inr (12, [.ref a1, .ref a2, .ref a3, .ref a4, .ref a5, .ref a6, .ref a7, .ref a8, .int tol, .int sal])), (a6, .inr (10, [.ref b1, .ref b2, .ref b3, .int 0])), (b1, .inl (cyA, 400, .inl (nI))), (b2, .inl (cyJ, 512, .inl (fL)))] [(cyA, .int), (cyJ, .int)] sz)) (va_Qi (fun (r : Int32) (_ : Unit) => (r = if 100 * p0 + p1 = 100 * p2 + p3 then 0 else 1) ∧ okE p0 p1 ∧ okE p2 p3) (fun (_ : Unit) (t : State) => QW G [] [] (va_A [(h0, .inr (12, [.ref a1, .ref a2, .ref a3, .ref a4, .ref a5, .ref a6, .ref a7, .ref a8, .int tol, .int sal])), (a6, .inr (10, [.ref b1, .ref b2, .ref b3, .int 0])), (b1, .inl (cyA, 400, .inl (nI))), (b2, .inl (cyJ, 512, .inl (fL)))] sz) t) (va_A [(h0, .inr (12, [.ref a1, .ref a2, .ref a3, .ref a4, .ref a5, .ref a6, .ref a7, .ref a8, .int tol, .int sal])), (a6, .inr (10, [.ref b1, .ref b2, .ref b3, .int 0])), (b1, .inl (cyA, 400, .inl (nI))), (b2, .inl (cyJ, 512, .inl (fL)))] sz)) (zX (¬ (okE p0 p1 ∧ okE p2 p3)) "java/lang/IllegalArgumentException" (va_A [(h0, .inr (12, [.ref a1, .ref a2, .ref a3, .ref a4, .ref a5, .ref a6, .ref a7, .ref a8, .int tol, .int sal])), (a6, .inr (10, [.ref b1, .ref b2, .ref b3, .int 0])), (b1, .inl (cyA, 400, .inl (nI))), (b2, .inl (cyJ, 512, .inl (fL)))] sz)) 4 24 (va_A [(h0, .inr (12, [.ref a1, .ref a2, .ref a3, .ref a4, .ref a5, .ref a6, .ref a7, .ref a8, .int tol, .int sal])), (a6, .inr (10, [.ref b1, .ref b2, .ref b3, .int 0])), (b1, .inl (cyA, 400, .inl (nI))), (b2, .inl (cyJ, 512, .inl (fL)))] sz) := by
  refine vx_ofW (cc := cX8_merge) (maxL := 5) (ret := (Option.some Jvm.ClassFile.FieldType.boolean)) (by decide) rfl ?_
  intro p e s m args below meth c s₁ B hml htab hv
  obtain ⟨rfl, rfl, hP, hK, hD0, hG⟩ := hv
  have hx := B.exec
  have hb := B.bytes
  have hr := B.returns
  have hts := atoms_spec (ws := wz_X8_merge) B.pre
  have hg : ∀ w ∈ lw_good, w.before _ s = true := fun w h => hts w (List.mem_cons_of_mem _ h)
  have hown : s.vm.findClass RX8 = some m.cls := findClass_of_methodNamed B.named
  have hlocks := B.notSynchronized
  have hD := hD0.self (sz := s.heap.size)
  generalize hAe : va_A [(h0, .inr (12, [.ref a1, .ref a2, .ref a3, .ref a4, .ref a5, .ref a6, .ref a7, .ref a8, .int tol, .int sal])), (a6, .inr (10, [.ref b1, .ref b2, .ref b3, .int 0])), (b1, .inl (cyA, 400, .inl (nI))), (b2, .inl (cyJ, 512, .inl (fL)))] s.heap.size = A at hD hG ⊢
  have hA : ∀ q : Nat, s.heap.size ≤ q → A q := fun q h => by rw [← hAe]; exact Or.inr h
  have hS : va_S A s.heap s.heap [] := va_S.rf
  have hl := lv_entry ([.ref h0, .int p0, .int p1, .int p2, .int p3]) (n := 5) (Nat.le_of_ble_eq_true rfl)
  rw [lg_entry_eq]
  generalize (lg_sl ([.ref h0, .int p0, .int p1, .int p2, .int p3]) ++ List.replicate (5 - (lg_sl ([.ref h0, .int p0, .int p1, .int p2, .int p3])).length) Slot.unset).toArray = ls at hl ⊢
  have hl : lv_has ls 5 [(0, .ref h0), (1, .int p0), (2, .int p1), (3, .int p2), (4, .int p3)] := hl
  refine lv_iload_n hx hb dX8_merge_0 rfl (lv_at hl 1 rfl) ?_
  refine lv_iload_n hx hb dX8_merge_1 rfl (lv_at hl 2 rfl) ?_
  have hPc := hP.sub (ws' := []) [] rfl
  have hKc := hK.sub (tys' := []) [] rfl
  refine vx_callv (vx_runS (As := [.int p0, .int p1]) (rest := []) ⟨hx, hb, hml, hown, hts⟩ (k_X8_checkEntry l hfl G z p0 p1 s.heap.size ) (va_cwS 2 hts (lw_goodApp (lw_3 q1032 q1033 q1) q1034) rfl rfl rfl (by decide +kernel) ⟨Nat.le_of_ble_eq_true rfl, Nat.le_of_ble_eq_true rfl⟩) ⟨PR.blind, PR.of hPc hKc hG hS hA [.int p0, .int p1]⟩ rfl rfl hl.1 rfl (lv_room (Nat.le_of_ble_eq_true rfl)) dX8_merge_2 ⟨Nat.le_of_ble_eq_true rfl, Nat.le_of_ble_eq_true rfl⟩) hS (fun q h9 h => zN.not h9 h) (fun q h => hA q (Nat.le_trans hS.1 h)) (fun q h9 h => zN.not h9 h) (fun E ce q9 ux t_4 H_1 locs ht hvm px_5 hE hz1 hk1 hS hq9 hv9 hcl9 => ?_) (fun u t_4 H_1 locs ht hvm hw_3 hB hz1 hk1 hS => ?_)
  · exact vx_out (fun x9 h9 => (htab x9 h9).elim) hlocks hq9 hv9 hcl9 (fun t2 ht2 hal2 => zX.same (fun h9 => px_5 h9.1) hE hS ht2) hS.2.2 (Nat.le_of_ble_eq_true rfl) (Nat.le_of_ble_eq_true rfl)
  have hP := hP.grown hk1
  refine W.widen (k := 2) (n := 12) (Nat.le_of_ble_eq_true rfl) (Nat.le_of_ble_eq_true rfl) ?_
  refine lv_iload_n hx hb dX8_merge_5 rfl (lv_at hl 3 rfl) ?_
  refine lv_iload hx hb dX8_merge_6 (lv_at hl 4 rfl) ?_
  have hPc := hP.sub (ws' := []) [] rfl
  have hKc := hK.sub (tys' := []) [] rfl
  refine vx_callv (vx_runS (As := [.int p2, .int p3]) (rest := []) ⟨hx, hb, hml, hown, hts⟩ (k_X8_checkEntry l hfl G z p2 p3 H_1.size ) (va_cwS 2 hts (lw_goodApp (lw_3 q1032 q1033 q1) q1034) rfl rfl rfl (by decide +kernel) ⟨Nat.le_of_ble_eq_true rfl, Nat.le_of_ble_eq_true rfl⟩) ⟨PR.blind, PR.of hPc hKc hG hS hA [.int p2, .int p3]⟩ rfl rfl hl.1 rfl (lv_room (Nat.le_of_ble_eq_true rfl)) dX8_merge_8 ⟨Nat.le_of_ble_eq_true rfl, Nat.le_of_ble_eq_true rfl⟩) hS (fun q h9 h => zN.not h9 h) (fun q h => hA q (Nat.le_trans hS.1 h)) (fun q h9 h => zN.not h9 h) (fun E ce q9 ux t_9 H_6 locs ht hvm px_10 hE hz1 hk1 hS hq9 hv9 hcl9 => ?_) (fun u t_9 H_6 locs ht hvm hw_8 hB hz1 hk1 hS => ?_)
  · exact vx_out (fun x9 h9 => (htab x9 h9).elim) hlocks hq9 hv9 hcl9 (fun t2 ht2 hal2 => zX.same (fun h9 => px_10 h9.2) hE hS ht2) hS.2.2 (Nat.le_of_ble_eq_true rfl) (Nat.le_of_ble_eq_true rfl)
  have hP := hP.grown hk1
  refine W.widen (k := 4) (n := 24) (Nat.le_of_ble_eq_true rfl) (Nat.le_of_ble_eq_true rfl) ?_
  refine lv_aload_n hx hb dX8_merge_11 rfl (lv_at hl 0 rfl) ?_
  refine va_get (D := G) (ci := 12) (v := .ref a6) (C := RX8) (T := TX8) (N := 10) hx hb hg in_X8 hown hK hP 0 rfl rfl 5 (by decide) (hg _ q130) (fun _ h9 => h9) rfl dX8_merge_12 ?_
  refine lv_bipush (v := 100) hx hb dX8_merge_15 (by decide) ?_
  refine lv_iload_n hx hb dX8_merge_17 rfl (lv_at hl 1 rfl) ?_
  refine lv_imul hx hb dX8_merge_18 ?_
  refine lv_topi (fun f_11 ef_11 => ?_)
  refine lv_iload_n hx hb dX8_merge_19 rfl (lv_at hl 2 rfl) ?_
  refine lv_iadd hx hb dX8_merge_20 ?_
  refine lv_topi (fun f_12 ef_12 => ?_)
  refine lv_bipush (v := 100) hx hb dX8_merge_21 (by decide) ?_
  refine lv_iload_n hx hb dX8_merge_23 rfl (lv_at hl 3 rfl) ?_
  refine lv_imul hx hb dX8_merge_24 ?_
  refine lv_topi (fun f_13 ef_13 => ?_)
  refine lv_iload hx hb dX8_merge_25 (lv_at hl 4 rfl) ?_
  refine lv_iadd hx hb dX8_merge_27 ?_
  refine lv_topi (fun f_14 ef_14 => ?_)
  have hPc := hP.sub (ws' := [(a6, .inr (10, [.ref b1, .ref b2, .ref b3, .int 0])), (b1, .inl (cyA, 400, .inl (nI))), (b2, .inl (cyJ, 512, .inl (fL)))]) [1, 2, 3] rfl
  have hKc := hK.sub (tys' := [(cyA, .int), (cyJ, .int)]) [0, 1] rfl
  have hDc := hD.sub (ws' := [(a6, .inr (10, [.ref b1, .ref b2, .ref b3, .int 0])), (b1, .inl (cyA, 400, .inl (nI))), (b2, .inl (cyJ, 512, .inl (fL)))]) [1, 2, 3] (by decide) rfl
  have hFc := va_free (wc := [(a6, .inr (10, [.ref b1, .ref b2, .ref b3, .int 0])), (b1, .inl (cyA, 400, .inl (nI))), (b2, .inl (cyJ, 512, .inl (fL)))]) hD hS hA [1, 2, 3] rfl
  refine va_calli (va_runV (As := [.int f_12, .int f_14]) (rest := []) ⟨hx, hb, hml, hown, hts⟩ (k_X6_join l G z a6 b1 b2 b3 cyA cyJ fL f_12 f_14 H_6.size (by rw [ef_12, ef_11]; exact z_ent hw_3) (by rw [ef_14, ef_13]; exact z_ent hw_8)) (cwV 2 hts (lw_goodApp (lw_4 q1035 q1036 q1037 q5) q1038) rfl rfl rfl (by decide +kernel) ⟨Nat.le_of_ble_eq_true rfl, Nat.le_of_ble_eq_true rfl⟩) ⟨PW.blind, va_recv hK hP (ci := 10) (q0 := 1) rfl rfl, PW.of hPc hKc hDc hG hS hFc [.ref a6, .int f_12, .int f_14]⟩ rfl rfl hl.1 rfl (lv_room (Nat.le_of_ble_eq_true rfl)) dX8_merge_28 ⟨Nat.le_of_ble_eq_true rfl, Nat.le_of_ble_eq_true rfl⟩) hS (fun q _ h => hFc q h) hFc (fun r_16 u t_18 H_15 locs ht hvm hw_17 hB hz1 hk1 hS => ?_)
  obtain ⟨hP, hD, hK⟩ := QW.join (wr := [(h0, .inr (12, [.ref a1, .ref a2, .ref a3, .ref a4, .ref a5, .ref a6, .ref a7, .ref a8, .int tol, .int sal]))]) (w1 := []) hP hD hK [1, 2, 3] [0] rfl rfl (by decide) (by decide) hk1 hFc ht hvm hB
  have hP : va_P G vwCl ([(h0, .inr (12, [.ref a1, .ref a2, .ref a3, .ref a4, .ref a5, .ref a6, .ref a7, .ref a8, .int tol, .int sal]))]) H_15 := hP
  have hD : va_D A ([(h0, .inr (12, [.ref a1, .ref a2, .ref a3, .ref a4, .ref a5, .ref a6, .ref a7, .ref a8, .int tol, .int sal]))]) := hD
  have hK : va_K G vwCl [(cyA, .int), (cyJ, .int)] s := hK
  refine W.widen (k := 4) (n := 24) (Nat.le_of_ble_eq_true rfl) (Nat.le_of_ble_eq_true rfl) ?_
  refine W.widen (k := 4) (n := 24) (Nat.le_of_ble_eq_true rfl) (Nat.le_of_ble_eq_true rfl) ?_
  refine vx_ret ?_
  have hP9 := hP.sub (ws' := []) [] rfl
  have hD9 := hD.sub (ws' := []) [] (by decide) rfl
  have hK9 := hK.sub (tys' := []) [] rfl
  exact W.zret (v := r_16) hx hb hr (by rw [hw_17]; split <;> rfl) (fun t ht hW => ⟨⟨r_16, (), rfl, ⟨by rw [hw_17, ef_12, ef_11, ef_14, ef_13], hw_3, hw_8⟩, QW.of hP9 hK9 hD9 ht hW.alike⟩, hS.F ht⟩) hS.2.2 dX8_merge_31

abbrev wz_J7_fill_53178 : List Cond := .code yJ7_fill_53178 cJ7_fill_53178 4 none :: lw_good
set_option maxHeartbeats 4000000 in
set_option maxRecDepth 100000 in
/-- Arrays.fill(tally, 0) -/
theorem k_J7_fill_53178 (l : Launch) (G : va_G) (z : Nat) (b3 : Nat) (cyT : ClassId) (fT : Nat → Int32) (sz : Nat)  : Met l yJ7_fill_53178 wz_J7_fill_53178 ({ frames := 0, cells := 0, slots := 0, locals := 0 }) (va_Pc [.ref b3, .int 0] (PW G z [(b3, .inl (cyT, 400, .inl (fT)))] [(cyT, .int)] sz)) (va_Qv (fun (_ : Unit) => True) (fun (_ : Unit) (t : State) => ∃ (gT : Nat → Int32), (∀ j, j < 400 → gT j = 0) ∧ QW G [(b3, .inl (cyT, 400, .inl (gT)))] [(cyT, .int)] (va_A [(b3, .inl (cyT, 400, .inl (fT)))] sz) t) (va_A [(b3, .inl (cyT, 400, .inl (fT)))] sz)) 0 0 (va_A [(b3, .inl (cyT, 400, .inl (fT)))] sz) := by
  refine va_MetF (cc := cJ7_fill_53178) (maxL := 4) (ret := none) (by decide) rfl ?_
  intro p e s m args below meth c s₁ B hml hv
  obtain ⟨rfl, rfl, hP, hK, hD0, hG⟩ := hv
  have hx := B.exec
  have hb := B.bytes
  have hr := B.returns
  have hts := atoms_spec (ws := wz_J7_fill_53178) B.pre
  have hg : ∀ w ∈ lw_good, w.before _ s = true := fun w h => hts w (List.mem_cons_of_mem _ h)
  have hown : s.vm.findClass RJ7 = some m.cls := findClass_of_methodNamed B.named
  have hlocks := B.notSynchronized
  have hD := hD0.self (sz := s.heap.size)
  generalize hAe : va_A [(b3, .inl (cyT, 400, .inl (fT)))] s.heap.size = A at hD hG ⊢
  have hA : ∀ q : Nat, s.heap.size ≤ q → A q := fun q h => by rw [← hAe]; exact Or.inr h
  have hS : va_S A s.heap s.heap [] := va_S.rf
  have hl := lv_entry ([.ref b3, .int 0]) (n := 4) (Nat.le_of_ble_eq_true rfl)
  rw [lg_entry_eq]
  generalize (lg_sl ([.ref b3, .int 0]) ++ List.replicate (4 - (lg_sl ([.ref b3, .int 0])).length) Slot.unset).toArray = ls at hl ⊢
  have hl : lv_has ls 4 [(0, .ref b3), (1, .int 0)] := hl
  refine lv_iconst (v := 0) hx hb dJ7_fill_53178_0 (by decide) ?_
  refine lv_istore_n (lv' := [(2, .int 0), (0, .ref b3), (1, .int 0)]) hx hb dJ7_fill_53178_1 rfl hl (by decide) rfl (fun ls hl => ?_)
  refine lv_aload_n hx hb dJ7_fill_53178_2 rfl (lv_at hl 1 rfl) ?_
  refine va_alen (v := 400) hx hb hK hP 0 0 rfl rfl rfl dJ7_fill_53178_3 ?_
  refine lv_istore_n (lv' := [(3, .int 400), (2, .int 0), (0, .ref b3), (1, .int 0)]) hx hb dJ7_fill_53178_4 rfl hl (by decide) rfl (fun ls hl => ?_)
  refine z_loop (P := fun (n : Nat) (x : Nat × (Nat → Int32)) (H : Heap) (locs : List Loc) (ls : Array Slot) => ∃ (i : Nat) (g : Nat → Int32), x = (i, g) ∧ (i ≤ 400 ∧ 401 ≤ i + n ∧ (∀ j, j < i → g j = 0)) ∧ va_P G vwCl ([(b3, .inl (cyT, 400, .inl (g)))]) H ∧ va_D A ([(b3, .inl (cyT, 400, .inl (g)))]) ∧ va_S (A) s.heap H locs ∧ lv_has ls 4 [(3, .int 400), (2, .int (nI i)), (0, .ref b3), (1, .int 0)]) ?_ ?_ (401) ((0, fT)) _ _ _ ⟨0, fT, rfl, ⟨by omega, by omega, fun j h => absurd h (Nat.not_lt_zero j)⟩, hP, hD, hS, lv_sub hl [0, 1, 2, 3] rfl⟩
  · rintro x H locs ls ⟨i, g, rfl, ⟨hi1, hi2, hi3⟩, -⟩
    omega
  · rintro n ih x H locs ls ⟨i, g, rfl, ⟨hi1, hi2, hi3⟩, hP, hD, hS, hl⟩
    refine lv_iload_n hx hb dJ7_fill_53178_5 rfl (lv_at hl 1 rfl) ?_
    refine lv_iload_n hx hb dJ7_fill_53178_6 rfl (lv_at hl 0 rfl) ?_
    refine lv_icmp_ge (tgt := 20) hx hb dJ7_fill_53178_7 (by decide) (fun c_1 => ?_) (fun c_1 => ?_)
    · have hge : 400 ≤ i := (nI_leI (a := 400) (by omega) (by omega)).mp c_1
      refine W.widen (k := 0) (n := 0) (Nat.le_of_ble_eq_true rfl) (Nat.le_of_ble_eq_true rfl) ?_
      have hP9 := hP.sub (ws' := [(b3, .inl (cyT, 400, .inl (g)))]) [0] rfl
      have hD9 := hD.sub (ws' := [(b3, .inl (cyT, 400, .inl (g)))]) [0] (by decide) rfl
      have hK9 := hK.sub (tys' := [(cyT, .int)]) [0] rfl
      exact W.vret hx hb hr (fun t ht hW => ⟨⟨(), rfl, trivial, ⟨g, fun j h => hi3 j (by omega), QW.of hP9 hK9 hD9 ht hW.alike⟩⟩, hS.F ht⟩) hS.2.2 dJ7_fill_53178_20
    · have hlt : i < 400 := by
        rcases Nat.lt_or_ge i (400) with q | q
        · exact q
        · exact absurd (nI_le (a := 400) q (by omega)) c_1
      refine lv_aload_n hx hb dJ7_fill_53178_10 rfl (lv_at hl 2 rfl) ?_
      refine lv_iload_n hx hb dJ7_fill_53178_11 rfl (lv_at hl 1 rfl) ?_
      refine lv_iload_n hx hb dJ7_fill_53178_12 rfl (lv_at hl 3 rfl) ?_
      refine va_iast hx hb hK hP hD hS 0 0 rfl rfl (vp_in_nI hlt (by decide)) dJ7_fill_53178_13 (fun H_2 locs hP hD hS => ?_)
      have hP : va_P G vwCl ([(b3, .inl (cyT, 400, .inl (upd (g) ((nI i) : Int32).toNatClampNeg (0))))]) H_2 := hP
      have hD : va_D A ([(b3, .inl (cyT, 400, .inl (upd (g) ((nI i) : Int32).toNatClampNeg (0))))]) := hD
      refine lv_iinc (v := (nI (i + 1))) (lv' := [(2, .int (nI (i + 1))), (3, .int 400), (0, .ref b3), (1, .int 0)]) hx hb dJ7_fill_53178_14 hl (k := 1) rfl (nI_1 _) (by decide) rfl (fun ls hl => ?_)
      refine lv_goto (tgt := 5) hx hb dJ7_fill_53178_17 (by decide) ?_
      exact ih ((i + 1, upd g (nI i).toNatClampNeg 0)) _ _ _ ⟨i + 1, upd g (nI i).toNatClampNeg 0, rfl, ⟨by omega, by omega, fun j h => by rw [nI_clamp (by omega)]; exact (Nat.lt_succ_iff_lt_or_eq.mp h).elim (fun h => by rw [z_upd_ne (by omega)]; exact hi3 j h) (fun h => by rw [h]; exact z_upd_same)⟩, hP, hD, hS, lv_sub hl [1, 0, 2, 3] rfl⟩

abbrev wz_X6_clashesAmong : List Cond := .code yX6_clashesAmong cX6_clashesAmong 6 (Option.some Jvm.ClassFile.FieldType.int) :: lw_good
set_option maxHeartbeats 4000000 in
set_option maxRecDepth 100000 in
/-- clashesAmong: nothing is merged -/
theorem k_X6_clashesAmong (l : Launch) (G : va_G) (z : Nat) (h0 : Nat) (b1 : Nat) (b2 : Nat) (b3 : Nat) (cyA : ClassId) (cyT : ClassId) (fT : Nat → Int32) (p0 : Int32) (p1 : Int32) (a : Nat) (sz : Nat) (ha : a + 100 ≤ 400) (h0e : p0 = nI a) (h1e : p1 = nI (a + 100)) : Met l yX6_clashesAmong wz_X6_clashesAmong ({ frames := 1, cells := 0, slots := 0, locals := 23 }) (va_Pc [.ref h0, .int p0, .int p1] (PW G z [(h0, .inr (10, [.ref b1, .ref b2, .ref b3, .int 0])), (b1, .inl (cyA, 400, .inl (nI))), (b3, .inl (cyT, 400, .inl (fT)))] [(cyA, .int), (cyT, .int)] sz)) (va_Qi (fun (r : Int32) (_ : Unit) => r = 0) (fun (_ : Unit) (t : State) => ∃ (gT : Nat → Int32), QW G [(h0, .inr (10, [.ref b1, .ref b2, .ref b3, .int 0])), (b1, .inl (cyA, 400, .inl (nI))), (b3, .inl (cyT, 400, .inl (gT)))] [(cyA, .int), (cyT, .int)] (va_A [(h0, .inr (10, [.ref b1, .ref b2, .ref b3, .int 0])), (b1, .inl (cyA, 400, .inl (nI))), (b3, .inl (cyT, 400, .inl (fT)))] sz) t) (va_A [(h0, .inr (10, [.ref b1, .ref b2, .ref b3, .int 0])), (b1, .inl (cyA, 400, .inl (nI))), (b3, .inl (cyT, 400, .inl (fT)))] sz)) 0 0 (va_A [(h0, .inr (10, [.ref b1, .ref b2, .ref b3, .int 0])), (b1, .inl (cyA, 400, .inl (nI))), (b3, .inl (cyT, 400, .inl (fT)))] sz) := by
  refine Met.ofW (cc := cX6_clashesAmong) (maxL := 6) (ret := (Option.some Jvm.ClassFile.FieldType.int)) (by decide) rfl ?_
  intro p e s m args below meth c s₁ B hml hv
  obtain ⟨rfl, rfl, hP, hK, hD0, hG⟩ := hv
  have hx := B.exec
  have hb := B.bytes
  have hr := B.returns
  have hts := atoms_spec (ws := wz_X6_clashesAmong) B.pre
  have hg : ∀ w ∈ lw_good, w.before _ s = true := fun w h => hts w (List.mem_cons_of_mem _ h)
  have hown : s.vm.findClass RX6 = some m.cls := findClass_of_methodNamed B.named
  have hlocks := B.notSynchronized
  have hD := hD0.self (sz := s.heap.size)
  generalize hAe : va_A [(h0, .inr (10, [.ref b1, .ref b2, .ref b3, .int 0])), (b1, .inl (cyA, 400, .inl (nI))), (b3, .inl (cyT, 400, .inl (fT)))] s.heap.size = A at hD hG ⊢
  have hA : ∀ q : Nat, s.heap.size ≤ q → A q := fun q h => by rw [← hAe]; exact Or.inr h
  have hS : va_S A s.heap s.heap [] := va_S.rf
  have hl := lv_entry ([.ref h0, .int p0, .int p1]) (n := 6) (Nat.le_of_ble_eq_true rfl)
  rw [lg_entry_eq]
  generalize (lg_sl ([.ref h0, .int p0, .int p1]) ++ List.replicate (6 - (lg_sl ([.ref h0, .int p0, .int p1])).length) Slot.unset).toArray = ls at hl ⊢
  have hl : lv_has ls 6 [(0, .ref h0), (1, .int p0), (2, .int p1)] := hl
  refine lv_aload_n hx hb dX6_clashesAmong_0 rfl (lv_at hl 0 rfl) ?_
  refine va_get (D := G) (ci := 10) (v := .ref b3) (C := RX6) (T := TX6) (N := 4) hx hb hg in_X6 hown hK hP 0 rfl rfl 2 (by decide) (hg _ q82) (fun _ h9 => h9) rfl dX6_clashesAmong_1 ?_
  refine lv_iconst (v := 0) hx hb dX6_clashesAmong_4 (by decide) ?_
  have hPc := hP.sub (ws' := [(b3, .inl (cyT, 400, .inl (fT)))]) [2] rfl
  have hKc := hK.sub (tys' := [(cyT, .int)]) [1] rfl
  have hDc := hD.sub (ws' := [(b3, .inl (cyT, 400, .inl (fT)))]) [2] (by decide) rfl
  have hFc := va_free (wc := [(b3, .inl (cyT, 400, .inl (fT)))]) hD hS hA [2] rfl
  refine va_callv (va_runS (As := [.ref b3, .int 0]) (rest := []) ⟨hx, hb, hml, hown, hts⟩ (k_J7_fill_53178 l G z b3 cyT fT s.heap.size ) (va_cwS 2 hts (lw_goodApp (lw_3 q210 q211 q16) q212) rfl rfl rfl (by decide +kernel) ⟨Nat.le_of_ble_eq_true rfl, Nat.le_of_ble_eq_true rfl⟩) ⟨PW.blind, PW.of hPc hKc hDc hG hS hFc [.ref b3, .int 0]⟩ rfl rfl hl.1 rfl (lv_room (Nat.le_of_ble_eq_true rfl)) dX6_clashesAmong_5 ⟨Nat.le_of_ble_eq_true rfl, Nat.le_of_ble_eq_true rfl⟩) hS (fun q _ h => hFc q h) hFc (fun u t_4 H_1 locs ht hvm hw_3 hB hz1 hk1 hS => ?_)
  obtain ⟨gT_5, hf_6, hB⟩ := hB
  obtain ⟨hP, hD, hK⟩ := QW.join (wr := [(h0, .inr (10, [.ref b1, .ref b2, .ref b3, .int 0])), (b1, .inl (cyA, 400, .inl (nI)))]) (w1 := [(b3, .inl (cyT, 400, .inl (gT_5)))]) hP hD hK [2] [0, 1] rfl rfl (by decide) (by decide) hk1 hFc ht hvm hB
  have hP : va_P G vwCl ([(h0, .inr (10, [.ref b1, .ref b2, .ref b3, .int 0])), (b1, .inl (cyA, 400, .inl (nI))), (b3, .inl (cyT, 400, .inl (gT_5)))]) H_1 := hP
  have hD : va_D A ([(h0, .inr (10, [.ref b1, .ref b2, .ref b3, .int 0])), (b1, .inl (cyA, 400, .inl (nI))), (b3, .inl (cyT, 400, .inl (gT_5)))]) := hD
  have hK : va_K G vwCl [(cyA, .int), (cyT, .int), (cyT, .int)] s := hK
  refine W.widen (k := 0) (n := 0) (Nat.le_of_ble_eq_true rfl) (Nat.le_of_ble_eq_true rfl) ?_
  have hT0 := hf_6
  subst h0e
  subst h1e
  refine lv_iconst (v := 0) hx hb dX6_clashesAmong_8 (by decide) ?_
  refine lv_istore_n (lv' := [(3, .int 0), (0, .ref h0), (1, .int (nI a)), (2, .int (nI (a + 100)))]) hx hb dX6_clashesAmong_9 rfl hl (by decide) rfl (fun ls hl => ?_)
  refine lv_iload_n hx hb dX6_clashesAmong_10 rfl (lv_at hl 2 rfl) ?_
  refine lv_istore (lv' := [(4, .int (nI a)), (3, .int 0), (0, .ref h0), (1, .int (nI a)), (2, .int (nI (a + 100)))]) hx hb dX6_clashesAmong_11 hl (by decide) rfl (fun ls hl => ?_)
  refine z_loop (P := fun (n : Nat) (x : Nat × (Nat → Int32)) (H : Heap) (locs : List Loc) (ls : Array Slot) => ∃ (i : Nat) (g : Nat → Int32), x = (i, g) ∧ (i ≤ a + 100 ∧ a + 101 ≤ i + n ∧ (∀ j, i ≤ j → j < 400 → g j = 0)) ∧ va_P G vwCl ([(h0, .inr (10, [.ref b1, .ref b2, .ref b3, .int 0])), (b1, .inl (cyA, 400, .inl (nI))), (b3, .inl (cyT, 400, .inl (g)))]) H ∧ va_D A ([(h0, .inr (10, [.ref b1, .ref b2, .ref b3, .int 0])), (b1, .inl (cyA, 400, .inl (nI))), (b3, .inl (cyT, 400, .inl (g)))]) ∧ va_S (A) s.heap H locs ∧ lv_has ls 6 [(4, .int (nI i)), (3, .int 0), (0, .ref h0), (1, .int (nI a)), (2, .int (nI (a + 100)))]) ?_ ?_ (101) ((a, gT_5)) _ _ _ ⟨a, gT_5, rfl, ⟨by omega, by omega, fun j _ h => hT0 j h⟩, hP, hD, hS, lv_sub hl [0, 1, 2, 3, 4] rfl⟩
  · rintro x H locs ls ⟨i, g, rfl, ⟨hi1, hi2, hi3⟩, -⟩
    omega
  · rintro n ih x H locs ls ⟨i, g, rfl, ⟨hi1, hi2, hi3⟩, hP, hD, hS, hl⟩
    refine lv_iload hx hb dX6_clashesAmong_13 (lv_at hl 0 rfl) ?_
    refine lv_iload_n hx hb dX6_clashesAmong_15 rfl (lv_at hl 4 rfl) ?_
    refine lv_icmp_ge (tgt := 78) hx hb dX6_clashesAmong_16 (by decide) (fun c_7 => ?_) (fun c_7 => ?_)
    · refine lv_iload_n hx hb dX6_clashesAmong_78 rfl (lv_at hl 1 rfl) ?_
      refine W.widen (k := 0) (n := 0) (Nat.le_of_ble_eq_true rfl) (Nat.le_of_ble_eq_true rfl) ?_
      have hP9 := hP.sub (ws' := [(h0, .inr (10, [.ref b1, .ref b2, .ref b3, .int 0])), (b1, .inl (cyA, 400, .inl (nI))), (b3, .inl (cyT, 400, .inl (g)))]) [0, 1, 2] rfl
      have hD9 := hD.sub (ws' := [(h0, .inr (10, [.ref b1, .ref b2, .ref b3, .int 0])), (b1, .inl (cyA, 400, .inl (nI))), (b3, .inl (cyT, 400, .inl (g)))]) [0, 1, 2] (by decide) rfl
      have hK9 := hK.sub (tys' := [(cyA, .int), (cyT, .int)]) [0, 1] rfl
      exact W.iret (v := 0) hx hb hr (fun t ht hW => ⟨⟨0, (), rfl, rfl, ⟨g, QW.of hP9 hK9 hD9 ht hW.alike⟩⟩, hS.F ht⟩) hS.2.2 dX6_clashesAmong_79
    · have hlt : i < a + 100 := by
        rcases Nat.lt_or_ge i (a + 100) with q | q
        · exact q
        · exact absurd (nI_le (a := a + 100) q (by omega)) c_7
      have hin : vp_in (nI i) 400 := vp_in_nI (by omega) (by decide)
      refine lv_aload_n hx hb dX6_clashesAmong_19 rfl (lv_at hl 2 rfl) ?_
      refine lv_iload hx hb dX6_clashesAmong_20 (lv_at hl 0 rfl) ?_
      have hPc := hP.sub (ws' := [(h0, .inr (10, [.ref b1, .ref b2, .ref b3, .int 0])), (b1, .inl (cyA, 400, .inl (nI)))]) [0, 1] rfl
      have hKc := hK.sub (tys' := [(cyA, .int)]) [0] rfl
      refine va_calli (va_runV (As := [.int (nI i)]) (rest := []) ⟨hx, hb, hml, hown, hts⟩ (k_X6_lowestOf l G z h0 b1 b2 b3 cyA ((nI i)) H.size hin) (cwV 1 hts (lw_goodApp (lw_4 q213 q214 q215 q5) q216) rfl rfl rfl (by decide +kernel) ⟨Nat.le_of_ble_eq_true rfl, Nat.le_of_ble_eq_true rfl⟩) ⟨PR.blind, va_recv hK hP (ci := 10) (q0 := 0) rfl rfl, PR.of hPc hKc hG hS hA [.ref h0, .int (nI i)]⟩ rfl rfl hl.1 rfl (lv_room (Nat.le_of_ble_eq_true rfl)) dX6_clashesAmong_22 ⟨Nat.le_of_ble_eq_true rfl, Nat.le_of_ble_eq_true rfl⟩) hS (fun q h9 h => zN.not h9 h) (fun q h => hA q (Nat.le_trans hS.1 h)) (fun r_9 u t_11 H_8 locs ht hvm hw_10 hB hz1 hk1 hS => ?_)
      have hP := hP.grown hk1
      refine W.widen (k := 0) (n := 0) (Nat.le_of_ble_eq_true rfl) (Nat.le_of_ble_eq_true rfl) ?_
      obtain rfl : (nI i) = r_9 := hw_10.symm
      refine lv_istore (lv' := [(5, .int (nI i)), (4, .int (nI i)), (3, .int 0), (0, .ref h0), (1, .int (nI a)), (2, .int (nI (a + 100)))]) hx hb dX6_clashesAmong_25 hl (by decide) rfl (fun ls hl => ?_)
      refine lv_aload_n hx hb dX6_clashesAmong_27 rfl (lv_at hl 3 rfl) ?_
      refine va_get (D := G) (ci := 10) (v := .ref b3) (C := RX6) (T := TX6) (N := 4) hx hb hg in_X6 hown hK hP 0 rfl rfl 2 (by decide) (hg _ q82) (fun _ h9 => h9) rfl dX6_clashesAmong_28 ?_
      refine lv_iload hx hb dX6_clashesAmong_31 (lv_at hl 0 rfl) ?_
      refine lv_dup2_11 hx hb dX6_clashesAmong_33 rfl rfl ?_
      refine va_iald hx hb hK hP 2 1 rfl rfl hin dX6_clashesAmong_34 ?_
      refine lv_topi (fun f_12 ef_12 => ?_)
      obtain rfl : f_12 = 0 := (ef_12.trans (by rw [nI_clamp (by omega)]; exact hi3 i (Nat.le_refl i) (by omega)))
      refine lv_iconst (v := 1) hx hb dX6_clashesAmong_35 (by decide) ?_
      refine lv_iadd hx hb dX6_clashesAmong_36 ?_
      refine lv_topi (fun f_13 ef_13 => ?_)
      obtain rfl : f_13 = 1 := ef_13.trans (by decide)
      refine va_iast hx hb hK hP hD hS 2 1 rfl rfl hin dX6_clashesAmong_37 (fun H_14 locs hP hD hS => ?_)
      have hP : va_P G vwCl ([(h0, .inr (10, [.ref b1, .ref b2, .ref b3, .int 0])), (b1, .inl (cyA, 400, .inl (nI))), (b3, .inl (cyT, 400, .inl (upd (g) ((nI i) : Int32).toNatClampNeg (1))))]) H_14 := hP
      have hD : va_D A ([(h0, .inr (10, [.ref b1, .ref b2, .ref b3, .int 0])), (b1, .inl (cyA, 400, .inl (nI))), (b3, .inl (cyT, 400, .inl (upd (g) ((nI i) : Int32).toNatClampNeg (1))))]) := hD
      refine lv_iload_n hx hb dX6_clashesAmong_38 rfl (lv_at hl 2 rfl) ?_
      refine lv_aload_n hx hb dX6_clashesAmong_39 rfl (lv_at hl 3 rfl) ?_
      refine va_get (D := G) (ci := 10) (v := .ref b3) (C := RX6) (T := TX6) (N := 4) hx hb hg in_X6 hown hK hP 0 rfl rfl 2 (by decide) (hg _ q82) (fun _ h9 => h9) rfl dX6_clashesAmong_40 ?_
      refine lv_iload hx hb dX6_clashesAmong_43 (lv_at hl 0 rfl) ?_
      refine va_iald hx hb hK hP 2 1 rfl rfl hin dX6_clashesAmong_45 ?_
      refine lv_topi (fun f_15 ef_15 => ?_)
      obtain rfl : f_15 = 1 := (ef_15.trans z_upd_same)
      refine lv_iconst (v := 1) hx hb dX6_clashesAmong_46 (by decide) ?_
      refine lv_icmp_ne (tgt := 54) hx hb dX6_clashesAmong_47 (by decide) (fun c_16 => absurd rfl c_16) (fun c_16 => ?_)
      refine lv_iconst (v := 0) hx hb dX6_clashesAmong_50 (by decide) ?_
      refine lv_goto (tgt := 70) hx hb dX6_clashesAmong_51 (by decide) ?_
      refine lv_iadd hx hb dX6_clashesAmong_70 ?_
      refine lv_topi (fun f_17 ef_17 => ?_)
      obtain rfl : f_17 = 0 := ef_17.trans (by decide)
      refine lv_istore_n (lv' := [(3, .int 0), (5, .int (nI i)), (4, .int (nI i)), (0, .ref h0), (1, .int (nI a)), (2, .int (nI (a + 100)))]) hx hb dX6_clashesAmong_71 rfl hl (by decide) rfl (fun ls hl => ?_)
      refine lv_iinc (v := (nI (i + 1))) (lv' := [(4, .int (nI (i + 1))), (3, .int 0), (5, .int (nI i)), (0, .ref h0), (1, .int (nI a)), (2, .int (nI (a + 100)))]) hx hb dX6_clashesAmong_72 hl (k := 2) rfl (nI_1 _) (by decide) rfl (fun ls hl => ?_)
      refine lv_goto (tgt := 13) hx hb dX6_clashesAmong_75 (by decide) ?_
      exact ih ((i + 1, upd g (nI i).toNatClampNeg 1)) _ _ _ ⟨i + 1, upd g (nI i).toNatClampNeg 1, rfl, ⟨by omega, by omega, fun j h h2 => by rw [nI_clamp (by omega), z_upd_ne (by omega)]; exact hi3 j (by omega) h2⟩, hP, hD, hS, lv_sub hl [0, 1, 3, 4, 5] rfl⟩

abbrev wz_X8_clashes : List Cond := .code yX8_clashes cX8_clashes 3 (Option.some Jvm.ClassFile.FieldType.int) :: lw_good
set_option maxHeartbeats 4000000 in
set_option maxRecDepth 100000 in
/-- clashes: nothing is merged -/
theorem k_X8_clashes (l : Launch) (G : va_G) (z : Nat) (h0 : Nat) (a1 : Nat) (a2 : Nat) (a3 : Nat) (a4 : Nat) (a5 : Nat) (a6 : Nat) (a7 : Nat) (a8 : Nat) (tol : Int32) (sal : Int32) (b1 : Nat) (b2 : Nat) (b3 : Nat) (cyA : ClassId) (cyT : ClassId) (fT : Nat → Int32) (sz : Nat)  : Met l yX8_clashes wz_X8_clashes ({ frames := 2, cells := 0, slots := 0, locals := 48 }) (va_Pc [.ref h0] (PW G z [(h0, .inr (12, [.ref a1, .ref a2, .ref a3, .ref a4, .ref a5, .ref a6, .ref a7, .ref a8, .int tol, .int sal])), (a6, .inr (10, [.ref b1, .ref b2, .ref b3, .int 0])), (b1, .inl (cyA, 400, .inl (nI))), (b3, .inl (cyT, 400, .inl (fT)))] [(cyA, .int), (cyT, .int)] sz)) (va_Qi (fun (r : Int32) (_ : Unit) => r = 0) (fun (_ : Unit) (t : State) => QW G [] [] (va_A [(h0, .inr (12, [.ref a1, .ref a2, .ref a3, .ref a4, .ref a5, .ref a6, .ref a7, .ref a8, .int tol, .int sal])), (a6, .inr (10, [.ref b1, .ref b2, .ref b3, .int 0])), (b1, .inl (cyA, 400, .inl (nI))), (b3, .inl (cyT, 400, .inl (fT)))] sz) t) (va_A [(h0, .inr (12, [.ref a1, .ref a2, .ref a3, .ref a4, .ref a5, .ref a6, .ref a7, .ref a8, .int tol, .int sal])), (a6, .inr (10, [.ref b1, .ref b2, .ref b3, .int 0])), (b1, .inl (cyA, 400, .inl (nI))), (b3, .inl (cyT, 400, .inl (fT)))] sz)) 0 0 (va_A [(h0, .inr (12, [.ref a1, .ref a2, .ref a3, .ref a4, .ref a5, .ref a6, .ref a7, .ref a8, .int tol, .int sal])), (a6, .inr (10, [.ref b1, .ref b2, .ref b3, .int 0])), (b1, .inl (cyA, 400, .inl (nI))), (b3, .inl (cyT, 400, .inl (fT)))] sz) := by
  refine Met.ofW (cc := cX8_clashes) (maxL := 3) (ret := (Option.some Jvm.ClassFile.FieldType.int)) (by decide) rfl ?_
  intro p e s m args below meth c s₁ B hml hv
  obtain ⟨rfl, rfl, hP, hK, hD0, hG⟩ := hv
  have hx := B.exec
  have hb := B.bytes
  have hr := B.returns
  have hts := atoms_spec (ws := wz_X8_clashes) B.pre
  have hg : ∀ w ∈ lw_good, w.before _ s = true := fun w h => hts w (List.mem_cons_of_mem _ h)
  have hown : s.vm.findClass RX8 = some m.cls := findClass_of_methodNamed B.named
  have hlocks := B.notSynchronized
  have hD := hD0.self (sz := s.heap.size)
  generalize hAe : va_A [(h0, .inr (12, [.ref a1, .ref a2, .ref a3, .ref a4, .ref a5, .ref a6, .ref a7, .ref a8, .int tol, .int sal])), (a6, .inr (10, [.ref b1, .ref b2, .ref b3, .int 0])), (b1, .inl (cyA, 400, .inl (nI))), (b3, .inl (cyT, 400, .inl (fT)))] s.heap.size = A at hD hG ⊢
  have hA : ∀ q : Nat, s.heap.size ≤ q → A q := fun q h => by rw [← hAe]; exact Or.inr h
  have hS : va_S A s.heap s.heap [] := va_S.rf
  have hl := lv_entry ([.ref h0]) (n := 3) (Nat.le_of_ble_eq_true rfl)
  rw [lg_entry_eq]
  generalize (lg_sl ([.ref h0]) ++ List.replicate (3 - (lg_sl ([.ref h0])).length) Slot.unset).toArray = ls at hl ⊢
  have hl : lv_has ls 3 [(0, .ref h0)] := hl
  refine lv_iconst (v := 0) hx hb dX8_clashes_0 (by decide) ?_
  refine lv_istore_n (lv' := [(1, .int 0), (0, .ref h0)]) hx hb dX8_clashes_1 rfl hl (by decide) rfl (fun ls hl => ?_)
  refine lv_iconst (v := 0) hx hb dX8_clashes_2 (by decide) ?_
  refine lv_istore_n (lv' := [(2, .int 0), (1, .int 0), (0, .ref h0)]) hx hb dX8_clashes_3 rfl hl (by decide) rfl (fun ls hl => ?_)
  refine lv_iload_n hx hb dX8_clashes_4 rfl (lv_at hl 0 rfl) ?_
  refine lv_iconst (v := 3) hx hb dX8_clashes_5 (by decide) ?_
  refine lv_icmp_gt (tgt := 36) hx hb dX8_clashes_6 (by decide) (fun c_1 => absurd c_1 (by decide)) (fun c_1 => ?_)
  refine lv_iload_n hx hb dX8_clashes_9 rfl (lv_at hl 1 rfl) ?_
  refine lv_aload_n hx hb dX8_clashes_10 rfl (lv_at hl 2 rfl) ?_
  refine va_get (D := G) (ci := 12) (v := .ref a6) (C := RX8) (T := TX8) (N := 10) hx hb hg in_X8 hown hK hP 0 rfl rfl 5 (by decide) (hg _ q130) (fun _ h9 => h9) rfl dX8_clashes_11 ?_
  refine lv_bipush (v := 100) hx hb dX8_clashes_14 (by decide) ?_
  refine lv_iload_n hx hb dX8_clashes_16 rfl (lv_at hl 0 rfl) ?_
  refine lv_imul hx hb dX8_clashes_17 ?_
  refine lv_topi (fun f_2 ef_2 => ?_)
  obtain rfl : f_2 = 0 := ef_2.trans (by decide)
  refine lv_bipush (v := 100) hx hb dX8_clashes_18 (by decide) ?_
  refine lv_iload_n hx hb dX8_clashes_20 rfl (lv_at hl 0 rfl) ?_
  refine lv_imul hx hb dX8_clashes_21 ?_
  refine lv_topi (fun f_3 ef_3 => ?_)
  obtain rfl : f_3 = 0 := ef_3.trans (by decide)
  refine lv_bipush (v := 100) hx hb dX8_clashes_22 (by decide) ?_
  refine lv_iadd hx hb dX8_clashes_24 ?_
  refine lv_topi (fun f_4 ef_4 => ?_)
  obtain rfl : f_4 = 100 := ef_4.trans (by decide)
  have hPc := hP.sub (ws' := [(a6, .inr (10, [.ref b1, .ref b2, .ref b3, .int 0])), (b1, .inl (cyA, 400, .inl (nI))), (b3, .inl (cyT, 400, .inl (fT)))]) [1, 2, 3] rfl
  have hKc := hK.sub (tys' := [(cyA, .int), (cyT, .int)]) [0, 1] rfl
  have hDc := hD.sub (ws' := [(a6, .inr (10, [.ref b1, .ref b2, .ref b3, .int 0])), (b1, .inl (cyA, 400, .inl (nI))), (b3, .inl (cyT, 400, .inl (fT)))]) [1, 2, 3] (by decide) rfl
  have hFc := va_free (wc := [(a6, .inr (10, [.ref b1, .ref b2, .ref b3, .int 0])), (b1, .inl (cyA, 400, .inl (nI))), (b3, .inl (cyT, 400, .inl (fT)))]) hD hS hA [1, 2, 3] rfl
  refine va_calli (va_runV (As := [.int 0, .int 100]) (rest := [.int 0]) ⟨hx, hb, hml, hown, hts⟩ (k_X6_clashesAmong l G z a6 b1 b2 b3 cyA cyT fT 0 100 0 s.heap.size (by decide) rfl rfl) (cwV 2 hts (lw_goodApp (lw_4 q206 q207 q208 q5) q209) rfl rfl rfl (by decide +kernel) ⟨Nat.le_of_ble_eq_true rfl, Nat.le_of_ble_eq_true rfl⟩) ⟨PW.blind, va_recv hK hP (ci := 10) (q0 := 1) rfl rfl, PW.of hPc hKc hDc hG hS hFc [.ref a6, .int 0, .int 100]⟩ rfl rfl hl.1 rfl (lv_room (Nat.le_of_ble_eq_true rfl)) dX8_clashes_25 ⟨Nat.le_of_ble_eq_true rfl, Nat.le_of_ble_eq_true rfl⟩) hS (fun q _ h => hFc q h) hFc (fun r_6 u t_8 H_5 locs ht hvm hw_7 hB hz1 hk1 hS => ?_)
  obtain ⟨gT_9, hB⟩ := hB
  obtain ⟨hP, hD, hK⟩ := QW.join (wr := [(h0, .inr (12, [.ref a1, .ref a2, .ref a3, .ref a4, .ref a5, .ref a6, .ref a7, .ref a8, .int tol, .int sal]))]) (w1 := [(a6, .inr (10, [.ref b1, .ref b2, .ref b3, .int 0])), (b1, .inl (cyA, 400, .inl (nI))), (b3, .inl (cyT, 400, .inl (gT_9)))]) hP hD hK [1, 2, 3] [0] rfl rfl (by decide) (by decide) hk1 hFc ht hvm hB
  have hP : va_P G vwCl ([(h0, .inr (12, [.ref a1, .ref a2, .ref a3, .ref a4, .ref a5, .ref a6, .ref a7, .ref a8, .int tol, .int sal])), (a6, .inr (10, [.ref b1, .ref b2, .ref b3, .int 0])), (b1, .inl (cyA, 400, .inl (nI))), (b3, .inl (cyT, 400, .inl (gT_9)))]) H_5 := hP
  have hD : va_D A ([(h0, .inr (12, [.ref a1, .ref a2, .ref a3, .ref a4, .ref a5, .ref a6, .ref a7, .ref a8, .int tol, .int sal])), (a6, .inr (10, [.ref b1, .ref b2, .ref b3, .int 0])), (b1, .inl (cyA, 400, .inl (nI))), (b3, .inl (cyT, 400, .inl (gT_9)))]) := hD
  have hK : va_K G vwCl [(cyA, .int), (cyT, .int), (cyA, .int), (cyT, .int)] s := hK
  refine W.widen (k := 0) (n := 0) (Nat.le_of_ble_eq_true rfl) (Nat.le_of_ble_eq_true rfl) ?_
  obtain rfl : 0 = r_6 := hw_7.symm
  refine lv_iadd hx hb dX8_clashes_28 ?_
  refine lv_topi (fun f_10 ef_10 => ?_)
  obtain rfl : f_10 = 0 := ef_10.trans (by decide)
  refine lv_istore_n (lv' := [(1, .int 0), (2, .int 0), (0, .ref h0)]) hx hb dX8_clashes_29 rfl hl (by decide) rfl (fun ls hl => ?_)
  refine lv_iinc (v := 1) (lv' := [(2, .int 1), (1, .int 0), (0, .ref h0)]) hx hb dX8_clashes_30 hl (k := 1) rfl rfl (by decide) rfl (fun ls hl => ?_)
  refine lv_goto (tgt := 4) hx hb dX8_clashes_33 (by decide) ?_
  refine lv_iload_n hx hb dX8_clashes_4 rfl (lv_at hl 0 rfl) ?_
  refine lv_iconst (v := 3) hx hb dX8_clashes_5 (by decide) ?_
  refine lv_icmp_gt (tgt := 36) hx hb dX8_clashes_6 (by decide) (fun c_11 => absurd c_11 (by decide)) (fun c_11 => ?_)
  refine lv_iload_n hx hb dX8_clashes_9 rfl (lv_at hl 1 rfl) ?_
  refine lv_aload_n hx hb dX8_clashes_10 rfl (lv_at hl 2 rfl) ?_
  refine va_get (D := G) (ci := 12) (v := .ref a6) (C := RX8) (T := TX8) (N := 10) hx hb hg in_X8 hown hK hP 0 rfl rfl 5 (by decide) (hg _ q130) (fun _ h9 => h9) rfl dX8_clashes_11 ?_
  refine lv_bipush (v := 100) hx hb dX8_clashes_14 (by decide) ?_
  refine lv_iload_n hx hb dX8_clashes_16 rfl (lv_at hl 0 rfl) ?_
  refine lv_imul hx hb dX8_clashes_17 ?_
  refine lv_topi (fun f_12 ef_12 => ?_)
  obtain rfl : f_12 = 100 := ef_12.trans (by decide)
  refine lv_bipush (v := 100) hx hb dX8_clashes_18 (by decide) ?_
  refine lv_iload_n hx hb dX8_clashes_20 rfl (lv_at hl 0 rfl) ?_
  refine lv_imul hx hb dX8_clashes_21 ?_
  refine lv_topi (fun f_13 ef_13 => ?_)
  obtain rfl : f_13 = 100 := ef_13.trans (by decide)
  refine lv_bipush (v := 100) hx hb dX8_clashes_22 (by decide) ?_
  refine lv_iadd hx hb dX8_clashes_24 ?_
  refine lv_topi (fun f_14 ef_14 => ?_)
  obtain rfl : f_14 = 200 := ef_14.trans (by decide)
  have hPc := hP.sub (ws' := [(a6, .inr (10, [.ref b1, .ref b2, .ref b3, .int 0])), (b1, .inl (cyA, 400, .inl (nI))), (b3, .inl (cyT, 400, .inl (gT_9)))]) [1, 2, 3] rfl
  have hKc := hK.sub (tys' := [(cyA, .int), (cyT, .int)]) [0, 1] rfl
  have hDc := hD.sub (ws' := [(a6, .inr (10, [.ref b1, .ref b2, .ref b3, .int 0])), (b1, .inl (cyA, 400, .inl (nI))), (b3, .inl (cyT, 400, .inl (gT_9)))]) [1, 2, 3] (by decide) rfl
  have hFc := va_free (wc := [(a6, .inr (10, [.ref b1, .ref b2, .ref b3, .int 0])), (b1, .inl (cyA, 400, .inl (nI))), (b3, .inl (cyT, 400, .inl (gT_9)))]) hD hS hA [1, 2, 3] rfl
  refine va_calli (va_runV (As := [.int 100, .int 200]) (rest := [.int 0]) ⟨hx, hb, hml, hown, hts⟩ (k_X6_clashesAmong l G z a6 b1 b2 b3 cyA cyT gT_9 100 200 100 H_5.size (by decide) rfl rfl) (cwV 2 hts (lw_goodApp (lw_4 q206 q207 q208 q5) q209) rfl rfl rfl (by decide +kernel) ⟨Nat.le_of_ble_eq_true rfl, Nat.le_of_ble_eq_true rfl⟩) ⟨PW.blind, va_recv hK hP (ci := 10) (q0 := 1) rfl rfl, PW.of hPc hKc hDc hG hS hFc [.ref a6, .int 100, .int 200]⟩ rfl rfl hl.1 rfl (lv_room (Nat.le_of_ble_eq_true rfl)) dX8_clashes_25 ⟨Nat.le_of_ble_eq_true rfl, Nat.le_of_ble_eq_true rfl⟩) hS (fun q _ h => hFc q h) hFc (fun r_16 u t_18 H_15 locs ht hvm hw_17 hB hz1 hk1 hS => ?_)
  obtain ⟨gT_19, hB⟩ := hB
  obtain ⟨hP, hD, hK⟩ := QW.join (wr := [(h0, .inr (12, [.ref a1, .ref a2, .ref a3, .ref a4, .ref a5, .ref a6, .ref a7, .ref a8, .int tol, .int sal]))]) (w1 := [(a6, .inr (10, [.ref b1, .ref b2, .ref b3, .int 0])), (b1, .inl (cyA, 400, .inl (nI))), (b3, .inl (cyT, 400, .inl (gT_19)))]) hP hD hK [1, 2, 3] [0] rfl rfl (by decide) (by decide) hk1 hFc ht hvm hB
  have hP : va_P G vwCl ([(h0, .inr (12, [.ref a1, .ref a2, .ref a3, .ref a4, .ref a5, .ref a6, .ref a7, .ref a8, .int tol, .int sal])), (a6, .inr (10, [.ref b1, .ref b2, .ref b3, .int 0])), (b1, .inl (cyA, 400, .inl (nI))), (b3, .inl (cyT, 400, .inl (gT_19)))]) H_15 := hP
  have hD : va_D A ([(h0, .inr (12, [.ref a1, .ref a2, .ref a3, .ref a4, .ref a5, .ref a6, .ref a7, .ref a8, .int tol, .int sal])), (a6, .inr (10, [.ref b1, .ref b2, .ref b3, .int 0])), (b1, .inl (cyA, 400, .inl (nI))), (b3, .inl (cyT, 400, .inl (gT_19)))]) := hD
  have hK : va_K G vwCl [(cyA, .int), (cyT, .int), (cyA, .int), (cyT, .int), (cyA, .int), (cyT, .int)] s := hK
  refine W.widen (k := 0) (n := 0) (Nat.le_of_ble_eq_true rfl) (Nat.le_of_ble_eq_true rfl) ?_
  obtain rfl : 0 = r_16 := hw_17.symm
  refine lv_iadd hx hb dX8_clashes_28 ?_
  refine lv_topi (fun f_20 ef_20 => ?_)
  obtain rfl : f_20 = 0 := ef_20.trans (by decide)
  refine lv_istore_n (lv' := [(1, .int 0), (2, .int 1), (0, .ref h0)]) hx hb dX8_clashes_29 rfl hl (by decide) rfl (fun ls hl => ?_)
  refine lv_iinc (v := 2) (lv' := [(2, .int 2), (1, .int 0), (0, .ref h0)]) hx hb dX8_clashes_30 hl (k := 1) rfl rfl (by decide) rfl (fun ls hl => ?_)
  refine lv_goto (tgt := 4) hx hb dX8_clashes_33 (by decide) ?_
  refine lv_iload_n hx hb dX8_clashes_4 rfl (lv_at hl 0 rfl) ?_
  refine lv_iconst (v := 3) hx hb dX8_clashes_5 (by decide) ?_
  refine lv_icmp_gt (tgt := 36) hx hb dX8_clashes_6 (by decide) (fun c_21 => absurd c_21 (by decide)) (fun c_21 => ?_)
  refine lv_iload_n hx hb dX8_clashes_9 rfl (lv_at hl 1 rfl) ?_
  refine lv_aload_n hx hb dX8_clashes_10 rfl (lv_at hl 2 rfl) ?_
  refine va_get (D := G) (ci := 12) (v := .ref a6) (C := RX8) (T := TX8) (N := 10) hx hb hg in_X8 hown hK hP 0 rfl rfl 5 (by decide) (hg _ q130) (fun _ h9 => h9) rfl dX8_clashes_11 ?_
  refine lv_bipush (v := 100) hx hb dX8_clashes_14 (by decide) ?_
  refine lv_iload_n hx hb dX8_clashes_16 rfl (lv_at hl 0 rfl) ?_
  refine lv_imul hx hb dX8_clashes_17 ?_
  refine lv_topi (fun f_22 ef_22 => ?_)
  obtain rfl : f_22 = 200 := ef_22.trans (by decide)
  refine lv_bipush (v := 100) hx hb dX8_clashes_18 (by decide) ?_
  refine lv_iload_n hx hb dX8_clashes_20 rfl (lv_at hl 0 rfl) ?_
  refine lv_imul hx hb dX8_clashes_21 ?_
  refine lv_topi (fun f_23 ef_23 => ?_)
  obtain rfl : f_23 = 200 := ef_23.trans (by decide)
  refine lv_bipush (v := 100) hx hb dX8_clashes_22 (by decide) ?_
  refine lv_iadd hx hb dX8_clashes_24 ?_
  refine lv_topi (fun f_24 ef_24 => ?_)
  obtain rfl : f_24 = 300 := ef_24.trans (by decide)
  have hPc := hP.sub (ws' := [(a6, .inr (10, [.ref b1, .ref b2, .ref b3, .int 0])), (b1, .inl (cyA, 400, .inl (nI))), (b3, .inl (cyT, 400, .inl (gT_19)))]) [1, 2, 3] rfl
  have hKc := hK.sub (tys' := [(cyA, .int), (cyT, .int)]) [0, 1] rfl
  have hDc := hD.sub (ws' := [(a6, .inr (10, [.ref b1, .ref b2, .ref b3, .int 0])), (b1, .inl (cyA, 400, .inl (nI))), (b3, .inl (cyT, 400, .inl (gT_19)))]) [1, 2, 3] (by decide) rfl
  have hFc := va_free (wc := [(a6, .inr (10, [.ref b1, .ref b2, .ref b3, .int 0])), (b1, .inl (cyA, 400, .inl (nI))), (b3, .inl (cyT, 400, .inl (gT_19)))]) hD hS hA [1, 2, 3] rfl
  refine va_calli (va_runV (As := [.int 200, .int 300]) (rest := [.int 0]) ⟨hx, hb, hml, hown, hts⟩ (k_X6_clashesAmong l G z a6 b1 b2 b3 cyA cyT gT_19 200 300 200 H_15.size (by decide) rfl rfl) (cwV 2 hts (lw_goodApp (lw_4 q206 q207 q208 q5) q209) rfl rfl rfl (by decide +kernel) ⟨Nat.le_of_ble_eq_true rfl, Nat.le_of_ble_eq_true rfl⟩) ⟨PW.blind, va_recv hK hP (ci := 10) (q0 := 1) rfl rfl, PW.of hPc hKc hDc hG hS hFc [.ref a6, .int 200, .int 300]⟩ rfl rfl hl.1 rfl (lv_room (Nat.le_of_ble_eq_true rfl)) dX8_clashes_25 ⟨Nat.le_of_ble_eq_true rfl, Nat.le_of_ble_eq_true rfl⟩) hS (fun q _ h => hFc q h) hFc (fun r_26 u t_28 H_25 locs ht hvm hw_27 hB hz1 hk1 hS => ?_)
  obtain ⟨gT_29, hB⟩ := hB
  obtain ⟨hP, hD, hK⟩ := QW.join (wr := [(h0, .inr (12, [.ref a1, .ref a2, .ref a3, .ref a4, .ref a5, .ref a6, .ref a7, .ref a8, .int tol, .int sal]))]) (w1 := [(a6, .inr (10, [.ref b1, .ref b2, .ref b3, .int 0])), (b1, .inl (cyA, 400, .inl (nI))), (b3, .inl (cyT, 400, .inl (gT_29)))]) hP hD hK [1, 2, 3] [0] rfl rfl (by decide) (by decide) hk1 hFc ht hvm hB
  have hP : va_P G vwCl ([(h0, .inr (12, [.ref a1, .ref a2, .ref a3, .ref a4, .ref a5, .ref a6, .ref a7, .ref a8, .int tol, .int sal])), (a6, .inr (10, [.ref b1, .ref b2, .ref b3, .int 0])), (b1, .inl (cyA, 400, .inl (nI))), (b3, .inl (cyT, 400, .inl (gT_29)))]) H_25 := hP
  have hD : va_D A ([(h0, .inr (12, [.ref a1, .ref a2, .ref a3, .ref a4, .ref a5, .ref a6, .ref a7, .ref a8, .int tol, .int sal])), (a6, .inr (10, [.ref b1, .ref b2, .ref b3, .int 0])), (b1, .inl (cyA, 400, .inl (nI))), (b3, .inl (cyT, 400, .inl (gT_29)))]) := hD
  have hK : va_K G vwCl [(cyA, .int), (cyT, .int), (cyA, .int), (cyT, .int), (cyA, .int), (cyT, .int), (cyA, .int), (cyT, .int)] s := hK
  refine W.widen (k := 0) (n := 0) (Nat.le_of_ble_eq_true rfl) (Nat.le_of_ble_eq_true rfl) ?_
  obtain rfl : 0 = r_26 := hw_27.symm
  refine lv_iadd hx hb dX8_clashes_28 ?_
  refine lv_topi (fun f_30 ef_30 => ?_)
  obtain rfl : f_30 = 0 := ef_30.trans (by decide)
  refine lv_istore_n (lv' := [(1, .int 0), (2, .int 2), (0, .ref h0)]) hx hb dX8_clashes_29 rfl hl (by decide) rfl (fun ls hl => ?_)
  refine lv_iinc (v := 3) (lv' := [(2, .int 3), (1, .int 0), (0, .ref h0)]) hx hb dX8_clashes_30 hl (k := 1) rfl rfl (by decide) rfl (fun ls hl => ?_)
  refine lv_goto (tgt := 4) hx hb dX8_clashes_33 (by decide) ?_
  refine lv_iload_n hx hb dX8_clashes_4 rfl (lv_at hl 0 rfl) ?_
  refine lv_iconst (v := 3) hx hb dX8_clashes_5 (by decide) ?_
  refine lv_icmp_gt (tgt := 36) hx hb dX8_clashes_6 (by decide) (fun c_31 => absurd c_31 (by decide)) (fun c_31 => ?_)
  refine lv_iload_n hx hb dX8_clashes_9 rfl (lv_at hl 1 rfl) ?_
  refine lv_aload_n hx hb dX8_clashes_10 rfl (lv_at hl 2 rfl) ?_
  refine va_get (D := G) (ci := 12) (v := .ref a6) (C := RX8) (T := TX8) (N := 10) hx hb hg in_X8 hown hK hP 0 rfl rfl 5 (by decide) (hg _ q130) (fun _ h9 => h9) rfl dX8_clashes_11 ?_
  refine lv_bipush (v := 100) hx hb dX8_clashes_14 (by decide) ?_
  refine lv_iload_n hx hb dX8_clashes_16 rfl (lv_at hl 0 rfl) ?_
  refine lv_imul hx hb dX8_clashes_17 ?_
  refine lv_topi (fun f_32 ef_32 => ?_)
  obtain rfl : f_32 = 300 := ef_32.trans (by decide)
  refine lv_bipush (v := 100) hx hb dX8_clashes_18 (by decide) ?_
  refine lv_iload_n hx hb dX8_clashes_20 rfl (lv_at hl 0 rfl) ?_
  refine lv_imul hx hb dX8_clashes_21 ?_
  refine lv_topi (fun f_33 ef_33 => ?_)
  obtain rfl : f_33 = 300 := ef_33.trans (by decide)
  refine lv_bipush (v := 100) hx hb dX8_clashes_22 (by decide) ?_
  refine lv_iadd hx hb dX8_clashes_24 ?_
  refine lv_topi (fun f_34 ef_34 => ?_)
  obtain rfl : f_34 = 400 := ef_34.trans (by decide)
  have hPc := hP.sub (ws' := [(a6, .inr (10, [.ref b1, .ref b2, .ref b3, .int 0])), (b1, .inl (cyA, 400, .inl (nI))), (b3, .inl (cyT, 400, .inl (gT_29)))]) [1, 2, 3] rfl
  have hKc := hK.sub (tys' := [(cyA, .int), (cyT, .int)]) [0, 1] rfl
  have hDc := hD.sub (ws' := [(a6, .inr (10, [.ref b1, .ref b2, .ref b3, .int 0])), (b1, .inl (cyA, 400, .inl (nI))), (b3, .inl (cyT, 400, .inl (gT_29)))]) [1, 2, 3] (by decide) rfl
  have hFc := va_free (wc := [(a6, .inr (10, [.ref b1, .ref b2, .ref b3, .int 0])), (b1, .inl (cyA, 400, .inl (nI))), (b3, .inl (cyT, 400, .inl (gT_29)))]) hD hS hA [1, 2, 3] rfl
  refine va_calli (va_runV (As := [.int 300, .int 400]) (rest := [.int 0]) ⟨hx, hb, hml, hown, hts⟩ (k_X6_clashesAmong l G z a6 b1 b2 b3 cyA cyT gT_29 300 400 300 H_25.size (by decide) rfl rfl) (cwV 2 hts (lw_goodApp (lw_4 q206 q207 q208 q5) q209) rfl rfl rfl (by decide +kernel) ⟨Nat.le_of_ble_eq_true rfl, Nat.le_of_ble_eq_true rfl⟩) ⟨PW.blind, va_recv hK hP (ci := 10) (q0 := 1) rfl rfl, PW.of hPc hKc hDc hG hS hFc [.ref a6, .int 300, .int 400]⟩ rfl rfl hl.1 rfl (lv_room (Nat.le_of_ble_eq_true rfl)) dX8_clashes_25 ⟨Nat.le_of_ble_eq_true rfl, Nat.le_of_ble_eq_true rfl⟩) hS (fun q _ h => hFc q h) hFc (fun r_36 u t_38 H_35 locs ht hvm hw_37 hB hz1 hk1 hS => ?_)
  obtain ⟨gT_39, hB⟩ := hB
  obtain ⟨hP, hD, hK⟩ := QW.join (wr := [(h0, .inr (12, [.ref a1, .ref a2, .ref a3, .ref a4, .ref a5, .ref a6, .ref a7, .ref a8, .int tol, .int sal]))]) (w1 := [(a6, .inr (10, [.ref b1, .ref b2, .ref b3, .int 0])), (b1, .inl (cyA, 400, .inl (nI))), (b3, .inl (cyT, 400, .inl (gT_39)))]) hP hD hK [1, 2, 3] [0] rfl rfl (by decide) (by decide) hk1 hFc ht hvm hB
  have hP : va_P G vwCl ([(h0, .inr (12, [.ref a1, .ref a2, .ref a3, .ref a4, .ref a5, .ref a6, .ref a7, .ref a8, .int tol, .int sal])), (a6, .inr (10, [.ref b1, .ref b2, .ref b3, .int 0])), (b1, .inl (cyA, 400, .inl (nI))), (b3, .inl (cyT, 400, .inl (gT_39)))]) H_35 := hP
  have hD : va_D A ([(h0, .inr (12, [.ref a1, .ref a2, .ref a3, .ref a4, .ref a5, .ref a6, .ref a7, .ref a8, .int tol, .int sal])), (a6, .inr (10, [.ref b1, .ref b2, .ref b3, .int 0])), (b1, .inl (cyA, 400, .inl (nI))), (b3, .inl (cyT, 400, .inl (gT_39)))]) := hD
  have hK : va_K G vwCl [(cyA, .int), (cyT, .int), (cyA, .int), (cyT, .int), (cyA, .int), (cyT, .int), (cyA, .int), (cyT, .int), (cyA, .int), (cyT, .int)] s := hK
  refine W.widen (k := 0) (n := 0) (Nat.le_of_ble_eq_true rfl) (Nat.le_of_ble_eq_true rfl) ?_
  obtain rfl : 0 = r_36 := hw_37.symm
  refine lv_iadd hx hb dX8_clashes_28 ?_
  refine lv_topi (fun f_40 ef_40 => ?_)
  obtain rfl : f_40 = 0 := ef_40.trans (by decide)
  refine lv_istore_n (lv' := [(1, .int 0), (2, .int 3), (0, .ref h0)]) hx hb dX8_clashes_29 rfl hl (by decide) rfl (fun ls hl => ?_)
  refine lv_iinc (v := 4) (lv' := [(2, .int 4), (1, .int 0), (0, .ref h0)]) hx hb dX8_clashes_30 hl (k := 1) rfl rfl (by decide) rfl (fun ls hl => ?_)
  refine lv_goto (tgt := 4) hx hb dX8_clashes_33 (by decide) ?_
  refine lv_iload_n hx hb dX8_clashes_4 rfl (lv_at hl 0 rfl) ?_
  refine lv_iconst (v := 3) hx hb dX8_clashes_5 (by decide) ?_
  refine lv_icmp_gt (tgt := 36) hx hb dX8_clashes_6 (by decide) (fun c_41 => ?_) (fun c_41 => absurd (by decide) c_41)
  refine lv_iload_n hx hb dX8_clashes_36 rfl (lv_at hl 1 rfl) ?_
  refine W.widen (k := 0) (n := 0) (Nat.le_of_ble_eq_true rfl) (Nat.le_of_ble_eq_true rfl) ?_
  have hP9 := hP.sub (ws' := []) [] rfl
  have hD9 := hD.sub (ws' := []) [] (by decide) rfl
  have hK9 := hK.sub (tys' := []) [] rfl
  exact W.iret (v := 0) hx hb hr (fun t ht hW => ⟨⟨0, (), rfl, rfl, QW.of hP9 hK9 hD9 ht hW.alike⟩, hS.F ht⟩) hS.2.2 dX8_clashes_37
end
