theorem in_Jx00060 : ∀ w ∈ u_ws RJx00060 TJx00060 6, w ∈ lw_good := by decide +kernel
theorem in_X10 : ∀ w ∈ u_ws RX10 TX10 3, w ∈ lw_good := by decide +kernel
theorem in_X13 : ∀ w ∈ u_ws RX13 TX13 3, w ∈ lw_good := by decide +kernel
theorem in_X2 : ∀ w ∈ u_ws RX2 TX2 4, w ∈ lw_good := by decide +kernel
theorem in_X3 : ∀ w ∈ u_ws RX3 TX3 5, w ∈ lw_good := by decide +kernel
theorem in_X7 : ∀ w ∈ u_ws RX7 TX7 3, w ∈ lw_good := by decide +kernel
theorem q1179 : Cond.instantiable "WatermarkmillModel" 16 ∈ lw_good := lw_in (i := 1179) (by decide +kernel) (by decide +kernel)
theorem q1434 : Cond.instantiable "WatermarkmillModel$Sheet" 3 ∈ lw_good := lw_in (i := 1434) (by decide +kernel) (by decide +kernel)
theorem q1594 : Cond.instantiable "WatermarkmillModel$Image" 3 ∈ lw_good := lw_in (i := 1594) (by decide +kernel) (by decide +kernel)
theorem q38 : Cond.instantiable "Watermarkmill" 10 ∈ lw_good := lw_in (i := 38) (by decide +kernel) (by decide +kernel)
theorem q519 : Cond.instantiable "java/lang/ArrayIndexOutOfBoundsException" 6 ∈ lw_good := lw_in (i := 519) (by decide +kernel) (by decide +kernel)
theorem q642 : Cond.instantiable "Watermarkmill$Sale" 3 ∈ lw_good := lw_in (i := 642) (by decide +kernel) (by decide +kernel)
theorem q708 : Cond.instantiable "Watermarkmill$Lot" 5 ∈ lw_good := lw_in (i := 708) (by decide +kernel) (by decide +kernel)
theorem q8 : Cond.initialized "java/lang/Throwable" ∈ lw_good := lw_in (i := 8) (by decide +kernel) (by decide +kernel)
theorem q971 : Cond.instantiable "Watermarkmill$Image" 4 ∈ lw_good := lw_in (i := 971) (by decide +kernel) (by decide +kernel)
/-- the (class, entry) of the String constants of the tables -/
def zStr : Cond → Option (String × Nat)
  | .stringRef own k _ => some (own, k)
  | _ => none
def zEx (q : String × Nat) : Cond := Cond.exactly (Term.string q.1 q.2) "java/lang/String"
theorem zStr_all : ∀ q ∈ tables_1.filterMap zStr, zEx q ∈ flatC (Jvm.Cond.and given_1 narrow_1) := by decide +kernel
theorem z_exact {own : String} {k : Nat} {C : String} {args : Array Value} {s : State} (h : (Cond.exactly (Term.string own k) C).before args s = true) : ∃ a : Nat, (Term.string own k).eval args s none [] s = some (.ref a) := by
  simp only [Cond.before, Cond.holds, Cond.value] at h
  cases hv : (Term.string own k).eval args s none [] s with
  | none => simp [hv] at h
  | some v => cases hC : s.vm.findClass C <;> cases v <;> simp_all
/-- what lies outside at the law's entry -/
theorem law_ground {p : Program} {s : State} {m : MethodId} {meth : Method} {c : Code} {b L : Nat} {xs : Nat → Int32} (C0 : lw_At p s m meth c b L xs) {A : Nat → Prop} (hA2 : ∀ q : Nat, A q → s.heap.size ≤ q) : ∃ z, zG z A s s.heap := by
  obtain ⟨hx, hb, hr, hml, hown, hts, hX, hbl, hlocks, hgv⟩ := C0
  have hg := lw_sub_good hts
  have hs := flat_of_before _ hgv
  have hN : ∀ a : Nat, a < s.heap.size → ¬ A a := fun a h g => absurd h (Nat.not_lt.mpr (hA2 a g))
  obtain ⟨z, hz, hT⟩ := va_Tof (tm := .static zAL zDE zOA) (ty := .object "java/lang/Object") (N := 0) (f := fun _ => .null) (A := A) (by decide) (hs _ (by decide +kernel)) (va_eqt (hs _ (by decide +kernel))) (fun j h => absurd h (Nat.not_lt_zero j)) hN
  refine ⟨z, vx_Zqof (hts _ (List.mem_append_right _ (List.mem_of_getElem? (i := 338) (by decide +kernel)))) (hg _ q8) (hs _ (by decide +kernel)) hN, vx_Zqof (hts _ (List.mem_append_right _ (List.mem_of_getElem? (i := 340) (by decide +kernel)))) (hg _ q8) (hs _ (by decide +kernel)) hN, va_Zof (hts _ (List.mem_append_right _ (List.mem_of_getElem? (i := 58) (by decide +kernel)))) (hg _ q4) hz hN, hT, ?_, ?_, ?_⟩
  · exact fun w hw => va_Nw.of (zF_on (List.mem_filter.mp hw).2) (hts _ (List.mem_append_right _ (List.mem_filter.mp hw).1))
  · intro own k tx hm
    have hq : (own, k) ∈ tables_1.filterMap zStr := List.mem_filterMap.mpr ⟨_, hm, rfl⟩
    obtain ⟨a, ha⟩ := z_exact (hs _ (zStr_all _ hq))
    exact ⟨a, vk_R.of (hts _ (List.mem_append_right _ hm)) ha⟩
  · exact ⟨va_AO.of (hts _ (List.mem_append_right _ (List.mem_of_getElem? (i := 507) (by decide +kernel)))), va_AO.of (hts _ (List.mem_append_right _ (List.mem_of_getElem? (i := 1440) (by decide +kernel)))), va_AOA.of (hts _ (List.mem_append_right _ (List.mem_of_getElem? (i := 102) (by decide +kernel))))⟩
theorem law_known {s : State} {a : Array Value} (hg : ∀ w ∈ lw_good, w.before a s = true) : ∃ G : va_G, va_K G vwCl [] s := by
  obtain ⟨c1, iS1, hKn1⟩ := u_known (C := RJx00060) (T := TJx00060) (N := 6) (n := 6) hg in_Jx00060 (hg _ q519)
  obtain ⟨c2, iS2, hKn2⟩ := u_known (C := RJx35411) (T := TJx35411) (N := 4) (n := 4) hg in_Jx35411 (hg _ q1358)
  obtain ⟨c3, iS3, hKn3⟩ := u_known (C := RJx4a65c) (T := TJx4a65c) (N := 3) (n := 3) hg in_Jx4a65c (hg _ q46)
  obtain ⟨c4, iS4, hKn4⟩ := u_known (C := RX0) (T := TX0) (N := 6) (n := 6) hg in_X0 (hg _ q96)
  obtain ⟨c5, iS5, hKn5⟩ := u_known (C := RX1) (T := TX1) (N := 7) (n := 7) hg in_X1 (hg _ q804)
  obtain ⟨c6, iS6, hKn6⟩ := u_known (C := RX2) (T := TX2) (N := 4) (n := 4) hg in_X2 (hg _ q971)
  obtain ⟨c7, iS7, hKn7⟩ := u_known (C := RX3) (T := TX3) (N := 5) (n := 5) hg in_X3 (hg _ q708)
  obtain ⟨c8, iS8, hKn8⟩ := u_known (C := RX4) (T := TX4) (N := 11) (n := 11) hg in_X4 (hg _ q402)
  obtain ⟨c9, iS9, hKn9⟩ := u_known (C := RX5) (T := TX5) (N := 3) (n := 3) hg in_X5 (hg _ q737)
  obtain ⟨c10, iS10, hKn10⟩ := u_known (C := RX6) (T := TX6) (N := 4) (n := 4) hg in_X6 (hg _ q75)
  obtain ⟨c11, iS11, hKn11⟩ := u_known (C := RX7) (T := TX7) (N := 3) (n := 3) hg in_X7 (hg _ q642)
  obtain ⟨c12, iS12, hKn12⟩ := u_known (C := RX8) (T := TX8) (N := 10) (n := 10) hg in_X8 (hg _ q38)
  obtain ⟨c13, iS13, hKn13⟩ := u_known (C := RX9) (T := TX9) (N := 6) (n := 6) hg in_X9 (hg _ q1502)
  obtain ⟨c14, iS14, hKn14⟩ := u_known (C := RX10) (T := TX10) (N := 3) (n := 3) hg in_X10 (hg _ q1594)
  obtain ⟨c15, iS15, hKn15⟩ := u_known (C := RX11) (T := TX11) (N := 9) (n := 9) hg in_X11 (hg _ q1253)
  obtain ⟨c16, iS16, hKn16⟩ := u_known (C := RX12) (T := TX12) (N := 2) (n := 2) hg in_X12 (hg _ q1459)
  obtain ⟨c17, iS17, hKn17⟩ := u_known (C := RX13) (T := TX13) (N := 3) (n := 3) hg in_X13 (hg _ q1434)
  obtain ⟨c18, iS18, hKn18⟩ := u_known (C := RX14) (T := TX14) (N := 16) (n := 16) hg in_X14 (hg _ q1179)
  obtain ⟨dC, dI, hKc⟩ : ∃ (dC : Nat → ClassId) (dI : Nat → Nat → Nat), ∀ (k : Nat) (q : vw_C), vwCl[k]? = some q → u_Kn s q.1 q.2.1 q.2.2 (dC k) (dI k) := by
    refine ⟨fun k => if k = 0 then c2 else if k = 1 then c1 else if k = 2 then c2 else if k = 3 then c3 else if k = 4 then c4 else if k = 5 then c5 else if k = 6 then c6 else if k = 7 then c7 else if k = 8 then c8 else if k = 9 then c9 else if k = 10 then c10 else if k = 11 then c11 else if k = 12 then c12 else if k = 13 then c13 else if k = 14 then c14 else if k = 15 then c15 else if k = 16 then c16 else if k = 17 then c17 else c18, fun k => if k = 0 then iS2 else if k = 1 then iS1 else if k = 2 then iS2 else if k = 3 then iS3 else if k = 4 then iS4 else if k = 5 then iS5 else if k = 6 then iS6 else if k = 7 then iS7 else if k = 8 then iS8 else if k = 9 then iS9 else if k = 10 then iS10 else if k = 11 then iS11 else if k = 12 then iS12 else if k = 13 then iS13 else if k = 14 then iS14 else if k = 15 then iS15 else if k = 16 then iS16 else if k = 17 then iS17 else iS18, ?_⟩
    intro k q hq
    match k, hq with
    | 0, hq => cases hq; exact hKn2
    | 1, hq => cases hq; exact hKn1
    | 2, hq => cases hq; exact hKn2
    | 3, hq => cases hq; exact hKn3
    | 4, hq => cases hq; exact hKn4
    | 5, hq => cases hq; exact hKn5
    | 6, hq => cases hq; exact hKn6
    | 7, hq => cases hq; exact hKn7
    | 8, hq => cases hq; exact hKn8
    | 9, hq => cases hq; exact hKn9
    | 10, hq => cases hq; exact hKn10
    | 11, hq => cases hq; exact hKn11
    | 12, hq => cases hq; exact hKn12
    | 13, hq => cases hq; exact hKn13
    | 14, hq => cases hq; exact hKn14
    | 15, hq => cases hq; exact hKn15
    | 16, hq => cases hq; exact hKn16
    | 17, hq => cases hq; exact hKn17
    | 18, hq => cases hq; exact hKn18
    | k + 19, hq => simp [vwCl] at hq
  exact ⟨(dC, dI), hKc, fun k q h => by simp at h⟩
theorem z_sw (f : Int32) : (∃ k : Nat, k < 45 ∧ f = nI k) ∨ (f.toInt < 0 ∨ 44 < f.toInt) := by
  by_cases h : f.toInt < 0
  · exact Or.inr (Or.inl h)
  · by_cases h2 : 44 < f.toInt
    · exact Or.inr (Or.inr h2)
    · refine Or.inl ⟨f.toInt.toNat, by omega, Int32.toInt_inj.mp ?_⟩
      rw [nI_toInt (by omega)]
      omega