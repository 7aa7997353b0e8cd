/-! The words that a call carries: all good ones of the tables; what the machine's statics, strings and casts give (zG); a world as a start (PW) and as an end (QW). -/
def lw_good : List Cond := lw_tbl.filter goodWord
theorem lw_in {i : Nat} {w : Cond} (h : tables_1[i]? = some w) (g : goodWord w = true) : w ∈ lw_good := List.mem_filter.mpr ⟨List.mem_append_right _ (List.mem_of_getElem? h), g⟩
theorem lw_inS {i : Nat} {w : Cond} (h : (k2_sels lw_privs)[i]? = some w) (g : goodWord w = true) : w ∈ lw_good := List.mem_filter.mpr ⟨List.mem_append_left _ (List.mem_of_getElem? h), g⟩
theorem lw_goodIn {c : Cond} {ws : List Cond} (h : ∀ w ∈ ws, w ∈ lw_good) : GoodIn (c :: lw_good) ws := fun w hw => ⟨List.mem_cons_of_mem _ (h w hw), good_of_word (List.mem_filter.mp (h w hw)).2⟩
theorem lw_goodAll {c d : Cond} (hd : d ∈ lw_good) : GoodIn (c :: lw_good) (d :: lw_good) := lw_goodIn fun w hw => (List.mem_cons.mp hw).elim (fun e => e ▸ hd) id
theorem lw_goodApp {c d : Cond} {l : List Cond} (hl : ∀ w ∈ l, w ∈ lw_good) (hd : d ∈ lw_good) : GoodIn (c :: lw_good) (l ++ d :: lw_good) := lw_goodIn fun w hw => (List.mem_append.mp hw).elim (hl w) fun hw => (List.mem_cons.mp hw).elim (fun e => e ▸ hd) id
theorem lw_4 {a b c d : Cond} (ha : a ∈ lw_good) (hb : b ∈ lw_good) (hc : c ∈ lw_good) (hd : d ∈ lw_good) : ∀ w ∈ [a, b, c, d], w ∈ lw_good := fun w hw => by
  simp only [List.mem_cons, List.not_mem_nil, or_false] at hw
  rcases hw with rfl | rfl | rfl | rfl
  · exact ha
  · exact hb
  · exact hc
  · exact hd
theorem lw_3 {a b c : Cond} (ha : a ∈ lw_good) (hb : b ∈ lw_good) (hc : c ∈ lw_good) : ∀ w ∈ [a, b, c], w ∈ lw_good := fun w hw => by
  simp only [List.mem_cons, List.not_mem_nil, or_false] at hw
  rcases hw with rfl | rfl | rfl
  · exact ha
  · exact hb
  · exact hc
/-- words that look at the tables alone, without being good ones -/
def zF : Cond → Bool
  | .castable _ _ => true
  | .declares _ => true
  | .fieldLinkNest .. => true
  | .methodLinkNest .. => true
  | _ => false
def lw_face : List Cond := tables_1.filter zF
theorem lw_fin {i : Nat} {w : Cond} (h : tables_1[i]? = some w) (g : zF w = true) : w ∈ lw_face := List.mem_filter.mpr ⟨List.mem_of_getElem? h, g⟩
def zFs (U : State) : Prop := ∀ w ∈ lw_face, va_Nw w U
theorem zFs.same {u U : State} (h : u.vm = U.vm) (q : zFs u) : zFs U := fun w hw => by
  have g : zF w = true := (List.mem_filter.mp hw).2
  refine va_Nw.same ?_ h (q w hw)
  cases w <;> first | rfl | (simp [zF] at g)
theorem zFs.warm {s U : State} (hW : s.WarmedH U.vm) (q : zFs s) : zFs U := fun w hw => by
  have g : zF w = true := (List.mem_filter.mp hw).2
  have q := q w hw
  cases w <;> first | exact va_Nw.warmC hW q | exact va_Nw.warmD hW q | exact va_Nw.warmF hW q | exact va_Nw.warmM hW q | (simp [zF] at g)
/-- the String constants -/
def zSs (U : State) : Prop := ∀ (own : String) (k : Nat) (tx : String), Cond.stringRef own k tx ∈ tables_1 → ∃ a : Nat, vk_R own k tx a U
theorem zSs.same {u U : State} (h : u.vm = U.vm) (q : zSs u) : zSs U := fun own k tx hm => by
  obtain ⟨a, ha⟩ := q own k tx hm
  exact ⟨a, ha.same h.symm⟩
theorem zSs.warm {s U : State} (hW : s.WarmedH U.vm) (q : zSs s) : zSs U := fun own k tx hm => by
  obtain ⟨a, ha⟩ := q own k tx hm
  exact ⟨a, ha.warm hW⟩
def zAO (U : State) : Prop := va_AO "java/lang/Object" U ∧ va_AO "WatermarkmillModel$Sheet" U ∧ (Cond.arrayOver (.array .int)).before #[] U = true
theorem zAO.same {u U : State} (h : u.vm = U.vm) (q : zAO u) : zAO U := by
  have hal : u.vm.Alike U.vm := by rw [h]; exact Vm.Alike.refl _
  refine ⟨q.1.moved hal, q.2.1.moved hal, ?_⟩
  obtain ⟨comp, c, k, h1, h2, h3, h4, h5⟩ := Cond.arrayOver_spec q.2.2
  simp only [Cond.before, Cond.holds, Cond.value] at *
  have := q.2.2
  simp only [Cond.before, Cond.holds, Cond.value] at this
  rw [← h]
  exact this
abbrev zAL : String := "java/util/ArrayList"
abbrev zDE : String := "DEFAULTCAPACITY_EMPTY_ELEMENTDATA"
abbrev zOA : String := "[Ljava/lang/Object;"
/-- what lies outside a method's own cells: z the empty element array of all lists -/
def zG (z : Nat) (A : Nat → Prop) (U : State) (H : Heap) : Prop :=
  vx_Zq Bundle.tN "UNASSIGNED_STACK" Bundle.steD A U H ∧ vx_Zq Bundle.tN "SUPPRESSED_SENTINEL" Bundle.listD A U H ∧ va_Z zAL zDE zOA (.ref z) A U H ∧ va_T (.object "java/lang/Object") z 0 (fun _ => .null) A U H ∧ zFs U ∧ zSs U
theorem zG.same {z : Nat} {A : Nat → Prop} {u U : State} {H : Heap} (h : u.vm = U.vm) (q : zG z A u H) : zG z A U H := by
  have hal : u.vm.Alike U.vm := by rw [h]; exact Vm.Alike.refl _
  exact ⟨q.1.moved hal, q.2.1.moved hal, q.2.2.1.moved hal, q.2.2.2.1.moved hal, q.2.2.2.2.1.same h, q.2.2.2.2.2.same h⟩
theorem zG.step {z : Nat} {A B : Nat → Prop} {s U : State} {H H1 : Heap} (hW : s.WarmedH U.vm) (q : zG z A s H) (hk : ∀ a : Nat, a < H.size → ¬ A a → H1[a]? = H[a]?) (hB : ∀ a, B a → A a) : zG z B U H1 :=
  ⟨((q.1.kept hk).moved hW.alike).narrow hB, ((q.2.1.kept hk).moved hW.alike).narrow hB, ((q.2.2.1.kept hk).moved hW.alike).narrow hB, ((q.2.2.2.1.kept hk).moved hW.alike).narrow hB, q.2.2.2.2.1.warm hW, q.2.2.2.2.2.warm hW⟩
/-- a world at a method's start -/
def PW (G : va_G) (z : Nat) (ws : va_W) (tys : List (ClassId × FieldType)) (sz : Nat) (U : State) : Prop :=
  U.heap.size = sz ∧ va_P G vwCl ws U.heap ∧ va_K G vwCl tys U ∧ va_D (fun _ => True) ws ∧ zG z (va_A ws sz) U U.heap
theorem PW.blind {G : va_G} {z : Nat} {ws : va_W} {tys : List (ClassId × FieldType)} {sz : Nat} {av : List Value} : FrameBlind (va_Pc av (PW G z ws tys sz)) := fun a U g mk q =>
  ⟨q.1, q.2.1, q.2.2.1, va_K.moved (u := U) (U := U.calling g mk a) (Vm.Alike.refl U.vm) q.2.2.2.1, q.2.2.2.2.1, q.2.2.2.2.2.same (u := U) (U := U.calling g mk a) rfl⟩
theorem PW.of {G : va_G} {z : Nat} {A : Nat → Prop} {s : State} {H : Heap} {locs : List Loc} {wc : va_W} {tysc : List (ClassId × FieldType)} (hPc : va_P G vwCl wc H) (hKc : va_K G vwCl tysc s) (hDc : va_D A wc) (hG : zG z A s s.heap) (hS : va_S A s.heap H locs) (hF : ∀ q, va_A wc H.size q → A q) (av : List Value) : ∀ U : State, U.heap = H → s.WarmedH U.vm → va_Pc av (PW G z wc tysc H.size) av.toArray U := fun U hU hW => by
  subst hU
  exact ⟨rfl, rfl, hPc, va_K.moved hW.alike hKc, hDc.weaken (fun _ _ _ _ => trivial), hG.step hW hS.2.1 hF⟩
/-- a world at a method's end -/
def QW (G : va_G) (ws : va_W) (tys : List (ClassId × FieldType)) (A : Nat → Prop) (t : State) : Prop := va_P G vwCl ws t.heap ∧ va_K G vwCl tys t ∧ va_D A ws
theorem QW.of {G : va_G} {ws : va_W} {tys : List (ClassId × FieldType)} {A : Nat → Prop} {s : State} {H : Heap} (hP : va_P G vwCl ws H) (hK : va_K G vwCl tys s) (hD : va_D A ws) {t : State} (ht : t.heap = H) (hal : s.vm.Alike t.vm) : QW G ws tys A t := ⟨by rw [ht]; exact hP, va_K.moved hal hK, hD⟩
/-- what came back beside the rest -/
theorem QW.join {G : va_G} {A0 : Nat → Prop} {s t : State} {ws wc wr w1 : va_W} {tys ty1 : List (ClassId × FieldType)} {H H1 : Heap} (hP : va_P G vwCl ws H) (hD : va_D A0 ws) (hK : va_K G vwCl tys s) (isC isR : List Nat) (hC : isC.map (fun i => ws[i]?) = wc.map some) (hR : isR.map (fun i => ws[i]?) = wr.map some) (hn : va_nd isR = true) (hdis : ∀ i ∈ isR, i ∉ isC)
    (hk : ∀ q : Nat, q < H.size → ¬ va_A wc H.size q → H1[q]? = H[q]?) (hF : ∀ q, va_A wc H.size q → A0 q) (ht : t.heap = H1) (hal : s.vm.Alike t.vm) (hB : QW G w1 ty1 (va_A wc H.size) t) : va_P G vwCl (wr ++ w1) H1 ∧ va_D A0 (wr ++ w1) ∧ va_K G vwCl (tys ++ ty1) s := by
  obtain ⟨hP1, hK1, hD1⟩ := hB
  rw [ht] at hP1
  obtain ⟨h1, h2⟩ := va_join hP hD isC isR hC hR hn hdis hk hF hP1 hD1
  exact ⟨h1, h2, hK.app (va_K.moved hal.symm hK1)⟩
