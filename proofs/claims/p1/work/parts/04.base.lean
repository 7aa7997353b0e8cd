/-! The words that a call carries: all good ones of the tables; what the machine's statics, strings and casts give (zG); a world as a start (PW) and as an end (QW). -/
def lw_good : List Cond := lw_tbl.filter goodWord
theorem lw_in {i : Nat} {w : Cond} (h : tables_1[i]? = some w) (g : goodWord w = true) : w ∈ lw_good := List.mem_filter.mpr ⟨List.mem_append_right _ (List.mem_of_getElem? h), g⟩
theorem lw_inS {i : Nat} {w : Cond} (h : (k2_sels lw_privs)[i]? = some w) (g : goodWord w = true) : w ∈ lw_good := List.mem_filter.mpr ⟨List.mem_append_left _ (List.mem_of_getElem? h), g⟩
theorem lw_goodIn {c : Cond} {ws : List Cond} (h : ∀ w ∈ ws, w ∈ lw_good) : GoodIn (c :: lw_good) ws := fun w hw => ⟨List.mem_cons_of_mem _ (h w hw), good_of_word (List.mem_filter.mp (h w hw)).2⟩
theorem lw_goodAll {c d : Cond} (hd : d ∈ lw_good) : GoodIn (c :: lw_good) (d :: lw_good) := lw_goodIn fun w hw => (List.mem_cons.mp hw).elim (fun e => e ▸ hd) id
theorem lw_goodApp {c d : Cond} {l : List Cond} (hl : ∀ w ∈ l, w ∈ lw_good) (hd : d ∈ lw_good) : GoodIn (c :: lw_good) (l ++ d :: lw_good) := lw_goodIn fun w hw => (List.mem_append.mp hw).elim (hl w) fun hw => (List.mem_cons.mp hw).elim (fun e => e ▸ hd) id
theorem lw_4 {a b c d : Cond} (ha : a ∈ lw_good) (hb : b ∈ lw_good) (hc : c ∈ lw_good) (hd : d ∈ lw_good) : ∀ w ∈ [a, b, c, d], w ∈ lw_good := fun w hw => by
  simp only [List.mem_cons, List.not_mem_nil, or_false] at hw
  rcases hw with rfl | rfl | rfl | rfl
  · exact ha
  · exact hb
  · exact hc
  · exact hd
theorem lw_3 {a b c : Cond} (ha : a ∈ lw_good) (hb : b ∈ lw_good) (hc : c ∈ lw_good) : ∀ w ∈ [a, b, c], w ∈ lw_good := fun w hw => by
  simp only [List.mem_cons, List.not_mem_nil, or_false] at hw
  rcases hw with rfl | rfl | rfl
  · exact ha
  · exact hb
  · exact hc
/-- words that look at the tables alone, without being good ones -/
def zF (w : Cond) : Bool := w.faceAtom || (match w with
  | .fieldLinkNest .. => true
  | .methodLinkNest .. => true
  | _ => false)
theorem zF_on {w : Cond} (g : zF w = true) : w.onTables = true := by
  cases w <;> first | rfl | (simp [zF, Cond.faceAtom] at g)
def lw_face : List Cond := tables_1.filter zF
theorem lw_fin {i : Nat} {w : Cond} (h : tables_1[i]? = some w) (g : zF w = true) : w ∈ lw_face := List.mem_filter.mpr ⟨List.mem_of_getElem? h, g⟩
def zFs (U : State) : Prop := ∀ w ∈ lw_face, va_Nw w U
theorem zFs.same {u U : State} (h : u.vm = U.vm) (q : zFs u) : zFs U := fun w hw => va_Nw.same (zF_on (List.mem_filter.mp hw).2) h (q w hw)
theorem zFs.warm {s U : State} (hW : s.WarmedH U.vm) (q : zFs s) : zFs U := fun w hw => by
  have g : zF w = true := (List.mem_filter.mp hw).2
  have q := q w hw
  by_cases hf : w.faceAtom = true
  · exact va_tabs (zF_on g) (rfl : (s.setVm U.vm).vm = U.vm) (Cond.faceAtom_setVm hW.alike w hf q)
  · cases w <;> first | exact va_Nw.warmF hW q | exact va_Nw.warmM hW q | exact absurd (by simpa [zF] using g) hf
/-- the String constants -/
def zSs (U : State) : Prop := ∀ (own : String) (k : Nat) (tx : String), Cond.stringRef own k tx ∈ tables_1 → ∃ a : Nat, vk_R own k tx a U
theorem zSs.same {u U : State} (h : u.vm = U.vm) (q : zSs u) : zSs U := fun own k tx hm => by
  obtain ⟨a, ha⟩ := q own k tx hm
  exact ⟨a, ha.same h.symm⟩
theorem zSs.warm {s U : State} (hW : s.WarmedH U.vm) (q : zSs s) : zSs U := fun own k tx hm => by
  obtain ⟨a, ha⟩ := q own k tx hm
  exact ⟨a, ha.warm hW⟩
def zIs (comp : ClassId) : Class → Bool := fun x => match x.kind with | .array component _ => component == comp | _ => false
theorem z_idx (vm : Vm) (comp : ClassId) : vm.bare.classes.findIdx? (zIs comp) = vm.classes.findIdx? (zIs comp) := by
  simp only [Vm.bare, Array.findIdx?_map]
  rfl
theorem zOA_spec {A : Array Value} {t : FieldType} {U : State} (h : (Cond.arrayOver (.array t)).before A U = true) : ∃ comp c k, U.vm.findClass (FieldType.array t).toString = some comp ∧ (U.vm.classes.findIdx? (zIs comp)) = some c ∧ U.vm.classes[c]? = some k ∧ k.kind = .array comp (.array t) ∧ U.vm.findClass ("[" ++ (FieldType.array t).toString) = some c := by
  simp only [Cond.before, Cond.holds, Cond.value, beq_iff_eq] at h
  cases hc : U.vm.findClass (FieldType.array t).toString with
  | none => simp [hc] at h
  | some comp =>
    simp only [hc, Option.bind_some, Option.bind_eq_some_iff, Option.map_eq_some_iff] at h
    obtain ⟨c, hi, k, hk, hb⟩ := h
    obtain ⟨hlt, hp, -⟩ := Array.findIdx?_eq_some_iff_getElem.mp hi
    have hkk : U.vm.classes[c] = k := (Array.getElem?_eq_some_iff.mp hk).2
    rw [hkk] at hp
    cases hkind : k.kind with
    | array component ty =>
      rw [hkind] at hb hp
      simp at hb hp
      exact ⟨comp, c, k, rfl, hi, hk, by rw [hkind, hp, hb.1], hb.2⟩
    | _ => rw [hkind] at hb; simp at hb
theorem va_AOA.moved {t : FieldType} {u U : State} (hvm : u.vm.Alike U.vm) (h : va_AOA t u) : va_AOA t U := by
  obtain ⟨comp, c, k, h1, h2, h3, h4, h5⟩ := zOA_spec h
  obtain ⟨k', hk', he⟩ := hvm.2.2 _ _ h3
  have hi : (U.vm.classes.findIdx? (zIs comp)) = some c := by
    rw [← z_idx]
    first | rw [hvm.bare_eq] | rw [← hvm.bare_eq]
    rw [z_idx]
    exact h2
  have hkind : k'.kind = .array comp (.array t) := by rw [he]; exact h4
  have f1 : U.vm.findClass (FieldType.array t).toString = some comp := by rw [hvm.findClass]; exact h1
  have f2 : U.vm.findClass ("[" ++ (FieldType.array t).toString) = some c := by rw [hvm.findClass]; exact h5
  unfold va_AOA Cond.before Cond.holds
  simp only [Cond.value]
  rw [f1, Option.bind_some]
  refine (congrArg (fun o : Option Nat => (o.bind (fun c => (U.vm.classes[c]?).map fun (k : Class) => match k.kind with | .array _ ty => decide (ty = FieldType.array t) && decide (U.vm.findClass ("[" ++ (FieldType.array t).toString) = some c) | _ => false) == some true)) hi).trans ?_
  simp [hk', hkind, f2]
def zAO (U : State) : Prop := va_AO "java/lang/Object" U ∧ va_AO "WatermarkmillModel$Sheet" U ∧ va_AOA .int U
theorem zAO.moved {u U : State} (hal : u.vm.Alike U.vm) (q : zAO u) : zAO U := ⟨q.1.moved hal, q.2.1.moved hal, q.2.2.moved hal⟩
abbrev zAL : String := "java/util/ArrayList"
abbrev zDE : String := "DEFAULTCAPACITY_EMPTY_ELEMENTDATA"
abbrev zOA : String := "[Ljava/lang/Object;"
/-- what lies outside a method's own cells: z the empty element array of all lists -/
def zG (z : Nat) (A : Nat → Prop) (U : State) (H : Heap) : Prop :=
  vx_Zq Bundle.tN "UNASSIGNED_STACK" Bundle.steD A U H ∧ vx_Zq Bundle.tN "SUPPRESSED_SENTINEL" Bundle.listD A U H ∧ va_Z zAL zDE zOA (.ref z) A U H ∧ va_T (.object "java/lang/Object") z 0 (fun _ => .null) A U H ∧ zFs U ∧ zSs U ∧ zAO U
theorem zG.same {z : Nat} {A : Nat → Prop} {u U : State} {H : Heap} (h : u.vm = U.vm) (q : zG z A u H) : zG z A U H := by
  have hal : u.vm.Alike U.vm := by rw [h]; exact Vm.Alike.refl _
  exact ⟨q.1.moved hal, q.2.1.moved hal, q.2.2.1.moved hal, q.2.2.2.1.moved hal, q.2.2.2.2.1.same h, q.2.2.2.2.2.1.same h, q.2.2.2.2.2.2.moved hal⟩
theorem zG.step {z : Nat} {A B : Nat → Prop} {s U : State} {H H1 : Heap} (hW : s.WarmedH U.vm) (q : zG z A s H) (hk : ∀ a : Nat, a < H.size → ¬ A a → H1[a]? = H[a]?) (hB : ∀ a, B a → A a) : zG z B U H1 :=
  ⟨((q.1.kept hk).moved hW.alike).narrow hB, ((q.2.1.kept hk).moved hW.alike).narrow hB, ((q.2.2.1.kept hk).moved hW.alike).narrow hB, ((q.2.2.2.1.kept hk).moved hW.alike).narrow hB, q.2.2.2.2.1.warm hW, q.2.2.2.2.2.1.warm hW, q.2.2.2.2.2.2.moved hW.alike⟩
/-- a world at a method's start -/
def PW (G : va_G) (z : Nat) (ws : va_W) (tys : List (ClassId × FieldType)) (sz : Nat) (U : State) : Prop :=
  U.heap.size = sz ∧ va_P G vwCl ws U.heap ∧ va_K G vwCl tys U ∧ va_D (fun _ => True) ws ∧ zG z (va_A ws sz) U U.heap
theorem PW.blind {G : va_G} {z : Nat} {ws : va_W} {tys : List (ClassId × FieldType)} {sz : Nat} {av : List Value} : FrameBlind (va_Pc av (PW G z ws tys sz)) := fun a U g mk q =>
  ⟨q.1, q.2.1, q.2.2.1, va_K.moved (u := U) (U := U.calling g mk a) (Vm.Alike.refl U.vm) q.2.2.2.1, q.2.2.2.2.1, q.2.2.2.2.2.same (u := U) (U := U.calling g mk a) rfl⟩
theorem PW.of {G : va_G} {z : Nat} {A : Nat → Prop} {s : State} {H : Heap} {locs : List Loc} {wc : va_W} {tysc : List (ClassId × FieldType)} (hPc : va_P G vwCl wc H) (hKc : va_K G vwCl tysc s) (hDc : va_D A wc) (hG : zG z A s s.heap) (hS : va_S A s.heap H locs) (hF : ∀ q, va_A wc H.size q → A q) (av : List Value) : ∀ U : State, U.heap = H → s.WarmedH U.vm → va_Pc av (PW G z wc tysc H.size) av.toArray U := fun U hU hW => by
  subst hU
  exact ⟨rfl, rfl, hPc, va_K.moved hW.alike hKc, hDc.weaken (fun _ _ _ _ => trivial), hG.step hW hS.2.1 hF⟩
/-- a world at a method's end -/
def QW (G : va_G) (ws : va_W) (tys : List (ClassId × FieldType)) (A : Nat → Prop) (t : State) : Prop := va_P G vwCl ws t.heap ∧ va_K G vwCl tys t ∧ va_D A ws
theorem QW.of {G : va_G} {ws : va_W} {tys : List (ClassId × FieldType)} {A : Nat → Prop} {s : State} {H : Heap} (hP : va_P G vwCl ws H) (hK : va_K G vwCl tys s) (hD : va_D A ws) {t : State} (ht : t.heap = H) (hal : s.vm.Alike t.vm) : QW G ws tys A t := ⟨by rw [ht]; exact hP, va_K.moved hal hK, hD⟩
/-- what came back beside the rest -/
theorem QW.join {G : va_G} {A0 : Nat → Prop} {s t : State} {ws wc wr w1 : va_W} {tys ty1 : List (ClassId × FieldType)} {H H1 : Heap} (hP : va_P G vwCl ws H) (hD : va_D A0 ws) (hK : va_K G vwCl tys s) (isC isR : List Nat) (hC : isC.map (fun i => ws[i]?) = wc.map some) (hR : isR.map (fun i => ws[i]?) = wr.map some) (hn : va_nd isR = true) (hdis : ∀ i ∈ isR, i ∉ isC)
    (hk : ∀ q : Nat, q < H.size → ¬ va_A wc H.size q → H1[q]? = H[q]?) (hF : ∀ q, va_A wc H.size q → A0 q) (ht : t.heap = H1) (hal : s.vm.Alike t.vm) (hB : QW G w1 ty1 (va_A wc H.size) t) : va_P G vwCl (wr ++ w1) H1 ∧ va_D A0 (wr ++ w1) ∧ va_K G vwCl (tys ++ ty1) s := by
  obtain ⟨hP1, hK1, hD1⟩ := hB
  rw [ht] at hP1
  obtain ⟨h1, h2⟩ := va_join hP hD isC isR hC hR hn hdis hk hF hP1 hD1
  exact ⟨h1, h2, hK.app (va_K.moved hal.symm hK1)⟩
/-! readers: nothing old is written, so that the caller keeps its world as it was -/
abbrev zN (sz : Nat) : Nat → Prop := fun q => sz ≤ q
def PR (G : va_G) (z : Nat) (ws : va_W) (tys : List (ClassId × FieldType)) (sz : Nat) (U : State) : Prop := U.heap.size = sz ∧ va_P G vwCl ws U.heap ∧ va_K G vwCl tys U ∧ zG z (zN sz) U U.heap
theorem PR.blind {G : va_G} {z : Nat} {ws : va_W} {tys : List (ClassId × FieldType)} {sz : Nat} {av : List Value} : FrameBlind (va_Pc av (PR G z ws tys sz)) := fun a U g mk q =>
  ⟨q.1, q.2.1, q.2.2.1, va_K.moved (u := U) (U := U.calling g mk a) (Vm.Alike.refl U.vm) q.2.2.2.1, q.2.2.2.2.same (u := U) (U := U.calling g mk a) rfl⟩
theorem PR.of {G : va_G} {z : Nat} {A : Nat → Prop} {s : State} {H : Heap} {locs : List Loc} {wc : va_W} {tysc : List (ClassId × FieldType)} (hPc : va_P G vwCl wc H) (hKc : va_K G vwCl tysc s) (hG : zG z A s s.heap) (hS : va_S A s.heap H locs) (hA : ∀ q : Nat, s.heap.size ≤ q → A q) (av : List Value) : ∀ U : State, U.heap = H → s.WarmedH U.vm → va_Pc av (PR G z wc tysc H.size) av.toArray U := fun U hU hW => by
  subst hU
  exact ⟨rfl, rfl, hPc, va_K.moved hW.alike hKc, hG.step hW hS.2.1 (fun a h => hA a (Nat.le_trans hS.1 h))⟩
theorem va_P.grown {G : va_G} {cl : List vw_C} {ws : va_W} {H H1 : Heap} (h : va_P G cl ws H) (hk : ∀ q : Nat, q < H.size → ¬ zN H.size q → H1[q]? = H[q]?) : va_P G cl ws H1 := h.kept fun k q hq => hk q.1 (h k q hq).lt (Nat.not_le.mpr (h k q hq).lt)
theorem zN.not {n q : Nat} {P : Prop} (h1 : q < n) (h2 : zN n q) : P := absurd h1 (Nat.not_lt.mpr h2)
/-- E is thrown, when φ -/
abbrev zX (φ : Prop) (cls : String) (A : Nat → Prop) : String → State → State → Prop := vx_X (fun _ : Unit => φ) (fun E _ _ => E = cls) A
abbrev zNm : List String := ["java/lang/RuntimeException", "java/lang/Exception"]
theorem zat {own cls : String} {ic : Nat} (h1 : ∀ w ∈ (vx_atS own ic cls zNm).filter goodWord, w ∈ lw_tbl) (h2 : ∀ w ∈ (vx_atS own ic cls zNm).filter (fun w => !goodWord w), w ∈ lw_face) : ∀ w ∈ vx_atS own ic cls zNm, w ∈ lw_good ∨ w ∈ lw_face := fun w hw => by
  by_cases g : goodWord w = true
  · exact Or.inl (List.mem_filter.mpr ⟨h1 w (List.mem_filter.mpr ⟨hw, g⟩), g⟩)
  · exact Or.inr (h2 w (List.mem_filter.mpr ⟨hw, by simp [g]⟩))
theorem zF_tables {w : Cond} (h : w ∈ lw_face) : w.onTables = true := zF_on (List.mem_filter.mp h).2
theorem zat_at {own cls : String} {ic : Nat} {args : Array Value} {s : State} (h : ∀ w ∈ vx_atS own ic cls zNm, w ∈ lw_good ∨ w ∈ lw_face) (hg : ∀ w ∈ lw_good, w.before args s = true) (hF : zFs s) : ∀ w ∈ vx_atS own ic cls zNm, w.before args s = true := fun w hw => (h w hw).elim (hg w) fun hf => va_Nw.use (zF_tables hf) (hF w hf)
theorem zX.grown {φ : Prop} {cls : String} {A : Nat → Prop} {s t : State} {H : Heap} {locs : List Loc} (hφ : φ) (hS : va_S A s.heap H locs) (h1 : H.size ≤ t.heap.size) (h2 : ∀ q : Nat, q < H.size → t.heap[q]? = H[q]?) : zX φ cls A cls s t := ⟨(), hφ, rfl, Nat.le_trans hS.1 h1, fun q a b => by rw [h2 q (Nat.lt_of_lt_of_le a hS.1)]; exact hS.2.1 q a b⟩
theorem zX.same {φ : Prop} {cls E : String} {A : Nat → Prop} {s t : State} {H : Heap} {locs : List Loc} (hφ : φ) (hE : E = cls) (hS : va_S A s.heap H locs) (h : t.heap = H) : zX φ cls A E s t := ⟨(), hφ, hE, hS.F h⟩
theorem QW.nil {G : va_G} {A : Nat → Prop} {s t : State} {tys : List (ClassId × FieldType)} (hK : va_K G vwCl tys s) (hal : s.vm.Alike t.vm) : QW G [] [] A t := ⟨fun k q h => by simp at h, va_K.moved hal (hK.sub [] rfl), fun i j p q h => by simp at h, fun k q h => by simp at h⟩
section ZA
variable {p : Program} {l : Launch} {e : Env} {R : Room} {s : State} {m : MethodId} {args : Array Value} {below : List Frame} {meth : Method} {c : Code} {H : Heap} {locs : List Loc} {cells slots : Nat} {Q : State → Prop}
variable {cc : ByteArray} {pc : Nat} {ls : Array Slot} {rest : List Value} {D : va_G} {cl : List vw_C} {A : Nat → Prop} {a : Nat} {tys : List (ClassId × FieldType)} {ws : va_W} {H0 : Heap}
/-- aaload of an array of arrays -/
theorem z_aldA (hexec : p.tables.exec = Jvm.exec) (hb : c.code = cc) (hK : va_K D cl tys s) (hP : va_P D cl ws H) (q0 t0 : Nat) {cA : ClassId} {C : FieldType} {n : Nat} {f : Nat → Option Nat} (ha : ws[q0]? = some (a, .inl (cA, n, .inr (.inr (.inr (.inr f)))))) (ht : tys[t0]? = some (cA, .array C)) {i : Int32} (hin : vp_in i n) {r : Nat} (hr : f i.toNatClampNeg = some r) (hdg : decode cc pc = .ok (.aaload, 1))
    (kk : W p l e R s m args below meth c H locs cells slots Q (F0 m (pc + 1) ls (.ref r :: rest))) : W p l e R s m args below meth c H locs cells slots Q (F0 m pc ls (.int i :: .ref a :: rest)) := by
  have hlt : i.toNatClampNeg < n := Nat.not_le.mp fun q => hin (Or.inr q)
  have kk' : W p l e R s m args below meth c H locs cells slots Q (F0 m (pc + 1) ls (va_rf (f i.toNatClampNeg) :: rest)) := by rw [hr]; exact kk
  exact W.aald (v := va_rf (f i.toNatClampNeg)) (ty := .array C) hexec hb (hP q0 _ ha) ((hK.2 t0 _ ht).1 n (fun j => va_rf (f j))) rfl (fun q => by cases q) (by show ¬ (i < 0 ∨ (arrV _ _ _).slots.size ≤ _); rw [arrV_size]; exact hin) (by show (arrV _ _ _).slots[_]? = _; exact arrV_read _ _ hlt) rfl rfl hdg kk'
end ZA
section ZL
variable {p : Program} {l : Launch} {e : Env} {R : Room} {s : State} {m : MethodId} {args : Array Value} {below : List Frame} {meth : Method} {c : Code} {cells slots : Nat} {Q : State → Prop} {pc : Nat} {st : List Value}
/-- a loop: P n holds at its head, with n rounds left at most -/
theorem z_loop {α : Type} (P : Nat → α → Heap → List Loc → Array Slot → Prop) (h0 : ∀ x H locs ls, ¬ P 0 x H locs ls)
    (hs : ∀ n, (∀ x H locs ls, P n x H locs ls → W p l e R s m args below meth c H locs cells slots Q (F0 m pc ls st)) → ∀ x H locs ls, P (n + 1) x H locs ls → W p l e R s m args below meth c H locs cells slots Q (F0 m pc ls st)) :
    ∀ n x H locs ls, P n x H locs ls → W p l e R s m args below meth c H locs cells slots Q (F0 m pc ls st) := by
  intro n
  induction n with
  | zero => intro x H locs ls h; exact absurd h (h0 x H locs ls)
  | succ n ih => exact hs n ih
end ZL
theorem z_id {x : Int32} {n : Nat} (h : vp_in x n) (hn : n < 2 ^ 31) : nI x.toNatClampNeg = x := by
  obtain ⟨j, hj, rfl⟩ := vp_in_of h hn
  rw [nI_clamp (by omega)]
theorem z_max_in {x y : Int32} {n : Nat} (hx : vp_in x n) (hy : vp_in y n) : vp_in (if x < y then y else x) n := by split <;> assumption
theorem z_not_neg {x : Int32} {n : Nat} (h : vp_in x n) (e : x = -1) : False := by
  subst e
  exact h (Or.inl (by decide))
theorem z_upd_same {f : Nat → Int32} {i : Nat} {v : Int32} : upd f i v i = v := by simp [upd]
theorem z_upd_ne {f : Nat → Int32} {i j : Nat} {v : Int32} (h : j ≠ i) : upd f i v j = f j := by simp [upd, h]
