/-! THE JUDGEMENT -/
def Cx (d : Nat) (y : Mth) (z : Zw) (p : Program) (l : Launch) (R : Room) (s : State) (m : MethodId) (args : Array Value) (meth : Method) (c : Code) : Prop :=
  p.tables.exec = Jvm.exec ∧ c.code = mB y ∧ c.maxLocals = mL y ∧ meth.sig.returnType = mR y ∧ meth.locks = false ∧ s.vm.findClass (mC y) = some m.cls ∧
  (∀ w ∈ lw_tbl, gw w = true → w.before args s = true) ∧ KT z s ∧ Ext z s s.heap ∧ zb z ≤ s.heap.size ∧ d + 10 ≤ R.frames ∧ 40 * d + 200 ≤ R.locals ∧ l.stackTraces = false ∧
  c.exceptionTable.toList = tableOf (mH y) ∧ meth.name = (mN y).name
def QcO (z : Zw) (P : Po) : Array Value → State → Outcome → State → Prop := fun _ st o t =>
  (∃ (r : Option AV) (g : Gs) (h : Hc), o = .returned (r.map (enc z)) ∧ (∀ v, r = some v → okA v) ∧ RepX z g h t.heap ∧ P (.inl r) g h) ∧ va_F (zR z) st t
def XCO (z : Zw) (P : Po) : String → State → State → Prop := fun E st t => (∃ (g : Gs) (h : Hc), RepX z g h t.heap ∧ P (.inr E) g h) ∧ va_F (zR z) st t
def gdL (ls : List AV) (i : Nat) (v : AV) : Prop := v.1 ≠ 3 ∧ (v.1 = 1 → ∃ u, ls[i + 1]? = some u ∧ u.1 = 3)
def LRep (z : Zw) (ls : List AV) (rls : Array Slot) (n : Nat) : Prop := ls.length = n ∧ lv_has rls n [] ∧ ∀ i v, ls[i]? = some v → gdL ls i v → rls[i]? = some (.val (enc z v))
def Run (d kc ks : Nat) (y : Mth) (pc : Nat) (ls st : List AV) (g : Gs) (h : Hc) (P : Po) : Prop :=
  ∀ (z : Zw) (p : Program) (l : Launch) (e : Env) (R : Room) (s : State) (m : MethodId) (args : Array Value) (below : List Frame) (meth : Method) (c : Code) (H : Heap) (locs : List Loc) (cells slots : Nat) (rls : Array Slot),
    Cx d y z p l R s m args meth c → cells + kc ≤ R.cells → slots + ks ≤ R.slots → Rep z g h H → (g.2.1 = 0 → s.heap.size + cells = zb z + g.1.length) → va_S (zR z) s.heap H locs → LRep z ls rls (mL y) → okV ls → okV st →
    W p l e R s m args below meth c H locs cells slots (vx_MQ below (QcO z P) (XCO z P) args s R.cells R.slots (zR z)) (F0 m pc rls (st.map (enc z)))
theorem Rep.low {z : Zw} {g : Gs} {h : Hc} {H : Heap} (hR : Rep z g h H) (hb : zb z ≤ H.size) : zb z + g.1.length ≤ H.size := by
  cases hl : g.1.length with
  | zero => omega
  | succ n =>
    have hk : g.1[n]? = some (g.1[n]'(by omega)) := List.getElem?_eq_getElem (by omega)
    have h1 : (wsO z g.1 h)[n]? = some (zb z + n, encC z (h n) (g.1[n]'(by omega))) := by
      unfold wsO
      rw [List.getElem?_map, List.getElem?_range (by omega)]
      simp only [Option.map_some, List.getD_eq_getElem?_getD, hk, Option.getD_some]
    have h2 := (hR.1 n _ h1).lt
    have h3 : zb z + n < H.size := h2
    omega
/-- while the constructors run the heap's size is known -/
theorem Rep.x {z : Zw} {g : Gs} {h : Hc} {p : Program} {l : Launch} {e : Env} {R : Room} {s : State} {m : MethodId} {args : Array Value} {below : List Frame} {meth : Method} {c : Code} {T : State} {H : Heap} {locs locs' : List Loc} {cells slots : Nat}
    (hR : Rep z g h H) (hE : g.2.1 = 0 → s.heap.size + cells = zb z + g.1.length) (hS : va_S (zR z) s.heap H locs') (hb : zb z ≤ s.heap.size) (hT : T.heap = H) (X : Stand p l e R s m args below meth c T locs cells slots) : RepX z g h H := by
  refine ⟨hR, fun e => ?_⟩
  have h1 := X.heapSize
  have h2 := hR.low (Nat.le_trans hb hS.1)
  have h3 := hE e
  rw [hT] at h1
  omega
/-- an instruction: where, what, how long, the next -/
def D (y : Mth) (pc : Nat) (i : Instr) (len n : Nat) : Prop := decode (mB y) pc = .ok (i, len) ∧ pc + len = n
theorem okV_cons {v : AV} {l : List AV} (h1 : okA v) (h2 : okV l) : okV (v :: l) := fun w hw => (List.mem_cons.mp hw).elim (fun e => e ▸ h1) (h2 w)
theorem okV_hd {v : AV} {l : List AV} (h : okV (v :: l)) : okA v := h v List.mem_cons_self
theorem okV_tl {v : AV} {l : List AV} (h : okV (v :: l)) : okV l := fun w hw => h w (List.mem_cons_of_mem _ hw)
theorem okA_I {a : Int} (h : in32 a) : okA (vI a) := ⟨(fun _ => h), (fun e => nomatch e)⟩
theorem okA_L {a : Int} (h : in64 a) : okA (vL a) := ⟨(fun e => nomatch e), (fun _ => h)⟩
theorem okA_R (a : Int) : okA (2, a) := ⟨(fun e => nomatch e), (fun e => nomatch e)⟩
theorem okA_U (a : Int) : okA (3, a) := ⟨(fun e => nomatch e), (fun e => nomatch e)⟩
theorem okA.i {a : Int} (h : okA (vI a)) : in32 a := h.1 rfl
theorem okA.l {a : Int} (h : okA (vL a)) : in64 a := h.2 rfl
theorem okV_get {ls : List AV} (h : okV ls) {i : Nat} {v : AV} (hi : ls[i]? = some v) : okA v := h v (List.mem_of_getElem? hi)
theorem okV_set {ls : List AV} (h : okV ls) {i : Nat} {v : AV} (hv : okA v) : okV (ls.set i v) := fun w hw => (List.mem_or_eq_of_mem_set hw).elim (h w) (fun e => e ▸ hv)
theorem lv_mono {ls : Array Slot} {n : Nat} {l l' : List (Nat × Value)} (h : lv_has ls n l) (hs : ∀ q ∈ l', q ∈ l) : lv_has ls n l' := ⟨h.1, h.2.1, fun q hq => h.2.2 q (hs q hq)⟩
theorem enc_cat (z : Zw) (v : AV) : (enc z v).category = 2 ↔ v.1 = 1 := by
  obtain ⟨t, a⟩ := v
  unfold enc
  rcases t with _ | _ | _ | t
  · simp [Value.category]
  · simp [Value.category]
  · show (va_rf (rfO z a)).category = 2 ↔ _
    cases rfO z a <;> simp [va_rf, Value.category]
  · simp [Value.category]
/-- the list of a state's locals that are known -/
def ascL (z : Zw) (ls : List AV) : List (Nat × Value) := (List.range ls.length).filterMap (fun i => match ls[i]? with
  | some v => if v.1 ≠ 3 ∧ (v.1 = 1 → (ls.getD (i + 1) vN).1 = 3) then some (i, enc z v) else none
  | none => none)
theorem mem_asc {z : Zw} {ls : List AV} {i : Nat} {w : Value} : (i, w) ∈ ascL z ls ↔ ∃ v, ls[i]? = some v ∧ gdL ls i v ∧ w = enc z v := by
  have e2 : ∀ v : AV, (v.1 ≠ 3 ∧ (v.1 = 1 → (ls.getD (i + 1) vN).1 = 3)) ↔ gdL ls i v := by
    intro v
    unfold gdL
    refine and_congr_right fun _ => imp_congr_right fun _ => ?_
    rw [List.getD_eq_getElem?_getD]
    cases h : ls[i + 1]? with
    | none => simp
    | some u => simp
  unfold ascL
  rw [List.mem_filterMap]
  constructor
  · rintro ⟨j, hj, h⟩
    split at h
    · rename_i v hv
      split at h
      · rename_i hg
        cases h
        exact ⟨v, hv, (e2 v).mp hg, rfl⟩
      · cases h
    · cases h
  · rintro ⟨v, hv, hg, rfl⟩
    refine ⟨i, List.mem_range.mpr (List.getElem?_eq_some_iff.mp hv).1, ?_⟩
    simp only [hv]
    rw [if_pos ((e2 v).mpr hg)]
theorem LRep.has {z : Zw} {ls : List AV} {rls : Array Slot} {n : Nat} (h : LRep z ls rls n) : lv_has rls n (ascL z ls) := by
  refine ⟨h.2.1.1, h.2.1.2.1, ?_⟩
  rintro ⟨i, w⟩ hq
  obtain ⟨v, hv, hg, rfl⟩ := mem_asc.mp hq
  exact h.2.2 i v hv hg
theorem LRep.of {z : Zw} {ls : List AV} {rls : Array Slot} {n : Nat} {l : List (Nat × Value)} (hl : ls.length = n) (h : lv_has rls n l) (hs : ∀ i v, ls[i]? = some v → gdL ls i v → (i, enc z v) ∈ l) : LRep z ls rls n :=
  ⟨hl, lv_mono h (fun q hq => by cases hq), fun i v hv hg => h.2.2 _ (hs i v hv hg)⟩
/-- behind a store of one word -/
theorem LRep.set1 {z : Zw} {ls : List AV} {rls : Array Slot} {n i : Nat} {v : AV} (hl : ls.length = n) (hc : v.1 = 0 ∨ v.1 = 2) (h : lv_has rls n ((i, enc z v) :: (ascL z ls).filter (fun q => !(q.1 == i) && !(q.1 + 1 == i && q.2.category == 2)))) : LRep z (ls.set i v) rls n := by
  refine LRep.of (by rw [List.length_set, hl]) h fun j w hj hg => ?_
  by_cases e : j = i
  · subst e
    have hlt : j < ls.length := by
      have := (List.getElem?_eq_some_iff.mp hj).1
      rwa [List.length_set] at this
    rw [List.getElem?_set_self hlt] at hj
    cases hj
    exact List.mem_cons_self
  · have key : j + 1 = i → ¬ w.1 = 1 := by
      intro e2 h1
      obtain ⟨u, hu, h3⟩ := hg.2 h1
      subst e2
      have hlt : j + 1 < ls.length := by
        have := (List.getElem?_eq_some_iff.mp hu).1
        rwa [List.length_set] at this
      rw [List.getElem?_set_self hlt] at hu
      cases hu
      omega
    refine List.mem_cons_of_mem _ (List.mem_filter.mpr ⟨?_, ?_⟩)
    · rw [List.getElem?_set_ne (Ne.symm e)] at hj
      refine mem_asc.mpr ⟨w, hj, ⟨hg.1, fun h1 => ?_⟩, rfl⟩
      obtain ⟨u, hu, h3⟩ := hg.2 h1
      rw [List.getElem?_set_ne (fun e2 => key e2.symm h1)] at hu
      exact ⟨u, hu, h3⟩
    · simp only [Bool.and_eq_true, Bool.not_eq_true', beq_eq_false_iff_ne, Bool.and_eq_false_iff]
      refine ⟨e, ?_⟩
      by_cases e2 : j + 1 = i
      · exact Or.inr (fun h2 => key e2 ((enc_cat z w).mp h2))
      · exact Or.inl e2
/-- behind a store of a long -/
theorem LRep.set2 {z : Zw} {ls : List AV} {rls : Array Slot} {n i : Nat} {v : AV} (hl : ls.length = n) (hc : v.1 = 1) (h : lv_has rls n ((i, enc z v) :: (ascL z ls).filter (fun q => !(q.1 == i) && (!(q.1 == i + 1) && !(q.1 + 1 == i && q.2.category == 2))))) : LRep z ((ls.set i v).set (i + 1) vU) rls n := by
  refine LRep.of (by rw [List.length_set, List.length_set, hl]) h fun j w hj hg => ?_
  by_cases e1 : j = i + 1
  · subst e1
    have hlt : i + 1 < (ls.set i v).length := by
      have := (List.getElem?_eq_some_iff.mp hj).1
      rwa [List.length_set] at this
    rw [List.getElem?_set_self hlt] at hj
    cases hj
    exact absurd rfl hg.1
  · rw [List.getElem?_set_ne (Ne.symm e1)] at hj
    by_cases e : j = i
    · subst e
      have hlt : j < ls.length := by
        have := (List.getElem?_eq_some_iff.mp hj).1
        rwa [List.length_set] at this
      rw [List.getElem?_set_self hlt] at hj
      cases hj
      exact List.mem_cons_self
    · have key : j + 1 = i → ¬ w.1 = 1 := by
        intro e2 h1
        obtain ⟨u, hu, h3⟩ := hg.2 h1
        subst e2
        have hlt : j + 1 < ls.length := by
          have := (List.getElem?_eq_some_iff.mp hu).1
          rwa [List.length_set, List.length_set] at this
        rw [List.getElem?_set_ne (by omega), List.getElem?_set_self hlt] at hu
        cases hu
        omega
      refine List.mem_cons_of_mem _ (List.mem_filter.mpr ⟨?_, ?_⟩)
      · rw [List.getElem?_set_ne (Ne.symm e)] at hj
        refine mem_asc.mpr ⟨w, hj, ⟨hg.1, fun h1 => ?_⟩, rfl⟩
        obtain ⟨u, hu, h3⟩ := hg.2 h1
        rw [List.getElem?_set_ne (by omega), List.getElem?_set_ne (fun e2 => key e2.symm h1)] at hu
        exact ⟨u, hu, h3⟩
      · simp only [Bool.and_eq_true, Bool.not_eq_true', beq_eq_false_iff_ne, Bool.and_eq_false_iff]
        refine ⟨e, e1, ?_⟩
        by_cases e2 : j + 1 = i
        · exact Or.inr (fun h2 => key e2 ((enc_cat z w).mp h2))
        · exact Or.inl e2
