/-! WORDS, THE HEAP'S LISTS, AND THE RULES OF FIELDS AND ARRAYS -/
theorem gw_warm {w : Cond} (h : gw w = true) {a a' : Array Value} {s U : State} (hW : s.WarmedH U.vm) (hb : w.before a s = true) : w.before a' U = true := by
  unfold gw at h
  rw [Bool.or_eq_true] at h
  rcases h with h | h
  · exact word_at hW (good_of_word h) hb
  · have hs : (s.setVm U.vm).vm = U.vm := rfl
    cases w <;> simp only [Bool.false_eq_true] at h
    · exact va_tabs rfl hs (Cond.methodLinkNest_warmed hW hb)
    · exact va_tabs rfl hs (by rw [Cond.declares_setVm hW.alike]; exact hb : (Cond.declares _).before a (s.setVm U.vm) = true)
    · exact va_tabs rfl hs (by rw [Cond.privateMethod_setVm hW.alike]; exact hb : (Cond.privateMethod _).before a (s.setVm U.vm) = true)
    · exact va_tabs rfl hs (by rw [Cond.castable_setVm hW.alike]; exact hb : (Cond.castable _ _).before a (s.setVm U.vm) = true)
    · rename_i ty
      cases ty <;> simp only [Bool.false_eq_true] at h
      exact va_AO.use (va_AO.moved hW.alike (va_AO.of hb))
def lwg : List Cond := lw_tbl.filter gw
theorem lwg_of {w : Cond} (h : w ∈ lw_tbl) (hg : gw w = true) : w ∈ lwg := List.mem_filter.mpr ⟨h, hg⟩
theorem lwg_at {w : Cond} (i : Nat) (h : lw_tbl[i]? = some w) (hg : gw w = true) : w ∈ lwg := lwg_of (List.mem_of_getElem? h) hg
theorem gw_lay (C : String) (T : u_T) (k : Nat) : gw (u_lay C T k) = true := by
  unfold u_lay
  split <;> rfl
theorem lwg_lays {C : String} {T : u_T} {N : Nat} (h : ∀ w ∈ u_ws C T N, w ∈ lw_tbl) : ∀ w ∈ u_ws C T N, w ∈ lwg := by
  intro w hw
  refine lwg_of (h w hw) ?_
  obtain ⟨k, -, rfl⟩ := List.mem_map.mp hw
  exact gw_lay C T k
theorem Cx.hts {d : Nat} {y : Mth} {z : Zw} {p : Program} {l : Launch} {R : Room} {s : State} {m : MethodId} {args : Array Value} {meth : Method} {c : Code} (C : Cx d y z p l R s m args meth c) : ∀ w ∈ lwg, w.before args s = true := fun w hw => C.2.2.2.2.2.2.1 w (List.mem_filter.mp hw).1 (List.mem_filter.mp hw).2
theorem Cx.own {d : Nat} {y : Mth} {z : Zw} {p : Program} {l : Launch} {R : Room} {s : State} {m : MethodId} {args : Array Value} {meth : Method} {c : Code} (C : Cx d y z p l R s m args meth c) : s.vm.findClass (mC y) = some m.cls := C.2.2.2.2.2.1
theorem Cx.K {d : Nat} {y : Mth} {z : Zw} {p : Program} {l : Launch} {R : Room} {s : State} {m : MethodId} {args : Array Value} {meth : Method} {c : Code} (C : Cx d y z p l R s m args meth c) : va_K (zD z) vwCl (tyO z) s := C.2.2.2.2.2.2.2.1
theorem Cx.ext {d : Nat} {y : Mth} {z : Zw} {p : Program} {l : Launch} {R : Room} {s : State} {m : MethodId} {args : Array Value} {meth : Method} {c : Code} (C : Cx d y z p l R s m args meth c) : Ext z s s.heap := C.2.2.2.2.2.2.2.2.1
theorem Cx.base {d : Nat} {y : Mth} {z : Zw} {p : Program} {l : Launch} {R : Room} {s : State} {m : MethodId} {args : Array Value} {meth : Method} {c : Code} (C : Cx d y z p l R s m args meth c) : zb z ≤ s.heap.size := C.2.2.2.2.2.2.2.2.2.1
theorem Cx.fr {d : Nat} {y : Mth} {z : Zw} {p : Program} {l : Launch} {R : Room} {s : State} {m : MethodId} {args : Array Value} {meth : Method} {c : Code} (C : Cx d y z p l R s m args meth c) : d + 10 ≤ R.frames ∧ 40 * d + 200 ≤ R.locals := ⟨C.2.2.2.2.2.2.2.2.2.2.1, C.2.2.2.2.2.2.2.2.2.2.2.1⟩
theorem Cx.rest {d : Nat} {y : Mth} {z : Zw} {p : Program} {l : Launch} {R : Room} {s : State} {m : MethodId} {args : Array Value} {meth : Method} {c : Code} (C : Cx d y z p l R s m args meth c) : l.stackTraces = false ∧ c.exceptionTable.toList = tableOf (mH y) ∧ meth.name = (mN y).name := C.2.2.2.2.2.2.2.2.2.2.2.2
/-- a cell's row changed at one place -/
def updH (h : Hc) (a i : Nat) (v : Int) : Hc := fun b => if b = a then (fun j => if j = i then v else h a j) else h b
def setH (h : Hc) (a : Nat) (f : Nat → Int) : Hc := fun b => if b = a then f else h b
theorem updH_set (h : Hc) (a i : Nat) (v : Int) : updH h a i v = setH h a (fun j => if j = i then v else h a j) := rfl
theorem enc_vR (z : Zw) (a : Nat) : enc z (vR a) = .ref (zb z + a) := by
  show va_rf (rfO z (a : Int)) = _
  unfold rfO
  rw [if_pos (Int.natCast_nonneg a), Int.toNat_natCast]
  rfl
theorem rfO_nat (z : Zw) (a : Nat) : rfO z (a : Int) = some (zb z + a) := by
  unfold rfO
  rw [if_pos (Int.natCast_nonneg a), Int.toNat_natCast]
theorem wsO_get {z : Zw} {g : List Sh} {h : Hc} {k : Nat} {c : Sh} (hk : g[k]? = some c) : (wsO z g h)[k]? = some (zb z + k, encC z (h k) c) := by
  unfold wsO
  rw [List.getElem?_map, List.getElem?_range (List.getElem?_eq_some_iff.mp hk).1]
  simp only [Option.map_some, List.getD_eq_getElem?_getD, hk, Option.getD_some]
theorem wsO_none {z : Zw} {g : List Sh} {h : Hc} {k : Nat} (hk : g.length ≤ k) : (wsO z g h)[k]? = none := by
  unfold wsO
  rw [List.getElem?_map, List.getElem?_eq_none (by rw [List.length_range]; exact hk)]
  rfl
theorem wsO_len (z : Zw) (g : List Sh) (h : Hc) : (wsO z g h).length = g.length := by
  unfold wsO
  rw [List.length_map, List.length_range]
theorem wsO_set {z : Zw} {g : List Sh} {h : Hc} {k : Nat} {c : Sh} (hk : g[k]? = some c) (f : Nat → Int) : (wsO z g h).set k (zb z + k, encC z f c) = wsO z g (setH h k f) := by
  refine List.ext_getElem? fun j => ?_
  by_cases e : j = k
  · subst e
    rw [List.getElem?_set_self (by rw [wsO_len]; exact (List.getElem?_eq_some_iff.mp hk).1), wsO_get hk]
    simp [setH]
  · rw [List.getElem?_set_ne (Ne.symm e)]
    cases hj : g[j]? with
    | none => rw [wsO_none (List.getElem?_eq_none_iff.mp hj), wsO_none (List.getElem?_eq_none_iff.mp hj)]
    | some cj => rw [wsO_get hj, wsO_get hj]; simp [setH, e]
theorem wsO_push {z : Zw} {g : List Sh} {h : Hc} (c : Sh) (f : Nat → Int) : wsO z g h ++ [(zb z + g.length, encC z f c)] = wsO z (g ++ [c]) (setH h g.length f) := by
  refine List.ext_getElem? fun j => ?_
  rcases Nat.lt_trichotomy j g.length with hlt | heq | hgt
  · have hj : g[j]? = some g[j] := List.getElem?_eq_getElem hlt
    rw [List.getElem?_append_left (by rw [wsO_len]; exact hlt), wsO_get hj, wsO_get (c := g[j]) (by rw [List.getElem?_append_left hlt]; exact hj)]
    simp [setH, Nat.ne_of_lt hlt]
  · subst heq
    rw [List.getElem?_append_right (by rw [wsO_len]; exact Nat.le_refl _), wsO_len, Nat.sub_self, wsO_get (c := c) (by rw [List.getElem?_append_right (Nat.le_refl _), Nat.sub_self]; rfl)]
    simp [setH]
  · rw [List.getElem?_eq_none (by rw [List.length_append, wsO_len]; simp; omega), wsO_none (by rw [List.length_append]; simp; omega)]
theorem wsO_D {z : Zw} {g : List Sh} {h : Hc} : va_D (zR z) (wsO z g h) := by
  have key : ∀ (i : Nat) (q : Nat × va_E), (wsO z g h)[i]? = some q → q.1 = zb z + i := by
    intro i q hq
    cases hg : g[i]? with
    | none => rw [wsO_none (List.getElem?_eq_none_iff.mp hg)] at hq; cases hq
    | some c => rw [wsO_get hg] at hq; cases hq; rfl
  refine ⟨fun i j p q hi hj e => ?_, fun k q hk => ?_⟩
  · rw [key i p hi, key j q hj] at e
    omega
  · show zb z ≤ q.1
    rw [key k q hk]
    omega
theorem okH_set {g : List Sh} {h : Hc} (ho : okH g h) {k : Nat} {f : Nat → Int} (hf : ∀ c, g[k]? = some c → okC c f) : okH g (setH h k f) := by
  intro j c hj
  by_cases e : j = k
  · subst e
    simp only [setH, if_pos]
    exact hf c hj
  · simp only [setH, if_neg e]
    exact ho j c hj
theorem okC_upd {c : Sh} {f : Nat → Int} (ho : okC c f) {i : Nat} {v : Int} (hv : if c.1 = 14 then in64 v else in32 v) : okC c (fun j => if j = i then v else f j) := by
  intro j
  by_cases e : j = i
  · simp only [if_pos e]; exact hv
  · simp only [if_neg e]; exact ho j
/-- a world changed at one cell -/
theorem Rep.upd {z : Zw} {g : Gs} {h : Hc} {H H1 : Heap} {k : Nat} {c : Sh} {f : Nat → Int} (hR : Rep z g h H) (hk : g.1[k]? = some c) (hP : va_P (zD z) vwCl ((wsO z g.1 h).set k (zb z + k, encC z f c)) H1) (hf : okC c f) : Rep z g (setH h k f) H1 := by
  refine ⟨by rw [← wsO_set hk]; exact hP, okH_set hR.2.1 (fun c' hc => ?_), hR.2.2⟩
  rw [hk] at hc
  cases hc
  exact hf
