/-! CALLS -/
def rmO (d mc ms : Nat) : Room := { frames := d + 10, cells := mc, slots := ms, locals := 40 * d + 200 }
def PcO (z : Zw) (av : List AV) (g : Gs) (h : Hc) : Array Value → State → Prop := va_Pc (av.map (enc z)) (fun U => RepX z g h U.heap ∧ Tb U ∧ KT z U ∧ Ext z U U.heap ∧ zb z ≤ U.heap.size)
def Call (d mc ms : Nat) (y : Mth) (av : List AV) (g : Gs) (h : Hc) (P : Po) : Prop :=
  ∀ (z : Zw) (l : Launch), l.stackTraces = false → okV av → vx_Met l (mN y) [Cond.code (mN y) (mB y) (mL y) (mR y)] (rmO d mc ms) (PcO z av g h) (QcO z P) (XCO z P) mc ms (zR z)
/-- the locals at a method's entry -/
def entA : List AV → List AV
  | [] => []
  | v :: r => if v.1 = 1 then v :: vU :: entA r else v :: entA r
theorem entA_args (z : Zw) : ∀ (av : List AV) (o i : Nat) (v : AV) (tl : List AV), (∀ u ∈ tl, u.1 = 3) → (entA av ++ tl)[i]? = some v → v.1 ≠ 3 → (o + i, enc z v) ∈ lv_args o (av.map (enc z)) := by
  intro av
  induction av with
  | nil =>
    intro o i v tl h3 hi hv
    exact absurd (h3 v (List.mem_of_getElem? hi)) hv
  | cons w r ih =>
    intro o i v tl h3 hi hv
    show (o + i, enc z v) ∈ (o, enc z w) :: lv_args (if (enc z w).category = 2 then o + 2 else o + 1) (r.map (enc z))
    unfold entA at hi
    by_cases hw : w.1 = 1
    · rw [if_pos hw] at hi
      rw [if_pos ((enc_cat z w).mpr hw)]
      match i, hi with
      | 0, hi => cases hi; exact List.mem_cons_self
      | 1, hi => cases hi; exact absurd rfl hv
      | i + 2, hi =>
        refine List.mem_cons_of_mem _ ?_
        have := ih (o + 2) i v tl h3 hi hv
        rwa [show o + 2 + i = o + (i + 2) by omega] at this
    · rw [if_neg hw] at hi
      rw [if_neg (fun h => hw ((enc_cat z w).mp h))]
      match i, hi with
      | 0, hi => cases hi; exact List.mem_cons_self
      | i + 1, hi =>
        refine List.mem_cons_of_mem _ ?_
        have := ih (o + 1) i v tl h3 hi hv
        rwa [show o + 1 + i = o + (i + 1) by omega] at this
theorem entA_len (z : Zw) : ∀ av : List AV, (lg_sl (av.map (enc z))).length = (entA av).length := by
  intro av
  induction av with
  | nil => rfl
  | cons w r ih =>
    unfold entA
    rw [List.map_cons, show lg_sl (enc z w :: r.map (enc z)) = (if (enc z w).category = 2 then [.val (enc z w), .second] else [.val (enc z w)]) ++ lg_sl (r.map (enc z)) from rfl, List.length_append, ih]
    by_cases hw : w.1 = 1
    · rw [if_pos hw, if_pos ((enc_cat z w).mpr hw)]
      simp
      omega
    · rw [if_neg hw, if_neg (fun h => hw ((enc_cat z w).mp h))]
      simp
      omega
theorem okV_ent : ∀ {av : List AV} {n : Nat}, okV av → okV (entA av ++ List.replicate n vU) := by
  intro av
  induction av with
  | nil =>
    intro n _ v hv
    rw [show v = vU from List.eq_of_mem_replicate hv]
    exact okA_U 0
  | cons w r ih =>
    intro n h
    unfold entA
    split
    · exact okV_cons (okV_hd h) (okV_cons (okA_U 0) (ih (okV_tl h)))
    · exact okV_cons (okV_hd h) (ih (okV_tl h))
theorem Ext.warm {z : Zw} {s U : State} {H : Heap} (h : Ext z s s.heap) (hW : s.WarmedH U.vm) (hq : ∀ a : Nat, a < s.heap.size → ¬ zR z a → H[a]? = s.heap[a]?) : Ext z U H := by
  obtain ⟨⟨h1, h2, h3, h4⟩, h5, h6, h7, h8, h9, h10, h11⟩ := h
  have hlt : zX z 0 < s.heap.size := by
    obtain ⟨scr, q1, -⟩ := h1
    exact (Array.getElem?_eq_some_iff.mp q1).1
  exact ⟨⟨(h1.moved hW.alike).kept (hq _ hlt (Nat.not_le.mpr h2)), h2, h3, h4⟩, fun i t ht => (h5 i t ht).warm hW, (h6.moved hW.alike).kept hq, (h7.moved hW.alike).kept hq, h8.imp (fun q => (q.moved hW.alike).kept hq) (fun q => (q.moved hW.alike).kept hq), (h9.moved hW.alike).kept hq, (h10.moved hW.alike).kept hq, fun q hq9 => (h11 q hq9).moved hW.alike⟩
theorem Tb.warm {s U : State} {args : Array Value} (h : ∀ w ∈ lwg, w.before args s = true) (hW : s.WarmedH U.vm) : Tb U := fun w hw hg => gw_warm hg hW (h w (lwg_of hw hg))
theorem PcO.blind {z : Zw} {av : List AV} {g : Gs} {h : Hc} : FrameBlind (PcO z av g h) := by
  intro a U gg mk q
  obtain ⟨q0, q1, q2, q3, q4, q5⟩ := q
  have hW : U.WarmedH (U.calling gg mk a).vm := State.WarmedH.refl U
  exact ⟨q0, q1, fun w hw hg => gw_warm hg hW (q2 w hw hg), va_K.moved hW.alike q3, q4.warm hW (fun _ _ _ => rfl), q5⟩
theorem PcO.at {d : Nat} {y : Mth} {z : Zw} {p : Program} {l : Launch} {R : Room} {s : State} {m : MethodId} {args : Array Value} {meth : Method} {c : Code} {H : Heap} {locs : List Loc} {av : List AV} {g : Gs} {h : Hc} (C : Cx d y z p l R s m args meth c) (hX : RepX z g h H) (hS : va_S (zR z) s.heap H locs) : ∀ U : State, U.heap = H → s.WarmedH U.vm → PcO z av g h (av.map (enc z)).toArray U := by
  intro U hU hW
  refine ⟨rfl, by rw [hU]; exact hX, Tb.warm C.hts hW, va_K.moved hW.alike C.K, C.ext.warm hW (fun a h1 h2 => by rw [hU]; exact hS.2.1 a h1 h2), by rw [hU]; exact Nat.le_trans C.base hS.1⟩
set_option maxHeartbeats 4000000 in
theorem Call_of {d mc ms : Nat} {y : Mth} {av ls : List AV} {g : Gs} {h : Hc} {P : Po} (hh : mH y = []) (hy : plainName (mN y).cls = true ∧ (mN y).cls = mC y) (hn : (entA av).length ≤ mL y) (hl : entA av ++ List.replicate (mL y - (entA av).length) vU = ls) (K : Run d mc ms y 0 ls [] g h P) : Call d mc ms y av g h P := by
  intro z l hst hav
  refine vx_ofW (cc := mB y) (maxL := mL y) (ret := mR y) hy.1 rfl ?_
  intro p e s m args below meth c s₁ B hml hnt hv
  obtain ⟨rfl, hX, hTb, hK, hExt, hbase⟩ := hv
  have hown : s.vm.findClass (mC y) = some m.cls := by rw [← hy.2]; exact findClass_of_methodNamed B.named
  have htab : c.exceptionTable.toList = tableOf (mH y) := by
    rw [hh]
    cases hq : c.exceptionTable.toList with
    | nil => rfl
    | cons x r => exact (hnt x (by rw [hq]; exact List.mem_cons_self)).elim
  have hCx : Cx d y z p l (rmO d mc ms) s m (av.map (enc z)).toArray meth c := ⟨B.exec, B.bytes, hml, B.returns, B.notSynchronized, hown, fun w hw hg => gw_warm hg (State.WarmedH.refl s) (hTb w hw hg), hK, hExt, hbase, Nat.le_refl _, Nat.le_refl _, hst, htab, (name_of_methodNamed B.named B.method).1⟩
  have hent := lv_entry (av.map (enc z)) (n := mL y) (by rw [entA_len]; exact hn)
  rw [lg_entry_eq]
  refine K z p l e (rmO d mc ms) s m _ below meth c s.heap [] 0 0 _ hCx (by show 0 + mc ≤ mc; omega) (by show 0 + ms ≤ ms; omega) hX.1 (fun e0 => hX.2 e0) va_S.rf ?_ ?_ (fun v hv => by cases hv)
  · subst hl
    refine LRep.of (by rw [List.length_append, List.length_replicate]; omega) hent fun i v hi hg => ?_
    have := entA_args z av 0 i v _ (fun u hu => by rw [List.eq_of_mem_replicate hu]) hi hg.1
    rwa [Nat.zero_add] at this
  · subst hl
    exact okV_ent hav
