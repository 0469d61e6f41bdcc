/-! EXCEPTIONS -/
/-- 'throw new E()': its words -/
def TH (own : String) (ik ic : Nat) (cls : String) (names : List String) : Prop := Bundle.fit cls = true ∧ (∀ q ∈ names, Bundle.fit q = true) ∧ (∀ w ∈ Cond.classLink own ik cls :: Cond.initialized cls :: vx_at0 own ic cls names, w ∈ lwg ∧ vx_ot w = true) ∧ names.length ≤ 6
section
variable {d kc ks : Nat} {y : Mth} {pc n n0 n1 n2 n3 ik ic : Nat} {ls st : List AV} {g : Gs} {h : Hc} {P : Po} {cls : String} {names : List String}
set_option maxHeartbeats 4000000 in
theorem R_throw (hh : mH y = []) (hd0 : D y pc (.new ik) 3 n0) (hd3 : D y n0 .dup 1 n1) (hd4 : D y n1 (.invokespecial ic) 3 n2) (hd7 : D y n2 .athrow 1 n3) (ht : TH (mC y) ik ic cls names) (hg : g.2.1 = 1) (hst : st.length ≤ 4) (hkc : 1 ≤ kc) (hks : 6 ≤ ks) (K : P (.inr cls) g h) : Run d kc ks y pc ls st g h P := by
  intro z p l e R s m args below meth c H locs cells slots rls C hc hs hR hE hS hL ho1 ho2
  obtain ⟨hd0, rfl⟩ := hd0
  obtain ⟨hd3, rfl⟩ := hd3
  obtain ⟨hd4, rfl⟩ := hd4
  obtain ⟨hd7, rfl⟩ := hd7
  obtain ⟨t1, t2, t3, t4⟩ := ht
  have hfr := C.fr
  have := catsum z st
  have hL1 := Nat.mul_le_mul_left 13 (Nat.succ_le_succ t4)
  refine vx_throw0 (names := names) (A := zR z) C.1 C.2.1 C.rest.1 C.own t1 t2 (C.hts _ (t3 _ List.mem_cons_self).1) (C.hts _ (t3 _ (List.mem_cons_of_mem _ List.mem_cons_self)).1) (fun w hw => C.hts _ (t3 w (List.mem_cons_of_mem _ (List.mem_cons_of_mem _ hw))).1) (fun w hw => (t3 w hw).2) C.ext.2.2.2.2.2.1 C.ext.2.2.2.2.2.2.1 hS (hL.2.1.1.trans C.2.2.1.symm) hd0 hd3 hd4 hd7 (fun x hx => by rw [C.rest.2.1, hh] at hx; cases hx) (by omega) (by omega) (by omega) (by omega) C.2.2.2.2.1 (fun t hal hz hk => ?_) hS.2.2 (by omega) (by omega)
  refine ⟨⟨g, h, ⟨⟨hR.1.kept fun k q hq => hk q.1 (hR.1 k q hq).lt, hR.2⟩, fun e0 => absurd e0 (by omega)⟩, K⟩, Nat.le_trans hS.1 hz, fun q h1 h2 => ?_⟩
  rw [hk q (Nat.lt_of_lt_of_le h1 hS.1)]
  exact hS.2.1 q h1 h2
end
/-- a contract of a method with handlers -/
def CallH (d mc ms : Nat) (y : Mth) (av : List AV) (g : Gs) (h : Hc) (P : Po) : Prop :=
  ∀ (z : Zw) (l : Launch), l.stackTraces = false → okV av → vx_Met l (mN y) [Cond.codeWith (mN y) (mB y) (mL y) (mR y) (mH y)] (rmO d mc ms) (PcO z av g h) (QcO z P) (XCO z P) mc ms (zR z)
set_option maxHeartbeats 4000000 in
theorem CallH_of {d mc ms : Nat} {y : Mth} {av ls : List AV} {g : Gs} {h : Hc} {P : Po} (hy : plainName (mN y).cls = true ∧ (mN y).cls = mC y) (hn : (entA av).length ≤ mL y) (hl : entA av ++ List.replicate (mL y - (entA av).length) vU = ls) (K : Run d mc ms y 0 ls [] g h P) : CallH d mc ms y av g h P := by
  intro z l hst hav
  refine vx_ofWH (cc := mB y) (maxL := mL y) (ret := mR y) hy.1 rfl ?_
  intro p e s m args below meth c s₁ B hml hv
  obtain ⟨rfl, hX, hTb, hK, hExt, hbase⟩ := hv
  have hown : s.vm.findClass (mC y) = some m.cls := by rw [← hy.2]; exact findClass_of_methodNamed B.named
  have htab : c.exceptionTable.toList = tableOf (mH y) := vx_table (x := mN y) B (atoms_spec (ws := [Cond.codeWith (mN y) (mB y) (mL y) (mR y) (mH y)]) B.pre _ (List.mem_singleton.mpr rfl))
  have hCx : Cx d y z p l (rmO d mc ms) s m (av.map (enc z)).toArray meth c := ⟨B.exec, B.bytes, hml, B.returns, B.notSynchronized, hown, fun w hw hg => gw_warm hg (State.WarmedH.refl s) (hTb w hw hg), hK, hExt, hbase, Nat.le_refl _, Nat.le_refl _, hst, htab, (name_of_methodNamed B.named B.method).1⟩
  have hent := lv_entry (av.map (enc z)) (n := mL y) (by rw [entA_len]; exact hn)
  rw [lg_entry_eq]
  refine K z p l e (rmO d mc ms) s m _ below meth c s.heap [] 0 0 _ hCx (by show 0 + mc ≤ mc; omega) (by show 0 + ms ≤ ms; omega) hX.1 (fun e0 => hX.2 e0) va_S.rf ?_ ?_ (fun v hv => by cases hv)
  · subst hl
    refine LRep.of (by rw [List.length_append, List.length_replicate]; omega) hent fun i v hi hg => ?_
    have := entA_args z av 0 i v _ (fun u hu => by rw [List.eq_of_mem_replicate hu]) hi hg.1
    rwa [Nat.zero_add] at this
  · subst hl
    exact okV_ent hav
/-- a method's own words, with handlers -/
def MCH (y : Mth) (k : Nat) : Prop := Cond.codeWith (mN y) (mB y) (mL y) (mR y) (mH y) ∈ lwg ∧ Cond.initialized (mN y).cls ∈ lwg ∧ ((mN y).cls ≠ "java/lang/invoke/MethodHandle" ∧ (mN y).cls ≠ "java/lang/invoke/VarHandle") ∧ (parseMethodDescriptor (mN y).desc).map (fun d => d.parameters.length) = some k ∧ mL y ≤ 21
section
variable {d kc ks mc ms : Nat} {y yc : Mth} {pc n idx k : Nat} {ls st av : List AV} {g : Gs} {h : Hc} {P : Po}
set_option maxHeartbeats 4000000 in
theorem R_invHg (hh : mH y = []) (hd : D y pc (.invokestatic idx) 3 n) (hm : Cond.methodLink (mC y) idx (mN yc) ∈ lwg ∧ MCH yc k ∧ Cond.static (mN yc) ∈ lwg) (hk : av.length = k) (hst : st.length ≤ 4) (hkc : mc ≤ kc) (hks : ms ≤ ks) (K : CallH d mc ms yc av g h (Kon (d + 1) (kc - mc) (ks - ms) y n ls st g mc P)) : Run (d + 1) kc ks y pc ls (av.reverse ++ st) g h P := by
  intro z p l e R s m args below meth c H locs cells slots rls C hc hs hR hE hS hL ho1 ho2
  obtain ⟨hd, hn⟩ := hd
  obtain ⟨f3, f4, f5⟩ := hm
  intro T9 hT X
  have hX := hR.x hE hS C.base hT X
  have hlen : ∀ sig, parseMethodDescriptor (mN yc).desc = some sig → k = sig.parameters.length := by
    intro sig hs9
    have := f4.2.2.2.1
    rw [hs9] at this
    exact (Option.some.inj this).symm
  have run := vx_runSX (As := av.map (enc z)) (rest := st.map (enc z)) (g := F0 m pc rls ((av.reverse ++ st).map (enc z))) (e := e) (below := below) (meth := meth) (H := H) (locs := locs) (cells := cells) (slots := slots) ⟨C.1, C.2.1, C.2.2.1, C.own, C.hts⟩ (K z l C.rest.1 (okV_rev (okV_app ho2).1))
    (show vx_CSW R s args (mC y) idx (mN yc) (mB yc) (mL yc) (mR yc) (mH yc) _ (rmO d mc ms) mc ms k from ⟨⟨rfl, rfl, by have := C.fr.1; show d + 10 + 1 ≤ _; omega, by have := C.fr.2; have := f4.2.2.2.2; show 8 + (mL yc + 11) + (40 * d + 200) ≤ _; omega, (fun w hw a' U hW => by rw [List.mem_singleton.mp hw]; exact gw_warm rfl hW (C.hts _ f4.1)), List.mem_singleton.mpr rfl⟩, C.hts _ f4.1, C.hts _ f4.2.1, f4.2.2.1, hlen, C.hts _ f3, C.hts _ f5⟩)
    ⟨PcO.blind, PcO.at C hX hS⟩ rfl (by rw [List.length_map]; exact hk) hL.2.1.1 (by show List.map _ _ = _; rw [List.map_append, List.map_reverse]) (enc_cats hst) hd ⟨by omega, by omega⟩
  exact inv_go hh hn hkc hks C hc hs hE hS hL ho1 (okV_app ho2).2 run T9 hT X
/-- how a class's throw goes through the rows of a table at pc: caught at hp, or out -/
def Cat (own : String) (pc : Nat) (E : String) (hp : Nat) : List (Nat × Nat × Nat × Nat) → Prop
  | [] => False
  | q :: r => (q.1 ≤ pc ∧ pc < q.2.1 ∧ q.2.2.2 ≠ 0) ∧ ((∃ nm : String, Cond.classLink own q.2.2.2 nm ∈ lwg ∧ Cond.castable E nm ∈ lwg ∧ hp = q.2.2.1) ∨ ((∃ nm : String, Cond.classLink own q.2.2.2 nm ∈ lwg ∧ (E, nm) ∈ ncT) ∧ Cat own pc E hp r))
theorem Cat.split {own : String} {pc : Nat} {E : String} {hp : Nat} : ∀ {tb : List (Nat × Nat × Nat × Nat)}, Cat own pc E hp tb → ∃ (pre : List ExceptionTableEntry) (x : ExceptionTableEntry) (suf : List ExceptionTableEntry) (name : String), tableOf tb = pre ++ x :: suf ∧ (∀ z ∈ pre, z.catchType ≠ 0 ∧ ∃ nm : String, Cond.classLink own z.catchType nm ∈ lwg ∧ (E, nm) ∈ ncT) ∧ covers x pc = true ∧ x.catchType ≠ 0 ∧ Cond.classLink own x.catchType name ∈ lwg ∧ Cond.castable E name ∈ lwg ∧ x.handlerPc = hp := by
  intro tb
  induction tb with
  | nil => intro h; exact h.elim
  | cons q r ih =>
    intro h
    obtain ⟨⟨h1, h2, h3⟩, h4⟩ := h
    rcases h4 with ⟨nm, a1, a2, a3⟩ | ⟨⟨nm, a1, a2⟩, h5⟩
    · exact ⟨[], ⟨q.1, q.2.1, q.2.2.1, q.2.2.2⟩, tableOf r, nm, rfl, (fun z hz => nomatch hz), by simp [covers, h1, h2], h3, a1, a2, a3.symm⟩
    · obtain ⟨pre, x, suf, name, b1, b2, b3, b4, b5, b6, b7⟩ := ih h5
      refine ⟨⟨q.1, q.2.1, q.2.2.1, q.2.2.2⟩ :: pre, x, suf, name, by show _ :: tableOf r = _; rw [b1]; rfl, fun z hz => ?_, b3, b4, b5, b6, b7⟩
      rcases List.mem_cons.mp hz with rfl | hz
      · exact ⟨h3, nm, a1, a2⟩
      · exact b2 z hz
/-- a local that isn't known any more -/
theorem LRep.setU {z : Zw} {ls : List AV} {rls : Array Slot} {n i : Nat} {w : Value} (hl : ls.length = n) (hno : ls.all (fun v => v.1 != 1) = true) (h : lv_has rls n ((i, w) :: (ascL z ls).filter (fun q => !(q.1 == i) && !(q.1 + 1 == i && q.2.category == 2)))) : LRep z (ls.set i vU) rls n := by
  refine LRep.of (by rw [List.length_set, hl]) h fun j v hj hg => ?_
  by_cases e : j = i
  · subst e
    have hlt : j < ls.length := by
      have := (List.getElem?_eq_some_iff.mp hj).1
      rwa [List.length_set] at this
    rw [List.getElem?_set_self hlt] at hj
    cases hj
    exact absurd rfl hg.1
  · rw [List.getElem?_set_ne (Ne.symm e)] at hj
    have hn1 : ¬ v.1 = 1 := by
      have := List.all_eq_true.mp hno v (List.mem_of_getElem? hj)
      simpa using this
    refine List.mem_cons_of_mem _ (List.mem_filter.mpr ⟨mem_asc.mpr ⟨v, hj, ⟨hg.1, fun h1 => absurd h1 hn1⟩, rfl⟩, ?_⟩)
    simp only [Bool.and_eq_true, Bool.not_eq_true', beq_eq_false_iff_ne, Bool.and_eq_false_iff]
    exact ⟨e, Or.inr (fun h2 => hn1 ((enc_cat z v).mp h2))⟩
/-- behind a call in a method with handlers -/
def KonC (d kc ks : Nat) (y : Mth) (pc n : Nat) (ls st : List AV) (g : Gs) (mc : Nat) (P : Po) : Po := fun o g' h' => (g'.2.1 = 0 → g.2.1 = 0 ∧ g'.1.length = g.1.length + mc) ∧ (match o with
  | .inl none => Run d kc ks y n ls st g' h' P
  | .inl (some v) => Run d kc ks y n ls (v :: st) g' h' P
  | .inr E => ∃ hp i n', Cat (mC y) pc E hp (mH y) ∧ (D y hp (.astore i) 2 n' ∨ ∃ k : Fin 4, (k : Nat) = i ∧ D y hp (.astore_n k) 1 n') ∧ i < ls.length ∧ Run d kc ks y n' (ls.set i vU) [] g' h' P)
set_option maxHeartbeats 4000000 in
theorem inv_goC {a : Array Value} {z : Zw} {p : Program} {l : Launch} {e : Env} {R : Room} {s : State} {m : MethodId} {args : Array Value} {below : List Frame} {meth : Method} {c : Code} {H : Heap} {locs : List Loc} {cells slots : Nat} {rls : Array Slot} {stk : List Value}
    (hno : ls.all (fun v => v.1 != 1) = true) (hn : pc + 3 = n) (hkc : mc ≤ kc) (hks : ms ≤ ks) (C : Cx d y z p l R s m args meth c) (hc : cells + kc ≤ R.cells) (hs : slots + ks ≤ R.slots) (hE : g.2.1 = 0 → s.heap.size + cells = zb z + g.1.length) (hS : va_S (zR z) s.heap H locs) (hL : LRep z ls rls (mL y)) (ho1 : okV ls) (ho2 : okV st)
    (run : vx_Run p l e R s m args below meth c H locs cells slots mc ms (F0 m pc rls stk) (st.map (enc z)) (QcO z (KonC d (kc - mc) (ks - ms) y pc n ls st g mc P) a) (XCO z (KonC d (kc - mc) (ks - ms) y pc n ls st g mc P)) (zR z)) :
    W p l e R s m args below meth c H locs cells slots (vx_MQ below (QcO z P) (XCO z P) args s R.cells R.slots (zR z)) (F0 m pc rls stk) := by
  subst hn
  intro T hT X
  have hS2 : ∀ (st0 t : State) (L : List Loc), st0.heap = H → va_F (zR z) st0 t → (∀ q ∈ L, zR z q.base) → va_S (zR z) s.heap t.heap (locs ++ L) := by
    intro st0 t L e1 hF hL9
    refine ⟨Nat.le_trans hS.1 (by rw [← e1]; exact hF.1), fun q h1 h2 => ?_, fun q hq => ?_⟩
    · rw [hF.2 q (by rw [e1]; exact Nat.lt_of_lt_of_le h1 hS.1) h2, e1]
      exact hS.2.1 q h1 h2
    · rcases List.mem_append.mp hq with h | h
      · exact hS.2.2 q h
      · exact hL9 q h
  have hE2 : ∀ g' : Gs, (g'.2.1 = 0 → g.2.1 = 0 ∧ g'.1.length = g.1.length + mc) → (g'.2.1 = 0 → s.heap.size + (cells + mc) = zb z + g'.1.length) := by
    intro g' h1 h2
    obtain ⟨h3, h4⟩ := h1 h2
    have := hE h3
    omega
  rcases run T hT X with ⟨v, st0, t, T', L, e1, X', hL9, e2, e3, ⟨⟨r, g', h', hv, hok, hX9, hk, hr⟩, hF⟩, go⟩ | ⟨q, st0, t, T', L, E, ce, e1, X', hL9, e2, e3, ⟨⟨g', h', hX9, hk, hr⟩, hF⟩, hce, hvm, hcl, go⟩
  · cases hv
    cases r with
    | none =>
      obtain ⟨t2, a1, b1⟩ := hr z p l e R s m args below meth c t.heap (locs ++ L) (cells + mc) (slots + ms) rls C (by omega) (by omega) hX9.1 (hE2 g' hk) (hS2 st0 t L e1 hF hL9) hL ho1 ho2 T' e2 X'
      exact ⟨t2, go t2 a1, b1⟩
    | some v =>
      obtain ⟨t2, a1, b1⟩ := hr z p l e R s m args below meth c t.heap (locs ++ L) (cells + mc) (slots + ms) rls C (by omega) (by omega) hX9.1 (hE2 g' hk) (hS2 st0 t L e1 hF hL9) hL ho1 (okV_cons (hok v rfl) ho2) T' e2 X'
      exact ⟨t2, go t2 a1, b1⟩
  · have hS9 := hS2 st0 t L e1 hF hL9
    obtain ⟨hp, i, n', hcat, hdi, hi, hr⟩ := hr
    obtain ⟨pre, x, suf, name, b1, b2, b3, b4, b5, b6, b7⟩ := hcat.split
    have fin : ∀ ls2 : Array Slot, lv_has ls2 (mL y) ((i, Value.ref q) :: (ascL z ls).filter (fun q => !(q.1 == i) && !(q.1 + 1 == i && q.2.category == 2))) → W p l e R s m args below meth c t.heap (locs ++ L) (cells + mc) (slots + ms) (vx_MQ below (QcO z P) (XCO z P) args s R.cells R.slots (zR z)) (F0 m n' ls2 []) := fun ls2 h2 =>
      hr z p l e R s m args below meth c t.heap (locs ++ L) (cells + mc) (slots + ms) ls2 C (by omega) (by omega) hX9.1 (hE2 g' hk) hS9 (LRep.setU hL.1 hno h2) (okV_set ho1 (okA_U 0)) (fun v hv => nomatch hv)
    have cat := vx_catch (p := p) (l := l) (e := e) (R := R) (s := s) (m := m) (args := args) (below := below) (meth := meth) (c := c) (H := t.heap) (locs := locs ++ L) (cells := cells + mc) (slots := slots + ms) (Q := vx_MQ below (QcO z P) (XCO z P) args s R.cells R.slots (zR z)) (ls := rls) (rest := st.map (enc z)) (pc := pc) (E := E) (ce := ce) (q := q) C.own pre x suf (C.rest.2.1.trans b1) (fun w hw => Or.inr ⟨(b2 w hw).1, (b2 w hw).2.choose, C.hts _ (b2 w hw).2.choose_spec.1, C.ext.2.2.2.2.2.2.2 _ (b2 w hw).2.choose_spec.2⟩) b3 b4 (C.hts _ b5) (C.hts _ b6) hce hvm hcl (by
        rw [b7]
        rcases hdi with ⟨hdi, rfl⟩ | ⟨k, hk9, hdi, rfl⟩
        · exact lv_astore C.1 C.2.1 hdi hL.has (by rw [← hL.1]; exact hi) rfl fin
        · exact lv_astore_n C.1 C.2.1 hdi hk9 hL.has (by rw [← hL.1]; exact hi) rfl fin)
    obtain ⟨t2, a1, b1⟩ := cat T' e2 X'
    exact ⟨t2, Steps.trans go a1, b1⟩
set_option maxHeartbeats 4000000 in
theorem R_invCg {ci N a : Nat} {rs : List Int} (hno : ls.all (fun v => v.1 != 1) = true) (hd : D y pc (.invokevirtual idx) 3 n) (hm : MV (mC y) idx yc ci k N) (hg : g.1[a]? = some (ci, N, rs)) (hk : av.length = k) (hst : st.length ≤ 4) (hkc : mc ≤ kc) (hks : ms ≤ ks) (K : Call d mc ms yc (vR a :: av) g h (KonC (d + 1) (kc - mc) (ks - ms) y pc n ls st g mc P)) : Run (d + 1) kc ks y pc ls (av.reverse ++ vR a :: st) g h P := by
  intro z p l e R s m args below meth c H locs cells slots rls C hc hs hR hE hS hL ho1 ho2
  obtain ⟨hd, hn⟩ := hd
  obtain ⟨Cn, T, f1, f2, f3, f4, f5, f6⟩ := hm
  intro T9 hT X
  have hX := hR.x hE hS C.base hT X
  have hav : okV (vR a :: av) := okV_cons (okA_R _) (okV_rev (okV_app ho2).1)
  have run := vx_runV (As := av.map (enc z)) (rest := st.map (enc z)) (b := zb z + a) (g := F0 m pc rls ((av.reverse ++ vR a :: st).map (enc z))) (e := e) (below := below) (meth := meth) (H := H) (locs := locs) (cells := cells) (slots := slots) ⟨C.1, C.2.1, C.2.2.1, C.own, C.hts⟩ (K z l C.rest.1 hav) ⟨callBO C f4 f3, C.hts _ f5, C.hts _ f6⟩ ⟨PcO.blind, recvO C hR hg f2 f1, by rw [args_eq]; exact PcO.at C hX hS⟩ rfl (by rw [List.length_map]; exact hk) hL.2.1.1 (stk_eq z av a st) (enc_cats hst) hd ⟨by omega, by omega⟩
  exact inv_goC hno hn hkc hks C hc hs hE hS hL ho1 (okV_tl (okV_app ho2).2) run T9 hT X
end
