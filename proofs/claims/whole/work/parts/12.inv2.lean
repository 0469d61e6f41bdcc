/-! KINDS OF CALLS -/
/-- a method's own words -/
def MC (y : Mth) (k : Nat) : Prop := Cond.code (mN y) (mB y) (mL y) (mR y) ∈ lwg ∧ Cond.initialized (mN y).cls ∈ lwg ∧ ((mN y).cls ≠ "java/lang/invoke/MethodHandle" ∧ (mN y).cls ≠ "java/lang/invoke/VarHandle") ∧ (parseMethodDescriptor (mN y).desc).map (fun d => d.parameters.length) = some k ∧ mL y ≤ 21
theorem MC.len {y : Mth} {k : Nat} (h : MC y k) : ∀ sig, parseMethodDescriptor (mN y).desc = some sig → k = sig.parameters.length := by
  intro sig hs
  have := h.2.2.2.1
  rw [hs] at this
  exact (Option.some.inj this).symm
theorem MC.ws {y : Mth} {k : Nat} (h : MC y k) {args : Array Value} {s : State} (hts : ∀ w ∈ lwg, w.before args s = true) : ∀ w ∈ [Cond.code (mN y) (mB y) (mL y) (mR y)], ∀ (a' : Array Value) (U : State), s.WarmedH U.vm → w.before a' U = true := by
  intro w hw a' U hW
  rw [List.mem_singleton.mp hw]
  exact gw_warm rfl hW (hts _ h.1)
theorem callBO {d mc ms k idx : Nat} {y yc : Mth} {z : Zw} {p : Program} {l : Launch} {R : Room} {s : State} {m : MethodId} {args : Array Value} {meth : Method} {c : Code} (C : Cx (d + 1) y z p l R s m args meth c) (h : MC yc k) (hl : Cond.methodLink (mC y) idx (mN yc) ∈ lwg) : CallB R s args (mC y) idx (mN yc) (mB yc) (mL yc) (mR yc) [Cond.code (mN yc) (mB yc) (mL yc) (mR yc)] (rmO d mc ms) mc ms k :=
  ⟨rfl, rfl, by have := C.fr.1; show d + 10 + 1 ≤ _; omega, by have := C.fr.2; have := h.2.2.2.2; show 8 + (mL yc + 11) + (40 * d + 200) ≤ _; omega, h.ws C.hts, List.mem_singleton.mpr rfl, C.hts _ h.1, C.hts _ h.2.1, h.2.2.1, h.len, C.hts _ hl⟩
/-- invokevirtual: the receiver's class has the method itself -/
def MV (own : String) (idx : Nat) (yc : Mth) (ci k N : Nat) : Prop := ∃ (Cn : String) (T : u_T), vwCl[ci]? = some (Cn, T, N) ∧ ci < 12 ∧ Cond.methodLink own idx (mN yc) ∈ lwg ∧ MC yc k ∧ Cond.instanceMethod (mN yc) ∈ lwg ∧ Cond.selects Cn (mN yc) (mN yc) ∈ lwg
/-- invokevirtual: the method that is named is another's -/
def MU (own : String) (idx : Nat) (yc : Mth) (ci k N : Nat) : Prop := ∃ (Cn : String) (T : u_T) (x : MethodName) (owner : String), vwCl[ci]? = some (Cn, T, N) ∧ ci < 12 ∧ Cond.methodLink own idx x ∈ lwg ∧ MC yc k ∧ Cond.instanceMethod (mN yc) ∈ lwg ∧ Cond.selects Cn x (mN yc) ∈ lwg ∧ Cond.sameMethod x.cls owner x.name x.desc ∈ lwg ∧ (owner ≠ "java/lang/invoke/MethodHandle" ∧ owner ≠ "java/lang/invoke/VarHandle") ∧ x.desc = (mN yc).desc ∧
  ((Cond.instanceMethod ⟨owner, x.name, x.desc⟩ ∈ lwg ∧ ∃ b n r, Cond.code ⟨owner, x.name, x.desc⟩ b n r ∈ lwg) ∨ Cond.declares ⟨owner, x.name, x.desc⟩ ∈ lwg)
/-- invokestatic -/
def MS (own : String) (idx : Nat) (yc : Mth) (k : Nat) : Prop := Cond.methodLink own idx (mN yc) ∈ lwg ∧ MC yc k ∧ Cond.static (mN yc) ∈ lwg
/-- a constructor -/
def MI (own : String) (idx : Nat) (yc : Mth) (k : Nat) : Prop := Cond.methodLink own idx (mN yc) ∈ lwg ∧ MC yc k ∧ Cond.instanceMethod (mN yc) ∈ lwg ∧ (mN yc).name = "<init>" ∧ mR yc = none
/-- a nest mate's constructor -/
def MN (own : String) (idx : Nat) (yc : Mth) (k : Nat) : Prop := ∃ host : String, Cond.methodLinkNest own idx (mN yc) host ∈ lwg ∧ MC yc k ∧ Cond.instanceMethod (mN yc) ∈ lwg ∧ (mN yc).name = "<init>" ∧ mR yc = none
section
variable {d kc ks mc ms : Nat} {y yc : Mth} {pc n idx k : Nat} {ls st av : List AV} {g : Gs} {h : Hc} {P : Po}
theorem okV_app {l1 l2 : List AV} (h : okV (l1 ++ l2)) : okV l1 ∧ okV l2 := ⟨fun v hv => h v (List.mem_append_left _ hv), fun v hv => h v (List.mem_append_right _ hv)⟩
theorem okV_rev {l1 : List AV} (h : okV l1.reverse) : okV l1 := fun v hv => h v (List.mem_reverse.mpr hv)
theorem stk_eq (z : Zw) (av : List AV) (a : Nat) (st : List AV) : (av.reverse ++ vR a :: st).map (enc z) = (av.map (enc z)).reverse ++ .ref (zb z + a) :: st.map (enc z) := by
  rw [List.map_append, List.map_reverse, List.map_cons, enc_vR]
theorem args_eq (z : Zw) (av : List AV) (a : Nat) : (Value.ref (zb z + a) :: av.map (enc z)) = (vR a :: av).map (enc z) := by
  rw [List.map_cons, enc_vR]
theorem recvO {d' : Nat} {z : Zw} {p : Program} {l : Launch} {R : Room} {s : State} {m : MethodId} {args : Array Value} {meth : Method} {c : Code} {H : Heap} {ci N a : Nat} {rs : List Int} {Cn : String} {T : u_T} (C : Cx d' y z p l R s m args meth c) (hR : Rep z g h H) (hg : g.1[a]? = some (ci, N, rs)) (h12 : ci < 12) (hv : vwCl[ci]? = some (Cn, T, N)) : ∃ cell : Cell, H[zb z + a]? = some cell ∧ cell.vm.isStatics = false ∧ s.vm.findClass Cn = some cell.cls := by
  have e9 := wsO_get (z := z) (h := h) hg
  rw [encC_obj h12] at e9
  exact va_recv C.K hR.1 hv e9
set_option maxHeartbeats 4000000 in
theorem R_invVg {ci N a : Nat} {rs : List Int} (hh : mH y = []) (hd : D y pc (.invokevirtual idx) 3 n) (hm : MV (mC y) idx yc ci k N) (hg : g.1[a]? = some (ci, N, rs)) (hk : av.length = k) (hst : st.length ≤ 4) (hkc : mc ≤ kc) (hks : ms ≤ ks) (K : Call d mc ms yc (vR a :: av) g h (Kon (d + 1) (kc - mc) (ks - ms) y n ls st g mc P)) : Run (d + 1) kc ks y pc ls (av.reverse ++ vR a :: st) g h P := by
  intro z p l e R s m args below meth c H locs cells slots rls C hc hs hR hE hS hL ho1 ho2
  obtain ⟨hd, hn⟩ := hd
  obtain ⟨Cn, T, f1, f2, f3, f4, f5, f6⟩ := hm
  intro T9 hT X
  have hX := hR.x hE hS C.base hT X
  have hav : okV (vR a :: av) := okV_cons (okA_R _) (okV_rev (okV_app ho2).1)
  have run := vx_runV (As := av.map (enc z)) (rest := st.map (enc z)) (b := zb z + a) (g := F0 m pc rls ((av.reverse ++ vR a :: st).map (enc z))) (e := e) (below := below) (meth := meth) (H := H) (locs := locs) (cells := cells) (slots := slots) ⟨C.1, C.2.1, C.2.2.1, C.own, C.hts⟩ (K z l C.rest.1 hav) ⟨callBO C f4 f3, C.hts _ f5, C.hts _ f6⟩ ⟨PcO.blind, recvO C hR hg f2 f1, by rw [args_eq]; exact PcO.at C hX hS⟩ rfl (by rw [List.length_map]; exact hk) hL.2.1.1 (stk_eq z av a st) (enc_cats hst) hd ⟨by omega, by omega⟩
  exact inv_go hh hn hkc hks C hc hs hE hS hL ho1 (okV_tl (okV_app ho2).2) run T9 hT X
set_option maxHeartbeats 4000000 in
theorem R_invUg {ci N a : Nat} {rs : List Int} (hh : mH y = []) (hd : D y pc (.invokevirtual idx) 3 n) (hm : MU (mC y) idx yc ci k N) (hg : g.1[a]? = some (ci, N, rs)) (hk : av.length = k) (hst : st.length ≤ 4) (hkc : mc ≤ kc) (hks : ms ≤ ks) (K : Call d mc ms yc (vR a :: av) g h (Kon (d + 1) (kc - mc) (ks - ms) y n ls st g mc P)) : Run (d + 1) kc ks y pc ls (av.reverse ++ vR a :: st) g h P := by
  intro z p l e R s m args below meth c H locs cells slots rls C hc hs hR hE hS hL ho1 ho2
  obtain ⟨hd, hn⟩ := hd
  obtain ⟨Cn, T, x, owner, f1, f2, f3, f4, f5, f6, f7, f8, f9, f10⟩ := hm
  intro T9 hT X
  have hX := hR.x hE hS C.base hT X
  have hav : okV (vR a :: av) := okV_cons (okA_R _) (okV_rev (okV_app ho2).1)
  have hdecl : va_Decl s ⟨owner, x.name, x.desc⟩ := by
    rcases f10 with ⟨q1, b9, n9, r9, q2⟩ | q
    · exact va_Decl.of (C.hts _ q1) (C.hts _ q2)
    · exact va_Decl.abs (va_Nw.of rfl (C.hts _ q))
  have run := vx_runU (As := av.map (enc z)) (rest := st.map (enc z)) (b := zb z + a) (g := F0 m pc rls ((av.reverse ++ vR a :: st).map (enc z))) (e := e) (below := below) (meth := meth) (H := H) (locs := locs) (cells := cells) (slots := slots) ⟨C.1, C.2.1, C.2.2.1, C.own, C.hts⟩ (K z l C.rest.1 hav)
    (show va_CU R s args (mC y) Cn owner idx x (mN yc) (mB yc) (mL yc) (mR yc) _ (rmO d mc ms) mc ms k from ⟨⟨rfl, rfl, by have := C.fr.1; show d + 10 + 1 ≤ _; omega, by have := C.fr.2; have := f4.2.2.2.2; show 8 + (mL yc + 11) + (40 * d + 200) ≤ _; omega, f4.ws C.hts, List.mem_singleton.mpr rfl⟩, C.hts _ f4.1, C.hts _ f4.2.1, f8, fun sig hsg => f4.len sig (by rw [← f9]; exact hsg), C.hts _ f3, C.hts _ f7, hdecl, C.hts _ f6, C.hts _ f5⟩)
    ⟨PcO.blind, recvO C hR hg f2 f1, by rw [args_eq]; exact PcO.at C hX hS⟩ rfl (by rw [List.length_map]; exact hk) hL.2.1.1 (stk_eq z av a st) (enc_cats hst) hd ⟨by omega, by omega⟩
  exact inv_go hh hn hkc hks C hc hs hE hS hL ho1 (okV_tl (okV_app ho2).2) run T9 hT X
set_option maxHeartbeats 4000000 in
theorem R_invSg (hh : mH y = []) (hd : D y pc (.invokestatic idx) 3 n) (hm : MS (mC y) idx yc k) (hk : av.length = k) (hst : st.length ≤ 4) (hkc : mc ≤ kc) (hks : ms ≤ ks) (K : Call d mc ms yc av g h (Kon (d + 1) (kc - mc) (ks - ms) y n ls st g mc P)) : Run (d + 1) kc ks y pc ls (av.reverse ++ st) g h P := by
  intro z p l e R s m args below meth c H locs cells slots rls C hc hs hR hE hS hL ho1 ho2
  obtain ⟨hd, hn⟩ := hd
  obtain ⟨f3, f4, f5⟩ := hm
  intro T9 hT X
  have hX := hR.x hE hS C.base hT X
  have run := vx_runS (As := av.map (enc z)) (rest := st.map (enc z)) (g := F0 m pc rls ((av.reverse ++ st).map (enc z))) (e := e) (below := below) (meth := meth) (H := H) (locs := locs) (cells := cells) (slots := slots) ⟨C.1, C.2.1, C.2.2.1, C.own, C.hts⟩ (K z l C.rest.1 (okV_rev (okV_app ho2).1)) ⟨callBO C f4 f3, C.hts _ f5⟩ ⟨PcO.blind, PcO.at C hX hS⟩ rfl (by rw [List.length_map]; exact hk) hL.2.1.1 (by show List.map _ _ = _; rw [List.map_append, List.map_reverse]) (enc_cats hst) hd ⟨by omega, by omega⟩
  exact inv_go hh hn hkc hks C hc hs hE hS hL ho1 (okV_app ho2).2 run T9 hT X
set_option maxHeartbeats 4000000 in
theorem R_invIg {a : Nat} (hh : mH y = []) (hd : D y pc (.invokespecial idx) 3 n) (hm : MI (mC y) idx yc k) (hk : av.length = k) (hst : st.length ≤ 4) (hkc : mc ≤ kc) (hks : ms ≤ ks) (K : Call d mc ms yc (vR a :: av) g h (Kon (d + 1) (kc - mc) (ks - ms) y n ls st g mc P)) : Run (d + 1) kc ks y pc ls (av.reverse ++ vR a :: st) g h P := by
  intro z p l e R s m args below meth c H locs cells slots rls C hc hs hR hE hS hL ho1 ho2
  obtain ⟨hd, hn⟩ := hd
  obtain ⟨f3, f4, f5, f6, f7⟩ := hm
  intro T9 hT X
  have hX := hR.x hE hS C.base hT X
  have hav : okV (vR a :: av) := okV_cons (okA_R _) (okV_rev (okV_app ho2).1)
  have cb := callBO (mc := mc) (ms := ms) C f4 f3
  have K9 := K z l C.rest.1 hav
  rw [f7] at cb K9
  have run := vx_runI (As := av.map (enc z)) (rest := st.map (enc z)) (b := zb z + a) (g := F0 m pc rls ((av.reverse ++ vR a :: st).map (enc z))) (e := e) (below := below) (meth := meth) (H := H) (locs := locs) (cells := cells) (slots := slots) ⟨C.1, C.2.1, C.2.2.1, C.own, C.hts⟩ K9 ⟨cb, f6, C.hts _ f5⟩ ⟨PcO.blind, by rw [args_eq]; exact PcO.at C hX hS⟩ rfl (by rw [List.length_map]; exact hk) hL.2.1.1 (stk_eq z av a st) (enc_cats hst) hd ⟨by omega, by omega⟩
  exact inv_go hh hn hkc hks C hc hs hE hS hL ho1 (okV_tl (okV_app ho2).2) run T9 hT X
set_option maxHeartbeats 4000000 in
theorem R_invNg {a : Nat} (hh : mH y = []) (hd : D y pc (.invokespecial idx) 3 n) (hm : MN (mC y) idx yc k) (hk : av.length = k) (hst : st.length ≤ 4) (hkc : mc ≤ kc) (hks : ms ≤ ks) (K : Call d mc ms yc (vR a :: av) g h (Kon (d + 1) (kc - mc) (ks - ms) y n ls st g mc P)) : Run (d + 1) kc ks y pc ls (av.reverse ++ vR a :: st) g h P := by
  intro z p l e R s m args below meth c H locs cells slots rls C hc hs hR hE hS hL ho1 ho2
  obtain ⟨hd, hn⟩ := hd
  obtain ⟨host, f3, f4, f5, f6, f7⟩ := hm
  intro T9 hT X
  have hX := hR.x hE hS C.base hT X
  have hav : okV (vR a :: av) := okV_cons (okA_R _) (okV_rev (okV_app ho2).1)
  have K9 := K z l C.rest.1 hav
  have hcode := C.hts _ f4.1
  have hws := f4.ws C.hts
  rw [f7] at K9 hcode hws
  have run := vx_runIN (As := av.map (enc z)) (rest := st.map (enc z)) (b := zb z + a) (g := F0 m pc rls ((av.reverse ++ vR a :: st).map (enc z))) (e := e) (below := below) (meth := meth) (H := H) (locs := locs) (cells := cells) (slots := slots) ⟨C.1, C.2.1, C.2.2.1, C.own, C.hts⟩ K9
    ⟨(show va_CN R s args (mC y) idx (mN yc) host (mB yc) (mL yc) none _ (rmO d mc ms) mc ms k from ⟨⟨rfl, rfl, by have := C.fr.1; show d + 10 + 1 ≤ _; omega, by have := C.fr.2; have := f4.2.2.2.2; show 8 + (mL yc + 11) + (40 * d + 200) ≤ _; omega, hws, List.mem_singleton.mpr rfl⟩, hcode, C.hts _ f4.2.1, f4.2.2.1, f4.len, C.hts _ f3⟩), f6, C.hts _ f5⟩
    ⟨PcO.blind, by rw [args_eq]; exact PcO.at C hX hS⟩ rfl (by rw [List.length_map]; exact hk) hL.2.1.1 (stk_eq z av a st) (enc_cats hst) hd ⟨by omega, by omega⟩
  exact inv_go hh hn hkc hks C hc hs hE hS hL ho1 (okV_tl (okV_app ho2).2) run T9 hT X
end
