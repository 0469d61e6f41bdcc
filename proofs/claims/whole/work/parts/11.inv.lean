/-! THE RULES OF CALLS -/
/-- what comes behind a call: nothing new lies in the heap that isn't counted; a value on the stack, or none, or the throw goes on -/
def Kon (d kc ks : Nat) (y : Mth) (n : Nat) (ls st : List AV) (g : Gs) (mc : Nat) (P : Po) : Po := fun o g' h' => (g'.2.1 = 0 → g.2.1 = 0 ∧ g'.1.length = g.1.length + mc) ∧ (match o with
  | .inl none => Run d kc ks y n ls st g' h' P
  | .inl (some v) => Run d kc ks y n ls (v :: st) g' h' P
  | .inr E => P (.inr E) g' h')
theorem catsum (z : Zw) : ∀ st : List AV, ((st.map (enc z)).map fun v => v.category).sum ≤ 2 * st.length := by
  intro st
  induction st with
  | nil => exact Nat.le_refl _
  | cons v r ih =>
    simp only [List.map_cons, List.sum_cons, List.length_cons]
    have : (enc z v).category ≤ 2 := by rcases lv_cat (enc z v) with h | h <;> omega
    omega
theorem enc_cats {z : Zw} {st : List AV} (h : st.length ≤ 4) {m : MethodId} {pc : Nat} {ls : Array Slot} {rest : List Value} : 2 * (F0 m pc ls rest).monitorRoom + ((st.map (enc z)).map fun v => v.category).sum ≤ 8 := lv_room (Nat.le_trans (catsum z st) (by omega))
set_option maxHeartbeats 4000000 in
theorem inv_go {d kc ks mc ms : Nat} {y : Mth} {pc n : Nat} {ls st : List AV} {g : Gs} {P : Po} {z : Zw} {p : Program} {l : Launch} {e : Env} {R : Room} {s : State} {m : MethodId} {args a : Array Value} {below : List Frame} {meth : Method} {c : Code} {H : Heap} {locs : List Loc} {cells slots : Nat} {rls : Array Slot} {stk : List Value}
    (hh : mH y = []) (hn : pc + 3 = n) (hkc : mc ≤ kc) (hks : ms ≤ ks) (C : Cx d y z p l R s m args meth c) (hc : cells + kc ≤ R.cells) (hs : slots + ks ≤ R.slots) (hE : g.2.1 = 0 → s.heap.size + cells = zb z + g.1.length) (hS : va_S (zR z) s.heap H locs) (hL : LRep z ls rls (mL y)) (ho1 : okV ls) (ho2 : okV st)
    (run : vx_Run p l e R s m args below meth c H locs cells slots mc ms (F0 m pc rls stk) (st.map (enc z)) (QcO z (Kon d (kc - mc) (ks - ms) y n ls st g mc P) a) (XCO z (Kon d (kc - mc) (ks - ms) y n ls st g mc P)) (zR z)) :
    W p l e R s m args below meth c H locs cells slots (vx_MQ below (QcO z P) (XCO z P) args s R.cells R.slots (zR z)) (F0 m pc rls stk) := by
  subst hn
  intro T hT X
  have hS2 : ∀ (st0 t : State) (L : List Loc), st0.heap = H → va_F (zR z) st0 t → (∀ q ∈ L, zR z q.base) → va_S (zR z) s.heap t.heap (locs ++ L) := by
    intro st0 t L e1 hF hL9
    refine ⟨Nat.le_trans hS.1 (by rw [← e1]; exact hF.1), fun q h1 h2 => ?_, fun q hq => ?_⟩
    · rw [hF.2 q (by rw [e1]; exact Nat.lt_of_lt_of_le h1 hS.1) h2, e1]
      exact hS.2.1 q h1 h2
    · rcases List.mem_append.mp hq with h | h
      · exact hS.2.2 q h
      · exact hL9 q h
  have hE2 : ∀ g' : Gs, (g'.2.1 = 0 → g.2.1 = 0 ∧ g'.1.length = g.1.length + mc) → (g'.2.1 = 0 → s.heap.size + (cells + mc) = zb z + g'.1.length) := by
    intro g' h1 h2
    obtain ⟨h3, h4⟩ := h1 h2
    have := hE h3
    omega
  rcases run T hT X with ⟨v, st0, t, T', L, e1, X', hL9, e2, e3, ⟨⟨r, g', h', hv, hok, hX9, hk, hr⟩, hF⟩, go⟩ | ⟨q, st0, t, T', L, E, ce, e1, X', hL9, e2, e3, ⟨⟨g', h', hX9, hk, hr⟩, hF⟩, hce, hvm, hcl, go⟩
  · cases hv
    cases r with
    | none =>
      obtain ⟨t2, a1, b1⟩ := hr z p l e R s m args below meth c t.heap (locs ++ L) (cells + mc) (slots + ms) rls C (by omega) (by omega) hX9.1 (hE2 g' hk) (hS2 st0 t L e1 hF hL9) hL ho1 ho2 T' e2 X'
      exact ⟨t2, go t2 a1, b1⟩
    | some v =>
      obtain ⟨t2, a1, b1⟩ := hr z p l e R s m args below meth c t.heap (locs ++ L) (cells + mc) (slots + ms) rls C (by omega) (by omega) hX9.1 (hE2 g' hk) (hS2 st0 t L e1 hF hL9) hL ho1 (okV_cons (hok v rfl) ho2) T' e2 X'
      exact ⟨t2, go t2 a1, b1⟩
  · have hS9 := hS2 st0 t L e1 hF hL9
    have out := vx_out (p := p) (l := l) (e := e) (R := R) (s := s) (m := m) (args := args) (below := below) (meth := meth) (c := c) (H := t.heap) (locs := locs ++ L) (cells := cells + mc) (slots := slots + ms) (Qc := QcO z P) (XC := XCO z P) (free := zR z) (ls := rls) (rest := st.map (enc z)) (pc := pc) (E := E) (ce := ce) (q := q) (mc := R.cells) (ms := R.slots)
      (fun x hx => by rw [C.rest.2.1, hh] at hx; cases hx) C.2.2.2.2.1 hce hvm hcl (fun t2 ht2 hal => ⟨⟨g', h', by rw [ht2]; exact hX9, hr⟩, hS9.F ht2⟩) hS9.2.2 (by omega) (by omega)
    obtain ⟨t2, a1, b1⟩ := out T' e2 X'
    exact ⟨t2, Steps.trans go a1, b1⟩
