/-! NEW CELLS, SWITCHES -/
/-- a new cell, its references null, its numbers 0 -/
def newH (h : Hc) (k : Nat) : Hc := setH h k (fun _ => 0)
def NW (own : String) (idx ci N : Nat) : Prop := ∃ (Cn : String) (T : u_T) (ty0 : Nat → FieldType), vwCl[ci]? = some (Cn, T, N) ∧ ci < 12 ∧ (∀ w ∈ u_ws Cn T N, w ∈ lwg) ∧ (∀ k, k < N → parseFieldDescriptor (T k).2.2.1 = some (ty0 k)) ∧ Cond.classLink own idx Cn ∈ lwg ∧ Cond.instantiable Cn N ∈ lwg ∧ Cond.initialized Cn ∈ lwg ∧ ∀ j, j < N → defaultValue (ty0 j) = if fkR ci j then .null else .int 0
theorem okH_push {g : List Sh} {h : Hc} (ho : okH g h) (c : Sh) : okH (g ++ [c]) (newH h g.length) := by
  intro k c' hk
  unfold newH setH
  by_cases e : k = g.length
  · simp only [if_pos e]
    intro j
    by_cases e2 : c'.1 = 14
    · rw [if_pos e2]; show in64 0; unfold in64; omega
    · rw [if_neg e2]; show in32 0; unfold in32; omega
  · simp only [if_neg e]
    have hlt : k < g.length := by
      have := (List.getElem?_eq_some_iff.mp hk).1
      rw [List.length_append] at this
      simp at this
      omega
    rw [List.getElem?_append_left hlt] at hk
    exact ho k c' hk
theorem rfO_m1 (z : Zw) : rfO z (-1) = none := rfl
theorem getD_rep (N j : Nat) : (List.replicate N (-1 : Int)).getD j (-1) = -1 := by
  rw [List.getD_eq_getElem?_getD]
  by_cases h : j < N
  · rw [List.getElem?_replicate, if_pos h]; rfl
  · rw [List.getElem?_eq_none (by simp; omega)]; rfl
section
variable {d kc ks : Nat} {y : Mth} {pc n t : Nat} {ls st : List AV} {g : Gs} {h : Hc} {P : Po}
set_option maxHeartbeats 4000000 in
theorem R_new {idx ci N : Nat} (hd : D y pc (.new idx) 3 n) (hn : NW (mC y) idx ci N) (h0 : g.2.1 = 0) (K : Run d kc ks y n ls (vR g.1.length :: st) (g.1 ++ [(ci, N, List.replicate N (-1))], g.2) (newH h g.1.length) P) : Run d (kc + 1) (ks + N) y pc ls st g h P := by
  intro z p l e R s m args below meth c H locs cells slots rls C hc hs hR hE hS hL ho1 ho2
  obtain ⟨hd, rfl⟩ := hd
  obtain ⟨Cn, T, ty0, f1, f2, f3, f4, f5, f6, f7, f8⟩ := hn
  intro T9 hT X
  have hX := (hR.x hE hS C.base hT X).2 h0
  have hKn := C.K.1 ci _ f1
  refine W.newcK (g := F0 m pc rls (st.map (enc z))) (n := N) C.1 C.2.1 C.own (C.hts _ f5) (C.hts _ f6) (C.hts _ f7) rfl hd (by omega) (by omega) hKn.2.1 rfl (fun H1 kC hkC e1 z1 o1 => ?_) T9 hT X
  have hk : ∀ (k : Nat) (x : Nat × va_E), (wsO z g.1 h)[k]? = some x → H1[x.1]? = H[x.1]? := fun k x hx => o1 x.1 ((hR.1 k x hx).lt)
  have hS1 : va_S (zR z) s.heap H1 locs := ⟨Nat.le_trans hS.1 (by omega), fun x h1 h2 => (o1 x (Nat.lt_of_lt_of_le h1 hS.1)).trans (hS.2.1 x h1 h2), hS.2.2⟩
  have hcell : va_P (zD z) vwCl [(zb z + g.1.length, encC z (fun _ => 0) (ci, N, List.replicate N (-1)))] H1 := by
    intro k x hx
    have hz : k < 1 := (List.getElem?_eq_some_iff.mp hx).1
    rw [show k = 0 by omega] at hx
    cases hx
    rw [encC_obj f2, ← hX]
    refine ⟨_, f1, (u_born ty0 C.hts f3 hKn hkC e1 f4).to fun j hj => ?_⟩
    show _ = vp_V _ j
    unfold vp_V
    rw [List.getD_eq_getElem?_getD, rng_get hj, Option.getD_some, f8 j hj]
    unfold encF
    rw [getD_rep, rfO_m1]
    split <;> rfl
  have hP1 : va_P (zD z) vwCl (wsO z (g.1 ++ [(ci, N, List.replicate N (-1))]) (newH h g.1.length)) H1 := by
    unfold newH
    rw [← wsO_push]
    exact (hR.1.kept hk).app hcell
  have k9 := K z p l e R s m args below meth c H1 locs (cells + 1) (slots + N) rls C (by omega) (by omega) ⟨hP1, okH_push hR.2.1 _, hR.2.2⟩ (fun _ => by have := hE h0; rw [List.length_append]; simp; omega) hS1 hL ho1 (okV_cons (okA_R _) ho2)
  rw [List.map_cons, enc_vR, ← hX] at k9
  exact k9
set_option maxHeartbeats 4000000 in
theorem R_newI {N : Nat} (hd : D y pc (.newarray .int) 2 n) (hw : Cond.arrayClass .int ∈ lwg) (hN : N ≤ 60000000) (h0 : g.2.1 = 0) (K : Run d kc ks y n ls (vR g.1.length :: st) (g.1 ++ [(13, N, [])], g.2) (newH h g.1.length) P) : Run d (kc + 1) (ks + N) y pc ls (vI (N : Int) :: st) g h P := by
  intro z p l e R s m args below meth c H locs cells slots rls C hc hs hR hE hS hL ho1 ho2
  obtain ⟨hd, rfl⟩ := hd
  intro T9 hT X
  have hX := (hR.x hE hS C.base hT X).2 h0
  have hi : in32 (N : Int) := by unfold in32; omega
  have hcl : (Int32.ofInt (N : Int)).toNatClampNeg = N := by rw [clamp32 (by omega) hi]; omega
  have hnn : ¬ Int32.ofInt (N : Int) < 0 := fun q => absurd ((lt32 (b := 0) hi (by unfold in32; omega)).mp q) (by omega)
  rw [List.map_cons]
  refine va_newaK (atype := .int) (g := F0 m pc rls (.int (Int32.ofInt (N : Int)) :: st.map (enc z))) C.1 C.2.1 (C.hts _ hw) rfl hd rfl hnn hcl (by show N * 4 ≤ _; omega) (by omega) (by omega) rfl (fun H1 cA e1 z1 o1 hAr hNm => ?_) T9 hT X
  have hcA : cA = zA z 1 := Option.some.inj (hNm.symm.trans (C.K.2 1 _ rfl).2)
  subst hcA
  have hk : ∀ (k : Nat) (x : Nat × va_E), (wsO z g.1 h)[k]? = some x → H1[x.1]? = H[x.1]? := fun k x hx => o1 x.1 ((hR.1 k x hx).lt)
  have hS1 : va_S (zR z) s.heap H1 locs := ⟨Nat.le_trans hS.1 (by omega), fun x h1 h2 => (o1 x (Nat.lt_of_lt_of_le h1 hS.1)).trans (hS.2.1 x h1 h2), hS.2.2⟩
  have hcell : va_P (zD z) vwCl [(zb z + g.1.length, encC z (fun _ => 0) (13, N, []))] H1 := by
    intro k x hx
    have hz : k < 1 := (List.getElem?_eq_some_iff.mp hx).1
    rw [show k = 0 by omega] at hx
    cases hx
    rw [← hX]
    exact e1
  have hP1 : va_P (zD z) vwCl (wsO z (g.1 ++ [(13, N, [])]) (newH h g.1.length)) H1 := by
    unfold newH
    rw [← wsO_push]
    exact (hR.1.kept hk).app hcell
  have k9 := K z p l e R s m args below meth c H1 locs (cells + 1) (slots + N) rls C (by omega) (by omega) ⟨hP1, okH_push hR.2.1 _, hR.2.2⟩ (fun _ => by have := hE h0; rw [List.length_append]; simp; omega) hS1 hL ho1 (okV_cons (okA_R _) (okV_tl ho2))
  rw [List.map_cons, enc_vR, ← hX] at k9
  exact k9
set_option maxHeartbeats 4000000 in
theorem R_newJ {N : Nat} (hd : D y pc (.newarray .long) 2 n) (hw : Cond.arrayClass .long ∈ lwg) (hN : N ≤ 60000000) (h0 : g.2.1 = 0) (K : Run d kc ks y n ls (vR g.1.length :: st) (g.1 ++ [(14, N, [])], g.2) (newH h g.1.length) P) : Run d (kc + 1) (ks + N) y pc ls (vI (N : Int) :: st) g h P := by
  intro z p l e R s m args below meth c H locs cells slots rls C hc hs hR hE hS hL ho1 ho2
  obtain ⟨hd, rfl⟩ := hd
  intro T9 hT X
  have hX := (hR.x hE hS C.base hT X).2 h0
  have hi : in32 (N : Int) := by unfold in32; omega
  have hcl : (Int32.ofInt (N : Int)).toNatClampNeg = N := by rw [clamp32 (by omega) hi]; omega
  have hnn : ¬ Int32.ofInt (N : Int) < 0 := fun q => absurd ((lt32 (b := 0) hi (by unfold in32; omega)).mp q) (by omega)
  rw [List.map_cons]
  refine va_newaK (atype := .long) (g := F0 m pc rls (.int (Int32.ofInt (N : Int)) :: st.map (enc z))) C.1 C.2.1 (C.hts _ hw) rfl hd rfl hnn hcl (by show N * 8 ≤ _; omega) (by omega) (by omega) rfl (fun H1 cA e1 z1 o1 hAr hNm => ?_) T9 hT X
  have hcA : cA = zA z 2 := Option.some.inj (hNm.symm.trans (C.K.2 2 _ rfl).2)
  subst hcA
  have hk : ∀ (k : Nat) (x : Nat × va_E), (wsO z g.1 h)[k]? = some x → H1[x.1]? = H[x.1]? := fun k x hx => o1 x.1 ((hR.1 k x hx).lt)
  have hS1 : va_S (zR z) s.heap H1 locs := ⟨Nat.le_trans hS.1 (by omega), fun x h1 h2 => (o1 x (Nat.lt_of_lt_of_le h1 hS.1)).trans (hS.2.1 x h1 h2), hS.2.2⟩
  have hcell : va_P (zD z) vwCl [(zb z + g.1.length, encC z (fun _ => 0) (14, N, []))] H1 := by
    intro k x hx
    have hz : k < 1 := (List.getElem?_eq_some_iff.mp hx).1
    rw [show k = 0 by omega] at hx
    cases hx
    rw [← hX]
    exact e1
  have hP1 : va_P (zD z) vwCl (wsO z (g.1 ++ [(14, N, [])]) (newH h g.1.length)) H1 := by
    unfold newH
    rw [← wsO_push]
    exact (hR.1.kept hk).app hcell
  have k9 := K z p l e R s m args below meth c H1 locs (cells + 1) (slots + N) rls C (by omega) (by omega) ⟨hP1, okH_push hR.2.1 _, hR.2.2⟩ (fun _ => by have := hE h0; rw [List.length_append]; simp; omega) hS1 hL ho1 (okV_cons (okA_R _) (okV_tl ho2))
  rw [List.map_cons, enc_vR, ← hX] at k9
  exact k9
set_option maxHeartbeats 4000000 in
theorem R_newB {N : Nat} (hd : D y pc (.newarray .byte) 2 n) (hw : Cond.arrayClass .byte ∈ lwg) (hN : N ≤ 60000000) (h0 : g.2.1 = 0) (K : Run d kc ks y n ls (vR g.1.length :: st) (g.1 ++ [(12, N, [])], g.2) (newH h g.1.length) P) : Run d (kc + 1) (ks + N) y pc ls (vI (N : Int) :: st) g h P := by
  intro z p l e R s m args below meth c H locs cells slots rls C hc hs hR hE hS hL ho1 ho2
  obtain ⟨hd, rfl⟩ := hd
  intro T9 hT X
  have hX := (hR.x hE hS C.base hT X).2 h0
  have hi : in32 (N : Int) := by unfold in32; omega
  have hcl : (Int32.ofInt (N : Int)).toNatClampNeg = N := by rw [clamp32 (by omega) hi]; omega
  have hnn : ¬ Int32.ofInt (N : Int) < 0 := fun q => absurd ((lt32 (b := 0) hi (by unfold in32; omega)).mp q) (by omega)
  rw [List.map_cons]
  refine va_newaK (atype := .byte) (g := F0 m pc rls (.int (Int32.ofInt (N : Int)) :: st.map (enc z))) C.1 C.2.1 (C.hts _ hw) rfl hd rfl hnn hcl (by show N * 1 ≤ _; omega) (by omega) (by omega) rfl (fun H1 cA e1 z1 o1 hAr hNm => ?_) T9 hT X
  have hcA : cA = zA z 0 := Option.some.inj (hNm.symm.trans (C.K.2 0 _ rfl).2)
  subst hcA
  have hk : ∀ (k : Nat) (x : Nat × va_E), (wsO z g.1 h)[k]? = some x → H1[x.1]? = H[x.1]? := fun k x hx => o1 x.1 ((hR.1 k x hx).lt)
  have hS1 : va_S (zR z) s.heap H1 locs := ⟨Nat.le_trans hS.1 (by omega), fun x h1 h2 => (o1 x (Nat.lt_of_lt_of_le h1 hS.1)).trans (hS.2.1 x h1 h2), hS.2.2⟩
  have hcell : va_P (zD z) vwCl [(zb z + g.1.length, encC z (fun _ => 0) (12, N, []))] H1 := by
    intro k x hx
    have hz : k < 1 := (List.getElem?_eq_some_iff.mp hx).1
    rw [show k = 0 by omega] at hx
    cases hx
    rw [← hX]
    exact e1
  have hP1 : va_P (zD z) vwCl (wsO z (g.1 ++ [(12, N, [])]) (newH h g.1.length)) H1 := by
    unfold newH
    rw [← wsO_push]
    exact (hR.1.kept hk).app hcell
  have k9 := K z p l e R s m args below meth c H1 locs (cells + 1) (slots + N) rls C (by omega) (by omega) ⟨hP1, okH_push hR.2.1 _, hR.2.2⟩ (fun _ => by have := hE h0; rw [List.length_append]; simp; omega) hS1 hL ho1 (okV_cons (okA_R _) (okV_tl ho2))
  rw [List.map_cons, enc_vR, ← hX] at k9
  exact k9
set_option maxHeartbeats 4000000 in
theorem R_newZ {N : Nat} (hd : D y pc (.newarray .boolean) 2 n) (hw : Cond.arrayClass .boolean ∈ lwg) (hN : N ≤ 60000000) (h0 : g.2.1 = 0) (K : Run d kc ks y n ls (vR g.1.length :: st) (g.1 ++ [(15, N, [])], g.2) (newH h g.1.length) P) : Run d (kc + 1) (ks + N) y pc ls (vI (N : Int) :: st) g h P := by
  intro z p l e R s m args below meth c H locs cells slots rls C hc hs hR hE hS hL ho1 ho2
  obtain ⟨hd, rfl⟩ := hd
  intro T9 hT X
  have hX := (hR.x hE hS C.base hT X).2 h0
  have hi : in32 (N : Int) := by unfold in32; omega
  have hcl : (Int32.ofInt (N : Int)).toNatClampNeg = N := by rw [clamp32 (by omega) hi]; omega
  have hnn : ¬ Int32.ofInt (N : Int) < 0 := fun q => absurd ((lt32 (b := 0) hi (by unfold in32; omega)).mp q) (by omega)
  rw [List.map_cons]
  refine va_newaK (atype := .boolean) (g := F0 m pc rls (.int (Int32.ofInt (N : Int)) :: st.map (enc z))) C.1 C.2.1 (C.hts _ hw) rfl hd rfl hnn hcl (by show N * 1 ≤ _; omega) (by omega) (by omega) rfl (fun H1 cA e1 z1 o1 hAr hNm => ?_) T9 hT X
  have hcA : cA = zA z 3 := Option.some.inj (hNm.symm.trans (C.K.2 3 _ rfl).2)
  subst hcA
  have hk : ∀ (k : Nat) (x : Nat × va_E), (wsO z g.1 h)[k]? = some x → H1[x.1]? = H[x.1]? := fun k x hx => o1 x.1 ((hR.1 k x hx).lt)
  have hS1 : va_S (zR z) s.heap H1 locs := ⟨Nat.le_trans hS.1 (by omega), fun x h1 h2 => (o1 x (Nat.lt_of_lt_of_le h1 hS.1)).trans (hS.2.1 x h1 h2), hS.2.2⟩
  have hcell : va_P (zD z) vwCl [(zb z + g.1.length, encC z (fun _ => 0) (15, N, []))] H1 := by
    intro k x hx
    have hz : k < 1 := (List.getElem?_eq_some_iff.mp hx).1
    rw [show k = 0 by omega] at hx
    cases hx
    rw [← hX]
    exact e1
  have hP1 : va_P (zD z) vwCl (wsO z (g.1 ++ [(15, N, [])]) (newH h g.1.length)) H1 := by
    unfold newH
    rw [← wsO_push]
    exact (hR.1.kept hk).app hcell
  have k9 := K z p l e R s m args below meth c H1 locs (cells + 1) (slots + N) rls C (by omega) (by omega) ⟨hP1, okH_push hR.2.1 _, hR.2.2⟩ (fun _ => by have := hE h0; rw [List.length_append]; simp; omega) hS1 hL ho1 (okV_cons (okA_R _) (okV_tl ho2))
  rw [List.map_cons, enc_vR, ← hX] at k9
  exact k9
set_option maxHeartbeats 4000000 in
theorem R_anew {idx N : Nat} (hd : D y pc (.anewarray idx) 3 n) (hcl : Cond.classLink (mC y) idx "HungryBench$Town" ∈ lwg) (hw : Cond.arrayOver (.object "HungryBench$Town") ∈ lwg) (hN : N ≤ 60000000) (h0 : g.2.1 = 0) (K : Run d kc ks y n ls (vR g.1.length :: st) (g.1 ++ [(16, N, List.replicate N (-1))], g.2) (newH h g.1.length) P) : Run d (kc + 1) (ks + N) y pc ls (vI (N : Int) :: st) g h P := by
  intro z p l e R s m args below meth c H locs cells slots rls C hc hs hR hE hS hL ho1 ho2
  obtain ⟨hd, rfl⟩ := hd
  intro T9 hT X
  have hX := (hR.x hE hS C.base hT X).2 h0
  have hi : in32 (N : Int) := by unfold in32; omega
  have hcl2 : (Int32.ofInt (N : Int)).toNatClampNeg = N := by rw [clamp32 (by omega) hi]; omega
  have hnn : ¬ Int32.ofInt (N : Int) < 0 := fun q => absurd ((lt32 (b := 0) hi (by unfold in32; omega)).mp q) (by omega)
  rw [List.map_cons]
  refine W.anew (g := F0 m pc rls (.int (Int32.ofInt (N : Int)) :: st.map (enc z))) C.1 C.2.1 C.own (C.hts _ hcl) (va_AO.use (va_AO.of (C.hts _ hw))) rfl hd rfl hnn (by rw [hcl2]; omega) (by omega) (by rw [hcl2]; omega) (fun cA kA comp f1 f2 f3 f4 => ?_) T9 hT X
  have hcA : cA = zA z 4 := by
    obtain ⟨kA', comp', r1, r2, r3, r4⟩ := (C.K.2 4 _ rfl).2
    exact Option.some.inj (f1.symm.trans r4)
  subst hcA
  rw [hcl2]
  generalize hH1 : H.push ({ cls := zA z 4, slots := Array.replicate N .null, vm := .none } : Cell) = H1
  have z1 : H1.size = H.size + 1 := by rw [← hH1, Array.size_push]
  have e1 : H1[H.size]? = some (arrV (zA z 4) N (fun _ => .null)) := by rw [← hH1, Array.getElem?_push_size, ← arrV_new]
  have o1 : ∀ q : Nat, q < H.size → H1[q]? = H[q]? := fun q hq => by rw [← hH1, Array.getElem?_push, if_neg (Nat.ne_of_lt hq)]
  have hk : ∀ (k : Nat) (x : Nat × va_E), (wsO z g.1 h)[k]? = some x → H1[x.1]? = H[x.1]? := fun k x hx => o1 x.1 ((hR.1 k x hx).lt)
  have hS1 : va_S (zR z) s.heap H1 locs := ⟨Nat.le_trans hS.1 (by omega), fun x h1 h2 => (o1 x (Nat.lt_of_lt_of_le h1 hS.1)).trans (hS.2.1 x h1 h2), hS.2.2⟩
  have hcell : va_P (zD z) vwCl [(zb z + g.1.length, encC z (fun _ => 0) (16, N, List.replicate N (-1)))] H1 := by
    intro k x hx
    have hz : k < 1 := (List.getElem?_eq_some_iff.mp hx).1
    rw [show k = 0 by omega] at hx
    cases hx
    rw [← hX, encC_refs]
    show H1[H.size]? = some (vp_cell _ _)
    rw [e1, vp_cell_q]
    congr 2
    funext i
    rw [getD_rep, rfO_m1]
    rfl
  have hP1 : va_P (zD z) vwCl (wsO z (g.1 ++ [(16, N, List.replicate N (-1))]) (newH h g.1.length)) H1 := by
    unfold newH
    rw [← wsO_push]
    exact (hR.1.kept hk).app hcell
  have k9 := K z p l e R s m args below meth c H1 locs (cells + 1) (slots + N) rls C (by omega) (by omega) ⟨hP1, okH_push hR.2.1 _, hR.2.2⟩ (fun _ => by have := hE h0; rw [List.length_append]; simp; omega) hS1 hL ho1 (okV_cons (okA_R _) (okV_tl ho2))
  rw [List.map_cons, enc_vR, ← hX] at k9
  exact k9
/-- a cell's references changed -/
theorem wsO_setG {z : Zw} {g : List Sh} {h : Hc} {k : Nat} {c c' : Sh} (hk : g[k]? = some c) : (wsO z g h).set k (zb z + k, encC z (h k) c') = wsO z (g.set k c') h := by
  have hlt := (List.getElem?_eq_some_iff.mp hk).1
  refine List.ext_getElem? fun j => ?_
  by_cases e : j = k
  · subst e
    rw [List.getElem?_set_self (by rw [wsO_len]; exact hlt), wsO_get (c := c') (by rw [List.getElem?_set_self hlt])]
  · rw [List.getElem?_set_ne (Ne.symm e)]
    cases hj : g[j]? with
    | none => rw [wsO_none (List.getElem?_eq_none_iff.mp hj), wsO_none (by rw [List.length_set]; exact List.getElem?_eq_none_iff.mp hj)]
    | some cj => rw [wsO_get hj, wsO_get (c := cj) (by rw [List.getElem?_set_ne (Ne.symm e)]; exact hj)]
theorem okH_setG {g : List Sh} {h : Hc} (ho : okH g h) {k : Nat} {c c' : Sh} (hk : g[k]? = some c) (hc : c'.1 = c.1) : okH (g.set k c') h := by
  intro j cj hj
  by_cases e : j = k
  · subst e
    rw [List.getElem?_set_self (List.getElem?_eq_some_iff.mp hk).1] at hj
    cases hj
    intro i
    have := ho j c hk i
    rw [hc]
    exact this
  · rw [List.getElem?_set_ne (Ne.symm e)] at hj
    exact ho j cj hj
theorem getD_set {rs : List Int} {k j : Nat} {v : Int} (hk : k < rs.length) : (rs.set k v).getD j (-1) = if j = k then v else rs.getD j (-1) := by
  rw [List.getD_eq_getElem?_getD, List.getD_eq_getElem?_getD]
  by_cases e : j = k
  · subst e
    rw [List.getElem?_set_self hk, if_pos rfl]
    rfl
  · rw [List.getElem?_set_ne (Ne.symm e), if_neg e]
theorem fits_ref {ty : FieldType} (hty : ty.isReference = true) (q : Nat) : narrow ty (.ref q) = .ref q ∧ fits ty (.ref q) = true := by
  cases ty <;> first | (cases hty; done) | exact ⟨rfl, rfl⟩
set_option maxHeartbeats 4000000 in
theorem R_putR {idx ci k N a b : Nat} {rs : List Int} {ty : FieldType} (hd : D y pc (.putfield idx) 3 n) (hf : FPW (mC y) idx ci k N true ty true) (hty : ty.isReference = true) (hin : (mN y).name = "<init>") (hg : g.1[a]? = some (ci, N, rs)) (hrs : rs.length = N) (K : Run d kc ks y n ls st (g.1.set a (ci, N, rs.set k (b : Int)), g.2) h P) : Run d kc ks y pc ls (vR b :: vR a :: st) g h P := by
  intro z p l e R s m args below meth c H locs cells slots rls C hc hs hR hE hS hL ho1 ho2
  obtain ⟨hd, rfl⟩ := hd
  obtain ⟨C9, T, ref, ty0, f1, f2, f3, f4, f5, f6, f7, f8, f9, f10, f11, f12⟩ := hf
  have e9 := wsO_get (z := z) (h := h) hg
  rw [encC_obj f4] at e9
  rw [List.map_cons, List.map_cons, enc_vR, enc_vR]
  have hfr := fits_ref hty (zb z + b)
  refine va_putF (T := T) C.1 C.2.1 C.hts f5 ty0 f8 f9 C.own C.K hR.1 wsO_D hS a e9 f1 k f2 (C.hts _ f6) ?_ f10 (C.rest.2.2.trans hin) (f12 rfl) f11 hfr.1 hfr.2 (by simp; exact f2) hd (fun H1 locs1 hP1 hD1 hS1 => ?_)
  · rcases f7 with rfl | f7
    · exact fun _ h => h
    · exact fun x hx => u_same (C.hts _ f7) x hx
  · refine K z p l e R s m args below meth c H1 locs1 cells slots rls C hc hs ⟨?_, okH_setG hR.2.1 hg rfl, hR.2.2⟩ (fun e0 => by rw [List.length_set]; exact hE e0) hS1 hL ho1 (okV_tl (okV_tl ho2))
    show va_P (zD z) vwCl (wsO z (g.1.set a (ci, N, rs.set k (b : Int))) h) H1
    rw [← wsO_setG hg, encC_obj f4, ← rng_set (F := encF z ci rs (h a)) (v := .ref (zb z + b)) f2 (by unfold encF; rw [f3, getD_set (by omega), if_pos rfl, if_pos rfl, rfO_nat]; rfl) (fun j hj => by unfold encF; rw [getD_set (by omega), if_neg hj])]
    exact hP1
set_option maxHeartbeats 4000000 in
theorem R_aast {a b N N2 : Nat} {rs rs2 : List Int} {i : Int} (hd : D y pc .aastore 1 n) (hg : g.1[a]? = some (16, N, rs)) (hrs : rs.length = N) (hg2 : g.1[b]? = some (9, N2, rs2)) (h0 : 0 ≤ i) (h1 : i < (N : Int)) (K : Run d kc ks y n ls st (g.1.set a (16, N, rs.set i.toNat (b : Int)), g.2) h P) : Run d kc ks y pc ls (vR b :: vI i :: vR a :: st) g h P := by
  intro z p l e R s m args below meth c H locs cells slots rls C hc hs hR hE hS hL ho1 ho2
  obtain ⟨hd, rfl⟩ := hd
  have hi := (okV_hd (okV_tl ho2)).i
  have e9 := wsO_get (z := z) (h := h) hg
  have e8 := wsO_get (z := z) (h := h) hg2
  rw [encC_obj (by omega)] at e8
  rw [encC_refs] at e9
  rw [List.map_cons, List.map_cons, List.map_cons, enc_vR, enc_vR]
  refine va_astq C.1 C.2.1 C.K hR.1 wsO_D hS a 4 b 9 (r := (RX10, TX10, 20)) e9 rfl e8 rfl (vin32 h0 hi h1) hd (fun H1 locs1 hP1 hD1 hS1 => ?_)
  refine K z p l e R s m args below meth c H1 locs1 cells slots rls C hc hs ⟨?_, okH_setG hR.2.1 hg rfl, hR.2.2⟩ (fun e0 => by rw [List.length_set]; exact hE e0) hS1 hL ho1 (okV_tl (okV_tl (okV_tl ho2)))
  show va_P (zD z) vwCl (wsO z (g.1.set a (16, N, rs.set i.toNat (b : Int))) h) H1
  rw [clamp32 h0 hi] at hP1
  rw [← wsO_setG hg, encC_refs]
  rw [show (fun j => rfO z ((rs.set i.toNat (b : Int)).getD j (-1))) = va_up (fun j => rfO z (rs.getD j (-1))) i.toNat (some (zb z + b)) from by
    funext j
    rw [getD_set (by omega)]
    by_cases e : j = i.toNat
    · subst e
      rw [if_pos rfl, rfO_nat, va_up_self]
    · rw [if_neg e, va_up_ne _ _ e]]
  exact hP1
theorem R_tsw {dflt lo hi : Int} {offs : Array Int} {len : Nat} {a : Int} {tt : Nat} (hd : D y pc (.tableswitch dflt lo hi offs) len n) (ht : (if a < lo ∨ hi < a then (pc : Int) + dflt else (pc : Int) + offs.getD (a - lo).toNat dflt) = (tt : Int)) (hsz : hi - lo < offs.size) (K : Run d kc ks y tt ls st g h P) : Run d kc ks y pc ls (vI a :: st) g h P := by
  intro z p l e R s m args below meth c H locs cells slots rls C hc hs hR hE hS hL ho1 ho2
  obtain ⟨hd, rfl⟩ := hd
  have ha := (okV_hd ho2).i
  have k9 := K z p l e R s m args below meth c H locs cells slots rls C hc hs hR hE hS hL ho1 (okV_tl ho2)
  by_cases q : a < lo ∨ hi < a
  · rw [if_pos q] at ht
    exact lv_tableOut C.1 C.2.1 hd (x := Int32.ofInt a) (by rw [toInt_ofInt32 ha]; exact q) ht k9
  · rw [if_neg q] at ht
    have hlt : (a - lo).toNat < offs.size := by omega
    refine lv_tableIn C.1 C.2.1 hd (x := Int32.ofInt a) (off := offs.getD (a - lo).toNat dflt) (by rw [toInt_ofInt32 ha]; omega) (by rw [toInt_ofInt32 ha]; omega) ?_ ht k9
    rw [toInt_ofInt32 ha, Array.getElem?_eq_getElem hlt, Array.getD, dif_pos hlt]
    rfl
theorem R_lsw {dflt : Int} {ps : Array (Int × Int)} {len : Nat} {a : Int} {tt : Nat} (hd : D y pc (.lookupswitch dflt ps) len n) (hp : (ps.toList.zip (ps.toList.drop 1)).all (fun (a, next) => a.1 < next.1) = true) (ht : (pc : Int) + Op.lookupswitch.offset ps.toList dflt a = (tt : Int)) (K : Run d kc ks y tt ls st g h P) : Run d kc ks y pc ls (vI a :: st) g h P := by
  intro z p l e R s m args below meth c H locs cells slots rls C hc hs hR hE hS hL ho1 ho2
  obtain ⟨hd, rfl⟩ := hd
  have ha := (okV_hd ho2).i
  have k9 := K z p l e R s m args below meth c H locs cells slots rls C hc hs hR hE hS hL ho1 (okV_tl ho2)
  exact lv_lookup C.1 C.2.1 hd hp (x := Int32.ofInt a) (by rw [toInt_ofInt32 ha]) ht k9
end
