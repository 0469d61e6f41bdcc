/-! calls with more on the stack: no long among it -/
section
variable {d kc ks mc ms : Nat} {y yc : Mth} {pc n k idx : Nat} {ls st av : List AV} {g : Gs} {h : Hc} {P : Po}
def no2 (st : List AV) : Bool := st.all (fun v => v.1 != 1)
theorem catsum1 (z : Zw) : ∀ st : List AV, no2 st = true → ((st.map (enc z)).map fun v => v.category).sum ≤ st.length := by
  intro st
  induction st with
  | nil => intro _; exact Nat.le_refl _
  | cons v r ih =>
    intro hn
    unfold no2 at hn
    rw [List.all_cons, Bool.and_eq_true] at hn
    simp only [List.map_cons, List.sum_cons, List.length_cons]
    have h1 := ih hn.2
    have h2 : (enc z v).category ≤ 1 := by
      have := enc_cat z v
      rcases lv_cat (enc z v) with h | h
      · omega
      · exfalso
        have h3 := this.mp h
        have h4 := hn.1
        rw [h3] at h4
        exact absurd h4 (by decide)
    omega
theorem enc_cats8 {z : Zw} {st : List AV} (h : st.length ≤ 8) (hn : no2 st = true) {m : MethodId} {pc : Nat} {ls : Array Slot} {rest : List Value} : 2 * (F0 m pc ls rest).monitorRoom + ((st.map (enc z)).map fun v => v.category).sum ≤ 8 := lv_room (Nat.le_trans (catsum1 z st hn) h)
set_option maxHeartbeats 4000000 in
theorem R_invVx {ci N a : Nat} {rs : List Int} (hh : mH y = []) (hd : D y pc (.invokevirtual idx) 3 n) (hm : MV (mC y) idx yc ci k N) (hg : g.1[a]? = some (ci, N, rs)) (hk : av.length = k) (hst : st.length ≤ 8) (hn2 : no2 st = true) (hkc : mc ≤ kc) (hks : ms ≤ ks) (K : Call d mc ms yc (vR a :: av) g h (Kon (d + 1) (kc - mc) (ks - ms) y n ls st g mc P)) : Run (d + 1) kc ks y pc ls (av.reverse ++ vR a :: st) g h P := by
  intro z p l e R s m args below meth c H locs cells slots rls C hc hs hR hE hS hL ho1 ho2
  obtain ⟨hd, hn⟩ := hd
  obtain ⟨Cn, T, f1, f2, f3, f4, f5, f6⟩ := hm
  intro T9 hT X
  have hX := hR.x hE hS C.base hT X
  have hav : okV (vR a :: av) := okV_cons (okA_R _) (okV_rev (okV_app ho2).1)
  have run := vx_runV (As := av.map (enc z)) (rest := st.map (enc z)) (b := zb z + a) (g := F0 m pc rls ((av.reverse ++ vR a :: st).map (enc z))) (e := e) (below := below) (meth := meth) (H := H) (locs := locs) (cells := cells) (slots := slots) ⟨C.1, C.2.1, C.2.2.1, C.own, C.hts⟩ (K z l C.rest.1 hav) ⟨callBO C f4 f3, C.hts _ f5, C.hts _ f6⟩ ⟨PcO.blind, recvO C hR hg f2 f1, by rw [args_eq]; exact PcO.at C hX hS⟩ rfl (by rw [List.length_map]; exact hk) hL.2.1.1 (stk_eq z av a st) (enc_cats8 hst hn2) hd ⟨by omega, by omega⟩
  exact inv_go hh hn hkc hks C hc hs hE hS hL ho1 (okV_tl (okV_app ho2).2) run T9 hT X
theorem invV0x {ci N x : Nat} {rs : List Int} (hh : mH y = []) (hd : D y pc (.invokevirtual idx) 3 n) (hm : MV (mC y) idx yc ci 0 N) (hg : g.1[x]? = some (ci, N, rs)) (hst : st.length ≤ 8) (hn2 : no2 st = true) (hkc : mc ≤ kc) (hks : ms ≤ ks) (K : Call d mc ms yc [vR x] g h (Kon (d + 1) (kc - mc) (ks - ms) y n ls st g mc P)) : Run (d + 1) kc ks y pc ls (vR x :: st) g h P := R_invVx (av := []) hh hd hm hg rfl hst hn2 hkc hks K
theorem invV1x {ci N x : Nat} {rs : List Int} {b1 : AV} (hh : mH y = []) (hd : D y pc (.invokevirtual idx) 3 n) (hm : MV (mC y) idx yc ci 1 N) (hg : g.1[x]? = some (ci, N, rs)) (hst : st.length ≤ 8) (hn2 : no2 st = true) (hkc : mc ≤ kc) (hks : ms ≤ ks) (K : Call d mc ms yc [vR x, b1] g h (Kon (d + 1) (kc - mc) (ks - ms) y n ls st g mc P)) : Run (d + 1) kc ks y pc ls (b1 :: vR x :: st) g h P := R_invVx (av := [b1]) hh hd hm hg rfl hst hn2 hkc hks K
theorem invV2x {ci N x : Nat} {rs : List Int} {b1 b2 : AV} (hh : mH y = []) (hd : D y pc (.invokevirtual idx) 3 n) (hm : MV (mC y) idx yc ci 2 N) (hg : g.1[x]? = some (ci, N, rs)) (hst : st.length ≤ 8) (hn2 : no2 st = true) (hkc : mc ≤ kc) (hks : ms ≤ ks) (K : Call d mc ms yc [vR x, b1, b2] g h (Kon (d + 1) (kc - mc) (ks - ms) y n ls st g mc P)) : Run (d + 1) kc ks y pc ls (b2 :: b1 :: vR x :: st) g h P := R_invVx (av := [b1, b2]) hh hd hm hg rfl hst hn2 hkc hks K
end
