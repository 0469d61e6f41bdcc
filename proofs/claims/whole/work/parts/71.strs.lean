/-! THE TEXT CONSTANTS -/
abbrev sBi (i : Nat) : List Int := sB.getD i []
theorem sB_len (i : Nat) : (sB.map List.length).getD i 0 = (sBi i).length := by
  unfold sBi
  rw [List.getD_eq_getElem?_getD, List.getD_eq_getElem?_getD, List.getElem?_map]
  cases sB[i]? <;> rfl
theorem sB_byt (i j : Nat) : ((sB.map (fun l => l.map Int32.ofInt)).getD i []).getD j 0 = Int32.ofInt ((sBi i).getD j 0) := by
  unfold sBi
  rw [List.getD_eq_getElem?_getD, List.getD_eq_getElem?_getD, List.getD_eq_getElem?_getD, List.getD_eq_getElem?_getD, List.getElem?_map]
  cases hq : sB[i]? with
  | none => rfl
  | some l =>
    show ((l.map Int32.ofInt)[j]?).getD 0 = Int32.ofInt ((l[j]?).getD 0)
    rw [List.getElem?_map]
    cases l[j]? <;> rfl
theorem sB_rng0 : ∀ i : Fin 25, ∀ x ∈ sBi i.val, 0 ≤ x ∧ x < 128 := by decide +kernel
theorem sB_rng {i j : Nat} (hi : i < 25) : 0 ≤ (sBi i).getD j 0 ∧ (sBi i).getD j 0 < 128 := by
  rw [List.getD_eq_getElem?_getD]
  cases hq : (sBi i)[j]? with
  | none => exact ⟨by decide, by decide⟩
  | some x => exact sB_rng0 ⟨i, hi⟩ x (List.mem_of_getElem? hq)
theorem sB_lt0 : ∀ i : Fin 25, (sBi i.val).length < 256 := by decide +kernel
theorem c128 : ∀ k : Fin 128, ((Int32.ofInt ((k.val : Nat) : Int)).toUInt32 % 65536).toInt32 = Int32.ofInt ((k.val : Nat) : Int) := by decide +kernel
theorem n128 : ∀ k : Fin 128, narrow .char (.int (Int32.ofInt ((k.val : Nat) : Int))) = .int (Int32.ofInt ((k.val : Nat) : Int)) := by decide +kernel
theorem a255 : ∀ k : Fin 128, andI ((k.val : Nat) : Int) 255 = ((k.val : Nat) : Int) := by decide +kernel
theorem to128 {x : Int} (h : 0 ≤ x ∧ x < 128) : ∃ k : Fin 128, x = ((k.val : Nat) : Int) := ⟨⟨x.toNat, by omega⟩, by show x = ((x.toNat : Nat) : Int); omega⟩
section
variable {d kc ks mc ms : Nat} {y yc : Mth} {pc n idx k : Nat} {ls st av : List AV} {g : Gs} {h : Hc} {P : Po}
theorem R_gfS {i : Nat} (hd : D y pc (.getfield idx) 3 n) (hw : Cond.fieldLink (mC y) idx "java/lang/String" "value" "[B" ∈ lwg) (hi : i < 25) (K : Run d kc ks y n ls (vX (i + 26) :: st) g h P) : Run d kc ks y pc ls (vX (i + 1) :: st) g h P := by
  intro z p l e R s m args below meth c H locs cells slots rls C hc hs hR hE hS hL ho1 ho2
  obtain ⟨hd, rfl⟩ := hd
  have k9 := K z p l e R s m args below meth c H locs cells slots rls C hc hs hR hE hS hL ho1 (okV_cons (okA_R _) (okV_tl ho2))
  rw [List.map_cons, enc_vX] at k9
  rw [List.map_cons, enc_vX]
  exact vk_getf C.1 C.2.1 (C.ext.2.2.1.1 i hi).2.2.1 hS C.own (C.hts _ hw) (fun _ h => h) hd k9
theorem R_gfC {i : Nat} (hd : D y pc (.getfield idx) 3 n) (hw : Cond.fieldLink (mC y) idx "java/lang/String" "coder" "B" ∈ lwg) (hi : i < 25) (K : Run d kc ks y n ls (vI 0 :: st) g h P) : Run d kc ks y pc ls (vX (i + 1) :: st) g h P := by
  intro z p l e R s m args below meth c H locs cells slots rls C hc hs hR hE hS hL ho1 ho2
  obtain ⟨hd, rfl⟩ := hd
  have k9 := K z p l e R s m args below meth c H locs cells slots rls C hc hs hR hE hS hL ho1 (okV_cons (okA_I (by unfold in32; omega)) (okV_tl ho2))
  rw [List.map_cons, show enc z (vI 0) = .int 0 from rfl] at k9
  rw [List.map_cons, enc_vX]
  exact vk_getf C.1 C.2.1 (C.ext.2.2.1.1 i hi).2.1 hS C.own (C.hts _ hw) (fun _ h => h) hd k9
theorem R_gsC (hd : D y pc (.getstatic idx) 3 n) (hw : Cond.fieldLink (mC y) idx "java/lang/String" "COMPACT_STRINGS" "Z" ∈ lwg) (K : Run d kc ks y n ls (vI 1 :: st) g h P) : Run d kc ks y pc ls st g h P := by
  intro z p l e R s m args below meth c H locs cells slots rls C hc hs hR hE hS hL ho1 ho2
  obtain ⟨hd, rfl⟩ := hd
  have k9 := K z p l e R s m args below meth c H locs cells slots rls C hc hs hR hE hS hL ho1 (okV_cons (okA_I (by unfold in32; omega)) ho2)
  rw [List.map_cons, show enc z (vI 1) = .int 1 from rfl] at k9
  exact va_gets C.1 C.2.1 C.ext.2.2.2.1 hS C.own (C.hts _ hw) (fun _ h => h) hd k9
theorem R_gsF (hd : D y pc (.getstatic idx) 3 n) (hw : Cond.fieldLink (mC y) idx "jdk/internal/util/Preconditions" "SIOOBE_FORMATTER" "Ljava/util/function/BiFunction;" ∈ lwg) (K : ∀ r : Int, Run d kc ks y n ls (((2, r) : AV) :: st) g h P) : Run d kc ks y pc ls st g h P := by
  intro z p l e R s m args below meth c H locs cells slots rls C hc hs hR hE hS hL ho1 ho2
  obtain ⟨hd, rfl⟩ := hd
  rcases C.ext.2.2.2.2.1 with q | q
  · have k9 := K (-1) z p l e R s m args below meth c H locs cells slots rls C hc hs hR hE hS hL ho1 (okV_cons (okA_R _) ho2)
    rw [List.map_cons, show enc z vN = .null from rfl] at k9
    exact va_gets C.1 C.2.1 q hS C.own (C.hts _ hw) (fun _ h => h) hd k9
  · have k9 := K (-2 - ((51 : Nat) : Int)) z p l e R s m args below meth c H locs cells slots rls C hc hs hR hE hS hL ho1 (okV_cons (okA_R _) ho2)
    rw [List.map_cons, enc_vX] at k9
    exact va_gets C.1 C.2.1 q hS C.own (C.hts _ hw) (fun _ h => h) hd k9
theorem R_alS {i : Nat} (hd : D y pc .arraylength 1 n) (hi : i < 25) (K : Run d kc ks y n ls (vI (((sBi i).length : Nat) : Int) :: st) g h P) : Run d kc ks y pc ls (vX (i + 26) :: st) g h P := by
  intro z p l e R s m args below meth c H locs cells slots rls C hc hs hR hE hS hL ho1 ho2
  obtain ⟨hd, rfl⟩ := hd
  have hlt := sB_lt0 ⟨i, hi⟩
  simp only at hlt
  have k9 := K z p l e R s m args below meth c H locs cells slots rls C hc hs hR hE hS hL ho1 (okV_cons (okA_I (by unfold in32; omega)) (okV_tl ho2))
  rw [List.map_cons, show enc z (vI (((sBi i).length : Nat) : Int)) = .int (Int32.ofNat (sBi i).length) from congrArg Value.int Int32.ofInt_eq_ofNat] at k9
  rw [List.map_cons, enc_vX]
  have hT := (C.ext.2.2.1.1 i hi).2.2.2
  rw [sB_len] at hT
  exact va_tlen C.1 C.2.1 hT hS rfl hd k9
theorem R_blS {i : Nat} {j : Int} (hd : D y pc .baload 1 n) (hi : i < 25) (h0 : 0 ≤ j) (h1 : j < (((sBi i).length : Nat) : Int)) (K : Run d kc ks y n ls (vI ((sBi i).getD j.toNat 0) :: st) g h P) : Run d kc ks y pc ls (vI j :: vX (i + 26) :: st) g h P := by
  intro z p l e R s m args below meth c H locs cells slots rls C hc hs hR hE hS hL ho1 ho2
  obtain ⟨hd, rfl⟩ := hd
  have hr := sB_rng (j := j.toNat) hi
  have hj := (okV_hd ho2).i
  have k9 := K z p l e R s m args below meth c H locs cells slots rls C hc hs hR hE hS hL ho1 (okV_cons (okA_I (by unfold in32; omega)) (okV_tl (okV_tl ho2)))
  rw [List.map_cons, List.map_cons, enc_vX]
  have hT := (C.ext.2.2.1.1 i hi).2.2.2
  rw [sB_len] at hT
  refine va_tb C.1 C.2.1 hT hS (i := Int32.ofInt j) (vin32 h0 hj h1) (v := .int (Int32.ofInt ((sBi i).getD j.toNat 0))) ?_ hd k9
  rw [clamp32 h0 hj, sB_byt]
theorem R_i2cS {a : Int} (hd : D y pc .i2c 1 n) (ha : 0 ≤ a ∧ a < 128) (K : Run d kc ks y n ls (vI a :: st) g h P) : Run d kc ks y pc ls (vI a :: st) g h P := by
  intro z p l e R s m args below meth c H locs cells slots rls C hc hs hR hE hS hL ho1 ho2
  obtain ⟨hd, rfl⟩ := hd
  have k9 := K z p l e R s m args below meth c H locs cells slots rls C hc hs hR hE hS hL ho1 ho2
  obtain ⟨k, rfl⟩ := to128 ha
  exact lv_i2c C.1 C.2.1 hd (c128 k) k9
theorem R_nret {a : Int} {ty : FieldType} (hd : D y pc (.ireturn) 1 n) (hr : mR y = some ty) (hn : narrow ty (.int (Int32.ofInt a)) = .int (Int32.ofInt a)) (K : P (.inl (some (vI a))) g h) : Run d kc ks y pc ls ([vI a]) g h P := by
  intro z p l e R s m args below meth c H locs cells slots rls C hc hs hR hE hS hL ho1 ho2
  obtain ⟨hd, rfl⟩ := hd
  intro T hT X
  have hX := hR.x hE hS C.2.2.2.2.2.2.2.2.2.1 hT X
  refine vx_ret (W.widen (k := R.cells) (n := R.slots) (by omega) (by omega) ?_) T hT X
  exact W.zret C.1 C.2.1 (C.2.2.2.1.trans hr) hn (fun t ht hW => ⟨⟨some (vI a), g, h, rfl, (fun v e => by cases e; exact okV_hd ho2), by rw [ht]; exact hX, K⟩, hS.F ht⟩) hS.2.2 hd C.2.2.2.2.1
theorem nar128 {a : Int} (h : 0 ≤ a ∧ a < 128) : narrow .char (.int (Int32.ofInt a)) = .int (Int32.ofInt a) := by
  obtain ⟨k, rfl⟩ := to128 h
  exact n128 k
theorem and255 {a : Int} (h : 0 ≤ a ∧ a < 128) : andI a 255 = a := by
  obtain ⟨k, rfl⟩ := to128 h
  exact a255 k
theorem okV_hdX {l : List AV} {v : AV} (h : okV (l ++ v :: st)) : okV (v :: st) := (okV_app h).2
def MVS (own : String) (idx : Nat) (yc : Mth) (k : Nat) : Prop := Cond.methodLink own idx (mN yc) ∈ lwg ∧ MC yc k ∧ Cond.instanceMethod (mN yc) ∈ lwg ∧ Cond.selects "java/lang/String" (mN yc) (mN yc) ∈ lwg
theorem stk_eqX (z : Zw) (av : List AV) (a : Nat) (st : List AV) : (av.reverse ++ vX a :: st).map (enc z) = (av.map (enc z)).reverse ++ .ref (zX z a) :: st.map (enc z) := by
  rw [List.map_append, List.map_reverse, List.map_cons, enc_vX]
theorem args_eqX (z : Zw) (av : List AV) (a : Nat) : (Value.ref (zX z a) :: av.map (enc z)) = (vX a :: av).map (enc z) := by
  rw [List.map_cons, enc_vX]
set_option maxHeartbeats 4000000 in
theorem R_invTg {i : Nat} (hh : mH y = []) (hd : D y pc (.invokevirtual idx) 3 n) (hm : MVS (mC y) idx yc k) (hi : i < 25) (hk : av.length = k) (hst : st.length ≤ 4) (hkc : mc ≤ kc) (hks : ms ≤ ks) (K : Call d mc ms yc (vX (i + 1) :: av) g h (Kon (d + 1) (kc - mc) (ks - ms) y n ls st g mc P)) : Run (d + 1) kc ks y pc ls (av.reverse ++ vX (i + 1) :: st) g h P := by
  intro z p l e R s m args below meth c H locs cells slots rls C hc hs hR hE hS hL ho1 ho2
  obtain ⟨hd, hn⟩ := hd
  obtain ⟨f3, f4, f5, f6⟩ := hm
  intro T9 hT X
  have hX := hR.x hE hS C.base hT X
  have hav : okV (vX (i + 1) :: av) := okV_cons (okA_R _) (okV_rev (okV_app ho2).1)
  have run := vx_runV (As := av.map (enc z)) (rest := st.map (enc z)) (b := zX z (i + 1)) (g := F0 m pc rls ((av.reverse ++ vX (i + 1) :: st).map (enc z))) (e := e) (below := below) (meth := meth) (H := H) (locs := locs) (cells := cells) (slots := slots) ⟨C.1, C.2.1, C.2.2.1, C.own, C.hts⟩ (K z l C.rest.1 hav) ⟨callBO C f4 f3, C.hts _ f5, C.hts _ f6⟩ ⟨PcO.blind, vk_recv (adK := fun i => zX z (i + 1)) C.ext.2.2.1 hi hS, by rw [args_eqX]; exact PcO.at C hX hS⟩ rfl (by rw [List.length_map]; exact hk) hL.2.1.1 (stk_eqX z av (i + 1) st) (enc_cats hst) hd ⟨by omega, by omega⟩
  exact inv_go hh hn hkc hks C hc hs hE hS hL ho1 (okV_tl (okV_app ho2).2) run T9 hT X
theorem invT0 {i : Nat} (hh : mH y = []) (hd : D y pc (.invokevirtual idx) 3 n) (hm : MVS (mC y) idx yc 0) (hi : i < 25) (hst : st.length ≤ 4) (hkc : mc ≤ kc) (hks : ms ≤ ks) (K : Call d mc ms yc [vX (i + 1)] g h (Kon (d + 1) (kc - mc) (ks - ms) y n ls st g mc P)) : Run (d + 1) kc ks y pc ls (vX (i + 1) :: st) g h P := R_invTg (av := []) hh hd hm hi rfl hst hkc hks K
theorem invT1 {i : Nat} {b1 : AV} (hh : mH y = []) (hd : D y pc (.invokevirtual idx) 3 n) (hm : MVS (mC y) idx yc 1) (hi : i < 25) (hst : st.length ≤ 4) (hkc : mc ≤ kc) (hks : ms ≤ ks) (K : Call d mc ms yc [vX (i + 1), b1] g h (Kon (d + 1) (kc - mc) (ks - ms) y n ls st g mc P)) : Run (d + 1) kc ks y pc ls (b1 :: vX (i + 1) :: st) g h P := R_invTg (av := [b1]) hh hd hm hi rfl hst hkc hks K
theorem popV {v : AV} (hv : v.1 = 2) (hd : D y pc .pop 1 n) (K : Run d kc ks y n ls st g h P) : Run d kc ks y pc ls (v :: st) g h P := R_pop hd (by omega) K
end
set_option maxRecDepth 100000 in
theorem mcJ0_length_8abf5 : MC mJ0_length_8abf5 0 := ⟨lwg_t3 193 (by decide +kernel) rfl, lwg_t1 16 (by decide +kernel) rfl, by decide +kernel, by decide +kernel, by decide⟩
theorem msJ0_length_8abf5 : Cond.instanceMethod (mN mJ0_length_8abf5) ∈ lwg ∧ Cond.selects "java/lang/String" (mN mJ0_length_8abf5) (mN mJ0_length_8abf5) ∈ lwg := ⟨lwg_t3 191 (by decide +kernel) rfl, lwg_t3 192 (by decide +kernel) rfl⟩
set_option maxRecDepth 100000 in
theorem mcJ0_charAt_5068e : MC mJ0_charAt_5068e 1 := ⟨lwg_t3 203 (by decide +kernel) rfl, lwg_t1 16 (by decide +kernel) rfl, by decide +kernel, by decide +kernel, by decide⟩
theorem msJ0_charAt_5068e : Cond.instanceMethod (mN mJ0_charAt_5068e) ∈ lwg ∧ Cond.selects "java/lang/String" (mN mJ0_charAt_5068e) (mN mJ0_charAt_5068e) ∈ lwg := ⟨lwg_t3 201 (by decide +kernel) rfl, lwg_t3 202 (by decide +kernel) rfl⟩
set_option maxRecDepth 100000 in
theorem mcJ0_coder_7d493 : MC mJ0_coder_7d493 0 := ⟨lwg_t3 197 (by decide +kernel) rfl, lwg_t1 16 (by decide +kernel) rfl, by decide +kernel, by decide +kernel, by decide⟩
theorem msJ0_coder_7d493 : Cond.instanceMethod (mN mJ0_coder_7d493) ∈ lwg ∧ Cond.selects "java/lang/String" (mN mJ0_coder_7d493) (mN mJ0_coder_7d493) ∈ lwg := ⟨lwg_t3 195 (by decide +kernel) rfl, lwg_t3 196 (by decide +kernel) rfl⟩
set_option maxRecDepth 100000 in
theorem mcJ0_isLatin1_aae02 : MC mJ0_isLatin1_aae02 0 := ⟨lwg_t3 207 (by decide +kernel) rfl, lwg_t1 16 (by decide +kernel) rfl, by decide +kernel, by decide +kernel, by decide⟩
theorem msJ0_isLatin1_aae02 : Cond.instanceMethod (mN mJ0_isLatin1_aae02) ∈ lwg ∧ Cond.selects "java/lang/String" (mN mJ0_isLatin1_aae02) (mN mJ0_isLatin1_aae02) ∈ lwg := ⟨lwg_t3 205 (by decide +kernel) rfl, lwg_t3 206 (by decide +kernel) rfl⟩
set_option maxRecDepth 100000 in
theorem kSRJ0_335 : MVS RJ0 335 mJ0_coder_7d493 0 := ⟨lwg_t3 194 (by decide +kernel) rfl, mcJ0_coder_7d493, msJ0_coder_7d493.1, msJ0_coder_7d493.2⟩
set_option maxRecDepth 100000 in
theorem kSRJ0_492 : MVS RJ0 492 mJ0_isLatin1_aae02 0 := ⟨lwg_t3 204 (by decide +kernel) rfl, mcJ0_isLatin1_aae02, msJ0_isLatin1_aae02.1, msJ0_isLatin1_aae02.2⟩
set_option maxRecDepth 100000 in
theorem kSRX8_57 : MVS RX8 57 mJ0_length_8abf5 0 := ⟨lwg_t3 190 (by decide +kernel) rfl, mcJ0_length_8abf5, msJ0_length_8abf5.1, msJ0_length_8abf5.2⟩
set_option maxRecDepth 100000 in
theorem kSRX8_61 : MVS RX8 61 mJ0_charAt_5068e 1 := ⟨lwg_t3 200 (by decide +kernel) rfl, mcJ0_charAt_5068e, msJ0_charAt_5068e.1, msJ0_charAt_5068e.2⟩
set_option maxRecDepth 100000 in
theorem kSRX12_125 : MVS RX12 125 mJ0_length_8abf5 0 := ⟨lwg_t7 134 (by decide +kernel) rfl, mcJ0_length_8abf5, msJ0_length_8abf5.1, msJ0_length_8abf5.2⟩
set_option maxRecDepth 100000 in
theorem kSRX12_130 : MVS RX12 130 mJ0_charAt_5068e 1 := ⟨lwg_t7 135 (by decide +kernel) rfl, mcJ0_charAt_5068e, msJ0_charAt_5068e.1, msJ0_charAt_5068e.2⟩
theorem fsV : Cond.fieldLink RJ0 9 "java/lang/String" "value" "[B" ∈ lwg := lwg_t10 13 (by decide +kernel) rfl
theorem fsC : Cond.fieldLink RJ0 15 "java/lang/String" "coder" "B" ∈ lwg := lwg_t10 14 (by decide +kernel) rfl
theorem fsP : Cond.fieldLink RJ0 38 "java/lang/String" "COMPACT_STRINGS" "Z" ∈ lwg := lwg_t3 198 (by decide +kernel) rfl
theorem fsF : Cond.fieldLink RJ0 1053 "jdk/internal/util/Preconditions" "SIOOBE_FORMATTER" "Ljava/util/function/BiFunction;" ∈ lwg := lwg_t3 214 (by decide +kernel) rfl
theorem C_J0_coder_7d493 {d : Nat} {g : Gs} {h : Hc} {P : Po} {i : Nat} (hi : i < 25) (K : P (.inl (some (vI 0))) g h) : Call (d + 0) 0 0 mJ0_coder_7d493 [vX (i + 1)] g h P := by
  refine Call_of rfl ⟨by decide +kernel, rfl⟩ (Nat.le_of_ble_eq_true rfl) rfl ?_
  refine R_gsC dJ0_coder_7d493_0 fsP ?_
  refine R_if_eq dJ0_coder_7d493_3 (fun hb => absurd hb (by decide)) (fun _ => ?_)
  refine xL0 dJ0_coder_7d493_6 ?_
  refine R_gfC dJ0_coder_7d493_7 fsC hi ?_
  refine R_goto dJ0_coder_7d493_10 ?_
  exact R_nret dJ0_coder_7d493_14 rfl (by decide +kernel) K
theorem C_J0_isLatin1_aae02 {d : Nat} {g : Gs} {h : Hc} {P : Po} {i : Nat} (hi : i < 25) (K : P (.inl (some (vI 1))) g h) : Call (d + 0) 0 0 mJ0_isLatin1_aae02 [vX (i + 1)] g h P := by
  refine Call_of rfl ⟨by decide +kernel, rfl⟩ (Nat.le_of_ble_eq_true rfl) rfl ?_
  refine R_gsC dJ0_isLatin1_aae02_0 fsP ?_
  refine R_if_eq dJ0_isLatin1_aae02_3 (fun hb => absurd hb (by decide)) (fun _ => ?_)
  refine xL0 dJ0_isLatin1_aae02_6 ?_
  refine R_gfC dJ0_isLatin1_aae02_7 fsC hi ?_
  refine R_if_ne dJ0_isLatin1_aae02_10 (fun hb => absurd hb (by decide)) (fun _ => ?_)
  refine R_iconst_1 dJ0_isLatin1_aae02_13 ?_
  refine R_goto dJ0_isLatin1_aae02_14 ?_
  exact R_zret dJ0_isLatin1_aae02_18 rfl (by decide) K
theorem sB_shr0 : ∀ i : Fin 25, shrI (((sBi i.val).length : Nat) : Int) 0 = (((sBi i.val).length : Nat) : Int) := by decide +kernel
set_option maxHeartbeats 1000000 in
theorem C_J0_length_8abf5 {d : Nat} {g : Gs} {h : Hc} {P : Po} {i : Nat} (hi : i < 25) (K : P (.inl (some (vI (((sBi i).length : Nat) : Int)))) g h) : Call (d + 1) 0 0 mJ0_length_8abf5 [vX (i + 1)] g h P := by
  refine Call_of rfl ⟨by decide +kernel, rfl⟩ (Nat.le_of_ble_eq_true rfl) rfl ?_
  refine xL0 dJ0_length_8abf5_0 ?_
  refine R_gfS dJ0_length_8abf5_1 fsV hi ?_
  refine R_alS dJ0_length_8abf5_4 hi ?_
  refine xL0 dJ0_length_8abf5_5 ?_
  refine invT0 rfl dJ0_length_8abf5_6 kSRJ0_335 hi (Nat.le_of_ble_eq_true rfl) (Nat.zero_le _) (Nat.zero_le _) (C_J0_coder_7d493 hi (konI ?_))
  refine R_ishr dJ0_length_8abf5_9 ?_
  refine topV (v := (((sBi i).length : Nat) : Int)) (sB_shr0 ⟨i, hi⟩) ?_
  exact R_iret dJ0_length_8abf5_10 rfl K
theorem C_J3_checkIndex_8e157 {d : Nat} {g : Gs} {h : Hc} {P : Po} {a b : Int} {r : Int} (h0 : 0 ≤ a) (h1 : a < b) (K : P (.inl (some (vI a))) g h) : Call (d + 0) 0 0 mJ3_checkIndex_8e157 [vI a, vI b, ((2, r) : AV)] g h P := by
  refine Call_of rfl ⟨by decide +kernel, rfl⟩ (Nat.le_of_ble_eq_true rfl) rfl ?_
  refine iL0 dJ3_checkIndex_8e157_0 ?_
  refine R_if_lt dJ3_checkIndex_8e157_1 (fun hb => absurd hb (by omega)) (fun _ => ?_)
  refine iL0 dJ3_checkIndex_8e157_4 ?_
  refine iL1 dJ3_checkIndex_8e157_5 ?_
  refine R_icmp_lt dJ3_checkIndex_8e157_6 (fun _ => ?_) (fun hb => absurd h1 hb)
  refine iL0 dJ3_checkIndex_8e157_16 ?_
  exact R_iret dJ3_checkIndex_8e157_17 rfl K
set_option maxHeartbeats 1000000 in
theorem C_J0_checkIndex_df160 {d : Nat} {g : Gs} {h : Hc} {P : Po} {a b : Int} (h0 : 0 ≤ a) (h1 : a < b) (K : P (.inl none) g h) : Call (d + 1) 0 0 mJ0_checkIndex_df160 [vI a, vI b] g h P := by
  refine Call_of rfl ⟨by decide +kernel, rfl⟩ (Nat.le_of_ble_eq_true rfl) rfl ?_
  refine iL0 dJ0_checkIndex_df160_0 ?_
  refine iL1 dJ0_checkIndex_df160_1 ?_
  refine R_gsF dJ0_checkIndex_df160_2 fsF (fun r => ?_)
  refine invS3 rfl dJ0_checkIndex_df160_5 kJ0_1059 (Nat.le_of_ble_eq_true rfl) (Nat.zero_le _) (Nat.zero_le _) (C_J3_checkIndex_8e157 h0 h1 (konI ?_))
  refine popI dJ0_checkIndex_df160_8 ?_
  exact R_vret dJ0_checkIndex_df160_9 rfl K
set_option maxHeartbeats 1000000 in
theorem C_J1_charAt_3b067 {d : Nat} {g : Gs} {h : Hc} {P : Po} {i : Nat} {j : Int} (hi : i < 25) (h0 : 0 ≤ j) (h1 : j < (((sBi i).length : Nat) : Int)) (K : P (.inl (some (vI ((sBi i).getD j.toNat 0)))) g h) : Call (d + 2) 0 0 mJ1_charAt_3b067 [vX (i + 26), vI j] g h P := by
  refine Call_of rfl ⟨by decide +kernel, rfl⟩ (Nat.le_of_ble_eq_true rfl) rfl ?_
  have hr := sB_rng (j := j.toNat) hi
  refine iL1 dJ1_charAt_3b067_0 ?_
  refine xL0 dJ1_charAt_3b067_1 ?_
  refine R_alS dJ1_charAt_3b067_2 hi ?_
  refine invS2 rfl dJ1_charAt_3b067_3 kJ1_9 (Nat.le_of_ble_eq_true rfl) (Nat.zero_le _) (Nat.zero_le _) (C_J0_checkIndex_df160 h0 h1 (konV ?_))
  refine xL0 dJ1_charAt_3b067_6 ?_
  refine iL1 dJ1_charAt_3b067_7 ?_
  refine R_blS dJ1_charAt_3b067_8 hi h0 h1 ?_
  refine R_sipush dJ1_charAt_3b067_9 (by decide) ?_
  refine R_iand dJ1_charAt_3b067_12 ?_
  refine topV (v := (sBi i).getD j.toNat 0) (and255 hr) ?_
  refine R_i2cS dJ1_charAt_3b067_13 hr ?_
  exact R_nret dJ1_charAt_3b067_14 rfl (nar128 hr) K
set_option maxHeartbeats 1000000 in
theorem C_J0_charAt_5068e {d : Nat} {g : Gs} {h : Hc} {P : Po} {i : Nat} {j : Int} (hi : i < 25) (h0 : 0 ≤ j) (h1 : j < (((sBi i).length : Nat) : Int)) (K : P (.inl (some (vI ((sBi i).getD j.toNat 0)))) g h) : Call (d + 3) 0 0 mJ0_charAt_5068e [vX (i + 1), vI j] g h P := by
  refine Call_of rfl ⟨by decide +kernel, rfl⟩ (Nat.le_of_ble_eq_true rfl) rfl ?_
  refine xL0 dJ0_charAt_5068e_0 ?_
  refine invT0 rfl dJ0_charAt_5068e_1 kSRJ0_492 hi (Nat.le_of_ble_eq_true rfl) (Nat.zero_le _) (Nat.zero_le _) (C_J0_isLatin1_aae02 hi (konI ?_))
  refine R_if_eq dJ0_charAt_5068e_4 (fun hb => absurd hb (by decide)) (fun _ => ?_)
  refine xL0 dJ0_charAt_5068e_7 ?_
  refine R_gfS dJ0_charAt_5068e_8 fsV hi ?_
  refine iL1 dJ0_charAt_5068e_11 ?_
  refine invS2 rfl dJ0_charAt_5068e_12 kJ0_495 (Nat.le_of_ble_eq_true rfl) (Nat.zero_le _) (Nat.zero_le _) (C_J1_charAt_3b067 hi h0 h1 (konI ?_))
  exact R_nret dJ0_charAt_5068e_15 rfl (nar128 (sB_rng hi)) K
