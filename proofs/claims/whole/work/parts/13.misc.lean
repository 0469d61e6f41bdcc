/-! CONSTANTS, LIBRARY CALLS, NEW CELLS -/
section
variable {d kc ks : Nat} {y : Mth} {pc n t : Nat} {ls st : List AV} {g : Gs} {h : Hc} {P : Po}
theorem R_ldcI {idx : Nat} {v : Int} (hd : D y pc (.ldc idx) 2 n) (hw : Cond.constant (mC y) idx (Int32.ofInt v) ∈ lwg) (hv : -2147483648 ≤ v ∧ v ≤ 2147483647) (K : Run d kc ks y n ls (vI v :: st) g h P) : Run d kc ks y pc ls st g h P := by
  intro z p l e R s m args below meth c H locs cells slots rls C hc hs hR hE hS hL ho1 ho2
  obtain ⟨hd, rfl⟩ := hd
  exact lv_ldc C.1 C.2.1 C.own (C.hts _ hw) hd (K z p l e R s m args below meth c H locs cells slots rls C hc hs hR hE hS hL ho1 (okV_cons (okA_I hv) ho2))
theorem R_ldcwI {idx : Nat} {v : Int} (hd : D y pc (.ldc_w idx) 3 n) (hw : Cond.constant (mC y) idx (Int32.ofInt v) ∈ lwg) (hv : -2147483648 ≤ v ∧ v ≤ 2147483647) (K : Run d kc ks y n ls (vI v :: st) g h P) : Run d kc ks y pc ls st g h P := by
  intro z p l e R s m args below meth c H locs cells slots rls C hc hs hR hE hS hL ho1 ho2
  obtain ⟨hd, rfl⟩ := hd
  exact lv_ldcw C.1 C.2.1 C.own (C.hts _ hw) hd (K z p l e R s m args below meth c H locs cells slots rls C hc hs hR hE hS hL ho1 (okV_cons (okA_I hv) ho2))
theorem R_ldcL {idx : Nat} {v : Int} (hd : D y pc (.ldc2_w idx) 3 n) (hw : Cond.constantLong (mC y) idx (Int64.ofInt v) ∈ lwg) (hv : in64 v) (K : Run d kc ks y n ls (vL v :: st) g h P) : Run d kc ks y pc ls st g h P := by
  intro z p l e R s m args below meth c H locs cells slots rls C hc hs hR hE hS hL ho1 ho2
  obtain ⟨hd, rfl⟩ := hd
  exact lv_ldc2 C.1 C.2.1 C.own (C.hts _ hw) hd (K z p l e R s m args below meth c H locs cells slots rls C hc hs hR hE hS hL ho1 (okV_cons (okA_L hv) ho2))
theorem enc_vX (z : Zw) (k : Nat) : enc z (vX k) = .ref (zX z k) := by
  show va_rf (rfO z (-2 - (k : Int))) = _
  unfold rfO
  rw [if_neg (by omega), if_neg (by omega), show (-2 - (-2 - (k : Int))).toNat = k by omega]
  rfl
theorem R_ldcS {idx i : Nat} {tx : String} (hd : D y pc (.ldc idx) 2 n) (hi : sT[i]? = some (mC y, idx, tx)) (K : Run d kc ks y n ls (vX (i + 1) :: st) g h P) : Run d kc ks y pc ls st g h P := by
  intro z p l e R s m args below meth c H locs cells slots rls C hc hs hR hE hS hL ho1 ho2
  obtain ⟨hd, rfl⟩ := hd
  have k9 := K z p l e R s m args below meth c H locs cells slots rls C hc hs hR hE hS hL ho1 (okV_cons (okA_R _) ho2)
  rw [List.map_cons, enc_vX] at k9
  exact va_ldcS C.1 C.2.1 C.own (C.ext.2.1 i _ hi) hd k9
theorem R_mmax {idx : Nat} {a b : Int} (hd : D y pc (.invokestatic idx) 3 n) (hl : Cond.methodLink (mC y) idx Lib.Math.max.name ∈ lwg) (hw : Cond.static Lib.Math.max.name ∈ lwg ∧ Cond.initialized "java/lang/Math" ∈ lwg ∧ Cond.code Lib.Math.max.name Lib.Math.max.code 2 (some .int) ∈ lwg) (hst : st.length ≤ 4) (K : Run d kc ks y n ls (vI (if a < b then b else a) :: st) g h P) : Run d kc ks y pc ls (vI b :: vI a :: st) g h P := by
  intro z p l e R s m args below meth c H locs cells slots rls C hc hs hR hE hS hL ho1 ho2
  obtain ⟨hd, rfl⟩ := hd
  have hB := (okV_hd ho2).i
  have hA := (okV_hd (okV_tl ho2)).i
  have k9 := K z p l e R s m args below meth c H locs cells slots rls C hc hs hR hE hS hL ho1 (okV_cons (okA_I (by split <;> assumption)) (okV_tl (okV_tl ho2)))
  have := catsum z st
  have := C.fr
  refine va_mmax C.1 C.2.1 (C.2.2.1.trans hL.2.1.1.symm) C.own (C.hts _ hl) (C.hts _ hw.1) (C.hts _ hw.2.1) (C.hts _ hw.2.2) (by omega) (by omega) (by omega) (by omega) hd ?_
  rw [List.map_cons] at k9
  have e9 : (if Int32.ofInt a < Int32.ofInt b then Int32.ofInt b else Int32.ofInt a) = Int32.ofInt (if a < b then b else a) := by
    by_cases q : a < b
    · rw [if_pos q, if_pos ((lt32 hA hB).mpr q)]
    · rw [if_neg q, if_neg (fun q2 => q ((lt32 hA hB).mp q2))]
  rw [show enc z (vI (if a < b then b else a)) = .int (if Int32.ofInt a < Int32.ofInt b then Int32.ofInt b else Int32.ofInt a) from congrArg Value.int e9.symm] at k9
  exact k9
theorem R_mmin {idx : Nat} {a b : Int} (hd : D y pc (.invokestatic idx) 3 n) (hl : Cond.methodLink (mC y) idx Lib.Math.min.name ∈ lwg) (hw : Cond.static Lib.Math.min.name ∈ lwg ∧ Cond.initialized "java/lang/Math" ∈ lwg ∧ Cond.code Lib.Math.min.name Lib.Math.min.code 2 (some .int) ∈ lwg) (hst : st.length ≤ 4) (K : Run d kc ks y n ls (vI (if b < a then b else a) :: st) g h P) : Run d kc ks y pc ls (vI b :: vI a :: st) g h P := by
  intro z p l e R s m args below meth c H locs cells slots rls C hc hs hR hE hS hL ho1 ho2
  obtain ⟨hd, rfl⟩ := hd
  have hB := (okV_hd ho2).i
  have hA := (okV_hd (okV_tl ho2)).i
  have k9 := K z p l e R s m args below meth c H locs cells slots rls C hc hs hR hE hS hL ho1 (okV_cons (okA_I (by split <;> assumption)) (okV_tl (okV_tl ho2)))
  have := catsum z st
  have := C.fr
  refine va_mmin C.1 C.2.1 (C.2.2.1.trans hL.2.1.1.symm) C.own (C.hts _ hl) (C.hts _ hw.1) (C.hts _ hw.2.1) (C.hts _ hw.2.2) (by omega) (by omega) (by omega) (by omega) hd ?_
  rw [List.map_cons] at k9
  have e9 : (if Int32.ofInt b < Int32.ofInt a then Int32.ofInt b else Int32.ofInt a) = Int32.ofInt (if b < a then b else a) := by
    by_cases q : b < a
    · rw [if_pos q, if_pos ((lt32 hB hA).mpr q)]
    · rw [if_neg q, if_neg (fun q2 => q ((lt32 hB hA).mp q2))]
  rw [show enc z (vI (if b < a then b else a)) = .int (if Int32.ofInt b < Int32.ofInt a then Int32.ofInt b else Int32.ofInt a) from congrArg Value.int e9.symm] at k9
  exact k9
theorem R_objInit {idx a : Nat} (hd : D y pc (.invokespecial idx) 3 n) (hl : Cond.methodLink (mC y) idx Lib.objectInit ∈ lwg) (hw : Cond.instanceMethod Lib.objectInit ∈ lwg ∧ Cond.code Lib.objectInit ⟨#[0xb1]⟩ 1 none ∈ lwg) (hst : st.length ≤ 4) (K : Run d kc ks y n ls st g h P) : Run d kc ks y pc ls (vR a :: st) g h P := by
  intro z p l e R s m args below meth c H locs cells slots rls C hc hs hR hE hS hL ho1 ho2
  obtain ⟨hd, rfl⟩ := hd
  have k9 := K z p l e R s m args below meth c H locs cells slots rls C hc hs hR hE hS hL ho1 (okV_tl ho2)
  have := catsum z st
  have := C.fr
  rw [List.map_cons, enc_vR]
  exact W.objInit (g := F0 m pc rls (.ref (zb z + a) :: st.map (enc z))) C.1 C.2.1 C.own (C.hts _ hl) (C.hts _ hw.1) (C.hts _ hw.2) rfl (hL.2.1.1.trans C.2.2.1.symm) rfl hd (by omega) (by show 2 * 0 + _ + 12 ≤ _; omega) k9
theorem acp_words : nativeFrameWords "java/lang/System" "arraycopy" 5 ≤ 100 := by decide +kernel
theorem R_acopy {idx a b N M : Nat} {rs rs2 : List Int} {k : Int} (hd : D y pc (.invokestatic idx) 3 n) (hl : Cond.methodLink (mC y) idx arraycopyName ∈ lwg) (hw : Cond.native arraycopyName ∈ lwg ∧ Cond.static arraycopyName ∈ lwg ∧ Cond.initialized "java/lang/System" ∈ lwg) (hg : g.1[a]? = some (13, N, rs)) (hg2 : g.1[b]? = some (13, M, rs2)) (hk : 0 ≤ k ∧ k ≤ N ∧ k ≤ M) (hst : st.length ≤ 4) (K : Run d kc ks y n ls st g (setH h a (fun j => if (j : Int) < k then h b j else h a j)) P) : Run d kc ks y pc ls (vI k :: vI 0 :: vR a :: vI 0 :: vR b :: st) g h P := by
  intro z p l e R s m args below meth c H locs cells slots rls C hc hs hR hE hS hL ho1 ho2
  obtain ⟨hd, rfl⟩ := hd
  have hk32 := (okV_hd ho2).i
  have e1 := wsO_get (z := z) (h := h) hg
  have e2 := wsO_get (z := z) (h := h) hg2
  have := catsum z st
  have := C.fr
  have c0 : (Int32.ofInt 0).toNatClampNeg = 0 := rfl
  have ck := clamp32 hk.1 hk32
  have hn0 : ¬ Int32.ofInt k < 0 := fun q => absurd ((lt32 (b := 0) hk32 (by unfold in32; omega)).mp q) (by omega)
  simp only [List.map_cons, enc_vR]
  refine va_copyi (ty := .int) C.1 C.2.1 (C.2.2.1.trans hL.2.1.1.symm) C.own (C.hts _ hl) (C.hts _ hw.1) (C.hts _ hw.2.1) (C.hts _ hw.2.2) C.K hR.1 wsO_D hS b a 1 1 e2 e1 rfl rfl rfl (by decide) (by decide) hn0 (by show (Int32.ofInt 0).toNatClampNeg + (Int32.ofInt k).toNatClampNeg ≤ M; rw [ck, c0]; omega) (by show (Int32.ofInt 0).toNatClampNeg + (Int32.ofInt k).toNatClampNeg ≤ N; rw [ck, c0]; omega) (fun i _ => rfl) (by omega) (by have := acp_words; omega) hd (fun H1 locs1 hP1 hD1 hS1 => ?_)
  refine K z p l e R s m args below meth c H1 locs1 cells slots rls C hc hs (Rep.upd hR hg ?_ (fun j => ?_)) hE hS1 hL ho1 (okV_tl (okV_tl (okV_tl (okV_tl (okV_tl ho2)))))
  · rw [show encC z (fun j => if (j : Int) < k then h b j else h a j) (13, N, rs) = .inl (zA z 1, N, .inl (va_cpy (fun i => Int32.ofInt (h b i)) (fun i => Int32.ofInt (h a i)) (Int32.ofInt 0).toNatClampNeg (Int32.ofInt 0).toNatClampNeg (Int32.ofInt k).toNatClampNeg)) from by
      show Sum.inl (_, _, Sum.inl _) = _
      congr 4
      funext j
      rw [ck, c0]
      by_cases q : (j : Int) < k
      · rw [pk_cpy_in (Nat.zero_le _) (by omega)]
        simp [q]
      · rw [pk_cpy_out (Or.inr (by omega))]
        simp [q]]
    exact hP1
  · rw [if_neg (by simp)]
    by_cases q : (j : Int) < k
    · rw [if_pos q]; exact okC_32 (hR.2.1 b _ hg2) (by simp) j
    · rw [if_neg q]; exact okC_32 (hR.2.1 a _ hg) (by simp) j
/-- the script's length and its ints -/
theorem R_slen (hd : D y pc .arraylength 1 n) (K : g.2.2.1 ≤ 3072 → (∀ i, in32 (g.2.2.2 i)) → Run d kc ks y n ls (vI (g.2.2.1 : Int) :: st) g h P) : Run d kc ks y pc ls (vX 0 :: st) g h P := by
  intro z p l e R s m args below meth c H locs cells slots rls C hc hs hR hE hS hL ho1 ho2
  obtain ⟨hd, rfl⟩ := hd
  obtain ⟨⟨h1, h2, h3, h4⟩, -⟩ := C.ext
  have e9 := hR.2.2
  rw [List.map_cons, enc_vX]
  refine va_slen C.1 C.2.1 h1 (Nat.lt_of_lt_of_le h2 C.base) (Nat.not_le.mpr h2) hS hd ?_
  have k9 := K (by rw [e9]; exact h3) (by rw [e9]; exact h4) z p l e R s m args below meth c H locs cells slots rls C hc hs hR hE hS hL ho1 (okV_cons (okA_I (by rw [e9]; unfold in32; simp only; omega)) (okV_tl ho2))
  rw [e9, List.map_cons, show enc z (vI (zL z)) = .int (Int32.ofNat (zL z)) from congrArg Value.int Int32.ofInt_eq_ofNat] at k9
  exact k9
theorem R_sald {i : Int} (hd : D y pc .iaload 1 n) (h0 : 0 ≤ i) (h1 : i < (g.2.2.1 : Int)) (K : in32 (g.2.2.2 i.toNat) → Run d kc ks y n ls (vI (g.2.2.2 i.toNat) :: st) g h P) : Run d kc ks y pc ls (vI i :: vX 0 :: st) g h P := by
  intro z p l e R s m args below meth c H locs cells slots rls C hc hs hR hE hS hL ho1 ho2
  obtain ⟨hd, rfl⟩ := hd
  obtain ⟨⟨x1, x2, x3, x4⟩, -⟩ := C.ext
  have e9 := hR.2.2
  have hi := (okV_hd ho2).i
  rw [List.map_cons, List.map_cons, enc_vX]
  have hok : in32 (g.2.2.2 i.toNat) := by rw [e9]; exact x4 _
  have k9 := K hok z p l e R s m args below meth c H locs cells slots rls C hc hs hR hE hS hL ho1 (okV_cons (okA_I hok) (okV_tl (okV_tl ho2)))
  refine va_sld C.1 C.2.1 x1 (Nat.lt_of_lt_of_le x2 C.base) (Nat.not_le.mpr x2) hS (i := Int32.ofInt i) (vin32 h0 hi (by rw [e9] at h1; exact h1)) hd ?_
  rw [clamp32 h0 hi]
  rw [e9] at k9
  exact k9
end
