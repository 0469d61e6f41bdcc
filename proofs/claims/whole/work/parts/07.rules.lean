theorem push8 {k : Int} (hk : -128 ≤ k ∧ k ≤ 127) : (Int8.ofInt k).toInt32 = Int32.ofInt k := by
  rw [← Int32.toInt_inj, Int8.toInt_toInt32, toInt_ofInt32 (by unfold in32; omega)]
  exact Int8.toInt_ofInt_of_le (by omega) (by omega)
theorem push16 {k : Int} (hk : -32768 ≤ k ∧ k ≤ 32767) : (Int16.ofInt k).toInt32 = Int32.ofInt k := by
  rw [← Int32.toInt_inj, Int16.toInt_toInt32, toInt_ofInt32 (by unfold in32; omega)]
  exact Int16.toInt_ofInt_of_le (by omega) (by omega)
theorem ne32 {b : Int} (h : in32 b) (h0 : b ≠ 0) : ¬ Int32.ofInt b = 0 := fun e => h0 ((eq32 h (by unfold in32; omega)).mp (e.trans (by rfl)))
theorem encc {z : Zw} {v : AV} (hv : v.1 ≠ 1) : (enc z v).category = 1 := (lv_cat _).resolve_right (fun h => hv ((enc_cat z v).mp h))
theorem enc_ref (z : Zw) {a : Int} (ha : a ≠ -1) : ∃ q, enc z (2, a) = .ref q := by
  show ∃ q, va_rf (rfO z a) = .ref q
  unfold rfO
  split
  · exact ⟨_, rfl⟩
  · exact ⟨_, rfl⟩
theorem nar01 {a : Int} (ha : a = 0 ∨ a = 1) : narrow .boolean (.int (Int32.ofInt a)) = .int (Int32.ofInt a) := by
  rcases ha with rfl | rfl <;> rfl
section
variable {d kc ks : Nat} {y : Mth} {pc n t : Nat} {ls st : List AV} {g : Gs} {h : Hc} {P : Po}
def DI (y : Mth) (pc : Nat) (i : Int → Instr) (n t : Nat) : Prop := ∃ off : Int, decode (mB y) pc = .ok (i off, 3) ∧ pc + 3 = n ∧ (pc : Int) + off = (t : Int)
theorem R_iconst_m1  (hd : D y pc (.iconst (-1)) 1 n) (K : Run d kc ks y n ls (vI (-1) :: st) g h P) : Run d kc ks y pc ls (st) g h P := by
  intro z p l e R s m args below meth c H locs cells slots rls C hc hs hR hE hS hL ho1 ho2
  obtain ⟨hd, rfl⟩ := hd
  have k9 := K z p l e R s m args below meth c H locs cells slots rls C hc hs hR hE hS hL ho1 (okV_cons (okA_I (by unfold in32; omega)) ho2)
  exact lv_iconst C.1 C.2.1 hd rfl k9
theorem R_iconst_0  (hd : D y pc (.iconst 0) 1 n) (K : Run d kc ks y n ls (vI 0 :: st) g h P) : Run d kc ks y pc ls (st) g h P := by
  intro z p l e R s m args below meth c H locs cells slots rls C hc hs hR hE hS hL ho1 ho2
  obtain ⟨hd, rfl⟩ := hd
  have k9 := K z p l e R s m args below meth c H locs cells slots rls C hc hs hR hE hS hL ho1 (okV_cons (okA_I (by unfold in32; omega)) ho2)
  exact lv_iconst C.1 C.2.1 hd rfl k9
theorem R_iconst_1  (hd : D y pc (.iconst 1) 1 n) (K : Run d kc ks y n ls (vI 1 :: st) g h P) : Run d kc ks y pc ls (st) g h P := by
  intro z p l e R s m args below meth c H locs cells slots rls C hc hs hR hE hS hL ho1 ho2
  obtain ⟨hd, rfl⟩ := hd
  have k9 := K z p l e R s m args below meth c H locs cells slots rls C hc hs hR hE hS hL ho1 (okV_cons (okA_I (by unfold in32; omega)) ho2)
  exact lv_iconst C.1 C.2.1 hd rfl k9
theorem R_iconst_2  (hd : D y pc (.iconst 2) 1 n) (K : Run d kc ks y n ls (vI 2 :: st) g h P) : Run d kc ks y pc ls (st) g h P := by
  intro z p l e R s m args below meth c H locs cells slots rls C hc hs hR hE hS hL ho1 ho2
  obtain ⟨hd, rfl⟩ := hd
  have k9 := K z p l e R s m args below meth c H locs cells slots rls C hc hs hR hE hS hL ho1 (okV_cons (okA_I (by unfold in32; omega)) ho2)
  exact lv_iconst C.1 C.2.1 hd rfl k9
theorem R_iconst_3  (hd : D y pc (.iconst 3) 1 n) (K : Run d kc ks y n ls (vI 3 :: st) g h P) : Run d kc ks y pc ls (st) g h P := by
  intro z p l e R s m args below meth c H locs cells slots rls C hc hs hR hE hS hL ho1 ho2
  obtain ⟨hd, rfl⟩ := hd
  have k9 := K z p l e R s m args below meth c H locs cells slots rls C hc hs hR hE hS hL ho1 (okV_cons (okA_I (by unfold in32; omega)) ho2)
  exact lv_iconst C.1 C.2.1 hd rfl k9
theorem R_iconst_4  (hd : D y pc (.iconst 4) 1 n) (K : Run d kc ks y n ls (vI 4 :: st) g h P) : Run d kc ks y pc ls (st) g h P := by
  intro z p l e R s m args below meth c H locs cells slots rls C hc hs hR hE hS hL ho1 ho2
  obtain ⟨hd, rfl⟩ := hd
  have k9 := K z p l e R s m args below meth c H locs cells slots rls C hc hs hR hE hS hL ho1 (okV_cons (okA_I (by unfold in32; omega)) ho2)
  exact lv_iconst C.1 C.2.1 hd rfl k9
theorem R_iconst_5  (hd : D y pc (.iconst 5) 1 n) (K : Run d kc ks y n ls (vI 5 :: st) g h P) : Run d kc ks y pc ls (st) g h P := by
  intro z p l e R s m args below meth c H locs cells slots rls C hc hs hR hE hS hL ho1 ho2
  obtain ⟨hd, rfl⟩ := hd
  have k9 := K z p l e R s m args below meth c H locs cells slots rls C hc hs hR hE hS hL ho1 (okV_cons (okA_I (by unfold in32; omega)) ho2)
  exact lv_iconst C.1 C.2.1 hd rfl k9
theorem R_bipush {k : Int} (hd : D y pc (.bipush k) 2 n) (hk : -128 ≤ k ∧ k ≤ 127) (K : Run d kc ks y n ls (vI k :: st) g h P) : Run d kc ks y pc ls (st) g h P := by
  intro z p l e R s m args below meth c H locs cells slots rls C hc hs hR hE hS hL ho1 ho2
  obtain ⟨hd, rfl⟩ := hd
  have k9 := K z p l e R s m args below meth c H locs cells slots rls C hc hs hR hE hS hL ho1 (okV_cons (okA_I (by unfold in32; omega)) ho2)
  exact lv_bipush C.1 C.2.1 hd (push8 hk) k9
theorem R_sipush {k : Int} (hd : D y pc (.sipush k) 3 n) (hk : -32768 ≤ k ∧ k ≤ 32767) (K : Run d kc ks y n ls (vI k :: st) g h P) : Run d kc ks y pc ls (st) g h P := by
  intro z p l e R s m args below meth c H locs cells slots rls C hc hs hR hE hS hL ho1 ho2
  obtain ⟨hd, rfl⟩ := hd
  have k9 := K z p l e R s m args below meth c H locs cells slots rls C hc hs hR hE hS hL ho1 (okV_cons (okA_I (by unfold in32; omega)) ho2)
  exact lv_sipush C.1 C.2.1 hd (push16 hk) k9
theorem R_lconst_0  (hd : D y pc (.lconst 0) 1 n) (K : Run d kc ks y n ls (vL 0 :: st) g h P) : Run d kc ks y pc ls (st) g h P := by
  intro z p l e R s m args below meth c H locs cells slots rls C hc hs hR hE hS hL ho1 ho2
  obtain ⟨hd, rfl⟩ := hd
  have k9 := K z p l e R s m args below meth c H locs cells slots rls C hc hs hR hE hS hL ho1 (okV_cons (okA_L (by unfold in64; omega)) ho2)
  exact lv_lconst C.1 C.2.1 hd rfl k9
theorem R_lconst_1  (hd : D y pc (.lconst 1) 1 n) (K : Run d kc ks y n ls (vL 1 :: st) g h P) : Run d kc ks y pc ls (st) g h P := by
  intro z p l e R s m args below meth c H locs cells slots rls C hc hs hR hE hS hL ho1 ho2
  obtain ⟨hd, rfl⟩ := hd
  have k9 := K z p l e R s m args below meth c H locs cells slots rls C hc hs hR hE hS hL ho1 (okV_cons (okA_L (by unfold in64; omega)) ho2)
  exact lv_lconst C.1 C.2.1 hd rfl k9
theorem R_iadd {a b : Int} (hd : D y pc (.iadd) 1 n) (K : Run d kc ks y n ls (vI (wrap (a + b)) :: st) g h P) : Run d kc ks y pc ls (vI b :: vI a :: st) g h P := by
  intro z p l e R s m args below meth c H locs cells slots rls C hc hs hR hE hS hL ho1 ho2
  obtain ⟨hd, rfl⟩ := hd
  have k9 := K z p l e R s m args below meth c H locs cells slots rls C hc hs hR hE hS hL ho1 (okV_cons (okA_I (in32_wrap _)) (okV_tl (okV_tl ho2)))
  rw [List.map_cons, show enc z (vI (wrap (a + b))) = .int (Int32.ofInt a + Int32.ofInt b) from congrArg Value.int (ofInt_add32 a b)] at k9
  exact lv_iadd C.1 C.2.1 hd k9
theorem R_isub {a b : Int} (hd : D y pc (.isub) 1 n) (K : Run d kc ks y n ls (vI (wrap (a - b)) :: st) g h P) : Run d kc ks y pc ls (vI b :: vI a :: st) g h P := by
  intro z p l e R s m args below meth c H locs cells slots rls C hc hs hR hE hS hL ho1 ho2
  obtain ⟨hd, rfl⟩ := hd
  have k9 := K z p l e R s m args below meth c H locs cells slots rls C hc hs hR hE hS hL ho1 (okV_cons (okA_I (in32_wrap _)) (okV_tl (okV_tl ho2)))
  rw [List.map_cons, show enc z (vI (wrap (a - b))) = .int (Int32.ofInt a - Int32.ofInt b) from congrArg Value.int (ofInt_sub32 a b)] at k9
  exact lv_isub C.1 C.2.1 hd k9
theorem R_imul {a b : Int} (hd : D y pc (.imul) 1 n) (K : Run d kc ks y n ls (vI (wrap (a * b)) :: st) g h P) : Run d kc ks y pc ls (vI b :: vI a :: st) g h P := by
  intro z p l e R s m args below meth c H locs cells slots rls C hc hs hR hE hS hL ho1 ho2
  obtain ⟨hd, rfl⟩ := hd
  have k9 := K z p l e R s m args below meth c H locs cells slots rls C hc hs hR hE hS hL ho1 (okV_cons (okA_I (in32_wrap _)) (okV_tl (okV_tl ho2)))
  rw [List.map_cons, show enc z (vI (wrap (a * b))) = .int (Int32.ofInt a * Int32.ofInt b) from congrArg Value.int (ofInt_mul32 a b)] at k9
  exact lv_imul C.1 C.2.1 hd k9
theorem R_iand {a b : Int} (hd : D y pc (.iand) 1 n) (K : Run d kc ks y n ls (vI (andI a b) :: st) g h P) : Run d kc ks y pc ls (vI b :: vI a :: st) g h P := by
  intro z p l e R s m args below meth c H locs cells slots rls C hc hs hR hE hS hL ho1 ho2
  obtain ⟨hd, rfl⟩ := hd
  have k9 := K z p l e R s m args below meth c H locs cells slots rls C hc hs hR hE hS hL ho1 (okV_cons (okA_I (in32_toInt _)) (okV_tl (okV_tl ho2)))
  rw [List.map_cons, show enc z (vI (andI a b)) = .int (Int32.ofInt a &&& Int32.ofInt b) from congrArg Value.int (ofInt_andI a b)] at k9
  exact lv_iand C.1 C.2.1 hd k9
theorem R_ior {a b : Int} (hd : D y pc (.ior) 1 n) (K : Run d kc ks y n ls (vI (orI a b) :: st) g h P) : Run d kc ks y pc ls (vI b :: vI a :: st) g h P := by
  intro z p l e R s m args below meth c H locs cells slots rls C hc hs hR hE hS hL ho1 ho2
  obtain ⟨hd, rfl⟩ := hd
  have k9 := K z p l e R s m args below meth c H locs cells slots rls C hc hs hR hE hS hL ho1 (okV_cons (okA_I (in32_toInt _)) (okV_tl (okV_tl ho2)))
  rw [List.map_cons, show enc z (vI (orI a b)) = .int (Int32.ofInt a ||| Int32.ofInt b) from congrArg Value.int (ofInt_orI a b)] at k9
  exact lv_ior C.1 C.2.1 hd k9
theorem R_ixor {a b : Int} (hd : D y pc (.ixor) 1 n) (K : Run d kc ks y n ls (vI (xorI a b) :: st) g h P) : Run d kc ks y pc ls (vI b :: vI a :: st) g h P := by
  intro z p l e R s m args below meth c H locs cells slots rls C hc hs hR hE hS hL ho1 ho2
  obtain ⟨hd, rfl⟩ := hd
  have k9 := K z p l e R s m args below meth c H locs cells slots rls C hc hs hR hE hS hL ho1 (okV_cons (okA_I (in32_toInt _)) (okV_tl (okV_tl ho2)))
  rw [List.map_cons, show enc z (vI (xorI a b)) = .int (Int32.ofInt a ^^^ Int32.ofInt b) from congrArg Value.int (ofInt_xorI a b)] at k9
  exact lv_ixor C.1 C.2.1 hd k9
theorem R_ishl {a b : Int} (hd : D y pc (.ishl) 1 n) (K : Run d kc ks y n ls (vI (shlI a b) :: st) g h P) : Run d kc ks y pc ls (vI b :: vI a :: st) g h P := by
  intro z p l e R s m args below meth c H locs cells slots rls C hc hs hR hE hS hL ho1 ho2
  obtain ⟨hd, rfl⟩ := hd
  have k9 := K z p l e R s m args below meth c H locs cells slots rls C hc hs hR hE hS hL ho1 (okV_cons (okA_I (in32_toInt _)) (okV_tl (okV_tl ho2)))
  rw [List.map_cons, show enc z (vI (shlI a b)) = .int (Int32.ofInt a <<< (Int32.ofInt b &&& 31)) from congrArg Value.int (ofInt_shlI a b)] at k9
  exact lv_ishl C.1 C.2.1 hd k9
theorem R_ishr {a b : Int} (hd : D y pc (.ishr) 1 n) (K : Run d kc ks y n ls (vI (shrI a b) :: st) g h P) : Run d kc ks y pc ls (vI b :: vI a :: st) g h P := by
  intro z p l e R s m args below meth c H locs cells slots rls C hc hs hR hE hS hL ho1 ho2
  obtain ⟨hd, rfl⟩ := hd
  have k9 := K z p l e R s m args below meth c H locs cells slots rls C hc hs hR hE hS hL ho1 (okV_cons (okA_I (in32_toInt _)) (okV_tl (okV_tl ho2)))
  rw [List.map_cons, show enc z (vI (shrI a b)) = .int (Int32.ofInt a >>> (Int32.ofInt b &&& 31)) from congrArg Value.int (ofInt_shrI a b)] at k9
  exact lv_ishr C.1 C.2.1 hd k9
theorem R_idiv {a b : Int} (hd : D y pc (.idiv) 1 n) (hb0 : b ≠ 0) (K : Run d kc ks y n ls (vI (wrap (a.tdiv b)) :: st) g h P) : Run d kc ks y pc ls (vI b :: vI a :: st) g h P := by
  intro z p l e R s m args below meth c H locs cells slots rls C hc hs hR hE hS hL ho1 ho2
  obtain ⟨hd, rfl⟩ := hd
  have k9 := K z p l e R s m args below meth c H locs cells slots rls C hc hs hR hE hS hL ho1 (okV_cons (okA_I (in32_wrap _)) (okV_tl (okV_tl ho2)))
  rw [List.map_cons, show enc z (vI (wrap (a.tdiv b))) = .int (Int32.ofInt a / Int32.ofInt b) from congrArg Value.int (ofInt_div32 (okV_hd (okV_tl ho2)).i (okV_hd ho2).i)] at k9
  exact lv_idiv C.1 C.2.1 hd (ne32 (okV_hd ho2).i hb0) k9
theorem R_irem {a b : Int} (hd : D y pc (.irem) 1 n) (hb0 : b ≠ 0) (K : Run d kc ks y n ls (vI (a.tmod b) :: st) g h P) : Run d kc ks y pc ls (vI b :: vI a :: st) g h P := by
  intro z p l e R s m args below meth c H locs cells slots rls C hc hs hR hE hS hL ho1 ho2
  obtain ⟨hd, rfl⟩ := hd
  have k9 := K z p l e R s m args below meth c H locs cells slots rls C hc hs hR hE hS hL ho1 (okV_cons (okA_I (in32_tmod (okV_hd (okV_tl ho2)).i)) (okV_tl (okV_tl ho2)))
  rw [List.map_cons, show enc z (vI (a.tmod b)) = .int (Int32.ofInt a - Int32.ofInt a / Int32.ofInt b * Int32.ofInt b) from congrArg Value.int (ofInt_rem32 (okV_hd (okV_tl ho2)).i (okV_hd ho2).i)] at k9
  exact lv_irem C.1 C.2.1 hd (ne32 (okV_hd ho2).i hb0) k9
theorem R_iushr {a b : Int} (hd : D y pc (.iushr) 1 n) (K : Run d kc ks y n ls (vI (ushrI a b) :: st) g h P) : Run d kc ks y pc ls (vI b :: vI a :: st) g h P := by
  intro z p l e R s m args below meth c H locs cells slots rls C hc hs hR hE hS hL ho1 ho2
  obtain ⟨hd, rfl⟩ := hd
  have k9 := K z p l e R s m args below meth c H locs cells slots rls C hc hs hR hE hS hL ho1 (okV_cons (okA_I (in32_toInt _)) (okV_tl (okV_tl ho2)))
  exact lv_iushr C.1 C.2.1 hd (ofInt_ushrI a b).symm k9
theorem R_i2b {a : Int} (hd : D y pc (.i2b) 1 n) (K : Run d kc ks y n ls (vI (wrapB a) :: st) g h P) : Run d kc ks y pc ls (vI a :: st) g h P := by
  intro z p l e R s m args below meth c H locs cells slots rls C hc hs hR hE hS hL ho1 ho2
  obtain ⟨hd, rfl⟩ := hd
  have k9 := K z p l e R s m args below meth c H locs cells slots rls C hc hs hR hE hS hL ho1 (okV_cons (okA_I (in32_toInt _)) (okV_tl ho2))
  exact lv_i2b C.1 C.2.1 hd (ofInt_wrapB a).symm k9
theorem R_i2l {a : Int} (hd : D y pc (.i2l) 1 n) (K : Run d kc ks y n ls (vL a :: st) g h P) : Run d kc ks y pc ls (vI a :: st) g h P := by
  intro z p l e R s m args below meth c H locs cells slots rls C hc hs hR hE hS hL ho1 ho2
  obtain ⟨hd, rfl⟩ := hd
  have k9 := K z p l e R s m args below meth c H locs cells slots rls C hc hs hR hE hS hL ho1 (okV_cons (okA_L (in64_of32 (okV_hd ho2).i)) (okV_tl ho2))
  exact lv_i2l C.1 C.2.1 hd (i2l32 (okV_hd ho2).i) k9
theorem R_land {a b : Int} (hd : D y pc (.land) 1 n) (K : Run d kc ks y n ls (vL (andL a b) :: st) g h P) : Run d kc ks y pc ls (vL b :: vL a :: st) g h P := by
  intro z p l e R s m args below meth c H locs cells slots rls C hc hs hR hE hS hL ho1 ho2
  obtain ⟨hd, rfl⟩ := hd
  have k9 := K z p l e R s m args below meth c H locs cells slots rls C hc hs hR hE hS hL ho1 (okV_cons (okA_L (in64_toInt _)) (okV_tl (okV_tl ho2)))
  rw [List.map_cons, show enc z (vL (andL a b)) = .long (Int64.ofInt a &&& Int64.ofInt b) from congrArg Value.long (ofInt_andL a b)] at k9
  exact lv_land C.1 C.2.1 hd k9
theorem R_lor {a b : Int} (hd : D y pc (.lor) 1 n) (K : Run d kc ks y n ls (vL (orL a b) :: st) g h P) : Run d kc ks y pc ls (vL b :: vL a :: st) g h P := by
  intro z p l e R s m args below meth c H locs cells slots rls C hc hs hR hE hS hL ho1 ho2
  obtain ⟨hd, rfl⟩ := hd
  have k9 := K z p l e R s m args below meth c H locs cells slots rls C hc hs hR hE hS hL ho1 (okV_cons (okA_L (in64_toInt _)) (okV_tl (okV_tl ho2)))
  rw [List.map_cons, show enc z (vL (orL a b)) = .long (Int64.ofInt a ||| Int64.ofInt b) from congrArg Value.long (ofInt_orL a b)] at k9
  exact lv_lor C.1 C.2.1 hd k9
theorem R_lshl {a b : Int} (hd : D y pc (.lshl) 1 n) (K : Run d kc ks y n ls (vL (shlL a b) :: st) g h P) : Run d kc ks y pc ls (vI b :: vL a :: st) g h P := by
  intro z p l e R s m args below meth c H locs cells slots rls C hc hs hR hE hS hL ho1 ho2
  obtain ⟨hd, rfl⟩ := hd
  have k9 := K z p l e R s m args below meth c H locs cells slots rls C hc hs hR hE hS hL ho1 (okV_cons (okA_L (in64_toInt _)) (okV_tl (okV_tl ho2)))
  exact lv_lshl C.1 C.2.1 hd (ofInt_shlL a b).symm k9
theorem R_lshr {a b : Int} (hd : D y pc (.lshr) 1 n) (K : Run d kc ks y n ls (vL (shrL a b) :: st) g h P) : Run d kc ks y pc ls (vI b :: vL a :: st) g h P := by
  intro z p l e R s m args below meth c H locs cells slots rls C hc hs hR hE hS hL ho1 ho2
  obtain ⟨hd, rfl⟩ := hd
  have k9 := K z p l e R s m args below meth c H locs cells slots rls C hc hs hR hE hS hL ho1 (okV_cons (okA_L (in64_toInt _)) (okV_tl (okV_tl ho2)))
  exact lv_lshr C.1 C.2.1 hd (ofInt_shrL a b).symm k9
theorem R_lcmp {a b : Int} (hd : D y pc (.lcmp) 1 n) (K : Run d kc ks y n ls (vI (cmpL a b) :: st) g h P) : Run d kc ks y pc ls (vL b :: vL a :: st) g h P := by
  intro z p l e R s m args below meth c H locs cells slots rls C hc hs hR hE hS hL ho1 ho2
  obtain ⟨hd, rfl⟩ := hd
  have k9 := K z p l e R s m args below meth c H locs cells slots rls C hc hs hR hE hS hL ho1 (okV_cons (okA_I (in32_cmpL _ _)) (okV_tl (okV_tl ho2)))
  rw [List.map_cons, show enc z (vI (cmpL a b)) = .int (lg_cmp (Int64.ofInt a) (Int64.ofInt b)) from congrArg Value.int (cmpL_eq (okV_hd (okV_tl ho2)).l (okV_hd ho2).l)] at k9
  exact W.lcmp C.1 C.2.1 hd k9
theorem R_dup {v : AV} (hd : D y pc (.dup) 1 n) (hv : v.1 ≠ 1) (K : Run d kc ks y n ls (v :: v :: st) g h P) : Run d kc ks y pc ls (v :: st) g h P := by
  intro z p l e R s m args below meth c H locs cells slots rls C hc hs hR hE hS hL ho1 ho2
  obtain ⟨hd, rfl⟩ := hd
  have k9 := K z p l e R s m args below meth c H locs cells slots rls C hc hs hR hE hS hL ho1 (okV_cons (okV_hd ho2) ho2)
  exact lv_dup C.1 C.2.1 hd (encc hv) k9
theorem R_pop {v : AV} (hd : D y pc (.pop) 1 n) (hv : v.1 ≠ 1) (K : Run d kc ks y n ls (st) g h P) : Run d kc ks y pc ls (v :: st) g h P := by
  intro z p l e R s m args below meth c H locs cells slots rls C hc hs hR hE hS hL ho1 ho2
  obtain ⟨hd, rfl⟩ := hd
  have k9 := K z p l e R s m args below meth c H locs cells slots rls C hc hs hR hE hS hL ho1 (okV_tl ho2)
  exact lv_pop C.1 C.2.1 hd (encc hv) k9
theorem R_dup2 {v w : AV} (hd : D y pc (.dup2) 1 n) (hv : v.1 ≠ 1) (hw : w.1 ≠ 1) (K : Run d kc ks y n ls (v :: w :: v :: w :: st) g h P) : Run d kc ks y pc ls (v :: w :: st) g h P := by
  intro z p l e R s m args below meth c H locs cells slots rls C hc hs hR hE hS hL ho1 ho2
  obtain ⟨hd, rfl⟩ := hd
  have k9 := K z p l e R s m args below meth c H locs cells slots rls C hc hs hR hE hS hL ho1 (okV_cons (okV_hd ho2) (okV_cons (okV_hd (okV_tl ho2)) ho2))
  exact lv_dup2_11 C.1 C.2.1 hd (encc hv) (encc hw) k9
theorem R_icmp_eq {a b : Int} (hd : DI y pc (Instr.if_icmp .eq) n t) (KT : a = b → Run d kc ks y t ls st g h P) (KF : ¬ (a = b) → Run d kc ks y n ls st g h P) : Run d kc ks y pc ls (vI b :: vI a :: st) g h P := by
  intro z p l e R s m args below meth c H locs cells slots rls C hc hs hR hE hS hL ho1 ho2
  obtain ⟨off, hd, rfl, ht⟩ := hd
  have hB := (okV_hd ho2).i
  have hA := (okV_hd (okV_tl ho2)).i
  have q9 := eq32 hA hB
  exact lv_icmp_eq C.1 C.2.1 hd ht (fun q => KT (q9.mp q) z p l e R s m args below meth c H locs cells slots rls C hc hs hR hE hS hL ho1 (okV_tl (okV_tl ho2))) (fun q => KF (fun q2 => q (q9.mpr q2)) z p l e R s m args below meth c H locs cells slots rls C hc hs hR hE hS hL ho1 (okV_tl (okV_tl ho2)))
theorem R_if_eq {a : Int} (hd : DI y pc (Instr.ifCond .eq) n t) (KT : a = 0 → Run d kc ks y t ls st g h P) (KF : ¬ (a = 0) → Run d kc ks y n ls st g h P) : Run d kc ks y pc ls (vI a :: st) g h P := by
  intro z p l e R s m args below meth c H locs cells slots rls C hc hs hR hE hS hL ho1 ho2
  obtain ⟨off, hd, rfl, ht⟩ := hd
  have hA := (okV_hd ho2).i
  have h0 : in32 0 := by unfold in32; omega
  have q9 := eq32 hA h0
  exact lv_if_eq C.1 C.2.1 hd ht (fun q => KT (q9.mp q) z p l e R s m args below meth c H locs cells slots rls C hc hs hR hE hS hL ho1 (okV_tl ho2)) (fun q => KF (fun q2 => q (q9.mpr q2)) z p l e R s m args below meth c H locs cells slots rls C hc hs hR hE hS hL ho1 (okV_tl ho2))
theorem R_icmp_ne {a b : Int} (hd : DI y pc (Instr.if_icmp .ne) n t) (KT : ¬ a = b → Run d kc ks y t ls st g h P) (KF : a = b → Run d kc ks y n ls st g h P) : Run d kc ks y pc ls (vI b :: vI a :: st) g h P := by
  intro z p l e R s m args below meth c H locs cells slots rls C hc hs hR hE hS hL ho1 ho2
  obtain ⟨off, hd, rfl, ht⟩ := hd
  have hB := (okV_hd ho2).i
  have hA := (okV_hd (okV_tl ho2)).i
  have q9 := not_congr (eq32 hA hB)
  exact lv_icmp_ne C.1 C.2.1 hd ht (fun q => KT (q9.mp q) z p l e R s m args below meth c H locs cells slots rls C hc hs hR hE hS hL ho1 (okV_tl (okV_tl ho2))) (fun q => KF ((eq32 hA hB).mp q) z p l e R s m args below meth c H locs cells slots rls C hc hs hR hE hS hL ho1 (okV_tl (okV_tl ho2)))
theorem R_if_ne {a : Int} (hd : DI y pc (Instr.ifCond .ne) n t) (KT : ¬ a = 0 → Run d kc ks y t ls st g h P) (KF : a = 0 → Run d kc ks y n ls st g h P) : Run d kc ks y pc ls (vI a :: st) g h P := by
  intro z p l e R s m args below meth c H locs cells slots rls C hc hs hR hE hS hL ho1 ho2
  obtain ⟨off, hd, rfl, ht⟩ := hd
  have hA := (okV_hd ho2).i
  have h0 : in32 0 := by unfold in32; omega
  have q9 := not_congr (eq32 hA h0)
  exact lv_if_ne C.1 C.2.1 hd ht (fun q => KT (q9.mp q) z p l e R s m args below meth c H locs cells slots rls C hc hs hR hE hS hL ho1 (okV_tl ho2)) (fun q => KF ((eq32 hA h0).mp q) z p l e R s m args below meth c H locs cells slots rls C hc hs hR hE hS hL ho1 (okV_tl ho2))
theorem R_icmp_lt {a b : Int} (hd : DI y pc (Instr.if_icmp .lt) n t) (KT : a < b → Run d kc ks y t ls st g h P) (KF : ¬ (a < b) → Run d kc ks y n ls st g h P) : Run d kc ks y pc ls (vI b :: vI a :: st) g h P := by
  intro z p l e R s m args below meth c H locs cells slots rls C hc hs hR hE hS hL ho1 ho2
  obtain ⟨off, hd, rfl, ht⟩ := hd
  have hB := (okV_hd ho2).i
  have hA := (okV_hd (okV_tl ho2)).i
  have q9 := lt32 hA hB
  exact lv_icmp_lt C.1 C.2.1 hd ht (fun q => KT (q9.mp q) z p l e R s m args below meth c H locs cells slots rls C hc hs hR hE hS hL ho1 (okV_tl (okV_tl ho2))) (fun q => KF (fun q2 => q (q9.mpr q2)) z p l e R s m args below meth c H locs cells slots rls C hc hs hR hE hS hL ho1 (okV_tl (okV_tl ho2)))
theorem R_if_lt {a : Int} (hd : DI y pc (Instr.ifCond .lt) n t) (KT : a < 0 → Run d kc ks y t ls st g h P) (KF : ¬ (a < 0) → Run d kc ks y n ls st g h P) : Run d kc ks y pc ls (vI a :: st) g h P := by
  intro z p l e R s m args below meth c H locs cells slots rls C hc hs hR hE hS hL ho1 ho2
  obtain ⟨off, hd, rfl, ht⟩ := hd
  have hA := (okV_hd ho2).i
  have h0 : in32 0 := by unfold in32; omega
  have q9 := lt32 hA h0
  exact lv_if_lt C.1 C.2.1 hd ht (fun q => KT (q9.mp q) z p l e R s m args below meth c H locs cells slots rls C hc hs hR hE hS hL ho1 (okV_tl ho2)) (fun q => KF (fun q2 => q (q9.mpr q2)) z p l e R s m args below meth c H locs cells slots rls C hc hs hR hE hS hL ho1 (okV_tl ho2))
theorem R_icmp_ge {a b : Int} (hd : DI y pc (Instr.if_icmp .ge) n t) (KT : b ≤ a → Run d kc ks y t ls st g h P) (KF : ¬ (b ≤ a) → Run d kc ks y n ls st g h P) : Run d kc ks y pc ls (vI b :: vI a :: st) g h P := by
  intro z p l e R s m args below meth c H locs cells slots rls C hc hs hR hE hS hL ho1 ho2
  obtain ⟨off, hd, rfl, ht⟩ := hd
  have hB := (okV_hd ho2).i
  have hA := (okV_hd (okV_tl ho2)).i
  have q9 := le32 hB hA
  exact lv_icmp_ge C.1 C.2.1 hd ht (fun q => KT (q9.mp q) z p l e R s m args below meth c H locs cells slots rls C hc hs hR hE hS hL ho1 (okV_tl (okV_tl ho2))) (fun q => KF (fun q2 => q (q9.mpr q2)) z p l e R s m args below meth c H locs cells slots rls C hc hs hR hE hS hL ho1 (okV_tl (okV_tl ho2)))
theorem R_if_ge {a : Int} (hd : DI y pc (Instr.ifCond .ge) n t) (KT : 0 ≤ a → Run d kc ks y t ls st g h P) (KF : ¬ (0 ≤ a) → Run d kc ks y n ls st g h P) : Run d kc ks y pc ls (vI a :: st) g h P := by
  intro z p l e R s m args below meth c H locs cells slots rls C hc hs hR hE hS hL ho1 ho2
  obtain ⟨off, hd, rfl, ht⟩ := hd
  have hA := (okV_hd ho2).i
  have h0 : in32 0 := by unfold in32; omega
  have q9 := le32 h0 hA
  exact lv_if_ge C.1 C.2.1 hd ht (fun q => KT (q9.mp q) z p l e R s m args below meth c H locs cells slots rls C hc hs hR hE hS hL ho1 (okV_tl ho2)) (fun q => KF (fun q2 => q (q9.mpr q2)) z p l e R s m args below meth c H locs cells slots rls C hc hs hR hE hS hL ho1 (okV_tl ho2))
theorem R_icmp_gt {a b : Int} (hd : DI y pc (Instr.if_icmp .gt) n t) (KT : b < a → Run d kc ks y t ls st g h P) (KF : ¬ (b < a) → Run d kc ks y n ls st g h P) : Run d kc ks y pc ls (vI b :: vI a :: st) g h P := by
  intro z p l e R s m args below meth c H locs cells slots rls C hc hs hR hE hS hL ho1 ho2
  obtain ⟨off, hd, rfl, ht⟩ := hd
  have hB := (okV_hd ho2).i
  have hA := (okV_hd (okV_tl ho2)).i
  have q9 := lt32 hB hA
  exact lv_icmp_gt C.1 C.2.1 hd ht (fun q => KT (q9.mp q) z p l e R s m args below meth c H locs cells slots rls C hc hs hR hE hS hL ho1 (okV_tl (okV_tl ho2))) (fun q => KF (fun q2 => q (q9.mpr q2)) z p l e R s m args below meth c H locs cells slots rls C hc hs hR hE hS hL ho1 (okV_tl (okV_tl ho2)))
theorem R_if_gt {a : Int} (hd : DI y pc (Instr.ifCond .gt) n t) (KT : 0 < a → Run d kc ks y t ls st g h P) (KF : ¬ (0 < a) → Run d kc ks y n ls st g h P) : Run d kc ks y pc ls (vI a :: st) g h P := by
  intro z p l e R s m args below meth c H locs cells slots rls C hc hs hR hE hS hL ho1 ho2
  obtain ⟨off, hd, rfl, ht⟩ := hd
  have hA := (okV_hd ho2).i
  have h0 : in32 0 := by unfold in32; omega
  have q9 := lt32 h0 hA
  exact lv_if_gt C.1 C.2.1 hd ht (fun q => KT (q9.mp q) z p l e R s m args below meth c H locs cells slots rls C hc hs hR hE hS hL ho1 (okV_tl ho2)) (fun q => KF (fun q2 => q (q9.mpr q2)) z p l e R s m args below meth c H locs cells slots rls C hc hs hR hE hS hL ho1 (okV_tl ho2))
theorem R_icmp_le {a b : Int} (hd : DI y pc (Instr.if_icmp .le) n t) (KT : a ≤ b → Run d kc ks y t ls st g h P) (KF : ¬ (a ≤ b) → Run d kc ks y n ls st g h P) : Run d kc ks y pc ls (vI b :: vI a :: st) g h P := by
  intro z p l e R s m args below meth c H locs cells slots rls C hc hs hR hE hS hL ho1 ho2
  obtain ⟨off, hd, rfl, ht⟩ := hd
  have hB := (okV_hd ho2).i
  have hA := (okV_hd (okV_tl ho2)).i
  have q9 := le32 hA hB
  exact lv_icmp_le C.1 C.2.1 hd ht (fun q => KT (q9.mp q) z p l e R s m args below meth c H locs cells slots rls C hc hs hR hE hS hL ho1 (okV_tl (okV_tl ho2))) (fun q => KF (fun q2 => q (q9.mpr q2)) z p l e R s m args below meth c H locs cells slots rls C hc hs hR hE hS hL ho1 (okV_tl (okV_tl ho2)))
theorem R_if_le {a : Int} (hd : DI y pc (Instr.ifCond .le) n t) (KT : a ≤ 0 → Run d kc ks y t ls st g h P) (KF : ¬ (a ≤ 0) → Run d kc ks y n ls st g h P) : Run d kc ks y pc ls (vI a :: st) g h P := by
  intro z p l e R s m args below meth c H locs cells slots rls C hc hs hR hE hS hL ho1 ho2
  obtain ⟨off, hd, rfl, ht⟩ := hd
  have hA := (okV_hd ho2).i
  have h0 : in32 0 := by unfold in32; omega
  have q9 := le32 hA h0
  exact lv_if_le C.1 C.2.1 hd ht (fun q => KT (q9.mp q) z p l e R s m args below meth c H locs cells slots rls C hc hs hR hE hS hL ho1 (okV_tl ho2)) (fun q => KF (fun q2 => q (q9.mpr q2)) z p l e R s m args below meth c H locs cells slots rls C hc hs hR hE hS hL ho1 (okV_tl ho2))
theorem R_goto (hd : DI y pc Instr.goto n t) (K : Run d kc ks y t ls st g h P) : Run d kc ks y pc ls st g h P := by
  intro z p l e R s m args below meth c H locs cells slots rls C hc hs hR hE hS hL ho1 ho2
  obtain ⟨off, hd, rfl, ht⟩ := hd
  exact lv_goto C.1 C.2.1 hd ht (K z p l e R s m args below meth c H locs cells slots rls C hc hs hR hE hS hL ho1 ho2)
theorem R_iload_n {k : Fin 4} {i : Nat} {a : Int} (hd : D y pc (.iload_n k) 1 n) (hk : (k : Nat) = i) (hl : ls[i]? = some (vI a)) (K : Run d kc ks y n ls (vI a :: st) g h P) : Run d kc ks y pc ls st g h P := by
  intro z p l e R s m args below meth c H locs cells slots rls C hc hs hR hE hS hL ho1 ho2
  obtain ⟨hd, rfl⟩ := hd
  have k9 := K z p l e R s m args below meth c H locs cells slots rls C hc hs hR hE hS hL ho1 (okV_cons (okV_get ho1 hl) ho2)
  exact lv_iload_n C.1 C.2.1 hd hk (hL.2.2 i _ hl ⟨(by simp), fun e => nomatch e⟩) k9
theorem R_iload {i : Nat} {a : Int} (hd : D y pc (.iload i) 2 n) (hl : ls[i]? = some (vI a)) (K : Run d kc ks y n ls (vI a :: st) g h P) : Run d kc ks y pc ls st g h P := by
  intro z p l e R s m args below meth c H locs cells slots rls C hc hs hR hE hS hL ho1 ho2
  obtain ⟨hd, rfl⟩ := hd
  have k9 := K z p l e R s m args below meth c H locs cells slots rls C hc hs hR hE hS hL ho1 (okV_cons (okV_get ho1 hl) ho2)
  exact lv_iload C.1 C.2.1 hd (hL.2.2 i _ hl ⟨(by simp), fun e => nomatch e⟩) k9
theorem R_lload_n {k : Fin 4} {i : Nat} {a : Int} (hd : D y pc (.lload_n k) 1 n) (hk : (k : Nat) = i) (hl : ls[i]? = some (vL a)) (hl2 : ls[i + 1]? = some vU) (K : Run d kc ks y n ls (vL a :: st) g h P) : Run d kc ks y pc ls st g h P := by
  intro z p l e R s m args below meth c H locs cells slots rls C hc hs hR hE hS hL ho1 ho2
  obtain ⟨hd, rfl⟩ := hd
  have k9 := K z p l e R s m args below meth c H locs cells slots rls C hc hs hR hE hS hL ho1 (okV_cons (okV_get ho1 hl) ho2)
  exact lv_lload_n C.1 C.2.1 hd hk (hL.2.2 i _ hl ⟨(by simp), fun _ => ⟨_, hl2, rfl⟩⟩) k9
theorem R_lload {i : Nat} {a : Int} (hd : D y pc (.lload i) 2 n) (hl : ls[i]? = some (vL a)) (hl2 : ls[i + 1]? = some vU) (K : Run d kc ks y n ls (vL a :: st) g h P) : Run d kc ks y pc ls st g h P := by
  intro z p l e R s m args below meth c H locs cells slots rls C hc hs hR hE hS hL ho1 ho2
  obtain ⟨hd, rfl⟩ := hd
  have k9 := K z p l e R s m args below meth c H locs cells slots rls C hc hs hR hE hS hL ho1 (okV_cons (okV_get ho1 hl) ho2)
  exact lv_lload C.1 C.2.1 hd (hL.2.2 i _ hl ⟨(by simp), fun _ => ⟨_, hl2, rfl⟩⟩) k9
theorem R_aload_n {k : Fin 4} {i : Nat} {a : Int} (hd : D y pc (.aload_n k) 1 n) (hk : (k : Nat) = i) (hl : ls[i]? = some (2, a)) (ha : a ≠ -1) (K : Run d kc ks y n ls ((2, a) :: st) g h P) : Run d kc ks y pc ls st g h P := by
  intro z p l e R s m args below meth c H locs cells slots rls C hc hs hR hE hS hL ho1 ho2
  obtain ⟨hd, rfl⟩ := hd
  obtain ⟨q, hq⟩ := enc_ref z ha
  have k9 := K z p l e R s m args below meth c H locs cells slots rls C hc hs hR hE hS hL ho1 (okV_cons (okV_get ho1 hl) ho2)
  rw [List.map_cons, hq] at k9
  exact lv_aload_n C.1 C.2.1 hd hk ((hL.2.2 i _ hl ⟨(by simp), fun e => nomatch e⟩).trans (by rw [hq])) k9
theorem R_aload {i : Nat} {a : Int} (hd : D y pc (.aload i) 2 n) (hl : ls[i]? = some (2, a)) (ha : a ≠ -1) (K : Run d kc ks y n ls ((2, a) :: st) g h P) : Run d kc ks y pc ls st g h P := by
  intro z p l e R s m args below meth c H locs cells slots rls C hc hs hR hE hS hL ho1 ho2
  obtain ⟨hd, rfl⟩ := hd
  obtain ⟨q, hq⟩ := enc_ref z ha
  have k9 := K z p l e R s m args below meth c H locs cells slots rls C hc hs hR hE hS hL ho1 (okV_cons (okV_get ho1 hl) ho2)
  rw [List.map_cons, hq] at k9
  exact lv_aload C.1 C.2.1 hd ((hL.2.2 i _ hl ⟨(by simp), fun e => nomatch e⟩).trans (by rw [hq])) k9
theorem R_istore_n {k : Fin 4} {i : Nat} {a : Int} (hd : D y pc (.istore_n k) 1 n) (hk : (k : Nat) = i) (hi : i < ls.length) (K : Run d kc ks y n (ls.set i (vI a)) st g h P) : Run d kc ks y pc ls (vI a :: st) g h P := by
  intro z p l e R s m args below meth c H locs cells slots rls C hc hs hR hE hS hL ho1 ho2
  obtain ⟨hd, rfl⟩ := hd
  exact lv_istore_n C.1 C.2.1 hd hk hL.has (by rw [← hL.1]; exact hi) rfl (fun ls2 h2 => K z p l e R s m args below meth c H locs cells slots ls2 C hc hs hR hE hS (LRep.set1 hL.1 (Or.inl rfl) h2) (okV_set ho1 (okV_hd ho2)) (okV_tl ho2))
theorem R_istore {i : Nat} {a : Int} (hd : D y pc (.istore i) 2 n) (hi : i < ls.length) (K : Run d kc ks y n (ls.set i (vI a)) st g h P) : Run d kc ks y pc ls (vI a :: st) g h P := by
  intro z p l e R s m args below meth c H locs cells slots rls C hc hs hR hE hS hL ho1 ho2
  obtain ⟨hd, rfl⟩ := hd
  exact lv_istore C.1 C.2.1 hd hL.has (by rw [← hL.1]; exact hi) rfl (fun ls2 h2 => K z p l e R s m args below meth c H locs cells slots ls2 C hc hs hR hE hS (LRep.set1 hL.1 (Or.inl rfl) h2) (okV_set ho1 (okV_hd ho2)) (okV_tl ho2))
theorem R_astore_n {k : Fin 4} {i : Nat} {a : Int} (hd : D y pc (.astore_n k) 1 n) (hk : (k : Nat) = i) (hi : i < ls.length) (ha : a ≠ -1) (K : Run d kc ks y n (ls.set i (2, a)) st g h P) : Run d kc ks y pc ls ((2, a) :: st) g h P := by
  intro z p l e R s m args below meth c H locs cells slots rls C hc hs hR hE hS hL ho1 ho2
  obtain ⟨hd, rfl⟩ := hd
  obtain ⟨q, hq⟩ := enc_ref z ha
  rw [List.map_cons, hq]
  exact lv_astore_n C.1 C.2.1 hd hk hL.has (by rw [← hL.1]; exact hi) rfl (fun ls2 h2 => K z p l e R s m args below meth c H locs cells slots ls2 C hc hs hR hE hS (LRep.set1 hL.1 (Or.inr rfl) (by rw [hq]; exact h2)) (okV_set ho1 (okV_hd ho2)) (okV_tl ho2))
theorem R_astore {i : Nat} {a : Int} (hd : D y pc (.astore i) 2 n) (hi : i < ls.length) (ha : a ≠ -1) (K : Run d kc ks y n (ls.set i (2, a)) st g h P) : Run d kc ks y pc ls ((2, a) :: st) g h P := by
  intro z p l e R s m args below meth c H locs cells slots rls C hc hs hR hE hS hL ho1 ho2
  obtain ⟨hd, rfl⟩ := hd
  obtain ⟨q, hq⟩ := enc_ref z ha
  rw [List.map_cons, hq]
  exact lv_astore C.1 C.2.1 hd hL.has (by rw [← hL.1]; exact hi) rfl (fun ls2 h2 => K z p l e R s m args below meth c H locs cells slots ls2 C hc hs hR hE hS (LRep.set1 hL.1 (Or.inr rfl) (by rw [hq]; exact h2)) (okV_set ho1 (okV_hd ho2)) (okV_tl ho2))
theorem R_lstore_n {k : Fin 4} {i : Nat} {a : Int} (hd : D y pc (.lstore_n k) 1 n) (hk : (k : Nat) = i) (hi : i + 1 < ls.length) (K : Run d kc ks y n ((ls.set i (vL a)).set (i + 1) vU) st g h P) : Run d kc ks y pc ls (vL a :: st) g h P := by
  intro z p l e R s m args below meth c H locs cells slots rls C hc hs hR hE hS hL ho1 ho2
  obtain ⟨hd, rfl⟩ := hd
  exact lv_lstore_n C.1 C.2.1 hd hk hL.has (by rw [← hL.1]; exact hi) rfl (fun ls2 h2 => K z p l e R s m args below meth c H locs cells slots ls2 C hc hs hR hE hS (LRep.set2 hL.1 rfl h2) (okV_set (okV_set ho1 (okV_hd ho2)) (okA_U 0)) (okV_tl ho2))
theorem R_lstore {i : Nat} {a : Int} (hd : D y pc (.lstore i) 2 n) (hi : i + 1 < ls.length) (K : Run d kc ks y n ((ls.set i (vL a)).set (i + 1) vU) st g h P) : Run d kc ks y pc ls (vL a :: st) g h P := by
  intro z p l e R s m args below meth c H locs cells slots rls C hc hs hR hE hS hL ho1 ho2
  obtain ⟨hd, rfl⟩ := hd
  exact lv_lstore C.1 C.2.1 hd hL.has (by rw [← hL.1]; exact hi) rfl (fun ls2 h2 => K z p l e R s m args below meth c H locs cells slots ls2 C hc hs hR hE hS (LRep.set2 hL.1 rfl h2) (okV_set (okV_set ho1 (okV_hd ho2)) (okA_U 0)) (okV_tl ho2))
theorem R_iinc {i : Nat} {k a : Int} (hd : D y pc (.iinc i k) 3 n) (hl : ls[i]? = some (vI a)) (K : Run d kc ks y n (ls.set i (vI (wrap (a + k)))) st g h P) : Run d kc ks y pc ls st g h P := by
  intro z p l e R s m args below meth c H locs cells slots rls C hc hs hR hE hS hL ho1 ho2
  obtain ⟨hd, rfl⟩ := hd
  have hm : (i, Value.int (Int32.ofInt a)) ∈ ascL z ls := mem_asc.mpr ⟨_, hl, ⟨(by simp), fun e => nomatch e⟩, rfl⟩
  obtain ⟨k0, hk0⟩ := List.getElem?_of_mem hm
  have hi : i < ls.length := (List.getElem?_eq_some_iff.mp hl).1
  exact lv_iinc C.1 C.2.1 hd hL.has hk0 (ofInt_add32 a k).symm (by rw [← hL.1]; exact hi) rfl (fun ls2 h2 => K z p l e R s m args below meth c H locs cells slots ls2 C hc hs hR hE hS (LRep.set1 hL.1 (Or.inl rfl) h2) (okV_set ho1 (okA_I (in32_wrap _))) ho2)
theorem R_iret {a : Int} (hd : D y pc (.ireturn) 1 n) (hr : mR y = some .int) (K : P (.inl (some (vI a))) g h) : Run d kc ks y pc ls ([vI a]) g h P := by
  intro z p l e R s m args below meth c H locs cells slots rls C hc hs hR hE hS hL ho1 ho2
  obtain ⟨hd, rfl⟩ := hd
  intro T hT X
  have hX := hR.x hE hS C.2.2.2.2.2.2.2.2.2.1 hT X
  refine vx_ret (W.widen (k := R.cells) (n := R.slots) (by omega) (by omega) ?_) T hT X
  exact W.iret C.1 C.2.1 (C.2.2.2.1.trans hr) (fun t ht hW => ⟨⟨some (vI a), g, h, rfl, (fun v e => by cases e; exact okV_hd ho2), by rw [ht]; exact hX, K⟩, hS.F ht⟩) hS.2.2 hd C.2.2.2.2.1
theorem R_zret {a : Int} (hd : D y pc (.ireturn) 1 n) (hr : mR y = some .boolean) (ha : a = 0 ∨ a = 1) (K : P (.inl (some (vI a))) g h) : Run d kc ks y pc ls ([vI a]) g h P := by
  intro z p l e R s m args below meth c H locs cells slots rls C hc hs hR hE hS hL ho1 ho2
  obtain ⟨hd, rfl⟩ := hd
  intro T hT X
  have hX := hR.x hE hS C.2.2.2.2.2.2.2.2.2.1 hT X
  refine vx_ret (W.widen (k := R.cells) (n := R.slots) (by omega) (by omega) ?_) T hT X
  exact W.zret C.1 C.2.1 (C.2.2.2.1.trans hr) (nar01 ha) (fun t ht hW => ⟨⟨some (vI a), g, h, rfl, (fun v e => by cases e; exact okV_hd ho2), by rw [ht]; exact hX, K⟩, hS.F ht⟩) hS.2.2 hd C.2.2.2.2.1
theorem R_lret {a : Int} (hd : D y pc (.lreturn) 1 n) (hr : mR y = some .long) (K : P (.inl (some (vL a))) g h) : Run d kc ks y pc ls ([vL a]) g h P := by
  intro z p l e R s m args below meth c H locs cells slots rls C hc hs hR hE hS hL ho1 ho2
  obtain ⟨hd, rfl⟩ := hd
  intro T hT X
  have hX := hR.x hE hS C.2.2.2.2.2.2.2.2.2.1 hT X
  refine vx_ret (W.widen (k := R.cells) (n := R.slots) (by omega) (by omega) ?_) T hT X
  exact W.lret C.1 C.2.1 (C.2.2.2.1.trans hr) (fun t ht hW => ⟨⟨some (vL a), g, h, rfl, (fun v e => by cases e; exact okV_hd ho2), by rw [ht]; exact hX, K⟩, hS.F ht⟩) hS.2.2 hd C.2.2.2.2.1
theorem R_vret  (hd : D y pc (.return_) 1 n) (hr : mR y = none) (K : P (.inl (none)) g h) : Run d kc ks y pc ls ([]) g h P := by
  intro z p l e R s m args below meth c H locs cells slots rls C hc hs hR hE hS hL ho1 ho2
  obtain ⟨hd, rfl⟩ := hd
  intro T hT X
  have hX := hR.x hE hS C.2.2.2.2.2.2.2.2.2.1 hT X
  refine vx_ret (W.widen (k := R.cells) (n := R.slots) (by omega) (by omega) ?_) T hT X
  exact W.vret C.1 C.2.1 (C.2.2.2.1.trans hr) (fun t ht hW => ⟨⟨none, g, h, rfl, (fun v e => by cases e), by rw [ht]; exact hX, K⟩, hS.F ht⟩) hS.2.2 hd C.2.2.2.2.1
end
