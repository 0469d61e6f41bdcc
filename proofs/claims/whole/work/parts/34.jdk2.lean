/-! THE JDK'S METHODS -/
def bcI (x : Int) : Int :=
  let a := wrap (x - andI (ushrI x 1) 1431655765)
  let b := wrap (andI a 858993459 + andI (ushrI a 2) 858993459)
  let c := andI (wrap (b + ushrI b 4)) 252645135
  let e := wrap (c + ushrI c 8)
  andI (wrap (e + ushrI e 16)) 63
def pc8 (k : Nat) : Nat := cntB (fun i => k.testBit i) 8
theorem bc256 : ∀ k : Nat, k < 256 → bcI (k : Int) = ((pc8 k : Nat) : Int) := by decide +kernel
set_option maxHeartbeats 400000 in
theorem C_J6_bitCount_0f7a4 {d : Nat} {g : Gs} {h : Hc} {P : Po} {k : Nat} (hk : k < 256) (K : P (.inl (some (vI ((pc8 k : Nat) : Int)))) g h) : Call (d + 0) 0 0 mJ6_bitCount_0f7a4 [vI (k : Int)] g h P := by
  refine Call_of rfl ⟨by decide +kernel, rfl⟩ (Nat.le_of_ble_eq_true rfl) rfl ?_
  refine iL0 dJ6_bitCount_0f7a4_0 ?_
  refine iL0 dJ6_bitCount_0f7a4_1 ?_
  refine R_iconst_1 dJ6_bitCount_0f7a4_2 ?_
  refine R_iushr dJ6_bitCount_0f7a4_3 ?_
  refine R_ldcwI dJ6_bitCount_0f7a4_4 qJ6_265 (by decide) ?_
  refine R_iand dJ6_bitCount_0f7a4_7 ?_
  refine R_isub dJ6_bitCount_0f7a4_8 ?_
  refine iS0 dJ6_bitCount_0f7a4_9 ?_
  refine iL0 dJ6_bitCount_0f7a4_10 ?_
  refine R_ldcwI dJ6_bitCount_0f7a4_11 qJ6_266 (by decide) ?_
  refine R_iand dJ6_bitCount_0f7a4_14 ?_
  refine iL0 dJ6_bitCount_0f7a4_15 ?_
  refine R_iconst_2 dJ6_bitCount_0f7a4_16 ?_
  refine R_iushr dJ6_bitCount_0f7a4_17 ?_
  refine R_ldcwI dJ6_bitCount_0f7a4_18 qJ6_266 (by decide) ?_
  refine R_iand dJ6_bitCount_0f7a4_21 ?_
  refine R_iadd dJ6_bitCount_0f7a4_22 ?_
  refine iS0 dJ6_bitCount_0f7a4_23 ?_
  refine iL0 dJ6_bitCount_0f7a4_24 ?_
  refine iL0 dJ6_bitCount_0f7a4_25 ?_
  refine R_iconst_4 dJ6_bitCount_0f7a4_26 ?_
  refine R_iushr dJ6_bitCount_0f7a4_27 ?_
  refine R_iadd dJ6_bitCount_0f7a4_28 ?_
  refine R_ldcwI dJ6_bitCount_0f7a4_29 qJ6_267 (by decide) ?_
  refine R_iand dJ6_bitCount_0f7a4_32 ?_
  refine iS0 dJ6_bitCount_0f7a4_33 ?_
  refine iL0 dJ6_bitCount_0f7a4_34 ?_
  refine iL0 dJ6_bitCount_0f7a4_35 ?_
  refine R_bipush dJ6_bitCount_0f7a4_36 (by decide) ?_
  refine R_iushr dJ6_bitCount_0f7a4_38 ?_
  refine R_iadd dJ6_bitCount_0f7a4_39 ?_
  refine iS0 dJ6_bitCount_0f7a4_40 ?_
  refine iL0 dJ6_bitCount_0f7a4_41 ?_
  refine iL0 dJ6_bitCount_0f7a4_42 ?_
  refine R_bipush dJ6_bitCount_0f7a4_43 (by decide) ?_
  refine R_iushr dJ6_bitCount_0f7a4_45 ?_
  refine R_iadd dJ6_bitCount_0f7a4_46 ?_
  refine iS0 dJ6_bitCount_0f7a4_47 ?_
  refine iL0 dJ6_bitCount_0f7a4_48 ?_
  refine R_bipush dJ6_bitCount_0f7a4_49 (by decide) ?_
  refine R_iand dJ6_bitCount_0f7a4_51 ?_
  exact R_iret dJ6_bitCount_0f7a4_52 rfl (PeqI K (bc256 k hk))
theorem low7 (n : Nat) : andI (wrap (n : Int)) 127 = ((n % 128 : Nat) : Int) := by
  have e : Int32.ofInt (andI (wrap (n : Int)) 127) = Int32.ofInt ((n % 128 : Nat) : Int) := by
    rw [ofInt_andI, ofInt_wrap, ofN32, ofN32]
    apply Int32.toBitVec_inj.1
    show BitVec.ofNat 32 n &&& BitVec.ofNat 32 127 = BitVec.ofNat 32 (n % 128)
    apply BitVec.eq_of_getLsbD_eq
    intro i hi
    have h127 : (127 : Nat).testBit i = decide (i < 7) := by
      rw [show (127 : Nat) = 2 ^ 7 - 1 from rfl, Nat.testBit_two_pow_sub_one]
    rw [show (128 : Nat) = 2 ^ 7 from rfl]
    rw [BitVec.getLsbD_and, BitVec.getLsbD_ofNat, BitVec.getLsbD_ofNat, BitVec.getLsbD_ofNat, h127, Nat.testBit_mod_two_pow]
    simp [hi, Bool.and_comm]
  exact (eq32 (in32_andI _ _) (by unfold in32; omega)).mp e
set_option maxHeartbeats 1000000 in
theorem C_J13_bitCount_95d88 {d : Nat} {g : Gs} {h : Hc} {P : Po} {n : Nat} (hn : n < 2305843009213693952) (K : P (.inl (some (vI ((pcN n : Nat) : Int)))) g h) : Call (d + 0) 0 0 mJ13_bitCount_95d88 [vL (n : Int)] g h P := by
  refine Call_of rfl ⟨by decide +kernel, rfl⟩ (Nat.le_of_ble_eq_true rfl) rfl ?_
  obtain ⟨y, z, h1, hy, hyb, hz, hzb, c, hc, hcb, hfin⟩ := bcL hn
  refine lL0 dJ13_bitCount_95d88_0 ?_
  refine lL0 dJ13_bitCount_95d88_1 ?_
  refine R_iconst_1 dJ13_bitCount_95d88_2 ?_
  refine R_lushr (k := 1) dJ13_bitCount_95d88_3 rfl (by omega) (by decide) ?_
  refine topL (v := ((n / 2 : Nat) : Int)) (rfl) ?_
  refine R_ldcL dJ13_bitCount_95d88_4 qJ13_314 (by unfold in64; omega) ?_
  refine R_land dJ13_bitCount_95d88_7 ?_
  refine topL (v := (((n / 2) &&& 6148914691236517205 : Nat) : Int)) (andLN (b := 6148914691236517205) (by omega)) ?_
  refine R_lsub dJ13_bitCount_95d88_8 (by unfold in64; omega) ?_
  refine topL (v := ((y : Nat) : Int)) (by omega) ?_
  refine lS0 dJ13_bitCount_95d88_9 ?_
  refine lL0 dJ13_bitCount_95d88_10 ?_
  refine R_ldcL dJ13_bitCount_95d88_11 qJ13_316 (by unfold in64; omega) ?_
  refine R_land dJ13_bitCount_95d88_14 ?_
  refine topL (v := (((y) &&& 3689348814741910323 : Nat) : Int)) (andLN (b := 3689348814741910323) (by omega)) ?_
  refine lL0 dJ13_bitCount_95d88_15 ?_
  refine R_iconst_2 dJ13_bitCount_95d88_16 ?_
  refine R_lushr (k := 2) dJ13_bitCount_95d88_17 rfl (by omega) (by decide) ?_
  refine topL (v := ((y / 4 : Nat) : Int)) (rfl) ?_
  refine R_ldcL dJ13_bitCount_95d88_18 qJ13_316 (by unfold in64; omega) ?_
  refine R_land dJ13_bitCount_95d88_21 ?_
  refine topL (v := (((y / 4) &&& 3689348814741910323 : Nat) : Int)) (andLN (b := 3689348814741910323) (by omega)) ?_
  refine R_ladd dJ13_bitCount_95d88_22 (by unfold in64; omega) ?_
  refine topL (v := ((z : Nat) : Int)) (by omega) ?_
  refine lS0 dJ13_bitCount_95d88_23 ?_
  refine lL0 dJ13_bitCount_95d88_24 ?_
  refine lL0 dJ13_bitCount_95d88_25 ?_
  refine R_iconst_4 dJ13_bitCount_95d88_26 ?_
  refine R_lushr (k := 4) dJ13_bitCount_95d88_27 rfl (by omega) (by decide) ?_
  refine topL (v := ((z / 16 : Nat) : Int)) (rfl) ?_
  refine R_ladd dJ13_bitCount_95d88_28 (by unfold in64; omega) ?_
  refine topL (v := ((z + z / 16 : Nat) : Int)) (by omega) ?_
  refine R_ldcL dJ13_bitCount_95d88_29 qJ13_318 (by unfold in64; omega) ?_
  refine R_land dJ13_bitCount_95d88_32 ?_
  refine topL (v := (((z + z / 16) &&& 1085102592571150095 : Nat) : Int)) (andLN (b := 1085102592571150095) (by omega)) ?_
  refine topL (v := ((c : Nat) : Int)) (by rw [hc]) ?_
  refine lS0 dJ13_bitCount_95d88_33 ?_
  refine lL0 dJ13_bitCount_95d88_34 ?_
  refine lL0 dJ13_bitCount_95d88_35 ?_
  refine R_bipush dJ13_bitCount_95d88_36 (by decide) ?_
  refine R_lushr (k := 8) dJ13_bitCount_95d88_38 rfl (by omega) (by decide) ?_
  refine topL (v := ((c / 256 : Nat) : Int)) (rfl) ?_
  refine R_ladd dJ13_bitCount_95d88_39 (by unfold in64; omega) ?_
  refine topL (v := ((c + c / 256 : Nat) : Int)) (by omega) ?_
  refine lS0 dJ13_bitCount_95d88_40 ?_
  obtain ⟨e, he⟩ : ∃ e, e = c + c / 256 := ⟨_, rfl⟩
  rw [← he] at hfin
  refine lL0 dJ13_bitCount_95d88_41 ?_
  refine topL (v := ((e : Nat) : Int)) (by rw [he]) ?_
  refine lL0 dJ13_bitCount_95d88_42 ?_
  refine topL (v := ((e : Nat) : Int)) (by rw [he]) ?_
  refine R_bipush dJ13_bitCount_95d88_43 (by decide) ?_
  refine R_lushr (k := 16) dJ13_bitCount_95d88_45 rfl (by omega) (by decide) ?_
  refine topL (v := ((e / 65536 : Nat) : Int)) (rfl) ?_
  refine R_ladd dJ13_bitCount_95d88_46 (by unfold in64; omega) ?_
  refine topL (v := ((e + e / 65536 : Nat) : Int)) (by omega) ?_
  refine lS0 dJ13_bitCount_95d88_47 ?_
  obtain ⟨f, hf⟩ : ∃ f, f = e + e / 65536 := ⟨_, rfl⟩
  rw [← hf] at hfin
  refine lL0 dJ13_bitCount_95d88_48 ?_
  refine topL (v := ((f : Nat) : Int)) (by rw [hf]) ?_
  refine lL0 dJ13_bitCount_95d88_49 ?_
  refine topL (v := ((f : Nat) : Int)) (by rw [hf]) ?_
  refine R_bipush dJ13_bitCount_95d88_50 (by decide) ?_
  refine R_lushr (k := 32) dJ13_bitCount_95d88_52 rfl (by omega) (by decide) ?_
  refine topL (v := ((f / 4294967296 : Nat) : Int)) (rfl) ?_
  refine R_ladd dJ13_bitCount_95d88_53 (by unfold in64; omega) ?_
  refine topL (v := ((f + f / 4294967296 : Nat) : Int)) (by omega) ?_
  refine lS0 dJ13_bitCount_95d88_54 ?_
  refine lL0 dJ13_bitCount_95d88_55 ?_
  refine R_l2i dJ13_bitCount_95d88_56 ?_
  refine R_bipush dJ13_bitCount_95d88_57 (by decide) ?_
  refine R_iand dJ13_bitCount_95d88_59 ?_
  exact R_iret dJ13_bitCount_95d88_60 rfl (PeqI K (by rw [low7, hfin]))
def ntz (k : Nat) : Nat := (ff (fun i => k.testBit i) 0 5).toNat
theorem ntz_a : ∀ k : Nat, k < 32 → 0 < k → (0 ≤ andI (xorI (k : Int) (-1)) ((k : Int) - 1) ∧ andI (xorI (k : Int) (-1)) ((k : Int) - 1) ≤ 15) ∧ (andI (xorI (k : Int) (-1)) ((k : Int) - 1) ≤ 0 → andI (andI (xorI (k : Int) (-1)) ((k : Int) - 1)) 32 = ((ntz k : Nat) : Int)) ∧
    (0 < andI (xorI (k : Int) (-1)) ((k : Int) - 1) ∧ andI (xorI (k : Int) (-1)) ((k : Int) - 1) ≤ 4 → wrap (1 + ushrI (andI (xorI (k : Int) (-1)) ((k : Int) - 1)) 1) = ((ntz k : Nat) : Int)) ∧
    (4 < andI (xorI (k : Int) (-1)) ((k : Int) - 1) → wrap (1 + 2 + ushrI (ushrI (andI (xorI (k : Int) (-1)) ((k : Int) - 1)) 2) 1) = ((ntz k : Nat) : Int)) := by decide +kernel
set_option maxHeartbeats 400000 in
theorem C_J6_numberOfTrailingZeros_0f7a4 {d : Nat} {g : Gs} {h : Hc} {P : Po} {k : Nat} (h0 : 0 < k) (hk : k < 32) (K : P (.inl (some (vI ((ntz k : Nat) : Int)))) g h) : Call (d + 0) 0 0 mJ6_numberOfTrailingZeros_0f7a4 [vI ((k : Nat) : Int)] g h P := by
  have ha := ntz_a k hk h0
  obtain ⟨t9, ht⟩ : ∃ t9, andI (xorI (k : Int) (-1)) ((k : Int) - 1) = t9 := ⟨_, rfl⟩
  rw [ht] at ha
  refine Call_of rfl ⟨by decide +kernel, rfl⟩ (Nat.le_of_ble_eq_true rfl) rfl ?_
  refine iL0 dJ6_numberOfTrailingZeros_0f7a4_0 ?_
  refine R_iconst_m1 dJ6_numberOfTrailingZeros_0f7a4_1 ?_
  refine R_ixor dJ6_numberOfTrailingZeros_0f7a4_2 ?_
  refine iL0 dJ6_numberOfTrailingZeros_0f7a4_3 ?_
  refine R_iconst_1 dJ6_numberOfTrailingZeros_0f7a4_4 ?_
  refine subV dJ6_numberOfTrailingZeros_0f7a4_5 (wid (by omega) (by omega)) ?_
  refine R_iand dJ6_numberOfTrailingZeros_0f7a4_6 ?_
  refine topV (v := t9) (ht) ?_
  refine iS0 dJ6_numberOfTrailingZeros_0f7a4_7 ?_
  refine iL0 dJ6_numberOfTrailingZeros_0f7a4_8 ?_
  refine R_if_gt dJ6_numberOfTrailingZeros_0f7a4_9 (fun hb9 => ?_) (fun hb9 => ?_)
  · refine R_iconst_1 dJ6_numberOfTrailingZeros_0f7a4_17 ?_
    refine iS1 dJ6_numberOfTrailingZeros_0f7a4_18 ?_
    refine iL0 dJ6_numberOfTrailingZeros_0f7a4_19 ?_
    refine R_ldcwI dJ6_numberOfTrailingZeros_0f7a4_20 qJ6_264 (by decide) ?_
    refine R_icmp_le dJ6_numberOfTrailingZeros_0f7a4_23 (fun hb23 => ?_) (fun hb23 => ?_)
    · refine iL0 dJ6_numberOfTrailingZeros_0f7a4_34 ?_
      refine R_sipush dJ6_numberOfTrailingZeros_0f7a4_35 (by decide) ?_
      refine R_icmp_le dJ6_numberOfTrailingZeros_0f7a4_38 (fun hb38 => ?_) (fun hb38 => ?_)
      · refine iL0 dJ6_numberOfTrailingZeros_0f7a4_49 ?_
        refine R_bipush dJ6_numberOfTrailingZeros_0f7a4_50 (by decide) ?_
        refine R_icmp_le dJ6_numberOfTrailingZeros_0f7a4_52 (fun hb52 => ?_) (fun hb52 => ?_)
        · refine iL0 dJ6_numberOfTrailingZeros_0f7a4_62 ?_
          refine R_iconst_4 dJ6_numberOfTrailingZeros_0f7a4_63 ?_
          refine R_icmp_le dJ6_numberOfTrailingZeros_0f7a4_64 (fun hb64 => ?_) (fun hb64 => ?_)
          · refine iL1 dJ6_numberOfTrailingZeros_0f7a4_74 ?_
            refine iL0 dJ6_numberOfTrailingZeros_0f7a4_75 ?_
            refine R_iconst_1 dJ6_numberOfTrailingZeros_0f7a4_76 ?_
            refine R_iushr dJ6_numberOfTrailingZeros_0f7a4_77 ?_
            refine R_iadd dJ6_numberOfTrailingZeros_0f7a4_78 ?_
            exact R_iret dJ6_numberOfTrailingZeros_0f7a4_79 rfl (PeqI K (by first | exact ha.2.2.1 ⟨by omega, by omega⟩ | exact ha.2.2.2 (by omega)))
          · refine iInc1 dJ6_numberOfTrailingZeros_0f7a4_67 (wid (by omega) (by omega)) ?_
            refine iL0 dJ6_numberOfTrailingZeros_0f7a4_70 ?_
            refine R_iconst_2 dJ6_numberOfTrailingZeros_0f7a4_71 ?_
            refine R_iushr dJ6_numberOfTrailingZeros_0f7a4_72 ?_
            refine iS0 dJ6_numberOfTrailingZeros_0f7a4_73 ?_
            refine iL1 dJ6_numberOfTrailingZeros_0f7a4_74 ?_
            refine iL0 dJ6_numberOfTrailingZeros_0f7a4_75 ?_
            refine R_iconst_1 dJ6_numberOfTrailingZeros_0f7a4_76 ?_
            refine R_iushr dJ6_numberOfTrailingZeros_0f7a4_77 ?_
            refine R_iadd dJ6_numberOfTrailingZeros_0f7a4_78 ?_
            exact R_iret dJ6_numberOfTrailingZeros_0f7a4_79 rfl (PeqI K (by first | exact ha.2.2.1 ⟨by omega, by omega⟩ | exact ha.2.2.2 (by omega)))
        · exfalso; omega
      · exfalso; omega
    · exfalso; omega
  · refine iL0 dJ6_numberOfTrailingZeros_0f7a4_12 ?_
    refine R_bipush dJ6_numberOfTrailingZeros_0f7a4_13 (by decide) ?_
    refine R_iand dJ6_numberOfTrailingZeros_0f7a4_15 ?_
    exact R_iret dJ6_numberOfTrailingZeros_0f7a4_16 rfl (PeqI K (ha.2.1 (by omega)))
set_option maxHeartbeats 400000 in
theorem C_J7_fill_53178 {d : Nat} {g : Gs} {h : Hc} {P : Po} {a N : Nat} {v : Int} (ha : g.1[a]? = some (13, N, [])) (hN : N < 1000) (K : ∀ h', Off (fun q => q = a) h h' → (∀ i, i < N → h' a i = v) → P (.inl none) g h') : Call (d + 0) 0 0 mJ7_fill_53178 [vR a, vI v] g h P := by
  refine Call_of rfl ⟨by decide +kernel, rfl⟩ (Nat.le_of_ble_eq_true rfl) rfl ?_
  refine R_iconst_0 dJ7_fill_53178_0 ?_
  refine iS2 dJ7_fill_53178_1 ?_
  refine aL0 dJ7_fill_53178_2 ?_
  refine R_alen dJ7_fill_53178_3 ha (by omega) ?_
  refine iS3 dJ7_fill_53178_4 ?_
  refine loopN (N) (fun c => ∀ hK : Hc, Off (fun q => q = a) h hK → (∀ i, i < c → hK a i = v) → Run (d + 0) 0 0 mJ7_fill_53178 5 [vR a, vI v, vI ((c : Nat) : Int), vI ((N : Nat) : Int)] [] g hK P) (fun c hcnc ihc hK hO hv => ?_) (0) (Nat.zero_le _) h (Off.rf _ _) (fun i hi => absurd hi (Nat.not_lt_zero _))
  refine iL2 dJ7_fill_53178_5 ?_
  refine iL3 dJ7_fill_53178_6 ?_
  refine R_icmp_ge dJ7_fill_53178_7 (fun hb7 => ?_) (fun hb7 => ?_)
  · have e9 : c = N := by omega
    subst e9
    exact R_vret dJ7_fill_53178_20 rfl (K _ hO hv)
  · refine aL0 dJ7_fill_53178_10 ?_
    refine iL2 dJ7_fill_53178_11 ?_
    refine iL1 dJ7_fill_53178_12 ?_
    refine iastN dJ7_fill_53178_13 ha rfl (by omega) ?_
    refine storH (fun h1 e1 => ?_)
    refine iInc2 dJ7_fill_53178_14 (winc (by omega)) ?_
    refine R_goto dJ7_fill_53178_17 ?_
    exact ihc (by omega) _ (by rw [e1]; exact hO.upd rfl) (fun i hi => by
        rw [e1, updH_r]
        by_cases e9 : i = c
        · subst e9; rw [updW_s]
        · rw [updW_n e9]; exact hv i (by omega))
