set_option maxHeartbeats 400000 in
theorem C_X10_inState {d : Nat} {g : Gs} {h : Hc} {P : Po} {t : Nat} {w : Nat → Int} (hT : TwG g t) (hw : Tw h t w) (hf : WF w) {s : Int} (K : P (.inl (some (vI (inSt w s)))) g h) : Call (d + 0) 0 0 mX10_inState [vR t, vI s] g h P := by
  refine Call_of rfl ⟨by decide +kernel, rfl⟩ (Nat.le_of_ble_eq_true rfl) rfl ?_
  refine R_iconst_0 dX10_inState_0 ?_
  refine iS2 dX10_inState_1 ?_
  refine R_iconst_0 dX10_inState_2 ?_
  refine iS3 dX10_inState_3 ?_
  have hcs := hf.cas
  refine loopN ((w 1).toNat) (fun c => Run (d + 0) 0 0 mX10_inState 4 [vR t, vI s, vI (bset (inStP w s) c), vI (c : Int)] [] g h P) (fun c hcn ih => ?_) (0) (Nat.zero_le _)
  refine iL3 dX10_inState_4 ?_
  refine aL0 dX10_inState_5 ?_
  refine R_getI dX10_inState_6 fX10_15.r hT.o ?_
  refine topV (hw.s1) ?_
  refine R_icmp_ge dX10_inState_9 (fun hb9 => ?_) (fun hb9 => ?_)
  · have e9 : c = (w 1).toNat := by omega
    subst e9
    refine iL2 dX10_inState_34 ?_
    exact R_iret dX10_inState_35 rfl (K)
  · refine aL0 dX10_inState_12 ?_
    refine R_getR dX10_inState_13 fX10_55.r hT.o rfl ?_
    refine iL3 dX10_inState_16 ?_
    refine ialdN dX10_inState_17 hT.a9 rfl (by omega) ?_
    refine topV (hw.a9 (by omega)) ?_
    refine iL1 dX10_inState_18 ?_
    refine R_icmp_ne dX10_inState_19 (fun hb19 => ?_) (fun hb19 => ?_)
    · refine iInc3 dX10_inState_28 (winc (by omega)) ?_
      refine R_goto dX10_inState_31 ?_
      exact eqI2 (by first | (rw [bset_f (by simp [inStP]; omega)]) | (rw [bset_t (by simp [inStP]; omega)])) (ih (by omega))
    · refine iL2 dX10_inState_22 ?_
      refine R_iconst_1 dX10_inState_23 ?_
      refine iL3 dX10_inState_24 ?_
      refine R_ishl dX10_inState_25 ?_
      refine R_ior dX10_inState_26 ?_
      refine iS2 dX10_inState_27 ?_
      refine iInc3 dX10_inState_28 (winc (by omega)) ?_
      refine R_goto dX10_inState_31 ?_
      exact eqI2 (by first | (rw [bset_f (by simp [inStP]; omega)]) | (rw [bset_t (by simp [inStP]; omega)])) (ih (by omega))
set_option maxHeartbeats 400000 in
theorem C_X10_caseAt {d : Nat} {g : Gs} {h : Hc} {P : Po} {t j k : Nat} {w : Nat → Int} (hT : TwG g t) (hw : Tw h t w) (hj : j < 5) (hk : k < 12) (K : P (.inl (some (vI (w (20 + (12 * j + k)))))) g h) : Call (d + 0) 0 0 mX10_caseAt [vR t, vI (j : Int), vI (k : Int)] g h P := by
  refine Call_of rfl ⟨by decide +kernel, rfl⟩ (Nat.le_of_ble_eq_true rfl) rfl ?_
  refine aL0 dX10_caseAt_0 ?_
  refine R_getR dX10_caseAt_1 fX10_64.r hT.o rfl ?_
  refine iL1 dX10_caseAt_4 ?_
  refine R_bipush dX10_caseAt_5 (by decide) ?_
  refine mulV dX10_caseAt_7 (v := (((j * 12) : Nat) : Int)) (by rw [wid (by omega) (by omega)]; omega) ?_
  refine iL2 dX10_caseAt_8 ?_
  refine addV dX10_caseAt_9 (v := ((12 * j + k : Nat) : Int)) (by rw [wid (by omega) (by omega)]; omega) ?_
  refine ialdN dX10_caseAt_10 hT.a12 rfl (by omega) ?_
  refine topV (hw.a12 (by omega)) ?_
  exact R_iret dX10_caseAt_11 rfl (K)
