set_option maxHeartbeats 400000 in
theorem C_X10_inState {d : Nat} {g : Gs} {h : Hc} {P : Po} {t : Nat} {w : Nat → Int} (hT : TwG g t) (hw : Tw h t w) (hf : WF w) {s : Int} (K : P (.inl (some (vI (inSt w s)))) g h) : Call (d + 0) 0 0 mX10_inState [vR t, vI s] g h P := by
  refine Call_of rfl ⟨by decide +kernel, rfl⟩ (Nat.le_of_ble_eq_true rfl) rfl ?_
  refine R_iconst_0 dX10_inState_0 ?_
  refine iS2 dX10_inState_1 ?_
  refine R_iconst_0 dX10_inState_2 ?_
  refine iS3 dX10_inState_3 ?_
  have hcs := hf.cas
  refine loopN ((w 1).toNat) (fun c => Run (d + 0) 0 0 mX10_inState 4 [vR t, vI s, vI (bset (inStP w s) c), vI (c : Int)] [] g h P) (fun c hcn ih => ?_) (0) (Nat.zero_le _)
  refine iL3 dX10_inState_4 ?_
  refine aL0 dX10_inState_5 ?_
  refine R_getI dX10_inState_6 fX10_15.r hT.o ?_
  refine topV (hw.s1) ?_
  refine R_icmp_ge dX10_inState_9 (fun hb9 => ?_) (fun hb9 => ?_)
  · have e9 : c = (w 1).toNat := by omega
    subst e9
    refine iL2 dX10_inState_34 ?_
    exact R_iret dX10_inState_35 rfl (K)
  · refine aL0 dX10_inState_12 ?_
    refine R_getR dX10_inState_13 fX10_55.r hT.o rfl ?_
    refine iL3 dX10_inState_16 ?_
    refine ialdN dX10_inState_17 hT.a9 rfl (by omega) ?_
    refine topV (hw.a9 (by omega)) ?_
    refine iL1 dX10_inState_18 ?_
    refine R_icmp_ne dX10_inState_19 (fun hb19 => ?_) (fun hb19 => ?_)
    · refine iInc3 dX10_inState_28 (winc (by omega)) ?_
      refine R_goto dX10_inState_31 ?_
      exact eqI2 (by first | (rw [bset_f (by simp [inStP]; omega)]) | (rw [bset_t (by simp [inStP]; omega)])) (ih (by omega))
    · refine iL2 dX10_inState_22 ?_
      refine R_iconst_1 dX10_inState_23 ?_
      refine iL3 dX10_inState_24 ?_
      refine R_ishl dX10_inState_25 ?_
      refine R_ior dX10_inState_26 ?_
      refine iS2 dX10_inState_27 ?_
      refine iInc3 dX10_inState_28 (winc (by omega)) ?_
      refine R_goto dX10_inState_31 ?_
      exact eqI2 (by first | (rw [bset_f (by simp [inStP]; omega)]) | (rw [bset_t (by simp [inStP]; omega)])) (ih (by omega))
set_option maxHeartbeats 400000 in
theorem C_X10_caseAt {d : Nat} {g : Gs} {h : Hc} {P : Po} {t j k : Nat} {w : Nat → Int} (hT : TwG g t) (hw : Tw h t w) (hj : j < 5) (hk : k < 12) (K : P (.inl (some (vI (w (20 + (12 * j + k)))))) g h) : Call (d + 0) 0 0 mX10_caseAt [vR t, vI (j : Int), vI (k : Int)] g h P := by
  refine Call_of rfl ⟨by decide +kernel, rfl⟩ (Nat.le_of_ble_eq_true rfl) rfl ?_
  refine aL0 dX10_caseAt_0 ?_
  refine R_getR dX10_caseAt_1 fX10_64.r hT.o rfl ?_
  refine iL1 dX10_caseAt_4 ?_
  refine R_bipush dX10_caseAt_5 (by decide) ?_
  refine mulV dX10_caseAt_7 (v := (((j * 12) : Nat) : Int)) (by rw [wid (by omega) (by omega)]; omega) ?_
  refine iL2 dX10_caseAt_8 ?_
  refine addV dX10_caseAt_9 (v := ((12 * j + k : Nat) : Int)) (by rw [wid (by omega) (by omega)]; omega) ?_
  refine ialdN dX10_caseAt_10 hT.a12 rfl (by omega) ?_
  refine topV (hw.a12 (by omega)) ?_
  exact R_iret dX10_caseAt_11 rfl (K)
set_option maxHeartbeats 400000 in
theorem C_X10_waitingAt {d : Nat} {g : Gs} {h : Hc} {P : Po} {t : Nat} {w : Nat → Int} (hT : TwG g t) (hw : Tw h t w) (hf : WF w) {j k : Nat} (hj : j < 5) (hk : k < 12) (K : P (.inl (some (vI (waitAt w j k)))) g h) : Call (d + 1) 0 0 mX10_waitingAt [vR t, vI (j : Int), vI (k : Int)] g h P := by
  refine Call_of rfl ⟨by decide +kernel, rfl⟩ (Nat.le_of_ble_eq_true rfl) rfl ?_
  refine aL0 dX10_waitingAt_0 ?_
  refine iL1 dX10_waitingAt_1 ?_
  refine iL2 dX10_waitingAt_2 ?_
  refine invV2 rfl dX10_waitingAt_3 kX10_93 hT.o (Nat.le_of_ble_eq_true rfl) (Nat.zero_le _) (Nat.zero_le _) (C_X10_caseAt hT hw hj hk (konI ?_))
  refine iS3 dX10_waitingAt_6 ?_
  refine iL3 dX10_waitingAt_7 ?_
  refine R_if_lt dX10_waitingAt_8 (fun hb8 => ?_) (fun hb8 => ?_)
  · refine R_iconst_m1 dX10_waitingAt_24 ?_
    exact R_iret dX10_waitingAt_25 rfl (PeqI K (by unfold waitAt; (repeat' split) <;> omega))
  · refine aL0 dX10_waitingAt_11 ?_
    refine R_getR dX10_waitingAt_12 fX10_55.r hT.o rfl ?_
    refine iL3 dX10_waitingAt_15 ?_
    have hp := hf.pla (12 * j + k) (by omega)
    have hcs := hf.cas
    refine R_iald dX10_waitingAt_16 hT.a9 (by omega) (by omega) ?_
    refine topV (hw.a9 (by omega)) ?_
    refine R_if_ne dX10_waitingAt_17 (fun hb17 => ?_) (fun hb17 => ?_)
    · refine R_iconst_m1 dX10_waitingAt_24 ?_
      exact R_iret dX10_waitingAt_25 rfl (PeqI K (by unfold waitAt; (repeat' split) <;> omega))
    · refine iL3 dX10_waitingAt_20 ?_
      refine R_goto dX10_waitingAt_21 ?_
      exact R_iret dX10_waitingAt_25 rfl (PeqI K (by unfold waitAt; (repeat' split) <;> omega))
set_option maxHeartbeats 400000 in
theorem C_X10_placeOf {d : Nat} {g : Gs} {h : Hc} {P : Po} {t : Nat} {w : Nat → Int} {x : Int} (hT : TwG g t) (hw : Tw h t w) (K : P (.inl (some (vI (placeOf w x)))) g h) : Call (d + 0) 0 0 mX10_placeOf [vR t, vI x] g h P := by
  refine Call_of rfl ⟨by decide +kernel, rfl⟩ (Nat.le_of_ble_eq_true rfl) rfl ?_
  refine R_iconst_0 dX10_placeOf_0 ?_
  refine iS2 dX10_placeOf_1 ?_
  refine loopN 60 (fun c => (∀ j, j < c → placeP w x j = false) → Run (d + 0) 0 0 mX10_placeOf 2 [vR t, vI x, vI (c : Int)] [] g h P) (fun c hcn ih hno => ?_) 0 (Nat.zero_le _) (fun j hj => absurd hj (Nat.not_lt_zero _))
  refine iL2 dX10_placeOf_2 ?_
  refine R_bipush dX10_placeOf_3 (by decide) ?_
  refine R_icmp_ge dX10_placeOf_5 (fun hb5 => ?_) (fun hb5 => ?_)
  · refine R_iconst_m1 dX10_placeOf_26 ?_
    exact R_iret dX10_placeOf_27 rfl (by rw [placeOf, firstB_no (fun j hj => hno j (by omega))] at K; exact K)
  · refine aL0 dX10_placeOf_8 ?_
    refine R_getR dX10_placeOf_9 fX10_64.r hT.o rfl ?_
    refine iL2 dX10_placeOf_12 ?_
    refine ialdN dX10_placeOf_13 hT.a12 rfl (by omega) ?_
    refine topV (hw.a12 (by omega)) ?_
    refine iL1 dX10_placeOf_14 ?_
    refine R_icmp_ne dX10_placeOf_15 (fun hb15 => ?_) (fun hb15 => ?_)
    · refine iInc2 dX10_placeOf_20 (winc (by omega)) ?_
      refine R_goto dX10_placeOf_23 ?_
      exact ih (by omega) (fun j hj => by
        by_cases e9 : j = c
        · subst e9; simp [placeP, hb15]
        · exact hno j (by omega))
    · refine iL2 dX10_placeOf_18 ?_
      exact R_iret dX10_placeOf_19 rfl (by rw [placeOf, firstB_at (k := c) (by simp [placeP, hb15]) hno (by omega)] at K; exact K)
set_option maxHeartbeats 400000 in
theorem C_X10_freeHours {d : Nat} {g : Gs} {h : Hc} {P : Po} {t j : Nat} {w : Nat → Int} (hT : TwG g t) (hw : Tw h t w) (hj : j < 5) (K : P (.inl (some (vI (freeHrs w j)))) g h) : Call (d + 1) 0 0 mX10_freeHours [vR t, vI (j : Int)] g h P := by
  refine Call_of rfl ⟨by decide +kernel, rfl⟩ (Nat.le_of_ble_eq_true rfl) rfl ?_
  refine R_iconst_0 dX10_freeHours_0 ?_
  refine iS2 dX10_freeHours_1 ?_
  refine R_iconst_0 dX10_freeHours_2 ?_
  refine iS3 dX10_freeHours_3 ?_
  refine loopN (12) (fun c => Run (d + 1) 0 0 mX10_freeHours 4 [vR t, vI (j : Int), vI (bset (freeHP w j) c), vI (c : Int)] [] g h P) (fun c hcn ih => ?_) (0) (Nat.zero_le _)
  refine iL3 dX10_freeHours_4 ?_
  refine R_bipush dX10_freeHours_5 (by decide) ?_
  refine R_icmp_ge dX10_freeHours_7 (fun hb7 => ?_) (fun hb7 => ?_)
  · have e9 : c = 12 := by omega
    subst e9
    refine iL2 dX10_freeHours_31 ?_
    exact R_iret dX10_freeHours_32 rfl (K)
  · refine aL0 dX10_freeHours_10 ?_
    refine iL1 dX10_freeHours_11 ?_
    refine iL3 dX10_freeHours_12 ?_
    refine invV2 rfl dX10_freeHours_13 kX10_93 hT.o (Nat.le_of_ble_eq_true rfl) (Nat.zero_le _) (Nat.zero_le _) (C_X10_caseAt hT hw hj (by omega) (konI ?_))
    refine R_if_ge dX10_freeHours_16 (fun hb16 => ?_) (fun hb16 => ?_)
    · refine iInc3 dX10_freeHours_25 (winc (by omega)) ?_
      refine R_goto dX10_freeHours_28 ?_
      exact eqI2 (by first | (rw [bset_f (by simp [freeHP]; omega)]) | (rw [bset_t (by simp [freeHP]; omega)])) (ih (by omega))
    · refine iL2 dX10_freeHours_19 ?_
      refine R_iconst_1 dX10_freeHours_20 ?_
      refine iL3 dX10_freeHours_21 ?_
      refine R_ishl dX10_freeHours_22 ?_
      refine R_ior dX10_freeHours_23 ?_
      refine iS2 dX10_freeHours_24 ?_
      refine iInc3 dX10_freeHours_25 (winc (by omega)) ?_
      refine R_goto dX10_freeHours_28 ?_
      exact eqI2 (by first | (rw [bset_f (by simp [freeHP]; omega)]) | (rw [bset_t (by simp [freeHP]; omega)])) (ih (by omega))
set_option maxHeartbeats 400000 in
theorem C_X10_inList {d : Nat} {g : Gs} {h : Hc} {P : Po} {t : Nat} {w : Nat → Int} (hT : TwG g t) (hw : Tw h t w) (K : P (.inl (some (vI (listF w 60)))) g h) : Call (d + 0) 0 0 mX10_inList [vR t] g h P := by
  refine Call_of rfl ⟨by decide +kernel, rfl⟩ (Nat.le_of_ble_eq_true rfl) rfl ?_
  refine R_iconst_0 dX10_inList_0 ?_
  refine iS1 dX10_inList_1 ?_
  refine R_iconst_0 dX10_inList_2 ?_
  refine iS2 dX10_inList_3 ?_
  refine loopN (60) (fun c => Run (d + 0) 0 0 mX10_inList 4 [vR t, vI (listF w c), vI (c : Int)] [] g h P) (fun c hcn ih => ?_) (0) (Nat.zero_le _)
  refine iL2 dX10_inList_4 ?_
  refine R_bipush dX10_inList_5 (by decide) ?_
  refine R_icmp_ge dX10_inList_7 (fun hb7 => ?_) (fun hb7 => ?_)
  · have e9 : c = 60 := by omega
    subst e9
    refine iL1 dX10_inList_36 ?_
    exact R_iret dX10_inList_37 rfl (K)
  · refine aL0 dX10_inList_10 ?_
    refine R_getR dX10_inList_11 fX10_64.r hT.o rfl ?_
    refine iL2 dX10_inList_14 ?_
    refine ialdN dX10_inList_15 hT.a12 rfl (by omega) ?_
    refine topV (hw.a12 (by omega)) ?_
    refine R_if_lt dX10_inList_16 (fun hb16 => ?_) (fun hb16 => ?_)
    · refine iInc2 dX10_inList_30 (winc (by omega)) ?_
      refine R_goto dX10_inList_33 ?_
      exact eqI1 (by first | (rw [listF_f (by omega)]) | (rw [listF_t (by omega)])) (ih (by omega))
    · refine iL1 dX10_inList_19 ?_
      refine R_iconst_1 dX10_inList_20 ?_
      refine aL0 dX10_inList_21 ?_
      refine R_getR dX10_inList_22 fX10_64.r hT.o rfl ?_
      refine iL2 dX10_inList_25 ?_
      refine ialdN dX10_inList_26 hT.a12 rfl (by omega) ?_
      refine topV (hw.a12 (by omega)) ?_
      refine R_ishl dX10_inList_27 ?_
      refine R_ior dX10_inList_28 ?_
      refine iS1 dX10_inList_29 ?_
      refine iInc2 dX10_inList_30 (winc (by omega)) ?_
      refine R_goto dX10_inList_33 ?_
      exact eqI1 (by first | (rw [listF_f (by omega)]) | (rw [listF_t (by omega)])) (ih (by omega))
set_option maxHeartbeats 400000 in
theorem C_X10_worthOf {d : Nat} {g : Gs} {h : Hc} {P : Po} {t : Nat} {w : Nat → Int} (hT : TwG g t) (hw : Tw h t w) (hf : WF w) {x : Int} (K : P (.inl (some (vI (worthOf w x)))) g h) : Call (d + 0) 0 0 mX10_worthOf [vR t, vI x] g h P := by
  refine Call_of rfl ⟨by decide +kernel, rfl⟩ (Nat.le_of_ble_eq_true rfl) rfl ?_
  refine R_iconst_0 dX10_worthOf_0 ?_
  refine iS2 dX10_worthOf_1 ?_
  refine R_iconst_0 dX10_worthOf_2 ?_
  refine iS3 dX10_worthOf_3 ?_
  have hcs := hf.cas
  refine loopN ((w 1).toNat) (fun c => Run (d + 0) 0 0 mX10_worthOf 4 [vR t, vI x, vI (sumB (fun c => w (102 + 7 * c)) (fun c => tb x c) c), vI (c : Int)] [] g h P) (fun c hcn ih => ?_) (0) (Nat.zero_le _)
  refine iL3 dX10_worthOf_4 ?_
  refine aL0 dX10_worthOf_5 ?_
  refine R_getI dX10_worthOf_6 fX10_15.r hT.o ?_
  refine topV (hw.s1) ?_
  refine R_icmp_ge dX10_worthOf_9 (fun hb9 => ?_) (fun hb9 => ?_)
  · have e9 : c = (w 1).toNat := by omega
    subst e9
    refine iL2 dX10_worthOf_35 ?_
    exact R_iret dX10_worthOf_36 rfl (K)
  · refine iL1 dX10_worthOf_12 ?_
    refine iL3 dX10_worthOf_13 ?_
    refine R_ishr dX10_worthOf_14 ?_
    refine R_iconst_1 dX10_worthOf_15 ?_
    refine R_iand dX10_worthOf_16 ?_
    refine topV (bitT (by omega)) ?_
    refine R_if_eq dX10_worthOf_17 (fun hb17 => ?_) (fun hb17 => ?_)
    · refine iInc3 dX10_worthOf_29 (winc (by omega)) ?_
      refine R_goto dX10_worthOf_32 ?_
      exact eqI2 (by first | (rw [sumB_f (by simpa using hb17)]) | (rw [sumB_t (by simpa using hb17)])) (ih (by omega))
    · refine iL2 dX10_worthOf_20 ?_
      refine aL0 dX10_worthOf_21 ?_
      refine R_getR dX10_worthOf_22 fX10_49.r hT.o rfl ?_
      refine iL3 dX10_worthOf_25 ?_
      refine ialdN dX10_worthOf_26 hT.a7 rfl (by omega) ?_
      refine topV (hw.a7 (by omega)) ?_
      have hsb := sumB_rng (f := fun c => w (102 + 7 * c)) (p := fun c => tb x c) (m := 99) (by omega) (n := c) (fun k hk => (hf.cof k (by omega)).2.2.1)
      have hwc := (hf.cof c (by omega)).2.2.1
      refine addV dX10_worthOf_27 (wid (by omega) (by omega)) ?_
      refine iS2 dX10_worthOf_28 ?_
      refine iInc3 dX10_worthOf_29 (winc (by omega)) ?_
      refine R_goto dX10_worthOf_32 ?_
      exact eqI2 (by first | (rw [sumB_f (by simpa using hb17)]) | (rw [sumB_t (by simpa using hb17)])) (ih (by omega))
set_option maxHeartbeats 400000 in
theorem C_X10_hungerOfAll {d : Nat} {g : Gs} {h : Hc} {P : Po} {t : Nat} {w : Nat → Int} (hT : TwG g t) (hw : Tw h t w) (hf : WF w) (K : P (.inl (some (vI (hungAll w)))) g h) : Call (d + 0) 0 0 mX10_hungerOfAll [vR t] g h P := by
  refine Call_of rfl ⟨by decide +kernel, rfl⟩ (Nat.le_of_ble_eq_true rfl) rfl ?_
  refine R_iconst_0 dX10_hungerOfAll_0 ?_
  refine iS1 dX10_hungerOfAll_1 ?_
  refine R_iconst_0 dX10_hungerOfAll_2 ?_
  refine iS2 dX10_hungerOfAll_3 ?_
  have hjs := hf.jud
  refine loopN ((w 0).toNat) (fun c => Run (d + 0) 0 0 mX10_hungerOfAll 4 [vR t, vI (sumB (fun j => w (80 + 4 * j)) (fun _ => true) c), vI (c : Int)] [] g h P) (fun c hcn ih => ?_) (0) (Nat.zero_le _)
  refine iL2 dX10_hungerOfAll_4 ?_
  refine aL0 dX10_hungerOfAll_5 ?_
  refine R_getI dX10_hungerOfAll_6 fX10_9.r hT.o ?_
  refine topV (hw.s0) ?_
  refine R_icmp_ge dX10_hungerOfAll_9 (fun hb9 => ?_) (fun hb9 => ?_)
  · have e9 : c = (w 0).toNat := by omega
    subst e9
    refine iL1 dX10_hungerOfAll_27 ?_
    exact R_iret dX10_hungerOfAll_28 rfl (K)
  · refine iL1 dX10_hungerOfAll_12 ?_
    refine aL0 dX10_hungerOfAll_13 ?_
    refine R_getR dX10_hungerOfAll_14 fX10_30.r hT.o rfl ?_
    refine iL2 dX10_hungerOfAll_17 ?_
    refine ialdN dX10_hungerOfAll_18 hT.a1 rfl (by omega) ?_
    refine topV (hw.a1 (by omega)) ?_
    have hsb := sumB_rng (f := fun j => w (80 + 4 * j)) (p := fun _ => true) (m := 99) (by omega) (n := c) (fun k hk => (hf.jof k (by omega)).1)
    have hwc := (hf.jof c (by omega)).1
    refine addV dX10_hungerOfAll_19 (wid (by omega) (by omega)) ?_
    refine iS1 dX10_hungerOfAll_20 ?_
    refine iInc2 dX10_hungerOfAll_21 (winc (by omega)) ?_
    refine R_goto dX10_hungerOfAll_24 ?_
    exact eqI1 (by rw [sumB_t rfl]) (ih (by omega))
set_option maxHeartbeats 400000 in
theorem C_X10_shareOf {d : Nat} {g : Gs} {h : Hc} {P : Po} {t : Nat} {w : Nat → Int} (hT : TwG g t) (hw : Tw h t w) (hf : WF w) {x : Int} (K : P (.inl (some (vI (shareW w x)))) g h) : Call (d + 0) 0 0 mX10_shareOf [vR t, vI x] g h P := by
  refine Call_of rfl ⟨by decide +kernel, rfl⟩ (Nat.le_of_ble_eq_true rfl) rfl ?_
  refine R_iconst_0 dX10_shareOf_0 ?_
  refine iS2 dX10_shareOf_1 ?_
  refine R_iconst_0 dX10_shareOf_2 ?_
  refine iS3 dX10_shareOf_3 ?_
  refine R_iconst_0 dX10_shareOf_4 ?_
  refine iS4 dX10_shareOf_5 ?_
  have hcs := hf.cas
  refine loopN ((w 1).toNat) (fun c => Run (d + 0) 0 0 mX10_shareOf 7 [vR t, vI x, vI ((cntB (inStP w 1) c : Nat) : Int), vI ((cntB (freedBy w x) c : Nat) : Int), vI (c : Int)] [] g h P) (fun c hcn ih => ?_) (0) (Nat.zero_le _)
  refine iL4 dX10_shareOf_7 ?_
  refine aL0 dX10_shareOf_9 ?_
  refine R_getI dX10_shareOf_10 fX10_15.r hT.o ?_
  refine topV (hw.s1) ?_
  refine R_icmp_ge dX10_shareOf_13 (fun hb13 => ?_) (fun hb13 => ?_)
  · have e9 : c = (w 1).toNat := by omega
    subst e9
    refine iL2 dX10_shareOf_55 ?_
    refine R_if_ne dX10_shareOf_56 (fun hb56 => ?_) (fun hb56 => ?_)
    · refine iL3 dX10_shareOf_63 ?_
      refine R_bipush dX10_shareOf_64 (by decide) ?_
      have hcl := cntB_le (inStP w 1) (w 1).toNat
      have hcl2 := cntB_le (freedBy w x) (w 1).toNat
      refine mulV dX10_shareOf_66 (wid (by omega) (by omega)) ?_
      refine iL2 dX10_shareOf_67 ?_
      refine divV dX10_shareOf_68 (by omega) (v := (100 * cntB (freedBy w x) (w 1).toNat : Int) / (cntB (inStP w 1) (w 1).toNat : Int)) (shareDiv (by omega) (by omega)) ?_
      exact R_iret dX10_shareOf_69 rfl (PeqI K (by unfold shareW; (repeat' split) <;> omega))
    · refine R_iconst_0 dX10_shareOf_59 ?_
      refine R_goto dX10_shareOf_60 ?_
      exact R_iret dX10_shareOf_69 rfl (PeqI K (by unfold shareW; (repeat' split) <;> omega))
  · refine aL0 dX10_shareOf_16 ?_
    refine R_getR dX10_shareOf_17 fX10_55.r hT.o rfl ?_
    refine iL4 dX10_shareOf_20 ?_
    refine ialdN dX10_shareOf_22 hT.a9 rfl (by omega) ?_
    refine topV (hw.a9 (by omega)) ?_
    refine R_iconst_1 dX10_shareOf_23 ?_
    refine R_icmp_ne dX10_shareOf_24 (fun hb24 => ?_) (fun hb24 => ?_)
    · refine iInc4 dX10_shareOf_49 (winc (by omega)) ?_
      refine R_goto dX10_shareOf_52 ?_
      exact eqI2 (by first | (rw [cntB_f (by simp [inStP]; omega)]; done) | (rw [cntB_t (by simp [inStP]; omega)]; done) | (rw [cntB_t (by simp [inStP]; omega)]; omega)) (eqI3 (by first | (rw [cntB_f (by simp [freedBy]; omega)]; done) | (rw [cntB_f (by simp [freedBy]; omega)]; omega) | (rw [cntB_t (by simp [freedBy]; omega)]; omega)) (ih (by omega)))
    · have hcl := cntB_le (inStP w 1) c
      refine iInc2 dX10_shareOf_27 (v := ((cntB (inStP w 1) c + 1 : Nat) : Int)) (by rw [wid (by omega) (by omega)]; omega) ?_
      refine iL3 dX10_shareOf_30 ?_
      refine aL0 dX10_shareOf_31 ?_
      refine R_getR dX10_shareOf_32 fX10_58.r hT.o rfl ?_
      refine iL4 dX10_shareOf_35 ?_
      refine ialdN dX10_shareOf_37 hT.a10 rfl (by omega) ?_
      refine topV (hw.a10 (by omega)) ?_
      refine iL1 dX10_shareOf_38 ?_
      refine R_icmp_ne dX10_shareOf_39 (fun hb39 => ?_) (fun hb39 => ?_)
      · refine R_iconst_0 dX10_shareOf_46 ?_
        have hcl2 := cntB_le (freedBy w x) c
        refine addV dX10_shareOf_47 (wid (by omega) (by omega)) ?_
        refine iS3 dX10_shareOf_48 ?_
        refine iInc4 dX10_shareOf_49 (winc (by omega)) ?_
        refine R_goto dX10_shareOf_52 ?_
        exact eqI2 (by first | (rw [cntB_f (by simp [inStP]; omega)]; done) | (rw [cntB_t (by simp [inStP]; omega)]; done) | (rw [cntB_t (by simp [inStP]; omega)]; omega)) (eqI3 (by first | (rw [cntB_f (by simp [freedBy]; omega)]; done) | (rw [cntB_f (by simp [freedBy]; omega)]; omega) | (rw [cntB_t (by simp [freedBy]; omega)]; omega)) (ih (by omega)))
      · refine R_iconst_1 dX10_shareOf_42 ?_
        refine R_goto dX10_shareOf_43 ?_
        have hcl2 := cntB_le (freedBy w x) c
        refine addV dX10_shareOf_47 (wid (by omega) (by omega)) ?_
        refine iS3 dX10_shareOf_48 ?_
        refine iInc4 dX10_shareOf_49 (winc (by omega)) ?_
        refine R_goto dX10_shareOf_52 ?_
        exact eqI2 (by first | (rw [cntB_f (by simp [inStP]; omega)]; done) | (rw [cntB_t (by simp [inStP]; omega)]; done) | (rw [cntB_t (by simp [inStP]; omega)]; omega)) (eqI3 (by first | (rw [cntB_f (by simp [freedBy]; omega)]; done) | (rw [cntB_f (by simp [freedBy]; omega)]; omega) | (rw [cntB_t (by simp [freedBy]; omega)]; omega)) (ih (by omega)))
