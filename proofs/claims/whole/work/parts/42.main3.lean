set_option maxHeartbeats 400000 in
theorem C_X11_rather {d : Nat} {g : Gs} {h : Hc} {P : Po} {X : Nat} {w : Nat → Int} (hG : ClG g X) (hw : Tw h (X + 5) w) (hf : WF w) (hl : Lw h (X + 53) w) (ho : LawOK w) {x y : Int} (KE : ¬ ((0 ≤ x ∧ x < w 0) ∧ 0 ≤ y ∧ y < 5) → P (.inr xIO) g h) (K0 : ∀ j z : Nat, x = (j : Int) → y = (z : Int) → (j : Int) < w 0 → z < 5 → P (.inl (some (vI (bset (ratP w j z) 5)))) g h) : Call (d + 2) 2 12 mX11_rather [vR X, vI x, vI y] g h P := by
  have hjd := hf.jud
  have hcs := hf.cas
  have hho := hf.hou
  refine Call_of rfl ⟨by decide +kernel, rfl⟩ (Nat.le_of_ble_eq_true rfl) rfl ?_
  refine aL0 dX11_rather_0 ?_
  refine iL1 dX11_rather_1 ?_
  refine invV1 rfl dX11_rather_2 kX11_143 hG.o (Nat.le_of_ble_eq_true rfl) (by decide) (by decide) (C_X11_needJudge hG hw hf (fun hn1 => konVm hG.one ?_) (fun hn1 => konEm hG.one (KE (by omega))))
  obtain ⟨j, rfl⟩ : ∃ j : Nat, x = (j : Int) := ⟨(x).toNat, by omega⟩
  refine iL2 dX11_rather_5 ?_
  refine R_if_lt dX11_rather_6 (fun hb6 => ?_) (fun hb6 => ?_)
  · exact R_throw rfl dX11_rather_14 dX11_rather_17 dX11_rather_18 dX11_rather_21 tX11_320 hG.one (Nat.le_of_ble_eq_true rfl) (by decide) (by decide) (KE (by omega))
  · refine iL2 dX11_rather_9 ?_
    refine R_iconst_5 dX11_rather_10 ?_
    refine R_icmp_lt dX11_rather_11 (fun hb11 => ?_) (fun hb11 => ?_)
    · obtain ⟨z, rfl⟩ : ∃ z : Nat, y = (z : Int) := ⟨y.toNat, by omega⟩
      refine aL0 dX11_rather_22 ?_
      refine R_getR dX11_rather_23 fX11_84.r hG.o rfl ?_
      refine iL1 dX11_rather_26 ?_
      refine iL2 dX11_rather_27 ?_
      refine invV2 rfl dX11_rather_28 kX11_323 (hG.matches hw hf hl ho).o (Nat.le_of_ble_eq_true rfl) (Nat.zero_le _) (Nat.zero_le _) (C_X5_circuitsAheadOf (hG.matches hw hf hl ho) (by omega) (by omega) (konI ?_))
      exact R_iret dX11_rather_31 rfl (K0 j z rfl rfl (by omega) (by omega))
    · exact R_throw rfl dX11_rather_14 dX11_rather_17 dX11_rather_18 dX11_rather_21 tX11_320 hG.one (Nat.le_of_ble_eq_true rfl) (by decide) (by decide) (KE (by omega))
def splB (w : Nat → Int) (c : Nat) : Bool := decide (0 < cntB (frN w c) (w 0).toNat) && decide (((cntB (frN w c) (w 0).toNat : Nat) : Int) < w 0)
set_option maxHeartbeats 400000 in
theorem C_X11_split {d : Nat} {g : Gs} {h : Hc} {P : Po} {X : Nat} {w : Nat → Int} (hG : ClG g X) (hw : Tw h (X + 5) w) (hf : WF w) (hl : Lw h (X + 53) w) (ho : LawOK w) {x : Int} (KE : ¬ (0 ≤ x ∧ x < w 1) → P (.inr xIO) g h) (K0 : ∀ c : Nat, x = (c : Int) → (c : Int) < w 1 → ∀ h', Off (xsc X) h h' → P (.inl (some (vI (bI (splB w c))))) g h') : Call (d + 5) 1 6 mX11_split [vR X, vI x] g h P := by
  have hjd := hf.jud
  have hcs := hf.cas
  have hho := hf.hou
  refine Call_of rfl ⟨by decide +kernel, rfl⟩ (Nat.le_of_ble_eq_true rfl) rfl ?_
  refine aL0 dX11_split_0 ?_
  refine iL1 dX11_split_1 ?_
  refine invV1 rfl dX11_split_2 kX11_185 hG.o (Nat.le_of_ble_eq_true rfl) (by decide) (by decide) (C_X11_needCase hG hw hf (fun hn1 => konVm hG.one ?_) (fun hn1 => konEm hG.one (KE (by omega))))
  obtain ⟨c, rfl⟩ : ∃ c : Nat, x = (c : Int) := ⟨(x).toNat, by omega⟩
  refine aL0 dX11_split_5 ?_
  refine R_getR dX11_split_6 fX11_65.r hG.o rfl ?_
  refine iL1 dX11_split_9 ?_
  refine invV1 rfl dX11_split_10 kX11_263 (hG.court hw hf hl ho).ct (Nat.le_of_ble_eq_true rfl) (Nat.zero_le _) (Nat.zero_le _) (C_X1_freeingNow (hG.court hw hf hl ho) (by omega) (fun h9 hx9 => konI ?_))
  have hC9 := (hG.court hw hf hl ho).off hx9
  refine iS2 dX11_split_13 ?_
  refine iL2 dX11_split_14 ?_
  refine R_if_le dX11_split_15 (fun hb15 => ?_) (fun hb15 => ?_)
  · refine R_iconst_0 dX11_split_33 ?_
    exact R_zret dX11_split_34 rfl (by decide) (PeqI (K0 c rfl (by omega) _ hx9.scx) (by first | (rw [bI_t (by simp [splB]; omega)]) | (rw [bI_f (by simp [splB]; omega)])))
  · refine iL2 dX11_split_18 ?_
    refine aL0 dX11_split_19 ?_
    refine R_getR dX11_split_20 fX11_19.r hG.o rfl ?_
    refine R_getI dX11_split_23 fX11_266.r hG.now.o ?_
    refine topV (v := w 0) (hC9.tw.s0) ?_
    have hq2 := hf.jud
    refine R_icmp_ge dX11_split_26 (fun hb26 => ?_) (fun hb26 => ?_)
    · refine R_iconst_0 dX11_split_33 ?_
      exact R_zret dX11_split_34 rfl (by decide) (PeqI (K0 c rfl (by omega) _ hx9.scx) (by first | (rw [bI_t (by simp [splB]; omega)]) | (rw [bI_f (by simp [splB]; omega)])))
    · refine R_iconst_1 dX11_split_29 ?_
      refine R_goto dX11_split_30 ?_
      exact R_zret dX11_split_34 rfl (by decide) (PeqI (K0 c rfl (by omega) _ hx9.scx) (by first | (rw [bI_t (by simp [splB]; omega)]) | (rw [bI_f (by simp [splB]; omega)])))
set_option maxHeartbeats 400000 in
theorem C_X11_state {d : Nat} {g : Gs} {h : Hc} {P : Po} {X : Nat} {w : Nat → Int} (hG : ClG g X) (hw : Tw h (X + 5) w) (hf : WF w) (hl : Lw h (X + 53) w) (ho : LawOK w) {x : Int} (KE : ¬ (0 ≤ x ∧ x ≤ 3) → P (.inr xIA) g h) (K0 : 0 ≤ x ∧ x ≤ 3 → P (.inl (some (vI (inSt w x)))) g h) : Call (d + 1) 1 6 mX11_state [vR X, vI x] g h P := by
  have hjd := hf.jud
  have hcs := hf.cas
  have hho := hf.hou
  refine Call_of rfl ⟨by decide +kernel, rfl⟩ (Nat.le_of_ble_eq_true rfl) rfl ?_
  refine aL0 dX11_state_0 ?_
  refine iL1 dX11_state_1 ?_
  refine R_iconst_0 dX11_state_2 ?_
  refine R_iconst_3 dX11_state_3 ?_
  refine invV3 rfl dX11_state_4 kX11_240 hG.o (Nat.le_of_ble_eq_true rfl) (by decide) (by decide) (C_X11_needNumber hG hw hf (fun hn1 => konVm hG.one ?_) (fun hn1 => konEm hG.one (KE (by omega))))
  refine aL0 dX11_state_7 ?_
  refine R_getR dX11_state_8 fX11_19.r hG.o rfl ?_
  refine iL1 dX11_state_11 ?_
  refine invV1 rfl dX11_state_12 kX11_341 hG.now.o (Nat.le_of_ble_eq_true rfl) (Nat.zero_le _) (Nat.zero_le _) (C_X10_inState hG.now hw hf (konI ?_))
  exact R_iret dX11_state_15 rfl (K0 (by omega))
set_option maxHeartbeats 400000 in
theorem C_X11_saved {d : Nat} {g : Gs} {h : Hc} {P : Po} {X : Nat} {w : Nat → Int} (hG : ClG g X) (hw : Tw h (X + 5) w) (hf : WF w) (hl : Lw h (X + 53) w) (ho : LawOK w) {b : Bool} (K0 : ∀ h', Off (xsc X) h h' → P (.inl (some (vI (if b then worthOf w ((savW w : Nat) : Int) else ((savW w : Nat) : Int))))) g h') : Call (d + 5) 0 0 mX11_saved [vR X, vI (bI (b))] g h P := by
  have hjd := hf.jud
  have hcs := hf.cas
  have hho := hf.hou
  refine Call_of rfl ⟨by decide +kernel, rfl⟩ (Nat.le_of_ble_eq_true rfl) rfl ?_
  refine aL0 dX11_saved_0 ?_
  refine R_getR dX11_saved_1 fX11_84.r hG.o rfl ?_
  refine invV0 rfl dX11_saved_4 kX11_269 (hG.matches hw hf hl ho).o (Nat.le_of_ble_eq_true rfl) (Nat.zero_le _) (Nat.zero_le _) (C_X5_openPlaces (hG.matches hw hf hl ho) (fun h9 hx9 hop => konV ?_))
  have hM9 := (hG.matches hw hf hl ho).off hx9
  refine aL0 dX11_saved_7 ?_
  refine R_getR dX11_saved_8 fX11_84.r hG.o rfl ?_
  refine invV0 rfl dX11_saved_11 kX11_272 (hG.matches hw hf hl ho).o (Nat.le_of_ble_eq_true rfl) (Nat.zero_le _) (Nat.zero_le _) (C_X5_savedCases hM9 hop (konI ?_))
  refine iS2 dX11_saved_14 ?_
  refine iL1 dX11_saved_15 ?_
  refine R_ifB_eq dX11_saved_16 (fun hb16 => ?_) (fun hb16 => ?_)
  · refine iL2 dX11_saved_30 ?_
    exact R_iret dX11_saved_31 rfl (PeqI (K0 _ hx9) (by rw [hb16]; rfl))
  · refine aL0 dX11_saved_19 ?_
    refine R_getR dX11_saved_20 fX11_19.r hG.o rfl ?_
    refine iL2 dX11_saved_23 ?_
    refine invV1 rfl dX11_saved_24 kX11_276 hG.now.o (Nat.le_of_ble_eq_true rfl) (Nat.zero_le _) (Nat.zero_le _) (C_X10_worthOf hG.now hM9.tw hf (konI ?_))
    refine R_goto dX11_saved_27 ?_
    exact R_iret dX11_saved_31 rfl (PeqI (K0 _ hx9) (by rw [hb16]; rfl))
set_option maxHeartbeats 400000 in
theorem C_X11_needed {d : Nat} {g : Gs} {h : Hc} {P : Po} {X : Nat} {w : Nat → Int} (hG : ClG g X) (hw : Tw h (X + 5) w) (hf : WF w) (hl : Lw h (X + 53) w) (ho : LawOK w) (K0 : ∀ h', Off (xsc X) h h' → P (.inl (some (vI (needW w (savW w))))) g h') : Call (d + 5) 0 0 mX11_needed [vR X] g h P := by
  have hjd := hf.jud
  have hcs := hf.cas
  have hho := hf.hou
  refine Call_of rfl ⟨by decide +kernel, rfl⟩ (Nat.le_of_ble_eq_true rfl) rfl ?_
  refine aL0 dX11_needed_0 ?_
  refine R_getR dX11_needed_1 fX11_84.r hG.o rfl ?_
  refine invV0 rfl dX11_needed_4 kX11_269 (hG.matches hw hf hl ho).o (Nat.le_of_ble_eq_true rfl) (Nat.zero_le _) (Nat.zero_le _) (C_X5_openPlaces (hG.matches hw hf hl ho) (fun h9 hx9 hop => konV ?_))
  have hM9 := (hG.matches hw hf hl ho).off hx9
  refine aL0 dX11_needed_7 ?_
  refine R_getR dX11_needed_8 fX11_84.r hG.o rfl ?_
  refine aL0 dX11_needed_11 ?_
  refine R_getR dX11_needed_12 fX11_84.r hG.o rfl ?_
  refine invV0 rfl dX11_needed_15 kX11_272 (hG.matches hw hf hl ho).o (Nat.le_of_ble_eq_true rfl) (Nat.zero_le _) (Nat.zero_le _) (C_X5_savedCases hM9 hop (konI ?_))
  refine invV1 rfl dX11_needed_18 kX11_279 (hG.matches hw hf hl ho).o (Nat.le_of_ble_eq_true rfl) (Nat.zero_le _) (Nat.zero_le _) (C_X5_hoursFor hM9 hop (savF_lt hf _) (konI ?_))
  exact R_iret dX11_needed_21 rfl (K0 _ hx9)
set_option maxHeartbeats 400000 in
theorem C_X11_hungriest {d : Nat} {g : Gs} {h : Hc} {P : Po} {X : Nat} {w : Nat → Int} (hG : ClG g X) (hw : Tw h (X + 5) w) (hf : WF w) (hl : Lw h (X + 53) w) (ho : LawOK w) (K0 : P (.inl (some (vI (amx (fun _ => true) (fun j => w (80 + 4 * j)) (w 0).toNat)))) g h) : Call (d + 0) 0 0 mX11_hungriest [vR X] g h P := by
  have hjd := hf.jud
  have hcs := hf.cas
  have hho := hf.hou
  refine Call_of rfl ⟨by decide +kernel, rfl⟩ (Nat.le_of_ble_eq_true rfl) rfl ?_
  refine R_iconst_m1 dX11_hungriest_0 ?_
  refine iS1 dX11_hungriest_1 ?_
  refine R_iconst_0 dX11_hungriest_2 ?_
  refine iS2 dX11_hungriest_3 ?_
  refine loopN ((w 0).toNat) (fun q => Run (d + 0) 0 0 mX11_hungriest 4 [vR X, vI (amx (fun _ => true) (fun j => w (80 + 4 * j)) q), vI ((q : Nat) : Int)] [] g h P) (fun q hcnq ihq => ?_) (0) (Nat.zero_le _)
  have hax := amx_lt (fun _ => true) (fun j => w (80 + 4 * j)) q
  refine iL2 dX11_hungriest_4 ?_
  refine aL0 dX11_hungriest_5 ?_
  refine R_getR dX11_hungriest_6 fX11_19.r hG.o rfl ?_
  refine R_getI dX11_hungriest_9 fX11_266.r hG.now.o ?_
  refine topV (v := w 0) (hw.s0) ?_
  have hq1 := hf.jud
  refine R_icmp_ge dX11_hungriest_12 (fun hb12 => ?_) (fun hb12 => ?_)
  · have e9 : q = (w 0).toNat := by omega
    subst e9
    refine iL1 dX11_hungriest_48 ?_
    exact R_iret dX11_hungriest_49 rfl (K0)
  · refine iL1 dX11_hungriest_15 ?_
    refine R_if_lt dX11_hungriest_16 (fun hb16 => ?_) (fun hb16 => ?_)
    · refine iL2 dX11_hungriest_40 ?_
      refine iS1 dX11_hungriest_41 ?_
      refine iInc2 dX11_hungriest_42 (winc (by omega)) ?_
      refine R_goto dX11_hungriest_45 ?_
      exact eqI1 (by rw [amx_s]; first | (rw [if_neg (fun q9 => absurd q9.2 (by omega))]; done) | (rw [if_pos ⟨by first | rfl | (simp; omega), by omega⟩]; done) | (rw [if_neg (fun q9 => by have := q9.1; simp at this; omega)]; done)) (ihq (by omega))
    · refine aL0 dX11_hungriest_19 ?_
      refine R_getR dX11_hungriest_20 fX11_19.r hG.o rfl ?_
      refine R_getR dX11_hungriest_23 fX11_146 hG.now.o rfl ?_
      refine iL2 dX11_hungriest_26 ?_
      refine ialdN dX11_hungriest_27 hG.now.a1 rfl (by omega) ?_
      refine topV (v := w (80 + 4 * q)) (hw.a1 (by omega)) ?_
      have hq2 := hf.hu (j := q) (by omega)
      refine aL0 dX11_hungriest_28 ?_
      refine R_getR dX11_hungriest_29 fX11_19.r hG.o rfl ?_
      refine R_getR dX11_hungriest_32 fX11_146 hG.now.o rfl ?_
      refine iL1 dX11_hungriest_35 ?_
      refine topV (v := (((amx (fun _ => true) (fun j => w (80 + 4 * j)) q).toNat : Nat) : Int)) (by omega) ?_
      refine ialdN dX11_hungriest_36 hG.now.a1 rfl (by omega) ?_
      refine topV (v := w (80 + 4 * ((amx (fun _ => true) (fun j => w (80 + 4 * j)) q).toNat))) (hw.a1 (by omega)) ?_
      have hq3 := hf.hu (j := ((amx (fun _ => true) (fun j => w (80 + 4 * j)) q).toNat)) (by omega)
      refine R_icmp_le dX11_hungriest_37 (fun hb37 => ?_) (fun hb37 => ?_)
      · refine iInc2 dX11_hungriest_42 (winc (by omega)) ?_
        refine R_goto dX11_hungriest_45 ?_
        exact eqI1 (by rw [amx_s]; first | (rw [if_neg (fun q9 => absurd q9.2 (by omega))]; done) | (rw [if_pos ⟨by first | rfl | (simp; omega), by omega⟩]; done) | (rw [if_neg (fun q9 => by have := q9.1; simp at this; omega)]; done)) (ihq (by omega))
      · refine iL2 dX11_hungriest_40 ?_
        refine iS1 dX11_hungriest_41 ?_
        refine iInc2 dX11_hungriest_42 (winc (by omega)) ?_
        refine R_goto dX11_hungriest_45 ?_
        exact eqI1 (by rw [amx_s]; first | (rw [if_neg (fun q9 => absurd q9.2 (by omega))]; done) | (rw [if_pos ⟨by first | rfl | (simp; omega), by omega⟩]; done) | (rw [if_neg (fun q9 => by have := q9.1; simp at this; omega)]; done)) (ihq (by omega))
set_option maxHeartbeats 400000 in
theorem C_X11_gravest {d : Nat} {g : Gs} {h : Hc} {P : Po} {X : Nat} {w : Nat → Int} (hG : ClG g X) (hw : Tw h (X + 5) w) (hf : WF w) (hl : Lw h (X + 53) w) (ho : LawOK w) (K0 : P (.inl (some (vI (amx (fun c => decide (w (104 + 7 * c) = 0)) (fun c => w (101 + 7 * c)) (w 1).toNat)))) g h) : Call (d + 0) 0 0 mX11_gravest [vR X] g h P := by
  have hjd := hf.jud
  have hcs := hf.cas
  have hho := hf.hou
  refine Call_of rfl ⟨by decide +kernel, rfl⟩ (Nat.le_of_ble_eq_true rfl) rfl ?_
  refine R_iconst_m1 dX11_gravest_0 ?_
  refine iS1 dX11_gravest_1 ?_
  refine R_iconst_0 dX11_gravest_2 ?_
  refine iS2 dX11_gravest_3 ?_
  refine loopN ((w 1).toNat) (fun q => Run (d + 0) 0 0 mX11_gravest 4 [vR X, vI (amx (fun c => decide (w (104 + 7 * c) = 0)) (fun c => w (101 + 7 * c)) q), vI ((q : Nat) : Int)] [] g h P) (fun q hcnq ihq => ?_) (0) (Nat.zero_le _)
  have hax := amx_lt (fun c => decide (w (104 + 7 * c) = 0)) (fun c => w (101 + 7 * c)) q
  refine iL2 dX11_gravest_4 ?_
  refine aL0 dX11_gravest_5 ?_
  refine R_getR dX11_gravest_6 fX11_19.r hG.o rfl ?_
  refine R_getI dX11_gravest_9 fX11_290.r hG.now.o ?_
  refine topV (v := w 1) (hw.s1) ?_
  have hq1 := hf.cas
  refine R_icmp_ge dX11_gravest_12 (fun hb12 => ?_) (fun hb12 => ?_)
  · have e9 : q = (w 1).toNat := by omega
    subst e9
    refine iL1 dX11_gravest_60 ?_
    exact R_iret dX11_gravest_61 rfl (K0)
  · refine aL0 dX11_gravest_15 ?_
    refine R_getR dX11_gravest_16 fX11_19.r hG.o rfl ?_
    refine R_getR dX11_gravest_19 fX11_203 hG.now.o rfl ?_
    refine iL2 dX11_gravest_22 ?_
    refine ialdN dX11_gravest_23 hG.now.a9 rfl (by omega) ?_
    refine topV (v := w (104 + 7 * q)) (hw.a9 (by omega)) ?_
    have hq2 := hf.st (c := q) (by omega)
    refine R_if_ne dX11_gravest_24 (fun hb24 => ?_) (fun hb24 => ?_)
    · refine iInc2 dX11_gravest_54 (winc (by omega)) ?_
      refine R_goto dX11_gravest_57 ?_
      exact eqI1 (by rw [amx_s]; first | (rw [if_neg (fun q9 => absurd q9.2 (by omega))]; done) | (rw [if_pos ⟨by first | rfl | (simp; omega), by omega⟩]; done) | (rw [if_neg (fun q9 => by have := q9.1; simp at this; omega)]; done)) (ihq (by omega))
    · refine iL1 dX11_gravest_27 ?_
      refine R_if_lt dX11_gravest_28 (fun hb28 => ?_) (fun hb28 => ?_)
      · refine iL2 dX11_gravest_52 ?_
        refine iS1 dX11_gravest_53 ?_
        refine iInc2 dX11_gravest_54 (winc (by omega)) ?_
        refine R_goto dX11_gravest_57 ?_
        exact eqI1 (by rw [amx_s]; first | (rw [if_neg (fun q9 => absurd q9.2 (by omega))]; done) | (rw [if_pos ⟨by first | rfl | (simp; omega), by omega⟩]; done) | (rw [if_neg (fun q9 => by have := q9.1; simp at this; omega)]; done)) (ihq (by omega))
      · refine aL0 dX11_gravest_31 ?_
        refine R_getR dX11_gravest_32 fX11_19.r hG.o rfl ?_
        refine R_getR dX11_gravest_35 fX11_194 hG.now.o rfl ?_
        refine iL2 dX11_gravest_38 ?_
        refine ialdN dX11_gravest_39 hG.now.a6 rfl (by omega) ?_
        refine topV (v := w (101 + 7 * q)) (hw.a6 (by omega)) ?_
        have hq3 := hf.gr (c := q) (by omega)
        refine aL0 dX11_gravest_40 ?_
        refine R_getR dX11_gravest_41 fX11_19.r hG.o rfl ?_
        refine R_getR dX11_gravest_44 fX11_194 hG.now.o rfl ?_
        refine iL1 dX11_gravest_47 ?_
        refine topV (v := (((amx (fun c => decide (w (104 + 7 * c) = 0)) (fun c => w (101 + 7 * c)) q).toNat : Nat) : Int)) (by omega) ?_
        refine ialdN dX11_gravest_48 hG.now.a6 rfl (by omega) ?_
        refine topV (v := w (101 + 7 * ((amx (fun c => decide (w (104 + 7 * c) = 0)) (fun c => w (101 + 7 * c)) q).toNat))) (hw.a6 (by omega)) ?_
        have hq4 := hf.gr (c := ((amx (fun c => decide (w (104 + 7 * c) = 0)) (fun c => w (101 + 7 * c)) q).toNat)) (by omega)
        refine R_icmp_le dX11_gravest_49 (fun hb49 => ?_) (fun hb49 => ?_)
        · refine iInc2 dX11_gravest_54 (winc (by omega)) ?_
          refine R_goto dX11_gravest_57 ?_
          exact eqI1 (by rw [amx_s]; first | (rw [if_neg (fun q9 => absurd q9.2 (by omega))]; done) | (rw [if_pos ⟨by first | rfl | (simp; omega), by omega⟩]; done) | (rw [if_neg (fun q9 => by have := q9.1; simp at this; omega)]; done)) (ihq (by omega))
        · refine iL2 dX11_gravest_52 ?_
          refine iS1 dX11_gravest_53 ?_
          refine iInc2 dX11_gravest_54 (winc (by omega)) ?_
          refine R_goto dX11_gravest_57 ?_
          exact eqI1 (by rw [amx_s]; first | (rw [if_neg (fun q9 => absurd q9.2 (by omega))]; done) | (rw [if_pos ⟨by first | rfl | (simp; omega), by omega⟩]; done) | (rw [if_neg (fun q9 => by have := q9.1; simp at this; omega)]; done)) (ihq (by omega))
def kinP (w : Nat → Int) (x : Int) (c : Nat) : Bool := decide (w (100 + 7 * c) = x)
def rooP (w : Nat → Int) (c : Nat) : Bool := decide (w (103 + 7 * c) < 0) && decide (leanOn w c ≠ shlI 1 (c : Int))
set_option maxHeartbeats 400000 in
theorem C_X11_kind {d : Nat} {g : Gs} {h : Hc} {P : Po} {X : Nat} {w : Nat → Int} (hG : ClG g X) (hw : Tw h (X + 5) w) (hf : WF w) (hl : Lw h (X + 53) w) (ho : LawOK w) {x : Int} (KE : ¬ (0 ≤ x ∧ x < 6) → P (.inr xIO) g h) (K0 : 0 ≤ x ∧ x < 6 → P (.inl (some (vI (bset (kinP w x) (w 1).toNat)))) g h) : Call (d + 0) 1 6 mX11_kind [vR X, vI x] g h P := by
  have hjd := hf.jud
  have hcs := hf.cas
  have hho := hf.hou
  refine Call_of rfl ⟨by decide +kernel, rfl⟩ (Nat.le_of_ble_eq_true rfl) rfl ?_
  refine iL1 dX11_kind_0 ?_
  refine R_if_lt dX11_kind_1 (fun hb1 => ?_) (fun hb1 => ?_)
  · exact R_throw rfl dX11_kind_10 dX11_kind_13 dX11_kind_14 dX11_kind_17 tX11_320 hG.one (Nat.le_of_ble_eq_true rfl) (by decide) (by decide) (KE (by omega))
  · refine iL1 dX11_kind_4 ?_
    refine R_bipush dX11_kind_5 (by decide) ?_
    refine R_icmp_lt dX11_kind_7 (fun hb7 => ?_) (fun hb7 => ?_)
    · refine R_iconst_0 dX11_kind_18 ?_
      refine iS2 dX11_kind_19 ?_
      refine R_iconst_0 dX11_kind_20 ?_
      refine iS3 dX11_kind_21 ?_
      refine loopN ((w 1).toNat) (fun q => Run (d + 0) 1 6 mX11_kind 22 [vR X, vI x, vI (bset (kinP w x) q), vI ((q : Nat) : Int)] [] g h P) (fun q hcnq ihq => ?_) (0) (Nat.zero_le _)
      refine iL3 dX11_kind_22 ?_
      refine aL0 dX11_kind_23 ?_
      refine R_getR dX11_kind_24 fX11_19.r hG.o rfl ?_
      refine R_getI dX11_kind_27 fX11_290.r hG.now.o ?_
      refine topV (v := w 1) (hw.s1) ?_
      have hq1 := hf.cas
      refine R_icmp_ge dX11_kind_30 (fun hb30 => ?_) (fun hb30 => ?_)
      · have e9 : q = (w 1).toNat := by omega
        subst e9
        refine iL2 dX11_kind_58 ?_
        exact R_iret dX11_kind_59 rfl (K0 (by omega))
      · refine aL0 dX11_kind_33 ?_
        refine R_getR dX11_kind_34 fX11_19.r hG.o rfl ?_
        refine R_getR dX11_kind_37 fX11_191 hG.now.o rfl ?_
        refine iL3 dX11_kind_40 ?_
        refine ialdN dX11_kind_41 hG.now.a5 rfl (by omega) ?_
        refine topV (v := w (100 + 7 * q)) (hw.a5 (by omega)) ?_
        have hq2 := hf.ki (c := q) (by omega)
        refine iL1 dX11_kind_42 ?_
        refine R_icmp_ne dX11_kind_43 (fun hb43 => ?_) (fun hb43 => ?_)
        · refine iInc3 dX11_kind_52 (winc (by omega)) ?_
          refine R_goto dX11_kind_55 ?_
          exact eqI2 (by first | (rw [bset_f (by simp [kinP]; omega)]; done) | (rw [bset_t (by simp [kinP]; omega)]; done)) (ihq (by omega))
        · refine iL2 dX11_kind_46 ?_
          refine R_iconst_1 dX11_kind_47 ?_
          refine iL3 dX11_kind_48 ?_
          refine R_ishl dX11_kind_49 ?_
          refine R_ior dX11_kind_50 ?_
          refine iS2 dX11_kind_51 ?_
          refine iInc3 dX11_kind_52 (winc (by omega)) ?_
          refine R_goto dX11_kind_55 ?_
          exact eqI2 (by first | (rw [bset_f (by simp [kinP]; omega)]; done) | (rw [bset_t (by simp [kinP]; omega)]; done)) (ihq (by omega))
    · exact R_throw rfl dX11_kind_10 dX11_kind_13 dX11_kind_14 dX11_kind_17 tX11_320 hG.one (Nat.le_of_ble_eq_true rfl) (by decide) (by decide) (KE (by omega))
set_option maxHeartbeats 400000 in
theorem C_X11_roots {d : Nat} {g : Gs} {h : Hc} {P : Po} {X : Nat} {w : Nat → Int} (hG : ClG g X) (hw : Tw h (X + 5) w) (hf : WF w) (hl : Lw h (X + 53) w) (ho : LawOK w) (K0 : P (.inl (some (vI (bset (rooP w) (w 1).toNat)))) g h) : Call (d + 1) 0 0 mX11_roots [vR X] g h P := by
  have hjd := hf.jud
  have hcs := hf.cas
  have hho := hf.hou
  refine Call_of rfl ⟨by decide +kernel, rfl⟩ (Nat.le_of_ble_eq_true rfl) rfl ?_
  refine R_iconst_0 dX11_roots_0 ?_
  refine iS1 dX11_roots_1 ?_
  refine R_iconst_0 dX11_roots_2 ?_
  refine iS2 dX11_roots_3 ?_
  refine loopN ((w 1).toNat) (fun q => Run (d + 1) 0 0 mX11_roots 4 [vR X, vI (bset (rooP w) q), vI ((q : Nat) : Int)] [] g h P) (fun q hcnq ihq => ?_) (0) (Nat.zero_le _)
  refine iL2 dX11_roots_4 ?_
  refine aL0 dX11_roots_5 ?_
  refine R_getR dX11_roots_6 fX11_19.r hG.o rfl ?_
  refine R_getI dX11_roots_9 fX11_290.r hG.now.o ?_
  refine topV (v := w 1) (hw.s1) ?_
  have hq1 := hf.cas
  refine R_icmp_ge dX11_roots_12 (fun hb12 => ?_) (fun hb12 => ?_)
  · have e9 : q = (w 1).toNat := by omega
    subst e9
    refine iL1 dX11_roots_53 ?_
    exact R_iret dX11_roots_54 rfl (K0)
  · refine aL0 dX11_roots_15 ?_
    refine R_getR dX11_roots_16 fX11_19.r hG.o rfl ?_
    refine R_getR dX11_roots_19 fX11_200 hG.now.o rfl ?_
    refine iL2 dX11_roots_22 ?_
    refine ialdN dX11_roots_23 hG.now.a8 rfl (by omega) ?_
    refine topV (v := w (103 + 7 * q)) (hw.a8 (by omega)) ?_
    have hq2 := hf.on (c := q) (by omega)
    refine R_if_ge dX11_roots_24 (fun hb24 => ?_) (fun hb24 => ?_)
    · refine iInc2 dX11_roots_47 (winc (by omega)) ?_
      refine R_goto dX11_roots_50 ?_
      exact eqI1 (by first | (rw [bset_f (by unfold rooP; rw [decide_eq_false (p := w (103 + 7 * q) < 0) (by omega)]; rfl)]; done) | (rw [bset_f (by unfold rooP; rw [decide_eq_false (p := leanOn w q ≠ shlI 1 (q : Int)) (fun q9 => q9 hb38)]; simp)]; done) | (rw [bset_t (by unfold rooP; rw [decide_eq_true (p := w (103 + 7 * q) < 0) (by omega), decide_eq_true (p := leanOn w q ≠ shlI 1 (q : Int)) hb38]; rfl)]; done)) (ihq (by omega))
    · refine aL0 dX11_roots_27 ?_
      refine R_getR dX11_roots_28 fX11_19.r hG.o rfl ?_
      refine iL2 dX11_roots_31 ?_
      refine invV1 rfl dX11_roots_32 kX11_212 hG.now.o (Nat.le_of_ble_eq_true rfl) (Nat.zero_le _) (Nat.zero_le _) (C_X10_leaningOn hG.now hw hf (by omega) (konI ?_))
      refine R_iconst_1 dX11_roots_35 ?_
      refine iL2 dX11_roots_36 ?_
      refine R_ishl dX11_roots_37 ?_
      refine R_icmp_eq dX11_roots_38 (fun hb38 => ?_) (fun hb38 => ?_)
      · refine iInc2 dX11_roots_47 (winc (by omega)) ?_
        refine R_goto dX11_roots_50 ?_
        exact eqI1 (by first | (rw [bset_f (by unfold rooP; rw [decide_eq_false (p := w (103 + 7 * q) < 0) (by omega)]; rfl)]; done) | (rw [bset_f (by unfold rooP; rw [decide_eq_false (p := leanOn w q ≠ shlI 1 (q : Int)) (fun q9 => q9 hb38)]; simp)]; done) | (rw [bset_t (by unfold rooP; rw [decide_eq_true (p := w (103 + 7 * q) < 0) (by omega), decide_eq_true (p := leanOn w q ≠ shlI 1 (q : Int)) hb38]; rfl)]; done)) (ihq (by omega))
      · refine iL1 dX11_roots_41 ?_
        refine R_iconst_1 dX11_roots_42 ?_
        refine iL2 dX11_roots_43 ?_
        refine R_ishl dX11_roots_44 ?_
        refine R_ior dX11_roots_45 ?_
        refine iS1 dX11_roots_46 ?_
        refine iInc2 dX11_roots_47 (winc (by omega)) ?_
        refine R_goto dX11_roots_50 ?_
        exact eqI1 (by first | (rw [bset_f (by unfold rooP; rw [decide_eq_false (p := w (103 + 7 * q) < 0) (by omega)]; rfl)]; done) | (rw [bset_f (by unfold rooP; rw [decide_eq_false (p := leanOn w q ≠ shlI 1 (q : Int)) (fun q9 => q9 hb38)]; simp)]; done) | (rw [bset_t (by unfold rooP; rw [decide_eq_true (p := w (103 + 7 * q) < 0) (by omega), decide_eq_true (p := leanOn w q ≠ shlI 1 (q : Int)) hb38]; rfl)]; done)) (ihq (by omega))
def depF (w : Nat → Int) : Nat → Int := foldN (fun c a => mx2 a ((chF w 8 (c : Int) : Nat) : Int)) 0
theorem depF_s (w : Nat → Int) (n : Nat) : depF w (n + 1) = mx2 (depF w n) ((chF w 8 (n : Int) : Nat) : Int) := rfl
set_option maxHeartbeats 400000 in
theorem C_X11_deep {d : Nat} {g : Gs} {h : Hc} {P : Po} {X : Nat} {w : Nat → Int} (hG : ClG g X) (hw : Tw h (X + 5) w) (hf : WF w) (hl : Lw h (X + 53) w) (ho : LawOK w) (K0 : P (.inl (some (vI (depF w (w 1).toNat)))) g h) : Call (d + 1) 0 0 mX11_deep [vR X] g h P := by
  have hjd := hf.jud
  have hcs := hf.cas
  have hho := hf.hou
  refine Call_of rfl ⟨by decide +kernel, rfl⟩ (Nat.le_of_ble_eq_true rfl) rfl ?_
  refine R_iconst_0 dX11_deep_0 ?_
  refine iS1 dX11_deep_1 ?_
  refine R_iconst_0 dX11_deep_2 ?_
  refine iS2 dX11_deep_3 ?_
  refine loopN ((w 1).toNat) (fun q => Run (d + 1) 0 0 mX11_deep 4 [vR X, vI (depF w q), vI ((q : Nat) : Int)] [] g h P) (fun q hcnq ihq => ?_) (0) (Nat.zero_le _)
  refine iL2 dX11_deep_4 ?_
  refine aL0 dX11_deep_5 ?_
  refine R_getR dX11_deep_6 fX11_19.r hG.o rfl ?_
  refine R_getI dX11_deep_9 fX11_290.r hG.now.o ?_
  refine topV (v := w 1) (hw.s1) ?_
  have hq1 := hf.cas
  refine R_icmp_ge dX11_deep_12 (fun hb12 => ?_) (fun hb12 => ?_)
  · have e9 : q = (w 1).toNat := by omega
    subst e9
    refine iL1 dX11_deep_34 ?_
    exact R_iret dX11_deep_35 rfl (K0)
  · refine iL1 dX11_deep_15 ?_
    refine aL0 dX11_deep_16 ?_
    refine R_getR dX11_deep_17 fX11_19.r hG.o rfl ?_
    refine iL2 dX11_deep_20 ?_
    refine invV1 rfl dX11_deep_21 kX11_293 hG.now.o (Nat.le_of_ble_eq_true rfl) (Nat.zero_le _) (Nat.zero_le _) (C_X10_chainTo hG.now hw hf (by omega) (konI ?_))
    refine R_mmax dX11_deep_24 kX11_296 lb_max (Nat.le_of_ble_eq_true rfl) ?_
    refine iS1 dX11_deep_27 ?_
    refine iInc2 dX11_deep_28 (winc (by omega)) ?_
    refine R_goto dX11_deep_31 ?_
    exact eqI1 (rfl) (ihq (by omega))
set_option maxHeartbeats 400000 in
theorem C_X11_led {d : Nat} {g : Gs} {h : Hc} {P : Po} {X : Nat} {w : Nat → Int} (hG : ClG g X) (hw : Tw h (X + 5) w) (hf : WF w) (hl : Lw h (X + 53) w) (ho : LawOK w) {x : Int} {b : Bool} (KE : ¬ (0 ≤ x ∧ x < w 1) → P (.inr xIO) g h) (K0 : ∀ c : Nat, x = (c : Int) → (c : Int) < w 1 → P (.inl (some (vI (if b then latD w (c : Int) else ((cntB (ledP w (c : Int)) (w 6).toNat : Nat) : Int))))) g h) : Call (d + 2) 1 6 mX11_led [vR X, vI x, vI (bI (b))] g h P := by
  have hjd := hf.jud
  have hcs := hf.cas
  have hho := hf.hou
  refine Call_of rfl ⟨by decide +kernel, rfl⟩ (Nat.le_of_ble_eq_true rfl) rfl ?_
  refine aL0 dX11_led_0 ?_
  refine iL1 dX11_led_1 ?_
  refine invV1 rfl dX11_led_2 kX11_185 hG.o (Nat.le_of_ble_eq_true rfl) (by decide) (by decide) (C_X11_needCase hG hw hf (fun hn1 => konVm hG.one ?_) (fun hn1 => konEm hG.one (KE (by omega))))
  obtain ⟨c, rfl⟩ : ∃ c : Nat, x = (c : Int) := ⟨(x).toNat, by omega⟩
  refine iL2 dX11_led_5 ?_
  refine R_ifB_eq dX11_led_6 (fun hb6 => ?_) (fun hb6 => ?_)
  · refine aL0 dX11_led_23 ?_
    refine R_getR dX11_led_24 fX11_19.r hG.o rfl ?_
    refine R_getR dX11_led_27 fX11_354 hG.now.o rfl ?_
    refine iL1 dX11_led_30 ?_
    refine invV1 rfl dX11_led_31 kX11_363 hG.now.a14 (Nat.le_of_ble_eq_true rfl) (Nat.zero_le _) (Nat.zero_le _) (C_X4_rowsOf hG.now hw hf (konI ?_))
    exact R_iret dX11_led_34 rfl (PeqI (K0 c rfl (by omega)) (by rw [hb6]; rfl))
  · refine aL0 dX11_led_9 ?_
    refine R_getR dX11_led_10 fX11_19.r hG.o rfl ?_
    refine R_getR dX11_led_13 fX11_354 hG.now.o rfl ?_
    refine iL1 dX11_led_16 ?_
    refine invV1 rfl dX11_led_17 kX11_358 hG.now.a14 (Nat.le_of_ble_eq_true rfl) (Nat.zero_le _) (Nat.zero_le _) (C_X4_latestDayOf hG.now hw hf (konI ?_))
    refine R_goto dX11_led_20 ?_
    exact R_iret dX11_led_34 rfl (PeqI (K0 c rfl (by omega)) (by rw [hb6]; rfl))
set_option maxHeartbeats 400000 in
theorem C_X11_log {d : Nat} {g : Gs} {h : Hc} {P : Po} {X : Nat} {w : Nat → Int} (hG : ClG g X) (hw : Tw h (X + 5) w) (hf : WF w) (hl : Lw h (X + 53) w) (ho : LawOK w) {x y : Int} (KE : ¬ (0 ≤ y ∧ y < 6) → P (.inr xNE) g h) (K0 : ∀ k : Nat, y = (k : Int) → k < 6 → P (.inl (some (vI (lookW w x k)))) g h) : Call (d + 1) 1 6 mX11_log [vR X, vI x, vI y] g h P := by
  have hjd := hf.jud
  have hcs := hf.cas
  have hho := hf.hou
  refine Call_of rfl ⟨by decide +kernel, rfl⟩ (Nat.le_of_ble_eq_true rfl) rfl ?_
  refine iL2 dX11_log_0 ?_
  refine R_if_lt dX11_log_1 (fun hb1 => ?_) (fun hb1 => ?_)
  · exact R_throw rfl dX11_log_10 dX11_log_13 dX11_log_14 dX11_log_17 tX11_182 hG.one (Nat.le_of_ble_eq_true rfl) (by decide) (by decide) (KE (by omega))
  · refine iL2 dX11_log_4 ?_
    refine R_bipush dX11_log_5 (by decide) ?_
    refine R_icmp_lt dX11_log_7 (fun hb7 => ?_) (fun hb7 => ?_)
    · obtain ⟨k, rfl⟩ : ∃ k : Nat, y = (k : Int) := ⟨y.toNat, by omega⟩
      refine aL0 dX11_log_18 ?_
      refine R_getR dX11_log_19 fX11_19.r hG.o rfl ?_
      refine R_getR dX11_log_22 fX11_354 hG.now.o rfl ?_
      refine iL1 dX11_log_25 ?_
      refine iL2 dX11_log_26 ?_
      refine invV2 rfl dX11_log_27 kX11_366 hG.now.a14 (Nat.le_of_ble_eq_true rfl) (Nat.zero_le _) (Nat.zero_le _) (C_X4_look (k := k) hG.now hw hf (by omega) (konI ?_))
      exact R_iret dX11_log_30 rfl (K0 k rfl (by omega))
    · exact R_throw rfl dX11_log_10 dX11_log_13 dX11_log_14 dX11_log_17 tX11_182 hG.one (Nat.le_of_ble_eq_true rfl) (by decide) (by decide) (KE (by omega))
set_option maxHeartbeats 400000 in
theorem C_X11_fault {d : Nat} {g : Gs} {h : Hc} {P : Po} {X : Nat} (hG : ClG g X) (K0 : P (.inl (some (vI (h X 15)))) g h) : Call (d + 0) 0 0 mX11_fault [vR X] g h P := by
  refine Call_of rfl ⟨by decide +kernel, rfl⟩ (Nat.le_of_ble_eq_true rfl) rfl ?_
  refine aL0 dX11_fault_0 ?_
  refine R_getI dX11_fault_1 fX11_99.r hG.o ?_
  exact R_iret dX11_fault_4 rfl (K0)
