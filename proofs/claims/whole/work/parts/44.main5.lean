set_option maxHeartbeats 400000 in
theorem C_X11_agree {d : Nat} {g : Gs} {h : Hc} {P : Po} {X : Nat} {w : Nat → Int} (hG : ClG g X) (hw : Tw h (X + 5) w) (hf : WF w) (hl : Lw h (X + 53) w) (ho : LawOK w) (K0 : ∀ h', Off (xsc X) h h' → P (.inl (some (vI (bset (agrP w) (w 1).toNat)))) g h') : Call (d + 5) 0 0 mX11_agree [vR X] g h P := by
  have hjd := hf.jud
  have hcs := hf.cas
  have hho := hf.hou
  refine Call_of rfl ⟨by decide +kernel, rfl⟩ (Nat.le_of_ble_eq_true rfl) rfl ?_
  refine R_iconst_0 dX11_agree_0 ?_
  refine iS1 dX11_agree_1 ?_
  refine R_iconst_0 dX11_agree_2 ?_
  refine iS2 dX11_agree_3 ?_
  refine loopN ((w 1).toNat) (fun q => ∀ hK : Hc, Off (xsc X) h hK → Run (d + 5) 0 0 mX11_agree 4 [vR X, vI (bset (agrP w) q), vI ((q : Nat) : Int)] [] g hK P) (fun q hcnq ihq hK hOK => ?_) (0) (Nat.zero_le _) h (Off.rf _ _)
  have hMK := (hG.matches hw hf hl ho).off hOK
  refine iL2 dX11_agree_4 ?_
  refine aL0 dX11_agree_5 ?_
  refine R_getR dX11_agree_6 fX11_19.r hG.o rfl ?_
  refine R_getI dX11_agree_9 fX11_290.r hG.now.o ?_
  refine topV (v := w 1) (hMK.tw.s1) ?_
  have hq1 := hf.cas
  refine R_icmp_ge dX11_agree_12 (fun hb12 => ?_) (fun hb12 => ?_)
  · have e9 : q = (w 1).toNat := by omega
    subst e9
    refine iL1 dX11_agree_57 ?_
    exact R_iret dX11_agree_58 rfl (K0 _ hOK)
  · refine aL0 dX11_agree_15 ?_
    refine R_getR dX11_agree_16 fX11_19.r hG.o rfl ?_
    refine R_getR dX11_agree_19 fX11_203 hG.now.o rfl ?_
    refine iL2 dX11_agree_22 ?_
    refine ialdN dX11_agree_23 hG.now.a9 rfl (by omega) ?_
    refine topV (v := w (104 + 7 * q)) (hMK.tw.a9 (by omega)) ?_
    have hq2 := hf.st (c := q) (by omega)
    refine R_if_ne dX11_agree_24 (fun hb24 => ?_) (fun hb24 => ?_)
    · refine iInc2 dX11_agree_51 (winc (by omega)) ?_
      refine R_goto dX11_agree_54 ?_
      exact eqI1 (by first | (rw [bset_f (by simp [agrP]; omega)]; done) | (rw [bset_t (by simp [agrP]; omega)]; done)) (ihq (by omega) _ hOK)
    · refine aL0 dX11_agree_27 ?_
      refine R_getR dX11_agree_28 fX11_65.r hG.o rfl ?_
      refine iL2 dX11_agree_31 ?_
      refine invV1 rfl dX11_agree_32 kX11_263 (hG.court hw hf hl ho).ct (Nat.le_of_ble_eq_true rfl) (Nat.zero_le _) (Nat.zero_le _) (C_X1_freeingNow hMK.ct (by omega) (fun h9 hx9 => konI ?_))
      have hO9 := hOK.tr hx9.scx
      have hM9 := (hG.matches hw hf hl ho).off hO9
      refine aL0 dX11_agree_35 ?_
      refine R_getR dX11_agree_36 fX11_19.r hG.o rfl ?_
      refine R_getI dX11_agree_39 fX11_266.r hG.now.o ?_
      refine topV (v := w 0) (hM9.tw.s0) ?_
      have hq3 := hf.jud
      refine R_icmp_ne dX11_agree_42 (fun hb42 => ?_) (fun hb42 => ?_)
      · refine iInc2 dX11_agree_51 (winc (by omega)) ?_
        refine R_goto dX11_agree_54 ?_
        exact eqI1 (by first | (rw [bset_f (by simp [agrP]; omega)]; done) | (rw [bset_t (by simp [agrP]; omega)]; done)) (ihq (by omega) _ hO9)
      · refine iL1 dX11_agree_45 ?_
        refine R_iconst_1 dX11_agree_46 ?_
        refine iL2 dX11_agree_47 ?_
        refine R_ishl dX11_agree_48 ?_
        refine R_ior dX11_agree_49 ?_
        refine iS1 dX11_agree_50 ?_
        refine iInc2 dX11_agree_51 (winc (by omega)) ?_
        refine R_goto dX11_agree_54 ?_
        exact eqI1 (by first | (rw [bset_f (by simp [agrP]; omega)]; done) | (rw [bset_t (by simp [agrP]; omega)]; done)) (ihq (by omega) _ hO9)
set_option maxHeartbeats 400000 in
theorem C_X11_pairs_n {d : Nat} {g : Gs} {h : Hc} {P : Po} {X : Nat} {w : Nat → Int} (hG : ClG g X) (hw : Tw h (X + 5) w) (hf : WF w) (hl : Lw h (X + 53) w) (ho : LawOK w) (K0 : ∀ h', Off (xsc X) h h' → P (.inl (some (vI (prW w).1))) g h') : Call (d + 8) 0 0 mX11_pairs [vR X, vI (-1)] g h P := by
  have hjd := hf.jud
  have hcs := hf.cas
  have hho := hf.hou
  refine Call_of rfl ⟨by decide +kernel, rfl⟩ (Nat.le_of_ble_eq_true rfl) rfl ?_
  refine iL1 dX11_pairs_0 ?_
  refine R_iconst_m1 dX11_pairs_1 ?_
  refine R_icmp_eq dX11_pairs_2 (fun hb2 => ?_) (fun hb2 => ?_)
  · refine aL0 dX11_pairs_10 ?_
    refine R_getR dX11_pairs_11 fX11_84.r hG.o rfl ?_
    refine invV0 rfl dX11_pairs_14 kX11_329 (hG.matches hw hf hl ho).o (Nat.le_of_ble_eq_true rfl) (Nat.zero_le _) (Nat.zero_le _) (C_X5_pairAll (hG.matches hw hf hl ho) (fun h9 hx9 hb9 hq9 => konV ?_))
    refine iL1 dX11_pairs_17 ?_
    refine R_iconst_m1 dX11_pairs_18 ?_
    refine R_icmp_ne dX11_pairs_19 (fun hb19 => ?_) (fun hb19 => ?_)
    · exact absurd rfl hb19
    · refine aL0 dX11_pairs_22 ?_
      refine R_getR dX11_pairs_23 fX11_84.r hG.o rfl ?_
      refine R_getI dX11_pairs_26 fX11_332.r (hG.matches hw hf hl ho).o ?_
      refine topV (v := (prW w).1) (hb9) ?_
      refine R_goto dX11_pairs_29 ?_
      exact R_iret dX11_pairs_41 rfl (K0 _ hx9)
  · exact absurd rfl hb2
set_option maxHeartbeats 400000 in
theorem C_X11_pairs {d : Nat} {g : Gs} {h : Hc} {P : Po} {X : Nat} {w : Nat → Int} (hG : ClG g X) (hw : Tw h (X + 5) w) (hf : WF w) (hl : Lw h (X + 53) w) (ho : LawOK w) {x : Int} (hxn : ¬ x = -1) (KE : ¬ (0 ≤ x ∧ x < w 0) → P (.inr xIO) g h) (K0 : ∀ j : Nat, x = (j : Int) → (j : Int) < w 0 → ∀ h', Off (xsc X) h h' → P (.inl (some (vI ((prW w).2 j)))) g h') : Call (d + 8) 1 6 mX11_pairs [vR X, vI x] g h P := by
  have hjd := hf.jud
  have hcs := hf.cas
  have hho := hf.hou
  refine Call_of rfl ⟨by decide +kernel, rfl⟩ (Nat.le_of_ble_eq_true rfl) rfl ?_
  refine iL1 dX11_pairs_0 ?_
  refine R_iconst_m1 dX11_pairs_1 ?_
  refine R_icmp_eq dX11_pairs_2 (fun hb2 => ?_) (fun hb2 => ?_)
  · exact absurd hb2 hxn
  · refine aL0 dX11_pairs_5 ?_
    refine iL1 dX11_pairs_6 ?_
    refine invV1 rfl dX11_pairs_7 kX11_143 hG.o (Nat.le_of_ble_eq_true rfl) (by decide) (by decide) (C_X11_needJudge hG hw hf (fun hn1 => konVm hG.one ?_) (fun hn1 => konEm hG.one (KE (by omega))))
    obtain ⟨j, rfl⟩ : ∃ j : Nat, x = (j : Int) := ⟨(x).toNat, by omega⟩
    refine aL0 dX11_pairs_10 ?_
    refine R_getR dX11_pairs_11 fX11_84.r hG.o rfl ?_
    refine invV0 rfl dX11_pairs_14 kX11_329 (hG.matches hw hf hl ho).o (Nat.le_of_ble_eq_true rfl) (Nat.zero_le _) (Nat.zero_le _) (C_X5_pairAll (hG.matches hw hf hl ho) (fun h9 hx9 hb9 hq9 => konV ?_))
    refine iL1 dX11_pairs_17 ?_
    refine R_iconst_m1 dX11_pairs_18 ?_
    refine R_icmp_ne dX11_pairs_19 (fun hb19 => ?_) (fun hb19 => ?_)
    · refine aL0 dX11_pairs_32 ?_
      refine R_getR dX11_pairs_33 fX11_84.r hG.o rfl ?_
      refine R_getR dX11_pairs_36 fX11_335 (hG.matches hw hf hl ho).o rfl ?_
      refine iL1 dX11_pairs_39 ?_
      refine ialdN dX11_pairs_40 (hG.matches hw hf hl ho).a5 rfl (by omega) ?_
      refine topV (v := (prW w).2 j) (hq9 j (by omega)) ?_
      exact R_iret dX11_pairs_41 rfl (K0 j rfl (by omega) _ hx9)
    · exfalso; omega
set_option maxHeartbeats 400000 in
theorem C_X11_judge_0 {d : Nat} {g : Gs} {h : Hc} {P : Po} {X : Nat} {w : Nat → Int} (hG : ClG g X) (hw : Tw h (X + 5) w) (hf : WF w) (hl : Lw h (X + 53) w) (ho : LawOK w) {x : Int} (KE : ¬ (0 ≤ x ∧ x < w 0) → P (.inr xIO) g h) (K0 : ∀ j : Nat, x = (j : Int) → (j : Int) < w 0 → ∀ h', Off (xsc X) h h' → P (.inl (some (vI (w (80 + 4 * j))))) g h') : Call (d + 6) 2 12 mX11_judge [vR X, vI x, vI 0] g h P := by
  have hjd := hf.jud
  have hcs := hf.cas
  have hho := hf.hou
  refine Call_of rfl ⟨by decide +kernel, rfl⟩ (Nat.le_of_ble_eq_true rfl) rfl ?_
  refine aL0 dX11_judge_0 ?_
  refine iL1 dX11_judge_1 ?_
  refine invV1 rfl dX11_judge_2 kX11_143 hG.o (Nat.le_of_ble_eq_true rfl) (by decide) (by decide) (C_X11_needJudge hG hw hf (fun hn1 => konVm hG.one ?_) (fun hn1 => konEm hG.one (KE (by omega))))
  obtain ⟨j, rfl⟩ : ∃ j : Nat, x = (j : Int) := ⟨(x).toNat, by omega⟩
  refine iL2 dX11_judge_5 ?_
  refine R_tsw (tt := 56) dX11_judge_6 (by decide) (by decide) ?_
  refine aL0 dX11_judge_56 ?_
  refine R_getR dX11_judge_57 fX11_19.r hG.o rfl ?_
  refine R_getR dX11_judge_60 fX11_146 hG.now.o rfl ?_
  refine iL1 dX11_judge_63 ?_
  refine ialdN dX11_judge_64 hG.now.a1 rfl (by omega) ?_
  refine topV (v := w (80 + 4 * j)) (hw.a1 (by omega)) ?_
  have hq2 := hf.hu (j := j) (by omega)
  exact R_iret dX11_judge_65 rfl (K0 j rfl (by omega) _ (Off.rf _ _))
set_option maxHeartbeats 400000 in
theorem C_X11_judge_1 {d : Nat} {g : Gs} {h : Hc} {P : Po} {X : Nat} {w : Nat → Int} (hG : ClG g X) (hw : Tw h (X + 5) w) (hf : WF w) (hl : Lw h (X + 53) w) (ho : LawOK w) {x : Int} (KE : ¬ (0 ≤ x ∧ x < w 0) → P (.inr xIO) g h) (K0 : ∀ j : Nat, x = (j : Int) → (j : Int) < w 0 → ∀ h', Off (xsc X) h h' → P (.inl (some (vI (w (81 + 4 * j))))) g h') : Call (d + 6) 2 12 mX11_judge [vR X, vI x, vI 1] g h P := by
  have hjd := hf.jud
  have hcs := hf.cas
  have hho := hf.hou
  refine Call_of rfl ⟨by decide +kernel, rfl⟩ (Nat.le_of_ble_eq_true rfl) rfl ?_
  refine aL0 dX11_judge_0 ?_
  refine iL1 dX11_judge_1 ?_
  refine invV1 rfl dX11_judge_2 kX11_143 hG.o (Nat.le_of_ble_eq_true rfl) (by decide) (by decide) (C_X11_needJudge hG hw hf (fun hn1 => konVm hG.one ?_) (fun hn1 => konEm hG.one (KE (by omega))))
  obtain ⟨j, rfl⟩ : ∃ j : Nat, x = (j : Int) := ⟨(x).toNat, by omega⟩
  refine iL2 dX11_judge_5 ?_
  refine R_tsw (tt := 66) dX11_judge_6 (by decide) (by decide) ?_
  refine aL0 dX11_judge_66 ?_
  refine R_getR dX11_judge_67 fX11_19.r hG.o rfl ?_
  refine R_getR dX11_judge_70 fX11_150 hG.now.o rfl ?_
  refine iL1 dX11_judge_73 ?_
  refine ialdN dX11_judge_74 hG.now.a2 rfl (by omega) ?_
  refine topV (v := w (81 + 4 * j)) (hw.a2 (by omega)) ?_
  have hq2 := hf.me (j := j) (by omega)
  exact R_iret dX11_judge_75 rfl (K0 j rfl (by omega) _ (Off.rf _ _))
set_option maxHeartbeats 400000 in
theorem C_X11_judge_2 {d : Nat} {g : Gs} {h : Hc} {P : Po} {X : Nat} {w : Nat → Int} (hG : ClG g X) (hw : Tw h (X + 5) w) (hf : WF w) (hl : Lw h (X + 53) w) (ho : LawOK w) {x : Int} (KE : ¬ (0 ≤ x ∧ x < w 0) → P (.inr xIO) g h) (K0 : ∀ j : Nat, x = (j : Int) → (j : Int) < w 0 → ∀ h', Off (xsc X) h h' → P (.inl (some (vI (w (82 + 4 * j))))) g h') : Call (d + 6) 2 12 mX11_judge [vR X, vI x, vI 2] g h P := by
  have hjd := hf.jud
  have hcs := hf.cas
  have hho := hf.hou
  refine Call_of rfl ⟨by decide +kernel, rfl⟩ (Nat.le_of_ble_eq_true rfl) rfl ?_
  refine aL0 dX11_judge_0 ?_
  refine iL1 dX11_judge_1 ?_
  refine invV1 rfl dX11_judge_2 kX11_143 hG.o (Nat.le_of_ble_eq_true rfl) (by decide) (by decide) (C_X11_needJudge hG hw hf (fun hn1 => konVm hG.one ?_) (fun hn1 => konEm hG.one (KE (by omega))))
  obtain ⟨j, rfl⟩ : ∃ j : Nat, x = (j : Int) := ⟨(x).toNat, by omega⟩
  refine iL2 dX11_judge_5 ?_
  refine R_tsw (tt := 76) dX11_judge_6 (by decide) (by decide) ?_
  refine aL0 dX11_judge_76 ?_
  refine R_getR dX11_judge_77 fX11_19.r hG.o rfl ?_
  refine R_getR dX11_judge_80 fX11_153 hG.now.o rfl ?_
  refine iL1 dX11_judge_83 ?_
  refine ialdN dX11_judge_84 hG.now.a3 rfl (by omega) ?_
  refine topV (v := w (82 + 4 * j)) (hw.a3 (by omega)) ?_
  have hq2 := hf.nv (j := j) (by omega)
  exact R_iret dX11_judge_85 rfl (K0 j rfl (by omega) _ (Off.rf _ _))
set_option maxHeartbeats 400000 in
theorem C_X11_judge_3 {d : Nat} {g : Gs} {h : Hc} {P : Po} {X : Nat} {w : Nat → Int} (hG : ClG g X) (hw : Tw h (X + 5) w) (hf : WF w) (hl : Lw h (X + 53) w) (ho : LawOK w) {x : Int} (KE : ¬ (0 ≤ x ∧ x < w 0) → P (.inr xIO) g h) (K0 : ∀ j : Nat, x = (j : Int) → (j : Int) < w 0 → ∀ h', Off (xsc X) h h' → P (.inl (some (vI (w (83 + 4 * j))))) g h') : Call (d + 6) 2 12 mX11_judge [vR X, vI x, vI 3] g h P := by
  have hjd := hf.jud
  have hcs := hf.cas
  have hho := hf.hou
  refine Call_of rfl ⟨by decide +kernel, rfl⟩ (Nat.le_of_ble_eq_true rfl) rfl ?_
  refine aL0 dX11_judge_0 ?_
  refine iL1 dX11_judge_1 ?_
  refine invV1 rfl dX11_judge_2 kX11_143 hG.o (Nat.le_of_ble_eq_true rfl) (by decide) (by decide) (C_X11_needJudge hG hw hf (fun hn1 => konVm hG.one ?_) (fun hn1 => konEm hG.one (KE (by omega))))
  obtain ⟨j, rfl⟩ : ∃ j : Nat, x = (j : Int) := ⟨(x).toNat, by omega⟩
  refine iL2 dX11_judge_5 ?_
  refine R_tsw (tt := 86) dX11_judge_6 (by decide) (by decide) ?_
  refine aL0 dX11_judge_86 ?_
  refine R_getR dX11_judge_87 fX11_19.r hG.o rfl ?_
  refine R_getR dX11_judge_90 fX11_156 hG.now.o rfl ?_
  refine iL1 dX11_judge_93 ?_
  refine ialdN dX11_judge_94 hG.now.a4 rfl (by omega) ?_
  refine topV (v := w (83 + 4 * j)) (hw.a4 (by omega)) ?_
  have hq2 := hf.py (j := j) (by omega)
  exact R_iret dX11_judge_95 rfl (K0 j rfl (by omega) _ (Off.rf _ _))
set_option maxHeartbeats 400000 in
theorem C_X11_judge_4 {d : Nat} {g : Gs} {h : Hc} {P : Po} {X : Nat} {w : Nat → Int} (hG : ClG g X) (hw : Tw h (X + 5) w) (hf : WF w) (hl : Lw h (X + 53) w) (ho : LawOK w) {x : Int} (KE : ¬ (0 ≤ x ∧ x < w 0) → P (.inr xIO) g h) (K0 : ∀ j : Nat, x = (j : Int) → (j : Int) < w 0 → ∀ h', Off (xsc X) h h' → P (.inl (some (vI (crW w j (waitAt w j (w 4).toNat))))) g h') : Call (d + 6) 2 12 mX11_judge [vR X, vI x, vI 4] g h P := by
  have hjd := hf.jud
  have hcs := hf.cas
  have hho := hf.hou
  refine Call_of rfl ⟨by decide +kernel, rfl⟩ (Nat.le_of_ble_eq_true rfl) rfl ?_
  refine aL0 dX11_judge_0 ?_
  refine iL1 dX11_judge_1 ?_
  refine invV1 rfl dX11_judge_2 kX11_143 hG.o (Nat.le_of_ble_eq_true rfl) (by decide) (by decide) (C_X11_needJudge hG hw hf (fun hn1 => konVm hG.one ?_) (fun hn1 => konEm hG.one (KE (by omega))))
  obtain ⟨j, rfl⟩ : ∃ j : Nat, x = (j : Int) := ⟨(x).toNat, by omega⟩
  refine iL2 dX11_judge_5 ?_
  refine R_tsw (tt := 96) dX11_judge_6 (by decide) (by decide) ?_
  refine aL0 dX11_judge_96 ?_
  refine R_getR dX11_judge_97 fX11_65.r hG.o rfl ?_
  refine iL1 dX11_judge_100 ?_
  refine aL0 dX11_judge_101 ?_
  refine R_getR dX11_judge_102 fX11_19.r hG.o rfl ?_
  refine iL1 dX11_judge_105 ?_
  refine aL0 dX11_judge_106 ?_
  refine R_getR dX11_judge_107 fX11_19.r hG.o rfl ?_
  refine R_getI dX11_judge_110 fX11_159.r hG.now.o ?_
  refine topV (v := w 4) (hw.s3) ?_
  have hq2 := hf.hou
  refine topV (v := (((w 4).toNat : Nat) : Int)) (by omega) ?_
  refine invV2 rfl dX11_judge_113 kX11_162 hG.now.o (Nat.le_of_ble_eq_true rfl) (Nat.zero_le _) (Nat.zero_le _) (C_X10_waitingAt hG.now hw hf (by omega) (by omega) (konI ?_))
  have hwr := waitAt_rng hf (j := j) (k := (w 4).toNat) (by omega) (by omega)
  refine invV2 rfl dX11_judge_116 kX11_166 (hG.court hw hf hl ho).ct (Nat.le_of_ble_eq_true rfl) (Nat.zero_le _) (Nat.zero_le _) (C_X1_crumbsOf (hG.court hw hf hl ho) (by omega) (by omega) (by omega) (fun h9 hx9 => konI ?_))
  exact R_iret dX11_judge_119 rfl (K0 j rfl (by omega) _ hx9.scx)
set_option maxHeartbeats 400000 in
theorem C_X11_judge_5 {d : Nat} {g : Gs} {h : Hc} {P : Po} {X : Nat} {w : Nat → Int} (hG : ClG g X) (hw : Tw h (X + 5) w) (hf : WF w) (hl : Lw h (X + 53) w) (ho : LawOK w) {x : Int} (KE : ¬ (0 ≤ x ∧ x < w 0) → P (.inr xIO) g h) (K0 : ∀ j : Nat, x = (j : Int) → (j : Int) < w 0 → ∀ h', Off (xsc X) h h' → P (.inl (some (vI (((cntB (harP w j) (w 1).toNat : Nat) : Int))))) g h') : Call (d + 6) 2 12 mX11_judge [vR X, vI x, vI 5] g h P := by
  have hjd := hf.jud
  have hcs := hf.cas
  have hho := hf.hou
  refine Call_of rfl ⟨by decide +kernel, rfl⟩ (Nat.le_of_ble_eq_true rfl) rfl ?_
  refine aL0 dX11_judge_0 ?_
  refine iL1 dX11_judge_1 ?_
  refine invV1 rfl dX11_judge_2 kX11_143 hG.o (Nat.le_of_ble_eq_true rfl) (by decide) (by decide) (C_X11_needJudge hG hw hf (fun hn1 => konVm hG.one ?_) (fun hn1 => konEm hG.one (KE (by omega))))
  obtain ⟨j, rfl⟩ : ∃ j : Nat, x = (j : Int) := ⟨(x).toNat, by omega⟩
  refine iL2 dX11_judge_5 ?_
  refine R_tsw (tt := 120) dX11_judge_6 (by decide) (by decide) ?_
  refine aL0 dX11_judge_120 ?_
  refine R_getR dX11_judge_121 fX11_65.r hG.o rfl ?_
  refine iL1 dX11_judge_124 ?_
  refine invV1 rfl dX11_judge_125 kX11_169 (hG.court hw hf hl ho).ct (Nat.le_of_ble_eq_true rfl) (Nat.zero_le _) (Nat.zero_le _) (C_X1_harshness (hG.court hw hf hl ho) (by omega) (fun h9 hx9 => konI ?_))
  exact R_iret dX11_judge_128 rfl (K0 j rfl (by omega) _ hx9.scx)
set_option maxHeartbeats 400000 in
theorem C_X11_judge_6 {d : Nat} {g : Gs} {h : Hc} {P : Po} {X : Nat} {w : Nat → Int} (hG : ClG g X) (hw : Tw h (X + 5) w) (hf : WF w) (hl : Lw h (X + 53) w) (ho : LawOK w) {x : Int} (KE : ¬ (0 ≤ x ∧ x < w 0) → P (.inr xIO) g h) (K0 : ∀ j : Nat, x = (j : Int) → (j : Int) < w 0 → ∀ h', Off (xsc X) h h' → P (.inl (some (vI (shareW w (j : Int))))) g h') : Call (d + 6) 2 12 mX11_judge [vR X, vI x, vI 6] g h P := by
  have hjd := hf.jud
  have hcs := hf.cas
  have hho := hf.hou
  refine Call_of rfl ⟨by decide +kernel, rfl⟩ (Nat.le_of_ble_eq_true rfl) rfl ?_
  refine aL0 dX11_judge_0 ?_
  refine iL1 dX11_judge_1 ?_
  refine invV1 rfl dX11_judge_2 kX11_143 hG.o (Nat.le_of_ble_eq_true rfl) (by decide) (by decide) (C_X11_needJudge hG hw hf (fun hn1 => konVm hG.one ?_) (fun hn1 => konEm hG.one (KE (by omega))))
  obtain ⟨j, rfl⟩ : ∃ j : Nat, x = (j : Int) := ⟨(x).toNat, by omega⟩
  refine iL2 dX11_judge_5 ?_
  refine R_tsw (tt := 129) dX11_judge_6 (by decide) (by decide) ?_
  refine aL0 dX11_judge_129 ?_
  refine R_getR dX11_judge_130 fX11_19.r hG.o rfl ?_
  refine iL1 dX11_judge_133 ?_
  refine invV1 rfl dX11_judge_134 kX11_173 hG.now.o (Nat.le_of_ble_eq_true rfl) (Nat.zero_le _) (Nat.zero_le _) (C_X10_shareOf hG.now hw hf (konI ?_))
  exact R_iret dX11_judge_137 rfl (K0 j rfl (by omega) _ (Off.rf _ _))
set_option maxHeartbeats 400000 in
theorem C_X11_judge_7 {d : Nat} {g : Gs} {h : Hc} {P : Po} {X : Nat} {w : Nat → Int} (hG : ClG g X) (hw : Tw h (X + 5) w) (hf : WF w) (hl : Lw h (X + 53) w) (ho : LawOK w) {x : Int} (KE : ¬ (0 ≤ x ∧ x < w 0) → P (.inr xIO) g h) (K0 : ∀ j : Nat, x = (j : Int) → (j : Int) < w 0 → ∀ h', Off (xsc X) h h' → P (.inl (some (vI (freeHrs w j)))) g h') : Call (d + 6) 2 12 mX11_judge [vR X, vI x, vI 7] g h P := by
  have hjd := hf.jud
  have hcs := hf.cas
  have hho := hf.hou
  refine Call_of rfl ⟨by decide +kernel, rfl⟩ (Nat.le_of_ble_eq_true rfl) rfl ?_
  refine aL0 dX11_judge_0 ?_
  refine iL1 dX11_judge_1 ?_
  refine invV1 rfl dX11_judge_2 kX11_143 hG.o (Nat.le_of_ble_eq_true rfl) (by decide) (by decide) (C_X11_needJudge hG hw hf (fun hn1 => konVm hG.one ?_) (fun hn1 => konEm hG.one (KE (by omega))))
  obtain ⟨j, rfl⟩ : ∃ j : Nat, x = (j : Int) := ⟨(x).toNat, by omega⟩
  refine iL2 dX11_judge_5 ?_
  refine R_tsw (tt := 138) dX11_judge_6 (by decide) (by decide) ?_
  refine aL0 dX11_judge_138 ?_
  refine R_getR dX11_judge_139 fX11_19.r hG.o rfl ?_
  refine iL1 dX11_judge_142 ?_
  refine invV1 rfl dX11_judge_143 kX11_176 hG.now.o (Nat.le_of_ble_eq_true rfl) (Nat.zero_le _) (Nat.zero_le _) (C_X10_freeHours hG.now hw (by omega) (konI ?_))
  exact R_iret dX11_judge_146 rfl (K0 j rfl (by omega) _ (Off.rf _ _))
set_option maxHeartbeats 400000 in
theorem C_X11_judge_8 {d : Nat} {g : Gs} {h : Hc} {P : Po} {X : Nat} {w : Nat → Int} (hG : ClG g X) (hw : Tw h (X + 5) w) (hf : WF w) (hl : Lw h (X + 53) w) (ho : LawOK w) {x : Int} (KE : ¬ (0 ≤ x ∧ x < w 0) → P (.inr xIO) g h) (K0 : ∀ j : Nat, x = (j : Int) → (j : Int) < w 0 → ∀ h', Off (xsc X) h h' → P (.inl (some (vI (cirG w j (w 0).toNat 0 0)))) g h') : Call (d + 6) 2 12 mX11_judge [vR X, vI x, vI 8] g h P := by
  have hjd := hf.jud
  have hcs := hf.cas
  have hho := hf.hou
  refine Call_of rfl ⟨by decide +kernel, rfl⟩ (Nat.le_of_ble_eq_true rfl) rfl ?_
  refine aL0 dX11_judge_0 ?_
  refine iL1 dX11_judge_1 ?_
  refine invV1 rfl dX11_judge_2 kX11_143 hG.o (Nat.le_of_ble_eq_true rfl) (by decide) (by decide) (C_X11_needJudge hG hw hf (fun hn1 => konVm hG.one ?_) (fun hn1 => konEm hG.one (KE (by omega))))
  obtain ⟨j, rfl⟩ : ∃ j : Nat, x = (j : Int) := ⟨(x).toNat, by omega⟩
  refine iL2 dX11_judge_5 ?_
  refine R_tsw (tt := 147) dX11_judge_6 (by decide) (by decide) ?_
  refine aL0 dX11_judge_147 ?_
  refine R_getR dX11_judge_148 fX11_84.r hG.o rfl ?_
  refine iL1 dX11_judge_151 ?_
  refine invV1 rfl dX11_judge_152 kX11_179 (hG.matches hw hf hl ho).o (Nat.le_of_ble_eq_true rfl) (Nat.zero_le _) (Nat.zero_le _) (C_X5_circuitOf (hG.matches hw hf hl ho) (konI ?_))
  exact R_iret dX11_judge_155 rfl (K0 j rfl (by omega) _ (Off.rf _ _))
set_option maxHeartbeats 400000 in
theorem C_X11_judge_n {d : Nat} {g : Gs} {h : Hc} {P : Po} {X : Nat} {w : Nat → Int} (hG : ClG g X) (hw : Tw h (X + 5) w) (hf : WF w) (hl : Lw h (X + 53) w) (ho : LawOK w) {x y : Int} (hy : ¬ (0 ≤ y ∧ y ≤ 8)) (KE : ¬ (0 ≤ x ∧ x < w 0) → P (.inr xIO) g h) (KN : 0 ≤ x ∧ x < w 0 → P (.inr xNE) g h) : Call (d + 6) 2 12 mX11_judge [vR X, vI x, vI y] g h P := by
  have hjd := hf.jud
  have hcs := hf.cas
  have hho := hf.hou
  refine Call_of rfl ⟨by decide +kernel, rfl⟩ (Nat.le_of_ble_eq_true rfl) rfl ?_
  refine aL0 dX11_judge_0 ?_
  refine iL1 dX11_judge_1 ?_
  refine invV1 rfl dX11_judge_2 kX11_143 hG.o (Nat.le_of_ble_eq_true rfl) (by decide) (by decide) (C_X11_needJudge hG hw hf (fun hn1 => konVm hG.one ?_) (fun hn1 => konEm hG.one (KE (by omega))))
  obtain ⟨j, rfl⟩ : ∃ j : Nat, x = (j : Int) := ⟨(x).toNat, by omega⟩
  refine iL2 dX11_judge_5 ?_
  refine R_tsw (tt := 156) dX11_judge_6 (by rw [if_pos (by omega)]; rfl) (by decide) ?_
  exact R_throw rfl dX11_judge_156 dX11_judge_159 dX11_judge_160 dX11_judge_163 tX11_182 hG.one (Nat.le_of_ble_eq_true rfl) (by decide) (by decide) (KN (by omega))
