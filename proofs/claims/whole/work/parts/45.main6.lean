theorem linW {h : Hc} {r : Nat} {w : Nat → Int} (hl : Lw h r w) : h r 0 = if w 3 = 1 then w 516 else -1 := by
  by_cases q9 : w 3 = 1
  · rw [if_pos q9]; exact (hl.2 q9).1
  · rw [if_neg q9]; exact hl.1 q9
set_option maxHeartbeats 400000 in
theorem C_X11_cause_0 {d : Nat} {g : Gs} {h : Hc} {P : Po} {X : Nat} {w : Nat → Int} (hG : ClG g X) (hw : Tw h (X + 5) w) (hf : WF w) (hl : Lw h (X + 53) w) (ho : LawOK w) {x : Int} (KE : ¬ (0 ≤ x ∧ x < w 1) → P (.inr xIO) g h) (K0 : ∀ c : Nat, x = (c : Int) → (c : Int) < w 1 → ∀ h', Off (xsc X) h h' → P (.inl (some (vI (w (100 + 7 * c))))) g h') : Call (d + 7) 2 12 mX11_cause [vR X, vI x, vI 0] g h P := by
  have hjd := hf.jud
  have hcs := hf.cas
  have hho := hf.hou
  refine Call_of rfl ⟨by decide +kernel, rfl⟩ (Nat.le_of_ble_eq_true rfl) rfl ?_
  refine aL0 dX11_cause_0 ?_
  refine iL1 dX11_cause_1 ?_
  refine invV1 rfl dX11_cause_2 kX11_185 hG.o (Nat.le_of_ble_eq_true rfl) (by decide) (by decide) (C_X11_needCase hG hw hf (fun hn1 => konVm hG.one ?_) (fun hn1 => konEm hG.one (KE (by omega))))
  obtain ⟨c, rfl⟩ : ∃ c : Nat, x = (c : Int) := ⟨(x).toNat, by omega⟩
  refine aL0 dX11_cause_5 ?_
  refine R_getR dX11_cause_6 fX11_19.r hG.o rfl ?_
  refine iL1 dX11_cause_9 ?_
  refine invV1 rfl dX11_cause_10 kX11_188 hG.now.o (Nat.le_of_ble_eq_true rfl) (Nat.zero_le _) (Nat.zero_le _) (C_X10_placeOf hG.now hw (konI ?_))
  have hpr : -1 ≤ placeOf w (c : Int) ∧ placeOf w (c : Int) < 60 := by rcases placeOf_rng w (c : Int) with q9 | ⟨p, q9, q8, -⟩ <;> omega
  refine iS3 dX11_cause_13 ?_
  refine iL2 dX11_cause_14 ?_
  refine R_tsw (tt := 80) dX11_cause_15 (by decide) (by decide) ?_
  refine aL0 dX11_cause_80 ?_
  refine R_getR dX11_cause_81 fX11_19.r hG.o rfl ?_
  refine R_getR dX11_cause_84 fX11_191 hG.now.o rfl ?_
  refine iL1 dX11_cause_87 ?_
  refine ialdN dX11_cause_88 hG.now.a5 rfl (by omega) ?_
  refine topV (v := w (100 + 7 * c)) (hw.a5 (by omega)) ?_
  have hq2 := hf.ki (c := c) (by omega)
  exact R_iret dX11_cause_89 rfl (K0 c rfl (by omega) _ (Off.rf _ _))
set_option maxHeartbeats 400000 in
theorem C_X11_cause_1 {d : Nat} {g : Gs} {h : Hc} {P : Po} {X : Nat} {w : Nat → Int} (hG : ClG g X) (hw : Tw h (X + 5) w) (hf : WF w) (hl : Lw h (X + 53) w) (ho : LawOK w) {x : Int} (KE : ¬ (0 ≤ x ∧ x < w 1) → P (.inr xIO) g h) (K0 : ∀ c : Nat, x = (c : Int) → (c : Int) < w 1 → ∀ h', Off (xsc X) h h' → P (.inl (some (vI (w (101 + 7 * c))))) g h') : Call (d + 7) 2 12 mX11_cause [vR X, vI x, vI 1] g h P := by
  have hjd := hf.jud
  have hcs := hf.cas
  have hho := hf.hou
  refine Call_of rfl ⟨by decide +kernel, rfl⟩ (Nat.le_of_ble_eq_true rfl) rfl ?_
  refine aL0 dX11_cause_0 ?_
  refine iL1 dX11_cause_1 ?_
  refine invV1 rfl dX11_cause_2 kX11_185 hG.o (Nat.le_of_ble_eq_true rfl) (by decide) (by decide) (C_X11_needCase hG hw hf (fun hn1 => konVm hG.one ?_) (fun hn1 => konEm hG.one (KE (by omega))))
  obtain ⟨c, rfl⟩ : ∃ c : Nat, x = (c : Int) := ⟨(x).toNat, by omega⟩
  refine aL0 dX11_cause_5 ?_
  refine R_getR dX11_cause_6 fX11_19.r hG.o rfl ?_
  refine iL1 dX11_cause_9 ?_
  refine invV1 rfl dX11_cause_10 kX11_188 hG.now.o (Nat.le_of_ble_eq_true rfl) (Nat.zero_le _) (Nat.zero_le _) (C_X10_placeOf hG.now hw (konI ?_))
  have hpr : -1 ≤ placeOf w (c : Int) ∧ placeOf w (c : Int) < 60 := by rcases placeOf_rng w (c : Int) with q9 | ⟨p, q9, q8, -⟩ <;> omega
  refine iS3 dX11_cause_13 ?_
  refine iL2 dX11_cause_14 ?_
  refine R_tsw (tt := 90) dX11_cause_15 (by decide) (by decide) ?_
  refine aL0 dX11_cause_90 ?_
  refine R_getR dX11_cause_91 fX11_19.r hG.o rfl ?_
  refine R_getR dX11_cause_94 fX11_194 hG.now.o rfl ?_
  refine iL1 dX11_cause_97 ?_
  refine ialdN dX11_cause_98 hG.now.a6 rfl (by omega) ?_
  refine topV (v := w (101 + 7 * c)) (hw.a6 (by omega)) ?_
  have hq2 := hf.gr (c := c) (by omega)
  exact R_iret dX11_cause_99 rfl (K0 c rfl (by omega) _ (Off.rf _ _))
set_option maxHeartbeats 400000 in
theorem C_X11_cause_2 {d : Nat} {g : Gs} {h : Hc} {P : Po} {X : Nat} {w : Nat → Int} (hG : ClG g X) (hw : Tw h (X + 5) w) (hf : WF w) (hl : Lw h (X + 53) w) (ho : LawOK w) {x : Int} (KE : ¬ (0 ≤ x ∧ x < w 1) → P (.inr xIO) g h) (K0 : ∀ c : Nat, x = (c : Int) → (c : Int) < w 1 → ∀ h', Off (xsc X) h h' → P (.inl (some (vI (w (102 + 7 * c))))) g h') : Call (d + 7) 2 12 mX11_cause [vR X, vI x, vI 2] g h P := by
  have hjd := hf.jud
  have hcs := hf.cas
  have hho := hf.hou
  refine Call_of rfl ⟨by decide +kernel, rfl⟩ (Nat.le_of_ble_eq_true rfl) rfl ?_
  refine aL0 dX11_cause_0 ?_
  refine iL1 dX11_cause_1 ?_
  refine invV1 rfl dX11_cause_2 kX11_185 hG.o (Nat.le_of_ble_eq_true rfl) (by decide) (by decide) (C_X11_needCase hG hw hf (fun hn1 => konVm hG.one ?_) (fun hn1 => konEm hG.one (KE (by omega))))
  obtain ⟨c, rfl⟩ : ∃ c : Nat, x = (c : Int) := ⟨(x).toNat, by omega⟩
  refine aL0 dX11_cause_5 ?_
  refine R_getR dX11_cause_6 fX11_19.r hG.o rfl ?_
  refine iL1 dX11_cause_9 ?_
  refine invV1 rfl dX11_cause_10 kX11_188 hG.now.o (Nat.le_of_ble_eq_true rfl) (Nat.zero_le _) (Nat.zero_le _) (C_X10_placeOf hG.now hw (konI ?_))
  have hpr : -1 ≤ placeOf w (c : Int) ∧ placeOf w (c : Int) < 60 := by rcases placeOf_rng w (c : Int) with q9 | ⟨p, q9, q8, -⟩ <;> omega
  refine iS3 dX11_cause_13 ?_
  refine iL2 dX11_cause_14 ?_
  refine R_tsw (tt := 100) dX11_cause_15 (by decide) (by decide) ?_
  refine aL0 dX11_cause_100 ?_
  refine R_getR dX11_cause_101 fX11_19.r hG.o rfl ?_
  refine R_getR dX11_cause_104 fX11_197 hG.now.o rfl ?_
  refine iL1 dX11_cause_107 ?_
  refine ialdN dX11_cause_108 hG.now.a7 rfl (by omega) ?_
  refine topV (v := w (102 + 7 * c)) (hw.a7 (by omega)) ?_
  have hq2 := hf.wo (c := c) (by omega)
  exact R_iret dX11_cause_109 rfl (K0 c rfl (by omega) _ (Off.rf _ _))
set_option maxHeartbeats 400000 in
theorem C_X11_cause_3 {d : Nat} {g : Gs} {h : Hc} {P : Po} {X : Nat} {w : Nat → Int} (hG : ClG g X) (hw : Tw h (X + 5) w) (hf : WF w) (hl : Lw h (X + 53) w) (ho : LawOK w) {x : Int} (KE : ¬ (0 ≤ x ∧ x < w 1) → P (.inr xIO) g h) (K0 : ∀ c : Nat, x = (c : Int) → (c : Int) < w 1 → ∀ h', Off (xsc X) h h' → P (.inl (some (vI (w (103 + 7 * c))))) g h') : Call (d + 7) 2 12 mX11_cause [vR X, vI x, vI 3] g h P := by
  have hjd := hf.jud
  have hcs := hf.cas
  have hho := hf.hou
  refine Call_of rfl ⟨by decide +kernel, rfl⟩ (Nat.le_of_ble_eq_true rfl) rfl ?_
  refine aL0 dX11_cause_0 ?_
  refine iL1 dX11_cause_1 ?_
  refine invV1 rfl dX11_cause_2 kX11_185 hG.o (Nat.le_of_ble_eq_true rfl) (by decide) (by decide) (C_X11_needCase hG hw hf (fun hn1 => konVm hG.one ?_) (fun hn1 => konEm hG.one (KE (by omega))))
  obtain ⟨c, rfl⟩ : ∃ c : Nat, x = (c : Int) := ⟨(x).toNat, by omega⟩
  refine aL0 dX11_cause_5 ?_
  refine R_getR dX11_cause_6 fX11_19.r hG.o rfl ?_
  refine iL1 dX11_cause_9 ?_
  refine invV1 rfl dX11_cause_10 kX11_188 hG.now.o (Nat.le_of_ble_eq_true rfl) (Nat.zero_le _) (Nat.zero_le _) (C_X10_placeOf hG.now hw (konI ?_))
  have hpr : -1 ≤ placeOf w (c : Int) ∧ placeOf w (c : Int) < 60 := by rcases placeOf_rng w (c : Int) with q9 | ⟨p, q9, q8, -⟩ <;> omega
  refine iS3 dX11_cause_13 ?_
  refine iL2 dX11_cause_14 ?_
  refine R_tsw (tt := 110) dX11_cause_15 (by decide) (by decide) ?_
  refine aL0 dX11_cause_110 ?_
  refine R_getR dX11_cause_111 fX11_19.r hG.o rfl ?_
  refine R_getR dX11_cause_114 fX11_200 hG.now.o rfl ?_
  refine iL1 dX11_cause_117 ?_
  refine ialdN dX11_cause_118 hG.now.a8 rfl (by omega) ?_
  refine topV (v := w (103 + 7 * c)) (hw.a8 (by omega)) ?_
  have hq2 := hf.on (c := c) (by omega)
  exact R_iret dX11_cause_119 rfl (K0 c rfl (by omega) _ (Off.rf _ _))
set_option maxHeartbeats 400000 in
theorem C_X11_cause_4 {d : Nat} {g : Gs} {h : Hc} {P : Po} {X : Nat} {w : Nat → Int} (hG : ClG g X) (hw : Tw h (X + 5) w) (hf : WF w) (hl : Lw h (X + 53) w) (ho : LawOK w) {x : Int} (KE : ¬ (0 ≤ x ∧ x < w 1) → P (.inr xIO) g h) (K0 : ∀ c : Nat, x = (c : Int) → (c : Int) < w 1 → ∀ h', Off (xsc X) h h' → P (.inl (some (vI (w (104 + 7 * c))))) g h') : Call (d + 7) 2 12 mX11_cause [vR X, vI x, vI 4] g h P := by
  have hjd := hf.jud
  have hcs := hf.cas
  have hho := hf.hou
  refine Call_of rfl ⟨by decide +kernel, rfl⟩ (Nat.le_of_ble_eq_true rfl) rfl ?_
  refine aL0 dX11_cause_0 ?_
  refine iL1 dX11_cause_1 ?_
  refine invV1 rfl dX11_cause_2 kX11_185 hG.o (Nat.le_of_ble_eq_true rfl) (by decide) (by decide) (C_X11_needCase hG hw hf (fun hn1 => konVm hG.one ?_) (fun hn1 => konEm hG.one (KE (by omega))))
  obtain ⟨c, rfl⟩ : ∃ c : Nat, x = (c : Int) := ⟨(x).toNat, by omega⟩
  refine aL0 dX11_cause_5 ?_
  refine R_getR dX11_cause_6 fX11_19.r hG.o rfl ?_
  refine iL1 dX11_cause_9 ?_
  refine invV1 rfl dX11_cause_10 kX11_188 hG.now.o (Nat.le_of_ble_eq_true rfl) (Nat.zero_le _) (Nat.zero_le _) (C_X10_placeOf hG.now hw (konI ?_))
  have hpr : -1 ≤ placeOf w (c : Int) ∧ placeOf w (c : Int) < 60 := by rcases placeOf_rng w (c : Int) with q9 | ⟨p, q9, q8, -⟩ <;> omega
  refine iS3 dX11_cause_13 ?_
  refine iL2 dX11_cause_14 ?_
  refine R_tsw (tt := 120) dX11_cause_15 (by decide) (by decide) ?_
  refine aL0 dX11_cause_120 ?_
  refine R_getR dX11_cause_121 fX11_19.r hG.o rfl ?_
  refine R_getR dX11_cause_124 fX11_203 hG.now.o rfl ?_
  refine iL1 dX11_cause_127 ?_
  refine ialdN dX11_cause_128 hG.now.a9 rfl (by omega) ?_
  refine topV (v := w (104 + 7 * c)) (hw.a9 (by omega)) ?_
  have hq2 := hf.st (c := c) (by omega)
  exact R_iret dX11_cause_129 rfl (K0 c rfl (by omega) _ (Off.rf _ _))
set_option maxHeartbeats 400000 in
theorem C_X11_cause_5 {d : Nat} {g : Gs} {h : Hc} {P : Po} {X : Nat} {w : Nat → Int} (hG : ClG g X) (hw : Tw h (X + 5) w) (hf : WF w) (hl : Lw h (X + 53) w) (ho : LawOK w) {x : Int} (KE : ¬ (0 ≤ x ∧ x < w 1) → P (.inr xIO) g h) (K0 : ∀ c : Nat, x = (c : Int) → (c : Int) < w 1 → ∀ h', Off (xsc X) h h' → P (.inl (some (vI (w (105 + 7 * c))))) g h') : Call (d + 7) 2 12 mX11_cause [vR X, vI x, vI 5] g h P := by
  have hjd := hf.jud
  have hcs := hf.cas
  have hho := hf.hou
  refine Call_of rfl ⟨by decide +kernel, rfl⟩ (Nat.le_of_ble_eq_true rfl) rfl ?_
  refine aL0 dX11_cause_0 ?_
  refine iL1 dX11_cause_1 ?_
  refine invV1 rfl dX11_cause_2 kX11_185 hG.o (Nat.le_of_ble_eq_true rfl) (by decide) (by decide) (C_X11_needCase hG hw hf (fun hn1 => konVm hG.one ?_) (fun hn1 => konEm hG.one (KE (by omega))))
  obtain ⟨c, rfl⟩ : ∃ c : Nat, x = (c : Int) := ⟨(x).toNat, by omega⟩
  refine aL0 dX11_cause_5 ?_
  refine R_getR dX11_cause_6 fX11_19.r hG.o rfl ?_
  refine iL1 dX11_cause_9 ?_
  refine invV1 rfl dX11_cause_10 kX11_188 hG.now.o (Nat.le_of_ble_eq_true rfl) (Nat.zero_le _) (Nat.zero_le _) (C_X10_placeOf hG.now hw (konI ?_))
  have hpr : -1 ≤ placeOf w (c : Int) ∧ placeOf w (c : Int) < 60 := by rcases placeOf_rng w (c : Int) with q9 | ⟨p, q9, q8, -⟩ <;> omega
  refine iS3 dX11_cause_13 ?_
  refine iL2 dX11_cause_14 ?_
  refine R_tsw (tt := 130) dX11_cause_15 (by decide) (by decide) ?_
  refine aL0 dX11_cause_130 ?_
  refine R_getR dX11_cause_131 fX11_19.r hG.o rfl ?_
  refine R_getR dX11_cause_134 fX11_206 hG.now.o rfl ?_
  refine iL1 dX11_cause_137 ?_
  refine ialdN dX11_cause_138 hG.now.a10 rfl (by omega) ?_
  refine topV (v := w (105 + 7 * c)) (hw.a10 (by omega)) ?_
  have hq2 := hf.by_ (c := c) (by omega)
  exact R_iret dX11_cause_139 rfl (K0 c rfl (by omega) _ (Off.rf _ _))
set_option maxHeartbeats 400000 in
theorem C_X11_cause_6 {d : Nat} {g : Gs} {h : Hc} {P : Po} {X : Nat} {w : Nat → Int} (hG : ClG g X) (hw : Tw h (X + 5) w) (hf : WF w) (hl : Lw h (X + 53) w) (ho : LawOK w) {x : Int} (KE : ¬ (0 ≤ x ∧ x < w 1) → P (.inr xIO) g h) (K0 : ∀ c : Nat, x = (c : Int) → (c : Int) < w 1 → ∀ h', Off (xsc X) h h' → P (.inl (some (vI (w (106 + 7 * c))))) g h') : Call (d + 7) 2 12 mX11_cause [vR X, vI x, vI 6] g h P := by
  have hjd := hf.jud
  have hcs := hf.cas
  have hho := hf.hou
  refine Call_of rfl ⟨by decide +kernel, rfl⟩ (Nat.le_of_ble_eq_true rfl) rfl ?_
  refine aL0 dX11_cause_0 ?_
  refine iL1 dX11_cause_1 ?_
  refine invV1 rfl dX11_cause_2 kX11_185 hG.o (Nat.le_of_ble_eq_true rfl) (by decide) (by decide) (C_X11_needCase hG hw hf (fun hn1 => konVm hG.one ?_) (fun hn1 => konEm hG.one (KE (by omega))))
  obtain ⟨c, rfl⟩ : ∃ c : Nat, x = (c : Int) := ⟨(x).toNat, by omega⟩
  refine aL0 dX11_cause_5 ?_
  refine R_getR dX11_cause_6 fX11_19.r hG.o rfl ?_
  refine iL1 dX11_cause_9 ?_
  refine invV1 rfl dX11_cause_10 kX11_188 hG.now.o (Nat.le_of_ble_eq_true rfl) (Nat.zero_le _) (Nat.zero_le _) (C_X10_placeOf hG.now hw (konI ?_))
  have hpr : -1 ≤ placeOf w (c : Int) ∧ placeOf w (c : Int) < 60 := by rcases placeOf_rng w (c : Int) with q9 | ⟨p, q9, q8, -⟩ <;> omega
  refine iS3 dX11_cause_13 ?_
  refine iL2 dX11_cause_14 ?_
  refine R_tsw (tt := 140) dX11_cause_15 (by decide) (by decide) ?_
  refine aL0 dX11_cause_140 ?_
  refine R_getR dX11_cause_141 fX11_19.r hG.o rfl ?_
  refine R_getR dX11_cause_144 fX11_209 hG.now.o rfl ?_
  refine iL1 dX11_cause_147 ?_
  refine ialdN dX11_cause_148 hG.now.a11 rfl (by omega) ?_
  refine topV (v := w (106 + 7 * c)) (hw.a11 (by omega)) ?_
  have hq2 := hf.dy (c := c) (by omega)
  exact R_iret dX11_cause_149 rfl (K0 c rfl (by omega) _ (Off.rf _ _))
set_option maxHeartbeats 400000 in
theorem C_X11_cause_7 {d : Nat} {g : Gs} {h : Hc} {P : Po} {X : Nat} {w : Nat → Int} (hG : ClG g X) (hw : Tw h (X + 5) w) (hf : WF w) (hl : Lw h (X + 53) w) (ho : LawOK w) {x : Int} (KE : ¬ (0 ≤ x ∧ x < w 1) → P (.inr xIO) g h) (K0 : ∀ c : Nat, x = (c : Int) → (c : Int) < w 1 → ∀ h', Off (xsc X) h h' → P (.inl (some (vI (if placeOf w (c : Int) < 0 then -1 else placeOf w (c : Int) / 12)))) g h') : Call (d + 7) 2 12 mX11_cause [vR X, vI x, vI 7] g h P := by
  have hjd := hf.jud
  have hcs := hf.cas
  have hho := hf.hou
  refine Call_of rfl ⟨by decide +kernel, rfl⟩ (Nat.le_of_ble_eq_true rfl) rfl ?_
  refine aL0 dX11_cause_0 ?_
  refine iL1 dX11_cause_1 ?_
  refine invV1 rfl dX11_cause_2 kX11_185 hG.o (Nat.le_of_ble_eq_true rfl) (by decide) (by decide) (C_X11_needCase hG hw hf (fun hn1 => konVm hG.one ?_) (fun hn1 => konEm hG.one (KE (by omega))))
  obtain ⟨c, rfl⟩ : ∃ c : Nat, x = (c : Int) := ⟨(x).toNat, by omega⟩
  refine aL0 dX11_cause_5 ?_
  refine R_getR dX11_cause_6 fX11_19.r hG.o rfl ?_
  refine iL1 dX11_cause_9 ?_
  refine invV1 rfl dX11_cause_10 kX11_188 hG.now.o (Nat.le_of_ble_eq_true rfl) (Nat.zero_le _) (Nat.zero_le _) (C_X10_placeOf hG.now hw (konI ?_))
  have hpr : -1 ≤ placeOf w (c : Int) ∧ placeOf w (c : Int) < 60 := by rcases placeOf_rng w (c : Int) with q9 | ⟨p, q9, q8, -⟩ <;> omega
  refine iS3 dX11_cause_13 ?_
  refine iL2 dX11_cause_14 ?_
  refine R_tsw (tt := 150) dX11_cause_15 (by decide) (by decide) ?_
  refine iL3 dX11_cause_150 ?_
  refine R_if_ge dX11_cause_151 (fun hb151 => ?_) (fun hb151 => ?_)
  · refine iL3 dX11_cause_158 ?_
    refine R_bipush dX11_cause_159 (by decide) ?_
    refine divV dX11_cause_161 (by decide) (divI (by omega) (by omega) (by omega)) ?_
    exact R_iret dX11_cause_162 rfl (PeqI (K0 c rfl (by omega) _ (Off.rf _ _)) (by first | (rw [if_pos (by omega)]; done) | (rw [if_neg (by omega)]; done)))
  · refine R_iconst_m1 dX11_cause_154 ?_
    refine R_goto dX11_cause_155 ?_
    exact R_iret dX11_cause_162 rfl (PeqI (K0 c rfl (by omega) _ (Off.rf _ _)) (by first | (rw [if_pos (by omega)]; done) | (rw [if_neg (by omega)]; done)))
set_option maxHeartbeats 400000 in
theorem C_X11_cause_8 {d : Nat} {g : Gs} {h : Hc} {P : Po} {X : Nat} {w : Nat → Int} (hG : ClG g X) (hw : Tw h (X + 5) w) (hf : WF w) (hl : Lw h (X + 53) w) (ho : LawOK w) {x : Int} (KE : ¬ (0 ≤ x ∧ x < w 1) → P (.inr xIO) g h) (K0 : ∀ c : Nat, x = (c : Int) → (c : Int) < w 1 → ∀ h', Off (xsc X) h h' → P (.inl (some (vI (if placeOf w (c : Int) < 0 then -1 else placeOf w (c : Int) % 12)))) g h') : Call (d + 7) 2 12 mX11_cause [vR X, vI x, vI 8] g h P := by
  have hjd := hf.jud
  have hcs := hf.cas
  have hho := hf.hou
  refine Call_of rfl ⟨by decide +kernel, rfl⟩ (Nat.le_of_ble_eq_true rfl) rfl ?_
  refine aL0 dX11_cause_0 ?_
  refine iL1 dX11_cause_1 ?_
  refine invV1 rfl dX11_cause_2 kX11_185 hG.o (Nat.le_of_ble_eq_true rfl) (by decide) (by decide) (C_X11_needCase hG hw hf (fun hn1 => konVm hG.one ?_) (fun hn1 => konEm hG.one (KE (by omega))))
  obtain ⟨c, rfl⟩ : ∃ c : Nat, x = (c : Int) := ⟨(x).toNat, by omega⟩
  refine aL0 dX11_cause_5 ?_
  refine R_getR dX11_cause_6 fX11_19.r hG.o rfl ?_
  refine iL1 dX11_cause_9 ?_
  refine invV1 rfl dX11_cause_10 kX11_188 hG.now.o (Nat.le_of_ble_eq_true rfl) (Nat.zero_le _) (Nat.zero_le _) (C_X10_placeOf hG.now hw (konI ?_))
  have hpr : -1 ≤ placeOf w (c : Int) ∧ placeOf w (c : Int) < 60 := by rcases placeOf_rng w (c : Int) with q9 | ⟨p, q9, q8, -⟩ <;> omega
  refine iS3 dX11_cause_13 ?_
  refine iL2 dX11_cause_14 ?_
  refine R_tsw (tt := 163) dX11_cause_15 (by decide) (by decide) ?_
  refine iL3 dX11_cause_163 ?_
  refine R_if_ge dX11_cause_164 (fun hb164 => ?_) (fun hb164 => ?_)
  · refine iL3 dX11_cause_171 ?_
    refine R_bipush dX11_cause_172 (by decide) ?_
    refine remV dX11_cause_174 (by decide) (remI (by omega) (by omega) (by omega)) ?_
    exact R_iret dX11_cause_175 rfl (PeqI (K0 c rfl (by omega) _ (Off.rf _ _)) (by first | (rw [if_pos (by omega)]; done) | (rw [if_neg (by omega)]; done)))
  · refine R_iconst_m1 dX11_cause_167 ?_
    refine R_goto dX11_cause_168 ?_
    exact R_iret dX11_cause_175 rfl (PeqI (K0 c rfl (by omega) _ (Off.rf _ _)) (by first | (rw [if_pos (by omega)]; done) | (rw [if_neg (by omega)]; done)))
set_option maxHeartbeats 400000 in
theorem C_X11_cause_9 {d : Nat} {g : Gs} {h : Hc} {P : Po} {X : Nat} {w : Nat → Int} (hG : ClG g X) (hw : Tw h (X + 5) w) (hf : WF w) (hl : Lw h (X + 53) w) (ho : LawOK w) {x : Int} (KE : ¬ (0 ≤ x ∧ x < w 1) → P (.inr xIO) g h) (K0 : ∀ c : Nat, x = (c : Int) → (c : Int) < w 1 → ∀ h', Off (xsc X) h h' → P (.inl (some (vI (leanOn w c)))) g h') : Call (d + 7) 2 12 mX11_cause [vR X, vI x, vI 9] g h P := by
  have hjd := hf.jud
  have hcs := hf.cas
  have hho := hf.hou
  refine Call_of rfl ⟨by decide +kernel, rfl⟩ (Nat.le_of_ble_eq_true rfl) rfl ?_
  refine aL0 dX11_cause_0 ?_
  refine iL1 dX11_cause_1 ?_
  refine invV1 rfl dX11_cause_2 kX11_185 hG.o (Nat.le_of_ble_eq_true rfl) (by decide) (by decide) (C_X11_needCase hG hw hf (fun hn1 => konVm hG.one ?_) (fun hn1 => konEm hG.one (KE (by omega))))
  obtain ⟨c, rfl⟩ : ∃ c : Nat, x = (c : Int) := ⟨(x).toNat, by omega⟩
  refine aL0 dX11_cause_5 ?_
  refine R_getR dX11_cause_6 fX11_19.r hG.o rfl ?_
  refine iL1 dX11_cause_9 ?_
  refine invV1 rfl dX11_cause_10 kX11_188 hG.now.o (Nat.le_of_ble_eq_true rfl) (Nat.zero_le _) (Nat.zero_le _) (C_X10_placeOf hG.now hw (konI ?_))
  have hpr : -1 ≤ placeOf w (c : Int) ∧ placeOf w (c : Int) < 60 := by rcases placeOf_rng w (c : Int) with q9 | ⟨p, q9, q8, -⟩ <;> omega
  refine iS3 dX11_cause_13 ?_
  refine iL2 dX11_cause_14 ?_
  refine R_tsw (tt := 176) dX11_cause_15 (by decide) (by decide) ?_
  refine aL0 dX11_cause_176 ?_
  refine R_getR dX11_cause_177 fX11_19.r hG.o rfl ?_
  refine iL1 dX11_cause_180 ?_
  refine invV1 rfl dX11_cause_181 kX11_212 hG.now.o (Nat.le_of_ble_eq_true rfl) (Nat.zero_le _) (Nat.zero_le _) (C_X10_leaningOn hG.now hw hf (by omega) (konI ?_))
  exact R_iret dX11_cause_184 rfl (K0 c rfl (by omega) _ (Off.rf _ _))
set_option maxHeartbeats 400000 in
theorem C_X11_cause_10 {d : Nat} {g : Gs} {h : Hc} {P : Po} {X : Nat} {w : Nat → Int} (hG : ClG g X) (hw : Tw h (X + 5) w) (hf : WF w) (hl : Lw h (X + 53) w) (ho : LawOK w) {x : Int} (KE : ¬ (0 ≤ x ∧ x < w 1) → P (.inr xIO) g h) (K0 : ∀ c : Nat, x = (c : Int) → (c : Int) < w 1 → ∀ h', Off (xsc X) h h' → P (.inl (some (vI ((benF w c 12 (w 0).toNat).1)))) g h') : Call (d + 7) 2 12 mX11_cause [vR X, vI x, vI 10] g h P := by
  have hjd := hf.jud
  have hcs := hf.cas
  have hho := hf.hou
  refine Call_of rfl ⟨by decide +kernel, rfl⟩ (Nat.le_of_ble_eq_true rfl) rfl ?_
  refine aL0 dX11_cause_0 ?_
  refine iL1 dX11_cause_1 ?_
  refine invV1 rfl dX11_cause_2 kX11_185 hG.o (Nat.le_of_ble_eq_true rfl) (by decide) (by decide) (C_X11_needCase hG hw hf (fun hn1 => konVm hG.one ?_) (fun hn1 => konEm hG.one (KE (by omega))))
  obtain ⟨c, rfl⟩ : ∃ c : Nat, x = (c : Int) := ⟨(x).toNat, by omega⟩
  refine aL0 dX11_cause_5 ?_
  refine R_getR dX11_cause_6 fX11_19.r hG.o rfl ?_
  refine iL1 dX11_cause_9 ?_
  refine invV1 rfl dX11_cause_10 kX11_188 hG.now.o (Nat.le_of_ble_eq_true rfl) (Nat.zero_le _) (Nat.zero_le _) (C_X10_placeOf hG.now hw (konI ?_))
  have hpr : -1 ≤ placeOf w (c : Int) ∧ placeOf w (c : Int) < 60 := by rcases placeOf_rng w (c : Int) with q9 | ⟨p, q9, q8, -⟩ <;> omega
  refine iS3 dX11_cause_13 ?_
  refine iL2 dX11_cause_14 ?_
  refine R_tsw (tt := 185) dX11_cause_15 (by decide) (by decide) ?_
  refine aL0 dX11_cause_185 ?_
  refine R_getR dX11_cause_186 fX11_65.r hG.o rfl ?_
  refine iL1 dX11_cause_189 ?_
  refine invV1 rfl dX11_cause_190 kX11_215 (hG.court hw hf hl ho).ct (Nat.le_of_ble_eq_true rfl) (Nat.zero_le _) (Nat.zero_le _) (C_X1_benchFor (hG.court hw hf hl ho) (by omega) (fun h9 hx9 => konI ?_))
  exact R_iret dX11_cause_193 rfl (K0 c rfl (by omega) _ hx9.scx)
set_option maxHeartbeats 400000 in
theorem C_X11_cause_11 {d : Nat} {g : Gs} {h : Hc} {P : Po} {X : Nat} {w : Nat → Int} (hG : ClG g X) (hw : Tw h (X + 5) w) (hf : WF w) (hl : Lw h (X + 53) w) (ho : LawOK w) {x : Int} (KE : ¬ (0 ≤ x ∧ x < w 1) → P (.inr xIO) g h) (K0 : ∀ c : Nat, x = (c : Int) → (c : Int) < w 1 → ∀ h', Off (xsc X) h h' → P (.inl (some (vI (delW w c)))) g h') : Call (d + 7) 2 12 mX11_cause [vR X, vI x, vI 11] g h P := by
  have hjd := hf.jud
  have hcs := hf.cas
  have hho := hf.hou
  refine Call_of rfl ⟨by decide +kernel, rfl⟩ (Nat.le_of_ble_eq_true rfl) rfl ?_
  refine aL0 dX11_cause_0 ?_
  refine iL1 dX11_cause_1 ?_
  refine invV1 rfl dX11_cause_2 kX11_185 hG.o (Nat.le_of_ble_eq_true rfl) (by decide) (by decide) (C_X11_needCase hG hw hf (fun hn1 => konVm hG.one ?_) (fun hn1 => konEm hG.one (KE (by omega))))
  obtain ⟨c, rfl⟩ : ∃ c : Nat, x = (c : Int) := ⟨(x).toNat, by omega⟩
  refine aL0 dX11_cause_5 ?_
  refine R_getR dX11_cause_6 fX11_19.r hG.o rfl ?_
  refine iL1 dX11_cause_9 ?_
  refine invV1 rfl dX11_cause_10 kX11_188 hG.now.o (Nat.le_of_ble_eq_true rfl) (Nat.zero_le _) (Nat.zero_le _) (C_X10_placeOf hG.now hw (konI ?_))
  have hpr : -1 ≤ placeOf w (c : Int) ∧ placeOf w (c : Int) < 60 := by rcases placeOf_rng w (c : Int) with q9 | ⟨p, q9, q8, -⟩ <;> omega
  refine iS3 dX11_cause_13 ?_
  refine iL2 dX11_cause_14 ?_
  refine R_tsw (tt := 194) dX11_cause_15 (by decide) (by decide) ?_
  refine aL0 dX11_cause_194 ?_
  refine R_getR dX11_cause_195 fX11_65.r hG.o rfl ?_
  refine iL1 dX11_cause_198 ?_
  refine invV1 rfl dX11_cause_199 kX11_218 (hG.court hw hf hl ho).ct (Nat.le_of_ble_eq_true rfl) (Nat.zero_le _) (Nat.zero_le _) (C_X1_delayOf (hG.court hw hf hl ho) (by omega) (fun h9 hx9 => konI ?_))
  exact R_iret dX11_cause_202 rfl (K0 c rfl (by omega) _ hx9.scx)
set_option maxHeartbeats 400000 in
theorem C_X11_cause_12 {d : Nat} {g : Gs} {h : Hc} {P : Po} {X : Nat} {w : Nat → Int} (hG : ClG g X) (hw : Tw h (X + 5) w) (hf : WF w) (hl : Lw h (X + 53) w) (ho : LawOK w) {x : Int} (KE : ¬ (0 ≤ x ∧ x < w 1) → P (.inr xIO) g h) (K0 : ∀ c : Nat, x = (c : Int) → (c : Int) < w 1 → ∀ h', Off (xsc X) h h' → P (.inl (some (vI (shaW w c)))) g h') : Call (d + 7) 2 12 mX11_cause [vR X, vI x, vI 12] g h P := by
  have hjd := hf.jud
  have hcs := hf.cas
  have hho := hf.hou
  refine Call_of rfl ⟨by decide +kernel, rfl⟩ (Nat.le_of_ble_eq_true rfl) rfl ?_
  refine aL0 dX11_cause_0 ?_
  refine iL1 dX11_cause_1 ?_
  refine invV1 rfl dX11_cause_2 kX11_185 hG.o (Nat.le_of_ble_eq_true rfl) (by decide) (by decide) (C_X11_needCase hG hw hf (fun hn1 => konVm hG.one ?_) (fun hn1 => konEm hG.one (KE (by omega))))
  obtain ⟨c, rfl⟩ : ∃ c : Nat, x = (c : Int) := ⟨(x).toNat, by omega⟩
  refine aL0 dX11_cause_5 ?_
  refine R_getR dX11_cause_6 fX11_19.r hG.o rfl ?_
  refine iL1 dX11_cause_9 ?_
  refine invV1 rfl dX11_cause_10 kX11_188 hG.now.o (Nat.le_of_ble_eq_true rfl) (Nat.zero_le _) (Nat.zero_le _) (C_X10_placeOf hG.now hw (konI ?_))
  have hpr : -1 ≤ placeOf w (c : Int) ∧ placeOf w (c : Int) < 60 := by rcases placeOf_rng w (c : Int) with q9 | ⟨p, q9, q8, -⟩ <;> omega
  refine iS3 dX11_cause_13 ?_
  refine iL2 dX11_cause_14 ?_
  refine R_tsw (tt := 203) dX11_cause_15 (by decide) (by decide) ?_
  refine aL0 dX11_cause_203 ?_
  refine R_getR dX11_cause_204 fX11_84.r hG.o rfl ?_
  refine iL1 dX11_cause_207 ?_
  refine invV1 rfl dX11_cause_208 kX11_221 (hG.matches hw hf hl ho).o (Nat.le_of_ble_eq_true rfl) (Nat.zero_le _) (Nat.zero_le _) (C_X5_shareJudge (hG.matches hw hf hl ho) (by omega) (fun h9 hx9 => konI ?_))
  exact R_iret dX11_cause_211 rfl (K0 c rfl (by omega) _ hx9)
set_option maxHeartbeats 400000 in
theorem C_X11_cause_n {d : Nat} {g : Gs} {h : Hc} {P : Po} {X : Nat} {w : Nat → Int} (hG : ClG g X) (hw : Tw h (X + 5) w) (hf : WF w) (hl : Lw h (X + 53) w) (ho : LawOK w) {x y : Int} (hy : ¬ (0 ≤ y ∧ y ≤ 12)) (KE : ¬ (0 ≤ x ∧ x < w 1) → P (.inr xIO) g h) (KN : 0 ≤ x ∧ x < w 1 → P (.inr xNE) g h) : Call (d + 7) 2 12 mX11_cause [vR X, vI x, vI y] g h P := by
  have hjd := hf.jud
  have hcs := hf.cas
  have hho := hf.hou
  refine Call_of rfl ⟨by decide +kernel, rfl⟩ (Nat.le_of_ble_eq_true rfl) rfl ?_
  refine aL0 dX11_cause_0 ?_
  refine iL1 dX11_cause_1 ?_
  refine invV1 rfl dX11_cause_2 kX11_185 hG.o (Nat.le_of_ble_eq_true rfl) (by decide) (by decide) (C_X11_needCase hG hw hf (fun hn1 => konVm hG.one ?_) (fun hn1 => konEm hG.one (KE (by omega))))
  obtain ⟨c, rfl⟩ : ∃ c : Nat, x = (c : Int) := ⟨(x).toNat, by omega⟩
  refine aL0 dX11_cause_5 ?_
  refine R_getR dX11_cause_6 fX11_19.r hG.o rfl ?_
  refine iL1 dX11_cause_9 ?_
  refine invV1 rfl dX11_cause_10 kX11_188 hG.now.o (Nat.le_of_ble_eq_true rfl) (Nat.zero_le _) (Nat.zero_le _) (C_X10_placeOf hG.now hw (konI ?_))
  have hpr := placeOf_rng w (c : Int)
  refine iS3 dX11_cause_13 ?_
  refine iL2 dX11_cause_14 ?_
  refine R_tsw (tt := 212) dX11_cause_15 (by rw [if_pos (by omega)]; rfl) (by decide) ?_
  exact R_throw rfl dX11_cause_212 dX11_cause_215 dX11_cause_216 dX11_cause_219 tX11_182 hG.one (Nat.le_of_ble_eq_true rfl) (by decide) (by decide) (KN (by omega))
set_option maxHeartbeats 400000 in
theorem C_X11_seed {d : Nat} {g : Gs} {h : Hc} {P : Po} {X : Nat} {w : Nat → Int} (hG : ClG g X) (hw : Tw h (X + 5) w) (hf : WF w) {x : Int} (K0 : P (.inl (some (vI (w 7)))) g (updH h (X + 5) 5 x)) : Call (d + 0) 0 0 mX11_seed [vR X, vI x] g h P := by
  refine Call_of rfl ⟨by decide +kernel, rfl⟩ (Nat.le_of_ble_eq_true rfl) rfl ?_
  refine aL0 dX11_seed_0 ?_
  refine R_getR dX11_seed_1 fX11_19.r hG.o rfl ?_
  refine R_getI dX11_seed_4 fX11_344.r hG.now.o ?_
  refine topV (v := w 7) (hw.s5) ?_
  refine iS2 dX11_seed_7 ?_
  refine aL0 dX11_seed_8 ?_
  refine R_getR dX11_seed_9 fX11_19.r hG.o rfl ?_
  refine iL1 dX11_seed_12 ?_
  refine R_putI dX11_seed_13 fX11_344 hG.now.o ?_
  refine iL2 dX11_seed_16 ?_
  exact R_iret dX11_seed_17 rfl (K0)
set_option maxHeartbeats 400000 in
theorem C_X11_count_0 {d : Nat} {g : Gs} {h : Hc} {P : Po} {X : Nat} {w : Nat → Int} (hG : ClG g X) (hw : Tw h (X + 5) w) (hf : WF w) (hl : Lw h (X + 53) w) (ho : LawOK w) {n : Nat} {A : Nat → Nat → Int} (hP : Pa h (X + 87) A n) (K0 : P (.inl (some (vI (w 0)))) g h) : Call (d + 1) 0 0 mX11_count [vR X, vI 0] g h P := by
  refine Call_of rfl ⟨by decide +kernel, rfl⟩ (Nat.le_of_ble_eq_true rfl) rfl ?_
  refine iL1 dX11_count_0 ?_
  refine R_tsw (tt := 60) dX11_count_1 (by decide) (by decide) ?_
  refine aL0 dX11_count_60 ?_
  refine R_getR dX11_count_61 fX11_19.r hG.o rfl ?_
  refine R_getI dX11_count_64 fX11_266.r hG.now.o ?_
  refine topV (v := w 0) (hw.s0) ?_
  have hq1 := hf.jud
  exact R_iret dX11_count_67 rfl (K0)
set_option maxHeartbeats 400000 in
theorem C_X11_count_1 {d : Nat} {g : Gs} {h : Hc} {P : Po} {X : Nat} {w : Nat → Int} (hG : ClG g X) (hw : Tw h (X + 5) w) (hf : WF w) (hl : Lw h (X + 53) w) (ho : LawOK w) {n : Nat} {A : Nat → Nat → Int} (hP : Pa h (X + 87) A n) (K0 : P (.inl (some (vI (w 1)))) g h) : Call (d + 1) 0 0 mX11_count [vR X, vI 1] g h P := by
  refine Call_of rfl ⟨by decide +kernel, rfl⟩ (Nat.le_of_ble_eq_true rfl) rfl ?_
  refine iL1 dX11_count_0 ?_
  refine R_tsw (tt := 68) dX11_count_1 (by decide) (by decide) ?_
  refine aL0 dX11_count_68 ?_
  refine R_getR dX11_count_69 fX11_19.r hG.o rfl ?_
  refine R_getI dX11_count_72 fX11_290.r hG.now.o ?_
  refine topV (v := w 1) (hw.s1) ?_
  have hq1 := hf.cas
  exact R_iret dX11_count_75 rfl (K0)
set_option maxHeartbeats 400000 in
theorem C_X11_count_2 {d : Nat} {g : Gs} {h : Hc} {P : Po} {X : Nat} {w : Nat → Int} (hG : ClG g X) (hw : Tw h (X + 5) w) (hf : WF w) (hl : Lw h (X + 53) w) (ho : LawOK w) {n : Nat} {A : Nat → Nat → Int} (hP : Pa h (X + 87) A n) (K0 : P (.inl (some (vI (w 2)))) g h) : Call (d + 1) 0 0 mX11_count [vR X, vI 2] g h P := by
  refine Call_of rfl ⟨by decide +kernel, rfl⟩ (Nat.le_of_ble_eq_true rfl) rfl ?_
  refine iL1 dX11_count_0 ?_
  refine R_tsw (tt := 76) dX11_count_1 (by decide) (by decide) ?_
  refine aL0 dX11_count_76 ?_
  refine R_getR dX11_count_77 fX11_19.r hG.o rfl ?_
  refine R_getI dX11_count_80 fX11_124.r hG.now.o ?_
  refine topV (v := w 2) (hw.s2) ?_
  have hq1 := hf.tex
  exact R_iret dX11_count_83 rfl (K0)
set_option maxHeartbeats 400000 in
theorem C_X11_count_3 {d : Nat} {g : Gs} {h : Hc} {P : Po} {X : Nat} {w : Nat → Int} (hG : ClG g X) (hw : Tw h (X + 5) w) (hf : WF w) (hl : Lw h (X + 53) w) (ho : LawOK w) {n : Nat} {A : Nat → Nat → Int} (hP : Pa h (X + 87) A n) (K0 : P (.inl (some (vI (if w 3 = 1 then w 516 else -1)))) g h) : Call (d + 1) 0 0 mX11_count [vR X, vI 3] g h P := by
  refine Call_of rfl ⟨by decide +kernel, rfl⟩ (Nat.le_of_ble_eq_true rfl) rfl ?_
  refine iL1 dX11_count_0 ?_
  refine R_tsw (tt := 84) dX11_count_1 (by decide) (by decide) ?_
  refine aL0 dX11_count_84 ?_
  refine R_getR dX11_count_85 fX11_32.r hG.o rfl ?_
  refine R_getI dX11_count_88 fX11_140.r hG.rul.o ?_
  refine topV (v := h (X + 53) 0) (rfl) ?_
  exact R_iret dX11_count_91 rfl (PeqI K0 (linW hl))
set_option maxHeartbeats 400000 in
theorem C_X11_count_4 {d : Nat} {g : Gs} {h : Hc} {P : Po} {X : Nat} {w : Nat → Int} (hG : ClG g X) (hw : Tw h (X + 5) w) (hf : WF w) (hl : Lw h (X + 53) w) (ho : LawOK w) {n : Nat} {A : Nat → Nat → Int} (hP : Pa h (X + 87) A n) (K0 : P (.inl (some (vI (w 4)))) g h) : Call (d + 1) 0 0 mX11_count [vR X, vI 4] g h P := by
  refine Call_of rfl ⟨by decide +kernel, rfl⟩ (Nat.le_of_ble_eq_true rfl) rfl ?_
  refine iL1 dX11_count_0 ?_
  refine R_tsw (tt := 92) dX11_count_1 (by decide) (by decide) ?_
  refine aL0 dX11_count_92 ?_
  refine R_getR dX11_count_93 fX11_19.r hG.o rfl ?_
  refine R_getI dX11_count_96 fX11_159.r hG.now.o ?_
  refine topV (v := w 4) (hw.s3) ?_
  have hq1 := hf.hou
  exact R_iret dX11_count_99 rfl (K0)
set_option maxHeartbeats 400000 in
theorem C_X11_count_5 {d : Nat} {g : Gs} {h : Hc} {P : Po} {X : Nat} {w : Nat → Int} (hG : ClG g X) (hw : Tw h (X + 5) w) (hf : WF w) (hl : Lw h (X + 53) w) (ho : LawOK w) {n : Nat} {A : Nat → Nat → Int} (hP : Pa h (X + 87) A n) (K0 : P (.inl (some (vI (w 5)))) g h) : Call (d + 1) 0 0 mX11_count [vR X, vI 5] g h P := by
  refine Call_of rfl ⟨by decide +kernel, rfl⟩ (Nat.le_of_ble_eq_true rfl) rfl ?_
  refine iL1 dX11_count_0 ?_
  refine R_tsw (tt := 100) dX11_count_1 (by decide) (by decide) ?_
  refine aL0 dX11_count_100 ?_
  refine R_getR dX11_count_101 fX11_19.r hG.o rfl ?_
  refine R_getI dX11_count_104 fX11_373.r hG.now.o ?_
  refine topV (v := w 5) (hw.s4) ?_
  have hq1 := hf.day
  exact R_iret dX11_count_107 rfl (K0)
set_option maxHeartbeats 400000 in
theorem C_X11_count_6 {d : Nat} {g : Gs} {h : Hc} {P : Po} {X : Nat} {w : Nat → Int} (hG : ClG g X) (hw : Tw h (X + 5) w) (hf : WF w) (hl : Lw h (X + 53) w) (ho : LawOK w) {n : Nat} {A : Nat → Nat → Int} (hP : Pa h (X + 87) A n) (K0 : P (.inl (some (vI (inSt w 0)))) g h) : Call (d + 1) 0 0 mX11_count [vR X, vI 6] g h P := by
  refine Call_of rfl ⟨by decide +kernel, rfl⟩ (Nat.le_of_ble_eq_true rfl) rfl ?_
  refine iL1 dX11_count_0 ?_
  refine R_tsw (tt := 108) dX11_count_1 (by decide) (by decide) ?_
  refine aL0 dX11_count_108 ?_
  refine R_getR dX11_count_109 fX11_19.r hG.o rfl ?_
  refine R_iconst_0 dX11_count_112 ?_
  refine invV1 rfl dX11_count_113 kX11_341 hG.now.o (Nat.le_of_ble_eq_true rfl) (Nat.zero_le _) (Nat.zero_le _) (C_X10_inState hG.now hw hf (konI ?_))
  exact R_iret dX11_count_116 rfl (K0)
set_option maxHeartbeats 400000 in
theorem C_X11_count_7 {d : Nat} {g : Gs} {h : Hc} {P : Po} {X : Nat} {w : Nat → Int} (hG : ClG g X) (hw : Tw h (X + 5) w) (hf : WF w) (hl : Lw h (X + 53) w) (ho : LawOK w) {n : Nat} {A : Nat → Nat → Int} (hP : Pa h (X + 87) A n) (K0 : P (.inl (some (vI (listF w 60)))) g h) : Call (d + 1) 0 0 mX11_count [vR X, vI 7] g h P := by
  refine Call_of rfl ⟨by decide +kernel, rfl⟩ (Nat.le_of_ble_eq_true rfl) rfl ?_
  refine iL1 dX11_count_0 ?_
  refine R_tsw (tt := 117) dX11_count_1 (by decide) (by decide) ?_
  refine aL0 dX11_count_117 ?_
  refine R_getR dX11_count_118 fX11_19.r hG.o rfl ?_
  refine invV0 rfl dX11_count_121 kX11_376 hG.now.o (Nat.le_of_ble_eq_true rfl) (Nat.zero_le _) (Nat.zero_le _) (C_X10_inList hG.now hw (konI ?_))
  exact R_iret dX11_count_124 rfl (K0)
set_option maxHeartbeats 400000 in
theorem C_X11_count_8 {d : Nat} {g : Gs} {h : Hc} {P : Po} {X : Nat} {w : Nat → Int} (hG : ClG g X) (hw : Tw h (X + 5) w) (hf : WF w) (hl : Lw h (X + 53) w) (ho : LawOK w) {n : Nat} {A : Nat → Nat → Int} (hP : Pa h (X + 87) A n) (K0 : P (.inl (some (vI (hungAll w)))) g h) : Call (d + 1) 0 0 mX11_count [vR X, vI 8] g h P := by
  refine Call_of rfl ⟨by decide +kernel, rfl⟩ (Nat.le_of_ble_eq_true rfl) rfl ?_
  refine iL1 dX11_count_0 ?_
  refine R_tsw (tt := 125) dX11_count_1 (by decide) (by decide) ?_
  refine aL0 dX11_count_125 ?_
  refine R_getR dX11_count_126 fX11_19.r hG.o rfl ?_
  refine invV0 rfl dX11_count_129 kX11_379 hG.now.o (Nat.le_of_ble_eq_true rfl) (Nat.zero_le _) (Nat.zero_le _) (C_X10_hungerOfAll hG.now hw hf (konI ?_))
  exact R_iret dX11_count_132 rfl (K0)
set_option maxHeartbeats 400000 in
theorem C_X11_count_9 {d : Nat} {g : Gs} {h : Hc} {P : Po} {X : Nat} {w : Nat → Int} (hG : ClG g X) (hw : Tw h (X + 5) w) (hf : WF w) (hl : Lw h (X + 53) w) (ho : LawOK w) {n : Nat} {A : Nat → Nat → Int} (hP : Pa h (X + 87) A n) (K0 : P (.inl (some (vI (w 6)))) g h) : Call (d + 1) 0 0 mX11_count [vR X, vI 9] g h P := by
  refine Call_of rfl ⟨by decide +kernel, rfl⟩ (Nat.le_of_ble_eq_true rfl) rfl ?_
  refine iL1 dX11_count_0 ?_
  refine R_tsw (tt := 133) dX11_count_1 (by decide) (by decide) ?_
  refine aL0 dX11_count_133 ?_
  refine R_getR dX11_count_134 fX11_19.r hG.o rfl ?_
  refine R_getR dX11_count_137 fX11_354 hG.now.o rfl ?_
  refine R_getI dX11_count_140 fX11_382.r hG.now.a14 ?_
  refine topV (v := w 6) (hw.size) ?_
  have hq1 := hf.log
  exact R_iret dX11_count_143 rfl (K0)
set_option maxHeartbeats 400000 in
theorem C_X11_count_10 {d : Nat} {g : Gs} {h : Hc} {P : Po} {X : Nat} {w : Nat → Int} (hG : ClG g X) (hw : Tw h (X + 5) w) (hf : WF w) (hl : Lw h (X + 53) w) (ho : LawOK w) {n : Nat} {A : Nat → Nat → Int} (hP : Pa h (X + 87) A n) (K0 : P (.inl (some (vI (((n : Nat) : Int))))) g h) : Call (d + 1) 0 0 mX11_count [vR X, vI 10] g h P := by
  refine Call_of rfl ⟨by decide +kernel, rfl⟩ (Nat.le_of_ble_eq_true rfl) rfl ?_
  refine iL1 dX11_count_0 ?_
  refine R_tsw (tt := 144) dX11_count_1 (by decide) (by decide) ?_
  refine aL0 dX11_count_144 ?_
  refine R_getR dX11_count_145 fX11_91.r hG.o rfl ?_
  refine R_getI dX11_count_148 fX11_385.r hG.past.1 ?_
  refine topV (v := ((n : Nat) : Int)) (hP.1.1) ?_
  exact R_iret dX11_count_151 rfl (K0)
set_option maxHeartbeats 400000 in
theorem C_X11_count_n {d : Nat} {g : Gs} {h : Hc} {P : Po} {X : Nat} {w : Nat → Int} (hG : ClG g X) (hw : Tw h (X + 5) w) (hf : WF w) (hl : Lw h (X + 53) w) (ho : LawOK w) {y : Int} (hy : ¬ (0 ≤ y ∧ y ≤ 10)) (K0 : P (.inl (some (vI (-1)))) g h) : Call (d + 1) 0 0 mX11_count [vR X, vI y] g h P := by
  refine Call_of rfl ⟨by decide +kernel, rfl⟩ (Nat.le_of_ble_eq_true rfl) rfl ?_
  refine iL1 dX11_count_0 ?_
  refine R_tsw (tt := 152) dX11_count_1 (by rw [if_pos (by omega)]; rfl) (by decide) ?_
  refine R_iconst_m1 dX11_count_152 ?_
  exact R_iret dX11_count_153 rfl (K0)
