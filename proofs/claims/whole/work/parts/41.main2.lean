abbrev xsc (X : Nat) : Nat → Prop := mts (X + 81) (X + 73) (X + 53)
theorem Off.scx {X : Nat} {h h' : Hc} (o : Off (scr (X + 73) (X + 53)) h h') : Off (xsc X) h h' := o.mono (fun _ hq => Or.inr hq)
set_option maxHeartbeats 400000 in
theorem C_X11_listed {d : Nat} {g : Gs} {h : Hc} {P : Po} {X : Nat} {w : Nat → Int} (hG : ClG g X) (hw : Tw h (X + 5) w) (hf : WF w) (hl : Lw h (X + 53) w) (ho : LawOK w) {x y : Int} (KE : ¬ ((0 ≤ x ∧ x < w 0) ∧ 0 ≤ y ∧ y < 12) → P (.inr xIO) g h) (K0 : ∀ j k : Nat, x = (j : Int) → y = (k : Int) → (j : Int) < w 0 → k < 12 → P (.inl (some (vI (w (20 + (12 * j + k)))))) g h) : Call (d + 1) 2 12 mX11_listed [vR X, vI x, vI y] g h P := by
  have hjd := hf.jud
  have hcs := hf.cas
  have hho := hf.hou
  refine Call_of rfl ⟨by decide +kernel, rfl⟩ (Nat.le_of_ble_eq_true rfl) rfl ?_
  refine aL0 dX11_listed_0 ?_
  refine iL1 dX11_listed_1 ?_
  refine invV1 rfl dX11_listed_2 kX11_143 hG.o (Nat.le_of_ble_eq_true rfl) (by decide) (by decide) (C_X11_needJudge hG hw hf (fun hn1 => konVm hG.one ?_) (fun hn1 => konEm hG.one (KE (by omega))))
  obtain ⟨j, rfl⟩ : ∃ j : Nat, x = (j : Int) := ⟨(x).toNat, by omega⟩
  refine aL0 dX11_listed_5 ?_
  refine iL2 dX11_listed_6 ?_
  refine invV1 rfl dX11_listed_7 kX11_224 hG.o (Nat.le_of_ble_eq_true rfl) (by decide) (by decide) (C_X11_needHour hG hw hf (fun hn2 => konVm hG.one ?_) (fun hn2 => konEm hG.one (KE (by omega))))
  obtain ⟨k, rfl⟩ : ∃ k : Nat, y = (k : Int) := ⟨(y).toNat, by omega⟩
  refine aL0 dX11_listed_10 ?_
  refine R_getR dX11_listed_11 fX11_19.r hG.o rfl ?_
  refine iL1 dX11_listed_14 ?_
  refine iL2 dX11_listed_15 ?_
  refine invV2 rfl dX11_listed_16 kX11_227 hG.now.o (Nat.le_of_ble_eq_true rfl) (Nat.zero_le _) (Nat.zero_le _) (C_X10_caseAt hG.now hw (by omega) (by omega) (konI ?_))
  exact R_iret dX11_listed_19 rfl (K0 j k rfl rfl (by omega) (by omega))
set_option maxHeartbeats 400000 in
theorem C_X11_smell {d : Nat} {g : Gs} {h : Hc} {P : Po} {X : Nat} {w : Nat → Int} (hG : ClG g X) (hw : Tw h (X + 5) w) (hf : WF w) (hl : Lw h (X + 53) w) (ho : LawOK w) {x : Int} (KE : ¬ (0 ≤ x ∧ x < 12) → P (.inr xIO) g h) (K0 : ∀ k : Nat, x = (k : Int) → k < 12 → P (.inl (some (vI (w (8 + k))))) g h) : Call (d + 1) 1 6 mX11_smell [vR X, vI x] g h P := by
  have hjd := hf.jud
  have hcs := hf.cas
  have hho := hf.hou
  refine Call_of rfl ⟨by decide +kernel, rfl⟩ (Nat.le_of_ble_eq_true rfl) rfl ?_
  refine aL0 dX11_smell_0 ?_
  refine iL1 dX11_smell_1 ?_
  refine invV1 rfl dX11_smell_2 kX11_224 hG.o (Nat.le_of_ble_eq_true rfl) (by decide) (by decide) (C_X11_needHour hG hw hf (fun hn1 => konVm hG.one ?_) (fun hn1 => konEm hG.one (KE (by omega))))
  obtain ⟨k, rfl⟩ : ∃ k : Nat, x = (k : Int) := ⟨(x).toNat, by omega⟩
  refine aL0 dX11_smell_5 ?_
  refine R_getR dX11_smell_6 fX11_19.r hG.o rfl ?_
  refine R_getR dX11_smell_9 fX11_230 hG.now.o rfl ?_
  refine iL1 dX11_smell_12 ?_
  refine ialdN dX11_smell_13 hG.now.a13 rfl (by omega) ?_
  refine topV (v := w (8 + k)) (hw.a13 (by omega)) ?_
  have hq2 := hf.inn k (by omega)
  exact R_iret dX11_smell_14 rfl (K0 k rfl (by omega))
set_option maxHeartbeats 400000 in
theorem C_X11_point {d : Nat} {g : Gs} {h : Hc} {P : Po} {X : Nat} {w : Nat → Int} (hG : ClG g X) (hw : Tw h (X + 5) w) (hf : WF w) (hl : Lw h (X + 53) w) (ho : LawOK w) {x y z : Int} (KE : ¬ ((0 ≤ x ∧ x < w 0) ∧ (0 ≤ y ∧ y < w 1) ∧ 0 ≤ z ∧ z < 12) → P (.inr xIO) g h) (K0 : ∀ j c k : Nat, x = (j : Int) → y = (c : Int) → z = (k : Int) → (j : Int) < w 0 → (c : Int) < w 1 → k < 12 → ∀ h', Off (xsc X) h h' → P (.inl (some (vI (pt0 w j c (k : Int))))) g h') : Call (d + 4) 3 18 mX11_point [vR X, vI x, vI y, vI z] g h P := by
  have hjd := hf.jud
  have hcs := hf.cas
  have hho := hf.hou
  refine Call_of rfl ⟨by decide +kernel, rfl⟩ (Nat.le_of_ble_eq_true rfl) rfl ?_
  refine aL0 dX11_point_0 ?_
  refine iL1 dX11_point_1 ?_
  refine invV1 rfl dX11_point_2 kX11_143 hG.o (Nat.le_of_ble_eq_true rfl) (by decide) (by decide) (C_X11_needJudge hG hw hf (fun hn1 => konVm hG.one ?_) (fun hn1 => konEm hG.one (KE (by omega))))
  obtain ⟨j, rfl⟩ : ∃ j : Nat, x = (j : Int) := ⟨(x).toNat, by omega⟩
  refine aL0 dX11_point_5 ?_
  refine iL2 dX11_point_6 ?_
  refine invV1 rfl dX11_point_7 kX11_185 hG.o (Nat.le_of_ble_eq_true rfl) (by decide) (by decide) (C_X11_needCase hG hw hf (fun hn2 => konVm hG.one ?_) (fun hn2 => konEm hG.one (KE (by omega))))
  obtain ⟨c, rfl⟩ : ∃ c : Nat, y = (c : Int) := ⟨(y).toNat, by omega⟩
  refine aL0 dX11_point_10 ?_
  refine iL3 dX11_point_11 ?_
  refine invV1 rfl dX11_point_12 kX11_224 hG.o (Nat.le_of_ble_eq_true rfl) (by decide) (by decide) (C_X11_needHour hG hw hf (fun hn3 => konVm hG.one ?_) (fun hn3 => konEm hG.one (KE (by omega))))
  obtain ⟨k, rfl⟩ : ∃ k : Nat, z = (k : Int) := ⟨(z).toNat, by omega⟩
  refine aL0 dX11_point_15 ?_
  refine R_getR dX11_point_16 fX11_65.r hG.o rfl ?_
  refine iL1 dX11_point_19 ?_
  refine iL2 dX11_point_20 ?_
  refine iL3 dX11_point_21 ?_
  refine invV3 rfl dX11_point_22 kX11_233 (hG.court hw hf hl ho).ct (Nat.le_of_ble_eq_true rfl) (Nat.zero_le _) (Nat.zero_le _) (C_X1_pointOf (hG.court hw hf hl ho) (by omega) (by omega) (by omega) (fun h9 hx9 => konI ?_))
  exact R_iret dX11_point_25 rfl (K0 j c k rfl rfl rfl (by omega) (by omega) (by omega) _ hx9.scx)
set_option maxHeartbeats 400000 in
theorem C_X11_would {d : Nat} {g : Gs} {h : Hc} {P : Po} {X : Nat} {w : Nat → Int} (hG : ClG g X) (hw : Tw h (X + 5) w) (hf : WF w) (hl : Lw h (X + 53) w) (ho : LawOK w) {x y z : Int} (KE : ¬ ((0 ≤ x ∧ x < w 0) ∧ (0 ≤ y ∧ y < w 1) ∧ 0 ≤ z ∧ z < 12) → P (.inr xIO) g h) (K0 : ∀ j c k : Nat, x = (j : Int) → y = (c : Int) → z = (k : Int) → (j : Int) < w 0 → (c : Int) < w 1 → k < 12 → ∀ h', Off (xsc X) h h' → P (.inl (some (vI (wdW w j c (k : Int))))) g h') : Call (d + 4) 3 18 mX11_would [vR X, vI x, vI y, vI z] g h P := by
  have hjd := hf.jud
  have hcs := hf.cas
  have hho := hf.hou
  refine Call_of rfl ⟨by decide +kernel, rfl⟩ (Nat.le_of_ble_eq_true rfl) rfl ?_
  refine aL0 dX11_would_0 ?_
  refine iL1 dX11_would_1 ?_
  refine invV1 rfl dX11_would_2 kX11_143 hG.o (Nat.le_of_ble_eq_true rfl) (by decide) (by decide) (C_X11_needJudge hG hw hf (fun hn1 => konVm hG.one ?_) (fun hn1 => konEm hG.one (KE (by omega))))
  obtain ⟨j, rfl⟩ : ∃ j : Nat, x = (j : Int) := ⟨(x).toNat, by omega⟩
  refine aL0 dX11_would_5 ?_
  refine iL2 dX11_would_6 ?_
  refine invV1 rfl dX11_would_7 kX11_185 hG.o (Nat.le_of_ble_eq_true rfl) (by decide) (by decide) (C_X11_needCase hG hw hf (fun hn2 => konVm hG.one ?_) (fun hn2 => konEm hG.one (KE (by omega))))
  obtain ⟨c, rfl⟩ : ∃ c : Nat, y = (c : Int) := ⟨(y).toNat, by omega⟩
  refine aL0 dX11_would_10 ?_
  refine iL3 dX11_would_11 ?_
  refine invV1 rfl dX11_would_12 kX11_224 hG.o (Nat.le_of_ble_eq_true rfl) (by decide) (by decide) (C_X11_needHour hG hw hf (fun hn3 => konVm hG.one ?_) (fun hn3 => konEm hG.one (KE (by omega))))
  obtain ⟨k, rfl⟩ : ∃ k : Nat, z = (k : Int) := ⟨(z).toNat, by omega⟩
  refine aL0 dX11_would_15 ?_
  refine R_getR dX11_would_16 fX11_65.r hG.o rfl ?_
  refine iL1 dX11_would_19 ?_
  refine iL2 dX11_would_20 ?_
  refine iL3 dX11_would_21 ?_
  refine invV3 rfl dX11_would_22 kX11_237 (hG.court hw hf hl ho).ct (Nat.le_of_ble_eq_true rfl) (Nat.zero_le _) (Nat.zero_le _) (C_X1_wouldBe (hG.court hw hf hl ho) (by omega) (by omega) (by omega) (fun h9 hx9 => konI ?_))
  exact R_iret dX11_would_25 rfl (K0 j c k rfl rfl rfl (by omega) (by omega) (by omega) _ hx9.scx)
set_option maxHeartbeats 400000 in
theorem C_X11_early {d : Nat} {g : Gs} {h : Hc} {P : Po} {X : Nat} {w : Nat → Int} (hG : ClG g X) (hw : Tw h (X + 5) w) (hf : WF w) (hl : Lw h (X + 53) w) (ho : LawOK w) {x y : Int} (KE : ¬ ((0 ≤ x ∧ x < w 0) ∧ 0 ≤ y ∧ y < w 1) → P (.inr xIO) g h) (K0 : ∀ j c : Nat, x = (j : Int) → y = (c : Int) → (j : Int) < w 0 → (c : Int) < w 1 → ∀ h', Off (xsc X) h h' → P (.inl (some (vI (ff (wdP w j c) (w 4).toNat 12)))) g h') : Call (d + 5) 2 12 mX11_early [vR X, vI x, vI y] g h P := by
  have hjd := hf.jud
  have hcs := hf.cas
  have hho := hf.hou
  refine Call_of rfl ⟨by decide +kernel, rfl⟩ (Nat.le_of_ble_eq_true rfl) rfl ?_
  refine aL0 dX11_early_0 ?_
  refine iL1 dX11_early_1 ?_
  refine invV1 rfl dX11_early_2 kX11_143 hG.o (Nat.le_of_ble_eq_true rfl) (by decide) (by decide) (C_X11_needJudge hG hw hf (fun hn1 => konVm hG.one ?_) (fun hn1 => konEm hG.one (KE (by omega))))
  obtain ⟨j, rfl⟩ : ∃ j : Nat, x = (j : Int) := ⟨(x).toNat, by omega⟩
  refine aL0 dX11_early_5 ?_
  refine iL2 dX11_early_6 ?_
  refine invV1 rfl dX11_early_7 kX11_185 hG.o (Nat.le_of_ble_eq_true rfl) (by decide) (by decide) (C_X11_needCase hG hw hf (fun hn2 => konVm hG.one ?_) (fun hn2 => konEm hG.one (KE (by omega))))
  obtain ⟨c, rfl⟩ : ∃ c : Nat, y = (c : Int) := ⟨(y).toNat, by omega⟩
  refine aL0 dX11_early_10 ?_
  refine R_getR dX11_early_11 fX11_65.r hG.o rfl ?_
  refine iL1 dX11_early_14 ?_
  refine iL2 dX11_early_15 ?_
  refine aL0 dX11_early_16 ?_
  refine R_getR dX11_early_17 fX11_19.r hG.o rfl ?_
  refine R_getI dX11_early_20 fX11_159.r hG.now.o ?_
  refine topV (v := w 4) (hw.s3) ?_
  have hq3 := hf.hou
  refine topV (v := (((w 4).toNat : Nat) : Int)) (by omega) ?_
  refine invV3 rfl dX11_early_23 kX11_260 (hG.court hw hf hl ho).ct (Nat.le_of_ble_eq_true rfl) (Nat.zero_le _) (Nat.zero_le _) (C_X1_firstFreeing (hG.court hw hf hl ho) (by omega) (by omega) (by omega) (fun h9 hx9 => konI ?_))
  exact R_iret dX11_early_26 rfl (K0 j c rfl rfl (by omega) (by omega) _ hx9.scx)
set_option maxHeartbeats 400000 in
theorem C_X11_moved {d : Nat} {g : Gs} {h : Hc} {P : Po} {X : Nat} {w : Nat → Int} (hG : ClG g X) (hw : Tw h (X + 5) w) (hf : WF w) (hl : Lw h (X + 53) w) (ho : LawOK w) {x y : Int} (KE : ¬ ((0 ≤ x ∧ x < w 0) ∧ 0 ≤ y ∧ y < w 1) → P (.inr xIO) g h) (K0 : ∀ j c : Nat, x = (j : Int) → y = (c : Int) → (j : Int) < w 0 → (c : Int) < w 1 → ∀ h', Off (xsc X) h h' → P (.inl (some (vI (ff (movP w j c) 0 100)))) g h') : Call (d + 5) 2 12 mX11_moved [vR X, vI x, vI y] g h P := by
  have hjd := hf.jud
  have hcs := hf.cas
  have hho := hf.hou
  refine Call_of rfl ⟨by decide +kernel, rfl⟩ (Nat.le_of_ble_eq_true rfl) rfl ?_
  refine aL0 dX11_moved_0 ?_
  refine iL1 dX11_moved_1 ?_
  refine invV1 rfl dX11_moved_2 kX11_143 hG.o (Nat.le_of_ble_eq_true rfl) (by decide) (by decide) (C_X11_needJudge hG hw hf (fun hn1 => konVm hG.one ?_) (fun hn1 => konEm hG.one (KE (by omega))))
  obtain ⟨j, rfl⟩ : ∃ j : Nat, x = (j : Int) := ⟨(x).toNat, by omega⟩
  refine aL0 dX11_moved_5 ?_
  refine iL2 dX11_moved_6 ?_
  refine invV1 rfl dX11_moved_7 kX11_185 hG.o (Nat.le_of_ble_eq_true rfl) (by decide) (by decide) (C_X11_needCase hG hw hf (fun hn2 => konVm hG.one ?_) (fun hn2 => konEm hG.one (KE (by omega))))
  obtain ⟨c, rfl⟩ : ∃ c : Nat, y = (c : Int) := ⟨(y).toNat, by omega⟩
  refine aL0 dX11_moved_10 ?_
  refine R_getR dX11_moved_11 fX11_65.r hG.o rfl ?_
  refine iL1 dX11_moved_14 ?_
  refine iL2 dX11_moved_15 ?_
  refine invV2 rfl dX11_moved_16 kX11_314 (hG.court hw hf hl ho).ct (Nat.le_of_ble_eq_true rfl) (Nat.zero_le _) (Nat.zero_le _) (C_X1_movingHunger (hG.court hw hf hl ho) (by omega) (by omega) (fun h9 hx9 => konI ?_))
  exact R_iret dX11_moved_19 rfl (K0 j c rfl rfl (by omega) (by omega) _ hx9.scx)
set_option maxHeartbeats 400000 in
theorem C_X11_even {d : Nat} {g : Gs} {h : Hc} {P : Po} {X : Nat} {w : Nat → Int} (hG : ClG g X) (hw : Tw h (X + 5) w) (hf : WF w) (hl : Lw h (X + 53) w) (ho : LawOK w) {x y : Int} (KE : ¬ ((0 ≤ x ∧ x < w 0) ∧ 0 ≤ y ∧ y < w 1) → P (.inr xIO) g h) (K0 : ∀ j c : Nat, x = (j : Int) → y = (c : Int) → (j : Int) < w 0 → (c : Int) < w 1 → ∀ h', Off (xsc X) h h' → P (.inl (some (vI (ff (evnP w j c) 0 100)))) g h') : Call (d + 5) 2 12 mX11_even [vR X, vI x, vI y] g h P := by
  have hjd := hf.jud
  have hcs := hf.cas
  have hho := hf.hou
  refine Call_of rfl ⟨by decide +kernel, rfl⟩ (Nat.le_of_ble_eq_true rfl) rfl ?_
  refine aL0 dX11_even_0 ?_
  refine iL1 dX11_even_1 ?_
  refine invV1 rfl dX11_even_2 kX11_143 hG.o (Nat.le_of_ble_eq_true rfl) (by decide) (by decide) (C_X11_needJudge hG hw hf (fun hn1 => konVm hG.one ?_) (fun hn1 => konEm hG.one (KE (by omega))))
  obtain ⟨j, rfl⟩ : ∃ j : Nat, x = (j : Int) := ⟨(x).toNat, by omega⟩
  refine aL0 dX11_even_5 ?_
  refine iL2 dX11_even_6 ?_
  refine invV1 rfl dX11_even_7 kX11_185 hG.o (Nat.le_of_ble_eq_true rfl) (by decide) (by decide) (C_X11_needCase hG hw hf (fun hn2 => konVm hG.one ?_) (fun hn2 => konEm hG.one (KE (by omega))))
  obtain ⟨c, rfl⟩ : ∃ c : Nat, y = (c : Int) := ⟨(y).toNat, by omega⟩
  refine aL0 dX11_even_10 ?_
  refine R_getR dX11_even_11 fX11_65.r hG.o rfl ?_
  refine iL1 dX11_even_14 ?_
  refine iL2 dX11_even_15 ?_
  refine invV2 rfl dX11_even_16 kX11_317 (hG.court hw hf hl ho).ct (Nat.le_of_ble_eq_true rfl) (Nat.zero_le _) (Nat.zero_le _) (C_X1_hangingGrave (hG.court hw hf hl ho) (by omega) (by omega) (fun h9 hx9 => konI ?_))
  exact R_iret dX11_even_19 rfl (K0 j c rfl rfl (by omega) (by omega) _ hx9.scx)
set_option maxHeartbeats 400000 in
theorem C_X11_crumbles {d : Nat} {g : Gs} {h : Hc} {P : Po} {X : Nat} {w : Nat → Int} (hG : ClG g X) (hw : Tw h (X + 5) w) (hf : WF w) (hl : Lw h (X + 53) w) (ho : LawOK w) {x : Int} (KE : ¬ (0 ≤ x ∧ x < w 0) → P (.inr xIO) g h) (K0 : ∀ j : Nat, x = (j : Int) → (j : Int) < w 0 → P (.inl (some (vI (crum w (j : Int))))) g h) : Call (d + 3) 1 6 mX11_crumbles [vR X, vI x] g h P := by
  have hjd := hf.jud
  have hcs := hf.cas
  have hho := hf.hou
  refine Call_of rfl ⟨by decide +kernel, rfl⟩ (Nat.le_of_ble_eq_true rfl) rfl ?_
  refine aL0 dX11_crumbles_0 ?_
  refine iL1 dX11_crumbles_1 ?_
  refine invV1 rfl dX11_crumbles_2 kX11_143 hG.o (Nat.le_of_ble_eq_true rfl) (by decide) (by decide) (C_X11_needJudge hG hw hf (fun hn1 => konVm hG.one ?_) (fun hn1 => konEm hG.one (KE (by omega))))
  obtain ⟨j, rfl⟩ : ∃ j : Nat, x = (j : Int) := ⟨(x).toNat, by omega⟩
  refine aL0 dX11_crumbles_5 ?_
  refine R_getR dX11_crumbles_6 fX11_19.r hG.o rfl ?_
  refine iL1 dX11_crumbles_9 ?_
  refine invV1 rfl dX11_crumbles_10 kX11_282 hG.now.o (Nat.le_of_ble_eq_true rfl) (Nat.zero_le _) (Nat.zero_le _) (C_X10_crumbling hG.now hw hf (konI ?_))
  exact R_iret dX11_crumbles_13 rfl (K0 j rfl (by omega))
set_option maxHeartbeats 400000 in
theorem C_X11_rests {d : Nat} {g : Gs} {h : Hc} {P : Po} {X : Nat} {w : Nat → Int} (hG : ClG g X) (hw : Tw h (X + 5) w) (hf : WF w) (hl : Lw h (X + 53) w) (ho : LawOK w) {x : Int} (KE : ¬ (0 ≤ x ∧ x < w 0) → P (.inr xIO) g h) (K0 : ∀ j : Nat, x = (j : Int) → (j : Int) < w 0 → P (.inl (some (vI (bset (resP w j) 4)))) g h) : Call (d + 2) 1 6 mX11_rests [vR X, vI x] g h P := by
  have hjd := hf.jud
  have hcs := hf.cas
  have hho := hf.hou
  refine Call_of rfl ⟨by decide +kernel, rfl⟩ (Nat.le_of_ble_eq_true rfl) rfl ?_
  refine aL0 dX11_rests_0 ?_
  refine iL1 dX11_rests_1 ?_
  refine invV1 rfl dX11_rests_2 kX11_143 hG.o (Nat.le_of_ble_eq_true rfl) (by decide) (by decide) (C_X11_needJudge hG hw hf (fun hn1 => konVm hG.one ?_) (fun hn1 => konEm hG.one (KE (by omega))))
  obtain ⟨j, rfl⟩ : ∃ j : Nat, x = (j : Int) := ⟨(x).toNat, by omega⟩
  refine aL0 dX11_rests_5 ?_
  refine R_getR dX11_rests_6 fX11_84.r hG.o rfl ?_
  refine iL1 dX11_rests_9 ?_
  refine invV1 rfl dX11_rests_10 kX11_338 (hG.matches hw hf hl ho).o (Nat.le_of_ble_eq_true rfl) (Nat.zero_le _) (Nat.zero_le _) (C_X5_restingChoices (hG.matches hw hf hl ho) (by omega) (konI ?_))
  exact R_iret dX11_rests_13 rfl (K0 j rfl (by omega))
set_option maxHeartbeats 400000 in
theorem C_X11_worth {d : Nat} {g : Gs} {h : Hc} {P : Po} {X : Nat} {w : Nat → Int} (hG : ClG g X) (hw : Tw h (X + 5) w) (hf : WF w) (hl : Lw h (X + 53) w) (ho : LawOK w) (K0 : ∀ h', Off (xsc X) h h' → P (.inl (some (vI (aplF w (w 1).toNat).1))) g h') : Call (d + 6) 0 0 mX11_worth [vR X] g h P := by
  have hjd := hf.jud
  have hcs := hf.cas
  have hho := hf.hou
  refine Call_of rfl ⟨by decide +kernel, rfl⟩ (Nat.le_of_ble_eq_true rfl) rfl ?_
  refine aL0 dX11_worth_0 ?_
  refine R_getR dX11_worth_1 fX11_65.r hG.o rfl ?_
  refine invV0 rfl dX11_worth_4 kX11_326 (hG.court hw hf hl ho).ct (Nat.le_of_ble_eq_true rfl) (Nat.zero_le _) (Nat.zero_le _) (C_X1_bestAppeal (hG.court hw hf hl ho) (fun h9 hx9 => konI ?_))
  exact R_iret dX11_worth_7 rfl (K0 _ hx9.scx)
