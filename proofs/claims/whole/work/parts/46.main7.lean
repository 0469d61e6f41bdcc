def actS (X : Nat) : Nat → Prop := fun q => (X + 5 ≤ q ∧ q < X + 21) ∨ (X + 87 ≤ q ∧ q < X + 281) ∨ xsc X q ∨ q = X + 76
set_option maxHeartbeats 400000 in
theorem C_X11_feeds {d : Nat} {g : Gs} {h : Hc} {P : Po} {X : Nat} {w : Nat → Int} (hG : ClG g X) (hw : Tw h (X + 5) w) (hf : WF w) (hl : Lw h (X + 53) w) (ho : LawOK w) {n : Nat} {A : Nat → Nat → Int} (hP : Pa h (X + 87) A n) {x : Int} (KE : ¬ (0 ≤ x ∧ x < w 0) → P (.inr xIO) g h) (K0 : ∀ j : Nat, x = (j : Int) → (j : Int) < w 0 → ∀ h', Off (actS X) h h' → Tw h' (X + 5) (updW w (80 + 4 * j) 0) → Pa h' (X + 87) (remA A n w) (rmbN n) → P (.inl (some (vI (w (80 + 4 * j))))) g h') : Call (d + 3) 1 6 mX11_feeds [vR X, vI x] g h P := by
  have hjd := hf.jud
  have hcs := hf.cas
  have hho := hf.hou
  refine Call_of rfl ⟨by decide +kernel, rfl⟩ (Nat.le_of_ble_eq_true rfl) rfl ?_
  refine aL0 dX11_feeds_0 ?_
  refine iL1 dX11_feeds_1 ?_
  refine invV1 rfl dX11_feeds_2 kX11_143 hG.o (Nat.le_of_ble_eq_true rfl) (by decide) (by decide) (C_X11_needJudge hG hw hf (fun hn1 => konVm hG.one ?_) (fun hn1 => konEm hG.one (KE (by omega))))
  obtain ⟨j, rfl⟩ : ∃ j : Nat, x = (j : Int) := ⟨(x).toNat, by omega⟩
  refine aL0 dX11_feeds_5 ?_
  refine R_getR dX11_feeds_6 fX11_91.r hG.o rfl ?_
  refine aL0 dX11_feeds_9 ?_
  refine R_getR dX11_feeds_10 fX11_19.r hG.o rfl ?_
  refine invV1 rfl dX11_feeds_13 kX11_244 hG.past.1 (Nat.le_of_ble_eq_true rfl) (Nat.zero_le _) (Nat.zero_le _) (C_X6_remember hG.past hP hG.now (fun i hi => by unfold pas; omega) hw hf (fun h1 hx1 hP1 => konV ?_))
  have hw1 : Tw h1 (X + 5) w := hw.off hx1 (fun i hi => by unfold pas; omega)
  have hO1 : Off (actS X) h h1 := hx1.mono (fun q hq => Or.inr (Or.inl (by unfold pas at hq; omega)))
  refine aL0 dX11_feeds_16 ?_
  refine R_getR dX11_feeds_17 fX11_19.r hG.o rfl ?_
  refine R_getR dX11_feeds_20 fX11_146 hG.now.o rfl ?_
  refine iL1 dX11_feeds_23 ?_
  refine ialdN dX11_feeds_24 hG.now.a1 rfl (by omega) ?_
  refine topV (v := w (80 + 4 * j)) (hw1.a1 (by omega)) ?_
  have hq2 := hf.hu (j := j) (by omega)
  refine iS2 dX11_feeds_25 ?_
  refine aL0 dX11_feeds_26 ?_
  refine R_getR dX11_feeds_27 fX11_19.r hG.o rfl ?_
  refine R_getR dX11_feeds_30 fX11_146 hG.now.o rfl ?_
  refine iL1 dX11_feeds_33 ?_
  refine R_iconst_0 dX11_feeds_34 ?_
  refine iastN dX11_feeds_35 hG.now.a1 rfl (by omega) ?_
  refine storH (fun h23 e23 => ?_)
  have hw23 : Tw h23 (X + 5) (updW w (80 + 4 * j) 0) := by rw [e23]; exact hw1.uhu (by omega)
  have hO23 : Off (actS X) h h23 := by rw [e23]; exact hO1.upd (Or.inl (by omega))
  have hP23 : Pa h23 (X + 87) (remA A n w) (rmbN n) := by rw [e23]; exact hP1.off ((Off.rf (fun q => q = X + 5 + 1) _).upd rfl) (fun a ha => by unfold pas; omega)
  refine iL2 dX11_feeds_36 ?_
  exact R_iret dX11_feeds_37 rfl (K0 j rfl (by omega) _ hO23 hw23 hP23)
set_option maxHeartbeats 400000 in
theorem C_X11_inn {d : Nat} {g : Gs} {h : Hc} {P : Po} {X : Nat} {w : Nat → Int} (hG : ClG g X) (hw : Tw h (X + 5) w) (hf : WF w) (hl : Lw h (X + 53) w) (ho : LawOK w) {n : Nat} {A : Nat → Nat → Int} (hP : Pa h (X + 87) A n) {x y : Int} (KE1 : ¬ (0 ≤ x ∧ x < 12) → P (.inr xIO) g h) (KE2 : 0 ≤ x ∧ x < 12 → ¬ (0 ≤ y ∧ y ≤ 100) → P (.inr xIA) g h) (K0 : ∀ k : Nat, x = (k : Int) → k < 12 → 0 ≤ y ∧ y ≤ 100 → ∀ h', Off (actS X) h h' → Tw h' (X + 5) (updW w (8 + k) y) → Pa h' (X + 87) (remA A n w) (rmbN n) → P (.inl (some (vI (w (8 + k))))) g h') : Call (d + 3) 2 12 mX11_inn [vR X, vI x, vI y] g h P := by
  have hjd := hf.jud
  have hcs := hf.cas
  have hho := hf.hou
  refine Call_of rfl ⟨by decide +kernel, rfl⟩ (Nat.le_of_ble_eq_true rfl) rfl ?_
  refine aL0 dX11_inn_0 ?_
  refine iL1 dX11_inn_1 ?_
  refine invV1 rfl dX11_inn_2 kX11_224 hG.o (Nat.le_of_ble_eq_true rfl) (by decide) (by decide) (C_X11_needHour hG hw hf (fun hn1 => konVm hG.one ?_) (fun hn1 => konEm hG.one (KE1 (by omega))))
  obtain ⟨k, rfl⟩ : ∃ k : Nat, x = (k : Int) := ⟨(x).toNat, by omega⟩
  refine aL0 dX11_inn_5 ?_
  refine iL2 dX11_inn_6 ?_
  refine R_iconst_0 dX11_inn_7 ?_
  refine R_bipush dX11_inn_8 (by decide) ?_
  refine invV3 rfl dX11_inn_10 kX11_240 hG.o (Nat.le_of_ble_eq_true rfl) (by decide) (by decide) (C_X11_needNumber hG hw hf (fun hn2 => konVm hG.one ?_) (fun hn2 => konEm hG.one (KE2 (by omega) (by omega))))
  refine aL0 dX11_inn_13 ?_
  refine R_getR dX11_inn_14 fX11_91.r hG.o rfl ?_
  refine aL0 dX11_inn_17 ?_
  refine R_getR dX11_inn_18 fX11_19.r hG.o rfl ?_
  refine invV1 rfl dX11_inn_21 kX11_244 hG.past.1 (Nat.le_of_ble_eq_true rfl) (Nat.zero_le _) (Nat.zero_le _) (C_X6_remember hG.past hP hG.now (fun i hi => by unfold pas; omega) hw hf (fun h1 hx1 hP1 => konV ?_))
  have hw1 : Tw h1 (X + 5) w := hw.off hx1 (fun i hi => by unfold pas; omega)
  have hO1 : Off (actS X) h h1 := hx1.mono (fun q hq => Or.inr (Or.inl (by unfold pas at hq; omega)))
  refine aL0 dX11_inn_24 ?_
  refine R_getR dX11_inn_25 fX11_19.r hG.o rfl ?_
  refine R_getR dX11_inn_28 fX11_230 hG.now.o rfl ?_
  refine iL1 dX11_inn_31 ?_
  refine ialdN dX11_inn_32 hG.now.a13 rfl (by omega) ?_
  refine topV (v := w (8 + k)) (hw1.a13 (by omega)) ?_
  have hq2 := hf.inn k (by omega)
  refine iS3 dX11_inn_33 ?_
  refine aL0 dX11_inn_34 ?_
  refine R_getR dX11_inn_35 fX11_19.r hG.o rfl ?_
  refine R_getR dX11_inn_38 fX11_230 hG.now.o rfl ?_
  refine iL1 dX11_inn_41 ?_
  refine iL2 dX11_inn_42 ?_
  refine iastN dX11_inn_43 hG.now.a13 rfl (by omega) ?_
  refine storH (fun h23 e23 => ?_)
  have hw23 : Tw h23 (X + 5) (updW w (8 + k) y) := by rw [e23]; exact hw1.uin (by omega)
  have hO23 : Off (actS X) h h23 := by rw [e23]; exact hO1.upd (Or.inl (by omega))
  have hP23 : Pa h23 (X + 87) (remA A n w) (rmbN n) := by rw [e23]; exact hP1.off ((Off.rf (fun q => q = X + 5 + 13) _).upd rfl) (fun a ha => by unfold pas; omega)
  refine iL3 dX11_inn_44 ?_
  exact R_iret dX11_inn_45 rfl (K0 k rfl (by omega) (by omega) _ hO23 hw23 hP23)
set_option maxHeartbeats 400000 in
theorem C_X11_grave {d : Nat} {g : Gs} {h : Hc} {P : Po} {X : Nat} {w : Nat → Int} (hG : ClG g X) (hw : Tw h (X + 5) w) (hf : WF w) (hl : Lw h (X + 53) w) (ho : LawOK w) {n : Nat} {A : Nat → Nat → Int} (hP : Pa h (X + 87) A n) {x y : Int} (KE1 : ¬ (0 ≤ x ∧ x < w 1) → P (.inr xIO) g h) (KE2 : 0 ≤ x ∧ x < w 1 → ¬ (0 ≤ y ∧ y ≤ 99) → P (.inr xIA) g h) (K0 : ∀ c : Nat, x = (c : Int) → (c : Int) < w 1 → 0 ≤ y ∧ y ≤ 99 → ∀ h', Off (actS X) h h' → Tw h' (X + 5) (updW w (101 + 7 * c) y) → Pa h' (X + 87) (remA A n w) (rmbN n) → P (.inl (some (vI (w (101 + 7 * c))))) g h') : Call (d + 3) 2 12 mX11_grave [vR X, vI x, vI y] g h P := by
  have hjd := hf.jud
  have hcs := hf.cas
  have hho := hf.hou
  refine Call_of rfl ⟨by decide +kernel, rfl⟩ (Nat.le_of_ble_eq_true rfl) rfl ?_
  refine aL0 dX11_grave_0 ?_
  refine iL1 dX11_grave_1 ?_
  refine invV1 rfl dX11_grave_2 kX11_185 hG.o (Nat.le_of_ble_eq_true rfl) (by decide) (by decide) (C_X11_needCase hG hw hf (fun hn1 => konVm hG.one ?_) (fun hn1 => konEm hG.one (KE1 (by omega))))
  obtain ⟨c, rfl⟩ : ∃ c : Nat, x = (c : Int) := ⟨(x).toNat, by omega⟩
  refine aL0 dX11_grave_5 ?_
  refine iL2 dX11_grave_6 ?_
  refine R_iconst_0 dX11_grave_7 ?_
  refine R_bipush dX11_grave_8 (by decide) ?_
  refine invV3 rfl dX11_grave_10 kX11_240 hG.o (Nat.le_of_ble_eq_true rfl) (by decide) (by decide) (C_X11_needNumber hG hw hf (fun hn2 => konVm hG.one ?_) (fun hn2 => konEm hG.one (KE2 (by omega) (by omega))))
  refine aL0 dX11_grave_13 ?_
  refine R_getR dX11_grave_14 fX11_91.r hG.o rfl ?_
  refine aL0 dX11_grave_17 ?_
  refine R_getR dX11_grave_18 fX11_19.r hG.o rfl ?_
  refine invV1 rfl dX11_grave_21 kX11_244 hG.past.1 (Nat.le_of_ble_eq_true rfl) (Nat.zero_le _) (Nat.zero_le _) (C_X6_remember hG.past hP hG.now (fun i hi => by unfold pas; omega) hw hf (fun h1 hx1 hP1 => konV ?_))
  have hw1 : Tw h1 (X + 5) w := hw.off hx1 (fun i hi => by unfold pas; omega)
  have hO1 : Off (actS X) h h1 := hx1.mono (fun q hq => Or.inr (Or.inl (by unfold pas at hq; omega)))
  refine aL0 dX11_grave_24 ?_
  refine R_getR dX11_grave_25 fX11_19.r hG.o rfl ?_
  refine R_getR dX11_grave_28 fX11_194 hG.now.o rfl ?_
  refine iL1 dX11_grave_31 ?_
  refine ialdN dX11_grave_32 hG.now.a6 rfl (by omega) ?_
  refine topV (v := w (101 + 7 * c)) (hw1.a6 (by omega)) ?_
  have hq2 := hf.gr (c := c) (by omega)
  refine iS3 dX11_grave_33 ?_
  refine aL0 dX11_grave_34 ?_
  refine R_getR dX11_grave_35 fX11_19.r hG.o rfl ?_
  refine R_getR dX11_grave_38 fX11_194 hG.now.o rfl ?_
  refine iL1 dX11_grave_41 ?_
  refine iL2 dX11_grave_42 ?_
  refine iastN dX11_grave_43 hG.now.a6 rfl (by omega) ?_
  refine storH (fun h23 e23 => ?_)
  have hw23 : Tw h23 (X + 5) (updW w (101 + 7 * c) y) := by rw [e23]; exact hw1.ugr (by omega)
  have hO23 : Off (actS X) h h23 := by rw [e23]; exact hO1.upd (Or.inl (by omega))
  have hP23 : Pa h23 (X + 87) (remA A n w) (rmbN n) := by rw [e23]; exact hP1.off ((Off.rf (fun q => q = X + 5 + 6) _).upd rfl) (fun a ha => by unfold pas; omega)
  refine iL3 dX11_grave_44 ?_
  exact R_iret dX11_grave_45 rfl (K0 c rfl (by omega) (by omega) _ hO23 hw23 hP23)
set_option maxHeartbeats 400000 in
theorem C_X11_fast {d : Nat} {g : Gs} {h : Hc} {P : Po} {X : Nat} {w : Nat → Int} (hG : ClG g X) (hw : Tw h (X + 5) w) (hf : WF w) (hl : Lw h (X + 53) w) (ho : LawOK w) {n : Nat} {A : Nat → Nat → Int} (hP : Pa h (X + 87) A n) {x y : Int} (KE1 : ¬ (0 ≤ x ∧ x < w 0) → P (.inr xIO) g h) (KE2 : 0 ≤ x ∧ x < w 0 → ¬ (0 ≤ y ∧ y ≤ 99) → P (.inr xIA) g h) (KE3 : ∀ j : Nat, x = (j : Int) → (j : Int) < w 0 → 0 ≤ y ∧ y ≤ 99 → y < w (80 + 4 * j) → P (.inr xIS) g h) (K0 : ∀ j : Nat, x = (j : Int) → (j : Int) < w 0 → 0 ≤ y ∧ y ≤ 99 → w (80 + 4 * j) ≤ y → ∀ h', Off (actS X) h h' → Tw h' (X + 5) (updW w (80 + 4 * j) y) → Pa h' (X + 87) (remA A n w) (rmbN n) → P (.inl (some (vI (w (80 + 4 * j))))) g h') : Call (d + 3) 3 18 mX11_fast [vR X, vI x, vI y] g h P := by
  have hjd := hf.jud
  have hcs := hf.cas
  have hho := hf.hou
  refine Call_of rfl ⟨by decide +kernel, rfl⟩ (Nat.le_of_ble_eq_true rfl) rfl ?_
  refine aL0 dX11_fast_0 ?_
  refine iL1 dX11_fast_1 ?_
  refine invV1 rfl dX11_fast_2 kX11_143 hG.o (Nat.le_of_ble_eq_true rfl) (by decide) (by decide) (C_X11_needJudge hG hw hf (fun hn1 => konVm hG.one ?_) (fun hn1 => konEm hG.one (KE1 (by omega))))
  obtain ⟨j, rfl⟩ : ∃ j : Nat, x = (j : Int) := ⟨(x).toNat, by omega⟩
  refine aL0 dX11_fast_5 ?_
  refine iL2 dX11_fast_6 ?_
  refine R_iconst_0 dX11_fast_7 ?_
  refine R_bipush dX11_fast_8 (by decide) ?_
  refine invV3 rfl dX11_fast_10 kX11_240 hG.o (Nat.le_of_ble_eq_true rfl) (by decide) (by decide) (C_X11_needNumber hG hw hf (fun hn2 => konVm hG.one ?_) (fun hn2 => konEm hG.one (KE2 (by omega) (by omega))))
  refine aL0 dX11_fast_13 ?_
  refine R_getR dX11_fast_14 fX11_19.r hG.o rfl ?_
  refine R_getR dX11_fast_17 fX11_146 hG.now.o rfl ?_
  refine iL1 dX11_fast_20 ?_
  refine ialdN dX11_fast_21 hG.now.a1 rfl (by omega) ?_
  refine topV (v := w (80 + 4 * j)) (hw.a1 (by omega)) ?_
  have hq2 := hf.hu (j := j) (by omega)
  refine iS3 dX11_fast_22 ?_
  refine iL3 dX11_fast_23 ?_
  refine iL2 dX11_fast_24 ?_
  refine R_icmp_le dX11_fast_25 (fun hb25 => ?_) (fun hb25 => ?_)
  · refine aL0 dX11_fast_36 ?_
    refine R_getR dX11_fast_37 fX11_91.r hG.o rfl ?_
    refine aL0 dX11_fast_40 ?_
    refine R_getR dX11_fast_41 fX11_19.r hG.o rfl ?_
    refine invV1 rfl dX11_fast_44 kX11_244 hG.past.1 (Nat.le_of_ble_eq_true rfl) (Nat.zero_le _) (Nat.zero_le _) (C_X6_remember hG.past hP hG.now (fun i hi => by unfold pas; omega) hw hf (fun h1 hx1 hP1 => konV ?_))
    have hw1 : Tw h1 (X + 5) w := hw.off hx1 (fun i hi => by unfold pas; omega)
    have hO1 : Off (actS X) h h1 := hx1.mono (fun q hq => Or.inr (Or.inl (by unfold pas at hq; omega)))
    refine aL0 dX11_fast_47 ?_
    refine R_getR dX11_fast_48 fX11_19.r hG.o rfl ?_
    refine R_getR dX11_fast_51 fX11_146 hG.now.o rfl ?_
    refine iL1 dX11_fast_54 ?_
    refine iL2 dX11_fast_55 ?_
    refine iastN dX11_fast_56 hG.now.a1 rfl (by omega) ?_
    refine storH (fun h23 e23 => ?_)
    have hw23 : Tw h23 (X + 5) (updW w (80 + 4 * j) y) := by rw [e23]; exact hw1.uhu (by omega)
    have hO23 : Off (actS X) h h23 := by rw [e23]; exact hO1.upd (Or.inl (by omega))
    have hP23 : Pa h23 (X + 87) (remA A n w) (rmbN n) := by rw [e23]; exact hP1.off ((Off.rf (fun q => q = X + 5 + 1) _).upd rfl) (fun a ha => by unfold pas; omega)
    refine iL3 dX11_fast_57 ?_
    exact R_iret dX11_fast_58 rfl (K0 j rfl (by omega) (by omega) (by omega) _ hO23 hw23 hP23)
  · exact R_throw rfl dX11_fast_28 dX11_fast_31 dX11_fast_32 dX11_fast_35 tX11_251 hG.one (Nat.le_of_ble_eq_true rfl) (by decide) (by decide) (KE3 j rfl (by omega) (by omega) (by omega))
set_option maxHeartbeats 400000 in
theorem C_X11_appeal {d : Nat} {g : Gs} {h : Hc} {P : Po} {X : Nat} {w : Nat → Int} (hG : ClG g X) (hw : Tw h (X + 5) w) (hf : WF w) (hl : Lw h (X + 53) w) (ho : LawOK w) {n : Nat} {A : Nat → Nat → Int} (hP : Pa h (X + 87) A n) {x : Int} (KE1 : ¬ (0 ≤ x ∧ x < w 1) → P (.inr xIO) g h) (KE2 : ∀ c : Nat, x = (c : Int) → (c : Int) < w 1 → ¬ (w (104 + 7 * c) = 2 ∨ w (104 + 7 * c) = 3) → P (.inr xIS) g h) (K0 : ∀ c : Nat, x = (c : Int) → (c : Int) < w 1 → (w (104 + 7 * c) = 2 ∨ w (104 + 7 * c) = 3) → ∀ h', Off (actS X) h h' → Tw h' (X + 5) (updW (updW (updW w (104 + 7 * c) 0) (105 + 7 * c) (-1)) (106 + 7 * c) (-1)) → Pa h' (X + 87) (remA A n w) (rmbN n) → P (.inl (some (vI (w (104 + 7 * c))))) g h') : Call (d + 3) 2 12 mX11_appeal [vR X, vI x] g h P := by
  have hjd := hf.jud
  have hcs := hf.cas
  have hho := hf.hou
  refine Call_of rfl ⟨by decide +kernel, rfl⟩ (Nat.le_of_ble_eq_true rfl) rfl ?_
  refine aL0 dX11_appeal_0 ?_
  refine iL1 dX11_appeal_1 ?_
  refine invV1 rfl dX11_appeal_2 kX11_185 hG.o (Nat.le_of_ble_eq_true rfl) (by decide) (by decide) (C_X11_needCase hG hw hf (fun hn1 => konVm hG.one ?_) (fun hn1 => konEm hG.one (KE1 (by omega))))
  obtain ⟨c, rfl⟩ : ∃ c : Nat, x = (c : Int) := ⟨(x).toNat, by omega⟩
  refine aL0 dX11_appeal_5 ?_
  refine R_getR dX11_appeal_6 fX11_19.r hG.o rfl ?_
  refine R_getR dX11_appeal_9 fX11_203 hG.now.o rfl ?_
  refine iL1 dX11_appeal_12 ?_
  refine ialdN dX11_appeal_13 hG.now.a9 rfl (by omega) ?_
  refine topV (v := w (104 + 7 * c)) (hw.a9 (by omega)) ?_
  have hq2 := hf.st (c := c) (by omega)
  refine iS2 dX11_appeal_14 ?_
  refine iL2 dX11_appeal_15 ?_
  refine R_iconst_2 dX11_appeal_16 ?_
  refine R_icmp_eq dX11_appeal_17 (fun hb17 => ?_) (fun hb17 => ?_)
  · refine aL0 dX11_appeal_33 ?_
    refine R_getR dX11_appeal_34 fX11_91.r hG.o rfl ?_
    refine aL0 dX11_appeal_37 ?_
    refine R_getR dX11_appeal_38 fX11_19.r hG.o rfl ?_
    refine invV1 rfl dX11_appeal_41 kX11_244 hG.past.1 (Nat.le_of_ble_eq_true rfl) (Nat.zero_le _) (Nat.zero_le _) (C_X6_remember hG.past hP hG.now (fun i hi => by unfold pas; omega) hw hf (fun h1 hx1 hP1 => konV ?_))
    have hw1 : Tw h1 (X + 5) w := hw.off hx1 (fun i hi => by unfold pas; omega)
    have hO1 : Off (actS X) h h1 := hx1.mono (fun q hq => Or.inr (Or.inl (by unfold pas at hq; omega)))
    refine aL0 dX11_appeal_44 ?_
    refine R_getR dX11_appeal_45 fX11_19.r hG.o rfl ?_
    refine R_getR dX11_appeal_48 fX11_203 hG.now.o rfl ?_
    refine iL1 dX11_appeal_51 ?_
    refine R_iconst_0 dX11_appeal_52 ?_
    refine iastN dX11_appeal_53 hG.now.a9 rfl (by omega) ?_
    refine storH (fun h23 e23 => ?_)
    have hw23 : Tw h23 (X + 5) (updW w (104 + 7 * c) 0) := by rw [e23]; exact hw1.ust (by omega)
    have hO23 : Off (actS X) h h23 := by rw [e23]; exact hO1.upd (Or.inl (by omega))
    have hP23 : Pa h23 (X + 87) (remA A n w) (rmbN n) := by rw [e23]; exact hP1.off ((Off.rf (fun q => q = X + 5 + 9) _).upd rfl) (fun a ha => by unfold pas; omega)
    refine aL0 dX11_appeal_54 ?_
    refine R_getR dX11_appeal_55 fX11_19.r hG.o rfl ?_
    refine R_getR dX11_appeal_58 fX11_206 hG.now.o rfl ?_
    refine iL1 dX11_appeal_61 ?_
    refine R_iconst_m1 dX11_appeal_62 ?_
    refine iastN dX11_appeal_63 hG.now.a10 rfl (by omega) ?_
    refine storH (fun h24 e24 => ?_)
    have hw24 : Tw h24 (X + 5) (updW (updW w (104 + 7 * c) 0) (105 + 7 * c) (-1)) := by rw [e24]; exact hw23.uby (by rw [updW_n (by omega)]; omega) (by omega)
    have hO24 : Off (actS X) h h24 := by rw [e24]; exact hO23.upd (Or.inl (by omega))
    have hP24 : Pa h24 (X + 87) (remA A n w) (rmbN n) := by rw [e24]; exact hP23.off ((Off.rf (fun q => q = X + 5 + 10) _).upd rfl) (fun a ha => by unfold pas; omega)
    refine aL0 dX11_appeal_64 ?_
    refine R_getR dX11_appeal_65 fX11_19.r hG.o rfl ?_
    refine R_getR dX11_appeal_68 fX11_209 hG.now.o rfl ?_
    refine iL1 dX11_appeal_71 ?_
    refine R_iconst_m1 dX11_appeal_72 ?_
    refine iastN dX11_appeal_73 hG.now.a11 rfl (by omega) ?_
    refine storH (fun h25 e25 => ?_)
    have hw25 : Tw h25 (X + 5) (updW (updW (updW w (104 + 7 * c) 0) (105 + 7 * c) (-1)) (106 + 7 * c) (-1)) := by rw [e25]; exact hw24.udy (by rw [updW_n (by omega), updW_n (by omega)]; omega) (by omega)
    have hO25 : Off (actS X) h h25 := by rw [e25]; exact hO24.upd (Or.inl (by omega))
    have hP25 : Pa h25 (X + 87) (remA A n w) (rmbN n) := by rw [e25]; exact hP24.off ((Off.rf (fun q => q = X + 5 + 11) _).upd rfl) (fun a ha => by unfold pas; omega)
    refine iL2 dX11_appeal_74 ?_
    exact R_iret dX11_appeal_75 rfl (K0 c rfl (by omega) (by omega) _ hO25 hw25 hP25)
  · refine iL2 dX11_appeal_20 ?_
    refine R_iconst_3 dX11_appeal_21 ?_
    refine R_icmp_eq dX11_appeal_22 (fun hb22 => ?_) (fun hb22 => ?_)
    · refine aL0 dX11_appeal_33 ?_
      refine R_getR dX11_appeal_34 fX11_91.r hG.o rfl ?_
      refine aL0 dX11_appeal_37 ?_
      refine R_getR dX11_appeal_38 fX11_19.r hG.o rfl ?_
      refine invV1 rfl dX11_appeal_41 kX11_244 hG.past.1 (Nat.le_of_ble_eq_true rfl) (Nat.zero_le _) (Nat.zero_le _) (C_X6_remember hG.past hP hG.now (fun i hi => by unfold pas; omega) hw hf (fun h1 hx1 hP1 => konV ?_))
      have hw1 : Tw h1 (X + 5) w := hw.off hx1 (fun i hi => by unfold pas; omega)
      have hO1 : Off (actS X) h h1 := hx1.mono (fun q hq => Or.inr (Or.inl (by unfold pas at hq; omega)))
      refine aL0 dX11_appeal_44 ?_
      refine R_getR dX11_appeal_45 fX11_19.r hG.o rfl ?_
      refine R_getR dX11_appeal_48 fX11_203 hG.now.o rfl ?_
      refine iL1 dX11_appeal_51 ?_
      refine R_iconst_0 dX11_appeal_52 ?_
      refine iastN dX11_appeal_53 hG.now.a9 rfl (by omega) ?_
      refine storH (fun h26 e26 => ?_)
      have hw26 : Tw h26 (X + 5) (updW w (104 + 7 * c) 0) := by rw [e26]; exact hw1.ust (by omega)
      have hO26 : Off (actS X) h h26 := by rw [e26]; exact hO1.upd (Or.inl (by omega))
      have hP26 : Pa h26 (X + 87) (remA A n w) (rmbN n) := by rw [e26]; exact hP1.off ((Off.rf (fun q => q = X + 5 + 9) _).upd rfl) (fun a ha => by unfold pas; omega)
      refine aL0 dX11_appeal_54 ?_
      refine R_getR dX11_appeal_55 fX11_19.r hG.o rfl ?_
      refine R_getR dX11_appeal_58 fX11_206 hG.now.o rfl ?_
      refine iL1 dX11_appeal_61 ?_
      refine R_iconst_m1 dX11_appeal_62 ?_
      refine iastN dX11_appeal_63 hG.now.a10 rfl (by omega) ?_
      refine storH (fun h27 e27 => ?_)
      have hw27 : Tw h27 (X + 5) (updW (updW w (104 + 7 * c) 0) (105 + 7 * c) (-1)) := by rw [e27]; exact hw26.uby (by rw [updW_n (by omega)]; omega) (by omega)
      have hO27 : Off (actS X) h h27 := by rw [e27]; exact hO26.upd (Or.inl (by omega))
      have hP27 : Pa h27 (X + 87) (remA A n w) (rmbN n) := by rw [e27]; exact hP26.off ((Off.rf (fun q => q = X + 5 + 10) _).upd rfl) (fun a ha => by unfold pas; omega)
      refine aL0 dX11_appeal_64 ?_
      refine R_getR dX11_appeal_65 fX11_19.r hG.o rfl ?_
      refine R_getR dX11_appeal_68 fX11_209 hG.now.o rfl ?_
      refine iL1 dX11_appeal_71 ?_
      refine R_iconst_m1 dX11_appeal_72 ?_
      refine iastN dX11_appeal_73 hG.now.a11 rfl (by omega) ?_
      refine storH (fun h28 e28 => ?_)
      have hw28 : Tw h28 (X + 5) (updW (updW (updW w (104 + 7 * c) 0) (105 + 7 * c) (-1)) (106 + 7 * c) (-1)) := by rw [e28]; exact hw27.udy (by rw [updW_n (by omega), updW_n (by omega)]; omega) (by omega)
      have hO28 : Off (actS X) h h28 := by rw [e28]; exact hO27.upd (Or.inl (by omega))
      have hP28 : Pa h28 (X + 87) (remA A n w) (rmbN n) := by rw [e28]; exact hP27.off ((Off.rf (fun q => q = X + 5 + 11) _).upd rfl) (fun a ha => by unfold pas; omega)
      refine iL2 dX11_appeal_74 ?_
      exact R_iret dX11_appeal_75 rfl (K0 c rfl (by omega) (by omega) _ hO28 hw28 hP28)
    · exact R_throw rfl dX11_appeal_25 dX11_appeal_28 dX11_appeal_29 dX11_appeal_32 tX11_251 hG.one (Nat.le_of_ble_eq_true rfl) (by decide) (by decide) (KE2 c rfl (by omega) (by omega))
