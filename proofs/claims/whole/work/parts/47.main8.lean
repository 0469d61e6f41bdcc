set_option maxHeartbeats 400000 in
theorem C_X11_strike {d : Nat} {g : Gs} {h : Hc} {P : Po} {X : Nat} {w : Nat → Int} (hG : ClG g X) (hw : Tw h (X + 5) w) (hf : WF w) (hl : Lw h (X + 53) w) (ho : LawOK w) {n : Nat} {A : Nat → Nat → Int} (hP : Pa h (X + 87) A n) {x y : Int} (KE1 : ¬ ((0 ≤ x ∧ x < w 0) ∧ 0 ≤ y ∧ y < 12) → P (.inr xIO) g h) (KE2 : ∀ j k : Nat, x = (j : Int) → y = (k : Int) → (j : Int) < w 0 → k < 12 → w (20 + (12 * j + k)) < 0 → P (.inr xIS) g h) (K0 : ∀ j k : Nat, x = (j : Int) → y = (k : Int) → (j : Int) < w 0 → k < 12 → 0 ≤ w (20 + (12 * j + k)) → ∀ h', Off (actS X) h h' → Tw h' (X + 5) (updW w (20 + (12 * j + k)) (-1)) → Pa h' (X + 87) (remA A n w) (rmbN n) → P (.inl (some (vI (w (20 + (12 * j + k)))))) g h') : Call (d + 3) 3 18 mX11_strike [vR X, vI x, vI y] g h P := by
  have hjd := hf.jud
  have hcs := hf.cas
  have hho := hf.hou
  refine Call_of rfl ⟨by decide +kernel, rfl⟩ (Nat.le_of_ble_eq_true rfl) rfl ?_
  refine aL0 dX11_strike_0 ?_
  refine iL1 dX11_strike_1 ?_
  refine invV1 rfl dX11_strike_2 kX11_143 hG.o (Nat.le_of_ble_eq_true rfl) (by decide) (by decide) (C_X11_needJudge hG hw hf (fun hn1 => konVm hG.one ?_) (fun hn1 => konEm hG.one (KE1 (by omega))))
  obtain ⟨j, rfl⟩ : ∃ j : Nat, x = (j : Int) := ⟨(x).toNat, by omega⟩
  refine aL0 dX11_strike_5 ?_
  refine iL2 dX11_strike_6 ?_
  refine invV1 rfl dX11_strike_7 kX11_224 hG.o (Nat.le_of_ble_eq_true rfl) (by decide) (by decide) (C_X11_needHour hG hw hf (fun hn2 => konVm hG.one ?_) (fun hn2 => konEm hG.one (KE1 (by omega))))
  obtain ⟨k, rfl⟩ : ∃ k : Nat, y = (k : Int) := ⟨(y).toNat, by omega⟩
  refine aL0 dX11_strike_10 ?_
  refine R_getR dX11_strike_11 fX11_19.r hG.o rfl ?_
  refine iL1 dX11_strike_14 ?_
  refine iL2 dX11_strike_15 ?_
  refine invV2 rfl dX11_strike_16 kX11_227 hG.now.o (Nat.le_of_ble_eq_true rfl) (Nat.zero_le _) (Nat.zero_le _) (C_X10_caseAt hG.now hw (by omega) (by omega) (konI ?_))
  refine iS3 dX11_strike_19 ?_
  refine iL3 dX11_strike_20 ?_
  refine R_if_ge dX11_strike_21 (fun hb21 => ?_) (fun hb21 => ?_)
  · refine aL0 dX11_strike_32 ?_
    refine R_getR dX11_strike_33 fX11_91.r hG.o rfl ?_
    refine aL0 dX11_strike_36 ?_
    refine R_getR dX11_strike_37 fX11_19.r hG.o rfl ?_
    refine invV1 rfl dX11_strike_40 kX11_244 hG.past.1 (Nat.le_of_ble_eq_true rfl) (Nat.zero_le _) (Nat.zero_le _) (C_X6_remember hG.past hP hG.now (fun i hi => by unfold pas; omega) hw hf (fun h1 hx1 hP1 => konV ?_))
    have hw1 : Tw h1 (X + 5) w := hw.off hx1 (fun i hi => by unfold pas; omega)
    have hO1 : Off (actS X) h h1 := hx1.mono (fun q hq => Or.inr (Or.inl (by unfold pas at hq; omega)))
    refine aL0 dX11_strike_43 ?_
    refine R_getR dX11_strike_44 fX11_19.r hG.o rfl ?_
    refine iL1 dX11_strike_47 ?_
    refine iL2 dX11_strike_48 ?_
    refine R_iconst_m1 dX11_strike_49 ?_
    refine invV3 rfl dX11_strike_50 kX11_257 hG.now.o (Nat.le_of_ble_eq_true rfl) (Nat.zero_le _) (Nat.zero_le _) (C_X10_putAt hG.now (by omega) (by omega) (konV ?_))
    refine storH (fun h8 e8 => ?_)
    have hw8 : Tw h8 (X + 5) (updW w (20 + (12 * j + k)) (-1)) := by rw [e8]; exact hw1.upl (by omega)
    have hO8 : Off (actS X) h h8 := by rw [e8]; exact hO1.upd (Or.inl (by omega))
    have hP8 : Pa h8 (X + 87) (remA A n w) (rmbN n) := by rw [e8]; exact hP1.off ((Off.rf (fun q => q = X + 5 + 12) _).upd rfl) (fun a ha => by unfold pas; omega)
    refine iL3 dX11_strike_53 ?_
    exact R_iret dX11_strike_54 rfl (K0 j k rfl rfl (by omega) (by omega) (by omega) _ hO8 hw8 hP8)
  · exact R_throw rfl dX11_strike_24 dX11_strike_27 dX11_strike_28 dX11_strike_31 tX11_251 hG.one (Nat.le_of_ble_eq_true rfl) (by decide) (by decide) (KE2 j k rfl rfl (by omega) (by omega) (by omega))
set_option maxHeartbeats 400000 in
theorem C_X11_list {d : Nat} {g : Gs} {h : Hc} {P : Po} {X : Nat} {w : Nat → Int} (hG : ClG g X) (hw : Tw h (X + 5) w) (hf : WF w) (hl : Lw h (X + 53) w) (ho : LawOK w) {n : Nat} {A : Nat → Nat → Int} (hP : Pa h (X + 87) A n) {x y z : Int} (KE1 : ¬ ((0 ≤ x ∧ x < w 0) ∧ (0 ≤ y ∧ y < 12) ∧ 0 ≤ z ∧ z < w 1) → P (.inr xIO) g h) (KE2 : ∀ j k c : Nat, x = (j : Int) → y = (k : Int) → z = (c : Int) → (j : Int) < w 0 → k < 12 → (c : Int) < w 1 → ¬ w (104 + 7 * c) = 0 → P (.inr xIS) g h) (K0 : ∀ j k c : Nat, x = (j : Int) → y = (k : Int) → z = (c : Int) → (j : Int) < w 0 → k < 12 → (c : Int) < w 1 → w (104 + 7 * c) = 0 → ∀ h', Off (actS X) h h' → Tw h' (X + 5) (updW (stW w (c : Int)) (20 + (12 * j + k)) (c : Int)) → Pa h' (X + 87) (remA A n w) (rmbN n) → P (.inl (some (vI (w (20 + (12 * j + k)))))) g h') : Call (d + 3) 4 24 mX11_list [vR X, vI x, vI y, vI z] g h P := by
  have hjd := hf.jud
  have hcs := hf.cas
  have hho := hf.hou
  refine Call_of rfl ⟨by decide +kernel, rfl⟩ (Nat.le_of_ble_eq_true rfl) rfl ?_
  refine aL0 dX11_list_0 ?_
  refine iL1 dX11_list_1 ?_
  refine invV1 rfl dX11_list_2 kX11_143 hG.o (Nat.le_of_ble_eq_true rfl) (by decide) (by decide) (C_X11_needJudge hG hw hf (fun hn1 => konVm hG.one ?_) (fun hn1 => konEm hG.one (KE1 (by omega))))
  obtain ⟨j, rfl⟩ : ∃ j : Nat, x = (j : Int) := ⟨(x).toNat, by omega⟩
  refine aL0 dX11_list_5 ?_
  refine iL2 dX11_list_6 ?_
  refine invV1 rfl dX11_list_7 kX11_224 hG.o (Nat.le_of_ble_eq_true rfl) (by decide) (by decide) (C_X11_needHour hG hw hf (fun hn2 => konVm hG.one ?_) (fun hn2 => konEm hG.one (KE1 (by omega))))
  obtain ⟨k, rfl⟩ : ∃ k : Nat, y = (k : Int) := ⟨(y).toNat, by omega⟩
  refine aL0 dX11_list_10 ?_
  refine iL3 dX11_list_11 ?_
  refine invV1 rfl dX11_list_12 kX11_185 hG.o (Nat.le_of_ble_eq_true rfl) (by decide) (by decide) (C_X11_needCase hG hw hf (fun hn3 => konVm hG.one ?_) (fun hn3 => konEm hG.one (KE1 (by omega))))
  obtain ⟨c, rfl⟩ : ∃ c : Nat, z = (c : Int) := ⟨(z).toNat, by omega⟩
  refine aL0 dX11_list_15 ?_
  refine R_getR dX11_list_16 fX11_19.r hG.o rfl ?_
  refine R_getR dX11_list_19 fX11_203 hG.now.o rfl ?_
  refine iL3 dX11_list_22 ?_
  refine ialdN dX11_list_23 hG.now.a9 rfl (by omega) ?_
  refine topV (v := w (104 + 7 * c)) (hw.a9 (by omega)) ?_
  have hq4 := hf.st (c := c) (by omega)
  refine R_if_eq dX11_list_24 (fun hb24 => ?_) (fun hb24 => ?_)
  · refine aL0 dX11_list_35 ?_
    refine R_getR dX11_list_36 fX11_91.r hG.o rfl ?_
    refine aL0 dX11_list_39 ?_
    refine R_getR dX11_list_40 fX11_19.r hG.o rfl ?_
    refine invV1 rfl dX11_list_43 kX11_244 hG.past.1 (Nat.le_of_ble_eq_true rfl) (Nat.zero_le _) (Nat.zero_le _) (C_X6_remember hG.past hP hG.now (fun i hi => by unfold pas; omega) hw hf (fun h1 hx1 hP1 => konV ?_))
    have hw1 : Tw h1 (X + 5) w := hw.off hx1 (fun i hi => by unfold pas; omega)
    have hO1 : Off (actS X) h h1 := hx1.mono (fun q hq => Or.inr (Or.inl (by unfold pas at hq; omega)))
    refine aL0 dX11_list_46 ?_
    refine R_getR dX11_list_47 fX11_19.r hG.o rfl ?_
    refine iL1 dX11_list_50 ?_
    refine iL2 dX11_list_51 ?_
    refine invV2 rfl dX11_list_52 kX11_227 hG.now.o (Nat.le_of_ble_eq_true rfl) (Nat.zero_le _) (Nat.zero_le _) (C_X10_caseAt hG.now hw1 (by omega) (by omega) (konI ?_))
    refine iS4 dX11_list_55 ?_
    refine aL0 dX11_list_57 ?_
    refine R_getR dX11_list_58 fX11_19.r hG.o rfl ?_
    refine iL3 dX11_list_61 ?_
    refine invV1 rfl dX11_list_62 kX11_254 hG.now.o (Nat.le_of_ble_eq_true rfl) (Nat.zero_le _) (Nat.zero_le _) (C_X10_takeOff hG.now hw1 (fun h7 hx7 hw7 => konV ?_))
    have hO7 : Off (actS X) h h7 := hO1.tr (hx7.mono (fun q hq => Or.inl (by omega)))
    have hP7 : Pa h7 (X + 87) (remA A n w) (rmbN n) := hP1.off hx7 (fun a ha => by unfold pas; omega)
    refine aL0 dX11_list_65 ?_
    refine R_getR dX11_list_66 fX11_19.r hG.o rfl ?_
    refine iL1 dX11_list_69 ?_
    refine iL2 dX11_list_70 ?_
    refine iL3 dX11_list_71 ?_
    refine invV3 rfl dX11_list_72 kX11_257 hG.now.o (Nat.le_of_ble_eq_true rfl) (Nat.zero_le _) (Nat.zero_le _) (C_X10_putAt hG.now (by omega) (by omega) (konV ?_))
    refine storH (fun h8 e8 => ?_)
    have hw8 : Tw h8 (X + 5) (updW ((stW w (c : Int))) (20 + (12 * j + k)) ((c : Nat) : Int)) := by rw [e8]; exact hw7.upl (by omega)
    have hO8 : Off (actS X) h h8 := by rw [e8]; exact hO7.upd (Or.inl (by omega))
    have hP8 : Pa h8 (X + 87) (remA A n w) (rmbN n) := by rw [e8]; exact hP7.off ((Off.rf (fun q => q = X + 5 + 12) _).upd rfl) (fun a ha => by unfold pas; omega)
    refine iL4 dX11_list_75 ?_
    exact R_iret dX11_list_77 rfl (K0 j k c rfl rfl rfl (by omega) (by omega) (by omega) (by omega) _ hO8 hw8 hP8)
  · exact R_throw rfl dX11_list_27 dX11_list_30 dX11_list_31 dX11_list_34 tX11_251 hG.one (Nat.le_of_ble_eq_true rfl) (by decide) (by decide) (KE2 j k c rfl rfl rfl (by omega) (by omega) (by omega) (by omega))
set_option maxHeartbeats 400000 in
theorem C_X11_hours {d : Nat} {g : Gs} {h : Hc} {P : Po} {X : Nat} {w : Nat → Int} (hG : ClG g X) (hw : Tw h (X + 5) w) (hf : WF w) (hl : Lw h (X + 53) w) (ho : LawOK w) {n : Nat} {A : Nat → Nat → Int} (hP : Pa h (X + 87) A n) {x : Int} (KE : ¬ (1 ≤ x ∧ x ≤ 48) → P (.inr xIA) g h) (K0 : ∀ k : Nat, x = (k : Int) → 1 ≤ k ∧ k ≤ 48 → ∀ h', Off (actS X) h h' → Tw h' (X + 5) ((goF w true k).1) → Pa h' (X + 87) (remA A n w) (rmbN n) → P (.inl (some (vI ((((goF w true k).2 : Nat) : Int))))) g h') : Call (d + 6) 1 6 mX11_hours [vR X, vI x] g h P := by
  have hjd := hf.jud
  have hcs := hf.cas
  have hho := hf.hou
  refine Call_of rfl ⟨by decide +kernel, rfl⟩ (Nat.le_of_ble_eq_true rfl) rfl ?_
  refine aL0 dX11_hours_0 ?_
  refine iL1 dX11_hours_1 ?_
  refine R_iconst_1 dX11_hours_2 ?_
  refine R_bipush dX11_hours_3 (by decide) ?_
  refine invV3 rfl dX11_hours_5 kX11_240 hG.o (Nat.le_of_ble_eq_true rfl) (by decide) (by decide) (C_X11_needNumber hG hw hf (fun hn2 => konVm hG.one ?_) (fun hn2 => konEm hG.one (KE (by omega))))
  obtain ⟨k, rfl⟩ : ∃ k : Nat, x = (k : Int) := ⟨x.toNat, by omega⟩
  refine aL0 dX11_hours_8 ?_
  refine R_getR dX11_hours_9 fX11_91.r hG.o rfl ?_
  refine aL0 dX11_hours_12 ?_
  refine R_getR dX11_hours_13 fX11_19.r hG.o rfl ?_
  refine invV1 rfl dX11_hours_16 kX11_244 hG.past.1 (Nat.le_of_ble_eq_true rfl) (Nat.zero_le _) (Nat.zero_le _) (C_X6_remember hG.past hP hG.now (fun i hi => by unfold pas; omega) hw hf (fun h1 hx1 hP1 => konV ?_))
  have hw1 : Tw h1 (X + 5) w := hw.off hx1 (fun i hi => by unfold pas; omega)
  have hO1 : Off (actS X) h h1 := hx1.mono (fun q hq => Or.inr (Or.inl (by unfold pas at hq; omega)))
  have hl1 := hl.off hx1 (fun i hi => by unfold pas; omega)
  have hS1 := hG.sitting hw1 hf hl1 ho
  refine aL0 dX11_hours_19 ?_
  refine R_getR dX11_hours_20 fX11_74.r hG.o rfl ?_
  refine iL1 dX11_hours_23 ?_
  refine R_iconst_1 dX11_hours_24 ?_
  refine invV2 rfl dX11_hours_25 kX11_247 (hG.sitting hw hf hl ho).o (Nat.le_of_ble_eq_true rfl) (Nat.zero_le _) (Nat.zero_le _) (C_X7_goOn (cr := true) hS1 (by omega) (fun h9 hx9 hw9 => konI ?_))
  have hO9 : Off (actS X) h h9 := hO1.tr (hx9.mono (fun q hq => by unfold sit at hq; unfold actS xsc mts; omega))
  have hP9 : Pa h9 (X + 87) (remA A n w) (rmbN n) := hP1.off hx9 (fun a ha => by unfold sit at ha; unfold pas; omega)
  exact R_iret dX11_hours_28 rfl (K0 k rfl (by omega) _ hO9 hw9 hP9)
