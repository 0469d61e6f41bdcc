def drS (X : Nat) : Nat → Prop := fun q => (X + 21 ≤ q ∧ q < X + 37) ∨ q = X + 79 ∨ q = X + 58 ∨ q = X + 80
set_option maxHeartbeats 400000 in
theorem C_X11_ahead {d : Nat} {g : Gs} {h : Hc} {P : Po} {X : Nat} {w : Nat → Int} (hG : ClG g X) (hw : Tw h (X + 5) w) (hf : WF w) (hl : Lw h (X + 53) w) (ho : LawOK w) {x y : Int} (KE1 : ¬ (0 ≤ x ∧ x < w 1) → P (.inr xIO) g h) (KE2 : 0 ≤ x ∧ x < w 1 → ¬ (0 ≤ y ∧ y ≤ 48) → P (.inr xIA) g h) (K0 : ∀ c n : Nat, x = (c : Int) → y = (n : Int) → (c : Int) < w 1 → n ≤ 48 → ∀ h', Off (drS X) h h' → P (.inl (some (vI ((goF w false n).1 (104 + 7 * c))))) g h') : Call (d + 6) 2 12 mX11_ahead [vR X, vI x, vI y] g h P := by
  have hjd := hf.jud
  have hcs := hf.cas
  have hho := hf.hou
  refine Call_of rfl ⟨by decide +kernel, rfl⟩ (Nat.le_of_ble_eq_true rfl) rfl ?_
  refine aL0 dX11_ahead_0 ?_
  refine iL1 dX11_ahead_1 ?_
  refine invV1 rfl dX11_ahead_2 kX11_185 hG.o (Nat.le_of_ble_eq_true rfl) (by decide) (by decide) (C_X11_needCase hG hw hf (fun hn1 => konVm hG.one ?_) (fun hn1 => konEm hG.one (KE1 (by omega))))
  obtain ⟨c, rfl⟩ : ∃ c : Nat, x = (c : Int) := ⟨(x).toNat, by omega⟩
  refine aL0 dX11_ahead_5 ?_
  refine iL2 dX11_ahead_6 ?_
  refine R_iconst_0 dX11_ahead_7 ?_
  refine R_bipush dX11_ahead_8 (by decide) ?_
  refine invV3 rfl dX11_ahead_10 kX11_240 hG.o (Nat.le_of_ble_eq_true rfl) (by decide) (by decide) (C_X11_needNumber hG hw hf (fun hn2 => konVm hG.one ?_) (fun hn2 => konEm hG.one (KE2 (by omega) (by omega))))
  obtain ⟨n, rfl⟩ : ∃ n : Nat, y = (n : Int) := ⟨y.toNat, by omega⟩
  refine aL0 dX11_ahead_13 ?_
  refine R_getR dX11_ahead_14 fX11_23.r hG.o rfl ?_
  refine aL0 dX11_ahead_17 ?_
  refine R_getR dX11_ahead_18 fX11_19.r hG.o rfl ?_
  refine invV1 rfl dX11_ahead_21 kX11_110 hG.drf.o (Nat.le_of_ble_eq_true rfl) (Nat.zero_le _) (Nat.zero_le _) (C_X10_copyFrom hG.drf hG.now (fun i j hi hj => by omega) (fun h1 hx1 hc1 => konV ?_))
  have hwd : Tw h1 (X + 21) w := hw.cp hf hc1
  have hfd := hf
  have hod := ho
  have hl1 := hl.off hx1 (fun i hi => by omega)
  have hO1 : Off (drS X) h h1 := hx1.mono (fun q hq => Or.inl hq)
  refine aL0 dX11_ahead_24 ?_
  refine R_getR dX11_ahead_25 fX11_78.r hG.o rfl ?_
  refine iL2 dX11_ahead_28 ?_
  refine R_iconst_0 dX11_ahead_29 ?_
  refine invV2 rfl dX11_ahead_30 kX11_247 (hG.rehearsal hwd hfd hl1 hod).o (Nat.le_of_ble_eq_true rfl) (Nat.zero_le _) (Nat.zero_le _) (C_X7_goOn (cr := false) (hG.rehearsal hwd hf hl1 ho) (by omega) (fun h9 hx9 hw9 => konI ?_))
  have hO9 : Off (drS X) h h9 := hO1.tr (hx9.mono (fun q hq => by unfold sit at hq; unfold drS; omega))
  have hg9 := goF_ok hf ho false n
  have hf9 := hg9.1
  refine popI dX11_ahead_33 ?_
  refine aL0 dX11_ahead_34 ?_
  refine R_getR dX11_ahead_35 fX11_23.r hG.o rfl ?_
  refine R_getR dX11_ahead_38 fX11_203 hG.drf.o rfl ?_
  refine iL1 dX11_ahead_41 ?_
  refine ialdN dX11_ahead_42 hG.drf.a9 rfl (by omega) ?_
  refine topV (v := (goF w false n).1 (104 + 7 * c)) (hw9.a9 (by omega)) ?_
  have hq2 := hf9.st (c := c) (by omega)
  exact R_iret dX11_ahead_43 rfl (K0 c n rfl rfl (by omega) (by omega) _ hO9)
set_option maxHeartbeats 400000 in
theorem C_X11_rehearse {d : Nat} {g : Gs} {h : Hc} {P : Po} {X : Nat} {w : Nat → Int} (hG : ClG g X) (hw : Tw h (X + 5) w) (hf : WF w) (hl : Lw h (X + 53) w) (ho : LawOK w) {n : Nat} {s : Int} (hn : n ≤ 48) (hs : in32 s) (K0 : ∀ h', Off (drS X) h h' → Tw h' (X + 21) (goF (updW w 7 s) true n).1 → P (.inl none) g h') : Call (d + 6) 0 0 mX11_rehearse [vR X, vI ((n : Nat) : Int), vI s] g h P := by
  have hjd := hf.jud
  have hcs := hf.cas
  have hho := hf.hou
  refine Call_of rfl ⟨by decide +kernel, rfl⟩ (Nat.le_of_ble_eq_true rfl) rfl ?_
  refine aL0 dX11_rehearse_0 ?_
  refine R_getR dX11_rehearse_1 fX11_23.r hG.o rfl ?_
  refine aL0 dX11_rehearse_4 ?_
  refine R_getR dX11_rehearse_5 fX11_19.r hG.o rfl ?_
  refine invV1 rfl dX11_rehearse_8 kX11_110 hG.drf.o (Nat.le_of_ble_eq_true rfl) (Nat.zero_le _) (Nat.zero_le _) (C_X10_copyFrom hG.drf hG.now (fun i j hi hj => by omega) (fun h1 hx1 hc1 => konV ?_))
  have hwd : Tw h1 (X + 21) w := hw.cp hf hc1
  have hfd := hf
  have hod := ho
  have hl1 := hl.off hx1 (fun i hi => by omega)
  have hO1 : Off (drS X) h h1 := hx1.mono (fun q hq => Or.inl hq)
  refine aL0 dX11_rehearse_11 ?_
  refine R_getR dX11_rehearse_12 fX11_23.r hG.o rfl ?_
  refine iL2 dX11_rehearse_15 ?_
  refine R_putI dX11_rehearse_16 fX11_344 hG.drf.o ?_
  refine storH (fun h2 e2 => ?_)
  have hw2 : Tw h2 (X + 21) (updW w 7 s) := by rw [e2]; exact hwd.use
  have hO2 : Off (drS X) h h2 := by rw [e2]; exact hO1.upd (Or.inl (by omega))
  have hsl : SameL w (updW w 7 s) := (SameL.rf w).upd (by omega) (by omega)
  have hf2 : WF (updW w 7 s) := hf.use hs
  have ho2 := ho.same hsl
  have hl2 : Lw h2 (X + 53) (updW w 7 s) := (hl1.off (S := fun q => q = X + 21) (by rw [e2]; exact (Off.rf _ _).upd rfl) (fun i hi => by omega)).same hsl
  refine aL0 dX11_rehearse_19 ?_
  refine R_getR dX11_rehearse_20 fX11_78.r hG.o rfl ?_
  refine iL1 dX11_rehearse_23 ?_
  refine R_iconst_1 dX11_rehearse_24 ?_
  refine invV2 rfl dX11_rehearse_25 kX11_247 (hG.rehearsal hw2 hf2 hl2 ho2).o (Nat.le_of_ble_eq_true rfl) (Nat.zero_le _) (Nat.zero_le _) (C_X7_goOn (cr := true) (hG.rehearsal hw2 hf2 hl2 ho2) (by omega) (fun h9 hx9 hw9 => konI ?_))
  have hO9 : Off (drS X) h h9 := hO2.tr (hx9.mono (fun q hq => by unfold sit at hq; unfold drS; omega))
  refine popI dX11_rehearse_28 ?_
  exact R_vret dX11_rehearse_29 rfl (K0 _ hO9 hw9)
