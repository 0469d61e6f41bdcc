def imS (X : Nat) : Nat → Prop := fun q => q = X ∨ (X + 37 ≤ q ∧ q < X + 53) ∨ (X + 65 ≤ q ∧ q < X + 70)
set_option maxHeartbeats 400000 in
theorem C_X11_image {d : Nat} {g : Gs} {h : Hc} {P : Po} {X : Nat} {w : Nat → Int} (hG : ClG g X) (hw : Tw h (X + 5) w) (hf : WF w) (hl : Lw h (X + 53) w) (ho : LawOK w) (K0 : ∀ h', Off (imS X) h h' → Tw h' (X + 37) w → Lw h' (X + 65) w → h' X 14 = 1 → h' X 15 = h X 15 → P (.inl none) g h') : Call (d + 3) 0 0 mX11_image [vR X] g h P := by
  have hjd := hf.jud
  have hcs := hf.cas
  have hho := hf.hou
  refine Call_of rfl ⟨by decide +kernel, rfl⟩ (Nat.le_of_ble_eq_true rfl) rfl ?_
  refine aL0 dX11_image_0 ?_
  refine R_getR dX11_image_1 fX11_26.r hG.o rfl ?_
  refine aL0 dX11_image_4 ?_
  refine R_getR dX11_image_5 fX11_19.r hG.o rfl ?_
  refine invV1 rfl dX11_image_8 kX11_110 hG.kep.o (Nat.le_of_ble_eq_true rfl) (Nat.zero_le _) (Nat.zero_le _) (C_X10_copyFrom hG.kep hG.now (fun i j hi hj => by omega) (fun h1 hx1 hc1 => konV ?_))
  have hw1 : Tw h1 (X + 37) w := hw.cp hf hc1
  have hl1 := hl.off hx1 (fun i hi => by omega)
  refine aL0 dX11_image_11 ?_
  refine R_getR dX11_image_12 fX11_39.r hG.o rfl ?_
  refine aL0 dX11_image_15 ?_
  refine R_getR dX11_image_16 fX11_32.r hG.o rfl ?_
  refine invV1 rfl dX11_image_19 kX11_137 hG.ru3.o (Nat.le_of_ble_eq_true rfl) (Nat.zero_le _) (Nat.zero_le _) (C_X2_copyFrom hG.ru3 hG.rul (fun i j hi hj => by omega) (fun h2 hx2 hc2 hd2 => konV ?_))
  have hl2 : Lw h2 (X + 65) w := hl1.cp ho hc2 hd2
  have hw2 := hw1.off hx2 (fun i hi => by omega)
  refine aL0 dX11_image_22 ?_
  refine R_iconst_1 dX11_image_23 ?_
  refine R_putIZ dX11_image_24 fX11_95 hG.o (by decide) ?_
  refine storH (fun h3 e3 => ?_)
  exact R_vret dX11_image_27 rfl (K0 _ (fun a ha => by unfold imS at ha; rw [e3, updH_a (by omega), hx2 a (by omega), hx1 a (by omega)]) (by rw [e3]; exact hw2.off ((Off.rf (fun q => q = X) _).upd rfl) (fun i hi => by omega)) (by rw [e3]; exact hl2.off ((Off.rf (fun q => q = X) _).upd rfl) (fun i hi => by omega)) (by rw [e3, updH_s]) (by rw [e3, updH_i (by omega), hx2 X (by omega), hx1 X (by omega)]))
