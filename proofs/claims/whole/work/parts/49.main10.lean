set_option maxHeartbeats 400000 in
theorem C_X11_trial {d : Nat} {g : Gs} {h : Hc} {P : Po} {X : Nat} {w : Nat → Int} (hG : ClG g X) (hw : Tw h (X + 5) w) (hf : WF w) (hl : Lw h (X + 53) w) (ho : LawOK w) {x : Int} {b : Bool} (KE : ¬ (0 ≤ x ∧ x ≤ 48) → P (.inr xIA) g h) (K0 : ∀ n : Nat, x = (n : Int) → n ≤ 48 → ∀ h', Off (drS X) h h' → P (.inl (some (vI (inSt (goF w true n).1 (if b then 3 else 1))))) g h') : Call (d + 7) 1 6 mX11_trial [vR X, vI x, vI (bI (b))] g h P := by
  have hjd := hf.jud
  have hcs := hf.cas
  have hho := hf.hou
  refine Call_of rfl ⟨by decide +kernel, rfl⟩ (Nat.le_of_ble_eq_true rfl) rfl ?_
  refine aL0 dX11_trial_0 ?_
  refine iL1 dX11_trial_1 ?_
  refine R_iconst_0 dX11_trial_2 ?_
  refine R_bipush dX11_trial_3 (by decide) ?_
  refine invV3 rfl dX11_trial_5 kX11_240 hG.o (Nat.le_of_ble_eq_true rfl) (by decide) (by decide) (C_X11_needNumber hG hw hf (fun hn2 => konVm hG.one ?_) (fun hn2 => konEm hG.one (KE (by omega))))
  obtain ⟨n, rfl⟩ : ∃ n : Nat, x = (n : Int) := ⟨x.toNat, by omega⟩
  refine aL0 dX11_trial_8 ?_
  refine iL1 dX11_trial_9 ?_
  refine aL0 dX11_trial_10 ?_
  refine R_getR dX11_trial_11 fX11_19.r hG.o rfl ?_
  refine R_getI dX11_trial_14 fX11_344.r hG.now.o ?_
  refine topV (v := w 7) (hw.s5) ?_
  refine invV2 rfl dX11_trial_17 kX11_347 hG.o (Nat.le_of_ble_eq_true rfl) (Nat.zero_le _) (Nat.zero_le _) (C_X11_rehearse hG hw hf hl ho (s := w 7) (by omega) hf.see (fun h9 hO9 hw9 => konV ?_))
  rw [show updW w 7 (w 7) = w from by funext i; unfold updW; split <;> simp_all] at hw9
  have hf9 := (goF_ok hf ho true n).1
  refine aL0 dX11_trial_20 ?_
  refine R_getR dX11_trial_21 fX11_23.r hG.o rfl ?_
  refine iL2 dX11_trial_24 ?_
  refine R_ifB_eq dX11_trial_25 (fun hb25 => ?_) (fun hb25 => ?_)
  · refine R_iconst_1 dX11_trial_32 ?_
    refine invV1 rfl dX11_trial_33 kX11_341 hG.drf.o (Nat.le_of_ble_eq_true rfl) (Nat.zero_le _) (Nat.zero_le _) (C_X10_inState hG.drf hw9 hf9 (konI ?_))
    exact R_iret dX11_trial_36 rfl (PeqI (K0 n rfl (by omega) _ hO9) (by rw [hb25]; rfl))
  · refine R_iconst_3 dX11_trial_28 ?_
    refine R_goto dX11_trial_29 ?_
    refine invV1 rfl dX11_trial_33 kX11_341 hG.drf.o (Nat.le_of_ble_eq_true rfl) (Nat.zero_le _) (Nat.zero_le _) (C_X10_inState hG.drf hw9 hf9 (konI ?_))
    exact R_iret dX11_trial_36 rfl (PeqI (K0 n rfl (by omega) _ hO9) (by rw [hb25]; rfl))
theorem C_X11_undo {d : Nat} {g : Gs} {h : Hc} {P : Po} {X : Nat} {A : Nat → Nat → Int} {n : Nat} (hG : ClG g X) (hP : Pa h (X + 87) A n) (K0 : n = 0 → P (.inl (some (vI 0))) g h) (K1 : 0 < n → ∀ h', Off (fun q => q = X + 87 ∨ (X + 5 ≤ q ∧ q < X + 5 + 16)) h h' → Pa h' (X + 87) A (n - 1) → Tw h' (X + 5) (A (n - 1)) → WF (A (n - 1)) → P (.inl (some (vI 1))) g h') : Call (d + 3) 0 0 mX11_undo [vR X] g h P := by
  refine Call_of rfl ⟨by decide +kernel, rfl⟩ (Nat.le_of_ble_eq_true rfl) rfl ?_
  refine aL0 dX11_undo_0 ?_
  refine R_getR dX11_undo_1 fX11_91.r hG.o rfl ?_
  refine aL0 dX11_undo_4 ?_
  refine R_getR dX11_undo_5 fX11_19.r hG.o rfl ?_
  refine invV1 rfl dX11_undo_8 kX11_369 hG.past.1 (Nat.le_of_ble_eq_true rfl) (Nat.zero_le _) (Nat.zero_le _) (C_X6_goBack (w := fun _ => 0) hG.past hP hG.now (fun i hi => by unfold pas; omega) (fun hn => konI ?_) (fun hn h' o p t f => konI ?_))
  · exact R_zret dX11_undo_11 rfl (by decide) (K0 hn)
  · exact R_zret dX11_undo_11 rfl (by decide) (K1 hn h' o p t f)
