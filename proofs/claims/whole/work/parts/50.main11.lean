def mn2 (a b : Int) : Int := if b < a then b else a
def spV (w : Nat → Int) (n s : Nat) : Int := worthOf (goF (updW w 7 (s : Int)) true n).1 (inSt (goF (updW w 7 (s : Int)) true n).1 1)
def spL (w : Nat → Int) (n : Nat) : Nat → Int := foldN (fun q a => if q = 0 then spV w n (q + 1) else mn2 a (spV w n (q + 1))) 0
def spG (w : Nat → Int) (n : Nat) : Nat → Int := foldN (fun q a => mx2 a (spV w n (q + 1))) 0
theorem spL_s (w : Nat → Int) (n q : Nat) : spL w n (q + 1) = if q = 0 then spV w n (q + 1) else mn2 (spL w n q) (spV w n (q + 1)) := rfl
set_option maxHeartbeats 400000 in
theorem C_X11_span {d : Nat} {g : Gs} {h : Hc} {P : Po} {X : Nat} {w : Nat → Int} (hG : ClG g X) (hw : Tw h (X + 5) w) (hf : WF w) (hl : Lw h (X + 53) w) (ho : LawOK w) {x : Int} {b : Bool} (KE : ¬ (0 ≤ x ∧ x ≤ 48) → P (.inr xIA) g h) (K0 : ∀ n : Nat, x = (n : Int) → n ≤ 48 → ∀ h', Off (drS X) h h' → P (.inl (some (vI (if b then spG w n 6 else spL w n 6)))) g h') : Call (d + 7) 1 6 mX11_span [vR X, vI x, vI (bI (b))] g h P := by
  have hjd := hf.jud
  have hcs := hf.cas
  have hho := hf.hou
  refine Call_of rfl ⟨by decide +kernel, rfl⟩ (Nat.le_of_ble_eq_true rfl) rfl ?_
  refine aL0 dX11_span_0 ?_
  refine iL1 dX11_span_1 ?_
  refine R_iconst_0 dX11_span_2 ?_
  refine R_bipush dX11_span_3 (by decide) ?_
  refine invV3 rfl dX11_span_5 kX11_240 hG.o (Nat.le_of_ble_eq_true rfl) (by decide) (by decide) (C_X11_needNumber hG hw hf (fun hn2 => konVm hG.one ?_) (fun hn2 => konEm hG.one (KE (by omega))))
  obtain ⟨n, rfl⟩ : ∃ n : Nat, x = (n : Int) := ⟨x.toNat, by omega⟩
  refine R_iconst_0 dX11_span_8 ?_
  refine iS3 dX11_span_9 ?_
  refine R_iconst_0 dX11_span_10 ?_
  refine iS4 dX11_span_11 ?_
  refine R_iconst_1 dX11_span_13 ?_
  refine iS5 dX11_span_14 ?_
  refine loopN (6) (fun q => ∀ (v6 : AV) (hK : Hc), Off (drS X) h hK → Run (d + 7) 0 0 mX11_span 16 [vR X, vI ((n : Nat) : Int), vI (bI (b)), vI (spL w n q), vI (spG w n q), vI (((q + 1) : Nat) : Int), v6] [] g hK P) (fun q hcnq ihq v6 hK hOK => ?_) (0) (Nat.zero_le _) _ h (Off.rf _ _)
  have hwK := hw.off hOK (fun i hi => by unfold drS; omega)
  have hlK := hl.off hOK (fun i hi => by unfold drS; omega)
  refine iL5 dX11_span_16 ?_
  refine R_bipush dX11_span_18 (by decide) ?_
  refine R_icmp_gt dX11_span_20 (fun hb20 => ?_) (fun hb20 => ?_)
  · have e9 : q = 6 := by omega
    subst e9
    refine iL2 dX11_span_80 ?_
    refine R_ifB_eq dX11_span_81 (fun hb81 => ?_) (fun hb81 => ?_)
    · refine iL3 dX11_span_89 ?_
      exact R_iret dX11_span_90 rfl (PeqI (K0 n rfl (by omega) _ hOK) (by rw [hb81]; rfl))
    · refine iL4 dX11_span_84 ?_
      refine R_goto dX11_span_86 ?_
      exact R_iret dX11_span_90 rfl (PeqI (K0 n rfl (by omega) _ hOK) (by rw [hb81]; rfl))
  · refine aL0 dX11_span_23 ?_
    refine iL1 dX11_span_24 ?_
    refine iL5 dX11_span_25 ?_
    refine invV2 rfl dX11_span_27 kX11_347 hG.o (Nat.le_of_ble_eq_true rfl) (Nat.zero_le _) (Nat.zero_le _) (C_X11_rehearse hG hwK hf hlK ho (s := ((q + 1 : Nat) : Int)) (by omega) ⟨by omega, by omega⟩ (fun h9 hx9 hw9 => konV ?_))
    have hO9 := hOK.tr hx9
    have hf9 := (goF_ok (hf.use (v := ((q + 1 : Nat) : Int)) ⟨by omega, by omega⟩) (ho.same ((SameL.rf w).upd (by omega) (by omega))) true n).1
    refine aL0 dX11_span_30 ?_
    refine R_getR dX11_span_31 fX11_23.r hG.o rfl ?_
    refine aL0 dX11_span_34 ?_
    refine R_getR dX11_span_35 fX11_23.r hG.o rfl ?_
    refine R_iconst_1 dX11_span_38 ?_
    refine invV1 rfl dX11_span_39 kX11_341 hG.drf.o (Nat.le_of_ble_eq_true rfl) (Nat.zero_le _) (Nat.zero_le _) (C_X10_inState hG.drf hw9 hf9 (konI ?_))
    refine invV1 rfl dX11_span_42 kX11_276 hG.drf.o (Nat.le_of_ble_eq_true rfl) (Nat.zero_le _) (Nat.zero_le _) (C_X10_worthOf hG.drf hw9 hf9 (konI ?_))
    refine topV (v := spV w n (q + 1)) (rfl) ?_
    refine iS6 dX11_span_45 ?_
    suffices J1 : Run (d + 7) 0 0 mX11_span 64 [vR X, vI ((n : Nat) : Int), vI (bI (b)), vI (spL w n q), vI (spG w n q), vI (((q + 1) : Nat) : Int), vI (spV w n (q + 1))] [vI (spL w n (q + 1))] g h9 P by
      refine iL5 dX11_span_47 ?_
      refine R_iconst_1 dX11_span_49 ?_
      refine R_icmp_ne dX11_span_50 (fun hb50 => ?_) (fun hb50 => ?_)
      · refine iL3 dX11_span_58 ?_
        refine iL6 dX11_span_59 ?_
        refine R_mmin dX11_span_61 kX11_351 lb_min (Nat.le_of_ble_eq_true rfl) ?_
        refine topV (v := mn2 (spL w n q) (spV w n (q + 1))) (rfl) ?_
        exact topV (v := spL w n (q + 1)) (by rw [spL_s]; first | (rw [if_pos (by omega)]) | (rw [if_neg (by omega)])) J1
      · refine iL6 dX11_span_53 ?_
        refine R_goto dX11_span_55 ?_
        exact topV (v := spL w n (q + 1)) (by rw [spL_s]; first | (rw [if_pos (by omega)]) | (rw [if_neg (by omega)])) J1
    refine iS3 dX11_span_64 ?_
    refine iL4 dX11_span_65 ?_
    refine iL6 dX11_span_67 ?_
    refine R_mmax dX11_span_69 kX11_296 lb_max (Nat.le_of_ble_eq_true rfl) ?_
    refine topV (v := mx2 (spG w n q) (spV w n (q + 1))) (rfl) ?_
    refine iS4 dX11_span_72 ?_
    refine iInc5 dX11_span_74 (winc (by omega)) ?_
    refine R_goto dX11_span_77 ?_
    exact eqI4 (rfl) (ihq (by omega) _ _ hO9)
