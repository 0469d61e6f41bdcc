set_option maxHeartbeats 400000 in
theorem C_X12_judge_0 {d : Nat} {g : Gs} {h : Hc} {P : Po} {M : Nat} {w : Nat → Int} (hG : MdG g M) (hW : h (M + 1) = w) (hf : WF w) (hl : LawOK w) {x : Int} (KE : ¬ (0 ≤ x ∧ x < w 0) → ∀ h', Mp M h h' 1 → P (.inl (some (vI 0))) g h') (K0 : ∀ j : Nat, x = (j : Int) → (j : Int) < w 0 → ∀ h', Mp M h h' 0 → P (.inl (some (vI (w (80 + 4 * j))))) g h') : Call (d + 11) 0 0 mX12_judge [vR M, vI x, vI 0] g h P := by
  have hcs := hf.cas
  have hjd := hf.jud
  have hho := hf.hou
  refine Call_of rfl ⟨by decide +kernel, rfl⟩ (Nat.le_of_ble_eq_true rfl) rfl ?_
  refine aL0 dX12_judge_0 ?_
  refine R_iconst_0 dX12_judge_1 ?_
  refine R_putI dX12_judge_2 fX12_3 hG.o ?_
  refine storH (fun h1 e1 => ?_)
  have hP : Mp M h h1 0 := by rw [e1]; exact Mp.i h M
  replace hW : h1 (M + 1) = w := hP.w hW
  have hQ : Mz M h1 h1 := Mz.rf _ _
  refine aL0 dX12_judge_5 ?_
  refine aL0 dX12_judge_6 ?_
  refine iL1 dX12_judge_7 ?_
  refine invV1 rfl dX12_judge_8 kX12_383 hG.o (Nat.le_of_ble_eq_true rfl) (Nat.zero_le _) (Nat.zero_le _) (C_X12_noJudge hG hW hf (konI ?_))
  refine R_iconst_1 dX12_judge_11 ?_
  refine invV2 rfl dX12_judge_12 kX12_274 hG.o (Nat.le_of_ble_eq_true rfl) (Nat.zero_le _) (Nat.zero_le _) (C_X12_throwsIf hG (fun h11 hth11 => konI ?_))
  have hPE11 : ∀ hbb : (noB x (w 0)) = true, Mp M h h11 1 := fun hbb => hth11.t (hP.q hQ) hbb
  have hQE11 : ∀ hbb : (noB x (w 0)) = false, Mz M h1 h11 := fun hbb => hth11.q hQ hbb
  have hWE11 : ∀ hbb : (noB x (w 0)) = false, h11 (M + 1) = w := fun hbb => hth11.w hW hbb
  refine R_ifB_ne dX12_judge_15 (fun hb15 => ?_) (fun hb15 => ?_)
  · have hPX := hPE11 hb15
    refine R_iconst_0 dX12_judge_41 ?_
    exact R_iret dX12_judge_42 rfl (KE (noB_t hb15) _ hPX)
  · replace hQ := hQE11 hb15
    replace hW := hWE11 hb15
    have hx1 := noB_f hb15
    obtain ⟨j, rfl⟩ : ∃ j : Nat, x = (j : Int) := ⟨x.toNat, by omega⟩
    refine aL0 dX12_judge_18 ?_
    suffices J12 : Run (d + 11) 0 0 mX12_judge 34 [vR M, vI ((j : Nat) : Int), vI 0] [vI (bI (false)), vR M] g h11 P by
      refine iL2 dX12_judge_19 ?_
      refine R_iconst_0 dX12_judge_20 ?_
      refine R_bipush dX12_judge_21 (by decide) ?_
      refine invS3 rfl dX12_judge_23 kX12_101 (Nat.le_of_ble_eq_true rfl) (Nat.zero_le _) (Nat.zero_le _) (C_X12_in (konI ?_))
      refine R_ifB_ne dX12_judge_26 (fun hb26 => ?_) (fun hb26 => ?_)
      · refine R_iconst_0 dX12_judge_33 ?_
        exact topV (v := bI (false)) (by first | (exact absurd hb26 (by decide)) | rfl) J12
      · refine R_iconst_1 dX12_judge_29 ?_
        refine R_goto dX12_judge_30 ?_
        exact topV (v := bI (false)) (by first | (exact absurd hb26 (by decide)) | rfl) J12
    refine R_iconst_2 dX12_judge_34 ?_
    refine invV2 rfl dX12_judge_35 kX12_274 hG.o (Nat.le_of_ble_eq_true rfl) (Nat.zero_le _) (Nat.zero_le _) (C_X12_throwsIf hG (fun h13 hth13 => konI ?_))
    have hPE13 : ∀ hbb : (false) = true, Mp M h h13 2 := fun hbb => hth13.t (hP.q hQ) hbb
    have hQE13 : ∀ hbb : (false) = false, Mz M h1 h13 := fun hbb => hth13.q hQ hbb
    have hWE13 : ∀ hbb : (false) = false, h13 (M + 1) = w := fun hbb => hth13.w hW hbb
    refine R_ifB_eq dX12_judge_38 (fun hb38 => ?_) (fun hb38 => ?_)
    · replace hQ := hQE13 hb38
      replace hW := hWE13 hb38
      refine iL2 dX12_judge_43 ?_
      refine R_tsw (tt := 115) dX12_judge_44 (by decide) (by decide) ?_
      refine aL0 dX12_judge_115 ?_
      refine iL1 dX12_judge_116 ?_
      refine iL2 dX12_judge_117 ?_
      refine invV2 rfl dX12_judge_118 kX12_280 hG.o (Nat.le_of_ble_eq_true rfl) (Nat.zero_le _) (Nat.zero_le _) (C_X12_ofJudge hG hW (b := 0) (i := 80 + 4 * j) (by omega) (by omega) (konI ?_))
      have hq14 := hf.hu (j := j) (by omega)
      exact R_iret dX12_judge_121 rfl (K0 j rfl (by omega) _ (hP.q hQ))
    · exact absurd hb38 (by decide)
set_option maxHeartbeats 400000 in
theorem C_X12_judge_1 {d : Nat} {g : Gs} {h : Hc} {P : Po} {M : Nat} {w : Nat → Int} (hG : MdG g M) (hW : h (M + 1) = w) (hf : WF w) (hl : LawOK w) {x : Int} (KE : ¬ (0 ≤ x ∧ x < w 0) → ∀ h', Mp M h h' 1 → P (.inl (some (vI 0))) g h') (K0 : ∀ j : Nat, x = (j : Int) → (j : Int) < w 0 → ∀ h', Mp M h h' 0 → P (.inl (some (vI (w (81 + 4 * j))))) g h') : Call (d + 11) 0 0 mX12_judge [vR M, vI x, vI 1] g h P := by
  have hcs := hf.cas
  have hjd := hf.jud
  have hho := hf.hou
  refine Call_of rfl ⟨by decide +kernel, rfl⟩ (Nat.le_of_ble_eq_true rfl) rfl ?_
  refine aL0 dX12_judge_0 ?_
  refine R_iconst_0 dX12_judge_1 ?_
  refine R_putI dX12_judge_2 fX12_3 hG.o ?_
  refine storH (fun h1 e1 => ?_)
  have hP : Mp M h h1 0 := by rw [e1]; exact Mp.i h M
  replace hW : h1 (M + 1) = w := hP.w hW
  have hQ : Mz M h1 h1 := Mz.rf _ _
  refine aL0 dX12_judge_5 ?_
  refine aL0 dX12_judge_6 ?_
  refine iL1 dX12_judge_7 ?_
  refine invV1 rfl dX12_judge_8 kX12_383 hG.o (Nat.le_of_ble_eq_true rfl) (Nat.zero_le _) (Nat.zero_le _) (C_X12_noJudge hG hW hf (konI ?_))
  refine R_iconst_1 dX12_judge_11 ?_
  refine invV2 rfl dX12_judge_12 kX12_274 hG.o (Nat.le_of_ble_eq_true rfl) (Nat.zero_le _) (Nat.zero_le _) (C_X12_throwsIf hG (fun h11 hth11 => konI ?_))
  have hPE11 : ∀ hbb : (noB x (w 0)) = true, Mp M h h11 1 := fun hbb => hth11.t (hP.q hQ) hbb
  have hQE11 : ∀ hbb : (noB x (w 0)) = false, Mz M h1 h11 := fun hbb => hth11.q hQ hbb
  have hWE11 : ∀ hbb : (noB x (w 0)) = false, h11 (M + 1) = w := fun hbb => hth11.w hW hbb
  refine R_ifB_ne dX12_judge_15 (fun hb15 => ?_) (fun hb15 => ?_)
  · have hPX := hPE11 hb15
    refine R_iconst_0 dX12_judge_41 ?_
    exact R_iret dX12_judge_42 rfl (KE (noB_t hb15) _ hPX)
  · replace hQ := hQE11 hb15
    replace hW := hWE11 hb15
    have hx1 := noB_f hb15
    obtain ⟨j, rfl⟩ : ∃ j : Nat, x = (j : Int) := ⟨x.toNat, by omega⟩
    refine aL0 dX12_judge_18 ?_
    suffices J12 : Run (d + 11) 0 0 mX12_judge 34 [vR M, vI ((j : Nat) : Int), vI 1] [vI (bI (false)), vR M] g h11 P by
      refine iL2 dX12_judge_19 ?_
      refine R_iconst_0 dX12_judge_20 ?_
      refine R_bipush dX12_judge_21 (by decide) ?_
      refine invS3 rfl dX12_judge_23 kX12_101 (Nat.le_of_ble_eq_true rfl) (Nat.zero_le _) (Nat.zero_le _) (C_X12_in (konI ?_))
      refine R_ifB_ne dX12_judge_26 (fun hb26 => ?_) (fun hb26 => ?_)
      · refine R_iconst_0 dX12_judge_33 ?_
        exact topV (v := bI (false)) (by first | (exact absurd hb26 (by decide)) | rfl) J12
      · refine R_iconst_1 dX12_judge_29 ?_
        refine R_goto dX12_judge_30 ?_
        exact topV (v := bI (false)) (by first | (exact absurd hb26 (by decide)) | rfl) J12
    refine R_iconst_2 dX12_judge_34 ?_
    refine invV2 rfl dX12_judge_35 kX12_274 hG.o (Nat.le_of_ble_eq_true rfl) (Nat.zero_le _) (Nat.zero_le _) (C_X12_throwsIf hG (fun h13 hth13 => konI ?_))
    have hPE13 : ∀ hbb : (false) = true, Mp M h h13 2 := fun hbb => hth13.t (hP.q hQ) hbb
    have hQE13 : ∀ hbb : (false) = false, Mz M h1 h13 := fun hbb => hth13.q hQ hbb
    have hWE13 : ∀ hbb : (false) = false, h13 (M + 1) = w := fun hbb => hth13.w hW hbb
    refine R_ifB_eq dX12_judge_38 (fun hb38 => ?_) (fun hb38 => ?_)
    · replace hQ := hQE13 hb38
      replace hW := hWE13 hb38
      refine iL2 dX12_judge_43 ?_
      refine R_tsw (tt := 115) dX12_judge_44 (by decide) (by decide) ?_
      refine aL0 dX12_judge_115 ?_
      refine iL1 dX12_judge_116 ?_
      refine iL2 dX12_judge_117 ?_
      refine invV2 rfl dX12_judge_118 kX12_280 hG.o (Nat.le_of_ble_eq_true rfl) (Nat.zero_le _) (Nat.zero_le _) (C_X12_ofJudge hG hW (b := 1) (i := 81 + 4 * j) (by omega) (by omega) (konI ?_))
      have hq14 := hf.me (j := j) (by omega)
      exact R_iret dX12_judge_121 rfl (K0 j rfl (by omega) _ (hP.q hQ))
    · exact absurd hb38 (by decide)
set_option maxHeartbeats 400000 in
theorem C_X12_judge_2 {d : Nat} {g : Gs} {h : Hc} {P : Po} {M : Nat} {w : Nat → Int} (hG : MdG g M) (hW : h (M + 1) = w) (hf : WF w) (hl : LawOK w) {x : Int} (KE : ¬ (0 ≤ x ∧ x < w 0) → ∀ h', Mp M h h' 1 → P (.inl (some (vI 0))) g h') (K0 : ∀ j : Nat, x = (j : Int) → (j : Int) < w 0 → ∀ h', Mp M h h' 0 → P (.inl (some (vI (w (82 + 4 * j))))) g h') : Call (d + 11) 0 0 mX12_judge [vR M, vI x, vI 2] g h P := by
  have hcs := hf.cas
  have hjd := hf.jud
  have hho := hf.hou
  refine Call_of rfl ⟨by decide +kernel, rfl⟩ (Nat.le_of_ble_eq_true rfl) rfl ?_
  refine aL0 dX12_judge_0 ?_
  refine R_iconst_0 dX12_judge_1 ?_
  refine R_putI dX12_judge_2 fX12_3 hG.o ?_
  refine storH (fun h1 e1 => ?_)
  have hP : Mp M h h1 0 := by rw [e1]; exact Mp.i h M
  replace hW : h1 (M + 1) = w := hP.w hW
  have hQ : Mz M h1 h1 := Mz.rf _ _
  refine aL0 dX12_judge_5 ?_
  refine aL0 dX12_judge_6 ?_
  refine iL1 dX12_judge_7 ?_
  refine invV1 rfl dX12_judge_8 kX12_383 hG.o (Nat.le_of_ble_eq_true rfl) (Nat.zero_le _) (Nat.zero_le _) (C_X12_noJudge hG hW hf (konI ?_))
  refine R_iconst_1 dX12_judge_11 ?_
  refine invV2 rfl dX12_judge_12 kX12_274 hG.o (Nat.le_of_ble_eq_true rfl) (Nat.zero_le _) (Nat.zero_le _) (C_X12_throwsIf hG (fun h11 hth11 => konI ?_))
  have hPE11 : ∀ hbb : (noB x (w 0)) = true, Mp M h h11 1 := fun hbb => hth11.t (hP.q hQ) hbb
  have hQE11 : ∀ hbb : (noB x (w 0)) = false, Mz M h1 h11 := fun hbb => hth11.q hQ hbb
  have hWE11 : ∀ hbb : (noB x (w 0)) = false, h11 (M + 1) = w := fun hbb => hth11.w hW hbb
  refine R_ifB_ne dX12_judge_15 (fun hb15 => ?_) (fun hb15 => ?_)
  · have hPX := hPE11 hb15
    refine R_iconst_0 dX12_judge_41 ?_
    exact R_iret dX12_judge_42 rfl (KE (noB_t hb15) _ hPX)
  · replace hQ := hQE11 hb15
    replace hW := hWE11 hb15
    have hx1 := noB_f hb15
    obtain ⟨j, rfl⟩ : ∃ j : Nat, x = (j : Int) := ⟨x.toNat, by omega⟩
    refine aL0 dX12_judge_18 ?_
    suffices J12 : Run (d + 11) 0 0 mX12_judge 34 [vR M, vI ((j : Nat) : Int), vI 2] [vI (bI (false)), vR M] g h11 P by
      refine iL2 dX12_judge_19 ?_
      refine R_iconst_0 dX12_judge_20 ?_
      refine R_bipush dX12_judge_21 (by decide) ?_
      refine invS3 rfl dX12_judge_23 kX12_101 (Nat.le_of_ble_eq_true rfl) (Nat.zero_le _) (Nat.zero_le _) (C_X12_in (konI ?_))
      refine R_ifB_ne dX12_judge_26 (fun hb26 => ?_) (fun hb26 => ?_)
      · refine R_iconst_0 dX12_judge_33 ?_
        exact topV (v := bI (false)) (by first | (exact absurd hb26 (by decide)) | rfl) J12
      · refine R_iconst_1 dX12_judge_29 ?_
        refine R_goto dX12_judge_30 ?_
        exact topV (v := bI (false)) (by first | (exact absurd hb26 (by decide)) | rfl) J12
    refine R_iconst_2 dX12_judge_34 ?_
    refine invV2 rfl dX12_judge_35 kX12_274 hG.o (Nat.le_of_ble_eq_true rfl) (Nat.zero_le _) (Nat.zero_le _) (C_X12_throwsIf hG (fun h13 hth13 => konI ?_))
    have hPE13 : ∀ hbb : (false) = true, Mp M h h13 2 := fun hbb => hth13.t (hP.q hQ) hbb
    have hQE13 : ∀ hbb : (false) = false, Mz M h1 h13 := fun hbb => hth13.q hQ hbb
    have hWE13 : ∀ hbb : (false) = false, h13 (M + 1) = w := fun hbb => hth13.w hW hbb
    refine R_ifB_eq dX12_judge_38 (fun hb38 => ?_) (fun hb38 => ?_)
    · replace hQ := hQE13 hb38
      replace hW := hWE13 hb38
      refine iL2 dX12_judge_43 ?_
      refine R_tsw (tt := 115) dX12_judge_44 (by decide) (by decide) ?_
      refine aL0 dX12_judge_115 ?_
      refine iL1 dX12_judge_116 ?_
      refine iL2 dX12_judge_117 ?_
      refine invV2 rfl dX12_judge_118 kX12_280 hG.o (Nat.le_of_ble_eq_true rfl) (Nat.zero_le _) (Nat.zero_le _) (C_X12_ofJudge hG hW (b := 2) (i := 82 + 4 * j) (by omega) (by omega) (konI ?_))
      have hq14 := hf.nv (j := j) (by omega)
      exact R_iret dX12_judge_121 rfl (K0 j rfl (by omega) _ (hP.q hQ))
    · exact absurd hb38 (by decide)
set_option maxHeartbeats 400000 in
theorem C_X12_judge_3 {d : Nat} {g : Gs} {h : Hc} {P : Po} {M : Nat} {w : Nat → Int} (hG : MdG g M) (hW : h (M + 1) = w) (hf : WF w) (hl : LawOK w) {x : Int} (KE : ¬ (0 ≤ x ∧ x < w 0) → ∀ h', Mp M h h' 1 → P (.inl (some (vI 0))) g h') (K0 : ∀ j : Nat, x = (j : Int) → (j : Int) < w 0 → ∀ h', Mp M h h' 0 → P (.inl (some (vI (w (83 + 4 * j))))) g h') : Call (d + 11) 0 0 mX12_judge [vR M, vI x, vI 3] g h P := by
  have hcs := hf.cas
  have hjd := hf.jud
  have hho := hf.hou
  refine Call_of rfl ⟨by decide +kernel, rfl⟩ (Nat.le_of_ble_eq_true rfl) rfl ?_
  refine aL0 dX12_judge_0 ?_
  refine R_iconst_0 dX12_judge_1 ?_
  refine R_putI dX12_judge_2 fX12_3 hG.o ?_
  refine storH (fun h1 e1 => ?_)
  have hP : Mp M h h1 0 := by rw [e1]; exact Mp.i h M
  replace hW : h1 (M + 1) = w := hP.w hW
  have hQ : Mz M h1 h1 := Mz.rf _ _
  refine aL0 dX12_judge_5 ?_
  refine aL0 dX12_judge_6 ?_
  refine iL1 dX12_judge_7 ?_
  refine invV1 rfl dX12_judge_8 kX12_383 hG.o (Nat.le_of_ble_eq_true rfl) (Nat.zero_le _) (Nat.zero_le _) (C_X12_noJudge hG hW hf (konI ?_))
  refine R_iconst_1 dX12_judge_11 ?_
  refine invV2 rfl dX12_judge_12 kX12_274 hG.o (Nat.le_of_ble_eq_true rfl) (Nat.zero_le _) (Nat.zero_le _) (C_X12_throwsIf hG (fun h11 hth11 => konI ?_))
  have hPE11 : ∀ hbb : (noB x (w 0)) = true, Mp M h h11 1 := fun hbb => hth11.t (hP.q hQ) hbb
  have hQE11 : ∀ hbb : (noB x (w 0)) = false, Mz M h1 h11 := fun hbb => hth11.q hQ hbb
  have hWE11 : ∀ hbb : (noB x (w 0)) = false, h11 (M + 1) = w := fun hbb => hth11.w hW hbb
  refine R_ifB_ne dX12_judge_15 (fun hb15 => ?_) (fun hb15 => ?_)
  · have hPX := hPE11 hb15
    refine R_iconst_0 dX12_judge_41 ?_
    exact R_iret dX12_judge_42 rfl (KE (noB_t hb15) _ hPX)
  · replace hQ := hQE11 hb15
    replace hW := hWE11 hb15
    have hx1 := noB_f hb15
    obtain ⟨j, rfl⟩ : ∃ j : Nat, x = (j : Int) := ⟨x.toNat, by omega⟩
    refine aL0 dX12_judge_18 ?_
    suffices J12 : Run (d + 11) 0 0 mX12_judge 34 [vR M, vI ((j : Nat) : Int), vI 3] [vI (bI (false)), vR M] g h11 P by
      refine iL2 dX12_judge_19 ?_
      refine R_iconst_0 dX12_judge_20 ?_
      refine R_bipush dX12_judge_21 (by decide) ?_
      refine invS3 rfl dX12_judge_23 kX12_101 (Nat.le_of_ble_eq_true rfl) (Nat.zero_le _) (Nat.zero_le _) (C_X12_in (konI ?_))
      refine R_ifB_ne dX12_judge_26 (fun hb26 => ?_) (fun hb26 => ?_)
      · refine R_iconst_0 dX12_judge_33 ?_
        exact topV (v := bI (false)) (by first | (exact absurd hb26 (by decide)) | rfl) J12
      · refine R_iconst_1 dX12_judge_29 ?_
        refine R_goto dX12_judge_30 ?_
        exact topV (v := bI (false)) (by first | (exact absurd hb26 (by decide)) | rfl) J12
    refine R_iconst_2 dX12_judge_34 ?_
    refine invV2 rfl dX12_judge_35 kX12_274 hG.o (Nat.le_of_ble_eq_true rfl) (Nat.zero_le _) (Nat.zero_le _) (C_X12_throwsIf hG (fun h13 hth13 => konI ?_))
    have hPE13 : ∀ hbb : (false) = true, Mp M h h13 2 := fun hbb => hth13.t (hP.q hQ) hbb
    have hQE13 : ∀ hbb : (false) = false, Mz M h1 h13 := fun hbb => hth13.q hQ hbb
    have hWE13 : ∀ hbb : (false) = false, h13 (M + 1) = w := fun hbb => hth13.w hW hbb
    refine R_ifB_eq dX12_judge_38 (fun hb38 => ?_) (fun hb38 => ?_)
    · replace hQ := hQE13 hb38
      replace hW := hWE13 hb38
      refine iL2 dX12_judge_43 ?_
      refine R_tsw (tt := 115) dX12_judge_44 (by decide) (by decide) ?_
      refine aL0 dX12_judge_115 ?_
      refine iL1 dX12_judge_116 ?_
      refine iL2 dX12_judge_117 ?_
      refine invV2 rfl dX12_judge_118 kX12_280 hG.o (Nat.le_of_ble_eq_true rfl) (Nat.zero_le _) (Nat.zero_le _) (C_X12_ofJudge hG hW (b := 3) (i := 83 + 4 * j) (by omega) (by omega) (konI ?_))
      have hq14 := hf.py (j := j) (by omega)
      exact R_iret dX12_judge_121 rfl (K0 j rfl (by omega) _ (hP.q hQ))
    · exact absurd hb38 (by decide)
set_option maxHeartbeats 400000 in
theorem C_X12_judge_4 {d : Nat} {g : Gs} {h : Hc} {P : Po} {M : Nat} {w : Nat → Int} (hG : MdG g M) (hW : h (M + 1) = w) (hf : WF w) (hl : LawOK w) {x : Int} (KE : ¬ (0 ≤ x ∧ x < w 0) → ∀ h', Mp M h h' 1 → P (.inl (some (vI 0))) g h') (K0 : ∀ j : Nat, x = (j : Int) → (j : Int) < w 0 → ∀ h', Mp M h h' 0 → P (.inl (some (vI (crW w j (waitAt w j (w 4).toNat))))) g h') : Call (d + 11) 0 0 mX12_judge [vR M, vI x, vI 4] g h P := by
  have hcs := hf.cas
  have hjd := hf.jud
  have hho := hf.hou
  refine Call_of rfl ⟨by decide +kernel, rfl⟩ (Nat.le_of_ble_eq_true rfl) rfl ?_
  refine aL0 dX12_judge_0 ?_
  refine R_iconst_0 dX12_judge_1 ?_
  refine R_putI dX12_judge_2 fX12_3 hG.o ?_
  refine storH (fun h1 e1 => ?_)
  have hP : Mp M h h1 0 := by rw [e1]; exact Mp.i h M
  replace hW : h1 (M + 1) = w := hP.w hW
  have hQ : Mz M h1 h1 := Mz.rf _ _
  refine aL0 dX12_judge_5 ?_
  refine aL0 dX12_judge_6 ?_
  refine iL1 dX12_judge_7 ?_
  refine invV1 rfl dX12_judge_8 kX12_383 hG.o (Nat.le_of_ble_eq_true rfl) (Nat.zero_le _) (Nat.zero_le _) (C_X12_noJudge hG hW hf (konI ?_))
  refine R_iconst_1 dX12_judge_11 ?_
  refine invV2 rfl dX12_judge_12 kX12_274 hG.o (Nat.le_of_ble_eq_true rfl) (Nat.zero_le _) (Nat.zero_le _) (C_X12_throwsIf hG (fun h11 hth11 => konI ?_))
  have hPE11 : ∀ hbb : (noB x (w 0)) = true, Mp M h h11 1 := fun hbb => hth11.t (hP.q hQ) hbb
  have hQE11 : ∀ hbb : (noB x (w 0)) = false, Mz M h1 h11 := fun hbb => hth11.q hQ hbb
  have hWE11 : ∀ hbb : (noB x (w 0)) = false, h11 (M + 1) = w := fun hbb => hth11.w hW hbb
  refine R_ifB_ne dX12_judge_15 (fun hb15 => ?_) (fun hb15 => ?_)
  · have hPX := hPE11 hb15
    refine R_iconst_0 dX12_judge_41 ?_
    exact R_iret dX12_judge_42 rfl (KE (noB_t hb15) _ hPX)
  · replace hQ := hQE11 hb15
    replace hW := hWE11 hb15
    have hx1 := noB_f hb15
    obtain ⟨j, rfl⟩ : ∃ j : Nat, x = (j : Int) := ⟨x.toNat, by omega⟩
    refine aL0 dX12_judge_18 ?_
    suffices J12 : Run (d + 11) 0 0 mX12_judge 34 [vR M, vI ((j : Nat) : Int), vI 4] [vI (bI (false)), vR M] g h11 P by
      refine iL2 dX12_judge_19 ?_
      refine R_iconst_0 dX12_judge_20 ?_
      refine R_bipush dX12_judge_21 (by decide) ?_
      refine invS3 rfl dX12_judge_23 kX12_101 (Nat.le_of_ble_eq_true rfl) (Nat.zero_le _) (Nat.zero_le _) (C_X12_in (konI ?_))
      refine R_ifB_ne dX12_judge_26 (fun hb26 => ?_) (fun hb26 => ?_)
      · refine R_iconst_0 dX12_judge_33 ?_
        exact topV (v := bI (false)) (by first | (exact absurd hb26 (by decide)) | rfl) J12
      · refine R_iconst_1 dX12_judge_29 ?_
        refine R_goto dX12_judge_30 ?_
        exact topV (v := bI (false)) (by first | (exact absurd hb26 (by decide)) | rfl) J12
    refine R_iconst_2 dX12_judge_34 ?_
    refine invV2 rfl dX12_judge_35 kX12_274 hG.o (Nat.le_of_ble_eq_true rfl) (Nat.zero_le _) (Nat.zero_le _) (C_X12_throwsIf hG (fun h13 hth13 => konI ?_))
    have hPE13 : ∀ hbb : (false) = true, Mp M h h13 2 := fun hbb => hth13.t (hP.q hQ) hbb
    have hQE13 : ∀ hbb : (false) = false, Mz M h1 h13 := fun hbb => hth13.q hQ hbb
    have hWE13 : ∀ hbb : (false) = false, h13 (M + 1) = w := fun hbb => hth13.w hW hbb
    refine R_ifB_eq dX12_judge_38 (fun hb38 => ?_) (fun hb38 => ?_)
    · replace hQ := hQE13 hb38
      replace hW := hWE13 hb38
      refine iL2 dX12_judge_43 ?_
      refine R_tsw (tt := 80) dX12_judge_44 (by decide) (by decide) ?_
      refine aL0 dX12_judge_80 ?_
      refine iL1 dX12_judge_81 ?_
      refine aL0 dX12_judge_82 ?_
      refine iL1 dX12_judge_83 ?_
      refine invV1 rfl dX12_judge_84 kX12_347 hG.o (Nat.le_of_ble_eq_true rfl) (Nat.zero_le _) (Nat.zero_le _) (C_X12_hasNow hG hW hf (by omega) (konI ?_))
      have hwr := waitAt_rng hf (j := j) (k := (w 4).toNat) (by omega) (by omega)
      refine invV2 rfl dX12_judge_87 kX12_356 hG.o (Nat.le_of_ble_eq_true rfl) (Nat.zero_le _) (Nat.zero_le _) (C_X12_crumbsOf hG hW hf hl (by omega) (by omega) (by omega) (fun h14 hx14 => konI ?_))
      replace hQ := hQ.tr (Mq.z hx14)
      replace hW := hx14.w hW
      exact R_iret dX12_judge_90 rfl (K0 j rfl (by omega) _ (hP.q hQ))
    · exact absurd hb38 (by decide)
set_option maxHeartbeats 400000 in
theorem C_X12_judge_5 {d : Nat} {g : Gs} {h : Hc} {P : Po} {M : Nat} {w : Nat → Int} (hG : MdG g M) (hW : h (M + 1) = w) (hf : WF w) (hl : LawOK w) {x : Int} (KE : ¬ (0 ≤ x ∧ x < w 0) → ∀ h', Mp M h h' 1 → P (.inl (some (vI 0))) g h') (K0 : ∀ j : Nat, x = (j : Int) → (j : Int) < w 0 → ∀ h', Mp M h h' 0 → P (.inl (some (vI (((cntB (harP w j) (w 1).toNat : Nat) : Int))))) g h') : Call (d + 11) 0 0 mX12_judge [vR M, vI x, vI 5] g h P := by
  have hcs := hf.cas
  have hjd := hf.jud
  have hho := hf.hou
  refine Call_of rfl ⟨by decide +kernel, rfl⟩ (Nat.le_of_ble_eq_true rfl) rfl ?_
  refine aL0 dX12_judge_0 ?_
  refine R_iconst_0 dX12_judge_1 ?_
  refine R_putI dX12_judge_2 fX12_3 hG.o ?_
  refine storH (fun h1 e1 => ?_)
  have hP : Mp M h h1 0 := by rw [e1]; exact Mp.i h M
  replace hW : h1 (M + 1) = w := hP.w hW
  have hQ : Mz M h1 h1 := Mz.rf _ _
  refine aL0 dX12_judge_5 ?_
  refine aL0 dX12_judge_6 ?_
  refine iL1 dX12_judge_7 ?_
  refine invV1 rfl dX12_judge_8 kX12_383 hG.o (Nat.le_of_ble_eq_true rfl) (Nat.zero_le _) (Nat.zero_le _) (C_X12_noJudge hG hW hf (konI ?_))
  refine R_iconst_1 dX12_judge_11 ?_
  refine invV2 rfl dX12_judge_12 kX12_274 hG.o (Nat.le_of_ble_eq_true rfl) (Nat.zero_le _) (Nat.zero_le _) (C_X12_throwsIf hG (fun h11 hth11 => konI ?_))
  have hPE11 : ∀ hbb : (noB x (w 0)) = true, Mp M h h11 1 := fun hbb => hth11.t (hP.q hQ) hbb
  have hQE11 : ∀ hbb : (noB x (w 0)) = false, Mz M h1 h11 := fun hbb => hth11.q hQ hbb
  have hWE11 : ∀ hbb : (noB x (w 0)) = false, h11 (M + 1) = w := fun hbb => hth11.w hW hbb
  refine R_ifB_ne dX12_judge_15 (fun hb15 => ?_) (fun hb15 => ?_)
  · have hPX := hPE11 hb15
    refine R_iconst_0 dX12_judge_41 ?_
    exact R_iret dX12_judge_42 rfl (KE (noB_t hb15) _ hPX)
  · replace hQ := hQE11 hb15
    replace hW := hWE11 hb15
    have hx1 := noB_f hb15
    obtain ⟨j, rfl⟩ : ∃ j : Nat, x = (j : Int) := ⟨x.toNat, by omega⟩
    refine aL0 dX12_judge_18 ?_
    suffices J12 : Run (d + 11) 0 0 mX12_judge 34 [vR M, vI ((j : Nat) : Int), vI 5] [vI (bI (false)), vR M] g h11 P by
      refine iL2 dX12_judge_19 ?_
      refine R_iconst_0 dX12_judge_20 ?_
      refine R_bipush dX12_judge_21 (by decide) ?_
      refine invS3 rfl dX12_judge_23 kX12_101 (Nat.le_of_ble_eq_true rfl) (Nat.zero_le _) (Nat.zero_le _) (C_X12_in (konI ?_))
      refine R_ifB_ne dX12_judge_26 (fun hb26 => ?_) (fun hb26 => ?_)
      · refine R_iconst_0 dX12_judge_33 ?_
        exact topV (v := bI (false)) (by first | (exact absurd hb26 (by decide)) | rfl) J12
      · refine R_iconst_1 dX12_judge_29 ?_
        refine R_goto dX12_judge_30 ?_
        exact topV (v := bI (false)) (by first | (exact absurd hb26 (by decide)) | rfl) J12
    refine R_iconst_2 dX12_judge_34 ?_
    refine invV2 rfl dX12_judge_35 kX12_274 hG.o (Nat.le_of_ble_eq_true rfl) (Nat.zero_le _) (Nat.zero_le _) (C_X12_throwsIf hG (fun h13 hth13 => konI ?_))
    have hPE13 : ∀ hbb : (false) = true, Mp M h h13 2 := fun hbb => hth13.t (hP.q hQ) hbb
    have hQE13 : ∀ hbb : (false) = false, Mz M h1 h13 := fun hbb => hth13.q hQ hbb
    have hWE13 : ∀ hbb : (false) = false, h13 (M + 1) = w := fun hbb => hth13.w hW hbb
    refine R_ifB_eq dX12_judge_38 (fun hb38 => ?_) (fun hb38 => ?_)
    · replace hQ := hQE13 hb38
      replace hW := hWE13 hb38
      refine iL2 dX12_judge_43 ?_
      refine R_tsw (tt := 91) dX12_judge_44 (by decide) (by decide) ?_
      refine aL0 dX12_judge_91 ?_
      refine iL1 dX12_judge_92 ?_
      refine invV1 rfl dX12_judge_93 kX12_386 hG.o (Nat.le_of_ble_eq_true rfl) (Nat.zero_le _) (Nat.zero_le _) (C_X12_harshOf hG hW hf hl (by omega) (fun h14 hx14 => konI ?_))
      replace hQ := hQ.tr (Mq.z hx14)
      replace hW := hx14.w hW
      exact R_iret dX12_judge_96 rfl (K0 j rfl (by omega) _ (hP.q hQ))
    · exact absurd hb38 (by decide)
set_option maxHeartbeats 400000 in
theorem C_X12_judge_6 {d : Nat} {g : Gs} {h : Hc} {P : Po} {M : Nat} {w : Nat → Int} (hG : MdG g M) (hW : h (M + 1) = w) (hf : WF w) (hl : LawOK w) {x : Int} (KE : ¬ (0 ≤ x ∧ x < w 0) → ∀ h', Mp M h h' 1 → P (.inl (some (vI 0))) g h') (K0 : ∀ j : Nat, x = (j : Int) → (j : Int) < w 0 → ∀ h', Mp M h h' 0 → P (.inl (some (vI (shareW w (j : Int))))) g h') : Call (d + 11) 0 0 mX12_judge [vR M, vI x, vI 6] g h P := by
  have hcs := hf.cas
  have hjd := hf.jud
  have hho := hf.hou
  refine Call_of rfl ⟨by decide +kernel, rfl⟩ (Nat.le_of_ble_eq_true rfl) rfl ?_
  refine aL0 dX12_judge_0 ?_
  refine R_iconst_0 dX12_judge_1 ?_
  refine R_putI dX12_judge_2 fX12_3 hG.o ?_
  refine storH (fun h1 e1 => ?_)
  have hP : Mp M h h1 0 := by rw [e1]; exact Mp.i h M
  replace hW : h1 (M + 1) = w := hP.w hW
  have hQ : Mz M h1 h1 := Mz.rf _ _
  refine aL0 dX12_judge_5 ?_
  refine aL0 dX12_judge_6 ?_
  refine iL1 dX12_judge_7 ?_
  refine invV1 rfl dX12_judge_8 kX12_383 hG.o (Nat.le_of_ble_eq_true rfl) (Nat.zero_le _) (Nat.zero_le _) (C_X12_noJudge hG hW hf (konI ?_))
  refine R_iconst_1 dX12_judge_11 ?_
  refine invV2 rfl dX12_judge_12 kX12_274 hG.o (Nat.le_of_ble_eq_true rfl) (Nat.zero_le _) (Nat.zero_le _) (C_X12_throwsIf hG (fun h11 hth11 => konI ?_))
  have hPE11 : ∀ hbb : (noB x (w 0)) = true, Mp M h h11 1 := fun hbb => hth11.t (hP.q hQ) hbb
  have hQE11 : ∀ hbb : (noB x (w 0)) = false, Mz M h1 h11 := fun hbb => hth11.q hQ hbb
  have hWE11 : ∀ hbb : (noB x (w 0)) = false, h11 (M + 1) = w := fun hbb => hth11.w hW hbb
  refine R_ifB_ne dX12_judge_15 (fun hb15 => ?_) (fun hb15 => ?_)
  · have hPX := hPE11 hb15
    refine R_iconst_0 dX12_judge_41 ?_
    exact R_iret dX12_judge_42 rfl (KE (noB_t hb15) _ hPX)
  · replace hQ := hQE11 hb15
    replace hW := hWE11 hb15
    have hx1 := noB_f hb15
    obtain ⟨j, rfl⟩ : ∃ j : Nat, x = (j : Int) := ⟨x.toNat, by omega⟩
    refine aL0 dX12_judge_18 ?_
    suffices J12 : Run (d + 11) 0 0 mX12_judge 34 [vR M, vI ((j : Nat) : Int), vI 6] [vI (bI (false)), vR M] g h11 P by
      refine iL2 dX12_judge_19 ?_
      refine R_iconst_0 dX12_judge_20 ?_
      refine R_bipush dX12_judge_21 (by decide) ?_
      refine invS3 rfl dX12_judge_23 kX12_101 (Nat.le_of_ble_eq_true rfl) (Nat.zero_le _) (Nat.zero_le _) (C_X12_in (konI ?_))
      refine R_ifB_ne dX12_judge_26 (fun hb26 => ?_) (fun hb26 => ?_)
      · refine R_iconst_0 dX12_judge_33 ?_
        exact topV (v := bI (false)) (by first | (exact absurd hb26 (by decide)) | rfl) J12
      · refine R_iconst_1 dX12_judge_29 ?_
        refine R_goto dX12_judge_30 ?_
        exact topV (v := bI (false)) (by first | (exact absurd hb26 (by decide)) | rfl) J12
    refine R_iconst_2 dX12_judge_34 ?_
    refine invV2 rfl dX12_judge_35 kX12_274 hG.o (Nat.le_of_ble_eq_true rfl) (Nat.zero_le _) (Nat.zero_le _) (C_X12_throwsIf hG (fun h13 hth13 => konI ?_))
    have hPE13 : ∀ hbb : (false) = true, Mp M h h13 2 := fun hbb => hth13.t (hP.q hQ) hbb
    have hQE13 : ∀ hbb : (false) = false, Mz M h1 h13 := fun hbb => hth13.q hQ hbb
    have hWE13 : ∀ hbb : (false) = false, h13 (M + 1) = w := fun hbb => hth13.w hW hbb
    refine R_ifB_eq dX12_judge_38 (fun hb38 => ?_) (fun hb38 => ?_)
    · replace hQ := hQE13 hb38
      replace hW := hWE13 hb38
      refine iL2 dX12_judge_43 ?_
      refine R_tsw (tt := 97) dX12_judge_44 (by decide) (by decide) ?_
      refine aL0 dX12_judge_97 ?_
      refine iL1 dX12_judge_98 ?_
      refine invV1 rfl dX12_judge_99 kX12_389 hG.o (Nat.le_of_ble_eq_true rfl) (Nat.zero_le _) (Nat.zero_le _) (C_X12_shareOf hG hW hf (konI ?_))
      exact R_iret dX12_judge_102 rfl (K0 j rfl (by omega) _ (hP.q hQ))
    · exact absurd hb38 (by decide)
set_option maxHeartbeats 400000 in
theorem C_X12_judge_7 {d : Nat} {g : Gs} {h : Hc} {P : Po} {M : Nat} {w : Nat → Int} (hG : MdG g M) (hW : h (M + 1) = w) (hf : WF w) (hl : LawOK w) {x : Int} (KE : ¬ (0 ≤ x ∧ x < w 0) → ∀ h', Mp M h h' 1 → P (.inl (some (vI 0))) g h') (K0 : ∀ j : Nat, x = (j : Int) → (j : Int) < w 0 → ∀ h', Mp M h h' 0 → P (.inl (some (vI (freeHrs w j)))) g h') : Call (d + 11) 0 0 mX12_judge [vR M, vI x, vI 7] g h P := by
  have hcs := hf.cas
  have hjd := hf.jud
  have hho := hf.hou
  refine Call_of rfl ⟨by decide +kernel, rfl⟩ (Nat.le_of_ble_eq_true rfl) rfl ?_
  refine aL0 dX12_judge_0 ?_
  refine R_iconst_0 dX12_judge_1 ?_
  refine R_putI dX12_judge_2 fX12_3 hG.o ?_
  refine storH (fun h1 e1 => ?_)
  have hP : Mp M h h1 0 := by rw [e1]; exact Mp.i h M
  replace hW : h1 (M + 1) = w := hP.w hW
  have hQ : Mz M h1 h1 := Mz.rf _ _
  refine aL0 dX12_judge_5 ?_
  refine aL0 dX12_judge_6 ?_
  refine iL1 dX12_judge_7 ?_
  refine invV1 rfl dX12_judge_8 kX12_383 hG.o (Nat.le_of_ble_eq_true rfl) (Nat.zero_le _) (Nat.zero_le _) (C_X12_noJudge hG hW hf (konI ?_))
  refine R_iconst_1 dX12_judge_11 ?_
  refine invV2 rfl dX12_judge_12 kX12_274 hG.o (Nat.le_of_ble_eq_true rfl) (Nat.zero_le _) (Nat.zero_le _) (C_X12_throwsIf hG (fun h11 hth11 => konI ?_))
  have hPE11 : ∀ hbb : (noB x (w 0)) = true, Mp M h h11 1 := fun hbb => hth11.t (hP.q hQ) hbb
  have hQE11 : ∀ hbb : (noB x (w 0)) = false, Mz M h1 h11 := fun hbb => hth11.q hQ hbb
  have hWE11 : ∀ hbb : (noB x (w 0)) = false, h11 (M + 1) = w := fun hbb => hth11.w hW hbb
  refine R_ifB_ne dX12_judge_15 (fun hb15 => ?_) (fun hb15 => ?_)
  · have hPX := hPE11 hb15
    refine R_iconst_0 dX12_judge_41 ?_
    exact R_iret dX12_judge_42 rfl (KE (noB_t hb15) _ hPX)
  · replace hQ := hQE11 hb15
    replace hW := hWE11 hb15
    have hx1 := noB_f hb15
    obtain ⟨j, rfl⟩ : ∃ j : Nat, x = (j : Int) := ⟨x.toNat, by omega⟩
    refine aL0 dX12_judge_18 ?_
    suffices J12 : Run (d + 11) 0 0 mX12_judge 34 [vR M, vI ((j : Nat) : Int), vI 7] [vI (bI (false)), vR M] g h11 P by
      refine iL2 dX12_judge_19 ?_
      refine R_iconst_0 dX12_judge_20 ?_
      refine R_bipush dX12_judge_21 (by decide) ?_
      refine invS3 rfl dX12_judge_23 kX12_101 (Nat.le_of_ble_eq_true rfl) (Nat.zero_le _) (Nat.zero_le _) (C_X12_in (konI ?_))
      refine R_ifB_ne dX12_judge_26 (fun hb26 => ?_) (fun hb26 => ?_)
      · refine R_iconst_0 dX12_judge_33 ?_
        exact topV (v := bI (false)) (by first | (exact absurd hb26 (by decide)) | rfl) J12
      · refine R_iconst_1 dX12_judge_29 ?_
        refine R_goto dX12_judge_30 ?_
        exact topV (v := bI (false)) (by first | (exact absurd hb26 (by decide)) | rfl) J12
    refine R_iconst_2 dX12_judge_34 ?_
    refine invV2 rfl dX12_judge_35 kX12_274 hG.o (Nat.le_of_ble_eq_true rfl) (Nat.zero_le _) (Nat.zero_le _) (C_X12_throwsIf hG (fun h13 hth13 => konI ?_))
    have hPE13 : ∀ hbb : (false) = true, Mp M h h13 2 := fun hbb => hth13.t (hP.q hQ) hbb
    have hQE13 : ∀ hbb : (false) = false, Mz M h1 h13 := fun hbb => hth13.q hQ hbb
    have hWE13 : ∀ hbb : (false) = false, h13 (M + 1) = w := fun hbb => hth13.w hW hbb
    refine R_ifB_eq dX12_judge_38 (fun hb38 => ?_) (fun hb38 => ?_)
    · replace hQ := hQE13 hb38
      replace hW := hWE13 hb38
      refine iL2 dX12_judge_43 ?_
      refine R_tsw (tt := 103) dX12_judge_44 (by decide) (by decide) ?_
      refine aL0 dX12_judge_103 ?_
      refine iL1 dX12_judge_104 ?_
      refine invV1 rfl dX12_judge_105 kX12_392 hG.o (Nat.le_of_ble_eq_true rfl) (Nat.zero_le _) (Nat.zero_le _) (C_X12_freeHours hG hW hf (by omega) (konI ?_))
      exact R_iret dX12_judge_108 rfl (K0 j rfl (by omega) _ (hP.q hQ))
    · exact absurd hb38 (by decide)
set_option maxHeartbeats 400000 in
theorem C_X12_judge_n {d : Nat} {g : Gs} {h : Hc} {P : Po} {M : Nat} {w : Nat → Int} (hG : MdG g M) (hW : h (M + 1) = w) (hf : WF w) (hl : LawOK w) {x y : Int} (hy : ¬ (0 ≤ y ∧ y ≤ 8)) (KE : ¬ (0 ≤ x ∧ x < w 0) → ∀ h', Mp M h h' 1 → P (.inl (some (vI 0))) g h') (KN : 0 ≤ x ∧ x < w 0 → ∀ h', Mp M h h' 2 → P (.inl (some (vI 0))) g h') : Call (d + 11) 0 0 mX12_judge [vR M, vI x, vI y] g h P := by
  have hcs := hf.cas
  have hjd := hf.jud
  have hho := hf.hou
  refine Call_of rfl ⟨by decide +kernel, rfl⟩ (Nat.le_of_ble_eq_true rfl) rfl ?_
  refine aL0 dX12_judge_0 ?_
  refine R_iconst_0 dX12_judge_1 ?_
  refine R_putI dX12_judge_2 fX12_3 hG.o ?_
  refine storH (fun h1 e1 => ?_)
  have hP : Mp M h h1 0 := by rw [e1]; exact Mp.i h M
  replace hW : h1 (M + 1) = w := hP.w hW
  have hQ : Mz M h1 h1 := Mz.rf _ _
  refine aL0 dX12_judge_5 ?_
  refine aL0 dX12_judge_6 ?_
  refine iL1 dX12_judge_7 ?_
  refine invV1 rfl dX12_judge_8 kX12_383 hG.o (Nat.le_of_ble_eq_true rfl) (Nat.zero_le _) (Nat.zero_le _) (C_X12_noJudge hG hW hf (konI ?_))
  refine R_iconst_1 dX12_judge_11 ?_
  refine invV2 rfl dX12_judge_12 kX12_274 hG.o (Nat.le_of_ble_eq_true rfl) (Nat.zero_le _) (Nat.zero_le _) (C_X12_throwsIf hG (fun h11 hth11 => konI ?_))
  have hPE11 : ∀ hbb : (noB x (w 0)) = true, Mp M h h11 1 := fun hbb => hth11.t (hP.q hQ) hbb
  have hQE11 : ∀ hbb : (noB x (w 0)) = false, Mz M h1 h11 := fun hbb => hth11.q hQ hbb
  have hWE11 : ∀ hbb : (noB x (w 0)) = false, h11 (M + 1) = w := fun hbb => hth11.w hW hbb
  refine R_ifB_ne dX12_judge_15 (fun hb15 => ?_) (fun hb15 => ?_)
  · have hPX := hPE11 hb15
    refine R_iconst_0 dX12_judge_41 ?_
    exact R_iret dX12_judge_42 rfl (KE (noB_t hb15) _ hPX)
  · replace hQ := hQE11 hb15
    replace hW := hWE11 hb15
    have hx1 := noB_f hb15
    refine aL0 dX12_judge_18 ?_
    suffices J12 : Run (d + 11) 0 0 mX12_judge 34 [vR M, vI x, vI y] [vI (bI (true)), vR M] g h11 P by
      refine iL2 dX12_judge_19 ?_
      refine R_iconst_0 dX12_judge_20 ?_
      refine R_bipush dX12_judge_21 (by decide) ?_
      refine invS3 rfl dX12_judge_23 kX12_101 (Nat.le_of_ble_eq_true rfl) (Nat.zero_le _) (Nat.zero_le _) (C_X12_in (konI ?_))
      refine R_ifB_ne dX12_judge_26 (fun hb26 => ?_) (fun hb26 => ?_)
      · refine R_iconst_0 dX12_judge_33 ?_
        exact topV (v := bI (true)) (by first | (exact absurd (of_decide_eq_true hb26) hy) | rfl) J12
      · refine R_iconst_1 dX12_judge_29 ?_
        refine R_goto dX12_judge_30 ?_
        exact topV (v := bI (true)) (by first | (exact absurd (of_decide_eq_true hb26) hy) | rfl) J12
    refine R_iconst_2 dX12_judge_34 ?_
    refine invV2 rfl dX12_judge_35 kX12_274 hG.o (Nat.le_of_ble_eq_true rfl) (Nat.zero_le _) (Nat.zero_le _) (C_X12_throwsIf hG (fun h13 hth13 => konI ?_))
    have hPE13 : ∀ hbb : (true) = true, Mp M h h13 2 := fun hbb => hth13.t (hP.q hQ) hbb
    have hQE13 : ∀ hbb : (true) = false, Mz M h1 h13 := fun hbb => hth13.q hQ hbb
    have hWE13 : ∀ hbb : (true) = false, h13 (M + 1) = w := fun hbb => hth13.w hW hbb
    refine R_ifB_eq dX12_judge_38 (fun hb38 => ?_) (fun hb38 => ?_)
    · exact absurd hb38 (by decide)
    · have hPX := hPE13 hb38
      refine R_iconst_0 dX12_judge_41 ?_
      exact R_iret dX12_judge_42 rfl (KN hx1 _ hPX)
set_option maxHeartbeats 400000 in
theorem C_X12_cause_0 {d : Nat} {g : Gs} {h : Hc} {P : Po} {M : Nat} {w : Nat → Int} (hG : MdG g M) (hW : h (M + 1) = w) (hf : WF w) (hl : LawOK w) {x : Int} (KE : ¬ (0 ≤ x ∧ x < w 1) → ∀ h', Mp M h h' 1 → P (.inl (some (vI 0))) g h') (K0 : ∀ c : Nat, x = (c : Int) → (c : Int) < w 1 → ∀ h', Mp M h h' 0 → P (.inl (some (vI (w (100 + 7 * c))))) g h') : Call (d + 11) 0 0 mX12_cause [vR M, vI x, vI 0] g h P := by
  have hcs := hf.cas
  have hjd := hf.jud
  have hho := hf.hou
  refine Call_of rfl ⟨by decide +kernel, rfl⟩ (Nat.le_of_ble_eq_true rfl) rfl ?_
  refine aL0 dX12_cause_0 ?_
  refine R_iconst_0 dX12_cause_1 ?_
  refine R_putI dX12_cause_2 fX12_3 hG.o ?_
  refine storH (fun h1 e1 => ?_)
  have hP : Mp M h h1 0 := by rw [e1]; exact Mp.i h M
  replace hW : h1 (M + 1) = w := hP.w hW
  have hQ : Mz M h1 h1 := Mz.rf _ _
  refine aL0 dX12_cause_5 ?_
  refine aL0 dX12_cause_6 ?_
  refine iL1 dX12_cause_7 ?_
  refine invV1 rfl dX12_cause_8 kX12_404 hG.o (Nat.le_of_ble_eq_true rfl) (Nat.zero_le _) (Nat.zero_le _) (C_X12_noCase hG hW hf (konI ?_))
  refine R_iconst_1 dX12_cause_11 ?_
  refine invV2 rfl dX12_cause_12 kX12_274 hG.o (Nat.le_of_ble_eq_true rfl) (Nat.zero_le _) (Nat.zero_le _) (C_X12_throwsIf hG (fun h11 hth11 => konI ?_))
  have hPE11 : ∀ hbb : (noB x (w 1)) = true, Mp M h h11 1 := fun hbb => hth11.t (hP.q hQ) hbb
  have hQE11 : ∀ hbb : (noB x (w 1)) = false, Mz M h1 h11 := fun hbb => hth11.q hQ hbb
  have hWE11 : ∀ hbb : (noB x (w 1)) = false, h11 (M + 1) = w := fun hbb => hth11.w hW hbb
  refine R_ifB_ne dX12_cause_15 (fun hb15 => ?_) (fun hb15 => ?_)
  · have hPX := hPE11 hb15
    refine R_iconst_0 dX12_cause_41 ?_
    exact R_iret dX12_cause_42 rfl (KE (noB_t hb15) _ hPX)
  · replace hQ := hQE11 hb15
    replace hW := hWE11 hb15
    have hx1 := noB_f hb15
    obtain ⟨c, rfl⟩ : ∃ c : Nat, x = (c : Int) := ⟨x.toNat, by omega⟩
    refine aL0 dX12_cause_18 ?_
    suffices J12 : Run (d + 11) 0 0 mX12_cause 34 [vR M, vI ((c : Nat) : Int), vI 0, vU] [vI (bI (false)), vR M] g h11 P by
      refine iL2 dX12_cause_19 ?_
      refine R_iconst_0 dX12_cause_20 ?_
      refine R_bipush dX12_cause_21 (by decide) ?_
      refine invS3 rfl dX12_cause_23 kX12_101 (Nat.le_of_ble_eq_true rfl) (Nat.zero_le _) (Nat.zero_le _) (C_X12_in (konI ?_))
      refine R_ifB_ne dX12_cause_26 (fun hb26 => ?_) (fun hb26 => ?_)
      · refine R_iconst_0 dX12_cause_33 ?_
        exact topV (v := bI (false)) (by first | (exact absurd hb26 (by decide)) | rfl) J12
      · refine R_iconst_1 dX12_cause_29 ?_
        refine R_goto dX12_cause_30 ?_
        exact topV (v := bI (false)) (by first | (exact absurd hb26 (by decide)) | rfl) J12
    refine R_iconst_2 dX12_cause_34 ?_
    refine invV2 rfl dX12_cause_35 kX12_274 hG.o (Nat.le_of_ble_eq_true rfl) (Nat.zero_le _) (Nat.zero_le _) (C_X12_throwsIf hG (fun h13 hth13 => konI ?_))
    have hPE13 : ∀ hbb : (false) = true, Mp M h h13 2 := fun hbb => hth13.t (hP.q hQ) hbb
    have hQE13 : ∀ hbb : (false) = false, Mz M h1 h13 := fun hbb => hth13.q hQ hbb
    have hWE13 : ∀ hbb : (false) = false, h13 (M + 1) = w := fun hbb => hth13.w hW hbb
    refine R_ifB_eq dX12_cause_38 (fun hb38 => ?_) (fun hb38 => ?_)
    · replace hQ := hQE13 hb38
      replace hW := hWE13 hb38
      refine aL0 dX12_cause_43 ?_
      refine iL1 dX12_cause_44 ?_
      refine invV1 rfl dX12_cause_45 kX12_94 hG.o (Nat.le_of_ble_eq_true rfl) (Nat.zero_le _) (Nat.zero_le _) (C_X12_placeOf hG hW hf (by omega) (konI ?_))
      have hpr : placeOf w (c : Int) = -1 ∨ (0 ≤ placeOf w (c : Int) ∧ placeOf w (c : Int) < 60) := by rcases placeOf_rng w (c : Int) with e8 | ⟨p8, h8, e8, _⟩ <;> omega
      refine iS3 dX12_cause_48 ?_
      refine iL2 dX12_cause_49 ?_
      refine R_tsw (tt := 140) dX12_cause_50 (by decide) (by decide) ?_
      refine aL0 dX12_cause_140 ?_
      refine iL1 dX12_cause_141 ?_
      refine iL2 dX12_cause_142 ?_
      refine invV2 rfl dX12_cause_143 kX12_87 hG.o (Nat.le_of_ble_eq_true rfl) (Nat.zero_le _) (Nat.zero_le _) (C_X12_of hG hW (b := 0) (i := 100 + 7 * c) (by omega) (by omega) (konI ?_))
      have hq14 := hf.ki (c := c) (by omega)
      exact R_iret dX12_cause_146 rfl (K0 c rfl (by omega) _ (hP.q hQ))
    · exact absurd hb38 (by decide)
set_option maxHeartbeats 400000 in
theorem C_X12_cause_1 {d : Nat} {g : Gs} {h : Hc} {P : Po} {M : Nat} {w : Nat → Int} (hG : MdG g M) (hW : h (M + 1) = w) (hf : WF w) (hl : LawOK w) {x : Int} (KE : ¬ (0 ≤ x ∧ x < w 1) → ∀ h', Mp M h h' 1 → P (.inl (some (vI 0))) g h') (K0 : ∀ c : Nat, x = (c : Int) → (c : Int) < w 1 → ∀ h', Mp M h h' 0 → P (.inl (some (vI (w (101 + 7 * c))))) g h') : Call (d + 11) 0 0 mX12_cause [vR M, vI x, vI 1] g h P := by
  have hcs := hf.cas
  have hjd := hf.jud
  have hho := hf.hou
  refine Call_of rfl ⟨by decide +kernel, rfl⟩ (Nat.le_of_ble_eq_true rfl) rfl ?_
  refine aL0 dX12_cause_0 ?_
  refine R_iconst_0 dX12_cause_1 ?_
  refine R_putI dX12_cause_2 fX12_3 hG.o ?_
  refine storH (fun h1 e1 => ?_)
  have hP : Mp M h h1 0 := by rw [e1]; exact Mp.i h M
  replace hW : h1 (M + 1) = w := hP.w hW
  have hQ : Mz M h1 h1 := Mz.rf _ _
  refine aL0 dX12_cause_5 ?_
  refine aL0 dX12_cause_6 ?_
  refine iL1 dX12_cause_7 ?_
  refine invV1 rfl dX12_cause_8 kX12_404 hG.o (Nat.le_of_ble_eq_true rfl) (Nat.zero_le _) (Nat.zero_le _) (C_X12_noCase hG hW hf (konI ?_))
  refine R_iconst_1 dX12_cause_11 ?_
  refine invV2 rfl dX12_cause_12 kX12_274 hG.o (Nat.le_of_ble_eq_true rfl) (Nat.zero_le _) (Nat.zero_le _) (C_X12_throwsIf hG (fun h11 hth11 => konI ?_))
  have hPE11 : ∀ hbb : (noB x (w 1)) = true, Mp M h h11 1 := fun hbb => hth11.t (hP.q hQ) hbb
  have hQE11 : ∀ hbb : (noB x (w 1)) = false, Mz M h1 h11 := fun hbb => hth11.q hQ hbb
  have hWE11 : ∀ hbb : (noB x (w 1)) = false, h11 (M + 1) = w := fun hbb => hth11.w hW hbb
  refine R_ifB_ne dX12_cause_15 (fun hb15 => ?_) (fun hb15 => ?_)
  · have hPX := hPE11 hb15
    refine R_iconst_0 dX12_cause_41 ?_
    exact R_iret dX12_cause_42 rfl (KE (noB_t hb15) _ hPX)
  · replace hQ := hQE11 hb15
    replace hW := hWE11 hb15
    have hx1 := noB_f hb15
    obtain ⟨c, rfl⟩ : ∃ c : Nat, x = (c : Int) := ⟨x.toNat, by omega⟩
    refine aL0 dX12_cause_18 ?_
    suffices J12 : Run (d + 11) 0 0 mX12_cause 34 [vR M, vI ((c : Nat) : Int), vI 1, vU] [vI (bI (false)), vR M] g h11 P by
      refine iL2 dX12_cause_19 ?_
      refine R_iconst_0 dX12_cause_20 ?_
      refine R_bipush dX12_cause_21 (by decide) ?_
      refine invS3 rfl dX12_cause_23 kX12_101 (Nat.le_of_ble_eq_true rfl) (Nat.zero_le _) (Nat.zero_le _) (C_X12_in (konI ?_))
      refine R_ifB_ne dX12_cause_26 (fun hb26 => ?_) (fun hb26 => ?_)
      · refine R_iconst_0 dX12_cause_33 ?_
        exact topV (v := bI (false)) (by first | (exact absurd hb26 (by decide)) | rfl) J12
      · refine R_iconst_1 dX12_cause_29 ?_
        refine R_goto dX12_cause_30 ?_
        exact topV (v := bI (false)) (by first | (exact absurd hb26 (by decide)) | rfl) J12
    refine R_iconst_2 dX12_cause_34 ?_
    refine invV2 rfl dX12_cause_35 kX12_274 hG.o (Nat.le_of_ble_eq_true rfl) (Nat.zero_le _) (Nat.zero_le _) (C_X12_throwsIf hG (fun h13 hth13 => konI ?_))
    have hPE13 : ∀ hbb : (false) = true, Mp M h h13 2 := fun hbb => hth13.t (hP.q hQ) hbb
    have hQE13 : ∀ hbb : (false) = false, Mz M h1 h13 := fun hbb => hth13.q hQ hbb
    have hWE13 : ∀ hbb : (false) = false, h13 (M + 1) = w := fun hbb => hth13.w hW hbb
    refine R_ifB_eq dX12_cause_38 (fun hb38 => ?_) (fun hb38 => ?_)
    · replace hQ := hQE13 hb38
      replace hW := hWE13 hb38
      refine aL0 dX12_cause_43 ?_
      refine iL1 dX12_cause_44 ?_
      refine invV1 rfl dX12_cause_45 kX12_94 hG.o (Nat.le_of_ble_eq_true rfl) (Nat.zero_le _) (Nat.zero_le _) (C_X12_placeOf hG hW hf (by omega) (konI ?_))
      have hpr : placeOf w (c : Int) = -1 ∨ (0 ≤ placeOf w (c : Int) ∧ placeOf w (c : Int) < 60) := by rcases placeOf_rng w (c : Int) with e8 | ⟨p8, h8, e8, _⟩ <;> omega
      refine iS3 dX12_cause_48 ?_
      refine iL2 dX12_cause_49 ?_
      refine R_tsw (tt := 140) dX12_cause_50 (by decide) (by decide) ?_
      refine aL0 dX12_cause_140 ?_
      refine iL1 dX12_cause_141 ?_
      refine iL2 dX12_cause_142 ?_
      refine invV2 rfl dX12_cause_143 kX12_87 hG.o (Nat.le_of_ble_eq_true rfl) (Nat.zero_le _) (Nat.zero_le _) (C_X12_of hG hW (b := 1) (i := 101 + 7 * c) (by omega) (by omega) (konI ?_))
      have hq14 := hf.gr (c := c) (by omega)
      exact R_iret dX12_cause_146 rfl (K0 c rfl (by omega) _ (hP.q hQ))
    · exact absurd hb38 (by decide)
set_option maxHeartbeats 400000 in
theorem C_X12_cause_2 {d : Nat} {g : Gs} {h : Hc} {P : Po} {M : Nat} {w : Nat → Int} (hG : MdG g M) (hW : h (M + 1) = w) (hf : WF w) (hl : LawOK w) {x : Int} (KE : ¬ (0 ≤ x ∧ x < w 1) → ∀ h', Mp M h h' 1 → P (.inl (some (vI 0))) g h') (K0 : ∀ c : Nat, x = (c : Int) → (c : Int) < w 1 → ∀ h', Mp M h h' 0 → P (.inl (some (vI (w (102 + 7 * c))))) g h') : Call (d + 11) 0 0 mX12_cause [vR M, vI x, vI 2] g h P := by
  have hcs := hf.cas
  have hjd := hf.jud
  have hho := hf.hou
  refine Call_of rfl ⟨by decide +kernel, rfl⟩ (Nat.le_of_ble_eq_true rfl) rfl ?_
  refine aL0 dX12_cause_0 ?_
  refine R_iconst_0 dX12_cause_1 ?_
  refine R_putI dX12_cause_2 fX12_3 hG.o ?_
  refine storH (fun h1 e1 => ?_)
  have hP : Mp M h h1 0 := by rw [e1]; exact Mp.i h M
  replace hW : h1 (M + 1) = w := hP.w hW
  have hQ : Mz M h1 h1 := Mz.rf _ _
  refine aL0 dX12_cause_5 ?_
  refine aL0 dX12_cause_6 ?_
  refine iL1 dX12_cause_7 ?_
  refine invV1 rfl dX12_cause_8 kX12_404 hG.o (Nat.le_of_ble_eq_true rfl) (Nat.zero_le _) (Nat.zero_le _) (C_X12_noCase hG hW hf (konI ?_))
  refine R_iconst_1 dX12_cause_11 ?_
  refine invV2 rfl dX12_cause_12 kX12_274 hG.o (Nat.le_of_ble_eq_true rfl) (Nat.zero_le _) (Nat.zero_le _) (C_X12_throwsIf hG (fun h11 hth11 => konI ?_))
  have hPE11 : ∀ hbb : (noB x (w 1)) = true, Mp M h h11 1 := fun hbb => hth11.t (hP.q hQ) hbb
  have hQE11 : ∀ hbb : (noB x (w 1)) = false, Mz M h1 h11 := fun hbb => hth11.q hQ hbb
  have hWE11 : ∀ hbb : (noB x (w 1)) = false, h11 (M + 1) = w := fun hbb => hth11.w hW hbb
  refine R_ifB_ne dX12_cause_15 (fun hb15 => ?_) (fun hb15 => ?_)
  · have hPX := hPE11 hb15
    refine R_iconst_0 dX12_cause_41 ?_
    exact R_iret dX12_cause_42 rfl (KE (noB_t hb15) _ hPX)
  · replace hQ := hQE11 hb15
    replace hW := hWE11 hb15
    have hx1 := noB_f hb15
    obtain ⟨c, rfl⟩ : ∃ c : Nat, x = (c : Int) := ⟨x.toNat, by omega⟩
    refine aL0 dX12_cause_18 ?_
    suffices J12 : Run (d + 11) 0 0 mX12_cause 34 [vR M, vI ((c : Nat) : Int), vI 2, vU] [vI (bI (false)), vR M] g h11 P by
      refine iL2 dX12_cause_19 ?_
      refine R_iconst_0 dX12_cause_20 ?_
      refine R_bipush dX12_cause_21 (by decide) ?_
      refine invS3 rfl dX12_cause_23 kX12_101 (Nat.le_of_ble_eq_true rfl) (Nat.zero_le _) (Nat.zero_le _) (C_X12_in (konI ?_))
      refine R_ifB_ne dX12_cause_26 (fun hb26 => ?_) (fun hb26 => ?_)
      · refine R_iconst_0 dX12_cause_33 ?_
        exact topV (v := bI (false)) (by first | (exact absurd hb26 (by decide)) | rfl) J12
      · refine R_iconst_1 dX12_cause_29 ?_
        refine R_goto dX12_cause_30 ?_
        exact topV (v := bI (false)) (by first | (exact absurd hb26 (by decide)) | rfl) J12
    refine R_iconst_2 dX12_cause_34 ?_
    refine invV2 rfl dX12_cause_35 kX12_274 hG.o (Nat.le_of_ble_eq_true rfl) (Nat.zero_le _) (Nat.zero_le _) (C_X12_throwsIf hG (fun h13 hth13 => konI ?_))
    have hPE13 : ∀ hbb : (false) = true, Mp M h h13 2 := fun hbb => hth13.t (hP.q hQ) hbb
    have hQE13 : ∀ hbb : (false) = false, Mz M h1 h13 := fun hbb => hth13.q hQ hbb
    have hWE13 : ∀ hbb : (false) = false, h13 (M + 1) = w := fun hbb => hth13.w hW hbb
    refine R_ifB_eq dX12_cause_38 (fun hb38 => ?_) (fun hb38 => ?_)
    · replace hQ := hQE13 hb38
      replace hW := hWE13 hb38
      refine aL0 dX12_cause_43 ?_
      refine iL1 dX12_cause_44 ?_
      refine invV1 rfl dX12_cause_45 kX12_94 hG.o (Nat.le_of_ble_eq_true rfl) (Nat.zero_le _) (Nat.zero_le _) (C_X12_placeOf hG hW hf (by omega) (konI ?_))
      have hpr : placeOf w (c : Int) = -1 ∨ (0 ≤ placeOf w (c : Int) ∧ placeOf w (c : Int) < 60) := by rcases placeOf_rng w (c : Int) with e8 | ⟨p8, h8, e8, _⟩ <;> omega
      refine iS3 dX12_cause_48 ?_
      refine iL2 dX12_cause_49 ?_
      refine R_tsw (tt := 140) dX12_cause_50 (by decide) (by decide) ?_
      refine aL0 dX12_cause_140 ?_
      refine iL1 dX12_cause_141 ?_
      refine iL2 dX12_cause_142 ?_
      refine invV2 rfl dX12_cause_143 kX12_87 hG.o (Nat.le_of_ble_eq_true rfl) (Nat.zero_le _) (Nat.zero_le _) (C_X12_of hG hW (b := 2) (i := 102 + 7 * c) (by omega) (by omega) (konI ?_))
      have hq14 := hf.wo (c := c) (by omega)
      exact R_iret dX12_cause_146 rfl (K0 c rfl (by omega) _ (hP.q hQ))
    · exact absurd hb38 (by decide)
set_option maxHeartbeats 400000 in
theorem C_X12_cause_3 {d : Nat} {g : Gs} {h : Hc} {P : Po} {M : Nat} {w : Nat → Int} (hG : MdG g M) (hW : h (M + 1) = w) (hf : WF w) (hl : LawOK w) {x : Int} (KE : ¬ (0 ≤ x ∧ x < w 1) → ∀ h', Mp M h h' 1 → P (.inl (some (vI 0))) g h') (K0 : ∀ c : Nat, x = (c : Int) → (c : Int) < w 1 → ∀ h', Mp M h h' 0 → P (.inl (some (vI (w (103 + 7 * c))))) g h') : Call (d + 11) 0 0 mX12_cause [vR M, vI x, vI 3] g h P := by
  have hcs := hf.cas
  have hjd := hf.jud
  have hho := hf.hou
  refine Call_of rfl ⟨by decide +kernel, rfl⟩ (Nat.le_of_ble_eq_true rfl) rfl ?_
  refine aL0 dX12_cause_0 ?_
  refine R_iconst_0 dX12_cause_1 ?_
  refine R_putI dX12_cause_2 fX12_3 hG.o ?_
  refine storH (fun h1 e1 => ?_)
  have hP : Mp M h h1 0 := by rw [e1]; exact Mp.i h M
  replace hW : h1 (M + 1) = w := hP.w hW
  have hQ : Mz M h1 h1 := Mz.rf _ _
  refine aL0 dX12_cause_5 ?_
  refine aL0 dX12_cause_6 ?_
  refine iL1 dX12_cause_7 ?_
  refine invV1 rfl dX12_cause_8 kX12_404 hG.o (Nat.le_of_ble_eq_true rfl) (Nat.zero_le _) (Nat.zero_le _) (C_X12_noCase hG hW hf (konI ?_))
  refine R_iconst_1 dX12_cause_11 ?_
  refine invV2 rfl dX12_cause_12 kX12_274 hG.o (Nat.le_of_ble_eq_true rfl) (Nat.zero_le _) (Nat.zero_le _) (C_X12_throwsIf hG (fun h11 hth11 => konI ?_))
  have hPE11 : ∀ hbb : (noB x (w 1)) = true, Mp M h h11 1 := fun hbb => hth11.t (hP.q hQ) hbb
  have hQE11 : ∀ hbb : (noB x (w 1)) = false, Mz M h1 h11 := fun hbb => hth11.q hQ hbb
  have hWE11 : ∀ hbb : (noB x (w 1)) = false, h11 (M + 1) = w := fun hbb => hth11.w hW hbb
  refine R_ifB_ne dX12_cause_15 (fun hb15 => ?_) (fun hb15 => ?_)
  · have hPX := hPE11 hb15
    refine R_iconst_0 dX12_cause_41 ?_
    exact R_iret dX12_cause_42 rfl (KE (noB_t hb15) _ hPX)
  · replace hQ := hQE11 hb15
    replace hW := hWE11 hb15
    have hx1 := noB_f hb15
    obtain ⟨c, rfl⟩ : ∃ c : Nat, x = (c : Int) := ⟨x.toNat, by omega⟩
    refine aL0 dX12_cause_18 ?_
    suffices J12 : Run (d + 11) 0 0 mX12_cause 34 [vR M, vI ((c : Nat) : Int), vI 3, vU] [vI (bI (false)), vR M] g h11 P by
      refine iL2 dX12_cause_19 ?_
      refine R_iconst_0 dX12_cause_20 ?_
      refine R_bipush dX12_cause_21 (by decide) ?_
      refine invS3 rfl dX12_cause_23 kX12_101 (Nat.le_of_ble_eq_true rfl) (Nat.zero_le _) (Nat.zero_le _) (C_X12_in (konI ?_))
      refine R_ifB_ne dX12_cause_26 (fun hb26 => ?_) (fun hb26 => ?_)
      · refine R_iconst_0 dX12_cause_33 ?_
        exact topV (v := bI (false)) (by first | (exact absurd hb26 (by decide)) | rfl) J12
      · refine R_iconst_1 dX12_cause_29 ?_
        refine R_goto dX12_cause_30 ?_
        exact topV (v := bI (false)) (by first | (exact absurd hb26 (by decide)) | rfl) J12
    refine R_iconst_2 dX12_cause_34 ?_
    refine invV2 rfl dX12_cause_35 kX12_274 hG.o (Nat.le_of_ble_eq_true rfl) (Nat.zero_le _) (Nat.zero_le _) (C_X12_throwsIf hG (fun h13 hth13 => konI ?_))
    have hPE13 : ∀ hbb : (false) = true, Mp M h h13 2 := fun hbb => hth13.t (hP.q hQ) hbb
    have hQE13 : ∀ hbb : (false) = false, Mz M h1 h13 := fun hbb => hth13.q hQ hbb
    have hWE13 : ∀ hbb : (false) = false, h13 (M + 1) = w := fun hbb => hth13.w hW hbb
    refine R_ifB_eq dX12_cause_38 (fun hb38 => ?_) (fun hb38 => ?_)
    · replace hQ := hQE13 hb38
      replace hW := hWE13 hb38
      refine aL0 dX12_cause_43 ?_
      refine iL1 dX12_cause_44 ?_
      refine invV1 rfl dX12_cause_45 kX12_94 hG.o (Nat.le_of_ble_eq_true rfl) (Nat.zero_le _) (Nat.zero_le _) (C_X12_placeOf hG hW hf (by omega) (konI ?_))
      have hpr : placeOf w (c : Int) = -1 ∨ (0 ≤ placeOf w (c : Int) ∧ placeOf w (c : Int) < 60) := by rcases placeOf_rng w (c : Int) with e8 | ⟨p8, h8, e8, _⟩ <;> omega
      refine iS3 dX12_cause_48 ?_
      refine iL2 dX12_cause_49 ?_
      refine R_tsw (tt := 140) dX12_cause_50 (by decide) (by decide) ?_
      refine aL0 dX12_cause_140 ?_
      refine iL1 dX12_cause_141 ?_
      refine iL2 dX12_cause_142 ?_
      refine invV2 rfl dX12_cause_143 kX12_87 hG.o (Nat.le_of_ble_eq_true rfl) (Nat.zero_le _) (Nat.zero_le _) (C_X12_of hG hW (b := 3) (i := 103 + 7 * c) (by omega) (by omega) (konI ?_))
      have hq14 := hf.on (c := c) (by omega)
      exact R_iret dX12_cause_146 rfl (K0 c rfl (by omega) _ (hP.q hQ))
    · exact absurd hb38 (by decide)
set_option maxHeartbeats 400000 in
theorem C_X12_cause_4 {d : Nat} {g : Gs} {h : Hc} {P : Po} {M : Nat} {w : Nat → Int} (hG : MdG g M) (hW : h (M + 1) = w) (hf : WF w) (hl : LawOK w) {x : Int} (KE : ¬ (0 ≤ x ∧ x < w 1) → ∀ h', Mp M h h' 1 → P (.inl (some (vI 0))) g h') (K0 : ∀ c : Nat, x = (c : Int) → (c : Int) < w 1 → ∀ h', Mp M h h' 0 → P (.inl (some (vI (w (104 + 7 * c))))) g h') : Call (d + 11) 0 0 mX12_cause [vR M, vI x, vI 4] g h P := by
  have hcs := hf.cas
  have hjd := hf.jud
  have hho := hf.hou
  refine Call_of rfl ⟨by decide +kernel, rfl⟩ (Nat.le_of_ble_eq_true rfl) rfl ?_
  refine aL0 dX12_cause_0 ?_
  refine R_iconst_0 dX12_cause_1 ?_
  refine R_putI dX12_cause_2 fX12_3 hG.o ?_
  refine storH (fun h1 e1 => ?_)
  have hP : Mp M h h1 0 := by rw [e1]; exact Mp.i h M
  replace hW : h1 (M + 1) = w := hP.w hW
  have hQ : Mz M h1 h1 := Mz.rf _ _
  refine aL0 dX12_cause_5 ?_
  refine aL0 dX12_cause_6 ?_
  refine iL1 dX12_cause_7 ?_
  refine invV1 rfl dX12_cause_8 kX12_404 hG.o (Nat.le_of_ble_eq_true rfl) (Nat.zero_le _) (Nat.zero_le _) (C_X12_noCase hG hW hf (konI ?_))
  refine R_iconst_1 dX12_cause_11 ?_
  refine invV2 rfl dX12_cause_12 kX12_274 hG.o (Nat.le_of_ble_eq_true rfl) (Nat.zero_le _) (Nat.zero_le _) (C_X12_throwsIf hG (fun h11 hth11 => konI ?_))
  have hPE11 : ∀ hbb : (noB x (w 1)) = true, Mp M h h11 1 := fun hbb => hth11.t (hP.q hQ) hbb
  have hQE11 : ∀ hbb : (noB x (w 1)) = false, Mz M h1 h11 := fun hbb => hth11.q hQ hbb
  have hWE11 : ∀ hbb : (noB x (w 1)) = false, h11 (M + 1) = w := fun hbb => hth11.w hW hbb
  refine R_ifB_ne dX12_cause_15 (fun hb15 => ?_) (fun hb15 => ?_)
  · have hPX := hPE11 hb15
    refine R_iconst_0 dX12_cause_41 ?_
    exact R_iret dX12_cause_42 rfl (KE (noB_t hb15) _ hPX)
  · replace hQ := hQE11 hb15
    replace hW := hWE11 hb15
    have hx1 := noB_f hb15
    obtain ⟨c, rfl⟩ : ∃ c : Nat, x = (c : Int) := ⟨x.toNat, by omega⟩
    refine aL0 dX12_cause_18 ?_
    suffices J12 : Run (d + 11) 0 0 mX12_cause 34 [vR M, vI ((c : Nat) : Int), vI 4, vU] [vI (bI (false)), vR M] g h11 P by
      refine iL2 dX12_cause_19 ?_
      refine R_iconst_0 dX12_cause_20 ?_
      refine R_bipush dX12_cause_21 (by decide) ?_
      refine invS3 rfl dX12_cause_23 kX12_101 (Nat.le_of_ble_eq_true rfl) (Nat.zero_le _) (Nat.zero_le _) (C_X12_in (konI ?_))
      refine R_ifB_ne dX12_cause_26 (fun hb26 => ?_) (fun hb26 => ?_)
      · refine R_iconst_0 dX12_cause_33 ?_
        exact topV (v := bI (false)) (by first | (exact absurd hb26 (by decide)) | rfl) J12
      · refine R_iconst_1 dX12_cause_29 ?_
        refine R_goto dX12_cause_30 ?_
        exact topV (v := bI (false)) (by first | (exact absurd hb26 (by decide)) | rfl) J12
    refine R_iconst_2 dX12_cause_34 ?_
    refine invV2 rfl dX12_cause_35 kX12_274 hG.o (Nat.le_of_ble_eq_true rfl) (Nat.zero_le _) (Nat.zero_le _) (C_X12_throwsIf hG (fun h13 hth13 => konI ?_))
    have hPE13 : ∀ hbb : (false) = true, Mp M h h13 2 := fun hbb => hth13.t (hP.q hQ) hbb
    have hQE13 : ∀ hbb : (false) = false, Mz M h1 h13 := fun hbb => hth13.q hQ hbb
    have hWE13 : ∀ hbb : (false) = false, h13 (M + 1) = w := fun hbb => hth13.w hW hbb
    refine R_ifB_eq dX12_cause_38 (fun hb38 => ?_) (fun hb38 => ?_)
    · replace hQ := hQE13 hb38
      replace hW := hWE13 hb38
      refine aL0 dX12_cause_43 ?_
      refine iL1 dX12_cause_44 ?_
      refine invV1 rfl dX12_cause_45 kX12_94 hG.o (Nat.le_of_ble_eq_true rfl) (Nat.zero_le _) (Nat.zero_le _) (C_X12_placeOf hG hW hf (by omega) (konI ?_))
      have hpr : placeOf w (c : Int) = -1 ∨ (0 ≤ placeOf w (c : Int) ∧ placeOf w (c : Int) < 60) := by rcases placeOf_rng w (c : Int) with e8 | ⟨p8, h8, e8, _⟩ <;> omega
      refine iS3 dX12_cause_48 ?_
      refine iL2 dX12_cause_49 ?_
      refine R_tsw (tt := 140) dX12_cause_50 (by decide) (by decide) ?_
      refine aL0 dX12_cause_140 ?_
      refine iL1 dX12_cause_141 ?_
      refine iL2 dX12_cause_142 ?_
      refine invV2 rfl dX12_cause_143 kX12_87 hG.o (Nat.le_of_ble_eq_true rfl) (Nat.zero_le _) (Nat.zero_le _) (C_X12_of hG hW (b := 4) (i := 104 + 7 * c) (by omega) (by omega) (konI ?_))
      have hq14 := hf.st (c := c) (by omega)
      exact R_iret dX12_cause_146 rfl (K0 c rfl (by omega) _ (hP.q hQ))
    · exact absurd hb38 (by decide)
set_option maxHeartbeats 400000 in
theorem C_X12_cause_5 {d : Nat} {g : Gs} {h : Hc} {P : Po} {M : Nat} {w : Nat → Int} (hG : MdG g M) (hW : h (M + 1) = w) (hf : WF w) (hl : LawOK w) {x : Int} (KE : ¬ (0 ≤ x ∧ x < w 1) → ∀ h', Mp M h h' 1 → P (.inl (some (vI 0))) g h') (K0 : ∀ c : Nat, x = (c : Int) → (c : Int) < w 1 → ∀ h', Mp M h h' 0 → P (.inl (some (vI (w (105 + 7 * c))))) g h') : Call (d + 11) 0 0 mX12_cause [vR M, vI x, vI 5] g h P := by
  have hcs := hf.cas
  have hjd := hf.jud
  have hho := hf.hou
  refine Call_of rfl ⟨by decide +kernel, rfl⟩ (Nat.le_of_ble_eq_true rfl) rfl ?_
  refine aL0 dX12_cause_0 ?_
  refine R_iconst_0 dX12_cause_1 ?_
  refine R_putI dX12_cause_2 fX12_3 hG.o ?_
  refine storH (fun h1 e1 => ?_)
  have hP : Mp M h h1 0 := by rw [e1]; exact Mp.i h M
  replace hW : h1 (M + 1) = w := hP.w hW
  have hQ : Mz M h1 h1 := Mz.rf _ _
  refine aL0 dX12_cause_5 ?_
  refine aL0 dX12_cause_6 ?_
  refine iL1 dX12_cause_7 ?_
  refine invV1 rfl dX12_cause_8 kX12_404 hG.o (Nat.le_of_ble_eq_true rfl) (Nat.zero_le _) (Nat.zero_le _) (C_X12_noCase hG hW hf (konI ?_))
  refine R_iconst_1 dX12_cause_11 ?_
  refine invV2 rfl dX12_cause_12 kX12_274 hG.o (Nat.le_of_ble_eq_true rfl) (Nat.zero_le _) (Nat.zero_le _) (C_X12_throwsIf hG (fun h11 hth11 => konI ?_))
  have hPE11 : ∀ hbb : (noB x (w 1)) = true, Mp M h h11 1 := fun hbb => hth11.t (hP.q hQ) hbb
  have hQE11 : ∀ hbb : (noB x (w 1)) = false, Mz M h1 h11 := fun hbb => hth11.q hQ hbb
  have hWE11 : ∀ hbb : (noB x (w 1)) = false, h11 (M + 1) = w := fun hbb => hth11.w hW hbb
  refine R_ifB_ne dX12_cause_15 (fun hb15 => ?_) (fun hb15 => ?_)
  · have hPX := hPE11 hb15
    refine R_iconst_0 dX12_cause_41 ?_
    exact R_iret dX12_cause_42 rfl (KE (noB_t hb15) _ hPX)
  · replace hQ := hQE11 hb15
    replace hW := hWE11 hb15
    have hx1 := noB_f hb15
    obtain ⟨c, rfl⟩ : ∃ c : Nat, x = (c : Int) := ⟨x.toNat, by omega⟩
    refine aL0 dX12_cause_18 ?_
    suffices J12 : Run (d + 11) 0 0 mX12_cause 34 [vR M, vI ((c : Nat) : Int), vI 5, vU] [vI (bI (false)), vR M] g h11 P by
      refine iL2 dX12_cause_19 ?_
      refine R_iconst_0 dX12_cause_20 ?_
      refine R_bipush dX12_cause_21 (by decide) ?_
      refine invS3 rfl dX12_cause_23 kX12_101 (Nat.le_of_ble_eq_true rfl) (Nat.zero_le _) (Nat.zero_le _) (C_X12_in (konI ?_))
      refine R_ifB_ne dX12_cause_26 (fun hb26 => ?_) (fun hb26 => ?_)
      · refine R_iconst_0 dX12_cause_33 ?_
        exact topV (v := bI (false)) (by first | (exact absurd hb26 (by decide)) | rfl) J12
      · refine R_iconst_1 dX12_cause_29 ?_
        refine R_goto dX12_cause_30 ?_
        exact topV (v := bI (false)) (by first | (exact absurd hb26 (by decide)) | rfl) J12
    refine R_iconst_2 dX12_cause_34 ?_
    refine invV2 rfl dX12_cause_35 kX12_274 hG.o (Nat.le_of_ble_eq_true rfl) (Nat.zero_le _) (Nat.zero_le _) (C_X12_throwsIf hG (fun h13 hth13 => konI ?_))
    have hPE13 : ∀ hbb : (false) = true, Mp M h h13 2 := fun hbb => hth13.t (hP.q hQ) hbb
    have hQE13 : ∀ hbb : (false) = false, Mz M h1 h13 := fun hbb => hth13.q hQ hbb
    have hWE13 : ∀ hbb : (false) = false, h13 (M + 1) = w := fun hbb => hth13.w hW hbb
    refine R_ifB_eq dX12_cause_38 (fun hb38 => ?_) (fun hb38 => ?_)
    · replace hQ := hQE13 hb38
      replace hW := hWE13 hb38
      refine aL0 dX12_cause_43 ?_
      refine iL1 dX12_cause_44 ?_
      refine invV1 rfl dX12_cause_45 kX12_94 hG.o (Nat.le_of_ble_eq_true rfl) (Nat.zero_le _) (Nat.zero_le _) (C_X12_placeOf hG hW hf (by omega) (konI ?_))
      have hpr : placeOf w (c : Int) = -1 ∨ (0 ≤ placeOf w (c : Int) ∧ placeOf w (c : Int) < 60) := by rcases placeOf_rng w (c : Int) with e8 | ⟨p8, h8, e8, _⟩ <;> omega
      refine iS3 dX12_cause_48 ?_
      refine iL2 dX12_cause_49 ?_
      refine R_tsw (tt := 140) dX12_cause_50 (by decide) (by decide) ?_
      refine aL0 dX12_cause_140 ?_
      refine iL1 dX12_cause_141 ?_
      refine iL2 dX12_cause_142 ?_
      refine invV2 rfl dX12_cause_143 kX12_87 hG.o (Nat.le_of_ble_eq_true rfl) (Nat.zero_le _) (Nat.zero_le _) (C_X12_of hG hW (b := 5) (i := 105 + 7 * c) (by omega) (by omega) (konI ?_))
      have hq14 := hf.by_ (c := c) (by omega)
      exact R_iret dX12_cause_146 rfl (K0 c rfl (by omega) _ (hP.q hQ))
    · exact absurd hb38 (by decide)
set_option maxHeartbeats 400000 in
theorem C_X12_cause_6 {d : Nat} {g : Gs} {h : Hc} {P : Po} {M : Nat} {w : Nat → Int} (hG : MdG g M) (hW : h (M + 1) = w) (hf : WF w) (hl : LawOK w) {x : Int} (KE : ¬ (0 ≤ x ∧ x < w 1) → ∀ h', Mp M h h' 1 → P (.inl (some (vI 0))) g h') (K0 : ∀ c : Nat, x = (c : Int) → (c : Int) < w 1 → ∀ h', Mp M h h' 0 → P (.inl (some (vI (w (106 + 7 * c))))) g h') : Call (d + 11) 0 0 mX12_cause [vR M, vI x, vI 6] g h P := by
  have hcs := hf.cas
  have hjd := hf.jud
  have hho := hf.hou
  refine Call_of rfl ⟨by decide +kernel, rfl⟩ (Nat.le_of_ble_eq_true rfl) rfl ?_
  refine aL0 dX12_cause_0 ?_
  refine R_iconst_0 dX12_cause_1 ?_
  refine R_putI dX12_cause_2 fX12_3 hG.o ?_
  refine storH (fun h1 e1 => ?_)
  have hP : Mp M h h1 0 := by rw [e1]; exact Mp.i h M
  replace hW : h1 (M + 1) = w := hP.w hW
  have hQ : Mz M h1 h1 := Mz.rf _ _
  refine aL0 dX12_cause_5 ?_
  refine aL0 dX12_cause_6 ?_
  refine iL1 dX12_cause_7 ?_
  refine invV1 rfl dX12_cause_8 kX12_404 hG.o (Nat.le_of_ble_eq_true rfl) (Nat.zero_le _) (Nat.zero_le _) (C_X12_noCase hG hW hf (konI ?_))
  refine R_iconst_1 dX12_cause_11 ?_
  refine invV2 rfl dX12_cause_12 kX12_274 hG.o (Nat.le_of_ble_eq_true rfl) (Nat.zero_le _) (Nat.zero_le _) (C_X12_throwsIf hG (fun h11 hth11 => konI ?_))
  have hPE11 : ∀ hbb : (noB x (w 1)) = true, Mp M h h11 1 := fun hbb => hth11.t (hP.q hQ) hbb
  have hQE11 : ∀ hbb : (noB x (w 1)) = false, Mz M h1 h11 := fun hbb => hth11.q hQ hbb
  have hWE11 : ∀ hbb : (noB x (w 1)) = false, h11 (M + 1) = w := fun hbb => hth11.w hW hbb
  refine R_ifB_ne dX12_cause_15 (fun hb15 => ?_) (fun hb15 => ?_)
  · have hPX := hPE11 hb15
    refine R_iconst_0 dX12_cause_41 ?_
    exact R_iret dX12_cause_42 rfl (KE (noB_t hb15) _ hPX)
  · replace hQ := hQE11 hb15
    replace hW := hWE11 hb15
    have hx1 := noB_f hb15
    obtain ⟨c, rfl⟩ : ∃ c : Nat, x = (c : Int) := ⟨x.toNat, by omega⟩
    refine aL0 dX12_cause_18 ?_
    suffices J12 : Run (d + 11) 0 0 mX12_cause 34 [vR M, vI ((c : Nat) : Int), vI 6, vU] [vI (bI (false)), vR M] g h11 P by
      refine iL2 dX12_cause_19 ?_
      refine R_iconst_0 dX12_cause_20 ?_
      refine R_bipush dX12_cause_21 (by decide) ?_
      refine invS3 rfl dX12_cause_23 kX12_101 (Nat.le_of_ble_eq_true rfl) (Nat.zero_le _) (Nat.zero_le _) (C_X12_in (konI ?_))
      refine R_ifB_ne dX12_cause_26 (fun hb26 => ?_) (fun hb26 => ?_)
      · refine R_iconst_0 dX12_cause_33 ?_
        exact topV (v := bI (false)) (by first | (exact absurd hb26 (by decide)) | rfl) J12
      · refine R_iconst_1 dX12_cause_29 ?_
        refine R_goto dX12_cause_30 ?_
        exact topV (v := bI (false)) (by first | (exact absurd hb26 (by decide)) | rfl) J12
    refine R_iconst_2 dX12_cause_34 ?_
    refine invV2 rfl dX12_cause_35 kX12_274 hG.o (Nat.le_of_ble_eq_true rfl) (Nat.zero_le _) (Nat.zero_le _) (C_X12_throwsIf hG (fun h13 hth13 => konI ?_))
    have hPE13 : ∀ hbb : (false) = true, Mp M h h13 2 := fun hbb => hth13.t (hP.q hQ) hbb
    have hQE13 : ∀ hbb : (false) = false, Mz M h1 h13 := fun hbb => hth13.q hQ hbb
    have hWE13 : ∀ hbb : (false) = false, h13 (M + 1) = w := fun hbb => hth13.w hW hbb
    refine R_ifB_eq dX12_cause_38 (fun hb38 => ?_) (fun hb38 => ?_)
    · replace hQ := hQE13 hb38
      replace hW := hWE13 hb38
      refine aL0 dX12_cause_43 ?_
      refine iL1 dX12_cause_44 ?_
      refine invV1 rfl dX12_cause_45 kX12_94 hG.o (Nat.le_of_ble_eq_true rfl) (Nat.zero_le _) (Nat.zero_le _) (C_X12_placeOf hG hW hf (by omega) (konI ?_))
      have hpr : placeOf w (c : Int) = -1 ∨ (0 ≤ placeOf w (c : Int) ∧ placeOf w (c : Int) < 60) := by rcases placeOf_rng w (c : Int) with e8 | ⟨p8, h8, e8, _⟩ <;> omega
      refine iS3 dX12_cause_48 ?_
      refine iL2 dX12_cause_49 ?_
      refine R_tsw (tt := 140) dX12_cause_50 (by decide) (by decide) ?_
      refine aL0 dX12_cause_140 ?_
      refine iL1 dX12_cause_141 ?_
      refine iL2 dX12_cause_142 ?_
      refine invV2 rfl dX12_cause_143 kX12_87 hG.o (Nat.le_of_ble_eq_true rfl) (Nat.zero_le _) (Nat.zero_le _) (C_X12_of hG hW (b := 6) (i := 106 + 7 * c) (by omega) (by omega) (konI ?_))
      have hq14 := hf.dy (c := c) (by omega)
      exact R_iret dX12_cause_146 rfl (K0 c rfl (by omega) _ (hP.q hQ))
    · exact absurd hb38 (by decide)
set_option maxHeartbeats 400000 in
theorem C_X12_cause_7 {d : Nat} {g : Gs} {h : Hc} {P : Po} {M : Nat} {w : Nat → Int} (hG : MdG g M) (hW : h (M + 1) = w) (hf : WF w) (hl : LawOK w) {x : Int} (KE : ¬ (0 ≤ x ∧ x < w 1) → ∀ h', Mp M h h' 1 → P (.inl (some (vI 0))) g h') (K0 : ∀ c : Nat, x = (c : Int) → (c : Int) < w 1 → ∀ h', Mp M h h' 0 → P (.inl (some (vI (if placeOf w (c : Int) < 0 then -1 else placeOf w (c : Int) / 12)))) g h') : Call (d + 11) 0 0 mX12_cause [vR M, vI x, vI 7] g h P := by
  have hcs := hf.cas
  have hjd := hf.jud
  have hho := hf.hou
  refine Call_of rfl ⟨by decide +kernel, rfl⟩ (Nat.le_of_ble_eq_true rfl) rfl ?_
  refine aL0 dX12_cause_0 ?_
  refine R_iconst_0 dX12_cause_1 ?_
  refine R_putI dX12_cause_2 fX12_3 hG.o ?_
  refine storH (fun h1 e1 => ?_)
  have hP : Mp M h h1 0 := by rw [e1]; exact Mp.i h M
  replace hW : h1 (M + 1) = w := hP.w hW
  have hQ : Mz M h1 h1 := Mz.rf _ _
  refine aL0 dX12_cause_5 ?_
  refine aL0 dX12_cause_6 ?_
  refine iL1 dX12_cause_7 ?_
  refine invV1 rfl dX12_cause_8 kX12_404 hG.o (Nat.le_of_ble_eq_true rfl) (Nat.zero_le _) (Nat.zero_le _) (C_X12_noCase hG hW hf (konI ?_))
  refine R_iconst_1 dX12_cause_11 ?_
  refine invV2 rfl dX12_cause_12 kX12_274 hG.o (Nat.le_of_ble_eq_true rfl) (Nat.zero_le _) (Nat.zero_le _) (C_X12_throwsIf hG (fun h11 hth11 => konI ?_))
  have hPE11 : ∀ hbb : (noB x (w 1)) = true, Mp M h h11 1 := fun hbb => hth11.t (hP.q hQ) hbb
  have hQE11 : ∀ hbb : (noB x (w 1)) = false, Mz M h1 h11 := fun hbb => hth11.q hQ hbb
  have hWE11 : ∀ hbb : (noB x (w 1)) = false, h11 (M + 1) = w := fun hbb => hth11.w hW hbb
  refine R_ifB_ne dX12_cause_15 (fun hb15 => ?_) (fun hb15 => ?_)
  · have hPX := hPE11 hb15
    refine R_iconst_0 dX12_cause_41 ?_
    exact R_iret dX12_cause_42 rfl (KE (noB_t hb15) _ hPX)
  · replace hQ := hQE11 hb15
    replace hW := hWE11 hb15
    have hx1 := noB_f hb15
    obtain ⟨c, rfl⟩ : ∃ c : Nat, x = (c : Int) := ⟨x.toNat, by omega⟩
    refine aL0 dX12_cause_18 ?_
    suffices J12 : Run (d + 11) 0 0 mX12_cause 34 [vR M, vI ((c : Nat) : Int), vI 7, vU] [vI (bI (false)), vR M] g h11 P by
      refine iL2 dX12_cause_19 ?_
      refine R_iconst_0 dX12_cause_20 ?_
      refine R_bipush dX12_cause_21 (by decide) ?_
      refine invS3 rfl dX12_cause_23 kX12_101 (Nat.le_of_ble_eq_true rfl) (Nat.zero_le _) (Nat.zero_le _) (C_X12_in (konI ?_))
      refine R_ifB_ne dX12_cause_26 (fun hb26 => ?_) (fun hb26 => ?_)
      · refine R_iconst_0 dX12_cause_33 ?_
        exact topV (v := bI (false)) (by first | (exact absurd hb26 (by decide)) | rfl) J12
      · refine R_iconst_1 dX12_cause_29 ?_
        refine R_goto dX12_cause_30 ?_
        exact topV (v := bI (false)) (by first | (exact absurd hb26 (by decide)) | rfl) J12
    refine R_iconst_2 dX12_cause_34 ?_
    refine invV2 rfl dX12_cause_35 kX12_274 hG.o (Nat.le_of_ble_eq_true rfl) (Nat.zero_le _) (Nat.zero_le _) (C_X12_throwsIf hG (fun h13 hth13 => konI ?_))
    have hPE13 : ∀ hbb : (false) = true, Mp M h h13 2 := fun hbb => hth13.t (hP.q hQ) hbb
    have hQE13 : ∀ hbb : (false) = false, Mz M h1 h13 := fun hbb => hth13.q hQ hbb
    have hWE13 : ∀ hbb : (false) = false, h13 (M + 1) = w := fun hbb => hth13.w hW hbb
    refine R_ifB_eq dX12_cause_38 (fun hb38 => ?_) (fun hb38 => ?_)
    · replace hQ := hQE13 hb38
      replace hW := hWE13 hb38
      refine aL0 dX12_cause_43 ?_
      refine iL1 dX12_cause_44 ?_
      refine invV1 rfl dX12_cause_45 kX12_94 hG.o (Nat.le_of_ble_eq_true rfl) (Nat.zero_le _) (Nat.zero_le _) (C_X12_placeOf hG hW hf (by omega) (konI ?_))
      have hpr : placeOf w (c : Int) = -1 ∨ (0 ≤ placeOf w (c : Int) ∧ placeOf w (c : Int) < 60) := by rcases placeOf_rng w (c : Int) with e8 | ⟨p8, h8, e8, _⟩ <;> omega
      refine iS3 dX12_cause_48 ?_
      refine iL2 dX12_cause_49 ?_
      refine R_tsw (tt := 88) dX12_cause_50 (by decide) (by decide) ?_
      refine iL3 dX12_cause_88 ?_
      refine R_iconst_m1 dX12_cause_89 ?_
      refine R_icmp_ne dX12_cause_90 (fun hb90 => ?_) (fun hb90 => ?_)
      · refine iL3 dX12_cause_97 ?_
        refine R_bipush dX12_cause_98 (by decide) ?_
        refine divV dX12_cause_100 (by decide) (divI (by omega) (by omega) (by omega)) ?_
        exact R_iret dX12_cause_101 rfl (PeqI (K0 c rfl (by omega) _ (hP.q hQ)) (by first | (rw [if_pos (by omega)]; done) | (rw [if_neg (by omega)]; done)))
      · refine R_iconst_m1 dX12_cause_93 ?_
        refine R_goto dX12_cause_94 ?_
        exact R_iret dX12_cause_101 rfl (PeqI (K0 c rfl (by omega) _ (hP.q hQ)) (by first | (rw [if_pos (by omega)]; done) | (rw [if_neg (by omega)]; done)))
    · exact absurd hb38 (by decide)
set_option maxHeartbeats 400000 in
theorem C_X12_cause_8 {d : Nat} {g : Gs} {h : Hc} {P : Po} {M : Nat} {w : Nat → Int} (hG : MdG g M) (hW : h (M + 1) = w) (hf : WF w) (hl : LawOK w) {x : Int} (KE : ¬ (0 ≤ x ∧ x < w 1) → ∀ h', Mp M h h' 1 → P (.inl (some (vI 0))) g h') (K0 : ∀ c : Nat, x = (c : Int) → (c : Int) < w 1 → ∀ h', Mp M h h' 0 → P (.inl (some (vI (if placeOf w (c : Int) < 0 then -1 else placeOf w (c : Int) % 12)))) g h') : Call (d + 11) 0 0 mX12_cause [vR M, vI x, vI 8] g h P := by
  have hcs := hf.cas
  have hjd := hf.jud
  have hho := hf.hou
  refine Call_of rfl ⟨by decide +kernel, rfl⟩ (Nat.le_of_ble_eq_true rfl) rfl ?_
  refine aL0 dX12_cause_0 ?_
  refine R_iconst_0 dX12_cause_1 ?_
  refine R_putI dX12_cause_2 fX12_3 hG.o ?_
  refine storH (fun h1 e1 => ?_)
  have hP : Mp M h h1 0 := by rw [e1]; exact Mp.i h M
  replace hW : h1 (M + 1) = w := hP.w hW
  have hQ : Mz M h1 h1 := Mz.rf _ _
  refine aL0 dX12_cause_5 ?_
  refine aL0 dX12_cause_6 ?_
  refine iL1 dX12_cause_7 ?_
  refine invV1 rfl dX12_cause_8 kX12_404 hG.o (Nat.le_of_ble_eq_true rfl) (Nat.zero_le _) (Nat.zero_le _) (C_X12_noCase hG hW hf (konI ?_))
  refine R_iconst_1 dX12_cause_11 ?_
  refine invV2 rfl dX12_cause_12 kX12_274 hG.o (Nat.le_of_ble_eq_true rfl) (Nat.zero_le _) (Nat.zero_le _) (C_X12_throwsIf hG (fun h11 hth11 => konI ?_))
  have hPE11 : ∀ hbb : (noB x (w 1)) = true, Mp M h h11 1 := fun hbb => hth11.t (hP.q hQ) hbb
  have hQE11 : ∀ hbb : (noB x (w 1)) = false, Mz M h1 h11 := fun hbb => hth11.q hQ hbb
  have hWE11 : ∀ hbb : (noB x (w 1)) = false, h11 (M + 1) = w := fun hbb => hth11.w hW hbb
  refine R_ifB_ne dX12_cause_15 (fun hb15 => ?_) (fun hb15 => ?_)
  · have hPX := hPE11 hb15
    refine R_iconst_0 dX12_cause_41 ?_
    exact R_iret dX12_cause_42 rfl (KE (noB_t hb15) _ hPX)
  · replace hQ := hQE11 hb15
    replace hW := hWE11 hb15
    have hx1 := noB_f hb15
    obtain ⟨c, rfl⟩ : ∃ c : Nat, x = (c : Int) := ⟨x.toNat, by omega⟩
    refine aL0 dX12_cause_18 ?_
    suffices J12 : Run (d + 11) 0 0 mX12_cause 34 [vR M, vI ((c : Nat) : Int), vI 8, vU] [vI (bI (false)), vR M] g h11 P by
      refine iL2 dX12_cause_19 ?_
      refine R_iconst_0 dX12_cause_20 ?_
      refine R_bipush dX12_cause_21 (by decide) ?_
      refine invS3 rfl dX12_cause_23 kX12_101 (Nat.le_of_ble_eq_true rfl) (Nat.zero_le _) (Nat.zero_le _) (C_X12_in (konI ?_))
      refine R_ifB_ne dX12_cause_26 (fun hb26 => ?_) (fun hb26 => ?_)
      · refine R_iconst_0 dX12_cause_33 ?_
        exact topV (v := bI (false)) (by first | (exact absurd hb26 (by decide)) | rfl) J12
      · refine R_iconst_1 dX12_cause_29 ?_
        refine R_goto dX12_cause_30 ?_
        exact topV (v := bI (false)) (by first | (exact absurd hb26 (by decide)) | rfl) J12
    refine R_iconst_2 dX12_cause_34 ?_
    refine invV2 rfl dX12_cause_35 kX12_274 hG.o (Nat.le_of_ble_eq_true rfl) (Nat.zero_le _) (Nat.zero_le _) (C_X12_throwsIf hG (fun h13 hth13 => konI ?_))
    have hPE13 : ∀ hbb : (false) = true, Mp M h h13 2 := fun hbb => hth13.t (hP.q hQ) hbb
    have hQE13 : ∀ hbb : (false) = false, Mz M h1 h13 := fun hbb => hth13.q hQ hbb
    have hWE13 : ∀ hbb : (false) = false, h13 (M + 1) = w := fun hbb => hth13.w hW hbb
    refine R_ifB_eq dX12_cause_38 (fun hb38 => ?_) (fun hb38 => ?_)
    · replace hQ := hQE13 hb38
      replace hW := hWE13 hb38
      refine aL0 dX12_cause_43 ?_
      refine iL1 dX12_cause_44 ?_
      refine invV1 rfl dX12_cause_45 kX12_94 hG.o (Nat.le_of_ble_eq_true rfl) (Nat.zero_le _) (Nat.zero_le _) (C_X12_placeOf hG hW hf (by omega) (konI ?_))
      have hpr : placeOf w (c : Int) = -1 ∨ (0 ≤ placeOf w (c : Int) ∧ placeOf w (c : Int) < 60) := by rcases placeOf_rng w (c : Int) with e8 | ⟨p8, h8, e8, _⟩ <;> omega
      refine iS3 dX12_cause_48 ?_
      refine iL2 dX12_cause_49 ?_
      refine R_tsw (tt := 102) dX12_cause_50 (by decide) (by decide) ?_
      refine iL3 dX12_cause_102 ?_
      refine R_iconst_m1 dX12_cause_103 ?_
      refine R_icmp_ne dX12_cause_104 (fun hb104 => ?_) (fun hb104 => ?_)
      · refine iL3 dX12_cause_111 ?_
        refine R_bipush dX12_cause_112 (by decide) ?_
        refine remV dX12_cause_114 (by decide) (remI (by omega) (by omega) (by omega)) ?_
        exact R_iret dX12_cause_115 rfl (PeqI (K0 c rfl (by omega) _ (hP.q hQ)) (by first | (rw [if_pos (by omega)]; done) | (rw [if_neg (by omega)]; done)))
      · refine R_iconst_m1 dX12_cause_107 ?_
        refine R_goto dX12_cause_108 ?_
        exact R_iret dX12_cause_115 rfl (PeqI (K0 c rfl (by omega) _ (hP.q hQ)) (by first | (rw [if_pos (by omega)]; done) | (rw [if_neg (by omega)]; done)))
    · exact absurd hb38 (by decide)
set_option maxHeartbeats 400000 in
theorem C_X12_cause_9 {d : Nat} {g : Gs} {h : Hc} {P : Po} {M : Nat} {w : Nat → Int} (hG : MdG g M) (hW : h (M + 1) = w) (hf : WF w) (hl : LawOK w) {x : Int} (KE : ¬ (0 ≤ x ∧ x < w 1) → ∀ h', Mp M h h' 1 → P (.inl (some (vI 0))) g h') (K0 : ∀ c : Nat, x = (c : Int) → (c : Int) < w 1 → ∀ h', Mp M h h' 0 → P (.inl (some (vI (leanOn w c)))) g h') : Call (d + 11) 0 0 mX12_cause [vR M, vI x, vI 9] g h P := by
  have hcs := hf.cas
  have hjd := hf.jud
  have hho := hf.hou
  refine Call_of rfl ⟨by decide +kernel, rfl⟩ (Nat.le_of_ble_eq_true rfl) rfl ?_
  refine aL0 dX12_cause_0 ?_
  refine R_iconst_0 dX12_cause_1 ?_
  refine R_putI dX12_cause_2 fX12_3 hG.o ?_
  refine storH (fun h1 e1 => ?_)
  have hP : Mp M h h1 0 := by rw [e1]; exact Mp.i h M
  replace hW : h1 (M + 1) = w := hP.w hW
  have hQ : Mz M h1 h1 := Mz.rf _ _
  refine aL0 dX12_cause_5 ?_
  refine aL0 dX12_cause_6 ?_
  refine iL1 dX12_cause_7 ?_
  refine invV1 rfl dX12_cause_8 kX12_404 hG.o (Nat.le_of_ble_eq_true rfl) (Nat.zero_le _) (Nat.zero_le _) (C_X12_noCase hG hW hf (konI ?_))
  refine R_iconst_1 dX12_cause_11 ?_
  refine invV2 rfl dX12_cause_12 kX12_274 hG.o (Nat.le_of_ble_eq_true rfl) (Nat.zero_le _) (Nat.zero_le _) (C_X12_throwsIf hG (fun h11 hth11 => konI ?_))
  have hPE11 : ∀ hbb : (noB x (w 1)) = true, Mp M h h11 1 := fun hbb => hth11.t (hP.q hQ) hbb
  have hQE11 : ∀ hbb : (noB x (w 1)) = false, Mz M h1 h11 := fun hbb => hth11.q hQ hbb
  have hWE11 : ∀ hbb : (noB x (w 1)) = false, h11 (M + 1) = w := fun hbb => hth11.w hW hbb
  refine R_ifB_ne dX12_cause_15 (fun hb15 => ?_) (fun hb15 => ?_)
  · have hPX := hPE11 hb15
    refine R_iconst_0 dX12_cause_41 ?_
    exact R_iret dX12_cause_42 rfl (KE (noB_t hb15) _ hPX)
  · replace hQ := hQE11 hb15
    replace hW := hWE11 hb15
    have hx1 := noB_f hb15
    obtain ⟨c, rfl⟩ : ∃ c : Nat, x = (c : Int) := ⟨x.toNat, by omega⟩
    refine aL0 dX12_cause_18 ?_
    suffices J12 : Run (d + 11) 0 0 mX12_cause 34 [vR M, vI ((c : Nat) : Int), vI 9, vU] [vI (bI (false)), vR M] g h11 P by
      refine iL2 dX12_cause_19 ?_
      refine R_iconst_0 dX12_cause_20 ?_
      refine R_bipush dX12_cause_21 (by decide) ?_
      refine invS3 rfl dX12_cause_23 kX12_101 (Nat.le_of_ble_eq_true rfl) (Nat.zero_le _) (Nat.zero_le _) (C_X12_in (konI ?_))
      refine R_ifB_ne dX12_cause_26 (fun hb26 => ?_) (fun hb26 => ?_)
      · refine R_iconst_0 dX12_cause_33 ?_
        exact topV (v := bI (false)) (by first | (exact absurd hb26 (by decide)) | rfl) J12
      · refine R_iconst_1 dX12_cause_29 ?_
        refine R_goto dX12_cause_30 ?_
        exact topV (v := bI (false)) (by first | (exact absurd hb26 (by decide)) | rfl) J12
    refine R_iconst_2 dX12_cause_34 ?_
    refine invV2 rfl dX12_cause_35 kX12_274 hG.o (Nat.le_of_ble_eq_true rfl) (Nat.zero_le _) (Nat.zero_le _) (C_X12_throwsIf hG (fun h13 hth13 => konI ?_))
    have hPE13 : ∀ hbb : (false) = true, Mp M h h13 2 := fun hbb => hth13.t (hP.q hQ) hbb
    have hQE13 : ∀ hbb : (false) = false, Mz M h1 h13 := fun hbb => hth13.q hQ hbb
    have hWE13 : ∀ hbb : (false) = false, h13 (M + 1) = w := fun hbb => hth13.w hW hbb
    refine R_ifB_eq dX12_cause_38 (fun hb38 => ?_) (fun hb38 => ?_)
    · replace hQ := hQE13 hb38
      replace hW := hWE13 hb38
      refine aL0 dX12_cause_43 ?_
      refine iL1 dX12_cause_44 ?_
      refine invV1 rfl dX12_cause_45 kX12_94 hG.o (Nat.le_of_ble_eq_true rfl) (Nat.zero_le _) (Nat.zero_le _) (C_X12_placeOf hG hW hf (by omega) (konI ?_))
      have hpr : placeOf w (c : Int) = -1 ∨ (0 ≤ placeOf w (c : Int) ∧ placeOf w (c : Int) < 60) := by rcases placeOf_rng w (c : Int) with e8 | ⟨p8, h8, e8, _⟩ <;> omega
      refine iS3 dX12_cause_48 ?_
      refine iL2 dX12_cause_49 ?_
      refine R_tsw (tt := 116) dX12_cause_50 (by decide) (by decide) ?_
      refine aL0 dX12_cause_116 ?_
      refine iL1 dX12_cause_117 ?_
      refine invV1 rfl dX12_cause_118 kX12_334 hG.o (Nat.le_of_ble_eq_true rfl) (Nat.zero_le _) (Nat.zero_le _) (C_X12_leaningOn hG hW hf (by omega) (konI ?_))
      exact R_iret dX12_cause_121 rfl (K0 c rfl (by omega) _ (hP.q hQ))
    · exact absurd hb38 (by decide)
set_option maxHeartbeats 400000 in
theorem C_X12_cause_10 {d : Nat} {g : Gs} {h : Hc} {P : Po} {M : Nat} {w : Nat → Int} (hG : MdG g M) (hW : h (M + 1) = w) (hf : WF w) (hl : LawOK w) {x : Int} (KE : ¬ (0 ≤ x ∧ x < w 1) → ∀ h', Mp M h h' 1 → P (.inl (some (vI 0))) g h') (K0 : ∀ c : Nat, x = (c : Int) → (c : Int) < w 1 → ∀ h', Mp M h h' 0 → P (.inl (some (vI ((benF w c 12 (w 0).toNat).1)))) g h') : Call (d + 11) 0 0 mX12_cause [vR M, vI x, vI 10] g h P := by
  have hcs := hf.cas
  have hjd := hf.jud
  have hho := hf.hou
  refine Call_of rfl ⟨by decide +kernel, rfl⟩ (Nat.le_of_ble_eq_true rfl) rfl ?_
  refine aL0 dX12_cause_0 ?_
  refine R_iconst_0 dX12_cause_1 ?_
  refine R_putI dX12_cause_2 fX12_3 hG.o ?_
  refine storH (fun h1 e1 => ?_)
  have hP : Mp M h h1 0 := by rw [e1]; exact Mp.i h M
  replace hW : h1 (M + 1) = w := hP.w hW
  have hQ : Mz M h1 h1 := Mz.rf _ _
  refine aL0 dX12_cause_5 ?_
  refine aL0 dX12_cause_6 ?_
  refine iL1 dX12_cause_7 ?_
  refine invV1 rfl dX12_cause_8 kX12_404 hG.o (Nat.le_of_ble_eq_true rfl) (Nat.zero_le _) (Nat.zero_le _) (C_X12_noCase hG hW hf (konI ?_))
  refine R_iconst_1 dX12_cause_11 ?_
  refine invV2 rfl dX12_cause_12 kX12_274 hG.o (Nat.le_of_ble_eq_true rfl) (Nat.zero_le _) (Nat.zero_le _) (C_X12_throwsIf hG (fun h11 hth11 => konI ?_))
  have hPE11 : ∀ hbb : (noB x (w 1)) = true, Mp M h h11 1 := fun hbb => hth11.t (hP.q hQ) hbb
  have hQE11 : ∀ hbb : (noB x (w 1)) = false, Mz M h1 h11 := fun hbb => hth11.q hQ hbb
  have hWE11 : ∀ hbb : (noB x (w 1)) = false, h11 (M + 1) = w := fun hbb => hth11.w hW hbb
  refine R_ifB_ne dX12_cause_15 (fun hb15 => ?_) (fun hb15 => ?_)
  · have hPX := hPE11 hb15
    refine R_iconst_0 dX12_cause_41 ?_
    exact R_iret dX12_cause_42 rfl (KE (noB_t hb15) _ hPX)
  · replace hQ := hQE11 hb15
    replace hW := hWE11 hb15
    have hx1 := noB_f hb15
    obtain ⟨c, rfl⟩ : ∃ c : Nat, x = (c : Int) := ⟨x.toNat, by omega⟩
    refine aL0 dX12_cause_18 ?_
    suffices J12 : Run (d + 11) 0 0 mX12_cause 34 [vR M, vI ((c : Nat) : Int), vI 10, vU] [vI (bI (false)), vR M] g h11 P by
      refine iL2 dX12_cause_19 ?_
      refine R_iconst_0 dX12_cause_20 ?_
      refine R_bipush dX12_cause_21 (by decide) ?_
      refine invS3 rfl dX12_cause_23 kX12_101 (Nat.le_of_ble_eq_true rfl) (Nat.zero_le _) (Nat.zero_le _) (C_X12_in (konI ?_))
      refine R_ifB_ne dX12_cause_26 (fun hb26 => ?_) (fun hb26 => ?_)
      · refine R_iconst_0 dX12_cause_33 ?_
        exact topV (v := bI (false)) (by first | (exact absurd hb26 (by decide)) | rfl) J12
      · refine R_iconst_1 dX12_cause_29 ?_
        refine R_goto dX12_cause_30 ?_
        exact topV (v := bI (false)) (by first | (exact absurd hb26 (by decide)) | rfl) J12
    refine R_iconst_2 dX12_cause_34 ?_
    refine invV2 rfl dX12_cause_35 kX12_274 hG.o (Nat.le_of_ble_eq_true rfl) (Nat.zero_le _) (Nat.zero_le _) (C_X12_throwsIf hG (fun h13 hth13 => konI ?_))
    have hPE13 : ∀ hbb : (false) = true, Mp M h h13 2 := fun hbb => hth13.t (hP.q hQ) hbb
    have hQE13 : ∀ hbb : (false) = false, Mz M h1 h13 := fun hbb => hth13.q hQ hbb
    have hWE13 : ∀ hbb : (false) = false, h13 (M + 1) = w := fun hbb => hth13.w hW hbb
    refine R_ifB_eq dX12_cause_38 (fun hb38 => ?_) (fun hb38 => ?_)
    · replace hQ := hQE13 hb38
      replace hW := hWE13 hb38
      refine aL0 dX12_cause_43 ?_
      refine iL1 dX12_cause_44 ?_
      refine invV1 rfl dX12_cause_45 kX12_94 hG.o (Nat.le_of_ble_eq_true rfl) (Nat.zero_le _) (Nat.zero_le _) (C_X12_placeOf hG hW hf (by omega) (konI ?_))
      have hpr : placeOf w (c : Int) = -1 ∨ (0 ≤ placeOf w (c : Int) ∧ placeOf w (c : Int) < 60) := by rcases placeOf_rng w (c : Int) with e8 | ⟨p8, h8, e8, _⟩ <;> omega
      refine iS3 dX12_cause_48 ?_
      refine iL2 dX12_cause_49 ?_
      refine R_tsw (tt := 122) dX12_cause_50 (by decide) (by decide) ?_
      refine aL0 dX12_cause_122 ?_
      refine iL1 dX12_cause_123 ?_
      refine invV1 rfl dX12_cause_124 kX12_407 hG.o (Nat.le_of_ble_eq_true rfl) (Nat.zero_le _) (Nat.zero_le _) (C_X12_benchOf hG hW hf hl (by omega) (fun h14 hx14 => konI ?_))
      replace hQ := hQ.tr (Mq.z hx14)
      replace hW := hx14.w hW
      exact R_iret dX12_cause_127 rfl (K0 c rfl (by omega) _ (hP.q hQ))
    · exact absurd hb38 (by decide)
set_option maxHeartbeats 400000 in
theorem C_X12_cause_11 {d : Nat} {g : Gs} {h : Hc} {P : Po} {M : Nat} {w : Nat → Int} (hG : MdG g M) (hW : h (M + 1) = w) (hf : WF w) (hl : LawOK w) {x : Int} (KE : ¬ (0 ≤ x ∧ x < w 1) → ∀ h', Mp M h h' 1 → P (.inl (some (vI 0))) g h') (K0 : ∀ c : Nat, x = (c : Int) → (c : Int) < w 1 → ∀ h', Mp M h h' 0 → P (.inl (some (vI (delW w c)))) g h') : Call (d + 11) 0 0 mX12_cause [vR M, vI x, vI 11] g h P := by
  have hcs := hf.cas
  have hjd := hf.jud
  have hho := hf.hou
  refine Call_of rfl ⟨by decide +kernel, rfl⟩ (Nat.le_of_ble_eq_true rfl) rfl ?_
  refine aL0 dX12_cause_0 ?_
  refine R_iconst_0 dX12_cause_1 ?_
  refine R_putI dX12_cause_2 fX12_3 hG.o ?_
  refine storH (fun h1 e1 => ?_)
  have hP : Mp M h h1 0 := by rw [e1]; exact Mp.i h M
  replace hW : h1 (M + 1) = w := hP.w hW
  have hQ : Mz M h1 h1 := Mz.rf _ _
  refine aL0 dX12_cause_5 ?_
  refine aL0 dX12_cause_6 ?_
  refine iL1 dX12_cause_7 ?_
  refine invV1 rfl dX12_cause_8 kX12_404 hG.o (Nat.le_of_ble_eq_true rfl) (Nat.zero_le _) (Nat.zero_le _) (C_X12_noCase hG hW hf (konI ?_))
  refine R_iconst_1 dX12_cause_11 ?_
  refine invV2 rfl dX12_cause_12 kX12_274 hG.o (Nat.le_of_ble_eq_true rfl) (Nat.zero_le _) (Nat.zero_le _) (C_X12_throwsIf hG (fun h11 hth11 => konI ?_))
  have hPE11 : ∀ hbb : (noB x (w 1)) = true, Mp M h h11 1 := fun hbb => hth11.t (hP.q hQ) hbb
  have hQE11 : ∀ hbb : (noB x (w 1)) = false, Mz M h1 h11 := fun hbb => hth11.q hQ hbb
  have hWE11 : ∀ hbb : (noB x (w 1)) = false, h11 (M + 1) = w := fun hbb => hth11.w hW hbb
  refine R_ifB_ne dX12_cause_15 (fun hb15 => ?_) (fun hb15 => ?_)
  · have hPX := hPE11 hb15
    refine R_iconst_0 dX12_cause_41 ?_
    exact R_iret dX12_cause_42 rfl (KE (noB_t hb15) _ hPX)
  · replace hQ := hQE11 hb15
    replace hW := hWE11 hb15
    have hx1 := noB_f hb15
    obtain ⟨c, rfl⟩ : ∃ c : Nat, x = (c : Int) := ⟨x.toNat, by omega⟩
    refine aL0 dX12_cause_18 ?_
    suffices J12 : Run (d + 11) 0 0 mX12_cause 34 [vR M, vI ((c : Nat) : Int), vI 11, vU] [vI (bI (false)), vR M] g h11 P by
      refine iL2 dX12_cause_19 ?_
      refine R_iconst_0 dX12_cause_20 ?_
      refine R_bipush dX12_cause_21 (by decide) ?_
      refine invS3 rfl dX12_cause_23 kX12_101 (Nat.le_of_ble_eq_true rfl) (Nat.zero_le _) (Nat.zero_le _) (C_X12_in (konI ?_))
      refine R_ifB_ne dX12_cause_26 (fun hb26 => ?_) (fun hb26 => ?_)
      · refine R_iconst_0 dX12_cause_33 ?_
        exact topV (v := bI (false)) (by first | (exact absurd hb26 (by decide)) | rfl) J12
      · refine R_iconst_1 dX12_cause_29 ?_
        refine R_goto dX12_cause_30 ?_
        exact topV (v := bI (false)) (by first | (exact absurd hb26 (by decide)) | rfl) J12
    refine R_iconst_2 dX12_cause_34 ?_
    refine invV2 rfl dX12_cause_35 kX12_274 hG.o (Nat.le_of_ble_eq_true rfl) (Nat.zero_le _) (Nat.zero_le _) (C_X12_throwsIf hG (fun h13 hth13 => konI ?_))
    have hPE13 : ∀ hbb : (false) = true, Mp M h h13 2 := fun hbb => hth13.t (hP.q hQ) hbb
    have hQE13 : ∀ hbb : (false) = false, Mz M h1 h13 := fun hbb => hth13.q hQ hbb
    have hWE13 : ∀ hbb : (false) = false, h13 (M + 1) = w := fun hbb => hth13.w hW hbb
    refine R_ifB_eq dX12_cause_38 (fun hb38 => ?_) (fun hb38 => ?_)
    · replace hQ := hQE13 hb38
      replace hW := hWE13 hb38
      refine aL0 dX12_cause_43 ?_
      refine iL1 dX12_cause_44 ?_
      refine invV1 rfl dX12_cause_45 kX12_94 hG.o (Nat.le_of_ble_eq_true rfl) (Nat.zero_le _) (Nat.zero_le _) (C_X12_placeOf hG hW hf (by omega) (konI ?_))
      have hpr : placeOf w (c : Int) = -1 ∨ (0 ≤ placeOf w (c : Int) ∧ placeOf w (c : Int) < 60) := by rcases placeOf_rng w (c : Int) with e8 | ⟨p8, h8, e8, _⟩ <;> omega
      refine iS3 dX12_cause_48 ?_
      refine iL2 dX12_cause_49 ?_
      refine R_tsw (tt := 128) dX12_cause_50 (by decide) (by decide) ?_
      refine aL0 dX12_cause_128 ?_
      refine iL1 dX12_cause_129 ?_
      refine invV1 rfl dX12_cause_130 kX12_410 hG.o (Nat.le_of_ble_eq_true rfl) (Nat.zero_le _) (Nat.zero_le _) (C_X12_delayOf hG hW hf hl (by omega) (fun h14 hx14 => konI ?_))
      replace hQ := hQ.tr (Mq.z hx14)
      replace hW := hx14.w hW
      exact R_iret dX12_cause_133 rfl (K0 c rfl (by omega) _ (hP.q hQ))
    · exact absurd hb38 (by decide)
set_option maxHeartbeats 400000 in
theorem C_X12_cause_12 {d : Nat} {g : Gs} {h : Hc} {P : Po} {M : Nat} {w : Nat → Int} (hG : MdG g M) (hW : h (M + 1) = w) (hf : WF w) (hl : LawOK w) {x : Int} (KE : ¬ (0 ≤ x ∧ x < w 1) → ∀ h', Mp M h h' 1 → P (.inl (some (vI 0))) g h') (K0 : ∀ c : Nat, x = (c : Int) → (c : Int) < w 1 → ∀ h', Mp M h h' 0 → P (.inl (some (vI (shaW w c)))) g h') : Call (d + 11) 0 0 mX12_cause [vR M, vI x, vI 12] g h P := by
  have hcs := hf.cas
  have hjd := hf.jud
  have hho := hf.hou
  refine Call_of rfl ⟨by decide +kernel, rfl⟩ (Nat.le_of_ble_eq_true rfl) rfl ?_
  refine aL0 dX12_cause_0 ?_
  refine R_iconst_0 dX12_cause_1 ?_
  refine R_putI dX12_cause_2 fX12_3 hG.o ?_
  refine storH (fun h1 e1 => ?_)
  have hP : Mp M h h1 0 := by rw [e1]; exact Mp.i h M
  replace hW : h1 (M + 1) = w := hP.w hW
  have hQ : Mz M h1 h1 := Mz.rf _ _
  refine aL0 dX12_cause_5 ?_
  refine aL0 dX12_cause_6 ?_
  refine iL1 dX12_cause_7 ?_
  refine invV1 rfl dX12_cause_8 kX12_404 hG.o (Nat.le_of_ble_eq_true rfl) (Nat.zero_le _) (Nat.zero_le _) (C_X12_noCase hG hW hf (konI ?_))
  refine R_iconst_1 dX12_cause_11 ?_
  refine invV2 rfl dX12_cause_12 kX12_274 hG.o (Nat.le_of_ble_eq_true rfl) (Nat.zero_le _) (Nat.zero_le _) (C_X12_throwsIf hG (fun h11 hth11 => konI ?_))
  have hPE11 : ∀ hbb : (noB x (w 1)) = true, Mp M h h11 1 := fun hbb => hth11.t (hP.q hQ) hbb
  have hQE11 : ∀ hbb : (noB x (w 1)) = false, Mz M h1 h11 := fun hbb => hth11.q hQ hbb
  have hWE11 : ∀ hbb : (noB x (w 1)) = false, h11 (M + 1) = w := fun hbb => hth11.w hW hbb
  refine R_ifB_ne dX12_cause_15 (fun hb15 => ?_) (fun hb15 => ?_)
  · have hPX := hPE11 hb15
    refine R_iconst_0 dX12_cause_41 ?_
    exact R_iret dX12_cause_42 rfl (KE (noB_t hb15) _ hPX)
  · replace hQ := hQE11 hb15
    replace hW := hWE11 hb15
    have hx1 := noB_f hb15
    obtain ⟨c, rfl⟩ : ∃ c : Nat, x = (c : Int) := ⟨x.toNat, by omega⟩
    refine aL0 dX12_cause_18 ?_
    suffices J12 : Run (d + 11) 0 0 mX12_cause 34 [vR M, vI ((c : Nat) : Int), vI 12, vU] [vI (bI (false)), vR M] g h11 P by
      refine iL2 dX12_cause_19 ?_
      refine R_iconst_0 dX12_cause_20 ?_
      refine R_bipush dX12_cause_21 (by decide) ?_
      refine invS3 rfl dX12_cause_23 kX12_101 (Nat.le_of_ble_eq_true rfl) (Nat.zero_le _) (Nat.zero_le _) (C_X12_in (konI ?_))
      refine R_ifB_ne dX12_cause_26 (fun hb26 => ?_) (fun hb26 => ?_)
      · refine R_iconst_0 dX12_cause_33 ?_
        exact topV (v := bI (false)) (by first | (exact absurd hb26 (by decide)) | rfl) J12
      · refine R_iconst_1 dX12_cause_29 ?_
        refine R_goto dX12_cause_30 ?_
        exact topV (v := bI (false)) (by first | (exact absurd hb26 (by decide)) | rfl) J12
    refine R_iconst_2 dX12_cause_34 ?_
    refine invV2 rfl dX12_cause_35 kX12_274 hG.o (Nat.le_of_ble_eq_true rfl) (Nat.zero_le _) (Nat.zero_le _) (C_X12_throwsIf hG (fun h13 hth13 => konI ?_))
    have hPE13 : ∀ hbb : (false) = true, Mp M h h13 2 := fun hbb => hth13.t (hP.q hQ) hbb
    have hQE13 : ∀ hbb : (false) = false, Mz M h1 h13 := fun hbb => hth13.q hQ hbb
    have hWE13 : ∀ hbb : (false) = false, h13 (M + 1) = w := fun hbb => hth13.w hW hbb
    refine R_ifB_eq dX12_cause_38 (fun hb38 => ?_) (fun hb38 => ?_)
    · replace hQ := hQE13 hb38
      replace hW := hWE13 hb38
      refine aL0 dX12_cause_43 ?_
      refine iL1 dX12_cause_44 ?_
      refine invV1 rfl dX12_cause_45 kX12_94 hG.o (Nat.le_of_ble_eq_true rfl) (Nat.zero_le _) (Nat.zero_le _) (C_X12_placeOf hG hW hf (by omega) (konI ?_))
      have hpr : placeOf w (c : Int) = -1 ∨ (0 ≤ placeOf w (c : Int) ∧ placeOf w (c : Int) < 60) := by rcases placeOf_rng w (c : Int) with e8 | ⟨p8, h8, e8, _⟩ <;> omega
      refine iS3 dX12_cause_48 ?_
      refine iL2 dX12_cause_49 ?_
      refine R_tsw (tt := 134) dX12_cause_50 (by decide) (by decide) ?_
      refine aL0 dX12_cause_134 ?_
      refine iL1 dX12_cause_135 ?_
      refine invV1 rfl dX12_cause_136 kX12_413 hG.o (Nat.le_of_ble_eq_true rfl) (Nat.zero_le _) (Nat.zero_le _) (C_X12_sharedTo hG hW hf (by omega) (fun h14 hx14 => konI ?_))
      replace hQ := hQ.tr hx14
      replace hW := hx14.w hW
      exact R_iret dX12_cause_139 rfl (K0 c rfl (by omega) _ (hP.q hQ))
    · exact absurd hb38 (by decide)
set_option maxHeartbeats 400000 in
theorem C_X12_cause_n {d : Nat} {g : Gs} {h : Hc} {P : Po} {M : Nat} {w : Nat → Int} (hG : MdG g M) (hW : h (M + 1) = w) (hf : WF w) (hl : LawOK w) {x y : Int} (hy : ¬ (0 ≤ y ∧ y ≤ 12)) (KE : ¬ (0 ≤ x ∧ x < w 1) → ∀ h', Mp M h h' 1 → P (.inl (some (vI 0))) g h') (KN : 0 ≤ x ∧ x < w 1 → ∀ h', Mp M h h' 2 → P (.inl (some (vI 0))) g h') : Call (d + 11) 0 0 mX12_cause [vR M, vI x, vI y] g h P := by
  have hcs := hf.cas
  have hjd := hf.jud
  have hho := hf.hou
  refine Call_of rfl ⟨by decide +kernel, rfl⟩ (Nat.le_of_ble_eq_true rfl) rfl ?_
  refine aL0 dX12_cause_0 ?_
  refine R_iconst_0 dX12_cause_1 ?_
  refine R_putI dX12_cause_2 fX12_3 hG.o ?_
  refine storH (fun h1 e1 => ?_)
  have hP : Mp M h h1 0 := by rw [e1]; exact Mp.i h M
  replace hW : h1 (M + 1) = w := hP.w hW
  have hQ : Mz M h1 h1 := Mz.rf _ _
  refine aL0 dX12_cause_5 ?_
  refine aL0 dX12_cause_6 ?_
  refine iL1 dX12_cause_7 ?_
  refine invV1 rfl dX12_cause_8 kX12_404 hG.o (Nat.le_of_ble_eq_true rfl) (Nat.zero_le _) (Nat.zero_le _) (C_X12_noCase hG hW hf (konI ?_))
  refine R_iconst_1 dX12_cause_11 ?_
  refine invV2 rfl dX12_cause_12 kX12_274 hG.o (Nat.le_of_ble_eq_true rfl) (Nat.zero_le _) (Nat.zero_le _) (C_X12_throwsIf hG (fun h11 hth11 => konI ?_))
  have hPE11 : ∀ hbb : (noB x (w 1)) = true, Mp M h h11 1 := fun hbb => hth11.t (hP.q hQ) hbb
  have hQE11 : ∀ hbb : (noB x (w 1)) = false, Mz M h1 h11 := fun hbb => hth11.q hQ hbb
  have hWE11 : ∀ hbb : (noB x (w 1)) = false, h11 (M + 1) = w := fun hbb => hth11.w hW hbb
  refine R_ifB_ne dX12_cause_15 (fun hb15 => ?_) (fun hb15 => ?_)
  · have hPX := hPE11 hb15
    refine R_iconst_0 dX12_cause_41 ?_
    exact R_iret dX12_cause_42 rfl (KE (noB_t hb15) _ hPX)
  · replace hQ := hQE11 hb15
    replace hW := hWE11 hb15
    have hx1 := noB_f hb15
    refine aL0 dX12_cause_18 ?_
    suffices J12 : Run (d + 11) 0 0 mX12_cause 34 [vR M, vI x, vI y, vU] [vI (bI (true)), vR M] g h11 P by
      refine iL2 dX12_cause_19 ?_
      refine R_iconst_0 dX12_cause_20 ?_
      refine R_bipush dX12_cause_21 (by decide) ?_
      refine invS3 rfl dX12_cause_23 kX12_101 (Nat.le_of_ble_eq_true rfl) (Nat.zero_le _) (Nat.zero_le _) (C_X12_in (konI ?_))
      refine R_ifB_ne dX12_cause_26 (fun hb26 => ?_) (fun hb26 => ?_)
      · refine R_iconst_0 dX12_cause_33 ?_
        exact topV (v := bI (true)) (by first | (exact absurd (of_decide_eq_true hb26) hy) | rfl) J12
      · refine R_iconst_1 dX12_cause_29 ?_
        refine R_goto dX12_cause_30 ?_
        exact topV (v := bI (true)) (by first | (exact absurd (of_decide_eq_true hb26) hy) | rfl) J12
    refine R_iconst_2 dX12_cause_34 ?_
    refine invV2 rfl dX12_cause_35 kX12_274 hG.o (Nat.le_of_ble_eq_true rfl) (Nat.zero_le _) (Nat.zero_le _) (C_X12_throwsIf hG (fun h13 hth13 => konI ?_))
    have hPE13 : ∀ hbb : (true) = true, Mp M h h13 2 := fun hbb => hth13.t (hP.q hQ) hbb
    have hQE13 : ∀ hbb : (true) = false, Mz M h1 h13 := fun hbb => hth13.q hQ hbb
    have hWE13 : ∀ hbb : (true) = false, h13 (M + 1) = w := fun hbb => hth13.w hW hbb
    refine R_ifB_eq dX12_cause_38 (fun hb38 => ?_) (fun hb38 => ?_)
    · exact absurd hb38 (by decide)
    · have hPX := hPE13 hb38
      refine R_iconst_0 dX12_cause_41 ?_
      exact R_iret dX12_cause_42 rfl (KN hx1 _ hPX)
set_option maxHeartbeats 400000 in
theorem C_X12_count_0 {d : Nat} {g : Gs} {h : Hc} {P : Po} {M : Nat} {w : Nat → Int} (hG : MdG g M) (hW : h (M + 1) = w) (hf : WF w) (hl : LawOK w) (K0 : ∀ h', Mp M h h' 0 → P (.inl (some (vI (w 0)))) g h') : Call (d + 4) 0 0 mX12_count [vR M, vI 0] g h P := by
  have hcs := hf.cas
  have hjd := hf.jud
  have hho := hf.hou
  refine Call_of rfl ⟨by decide +kernel, rfl⟩ (Nat.le_of_ble_eq_true rfl) rfl ?_
  refine aL0 dX12_count_0 ?_
  refine R_iconst_0 dX12_count_1 ?_
  refine R_putI dX12_count_2 fX12_3 hG.o ?_
  refine storH (fun h1 e1 => ?_)
  have hP : Mp M h h1 0 := by rw [e1]; exact Mp.i h M
  replace hW : h1 (M + 1) = w := hP.w hW
  have hQ : Mz M h1 h1 := Mz.rf _ _
  refine R_iconst_0 dX12_count_5 ?_
  refine iS2 dX12_count_6 ?_
  refine R_iconst_0 dX12_count_7 ?_
  refine iS3 dX12_count_8 ?_
  refine R_iconst_0 dX12_count_9 ?_
  refine iS4 dX12_count_10 ?_
  refine loopN ((w 1).toNat) (fun q => Run (d + 4) 0 0 mX12_count 12 [vR M, vI 0, vI (bset (lisP w) q), vI 0, vI ((q : Nat) : Int)] [] g h1 P) (fun q hcnq ihq => ?_) (0) (Nat.zero_le _)
  refine iL4 dX12_count_12 ?_
  refine aL0 dX12_count_14 ?_
  refine invV0 rfl dX12_count_15 kX12_90 hG.o (Nat.le_of_ble_eq_true rfl) (Nat.zero_le _) (Nat.zero_le _) (C_X12_cases hG hW hf (konI ?_))
  have hcs := hf.cas
  refine R_icmp_ge dX12_count_18 (fun hb18 => ?_) (fun hb18 => ?_)
  · have e9 : q = (w 1).toNat := by omega
    subst e9
    refine R_iconst_0 dX12_count_48 ?_
    refine iS4 dX12_count_49 ?_
    refine loopN ((w 0).toNat) (fun q => Run (d + 4) 0 0 mX12_count 51 [vR M, vI 0, vI (bset (lisP w) ((w 1).toNat)), vI (sumB (fun j => w (80 + 4 * j)) (fun _ => true) q), vI ((q : Nat) : Int)] [] g h1 P) (fun q hcnq ihq => ?_) (0) (Nat.zero_le _)
    have hsb := sumB_rng (f := fun j => w (80 + 4 * j)) (p := fun _ => true) (m := 99) (by omega) (n := q) (fun k hk => hf.hu (by omega))
    refine iL4 dX12_count_51 ?_
    refine aL0 dX12_count_53 ?_
    refine invV0 rfl dX12_count_54 kX12_98 hG.o (Nat.le_of_ble_eq_true rfl) (Nat.zero_le _) (Nat.zero_le _) (C_X12_judges hG hW hf (konI ?_))
    have hjd := hf.jud
    refine R_icmp_ge dX12_count_57 (fun hb57 => ?_) (fun hb57 => ?_)
    · have e9 : q = (w 0).toNat := by omega
      subst e9
      refine iL1 dX12_count_76 ?_
      refine R_tsw (tt := 169) dX12_count_77 (by decide) (by decide) ?_
      refine iL1 dX12_count_169 ?_
      refine R_iconst_0 dX12_count_170 ?_
      refine R_iconst_5 dX12_count_171 ?_
      refine invS3 rfl dX12_count_172 kX12_101 (Nat.le_of_ble_eq_true rfl) (Nat.zero_le _) (Nat.zero_le _) (C_X12_in (konI ?_))
      refine R_ifB_eq dX12_count_175 (fun hb175 => ?_) (fun hb175 => ?_)
      · exact absurd hb175 (by decide)
      · refine aL0 dX12_count_178 ?_
        refine R_getR dX12_count_179 fX12_13.r hG.o rfl ?_
        refine iL1 dX12_count_182 ?_
        refine ialdN (k := 0) dX12_count_183 hG.a1 rfl (by decide) ?_
        refine topV (v := w 0) (congrFun hW _) ?_
        have hq11 := hf.jud
        refine R_goto dX12_count_184 ?_
        exact R_iret dX12_count_188 rfl (K0 _ (hP.q hQ))
    · refine iL3 dX12_count_60 ?_
      refine aL0 dX12_count_61 ?_
      refine iL4 dX12_count_62 ?_
      refine R_iconst_0 dX12_count_64 ?_
      refine invV2 rfl dX12_count_65 kX12_280 hG.o (Nat.le_of_ble_eq_true rfl) (Nat.zero_le _) (Nat.zero_le _) (C_X12_ofJudge hG hW (b := 0) (i := 80 + 4 * q) (by omega) (by omega) (konI ?_))
      have hq12 := hf.hu (j := q) (by omega)
      refine addV dX12_count_68 (wid (by omega) (by omega)) ?_
      refine iS3 dX12_count_69 ?_
      refine iInc4 dX12_count_70 (winc (by omega)) ?_
      refine R_goto dX12_count_73 ?_
      exact eqI3 ((sumB_t (f := fun j => w (80 + 4 * j)) (p := fun _ => true) rfl).symm) (ihq (by omega))
  · refine iL2 dX12_count_21 ?_
    suffices J13 : Run (d + 4) 0 0 mX12_count 40 [vR M, vI 0, vI (bset (lisP w) q), vI 0, vI ((q : Nat) : Int)] [vI (obI (lisP w q) q), vI (bset (lisP w) q)] g h1 P by
      refine aL0 dX12_count_22 ?_
      refine iL4 dX12_count_23 ?_
      refine invV1 rfl dX12_count_25 kX12_94 hG.o (Nat.le_of_ble_eq_true rfl) (Nat.zero_le _) (Nat.zero_le _) (C_X12_placeOf hG hW hf (by omega) (konI ?_))
      refine R_iconst_m1 dX12_count_28 ?_
      refine R_icmp_ne dX12_count_29 (fun hb29 => ?_) (fun hb29 => ?_)
      · refine R_iconst_1 dX12_count_36 ?_
        refine iL4 dX12_count_37 ?_
        refine R_ishl dX12_count_39 ?_
        exact topV (v := obI (lisP w q) q) (by first | exact obI_f (by simp [lisP]; omega) | exact obI_t (by simp [lisP]; omega)) J13
      · refine R_iconst_0 dX12_count_32 ?_
        refine R_goto dX12_count_33 ?_
        exact topV (v := obI (lisP w q) q) (by first | exact obI_f (by simp [lisP]; omega) | exact obI_t (by simp [lisP]; omega)) J13
    refine R_ior dX12_count_40 ?_
    refine iS2 dX12_count_41 ?_
    refine iInc4 dX12_count_42 (winc (by omega)) ?_
    refine R_goto dX12_count_45 ?_
    exact eqI2 (bset_ob) (ihq (by omega))
set_option maxHeartbeats 400000 in
theorem C_X12_count_1 {d : Nat} {g : Gs} {h : Hc} {P : Po} {M : Nat} {w : Nat → Int} (hG : MdG g M) (hW : h (M + 1) = w) (hf : WF w) (hl : LawOK w) (K0 : ∀ h', Mp M h h' 0 → P (.inl (some (vI (w 1)))) g h') : Call (d + 4) 0 0 mX12_count [vR M, vI 1] g h P := by
  have hcs := hf.cas
  have hjd := hf.jud
  have hho := hf.hou
  refine Call_of rfl ⟨by decide +kernel, rfl⟩ (Nat.le_of_ble_eq_true rfl) rfl ?_
  refine aL0 dX12_count_0 ?_
  refine R_iconst_0 dX12_count_1 ?_
  refine R_putI dX12_count_2 fX12_3 hG.o ?_
  refine storH (fun h1 e1 => ?_)
  have hP : Mp M h h1 0 := by rw [e1]; exact Mp.i h M
  replace hW : h1 (M + 1) = w := hP.w hW
  have hQ : Mz M h1 h1 := Mz.rf _ _
  refine R_iconst_0 dX12_count_5 ?_
  refine iS2 dX12_count_6 ?_
  refine R_iconst_0 dX12_count_7 ?_
  refine iS3 dX12_count_8 ?_
  refine R_iconst_0 dX12_count_9 ?_
  refine iS4 dX12_count_10 ?_
  refine loopN ((w 1).toNat) (fun q => Run (d + 4) 0 0 mX12_count 12 [vR M, vI 1, vI (bset (lisP w) q), vI 0, vI ((q : Nat) : Int)] [] g h1 P) (fun q hcnq ihq => ?_) (0) (Nat.zero_le _)
  refine iL4 dX12_count_12 ?_
  refine aL0 dX12_count_14 ?_
  refine invV0 rfl dX12_count_15 kX12_90 hG.o (Nat.le_of_ble_eq_true rfl) (Nat.zero_le _) (Nat.zero_le _) (C_X12_cases hG hW hf (konI ?_))
  have hcs := hf.cas
  refine R_icmp_ge dX12_count_18 (fun hb18 => ?_) (fun hb18 => ?_)
  · have e9 : q = (w 1).toNat := by omega
    subst e9
    refine R_iconst_0 dX12_count_48 ?_
    refine iS4 dX12_count_49 ?_
    refine loopN ((w 0).toNat) (fun q => Run (d + 4) 0 0 mX12_count 51 [vR M, vI 1, vI (bset (lisP w) ((w 1).toNat)), vI (sumB (fun j => w (80 + 4 * j)) (fun _ => true) q), vI ((q : Nat) : Int)] [] g h1 P) (fun q hcnq ihq => ?_) (0) (Nat.zero_le _)
    have hsb := sumB_rng (f := fun j => w (80 + 4 * j)) (p := fun _ => true) (m := 99) (by omega) (n := q) (fun k hk => hf.hu (by omega))
    refine iL4 dX12_count_51 ?_
    refine aL0 dX12_count_53 ?_
    refine invV0 rfl dX12_count_54 kX12_98 hG.o (Nat.le_of_ble_eq_true rfl) (Nat.zero_le _) (Nat.zero_le _) (C_X12_judges hG hW hf (konI ?_))
    have hjd := hf.jud
    refine R_icmp_ge dX12_count_57 (fun hb57 => ?_) (fun hb57 => ?_)
    · have e9 : q = (w 0).toNat := by omega
      subst e9
      refine iL1 dX12_count_76 ?_
      refine R_tsw (tt := 169) dX12_count_77 (by decide) (by decide) ?_
      refine iL1 dX12_count_169 ?_
      refine R_iconst_0 dX12_count_170 ?_
      refine R_iconst_5 dX12_count_171 ?_
      refine invS3 rfl dX12_count_172 kX12_101 (Nat.le_of_ble_eq_true rfl) (Nat.zero_le _) (Nat.zero_le _) (C_X12_in (konI ?_))
      refine R_ifB_eq dX12_count_175 (fun hb175 => ?_) (fun hb175 => ?_)
      · exact absurd hb175 (by decide)
      · refine aL0 dX12_count_178 ?_
        refine R_getR dX12_count_179 fX12_13.r hG.o rfl ?_
        refine iL1 dX12_count_182 ?_
        refine ialdN (k := 1) dX12_count_183 hG.a1 rfl (by decide) ?_
        refine topV (v := w 1) (congrFun hW _) ?_
        have hq11 := hf.cas
        refine R_goto dX12_count_184 ?_
        exact R_iret dX12_count_188 rfl (K0 _ (hP.q hQ))
    · refine iL3 dX12_count_60 ?_
      refine aL0 dX12_count_61 ?_
      refine iL4 dX12_count_62 ?_
      refine R_iconst_0 dX12_count_64 ?_
      refine invV2 rfl dX12_count_65 kX12_280 hG.o (Nat.le_of_ble_eq_true rfl) (Nat.zero_le _) (Nat.zero_le _) (C_X12_ofJudge hG hW (b := 0) (i := 80 + 4 * q) (by omega) (by omega) (konI ?_))
      have hq12 := hf.hu (j := q) (by omega)
      refine addV dX12_count_68 (wid (by omega) (by omega)) ?_
      refine iS3 dX12_count_69 ?_
      refine iInc4 dX12_count_70 (winc (by omega)) ?_
      refine R_goto dX12_count_73 ?_
      exact eqI3 ((sumB_t (f := fun j => w (80 + 4 * j)) (p := fun _ => true) rfl).symm) (ihq (by omega))
  · refine iL2 dX12_count_21 ?_
    suffices J13 : Run (d + 4) 0 0 mX12_count 40 [vR M, vI 1, vI (bset (lisP w) q), vI 0, vI ((q : Nat) : Int)] [vI (obI (lisP w q) q), vI (bset (lisP w) q)] g h1 P by
      refine aL0 dX12_count_22 ?_
      refine iL4 dX12_count_23 ?_
      refine invV1 rfl dX12_count_25 kX12_94 hG.o (Nat.le_of_ble_eq_true rfl) (Nat.zero_le _) (Nat.zero_le _) (C_X12_placeOf hG hW hf (by omega) (konI ?_))
      refine R_iconst_m1 dX12_count_28 ?_
      refine R_icmp_ne dX12_count_29 (fun hb29 => ?_) (fun hb29 => ?_)
      · refine R_iconst_1 dX12_count_36 ?_
        refine iL4 dX12_count_37 ?_
        refine R_ishl dX12_count_39 ?_
        exact topV (v := obI (lisP w q) q) (by first | exact obI_f (by simp [lisP]; omega) | exact obI_t (by simp [lisP]; omega)) J13
      · refine R_iconst_0 dX12_count_32 ?_
        refine R_goto dX12_count_33 ?_
        exact topV (v := obI (lisP w q) q) (by first | exact obI_f (by simp [lisP]; omega) | exact obI_t (by simp [lisP]; omega)) J13
    refine R_ior dX12_count_40 ?_
    refine iS2 dX12_count_41 ?_
    refine iInc4 dX12_count_42 (winc (by omega)) ?_
    refine R_goto dX12_count_45 ?_
    exact eqI2 (bset_ob) (ihq (by omega))
set_option maxHeartbeats 400000 in
theorem C_X12_count_2 {d : Nat} {g : Gs} {h : Hc} {P : Po} {M : Nat} {w : Nat → Int} (hG : MdG g M) (hW : h (M + 1) = w) (hf : WF w) (hl : LawOK w) (K0 : ∀ h', Mp M h h' 0 → P (.inl (some (vI (w 2)))) g h') : Call (d + 4) 0 0 mX12_count [vR M, vI 2] g h P := by
  have hcs := hf.cas
  have hjd := hf.jud
  have hho := hf.hou
  refine Call_of rfl ⟨by decide +kernel, rfl⟩ (Nat.le_of_ble_eq_true rfl) rfl ?_
  refine aL0 dX12_count_0 ?_
  refine R_iconst_0 dX12_count_1 ?_
  refine R_putI dX12_count_2 fX12_3 hG.o ?_
  refine storH (fun h1 e1 => ?_)
  have hP : Mp M h h1 0 := by rw [e1]; exact Mp.i h M
  replace hW : h1 (M + 1) = w := hP.w hW
  have hQ : Mz M h1 h1 := Mz.rf _ _
  refine R_iconst_0 dX12_count_5 ?_
  refine iS2 dX12_count_6 ?_
  refine R_iconst_0 dX12_count_7 ?_
  refine iS3 dX12_count_8 ?_
  refine R_iconst_0 dX12_count_9 ?_
  refine iS4 dX12_count_10 ?_
  refine loopN ((w 1).toNat) (fun q => Run (d + 4) 0 0 mX12_count 12 [vR M, vI 2, vI (bset (lisP w) q), vI 0, vI ((q : Nat) : Int)] [] g h1 P) (fun q hcnq ihq => ?_) (0) (Nat.zero_le _)
  refine iL4 dX12_count_12 ?_
  refine aL0 dX12_count_14 ?_
  refine invV0 rfl dX12_count_15 kX12_90 hG.o (Nat.le_of_ble_eq_true rfl) (Nat.zero_le _) (Nat.zero_le _) (C_X12_cases hG hW hf (konI ?_))
  have hcs := hf.cas
  refine R_icmp_ge dX12_count_18 (fun hb18 => ?_) (fun hb18 => ?_)
  · have e9 : q = (w 1).toNat := by omega
    subst e9
    refine R_iconst_0 dX12_count_48 ?_
    refine iS4 dX12_count_49 ?_
    refine loopN ((w 0).toNat) (fun q => Run (d + 4) 0 0 mX12_count 51 [vR M, vI 2, vI (bset (lisP w) ((w 1).toNat)), vI (sumB (fun j => w (80 + 4 * j)) (fun _ => true) q), vI ((q : Nat) : Int)] [] g h1 P) (fun q hcnq ihq => ?_) (0) (Nat.zero_le _)
    have hsb := sumB_rng (f := fun j => w (80 + 4 * j)) (p := fun _ => true) (m := 99) (by omega) (n := q) (fun k hk => hf.hu (by omega))
    refine iL4 dX12_count_51 ?_
    refine aL0 dX12_count_53 ?_
    refine invV0 rfl dX12_count_54 kX12_98 hG.o (Nat.le_of_ble_eq_true rfl) (Nat.zero_le _) (Nat.zero_le _) (C_X12_judges hG hW hf (konI ?_))
    have hjd := hf.jud
    refine R_icmp_ge dX12_count_57 (fun hb57 => ?_) (fun hb57 => ?_)
    · have e9 : q = (w 0).toNat := by omega
      subst e9
      refine iL1 dX12_count_76 ?_
      refine R_tsw (tt := 169) dX12_count_77 (by decide) (by decide) ?_
      refine iL1 dX12_count_169 ?_
      refine R_iconst_0 dX12_count_170 ?_
      refine R_iconst_5 dX12_count_171 ?_
      refine invS3 rfl dX12_count_172 kX12_101 (Nat.le_of_ble_eq_true rfl) (Nat.zero_le _) (Nat.zero_le _) (C_X12_in (konI ?_))
      refine R_ifB_eq dX12_count_175 (fun hb175 => ?_) (fun hb175 => ?_)
      · exact absurd hb175 (by decide)
      · refine aL0 dX12_count_178 ?_
        refine R_getR dX12_count_179 fX12_13.r hG.o rfl ?_
        refine iL1 dX12_count_182 ?_
        refine ialdN (k := 2) dX12_count_183 hG.a1 rfl (by decide) ?_
        refine topV (v := w 2) (congrFun hW _) ?_
        have hq11 := hf.tex
        refine R_goto dX12_count_184 ?_
        exact R_iret dX12_count_188 rfl (K0 _ (hP.q hQ))
    · refine iL3 dX12_count_60 ?_
      refine aL0 dX12_count_61 ?_
      refine iL4 dX12_count_62 ?_
      refine R_iconst_0 dX12_count_64 ?_
      refine invV2 rfl dX12_count_65 kX12_280 hG.o (Nat.le_of_ble_eq_true rfl) (Nat.zero_le _) (Nat.zero_le _) (C_X12_ofJudge hG hW (b := 0) (i := 80 + 4 * q) (by omega) (by omega) (konI ?_))
      have hq12 := hf.hu (j := q) (by omega)
      refine addV dX12_count_68 (wid (by omega) (by omega)) ?_
      refine iS3 dX12_count_69 ?_
      refine iInc4 dX12_count_70 (winc (by omega)) ?_
      refine R_goto dX12_count_73 ?_
      exact eqI3 ((sumB_t (f := fun j => w (80 + 4 * j)) (p := fun _ => true) rfl).symm) (ihq (by omega))
  · refine iL2 dX12_count_21 ?_
    suffices J13 : Run (d + 4) 0 0 mX12_count 40 [vR M, vI 2, vI (bset (lisP w) q), vI 0, vI ((q : Nat) : Int)] [vI (obI (lisP w q) q), vI (bset (lisP w) q)] g h1 P by
      refine aL0 dX12_count_22 ?_
      refine iL4 dX12_count_23 ?_
      refine invV1 rfl dX12_count_25 kX12_94 hG.o (Nat.le_of_ble_eq_true rfl) (Nat.zero_le _) (Nat.zero_le _) (C_X12_placeOf hG hW hf (by omega) (konI ?_))
      refine R_iconst_m1 dX12_count_28 ?_
      refine R_icmp_ne dX12_count_29 (fun hb29 => ?_) (fun hb29 => ?_)
      · refine R_iconst_1 dX12_count_36 ?_
        refine iL4 dX12_count_37 ?_
        refine R_ishl dX12_count_39 ?_
        exact topV (v := obI (lisP w q) q) (by first | exact obI_f (by simp [lisP]; omega) | exact obI_t (by simp [lisP]; omega)) J13
      · refine R_iconst_0 dX12_count_32 ?_
        refine R_goto dX12_count_33 ?_
        exact topV (v := obI (lisP w q) q) (by first | exact obI_f (by simp [lisP]; omega) | exact obI_t (by simp [lisP]; omega)) J13
    refine R_ior dX12_count_40 ?_
    refine iS2 dX12_count_41 ?_
    refine iInc4 dX12_count_42 (winc (by omega)) ?_
    refine R_goto dX12_count_45 ?_
    exact eqI2 (bset_ob) (ihq (by omega))
set_option maxHeartbeats 400000 in
theorem C_X12_count_3 {d : Nat} {g : Gs} {h : Hc} {P : Po} {M : Nat} {w : Nat → Int} (hG : MdG g M) (hW : h (M + 1) = w) (hf : WF w) (hl : LawOK w) (K0 : ∀ h', Mp M h h' 0 → P (.inl (some (vI (if w 3 = 1 then w 516 else -1)))) g h') : Call (d + 4) 0 0 mX12_count [vR M, vI 3] g h P := by
  have hcs := hf.cas
  have hjd := hf.jud
  have hho := hf.hou
  refine Call_of rfl ⟨by decide +kernel, rfl⟩ (Nat.le_of_ble_eq_true rfl) rfl ?_
  refine aL0 dX12_count_0 ?_
  refine R_iconst_0 dX12_count_1 ?_
  refine R_putI dX12_count_2 fX12_3 hG.o ?_
  refine storH (fun h1 e1 => ?_)
  have hP : Mp M h h1 0 := by rw [e1]; exact Mp.i h M
  replace hW : h1 (M + 1) = w := hP.w hW
  have hQ : Mz M h1 h1 := Mz.rf _ _
  refine R_iconst_0 dX12_count_5 ?_
  refine iS2 dX12_count_6 ?_
  refine R_iconst_0 dX12_count_7 ?_
  refine iS3 dX12_count_8 ?_
  refine R_iconst_0 dX12_count_9 ?_
  refine iS4 dX12_count_10 ?_
  refine loopN ((w 1).toNat) (fun q => Run (d + 4) 0 0 mX12_count 12 [vR M, vI 3, vI (bset (lisP w) q), vI 0, vI ((q : Nat) : Int)] [] g h1 P) (fun q hcnq ihq => ?_) (0) (Nat.zero_le _)
  refine iL4 dX12_count_12 ?_
  refine aL0 dX12_count_14 ?_
  refine invV0 rfl dX12_count_15 kX12_90 hG.o (Nat.le_of_ble_eq_true rfl) (Nat.zero_le _) (Nat.zero_le _) (C_X12_cases hG hW hf (konI ?_))
  have hcs := hf.cas
  refine R_icmp_ge dX12_count_18 (fun hb18 => ?_) (fun hb18 => ?_)
  · have e9 : q = (w 1).toNat := by omega
    subst e9
    refine R_iconst_0 dX12_count_48 ?_
    refine iS4 dX12_count_49 ?_
    refine loopN ((w 0).toNat) (fun q => Run (d + 4) 0 0 mX12_count 51 [vR M, vI 3, vI (bset (lisP w) ((w 1).toNat)), vI (sumB (fun j => w (80 + 4 * j)) (fun _ => true) q), vI ((q : Nat) : Int)] [] g h1 P) (fun q hcnq ihq => ?_) (0) (Nat.zero_le _)
    have hsb := sumB_rng (f := fun j => w (80 + 4 * j)) (p := fun _ => true) (m := 99) (by omega) (n := q) (fun k hk => hf.hu (by omega))
    refine iL4 dX12_count_51 ?_
    refine aL0 dX12_count_53 ?_
    refine invV0 rfl dX12_count_54 kX12_98 hG.o (Nat.le_of_ble_eq_true rfl) (Nat.zero_le _) (Nat.zero_le _) (C_X12_judges hG hW hf (konI ?_))
    have hjd := hf.jud
    refine R_icmp_ge dX12_count_57 (fun hb57 => ?_) (fun hb57 => ?_)
    · have e9 : q = (w 0).toNat := by omega
      subst e9
      refine iL1 dX12_count_76 ?_
      refine R_tsw (tt := 146) dX12_count_77 (by decide) (by decide) ?_
      refine aL0 dX12_count_146 ?_
      refine R_getR dX12_count_147 fX12_13.r hG.o rfl ?_
      refine R_iconst_3 dX12_count_150 ?_
      refine ialdN (k := 3) dX12_count_151 hG.a1 rfl (by decide) ?_
      refine topV (v := w 3) (congrFun hW _) ?_
      have hq11 := hf.law
      refine R_iconst_1 dX12_count_152 ?_
      refine R_icmp_ne dX12_count_153 (fun hb153 => ?_) (fun hb153 => ?_)
      · refine R_iconst_m1 dX12_count_167 ?_
        exact R_iret dX12_count_168 rfl (PeqI (K0 _ (hP.q hQ)) (by first | (rw [if_pos (by omega)]; done) | (rw [if_neg (by omega)]; done)))
      · refine aL0 dX12_count_156 ?_
        refine R_getR dX12_count_157 fX12_13.r hG.o rfl ?_
        refine R_sipush dX12_count_160 (by decide) ?_
        refine ialdN (k := 516) dX12_count_163 hG.a1 rfl (by decide) ?_
        refine topV (v := w 516) (congrFun hW _) ?_
        refine R_goto dX12_count_164 ?_
        exact R_iret dX12_count_168 rfl (PeqI (K0 _ (hP.q hQ)) (by first | (rw [if_pos (by omega)]; done) | (rw [if_neg (by omega)]; done)))
    · refine iL3 dX12_count_60 ?_
      refine aL0 dX12_count_61 ?_
      refine iL4 dX12_count_62 ?_
      refine R_iconst_0 dX12_count_64 ?_
      refine invV2 rfl dX12_count_65 kX12_280 hG.o (Nat.le_of_ble_eq_true rfl) (Nat.zero_le _) (Nat.zero_le _) (C_X12_ofJudge hG hW (b := 0) (i := 80 + 4 * q) (by omega) (by omega) (konI ?_))
      have hq12 := hf.hu (j := q) (by omega)
      refine addV dX12_count_68 (wid (by omega) (by omega)) ?_
      refine iS3 dX12_count_69 ?_
      refine iInc4 dX12_count_70 (winc (by omega)) ?_
      refine R_goto dX12_count_73 ?_
      exact eqI3 ((sumB_t (f := fun j => w (80 + 4 * j)) (p := fun _ => true) rfl).symm) (ihq (by omega))
  · refine iL2 dX12_count_21 ?_
    suffices J13 : Run (d + 4) 0 0 mX12_count 40 [vR M, vI 3, vI (bset (lisP w) q), vI 0, vI ((q : Nat) : Int)] [vI (obI (lisP w q) q), vI (bset (lisP w) q)] g h1 P by
      refine aL0 dX12_count_22 ?_
      refine iL4 dX12_count_23 ?_
      refine invV1 rfl dX12_count_25 kX12_94 hG.o (Nat.le_of_ble_eq_true rfl) (Nat.zero_le _) (Nat.zero_le _) (C_X12_placeOf hG hW hf (by omega) (konI ?_))
      refine R_iconst_m1 dX12_count_28 ?_
      refine R_icmp_ne dX12_count_29 (fun hb29 => ?_) (fun hb29 => ?_)
      · refine R_iconst_1 dX12_count_36 ?_
        refine iL4 dX12_count_37 ?_
        refine R_ishl dX12_count_39 ?_
        exact topV (v := obI (lisP w q) q) (by first | exact obI_f (by simp [lisP]; omega) | exact obI_t (by simp [lisP]; omega)) J13
      · refine R_iconst_0 dX12_count_32 ?_
        refine R_goto dX12_count_33 ?_
        exact topV (v := obI (lisP w q) q) (by first | exact obI_f (by simp [lisP]; omega) | exact obI_t (by simp [lisP]; omega)) J13
    refine R_ior dX12_count_40 ?_
    refine iS2 dX12_count_41 ?_
    refine iInc4 dX12_count_42 (winc (by omega)) ?_
    refine R_goto dX12_count_45 ?_
    exact eqI2 (bset_ob) (ihq (by omega))
set_option maxHeartbeats 400000 in
theorem C_X12_count_4 {d : Nat} {g : Gs} {h : Hc} {P : Po} {M : Nat} {w : Nat → Int} (hG : MdG g M) (hW : h (M + 1) = w) (hf : WF w) (hl : LawOK w) (K0 : ∀ h', Mp M h h' 0 → P (.inl (some (vI (w 4)))) g h') : Call (d + 4) 0 0 mX12_count [vR M, vI 4] g h P := by
  have hcs := hf.cas
  have hjd := hf.jud
  have hho := hf.hou
  refine Call_of rfl ⟨by decide +kernel, rfl⟩ (Nat.le_of_ble_eq_true rfl) rfl ?_
  refine aL0 dX12_count_0 ?_
  refine R_iconst_0 dX12_count_1 ?_
  refine R_putI dX12_count_2 fX12_3 hG.o ?_
  refine storH (fun h1 e1 => ?_)
  have hP : Mp M h h1 0 := by rw [e1]; exact Mp.i h M
  replace hW : h1 (M + 1) = w := hP.w hW
  have hQ : Mz M h1 h1 := Mz.rf _ _
  refine R_iconst_0 dX12_count_5 ?_
  refine iS2 dX12_count_6 ?_
  refine R_iconst_0 dX12_count_7 ?_
  refine iS3 dX12_count_8 ?_
  refine R_iconst_0 dX12_count_9 ?_
  refine iS4 dX12_count_10 ?_
  refine loopN ((w 1).toNat) (fun q => Run (d + 4) 0 0 mX12_count 12 [vR M, vI 4, vI (bset (lisP w) q), vI 0, vI ((q : Nat) : Int)] [] g h1 P) (fun q hcnq ihq => ?_) (0) (Nat.zero_le _)
  refine iL4 dX12_count_12 ?_
  refine aL0 dX12_count_14 ?_
  refine invV0 rfl dX12_count_15 kX12_90 hG.o (Nat.le_of_ble_eq_true rfl) (Nat.zero_le _) (Nat.zero_le _) (C_X12_cases hG hW hf (konI ?_))
  have hcs := hf.cas
  refine R_icmp_ge dX12_count_18 (fun hb18 => ?_) (fun hb18 => ?_)
  · have e9 : q = (w 1).toNat := by omega
    subst e9
    refine R_iconst_0 dX12_count_48 ?_
    refine iS4 dX12_count_49 ?_
    refine loopN ((w 0).toNat) (fun q => Run (d + 4) 0 0 mX12_count 51 [vR M, vI 4, vI (bset (lisP w) ((w 1).toNat)), vI (sumB (fun j => w (80 + 4 * j)) (fun _ => true) q), vI ((q : Nat) : Int)] [] g h1 P) (fun q hcnq ihq => ?_) (0) (Nat.zero_le _)
    have hsb := sumB_rng (f := fun j => w (80 + 4 * j)) (p := fun _ => true) (m := 99) (by omega) (n := q) (fun k hk => hf.hu (by omega))
    refine iL4 dX12_count_51 ?_
    refine aL0 dX12_count_53 ?_
    refine invV0 rfl dX12_count_54 kX12_98 hG.o (Nat.le_of_ble_eq_true rfl) (Nat.zero_le _) (Nat.zero_le _) (C_X12_judges hG hW hf (konI ?_))
    have hjd := hf.jud
    refine R_icmp_ge dX12_count_57 (fun hb57 => ?_) (fun hb57 => ?_)
    · have e9 : q = (w 0).toNat := by omega
      subst e9
      refine iL1 dX12_count_76 ?_
      refine R_tsw (tt := 169) dX12_count_77 (by decide) (by decide) ?_
      refine iL1 dX12_count_169 ?_
      refine R_iconst_0 dX12_count_170 ?_
      refine R_iconst_5 dX12_count_171 ?_
      refine invS3 rfl dX12_count_172 kX12_101 (Nat.le_of_ble_eq_true rfl) (Nat.zero_le _) (Nat.zero_le _) (C_X12_in (konI ?_))
      refine R_ifB_eq dX12_count_175 (fun hb175 => ?_) (fun hb175 => ?_)
      · exact absurd hb175 (by decide)
      · refine aL0 dX12_count_178 ?_
        refine R_getR dX12_count_179 fX12_13.r hG.o rfl ?_
        refine iL1 dX12_count_182 ?_
        refine ialdN (k := 4) dX12_count_183 hG.a1 rfl (by decide) ?_
        refine topV (v := w 4) (congrFun hW _) ?_
        have hq11 := hf.hou
        refine R_goto dX12_count_184 ?_
        exact R_iret dX12_count_188 rfl (K0 _ (hP.q hQ))
    · refine iL3 dX12_count_60 ?_
      refine aL0 dX12_count_61 ?_
      refine iL4 dX12_count_62 ?_
      refine R_iconst_0 dX12_count_64 ?_
      refine invV2 rfl dX12_count_65 kX12_280 hG.o (Nat.le_of_ble_eq_true rfl) (Nat.zero_le _) (Nat.zero_le _) (C_X12_ofJudge hG hW (b := 0) (i := 80 + 4 * q) (by omega) (by omega) (konI ?_))
      have hq12 := hf.hu (j := q) (by omega)
      refine addV dX12_count_68 (wid (by omega) (by omega)) ?_
      refine iS3 dX12_count_69 ?_
      refine iInc4 dX12_count_70 (winc (by omega)) ?_
      refine R_goto dX12_count_73 ?_
      exact eqI3 ((sumB_t (f := fun j => w (80 + 4 * j)) (p := fun _ => true) rfl).symm) (ihq (by omega))
  · refine iL2 dX12_count_21 ?_
    suffices J13 : Run (d + 4) 0 0 mX12_count 40 [vR M, vI 4, vI (bset (lisP w) q), vI 0, vI ((q : Nat) : Int)] [vI (obI (lisP w q) q), vI (bset (lisP w) q)] g h1 P by
      refine aL0 dX12_count_22 ?_
      refine iL4 dX12_count_23 ?_
      refine invV1 rfl dX12_count_25 kX12_94 hG.o (Nat.le_of_ble_eq_true rfl) (Nat.zero_le _) (Nat.zero_le _) (C_X12_placeOf hG hW hf (by omega) (konI ?_))
      refine R_iconst_m1 dX12_count_28 ?_
      refine R_icmp_ne dX12_count_29 (fun hb29 => ?_) (fun hb29 => ?_)
      · refine R_iconst_1 dX12_count_36 ?_
        refine iL4 dX12_count_37 ?_
        refine R_ishl dX12_count_39 ?_
        exact topV (v := obI (lisP w q) q) (by first | exact obI_f (by simp [lisP]; omega) | exact obI_t (by simp [lisP]; omega)) J13
      · refine R_iconst_0 dX12_count_32 ?_
        refine R_goto dX12_count_33 ?_
        exact topV (v := obI (lisP w q) q) (by first | exact obI_f (by simp [lisP]; omega) | exact obI_t (by simp [lisP]; omega)) J13
    refine R_ior dX12_count_40 ?_
    refine iS2 dX12_count_41 ?_
    refine iInc4 dX12_count_42 (winc (by omega)) ?_
    refine R_goto dX12_count_45 ?_
    exact eqI2 (bset_ob) (ihq (by omega))
set_option maxHeartbeats 400000 in
theorem C_X12_count_5 {d : Nat} {g : Gs} {h : Hc} {P : Po} {M : Nat} {w : Nat → Int} (hG : MdG g M) (hW : h (M + 1) = w) (hf : WF w) (hl : LawOK w) (K0 : ∀ h', Mp M h h' 0 → P (.inl (some (vI (w 5)))) g h') : Call (d + 4) 0 0 mX12_count [vR M, vI 5] g h P := by
  have hcs := hf.cas
  have hjd := hf.jud
  have hho := hf.hou
  refine Call_of rfl ⟨by decide +kernel, rfl⟩ (Nat.le_of_ble_eq_true rfl) rfl ?_
  refine aL0 dX12_count_0 ?_
  refine R_iconst_0 dX12_count_1 ?_
  refine R_putI dX12_count_2 fX12_3 hG.o ?_
  refine storH (fun h1 e1 => ?_)
  have hP : Mp M h h1 0 := by rw [e1]; exact Mp.i h M
  replace hW : h1 (M + 1) = w := hP.w hW
  have hQ : Mz M h1 h1 := Mz.rf _ _
  refine R_iconst_0 dX12_count_5 ?_
  refine iS2 dX12_count_6 ?_
  refine R_iconst_0 dX12_count_7 ?_
  refine iS3 dX12_count_8 ?_
  refine R_iconst_0 dX12_count_9 ?_
  refine iS4 dX12_count_10 ?_
  refine loopN ((w 1).toNat) (fun q => Run (d + 4) 0 0 mX12_count 12 [vR M, vI 5, vI (bset (lisP w) q), vI 0, vI ((q : Nat) : Int)] [] g h1 P) (fun q hcnq ihq => ?_) (0) (Nat.zero_le _)
  refine iL4 dX12_count_12 ?_
  refine aL0 dX12_count_14 ?_
  refine invV0 rfl dX12_count_15 kX12_90 hG.o (Nat.le_of_ble_eq_true rfl) (Nat.zero_le _) (Nat.zero_le _) (C_X12_cases hG hW hf (konI ?_))
  have hcs := hf.cas
  refine R_icmp_ge dX12_count_18 (fun hb18 => ?_) (fun hb18 => ?_)
  · have e9 : q = (w 1).toNat := by omega
    subst e9
    refine R_iconst_0 dX12_count_48 ?_
    refine iS4 dX12_count_49 ?_
    refine loopN ((w 0).toNat) (fun q => Run (d + 4) 0 0 mX12_count 51 [vR M, vI 5, vI (bset (lisP w) ((w 1).toNat)), vI (sumB (fun j => w (80 + 4 * j)) (fun _ => true) q), vI ((q : Nat) : Int)] [] g h1 P) (fun q hcnq ihq => ?_) (0) (Nat.zero_le _)
    have hsb := sumB_rng (f := fun j => w (80 + 4 * j)) (p := fun _ => true) (m := 99) (by omega) (n := q) (fun k hk => hf.hu (by omega))
    refine iL4 dX12_count_51 ?_
    refine aL0 dX12_count_53 ?_
    refine invV0 rfl dX12_count_54 kX12_98 hG.o (Nat.le_of_ble_eq_true rfl) (Nat.zero_le _) (Nat.zero_le _) (C_X12_judges hG hW hf (konI ?_))
    have hjd := hf.jud
    refine R_icmp_ge dX12_count_57 (fun hb57 => ?_) (fun hb57 => ?_)
    · have e9 : q = (w 0).toNat := by omega
      subst e9
      refine iL1 dX12_count_76 ?_
      refine R_tsw (tt := 169) dX12_count_77 (by decide) (by decide) ?_
      refine iL1 dX12_count_169 ?_
      refine R_iconst_0 dX12_count_170 ?_
      refine R_iconst_5 dX12_count_171 ?_
      refine invS3 rfl dX12_count_172 kX12_101 (Nat.le_of_ble_eq_true rfl) (Nat.zero_le _) (Nat.zero_le _) (C_X12_in (konI ?_))
      refine R_ifB_eq dX12_count_175 (fun hb175 => ?_) (fun hb175 => ?_)
      · exact absurd hb175 (by decide)
      · refine aL0 dX12_count_178 ?_
        refine R_getR dX12_count_179 fX12_13.r hG.o rfl ?_
        refine iL1 dX12_count_182 ?_
        refine ialdN (k := 5) dX12_count_183 hG.a1 rfl (by decide) ?_
        refine topV (v := w 5) (congrFun hW _) ?_
        have hq11 := hf.day
        refine R_goto dX12_count_184 ?_
        exact R_iret dX12_count_188 rfl (K0 _ (hP.q hQ))
    · refine iL3 dX12_count_60 ?_
      refine aL0 dX12_count_61 ?_
      refine iL4 dX12_count_62 ?_
      refine R_iconst_0 dX12_count_64 ?_
      refine invV2 rfl dX12_count_65 kX12_280 hG.o (Nat.le_of_ble_eq_true rfl) (Nat.zero_le _) (Nat.zero_le _) (C_X12_ofJudge hG hW (b := 0) (i := 80 + 4 * q) (by omega) (by omega) (konI ?_))
      have hq12 := hf.hu (j := q) (by omega)
      refine addV dX12_count_68 (wid (by omega) (by omega)) ?_
      refine iS3 dX12_count_69 ?_
      refine iInc4 dX12_count_70 (winc (by omega)) ?_
      refine R_goto dX12_count_73 ?_
      exact eqI3 ((sumB_t (f := fun j => w (80 + 4 * j)) (p := fun _ => true) rfl).symm) (ihq (by omega))
  · refine iL2 dX12_count_21 ?_
    suffices J13 : Run (d + 4) 0 0 mX12_count 40 [vR M, vI 5, vI (bset (lisP w) q), vI 0, vI ((q : Nat) : Int)] [vI (obI (lisP w q) q), vI (bset (lisP w) q)] g h1 P by
      refine aL0 dX12_count_22 ?_
      refine iL4 dX12_count_23 ?_
      refine invV1 rfl dX12_count_25 kX12_94 hG.o (Nat.le_of_ble_eq_true rfl) (Nat.zero_le _) (Nat.zero_le _) (C_X12_placeOf hG hW hf (by omega) (konI ?_))
      refine R_iconst_m1 dX12_count_28 ?_
      refine R_icmp_ne dX12_count_29 (fun hb29 => ?_) (fun hb29 => ?_)
      · refine R_iconst_1 dX12_count_36 ?_
        refine iL4 dX12_count_37 ?_
        refine R_ishl dX12_count_39 ?_
        exact topV (v := obI (lisP w q) q) (by first | exact obI_f (by simp [lisP]; omega) | exact obI_t (by simp [lisP]; omega)) J13
      · refine R_iconst_0 dX12_count_32 ?_
        refine R_goto dX12_count_33 ?_
        exact topV (v := obI (lisP w q) q) (by first | exact obI_f (by simp [lisP]; omega) | exact obI_t (by simp [lisP]; omega)) J13
    refine R_ior dX12_count_40 ?_
    refine iS2 dX12_count_41 ?_
    refine iInc4 dX12_count_42 (winc (by omega)) ?_
    refine R_goto dX12_count_45 ?_
    exact eqI2 (bset_ob) (ihq (by omega))
set_option maxHeartbeats 400000 in
theorem C_X12_count_6 {d : Nat} {g : Gs} {h : Hc} {P : Po} {M : Nat} {w : Nat → Int} (hG : MdG g M) (hW : h (M + 1) = w) (hf : WF w) (hl : LawOK w) (K0 : ∀ h', Mp M h h' 0 → P (.inl (some (vI (inSt w 0)))) g h') : Call (d + 4) 0 0 mX12_count [vR M, vI 6] g h P := by
  have hcs := hf.cas
  have hjd := hf.jud
  have hho := hf.hou
  refine Call_of rfl ⟨by decide +kernel, rfl⟩ (Nat.le_of_ble_eq_true rfl) rfl ?_
  refine aL0 dX12_count_0 ?_
  refine R_iconst_0 dX12_count_1 ?_
  refine R_putI dX12_count_2 fX12_3 hG.o ?_
  refine storH (fun h1 e1 => ?_)
  have hP : Mp M h h1 0 := by rw [e1]; exact Mp.i h M
  replace hW : h1 (M + 1) = w := hP.w hW
  have hQ : Mz M h1 h1 := Mz.rf _ _
  refine R_iconst_0 dX12_count_5 ?_
  refine iS2 dX12_count_6 ?_
  refine R_iconst_0 dX12_count_7 ?_
  refine iS3 dX12_count_8 ?_
  refine R_iconst_0 dX12_count_9 ?_
  refine iS4 dX12_count_10 ?_
  refine loopN ((w 1).toNat) (fun q => Run (d + 4) 0 0 mX12_count 12 [vR M, vI 6, vI (bset (lisP w) q), vI 0, vI ((q : Nat) : Int)] [] g h1 P) (fun q hcnq ihq => ?_) (0) (Nat.zero_le _)
  refine iL4 dX12_count_12 ?_
  refine aL0 dX12_count_14 ?_
  refine invV0 rfl dX12_count_15 kX12_90 hG.o (Nat.le_of_ble_eq_true rfl) (Nat.zero_le _) (Nat.zero_le _) (C_X12_cases hG hW hf (konI ?_))
  have hcs := hf.cas
  refine R_icmp_ge dX12_count_18 (fun hb18 => ?_) (fun hb18 => ?_)
  · have e9 : q = (w 1).toNat := by omega
    subst e9
    refine R_iconst_0 dX12_count_48 ?_
    refine iS4 dX12_count_49 ?_
    refine loopN ((w 0).toNat) (fun q => Run (d + 4) 0 0 mX12_count 51 [vR M, vI 6, vI (bset (lisP w) ((w 1).toNat)), vI (sumB (fun j => w (80 + 4 * j)) (fun _ => true) q), vI ((q : Nat) : Int)] [] g h1 P) (fun q hcnq ihq => ?_) (0) (Nat.zero_le _)
    have hsb := sumB_rng (f := fun j => w (80 + 4 * j)) (p := fun _ => true) (m := 99) (by omega) (n := q) (fun k hk => hf.hu (by omega))
    refine iL4 dX12_count_51 ?_
    refine aL0 dX12_count_53 ?_
    refine invV0 rfl dX12_count_54 kX12_98 hG.o (Nat.le_of_ble_eq_true rfl) (Nat.zero_le _) (Nat.zero_le _) (C_X12_judges hG hW hf (konI ?_))
    have hjd := hf.jud
    refine R_icmp_ge dX12_count_57 (fun hb57 => ?_) (fun hb57 => ?_)
    · have e9 : q = (w 0).toNat := by omega
      subst e9
      refine iL1 dX12_count_76 ?_
      refine R_tsw (tt := 124) dX12_count_77 (by decide) (by decide) ?_
      refine aL0 dX12_count_124 ?_
      refine invV0 rfl dX12_count_125 kX12_481 hG.o (Nat.le_of_ble_eq_true rfl) (Nat.zero_le _) (Nat.zero_le _) (C_X12_waiting hG hW hf (konI ?_))
      exact R_iret dX12_count_128 rfl (K0 _ (hP.q hQ))
    · refine iL3 dX12_count_60 ?_
      refine aL0 dX12_count_61 ?_
      refine iL4 dX12_count_62 ?_
      refine R_iconst_0 dX12_count_64 ?_
      refine invV2 rfl dX12_count_65 kX12_280 hG.o (Nat.le_of_ble_eq_true rfl) (Nat.zero_le _) (Nat.zero_le _) (C_X12_ofJudge hG hW (b := 0) (i := 80 + 4 * q) (by omega) (by omega) (konI ?_))
      have hq11 := hf.hu (j := q) (by omega)
      refine addV dX12_count_68 (wid (by omega) (by omega)) ?_
      refine iS3 dX12_count_69 ?_
      refine iInc4 dX12_count_70 (winc (by omega)) ?_
      refine R_goto dX12_count_73 ?_
      exact eqI3 ((sumB_t (f := fun j => w (80 + 4 * j)) (p := fun _ => true) rfl).symm) (ihq (by omega))
  · refine iL2 dX12_count_21 ?_
    suffices J12 : Run (d + 4) 0 0 mX12_count 40 [vR M, vI 6, vI (bset (lisP w) q), vI 0, vI ((q : Nat) : Int)] [vI (obI (lisP w q) q), vI (bset (lisP w) q)] g h1 P by
      refine aL0 dX12_count_22 ?_
      refine iL4 dX12_count_23 ?_
      refine invV1 rfl dX12_count_25 kX12_94 hG.o (Nat.le_of_ble_eq_true rfl) (Nat.zero_le _) (Nat.zero_le _) (C_X12_placeOf hG hW hf (by omega) (konI ?_))
      refine R_iconst_m1 dX12_count_28 ?_
      refine R_icmp_ne dX12_count_29 (fun hb29 => ?_) (fun hb29 => ?_)
      · refine R_iconst_1 dX12_count_36 ?_
        refine iL4 dX12_count_37 ?_
        refine R_ishl dX12_count_39 ?_
        exact topV (v := obI (lisP w q) q) (by first | exact obI_f (by simp [lisP]; omega) | exact obI_t (by simp [lisP]; omega)) J12
      · refine R_iconst_0 dX12_count_32 ?_
        refine R_goto dX12_count_33 ?_
        exact topV (v := obI (lisP w q) q) (by first | exact obI_f (by simp [lisP]; omega) | exact obI_t (by simp [lisP]; omega)) J12
    refine R_ior dX12_count_40 ?_
    refine iS2 dX12_count_41 ?_
    refine iInc4 dX12_count_42 (winc (by omega)) ?_
    refine R_goto dX12_count_45 ?_
    exact eqI2 (bset_ob) (ihq (by omega))
set_option maxHeartbeats 400000 in
theorem C_X12_count_7 {d : Nat} {g : Gs} {h : Hc} {P : Po} {M : Nat} {w : Nat → Int} (hG : MdG g M) (hW : h (M + 1) = w) (hf : WF w) (hl : LawOK w) (K0 : ∀ h', Mp M h h' 0 → P (.inl (some (vI (listF w 60)))) g h') : Call (d + 4) 0 0 mX12_count [vR M, vI 7] g h P := by
  have hcs := hf.cas
  have hjd := hf.jud
  have hho := hf.hou
  refine Call_of rfl ⟨by decide +kernel, rfl⟩ (Nat.le_of_ble_eq_true rfl) rfl ?_
  refine aL0 dX12_count_0 ?_
  refine R_iconst_0 dX12_count_1 ?_
  refine R_putI dX12_count_2 fX12_3 hG.o ?_
  refine storH (fun h1 e1 => ?_)
  have hP : Mp M h h1 0 := by rw [e1]; exact Mp.i h M
  replace hW : h1 (M + 1) = w := hP.w hW
  have hQ : Mz M h1 h1 := Mz.rf _ _
  refine R_iconst_0 dX12_count_5 ?_
  refine iS2 dX12_count_6 ?_
  refine R_iconst_0 dX12_count_7 ?_
  refine iS3 dX12_count_8 ?_
  refine R_iconst_0 dX12_count_9 ?_
  refine iS4 dX12_count_10 ?_
  refine loopN ((w 1).toNat) (fun q => Run (d + 4) 0 0 mX12_count 12 [vR M, vI 7, vI (bset (lisP w) q), vI 0, vI ((q : Nat) : Int)] [] g h1 P) (fun q hcnq ihq => ?_) (0) (Nat.zero_le _)
  refine iL4 dX12_count_12 ?_
  refine aL0 dX12_count_14 ?_
  refine invV0 rfl dX12_count_15 kX12_90 hG.o (Nat.le_of_ble_eq_true rfl) (Nat.zero_le _) (Nat.zero_le _) (C_X12_cases hG hW hf (konI ?_))
  have hcs := hf.cas
  refine R_icmp_ge dX12_count_18 (fun hb18 => ?_) (fun hb18 => ?_)
  · have e9 : q = (w 1).toNat := by omega
    subst e9
    refine R_iconst_0 dX12_count_48 ?_
    refine iS4 dX12_count_49 ?_
    refine loopN ((w 0).toNat) (fun q => Run (d + 4) 0 0 mX12_count 51 [vR M, vI 7, vI (bset (lisP w) ((w 1).toNat)), vI (sumB (fun j => w (80 + 4 * j)) (fun _ => true) q), vI ((q : Nat) : Int)] [] g h1 P) (fun q hcnq ihq => ?_) (0) (Nat.zero_le _)
    have hsb := sumB_rng (f := fun j => w (80 + 4 * j)) (p := fun _ => true) (m := 99) (by omega) (n := q) (fun k hk => hf.hu (by omega))
    refine iL4 dX12_count_51 ?_
    refine aL0 dX12_count_53 ?_
    refine invV0 rfl dX12_count_54 kX12_98 hG.o (Nat.le_of_ble_eq_true rfl) (Nat.zero_le _) (Nat.zero_le _) (C_X12_judges hG hW hf (konI ?_))
    have hjd := hf.jud
    refine R_icmp_ge dX12_count_57 (fun hb57 => ?_) (fun hb57 => ?_)
    · have e9 : q = (w 0).toNat := by omega
      subst e9
      refine iL1 dX12_count_76 ?_
      refine R_tsw (tt := 129) dX12_count_77 (by decide) (by decide) ?_
      refine iL2 dX12_count_129 ?_
      exact R_iret dX12_count_130 rfl (by have := K0 _ (hP.q hQ); rw [← lis_eq hf] at this; exact this)
    · refine iL3 dX12_count_60 ?_
      refine aL0 dX12_count_61 ?_
      refine iL4 dX12_count_62 ?_
      refine R_iconst_0 dX12_count_64 ?_
      refine invV2 rfl dX12_count_65 kX12_280 hG.o (Nat.le_of_ble_eq_true rfl) (Nat.zero_le _) (Nat.zero_le _) (C_X12_ofJudge hG hW (b := 0) (i := 80 + 4 * q) (by omega) (by omega) (konI ?_))
      have hq11 := hf.hu (j := q) (by omega)
      refine addV dX12_count_68 (wid (by omega) (by omega)) ?_
      refine iS3 dX12_count_69 ?_
      refine iInc4 dX12_count_70 (winc (by omega)) ?_
      refine R_goto dX12_count_73 ?_
      exact eqI3 ((sumB_t (f := fun j => w (80 + 4 * j)) (p := fun _ => true) rfl).symm) (ihq (by omega))
  · refine iL2 dX12_count_21 ?_
    suffices J12 : Run (d + 4) 0 0 mX12_count 40 [vR M, vI 7, vI (bset (lisP w) q), vI 0, vI ((q : Nat) : Int)] [vI (obI (lisP w q) q), vI (bset (lisP w) q)] g h1 P by
      refine aL0 dX12_count_22 ?_
      refine iL4 dX12_count_23 ?_
      refine invV1 rfl dX12_count_25 kX12_94 hG.o (Nat.le_of_ble_eq_true rfl) (Nat.zero_le _) (Nat.zero_le _) (C_X12_placeOf hG hW hf (by omega) (konI ?_))
      refine R_iconst_m1 dX12_count_28 ?_
      refine R_icmp_ne dX12_count_29 (fun hb29 => ?_) (fun hb29 => ?_)
      · refine R_iconst_1 dX12_count_36 ?_
        refine iL4 dX12_count_37 ?_
        refine R_ishl dX12_count_39 ?_
        exact topV (v := obI (lisP w q) q) (by first | exact obI_f (by simp [lisP]; omega) | exact obI_t (by simp [lisP]; omega)) J12
      · refine R_iconst_0 dX12_count_32 ?_
        refine R_goto dX12_count_33 ?_
        exact topV (v := obI (lisP w q) q) (by first | exact obI_f (by simp [lisP]; omega) | exact obI_t (by simp [lisP]; omega)) J12
    refine R_ior dX12_count_40 ?_
    refine iS2 dX12_count_41 ?_
    refine iInc4 dX12_count_42 (winc (by omega)) ?_
    refine R_goto dX12_count_45 ?_
    exact eqI2 (bset_ob) (ihq (by omega))
set_option maxHeartbeats 400000 in
theorem C_X12_count_8 {d : Nat} {g : Gs} {h : Hc} {P : Po} {M : Nat} {w : Nat → Int} (hG : MdG g M) (hW : h (M + 1) = w) (hf : WF w) (hl : LawOK w) (K0 : ∀ h', Mp M h h' 0 → P (.inl (some (vI (hungAll w)))) g h') : Call (d + 4) 0 0 mX12_count [vR M, vI 8] g h P := by
  have hcs := hf.cas
  have hjd := hf.jud
  have hho := hf.hou
  refine Call_of rfl ⟨by decide +kernel, rfl⟩ (Nat.le_of_ble_eq_true rfl) rfl ?_
  refine aL0 dX12_count_0 ?_
  refine R_iconst_0 dX12_count_1 ?_
  refine R_putI dX12_count_2 fX12_3 hG.o ?_
  refine storH (fun h1 e1 => ?_)
  have hP : Mp M h h1 0 := by rw [e1]; exact Mp.i h M
  replace hW : h1 (M + 1) = w := hP.w hW
  have hQ : Mz M h1 h1 := Mz.rf _ _
  refine R_iconst_0 dX12_count_5 ?_
  refine iS2 dX12_count_6 ?_
  refine R_iconst_0 dX12_count_7 ?_
  refine iS3 dX12_count_8 ?_
  refine R_iconst_0 dX12_count_9 ?_
  refine iS4 dX12_count_10 ?_
  refine loopN ((w 1).toNat) (fun q => Run (d + 4) 0 0 mX12_count 12 [vR M, vI 8, vI (bset (lisP w) q), vI 0, vI ((q : Nat) : Int)] [] g h1 P) (fun q hcnq ihq => ?_) (0) (Nat.zero_le _)
  refine iL4 dX12_count_12 ?_
  refine aL0 dX12_count_14 ?_
  refine invV0 rfl dX12_count_15 kX12_90 hG.o (Nat.le_of_ble_eq_true rfl) (Nat.zero_le _) (Nat.zero_le _) (C_X12_cases hG hW hf (konI ?_))
  have hcs := hf.cas
  refine R_icmp_ge dX12_count_18 (fun hb18 => ?_) (fun hb18 => ?_)
  · have e9 : q = (w 1).toNat := by omega
    subst e9
    refine R_iconst_0 dX12_count_48 ?_
    refine iS4 dX12_count_49 ?_
    refine loopN ((w 0).toNat) (fun q => Run (d + 4) 0 0 mX12_count 51 [vR M, vI 8, vI (bset (lisP w) ((w 1).toNat)), vI (sumB (fun j => w (80 + 4 * j)) (fun _ => true) q), vI ((q : Nat) : Int)] [] g h1 P) (fun q hcnq ihq => ?_) (0) (Nat.zero_le _)
    have hsb := sumB_rng (f := fun j => w (80 + 4 * j)) (p := fun _ => true) (m := 99) (by omega) (n := q) (fun k hk => hf.hu (by omega))
    refine iL4 dX12_count_51 ?_
    refine aL0 dX12_count_53 ?_
    refine invV0 rfl dX12_count_54 kX12_98 hG.o (Nat.le_of_ble_eq_true rfl) (Nat.zero_le _) (Nat.zero_le _) (C_X12_judges hG hW hf (konI ?_))
    have hjd := hf.jud
    refine R_icmp_ge dX12_count_57 (fun hb57 => ?_) (fun hb57 => ?_)
    · have e9 : q = (w 0).toNat := by omega
      subst e9
      refine iL1 dX12_count_76 ?_
      refine R_tsw (tt := 131) dX12_count_77 (by decide) (by decide) ?_
      refine iL3 dX12_count_131 ?_
      exact R_iret dX12_count_132 rfl (K0 _ (hP.q hQ))
    · refine iL3 dX12_count_60 ?_
      refine aL0 dX12_count_61 ?_
      refine iL4 dX12_count_62 ?_
      refine R_iconst_0 dX12_count_64 ?_
      refine invV2 rfl dX12_count_65 kX12_280 hG.o (Nat.le_of_ble_eq_true rfl) (Nat.zero_le _) (Nat.zero_le _) (C_X12_ofJudge hG hW (b := 0) (i := 80 + 4 * q) (by omega) (by omega) (konI ?_))
      have hq11 := hf.hu (j := q) (by omega)
      refine addV dX12_count_68 (wid (by omega) (by omega)) ?_
      refine iS3 dX12_count_69 ?_
      refine iInc4 dX12_count_70 (winc (by omega)) ?_
      refine R_goto dX12_count_73 ?_
      exact eqI3 ((sumB_t (f := fun j => w (80 + 4 * j)) (p := fun _ => true) rfl).symm) (ihq (by omega))
  · refine iL2 dX12_count_21 ?_
    suffices J12 : Run (d + 4) 0 0 mX12_count 40 [vR M, vI 8, vI (bset (lisP w) q), vI 0, vI ((q : Nat) : Int)] [vI (obI (lisP w q) q), vI (bset (lisP w) q)] g h1 P by
      refine aL0 dX12_count_22 ?_
      refine iL4 dX12_count_23 ?_
      refine invV1 rfl dX12_count_25 kX12_94 hG.o (Nat.le_of_ble_eq_true rfl) (Nat.zero_le _) (Nat.zero_le _) (C_X12_placeOf hG hW hf (by omega) (konI ?_))
      refine R_iconst_m1 dX12_count_28 ?_
      refine R_icmp_ne dX12_count_29 (fun hb29 => ?_) (fun hb29 => ?_)
      · refine R_iconst_1 dX12_count_36 ?_
        refine iL4 dX12_count_37 ?_
        refine R_ishl dX12_count_39 ?_
        exact topV (v := obI (lisP w q) q) (by first | exact obI_f (by simp [lisP]; omega) | exact obI_t (by simp [lisP]; omega)) J12
      · refine R_iconst_0 dX12_count_32 ?_
        refine R_goto dX12_count_33 ?_
        exact topV (v := obI (lisP w q) q) (by first | exact obI_f (by simp [lisP]; omega) | exact obI_t (by simp [lisP]; omega)) J12
    refine R_ior dX12_count_40 ?_
    refine iS2 dX12_count_41 ?_
    refine iInc4 dX12_count_42 (winc (by omega)) ?_
    refine R_goto dX12_count_45 ?_
    exact eqI2 (bset_ob) (ihq (by omega))
set_option maxHeartbeats 400000 in
theorem C_X12_count_9 {d : Nat} {g : Gs} {h : Hc} {P : Po} {M : Nat} {w : Nat → Int} (hG : MdG g M) (hW : h (M + 1) = w) (hf : WF w) (hl : LawOK w) (K0 : ∀ h', Mp M h h' 0 → P (.inl (some (vI (w 6)))) g h') : Call (d + 4) 0 0 mX12_count [vR M, vI 9] g h P := by
  have hcs := hf.cas
  have hjd := hf.jud
  have hho := hf.hou
  refine Call_of rfl ⟨by decide +kernel, rfl⟩ (Nat.le_of_ble_eq_true rfl) rfl ?_
  refine aL0 dX12_count_0 ?_
  refine R_iconst_0 dX12_count_1 ?_
  refine R_putI dX12_count_2 fX12_3 hG.o ?_
  refine storH (fun h1 e1 => ?_)
  have hP : Mp M h h1 0 := by rw [e1]; exact Mp.i h M
  replace hW : h1 (M + 1) = w := hP.w hW
  have hQ : Mz M h1 h1 := Mz.rf _ _
  refine R_iconst_0 dX12_count_5 ?_
  refine iS2 dX12_count_6 ?_
  refine R_iconst_0 dX12_count_7 ?_
  refine iS3 dX12_count_8 ?_
  refine R_iconst_0 dX12_count_9 ?_
  refine iS4 dX12_count_10 ?_
  refine loopN ((w 1).toNat) (fun q => Run (d + 4) 0 0 mX12_count 12 [vR M, vI 9, vI (bset (lisP w) q), vI 0, vI ((q : Nat) : Int)] [] g h1 P) (fun q hcnq ihq => ?_) (0) (Nat.zero_le _)
  refine iL4 dX12_count_12 ?_
  refine aL0 dX12_count_14 ?_
  refine invV0 rfl dX12_count_15 kX12_90 hG.o (Nat.le_of_ble_eq_true rfl) (Nat.zero_le _) (Nat.zero_le _) (C_X12_cases hG hW hf (konI ?_))
  have hcs := hf.cas
  refine R_icmp_ge dX12_count_18 (fun hb18 => ?_) (fun hb18 => ?_)
  · have e9 : q = (w 1).toNat := by omega
    subst e9
    refine R_iconst_0 dX12_count_48 ?_
    refine iS4 dX12_count_49 ?_
    refine loopN ((w 0).toNat) (fun q => Run (d + 4) 0 0 mX12_count 51 [vR M, vI 9, vI (bset (lisP w) ((w 1).toNat)), vI (sumB (fun j => w (80 + 4 * j)) (fun _ => true) q), vI ((q : Nat) : Int)] [] g h1 P) (fun q hcnq ihq => ?_) (0) (Nat.zero_le _)
    have hsb := sumB_rng (f := fun j => w (80 + 4 * j)) (p := fun _ => true) (m := 99) (by omega) (n := q) (fun k hk => hf.hu (by omega))
    refine iL4 dX12_count_51 ?_
    refine aL0 dX12_count_53 ?_
    refine invV0 rfl dX12_count_54 kX12_98 hG.o (Nat.le_of_ble_eq_true rfl) (Nat.zero_le _) (Nat.zero_le _) (C_X12_judges hG hW hf (konI ?_))
    have hjd := hf.jud
    refine R_icmp_ge dX12_count_57 (fun hb57 => ?_) (fun hb57 => ?_)
    · have e9 : q = (w 0).toNat := by omega
      subst e9
      refine iL1 dX12_count_76 ?_
      refine R_tsw (tt := 133) dX12_count_77 (by decide) (by decide) ?_
      refine aL0 dX12_count_133 ?_
      refine R_getR dX12_count_134 fX12_13.r hG.o rfl ?_
      refine R_bipush dX12_count_137 (by decide) ?_
      refine ialdN (k := 6) dX12_count_139 hG.a1 rfl (by decide) ?_
      refine topV (v := w 6) (congrFun hW _) ?_
      have hq11 := hf.log
      exact R_iret dX12_count_140 rfl (K0 _ (hP.q hQ))
    · refine iL3 dX12_count_60 ?_
      refine aL0 dX12_count_61 ?_
      refine iL4 dX12_count_62 ?_
      refine R_iconst_0 dX12_count_64 ?_
      refine invV2 rfl dX12_count_65 kX12_280 hG.o (Nat.le_of_ble_eq_true rfl) (Nat.zero_le _) (Nat.zero_le _) (C_X12_ofJudge hG hW (b := 0) (i := 80 + 4 * q) (by omega) (by omega) (konI ?_))
      have hq12 := hf.hu (j := q) (by omega)
      refine addV dX12_count_68 (wid (by omega) (by omega)) ?_
      refine iS3 dX12_count_69 ?_
      refine iInc4 dX12_count_70 (winc (by omega)) ?_
      refine R_goto dX12_count_73 ?_
      exact eqI3 ((sumB_t (f := fun j => w (80 + 4 * j)) (p := fun _ => true) rfl).symm) (ihq (by omega))
  · refine iL2 dX12_count_21 ?_
    suffices J13 : Run (d + 4) 0 0 mX12_count 40 [vR M, vI 9, vI (bset (lisP w) q), vI 0, vI ((q : Nat) : Int)] [vI (obI (lisP w q) q), vI (bset (lisP w) q)] g h1 P by
      refine aL0 dX12_count_22 ?_
      refine iL4 dX12_count_23 ?_
      refine invV1 rfl dX12_count_25 kX12_94 hG.o (Nat.le_of_ble_eq_true rfl) (Nat.zero_le _) (Nat.zero_le _) (C_X12_placeOf hG hW hf (by omega) (konI ?_))
      refine R_iconst_m1 dX12_count_28 ?_
      refine R_icmp_ne dX12_count_29 (fun hb29 => ?_) (fun hb29 => ?_)
      · refine R_iconst_1 dX12_count_36 ?_
        refine iL4 dX12_count_37 ?_
        refine R_ishl dX12_count_39 ?_
        exact topV (v := obI (lisP w q) q) (by first | exact obI_f (by simp [lisP]; omega) | exact obI_t (by simp [lisP]; omega)) J13
      · refine R_iconst_0 dX12_count_32 ?_
        refine R_goto dX12_count_33 ?_
        exact topV (v := obI (lisP w q) q) (by first | exact obI_f (by simp [lisP]; omega) | exact obI_t (by simp [lisP]; omega)) J13
    refine R_ior dX12_count_40 ?_
    refine iS2 dX12_count_41 ?_
    refine iInc4 dX12_count_42 (winc (by omega)) ?_
    refine R_goto dX12_count_45 ?_
    exact eqI2 (bset_ob) (ihq (by omega))
set_option maxHeartbeats 400000 in
theorem C_X12_count_10 {d : Nat} {g : Gs} {h : Hc} {P : Po} {M : Nat} {w : Nat → Int} (hG : MdG g M) (hW : h (M + 1) = w) (hf : WF w) (hl : LawOK w) (K0 : ∀ h', Mp M h h' 0 → P (.inl (some (vI (h M 7)))) g h') : Call (d + 4) 0 0 mX12_count [vR M, vI 10] g h P := by
  have hcs := hf.cas
  have hjd := hf.jud
  have hho := hf.hou
  refine Call_of rfl ⟨by decide +kernel, rfl⟩ (Nat.le_of_ble_eq_true rfl) rfl ?_
  refine aL0 dX12_count_0 ?_
  refine R_iconst_0 dX12_count_1 ?_
  refine R_putI dX12_count_2 fX12_3 hG.o ?_
  refine storH (fun h1 e1 => ?_)
  have hP : Mp M h h1 0 := by rw [e1]; exact Mp.i h M
  replace hW : h1 (M + 1) = w := hP.w hW
  have hQ : Mz M h1 h1 := Mz.rf _ _
  refine R_iconst_0 dX12_count_5 ?_
  refine iS2 dX12_count_6 ?_
  refine R_iconst_0 dX12_count_7 ?_
  refine iS3 dX12_count_8 ?_
  refine R_iconst_0 dX12_count_9 ?_
  refine iS4 dX12_count_10 ?_
  refine loopN ((w 1).toNat) (fun q => Run (d + 4) 0 0 mX12_count 12 [vR M, vI 10, vI (bset (lisP w) q), vI 0, vI ((q : Nat) : Int)] [] g h1 P) (fun q hcnq ihq => ?_) (0) (Nat.zero_le _)
  refine iL4 dX12_count_12 ?_
  refine aL0 dX12_count_14 ?_
  refine invV0 rfl dX12_count_15 kX12_90 hG.o (Nat.le_of_ble_eq_true rfl) (Nat.zero_le _) (Nat.zero_le _) (C_X12_cases hG hW hf (konI ?_))
  have hcs := hf.cas
  refine R_icmp_ge dX12_count_18 (fun hb18 => ?_) (fun hb18 => ?_)
  · have e9 : q = (w 1).toNat := by omega
    subst e9
    refine R_iconst_0 dX12_count_48 ?_
    refine iS4 dX12_count_49 ?_
    refine loopN ((w 0).toNat) (fun q => Run (d + 4) 0 0 mX12_count 51 [vR M, vI 10, vI (bset (lisP w) ((w 1).toNat)), vI (sumB (fun j => w (80 + 4 * j)) (fun _ => true) q), vI ((q : Nat) : Int)] [] g h1 P) (fun q hcnq ihq => ?_) (0) (Nat.zero_le _)
    have hsb := sumB_rng (f := fun j => w (80 + 4 * j)) (p := fun _ => true) (m := 99) (by omega) (n := q) (fun k hk => hf.hu (by omega))
    refine iL4 dX12_count_51 ?_
    refine aL0 dX12_count_53 ?_
    refine invV0 rfl dX12_count_54 kX12_98 hG.o (Nat.le_of_ble_eq_true rfl) (Nat.zero_le _) (Nat.zero_le _) (C_X12_judges hG hW hf (konI ?_))
    have hjd := hf.jud
    refine R_icmp_ge dX12_count_57 (fun hb57 => ?_) (fun hb57 => ?_)
    · have e9 : q = (w 0).toNat := by omega
      subst e9
      refine iL1 dX12_count_76 ?_
      refine R_tsw (tt := 141) dX12_count_77 (by decide) (by decide) ?_
      refine aL0 dX12_count_141 ?_
      refine R_getI dX12_count_142 fX12_77.r hG.o ?_
      refine topV (v := h M 7) (hP.2.1 7 (by omega) (by omega)) ?_
      exact R_iret dX12_count_145 rfl (K0 _ (hP.q hQ))
    · refine iL3 dX12_count_60 ?_
      refine aL0 dX12_count_61 ?_
      refine iL4 dX12_count_62 ?_
      refine R_iconst_0 dX12_count_64 ?_
      refine invV2 rfl dX12_count_65 kX12_280 hG.o (Nat.le_of_ble_eq_true rfl) (Nat.zero_le _) (Nat.zero_le _) (C_X12_ofJudge hG hW (b := 0) (i := 80 + 4 * q) (by omega) (by omega) (konI ?_))
      have hq11 := hf.hu (j := q) (by omega)
      refine addV dX12_count_68 (wid (by omega) (by omega)) ?_
      refine iS3 dX12_count_69 ?_
      refine iInc4 dX12_count_70 (winc (by omega)) ?_
      refine R_goto dX12_count_73 ?_
      exact eqI3 ((sumB_t (f := fun j => w (80 + 4 * j)) (p := fun _ => true) rfl).symm) (ihq (by omega))
  · refine iL2 dX12_count_21 ?_
    suffices J12 : Run (d + 4) 0 0 mX12_count 40 [vR M, vI 10, vI (bset (lisP w) q), vI 0, vI ((q : Nat) : Int)] [vI (obI (lisP w q) q), vI (bset (lisP w) q)] g h1 P by
      refine aL0 dX12_count_22 ?_
      refine iL4 dX12_count_23 ?_
      refine invV1 rfl dX12_count_25 kX12_94 hG.o (Nat.le_of_ble_eq_true rfl) (Nat.zero_le _) (Nat.zero_le _) (C_X12_placeOf hG hW hf (by omega) (konI ?_))
      refine R_iconst_m1 dX12_count_28 ?_
      refine R_icmp_ne dX12_count_29 (fun hb29 => ?_) (fun hb29 => ?_)
      · refine R_iconst_1 dX12_count_36 ?_
        refine iL4 dX12_count_37 ?_
        refine R_ishl dX12_count_39 ?_
        exact topV (v := obI (lisP w q) q) (by first | exact obI_f (by simp [lisP]; omega) | exact obI_t (by simp [lisP]; omega)) J12
      · refine R_iconst_0 dX12_count_32 ?_
        refine R_goto dX12_count_33 ?_
        exact topV (v := obI (lisP w q) q) (by first | exact obI_f (by simp [lisP]; omega) | exact obI_t (by simp [lisP]; omega)) J12
    refine R_ior dX12_count_40 ?_
    refine iS2 dX12_count_41 ?_
    refine iInc4 dX12_count_42 (winc (by omega)) ?_
    refine R_goto dX12_count_45 ?_
    exact eqI2 (bset_ob) (ihq (by omega))
set_option maxHeartbeats 400000 in
theorem C_X12_count_n {d : Nat} {g : Gs} {h : Hc} {P : Po} {M : Nat} {w : Nat → Int} (hG : MdG g M) (hW : h (M + 1) = w) (hf : WF w) (hl : LawOK w) {y : Int} (hy : ¬ (0 ≤ y ∧ y ≤ 10)) (K0 : ∀ h', Mp M h h' 0 → P (.inl (some (vI (-1)))) g h') : Call (d + 4) 0 0 mX12_count [vR M, vI y] g h P := by
  have hcs := hf.cas
  have hjd := hf.jud
  have hho := hf.hou
  refine Call_of rfl ⟨by decide +kernel, rfl⟩ (Nat.le_of_ble_eq_true rfl) rfl ?_
  refine aL0 dX12_count_0 ?_
  refine R_iconst_0 dX12_count_1 ?_
  refine R_putI dX12_count_2 fX12_3 hG.o ?_
  refine storH (fun h1 e1 => ?_)
  have hP : Mp M h h1 0 := by rw [e1]; exact Mp.i h M
  replace hW : h1 (M + 1) = w := hP.w hW
  have hQ : Mz M h1 h1 := Mz.rf _ _
  refine R_iconst_0 dX12_count_5 ?_
  refine iS2 dX12_count_6 ?_
  refine R_iconst_0 dX12_count_7 ?_
  refine iS3 dX12_count_8 ?_
  refine R_iconst_0 dX12_count_9 ?_
  refine iS4 dX12_count_10 ?_
  refine loopN ((w 1).toNat) (fun q => Run (d + 4) 0 0 mX12_count 12 [vR M, vI y, vI (bset (lisP w) q), vI 0, vI ((q : Nat) : Int)] [] g h1 P) (fun q hcnq ihq => ?_) (0) (Nat.zero_le _)
  refine iL4 dX12_count_12 ?_
  refine aL0 dX12_count_14 ?_
  refine invV0 rfl dX12_count_15 kX12_90 hG.o (Nat.le_of_ble_eq_true rfl) (Nat.zero_le _) (Nat.zero_le _) (C_X12_cases hG hW hf (konI ?_))
  have hcs := hf.cas
  refine R_icmp_ge dX12_count_18 (fun hb18 => ?_) (fun hb18 => ?_)
  · have e9 : q = (w 1).toNat := by omega
    subst e9
    refine R_iconst_0 dX12_count_48 ?_
    refine iS4 dX12_count_49 ?_
    refine loopN ((w 0).toNat) (fun q => Run (d + 4) 0 0 mX12_count 51 [vR M, vI y, vI (bset (lisP w) ((w 1).toNat)), vI (sumB (fun j => w (80 + 4 * j)) (fun _ => true) q), vI ((q : Nat) : Int)] [] g h1 P) (fun q hcnq ihq => ?_) (0) (Nat.zero_le _)
    have hsb := sumB_rng (f := fun j => w (80 + 4 * j)) (p := fun _ => true) (m := 99) (by omega) (n := q) (fun k hk => hf.hu (by omega))
    refine iL4 dX12_count_51 ?_
    refine aL0 dX12_count_53 ?_
    refine invV0 rfl dX12_count_54 kX12_98 hG.o (Nat.le_of_ble_eq_true rfl) (Nat.zero_le _) (Nat.zero_le _) (C_X12_judges hG hW hf (konI ?_))
    have hjd := hf.jud
    refine R_icmp_ge dX12_count_57 (fun hb57 => ?_) (fun hb57 => ?_)
    · have e9 : q = (w 0).toNat := by omega
      subst e9
      refine iL1 dX12_count_76 ?_
      refine R_tsw (tt := 169) dX12_count_77 (by rw [if_pos (by omega)]; rfl) (by decide) ?_
      refine iL1 dX12_count_169 ?_
      refine R_iconst_0 dX12_count_170 ?_
      refine R_iconst_5 dX12_count_171 ?_
      refine invS3 rfl dX12_count_172 kX12_101 (Nat.le_of_ble_eq_true rfl) (Nat.zero_le _) (Nat.zero_le _) (C_X12_in (konI ?_))
      refine R_ifB_eq dX12_count_175 (fun hb175 => ?_) (fun hb175 => ?_)
      · refine R_iconst_m1 dX12_count_187 ?_
        exact R_iret dX12_count_188 rfl (K0 _ (hP.q hQ))
      · exact absurd (of_decide_eq_true hb175) (by omega)
    · refine iL3 dX12_count_60 ?_
      refine aL0 dX12_count_61 ?_
      refine iL4 dX12_count_62 ?_
      refine R_iconst_0 dX12_count_64 ?_
      refine invV2 rfl dX12_count_65 kX12_280 hG.o (Nat.le_of_ble_eq_true rfl) (Nat.zero_le _) (Nat.zero_le _) (C_X12_ofJudge hG hW (b := 0) (i := 80 + 4 * q) (by omega) (by omega) (konI ?_))
      have hq11 := hf.hu (j := q) (by omega)
      refine addV dX12_count_68 (wid (by omega) (by omega)) ?_
      refine iS3 dX12_count_69 ?_
      refine iInc4 dX12_count_70 (winc (by omega)) ?_
      refine R_goto dX12_count_73 ?_
      exact eqI3 ((sumB_t (f := fun j => w (80 + 4 * j)) (p := fun _ => true) rfl).symm) (ihq (by omega))
  · refine iL2 dX12_count_21 ?_
    suffices J12 : Run (d + 4) 0 0 mX12_count 40 [vR M, vI y, vI (bset (lisP w) q), vI 0, vI ((q : Nat) : Int)] [vI (obI (lisP w q) q), vI (bset (lisP w) q)] g h1 P by
      refine aL0 dX12_count_22 ?_
      refine iL4 dX12_count_23 ?_
      refine invV1 rfl dX12_count_25 kX12_94 hG.o (Nat.le_of_ble_eq_true rfl) (Nat.zero_le _) (Nat.zero_le _) (C_X12_placeOf hG hW hf (by omega) (konI ?_))
      refine R_iconst_m1 dX12_count_28 ?_
      refine R_icmp_ne dX12_count_29 (fun hb29 => ?_) (fun hb29 => ?_)
      · refine R_iconst_1 dX12_count_36 ?_
        refine iL4 dX12_count_37 ?_
        refine R_ishl dX12_count_39 ?_
        exact topV (v := obI (lisP w q) q) (by first | exact obI_f (by simp [lisP]; omega) | exact obI_t (by simp [lisP]; omega)) J12
      · refine R_iconst_0 dX12_count_32 ?_
        refine R_goto dX12_count_33 ?_
        exact topV (v := obI (lisP w q) q) (by first | exact obI_f (by simp [lisP]; omega) | exact obI_t (by simp [lisP]; omega)) J12
    refine R_ior dX12_count_40 ?_
    refine iS2 dX12_count_41 ?_
    refine iInc4 dX12_count_42 (winc (by omega)) ?_
    refine R_goto dX12_count_45 ?_
    exact eqI2 (bset_ob) (ihq (by omega))
