set_option maxHeartbeats 400000 in
theorem C_X12_noSuch {d : Nat} {g : Gs} {h : Hc} {P : Po} {M : Nat} {w : Nat → Int} (hG : MdG g M) (hW : h (M + 1) = w) (hf : WF w) {x y : Int} (K : ∀ h', ((noB x (w 0) || noB y (w 1)) = true → Mp M h h' 1) → ((noB x (w 0) || noB y (w 1)) = false → Mp M h h' 0) → P (.inl (some (vI (bI (noB x (w 0) || noB y (w 1)))))) g h') : Call (d + 2) 0 0 mX12_noSuch [vR M, vI x, vI y] g h P := by
  have hcs := hf.cas
  have hjd := hf.jud
  have hho := hf.hou
  refine Call_of rfl ⟨by decide +kernel, rfl⟩ (Nat.le_of_ble_eq_true rfl) rfl ?_
  refine aL0 dX12_noSuch_0 ?_
  refine R_iconst_0 dX12_noSuch_1 ?_
  refine R_putI dX12_noSuch_2 fX12_3 hG.o ?_
  refine storH (fun h1 e1 => ?_)
  have hP : Mp M h h1 0 := by rw [e1]; exact Mp.i h M
  replace hW : h1 (M + 1) = w := hP.w hW
  have hQ : Mz M h1 h1 := Mz.rf _ _
  refine aL0 dX12_noSuch_5 ?_
  suffices J11 : Run (d + 2) 0 0 mX12_noSuch 27 [vR M, vI x, vI y] [vI (bI (noB x (w 0) || noB y (w 1))), vR M] g h1 P by
    refine aL0 dX12_noSuch_6 ?_
    refine iL1 dX12_noSuch_7 ?_
    refine invV1 rfl dX12_noSuch_8 kX12_383 hG.o (Nat.le_of_ble_eq_true rfl) (Nat.zero_le _) (Nat.zero_le _) (C_X12_noJudge hG hW hf (konI ?_))
    refine R_ifB_ne dX12_noSuch_11 (fun hb11 => ?_) (fun hb11 => ?_)
    · refine R_iconst_1 dX12_noSuch_22 ?_
      refine R_goto dX12_noSuch_23 ?_
      exact topV (v := bI (noB x (w 0) || noB y (w 1))) (by first | (rw [bI_t (by first | (simp [hb11]; done) | fail)]; done) | (rw [bI_t (by first | (simp [hb11, hb19]; done) | fail)]; done) | (rw [bI_f (by first | (simp [hb11, hb19]; done) | fail)]; done)) J11
    · refine aL0 dX12_noSuch_14 ?_
      refine iL2 dX12_noSuch_15 ?_
      refine invV1 rfl dX12_noSuch_16 kX12_404 hG.o (Nat.le_of_ble_eq_true rfl) (Nat.zero_le _) (Nat.zero_le _) (C_X12_noCase hG hW hf (konI ?_))
      refine R_ifB_eq dX12_noSuch_19 (fun hb19 => ?_) (fun hb19 => ?_)
      · refine R_iconst_0 dX12_noSuch_26 ?_
        exact topV (v := bI (noB x (w 0) || noB y (w 1))) (by first | (rw [bI_t (by first | (simp [hb11]; done) | fail)]; done) | (rw [bI_t (by first | (simp [hb11, hb19]; done) | fail)]; done) | (rw [bI_f (by first | (simp [hb11, hb19]; done) | fail)]; done)) J11
      · refine R_iconst_1 dX12_noSuch_22 ?_
        refine R_goto dX12_noSuch_23 ?_
        exact topV (v := bI (noB x (w 0) || noB y (w 1))) (by first | (rw [bI_t (by first | (simp [hb11]; done) | fail)]; done) | (rw [bI_t (by first | (simp [hb11, hb19]; done) | fail)]; done) | (rw [bI_f (by first | (simp [hb11, hb19]; done) | fail)]; done)) J11
  refine R_iconst_1 dX12_noSuch_27 ?_
  refine invV2 rfl dX12_noSuch_28 kX12_274 hG.o (Nat.le_of_ble_eq_true rfl) (Nat.zero_le _) (Nat.zero_le _) (C_X12_throwsIf hG (fun h2 hth => konI ?_))
  exact R_zret dX12_noSuch_31 rfl (bI01 _) (K _ (fun hb => hth.t (hP.q hQ) hb) (fun hb => hP.q (hth.q hQ hb)))
set_option maxHeartbeats 400000 in
theorem C_X12_early {d : Nat} {g : Gs} {h : Hc} {P : Po} {M : Nat} {w : Nat → Int} (hG : MdG g M) (hW : h (M + 1) = w) (hf : WF w) (hl : LawOK w) {x y : Int} (KE : ¬ ((0 ≤ x ∧ x < w 0) ∧ 0 ≤ y ∧ y < w 1) → ∀ h', Mp M h h' 1 → P (.inl (some (vI 0))) g h') (K0 : ∀ j c : Nat, x = (j : Int) → y = (c : Int) → (j : Int) < w 0 → (c : Int) < w 1 → ∀ h', Mp M h h' 0 → P (.inl (some (vI (ff (wdP w j c) (w 4).toNat 12)))) g h') : Call (d + 9) 0 0 mX12_early [vR M, vI x, vI y] g h P := by
  have hcs := hf.cas
  have hjd := hf.jud
  have hho := hf.hou
  refine Call_of rfl ⟨by decide +kernel, rfl⟩ (Nat.le_of_ble_eq_true rfl) rfl ?_
  refine aL0 dX12_early_0 ?_
  refine iL1 dX12_early_1 ?_
  refine iL2 dX12_early_2 ?_
  refine invV2 rfl dX12_early_3 kX12_422 hG.o (Nat.le_of_ble_eq_true rfl) (Nat.zero_le _) (Nat.zero_le _) (C_X12_noSuch hG hW hf (fun h1 hpa hpb => konI ?_))
  refine R_ifB_eq dX12_early_6 (fun hb6 => ?_) (fun hb6 => ?_)
  · have hP := hpb hb6
    have hb9 := hb6
    simp only [Bool.or_eq_false_iff] at hb9
    have hx1 := noB_f hb9.1
    have hx2 := noB_f hb9.2
    obtain ⟨j, rfl⟩ : ∃ j : Nat, x = (j : Int) := ⟨x.toNat, by omega⟩
    obtain ⟨c, rfl⟩ : ∃ c : Nat, y = (c : Int) := ⟨y.toNat, by omega⟩
    have hQ : Mz M h1 h1 := Mz.rf _ _
    replace hW : h1 (M + 1) = w := hP.w hW
    refine aL0 dX12_early_13 ?_
    refine iL1 dX12_early_14 ?_
    refine iL2 dX12_early_15 ?_
    refine invV2 rfl dX12_early_16 kX12_401 hG.o (Nat.le_of_ble_eq_true rfl) (Nat.zero_le _) (Nat.zero_le _) (C_X12_earlyOf hG hW hf hl (by omega) (by omega) (fun h11 hx11 => konI ?_))
    replace hQ := hQ.tr (Mq.z hx11)
    replace hW := hx11.w hW
    exact R_iret dX12_early_19 rfl (K0 j c rfl rfl (by omega) (by omega) _ (hP.q hQ))
  · have hPX := hpa hb6
    refine R_iconst_0 dX12_early_9 ?_
    refine R_goto dX12_early_10 ?_
    exact R_iret dX12_early_19 rfl (KE (by simp [noB] at hb6; omega) _ hPX)
set_option maxHeartbeats 400000 in
theorem C_X12_moved {d : Nat} {g : Gs} {h : Hc} {P : Po} {M : Nat} {w : Nat → Int} (hG : MdG g M) (hW : h (M + 1) = w) (hf : WF w) (hl : LawOK w) {x y : Int} (KE : ¬ ((0 ≤ x ∧ x < w 0) ∧ 0 ≤ y ∧ y < w 1) → ∀ h', Mp M h h' 1 → P (.inl (some (vI 0))) g h') (K0 : ∀ j c : Nat, x = (j : Int) → y = (c : Int) → (j : Int) < w 0 → (c : Int) < w 1 → ∀ h', Mp M h h' 0 → P (.inl (some (vI (ff (movP w j c) 0 100)))) g h') : Call (d + 9) 0 0 mX12_moved [vR M, vI x, vI y] g h P := by
  have hcs := hf.cas
  have hjd := hf.jud
  have hho := hf.hou
  refine Call_of rfl ⟨by decide +kernel, rfl⟩ (Nat.le_of_ble_eq_true rfl) rfl ?_
  refine aL0 dX12_moved_0 ?_
  refine iL1 dX12_moved_1 ?_
  refine iL2 dX12_moved_2 ?_
  refine invV2 rfl dX12_moved_3 kX12_422 hG.o (Nat.le_of_ble_eq_true rfl) (Nat.zero_le _) (Nat.zero_le _) (C_X12_noSuch hG hW hf (fun h1 hpa hpb => konI ?_))
  refine R_ifB_eq dX12_moved_6 (fun hb6 => ?_) (fun hb6 => ?_)
  · have hP := hpb hb6
    have hb9 := hb6
    simp only [Bool.or_eq_false_iff] at hb9
    have hx1 := noB_f hb9.1
    have hx2 := noB_f hb9.2
    obtain ⟨j, rfl⟩ : ∃ j : Nat, x = (j : Int) := ⟨x.toNat, by omega⟩
    obtain ⟨c, rfl⟩ : ∃ c : Nat, y = (c : Int) := ⟨y.toNat, by omega⟩
    have hQ : Mz M h1 h1 := Mz.rf _ _
    replace hW : h1 (M + 1) = w := hP.w hW
    refine R_iconst_m1 dX12_moved_11 ?_
    refine iS3 dX12_moved_12 ?_
    refine R_bipush dX12_moved_13 (by decide) ?_
    refine iS4 dX12_moved_15 ?_
    refine eqI3 (v := ff (movP w j c) (100 - 0) 100) (by rw [ff_end (by omega)]) ?_
    refine eqI4 (v := 99 - ((0 : Nat) : Int)) (by omega) ?_
    refine loopN (100) (fun q => ∀ hK11 : Hc, Mz M h1 hK11 → hK11 (M + 1) = w →  Run (d + 9) 0 0 mX12_moved 17 [vR M, vI ((j : Nat) : Int), vI ((c : Nat) : Int), vI (ff (movP w j c) (100 - q) 100), vI (99 - (q : Int))] [] g hK11 P) (fun q hcnq ihq hK11 hQ hW  => ?_) (0) (Nat.zero_le _) _ hQ hW
    refine iL4 dX12_moved_17 ?_
    refine R_if_lt dX12_moved_19 (fun hb19 => ?_) (fun hb19 => ?_)
    · have e9 : 100 - q = 0 := by omega
      rw [e9]
      refine iL3 dX12_moved_58 ?_
      exact R_iret dX12_moved_59 rfl (K0 j c rfl rfl (by omega) (by omega) _ (hP.q hQ))
    · refine aL0 dX12_moved_22 ?_
      refine iL1 dX12_moved_23 ?_
      refine iL2 dX12_moved_24 ?_
      refine aL0 dX12_moved_25 ?_
      refine R_getR dX12_moved_26 fX12_13.r hG.o rfl ?_
      refine R_iconst_4 dX12_moved_29 ?_
      refine ialdN (k := 4) dX12_moved_30 hG.a1 rfl (by decide) ?_
      refine topV (v := w 4) (congrFun hW _) ?_
      have hq12 := hf.hou
      refine iL4 dX12_moved_31 ?_
      refine aL0 dX12_moved_33 ?_
      refine iL2 dX12_moved_34 ?_
      refine R_iconst_1 dX12_moved_35 ?_
      refine invV2x rfl dX12_moved_36 kX12_87 hG.o (Nat.le_of_ble_eq_true rfl) rfl (Nat.zero_le _) (Nat.zero_le _) (C_X12_of hG hW (b := 1) (i := 101 + 7 * c) (by omega) (by omega) (konI ?_))
      have hq13 := hf.gr (c := c) (by omega)
      refine invV5 rfl dX12_moved_39 kX12_303 hG.o (Nat.le_of_ble_eq_true rfl) (Nat.zero_le _) (Nat.zero_le _) (C_X12_pointBy hG hW hf hl (by omega) (by omega) (by omega) (by omega) (by omega) (fun h14 hx14 => konI ?_))
      replace hQ := hQ.tr (Mq.z hx14)
      replace hW := hx14.w hW
      refine R_if_lt dX12_moved_42 (fun hb42 => ?_) (fun hb42 => ?_)
      · refine iL3 dX12_moved_50 ?_
        refine iS3 dX12_moved_51 ?_
        refine iInc4 dX12_moved_52 (wid (by omega) (by omega)) ?_
        refine R_goto dX12_moved_55 ?_
        exact eqI3 (by first | exact ff_dt (p := movP w j c) (n := 100) (by omega) (by omega) (by unfold movP; rw [show ((100 - (q + 1) : Nat) : Int) = 99 - (q : Int) by omega]; exact decide_eq_true (by omega)) | exact ff_df (p := movP w j c) (n := 100) (by omega) (by unfold movP; rw [show ((100 - (q + 1) : Nat) : Int) = 99 - (q : Int) by omega]; exact decide_eq_false (by omega))) (eqI4 (by omega) (ihq (by omega) _ hQ hW))
      · refine iL4 dX12_moved_45 ?_
        refine R_goto dX12_moved_47 ?_
        refine iS3 dX12_moved_51 ?_
        refine iInc4 dX12_moved_52 (wid (by omega) (by omega)) ?_
        refine R_goto dX12_moved_55 ?_
        exact eqI3 (by first | exact ff_dt (p := movP w j c) (n := 100) (by omega) (by omega) (by unfold movP; rw [show ((100 - (q + 1) : Nat) : Int) = 99 - (q : Int) by omega]; exact decide_eq_true (by omega)) | exact ff_df (p := movP w j c) (n := 100) (by omega) (by unfold movP; rw [show ((100 - (q + 1) : Nat) : Int) = 99 - (q : Int) by omega]; exact decide_eq_false (by omega))) (eqI4 (by omega) (ihq (by omega) _ hQ hW))
  · have hPX := hpa hb6
    refine R_iconst_0 dX12_moved_9 ?_
    exact R_iret dX12_moved_10 rfl (KE (by simp [noB] at hb6; omega) _ hPX)
set_option maxHeartbeats 400000 in
theorem C_X12_even {d : Nat} {g : Gs} {h : Hc} {P : Po} {M : Nat} {w : Nat → Int} (hG : MdG g M) (hW : h (M + 1) = w) (hf : WF w) (hl : LawOK w) {x y : Int} (KE : ¬ ((0 ≤ x ∧ x < w 0) ∧ 0 ≤ y ∧ y < w 1) → ∀ h', Mp M h h' 1 → P (.inl (some (vI 0))) g h') (K0 : ∀ j c : Nat, x = (j : Int) → y = (c : Int) → (j : Int) < w 0 → (c : Int) < w 1 → ∀ h', Mp M h h' 0 → P (.inl (some (vI (ff (evnP w j c) 0 100)))) g h') : Call (d + 9) 0 0 mX12_even [vR M, vI x, vI y] g h P := by
  have hcs := hf.cas
  have hjd := hf.jud
  have hho := hf.hou
  refine Call_of rfl ⟨by decide +kernel, rfl⟩ (Nat.le_of_ble_eq_true rfl) rfl ?_
  refine aL0 dX12_even_0 ?_
  refine iL1 dX12_even_1 ?_
  refine iL2 dX12_even_2 ?_
  refine invV2 rfl dX12_even_3 kX12_422 hG.o (Nat.le_of_ble_eq_true rfl) (Nat.zero_le _) (Nat.zero_le _) (C_X12_noSuch hG hW hf (fun h1 hpa hpb => konI ?_))
  refine R_ifB_eq dX12_even_6 (fun hb6 => ?_) (fun hb6 => ?_)
  · have hP := hpb hb6
    have hb9 := hb6
    simp only [Bool.or_eq_false_iff] at hb9
    have hx1 := noB_f hb9.1
    have hx2 := noB_f hb9.2
    obtain ⟨j, rfl⟩ : ∃ j : Nat, x = (j : Int) := ⟨x.toNat, by omega⟩
    obtain ⟨c, rfl⟩ : ∃ c : Nat, y = (c : Int) := ⟨y.toNat, by omega⟩
    have hQ : Mz M h1 h1 := Mz.rf _ _
    replace hW : h1 (M + 1) = w := hP.w hW
    refine R_iconst_m1 dX12_even_11 ?_
    refine iS3 dX12_even_12 ?_
    refine R_bipush dX12_even_13 (by decide) ?_
    refine iS4 dX12_even_15 ?_
    refine eqI3 (v := ff (evnP w j c) (100 - 0) 100) (by rw [ff_end (by omega)]) ?_
    refine eqI4 (v := 99 - ((0 : Nat) : Int)) (by omega) ?_
    refine loopN (100) (fun q => ∀ hK11 : Hc, Mz M h1 hK11 → hK11 (M + 1) = w →  Run (d + 9) 0 0 mX12_even 17 [vR M, vI ((j : Nat) : Int), vI ((c : Nat) : Int), vI (ff (evnP w j c) (100 - q) 100), vI (99 - (q : Int))] [] g hK11 P) (fun q hcnq ihq hK11 hQ hW  => ?_) (0) (Nat.zero_le _) _ hQ hW
    refine iL4 dX12_even_17 ?_
    refine R_if_lt dX12_even_19 (fun hb19 => ?_) (fun hb19 => ?_)
    · have e9 : 100 - q = 0 := by omega
      rw [e9]
      refine iL3 dX12_even_58 ?_
      exact R_iret dX12_even_59 rfl (K0 j c rfl rfl (by omega) (by omega) _ (hP.q hQ))
    · refine aL0 dX12_even_22 ?_
      refine iL1 dX12_even_23 ?_
      refine iL2 dX12_even_24 ?_
      refine aL0 dX12_even_25 ?_
      refine R_getR dX12_even_26 fX12_13.r hG.o rfl ?_
      refine R_iconst_4 dX12_even_29 ?_
      refine ialdN (k := 4) dX12_even_30 hG.a1 rfl (by decide) ?_
      refine topV (v := w 4) (congrFun hW _) ?_
      have hq12 := hf.hou
      refine aL0 dX12_even_31 ?_
      refine iL1 dX12_even_32 ?_
      refine R_iconst_0 dX12_even_33 ?_
      refine invV2 rfl dX12_even_34 kX12_280 hG.o (Nat.le_of_ble_eq_true rfl) (Nat.zero_le _) (Nat.zero_le _) (C_X12_ofJudge hG hW (b := 0) (i := 80 + 4 * j) (by omega) (by omega) (konI ?_))
      have hq13 := hf.hu (j := j) (by omega)
      refine iL4 dX12_even_37 ?_
      refine invV5 rfl dX12_even_39 kX12_303 hG.o (Nat.le_of_ble_eq_true rfl) (Nat.zero_le _) (Nat.zero_le _) (C_X12_pointBy hG hW hf hl (by omega) (by omega) (by omega) (by omega) (by omega) (fun h14 hx14 => konI ?_))
      replace hQ := hQ.tr (Mq.z hx14)
      replace hW := hx14.w hW
      refine R_if_ge dX12_even_42 (fun hb42 => ?_) (fun hb42 => ?_)
      · refine iL3 dX12_even_50 ?_
        refine iS3 dX12_even_51 ?_
        refine iInc4 dX12_even_52 (wid (by omega) (by omega)) ?_
        refine R_goto dX12_even_55 ?_
        exact eqI3 (by first | exact ff_dt (p := evnP w j c) (n := 100) (by omega) (by omega) (by unfold evnP; rw [show ((100 - (q + 1) : Nat) : Int) = 99 - (q : Int) by omega]; exact decide_eq_true (by omega)) | exact ff_df (p := evnP w j c) (n := 100) (by omega) (by unfold evnP; rw [show ((100 - (q + 1) : Nat) : Int) = 99 - (q : Int) by omega]; exact decide_eq_false (by omega))) (eqI4 (by omega) (ihq (by omega) _ hQ hW))
      · refine iL4 dX12_even_45 ?_
        refine R_goto dX12_even_47 ?_
        refine iS3 dX12_even_51 ?_
        refine iInc4 dX12_even_52 (wid (by omega) (by omega)) ?_
        refine R_goto dX12_even_55 ?_
        exact eqI3 (by first | exact ff_dt (p := evnP w j c) (n := 100) (by omega) (by omega) (by unfold evnP; rw [show ((100 - (q + 1) : Nat) : Int) = 99 - (q : Int) by omega]; exact decide_eq_true (by omega)) | exact ff_df (p := evnP w j c) (n := 100) (by omega) (by unfold evnP; rw [show ((100 - (q + 1) : Nat) : Int) = 99 - (q : Int) by omega]; exact decide_eq_false (by omega))) (eqI4 (by omega) (ihq (by omega) _ hQ hW))
  · have hPX := hpa hb6
    refine R_iconst_0 dX12_even_9 ?_
    exact R_iret dX12_even_10 rfl (KE (by simp [noB] at hb6; omega) _ hPX)
set_option maxHeartbeats 400000 in
theorem C_X12_listed {d : Nat} {g : Gs} {h : Hc} {P : Po} {M : Nat} {w : Nat → Int} (hG : MdG g M) (hW : h (M + 1) = w) (hf : WF w) {x y : Int} (KE : ¬ ((0 ≤ x ∧ x < w 0) ∧ 0 ≤ y ∧ y < 12) → ∀ h', Mp M h h' 1 → P (.inl (some (vI 0))) g h') (K0 : ∀ j k : Nat, x = (j : Int) → y = (k : Int) → (j : Int) < w 0 → k < 12 → ∀ h', Mp M h h' 0 → P (.inl (some (vI (w (20 + (12 * j + k)))))) g h') : Call (d + 2) 0 0 mX12_listed [vR M, vI x, vI y] g h P := by
  have hcs := hf.cas
  have hjd := hf.jud
  have hho := hf.hou
  refine Call_of rfl ⟨by decide +kernel, rfl⟩ (Nat.le_of_ble_eq_true rfl) rfl ?_
  refine aL0 dX12_listed_0 ?_
  refine R_iconst_0 dX12_listed_1 ?_
  refine R_putI dX12_listed_2 fX12_3 hG.o ?_
  refine storH (fun h1 e1 => ?_)
  have hP : Mp M h h1 0 := by rw [e1]; exact Mp.i h M
  replace hW : h1 (M + 1) = w := hP.w hW
  have hQ : Mz M h1 h1 := Mz.rf _ _
  refine aL0 dX12_listed_5 ?_
  suffices J11 : Run (d + 2) 0 0 mX12_listed 26 [vR M, vI x, vI y] [vI (bI (noB x (w 0) || noB y 12)), vR M] g h1 P by
    refine aL0 dX12_listed_6 ?_
    refine iL1 dX12_listed_7 ?_
    refine invV1 rfl dX12_listed_8 kX12_383 hG.o (Nat.le_of_ble_eq_true rfl) (Nat.zero_le _) (Nat.zero_le _) (C_X12_noJudge hG hW hf (konI ?_))
    refine R_ifB_ne dX12_listed_11 (fun hb11 => ?_) (fun hb11 => ?_)
    · refine R_iconst_1 dX12_listed_21 ?_
      refine R_goto dX12_listed_22 ?_
      exact topV (v := bI (noB x (w 0) || noB y 12)) (by first | (rw [bI_t (by first | (simp [hb11]; done) | fail)]; done) | (rw [bI_t (by first | (simp [hb11, hb18]; done) | fail)]; done) | (rw [bI_f (by first | (simp [hb11, hb18]; done) | fail)]; done)) J11
    · refine iL2 dX12_listed_14 ?_
      refine invS1 rfl dX12_listed_15 kX12_416 (Nat.le_of_ble_eq_true rfl) (Nat.zero_le _) (Nat.zero_le _) (C_X12_noHour (konI ?_))
      refine R_ifB_eq dX12_listed_18 (fun hb18 => ?_) (fun hb18 => ?_)
      · refine R_iconst_0 dX12_listed_25 ?_
        exact topV (v := bI (noB x (w 0) || noB y 12)) (by first | (rw [bI_t (by first | (simp [hb11]; done) | fail)]; done) | (rw [bI_t (by first | (simp [hb11, hb18]; done) | fail)]; done) | (rw [bI_f (by first | (simp [hb11, hb18]; done) | fail)]; done)) J11
      · refine R_iconst_1 dX12_listed_21 ?_
        refine R_goto dX12_listed_22 ?_
        exact topV (v := bI (noB x (w 0) || noB y 12)) (by first | (rw [bI_t (by first | (simp [hb11]; done) | fail)]; done) | (rw [bI_t (by first | (simp [hb11, hb18]; done) | fail)]; done) | (rw [bI_f (by first | (simp [hb11, hb18]; done) | fail)]; done)) J11
  refine R_iconst_1 dX12_listed_26 ?_
  refine invV2 rfl dX12_listed_27 kX12_274 hG.o (Nat.le_of_ble_eq_true rfl) (Nat.zero_le _) (Nat.zero_le _) (C_X12_throwsIf hG (fun h12 hth12 => konI ?_))
  have hPE12 : ∀ hbb : (noB x (w 0) || noB y 12) = true, Mp M h h12 1 := fun hbb => hth12.t (hP.q hQ) hbb
  have hQE12 : ∀ hbb : (noB x (w 0) || noB y 12) = false, Mz M h1 h12 := fun hbb => hth12.q hQ hbb
  have hWE12 : ∀ hbb : (noB x (w 0) || noB y 12) = false, h12 (M + 1) = w := fun hbb => hth12.w hW hbb
  refine R_ifB_eq dX12_listed_30 (fun hb30 => ?_) (fun hb30 => ?_)
  · replace hQ := hQE12 hb30
    replace hW := hWE12 hb30
    have hb9 := hb30
    simp only [Bool.or_eq_false_iff] at hb9
    have hx1 := noB_f hb9.1
    have hx2 := noB_f hb9.2
    obtain ⟨j, rfl⟩ : ∃ j : Nat, x = (j : Int) := ⟨x.toNat, by omega⟩
    obtain ⟨k, rfl⟩ : ∃ k : Nat, y = (k : Int) := ⟨y.toNat, by omega⟩
    refine aL0 dX12_listed_37 ?_
    refine R_getR dX12_listed_38 fX12_13.r hG.o rfl ?_
    refine iL1 dX12_listed_41 ?_
    refine iL2 dX12_listed_42 ?_
    refine invS2 rfl dX12_listed_43 kX12_163 (Nat.le_of_ble_eq_true rfl) (Nat.zero_le _) (Nat.zero_le _) (C_X12_listAt (i := 20 + (12 * j + k)) (by omega) (by omega) (konI ?_))
    refine ialdN dX12_listed_46 hG.a1 rfl (by omega) ?_
    refine topV (v := w (20 + (12 * j + k))) (congrFun hW _) ?_
    exact R_iret dX12_listed_47 rfl (K0 j k rfl rfl (by omega) (by omega) _ (hP.q hQ))
  · have hPX := hPE12 hb30
    refine R_iconst_0 dX12_listed_33 ?_
    refine R_goto dX12_listed_34 ?_
    exact R_iret dX12_listed_47 rfl (KE (by simp [noB] at hb30; omega) _ hPX)
set_option maxHeartbeats 400000 in
theorem C_X12_smell {d : Nat} {g : Gs} {h : Hc} {P : Po} {M : Nat} {w : Nat → Int} (hG : MdG g M) (hW : h (M + 1) = w) (hf : WF w) {x : Int} (KE : ¬ (0 ≤ x ∧ x < 12) → ∀ h', Mp M h h' 1 → P (.inl (some (vI 0))) g h') (K0 : ∀ k : Nat, x = (k : Int) → k < 12 → ∀ h', Mp M h h' 0 → P (.inl (some (vI (w (8 + k))))) g h') : Call (d + 2) 0 0 mX12_smell [vR M, vI x] g h P := by
  have hcs := hf.cas
  have hjd := hf.jud
  have hho := hf.hou
  refine Call_of rfl ⟨by decide +kernel, rfl⟩ (Nat.le_of_ble_eq_true rfl) rfl ?_
  refine aL0 dX12_smell_0 ?_
  refine R_iconst_0 dX12_smell_1 ?_
  refine R_putI dX12_smell_2 fX12_3 hG.o ?_
  refine storH (fun h1 e1 => ?_)
  have hP : Mp M h h1 0 := by rw [e1]; exact Mp.i h M
  replace hW : h1 (M + 1) = w := hP.w hW
  have hQ : Mz M h1 h1 := Mz.rf _ _
  refine aL0 dX12_smell_5 ?_
  refine iL1 dX12_smell_6 ?_
  refine invS1 rfl dX12_smell_7 kX12_416 (Nat.le_of_ble_eq_true rfl) (Nat.zero_le _) (Nat.zero_le _) (C_X12_noHour (konI ?_))
  refine R_iconst_1 dX12_smell_10 ?_
  refine invV2 rfl dX12_smell_11 kX12_274 hG.o (Nat.le_of_ble_eq_true rfl) (Nat.zero_le _) (Nat.zero_le _) (C_X12_throwsIf hG (fun h11 hth11 => konI ?_))
  have hPE11 : ∀ hbb : (noB x 12) = true, Mp M h h11 1 := fun hbb => hth11.t (hP.q hQ) hbb
  have hQE11 : ∀ hbb : (noB x 12) = false, Mz M h1 h11 := fun hbb => hth11.q hQ hbb
  have hWE11 : ∀ hbb : (noB x 12) = false, h11 (M + 1) = w := fun hbb => hth11.w hW hbb
  refine R_ifB_eq dX12_smell_14 (fun hb14 => ?_) (fun hb14 => ?_)
  · replace hQ := hQE11 hb14
    replace hW := hWE11 hb14
    have hx1 := noB_f hb14
    obtain ⟨k, rfl⟩ : ∃ k : Nat, x = (k : Int) := ⟨x.toNat, by omega⟩
    refine aL0 dX12_smell_21 ?_
    refine R_getR dX12_smell_22 fX12_13.r hG.o rfl ?_
    refine R_bipush dX12_smell_25 (by decide) ?_
    refine iL1 dX12_smell_27 ?_
    refine addV dX12_smell_28 (v := (((8 + k) : Nat) : Int)) (by rw [wid (by omega) (by omega)]; omega) ?_
    refine ialdN dX12_smell_29 hG.a1 rfl (by omega) ?_
    refine topV (v := w (8 + k)) (congrFun hW _) ?_
    exact R_iret dX12_smell_30 rfl (K0 k rfl (by omega) _ (hP.q hQ))
  · have hPX := hPE11 hb14
    refine R_iconst_0 dX12_smell_17 ?_
    refine R_goto dX12_smell_18 ?_
    exact R_iret dX12_smell_30 rfl (KE (noB_t hb14) _ hPX)
set_option maxHeartbeats 400000 in
theorem C_X12_point {d : Nat} {g : Gs} {h : Hc} {P : Po} {M : Nat} {w : Nat → Int} (hG : MdG g M) (hW : h (M + 1) = w) (hf : WF w) (hl : LawOK w) {x y z : Int} (KE : ¬ ((0 ≤ x ∧ x < w 0) ∧ (0 ≤ y ∧ y < w 1) ∧ 0 ≤ z ∧ z < 12) → ∀ h', Mp M h h' 1 → P (.inl (some (vI 0))) g h') (K0 : ∀ j c k : Nat, x = (j : Int) → y = (c : Int) → z = (k : Int) → (j : Int) < w 0 → (c : Int) < w 1 → k < 12 → ∀ h', Mp M h h' 0 → P (.inl (some (vI (pt0 w j c (k : Int))))) g h') : Call (d + 8) 0 0 mX12_point [vR M, vI x, vI y, vI z] g h P := by
  have hcs := hf.cas
  have hjd := hf.jud
  have hho := hf.hou
  refine Call_of rfl ⟨by decide +kernel, rfl⟩ (Nat.le_of_ble_eq_true rfl) rfl ?_
  refine aL0 dX12_point_0 ?_
  refine R_iconst_0 dX12_point_1 ?_
  refine R_putI dX12_point_2 fX12_3 hG.o ?_
  refine storH (fun h1 e1 => ?_)
  have hP : Mp M h h1 0 := by rw [e1]; exact Mp.i h M
  replace hW : h1 (M + 1) = w := hP.w hW
  have hQ : Mz M h1 h1 := Mz.rf _ _
  refine aL0 dX12_point_5 ?_
  suffices J11 : Run (d + 8) 0 0 mX12_point 34 [vR M, vI x, vI y, vI z] [vI (bI (noB x (w 0) || noB y (w 1) || noB z 12)), vR M] g h1 P by
    refine aL0 dX12_point_6 ?_
    refine iL1 dX12_point_7 ?_
    refine invV1 rfl dX12_point_8 kX12_383 hG.o (Nat.le_of_ble_eq_true rfl) (Nat.zero_le _) (Nat.zero_le _) (C_X12_noJudge hG hW hf (konI ?_))
    refine R_ifB_ne dX12_point_11 (fun hb11 => ?_) (fun hb11 => ?_)
    · refine R_iconst_1 dX12_point_29 ?_
      refine R_goto dX12_point_30 ?_
      exact topV (v := bI (noB x (w 0) || noB y (w 1) || noB z 12)) (by first | (rw [bI_t (by first | (simp [hb11]; done) | fail)]; done) | (rw [bI_t (by first | (simp [hb11, hb19]; done) | fail)]; done) | (rw [bI_t (by first | (simp [hb11, hb19, hb26]; done) | fail)]; done) | (rw [bI_f (by first | (simp [hb11, hb19, hb26]; done) | fail)]; done)) J11
    · refine aL0 dX12_point_14 ?_
      refine iL2 dX12_point_15 ?_
      refine invV1 rfl dX12_point_16 kX12_404 hG.o (Nat.le_of_ble_eq_true rfl) (Nat.zero_le _) (Nat.zero_le _) (C_X12_noCase hG hW hf (konI ?_))
      refine R_ifB_ne dX12_point_19 (fun hb19 => ?_) (fun hb19 => ?_)
      · refine R_iconst_1 dX12_point_29 ?_
        refine R_goto dX12_point_30 ?_
        exact topV (v := bI (noB x (w 0) || noB y (w 1) || noB z 12)) (by first | (rw [bI_t (by first | (simp [hb11]; done) | fail)]; done) | (rw [bI_t (by first | (simp [hb11, hb19]; done) | fail)]; done) | (rw [bI_t (by first | (simp [hb11, hb19, hb26]; done) | fail)]; done) | (rw [bI_f (by first | (simp [hb11, hb19, hb26]; done) | fail)]; done)) J11
      · refine iL3 dX12_point_22 ?_
        refine invS1 rfl dX12_point_23 kX12_416 (Nat.le_of_ble_eq_true rfl) (Nat.zero_le _) (Nat.zero_le _) (C_X12_noHour (konI ?_))
        refine R_ifB_eq dX12_point_26 (fun hb26 => ?_) (fun hb26 => ?_)
        · refine R_iconst_0 dX12_point_33 ?_
          exact topV (v := bI (noB x (w 0) || noB y (w 1) || noB z 12)) (by first | (rw [bI_t (by first | (simp [hb11]; done) | fail)]; done) | (rw [bI_t (by first | (simp [hb11, hb19]; done) | fail)]; done) | (rw [bI_t (by first | (simp [hb11, hb19, hb26]; done) | fail)]; done) | (rw [bI_f (by first | (simp [hb11, hb19, hb26]; done) | fail)]; done)) J11
        · refine R_iconst_1 dX12_point_29 ?_
          refine R_goto dX12_point_30 ?_
          exact topV (v := bI (noB x (w 0) || noB y (w 1) || noB z 12)) (by first | (rw [bI_t (by first | (simp [hb11]; done) | fail)]; done) | (rw [bI_t (by first | (simp [hb11, hb19]; done) | fail)]; done) | (rw [bI_t (by first | (simp [hb11, hb19, hb26]; done) | fail)]; done) | (rw [bI_f (by first | (simp [hb11, hb19, hb26]; done) | fail)]; done)) J11
  refine R_iconst_1 dX12_point_34 ?_
  refine invV2 rfl dX12_point_35 kX12_274 hG.o (Nat.le_of_ble_eq_true rfl) (Nat.zero_le _) (Nat.zero_le _) (C_X12_throwsIf hG (fun h12 hth12 => konI ?_))
  have hPE12 : ∀ hbb : (noB x (w 0) || noB y (w 1) || noB z 12) = true, Mp M h h12 1 := fun hbb => hth12.t (hP.q hQ) hbb
  have hQE12 : ∀ hbb : (noB x (w 0) || noB y (w 1) || noB z 12) = false, Mz M h1 h12 := fun hbb => hth12.q hQ hbb
  have hWE12 : ∀ hbb : (noB x (w 0) || noB y (w 1) || noB z 12) = false, h12 (M + 1) = w := fun hbb => hth12.w hW hbb
  refine R_ifB_eq dX12_point_38 (fun hb38 => ?_) (fun hb38 => ?_)
  · replace hQ := hQE12 hb38
    replace hW := hWE12 hb38
    have hb9 := hb38
    simp only [Bool.or_eq_false_iff] at hb9
    have hx1 := noB_f hb9.1.1
    have hx2 := noB_f hb9.1.2
    have hx3 := noB_f hb9.2
    obtain ⟨j, rfl⟩ : ∃ j : Nat, x = (j : Int) := ⟨x.toNat, by omega⟩
    obtain ⟨c, rfl⟩ : ∃ c : Nat, y = (c : Int) := ⟨y.toNat, by omega⟩
    obtain ⟨k, rfl⟩ : ∃ k : Nat, z = (k : Int) := ⟨z.toNat, by omega⟩
    refine aL0 dX12_point_45 ?_
    refine iL1 dX12_point_46 ?_
    refine iL2 dX12_point_47 ?_
    refine iL3 dX12_point_48 ?_
    refine invV3 rfl dX12_point_49 kX12_307 hG.o (Nat.le_of_ble_eq_true rfl) (Nat.zero_le _) (Nat.zero_le _) (C_X12_pointIn hG hW hf hl (by omega) (by omega) (by omega) (fun h13 hx13 => konI ?_))
    replace hQ := hQ.tr (Mq.z hx13)
    replace hW := hx13.w hW
    exact R_iret dX12_point_52 rfl (K0 j c k rfl rfl rfl (by omega) (by omega) (by omega) _ (hP.q hQ))
  · have hPX := hPE12 hb38
    refine R_iconst_0 dX12_point_41 ?_
    refine R_goto dX12_point_42 ?_
    exact R_iret dX12_point_52 rfl (KE (by simp [noB] at hb38; omega) _ hPX)
set_option maxHeartbeats 400000 in
theorem C_X12_would {d : Nat} {g : Gs} {h : Hc} {P : Po} {M : Nat} {w : Nat → Int} (hG : MdG g M) (hW : h (M + 1) = w) (hf : WF w) (hl : LawOK w) {x y z : Int} (KE : ¬ ((0 ≤ x ∧ x < w 0) ∧ (0 ≤ y ∧ y < w 1) ∧ 0 ≤ z ∧ z < 12) → ∀ h', Mp M h h' 1 → P (.inl (some (vI 0))) g h') (K0 : ∀ j c k : Nat, x = (j : Int) → y = (c : Int) → z = (k : Int) → (j : Int) < w 0 → (c : Int) < w 1 → k < 12 → ∀ h', Mp M h h' 0 → P (.inl (some (vI (wdW w j c (k : Int))))) g h') : Call (d + 8) 0 0 mX12_would [vR M, vI x, vI y, vI z] g h P := by
  have hcs := hf.cas
  have hjd := hf.jud
  have hho := hf.hou
  refine Call_of rfl ⟨by decide +kernel, rfl⟩ (Nat.le_of_ble_eq_true rfl) rfl ?_
  refine aL0 dX12_would_0 ?_
  refine R_iconst_0 dX12_would_1 ?_
  refine R_putI dX12_would_2 fX12_3 hG.o ?_
  refine storH (fun h1 e1 => ?_)
  have hP : Mp M h h1 0 := by rw [e1]; exact Mp.i h M
  replace hW : h1 (M + 1) = w := hP.w hW
  have hQ : Mz M h1 h1 := Mz.rf _ _
  refine aL0 dX12_would_5 ?_
  suffices J11 : Run (d + 8) 0 0 mX12_would 34 [vR M, vI x, vI y, vI z] [vI (bI (noB x (w 0) || noB y (w 1) || noB z 12)), vR M] g h1 P by
    refine aL0 dX12_would_6 ?_
    refine iL1 dX12_would_7 ?_
    refine invV1 rfl dX12_would_8 kX12_383 hG.o (Nat.le_of_ble_eq_true rfl) (Nat.zero_le _) (Nat.zero_le _) (C_X12_noJudge hG hW hf (konI ?_))
    refine R_ifB_ne dX12_would_11 (fun hb11 => ?_) (fun hb11 => ?_)
    · refine R_iconst_1 dX12_would_29 ?_
      refine R_goto dX12_would_30 ?_
      exact topV (v := bI (noB x (w 0) || noB y (w 1) || noB z 12)) (by first | (rw [bI_t (by first | (simp [hb11]; done) | fail)]; done) | (rw [bI_t (by first | (simp [hb11, hb19]; done) | fail)]; done) | (rw [bI_t (by first | (simp [hb11, hb19, hb26]; done) | fail)]; done) | (rw [bI_f (by first | (simp [hb11, hb19, hb26]; done) | fail)]; done)) J11
    · refine aL0 dX12_would_14 ?_
      refine iL2 dX12_would_15 ?_
      refine invV1 rfl dX12_would_16 kX12_404 hG.o (Nat.le_of_ble_eq_true rfl) (Nat.zero_le _) (Nat.zero_le _) (C_X12_noCase hG hW hf (konI ?_))
      refine R_ifB_ne dX12_would_19 (fun hb19 => ?_) (fun hb19 => ?_)
      · refine R_iconst_1 dX12_would_29 ?_
        refine R_goto dX12_would_30 ?_
        exact topV (v := bI (noB x (w 0) || noB y (w 1) || noB z 12)) (by first | (rw [bI_t (by first | (simp [hb11]; done) | fail)]; done) | (rw [bI_t (by first | (simp [hb11, hb19]; done) | fail)]; done) | (rw [bI_t (by first | (simp [hb11, hb19, hb26]; done) | fail)]; done) | (rw [bI_f (by first | (simp [hb11, hb19, hb26]; done) | fail)]; done)) J11
      · refine iL3 dX12_would_22 ?_
        refine invS1 rfl dX12_would_23 kX12_416 (Nat.le_of_ble_eq_true rfl) (Nat.zero_le _) (Nat.zero_le _) (C_X12_noHour (konI ?_))
        refine R_ifB_eq dX12_would_26 (fun hb26 => ?_) (fun hb26 => ?_)
        · refine R_iconst_0 dX12_would_33 ?_
          exact topV (v := bI (noB x (w 0) || noB y (w 1) || noB z 12)) (by first | (rw [bI_t (by first | (simp [hb11]; done) | fail)]; done) | (rw [bI_t (by first | (simp [hb11, hb19]; done) | fail)]; done) | (rw [bI_t (by first | (simp [hb11, hb19, hb26]; done) | fail)]; done) | (rw [bI_f (by first | (simp [hb11, hb19, hb26]; done) | fail)]; done)) J11
        · refine R_iconst_1 dX12_would_29 ?_
          refine R_goto dX12_would_30 ?_
          exact topV (v := bI (noB x (w 0) || noB y (w 1) || noB z 12)) (by first | (rw [bI_t (by first | (simp [hb11]; done) | fail)]; done) | (rw [bI_t (by first | (simp [hb11, hb19]; done) | fail)]; done) | (rw [bI_t (by first | (simp [hb11, hb19, hb26]; done) | fail)]; done) | (rw [bI_f (by first | (simp [hb11, hb19, hb26]; done) | fail)]; done)) J11
  refine R_iconst_1 dX12_would_34 ?_
  refine invV2 rfl dX12_would_35 kX12_274 hG.o (Nat.le_of_ble_eq_true rfl) (Nat.zero_le _) (Nat.zero_le _) (C_X12_throwsIf hG (fun h12 hth12 => konI ?_))
  have hPE12 : ∀ hbb : (noB x (w 0) || noB y (w 1) || noB z 12) = true, Mp M h h12 1 := fun hbb => hth12.t (hP.q hQ) hbb
  have hQE12 : ∀ hbb : (noB x (w 0) || noB y (w 1) || noB z 12) = false, Mz M h1 h12 := fun hbb => hth12.q hQ hbb
  have hWE12 : ∀ hbb : (noB x (w 0) || noB y (w 1) || noB z 12) = false, h12 (M + 1) = w := fun hbb => hth12.w hW hbb
  refine R_ifB_eq dX12_would_38 (fun hb38 => ?_) (fun hb38 => ?_)
  · replace hQ := hQE12 hb38
    replace hW := hWE12 hb38
    have hb9 := hb38
    simp only [Bool.or_eq_false_iff] at hb9
    have hx1 := noB_f hb9.1.1
    have hx2 := noB_f hb9.1.2
    have hx3 := noB_f hb9.2
    obtain ⟨j, rfl⟩ : ∃ j : Nat, x = (j : Int) := ⟨x.toNat, by omega⟩
    obtain ⟨c, rfl⟩ : ∃ c : Nat, y = (c : Int) := ⟨y.toNat, by omega⟩
    obtain ⟨k, rfl⟩ : ∃ k : Nat, z = (k : Int) := ⟨z.toNat, by omega⟩
    refine aL0 dX12_would_45 ?_
    refine iL1 dX12_would_46 ?_
    refine iL2 dX12_would_47 ?_
    refine iL3 dX12_would_48 ?_
    refine invV3 rfl dX12_would_49 kX12_398 hG.o (Nat.le_of_ble_eq_true rfl) (Nat.zero_le _) (Nat.zero_le _) (C_X12_wouldBe hG hW hf hl (by omega) (by omega) (by omega) (fun h13 hx13 => konI ?_))
    replace hQ := hQ.tr (Mq.z hx13)
    replace hW := hx13.w hW
    exact R_iret dX12_would_52 rfl (K0 j c k rfl rfl rfl (by omega) (by omega) (by omega) _ (hP.q hQ))
  · have hPX := hPE12 hb38
    refine R_iconst_0 dX12_would_41 ?_
    refine R_goto dX12_would_42 ?_
    exact R_iret dX12_would_52 rfl (KE (by simp [noB] at hb38; omega) _ hPX)
set_option maxHeartbeats 400000 in
theorem C_X12_split {d : Nat} {g : Gs} {h : Hc} {P : Po} {M : Nat} {w : Nat → Int} (hG : MdG g M) (hW : h (M + 1) = w) (hf : WF w) (hl : LawOK w) {x : Int} (KE : ¬ (0 ≤ x ∧ x < w 1) → ∀ h', Mp M h h' 1 → P (.inl (some (vI 0))) g h') (K0 : ∀ c : Nat, x = (c : Int) → (c : Int) < w 1 → ∀ h', Mp M h h' 0 → P (.inl (some (vI (bI (splB w c))))) g h') : Call (d + 10) 0 0 mX12_split [vR M, vI x] g h P := by
  have hcs := hf.cas
  have hjd := hf.jud
  have hho := hf.hou
  refine Call_of rfl ⟨by decide +kernel, rfl⟩ (Nat.le_of_ble_eq_true rfl) rfl ?_
  refine aL0 dX12_split_0 ?_
  refine R_iconst_0 dX12_split_1 ?_
  refine R_putI dX12_split_2 fX12_3 hG.o ?_
  refine storH (fun h1 e1 => ?_)
  have hP : Mp M h h1 0 := by rw [e1]; exact Mp.i h M
  replace hW : h1 (M + 1) = w := hP.w hW
  have hQ : Mz M h1 h1 := Mz.rf _ _
  refine aL0 dX12_split_5 ?_
  refine aL0 dX12_split_6 ?_
  refine iL1 dX12_split_7 ?_
  refine invV1 rfl dX12_split_8 kX12_404 hG.o (Nat.le_of_ble_eq_true rfl) (Nat.zero_le _) (Nat.zero_le _) (C_X12_noCase hG hW hf (konI ?_))
  refine R_iconst_1 dX12_split_11 ?_
  refine invV2 rfl dX12_split_12 kX12_274 hG.o (Nat.le_of_ble_eq_true rfl) (Nat.zero_le _) (Nat.zero_le _) (C_X12_throwsIf hG (fun h11 hth11 => konI ?_))
  have hPE11 : ∀ hbb : (noB x (w 1)) = true, Mp M h h11 1 := fun hbb => hth11.t (hP.q hQ) hbb
  have hQE11 : ∀ hbb : (noB x (w 1)) = false, Mz M h1 h11 := fun hbb => hth11.q hQ hbb
  have hWE11 : ∀ hbb : (noB x (w 1)) = false, h11 (M + 1) = w := fun hbb => hth11.w hW hbb
  refine R_ifB_eq dX12_split_15 (fun hb15 => ?_) (fun hb15 => ?_)
  · replace hQ := hQE11 hb15
    replace hW := hWE11 hb15
    have hx1 := noB_f hb15
    obtain ⟨c, rfl⟩ : ∃ c : Nat, x = (c : Int) := ⟨x.toNat, by omega⟩
    refine R_iconst_0 dX12_split_20 ?_
    refine iS2 dX12_split_21 ?_
    refine R_iconst_0 dX12_split_22 ?_
    refine iS3 dX12_split_23 ?_
    refine loopN ((w 0).toNat) (fun q => ∀ hK12 : Hc, Mz M h1 hK12 → hK12 (M + 1) = w →  Run (d + 10) 0 0 mX12_split 24 [vR M, vI ((c : Nat) : Int), vI ((cntB (frN w c) q : Nat) : Int), vI ((q : Nat) : Int)] [] g hK12 P) (fun q hcnq ihq hK12 hQ hW  => ?_) (0) (Nat.zero_le _) _ hQ hW
    refine iL3 dX12_split_24 ?_
    refine aL0 dX12_split_25 ?_
    refine invV0 rfl dX12_split_26 kX12_98 hG.o (Nat.le_of_ble_eq_true rfl) (Nat.zero_le _) (Nat.zero_le _) (C_X12_judges hG hW hf (konI ?_))
    have hjd := hf.jud
    refine R_icmp_ge dX12_split_29 (fun hb29 => ?_) (fun hb29 => ?_)
    · have e9 : q = (w 0).toNat := by omega
      subst e9
      have hcl := cntB_le (frN w c) (w 0).toNat
      refine iL2 dX12_split_55 ?_
      refine R_if_le dX12_split_56 (fun hb56 => ?_) (fun hb56 => ?_)
      · refine R_iconst_0 dX12_split_71 ?_
        exact R_zret dX12_split_72 rfl (by decide) (PeqI (K0 c rfl (by omega) _ (hP.q hQ)) (by unfold splB; cases e1 : decide (0 < cntB (frN w c) (w 0).toNat) <;> cases e2 : decide (((cntB (frN w c) (w 0).toNat : Nat) : Int) < w 0) <;> simp at e1 e2 <;> first | rfl | omega))
      · refine iL2 dX12_split_59 ?_
        refine aL0 dX12_split_60 ?_
        refine invV0 rfl dX12_split_61 kX12_98 hG.o (Nat.le_of_ble_eq_true rfl) (Nat.zero_le _) (Nat.zero_le _) (C_X12_judges hG hW hf (konI ?_))
        have hjd := hf.jud
        refine R_icmp_ge dX12_split_64 (fun hb64 => ?_) (fun hb64 => ?_)
        · refine R_iconst_0 dX12_split_71 ?_
          exact R_zret dX12_split_72 rfl (by decide) (PeqI (K0 c rfl (by omega) _ (hP.q hQ)) (by unfold splB; cases e1 : decide (0 < cntB (frN w c) (w 0).toNat) <;> cases e2 : decide (((cntB (frN w c) (w 0).toNat : Nat) : Int) < w 0) <;> simp at e1 e2 <;> first | rfl | omega))
        · refine R_iconst_1 dX12_split_67 ?_
          refine R_goto dX12_split_68 ?_
          exact R_zret dX12_split_72 rfl (by decide) (PeqI (K0 c rfl (by omega) _ (hP.q hQ)) (by unfold splB; cases e1 : decide (0 < cntB (frN w c) (w 0).toNat) <;> cases e2 : decide (((cntB (frN w c) (w 0).toNat : Nat) : Int) < w 0) <;> simp at e1 e2 <;> first | rfl | omega))
    · refine iL2 dX12_split_32 ?_
      suffices J13 : ∀ hJ13 : Hc, Mz M h1 hJ13 → hJ13 (M + 1) = w → Run (d + 10) 0 0 mX12_split 47 [vR M, vI ((c : Nat) : Int), vI ((cntB (frN w c) q : Nat) : Int), vI ((q : Nat) : Int)] [vI (bI (frN w c q)), vI ((cntB (frN w c) q : Nat) : Int)] g hJ13 P by
        refine aL0 dX12_split_33 ?_
        refine iL3 dX12_split_34 ?_
        refine iL1 dX12_split_35 ?_
        refine invV2 rfl dX12_split_36 kX12_375 hG.o (Nat.le_of_ble_eq_true rfl) (Nat.zero_le _) (Nat.zero_le _) (C_X12_frees hG hW hf hl (by omega) (by omega) (fun h14 hx14 => konI ?_))
        replace hQ := hQ.tr (Mq.z hx14)
        replace hW := hx14.w hW
        refine R_ifB_eq dX12_split_39 (fun hb39 => ?_) (fun hb39 => ?_)
        · refine R_iconst_0 dX12_split_46 ?_
          exact topV (v := bI (frN w c q)) (by first | (rw [bI_t hb39]; done) | (rw [bI_f hb39]; done)) (J13 _ hQ hW)
        · refine R_iconst_1 dX12_split_42 ?_
          refine R_goto dX12_split_43 ?_
          exact topV (v := bI (frN w c q)) (by first | (rw [bI_t hb39]; done) | (rw [bI_f hb39]; done)) (J13 _ hQ hW)
      intro hJ13 hQ hW
      have hcl := cntB_le (frN w c) q
      have hb01 := bI01 (frN w c q)
      refine addV dX12_split_47 (wid (by omega) (by omega)) ?_
      refine iS2 dX12_split_48 ?_
      refine iInc3 dX12_split_49 (winc (by omega)) ?_
      refine R_goto dX12_split_52 ?_
      exact eqI2 (cntB_b) (ihq (by omega) _ hQ hW)
  · have hPX := hPE11 hb15
    refine R_iconst_0 dX12_split_18 ?_
    exact R_zret dX12_split_19 rfl (by decide) (KE (noB_t hb15) _ hPX)
set_option maxHeartbeats 400000 in
theorem C_X12_crumbles {d : Nat} {g : Gs} {h : Hc} {P : Po} {M : Nat} {w : Nat → Int} (hG : MdG g M) (hW : h (M + 1) = w) (hf : WF w) {x : Int} (KE : ¬ (0 ≤ x ∧ x < w 0) → ∀ h', Mp M h h' 1 → P (.inl (some (vI 0))) g h') (K0 : ∀ j : Nat, x = (j : Int) → (j : Int) < w 0 → ∀ h', Mp M h h' 0 → P (.inl (some (vI (crum w (j : Int))))) g h') : Call (d + 4) 0 0 mX12_crumbles [vR M, vI x] g h P := by
  have hcs := hf.cas
  have hjd := hf.jud
  have hho := hf.hou
  refine Call_of rfl ⟨by decide +kernel, rfl⟩ (Nat.le_of_ble_eq_true rfl) rfl ?_
  refine aL0 dX12_crumbles_0 ?_
  refine R_iconst_0 dX12_crumbles_1 ?_
  refine R_putI dX12_crumbles_2 fX12_3 hG.o ?_
  refine storH (fun h1 e1 => ?_)
  have hP : Mp M h h1 0 := by rw [e1]; exact Mp.i h M
  replace hW : h1 (M + 1) = w := hP.w hW
  have hQ : Mz M h1 h1 := Mz.rf _ _
  refine aL0 dX12_crumbles_5 ?_
  refine aL0 dX12_crumbles_6 ?_
  refine iL1 dX12_crumbles_7 ?_
  refine invV1 rfl dX12_crumbles_8 kX12_383 hG.o (Nat.le_of_ble_eq_true rfl) (Nat.zero_le _) (Nat.zero_le _) (C_X12_noJudge hG hW hf (konI ?_))
  refine R_iconst_1 dX12_crumbles_11 ?_
  refine invV2 rfl dX12_crumbles_12 kX12_274 hG.o (Nat.le_of_ble_eq_true rfl) (Nat.zero_le _) (Nat.zero_le _) (C_X12_throwsIf hG (fun h11 hth11 => konI ?_))
  have hPE11 : ∀ hbb : (noB x (w 0)) = true, Mp M h h11 1 := fun hbb => hth11.t (hP.q hQ) hbb
  have hQE11 : ∀ hbb : (noB x (w 0)) = false, Mz M h1 h11 := fun hbb => hth11.q hQ hbb
  have hWE11 : ∀ hbb : (noB x (w 0)) = false, h11 (M + 1) = w := fun hbb => hth11.w hW hbb
  refine R_ifB_eq dX12_crumbles_15 (fun hb15 => ?_) (fun hb15 => ?_)
  · replace hQ := hQE11 hb15
    replace hW := hWE11 hb15
    have hx1 := noB_f hb15
    obtain ⟨j, rfl⟩ : ∃ j : Nat, x = (j : Int) := ⟨x.toNat, by omega⟩
    refine aL0 dX12_crumbles_22 ?_
    refine iL1 dX12_crumbles_23 ?_
    refine invV1 rfl dX12_crumbles_24 kX12_340 hG.o (Nat.le_of_ble_eq_true rfl) (Nat.zero_le _) (Nat.zero_le _) (C_X12_undoneBy hG hW hf (konI ?_))
    exact R_iret dX12_crumbles_27 rfl (K0 j rfl (by omega) _ (hP.q hQ))
  · have hPX := hPE11 hb15
    refine R_iconst_0 dX12_crumbles_18 ?_
    refine R_goto dX12_crumbles_19 ?_
    exact R_iret dX12_crumbles_27 rfl (KE (noB_t hb15) _ hPX)
set_option maxHeartbeats 400000 in
theorem C_X12_worst {d : Nat} {g : Gs} {h : Hc} {P : Po} {M : Nat} {w : Nat → Int} (hG : MdG g M) (hW : h (M + 1) = w) (hf : WF w) (K0 : ∀ h', Mp M h h' 0 → P (.inl (some (vI ((worF w (w 0).toNat).1)))) g h') : Call (d + 4) 0 0 mX12_worst [vR M] g h P := by
  have hcs := hf.cas
  have hjd := hf.jud
  have hho := hf.hou
  refine Call_of rfl ⟨by decide +kernel, rfl⟩ (Nat.le_of_ble_eq_true rfl) rfl ?_
  refine aL0 dX12_worst_0 ?_
  refine R_iconst_0 dX12_worst_1 ?_
  refine R_putI dX12_worst_2 fX12_3 hG.o ?_
  refine storH (fun h1 e1 => ?_)
  have hP : Mp M h h1 0 := by rw [e1]; exact Mp.i h M
  replace hW : h1 (M + 1) = w := hP.w hW
  have hQ : Mz M h1 h1 := Mz.rf _ _
  refine R_iconst_m1 dX12_worst_5 ?_
  refine iS1 dX12_worst_6 ?_
  refine R_iconst_m1 dX12_worst_7 ?_
  refine iS2 dX12_worst_8 ?_
  refine R_iconst_0 dX12_worst_9 ?_
  refine iS3 dX12_worst_10 ?_
  refine loopN ((w 0).toNat) (fun q => ∀ v4 : AV, Run (d + 4) 0 0 mX12_worst 11 [vR M, vI ((worF w q).1), vI ((worF w q).2), vI ((q : Nat) : Int), v4] [] g h1 P) (fun q hcnq ihq v4 => ?_) (0) (Nat.zero_le _) _
  refine iL3 dX12_worst_11 ?_
  refine aL0 dX12_worst_12 ?_
  refine invV0 rfl dX12_worst_13 kX12_98 hG.o (Nat.le_of_ble_eq_true rfl) (Nat.zero_le _) (Nat.zero_le _) (C_X12_judges hG hW hf (konI ?_))
  have hjd := hf.jud
  refine R_icmp_ge dX12_worst_16 (fun hb16 => ?_) (fun hb16 => ?_)
  · have e9 : q = (w 0).toNat := by omega
    subst e9
    refine iL1 dX12_worst_54 ?_
    exact R_iret dX12_worst_55 rfl (K0 _ (hP.q hQ))
  · refine aL0 dX12_worst_19 ?_
    refine iL3 dX12_worst_20 ?_
    refine invV1 rfl dX12_worst_21 kX12_340 hG.o (Nat.le_of_ble_eq_true rfl) (Nat.zero_le _) (Nat.zero_le _) (C_X12_undoneBy hG hW hf (konI ?_))
    refine topV (v := ((crN w q : Nat) : Int)) (crum_nat hf q) ?_
    refine invS1 rfl dX12_worst_24 kX12_378 (Nat.le_of_ble_eq_true rfl) (Nat.zero_le _) (Nat.zero_le _) (C_J6_bitCount_0f7a4 (nset8 _ (Nat.le_refl _)) (konI ?_))
    refine iS4 dX12_worst_27 ?_
    suffices J11 : Run (d + 4) 0 0 mX12_worst 40 [vR M, vI ((worF w q).1), vI ((worF w q).2), vI ((q : Nat) : Int), vI ((pc8 (crN w q) : Nat) : Int)] [vI ((if (worF w q).2 < ((pc8 (crN w q) : Nat) : Int) then (q : Int) else (worF w q).1))] g h1 P by
      refine iL4 dX12_worst_29 ?_
      refine iL2 dX12_worst_31 ?_
      refine R_icmp_le dX12_worst_32 (fun hb32 => ?_) (fun hb32 => ?_)
      · refine iL1 dX12_worst_39 ?_
        exact topV (v := (if (worF w q).2 < ((pc8 (crN w q) : Nat) : Int) then (q : Int) else (worF w q).1)) (by first | (rw [if_pos (by omega)]; done) | (rw [if_neg (by omega)]; done)) J11
      · refine iL3 dX12_worst_35 ?_
        refine R_goto dX12_worst_36 ?_
        exact topV (v := (if (worF w q).2 < ((pc8 (crN w q) : Nat) : Int) then (q : Int) else (worF w q).1)) (by first | (rw [if_pos (by omega)]; done) | (rw [if_neg (by omega)]; done)) J11
    refine iS1 dX12_worst_40 ?_
    refine iL2 dX12_worst_41 ?_
    refine iL4 dX12_worst_42 ?_
    refine R_mmax dX12_worst_44 kX12_313 lb_max (Nat.le_of_ble_eq_true rfl) ?_
    refine iS2 dX12_worst_47 ?_
    refine iInc3 dX12_worst_48 (winc (by omega)) ?_
    refine R_goto dX12_worst_51 ?_
    exact eqI1 (by rw [worF_s]; unfold worS; split <;> rfl) (eqI2 (by rw [worF_s]; unfold worS; (repeat' split) <;> (first | rfl | omega)) (ihq (by omega) _))
set_option maxHeartbeats 400000 in
theorem C_X12_roots {d : Nat} {g : Gs} {h : Hc} {P : Po} {M : Nat} {w : Nat → Int} (hG : MdG g M) (hW : h (M + 1) = w) (hf : WF w) (K0 : ∀ h', Mp M h h' 0 → P (.inl (some (vI (bset (rooP w) (w 1).toNat)))) g h') : Call (d + 3) 0 0 mX12_roots [vR M] g h P := by
  have hcs := hf.cas
  have hjd := hf.jud
  have hho := hf.hou
  refine Call_of rfl ⟨by decide +kernel, rfl⟩ (Nat.le_of_ble_eq_true rfl) rfl ?_
  refine aL0 dX12_roots_0 ?_
  refine R_iconst_0 dX12_roots_1 ?_
  refine R_putI dX12_roots_2 fX12_3 hG.o ?_
  refine storH (fun h1 e1 => ?_)
  have hP : Mp M h h1 0 := by rw [e1]; exact Mp.i h M
  replace hW : h1 (M + 1) = w := hP.w hW
  have hQ : Mz M h1 h1 := Mz.rf _ _
  refine R_iconst_0 dX12_roots_5 ?_
  refine iS1 dX12_roots_6 ?_
  refine R_iconst_0 dX12_roots_7 ?_
  refine iS2 dX12_roots_8 ?_
  refine loopN ((w 1).toNat) (fun q => Run (d + 3) 0 0 mX12_roots 9 [vR M, vI (bset (rooP w) q), vI ((q : Nat) : Int)] [] g h1 P) (fun q hcnq ihq => ?_) (0) (Nat.zero_le _)
  refine iL2 dX12_roots_9 ?_
  refine aL0 dX12_roots_10 ?_
  refine invV0 rfl dX12_roots_11 kX12_90 hG.o (Nat.le_of_ble_eq_true rfl) (Nat.zero_le _) (Nat.zero_le _) (C_X12_cases hG hW hf (konI ?_))
  have hcs := hf.cas
  refine R_icmp_ge dX12_roots_14 (fun hb14 => ?_) (fun hb14 => ?_)
  · have e9 : q = (w 1).toNat := by omega
    subst e9
    refine iL1 dX12_roots_54 ?_
    exact R_iret dX12_roots_55 rfl (K0 _ (hP.q hQ))
  · refine iL1 dX12_roots_17 ?_
    suffices J11 : Run (d + 3) 0 0 mX12_roots 46 [vR M, vI (bset (rooP w) q), vI ((q : Nat) : Int)] [vI (obI (rooP w q) q), vI (bset (rooP w) q)] g h1 P by
      refine aL0 dX12_roots_18 ?_
      refine iL2 dX12_roots_19 ?_
      refine R_iconst_3 dX12_roots_20 ?_
      refine invV2 rfl dX12_roots_21 kX12_87 hG.o (Nat.le_of_ble_eq_true rfl) (Nat.zero_le _) (Nat.zero_le _) (C_X12_of hG hW (b := 3) (i := 103 + 7 * q) (by omega) (by omega) (konI ?_))
      have hq12 := hf.on (c := q) (by omega)
      refine R_iconst_m1 dX12_roots_24 ?_
      refine R_icmp_ne dX12_roots_25 (fun hb25 => ?_) (fun hb25 => ?_)
      · refine R_iconst_0 dX12_roots_45 ?_
        exact topV (v := obI (rooP w q) q) (by first | exact obI_f (by simp [rooP]; omega) | exact obI_t (by simp [rooP, hb36]; omega) | exact obI_f (by first | (simp [rooP, hb36]; done) | fail)) J11
      · refine aL0 dX12_roots_28 ?_
        refine iL2 dX12_roots_29 ?_
        refine invV1 rfl dX12_roots_30 kX12_334 hG.o (Nat.le_of_ble_eq_true rfl) (Nat.zero_le _) (Nat.zero_le _) (C_X12_leaningOn hG hW hf (by omega) (konI ?_))
        refine R_iconst_1 dX12_roots_33 ?_
        refine iL2 dX12_roots_34 ?_
        refine R_ishl dX12_roots_35 ?_
        refine R_icmp_eq dX12_roots_36 (fun hb36 => ?_) (fun hb36 => ?_)
        · refine R_iconst_0 dX12_roots_45 ?_
          exact topV (v := obI (rooP w q) q) (by first | exact obI_f (by simp [rooP]; omega) | exact obI_t (by simp [rooP, hb36]; omega) | exact obI_f (by first | (simp [rooP, hb36]; done) | fail)) J11
        · refine R_iconst_1 dX12_roots_39 ?_
          refine iL2 dX12_roots_40 ?_
          refine R_ishl dX12_roots_41 ?_
          refine R_goto dX12_roots_42 ?_
          exact topV (v := obI (rooP w q) q) (by first | exact obI_f (by simp [rooP]; omega) | exact obI_t (by simp [rooP, hb36]; omega) | exact obI_f (by first | (simp [rooP, hb36]; done) | fail)) J11
    refine R_ior dX12_roots_46 ?_
    refine iS1 dX12_roots_47 ?_
    refine iInc2 dX12_roots_48 (winc (by omega)) ?_
    refine R_goto dX12_roots_51 ?_
    exact eqI1 (bset_ob) (ihq (by omega))
set_option maxHeartbeats 400000 in
theorem C_X12_payOf {d : Nat} {g : Gs} {h : Hc} {P : Po} {M : Nat} {w : Nat → Int} (hG : MdG g M) (hW : h (M + 1) = w) (hf : WF w) {j k : Nat} (hj : j < 5) (hk : k < 5) (K : P (.inl (some (vI (payW w j k)))) g h) : Call (d + 2) 0 0 mX12_payOf [vR M, vI ((j : Nat) : Int), vI ((k : Nat) : Int)] g h P := by
  refine Call_of rfl ⟨by decide +kernel, rfl⟩ (Nat.le_of_ble_eq_true rfl) rfl ?_
  refine iL2 dX12_payOf_0 ?_
  refine R_bipush dX12_payOf_1 (by decide) ?_
  refine mulV dX12_payOf_3 (v := (((k * 17) : Nat) : Int)) (by rw [wid (by omega) (by omega)]; omega) ?_
  refine R_bipush dX12_payOf_4 (by decide) ?_
  refine remV dX12_payOf_6 (by decide) (v := (((k * 17) % 40 : Nat) : Int)) (remN (k := 40) (by omega) (by decide)) ?_
  suffices J1 : Run (d + 2) 0 0 mX12_payOf 22 [vR M, vI ((j : Nat) : Int), vI ((k : Nat) : Int)] [vI ((if j = k then w (83 + 4 * j) else 0)), vI ((((k * 17) % 40) : Nat) : Int)] g h P by
    refine iL2 dX12_payOf_7 ?_
    refine iL1 dX12_payOf_8 ?_
    refine R_icmp_ne dX12_payOf_9 (fun hb9 => ?_) (fun hb9 => ?_)
    · refine R_iconst_0 dX12_payOf_21 ?_
      exact topV (v := (if j = k then w (83 + 4 * j) else 0)) (by first | (rw [if_pos (by omega)]; done) | (rw [if_neg (by omega)]; done)) J1
    · refine aL0 dX12_payOf_12 ?_
      refine iL1 dX12_payOf_13 ?_
      refine R_iconst_3 dX12_payOf_14 ?_
      refine invV2 rfl dX12_payOf_15 kX12_280 hG.o (Nat.le_of_ble_eq_true rfl) (Nat.zero_le _) (Nat.zero_le _) (C_X12_ofJudge hG hW (b := 3) (i := 83 + 4 * j) (by omega) (by omega) (konI ?_))
      have hq2 := hf.py (j := j) (by omega)
      refine R_goto dX12_payOf_18 ?_
      exact topV (v := (if j = k then w (83 + 4 * j) else 0)) (by first | (rw [if_pos (by omega)]; done) | (rw [if_neg (by omega)]; done)) J1
  have hpy := hf.py (j := j) (by omega)
  refine addV dX12_payOf_22 (wid (by omega) (by omega)) ?_
  exact R_iret dX12_payOf_23 rfl (K)
set_option maxHeartbeats 400000 in
theorem C_X12_likesMore {d : Nat} {g : Gs} {h : Hc} {P : Po} {M : Nat} {w : Nat → Int} (hG : MdG g M) (hW : h (M + 1) = w) (hf : WF w) {j k z : Nat} (hj : j < 5) (hk : k < 5) (hz : z < 5) (K : P (.inl (some (vI (bI (ratP w j z k))))) g h) : Call (d + 3) 0 0 mX12_likesMore [vR M, vI ((j : Nat) : Int), vI ((k : Nat) : Int), vI ((z : Nat) : Int)] g h P := by
  refine Call_of rfl ⟨by decide +kernel, rfl⟩ (Nat.le_of_ble_eq_true rfl) rfl ?_
  suffices J1 : Run (d + 3) 0 0 mX12_likesMore 40 [vR M, vI ((j : Nat) : Int), vI ((k : Nat) : Int), vI ((z : Nat) : Int)] [vI (bI (ratP w j z k))] g h P by
    refine aL0 dX12_likesMore_0 ?_
    refine iL1 dX12_likesMore_1 ?_
    refine iL2 dX12_likesMore_2 ?_
    refine invV2 rfl dX12_likesMore_3 kX12_450 hG.o (Nat.le_of_ble_eq_true rfl) (Nat.zero_le _) (Nat.zero_le _) (C_X12_payOf hG hW hf (by omega) (by omega) (konI ?_))
    refine aL0 dX12_likesMore_6 ?_
    refine iL1 dX12_likesMore_7 ?_
    refine iL3 dX12_likesMore_8 ?_
    refine invV2 rfl dX12_likesMore_9 kX12_450 hG.o (Nat.le_of_ble_eq_true rfl) (Nat.zero_le _) (Nat.zero_le _) (C_X12_payOf hG hW hf (by omega) (by omega) (konI ?_))
    refine R_icmp_gt dX12_likesMore_12 (fun hb12 => ?_) (fun hb12 => ?_)
    · refine R_iconst_1 dX12_likesMore_35 ?_
      refine R_goto dX12_likesMore_36 ?_
      exact topV (v := bI (ratP w j z k)) (by first | (rw [bI_t (by simp [ratP]; omega)]; done) | (rw [bI_f (by simp [ratP]; omega)]; done)) J1
    · refine aL0 dX12_likesMore_15 ?_
      refine iL1 dX12_likesMore_16 ?_
      refine iL2 dX12_likesMore_17 ?_
      refine invV2 rfl dX12_likesMore_18 kX12_450 hG.o (Nat.le_of_ble_eq_true rfl) (Nat.zero_le _) (Nat.zero_le _) (C_X12_payOf hG hW hf (by omega) (by omega) (konI ?_))
      refine aL0 dX12_likesMore_21 ?_
      refine iL1 dX12_likesMore_22 ?_
      refine iL3 dX12_likesMore_23 ?_
      refine invV2 rfl dX12_likesMore_24 kX12_450 hG.o (Nat.le_of_ble_eq_true rfl) (Nat.zero_le _) (Nat.zero_le _) (C_X12_payOf hG hW hf (by omega) (by omega) (konI ?_))
      refine R_icmp_ne dX12_likesMore_27 (fun hb27 => ?_) (fun hb27 => ?_)
      · refine R_iconst_0 dX12_likesMore_39 ?_
        exact topV (v := bI (ratP w j z k)) (by first | (rw [bI_t (by simp [ratP]; omega)]; done) | (rw [bI_f (by simp [ratP]; omega)]; done)) J1
      · refine iL2 dX12_likesMore_30 ?_
        refine iL3 dX12_likesMore_31 ?_
        refine R_icmp_ge dX12_likesMore_32 (fun hb32 => ?_) (fun hb32 => ?_)
        · refine R_iconst_0 dX12_likesMore_39 ?_
          exact topV (v := bI (ratP w j z k)) (by first | (rw [bI_t (by simp [ratP]; omega)]; done) | (rw [bI_f (by simp [ratP]; omega)]; done)) J1
        · refine R_iconst_1 dX12_likesMore_35 ?_
          refine R_goto dX12_likesMore_36 ?_
          exact topV (v := bI (ratP w j z k)) (by first | (rw [bI_t (by simp [ratP]; omega)]; done) | (rw [bI_f (by simp [ratP]; omega)]; done)) J1
  exact R_zret dX12_likesMore_40 rfl (bI01 _) (K)
set_option maxHeartbeats 400000 in
theorem C_X12_rather {d : Nat} {g : Gs} {h : Hc} {P : Po} {M : Nat} {w : Nat → Int} (hG : MdG g M) (hW : h (M + 1) = w) (hf : WF w) {x y : Int} (KE : ¬ ((0 ≤ x ∧ x < w 0) ∧ 0 ≤ y ∧ y < 5) → ∀ h', Mp M h h' 1 → P (.inl (some (vI 0))) g h') (K0 : ∀ j z : Nat, x = (j : Int) → y = (z : Int) → (j : Int) < w 0 → z < 5 → ∀ h', Mp M h h' 0 → P (.inl (some (vI (bset (ratP w j z) 5)))) g h') : Call (d + 4) 0 0 mX12_rather [vR M, vI x, vI y] g h P := by
  have hcs := hf.cas
  have hjd := hf.jud
  have hho := hf.hou
  refine Call_of rfl ⟨by decide +kernel, rfl⟩ (Nat.le_of_ble_eq_true rfl) rfl ?_
  refine aL0 dX12_rather_0 ?_
  refine R_iconst_0 dX12_rather_1 ?_
  refine R_putI dX12_rather_2 fX12_3 hG.o ?_
  refine storH (fun h1 e1 => ?_)
  have hP : Mp M h h1 0 := by rw [e1]; exact Mp.i h M
  replace hW : h1 (M + 1) = w := hP.w hW
  have hQ : Mz M h1 h1 := Mz.rf _ _
  refine aL0 dX12_rather_5 ?_
  suffices J11 : Run (d + 4) 0 0 mX12_rather 28 [vR M, vI x, vI y, vU, vU] [vI (bI (noB x (w 0) || noB y 5)), vR M] g h1 P by
    refine aL0 dX12_rather_6 ?_
    refine iL1 dX12_rather_7 ?_
    refine invV1 rfl dX12_rather_8 kX12_383 hG.o (Nat.le_of_ble_eq_true rfl) (Nat.zero_le _) (Nat.zero_le _) (C_X12_noJudge hG hW hf (konI ?_))
    refine R_ifB_ne dX12_rather_11 (fun hb11 => ?_) (fun hb11 => ?_)
    · refine R_iconst_1 dX12_rather_23 ?_
      refine R_goto dX12_rather_24 ?_
      exact topV (v := bI (noB x (w 0) || noB y 5)) (by first | (rw [bI_t (by first | (simp [hb11]; done) | fail)]; done) | (rw [bI_t (by simp at hb20; simp [noB]; omega)]; done) | (rw [bI_f (by simp at hb20; simp [hb11]; simp [noB]; omega)]; done)) J11
    · refine iL2 dX12_rather_14 ?_
      refine R_iconst_0 dX12_rather_15 ?_
      refine R_iconst_4 dX12_rather_16 ?_
      refine invS3 rfl dX12_rather_17 kX12_101 (Nat.le_of_ble_eq_true rfl) (Nat.zero_le _) (Nat.zero_le _) (C_X12_in (konI ?_))
      refine R_ifB_ne dX12_rather_20 (fun hb20 => ?_) (fun hb20 => ?_)
      · refine R_iconst_0 dX12_rather_27 ?_
        exact topV (v := bI (noB x (w 0) || noB y 5)) (by first | (rw [bI_t (by first | (simp [hb11]; done) | fail)]; done) | (rw [bI_t (by simp at hb20; simp [noB]; omega)]; done) | (rw [bI_f (by simp at hb20; simp [hb11]; simp [noB]; omega)]; done)) J11
      · refine R_iconst_1 dX12_rather_23 ?_
        refine R_goto dX12_rather_24 ?_
        exact topV (v := bI (noB x (w 0) || noB y 5)) (by first | (rw [bI_t (by first | (simp [hb11]; done) | fail)]; done) | (rw [bI_t (by simp at hb20; simp [noB]; omega)]; done) | (rw [bI_f (by simp at hb20; simp [hb11]; simp [noB]; omega)]; done)) J11
  refine R_iconst_1 dX12_rather_28 ?_
  refine invV2 rfl dX12_rather_29 kX12_274 hG.o (Nat.le_of_ble_eq_true rfl) (Nat.zero_le _) (Nat.zero_le _) (C_X12_throwsIf hG (fun h12 hth12 => konI ?_))
  have hPE12 : ∀ hbb : (noB x (w 0) || noB y 5) = true, Mp M h h12 1 := fun hbb => hth12.t (hP.q hQ) hbb
  have hQE12 : ∀ hbb : (noB x (w 0) || noB y 5) = false, Mz M h1 h12 := fun hbb => hth12.q hQ hbb
  have hWE12 : ∀ hbb : (noB x (w 0) || noB y 5) = false, h12 (M + 1) = w := fun hbb => hth12.w hW hbb
  refine R_ifB_eq dX12_rather_32 (fun hb32 => ?_) (fun hb32 => ?_)
  · replace hQ := hQE12 hb32
    replace hW := hWE12 hb32
    have hb9 := hb32
    simp only [Bool.or_eq_false_iff] at hb9
    have hx1 := noB_f hb9.1
    have hx2 := noB_f hb9.2
    obtain ⟨j, rfl⟩ : ∃ j : Nat, x = (j : Int) := ⟨x.toNat, by omega⟩
    obtain ⟨z, rfl⟩ : ∃ z : Nat, y = (z : Int) := ⟨y.toNat, by omega⟩
    refine R_iconst_0 dX12_rather_37 ?_
    refine iS3 dX12_rather_38 ?_
    refine R_iconst_0 dX12_rather_39 ?_
    refine iS4 dX12_rather_40 ?_
    refine loopN (5) (fun q => Run (d + 4) 0 0 mX12_rather 42 [vR M, vI ((j : Nat) : Int), vI ((z : Nat) : Int), vI (bset (ratP w j z) q), vI ((q : Nat) : Int)] [] g h12 P) (fun q hcnq ihq => ?_) (0) (Nat.zero_le _)
    refine iL4 dX12_rather_42 ?_
    refine R_iconst_5 dX12_rather_44 ?_
    refine R_icmp_ge dX12_rather_45 (fun hb45 => ?_) (fun hb45 => ?_)
    · have e9 : q = 5 := by omega
      subst e9
      refine iL3 dX12_rather_82 ?_
      exact R_iret dX12_rather_83 rfl (K0 j z rfl rfl (by omega) (by omega) _ (hP.q hQ))
    · refine iL3 dX12_rather_48 ?_
      suffices J13 : Run (d + 4) 0 0 mX12_rather 74 [vR M, vI ((j : Nat) : Int), vI ((z : Nat) : Int), vI (bset (ratP w j z) q), vI ((q : Nat) : Int)] [vI (obI (ratP w j z q) q), vI (bset (ratP w j z) q)] g h12 P by
        refine iL4 dX12_rather_49 ?_
        refine iL2 dX12_rather_51 ?_
        refine R_icmp_eq dX12_rather_52 (fun hb52 => ?_) (fun hb52 => ?_)
        · refine R_iconst_0 dX12_rather_73 ?_
          exact topV (v := obI (ratP w j z q) q) (by first | exact obI_t hb63 | exact obI_f hb63 | exact obI_f (by simp [ratP]; rw [show q = z by omega]; omega)) J13
        · refine aL0 dX12_rather_55 ?_
          refine iL1 dX12_rather_56 ?_
          refine iL4 dX12_rather_57 ?_
          refine iL2 dX12_rather_59 ?_
          refine invV3 rfl dX12_rather_60 kX12_453 hG.o (Nat.le_of_ble_eq_true rfl) (Nat.zero_le _) (Nat.zero_le _) (C_X12_likesMore hG hW hf (by omega) (by omega) (by omega) (konI ?_))
          refine R_ifB_eq dX12_rather_63 (fun hb63 => ?_) (fun hb63 => ?_)
          · refine R_iconst_0 dX12_rather_73 ?_
            exact topV (v := obI (ratP w j z q) q) (by first | exact obI_t hb63 | exact obI_f hb63 | exact obI_f (by simp [ratP]; rw [show q = z by omega]; omega)) J13
          · refine R_iconst_1 dX12_rather_66 ?_
            refine iL4 dX12_rather_67 ?_
            refine R_ishl dX12_rather_69 ?_
            refine R_goto dX12_rather_70 ?_
            exact topV (v := obI (ratP w j z q) q) (by first | exact obI_t hb63 | exact obI_f hb63 | exact obI_f (by simp [ratP]; rw [show q = z by omega]; omega)) J13
      refine R_ior dX12_rather_74 ?_
      refine iS3 dX12_rather_75 ?_
      refine iInc4 dX12_rather_76 (winc (by omega)) ?_
      refine R_goto dX12_rather_79 ?_
      exact eqI3 (bset_ob) (ihq (by omega))
  · have hPX := hPE12 hb32
    refine R_iconst_0 dX12_rather_35 ?_
    exact R_iret dX12_rather_36 rfl (KE (by simp [noB] at hb32; omega) _ hPX)
set_option maxHeartbeats 400000 in
theorem C_X12_judgeHas {d : Nat} {g : Gs} {h : Hc} {P : Po} {M : Nat} {w : Nat → Int} (hG : MdG g M) (hW : h (M + 1) = w) (hf : WF w) {j a b : Nat} (hj : j < 5) (ha : a < 2) (hb : b < 2) (K : P (.inl (some (vI (hisW w j (2 * a + b))))) g h) : Call (d + 2) 0 0 mX12_judgeHas [vR M, vI ((j : Nat) : Int), vI ((a : Nat) : Int), vI ((b : Nat) : Int)] g h P := by
  have hhu := hf.hu hj
  refine Call_of rfl ⟨by decide +kernel, rfl⟩ (Nat.le_of_ble_eq_true rfl) rfl ?_
  refine aL0 dX12_judgeHas_0 ?_
  refine iL1 dX12_judgeHas_1 ?_
  refine R_iconst_0 dX12_judgeHas_2 ?_
  refine invV2 rfl dX12_judgeHas_3 kX12_280 hG.o (Nat.le_of_ble_eq_true rfl) (Nat.zero_le _) (Nat.zero_le _) (C_X12_ofJudge hG hW (b := 0) (i := 80 + 4 * j) (by omega) (by omega) (konI ?_))
  have hq1 := hf.hu (j := j) (by omega)
  refine R_bipush dX12_judgeHas_6 (by decide) ?_
  refine divV dX12_judgeHas_8 (by decide) (divI (by omega) (by omega) (by omega)) ?_
  refine iS4 dX12_judgeHas_9 ?_
  refine iL2 dX12_judgeHas_11 ?_
  refine R_if_ne dX12_judgeHas_12 (fun hb12 => ?_) (fun hb12 => ?_)
  · refine iL3 dX12_judgeHas_29 ?_
    refine R_if_ne dX12_judgeHas_30 (fun hb30 => ?_) (fun hb30 => ?_)
    · refine R_bipush dX12_judgeHas_37 (by decide) ?_
      exact R_iret dX12_judgeHas_39 rfl (PeqI K (by unfold hisW; (repeat' split) <;> omega))
    · refine R_iconst_4 dX12_judgeHas_33 ?_
      refine R_goto dX12_judgeHas_34 ?_
      exact R_iret dX12_judgeHas_39 rfl (PeqI K (by unfold hisW; (repeat' split) <;> omega))
  · refine iL3 dX12_judgeHas_15 ?_
    refine R_if_ne dX12_judgeHas_16 (fun hb16 => ?_) (fun hb16 => ?_)
    · refine iL4 dX12_judgeHas_26 ?_
      exact R_iret dX12_judgeHas_28 rfl (PeqI K (by unfold hisW; (repeat' split) <;> omega))
    · refine iL4 dX12_judgeHas_19 ?_
      refine R_iconst_3 dX12_judgeHas_21 ?_
      refine subV dX12_judgeHas_22 (wid (by omega) (by omega)) ?_
      refine R_goto dX12_judgeHas_23 ?_
      exact R_iret dX12_judgeHas_28 rfl (PeqI K (by unfold hisW; (repeat' split) <;> omega))
set_option maxHeartbeats 400000 in
theorem C_X12_cookHas {d : Nat} {g : Gs} {h : Hc} {P : Po} {M : Nat} {w : Nat → Int} (hG : MdG g M) (hW : h (M + 1) = w) (hf : WF w) {j a b : Nat} (hj : j < 5) (ha : a < 2) (hb : b < 2) (K : P (.inl (some (vI (cokW w j (2 * a + b))))) g h) : Call (d + 2) 0 0 mX12_cookHas [vR M, vI ((j : Nat) : Int), vI ((a : Nat) : Int), vI ((b : Nat) : Int)] g h P := by
  refine Call_of rfl ⟨by decide +kernel, rfl⟩ (Nat.le_of_ble_eq_true rfl) rfl ?_
  refine iL3 dX12_cookHas_0 ?_
  refine R_iconst_1 dX12_cookHas_1 ?_
  refine R_icmp_ne dX12_cookHas_2 (fun hb2 => ?_) (fun hb2 => ?_)
  · refine iL2 dX12_cookHas_7 ?_
    refine R_if_ne dX12_cookHas_8 (fun hb8 => ?_) (fun hb8 => ?_)
    · refine aL0 dX12_cookHas_15 ?_
      refine iL1 dX12_cookHas_16 ?_
      refine R_iconst_2 dX12_cookHas_17 ?_
      refine invV2 rfl dX12_cookHas_18 kX12_280 hG.o (Nat.le_of_ble_eq_true rfl) (Nat.zero_le _) (Nat.zero_le _) (C_X12_ofJudge hG hW (b := 2) (i := 82 + 4 * j) (by omega) (by omega) (konI ?_))
      have hq1 := hf.nv (j := j) (by omega)
      exact R_iret dX12_cookHas_21 rfl (PeqI K (by unfold cokW; (repeat' split) <;> omega))
    · refine R_iconst_m1 dX12_cookHas_11 ?_
      refine R_goto dX12_cookHas_12 ?_
      exact R_iret dX12_cookHas_21 rfl (PeqI K (by unfold cokW; (repeat' split) <;> omega))
  · refine R_iconst_0 dX12_cookHas_5 ?_
    exact R_iret dX12_cookHas_6 rfl (PeqI K (by unfold cokW; (repeat' split) <;> omega))
theorem xr_ab : ∀ a, a < 2 → ∀ b, b < 2 → xr (2 * a + b) 2 = 2 * (1 - a) + b ∧ xr (2 * a + b) 1 = 2 * a + (1 - b) := by decide
theorem bset_2 {p : Nat → Bool} {n : Nat} (x : Int) (h : x = obI (p n) n) : orI (bset p n) x = bset p (n + 1) := by rw [h]; exact bset_ob
set_option maxHeartbeats 400000 in
theorem C_X12_rests {d : Nat} {g : Gs} {h : Hc} {P : Po} {M : Nat} {w : Nat → Int} (hG : MdG g M) (hW : h (M + 1) = w) (hf : WF w) {x : Int} (KE : ¬ (0 ≤ x ∧ x < w 0) → ∀ h', Mp M h h' 1 → P (.inl (some (vI 0))) g h') (K0 : ∀ j : Nat, x = (j : Int) → (j : Int) < w 0 → ∀ h', Mp M h h' 0 → P (.inl (some (vI (bset (resP w j) 4)))) g h') : Call (d + 4) 0 0 mX12_rests [vR M, vI x] g h P := by
  have hcs := hf.cas
  have hjd := hf.jud
  have hho := hf.hou
  refine Call_of rfl ⟨by decide +kernel, rfl⟩ (Nat.le_of_ble_eq_true rfl) rfl ?_
  refine aL0 dX12_rests_0 ?_
  refine R_iconst_0 dX12_rests_1 ?_
  refine R_putI dX12_rests_2 fX12_3 hG.o ?_
  refine storH (fun h1 e1 => ?_)
  have hP : Mp M h h1 0 := by rw [e1]; exact Mp.i h M
  replace hW : h1 (M + 1) = w := hP.w hW
  have hQ : Mz M h1 h1 := Mz.rf _ _
  refine aL0 dX12_rests_5 ?_
  refine aL0 dX12_rests_6 ?_
  refine iL1 dX12_rests_7 ?_
  refine invV1 rfl dX12_rests_8 kX12_383 hG.o (Nat.le_of_ble_eq_true rfl) (Nat.zero_le _) (Nat.zero_le _) (C_X12_noJudge hG hW hf (konI ?_))
  refine R_iconst_1 dX12_rests_11 ?_
  refine invV2 rfl dX12_rests_12 kX12_274 hG.o (Nat.le_of_ble_eq_true rfl) (Nat.zero_le _) (Nat.zero_le _) (C_X12_throwsIf hG (fun h11 hth11 => konI ?_))
  have hPE11 : ∀ hbb : (noB x (w 0)) = true, Mp M h h11 1 := fun hbb => hth11.t (hP.q hQ) hbb
  have hQE11 : ∀ hbb : (noB x (w 0)) = false, Mz M h1 h11 := fun hbb => hth11.q hQ hbb
  have hWE11 : ∀ hbb : (noB x (w 0)) = false, h11 (M + 1) = w := fun hbb => hth11.w hW hbb
  refine R_ifB_eq dX12_rests_15 (fun hb15 => ?_) (fun hb15 => ?_)
  · replace hQ := hQE11 hb15
    replace hW := hWE11 hb15
    have hx1 := noB_f hb15
    obtain ⟨j, rfl⟩ : ∃ j : Nat, x = (j : Int) := ⟨x.toNat, by omega⟩
    refine R_iconst_0 dX12_rests_20 ?_
    refine iS2 dX12_rests_21 ?_
    refine R_iconst_0 dX12_rests_22 ?_
    refine iS3 dX12_rests_23 ?_
    refine loopN (2) (fun a => ∀ v4 : AV, Run (d + 4) 0 0 mX12_rests 24 [vR M, vI ((j : Nat) : Int), vI (bset (resP w j) (2 * a)), vI ((a : Nat) : Int), v4] [] g h11 P) (fun a hcna iha v4 => ?_) (0) (Nat.zero_le _) _
    refine iL3 dX12_rests_24 ?_
    refine R_iconst_2 dX12_rests_25 ?_
    refine R_icmp_ge dX12_rests_26 (fun hb26 => ?_) (fun hb26 => ?_)
    · have e9 : a = 2 := by omega
      subst e9
      refine iL2 dX12_rests_107 ?_
      exact R_iret dX12_rests_108 rfl (K0 j rfl (by omega) _ (hP.q hQ))
    · refine R_iconst_0 dX12_rests_29 ?_
      refine iS4 dX12_rests_30 ?_
      refine loopN (2) (fun b => Run (d + 4) 0 0 mX12_rests 32 [vR M, vI ((j : Nat) : Int), vI (bset (resP w j) (2 * a + b)), vI ((a : Nat) : Int), vI ((b : Nat) : Int)] [] g h11 P) (fun b hcnb ihb => ?_) (0) (Nat.zero_le _)
      refine iL4 dX12_rests_32 ?_
      refine R_iconst_2 dX12_rests_34 ?_
      refine R_icmp_ge dX12_rests_35 (fun hb35 => ?_) (fun hb35 => ?_)
      · refine iInc3 dX12_rests_101 (winc (by omega)) ?_
        refine R_goto dX12_rests_104 ?_
        exact eqI2 (by rw [show 2 * (a + 1) = 2 * a + 2 by omega, show b = 2 by omega]) (iha (by omega) _)
      · refine iL2 dX12_rests_38 ?_
        suffices J12 : Run (d + 4) 0 0 mX12_rests 93 [vR M, vI ((j : Nat) : Int), vI (bset (resP w j) (2 * a + b)), vI ((a : Nat) : Int), vI ((b : Nat) : Int)] [vI (obI (resP w j (2 * a + b)) (2 * a + b)), vI (bset (resP w j) (2 * a + b))] g h11 P by
          refine aL0 dX12_rests_39 ?_
          refine iL1 dX12_rests_40 ?_
          refine iL3 dX12_rests_41 ?_
          refine iL4 dX12_rests_42 ?_
          refine invV3 rfl dX12_rests_44 kX12_484 hG.o (Nat.le_of_ble_eq_true rfl) (Nat.zero_le _) (Nat.zero_le _) (C_X12_judgeHas hG hW hf (by omega) (by omega) (by omega) (konI ?_))
          refine aL0 dX12_rests_47 ?_
          refine iL1 dX12_rests_48 ?_
          refine R_iconst_1 dX12_rests_49 ?_
          refine iL3 dX12_rests_50 ?_
          refine subV dX12_rests_51 (wid (by omega) (by omega)) ?_
          refine topV (v := (((1 - a) : Nat) : Int)) (by omega) ?_
          refine iL4 dX12_rests_52 ?_
          refine invV3 rfl dX12_rests_54 kX12_484 hG.o (Nat.le_of_ble_eq_true rfl) (Nat.zero_le _) (Nat.zero_le _) (C_X12_judgeHas hG hW hf (by omega) (by omega) (by omega) (konI ?_))
          refine R_icmp_lt dX12_rests_57 (fun hb57 => ?_) (fun hb57 => ?_)
          · refine R_iconst_0 dX12_rests_92 ?_
            exact topV (v := obI (resP w j (2 * a + b)) (2 * a + b)) (by obtain ⟨y1, y2⟩ := xr_ab a (by omega) b (by omega); first | exact obI_t (by simp [resP, y1, y2]; omega) | exact obI_f (by simp [resP, y1, y2]; omega)) J12
          · refine aL0 dX12_rests_60 ?_
            refine iL1 dX12_rests_61 ?_
            refine iL3 dX12_rests_62 ?_
            refine iL4 dX12_rests_63 ?_
            refine invV3 rfl dX12_rests_65 kX12_487 hG.o (Nat.le_of_ble_eq_true rfl) (Nat.zero_le _) (Nat.zero_le _) (C_X12_cookHas hG hW hf (by omega) (by omega) (by omega) (konI ?_))
            refine aL0 dX12_rests_68 ?_
            refine iL1 dX12_rests_69 ?_
            refine iL3 dX12_rests_70 ?_
            refine R_iconst_1 dX12_rests_71 ?_
            refine iL4 dX12_rests_72 ?_
            refine subV dX12_rests_74 (wid (by omega) (by omega)) ?_
            refine topV (v := (((1 - b) : Nat) : Int)) (by omega) ?_
            refine invV3 rfl dX12_rests_75 kX12_487 hG.o (Nat.le_of_ble_eq_true rfl) (Nat.zero_le _) (Nat.zero_le _) (C_X12_cookHas hG hW hf (by omega) (by omega) (by omega) (konI ?_))
            refine R_icmp_lt dX12_rests_78 (fun hb78 => ?_) (fun hb78 => ?_)
            · refine R_iconst_0 dX12_rests_92 ?_
              exact topV (v := obI (resP w j (2 * a + b)) (2 * a + b)) (by obtain ⟨y1, y2⟩ := xr_ab a (by omega) b (by omega); first | exact obI_t (by simp [resP, y1, y2]; omega) | exact obI_f (by simp [resP, y1, y2]; omega)) J12
            · refine R_iconst_1 dX12_rests_81 ?_
              refine R_iconst_2 dX12_rests_82 ?_
              refine iL3 dX12_rests_83 ?_
              refine mulV dX12_rests_84 (v := (((2 * a) : Nat) : Int)) (by rw [wid (by omega) (by omega)]; omega) ?_
              refine iL4 dX12_rests_85 ?_
              refine addV dX12_rests_87 (v := ((((2 * a) + b) : Nat) : Int)) (by rw [wid (by omega) (by omega)]; omega) ?_
              refine topV (v := (((2 * a + b) : Nat) : Int)) (by omega) ?_
              refine R_ishl dX12_rests_88 ?_
              refine R_goto dX12_rests_89 ?_
              exact topV (v := obI (resP w j (2 * a + b)) (2 * a + b)) (by obtain ⟨y1, y2⟩ := xr_ab a (by omega) b (by omega); first | exact obI_t (by simp [resP, y1, y2]; omega) | exact obI_f (by simp [resP, y1, y2]; omega)) J12
        refine R_ior dX12_rests_93 ?_
        refine iS2 dX12_rests_94 ?_
        refine iInc4 dX12_rests_95 (winc (by omega)) ?_
        refine R_goto dX12_rests_98 ?_
        exact eqI2 (by rw [show 2 * a + (b + 1) = 2 * a + b + 1 by omega]; exact bset_ob) (ihb (by omega))
  · have hPX := hPE11 hb15
    refine R_iconst_0 dX12_rests_18 ?_
    exact R_iret dX12_rests_19 rfl (KE (noB_t hb15) _ hPX)
set_option maxHeartbeats 400000 in
theorem C_X12_hungriest {d : Nat} {g : Gs} {h : Hc} {P : Po} {M : Nat} {w : Nat → Int} (hG : MdG g M) (hW : h (M + 1) = w) (hf : WF w) (K0 : ∀ h', Mp M h h' 0 → P (.inl (some (vI (amx (fun _ => true) (fun j => w (80 + 4 * j)) (w 0).toNat)))) g h') : Call (d + 3) 0 0 mX12_hungriest [vR M] g h P := by
  have hcs := hf.cas
  have hjd := hf.jud
  have hho := hf.hou
  refine Call_of rfl ⟨by decide +kernel, rfl⟩ (Nat.le_of_ble_eq_true rfl) rfl ?_
  refine aL0 dX12_hungriest_0 ?_
  refine R_iconst_0 dX12_hungriest_1 ?_
  refine R_putI dX12_hungriest_2 fX12_3 hG.o ?_
  refine storH (fun h1 e1 => ?_)
  have hP : Mp M h h1 0 := by rw [e1]; exact Mp.i h M
  replace hW : h1 (M + 1) = w := hP.w hW
  have hQ : Mz M h1 h1 := Mz.rf _ _
  refine R_iconst_m1 dX12_hungriest_5 ?_
  refine iS1 dX12_hungriest_6 ?_
  refine R_iconst_0 dX12_hungriest_7 ?_
  refine iS2 dX12_hungriest_8 ?_
  refine loopN ((w 0).toNat) (fun q => Run (d + 3) 0 0 mX12_hungriest 9 [vR M, vI (amx (fun _ => true) (fun j => w (80 + 4 * j)) q), vI ((q : Nat) : Int)] [] g h1 P) (fun q hcnq ihq => ?_) (0) (Nat.zero_le _)
  have har := amx_lt (fun _ => true) (fun j => w (80 + 4 * j)) q
  refine iL2 dX12_hungriest_9 ?_
  refine aL0 dX12_hungriest_10 ?_
  refine invV0 rfl dX12_hungriest_11 kX12_98 hG.o (Nat.le_of_ble_eq_true rfl) (Nat.zero_le _) (Nat.zero_le _) (C_X12_judges hG hW hf (konI ?_))
  have hjd := hf.jud
  refine R_icmp_ge dX12_hungriest_14 (fun hb14 => ?_) (fun hb14 => ?_)
  · have e9 : q = (w 0).toNat := by omega
    subst e9
    refine iL1 dX12_hungriest_45 ?_
    exact R_iret dX12_hungriest_46 rfl (K0 _ (hP.q hQ))
  · refine iL1 dX12_hungriest_17 ?_
    refine R_iconst_m1 dX12_hungriest_18 ?_
    refine R_icmp_eq dX12_hungriest_19 (fun hb19 => ?_) (fun hb19 => ?_)
    · refine iL2 dX12_hungriest_37 ?_
      refine iS1 dX12_hungriest_38 ?_
      refine iInc2 dX12_hungriest_39 (winc (by omega)) ?_
      refine R_goto dX12_hungriest_42 ?_
      exact eqI1 (by rw [amx_s]; first | (rw [if_pos ⟨rfl, by omega⟩]; done) | (rw [if_neg (fun h9 => by omega)]; done)) (ihq (by omega))
    · refine aL0 dX12_hungriest_22 ?_
      refine iL2 dX12_hungriest_23 ?_
      refine R_iconst_0 dX12_hungriest_24 ?_
      refine invV2 rfl dX12_hungriest_25 kX12_280 hG.o (Nat.le_of_ble_eq_true rfl) (Nat.zero_le _) (Nat.zero_le _) (C_X12_ofJudge hG hW (b := 0) (i := 80 + 4 * q) (by omega) (by omega) (konI ?_))
      have hq11 := hf.hu (j := q) (by omega)
      refine aL0 dX12_hungriest_28 ?_
      refine iL1 dX12_hungriest_29 ?_
      refine topV (v := (((amx (fun _ => true) (fun j => w (80 + 4 * j)) q).toNat : Nat) : Int)) (by omega) ?_
      refine R_iconst_0 dX12_hungriest_30 ?_
      refine invV2 rfl dX12_hungriest_31 kX12_280 hG.o (Nat.le_of_ble_eq_true rfl) (Nat.zero_le _) (Nat.zero_le _) (C_X12_ofJudge hG hW (b := 0) (i := 80 + 4 * (amx (fun _ => true) (fun j => w (80 + 4 * j)) q).toNat) (by omega) (by omega) (konI ?_))
      have hq12 := hf.hu (j := (amx (fun _ => true) (fun j => w (80 + 4 * j)) q).toNat) (by omega)
      refine R_icmp_le dX12_hungriest_34 (fun hb34 => ?_) (fun hb34 => ?_)
      · refine iInc2 dX12_hungriest_39 (winc (by omega)) ?_
        refine R_goto dX12_hungriest_42 ?_
        exact eqI1 (by rw [amx_s]; first | (rw [if_pos ⟨rfl, by omega⟩]; done) | (rw [if_neg (fun h9 => by omega)]; done)) (ihq (by omega))
      · refine iL2 dX12_hungriest_37 ?_
        refine iS1 dX12_hungriest_38 ?_
        refine iInc2 dX12_hungriest_39 (winc (by omega)) ?_
        refine R_goto dX12_hungriest_42 ?_
        exact eqI1 (by rw [amx_s]; first | (rw [if_pos ⟨rfl, by omega⟩]; done) | (rw [if_neg (fun h9 => by omega)]; done)) (ihq (by omega))
set_option maxHeartbeats 400000 in
theorem C_X12_gravest {d : Nat} {g : Gs} {h : Hc} {P : Po} {M : Nat} {w : Nat → Int} (hG : MdG g M) (hW : h (M + 1) = w) (hf : WF w) (K0 : ∀ h', Mp M h h' 0 → P (.inl (some (vI (amx (fun c => decide (w (104 + 7 * c) = 0)) (fun c => w (101 + 7 * c)) (w 1).toNat)))) g h') : Call (d + 3) 0 0 mX12_gravest [vR M] g h P := by
  have hcs := hf.cas
  have hjd := hf.jud
  have hho := hf.hou
  refine Call_of rfl ⟨by decide +kernel, rfl⟩ (Nat.le_of_ble_eq_true rfl) rfl ?_
  refine aL0 dX12_gravest_0 ?_
  refine R_iconst_0 dX12_gravest_1 ?_
  refine R_putI dX12_gravest_2 fX12_3 hG.o ?_
  refine storH (fun h1 e1 => ?_)
  have hP : Mp M h h1 0 := by rw [e1]; exact Mp.i h M
  replace hW : h1 (M + 1) = w := hP.w hW
  have hQ : Mz M h1 h1 := Mz.rf _ _
  refine R_iconst_m1 dX12_gravest_5 ?_
  refine iS1 dX12_gravest_6 ?_
  refine R_iconst_0 dX12_gravest_7 ?_
  refine iS2 dX12_gravest_8 ?_
  refine loopN ((w 1).toNat) (fun q => Run (d + 3) 0 0 mX12_gravest 9 [vR M, vI (amx (fun c => decide (w (104 + 7 * c) = 0)) (fun c => w (101 + 7 * c)) q), vI ((q : Nat) : Int)] [] g h1 P) (fun q hcnq ihq => ?_) (0) (Nat.zero_le _)
  have har := amx_lt (fun c => decide (w (104 + 7 * c) = 0)) (fun c => w (101 + 7 * c)) q
  refine iL2 dX12_gravest_9 ?_
  refine aL0 dX12_gravest_10 ?_
  refine invV0 rfl dX12_gravest_11 kX12_90 hG.o (Nat.le_of_ble_eq_true rfl) (Nat.zero_le _) (Nat.zero_le _) (C_X12_cases hG hW hf (konI ?_))
  have hcs := hf.cas
  refine R_icmp_ge dX12_gravest_14 (fun hb14 => ?_) (fun hb14 => ?_)
  · have e9 : q = (w 1).toNat := by omega
    subst e9
    refine iL1 dX12_gravest_53 ?_
    exact R_iret dX12_gravest_54 rfl (K0 _ (hP.q hQ))
  · refine aL0 dX12_gravest_17 ?_
    refine iL2 dX12_gravest_18 ?_
    refine invV1 rfl dX12_gravest_19 kX12_321 hG.o (Nat.le_of_ble_eq_true rfl) (Nat.zero_le _) (Nat.zero_le _) (C_X12_isWaiting hG hW hf (by omega) (konI ?_))
    refine R_ifB_eq dX12_gravest_22 (fun hb22 => ?_) (fun hb22 => ?_)
    · refine iInc2 dX12_gravest_47 (winc (by omega)) ?_
      refine R_goto dX12_gravest_50 ?_
      exact eqI1 (by rw [amx_s]; first | (rw [if_neg (fun h9 => by simp at h9 hb22; omega)]; done) | (rw [if_pos ⟨by simpa using hb22, by omega⟩]; done)) (ihq (by omega))
    · refine iL1 dX12_gravest_25 ?_
      refine R_iconst_m1 dX12_gravest_26 ?_
      refine R_icmp_eq dX12_gravest_27 (fun hb27 => ?_) (fun hb27 => ?_)
      · refine iL2 dX12_gravest_45 ?_
        refine iS1 dX12_gravest_46 ?_
        refine iInc2 dX12_gravest_47 (winc (by omega)) ?_
        refine R_goto dX12_gravest_50 ?_
        exact eqI1 (by rw [amx_s]; first | (rw [if_neg (fun h9 => by simp at h9 hb22; omega)]; done) | (rw [if_pos ⟨by simpa using hb22, by omega⟩]; done)) (ihq (by omega))
      · refine aL0 dX12_gravest_30 ?_
        refine iL2 dX12_gravest_31 ?_
        refine R_iconst_1 dX12_gravest_32 ?_
        refine invV2 rfl dX12_gravest_33 kX12_87 hG.o (Nat.le_of_ble_eq_true rfl) (Nat.zero_le _) (Nat.zero_le _) (C_X12_of hG hW (b := 1) (i := 101 + 7 * q) (by omega) (by omega) (konI ?_))
        have hq11 := hf.gr (c := q) (by omega)
        refine aL0 dX12_gravest_36 ?_
        refine iL1 dX12_gravest_37 ?_
        refine topV (v := (((amx (fun c => decide (w (104 + 7 * c) = 0)) (fun c => w (101 + 7 * c)) q).toNat : Nat) : Int)) (by omega) ?_
        refine R_iconst_1 dX12_gravest_38 ?_
        refine invV2 rfl dX12_gravest_39 kX12_87 hG.o (Nat.le_of_ble_eq_true rfl) (Nat.zero_le _) (Nat.zero_le _) (C_X12_of hG hW (b := 1) (i := 101 + 7 * (amx (fun c => decide (w (104 + 7 * c) = 0)) (fun c => w (101 + 7 * c)) q).toNat) (by omega) (by omega) (konI ?_))
        have hq12 := hf.gr (c := (amx (fun c => decide (w (104 + 7 * c) = 0)) (fun c => w (101 + 7 * c)) q).toNat) (by omega)
        refine R_icmp_le dX12_gravest_42 (fun hb42 => ?_) (fun hb42 => ?_)
        · refine iInc2 dX12_gravest_47 (winc (by omega)) ?_
          refine R_goto dX12_gravest_50 ?_
          exact eqI1 (by rw [amx_s]; first | (rw [if_neg (fun h9 => by simp at h9 hb22; omega)]; done) | (rw [if_pos ⟨by simpa using hb22, by omega⟩]; done)) (ihq (by omega))
        · refine iL2 dX12_gravest_45 ?_
          refine iS1 dX12_gravest_46 ?_
          refine iInc2 dX12_gravest_47 (winc (by omega)) ?_
          refine R_goto dX12_gravest_50 ?_
          exact eqI1 (by rw [amx_s]; first | (rw [if_neg (fun h9 => by simp at h9 hb22; omega)]; done) | (rw [if_pos ⟨by simpa using hb22, by omega⟩]; done)) (ihq (by omega))
set_option maxHeartbeats 400000 in
theorem C_X12_kind {d : Nat} {g : Gs} {h : Hc} {P : Po} {M : Nat} {w : Nat → Int} (hG : MdG g M) (hW : h (M + 1) = w) (hf : WF w) {x : Int} (KE : ¬ (0 ≤ x ∧ x < 6) → ∀ h', Mp M h h' 1 → P (.inl (some (vI 0))) g h') (K0 : 0 ≤ x ∧ x < 6 → ∀ h', Mp M h h' 0 → P (.inl (some (vI (bset (kinP w x) (w 1).toNat)))) g h') : Call (d + 2) 0 0 mX12_kind [vR M, vI x] g h P := by
  have hcs := hf.cas
  have hjd := hf.jud
  have hho := hf.hou
  refine Call_of rfl ⟨by decide +kernel, rfl⟩ (Nat.le_of_ble_eq_true rfl) rfl ?_
  refine aL0 dX12_kind_0 ?_
  refine R_iconst_0 dX12_kind_1 ?_
  refine R_putI dX12_kind_2 fX12_3 hG.o ?_
  refine storH (fun h1 e1 => ?_)
  have hP : Mp M h h1 0 := by rw [e1]; exact Mp.i h M
  replace hW : h1 (M + 1) = w := hP.w hW
  have hQ : Mz M h1 h1 := Mz.rf _ _
  refine aL0 dX12_kind_5 ?_
  suffices J11 : Run (d + 2) 0 0 mX12_kind 20 [vR M, vI x, vU, vU] [vI (bI (noB x 6)), vR M] g h1 P by
    refine iL1 dX12_kind_6 ?_
    refine R_iconst_0 dX12_kind_7 ?_
    refine R_iconst_5 dX12_kind_8 ?_
    refine invS3 rfl dX12_kind_9 kX12_101 (Nat.le_of_ble_eq_true rfl) (Nat.zero_le _) (Nat.zero_le _) (C_X12_in (konI ?_))
    refine R_ifB_ne dX12_kind_12 (fun hb12 => ?_) (fun hb12 => ?_)
    · refine R_iconst_0 dX12_kind_19 ?_
      exact topV (v := bI (noB x 6)) (by first | (rw [bI_t (by simp at hb12; simp [noB]; omega)]; done) | (rw [bI_f (by simp at hb12; simp [noB]; omega)]; done)) J11
    · refine R_iconst_1 dX12_kind_15 ?_
      refine R_goto dX12_kind_16 ?_
      exact topV (v := bI (noB x 6)) (by first | (rw [bI_t (by simp at hb12; simp [noB]; omega)]; done) | (rw [bI_f (by simp at hb12; simp [noB]; omega)]; done)) J11
  refine R_iconst_1 dX12_kind_20 ?_
  refine invV2 rfl dX12_kind_21 kX12_274 hG.o (Nat.le_of_ble_eq_true rfl) (Nat.zero_le _) (Nat.zero_le _) (C_X12_throwsIf hG (fun h12 hth12 => konI ?_))
  have hPE12 : ∀ hbb : (noB x 6) = true, Mp M h h12 1 := fun hbb => hth12.t (hP.q hQ) hbb
  have hQE12 : ∀ hbb : (noB x 6) = false, Mz M h1 h12 := fun hbb => hth12.q hQ hbb
  have hWE12 : ∀ hbb : (noB x 6) = false, h12 (M + 1) = w := fun hbb => hth12.w hW hbb
  refine R_ifB_eq dX12_kind_24 (fun hb24 => ?_) (fun hb24 => ?_)
  · replace hQ := hQE12 hb24
    replace hW := hWE12 hb24
    have hx1 := noB_f hb24
    refine R_iconst_0 dX12_kind_29 ?_
    refine iS2 dX12_kind_30 ?_
    refine R_iconst_0 dX12_kind_31 ?_
    refine iS3 dX12_kind_32 ?_
    refine loopN ((w 1).toNat) (fun q => Run (d + 2) 0 0 mX12_kind 33 [vR M, vI x, vI (bset (kinP w x) q), vI ((q : Nat) : Int)] [] g h12 P) (fun q hcnq ihq => ?_) (0) (Nat.zero_le _)
    refine iL3 dX12_kind_33 ?_
    refine aL0 dX12_kind_34 ?_
    refine invV0 rfl dX12_kind_35 kX12_90 hG.o (Nat.le_of_ble_eq_true rfl) (Nat.zero_le _) (Nat.zero_le _) (C_X12_cases hG hW hf (konI ?_))
    have hcs := hf.cas
    refine R_icmp_ge dX12_kind_38 (fun hb38 => ?_) (fun hb38 => ?_)
    · have e9 : q = (w 1).toNat := by omega
      subst e9
      refine iL2 dX12_kind_67 ?_
      exact R_iret dX12_kind_68 rfl (K0 (by omega) _ (hP.q hQ))
    · refine iL2 dX12_kind_41 ?_
      suffices J13 : Run (d + 2) 0 0 mX12_kind 59 [vR M, vI x, vI (bset (kinP w x) q), vI ((q : Nat) : Int)] [vI (obI (kinP w x q) q), vI (bset (kinP w x) q)] g h12 P by
        refine aL0 dX12_kind_42 ?_
        refine iL3 dX12_kind_43 ?_
        refine R_iconst_0 dX12_kind_44 ?_
        refine invV2 rfl dX12_kind_45 kX12_87 hG.o (Nat.le_of_ble_eq_true rfl) (Nat.zero_le _) (Nat.zero_le _) (C_X12_of hG hW (b := 0) (i := 100 + 7 * q) (by omega) (by omega) (konI ?_))
        have hq14 := hf.ki (c := q) (by omega)
        refine iL1 dX12_kind_48 ?_
        refine R_icmp_ne dX12_kind_49 (fun hb49 => ?_) (fun hb49 => ?_)
        · refine R_iconst_0 dX12_kind_58 ?_
          exact topV (v := obI (kinP w x q) q) (by first | exact obI_t (by simp [kinP]; omega) | exact obI_f (by simp [kinP]; omega)) J13
        · refine R_iconst_1 dX12_kind_52 ?_
          refine iL3 dX12_kind_53 ?_
          refine R_ishl dX12_kind_54 ?_
          refine R_goto dX12_kind_55 ?_
          exact topV (v := obI (kinP w x q) q) (by first | exact obI_t (by simp [kinP]; omega) | exact obI_f (by simp [kinP]; omega)) J13
      refine R_ior dX12_kind_59 ?_
      refine iS2 dX12_kind_60 ?_
      refine iInc3 dX12_kind_61 (winc (by omega)) ?_
      refine R_goto dX12_kind_64 ?_
      exact eqI2 (bset_ob) (ihq (by omega))
  · have hPX := hPE12 hb24
    refine R_iconst_0 dX12_kind_27 ?_
    exact R_iret dX12_kind_28 rfl (KE (noB_t hb24) _ hPX)
set_option maxHeartbeats 400000 in
theorem C_X12_state {d : Nat} {g : Gs} {h : Hc} {P : Po} {M : Nat} {w : Nat → Int} (hG : MdG g M) (hW : h (M + 1) = w) (hf : WF w) {x : Int} (KE : ¬ (0 ≤ x ∧ x ≤ 3) → ∀ h', Mp M h h' 1 → P (.inl (some (vI 0))) g h') (K0 : 0 ≤ x ∧ x ≤ 3 → ∀ h', Mp M h h' 0 → P (.inl (some (vI (inSt w x)))) g h') : Call (d + 3) 0 0 mX12_state [vR M, vI x] g h P := by
  have hcs := hf.cas
  have hjd := hf.jud
  have hho := hf.hou
  refine Call_of rfl ⟨by decide +kernel, rfl⟩ (Nat.le_of_ble_eq_true rfl) rfl ?_
  refine aL0 dX12_state_0 ?_
  refine R_iconst_0 dX12_state_1 ?_
  refine R_putI dX12_state_2 fX12_3 hG.o ?_
  refine storH (fun h1 e1 => ?_)
  have hP : Mp M h h1 0 := by rw [e1]; exact Mp.i h M
  replace hW : h1 (M + 1) = w := hP.w hW
  have hQ : Mz M h1 h1 := Mz.rf _ _
  refine aL0 dX12_state_5 ?_
  suffices J11 : Run (d + 3) 0 0 mX12_state 20 [vR M, vI x] [vI (bI (noB x 4)), vR M] g h1 P by
    refine iL1 dX12_state_6 ?_
    refine R_iconst_0 dX12_state_7 ?_
    refine R_iconst_3 dX12_state_8 ?_
    refine invS3 rfl dX12_state_9 kX12_101 (Nat.le_of_ble_eq_true rfl) (Nat.zero_le _) (Nat.zero_le _) (C_X12_in (konI ?_))
    refine R_ifB_ne dX12_state_12 (fun hb12 => ?_) (fun hb12 => ?_)
    · refine R_iconst_0 dX12_state_19 ?_
      exact topV (v := bI (noB x 4)) (by first | (rw [bI_t (by simp at hb12; simp [noB]; omega)]; done) | (rw [bI_f (by simp at hb12; simp [noB]; omega)]; done)) J11
    · refine R_iconst_1 dX12_state_15 ?_
      refine R_goto dX12_state_16 ?_
      exact topV (v := bI (noB x 4)) (by first | (rw [bI_t (by simp at hb12; simp [noB]; omega)]; done) | (rw [bI_f (by simp at hb12; simp [noB]; omega)]; done)) J11
  refine R_iconst_1 dX12_state_20 ?_
  refine invV2 rfl dX12_state_21 kX12_274 hG.o (Nat.le_of_ble_eq_true rfl) (Nat.zero_le _) (Nat.zero_le _) (C_X12_throwsIf hG (fun h12 hth12 => konI ?_))
  have hPE12 : ∀ hbb : (noB x 4) = true, Mp M h h12 1 := fun hbb => hth12.t (hP.q hQ) hbb
  have hQE12 : ∀ hbb : (noB x 4) = false, Mz M h1 h12 := fun hbb => hth12.q hQ hbb
  have hWE12 : ∀ hbb : (noB x 4) = false, h12 (M + 1) = w := fun hbb => hth12.w hW hbb
  refine R_ifB_eq dX12_state_24 (fun hb24 => ?_) (fun hb24 => ?_)
  · replace hQ := hQE12 hb24
    replace hW := hWE12 hb24
    have hx1 := noB_f hb24
    refine aL0 dX12_state_31 ?_
    refine iL1 dX12_state_32 ?_
    refine invV1 rfl dX12_state_33 kX12_337 hG.o (Nat.le_of_ble_eq_true rfl) (Nat.zero_le _) (Nat.zero_le _) (C_X12_inState hG hW hf (konI ?_))
    exact R_iret dX12_state_36 rfl (K0 (by omega) _ (hP.q hQ))
  · have hPX := hPE12 hb24
    refine R_iconst_0 dX12_state_27 ?_
    refine R_goto dX12_state_28 ?_
    exact R_iret dX12_state_36 rfl (KE (fun h9 => noB_t hb24 (by omega)) _ hPX)
set_option maxHeartbeats 400000 in
theorem C_X12_waiting {d : Nat} {g : Gs} {h : Hc} {P : Po} {M : Nat} {w : Nat → Int} (hG : MdG g M) (hW : h (M + 1) = w) (hf : WF w) (K : P (.inl (some (vI (inSt w 0)))) g h) : Call (d + 3) 0 0 mX12_waiting [vR M] g h P := by
  refine Call_of rfl ⟨by decide +kernel, rfl⟩ (Nat.le_of_ble_eq_true rfl) rfl ?_
  refine aL0 dX12_waiting_0 ?_
  refine R_iconst_0 dX12_waiting_1 ?_
  refine invV1 rfl dX12_waiting_2 kX12_337 hG.o (Nat.le_of_ble_eq_true rfl) (Nat.zero_le _) (Nat.zero_le _) (C_X12_inState hG hW hf (konI ?_))
  exact R_iret dX12_waiting_5 rfl (K)
