set_option maxHeartbeats 400000 in
theorem C_X10_leaningOn {d : Nat} {g : Gs} {h : Hc} {P : Po} {t : Nat} {w : Nat → Int} (hT : TwG g t) (hw : Tw h t w) (hf : WF w) {x : Nat} (hx : (x : Int) < w 1) (K : P (.inl (some (vI (leanOn w x)))) g h) : Call (d + 0) 0 0 mX10_leaningOn [vR t, vI ((x : Nat) : Int)] g h P := by
  have hcs := hf.cas
  have hho := hf.hou
  have hjd := hf.jud
  refine Call_of rfl ⟨by decide +kernel, rfl⟩ (Nat.le_of_ble_eq_true rfl) rfl ?_
  refine R_iconst_1 dX10_leaningOn_0 ?_
  refine iL1 dX10_leaningOn_1 ?_
  refine R_ishl dX10_leaningOn_2 ?_
  refine iS2 dX10_leaningOn_3 ?_
  refine iL1 dX10_leaningOn_4 ?_
  refine R_iconst_1 dX10_leaningOn_5 ?_
  refine addV dX10_leaningOn_6 (v := (((x + 1) : Nat) : Int)) (by rw [wid (by omega) (by omega)]; omega) ?_
  refine iS3 dX10_leaningOn_7 ?_
  refine eqI2 (leanF_c (w := w) (n := x + 1) (by omega)).symm ?_
  refine loopN ((w 1).toNat) (fun c => x < c → Run (d + 0) 0 0 mX10_leaningOn 8 [vR t, vI ((x : Nat) : Int), vI (leanF w x c), vI ((c : Nat) : Int)] [] g h P) (fun c hcnc ihc hxc => ?_) (x + 1) (by omega) (by omega)
  refine iL3 dX10_leaningOn_8 ?_
  refine aL0 dX10_leaningOn_9 ?_
  refine R_getI dX10_leaningOn_10 fX10_15.r hT.o ?_
  refine topV (v := w 1) (hw.s1) ?_
  have hq1 := hf.cas
  refine R_icmp_ge dX10_leaningOn_13 (fun hb13 => ?_) (fun hb13 => ?_)
  · have e9 : c = (w 1).toNat := by omega
    subst e9
    refine iL2 dX10_leaningOn_50 ?_
    exact R_iret dX10_leaningOn_51 rfl (K)
  · refine aL0 dX10_leaningOn_16 ?_
    refine R_getR dX10_leaningOn_17 fX10_52.r hT.o rfl ?_
    refine iL3 dX10_leaningOn_20 ?_
    refine ialdN dX10_leaningOn_21 hT.a8 rfl (by omega) ?_
    refine topV (v := w (103 + 7 * c)) (hw.a8 (by omega)) ?_
    have hq2 := hf.on (c := c) (by omega)
    refine R_if_lt dX10_leaningOn_22 (fun hb22 => ?_) (fun hb22 => ?_)
    · refine iInc3 dX10_leaningOn_44 (winc (by omega)) ?_
      refine R_goto dX10_leaningOn_47 ?_
      exact eqI2 (by first | (rw [leanF_f (by simp [leanP]; omega)]; done) | (rw [leanF_f (by simp [leanP]; intros; exact hb35)]; done) | (rw [leanF_t (by simp [leanP]; exact ⟨by omega, by omega, hb35⟩)]; done)) (ihc (by omega) (by omega))
    · refine iL2 dX10_leaningOn_25 ?_
      refine aL0 dX10_leaningOn_26 ?_
      refine R_getR dX10_leaningOn_27 fX10_52.r hT.o rfl ?_
      refine iL3 dX10_leaningOn_30 ?_
      refine ialdN dX10_leaningOn_31 hT.a8 rfl (by omega) ?_
      refine topV (v := w (103 + 7 * c)) (hw.a8 (by omega)) ?_
      have hq3 := hf.on (c := c) (by omega)
      refine topV (v := (((w (103 + 7 * c)).toNat : Nat) : Int)) (by omega) ?_
      refine R_ishr dX10_leaningOn_32 ?_
      refine R_iconst_1 dX10_leaningOn_33 ?_
      refine R_iand dX10_leaningOn_34 ?_
      refine topV (bitB (by omega)) ?_
      refine R_ifB_eq dX10_leaningOn_35 (fun hb35 => ?_) (fun hb35 => ?_)
      · refine iInc3 dX10_leaningOn_44 (winc (by omega)) ?_
        refine R_goto dX10_leaningOn_47 ?_
        exact eqI2 (by first | (rw [leanF_f (by simp [leanP]; omega)]; done) | (rw [leanF_f (by simp [leanP]; intros; exact hb35)]; done) | (rw [leanF_t (by simp [leanP]; exact ⟨by omega, by omega, hb35⟩)]; done)) (ihc (by omega) (by omega))
      · refine iL2 dX10_leaningOn_38 ?_
        refine R_iconst_1 dX10_leaningOn_39 ?_
        refine iL3 dX10_leaningOn_40 ?_
        refine R_ishl dX10_leaningOn_41 ?_
        refine R_ior dX10_leaningOn_42 ?_
        refine iS2 dX10_leaningOn_43 ?_
        refine iInc3 dX10_leaningOn_44 (winc (by omega)) ?_
        refine R_goto dX10_leaningOn_47 ?_
        exact eqI2 (by first | (rw [leanF_f (by simp [leanP]; omega)]; done) | (rw [leanF_f (by simp [leanP]; intros; exact hb35)]; done) | (rw [leanF_t (by simp [leanP]; exact ⟨by omega, by omega, hb35⟩)]; done)) (ihc (by omega) (by omega))
theorem chF_neg {w : Nat → Int} {c : Int} (h : c < 0) : ∀ k, chF w k c = 0
  | 0 => rfl
  | k + 1 => by unfold chF; rw [if_pos h]
theorem chF_pos {w : Nat → Int} {c : Int} (h : 0 ≤ c) (k : Nat) : chF w (k + 1) c = chF w k (w (103 + 7 * c.toNat)) + 1 := by
  show (if c < 0 then 0 else _) = _
  rw [if_neg (by omega)]
theorem chF_le (w : Nat → Int) : ∀ k c, chF w k c ≤ k
  | 0, _ => Nat.le_refl _
  | k + 1, c => by
    by_cases h : c < 0
    · rw [chF_neg h]; omega
    · rw [chF_pos (by omega)]; have := chF_le w k (w (103 + 7 * c.toNat)); omega
set_option maxHeartbeats 400000 in
theorem C_X10_chainTo {d : Nat} {g : Gs} {h : Hc} {P : Po} {t : Nat} {w : Nat → Int} (hT : TwG g t) (hw : Tw h t w) (hf : WF w) {x : Nat} (hx : (x : Int) < w 1) (K : P (.inl (some (vI ((chF w 8 (x : Int) : Nat) : Int)))) g h) : Call (d + 0) 0 0 mX10_chainTo [vR t, vI ((x : Nat) : Int)] g h P := by
  have hcs := hf.cas
  have hho := hf.hou
  have hjd := hf.jud
  refine Call_of rfl ⟨by decide +kernel, rfl⟩ (Nat.le_of_ble_eq_true rfl) rfl ?_
  refine R_iconst_0 dX10_chainTo_0 ?_
  refine iS2 dX10_chainTo_1 ?_
  refine iL1 dX10_chainTo_2 ?_
  refine iS3 dX10_chainTo_3 ?_
  refine loopN (8) (fun c => ∀ y : Int, -1 ≤ y → y < w 1 → c + chF w (8 - c) y = chF w 8 (x : Int) → Run (d + 0) 0 0 mX10_chainTo 4 [vR t, vI ((x : Nat) : Int), vI ((c : Nat) : Int), vI y] [] g h P) (fun c hcnc ihc y hy1 hy2 hy3 => ?_) (0) (Nat.zero_le _) (x : Int) (by omega) hx (by simp)
  refine iL3 dX10_chainTo_4 ?_
  refine R_if_lt dX10_chainTo_5 (fun hb5 => ?_) (fun hb5 => ?_)
  · refine iL2 dX10_chainTo_27 ?_
    exact R_iret dX10_chainTo_28 rfl (PeqI K (by have := chF_le w (8 - c) y; first | (rw [← hy3, show 8 - c = 0 by omega]; simp [chF]; done) | (rw [← hy3, chF_neg (by omega)]; simp)))
  · refine iL2 dX10_chainTo_8 ?_
    refine R_bipush dX10_chainTo_9 (by decide) ?_
    refine R_icmp_ge dX10_chainTo_11 (fun hb11 => ?_) (fun hb11 => ?_)
    · refine iL2 dX10_chainTo_27 ?_
      exact R_iret dX10_chainTo_28 rfl (PeqI K (by have := chF_le w (8 - c) y; first | (rw [← hy3, show 8 - c = 0 by omega]; simp [chF]; done) | (rw [← hy3, chF_neg (by omega)]; simp)))
    · refine iInc2 dX10_chainTo_14 (winc (by omega)) ?_
      refine aL0 dX10_chainTo_17 ?_
      refine R_getR dX10_chainTo_18 fX10_52.r hT.o rfl ?_
      refine iL3 dX10_chainTo_21 ?_
      refine topV (v := ((y.toNat : Nat) : Int)) (by omega) ?_
      refine ialdN dX10_chainTo_22 hT.a8 rfl (by omega) ?_
      refine topV (v := w (103 + 7 * y.toNat)) (hw.a8 (by omega)) ?_
      have hq1 := hf.on (c := y.toNat) (by omega)
      refine iS3 dX10_chainTo_23 ?_
      refine R_goto dX10_chainTo_24 ?_
      exact ihc (by omega) _ (by omega) (by have := hf.lea y.toNat (by omega); omega) (by rw [← hy3, show 8 - c = (8 - (c + 1)) + 1 by omega, chF_pos (by omega)]; omega)
set_option maxHeartbeats 400000 in
theorem C_X10_crumbling {d : Nat} {g : Gs} {h : Hc} {P : Po} {t : Nat} {w : Nat → Int} (hT : TwG g t) (hw : Tw h t w) (hf : WF w) {x : Int} (K : P (.inl (some (vI (crum w x)))) g h) : Call (d + 1) 0 0 mX10_crumbling [vR t, vI x] g h P := by
  have hcs := hf.cas
  have hho := hf.hou
  have hjd := hf.jud
  refine Call_of rfl ⟨by decide +kernel, rfl⟩ (Nat.le_of_ble_eq_true rfl) rfl ?_
  refine aL0 dX10_crumbling_0 ?_
  refine R_iconst_1 dX10_crumbling_1 ?_
  refine invV1 rfl dX10_crumbling_2 kX10_101 hT.o (Nat.le_of_ble_eq_true rfl) (Nat.zero_le _) (Nat.zero_le _) (C_X10_inState hT hw hf (konI ?_))
  refine aL0 dX10_crumbling_5 ?_
  refine R_iconst_2 dX10_crumbling_6 ?_
  refine invV1 rfl dX10_crumbling_7 kX10_101 hT.o (Nat.le_of_ble_eq_true rfl) (Nat.zero_le _) (Nat.zero_le _) (C_X10_inState hT hw hf (konI ?_))
  refine R_ior dX10_crumbling_10 ?_
  refine iS2 dX10_crumbling_11 ?_
  refine R_iconst_0 dX10_crumbling_12 ?_
  refine iS3 dX10_crumbling_13 ?_
  refine R_iconst_0 dX10_crumbling_14 ?_
  refine iS4 dX10_crumbling_15 ?_
  refine loopN ((w 1).toNat) (fun c => Run (d + 1) 0 0 mX10_crumbling 17 [vR t, vI x, vI (orI (inSt w 1) (inSt w 2)), vI (crumF w x c), vI ((c : Nat) : Int)] [] g h P) (fun c hcnc ihc => ?_) (0) (Nat.zero_le _)
  refine iL4 dX10_crumbling_17 ?_
  refine aL0 dX10_crumbling_19 ?_
  refine R_getI dX10_crumbling_20 fX10_15.r hT.o ?_
  refine topV (v := w 1) (hw.s1) ?_
  have hq1 := hf.cas
  refine R_icmp_ge dX10_crumbling_23 (fun hb23 => ?_) (fun hb23 => ?_)
  · have e9 : c = (w 1).toNat := by omega
    subst e9
    refine iL3 dX10_crumbling_75 ?_
    refine iL2 dX10_crumbling_76 ?_
    refine R_iand dX10_crumbling_77 ?_
    exact R_iret dX10_crumbling_78 rfl (K)
  · refine iL2 dX10_crumbling_26 ?_
    refine iL4 dX10_crumbling_27 ?_
    refine R_ishr dX10_crumbling_29 ?_
    refine R_iconst_1 dX10_crumbling_30 ?_
    refine R_iand dX10_crumbling_31 ?_
    refine topV (bitB (by omega)) ?_
    refine R_ifB_eq dX10_crumbling_32 (fun hb32 => ?_) (fun hb32 => ?_)
    · refine iInc4 dX10_crumbling_69 (winc (by omega)) ?_
      refine R_goto dX10_crumbling_72 ?_
      exact eqI3 (by first | (rw [crumF_f (by simp [crumP]; omega)]; done) | (rw [crumF_f (by rw [tb_found (by omega) (by omega)] at hb32; simp [crumP, hb32])]; done) | (rw [crumF_t (by rw [tb_found (by omega) (by omega)] at hb32; simp [crumP, hb32]; omega)]; done)) (ihc (by omega))
    · refine aL0 dX10_crumbling_35 ?_
      refine R_getR dX10_crumbling_36 fX10_58.r hT.o rfl ?_
      refine iL4 dX10_crumbling_39 ?_
      refine ialdN dX10_crumbling_41 hT.a10 rfl (by omega) ?_
      refine topV (v := w (105 + 7 * c)) (hw.a10 (by omega)) ?_
      have hq2 := hf.by_ (c := c) (by omega)
      refine iL1 dX10_crumbling_42 ?_
      refine R_icmp_ne dX10_crumbling_43 (fun hb43 => ?_) (fun hb43 => ?_)
      · refine iInc4 dX10_crumbling_69 (winc (by omega)) ?_
        refine R_goto dX10_crumbling_72 ?_
        exact eqI3 (by first | (rw [crumF_f (by simp [crumP]; omega)]; done) | (rw [crumF_f (by rw [tb_found (by omega) (by omega)] at hb32; simp [crumP, hb32])]; done) | (rw [crumF_t (by rw [tb_found (by omega) (by omega)] at hb32; simp [crumP, hb32]; omega)]; done)) (ihc (by omega))
      · refine aL0 dX10_crumbling_46 ?_
        refine R_getR dX10_crumbling_47 fX10_61.r hT.o rfl ?_
        refine iL4 dX10_crumbling_50 ?_
        refine ialdN dX10_crumbling_52 hT.a11 rfl (by omega) ?_
        refine topV (v := w (106 + 7 * c)) (hw.a11 (by omega)) ?_
        have hq3 := hf.dy (c := c) (by omega)
        refine aL0 dX10_crumbling_53 ?_
        refine R_getI dX10_crumbling_54 fX10_24.r hT.o ?_
        refine topV (v := w 5) (hw.s4) ?_
        have hq4 := hf.day
        refine R_icmp_ne dX10_crumbling_57 (fun hb57 => ?_) (fun hb57 => ?_)
        · refine iInc4 dX10_crumbling_69 (winc (by omega)) ?_
          refine R_goto dX10_crumbling_72 ?_
          exact eqI3 (by first | (rw [crumF_f (by simp [crumP]; omega)]; done) | (rw [crumF_f (by rw [tb_found (by omega) (by omega)] at hb32; simp [crumP, hb32])]; done) | (rw [crumF_t (by rw [tb_found (by omega) (by omega)] at hb32; simp [crumP, hb32]; omega)]; done)) (ihc (by omega))
        · refine iL3 dX10_crumbling_60 ?_
          refine aL0 dX10_crumbling_61 ?_
          refine iL4 dX10_crumbling_62 ?_
          refine invV1 rfl dX10_crumbling_64 kX10_104 hT.o (Nat.le_of_ble_eq_true rfl) (Nat.zero_le _) (Nat.zero_le _) (C_X10_leaningOn hT hw hf (by omega) (konI ?_))
          refine R_ior dX10_crumbling_67 ?_
          refine iS3 dX10_crumbling_68 ?_
          refine iInc4 dX10_crumbling_69 (winc (by omega)) ?_
          refine R_goto dX10_crumbling_72 ?_
          exact eqI3 (by first | (rw [crumF_f (by simp [crumP]; omega)]; done) | (rw [crumF_f (by rw [tb_found (by omega) (by omega)] at hb32; simp [crumP, hb32])]; done) | (rw [crumF_t (by rw [tb_found (by omega) (by omega)] at hb32; simp [crumP, hb32]; omega)]; done)) (ihc (by omega))
def stW (w : Nat → Int) (x : Int) : Nat → Int := if 0 ≤ placeOf w x then updW w (20 + (placeOf w x).toNat) (-1) else w
/-- what is found is struck from the first n places -/
def tofW (w : Nat → Int) (n : Nat) : Nat → Int := fun i => if (20 ≤ i ∧ i < 20 + n) ∧ 0 ≤ w i ∧ w (104 + 7 * (w i).toNat) ≠ 0 then -1 else w i
theorem tofW_t {w : Nat → Int} {n : Nat} (h : 0 ≤ w (20 + n) ∧ w (104 + 7 * (w (20 + n)).toNat) ≠ 0) : tofW w (n + 1) = updW (tofW w n) (20 + n) (-1) := by
  funext i
  unfold tofW updW
  dsimp only
  by_cases e : i = 20 + n
  · subst e
    rw [if_pos ⟨by omega, h⟩, if_pos rfl]
  · rw [if_neg e]
    by_cases e2 : 20 ≤ i ∧ i < 20 + n
    · simp [e2]; congr 1; simp; omega
    · rw [if_neg (fun q => by omega), if_neg (fun q => by omega)]
theorem tofW_f {w : Nat → Int} {n : Nat} (h : ¬ (0 ≤ w (20 + n) ∧ w (104 + 7 * (w (20 + n)).toNat) ≠ 0)) : tofW w (n + 1) = tofW w n := by
  funext i
  unfold tofW
  by_cases e : i = 20 + n
  · subst e
    rw [if_neg (fun q => h q.2), if_neg (fun q => by omega)]
  · by_cases e2 : 20 ≤ i ∧ i < 20 + n
    · simp [e2]; congr 1; simp; omega
    · rw [if_neg (fun q => by omega), if_neg (fun q => by omega)]
theorem tofW_0 (w : Nat → Int) : tofW w 0 = w := by
  funext i
  unfold tofW
  rw [if_neg (fun q => by omega)]
theorem tofW_n {w : Nat → Int} {n i : Nat} (h : ¬ (20 ≤ i ∧ i < 20 + n)) : tofW w n i = w i := by
  unfold tofW
  rw [if_neg (fun q => h q.1)]
set_option maxHeartbeats 400000 in
theorem C_X10_takeOff {d : Nat} {g : Gs} {h : Hc} {P : Po} {t : Nat} {w : Nat → Int} (hT : TwG g t) (hw : Tw h t w) {x : Int} (K : ∀ h', Off (fun q => q = t + 12) h h' → Tw h' t (stW w x) → P (.inl none) g h') : Call (d + 1) 0 0 mX10_takeOff [vR t, vI x] g h P := by
  refine Call_of rfl ⟨by decide +kernel, rfl⟩ (Nat.le_of_ble_eq_true rfl) rfl ?_
  refine aL0 dX10_takeOff_0 ?_
  refine iL1 dX10_takeOff_1 ?_
  refine invV1 rfl dX10_takeOff_2 kX10_97 hT.o (Nat.le_of_ble_eq_true rfl) (Nat.zero_le _) (Nat.zero_le _) (C_X10_placeOf hT hw (konI ?_))
  have hpr := placeOf_rng w x
  refine iS2 dX10_takeOff_5 ?_
  refine iL2 dX10_takeOff_6 ?_
  refine R_if_lt dX10_takeOff_7 (fun hb7 => ?_) (fun hb7 => ?_)
  · exact R_vret dX10_takeOff_17 rfl (K _ (Off.rf _ _) (by unfold stW; rw [if_neg (by omega)]; exact hw))
  · refine aL0 dX10_takeOff_10 ?_
    refine R_getR dX10_takeOff_11 fX10_64.r hT.o rfl ?_
    refine iL2 dX10_takeOff_14 ?_
    refine R_iconst_m1 dX10_takeOff_15 ?_
    refine iastN (k := (placeOf w x).toNat) dX10_takeOff_16 hT.a12 (by omega) (by omega) ?_
    exact R_vret dX10_takeOff_17 rfl (K _ ((Off.rf _ _).upd rfl) (by unfold stW; rw [if_pos (by omega)]; exact hw.upl (by omega)))
set_option maxHeartbeats 400000 in
theorem C_X10_putAt {d : Nat} {g : Gs} {h : Hc} {P : Po} {t j k : Nat} {x : Int} (hT : TwG g t) (hj : j < 5) (hk : k < 12) (K : P (.inl none) g (updH h (t + 12) (12 * j + k) x)) : Call (d + 0) 0 0 mX10_putAt [vR t, vI ((j : Nat) : Int), vI ((k : Nat) : Int), vI x] g h P := by
  refine Call_of rfl ⟨by decide +kernel, rfl⟩ (Nat.le_of_ble_eq_true rfl) rfl ?_
  refine aL0 dX10_putAt_0 ?_
  refine R_getR dX10_putAt_1 fX10_64.r hT.o rfl ?_
  refine iL1 dX10_putAt_4 ?_
  refine R_bipush dX10_putAt_5 (by decide) ?_
  refine mulV dX10_putAt_7 (v := (((j * 12) : Nat) : Int)) (by rw [wid (by omega) (by omega)]; omega) ?_
  refine iL2 dX10_putAt_8 ?_
  refine addV dX10_putAt_9 (v := ((((j * 12) + k) : Nat) : Int)) (by rw [wid (by omega) (by omega)]; omega) ?_
  refine topV (v := (((12 * j + k) : Nat) : Int)) (by omega) ?_
  refine iL3 dX10_putAt_10 ?_
  refine iastN dX10_putAt_11 hT.a12 rfl (by omega) ?_
  exact R_vret dX10_putAt_12 rfl (K)
set_option maxHeartbeats 400000 in
theorem C_X10_takeOffAllFound {d : Nat} {g : Gs} {h : Hc} {P : Po} {t : Nat} {w : Nat → Int} (hT : TwG g t) (hw : Tw h t w) (hf : WF w) (K : ∀ h', Off (fun q => q = t + 12) h h' → Tw h' t (tofW w 60) → P (.inl none) g h') : Call (d + 0) 0 0 mX10_takeOffAllFound [vR t] g h P := by
  have hcs := hf.cas
  have hho := hf.hou
  have hjd := hf.jud
  refine Call_of rfl ⟨by decide +kernel, rfl⟩ (Nat.le_of_ble_eq_true rfl) rfl ?_
  refine R_iconst_0 dX10_takeOffAllFound_0 ?_
  refine iS1 dX10_takeOffAllFound_1 ?_
  refine loopN (60) (fun c => ∀ (v2 : AV) (hK : Hc), Off (fun q => q = t + 12) h hK → Tw hK t (tofW w c) → Run (d + 0) 0 0 mX10_takeOffAllFound 2 [vR t, vI ((c : Nat) : Int), v2] [] g hK P) (fun c hcnc ihc v2 hK hOK hwK => ?_) (0) (Nat.zero_le _) _ h (Off.rf _ _) (by rw [tofW_0]; exact hw)
  refine iL1 dX10_takeOffAllFound_2 ?_
  refine R_bipush dX10_takeOffAllFound_3 (by decide) ?_
  refine R_icmp_ge dX10_takeOffAllFound_5 (fun hb5 => ?_) (fun hb5 => ?_)
  · have e9 : c = 60 := by omega
    subst e9
    exact R_vret dX10_takeOffAllFound_41 rfl (K _ hOK hwK)
  · refine aL0 dX10_takeOffAllFound_8 ?_
    refine R_getR dX10_takeOffAllFound_9 fX10_64.r hT.o rfl ?_
    refine iL1 dX10_takeOffAllFound_12 ?_
    refine ialdN dX10_takeOffAllFound_13 hT.a12 rfl (by omega) ?_
    refine topV (v := (tofW w c) (20 + c)) (hwK.a12 (by omega)) ?_
    refine topV (v := w (20 + c)) (tofW_n (by omega)) ?_
    have hpl := hf.pla c (by omega)
    refine iS2 dX10_takeOffAllFound_14 ?_
    refine iL2 dX10_takeOffAllFound_15 ?_
    refine R_if_lt dX10_takeOffAllFound_16 (fun hb16 => ?_) (fun hb16 => ?_)
    · refine iInc1 dX10_takeOffAllFound_35 (winc (by omega)) ?_
      refine R_goto dX10_takeOffAllFound_38 ?_
      exact ihc (by omega) _ _ hOK (by rw [tofW_f (fun q9 => by omega)]; exact hwK)
    · refine aL0 dX10_takeOffAllFound_19 ?_
      refine R_getR dX10_takeOffAllFound_20 fX10_55.r hT.o rfl ?_
      refine iL2 dX10_takeOffAllFound_23 ?_
      refine topV (v := (((w (20 + c)).toNat : Nat) : Int)) (by omega) ?_
      refine ialdN dX10_takeOffAllFound_24 hT.a9 rfl (by omega) ?_
      refine topV (v := (tofW w c) (104 + 7 * ((w (20 + c)).toNat))) (hwK.a9 (by omega)) ?_
      refine topV (v := w (104 + 7 * (w (20 + c)).toNat)) (tofW_n (by omega)) ?_
      refine R_if_eq dX10_takeOffAllFound_25 (fun hb25 => ?_) (fun hb25 => ?_)
      · refine iInc1 dX10_takeOffAllFound_35 (winc (by omega)) ?_
        refine R_goto dX10_takeOffAllFound_38 ?_
        exact ihc (by omega) _ _ hOK (by rw [tofW_f (fun q9 => by omega)]; exact hwK)
      · refine aL0 dX10_takeOffAllFound_28 ?_
        refine R_getR dX10_takeOffAllFound_29 fX10_64.r hT.o rfl ?_
        refine iL1 dX10_takeOffAllFound_32 ?_
        refine R_iconst_m1 dX10_takeOffAllFound_33 ?_
        refine iastN dX10_takeOffAllFound_34 hT.a12 rfl (by omega) ?_
        refine iInc1 dX10_takeOffAllFound_35 (winc (by omega)) ?_
        refine R_goto dX10_takeOffAllFound_38 ?_
        exact ihc (by omega) _ _ (hOK.upd rfl) (by rw [tofW_t ⟨by omega, by omega⟩]; exact hwK.upl (by omega))
def lookW (w : Nat → Int) (ago : Int) (k : Nat) : Int := if 0 ≤ ago ∧ ago < w 6 then w (156 + 6 * ago.toNat + k) else -1000
/-- a row more in the log -/
def logW (w : Nat → Int) (x k j p : Int) : Nat → Int := fun i => if i = 6 then (if w 6 + 1 < 60 then w 6 + 1 else 60) else if i < 156 ∨ 516 ≤ i then w i else if i = 156 then w 5 else if i = 157 then w 4 else if i = 158 then x else if i = 159 then k else if i = 160 then j else if i = 161 then p else w (i - 6)
theorem logW_n {w : Nat → Int} {x k j p : Int} {i : Nat} (h : i < 156 ∨ 516 ≤ i) (h6 : i ≠ 6) : logW w x k j p i = w i := by
  unfold logW
  rw [if_neg h6, if_pos h]
theorem logW_6 (w : Nat → Int) (x k j p : Int) : logW w x k j p 6 = if w 6 + 1 < 60 then w 6 + 1 else 60 := by simp [logW]
theorem logW_o {w : Nat → Int} {x k j p : Int} {i : Nat} (h1 : 162 ≤ i) (h2 : i < 516) : logW w x k j p i = w (i - 6) := by
  unfold logW
  rw [if_neg (by omega), if_neg (by omega), if_neg (by omega), if_neg (by omega), if_neg (by omega), if_neg (by omega), if_neg (by omega), if_neg (by omega)]
set_option maxHeartbeats 400000 in
theorem C_X4_look {d : Nat} {g : Gs} {h : Hc} {P : Po} {t : Nat} {w : Nat → Int} (hT : TwG g t) (hw : Tw h t w) (hf : WF w) {x : Int} {k : Nat} (hk : k < 6) (K : P (.inl (some (vI (lookW w x k)))) g h) : Call (d + 0) 0 0 mX4_look [vR (t + 14), vI x, vI ((k : Nat) : Int)] g h P := by
  have hcs := hf.cas
  have hho := hf.hou
  have hjd := hf.jud
  have hlg := hf.log
  refine Call_of rfl ⟨by decide +kernel, rfl⟩ (Nat.le_of_ble_eq_true rfl) rfl ?_
  refine iL1 dX4_look_0 ?_
  refine R_if_lt dX4_look_1 (fun hb1 => ?_) (fun hb1 => ?_)
  · refine R_sipush dX4_look_22 (by decide) ?_
    exact R_iret dX4_look_25 rfl (PeqI K (by unfold lookW; rw [if_neg (fun q9 => by omega)]))
  · refine iL1 dX4_look_4 ?_
    refine aL0 dX4_look_5 ?_
    refine R_getI dX4_look_6 fX4_19.r hT.a14 ?_
    refine topV (v := w 6) (hw.size) ?_
    have hq1 := hf.log
    refine R_icmp_ge dX4_look_9 (fun hb9 => ?_) (fun hb9 => ?_)
    · refine R_sipush dX4_look_22 (by decide) ?_
      exact R_iret dX4_look_25 rfl (PeqI K (by unfold lookW; rw [if_neg (fun q9 => by omega)]))
    · refine iL2 dX4_look_12 ?_
      refine R_if_lt dX4_look_13 (fun hb13 => ?_) (fun hb13 => ?_)
      · refine R_sipush dX4_look_22 (by decide) ?_
        exact R_iret dX4_look_25 rfl (PeqI K (by unfold lookW; rw [if_neg (fun q9 => by omega)]))
      · refine iL2 dX4_look_16 ?_
        refine R_bipush dX4_look_17 (by decide) ?_
        refine R_icmp_lt dX4_look_19 (fun hb19 => ?_) (fun hb19 => ?_)
        · refine aL0 dX4_look_26 ?_
          refine R_getR dX4_look_27 fX4_11.r hT.a14 rfl ?_
          refine aL0 dX4_look_30 ?_
          refine R_getI dX4_look_31 fX4_15.r hT.a14 ?_
          have hfi := hw.first
          refine aL0 dX4_look_34 ?_
          refine R_getI dX4_look_35 fX4_19.r hT.a14 ?_
          refine topV (v := w 6) (hw.size) ?_
          have hq2 := hf.log
          refine addV dX4_look_38 (wid (by omega) (by omega)) ?_
          refine R_iconst_1 dX4_look_39 ?_
          refine subV dX4_look_40 (wid (by omega) (by omega)) ?_
          refine iL1 dX4_look_41 ?_
          refine subV dX4_look_42 (wid (by omega) (by omega)) ?_
          refine R_bipush dX4_look_43 (by decide) ?_
          refine remV dX4_look_45 (by decide) (remI (by omega) (by omega) (by omega)) ?_
          refine R_bipush dX4_look_46 (by decide) ?_
          refine mulV dX4_look_48 (wid (by omega) (by omega)) ?_
          refine iL2 dX4_look_49 ?_
          refine addV dX4_look_50 (wid (by omega) (by omega)) ?_
          refine ialdN (k := ((h (t + 14) 1 + w 6 - 1 - x) % 60).toNat * 6 + k) dX4_look_51 hT.a15 (by omega) (by omega) ?_
          exact R_iret dX4_look_52 rfl (PeqI K (by unfold lookW; rw [if_pos ⟨by omega, by omega⟩, show x = ((x.toNat : Nat) : Int) by omega]; exact hw.rows x.toNat k (by omega) (by omega)))
        · refine R_sipush dX4_look_22 (by decide) ?_
          exact R_iret dX4_look_25 rfl (PeqI K (by unfold lookW; rw [if_neg (fun q9 => by omega)]))
def ledP (w : Nat → Int) (x : Int) (k : Nat) : Bool := decide (w (158 + 6 * k) = x)
theorem lookW_at {w : Nat → Int} {c k : Nat} (h : (c : Int) < w 6) : lookW w (c : Int) k = w (156 + k + 6 * c) := by
  unfold lookW
  rw [if_pos ⟨by omega, h⟩, Int.toNat_natCast]
  congr 1
  omega
set_option maxHeartbeats 400000 in
theorem C_X4_rowsOf {d : Nat} {g : Gs} {h : Hc} {P : Po} {t : Nat} {w : Nat → Int} (hT : TwG g t) (hw : Tw h t w) (hf : WF w) {x : Int} (K : P (.inl (some (vI ((cntB (ledP w x) (w 6).toNat : Nat) : Int)))) g h) : Call (d + 1) 0 0 mX4_rowsOf [vR (t + 14), vI x] g h P := by
  have hcs := hf.cas
  have hho := hf.hou
  have hjd := hf.jud
  have hlg := hf.log
  refine Call_of rfl ⟨by decide +kernel, rfl⟩ (Nat.le_of_ble_eq_true rfl) rfl ?_
  refine R_iconst_0 dX4_rowsOf_0 ?_
  refine iS2 dX4_rowsOf_1 ?_
  refine R_iconst_0 dX4_rowsOf_2 ?_
  refine iS3 dX4_rowsOf_3 ?_
  refine loopN ((w 6).toNat) (fun c => Run (d + 1) 0 0 mX4_rowsOf 4 [vR (t + 14), vI x, vI ((cntB (ledP w x) c : Nat) : Int), vI ((c : Nat) : Int)] [] g h P) (fun c hcnc ihc => ?_) (0) (Nat.zero_le _)
  have hcl := cntB_le (ledP w x) c
  refine iL3 dX4_rowsOf_4 ?_
  refine aL0 dX4_rowsOf_5 ?_
  refine R_getI dX4_rowsOf_6 fX4_19.r hT.a14 ?_
  refine topV (v := w 6) (hw.size) ?_
  have hq1 := hf.log
  refine R_icmp_ge dX4_rowsOf_9 (fun hb9 => ?_) (fun hb9 => ?_)
  · have e9 : c = (w 6).toNat := by omega
    subst e9
    refine iL2 dX4_rowsOf_31 ?_
    exact R_iret dX4_rowsOf_32 rfl (K)
  · refine aL0 dX4_rowsOf_12 ?_
    refine iL3 dX4_rowsOf_13 ?_
    refine R_iconst_2 dX4_rowsOf_14 ?_
    refine invV2 rfl dX4_rowsOf_15 kX4_28 hT.a14 (Nat.le_of_ble_eq_true rfl) (Nat.zero_le _) (Nat.zero_le _) (C_X4_look (k := 2) hT hw hf (by omega) (konI ?_))
    refine topV (v := w (158 + 6 * c)) (lookW_at (by omega)) ?_
    refine iL1 dX4_rowsOf_18 ?_
    refine R_icmp_ne dX4_rowsOf_19 (fun hb19 => ?_) (fun hb19 => ?_)
    · refine iInc3 dX4_rowsOf_25 (winc (by omega)) ?_
      refine R_goto dX4_rowsOf_28 ?_
      exact eqI2 (by first | (rw [cntB_f (by simp [ledP]; omega)]; done) | (rw [cntB_t (by simp [ledP]; omega)]; done) | (rw [cntB_t (by simp [ledP]; omega)]; omega)) (ihc (by omega))
    · refine iInc2 dX4_rowsOf_22 (winc (by omega)) ?_
      refine iInc3 dX4_rowsOf_25 (winc (by omega)) ?_
      refine R_goto dX4_rowsOf_28 ?_
      exact eqI2 (by first | (rw [cntB_f (by simp [ledP]; omega)]; done) | (rw [cntB_t (by simp [ledP]; omega)]; done) | (rw [cntB_t (by simp [ledP]; omega)]; omega)) (ihc (by omega))
def latD (w : Nat → Int) (x : Int) : Int := if ff (ledP w x) 0 (w 6).toNat < 0 then -1 else w (156 + 6 * (ff (ledP w x) 0 (w 6).toNat).toNat)
set_option maxHeartbeats 400000 in
theorem C_X4_latestDayOf {d : Nat} {g : Gs} {h : Hc} {P : Po} {t : Nat} {w : Nat → Int} (hT : TwG g t) (hw : Tw h t w) (hf : WF w) {x : Int} (K : P (.inl (some (vI (latD w x)))) g h) : Call (d + 1) 0 0 mX4_latestDayOf [vR (t + 14), vI x] g h P := by
  have hcs := hf.cas
  have hho := hf.hou
  have hjd := hf.jud
  have hlg := hf.log
  refine Call_of rfl ⟨by decide +kernel, rfl⟩ (Nat.le_of_ble_eq_true rfl) rfl ?_
  refine R_iconst_0 dX4_latestDayOf_0 ?_
  refine iS2 dX4_latestDayOf_1 ?_
  refine loopN ((w 6).toNat) (fun c => ff (ledP w x) c (w 6).toNat = ff (ledP w x) 0 (w 6).toNat → Run (d + 1) 0 0 mX4_latestDayOf 2 [vR (t + 14), vI x, vI ((c : Nat) : Int)] [] g h P) (fun c hcnc ihc hq9 => ?_) (0) (Nat.zero_le _) rfl
  refine iL2 dX4_latestDayOf_2 ?_
  refine aL0 dX4_latestDayOf_3 ?_
  refine R_getI dX4_latestDayOf_4 fX4_19.r hT.a14 ?_
  refine topV (v := w 6) (hw.size) ?_
  have hq1 := hf.log
  refine R_icmp_ge dX4_latestDayOf_7 (fun hb7 => ?_) (fun hb7 => ?_)
  · refine R_iconst_m1 dX4_latestDayOf_33 ?_
    exact R_iret dX4_latestDayOf_34 rfl (PeqI K (by unfold latD; rw [← hq9, ff_end (by omega)]; rfl))
  · refine aL0 dX4_latestDayOf_10 ?_
    refine iL2 dX4_latestDayOf_11 ?_
    refine R_iconst_2 dX4_latestDayOf_12 ?_
    refine invV2 rfl dX4_latestDayOf_13 kX4_28 hT.a14 (Nat.le_of_ble_eq_true rfl) (Nat.zero_le _) (Nat.zero_le _) (C_X4_look (k := 2) hT hw hf (by omega) (konI ?_))
    refine topV (v := w (158 + 6 * c)) (lookW_at (by omega)) ?_
    refine iL1 dX4_latestDayOf_16 ?_
    refine R_icmp_ne dX4_latestDayOf_17 (fun hb17 => ?_) (fun hb17 => ?_)
    · refine iInc2 dX4_latestDayOf_27 (winc (by omega)) ?_
      refine R_goto dX4_latestDayOf_30 ?_
      exact ihc (by omega) (by rw [← ff_f (by omega) (by simp [ledP]; omega)]; exact hq9)
    · refine aL0 dX4_latestDayOf_20 ?_
      refine iL2 dX4_latestDayOf_21 ?_
      refine R_iconst_0 dX4_latestDayOf_22 ?_
      refine invV2 rfl dX4_latestDayOf_23 kX4_28 hT.a14 (Nat.le_of_ble_eq_true rfl) (Nat.zero_le _) (Nat.zero_le _) (C_X4_look (k := 0) hT hw hf (by omega) (konI ?_))
      refine topV (v := w (156 + 6 * c)) (lookW_at (by omega)) ?_
      exact R_iret dX4_latestDayOf_26 rfl (PeqI K (by unfold latD; rw [← hq9, ff_t (by omega) (by simp [ledP]; omega), if_neg (by omega), Int.toNat_natCast]))
theorem Tw.log {h h' : Hc} {t : Nat} {w : Nat → Int} {x k y p : Int} {R6 : Nat} (q : Tw h t w) (hf : WF w) (hR : R6 = ((h (t + 14) 1 + w 6) % 60).toNat * 6) (o : Off (fun a => a = t + 14 ∨ a = t + 15) h h') (hs : h' (t + 14) 2 = if w 6 + 1 < 60 then w 6 + 1 else 60) (h1 : h' (t + 14) 1 = if w 6 < 60 then h (t + 14) 1 else (h (t + 14) 1 + 1) % 60)
    (hc : ∀ i, h' (t + 15) i = if i = R6 + 5 then p else if i = R6 + 4 then y else if i = R6 + 3 then k else if i = R6 + 2 then x else if i = R6 + 1 then w 4 else if i = R6 then w 5 else h (t + 15) i) : Tw h' t (logW w x k y p) := by
  have hl := hf.log
  have hfi := q.first
  have hr := q.rows
  have hca := hf.cas
  obtain ⟨⟨q0, q1, q2, q3, q4, q5⟩, q6, q7, q8, q9, q10, q11, -⟩ := q
  have e : ∀ i, i < 14 → h' (t + i) = h (t + i) := fun i hi => o _ (by omega)
  have e0 : h' t = h t := e 0 (by omega)
  refine ⟨⟨?_, ?_, ?_, ?_, ?_, ?_⟩, fun j hj => ?_, fun c hc => ?_, fun c hc => ?_, fun c hc hc2 => ?_, fun p hp => ?_, fun k hk => ?_, ?_, ?_, ?_⟩
  · rw [e0, logW_n (by omega) (by omega)]; exact q0
  · rw [e0, logW_n (by omega) (by omega)]; exact q1
  · rw [e0, logW_n (by omega) (by omega)]; exact q2
  · rw [e0, logW_n (by omega) (by omega)]; exact q3
  · rw [e0, logW_n (by omega) (by omega)]; exact q4
  · rw [e0, logW_n (by omega) (by omega)]; exact q5
  · rw [e 1 (by omega), e 2 (by omega), e 3 (by omega), e 4 (by omega), logW_n (by omega) (by omega), logW_n (by omega) (by omega), logW_n (by omega) (by omega), logW_n (by omega) (by omega)]; exact q6 j hj
  · rw [e 5 (by omega), e 6 (by omega), e 7 (by omega), e 9 (by omega), logW_n (by omega) (by omega), logW_n (by omega) (by omega), logW_n (by omega) (by omega), logW_n (by omega) (by omega)]; exact q7 c hc
  · rw [logW_n (by omega) (by omega)] at hc
    rw [e 8 (by omega), e 10 (by omega), e 11 (by omega), logW_n (by omega) (by omega), logW_n (by omega) (by omega), logW_n (by omega) (by omega)]; exact q8 c hc
  · rw [logW_n (by omega) (by omega)] at hc2
    rw [e 10 (by omega), e 11 (by omega)]; exact q9 c hc hc2
  · rw [e 12 (by omega), logW_n (by omega) (by omega)]; exact q10 p hp
  · rw [e 13 (by omega), logW_n (by omega) (by omega)]; exact q11 k hk
  · rw [hs, logW_6]
  · rw [h1]; split <;> omega
  · intro ago i ha hi
    rw [logW_6] at ha ⊢
    rw [h1, hc]
    by_cases e0 : ago = 0
    · subst e0
      have e2 : (((if w 6 < 60 then h (t + 14) 1 else (h (t + 14) 1 + 1) % 60) + (if w 6 + 1 < 60 then w 6 + 1 else 60) - 1 - ((0 : Nat) : Int)) % 60).toNat * 6 = R6 := by
        rw [hR]; split <;> split <;> omega
      rw [e2]
      match i, hi with
      | 0, _ => simp [logW]
      | 1, _ => simp [logW]
      | 2, _ => simp [logW]
      | 3, _ => simp [logW]
      | 4, _ => simp [logW]
      | 5, _ => simp [logW]
    · have e2 : (((if w 6 < 60 then h (t + 14) 1 else (h (t + 14) 1 + 1) % 60) + (if w 6 + 1 < 60 then w 6 + 1 else 60) - 1 - (ago : Int)) % 60).toNat = ((h (t + 14) 1 + w 6 - 1 - ((ago - 1 : Nat) : Int)) % 60).toNat := by
        split at ha <;> split <;> (try split) <;> omega
      have e3 : ((h (t + 14) 1 + w 6 - 1 - ((ago - 1 : Nat) : Int)) % 60).toNat * 6 + i ≠ R6 + 5 ∧ ((h (t + 14) 1 + w 6 - 1 - ((ago - 1 : Nat) : Int)) % 60).toNat * 6 + i ≠ R6 + 4 ∧ ((h (t + 14) 1 + w 6 - 1 - ((ago - 1 : Nat) : Int)) % 60).toNat * 6 + i ≠ R6 + 3 ∧ ((h (t + 14) 1 + w 6 - 1 - ((ago - 1 : Nat) : Int)) % 60).toNat * 6 + i ≠ R6 + 2 ∧ ((h (t + 14) 1 + w 6 - 1 - ((ago - 1 : Nat) : Int)) % 60).toNat * 6 + i ≠ R6 + 1 ∧ ((h (t + 14) 1 + w 6 - 1 - ((ago - 1 : Nat) : Int)) % 60).toNat * 6 + i ≠ R6 := by
        have : ((h (t + 14) 1 + w 6 - 1 - ((ago - 1 : Nat) : Int)) % 60).toNat ≠ ((h (t + 14) 1 + w 6) % 60).toNat := by
          split at ha <;> omega
        omega
      rw [e2, if_neg e3.1, if_neg e3.2.1, if_neg e3.2.2.1, if_neg e3.2.2.2.1, if_neg e3.2.2.2.2.1, if_neg e3.2.2.2.2.2, hr (ago - 1) i (by split at ha <;> omega) hi, logW_o (by omega) (by split at ha <;> omega)]
      congr 1
      omega
set_option maxHeartbeats 400000 in
theorem C_X4_write {d : Nat} {g : Gs} {h : Hc} {P : Po} {t : Nat} {w : Nat → Int} (hT : TwG g t) (hw : Tw h t w) (hf : WF w) {x k y p : Int} (K : ∀ h', Off (fun a => a = t + 14 ∨ a = t + 15) h h' → Tw h' t (logW w x k y p) → P (.inl none) g h') : Call (d + 0) 0 0 mX4_write [vR (t + 14), vI (w 5), vI (w 4), vI x, vI k, vI y, vI p] g h P := by
  refine Call_of rfl ⟨by decide +kernel, rfl⟩ (Nat.le_of_ble_eq_true rfl) rfl ?_
  have hfi := hw.first
  have hsz := hw.size
  have hlg := hf.log
  obtain ⟨R6, hR6⟩ : ∃ R6 : Nat, R6 = ((h (t + 14) 1 + w 6) % 60).toNat * 6 := ⟨_, rfl⟩
  refine aL0 dX4_write_0 ?_
  refine R_getI dX4_write_1 fX4_15.r hT.a14 ?_
  refine aL0 dX4_write_4 ?_
  refine R_getI dX4_write_5 fX4_19.r hT.a14 ?_
  refine topV (v := w 6) (hw.size) ?_
  have hq21 := hf.log
  refine addV dX4_write_8 (wid (by omega) (by omega)) ?_
  refine R_bipush dX4_write_9 (by decide) ?_
  refine remV dX4_write_11 (by decide) (remI (by omega) (by omega) (by omega)) ?_
  refine R_bipush dX4_write_12 (by decide) ?_
  refine mulV dX4_write_14 (wid (by omega) (by omega)) ?_
  refine topV (v := ((R6 : Nat) : Int)) (by omega) ?_
  refine iS7 dX4_write_15 ?_
  refine aL0 dX4_write_17 ?_
  refine R_getI dX4_write_18 fX4_19.r hT.a14 ?_
  refine topV (v := w 6) (hw.size) ?_
  have hq22 := hf.log
  refine R_bipush dX4_write_21 (by decide) ?_
  refine R_icmp_ge dX4_write_23 (fun hb23 => ?_) (fun hb23 => ?_)
  · refine aL0 dX4_write_39 ?_
    refine aL0 dX4_write_40 ?_
    refine R_getI dX4_write_41 fX4_15.r hT.a14 ?_
    refine R_iconst_1 dX4_write_44 ?_
    refine addV dX4_write_45 (wid (by omega) (by omega)) ?_
    refine R_bipush dX4_write_46 (by decide) ?_
    refine remV dX4_write_48 (by decide) (remI (by omega) (by omega) (by omega)) ?_
    refine R_putI dX4_write_49 fX4_15 hT.a14 ?_
    refine storH (fun h23 e23 => ?_)
    have hO23 : Off (fun a => a = t + 14 ∨ a = t + 15) h h23 := by rw [e23]; exact (Off.rf _ h).upd (Or.inl rfl)
    refine aL0 dX4_write_52 ?_
    refine R_getR dX4_write_53 fX4_11.r hT.a14 rfl ?_
    refine iL7 dX4_write_56 ?_
    refine iL1 dX4_write_58 ?_
    refine iastN dX4_write_59 hT.a15 rfl (by omega) ?_
    refine storH (fun h24 e24 => ?_)
    have hO24 : Off (fun a => a = t + 14 ∨ a = t + 15) h h24 := by rw [e24]; exact hO23.upd (Or.inr rfl)
    refine aL0 dX4_write_60 ?_
    refine R_getR dX4_write_61 fX4_11.r hT.a14 rfl ?_
    refine iL7 dX4_write_64 ?_
    refine R_iconst_1 dX4_write_66 ?_
    refine addV dX4_write_67 (v := (((R6 + 1) : Nat) : Int)) (by rw [wid (by omega) (by omega)]; omega) ?_
    refine iL2 dX4_write_68 ?_
    refine iastN dX4_write_69 hT.a15 rfl (by omega) ?_
    refine storH (fun h25 e25 => ?_)
    have hO25 : Off (fun a => a = t + 14 ∨ a = t + 15) h h25 := by rw [e25]; exact hO24.upd (Or.inr rfl)
    refine aL0 dX4_write_70 ?_
    refine R_getR dX4_write_71 fX4_11.r hT.a14 rfl ?_
    refine iL7 dX4_write_74 ?_
    refine R_iconst_2 dX4_write_76 ?_
    refine addV dX4_write_77 (v := (((R6 + 2) : Nat) : Int)) (by rw [wid (by omega) (by omega)]; omega) ?_
    refine iL3 dX4_write_78 ?_
    refine iastN dX4_write_79 hT.a15 rfl (by omega) ?_
    refine storH (fun h26 e26 => ?_)
    have hO26 : Off (fun a => a = t + 14 ∨ a = t + 15) h h26 := by rw [e26]; exact hO25.upd (Or.inr rfl)
    refine aL0 dX4_write_80 ?_
    refine R_getR dX4_write_81 fX4_11.r hT.a14 rfl ?_
    refine iL7 dX4_write_84 ?_
    refine R_iconst_3 dX4_write_86 ?_
    refine addV dX4_write_87 (v := (((R6 + 3) : Nat) : Int)) (by rw [wid (by omega) (by omega)]; omega) ?_
    refine iL4 dX4_write_88 ?_
    refine iastN dX4_write_90 hT.a15 rfl (by omega) ?_
    refine storH (fun h27 e27 => ?_)
    have hO27 : Off (fun a => a = t + 14 ∨ a = t + 15) h h27 := by rw [e27]; exact hO26.upd (Or.inr rfl)
    refine aL0 dX4_write_91 ?_
    refine R_getR dX4_write_92 fX4_11.r hT.a14 rfl ?_
    refine iL7 dX4_write_95 ?_
    refine R_iconst_4 dX4_write_97 ?_
    refine addV dX4_write_98 (v := (((R6 + 4) : Nat) : Int)) (by rw [wid (by omega) (by omega)]; omega) ?_
    refine iL5 dX4_write_99 ?_
    refine iastN dX4_write_101 hT.a15 rfl (by omega) ?_
    refine storH (fun h28 e28 => ?_)
    have hO28 : Off (fun a => a = t + 14 ∨ a = t + 15) h h28 := by rw [e28]; exact hO27.upd (Or.inr rfl)
    refine aL0 dX4_write_102 ?_
    refine R_getR dX4_write_103 fX4_11.r hT.a14 rfl ?_
    refine iL7 dX4_write_106 ?_
    refine R_iconst_5 dX4_write_108 ?_
    refine addV dX4_write_109 (v := (((R6 + 5) : Nat) : Int)) (by rw [wid (by omega) (by omega)]; omega) ?_
    refine iL6 dX4_write_110 ?_
    refine iastN dX4_write_112 hT.a15 rfl (by omega) ?_
    refine storH (fun h29 e29 => ?_)
    have hO29 : Off (fun a => a = t + 14 ∨ a = t + 15) h h29 := by rw [e29]; exact hO28.upd (Or.inr rfl)
    exact R_vret dX4_write_113 rfl (K _ hO29 (Tw.log hw hf hR6 hO29 (by simp [e29, e28, e27, e26, e25, e24, e23, updH]; (try split) <;> omega) (by simp [e29, e28, e27, e26, e25, e24, e23, updH]; (try split) <;> omega) (fun i => by simp [e29, e28, e27, e26, e25, e24, e23, updH])))
  · refine aL0 dX4_write_26 ?_
    refine dupR dX4_write_27 ?_
    refine R_getI dX4_write_28 fX4_19.r hT.a14 ?_
    refine topV (v := w 6) (hw.size) ?_
    have hq30 := hf.log
    refine R_iconst_1 dX4_write_31 ?_
    refine addV dX4_write_32 (wid (by omega) (by omega)) ?_
    refine R_putI dX4_write_33 fX4_19 hT.a14 ?_
    refine storH (fun h31 e31 => ?_)
    have hO31 : Off (fun a => a = t + 14 ∨ a = t + 15) h h31 := by rw [e31]; exact (Off.rf _ h).upd (Or.inl rfl)
    refine R_goto dX4_write_36 ?_
    refine aL0 dX4_write_52 ?_
    refine R_getR dX4_write_53 fX4_11.r hT.a14 rfl ?_
    refine iL7 dX4_write_56 ?_
    refine iL1 dX4_write_58 ?_
    refine iastN dX4_write_59 hT.a15 rfl (by omega) ?_
    refine storH (fun h32 e32 => ?_)
    have hO32 : Off (fun a => a = t + 14 ∨ a = t + 15) h h32 := by rw [e32]; exact hO31.upd (Or.inr rfl)
    refine aL0 dX4_write_60 ?_
    refine R_getR dX4_write_61 fX4_11.r hT.a14 rfl ?_
    refine iL7 dX4_write_64 ?_
    refine R_iconst_1 dX4_write_66 ?_
    refine addV dX4_write_67 (v := (((R6 + 1) : Nat) : Int)) (by rw [wid (by omega) (by omega)]; omega) ?_
    refine iL2 dX4_write_68 ?_
    refine iastN dX4_write_69 hT.a15 rfl (by omega) ?_
    refine storH (fun h33 e33 => ?_)
    have hO33 : Off (fun a => a = t + 14 ∨ a = t + 15) h h33 := by rw [e33]; exact hO32.upd (Or.inr rfl)
    refine aL0 dX4_write_70 ?_
    refine R_getR dX4_write_71 fX4_11.r hT.a14 rfl ?_
    refine iL7 dX4_write_74 ?_
    refine R_iconst_2 dX4_write_76 ?_
    refine addV dX4_write_77 (v := (((R6 + 2) : Nat) : Int)) (by rw [wid (by omega) (by omega)]; omega) ?_
    refine iL3 dX4_write_78 ?_
    refine iastN dX4_write_79 hT.a15 rfl (by omega) ?_
    refine storH (fun h34 e34 => ?_)
    have hO34 : Off (fun a => a = t + 14 ∨ a = t + 15) h h34 := by rw [e34]; exact hO33.upd (Or.inr rfl)
    refine aL0 dX4_write_80 ?_
    refine R_getR dX4_write_81 fX4_11.r hT.a14 rfl ?_
    refine iL7 dX4_write_84 ?_
    refine R_iconst_3 dX4_write_86 ?_
    refine addV dX4_write_87 (v := (((R6 + 3) : Nat) : Int)) (by rw [wid (by omega) (by omega)]; omega) ?_
    refine iL4 dX4_write_88 ?_
    refine iastN dX4_write_90 hT.a15 rfl (by omega) ?_
    refine storH (fun h35 e35 => ?_)
    have hO35 : Off (fun a => a = t + 14 ∨ a = t + 15) h h35 := by rw [e35]; exact hO34.upd (Or.inr rfl)
    refine aL0 dX4_write_91 ?_
    refine R_getR dX4_write_92 fX4_11.r hT.a14 rfl ?_
    refine iL7 dX4_write_95 ?_
    refine R_iconst_4 dX4_write_97 ?_
    refine addV dX4_write_98 (v := (((R6 + 4) : Nat) : Int)) (by rw [wid (by omega) (by omega)]; omega) ?_
    refine iL5 dX4_write_99 ?_
    refine iastN dX4_write_101 hT.a15 rfl (by omega) ?_
    refine storH (fun h36 e36 => ?_)
    have hO36 : Off (fun a => a = t + 14 ∨ a = t + 15) h h36 := by rw [e36]; exact hO35.upd (Or.inr rfl)
    refine aL0 dX4_write_102 ?_
    refine R_getR dX4_write_103 fX4_11.r hT.a14 rfl ?_
    refine iL7 dX4_write_106 ?_
    refine R_iconst_5 dX4_write_108 ?_
    refine addV dX4_write_109 (v := (((R6 + 5) : Nat) : Int)) (by rw [wid (by omega) (by omega)]; omega) ?_
    refine iL6 dX4_write_110 ?_
    refine iastN dX4_write_112 hT.a15 rfl (by omega) ?_
    refine storH (fun h37 e37 => ?_)
    have hO37 : Off (fun a => a = t + 14 ∨ a = t + 15) h h37 := by rw [e37]; exact hO36.upd (Or.inr rfl)
    exact R_vret dX4_write_113 rfl (K _ hO37 (Tw.log hw hf hR6 hO37 (by simp [e37, e36, e35, e34, e33, e32, e31, updH]; (try split) <;> omega) (by simp [e37, e36, e35, e34, e33, e32, e31, updH]; (try split) <;> omega) (fun i => by simp [e37, e36, e35, e34, e33, e32, e31, updH])))
