theorem nat8 {x : Int} (hx : in32 x) (h : ∀ k, 8 ≤ k → k < 32 → tb x k = false) : x = ((nset (tb x) 8 : Nat) : Int) := by
  have h1 := nset_lt (tb x) 8
  refine tb_ext hx ⟨by omega, by omega⟩ fun k hk => ?_
  rw [tb_nat hk, nset_bit]
  by_cases e : k < 8
  · simp [e]
  · rw [h k (by omega) hk]; simp [e]
def crN (w : Nat → Int) (j : Nat) : Nat := nset (tb (crum w (j : Int))) 8
theorem crum_nat {w : Nat → Int} (hf : WF w) (j : Nat) : crum w (j : Int) = ((crN w j : Nat) : Int) := by
  have hc := hf.cas
  refine nat8 (in32_andI _ _) fun k h1 h2 => ?_
  unfold crum
  rw [tb_and, tb_or]
  unfold inSt
  rw [tb_bset h2 (by omega), tb_bset h2 (by omega), decide_eq_false (show ¬ k < (w 1).toNat by omega)]
  simp
def worS (w : Nat → Int) (j : Nat) (a : Int × Int) : Int × Int := if a.2 < ((pc8 (crN w j) : Nat) : Int) then ((j : Int), ((pc8 (crN w j) : Nat) : Int)) else a
def worF (w : Nat → Int) : Nat → Int × Int := foldN (worS w) (-1, -1)
theorem worF_s (w : Nat → Int) (n : Nat) : worF w (n + 1) = worS w n (worF w n) := rfl
def agrP (w : Nat → Int) (c : Nat) : Bool := decide (w (104 + 7 * c) = 0) && decide (((cntB (frN w c) (w 0).toNat : Nat) : Int) = w 0)
def likB (w : Nat → Int) (c d : Nat) : Bool := decide (w (100 + 7 * c) = w (100 + 7 * d)) && decide (w (101 + 7 * c) = w (101 + 7 * d))
def twP (w : Nat → Int) (c d : Nat) : Bool := decide (c < d) && likB w c d
def twF (w : Nat → Int) (n : Nat) : Nat → Nat := foldN (fun c a => a + cntB (twP w c) n) 0
theorem twF_s (w : Nat → Int) (n k : Nat) : twF w n (k + 1) = twF w n k + cntB (twP w k) n := rfl
theorem twF_le (w : Nat → Int) (n : Nat) : ∀ k, twF w n k ≤ n * k
  | 0 => Nat.le_refl _
  | k + 1 => by have := twF_le w n k; have := cntB_le (twP w k) n; rw [twF_s, Nat.mul_succ]; omega
theorem cntB_skip {p : Nat → Bool} {a : Nat} : ∀ {b : Nat}, b ≤ a → (∀ k, k < a → p k = false) → cntB p b = 0
  | 0, _, _ => rfl
  | b + 1, h, hk => by rw [cntB_f (hk b (by omega)), cntB_skip (by omega) hk]
def oddC (w : Nat → Int) (j k : Nat) : Int := if 0 < w (8 + ((w 4).toNat + k) % 12) - 10 * w (82 + 4 * j) then w (8 + ((w 4).toNat + k) % 12) - 10 * w (82 + 4 * j) else 0
def oddF (w : Nat → Int) (j : Nat) : Nat → Int := foldN (fun k a => a * (100 - oddC w j k) / 100) 10000
theorem oddF_s (w : Nat → Int) (j n : Nat) : oddF w j (n + 1) = oddF w j n * (100 - oddC w j n) / 100 := rfl
theorem mulB {a b : Int} (ha : 0 ≤ a ∧ a ≤ 10000) (hb : 0 ≤ b ∧ b ≤ 100) : 0 ≤ a * b ∧ a * b ≤ 1000000 := by
  refine ⟨Int.mul_nonneg ha.1 hb.1, ?_⟩
  have : a * b ≤ 10000 * 100 := Int.mul_le_mul ha.2 hb.2 hb.1 (by omega)
  omega
theorem oddC_rng {w : Nat → Int} (hf : WF w) {j k : Nat} (hj : j < 5) : 0 ≤ oddC w j k ∧ oddC w j k ≤ 100 := by
  have h1 := hf.inn (((w 4).toNat + k) % 12) (by omega)
  have h2 := hf.nv hj
  unfold oddC
  split <;> omega
theorem oddF_rng {w : Nat → Int} (hf : WF w) {j : Nat} (hj : j < 5) : ∀ n, 0 ≤ oddF w j n ∧ oddF w j n ≤ 10000
  | 0 => by show (0 : Int) ≤ 10000 ∧ (10000 : Int) ≤ 10000; omega
  | n + 1 => by
    have ih := oddF_rng hf hj n
    have hc := oddC_rng hf (k := n) hj
    have h1 := mulB ih (b := 100 - oddC w j n) (by omega)
    have h2 : oddF w j n * (100 - oddC w j n) ≤ oddF w j n * 100 := Int.mul_le_mul_of_nonneg_left (by omega) ih.1
    rw [oddF_s]
    omega
set_option maxHeartbeats 400000 in
theorem C_X11_worst {d : Nat} {g : Gs} {h : Hc} {P : Po} {X : Nat} {w : Nat → Int} (hG : ClG g X) (hw : Tw h (X + 5) w) (hf : WF w) (hl : Lw h (X + 53) w) (ho : LawOK w) (K0 : P (.inl (some (vI (worF w (w 0).toNat).1))) g h) : Call (d + 2) 0 0 mX11_worst [vR X] g h P := by
  have hjd := hf.jud
  have hcs := hf.cas
  have hho := hf.hou
  refine Call_of rfl ⟨by decide +kernel, rfl⟩ (Nat.le_of_ble_eq_true rfl) rfl ?_
  refine R_iconst_m1 dX11_worst_0 ?_
  refine iS1 dX11_worst_1 ?_
  refine R_iconst_m1 dX11_worst_2 ?_
  refine iS2 dX11_worst_3 ?_
  refine R_iconst_0 dX11_worst_4 ?_
  refine iS3 dX11_worst_5 ?_
  refine loopN ((w 0).toNat) (fun q => ∀ v4 : AV, Run (d + 2) 0 0 mX11_worst 6 [vR X, vI ((worF w q).1), vI ((worF w q).2), vI ((q : Nat) : Int), v4] [] g h P) (fun q hcnq ihq v4 => ?_) (0) (Nat.zero_le _) _
  refine iL3 dX11_worst_6 ?_
  refine aL0 dX11_worst_7 ?_
  refine R_getR dX11_worst_8 fX11_19.r hG.o rfl ?_
  refine R_getI dX11_worst_11 fX11_266.r hG.now.o ?_
  refine topV (v := w 0) (hw.s0) ?_
  have hq1 := hf.jud
  refine R_icmp_ge dX11_worst_14 (fun hb14 => ?_) (fun hb14 => ?_)
  · have e9 : q = (w 0).toNat := by omega
    subst e9
    refine iL1 dX11_worst_47 ?_
    exact R_iret dX11_worst_48 rfl (K0)
  · refine aL0 dX11_worst_17 ?_
    refine R_getR dX11_worst_18 fX11_19.r hG.o rfl ?_
    refine iL3 dX11_worst_21 ?_
    refine invV1 rfl dX11_worst_22 kX11_282 hG.now.o (Nat.le_of_ble_eq_true rfl) (Nat.zero_le _) (Nat.zero_le _) (C_X10_crumbling hG.now hw hf (konI ?_))
    refine topV (v := ((crN w q : Nat) : Int)) (crum_nat hf q) ?_
    refine invS1 rfl dX11_worst_25 kX11_285 (Nat.le_of_ble_eq_true rfl) (Nat.zero_le _) (Nat.zero_le _) (C_J6_bitCount_0f7a4 (nset8 _ (by decide)) (konI ?_))
    refine iS4 dX11_worst_28 ?_
    refine iL4 dX11_worst_30 ?_
    refine iL2 dX11_worst_32 ?_
    refine R_icmp_le dX11_worst_33 (fun hb33 => ?_) (fun hb33 => ?_)
    · refine iInc3 dX11_worst_41 (winc (by omega)) ?_
      refine R_goto dX11_worst_44 ?_
      exact eqI1 (by rw [worF_s]; unfold worS; first | (rw [if_pos (by omega)]; done) | (rw [if_neg (by omega)]; done)) (eqI2 (by rw [worF_s]; unfold worS; first | (rw [if_pos (by omega)]; done) | (rw [if_neg (by omega)]; done)) (ihq (by omega) _))
    · refine iL4 dX11_worst_36 ?_
      refine iS2 dX11_worst_38 ?_
      refine iL3 dX11_worst_39 ?_
      refine iS1 dX11_worst_40 ?_
      refine iInc3 dX11_worst_41 (winc (by omega)) ?_
      refine R_goto dX11_worst_44 ?_
      exact eqI1 (by rw [worF_s]; unfold worS; first | (rw [if_pos (by omega)]; done) | (rw [if_neg (by omega)]; done)) (eqI2 (by rw [worF_s]; unfold worS; first | (rw [if_pos (by omega)]; done) | (rw [if_neg (by omega)]; done)) (ihq (by omega) _))
set_option maxHeartbeats 400000 in
theorem C_X11_twins {d : Nat} {g : Gs} {h : Hc} {P : Po} {X : Nat} {w : Nat → Int} (hG : ClG g X) (hw : Tw h (X + 5) w) (hf : WF w) (hl : Lw h (X + 53) w) (ho : LawOK w) (K0 : P (.inl (some (vI ((twF w (w 1).toNat (w 1).toNat : Nat) : Int)))) g h) : Call (d + 0) 0 0 mX11_twins [vR X] g h P := by
  have hjd := hf.jud
  have hcs := hf.cas
  have hho := hf.hou
  refine Call_of rfl ⟨by decide +kernel, rfl⟩ (Nat.le_of_ble_eq_true rfl) rfl ?_
  refine R_iconst_0 dX11_twins_0 ?_
  refine iS1 dX11_twins_1 ?_
  refine R_iconst_0 dX11_twins_2 ?_
  refine iS2 dX11_twins_3 ?_
  refine loopN ((w 1).toNat) (fun q => ∀ v3 : AV, Run (d + 0) 0 0 mX11_twins 4 [vR X, vI ((twF w (w 1).toNat q : Nat) : Int), vI ((q : Nat) : Int), v3] [] g h P) (fun q hcnq ihq v3 => ?_) (0) (Nat.zero_le _) _
  have htl := twF_le w (w 1).toNat q
  have htm : (w 1).toNat * q ≤ 8 * 8 := Nat.mul_le_mul (by omega) (by omega)
  refine iL2 dX11_twins_4 ?_
  refine aL0 dX11_twins_5 ?_
  refine R_getR dX11_twins_6 fX11_19.r hG.o rfl ?_
  refine R_getI dX11_twins_9 fX11_290.r hG.now.o ?_
  refine topV (v := w 1) (hw.s1) ?_
  have hq1 := hf.cas
  refine R_icmp_ge dX11_twins_12 (fun hb12 => ?_) (fun hb12 => ?_)
  · have e9 : q = (w 1).toNat := by omega
    subst e9
    refine iL1 dX11_twins_87 ?_
    exact R_iret dX11_twins_88 rfl (K0)
  · refine iL2 dX11_twins_15 ?_
    refine R_iconst_1 dX11_twins_16 ?_
    refine addV dX11_twins_17 (v := (((q + 1) : Nat) : Int)) (by rw [wid (by omega) (by omega)]; omega) ?_
    refine iS3 dX11_twins_18 ?_
    refine eqI1 (v := ((twF w (w 1).toNat q + cntB (twP w q) (q + 1) : Nat) : Int)) (by rw [cntB_skip (a := q + 1) (Nat.le_refl _) (fun k hk => by simp [twP]; omega)]; rfl) ?_
    refine loopN ((w 1).toNat) (fun k => q < k → Run (d + 0) 0 0 mX11_twins 19 [vR X, vI (((twF w (w 1).toNat q + cntB (twP w q) k) : Nat) : Int), vI ((q : Nat) : Int), vI ((k : Nat) : Int)] [] g h P) (fun k hcnk ihk hqk => ?_) (q + 1) (by omega) (by omega)
    have hcl := cntB_le (twP w q) k
    refine iL3 dX11_twins_19 ?_
    refine aL0 dX11_twins_20 ?_
    refine R_getR dX11_twins_21 fX11_19.r hG.o rfl ?_
    refine R_getI dX11_twins_24 fX11_290.r hG.now.o ?_
    refine topV (v := w 1) (hw.s1) ?_
    have hq2 := hf.cas
    refine R_icmp_ge dX11_twins_27 (fun hb27 => ?_) (fun hb27 => ?_)
    · refine iInc2 dX11_twins_81 (winc (by omega)) ?_
      refine R_goto dX11_twins_84 ?_
      exact eqI1 (by rw [twF_s, show k = (w 1).toNat by omega]) (ihq (by omega) _)
    · refine aL0 dX11_twins_30 ?_
      refine R_getR dX11_twins_31 fX11_19.r hG.o rfl ?_
      refine R_getR dX11_twins_34 fX11_191 hG.now.o rfl ?_
      refine iL2 dX11_twins_37 ?_
      refine ialdN dX11_twins_38 hG.now.a5 rfl (by omega) ?_
      refine topV (v := w (100 + 7 * q)) (hw.a5 (by omega)) ?_
      have hq3 := hf.ki (c := q) (by omega)
      refine aL0 dX11_twins_39 ?_
      refine R_getR dX11_twins_40 fX11_19.r hG.o rfl ?_
      refine R_getR dX11_twins_43 fX11_191 hG.now.o rfl ?_
      refine iL3 dX11_twins_46 ?_
      refine ialdN dX11_twins_47 hG.now.a5 rfl (by omega) ?_
      refine topV (v := w (100 + 7 * k)) (hw.a5 (by omega)) ?_
      have hq4 := hf.ki (c := k) (by omega)
      refine R_icmp_ne dX11_twins_48 (fun hb48 => ?_) (fun hb48 => ?_)
      · refine iInc3 dX11_twins_75 (winc (by omega)) ?_
        refine R_goto dX11_twins_78 ?_
        exact eqI1 (by first | (rw [cntB_f (by simp [twP, likB]; omega)]; done) | (rw [cntB_t (by simp [twP, likB]; omega)]; done) | (rw [cntB_t (by simp [twP, likB]; omega)]; omega)) (ihk (by omega) (by omega))
      · refine aL0 dX11_twins_51 ?_
        refine R_getR dX11_twins_52 fX11_19.r hG.o rfl ?_
        refine R_getR dX11_twins_55 fX11_194 hG.now.o rfl ?_
        refine iL2 dX11_twins_58 ?_
        refine ialdN dX11_twins_59 hG.now.a6 rfl (by omega) ?_
        refine topV (v := w (101 + 7 * q)) (hw.a6 (by omega)) ?_
        have hq5 := hf.gr (c := q) (by omega)
        refine aL0 dX11_twins_60 ?_
        refine R_getR dX11_twins_61 fX11_19.r hG.o rfl ?_
        refine R_getR dX11_twins_64 fX11_194 hG.now.o rfl ?_
        refine iL3 dX11_twins_67 ?_
        refine ialdN dX11_twins_68 hG.now.a6 rfl (by omega) ?_
        refine topV (v := w (101 + 7 * k)) (hw.a6 (by omega)) ?_
        have hq6 := hf.gr (c := k) (by omega)
        refine R_icmp_ne dX11_twins_69 (fun hb69 => ?_) (fun hb69 => ?_)
        · refine iInc3 dX11_twins_75 (winc (by omega)) ?_
          refine R_goto dX11_twins_78 ?_
          exact eqI1 (by first | (rw [cntB_f (by simp [twP, likB]; omega)]; done) | (rw [cntB_t (by simp [twP, likB]; omega)]; done) | (rw [cntB_t (by simp [twP, likB]; omega)]; omega)) (ihk (by omega) (by omega))
        · refine iInc1 dX11_twins_72 (winc (by omega)) ?_
          refine iInc3 dX11_twins_75 (winc (by omega)) ?_
          refine R_goto dX11_twins_78 ?_
          exact eqI1 (by first | (rw [cntB_f (by simp [twP, likB]; omega)]; done) | (rw [cntB_t (by simp [twP, likB]; omega)]; done) | (rw [cntB_t (by simp [twP, likB]; omega)]; omega)) (ihk (by omega) (by omega))
set_option maxHeartbeats 400000 in
theorem C_X11_odds {d : Nat} {g : Gs} {h : Hc} {P : Po} {X : Nat} {w : Nat → Int} (hG : ClG g X) (hw : Tw h (X + 5) w) (hf : WF w) (hl : Lw h (X + 53) w) (ho : LawOK w) {x y : Int} (KE1 : ¬ (0 ≤ x ∧ x < w 0) → P (.inr xIO) g h) (KE2 : 0 ≤ x ∧ x < w 0 → ¬ (0 ≤ y ∧ y ≤ 4) → P (.inr xIA) g h) (K0 : ∀ j n : Nat, x = (j : Int) → y = (n : Int) → (j : Int) < w 0 → n ≤ 4 → P (.inl (some (vI (oddF w j n)))) g h) : Call (d + 1) 2 12 mX11_odds [vR X, vI x, vI y] g h P := by
  have hjd := hf.jud
  have hcs := hf.cas
  have hho := hf.hou
  refine Call_of rfl ⟨by decide +kernel, rfl⟩ (Nat.le_of_ble_eq_true rfl) rfl ?_
  refine aL0 dX11_odds_0 ?_
  refine iL1 dX11_odds_1 ?_
  refine invV1 rfl dX11_odds_2 kX11_143 hG.o (Nat.le_of_ble_eq_true rfl) (by decide) (by decide) (C_X11_needJudge hG hw hf (fun hn1 => konVm hG.one ?_) (fun hn1 => konEm hG.one (KE1 (by omega))))
  obtain ⟨j, rfl⟩ : ∃ j : Nat, x = (j : Int) := ⟨(x).toNat, by omega⟩
  refine aL0 dX11_odds_5 ?_
  refine iL2 dX11_odds_6 ?_
  refine R_iconst_0 dX11_odds_7 ?_
  refine R_iconst_4 dX11_odds_8 ?_
  refine invV3 rfl dX11_odds_9 kX11_240 hG.o (Nat.le_of_ble_eq_true rfl) (by decide) (by decide) (C_X11_needNumber hG hw hf (fun hn2 => konVm hG.one ?_) (fun hn2 => konEm hG.one (KE2 (by omega) (by omega))))
  obtain ⟨n, rfl⟩ : ∃ n : Nat, y = (n : Int) := ⟨y.toNat, by omega⟩
  have hnv := hf.nv (j := j) (by omega)
  refine R_sipush dX11_odds_12 (by decide) ?_
  refine iS3 dX11_odds_15 ?_
  refine R_iconst_0 dX11_odds_16 ?_
  refine iS4 dX11_odds_17 ?_
  refine loopN (n) (fun q => ∀ v5 : AV, Run (d + 1) 0 0 mX11_odds 19 [vR X, vI ((j : Nat) : Int), vI ((n : Nat) : Int), vI (oddF w j q), vI ((q : Nat) : Int), v5] [] g h P) (fun q hcnq ihq v5 => ?_) (0) (Nat.zero_le _) _
  refine iL4 dX11_odds_19 ?_
  refine iL2 dX11_odds_21 ?_
  refine R_icmp_ge dX11_odds_22 (fun hb22 => ?_) (fun hb22 => ?_)
  · have e9 : q = n := by omega
    subst e9
    refine iL3 dX11_odds_82 ?_
    exact R_iret dX11_odds_83 rfl (K0 j q rfl rfl (by omega) (by omega))
  · refine R_iconst_0 dX11_odds_25 ?_
    refine aL0 dX11_odds_26 ?_
    refine R_getR dX11_odds_27 fX11_19.r hG.o rfl ?_
    refine R_getR dX11_odds_30 fX11_230 hG.now.o rfl ?_
    refine aL0 dX11_odds_33 ?_
    refine R_getR dX11_odds_34 fX11_19.r hG.o rfl ?_
    refine R_getI dX11_odds_37 fX11_159.r hG.now.o ?_
    refine topV (v := w 4) (hw.s3) ?_
    have hq2 := hf.hou
    refine topV (v := (((w 4).toNat : Nat) : Int)) (by omega) ?_
    refine iL4 dX11_odds_40 ?_
    refine addV dX11_odds_42 (v := ((((w 4).toNat + q) : Nat) : Int)) (by rw [wid (by omega) (by omega)]; omega) ?_
    refine R_bipush dX11_odds_43 (by decide) ?_
    refine remV dX11_odds_45 (by decide) (v := ((((w 4).toNat + q) % 12 : Nat) : Int)) (remN (k := 12) (by omega) (by decide)) ?_
    refine ialdN dX11_odds_46 hG.now.a13 rfl (by omega) ?_
    refine topV (v := w (8 + (((w 4).toNat + q) % 12))) (hw.a13 (by omega)) ?_
    have hq3 := hf.inn (((w 4).toNat + q) % 12) (by omega)
    refine R_bipush dX11_odds_47 (by decide) ?_
    refine aL0 dX11_odds_49 ?_
    refine R_getR dX11_odds_50 fX11_19.r hG.o rfl ?_
    refine R_getR dX11_odds_53 fX11_153 hG.now.o rfl ?_
    refine iL1 dX11_odds_56 ?_
    refine ialdN dX11_odds_57 hG.now.a3 rfl (by omega) ?_
    refine topV (v := w (82 + 4 * j)) (hw.a3 (by omega)) ?_
    have hq4 := hf.nv (j := j) (by omega)
    refine mulV dX11_odds_58 (wid (by omega) (by omega)) ?_
    refine subV dX11_odds_59 (wid (by omega) (by omega)) ?_
    refine R_mmax dX11_odds_60 kX11_296 lb_max (Nat.le_of_ble_eq_true rfl) ?_
    refine topV (v := oddC w j q) (rfl) ?_
    have hoc := oddC_rng hf (j := j) (k := q) (by omega)
    have hof := oddF_rng hf (j := j) (by omega) q
    have hml := mulB hof (b := 100 - oddC w j q) (by omega)
    refine iS5 dX11_odds_63 ?_
    refine iL3 dX11_odds_65 ?_
    refine R_bipush dX11_odds_66 (by decide) ?_
    refine iL5 dX11_odds_68 ?_
    refine subV dX11_odds_70 (wid (by omega) (by omega)) ?_
    refine mulV dX11_odds_71 (wid (by omega) (by omega)) ?_
    refine R_bipush dX11_odds_72 (by decide) ?_
    refine divV dX11_odds_74 (by decide) (divI (by omega) (by omega) (by omega)) ?_
    refine iS3 dX11_odds_75 ?_
    refine iInc4 dX11_odds_76 (winc (by omega)) ?_
    refine R_goto dX11_odds_79 ?_
    exact eqI3 (rfl) (ihq (by omega) _)
