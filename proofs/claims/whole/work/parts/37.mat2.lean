theorem nset_skip {p : Nat → Bool} {a : Nat} : ∀ {b : Nat}, a ≤ b → (∀ k, a ≤ k → k < b → p k = false) → nset p b = nset p a := by
  intro b
  induction b with
  | zero => intro h _; rw [show a = 0 by omega]
  | succ b ih =>
    intro h hk
    by_cases e : a = b + 1
    · rw [e]
    · rw [nset_f (hk b (by omega) (Nat.lt_succ_self b)), ih (by omega) (fun k h1 h2 => hk k h1 (by omega))]
/-- the places where a case would be freed -/
def opnP (w : Nat → Int) (c p : Nat) : Bool := decide (w (104 + 7 * c) = 0) && (decide (((p / 12 : Nat) : Int) < w 0) && (decide (w 4 ≤ ((p % 12 : Nat) : Int)) && wdP w (p / 12) c (p % 12)))
def opn (w : Nat → Int) (c : Nat) : Nat := nset (opnP w c) 60
theorem opnP_at {w : Nat → Int} {c j k : Nat} (hk : k < 12) (h1 : w (104 + 7 * c) = 0) (h2 : (j : Int) < w 0) (h3 : w 4 ≤ (k : Int)) : opnP w c (12 * j + k) = wdP w j c k := by
  unfold opnP
  rw [show (12 * j + k) / 12 = j by omega, show (12 * j + k) % 12 = k by omega]
  simp [h1, h2, h3]
theorem opnP_no {w : Nat → Int} {c p : Nat} (h : ¬ w (104 + 7 * c) = 0 ∨ w 0 ≤ ((p / 12 : Nat) : Int) ∨ ((p % 12 : Nat) : Int) < w 4) : opnP w c p = false := by
  unfold opnP
  rcases h with h | h | h
  · simp [h]
  · rw [decide_eq_false (p := ((p / 12 : Nat) : Int) < w 0) (by omega)]; simp
  · rw [decide_eq_false (p := w 4 ≤ ((p % 12 : Nat) : Int)) (by omega)]; simp
/-- the places of a set of cases -/
def orn (w : Nat → Int) (s : Int) : Nat → Nat := foldN (fun c a => if tb s c then a ||| opn w c else a) 0
theorem orn_t {w : Nat → Int} {s : Int} {n : Nat} (h : tb s n = true) : orn w s (n + 1) = orn w s n ||| opn w n := by simp [orn, foldN_s, h]
theorem orn_f {w : Nat → Int} {s : Int} {n : Nat} (h : tb s n = false) : orn w s (n + 1) = orn w s n := by simp [orn, foldN_s, h]
theorem orn_lt (w : Nat → Int) (s : Int) : ∀ n, orn w s n < 2 ^ 60
  | 0 => by show (0 : Nat) < 2 ^ 60; decide
  | n + 1 => by
    have ih := orn_lt w s n
    cases h : tb s n
    · rw [orn_f h]; exact ih
    · rw [orn_t h]; exact Nat.or_lt_two_pow ih (nset_lt _ 60)
def ofor (w : Nat → Int) (s : Int) : Nat := orn w s (w 1).toNat
/-- no part of a set has fewer places than cases -/
def subP (s part : Nat) : Bool := decide (andI (part : Int) (xorI (s : Int) (-1)) = 0)
def hrP (w : Nat → Int) (A s part : Nat) : Bool := !(subP s part && decide (pcN (ofor w (part : Int) &&& A) < pc8 part))
def hrB (w : Nat → Int) (A s : Nat) : Bool := decide (∀ part, part ≤ s → 1 ≤ part → hrP w A s part = true)
set_option maxHeartbeats 400000 in
theorem C_X5_openPlaces {d : Nat} {g : Gs} {h : Hc} {P : Po} {m t c r : Nat} {w : Nat → Int} (hM : Mt g h m t c r w) (K : ∀ h', Off (mts m c r) h h' → (∀ i, i < (w 1).toNat → h' (m + 1) i = ((opn w i : Nat) : Int)) → P (.inl none) g h') : Call (d + 4) 0 0 mX5_openPlaces [vR m] g h P := by
  have hcs := hM.wf.cas
  have hho := hM.wf.hou
  have hjd := hM.wf.jud
  refine Call_of rfl ⟨by decide +kernel, rfl⟩ (Nat.le_of_ble_eq_true rfl) rfl ?_
  have hO0 : Off (mts m c r) h h := Off.rf _ _
  refine R_iconst_0 dX5_openPlaces_0 ?_
  refine iS1 dX5_openPlaces_1 ?_
  refine loopN ((w 1).toNat) (fun q => ∀ (v2 v3 : AV) (hA : Hc), Off (mts m c r) h hA → (∀ i, i < q → hA (m + 1) i = ((opn w i : Nat) : Int)) → Run (d + 4) 0 0 mX5_openPlaces 2 [vR m, vI ((q : Nat) : Int), v2, v3] [] g hA P) (fun q hcnq ihq v2 v3 hA hOA hpA => ?_) (0) (Nat.zero_le _) _ _ h hO0 (fun i hi => absurd hi (Nat.not_lt_zero _))
  have hMA := hM.off hOA
  refine iL1 dX5_openPlaces_2 ?_
  refine aL0 dX5_openPlaces_3 ?_
  refine R_getR dX5_openPlaces_4 fX5_32.r hM.o rfl ?_
  refine R_getI dX5_openPlaces_7 fX5_46.r hM.tg.o ?_
  refine topV (v := w 1) (hMA.tw.s1) ?_
  have hq1 := hM.wf.cas
  refine R_icmp_ge dX5_openPlaces_10 (fun hb10 => ?_) (fun hb10 => ?_)
  · have e9 : q = (w 1).toNat := by omega
    subst e9
    exact R_vret dX5_openPlaces_107 rfl (K _ hOA hpA)
  · refine aL0 dX5_openPlaces_13 ?_
    refine R_getR dX5_openPlaces_14 fX5_9.r hM.o rfl ?_
    refine iL1 dX5_openPlaces_17 ?_
    refine R_lconst_0 dX5_openPlaces_18 ?_
    refine lastN dX5_openPlaces_19 hM.a1 rfl (by omega) ?_
    refine storH (fun h2 e2 => ?_)
    have hO2 : Off (mts m c r) h h2 := by rw [e2]; exact hOA.upd (Or.inl (by omega))
    have hM2 := hM.off hO2
    have hp2 : ∀ i, i < q → h2 (m + 1) i = ((opn w i : Nat) : Int) := fun i hi => by rw [e2, updH_i (by omega)]; exact hpA i hi
    have hq2 : h2 (m + 1) q = (0) := by rw [e2, updH_s]
    refine R_iconst_0 dX5_openPlaces_20 ?_
    refine iS2 dX5_openPlaces_21 ?_
    refine loopN ((w 0).toNat) (fun j => ∀ (v3 : AV) (hB : Hc), Off (mts m c r) h hB → (∀ i, i < q → hB (m + 1) i = ((opn w i : Nat) : Int)) → hB (m + 1) q = ((nset (opnP w q) (12 * j) : Nat) : Int) → Run (d + 4) 0 0 mX5_openPlaces 22 [vR m, vI ((q : Nat) : Int), vI ((j : Nat) : Int), v3] [] g hB P) (fun j hcnj ihj v3 hB hOB hpB hqB => ?_) (0) (Nat.zero_le _) _ _ hO2 hp2 hq2
    have hMB := hM.off hOB
    refine iL2 dX5_openPlaces_22 ?_
    refine aL0 dX5_openPlaces_23 ?_
    refine R_getR dX5_openPlaces_24 fX5_32.r hM.o rfl ?_
    refine R_getI dX5_openPlaces_27 fX5_61.r hM.tg.o ?_
    refine topV (v := w 0) (hMB.tw.s0) ?_
    have hq3 := hM.wf.jud
    refine R_icmp_ge dX5_openPlaces_30 (fun hb30 => ?_) (fun hb30 => ?_)
    · refine iInc1 dX5_openPlaces_101 (winc (by omega)) ?_
      refine R_goto dX5_openPlaces_104 ?_
      exact ihq (by omega) _ _ _ hOB (fun i hi => by
          by_cases e9 : i = q
          · subst e9; rw [hqB]; show _ = ((nset (opnP w i) 60 : Nat) : Int); rw [nset_skip (a := 12 * j) (b := 60) (by omega) (fun k h1 h2 => opnP_no (by omega))]
          · exact hpB i (by omega))
    · refine aL0 dX5_openPlaces_33 ?_
      refine R_getR dX5_openPlaces_34 fX5_32.r hM.o rfl ?_
      refine R_getR dX5_openPlaces_37 fX5_64 hM.tg.o rfl ?_
      refine iL1 dX5_openPlaces_40 ?_
      refine ialdN dX5_openPlaces_41 hM.tg.a9 rfl (by omega) ?_
      refine topV (v := w (104 + 7 * q)) (hMB.tw.a9 (by omega)) ?_
      have hq4 := hM.wf.st (c := q) (by omega)
      refine R_if_ne dX5_openPlaces_42 (fun hb42 => ?_) (fun hb42 => ?_)
      · refine iInc1 dX5_openPlaces_101 (winc (by omega)) ?_
        refine R_goto dX5_openPlaces_104 ?_
        exact ihq (by omega) _ _ _ hOB (fun i hi => by
            by_cases e9 : i = q
            · subst e9; rw [hqB]; show _ = ((nset (opnP w i) 60 : Nat) : Int); rw [nset_skip (a := 12 * j) (b := 60) (by omega) (fun k h1 h2 => opnP_no (by omega))]
            · exact hpB i (by omega))
      · refine aL0 dX5_openPlaces_45 ?_
        refine R_getR dX5_openPlaces_46 fX5_32.r hM.o rfl ?_
        refine R_getI dX5_openPlaces_49 fX5_58.r hM.tg.o ?_
        refine topV (v := w 4) (hMB.tw.s3) ?_
        have hq5 := hM.wf.hou
        refine topV (v := (((w 4).toNat : Nat) : Int)) (by omega) ?_
        refine iS3 dX5_openPlaces_52 ?_
        refine loopN (12) (fun k => (w 4).toNat ≤ k → ∀ hD : Hc, Off (mts m c r) h hD → (∀ i, i < q → hD (m + 1) i = ((opn w i : Nat) : Int)) → hD (m + 1) q = ((nset (opnP w q) (12 * j + k) : Nat) : Int) → Run (d + 4) 0 0 mX5_openPlaces 53 [vR m, vI ((q : Nat) : Int), vI ((j : Nat) : Int), vI ((k : Nat) : Int)] [] g hD P) (fun k hcnk ihk hk4 hD hOD hpD hqD => ?_) ((w 4).toNat) (by omega) (Nat.le_refl _) _ hOB hpB (by rw [hqB, nset_skip (a := 12 * j) (b := 12 * j + (w 4).toNat) (by omega) (fun k h1 h2 => opnP_no (by omega))])
        have hMD := hM.off hOD
        refine iL3 dX5_openPlaces_53 ?_
        refine R_bipush dX5_openPlaces_54 (by decide) ?_
        refine R_icmp_ge dX5_openPlaces_56 (fun hb56 => ?_) (fun hb56 => ?_)
        · refine iInc2 dX5_openPlaces_95 (winc (by omega)) ?_
          refine R_goto dX5_openPlaces_98 ?_
          exact ihj (by omega) _ _ hOD hpD (by rw [hqD, show k = 12 by omega]; rfl)
        · refine aL0 dX5_openPlaces_59 ?_
          refine R_getR dX5_openPlaces_60 fX5_36.r hM.o rfl ?_
          refine iL2 dX5_openPlaces_63 ?_
          refine iL1 dX5_openPlaces_64 ?_
          refine iL3 dX5_openPlaces_65 ?_
          refine invV3 rfl dX5_openPlaces_66 kX5_67 hM.ct.ct (Nat.le_of_ble_eq_true rfl) (Nat.zero_le _) (Nat.zero_le _) (C_X1_wouldBe hMD.ct (by omega) (by omega) (by omega) (fun h6 hx6 => konI ?_))
          have hO6 := hOD.tr (hx6.scrM (m := m))
          have hM6 := hM.off hO6
          have hp6 : ∀ i, i < q → h6 (m + 1) i = ((opn w i : Nat) : Int) := fun i hi => by rw [hMD.keep hx6 (i := 1) (by omega)]; exact hpD i hi
          have hq6 : h6 (m + 1) q = ((nset (opnP w q) (12 * j + k) : Nat) : Int) := by rw [hMD.keep hx6 (i := 1) (by omega)]; exact hqD
          refine R_if_lt dX5_openPlaces_69 (fun hb69 => ?_) (fun hb69 => ?_)
          · refine iInc3 dX5_openPlaces_89 (winc (by omega)) ?_
            refine R_goto dX5_openPlaces_92 ?_
            exact ihk (by omega) (by omega) _ hO6 hp6 (by rw [hq6]; first | (rw [show 12 * j + (k + 1) = (12 * j + k) + 1 by omega, nset_f (by rw [opnP_at (by omega) (by omega) (by omega) (by omega)]; simp [wdP]; omega)]; done) | (rw [show ((j * 12 + k : Nat) : Int) = ((12 * j + k : Nat) : Int) by omega, nset_or (by omega), show 12 * j + (k + 1) = (12 * j + k) + 1 by omega, nset_t (by rw [opnP_at (by omega) (by omega) (by omega) (by omega)]; simp [wdP]; omega)]; done))
          · refine aL0 dX5_openPlaces_72 ?_
            refine R_getR dX5_openPlaces_73 fX5_9.r hM.o rfl ?_
            refine iL1 dX5_openPlaces_76 ?_
            refine dup2IR dX5_openPlaces_77 ?_
            refine laldN dX5_openPlaces_78 hM.a1 rfl (by omega) ?_
            refine topL (v := ((nset (opnP w q) (12 * j + k) : Nat) : Int)) (hq6) ?_
            refine R_lconst_1 dX5_openPlaces_79 ?_
            refine iL2 dX5_openPlaces_80 ?_
            refine R_bipush dX5_openPlaces_81 (by decide) ?_
            refine mulV dX5_openPlaces_83 (v := (((j * 12) : Nat) : Int)) (by rw [wid (by omega) (by omega)]; omega) ?_
            refine iL3 dX5_openPlaces_84 ?_
            refine addV dX5_openPlaces_85 (v := ((((j * 12) + k) : Nat) : Int)) (by rw [wid (by omega) (by omega)]; omega) ?_
            refine R_lshl dX5_openPlaces_86 ?_
            refine R_lor dX5_openPlaces_87 ?_
            refine lastN dX5_openPlaces_88 hM.a1 rfl (by omega) ?_
            refine storH (fun h7 e7 => ?_)
            have hO7 : Off (mts m c r) h h7 := by rw [e7]; exact hO6.upd (Or.inl (by omega))
            have hM7 := hM.off hO7
            have hp7 : ∀ i, i < q → h7 (m + 1) i = ((opn w i : Nat) : Int) := fun i hi => by rw [e7, updH_i (by omega)]; exact hp6 i hi
            have hq7 : h7 (m + 1) q = (orL (((nset (opnP w q) (12 * j + k) : Nat) : Int)) (shlL (1) ((((j * 12) + k) : Nat) : Int))) := by rw [e7, updH_s]
            refine iInc3 dX5_openPlaces_89 (winc (by omega)) ?_
            refine R_goto dX5_openPlaces_92 ?_
            exact ihk (by omega) (by omega) _ hO7 hp7 (by rw [hq7]; first | (rw [show 12 * j + (k + 1) = (12 * j + k) + 1 by omega, nset_f (by rw [opnP_at (by omega) (by omega) (by omega) (by omega)]; simp [wdP]; omega)]; done) | (rw [show ((j * 12 + k : Nat) : Int) = ((12 * j + k : Nat) : Int) by omega, nset_or (by omega), show 12 * j + (k + 1) = (12 * j + k) + 1 by omega, nset_t (by rw [opnP_at (by omega) (by omega) (by omega) (by omega)]; simp [wdP]; omega)]; done))
set_option maxHeartbeats 400000 in
theorem C_X5_openFor {d : Nat} {g : Gs} {h : Hc} {P : Po} {m t c r : Nat} {w : Nat → Int} (hM : Mt g h m t c r w) (hop : ∀ i, i < (w 1).toNat → h (m + 1) i = ((opn w i : Nat) : Int)) {x : Int} (K : P (.inl (some (vL ((ofor w x : Nat) : Int)))) g h) : Call (d + 0) 0 0 mX5_openFor [vR m, vI x] g h P := by
  have hcs := hM.wf.cas
  have hho := hM.wf.hou
  have hjd := hM.wf.jud
  refine Call_of rfl ⟨by decide +kernel, rfl⟩ (Nat.le_of_ble_eq_true rfl) rfl ?_
  refine R_lconst_0 dX5_openFor_0 ?_
  refine lS2 dX5_openFor_1 ?_
  refine R_iconst_0 dX5_openFor_2 ?_
  refine iS4 dX5_openFor_3 ?_
  refine loopN ((w 1).toNat) (fun q => Run (d + 0) 0 0 mX5_openFor 5 [vR m, vI x, vL (((orn w x q : Nat) : Int)), vU, vI ((q : Nat) : Int)] [] g h P) (fun q hcnq ihq => ?_) (0) (Nat.zero_le _)
  refine iL4 dX5_openFor_5 ?_
  refine aL0 dX5_openFor_7 ?_
  refine R_getR dX5_openFor_8 fX5_32.r hM.o rfl ?_
  refine R_getI dX5_openFor_11 fX5_46.r hM.tg.o ?_
  refine topV (v := w 1) (hM.tw.s1) ?_
  have hq1 := hM.wf.cas
  refine R_icmp_ge dX5_openFor_14 (fun hb14 => ?_) (fun hb14 => ?_)
  · have e9 : q = (w 1).toNat := by omega
    subst e9
    refine lL2 dX5_openFor_42 ?_
    exact R_lret dX5_openFor_43 rfl (K)
  · refine iL1 dX5_openFor_17 ?_
    refine iL4 dX5_openFor_18 ?_
    refine R_ishr dX5_openFor_20 ?_
    refine R_iconst_1 dX5_openFor_21 ?_
    refine R_iand dX5_openFor_22 ?_
    refine topV (bitB (by omega)) ?_
    refine R_ifB_eq dX5_openFor_23 (fun hb23 => ?_) (fun hb23 => ?_)
    · refine iInc4 dX5_openFor_36 (winc (by omega)) ?_
      refine R_goto dX5_openFor_39 ?_
      exact eqL2 (by first | (rw [orn_f hb23]; done) | (rw [orn_t hb23]; exact orLN (k := 60) (orn_lt _ _ _) (nset_lt _ 60) (by decide))) (ihq (by omega))
    · refine lL2 dX5_openFor_26 ?_
      refine aL0 dX5_openFor_27 ?_
      refine R_getR dX5_openFor_28 fX5_9.r hM.o rfl ?_
      refine iL4 dX5_openFor_31 ?_
      refine laldN dX5_openFor_33 hM.a1 rfl (by omega) ?_
      refine topL (v := ((opn w q : Nat) : Int)) (hop q (by omega)) ?_
      refine R_lor dX5_openFor_34 ?_
      refine lS2 dX5_openFor_35 ?_
      refine iInc4 dX5_openFor_36 (winc (by omega)) ?_
      refine R_goto dX5_openFor_39 ?_
      exact eqL2 (by first | (rw [orn_f hb23]; done) | (rw [orn_t hb23]; exact orLN (k := 60) (orn_lt _ _ _) (nset_lt _ 60) (by decide))) (ihq (by omega))
set_option maxHeartbeats 400000 in
theorem C_X5_haveRoom {d : Nat} {g : Gs} {h : Hc} {P : Po} {m t c r : Nat} {w : Nat → Int} (hM : Mt g h m t c r w) (hop : ∀ i, i < (w 1).toNat → h (m + 1) i = ((opn w i : Nat) : Int)) {s A : Nat} {am : Int} (hs : s < 256) (hA : ∀ x : Nat, x < 2 ^ 60 → andL (x : Int) am = ((x &&& A : Nat) : Int)) (K : P (.inl (some (vI (bI (hrB w A s))))) g h) : Call (d + 1) 0 0 mX5_haveRoom [vR m, vI ((s : Nat) : Int), vL (am)] g h P := by
  have hcs := hM.wf.cas
  have hho := hM.wf.hou
  have hjd := hM.wf.jud
  refine Call_of rfl ⟨by decide +kernel, rfl⟩ (Nat.le_of_ble_eq_true rfl) rfl ?_
  refine R_iconst_1 dX5_haveRoom_0 ?_
  refine iS4 dX5_haveRoom_1 ?_
  refine loopN (s + 1) (fun q => ∀ v5 : AV, 1 ≤ q → (∀ p, p < q → 1 ≤ p → hrP w A s p = true) → Run (d + 1) 0 0 mX5_haveRoom 3 [vR m, vI ((s : Nat) : Int), vL (am), vU, vI ((q : Nat) : Int), v5] [] g h P) (fun q hcnq ihq v5 hq1 hal => ?_) (1) (by omega) _ (Nat.le_refl _) (fun p h1 h2 => by omega)
  refine iL4 dX5_haveRoom_3 ?_
  refine iL1 dX5_haveRoom_5 ?_
  refine R_icmp_gt dX5_haveRoom_6 (fun hb6 => ?_) (fun hb6 => ?_)
  · refine R_iconst_1 dX5_haveRoom_57 ?_
    exact R_zret dX5_haveRoom_58 rfl (by decide) (PeqI K (by rw [bI_t]; unfold hrB; exact decide_eq_true (fun p h1 h2 => hal p (by omega) h2)))
  · suffices J1 : Run (d + 1) 0 0 mX5_haveRoom 23 [vR m, vI ((s : Nat) : Int), vL (am), vU, vI ((q : Nat) : Int), v5] [vI (bI (subP s q))] g h P by
      refine iL4 dX5_haveRoom_9 ?_
      refine iL1 dX5_haveRoom_11 ?_
      refine R_iconst_m1 dX5_haveRoom_12 ?_
      refine R_ixor dX5_haveRoom_13 ?_
      refine R_iand dX5_haveRoom_14 ?_
      refine R_if_ne dX5_haveRoom_15 (fun hb15 => ?_) (fun hb15 => ?_)
      · refine R_iconst_0 dX5_haveRoom_22 ?_
        exact topV (v := bI (subP s q)) (by first | (rw [bI_t (by simp only [subP]; exact decide_eq_true (by assumption))]) | (rw [bI_f (by simp only [subP]; exact decide_eq_false (by assumption))])) J1
      · refine R_iconst_1 dX5_haveRoom_18 ?_
        refine R_goto dX5_haveRoom_19 ?_
        exact topV (v := bI (subP s q)) (by first | (rw [bI_t (by simp only [subP]; exact decide_eq_true (by assumption))]) | (rw [bI_f (by simp only [subP]; exact decide_eq_false (by assumption))])) J1
    refine iS5 dX5_haveRoom_23 ?_
    refine iL5 dX5_haveRoom_25 ?_
    refine R_ifB_eq dX5_haveRoom_27 (fun hb27 => ?_) (fun hb27 => ?_)
    · refine iInc4 dX5_haveRoom_51 (winc (by omega)) ?_
      refine R_goto dX5_haveRoom_54 ?_
      exact ihq (by omega) _ (by omega) (fun p h1 h2 => by
          by_cases e9 : p = q
          · subst e9; unfold hrP; first | (rw [hb27]; rfl) | (rw [decide_eq_false (p := pcN (ofor w ((p : Nat) : Int) &&& A) < pc8 p) (by omega)]; simp)
          · exact hal p (by omega) h2)
    · refine aL0 dX5_haveRoom_30 ?_
      refine iL4 dX5_haveRoom_31 ?_
      refine invV1 rfl dX5_haveRoom_33 kX5_76 hM.o (Nat.le_of_ble_eq_true rfl) (Nat.zero_le _) (Nat.zero_le _) (C_X5_openFor hM hop (konI ?_))
      refine lL2 dX5_haveRoom_36 ?_
      refine R_land dX5_haveRoom_37 ?_
      refine topL (v := ((ofor w ((q : Nat) : Int) &&& A : Nat) : Int)) (hA _ (orn_lt _ _ _)) ?_
      refine invS1 rfl dX5_haveRoom_38 kX5_80 (Nat.le_of_ble_eq_true rfl) (Nat.zero_le _) (Nat.zero_le _) (C_J13_bitCount_95d88 (Nat.lt_of_le_of_lt Nat.and_le_left (Nat.lt_trans (orn_lt _ _ _) (by decide))) (konI ?_))
      refine iL4 dX5_haveRoom_41 ?_
      refine invS1 rfl dX5_haveRoom_43 kX5_86 (Nat.le_of_ble_eq_true rfl) (Nat.zero_le _) (Nat.zero_le _) (C_J6_bitCount_0f7a4 (by omega) (konI ?_))
      refine R_icmp_ge dX5_haveRoom_46 (fun hb46 => ?_) (fun hb46 => ?_)
      · refine iInc4 dX5_haveRoom_51 (winc (by omega)) ?_
        refine R_goto dX5_haveRoom_54 ?_
        exact ihq (by omega) _ (by omega) (fun p h1 h2 => by
            by_cases e9 : p = q
            · subst e9; unfold hrP; first | (rw [hb27]; rfl) | (rw [decide_eq_false (p := pcN (ofor w ((p : Nat) : Int) &&& A) < pc8 p) (by omega)]; simp)
            · exact hal p (by omega) h2)
      · refine R_iconst_0 dX5_haveRoom_49 ?_
        exact R_zret dX5_haveRoom_50 rfl (by decide) (PeqI K (by rw [bI_f]; unfold hrB; refine decide_eq_false (fun q9 => ?_); have := q9 q (by omega) (by omega); unfold hrP at this; rw [hb27, decide_eq_true (p := pcN (ofor w ((q : Nat) : Int) &&& A) < pc8 q) (by omega)] at this; exact absurd this (by decide)))
theorem or2n : ∀ s : Nat, s < 256 → ∀ c : Nat, c < 8 → orI (s : Int) (shlI 1 (c : Int)) = ((s ||| 2 ^ c : Nat) : Int) ∧ s ||| 2 ^ c < 256 := by decide +kernel
def FULL : Nat := 1152921504606846975
theorem fullA (x : Nat) (hx : x < 2 ^ 60) : andL (x : Int) (-1) = ((x &&& FULL : Nat) : Int) := by
  have e : x &&& FULL = x := by
    rw [show FULL = 2 ^ 60 - 1 from rfl, Nat.and_two_pow_sub_one_eq_mod, Nat.mod_eq_of_lt hx]
  rw [e]
  unfold andL
  rw [show Int64.ofInt (-1) = -1 from rfl, Int64.and_neg_one]
  exact toInt_ofInt64 ⟨by omega, by omega⟩
def savS (w : Nat → Int) (a : Int × Nat) : Int × Nat := if 0 ≤ wrtA w (andI (inSt w 0) (xorI a.1 (-1))) then (orI a.1 (shlI 1 (wrtA w (andI (inSt w 0) (xorI a.1 (-1))))), if hrB w FULL (a.2 ||| 2 ^ (wrtA w (andI (inSt w 0) (xorI a.1 (-1)))).toNat) then a.2 ||| 2 ^ (wrtA w (andI (inSt w 0) (xorI a.1 (-1)))).toNat else a.2) else a
def savF (w : Nat → Int) : Nat → Int × Nat := foldN (fun _ a => savS w a) (0, 0)
theorem savF_s (w : Nat → Int) (n : Nat) : savF w (n + 1) = savS w (savF w n) := rfl
def savW (w : Nat → Int) : Nat := (savF w (w 1).toNat).2
theorem wrtA_rng {w : Nat → Int} (hf : WF w) (s : Int) : -1 ≤ wrtA w s ∧ wrtA w s < 8 := by
  have h := amx_lt (fun c => tb s c) (fun c => w (102 + 7 * c)) (w 1).toNat
  have := hf.cas
  unfold wrtA
  omega
theorem savF_lt {w : Nat → Int} (hf : WF w) : ∀ n, (savF w n).2 < 256
  | 0 => by show (0 : Nat) < 256; omega
  | n + 1 => by
    have ih := savF_lt hf n
    have hr := wrtA_rng hf (andI (inSt w 0) (xorI (savF w n).1 (-1)))
    rw [savF_s]
    unfold savS
    split
    · dsimp only
      split
      · exact (or2n _ ih (wrtA w (andI (inSt w 0) (xorI (savF w n).1 (-1)))).toNat (by omega)).2
      · exact ih
    · exact ih
/-- the places of the judges' hours from HOUR on: those below k, and in k those of judges below j -/
def hmP (w : Nat → Int) (k j p : Nat) : Bool := decide (((p / 12 : Nat) : Int) < w 0 ∧ w 4 ≤ ((p % 12 : Nat) : Int) ∧ (p % 12 < k ∨ (p % 12 = k ∧ p / 12 < j)))
def hmN (w : Nat → Int) (k j : Nat) : Nat := nset (hmP w k j) 60
theorem nset_eq {p q : Nat → Bool} {n : Nat} (h : ∀ k, k < n → p k = q k) : nset p n = nset q n := foldN_cong (fun k hk x => by rw [h k hk])
theorem hmN_j {w : Nat → Int} {k j : Nat} (hk : k < 12) (h4 : w 4 ≤ (k : Int)) (hj : (j : Int) < w 0) (hj5 : w 0 ≤ 5) : hmN w k (j + 1) = hmN w k j ||| 2 ^ (12 * j + k) := by
  apply Nat.eq_of_testBit_eq
  intro i
  unfold hmN
  rw [Nat.testBit_or, nset_bit, nset_bit, Nat.testBit_two_pow]
  by_cases e : 12 * j + k = i
  · subst e
    have h1 : hmP w k (j + 1) (12 * j + k) = true := by
      unfold hmP
      rw [show (12 * j + k) / 12 = j by omega, show (12 * j + k) % 12 = k by omega]
      exact decide_eq_true ⟨hj, h4, Or.inr ⟨rfl, Nat.lt_succ_self j⟩⟩
    simp [h1]
    omega
  · have h1 : hmP w k (j + 1) i = hmP w k j i := by
      unfold hmP
      congr 1
      apply propext
      constructor
      · rintro ⟨a, b, c⟩; exact ⟨a, b, by omega⟩
      · rintro ⟨a, b, c⟩; exact ⟨a, b, by omega⟩
    rw [h1]
    simp [e]
theorem hmN_k {w : Nat → Int} {k : Nat} : hmN w k (w 0).toNat = hmN w (k + 1) 0 := by
  refine nset_eq (fun p _ => ?_)
  unfold hmP
  congr 1
  apply propext
  constructor
  · rintro ⟨a, b, c⟩; exact ⟨a, b, by omega⟩
  · rintro ⟨a, b, c⟩; exact ⟨a, b, by omega⟩
theorem hmN_0 {w : Nat → Int} {k : Nat} (h : (k : Int) ≤ w 4) : hmN w k 0 = 0 := by
  have : hmN w k 0 = nset (fun _ => false) 60 := nset_eq (fun p _ => by
    unfold hmP
    exact decide_eq_false (fun q => by omega))
  rw [this]
  decide
def needP (w : Nat → Int) (s k : Nat) : Bool := hrB w (hmN w k (w 0).toNat) s
def needW (w : Nat → Int) (s : Nat) : Int := if s = 0 then 0 else if ff (needP w s) (w 4).toNat 12 < 0 then 0 else ff (needP w s) (w 4).toNat 12 - w 4 + 1
set_option maxHeartbeats 400000 in
theorem C_X5_savedCases {d : Nat} {g : Gs} {h : Hc} {P : Po} {m t c r : Nat} {w : Nat → Int} (hM : Mt g h m t c r w) (hop : ∀ i, i < (w 1).toNat → h (m + 1) i = ((opn w i : Nat) : Int)) (K : P (.inl (some (vI (((savW w : Nat) : Int))))) g h) : Call (d + 2) 0 0 mX5_savedCases [vR m] g h P := by
  have hcs := hM.wf.cas
  have hho := hM.wf.hou
  have hjd := hM.wf.jud
  refine Call_of rfl ⟨by decide +kernel, rfl⟩ (Nat.le_of_ble_eq_true rfl) rfl ?_
  refine aL0 dX5_savedCases_0 ?_
  refine R_getR dX5_savedCases_1 fX5_32.r hM.o rfl ?_
  refine R_iconst_0 dX5_savedCases_4 ?_
  refine invV1 rfl dX5_savedCases_5 kX5_40 hM.tg.o (Nat.le_of_ble_eq_true rfl) (Nat.zero_le _) (Nat.zero_le _) (C_X10_inState hM.tg hM.tw hM.wf (konI ?_))
  refine iS1 dX5_savedCases_8 ?_
  refine R_iconst_0 dX5_savedCases_9 ?_
  refine iS2 dX5_savedCases_10 ?_
  refine R_iconst_0 dX5_savedCases_11 ?_
  refine iS3 dX5_savedCases_12 ?_
  refine R_iconst_0 dX5_savedCases_13 ?_
  refine iS4 dX5_savedCases_14 ?_
  refine loopN ((w 1).toNat) (fun q => ∀ v5 : AV, Run (d + 2) 0 0 mX5_savedCases 16 [vR m, vI (inSt w 0), vI ((savF w q).1), vI (((savF w q).2 : Nat) : Int), vI ((q : Nat) : Int), v5] [] g h P) (fun q hcnq ihq v5 => ?_) (0) (Nat.zero_le _) _
  refine iL4 dX5_savedCases_16 ?_
  refine aL0 dX5_savedCases_18 ?_
  refine R_getR dX5_savedCases_19 fX5_32.r hM.o rfl ?_
  refine R_getI dX5_savedCases_22 fX5_46.r hM.tg.o ?_
  refine topV (v := w 1) (hM.tw.s1) ?_
  have hq1 := hM.wf.cas
  refine R_icmp_ge dX5_savedCases_25 (fun hb25 => ?_) (fun hb25 => ?_)
  · have e9 : q = (w 1).toNat := by omega
    subst e9
    refine iL3 dX5_savedCases_80 ?_
    exact R_iret dX5_savedCases_81 rfl (K)
  · refine aL0 dX5_savedCases_28 ?_
    refine iL1 dX5_savedCases_29 ?_
    refine iL2 dX5_savedCases_30 ?_
    refine R_iconst_m1 dX5_savedCases_31 ?_
    refine R_ixor dX5_savedCases_32 ?_
    refine R_iand dX5_savedCases_33 ?_
    refine invV1 rfl dX5_savedCases_34 kX5_49 hM.o (Nat.le_of_ble_eq_true rfl) (Nat.zero_le _) (Nat.zero_le _) (C_X5_worthiest hM (konI ?_))
    refine topV (v := wrtA w (andI (inSt w 0) (xorI (savF w q).1 (-1)))) (rfl) ?_
    have hwr := wrtA_rng hM.wf (andI (inSt w 0) (xorI (savF w q).1 (-1)))
    have hsl := savF_lt hM.wf q
    refine iS5 dX5_savedCases_37 ?_
    refine iL5 dX5_savedCases_39 ?_
    refine R_if_lt dX5_savedCases_41 (fun hb41 => ?_) (fun hb41 => ?_)
    · refine iInc4 dX5_savedCases_74 (winc (by omega)) ?_
      refine R_goto dX5_savedCases_77 ?_
      exact eqI2 (by rw [savF_s]; unfold savS; first | (rw [if_neg (by omega)]; done) | (rw [if_pos (by omega)]; done) | (rw [if_pos (by omega)]; dsimp only; rw [hb64]; rfl)) (eqI3 (by rw [savF_s]; unfold savS; first | (rw [if_neg (by omega)]; done) | (rw [if_pos (by omega)]; done) | (rw [if_pos (by omega)]; dsimp only; rw [hb64]; rfl)) (ihq (by omega) _))
    · have ho2 := or2n (savF w q).2 hsl (wrtA w (andI (inSt w 0) (xorI (savF w q).1 (-1)))).toNat (by omega)
      refine iL2 dX5_savedCases_44 ?_
      refine R_iconst_1 dX5_savedCases_45 ?_
      refine iL5 dX5_savedCases_46 ?_
      refine R_ishl dX5_savedCases_48 ?_
      refine R_ior dX5_savedCases_49 ?_
      refine iS2 dX5_savedCases_50 ?_
      refine aL0 dX5_savedCases_51 ?_
      refine iL3 dX5_savedCases_52 ?_
      refine R_iconst_1 dX5_savedCases_53 ?_
      refine iL5 dX5_savedCases_54 ?_
      refine R_ishl dX5_savedCases_56 ?_
      refine R_ior dX5_savedCases_57 ?_
      refine topV (v := ((((savF w q).2 ||| 2 ^ (wrtA w (andI (inSt w 0) (xorI (savF w q).1 (-1)))).toNat) : Nat) : Int)) (by rw [← ho2.1, show (((wrtA w (andI (inSt w 0) (xorI (savF w q).1 (-1)))).toNat : Nat) : Int) = wrtA w (andI (inSt w 0) (xorI (savF w q).1 (-1))) by omega]) ?_
      refine R_ldcL dX5_savedCases_58 qX5_52 (by unfold in64; omega) ?_
      refine invV2 rfl dX5_savedCases_61 kX5_54 hM.o (Nat.le_of_ble_eq_true rfl) (Nat.zero_le _) (Nat.zero_le _) (C_X5_haveRoom hM hop ho2.2 fullA (konI ?_))
      refine R_ifB_eq dX5_savedCases_64 (fun hb64 => ?_) (fun hb64 => ?_)
      · refine iInc4 dX5_savedCases_74 (winc (by omega)) ?_
        refine R_goto dX5_savedCases_77 ?_
        exact eqI2 (by rw [savF_s]; unfold savS; first | (rw [if_neg (by omega)]; done) | (rw [if_pos (by omega)]; done) | (rw [if_pos (by omega)]; dsimp only; rw [hb64]; rfl)) (eqI3 (by rw [savF_s]; unfold savS; first | (rw [if_neg (by omega)]; done) | (rw [if_pos (by omega)]; done) | (rw [if_pos (by omega)]; dsimp only; rw [hb64]; rfl)) (ihq (by omega) _))
      · refine iL3 dX5_savedCases_67 ?_
        refine R_iconst_1 dX5_savedCases_68 ?_
        refine iL5 dX5_savedCases_69 ?_
        refine R_ishl dX5_savedCases_71 ?_
        refine R_ior dX5_savedCases_72 ?_
        refine topV (v := ((((savF w q).2 ||| 2 ^ (wrtA w (andI (inSt w 0) (xorI (savF w q).1 (-1)))).toNat) : Nat) : Int)) (by rw [← ho2.1, show (((wrtA w (andI (inSt w 0) (xorI (savF w q).1 (-1)))).toNat : Nat) : Int) = wrtA w (andI (inSt w 0) (xorI (savF w q).1 (-1))) by omega]) ?_
        refine iS3 dX5_savedCases_73 ?_
        refine iInc4 dX5_savedCases_74 (winc (by omega)) ?_
        refine R_goto dX5_savedCases_77 ?_
        exact eqI2 (by rw [savF_s]; unfold savS; first | (rw [if_neg (by omega)]; done) | (rw [if_pos (by omega)]; done) | (rw [if_pos (by omega)]; dsimp only; rw [hb64]; rfl)) (eqI3 (by rw [savF_s]; unfold savS; first | (rw [if_neg (by omega)]; done) | (rw [if_pos (by omega)]; done) | (rw [if_pos (by omega)]; dsimp only; rw [hb64]; rfl)) (ihq (by omega) _))
set_option maxHeartbeats 400000 in
theorem C_X5_hoursFor {d : Nat} {g : Gs} {h : Hc} {P : Po} {m t c r : Nat} {w : Nat → Int} (hM : Mt g h m t c r w) (hop : ∀ i, i < (w 1).toNat → h (m + 1) i = ((opn w i : Nat) : Int)) {s : Nat} (hs : s < 256) (K : P (.inl (some (vI (needW w s)))) g h) : Call (d + 2) 0 0 mX5_hoursFor [vR m, vI ((s : Nat) : Int)] g h P := by
  have hcs := hM.wf.cas
  have hho := hM.wf.hou
  have hjd := hM.wf.jud
  refine Call_of rfl ⟨by decide +kernel, rfl⟩ (Nat.le_of_ble_eq_true rfl) rfl ?_
  refine R_lconst_0 dX5_hoursFor_0 ?_
  refine lS2 dX5_hoursFor_1 ?_
  refine iL1 dX5_hoursFor_2 ?_
  refine R_if_ne dX5_hoursFor_3 (fun hb3 => ?_) (fun hb3 => ?_)
  · refine aL0 dX5_hoursFor_8 ?_
    refine R_getR dX5_hoursFor_9 fX5_32.r hM.o rfl ?_
    refine R_getI dX5_hoursFor_12 fX5_58.r hM.tg.o ?_
    refine topV (v := w 4) (hM.tw.s3) ?_
    have hq1 := hM.wf.hou
    refine topV (v := (((w 4).toNat : Nat) : Int)) (by omega) ?_
    refine iS4 dX5_hoursFor_15 ?_
    refine eqL2 (v := ((hmN w (w 4).toNat 0 : Nat) : Int)) (by rw [hmN_0 (by omega)]; rfl) ?_
    refine loopN (12) (fun k => ∀ v5 : AV, (w 4).toNat ≤ k → ff (needP w s) k 12 = ff (needP w s) (w 4).toNat 12 → Run (d + 2) 0 0 mX5_hoursFor 17 [vR m, vI ((s : Nat) : Int), vL (((hmN w k 0 : Nat) : Int)), vU, vI ((k : Nat) : Int), v5] [] g h P) (fun k hcnk ihk v5 hk4 hq9 => ?_) ((w 4).toNat) (by omega) _ (Nat.le_refl _) rfl
    refine iL4 dX5_hoursFor_17 ?_
    refine R_bipush dX5_hoursFor_19 (by decide) ?_
    refine R_icmp_ge dX5_hoursFor_21 (fun hb21 => ?_) (fun hb21 => ?_)
    · refine R_iconst_0 dX5_hoursFor_86 ?_
      exact R_iret dX5_hoursFor_87 rfl (PeqI K (by unfold needW; rw [if_neg (by omega), ← hq9, ff_end (by omega), if_pos (by omega)]))
    · refine R_iconst_0 dX5_hoursFor_24 ?_
      refine iS5 dX5_hoursFor_25 ?_
      refine loopN ((w 0).toNat) (fun j => Run (d + 2) 0 0 mX5_hoursFor 27 [vR m, vI ((s : Nat) : Int), vL (((hmN w k j : Nat) : Int)), vU, vI ((k : Nat) : Int), vI ((j : Nat) : Int)] [] g h P) (fun j hcnj ihj => ?_) (0) (Nat.zero_le _)
      refine iL5 dX5_hoursFor_27 ?_
      refine aL0 dX5_hoursFor_29 ?_
      refine R_getR dX5_hoursFor_30 fX5_32.r hM.o rfl ?_
      refine R_getI dX5_hoursFor_33 fX5_61.r hM.tg.o ?_
      refine topV (v := w 0) (hM.tw.s0) ?_
      have hq2 := hM.wf.jud
      refine R_icmp_ge dX5_hoursFor_36 (fun hb36 => ?_) (fun hb36 => ?_)
      · have e9 : j = (w 0).toNat := by omega
        subst e9
        refine aL0 dX5_hoursFor_58 ?_
        refine iL1 dX5_hoursFor_59 ?_
        refine lL2 dX5_hoursFor_60 ?_
        refine invV2 rfl dX5_hoursFor_61 kX5_54 hM.o (Nat.le_of_ble_eq_true rfl) (Nat.zero_le _) (Nat.zero_le _) (C_X5_haveRoom hM hop hs (fun x hx => andLN (by omega)) (konI ?_))
        refine R_ifB_eq dX5_hoursFor_64 (fun hb64 => ?_) (fun hb64 => ?_)
        · refine iInc4 dX5_hoursFor_80 (winc (by omega)) ?_
          refine R_goto dX5_hoursFor_83 ?_
          exact eqL2 (by rw [hmN_k]) (ihk (by omega) _ (by omega) (by rw [← ff_f (p := needP w s) (k := k) (by omega) hb64]; exact hq9))
        · refine iL4 dX5_hoursFor_67 ?_
          refine aL0 dX5_hoursFor_69 ?_
          refine R_getR dX5_hoursFor_70 fX5_32.r hM.o rfl ?_
          refine R_getI dX5_hoursFor_73 fX5_58.r hM.tg.o ?_
          refine topV (v := w 4) (hM.tw.s3) ?_
          have hq3 := hM.wf.hou
          refine subV dX5_hoursFor_76 (wid (by omega) (by omega)) ?_
          refine R_iconst_1 dX5_hoursFor_77 ?_
          refine addV dX5_hoursFor_78 (wid (by omega) (by omega)) ?_
          exact R_iret dX5_hoursFor_79 rfl (PeqI K (by unfold needW; rw [if_neg (by omega), ← hq9, ff_t (p := needP w s) (k := k) (by omega) hb64, if_neg (by omega)]))
      · refine lL2 dX5_hoursFor_39 ?_
        refine R_lconst_1 dX5_hoursFor_40 ?_
        refine iL5 dX5_hoursFor_41 ?_
        refine R_bipush dX5_hoursFor_43 (by decide) ?_
        refine mulV dX5_hoursFor_45 (v := (((j * 12) : Nat) : Int)) (by rw [wid (by omega) (by omega)]; omega) ?_
        refine iL4 dX5_hoursFor_46 ?_
        refine addV dX5_hoursFor_48 (v := ((((j * 12) + k) : Nat) : Int)) (by rw [wid (by omega) (by omega)]; omega) ?_
        refine R_lshl dX5_hoursFor_49 ?_
        refine R_lor dX5_hoursFor_50 ?_
        refine lS2 dX5_hoursFor_51 ?_
        refine iInc5 dX5_hoursFor_52 (winc (by omega)) ?_
        refine R_goto dX5_hoursFor_55 ?_
        exact eqL2 (by rw [show ((j * 12 + k : Nat) : Int) = ((12 * j + k : Nat) : Int) by omega, shlL1 _ (by omega), hmN_j (by omega) (by omega) (by omega) (by omega)]; exact orLN (k := 60) (nset_lt _ 60) (Nat.pow_lt_pow_right (by decide) (by omega)) (by decide)) (ihj (by omega))
  · refine R_iconst_0 dX5_hoursFor_6 ?_
    exact R_iret dX5_hoursFor_7 rfl (PeqI K (by unfold needW; rw [if_pos (by omega)]))
