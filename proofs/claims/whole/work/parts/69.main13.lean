theorem ClG.tape {g : Gs} {X : Nat} (q : ClG g X) : g.1[X + 1]? = some (8, 6, [((X + 2 : Nat) : Int), ((X + 3 : Nat) : Int), ((X + 4 : Nat) : Int), -1, -1, -1]) := q.2.2.1.1
theorem ClG.t2 {g : Gs} {X : Nat} (q : ClG g X) : g.1[X + 2]? = some (13, 400, []) := q.2.2.1.2.1
theorem ClG.t3 {g : Gs} {X : Nat} (q : ClG g X) : g.1[X + 3]? = some (13, 401, []) := q.2.2.1.2.2.1
theorem ClG.t4 {g : Gs} {X : Nat} (q : ClG g X) : g.1[X + 4]? = some (13, 401, []) := q.2.2.1.2.2.2
set_option maxHeartbeats 400000 in
theorem C_X11_back {d : Nat} {g : Gs} {h : Hc} {P : Po} {X : Nat} {v : Nat → Int} (hG : ClG g X) (hw : h X 14 ≠ 0 → Tw h (X + 37) v) (hf : WF v) (hl : h X 14 ≠ 0 → Lw h (X + 65) v) (ho : LawOK v) {n : Nat} {A : Nat → Nat → Int} (hP : Pa h (X + 87) A n) (KZ : h X 14 = 0 → P (.inl (some (vI 0))) g h) (K1 : h X 14 ≠ 0 → ∀ h', Off (fun q => (X + 5 ≤ q ∧ q < X + 21) ∨ (X + 53 ≤ q ∧ q < X + 58) ∨ q = X + 87) h h' → Tw h' (X + 5) v → Lw h' (X + 53) v → Pa h' (X + 87) A 0 → P (.inl (some (vI 1))) g h') : Call (d + 3) 0 0 mX11_back [vR X] g h P := by
  refine Call_of rfl ⟨by decide +kernel, rfl⟩ (Nat.le_of_ble_eq_true rfl) rfl ?_
  refine aL0 dX11_back_0 ?_
  refine R_getI dX11_back_1 fX11_95.r hG.o ?_
  refine R_if_ne dX11_back_4 (fun hb4 => ?_) (fun hb4 => ?_)
  · refine aL0 dX11_back_9 ?_
    refine R_getR dX11_back_10 fX11_19.r hG.o rfl ?_
    refine aL0 dX11_back_13 ?_
    refine R_getR dX11_back_14 fX11_26.r hG.o rfl ?_
    refine invV1 rfl dX11_back_17 kX11_110 hG.now.o (Nat.le_of_ble_eq_true rfl) (Nat.zero_le _) (Nat.zero_le _) (C_X10_copyFrom hG.now hG.kep (fun i j hi hj => by omega) (fun h1 hx1 hc1 => konV ?_))
    have hw1 : Tw h1 (X + 5) v := (hw hb4).cp hf hc1
    have hl1 := (hl hb4).off hx1 (fun i hi => by omega)
    refine aL0 dX11_back_20 ?_
    refine R_getR dX11_back_21 fX11_32.r hG.o rfl ?_
    refine aL0 dX11_back_24 ?_
    refine R_getR dX11_back_25 fX11_39.r hG.o rfl ?_
    refine invV1 rfl dX11_back_28 kX11_137 hG.rul.o (Nat.le_of_ble_eq_true rfl) (Nat.zero_le _) (Nat.zero_le _) (C_X2_copyFrom hG.rul hG.ru3 (fun i j hi hj => by omega) (fun h2 hx2 hc2 hd2 => konV ?_))
    have hl2 : Lw h2 (X + 53) v := hl1.cp ho hc2 hd2
    have hw2 := hw1.off hx2 (fun i hi => by omega)
    have hP2 := (hP.off hx1 (fun a ha => by unfold pas; omega)).off hx2 (fun a ha => by unfold pas; omega)
    refine aL0 dX11_back_31 ?_
    refine R_getR dX11_back_32 fX11_91.r hG.o rfl ?_
    refine invV0 rfl dX11_back_35 kX11_130 hG.past.1 (Nat.le_of_ble_eq_true rfl) (Nat.zero_le _) (Nat.zero_le _) (C_X6_forget hG.past hP2 (fun h3 hx3 hP3 => konV ?_))
    refine R_iconst_1 dX11_back_38 ?_
    exact R_zret dX11_back_39 rfl (by decide) (K1 hb4 _ (fun a ha => by rw [hx3 a (by omega), hx2 a (by omega), hx1 a (by omega)]) (hw2.off hx3 (fun i hi => by omega)) (hl2.off hx3 (fun i hi => by omega)) hP3)
  · refine R_iconst_0 dX11_back_7 ?_
    exact R_zret dX11_back_8 rfl (by decide) (KZ (by omega))
def pbI (x : Int) (i : Nat) : Int := andI (ushrI x ((24 - 8 * i : Nat) : Int)) 255
theorem byB_pb (xs : Nat → Int) (m r : Nat) (hr : r < 4) : byB xs (4 * m + r) = pbI (xs m) r := by
  unfold byB pbI
  rw [show (4 * m + r) / 4 = m by omega, show (4 * m + r) % 4 = r by omega]
set_option maxHeartbeats 400000 in
theorem C_X8_put {d : Nat} {g : Gs} {h : Hc} {P : Po} {X L : Nat} {x : Int} (hG : ClG g X) (hN : h (X + 1) 3 = (L : Int)) (hL : L + 4 ≤ 400) (K : ∀ h', Off (fun q => q = X + 1 ∨ q = X + 2) h h' → (∀ k, k ≠ 3 → h' (X + 1) k = h (X + 1) k) → h' (X + 1) 3 = ((L + 4 : Nat) : Int) → (∀ k, k < L → h' (X + 2) k = h (X + 2) k) → (∀ k, k < 4 → h' (X + 2) (L + k) = pbI x k) → P (.inl none) g h') : Call (d + 0) 0 0 mX8_put [vR (X + 1), vI x] g h P := by
  refine Call_of rfl ⟨by decide +kernel, rfl⟩ (Nat.le_of_ble_eq_true rfl) rfl ?_
  refine R_bipush dX8_put_0 (by decide) ?_
  refine iS2 dX8_put_2 ?_
  refine eqI2 (v := 24 - 8 * ((0 : Nat) : Int)) (by omega) ?_
  refine loopN 4 (fun i => ∀ hK : Hc, Off (fun q => q = X + 1 ∨ q = X + 2) h hK → (∀ k, k ≠ 3 → hK (X + 1) k = h (X + 1) k) → hK (X + 1) 3 = ((L + i : Nat) : Int) → (∀ k, k < L → hK (X + 2) k = h (X + 2) k) → (∀ k, k < i → hK (X + 2) (L + k) = pbI x k) → Run (d + 0) 0 0 mX8_put 3 [vR (X + 1), vI x, vI (24 - 8 * (i : Int))] [] g hK P) (fun i hci ihi hK hO hF hN hA hB => ?_) 0 (Nat.zero_le _) h (Off.rf _ _) (fun _ _ => rfl) hN (fun _ _ => rfl) (fun _ h9 => absurd h9 (Nat.not_lt_zero _))
  refine iL2 dX8_put_3 ?_
  refine R_if_lt dX8_put_4 (fun hb4 => ?_) (fun hb4 => ?_)
  · have e9 : i = 4 := by omega
    subst e9
    exact R_vret dX8_put_49 rfl (K _ hO hF hN hA hB)
  · refine aL0 dX8_put_7 ?_
    refine R_getI dX8_put_8 fX8_21.r hG.tape ?_
    refine topV (v := (((L + i) : Nat) : Int)) (hN) ?_
    refine R_sipush dX8_put_11 (by decide) ?_
    refine R_icmp_ge dX8_put_14 (fun hb14 => ?_) (fun hb14 => ?_)
    · omega
    · refine aL0 dX8_put_17 ?_
      refine R_getR dX8_put_18 fX8_11.r hG.tape rfl ?_
      refine aL0 dX8_put_21 ?_
      refine R_getI dX8_put_22 fX8_21.r hG.tape ?_
      refine topV (v := (((L + i) : Nat) : Int)) (hN) ?_
      refine iL1 dX8_put_25 ?_
      refine iL2 dX8_put_26 ?_
      refine R_iushr dX8_put_27 ?_
      refine R_sipush dX8_put_28 (by decide) ?_
      refine R_iand dX8_put_31 ?_
      refine iastN dX8_put_32 hG.t2 rfl (by omega) ?_
      refine storH (fun h21 e21 => ?_)
      refine aL0 dX8_put_33 ?_
      refine dupR dX8_put_34 ?_
      refine R_getI dX8_put_35 fX8_21.r hG.tape ?_
      refine topV (v := (((L + i) : Nat) : Int)) (by rw [e21, updH_a (by omega)]; exact hN) ?_
      refine R_iconst_1 dX8_put_38 ?_
      refine addV dX8_put_39 (v := ((((L + i) + 1) : Nat) : Int)) (by rw [wid (by omega) (by omega)]; omega) ?_
      refine R_putI dX8_put_40 fX8_21 hG.tape ?_
      refine storH (fun h22 e22 => ?_)
      refine iInc2 dX8_put_43 (wid (by omega) (by omega)) ?_
      refine R_goto dX8_put_46 ?_
      refine eqI2 (v := 24 - 8 * ((i + 1 : Nat) : Int)) (by omega) ?_
      exact ihi (by omega) _ (by rw [e22, e21]; exact (hO.upd (Or.inr rfl)).upd (Or.inl rfl)) (fun k hk => by rw [e22, updH_i hk, e21, updH_a (by omega)]; exact hF k hk) (by rw [e22, updH_s]; omega) (fun k hk => by rw [e22, updH_a (by omega), e21, updH_i (by omega)]; exact hA k hk) (fun k hk => by
          rw [e22, updH_a (by omega), e21]
          by_cases e8 : k = i
          · subst e8; rw [updH_s]; unfold pbI; rw [show ((24 - 8 * k : Nat) : Int) = 24 - 8 * (k : Int) by omega]
          · rw [updH_i (by omega)]; exact hB k (by omega))
theorem fd_all {f1 f2 f3 f4 f5 : Nat → Int} {L : Nat} {a b c x y : Int} (b1 : ∀ k, k < 4 → f1 (L + k) = pbI a k) (a2 : ∀ k, k < L + 4 → f2 k = f1 k) (b2 : ∀ k, k < 4 → f2 (L + 4 + k) = pbI b k) (a3 : ∀ k, k < L + 8 → f3 k = f2 k) (b3 : ∀ k, k < 4 → f3 (L + 8 + k) = pbI c k) (a4 : ∀ k, k < L + 12 → f4 k = f3 k) (b4 : ∀ k, k < 4 → f4 (L + 12 + k) = pbI x k) (a5 : ∀ k, k < L + 16 → f5 k = f4 k) (b5 : ∀ k, k < 4 → f5 (L + 16 + k) = pbI y k) :
    ∀ i, i < 20 → f5 (L + i) = byB (fdX a b c x y) i := by
  intro i hi
  obtain ⟨m, r, hm, hr, rfl⟩ : ∃ m r, m < 5 ∧ r < 4 ∧ i = 4 * m + r := ⟨i / 4, i % 4, by omega, by omega, by omega⟩
  rw [byB_pb _ m r hr]
  have : m = 0 ∨ m = 1 ∨ m = 2 ∨ m = 3 ∨ m = 4 := by omega
  rcases this with q | q | q | q | q <;> subst q
  · rw [a5 _ (by omega), a4 _ (by omega), a3 _ (by omega), a2 _ (by omega), show L + (4 * 0 + r) = L + r by omega, b1 r hr]; rfl
  · rw [a5 _ (by omega), a4 _ (by omega), a3 _ (by omega), show L + (4 * 1 + r) = L + 4 + r by omega, b2 r hr]; rfl
  · rw [a5 _ (by omega), a4 _ (by omega), show L + (4 * 2 + r) = L + 8 + r by omega, b3 r hr]; rfl
  · rw [a5 _ (by omega), show L + (4 * 3 + r) = L + 12 + r by omega, b4 r hr]; rfl
  · rw [show L + (4 * 4 + r) = L + 16 + r by omega, b5 r hr]; rfl
set_option maxHeartbeats 400000 in
theorem C_X11_feed {d : Nat} {g : Gs} {h : Hc} {P : Po} {X L : Nat} {a b c x y : Int} (hG : ClG g X) (hN : h (X + 1) 3 = (L : Int)) (hL : L ≤ 400) (KN : 400 < L + 20 → P (.inl (some (vI (-1)))) g h) (K1 : L + 20 ≤ 400 → ∀ h', Off (fun q => q = X + 1 ∨ q = X + 2) h h' → (∀ k, k ≠ 3 → h' (X + 1) k = h (X + 1) k) → h' (X + 1) 3 = ((L + 20 : Nat) : Int) → (∀ k, k < L → h' (X + 2) k = h (X + 2) k) → (∀ i, i < 20 → h' (X + 2) (L + i) = byB (fdX a b c x y) i) → P (.inl (some (vI ((L + 20 : Nat) : Int)))) g h') : Call (d + 1) 0 0 mX11_feed [vR X, vI a, vI b, vI c, vI x, vI y] g h P := by
  refine Call_of rfl ⟨by decide +kernel, rfl⟩ (Nat.le_of_ble_eq_true rfl) rfl ?_
  refine aL0 dX11_feed_0 ?_
  refine R_getR dX11_feed_1 fX11_12.r hG.o rfl ?_
  refine R_getI dX11_feed_4 fX11_103.r hG.tape ?_
  refine topV (v := ((L : Nat) : Int)) (hN) ?_
  refine R_bipush dX11_feed_7 (by decide) ?_
  refine addV dX11_feed_9 (v := (((L + 20) : Nat) : Int)) (by rw [wid (by omega) (by omega)]; omega) ?_
  refine R_sipush dX11_feed_10 (by decide) ?_
  refine R_icmp_le dX11_feed_13 (fun hb13 => ?_) (fun hb13 => ?_)
  · refine aL0 dX11_feed_18 ?_
    refine R_getR dX11_feed_19 fX11_12.r hG.o rfl ?_
    refine iL1 dX11_feed_22 ?_
    refine invV1 rfl dX11_feed_23 kX11_106 hG.tape (Nat.le_of_ble_eq_true rfl) (Nat.zero_le _) (Nat.zero_le _) (C_X8_put hG (L := L) hN (by omega) (fun h1 hO1 hF1 hN1 hA1 hB1 => konV ?_))
    replace hN1 : h1 (X + 1) 3 = ((L + 4 : Nat) : Int) := by rw [hN1]
    refine aL0 dX11_feed_26 ?_
    refine R_getR dX11_feed_27 fX11_12.r hG.o rfl ?_
    refine iL2 dX11_feed_30 ?_
    refine invV1 rfl dX11_feed_31 kX11_106 hG.tape (Nat.le_of_ble_eq_true rfl) (Nat.zero_le _) (Nat.zero_le _) (C_X8_put hG (L := (L + 4)) hN1 (by omega) (fun h2 hO2 hF2 hN2 hA2 hB2 => konV ?_))
    replace hN2 : h2 (X + 1) 3 = ((L + 8 : Nat) : Int) := by rw [hN2]
    refine aL0 dX11_feed_34 ?_
    refine R_getR dX11_feed_35 fX11_12.r hG.o rfl ?_
    refine iL3 dX11_feed_38 ?_
    refine invV1 rfl dX11_feed_39 kX11_106 hG.tape (Nat.le_of_ble_eq_true rfl) (Nat.zero_le _) (Nat.zero_le _) (C_X8_put hG (L := (L + 8)) hN2 (by omega) (fun h3 hO3 hF3 hN3 hA3 hB3 => konV ?_))
    replace hN3 : h3 (X + 1) 3 = ((L + 12 : Nat) : Int) := by rw [hN3]
    refine aL0 dX11_feed_42 ?_
    refine R_getR dX11_feed_43 fX11_12.r hG.o rfl ?_
    refine iL4 dX11_feed_46 ?_
    refine invV1 rfl dX11_feed_48 kX11_106 hG.tape (Nat.le_of_ble_eq_true rfl) (Nat.zero_le _) (Nat.zero_le _) (C_X8_put hG (L := (L + 12)) hN3 (by omega) (fun h4 hO4 hF4 hN4 hA4 hB4 => konV ?_))
    replace hN4 : h4 (X + 1) 3 = ((L + 16 : Nat) : Int) := by rw [hN4]
    refine aL0 dX11_feed_51 ?_
    refine R_getR dX11_feed_52 fX11_12.r hG.o rfl ?_
    refine iL5 dX11_feed_55 ?_
    refine invV1 rfl dX11_feed_57 kX11_106 hG.tape (Nat.le_of_ble_eq_true rfl) (Nat.zero_le _) (Nat.zero_le _) (C_X8_put hG (L := (L + 16)) hN4 (by omega) (fun h5 hO5 hF5 hN5 hA5 hB5 => konV ?_))
    replace hN5 : h5 (X + 1) 3 = ((L + 20 : Nat) : Int) := by rw [hN5]
    refine aL0 dX11_feed_60 ?_
    refine R_getR dX11_feed_61 fX11_12.r hG.o rfl ?_
    refine R_getI dX11_feed_64 fX11_103.r hG.tape ?_
    refine topV (v := (((L + 20) : Nat) : Int)) (hN5) ?_
    exact R_iret dX11_feed_67 rfl (K1 (by omega) _ ((((hO1.tr hO2).tr hO3).tr hO4).tr hO5) (fun k hk => by rw [hF5 k hk, hF4 k hk, hF3 k hk, hF2 k hk, hF1 k hk]) hN5 (fun k hk => by rw [hA5 k (by omega), hA4 k (by omega), hA3 k (by omega), hA2 k (by omega), hA1 k hk]) (fd_all hB1 hA2 hB2 hA3 hB3 hA4 hB4 hA5 hB5))
  · refine R_iconst_m1 dX11_feed_16 ?_
    exact R_iret dX11_feed_17 rfl (KN (by omega))
set_option maxHeartbeats 400000 in
theorem C_X11_end {d : Nat} {g : Gs} {h : Hc} {P : Po} {X L : Nat} {x : Int} (hG : ClG g X) (hN : h (X + 1) 3 = (L : Int)) (KN : ¬ (0 ≤ x ∧ x ≤ (L : Int)) → P (.inl (some (vI 0))) g h) (K1 : 0 ≤ x ∧ x ≤ (L : Int) → P (.inl (some (vI 1))) g (updH h (X + 1) 3 x)) : Call (d + 0) 0 0 mX11_end [vR X, vI x] g h P := by
  refine Call_of rfl ⟨by decide +kernel, rfl⟩ (Nat.le_of_ble_eq_true rfl) rfl ?_
  refine iL1 dX11_end_0 ?_
  refine R_if_lt dX11_end_1 (fun hb1 => ?_) (fun hb1 => ?_)
  · refine R_iconst_0 dX11_end_15 ?_
    exact R_zret dX11_end_16 rfl (by decide) (KN (by omega))
  · refine iL1 dX11_end_4 ?_
    refine aL0 dX11_end_5 ?_
    refine R_getR dX11_end_6 fX11_12.r hG.o rfl ?_
    refine R_getI dX11_end_9 fX11_103.r hG.tape ?_
    refine topV (v := (L : Int)) (hN) ?_
    refine R_icmp_le dX11_end_12 (fun hb12 => ?_) (fun hb12 => ?_)
    · refine aL0 dX11_end_17 ?_
      refine R_getR dX11_end_18 fX11_12.r hG.o rfl ?_
      refine iL1 dX11_end_21 ?_
      refine R_putI dX11_end_22 fX11_103 hG.tape ?_
      refine R_iconst_1 dX11_end_25 ?_
      exact R_zret dX11_end_26 rfl (by decide) (K1 (by omega))
    · refine R_iconst_0 dX11_end_15 ?_
      exact R_zret dX11_end_16 rfl (by decide) (KN (by omega))
set_option maxHeartbeats 400000 in
theorem C_X8_useUp {d : Nat} {g : Gs} {h : Hc} {P : Po} {X L : Nat} (hG : ClG g X) (hN : h (X + 1) 3 = (L : Int)) (K : P (.inl (some (vI (L : Int)))) g (updH h (X + 1) 3 0)) : Call (d + 0) 0 0 mX8_useUp [vR (X + 1)] g h P := by
  refine Call_of rfl ⟨by decide +kernel, rfl⟩ (Nat.le_of_ble_eq_true rfl) rfl ?_
  refine aL0 dX8_useUp_0 ?_
  refine R_getI dX8_useUp_1 fX8_21.r hG.tape ?_
  refine topV (v := (L : Int)) (hN) ?_
  refine iS1 dX8_useUp_4 ?_
  refine aL0 dX8_useUp_5 ?_
  refine R_iconst_0 dX8_useUp_6 ?_
  refine R_putI dX8_useUp_7 fX8_21 hG.tape ?_
  refine iL1 dX8_useUp_10 ?_
  exact R_iret dX8_useUp_11 rfl (K)
theorem ml_no {w b : Nat → Int} {E q : Nat} (hq : q < E / 3) (h : mlP w b q = false) : mealB w b E = false := by
  unfold mealB
  have h4 : allB (mlP w b) (q + 1) = false := by rw [allB_s, h, Bool.and_false]
  rw [allB_mono h4 (show q + 1 ≤ E / 3 by omega), Bool.and_false]
theorem ml_h {E : Nat} (h : ¬ (E % 3 = 0 ∧ E ≤ 45)) : mlH E = false := by
  unfold mlH
  by_cases a : E % 3 = 0
  · rw [decide_eq_false (p := E ≤ 45) (by omega), Bool.and_false]
  · rw [decide_eq_false a]; rfl
set_option maxHeartbeats 400000 in
theorem C_X11_areMeals {d : Nat} {g : Gs} {h : Hc} {P : Po} {X : Nat} {w : Nat → Int} (hG : ClG g X) (hw : Tw h (X + 5) w) (hf : WF w) {b : Nat → Int} {E : Nat} (hL : E ≤ 400) (hB : ∀ k, k < E → h (X + 2) k = b k) (hB0 : ∀ k, k < E → 0 ≤ b k ∧ b k ≤ 255) (K : P (.inl (some (vI (bI (mealB w b E))))) g h) : Call (d + 0) 0 0 mX11_areMeals [vR X, vI ((E : Nat) : Int)] g h P := by
  have hjd := hf.jud
  have hcs := hf.cas
  have hho := hf.hou
  refine Call_of rfl ⟨by decide +kernel, rfl⟩ (Nat.le_of_ble_eq_true rfl) rfl ?_
  refine iL1 dX11_areMeals_0 ?_
  refine R_bipush dX11_areMeals_1 (by decide) ?_
  refine R_icmp_gt dX11_areMeals_3 (fun hb3 => ?_) (fun hb3 => ?_)
  · refine R_iconst_0 dX11_areMeals_12 ?_
    exact R_zret dX11_areMeals_13 rfl (by decide) (PeqI K (show (0 : Int) = bI (mealB w b E) by unfold mealB; rw [show mlH E = false from ml_h (by omega)]; rfl))
  · refine iL1 dX11_areMeals_6 ?_
    refine R_iconst_3 dX11_areMeals_7 ?_
    refine remV dX11_areMeals_8 (by decide) (v := ((E % 3 : Nat) : Int)) (remN (k := 3) (by omega) (by decide)) ?_
    refine R_if_eq dX11_areMeals_9 (fun hb9 => ?_) (fun hb9 => ?_)
    · refine R_iconst_0 dX11_areMeals_14 ?_
      refine iS2 dX11_areMeals_15 ?_
      have h45 : mlH E = true := by unfold mlH; rw [decide_eq_true (by omega), decide_eq_true (by omega)]; rfl
      refine eqI2 (v := ((3 * 0 : Nat) : Int)) rfl ?_
      refine loopN ((E / 3)) (fun q => allB (mlP w b) q = true → Run (d + 0) 0 0 mX11_areMeals 16 [vR X, vI ((E : Nat) : Int), vI (((3 * q) : Nat) : Int)] [] g h P) (fun q hcnq ihq hal => ?_) (0) (Nat.zero_le _) rfl
      refine iL2 dX11_areMeals_16 ?_
      refine R_iconst_2 dX11_areMeals_17 ?_
      refine addV dX11_areMeals_18 (v := ((((3 * q) + 2) : Nat) : Int)) (by rw [wid (by omega) (by omega)]; omega) ?_
      refine iL1 dX11_areMeals_19 ?_
      refine R_icmp_ge dX11_areMeals_20 (fun hb20 => ?_) (fun hb20 => ?_)
      · refine R_iconst_1 dX11_areMeals_81 ?_
        exact R_zret dX11_areMeals_82 rfl (by decide) (PeqI K (show (1 : Int) = bI (mealB w b E) by unfold mealB; rw [h45, show E / 3 = q by omega, hal]; rfl))
      · refine aL0 dX11_areMeals_23 ?_
        refine R_getR dX11_areMeals_24 fX11_12.r hG.o rfl ?_
        refine R_getR dX11_areMeals_27 fX11_393 hG.tape rfl ?_
        refine iL2 dX11_areMeals_30 ?_
        refine ialdN dX11_areMeals_31 hG.t2 rfl (by omega) ?_
        refine topV (v := b (3 * q)) (hB (3 * q) (by omega)) ?_
        have hq21 := hB0 (3 * q) (by omega)
        refine R_bipush dX11_areMeals_32 (by decide) ?_
        refine R_icmp_ge dX11_areMeals_34 (fun hb34 => ?_) (fun hb34 => ?_)
        · have hml : mlP w b q = false := by unfold mlP; rw [decide_eq_false (p := b (3 * q) < 12) (by omega)]; rfl
          refine R_iconst_0 dX11_areMeals_73 ?_
          exact R_zret dX11_areMeals_74 rfl (by decide) (PeqI K (show (0 : Int) = bI (mealB w b E) by rw [ml_no (q := q) (by omega) hml]; rfl))
        · refine aL0 dX11_areMeals_37 ?_
          refine R_getR dX11_areMeals_38 fX11_12.r hG.o rfl ?_
          refine R_getR dX11_areMeals_41 fX11_393 hG.tape rfl ?_
          refine iL2 dX11_areMeals_44 ?_
          refine R_iconst_1 dX11_areMeals_45 ?_
          refine addV dX11_areMeals_46 (v := ((((3 * q) + 1) : Nat) : Int)) (by rw [wid (by omega) (by omega)]; omega) ?_
          refine ialdN dX11_areMeals_47 hG.t2 rfl (by omega) ?_
          refine topV (v := b ((3 * q) + 1)) (hB ((3 * q) + 1) (by omega)) ?_
          have hq22 := hB0 ((3 * q) + 1) (by omega)
          refine aL0 dX11_areMeals_48 ?_
          refine R_getR dX11_areMeals_49 fX11_19.r hG.o rfl ?_
          refine R_getI dX11_areMeals_52 fX11_290.r hG.now.o ?_
          refine topV (v := w 1) (hw.s1) ?_
          have hq23 := hf.cas
          refine R_icmp_ge dX11_areMeals_55 (fun hb55 => ?_) (fun hb55 => ?_)
          · have hml : mlP w b q = false := by unfold mlP; rw [decide_eq_false (p := b (3 * q + 1) < w 1) (by omega), Bool.false_and, Bool.and_false]
            refine R_iconst_0 dX11_areMeals_73 ?_
            exact R_zret dX11_areMeals_74 rfl (by decide) (PeqI K (show (0 : Int) = bI (mealB w b E) by rw [ml_no (q := q) (by omega) hml]; rfl))
          · refine aL0 dX11_areMeals_58 ?_
            refine R_getR dX11_areMeals_59 fX11_12.r hG.o rfl ?_
            refine R_getR dX11_areMeals_62 fX11_393 hG.tape rfl ?_
            refine iL2 dX11_areMeals_65 ?_
            refine R_iconst_2 dX11_areMeals_66 ?_
            refine addV dX11_areMeals_67 (v := ((((3 * q) + 2) : Nat) : Int)) (by rw [wid (by omega) (by omega)]; omega) ?_
            refine ialdN dX11_areMeals_68 hG.t2 rfl (by omega) ?_
            refine topV (v := b ((3 * q) + 2)) (hB ((3 * q) + 2) (by omega)) ?_
            have hq24 := hB0 ((3 * q) + 2) (by omega)
            refine R_iconst_1 dX11_areMeals_69 ?_
            refine R_icmp_le dX11_areMeals_70 (fun hb70 => ?_) (fun hb70 => ?_)
            · refine iInc2 dX11_areMeals_75 (wid (by omega) (by omega)) ?_
              refine R_goto dX11_areMeals_78 ?_
              exact eqI2 (by omega) (ihq (by omega) (by rw [allB_s, hal, Bool.true_and]; unfold mlP; rw [decide_eq_true (p := b (3 * q) < 12) (by omega), decide_eq_true (p := b (3 * q + 1) < w 1) (by omega), decide_eq_true (p := b (3 * q + 2) ≤ 1) (by omega)]; rfl))
            · have hml : mlP w b q = false := by unfold mlP; rw [decide_eq_false (p := b (3 * q + 2) ≤ 1) (by omega), Bool.and_false, Bool.and_false]
              refine R_iconst_0 dX11_areMeals_73 ?_
              exact R_zret dX11_areMeals_74 rfl (by decide) (PeqI K (show (0 : Int) = bI (mealB w b E) by rw [ml_no (q := q) (by omega) hml]; rfl))
    · refine R_iconst_0 dX11_areMeals_12 ?_
      exact R_zret dX11_areMeals_13 rfl (by decide) (PeqI K (show (0 : Int) = bI (mealB w b E) by unfold mealB; rw [show mlH E = false from ml_h (by omega)]; rfl))
theorem storK {Q : Hc → Prop} {h0 : Hc} (K : ∀ h1, h1 = h0 → Q h1) : Q h0 := K h0 rfl
theorem meal_ok2 {w b : Nat → Int} {E : Nat} (hf : WF w) (hm : mealB w b E = true) (hB : ∀ k, k < E → 0 ≤ b k ∧ b k ≤ 255) : MlOK w b E := by
  obtain ⟨h1, h2, h3⟩ := meal_rows hm
  refine ⟨h1, h2, fun i hi => ?_⟩
  have a := h3 i hi
  have b1 := hB (3 * i) (by omega)
  have b2 := hB (3 * i + 1) (by omega)
  have b3 := hB (3 * i + 2) (by omega)
  omega
set_option maxHeartbeats 1000000 in
theorem C_X11_hungersThatFit {d : Nat} {g : Gs} {h : Hc} {P : Po} {X : Nat} {w : Nat → Int} (hG : ClG g X) (hw : Tw h (X + 5) w) (hf : WF w) (hl : Lw h (X + 53) w) (ho : LawOK w) {b : Nat → Int} {E : Nat} (hN : h (X + 1) 3 = (E : Int)) (hL : E ≤ 400) (hB : ∀ k, k < E → h (X + 2) k = b k) (hB0 : ∀ k, k < E → 0 ≤ b k ∧ b k ≤ 255) {x : Int} (KE1 : ¬ (0 ≤ x ∧ x < w 0) → ∀ h', Off (fun q => q = X + 1) h h' → (∀ k, k ≠ 3 → h' (X + 1) k = h (X + 1) k) → h' (X + 1) 3 = 0 → P (.inr xIO) g h') (KE2 : 0 ≤ x ∧ x < w 0 → mealB w b E = false → ∀ h', Off (fun q => q = X + 1) h h' → (∀ k, k ≠ 3 → h' (X + 1) k = h (X + 1) k) → h' (X + 1) 3 = 0 → P (.inr xIA) g h') (K0 : ∀ j : Nat, x = (j : Int) → (j : Int) < w 0 → mealB w b E = true → ∀ h', Off (fun q => q = X + 1 ∨ scr (X + 73) (X + 53) q) h h' → (∀ k, k ≠ 3 → h' (X + 1) k = h (X + 1) k) → h' (X + 1) 3 = 0 → P (.inl (some (vL ((nset (fitB w b j E) 61 : Nat) : Int)))) g h') : Call (d + 5) 2 12 mX11_hungersThatFit [vR X, vI x] g h P := by
  have hjd := hf.jud
  have hcs := hf.cas
  have hho := hf.hou
  refine Call_of rfl ⟨by decide +kernel, rfl⟩ (Nat.le_of_ble_eq_true rfl) rfl ?_
  refine aL0 dX11_hungersThatFit_0 ?_
  refine R_getR dX11_hungersThatFit_1 fX11_12.r hG.o rfl ?_
  refine invV0 rfl dX11_hungersThatFit_4 kX11_386 hG.tape (Nat.le_of_ble_eq_true rfl) (Nat.zero_le _) (Nat.zero_le _) (C_X8_useUp hG hN (storK (fun h1 e1 => konI ?_)))
  replace hw : Tw h1 (X + 5) w := by rw [e1]; exact hw.off ((Off.rf (fun q => q = X + 1) _).upd rfl) (fun i hi => by omega)
  replace hl : Lw h1 (X + 53) w := by rw [e1]; exact hl.off ((Off.rf (fun q => q = X + 1) _).upd rfl) (fun i hi => by omega)
  replace hB : ∀ k, k < E → h1 (X + 2) k = b k := fun k hk => by rw [e1, updH_a (by omega)]; exact hB k hk
  have hO1 : Off (fun q => q = X + 1) h h1 := by rw [e1]; exact (Off.rf _ _).upd rfl
  have hF1 : ∀ k, k ≠ 3 → h1 (X + 1) k = h (X + 1) k := fun k hk => by rw [e1, updH_i hk]
  have hN1 : h1 (X + 1) 3 = 0 := by rw [e1, updH_s]
  refine iS2 dX11_hungersThatFit_7 ?_
  refine aL0 dX11_hungersThatFit_8 ?_
  refine iL1 dX11_hungersThatFit_9 ?_
  refine invV1 rfl dX11_hungersThatFit_10 kX11_143 hG.o (Nat.le_of_ble_eq_true rfl) (by decide) (by decide) (C_X11_needJudge hG hw hf (fun hn21 => konVm hG.one ?_) (fun hn21 => konEm hG.one (KE1 (by omega) _ hO1 hF1 hN1)))
  obtain ⟨j, rfl⟩ : ∃ j : Nat, x = (j : Int) := ⟨x.toNat, by omega⟩
  refine aL0 dX11_hungersThatFit_13 ?_
  refine iL2 dX11_hungersThatFit_14 ?_
  refine invV1 rfl dX11_hungersThatFit_15 kX11_389 hG.o (Nat.le_of_ble_eq_true rfl) (Nat.zero_le _) (Nat.zero_le _) (C_X11_areMeals hG hw hf hL hB hB0 (konI ?_))
  refine R_ifB_ne dX11_hungersThatFit_18 (fun hb18 => ?_) (fun hb18 => ?_)
  · have hMl := meal_ok2 hf hb18 hB0
    refine aL0 dX11_hungersThatFit_29 ?_
    refine R_getR dX11_hungersThatFit_30 fX11_65.r hG.o rfl ?_
    refine iL1 dX11_hungersThatFit_33 ?_
    refine aL0 dX11_hungersThatFit_34 ?_
    refine R_getR dX11_hungersThatFit_35 fX11_12.r hG.o rfl ?_
    refine R_getR dX11_hungersThatFit_38 fX11_393 hG.tape rfl ?_
    refine iL2 dX11_hungersThatFit_41 ?_
    refine invV3 rfl dX11_hungersThatFit_42 kX11_396 (hG.court hw hf hl ho).ct (Nat.le_of_ble_eq_true rfl) (Nat.zero_le _) (Nat.zero_le _) (C_X1_fittingHungers (hG.court hw hf hl ho) (T := b) (by omega) hG.t2 (by unfold scr; omega) (fun i hi => hB i hi) hMl.2.1 hMl.1 (fun i hi => hMl.2.2 i (by omega)) (fun h9 hx9 => konI ?_))
    exact R_lret dX11_hungersThatFit_45 rfl (K0 j rfl (by omega) hb18 _ (fun a ha => by rw [hx9 a (fun h9 => ha (Or.inr h9)), hO1 a (fun h9 => ha (Or.inl h9))]) (fun k hk => by rw [hx9 (X + 1) (by unfold scr; omega)]; exact hF1 k hk) (by rw [hx9 (X + 1) (by unfold scr; omega)]; exact hN1))
  · exact R_throw rfl dX11_hungersThatFit_21 dX11_hungersThatFit_24 dX11_hungersThatFit_25 dX11_hungersThatFit_28 tX11_121 hG.one (Nat.le_of_ble_eq_true rfl) (by decide) (by decide) (KE2 (by omega) hb18 _ hO1 hF1 hN1)
