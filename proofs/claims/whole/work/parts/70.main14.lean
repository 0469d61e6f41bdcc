theorem bI_ne {b : Bool} (h : ¬ bI b = 0) : b = true := by
  cases b with
  | true => rfl
  | false => exact absurd rfl h
theorem ff_none {p : Nat → Bool} {n : Nat} (h : ∀ k, k < n → p k = false) : ff p 0 n = -1 := by
  rcases ff_rng (p := p) (n := n) (k := 0) rfl with h9 | ⟨k, h1, hk, h2, h8⟩
  · exact h9
  · first
    | (rw [h k hk] at h8; cases h8)
    | (rw [h k h1] at h8; cases h8)
    | (rw [h k h2] at h8; cases h8)
set_option maxHeartbeats 1000000 in
theorem C_X11_meals {d : Nat} {g : Gs} {h : Hc} {P : Po} {X : Nat} {w : Nat → Int} (hG : ClG g X) (hw : Tw h (X + 5) w) (hf : WF w) (hl : Lw h (X + 53) w) (ho : LawOK w) {b : Nat → Int} {E : Nat} (hN : h (X + 1) 3 = (E : Int)) (hL : E ≤ 400) (hB : ∀ k, k < E → h (X + 2) k = b k) (hB0 : ∀ k, k < E → 0 ≤ b k ∧ b k ≤ 255) {x : Int} {bl : Bool} (KE1 : ¬ (0 ≤ x ∧ x < w 0) → ∀ h', Off (fun q => q = X + 1) h h' → (∀ k, k ≠ 3 → h' (X + 1) k = h (X + 1) k) → h' (X + 1) 3 = 0 → P (.inr xIO) g h') (KE2 : 0 ≤ x ∧ x < w 0 → mealB w b E = false → ∀ h', Off (fun q => q = X + 1) h h' → (∀ k, k ≠ 3 → h' (X + 1) k = h (X + 1) k) → h' (X + 1) 3 = 0 → P (.inr xIA) g h') (K0 : ∀ j : Nat, x = (j : Int) → (j : Int) < w 0 → mealB w b E = true → ∀ h', Off (fun q => q = X + 1 ∨ scr (X + 73) (X + 53) q) h h' → (∀ k, k ≠ 3 → h' (X + 1) k = h (X + 1) k) → h' (X + 1) 3 = 0 → P (.inl (some (vI (if bl then ff (fitB w b j E) 0 61 else ((cntB (fitB w b j E) 61 : Nat) : Int))))) g h') : Call (d + 6) 2 12 mX11_meals [vR X, vI x, vI (bI (bl))] g h P := by
  have hjd := hf.jud
  have hcs := hf.cas
  have hho := hf.hou
  refine Call_of rfl ⟨by decide +kernel, rfl⟩ (Nat.le_of_ble_eq_true rfl) rfl ?_
  refine aL0 dX11_meals_0 ?_
  refine iL1 dX11_meals_1 ?_
  refine invV1 rfl dX11_meals_2 kX11_301 hG.o (Nat.le_of_ble_eq_true rfl) (by decide) (by decide) (C_X11_hungersThatFit hG hw hf hl ho hN hL hB hB0 (fun hx h1 p1 p2 p3 => konEm hG.one (KE1 hx _ p1 p2 p3)) (fun hx hm h1 p1 p2 p3 => konEm hG.one (KE2 hx hm _ p1 p2 p3)) (fun j hxj hj hmt h1 p1 p2 p3 => konIm hG.one ?_))
  have hlt : nset (fitB w b j E) 61 < 2305843009213693952 := nset_lt _ 61
  refine lS3 dX11_meals_5 ?_
  refine iL2 dX11_meals_6 ?_
  refine R_ifB_ne dX11_meals_7 (fun hb7 => ?_) (fun hb7 => ?_)
  · refine R_iconst_0 dX11_meals_15 ?_
    refine iS5 dX11_meals_16 ?_
    refine loopN 61 (fun q => (∀ k, k < q → fitB w b j E k = false) → Run (d + 6) (2 - 2) (12 - 12) mX11_meals 18 [vR X, vI x, vI (bI (bl)), vL (((nset (fitB w b j E) 61 : Nat) : Int)), vU, vI ((q : Nat) : Int)] [] g h1 P) (fun q hcq ihq hno => ?_) 0 (Nat.zero_le _) (fun _ h9 => absurd h9 (Nat.not_lt_zero _))
    refine iL5 dX11_meals_18 ?_
    refine R_bipush dX11_meals_20 (by decide) ?_
    refine R_icmp_ge dX11_meals_22 (fun hb22 => ?_) (fun hb22 => ?_)
    · have e9 : q = 61 := by omega
      subst e9
      refine R_iconst_m1 dX11_meals_45 ?_
      exact R_iret dX11_meals_46 rfl (PeqI (K0 j hxj hj hmt _ p1 p2 p3) (by rw [hb7, if_pos rfl]; exact (ff_none hno).symm))
    · refine lL3 dX11_meals_25 ?_
      refine iL5 dX11_meals_26 ?_
      refine R_lshr dX11_meals_28 ?_
      refine R_lconst_1 dX11_meals_29 ?_
      refine R_land dX11_meals_30 ?_
      refine R_lconst_0 dX11_meals_31 ?_
      refine R_lcmp dX11_meals_32 ?_
      refine topV (v := bI (fitB w b j E q)) (by rw [bitL (by omega) (by omega), cmp01, nset_bit, decide_eq_true (p := q < 61) (by omega), Bool.true_and]) ?_
      have hbt : bI (fitB w b j E q) = 0 → fitB w b j E q = false := fun h9 => bI_0.mp h9
      refine R_if_eq dX11_meals_33 (fun hb33 => ?_) (fun hb33 => ?_)
      · refine iInc5 dX11_meals_39 (winc (by omega)) ?_
        refine R_goto dX11_meals_42 ?_
        exact ihq (by omega) (fun k hk => by
            by_cases e8 : k = q
            · subst e8; exact hbt hb33
            · exact hno k (by omega))
      · refine iL5 dX11_meals_36 ?_
        exact R_iret dX11_meals_38 rfl (PeqI (K0 j hxj hj hmt _ p1 p2 p3) (by rw [hb7, if_pos rfl]; exact (ff_at (m := q) rfl (Nat.zero_le _) (by omega) (bI_ne hb33) (fun k _ hk => hno k hk)).symm))
  · refine lL3 dX11_meals_10 ?_
    refine invS1 rfl dX11_meals_11 kX11_305 (Nat.le_of_ble_eq_true rfl) (Nat.zero_le _) (Nat.zero_le _) (C_J13_bitCount_95d88 hlt (konI ?_))
    exact R_iret dX11_meals_14 rfl (PeqI (K0 j hxj hj hmt _ p1 p2 p3) (by rw [hb7, pcN_fit]; rfl))
set_option maxHeartbeats 1000000 in
theorem C_X11_tries {d : Nat} {g : Gs} {h : Hc} {P : Po} {X : Nat} {w : Nat → Int} (hG : ClG g X) (hw : Tw h (X + 5) w) (hf : WF w) (hl : Lw h (X + 53) w) (ho : LawOK w) {b : Nat → Int} {E : Nat} (hN : h (X + 1) 3 = (E : Int)) (hL : E ≤ 400) (hB : ∀ k, k < E → h (X + 2) k = b k) (hB0 : ∀ k, k < E → 0 ≤ b k ∧ b k ≤ 255) {x : Int} (KE1 : ¬ (0 ≤ x ∧ x < w 0) → ∀ h', Off (fun q => q = X + 1) h h' → (∀ k, k ≠ 3 → h' (X + 1) k = h (X + 1) k) → h' (X + 1) 3 = 0 → P (.inr xIO) g h') (KE2 : 0 ≤ x ∧ x < w 0 → mealB w b E = false → ∀ h', Off (fun q => q = X + 1) h h' → (∀ k, k ≠ 3 → h' (X + 1) k = h (X + 1) k) → h' (X + 1) 3 = 0 → P (.inr xIA) g h') (K0 : ∀ j : Nat, x = (j : Int) → (j : Int) < w 0 → mealB w b E = true → ∀ h', Off (fun q => q = X + 1 ∨ scr (X + 73) (X + 53) q) h h' → (∀ k, k ≠ 3 → h' (X + 1) k = h (X + 1) k) → h' (X + 1) 3 = 0 → P (.inl (some (vI (tryW w j (nset (fitB w b j E) 61))))) g h') : Call (d + 6) 2 12 mX11_tries [vR X, vI x] g h P := by
  have hjd := hf.jud
  have hcs := hf.cas
  have hho := hf.hou
  refine Call_of rfl ⟨by decide +kernel, rfl⟩ (Nat.le_of_ble_eq_true rfl) rfl ?_
  refine aL0 dX11_tries_0 ?_
  refine R_getR dX11_tries_1 fX11_65.r hG.o rfl ?_
  refine iL1 dX11_tries_4 ?_
  refine aL0 dX11_tries_5 ?_
  refine iL1 dX11_tries_6 ?_
  refine invV1 rfl dX11_tries_7 kX11_301 hG.o (Nat.le_of_ble_eq_true rfl) (by decide) (by decide) (C_X11_hungersThatFit hG hw hf hl ho hN hL hB hB0 (fun hx h1 p1 p2 p3 => konEm hG.one (KE1 hx _ p1 p2 p3)) (fun hx hm h1 p1 p2 p3 => konEm hG.one (KE2 hx hm _ p1 p2 p3)) (fun j hxj hj hmt h1 p1 p2 p3 => konIm hG.one ?_))
  subst hxj
  have hlt : nset (fitB w b j E) 61 < 2305843009213693952 := nset_lt _ 61
  refine invV2 rfl dX11_tries_10 kX11_310 (hG.court hw hf hl ho).ct (Nat.le_of_ble_eq_true rfl) (Nat.zero_le _) (Nat.zero_le _) (C_X1_bestTry (hG.court (hw.off p1 (fun i hi => by unfold scr; omega)) hf (hl.off p1 (fun i hi => by unfold scr; omega)) ho) (j := j) (by omega) hlt (fun h9 hx9 => konI ?_))
  exact R_iret dX11_tries_13 rfl (K0 j rfl hj hmt _ (fun a ha => by rw [hx9 a (fun h9 => ha (Or.inr h9)), p1 a ha]) (fun k hk => by rw [hx9 (X + 1) (by unfold scr; omega)]; exact p2 k hk) (by rw [hx9 (X + 1) (by unfold scr; omega)]; exact p3))
