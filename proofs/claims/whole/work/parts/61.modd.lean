def mts2 (M : Nat) : Nat → Prop := fun q => q = M + 4 ∨ mos M q
def Mt2 (M : Nat) (h h' : Hc) (t : Int) : Prop := Off (mts2 M) h h' ∧ (∀ k, 0 < k → k < 18 → h' M k = h M k) ∧ h' M 0 = t
theorem Mp.t2 {M : Nat} {h h' : Hc} {t : Int} (p : Mp M h h' t) : Mt2 M h h' t := ⟨p.1.mono (fun _ hq => Or.inr (Or.inr (Or.inr hq))), p.2.1, p.2.2⟩
theorem Mt2.mo {M : Nat} {h h1 h2 : Hc} {t : Int} (a : Mt2 M h h1 t) (b : Mo M h1 h2) : Mt2 M h h2 t := ⟨a.1.tr (b.1.mono (fun _ hq => Or.inr hq)), fun k h0 hk => (b.2 k hk).trans (a.2.1 k h0 hk), (b.2 0 (by omega)).trans a.2.2⟩
theorem Mt2.off {M b : Nat} {h h1 h2 : Hc} {t : Int} (a : Mt2 M h h1 t) (o : Off (fun q => q = b) h1 h2) (hb : b = M + 1 ∨ b = M + 4) : Mt2 M h h2 t := ⟨a.1.tr (o.mono (fun q hq => by unfold mts2 mos mbs mqs; omega)), fun k h0 hk => by rw [o M (by omega)]; exact a.2.1 k h0 hk, by rw [o M (by omega)]; exact a.2.2⟩
theorem sumB_cong {f g : Nat → Int} {p q : Nat → Bool} {n : Nat} (h1 : ∀ k, k < n → f k = g k) (h2 : ∀ k, k < n → p k = q k) : sumB f p n = sumB g q n := foldN_cong (fun k hk x => by rw [h1 k hk, h2 k hk])
theorem worthFr {w : Nat → Int} (hf : WF w) : sumB (fun c => w (102 + 7 * c)) (inStP w 1) (w 1).toNat = worthOf w (inSt w 1) := by
  have hc := hf.cas
  unfold worthOf inSt
  exact sumB_cong (fun _ _ => rfl) (fun k hk => by rw [tb_bset (by omega) (by omega)]; simp [hk])
theorem worthOf_rng {w : Nat → Int} (hf : WF w) (s : Int) : 0 ≤ worthOf w s ∧ worthOf w s ≤ 792 := by
  have hc := hf.cas
  have := sumB_rng (f := fun c => w (102 + 7 * c)) (p := fun c => tb s c) (m := 99) (by omega) (n := (w 1).toNat) (fun k hk => hf.wo (by omega))
  unfold worthOf
  omega
def spM (w : Nat → Int) (n : Nat) (b : Bool) : Nat → Int := foldN (fun q a => if a < 0 then spV w n (q + 1) else if b then mx2 a (spV w n (q + 1)) else mn2 a (spV w n (q + 1))) (-1)
theorem spM_s (w : Nat → Int) (n : Nat) (b : Bool) (q : Nat) : spM w n b (q + 1) = if spM w n b q < 0 then spV w n (q + 1) else if b then mx2 (spM w n b q) (spV w n (q + 1)) else mn2 (spM w n b q) (spV w n (q + 1)) := rfl
theorem spM_0 {w : Nat → Int} {n q : Nat} {b : Bool} (h : spM w n b q < 0) : spV w n (q + 1) = spM w n b (q + 1) := by rw [spM_s, if_pos h]
theorem spM_t {w : Nat → Int} {n q : Nat} {b : Bool} (h : ¬ spM w n b q < 0) (hb : b = true) : mx2 (spM w n b q) (spV w n (q + 1)) = spM w n b (q + 1) := by rw [spM_s, if_neg h, if_pos hb]
theorem spM_f {w : Nat → Int} {n q : Nat} {b : Bool} (h : ¬ spM w n b q < 0) (hb : b = false) : mn2 (spM w n b q) (spV w n (q + 1)) = spM w n b (q + 1) := by rw [spM_s, if_neg h, if_neg (by rw [hb]; decide)]
theorem spV_rng {w : Nat → Int} (hf : WF w) (hl : LawOK w) (n s : Nat) (hs : s ≤ 6) : 0 ≤ spV w n s ∧ spV w n s ≤ 792 := by
  have h7 : in32 (s : Int) := by unfold in32; omega
  exact worthOf_rng (goF_ok (hf.use h7) (hl.same ((SameL.rf w).upd (by omega) (by omega))) true n).1 _
theorem spM_eq {w : Nat → Int} (hf : WF w) (hl : LawOK w) (n : Nat) (b : Bool) : ∀ q, q < 6 → spM w n b (q + 1) = (if b then spG w n (q + 1) else spL w n (q + 1)) ∧ 0 ≤ spM w n b (q + 1) ∧ spM w n b (q + 1) ≤ 792
  | 0, _ => by
    have h1 := spV_rng hf hl n 1 (by omega)
    have e : spM w n b 1 = spV w n 1 := by rw [spM_s]; rfl
    refine ⟨?_, by rw [e]; exact h1⟩
    rw [e]
    cases b
    · rfl
    · show spV w n 1 = mx2 0 (spV w n 1)
      unfold mx2
      split <;> omega
  | q + 1, hq => by
    have ih := spM_eq hf hl n b q (by omega)
    have h1 := spV_rng hf hl n (q + 2) (by omega)
    rw [spM_s, if_neg (by omega)]
    have eG : spG w n (q + 2) = mx2 (spG w n (q + 1)) (spV w n (q + 2)) := rfl
    have eL : spL w n (q + 2) = mn2 (spL w n (q + 1)) (spV w n (q + 2)) := rfl
    cases b
    · have i1 : spM w n false (q + 1) = spL w n (q + 1) := ih.1
      have i2 := ih.2
      rw [i1] at i2 ⊢
      refine ⟨eL.symm, ?_⟩
      show 0 ≤ mn2 _ _ ∧ mn2 _ _ ≤ 792
      unfold mn2
      split <;> omega
    · have i1 : spM w n true (q + 1) = spG w n (q + 1) := ih.1
      have i2 := ih.2
      rw [i1] at i2 ⊢
      refine ⟨eG.symm, ?_⟩
      show 0 ≤ mx2 _ _ ∧ mx2 _ _ ≤ 792
      unfold mx2
      split <;> omega
theorem spM_rng {w : Nat → Int} (hf : WF w) (hl : LawOK w) (n : Nat) (b : Bool) : ∀ q, q ≤ 6 → -1 ≤ spM w n b q ∧ spM w n b q ≤ 792
  | 0, _ => by show (-1 : Int) ≤ -1 ∧ (-1 : Int) ≤ 792; omega
  | q + 1, hq => by have := spM_eq hf hl n b q (by omega); omega
set_option maxHeartbeats 400000 in
theorem C_X12_keepsAll {d : Nat} {g : Gs} {h : Hc} {P : Po} {M : Nat} {w : Nat → Int} (hG : MdG g M) (hW : h (M + 1) = w) (K : ∀ h', Off (fun q => q = M + 4) h h' → (∀ i, i < 516 → h' (M + 4) i = w i) → P (.inl none) g h') : Call (d + 0) 0 0 mX12_keepsAll [vR M] g h P := by
  refine Call_of rfl ⟨by decide +kernel, rfl⟩ (Nat.le_of_ble_eq_true rfl) rfl ?_
  refine R_iconst_0 dX12_keepsAll_0 ?_
  refine iS1 dX12_keepsAll_1 ?_
  refine loopN 516 (fun q => ∀ hK : Hc, Off (fun q => q = M + 4) h hK → (∀ i, i < q → hK (M + 4) i = w i) → Run (d + 0) 0 0 mX12_keepsAll 2 [vR M, vI ((q : Nat) : Int)] [] g hK P) (fun q hcq ihq hK hO hR => ?_) 0 (Nat.zero_le _) h (Off.rf _ _) (fun i hi => absurd hi (Nat.not_lt_zero _))
  refine iL1 dX12_keepsAll_2 ?_
  refine R_sipush dX12_keepsAll_3 (by decide) ?_
  refine R_icmp_ge dX12_keepsAll_6 (fun hb6 => ?_) (fun hb6 => ?_)
  · have e9 : q = 516 := by omega
    subst e9
    exact R_vret dX12_keepsAll_27 rfl (K _ hO hR)
  · refine aL0 dX12_keepsAll_9 ?_
    refine R_getR dX12_keepsAll_10 fX12_23.r hG.o rfl ?_
    refine iL1 dX12_keepsAll_13 ?_
    refine aL0 dX12_keepsAll_14 ?_
    refine R_getR dX12_keepsAll_15 fX12_13.r hG.o rfl ?_
    refine iL1 dX12_keepsAll_18 ?_
    refine ialdN dX12_keepsAll_19 hG.a1 rfl (by omega) ?_
    refine topV (v := w q) (by rw [hO (M + 1) (by omega), hW]) ?_
    refine iastN dX12_keepsAll_20 hG.a4 rfl (by omega) ?_
    refine storH (fun h1 e1 => ?_)
    refine iInc1 dX12_keepsAll_21 (winc (by omega)) ?_
    refine R_goto dX12_keepsAll_24 ?_
    exact ihq (by omega) _ (by rw [e1]; exact hO.upd rfl) (fun i hi => by
        rw [e1]
        by_cases e8 : i = q
        · subst e8; exact updH_s _ _ _ _
        · rw [updH_i e8]; exact hR i (by omega))
set_option maxHeartbeats 400000 in
theorem C_X12_bringsBack {d : Nat} {g : Gs} {h : Hc} {P : Po} {M : Nat} {w : Nat → Int} (hG : MdG g M) (hW : h (M + 1) = w) {v : Nat → Int} (hT : ∀ i, i < 516 → h (M + 4) i = v i) (hS : ∀ i, 516 ≤ i → w i = v i) (K : ∀ h', Off (fun q => q = M + 1) h h' → h' (M + 1) = v → P (.inl none) g h') : Call (d + 0) 0 0 mX12_bringsBack [vR M] g h P := by
  refine Call_of rfl ⟨by decide +kernel, rfl⟩ (Nat.le_of_ble_eq_true rfl) rfl ?_
  refine R_iconst_0 dX12_bringsBack_0 ?_
  refine iS1 dX12_bringsBack_1 ?_
  refine loopN 516 (fun q => ∀ hK : Hc, Off (fun q => q = M + 1) h hK → hK (M + 1) = (fun i => if i < q then v i else w i) → Run (d + 0) 0 0 mX12_bringsBack 2 [vR M, vI ((q : Nat) : Int)] [] g hK P) (fun q hcq ihq hK hO hR => ?_) 0 (Nat.zero_le _) h (Off.rf _ _) (by rw [hW]; funext i; rw [if_neg (Nat.not_lt_zero _)])
  refine iL1 dX12_bringsBack_2 ?_
  refine R_sipush dX12_bringsBack_3 (by decide) ?_
  refine R_icmp_ge dX12_bringsBack_6 (fun hb6 => ?_) (fun hb6 => ?_)
  · have e9 : q = 516 := by omega
    subst e9
    exact R_vret dX12_bringsBack_27 rfl (K _ hO (by
            rw [hR]
            funext i
            by_cases e8 : i < 516
            · rw [if_pos e8]
            · rw [if_neg e8]; exact hS i (by omega)))
  · refine aL0 dX12_bringsBack_9 ?_
    refine R_getR dX12_bringsBack_10 fX12_13.r hG.o rfl ?_
    refine iL1 dX12_bringsBack_13 ?_
    refine aL0 dX12_bringsBack_14 ?_
    refine R_getR dX12_bringsBack_15 fX12_23.r hG.o rfl ?_
    refine iL1 dX12_bringsBack_18 ?_
    refine ialdN dX12_bringsBack_19 hG.a4 rfl (by omega) ?_
    refine topV (v := v q) (by rw [hO (M + 4) (by omega)]; exact hT _ (by omega)) ?_
    refine iastN dX12_bringsBack_20 hG.a1 rfl (by omega) ?_
    refine storH (fun h1 e1 => ?_)
    refine iInc1 dX12_bringsBack_21 (winc (by omega)) ?_
    refine R_goto dX12_bringsBack_24 ?_
    exact ihq (by omega) _ (by rw [e1]; exact hO.upd rfl) (by
        rw [e1, updH_r, hR]
        funext i
        unfold updW
        dsimp only
        by_cases e8 : i = q
        · rw [if_pos e8, if_pos (by omega), e8]
        · rw [if_neg e8]
          by_cases e7 : i < q
          · rw [if_pos e7, if_pos (by omega)]
          · rw [if_neg e7, if_neg (by omega)])
set_option maxHeartbeats 400000 in
theorem C_X12_noAhead {d : Nat} {g : Gs} {h : Hc} {P : Po} {x : Int} (K : P (.inl (some (vI (bI (noB x 49))))) g h) : Call (d + 1) 0 0 mX12_noAhead [vI x] g h P := by
  refine Call_of rfl ⟨by decide +kernel, rfl⟩ (Nat.le_of_ble_eq_true rfl) rfl ?_
  suffices J1 : Run (d + 1) 0 0 mX12_noAhead 15 [vI x] [vI (bI (noB x 49))] g h P by
    refine iL0 dX12_noAhead_0 ?_
    refine R_iconst_0 dX12_noAhead_1 ?_
    refine R_bipush dX12_noAhead_2 (by decide) ?_
    refine invS3 rfl dX12_noAhead_4 kX12_101 (Nat.le_of_ble_eq_true rfl) (Nat.zero_le _) (Nat.zero_le _) (C_X12_in (konI ?_))
    refine R_ifB_ne dX12_noAhead_7 (fun hb7 => ?_) (fun hb7 => ?_)
    · refine R_iconst_0 dX12_noAhead_14 ?_
      exact topV (v := bI (noB x 49)) (by first | (rw [bI_t (by simp at hb7; simp [noB]; omega)]; done) | (rw [bI_f (by simp at hb7; simp [noB]; omega)]; done)) J1
    · refine R_iconst_1 dX12_noAhead_10 ?_
      refine R_goto dX12_noAhead_11 ?_
      exact topV (v := bI (noB x 49)) (by first | (rw [bI_t (by simp at hb7; simp [noB]; omega)]; done) | (rw [bI_f (by simp at hb7; simp [noB]; omega)]; done)) J1
  exact R_zret dX12_noAhead_15 rfl (bI01 _) (K)
set_option maxHeartbeats 400000 in
theorem C_X12_ahead {d : Nat} {g : Gs} {h : Hc} {P : Po} {M : Nat} {w : Nat → Int} (hG : MdG g M) (hW : h (M + 1) = w) (hf : WF w) (hl : LawOK w) {x y : Int} (KE1 : ¬ (0 ≤ x ∧ x < w 1) → ∀ h', Mp M h h' 1 → P (.inl (some (vI 0))) g h') (KE2 : 0 ≤ x ∧ x < w 1 → ¬ (0 ≤ y ∧ y ≤ 48) → ∀ h', Mp M h h' 2 → P (.inl (some (vI 0))) g h') (K0 : ∀ c n : Nat, x = (c : Int) → y = (n : Int) → (c : Int) < w 1 → n ≤ 48 → ∀ h', Mt2 M h h' 0 → h' (M + 1) = w → P (.inl (some (vI ((goF w false n).1 (104 + 7 * c))))) g h') : Call (d + 12) 0 0 mX12_ahead [vR M, vI x, vI y] g h P := by
  have hcs := hf.cas
  have hjd := hf.jud
  have hho := hf.hou
  refine Call_of rfl ⟨by decide +kernel, rfl⟩ (Nat.le_of_ble_eq_true rfl) rfl ?_
  refine aL0 dX12_ahead_0 ?_
  refine R_iconst_0 dX12_ahead_1 ?_
  refine R_putI dX12_ahead_2 fX12_3 hG.o ?_
  refine storH (fun h1 e1 => ?_)
  have hP : Mp M h h1 0 := by rw [e1]; exact Mp.i h M
  replace hW : h1 (M + 1) = w := hP.w hW
  have hQ : Mz M h1 h1 := Mz.rf _ _
  refine aL0 dX12_ahead_5 ?_
  refine aL0 dX12_ahead_6 ?_
  refine iL1 dX12_ahead_7 ?_
  refine invV1 rfl dX12_ahead_8 kX12_404 hG.o (Nat.le_of_ble_eq_true rfl) (Nat.zero_le _) (Nat.zero_le _) (C_X12_noCase hG hW hf (konI ?_))
  refine R_iconst_1 dX12_ahead_11 ?_
  refine invV2 rfl dX12_ahead_12 kX12_274 hG.o (Nat.le_of_ble_eq_true rfl) (Nat.zero_le _) (Nat.zero_le _) (C_X12_throwsIf hG (fun h11 hth11 => konI ?_))
  have hPE11 : ∀ hbb : (noB x (w 1)) = true, Mp M h h11 1 := fun hbb => hth11.t (hP.q hQ) hbb
  have hQE11 : ∀ hbb : (noB x (w 1)) = false, Mz M h1 h11 := fun hbb => hth11.q hQ hbb
  have hWE11 : ∀ hbb : (noB x (w 1)) = false, h11 (M + 1) = w := fun hbb => hth11.w hW hbb
  refine R_ifB_ne dX12_ahead_15 (fun hb15 => ?_) (fun hb15 => ?_)
  · have hPX := hPE11 hb15
    refine R_iconst_0 dX12_ahead_30 ?_
    exact R_iret dX12_ahead_31 rfl (KE1 (noB_t hb15) _ hPX)
  · replace hQ := hQE11 hb15
    replace hW := hWE11 hb15
    have hx1 := noB_f hb15
    obtain ⟨c, rfl⟩ : ∃ c : Nat, x = (c : Int) := ⟨x.toNat, by omega⟩
    refine aL0 dX12_ahead_18 ?_
    refine iL2 dX12_ahead_19 ?_
    refine invS1 rfl dX12_ahead_20 kX12_490 (Nat.le_of_ble_eq_true rfl) (Nat.zero_le _) (Nat.zero_le _) (C_X12_noAhead (konI ?_))
    refine R_iconst_2 dX12_ahead_23 ?_
    refine invV2 rfl dX12_ahead_24 kX12_274 hG.o (Nat.le_of_ble_eq_true rfl) (Nat.zero_le _) (Nat.zero_le _) (C_X12_throwsIf hG (fun h12 hth12 => konI ?_))
    have hPE12 : ∀ hbb : (noB y 49) = true, Mp M h h12 2 := fun hbb => hth12.t (hP.q hQ) hbb
    have hQE12 : ∀ hbb : (noB y 49) = false, Mz M h1 h12 := fun hbb => hth12.q hQ hbb
    have hWE12 : ∀ hbb : (noB y 49) = false, h12 (M + 1) = w := fun hbb => hth12.w hW hbb
    refine R_ifB_eq dX12_ahead_27 (fun hb27 => ?_) (fun hb27 => ?_)
    · replace hQ := hQE12 hb27
      replace hW := hWE12 hb27
      have hx2 := noB_f hb27
      obtain ⟨n, rfl⟩ : ∃ n : Nat, y = (n : Int) := ⟨y.toNat, by omega⟩
      have hMT : Mt2 M h _ 0 := (hP.q hQ).t2
      refine aL0 dX12_ahead_32 ?_
      refine invV0 rfl dX12_ahead_33 kX12_493 hG.o (Nat.le_of_ble_eq_true rfl) (Nat.zero_le _) (Nat.zero_le _) (C_X12_keepsAll hG hW (fun h13 hx13 hkp => konV ?_))
      replace hMT := hMT.off hx13 (Or.inr rfl)
      replace hW : h13 (M + 1) = w := by rw [hx13 _ (by omega)]; exact hW
      refine aL0 dX12_ahead_36 ?_
      refine iL2 dX12_ahead_37 ?_
      refine R_iconst_1 dX12_ahead_38 ?_
      refine invV2 rfl dX12_ahead_39 kX12_371 hG.o (Nat.le_of_ble_eq_true rfl) (Nat.zero_le _) (Nat.zero_le _) (C_X12_goesOn (b := true) hG hW hf hl (by omega) (fun h14 hx14 hy14 => konI ?_))
      replace hMT := hMT.mo hx14
      replace hW := hy14
      have hk4 : h14 (M + 4) = _ := hx14.1 (M + 4) (by unfold mos mbs mqs; omega)
      obtain ⟨hfG, hg1, hgs, -⟩ := goF_ok hf hl false n
      have hfV := hf
      have hlV := hl
      replace hf := hfG
      replace hl := hl.same hgs
      refine popI dX12_ahead_42 ?_
      refine aL0 dX12_ahead_43 ?_
      refine iL1 dX12_ahead_44 ?_
      refine R_iconst_4 dX12_ahead_45 ?_
      refine invV2 rfl dX12_ahead_46 kX12_87 hG.o (Nat.le_of_ble_eq_true rfl) (Nat.zero_le _) (Nat.zero_le _) (C_X12_of hG hW (b := 4) (i := 104 + 7 * c) (by omega) (by omega) (konI ?_))
      have hq15 := hf.st (c := c) (by omega)
      refine iS3 dX12_ahead_49 ?_
      refine aL0 dX12_ahead_50 ?_
      refine invV0 rfl dX12_ahead_51 kX12_496 hG.o (Nat.le_of_ble_eq_true rfl) (Nat.zero_le _) (Nat.zero_le _) (C_X12_bringsBack (v := w) hG hW (fun i hi => by rw [hk4]; exact hkp i hi) (fun i hi => hgs i (Or.inr hi)) (fun h16 hx16 hy16 => konV ?_))
      replace hMT := hMT.off hx16 (Or.inl rfl)
      replace hW := hy16
      have hbx := hx16
      refine iL3 dX12_ahead_54 ?_
      exact R_iret dX12_ahead_55 rfl (K0 c n rfl rfl (by omega) (by omega) _ hMT hW)
    · have hPX := hPE12 hb27
      refine R_iconst_0 dX12_ahead_30 ?_
      exact R_iret dX12_ahead_31 rfl (KE2 (by omega) (fun h9 => noB_t hb27 (by omega)) _ hPX)
set_option maxHeartbeats 400000 in
theorem C_X12_trial {d : Nat} {g : Gs} {h : Hc} {P : Po} {M : Nat} {w : Nat → Int} (hG : MdG g M) (hW : h (M + 1) = w) (hf : WF w) (hl : LawOK w) {x : Int} {b : Bool} (KE : ¬ (0 ≤ x ∧ x ≤ 48) → ∀ h', Mp M h h' 1 → P (.inl (some (vI 0))) g h') (K0 : ∀ n : Nat, x = (n : Int) → n ≤ 48 → ∀ h', Mt2 M h h' 0 → h' (M + 1) = w → P (.inl (some (vI (inSt (goF w true n).1 (if b then 3 else 1))))) g h') : Call (d + 12) 0 0 mX12_trial [vR M, vI x, vI (bI (b))] g h P := by
  have hcs := hf.cas
  have hjd := hf.jud
  have hho := hf.hou
  refine Call_of rfl ⟨by decide +kernel, rfl⟩ (Nat.le_of_ble_eq_true rfl) rfl ?_
  refine aL0 dX12_trial_0 ?_
  refine R_iconst_0 dX12_trial_1 ?_
  refine R_putI dX12_trial_2 fX12_3 hG.o ?_
  refine storH (fun h1 e1 => ?_)
  have hP : Mp M h h1 0 := by rw [e1]; exact Mp.i h M
  replace hW : h1 (M + 1) = w := hP.w hW
  have hQ : Mz M h1 h1 := Mz.rf _ _
  refine aL0 dX12_trial_5 ?_
  refine iL1 dX12_trial_6 ?_
  refine invS1 rfl dX12_trial_7 kX12_490 (Nat.le_of_ble_eq_true rfl) (Nat.zero_le _) (Nat.zero_le _) (C_X12_noAhead (konI ?_))
  refine R_iconst_1 dX12_trial_10 ?_
  refine invV2 rfl dX12_trial_11 kX12_274 hG.o (Nat.le_of_ble_eq_true rfl) (Nat.zero_le _) (Nat.zero_le _) (C_X12_throwsIf hG (fun h11 hth11 => konI ?_))
  have hPE11 : ∀ hbb : (noB x 49) = true, Mp M h h11 1 := fun hbb => hth11.t (hP.q hQ) hbb
  have hQE11 : ∀ hbb : (noB x 49) = false, Mz M h1 h11 := fun hbb => hth11.q hQ hbb
  have hWE11 : ∀ hbb : (noB x 49) = false, h11 (M + 1) = w := fun hbb => hth11.w hW hbb
  refine R_ifB_eq dX12_trial_14 (fun hb14 => ?_) (fun hb14 => ?_)
  · replace hQ := hQE11 hb14
    replace hW := hWE11 hb14
    have hx2 := noB_f hb14
    obtain ⟨n, rfl⟩ : ∃ n : Nat, x = (n : Int) := ⟨x.toNat, by omega⟩
    have hMT : Mt2 M h _ 0 := (hP.q hQ).t2
    refine aL0 dX12_trial_19 ?_
    refine invV0 rfl dX12_trial_20 kX12_493 hG.o (Nat.le_of_ble_eq_true rfl) (Nat.zero_le _) (Nat.zero_le _) (C_X12_keepsAll hG hW (fun h12 hx12 hkp => konV ?_))
    replace hMT := hMT.off hx12 (Or.inr rfl)
    replace hW : h12 (M + 1) = w := by rw [hx12 _ (by omega)]; exact hW
    refine aL0 dX12_trial_23 ?_
    refine iL1 dX12_trial_24 ?_
    refine R_iconst_0 dX12_trial_25 ?_
    refine invV2 rfl dX12_trial_26 kX12_371 hG.o (Nat.le_of_ble_eq_true rfl) (Nat.zero_le _) (Nat.zero_le _) (C_X12_goesOn (b := false) hG hW hf hl (by omega) (fun h13 hx13 hy13 => konI ?_))
    replace hMT := hMT.mo hx13
    replace hW := hy13
    have hk4 : h13 (M + 4) = _ := hx13.1 (M + 4) (by unfold mos mbs mqs; omega)
    obtain ⟨hfG, hg1, hgs, -⟩ := goF_ok hf hl true n
    have hfV := hf
    have hlV := hl
    replace hf := hfG
    replace hl := hl.same hgs
    refine popI dX12_trial_29 ?_
    refine aL0 dX12_trial_30 ?_
    suffices J14 : Run (d + 12) 0 0 mX12_trial 40 [vR M, vI ((n : Nat) : Int), vI (bI (b)), vU] [vI ((if b then 3 else 1)), vR M] g h13 P by
      refine iL2 dX12_trial_31 ?_
      refine R_ifB_eq dX12_trial_32 (fun hb32 => ?_) (fun hb32 => ?_)
      · refine R_iconst_1 dX12_trial_39 ?_
        exact topV (v := (if b then 3 else 1)) (by first | (rw [if_pos hb32]; done) | (rw [if_neg (by rw [hb32]; decide)]; done)) J14
      · refine R_iconst_3 dX12_trial_35 ?_
        refine R_goto dX12_trial_36 ?_
        exact topV (v := (if b then 3 else 1)) (by first | (rw [if_pos hb32]; done) | (rw [if_neg (by rw [hb32]; decide)]; done)) J14
    refine invV1 rfl dX12_trial_40 kX12_337 hG.o (Nat.le_of_ble_eq_true rfl) (Nat.zero_le _) (Nat.zero_le _) (C_X12_inState hG hW hf (konI ?_))
    refine iS3 dX12_trial_43 ?_
    refine aL0 dX12_trial_44 ?_
    refine invV0 rfl dX12_trial_45 kX12_496 hG.o (Nat.le_of_ble_eq_true rfl) (Nat.zero_le _) (Nat.zero_le _) (C_X12_bringsBack (v := w) hG hW (fun i hi => by rw [hk4]; exact hkp i hi) (fun i hi => hgs i (Or.inr hi)) (fun h15 hx15 hy15 => konV ?_))
    replace hMT := hMT.off hx15 (Or.inl rfl)
    replace hW := hy15
    have hbx := hx15
    refine iL3 dX12_trial_48 ?_
    exact R_iret dX12_trial_49 rfl (K0 n rfl (by omega) _ hMT hW)
  · have hPX := hPE11 hb14
    refine R_iconst_0 dX12_trial_17 ?_
    exact R_iret dX12_trial_18 rfl (KE (fun h9 => noB_t hb14 (by omega)) _ hPX)
set_option maxHeartbeats 400000 in
theorem C_X12_worthFreed {d : Nat} {g : Gs} {h : Hc} {P : Po} {M : Nat} {w : Nat → Int} (hG : MdG g M) (hW : h (M + 1) = w) (hf : WF w) (K : P (.inl (some (vI (worthOf w (inSt w 1))))) g h) : Call (d + 2) 0 0 mX12_worthFreed [vR M] g h P := by
  refine Call_of rfl ⟨by decide +kernel, rfl⟩ (Nat.le_of_ble_eq_true rfl) rfl ?_
  refine R_iconst_0 dX12_worthFreed_0 ?_
  refine iS1 dX12_worthFreed_1 ?_
  refine R_iconst_0 dX12_worthFreed_2 ?_
  refine iS2 dX12_worthFreed_3 ?_
  have hcs := hf.cas
  refine loopN ((w 1).toNat) (fun q => Run (d + 2) 0 0 mX12_worthFreed 4 [vR M, vI (sumB (fun c => w (102 + 7 * c)) (inStP w 1) q), vI ((q : Nat) : Int)] [] g h P) (fun q hcnq ihq => ?_) (0) (Nat.zero_le _)
  have hsb := sumB_rng (f := fun c => w (102 + 7 * c)) (p := inStP w 1) (m := 99) (by omega) (n := q) (fun k hk => hf.wo (by omega))
  refine iL2 dX12_worthFreed_4 ?_
  refine aL0 dX12_worthFreed_5 ?_
  refine invV0 rfl dX12_worthFreed_6 kX12_90 hG.o (Nat.le_of_ble_eq_true rfl) (Nat.zero_le _) (Nat.zero_le _) (C_X12_cases hG hW hf (konI ?_))
  have hcs := hf.cas
  refine R_icmp_ge dX12_worthFreed_9 (fun hb9 => ?_) (fun hb9 => ?_)
  · have e9 : q = (w 1).toNat := by omega
    subst e9
    refine iL1 dX12_worthFreed_41 ?_
    exact R_iret dX12_worthFreed_42 rfl (by rw [← worthFr hf] at K; exact K)
  · refine iL1 dX12_worthFreed_12 ?_
    refine aL0 dX12_worthFreed_13 ?_
    refine iL2 dX12_worthFreed_14 ?_
    refine R_iconst_4 dX12_worthFreed_15 ?_
    refine invV2 rfl dX12_worthFreed_16 kX12_87 hG.o (Nat.le_of_ble_eq_true rfl) (Nat.zero_le _) (Nat.zero_le _) (C_X12_of hG hW (b := 4) (i := 104 + 7 * q) (by omega) (by omega) (konI ?_))
    have hq1 := hf.st (c := q) (by omega)
    refine R_iconst_1 dX12_worthFreed_19 ?_
    refine R_icmp_ne dX12_worthFreed_20 (fun hb20 => ?_) (fun hb20 => ?_)
    · refine R_iconst_0 dX12_worthFreed_32 ?_
      refine addV dX12_worthFreed_33 (wid (by omega) (by omega)) ?_
      refine iS1 dX12_worthFreed_34 ?_
      refine iInc2 dX12_worthFreed_35 (winc (by omega)) ?_
      refine R_goto dX12_worthFreed_38 ?_
      exact eqI1 (by first | (rw [sumB_t (by simp [inStP]; omega)]; done) | (rw [sumB_f (by simp [inStP]; omega), Int.add_zero])) (ihq (by omega))
    · refine aL0 dX12_worthFreed_23 ?_
      refine iL2 dX12_worthFreed_24 ?_
      refine R_iconst_2 dX12_worthFreed_25 ?_
      refine invV2 rfl dX12_worthFreed_26 kX12_87 hG.o (Nat.le_of_ble_eq_true rfl) (Nat.zero_le _) (Nat.zero_le _) (C_X12_of hG hW (b := 2) (i := 102 + 7 * q) (by omega) (by omega) (konI ?_))
      have hq2 := hf.wo (c := q) (by omega)
      refine R_goto dX12_worthFreed_29 ?_
      refine addV dX12_worthFreed_33 (wid (by omega) (by omega)) ?_
      refine iS1 dX12_worthFreed_34 ?_
      refine iInc2 dX12_worthFreed_35 (winc (by omega)) ?_
      refine R_goto dX12_worthFreed_38 ?_
      exact eqI1 (by first | (rw [sumB_t (by simp [inStP]; omega)]; done) | (rw [sumB_f (by simp [inStP]; omega), Int.add_zero])) (ihq (by omega))
set_option maxHeartbeats 1000000 in
theorem C_X12_span {d : Nat} {g : Gs} {h : Hc} {P : Po} {M : Nat} {w : Nat → Int} (hG : MdG g M) (hW : h (M + 1) = w) (hf : WF w) (hl : LawOK w) {x : Int} {b : Bool} (KE : ¬ (0 ≤ x ∧ x ≤ 48) → ∀ h', Mp M h h' 1 → P (.inl (some (vI 0))) g h') (K0 : ∀ n : Nat, x = (n : Int) → n ≤ 48 → ∀ h', Mt2 M h h' 0 → h' (M + 1) = w → P (.inl (some (vI (if b then spG w n 6 else spL w n 6)))) g h') : Call (d + 12) 0 0 mX12_span [vR M, vI x, vI (bI (b))] g h P := by
  have hcs := hf.cas
  have hjd := hf.jud
  have hho := hf.hou
  refine Call_of rfl ⟨by decide +kernel, rfl⟩ (Nat.le_of_ble_eq_true rfl) rfl ?_
  refine aL0 dX12_span_0 ?_
  refine R_iconst_0 dX12_span_1 ?_
  refine R_putI dX12_span_2 fX12_3 hG.o ?_
  refine storH (fun h1 e1 => ?_)
  have hP : Mp M h h1 0 := by rw [e1]; exact Mp.i h M
  replace hW : h1 (M + 1) = w := hP.w hW
  have hQ : Mz M h1 h1 := Mz.rf _ _
  refine aL0 dX12_span_5 ?_
  refine iL1 dX12_span_6 ?_
  refine invS1 rfl dX12_span_7 kX12_490 (Nat.le_of_ble_eq_true rfl) (Nat.zero_le _) (Nat.zero_le _) (C_X12_noAhead (konI ?_))
  refine R_iconst_1 dX12_span_10 ?_
  refine invV2 rfl dX12_span_11 kX12_274 hG.o (Nat.le_of_ble_eq_true rfl) (Nat.zero_le _) (Nat.zero_le _) (C_X12_throwsIf hG (fun h11 hth11 => konI ?_))
  have hPE11 : ∀ hbb : (noB x 49) = true, Mp M h h11 1 := fun hbb => hth11.t (hP.q hQ) hbb
  have hQE11 : ∀ hbb : (noB x 49) = false, Mz M h1 h11 := fun hbb => hth11.q hQ hbb
  have hWE11 : ∀ hbb : (noB x 49) = false, h11 (M + 1) = w := fun hbb => hth11.w hW hbb
  refine R_ifB_eq dX12_span_14 (fun hb14 => ?_) (fun hb14 => ?_)
  · replace hQ := hQE11 hb14
    replace hW := hWE11 hb14
    have hx2 := noB_f hb14
    obtain ⟨n, rfl⟩ : ∃ n : Nat, x = (n : Int) := ⟨x.toNat, by omega⟩
    have hMT : Mt2 M h _ 0 := (hP.q hQ).t2
    refine aL0 dX12_span_19 ?_
    refine invV0 rfl dX12_span_20 kX12_493 hG.o (Nat.le_of_ble_eq_true rfl) (Nat.zero_le _) (Nat.zero_le _) (C_X12_keepsAll hG hW (fun h12 hx12 hkp => konV ?_))
    replace hMT := hMT.off hx12 (Or.inr rfl)
    replace hW : h12 (M + 1) = w := by rw [hx12 _ (by omega)]; exact hW
    refine R_iconst_m1 dX12_span_23 ?_
    refine iS3 dX12_span_24 ?_
    refine R_iconst_1 dX12_span_25 ?_
    refine iS4 dX12_span_26 ?_
    refine eqI4 (v := ((0 + 1 : Nat) : Int)) rfl ?_
    refine loopN 6 (fun q => ∀ (hK : Hc) (v5 : AV), Mt2 M h hK 0 → hK (M + 1) = w → (∀ i, i < 516 → hK (M + 4) i = w i) → Run (d + 12) 0 0 mX12_span 28 [vR M, vI ((n : Nat) : Int), vI (bI (b)), vI (spM w n b q), vI (((q + 1) : Nat) : Int), v5] [] g hK P) (fun q hcq ihq hK v5 hMT hW hkp => ?_) 0 (Nat.zero_le _) h12 _ hMT hW hkp
    have hsm := spM_rng hf hl n b q hcq
    have hsv := spV_rng hf hl n (q + 1)
    refine iL4 dX12_span_28 ?_
    refine R_bipush dX12_span_30 (by decide) ?_
    refine R_icmp_gt dX12_span_32 (fun hb32 => ?_) (fun hb32 => ?_)
    · have e9 : q = 6 := by omega
      subst e9
      have hsp := (spM_eq hf hl n b 5 (by omega)).1
      refine iL3 dX12_span_96 ?_
      exact R_iret dX12_span_97 rfl (PeqI (K0 n rfl (by omega) _ hMT hW) hsp)
    · refine aL0 dX12_span_35 ?_
      refine R_getR dX12_span_36 fX12_13.r hG.o rfl ?_
      refine R_bipush dX12_span_39 (by decide) ?_
      refine iL4 dX12_span_41 ?_
      refine iastN (k := 7) dX12_span_43 hG.a1 rfl (by decide) ?_
      refine storH (fun h13 e13 => ?_)
      replace hMT : Mt2 M h h13 0 := by rw [e13]; exact hMT.off ((Off.rf _ _).upd rfl) (Or.inl rfl)
      replace hW : h13 (M + 1) = updW w 7 ((q + 1 : Nat) : Int) := by rw [e13, updH_r, hW]
      have hst4 : h13 (M + 4) = hK (M + 4) := by rw [e13, updH_a (by omega)]
      have hfO := hf
      have hlO := hl
      have hf : WF (updW w 7 ((q + 1 : Nat) : Int)) := hfO.use (by unfold in32; omega)
      have hl : LawOK (updW w 7 ((q + 1 : Nat) : Int)) := hlO.same ((SameL.rf w).upd (by omega) (by omega))
      refine aL0 dX12_span_44 ?_
      refine iL1 dX12_span_45 ?_
      refine R_iconst_0 dX12_span_46 ?_
      refine invV2 rfl dX12_span_47 kX12_371 hG.o (Nat.le_of_ble_eq_true rfl) (Nat.zero_le _) (Nat.zero_le _) (C_X12_goesOn (b := false) hG hW hf hl (by omega) (fun h14 hx14 hy14 => konI ?_))
      replace hMT := hMT.mo hx14
      replace hW := hy14
      have hk4 : h14 (M + 4) = _ := hx14.1 (M + 4) (by unfold mos mbs mqs; omega)
      obtain ⟨hfG, hg1, hgs, -⟩ := goF_ok hf hl true n
      have hfV := hf
      have hlV := hl
      replace hf := hfG
      replace hl := hl.same hgs
      refine popI dX12_span_50 ?_
      refine aL0 dX12_span_51 ?_
      refine invV0 rfl dX12_span_52 kX12_499 hG.o (Nat.le_of_ble_eq_true rfl) (Nat.zero_le _) (Nat.zero_le _) (C_X12_worthFreed hG hW hf (konI ?_))
      refine iS5 dX12_span_55 ?_
      refine aL0 dX12_span_57 ?_
      refine invV0 rfl dX12_span_58 kX12_496 hG.o (Nat.le_of_ble_eq_true rfl) (Nat.zero_le _) (Nat.zero_le _) (C_X12_bringsBack (v := w) hG hW (fun i hi => by rw [hk4, hst4]; exact hkp i hi) (fun i hi => (hgs i (Or.inr hi)).trans (updW_n (by omega))) (fun h15 hx15 hy15 => konV ?_))
      replace hMT := hMT.off hx15 (Or.inl rfl)
      replace hW := hy15
      have hbx := hx15
      suffices J16 : Run (d + 12) 0 0 mX12_span 89 [vR M, vI ((n : Nat) : Int), vI (bI (b)), vI (spM w n b q), vI (((q + 1) : Nat) : Int), vI (spV w n (q + 1))] [vI (spM w n b (q + 1))] g h15 P by
        refine iL3 dX12_span_61 ?_
        refine R_if_ge dX12_span_62 (fun hb62 => ?_) (fun hb62 => ?_)
        · refine iL2 dX12_span_70 ?_
          refine R_ifB_eq dX12_span_71 (fun hb71 => ?_) (fun hb71 => ?_)
          · refine iL3 dX12_span_83 ?_
            refine iL5 dX12_span_84 ?_
            refine R_mmin dX12_span_86 kX12_318 lb_min (Nat.le_of_ble_eq_true rfl) ?_
            exact topV (v := spM w n b (q + 1)) (by first | exact spM_0 (by omega) | exact spM_t (by omega) hb71 | exact spM_f (by omega) hb71) J16
          · refine iL3 dX12_span_74 ?_
            refine iL5 dX12_span_75 ?_
            refine R_mmax dX12_span_77 kX12_313 lb_max (Nat.le_of_ble_eq_true rfl) ?_
            refine R_goto dX12_span_80 ?_
            exact topV (v := spM w n b (q + 1)) (by first | exact spM_0 (by omega) | exact spM_t (by omega) hb71 | exact spM_f (by omega) hb71) J16
        · refine iL5 dX12_span_65 ?_
          refine R_goto dX12_span_67 ?_
          exact topV (v := spM w n b (q + 1)) (by first | exact spM_0 (by omega) | exact spM_t (by omega) hb71 | exact spM_f (by omega) hb71) J16
      refine iS3 dX12_span_89 ?_
      refine iInc4 dX12_span_90 (winc (by omega)) ?_
      refine R_goto dX12_span_93 ?_
      exact ihq (by omega) _ _ hMT hW (fun i hi => by rw [hbx (M + 4) (by omega), hk4, hst4]; exact hkp i hi)
  · have hPX := hPE11 hb14
    refine R_iconst_0 dX12_span_17 ?_
    exact R_iret dX12_span_18 rfl (KE (fun h9 => noB_t hb14 (by omega)) _ hPX)
set_option maxHeartbeats 400000 in
theorem C_X12_image {d : Nat} {g : Gs} {h : Hc} {P : Po} {M : Nat} {w : Nat → Int} (hG : MdG g M) (hW : h (M + 1) = w) (K : ∀ h', Off (fun q => q = M + 2 ∨ mqs M q) h h' → (∀ k, 0 < k → k < 18 → k ≠ 6 → h' M k = h M k) → h' M 0 = 0 → h' M 6 = 1 → (∀ i, i < 1365 → h' (M + 2) i = w i) → P (.inl none) g h') : Call (d + 0) 0 0 mX12_image [vR M] g h P := by
  refine Call_of rfl ⟨by decide +kernel, rfl⟩ (Nat.le_of_ble_eq_true rfl) rfl ?_
  refine aL0 dX12_image_0 ?_
  refine R_iconst_0 dX12_image_1 ?_
  refine R_putI dX12_image_2 fX12_3 hG.o ?_
  refine storH (fun h1 e1 => ?_)
  have hP : Mp M h h1 0 := by rw [e1]; exact Mp.i h M
  replace hW : h1 (M + 1) = w := hP.w hW
  refine R_iconst_0 dX12_image_5 ?_
  refine iS1 dX12_image_6 ?_
  refine loopN 1365 (fun q => ∀ hK : Hc, Off (fun q => q = M + 2) h1 hK → (∀ i, i < q → hK (M + 2) i = w i) → Run (d + 0) 0 0 mX12_image 7 [vR M, vI ((q : Nat) : Int)] [] g hK P) (fun q hcq ihq hK hO hR => ?_) 0 (Nat.zero_le _) h1 (Off.rf _ _) (fun i hi => absurd hi (Nat.not_lt_zero _))
  refine iL1 dX12_image_7 ?_
  refine R_sipush dX12_image_8 (by decide) ?_
  refine R_icmp_ge dX12_image_11 (fun hb11 => ?_) (fun hb11 => ?_)
  · have e9 : q = 1365 := by omega
    subst e9
    refine aL0 dX12_image_32 ?_
    refine R_iconst_1 dX12_image_33 ?_
    refine R_putIZ dX12_image_34 fX12_73 hG.o (by decide) ?_
    refine storH (fun h11 e11 => ?_)
    exact R_vret dX12_image_37 rfl (K _ (by rw [e11]; exact ((hP.1.mono (fun _ hq => Or.inr hq)).tr (hO.mono (fun _ hq => Or.inl hq))).upd (Or.inr (Or.inl rfl))) (fun k h0 h1 h6 => by rw [e11, updH_i (by omega), hO M (by omega)]; exact hP.2.1 k h0 h1) (by rw [e11, updH_i (by omega), hO M (by omega)]; exact hP.2.2) (by rw [e11]; exact updH_s _ _ _ _) (fun i hi => by rw [e11, updH_a (by omega)]; exact hR i hi))
  · refine aL0 dX12_image_14 ?_
    refine R_getR dX12_image_15 fX12_17.r hG.o rfl ?_
    refine iL1 dX12_image_18 ?_
    refine aL0 dX12_image_19 ?_
    refine R_getR dX12_image_20 fX12_13.r hG.o rfl ?_
    refine iL1 dX12_image_23 ?_
    refine ialdN dX12_image_24 hG.a1 rfl (by omega) ?_
    refine topV (v := w q) (by rw [hO (M + 1) (by omega), hW]) ?_
    refine iastN dX12_image_25 hG.a2 rfl (by omega) ?_
    refine storH (fun h12 e12 => ?_)
    refine iInc1 dX12_image_26 (winc (by omega)) ?_
    refine R_goto dX12_image_29 ?_
    exact ihq (by omega) _ (by rw [e12]; exact hO.upd rfl) (fun i hi => by
        rw [e12]
        by_cases e8 : i = q
        · subst e8; exact updH_s _ _ _ _
        · rw [updH_i e8]; exact hR i (by omega))
set_option maxHeartbeats 400000 in
theorem C_X12_back {d : Nat} {g : Gs} {h : Hc} {P : Po} {M : Nat} {w : Nat → Int} (hG : MdG g M) (hW : h (M + 1) = w) (KZ : h M 6 = 0 → ∀ h', Mp M h h' 0 → P (.inl (some (vI 0))) g h') (K1 : h M 6 ≠ 0 → ∀ h', Off (fun q => q = M + 1 ∨ mqs M q) h h' → (∀ k, 0 < k → k < 18 → k ≠ 7 → h' M k = h M k) → h' M 0 = 0 → h' M 7 = 0 → h' (M + 1) = (fun i => if i < 1365 then h (M + 2) i else w i) → P (.inl (some (vI 1))) g h') : Call (d + 0) 0 0 mX12_back [vR M] g h P := by
  refine Call_of rfl ⟨by decide +kernel, rfl⟩ (Nat.le_of_ble_eq_true rfl) rfl ?_
  refine aL0 dX12_back_0 ?_
  refine R_iconst_0 dX12_back_1 ?_
  refine R_putI dX12_back_2 fX12_3 hG.o ?_
  refine storH (fun h1 e1 => ?_)
  have hP : Mp M h h1 0 := by rw [e1]; exact Mp.i h M
  replace hW : h1 (M + 1) = w := hP.w hW
  refine aL0 dX12_back_5 ?_
  refine R_getI dX12_back_6 fX12_73.r hG.o ?_
  refine topV (v := h M 6) (hP.2.1 6 (by omega) (by omega)) ?_
  refine R_if_ne dX12_back_9 (fun hb9 => ?_) (fun hb9 => ?_)
  · refine R_iconst_0 dX12_back_14 ?_
    refine iS1 dX12_back_15 ?_
    refine loopN 1365 (fun q => ∀ hK : Hc, Off (fun q => q = M + 1) h1 hK → hK (M + 1) = (fun i => if i < q then h (M + 2) i else w i) → Run (d + 0) 0 0 mX12_back 16 [vR M, vI ((q : Nat) : Int)] [] g hK P) (fun q hcq ihq hK hO hR => ?_) 0 (Nat.zero_le _) h1 (Off.rf _ _) (by rw [hW]; funext i; rw [if_neg (Nat.not_lt_zero _)])
    refine iL1 dX12_back_16 ?_
    refine R_sipush dX12_back_17 (by decide) ?_
    refine R_icmp_ge dX12_back_20 (fun hb20 => ?_) (fun hb20 => ?_)
    · have e9 : q = 1365 := by omega
      subst e9
      refine aL0 dX12_back_41 ?_
      refine R_iconst_0 dX12_back_42 ?_
      refine R_putI dX12_back_43 fX12_77 hG.o ?_
      refine storH (fun h11 e11 => ?_)
      refine R_iconst_1 dX12_back_46 ?_
      exact R_zret dX12_back_47 rfl (by decide) (K1 (by omega) _ (by rw [e11]; exact ((hP.1.mono (fun _ hq => Or.inr hq)).tr (hO.mono (fun _ hq => Or.inl hq))).upd (Or.inr (Or.inl rfl))) (fun k h0 h1 h7 => by rw [e11, updH_i (by omega), hO M (by omega)]; exact hP.2.1 k h0 h1) (by rw [e11, updH_i (by omega), hO M (by omega)]; exact hP.2.2) (by rw [e11]; exact updH_s _ _ _ _) (by rw [e11, updH_a (by omega)]; exact hR))
    · refine aL0 dX12_back_23 ?_
      refine R_getR dX12_back_24 fX12_13.r hG.o rfl ?_
      refine iL1 dX12_back_27 ?_
      refine aL0 dX12_back_28 ?_
      refine R_getR dX12_back_29 fX12_17.r hG.o rfl ?_
      refine iL1 dX12_back_32 ?_
      refine ialdN dX12_back_33 hG.a2 rfl (by omega) ?_
      refine topV (v := h (M + 2) q) (by rw [hO (M + 2) (by omega), hP.1 (M + 2) (by unfold mqs; omega)]) ?_
      refine iastN dX12_back_34 hG.a1 rfl (by omega) ?_
      refine storH (fun h12 e12 => ?_)
      refine iInc1 dX12_back_35 (winc (by omega)) ?_
      refine R_goto dX12_back_38 ?_
      exact ihq (by omega) _ (by rw [e12]; exact hO.upd rfl) (by
          rw [e12, updH_r, hR]
          funext i
          unfold updW
          dsimp only
          by_cases e8 : i = q
          · rw [if_pos e8, if_pos (by omega), e8]
          · rw [if_neg e8]
            by_cases e7 : i < q
            · rw [if_pos e7, if_pos (by omega)]
            · rw [if_neg e7, if_neg (by omega)])
  · refine R_iconst_0 dX12_back_12 ?_
    exact R_zret dX12_back_13 rfl (by decide) (KZ (by omega) _ hP)
set_option maxHeartbeats 400000 in
theorem C_X12_undo {d : Nat} {g : Gs} {h : Hc} {P : Po} {M : Nat} {w : Nat → Int} (hG : MdG g M) (hW : h (M + 1) = w) {n : Nat} {A : Nat → Nat → Int} (hQA : Ac M h A n) (KZ : n = 0 → ∀ h', Mp M h h' 0 → P (.inl (some (vI 0))) g h') (K1 : 0 < n → ∀ h', Off (fun q => q = M + 1 ∨ mqs M q) h h' → (∀ k, 0 < k → k < 18 → k ≠ 7 → h' M k = h M k) → h' M 0 = 0 → h' (M + 1) = (fun i => if i < 516 then A (n - 1) i else w i) → Ac M h' A (n - 1) → P (.inl (some (vI 1))) g h') : Call (d + 0) 0 0 mX12_undo [vR M] g h P := by
  obtain ⟨hN, hnl, hA⟩ := hQA
  refine Call_of rfl ⟨by decide +kernel, rfl⟩ (Nat.le_of_ble_eq_true rfl) rfl ?_
  refine aL0 dX12_undo_0 ?_
  refine R_iconst_0 dX12_undo_1 ?_
  refine R_putI dX12_undo_2 fX12_3 hG.o ?_
  refine storH (fun h1 e1 => ?_)
  have hP : Mp M h h1 0 := by rw [e1]; exact Mp.i h M
  replace hW : h1 (M + 1) = w := hP.w hW
  refine aL0 dX12_undo_5 ?_
  refine R_getI dX12_undo_6 fX12_77.r hG.o ?_
  refine topV (v := (n : Int)) (by rw [hP.2.1 7 (by omega) (by omega)]; exact hN) ?_
  refine R_if_ne dX12_undo_9 (fun hb9 => ?_) (fun hb9 => ?_)
  · refine aL0 dX12_undo_14 ?_
    refine dupR dX12_undo_15 ?_
    refine R_getI dX12_undo_16 fX12_77.r hG.o ?_
    refine topV (v := (n : Int)) (by rw [hP.2.1 7 (by omega) (by omega)]; exact hN) ?_
    refine R_iconst_1 dX12_undo_19 ?_
    refine subV dX12_undo_20 (wid (by omega) (by omega)) ?_
    refine R_putI dX12_undo_21 fX12_77 hG.o ?_
    refine storH (fun h11 e11 => ?_)
    have hO7 : ∀ k, 0 < k → k < 18 → k ≠ 7 → h11 M k = h M k := fun k h0 h1 h7 => by rw [e11, updH_i h7]; exact hP.2.1 k h0 h1
    have hO0 : h11 M 0 = 0 := by rw [e11, updH_i (by omega)]; exact hP.2.2
    have hN7 : h11 M 7 = ((n - 1 : Nat) : Int) := by rw [e11, updH_s]; omega
    have hOf : Off (mqs M) h h11 := by rw [e11]; exact hP.1.upd (Or.inl rfl)
    replace hW : h11 (M + 1) = w := by rw [e11, updH_a (by omega)]; exact hW
    refine R_iconst_0 dX12_undo_24 ?_
    refine iS1 dX12_undo_25 ?_
    refine loopN 516 (fun q => ∀ hK : Hc, Off (fun q => q = M + 1) h11 hK → hK (M + 1) = (fun i => if i < q then A (n - 1) i else w i) → Run (d + 0) 0 0 mX12_undo 26 [vR M, vI ((q : Nat) : Int)] [] g hK P) (fun q hcq ihq hK hO hR => ?_) 0 (Nat.zero_le _) h11 (Off.rf _ _) (by rw [hW]; funext i; rw [if_neg (Nat.not_lt_zero _)])
    refine iL1 dX12_undo_26 ?_
    refine R_sipush dX12_undo_27 (by decide) ?_
    refine R_icmp_ge dX12_undo_30 (fun hb30 => ?_) (fun hb30 => ?_)
    · have e9 : q = 516 := by omega
      subst e9
      refine R_iconst_1 dX12_undo_60 ?_
      exact R_zret dX12_undo_61 rfl (by decide) (K1 (by omega) _ ((hOf.mono (fun _ hq => Or.inr hq)).tr (hO.mono (fun _ hq => Or.inl hq))) (fun k h0 h1 h7 => by rw [hO M (by omega)]; exact hO7 k h0 h1 h7) (by rw [hO M (by omega)]; exact hO0) hR ⟨by rw [hO M (by omega)]; exact hN7, by omega, fun k i hk hi => by rw [hO (M + 5) (by omega), hOf (M + 5) (by unfold mqs; omega)]; exact hA k i (by omega) hi⟩)
    · refine aL0 dX12_undo_33 ?_
      refine R_getR dX12_undo_34 fX12_13.r hG.o rfl ?_
      refine iL1 dX12_undo_37 ?_
      refine aL0 dX12_undo_38 ?_
      refine R_getR dX12_undo_39 fX12_26.r hG.o rfl ?_
      refine R_sipush dX12_undo_42 (by decide) ?_
      refine aL0 dX12_undo_45 ?_
      refine R_getI dX12_undo_46 fX12_77.r hG.o ?_
      refine topV (v := (((n - 1) : Nat) : Int)) (by rw [hO M (by omega)]; exact hN7) ?_
      refine mulV dX12_undo_49 (v := (((516 * (n - 1)) : Nat) : Int)) (by rw [wid (by omega) (by omega)]; omega) ?_
      refine iL1 dX12_undo_50 ?_
      refine addV dX12_undo_51 (v := ((((516 * (n - 1)) + q) : Nat) : Int)) (by rw [wid (by omega) (by omega)]; omega) ?_
      refine ialdN dX12_undo_52 hG.a5 rfl (by omega) ?_
      refine topV (v := A (n - 1) q) (by rw [hO (M + 5) (by omega), hOf (M + 5) (by unfold mqs; omega)]; exact hA (n - 1) q (by omega) (by omega)) ?_
      refine iastN dX12_undo_53 hG.a1 rfl (by omega) ?_
      refine storH (fun h12 e12 => ?_)
      refine iInc1 dX12_undo_54 (winc (by omega)) ?_
      refine R_goto dX12_undo_57 ?_
      exact ihq (by omega) _ (by rw [e12]; exact hO.upd rfl) (by
          rw [e12, updH_r, hR]
          funext i
          unfold updW
          dsimp only
          by_cases e8 : i = q
          · rw [if_pos e8, if_pos (by omega), e8]
          · rw [if_neg e8]
            by_cases e7 : i < q
            · rw [if_pos e7, if_pos (by omega)]
            · rw [if_neg e7, if_neg (by omega)])
  · refine R_iconst_0 dX12_undo_12 ?_
    exact R_zret dX12_undo_13 rfl (by decide) (KZ (by omega) _ hP)
set_option maxHeartbeats 400000 in
theorem C_X12_seed {d : Nat} {g : Gs} {h : Hc} {P : Po} {M : Nat} {w : Nat → Int} (hG : MdG g M) (hW : h (M + 1) = w) (hf : WF w) {n : Nat} {A : Nat → Nat → Int} (hQA : Ac M h A n) {x : Int} (K0 : ∀ h', Ma M h h' 0 → h' (M + 1) = updW w 7 x → Ac M h' A n → P (.inl (some (vI (w 7)))) g h') : Call (d + 0) 0 0 mX12_seed [vR M, vI x] g h P := by
  refine Call_of rfl ⟨by decide +kernel, rfl⟩ (Nat.le_of_ble_eq_true rfl) rfl ?_
  refine aL0 dX12_seed_0 ?_
  refine R_iconst_0 dX12_seed_1 ?_
  refine R_putI dX12_seed_2 fX12_3 hG.o ?_
  refine storH (fun h1 e1 => ?_)
  have hP : Mp M h h1 0 := by rw [e1]; exact Mp.i h M
  replace hW : h1 (M + 1) = w := hP.w hW
  have hQ : Mz M h1 h1 := Mz.rf _ _
  replace hQA : Ac M h1 A n := hQA.mp hP
  have hMA : Ma M h h1 0 := hP.a
  refine aL0 dX12_seed_5 ?_
  refine R_getR dX12_seed_6 fX12_13.r hG.o rfl ?_
  refine R_bipush dX12_seed_9 (by decide) ?_
  refine ialdN (k := 7) dX12_seed_11 hG.a1 rfl (by decide) ?_
  refine topV (v := w 7) (congrFun hW _) ?_
  have hq11 := hf.see
  refine iS2 dX12_seed_12 ?_
  refine aL0 dX12_seed_13 ?_
  refine R_getR dX12_seed_14 fX12_13.r hG.o rfl ?_
  refine R_bipush dX12_seed_17 (by decide) ?_
  refine iL1 dX12_seed_19 ?_
  refine iastN (k := 7) dX12_seed_20 hG.a1 rfl (by decide) ?_
  refine storH (fun h12 e12 => ?_)
  have hM0 := hMA
  have hW0 := hW
  have hQ0 := hQA
  replace hMA : Ma M h h12 0 := by rw [e12]; exact hM0.arr rfl
  replace hW : h12 (M + 1) = (updW w 7 x) := by rw [e12, updH_r, hW0]
  replace hQA := hQ0.we e12
  refine iL2 dX12_seed_21 ?_
  exact R_iret dX12_seed_22 rfl (K0 _ hMA hW hQA)
set_option maxHeartbeats 400000 in
theorem C_X12_fault {d : Nat} {g : Gs} {h : Hc} {P : Po} {M : Nat} {w : Nat → Int} (hG : MdG g M) (hW : h (M + 1) = w) (K : ∀ h', Mp M h h' 0 → P (.inl (some (vI (h M 14)))) g h') : Call (d + 0) 0 0 mX12_fault [vR M] g h P := by
  refine Call_of rfl ⟨by decide +kernel, rfl⟩ (Nat.le_of_ble_eq_true rfl) rfl ?_
  refine aL0 dX12_fault_0 ?_
  refine R_iconst_0 dX12_fault_1 ?_
  refine R_putI dX12_fault_2 fX12_3 hG.o ?_
  refine storH (fun h1 e1 => ?_)
  have hP : Mp M h h1 0 := by rw [e1]; exact Mp.i h M
  replace hW : h1 (M + 1) = w := hP.w hW
  refine aL0 dX12_fault_5 ?_
  refine R_getI dX12_fault_6 fX12_33.r hG.o ?_
  refine topV (v := h M 14) (hP.2.1 14 (by omega) (by omega)) ?_
  exact R_iret dX12_fault_9 rfl (K _ hP)
set_option maxHeartbeats 400000 in
theorem C_X12_thrown {d : Nat} {g : Gs} {h : Hc} {P : Po} {M : Nat} (hG : MdG g M) (K : P (.inl (some (vI (h M 0)))) g h) : Call (d + 0) 0 0 mX12_thrown [vR M] g h P := by
  refine Call_of rfl ⟨by decide +kernel, rfl⟩ (Nat.le_of_ble_eq_true rfl) rfl ?_
  refine aL0 dX12_thrown_0 ?_
  refine R_getI dX12_thrown_1 fX12_3.r hG.o ?_
  exact R_iret dX12_thrown_4 rfl (K)
