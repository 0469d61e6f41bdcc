/-- the acts that are remembered -/
def Ac (M : Nat) (h : Hc) (A : Nat → Nat → Int) (n : Nat) : Prop := h M 7 = (n : Int) ∧ n ≤ 12 ∧ ∀ k i, k < n → i < 516 → h (M + 5) (516 * k + i) = A k i
theorem Ac.n {M : Nat} {h : Hc} {A : Nat → Nat → Int} {n : Nat} (a : Ac M h A n) : n ≤ 12 := a.2.1
/-- what an act changes -/
def mas (M : Nat) : Nat → Prop := fun q => q = M + 5 ∨ mos M q
def Ma (M : Nat) (h h' : Hc) (t : Int) : Prop := Off (mas M) h h' ∧ (∀ k, 0 < k → k < 18 → k ≠ 7 → h' M k = h M k) ∧ h' M 0 = t
theorem Mp.a {M : Nat} {h h' : Hc} {t : Int} (p : Mp M h h' t) : Ma M h h' t := ⟨p.1.mono (fun _ hq => Or.inr (Or.inr (Or.inr hq))), fun k h0 h1 _ => p.2.1 k h0 h1, p.2.2⟩
theorem Ma.mo {M : Nat} {h h1 h2 : Hc} {t : Int} (a : Ma M h h1 t) (b : Mo M h1 h2) : Ma M h h2 t := ⟨a.1.tr (b.1.mono (fun _ hq => Or.inr hq)), fun k h0 hk h7 => (b.2 k hk).trans (a.2.1 k h0 hk h7), (b.2 0 (by omega)).trans a.2.2⟩
theorem Ac.mo {M : Nat} {h1 h2 : Hc} {A : Nat → Nat → Int} {n : Nat} (a : Ac M h1 A n) (b : Mo M h1 h2) : Ac M h2 A n := by
  unfold Ac
  rw [b.2 7 (by omega), b.1 (M + 5) (by unfold mos mbs mqs; omega)]
  exact a
theorem Ac.mp {M : Nat} {h1 h2 : Hc} {A : Nat → Nat → Int} {n : Nat} {t : Int} (a : Ac M h1 A n) (b : Mp M h1 h2 t) : Ac M h2 A n := by
  unfold Ac
  rw [b.2.1 7 (by omega) (by omega), b.1 (M + 5) (by unfold mqs; omega)]
  exact a
/-- behind remembers -/
def Rm (M : Nat) (h h' : Hc) : Prop := Off (fun q => q = M ∨ q = M + 5) h h' ∧ ∀ k, k ≠ 7 → h' M k = h M k
theorem Ma.rm {M : Nat} {h h1 h2 : Hc} {t : Int} (a : Ma M h h1 t) (b : Rm M h1 h2) : Ma M h h2 t := ⟨a.1.tr (b.1.mono (fun q hq => by unfold mas mos mbs mqs; omega)), fun k h0 hk h7 => (b.2 k h7).trans (a.2.1 k h0 hk h7), (b.2 0 (by omega)).trans a.2.2⟩
theorem remA_lo {A : Nat → Nat → Int} {n : Nat} {w : Nat → Int} (h : n < 12) (k : Nat) : remA A n w k = if k = n then w else A k := by unfold remA; rw [if_pos h]
theorem remA_hi {A : Nat → Nat → Int} {n : Nat} {w : Nat → Int} (h : ¬ n < 12) (k : Nat) : remA A n w k = if k = 11 then w else A (k + 1) := by unfold remA; rw [if_neg h]
theorem rmbN_lo {n : Nat} (h : n < 12) : rmbN n = n + 1 := by unfold rmbN; rw [if_pos h]
theorem rmbN_hi {n : Nat} (h : ¬ n < 12) : rmbN n = 12 := by unfold rmbN; rw [if_neg h]
theorem rmbN_le {n : Nat} : rmbN n ≤ 12 := by unfold rmbN; split <;> omega
set_option maxHeartbeats 1000000 in
theorem C_X12_remembers {d : Nat} {g : Gs} {h : Hc} {P : Po} {M : Nat} {w : Nat → Int} (hG : MdG g M) (hW : h (M + 1) = w) {n : Nat} {A : Nat → Nat → Int} (hQA : Ac M h A n) (K : ∀ h', Rm M h h' → h' (M + 1) = w → Ac M h' (remA A n w) (rmbN n) → P (.inl none) g h') : Call (d + 0) 0 0 mX12_remembers [vR M] g h P := by
  obtain ⟨hN, hnl, hA⟩ := hQA
  have hrl := rmbN_le (n := n)
  refine Call_of rfl ⟨by decide +kernel, rfl⟩ (Nat.le_of_ble_eq_true rfl) rfl ?_
  suffices J53 : ∀ (hJ : Hc) (v1 : AV), Off (fun q => q = M ∨ q = M + 5) h hJ → (∀ k, k ≠ 7 → hJ M k = h M k) → hJ M 7 = ((rmbN n : Nat) : Int) → hJ (M + 1) = w → (∀ k i, k < rmbN n - 1 → i < 516 → hJ (M + 5) (516 * k + i) = remA A n w k i) → Run (d + 0) 0 0 mX12_remembers 53 [vR M, v1] [] g hJ P by
    refine aL0 dX12_remembers_0 ?_
    refine R_getI dX12_remembers_1 fX12_77.r hG.o ?_
    refine topV (v := (n : Int)) (hN) ?_
    refine R_bipush dX12_remembers_4 (by decide) ?_
    refine R_icmp_ne dX12_remembers_6 (fun hb6 => ?_) (fun hb6 => ?_)
    · refine aL0 dX12_remembers_43 ?_
      refine dupR dX12_remembers_44 ?_
      refine R_getI dX12_remembers_45 fX12_77.r hG.o ?_
      refine topV (v := (n : Int)) (hN) ?_
      refine R_iconst_1 dX12_remembers_48 ?_
      refine addV dX12_remembers_49 (wid (by omega) (by omega)) ?_
      refine R_putI dX12_remembers_50 fX12_77 hG.o ?_
      refine storH (fun h1 e1 => ?_)
      have hO : Off (fun q => q = M ∨ q = M + 5) h h1 := by rw [e1]; exact (Off.rf _ _).upd (Or.inl rfl)
      have hK : ∀ k, k ≠ 7 → h1 M k = h M k := fun k hk => by rw [e1]; exact updH_i hk
      replace hN : h1 M 7 = ((rmbN n : Nat) : Int) := by rw [e1, updH_s, rmbN_lo (by omega)]; omega
      have hA5 : h1 (M + 5) = h (M + 5) := by rw [e1, updH_a (by omega)]
      replace hW : h1 (M + 1) = w := by rw [e1, updH_a (by omega)]; exact hW
      exact J53 _ _ hO hK hN hW (fun k i hk hi => by rw [rmbN_lo (by omega)] at hk; rw [hA5, remA_lo (by omega), if_neg (by omega)]; exact hA k i (by omega) hi)
    · refine R_iconst_0 dX12_remembers_9 ?_
      refine iS1 dX12_remembers_10 ?_
      refine loopN 5676 (fun q => ∀ hK : Hc, Off (fun q => q = M ∨ q = M + 5) h hK → (∀ k, k ≠ 7 → hK M k = h M k) → hK M 7 = (n : Int) → hK (M + 1) = w → (∀ i, i < 6192 → hK (M + 5) i = if i < q then h (M + 5) (i + 516) else h (M + 5) i) → Run (d + 0) 0 0 mX12_remembers 11 [vR M, vI ((q : Nat) : Int)] [] g hK P) (fun q hcq ihq hK hO hK0 hN hW hR => ?_) 0 (Nat.zero_le _) h (Off.rf _ _) (fun _ _ => rfl) hN hW (fun i _ => by rw [if_neg (Nat.not_lt_zero _)])
      refine iL1 dX12_remembers_11 ?_
      refine R_sipush dX12_remembers_12 (by decide) ?_
      refine R_icmp_ge dX12_remembers_15 (fun hb15 => ?_) (fun hb15 => ?_)
      · have e9 : q = 5676 := by omega
        subst e9
        refine R_goto dX12_remembers_40 ?_
        exact J53 _ _ hO hK0 (by rw [hN, rmbN_hi (by omega)]; omega) hW (fun k i hk hi => by rw [rmbN_hi (by omega)] at hk; rw [hR _ (by omega), if_pos (by omega), remA_hi (by omega), if_neg (by omega), show 516 * k + i + 516 = 516 * (k + 1) + i by omega]; exact hA (k + 1) i (by omega) hi)
      · refine aL0 dX12_remembers_18 ?_
        refine R_getR dX12_remembers_19 fX12_26.r hG.o rfl ?_
        refine iL1 dX12_remembers_22 ?_
        refine aL0 dX12_remembers_23 ?_
        refine R_getR dX12_remembers_24 fX12_26.r hG.o rfl ?_
        refine iL1 dX12_remembers_27 ?_
        refine R_sipush dX12_remembers_28 (by decide) ?_
        refine addV dX12_remembers_31 (v := (((q + 516) : Nat) : Int)) (by rw [wid (by omega) (by omega)]; omega) ?_
        refine ialdN dX12_remembers_32 hG.a5 rfl (by omega) ?_
        refine topV (v := h (M + 5) (q + 516)) (by rw [hR _ (by omega), if_neg (by omega)]) ?_
        refine iastN dX12_remembers_33 hG.a5 rfl (by omega) ?_
        refine storH (fun h2 e2 => ?_)
        refine iInc1 dX12_remembers_34 (winc (by omega)) ?_
        refine R_goto dX12_remembers_37 ?_
        exact ihq (by omega) _ (by rw [e2]; exact hO.upd (Or.inr rfl)) (fun k hk => by rw [e2, updH_a (by omega)]; exact hK0 k hk) (by rw [e2, updH_a (by omega)]; exact hN) (by rw [e2, updH_a (by omega)]; exact hW) (fun i hi => by
            rw [e2]
            by_cases e8 : i = q
            · subst e8; rw [updH_s, if_pos (by omega)]
            · rw [updH_i e8, hR i hi]
              by_cases e7 : i < q
              · rw [if_pos e7, if_pos (by omega)]
              · rw [if_neg e7, if_neg (by omega)])
  intro hJ v1 hO hK0 hN hW hR
  have hrl := rmbN_le (n := n)
  have hrp : 1 ≤ rmbN n := by unfold rmbN; split <;> omega
  refine R_iconst_0 dX12_remembers_53 ?_
  refine iS1 dX12_remembers_54 ?_
  refine loopN 516 (fun q => ∀ hK : Hc, Off (fun q => q = M ∨ q = M + 5) h hK → (∀ k, k ≠ 7 → hK M k = h M k) → hK M 7 = ((rmbN n : Nat) : Int) → hK (M + 1) = w → (∀ i, i < 516 * (rmbN n - 1) → hK (M + 5) i = hJ (M + 5) i) → (∀ i, i < q → hK (M + 5) (516 * (rmbN n - 1) + i) = w i) → Run (d + 0) 0 0 mX12_remembers 55 [vR M, vI ((q : Nat) : Int)] [] g hK P) (fun q hcq ihq hK hO hK0 hN hW hR2 hR3 => ?_) 0 (Nat.zero_le _) hJ hO hK0 hN hW (fun _ _ => rfl) (fun i hi => absurd hi (Nat.not_lt_zero _))
  refine iL1 dX12_remembers_55 ?_
  refine R_sipush dX12_remembers_56 (by decide) ?_
  refine R_icmp_ge dX12_remembers_59 (fun hb59 => ?_) (fun hb59 => ?_)
  · have e9 : q = 516 := by omega
    subst e9
    exact R_vret dX12_remembers_91 rfl (K _ ⟨hO, hK0⟩ hW ⟨hN, rmbN_le, fun k i hk hi => by
          by_cases e8 : k = rmbN n - 1
          · rw [e8, hR3 i hi]
            unfold rmbN at hk e8 ⊢
            by_cases e7 : n < 12
            · rw [if_pos e7] at e8 ⊢; rw [remA_lo e7, if_pos (by omega)]
            · rw [if_neg e7] at e8 ⊢; rw [remA_hi e7, if_pos (by omega)]
          · rw [hR2 _ (by omega)]; exact hR k i (by omega) hi⟩)
  · refine aL0 dX12_remembers_62 ?_
    refine R_getR dX12_remembers_63 fX12_26.r hG.o rfl ?_
    refine R_sipush dX12_remembers_66 (by decide) ?_
    refine aL0 dX12_remembers_69 ?_
    refine R_getI dX12_remembers_70 fX12_77.r hG.o ?_
    refine topV (v := ((rmbN n : Nat) : Int)) (hN) ?_
    refine R_iconst_1 dX12_remembers_73 ?_
    refine subV dX12_remembers_74 (wid (by omega) (by omega)) ?_
    refine topV (v := (((rmbN n - 1) : Nat) : Int)) (by omega) ?_
    refine mulV dX12_remembers_75 (v := (((516 * (rmbN n - 1)) : Nat) : Int)) (by rw [wid (by omega) (by omega)]; omega) ?_
    refine iL1 dX12_remembers_76 ?_
    refine addV dX12_remembers_77 (v := ((((516 * (rmbN n - 1)) + q) : Nat) : Int)) (by rw [wid (by omega) (by omega)]; omega) ?_
    refine aL0 dX12_remembers_78 ?_
    refine R_getR dX12_remembers_79 fX12_13.r hG.o rfl ?_
    refine iL1 dX12_remembers_82 ?_
    refine ialdN dX12_remembers_83 hG.a1 rfl (by omega) ?_
    refine topV (v := w (q)) ((congrFun hW _).trans (congrArg w (by omega))) ?_
    refine iastN dX12_remembers_84 hG.a5 rfl (by omega) ?_
    refine storH (fun h3 e3 => ?_)
    refine iInc1 dX12_remembers_85 (winc (by omega)) ?_
    refine R_goto dX12_remembers_88 ?_
    exact ihq (by omega) _ (by rw [e3]; exact hO.upd (Or.inr rfl)) (fun k hk => by rw [e3, updH_a (by omega)]; exact hK0 k hk) (by rw [e3, updH_a (by omega)]; exact hN) (by rw [e3, updH_a (by omega)]; exact hW) (fun i hi => by rw [e3, updH_i (by omega)]; exact hR2 i hi) (fun i hi => by
        rw [e3]
        by_cases e8 : i = q
        · subst e8; exact updH_s _ _ _ _
        · rw [updH_i (by omega)]; exact hR3 i (by omega))
theorem Ma.arr {M : Nat} {h h' : Hc} {t : Int} (a : Ma M h h' t) {b k : Nat} {v : Int} (hb : b = M + 1) : Ma M h (updH h' b k v) t := ⟨a.1.upd (by unfold mas mos mbs mqs; omega), fun i h0 hi h7 => by rw [updH_a (by omega)]; exact a.2.1 i h0 hi h7, by rw [updH_a (by omega)]; exact a.2.2⟩
theorem Ac.w {M : Nat} {h : Hc} {A : Nat → Nat → Int} {n k : Nat} {v : Int} (a : Ac M h A n) : Ac M (updH h (M + 1) k v) A n := by
  unfold Ac
  rw [updH_a (by omega), updH_a (by omega)]
  exact a
theorem Ac.we {M : Nat} {h h2 : Hc} {A : Nat → Nat → Int} {n k : Nat} {v : Int} (a : Ac M h A n) (e : h2 = updH h (M + 1) k v) : Ac M h2 A n := by rw [e]; exact a.w
theorem Ma.rf (M : Nat) (h : Hc) : Ma M h h (h M 0) := ⟨Off.rf _ _, fun _ _ _ _ => rfl, rfl⟩
set_option maxHeartbeats 400000 in
theorem C_X12_isNow {d : Nat} {g : Gs} {h : Hc} {P : Po} {M : Nat} {u : Nat → Int} (hG : MdG g M) (hW : h (M + 1) = u) {n : Nat} {A : Nat → Nat → Int} (hQA : Ac M h A n) {i : Nat} {x : Int} (hi : i < 516) (K : ∀ h', Ma M h h' (h M 0) → h' (M + 1) = updW u i x → Ac M h' (remA A n u) (rmbN n) → P (.inl (some (vI (u i)))) g h') : Call (d + 1) 0 0 mX12_isNow [vR M, vI ((i : Nat) : Int), vI x] g h P := by
  have hMA := Ma.rf M h
  refine Call_of rfl ⟨by decide +kernel, rfl⟩ (Nat.le_of_ble_eq_true rfl) rfl ?_
  refine aL0 dX12_isNow_0 ?_
  refine invV0 rfl dX12_isNow_1 kX12_368 hG.o (Nat.le_of_ble_eq_true rfl) (Nat.zero_le _) (Nat.zero_le _) (C_X12_remembers hG hW hQA (fun h1 hx1 hy1 hz1 => konV ?_))
  replace hMA := hMA.rm hx1
  replace hW := hy1
  replace hQA := hz1
  refine aL0 dX12_isNow_4 ?_
  refine R_getR dX12_isNow_5 fX12_13.r hG.o rfl ?_
  refine iL1 dX12_isNow_8 ?_
  refine ialdN dX12_isNow_9 hG.a1 rfl (by omega) ?_
  refine topV (v := u (i)) ((congrFun hW _).trans (congrArg u (by omega))) ?_
  refine iS3 dX12_isNow_10 ?_
  refine aL0 dX12_isNow_11 ?_
  refine R_getR dX12_isNow_12 fX12_13.r hG.o rfl ?_
  refine iL1 dX12_isNow_15 ?_
  refine iL2 dX12_isNow_16 ?_
  refine iastN dX12_isNow_17 hG.a1 rfl (by omega) ?_
  refine storH (fun h2 e2 => ?_)
  have hM0 := hMA
  have hW0 := hW
  have hQ0 := hQA
  replace hMA : Ma M h h2 (h M 0) := by rw [e2]; exact hM0.arr rfl
  replace hW : h2 (M + 1) = (updW u i x) := by rw [e2, updH_r, hW0]
  replace hQA := hQ0.we e2
  refine iL3 dX12_isNow_18 ?_
  exact R_iret dX12_isNow_19 rfl (K _ hMA hW hQA)
theorem Ma.tr {M : Nat} {h h1 h2 : Hc} {t : Int} (a : Ma M h h1 t) (b : Ma M h1 h2 t) : Ma M h h2 t := ⟨a.1.tr b.1, fun k h0 hk h7 => (b.2.1 k h0 hk h7).trans (a.2.1 k h0 hk h7), b.2.2⟩
theorem Ac.mq {M : Nat} {h1 h2 : Hc} {A : Nat → Nat → Int} {n : Nat} (a : Ac M h1 A n) (b : Mz M h1 h2) : Ac M h2 A n := a.mo b.o
set_option maxHeartbeats 400000 in
theorem C_X12_feeds {d : Nat} {g : Gs} {h : Hc} {P : Po} {M : Nat} {w : Nat → Int} (hG : MdG g M) (hW : h (M + 1) = w) (hf : WF w) {n : Nat} {A : Nat → Nat → Int} (hQA : Ac M h A n) {x : Int} (KE : ¬ (0 ≤ x ∧ x < w 0) → ∀ h', Mp M h h' 1 → P (.inl (some (vI 0))) g h') (K0 : ∀ j : Nat, x = (j : Int) → (j : Int) < w 0 → ∀ h', Ma M h h' 0 → h' (M + 1) = updW w (80 + 4 * j) 0 → Ac M h' (remA A n w) (rmbN n) → P (.inl (some (vI (w (80 + 4 * j))))) g h') : Call (d + 3) 0 0 mX12_feeds [vR M, vI x] g h P := by
  have hcs := hf.cas
  have hjd := hf.jud
  have hho := hf.hou
  refine Call_of rfl ⟨by decide +kernel, rfl⟩ (Nat.le_of_ble_eq_true rfl) rfl ?_
  refine aL0 dX12_feeds_0 ?_
  refine R_iconst_0 dX12_feeds_1 ?_
  refine R_putI dX12_feeds_2 fX12_3 hG.o ?_
  refine storH (fun h1 e1 => ?_)
  have hP : Mp M h h1 0 := by rw [e1]; exact Mp.i h M
  replace hW : h1 (M + 1) = w := hP.w hW
  have hQ : Mz M h1 h1 := Mz.rf _ _
  replace hQA : Ac M h1 A n := hQA.mp hP
  refine aL0 dX12_feeds_5 ?_
  refine aL0 dX12_feeds_6 ?_
  refine iL1 dX12_feeds_7 ?_
  refine invV1 rfl dX12_feeds_8 kX12_383 hG.o (Nat.le_of_ble_eq_true rfl) (Nat.zero_le _) (Nat.zero_le _) (C_X12_noJudge hG hW hf (konI ?_))
  refine R_iconst_1 dX12_feeds_11 ?_
  refine invV2 rfl dX12_feeds_12 kX12_274 hG.o (Nat.le_of_ble_eq_true rfl) (Nat.zero_le _) (Nat.zero_le _) (C_X12_throwsIf hG (fun h11 hth11 => konI ?_))
  have hPE11 : ∀ hbb : (noB x (w 0)) = true, Mp M h h11 1 := fun hbb => hth11.t (hP.q hQ) hbb
  have hQE11 : ∀ hbb : (noB x (w 0)) = false, Mz M h1 h11 := fun hbb => hth11.q hQ hbb
  have hWE11 : ∀ hbb : (noB x (w 0)) = false, h11 (M + 1) = w := fun hbb => hth11.w hW hbb
  refine R_ifB_eq dX12_feeds_15 (fun hb15 => ?_) (fun hb15 => ?_)
  · replace hQ := hQE11 hb15
    replace hW := hWE11 hb15
    have hx1 := noB_f hb15
    obtain ⟨j, rfl⟩ : ∃ j : Nat, x = (j : Int) := ⟨x.toNat, by omega⟩
    have hPP := hP.q hQ
    have hMA : Ma M h _ 0 := hPP.a
    replace hQA := hQA.mq hQ
    refine aL0 dX12_feeds_22 ?_
    refine iL1 dX12_feeds_23 ?_
    refine R_iconst_0 dX12_feeds_24 ?_
    refine invS2 rfl dX12_feeds_25 kX12_80 (Nat.le_of_ble_eq_true rfl) (Nat.zero_le _) (Nat.zero_le _) (C_X12_judgeAt (b := 0) (i := (80 + 4 * j)) (by omega) (by omega) (konI ?_))
    refine R_iconst_0 dX12_feeds_28 ?_
    refine invV2 rfl dX12_feeds_29 kX12_419 hG.o (Nat.le_of_ble_eq_true rfl) (Nat.zero_le _) (Nat.zero_le _) (C_X12_isNow hG hW hQA (i := (80 + 4 * j)) (by omega) (fun h12 hx12 hy12 hz12 => konI ?_))
    rw [hMA.2.2] at hx12
    replace hMA := hMA.tr hx12
    replace hW := hy12
    replace hQA := hz12
    exact R_iret dX12_feeds_32 rfl (K0 j rfl (by omega) _ hMA hW hQA)
  · have hPX := hPE11 hb15
    refine R_iconst_0 dX12_feeds_18 ?_
    refine R_goto dX12_feeds_19 ?_
    exact R_iret dX12_feeds_32 rfl (KE (noB_t hb15) _ hPX)
set_option maxHeartbeats 400000 in
theorem C_X12_inn {d : Nat} {g : Gs} {h : Hc} {P : Po} {M : Nat} {w : Nat → Int} (hG : MdG g M) (hW : h (M + 1) = w) (hf : WF w) {n : Nat} {A : Nat → Nat → Int} (hQA : Ac M h A n) {x y : Int} (KE1 : ¬ (0 ≤ x ∧ x < 12) → ∀ h', Mp M h h' 1 → P (.inl (some (vI 0))) g h') (KE2 : 0 ≤ x ∧ x < 12 → ¬ (0 ≤ y ∧ y ≤ 100) → ∀ h', Mp M h h' 2 → P (.inl (some (vI 0))) g h') (K0 : ∀ k : Nat, x = (k : Int) → k < 12 → 0 ≤ y ∧ y ≤ 100 → ∀ h', Ma M h h' 0 → h' (M + 1) = updW w (8 + k) y → Ac M h' (remA A n w) (rmbN n) → P (.inl (some (vI (w (8 + k))))) g h') : Call (d + 3) 0 0 mX12_inn [vR M, vI x, vI y] g h P := by
  have hcs := hf.cas
  have hjd := hf.jud
  have hho := hf.hou
  refine Call_of rfl ⟨by decide +kernel, rfl⟩ (Nat.le_of_ble_eq_true rfl) rfl ?_
  refine aL0 dX12_inn_0 ?_
  refine R_iconst_0 dX12_inn_1 ?_
  refine R_putI dX12_inn_2 fX12_3 hG.o ?_
  refine storH (fun h1 e1 => ?_)
  have hP : Mp M h h1 0 := by rw [e1]; exact Mp.i h M
  replace hW : h1 (M + 1) = w := hP.w hW
  have hQ : Mz M h1 h1 := Mz.rf _ _
  replace hQA : Ac M h1 A n := hQA.mp hP
  refine aL0 dX12_inn_5 ?_
  refine iL1 dX12_inn_6 ?_
  refine invS1 rfl dX12_inn_7 kX12_416 (Nat.le_of_ble_eq_true rfl) (Nat.zero_le _) (Nat.zero_le _) (C_X12_noHour (konI ?_))
  refine R_iconst_1 dX12_inn_10 ?_
  refine invV2 rfl dX12_inn_11 kX12_274 hG.o (Nat.le_of_ble_eq_true rfl) (Nat.zero_le _) (Nat.zero_le _) (C_X12_throwsIf hG (fun h11 hth11 => konI ?_))
  have hPE11 : ∀ hbb : (noB x 12) = true, Mp M h h11 1 := fun hbb => hth11.t (hP.q hQ) hbb
  have hQE11 : ∀ hbb : (noB x 12) = false, Mz M h1 h11 := fun hbb => hth11.q hQ hbb
  have hWE11 : ∀ hbb : (noB x 12) = false, h11 (M + 1) = w := fun hbb => hth11.w hW hbb
  refine R_ifB_ne dX12_inn_14 (fun hb14 => ?_) (fun hb14 => ?_)
  · have hPX := hPE11 hb14
    refine R_iconst_0 dX12_inn_40 ?_
    refine R_goto dX12_inn_41 ?_
    exact R_iret dX12_inn_53 rfl (KE1 (noB_t hb14) _ hPX)
  · replace hQ := hQE11 hb14
    replace hW := hWE11 hb14
    have hx1 := noB_f hb14
    refine aL0 dX12_inn_17 ?_
    suffices J12 : Run (d + 3) 0 0 mX12_inn 33 [vR M, vI x, vI y] [vI (bI (noB y 101)), vR M] g h11 P by
      refine iL2 dX12_inn_18 ?_
      refine R_iconst_0 dX12_inn_19 ?_
      refine R_bipush dX12_inn_20 (by decide) ?_
      refine invS3 rfl dX12_inn_22 kX12_101 (Nat.le_of_ble_eq_true rfl) (Nat.zero_le _) (Nat.zero_le _) (C_X12_in (konI ?_))
      refine R_ifB_ne dX12_inn_25 (fun hb25 => ?_) (fun hb25 => ?_)
      · refine R_iconst_0 dX12_inn_32 ?_
        exact topV (v := bI (noB y 101)) (by first | (rw [bI_t (by simp at hb25; simp [noB]; omega)]; done) | (rw [bI_f (by simp at hb25; simp [noB]; omega)]; done)) J12
      · refine R_iconst_1 dX12_inn_28 ?_
        refine R_goto dX12_inn_29 ?_
        exact topV (v := bI (noB y 101)) (by first | (rw [bI_t (by simp at hb25; simp [noB]; omega)]; done) | (rw [bI_f (by simp at hb25; simp [noB]; omega)]; done)) J12
    refine R_iconst_2 dX12_inn_33 ?_
    refine invV2 rfl dX12_inn_34 kX12_274 hG.o (Nat.le_of_ble_eq_true rfl) (Nat.zero_le _) (Nat.zero_le _) (C_X12_throwsIf hG (fun h13 hth13 => konI ?_))
    have hPE13 : ∀ hbb : (noB y 101) = true, Mp M h h13 2 := fun hbb => hth13.t (hP.q hQ) hbb
    have hQE13 : ∀ hbb : (noB y 101) = false, Mz M h1 h13 := fun hbb => hth13.q hQ hbb
    have hWE13 : ∀ hbb : (noB y 101) = false, h13 (M + 1) = w := fun hbb => hth13.w hW hbb
    refine R_ifB_eq dX12_inn_37 (fun hb37 => ?_) (fun hb37 => ?_)
    · replace hQ := hQE13 hb37
      replace hW := hWE13 hb37
      have hx2 := noB_f hb37
      obtain ⟨k, rfl⟩ : ∃ k : Nat, x = (k : Int) := ⟨x.toNat, by omega⟩
      have hPP := hP.q hQ
      have hMA : Ma M h _ 0 := hPP.a
      replace hQA := hQA.mq hQ
      refine aL0 dX12_inn_44 ?_
      refine R_bipush dX12_inn_45 (by decide) ?_
      refine iL1 dX12_inn_47 ?_
      refine addV dX12_inn_48 (v := (((8 + k) : Nat) : Int)) (by rw [wid (by omega) (by omega)]; omega) ?_
      refine iL2 dX12_inn_49 ?_
      refine invV2 rfl dX12_inn_50 kX12_419 hG.o (Nat.le_of_ble_eq_true rfl) (Nat.zero_le _) (Nat.zero_le _) (C_X12_isNow hG hW hQA (i := (8 + k)) (by omega) (fun h14 hx14 hy14 hz14 => konI ?_))
      rw [hMA.2.2] at hx14
      replace hMA := hMA.tr hx14
      replace hW := hy14
      replace hQA := hz14
      exact R_iret dX12_inn_53 rfl (K0 k rfl (by omega) (by omega) _ hMA hW hQA)
    · have hPX := hPE13 hb37
      refine R_iconst_0 dX12_inn_40 ?_
      refine R_goto dX12_inn_41 ?_
      exact R_iret dX12_inn_53 rfl (KE2 hx1 (fun h9 => noB_t hb37 (by omega)) _ hPX)
set_option maxHeartbeats 400000 in
theorem C_X12_grave {d : Nat} {g : Gs} {h : Hc} {P : Po} {M : Nat} {w : Nat → Int} (hG : MdG g M) (hW : h (M + 1) = w) (hf : WF w) {n : Nat} {A : Nat → Nat → Int} (hQA : Ac M h A n) {x y : Int} (KE1 : ¬ (0 ≤ x ∧ x < w 1) → ∀ h', Mp M h h' 1 → P (.inl (some (vI 0))) g h') (KE2 : 0 ≤ x ∧ x < w 1 → ¬ (0 ≤ y ∧ y ≤ 99) → ∀ h', Mp M h h' 2 → P (.inl (some (vI 0))) g h') (K0 : ∀ c : Nat, x = (c : Int) → (c : Int) < w 1 → 0 ≤ y ∧ y ≤ 99 → ∀ h', Ma M h h' 0 → h' (M + 1) = updW w (101 + 7 * c) y → Ac M h' (remA A n w) (rmbN n) → P (.inl (some (vI (w (101 + 7 * c))))) g h') : Call (d + 3) 0 0 mX12_grave [vR M, vI x, vI y] g h P := by
  have hcs := hf.cas
  have hjd := hf.jud
  have hho := hf.hou
  refine Call_of rfl ⟨by decide +kernel, rfl⟩ (Nat.le_of_ble_eq_true rfl) rfl ?_
  refine aL0 dX12_grave_0 ?_
  refine R_iconst_0 dX12_grave_1 ?_
  refine R_putI dX12_grave_2 fX12_3 hG.o ?_
  refine storH (fun h1 e1 => ?_)
  have hP : Mp M h h1 0 := by rw [e1]; exact Mp.i h M
  replace hW : h1 (M + 1) = w := hP.w hW
  have hQ : Mz M h1 h1 := Mz.rf _ _
  replace hQA : Ac M h1 A n := hQA.mp hP
  refine aL0 dX12_grave_5 ?_
  refine aL0 dX12_grave_6 ?_
  refine iL1 dX12_grave_7 ?_
  refine invV1 rfl dX12_grave_8 kX12_404 hG.o (Nat.le_of_ble_eq_true rfl) (Nat.zero_le _) (Nat.zero_le _) (C_X12_noCase hG hW hf (konI ?_))
  refine R_iconst_1 dX12_grave_11 ?_
  refine invV2 rfl dX12_grave_12 kX12_274 hG.o (Nat.le_of_ble_eq_true rfl) (Nat.zero_le _) (Nat.zero_le _) (C_X12_throwsIf hG (fun h11 hth11 => konI ?_))
  have hPE11 : ∀ hbb : (noB x (w 1)) = true, Mp M h h11 1 := fun hbb => hth11.t (hP.q hQ) hbb
  have hQE11 : ∀ hbb : (noB x (w 1)) = false, Mz M h1 h11 := fun hbb => hth11.q hQ hbb
  have hWE11 : ∀ hbb : (noB x (w 1)) = false, h11 (M + 1) = w := fun hbb => hth11.w hW hbb
  refine R_ifB_ne dX12_grave_15 (fun hb15 => ?_) (fun hb15 => ?_)
  · have hPX := hPE11 hb15
    refine R_iconst_0 dX12_grave_41 ?_
    refine R_goto dX12_grave_42 ?_
    exact R_iret dX12_grave_55 rfl (KE1 (noB_t hb15) _ hPX)
  · replace hQ := hQE11 hb15
    replace hW := hWE11 hb15
    have hx1 := noB_f hb15
    refine aL0 dX12_grave_18 ?_
    suffices J12 : Run (d + 3) 0 0 mX12_grave 34 [vR M, vI x, vI y] [vI (bI (noB y 100)), vR M] g h11 P by
      refine iL2 dX12_grave_19 ?_
      refine R_iconst_0 dX12_grave_20 ?_
      refine R_bipush dX12_grave_21 (by decide) ?_
      refine invS3 rfl dX12_grave_23 kX12_101 (Nat.le_of_ble_eq_true rfl) (Nat.zero_le _) (Nat.zero_le _) (C_X12_in (konI ?_))
      refine R_ifB_ne dX12_grave_26 (fun hb26 => ?_) (fun hb26 => ?_)
      · refine R_iconst_0 dX12_grave_33 ?_
        exact topV (v := bI (noB y 100)) (by first | (rw [bI_t (by simp at hb26; simp [noB]; omega)]; done) | (rw [bI_f (by simp at hb26; simp [noB]; omega)]; done)) J12
      · refine R_iconst_1 dX12_grave_29 ?_
        refine R_goto dX12_grave_30 ?_
        exact topV (v := bI (noB y 100)) (by first | (rw [bI_t (by simp at hb26; simp [noB]; omega)]; done) | (rw [bI_f (by simp at hb26; simp [noB]; omega)]; done)) J12
    refine R_iconst_2 dX12_grave_34 ?_
    refine invV2 rfl dX12_grave_35 kX12_274 hG.o (Nat.le_of_ble_eq_true rfl) (Nat.zero_le _) (Nat.zero_le _) (C_X12_throwsIf hG (fun h13 hth13 => konI ?_))
    have hPE13 : ∀ hbb : (noB y 100) = true, Mp M h h13 2 := fun hbb => hth13.t (hP.q hQ) hbb
    have hQE13 : ∀ hbb : (noB y 100) = false, Mz M h1 h13 := fun hbb => hth13.q hQ hbb
    have hWE13 : ∀ hbb : (noB y 100) = false, h13 (M + 1) = w := fun hbb => hth13.w hW hbb
    refine R_ifB_eq dX12_grave_38 (fun hb38 => ?_) (fun hb38 => ?_)
    · replace hQ := hQE13 hb38
      replace hW := hWE13 hb38
      have hx2 := noB_f hb38
      obtain ⟨c, rfl⟩ : ∃ c : Nat, x = (c : Int) := ⟨x.toNat, by omega⟩
      have hPP := hP.q hQ
      have hMA : Ma M h _ 0 := hPP.a
      replace hQA := hQA.mq hQ
      refine aL0 dX12_grave_45 ?_
      refine iL1 dX12_grave_46 ?_
      refine R_iconst_1 dX12_grave_47 ?_
      refine invS2 rfl dX12_grave_48 kX12_84 (Nat.le_of_ble_eq_true rfl) (Nat.zero_le _) (Nat.zero_le _) (C_X12_at (b := 1) (i := (101 + 7 * c)) (by omega) (by omega) (konI ?_))
      refine iL2 dX12_grave_51 ?_
      refine invV2 rfl dX12_grave_52 kX12_419 hG.o (Nat.le_of_ble_eq_true rfl) (Nat.zero_le _) (Nat.zero_le _) (C_X12_isNow hG hW hQA (i := (101 + 7 * c)) (by omega) (fun h14 hx14 hy14 hz14 => konI ?_))
      rw [hMA.2.2] at hx14
      replace hMA := hMA.tr hx14
      replace hW := hy14
      replace hQA := hz14
      exact R_iret dX12_grave_55 rfl (K0 c rfl (by omega) (by omega) _ hMA hW hQA)
    · have hPX := hPE13 hb38
      refine R_iconst_0 dX12_grave_41 ?_
      refine R_goto dX12_grave_42 ?_
      exact R_iret dX12_grave_55 rfl (KE2 hx1 (fun h9 => noB_t hb38 (by omega)) _ hPX)
set_option maxHeartbeats 400000 in
theorem C_X12_fast {d : Nat} {g : Gs} {h : Hc} {P : Po} {M : Nat} {w : Nat → Int} (hG : MdG g M) (hW : h (M + 1) = w) (hf : WF w) {n : Nat} {A : Nat → Nat → Int} (hQA : Ac M h A n) {x y : Int} (KE1 : ¬ (0 ≤ x ∧ x < w 0) → ∀ h', Mp M h h' 1 → P (.inl (some (vI 0))) g h') (KE2 : 0 ≤ x ∧ x < w 0 → ¬ (0 ≤ y ∧ y ≤ 99) → ∀ h', Mp M h h' 2 → P (.inl (some (vI 0))) g h') (KE3 : ∀ j : Nat, x = (j : Int) → (j : Int) < w 0 → 0 ≤ y ∧ y ≤ 99 → y < w (80 + 4 * j) → ∀ h', Mp M h h' 3 → P (.inl (some (vI 0))) g h') (K0 : ∀ j : Nat, x = (j : Int) → (j : Int) < w 0 → 0 ≤ y ∧ y ≤ 99 → w (80 + 4 * j) ≤ y → ∀ h', Ma M h h' 0 → h' (M + 1) = updW w (80 + 4 * j) y → Ac M h' (remA A n w) (rmbN n) → P (.inl (some (vI (w (80 + 4 * j))))) g h') : Call (d + 3) 0 0 mX12_fast [vR M, vI x, vI y] g h P := by
  have hcs := hf.cas
  have hjd := hf.jud
  have hho := hf.hou
  refine Call_of rfl ⟨by decide +kernel, rfl⟩ (Nat.le_of_ble_eq_true rfl) rfl ?_
  refine aL0 dX12_fast_0 ?_
  refine R_iconst_0 dX12_fast_1 ?_
  refine R_putI dX12_fast_2 fX12_3 hG.o ?_
  refine storH (fun h1 e1 => ?_)
  have hP : Mp M h h1 0 := by rw [e1]; exact Mp.i h M
  replace hW : h1 (M + 1) = w := hP.w hW
  have hQ : Mz M h1 h1 := Mz.rf _ _
  replace hQA : Ac M h1 A n := hQA.mp hP
  refine aL0 dX12_fast_5 ?_
  refine aL0 dX12_fast_6 ?_
  refine iL1 dX12_fast_7 ?_
  refine invV1 rfl dX12_fast_8 kX12_383 hG.o (Nat.le_of_ble_eq_true rfl) (Nat.zero_le _) (Nat.zero_le _) (C_X12_noJudge hG hW hf (konI ?_))
  refine R_iconst_1 dX12_fast_11 ?_
  refine invV2 rfl dX12_fast_12 kX12_274 hG.o (Nat.le_of_ble_eq_true rfl) (Nat.zero_le _) (Nat.zero_le _) (C_X12_throwsIf hG (fun h11 hth11 => konI ?_))
  have hPE11 : ∀ hbb : (noB x (w 0)) = true, Mp M h h11 1 := fun hbb => hth11.t (hP.q hQ) hbb
  have hQE11 : ∀ hbb : (noB x (w 0)) = false, Mz M h1 h11 := fun hbb => hth11.q hQ hbb
  have hWE11 : ∀ hbb : (noB x (w 0)) = false, h11 (M + 1) = w := fun hbb => hth11.w hW hbb
  refine R_ifB_ne dX12_fast_15 (fun hb15 => ?_) (fun hb15 => ?_)
  · have hPX := hPE11 hb15
    refine R_iconst_0 dX12_fast_64 ?_
    exact R_iret dX12_fast_65 rfl (KE1 (noB_t hb15) _ hPX)
  · replace hQ := hQE11 hb15
    replace hW := hWE11 hb15
    have hx1 := noB_f hb15
    refine aL0 dX12_fast_18 ?_
    suffices J12 : Run (d + 3) 0 0 mX12_fast 34 [vR M, vI x, vI y] [vI (bI (noB y 100)), vR M] g h11 P by
      refine iL2 dX12_fast_19 ?_
      refine R_iconst_0 dX12_fast_20 ?_
      refine R_bipush dX12_fast_21 (by decide) ?_
      refine invS3 rfl dX12_fast_23 kX12_101 (Nat.le_of_ble_eq_true rfl) (Nat.zero_le _) (Nat.zero_le _) (C_X12_in (konI ?_))
      refine R_ifB_ne dX12_fast_26 (fun hb26 => ?_) (fun hb26 => ?_)
      · refine R_iconst_0 dX12_fast_33 ?_
        exact topV (v := bI (noB y 100)) (by first | (rw [bI_t (by simp at hb26; simp [noB]; omega)]; done) | (rw [bI_f (by simp at hb26; simp [noB]; omega)]; done)) J12
      · refine R_iconst_1 dX12_fast_29 ?_
        refine R_goto dX12_fast_30 ?_
        exact topV (v := bI (noB y 100)) (by first | (rw [bI_t (by simp at hb26; simp [noB]; omega)]; done) | (rw [bI_f (by simp at hb26; simp [noB]; omega)]; done)) J12
    refine R_iconst_2 dX12_fast_34 ?_
    refine invV2 rfl dX12_fast_35 kX12_274 hG.o (Nat.le_of_ble_eq_true rfl) (Nat.zero_le _) (Nat.zero_le _) (C_X12_throwsIf hG (fun h13 hth13 => konI ?_))
    have hPE13 : ∀ hbb : (noB y 100) = true, Mp M h h13 2 := fun hbb => hth13.t (hP.q hQ) hbb
    have hQE13 : ∀ hbb : (noB y 100) = false, Mz M h1 h13 := fun hbb => hth13.q hQ hbb
    have hWE13 : ∀ hbb : (noB y 100) = false, h13 (M + 1) = w := fun hbb => hth13.w hW hbb
    refine R_ifB_ne dX12_fast_38 (fun hb38 => ?_) (fun hb38 => ?_)
    · have hPX := hPE13 hb38
      refine R_iconst_0 dX12_fast_64 ?_
      exact R_iret dX12_fast_65 rfl (KE2 hx1 (fun h9 => noB_t hb38 (by omega)) _ hPX)
    · replace hQ := hQE13 hb38
      replace hW := hWE13 hb38
      have hx2 := noB_f hb38
      obtain ⟨j, rfl⟩ : ∃ j : Nat, x = (j : Int) := ⟨x.toNat, by omega⟩
      refine aL0 dX12_fast_41 ?_
      suffices J14 : Run (d + 3) 0 0 mX12_fast 57 [vR M, vI ((j : Nat) : Int), vI y] [vI (bI (decide (y < w (80 + 4 * j)))), vR M] g h13 P by
        refine aL0 dX12_fast_42 ?_
        refine iL1 dX12_fast_43 ?_
        refine R_iconst_0 dX12_fast_44 ?_
        refine invV2 rfl dX12_fast_45 kX12_280 hG.o (Nat.le_of_ble_eq_true rfl) (Nat.zero_le _) (Nat.zero_le _) (C_X12_ofJudge hG hW (b := 0) (i := 80 + 4 * j) (by omega) (by omega) (konI ?_))
        have hq15 := hf.hu (j := j) (by omega)
        refine iL2 dX12_fast_48 ?_
        refine R_icmp_le dX12_fast_49 (fun hb49 => ?_) (fun hb49 => ?_)
        · refine R_iconst_0 dX12_fast_56 ?_
          exact topV (v := bI (decide (y < w (80 + 4 * j)))) (by first | (rw [bI_t (by first | assumption | (simp; omega))]) | (rw [bI_f (by first | assumption | (simp; omega))])) J14
        · refine R_iconst_1 dX12_fast_52 ?_
          refine R_goto dX12_fast_53 ?_
          exact topV (v := bI (decide (y < w (80 + 4 * j)))) (by first | (rw [bI_t (by first | assumption | (simp; omega))]) | (rw [bI_f (by first | assumption | (simp; omega))])) J14
      refine R_iconst_3 dX12_fast_57 ?_
      refine invV2 rfl dX12_fast_58 kX12_274 hG.o (Nat.le_of_ble_eq_true rfl) (Nat.zero_le _) (Nat.zero_le _) (C_X12_throwsIf hG (fun h16 hth16 => konI ?_))
      have hPE16 : ∀ hbb : (decide (y < w (80 + 4 * j))) = true, Mp M h h16 3 := fun hbb => hth16.t (hP.q hQ) hbb
      have hQE16 : ∀ hbb : (decide (y < w (80 + 4 * j))) = false, Mz M h1 h16 := fun hbb => hth16.q hQ hbb
      have hWE16 : ∀ hbb : (decide (y < w (80 + 4 * j))) = false, h16 (M + 1) = w := fun hbb => hth16.w hW hbb
      refine R_ifB_eq dX12_fast_61 (fun hb61 => ?_) (fun hb61 => ?_)
      · replace hQ := hQE16 hb61
        replace hW := hWE16 hb61
        have hx3 := of_decide_eq_false hb61
        have hPP := hP.q hQ
        have hMA : Ma M h _ 0 := hPP.a
        replace hQA := hQA.mq hQ
        refine aL0 dX12_fast_66 ?_
        refine iL1 dX12_fast_67 ?_
        refine R_iconst_0 dX12_fast_68 ?_
        refine invS2 rfl dX12_fast_69 kX12_80 (Nat.le_of_ble_eq_true rfl) (Nat.zero_le _) (Nat.zero_le _) (C_X12_judgeAt (b := 0) (i := (80 + 4 * j)) (by omega) (by omega) (konI ?_))
        refine iL2 dX12_fast_72 ?_
        refine invV2 rfl dX12_fast_73 kX12_419 hG.o (Nat.le_of_ble_eq_true rfl) (Nat.zero_le _) (Nat.zero_le _) (C_X12_isNow hG hW hQA (i := (80 + 4 * j)) (by omega) (fun h17 hx17 hy17 hz17 => konI ?_))
        rw [hMA.2.2] at hx17
        replace hMA := hMA.tr hx17
        replace hW := hy17
        replace hQA := hz17
        exact R_iret dX12_fast_76 rfl (K0 j rfl (by omega) (by omega) (by omega) _ hMA hW hQA)
      · have hPX := hPE16 hb61
        refine R_iconst_0 dX12_fast_64 ?_
        exact R_iret dX12_fast_65 rfl (KE3 j rfl (by omega) (by omega) (of_decide_eq_true hb61) _ hPX)
set_option maxHeartbeats 400000 in
theorem C_X12_appeal {d : Nat} {g : Gs} {h : Hc} {P : Po} {M : Nat} {w : Nat → Int} (hG : MdG g M) (hW : h (M + 1) = w) (hf : WF w) {n : Nat} {A : Nat → Nat → Int} (hQA : Ac M h A n) {x : Int} (KE1 : ¬ (0 ≤ x ∧ x < w 1) → ∀ h', Mp M h h' 1 → P (.inl (some (vI 0))) g h') (KE2 : ∀ c : Nat, x = (c : Int) → (c : Int) < w 1 → ¬ (w (104 + 7 * c) = 2 ∨ w (104 + 7 * c) = 3) → ∀ h', Mp M h h' 2 → P (.inl (some (vI 0))) g h') (K0 : ∀ c : Nat, x = (c : Int) → (c : Int) < w 1 → (w (104 + 7 * c) = 2 ∨ w (104 + 7 * c) = 3) → ∀ h', Ma M h h' 0 → h' (M + 1) = updW (updW (updW w (104 + 7 * c) 0) (105 + 7 * c) (-1)) (106 + 7 * c) (-1) → Ac M h' (remA A n w) (rmbN n) → P (.inl (some (vI (w (104 + 7 * c))))) g h') : Call (d + 3) 0 0 mX12_appeal [vR M, vI x] g h P := by
  have hcs := hf.cas
  have hjd := hf.jud
  have hho := hf.hou
  refine Call_of rfl ⟨by decide +kernel, rfl⟩ (Nat.le_of_ble_eq_true rfl) rfl ?_
  refine aL0 dX12_appeal_0 ?_
  refine R_iconst_0 dX12_appeal_1 ?_
  refine R_putI dX12_appeal_2 fX12_3 hG.o ?_
  refine storH (fun h1 e1 => ?_)
  have hP : Mp M h h1 0 := by rw [e1]; exact Mp.i h M
  replace hW : h1 (M + 1) = w := hP.w hW
  have hQ : Mz M h1 h1 := Mz.rf _ _
  replace hQA : Ac M h1 A n := hQA.mp hP
  refine aL0 dX12_appeal_5 ?_
  refine aL0 dX12_appeal_6 ?_
  refine iL1 dX12_appeal_7 ?_
  refine invV1 rfl dX12_appeal_8 kX12_404 hG.o (Nat.le_of_ble_eq_true rfl) (Nat.zero_le _) (Nat.zero_le _) (C_X12_noCase hG hW hf (konI ?_))
  refine R_iconst_1 dX12_appeal_11 ?_
  refine invV2 rfl dX12_appeal_12 kX12_274 hG.o (Nat.le_of_ble_eq_true rfl) (Nat.zero_le _) (Nat.zero_le _) (C_X12_throwsIf hG (fun h11 hth11 => konI ?_))
  have hPE11 : ∀ hbb : (noB x (w 1)) = true, Mp M h h11 1 := fun hbb => hth11.t (hP.q hQ) hbb
  have hQE11 : ∀ hbb : (noB x (w 1)) = false, Mz M h1 h11 := fun hbb => hth11.q hQ hbb
  have hWE11 : ∀ hbb : (noB x (w 1)) = false, h11 (M + 1) = w := fun hbb => hth11.w hW hbb
  refine R_ifB_ne dX12_appeal_15 (fun hb15 => ?_) (fun hb15 => ?_)
  · have hPX := hPE11 hb15
    refine R_iconst_0 dX12_appeal_51 ?_
    exact R_iret dX12_appeal_52 rfl (KE1 (noB_t hb15) _ hPX)
  · replace hQ := hQE11 hb15
    replace hW := hWE11 hb15
    have hx1 := noB_f hb15
    obtain ⟨c, rfl⟩ : ∃ c : Nat, x = (c : Int) := ⟨x.toNat, by omega⟩
    refine aL0 dX12_appeal_18 ?_
    suffices J12 : Run (d + 3) 0 0 mX12_appeal 44 [vR M, vI ((c : Nat) : Int), vU] [vI (bI (!decide (w (104 + 7 * c) = 2 ∨ w (104 + 7 * c) = 3))), vR M] g h11 P by
      refine aL0 dX12_appeal_19 ?_
      refine iL1 dX12_appeal_20 ?_
      refine R_iconst_4 dX12_appeal_21 ?_
      refine invV2 rfl dX12_appeal_22 kX12_87 hG.o (Nat.le_of_ble_eq_true rfl) (Nat.zero_le _) (Nat.zero_le _) (C_X12_of hG hW (b := 4) (i := 104 + 7 * c) (by omega) (by omega) (konI ?_))
      have hq13 := hf.st (c := c) (by omega)
      refine R_iconst_2 dX12_appeal_25 ?_
      refine R_icmp_eq dX12_appeal_26 (fun hb26 => ?_) (fun hb26 => ?_)
      · refine R_iconst_0 dX12_appeal_43 ?_
        exact topV (v := bI (!decide (w (104 + 7 * c) = 2 ∨ w (104 + 7 * c) = 3))) (by first | (rw [bI_t (by simp; omega)]; done) | (rw [bI_f (by simp; omega)]; done)) J12
      · refine aL0 dX12_appeal_29 ?_
        refine iL1 dX12_appeal_30 ?_
        refine R_iconst_4 dX12_appeal_31 ?_
        refine invV2 rfl dX12_appeal_32 kX12_87 hG.o (Nat.le_of_ble_eq_true rfl) (Nat.zero_le _) (Nat.zero_le _) (C_X12_of hG hW (b := 4) (i := 104 + 7 * c) (by omega) (by omega) (konI ?_))
        have hq14 := hf.st (c := c) (by omega)
        refine R_iconst_3 dX12_appeal_35 ?_
        refine R_icmp_eq dX12_appeal_36 (fun hb36 => ?_) (fun hb36 => ?_)
        · refine R_iconst_0 dX12_appeal_43 ?_
          exact topV (v := bI (!decide (w (104 + 7 * c) = 2 ∨ w (104 + 7 * c) = 3))) (by first | (rw [bI_t (by simp; omega)]; done) | (rw [bI_f (by simp; omega)]; done)) J12
        · refine R_iconst_1 dX12_appeal_39 ?_
          refine R_goto dX12_appeal_40 ?_
          exact topV (v := bI (!decide (w (104 + 7 * c) = 2 ∨ w (104 + 7 * c) = 3))) (by first | (rw [bI_t (by simp; omega)]; done) | (rw [bI_f (by simp; omega)]; done)) J12
    refine R_iconst_2 dX12_appeal_44 ?_
    refine invV2 rfl dX12_appeal_45 kX12_274 hG.o (Nat.le_of_ble_eq_true rfl) (Nat.zero_le _) (Nat.zero_le _) (C_X12_throwsIf hG (fun h15 hth15 => konI ?_))
    have hPE15 : ∀ hbb : (!decide (w (104 + 7 * c) = 2 ∨ w (104 + 7 * c) = 3)) = true, Mp M h h15 2 := fun hbb => hth15.t (hP.q hQ) hbb
    have hQE15 : ∀ hbb : (!decide (w (104 + 7 * c) = 2 ∨ w (104 + 7 * c) = 3)) = false, Mz M h1 h15 := fun hbb => hth15.q hQ hbb
    have hWE15 : ∀ hbb : (!decide (w (104 + 7 * c) = 2 ∨ w (104 + 7 * c) = 3)) = false, h15 (M + 1) = w := fun hbb => hth15.w hW hbb
    refine R_ifB_eq dX12_appeal_48 (fun hb48 => ?_) (fun hb48 => ?_)
    · replace hQ := hQE15 hb48
      replace hW := hWE15 hb48
      have hx2 : w (104 + 7 * c) = 2 ∨ w (104 + 7 * c) = 3 := by have h9 := hb48; simp at h9; omega
      have hPP := hP.q hQ
      have hMA : Ma M h _ 0 := hPP.a
      replace hQA := hQA.mq hQ
      refine aL0 dX12_appeal_53 ?_
      refine iL1 dX12_appeal_54 ?_
      refine R_iconst_4 dX12_appeal_55 ?_
      refine invS2 rfl dX12_appeal_56 kX12_84 (Nat.le_of_ble_eq_true rfl) (Nat.zero_le _) (Nat.zero_le _) (C_X12_at (b := 4) (i := (104 + 7 * c)) (by omega) (by omega) (konI ?_))
      refine R_iconst_0 dX12_appeal_59 ?_
      refine invV2 rfl dX12_appeal_60 kX12_419 hG.o (Nat.le_of_ble_eq_true rfl) (Nat.zero_le _) (Nat.zero_le _) (C_X12_isNow hG hW hQA (i := (104 + 7 * c)) (by omega) (fun h16 hx16 hy16 hz16 => konI ?_))
      rw [hMA.2.2] at hx16
      replace hMA := hMA.tr hx16
      replace hW := hy16
      replace hQA := hz16
      refine iS2 dX12_appeal_63 ?_
      refine aL0 dX12_appeal_64 ?_
      refine R_getR dX12_appeal_65 fX12_13.r hG.o rfl ?_
      refine iL1 dX12_appeal_68 ?_
      refine R_iconst_5 dX12_appeal_69 ?_
      refine invS2 rfl dX12_appeal_70 kX12_84 (Nat.le_of_ble_eq_true rfl) (Nat.zero_le _) (Nat.zero_le _) (C_X12_at (b := 5) (i := (105 + 7 * c)) (by omega) (by omega) (konI ?_))
      refine R_iconst_m1 dX12_appeal_73 ?_
      refine iastN dX12_appeal_74 hG.a1 rfl (by omega) ?_
      refine storH (fun h17 e17 => ?_)
      have hM0 := hMA
      have hW0 := hW
      have hQ0 := hQA
      replace hMA : Ma M h h17 0 := by rw [e17]; exact hM0.arr rfl
      replace hW : h17 (M + 1) = (updW (updW w (104 + 7 * c) 0) (105 + 7 * c) (-1)) := by rw [e17, updH_r, hW0]
      replace hQA := hQ0.we e17
      refine aL0 dX12_appeal_75 ?_
      refine R_getR dX12_appeal_76 fX12_13.r hG.o rfl ?_
      refine iL1 dX12_appeal_79 ?_
      refine R_bipush dX12_appeal_80 (by decide) ?_
      refine invS2 rfl dX12_appeal_82 kX12_84 (Nat.le_of_ble_eq_true rfl) (Nat.zero_le _) (Nat.zero_le _) (C_X12_at (b := 6) (i := (106 + 7 * c)) (by omega) (by omega) (konI ?_))
      refine R_iconst_m1 dX12_appeal_85 ?_
      refine iastN dX12_appeal_86 hG.a1 rfl (by omega) ?_
      refine storH (fun h18 e18 => ?_)
      have hM0 := hMA
      have hW0 := hW
      have hQ0 := hQA
      replace hMA : Ma M h h18 0 := by rw [e18]; exact hM0.arr rfl
      replace hW : h18 (M + 1) = (updW (updW (updW w (104 + 7 * c) 0) (105 + 7 * c) (-1)) (106 + 7 * c) (-1)) := by rw [e18, updH_r, hW0]
      replace hQA := hQ0.we e18
      refine iL2 dX12_appeal_87 ?_
      exact R_iret dX12_appeal_88 rfl (K0 c rfl (by omega) hx2 _ hMA hW hQA)
    · have hPX := hPE15 hb48
      refine R_iconst_0 dX12_appeal_51 ?_
      exact R_iret dX12_appeal_52 rfl (KE2 c rfl (by omega) (by have h9 := hb48; simp at h9; omega) _ hPX)
set_option maxHeartbeats 400000 in
theorem C_X12_strike {d : Nat} {g : Gs} {h : Hc} {P : Po} {M : Nat} {w : Nat → Int} (hG : MdG g M) (hW : h (M + 1) = w) (hf : WF w) {n : Nat} {A : Nat → Nat → Int} (hQA : Ac M h A n) {x y : Int} (KE1 : ¬ ((0 ≤ x ∧ x < w 0) ∧ 0 ≤ y ∧ y < 12) → ∀ h', Mp M h h' 1 → P (.inl (some (vI 0))) g h') (KE2 : ∀ j k : Nat, x = (j : Int) → y = (k : Int) → (j : Int) < w 0 → k < 12 → w (20 + (12 * j + k)) < 0 → ∀ h', Mp M h h' 2 → P (.inl (some (vI 0))) g h') (K0 : ∀ j k : Nat, x = (j : Int) → y = (k : Int) → (j : Int) < w 0 → k < 12 → 0 ≤ w (20 + (12 * j + k)) → ∀ h', Ma M h h' 0 → h' (M + 1) = updW w (20 + (12 * j + k)) (-1) → Ac M h' (remA A n w) (rmbN n) → P (.inl (some (vI (w (20 + (12 * j + k)))))) g h') : Call (d + 3) 0 0 mX12_strike [vR M, vI x, vI y] g h P := by
  have hcs := hf.cas
  have hjd := hf.jud
  have hho := hf.hou
  refine Call_of rfl ⟨by decide +kernel, rfl⟩ (Nat.le_of_ble_eq_true rfl) rfl ?_
  refine aL0 dX12_strike_0 ?_
  refine R_iconst_0 dX12_strike_1 ?_
  refine R_putI dX12_strike_2 fX12_3 hG.o ?_
  refine storH (fun h1 e1 => ?_)
  have hP : Mp M h h1 0 := by rw [e1]; exact Mp.i h M
  replace hW : h1 (M + 1) = w := hP.w hW
  have hQ : Mz M h1 h1 := Mz.rf _ _
  replace hQA : Ac M h1 A n := hQA.mp hP
  refine aL0 dX12_strike_5 ?_
  suffices J11 : Run (d + 3) 0 0 mX12_strike 26 [vR M, vI x, vI y] [vI (bI (noB x (w 0) || noB y 12)), vR M] g h1 P by
    refine aL0 dX12_strike_6 ?_
    refine iL1 dX12_strike_7 ?_
    refine invV1 rfl dX12_strike_8 kX12_383 hG.o (Nat.le_of_ble_eq_true rfl) (Nat.zero_le _) (Nat.zero_le _) (C_X12_noJudge hG hW hf (konI ?_))
    refine R_ifB_ne dX12_strike_11 (fun hb11 => ?_) (fun hb11 => ?_)
    · refine R_iconst_1 dX12_strike_21 ?_
      refine R_goto dX12_strike_22 ?_
      exact topV (v := bI (noB x (w 0) || noB y 12)) (by first | (rw [bI_t (by first | (simp [hb11]; done) | fail)]; done) | (rw [bI_t (by first | (simp [hb11, hb18]; done) | fail)]; done) | (rw [bI_f (by first | (simp [hb11, hb18]; done) | fail)]; done)) J11
    · refine iL2 dX12_strike_14 ?_
      refine invS1 rfl dX12_strike_15 kX12_416 (Nat.le_of_ble_eq_true rfl) (Nat.zero_le _) (Nat.zero_le _) (C_X12_noHour (konI ?_))
      refine R_ifB_eq dX12_strike_18 (fun hb18 => ?_) (fun hb18 => ?_)
      · refine R_iconst_0 dX12_strike_25 ?_
        exact topV (v := bI (noB x (w 0) || noB y 12)) (by first | (rw [bI_t (by first | (simp [hb11]; done) | fail)]; done) | (rw [bI_t (by first | (simp [hb11, hb18]; done) | fail)]; done) | (rw [bI_f (by first | (simp [hb11, hb18]; done) | fail)]; done)) J11
      · refine R_iconst_1 dX12_strike_21 ?_
        refine R_goto dX12_strike_22 ?_
        exact topV (v := bI (noB x (w 0) || noB y 12)) (by first | (rw [bI_t (by first | (simp [hb11]; done) | fail)]; done) | (rw [bI_t (by first | (simp [hb11, hb18]; done) | fail)]; done) | (rw [bI_f (by first | (simp [hb11, hb18]; done) | fail)]; done)) J11
  refine R_iconst_1 dX12_strike_26 ?_
  refine invV2 rfl dX12_strike_27 kX12_274 hG.o (Nat.le_of_ble_eq_true rfl) (Nat.zero_le _) (Nat.zero_le _) (C_X12_throwsIf hG (fun h12 hth12 => konI ?_))
  have hPE12 : ∀ hbb : (noB x (w 0) || noB y 12) = true, Mp M h h12 1 := fun hbb => hth12.t (hP.q hQ) hbb
  have hQE12 : ∀ hbb : (noB x (w 0) || noB y 12) = false, Mz M h1 h12 := fun hbb => hth12.q hQ hbb
  have hWE12 : ∀ hbb : (noB x (w 0) || noB y 12) = false, h12 (M + 1) = w := fun hbb => hth12.w hW hbb
  refine R_ifB_ne dX12_strike_30 (fun hb30 => ?_) (fun hb30 => ?_)
  · have hPX := hPE12 hb30
    refine R_iconst_0 dX12_strike_60 ?_
    exact R_iret dX12_strike_61 rfl (KE1 (by simp [noB] at hb30; omega) _ hPX)
  · replace hQ := hQE12 hb30
    replace hW := hWE12 hb30
    have hb9 := hb30
    simp only [Bool.or_eq_false_iff] at hb9
    have hx1 := noB_f hb9.1
    have hx2 := noB_f hb9.2
    obtain ⟨j, rfl⟩ : ∃ j : Nat, x = (j : Int) := ⟨x.toNat, by omega⟩
    obtain ⟨k, rfl⟩ : ∃ k : Nat, y = (k : Int) := ⟨y.toNat, by omega⟩
    have hpl := hf.pla (12 * j + k) (by omega)
    refine aL0 dX12_strike_33 ?_
    suffices J13 : Run (d + 3) 0 0 mX12_strike 53 [vR M, vI ((j : Nat) : Int), vI ((k : Nat) : Int)] [vI (bI (decide (w (20 + (12 * j + k)) = -1))), vR M] g h12 P by
      refine aL0 dX12_strike_34 ?_
      refine R_getR dX12_strike_35 fX12_13.r hG.o rfl ?_
      refine iL1 dX12_strike_38 ?_
      refine iL2 dX12_strike_39 ?_
      refine invS2 rfl dX12_strike_40 kX12_163 (Nat.le_of_ble_eq_true rfl) (Nat.zero_le _) (Nat.zero_le _) (C_X12_listAt (i := 20 + (12 * j + k)) (by omega) (by omega) (konI ?_))
      refine ialdN dX12_strike_43 hG.a1 rfl (by omega) ?_
      refine topV (v := w (20 + (12 * j + k))) (congrFun hW _) ?_
      refine R_iconst_m1 dX12_strike_44 ?_
      refine R_icmp_ne dX12_strike_45 (fun hb45 => ?_) (fun hb45 => ?_)
      · refine R_iconst_0 dX12_strike_52 ?_
        exact topV (v := bI (decide (w (20 + (12 * j + k)) = -1))) (by first | (rw [bI_t (by first | assumption | (simp; omega))]) | (rw [bI_f (by first | assumption | (simp; omega))])) J13
      · refine R_iconst_1 dX12_strike_48 ?_
        refine R_goto dX12_strike_49 ?_
        exact topV (v := bI (decide (w (20 + (12 * j + k)) = -1))) (by first | (rw [bI_t (by first | assumption | (simp; omega))]) | (rw [bI_f (by first | assumption | (simp; omega))])) J13
    refine R_iconst_2 dX12_strike_53 ?_
    refine invV2 rfl dX12_strike_54 kX12_274 hG.o (Nat.le_of_ble_eq_true rfl) (Nat.zero_le _) (Nat.zero_le _) (C_X12_throwsIf hG (fun h14 hth14 => konI ?_))
    have hPE14 : ∀ hbb : (decide (w (20 + (12 * j + k)) = -1)) = true, Mp M h h14 2 := fun hbb => hth14.t (hP.q hQ) hbb
    have hQE14 : ∀ hbb : (decide (w (20 + (12 * j + k)) = -1)) = false, Mz M h1 h14 := fun hbb => hth14.q hQ hbb
    have hWE14 : ∀ hbb : (decide (w (20 + (12 * j + k)) = -1)) = false, h14 (M + 1) = w := fun hbb => hth14.w hW hbb
    refine R_ifB_eq dX12_strike_57 (fun hb57 => ?_) (fun hb57 => ?_)
    · replace hQ := hQE14 hb57
      replace hW := hWE14 hb57
      have hx3 := of_decide_eq_false hb57
      have hPP := hP.q hQ
      have hMA : Ma M h _ 0 := hPP.a
      replace hQA := hQA.mq hQ
      refine aL0 dX12_strike_62 ?_
      refine iL1 dX12_strike_63 ?_
      refine iL2 dX12_strike_64 ?_
      refine invS2 rfl dX12_strike_65 kX12_163 (Nat.le_of_ble_eq_true rfl) (Nat.zero_le _) (Nat.zero_le _) (C_X12_listAt (i := 20 + (12 * j + k)) (by omega) (by omega) (konI ?_))
      refine R_iconst_m1 dX12_strike_68 ?_
      refine invV2 rfl dX12_strike_69 kX12_419 hG.o (Nat.le_of_ble_eq_true rfl) (Nat.zero_le _) (Nat.zero_le _) (C_X12_isNow hG hW hQA (i := (20 + (12 * j + k))) (by omega) (fun h15 hx15 hy15 hz15 => konI ?_))
      rw [hMA.2.2] at hx15
      replace hMA := hMA.tr hx15
      replace hW := hy15
      replace hQA := hz15
      exact R_iret dX12_strike_72 rfl (K0 j k rfl rfl (by omega) (by omega) (by omega) _ hMA hW hQA)
    · have hPX := hPE14 hb57
      refine R_iconst_0 dX12_strike_60 ?_
      exact R_iret dX12_strike_61 rfl (KE2 j k rfl rfl (by omega) (by omega) (by have := of_decide_eq_true hb57; omega) _ hPX)
set_option maxHeartbeats 400000 in
theorem C_X12_list {d : Nat} {g : Gs} {h : Hc} {P : Po} {M : Nat} {w : Nat → Int} (hG : MdG g M) (hW : h (M + 1) = w) (hf : WF w) {n : Nat} {A : Nat → Nat → Int} (hQA : Ac M h A n) {x y z : Int} (KE1 : ¬ ((0 ≤ x ∧ x < w 0) ∧ (0 ≤ y ∧ y < 12) ∧ 0 ≤ z ∧ z < w 1) → ∀ h', Mp M h h' 1 → P (.inl (some (vI 0))) g h') (KE2 : ∀ j k c : Nat, x = (j : Int) → y = (k : Int) → z = (c : Int) → (j : Int) < w 0 → k < 12 → (c : Int) < w 1 → ¬ w (104 + 7 * c) = 0 → ∀ h', Mp M h h' 2 → P (.inl (some (vI 0))) g h') (K0 : ∀ j k c : Nat, x = (j : Int) → y = (k : Int) → z = (c : Int) → (j : Int) < w 0 → k < 12 → (c : Int) < w 1 → w (104 + 7 * c) = 0 → ∀ h', Ma M h h' 0 → h' (M + 1) = updW (stW w (c : Int)) (20 + (12 * j + k)) (c : Int) → Ac M h' (remA A n w) (rmbN n) → P (.inl (some (vI (w (20 + (12 * j + k)))))) g h') : Call (d + 3) 0 0 mX12_list [vR M, vI x, vI y, vI z] g h P := by
  have hcs := hf.cas
  have hjd := hf.jud
  have hho := hf.hou
  refine Call_of rfl ⟨by decide +kernel, rfl⟩ (Nat.le_of_ble_eq_true rfl) rfl ?_
  refine aL0 dX12_list_0 ?_
  refine R_iconst_0 dX12_list_1 ?_
  refine R_putI dX12_list_2 fX12_3 hG.o ?_
  refine storH (fun h1 e1 => ?_)
  have hP : Mp M h h1 0 := by rw [e1]; exact Mp.i h M
  replace hW : h1 (M + 1) = w := hP.w hW
  have hQ : Mz M h1 h1 := Mz.rf _ _
  replace hQA : Ac M h1 A n := hQA.mp hP
  refine aL0 dX12_list_5 ?_
  suffices J11 : Run (d + 3) 0 0 mX12_list 34 [vR M, vI x, vI y, vI z, vU] [vI (bI (noB x (w 0) || noB y 12 || noB z (w 1))), vR M] g h1 P by
    refine aL0 dX12_list_6 ?_
    refine iL1 dX12_list_7 ?_
    refine invV1 rfl dX12_list_8 kX12_383 hG.o (Nat.le_of_ble_eq_true rfl) (Nat.zero_le _) (Nat.zero_le _) (C_X12_noJudge hG hW hf (konI ?_))
    refine R_ifB_ne dX12_list_11 (fun hb11 => ?_) (fun hb11 => ?_)
    · refine R_iconst_1 dX12_list_29 ?_
      refine R_goto dX12_list_30 ?_
      exact topV (v := bI (noB x (w 0) || noB y 12 || noB z (w 1))) (by first | (rw [bI_t (by first | (simp [hb11]; done) | fail)]; done) | (rw [bI_t (by first | (simp [hb11, hb18]; done) | fail)]; done) | (rw [bI_t (by first | (simp [hb11, hb18, hb26]; done) | fail)]; done) | (rw [bI_f (by first | (simp [hb11, hb18, hb26]; done) | fail)]; done)) J11
    · refine iL2 dX12_list_14 ?_
      refine invS1 rfl dX12_list_15 kX12_416 (Nat.le_of_ble_eq_true rfl) (Nat.zero_le _) (Nat.zero_le _) (C_X12_noHour (konI ?_))
      refine R_ifB_ne dX12_list_18 (fun hb18 => ?_) (fun hb18 => ?_)
      · refine R_iconst_1 dX12_list_29 ?_
        refine R_goto dX12_list_30 ?_
        exact topV (v := bI (noB x (w 0) || noB y 12 || noB z (w 1))) (by first | (rw [bI_t (by first | (simp [hb11]; done) | fail)]; done) | (rw [bI_t (by first | (simp [hb11, hb18]; done) | fail)]; done) | (rw [bI_t (by first | (simp [hb11, hb18, hb26]; done) | fail)]; done) | (rw [bI_f (by first | (simp [hb11, hb18, hb26]; done) | fail)]; done)) J11
      · refine aL0 dX12_list_21 ?_
        refine iL3 dX12_list_22 ?_
        refine invV1 rfl dX12_list_23 kX12_404 hG.o (Nat.le_of_ble_eq_true rfl) (Nat.zero_le _) (Nat.zero_le _) (C_X12_noCase hG hW hf (konI ?_))
        refine R_ifB_eq dX12_list_26 (fun hb26 => ?_) (fun hb26 => ?_)
        · refine R_iconst_0 dX12_list_33 ?_
          exact topV (v := bI (noB x (w 0) || noB y 12 || noB z (w 1))) (by first | (rw [bI_t (by first | (simp [hb11]; done) | fail)]; done) | (rw [bI_t (by first | (simp [hb11, hb18]; done) | fail)]; done) | (rw [bI_t (by first | (simp [hb11, hb18, hb26]; done) | fail)]; done) | (rw [bI_f (by first | (simp [hb11, hb18, hb26]; done) | fail)]; done)) J11
        · refine R_iconst_1 dX12_list_29 ?_
          refine R_goto dX12_list_30 ?_
          exact topV (v := bI (noB x (w 0) || noB y 12 || noB z (w 1))) (by first | (rw [bI_t (by first | (simp [hb11]; done) | fail)]; done) | (rw [bI_t (by first | (simp [hb11, hb18]; done) | fail)]; done) | (rw [bI_t (by first | (simp [hb11, hb18, hb26]; done) | fail)]; done) | (rw [bI_f (by first | (simp [hb11, hb18, hb26]; done) | fail)]; done)) J11
  refine R_iconst_1 dX12_list_34 ?_
  refine invV2 rfl dX12_list_35 kX12_274 hG.o (Nat.le_of_ble_eq_true rfl) (Nat.zero_le _) (Nat.zero_le _) (C_X12_throwsIf hG (fun h12 hth12 => konI ?_))
  have hPE12 : ∀ hbb : (noB x (w 0) || noB y 12 || noB z (w 1)) = true, Mp M h h12 1 := fun hbb => hth12.t (hP.q hQ) hbb
  have hQE12 : ∀ hbb : (noB x (w 0) || noB y 12 || noB z (w 1)) = false, Mz M h1 h12 := fun hbb => hth12.q hQ hbb
  have hWE12 : ∀ hbb : (noB x (w 0) || noB y 12 || noB z (w 1)) = false, h12 (M + 1) = w := fun hbb => hth12.w hW hbb
  refine R_ifB_ne dX12_list_38 (fun hb38 => ?_) (fun hb38 => ?_)
  · have hPX := hPE12 hb38
    refine R_iconst_0 dX12_list_62 ?_
    exact R_iret dX12_list_63 rfl (KE1 (by simp [noB] at hb38; omega) _ hPX)
  · replace hQ := hQE12 hb38
    replace hW := hWE12 hb38
    have hb9 := hb38
    simp only [Bool.or_eq_false_iff] at hb9
    have hx1 := noB_f hb9.1.1
    have hx2 := noB_f hb9.1.2
    have hx3 := noB_f hb9.2
    obtain ⟨j, rfl⟩ : ∃ j : Nat, x = (j : Int) := ⟨x.toNat, by omega⟩
    obtain ⟨k, rfl⟩ : ∃ k : Nat, y = (k : Int) := ⟨y.toNat, by omega⟩
    obtain ⟨c, rfl⟩ : ∃ c : Nat, z = (c : Int) := ⟨z.toNat, by omega⟩
    refine aL0 dX12_list_41 ?_
    suffices J13 : Run (d + 3) 0 0 mX12_list 55 [vR M, vI ((j : Nat) : Int), vI ((k : Nat) : Int), vI ((c : Nat) : Int), vU] [vI (bI (!decide (w (104 + 7 * c) = 0))), vR M] g h12 P by
      refine aL0 dX12_list_42 ?_
      refine iL3 dX12_list_43 ?_
      refine invV1 rfl dX12_list_44 kX12_321 hG.o (Nat.le_of_ble_eq_true rfl) (Nat.zero_le _) (Nat.zero_le _) (C_X12_isWaiting hG hW hf (by omega) (konI ?_))
      refine R_ifB_ne dX12_list_47 (fun hb47 => ?_) (fun hb47 => ?_)
      · refine R_iconst_0 dX12_list_54 ?_
        exact topV (v := bI (!decide (w (104 + 7 * c) = 0))) (by first | (rw [bI_t (by rw [hb47]; rfl)]; done) | (rw [bI_f (by rw [hb47]; rfl)]; done)) J13
      · refine R_iconst_1 dX12_list_50 ?_
        refine R_goto dX12_list_51 ?_
        exact topV (v := bI (!decide (w (104 + 7 * c) = 0))) (by first | (rw [bI_t (by rw [hb47]; rfl)]; done) | (rw [bI_f (by rw [hb47]; rfl)]; done)) J13
    refine R_iconst_2 dX12_list_55 ?_
    refine invV2 rfl dX12_list_56 kX12_274 hG.o (Nat.le_of_ble_eq_true rfl) (Nat.zero_le _) (Nat.zero_le _) (C_X12_throwsIf hG (fun h14 hth14 => konI ?_))
    have hPE14 : ∀ hbb : (!decide (w (104 + 7 * c) = 0)) = true, Mp M h h14 2 := fun hbb => hth14.t (hP.q hQ) hbb
    have hQE14 : ∀ hbb : (!decide (w (104 + 7 * c) = 0)) = false, Mz M h1 h14 := fun hbb => hth14.q hQ hbb
    have hWE14 : ∀ hbb : (!decide (w (104 + 7 * c) = 0)) = false, h14 (M + 1) = w := fun hbb => hth14.w hW hbb
    refine R_ifB_eq dX12_list_59 (fun hb59 => ?_) (fun hb59 => ?_)
    · replace hQ := hQE14 hb59
      replace hW := hWE14 hb59
      have hx4 : w (104 + 7 * c) = 0 := by simpa using hb59
      have hPP := hP.q hQ
      have hMA : Ma M h _ 0 := hPP.a
      replace hQA := hQA.mq hQ
      refine aL0 dX12_list_64 ?_
      refine invV0 rfl dX12_list_65 kX12_368 hG.o (Nat.le_of_ble_eq_true rfl) (Nat.zero_le _) (Nat.zero_le _) (C_X12_remembers hG hW hQA (fun h15 hx15 hy15 hz15 => konV ?_))
      replace hMA := hMA.rm hx15
      replace hW := hy15
      replace hQA := hz15
      refine aL0 dX12_list_68 ?_
      refine R_getR dX12_list_69 fX12_13.r hG.o rfl ?_
      refine iL1 dX12_list_72 ?_
      refine iL2 dX12_list_73 ?_
      refine invS2 rfl dX12_list_74 kX12_163 (Nat.le_of_ble_eq_true rfl) (Nat.zero_le _) (Nat.zero_le _) (C_X12_listAt (i := 20 + (12 * j + k)) (by omega) (by omega) (konI ?_))
      refine ialdN dX12_list_77 hG.a1 rfl (by omega) ?_
      refine topV (v := w (20 + (12 * j + k))) (congrFun hW _) ?_
      refine iS4 dX12_list_78 ?_
      refine aL0 dX12_list_80 ?_
      refine iL3 dX12_list_81 ?_
      refine invV1 rfl dX12_list_82 kX12_343 hG.o (Nat.le_of_ble_eq_true rfl) (Nat.zero_le _) (Nat.zero_le _) (C_X12_isStruck hG hW hf (fun h16 hx16 hy16 => konV ?_))
      replace hMA := hMA.mo hx16.o
      replace hW := hy16
      replace hQA := hQA.mo hx16.o
      refine aL0 dX12_list_85 ?_
      refine R_getR dX12_list_86 fX12_13.r hG.o rfl ?_
      refine iL1 dX12_list_89 ?_
      refine iL2 dX12_list_90 ?_
      refine invS2 rfl dX12_list_91 kX12_163 (Nat.le_of_ble_eq_true rfl) (Nat.zero_le _) (Nat.zero_le _) (C_X12_listAt (i := 20 + (12 * j + k)) (by omega) (by omega) (konI ?_))
      refine iL3 dX12_list_94 ?_
      refine iastN dX12_list_95 hG.a1 rfl (by omega) ?_
      refine storH (fun h17 e17 => ?_)
      have hM0 := hMA
      have hW0 := hW
      have hQ0 := hQA
      replace hMA : Ma M h h17 0 := by rw [e17]; exact hM0.arr rfl
      replace hW : h17 (M + 1) = (updW (stW w (c : Int)) (20 + (12 * j + k)) ((c : Nat) : Int)) := by rw [e17, updH_r, hW0]
      replace hQA := hQ0.we e17
      refine iL4 dX12_list_96 ?_
      exact R_iret dX12_list_98 rfl (K0 j k c rfl rfl rfl (by omega) (by omega) (by omega) hx4 _ hMA hW hQA)
    · have hPX := hPE14 hb59
      refine R_iconst_0 dX12_list_62 ?_
      exact R_iret dX12_list_63 rfl (KE2 j k c rfl rfl rfl (by omega) (by omega) (by omega) (by simpa using hb59) _ hPX)
set_option maxHeartbeats 400000 in
theorem C_X12_hours {d : Nat} {g : Gs} {h : Hc} {P : Po} {M : Nat} {w : Nat → Int} (hG : MdG g M) (hW : h (M + 1) = w) (hf : WF w) (hl : LawOK w) {n : Nat} {A : Nat → Nat → Int} (hQA : Ac M h A n) {x : Int} (KE : ¬ (1 ≤ x ∧ x ≤ 48) → ∀ h', Mp M h h' 1 → P (.inl (some (vI 0))) g h') (K0 : ∀ k : Nat, x = (k : Int) → 1 ≤ k ∧ k ≤ 48 → ∀ h', Ma M h h' 0 → h' (M + 1) = (goF w true k).1 → Ac M h' (remA A n w) (rmbN n) → P (.inl (some (vI ((((goF w true k).2 : Nat) : Int))))) g h') : Call (d + 12) 0 0 mX12_hours [vR M, vI x] g h P := by
  have hcs := hf.cas
  have hjd := hf.jud
  have hho := hf.hou
  refine Call_of rfl ⟨by decide +kernel, rfl⟩ (Nat.le_of_ble_eq_true rfl) rfl ?_
  refine aL0 dX12_hours_0 ?_
  refine R_iconst_0 dX12_hours_1 ?_
  refine R_putI dX12_hours_2 fX12_3 hG.o ?_
  refine storH (fun h1 e1 => ?_)
  have hP : Mp M h h1 0 := by rw [e1]; exact Mp.i h M
  replace hW : h1 (M + 1) = w := hP.w hW
  have hQ : Mz M h1 h1 := Mz.rf _ _
  replace hQA : Ac M h1 A n := hQA.mp hP
  refine aL0 dX12_hours_5 ?_
  suffices J11 : Run (d + 12) 0 0 mX12_hours 21 [vR M, vI x] [vI (bI (!decide (1 ≤ x ∧ x ≤ 48))), vR M] g h1 P by
    refine iL1 dX12_hours_6 ?_
    refine R_iconst_1 dX12_hours_7 ?_
    refine R_bipush dX12_hours_8 (by decide) ?_
    refine invS3 rfl dX12_hours_10 kX12_101 (Nat.le_of_ble_eq_true rfl) (Nat.zero_le _) (Nat.zero_le _) (C_X12_in (konI ?_))
    refine R_ifB_ne dX12_hours_13 (fun hb13 => ?_) (fun hb13 => ?_)
    · refine R_iconst_0 dX12_hours_20 ?_
      exact topV (v := bI (!decide (1 ≤ x ∧ x ≤ 48))) (by first | (rw [bI_t (by rw [hb13]; rfl)]; done) | (rw [bI_f (by rw [hb13]; rfl)]; done)) J11
    · refine R_iconst_1 dX12_hours_16 ?_
      refine R_goto dX12_hours_17 ?_
      exact topV (v := bI (!decide (1 ≤ x ∧ x ≤ 48))) (by first | (rw [bI_t (by rw [hb13]; rfl)]; done) | (rw [bI_f (by rw [hb13]; rfl)]; done)) J11
  refine R_iconst_1 dX12_hours_21 ?_
  refine invV2 rfl dX12_hours_22 kX12_274 hG.o (Nat.le_of_ble_eq_true rfl) (Nat.zero_le _) (Nat.zero_le _) (C_X12_throwsIf hG (fun h12 hth12 => konI ?_))
  have hPE12 : ∀ hbb : (!decide (1 ≤ x ∧ x ≤ 48)) = true, Mp M h h12 1 := fun hbb => hth12.t (hP.q hQ) hbb
  have hQE12 : ∀ hbb : (!decide (1 ≤ x ∧ x ≤ 48)) = false, Mz M h1 h12 := fun hbb => hth12.q hQ hbb
  have hWE12 : ∀ hbb : (!decide (1 ≤ x ∧ x ≤ 48)) = false, h12 (M + 1) = w := fun hbb => hth12.w hW hbb
  refine R_ifB_eq dX12_hours_25 (fun hb25 => ?_) (fun hb25 => ?_)
  · replace hQ := hQE12 hb25
    replace hW := hWE12 hb25
    have hx1 : 1 ≤ x ∧ x ≤ 48 := by have h9 := hb25; simp at h9; omega
    obtain ⟨k, rfl⟩ : ∃ k : Nat, x = (k : Int) := ⟨x.toNat, by omega⟩
    have hPP := hP.q hQ
    have hMA : Ma M h _ 0 := hPP.a
    replace hQA := hQA.mq hQ
    refine aL0 dX12_hours_30 ?_
    refine invV0 rfl dX12_hours_31 kX12_368 hG.o (Nat.le_of_ble_eq_true rfl) (Nat.zero_le _) (Nat.zero_le _) (C_X12_remembers hG hW hQA (fun h13 hx13 hy13 hz13 => konV ?_))
    replace hMA := hMA.rm hx13
    replace hW := hy13
    replace hQA := hz13
    refine aL0 dX12_hours_34 ?_
    refine iL1 dX12_hours_35 ?_
    refine R_iconst_0 dX12_hours_36 ?_
    refine invV2 rfl dX12_hours_37 kX12_371 hG.o (Nat.le_of_ble_eq_true rfl) (Nat.zero_le _) (Nat.zero_le _) (C_X12_goesOn (b := false) hG hW hf hl (by omega) (fun h14 hx14 hy14 => konI ?_))
    replace hMA := hMA.mo hx14
    replace hW := hy14
    replace hQA := hQA.mo hx14
    exact R_iret dX12_hours_40 rfl (K0 k rfl (by omega) _ hMA hW hQA)
  · have hPX := hPE12 hb25
    refine R_iconst_0 dX12_hours_28 ?_
    exact R_iret dX12_hours_29 rfl (KE (by have h9 := hb25; simp at h9; omega) _ hPX)
