theorem fact_n7 (w : Nat → Int) (s : Int) (j : Nat) (c hr hu gr : Int) : factW (updW w 7 s) j c hr hu gr = factW w j c hr hu gr := by
  have e1 : leanB (updW w 7 s) c = leanB w c := by unfold leanB; rw [updW_n (by omega)]
  have e2 : precB (updW w 7 s) c = precB w c := by unfold precB; rw [e1, updW_n (by omega), updW_n (by omega)]
  funext k
  match k with
  | 0 => rfl
  | 1 => rfl
  | 2 => simp only [factW]; rw [updW_n (by omega)]
  | 3 => simp only [factW]; rw [updW_n (by omega)]
  | 4 => rfl
  | 5 => simp only [factW]; rw [updW_n (by omega)]
  | 6 => rfl
  | 7 => simp only [factW]; rw [e1]
  | 8 => simp only [factW]; rw [e2]
  | 9 => rfl
  | _ + 10 => rfl
theorem hurB_at {u : Nat → Int} {b : Bool} {q : Nat} (h1 : b = false → q = (u 0).toNat) (h2 : b = true → q = 0) : draF (heaF u (u 0).toNat).2.1 (hurA u) q = hurB u (!b) := by
  cases b
  · rw [h1 rfl]; rfl
  · rw [h2 rfl]; rfl
theorem crW_n7 {w : Nat → Int} {s : Int} {j : Nat} {x : Int} (hf : WF w) : crW (updW w 7 s) j x = crW w j x := by
  unfold crW
  have hho := hf.hou
  rw [updW_n (w := w) (i := 7) (j := 4) (by omega), updW_n (j := 8 + (w 4).toNat) (by omega), updW_n (j := 80 + 4 * j) (by omega), updW_n (j := 101 + 7 * x.toNat) (by omega), updW_n (j := 82 + 4 * j) (by omega), fact_n7, sumW_same ((SameL.rf w).upd (by omega) (by omega))]
set_option maxHeartbeats 2000000 in
theorem C_X12_oneHour {d : Nat} {g : Gs} {h : Hc} {P : Po} {M : Nat} {u : Nat → Int} (hG : MdG g M) (hW : h (M + 1) = u) (hf : WF u) (hl : LawOK u) {b : Bool} (K : ∀ h', Mo M h h' → h' (M + 1) = hurW u (!b) → P (.inl (some (vI (((heaF u (u 0).toNat).2.2 : Nat) : Int)))) g h') : Call (d + 10) 0 0 mX12_oneHour [vR M, vI (bI (b))] g h P := by
  have hfV := hf
  have hlV := hl
  have hjdV := hf.jud
  have hcsV := hf.cas
  refine Call_of rfl ⟨by decide +kernel, rfl⟩ (Nat.le_of_ble_eq_true rfl) rfl ?_
  have hM : Mo M h h := Mo.rf _ _
  refine R_iconst_0 dX12_oneHour_0 ?_
  refine iS2 dX12_oneHour_1 ?_
  refine R_iconst_0 dX12_oneHour_2 ?_
  refine iS3 dX12_oneHour_3 ?_
  refine loopN ((u 0).toNat) (fun q => ∀ hK : Hc, Mo M h hK → hK (M + 1) = (heaF u q).1 → (∀ i, i < q → hK (M + 9) i = (heaF u q).2.1 i) → Run (d + 10) 0 0 mX12_oneHour 4 [vR M, vI (bI (b)), vI (((heaF u q).2.2 : Nat) : Int), vI ((q : Nat) : Int)] [] g hK P) (fun q hcnq ihq hK hM hW hH => ?_) (0) (Nat.zero_le _) _ hM hW (fun i hi => absurd hi (Nat.not_lt_zero _))
  obtain ⟨hf, hkp, hrg, hcn⟩ := heaF_ok hfV hlV q (by omega)
  have hl := hlV.same hkp.2.1
  have hk0 := hkp.1.1
  have hk1 := hkp.1.2.1
  have hho := hf.hou
  have hjd := hf.jud
  have hcs := hf.cas
  refine iL3 dX12_oneHour_4 ?_
  refine aL0 dX12_oneHour_5 ?_
  refine invV0 rfl dX12_oneHour_6 kX12_98 hG.o (Nat.le_of_ble_eq_true rfl) (Nat.zero_le _) (Nat.zero_le _) (C_X12_judges hG hW hf (konI ?_))
  have hjd := hf.jud
  refine R_icmp_ge dX12_oneHour_9 (fun hb9 => ?_) (fun hb9 => ?_)
  · have e9 : q = (u 0).toNat := by omega
    subst e9
    obtain ⟨hf, hkp, hrg, hcn⟩ := heaF_ok hfV hlV (u 0).toNat (by omega)
    have hl := hlV.same hkp.2.1
    have hk0 := hkp.1.1
    have hk1 := hkp.1.2.1
    have hfA := hf
    have hlA := hl
    refine R_iconst_0 dX12_oneHour_50 ?_
    refine iS3 dX12_oneHour_51 ?_
    refine loopN ((u 0).toNat) (fun q => ∀ hK : Hc, Mo M h hK → hK (M + 1) = (hunF (heaF u (u 0).toNat).1 q) → (∀ i, i < (u 0).toNat → hK (M + 9) i = (heaF u (u 0).toNat).2.1 i) → Run (d + 10) 0 0 mX12_oneHour 52 [vR M, vI (bI (b)), vI (((heaF u ((u 0).toNat)).2.2 : Nat) : Int), vI ((q : Nat) : Int)] [] g hK P) (fun q hcnq ihq hK hM hW hH => ?_) (0) (Nat.zero_le _) _ hM hW hH
    obtain ⟨hf, hkp2⟩ := hunF_ok hfA q (by omega)
    have hk2 := hkp2.1.1
    have hjd := hf.jud
    have hmn9 := mn99_rng (x := (hunF (heaF u (u 0).toNat).1 q) (80 + 4 * q) + 1)
    have hhu9 := hf.hu (j := q)
    refine iL3 dX12_oneHour_52 ?_
    refine aL0 dX12_oneHour_53 ?_
    refine invV0 rfl dX12_oneHour_54 kX12_98 hG.o (Nat.le_of_ble_eq_true rfl) (Nat.zero_le _) (Nat.zero_le _) (C_X12_judges hG hW hf (konI ?_))
    have hjd := hf.jud
    refine R_icmp_ge dX12_oneHour_57 (fun hb57 => ?_) (fun hb57 => ?_)
    · have e9 : q = (u 0).toNat := by omega
      subst e9
      obtain ⟨hfB, hkpB⟩ := hurA_ok hfV hlV
      have hkB0 := hkpB.1.1
      have hkB1 := hkpB.1.2.1
      have hlB := hlV.same hkpB.2.1
      refine R_iconst_0 dX12_oneHour_89 ?_
      refine iS3 dX12_oneHour_90 ?_
      suffices J134 : ∀ (hJ : Hc) (v3 : AV), Mo M h hJ → hJ (M + 1) = (hurB u (!b)) → Run (d + 10) 0 0 mX12_oneHour 134 [vR M, vI (bI (b)), vI (((heaF u ((u 0).toNat)).2.2 : Nat) : Int), v3] [] g hJ P by
        refine loopN ((u 0).toNat) (fun q => ∀ hK : Hc, Mo M h hK → hK (M + 1) = (draF (heaF u (u 0).toNat).2.1 (hurA u) q) → (∀ i, i < (u 0).toNat → hK (M + 9) i = (heaF u (u 0).toNat).2.1 i) → (b = true → q = 0) → Run (d + 10) 0 0 mX12_oneHour 91 [vR M, vI (bI (b)), vI (((heaF u ((u 0).toNat)).2.2 : Nat) : Int), vI ((q : Nat) : Int)] [] g hK P) (fun q hcnq ihq hK hM hW hH hbq => ?_) (0) (Nat.zero_le _) _ hM hW hH (fun _ => rfl)
        obtain ⟨hf, hkp3⟩ := draF_ok (hd := (heaF u (u 0).toNat).2.1) hfB q (by omega)
        have hk3 := hkp3.1.1
        have hk4 := hkp3.1.2.1
        have hl := hlB.same hkp3.2.1
        have hrq := hrg q
        refine iL3 dX12_oneHour_91 ?_
        refine aL0 dX12_oneHour_92 ?_
        refine invV0 rfl dX12_oneHour_93 kX12_98 hG.o (Nat.le_of_ble_eq_true rfl) (Nat.zero_le _) (Nat.zero_le _) (C_X12_judges hG hW hf (konI ?_))
        have hjd := hf.jud
        refine R_icmp_ge dX12_oneHour_96 (fun hb96 => ?_) (fun hb96 => ?_)
        · exact J134 _ _ hM (by rw [hW]; exact hurB_at (fun h9 => by first | omega | exact absurd (h9.symm.trans hb100) (by decide)) hbq)
        · refine iL1 dX12_oneHour_99 ?_
          refine R_ifB_ne dX12_oneHour_100 (fun hb100 => ?_) (fun hb100 => ?_)
          · exact J134 _ _ hM (by rw [hW]; exact hurB_at (fun h9 => by first | omega | exact absurd (h9.symm.trans hb100) (by decide)) hbq)
          · refine aL0 dX12_oneHour_103 ?_
            refine R_bipush dX12_oneHour_104 (by decide) ?_
            refine invV1 rfl dX12_oneHour_106 kX12_353 hG.o (Nat.le_of_ble_eq_true rfl) (Nat.zero_le _) (Nat.zero_le _) (C_X12_drawn hG hW hf (fun h1 hx1 hy1 => konI ?_))
            replace hM := hM.tr hx1.o
            replace hW : h1 (M + 1) = (drwW (draF (heaF u (u 0).toNat).2.1 (hurA u) q)) := hy1
            have hdr := drwV_rng (drwS (draF (heaF u (u 0).toNat).2.1 (hurA u) q))
            have hfD := hf
            obtain ⟨hf, hkd⟩ := drwW_ok hfD
            replace hl := hl.same hkd.2.1
            have hkd0 := hkd.1.1
            have hkd1 := hkd.1.2.1
            rw [← hx1.h9] at hH
            refine aL0 dX12_oneHour_109 ?_
            refine iL3 dX12_oneHour_110 ?_
            refine aL0 dX12_oneHour_111 ?_
            refine R_getR dX12_oneHour_112 fX12_42.r hG.o rfl ?_
            refine iL3 dX12_oneHour_115 ?_
            refine ialdN dX12_oneHour_116 hG.a9 rfl (by omega) ?_
            refine topV (v := (heaF u (u 0).toNat).2.1 q) (hH q (by omega)) ?_
            refine invV2 rfl dX12_oneHour_117 kX12_356 hG.o (Nat.le_of_ble_eq_true rfl) (Nat.zero_le _) (Nat.zero_le _) (C_X12_crumbsOf hG hW hf hl (by omega) (by omega) (by omega) (fun h2 hx2 => konI (topV (v := crW (draF (heaF u (u 0).toNat).2.1 (hurA u) q) q ((heaF u (u 0).toNat).2.1 q)) (crW_n7 hfD) ?_)))
            replace hM := hM.tr (Mq.o hx2)
            replace hW := hx2.w hW
            have hh9 : h2 (M + 9) = _ := hx2.b.h9
            rw [← hh9] at hH
            refine R_icmp_ge dX12_oneHour_120 (fun hb120 => ?_) (fun hb120 => ?_)
            · refine iInc3 dX12_oneHour_128 (winc (by omega)) ?_
              refine R_goto dX12_oneHour_131 ?_
              exact ihq (by omega) _ hM (by rw [hW, draF_s]; unfold draS; first | (rw [if_pos (by omega)]; done) | (rw [if_neg (by omega)]; done)) hH (fun h9 => absurd h9 (by rw [hb100]; decide))
            · refine aL0 dX12_oneHour_123 ?_
              refine iL3 dX12_oneHour_124 ?_
              refine invV1 rfl dX12_oneHour_125 kX12_359 hG.o (Nat.le_of_ble_eq_true rfl) (Nat.zero_le _) (Nat.zero_le _) (C_X12_hasCrumbs hG hW hf (by omega) (fun h3 hx3 hy3 => konV ?_))
              replace hM := hM.tr hx3.o
              replace hW : h3 (M + 1) = (crmW (drwW (draF (heaF u (u 0).toNat).2.1 (hurA u) q)) q) := hy3
              rw [← hx3.h9] at hH
              refine iInc3 dX12_oneHour_128 (winc (by omega)) ?_
              refine R_goto dX12_oneHour_131 ?_
              exact ihq (by omega) _ hM (by rw [hW, draF_s]; unfold draS; first | (rw [if_pos (by omega)]; done) | (rw [if_neg (by omega)]; done)) hH (fun h9 => absurd h9 (by rw [hb100]; decide))
      intro hJ v3 hM hW
      obtain ⟨hf, hkpJ⟩ := hurB_ok hfV hlV (!b)
      refine aL0 dX12_oneHour_134 ?_
      refine invV0 rfl dX12_oneHour_135 kX12_362 hG.o (Nat.le_of_ble_eq_true rfl) (Nat.zero_le _) (Nat.zero_le _) (C_X12_hourEnds hG hW hf (fun h4 hx4 hy4 => konV ?_))
      replace hM := hM.tr hx4.o
      replace hW : h4 (M + 1) = (turW (hurB u (!b))) := hy4
      refine iL2 dX12_oneHour_138 ?_
      exact R_iret dX12_oneHour_139 rfl (K _ hM hW)
    · refine aL0 dX12_oneHour_60 ?_
      refine R_getR dX12_oneHour_61 fX12_13.r hG.o rfl ?_
      refine iL3 dX12_oneHour_64 ?_
      refine R_iconst_0 dX12_oneHour_65 ?_
      refine invS2 rfl dX12_oneHour_66 kX12_80 (Nat.le_of_ble_eq_true rfl) (Nat.zero_le _) (Nat.zero_le _) (C_X12_judgeAt (b := 0) (i := (80 + 4 * q)) (by omega) (by omega) (konI ?_))
      refine R_bipush dX12_oneHour_69 (by decide) ?_
      refine aL0 dX12_oneHour_71 ?_
      refine iL3 dX12_oneHour_72 ?_
      refine R_iconst_0 dX12_oneHour_73 ?_
      refine invV2 rfl dX12_oneHour_74 kX12_280 hG.o (Nat.le_of_ble_eq_true rfl) (Nat.zero_le _) (Nat.zero_le _) (C_X12_ofJudge hG hW (b := 0) (i := 80 + 4 * q) (by omega) (by omega) (konI ?_))
      have hq5 := hf.hu (j := q) (by omega)
      refine R_iconst_1 dX12_oneHour_77 ?_
      refine addV dX12_oneHour_78 (wid (by omega) (by omega)) ?_
      refine R_mmin dX12_oneHour_79 kX12_318 lb_min (Nat.le_of_ble_eq_true rfl) ?_
      refine topV (v := mn99 ((hunF (heaF u (u 0).toNat).1 q) (80 + 4 * q) + 1)) (rfl) ?_
      refine iastN dX12_oneHour_82 hG.a1 rfl (by omega) ?_
      refine storH (fun h7 e7 => ?_)
      have hM0 := hM
      have hW0 := hW
      replace hM : Mo M h h7 := by rw [e7]; exact hM0.arr (by omega)
      replace hW : h7 (M + 1) = (updW (hunF (heaF u (u 0).toNat).1 q) (80 + 4 * q) (mn99 ((hunF (heaF u (u 0).toNat).1 q) (80 + 4 * q) + 1))) := by rw [e7, updH_r, hW0]
      refine iInc3 dX12_oneHour_83 (winc (by omega)) ?_
      refine R_goto dX12_oneHour_86 ?_
      exact ihq (by omega) _ hM hW (fun i hi => by rw [e7, updH_a (by omega)]; exact hH i hi)
  · refine aL0 dX12_oneHour_12 ?_
    refine R_getR dX12_oneHour_13 fX12_42.r hG.o rfl ?_
    refine iL3 dX12_oneHour_16 ?_
    refine aL0 dX12_oneHour_17 ?_
    refine iL3 dX12_oneHour_18 ?_
    refine invV1 rfl dX12_oneHour_19 kX12_347 hG.o (Nat.le_of_ble_eq_true rfl) (Nat.zero_le _) (Nat.zero_le _) (C_X12_hasNow hG hW hf (by omega) (konI ?_))
    have hwr := waitAt_rng hf (j := q) (k := ((heaF u q).1 4).toNat) (by omega) (by omega)
    refine iastN dX12_oneHour_22 hG.a9 rfl (by omega) ?_
    refine storH (fun h8 e8 => ?_)
    have hM0 := hM
    have hW0 := hW
    have hH0 := hH
    replace hM : Mo M h h8 := by rw [e8]; exact hM0.arr (by omega)
    replace hW : h8 (M + 1) = (heaF u q).1 := by rw [e8, updH_a (by omega)]; exact hW0
    have hHq : h8 (M + 9) q = (waitAt (heaF u q).1 q ((heaF u q).1 4).toNat) := by rw [e8]; exact updH_s _ _ _ _
    have hHr : ∀ i, i < q → h8 (M + 9) i = (heaF u q).2.1 i := fun i hi => by rw [e8, updH_i (by omega)]; exact hH0 i hi
    refine aL0 dX12_oneHour_23 ?_
    refine R_getR dX12_oneHour_24 fX12_42.r hG.o rfl ?_
    refine iL3 dX12_oneHour_27 ?_
    refine ialdN dX12_oneHour_28 hG.a9 rfl (by omega) ?_
    refine topV (v := (waitAt (heaF u q).1 q ((heaF u q).1 4).toNat)) (hHq) ?_
    refine R_iconst_m1 dX12_oneHour_29 ?_
    refine R_icmp_ne dX12_oneHour_30 (fun hb30 => ?_) (fun hb30 => ?_)
    · refine aL0 dX12_oneHour_36 ?_
      refine iL3 dX12_oneHour_37 ?_
      refine invV1 rfl dX12_oneHour_38 kX12_350 hG.o (Nat.le_of_ble_eq_true rfl) (Nat.zero_le _) (Nat.zero_le _) (C_X12_finds (x := (waitAt (heaF u q).1 q ((heaF u q).1 4).toNat).toNat) hG hW hf hl (by omega) (by omega) (by rw [hHq]; omega) (fun h9 hx9 hy9 => konV ?_))
      replace hM := hM.tr hx9.o
      replace hW : h9 (M + 1) = (findP (heaF u q).1 q (waitAt (heaF u q).1 q ((heaF u q).1 4).toNat).toNat (pt0 (heaF u q).1 q (waitAt (heaF u q).1 q ((heaF u q).1 4).toNat).toNat ((heaF u q).1 4))) := hy9
      rw [← hx9.h9] at hHq
      rw [← hx9.h9] at hHr
      refine iInc2 dX12_oneHour_41 (winc (by omega)) ?_
      refine iInc3 dX12_oneHour_44 (winc (by omega)) ?_
      refine R_goto dX12_oneHour_47 ?_
      exact eqI2 (by rw [heaF_s]; unfold heaS; dsimp only; first | (rw [if_pos (by omega)]; done) | (rw [if_neg (by omega)]; done)) (ihq (by omega) _ hM (by rw [hW, heaF_s]; unfold heaS; dsimp only; first | (rw [if_pos (by omega)]; done) | (rw [if_neg (by omega)]; done)) (fun i hi => by
          rw [heaF_s]; unfold heaS; dsimp only
          by_cases e8 : i = q
          · subst e8; rw [updW_s]; exact hHq
          · rw [updW_n e8]; exact hHr i (by omega)))
    · refine R_goto dX12_oneHour_33 ?_
      refine iInc3 dX12_oneHour_44 (winc (by omega)) ?_
      refine R_goto dX12_oneHour_47 ?_
      exact eqI2 (by rw [heaF_s]; unfold heaS; dsimp only; first | (rw [if_pos (by omega)]; done) | (rw [if_neg (by omega)]; done)) (ihq (by omega) _ hM (by rw [hW, heaF_s]; unfold heaS; dsimp only; first | (rw [if_pos (by omega)]; done) | (rw [if_neg (by omega)]; done)) (fun i hi => by
          rw [heaF_s]; unfold heaS; dsimp only
          by_cases e8 : i = q
          · subst e8; rw [updW_s]; exact hHq
          · rw [updW_n e8]; exact hHr i (by omega)))
set_option maxHeartbeats 1000000 in
theorem C_X12_goesOn {d : Nat} {g : Gs} {h : Hc} {P : Po} {M : Nat} {u : Nat → Int} (hG : MdG g M) (hW : h (M + 1) = u) (hf : WF u) (hl : LawOK u) {n : Nat} {b : Bool} (hn : n ≤ 48) (K : ∀ h', Mo M h h' → h' (M + 1) = (goF u (!b) n).1 → P (.inl (some (vI (((goF u (!b) n).2 : Nat) : Int)))) g h') : Call (d + 11) 0 0 mX12_goesOn [vR M, vI ((n : Nat) : Int), vI (bI (b))] g h P := by
  have hfV := hf
  have hlV := hl
  refine Call_of rfl ⟨by decide +kernel, rfl⟩ (Nat.le_of_ble_eq_true rfl) rfl ?_
  have hM : Mo M h h := Mo.rf _ _
  refine R_iconst_0 dX12_goesOn_0 ?_
  refine iS3 dX12_goesOn_1 ?_
  refine R_iconst_0 dX12_goesOn_2 ?_
  refine iS4 dX12_goesOn_3 ?_
  refine loopN (n) (fun q => ∀ hK : Hc, Mo M h hK → hK (M + 1) = (goF u (!b) q).1 → Run (d + 11) 0 0 mX12_goesOn 5 [vR M, vI ((n : Nat) : Int), vI (bI (b)), vI (((goF u (!b) q).2 : Nat) : Int), vI ((q : Nat) : Int)] [] g hK P) (fun q hcnq ihq hK hM hW => ?_) (0) (Nat.zero_le _) _ hM hW
  obtain ⟨hf, hkg, hsl, hgn⟩ := goF_ok hfV hlV (!b) q
  have hl := hlV.same hsl
  have hjd := hf.jud
  have hhn := (heaF_ok hf hl ((goF u (!b) q).1 0).toNat (by omega)).2.2.2
  refine iL4 dX12_goesOn_5 ?_
  refine iL1 dX12_goesOn_7 ?_
  refine R_icmp_ge dX12_goesOn_8 (fun hb8 => ?_) (fun hb8 => ?_)
  · have e9 : q = n := by omega
    subst e9
    refine iL3 dX12_goesOn_25 ?_
    exact R_iret dX12_goesOn_26 rfl (K _ hM hW)
  · refine iL3 dX12_goesOn_11 ?_
    refine aL0 dX12_goesOn_12 ?_
    refine iL2 dX12_goesOn_13 ?_
    refine invV1 rfl dX12_goesOn_14 kX12_365 hG.o (Nat.le_of_ble_eq_true rfl) (Nat.zero_le _) (Nat.zero_le _) (C_X12_oneHour hG hW hf hl (fun h1 hx1 hy1 => konI ?_))
    replace hM := hM.tr hx1
    replace hW : h1 (M + 1) = (hurW (goF u (!b) q).1 (!b)) := hy1
    refine addV dX12_goesOn_17 (v := ((((goF u (!b) q).2 + (heaF (goF u (!b) q).1 ((goF u (!b) q).1 0).toNat).2.2) : Nat) : Int)) (by rw [wid (by omega) (by omega)]; omega) ?_
    refine iS3 dX12_goesOn_18 ?_
    refine iInc4 dX12_goesOn_19 (winc (by omega)) ?_
    refine R_goto dX12_goesOn_22 ?_
    exact eqI3 (by first | (rw [goF_s]; done) | (rw [goF_s]; dsimp only; omega)) (ihq (by omega) _ hM hW)
