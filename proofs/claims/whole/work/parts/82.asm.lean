/-! THE ASSIZE'S TEXT, BY THE MODEL -/
/-- the tape is used up, and the world may have changed -/
def MvR (M : Nat) (h h' : Hc) : Prop := Off (fun a => mqs M a ∨ a = M + 1) h h' ∧ (∀ i, i = 6 ∨ i = 7 ∨ i = 14 → h' M i = h M i) ∧ h' M 9 = 0 ∧ h' M 0 = 0
theorem MvR.x {M : Nat} {h h1 h2 : Hc} (p : MvR M h h1) (q : MvX M h1 h2) : MvR M h h2 := by
  refine ⟨p.1.tr (fun a ha => funext fun i => q a i (fun q9 => ha (Or.inl (Or.inl q9.1))) (fun q9 => ha (Or.inr q9))), fun i hi => ?_, ?_, ?_⟩
  · rw [q M i (by omega) (by omega)]; exact p.2.1 i hi
  · rw [q M 9 (by omega) (by omega)]; exact p.2.2.1
  · rw [q M 0 (by omega) (by omega)]; exact p.2.2.2
theorem MvX.pt {M i : Nat} {h h' : Hc} {v : Int} (p : MvX M h h') (hi : i = 10 ∨ i = 12) : MvX M h (updH h' M i v) := by
  intro a j n m
  by_cases e : a = M
  · subst e
    rw [updH_i (fun e2 => n ⟨rfl, by rw [e2]; exact hi⟩)]
    exact p a j n m
  · rw [updH_a e]
    exact p a j n m
theorem thT_end {b : Nat → Int} {L k : Nat} (h : stT b L k = L) : thT b L k = -1 := by
  unfold thT thS
  rw [h, if_pos (Nat.le_refl _)]
theorem thT_go {b : Nat → Int} {L k : Nat} (h0 : ∀ i, i < L → 0 ≤ b i ∧ b i ≤ 255) (h : ¬ stT b L k = L) : ¬ thT b L k = -1 := by
  have hle := stT_le (b := b) (L := L) k
  unfold thT
  rcases thS_cases b L (stT b L k) with ⟨_, q⟩ | ⟨_, _, q | ⟨i, q1, q⟩⟩ | ⟨_, _, _, ⟨_, q⟩ | ⟨_, _, q1, q2⟩⟩ | ⟨q1, _, _, q⟩
  · omega
  · omega
  · omega
  · omega
  · omega
  · have := h0 _ q1
    omega
def AlM (M : Nat) (h : Hc) (b : Nat → Int) (L : Nat) (v : Int) (w : Nat → Int) (R : Nat ⊕ (Nat → Int)) : Prop := (0 ≤ v ∧ ∃ w', R = .inr w' ∧ h (M + 1) = w' ∧ WF w') ∨ (v = -1 ∧ ∃ f, R = .inl f ∧ WrM M h b L f ∧ ∃ w', h (M + 1) = w' ∧ ∀ i, 156 ≤ i → w' i = w i)
set_option maxHeartbeats 400000 in
theorem C_X12_readLine_a {d : Nat} {g : Gs} {h : Hc} {P : Po} {M : Nat} {w : Nat → Int} (hG : MdG g M) (hW : h (M + 1) = w) (hf : WF w) {b : Nat → Int} {L k : Nat} (hT : StM M h b L k) {n : Nat} (hn : n ≤ 14) (K : ∀ h' (v : Int), MvX M h h' → LnM M h' b L v w (if 14 ≤ n then .inl k else asLine (thT b L) w k) → P (.inl (some (vI v))) g h') : Call (d + 9) 0 0 mX12_readLine [vR M, vI 1, vI ((n : Nat) : Int)] g h P := by
  have hjd := hf.jud
  have hcs := hf.cas
  refine Call_of rfl ⟨by decide +kernel, rfl⟩ (Nat.le_of_ble_eq_true rfl) rfl ?_
  refine aL0 dX12_readLine_0 ?_
  refine invV0 rfl dX12_readLine_1 kX12_134 hG.o (Nat.le_of_ble_eq_true rfl) (Nat.zero_le _) (Nat.zero_le _) (C_letters hG hT (fun h1 m1 hL1 => konV ?_))
  have hW1 := m1.w hW
  refine iL2 dX12_readLine_4 ?_
  refine iL1 dX12_readLine_5 ?_
  refine R_if_eq dX12_readLine_6 (fun hb => absurd hb (by decide)) (fun _ => ?_)
  refine R_bipush dX12_readLine_9 (by decide) ?_
  refine R_goto dX12_readLine_11 ?_
  refine R_icmp_ge dX12_readLine_16 (fun hb16 => ?_) (fun hb16 => ?_)
  · refine R_iconst_0 dX12_readLine_45 ?_
    exact R_zret dX12_readLine_46 rfl (by decide) (K _ _ m1.x (Or.inr ⟨rfl, k, if_pos (by omega), hL1.2.1, hW1⟩))
  · refine iL1 dX12_readLine_19 ?_
    refine R_if_eq dX12_readLine_20 (fun hb => absurd hb (by decide)) (fun _ => ?_)
    refine aL0 dX12_readLine_23 ?_
    refine invV0 rfl dX12_readLine_24 kX12_257 hG.o (Nat.le_of_ble_eq_true rfl) (Nat.zero_le _) (Nat.zero_le _) (C_X12_readAssizeLine hG hW1 hf hL1 (fun h2 v2 m2 q2 => konI ?_))
    refine R_if_eq dX12_readLine_27 (fun hb27 => ?_) (fun hb27 => ?_)
    · refine R_iconst_0 dX12_readLine_45 ?_
      exact R_zret dX12_readLine_46 rfl (by decide) (PeqI (K _ _ (m1.x.tr m2) (by rw [if_neg (by omega)]; exact q2)) (by have := q2.b; omega))
    · refine R_goto dX12_readLine_30 ?_
      refine R_iconst_1 dX12_readLine_41 ?_
      refine R_goto dX12_readLine_42 ?_
      exact R_zret dX12_readLine_46 rfl (by decide) (PeqI (K _ _ (m1.x.tr m2) (by rw [if_neg (by omega)]; exact q2)) (by have := q2.b; omega))
theorem as_f {t u : Nat → Int} {n k f : Nat} (hn : n ≤ 14) (h : (if 14 ≤ n then .inl k else asLine t u k) = .inl f) : asAll t (14 - n) u k = .inl f := by
  by_cases q : 14 ≤ n
  · rw [if_pos q] at h
    cases h
    rw [show 14 - n = 0 by omega]
    rfl
  · rw [if_neg q] at h
    rw [show 14 - n = (13 - n) + 1 by omega]
    exact asAll_f h
set_option maxHeartbeats 1000000 in
theorem C_X12_readAll_a {d : Nat} {g : Gs} {h : Hc} {P : Po} {M : Nat} {w : Nat → Int} (hG : MdG g M) (hW : h (M + 1) = w) (hf : WF w) {b : Nat → Int} {L : Nat} (hN : h M 9 = (L : Int)) (hL4 : L ≤ 400) (hB : ∀ i, i < L → h (M + 6) i = wrapB (b i) ∧ (0 ≤ b i ∧ b i ≤ 255)) (K : ∀ h' (v : Int), MvR M h h' → AlM M h' b L v w (asText (thT b L) w) → P (.inl (some (vI v))) g h') : Call (d + 10) 0 0 mX12_readAll [vR M, vI 1] g h P := by
  have hjd := hf.jud
  have hcs := hf.cas
  refine Call_of rfl ⟨by decide +kernel, rfl⟩ (Nat.le_of_ble_eq_true rfl) rfl ?_
  refine aL0 dX12_readAll_0 ?_
  refine invV0 rfl dX12_readAll_1 kX12_263 hG.o (Nat.le_of_ble_eq_true rfl) (Nat.zero_le _) (Nat.zero_le _) (C_X12_uses hG hW hN (fun h1 hU hp0 => konV ?_))
  refine aL0 dX12_readAll_4 ?_
  refine R_iconst_0 dX12_readAll_5 ?_
  refine R_putI dX12_readAll_6 fX12_200 hG.o ?_
  refine storH (fun h11 e11 => ?_)
  have hR0 : MvR M h h11 := by rw [e11]; exact ⟨(hU.1.mono (fun a ha => Or.inl ha)).upd (Or.inl (Or.inl rfl)), fun i hi => by rw [updH_i (by omega)]; exact hU.2.1 i (by omega) (by omega) (by omega) (by omega) (by omega), by rw [updH_i (by decide)]; exact hU.2.2.2.1, by rw [updH_i (by decide)]; exact hU.2.2.1⟩
  have hWa : h11 (M + 1) = w := by rw [e11, updH_a (by omega)]; exact hU.w hW
  have hSa : StM M h11 b L 0 := ⟨0, by rw [e11]; exact ⟨by rw [updH_i (by decide)]; exact hp0, by rw [updH_i (by decide)]; exact hU.2.2.2.2, Nat.zero_le _, hL4, fun i hi => by rw [updH_a (by omega), hU.t]; exact hB i hi⟩, rfl, fun i hi => absurd hi (Nat.not_lt_zero _)⟩
  refine aL0 dX12_readAll_9 ?_
  refine invV0 rfl dX12_readAll_10 kX12_122 hG.o (Nat.le_of_ble_eq_true rfl) (Nat.zero_le _) (Nat.zero_le _) (C_blanks hG hSa (fun h2 m2 hB2 => konV ?_))
  have hW2 := m2.w hWa
  refine aL0 dX12_readAll_13 ?_
  refine R_getI dX12_readAll_14 fX12_109.r hG.o ?_
  refine topV (v := (((stT b L 0) : Nat) : Int)) (hB2.1.1) ?_
  refine aL0 dX12_readAll_17 ?_
  refine R_getI dX12_readAll_18 fX12_112.r hG.o ?_
  refine topV (v := ((L : Nat) : Int)) (hB2.1.2.1) ?_
  refine R_icmp_ne dX12_readAll_21 (fun hb21 => ?_) (fun hb21 => ?_)
  · have h0 : ¬ thT b L 0 = -1 := thT_go hB2.1.b0 (by omega)
    have hA : asText (thT b L) w = asAll (thT b L) 14 w 0 := if_neg h0
    refine R_iconst_0 dX12_readAll_26 ?_
    refine iS2 dX12_readAll_27 ?_
    refine loopN 14 (fun n => ∀ (hh : Hc) (u : Nat → Int) (k : Nat), MvR M h hh → StM M hh b L k → hh (M + 1) = u → WF u → (∀ i, 156 ≤ i → u i = w i) → asAll (thT b L) (14 - n) u k = asAll (thT b L) 14 w 0 → Run (d + 10) 0 0 mX12_readAll 28 [vR M, vI 1, vI ((n : Nat) : Int)] [] g hh P) (fun n hcn ihn hh u k hR9 hT9 hW9 hf9 hk9 hE => ?_) 0 (Nat.zero_le _) h2 w 0 (hR0.x m2.x) hB2.st hW2 hf (fun _ _ => rfl) rfl
    refine aL0 dX12_readAll_28 ?_
    refine iL1 dX12_readAll_29 ?_
    refine iL2 dX12_readAll_30 ?_
    refine invV2 rfl dX12_readAll_31 kX12_266 hG.o (Nat.le_of_ble_eq_true rfl) (Nat.zero_le _) (Nat.zero_le _) (C_X12_readLine_a hG hW9 hf9 hT9 hcn (fun h3 v3 m3 q3 => konI ?_))
    refine R_if_ne dX12_readAll_34 (fun hb34 => ?_) (fun hb34 => ?_)
    · rcases q3 with ⟨a3, k3, w3, r3, T3, u3, f3⟩ | ⟨a3, f3, r3, z3, u3⟩
      rotate_left
      · exfalso; omega
      have hn14 : n < 14 := Nat.lt_of_not_le fun q9 => by rw [if_pos q9] at r3; exact nomatch r3
      rw [if_neg (by omega)] at r3
      have hm : 14 - n = (13 - n) + 1 := by omega
      have hB9 := asLine_B hf9.jud hf9.cas r3
      have hk3 : ∀ i, 156 ≤ i → w3 i = w i := fun i hi => (hB9.1 i (by omega)).trans (hk9 i hi)
      refine aL0 dX12_readAll_39 ?_
      refine invV0 rfl dX12_readAll_40 kX12_122 hG.o (Nat.le_of_ble_eq_true rfl) (Nat.zero_le _) (Nat.zero_le _) (C_blanks hG T3 (fun h4 m4 hB4 => konV ?_))
      have hW4 := m4.w u3
      refine aL0 dX12_readAll_43 ?_
      refine R_getI dX12_readAll_44 fX12_109.r hG.o ?_
      refine topV (v := (((stT b L k3) : Nat) : Int)) (hB4.1.1) ?_
      refine aL0 dX12_readAll_47 ?_
      refine R_getI dX12_readAll_48 fX12_112.r hG.o ?_
      refine topV (v := ((L : Nat) : Int)) (hB4.1.2.1) ?_
      refine R_icmp_ne dX12_readAll_51 (fun hb51 => ?_) (fun hb51 => ?_)
      · refine aL0 dX12_readAll_58 ?_
        refine R_bipush dX12_readAll_59 (by decide) ?_
        refine R_bipush dX12_readAll_61 (by decide) ?_
        refine invV2 rfl dX12_readAll_63 kX12_115 hG.o (Nat.le_of_ble_eq_true rfl) (Nat.zero_le _) (Nat.zero_le _) (C_X12_isAt hG hB4.1 (by decide) (by decide) (konI ?_))
        refine R_ifB_ne dX12_readAll_66 (fun hb66 => ?_) (fun hb66 => ?_)
        · have hat := atB_iff.mp hb66
          refine aL0 dX12_readAll_71 ?_
          refine dupR dX12_readAll_72 ?_
          refine R_getI dX12_readAll_73 fX12_109.r hG.o ?_
          refine topV (v := (((stT b L k3) : Nat) : Int)) (hB4.1.1) ?_
          refine R_iconst_1 dX12_readAll_76 ?_
          refine addV dX12_readAll_77 (v := ((((stT b L k3) + 1) : Nat) : Int)) (by rw [wid (by omega) (by omega)]; omega) ?_
          refine R_putI dX12_readAll_78 fX12_109 hG.o ?_
          refine storH (fun h12 e12 => ?_)
          refine iInc2 dX12_readAll_81 (winc (by omega)) ?_
          refine R_goto dX12_readAll_84 ?_
          subst e12
          exact ihn (by omega) _ w3 (k3 + 1) ((hR9.x m3).x ((m4.x).pt (Or.inl rfl))) ⟨_, hB4.1.pt (p' := stT b L k3 + 1) (by have := (atB_iff.mp hb66).1; omega), en_s (c := 59) (by decide) hb66, hB4.2.2.s (atB_iff.mp hb66).1⟩ (by rw [updH_a (by omega)]; exact hW4) f3 hk3 (by rw [← hE, hm, asAll_s r3 (thT_go hB4.1.b0 (by omega)) ((th_s hB4.1.b0 (c := 59) (by decide)).mpr hb66), show 14 - (n + 1) = 13 - n by omega])
        · refine R_iconst_m1 dX12_readAll_69 ?_
          exact R_iret dX12_readAll_70 rfl (K _ _ ((hR9.x m3).x m4.x) (Or.inr ⟨rfl, k3, by rw [hA, ← hE, hm]; exact asAll_n r3 (thT_go hB4.1.b0 (by omega)) (fun q9 => by rw [(th_s hB4.1.b0 (c := 59) (by decide)).mp q9] at hb66; exact absurd hb66 (by decide)), hB4.2.1, w3, hW4, hk3⟩))
      · refine iL2 dX12_readAll_54 ?_
        refine R_iconst_1 dX12_readAll_55 ?_
        refine addV dX12_readAll_56 (v := (((n + 1) : Nat) : Int)) (by rw [wid (by omega) (by omega)]; omega) ?_
        exact R_iret dX12_readAll_57 rfl (K _ _ ((hR9.x m3).x m4.x) (Or.inl ⟨by omega, w3, by rw [hA, ← hE, hm]; exact asAll_e r3 (thT_end (by omega)), hW4, f3⟩))
    · rcases q3 with ⟨a3, k3, w3, r3, T3, u3, f3⟩ | ⟨a3, f3, r3, z3, u3⟩
      · exfalso; omega
      refine R_iconst_m1 dX12_readAll_37 ?_
      exact R_iret dX12_readAll_38 rfl (K _ _ (hR9.x m3) (Or.inr ⟨rfl, f3, by rw [hA, ← hE]; exact as_f hcn r3, z3, u, u3, hk9⟩))
  · refine R_iconst_0 dX12_readAll_24 ?_
    exact R_iret dX12_readAll_25 rfl (K _ _ (hR0.x m2.x) (Or.inl ⟨by decide, w, if_pos (thT_end (by omega)), hW2, hf⟩))
abbrev Fx (M : Nat) (h h' : Hc) : Prop := Off (fun a => mqs M a ∨ a = M + 1 ∨ a = M + 3) h h' ∧ h' M 6 = h M 6 ∧ h' M 9 = 0
set_option maxHeartbeats 1000000 in
theorem C_X12_assize {d : Nat} {g : Gs} {h : Hc} {P : Po} {M : Nat} {w : Nat → Int} (hG : MdG g M) (hW : h (M + 1) = w) (hf : WF w) {b : Nat → Int} {L : Nat} (hN : h M 9 = (L : Int)) (hL4 : L ≤ 400) (hB : ∀ i, i < L → h (M + 6) i = wrapB (b i) ∧ (0 ≤ b i ∧ b i ≤ 255)) (KE1 : ∀ h' f, Fx M h h' → h' M 7 = h M 7 → asText (thT b L) w = .inl f → h' (M + 1) = w → h' M 14 = ((stT b L f : Nat) : Int) → h' M 0 = 1 → P (.inl (some (vI 0))) g h') (KE2 : ∀ h' w', Fx M h h' → h' M 7 = h M 7 → asText (thT b L) w = .inr w' → w' 2 = 12 → h' (M + 1) = w → h' M 14 = -1 → h' M 0 = 2 → P (.inl (some (vI 0))) g h') (K1 : ∀ h' w', Fx M h h' → h' M 7 = 0 → asText (thT b L) w = .inr w' → ¬ w' 2 = 12 → WF w' → h' (M + 1) = updW w' 2 (w' 2 + 1) → h' M 14 = -1 → h' M 0 = 0 → P (.inl (some (vI (w' 2 + 1)))) g h') : Call (d + 11) 0 0 mX12_assize [vR M] g h P := by
  have hjd := hf.jud
  have hcs := hf.cas
  refine Call_of rfl ⟨by decide +kernel, rfl⟩ (Nat.le_of_ble_eq_true rfl) rfl ?_
  refine R_iconst_0 dX12_assize_0 ?_
  refine iS1 dX12_assize_1 ?_
  refine loopN 1365 (fun q => ∀ hh : Hc, Off (fun a => a = M + 3) h hh → (∀ i, i < q → hh (M + 3) i = w i) → Run (d + 11) 0 0 mX12_assize 2 [vR M, vI ((q : Nat) : Int), vU] [] g hh P) (fun q hcq ihq hh hO hE => ?_) 0 (Nat.zero_le _) h (Off.rf _ _) (fun i hi => absurd hi (Nat.not_lt_zero _))
  have hWx : hh (M + 1) = w := by rw [hO _ (by omega)]; exact hW
  refine iL1 dX12_assize_2 ?_
  refine R_sipush dX12_assize_3 (by decide) ?_
  refine R_icmp_ge dX12_assize_6 (fun hb6 => ?_) (fun hb6 => ?_)
  · have hq : q = 1365 := by omega
    rw [hq] at hE
    refine aL0 dX12_assize_27 ?_
    refine R_iconst_1 dX12_assize_28 ?_
    refine invV1 rfl dX12_assize_29 kX12_270 hG.o (Nat.le_of_ble_eq_true rfl) (Nat.zero_le _) (Nat.zero_le _) (C_X12_readAll_a hG hWx hf (by rw [hO M (by omega)]; exact hN) hL4 (fun i hi => by rw [hO _ (by omega)]; exact hB i hi) (fun h2 v2 hR2 q2 => konI ?_))
    have hF2 : Off (fun a => mqs M a ∨ a = M + 1 ∨ a = M + 3) h h2 := (hO.mono (fun a ha => Or.inr (Or.inr ha))).tr (hR2.1.mono (fun a ha => ha.elim Or.inl (fun q9 => Or.inr (Or.inl q9))))
    have hE2 : ∀ i, i < 1365 → h2 (M + 3) i = w i := fun i hi => by rw [hR2.1 (M + 3) (by unfold mqs; omega)]; exact hE i hi
    have h67 : ∀ i, i = 6 ∨ i = 7 → h2 M i = h M i := fun i hi => by rw [hR2.2.1 i (by omega), hO M (by omega)]
    refine iS1 dX12_assize_32 ?_
    rcases q2 with ⟨a2, w2, r2, u2, f2⟩ | ⟨a2, f2, r2, z2, w2, u2, k2⟩
    · have k2 := (asText_B hf r2).1
      have htx := f2.tex
      refine aL0 dX12_assize_33 ?_
      refine iL1 dX12_assize_34 ?_
      refine R_if_ge dX12_assize_35 (fun hb35 => ?_) (fun hb35 => ?_)
      · refine R_iconst_m1 dX12_assize_45 ?_
        refine R_putI dX12_assize_46 fX12_33 hG.o ?_
        refine storH (fun h21 e21 => ?_)
        have hFa : Off (fun a => mqs M a ∨ a = M + 1 ∨ a = M + 3) h h21 := by rw [e21]; exact hF2.upd (Or.inl (Or.inl rfl))
        have hEa : ∀ i, i < 1365 → h21 (M + 3) i = w i := fun i hi => by rw [e21, updH_a (by omega)]; exact hE2 i hi
        have h67a : ∀ i, i = 6 ∨ i = 7 → h21 M i = h M i := fun i hi => by rw [e21, updH_i (by omega)]; exact h67 i hi
        have h90a : h21 M 9 = 0 ∧ h21 M 0 = 0 := by rw [e21, updH_i (by decide), updH_i (by decide)]; exact ⟨hR2.2.2.1, hR2.2.2.2⟩
        have hfa : h21 M 14 = (-1) := by rw [e21]; exact updH_s _ _ _ _
        have hWa : h21 (M + 1) = w2 := by rw [e21, updH_a (by omega)]; exact u2
        refine aL0 dX12_assize_49 ?_
        refine iL1 dX12_assize_50 ?_
        refine R_if_ge dX12_assize_51 (fun hb51 => ?_) (fun hb51 => ?_)
        · refine R_iconst_0 dX12_assize_58 ?_
          refine R_iconst_1 dX12_assize_59 ?_
          refine invV2 rfl dX12_assize_60 kX12_274 hG.o (Nat.le_of_ble_eq_true rfl) (Nat.zero_le _) (Nat.zero_le _) (C_X12_throwsIf hG (b := false) (fun h22 hth22 => konI ?_))
          refine topV (v := 0) rfl ?_
          have eT22 : h21 = h22 := (hth22.trans (if_neg (by decide))).symm
          subst eT22
          refine R_if_ne dX12_assize_63 (fun hb => absurd hb (by decide)) (fun _ => ?_)
          refine aL0 dX12_assize_66 ?_
          refine aL0 dX12_assize_67 ?_
          refine R_getR dX12_assize_68 fX12_13.r hG.o rfl ?_
          refine R_iconst_2 dX12_assize_71 ?_
          refine ialdN (k := 2) dX12_assize_72 hG.a1 rfl (by decide) ?_
          refine topV (v := w2 2) (congrFun hWa _) ?_
          have hq23 := hf.tex
          refine R_bipush dX12_assize_73 (by decide) ?_
          refine R_icmp_ne dX12_assize_75 (fun hb75 => ?_) (fun hb75 => ?_)
          · refine R_iconst_0 dX12_assize_82 ?_
            refine R_iconst_2 dX12_assize_83 ?_
            refine invV2 rfl dX12_assize_84 kX12_274 hG.o (Nat.le_of_ble_eq_true rfl) (Nat.zero_le _) (Nat.zero_le _) (C_X12_throwsIf hG (b := false) (fun h24 hth24 => konI ?_))
            refine topV (v := 0) rfl ?_
            have eT24 : h21 = h24 := (hth24.trans (if_neg (by decide))).symm
            subst eT24
            refine R_if_eq dX12_assize_87 (fun _ => ?_) (fun hb => absurd hb (by decide))
            refine aL0 dX12_assize_119 ?_
            refine R_getR dX12_assize_120 fX12_13.r hG.o rfl ?_
            refine R_iconst_2 dX12_assize_123 ?_
            refine dup2IR dX12_assize_124 ?_
            refine ialdN (k := 2) dX12_assize_125 hG.a1 rfl (by decide) ?_
            refine topV (v := w2 2) (congrFun hWa _) ?_
            have hq25 := hf.tex
            refine R_iconst_1 dX12_assize_126 ?_
            refine addV dX12_assize_127 (wid (by omega) (by omega)) ?_
            refine iastN (k := 2) dX12_assize_128 hG.a1 rfl (by decide) ?_
            refine storH (fun h26 e26 => ?_)
            have hWs : h26 (M + 1) = updW w2 2 (w2 2 + 1) := by rw [e26]; exact hW_up hWa
            refine aL0 dX12_assize_129 ?_
            refine R_iconst_0 dX12_assize_130 ?_
            refine R_putI dX12_assize_131 fX12_77 hG.o ?_
            refine storH (fun h27 e27 => ?_)
            have hWt : h27 (M + 1) = updW w2 2 (w2 2 + 1) := by rw [e27, updH_a (by omega)]; exact hWs
            refine aL0 dX12_assize_134 ?_
            refine R_getR dX12_assize_135 fX12_13.r hG.o rfl ?_
            refine R_iconst_2 dX12_assize_138 ?_
            refine ialdN (k := 2) dX12_assize_139 hG.a1 rfl (by decide) ?_
            refine topV (v := (updW w2 2 (w2 2 + 1)) 2) (congrFun hWt _) ?_
            have hq28 := hf.tex
            exact R_iret dX12_assize_140 rfl (PeqI (K1 _ w2 ⟨by rw [e27, e26]; exact (hFa.upd (Or.inr (Or.inl rfl))).upd (Or.inl (Or.inl rfl)), by rw [e27, updH_i (by decide), e26, updH_a (by omega)]; exact h67a 6 (by omega), by rw [e27, updH_i (by decide), e26, updH_a (by omega)]; exact h90a.1⟩ (by rw [e27]; exact updH_s _ _ _ _) r2 (by omega) f2 hWt (by rw [e27, updH_i (by decide), e26, updH_a (by omega)]; exact hfa) (by rw [e27, updH_i (by decide), e26, updH_a (by omega)]; exact h90a.2)) (updW_s _ _ _))
          · refine R_iconst_1 dX12_assize_78 ?_
            refine R_goto dX12_assize_79 ?_
            refine R_iconst_2 dX12_assize_83 ?_
            refine invV2 rfl dX12_assize_84 kX12_274 hG.o (Nat.le_of_ble_eq_true rfl) (Nat.zero_le _) (Nat.zero_le _) (C_X12_throwsIf hG (b := true) (fun h29 hth29 => konI ?_))
            refine topV (v := 1) rfl ?_
            have eT : h29 = updH h21 M 0 2 := hth29.trans (if_pos rfl)
            have hFb : Off (fun a => mqs M a ∨ a = M + 1 ∨ a = M + 3) h h29 := by rw [eT]; exact hFa.upd (Or.inl (Or.inl rfl))
            have hEb : ∀ i, i < 1365 → h29 (M + 3) i = w i := fun i hi => by rw [eT, updH_a (by omega)]; exact hEa i hi
            have h67b : ∀ i, i = 6 ∨ i = 7 → h29 M i = h M i := fun i hi => by rw [eT, updH_i (by omega)]; exact h67a i hi
            have h9b : h29 M 9 = 0 := by rw [eT, updH_i (by decide)]; exact h90a.1
            have h0b : h29 M 0 = 2 := by rw [eT]; exact updH_s _ _ _ _
            have hfb : h29 M 14 = h21 M 14 := by rw [eT, updH_i (by decide)]
            have hWb : h29 (M + 1) = w2 := by rw [eT, updH_a (by omega)]; exact hWa
            refine R_if_eq dX12_assize_87 (fun hb => absurd hb (by decide)) (fun _ => ?_)
            refine R_iconst_0 dX12_assize_90 ?_
            refine iS2 dX12_assize_91 ?_
            refine loopN 1365 (fun q => ∀ hh : Hc, Off (fun a => a = M + 1) h29 hh → hh (M + 1) = (fun i => if i < q then w i else w2 i) → Run (d + 11) 0 0 mX12_assize 92 [vR M, vI v2, vI ((q : Nat) : Int)] [] g hh P) (fun q hcq ihq hh hO9 hR9 => ?_) 0 (Nat.zero_le _) h29 (Off.rf _ _) (by rw [hWb]; funext i; rw [if_neg (Nat.not_lt_zero _)])
            refine iL2 dX12_assize_92 ?_
            refine R_sipush dX12_assize_93 (by decide) ?_
            refine R_icmp_ge dX12_assize_96 (fun hb96 => ?_) (fun hb96 => ?_)
            · have hWe : hh (M + 1) = w := by
                rw [hR9]
                funext i
                by_cases e7 : i < q
                · rw [if_pos e7]
                · rw [if_neg e7]; exact k2 i (by omega)
              refine R_iconst_0 dX12_assize_117 ?_
              exact R_iret dX12_assize_118 rfl (KE2 _ w2 ⟨hFb.tr (hO9.mono (fun a ha => Or.inr (Or.inl ha))), by rw [hO9 M (by omega)]; exact h67b 6 (by omega), by rw [hO9 M (by omega)]; exact h9b⟩ (by rw [hO9 M (by omega)]; exact h67b 7 (by omega)) r2 (by omega) hWe (by rw [hO9 M (by omega), hfb]; exact hfa) (by rw [hO9 M (by omega)]; exact h0b))
            · refine aL0 dX12_assize_99 ?_
              refine R_getR dX12_assize_100 fX12_13.r hG.o rfl ?_
              refine iL2 dX12_assize_103 ?_
              refine aL0 dX12_assize_104 ?_
              refine R_getR dX12_assize_105 fX12_20.r hG.o rfl ?_
              refine iL2 dX12_assize_108 ?_
              refine ialdN dX12_assize_109 hG.a3 rfl (by omega) ?_
              refine topV (v := w q) (by rw [hO9 _ (by omega)]; exact hEb q (by omega)) ?_
              refine iastN dX12_assize_110 hG.a1 rfl (by omega) ?_
              refine storH (fun h30 e30 => ?_)
              refine iInc2 dX12_assize_111 (winc (by omega)) ?_
              refine R_goto dX12_assize_114 ?_
              exact ihq (by omega) _ (by rw [e30]; exact hO9.upd rfl) (by
                  rw [e30, updH_r, hR9]
                  funext i
                  unfold updW
                  by_cases e8 : i = q
                  · rw [if_pos e8, if_pos (by omega), e8]
                  · rw [if_neg e8]
                    show (if i < q then w i else w2 i) = _
                    by_cases e7 : i < q
                    · rw [if_pos e7, if_pos (by omega)]
                    · rw [if_neg e7, if_neg (by omega)])
        · exfalso; omega
      · exfalso; omega
    · subst a2
      refine aL0 dX12_assize_33 ?_
      refine iL1 dX12_assize_34 ?_
      refine R_if_ge dX12_assize_35 (fun hb => absurd hb (by decide)) (fun _ => ?_)
      refine aL0 dX12_assize_38 ?_
      refine R_getI dX12_assize_39 fX12_119.r hG.o ?_
      refine topV (v := (((stT b L f2) : Nat) : Int)) (z2) ?_
      refine R_goto dX12_assize_42 ?_
      refine R_putI dX12_assize_46 fX12_33 hG.o ?_
      refine storH (fun h31 e31 => ?_)
      have hFa : Off (fun a => mqs M a ∨ a = M + 1 ∨ a = M + 3) h h31 := by rw [e31]; exact hF2.upd (Or.inl (Or.inl rfl))
      have hEa : ∀ i, i < 1365 → h31 (M + 3) i = w i := fun i hi => by rw [e31, updH_a (by omega)]; exact hE2 i hi
      have h67a : ∀ i, i = 6 ∨ i = 7 → h31 M i = h M i := fun i hi => by rw [e31, updH_i (by omega)]; exact h67 i hi
      have h90a : h31 M 9 = 0 ∧ h31 M 0 = 0 := by rw [e31, updH_i (by decide), updH_i (by decide)]; exact ⟨hR2.2.2.1, hR2.2.2.2⟩
      have hfa : h31 M 14 = (((stT b L f2) : Nat) : Int) := by rw [e31]; exact updH_s _ _ _ _
      have hWa : h31 (M + 1) = w2 := by rw [e31, updH_a (by omega)]; exact u2
      refine aL0 dX12_assize_49 ?_
      refine iL1 dX12_assize_50 ?_
      refine R_if_ge dX12_assize_51 (fun hb => absurd hb (by decide)) (fun _ => ?_)
      refine R_iconst_1 dX12_assize_54 ?_
      refine R_goto dX12_assize_55 ?_
      refine R_iconst_1 dX12_assize_59 ?_
      refine invV2 rfl dX12_assize_60 kX12_274 hG.o (Nat.le_of_ble_eq_true rfl) (Nat.zero_le _) (Nat.zero_le _) (C_X12_throwsIf hG (b := true) (fun h32 hth32 => konI ?_))
      refine topV (v := 1) rfl ?_
      have eT : h32 = updH h31 M 0 1 := hth32.trans (if_pos rfl)
      have hFb : Off (fun a => mqs M a ∨ a = M + 1 ∨ a = M + 3) h h32 := by rw [eT]; exact hFa.upd (Or.inl (Or.inl rfl))
      have hEb : ∀ i, i < 1365 → h32 (M + 3) i = w i := fun i hi => by rw [eT, updH_a (by omega)]; exact hEa i hi
      have h67b : ∀ i, i = 6 ∨ i = 7 → h32 M i = h M i := fun i hi => by rw [eT, updH_i (by omega)]; exact h67a i hi
      have h9b : h32 M 9 = 0 := by rw [eT, updH_i (by decide)]; exact h90a.1
      have h0b : h32 M 0 = 1 := by rw [eT]; exact updH_s _ _ _ _
      have hfb : h32 M 14 = h31 M 14 := by rw [eT, updH_i (by decide)]
      have hWb : h32 (M + 1) = w2 := by rw [eT, updH_a (by omega)]; exact hWa
      refine R_if_ne dX12_assize_63 (fun _ => ?_) (fun hb => absurd hb (by decide))
      refine R_iconst_0 dX12_assize_90 ?_
      refine iS2 dX12_assize_91 ?_
      refine loopN 1365 (fun q => ∀ hh : Hc, Off (fun a => a = M + 1) h32 hh → hh (M + 1) = (fun i => if i < q then w i else w2 i) → Run (d + 11) 0 0 mX12_assize 92 [vR M, vI (-1), vI ((q : Nat) : Int)] [] g hh P) (fun q hcq ihq hh hO9 hR9 => ?_) 0 (Nat.zero_le _) h32 (Off.rf _ _) (by rw [hWb]; funext i; rw [if_neg (Nat.not_lt_zero _)])
      refine iL2 dX12_assize_92 ?_
      refine R_sipush dX12_assize_93 (by decide) ?_
      refine R_icmp_ge dX12_assize_96 (fun hb96 => ?_) (fun hb96 => ?_)
      · have hWe : hh (M + 1) = w := by
          rw [hR9]
          funext i
          by_cases e7 : i < q
          · rw [if_pos e7]
          · rw [if_neg e7]; exact k2 i (by omega)
        refine R_iconst_0 dX12_assize_117 ?_
        exact R_iret dX12_assize_118 rfl (KE1 _ f2 ⟨hFb.tr (hO9.mono (fun a ha => Or.inr (Or.inl ha))), by rw [hO9 M (by omega)]; exact h67b 6 (by omega), by rw [hO9 M (by omega)]; exact h9b⟩ (by rw [hO9 M (by omega)]; exact h67b 7 (by omega)) r2 hWe (by rw [hO9 M (by omega), hfb]; exact hfa) (by rw [hO9 M (by omega)]; exact h0b))
      · refine aL0 dX12_assize_99 ?_
        refine R_getR dX12_assize_100 fX12_13.r hG.o rfl ?_
        refine iL2 dX12_assize_103 ?_
        refine aL0 dX12_assize_104 ?_
        refine R_getR dX12_assize_105 fX12_20.r hG.o rfl ?_
        refine iL2 dX12_assize_108 ?_
        refine ialdN dX12_assize_109 hG.a3 rfl (by omega) ?_
        refine topV (v := w q) (by rw [hO9 _ (by omega)]; exact hEb q (by omega)) ?_
        refine iastN dX12_assize_110 hG.a1 rfl (by omega) ?_
        refine storH (fun h33 e33 => ?_)
        refine iInc2 dX12_assize_111 (winc (by omega)) ?_
        refine R_goto dX12_assize_114 ?_
        exact ihq (by omega) _ (by rw [e33]; exact hO9.upd rfl) (by
            rw [e33, updH_r, hR9]
            funext i
            unfold updW
            by_cases e8 : i = q
            · rw [if_pos e8, if_pos (by omega), e8]
            · rw [if_neg e8]
              show (if i < q then w i else w2 i) = _
              by_cases e7 : i < q
              · rw [if_pos e7, if_pos (by omega)]
              · rw [if_neg e7, if_neg (by omega)])
  · refine aL0 dX12_assize_9 ?_
    refine R_getR dX12_assize_10 fX12_20.r hG.o rfl ?_
    refine iL1 dX12_assize_13 ?_
    refine aL0 dX12_assize_14 ?_
    refine R_getR dX12_assize_15 fX12_13.r hG.o rfl ?_
    refine iL1 dX12_assize_18 ?_
    refine ialdN dX12_assize_19 hG.a1 rfl (by omega) ?_
    refine topV (v := w (q)) ((congrFun hWx _).trans (congrArg w (by omega))) ?_
    refine iastN dX12_assize_20 hG.a3 rfl (by omega) ?_
    refine storH (fun h34 e34 => ?_)
    refine iInc1 dX12_assize_21 (winc (by omega)) ?_
    refine R_goto dX12_assize_24 ?_
    exact ihq (by omega) _ (by rw [e34]; exact hO.upd rfl) (fun i hi => by
        rw [e34]
        by_cases e8 : i = q
        · subst e8; exact updH_s _ _ _ _
        · rw [updH_i e8]; exact hE i (by omega))
