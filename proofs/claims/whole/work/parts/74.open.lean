set_option maxHeartbeats 400000 in
theorem C_X8_isLetter {d : Nat} {g : Gs} {h : Hc} {P : Po} {x : Int} (K : P (.inl (some (vI (bI (isLB x))))) g h) : Call (d + 0) 0 0 mX8_isLetter [vI x] g h P := by
  refine Call_of rfl ⟨by decide +kernel, rfl⟩ (Nat.le_of_ble_eq_true rfl) rfl ?_
  refine iL0 dX8_isLetter_0 ?_
  refine R_bipush dX8_isLetter_1 (by decide) ?_
  refine R_icmp_lt dX8_isLetter_3 (fun hb3 => ?_) (fun hb3 => ?_)
  · refine R_iconst_0 dX8_isLetter_16 ?_
    exact R_zret dX8_isLetter_17 rfl (by decide) (PeqI K (show (0 : Int) = bI (isLB x) by rw [isLB_f.mpr (by omega)]; rfl))
  · refine iL0 dX8_isLetter_6 ?_
    refine R_bipush dX8_isLetter_7 (by decide) ?_
    refine R_icmp_gt dX8_isLetter_9 (fun hb9 => ?_) (fun hb9 => ?_)
    · refine R_iconst_0 dX8_isLetter_16 ?_
      exact R_zret dX8_isLetter_17 rfl (by decide) (PeqI K (show (0 : Int) = bI (isLB x) by rw [isLB_f.mpr (by omega)]; rfl))
    · refine R_iconst_1 dX8_isLetter_12 ?_
      refine R_goto dX8_isLetter_13 ?_
      exact R_zret dX8_isLetter_17 rfl (by decide) (PeqI K (show (1 : Int) = bI (isLB x) by rw [isLB_t.mpr (by omega)]; rfl))
set_option maxHeartbeats 400000 in
theorem C_X8_isDigit {d : Nat} {g : Gs} {h : Hc} {P : Po} {x : Int} (K : P (.inl (some (vI (bI (isDB x))))) g h) : Call (d + 0) 0 0 mX8_isDigit [vI x] g h P := by
  refine Call_of rfl ⟨by decide +kernel, rfl⟩ (Nat.le_of_ble_eq_true rfl) rfl ?_
  refine iL0 dX8_isDigit_0 ?_
  refine R_bipush dX8_isDigit_1 (by decide) ?_
  refine R_icmp_lt dX8_isDigit_3 (fun hb3 => ?_) (fun hb3 => ?_)
  · refine R_iconst_0 dX8_isDigit_16 ?_
    exact R_zret dX8_isDigit_17 rfl (by decide) (PeqI K (show (0 : Int) = bI (isDB x) by rw [isDB_f.mpr (by omega)]; rfl))
  · refine iL0 dX8_isDigit_6 ?_
    refine R_bipush dX8_isDigit_7 (by decide) ?_
    refine R_icmp_gt dX8_isDigit_9 (fun hb9 => ?_) (fun hb9 => ?_)
    · refine R_iconst_0 dX8_isDigit_16 ?_
      exact R_zret dX8_isDigit_17 rfl (by decide) (PeqI K (show (0 : Int) = bI (isDB x) by rw [isDB_f.mpr (by omega)]; rfl))
    · refine R_iconst_1 dX8_isDigit_12 ?_
      refine R_goto dX8_isDigit_13 ?_
      exact R_zret dX8_isDigit_17 rfl (by decide) (PeqI K (show (1 : Int) = bI (isDB x) by rw [isDB_t.mpr (by omega)]; rfl))
set_option maxHeartbeats 400000 in
theorem C_X8_goesOn {d : Nat} {g : Gs} {h : Hc} {P : Po} {X : Nat} {b : Nat → Int} {L : Nat} (hG : ClG g X) (hL : L ≤ 400) (hB : ∀ k, k < L → h (X + 2) k = b k) (hB0 : ∀ k, k < L → 0 ≤ b k ∧ b k ≤ 255) {i : Nat} (hi : i < L) (K : P (.inl (some (vI (bI (gOn b i))))) g h) : Call (d + 1) 0 0 mX8_goesOn [vR (X + 1), vI ((i : Nat) : Int)] g h P := by
  refine Call_of rfl ⟨by decide +kernel, rfl⟩ (Nat.le_of_ble_eq_true rfl) rfl ?_
  refine iL1 dX8_goesOn_0 ?_
  refine R_if_le dX8_goesOn_1 (fun hb1 => ?_) (fun hb1 => ?_)
  · have e9 : i = 0 := by omega
    subst e9
    refine R_bipush dX8_goesOn_15 (by decide) ?_
    refine iS2 dX8_goesOn_17 ?_
    refine iL2 dX8_goesOn_18 ?_
    refine invS1 rfl dX8_goesOn_19 kX8_43 (Nat.le_of_ble_eq_true rfl) (Nat.zero_le _) (Nat.zero_le _) (C_X8_isLetter (konI ?_))
    refine R_if_eq dX8_goesOn_22 (fun _ => ?_) (fun hb => absurd hb (by decide))
    refine iL2 dX8_goesOn_37 ?_
    refine invS1 rfl dX8_goesOn_38 kX8_46 (Nat.le_of_ble_eq_true rfl) (Nat.zero_le _) (Nat.zero_le _) (C_X8_isDigit (konI ?_))
    refine R_if_eq dX8_goesOn_41 (fun _ => ?_) (fun hb => absurd hb (by decide))
    refine R_iconst_0 dX8_goesOn_60 ?_
    exact R_zret dX8_goesOn_61 rfl (by decide) (PeqI K (by first | exact rfl | (rw [gOn_f (fun q => by first | exact hb34 | exact absurd q (by rw [hb22]; decide)) (fun q => by first | exact hb53 | exact absurd q (by rw [hb41]; decide))]; rfl)))
  · refine aL0 dX8_goesOn_4 ?_
    refine R_getR dX8_goesOn_5 fX8_11.r hG.tape rfl ?_
    refine iL1 dX8_goesOn_8 ?_
    refine R_iconst_1 dX8_goesOn_9 ?_
    refine subV dX8_goesOn_10 (wid (by omega) (by omega)) ?_
    refine topV (v := (((i - 1) : Nat) : Int)) (by omega) ?_
    refine ialdN dX8_goesOn_11 hG.t2 rfl (by omega) ?_
    refine topV (v := b (i - 1)) (hB (i - 1) (by omega)) ?_
    have hq21 := hB0 (i - 1) (by omega)
    refine R_goto dX8_goesOn_12 ?_
    refine iS2 dX8_goesOn_17 ?_
    refine iL2 dX8_goesOn_18 ?_
    refine invS1 rfl dX8_goesOn_19 kX8_43 (Nat.le_of_ble_eq_true rfl) (Nat.zero_le _) (Nat.zero_le _) (C_X8_isLetter (konI ?_))
    refine R_ifB_eq dX8_goesOn_22 (fun hb22 => ?_) (fun hb22 => ?_)
    · refine iL2 dX8_goesOn_37 ?_
      refine invS1 rfl dX8_goesOn_38 kX8_46 (Nat.le_of_ble_eq_true rfl) (Nat.zero_le _) (Nat.zero_le _) (C_X8_isDigit (konI ?_))
      refine R_ifB_eq dX8_goesOn_41 (fun hb41 => ?_) (fun hb41 => ?_)
      · refine R_iconst_0 dX8_goesOn_60 ?_
        exact R_zret dX8_goesOn_61 rfl (by decide) (PeqI K (by first | exact rfl | (rw [gOn_f (fun q => by first | exact hb34 | exact absurd q (by rw [hb22]; decide)) (fun q => by first | exact hb53 | exact absurd q (by rw [hb41]; decide))]; rfl)))
      · refine aL0 dX8_goesOn_44 ?_
        refine R_getR dX8_goesOn_45 fX8_11.r hG.tape rfl ?_
        refine iL1 dX8_goesOn_48 ?_
        refine ialdN dX8_goesOn_49 hG.t2 rfl (by omega) ?_
        refine topV (v := b i) (hB i (by omega)) ?_
        have hq22 := hB0 i (by omega)
        refine invS1 rfl dX8_goesOn_50 kX8_46 (Nat.le_of_ble_eq_true rfl) (Nat.zero_le _) (Nat.zero_le _) (C_X8_isDigit (konI ?_))
        refine R_ifB_eq dX8_goesOn_53 (fun hb53 => ?_) (fun hb53 => ?_)
        · refine R_iconst_0 dX8_goesOn_60 ?_
          exact R_zret dX8_goesOn_61 rfl (by decide) (PeqI K (by first | exact rfl | (rw [gOn_f (fun q => by first | exact hb34 | exact absurd q (by rw [hb22]; decide)) (fun q => by first | exact hb53 | exact absurd q (by rw [hb41]; decide))]; rfl)))
        · refine R_iconst_1 dX8_goesOn_56 ?_
          refine R_goto dX8_goesOn_57 ?_
          exact R_zret dX8_goesOn_61 rfl (by decide) (PeqI K (show (1 : Int) = bI (gOn b i) by rw [gOn_t (by omega) (by first | exact Or.inl ⟨hb22, hb34⟩ | exact Or.inr ⟨hb41, hb53⟩)]; rfl))
    · refine aL0 dX8_goesOn_25 ?_
      refine R_getR dX8_goesOn_26 fX8_11.r hG.tape rfl ?_
      refine iL1 dX8_goesOn_29 ?_
      refine ialdN dX8_goesOn_30 hG.t2 rfl (by omega) ?_
      refine topV (v := b i) (hB i (by omega)) ?_
      have hq23 := hB0 i (by omega)
      refine invS1 rfl dX8_goesOn_31 kX8_43 (Nat.le_of_ble_eq_true rfl) (Nat.zero_le _) (Nat.zero_le _) (C_X8_isLetter (konI ?_))
      refine R_ifB_ne dX8_goesOn_34 (fun hb34 => ?_) (fun hb34 => ?_)
      · refine R_iconst_1 dX8_goesOn_56 ?_
        refine R_goto dX8_goesOn_57 ?_
        exact R_zret dX8_goesOn_61 rfl (by decide) (PeqI K (show (1 : Int) = bI (gOn b i) by rw [gOn_t (by omega) (by first | exact Or.inl ⟨hb22, hb34⟩ | exact Or.inr ⟨hb41, hb53⟩)]; rfl))
      · refine iL2 dX8_goesOn_37 ?_
        refine invS1 rfl dX8_goesOn_38 kX8_46 (Nat.le_of_ble_eq_true rfl) (Nat.zero_le _) (Nat.zero_le _) (C_X8_isDigit (konI ?_))
        refine R_ifB_eq dX8_goesOn_41 (fun hb41 => ?_) (fun hb41 => ?_)
        · refine R_iconst_0 dX8_goesOn_60 ?_
          exact R_zret dX8_goesOn_61 rfl (by decide) (PeqI K (by first | exact rfl | (rw [gOn_f (fun q => by first | exact hb34 | exact absurd q (by rw [hb22]; decide)) (fun q => by first | exact hb53 | exact absurd q (by rw [hb41]; decide))]; rfl)))
        · refine aL0 dX8_goesOn_44 ?_
          refine R_getR dX8_goesOn_45 fX8_11.r hG.tape rfl ?_
          refine iL1 dX8_goesOn_48 ?_
          refine ialdN dX8_goesOn_49 hG.t2 rfl (by omega) ?_
          refine topV (v := b i) (hB i (by omega)) ?_
          have hq24 := hB0 i (by omega)
          refine invS1 rfl dX8_goesOn_50 kX8_46 (Nat.le_of_ble_eq_true rfl) (Nat.zero_le _) (Nat.zero_le _) (C_X8_isDigit (konI ?_))
          refine R_ifB_eq dX8_goesOn_53 (fun hb53 => ?_) (fun hb53 => ?_)
          · refine R_iconst_0 dX8_goesOn_60 ?_
            exact R_zret dX8_goesOn_61 rfl (by decide) (PeqI K (by first | exact rfl | (rw [gOn_f (fun q => by first | exact hb34 | exact absurd q (by rw [hb22]; decide)) (fun q => by first | exact hb53 | exact absurd q (by rw [hb41]; decide))]; rfl)))
          · refine R_iconst_1 dX8_goesOn_56 ?_
            refine R_goto dX8_goesOn_57 ?_
            exact R_zret dX8_goesOn_61 rfl (by decide) (PeqI K (show (1 : Int) = bI (gOn b i) by rw [gOn_t (by omega) (by first | exact Or.inl ⟨hb22, hb34⟩ | exact Or.inr ⟨hb41, hb53⟩)]; rfl))
set_option maxHeartbeats 400000 in
theorem C_X8_numberOf {d : Nat} {g : Gs} {h : Hc} {P : Po} {X : Nat} {b : Nat → Int} {L : Nat} (hG : ClG g X) (hL : L ≤ 400) (hB : ∀ k, k < L → h (X + 2) k = b k) (hB0 : ∀ k, k < L → 0 ≤ b k ∧ b k ≤ 255) {i e : Nat} (hi : i ≤ e) (he : e ≤ L) (hD : ∀ k, k < e - i → 48 ≤ b (i + k) ∧ b (i + k) ≤ 57) (K : P (.inl (some (vI (if 3 < e - i then 3000 else nuB b i (e - i))))) g h) : Call (d + 0) 0 0 mX8_numberOf [vR (X + 1), vI ((i : Nat) : Int), vI ((e : Nat) : Int)] g h P := by
  refine Call_of rfl ⟨by decide +kernel, rfl⟩ (Nat.le_of_ble_eq_true rfl) rfl ?_
  refine iL2 dX8_numberOf_0 ?_
  refine iL1 dX8_numberOf_1 ?_
  refine subV dX8_numberOf_2 (wid (by omega) (by omega)) ?_
  refine R_iconst_3 dX8_numberOf_3 ?_
  refine R_icmp_le dX8_numberOf_4 (fun hb4 => ?_) (fun hb4 => ?_)
  · refine R_iconst_0 dX8_numberOf_11 ?_
    refine iS3 dX8_numberOf_12 ?_
    refine iL1 dX8_numberOf_13 ?_
    refine iS4 dX8_numberOf_14 ?_
    refine loopN ((e - i)) (fun q => Run (d + 0) 0 0 mX8_numberOf 16 [vR (X + 1), vI ((i : Nat) : Int), vI ((e : Nat) : Int), vI (nuB b i q), vI (((i + q) : Nat) : Int)] [] g h P) (fun q hcnq ihq => ?_) (0) (Nat.zero_le _)
    have hn := nuB_rng (b := b) (s := i) (n := q) (fun k hk => hD k (by omega)) (by omega)
    refine iL4 dX8_numberOf_16 ?_
    refine iL2 dX8_numberOf_18 ?_
    refine R_icmp_ge dX8_numberOf_19 (fun hb19 => ?_) (fun hb19 => ?_)
    · refine iL3 dX8_numberOf_44 ?_
      exact R_iret dX8_numberOf_45 rfl (PeqI K (by rw [if_neg (by omega), show e - i = q by omega]))
    · refine iL3 dX8_numberOf_22 ?_
      refine R_bipush dX8_numberOf_23 (by decide) ?_
      refine mulV dX8_numberOf_25 (wid (by omega) (by omega)) ?_
      refine aL0 dX8_numberOf_26 ?_
      refine R_getR dX8_numberOf_27 fX8_11.r hG.tape rfl ?_
      refine iL4 dX8_numberOf_30 ?_
      refine ialdN dX8_numberOf_32 hG.t2 rfl (by omega) ?_
      refine topV (v := b (i + q)) (hB (i + q) (by omega)) ?_
      have hq21 := hB0 (i + q) (by omega)
      refine addV dX8_numberOf_33 (wid (by omega) (by omega)) ?_
      refine R_bipush dX8_numberOf_34 (by decide) ?_
      refine subV dX8_numberOf_36 (wid (by omega) (by omega)) ?_
      refine iS3 dX8_numberOf_37 ?_
      refine iInc4 dX8_numberOf_38 (winc (by omega)) ?_
      refine R_goto dX8_numberOf_41 ?_
      exact eqI4 (by omega) (eqI3 (rfl) (ihq (by omega)))
  · refine R_sipush dX8_numberOf_7 (by decide) ?_
    exact R_iret dX8_numberOf_10 rfl (PeqI K (by rw [if_pos (by omega)]))
theorem wrdF_s {b : Nat → Int} {s e n x q : Nat} {m : Bool} (hq : q < (sBi 0).length) : wrdF b s e ((sBi 0).drop q) n x m = if (sBi 0).getD q 0 ≠ 32 then wrdF b s e ((sBi 0).drop (q + 1)) n (x + 1) (m && decide (x < e) && decide (b x = (sBi 0).getD q 0)) else if (m && decide (x = e)) = true then 1000 + (n : Int) else wrdF b s e ((sBi 0).drop (q + 1)) (n + 1) s true := by
  rw [List.drop_eq_getElem_cons hq, show (sBi 0).getD q 0 = (sBi 0)[q] by rw [List.getD_eq_getElem?_getD, List.getElem?_eq_getElem hq]; rfl]
  rfl
theorem wrdF_i (b : Nat → Int) (s e : Nat) : wrdF b s e ((sBi 0).drop 0) 0 s true = wixL b s e wds 0 := by
  rw [List.drop_zero, ← wds_sB]
  exact wrdF_all wds 0 wds_ok
theorem wrdF_e {b : Nat → Int} {s e n x q : Nat} {m : Bool} (hq : (sBi 0).length ≤ q) : wrdF b s e ((sBi 0).drop q) n x m = 3000 := by
  rw [List.drop_eq_nil_of_le hq]
  rfl
theorem and3_t {m : Bool} {p q : Prop} [Decidable p] [Decidable q] (h1 : m = true) (h2 : p) (h3 : q) : (m && decide p && decide q) = true := by rw [h1, decide_eq_true h2, decide_eq_true h3]; rfl
theorem and3_f {m : Bool} {p q : Prop} [Decidable p] [Decidable q] (h : m = false ∨ ¬ p ∨ ¬ q) : (m && decide p && decide q) = false := by
  rcases h with h | h | h
  · rw [h]; rfl
  · rw [decide_eq_false h, Bool.and_false]; rfl
  · rw [decide_eq_false h, Bool.and_false]
set_option maxHeartbeats 400000 in
theorem C_X8_wordOf {d : Nat} {g : Gs} {h : Hc} {P : Po} {X : Nat} {b : Nat → Int} {L : Nat} (hG : ClG g X) (hL : L ≤ 400) (hB : ∀ k, k < L → h (X + 2) k = b k) (hB0 : ∀ k, k < L → 0 ≤ b k ∧ b k ≤ 255) {i e : Nat} (hi : i ≤ e) (he : e ≤ L) (K : P (.inl (some (vI (wixL b i e wds 0)))) g h) : Call (d + 4) 0 0 mX8_wordOf [vR (X + 1), vI ((i : Nat) : Int), vI ((e : Nat) : Int)] g h P := by
  refine Call_of rfl ⟨by decide +kernel, rfl⟩ (Nat.le_of_ble_eq_true rfl) rfl ?_
  refine R_iconst_0 dX8_wordOf_0 ?_
  refine iS3 dX8_wordOf_1 ?_
  refine iL1 dX8_wordOf_2 ?_
  refine iS4 dX8_wordOf_3 ?_
  refine R_iconst_1 dX8_wordOf_5 ?_
  refine iS5 dX8_wordOf_6 ?_
  refine R_iconst_0 dX8_wordOf_8 ?_
  refine iS6 dX8_wordOf_9 ?_
  refine loopN (sBi 0).length (fun q => ∀ (v7 : AV) (n x : Nat) (m : Bool), n ≤ q → x ≤ i + q → wrdF b i e ((sBi 0).drop q) n x m = wixL b i e wds 0 → Run (d + 4) 0 0 mX8_wordOf 11 [vR (X + 1), vI ((i : Nat) : Int), vI ((e : Nat) : Int), vI ((n : Nat) : Int), vI ((x : Nat) : Int), vI (bI (m)), vI ((q : Nat) : Int), v7] [] g h P) (fun q hcq ihq v7 n x m hn hx hw => ?_) 0 (Nat.zero_le _) _ 0 i true (Nat.zero_le _) (Nat.le_refl _) (wrdF_i b i e)
  refine iL6 dX8_wordOf_11 ?_
  refine R_ldcS (i := 0) dX8_wordOf_13 rfl ?_
  refine invT0 (i := 0) rfl dX8_wordOf_15 kSRX8_57 (by decide) (Nat.le_of_ble_eq_true rfl) (Nat.zero_le _) (Nat.zero_le _) (C_J0_length_8abf5 (by decide) (konI ?_))
  refine R_icmp_ge dX8_wordOf_18 (fun hb18 => ?_) (fun hb18 => ?_)
  · refine R_sipush dX8_wordOf_105 (by decide) ?_
    exact R_iret dX8_wordOf_108 rfl (PeqI K (by rw [← hw, wrdF_e (by omega)]))
  · have hs := (wrdF_s (b := b) (s := i) (e := e) (n := n) (x := x) (m := m) (q := q) (by omega)).symm.trans hw
    have hl9 : (sBi 0).length = 139 := rfl
    refine R_ldcS (i := 0) dX8_wordOf_21 rfl ?_
    refine iL6 dX8_wordOf_23 ?_
    refine invT1 (i := 0) rfl dX8_wordOf_25 kSRX8_61 (by decide) (Nat.le_of_ble_eq_true rfl) (Nat.zero_le _) (Nat.zero_le _) (C_J0_charAt_5068e (by decide) (by omega) (by omega) (konI ?_))
    refine topV (v := (sBi 0).getD q 0) rfl ?_
    refine iS7 dX8_wordOf_28 ?_
    refine iL7 dX8_wordOf_30 ?_
    refine R_bipush dX8_wordOf_32 (by decide) ?_
    refine R_icmp_eq dX8_wordOf_34 (fun hb34 => ?_) (fun hb34 => ?_)
    · refine iL5 dX8_wordOf_73 ?_
      refine R_ifB_eq dX8_wordOf_75 (fun hb75 => ?_) (fun hb75 => ?_)
      · refine iInc3 dX8_wordOf_90 (winc (by omega)) ?_
        refine iL1 dX8_wordOf_93 ?_
        refine iS4 dX8_wordOf_94 ?_
        refine R_iconst_1 dX8_wordOf_96 ?_
        refine iS5 dX8_wordOf_97 ?_
        refine iInc6 dX8_wordOf_99 (winc (by omega)) ?_
        refine R_goto dX8_wordOf_102 ?_
        exact ihq (by omega) _ (n + 1) i true (by omega) (by omega) (by rw [if_neg (by omega), if_neg (fun q9 => by first | exact absurd ((Bool.and_eq_true _ _).mp q9).1 (by rw [hb75]; decide) | (have := of_decide_eq_true ((Bool.and_eq_true _ _).mp q9).2; omega))] at hs; exact hs)
      · refine iL4 dX8_wordOf_78 ?_
        refine iL2 dX8_wordOf_80 ?_
        refine R_icmp_ne dX8_wordOf_81 (fun hb81 => ?_) (fun hb81 => ?_)
        · refine iInc3 dX8_wordOf_90 (winc (by omega)) ?_
          refine iL1 dX8_wordOf_93 ?_
          refine iS4 dX8_wordOf_94 ?_
          refine R_iconst_1 dX8_wordOf_96 ?_
          refine iS5 dX8_wordOf_97 ?_
          refine iInc6 dX8_wordOf_99 (winc (by omega)) ?_
          refine R_goto dX8_wordOf_102 ?_
          exact ihq (by omega) _ (n + 1) i true (by omega) (by omega) (by rw [if_neg (by omega), if_neg (fun q9 => by first | exact absurd ((Bool.and_eq_true _ _).mp q9).1 (by rw [hb75]; decide) | (have := of_decide_eq_true ((Bool.and_eq_true _ _).mp q9).2; omega))] at hs; exact hs)
        · refine R_sipush dX8_wordOf_84 (by decide) ?_
          refine iL3 dX8_wordOf_87 ?_
          refine addV dX8_wordOf_88 (v := (((1000 + n) : Nat) : Int)) (by rw [wid (by omega) (by omega)]; omega) ?_
          exact R_iret dX8_wordOf_89 rfl (PeqI K (by rw [if_neg (by omega), if_pos (by rw [hb75, decide_eq_true (p := x = e) (by omega)]; rfl)] at hs; omega))
    · have hc : (sBi 0).getD q 0 ≠ 32 := by omega
      refine iL5 dX8_wordOf_37 ?_
      refine R_ifB_eq dX8_wordOf_39 (fun hb39 => ?_) (fun hb39 => ?_)
      · refine R_iconst_0 dX8_wordOf_64 ?_
        refine iS5 dX8_wordOf_65 ?_
        refine iInc4 dX8_wordOf_67 (winc (by omega)) ?_
        refine R_goto dX8_wordOf_70 ?_
        refine iInc6 dX8_wordOf_99 (winc (by omega)) ?_
        refine R_goto dX8_wordOf_102 ?_
        exact ihq (by omega) _ n (x + 1) false (by omega) (by omega) (by rw [if_pos hc, and3_f (by first | exact Or.inl hb39 | exact Or.inr (Or.inl (by omega)) | exact Or.inr (Or.inr (by omega)))] at hs; exact hs)
      · refine iL4 dX8_wordOf_42 ?_
        refine iL2 dX8_wordOf_44 ?_
        refine R_icmp_ge dX8_wordOf_45 (fun hb45 => ?_) (fun hb45 => ?_)
        · refine R_iconst_0 dX8_wordOf_64 ?_
          refine iS5 dX8_wordOf_65 ?_
          refine iInc4 dX8_wordOf_67 (winc (by omega)) ?_
          refine R_goto dX8_wordOf_70 ?_
          refine iInc6 dX8_wordOf_99 (winc (by omega)) ?_
          refine R_goto dX8_wordOf_102 ?_
          exact ihq (by omega) _ n (x + 1) false (by omega) (by omega) (by rw [if_pos hc, and3_f (by first | exact Or.inl hb39 | exact Or.inr (Or.inl (by omega)) | exact Or.inr (Or.inr (by omega)))] at hs; exact hs)
        · refine aL0 dX8_wordOf_48 ?_
          refine R_getR dX8_wordOf_49 fX8_11.r hG.tape rfl ?_
          refine iL4 dX8_wordOf_52 ?_
          refine ialdN dX8_wordOf_54 hG.t2 rfl (by omega) ?_
          refine topV (v := b x) (hB x (by omega)) ?_
          have hq21 := hB0 x (by omega)
          refine iL7 dX8_wordOf_55 ?_
          refine R_icmp_ne dX8_wordOf_57 (fun hb57 => ?_) (fun hb57 => ?_)
          · refine R_iconst_0 dX8_wordOf_64 ?_
            refine iS5 dX8_wordOf_65 ?_
            refine iInc4 dX8_wordOf_67 (winc (by omega)) ?_
            refine R_goto dX8_wordOf_70 ?_
            refine iInc6 dX8_wordOf_99 (winc (by omega)) ?_
            refine R_goto dX8_wordOf_102 ?_
            exact ihq (by omega) _ n (x + 1) false (by omega) (by omega) (by rw [if_pos hc, and3_f (by first | exact Or.inl hb39 | exact Or.inr (Or.inl (by omega)) | exact Or.inr (Or.inr (by omega)))] at hs; exact hs)
          · refine R_iconst_1 dX8_wordOf_60 ?_
            refine R_goto dX8_wordOf_61 ?_
            refine iS5 dX8_wordOf_65 ?_
            refine iInc4 dX8_wordOf_67 (winc (by omega)) ?_
            refine R_goto dX8_wordOf_70 ?_
            refine iInc6 dX8_wordOf_99 (winc (by omega)) ?_
            refine R_goto dX8_wordOf_102 ?_
            exact ihq (by omega) _ n (x + 1) true (by omega) (by omega) (by rw [if_pos hc, and3_t hb39 (by omega) (by omega)] at hs; exact hs)
theorem thS_l {b : Nat → Int} {L s : Nat} (h : s < L) (hl : isLB (b s) = true) : thS b L s = wixL b s (enT b L s) wds 0 := by unfold thS; rw [if_neg (by omega), if_pos hl]
theorem thS_d {b : Nat → Int} {L s : Nat} (h : s < L) (hl : isLB (b s) = false) (hd : isDB (b s) = true) : thS b L s = if 3 < enT b L s - s then 3000 else nuB b s (enT b L s - s) := by unfold thS; rw [if_neg (by omega), if_neg (by rw [hl]; decide), if_pos hd]
theorem thS_g {b : Nat → Int} {L s : Nat} (h : s < L) (hl : isLB (b s) = false) (hd : isDB (b s) = false) : thS b L s = 2000 + b s := by unfold thS; rw [if_neg (by omega), if_neg (by rw [hl]; decide), if_neg (by rw [hd]; decide)]
set_option maxHeartbeats 400000 in
theorem C_X8_thingAt {d : Nat} {g : Gs} {h : Hc} {P : Po} {X : Nat} {b : Nat → Int} {L : Nat} (hG : ClG g X) (hL : L ≤ 400) (hB : ∀ k, k < L → h (X + 2) k = b k) (hB0 : ∀ k, k < L → 0 ≤ b k ∧ b k ≤ 255) {i : Nat} (hi : i < L) (K : P (.inl (some (vI (thS b L i)))) g h) : Call (d + 5) 0 0 mX8_thingAt [vR (X + 1), vI ((i : Nat) : Int), vI ((L : Nat) : Int)] g h P := by
  refine Call_of rfl ⟨by decide +kernel, rfl⟩ (Nat.le_of_ble_eq_true rfl) rfl ?_
  refine iL1 dX8_thingAt_0 ?_
  refine R_iconst_1 dX8_thingAt_1 ?_
  refine addV dX8_thingAt_2 (v := (((i + 1) : Nat) : Int)) (by rw [wid (by omega) (by omega)]; omega) ?_
  refine iS3 dX8_thingAt_3 ?_
  refine loopN (L) (fun q => i + 1 ≤ q → (∀ k, i + 1 ≤ k → k < q → gOn b k = true) → Run (d + 5) 0 0 mX8_thingAt 4 [vR (X + 1), vI ((i : Nat) : Int), vI ((L : Nat) : Int), vI ((q : Nat) : Int)] [] g h P) (fun q hcnq ihq hiq hgo => ?_) ((i + 1)) (by omega) (Nat.le_refl _) (fun k h1 h2 => absurd h2 (by omega))
  refine iL3 dX8_thingAt_4 ?_
  refine iL2 dX8_thingAt_5 ?_
  refine R_icmp_ge dX8_thingAt_6 (fun hb6 => ?_) (fun hb6 => ?_)
  · have hen : enT b L i = q := by
      rw [← gOn_en hi]
      exact skL_at (by omega) (by omega) (fun k h1 h2 => hgo k h1 h2) (fun h9 => absurd h9 (by omega))
    refine aL0 dX8_thingAt_23 ?_
    refine R_getR dX8_thingAt_24 fX8_11.r hG.tape rfl ?_
    refine iL1 dX8_thingAt_27 ?_
    refine ialdN dX8_thingAt_28 hG.t2 rfl (by omega) ?_
    refine topV (v := b i) (hB i (by omega)) ?_
    have hq21 := hB0 i (by omega)
    refine invS1 rfl dX8_thingAt_29 kX8_43 (Nat.le_of_ble_eq_true rfl) (Nat.zero_le _) (Nat.zero_le _) (C_X8_isLetter (konI ?_))
    refine R_ifB_eq dX8_thingAt_32 (fun hb32 => ?_) (fun hb32 => ?_)
    · refine aL0 dX8_thingAt_42 ?_
      refine R_getR dX8_thingAt_43 fX8_11.r hG.tape rfl ?_
      refine iL1 dX8_thingAt_46 ?_
      refine ialdN dX8_thingAt_47 hG.t2 rfl (by omega) ?_
      refine topV (v := b i) (hB i (by omega)) ?_
      have hq22 := hB0 i (by omega)
      refine invS1 rfl dX8_thingAt_48 kX8_46 (Nat.le_of_ble_eq_true rfl) (Nat.zero_le _) (Nat.zero_le _) (C_X8_isDigit (konI ?_))
      refine R_ifB_eq dX8_thingAt_51 (fun hb51 => ?_) (fun hb51 => ?_)
      · refine R_sipush dX8_thingAt_63 (by decide) ?_
        refine aL0 dX8_thingAt_66 ?_
        refine R_getR dX8_thingAt_67 fX8_11.r hG.tape rfl ?_
        refine iL1 dX8_thingAt_70 ?_
        refine ialdN dX8_thingAt_71 hG.t2 rfl (by omega) ?_
        refine topV (v := b i) (hB i (by omega)) ?_
        have hq23 := hB0 i (by omega)
        refine addV dX8_thingAt_72 (wid (by omega) (by omega)) ?_
        exact R_iret dX8_thingAt_73 rfl (PeqI K (by rw [thS_g hi hb32 hb51]))
      · refine aL0 dX8_thingAt_54 ?_
        refine iL1 dX8_thingAt_55 ?_
        refine iL3 dX8_thingAt_56 ?_
        refine invV2 rfl dX8_thingAt_57 kX8_52 hG.tape (Nat.le_of_ble_eq_true rfl) (Nat.zero_le _) (Nat.zero_le _) (C_X8_numberOf hG hL hB hB0 (by omega) (by omega) (by rw [← hen]; exact dg_all hi hb51) (konI ?_))
        refine R_goto dX8_thingAt_60 ?_
        exact R_iret dX8_thingAt_73 rfl (PeqI K (by rw [thS_d hi hb32 hb51, hen]))
    · refine aL0 dX8_thingAt_35 ?_
      refine iL1 dX8_thingAt_36 ?_
      refine iL3 dX8_thingAt_37 ?_
      refine invV2 rfl dX8_thingAt_38 kX8_49 hG.tape (Nat.le_of_ble_eq_true rfl) (Nat.zero_le _) (Nat.zero_le _) (C_X8_wordOf hG hL hB hB0 (by omega) (by omega) (konI ?_))
      exact R_iret dX8_thingAt_41 rfl (PeqI K (by rw [thS_l hi hb32, hen]))
  · refine aL0 dX8_thingAt_9 ?_
    refine iL3 dX8_thingAt_10 ?_
    refine invV1 rfl dX8_thingAt_11 kX8_35 hG.tape (Nat.le_of_ble_eq_true rfl) (Nat.zero_le _) (Nat.zero_le _) (C_X8_goesOn hG hL hB hB0 (by omega) (konI ?_))
    refine R_ifB_eq dX8_thingAt_14 (fun hb14 => ?_) (fun hb14 => ?_)
    · have hen : enT b L i = q := by
        rw [← gOn_en hi]
        exact skL_at (by omega) (by omega) (fun k h1 h2 => hgo k h1 h2) (fun h9 => hb14)
      refine aL0 dX8_thingAt_23 ?_
      refine R_getR dX8_thingAt_24 fX8_11.r hG.tape rfl ?_
      refine iL1 dX8_thingAt_27 ?_
      refine ialdN dX8_thingAt_28 hG.t2 rfl (by omega) ?_
      refine topV (v := b i) (hB i (by omega)) ?_
      have hq24 := hB0 i (by omega)
      refine invS1 rfl dX8_thingAt_29 kX8_43 (Nat.le_of_ble_eq_true rfl) (Nat.zero_le _) (Nat.zero_le _) (C_X8_isLetter (konI ?_))
      refine R_ifB_eq dX8_thingAt_32 (fun hb32 => ?_) (fun hb32 => ?_)
      · refine aL0 dX8_thingAt_42 ?_
        refine R_getR dX8_thingAt_43 fX8_11.r hG.tape rfl ?_
        refine iL1 dX8_thingAt_46 ?_
        refine ialdN dX8_thingAt_47 hG.t2 rfl (by omega) ?_
        refine topV (v := b i) (hB i (by omega)) ?_
        have hq25 := hB0 i (by omega)
        refine invS1 rfl dX8_thingAt_48 kX8_46 (Nat.le_of_ble_eq_true rfl) (Nat.zero_le _) (Nat.zero_le _) (C_X8_isDigit (konI ?_))
        refine R_ifB_eq dX8_thingAt_51 (fun hb51 => ?_) (fun hb51 => ?_)
        · refine R_sipush dX8_thingAt_63 (by decide) ?_
          refine aL0 dX8_thingAt_66 ?_
          refine R_getR dX8_thingAt_67 fX8_11.r hG.tape rfl ?_
          refine iL1 dX8_thingAt_70 ?_
          refine ialdN dX8_thingAt_71 hG.t2 rfl (by omega) ?_
          refine topV (v := b i) (hB i (by omega)) ?_
          have hq26 := hB0 i (by omega)
          refine addV dX8_thingAt_72 (wid (by omega) (by omega)) ?_
          exact R_iret dX8_thingAt_73 rfl (PeqI K (by rw [thS_g hi hb32 hb51]))
        · refine aL0 dX8_thingAt_54 ?_
          refine iL1 dX8_thingAt_55 ?_
          refine iL3 dX8_thingAt_56 ?_
          refine invV2 rfl dX8_thingAt_57 kX8_52 hG.tape (Nat.le_of_ble_eq_true rfl) (Nat.zero_le _) (Nat.zero_le _) (C_X8_numberOf hG hL hB hB0 (by omega) (by omega) (by rw [← hen]; exact dg_all hi hb51) (konI ?_))
          refine R_goto dX8_thingAt_60 ?_
          exact R_iret dX8_thingAt_73 rfl (PeqI K (by rw [thS_d hi hb32 hb51, hen]))
      · refine aL0 dX8_thingAt_35 ?_
        refine iL1 dX8_thingAt_36 ?_
        refine iL3 dX8_thingAt_37 ?_
        refine invV2 rfl dX8_thingAt_38 kX8_49 hG.tape (Nat.le_of_ble_eq_true rfl) (Nat.zero_le _) (Nat.zero_le _) (C_X8_wordOf hG hL hB hB0 (by omega) (by omega) (konI ?_))
        exact R_iret dX8_thingAt_41 rfl (PeqI K (by rw [thS_l hi hb32, hen]))
    · refine iInc3 dX8_thingAt_17 (winc (by omega)) ?_
      refine R_goto dX8_thingAt_20 ?_
      exact eqI3 (by omega) (ihq (by omega) (by omega) (fun k h1 h2 => by
          by_cases e8 : k = q
          · subst e8; exact hb14
          · exact hgo k h1 (by omega)))
theorem opn_f {h' h3 hh : Hc} {b : Nat → Int} {L X k i : Nat} (e1 : h' (X + 3) = updH h3 (X + 3) k (-1) (X + 3)) (e2 : h' (X + 4) = updH hh (X + 4) k (L : Int) (X + 4)) (e3 : h3 (X + 3) = hh (X + 3)) (hk : stT b L k = L) (hm : ∀ m, m < k → hh (X + 3) m = thT b L m ∧ hh (X + 4) m = ((stT b L m : Nat) : Int)) (hi : i ≤ k) : h' (X + 3) i = thT b L i ∧ h' (X + 4) i = ((stT b L i : Nat) : Int) := by
  rw [e1, e2]
  by_cases e8 : i = k
  · subst e8
    rw [updH_s, updH_s, hk]
    refine ⟨?_, rfl⟩
    unfold thT thS
    rw [hk, if_pos (Nat.le_refl _)]
  · rw [updH_i e8, updH_i e8, e3]
    exact hm i (by omega)
set_option maxHeartbeats 1000000 in
theorem C_X8_open {d : Nat} {g : Gs} {h : Hc} {P : Po} {X : Nat} {b : Nat → Int} {L : Nat} (hG : ClG g X) (hL : L ≤ 400) (hB : ∀ k, k < L → h (X + 2) k = b k) (hB0 : ∀ k, k < L → 0 ≤ b k ∧ b k ≤ 255) (hN : h (X + 1) 3 = (L : Int)) (K : ∀ h' N, Off (fun a => a = X + 1 ∨ a = X + 3 ∨ a = X + 4) h h' → h' (X + 1) 3 = 0 → h' (X + 1) 5 = -1 → TpC h' X b L N 0 → P (.inl none) g h') : Call (d + 6) 0 0 mX8_open [vR (X + 1)] g h P := by
  refine Call_of rfl ⟨by decide +kernel, rfl⟩ (Nat.le_of_ble_eq_true rfl) rfl ?_
  refine aL0 dX8_open_0 ?_
  refine invV0 rfl dX8_open_1 kX8_31 hG.tape (Nat.le_of_ble_eq_true rfl) (Nat.zero_le _) (Nat.zero_le _) (C_X8_useUp hG hN (storK (fun h1 e1 => konI ?_)))
  refine iS1 dX8_open_4 ?_
  refine R_iconst_0 dX8_open_5 ?_
  refine iS2 dX8_open_6 ?_
  refine R_iconst_0 dX8_open_7 ?_
  refine iS3 dX8_open_8 ?_
  refine loopN L (fun q => ∀ (k : Nat) (hh : Hc), k ≤ q → Off (fun a => a = X + 1 ∨ a = X + 3 ∨ a = X + 4) h hh → hh (X + 1) 3 = 0 → (∀ m, m < k → stT b L m < q ∧ hh (X + 3) m = thT b L m ∧ hh (X + 4) m = ((stT b L m : Nat) : Int)) → q ≤ stT b L k → Run (d + 6) 0 0 mX8_open 9 [vR (X + 1), vI ((L : Nat) : Int), vI ((k : Nat) : Int), vI ((q : Nat) : Int)] [] g hh P) (fun q hcq ihq k hh hkq hof h30 hm hst => ?_) 0 (Nat.zero_le _) 0 h1 (Nat.le_refl _) (by rw [e1]; exact (Off.rf _ _).upd (Or.inl rfl)) (by rw [e1]; exact updH_s _ _ _ _) (fun m hm => absurd hm (Nat.not_lt_zero _)) (Nat.zero_le _)
  have hB2 : ∀ k, k < L → hh (X + 2) k = b k := fun k hk => by rw [hof (X + 2) (by omega), hB k hk]
  refine iL3 dX8_open_9 ?_
  refine iL1 dX8_open_10 ?_
  refine R_icmp_ge dX8_open_11 (fun hb11 => ?_) (fun hb11 => ?_)
  · have hkL : stT b L k = L := Nat.le_antisymm (stT_le k) (by omega)
    have hqL : q = L := by omega
    refine aL0 dX8_open_61 ?_
    refine R_getR dX8_open_62 fX8_18.r hG.tape rfl ?_
    refine iL2 dX8_open_65 ?_
    refine iL1 dX8_open_66 ?_
    refine iastN dX8_open_67 hG.t4 rfl (by omega) ?_
    refine storH (fun h21 e21 => ?_)
    refine aL0 dX8_open_68 ?_
    refine R_getR dX8_open_69 fX8_15.r hG.tape rfl ?_
    refine iL2 dX8_open_72 ?_
    refine R_iconst_m1 dX8_open_73 ?_
    refine iastN dX8_open_74 hG.t3 rfl (by omega) ?_
    refine storH (fun h22 e22 => ?_)
    refine aL0 dX8_open_75 ?_
    refine R_iconst_0 dX8_open_76 ?_
    refine R_putI dX8_open_77 fX8_25 hG.tape ?_
    refine storH (fun h23 e23 => ?_)
    refine aL0 dX8_open_80 ?_
    refine R_iconst_m1 dX8_open_81 ?_
    refine R_putI dX8_open_82 fX8_28 hG.tape ?_
    refine storH (fun h24 e24 => ?_)
    exact R_vret dX8_open_85 rfl (K _ k (by rw [e24, e23, e22, e21]; exact (((hof.upd (Or.inr (Or.inr rfl))).upd (Or.inr (Or.inl rfl))).upd (Or.inl rfl)).upd (Or.inl rfl)) (by rw [e24, updH_i (by decide), e23, updH_i (by decide), e22, updH_a (by omega), e21, updH_a (by omega)]; exact h30) (by rw [e24, updH_s]) ⟨by omega, Nat.zero_le _, hkL, fun i hi => Nat.lt_of_lt_of_le (hm i hi).1 hcq, fun i hi => opn_f (h3 := h21) (hh := hh) (by rw [e24, updH_a (by omega), e23, updH_a (by omega), e22]) (by rw [e24, updH_a (by omega), e23, updH_a (by omega), e22, updH_a (by omega), e21]) (by rw [e21, updH_a (by omega)]) hkL (fun m hm9 => (hm m hm9).2) hi, by rw [e24, updH_i (by decide), e23, updH_s]; rfl, hB0, by rw [e24, updH_s]⟩)
  · have stT_iff := stT_is (b := b) (L := L) (k := k) (i := q) (by omega) (fun m hm9 => (hm m hm9).1) hst
    refine aL0 dX8_open_14 ?_
    refine R_getR dX8_open_15 fX8_11.r hG.tape rfl ?_
    refine iL3 dX8_open_18 ?_
    refine ialdN dX8_open_19 hG.t2 rfl (by omega) ?_
    refine topV (v := b q) (hB2 q (by omega)) ?_
    have hq25 := hB0 q (by omega)
    refine R_bipush dX8_open_20 (by decide) ?_
    refine R_icmp_eq dX8_open_22 (fun hb22 => ?_) (fun hb22 => ?_)
    · have hns : ¬ (b q ≠ 32 ∧ gOn b q = false) := fun q9 => q9.1 (by omega)
      refine iInc3 dX8_open_55 (winc (by omega)) ?_
      refine R_goto dX8_open_58 ?_
      exact ihq (by omega) k hh (by omega) hof h30 (fun m hm9 => ⟨Nat.lt_succ_of_lt (hm m hm9).1, (hm m hm9).2⟩) (Nat.lt_of_le_of_ne hst (fun q9 => hns (stT_iff.mpr q9.symm)))
    · refine aL0 dX8_open_25 ?_
      refine iL3 dX8_open_26 ?_
      refine invV1 rfl dX8_open_27 kX8_35 hG.tape (Nat.le_of_ble_eq_true rfl) (Nat.zero_le _) (Nat.zero_le _) (C_X8_goesOn hG hL hB2 hB0 (by omega) (konI ?_))
      refine R_ifB_ne dX8_open_30 (fun hb30 => ?_) (fun hb30 => ?_)
      · have hns : ¬ (b q ≠ 32 ∧ gOn b q = false) := fun q9 => absurd (q9.2.symm.trans hb30) (by decide)
        refine iInc3 dX8_open_55 (winc (by omega)) ?_
        refine R_goto dX8_open_58 ?_
        exact ihq (by omega) k hh (by omega) hof h30 (fun m hm9 => ⟨Nat.lt_succ_of_lt (hm m hm9).1, (hm m hm9).2⟩) (Nat.lt_of_le_of_ne hst (fun q9 => hns (stT_iff.mpr q9.symm)))
      · refine aL0 dX8_open_33 ?_
        refine R_getR dX8_open_34 fX8_18.r hG.tape rfl ?_
        refine iL2 dX8_open_37 ?_
        refine iL3 dX8_open_38 ?_
        refine iastN dX8_open_39 hG.t4 rfl (by omega) ?_
        refine storH (fun h26 e26 => ?_)
        refine aL0 dX8_open_40 ?_
        refine R_getR dX8_open_41 fX8_15.r hG.tape rfl ?_
        refine iL2 dX8_open_44 ?_
        refine aL0 dX8_open_45 ?_
        refine iL3 dX8_open_46 ?_
        refine iL1 dX8_open_47 ?_
        refine invV2 rfl dX8_open_48 kX8_39 hG.tape (Nat.le_of_ble_eq_true rfl) (Nat.zero_le _) (Nat.zero_le _) (C_X8_thingAt hG hL (i := q) (fun k hk => by rw [e26, updH_a (by omega)]; exact hB2 k hk) hB0 (by omega) (konI ?_))
        refine iastN dX8_open_51 hG.t3 rfl (by omega) ?_
        refine storH (fun h27 e27 => ?_)
        refine iInc2 dX8_open_52 (winc (by omega)) ?_
        refine iInc3 dX8_open_55 (winc (by omega)) ?_
        refine R_goto dX8_open_58 ?_
        have hks : stT b L k = q := stT_iff.mp ⟨by omega, hb30⟩
        have hlt := stT_lt (b := b) (L := L) (k := k) (by omega)
        exact ihq (by omega) (k + 1) _ (by omega) (by rw [e27, e26]; exact (hof.upd (Or.inr (Or.inr rfl))).upd (Or.inr (Or.inl rfl))) (by rw [e27, updH_a (by omega), e26, updH_a (by omega)]; exact h30) (fun m hm9 => by
            by_cases e8 : m = k
            · subst e8
              refine ⟨by omega, ?_, ?_⟩
              · rw [e27, updH_s]; unfold thT; rw [hks]
              · rw [e27, updH_a (by omega), e26, updH_s, hks]
            · have h8 := hm m (by omega)
              refine ⟨by omega, ?_, ?_⟩
              · rw [e27, updH_i e8, e26, updH_a (by omega)]; exact h8.2.1
              · rw [e27, updH_a (by omega), e26, updH_i e8]; exact h8.2.2) (by omega)
