/-! PAIRS -/
theorem tb_nat {n k : Nat} (hk : k < 32) : tb (n : Int) k = n.testBit k := by
  unfold tb bt
  rw [ofN32]
  show (BitVec.ofNat 32 n).getLsbD k = _
  rw [BitVec.getLsbD_ofNat]
  simp [hk]
theorem bset_nset {p : Nat → Bool} {n : Nat} (hn : n ≤ 8) : bset p n = ((nset p n : Nat) : Int) := by
  have h1 := nset_lt p n
  have h2 : 2 ^ n ≤ 2 ^ 8 := Nat.pow_le_pow_right (by decide) hn
  refine tb_ext (in32_bset p n) ⟨by omega, by omega⟩ fun k hk => ?_
  rw [tb_bset hk (by omega), tb_nat hk, nset_bit]
theorem xorI_nat {a b : Nat} (ha : a < 256) (hb : b < 256) : xorI (a : Int) (b : Int) = ((a ^^^ b : Nat) : Int) := by
  have h1 : a ^^^ b < 2 ^ 8 := Nat.xor_lt_two_pow ha hb
  refine tb_ext (in32_toInt _) ⟨by omega, by omega⟩ fun k hk => ?_
  rw [tb_xor, tb_nat hk, tb_nat hk, tb_nat hk, Nat.testBit_xor]
abbrev PrS : Type := Int × (Nat → Int)
/-- ways are tried in their order: j the judge, tot what there is so far, pa the partners, b the best so far -/
def prF (wt : Nat → Nat → Int) : Nat → Nat → Int → (Nat → Int) → PrS → PrS
  | 0, _, tot, pa, b => if b.1 < tot then (tot, pa) else b
  | f + 1, j, tot, pa, b => foldN (fun i r => if pa j < 0 ∧ pa (j + 1 + i) < 0 then prF wt f (j + 1) (tot + wt j (j + 1 + i)) (updW (updW pa j ((j + 1 + i : Nat) : Int)) (j + 1 + i) j) r else r) (prF wt f (j + 1) tot pa b) f
def prS (wt : Nat → Nat → Int) (f j : Nat) (tot : Int) (pa : Nat → Int) (i : Nat) (r : PrS) : PrS := if pa j < 0 ∧ pa (j + 1 + i) < 0 then prF wt f (j + 1) (tot + wt j (j + 1 + i)) (updW (updW pa j ((j + 1 + i : Nat) : Int)) (j + 1 + i) j) r else r
theorem prF_s (wt : Nat → Nat → Int) (f j : Nat) (tot : Int) (pa : Nat → Int) (b : PrS) : prF wt (f + 1) j tot pa b = foldN (prS wt f j tot pa) (prF wt f (j + 1) tot pa b) f := rfl
theorem foldN_id {α : Type} {f : Nat → α → α} {a : α} : ∀ {n : Nat}, (∀ k, k < n → ∀ x, f k x = x) → foldN f a n = a
  | 0, _ => rfl
  | n + 1, h => by rw [foldN_s, foldN_id (fun k hk => h k (by omega)), h n (Nat.lt_succ_self n)]
theorem foldN_up {α : Type} {f : Nat → α → α} {a : α} {m : Nat} : ∀ {n : Nat}, m ≤ n → (∀ k, m ≤ k → k < n → ∀ x, f k x = x) → foldN f a n = foldN f a m := by
  intro n
  induction n with
  | zero => intro h _; rw [show m = 0 by omega]
  | succ n ih =>
    intro h hk
    by_cases e : m = n + 1
    · rw [e]
    · rw [foldN_s, ih (by omega) (fun k h1 h2 => hk k h1 (by omega)), hk n (by omega) (Nat.lt_succ_self n)]
theorem prF_best {wt : Nat → Nat → Int} : ∀ (f j : Nat) (tot : Int) (pa : Nat → Int) (b b2 : PrS), b.1 = b2.1 → b.1 < tot → prF wt f j tot pa b = prF wt f j tot pa b2 := by
  intro f
  induction f with
  | zero => intro j tot pa b b2 h1 h2; unfold prF; rw [if_pos h2, if_pos (by omega)]
  | succ f ih => intro j tot pa b b2 h1 h2; rw [prF_s, prF_s, ih (j + 1) tot pa b b2 h1 h2]
/-- the cases that wait and that a judge frees now -/
def frS (w : Nat → Int) (j : Nat) : Nat := nset (fun c => decide (w (104 + 7 * c) = 0) && frN w c j) (w 1).toNat
theorem frS_lt {w : Nat → Int} (hf : WF w) (j : Nat) : frS w j < 256 := by
  have h1 := nset_lt (fun c => decide (w (104 + 7 * c) = 0) && frN w c j) (w 1).toNat
  have h2 : 2 ^ (w 1).toNat ≤ 2 ^ 8 := Nat.pow_le_pow_right (by decide) (by have := hf.cas; omega)
  unfold frS
  omega
def wtW (w : Nat → Int) (a b : Nat) : Int := ((pc8 (frS w a ^^^ frS w b) : Nat) : Int)
theorem pc8_le (k : Nat) : pc8 k ≤ 8 := cntB_le _ 8
def prs (m : Nat) : Nat → Prop := fun q => q = m ∨ q = m + 4 ∨ q = m + 5
set_option maxHeartbeats 1000000 in
theorem C_X5_pairFrom {m t c r : Nat} {w : Nat → Int} {g : Gs} : ∀ (f j d : Nat) (tot : Int) (pa : Nat → Int) (b : PrS) (h : Hc) (P : Po), Mt g h m t c r w → w 0 = ((j + f : Nat) : Int) → (0 ≤ tot ∧ tot ≤ 8 * j) → (∀ i, i < 5 → h (m + 4) i = pa i) → (∀ i, i < 5 → -1 ≤ pa i) → (∀ i : Nat, (i : Int) < w 0 → h (m + 3) i = ((frS w i : Nat) : Int)) → h m 7 = b.1 → (∀ i, i < 5 → h (m + 5) i = b.2 i) → (∀ h', Off (prs m) h h' → (∀ i, i < 5 → h' (m + 4) i = pa i) → h' m 7 = (prF (wtW w) f j tot pa b).1 → (∀ i, i < 5 → h' (m + 5) i = (prF (wtW w) f j tot pa b).2 i) → P (.inl none) g h') → Call (d + f + 1) 0 0 mX5_pairFrom [vR m, vI ((j : Nat) : Int), vI tot] g h P := by
  intro f
  induction f with
  | zero =>
    intro j d tot pa b h P hM hj ht hp0 hpn hf0 hb0 hq0 K
    have hjd := hM.wf.jud
    have hM0 := hM
    refine Call_of rfl ⟨by decide +kernel, rfl⟩ (Nat.le_of_ble_eq_true rfl) rfl ?_
    refine iL1 dX5_pairFrom_0 ?_
    refine aL0 dX5_pairFrom_1 ?_
    refine R_getR dX5_pairFrom_2 fX5_32.r hM.o rfl ?_
    refine R_getI dX5_pairFrom_5 fX5_61.r hM.tg.o ?_
    refine topV (v := w 0) (hM0.tw.s0) ?_
    have hq1 := hM.wf.jud
    refine R_icmp_lt dX5_pairFrom_8 (fun hb8 => ?_) (fun hb8 => ?_)
    · exfalso; omega
    · refine iL2 dX5_pairFrom_11 ?_
      refine aL0 dX5_pairFrom_12 ?_
      refine R_getI dX5_pairFrom_13 fX5_28.r hM.o ?_
      refine topV (v := b.1) (hb0) ?_
      refine R_icmp_le dX5_pairFrom_16 (fun hb16 => ?_) (fun hb16 => ?_)
      · exact R_vret dX5_pairFrom_38 rfl (K _ (Off.rf _ _) hp0 (by unfold prF; rw [if_neg (by omega)]; exact hb0) (fun i hi => by unfold prF; rw [if_neg (by omega)]; exact hq0 i hi))
      · refine aL0 dX5_pairFrom_19 ?_
        refine iL2 dX5_pairFrom_20 ?_
        refine R_putI dX5_pairFrom_21 fX5_28 hM.o ?_
        refine storH (fun h2 e2 => ?_)
        refine aL0 dX5_pairFrom_24 ?_
        refine R_getR dX5_pairFrom_25 fX5_22.r hM.o rfl ?_
        refine R_iconst_0 dX5_pairFrom_28 ?_
        refine aL0 dX5_pairFrom_29 ?_
        refine R_getR dX5_pairFrom_30 fX5_25.r hM.o rfl ?_
        refine R_iconst_0 dX5_pairFrom_33 ?_
        refine R_iconst_5 dX5_pairFrom_34 ?_
        refine R_acopy dX5_pairFrom_35 kX5_127 lb_cpy hM.a5 hM.a4 (by decide) (Nat.le_of_ble_eq_true rfl) ?_
        refine storH (fun h3 e3 => ?_)
        exact R_vret dX5_pairFrom_38 rfl (K _ (fun a ha => by rw [e3, setH_a (fun q => ha (Or.inr (Or.inr q))), e2, updH_a (fun q => ha (Or.inl q))]) (fun i hi => by rw [e3, setH_a (by omega), e2, updH_a (by omega)]; exact hp0 i hi) (by unfold prF; rw [if_pos (by omega), e3, setH_a (by omega), e2, updH_s]) (fun i hi => by unfold prF; rw [if_pos (by omega), e3, setH_s]; show (if (i : Int) < 5 then _ else _) = _; rw [if_pos (by omega), e2, updH_a (by omega)]; exact hp0 i hi))
  | succ f ih =>
    intro j d tot pa b h P hM hj ht hp0 hpn hf0 hb0 hq0 K
    have hjd := hM.wf.jud
    have hM0 := hM
    refine Call_of rfl ⟨by decide +kernel, rfl⟩ (Nat.le_of_ble_eq_true rfl) rfl ?_
    refine iL1 dX5_pairFrom_0 ?_
    refine aL0 dX5_pairFrom_1 ?_
    refine R_getR dX5_pairFrom_2 fX5_32.r hM.o rfl ?_
    refine R_getI dX5_pairFrom_5 fX5_61.r hM.tg.o ?_
    refine topV (v := w 0) (hM0.tw.s0) ?_
    have hq1 := hM.wf.jud
    refine R_icmp_lt dX5_pairFrom_8 (fun hb8 => ?_) (fun hb8 => ?_)
    · refine aL0 dX5_pairFrom_39 ?_
      refine iL1 dX5_pairFrom_40 ?_
      refine R_iconst_1 dX5_pairFrom_41 ?_
      refine addV dX5_pairFrom_42 (v := (((j + 1) : Nat) : Int)) (by rw [wid (by omega) (by omega)]; omega) ?_
      refine iL2 dX5_pairFrom_43 ?_
      refine invV2 rfl dX5_pairFrom_44 kX5_123 hM.o (Nat.le_of_ble_eq_true rfl) (Nat.zero_le _) (Nat.zero_le _) (ih (j + 1) d tot pa b h _ hM (by omega) (by omega) hp0 hpn hf0 hb0 hq0 (fun h2 hx2 hp2 hb2 hq2 => konV ?_))
      have hO2 : Off (mts m c r) h h2 := hx2.mono (fun q hq => Or.inl (by unfold prs at hq; omega))
      have hM2 := hM.off hO2
      have hf2 : ∀ a : Nat, (a : Int) < w 0 → h2 (m + 3) a = ((frS w a : Nat) : Int) := fun a ha => by rw [hx2 _ (by unfold prs; omega)]; exact hf0 a ha
      refine iL1 dX5_pairFrom_47 ?_
      refine R_iconst_1 dX5_pairFrom_48 ?_
      refine addV dX5_pairFrom_49 (v := (((j + 1) : Nat) : Int)) (by rw [wid (by omega) (by omega)]; omega) ?_
      refine iS3 dX5_pairFrom_50 ?_
      refine loopN (f) (fun i => ∀ hK : Hc, Off (prs m) h hK → (∀ a, a < 5 → hK (m + 4) a = pa a) → hK m 7 = (foldN (prS (wtW w) f j tot pa) (prF (wtW w) f (j + 1) tot pa b) i).1 → (∀ a, a < 5 → hK (m + 5) a = (foldN (prS (wtW w) f j tot pa) (prF (wtW w) f (j + 1) tot pa b) i).2 a) → Run (d + (f + 1) + 1) 0 0 mX5_pairFrom 51 [vR m, vI ((j : Nat) : Int), vI tot, vI (((j + 1 + i) : Nat) : Int)] [] g hK P) (fun i hcni ihi hK hxK hpK hbK hqK => ?_) (0) (Nat.zero_le _) _ hx2 hp2 hb2 hq2
      have hMK := hM.off (hxK.mono (fun q hq => Or.inl (by unfold prs at hq; omega)) : Off (mts m c r) h hK)
      have hfK : ∀ i : Nat, (i : Int) < w 0 → hK (m + 3) i = ((frS w i : Nat) : Int) := fun i hi => by rw [hxK _ (by unfold prs; omega)]; exact hf0 i hi
      have hwl := pc8_le (frS w j ^^^ frS w (j + 1 + i))
      refine iL3 dX5_pairFrom_51 ?_
      refine aL0 dX5_pairFrom_52 ?_
      refine R_getR dX5_pairFrom_53 fX5_32.r hM.o rfl ?_
      refine R_getI dX5_pairFrom_56 fX5_61.r hM.tg.o ?_
      refine topV (v := w 0) (hMK.tw.s0) ?_
      have hq3 := hM.wf.jud
      refine R_icmp_ge dX5_pairFrom_59 (fun hb59 => ?_) (fun hb59 => ?_)
      · have e9 : i = f := by omega
        subst e9
        exact R_vret dX5_pairFrom_139 rfl (K _ hxK hpK (by rw [prF_s]; first | exact hbK | (rw [foldN_up (m := i) (by omega) (fun k h1 h2 x => by unfold prS; rw [if_neg (fun q9 => by omega)])]; exact hbK)) (fun a ha => by rw [prF_s]; first | exact hqK a ha | (rw [foldN_up (m := i) (by omega) (fun k h1 h2 x => by unfold prS; rw [if_neg (fun q9 => by omega)])]; exact hqK a ha)))
      · refine aL0 dX5_pairFrom_62 ?_
        refine R_getR dX5_pairFrom_63 fX5_22.r hM.o rfl ?_
        refine iL1 dX5_pairFrom_66 ?_
        refine ialdN dX5_pairFrom_67 hM.a4 rfl (by omega) ?_
        refine topV (v := pa j) (hpK j (by omega)) ?_
        refine R_if_ge dX5_pairFrom_68 (fun hb68 => ?_) (fun hb68 => ?_)
        · exact R_vret dX5_pairFrom_139 rfl (K _ hxK hpK (by rw [prF_s]; first | exact hbK | (rw [foldN_up (m := i) (by omega) (fun k h1 h2 x => by unfold prS; rw [if_neg (fun q9 => by omega)])]; exact hbK)) (fun a ha => by rw [prF_s]; first | exact hqK a ha | (rw [foldN_up (m := i) (by omega) (fun k h1 h2 x => by unfold prS; rw [if_neg (fun q9 => by omega)])]; exact hqK a ha)))
        · refine aL0 dX5_pairFrom_71 ?_
          refine R_getR dX5_pairFrom_72 fX5_22.r hM.o rfl ?_
          refine iL3 dX5_pairFrom_75 ?_
          refine ialdN dX5_pairFrom_76 hM.a4 rfl (by omega) ?_
          refine topV (v := pa (j + 1 + i)) (hpK (j + 1 + i) (by omega)) ?_
          refine R_if_ge dX5_pairFrom_77 (fun hb77 => ?_) (fun hb77 => ?_)
          · refine iInc3 dX5_pairFrom_133 (winc (by omega)) ?_
            refine R_goto dX5_pairFrom_136 ?_
            exact ihi (by omega) _ hxK hpK (by rw [foldN_s]; unfold prS; rw [if_neg (by omega)]; exact hbK) (fun a ha => by rw [foldN_s]; unfold prS; rw [if_neg (by omega)]; exact hqK a ha)
          · refine aL0 dX5_pairFrom_80 ?_
            refine R_getR dX5_pairFrom_81 fX5_22.r hM.o rfl ?_
            refine iL1 dX5_pairFrom_84 ?_
            refine iL3 dX5_pairFrom_85 ?_
            refine iastN dX5_pairFrom_86 hM.a4 rfl (by omega) ?_
            refine storH (fun h4 e4 => ?_)
            have hxo4 : Off (prs m) h h4 := by rw [e4]; exact hxK.upd (Or.inr (Or.inl rfl))
            have hM4 := hM.off (hxo4.mono (fun q hq => Or.inl (by unfold prs at hq; omega)) : Off (mts m c r) h h4)
            have hp4 : ∀ a, a < 5 → h4 (m + 4) a = (updW pa j (((j + 1 + i) : Nat) : Int)) a := fun a ha => by rw [e4, updH_r]; exact updW_cong (hpK a ha)
            have hf4 : ∀ a : Nat, (a : Int) < w 0 → h4 (m + 3) a = ((frS w a : Nat) : Int) := fun a ha => by rw [e4, updH_a (by omega)]; exact hfK a ha
            have hb4 : h4 m 7 = (foldN (prS (wtW w) f j tot pa) (prF (wtW w) f (j + 1) tot pa b) i).1 := by rw [e4, updH_a (by omega)]; exact hbK
            have hq4 : ∀ a, a < 5 → h4 (m + 5) a = (foldN (prS (wtW w) f j tot pa) (prF (wtW w) f (j + 1) tot pa b) i).2 a := fun a ha => by rw [e4, updH_a (by omega)]; exact hqK a ha
            refine aL0 dX5_pairFrom_87 ?_
            refine R_getR dX5_pairFrom_88 fX5_22.r hM.o rfl ?_
            refine iL3 dX5_pairFrom_91 ?_
            refine iL1 dX5_pairFrom_92 ?_
            refine iastN dX5_pairFrom_93 hM.a4 rfl (by omega) ?_
            refine storH (fun h5 e5 => ?_)
            have hxo5 : Off (prs m) h h5 := by rw [e5]; exact hxo4.upd (Or.inr (Or.inl rfl))
            have hM5 := hM.off (hxo5.mono (fun q hq => Or.inl (by unfold prs at hq; omega)) : Off (mts m c r) h h5)
            have hp5 : ∀ a, a < 5 → h5 (m + 4) a = (updW (updW pa j (((j + 1 + i) : Nat) : Int)) (j + 1 + i) ((j : Nat) : Int)) a := fun a ha => by rw [e5, updH_r]; exact updW_cong (hp4 a ha)
            have hf5 : ∀ a : Nat, (a : Int) < w 0 → h5 (m + 3) a = ((frS w a : Nat) : Int) := fun a ha => by rw [e5, updH_a (by omega)]; exact hf4 a ha
            have hb5 : h5 m 7 = (foldN (prS (wtW w) f j tot pa) (prF (wtW w) f (j + 1) tot pa b) i).1 := by rw [e5, updH_a (by omega)]; exact hb4
            have hq5 : ∀ a, a < 5 → h5 (m + 5) a = (foldN (prS (wtW w) f j tot pa) (prF (wtW w) f (j + 1) tot pa b) i).2 a := fun a ha => by rw [e5, updH_a (by omega)]; exact hq4 a ha
            refine aL0 dX5_pairFrom_94 ?_
            refine iL1 dX5_pairFrom_95 ?_
            refine R_iconst_1 dX5_pairFrom_96 ?_
            refine addV dX5_pairFrom_97 (v := (((j + 1) : Nat) : Int)) (by rw [wid (by omega) (by omega)]; omega) ?_
            refine iL2 dX5_pairFrom_98 ?_
            refine aL0 dX5_pairFrom_99 ?_
            refine R_getR dX5_pairFrom_100 fX5_19.r hM.o rfl ?_
            refine iL1 dX5_pairFrom_103 ?_
            refine ialdN dX5_pairFrom_104 hM.a3 rfl (by omega) ?_
            refine topV (v := ((frS w j : Nat) : Int)) (hf5 j (by omega)) ?_
            refine aL0 dX5_pairFrom_105 ?_
            refine R_getR dX5_pairFrom_106 fX5_19.r hM.o rfl ?_
            refine iL3 dX5_pairFrom_109 ?_
            refine ialdN dX5_pairFrom_110 hM.a3 rfl (by omega) ?_
            refine topV (v := ((frS w (j + 1 + i) : Nat) : Int)) (hf5 (j + 1 + i) (by omega)) ?_
            refine R_ixor dX5_pairFrom_111 ?_
            refine topV (v := ((frS w j ^^^ frS w (j + 1 + i) : Nat) : Int)) (xorI_nat (frS_lt hM.wf _) (frS_lt hM.wf _)) ?_
            refine invS1 rfl dX5_pairFrom_112 kX5_86 (Nat.le_of_ble_eq_true rfl) (Nat.zero_le _) (Nat.zero_le _) (C_J6_bitCount_0f7a4 (Nat.xor_lt_two_pow (n := 8) (frS_lt hM.wf _) (frS_lt hM.wf _)) (konI ?_))
            have hwt : 0 ≤ wtW w j (j + 1 + i) ∧ wtW w j (j + 1 + i) ≤ 8 := by unfold wtW; omega
            refine addV dX5_pairFrom_115 (wid (by omega) (by omega)) ?_
            refine topV (v := tot + wtW w j (j + 1 + i)) (rfl) ?_
            refine invV2 rfl dX5_pairFrom_116 kX5_123 hM.o (Nat.le_of_ble_eq_true rfl) (Nat.zero_le _) (Nat.zero_le _) (ih (j + 1) d (tot + wtW w j (j + 1 + i)) (updW (updW pa j ((j + 1 + i : Nat) : Int)) (j + 1 + i) j) (foldN (prS (wtW w) f j tot pa) (prF (wtW w) f (j + 1) tot pa b) i) h5 _ hM5 (by omega) (by omega) hp5 (fun a ha => by have := hpn a ha; simp only [updW]; (repeat' split) <;> omega) hf5 hb5 hq5 (fun h6 hx6 hp6 hb6 hq6 => konV ?_))
            have hx6 : Off (prs m) h h6 := hxo5.tr hx6
            have hM6 := hM.off (hx6.mono (fun q hq => Or.inl (by unfold prs at hq; omega)))
            have hf6 : ∀ a : Nat, (a : Int) < w 0 → h6 (m + 3) a = ((frS w a : Nat) : Int) := fun a ha => by rw [hx6 _ (by unfold prs; omega)]; exact hf0 a ha
            refine aL0 dX5_pairFrom_119 ?_
            refine R_getR dX5_pairFrom_120 fX5_22.r hM.o rfl ?_
            refine iL1 dX5_pairFrom_123 ?_
            refine R_iconst_m1 dX5_pairFrom_124 ?_
            refine iastN dX5_pairFrom_125 hM.a4 rfl (by omega) ?_
            refine storH (fun h7 e7 => ?_)
            have hxo7 : Off (prs m) h h7 := by rw [e7]; exact hx6.upd (Or.inr (Or.inl rfl))
            have hM7 := hM.off (hxo7.mono (fun q hq => Or.inl (by unfold prs at hq; omega)) : Off (mts m c r) h h7)
            have hp7 : ∀ a, a < 5 → h7 (m + 4) a = (updW (updW (updW pa j ((j + 1 + i : Nat) : Int)) (j + 1 + i) j) j (-1)) a := fun a ha => by rw [e7, updH_r]; exact updW_cong (hp6 a ha)
            have hf7 : ∀ a : Nat, (a : Int) < w 0 → h7 (m + 3) a = ((frS w a : Nat) : Int) := fun a ha => by rw [e7, updH_a (by omega)]; exact hf6 a ha
            have hb7 : h7 m 7 = (prF (wtW w) f (j + 1) (tot + wtW w j (j + 1 + i)) (updW (updW pa j ((j + 1 + i : Nat) : Int)) (j + 1 + i) j) (foldN (prS (wtW w) f j tot pa) (prF (wtW w) f (j + 1) tot pa b) i)).1 := by rw [e7, updH_a (by omega)]; exact hb6
            have hq7 : ∀ a, a < 5 → h7 (m + 5) a = (prF (wtW w) f (j + 1) (tot + wtW w j (j + 1 + i)) (updW (updW pa j ((j + 1 + i : Nat) : Int)) (j + 1 + i) j) (foldN (prS (wtW w) f j tot pa) (prF (wtW w) f (j + 1) tot pa b) i)).2 a := fun a ha => by rw [e7, updH_a (by omega)]; exact hq6 a ha
            refine aL0 dX5_pairFrom_126 ?_
            refine R_getR dX5_pairFrom_127 fX5_22.r hM.o rfl ?_
            refine iL3 dX5_pairFrom_130 ?_
            refine R_iconst_m1 dX5_pairFrom_131 ?_
            refine iastN dX5_pairFrom_132 hM.a4 rfl (by omega) ?_
            refine storH (fun h8 e8 => ?_)
            have hxo8 : Off (prs m) h h8 := by rw [e8]; exact hxo7.upd (Or.inr (Or.inl rfl))
            have hM8 := hM.off (hxo8.mono (fun q hq => Or.inl (by unfold prs at hq; omega)) : Off (mts m c r) h h8)
            have hp8 : ∀ a, a < 5 → h8 (m + 4) a = (updW (updW (updW (updW pa j ((j + 1 + i : Nat) : Int)) (j + 1 + i) j) j (-1)) (j + 1 + i) (-1)) a := fun a ha => by rw [e8, updH_r]; exact updW_cong (hp7 a ha)
            have hf8 : ∀ a : Nat, (a : Int) < w 0 → h8 (m + 3) a = ((frS w a : Nat) : Int) := fun a ha => by rw [e8, updH_a (by omega)]; exact hf7 a ha
            have hb8 : h8 m 7 = (prF (wtW w) f (j + 1) (tot + wtW w j (j + 1 + i)) (updW (updW pa j ((j + 1 + i : Nat) : Int)) (j + 1 + i) j) (foldN (prS (wtW w) f j tot pa) (prF (wtW w) f (j + 1) tot pa b) i)).1 := by rw [e8, updH_a (by omega)]; exact hb7
            have hq8 : ∀ a, a < 5 → h8 (m + 5) a = (prF (wtW w) f (j + 1) (tot + wtW w j (j + 1 + i)) (updW (updW pa j ((j + 1 + i : Nat) : Int)) (j + 1 + i) j) (foldN (prS (wtW w) f j tot pa) (prF (wtW w) f (j + 1) tot pa b) i)).2 a := fun a ha => by rw [e8, updH_a (by omega)]; exact hq7 a ha
            refine iInc3 dX5_pairFrom_133 (winc (by omega)) ?_
            refine R_goto dX5_pairFrom_136 ?_
            exact ihi (by omega) _ hxo8 (fun a ha => by rw [hp8 a ha]; simp only [updW]; (repeat' split) <;> first | rfl | omega | (rename_i q9; rw [q9]; have := hpn j (by omega); omega) | (rename_i q9; rw [q9]; have := hpn (j + 1 + i) (by omega); omega)) (by rw [foldN_s]; unfold prS; rw [if_pos ⟨by omega, by omega⟩]; exact hb8) (fun a ha => by rw [foldN_s]; unfold prS; rw [if_pos ⟨by omega, by omega⟩]; exact hq8 a ha)
    · exfalso; omega
theorem Call_d {a b mc ms : Nat} {y : Mth} {av : List AV} {g : Gs} {h : Hc} {P : Po} (e : a = b) (K : Call b mc ms y av g h P) : Call a mc ms y av g h P := e ▸ K
def frQ (w : Nat → Int) (j c : Nat) : Bool := decide (w (104 + 7 * c) = 0) && frN w c j
theorem nset8 (p : Nat → Bool) {n : Nat} (hn : n ≤ 8) : nset p n < 256 := by
  have h1 := nset_lt p n
  have h2 : 2 ^ n ≤ 2 ^ 8 := Nat.pow_le_pow_right (by decide) hn
  omega
theorem tb_wait {w : Nat → Int} {c : Nat} (hn : w 1 ≤ 8) (hc : (c : Int) < w 1) : tb (inSt w 0) c = decide (w (104 + 7 * c) = 0) := by
  unfold inSt
  rw [tb_bset (by omega) (by omega)]
  simp [inStP]
  omega
def prW (w : Nat → Int) : PrS := prF (wtW w) (w 0).toNat 0 0 (fun _ => -1) ((-1 : Int), fun _ => -1)
set_option maxHeartbeats 400000 in
theorem C_X5_pairAll {d : Nat} {g : Gs} {h : Hc} {P : Po} {m t c r : Nat} {w : Nat → Int} (hM : Mt g h m t c r w) (K : ∀ h', Off (mts m c r) h h' → h' m 7 = (prW w).1 → (∀ i, i < 5 → h' (m + 5) i = (prW w).2 i) → P (.inl none) g h') : Call (d + 7) 0 0 mX5_pairAll [vR m] g h P := by
  have hcs := hM.wf.cas
  have hho := hM.wf.hou
  have hjd := hM.wf.jud
  refine Call_of rfl ⟨by decide +kernel, rfl⟩ (Nat.le_of_ble_eq_true rfl) rfl ?_
  have hO0 : Off (mts m c r) h h := Off.rf _ _
  refine aL0 dX5_pairAll_0 ?_
  refine R_getR dX5_pairAll_1 fX5_32.r hM.o rfl ?_
  refine R_iconst_0 dX5_pairAll_4 ?_
  refine invV1 rfl dX5_pairAll_5 kX5_40 hM.tg.o (Nat.le_of_ble_eq_true rfl) (Nat.zero_le _) (Nat.zero_le _) (C_X10_inState hM.tg hM.tw hM.wf (konI ?_))
  refine iS1 dX5_pairAll_8 ?_
  refine R_iconst_0 dX5_pairAll_9 ?_
  refine iS2 dX5_pairAll_10 ?_
  refine loopN ((w 0).toNat) (fun q => ∀ (v3 : AV) (hA : Hc), Off (mts m c r) h hA → (∀ i, i < q → hA (m + 3) i = ((frS w i : Nat) : Int)) → Run (d + 7) 0 0 mX5_pairAll 11 [vR m, vI (inSt w 0), vI ((q : Nat) : Int), v3] [] g hA P) (fun q hcnq ihq v3 hA hOA hpA => ?_) (0) (Nat.zero_le _) _ h hO0 (fun i hi => absurd hi (Nat.not_lt_zero _))
  have hMA := hM.off hOA
  refine iL2 dX5_pairAll_11 ?_
  refine aL0 dX5_pairAll_12 ?_
  refine R_getR dX5_pairAll_13 fX5_32.r hM.o rfl ?_
  refine R_getI dX5_pairAll_16 fX5_61.r hM.tg.o ?_
  refine topV (v := w 0) (hMA.tw.s0) ?_
  have hq1 := hM.wf.jud
  refine R_icmp_ge dX5_pairAll_19 (fun hb19 => ?_) (fun hb19 => ?_)
  · have e9 : q = (w 0).toNat := by omega
    subst e9
    refine aL0 dX5_pairAll_86 ?_
    refine R_getR dX5_pairAll_87 fX5_22.r hM.o rfl ?_
    refine R_iconst_m1 dX5_pairAll_90 ?_
    refine invS2 rfl dX5_pairAll_91 kX5_90 (Nat.le_of_ble_eq_true rfl) (Nat.zero_le _) (Nat.zero_le _) (C_J7_fill_53178 hM.a4 (by omega) (fun h2 hx2 hv2 => konV ?_))
    have hO2 : Off (mts m c r) h h2 := hOA.tr (hx2.mono (fun q hq => Or.inl (by omega)))
    have hM2 := hM.off hO2
    refine aL0 dX5_pairAll_94 ?_
    refine R_iconst_m1 dX5_pairAll_95 ?_
    refine R_putI dX5_pairAll_96 fX5_28 hM.o ?_
    refine storH (fun h3 e3 => ?_)
    have hO3 : Off (mts m c r) h h3 := by rw [e3]; exact hO2.upd (Or.inl (by omega))
    have hM3 := hM.off hO3
    refine aL0 dX5_pairAll_99 ?_
    refine R_iconst_0 dX5_pairAll_100 ?_
    refine R_iconst_0 dX5_pairAll_101 ?_
    have hff : ∀ i : Nat, (i : Int) < w 0 → h3 (m + 3) i = ((frS w i : Nat) : Int) := fun i hi => by rw [e3, updH_a (by omega), hx2 _ (by omega)]; exact hpA i (by omega)
    have hdd : d + 6 = (d + (5 - (w 0).toNat)) + (w 0).toNat + 1 := by omega
    refine invV2 rfl dX5_pairAll_102 kX5_123 hM.o (Nat.le_of_ble_eq_true rfl) (Nat.zero_le _) (Nat.zero_le _) (Call_d hdd (C_X5_pairFrom (w 0).toNat 0 (d + (5 - (w 0).toNat)) 0 (fun _ => -1) ((-1 : Int), fun i => h3 (m + 5) i) h3 _ hM3 (by omega) (by omega) (fun i hi => by rw [e3, updH_a (by omega)]; exact hv2 i hi) (fun i hi => by show (-1 : Int) ≤ -1; omega) hff (by rw [e3, updH_s]) (fun i hi => rfl) (fun h9 hx9 hp9 hb9 hq9 => konV ?_)))
    have hO9 : Off (mts m c r) h h9 := hO3.tr (hx9.mono (fun q hq => Or.inl (by unfold prs at hq; omega)))
    have hE9 : prF (wtW w) (w 0).toNat 0 0 (fun _ => -1) ((-1 : Int), fun i => h3 (m + 5) i) = prW w := prF_best _ _ _ _ _ _ rfl (by show (-1 : Int) < 0; omega)
    rw [hE9] at hb9 hq9
    exact R_vret dX5_pairAll_105 rfl (K _ hO9 hb9 hq9)
  · refine aL0 dX5_pairAll_22 ?_
    refine R_getR dX5_pairAll_23 fX5_19.r hM.o rfl ?_
    refine iL2 dX5_pairAll_26 ?_
    refine R_iconst_0 dX5_pairAll_27 ?_
    refine iastN dX5_pairAll_28 hM.a3 rfl (by omega) ?_
    refine storH (fun h4 e4 => ?_)
    have hO4 : Off (mts m c r) h h4 := by rw [e4]; exact hOA.upd (Or.inl (by omega))
    have hM4 := hM.off hO4
    have hp4 : ∀ i, i < q → h4 (m + 3) i = ((frS w i : Nat) : Int) := fun i hi => by rw [e4, updH_i (by omega)]; exact hpA i hi
    have hq4 : h4 (m + 3) q = 0 := by rw [e4, updH_s]
    refine R_iconst_0 dX5_pairAll_29 ?_
    refine iS3 dX5_pairAll_30 ?_
    refine loopN ((w 1).toNat) (fun k => ∀ hB : Hc, Off (mts m c r) h hB → (∀ i, i < q → hB (m + 3) i = ((frS w i : Nat) : Int)) → hB (m + 3) q = ((nset (frQ w q) k : Nat) : Int) → Run (d + 7) 0 0 mX5_pairAll 31 [vR m, vI (inSt w 0), vI ((q : Nat) : Int), vI ((k : Nat) : Int)] [] g hB P) (fun k hcnk ihk hB hOB hpB hqB => ?_) (0) (Nat.zero_le _) _ hO4 hp4 hq4
    have hMB := hM.off hOB
    refine iL3 dX5_pairAll_31 ?_
    refine aL0 dX5_pairAll_32 ?_
    refine R_getR dX5_pairAll_33 fX5_32.r hM.o rfl ?_
    refine R_getI dX5_pairAll_36 fX5_46.r hM.tg.o ?_
    refine topV (v := w 1) (hMB.tw.s1) ?_
    have hq5 := hM.wf.cas
    refine R_icmp_ge dX5_pairAll_39 (fun hb39 => ?_) (fun hb39 => ?_)
    · refine iInc2 dX5_pairAll_80 (winc (by omega)) ?_
      refine R_goto dX5_pairAll_83 ?_
      exact ihq (by omega) _ _ hOB (fun i hi => by
          by_cases e9 : i = q
          · subst e9; rw [hqB, show k = (w 1).toNat by omega]; rfl
          · exact hpB i (by omega))
    · refine iL1 dX5_pairAll_42 ?_
      refine iL3 dX5_pairAll_43 ?_
      refine R_ishr dX5_pairAll_44 ?_
      refine R_iconst_1 dX5_pairAll_45 ?_
      refine R_iand dX5_pairAll_46 ?_
      refine topV (bitB (by omega)) ?_
      refine R_ifB_eq dX5_pairAll_47 (fun hb47 => ?_) (fun hb47 => ?_)
      · refine iInc3 dX5_pairAll_74 (winc (by omega)) ?_
        refine R_goto dX5_pairAll_77 ?_
        exact ihk (by omega) _ hOB hpB (by rw [hqB]; first | (rw [nset_f (by unfold frQ; rw [tb_wait (by omega) (by omega)] at hb47; rw [hb47]; rfl)]; done) | (rw [nset_f (by unfold frQ; rw [hb59]; simp)]; done) | (rw [(or2n _ (nset8 _ (by omega)) k (by omega)).1, nset_t (by unfold frQ; rw [tb_wait (by omega) (by omega)] at hb47; rw [hb47, hb59]; rfl)]; done))
      · refine aL0 dX5_pairAll_50 ?_
        refine R_getR dX5_pairAll_51 fX5_36.r hM.o rfl ?_
        refine iL2 dX5_pairAll_54 ?_
        refine iL3 dX5_pairAll_55 ?_
        refine invV2 rfl dX5_pairAll_56 kX5_119 hM.ct.ct (Nat.le_of_ble_eq_true rfl) (Nat.zero_le _) (Nat.zero_le _) (C_X1_freesNow hMB.ct (by omega) (by omega) (fun h6 hx6 => konI ?_))
        have hO6 := hOB.tr (hx6.scrM (m := m))
        have hM6 := hM.off hO6
        have hp6 : ∀ i, i < q → h6 (m + 3) i = ((frS w i : Nat) : Int) := fun i hi => by rw [hMB.keep hx6 (i := 3) (by omega)]; exact hpB i hi
        have hq6 : h6 (m + 3) q = ((nset (frQ w q) k : Nat) : Int) := by rw [hMB.keep hx6 (i := 3) (by omega)]; exact hqB
        refine R_ifB_eq dX5_pairAll_59 (fun hb59 => ?_) (fun hb59 => ?_)
        · refine iInc3 dX5_pairAll_74 (winc (by omega)) ?_
          refine R_goto dX5_pairAll_77 ?_
          exact ihk (by omega) _ hO6 hp6 (by rw [hq6]; first | (rw [nset_f (by unfold frQ; rw [tb_wait (by omega) (by omega)] at hb47; rw [hb47]; rfl)]; done) | (rw [nset_f (by unfold frQ; rw [hb59]; simp)]; done) | (rw [(or2n _ (nset8 _ (by omega)) k (by omega)).1, nset_t (by unfold frQ; rw [tb_wait (by omega) (by omega)] at hb47; rw [hb47, hb59]; rfl)]; done))
        · refine aL0 dX5_pairAll_62 ?_
          refine R_getR dX5_pairAll_63 fX5_19.r hM.o rfl ?_
          refine iL2 dX5_pairAll_66 ?_
          refine dup2IR dX5_pairAll_67 ?_
          refine ialdN dX5_pairAll_68 hM.a3 rfl (by omega) ?_
          refine topV (v := ((nset (frQ w q) k : Nat) : Int)) (hq6) ?_
          refine R_iconst_1 dX5_pairAll_69 ?_
          refine iL3 dX5_pairAll_70 ?_
          refine R_ishl dX5_pairAll_71 ?_
          refine R_ior dX5_pairAll_72 ?_
          refine iastN dX5_pairAll_73 hM.a3 rfl (by omega) ?_
          refine storH (fun h7 e7 => ?_)
          have hO7 : Off (mts m c r) h h7 := by rw [e7]; exact hO6.upd (Or.inl (by omega))
          have hM7 := hM.off hO7
          have hp7 : ∀ i, i < q → h7 (m + 3) i = ((frS w i : Nat) : Int) := fun i hi => by rw [e7, updH_i (by omega)]; exact hp6 i hi
          have hq7 : h7 (m + 3) q = (orI (((nset (frQ w q) k : Nat) : Int)) (shlI 1 ((k : Nat) : Int))) := by rw [e7, updH_s]
          refine iInc3 dX5_pairAll_74 (winc (by omega)) ?_
          refine R_goto dX5_pairAll_77 ?_
          exact ihk (by omega) _ hO7 hp7 (by rw [hq7]; first | (rw [nset_f (by unfold frQ; rw [tb_wait (by omega) (by omega)] at hb47; rw [hb47]; rfl)]; done) | (rw [nset_f (by unfold frQ; rw [hb59]; simp)]; done) | (rw [(or2n _ (nset8 _ (by omega)) k (by omega)).1, nset_t (by unfold frQ; rw [tb_wait (by omega) (by omega)] at hb47; rw [hb47, hb59]; rfl)]; done))
