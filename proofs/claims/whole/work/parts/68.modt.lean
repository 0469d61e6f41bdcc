/-! THE TAPE -/
theorem w8_bit (x : Int32) {k : Nat} (hk : k < 8) : bt x.toInt8.toInt32 k = bt x k := by
  unfold bt
  rw [Int8.toBitVec_toInt32, Int32.toBitVec_toInt8, BitVec.getLsbD_signExtend, BitVec.getLsbD_signExtend, if_pos hk, if_pos (show k < 32 by omega), decide_eq_true (p := k < 32) (by omega), decide_eq_true hk]
  rfl
theorem wrapB_cong {a b : Int} (h : ∀ k, k < 8 → tb a k = tb b k) : wrapB a = wrapB b := by
  unfold wrapB
  have : (Int32.ofInt a).toInt8 = (Int32.ofInt b).toInt8 := by
    apply Int8.toBitVec_inj.mp
    rw [Int32.toBitVec_toInt8, Int32.toBitVec_toInt8]
    apply BitVec.eq_of_getLsbD_eq
    intro i hi
    rw [BitVec.getLsbD_signExtend, BitVec.getLsbD_signExtend]
    have := h i hi
    unfold tb bt at this
    rw [if_pos (by omega), if_pos (by omega), this]
  rw [this]
theorem tb_wrapB (a : Int) {k : Nat} (hk : k < 8) : tb (wrapB a) k = tb a k := by
  unfold tb
  rw [ofInt_wrapB]
  exact w8_bit _ hk
theorem wrapB2 (a : Int) : wrapB (wrapB a) = wrapB a := wrapB_cong fun k hk => tb_wrapB a hk
def fdX (a b c d e : Int) (i : Nat) : Int := if i = 0 then a else if i = 1 then b else if i = 2 then c else if i = 3 then d else e
def byB (xs : Nat → Int) (k : Nat) : Int := andI (ushrI (xs (k / 4)) ((24 - 8 * (k % 4) : Nat) : Int)) 255
theorem tb_255 : ∀ k, k < 32 → tb 255 k = decide (k < 8) := by decide +kernel
theorem tb_ushr {a : Int} {c k : Nat} (hc : c < 32) : tb (ushrI a (c : Int)) k = tb a (c + k) := by
  unfold tb ushrI
  rw [Int32.ofInt_toInt, ofN32]
  exact b_ushr c hc _ k
theorem byB_w (xs : Nat → Int) (k : Nat) : wrapB (wrapB (shrI (xs (k / 4)) ((24 - 8 * (k % 4) : Nat) : Int))) = wrapB (byB xs k) := by
  rw [wrapB2]
  refine wrapB_cong fun i hi => ?_
  unfold byB
  rw [tb_and, tb_255 i (by omega), tb_ushr (by omega), tb_shr (by omega) (by omega)]
  simp [hi]
  omega
theorem byB_rng (xs : Nat → Int) (k : Nat) : 0 ≤ byB xs k ∧ byB xs k ≤ 255 := by
  have h1 : 0 ≤ byB xs k := andI_nonneg (by decide)
  refine ⟨h1, ?_⟩
  have h2 : byB xs k = ((nset (tb (byB xs k)) 8 : Nat) : Int) := by
    refine tb_ext (in32_andI _ _) ?_ fun i hi => ?_
    · have := nset_lt (tb (byB xs k)) 8
      unfold in32; omega
    · rw [tb_nat hi, nset_bit]
      by_cases q : i < 8
      · simp [q]
      · unfold byB
        rw [tb_and, tb_255 i hi]
        simp [q]
  have := nset_lt (tb (byB xs k)) 8
  omega
theorem wrapB_n : ∀ n : Nat, n < 256 → wrapB (n : Int) = if n < 128 then (n : Int) else (n : Int) - 256 := by decide +kernel
theorem wrapB_r {x : Int} (h : 0 ≤ x ∧ x ≤ 255) : (0 ≤ x ∧ x < 128 ∧ wrapB x = x) ∨ (128 ≤ x ∧ x ≤ 255 ∧ wrapB x = x - 256) := by
  have := wrapB_n x.toNat (by omega)
  rw [show ((x.toNat : Nat) : Int) = x by omega] at this
  by_cases q : x < 128
  · rw [if_pos (by omega)] at this; exact Or.inl ⟨h.1, q, this⟩
  · rw [if_neg (by omega)] at this; exact Or.inr ⟨by omega, h.2, this⟩
set_option maxHeartbeats 1000000 in
theorem C_X12_feed {d : Nat} {g : Gs} {h : Hc} {P : Po} {M : Nat} {w : Nat → Int} (hG : MdG g M) (hW : h (M + 1) = w) {L : Nat} {a b c x y : Int} (hT : h M 9 = (L : Int)) (hL : L ≤ 400) (KN : 400 < L + 20 → ∀ h', Mp M h h' 0 → P (.inl (some (vI (-1)))) g h') (K1 : L + 20 ≤ 400 → ∀ h', Off (fun q => mqs M q ∨ q = M + 6 ∨ q = M + 7) h h' → (∀ k, 0 < k → k < 18 → k ≠ 9 → h' M k = h M k) → h' M 0 = 0 → h' M 9 = ((L + 20 : Nat) : Int) → (∀ i, i < L → h' (M + 6) i = h (M + 6) i) → (∀ i, i < 20 → h' (M + 6) (L + i) = wrapB (byB (fdX a b c x y) i)) → P (.inl (some (vI ((L + 20 : Nat) : Int)))) g h') : Call (d + 0) 0 0 mX12_feed [vR M, vI a, vI b, vI c, vI x, vI y] g h P := by
  refine Call_of rfl ⟨by decide +kernel, rfl⟩ (Nat.le_of_ble_eq_true rfl) rfl ?_
  refine aL0 dX12_feed_0 ?_
  refine R_iconst_0 dX12_feed_1 ?_
  refine R_putI dX12_feed_2 fX12_3 hG.o ?_
  refine storH (fun h1 e1 => ?_)
  have hP : Mp M h h1 0 := by rw [e1]; exact Mp.i h M
  replace hW : h1 (M + 1) = w := hP.w hW
  have hQ : Mz M h1 h1 := Mz.rf _ _
  refine aL0 dX12_feed_5 ?_
  refine R_getI dX12_feed_6 fX12_106.r hG.o ?_
  refine topV (v := ((L : Nat) : Int)) (by rw [hP.2.1 9 (by omega) (by omega)]; exact hT) ?_
  refine R_bipush dX12_feed_9 (by decide) ?_
  refine addV dX12_feed_11 (v := (((L + 20) : Nat) : Int)) (by rw [wid (by omega) (by omega)]; omega) ?_
  refine R_sipush dX12_feed_12 (by decide) ?_
  refine R_icmp_le dX12_feed_15 (fun hb15 => ?_) (fun hb15 => ?_)
  · refine aL0 dX12_feed_20 ?_
    refine R_getR dX12_feed_21 fX12_36.r hG.o rfl ?_
    refine R_iconst_0 dX12_feed_24 ?_
    refine iL1 dX12_feed_25 ?_
    refine iastN (k := 0) dX12_feed_26 hG.a7 rfl (by decide) ?_
    refine storH (fun h11 e11 => ?_)
    refine aL0 dX12_feed_27 ?_
    refine R_getR dX12_feed_28 fX12_36.r hG.o rfl ?_
    refine R_iconst_1 dX12_feed_31 ?_
    refine iL2 dX12_feed_32 ?_
    refine iastN (k := 1) dX12_feed_33 hG.a7 rfl (by decide) ?_
    refine storH (fun h12 e12 => ?_)
    refine aL0 dX12_feed_34 ?_
    refine R_getR dX12_feed_35 fX12_36.r hG.o rfl ?_
    refine R_iconst_2 dX12_feed_38 ?_
    refine iL3 dX12_feed_39 ?_
    refine iastN (k := 2) dX12_feed_40 hG.a7 rfl (by decide) ?_
    refine storH (fun h13 e13 => ?_)
    refine aL0 dX12_feed_41 ?_
    refine R_getR dX12_feed_42 fX12_36.r hG.o rfl ?_
    refine R_iconst_3 dX12_feed_45 ?_
    refine iL4 dX12_feed_46 ?_
    refine iastN (k := 3) dX12_feed_48 hG.a7 rfl (by decide) ?_
    refine storH (fun h14 e14 => ?_)
    refine aL0 dX12_feed_49 ?_
    refine R_getR dX12_feed_50 fX12_36.r hG.o rfl ?_
    refine R_iconst_4 dX12_feed_53 ?_
    refine iL5 dX12_feed_54 ?_
    refine iastN (k := 4) dX12_feed_56 hG.a7 rfl (by decide) ?_
    refine storH (fun h15 e15 => ?_)
    refine R_iconst_0 dX12_feed_57 ?_
    refine iS6 dX12_feed_58 ?_
    have hF0 : ∀ i, i < 5 → h15 (M + 7) i = fdX a b c x y i := fun i hi => by
        have : i = 0 ∨ i = 1 ∨ i = 2 ∨ i = 3 ∨ i = 4 := by omega
        rw [e15, e14, e13, e12, e11]
        rcases this with q | q | q | q | q <;> subst q <;> simp [updH, fdX]
    have hO6 : Off (fun q => q = M + 7) h1 h15 := by rw [e15, e14, e13, e12, e11]; exact (((((Off.rf (fun q => q = M + 7) h1).upd rfl).upd rfl).upd rfl).upd rfl).upd rfl
    refine loopN 20 (fun k => ∀ hK : Hc, Off (fun q => q = M + 6) h15 hK → (∀ i, i < L → hK (M + 6) i = h (M + 6) i) → (∀ i, i < k → hK (M + 6) (L + i) = wrapB (byB (fdX a b c x y) i)) → Run (d + 0) 0 0 mX12_feed 60 [vR M, vI a, vI b, vI c, vI x, vI y, vI ((k : Nat) : Int)] [] g hK P) (fun k hck ihk hK hO hA hB => ?_) 0 (Nat.zero_le _) h15 (Off.rf _ _) (fun i _ => by rw [hO6 _ (by omega), hP.1 (M + 6) (by unfold mqs; omega)]) (fun _ h9 => absurd h9 (Nat.not_lt_zero _))
    have hF : ∀ i, i < 5 → hK (M + 7) i = fdX a b c x y i := fun i hi => by rw [hO (M + 7) (by omega)]; exact hF0 i hi
    have hN9 : hK M 9 = (L : Int) := by rw [hO M (by omega), hO6 M (by omega), hP.2.1 9 (by omega) (by omega)]; exact hT
    refine iL6 dX12_feed_60 ?_
    refine R_bipush dX12_feed_62 (by decide) ?_
    refine R_icmp_ge dX12_feed_64 (fun hb64 => ?_) (fun hb64 => ?_)
    · have e9 : k = 20 := by omega
      subst e9
      refine aL0 dX12_feed_106 ?_
      refine dupR dX12_feed_107 ?_
      refine R_getI dX12_feed_108 fX12_106.r hG.o ?_
      refine topV (v := ((L : Nat) : Int)) (hN9) ?_
      refine R_bipush dX12_feed_111 (by decide) ?_
      refine addV dX12_feed_113 (v := (((L + 20) : Nat) : Int)) (by rw [wid (by omega) (by omega)]; omega) ?_
      refine R_putI dX12_feed_114 fX12_106 hG.o ?_
      refine storH (fun h16 e16 => ?_)
      refine aL0 dX12_feed_117 ?_
      refine R_getI dX12_feed_118 fX12_106.r hG.o ?_
      refine topV (v := (((L + 20) : Nat) : Int)) (by rw [e16, updH_s]) ?_
      exact R_iret dX12_feed_121 rfl (K1 (by omega) _ (by rw [e16]; exact (((hP.1.mono (fun q hq => Or.inl hq)).tr (hO6.mono (fun q hq => Or.inr (Or.inr hq)))).tr (hO.mono (fun q hq => Or.inr (Or.inl hq)))).upd (Or.inl (Or.inl rfl))) (fun k h0 hk h9 => by rw [e16, updH_i h9, hO M (by omega), hO6 M (by omega)]; exact hP.2.1 k h0 hk) (by rw [e16, updH_i (by omega), hO M (by omega), hO6 M (by omega)]; exact hP.2.2) (by rw [e16, updH_s]) (fun i hi => by rw [e16, updH_a (by omega)]; exact hA i hi) (fun i hi => by rw [e16, updH_a (by omega)]; exact hB i hi))
    · refine aL0 dX12_feed_67 ?_
      refine R_getR dX12_feed_68 fX12_29.r hG.o rfl ?_
      refine aL0 dX12_feed_71 ?_
      refine R_getI dX12_feed_72 fX12_106.r hG.o ?_
      refine topV (v := ((L : Nat) : Int)) (hN9) ?_
      refine iL6 dX12_feed_75 ?_
      refine addV dX12_feed_77 (v := (((L + k) : Nat) : Int)) (by rw [wid (by omega) (by omega)]; omega) ?_
      refine aL0 dX12_feed_78 ?_
      refine R_getR dX12_feed_79 fX12_36.r hG.o rfl ?_
      refine iL6 dX12_feed_82 ?_
      refine R_iconst_4 dX12_feed_84 ?_
      refine divV dX12_feed_85 (by decide) (v := ((k / 4 : Nat) : Int)) (divN (k := 4) (by omega) (by decide)) ?_
      refine ialdN dX12_feed_86 hG.a7 rfl (by omega) ?_
      refine topV (v := fdX a b c x y (k / 4)) (hF _ (by omega)) ?_
      refine R_bipush dX12_feed_87 (by decide) ?_
      refine R_bipush dX12_feed_89 (by decide) ?_
      refine iL6 dX12_feed_91 ?_
      refine R_iconst_4 dX12_feed_93 ?_
      refine remV dX12_feed_94 (by decide) (v := ((k % 4 : Nat) : Int)) (remN (k := 4) (by omega) (by decide)) ?_
      refine mulV dX12_feed_95 (v := (((8 * (k % 4)) : Nat) : Int)) (by rw [wid (by omega) (by omega)]; omega) ?_
      refine subV dX12_feed_96 (wid (by omega) (by omega)) ?_
      refine topV (v := (((24 - 8 * (k % 4)) : Nat) : Int)) (by omega) ?_
      refine R_ishr dX12_feed_97 ?_
      refine R_i2b dX12_feed_98 ?_
      refine bastN dX12_feed_99 hG.a6 rfl (by omega) ?_
      refine storH (fun h17 e17 => ?_)
      refine iInc6 dX12_feed_100 (winc (by omega)) ?_
      refine R_goto dX12_feed_103 ?_
      exact ihk (by omega) _ (by rw [e17]; exact hO.upd rfl) (fun i hi => by rw [e17, updH_i (by omega)]; exact hA i hi) (fun i hi => by
          rw [e17]
          by_cases e8 : i = k
          · subst e8; rw [updH_s]; exact byB_w _ _
          · rw [updH_i (by omega)]; exact hB i (by omega))
  · refine R_iconst_m1 dX12_feed_18 ?_
    exact R_iret dX12_feed_19 rfl (KN (by omega) _ hP)
set_option maxHeartbeats 400000 in
theorem C_X12_end {d : Nat} {g : Gs} {h : Hc} {P : Po} {M : Nat} {w : Nat → Int} (hG : MdG g M) (hW : h (M + 1) = w) {L : Nat} {x : Int} (hT : h M 9 = (L : Int)) (KN : ¬ (0 ≤ x ∧ x ≤ (L : Int)) → ∀ h', Mp M h h' 0 → P (.inl (some (vI 0))) g h') (K1 : 0 ≤ x ∧ x ≤ (L : Int) → ∀ h', Off (mqs M) h h' → (∀ k, 0 < k → k < 18 → k ≠ 9 → h' M k = h M k) → h' M 0 = 0 → h' M 9 = x → P (.inl (some (vI 1))) g h') : Call (d + 0) 0 0 mX12_end [vR M, vI x] g h P := by
  refine Call_of rfl ⟨by decide +kernel, rfl⟩ (Nat.le_of_ble_eq_true rfl) rfl ?_
  refine aL0 dX12_end_0 ?_
  refine R_iconst_0 dX12_end_1 ?_
  refine R_putI dX12_end_2 fX12_3 hG.o ?_
  refine storH (fun h1 e1 => ?_)
  have hP : Mp M h h1 0 := by rw [e1]; exact Mp.i h M
  replace hW : h1 (M + 1) = w := hP.w hW
  have hQ : Mz M h1 h1 := Mz.rf _ _
  refine iL1 dX12_end_5 ?_
  refine R_if_lt dX12_end_6 (fun hb6 => ?_) (fun hb6 => ?_)
  · refine R_iconst_0 dX12_end_17 ?_
    exact R_zret dX12_end_18 rfl (by decide) (KN (by omega) _ hP)
  · refine iL1 dX12_end_9 ?_
    refine aL0 dX12_end_10 ?_
    refine R_getI dX12_end_11 fX12_106.r hG.o ?_
    refine topV (v := (L : Int)) (by rw [hP.2.1 9 (by omega) (by omega)]; exact hT) ?_
    refine R_icmp_le dX12_end_14 (fun hb14 => ?_) (fun hb14 => ?_)
    · refine aL0 dX12_end_19 ?_
      refine iL1 dX12_end_20 ?_
      refine R_putI dX12_end_21 fX12_106 hG.o ?_
      refine storH (fun h11 e11 => ?_)
      refine R_iconst_1 dX12_end_24 ?_
      exact R_zret dX12_end_25 rfl (by decide) (K1 (by omega) _ (by rw [e11]; exact hP.1.upd (Or.inl rfl)) (fun k h0 hk h9 => by rw [e11, updH_i h9]; exact hP.2.1 k h0 hk) (by rw [e11, updH_i (by omega)]; exact hP.2.2) (by rw [e11, updH_s]))
    · refine R_iconst_0 dX12_end_17 ?_
      exact R_zret dX12_end_18 rfl (by decide) (KN (by omega) _ hP)
/-- the tape is used up -/
def Us (M : Nat) (h h' : Hc) (E t : Int) : Prop := Off (mqs M) h h' ∧ (∀ k, 0 < k → k < 18 → k ≠ 9 → k ≠ 10 → k ≠ 11 → h' M k = h M k) ∧ h' M 0 = t ∧ h' M 9 = 0 ∧ h' M 11 = E
theorem Us.w {M : Nat} {h h' : Hc} {E t : Int} {w : Nat → Int} (a : Us M h h' E t) (hW : h (M + 1) = w) : h' (M + 1) = w := by rw [a.1 (M + 1) (by unfold mqs; omega)]; exact hW
theorem Us.t {M : Nat} {h h' : Hc} {E t : Int} (a : Us M h h' E t) : h' (M + 6) = h (M + 6) := a.1 _ (by unfold mqs; omega)
theorem Us.q {M : Nat} {h h1 h2 : Hc} {E t : Int} (a : Us M h h1 E t) (b : Mz M h1 h2) : Us M h h2 E t := ⟨a.1.tr b.1, fun k h0 hk h9 h10 h11 => (b.2 k hk).trans (a.2.1 k h0 hk h9 h10 h11), (b.2 0 (by omega)).trans a.2.2.1, (b.2 9 (by omega)).trans a.2.2.2.1, (b.2 11 (by omega)).trans a.2.2.2.2⟩
theorem Us.th {M : Nat} {h h1 h2 : Hc} {E t x : Int} {b : Bool} (a : Us M h h1 E t) (c : ThI M b x h1 h2) (hb : b = true) : Us M h h2 E x := by
  unfold ThI at c
  rw [if_pos hb] at c
  rw [c]
  exact ⟨a.1.upd (Or.inl rfl), fun k h0 hk h9 h10 h11 => by rw [updH_i (by omega)]; exact a.2.1 k h0 hk h9 h10 h11, updH_s _ _ _ _, by rw [updH_i (by omega)]; exact a.2.2.2.1, by rw [updH_i (by omega)]; exact a.2.2.2.2⟩
set_option maxHeartbeats 400000 in
theorem C_X12_uses {d : Nat} {g : Gs} {h : Hc} {P : Po} {M : Nat} {w : Nat → Int} (hG : MdG g M) (hW : h (M + 1) = w) {L : Nat} (hT : h M 9 = (L : Int)) (K : ∀ h', Us M h h' (L : Int) 0 → h' M 10 = 0 → P (.inl none) g h') : Call (d + 0) 0 0 mX12_uses [vR M] g h P := by
  refine Call_of rfl ⟨by decide +kernel, rfl⟩ (Nat.le_of_ble_eq_true rfl) rfl ?_
  refine aL0 dX12_uses_0 ?_
  refine R_iconst_0 dX12_uses_1 ?_
  refine R_putI dX12_uses_2 fX12_3 hG.o ?_
  refine storH (fun h1 e1 => ?_)
  refine aL0 dX12_uses_5 ?_
  refine aL0 dX12_uses_6 ?_
  refine R_getI dX12_uses_7 fX12_106.r hG.o ?_
  refine topV (v := (L : Int)) (by rw [e1, updH_i (by omega)]; exact hT) ?_
  refine R_putI dX12_uses_10 fX12_112 hG.o ?_
  refine storH (fun h2 e2 => ?_)
  refine aL0 dX12_uses_13 ?_
  refine R_iconst_0 dX12_uses_14 ?_
  refine R_putI dX12_uses_15 fX12_106 hG.o ?_
  refine storH (fun h3 e3 => ?_)
  refine aL0 dX12_uses_18 ?_
  refine R_iconst_0 dX12_uses_19 ?_
  refine R_putI dX12_uses_20 fX12_109 hG.o ?_
  refine storH (fun h4 e4 => ?_)
  exact R_vret dX12_uses_23 rfl (K _ ⟨by rw [e4, e3, e2, e1]; exact ((((Off.rf _ _).upd (Or.inl rfl)).upd (Or.inl rfl)).upd (Or.inl rfl)).upd (Or.inl rfl), fun k h0 hk h9 h10 h11 => by rw [e4, e3, e2, e1, updH_i (by omega), updH_i (by omega), updH_i (by omega), updH_i (by omega)], by rw [e4, e3, e2, e1]; simp [updH], by rw [e4, e3, e2, e1]; simp [updH], by rw [e4, e3, e2, e1]; simp [updH]⟩ (by rw [e4, e3, e2, e1]; simp [updH]))
def mlP (w b : Nat → Int) (q : Nat) : Bool := decide (b (3 * q) < 12) && (decide (b (3 * q + 1) < w 1) && decide (b (3 * q + 2) ≤ 1))
def mlH (E : Nat) : Bool := decide (E % 3 = 0) && decide (E ≤ 45)
def mealB (w b : Nat → Int) (E : Nat) : Bool := mlH E && allB (mlP w b) (E / 3)
theorem mealB_f {w b : Nat → Int} {E q : Nat} (h : (mlH E && allB (mlP w b) q) = false) (hq : q ≤ E / 3) : mealB w b E = false := by
  unfold mealB
  cases h1 : mlH E
  · rfl
  · rw [h1, Bool.true_and] at h
    rw [allB_mono h hq]; rfl
def TpB (M : Nat) (h : Hc) (b : Nat → Int) (E : Nat) : Prop := ∀ k, k < E → h (M + 6) k = wrapB (b k) ∧ (0 ≤ b k ∧ b k ≤ 255)

theorem ml_end {w b : Nat → Int} {E q : Nat} (h1 : E ≤ 3 * q) (h2 : q ≤ E / 3) : bI (mlH E && allB (mlP w b) q) = bI (mealB w b E) := by
  unfold mealB
  cases h3 : mlH E
  · rfl
  · unfold mlH at h3
    simp only [Bool.and_eq_true, decide_eq_true_eq] at h3
    by_cases e : q = E / 3
    · rw [e]
    · exfalso; omega
set_option maxHeartbeats 400000 in
theorem C_X12_isMeals {d : Nat} {g : Gs} {h : Hc} {P : Po} {M : Nat} {w : Nat → Int} (hG : MdG g M) (hW : h (M + 1) = w) (hf : WF w) {b : Nat → Int} {E : Nat} (hE : h M 11 = (E : Int)) (hL : E ≤ 400) (hTp : TpB M h b E) (K : P (.inl (some (vI (bI (mealB w b E))))) g h) : Call (d + 2) 0 0 mX12_isMeals [vR M] g h P := by
  have hcs := hf.cas
  have hjd := hf.jud
  have hho := hf.hou
  refine Call_of rfl ⟨by decide +kernel, rfl⟩ (Nat.le_of_ble_eq_true rfl) rfl ?_
  suffices J1 : Run (d + 2) 0 0 mX12_isMeals 23 [vR M, vU, vU] [vI (bI (mlH E))] g h P by
    refine aL0 dX12_isMeals_0 ?_
    refine R_getI dX12_isMeals_1 fX12_112.r hG.o ?_
    refine topV (v := ((E : Nat) : Int)) (hE) ?_
    refine R_iconst_3 dX12_isMeals_4 ?_
    refine remV dX12_isMeals_5 (by decide) (v := ((E % 3 : Nat) : Int)) (remN (k := 3) (by omega) (by decide)) ?_
    refine R_if_ne dX12_isMeals_6 (fun hb6 => ?_) (fun hb6 => ?_)
    · refine R_iconst_0 dX12_isMeals_22 ?_
      exact topV (v := bI (mlH E)) (by first | (rw [bI_f (by simp [mlH]; omega)]; done) | (rw [bI_t (by simp [mlH]; omega)]; done)) J1
    · refine aL0 dX12_isMeals_9 ?_
      refine R_getI dX12_isMeals_10 fX12_112.r hG.o ?_
      refine topV (v := ((E : Nat) : Int)) (hE) ?_
      refine R_bipush dX12_isMeals_13 (by decide) ?_
      refine R_icmp_gt dX12_isMeals_15 (fun hb15 => ?_) (fun hb15 => ?_)
      · refine R_iconst_0 dX12_isMeals_22 ?_
        exact topV (v := bI (mlH E)) (by first | (rw [bI_f (by simp [mlH]; omega)]; done) | (rw [bI_t (by simp [mlH]; omega)]; done)) J1
      · refine R_iconst_1 dX12_isMeals_18 ?_
        refine R_goto dX12_isMeals_19 ?_
        exact topV (v := bI (mlH E)) (by first | (rw [bI_f (by simp [mlH]; omega)]; done) | (rw [bI_t (by simp [mlH]; omega)]; done)) J1
  refine iS1 dX12_isMeals_23 ?_
  refine R_iconst_0 dX12_isMeals_24 ?_
  refine iS2 dX12_isMeals_25 ?_
  refine eqI1 (v := bI (mlH E && allB (mlP w b) 0)) (by rw [show allB (mlP w b) 0 = true from rfl, Bool.and_true]) ?_
  refine eqI2 (v := ((3 * 0 : Nat) : Int)) rfl ?_
  refine loopN ((E / 3)) (fun q => Run (d + 2) 0 0 mX12_isMeals 26 [vR M, vI (bI ((mlH E && allB (mlP w b) q))), vI (((3 * q) : Nat) : Int)] [] g h P) (fun q hcnq ihq => ?_) (0) (Nat.zero_le _)
  refine iL2 dX12_isMeals_26 ?_
  refine aL0 dX12_isMeals_27 ?_
  refine R_getI dX12_isMeals_28 fX12_112.r hG.o ?_
  refine topV (v := ((E : Nat) : Int)) (hE) ?_
  refine R_icmp_ge dX12_isMeals_31 (fun hb31 => ?_) (fun hb31 => ?_)
  · refine iL1 dX12_isMeals_93 ?_
    exact R_zret dX12_isMeals_94 rfl (bI01 _) (PeqI K (ml_end (by omega) (by omega)))
  · refine iL1 dX12_isMeals_34 ?_
    refine R_ifB_eq dX12_isMeals_35 (fun hb35 => ?_) (fun hb35 => ?_)
    · refine iL1 dX12_isMeals_93 ?_
      exact R_zret dX12_isMeals_94 rfl (bI01 _) (PeqI K (by rw [mealB_f hb35 (by omega)]; exact bI_f hb35))
    · have h45 : E % 3 = 0 ∧ E ≤ 45 := by simp [mlH] at hb35; omega
      suffices J2 : Run (d + 2) 0 0 mX12_isMeals 86 [vR M, vI (bI ((mlH E && allB (mlP w b) q))), vI (((3 * q) : Nat) : Int)] [vI (bI (mlP w b q))] g h P by
        refine aL0 dX12_isMeals_38 ?_
        refine R_getR dX12_isMeals_39 fX12_29.r hG.o rfl ?_
        refine iL2 dX12_isMeals_42 ?_
        refine baldN dX12_isMeals_43 hG.a6 rfl (by omega) ?_
        refine topV (v := wrapB (b (3 * q))) ((hTp (3 * q) (by omega)).1) ?_
        have hq3 := wrapB_r (hTp (3 * q) (by omega)).2
        refine invS1 rfl dX12_isMeals_44 kX12_416 (Nat.le_of_ble_eq_true rfl) (Nat.zero_le _) (Nat.zero_le _) (C_X12_noHour (konI ?_))
        refine R_ifB_ne dX12_isMeals_47 (fun hb47 => ?_) (fun hb47 => ?_)
        · have h9 := noB_t hb47
          have hml : mlP w b q = false := by unfold mlP; rw [decide_eq_false (p := b (3 * q) < 12) (by omega)]; rfl
          refine R_iconst_0 dX12_isMeals_85 ?_
          exact topV (v := bI (mlP w b q)) (by first | exact (bI_f hml).symm | exact (bI_t hml).symm) J2
        · refine aL0 dX12_isMeals_50 ?_
          refine aL0 dX12_isMeals_51 ?_
          refine R_getR dX12_isMeals_52 fX12_29.r hG.o rfl ?_
          refine iL2 dX12_isMeals_55 ?_
          refine R_iconst_1 dX12_isMeals_56 ?_
          refine addV dX12_isMeals_57 (v := ((((3 * q) + 1) : Nat) : Int)) (by rw [wid (by omega) (by omega)]; omega) ?_
          refine baldN dX12_isMeals_58 hG.a6 rfl (by omega) ?_
          refine topV (v := wrapB (b ((3 * q) + 1))) ((hTp ((3 * q) + 1) (by omega)).1) ?_
          have hq4 := wrapB_r (hTp ((3 * q) + 1) (by omega)).2
          refine invV1 rfl dX12_isMeals_59 kX12_404 hG.o (Nat.le_of_ble_eq_true rfl) (Nat.zero_le _) (Nat.zero_le _) (C_X12_noCase hG hW hf (konI ?_))
          refine R_ifB_ne dX12_isMeals_62 (fun hb62 => ?_) (fun hb62 => ?_)
          · have h9 := noB_t hb62
            have hml : mlP w b q = false := by unfold mlP; rw [decide_eq_false (p := b (3 * q + 1) < w 1) (by omega), Bool.false_and, Bool.and_false]
            refine R_iconst_0 dX12_isMeals_85 ?_
            exact topV (v := bI (mlP w b q)) (by first | exact (bI_f hml).symm | exact (bI_t hml).symm) J2
          · refine aL0 dX12_isMeals_65 ?_
            refine R_getR dX12_isMeals_66 fX12_29.r hG.o rfl ?_
            refine iL2 dX12_isMeals_69 ?_
            refine R_iconst_2 dX12_isMeals_70 ?_
            refine addV dX12_isMeals_71 (v := ((((3 * q) + 2) : Nat) : Int)) (by rw [wid (by omega) (by omega)]; omega) ?_
            refine baldN dX12_isMeals_72 hG.a6 rfl (by omega) ?_
            refine topV (v := wrapB (b ((3 * q) + 2))) ((hTp ((3 * q) + 2) (by omega)).1) ?_
            have hq5 := wrapB_r (hTp ((3 * q) + 2) (by omega)).2
            refine R_iconst_0 dX12_isMeals_73 ?_
            refine R_iconst_1 dX12_isMeals_74 ?_
            refine invS3 rfl dX12_isMeals_75 kX12_101 (Nat.le_of_ble_eq_true rfl) (Nat.zero_le _) (Nat.zero_le _) (C_X12_in (konI ?_))
            refine R_ifB_eq dX12_isMeals_78 (fun hb78 => ?_) (fun hb78 => ?_)
            · have h9 := of_decide_eq_false hb78
              have hml : mlP w b q = false := by unfold mlP; rw [decide_eq_false (p := b (3 * q + 2) ≤ 1) (by omega), Bool.and_false, Bool.and_false]
              refine R_iconst_0 dX12_isMeals_85 ?_
              exact topV (v := bI (mlP w b q)) (by first | exact (bI_f hml).symm | exact (bI_t hml).symm) J2
            · have h7 := noB_f hb47
              have h8 := noB_f hb62
              have h9 := of_decide_eq_true hb78
              have hml : mlP w b q = true := by unfold mlP; rw [decide_eq_true (p := b (3 * q) < 12) (by omega), decide_eq_true (p := b (3 * q + 1) < w 1) (by omega), decide_eq_true (p := b (3 * q + 2) ≤ 1) (by omega)]; rfl
              refine R_iconst_1 dX12_isMeals_81 ?_
              refine R_goto dX12_isMeals_82 ?_
              exact topV (v := bI (mlP w b q)) (by first | exact (bI_f hml).symm | exact (bI_t hml).symm) J2
      refine iS1 dX12_isMeals_86 ?_
      refine iInc2 dX12_isMeals_87 (wid (by omega) (by omega)) ?_
      refine R_goto dX12_isMeals_90 ?_
      exact eqI1 (by rw [allB_s, ← Bool.and_assoc, hb35, Bool.true_and]) (eqI2 (by omega) (ihq (by omega)))
theorem meal_rows {w b : Nat → Int} {E : Nat} (h : mealB w b E = true) : E % 3 = 0 ∧ E ≤ 45 ∧ ∀ i, i < E / 3 → b (3 * i) < 12 ∧ b (3 * i + 1) < w 1 ∧ b (3 * i + 2) ≤ 1 := by
  unfold mealB mlH at h
  simp only [Bool.and_eq_true, decide_eq_true_eq] at h
  obtain ⟨⟨h1, h2⟩, h3⟩ := h
  refine ⟨h1, h2, fun i hi => ?_⟩
  have : mlP w b i = true := by
    cases q : mlP w b i
    · have h4 : allB (mlP w b) (i + 1) = false := by rw [allB_s, q, Bool.and_false]
      rw [allB_mono h4 (show i + 1 ≤ E / 3 by omega)] at h3; cases h3
    · rfl
  unfold mlP at this
  simp only [Bool.and_eq_true, decide_eq_true_eq] at this
  exact this
def MlOK (w b : Nat → Int) (E : Nat) : Prop := E % 3 = 0 ∧ E ≤ 45 ∧ ∀ i, i < E / 3 → (0 ≤ b (3 * i) ∧ b (3 * i) < 12) ∧ (0 ≤ b (3 * i + 1) ∧ b (3 * i + 1) < w 1) ∧ (0 ≤ b (3 * i + 2) ∧ b (3 * i + 2) ≤ 1)
theorem meal_ok {M : Nat} {h : Hc} {w b : Nat → Int} {E : Nat} (hf : WF w) (hm : mealB w b E = true) (hT : TpB M h b E) : MlOK w b E ∧ ∀ k, k < E → h (M + 6) k = b k := by
  have hc := hf.cas
  obtain ⟨h1, h2, h3⟩ := meal_rows hm
  refine ⟨⟨h1, h2, fun i hi => ?_⟩, fun k hk => ?_⟩
  · have a := h3 i hi
    have b1 := (hT (3 * i) (by omega)).2
    have b2 := (hT (3 * i + 1) (by omega)).2
    have b3 := (hT (3 * i + 2) (by omega)).2
    omega
  · have a := h3 (k / 3) (by omega)
    have b1 := hT k hk
    have b2 := wrapB_r b1.2
    have : k = 3 * (k / 3) ∨ k = 3 * (k / 3) + 1 ∨ k = 3 * (k / 3) + 2 := by omega
    have b4 : b k < 128 := by
      rcases this with q | q | q <;> rw [q] <;> omega
    rw [b1.1]
    omega
theorem eqB_t {x y : Bool} (h : bI x = bI y) : (x == y) = true := by cases x <;> cases y <;> simp [bI] at h ⊢
theorem eqB_f {x y : Bool} (h : ¬ bI x = bI y) : (x == y) = false := by cases x <;> cases y <;> simp [bI] at h ⊢
set_option maxHeartbeats 400000 in
theorem C_X12_freesWith {d : Nat} {g : Gs} {h : Hc} {P : Po} {M : Nat} {w : Nat → Int} (hG : MdG g M) (hW : h (M + 1) = w) (hf : WF w) (hl : LawOK w) {j c k : Nat} {hr : Int} (hj : j < 5) (hc : (c : Int) < w 1) (hk : k ≤ 60) (hb1 : 0 ≤ hr ∧ hr ≤ 99) (K : ∀ h', Mq M h h' → P (.inl (some (vI (bI (frH w k j c hr))))) g h') : Call (d + 7) 0 0 mX12_freesWith [vR M, vI ((j : Nat) : Int), vI ((c : Nat) : Int), vI hr, vI ((k : Nat) : Int)] g h P := by
  have hcs := hf.cas
  refine Call_of rfl ⟨by decide +kernel, rfl⟩ (Nat.le_of_ble_eq_true rfl) rfl ?_
  have hQ : Mq M h h := Mq.rf _ _
  suffices J1 : ∀ hJ1 : Hc, Mq M h hJ1 → hJ1 (M + 1) = w → Run (d + 7) 0 0 mX12_freesWith 30 [vR M, vI ((j : Nat) : Int), vI ((c : Nat) : Int), vI hr, vI ((k : Nat) : Int)] [vI (bI (frH w k j c hr))] g hJ1 P by
    refine aL0 dX12_freesWith_0 ?_
    refine iL1 dX12_freesWith_1 ?_
    refine iL2 dX12_freesWith_2 ?_
    refine iL3 dX12_freesWith_3 ?_
    refine R_bipush dX12_freesWith_4 (by decide) ?_
    refine iL4 dX12_freesWith_6 ?_
    refine iL3 dX12_freesWith_8 ?_
    refine addV dX12_freesWith_9 (wid (by omega) (by omega)) ?_
    refine R_mmin dX12_freesWith_10 kX12_318 lb_min (Nat.le_of_ble_eq_true rfl) ?_
    refine topV (v := mn99 ((k : Int) + hr)) (rfl) ?_
    have hmn := mn99_rng (x := (k : Int) + hr) (by omega)
    refine aL0 dX12_freesWith_13 ?_
    refine iL2 dX12_freesWith_14 ?_
    refine R_iconst_1 dX12_freesWith_15 ?_
    refine invV2x rfl dX12_freesWith_16 kX12_87 hG.o (Nat.le_of_ble_eq_true rfl) rfl (Nat.zero_le _) (Nat.zero_le _) (C_X12_of hG hW (b := 1) (i := 101 + 7 * c) (by omega) (by omega) (konI ?_))
    have hq2 := hf.gr (c := c) (by omega)
    refine invV5 rfl dX12_freesWith_19 kX12_303 hG.o (Nat.le_of_ble_eq_true rfl) (Nat.zero_le _) (Nat.zero_le _) (C_X12_pointBy hG hW hf hl (by omega) (by omega) (by omega) (by omega) (by omega) (fun h3 hx3 => konI ?_))
    replace hQ := hQ.tr hx3
    replace hW := hx3.w hW
    refine R_if_lt dX12_freesWith_22 (fun hb22 => ?_) (fun hb22 => ?_)
    · refine R_iconst_0 dX12_freesWith_29 ?_
      exact topV (v := bI (frH w k j c hr)) (by first | (rw [bI_f (show frH w k j c hr = false from decide_eq_false (by omega))]; done) | (rw [bI_t (show frH w k j c hr = true from decide_eq_true (by omega))]; done)) (J1 _ hQ hW)
    · refine R_iconst_1 dX12_freesWith_25 ?_
      refine R_goto dX12_freesWith_26 ?_
      exact topV (v := bI (frH w k j c hr)) (by first | (rw [bI_f (show frH w k j c hr = false from decide_eq_false (by omega))]; done) | (rw [bI_t (show frH w k j c hr = true from decide_eq_true (by omega))]; done)) (J1 _ hQ hW)
  intro hJ1 hQ hW
  exact R_zret dX12_freesWith_30 rfl (bI01 _) (K _ hQ)
set_option maxHeartbeats 1000000 in
theorem C_X12_fits {d : Nat} {g : Gs} {h : Hc} {P : Po} {M : Nat} {w : Nat → Int} (hG : MdG g M) (hW : h (M + 1) = w) (hf : WF w) (hl : LawOK w) {b : Nat → Int} {E j k : Nat} (hE : h M 11 = (E : Int)) (hMl : MlOK w b E) (hTc : ∀ i, i < E → h (M + 6) i = b i) (hj : j < 5) (hk : k ≤ 60) (K : ∀ h', Mq M h h' → P (.inl (some (vI (bI (fitB w b j E k))))) g h') : Call (d + 8) 0 0 mX12_fits [vR M, vI ((j : Nat) : Int), vI ((k : Nat) : Int)] g h P := by
  refine Call_of rfl ⟨by decide +kernel, rfl⟩ (Nat.le_of_ble_eq_true rfl) rfl ?_
  have hQ : Mq M h h := Mq.rf _ _
  refine R_iconst_1 dX12_fits_0 ?_
  refine iS3 dX12_fits_1 ?_
  refine R_iconst_0 dX12_fits_2 ?_
  refine iS4 dX12_fits_3 ?_
  have hcs := hf.cas
  have hE3 : E = 3 * (E / 3) := by have := hMl.1; omega
  refine eqI3 (v := bI (allB (rowB w b j k) 0)) rfl ?_
  refine eqI4 (v := ((3 * 0 : Nat) : Int)) rfl ?_
  refine loopN ((E / 3)) (fun q => ∀ hK1 : Hc, Mq M h hK1 → hK1 (M + 1) = w →  Run (d + 8) 0 0 mX12_fits 5 [vR M, vI ((j : Nat) : Int), vI ((k : Nat) : Int), vI (bI (allB (rowB w b j k) q)), vI (((3 * q) : Nat) : Int)] [] g hK1 P) (fun q hcnq ihq hK1 hQ hW  => ?_) (0) (Nat.zero_le _) _ hQ hW
  refine iL4 dX12_fits_5 ?_
  refine aL0 dX12_fits_7 ?_
  refine R_getI dX12_fits_8 fX12_112.r hG.o ?_
  refine topV (v := ((E : Nat) : Int)) (by rw [hQ.2 11 (by omega)]; exact hE) ?_
  refine R_icmp_ge dX12_fits_11 (fun hb11 => ?_) (fun hb11 => ?_)
  · have e9 : q = E / 3 := by omega
    subst e9
    refine iL3 dX12_fits_73 ?_
    exact R_zret dX12_fits_74 rfl (bI01 _) (K _ hQ)
  · have hrw := hMl.2.2 q (by omega)
    have h45 := hMl.2.1
    suffices J2 : ∀ hJ2 : Hc, Mq M h hJ2 → hJ2 (M + 1) = w → Run (d + 8) 0 0 mX12_fits 66 [vR M, vI ((j : Nat) : Int), vI ((k : Nat) : Int), vI (bI (allB (rowB w b j k) q)), vI (((3 * q) : Nat) : Int)] [vI (bI ((allB (rowB w b j k) q && rowB w b j k q)))] g hJ2 P by
      refine iL3 dX12_fits_14 ?_
      refine R_ifB_eq dX12_fits_15 (fun hb15 => ?_) (fun hb15 => ?_)
      · refine R_iconst_0 dX12_fits_65 ?_
        exact topV (v := bI ((allB (rowB w b j k) q && rowB w b j k q))) (by first | (rw [bI_f (by rw [hb15, Bool.false_and])]; done) | (rw [bI_t (by rw [hb15, Bool.true_and]; exact eqB_t hb58)]; done) | (rw [bI_f (by rw [hb15, Bool.true_and]; exact eqB_f hb58)]; done)) (J2 _ hQ hW)
      · refine aL0 dX12_fits_18 ?_
        refine iL1 dX12_fits_19 ?_
        refine aL0 dX12_fits_20 ?_
        refine R_getR dX12_fits_21 fX12_29.r hG.o rfl ?_
        refine iL4 dX12_fits_24 ?_
        refine R_iconst_1 dX12_fits_26 ?_
        refine addV dX12_fits_27 (v := ((((3 * q) + 1) : Nat) : Int)) (by rw [wid (by omega) (by omega)]; omega) ?_
        refine baldN dX12_fits_28 hG.a6 rfl (by omega) ?_
        refine topV (v := b ((3 * q) + 1)) (by rw [hQ.keep (by omega)]; exact hTc _ (by omega)) ?_
        refine topV (v := (((b (3 * q + 1)).toNat : Nat) : Int)) (by omega) ?_
        refine aL0 dX12_fits_29 ?_
        refine R_getR dX12_fits_30 fX12_29.r hG.o rfl ?_
        refine iL4 dX12_fits_33 ?_
        refine baldN dX12_fits_35 hG.a6 rfl (by omega) ?_
        refine topV (v := b (3 * q)) (by rw [hQ.keep (by omega)]; exact hTc _ (by omega)) ?_
        refine iL2 dX12_fits_36 ?_
        refine invV4 rfl dX12_fits_37 kX12_440 hG.o (Nat.le_of_ble_eq_true rfl) (Nat.zero_le _) (Nat.zero_le _) (C_X12_freesWith hG hW hf hl (by omega) (by omega) (by omega) (by omega) (fun h3 hx3 => konI ?_))
        replace hQ := hQ.tr hx3
        replace hW := hx3.w hW
        suffices J4 : Run (d + 8) 0 0 mX12_fits 58 [vR M, vI ((j : Nat) : Int), vI ((k : Nat) : Int), vI (bI (allB (rowB w b j k) q)), vI (((3 * q) : Nat) : Int)] [vI (bI (decide (b (3 * q + 2) = 1))), vI (bI (frH w k j (b (3 * q + 1)).toNat (b (3 * q))))] g h3 P by
          refine aL0 dX12_fits_40 ?_
          refine R_getR dX12_fits_41 fX12_29.r hG.o rfl ?_
          refine iL4 dX12_fits_44 ?_
          refine R_iconst_2 dX12_fits_46 ?_
          refine addV dX12_fits_47 (v := ((((3 * q) + 2) : Nat) : Int)) (by rw [wid (by omega) (by omega)]; omega) ?_
          refine baldN dX12_fits_48 hG.a6 rfl (by omega) ?_
          refine topV (v := b ((3 * q) + 2)) (by rw [hQ.keep (by omega)]; exact hTc _ (by omega)) ?_
          refine R_iconst_1 dX12_fits_49 ?_
          refine R_icmp_ne dX12_fits_50 (fun hb50 => ?_) (fun hb50 => ?_)
          · refine R_iconst_0 dX12_fits_57 ?_
            exact topV (v := bI (decide (b (3 * q + 2) = 1))) (by first | (rw [bI_t (by first | assumption | (simp; omega))]) | (rw [bI_f (by first | assumption | (simp; omega))])) J4
          · refine R_iconst_1 dX12_fits_53 ?_
            refine R_goto dX12_fits_54 ?_
            exact topV (v := bI (decide (b (3 * q + 2) = 1))) (by first | (rw [bI_t (by first | assumption | (simp; omega))]) | (rw [bI_f (by first | assumption | (simp; omega))])) J4
        refine R_icmp_ne dX12_fits_58 (fun hb58 => ?_) (fun hb58 => ?_)
        · refine R_iconst_0 dX12_fits_65 ?_
          exact topV (v := bI ((allB (rowB w b j k) q && rowB w b j k q))) (by first | (rw [bI_f (by rw [hb15, Bool.false_and])]; done) | (rw [bI_t (by rw [hb15, Bool.true_and]; exact eqB_t hb58)]; done) | (rw [bI_f (by rw [hb15, Bool.true_and]; exact eqB_f hb58)]; done)) (J2 _ hQ hW)
        · refine R_iconst_1 dX12_fits_61 ?_
          refine R_goto dX12_fits_62 ?_
          exact topV (v := bI ((allB (rowB w b j k) q && rowB w b j k q))) (by first | (rw [bI_f (by rw [hb15, Bool.false_and])]; done) | (rw [bI_t (by rw [hb15, Bool.true_and]; exact eqB_t hb58)]; done) | (rw [bI_f (by rw [hb15, Bool.true_and]; exact eqB_f hb58)]; done)) (J2 _ hQ hW)
    intro hJ2 hQ hW
    refine iS3 dX12_fits_66 ?_
    refine iInc4 dX12_fits_67 (wid (by omega) (by omega)) ?_
    refine R_goto dX12_fits_70 ?_
    exact eqI3 (by rw [allB_s]) (eqI4 (by omega) (ihq (by omega) _ hQ hW))
set_option maxHeartbeats 2000000 in
theorem C_X12_meals {d : Nat} {g : Gs} {h : Hc} {P : Po} {M : Nat} {w : Nat → Int} (hG : MdG g M) (hW : h (M + 1) = w) (hf : WF w) (hl : LawOK w) {b : Nat → Int} {E : Nat} (hT : h M 9 = (E : Int)) (hL : E ≤ 400) (hTp : TpB M h b E) {x : Int} {bl : Bool} (KE1 : ¬ (0 ≤ x ∧ x < w 0) → ∀ h', Us M h h' (E : Int) 1 → P (.inl (some (vI 0))) g h') (KE2 : 0 ≤ x ∧ x < w 0 → mealB w b E = false → ∀ h', Us M h h' (E : Int) 2 → P (.inl (some (vI 0))) g h') (K0 : ∀ j : Nat, x = (j : Int) → (j : Int) < w 0 → mealB w b E = true → ∀ h', Us M h h' (E : Int) 0 → P (.inl (some (vI (if bl then ff (fitB w b j E) 0 61 else ((cntB (fitB w b j E) 61 : Nat) : Int))))) g h') : Call (d + 10) 0 0 mX12_meals [vR M, vI x, vI (bI (bl))] g h P := by
  have hcs := hf.cas
  have hjd := hf.jud
  have hho := hf.hou
  refine Call_of rfl ⟨by decide +kernel, rfl⟩ (Nat.le_of_ble_eq_true rfl) rfl ?_
  refine aL0 dX12_meals_0 ?_
  refine invV0 rfl dX12_meals_1 kX12_263 hG.o (Nat.le_of_ble_eq_true rfl) (Nat.zero_le _) (Nat.zero_le _) (C_X12_uses hG hW hT (fun h1 hU hp10 => konV ?_))
  replace hW := hU.w hW
  have hQ : Mz M h1 h1 := Mz.rf _ _
  have hE : h1 M 11 = (E : Int) := hU.2.2.2.2
  have hTp1 : TpB M h1 b E := fun k hk => by rw [hU.t]; exact hTp k hk
  replace hTp := hTp1
  refine aL0 dX12_meals_4 ?_
  refine aL0 dX12_meals_5 ?_
  refine iL1 dX12_meals_6 ?_
  refine invV1 rfl dX12_meals_7 kX12_383 hG.o (Nat.le_of_ble_eq_true rfl) (Nat.zero_le _) (Nat.zero_le _) (C_X12_noJudge hG hW hf (konI ?_))
  refine R_iconst_1 dX12_meals_10 ?_
  refine invV2 rfl dX12_meals_11 kX12_274 hG.o (Nat.le_of_ble_eq_true rfl) (Nat.zero_le _) (Nat.zero_le _) (C_X12_throwsIf hG (fun h11 hth11 => konI ?_))
  refine R_ifB_ne dX12_meals_14 (fun hb14 => ?_) (fun hb14 => ?_)
  · have hPX := hU.th hth11 hb14
    refine R_iconst_0 dX12_meals_37 ?_
    exact R_iret dX12_meals_38 rfl (KE1 (noB_t hb14) _ hPX)
  · have hsame : h11 = h1 := by have := hth11; unfold ThI at this; rw [hb14] at this; exact this
    rw [hsame]
    have hx1 := noB_f hb14
    obtain ⟨j, rfl⟩ : ∃ j : Nat, x = (j : Int) := ⟨x.toNat, by omega⟩
    refine aL0 dX12_meals_17 ?_
    suffices J12 : Run (d + 10) 0 0 mX12_meals 30 [vR M, vI ((j : Nat) : Int), vI (bI (bl)), vU, vU, vU] [vI (bI (!mealB w b E)), vR M] g h1 P by
      refine aL0 dX12_meals_18 ?_
      refine invV0 rfl dX12_meals_19 kX12_444 hG.o (Nat.le_of_ble_eq_true rfl) (Nat.zero_le _) (Nat.zero_le _) (C_X12_isMeals hG hW hf hE hL hTp (konI ?_))
      refine R_ifB_ne dX12_meals_22 (fun hb22 => ?_) (fun hb22 => ?_)
      · refine R_iconst_0 dX12_meals_29 ?_
        exact topV (v := bI (!mealB w b E)) (by first | (rw [bI_t (by rw [hb22]; rfl)]; done) | (rw [bI_f (by rw [hb22]; rfl)]; done)) J12
      · refine R_iconst_1 dX12_meals_25 ?_
        refine R_goto dX12_meals_26 ?_
        exact topV (v := bI (!mealB w b E)) (by first | (rw [bI_t (by rw [hb22]; rfl)]; done) | (rw [bI_f (by rw [hb22]; rfl)]; done)) J12
    refine R_iconst_2 dX12_meals_30 ?_
    refine invV2 rfl dX12_meals_31 kX12_274 hG.o (Nat.le_of_ble_eq_true rfl) (Nat.zero_le _) (Nat.zero_le _) (C_X12_throwsIf hG (fun h13 hth13 => konI ?_))
    refine R_ifB_eq dX12_meals_34 (fun hb34 => ?_) (fun hb34 => ?_)
    · have hsame : h13 = h1 := by have := hth13; unfold ThI at this; rw [hb34] at this; exact this
      rw [hsame]
      have hmt : mealB w b E = true := by cases h9 : mealB w b E <;> simp [h9] at hb34 ⊢
      obtain ⟨hMl, hTc⟩ := meal_ok hf hmt hTp
      replace hTc : ∀ k, k < E → h1 (M + 6) k = b k := hTc
      refine R_iconst_0 dX12_meals_39 ?_
      refine iS3 dX12_meals_40 ?_
      refine R_iconst_m1 dX12_meals_41 ?_
      refine iS4 dX12_meals_42 ?_
      refine R_bipush dX12_meals_44 (by decide) ?_
      refine iS5 dX12_meals_46 ?_
      refine eqI3 (v := ((cntB (fitB w b j E) 61 - cntB (fitB w b j E) (61 - 0) : Nat) : Int)) (by rw [Nat.sub_zero, Nat.sub_self]; rfl) ?_
      refine eqI4 (v := ff (fitB w b j E) (61 - 0) 61) (by rw [ff_end (by omega)]) ?_
      refine eqI5 (v := 60 - ((0 : Nat) : Int)) (by omega) ?_
      refine loopN (61) (fun q => ∀ hK14 : Hc, Mz M h1 hK14 → hK14 (M + 1) = w →  Run (d + 10) 0 0 mX12_meals 48 [vR M, vI ((j : Nat) : Int), vI (bI (bl)), vI (((cntB (fitB w b j E) 61 - cntB (fitB w b j E) (61 - q)) : Nat) : Int), vI (ff (fitB w b j E) (61 - q) 61), vI (60 - (q : Int))] [] g hK14 P) (fun q hcnq ihq hK14 hQ hW  => ?_) (0) (Nat.zero_le _) _ hQ hW
      have hcl := cntB_le (fitB w b j E) 61
      refine iL5 dX12_meals_48 ?_
      refine R_if_lt dX12_meals_50 (fun hb50 => ?_) (fun hb50 => ?_)
      · have e9 : q = 61 := by omega
        subst e9
        refine iL2 dX12_meals_79 ?_
        refine R_ifB_eq dX12_meals_80 (fun hb80 => ?_) (fun hb80 => ?_)
        · refine iL3 dX12_meals_88 ?_
          exact R_iret dX12_meals_89 rfl (PeqI (K0 j rfl (by omega) hmt _ (hU.q hQ)) (by rw [hb80]; first | rfl | (rw [if_pos rfl]) | (rw [if_neg (by decide)]; show ((_ - cntB (fitB w b j E) 0 : Nat) : Int) = _; rw [cntB_0, Nat.sub_zero])))
        · refine iL4 dX12_meals_83 ?_
          refine R_goto dX12_meals_85 ?_
          exact R_iret dX12_meals_89 rfl (PeqI (K0 j rfl (by omega) hmt _ (hU.q hQ)) (by rw [hb80]; first | rfl | (rw [if_pos rfl]) | (rw [if_neg (by decide)]; show ((_ - cntB (fitB w b j E) 0 : Nat) : Int) = _; rw [cntB_0, Nat.sub_zero])))
      · refine aL0 dX12_meals_53 ?_
        refine iL1 dX12_meals_54 ?_
        refine iL5 dX12_meals_55 ?_
        refine topV (v := (((61 - (q + 1)) : Nat) : Int)) (by omega) ?_
        have hkq : 60 - (q : Int) = ((61 - (q + 1) : Nat) : Int) := by omega
        refine invV2 rfl dX12_meals_57 kX12_447 hG.o (Nat.le_of_ble_eq_true rfl) (Nat.zero_le _) (Nat.zero_le _) (C_X12_fits hG hW hf hl (E := E) (b := b) (by rw [hQ.2 11 (by omega)]; exact hE) hMl (fun i hi => by rw [hQ.1 (M + 6) (by unfold mqs; omega)]; exact hTc i hi) (by omega) (by omega) (fun h15 hx15 => konI ?_))
        replace hQ := hQ.tr (Mq.z hx15)
        replace hW := hx15.w hW
        refine R_ifB_ne dX12_meals_60 (fun hb60 => ?_) (fun hb60 => ?_)
        · refine iInc3 dX12_meals_66 (winc (by omega)) ?_
          refine iL5 dX12_meals_69 ?_
          refine iS4 dX12_meals_71 ?_
          refine iInc5 dX12_meals_73 (wid (by omega) (by omega)) ?_
          refine R_goto dX12_meals_76 ?_
          exact eqI3 (by first | (have := cntD_f (p := fitB w b j E) (n := 61) (q := q) (by omega) hb60; omega) | (have := cntD_t (p := fitB w b j E) (n := 61) (q := q) (by omega) hb60; omega)) (eqI4 (by first | (exact ff_dt (p := fitB w b j E) (n := 61) (by omega) (by omega) hb60) | (exact ff_df (p := fitB w b j E) (n := 61) (by omega) hb60)) (eqI5 (by omega) (ihq (by omega) _ hQ hW)))
        · refine R_goto dX12_meals_63 ?_
          refine iInc5 dX12_meals_73 (wid (by omega) (by omega)) ?_
          refine R_goto dX12_meals_76 ?_
          exact eqI3 (by first | (have := cntD_f (p := fitB w b j E) (n := 61) (q := q) (by omega) hb60; omega) | (have := cntD_t (p := fitB w b j E) (n := 61) (q := q) (by omega) hb60; omega)) (eqI4 (by first | (exact ff_dt (p := fitB w b j E) (n := 61) (by omega) (by omega) hb60) | (exact ff_df (p := fitB w b j E) (n := 61) (by omega) hb60)) (eqI5 (by omega) (ihq (by omega) _ hQ hW)))
    · have hPX := hU.th hth13 hb34
      refine R_iconst_0 dX12_meals_37 ?_
      exact R_iret dX12_meals_38 rfl (KE2 (by omega) (by simpa using hb34) _ hPX)
def tmV (w b : Nat → Int) (j E c : Nat) : Int := if w (104 + 7 * c) = 0 ∧ 2 ≤ cntB (fitB w b j E) 61 then mx2 ((cntB (fun k => fitB w b j E k && frH w k j c (w 4)) 61 : Nat) : Int) ((cntB (fun k => fitB w b j E k && !frH w k j c (w 4)) 61 : Nat) : Int) else 1000000
def tmS (w b : Nat → Int) (j E c : Nat) (a : Int × Int) : Int × Int := (if tmV w b j E c < a.2 then (c : Int) else a.1, if tmV w b j E c < a.2 then tmV w b j E c else a.2)
def tmF (w b : Nat → Int) (j E : Nat) : Nat → Int × Int := foldN (tmS w b j E) (-1, 1000000)
theorem tmF_s (w b : Nat → Int) (j E n : Nat) : tmF w b j E (n + 1) = tmS w b j E n (tmF w b j E n) := rfl
theorem cnt_split (p q : Nat → Bool) : ∀ n, cntB (fun k => p k && q k) n + cntB (fun k => p k && !q k) n = cntB p n
  | 0 => rfl
  | n + 1 => by
    have ih := cnt_split p q n
    cases h1 : p n <;> cases h2 : q n
    · rw [cntB_f (by simp [h1]), cntB_f (by simp [h1]), cntB_f h1]; exact ih
    · rw [cntB_f (by simp [h1]), cntB_f (by simp [h1]), cntB_f h1]; exact ih
    · rw [cntB_f (by simp [h2]), cntB_t (by simp [h1, h2]), cntB_t h1]; omega
    · rw [cntB_t (by simp [h1, h2]), cntB_f (by simp [h2]), cntB_t h1]; omega
theorem pcN_fit (p : Nat → Bool) : pcN (nset p 61) = cntB p 61 := by
  unfold pcN
  rw [cntB_up (a := 61) (b := 64) (by omega) (fun k h1 _ => by rw [nset_bit]; simp; omega)]
  exact cntB_cong (fun k hk => by rw [nset_bit]; simp [hk])
theorem tm_v {w b : Nat → Int} {j E c : Nat} (h1 : w (104 + 7 * c) = 0) (h2 : 2 ≤ cntB (fitB w b j E) 61) : tmV w b j E c = tryV w j (nset (fitB w b j E) 61) c ∧ 0 ≤ tmV w b j E c ∧ tmV w b j E c ≤ cntB (fitB w b j E) 61 := by
  have e1 : tryN w j (nset (fitB w b j E) 61) c = cntB (fun k => fitB w b j E k && frH w k j c (w 4)) 61 := by
    unfold tryN
    exact cntB_cong (fun k hk => by rw [nset_bit]; simp [hk])
  have e2 := cnt_split (fitB w b j E) (fun k => frH w k j c (w 4)) 61
  unfold tmV tryV
  rw [if_pos ⟨h1, h2⟩, e1, pcN_fit]
  refine ⟨by congr 1; omega, ?_, ?_⟩ <;> unfold mx2 <;> split <;> omega
theorem tm_eq {w b : Nat → Int} {j E : Nat} (h2 : 2 ≤ cntB (fitB w b j E) 61) (hA : cntB (fitB w b j E) 61 ≤ 61) : ∀ n, ((tryF w j (nset (fitB w b j E) 61) n) = (-1, ((cntB (fitB w b j E) 61 : Nat) : Int) + 1) ∧ tmF w b j E n = (-1, 1000000)) ∨ (tmF w b j E n = tryF w j (nset (fitB w b j E) 61) n ∧ (tmF w b j E n).2 ≤ cntB (fitB w b j E) 61)
  | 0 => by
    left
    refine ⟨?_, rfl⟩
    show ((-1 : Int), ((pcN (nset (fitB w b j E) 61) : Nat) : Int) + 1) = _
    rw [pcN_fit]
  | n + 1 => by
    have ih := tm_eq h2 hA n
    rw [tmF_s, tryF_s]
    unfold tmS tryS
    by_cases hw : w (104 + 7 * n) = 0
    · obtain ⟨v1, v2, v3⟩ := tm_v (b := b) (j := j) (E := E) hw h2
      right
      rcases ih with ⟨a1, a2⟩ | ⟨a1, a2⟩
      · rw [a1, a2, if_pos (show tmV w b j E n < (-1, (1000000 : Int)).2 by show tmV w b j E n < 1000000; omega), if_pos (show tmV w b j E n < (-1, (1000000 : Int)).2 by show tmV w b j E n < 1000000; omega), if_pos ⟨hw, by rw [← v1]; show tmV w b j E n < _ + 1; omega⟩, v1]
        exact ⟨rfl, by rw [← v1]; exact v3⟩
      · rw [← a1, ← v1]
        by_cases hl : tmV w b j E n < (tmF w b j E n).2
        · rw [if_pos hl, if_pos hl, if_pos ⟨hw, hl⟩]; exact ⟨rfl, v3⟩
        · rw [if_neg hl, if_neg hl, if_neg (fun q => hl q.2)]; exact ⟨rfl, a2⟩
    · have v1 : tmV w b j E n = 1000000 := by unfold tmV; rw [if_neg (fun q => hw q.1)]
      have v2 : ¬ tmV w b j E n < (tmF w b j E n).2 := by
        rcases ih with ⟨_, a2⟩ | ⟨_, a2⟩
        · rw [v1, a2]; decide
        · rw [v1]; omega
      rw [if_neg v2, if_neg v2, if_neg (fun q => hw q.1)]
      exact ih
theorem tm_end {w b : Nat → Int} {j E : Nat} : (tmF w b j E (w 1).toNat).1 = tryW w j (nset (fitB w b j E) 61) := by
  unfold tryW
  rw [pcN_fit]
  by_cases h2 : 2 ≤ cntB (fitB w b j E) 61
  · rw [if_pos h2]
    rcases tm_eq h2 (cntB_le _ _) (w 1).toNat with ⟨a1, a2⟩ | ⟨a1, _⟩
    · rw [a1, a2]
    · rw [a1]
  · rw [if_neg h2]
    have : ∀ n, tmF w b j E n = (-1, 1000000) := by
      intro n
      induction n with
      | zero => rfl
      | succ n ih =>
        rw [tmF_s, ih]
        have v1 : tmV w b j E n = 1000000 := by unfold tmV; rw [if_neg (fun q => h2 q.2)]
        unfold tmS
        rw [v1]
        rfl
    rw [this]
theorem tm_rng {w b : Nat → Int} {j E : Nat} : ∀ n, 0 ≤ (tmF w b j E n).2 ∧ (tmF w b j E n).2 ≤ 1000000
  | 0 => by show (0 : Int) ≤ 1000000 ∧ (1000000 : Int) ≤ 1000000; omega
  | n + 1 => by
    have ih := tm_rng (w := w) (b := b) (j := j) (E := E) n
    have hv : 0 ≤ tmV w b j E n := by unfold tmV mx2; (repeat' split) <;> omega
    rw [tmF_s]
    unfold tmS
    dsimp only
    split <;> omega
theorem tm_one {y n : Nat} {t : Int} (h : (if y + n < 2 then (1000000 : Int) else mx2 y n) = t) (q : y + n < 2) : 1000000 = t := by rw [← h, if_pos q]
theorem tm_two {y n : Nat} {t : Int} (h : (if y + n < 2 then (1000000 : Int) else mx2 y n) = t) (q : ¬ y + n < 2) : mx2 y n = t := by rw [← h, if_neg q]
theorem tm_val {w b : Nat → Int} {j E c y n q : Nat} (hy : y = cntB (fun k => fitB w b j E k && frH w k j c (w 4)) q) (hn : n = cntB (fun k => fitB w b j E k && !frH w k j c (w 4)) q) (hq : (w (104 + 7 * c) = 0 → q = 61) ∧ (¬ w (104 + 7 * c) = 0 → q = 0)) : (if y + n < 2 then (1000000 : Int) else mx2 y n) = tmV w b j E c := by
  unfold tmV
  by_cases h : w (104 + 7 * c) = 0
  · have e := hq.1 h
    subst e
    have e2 := cnt_split (fitB w b j E) (fun k => frH w k j c (w 4)) 61
    rw [← hy, ← hn] at e2
    by_cases h2 : y + n < 2
    · rw [if_pos h2, if_neg (fun z => by omega)]
    · rw [if_neg h2, if_pos ⟨h, by omega⟩, hy, hn]
  · have e := hq.2 h
    subst e
    rw [cntB_0] at hy hn
    rw [if_pos (by omega), if_neg (fun z => h z.1)]
set_option maxHeartbeats 4000000 in
theorem C_X12_tries {d : Nat} {g : Gs} {h : Hc} {P : Po} {M : Nat} {w : Nat → Int} (hG : MdG g M) (hW : h (M + 1) = w) (hf : WF w) (hl : LawOK w) {b : Nat → Int} {E : Nat} (hT : h M 9 = (E : Int)) (hL : E ≤ 400) (hTp : TpB M h b E) {x : Int} (KE1 : ¬ (0 ≤ x ∧ x < w 0) → ∀ h', Us M h h' (E : Int) 1 → P (.inl (some (vI 0))) g h') (KE2 : 0 ≤ x ∧ x < w 0 → mealB w b E = false → ∀ h', Us M h h' (E : Int) 2 → P (.inl (some (vI 0))) g h') (K0 : ∀ j : Nat, x = (j : Int) → (j : Int) < w 0 → mealB w b E = true → ∀ h', Us M h h' (E : Int) 0 → P (.inl (some (vI (tryW w j (nset (fitB w b j E) 61))))) g h') : Call (d + 10) 0 0 mX12_tries [vR M, vI x] g h P := by
  have hcs := hf.cas
  have hjd := hf.jud
  have hho := hf.hou
  refine Call_of rfl ⟨by decide +kernel, rfl⟩ (Nat.le_of_ble_eq_true rfl) rfl ?_
  refine aL0 dX12_tries_0 ?_
  refine invV0 rfl dX12_tries_1 kX12_263 hG.o (Nat.le_of_ble_eq_true rfl) (Nat.zero_le _) (Nat.zero_le _) (C_X12_uses hG hW hT (fun h1 hU hp10 => konV ?_))
  replace hW := hU.w hW
  have hQ : Mz M h1 h1 := Mz.rf _ _
  have hE : h1 M 11 = (E : Int) := hU.2.2.2.2
  have hTp1 : TpB M h1 b E := fun k hk => by rw [hU.t]; exact hTp k hk
  replace hTp := hTp1
  refine aL0 dX12_tries_4 ?_
  refine aL0 dX12_tries_5 ?_
  refine iL1 dX12_tries_6 ?_
  refine invV1 rfl dX12_tries_7 kX12_383 hG.o (Nat.le_of_ble_eq_true rfl) (Nat.zero_le _) (Nat.zero_le _) (C_X12_noJudge hG hW hf (konI ?_))
  refine R_iconst_1 dX12_tries_10 ?_
  refine invV2 rfl dX12_tries_11 kX12_274 hG.o (Nat.le_of_ble_eq_true rfl) (Nat.zero_le _) (Nat.zero_le _) (C_X12_throwsIf hG (fun h11 hth11 => konI ?_))
  refine R_ifB_ne dX12_tries_14 (fun hb14 => ?_) (fun hb14 => ?_)
  · have hPX := hU.th hth11 hb14
    refine R_iconst_0 dX12_tries_37 ?_
    exact R_iret dX12_tries_38 rfl (KE1 (noB_t hb14) _ hPX)
  · have hsame : h11 = h1 := by have := hth11; unfold ThI at this; rw [hb14] at this; exact this
    rw [hsame]
    have hx1 := noB_f hb14
    obtain ⟨j, rfl⟩ : ∃ j : Nat, x = (j : Int) := ⟨x.toNat, by omega⟩
    refine aL0 dX12_tries_17 ?_
    suffices J12 : Run (d + 10) 0 0 mX12_tries 30 [vR M, vI ((j : Nat) : Int), vU, vU, vU, vU, vU, vU, vU, vU] [vI (bI (!mealB w b E)), vR M] g h1 P by
      refine aL0 dX12_tries_18 ?_
      refine invV0 rfl dX12_tries_19 kX12_444 hG.o (Nat.le_of_ble_eq_true rfl) (Nat.zero_le _) (Nat.zero_le _) (C_X12_isMeals hG hW hf hE hL hTp (konI ?_))
      refine R_ifB_ne dX12_tries_22 (fun hb22 => ?_) (fun hb22 => ?_)
      · refine R_iconst_0 dX12_tries_29 ?_
        exact topV (v := bI (!mealB w b E)) (by first | (rw [bI_t (by rw [hb22]; rfl)]; done) | (rw [bI_f (by rw [hb22]; rfl)]; done)) J12
      · refine R_iconst_1 dX12_tries_25 ?_
        refine R_goto dX12_tries_26 ?_
        exact topV (v := bI (!mealB w b E)) (by first | (rw [bI_t (by rw [hb22]; rfl)]; done) | (rw [bI_f (by rw [hb22]; rfl)]; done)) J12
    refine R_iconst_2 dX12_tries_30 ?_
    refine invV2 rfl dX12_tries_31 kX12_274 hG.o (Nat.le_of_ble_eq_true rfl) (Nat.zero_le _) (Nat.zero_le _) (C_X12_throwsIf hG (fun h13 hth13 => konI ?_))
    refine R_ifB_eq dX12_tries_34 (fun hb34 => ?_) (fun hb34 => ?_)
    · have hsame : h13 = h1 := by have := hth13; unfold ThI at this; rw [hb34] at this; exact this
      rw [hsame]
      have hmt : mealB w b E = true := by cases h9 : mealB w b E <;> simp [h9] at hb34 ⊢
      obtain ⟨hMl, hTc⟩ := meal_ok hf hmt hTp
      replace hTc : ∀ k, k < E → h1 (M + 6) k = b k := hTc
      refine R_iconst_m1 dX12_tries_39 ?_
      refine iS2 dX12_tries_40 ?_
      refine R_ldcI dX12_tries_41 qX12_147 (by decide) ?_
      refine iS3 dX12_tries_43 ?_
      refine R_iconst_0 dX12_tries_44 ?_
      refine iS4 dX12_tries_45 ?_
      refine loopN ((w 1).toNat) (fun c => ∀ hK14 : Hc, Mz M h1 hK14 → hK14 (M + 1) = w → ∀ v5 v6 v7 v8 v9 : AV,  Run (d + 10) 0 0 mX12_tries 47 [vR M, vI ((j : Nat) : Int), vI ((tmF w b j E c).1), vI ((tmF w b j E c).2), vI ((c : Nat) : Int), v5, v6, v7, v8, v9] [] g hK14 P) (fun c hcnc ihc hK14 hQ hW v5 v6 v7 v8 v9 => ?_) (0) (Nat.zero_le _) _ hQ hW _ _ _ _ _
      have htr := tm_rng (w := w) (b := b) (j := j) (E := E) c
      refine iL4 dX12_tries_47 ?_
      refine aL0 dX12_tries_49 ?_
      refine invV0 rfl dX12_tries_50 kX12_90 hG.o (Nat.le_of_ble_eq_true rfl) (Nat.zero_le _) (Nat.zero_le _) (C_X12_cases hG hW hf (konI ?_))
      have hcs := hf.cas
      refine R_icmp_ge dX12_tries_53 (fun hb53 => ?_) (fun hb53 => ?_)
      · have e9 : c = (w 1).toNat := by omega
        subst e9
        refine iL2 dX12_tries_210 ?_
        exact R_iret dX12_tries_211 rfl (by have := K0 j rfl (by omega) hmt _ (hU.q hQ); rw [← tm_end] at this; exact this)
      · refine R_iconst_0 dX12_tries_56 ?_
        refine iS5 dX12_tries_57 ?_
        refine R_iconst_0 dX12_tries_59 ?_
        refine iS6 dX12_tries_60 ?_
        refine R_iconst_0 dX12_tries_62 ?_
        refine iS7 dX12_tries_63 ?_
        refine loopN (61) (fun q => ∀ hK15 : Hc, Mz M h1 hK15 → hK15 (M + 1) = w → (¬ w (104 + 7 * c) = 0 → q = 0) → ∀ v8 v9 : AV,  Run (d + 10) 0 0 mX12_tries 65 [vR M, vI ((j : Nat) : Int), vI ((tmF w b j E c).1), vI ((tmF w b j E c).2), vI ((c : Nat) : Int), vI ((cntB (fun k => fitB w b j E k && frH w k j c (w 4)) q : Nat) : Int), vI ((cntB (fun k => fitB w b j E k && !frH w k j c (w 4)) q : Nat) : Int), vI ((q : Nat) : Int), v8, v9] [] g hK15 P) (fun q hcnq ihq hK15 hQ hW hq0 v8 v9 => ?_) (0) (Nat.zero_le _) _ hQ hW (fun _ => rfl) _ _
        have hy61 := cntB_le (fun k => fitB w b j E k && frH w k j c (w 4)) q
        have hn61 := cntB_le (fun k => fitB w b j E k && !frH w k j c (w 4)) q
        refine iL7 dX12_tries_65 ?_
        refine R_bipush dX12_tries_67 (by decide) ?_
        refine R_icmp_ge dX12_tries_69 (fun hb69 => ?_) (fun hb69 => ?_)
        · have hqq : (w (104 + 7 * c) = 0 → q = 61) ∧ (¬ w (104 + 7 * c) = 0 → q = 0) := ⟨fun _ => by omega, hq0⟩
          have htv := tm_val (w := w) (b := b) (j := j) (E := E) (c := c) (y := cntB (fun k => fitB w b j E k && frH w k j c (w 4)) q) (n := cntB (fun k => fitB w b j E k && !frH w k j c (w 4)) q) rfl rfl hqq
          suffices J16 : Run (d + 10) 0 0 mX12_tries 182 [vR M, vI ((j : Nat) : Int), vI ((tmF w b j E c).1), vI ((tmF w b j E c).2), vI ((c : Nat) : Int), vI ((cntB (fun k => fitB w b j E k && frH w k j c (w 4)) q : Nat) : Int), vI ((cntB (fun k => fitB w b j E k && !frH w k j c (w 4)) q : Nat) : Int), vI ((q : Nat) : Int), v8, v9] [vI (tmV w b j E c)] g hK15 P by
            refine iL5 dX12_tries_161 ?_
            refine iL6 dX12_tries_163 ?_
            refine addV dX12_tries_165 (v := (((cntB (fun k => fitB w b j E k && frH w k j c (w 4)) q + cntB (fun k => fitB w b j E k && !frH w k j c (w 4)) q) : Nat) : Int)) (by rw [wid (by omega) (by omega)]; omega) ?_
            refine R_iconst_2 dX12_tries_166 ?_
            refine R_icmp_ge dX12_tries_167 (fun hb167 => ?_) (fun hb167 => ?_)
            · refine iL5 dX12_tries_175 ?_
              refine iL6 dX12_tries_177 ?_
              refine R_mmax dX12_tries_179 kX12_313 lb_max (Nat.le_of_ble_eq_true rfl) ?_
              exact topV (v := tmV w b j E c) (by first | exact tm_one htv (by omega) | exact tm_two htv (by omega)) J16
            · refine R_ldcI dX12_tries_170 qX12_147 (by decide) ?_
              refine R_goto dX12_tries_172 ?_
              exact topV (v := tmV w b j E c) (by first | exact tm_one htv (by omega) | exact tm_two htv (by omega)) J16
          refine iS7 dX12_tries_182 ?_
          suffices J17 : Run (d + 10) 0 0 mX12_tries 196 [vR M, vI ((j : Nat) : Int), vI ((tmF w b j E c).1), vI ((tmF w b j E c).2), vI ((c : Nat) : Int), vI ((cntB (fun k => fitB w b j E k && frH w k j c (w 4)) q : Nat) : Int), vI ((cntB (fun k => fitB w b j E k && !frH w k j c (w 4)) q : Nat) : Int), vI (tmV w b j E c), v8, v9] [vI ((if tmV w b j E c < (tmF w b j E c).2 then (c : Int) else (tmF w b j E c).1))] g hK15 P by
            refine iL7 dX12_tries_184 ?_
            refine iL3 dX12_tries_186 ?_
            refine R_icmp_ge dX12_tries_187 (fun hb187 => ?_) (fun hb187 => ?_)
            · refine iL2 dX12_tries_195 ?_
              exact topV (v := (if tmV w b j E c < (tmF w b j E c).2 then (c : Int) else (tmF w b j E c).1)) (by first | (rw [if_pos (by omega)]; done) | (rw [if_neg (by omega)]; done)) J17
            · refine iL4 dX12_tries_190 ?_
              refine R_goto dX12_tries_192 ?_
              exact topV (v := (if tmV w b j E c < (tmF w b j E c).2 then (c : Int) else (tmF w b j E c).1)) (by first | (rw [if_pos (by omega)]; done) | (rw [if_neg (by omega)]; done)) J17
          refine iS2 dX12_tries_196 ?_
          refine iL3 dX12_tries_197 ?_
          refine iL7 dX12_tries_198 ?_
          refine R_mmin dX12_tries_200 kX12_318 lb_min (Nat.le_of_ble_eq_true rfl) ?_
          refine iS3 dX12_tries_203 ?_
          refine iInc4 dX12_tries_204 (winc (by omega)) ?_
          refine R_goto dX12_tries_207 ?_
          exact eqI2 (by rw [tmF_s]; rfl) (eqI3 (by rw [tmF_s]; rfl) (ihc (by omega) _ hQ hW _ _ _ _ _))
        · refine aL0 dX12_tries_72 ?_
          refine iL4 dX12_tries_73 ?_
          refine invV1 rfl dX12_tries_75 kX12_321 hG.o (Nat.le_of_ble_eq_true rfl) (Nat.zero_le _) (Nat.zero_le _) (C_X12_isWaiting hG hW hf (by omega) (konI ?_))
          refine R_ifB_eq dX12_tries_78 (fun hb78 => ?_) (fun hb78 => ?_)
          · have hqq : (w (104 + 7 * c) = 0 → q = 61) ∧ (¬ w (104 + 7 * c) = 0 → q = 0) := ⟨fun h9 => absurd h9 (of_decide_eq_false hb78), hq0⟩
            have htv := tm_val (w := w) (b := b) (j := j) (E := E) (c := c) (y := cntB (fun k => fitB w b j E k && frH w k j c (w 4)) q) (n := cntB (fun k => fitB w b j E k && !frH w k j c (w 4)) q) rfl rfl hqq
            suffices J18 : Run (d + 10) 0 0 mX12_tries 182 [vR M, vI ((j : Nat) : Int), vI ((tmF w b j E c).1), vI ((tmF w b j E c).2), vI ((c : Nat) : Int), vI ((cntB (fun k => fitB w b j E k && frH w k j c (w 4)) q : Nat) : Int), vI ((cntB (fun k => fitB w b j E k && !frH w k j c (w 4)) q : Nat) : Int), vI ((q : Nat) : Int), v8, v9] [vI (tmV w b j E c)] g hK15 P by
              refine iL5 dX12_tries_161 ?_
              refine iL6 dX12_tries_163 ?_
              refine addV dX12_tries_165 (v := (((cntB (fun k => fitB w b j E k && frH w k j c (w 4)) q + cntB (fun k => fitB w b j E k && !frH w k j c (w 4)) q) : Nat) : Int)) (by rw [wid (by omega) (by omega)]; omega) ?_
              refine R_iconst_2 dX12_tries_166 ?_
              refine R_icmp_ge dX12_tries_167 (fun hb167 => ?_) (fun hb167 => ?_)
              · refine iL5 dX12_tries_175 ?_
                refine iL6 dX12_tries_177 ?_
                refine R_mmax dX12_tries_179 kX12_313 lb_max (Nat.le_of_ble_eq_true rfl) ?_
                exact topV (v := tmV w b j E c) (by first | exact tm_one htv (by omega) | exact tm_two htv (by omega)) J18
              · refine R_ldcI dX12_tries_170 qX12_147 (by decide) ?_
                refine R_goto dX12_tries_172 ?_
                exact topV (v := tmV w b j E c) (by first | exact tm_one htv (by omega) | exact tm_two htv (by omega)) J18
            refine iS7 dX12_tries_182 ?_
            suffices J19 : Run (d + 10) 0 0 mX12_tries 196 [vR M, vI ((j : Nat) : Int), vI ((tmF w b j E c).1), vI ((tmF w b j E c).2), vI ((c : Nat) : Int), vI ((cntB (fun k => fitB w b j E k && frH w k j c (w 4)) q : Nat) : Int), vI ((cntB (fun k => fitB w b j E k && !frH w k j c (w 4)) q : Nat) : Int), vI (tmV w b j E c), v8, v9] [vI ((if tmV w b j E c < (tmF w b j E c).2 then (c : Int) else (tmF w b j E c).1))] g hK15 P by
              refine iL7 dX12_tries_184 ?_
              refine iL3 dX12_tries_186 ?_
              refine R_icmp_ge dX12_tries_187 (fun hb187 => ?_) (fun hb187 => ?_)
              · refine iL2 dX12_tries_195 ?_
                exact topV (v := (if tmV w b j E c < (tmF w b j E c).2 then (c : Int) else (tmF w b j E c).1)) (by first | (rw [if_pos (by omega)]; done) | (rw [if_neg (by omega)]; done)) J19
              · refine iL4 dX12_tries_190 ?_
                refine R_goto dX12_tries_192 ?_
                exact topV (v := (if tmV w b j E c < (tmF w b j E c).2 then (c : Int) else (tmF w b j E c).1)) (by first | (rw [if_pos (by omega)]; done) | (rw [if_neg (by omega)]; done)) J19
            refine iS2 dX12_tries_196 ?_
            refine iL3 dX12_tries_197 ?_
            refine iL7 dX12_tries_198 ?_
            refine R_mmin dX12_tries_200 kX12_318 lb_min (Nat.le_of_ble_eq_true rfl) ?_
            refine iS3 dX12_tries_203 ?_
            refine iInc4 dX12_tries_204 (winc (by omega)) ?_
            refine R_goto dX12_tries_207 ?_
            exact eqI2 (by rw [tmF_s]; rfl) (eqI3 (by rw [tmF_s]; rfl) (ihc (by omega) _ hQ hW _ _ _ _ _))
          · have hwt := of_decide_eq_true hb78
            refine aL0 dX12_tries_81 ?_
            refine iL1 dX12_tries_82 ?_
            refine iL7 dX12_tries_83 ?_
            refine invV2 rfl dX12_tries_85 kX12_447 hG.o (Nat.le_of_ble_eq_true rfl) (Nat.zero_le _) (Nat.zero_le _) (C_X12_fits hG hW hf hl (E := E) (b := b) (by rw [hQ.2 11 (by omega)]; exact hE) hMl (fun i hi => by rw [hQ.1 (M + 6) (by unfold mqs; omega)]; exact hTc i hi) (by omega) (by omega) (fun h20 hx20 => konI ?_))
            replace hQ := hQ.tr (Mq.z hx20)
            replace hW := hx20.w hW
            refine iS8 dX12_tries_88 ?_
            suffices J21 : ∀ hJ21 : Hc, Mz M h1 hJ21 → hJ21 (M + 1) = w → Run (d + 10) 0 0 mX12_tries 118 [vR M, vI ((j : Nat) : Int), vI ((tmF w b j E c).1), vI ((tmF w b j E c).2), vI ((c : Nat) : Int), vI ((cntB (fun k => fitB w b j E k && frH w k j c (w 4)) q : Nat) : Int), vI ((cntB (fun k => fitB w b j E k && !frH w k j c (w 4)) q : Nat) : Int), vI ((q : Nat) : Int), vI (bI (fitB w b j E q)), v9] [vI (bI ((fitB w b j E q && frH w q j c (w 4))))] g hJ21 P by
              refine iL8 dX12_tries_90 ?_
              refine R_ifB_eq dX12_tries_92 (fun hb92 => ?_) (fun hb92 => ?_)
              · refine R_iconst_0 dX12_tries_117 ?_
                exact topV (v := bI ((fitB w b j E q && frH w q j c (w 4)))) (by first | (rw [bI_f (by rw [hb92, Bool.false_and])]; done) | (rw [bI_t (by rw [hb92, hb110]; rfl)]; done) | (rw [bI_f (by rw [hb110, Bool.and_false])]; done)) (J21 _ hQ hW)
              · refine aL0 dX12_tries_95 ?_
                refine iL1 dX12_tries_96 ?_
                refine iL4 dX12_tries_97 ?_
                refine aL0 dX12_tries_99 ?_
                refine R_getR dX12_tries_100 fX12_13.r hG.o rfl ?_
                refine R_iconst_4 dX12_tries_103 ?_
                refine ialdN (k := 4) dX12_tries_104 hG.a1 rfl (by decide) ?_
                refine topV (v := w 4) (congrFun hW _) ?_
                have hq22 := hf.hou
                refine topV (v := w 4) (rfl) ?_
                refine iL7 dX12_tries_105 ?_
                refine invV4 rfl dX12_tries_107 kX12_440 hG.o (Nat.le_of_ble_eq_true rfl) (Nat.zero_le _) (Nat.zero_le _) (C_X12_freesWith hG hW hf hl (by omega) (by omega) (by omega) (by omega) (fun h23 hx23 => konI ?_))
                replace hQ := hQ.tr (Mq.z hx23)
                replace hW := hx23.w hW
                refine R_ifB_eq dX12_tries_110 (fun hb110 => ?_) (fun hb110 => ?_)
                · refine R_iconst_0 dX12_tries_117 ?_
                  exact topV (v := bI ((fitB w b j E q && frH w q j c (w 4)))) (by first | (rw [bI_f (by rw [hb92, Bool.false_and])]; done) | (rw [bI_t (by rw [hb92, hb110]; rfl)]; done) | (rw [bI_f (by rw [hb110, Bool.and_false])]; done)) (J21 _ hQ hW)
                · refine R_iconst_1 dX12_tries_113 ?_
                  refine R_goto dX12_tries_114 ?_
                  exact topV (v := bI ((fitB w b j E q && frH w q j c (w 4)))) (by first | (rw [bI_f (by rw [hb92, Bool.false_and])]; done) | (rw [bI_t (by rw [hb92, hb110]; rfl)]; done) | (rw [bI_f (by rw [hb110, Bool.and_false])]; done)) (J21 _ hQ hW)
            intro hJ21 hQ hW
            refine iS9 dX12_tries_118 ?_
            refine iL5 dX12_tries_120 ?_
            suffices J24 : Run (d + 10) 0 0 mX12_tries 132 [vR M, vI ((j : Nat) : Int), vI ((tmF w b j E c).1), vI ((tmF w b j E c).2), vI ((c : Nat) : Int), vI ((cntB (fun k => fitB w b j E k && frH w k j c (w 4)) q : Nat) : Int), vI ((cntB (fun k => fitB w b j E k && !frH w k j c (w 4)) q : Nat) : Int), vI ((q : Nat) : Int), vI (bI (fitB w b j E q)), vI (bI ((fitB w b j E q && frH w q j c (w 4))))] [vI (bI (fitB w b j E q && frH w q j c (w 4))), vI ((cntB (fun k => fitB w b j E k && frH w k j c (w 4)) q : Nat) : Int)] g hJ21 P by
              refine iL9 dX12_tries_122 ?_
              refine R_ifB_eq dX12_tries_124 (fun hb124 => ?_) (fun hb124 => ?_)
              · refine R_iconst_0 dX12_tries_131 ?_
                exact topV (v := bI (fitB w b j E q && frH w q j c (w 4))) (by first | (rw [bI_t hb124]; done) | (rw [bI_f hb124]; done)) J24
              · refine R_iconst_1 dX12_tries_127 ?_
                refine R_goto dX12_tries_128 ?_
                exact topV (v := bI (fitB w b j E q && frH w q j c (w 4))) (by first | (rw [bI_t hb124]; done) | (rw [bI_f hb124]; done)) J24
            have hz1 := bI01 (fitB w b j E q && frH w q j c (w 4))
            refine addV dX12_tries_132 (wid (by omega) (by omega)) ?_
            refine iS5 dX12_tries_133 ?_
            refine iL6 dX12_tries_135 ?_
            suffices J25 : Run (d + 10) 0 0 mX12_tries 152 [vR M, vI ((j : Nat) : Int), vI ((tmF w b j E c).1), vI ((tmF w b j E c).2), vI ((c : Nat) : Int), vI (((cntB (fun k => fitB w b j E k && frH w k j c (w 4)) q : Nat) : Int) + (bI (fitB w b j E q && frH w q j c (w 4)))), vI ((cntB (fun k => fitB w b j E k && !frH w k j c (w 4)) q : Nat) : Int), vI ((q : Nat) : Int), vI (bI (fitB w b j E q)), vI (bI ((fitB w b j E q && frH w q j c (w 4))))] [vI (bI (fitB w b j E q && !frH w q j c (w 4))), vI ((cntB (fun k => fitB w b j E k && !frH w k j c (w 4)) q : Nat) : Int)] g hJ21 P by
              refine iL8 dX12_tries_137 ?_
              refine R_ifB_eq dX12_tries_139 (fun hb139 => ?_) (fun hb139 => ?_)
              · refine R_iconst_0 dX12_tries_151 ?_
                exact topV (v := bI (fitB w b j E q && !frH w q j c (w 4))) (by first | (rw [bI_f (by rw [hb139, Bool.false_and])]; done) | (rw [bI_t (by rw [hb139, Bool.true_and] at hb144; rw [hb139, hb144]; rfl)]; done) | (rw [bI_f (by rw [hb139, Bool.true_and] at hb144; rw [hb144]; simp)]; done)) J25
              · refine iL9 dX12_tries_142 ?_
                refine R_ifB_ne dX12_tries_144 (fun hb144 => ?_) (fun hb144 => ?_)
                · refine R_iconst_0 dX12_tries_151 ?_
                  exact topV (v := bI (fitB w b j E q && !frH w q j c (w 4))) (by first | (rw [bI_f (by rw [hb139, Bool.false_and])]; done) | (rw [bI_t (by rw [hb139, Bool.true_and] at hb144; rw [hb139, hb144]; rfl)]; done) | (rw [bI_f (by rw [hb139, Bool.true_and] at hb144; rw [hb144]; simp)]; done)) J25
                · refine R_iconst_1 dX12_tries_147 ?_
                  refine R_goto dX12_tries_148 ?_
                  exact topV (v := bI (fitB w b j E q && !frH w q j c (w 4))) (by first | (rw [bI_f (by rw [hb139, Bool.false_and])]; done) | (rw [bI_t (by rw [hb139, Bool.true_and] at hb144; rw [hb139, hb144]; rfl)]; done) | (rw [bI_f (by rw [hb139, Bool.true_and] at hb144; rw [hb144]; simp)]; done)) J25
            have hz2 := bI01 (fitB w b j E q && !frH w q j c (w 4))
            refine addV dX12_tries_152 (wid (by omega) (by omega)) ?_
            refine iS6 dX12_tries_153 ?_
            refine iInc7 dX12_tries_155 (winc (by omega)) ?_
            refine R_goto dX12_tries_158 ?_
            exact eqI5 (cntB_b) (eqI6 (cntB_b) (ihq (by omega) _ hQ hW (fun h9 => absurd (of_decide_eq_true hb78) h9) _ _))
    · have hPX := hU.th hth13 hb34
      refine R_iconst_0 dX12_tries_37 ?_
      exact R_iret dX12_tries_38 rfl (KE2 (by omega) (by simpa using hb34) _ hPX)
