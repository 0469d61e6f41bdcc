theorem Mz.offs {M : Nat} {S : Nat → Prop} {h h1 h2 : Hc} (a : Mz M h h1) (o : Off S h1 h2) (hs : ∀ q, S q → q = M + 8 ∨ (M + 10 ≤ q ∧ q ≤ M + 18)) : Mz M h h2 := ⟨a.1.tr (o.mono (fun q hq => by have := hs q hq; unfold mqs; omega)), fun k hk => by rw [o M (fun hq => by have := hs M hq; omega)]; exact a.2 k hk⟩
def inT (a c x : Nat) : Bool := a.testBit x || decide (x = c)
theorem C_X12_isKept2 {d : Nat} {g : Gs} {h : Hc} {P : Po} {M : Nat} (hG : MdG g M) {my : Nat → Nat → Bool} {S : Nat → Bool} {c : Nat} (hMay : ∀ c1 k1, c1 < 8 → k1 < 60 → h (M + 13) (60 * c1 + k1) = bI (my c1 k1)) (hMat : Mat my S (h (M + 11))) (hc : c < 8) (hSc : S c = false)
    (K : ∀ h' b, Off (fun q => q = M + 11 ∨ q = M + 12 ∨ q = M + 14 ∨ q = M + 15) h h' → (b = true → Mat my (fun x => S x || decide (x = c)) (h' (M + 11))) → (b = false → h' (M + 11) = h (M + 11) ∧ ¬ Hal my (fun x => S x || decide (x = c))) → P (.inl (some (vI (bI b)))) g h') : Call (d + 0) 0 0 mX12_isKept [vR M, vI ((c : Nat) : Int)] g h P := by
  refine C_X12_isKept hG hMay (fun k hk => rfl) hMat hc hSc (fun h' K' hO hk hm => ?_) (fun h' hO hk hn => ?_)
  · exact K h' true hO (fun _ => hm.cong (fun _ _ => rfl) (fun k hk2 => hk k hk2)) (fun h9 => absurd h9 (by decide))
  · exact K h' false hO (fun h9 => absurd h9 (by decide)) (fun _ => ⟨hk, hn⟩)
theorem FULL_bit : ∀ k, k < 60 → FULL.testBit k = true := by decide +kernel
theorem myB_op {w : Nat → Int} (hf : WF w) {c k : Nat} (hk : k < 60) (h1 : (c : Int) < w 1) (h2 : w (104 + 7 * c) = 0) : (opnP w c k && FULL.testBit k) = myB w 12 c k := by
  have hh := hf.hou
  rw [FULL_bit k hk, Bool.and_true]
  unfold opnP myB myI
  have e : h12 w 12 = 12 := by unfold h12; rw [if_neg (by omega)]
  rw [e, decide_eq_true h1, decide_eq_true h2, Bool.true_and, Bool.true_and]
  rw [show decide (w 4 ≤ ((k % 12 : Nat) : Int) ∧ ((k % 12 : Nat) : Int) ≤ 12 - 1) = decide (w 4 ≤ ((k % 12 : Nat) : Int)) by rw [decide_eq_decide]; omega]
  rw [Bool.and_assoc]
def SvB (w : Nat → Int) (a : Nat) : Prop := a < 256 ∧ ∀ x : Nat, a.testBit x = true → (x : Int) < w 1 ∧ w (104 + 7 * x) = 0
theorem SvB.or {w : Nat → Int} {a c : Nat} (h : SvB w a) (hc8 : c < 8) (h1 : (c : Int) < w 1) (h2 : w (104 + 7 * c) = 0) : SvB w (a ||| 2 ^ c) := by
  refine ⟨(or2n a h.1 c hc8).2, fun x hx => ?_⟩
  rw [Nat.testBit_or, Nat.testBit_two_pow, Bool.or_eq_true, decide_eq_true_eq] at hx
  rcases hx with q | q
  · exact h.2 x q
  · subst q; exact ⟨h1, h2⟩
theorem smS_ok {w : Nat → Int} (hf : WF w) {t : Int} {c a : Nat} (h : SvB w a) (hc : (c : Int) < w 1) : SvB w (smS w t c a) := by
  have := hf.cas
  unfold smS
  split
  · rename_i q; exact h.or (by omega) hc q.1
  · exact h
theorem smC_ok {w : Nat → Int} (hf : WF w) {t : Int} {a : Nat} (h : SvB w a) : ∀ c : Nat, (c : Int) ≤ w 1 → SvB w (smC w t a c)
  | 0, _ => h
  | c + 1, hc => by rw [smC_s]; exact smS_ok hf (smC_ok hf h c (by omega)) (by omega)
theorem smT_ok {w : Nat → Int} (hf : WF w) : ∀ q, SvB w (smT w q)
  | 0 => ⟨by show (0 : Nat) < 256; omega, fun x hx => by rw [show smT w 0 = 0 from rfl, Nat.zero_testBit] at hx; cases hx⟩
  | q + 1 => by have := hf.cas; rw [smT_s]; exact smC_ok hf (smT_ok hf q) (w 1).toNat (by omega)
theorem or_bit (a c x : Nat) : (a ||| 2 ^ c).testBit x = (a.testBit x || decide (x = c)) := by
  rw [Nat.testBit_or, Nat.testBit_two_pow]
  congr 1
  rw [decide_eq_decide]
  exact eq_comm
theorem hal_or {my : Nat → Nat → Bool} {a c : Nat} : Hal my (fun x => (a ||| 2 ^ c).testBit x) ↔ Hal my (fun x => a.testBit x || decide (x = c)) := by
  constructor <;> intro h O hO
  · exact h O (fun x hx ho => (or_bit a c x).trans (hO x hx ho))
  · exact h O (fun x hx ho => (or_bit a c x).symm.trans (hO x hx ho))
theorem kept_eq {w : Nat → Int} (hf : WF w) {a c : Nat} {b : Bool} (h : SvB w a) (hc8 : c < 8) (h1 : (c : Int) < w 1) (h2 : w (104 + 7 * c) = 0) (hb1 : b = true → Hal (myB w 12) (fun x => a.testBit x || decide (x = c))) (hb0 : b = false → ¬ Hal (myB w 12) (fun x => a.testBit x || decide (x = c))) : hrB w FULL (a ||| 2 ^ c) = b := by
  have h3 := h.or hc8 h1 h2
  have key := hrB_hal hf (A := FULL) (my := myB w 12) h3.1 (fun x hx => (h3.2 x hx).1) (fun x _ hx k hk => myB_op hf hk (h3.2 x hx).1 (h3.2 x hx).2)
  cases b
  · cases q : hrB w FULL (a ||| 2 ^ c)
    · rfl
    · exact absurd (hal_or.mp (key.mp q)) (hb0 rfl)
  · exact key.mpr (hal_or.mpr (hb1 rfl))
theorem ff_at {p : Nat → Bool} {k n : Nat} : ∀ {m k0 : Nat}, k - k0 = m → k0 ≤ k → k < n → p k = true → (∀ j, k0 ≤ j → j < k → p j = false) → ff p k0 n = (k : Int)
  | 0, k0, hm, h0, hn, hp, _ => by rw [show k0 = k by omega]; exact ff_t hn hp
  | m + 1, k0, hm, h0, hn, hp, hno => by
    rw [ff_f (by omega) (hno k0 (Nat.le_refl _) (by omega))]
    exact ff_at (m := m) (by omega) (by omega) hn hp (fun j h1 h2 => hno j (by omega) h2)
theorem myB_hm {w : Nat → Int} {c k K n : Nat} (hk : k < 60) (h1 : (c : Int) < w 1) (h2 : w (104 + 7 * c) = 0) (hK : K < 12) (hn : (K : Int) = w 4 + (n : Int) - 1) : (opnP w c k && (hmN w K (w 0).toNat).testBit k) = myB w n c k := by
  have e : h12 w n = (K : Int) + 1 := by unfold h12; split <;> omega
  unfold hmN opnP myB myI
  rw [nset_bit, e, decide_eq_true h1, decide_eq_true h2, decide_eq_true hk, Bool.true_and, Bool.true_and, Bool.true_and]
  unfold hmP
  by_cases a1 : ((k / 12 : Nat) : Int) < w 0
  · by_cases a2 : w 4 ≤ ((k % 12 : Nat) : Int)
    · by_cases a3 : k % 12 ≤ K
      · rw [decide_eq_true a1, decide_eq_true a2, decide_eq_true (p := _ ∧ _) ⟨a1, a2, by omega⟩, decide_eq_true (p := _ ∧ _) ⟨a2, by omega⟩]; simp
      · rw [decide_eq_true a1, decide_eq_true a2, decide_eq_false (p := _ ∧ _) (fun q => by omega), decide_eq_false (p := _ ∧ _) (fun q => by omega)]; simp
    · rw [decide_eq_false a2, decide_eq_false (p := _ ∧ _) (fun q => a2 q.1)]; simp
  · rw [decide_eq_false a1]; simp
theorem needP_hal {w : Nat → Int} (hf : WF w) {s K n : Nat} (h : SvB w s) (hK : K < 12) (hn : (K : Int) = w 4 + (n : Int) - 1) : needP w s K = true ↔ Hal (myB w n) (fun x => s.testBit x) :=
  hrB_hal hf h.1 (fun x hx => (h.2 x hx).1) (fun x _ hx k hk => myB_hm hk (h.2 x hx).1 (h.2 x hx).2 hK hn)
theorem need_eq {w : Nat → Int} (hf : WF w) {s n : Nat} (h : SvB w s) (hn : Hal (myB w n) (fun x => s.testBit x)) (hm : ∀ m, m < n → ¬ Hal (myB w m) (fun x => s.testBit x)) : (n : Int) = needW w s := by
  have hh := hf.hou
  unfold needW
  by_cases s0 : s = 0
  · rw [if_pos s0]
    by_cases n0 : n = 0
    · omega
    · refine absurd ?_ (hm 0 (by omega))
      intro O hO
      have : cntB O 8 = cntB (fun _ => false) 8 := cntB_cong (fun x hx => by
        cases q : O x
        · rfl
        · have h9 : s.testBit x = true := hO x hx q
          rw [s0, Nat.zero_testBit] at h9; cases h9)
      rw [this]
      exact Nat.zero_le _
  · rw [if_neg s0]
    have n0 : n ≠ 0 := by
      intro e
      subst e
      have hx : ∃ x, x < 8 ∧ s.testBit x = true := by
        by_cases q : ∃ x, x < 8 ∧ s.testBit x = true
        · exact q
        · exfalso
          apply s0
          apply Nat.eq_of_testBit_eq
          intro i
          rw [Nat.zero_testBit]
          by_cases hi : i < 8
          · cases hb : s.testBit i
            · rfl
            · exact absurd ⟨i, hi, hb⟩ q
          · exact Nat.testBit_lt_two_pow (Nat.lt_of_lt_of_le h.1 (Nat.pow_le_pow_right (n := 2) (by omega) (show 8 ≤ i by omega)))
      obtain ⟨x, hx8, hxs⟩ := hx
      have h1 := hn (fun y => decide (y = x)) (fun y _ hy => by rw [of_decide_eq_true hy]; exact hxs)
      have h2 : cntB (fun y => decide (y = x)) 8 = cntB (fun _ => false) 8 + 1 := by
        rw [← cntB_add (P := fun _ => false) (k := x) hx8 rfl]
        exact cntB_cong (fun y _ => by simp)
      have h3 : cntB (nbr (myB w 0) (fun y => decide (y = x))) 60 = cntB (fun _ => false) 60 := cntB_cong (fun k _ => by
        cases q : nbr (myB w 0) (fun y => decide (y = x)) k
        · rfl
        · obtain ⟨y, _, _, y3⟩ := nbr_iff.mp q
          exfalso
          unfold myB myI at y3
          simp only [Bool.and_eq_true, decide_eq_true_eq] at y3
          have : h12 w 0 ≤ w 4 := by unfold h12; split <;> omega
          omega)
      have h4 : cntB (fun _ : Nat => false) 60 = 0 := by decide
      omega
    have hK : w 4 + (n : Int) - 1 < 12 := by
      by_cases q : w 4 + (n : Int) - 1 < 12
      · exact q
      · exfalso
        refine hm (12 - (w 4).toNat) (by omega) ?_
        have e : ∀ c k, myB w n c k = myB w (12 - (w 4).toNat) c k := fun c k => by
          have e1 : h12 w n = 12 := by unfold h12; split <;> omega
          have e2 : h12 w (12 - (w 4).toNat) = 12 := by unfold h12; split <;> omega
          unfold myB myI
          rw [e1, e2]
        rw [show myB w (12 - (w 4).toNat) = myB w n from funext fun c => funext fun k => (e c k).symm]
        exact hn
    have hff : ff (needP w s) (w 4).toNat 12 = (((w 4).toNat + n - 1 : Nat) : Int) := ff_at rfl (by omega) (by omega) ((needP_hal hf h (n := n) (by omega) (by omega)).mpr hn) (fun j h1 h2 => by
      cases q : needP w s j
      · rfl
      · exact absurd ((needP_hal hf h (n := j + 1 - (w 4).toNat) (by omega) (by omega)).mp q) (hm _ (by omega)))
    rw [hff, if_neg (by omega)]
    omega
theorem smC_new {w : Nat → Int} (hf : WF w) {q : Nat} (c : Nat) (hc : (c : Int) < w 1) (hw : w (102 + 7 * c) = 99 - (q : Int)) : ¬ (smC w (99 - (q : Int)) (smT w q) c).testBit c = true := by
  have h8 := hf.cas
  have key : ∀ q2 : Nat, q2 ≤ q → (smT w q2).testBit c = false := by
    intro q2
    induction q2 with
    | zero => intro _; exact Nat.zero_testBit c
    | succ q2 ih =>
      intro h
      rw [smT_s]
      have : ∀ n, (smC w (99 - (q2 : Int)) (smT w q2) n).testBit c = false := by
        intro n
        induction n with
        | zero => exact ih (by omega)
        | succ n ihn =>
          rw [smC_s]
          unfold smS
          split
          · rename_i z
            rw [or_bit, ihn, Bool.false_or, decide_eq_false_iff_not]
            intro e; subst e; omega
          · exact ihn
      exact this _
  have : ∀ n, n ≤ c → (smC w (99 - (q : Int)) (smT w q) n).testBit c = false := by
    intro n
    induction n with
    | zero => intro _; exact key q (Nat.le_refl _)
    | succ n ihn =>
      intro h
      rw [smC_s]
      unfold smS
      split
      · rw [or_bit, ihn (by omega), Bool.false_or, decide_eq_false_iff_not]; omega
      · exact ihn (by omega)
  rw [this c (Nat.le_refl _)]
  decide
set_option maxHeartbeats 4000000 in
theorem C_X12_savedOnes {d : Nat} {g : Gs} {h : Hc} {P : Po} {M : Nat} {w : Nat → Int} (hG : MdG g M) (hW : h (M + 1) = w) (hf : WF w) (hl : LawOK w) (K : ∀ h', Mz M h h' → Hal (myB w 12) (fun x => (savW w).testBit x) → P (.inl (some (vI ((savW w : Nat) : Int)))) g h') : Call (d + 9) 0 0 mX12_savedOnes [vR M] g h P := by
  have hcs := hf.cas
  have hjd := hf.jud
  have hho := hf.hou
  refine Call_of rfl ⟨by decide +kernel, rfl⟩ (Nat.le_of_ble_eq_true rfl) rfl ?_
  have hQ : Mz M h h := Mz.rf _ _
  refine aL0 dX12_savedOnes_0 ?_
  refine R_bipush dX12_savedOnes_1 (by decide) ?_
  refine invV1 rfl dX12_savedOnes_3 kX12_425 hG.o (Nat.le_of_ble_eq_true rfl) (Nat.zero_le _) (Nat.zero_le _) (C_X12_laysMay hG hW hf hl (n := 12) (by omega) (fun h1 hx1 hMay => konV ?_))
  replace hQ := hQ.tr hx1
  replace hW := hx1.w hW
  refine aL0 dX12_savedOnes_6 ?_
  refine invV0 rfl dX12_savedOnes_7 kX12_428 hG.o (Nat.le_of_ble_eq_true rfl) (Nat.zero_le _) (Nat.zero_le _) (C_X12_emptiesList hG (fun h2 hx2 hz2 => konV ?_))
  replace hQ := hQ.offs hx2 (fun q hq => by omega)
  replace hW : h2 (M + 1) = w := by rw [hx2 _ (by omega)]; exact hW
  replace hMay : ∀ c1 k1, c1 < 8 → k1 < 60 → h2 (M + 13) (60 * c1 + k1) = bI (myB w 12 c1 k1) := by rw [hx2 _ (by omega)]; exact hMay
  have hMt : Mat (myB w 12) (fun x => (0 : Nat).testBit x) (h2 (M + 11)) := (Mat.emp _).cong (fun x _ => Nat.zero_testBit x) (fun k hk => hz2 k hk)
  refine R_iconst_0 dX12_savedOnes_10 ?_
  refine iS1 dX12_savedOnes_11 ?_
  refine R_bipush dX12_savedOnes_12 (by decide) ?_
  refine iS2 dX12_savedOnes_14 ?_
  refine eqI2 (v := 99 - ((0 : Nat) : Int)) (by omega) ?_
  refine loopN (100) (fun q => ∀ hK3 : Hc, Mz M h hK3 → hK3 (M + 1) = w → (∀ c1 k1, c1 < 8 → k1 < 60 → hK3 (M + 13) (60 * c1 + k1) = bI (myB w 12 c1 k1)) → Mat (myB w 12) (fun x => (smT w q).testBit x) (hK3 (M + 11)) → ∀ v3 : AV,  Run (d + 9) 0 0 mX12_savedOnes 15 [vR M, vI ((smT w q : Nat) : Int), vI (99 - (q : Int)), v3] [] g hK3 P) (fun q hcnq ihq hK3 hQ hW hMay hMt v3 => ?_) (0) (Nat.zero_le _) _ hQ hW hMay hMt _
  refine iL2 dX12_savedOnes_15 ?_
  refine R_if_lt dX12_savedOnes_16 (fun hb16 => ?_) (fun hb16 => ?_)
  · have e9 : q = 100 := by omega
    subst e9
    refine iL1 dX12_savedOnes_73 ?_
    exact R_iret dX12_savedOnes_74 rfl (by have hsv := sm_sav hf; have := K _ hQ (hsv ▸ hMt.hal); rw [← hsv] at this; exact this)
  · refine R_iconst_0 dX12_savedOnes_19 ?_
    refine iS3 dX12_savedOnes_20 ?_
    refine loopN ((w 1).toNat) (fun c => ∀ hK4 : Hc, Mz M h hK4 → hK4 (M + 1) = w → (∀ c1 k1, c1 < 8 → k1 < 60 → hK4 (M + 13) (60 * c1 + k1) = bI (myB w 12 c1 k1)) → Mat (myB w 12) (fun x => (smC w (99 - (q : Int)) (smT w q) c).testBit x) (hK4 (M + 11)) →  Run (d + 9) 0 0 mX12_savedOnes 21 [vR M, vI (((smC w (99 - (q : Int)) (smT w q) c) : Nat) : Int), vI (99 - (q : Int)), vI ((c : Nat) : Int)] [] g hK4 P) (fun c hcnc ihc hK4 hQ hW hMay hMt => ?_) (0) (Nat.zero_le _) _ hQ hW hMay hMt
    have hsc := smC_ok hf (t := 99 - (q : Int)) (smT_ok hf q) c (by have := hf.cas; omega)
    refine iL3 dX12_savedOnes_21 ?_
    refine aL0 dX12_savedOnes_22 ?_
    refine invV0 rfl dX12_savedOnes_23 kX12_90 hG.o (Nat.le_of_ble_eq_true rfl) (Nat.zero_le _) (Nat.zero_le _) (C_X12_cases hG hW hf (konI ?_))
    have hcs := hf.cas
    refine R_icmp_ge dX12_savedOnes_26 (fun hb26 => ?_) (fun hb26 => ?_)
    · have e9c : c = (w 1).toNat := by omega
      refine iInc2 dX12_savedOnes_67 (wid (by omega) (by omega)) ?_
      refine R_goto dX12_savedOnes_70 ?_
      exact eqI1 (by rw [smT_s, ← e9c]) (eqI2 (by omega) (ihq (by omega) _ hQ hW hMay (by rw [smT_s, ← e9c]; exact hMt) _))
    · refine aL0 dX12_savedOnes_29 ?_
      refine iL3 dX12_savedOnes_30 ?_
      refine invV1 rfl dX12_savedOnes_31 kX12_321 hG.o (Nat.le_of_ble_eq_true rfl) (Nat.zero_le _) (Nat.zero_le _) (C_X12_isWaiting hG hW hf (by omega) (konI ?_))
      refine R_ifB_eq dX12_savedOnes_34 (fun hb34 => ?_) (fun hb34 => ?_)
      · refine iInc3 dX12_savedOnes_61 (winc (by omega)) ?_
        refine R_goto dX12_savedOnes_64 ?_
        exact eqI1 (by rw [smC_s]; unfold smS; first | (rw [if_neg (fun z => absurd z.1 (of_decide_eq_false hb34))]; done) | (rw [if_neg (fun z => hb44 z.2.1)]; done) | (rw [if_pos ⟨of_decide_eq_true hb34, hb44, by rw [hkb, hb52]⟩]; exact (or2n _ hsc.1 c (by omega)).1) | (rw [if_neg (fun z => by rw [hkb, hb52] at z; exact absurd z.2.2 (by decide))]; done)) (ihc (by omega) _ hQ hW hMay (by rw [smC_s]; unfold smS; first | (rw [if_neg (fun z => absurd z.1 (of_decide_eq_false hb34))]; exact hMt) | (rw [if_neg (fun z => hb44 z.2.1)]; exact hMt) | (rw [if_pos ⟨of_decide_eq_true hb34, hb44, by rw [hkb, hb52]⟩]; exact (hbt hb52).cong (fun x _ => or_bit _ _ _) (fun _ _ => rfl)) | (rw [if_neg (fun z => by rw [hkb, hb52] at z; exact absurd z.2.2 (by decide)), (hbf hb52).1]; exact hMt)))
      · refine aL0 dX12_savedOnes_37 ?_
        refine iL3 dX12_savedOnes_38 ?_
        refine R_iconst_2 dX12_savedOnes_39 ?_
        refine invV2 rfl dX12_savedOnes_40 kX12_87 hG.o (Nat.le_of_ble_eq_true rfl) (Nat.zero_le _) (Nat.zero_le _) (C_X12_of hG hW (b := 2) (i := 102 + 7 * c) (by omega) (by omega) (konI ?_))
        have hq5 := hf.wo (c := c) (by omega)
        refine iL2 dX12_savedOnes_43 ?_
        refine R_icmp_ne dX12_savedOnes_44 (fun hb44 => ?_) (fun hb44 => ?_)
        · refine iInc3 dX12_savedOnes_61 (winc (by omega)) ?_
          refine R_goto dX12_savedOnes_64 ?_
          exact eqI1 (by rw [smC_s]; unfold smS; first | (rw [if_neg (fun z => absurd z.1 (of_decide_eq_false hb34))]; done) | (rw [if_neg (fun z => hb44 z.2.1)]; done) | (rw [if_pos ⟨of_decide_eq_true hb34, hb44, by rw [hkb, hb52]⟩]; exact (or2n _ hsc.1 c (by omega)).1) | (rw [if_neg (fun z => by rw [hkb, hb52] at z; exact absurd z.2.2 (by decide))]; done)) (ihc (by omega) _ hQ hW hMay (by rw [smC_s]; unfold smS; first | (rw [if_neg (fun z => absurd z.1 (of_decide_eq_false hb34))]; exact hMt) | (rw [if_neg (fun z => hb44 z.2.1)]; exact hMt) | (rw [if_pos ⟨of_decide_eq_true hb34, hb44, by rw [hkb, hb52]⟩]; exact (hbt hb52).cong (fun x _ => or_bit _ _ _) (fun _ _ => rfl)) | (rw [if_neg (fun z => by rw [hkb, hb52] at z; exact absurd z.2.2 (by decide)), (hbf hb52).1]; exact hMt)))
        · have hSc : (smC w (99 - (q : Int)) (smT w q) c).testBit c = false := by
            have := smC_new hf (q := q) c (by omega) hb44
            simpa using this
          refine aL0 dX12_savedOnes_47 ?_
          refine iL3 dX12_savedOnes_48 ?_
          refine invV1 rfl dX12_savedOnes_49 kX12_431 hG.o (Nat.le_of_ble_eq_true rfl) (Nat.zero_le _) (Nat.zero_le _) (C_X12_isKept2 hG hMay hMt (by omega) hSc (fun h6 b6 hx6 hbt hbf => konI ?_))
          replace hQ := hQ.offs hx6 (fun q hq => by omega)
          replace hW : h6 (M + 1) = w := by rw [hx6 _ (by omega)]; exact hW
          replace hMay : ∀ c1 k1, c1 < 8 → k1 < 60 → h6 (M + 13) (60 * c1 + k1) = bI (myB w 12 c1 k1) := by rw [hx6 _ (by omega)]; exact hMay
          have hkb := kept_eq hf hsc (c := c) (by omega) (by omega) (of_decide_eq_true hb34) (fun h9 => (hbt h9).hal) (fun h9 => (hbf h9).2)
          refine R_ifB_eq dX12_savedOnes_52 (fun hb52 => ?_) (fun hb52 => ?_)
          · refine iInc3 dX12_savedOnes_61 (winc (by omega)) ?_
            refine R_goto dX12_savedOnes_64 ?_
            exact eqI1 (by rw [smC_s]; unfold smS; first | (rw [if_neg (fun z => absurd z.1 (of_decide_eq_false hb34))]; done) | (rw [if_neg (fun z => hb44 z.2.1)]; done) | (rw [if_pos ⟨of_decide_eq_true hb34, hb44, by rw [hkb, hb52]⟩]; exact (or2n _ hsc.1 c (by omega)).1) | (rw [if_neg (fun z => by rw [hkb, hb52] at z; exact absurd z.2.2 (by decide))]; done)) (ihc (by omega) _ hQ hW hMay (by rw [smC_s]; unfold smS; first | (rw [if_neg (fun z => absurd z.1 (of_decide_eq_false hb34))]; exact hMt) | (rw [if_neg (fun z => hb44 z.2.1)]; exact hMt) | (rw [if_pos ⟨of_decide_eq_true hb34, hb44, by rw [hkb, hb52]⟩]; exact (hbt hb52).cong (fun x _ => or_bit _ _ _) (fun _ _ => rfl)) | (rw [if_neg (fun z => by rw [hkb, hb52] at z; exact absurd z.2.2 (by decide)), (hbf hb52).1]; exact hMt)))
          · refine iL1 dX12_savedOnes_55 ?_
            refine R_iconst_1 dX12_savedOnes_56 ?_
            refine iL3 dX12_savedOnes_57 ?_
            refine R_ishl dX12_savedOnes_58 ?_
            refine R_ior dX12_savedOnes_59 ?_
            refine iS1 dX12_savedOnes_60 ?_
            refine iInc3 dX12_savedOnes_61 (winc (by omega)) ?_
            refine R_goto dX12_savedOnes_64 ?_
            exact eqI1 (by rw [smC_s]; unfold smS; first | (rw [if_neg (fun z => absurd z.1 (of_decide_eq_false hb34))]; done) | (rw [if_neg (fun z => hb44 z.2.1)]; done) | (rw [if_pos ⟨of_decide_eq_true hb34, hb44, by rw [hkb, hb52]⟩]; exact (or2n _ hsc.1 c (by omega)).1) | (rw [if_neg (fun z => by rw [hkb, hb52] at z; exact absurd z.2.2 (by decide))]; done)) (ihc (by omega) _ hQ hW hMay (by rw [smC_s]; unfold smS; first | (rw [if_neg (fun z => absurd z.1 (of_decide_eq_false hb34))]; exact hMt) | (rw [if_neg (fun z => hb44 z.2.1)]; exact hMt) | (rw [if_pos ⟨of_decide_eq_true hb34, hb44, by rw [hkb, hb52]⟩]; exact (hbt hb52).cong (fun x _ => or_bit _ _ _) (fun _ _ => rfl)) | (rw [if_neg (fun z => by rw [hkb, hb52] at z; exact absurd z.2.2 (by decide)), (hbf hb52).1]; exact hMt)))
set_option maxHeartbeats 400000 in
theorem C_X12_saved {d : Nat} {g : Gs} {h : Hc} {P : Po} {M : Nat} {w : Nat → Int} (hG : MdG g M) (hW : h (M + 1) = w) (hf : WF w) (hl : LawOK w) {b : Bool} (K0 : ∀ h', Mp M h h' 0 → P (.inl (some (vI (if b then worthOf w ((savW w : Nat) : Int) else ((savW w : Nat) : Int))))) g h') : Call (d + 10) 0 0 mX12_saved [vR M, vI (bI (b))] g h P := by
  have hcs := hf.cas
  have hjd := hf.jud
  have hho := hf.hou
  refine Call_of rfl ⟨by decide +kernel, rfl⟩ (Nat.le_of_ble_eq_true rfl) rfl ?_
  refine aL0 dX12_saved_0 ?_
  refine R_iconst_0 dX12_saved_1 ?_
  refine R_putI dX12_saved_2 fX12_3 hG.o ?_
  refine storH (fun h1 e1 => ?_)
  have hP : Mp M h h1 0 := by rw [e1]; exact Mp.i h M
  replace hW : h1 (M + 1) = w := hP.w hW
  have hQ : Mz M h1 h1 := Mz.rf _ _
  refine aL0 dX12_saved_5 ?_
  refine invV0 rfl dX12_saved_6 kX12_434 hG.o (Nat.le_of_ble_eq_true rfl) (Nat.zero_le _) (Nat.zero_le _) (C_X12_savedOnes hG hW hf hl (fun h11 hx11 hHal => konI ?_))
  replace hQ := hQ.tr hx11
  replace hW := hx11.w hW
  refine iS2 dX12_saved_9 ?_
  refine R_iconst_0 dX12_saved_10 ?_
  refine iS3 dX12_saved_11 ?_
  refine R_iconst_0 dX12_saved_12 ?_
  refine iS4 dX12_saved_13 ?_
  refine loopN ((w 1).toNat) (fun q => Run (d + 10) 0 0 mX12_saved 15 [vR M, vI (bI (b)), vI ((savW w : Nat) : Int), vI (sumB (fun c => w (102 + 7 * c)) (fun c => tb ((savW w : Nat) : Int) c) q), vI ((q : Nat) : Int)] [] g h11 P) (fun q hcnq ihq => ?_) (0) (Nat.zero_le _)
  have hsb := sumB_rng (f := fun c => w (102 + 7 * c)) (p := fun c => tb ((savW w : Nat) : Int) c) (m := 99) (by omega) (n := q) (fun k hk => hf.wo (by omega))
  refine iL4 dX12_saved_15 ?_
  refine aL0 dX12_saved_17 ?_
  refine invV0 rfl dX12_saved_18 kX12_90 hG.o (Nat.le_of_ble_eq_true rfl) (Nat.zero_le _) (Nat.zero_le _) (C_X12_cases hG hW hf (konI ?_))
  have hcs := hf.cas
  refine R_icmp_ge dX12_saved_21 (fun hb21 => ?_) (fun hb21 => ?_)
  · have e9 : q = (w 1).toNat := by omega
    subst e9
    refine iL1 dX12_saved_53 ?_
    refine R_ifB_eq dX12_saved_54 (fun hb54 => ?_) (fun hb54 => ?_)
    · refine iL2 dX12_saved_61 ?_
      exact R_iret dX12_saved_62 rfl (PeqI (K0 _ (hP.q hQ)) (by first | (rw [if_pos hb54]; rfl) | (rw [if_neg (by rw [hb54]; decide)]; done)))
    · refine iL3 dX12_saved_57 ?_
      refine R_goto dX12_saved_58 ?_
      exact R_iret dX12_saved_62 rfl (PeqI (K0 _ (hP.q hQ)) (by first | (rw [if_pos hb54]; rfl) | (rw [if_neg (by rw [hb54]; decide)]; done)))
  · refine iL3 dX12_saved_24 ?_
    refine iL2 dX12_saved_25 ?_
    refine iL4 dX12_saved_26 ?_
    refine invS2 rfl dX12_saved_28 kX12_328 (Nat.le_of_ble_eq_true rfl) (Nat.zero_le _) (Nat.zero_le _) (C_X12_has (by omega) (konI ?_))
    refine R_ifB_eq dX12_saved_31 (fun hb31 => ?_) (fun hb31 => ?_)
    · refine R_iconst_0 dX12_saved_44 ?_
      refine addV dX12_saved_45 (wid (by omega) (by omega)) ?_
      refine iS3 dX12_saved_46 ?_
      refine iInc4 dX12_saved_47 (winc (by omega)) ?_
      refine R_goto dX12_saved_50 ?_
      exact eqI3 (by first | (rw [sumB_t (f := fun c => w (102 + 7 * c)) (p := fun c => tb ((savW w : Nat) : Int) c) hb31]; done) | (rw [sumB_f (f := fun c => w (102 + 7 * c)) (p := fun c => tb ((savW w : Nat) : Int) c) hb31, Int.add_zero])) (ihq (by omega))
    · refine aL0 dX12_saved_34 ?_
      refine iL4 dX12_saved_35 ?_
      refine R_iconst_2 dX12_saved_37 ?_
      refine invV2 rfl dX12_saved_38 kX12_87 hG.o (Nat.le_of_ble_eq_true rfl) (Nat.zero_le _) (Nat.zero_le _) (C_X12_of hG hW (b := 2) (i := 102 + 7 * q) (by omega) (by omega) (konI ?_))
      have hq12 := hf.wo (c := q) (by omega)
      refine R_goto dX12_saved_41 ?_
      refine addV dX12_saved_45 (wid (by omega) (by omega)) ?_
      refine iS3 dX12_saved_46 ?_
      refine iInc4 dX12_saved_47 (winc (by omega)) ?_
      refine R_goto dX12_saved_50 ?_
      exact eqI3 (by first | (rw [sumB_t (f := fun c => w (102 + 7 * c)) (p := fun c => tb ((savW w : Nat) : Int) c) hb31]; done) | (rw [sumB_f (f := fun c => w (102 + 7 * c)) (p := fun c => tb ((savW w : Nat) : Int) c) hb31, Int.add_zero])) (ihq (by omega))
def upT (s c x : Nat) : Bool := decide (x < c) && s.testBit x
theorem upT_n {s c : Nat} (h : s.testBit c = false) (x : Nat) : upT s (c + 1) x = upT s c x := by
  unfold upT
  by_cases e : x = c
  · subst e; rw [h]; simp
  · rw [show decide (x < c + 1) = decide (x < c) by rw [decide_eq_decide]; omega]
theorem upT_y {s c : Nat} (h : s.testBit c = true) (x : Nat) : upT s (c + 1) x = (upT s c x || decide (x = c)) := by
  unfold upT
  by_cases e : x = c
  · subst e; rw [h]; simp
  · rw [show decide (x < c + 1) = decide (x < c) by rw [decide_eq_decide]; omega]; simp [e]
set_option maxHeartbeats 4000000 in
theorem C_X12_allKept {d : Nat} {g : Gs} {h : Hc} {P : Po} {M : Nat} {w : Nat → Int} (hG : MdG g M) (hW : h (M + 1) = w) (hf : WF w) (hl : LawOK w) {s n : Nat} (hn : n ≤ 12) (hS : SvB w s) (K : ∀ h' b, Mz M h h' → (b = true → Hal (myB w n) (fun x => s.testBit x)) → (b = false → ¬ Hal (myB w n) (fun x => s.testBit x)) → P (.inl (some (vI (bI b)))) g h') : Call (d + 9) 0 0 mX12_allKept [vR M, vI ((s : Nat) : Int), vI ((n : Nat) : Int)] g h P := by
  have hcs := hf.cas
  have hjd := hf.jud
  have hho := hf.hou
  refine Call_of rfl ⟨by decide +kernel, rfl⟩ (Nat.le_of_ble_eq_true rfl) rfl ?_
  have hQ : Mz M h h := Mz.rf _ _
  refine aL0 dX12_allKept_0 ?_
  refine iL2 dX12_allKept_1 ?_
  refine invV1 rfl dX12_allKept_2 kX12_425 hG.o (Nat.le_of_ble_eq_true rfl) (Nat.zero_le _) (Nat.zero_le _) (C_X12_laysMay hG hW hf hl (n := n) (by omega) (fun h1 hx1 hMay => konV ?_))
  replace hQ := hQ.tr hx1
  replace hW := hx1.w hW
  refine aL0 dX12_allKept_5 ?_
  refine invV0 rfl dX12_allKept_6 kX12_428 hG.o (Nat.le_of_ble_eq_true rfl) (Nat.zero_le _) (Nat.zero_le _) (C_X12_emptiesList hG (fun h2 hx2 hz2 => konV ?_))
  replace hQ := hQ.offs hx2 (fun q hq => by omega)
  replace hW : h2 (M + 1) = w := by rw [hx2 _ (by omega)]; exact hW
  replace hMay : ∀ c1 k1, c1 < 8 → k1 < 60 → h2 (M + 13) (60 * c1 + k1) = bI (myB w n c1 k1) := by rw [hx2 _ (by omega)]; exact hMay
  have hMt : Mat (myB w n) (fun x => (0 : Nat).testBit x) (h2 (M + 11)) := (Mat.emp _).cong (fun x _ => Nat.zero_testBit x) (fun k hk => hz2 k hk)
  refine R_iconst_1 dX12_allKept_9 ?_
  refine iS3 dX12_allKept_10 ?_
  refine R_iconst_0 dX12_allKept_11 ?_
  refine iS4 dX12_allKept_12 ?_
  refine eqI3 (v := bI true) rfl ?_
  refine loopN ((w 1).toNat) (fun c => ∀ hK3 : Hc, Mz M h hK3 → hK3 (M + 1) = w → (∀ x1 k1, x1 < 8 → k1 < 60 → hK3 (M + 13) (60 * x1 + k1) = bI (myB w n x1 k1)) → ∀ b : Bool, (b = true → Mat (myB w n) (upT s c) (hK3 (M + 11))) → (b = false → ¬ Hal (myB w n) (upT s c)) →  Run (d + 9) 0 0 mX12_allKept 14 [vR M, vI ((s : Nat) : Int), vI ((n : Nat) : Int), vI (bI (b)), vI ((c : Nat) : Int)] [] g hK3 P) (fun c hcnc ihc hK3 hQ hW hMay b hMb hNb => ?_) (0) (Nat.zero_le _) _ hQ hW hMay true (fun _ => hMt.cong (fun x _ => by rw [Nat.zero_testBit]; simp [upT]) (fun _ _ => rfl)) (fun h9 => absurd h9 (by decide))
  refine iL4 dX12_allKept_14 ?_
  refine aL0 dX12_allKept_16 ?_
  refine invV0 rfl dX12_allKept_17 kX12_90 hG.o (Nat.le_of_ble_eq_true rfl) (Nat.zero_le _) (Nat.zero_le _) (C_X12_cases hG hW hf (konI ?_))
  have hcs := hf.cas
  refine R_icmp_ge dX12_allKept_20 (fun hb20 => ?_) (fun hb20 => ?_)
  · have e9c : c = (w 1).toNat := by omega
    refine iL3 dX12_allKept_57 ?_
    exact R_zret dX12_allKept_58 rfl (bI01 _) (K _ b hQ (fun h9 => by first | (exact ((hMb h9).hal).sub (fun x hx hs => by unfold upT; rw [hs, decide_eq_true (by have := (hS.2 x hs).1; omega)]; rfl)) | (rw [hb24] at h9; exact absurd h9 (by decide))) (fun h9 hH => hNb h9 (hH.sub (fun x _ hx => by unfold upT at hx; simp only [Bool.and_eq_true] at hx; exact hx.2))))
  · refine iL3 dX12_allKept_23 ?_
    refine R_ifB_eq dX12_allKept_24 (fun hb24 => ?_) (fun hb24 => ?_)
    · refine iL3 dX12_allKept_57 ?_
      exact R_zret dX12_allKept_58 rfl (bI01 _) (K _ b hQ (fun h9 => by first | (exact ((hMb h9).hal).sub (fun x hx hs => by unfold upT; rw [hs, decide_eq_true (by have := (hS.2 x hs).1; omega)]; rfl)) | (rw [hb24] at h9; exact absurd h9 (by decide))) (fun h9 hH => hNb h9 (hH.sub (fun x _ hx => by unfold upT at hx; simp only [Bool.and_eq_true] at hx; exact hx.2))))
    · refine iL1 dX12_allKept_27 ?_
      refine iL4 dX12_allKept_28 ?_
      refine invS2 rfl dX12_allKept_30 kX12_328 (Nat.le_of_ble_eq_true rfl) (Nat.zero_le _) (Nat.zero_le _) (C_X12_has (by omega) (konI ?_))
      refine R_ifB_eq dX12_allKept_33 (fun hb33 => ?_) (fun hb33 => ?_)
      · have hst : s.testBit c = false := by rw [tb_nat (by omega)] at hb33; exact hb33
        refine R_iconst_1 dX12_allKept_45 ?_
        refine R_goto dX12_allKept_46 ?_
        refine iS3 dX12_allKept_50 ?_
        refine iInc4 dX12_allKept_51 (winc (by omega)) ?_
        refine R_goto dX12_allKept_54 ?_
        exact ihc (by omega) _ hQ hW hMay true (fun _ => (hMb hb24).cong (fun x _ => upT_n hst x) (fun _ _ => rfl)) (fun h9 => absurd h9 (by decide))
      · have hst : s.testBit c = true := by rw [tb_nat (by omega)] at hb33; exact hb33
        have hSc : upT s c c = false := by simp [upT]
        have hMt := hMb hb24
        refine aL0 dX12_allKept_36 ?_
        refine iL4 dX12_allKept_37 ?_
        refine invV1 rfl dX12_allKept_39 kX12_431 hG.o (Nat.le_of_ble_eq_true rfl) (Nat.zero_le _) (Nat.zero_le _) (C_X12_isKept2 hG hMay hMt (by omega) hSc (fun h4 b4 hx4 hbt hbf => konI ?_))
        replace hQ := hQ.offs hx4 (fun q hq => by omega)
        replace hW : h4 (M + 1) = w := by rw [hx4 _ (by omega)]; exact hW
        replace hMay : ∀ c1 k1, c1 < 8 → k1 < 60 → h4 (M + 13) (60 * c1 + k1) = bI (myB w n c1 k1) := by rw [hx4 _ (by omega)]; exact hMay
        refine R_ifB_eq dX12_allKept_42 (fun hb42 => ?_) (fun hb42 => ?_)
        · refine R_iconst_0 dX12_allKept_49 ?_
          refine iS3 dX12_allKept_50 ?_
          refine iInc4 dX12_allKept_51 (winc (by omega)) ?_
          refine R_goto dX12_allKept_54 ?_
          exact ihc (by omega) _ hQ hW hMay false (fun h9 => absurd h9 (by decide)) (fun _ h9 => (hbf hb42).2 (h9.sub (fun x _ hx => by rw [upT_y hst]; exact hx)))
        · refine R_iconst_1 dX12_allKept_45 ?_
          refine R_goto dX12_allKept_46 ?_
          refine iS3 dX12_allKept_50 ?_
          refine iInc4 dX12_allKept_51 (winc (by omega)) ?_
          refine R_goto dX12_allKept_54 ?_
          exact ihc (by omega) _ hQ hW hMay true (fun _ => (hbt hb42).cong (fun x _ => upT_y hst x) (fun _ _ => rfl)) (fun h9 => absurd h9 (by decide))
set_option maxHeartbeats 400000 in
theorem C_X12_needed {d : Nat} {g : Gs} {h : Hc} {P : Po} {M : Nat} {w : Nat → Int} (hG : MdG g M) (hW : h (M + 1) = w) (hf : WF w) (hl : LawOK w) (K0 : ∀ h', Mp M h h' 0 → P (.inl (some (vI (needW w (savW w))))) g h') : Call (d + 10) 0 0 mX12_needed [vR M] g h P := by
  have hcs := hf.cas
  have hjd := hf.jud
  have hho := hf.hou
  refine Call_of rfl ⟨by decide +kernel, rfl⟩ (Nat.le_of_ble_eq_true rfl) rfl ?_
  refine aL0 dX12_needed_0 ?_
  refine R_iconst_0 dX12_needed_1 ?_
  refine R_putI dX12_needed_2 fX12_3 hG.o ?_
  refine storH (fun h1 e1 => ?_)
  have hP : Mp M h h1 0 := by rw [e1]; exact Mp.i h M
  replace hW : h1 (M + 1) = w := hP.w hW
  have hQ : Mz M h1 h1 := Mz.rf _ _
  refine aL0 dX12_needed_5 ?_
  refine invV0 rfl dX12_needed_6 kX12_434 hG.o (Nat.le_of_ble_eq_true rfl) (Nat.zero_le _) (Nat.zero_le _) (C_X12_savedOnes hG hW hf hl (fun h11 hx11 hHal => konI ?_))
  replace hQ := hQ.tr hx11
  replace hW := hx11.w hW
  refine iS1 dX12_needed_9 ?_
  refine R_iconst_0 dX12_needed_10 ?_
  refine iS2 dX12_needed_11 ?_
  have hSv : SvB w (savW w) := by rw [← sm_sav hf]; exact smT_ok hf 100
  refine loopN (12) (fun n => ∀ hK12 : Hc, Mz M h1 hK12 → hK12 (M + 1) = w → (∀ m, m < n → ¬ Hal (myB w m) (fun x => (savW w).testBit x)) →  Run (d + 10) 0 0 mX12_needed 12 [vR M, vI ((savW w : Nat) : Int), vI ((n : Nat) : Int)] [] g hK12 P) (fun n hcnn ihn hK12 hQ hW hmin => ?_) (0) (Nat.zero_le _) _ hQ hW (fun _ h9 => absurd h9 (Nat.not_lt_zero _))
  refine aL0 dX12_needed_12 ?_
  refine iL1 dX12_needed_13 ?_
  refine iL2 dX12_needed_14 ?_
  refine invV2 rfl dX12_needed_15 kX12_437 hG.o (Nat.le_of_ble_eq_true rfl) (Nat.zero_le _) (Nat.zero_le _) (C_X12_allKept hG hW hf hl (n := n) (by omega) hSv (fun h13 b13 hx13 hbt hbf => konI ?_))
  replace hQ := hQ.tr hx13
  replace hW := hx13.w hW
  refine R_ifB_ne dX12_needed_18 (fun hb18 => ?_) (fun hb18 => ?_)
  · refine iL2 dX12_needed_27 ?_
    exact R_iret dX12_needed_28 rfl (PeqI (K0 _ (hP.q hQ)) (need_eq hf hSv (hbt hb18) hmin))
  · refine iInc2 dX12_needed_21 (winc (by omega)) ?_
    refine R_goto dX12_needed_24 ?_
    by_cases e12 : n = 12
    · subst e12; exact absurd hHal (hbf hb18)
    · exact ihn (by omega) _ hQ hW (fun m hm => by
        by_cases e8 : m = n
        · subst e8; exact hbf hb18
        · exact hmin m (by omega))
