def clr (s j : Nat) : Nat := nset (fun k => s.testBit k && !decide (k = j)) 5
theorem clrI : ∀ s : Nat, s < 32 → ∀ j : Nat, j < 5 → andI (s : Int) (xorI (shlI 1 (j : Int)) (-1)) = ((clr s j : Nat) : Int) ∧ clr s j ≤ s ∧ (s.testBit j = true → clr s j < s) := by decide +kernel
theorem clr_lt (s j : Nat) : clr s j < 32 := nset_lt _ 5
theorem clr_bit {s j k : Nat} (hk : k < 5) : (clr s j).testBit k = (s.testBit k && !decide (k = j)) := by unfold clr; rw [nset_bit]; simp [hk]
theorem ntz_f : ∀ s : Nat, s < 32 → 0 < s → ntz s < 5 ∧ s.testBit (ntz s) = true ∧ ∀ x : Nat, x < 5 → x < ntz s → s.testBit x = false := by decide +kernel
theorem shl_J : ∀ n : Nat, n ≤ 5 → shlI 1 (n : Int) = ((2 ^ n : Nat) : Int) ∧ 2 ^ n ≤ 32 := by decide +kernel
theorem wtW_rng (w : Nat → Int) (a b : Nat) : 0 ≤ wtW w a b ∧ wtW w a b ≤ 8 := by
  have := pc8_le (frS w a ^^^ frS w b)
  unfold wtW
  omega
def difP (w : Nat → Int) (a b c : Nat) : Bool := decide (w (104 + 7 * c) = 0) && (frN w c a ^^ frN w c b)
theorem dif_eq {w : Nat → Int} (hf : WF w) (a b : Nat) : ((cntB (difP w a b) (w 1).toNat : Nat) : Int) = wtW w a b := by
  have hc := hf.cas
  unfold wtW pc8
  have e : ∀ k, (frS w a ^^^ frS w b).testBit k = (decide (k < (w 1).toNat) && difP w a b k) := fun k => by
    unfold frS difP
    rw [Nat.testBit_xor, nset_bit, nset_bit]
    cases decide (k < (w 1).toNat) <;> cases decide (w (104 + 7 * k) = 0) <;> simp
  rw [cntB_cong (n := 8) (fun k _ => e k), cntB_up (a := (w 1).toNat) (b := 8) (by omega) (fun k h1 _ => by simp; omega)]
  congr 1
  exact cntB_cong (fun k hk => by simp [hk])
theorem dif_f {w : Nat → Int} {a b c : Nat} (h : bI (frN w c a) = bI (frN w c b)) : difP w a b c = false := by
  unfold difP
  cases h1 : frN w c a <;> cases h2 : frN w c b <;> simp [h1, h2, bI] at h ⊢
theorem dif_t {w : Nat → Int} {a b c : Nat} (h0 : decide (w (104 + 7 * c) = 0) = true) (h : ¬ bI (frN w c a) = bI (frN w c b)) : difP w a b c = true := by
  unfold difP
  rw [h0]
  cases h1 : frN w c a <;> cases h2 : frN w c b <;> simp [h1, h2, bI] at h ⊢
/-- the most of a set of judges -/
def Ow (w : Nat → Int) (s : Nat) : Int := (bsF (wtW w) (w 0).toNat 0 (fun k => s.testBit k)).1
def dB (w : Nat → Int) (s : Nat) (o : Int) : Int := if o = -1 then Ow w (clr s (ntz s)) else if (clr s (ntz s)).testBit o.toNat = true then wtW w (ntz s) o.toNat + Ow w (clr (clr s (ntz s)) o.toNat) else -1
theorem Ow_rng {w : Nat → Int} (hf : WF w) (s : Nat) : 0 ≤ Ow w s ∧ Ow w s ≤ 40 := by
  have h1 := bsF_rng (wtW_rng w) (w 0).toNat 0 (fun k => s.testBit k)
  have := hf.jud
  unfold Ow
  omega
theorem Ow_0 (w : Nat → Int) : Ow w 0 = 0 := by
  have key : ∀ f j, (bsF (wtW w) f j (fun k => (0 : Nat).testBit k)).1 = 0 := by
    intro f
    induction f with
    | zero => intro j; rfl
    | succ f ih => intro j; rw [bsF_skip (Nat.zero_testBit j)]; exact ih (j + 1)
  exact key _ _
theorem ntz_J {J s : Nat} (hJ : J ≤ 5) (h0 : 0 < s) (hs : s < 2 ^ J) : s < 32 ∧ ntz s < J := by
  have h2 : s < 32 := Nat.lt_of_lt_of_le hs (shl_J J hJ).2
  have h3 := (ntz_f s h2 h0).2.1
  refine ⟨h2, ?_⟩
  rcases Nat.lt_or_ge (ntz s) J with q | q
  · exact q
  · rw [Nat.testBit_lt_two_pow (Nat.lt_of_lt_of_le hs (Nat.pow_le_pow_right (n := 2) (by omega) q))] at h3; cases h3
/-- a set's most, by its first judge -/
theorem Ow_at {w : Nat → Int} (hf : WF w) {s : Nat} (h0 : 0 < s) (hs : s < 2 ^ (w 0).toNat) : ∃ f, (w 0).toNat = ntz s + 1 + f ∧ Ow w s = (rnF (wtW w) f (ntz s) (fun k => s.testBit k) f).1 ∧ (bsF (wtW w) f (ntz s + 1) (fun k => s.testBit k)).1 = Ow w (clr s (ntz s)) ∧
    ∀ i, i < f → (bsF (wtW w) f (ntz s + 1) (rm2 (fun k => s.testBit k) (ntz s) (ntz s + 1 + i))).1 = Ow w (clr (clr s (ntz s)) (ntz s + 1 + i)) := by
  have hj := hf.jud
  obtain ⟨h32, hnj⟩ := ntz_J (J := (w 0).toNat) (by omega) h0 hs
  obtain ⟨n1, n2, n3⟩ := ntz_f s h32 h0
  obtain ⟨f, hfe⟩ : ∃ f, (w 0).toNat = ntz s + 1 + f := ⟨(w 0).toNat - ntz s - 1, by omega⟩
  refine ⟨f, hfe, ?_, ?_, fun i hi => ?_⟩
  · have := bsF_down (wt := wtW w) (fr := fun k => s.testBit k) (j := ntz s) (fun x hx => n3 x (by omega) hx) 0 (f + 1) (Nat.zero_le _)
    rw [show ntz s - 0 + (f + 1) = (w 0).toNat by omega] at this
    exact this
  · have := bsF_down (wt := wtW w) (fr := fun k => (clr s (ntz s)).testBit k) (j := ntz s + 1) (fun x hx => by
      show (clr s (ntz s)).testBit x = false
      rw [clr_bit (by omega)]
      by_cases e : x = ntz s
      · simp [e]
      · rw [n3 x (by omega) (by omega)]; rfl) 0 f (Nat.zero_le _)
    rw [show ntz s + 1 - 0 + f = (w 0).toNat by omega] at this
    unfold Ow
    rw [this, bsF_cong (wt := wtW w) f (ntz s + 1) (fr := fun k => s.testBit k) (fr' := fun k => (clr s (ntz s)).testBit k) (fun x h1 h2 => by
      show s.testBit x = (clr s (ntz s)).testBit x
      rw [clr_bit (by omega)]
      simp
      intro _; omega)]
  · have := bsF_down (wt := wtW w) (fr := fun k => (clr (clr s (ntz s)) (ntz s + 1 + i)).testBit k) (j := ntz s + 1) (fun x hx => by
      show (clr (clr s (ntz s)) (ntz s + 1 + i)).testBit x = false
      rw [clr_bit (by omega), clr_bit (by omega)]
      by_cases e : x = ntz s
      · simp [e]
      · rw [n3 x (by omega) (by omega)]; rfl) 0 f (Nat.zero_le _)
    rw [show ntz s + 1 - 0 + f = (w 0).toNat by omega] at this
    unfold Ow
    rw [this, bsF_cong (wt := wtW w) f (ntz s + 1) (fr := rm2 (fun k => s.testBit k) (ntz s) (ntz s + 1 + i)) (fr' := fun k => (clr (clr s (ntz s)) (ntz s + 1 + i)).testBit k) (fun x h1 h2 => by
      show rm2 (fun k => s.testBit k) (ntz s) (ntz s + 1 + i) x = (clr (clr s (ntz s)) (ntz s + 1 + i)).testBit x
      rw [clr_bit (by omega), clr_bit (by omega)]
      unfold rm2
      rw [Bool.and_assoc])]
/-- whom the first of the best ways chooses -/
def chW (w : Nat → Int) (s : Nat) : Int := (rnF (wtW w) ((w 0).toNat - (ntz s + 1)) (ntz s) (fun k => s.testBit k) ((w 0).toNat - (ntz s + 1))).2
theorem dB_ch {w : Nat → Int} (hf : WF w) {s : Nat} (h0 : 0 < s) (hs : s < 2 ^ (w 0).toNat) : (chW w s = -1 ∨ ∃ k : Nat, chW w s = (k : Int) ∧ ntz s < k ∧ k < (w 0).toNat ∧ s.testBit k = true) ∧ dB w s (chW w s) = Ow w s ∧ (∀ o : Int, -1 ≤ o → o < chW w s → dB w s o ≠ Ow w s) ∧ ∀ o : Int, -1 ≤ o → o < w 0 → dB w s o ≤ Ow w s := by
  have hj := hf.jud
  obtain ⟨h32, hnj⟩ := ntz_J (J := (w 0).toNat) (by omega) h0 hs
  obtain ⟨n1, n2, n3⟩ := ntz_f s h32 h0
  obtain ⟨f, hfe, e1, e2, e3⟩ := Ow_at hf h0 hs
  have hO := Ow_rng hf s
  have hbit : ∀ x, x < 5 → (clr s (ntz s)).testBit x = (s.testBit x && !decide (x = ntz s)) := fun x hx => clr_bit hx
  have hlow : ∀ x : Nat, x ≤ ntz s → dB w s (x : Int) = -1 := fun x hx => by
    unfold dB
    rw [if_neg (by omega), show ((x : Nat) : Int).toNat = x by omega, hbit x (by omega)]
    by_cases e : x = ntz s
    · rw [if_neg]; simp [e]
    · rw [n3 x (by omega) (by omega)]; rfl
  have hup : ∀ i, i < f → dB w s ((ntz s + 1 + i : Nat) : Int) = if s.testBit (ntz s + 1 + i) = true then wtW w (ntz s) (ntz s + 1 + i) + (bsF (wtW w) f (ntz s + 1) (rm2 (fun k => s.testBit k) (ntz s) (ntz s + 1 + i))).1 else -1 := fun i hi => by
    unfold dB
    rw [if_neg (by omega), show (((ntz s + 1 + i : Nat) : Int)).toNat = ntz s + 1 + i by omega, hbit _ (by omega), e3 i hi, show decide (ntz s + 1 + i = ntz s) = false from decide_eq_false (by omega), Bool.not_false, Bool.and_true]
  have hno : dB w s (-1) = (bsF (wtW w) f (ntz s + 1) (fun k => s.testBit k)).1 := by unfold dB; rw [if_pos rfl, e2]
  have hall : ∀ o : Int, -1 ≤ o → o < w 0 → o = -1 ∨ (∃ x : Nat, x ≤ ntz s ∧ o = (x : Int)) ∨ ∃ i : Nat, i < f ∧ o = ((ntz s + 1 + i : Nat) : Int) := fun o h1 h2 => by
    by_cases q : o = -1
    · exact Or.inl q
    · right
      by_cases q2 : o ≤ (ntz s : Int)
      · exact Or.inl ⟨o.toNat, by omega, by omega⟩
      · exact Or.inr ⟨o.toNat - (ntz s + 1), by omega, by omega⟩
  have hch : chW w s = (rnF (wtW w) f (ntz s) (fun k => s.testBit k) f).2 := by unfold chW; rw [show (w 0).toNat - (ntz s + 1) = f by omega]
  rw [hch, e1]
  rw [e1] at hO
  rcases rnF_best (wt := wtW w) (f := f) (j := ntz s) (fr := fun k => s.testBit k) f with ⟨b1, b2, b3⟩ | ⟨i, b1, b2, b3, b4, b5, b6, b7⟩
  · rw [b1]
    refine ⟨Or.inl rfl, by rw [hno, b2], fun o h1 h2 => by omega, fun o h1 h2 => ?_⟩
    rcases hall o h1 h2 with q | ⟨x, hx, q⟩ | ⟨i, hi, q⟩
    · rw [q, hno, b2]; exact Int.le_refl _
    · rw [q, hlow x hx]; omega
    · rw [q, hup i hi]
      split
      · rename_i hb; exact b3 i hi n2 hb
      · omega
  · rw [b3]
    have b2' : s.testBit (ntz s + 1 + i) = true := b2.2
    refine ⟨Or.inr ⟨ntz s + 1 + i, rfl, by omega, by omega, b2'⟩, by rw [hup i b1, if_pos b2', b4], fun o h1 h2 => ?_, fun o h1 h2 => ?_⟩
    · rcases hall o h1 (by omega) with q | ⟨x, hx, q⟩ | ⟨i2, hi, q⟩
      · rw [q, hno]; omega
      · rw [q, hlow x hx]; omega
      · rw [q, hup i2 hi]
        split
        · rename_i hb; have := b6 i2 (by omega) hb; omega
        · omega
    · rcases hall o h1 h2 with q | ⟨x, hx, q⟩ | ⟨i2, hi, q⟩
      · rw [q, hno]; omega
      · rw [q, hlow x hx]; omega
      · rw [q, hup i2 hi]
        split
        · rename_i hb; exact b7 i2 hi hb
        · omega
def mV (w : Nat → Int) (s : Nat) : Nat → Int := foldN (fun q a => mx2 a (dB w s ((q : Int) - 1))) 0
theorem mV_s (w : Nat → Int) (s n : Nat) : mV w s (n + 1) = mx2 (mV w s n) (dB w s ((n : Int) - 1)) := rfl
theorem mV_rng {w : Nat → Int} (hf : WF w) {s : Nat} (h0 : 0 < s) (hs : s < 2 ^ (w 0).toNat) : ∀ n : Nat, (n : Int) ≤ w 0 + 1 → 0 ≤ mV w s n ∧ mV w s n ≤ Ow w s ∧ (chW w s < (n : Int) - 1 → mV w s n = Ow w s)
  | 0, _ => by
    have := Ow_rng hf s
    obtain ⟨c1, -, -, -⟩ := dB_ch hf h0 hs
    show (0 : Int) ≤ 0 ∧ (0 : Int) ≤ Ow w s ∧ _
    refine ⟨Int.le_refl _, this.1, fun q => ?_⟩
    rcases c1 with c | ⟨k, c, _⟩ <;> omega
  | n + 1, hn => by
    obtain ⟨i1, i2, i3⟩ := mV_rng hf h0 hs n (by omega)
    obtain ⟨c1, c2, c3, c4⟩ := dB_ch hf h0 hs
    have c5 := c4 ((n : Int) - 1) (by omega) (by omega)
    rw [mV_s]
    unfold mx2
    refine ⟨by split <;> omega, by split <;> omega, fun q => ?_⟩
    by_cases e : chW w s = (n : Int) - 1
    · rw [← e, c2]; split <;> omega
    · have := i3 (by omega)
      split <;> omega
theorem mV_end {w : Nat → Int} (hf : WF w) {s : Nat} (h0 : 0 < s) (hs : s < 2 ^ (w 0).toNat) : mV w s ((w 0).toNat + 1) = Ow w s := by
  have hj := hf.jud
  obtain ⟨c1, -, -, -⟩ := dB_ch hf h0 hs
  refine (mV_rng hf h0 hs _ (by omega)).2.2 ?_
  rcases c1 with c | ⟨k, c, _⟩ <;> omega
/-- the first of the best ways goes on with what is left -/
theorem rc_step {w : Nat → Int} (hf : WF w) {s : Nat} (h0 : 0 < s) (hs : s < 2 ^ (w 0).toNat) {j f : Nat} {pa : Nat → Int} (hJ : (w 0).toNat = j + f) (hjn : j ≤ ntz s) (hpa : ∀ x, j ≤ x → x < (w 0).toNat → (ngB pa x = s.testBit x)) :
    ∃ f2, (w 0).toNat = ntz s + 1 + f2 ∧ rcF (wtW w) f j pa = if chW w s < 0 then rcF (wtW w) f2 (ntz s + 1) pa else rcF (wtW w) f2 (ntz s + 1) (updW (updW pa (ntz s) (chW w s)) (chW w s).toNat (ntz s)) := by
  have hj := hf.jud
  obtain ⟨h32, hnj⟩ := ntz_J (J := (w 0).toNat) (by omega) h0 hs
  obtain ⟨n1, n2, n3⟩ := ntz_f s h32 h0
  obtain ⟨f2, hf2⟩ : ∃ f2, (w 0).toNat = ntz s + 1 + f2 := ⟨(w 0).toNat - (ntz s + 1), by omega⟩
  refine ⟨f2, hf2, ?_⟩
  have hsk : ∀ m j2 f3, m = ntz s - j2 → j ≤ j2 → j2 ≤ ntz s → (w 0).toNat = j2 + f3 → rcF (wtW w) f3 j2 pa = rcF (wtW w) (f2 + 1) (ntz s) pa := by
    intro m
    induction m with
    | zero => intro j2 f3 h1 h2 h3 h4; rw [show j2 = ntz s by omega, show f3 = f2 + 1 by omega]
    | succ m ih =>
      intro j2 f3 h1 h2 h3 h4
      obtain ⟨f4, rfl⟩ : ∃ f4, f3 = f4 + 1 := ⟨f3 - 1, by omega⟩
      have e : ngB pa j2 = false := by rw [hpa j2 h2 (by omega)]; exact n3 j2 (by omega) (by omega)
      rw [rcF_s, bsF_skip e, if_pos (by show (-1 : Int) < 0; omega)]
      exact ih (j2 + 1) f4 (by omega) (by omega) (by omega) (by omega)
  rw [hsk _ j f rfl (Nat.le_refl _) hjn hJ, rcF_s]
  have e : (bsF (wtW w) (f2 + 1) (ntz s) (ngB pa)).2 = chW w s := by
    rw [bsF_cong (wt := wtW w) (f2 + 1) (ntz s) (fr := ngB pa) (fr' := fun k => s.testBit k) (fun x h1 h2 => hpa x (by omega) (by omega))]
    unfold chW
    rw [show (w 0).toNat - (ntz s + 1) = f2 by omega]
    rfl
  rw [e]
theorem prW_eq (w : Nat → Int) : prW w = (0 + (bsF (wtW w) (w 0).toNat 0 (ngB (fun _ => -1))).1, rcF (wtW w) (w 0).toNat 0 (fun _ => -1)) := by
  have h := (bsF_rng (wtW_rng w) (w 0).toNat 0 (ngB (fun _ => -1))).1
  unfold prW
  rw [prF_eq, if_pos (by show (-1 : Int) < 0 + _; omega)]
theorem all_bits : ∀ n : Nat, n ≤ 5 → ∀ x : Nat, x < 5 → (2 ^ n - 1).testBit x = decide (x < n) := by decide +kernel
theorem prW_1 {w : Nat → Int} (hf : WF w) : (prW w).1 = Ow w (2 ^ (w 0).toNat - 1) := by
  have hj := hf.jud
  rw [prW_eq, Int.zero_add]
  unfold Ow
  rw [bsF_cong (wt := wtW w) (w 0).toNat 0 (fr := ngB (fun _ => -1)) (fr' := fun k => (2 ^ (w 0).toNat - 1).testBit k) (fun x _ hx => by
    rw [all_bits _ (by omega) x (by omega)]
    unfold ngB
    simp
    omega)]
set_option maxHeartbeats 400000 in
theorem C_X12_differ {d : Nat} {g : Gs} {h : Hc} {P : Po} {M : Nat} {w : Nat → Int} (hG : MdG g M) (hW : h (M + 1) = w) (hf : WF w) (hl : LawOK w) {a b : Nat} (ha : a < 5) (hb : b < 5) (K : ∀ h', Mq M h h' → P (.inl (some (vI (wtW w a b)))) g h') : Call (d + 10) 0 0 mX12_differ [vR M, vI ((a : Nat) : Int), vI ((b : Nat) : Int)] g h P := by
  refine Call_of rfl ⟨by decide +kernel, rfl⟩ (Nat.le_of_ble_eq_true rfl) rfl ?_
  have hQ : Mq M h h := Mq.rf _ _
  refine R_iconst_0 dX12_differ_0 ?_
  refine iS3 dX12_differ_1 ?_
  refine R_iconst_0 dX12_differ_2 ?_
  refine iS4 dX12_differ_3 ?_
  have hcs := hf.cas
  have hjd := hf.jud
  have hho := hf.hou
  refine loopN ((w 1).toNat) (fun q => ∀ hK1 : Hc, Mq M h hK1 → hK1 (M + 1) = w →  Run (d + 10) 0 0 mX12_differ 5 [vR M, vI ((a : Nat) : Int), vI ((b : Nat) : Int), vI ((cntB (difP w a b) q : Nat) : Int), vI ((q : Nat) : Int)] [] g hK1 P) (fun q hcnq ihq hK1 hQ hW  => ?_) (0) (Nat.zero_le _) _ hQ hW
  refine iL4 dX12_differ_5 ?_
  refine aL0 dX12_differ_7 ?_
  refine invV0 rfl dX12_differ_8 kX12_90 hG.o (Nat.le_of_ble_eq_true rfl) (Nat.zero_le _) (Nat.zero_le _) (C_X12_cases hG hW hf (konI ?_))
  have hcs := hf.cas
  refine R_icmp_ge dX12_differ_11 (fun hb11 => ?_) (fun hb11 => ?_)
  · have e9 : q = (w 1).toNat := by omega
    subst e9
    refine iL3 dX12_differ_54 ?_
    exact R_iret dX12_differ_55 rfl (by have := K _ hQ; rw [← dif_eq hf] at this; exact this)
  · refine iL3 dX12_differ_14 ?_
    suffices J2 : ∀ hJ2 : Hc, Mq M h hJ2 → hJ2 (M + 1) = w → Run (d + 10) 0 0 mX12_differ 46 [vR M, vI ((a : Nat) : Int), vI ((b : Nat) : Int), vI ((cntB (difP w a b) q : Nat) : Int), vI ((q : Nat) : Int)] [vI (bI (difP w a b q)), vI ((cntB (difP w a b) q : Nat) : Int)] g hJ2 P by
      refine aL0 dX12_differ_15 ?_
      refine iL4 dX12_differ_16 ?_
      refine invV1 rfl dX12_differ_18 kX12_321 hG.o (Nat.le_of_ble_eq_true rfl) (Nat.zero_le _) (Nat.zero_le _) (C_X12_isWaiting hG hW hf (by omega) (konI ?_))
      refine R_ifB_eq dX12_differ_21 (fun hb21 => ?_) (fun hb21 => ?_)
      · refine R_iconst_0 dX12_differ_45 ?_
        exact topV (v := bI (difP w a b q)) (by first | (rw [bI_f (by first | (simp only [difP, hb21, Bool.false_and]; done) | fail)]; done) | (rw [bI_f (dif_f hb38)]; done) | (rw [bI_t (dif_t hb21 hb38)]; done)) (J2 _ hQ hW)
      · refine aL0 dX12_differ_24 ?_
        refine iL1 dX12_differ_25 ?_
        refine iL4 dX12_differ_26 ?_
        refine invV2 rfl dX12_differ_28 kX12_375 hG.o (Nat.le_of_ble_eq_true rfl) (Nat.zero_le _) (Nat.zero_le _) (C_X12_frees hG hW hf hl (by omega) (by omega) (fun h3 hx3 => konI ?_))
        replace hQ := hQ.tr hx3
        replace hW := hx3.w hW
        refine aL0 dX12_differ_31 ?_
        refine iL2 dX12_differ_32 ?_
        refine iL4 dX12_differ_33 ?_
        refine invV2 rfl dX12_differ_35 kX12_375 hG.o (Nat.le_of_ble_eq_true rfl) (Nat.zero_le _) (Nat.zero_le _) (C_X12_frees hG hW hf hl (by omega) (by omega) (fun h4 hx4 => konI ?_))
        replace hQ := hQ.tr hx4
        replace hW := hx4.w hW
        refine R_icmp_eq dX12_differ_38 (fun hb38 => ?_) (fun hb38 => ?_)
        · refine R_iconst_0 dX12_differ_45 ?_
          exact topV (v := bI (difP w a b q)) (by first | (rw [bI_f (by first | (simp only [difP, hb21, Bool.false_and]; done) | fail)]; done) | (rw [bI_f (dif_f hb38)]; done) | (rw [bI_t (dif_t hb21 hb38)]; done)) (J2 _ hQ hW)
        · refine R_iconst_1 dX12_differ_41 ?_
          refine R_goto dX12_differ_42 ?_
          exact topV (v := bI (difP w a b q)) (by first | (rw [bI_f (by first | (simp only [difP, hb21, Bool.false_and]; done) | fail)]; done) | (rw [bI_f (dif_f hb38)]; done) | (rw [bI_t (dif_t hb21 hb38)]; done)) (J2 _ hQ hW)
    intro hJ2 hQ hW
    have hcl := cntB_le (difP w a b) q
    have hb01 := bI01 (difP w a b q)
    refine addV dX12_differ_46 (wid (by omega) (by omega)) ?_
    refine iS3 dX12_differ_47 ?_
    refine iInc4 dX12_differ_48 (winc (by omega)) ?_
    refine R_goto dX12_differ_51 ?_
    exact eqI3 (cntB_b) (ihq (by omega) _ hQ hW)
set_option maxHeartbeats 400000 in
theorem C_X12_firstOf {d : Nat} {g : Gs} {h : Hc} {P : Po} {s : Nat} (h0 : 0 < s) (h5 : s < 32) (K : P (.inl (some (vI ((ntz s : Nat) : Int)))) g h) : Call (d + 1) 0 0 mX12_firstOf [vI ((s : Nat) : Int)] g h P := by
  refine Call_of rfl ⟨by decide +kernel, rfl⟩ (Nat.le_of_ble_eq_true rfl) rfl ?_
  refine iL0 dX12_firstOf_0 ?_
  refine invS1 rfl dX12_firstOf_1 kX12_466 (Nat.le_of_ble_eq_true rfl) (Nat.zero_le _) (Nat.zero_le _) (C_J6_numberOfTrailingZeros_0f7a4 h0 h5 (konI ?_))
  exact R_iret dX12_firstOf_4 rfl (K)
set_option maxHeartbeats 1000000 in
theorem C_X12_differingBy {d : Nat} {g : Gs} {h : Hc} {P : Po} {M : Nat} {w : Nat → Int} (hG : MdG g M) (hW : h (M + 1) = w) (hf : WF w) (hl : LawOK w) {s : Nat} {o : Int} (h0 : 0 < s) (h5 : s < 32) (ho1 : -1 ≤ o) (ho2 : o < w 0) (hD : ∀ x, x < s → h (M + 18) x = Ow w x) (K : ∀ h', Mq M h h' → P (.inl (some (vI (dB w s o)))) g h') : Call (d + 11) 0 0 mX12_differingBy [vR M, vI ((s : Nat) : Int), vI o] g h P := by
  have hcs := hf.cas
  have hjd := hf.jud
  have hho := hf.hou
  refine Call_of rfl ⟨by decide +kernel, rfl⟩ (Nat.le_of_ble_eq_true rfl) rfl ?_
  have hQ : Mq M h h := Mq.rf _ _
  refine iL1 dX12_differingBy_0 ?_
  refine invS1 rfl dX12_differingBy_1 kX12_469 (Nat.le_of_ble_eq_true rfl) (Nat.zero_le _) (Nat.zero_le _) (C_X12_firstOf h0 h5 (konI ?_))
  obtain ⟨hn1, hn2, hn3⟩ := ntz_f s h5 h0
  refine iS3 dX12_differingBy_4 ?_
  refine iL1 dX12_differingBy_5 ?_
  refine R_iconst_1 dX12_differingBy_6 ?_
  refine iL3 dX12_differingBy_7 ?_
  refine R_ishl dX12_differingBy_8 ?_
  refine R_iconst_m1 dX12_differingBy_9 ?_
  refine R_ixor dX12_differingBy_10 ?_
  refine R_iand dX12_differingBy_11 ?_
  refine topV (v := (((clr s (ntz s)) : Nat) : Int)) ((clrI s h5 (ntz s) hn1).1) ?_
  have hc2 := (clrI s h5 (ntz s) hn1).2.2 hn2
  have hc3 := clr_lt s (ntz s)
  refine iS4 dX12_differingBy_12 ?_
  refine iL2 dX12_differingBy_14 ?_
  refine R_iconst_m1 dX12_differingBy_15 ?_
  refine R_icmp_ne dX12_differingBy_16 (fun hb16 => ?_) (fun hb16 => ?_)
  · refine iL4 dX12_differingBy_27 ?_
    refine iL2 dX12_differingBy_29 ?_
    refine topV (v := ((o.toNat : Nat) : Int)) (by omega) ?_
    refine invS2 rfl dX12_differingBy_30 kX12_328 (Nat.le_of_ble_eq_true rfl) (Nat.zero_le _) (Nat.zero_le _) (C_X12_has (by omega) (konI ?_))
    refine R_ifB_eq dX12_differingBy_33 (fun hb33 => ?_) (fun hb33 => ?_)
    · refine R_iconst_m1 dX12_differingBy_59 ?_
      exact R_iret dX12_differingBy_60 rfl (PeqI (K _ hQ) (by unfold dB; first | (rw [if_pos (by omega)]; done) | (rw [if_neg (by omega), if_pos (by rw [tb_nat (by omega)] at hb33; exact hb33)]; done) | (rw [if_neg (by omega), if_neg (by rw [tb_nat (by omega)] at hb33; rw [hb33]; decide)]; done)))
    · refine aL0 dX12_differingBy_36 ?_
      refine iL3 dX12_differingBy_37 ?_
      refine iL2 dX12_differingBy_38 ?_
      refine topV (v := ((o.toNat : Nat) : Int)) (by omega) ?_
      refine invV2 rfl dX12_differingBy_39 kX12_472 hG.o (Nat.le_of_ble_eq_true rfl) (Nat.zero_le _) (Nat.zero_le _) (C_X12_differ hG hW hf hl (by omega) (by omega) (fun h1 hx1 => konI ?_))
      replace hQ := hQ.tr hx1
      replace hW := hx1.w hW
      have hk18 : h1 (M + 18) = h (M + 18) := hx1.keep (by omega)
      have hwr := wtW_rng w (ntz s) o.toNat
      have hor := Ow_rng hf (clr (clr s (ntz s)) o.toNat)
      refine aL0 dX12_differingBy_42 ?_
      refine R_getR dX12_differingBy_43 fX12_70.r hG.o rfl ?_
      refine iL4 dX12_differingBy_46 ?_
      refine R_iconst_1 dX12_differingBy_48 ?_
      refine iL2 dX12_differingBy_49 ?_
      refine topV (v := ((o.toNat : Nat) : Int)) (by omega) ?_
      refine R_ishl dX12_differingBy_50 ?_
      refine R_iconst_m1 dX12_differingBy_51 ?_
      refine R_ixor dX12_differingBy_52 ?_
      refine R_iand dX12_differingBy_53 ?_
      refine topV (v := (((clr (clr s (ntz s)) o.toNat) : Nat) : Int)) ((clrI _ hc3 o.toNat (by omega)).1) ?_
      have hc4 := (clrI _ hc3 o.toNat (by omega)).2.1
      refine ialdN dX12_differingBy_54 hG.a18 rfl (by omega) ?_
      refine topV (v := Ow w (clr (clr s (ntz s)) o.toNat)) (by rw [hk18]; exact hD _ (by omega)) ?_
      refine addV dX12_differingBy_55 (wid (by omega) (by omega)) ?_
      refine R_goto dX12_differingBy_56 ?_
      exact R_iret dX12_differingBy_60 rfl (PeqI (K _ hQ) (by unfold dB; first | (rw [if_pos (by omega)]; done) | (rw [if_neg (by omega), if_pos (by rw [tb_nat (by omega)] at hb33; exact hb33)]; done) | (rw [if_neg (by omega), if_neg (by rw [tb_nat (by omega)] at hb33; rw [hb33]; decide)]; done)))
  · refine aL0 dX12_differingBy_19 ?_
    refine R_getR dX12_differingBy_20 fX12_70.r hG.o rfl ?_
    refine iL4 dX12_differingBy_23 ?_
    refine ialdN dX12_differingBy_25 hG.a18 rfl (by omega) ?_
    refine topV (v := Ow w (clr s (ntz s))) (hD _ (by omega)) ?_
    exact R_iret dX12_differingBy_26 rfl (PeqI (K _ hQ) (by unfold dB; first | (rw [if_pos (by omega)]; done) | (rw [if_neg (by omega), if_pos (by rw [tb_nat (by omega)] at hb33; exact hb33)]; done) | (rw [if_neg (by omega), if_neg (by rw [tb_nat (by omega)] at hb33; rw [hb33]; decide)]; done)))
set_option maxHeartbeats 1000000 in
theorem C_X12_laysDiffering {d : Nat} {g : Gs} {h : Hc} {P : Po} {M : Nat} {w : Nat → Int} (hG : MdG g M) (hW : h (M + 1) = w) (hf : WF w) (hl : LawOK w) (K : ∀ h', Mz M h h' → (∀ x, x < 2 ^ (w 0).toNat → h' (M + 18) x = Ow w x) → P (.inl none) g h') : Call (d + 12) 0 0 mX12_laysDiffering [vR M] g h P := by
  have hcs := hf.cas
  have hjd := hf.jud
  have hho := hf.hou
  refine Call_of rfl ⟨by decide +kernel, rfl⟩ (Nat.le_of_ble_eq_true rfl) rfl ?_
  have hQ : Mz M h h := Mz.rf _ _
  refine aL0 dX12_laysDiffering_0 ?_
  refine R_getR dX12_laysDiffering_1 fX12_70.r hG.o rfl ?_
  refine R_iconst_0 dX12_laysDiffering_4 ?_
  refine R_iconst_0 dX12_laysDiffering_5 ?_
  refine iastN (k := 0) dX12_laysDiffering_6 hG.a18 rfl (by decide) ?_
  refine storH (fun h1 e1 => ?_)
  have hQ0 := hQ
  have hW0 := hW
  replace hQ : Mz M h h1 := by rw [e1]; exact hQ0.arr (by omega)
  replace hW : h1 (M + 1) = w := by rw [e1, updH_a (by omega)]; exact hW0
  refine R_iconst_1 dX12_laysDiffering_7 ?_
  refine iS1 dX12_laysDiffering_8 ?_
  refine loopN (2 ^ (w 0).toNat) (fun s => ∀ hK2 : Hc, Mz M h hK2 → hK2 (M + 1) = w → 1 ≤ s → (∀ x, x < s → hK2 (M + 18) x = Ow w x) → ∀ v2 v3 : AV,  Run (d + 12) 0 0 mX12_laysDiffering 9 [vR M, vI ((s : Nat) : Int), v2, v3] [] g hK2 P) (fun s hcns ihs hK2 hQ hW hs1 hD v2 v3 => ?_) (1) (Nat.one_le_two_pow) _ hQ hW (Nat.le_refl _) (fun x hx => by rw [show x = 0 by omega, Ow_0, e1]; exact updH_s _ _ _ _) _ _
  have hJ5 := (shl_J (w 0).toNat (by have := hf.jud; omega)).2
  refine iL1 dX12_laysDiffering_9 ?_
  refine R_iconst_1 dX12_laysDiffering_10 ?_
  refine aL0 dX12_laysDiffering_11 ?_
  refine invV0 rfl dX12_laysDiffering_12 kX12_98 hG.o (Nat.le_of_ble_eq_true rfl) (Nat.zero_le _) (Nat.zero_le _) (C_X12_judges hG hW hf (konI ?_))
  have hjd := hf.jud
  refine topV (v := (((w 0).toNat : Nat) : Int)) (by omega) ?_
  refine R_ishl dX12_laysDiffering_15 ?_
  refine topV (v := ((2 ^ (w 0).toNat : Nat) : Int)) ((shl_J _ (by omega)).1) ?_
  refine R_icmp_ge dX12_laysDiffering_16 (fun hb16 => ?_) (fun hb16 => ?_)
  · exact R_vret dX12_laysDiffering_61 rfl (K _ hQ (fun x hx => hD x (by omega)))
  · refine R_iconst_0 dX12_laysDiffering_19 ?_
    refine iS2 dX12_laysDiffering_20 ?_
    refine R_iconst_m1 dX12_laysDiffering_21 ?_
    refine iS3 dX12_laysDiffering_22 ?_
    refine eqI3 (v := ((0 : Nat) : Int) - 1) (by omega) ?_
    refine loopN (((w 0).toNat + 1)) (fun q => ∀ hK3 : Hc, Mz M h hK3 → hK3 (M + 1) = w → (∀ x, x < s → hK3 (M + 18) x = Ow w x) →  Run (d + 12) 0 0 mX12_laysDiffering 23 [vR M, vI ((s : Nat) : Int), vI (mV w s q), vI ((q : Int) - 1)] [] g hK3 P) (fun q hcnq ihq hK3 hQ hW hD => ?_) (0) (Nat.zero_le _) _ hQ hW hD
    have hmr := mV_rng hf (s := s) (by omega) (by omega) q (by have := hf.jud; omega)
    refine iL3 dX12_laysDiffering_23 ?_
    refine aL0 dX12_laysDiffering_24 ?_
    refine invV0 rfl dX12_laysDiffering_25 kX12_98 hG.o (Nat.le_of_ble_eq_true rfl) (Nat.zero_le _) (Nat.zero_le _) (C_X12_judges hG hW hf (konI ?_))
    have hjd := hf.jud
    refine R_icmp_ge dX12_laysDiffering_28 (fun hb28 => ?_) (fun hb28 => ?_)
    · have e9q : q = (w 0).toNat + 1 := by omega
      refine aL0 dX12_laysDiffering_48 ?_
      refine R_getR dX12_laysDiffering_49 fX12_70.r hG.o rfl ?_
      refine iL1 dX12_laysDiffering_52 ?_
      refine iL2 dX12_laysDiffering_53 ?_
      refine iastN dX12_laysDiffering_54 hG.a18 rfl (by omega) ?_
      refine storH (fun h4 e4 => ?_)
      have hQ0 := hQ
      have hW0 := hW
      replace hQ : Mz M h h4 := by rw [e4]; exact hQ0.arr (by omega)
      replace hW : h4 (M + 1) = w := by rw [e4, updH_a (by omega)]; exact hW0
      refine iInc1 dX12_laysDiffering_55 (winc (by omega)) ?_
      refine R_goto dX12_laysDiffering_58 ?_
      exact ihs (by omega) _ hQ hW (by omega) (fun x hx => by
          rw [e4]
          by_cases e8 : x = s
          · subst e8; rw [updH_s, e9q]; exact mV_end hf (by omega) (by omega)
          · rw [updH_i e8]; exact hD x (by omega)) _ _
    · refine iL2 dX12_laysDiffering_31 ?_
      refine aL0 dX12_laysDiffering_32 ?_
      refine iL1 dX12_laysDiffering_33 ?_
      refine iL3 dX12_laysDiffering_34 ?_
      refine invV2 rfl dX12_laysDiffering_35 kX12_475 hG.o (Nat.le_of_ble_eq_true rfl) (Nat.zero_le _) (Nat.zero_le _) (C_X12_differingBy hG hW hf hl (by omega) (by omega) (by omega) (by omega) hD (fun h5 hx5 => konI ?_))
      replace hQ := hQ.tr (Mq.z hx5)
      replace hW := hx5.w hW
      have hk18_5 : h5 (M + 18) = _ := hx5.keep (by omega)
      rw [← hk18_5] at hD
      refine R_mmax dX12_laysDiffering_38 kX12_313 lb_max (Nat.le_of_ble_eq_true rfl) ?_
      refine topV (v := mV w s (q + 1)) (rfl) ?_
      refine iS2 dX12_laysDiffering_41 ?_
      refine iInc3 dX12_laysDiffering_42 (wid (by omega) (by omega)) ?_
      refine R_goto dX12_laysDiffering_45 ?_
      exact eqI3 (by omega) (ihq (by omega) _ hQ hW hD)
set_option maxHeartbeats 400000 in
theorem C_X12_pairs_n {d : Nat} {g : Gs} {h : Hc} {P : Po} {M : Nat} {w : Nat → Int} (hG : MdG g M) (hW : h (M + 1) = w) (hf : WF w) (hl : LawOK w) (K0 : ∀ h', Mp M h h' 0 → P (.inl (some (vI (prW w).1))) g h') : Call (d + 13) 0 0 mX12_pairs [vR M, vI (-1)] g h P := by
  have hcs := hf.cas
  have hjd := hf.jud
  have hho := hf.hou
  refine Call_of rfl ⟨by decide +kernel, rfl⟩ (Nat.le_of_ble_eq_true rfl) rfl ?_
  refine aL0 dX12_pairs_0 ?_
  refine R_iconst_0 dX12_pairs_1 ?_
  refine R_putI dX12_pairs_2 fX12_3 hG.o ?_
  refine storH (fun h1 e1 => ?_)
  have hP : Mp M h h1 0 := by rw [e1]; exact Mp.i h M
  replace hW : h1 (M + 1) = w := hP.w hW
  have hQ : Mz M h1 h1 := Mz.rf _ _
  refine aL0 dX12_pairs_5 ?_
  suffices J11 : Run (d + 13) 0 0 mX12_pairs 24 [vR M, vI (-1), vU, vU, vU, vU, vU] [vI (bI (false)), vR M] g h1 P by
    refine iL1 dX12_pairs_6 ?_
    refine R_iconst_m1 dX12_pairs_7 ?_
    refine R_icmp_eq dX12_pairs_8 (fun hb8 => ?_) (fun hb8 => ?_)
    · refine R_iconst_0 dX12_pairs_23 ?_
      exact topV (v := bI (false)) (by first | rfl | exact absurd rfl hb8) J11
    · exact absurd rfl hb8
  refine R_iconst_1 dX12_pairs_24 ?_
  refine invV2 rfl dX12_pairs_25 kX12_274 hG.o (Nat.le_of_ble_eq_true rfl) (Nat.zero_le _) (Nat.zero_le _) (C_X12_throwsIf hG (fun h12 hth12 => konI ?_))
  have hPE12 : ∀ hbb : (false) = true, Mp M h h12 1 := fun hbb => hth12.t (hP.q hQ) hbb
  have hQE12 : ∀ hbb : (false) = false, Mz M h1 h12 := fun hbb => hth12.q hQ hbb
  have hWE12 : ∀ hbb : (false) = false, h12 (M + 1) = w := fun hbb => hth12.w hW hbb
  refine R_ifB_eq dX12_pairs_28 (fun hb28 => ?_) (fun hb28 => ?_)
  · replace hQ := hQE12 hb28
    replace hW := hWE12 hb28
    refine aL0 dX12_pairs_33 ?_
    refine invV0 rfl dX12_pairs_34 kX12_478 hG.o (Nat.le_of_ble_eq_true rfl) (Nat.zero_le _) (Nat.zero_le _) (C_X12_laysDiffering hG hW hf hl (fun h13 hx13 hD => konV ?_))
    replace hQ := hQ.tr hx13
    replace hW := hx13.w hW
    obtain ⟨hJ1, hJ5⟩ := shl_J (w 0).toNat (by omega)
    have hJp : 1 ≤ 2 ^ (w 0).toNat := Nat.one_le_two_pow
    refine R_iconst_1 dX12_pairs_37 ?_
    refine aL0 dX12_pairs_38 ?_
    refine invV0 rfl dX12_pairs_39 kX12_98 hG.o (Nat.le_of_ble_eq_true rfl) (Nat.zero_le _) (Nat.zero_le _) (C_X12_judges hG hW hf (konI ?_))
    have hjd := hf.jud
    refine topV (v := (((w 0).toNat : Nat) : Int)) (by omega) ?_
    refine R_ishl dX12_pairs_42 ?_
    refine topV (v := ((2 ^ (w 0).toNat : Nat) : Int)) (hJ1) ?_
    refine R_iconst_1 dX12_pairs_43 ?_
    refine subV dX12_pairs_44 (wid (by omega) (by omega)) ?_
    refine topV (v := (((2 ^ (w 0).toNat - 1) : Nat) : Int)) (by omega) ?_
    refine iS2 dX12_pairs_45 ?_
    refine iL1 dX12_pairs_46 ?_
    refine R_iconst_m1 dX12_pairs_47 ?_
    refine R_icmp_ne dX12_pairs_48 (fun hb48 => ?_) (fun hb48 => ?_)
    · exact absurd rfl hb48
    · refine aL0 dX12_pairs_51 ?_
      refine R_getR dX12_pairs_52 fX12_70.r hG.o rfl ?_
      refine iL2 dX12_pairs_55 ?_
      refine ialdN dX12_pairs_56 hG.a18 rfl (by omega) ?_
      refine topV (v := Ow w (2 ^ (w 0).toNat - 1)) (hD _ (by omega)) ?_
      exact R_iret dX12_pairs_57 rfl (PeqI (K0 _ (hP.q hQ)) (prW_1 hf).symm)
  · exact absurd hb28 (by decide)
/-- what is left, and what the first of the best ways says of it -/
theorem pr_bits {w : Nat → Int} (hf : WF w) {s s2 n : Nat} (hs2 : s2 < 32) (h0 : 0 < s2) (hb : ∀ x, x < 5 → x ≤ n → s2.testBit x = false) : n + 1 ≤ ntz s2 := by
  obtain ⟨a1, a2, _⟩ := ntz_f s2 hs2 h0
  by_cases q : ntz s2 ≤ n
  · rw [hb _ a1 q] at a2; cases a2
  · omega
theorem pos_bit {s x : Nat} (h : s.testBit x = true) : 0 < s := by
  rcases Nat.eq_zero_or_pos s with e | e
  · rw [e, Nat.zero_testBit] at h; cases h
  · exact e
theorem pr_n {w : Nat → Int} (hf : WF w) {s j j0 : Nat} {pa : Nat → Int} (h0 : 0 < s) (hs : s < 2 ^ (w 0).toNat) (hjs : s.testBit j = true) (hj5 : j < 5) (hne : ntz s ≠ j) (hj0 : j0 ≤ ntz s) (hpa : ∀ x, j0 ≤ x → x < (w 0).toNat → (ngB pa x = s.testBit x)) :
    (clr s (ntz s)).testBit j = true ∧ ntz s + 1 ≤ ntz (clr s (ntz s)) ∧ ∀ x, ntz s + 1 ≤ x → x < (w 0).toNat → (ngB pa x = (clr s (ntz s)).testBit x) := by
  have hj := hf.jud
  have h32 := (ntz_J (J := (w 0).toNat) (by omega) h0 hs).1
  obtain ⟨n1, n2, n3⟩ := ntz_f s h32 h0
  have hb : (clr s (ntz s)).testBit j = true := by rw [clr_bit hj5, hjs]; simp; exact fun e => hne e.symm
  refine ⟨hb, pr_bits hf (s := s) (clr_lt _ _) (pos_bit hb) (fun x hx hxn => ?_), fun x h1 h2 => ?_⟩
  · rw [clr_bit hx]
    by_cases e : x = ntz s
    · simp [e]
    · rw [n3 x hx (by omega)]; rfl
  · rw [hpa x (by omega) h2, clr_bit (by omega), show decide (x = ntz s) = false from decide_eq_false (by omega)]; simp
theorem pr_o {w : Nat → Int} (hf : WF w) {s j j0 o : Nat} {pa : Nat → Int} (h0 : 0 < s) (hs : s < 2 ^ (w 0).toNat) (hjs : s.testBit j = true) (hj5 : j < 5) (hne : ntz s ≠ j) (hno : o ≠ j) (ho1 : ntz s < o) (ho2 : o < (w 0).toNat) (hj0 : j0 ≤ ntz s) (hpa : ∀ x, j0 ≤ x → x < (w 0).toNat → (ngB pa x = s.testBit x)) :
    (clr (clr s (ntz s)) o).testBit j = true ∧ ntz s + 1 ≤ ntz (clr (clr s (ntz s)) o) ∧ ∀ x, ntz s + 1 ≤ x → x < (w 0).toNat → (ngB (updW (updW pa (ntz s) (o : Int)) o (ntz s)) x = (clr (clr s (ntz s)) o).testBit x) := by
  have hj := hf.jud
  have h32 := (ntz_J (J := (w 0).toNat) (by omega) h0 hs).1
  obtain ⟨n1, n2, n3⟩ := ntz_f s h32 h0
  have hb : (clr (clr s (ntz s)) o).testBit j = true := by
    rw [clr_bit hj5, clr_bit hj5, hjs]
    simp
    exact ⟨fun e => hne e.symm, fun e => hno e.symm⟩
  refine ⟨hb, pr_bits hf (s := s) (clr_lt _ _) (pos_bit hb) (fun x hx hxn => ?_), fun x h1 h2 => ?_⟩
  · rw [clr_bit hx, clr_bit hx]
    by_cases e : x = ntz s
    · simp [e]
    · rw [n3 x hx (by omega)]; rfl
  · rw [ngB_upd (by omega), clr_bit (by omega), clr_bit (by omega)]
    unfold rm2
    rw [hpa x (by omega) h2, Bool.and_assoc]
theorem pr_fn {w : Nat → Int} {s j f2 : Nat} {pa : Nat → Int} (hc : chW w s = -1) (hp1 : ∀ x, -1 ≤ pa x) (hng : ngB pa j = true) (hj : ntz s = j) : chW w s = rcF (wtW w) f2 (ntz s + 1) pa j := by
  rw [rcF_keep _ _ _ j (Or.inl (by omega)), hc]
  have := of_decide_eq_true hng
  have := hp1 j
  omega
theorem pr_fo {w : Nat → Int} {s j f2 o : Nat} {pa : Nat → Int} (hfd : ntz s = j ∨ o = j) (ho : ntz s < o) : (if (ntz s : Int) = (j : Int) then (o : Int) else (ntz s : Int)) = rcF (wtW w) f2 (ntz s + 1) (updW (updW pa (ntz s) (o : Int)) o (ntz s)) j := by
  by_cases e : ntz s = j
  · rw [rcF_keep _ _ _ j (Or.inl (by omega)), if_pos (by omega), updW_n (by omega), ← e, updW_s]
  · have e2 : o = j := hfd.resolve_left e
    rw [rcF_keep _ _ _ j (Or.inr (by rw [e2, updW_s]; omega)), if_neg (by omega), e2, updW_s]
set_option maxHeartbeats 4000000 in
theorem C_X12_pairs {d : Nat} {g : Gs} {h : Hc} {P : Po} {M : Nat} {w : Nat → Int} (hG : MdG g M) (hW : h (M + 1) = w) (hf : WF w) (hl : LawOK w) {x : Int} (hxn : ¬ x = -1) (KE : ¬ (0 ≤ x ∧ x < w 0) → ∀ h', Mp M h h' 1 → P (.inl (some (vI 0))) g h') (K0 : ∀ j : Nat, x = (j : Int) → (j : Int) < w 0 → ∀ h', Mp M h h' 0 → P (.inl (some (vI ((prW w).2 j)))) g h') : Call (d + 13) 0 0 mX12_pairs [vR M, vI x] g h P := by
  have hcs := hf.cas
  have hjd := hf.jud
  have hho := hf.hou
  refine Call_of rfl ⟨by decide +kernel, rfl⟩ (Nat.le_of_ble_eq_true rfl) rfl ?_
  refine aL0 dX12_pairs_0 ?_
  refine R_iconst_0 dX12_pairs_1 ?_
  refine R_putI dX12_pairs_2 fX12_3 hG.o ?_
  refine storH (fun h1 e1 => ?_)
  have hP : Mp M h h1 0 := by rw [e1]; exact Mp.i h M
  replace hW : h1 (M + 1) = w := hP.w hW
  have hQ : Mz M h1 h1 := Mz.rf _ _
  refine aL0 dX12_pairs_5 ?_
  suffices J11 : Run (d + 13) 0 0 mX12_pairs 24 [vR M, vI x, vU, vU, vU, vU, vU] [vI (bI (noB x (w 0))), vR M] g h1 P by
    refine iL1 dX12_pairs_6 ?_
    refine R_iconst_m1 dX12_pairs_7 ?_
    refine R_icmp_eq dX12_pairs_8 (fun hb8 => ?_) (fun hb8 => ?_)
    · refine R_iconst_0 dX12_pairs_23 ?_
      exact topV (v := bI (noB x (w 0))) (by first | exact absurd hb8 hxn | (rw [bI_t hb16]; done) | (rw [bI_f hb16]; done)) J11
    · refine aL0 dX12_pairs_11 ?_
      refine iL1 dX12_pairs_12 ?_
      refine invV1 rfl dX12_pairs_13 kX12_383 hG.o (Nat.le_of_ble_eq_true rfl) (Nat.zero_le _) (Nat.zero_le _) (C_X12_noJudge hG hW hf (konI ?_))
      refine R_ifB_eq dX12_pairs_16 (fun hb16 => ?_) (fun hb16 => ?_)
      · refine R_iconst_0 dX12_pairs_23 ?_
        exact topV (v := bI (noB x (w 0))) (by first | exact absurd hb8 hxn | (rw [bI_t hb16]; done) | (rw [bI_f hb16]; done)) J11
      · refine R_iconst_1 dX12_pairs_19 ?_
        refine R_goto dX12_pairs_20 ?_
        exact topV (v := bI (noB x (w 0))) (by first | exact absurd hb8 hxn | (rw [bI_t hb16]; done) | (rw [bI_f hb16]; done)) J11
  refine R_iconst_1 dX12_pairs_24 ?_
  refine invV2 rfl dX12_pairs_25 kX12_274 hG.o (Nat.le_of_ble_eq_true rfl) (Nat.zero_le _) (Nat.zero_le _) (C_X12_throwsIf hG (fun h12 hth12 => konI ?_))
  have hPE12 : ∀ hbb : (noB x (w 0)) = true, Mp M h h12 1 := fun hbb => hth12.t (hP.q hQ) hbb
  have hQE12 : ∀ hbb : (noB x (w 0)) = false, Mz M h1 h12 := fun hbb => hth12.q hQ hbb
  have hWE12 : ∀ hbb : (noB x (w 0)) = false, h12 (M + 1) = w := fun hbb => hth12.w hW hbb
  refine R_ifB_eq dX12_pairs_28 (fun hb28 => ?_) (fun hb28 => ?_)
  · replace hQ := hQE12 hb28
    replace hW := hWE12 hb28
    have hx1 := noB_f hb28
    obtain ⟨j, rfl⟩ : ∃ j : Nat, x = (j : Int) := ⟨x.toNat, by omega⟩
    refine aL0 dX12_pairs_33 ?_
    refine invV0 rfl dX12_pairs_34 kX12_478 hG.o (Nat.le_of_ble_eq_true rfl) (Nat.zero_le _) (Nat.zero_le _) (C_X12_laysDiffering hG hW hf hl (fun h13 hx13 hD => konV ?_))
    replace hQ := hQ.tr hx13
    replace hW := hx13.w hW
    obtain ⟨hJ1, hJ5⟩ := shl_J (w 0).toNat (by omega)
    have hJp : 1 ≤ 2 ^ (w 0).toNat := Nat.one_le_two_pow
    refine R_iconst_1 dX12_pairs_37 ?_
    refine aL0 dX12_pairs_38 ?_
    refine invV0 rfl dX12_pairs_39 kX12_98 hG.o (Nat.le_of_ble_eq_true rfl) (Nat.zero_le _) (Nat.zero_le _) (C_X12_judges hG hW hf (konI ?_))
    have hjd := hf.jud
    refine topV (v := (((w 0).toNat : Nat) : Int)) (by omega) ?_
    refine R_ishl dX12_pairs_42 ?_
    refine topV (v := ((2 ^ (w 0).toNat : Nat) : Int)) (hJ1) ?_
    refine R_iconst_1 dX12_pairs_43 ?_
    refine subV dX12_pairs_44 (wid (by omega) (by omega)) ?_
    refine topV (v := (((2 ^ (w 0).toNat - 1) : Nat) : Int)) (by omega) ?_
    refine iS2 dX12_pairs_45 ?_
    refine iL1 dX12_pairs_46 ?_
    refine R_iconst_m1 dX12_pairs_47 ?_
    refine R_icmp_ne dX12_pairs_48 (fun hb48 => ?_) (fun hb48 => ?_)
    · refine R_iconst_m1 dX12_pairs_58 ?_
      refine iS3 dX12_pairs_59 ?_
      refine R_iconst_0 dX12_pairs_60 ?_
      refine iS4 dX12_pairs_61 ?_
      have hans : (prW w).2 j = rcF (wtW w) (w 0).toNat 0 (fun _ => -1) j := by rw [prW_eq]
      have hfull : ∀ x, 0 ≤ x → x < (w 0).toNat → (ngB (fun _ => -1) x = (2 ^ (w 0).toNat - 1).testBit x) := fun x _ hx => by rw [all_bits _ (by omega) x (by omega)]; unfold ngB; simp; omega
      have hjb : (2 ^ (w 0).toNat - 1).testBit j = true := by rw [all_bits _ (by omega) j (by omega)]; simp; omega
      refine loopN 5 (fun q => ∀ (hK : Hc) (s f j0 : Nat) (pa : Nat → Int) (v3 v5 v6 : AV), Mz M h1 hK → hK (M + 1) = w → (∀ x, x < 2 ^ (w 0).toNat → hK (M + 18) x = Ow w x) → s < 2 ^ (w 0).toNat → s.testBit j = true → q ≤ ntz s → j0 ≤ ntz s → (w 0).toNat = j0 + f → (∀ x, j0 ≤ x → x < (w 0).toNat → (ngB pa x = s.testBit x)) → rcF (wtW w) f j0 pa j = (prW w).2 j → (∀ x, -1 ≤ pa x) → Run (d + 13) 0 0 mX12_pairs 63 [vR M, vI ((j : Nat) : Int), vI ((s : Nat) : Int), v3, vI 0, v5, v6] [] g hK P) (fun q hcq ihq hK s f j0 pa v3 v5 v6 hQ hW hD hs hjs hqn hj0 hJf hpa hrc hp1 => ?_) 0 (Nat.zero_le _) h13 (2 ^ (w 0).toNat - 1) (w 0).toNat 0 (fun _ => -1) _ _ _ hQ hW hD (by omega) hjb (Nat.zero_le _) (Nat.zero_le _) (by omega) hfull hans.symm (fun _ => Int.le_refl _)
      have h0 : 0 < s := by
        rcases Nat.eq_zero_or_pos s with e | e
        · rw [e, Nat.zero_testBit] at hjs; cases hjs
        · exact e
      have h5 : s < 32 := by omega
      obtain ⟨hn1, hn2, hn3⟩ := ntz_f s h5 h0
      have hnJ := (ntz_J (J := (w 0).toNat) (by omega) h0 hs).2
      obtain ⟨hc1, hc2, hc3, hc4⟩ := dB_ch hf h0 hs
      obtain ⟨f2, hf2, hst⟩ := rc_step hf h0 hs hJf hj0 hpa
      refine iL4 dX12_pairs_63 ?_
      refine R_if_ne dX12_pairs_65 (fun hb65 => ?_) (fun hb65 => ?_)
      · exact absurd rfl hb65
      · refine iL2 dX12_pairs_68 ?_
        refine invS1 rfl dX12_pairs_69 kX12_469 (Nat.le_of_ble_eq_true rfl) (Nat.zero_le _) (Nat.zero_le _) (C_X12_firstOf h0 h5 (konI ?_))
        refine iS5 dX12_pairs_72 ?_
        refine R_iconst_m1 dX12_pairs_74 ?_
        refine iS6 dX12_pairs_75 ?_
        refine eqI6 (v := ((0 : Nat) : Int) - 1) (by omega) ?_
        refine loopN (w 0).toNat (fun i => ∀ hI : Hc, Mz M h1 hI → hI (M + 1) = w → (∀ x, x < 2 ^ (w 0).toNat → hI (M + 18) x = Ow w x) → (i : Int) - 1 ≤ chW w s → Run (d + 13) 0 0 mX12_pairs 77 [vR M, vI ((j : Nat) : Int), vI ((s : Nat) : Int), v3, vI 0, vI ((ntz s : Nat) : Int), vI ((i : Int) - 1)] [] g hI P) (fun i hci ihi hI hQ hW hD hich => ?_) 0 (Nat.zero_le _) hK hQ hW hD (by rcases hc1 with c | ⟨k, c, _⟩ <;> omega)
        have hch2 : chW w s < w 0 := by rcases hc1 with c | ⟨k, c, _⟩ <;> omega
        refine aL0 dX12_pairs_77 ?_
        refine iL2 dX12_pairs_78 ?_
        refine iL6 dX12_pairs_79 ?_
        refine invV2 rfl dX12_pairs_81 kX12_475 hG.o (Nat.le_of_ble_eq_true rfl) (Nat.zero_le _) (Nat.zero_le _) (C_X12_differingBy hG hW hf hl h0 (by omega) (by omega) (by omega) (fun x hx => hD x (by omega)) (fun h14 hx14 => konI ?_))
        replace hQ := hQ.tr (Mq.z hx14)
        replace hW := hx14.w hW
        have hk18_14 : h14 (M + 18) = _ := hx14.keep (by omega)
        rw [← hk18_14] at hD
        refine aL0 dX12_pairs_84 ?_
        refine R_getR dX12_pairs_85 fX12_70.r hG.o rfl ?_
        refine iL2 dX12_pairs_88 ?_
        refine ialdN dX12_pairs_89 hG.a18 rfl (by omega) ?_
        refine topV (v := Ow w s) (hD _ (by omega)) ?_
        refine R_icmp_eq dX12_pairs_90 (fun hb90 => ?_) (fun hb90 => ?_)
        · have hie : (i : Int) - 1 = chW w s := by
            by_cases e8 : (i : Int) - 1 = chW w s
            · exact e8
            · exact absurd hb90 (hc3 _ (by omega) (by omega))
          rw [hie]
          suffices J15 : Run (d + 13) 0 0 mX12_pairs 116 [vR M, vI ((j : Nat) : Int), vI ((s : Nat) : Int), v3, vI 0, vI ((ntz s : Nat) : Int), vI (chW w s)] [vI (bI (decide ((ntz s : Int) = (j : Int) ∨ chW w s = (j : Int))))] g h14 P by
            refine iL5 dX12_pairs_99 ?_
            refine iL1 dX12_pairs_101 ?_
            refine R_icmp_eq dX12_pairs_102 (fun hb102 => ?_) (fun hb102 => ?_)
            · refine R_iconst_1 dX12_pairs_111 ?_
              refine R_goto dX12_pairs_112 ?_
              exact topV (v := bI (decide ((ntz s : Int) = (j : Int) ∨ chW w s = (j : Int)))) (by first | (rw [bI_t (decide_eq_true (by omega))]; done) | (rw [bI_f (decide_eq_false (by omega))]; done)) J15
            · refine iL6 dX12_pairs_105 ?_
              refine iL1 dX12_pairs_107 ?_
              refine R_icmp_ne dX12_pairs_108 (fun hb108 => ?_) (fun hb108 => ?_)
              · refine R_iconst_0 dX12_pairs_115 ?_
                exact topV (v := bI (decide ((ntz s : Int) = (j : Int) ∨ chW w s = (j : Int)))) (by first | (rw [bI_t (decide_eq_true (by omega))]; done) | (rw [bI_f (decide_eq_false (by omega))]; done)) J15
              · refine R_iconst_1 dX12_pairs_111 ?_
                refine R_goto dX12_pairs_112 ?_
                exact topV (v := bI (decide ((ntz s : Int) = (j : Int) ∨ chW w s = (j : Int)))) (by first | (rw [bI_t (decide_eq_true (by omega))]; done) | (rw [bI_f (decide_eq_false (by omega))]; done)) J15
          refine iS4 dX12_pairs_116 ?_
          suffices J16 : Run (d + 13) 0 0 mX12_pairs 131 [vR M, vI ((j : Nat) : Int), vI ((s : Nat) : Int), v3, vI (bI (decide ((ntz s : Int) = (j : Int) ∨ chW w s = (j : Int)))), vI ((ntz s : Nat) : Int), vI (chW w s)] [vI ((if (ntz s : Int) = (j : Int) then chW w s else (ntz s : Int)))] g h14 P by
            refine iL5 dX12_pairs_118 ?_
            refine iL1 dX12_pairs_120 ?_
            refine R_icmp_ne dX12_pairs_121 (fun hb121 => ?_) (fun hb121 => ?_)
            · refine iL5 dX12_pairs_129 ?_
              exact topV (v := (if (ntz s : Int) = (j : Int) then chW w s else (ntz s : Int))) (by first | (rw [if_pos (by omega)]; done) | (rw [if_neg (by omega)]; done)) J16
            · refine iL6 dX12_pairs_124 ?_
              refine R_goto dX12_pairs_126 ?_
              exact topV (v := (if (ntz s : Int) = (j : Int) then chW w s else (ntz s : Int))) (by first | (rw [if_pos (by omega)]; done) | (rw [if_neg (by omega)]; done)) J16
          refine iS3 dX12_pairs_131 ?_
          refine iL2 dX12_pairs_132 ?_
          refine R_iconst_1 dX12_pairs_133 ?_
          refine iL5 dX12_pairs_134 ?_
          refine R_ishl dX12_pairs_136 ?_
          refine R_iconst_m1 dX12_pairs_137 ?_
          refine R_ixor dX12_pairs_138 ?_
          refine R_iand dX12_pairs_139 ?_
          refine topV (v := (((clr s (ntz s)) : Nat) : Int)) ((clrI s h5 (ntz s) hn1).1) ?_
          have hk2 := (clrI s h5 (ntz s) hn1).2.1
          have hc9 := clr_lt s (ntz s)
          refine iS2 dX12_pairs_140 ?_
          refine iL6 dX12_pairs_141 ?_
          refine R_iconst_m1 dX12_pairs_143 ?_
          refine R_icmp_ne dX12_pairs_144 (fun hb144 => ?_) (fun hb144 => ?_)
          · obtain ⟨o, hoe, ho1, ho2, ho3⟩ := hc1.resolve_left hb144
            refine eqI6 (v := (o : Int)) hoe ?_
            refine iL2 dX12_pairs_151 ?_
            refine R_iconst_1 dX12_pairs_152 ?_
            refine iL6 dX12_pairs_153 ?_
            refine R_ishl dX12_pairs_155 ?_
            refine R_iconst_m1 dX12_pairs_156 ?_
            refine R_ixor dX12_pairs_157 ?_
            refine R_iand dX12_pairs_158 ?_
            refine topV (v := (((clr (clr s (ntz s)) o) : Nat) : Int)) ((clrI _ hc9 o (by omega)).1) ?_
            have hk3 := (clrI _ hc9 o (by omega)).2.1
            refine iS2 dX12_pairs_159 ?_
            refine R_goto dX12_pairs_160 ?_
            rw [hoe, if_neg (by omega), show ((o : Nat) : Int).toNat = o by omega] at hst
            by_cases hfd : (ntz s : Int) = (j : Int) ∨ chW w s = (j : Int)
            · have hv : (if (ntz s : Int) = (j : Int) then chW w s else (ntz s : Int)) = (prW w).2 j := by rw [← hrc, hst, hoe]; exact pr_fo (by omega) ho1
              refine eqI4 (v := 1) (bI_t (decide_eq_true hfd)) ?_
              refine iL4 dX12_pairs_63 ?_
              refine R_if_ne dX12_pairs_65 (fun _ => ?_) (fun h9 => absurd h9 (by decide))
              refine iL3 dX12_pairs_163 ?_
              exact R_iret dX12_pairs_164 rfl (PeqI (K0 j rfl (by omega) _ (hP.q hQ)) hv)
            · obtain ⟨k1, k2, k3⟩ := pr_o hf h0 hs hjs (by omega) (by omega) (by omega) ho1 (by omega) hj0 hpa
              refine eqI4 (v := 0) (bI_f (decide_eq_false hfd)) ?_
              exact ihq (by omega) _ (clr (clr s (ntz s)) o) f2 (ntz s + 1) (updW (updW pa (ntz s) (o : Int)) o (ntz s)) _ _ _ hQ hW hD (by omega) k1 (by omega) k2 hf2 k3 (by rw [← hst]; exact hrc) (fun x => by unfold updW; (repeat' split) <;> first | omega | exact hp1 x)
          · refine iL2 dX12_pairs_147 ?_
            refine R_goto dX12_pairs_148 ?_
            refine iS2 dX12_pairs_159 ?_
            refine R_goto dX12_pairs_160 ?_
            have hcm : chW w s = -1 := by omega
            rw [hcm, if_pos (by omega)] at hst
            by_cases hfd : (ntz s : Int) = (j : Int) ∨ chW w s = (j : Int)
            · have hv : (if (ntz s : Int) = (j : Int) then chW w s else (ntz s : Int)) = (prW w).2 j := by rw [← hrc, hst, if_pos (by omega)]; exact pr_fn hcm hp1 (by rw [hpa j (by omega) (by omega)]; exact hjs) (by omega)
              refine eqI4 (v := 1) (bI_t (decide_eq_true hfd)) ?_
              refine iL4 dX12_pairs_63 ?_
              refine R_if_ne dX12_pairs_65 (fun _ => ?_) (fun h9 => absurd h9 (by decide))
              refine iL3 dX12_pairs_163 ?_
              exact R_iret dX12_pairs_164 rfl (PeqI (K0 j rfl (by omega) _ (hP.q hQ)) hv)
            · obtain ⟨k1, k2, k3⟩ := pr_n hf h0 hs hjs (by omega) (by omega) hj0 hpa
              refine eqI4 (v := 0) (bI_f (decide_eq_false hfd)) ?_
              exact ihq (by omega) _ (clr s (ntz s)) f2 (ntz s + 1) pa _ _ _ hQ hW hD (by omega) k1 (by omega) k2 hf2 k3 (by rw [← hst]; exact hrc) hp1
        · refine iInc6 dX12_pairs_93 (wid (by omega) (by omega)) ?_
          refine R_goto dX12_pairs_96 ?_
          have hne : chW w s ≠ (i : Int) - 1 := fun e8 => hb90 (by rw [← e8]; exact hc2)
          have hn2 : ((i + 1 : Nat) : Int) - 1 ≤ chW w s := by clear hc1; omega
          refine eqI6 (v := ((i + 1 : Nat) : Int) - 1) ?_ (ihi (by clear hc1; omega) _ hQ hW hD hn2)
          clear hc1; omega
    · omega
  · have hPX := hPE12 hb28
    refine R_iconst_0 dX12_pairs_31 ?_
    exact R_iret dX12_pairs_32 rfl (KE (noB_t hb28) _ hPX)
