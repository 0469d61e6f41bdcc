/-! MATCHES -/
def mts (m c r : Nat) : Nat → Prop := fun q => (m ≤ q ∧ q < m + 6) ∨ q = c + 1 ∨ q = r + 5
def MtG (g : Gs) (m t c : Nat) : Prop := g.1[m]? = some (5, 8, [(t : Int), (c : Int), ((m + 1 : Nat) : Int), ((m + 2 : Nat) : Int), ((m + 3 : Nat) : Int), ((m + 4 : Nat) : Int), ((m + 5 : Nat) : Int), -1]) ∧ g.1[m + 1]? = some (14, 8, []) ∧ g.1[m + 2]? = some (13, 5, []) ∧ g.1[m + 3]? = some (13, 5, []) ∧ g.1[m + 4]? = some (13, 5, []) ∧ g.1[m + 5]? = some (13, 5, [])
def Mt (g : Gs) (h : Hc) (m t c r : Nat) (w : Nat → Int) : Prop := Ct g h c t r w ∧ MtG g m t c ∧ (∀ i, i < 16 → ¬ mts m c r (t + i)) ∧ (∀ i, i < 5 → ¬ mts m c r (r + i)) ∧ (∀ i, i < 6 → ¬ m + i = c + 1 ∧ ¬ m + i = r + 5)
section
variable {g : Gs} {h h' : Hc} {m t c r : Nat} {w : Nat → Int}
theorem Mt.ct (q : Mt g h m t c r w) : Ct g h c t r w := q.1
theorem Mt.tw (q : Mt g h m t c r w) : Tw h t w := q.1.tw
theorem Mt.wf (q : Mt g h m t c r w) : WF w := q.1.wf
theorem Mt.tg (q : Mt g h m t c r w) : TwG g t := q.1.tg
theorem Mt.o (q : Mt g h m t c r w) : g.1[m]? = some (5, 8, [(t : Int), (c : Int), ((m + 1 : Nat) : Int), ((m + 2 : Nat) : Int), ((m + 3 : Nat) : Int), ((m + 4 : Nat) : Int), ((m + 5 : Nat) : Int), -1]) := q.2.1.1
theorem Mt.a1 (q : Mt g h m t c r w) : g.1[m + 1]? = some (14, 8, []) := q.2.1.2.1
theorem Mt.a2 (q : Mt g h m t c r w) : g.1[m + 2]? = some (13, 5, []) := q.2.1.2.2.1
theorem Mt.a3 (q : Mt g h m t c r w) : g.1[m + 3]? = some (13, 5, []) := q.2.1.2.2.2.1
theorem Mt.a4 (q : Mt g h m t c r w) : g.1[m + 4]? = some (13, 5, []) := q.2.1.2.2.2.2.1
theorem Mt.a5 (q : Mt g h m t c r w) : g.1[m + 5]? = some (13, 5, []) := q.2.1.2.2.2.2.2
theorem Mt.off (q : Mt g h m t c r w) (o : Off (mts m c r) h h') : Mt g h' m t c r w := ⟨⟨q.1.1, q.tw.off o q.2.2.1, q.wf, q.1.lw.off o q.2.2.2.1, q.1.lo⟩, q.2⟩
theorem Off.scrM (o : Off (scr c r) h h') : Off (mts m c r) h h' := o.mono (fun _ hq => Or.inr hq)
theorem Mt.keep (q : Mt g h m t c r w) (o : Off (scr c r) h h') {i : Nat} (hi : i < 6) : h' (m + i) = h (m + i) := o _ (fun e => e.elim (q.2.2.2.2 i hi).1 (q.2.2.2.2 i hi).2)
end
/-- the one of the most, of several the least -/
def amx (p : Nat → Bool) (v : Nat → Int) : Nat → Int := foldN (fun k b => if p k = true ∧ (b < 0 ∨ v b.toNat < v k) then (k : Int) else b) (-1)
theorem amx_s (p : Nat → Bool) (v : Nat → Int) (n : Nat) : amx p v (n + 1) = if p n = true ∧ (amx p v n < 0 ∨ v (amx p v n).toNat < v n) then (n : Int) else amx p v n := rfl
theorem amx_rng (p : Nat → Bool) (v : Nat → Int) : ∀ n, amx p v n = -1 ∨ ∃ k : Nat, k < n ∧ amx p v n = (k : Int) ∧ p k = true
  | 0 => Or.inl rfl
  | n + 1 => by
    rw [amx_s]
    by_cases h : p n = true ∧ (amx p v n < 0 ∨ v (amx p v n).toNat < v n)
    · rw [if_pos h]; exact Or.inr ⟨n, Nat.lt_succ_self n, rfl, h.1⟩
    · rw [if_neg h]
      rcases amx_rng p v n with e | ⟨k, h1, h2, h3⟩
      · exact Or.inl e
      · exact Or.inr ⟨k, by omega, h2, h3⟩
theorem amx_lt (p : Nat → Bool) (v : Nat → Int) (n : Nat) : -1 ≤ amx p v n ∧ amx p v n < n := by
  rcases amx_rng p v n with e | ⟨k, h1, h2, -⟩ <;> omega
def payW (w : Nat → Int) (j k : Nat) : Int := ((k * 17 % 40 : Nat) : Int) + (if j = k then w (83 + 4 * j) else 0)
def ratP (w : Nat → Int) (j z k : Nat) : Bool := decide (payW w j z < payW w j k) || (decide (payW w j k = payW w j z) && decide (k < z))
def hunA (w : Nat → Int) (s : Int) : Int := amx (fun j => !tb s j) (fun j => w (80 + 4 * j)) (w 0).toNat
def deaA (w : Nat → Int) (j : Nat) (s : Int) : Int := amx (fun k => !tb s k) (payW w j) 5
def wrtA (w : Nat → Int) (s : Int) : Int := amx (fun c => tb s c) (fun c => w (102 + 7 * c)) (w 1).toNat
def cirG (w : Nat → Int) (x : Nat) : Nat → Int → Int → Int
  | 0, _, _ => -1
  | f + 1, pl, tk => if hunA w pl = x ∨ hunA w pl < 0 ∨ deaA w (hunA w pl).toNat tk < 0 then (if hunA w pl < 0 then -1 else deaA w (hunA w pl).toNat tk) else cirG w x f (orI pl (shlI 1 (hunA w pl))) (orI tk (shlI 1 (deaA w (hunA w pl).toNat tk)))
def gaL (w : Nat → Int) (gt : Nat → Int) : Int := amx (fun _ => true) (fun j => - gt j) (w 0).toNat
def shaS (w : Nat → Int) (c : Nat) (a : Int × (Nat → Int)) : Int × (Nat → Int) := if w (104 + 7 * c) = 0 then (gaL w a.2, if 0 ≤ gaL w a.2 then updW a.2 (gaL w a.2).toNat (a.2 (gaL w a.2).toNat + w (101 + 7 * c)) else a.2) else a
def shaF (w : Nat → Int) : Nat → Int × (Nat → Int) := foldN (shaS w) (-1, fun _ => 0)
theorem shaF_s (w : Nat → Int) (n : Nat) : shaF w (n + 1) = shaS w n (shaF w n) := rfl
def shaW (w : Nat → Int) (x : Nat) : Int := if w (104 + 7 * x) = 0 then (shaF w (x + 1)).1 else -1
theorem shaF_rng {w : Nat → Int} (hf : WF w) : ∀ n, n ≤ 8 → (∀ j, j < 5 → 0 ≤ (shaF w n).2 j ∧ (shaF w n).2 j ≤ 99 * n) ∧ -1 ≤ (shaF w n).1 ∧ (shaF w n).1 < 5 := by
  intro n
  induction n with
  | zero => intro _; exact ⟨fun j _ => ⟨Int.le_refl _, by show (0 : Int) ≤ _; omega⟩, by show (-1 : Int) ≤ -1; omega, by show (-1 : Int) < 5; omega⟩
  | succ n ih =>
    intro hn
    obtain ⟨i1, i2, i3⟩ := ih (by omega)
    have hg := hf.gr (c := n) (by omega)
    have hj := hf.jud
    have hl := amx_lt (fun _ => true) (fun j => - (shaF w n).2 j) (w 0).toNat
    rw [shaF_s]
    unfold shaS
    by_cases h : w (104 + 7 * n) = 0
    · rw [if_pos h]
      refine ⟨fun j hj5 => ?_, ?_, ?_⟩
      · dsimp only
        by_cases h2 : 0 ≤ gaL w (shaF w n).2
        · rw [if_pos h2]
          have h3 := i1 (gaL w (shaF w n).2).toNat (by unfold gaL; omega)
          by_cases e : j = (gaL w (shaF w n).2).toNat
          · rw [e, updW_s]; omega
          · rw [updW_n e]; have := i1 j hj5; omega
        · rw [if_neg h2]; have := i1 j hj5; omega
      · exact hl.1
      · show gaL w (shaF w n).2 < 5; unfold gaL; omega
    · rw [if_neg h]
      exact ⟨fun j hj5 => by have := i1 j hj5; omega, i2, i3⟩
def hisW (w : Nat → Int) (j : Nat) (k : Nat) : Int := if k = 0 then w (80 + 4 * j) / 10 - 3 else if k = 1 then w (80 + 4 * j) / 10 else if k = 2 then 4 else -2
def cokW (w : Nat → Int) (j : Nat) (k : Nat) : Int := if k = 0 then -1 else if k = 2 then w (82 + 4 * j) else 0
def xr (k b : Nat) : Nat := k ^^^ b
def resP (w : Nat → Int) (j k : Nat) : Bool := decide (hisW w j (xr k 2) ≤ hisW w j k) && decide (cokW w j (xr k 1) ≤ cokW w j k)
theorem xr_I2 : ∀ k : Nat, k < 4 → xorI (k : Int) 2 = ((xr k 2 : Nat) : Int) := by decide +kernel
theorem xr_I1 : ∀ k : Nat, k < 4 → xorI (k : Int) 1 = ((xr k 1 : Nat) : Int) := by decide +kernel
theorem xr_lt2 : ∀ k : Nat, k < 4 → xr k 2 < 4 := by decide +kernel
theorem xr_lt1 : ∀ k : Nat, k < 4 → xr k 1 < 4 := by decide +kernel
set_option maxHeartbeats 400000 in
theorem C_X5_paid {d : Nat} {g : Gs} {h : Hc} {P : Po} {m t c r : Nat} {w : Nat → Int} (hM : Mt g h m t c r w) {j k : Nat} (hj : j < 5) (hk : k < 5) (K : P (.inl (some (vI (payW w j k)))) g h) : Call (d + 0) 0 0 mX5_paid [vR m, vI ((j : Nat) : Int), vI ((k : Nat) : Int)] g h P := by
  have hcs := hM.wf.cas
  have hho := hM.wf.hou
  have hjd := hM.wf.jud
  refine Call_of rfl ⟨by decide +kernel, rfl⟩ (Nat.le_of_ble_eq_true rfl) rfl ?_
  refine iL2 dX5_paid_0 ?_
  refine R_bipush dX5_paid_1 (by decide) ?_
  refine mulV dX5_paid_3 (v := (((k * 17) : Nat) : Int)) (by rw [wid (by omega) (by omega)]; omega) ?_
  refine R_bipush dX5_paid_4 (by decide) ?_
  refine remV dX5_paid_6 (by decide) (v := (((k * 17) % 40 : Nat) : Int)) (remN (k := 40) (by omega) (by decide)) ?_
  suffices J1 : Run (d + 0) 0 0 mX5_paid 25 [vR m, vI ((j : Nat) : Int), vI ((k : Nat) : Int)] [vI ((if j = k then w (83 + 4 * j) else 0)), vI ((((k * 17) % 40) : Nat) : Int)] g h P by
    refine iL1 dX5_paid_7 ?_
    refine iL2 dX5_paid_8 ?_
    refine R_icmp_ne dX5_paid_9 (fun hb9 => ?_) (fun hb9 => ?_)
    · refine R_iconst_0 dX5_paid_24 ?_
      exact topV (v := (if j = k then w (83 + 4 * j) else 0)) (by first | (rw [if_pos (by omega)]) | (rw [if_neg (by omega)])) J1
    · refine aL0 dX5_paid_12 ?_
      refine R_getR dX5_paid_13 fX5_32.r hM.o rfl ?_
      refine R_getR dX5_paid_16 fX5_116 hM.tg.o rfl ?_
      refine iL1 dX5_paid_19 ?_
      refine ialdN dX5_paid_20 hM.tg.a4 rfl (by omega) ?_
      refine topV (v := w (83 + 4 * j)) (hM.tw.a4 (by omega)) ?_
      have hq2 := hM.wf.py (j := j) (by omega)
      refine R_goto dX5_paid_21 ?_
      exact topV (v := (if j = k then w (83 + 4 * j) else 0)) (by first | (rw [if_pos (by omega)]) | (rw [if_neg (by omega)])) J1
  have hpy := hM.wf.py (j := j) (by omega)
  have hpi : (if j = k then w (83 + 4 * j) else 0) ≤ 99 ∧ 0 ≤ (if j = k then w (83 + 4 * j) else 0) := by split <;> omega
  refine addV dX5_paid_25 (wid (by omega) (by omega)) ?_
  
  exact R_iret dX5_paid_26 rfl (K)
set_option maxHeartbeats 400000 in
theorem C_X5_circuitsAheadOf {d : Nat} {g : Gs} {h : Hc} {P : Po} {m t c r : Nat} {w : Nat → Int} (hM : Mt g h m t c r w) {j z : Nat} (hj : j < 5) (hz : z < 5) (K : P (.inl (some (vI (bset (ratP w j z) 5)))) g h) : Call (d + 1) 0 0 mX5_circuitsAheadOf [vR m, vI ((j : Nat) : Int), vI ((z : Nat) : Int)] g h P := by
  have hcs := hM.wf.cas
  have hho := hM.wf.hou
  have hjd := hM.wf.jud
  refine Call_of rfl ⟨by decide +kernel, rfl⟩ (Nat.le_of_ble_eq_true rfl) rfl ?_
  refine R_iconst_0 dX5_circuitsAheadOf_0 ?_
  refine iS3 dX5_circuitsAheadOf_1 ?_
  refine aL0 dX5_circuitsAheadOf_2 ?_
  refine iL1 dX5_circuitsAheadOf_3 ?_
  refine iL2 dX5_circuitsAheadOf_4 ?_
  refine invV2 rfl dX5_circuitsAheadOf_5 kX5_113 hM.o (Nat.le_of_ble_eq_true rfl) (Nat.zero_le _) (Nat.zero_le _) (C_X5_paid hM (by omega) (by omega) (konI ?_))
  refine iS4 dX5_circuitsAheadOf_8 ?_
  refine R_iconst_0 dX5_circuitsAheadOf_10 ?_
  refine iS5 dX5_circuitsAheadOf_11 ?_
  refine loopN (5) (fun q => ∀ v6 : AV, Run (d + 1) 0 0 mX5_circuitsAheadOf 13 [vR m, vI ((j : Nat) : Int), vI ((z : Nat) : Int), vI (bset (ratP w j z) q), vI (payW w j z), vI ((q : Nat) : Int), v6] [] g h P) (fun q hcnq ihq v6 => ?_) (0) (Nat.zero_le _) _
  refine iL5 dX5_circuitsAheadOf_13 ?_
  refine R_iconst_5 dX5_circuitsAheadOf_15 ?_
  refine R_icmp_ge dX5_circuitsAheadOf_16 (fun hb16 => ?_) (fun hb16 => ?_)
  · have e9 : q = 5 := by omega
    subst e9
    refine iL3 dX5_circuitsAheadOf_61 ?_
    exact R_iret dX5_circuitsAheadOf_62 rfl (K)
  · refine aL0 dX5_circuitsAheadOf_19 ?_
    refine iL1 dX5_circuitsAheadOf_20 ?_
    refine iL5 dX5_circuitsAheadOf_21 ?_
    refine invV2 rfl dX5_circuitsAheadOf_23 kX5_113 hM.o (Nat.le_of_ble_eq_true rfl) (Nat.zero_le _) (Nat.zero_le _) (C_X5_paid hM (by omega) (by omega) (konI ?_))
    refine iS6 dX5_circuitsAheadOf_26 ?_
    refine iL6 dX5_circuitsAheadOf_28 ?_
    refine iL4 dX5_circuitsAheadOf_30 ?_
    refine R_icmp_gt dX5_circuitsAheadOf_32 (fun hb32 => ?_) (fun hb32 => ?_)
    · refine iL3 dX5_circuitsAheadOf_48 ?_
      refine R_iconst_1 dX5_circuitsAheadOf_49 ?_
      refine iL5 dX5_circuitsAheadOf_50 ?_
      refine R_ishl dX5_circuitsAheadOf_52 ?_
      refine R_ior dX5_circuitsAheadOf_53 ?_
      refine iS3 dX5_circuitsAheadOf_54 ?_
      refine iInc5 dX5_circuitsAheadOf_55 (winc (by omega)) ?_
      refine R_goto dX5_circuitsAheadOf_58 ?_
      exact eqI3 (by first | (rw [bset_f (by simp [ratP]; omega)]; done) | (rw [bset_t (by simp [ratP]; omega)]; done)) (ihq (by omega) _)
    · refine iL6 dX5_circuitsAheadOf_35 ?_
      refine iL4 dX5_circuitsAheadOf_37 ?_
      refine R_icmp_ne dX5_circuitsAheadOf_39 (fun hb39 => ?_) (fun hb39 => ?_)
      · refine iInc5 dX5_circuitsAheadOf_55 (winc (by omega)) ?_
        refine R_goto dX5_circuitsAheadOf_58 ?_
        exact eqI3 (by first | (rw [bset_f (by simp [ratP]; omega)]; done) | (rw [bset_t (by simp [ratP]; omega)]; done)) (ihq (by omega) _)
      · refine iL5 dX5_circuitsAheadOf_42 ?_
        refine iL2 dX5_circuitsAheadOf_44 ?_
        refine R_icmp_ge dX5_circuitsAheadOf_45 (fun hb45 => ?_) (fun hb45 => ?_)
        · refine iInc5 dX5_circuitsAheadOf_55 (winc (by omega)) ?_
          refine R_goto dX5_circuitsAheadOf_58 ?_
          exact eqI3 (by first | (rw [bset_f (by simp [ratP]; omega)]; done) | (rw [bset_t (by simp [ratP]; omega)]; done)) (ihq (by omega) _)
        · refine iL3 dX5_circuitsAheadOf_48 ?_
          refine R_iconst_1 dX5_circuitsAheadOf_49 ?_
          refine iL5 dX5_circuitsAheadOf_50 ?_
          refine R_ishl dX5_circuitsAheadOf_52 ?_
          refine R_ior dX5_circuitsAheadOf_53 ?_
          refine iS3 dX5_circuitsAheadOf_54 ?_
          refine iInc5 dX5_circuitsAheadOf_55 (winc (by omega)) ?_
          refine R_goto dX5_circuitsAheadOf_58 ?_
          exact eqI3 (by first | (rw [bset_f (by simp [ratP]; omega)]; done) | (rw [bset_t (by simp [ratP]; omega)]; done)) (ihq (by omega) _)
set_option maxHeartbeats 400000 in
theorem C_X5_hungriestBut {d : Nat} {g : Gs} {h : Hc} {P : Po} {m t c r : Nat} {w : Nat → Int} (hM : Mt g h m t c r w) {x : Int} (K : P (.inl (some (vI (hunA w x)))) g h) : Call (d + 0) 0 0 mX5_hungriestBut [vR m, vI x] g h P := by
  have hcs := hM.wf.cas
  have hho := hM.wf.hou
  have hjd := hM.wf.jud
  refine Call_of rfl ⟨by decide +kernel, rfl⟩ (Nat.le_of_ble_eq_true rfl) rfl ?_
  refine R_iconst_m1 dX5_hungriestBut_0 ?_
  refine iS2 dX5_hungriestBut_1 ?_
  refine R_iconst_0 dX5_hungriestBut_2 ?_
  refine iS3 dX5_hungriestBut_3 ?_
  refine loopN ((w 0).toNat) (fun q => Run (d + 0) 0 0 mX5_hungriestBut 4 [vR m, vI x, vI (amx (fun j => !tb x j) (fun j => w (80 + 4 * j)) q), vI ((q : Nat) : Int)] [] g h P) (fun q hcnq ihq => ?_) (0) (Nat.zero_le _)
  have hax := amx_lt (fun j => !tb x j) (fun j => w (80 + 4 * j)) q
  refine iL3 dX5_hungriestBut_4 ?_
  refine aL0 dX5_hungriestBut_5 ?_
  refine R_getR dX5_hungriestBut_6 fX5_32.r hM.o rfl ?_
  refine R_getI dX5_hungriestBut_9 fX5_61.r hM.tg.o ?_
  refine topV (v := w 0) (hM.tw.s0) ?_
  have hq1 := hM.wf.jud
  refine R_icmp_ge dX5_hungriestBut_12 (fun hb12 => ?_) (fun hb12 => ?_)
  · have e9 : q = (w 0).toNat := by omega
    subst e9
    refine iL2 dX5_hungriestBut_56 ?_
    exact R_iret dX5_hungriestBut_57 rfl (K)
  · refine iL1 dX5_hungriestBut_15 ?_
    refine iL3 dX5_hungriestBut_16 ?_
    refine R_ishr dX5_hungriestBut_17 ?_
    refine R_iconst_1 dX5_hungriestBut_18 ?_
    refine R_iand dX5_hungriestBut_19 ?_
    refine topV (bitB (by omega)) ?_
    refine R_ifB_ne dX5_hungriestBut_20 (fun hb20 => ?_) (fun hb20 => ?_)
    · refine iInc3 dX5_hungriestBut_50 (winc (by omega)) ?_
      refine R_goto dX5_hungriestBut_53 ?_
      exact eqI2 (by rw [amx_s]; first | (rw [if_neg (fun q9 => absurd q9.2 (by omega))]; done) | (rw [if_pos ⟨by simp [hb20], by omega⟩]; done) | (rw [if_neg (fun q9 => by simp [hb20] at q9)]; done)) (ihq (by omega))
    · refine iL2 dX5_hungriestBut_23 ?_
      refine R_if_lt dX5_hungriestBut_24 (fun hb24 => ?_) (fun hb24 => ?_)
      · refine iL3 dX5_hungriestBut_48 ?_
        refine iS2 dX5_hungriestBut_49 ?_
        refine iInc3 dX5_hungriestBut_50 (winc (by omega)) ?_
        refine R_goto dX5_hungriestBut_53 ?_
        exact eqI2 (by rw [amx_s]; first | (rw [if_neg (fun q9 => absurd q9.2 (by omega))]; done) | (rw [if_pos ⟨by simp [hb20], by omega⟩]; done) | (rw [if_neg (fun q9 => by simp [hb20] at q9)]; done)) (ihq (by omega))
      · refine aL0 dX5_hungriestBut_27 ?_
        refine R_getR dX5_hungriestBut_28 fX5_32.r hM.o rfl ?_
        refine R_getR dX5_hungriestBut_31 fX5_110 hM.tg.o rfl ?_
        refine iL3 dX5_hungriestBut_34 ?_
        refine ialdN dX5_hungriestBut_35 hM.tg.a1 rfl (by omega) ?_
        refine topV (v := w (80 + 4 * q)) (hM.tw.a1 (by omega)) ?_
        have hq2 := hM.wf.hu (j := q) (by omega)
        refine aL0 dX5_hungriestBut_36 ?_
        refine R_getR dX5_hungriestBut_37 fX5_32.r hM.o rfl ?_
        refine R_getR dX5_hungriestBut_40 fX5_110 hM.tg.o rfl ?_
        refine iL2 dX5_hungriestBut_43 ?_
        refine topV (v := (((amx (fun j => !tb x j) (fun j => w (80 + 4 * j)) q).toNat : Nat) : Int)) (by omega) ?_
        refine ialdN dX5_hungriestBut_44 hM.tg.a1 rfl (by omega) ?_
        refine topV (v := w (80 + 4 * ((amx (fun j => !tb x j) (fun j => w (80 + 4 * j)) q).toNat))) (hM.tw.a1 (by omega)) ?_
        have hq3 := hM.wf.hu (j := ((amx (fun j => !tb x j) (fun j => w (80 + 4 * j)) q).toNat)) (by omega)
        refine R_icmp_le dX5_hungriestBut_45 (fun hb45 => ?_) (fun hb45 => ?_)
        · refine iInc3 dX5_hungriestBut_50 (winc (by omega)) ?_
          refine R_goto dX5_hungriestBut_53 ?_
          exact eqI2 (by rw [amx_s]; first | (rw [if_neg (fun q9 => absurd q9.2 (by omega))]; done) | (rw [if_pos ⟨by simp [hb20], by omega⟩]; done) | (rw [if_neg (fun q9 => by simp [hb20] at q9)]; done)) (ihq (by omega))
        · refine iL3 dX5_hungriestBut_48 ?_
          refine iS2 dX5_hungriestBut_49 ?_
          refine iInc3 dX5_hungriestBut_50 (winc (by omega)) ?_
          refine R_goto dX5_hungriestBut_53 ?_
          exact eqI2 (by rw [amx_s]; first | (rw [if_neg (fun q9 => absurd q9.2 (by omega))]; done) | (rw [if_pos ⟨by simp [hb20], by omega⟩]; done) | (rw [if_neg (fun q9 => by simp [hb20] at q9)]; done)) (ihq (by omega))
set_option maxHeartbeats 400000 in
theorem C_X5_worthiest {d : Nat} {g : Gs} {h : Hc} {P : Po} {m t c r : Nat} {w : Nat → Int} (hM : Mt g h m t c r w) {x : Int} (K : P (.inl (some (vI (wrtA w x)))) g h) : Call (d + 0) 0 0 mX5_worthiest [vR m, vI x] g h P := by
  have hcs := hM.wf.cas
  have hho := hM.wf.hou
  have hjd := hM.wf.jud
  refine Call_of rfl ⟨by decide +kernel, rfl⟩ (Nat.le_of_ble_eq_true rfl) rfl ?_
  refine R_iconst_m1 dX5_worthiest_0 ?_
  refine iS2 dX5_worthiest_1 ?_
  refine R_iconst_0 dX5_worthiest_2 ?_
  refine iS3 dX5_worthiest_3 ?_
  refine loopN ((w 1).toNat) (fun q => Run (d + 0) 0 0 mX5_worthiest 4 [vR m, vI x, vI (amx (fun c => tb x c) (fun c => w (102 + 7 * c)) q), vI ((q : Nat) : Int)] [] g h P) (fun q hcnq ihq => ?_) (0) (Nat.zero_le _)
  have hax := amx_lt (fun c => tb x c) (fun c => w (102 + 7 * c)) q
  refine iL3 dX5_worthiest_4 ?_
  refine aL0 dX5_worthiest_5 ?_
  refine R_getR dX5_worthiest_6 fX5_32.r hM.o rfl ?_
  refine R_getI dX5_worthiest_9 fX5_46.r hM.tg.o ?_
  refine topV (v := w 1) (hM.tw.s1) ?_
  have hq1 := hM.wf.cas
  refine R_icmp_ge dX5_worthiest_12 (fun hb12 => ?_) (fun hb12 => ?_)
  · have e9 : q = (w 1).toNat := by omega
    subst e9
    refine iL2 dX5_worthiest_56 ?_
    exact R_iret dX5_worthiest_57 rfl (K)
  · refine iL1 dX5_worthiest_15 ?_
    refine iL3 dX5_worthiest_16 ?_
    refine R_ishr dX5_worthiest_17 ?_
    refine R_iconst_1 dX5_worthiest_18 ?_
    refine R_iand dX5_worthiest_19 ?_
    refine topV (bitB (by omega)) ?_
    refine R_ifB_eq dX5_worthiest_20 (fun hb20 => ?_) (fun hb20 => ?_)
    · refine iInc3 dX5_worthiest_50 (winc (by omega)) ?_
      refine R_goto dX5_worthiest_53 ?_
      exact eqI2 (by rw [amx_s]; first | (rw [if_neg (fun q9 => absurd q9.2 (by omega))]; done) | (rw [if_pos ⟨by simp [hb20], by omega⟩]; done) | (rw [if_neg (fun q9 => by simp [hb20] at q9)]; done)) (ihq (by omega))
    · refine iL2 dX5_worthiest_23 ?_
      refine R_if_lt dX5_worthiest_24 (fun hb24 => ?_) (fun hb24 => ?_)
      · refine iL3 dX5_worthiest_48 ?_
        refine iS2 dX5_worthiest_49 ?_
        refine iInc3 dX5_worthiest_50 (winc (by omega)) ?_
        refine R_goto dX5_worthiest_53 ?_
        exact eqI2 (by rw [amx_s]; first | (rw [if_neg (fun q9 => absurd q9.2 (by omega))]; done) | (rw [if_pos ⟨by simp [hb20], by omega⟩]; done) | (rw [if_neg (fun q9 => by simp [hb20] at q9)]; done)) (ihq (by omega))
      · refine aL0 dX5_worthiest_27 ?_
        refine R_getR dX5_worthiest_28 fX5_32.r hM.o rfl ?_
        refine R_getR dX5_worthiest_31 fX5_73 hM.tg.o rfl ?_
        refine iL3 dX5_worthiest_34 ?_
        refine ialdN dX5_worthiest_35 hM.tg.a7 rfl (by omega) ?_
        refine topV (v := w (102 + 7 * q)) (hM.tw.a7 (by omega)) ?_
        have hq2 := hM.wf.wo (c := q) (by omega)
        refine aL0 dX5_worthiest_36 ?_
        refine R_getR dX5_worthiest_37 fX5_32.r hM.o rfl ?_
        refine R_getR dX5_worthiest_40 fX5_73 hM.tg.o rfl ?_
        refine iL2 dX5_worthiest_43 ?_
        refine topV (v := (((amx (fun c => tb x c) (fun c => w (102 + 7 * c)) q).toNat : Nat) : Int)) (by omega) ?_
        refine ialdN dX5_worthiest_44 hM.tg.a7 rfl (by omega) ?_
        refine topV (v := w (102 + 7 * ((amx (fun c => tb x c) (fun c => w (102 + 7 * c)) q).toNat))) (hM.tw.a7 (by omega)) ?_
        have hq3 := hM.wf.wo (c := ((amx (fun c => tb x c) (fun c => w (102 + 7 * c)) q).toNat)) (by omega)
        refine R_icmp_le dX5_worthiest_45 (fun hb45 => ?_) (fun hb45 => ?_)
        · refine iInc3 dX5_worthiest_50 (winc (by omega)) ?_
          refine R_goto dX5_worthiest_53 ?_
          exact eqI2 (by rw [amx_s]; first | (rw [if_neg (fun q9 => absurd q9.2 (by omega))]; done) | (rw [if_pos ⟨by simp [hb20], by omega⟩]; done) | (rw [if_neg (fun q9 => by simp [hb20] at q9)]; done)) (ihq (by omega))
        · refine iL3 dX5_worthiest_48 ?_
          refine iS2 dX5_worthiest_49 ?_
          refine iInc3 dX5_worthiest_50 (winc (by omega)) ?_
          refine R_goto dX5_worthiest_53 ?_
          exact eqI2 (by rw [amx_s]; first | (rw [if_neg (fun q9 => absurd q9.2 (by omega))]; done) | (rw [if_pos ⟨by simp [hb20], by omega⟩]; done) | (rw [if_neg (fun q9 => by simp [hb20] at q9)]; done)) (ihq (by omega))
set_option maxHeartbeats 400000 in
theorem C_X5_dearestBut {d : Nat} {g : Gs} {h : Hc} {P : Po} {m t c r : Nat} {w : Nat → Int} (hM : Mt g h m t c r w) {j : Nat} {x : Int} (hj : j < 5) (K : P (.inl (some (vI (deaA w j x)))) g h) : Call (d + 1) 0 0 mX5_dearestBut [vR m, vI ((j : Nat) : Int), vI x] g h P := by
  have hcs := hM.wf.cas
  have hho := hM.wf.hou
  have hjd := hM.wf.jud
  refine Call_of rfl ⟨by decide +kernel, rfl⟩ (Nat.le_of_ble_eq_true rfl) rfl ?_
  refine R_iconst_m1 dX5_dearestBut_0 ?_
  refine iS3 dX5_dearestBut_1 ?_
  refine R_iconst_0 dX5_dearestBut_2 ?_
  refine iS4 dX5_dearestBut_3 ?_
  refine loopN (5) (fun q => Run (d + 1) 0 0 mX5_dearestBut 5 [vR m, vI ((j : Nat) : Int), vI x, vI (amx (fun k => !tb x k) (payW w j) q), vI ((q : Nat) : Int)] [] g h P) (fun q hcnq ihq => ?_) (0) (Nat.zero_le _)
  have hax := amx_lt (fun k => !tb x k) (payW w j) q
  refine iL4 dX5_dearestBut_5 ?_
  refine R_iconst_5 dX5_dearestBut_7 ?_
  refine R_icmp_ge dX5_dearestBut_8 (fun hb8 => ?_) (fun hb8 => ?_)
  · have e9 : q = 5 := by omega
    subst e9
    refine iL3 dX5_dearestBut_53 ?_
    exact R_iret dX5_dearestBut_54 rfl (K)
  · refine iL1 dX5_dearestBut_11 ?_
    refine R_if_lt dX5_dearestBut_12 (fun hb12 => ?_) (fun hb12 => ?_)
    · exfalso; omega
    · refine iL2 dX5_dearestBut_15 ?_
      refine iL4 dX5_dearestBut_16 ?_
      refine R_ishr dX5_dearestBut_18 ?_
      refine R_iconst_1 dX5_dearestBut_19 ?_
      refine R_iand dX5_dearestBut_20 ?_
      refine topV (bitB (by omega)) ?_
      refine R_ifB_ne dX5_dearestBut_21 (fun hb21 => ?_) (fun hb21 => ?_)
      · refine iInc4 dX5_dearestBut_47 (winc (by omega)) ?_
        refine R_goto dX5_dearestBut_50 ?_
        exact eqI3 (by rw [amx_s]; first | (rw [if_neg (fun q9 => absurd q9.2 (by omega))]; done) | (rw [if_pos ⟨by simp [hb21], by omega⟩]; done) | (rw [if_neg (fun q9 => by simp [hb21] at q9)]; done)) (ihq (by omega))
      · refine iL3 dX5_dearestBut_24 ?_
        refine R_if_lt dX5_dearestBut_25 (fun hb25 => ?_) (fun hb25 => ?_)
        · refine iL4 dX5_dearestBut_44 ?_
          refine iS3 dX5_dearestBut_46 ?_
          refine iInc4 dX5_dearestBut_47 (winc (by omega)) ?_
          refine R_goto dX5_dearestBut_50 ?_
          exact eqI3 (by rw [amx_s]; first | (rw [if_neg (fun q9 => absurd q9.2 (by omega))]; done) | (rw [if_pos ⟨by simp [hb21], by omega⟩]; done) | (rw [if_neg (fun q9 => by simp [hb21] at q9)]; done)) (ihq (by omega))
        · refine aL0 dX5_dearestBut_28 ?_
          refine iL1 dX5_dearestBut_29 ?_
          refine iL4 dX5_dearestBut_30 ?_
          refine invV2 rfl dX5_dearestBut_32 kX5_113 hM.o (Nat.le_of_ble_eq_true rfl) (Nat.zero_le _) (Nat.zero_le _) (C_X5_paid hM (by omega) (by omega) (konI ?_))
          refine aL0 dX5_dearestBut_35 ?_
          refine iL1 dX5_dearestBut_36 ?_
          refine iL3 dX5_dearestBut_37 ?_
          refine topV (v := (((amx (fun k => !tb x k) (payW w j) q).toNat : Nat) : Int)) (by omega) ?_
          refine invV2 rfl dX5_dearestBut_38 kX5_113 hM.o (Nat.le_of_ble_eq_true rfl) (Nat.zero_le _) (Nat.zero_le _) (C_X5_paid hM (by omega) (by omega) (konI ?_))
          refine R_icmp_le dX5_dearestBut_41 (fun hb41 => ?_) (fun hb41 => ?_)
          · refine iInc4 dX5_dearestBut_47 (winc (by omega)) ?_
            refine R_goto dX5_dearestBut_50 ?_
            exact eqI3 (by rw [amx_s]; first | (rw [if_neg (fun q9 => absurd q9.2 (by omega))]; done) | (rw [if_pos ⟨by simp [hb21], by omega⟩]; done) | (rw [if_neg (fun q9 => by simp [hb21] at q9)]; done)) (ihq (by omega))
          · refine iL4 dX5_dearestBut_44 ?_
            refine iS3 dX5_dearestBut_46 ?_
            refine iInc4 dX5_dearestBut_47 (winc (by omega)) ?_
            refine R_goto dX5_dearestBut_50 ?_
            exact eqI3 (by rw [amx_s]; first | (rw [if_neg (fun q9 => absurd q9.2 (by omega))]; done) | (rw [if_pos ⟨by simp [hb21], by omega⟩]; done) | (rw [if_neg (fun q9 => by simp [hb21] at q9)]; done)) (ihq (by omega))
set_option maxHeartbeats 400000 in
theorem C_X5_dearestBut_n {d : Nat} {g : Gs} {h : Hc} {P : Po} {m t c r : Nat} {w : Nat → Int} (hM : Mt g h m t c r w) {y x : Int} (hj : y < 0) (K : P (.inl (some (vI (-1)))) g h) : Call (d + 1) 0 0 mX5_dearestBut [vR m, vI y, vI x] g h P := by
  have hcs := hM.wf.cas
  have hho := hM.wf.hou
  have hjd := hM.wf.jud
  refine Call_of rfl ⟨by decide +kernel, rfl⟩ (Nat.le_of_ble_eq_true rfl) rfl ?_
  refine R_iconst_m1 dX5_dearestBut_0 ?_
  refine iS3 dX5_dearestBut_1 ?_
  refine R_iconst_0 dX5_dearestBut_2 ?_
  refine iS4 dX5_dearestBut_3 ?_
  refine iL4 dX5_dearestBut_5 ?_
  refine R_iconst_5 dX5_dearestBut_7 ?_
  refine R_icmp_ge dX5_dearestBut_8 (fun hb8 => ?_) (fun hb8 => ?_)
  · exfalso; omega
  · refine iL1 dX5_dearestBut_11 ?_
    refine R_if_lt dX5_dearestBut_12 (fun hb12 => ?_) (fun hb12 => ?_)
    · refine iL3 dX5_dearestBut_53 ?_
      exact R_iret dX5_dearestBut_54 rfl (K)
    · exfalso; omega
theorem cirG_s (w : Nat → Int) (x f : Nat) (pl tk : Int) : cirG w x (f + 1) pl tk = if hunA w pl = x ∨ hunA w pl < 0 ∨ deaA w (hunA w pl).toNat tk < 0 then (if hunA w pl < 0 then -1 else deaA w (hunA w pl).toNat tk) else cirG w x f (orI pl (shlI 1 (hunA w pl))) (orI tk (shlI 1 (deaA w (hunA w pl).toNat tk))) := rfl
set_option maxHeartbeats 400000 in
theorem C_X5_circuitOf {d : Nat} {g : Gs} {h : Hc} {P : Po} {m t c r : Nat} {w : Nat → Int} (hM : Mt g h m t c r w) {x : Nat} (K : P (.inl (some (vI (cirG w x (w 0).toNat 0 0)))) g h) : Call (d + 2) 0 0 mX5_circuitOf [vR m, vI ((x : Nat) : Int)] g h P := by
  have hcs := hM.wf.cas
  have hho := hM.wf.hou
  have hjd := hM.wf.jud
  refine Call_of rfl ⟨by decide +kernel, rfl⟩ (Nat.le_of_ble_eq_true rfl) rfl ?_
  refine R_iconst_0 dX5_circuitOf_0 ?_
  refine iS2 dX5_circuitOf_1 ?_
  refine R_iconst_0 dX5_circuitOf_2 ?_
  refine iS3 dX5_circuitOf_3 ?_
  refine R_iconst_0 dX5_circuitOf_4 ?_
  refine iS4 dX5_circuitOf_5 ?_
  refine loopN (w 0).toNat (fun q => ∀ (pl tk : Int) (v5 v6 : AV), cirG w x ((w 0).toNat - q) pl tk = cirG w x (w 0).toNat 0 0 → Run (d + 2) 0 0 mX5_circuitOf 7 [vR m, vI ((x : Nat) : Int), vI pl, vI tk, vI ((q : Nat) : Int), v5, v6] [] g h P) (fun q hcn ih pl tk v5 v6 hq9 => ?_) 0 (Nat.zero_le _) 0 0 _ _ rfl
  refine iL4 dX5_circuitOf_7 ?_
  refine aL0 dX5_circuitOf_9 ?_
  refine R_getR dX5_circuitOf_10 fX5_32.r hM.o rfl ?_
  refine R_getI dX5_circuitOf_13 fX5_61.r hM.tg.o ?_
  refine topV (v := w 0) (hM.tw.s0) ?_
  have hq1 := hM.wf.jud
  refine R_icmp_ge dX5_circuitOf_16 (fun hb16 => ?_) (fun hb16 => ?_)
  · have e9 : (w 0).toNat - q = 0 := by omega
    rw [e9] at hq9
    refine R_iconst_m1 dX5_circuitOf_74 ?_
    exact R_iret dX5_circuitOf_75 rfl (PeqI K (by rw [← hq9]; rfl))
  · rw [show (w 0).toNat - q = ((w 0).toNat - (q + 1)) + 1 by omega, cirG_s] at hq9
    have hax := amx_lt (fun j => !tb pl j) (fun j => w (80 + 4 * j)) (w 0).toNat
    have hax2 : -1 ≤ hunA w pl ∧ hunA w pl < (w 0).toNat := hax
    refine aL0 dX5_circuitOf_19 ?_
    refine iL2 dX5_circuitOf_20 ?_
    refine invV1 rfl dX5_circuitOf_21 kX5_103 hM.o (Nat.le_of_ble_eq_true rfl) (Nat.zero_le _) (Nat.zero_le _) (C_X5_hungriestBut hM (konI ?_))
    refine iS5 dX5_circuitOf_24 ?_
    by_cases hz : hunA w pl < 0
    · refine aL0 dX5_circuitOf_26 ?_
      refine iL5 dX5_circuitOf_27 ?_
      refine iL3 dX5_circuitOf_29 ?_
      refine invV2 rfl dX5_circuitOf_30 kX5_106 hM.o (Nat.le_of_ble_eq_true rfl) (Nat.zero_le _) (Nat.zero_le _) (C_X5_dearestBut_n hM (by omega) (konI ?_))
      refine iS6 dX5_circuitOf_33 ?_
      refine iL5 dX5_circuitOf_35 ?_
      refine iL1 dX5_circuitOf_37 ?_
      refine R_icmp_eq dX5_circuitOf_38 (fun hb38 => ?_) (fun hb38 => ?_)
      · refine iL6 dX5_circuitOf_51 ?_
        exact R_iret dX5_circuitOf_53 rfl (PeqI K (by rw [← hq9, if_pos (by omega), if_pos hz]))
      · refine iL5 dX5_circuitOf_41 ?_
        refine R_if_lt dX5_circuitOf_43 (fun hb43 => ?_) (fun hb43 => ?_)
        · refine iL6 dX5_circuitOf_51 ?_
          exact R_iret dX5_circuitOf_53 rfl (PeqI K (by rw [← hq9, if_pos (by omega), if_pos hz]))
        · exfalso; omega
    · refine aL0 dX5_circuitOf_26 ?_
      refine iL5 dX5_circuitOf_27 ?_
      refine topV (v := (((hunA w pl).toNat : Nat) : Int)) (by omega) ?_
      refine iL3 dX5_circuitOf_29 ?_
      refine invV2 rfl dX5_circuitOf_30 kX5_106 hM.o (Nat.le_of_ble_eq_true rfl) (Nat.zero_le _) (Nat.zero_le _) (C_X5_dearestBut hM (by omega) (konI ?_))
      refine iS6 dX5_circuitOf_33 ?_
      refine iL5 dX5_circuitOf_35 ?_
      refine iL1 dX5_circuitOf_37 ?_
      refine R_icmp_eq dX5_circuitOf_38 (fun hb38 => ?_) (fun hb38 => ?_)
      · refine iL6 dX5_circuitOf_51 ?_
        exact R_iret dX5_circuitOf_53 rfl (PeqI K (by rw [← hq9, if_pos (by omega), if_neg hz]))
      · refine iL5 dX5_circuitOf_41 ?_
        refine R_if_lt dX5_circuitOf_43 (fun hb43 => ?_) (fun hb43 => ?_)
        · exfalso; omega
        · refine iL6 dX5_circuitOf_46 ?_
          refine R_if_ge dX5_circuitOf_48 (fun hb48 => ?_) (fun hb48 => ?_)
          · refine iL2 dX5_circuitOf_54 ?_
            refine R_iconst_1 dX5_circuitOf_55 ?_
            refine iL5 dX5_circuitOf_56 ?_
            refine R_ishl dX5_circuitOf_58 ?_
            refine R_ior dX5_circuitOf_59 ?_
            refine iS2 dX5_circuitOf_60 ?_
            refine iL3 dX5_circuitOf_61 ?_
            refine R_iconst_1 dX5_circuitOf_62 ?_
            refine iL6 dX5_circuitOf_63 ?_
            refine R_ishl dX5_circuitOf_65 ?_
            refine R_ior dX5_circuitOf_66 ?_
            refine iS3 dX5_circuitOf_67 ?_
            refine iInc4 dX5_circuitOf_68 (winc (by omega)) ?_
            refine R_goto dX5_circuitOf_71 ?_
            exact ih (by omega) _ _ _ _ (by rw [← hq9, if_neg (by omega)])
          · refine iL6 dX5_circuitOf_51 ?_
            exact R_iret dX5_circuitOf_53 rfl (PeqI K (by rw [← hq9, if_pos (by omega), if_neg hz]))
set_option maxHeartbeats 400000 in
theorem C_X5_hisGain_0 {d : Nat} {g : Gs} {h : Hc} {P : Po} {m t c r : Nat} {w : Nat → Int} (hM : Mt g h m t c r w) {j : Nat} (hj : j < 5) (K : P (.inl (some (vI (hisW w j 0)))) g h) : Call (d + 0) 0 0 mX5_hisGain [vR m, vI ((j : Nat) : Int), vI 0] g h P := by
  have hcs := hM.wf.cas
  have hho := hM.wf.hou
  have hjd := hM.wf.jud
  refine Call_of rfl ⟨by decide +kernel, rfl⟩ (Nat.le_of_ble_eq_true rfl) rfl ?_
  refine aL0 dX5_hisGain_0 ?_
  refine R_getR dX5_hisGain_1 fX5_32.r hM.o rfl ?_
  refine R_getR dX5_hisGain_4 fX5_110 hM.tg.o rfl ?_
  refine iL1 dX5_hisGain_7 ?_
  refine ialdN dX5_hisGain_8 hM.tg.a1 rfl (by omega) ?_
  refine topV (v := w (80 + 4 * j)) (hM.tw.a1 (by omega)) ?_
  have hq1 := hM.wf.hu (j := j) (by omega)
  refine R_bipush dX5_hisGain_9 (by decide) ?_
  refine divV dX5_hisGain_11 (by decide) (divI (by omega) (by omega) (by omega)) ?_
  refine iS3 dX5_hisGain_12 ?_
  refine iL2 dX5_hisGain_13 ?_
  refine R_tsw (tt := 40) dX5_hisGain_14 (by decide) (by decide) ?_
  refine iL3 dX5_hisGain_40 ?_
  refine R_iconst_3 dX5_hisGain_41 ?_
  refine subV dX5_hisGain_42 (wid (by omega) (by omega)) ?_
  exact R_iret dX5_hisGain_43 rfl (PeqI K (by unfold hisW; simp))
set_option maxHeartbeats 400000 in
theorem C_X5_hisGain_1 {d : Nat} {g : Gs} {h : Hc} {P : Po} {m t c r : Nat} {w : Nat → Int} (hM : Mt g h m t c r w) {j : Nat} (hj : j < 5) (K : P (.inl (some (vI (hisW w j 1)))) g h) : Call (d + 0) 0 0 mX5_hisGain [vR m, vI ((j : Nat) : Int), vI 1] g h P := by
  have hcs := hM.wf.cas
  have hho := hM.wf.hou
  have hjd := hM.wf.jud
  refine Call_of rfl ⟨by decide +kernel, rfl⟩ (Nat.le_of_ble_eq_true rfl) rfl ?_
  refine aL0 dX5_hisGain_0 ?_
  refine R_getR dX5_hisGain_1 fX5_32.r hM.o rfl ?_
  refine R_getR dX5_hisGain_4 fX5_110 hM.tg.o rfl ?_
  refine iL1 dX5_hisGain_7 ?_
  refine ialdN dX5_hisGain_8 hM.tg.a1 rfl (by omega) ?_
  refine topV (v := w (80 + 4 * j)) (hM.tw.a1 (by omega)) ?_
  have hq1 := hM.wf.hu (j := j) (by omega)
  refine R_bipush dX5_hisGain_9 (by decide) ?_
  refine divV dX5_hisGain_11 (by decide) (divI (by omega) (by omega) (by omega)) ?_
  refine iS3 dX5_hisGain_12 ?_
  refine iL2 dX5_hisGain_13 ?_
  refine R_tsw (tt := 44) dX5_hisGain_14 (by decide) (by decide) ?_
  refine iL3 dX5_hisGain_44 ?_
  exact R_iret dX5_hisGain_45 rfl (PeqI K (by unfold hisW; simp))
set_option maxHeartbeats 400000 in
theorem C_X5_hisGain_2 {d : Nat} {g : Gs} {h : Hc} {P : Po} {m t c r : Nat} {w : Nat → Int} (hM : Mt g h m t c r w) {j : Nat} (hj : j < 5) (K : P (.inl (some (vI (hisW w j 2)))) g h) : Call (d + 0) 0 0 mX5_hisGain [vR m, vI ((j : Nat) : Int), vI 2] g h P := by
  have hcs := hM.wf.cas
  have hho := hM.wf.hou
  have hjd := hM.wf.jud
  refine Call_of rfl ⟨by decide +kernel, rfl⟩ (Nat.le_of_ble_eq_true rfl) rfl ?_
  refine aL0 dX5_hisGain_0 ?_
  refine R_getR dX5_hisGain_1 fX5_32.r hM.o rfl ?_
  refine R_getR dX5_hisGain_4 fX5_110 hM.tg.o rfl ?_
  refine iL1 dX5_hisGain_7 ?_
  refine ialdN dX5_hisGain_8 hM.tg.a1 rfl (by omega) ?_
  refine topV (v := w (80 + 4 * j)) (hM.tw.a1 (by omega)) ?_
  have hq1 := hM.wf.hu (j := j) (by omega)
  refine R_bipush dX5_hisGain_9 (by decide) ?_
  refine divV dX5_hisGain_11 (by decide) (divI (by omega) (by omega) (by omega)) ?_
  refine iS3 dX5_hisGain_12 ?_
  refine iL2 dX5_hisGain_13 ?_
  refine R_tsw (tt := 46) dX5_hisGain_14 (by decide) (by decide) ?_
  refine R_iconst_4 dX5_hisGain_46 ?_
  exact R_iret dX5_hisGain_47 rfl (PeqI K (by unfold hisW; simp))
set_option maxHeartbeats 400000 in
theorem C_X5_hisGain_3 {d : Nat} {g : Gs} {h : Hc} {P : Po} {m t c r : Nat} {w : Nat → Int} (hM : Mt g h m t c r w) {j : Nat} (hj : j < 5) (K : P (.inl (some (vI (hisW w j 3)))) g h) : Call (d + 0) 0 0 mX5_hisGain [vR m, vI ((j : Nat) : Int), vI 3] g h P := by
  have hcs := hM.wf.cas
  have hho := hM.wf.hou
  have hjd := hM.wf.jud
  refine Call_of rfl ⟨by decide +kernel, rfl⟩ (Nat.le_of_ble_eq_true rfl) rfl ?_
  refine aL0 dX5_hisGain_0 ?_
  refine R_getR dX5_hisGain_1 fX5_32.r hM.o rfl ?_
  refine R_getR dX5_hisGain_4 fX5_110 hM.tg.o rfl ?_
  refine iL1 dX5_hisGain_7 ?_
  refine ialdN dX5_hisGain_8 hM.tg.a1 rfl (by omega) ?_
  refine topV (v := w (80 + 4 * j)) (hM.tw.a1 (by omega)) ?_
  have hq1 := hM.wf.hu (j := j) (by omega)
  refine R_bipush dX5_hisGain_9 (by decide) ?_
  refine divV dX5_hisGain_11 (by decide) (divI (by omega) (by omega) (by omega)) ?_
  refine iS3 dX5_hisGain_12 ?_
  refine iL2 dX5_hisGain_13 ?_
  refine R_tsw (tt := 48) dX5_hisGain_14 (by decide) (by decide) ?_
  refine R_bipush dX5_hisGain_48 (by decide) ?_
  exact R_iret dX5_hisGain_50 rfl (PeqI K (by unfold hisW; simp))
set_option maxHeartbeats 400000 in
theorem C_X5_cookGain_0 {d : Nat} {g : Gs} {h : Hc} {P : Po} {m t c r : Nat} {w : Nat → Int} (hM : Mt g h m t c r w) {j : Nat} (hj : j < 5) (K : P (.inl (some (vI (cokW w j 0)))) g h) : Call (d + 0) 0 0 mX5_cookGain [vR m, vI ((j : Nat) : Int), vI 0] g h P := by
  have hcs := hM.wf.cas
  have hho := hM.wf.hou
  have hjd := hM.wf.jud
  refine Call_of rfl ⟨by decide +kernel, rfl⟩ (Nat.le_of_ble_eq_true rfl) rfl ?_
  refine iL2 dX5_cookGain_0 ?_
  refine R_lsw (tt := 28) dX5_cookGain_1 (by decide) (by decide) ?_
  refine R_iconst_m1 dX5_cookGain_28 ?_
  exact R_iret dX5_cookGain_29 rfl (PeqI K (by unfold cokW; simp))
set_option maxHeartbeats 400000 in
theorem C_X5_cookGain_1 {d : Nat} {g : Gs} {h : Hc} {P : Po} {m t c r : Nat} {w : Nat → Int} (hM : Mt g h m t c r w) {j : Nat} (hj : j < 5) (K : P (.inl (some (vI (cokW w j 1)))) g h) : Call (d + 0) 0 0 mX5_cookGain [vR m, vI ((j : Nat) : Int), vI 1] g h P := by
  have hcs := hM.wf.cas
  have hho := hM.wf.hou
  have hjd := hM.wf.jud
  refine Call_of rfl ⟨by decide +kernel, rfl⟩ (Nat.le_of_ble_eq_true rfl) rfl ?_
  refine iL2 dX5_cookGain_0 ?_
  refine R_lsw (tt := 40) dX5_cookGain_1 (by decide) (by decide) ?_
  refine R_iconst_0 dX5_cookGain_40 ?_
  exact R_iret dX5_cookGain_41 rfl (PeqI K (by unfold cokW; simp))
set_option maxHeartbeats 400000 in
theorem C_X5_cookGain_2 {d : Nat} {g : Gs} {h : Hc} {P : Po} {m t c r : Nat} {w : Nat → Int} (hM : Mt g h m t c r w) {j : Nat} (hj : j < 5) (K : P (.inl (some (vI (cokW w j 2)))) g h) : Call (d + 0) 0 0 mX5_cookGain [vR m, vI ((j : Nat) : Int), vI 2] g h P := by
  have hcs := hM.wf.cas
  have hho := hM.wf.hou
  have hjd := hM.wf.jud
  refine Call_of rfl ⟨by decide +kernel, rfl⟩ (Nat.le_of_ble_eq_true rfl) rfl ?_
  refine iL2 dX5_cookGain_0 ?_
  refine R_lsw (tt := 30) dX5_cookGain_1 (by decide) (by decide) ?_
  refine aL0 dX5_cookGain_30 ?_
  refine R_getR dX5_cookGain_31 fX5_32.r hM.o rfl ?_
  refine R_getR dX5_cookGain_34 fX5_139 hM.tg.o rfl ?_
  refine iL1 dX5_cookGain_37 ?_
  refine ialdN dX5_cookGain_38 hM.tg.a3 rfl (by omega) ?_
  refine topV (v := w (82 + 4 * j)) (hM.tw.a3 (by omega)) ?_
  have hq1 := hM.wf.nv (j := j) (by omega)
  exact R_iret dX5_cookGain_39 rfl (PeqI K (by unfold cokW; simp))
set_option maxHeartbeats 400000 in
theorem C_X5_cookGain_3 {d : Nat} {g : Gs} {h : Hc} {P : Po} {m t c r : Nat} {w : Nat → Int} (hM : Mt g h m t c r w) {j : Nat} (hj : j < 5) (K : P (.inl (some (vI (cokW w j 3)))) g h) : Call (d + 0) 0 0 mX5_cookGain [vR m, vI ((j : Nat) : Int), vI 3] g h P := by
  have hcs := hM.wf.cas
  have hho := hM.wf.hou
  have hjd := hM.wf.jud
  refine Call_of rfl ⟨by decide +kernel, rfl⟩ (Nat.le_of_ble_eq_true rfl) rfl ?_
  refine iL2 dX5_cookGain_0 ?_
  refine R_lsw (tt := 40) dX5_cookGain_1 (by decide) (by decide) ?_
  refine R_iconst_0 dX5_cookGain_40 ?_
  exact R_iret dX5_cookGain_41 rfl (PeqI K (by unfold cokW; simp))
theorem C_X5_hisGain {d : Nat} {g : Gs} {h : Hc} {P : Po} {m t c r : Nat} {w : Nat → Int} (hM : Mt g h m t c r w) {j k : Nat} (hj : j < 5) (hk : k < 4) (K : P (.inl (some (vI (hisW w j k)))) g h) : Call (d + 0) 0 0 mX5_hisGain [vR m, vI (j : Int), vI (k : Int)] g h P := by
  match k, hk with
  | 0, _ => exact C_X5_hisGain_0 hM hj K
  | 1, _ => exact C_X5_hisGain_1 hM hj K
  | 2, _ => exact C_X5_hisGain_2 hM hj K
  | 3, _ => exact C_X5_hisGain_3 hM hj K
theorem C_X5_cookGain {d : Nat} {g : Gs} {h : Hc} {P : Po} {m t c r : Nat} {w : Nat → Int} (hM : Mt g h m t c r w) {j k : Nat} (hj : j < 5) (hk : k < 4) (K : P (.inl (some (vI (cokW w j k)))) g h) : Call (d + 0) 0 0 mX5_cookGain [vR m, vI (j : Int), vI (k : Int)] g h P := by
  match k, hk with
  | 0, _ => exact C_X5_cookGain_0 hM hj K
  | 1, _ => exact C_X5_cookGain_1 hM hj K
  | 2, _ => exact C_X5_cookGain_2 hM hj K
  | 3, _ => exact C_X5_cookGain_3 hM hj K
set_option maxHeartbeats 400000 in
theorem C_X5_restingChoices {d : Nat} {g : Gs} {h : Hc} {P : Po} {m t c r : Nat} {w : Nat → Int} (hM : Mt g h m t c r w) {j : Nat} (hj : j < 5) (K : P (.inl (some (vI (bset (resP w j) 4)))) g h) : Call (d + 1) 0 0 mX5_restingChoices [vR m, vI ((j : Nat) : Int)] g h P := by
  have hcs := hM.wf.cas
  have hho := hM.wf.hou
  have hjd := hM.wf.jud
  refine Call_of rfl ⟨by decide +kernel, rfl⟩ (Nat.le_of_ble_eq_true rfl) rfl ?_
  refine R_iconst_0 dX5_restingChoices_0 ?_
  refine iS2 dX5_restingChoices_1 ?_
  refine R_iconst_0 dX5_restingChoices_2 ?_
  refine iS3 dX5_restingChoices_3 ?_
  refine loopN (4) (fun q => ∀ v4 : AV, Run (d + 1) 0 0 mX5_restingChoices 4 [vR m, vI ((j : Nat) : Int), vI (bset (resP w j) q), vI ((q : Nat) : Int), v4] [] g h P) (fun q hcnq ihq v4 => ?_) (0) (Nat.zero_le _) _
  refine iL3 dX5_restingChoices_4 ?_
  refine R_iconst_4 dX5_restingChoices_5 ?_
  refine R_icmp_ge dX5_restingChoices_6 (fun hb6 => ?_) (fun hb6 => ?_)
  · have e9 : q = 4 := by omega
    subst e9
    refine iL2 dX5_restingChoices_67 ?_
    exact R_iret dX5_restingChoices_68 rfl (K)
  · suffices J1 : Run (d + 1) 0 0 mX5_restingChoices 31 [vR m, vI ((j : Nat) : Int), vI (bset (resP w j) q), vI ((q : Nat) : Int), v4] [vI (bI (decide (hisW w j (xr q 2) ≤ hisW w j q)))] g h P by
      refine aL0 dX5_restingChoices_9 ?_
      refine iL1 dX5_restingChoices_10 ?_
      refine iL3 dX5_restingChoices_11 ?_
      refine invV2 rfl dX5_restingChoices_12 kX5_133 hM.o (Nat.le_of_ble_eq_true rfl) (Nat.zero_le _) (Nat.zero_le _) (C_X5_hisGain hM (by omega) (by first | omega | exact xr_lt2 _ (by omega)) (konI ?_))
      refine aL0 dX5_restingChoices_15 ?_
      refine iL1 dX5_restingChoices_16 ?_
      refine iL3 dX5_restingChoices_17 ?_
      refine R_iconst_2 dX5_restingChoices_18 ?_
      refine R_ixor dX5_restingChoices_19 ?_
      refine topV (v := (((xr q 2) : Nat) : Int)) (xr_I2 q (by omega)) ?_
      refine invV2 rfl dX5_restingChoices_20 kX5_133 hM.o (Nat.le_of_ble_eq_true rfl) (Nat.zero_le _) (Nat.zero_le _) (C_X5_hisGain hM (by omega) (by first | omega | exact xr_lt2 _ (by omega)) (konI ?_))
      refine R_icmp_lt dX5_restingChoices_23 (fun hb23 => ?_) (fun hb23 => ?_)
      · refine R_iconst_0 dX5_restingChoices_30 ?_
        exact topV (v := bI (decide (hisW w j (xr q 2) ≤ hisW w j q))) (by first | (rw [bI_t (by simp; omega)]) | (rw [bI_f (by simp; omega)])) J1
      · refine R_iconst_1 dX5_restingChoices_26 ?_
        refine R_goto dX5_restingChoices_27 ?_
        exact topV (v := bI (decide (hisW w j (xr q 2) ≤ hisW w j q))) (by first | (rw [bI_t (by simp; omega)]) | (rw [bI_f (by simp; omega)])) J1
    refine iS4 dX5_restingChoices_31 ?_
    refine iL4 dX5_restingChoices_33 ?_
    refine R_ifB_eq dX5_restingChoices_35 (fun hb35 => ?_) (fun hb35 => ?_)
    · refine iInc3 dX5_restingChoices_61 (winc (by omega)) ?_
      refine R_goto dX5_restingChoices_64 ?_
      exact eqI2 (by first | (rw [bset_f (by simp only [resP]; rw [hb35]; rfl)]; done) | (rw [bset_f (by simp only [resP]; rw [decide_eq_false (p := cokW w j (xr q 1) ≤ cokW w j q) (by omega)]; simp)]; done) | (rw [bset_t (by simp only [resP]; rw [hb35]; simp; omega)]; done)) (ihq (by omega) _)
    · refine aL0 dX5_restingChoices_38 ?_
      refine iL1 dX5_restingChoices_39 ?_
      refine iL3 dX5_restingChoices_40 ?_
      refine invV2 rfl dX5_restingChoices_41 kX5_136 hM.o (Nat.le_of_ble_eq_true rfl) (Nat.zero_le _) (Nat.zero_le _) (C_X5_cookGain hM (by omega) (by first | omega | exact xr_lt1 _ (by omega)) (konI ?_))
      refine aL0 dX5_restingChoices_44 ?_
      refine iL1 dX5_restingChoices_45 ?_
      refine iL3 dX5_restingChoices_46 ?_
      refine R_iconst_1 dX5_restingChoices_47 ?_
      refine R_ixor dX5_restingChoices_48 ?_
      refine topV (v := (((xr q 1) : Nat) : Int)) (xr_I1 q (by omega)) ?_
      refine invV2 rfl dX5_restingChoices_49 kX5_136 hM.o (Nat.le_of_ble_eq_true rfl) (Nat.zero_le _) (Nat.zero_le _) (C_X5_cookGain hM (by omega) (by first | omega | exact xr_lt1 _ (by omega)) (konI ?_))
      refine R_icmp_lt dX5_restingChoices_52 (fun hb52 => ?_) (fun hb52 => ?_)
      · refine iInc3 dX5_restingChoices_61 (winc (by omega)) ?_
        refine R_goto dX5_restingChoices_64 ?_
        exact eqI2 (by first | (rw [bset_f (by simp only [resP]; rw [hb35]; rfl)]; done) | (rw [bset_f (by simp only [resP]; rw [decide_eq_false (p := cokW w j (xr q 1) ≤ cokW w j q) (by omega)]; simp)]; done) | (rw [bset_t (by simp only [resP]; rw [hb35]; simp; omega)]; done)) (ihq (by omega) _)
      · refine iL2 dX5_restingChoices_55 ?_
        refine R_iconst_1 dX5_restingChoices_56 ?_
        refine iL3 dX5_restingChoices_57 ?_
        refine R_ishl dX5_restingChoices_58 ?_
        refine R_ior dX5_restingChoices_59 ?_
        refine iS2 dX5_restingChoices_60 ?_
        refine iInc3 dX5_restingChoices_61 (winc (by omega)) ?_
        refine R_goto dX5_restingChoices_64 ?_
        exact eqI2 (by first | (rw [bset_f (by simp only [resP]; rw [hb35]; rfl)]; done) | (rw [bset_f (by simp only [resP]; rw [decide_eq_false (p := cokW w j (xr q 1) ≤ cokW w j q) (by omega)]; simp)]; done) | (rw [bset_t (by simp only [resP]; rw [hb35]; simp; omega)]; done)) (ihq (by omega) _)
theorem updW_cong {f k : Nat → Int} {i j : Nat} {v : Int} (h : f j = k j) : updW f i v j = updW k i v j := by
  unfold updW
  split
  · rfl
  · exact h
set_option maxHeartbeats 400000 in
theorem C_X5_leastGathered {d : Nat} {g : Gs} {h : Hc} {P : Po} {m t c r : Nat} {w : Nat → Int} (hM : Mt g h m t c r w) {gt : Nat → Int} (hgt : ∀ j, j < 5 → h (m + 2) j = gt j) (K : P (.inl (some (vI (gaL w gt)))) g h) : Call (d + 0) 0 0 mX5_leastGathered [vR m] g h P := by
  have hcs := hM.wf.cas
  have hho := hM.wf.hou
  have hjd := hM.wf.jud
  refine Call_of rfl ⟨by decide +kernel, rfl⟩ (Nat.le_of_ble_eq_true rfl) rfl ?_
  refine R_iconst_m1 dX5_leastGathered_0 ?_
  refine iS1 dX5_leastGathered_1 ?_
  refine R_iconst_0 dX5_leastGathered_2 ?_
  refine iS2 dX5_leastGathered_3 ?_
  refine loopN ((w 0).toNat) (fun q => Run (d + 0) 0 0 mX5_leastGathered 4 [vR m, vI (amx (fun _ => true) (fun j => - gt j) q), vI ((q : Nat) : Int)] [] g h P) (fun q hcnq ihq => ?_) (0) (Nat.zero_le _)
  have hax := amx_lt (fun _ => true) (fun j => - gt j) q
  refine iL2 dX5_leastGathered_4 ?_
  refine aL0 dX5_leastGathered_5 ?_
  refine R_getR dX5_leastGathered_6 fX5_32.r hM.o rfl ?_
  refine R_getI dX5_leastGathered_9 fX5_61.r hM.tg.o ?_
  refine topV (v := w 0) (hM.tw.s0) ?_
  have hq1 := hM.wf.jud
  refine R_icmp_ge dX5_leastGathered_12 (fun hb12 => ?_) (fun hb12 => ?_)
  · have e9 : q = (w 0).toNat := by omega
    subst e9
    refine iL1 dX5_leastGathered_42 ?_
    exact R_iret dX5_leastGathered_43 rfl (K)
  · refine iL1 dX5_leastGathered_15 ?_
    refine R_if_lt dX5_leastGathered_16 (fun hb16 => ?_) (fun hb16 => ?_)
    · refine iL2 dX5_leastGathered_34 ?_
      refine iS1 dX5_leastGathered_35 ?_
      refine iInc2 dX5_leastGathered_36 (winc (by omega)) ?_
      refine R_goto dX5_leastGathered_39 ?_
      exact eqI1 (by rw [amx_s]; first | (rw [if_neg (fun q9 => absurd q9.2 (by omega))]; done) | (rw [if_pos ⟨rfl, by omega⟩]; done)) (ihq (by omega))
    · refine aL0 dX5_leastGathered_19 ?_
      refine R_getR dX5_leastGathered_20 fX5_15.r hM.o rfl ?_
      refine iL2 dX5_leastGathered_23 ?_
      refine ialdN dX5_leastGathered_24 hM.a2 rfl (by omega) ?_
      refine topV (v := gt q) (hgt q (by omega)) ?_
      refine aL0 dX5_leastGathered_25 ?_
      refine R_getR dX5_leastGathered_26 fX5_15.r hM.o rfl ?_
      refine iL1 dX5_leastGathered_29 ?_
      refine topV (v := (((amx (fun _ => true) (fun j => - gt j) q).toNat : Nat) : Int)) (by omega) ?_
      refine ialdN dX5_leastGathered_30 hM.a2 rfl (by omega) ?_
      refine topV (v := gt ((amx (fun _ => true) (fun j => - gt j) q).toNat)) (hgt ((amx (fun _ => true) (fun j => - gt j) q).toNat) (by omega)) ?_
      refine R_icmp_ge dX5_leastGathered_31 (fun hb31 => ?_) (fun hb31 => ?_)
      · refine iInc2 dX5_leastGathered_36 (winc (by omega)) ?_
        refine R_goto dX5_leastGathered_39 ?_
        exact eqI1 (by rw [amx_s]; first | (rw [if_neg (fun q9 => absurd q9.2 (by omega))]; done) | (rw [if_pos ⟨rfl, by omega⟩]; done)) (ihq (by omega))
      · refine iL2 dX5_leastGathered_34 ?_
        refine iS1 dX5_leastGathered_35 ?_
        refine iInc2 dX5_leastGathered_36 (winc (by omega)) ?_
        refine R_goto dX5_leastGathered_39 ?_
        exact eqI1 (by rw [amx_s]; first | (rw [if_neg (fun q9 => absurd q9.2 (by omega))]; done) | (rw [if_pos ⟨rfl, by omega⟩]; done)) (ihq (by omega))
set_option maxHeartbeats 400000 in
theorem C_X5_shareJudge {d : Nat} {g : Gs} {h : Hc} {P : Po} {m t c r : Nat} {w : Nat → Int} (hM : Mt g h m t c r w) {x : Nat} (hx : (x : Int) < w 1) (K : ∀ h', Off (mts m c r) h h' → P (.inl (some (vI (shaW w x)))) g h') : Call (d + 1) 0 0 mX5_shareJudge [vR m, vI ((x : Nat) : Int)] g h P := by
  have hcs := hM.wf.cas
  have hho := hM.wf.hou
  have hjd := hM.wf.jud
  refine Call_of rfl ⟨by decide +kernel, rfl⟩ (Nat.le_of_ble_eq_true rfl) rfl ?_
  refine aL0 dX5_shareJudge_0 ?_
  refine R_getR dX5_shareJudge_1 fX5_32.r hM.o rfl ?_
  refine R_getR dX5_shareJudge_4 fX5_64 hM.tg.o rfl ?_
  refine iL1 dX5_shareJudge_7 ?_
  refine ialdN dX5_shareJudge_8 hM.tg.a9 rfl (by omega) ?_
  refine topV (v := w (104 + 7 * x)) (hM.tw.a9 (by omega)) ?_
  have hq1 := hM.wf.st (c := x) (by omega)
  refine R_if_eq dX5_shareJudge_9 (fun hb9 => ?_) (fun hb9 => ?_)
  · refine aL0 dX5_shareJudge_14 ?_
    refine R_getR dX5_shareJudge_15 fX5_15.r hM.o rfl ?_
    refine R_iconst_0 dX5_shareJudge_18 ?_
    refine invS2 rfl dX5_shareJudge_19 kX5_90 (Nat.le_of_ble_eq_true rfl) (Nat.zero_le _) (Nat.zero_le _) (C_J7_fill_53178 hM.a2 (by omega) (fun h1 hx1 hv1 => konV ?_))
    have hO1 : Off (mts m c r) h h1 := hx1.mono (fun q hq => Or.inl (by omega))
    have hM1 := hM.off hO1
    refine R_iconst_m1 dX5_shareJudge_22 ?_
    refine iS2 dX5_shareJudge_23 ?_
    refine R_iconst_0 dX5_shareJudge_24 ?_
    refine iS3 dX5_shareJudge_25 ?_
    refine loopN (x + 1) (fun q => ∀ hK : Hc, Off (mts m c r) h hK → (∀ j, j < 5 → hK (m + 2) j = (shaF w q).2 j) → Run (d + 1) 0 0 mX5_shareJudge 26 [vR m, vI ((x : Nat) : Int), vI ((shaF w q).1), vI ((q : Nat) : Int)] [] g hK P) (fun q hcnq ihq hK hOK hgK => ?_) (0) (Nat.zero_le _) h1 hO1 (fun j hj => hv1 j hj)
    have hMK := hM.off hOK
    have hsr := shaF_rng hM.wf q (by omega)
    have hga := amx_lt (fun _ => true) (fun j => - (shaF w q).2 j) (w 0).toNat
    have hga2 : -1 ≤ gaL w (shaF w q).2 ∧ gaL w (shaF w q).2 < (w 0).toNat := hga
    refine iL3 dX5_shareJudge_26 ?_
    refine iL1 dX5_shareJudge_27 ?_
    refine R_icmp_gt dX5_shareJudge_28 (fun hb28 => ?_) (fun hb28 => ?_)
    · have e9 : q = x + 1 := by omega
      subst e9
      refine iL2 dX5_shareJudge_76 ?_
      exact R_iret dX5_shareJudge_77 rfl (PeqI (K _ hOK) (by unfold shaW; rw [if_pos (by omega)]))
    · refine aL0 dX5_shareJudge_31 ?_
      refine R_getR dX5_shareJudge_32 fX5_32.r hM.o rfl ?_
      refine R_getR dX5_shareJudge_35 fX5_64 hM.tg.o rfl ?_
      refine iL3 dX5_shareJudge_38 ?_
      refine ialdN dX5_shareJudge_39 hM.tg.a9 rfl (by omega) ?_
      refine topV (v := w (104 + 7 * q)) (hMK.tw.a9 (by omega)) ?_
      have hq2 := hM.wf.st (c := q) (by omega)
      refine R_if_ne dX5_shareJudge_40 (fun hb40 => ?_) (fun hb40 => ?_)
      · refine iInc3 dX5_shareJudge_70 (winc (by omega)) ?_
        refine R_goto dX5_shareJudge_73 ?_
        exact eqI2 (by rw [shaF_s]; unfold shaS; first | (rw [if_pos (by omega)]; done) | (rw [if_neg (by omega)]; done)) (ihq (by omega) _ hOK (fun j hj => by rw [shaF_s]; unfold shaS; first | (rw [if_neg (by omega)]; exact hgK j hj) | (rw [if_pos (by omega)]; dsimp only; rw [if_neg (by omega)]; exact hgK j hj)))
      · refine aL0 dX5_shareJudge_43 ?_
        refine invV0 rfl dX5_shareJudge_44 kX5_96 hM.o (Nat.le_of_ble_eq_true rfl) (Nat.zero_le _) (Nat.zero_le _) (C_X5_leastGathered hMK hgK (konI ?_))
        refine iS2 dX5_shareJudge_47 ?_
        refine iL2 dX5_shareJudge_48 ?_
        refine R_if_lt dX5_shareJudge_49 (fun hb49 => ?_) (fun hb49 => ?_)
        · refine iInc3 dX5_shareJudge_70 (winc (by omega)) ?_
          refine R_goto dX5_shareJudge_73 ?_
          exact eqI2 (by rw [shaF_s]; unfold shaS; first | (rw [if_pos (by omega)]; done) | (rw [if_neg (by omega)]; done)) (ihq (by omega) _ hOK (fun j hj => by rw [shaF_s]; unfold shaS; first | (rw [if_neg (by omega)]; exact hgK j hj) | (rw [if_pos (by omega)]; dsimp only; rw [if_neg (by omega)]; exact hgK j hj)))
        · refine aL0 dX5_shareJudge_52 ?_
          refine R_getR dX5_shareJudge_53 fX5_15.r hM.o rfl ?_
          refine iL2 dX5_shareJudge_56 ?_
          refine topV (v := (((gaL w (shaF w q).2).toNat : Nat) : Int)) (by omega) ?_
          refine dup2IR dX5_shareJudge_57 ?_
          have hgr := hsr.1 (gaL w (shaF w q).2).toNat (by omega)
          refine ialdN dX5_shareJudge_58 hM.a2 rfl (by omega) ?_
          refine topV (v := (shaF w q).2 ((gaL w (shaF w q).2).toNat)) (hgK ((gaL w (shaF w q).2).toNat) (by omega)) ?_
          refine aL0 dX5_shareJudge_59 ?_
          refine R_getR dX5_shareJudge_60 fX5_32.r hM.o rfl ?_
          refine R_getR dX5_shareJudge_63 fX5_100 hM.tg.o rfl ?_
          refine iL3 dX5_shareJudge_66 ?_
          refine ialdN dX5_shareJudge_67 hM.tg.a6 rfl (by omega) ?_
          refine topV (v := w (101 + 7 * q)) (hMK.tw.a6 (by omega)) ?_
          have hq3 := hM.wf.gr (c := q) (by omega)
          refine addV dX5_shareJudge_68 (wid (by omega) (by omega)) ?_
          refine iastN dX5_shareJudge_69 hM.a2 rfl (by omega) ?_
          refine storH (fun h4 e4 => ?_)
          have hO4 : Off (mts m c r) h h4 := by rw [e4]; exact hOK.upd (Or.inl (by omega))
          refine iInc3 dX5_shareJudge_70 (winc (by omega)) ?_
          refine R_goto dX5_shareJudge_73 ?_
          exact eqI2 (by rw [shaF_s]; unfold shaS; first | (rw [if_pos (by omega)]; done) | (rw [if_neg (by omega)]; done)) (ihq (by omega) _ hO4 (fun j hj => by rw [e4, updH_r, shaF_s]; unfold shaS; rw [if_pos (by omega)]; dsimp only; rw [if_pos (by omega)]; exact updW_cong (hgK j hj)))
  · refine R_iconst_m1 dX5_shareJudge_12 ?_
    exact R_iret dX5_shareJudge_13 rfl (PeqI (K _ (Off.rf _ _)) (by unfold shaW; rw [if_neg (by omega)]))
