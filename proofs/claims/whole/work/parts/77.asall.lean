/-- m lines at most are still allowed -/
def asAll (t : Nat → Int) : Nat → (Nat → Int) → Nat → Nat ⊕ (Nat → Int)
  | 0, _, k => .inl k
  | m + 1, w, k => match asLine t w k with
    | .inl f => .inl f
    | .inr (k1, w1) => if t k1 = -1 then .inr w1 else if t k1 = 2059 then asAll t m w1 (k1 + 1) else .inl k1
def asText (t w : Nat → Int) : Nat ⊕ (Nat → Int) := if t 0 = -1 then .inr w else asAll t 14 w 0
theorem asAll_f {t w : Nat → Int} {m k f : Nat} (h : asLine t w k = .inl f) : asAll t (m + 1) w k = .inl f := by unfold asAll; rw [h]
theorem asAll_e {t w w1 : Nat → Int} {m k k1 : Nat} (h : asLine t w k = .inr (k1, w1)) (h1 : t k1 = -1) : asAll t (m + 1) w k = .inr w1 := by unfold asAll; rw [h]; exact if_pos h1
theorem asAll_s {t w w1 : Nat → Int} {m k k1 : Nat} (h : asLine t w k = .inr (k1, w1)) (h1 : ¬ t k1 = -1) (h2 : t k1 = 2059) : asAll t (m + 1) w k = asAll t m w1 (k1 + 1) := by
  rw [show asAll t (m + 1) w k = (match asLine t w k with | .inl f => .inl f | .inr (k1, w1) => if t k1 = -1 then .inr w1 else if t k1 = 2059 then asAll t m w1 (k1 + 1) else .inl k1) from rfl, h]
  exact (if_neg h1).trans (if_pos h2)
theorem asAll_n {t w w1 : Nat → Int} {m k k1 : Nat} (h : asLine t w k = .inr (k1, w1)) (h1 : ¬ t k1 = -1) (h2 : ¬ t k1 = 2059) : asAll t (m + 1) w k = .inl k1 := by
  rw [show asAll t (m + 1) w k = (match asLine t w k with | .inl f => .inl f | .inr (k1, w1) => if t k1 = -1 then .inr w1 else if t k1 = 2059 then asAll t m w1 (k1 + 1) else .inl k1) from rfl, h]
  exact (if_neg h1).trans (if_neg h2)
abbrev FrA (X : Nat) (a : Nat) : Prop := a = X + 1 ∨ a = X + 3 ∨ a = X + 4 ∨ (X + 21 ≤ a ∧ a < X + 37)
def AlC (h : Hc) (X : Nat) (b : Nat → Int) (L : Nat) (v : Int) (R : Nat ⊕ (Nat → Int)) : Prop := (v = 1 ∧ h (X + 1) 5 = -1 ∧ ∃ w, R = .inr w ∧ Tw h (X + 21) w ∧ WF w) ∨ (v = 0 ∧ ∃ f, R = .inl f ∧ Wr h X b L f)
theorem TpC.w5 {h : Hc} {X : Nat} {b : Nat → Int} {L N k : Nat} (q : TpC h X b L N k) : h (X + 1) 5 = -1 := q.2.2.2.2.2.2.2
theorem MvD.fr {X : Nat} {h h' : Hc} (p : MvD X h h') : Off (FrA X) h h' := fun a ha => funext fun i => p a i (fun q => ha (Or.inl q.1)) (fun q => ha (Or.inr (Or.inr (Or.inr q))))
set_option maxHeartbeats 400000 in
theorem C_X9_readAll_a {d : Nat} {g : Gs} {h : Hc} {P : Po} {X : Nat} {b : Nat → Int} {L : Nat} (hG : ClG g X) (hL : L ≤ 400) (hB : ∀ k, k < L → h (X + 2) k = b k) (hB0 : ∀ k, k < L → 0 ≤ b k ∧ b k ≤ 255) (hN : h (X + 1) 3 = (L : Int)) {w : Nat → Int} (hw : Tw h (X + 21) w) (hf : WF w) (h14 : h (X + 71) 1 = 14) (K : ∀ h' (v : Int), Off (FrA X) h h' → h' (X + 1) 3 = 0 → AlC h' X b L v (asText (thT b L) w) → P (.inl (some (vI v))) g h') : Call (d + 7) 0 0 mX9_readAll [vR (X + 71)] g h P := by
  refine Call_of rfl ⟨by decide +kernel, rfl⟩ (Nat.le_of_ble_eq_true rfl) rfl ?_
  refine aL0 dX9_readAll_0 ?_
  refine R_getR dX9_readAll_1 fX9_7_0.r hG.asz rfl ?_
  refine invV0 rfl dX9_readAll_4 kX9_17 hG.tape (Nat.le_of_ble_eq_true rfl) (Nat.zero_le _) (Nat.zero_le _) (C_X8_open hG hL hB hB0 hN (fun h1 N o1 l1 x1 T1 => konV ?_))
  have hw1 : Tw h1 (X + 21) w := hw.off o1 (fun i hi => by omega)
  refine aL0 dX9_readAll_7 ?_
  refine R_getR dX9_readAll_8 fX9_7_0.r hG.asz rfl ?_
  refine invV0 rfl dX9_readAll_11 kX9_22 hG.tape (Nat.le_of_ble_eq_true rfl) (Nat.zero_le _) (Nat.zero_le _) (C_X8_here hG T1 (konI ?_))
  refine R_iconst_m1 dX9_readAll_14 ?_
  refine R_icmp_ne dX9_readAll_15 (fun hb15 => ?_) (fun hb15 => ?_)
  · have h0 : ¬ thT b L 0 = -1 := by omega
    have hA : asText (thT b L) w = asAll (thT b L) 14 w 0 := if_neg h0
    refine R_iconst_0 dX9_readAll_20 ?_
    refine iS1 dX9_readAll_21 ?_
    refine loopN 14 (fun n => ∀ (hh : Hc) (u : Nat → Int) (k : Nat), Off (FrA X) h hh → hh (X + 1) 3 = 0 → TpC hh X b L N k → Tw hh (X + 21) u → WF u → asAll (thT b L) (14 - n) u k = asAll (thT b L) 14 w 0 → Run (d + 7) 0 0 mX9_readAll 22 [vR (X + 71), vI ((n : Nat) : Int)] [] g hh P) (fun n hcn ihn hh u k hof hl T2 hu hfu hR => ?_) 0 (Nat.zero_le _) h1 w 0 (o1.mono (fun a ha => by unfold FrA; omega)) l1 T1 hw1 hf rfl
    refine iL1 dX9_readAll_22 ?_
    refine aL0 dX9_readAll_23 ?_
    refine R_getI dX9_readAll_24 fX9_13_0.r hG.asz ?_
    refine topV (v := 14) (by rw [hof _ (by unfold FrA; omega)]; exact h14) ?_
    refine R_icmp_ge dX9_readAll_27 (fun hb27 => ?_) (fun hb27 => ?_)
    · refine aL0 dX9_readAll_73 ?_
      refine R_getR dX9_readAll_74 fX9_7_0.r hG.asz rfl ?_
      refine invV0 rfl dX9_readAll_77 kX9_34 hG.tape (Nat.le_of_ble_eq_true rfl) (Nat.zero_le _) (Nat.zero_le _) (C_X8_refuse hG T2 (fun h4 m4 w4 => konI ?_))
      have hof4 := hof.tr m4.d.fr
      have l4 : h4 (X + 1) 3 = 0 := (m4 (X + 1) 3 (by omega)).trans hl
      exact R_zret dX9_readAll_80 rfl (by decide) (K _ _ hof4 l4 (Or.inr ⟨rfl, k, by rw [hA, ← hR, show 14 - n = 0 by omega]; rfl, w4⟩))
    · have hm : 14 - n = (13 - n) + 1 := by omega
      refine aL0 dX9_readAll_30 ?_
      refine invU0 rfl dX9_readAll_31 kX9_26_0 hG.asz (Nat.le_of_ble_eq_true rfl) (Nat.zero_le _) (Nat.zero_le _) (C_X0_readLine hG T2 hu hfu (fun h3 v3 m3 q3 => konI ?_))
      have hof3 := hof.tr m3.fr
      have l3 : h3 (X + 1) 3 = 0 := (m3 (X + 1) 3 (by omega) (by omega)).trans hl
      refine R_if_ne dX9_readAll_34 (fun hb34 => ?_) (fun hb34 => ?_)
      · rcases q3 with ⟨e3, k3, u3, r3, T3, hw3, hf3⟩ | ⟨e3, f3, r3, w3⟩
        rotate_left
        · exfalso; omega
        refine aL0 dX9_readAll_39 ?_
        refine R_getR dX9_readAll_40 fX9_7_0.r hG.asz rfl ?_
        refine invV0 rfl dX9_readAll_43 kX9_22 hG.tape (Nat.le_of_ble_eq_true rfl) (Nat.zero_le _) (Nat.zero_le _) (C_X8_here hG T3 (konI ?_))
        refine R_iconst_m1 dX9_readAll_46 ?_
        refine R_icmp_ne dX9_readAll_47 (fun hb47 => ?_) (fun hb47 => ?_)
        · refine aL0 dX9_readAll_52 ?_
          refine R_getR dX9_readAll_53 fX9_7_0.r hG.asz rfl ?_
          refine R_sipush dX9_readAll_56 (by decide) ?_
          refine invV1 rfl dX9_readAll_59 kX9_30 hG.tape (Nat.le_of_ble_eq_true rfl) (Nat.zero_le _) (Nat.zero_le _) (C_X8_need hG T3 (x := 2059) (by decide) (fun h4 v4 m4 q4 => konI ?_))
          have hof4 := hof3.tr m4.d.fr
          have l4 : h4 (X + 1) 3 = 0 := (m4 (X + 1) 3 (by omega)).trans l3
          refine R_if_ne dX9_readAll_62 (fun hb62 => ?_) (fun hb62 => ?_)
          · rcases q4 with ⟨a4, b4, T4⟩ | ⟨a4, b4, w4⟩
            rotate_left
            · exfalso; omega
            refine iInc1 dX9_readAll_67 (winc (by omega)) ?_
            refine R_goto dX9_readAll_70 ?_
            exact ihn (by omega) h4 u3 (k3 + 1) hof4 l4 T4 (hw3.mv m4 (by omega)) hf3 (by rw [← hR, hm, asAll_s r3 (by omega) a4, show 14 - (n + 1) = 13 - n by omega])
          · rcases q4 with ⟨a4, b4, T4⟩ | ⟨a4, b4, w4⟩
            · exfalso; omega
            refine R_iconst_0 dX9_readAll_65 ?_
            exact R_zret dX9_readAll_66 rfl (by decide) (K _ _ hof4 l4 (Or.inr ⟨rfl, k3, by rw [hA, ← hR, hm]; exact asAll_n r3 (by omega) a4, w4⟩))
        · refine R_iconst_1 dX9_readAll_50 ?_
          exact R_zret dX9_readAll_51 rfl (by decide) (K _ _ hof3 l3 (Or.inl ⟨rfl, T3.w5, u3, by rw [hA, ← hR, hm]; exact asAll_e r3 (by omega), hw3, hf3⟩))
      · rcases q3 with ⟨e3, k3, u3, r3, T3, hw3, hf3⟩ | ⟨e3, f3, r3, w3⟩
        · exfalso; omega
        refine R_iconst_0 dX9_readAll_37 ?_
        exact R_zret dX9_readAll_38 rfl (by decide) (K _ _ hof3 l3 (Or.inr ⟨rfl, f3, by rw [hA, ← hR, hm]; exact asAll_f r3, w3⟩))
  · refine R_iconst_1 dX9_readAll_18 ?_
    exact R_zret dX9_readAll_19 rfl (by decide) (K _ _ (o1.mono (fun a ha => by unfold FrA; omega)) l1 (Or.inl ⟨rfl, T1.w5, w, if_pos (by omega), hw1, hf⟩))
