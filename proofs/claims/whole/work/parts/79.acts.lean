/-! WHAT A TEXT OF THE ASSIZE LEAVES AS IT WAS -/
section
variable {α : Type} {t : Nat → Int} {k : Nat} {r : α}
theorem rdW_i {x : Int} {K : Nat → Nat ⊕ α} (h : rdW t k x K = .inr r) : t k = x ∧ K (k + 1) = .inr r := by
  by_cases q : t k = x
  · rw [rdW_y q] at h; exact ⟨q, h⟩
  · rw [rdW_n q] at h; exact nomatch h
theorem rdN_i {lo hi : Int} {K : Int → Nat → Nat ⊕ α} (h : rdN t k lo hi K = .inr r) : (lo ≤ t k ∧ t k ≤ hi) ∧ K (t k - lo) (k + 1) = .inr r := by
  by_cases q : lo ≤ t k ∧ t k ≤ hi
  · rw [rdN_y q.1 q.2] at h; exact ⟨q, h⟩
  · rw [rdN_n q] at h; exact nomatch h
theorem rdM_i {x hi y : Int} {K : Int → Nat → Nat ⊕ α} (h : rdM t k x hi y K = .inr r) : ∃ v k', K v k' = .inr r := by
  by_cases q : t k = x
  · rw [rdM_y q] at h; exact ⟨_, _, (rdN_i h).2⟩
  · rw [rdM_n q] at h; exact ⟨_, _, h⟩
end
def AsB (w w' : Nat → Int) : Prop := (∀ i, i = 2 ∨ i = 3 ∨ i = 6 ∨ i = 7 ∨ 156 ≤ i → w' i = w i) ∧ (0 ≤ w' 0 ∧ w' 0 ≤ 5) ∧ (0 ≤ w' 1 ∧ w' 1 ≤ 8)
theorem AsB.tr {w1 w2 w3 : Nat → Int} (a : AsB w1 w2) (b : AsB w2 w3) : AsB w1 w3 := ⟨fun i hi => (b.1 i hi).trans (a.1 i hi), b.2⟩
theorem AsB.up {w : Nat → Int} {i : Nat} {v : Int} (h0 : 0 ≤ w 0 ∧ w 0 ≤ 5) (h1 : 0 ≤ w 1 ∧ w 1 ≤ 8) (hi : i ≠ 0 ∧ i ≠ 1 ∧ i ≠ 2 ∧ i ≠ 3 ∧ i ≠ 6 ∧ i ≠ 7 ∧ i < 156) : AsB w (updW w i v) := ⟨fun j hj => updW_n (by omega), by rw [updW_n (by omega)]; exact h0, by rw [updW_n (by omega)]; exact h1⟩
theorem asLine_B {t w w1 : Nat → Int} {k k1 : Nat} (h0 : 0 ≤ w 0 ∧ w 0 ≤ 5) (h1 : 0 ≤ w 1 ∧ w 1 ≤ 8) (h : asLine t w k = .inr (k1, w1)) : AsB w w1 := by
  unfold asLine at h
  by_cases q1 : t k = 1000
  · rw [if_pos q1] at h
    by_cases q : 5 ≤ w 0
    · rw [if_pos q] at h; exact nomatch h
    · rw [if_neg q] at h
      replace h := (rdN_i (rdW_i (rdN_i (rdW_i h).2).2).2).2
      obtain ⟨v, k2, h⟩ := rdM_i h
      obtain ⟨v2, k3, h⟩ := rdM_i h
      cases h
      unfold AsB jdW
      refine ⟨fun i hi => ?_, ?_, ?_⟩
      · rw [if_neg (by omega), if_neg (by omega), if_neg (by omega), if_neg (by omega), if_neg (by omega)]
      · rw [if_pos rfl]; omega
      · rw [if_neg (by omega), if_neg (by omega), if_neg (by omega), if_neg (by omega), if_neg (by omega)]; exact h1
  rw [if_neg q1] at h
  by_cases q2 : t k = 1012
  · rw [if_pos q2] at h
    by_cases q : 8 ≤ w 1
    · rw [if_pos q] at h; exact nomatch h
    · rw [if_neg q] at h
      replace h := (rdN_i (rdW_i (rdN_i h).2).2).2
      obtain ⟨v, k2, h⟩ := rdM_i h
      obtain ⟨v2, k3, h⟩ := rdM_i h
      cases h
      unfold AsB csW
      refine ⟨fun i hi => ?_, ?_, ?_⟩
      · rw [if_neg (by omega), if_neg (by omega), if_neg (by omega), if_neg (by omega), if_neg (by omega), if_neg (by omega), if_neg (by omega), if_neg (by omega)]
      · rw [if_neg (by omega), if_neg (by omega), if_neg (by omega), if_neg (by omega), if_neg (by omega), if_neg (by omega), if_neg (by omega), if_neg (by omega)]; exact h0
      · rw [if_pos rfl]; omega
  rw [if_neg q2] at h
  by_cases q3 : t k = 1013
  · rw [if_pos q3] at h
    obtain ⟨b1, h⟩ := rdN_i h
    obtain ⟨b2, h⟩ := rdN_i h
    split at h
    · cases h
      exact AsB.up h0 h1 (by omega)
    · exact nomatch h
  rw [if_neg q3] at h
  by_cases q4 : t k = 1014
  · rw [if_pos q4] at h
    obtain ⟨b1, h⟩ := rdN_i h
    obtain ⟨b2, h⟩ := rdN_i h
    cases h
    exact AsB.up h0 h1 (by omega)
  rw [if_neg q4] at h
  by_cases q5 : t k = 1006
  · rw [if_pos q5] at h
    obtain ⟨b1, h⟩ := rdN_i h
    cases h
    exact AsB.up h0 h1 (by omega)
  rw [if_neg q5] at h
  by_cases q6 : t k = 1015
  · rw [if_pos q6] at h
    obtain ⟨b1, h⟩ := rdN_i h
    cases h
    exact AsB.up h0 h1 (by omega)
  rw [if_neg q6] at h
  exact nomatch h
theorem asAll_B {t : Nat → Int} : ∀ (m : Nat) (w w1 : Nat → Int) (k : Nat), (0 ≤ w 0 ∧ w 0 ≤ 5) → (0 ≤ w 1 ∧ w 1 ≤ 8) → asAll t m w k = .inr w1 → AsB w w1 := by
  intro m
  induction m with
  | zero => intro w w1 k _ _ h; exact nomatch h
  | succ m ih =>
    intro w w1 k h0 h1 h
    cases hq : asLine t w k with
    | inl f => rw [asAll_f hq] at h; exact nomatch h
    | inr R =>
      obtain ⟨k2, w2⟩ := R
      have b := asLine_B h0 h1 hq
      by_cases q1 : t k2 = -1
      · rw [asAll_e hq q1] at h; cases h; exact b
      · by_cases q2 : t k2 = 2059
        · rw [asAll_s hq q1 q2] at h
          exact b.tr (ih _ _ _ b.2.1 b.2.2 h)
        · rw [asAll_n hq q1 q2] at h; exact nomatch h
theorem asText_B {t w w1 : Nat → Int} (hf : WF w) (h : asText t w = .inr w1) : AsB w w1 := by
  unfold asText at h
  by_cases q : t 0 = -1
  · rw [if_pos q] at h; cases h; exact ⟨fun _ _ => rfl, hf.jud, hf.cas⟩
  · rw [if_neg q] at h; exact asAll_B 14 _ _ _ hf.jud hf.cas h
theorem AsB.same {w w' : Nat → Int} (b : AsB w w') : SameL w w' := fun i hi => b.1 i (by omega)
/-- a text more -/
theorem Tw.ute {h : Hc} {t : Nat} {w : Nat → Int} {v : Int} (q : Tw h t w) : Tw (updH h t 2 v) t (updW w 2 v) := by
  obtain ⟨⟨q0, q1, q2, q3, q4, q5⟩, q6, q7, q8, q9, q10, q11, q12, q13, q14⟩ := q
  refine ⟨⟨(by rw [updH_i (by omega), updW_n (by omega)]; exact q0), (by rw [updH_i (by omega), updW_n (by omega)]; exact q1), (by rw [updH_s, updW_s]), (by rw [updH_i (by omega), updW_n (by omega)]; exact q3), (by rw [updH_i (by omega), updW_n (by omega)]; exact q4), (by rw [updH_i (by omega), updW_n (by omega)]; exact q5)⟩, fun j hj => ⟨(by rw [updH_a (by omega), updW_n (by omega)]; exact (q6 j hj).1), (by rw [updH_a (by omega), updW_n (by omega)]; exact (q6 j hj).2.1), (by rw [updH_a (by omega), updW_n (by omega)]; exact (q6 j hj).2.2.1), (by rw [updH_a (by omega), updW_n (by omega)]; exact (q6 j hj).2.2.2)⟩,
    fun c hc => ⟨(by rw [updH_a (by omega), updW_n (by omega)]; exact (q7 c hc).1), (by rw [updH_a (by omega), updW_n (by omega)]; exact (q7 c hc).2.1), (by rw [updH_a (by omega), updW_n (by omega)]; exact (q7 c hc).2.2.1), (by rw [updH_a (by omega), updW_n (by omega)]; exact (q7 c hc).2.2.2)⟩,
    fun c hc => ?_, fun c hc hc2 => ?_, fun p hp => (by rw [updH_a (by omega), updW_n (by omega)]; exact q10 p hp), fun k hk => (by rw [updH_a (by omega), updW_n (by omega)]; exact q11 k hk), (by rw [updH_a (by omega), updW_n (by omega)]; exact q12), ?_, ?_⟩
  · rw [updW_n (by omega)] at hc
    exact ⟨(by rw [updH_a (by omega), updW_n (by omega)]; exact (q8 c hc).1), (by rw [updH_a (by omega), updW_n (by omega)]; exact (q8 c hc).2.1), (by rw [updH_a (by omega), updW_n (by omega)]; exact (q8 c hc).2.2)⟩
  · rw [updW_n (by omega)] at hc2
    exact ⟨(by rw [updH_a (by omega)]; exact (q9 c hc hc2).1), (by rw [updH_a (by omega)]; exact (q9 c hc hc2).2)⟩
  · rw [updH_a (by omega)]; exact q13
  · intro ago i h1 h2
    rw [updW_n (by omega)] at h1
    rw [updH_a (by omega), updH_a (by omega), updW_n (by omega), updW_n (by omega)]
    exact q14 ago i h1 h2
theorem WF.ute {w : Nat → Int} {v : Int} (f : WF w) (hv : 0 ≤ v ∧ v ≤ 12) : WF (updW w 2 v) := by
  refine ⟨?_, ?_, ?_, ?_, ?_, ?_, ?_, ?_, ?_, ?_, ?_, ?_, ?_, ?_, ?_, ?_, ?_⟩
  · exact by rw [updW_n (by omega)]; exact f.jud
  · exact by rw [updW_n (by omega)]; exact f.cas
  · exact by rw [updW_s]; exact hv
  · exact by rw [updW_n (by omega)]; exact f.law
  · exact by rw [updW_n (by omega)]; exact f.hou
  · exact by rw [updW_n (by omega)]; exact f.day
  · exact by rw [updW_n (by omega)]; exact f.log
  · exact by rw [updW_n (by omega)]; exact f.see
  · exact fun k hk => by rw [updW_n (by omega)]; exact f.inn k hk
  · exact fun p hp => by rw [updW_n (show 20 + p ≠ _ by omega), updW_n (show 1 ≠ _ by omega)]; exact f.pla p hp
  · exact fun p q hp hq h1 h2 => by rw [updW_n (show 20 + p ≠ _ by omega)] at h1 h2; rw [updW_n (show 20 + q ≠ _ by omega)] at h1; exact f.one p q hp hq h1 h2
  · exact fun p hp h1 => by rw [updW_n (show 0 ≠ _ by omega)] at h1; rw [updW_n (show 20 + p ≠ _ by omega)]; exact f.out p hp h1
  · exact fun j hj => by rw [updW_n (by omega), updW_n (by omega), updW_n (by omega), updW_n (by omega)]; exact f.jof j hj
  · exact fun c hc => by rw [updW_n (by omega), updW_n (by omega), updW_n (by omega), updW_n (by omega), updW_n (by omega), updW_n (by omega), updW_n (by omega)]; exact f.cof c hc
  · exact fun c h1 => by rw [updW_n (show 1 ≠ _ by omega)] at h1; have := f.cas; rw [updW_n (by omega)]; exact f.lea c h1
  · exact fun c hc h1 => by rw [updW_n (show 1 ≠ _ by omega)] at h1; rw [updW_n (by omega)]; exact f.wai c hc h1
  · exact fun r i hr hi => by rw [updW_n (by omega)]; exact f.row r i hr hi
abbrev FrLL (X : Nat) (a : Nat) : Prop := a = X + 1 ∨ a = X + 3 ∨ a = X + 4 ∨ (X + 59 ≤ a ∧ a < X + 65)
def LlC (h : Hc) (X : Nat) (b : Nat → Int) (L : Nat) (v : Int) (R : Nat ⊕ LsT) : Prop := (v = 1 ∧ h (X + 1) 5 = -1 ∧ ∃ u n c, R = .inr (u, n, c) ∧ LwD h (X + 59) u n c ∧ n ≤ 12 ∧ c ≤ 400) ∨ (v = 0 ∧ ∃ f, R = .inl f ∧ Wr h X b L f)
theorem MvL.fr {X : Nat} {h h' : Hc} (p : MvL X h h') : Off (FrLL X) h h' := fun a ha => funext fun i => p a i (fun q => ha (Or.inl q.1)) (fun q => ha (Or.inr (Or.inr (Or.inr q))))
set_option maxHeartbeats 400000 in
theorem C_X9_readAll_l {d : Nat} {g : Gs} {h : Hc} {P : Po} {X : Nat} {b : Nat → Int} {L : Nat} (hG : ClG g X) (hL : L ≤ 400) (hB : ∀ k, k < L → h (X + 2) k = b k) (hB0 : ∀ k, k < L → 0 ≤ b k ∧ b k ≤ 255) (hN : h (X + 1) 3 = (L : Int)) (hD : LwD h (X + 59) (fun _ => 0) 0 0) (h12 : h (X + 72) 1 = 12) (K : ∀ h' (v : Int), Off (FrLL X) h h' → h' (X + 1) 3 = 0 → LlC h' X b L v (lawTx (thT b L)) → P (.inl (some (vI v))) g h') : Call (d + 19) 0 0 mX9_readAll [vR (X + 72)] g h P := by
  refine Call_of rfl ⟨by decide +kernel, rfl⟩ (Nat.le_of_ble_eq_true rfl) rfl ?_
  refine aL0 dX9_readAll_0 ?_
  refine R_getR dX9_readAll_1 fX9_7_3.r hG.lwt rfl ?_
  refine invV0 rfl dX9_readAll_4 kX9_17 hG.tape (Nat.le_of_ble_eq_true rfl) (Nat.zero_le _) (Nat.zero_le _) (C_X8_open hG hL hB hB0 hN (fun h1 N o1 l1 x1 T1 => konV ?_))
  have hD1 : LwD h1 (X + 59) (fun _ => 0) 0 0 := hD.off o1 (fun i hi => by omega)
  refine aL0 dX9_readAll_7 ?_
  refine R_getR dX9_readAll_8 fX9_7_3.r hG.lwt rfl ?_
  refine invV0 rfl dX9_readAll_11 kX9_22 hG.tape (Nat.le_of_ble_eq_true rfl) (Nat.zero_le _) (Nat.zero_le _) (C_X8_here hG T1 (konI ?_))
  refine R_iconst_m1 dX9_readAll_14 ?_
  refine R_icmp_ne dX9_readAll_15 (fun hb15 => ?_) (fun hb15 => ?_)
  · have h0 : ¬ thT b L 0 = -1 := by omega
    have hA : lawTx (thT b L) = lawAll (thT b L) 12 (fun _ => 0) 0 0 0 := if_neg h0
    refine R_iconst_0 dX9_readAll_20 ?_
    refine iS1 dX9_readAll_21 ?_
    refine loopN 12 (fun n => ∀ (hh : Hc) (u : Nat → Int) (c k : Nat), Off (FrLL X) h hh → hh (X + 1) 3 = 0 → TpC hh X b L N k → LwD hh (X + 59) u n c → c ≤ k → lawAll (thT b L) (12 - n) u n c k = lawAll (thT b L) 12 (fun _ => 0) 0 0 0 → Run (d + 19) 0 0 mX9_readAll 22 [vR (X + 72), vI ((n : Nat) : Int)] [] g hh P) (fun n hcn ihn hh u c k hof hl T2 hD2 hck hR => ?_) 0 (Nat.zero_le _) h1 (fun _ => 0) 0 0 (o1.mono (fun a ha => by unfold FrLL; omega)) l1 T1 hD1 (Nat.le_refl _) rfl
    refine iL1 dX9_readAll_22 ?_
    refine aL0 dX9_readAll_23 ?_
    refine R_getI dX9_readAll_24 fX9_13_3.r hG.lwt ?_
    refine topV (v := 12) (by rw [hof _ (by unfold FrLL; omega)]; exact h12) ?_
    refine R_icmp_ge dX9_readAll_27 (fun hb27 => ?_) (fun hb27 => ?_)
    · refine aL0 dX9_readAll_73 ?_
      refine R_getR dX9_readAll_74 fX9_7_3.r hG.lwt rfl ?_
      refine invV0 rfl dX9_readAll_77 kX9_34 hG.tape (Nat.le_of_ble_eq_true rfl) (Nat.zero_le _) (Nat.zero_le _) (C_X8_refuse hG T2 (fun h4 m4 w4 => konI ?_))
      have hof4 := hof.tr m4.l.fr
      have l4 : h4 (X + 1) 3 = 0 := (m4 (X + 1) 3 (by omega)).trans hl
      exact R_zret dX9_readAll_80 rfl (by decide) (K _ _ hof4 l4 (Or.inr ⟨rfl, k, by rw [hA, ← hR, show 12 - n = 0 by omega]; rfl, w4⟩))
    · have hm : 12 - n = (11 - n) + 1 := by omega
      refine aL0 dX9_readAll_30 ?_
      refine invU0 rfl dX9_readAll_31 kX9_26_3 hG.lwt (Nat.le_of_ble_eq_true rfl) (Nat.zero_le _) (Nat.zero_le _) (C_X3_readLine hG T2 hD2 hck (by omega) (fun h3 v3 m3 q3 => konI ?_))
      have hof3 := hof.tr m3.fr
      have l3 : h3 (X + 1) 3 = 0 := (m3 (X + 1) 3 (by omega) (by omega)).trans hl
      refine R_if_ne dX9_readAll_34 (fun hb34 => ?_) (fun hb34 => ?_)
      · rcases q3 with ⟨e3, u3, c3, k3, r3, T3, hD3⟩ | ⟨e3, f3, r3, w3⟩
        rotate_left
        · exfalso; omega
        obtain ⟨z1, z2, z3⟩ := lawLn_le r3
        have y1 := T3.2.1
        have y2 := T3.1
        refine aL0 dX9_readAll_39 ?_
        refine R_getR dX9_readAll_40 fX9_7_3.r hG.lwt rfl ?_
        refine invV0 rfl dX9_readAll_43 kX9_22 hG.tape (Nat.le_of_ble_eq_true rfl) (Nat.zero_le _) (Nat.zero_le _) (C_X8_here hG T3 (konI ?_))
        refine R_iconst_m1 dX9_readAll_46 ?_
        refine R_icmp_ne dX9_readAll_47 (fun hb47 => ?_) (fun hb47 => ?_)
        · refine aL0 dX9_readAll_52 ?_
          refine R_getR dX9_readAll_53 fX9_7_3.r hG.lwt rfl ?_
          refine R_sipush dX9_readAll_56 (by decide) ?_
          refine invV1 rfl dX9_readAll_59 kX9_30 hG.tape (Nat.le_of_ble_eq_true rfl) (Nat.zero_le _) (Nat.zero_le _) (C_X8_need hG T3 (x := 2059) (by decide) (fun h4 v4 m4 q4 => konI ?_))
          have hof4 := hof3.tr m4.l.fr
          have l4 : h4 (X + 1) 3 = 0 := (m4 (X + 1) 3 (by omega)).trans l3
          refine R_if_ne dX9_readAll_62 (fun hb62 => ?_) (fun hb62 => ?_)
          · rcases q4 with ⟨a4, b4, T4⟩ | ⟨a4, b4, w4⟩
            rotate_left
            · exfalso; omega
            refine iInc1 dX9_readAll_67 (winc (by omega)) ?_
            refine R_goto dX9_readAll_70 ?_
            exact ihn (by omega) h4 u3 c3 (k3 + 1) hof4 l4 T4 (hD3.mv m4) (by omega) (by rw [← hR, hm, lawAll_m r3 (by omega) a4, show 12 - (n + 1) = 11 - n by omega])
          · rcases q4 with ⟨a4, b4, T4⟩ | ⟨a4, b4, w4⟩
            · exfalso; omega
            refine R_iconst_0 dX9_readAll_65 ?_
            exact R_zret dX9_readAll_66 rfl (by decide) (K _ _ hof4 l4 (Or.inr ⟨rfl, k3, by rw [hA, ← hR, hm]; exact lawAll_n r3 (by omega) a4, w4⟩))
        · refine R_iconst_1 dX9_readAll_50 ?_
          exact R_zret dX9_readAll_51 rfl (by decide) (K _ _ hof3 l3 (Or.inl ⟨rfl, T3.w5, u3, n + 1, c3, by rw [hA, ← hR, hm]; exact lawAll_e r3 (by omega), hD3, by omega, by omega⟩))
      · rcases q3 with ⟨e3, u3, c3, k3, r3, T3, hD3⟩ | ⟨e3, f3, r3, w3⟩
        · exfalso; omega
        refine R_iconst_0 dX9_readAll_37 ?_
        exact R_zret dX9_readAll_38 rfl (by decide) (K _ _ hof3 l3 (Or.inr ⟨rfl, f3, by rw [hA, ← hR, hm]; exact lawAll_f r3, w3⟩))
  · refine R_iconst_1 dX9_readAll_18 ?_
    exact R_zret dX9_readAll_19 rfl (by decide) (K _ _ (o1.mono (fun a ha => by unfold FrLL; omega)) l1 (Or.inl ⟨rfl, T1.w5, _, 0, 0, if_pos (by omega), hD1, by decide, by decide⟩))
/-- the class's object: all but where the first wrong thing stood -/
abbrev Ob (X : Nat) (h h' : Hc) : Prop := ∀ i, i ≠ 15 → h' X i = h X i
set_option maxHeartbeats 1000000 in
theorem C_X11_assize {d : Nat} {g : Gs} {h : Hc} {P : Po} {X : Nat} {b : Nat → Int} {L : Nat} (hG : ClG g X) (hL : L ≤ 400) (hB : ∀ k, k < L → h (X + 2) k = b k) (hB0 : ∀ k, k < L → 0 ≤ b k ∧ b k ≤ 255) (hN : h (X + 1) 3 = (L : Int)) {w : Nat → Int} (hw : Tw h (X + 5) w) (hf : WF w) (h14 : h (X + 71) 1 = 14) {n : Nat} {A : Nat → Nat → Int} (hP : Pa h (X + 87) A n) (KE1 : ∀ h' f, Off (fun a => a = X ∨ FrA X a) h h' → Ob X h h' → h' (X + 1) 3 = 0 → asText (thT b L) w = .inl f → h' X 15 = ((stT b L f : Nat) : Int) → P (.inr xIA) g h') (KE2 : ∀ h' w', Off (fun a => a = X ∨ FrA X a) h h' → Ob X h h' → h' (X + 1) 3 = 0 → asText (thT b L) w = .inr w' → 12 ≤ w' 2 → h' X 15 = -1 → P (.inr xUO) g h') (K1 : ∀ h' w', Off (fun a => a = X ∨ FrA X a ∨ (X + 5 ≤ a ∧ a < X + 21) ∨ a = X + 87) h h' → Ob X h h' → h' (X + 1) 3 = 0 → asText (thT b L) w = .inr w' → ¬ 12 ≤ w' 2 → WF (updW w' 2 (w' 2 + 1)) → Tw h' (X + 5) (updW w' 2 (w' 2 + 1)) → Pa h' (X + 87) A 0 → h' X 15 = -1 → P (.inl (some (vI (w' 2 + 1)))) g h') : Call (d + 8) 1 6 mX11_assize [vR X] g h P := by
  refine Call_of rfl ⟨by decide +kernel, rfl⟩ (Nat.le_of_ble_eq_true rfl) rfl ?_
  refine aL0 dX11_assize_0 ?_
  refine R_getR dX11_assize_1 fX11_23.r hG.o rfl ?_
  refine aL0 dX11_assize_4 ?_
  refine R_getR dX11_assize_5 fX11_19.r hG.o rfl ?_
  refine invV1 rfl dX11_assize_8 kX11_110 hG.drf.o (Nat.le_of_ble_eq_true rfl) (Nat.zero_le _) (Nat.zero_le _) (C_X10_copyFrom hG.drf hG.now (fun i j hi hj => by omega) (fun h1 hx1 hc1 => konV ?_))
  have hw1 : Tw h1 (X + 21) w := hw.cp hf hc1
  refine aL0 dX11_assize_11 ?_
  refine R_getR dX11_assize_12 fX11_47.r hG.o rfl ?_
  refine invU0 rfl dX11_assize_15 kX11_114_0 hG.asz (Nat.le_of_ble_eq_true rfl) (Nat.zero_le _) (Nat.zero_le _) (C_X9_readAll_a hG hL (fun k hk => by rw [hx1 _ (by omega)]; exact hB k hk) hB0 (by rw [hx1 _ (by omega)]; exact hN) hw1 hf (by rw [hx1 _ (by omega)]; exact h14) (fun h2 v2 o2 l2 q2 => konI ?_))
  have hof2 : ∀ a, ¬ FrA X a → h2 a = h a := fun a ha => by rw [o2 a ha, hx1 a (by unfold FrA at ha; omega)]
  have hob2 : ∀ i, h2 X i = h X i := fun i => by rw [hof2 X (by unfold FrA; omega)]
  refine iS1 dX11_assize_18 ?_
  refine aL0 dX11_assize_19 ?_
  refine aL0 dX11_assize_20 ?_
  refine R_getR dX11_assize_21 fX11_12.r hG.o rfl ?_
  refine R_getI dX11_assize_24 fX11_118.r hG.tape ?_
  refine R_putI dX11_assize_27 fX11_99 hG.o ?_
  refine storH (fun h21 e21 => ?_)
  refine iL1 dX11_assize_30 ?_
  refine R_if_ne dX11_assize_31 (fun hb31 => ?_) (fun hb31 => ?_)
  · rcases q2 with ⟨a2, x2, w2, r2, hwd2, hfd⟩ | ⟨a2, f2, r2, w2⟩
    rotate_left
    · exfalso; omega
    have hB2 := asText_B hf r2
    have e2 : w2 2 = w 2 := hB2.1 2 (by omega)
    have htx := hf.tex
    have hwn : Tw h21 (X + 5) w := (hw.off (S := fun a => ¬ (X + 5 ≤ a ∧ a < X + 21)) (fun a ha => by rw [e21, updH_a (by omega), hof2 a (by unfold FrA; omega)]) (fun i hi => by omega))
    have hwd : Tw h21 (X + 21) w2 := by rw [e21]; exact hwd2.off ((Off.rf (fun a => a = X) _).upd rfl) (fun i hi => by omega)
    refine aL0 dX11_assize_42 ?_
    refine R_getR dX11_assize_43 fX11_19.r hG.o rfl ?_
    refine R_getI dX11_assize_46 fX11_124.r hG.now.o ?_
    refine topV (v := w 2) (hwn.s2) ?_
    refine R_bipush dX11_assize_49 (by decide) ?_
    refine R_icmp_lt dX11_assize_51 (fun hb51 => ?_) (fun hb51 => ?_)
    · refine aL0 dX11_assize_62 ?_
      refine R_getR dX11_assize_63 fX11_23.r hG.o rfl ?_
      refine dupR dX11_assize_66 ?_
      refine R_getI dX11_assize_67 fX11_124.r hG.drf.o ?_
      refine topV (v := w2 2) (hwd.s2) ?_
      refine R_iconst_1 dX11_assize_70 ?_
      refine addV dX11_assize_71 (wid (by omega) (by omega)) ?_
      refine R_putI dX11_assize_72 fX11_124 hG.drf.o ?_
      refine storH (fun h22 e22 => ?_)
      have hwe : Tw h22 (X + 21) (updW w2 2 (w2 2 + 1)) := by rw [e22]; exact hwd.ute
      have hfe : WF (updW w2 2 (w2 2 + 1)) := hfd.ute (by omega)
      have hPd : Pa h22 (X + 87) A n := hP.off (S := fun a => ¬ (X + 87 ≤ a)) (fun a ha => by rw [e22, updH_a (by omega), e21, updH_a (by omega), hof2 a (by unfold FrA; omega)]) (fun a ha => by unfold pas; omega)
      refine aL0 dX11_assize_75 ?_
      refine R_getR dX11_assize_76 fX11_19.r hG.o rfl ?_
      refine aL0 dX11_assize_79 ?_
      refine R_getR dX11_assize_80 fX11_23.r hG.o rfl ?_
      refine invV1 rfl dX11_assize_83 kX11_110 hG.now.o (Nat.le_of_ble_eq_true rfl) (Nat.zero_le _) (Nat.zero_le _) (C_X10_copyFrom hG.now hG.drf (fun i j hi hj => by omega) (fun h3 hx3 hc3 => konV ?_))
      have hw3 : Tw h3 (X + 5) (updW w2 2 (w2 2 + 1)) := hwe.cp hfe hc3
      have hP3 := (hPd.off hx3 (fun a ha => by unfold pas; omega))
      refine aL0 dX11_assize_86 ?_
      refine R_getR dX11_assize_87 fX11_91.r hG.o rfl ?_
      refine invV0 rfl dX11_assize_90 kX11_130 hG.past.1 (Nat.le_of_ble_eq_true rfl) (Nat.zero_le _) (Nat.zero_le _) (C_X6_forget hG.past hP3 (fun h4 hx4 hP4 => konV ?_))
      have hw4 : Tw h4 (X + 5) (updW w2 2 (w2 2 + 1)) := hw3.off hx4 (fun i hi => by omega)
      refine aL0 dX11_assize_93 ?_
      refine R_getR dX11_assize_94 fX11_19.r hG.o rfl ?_
      refine R_getI dX11_assize_97 fX11_124.r hG.now.o ?_
      refine topV (v := updW w2 2 (w2 2 + 1) 2) (hw4.s2) ?_
      exact R_iret dX11_assize_100 rfl (PeqI (K1 _ w2 (fun a ha => by rw [hx4 a (by unfold FrA at ha; omega), hx3 a (by unfold FrA at ha; omega), e22, updH_a (by unfold FrA at ha; omega), e21, updH_a (by unfold FrA at ha; omega), hof2 a (by unfold FrA at ha ⊢; omega)]) (fun i hi => by rw [hx4 X (by omega), hx3 X (by omega), e22, updH_a (by omega), e21, updH_i hi, hob2]) (by rw [hx4 _ (by omega), hx3 _ (by omega), e22, updH_a (by omega), e21, updH_a (by omega)]; exact l2) r2 (by omega) hfe hw4 hP4 (by rw [hx4 X (by omega), hx3 X (by omega), e22, updH_a (by omega), e21, updH_s]; exact x2)) (updW_s _ _ _))
    · exact R_throw rfl dX11_assize_54 dX11_assize_57 dX11_assize_58 dX11_assize_61 tX11_127 hG.one (Nat.le_of_ble_eq_true rfl) (by decide) (by decide) (KE2 _ w2 (fun a ha => by rw [e21, updH_a (by unfold FrA at ha; omega), hof2 a (by unfold FrA at ha ⊢; omega)]) (fun i hi => by rw [e21, updH_i hi, hob2]) (by rw [e21, updH_a (by omega)]; exact l2) r2 (by omega) (by rw [e21, updH_s]; exact x2))
  · rcases q2 with ⟨a2, x2, w2, r2, hwd2, hfd⟩ | ⟨a2, f2, r2, w2⟩
    · exfalso; omega
    exact R_throw rfl dX11_assize_34 dX11_assize_37 dX11_assize_38 dX11_assize_41 tX11_121 hG.one (Nat.le_of_ble_eq_true rfl) (by decide) (by decide) (KE1 _ f2 (fun a ha => by rw [e21, updH_a (by unfold FrA at ha; omega), hof2 a (by unfold FrA at ha ⊢; omega)]) (fun i hi => by rw [e21, updH_i hi, hob2]) (by rw [e21, updH_a (by omega)]; exact l2) r2 (by rw [e21, updH_s]; exact w2))
/-- rules copied: their lines and steps -/
def LwR (h : Hc) (r : Nat) (u : Nat → Int) (n c : Nat) : Prop := h r 0 = (n : Int) ∧ (∀ i, i < c → h (r + 4) i = u i) ∧ ∀ i, i < n → h (r + 1) i = u (400 + 3 * i) ∧ h (r + 2) i = u (401 + 3 * i) ∧ h (r + 3) i = u (402 + 3 * i)
theorem LwD.cq {h h' : Hc} {r s : Nat} {u : Nat → Int} {n c : Nat} (q : ∃ h0, LwD h0 s u n c ∧ (∀ i, i < 5 → h (s + i) = h0 (s + i))) (hn : n ≤ 12) (hc : c ≤ 400) (c0 : h' r 0 = h s 0) (c1 : ∀ i, 0 < i → i < 5 → ∀ k, k < lLen.getD i 0 → h' (r + i) k = h (s + i) k) : LwR h' r u n c := by
  obtain ⟨h0, ⟨q0, q1, q2, q3⟩, e⟩ := q
  have e0 : h s = h0 s := e 0 (by decide)
  refine ⟨by rw [c0, e0]; exact q0, fun i hi => ?_, fun i hi => ⟨?_, ?_, ?_⟩⟩
  · rw [c1 4 (by decide) (by decide) i (by show i < 400; omega), e 4 (by decide)]; exact q2 i hi
  · rw [c1 1 (by decide) (by decide) i (by show i < 12; omega), e 1 (by decide)]; exact (q3 i hi).1
  · rw [c1 2 (by decide) (by decide) i (by show i < 12; omega), e 2 (by decide)]; exact (q3 i hi).2.1
  · rw [c1 3 (by decide) (by decide) i (by show i < 12; omega), e 3 (by decide)]; exact (q3 i hi).2.2
set_option maxHeartbeats 1000000 in
theorem C_X11_law {d : Nat} {g : Gs} {h : Hc} {P : Po} {X : Nat} {b : Nat → Int} {L : Nat} (hG : ClG g X) (hL : L ≤ 400) (hB : ∀ k, k < L → h (X + 2) k = b k) (hB0 : ∀ k, k < L → 0 ≤ b k ∧ b k ≤ 255) (hN : h (X + 1) 3 = (L : Int)) (h12 : h (X + 72) 1 = 12) {n : Nat} {A : Nat → Nat → Int} (hP : Pa h (X + 87) A n) (KE1 : ∀ h' f, Off (fun a => a = X ∨ FrLL X a) h h' → Ob X h h' → h' (X + 1) 3 = 0 → lawTx (thT b L) = .inl f → h' X 15 = ((stT b L f : Nat) : Int) → P (.inr xIA) g h') (K1 : ∀ h' u m c, Off (fun a => a = X ∨ FrLL X a ∨ (X + 53 ≤ a ∧ a < X + 58) ∨ a = X + 87) h h' → Ob X h h' → h' (X + 1) 3 = 0 → lawTx (thT b L) = .inr (u, m, c) → m ≤ 12 → c ≤ 400 → LwR h' (X + 53) u m c → Pa h' (X + 87) A 0 → h' X 15 = -1 → P (.inl (some (vI ((m : Nat) : Int)))) g h') : Call (d + 20) 1 6 mX11_law [vR X] g h P := by
  refine Call_of rfl ⟨by decide +kernel, rfl⟩ (Nat.le_of_ble_eq_true rfl) rfl ?_
  refine aL0 dX11_law_0 ?_
  refine R_getR dX11_law_1 fX11_36.r hG.o rfl ?_
  refine invV0 rfl dX11_law_4 kX11_133 hG.ru2.o (Nat.le_of_ble_eq_true rfl) (Nat.zero_le _) (Nat.zero_le _) (C_X2_clear hG.ru2 (u := fun _ => 0) (fun h1 hx1 hD1 => konV ?_))
  refine aL0 dX11_law_7 ?_
  refine R_getR dX11_law_8 fX11_56.r hG.o rfl ?_
  refine invU0 rfl dX11_law_11 kX11_136_3 hG.lwt (Nat.le_of_ble_eq_true rfl) (Nat.zero_le _) (Nat.zero_le _) (C_X9_readAll_l hG hL (fun k hk => by rw [hx1 _ (by omega)]; exact hB k hk) hB0 (by rw [hx1 _ (by omega)]; exact hN) hD1 (by rw [hx1 _ (by omega)]; exact h12) (fun h2 v2 o2 l2 q2 => konI ?_))
  have hof2 : ∀ a, ¬ FrLL X a → h2 a = h a := fun a ha => by rw [o2 a ha, hx1 a (by unfold FrLL at ha; omega)]
  have hob2 : ∀ i, h2 X i = h X i := fun i => by rw [hof2 X (by unfold FrLL; omega)]
  refine iS1 dX11_law_14 ?_
  refine aL0 dX11_law_15 ?_
  refine aL0 dX11_law_16 ?_
  refine R_getR dX11_law_17 fX11_12.r hG.o rfl ?_
  refine R_getI dX11_law_20 fX11_118.r hG.tape ?_
  refine R_putI dX11_law_23 fX11_99 hG.o ?_
  refine storH (fun h21 e21 => ?_)
  refine iL1 dX11_law_26 ?_
  refine R_if_ne dX11_law_27 (fun hb27 => ?_) (fun hb27 => ?_)
  · rcases q2 with ⟨a2, x2, u2, n2, c2, r2, hD2, hn2, hc2⟩ | ⟨a2, f2, r2, w2⟩
    rotate_left
    · exfalso; omega
    refine aL0 dX11_law_38 ?_
    refine R_getR dX11_law_39 fX11_32.r hG.o rfl ?_
    refine aL0 dX11_law_42 ?_
    refine R_getR dX11_law_43 fX11_36.r hG.o rfl ?_
    refine invV1 rfl dX11_law_46 kX11_137 hG.rul.o (Nat.le_of_ble_eq_true rfl) (Nat.zero_le _) (Nat.zero_le _) (C_X2_copyFrom hG.rul hG.ru2 (fun i j hi hj => by omega) (fun h3 hx3 hc3 hd3 => konV ?_))
    have hP3 : Pa h3 (X + 87) A n := hP.off (S := fun a => ¬ (X + 87 ≤ a)) (fun a ha => by rw [hx3 a (by omega), e21, updH_a (by omega), hof2 a (by unfold FrLL; omega)]) (fun a ha => by unfold pas; omega)
    refine aL0 dX11_law_49 ?_
    refine R_getR dX11_law_50 fX11_91.r hG.o rfl ?_
    refine invV0 rfl dX11_law_53 kX11_130 hG.past.1 (Nat.le_of_ble_eq_true rfl) (Nat.zero_le _) (Nat.zero_le _) (C_X6_forget hG.past hP3 (fun h4 hx4 hP4 => konV ?_))
    refine aL0 dX11_law_56 ?_
    refine R_getR dX11_law_57 fX11_32.r hG.o rfl ?_
    refine R_getI dX11_law_60 fX11_140.r hG.rul.o ?_
    refine topV (v := ((n2 : Nat) : Int)) ((by rw [hx4 _ (by omega), hc3, e21, updH_a (by omega)]; exact hD2.1)) ?_
    exact R_iret dX11_law_63 rfl (K1 _ u2 n2 c2 (fun a ha => by rw [hx4 a (by unfold FrLL at ha; omega), hx3 a (by unfold FrLL at ha; omega), e21, updH_a (by unfold FrLL at ha; omega), hof2 a (by unfold FrLL at ha ⊢; omega)]) (fun i hi => by rw [hx4 X (by omega), hx3 X (by omega), e21, updH_i hi, hob2]) (by rw [hx4 _ (by omega), hx3 _ (by omega), e21, updH_a (by omega)]; exact l2) r2 hn2 hc2 (LwD.cq (h := h21) (s := X + 59) ⟨h2, hD2, fun i hi => by rw [e21, updH_a (by omega)]⟩ hn2 hc2 (by rw [hx4 _ (by omega), hc3]) (fun i h0 hi k hk => by rw [hx4 _ (by omega), hd3 i h0 hi k hk])) hP4 (by rw [hx4 X (by omega), hx3 X (by omega), e21, updH_s]; exact x2))
  · rcases q2 with ⟨a2, x2, u2, n2, c2, r2, hD2, hn2, hc2⟩ | ⟨a2, f2, r2, w2⟩
    · exfalso; omega
    exact R_throw rfl dX11_law_30 dX11_law_33 dX11_law_34 dX11_law_37 tX11_121 hG.one (Nat.le_of_ble_eq_true rfl) (by decide) (by decide) (KE1 _ f2 (fun a ha => by rw [e21, updH_a (by unfold FrLL at ha; omega), hof2 a (by unfold FrLL at ha ⊢; omega)]) (fun i hi => by rw [e21, updH_i hi, hob2]) (by rw [e21, updH_a (by omega)]; exact l2) r2 (by rw [e21, updH_s]; exact w2))
